/-! THE LAW'S WRAPPERS, 4 -/
theorem dL_open_0 : decode cL_open 0 = .ok (.aload 4, 2) := dqo_25 4 (kb_of ke_L_open 0 rfl) (kb_of ke_L_open 1 rfl)
theorem dL_open_2 : decode cL_open 2 = .ok (.aload_n 0, 1) := dqo_42 (kb_of ke_L_open 2 rfl)
theorem dL_open_3 : decode cL_open 3 = .ok (.iload_n 1, 1) := dqo_27 (kb_of ke_L_open 3 rfl)
theorem dL_open_4 : decode cL_open 4 = .ok (.iload_n 2, 1) := dqo_28 (kb_of ke_L_open 4 rfl)
theorem dL_open_5 : decode cL_open 5 = .ok (.iload_n 3, 1) := dqo_29 (kb_of ke_L_open 5 rfl)
theorem dL_open_6 : decode cL_open 6 = .ok (.invokevirtual 143, 3) := dqo_182 0 143 (kb_of ke_L_open 6 rfl) (kb_of ke_L_open 7 rfl) (kb_of ke_L_open 8 rfl)
theorem dL_open_9 : decode cL_open 9 = .ok (.i2l, 1) := dqo_133 (kb_of ke_L_open 9 rfl)
theorem dL_open_10 : decode cL_open 10 = .ok (.putfield 13, 3) := dqo_181 0 13 (kb_of ke_L_open 10 rfl) (kb_of ke_L_open 11 rfl) (kb_of ke_L_open 12 rfl)
theorem dL_open_13 : decode cL_open 13 = .ok (.goto 7, 3) := dqo_167 0 7 (by decide) (kb_of ke_L_open 13 rfl) (kb_of ke_L_open 14 rfl) (kb_of ke_L_open 15 rfl)
theorem dL_open_16 : decode cL_open 16 = .ok (.astore 5, 2) := dqo_58 5 (kb_of ke_L_open 16 rfl) (kb_of ke_L_open 17 rfl)
theorem dL_open_18 : decode cL_open 18 = .ok (.iconst 1, 1) := dqo_4 (kb_of ke_L_open 18 rfl)
theorem dL_open_19 : decode cL_open 19 = .ok (.ireturn, 1) := dqo_172 (kb_of ke_L_open 19 rfl)
theorem dL_open_20 : decode cL_open 20 = .ok (.iconst 0, 1) := dqo_3 (kb_of ke_L_open 20 rfl)
theorem dL_open_21 : decode cL_open 21 = .ok (.ireturn, 1) := dqo_172 (kb_of ke_L_open 21 rfl)
theorem qcw_L_open : Cond.codeWith yL_open cL_open 6 (some .int) [(0, 13, 16, 19)] ∈ GW := gw_5 112 rfl rfl
theorem pk_L_open : PkH yL_open cL_open 6 (some .int) [(0, 13, 16, 19)] 5 := ⟨⟨qt_L_open, qz_L, qcw_L_open⟩, mh_L.1, mh_L.2, pd_47⟩
theorem pk_X2_open : PkV RX2 yX2_open cX2_open 4 (some .int) 3 := ⟨⟨qi_X2_open, qs_X2_open, qz_X2, qc_X2_open⟩, rfl, mh_X2.1, mh_X2.2, pd_28⟩
theorem W_open {l : Launch} {D : va_G} {cy : Nat → ClassId} {X : (Nat → Prop) → State → Heap → Prop} {a : Nat → Nat → Nat} {ba ra : Nat → Nat} {f : Nat → Nat → Nat} {r : Nat → Nat → Int32} {hf : Nat → Nat → Nat} {hq : Nat → Nat → Int32} {kn th : Int32} {sm : Int64} {o : Nat} {n0 : Int64} {s0 : Value} {x0 x1 x2 : Int32} (hX : EnvX X) (hN : EnvN X) (hC : CInv f) (hB : RB r) (hM : MR f r hf hq) (hp : PR l D cy X a ba ra f r hf hq kn th sm yX2_open cX2_open 4 (some .int) yX4_open cX4_open 4 (some .int) (rmk 9 4 48 420) [.int x0, .int x1, .int x2] [("java/lang/IndexOutOfBoundsException", 1)]) : CmH l D cy X yL_open cL_open 6 (some .int) [(0, 13, 16, 19)] (rmk 9 1 6 300) [.ref (a 0 0), .int x0, .int x1, .int x2, .ref o] (WC cy a f r kn ++ (WM cy ba ra hf hq kn th sm ++ [OUTo o n0 s0])) (fun v1 w1 => ∃ (f' : Nat → Nat → Nat) (r' : Nat → Nat → Int32) (k : Nat) (n1 : Int64), v1 = some (.int (nI k)) ∧ w1 = WC cy a f' r' kn ++ (WM cy ba ra hf hq kn th sm ++ [OUTo o n1 s0]) ∧ PN l D cy X ba ra hf hq kn th sm yX4_open cX4_open 4 (some .int) (rmk 9 4 48 420) [.int x0, .int x1, .int x2] cvI f' r' k n1) (fun _ => False) := by
  refine CmH.of [some (.ref (a 0 0)), some (.int x0), some (.int x1), some (.int x2), some (.ref o), none] pn_L rfl (Nat.le_of_ble_eq_true rfl) ?_
  intro p e s m args below meth c A C hE hr hnt
  refine r_aload C dL_open_0 rfl ?_
  refine r_aload_n C dL_open_2 rfl ?_
  refine r_iload_n C dL_open_3 rfl ?_
  refine r_iload_n C dL_open_4 rfl ?_
  refine r_iload_n C dL_open_5 rfl ?_
  rcases hp.two cvI (by simp) hC hB hM with ⟨E, k, hm, h1, h2⟩ | ⟨f', r', n, h1, h2⟩
  · refine c_V (st := [.ref o]) hX.stb C hE (h1 _) pk_X2_open qm_L_143 0 6 rfl rfl wc_0 rfl rfl (Nat.le_of_ble_eq_true rfl) dL_open_6 ⟨(Nat.le_of_ble_eq_true rfl), (Nat.le_of_ble_eq_true rfl)⟩ ⟨(Nat.le_of_ble_eq_true rfl), (Nat.le_of_ble_eq_true rfl)⟩ (fun _ _ h9 => h9.elim) (fun E1 hE1 => ?_)
    subst hE1
    simp only [List.mem_cons, List.not_mem_nil, or_false, Prod.mk.injEq] at hm
    obtain ⟨rfl, rfl⟩ := hm
    refine r_catch (name := "java/lang/IndexOutOfBoundsException") C [] ⟨0, 13, 16, 19⟩ [] (hnt.trans rfl) (fun z hz => absurd hz List.not_mem_nil) rfl (by decide) (C.2.2.2.2.1 _ qk_L_19) (hX.nw qca_IOB rfl hE) (fun q => ?_)
    refine r_astore C dL_open_16 (by decide) rfl ?_
    refine r_iconst (v := nI 1) C dL_open_18 (by decide) ?_
    exact r_iret C hr dL_open_19 ⟨_, _, _, _, rfl, rfl, h2 _⟩ (Nat.le_of_ble_eq_true rfl) (Nat.le_of_ble_eq_true rfl)
  · refine c_V (st := [.ref o]) hX.stb C hE (h1 _) pk_X2_open qm_L_143 0 6 rfl rfl wc_0 rfl rfl (Nat.le_of_ble_eq_true rfl) dL_open_6 ⟨(Nat.le_of_ble_eq_true rfl), (Nat.le_of_ble_eq_true rfl)⟩ ⟨(Nat.le_of_ble_eq_true rfl), (Nat.le_of_ble_eq_true rfl)⟩ (fun v9 w9 h9 => ?_) (fun _ h9 => h9.elim)
    obtain ⟨rfl, rfl⟩ := h9
    refine r_i2l C dL_open_9 ?_
    refine g_putN hX C hE qu_X3 tyX3 tyX3_ok nmX3 (ci := 7) rfl 38 outo_at 0 (by decide) qn_L_13 rfl rfl (ty := .long) rfl rfl rfl (show 0 < 2 by omega) dL_open_10 outo_set ?_
    refine r_goto (tgt := 20) C dL_open_13 (by decide) ?_
    refine r_iconst (v := nI 0) C dL_open_20 (by decide) ?_
    exact r_iret C hr dL_open_21 ⟨_, _, _, _, rfl, rfl, h2⟩ (Nat.le_of_ble_eq_true rfl) (Nat.le_of_ble_eq_true rfl)
theorem dL_shut_0 : decode cL_shut 0 = .ok (.aload_n 2, 1) := dqo_44 (kb_of ke_L_shut 0 rfl)
theorem dL_shut_1 : decode cL_shut 1 = .ok (.aload_n 0, 1) := dqo_42 (kb_of ke_L_shut 1 rfl)
theorem dL_shut_2 : decode cL_shut 2 = .ok (.iload_n 1, 1) := dqo_27 (kb_of ke_L_shut 2 rfl)
theorem dL_shut_3 : decode cL_shut 3 = .ok (.invokevirtual 146, 3) := dqo_182 0 146 (kb_of ke_L_shut 3 rfl) (kb_of ke_L_shut 4 rfl) (kb_of ke_L_shut 5 rfl)
theorem dL_shut_6 : decode cL_shut 6 = .ok (.i2l, 1) := dqo_133 (kb_of ke_L_shut 6 rfl)
theorem dL_shut_7 : decode cL_shut 7 = .ok (.putfield 13, 3) := dqo_181 0 13 (kb_of ke_L_shut 7 rfl) (kb_of ke_L_shut 8 rfl) (kb_of ke_L_shut 9 rfl)
theorem dL_shut_10 : decode cL_shut 10 = .ok (.goto 6, 3) := dqo_167 0 6 (by decide) (kb_of ke_L_shut 10 rfl) (kb_of ke_L_shut 11 rfl) (kb_of ke_L_shut 12 rfl)
theorem dL_shut_13 : decode cL_shut 13 = .ok (.astore_n 3, 1) := dqo_78 (kb_of ke_L_shut 13 rfl)
theorem dL_shut_14 : decode cL_shut 14 = .ok (.iconst 1, 1) := dqo_4 (kb_of ke_L_shut 14 rfl)
theorem dL_shut_15 : decode cL_shut 15 = .ok (.ireturn, 1) := dqo_172 (kb_of ke_L_shut 15 rfl)
theorem dL_shut_16 : decode cL_shut 16 = .ok (.iconst 0, 1) := dqo_3 (kb_of ke_L_shut 16 rfl)
theorem dL_shut_17 : decode cL_shut 17 = .ok (.ireturn, 1) := dqo_172 (kb_of ke_L_shut 17 rfl)
theorem qcw_L_shut : Cond.codeWith yL_shut cL_shut 4 (some .int) [(0, 10, 13, 19)] ∈ GW := gw_5 124 rfl rfl
theorem pk_L_shut : PkH yL_shut cL_shut 4 (some .int) [(0, 10, 13, 19)] 3 := ⟨⟨qt_L_shut, qz_L, qcw_L_shut⟩, mh_L.1, mh_L.2, pd_48⟩
theorem pk_X2_shut : PkV RX2 yX2_shut cX2_shut 3 (some .int) 1 := ⟨⟨qi_X2_shut, qs_X2_shut, qz_X2, qc_X2_shut⟩, rfl, mh_X2.1, mh_X2.2, pd_1⟩
theorem W_shut {l : Launch} {D : va_G} {cy : Nat → ClassId} {X : (Nat → Prop) → State → Heap → Prop} {a : Nat → Nat → Nat} {ba ra : Nat → Nat} {f : Nat → Nat → Nat} {r : Nat → Nat → Int32} {hf : Nat → Nat → Nat} {hq : Nat → Nat → Int32} {kn th : Int32} {sm : Int64} {o : Nat} {n0 : Int64} {s0 : Value} {x0 : Int32} (hX : EnvX X) (hN : EnvN X) (hC : CInv f) (hB : RB r) (hM : MR f r hf hq) (hp : PR l D cy X a ba ra f r hf hq kn th sm yX2_shut cX2_shut 3 (some .int) yX4_shut cX4_shut 3 (some .int) (rmk 9 4 48 420) [.int x0] [("java/lang/IndexOutOfBoundsException", 1)]) : CmH l D cy X yL_shut cL_shut 4 (some .int) [(0, 10, 13, 19)] (rmk 9 1 6 300) [.ref (a 0 0), .int x0, .ref o] (WC cy a f r kn ++ (WM cy ba ra hf hq kn th sm ++ [OUTo o n0 s0])) (fun v1 w1 => ∃ (f' : Nat → Nat → Nat) (r' : Nat → Nat → Int32) (k : Nat) (n1 : Int64), v1 = some (.int (nI k)) ∧ w1 = WC cy a f' r' kn ++ (WM cy ba ra hf hq kn th sm ++ [OUTo o n1 s0]) ∧ PN l D cy X ba ra hf hq kn th sm yX4_shut cX4_shut 3 (some .int) (rmk 9 4 48 420) [.int x0] cvI f' r' k n1) (fun _ => False) := by
  refine CmH.of [some (.ref (a 0 0)), some (.int x0), some (.ref o), none] pn_L rfl (Nat.le_of_ble_eq_true rfl) ?_
  intro p e s m args below meth c A C hE hr hnt
  refine r_aload_n C dL_shut_0 rfl ?_
  refine r_aload_n C dL_shut_1 rfl ?_
  refine r_iload_n C dL_shut_2 rfl ?_
  rcases hp.two cvI (by simp) hC hB hM with ⟨E, k, hm, h1, h2⟩ | ⟨f', r', n, h1, h2⟩
  · refine c_V (st := [.ref o]) hX.stb C hE (h1 _) pk_X2_shut qm_L_146 0 6 rfl rfl wc_0 rfl rfl (Nat.le_of_ble_eq_true rfl) dL_shut_3 ⟨(Nat.le_of_ble_eq_true rfl), (Nat.le_of_ble_eq_true rfl)⟩ ⟨(Nat.le_of_ble_eq_true rfl), (Nat.le_of_ble_eq_true rfl)⟩ (fun _ _ h9 => h9.elim) (fun E1 hE1 => ?_)
    subst hE1
    simp only [List.mem_cons, List.not_mem_nil, or_false, Prod.mk.injEq] at hm
    obtain ⟨rfl, rfl⟩ := hm
    refine r_catch (name := "java/lang/IndexOutOfBoundsException") C [] ⟨0, 10, 13, 19⟩ [] (hnt.trans rfl) (fun z hz => absurd hz List.not_mem_nil) rfl (by decide) (C.2.2.2.2.1 _ qk_L_19) (hX.nw qca_IOB rfl hE) (fun q => ?_)
    refine r_astore_n C dL_shut_13 (by decide) rfl ?_
    refine r_iconst (v := nI 1) C dL_shut_14 (by decide) ?_
    exact r_iret C hr dL_shut_15 ⟨_, _, _, _, rfl, rfl, h2 _⟩ (Nat.le_of_ble_eq_true rfl) (Nat.le_of_ble_eq_true rfl)
  · refine c_V (st := [.ref o]) hX.stb C hE (h1 _) pk_X2_shut qm_L_146 0 6 rfl rfl wc_0 rfl rfl (Nat.le_of_ble_eq_true rfl) dL_shut_3 ⟨(Nat.le_of_ble_eq_true rfl), (Nat.le_of_ble_eq_true rfl)⟩ ⟨(Nat.le_of_ble_eq_true rfl), (Nat.le_of_ble_eq_true rfl)⟩ (fun v9 w9 h9 => ?_) (fun _ h9 => h9.elim)
    obtain ⟨rfl, rfl⟩ := h9
    refine r_i2l C dL_shut_6 ?_
    refine g_putN hX C hE qu_X3 tyX3 tyX3_ok nmX3 (ci := 7) rfl 38 outo_at 0 (by decide) qn_L_13 rfl rfl (ty := .long) rfl rfl rfl (show 0 < 2 by omega) dL_shut_7 outo_set ?_
    refine r_goto (tgt := 16) C dL_shut_10 (by decide) ?_
    refine r_iconst (v := nI 0) C dL_shut_16 (by decide) ?_
    exact r_iret C hr dL_shut_17 ⟨_, _, _, _, rfl, rfl, h2⟩ (Nat.le_of_ble_eq_true rfl) (Nat.le_of_ble_eq_true rfl)
theorem dL_next_0 : decode cL_next 0 = .ok (.aload_n 2, 1) := dqo_44 (kb_of ke_L_next 0 rfl)
theorem dL_next_1 : decode cL_next 1 = .ok (.aload_n 0, 1) := dqo_42 (kb_of ke_L_next 1 rfl)
theorem dL_next_2 : decode cL_next 2 = .ok (.iload_n 1, 1) := dqo_27 (kb_of ke_L_next 2 rfl)
theorem dL_next_3 : decode cL_next 3 = .ok (.invokevirtual 149, 3) := dqo_182 0 149 (kb_of ke_L_next 3 rfl) (kb_of ke_L_next 4 rfl) (kb_of ke_L_next 5 rfl)
theorem dL_next_6 : decode cL_next 6 = .ok (.i2l, 1) := dqo_133 (kb_of ke_L_next 6 rfl)
theorem dL_next_7 : decode cL_next 7 = .ok (.putfield 13, 3) := dqo_181 0 13 (kb_of ke_L_next 7 rfl) (kb_of ke_L_next 8 rfl) (kb_of ke_L_next 9 rfl)
theorem dL_next_10 : decode cL_next 10 = .ok (.goto 9, 3) := dqo_167 0 9 (by decide) (kb_of ke_L_next 10 rfl) (kb_of ke_L_next 11 rfl) (kb_of ke_L_next 12 rfl)
theorem dL_next_13 : decode cL_next 13 = .ok (.astore_n 3, 1) := dqo_78 (kb_of ke_L_next 13 rfl)
theorem dL_next_14 : decode cL_next 14 = .ok (.iconst 1, 1) := dqo_4 (kb_of ke_L_next 14 rfl)
theorem dL_next_15 : decode cL_next 15 = .ok (.ireturn, 1) := dqo_172 (kb_of ke_L_next 15 rfl)
theorem dL_next_16 : decode cL_next 16 = .ok (.astore_n 3, 1) := dqo_78 (kb_of ke_L_next 16 rfl)
theorem dL_next_17 : decode cL_next 17 = .ok (.iconst 2, 1) := dqo_5 (kb_of ke_L_next 17 rfl)
theorem dL_next_18 : decode cL_next 18 = .ok (.ireturn, 1) := dqo_172 (kb_of ke_L_next 18 rfl)
theorem dL_next_19 : decode cL_next 19 = .ok (.iconst 0, 1) := dqo_3 (kb_of ke_L_next 19 rfl)
theorem dL_next_20 : decode cL_next 20 = .ok (.ireturn, 1) := dqo_172 (kb_of ke_L_next 20 rfl)
theorem qcw_L_next : Cond.codeWith yL_next cL_next 4 (some .int) [(0, 10, 13, 19), (0, 10, 16, 23)] ∈ GW := gw_5 131 rfl rfl
theorem pk_L_next : PkH yL_next cL_next 4 (some .int) [(0, 10, 13, 19), (0, 10, 16, 23)] 3 := ⟨⟨qt_L_next, qz_L, qcw_L_next⟩, mh_L.1, mh_L.2, pd_48⟩
theorem pk_X2_next : PkV RX2 yX2_next cX2_next 2 (some .int) 1 := ⟨⟨qi_X2_next, qs_X2_next, qz_X2, qc_X2_next⟩, rfl, mh_X2.1, mh_X2.2, pd_1⟩
theorem W_next {l : Launch} {D : va_G} {cy : Nat → ClassId} {X : (Nat → Prop) → State → Heap → Prop} {a : Nat → Nat → Nat} {ba ra : Nat → Nat} {f : Nat → Nat → Nat} {r : Nat → Nat → Int32} {hf : Nat → Nat → Nat} {hq : Nat → Nat → Int32} {kn th : Int32} {sm : Int64} {o : Nat} {n0 : Int64} {s0 : Value} {x0 : Int32} (hX : EnvX X) (hN : EnvN X) (hC : CInv f) (hB : RB r) (hM : MR f r hf hq) (hp : PR l D cy X a ba ra f r hf hq kn th sm yX2_next cX2_next 2 (some .int) yX4_next cX4_next 2 (some .int) (rmk 9 4 48 420) [.int x0] [("java/lang/IndexOutOfBoundsException", 1), ("java/lang/IllegalStateException", 2)]) : CmH l D cy X yL_next cL_next 4 (some .int) [(0, 10, 13, 19), (0, 10, 16, 23)] (rmk 9 1 6 300) [.ref (a 0 0), .int x0, .ref o] (WC cy a f r kn ++ (WM cy ba ra hf hq kn th sm ++ [OUTo o n0 s0])) (fun v1 w1 => ∃ (f' : Nat → Nat → Nat) (r' : Nat → Nat → Int32) (k : Nat) (n1 : Int64), v1 = some (.int (nI k)) ∧ w1 = WC cy a f' r' kn ++ (WM cy ba ra hf hq kn th sm ++ [OUTo o n1 s0]) ∧ PN l D cy X ba ra hf hq kn th sm yX4_next cX4_next 2 (some .int) (rmk 9 4 48 420) [.int x0] cvI f' r' k n1) (fun _ => False) := by
  refine CmH.of [some (.ref (a 0 0)), some (.int x0), some (.ref o), none] pn_L rfl (Nat.le_of_ble_eq_true rfl) ?_
  intro p e s m args below meth c A C hE hr hnt
  refine r_aload_n C dL_next_0 rfl ?_
  refine r_aload_n C dL_next_1 rfl ?_
  refine r_iload_n C dL_next_2 rfl ?_
  rcases hp.two cvI (by simp) hC hB hM with ⟨E, k, hm, h1, h2⟩ | ⟨f', r', n, h1, h2⟩
  · refine c_V (st := [.ref o]) hX.stb C hE (h1 _) pk_X2_next qm_L_149 0 6 rfl rfl wc_0 rfl rfl (Nat.le_of_ble_eq_true rfl) dL_next_3 ⟨(Nat.le_of_ble_eq_true rfl), (Nat.le_of_ble_eq_true rfl)⟩ ⟨(Nat.le_of_ble_eq_true rfl), (Nat.le_of_ble_eq_true rfl)⟩ (fun _ _ h9 => h9.elim) (fun E1 hE1 => ?_)
    subst hE1
    simp only [List.mem_cons, List.not_mem_nil, or_false, Prod.mk.injEq] at hm
    rcases hm with ⟨rfl, rfl⟩ | ⟨rfl, rfl⟩
    · refine r_catch (name := "java/lang/IndexOutOfBoundsException") C [] ⟨0, 10, 13, 19⟩ [⟨0, 10, 16, 23⟩] (hnt.trans rfl) (fun z hz => absurd hz List.not_mem_nil) rfl (by decide) (C.2.2.2.2.1 _ qk_L_19) (hX.nw qca_IOB rfl hE) (fun q => ?_)
      refine r_astore_n C dL_next_13 (by decide) rfl ?_
      refine r_iconst (v := nI 1) C dL_next_14 (by decide) ?_
      exact r_iret C hr dL_next_15 ⟨_, _, _, _, rfl, rfl, h2 _⟩ (Nat.le_of_ble_eq_true rfl) (Nat.le_of_ble_eq_true rfl)
    · refine r_catch (name := "java/lang/IllegalStateException") C [⟨0, 10, 13, 19⟩] ⟨0, 10, 16, 23⟩ [] (hnt.trans rfl) (fun z hz => by
        simp only [List.mem_cons, List.not_mem_nil, or_false] at hz
        subst hz
        exact Or.inr ⟨by decide, "java/lang/IndexOutOfBoundsException", C.2.2.2.2.1 _ qk_L_19, hN ("java/lang/IllegalStateException", "java/lang/IndexOutOfBoundsException") (by simp [NCL]) _ _ _ hE⟩) rfl (by decide) (C.2.2.2.2.1 _ qk_L_23) (hX.nw qca_ISE rfl hE) (fun q => ?_)
      refine r_astore_n C dL_next_16 (by decide) rfl ?_
      refine r_iconst (v := nI 2) C dL_next_17 (by decide) ?_
      exact r_iret C hr dL_next_18 ⟨_, _, _, _, rfl, rfl, h2 _⟩ (Nat.le_of_ble_eq_true rfl) (Nat.le_of_ble_eq_true rfl)
  · refine c_V (st := [.ref o]) hX.stb C hE (h1 _) pk_X2_next qm_L_149 0 6 rfl rfl wc_0 rfl rfl (Nat.le_of_ble_eq_true rfl) dL_next_3 ⟨(Nat.le_of_ble_eq_true rfl), (Nat.le_of_ble_eq_true rfl)⟩ ⟨(Nat.le_of_ble_eq_true rfl), (Nat.le_of_ble_eq_true rfl)⟩ (fun v9 w9 h9 => ?_) (fun _ h9 => h9.elim)
    obtain ⟨rfl, rfl⟩ := h9
    refine r_i2l C dL_next_6 ?_
    refine g_putN hX C hE qu_X3 tyX3 tyX3_ok nmX3 (ci := 7) rfl 38 outo_at 0 (by decide) qn_L_13 rfl rfl (ty := .long) rfl rfl rfl (show 0 < 2 by omega) dL_next_7 outo_set ?_
    refine r_goto (tgt := 19) C dL_next_10 (by decide) ?_
    refine r_iconst (v := nI 0) C dL_next_19 (by decide) ?_
    exact r_iret C hr dL_next_20 ⟨_, _, _, _, rfl, rfl, h2⟩ (Nat.le_of_ble_eq_true rfl) (Nat.le_of_ble_eq_true rfl)
theorem dL_previous_0 : decode cL_previous 0 = .ok (.aload_n 2, 1) := dqo_44 (kb_of ke_L_previous 0 rfl)
theorem dL_previous_1 : decode cL_previous 1 = .ok (.aload_n 0, 1) := dqo_42 (kb_of ke_L_previous 1 rfl)
theorem dL_previous_2 : decode cL_previous 2 = .ok (.iload_n 1, 1) := dqo_27 (kb_of ke_L_previous 2 rfl)
theorem dL_previous_3 : decode cL_previous 3 = .ok (.invokevirtual 152, 3) := dqo_182 0 152 (kb_of ke_L_previous 3 rfl) (kb_of ke_L_previous 4 rfl) (kb_of ke_L_previous 5 rfl)
theorem dL_previous_6 : decode cL_previous 6 = .ok (.i2l, 1) := dqo_133 (kb_of ke_L_previous 6 rfl)
theorem dL_previous_7 : decode cL_previous 7 = .ok (.putfield 13, 3) := dqo_181 0 13 (kb_of ke_L_previous 7 rfl) (kb_of ke_L_previous 8 rfl) (kb_of ke_L_previous 9 rfl)
theorem dL_previous_10 : decode cL_previous 10 = .ok (.goto 9, 3) := dqo_167 0 9 (by decide) (kb_of ke_L_previous 10 rfl) (kb_of ke_L_previous 11 rfl) (kb_of ke_L_previous 12 rfl)
theorem dL_previous_13 : decode cL_previous 13 = .ok (.astore_n 3, 1) := dqo_78 (kb_of ke_L_previous 13 rfl)
theorem dL_previous_14 : decode cL_previous 14 = .ok (.iconst 1, 1) := dqo_4 (kb_of ke_L_previous 14 rfl)
theorem dL_previous_15 : decode cL_previous 15 = .ok (.ireturn, 1) := dqo_172 (kb_of ke_L_previous 15 rfl)
theorem dL_previous_16 : decode cL_previous 16 = .ok (.astore_n 3, 1) := dqo_78 (kb_of ke_L_previous 16 rfl)
theorem dL_previous_17 : decode cL_previous 17 = .ok (.iconst 2, 1) := dqo_5 (kb_of ke_L_previous 17 rfl)
theorem dL_previous_18 : decode cL_previous 18 = .ok (.ireturn, 1) := dqo_172 (kb_of ke_L_previous 18 rfl)
theorem dL_previous_19 : decode cL_previous 19 = .ok (.iconst 0, 1) := dqo_3 (kb_of ke_L_previous 19 rfl)
theorem dL_previous_20 : decode cL_previous 20 = .ok (.ireturn, 1) := dqo_172 (kb_of ke_L_previous 20 rfl)
theorem qcw_L_previous : Cond.codeWith yL_previous cL_previous 4 (some .int) [(0, 10, 13, 19), (0, 10, 16, 23)] ∈ GW := gw_5 148 rfl rfl
theorem pk_L_previous : PkH yL_previous cL_previous 4 (some .int) [(0, 10, 13, 19), (0, 10, 16, 23)] 3 := ⟨⟨qt_L_previous, qz_L, qcw_L_previous⟩, mh_L.1, mh_L.2, pd_48⟩
theorem pk_X2_previous : PkV RX2 yX2_previous cX2_previous 2 (some .int) 1 := ⟨⟨qi_X2_previous, qs_X2_previous, qz_X2, qc_X2_previous⟩, rfl, mh_X2.1, mh_X2.2, pd_1⟩
theorem W_previous {l : Launch} {D : va_G} {cy : Nat → ClassId} {X : (Nat → Prop) → State → Heap → Prop} {a : Nat → Nat → Nat} {ba ra : Nat → Nat} {f : Nat → Nat → Nat} {r : Nat → Nat → Int32} {hf : Nat → Nat → Nat} {hq : Nat → Nat → Int32} {kn th : Int32} {sm : Int64} {o : Nat} {n0 : Int64} {s0 : Value} {x0 : Int32} (hX : EnvX X) (hN : EnvN X) (hC : CInv f) (hB : RB r) (hM : MR f r hf hq) (hp : PR l D cy X a ba ra f r hf hq kn th sm yX2_previous cX2_previous 2 (some .int) yX4_previous cX4_previous 2 (some .int) (rmk 9 4 48 420) [.int x0] [("java/lang/IndexOutOfBoundsException", 1), ("java/lang/IllegalStateException", 2)]) : CmH l D cy X yL_previous cL_previous 4 (some .int) [(0, 10, 13, 19), (0, 10, 16, 23)] (rmk 9 1 6 300) [.ref (a 0 0), .int x0, .ref o] (WC cy a f r kn ++ (WM cy ba ra hf hq kn th sm ++ [OUTo o n0 s0])) (fun v1 w1 => ∃ (f' : Nat → Nat → Nat) (r' : Nat → Nat → Int32) (k : Nat) (n1 : Int64), v1 = some (.int (nI k)) ∧ w1 = WC cy a f' r' kn ++ (WM cy ba ra hf hq kn th sm ++ [OUTo o n1 s0]) ∧ PN l D cy X ba ra hf hq kn th sm yX4_previous cX4_previous 2 (some .int) (rmk 9 4 48 420) [.int x0] cvI f' r' k n1) (fun _ => False) := by
  refine CmH.of [some (.ref (a 0 0)), some (.int x0), some (.ref o), none] pn_L rfl (Nat.le_of_ble_eq_true rfl) ?_
  intro p e s m args below meth c A C hE hr hnt
  refine r_aload_n C dL_previous_0 rfl ?_
  refine r_aload_n C dL_previous_1 rfl ?_
  refine r_iload_n C dL_previous_2 rfl ?_
  rcases hp.two cvI (by simp) hC hB hM with ⟨E, k, hm, h1, h2⟩ | ⟨f', r', n, h1, h2⟩
  · refine c_V (st := [.ref o]) hX.stb C hE (h1 _) pk_X2_previous qm_L_152 0 6 rfl rfl wc_0 rfl rfl (Nat.le_of_ble_eq_true rfl) dL_previous_3 ⟨(Nat.le_of_ble_eq_true rfl), (Nat.le_of_ble_eq_true rfl)⟩ ⟨(Nat.le_of_ble_eq_true rfl), (Nat.le_of_ble_eq_true rfl)⟩ (fun _ _ h9 => h9.elim) (fun E1 hE1 => ?_)
    subst hE1
    simp only [List.mem_cons, List.not_mem_nil, or_false, Prod.mk.injEq] at hm
    rcases hm with ⟨rfl, rfl⟩ | ⟨rfl, rfl⟩
    · refine r_catch (name := "java/lang/IndexOutOfBoundsException") C [] ⟨0, 10, 13, 19⟩ [⟨0, 10, 16, 23⟩] (hnt.trans rfl) (fun z hz => absurd hz List.not_mem_nil) rfl (by decide) (C.2.2.2.2.1 _ qk_L_19) (hX.nw qca_IOB rfl hE) (fun q => ?_)
      refine r_astore_n C dL_previous_13 (by decide) rfl ?_
      refine r_iconst (v := nI 1) C dL_previous_14 (by decide) ?_
      exact r_iret C hr dL_previous_15 ⟨_, _, _, _, rfl, rfl, h2 _⟩ (Nat.le_of_ble_eq_true rfl) (Nat.le_of_ble_eq_true rfl)
    · refine r_catch (name := "java/lang/IllegalStateException") C [⟨0, 10, 13, 19⟩] ⟨0, 10, 16, 23⟩ [] (hnt.trans rfl) (fun z hz => by
        simp only [List.mem_cons, List.not_mem_nil, or_false] at hz
        subst hz
        exact Or.inr ⟨by decide, "java/lang/IndexOutOfBoundsException", C.2.2.2.2.1 _ qk_L_19, hN ("java/lang/IllegalStateException", "java/lang/IndexOutOfBoundsException") (by simp [NCL]) _ _ _ hE⟩) rfl (by decide) (C.2.2.2.2.1 _ qk_L_23) (hX.nw qca_ISE rfl hE) (fun q => ?_)
      refine r_astore_n C dL_previous_16 (by decide) rfl ?_
      refine r_iconst (v := nI 2) C dL_previous_17 (by decide) ?_
      exact r_iret C hr dL_previous_18 ⟨_, _, _, _, rfl, rfl, h2 _⟩ (Nat.le_of_ble_eq_true rfl) (Nat.le_of_ble_eq_true rfl)
  · refine c_V (st := [.ref o]) hX.stb C hE (h1 _) pk_X2_previous qm_L_152 0 6 rfl rfl wc_0 rfl rfl (Nat.le_of_ble_eq_true rfl) dL_previous_3 ⟨(Nat.le_of_ble_eq_true rfl), (Nat.le_of_ble_eq_true rfl)⟩ ⟨(Nat.le_of_ble_eq_true rfl), (Nat.le_of_ble_eq_true rfl)⟩ (fun v9 w9 h9 => ?_) (fun _ h9 => h9.elim)
    obtain ⟨rfl, rfl⟩ := h9
    refine r_i2l C dL_previous_6 ?_
    refine g_putN hX C hE qu_X3 tyX3 tyX3_ok nmX3 (ci := 7) rfl 38 outo_at 0 (by decide) qn_L_13 rfl rfl (ty := .long) rfl rfl rfl (show 0 < 2 by omega) dL_previous_7 outo_set ?_
    refine r_goto (tgt := 19) C dL_previous_10 (by decide) ?_
    refine r_iconst (v := nI 0) C dL_previous_19 (by decide) ?_
    exact r_iret C hr dL_previous_20 ⟨_, _, _, _, rfl, rfl, h2⟩ (Nat.le_of_ble_eq_true rfl) (Nat.le_of_ble_eq_true rfl)
theorem dL_put_0 : decode cL_put 0 = .ok (.aload_n 3, 1) := dqo_45 (kb_of ke_L_put 0 rfl)
theorem dL_put_1 : decode cL_put 1 = .ok (.aload_n 0, 1) := dqo_42 (kb_of ke_L_put 1 rfl)
theorem dL_put_2 : decode cL_put 2 = .ok (.iload_n 1, 1) := dqo_27 (kb_of ke_L_put 2 rfl)
theorem dL_put_3 : decode cL_put 3 = .ok (.iload_n 2, 1) := dqo_28 (kb_of ke_L_put 3 rfl)
theorem dL_put_4 : decode cL_put 4 = .ok (.invokevirtual 155, 3) := dqo_182 0 155 (kb_of ke_L_put 4 rfl) (kb_of ke_L_put 5 rfl) (kb_of ke_L_put 6 rfl)
theorem dL_put_7 : decode cL_put 7 = .ok (.i2l, 1) := dqo_133 (kb_of ke_L_put 7 rfl)
theorem dL_put_8 : decode cL_put 8 = .ok (.putfield 13, 3) := dqo_181 0 13 (kb_of ke_L_put 8 rfl) (kb_of ke_L_put 9 rfl) (kb_of ke_L_put 10 rfl)
theorem dL_put_11 : decode cL_put 11 = .ok (.goto 15, 3) := dqo_167 0 15 (by decide) (kb_of ke_L_put 11 rfl) (kb_of ke_L_put 12 rfl) (kb_of ke_L_put 13 rfl)
theorem dL_put_14 : decode cL_put 14 = .ok (.astore 4, 2) := dqo_58 4 (kb_of ke_L_put 14 rfl) (kb_of ke_L_put 15 rfl)
theorem dL_put_16 : decode cL_put 16 = .ok (.iconst 1, 1) := dqo_4 (kb_of ke_L_put 16 rfl)
theorem dL_put_17 : decode cL_put 17 = .ok (.ireturn, 1) := dqo_172 (kb_of ke_L_put 17 rfl)
theorem dL_put_18 : decode cL_put 18 = .ok (.astore 4, 2) := dqo_58 4 (kb_of ke_L_put 18 rfl) (kb_of ke_L_put 19 rfl)
theorem dL_put_20 : decode cL_put 20 = .ok (.iconst 2, 1) := dqo_5 (kb_of ke_L_put 20 rfl)
theorem dL_put_21 : decode cL_put 21 = .ok (.ireturn, 1) := dqo_172 (kb_of ke_L_put 21 rfl)
theorem dL_put_22 : decode cL_put 22 = .ok (.astore 4, 2) := dqo_58 4 (kb_of ke_L_put 22 rfl) (kb_of ke_L_put 23 rfl)
theorem dL_put_24 : decode cL_put 24 = .ok (.iconst 3, 1) := dqo_6 (kb_of ke_L_put 24 rfl)
theorem dL_put_25 : decode cL_put 25 = .ok (.ireturn, 1) := dqo_172 (kb_of ke_L_put 25 rfl)
theorem dL_put_26 : decode cL_put 26 = .ok (.iconst 0, 1) := dqo_3 (kb_of ke_L_put 26 rfl)
theorem dL_put_27 : decode cL_put 27 = .ok (.ireturn, 1) := dqo_172 (kb_of ke_L_put 27 rfl)
theorem qcw_L_put : Cond.codeWith yL_put cL_put 5 (some .int) [(0, 11, 14, 19), (0, 11, 18, 21), (0, 11, 22, 23)] ∈ GW := gw_5 159 rfl rfl
theorem pk_L_put : PkH yL_put cL_put 5 (some .int) [(0, 11, 14, 19), (0, 11, 18, 21), (0, 11, 22, 23)] 4 := ⟨⟨qt_L_put, qz_L, qcw_L_put⟩, mh_L.1, mh_L.2, pd_46⟩
theorem pk_X2_put : PkV RX2 yX2_put cX2_put 4 (some .int) 2 := ⟨⟨qi_X2_put, qs_X2_put, qz_X2, qc_X2_put⟩, rfl, mh_X2.1, mh_X2.2, pd_0⟩
theorem W_put {l : Launch} {D : va_G} {cy : Nat → ClassId} {X : (Nat → Prop) → State → Heap → Prop} {a : Nat → Nat → Nat} {ba ra : Nat → Nat} {f : Nat → Nat → Nat} {r : Nat → Nat → Int32} {hf : Nat → Nat → Nat} {hq : Nat → Nat → Int32} {kn th : Int32} {sm : Int64} {o : Nat} {n0 : Int64} {s0 : Value} {x0 x1 : Int32} (hX : EnvX X) (hN : EnvN X) (hC : CInv f) (hB : RB r) (hM : MR f r hf hq) (hp : PR l D cy X a ba ra f r hf hq kn th sm yX2_put cX2_put 4 (some .int) yX4_put_ cX4_put_ 3 (some .int) (rmk 9 4 48 420) [.int x0, .int x1] [("java/lang/IndexOutOfBoundsException", 1), ("java/lang/IllegalArgumentException", 2), ("java/lang/IllegalStateException", 3)]) : CmH l D cy X yL_put cL_put 5 (some .int) [(0, 11, 14, 19), (0, 11, 18, 21), (0, 11, 22, 23)] (rmk 9 1 6 300) [.ref (a 0 0), .int x0, .int x1, .ref o] (WC cy a f r kn ++ (WM cy ba ra hf hq kn th sm ++ [OUTo o n0 s0])) (fun v1 w1 => ∃ (f' : Nat → Nat → Nat) (r' : Nat → Nat → Int32) (k : Nat) (n1 : Int64), v1 = some (.int (nI k)) ∧ w1 = WC cy a f' r' kn ++ (WM cy ba ra hf hq kn th sm ++ [OUTo o n1 s0]) ∧ PN l D cy X ba ra hf hq kn th sm yX4_put_ cX4_put_ 3 (some .int) (rmk 9 4 48 420) [.int x0, .int x1] cvI f' r' k n1) (fun _ => False) := by
  refine CmH.of [some (.ref (a 0 0)), some (.int x0), some (.int x1), some (.ref o), none] pn_L rfl (Nat.le_of_ble_eq_true rfl) ?_
  intro p e s m args below meth c A C hE hr hnt
  refine r_aload_n C dL_put_0 rfl ?_
  refine r_aload_n C dL_put_1 rfl ?_
  refine r_iload_n C dL_put_2 rfl ?_
  refine r_iload_n C dL_put_3 rfl ?_
  rcases hp.two cvI (by simp) hC hB hM with ⟨E, k, hm, h1, h2⟩ | ⟨f', r', n, h1, h2⟩
  · refine c_V (st := [.ref o]) hX.stb C hE (h1 _) pk_X2_put qm_L_155 0 6 rfl rfl wc_0 rfl rfl (Nat.le_of_ble_eq_true rfl) dL_put_4 ⟨(Nat.le_of_ble_eq_true rfl), (Nat.le_of_ble_eq_true rfl)⟩ ⟨(Nat.le_of_ble_eq_true rfl), (Nat.le_of_ble_eq_true rfl)⟩ (fun _ _ h9 => h9.elim) (fun E1 hE1 => ?_)
    subst hE1
    simp only [List.mem_cons, List.not_mem_nil, or_false, Prod.mk.injEq] at hm
    rcases hm with ⟨rfl, rfl⟩ | ⟨rfl, rfl⟩ | ⟨rfl, rfl⟩
    · refine r_catch (name := "java/lang/IndexOutOfBoundsException") C [] ⟨0, 11, 14, 19⟩ [⟨0, 11, 18, 21⟩, ⟨0, 11, 22, 23⟩] (hnt.trans rfl) (fun z hz => absurd hz List.not_mem_nil) rfl (by decide) (C.2.2.2.2.1 _ qk_L_19) (hX.nw qca_IOB rfl hE) (fun q => ?_)
      refine r_astore C dL_put_14 (by decide) rfl ?_
      refine r_iconst (v := nI 1) C dL_put_16 (by decide) ?_
      exact r_iret C hr dL_put_17 ⟨_, _, _, _, rfl, rfl, h2 _⟩ (Nat.le_of_ble_eq_true rfl) (Nat.le_of_ble_eq_true rfl)
    · refine r_catch (name := "java/lang/IllegalArgumentException") C [⟨0, 11, 14, 19⟩] ⟨0, 11, 18, 21⟩ [⟨0, 11, 22, 23⟩] (hnt.trans rfl) (fun z hz => by
        simp only [List.mem_cons, List.not_mem_nil, or_false] at hz
        subst hz
        exact Or.inr ⟨by decide, "java/lang/IndexOutOfBoundsException", C.2.2.2.2.1 _ qk_L_19, hN ("java/lang/IllegalArgumentException", "java/lang/IndexOutOfBoundsException") (by simp [NCL]) _ _ _ hE⟩) rfl (by decide) (C.2.2.2.2.1 _ qk_L_21) (hX.nw qca_IAE rfl hE) (fun q => ?_)
      refine r_astore C dL_put_18 (by decide) rfl ?_
      refine r_iconst (v := nI 2) C dL_put_20 (by decide) ?_
      exact r_iret C hr dL_put_21 ⟨_, _, _, _, rfl, rfl, h2 _⟩ (Nat.le_of_ble_eq_true rfl) (Nat.le_of_ble_eq_true rfl)
    · refine r_catch (name := "java/lang/IllegalStateException") C [⟨0, 11, 14, 19⟩, ⟨0, 11, 18, 21⟩] ⟨0, 11, 22, 23⟩ [] (hnt.trans rfl) (fun z hz => by
        simp only [List.mem_cons, List.not_mem_nil, or_false] at hz
        rcases hz with rfl | rfl
        · exact Or.inr ⟨by decide, "java/lang/IndexOutOfBoundsException", C.2.2.2.2.1 _ qk_L_19, hN ("java/lang/IllegalStateException", "java/lang/IndexOutOfBoundsException") (by simp [NCL]) _ _ _ hE⟩
        · exact Or.inr ⟨by decide, "java/lang/IllegalArgumentException", C.2.2.2.2.1 _ qk_L_21, hN ("java/lang/IllegalStateException", "java/lang/IllegalArgumentException") (by simp [NCL]) _ _ _ hE⟩) rfl (by decide) (C.2.2.2.2.1 _ qk_L_23) (hX.nw qca_ISE rfl hE) (fun q => ?_)
      refine r_astore C dL_put_22 (by decide) rfl ?_
      refine r_iconst (v := nI 3) C dL_put_24 (by decide) ?_
      exact r_iret C hr dL_put_25 ⟨_, _, _, _, rfl, rfl, h2 _⟩ (Nat.le_of_ble_eq_true rfl) (Nat.le_of_ble_eq_true rfl)
  · refine c_V (st := [.ref o]) hX.stb C hE (h1 _) pk_X2_put qm_L_155 0 6 rfl rfl wc_0 rfl rfl (Nat.le_of_ble_eq_true rfl) dL_put_4 ⟨(Nat.le_of_ble_eq_true rfl), (Nat.le_of_ble_eq_true rfl)⟩ ⟨(Nat.le_of_ble_eq_true rfl), (Nat.le_of_ble_eq_true rfl)⟩ (fun v9 w9 h9 => ?_) (fun _ h9 => h9.elim)
    obtain ⟨rfl, rfl⟩ := h9
    refine r_i2l C dL_put_7 ?_
    refine g_putN hX C hE qu_X3 tyX3 tyX3_ok nmX3 (ci := 7) rfl 38 outo_at 0 (by decide) qn_L_13 rfl rfl (ty := .long) rfl rfl rfl (show 0 < 2 by omega) dL_put_8 outo_set ?_
    refine r_goto (tgt := 26) C dL_put_11 (by decide) ?_
    refine r_iconst (v := nI 0) C dL_put_26 (by decide) ?_
    exact r_iret C hr dL_put_27 ⟨_, _, _, _, rfl, rfl, h2⟩ (Nat.le_of_ble_eq_true rfl) (Nat.le_of_ble_eq_true rfl)
theorem dL_take_0 : decode cL_take 0 = .ok (.aload_n 2, 1) := dqo_44 (kb_of ke_L_take 0 rfl)
theorem dL_take_1 : decode cL_take 1 = .ok (.aload_n 0, 1) := dqo_42 (kb_of ke_L_take 1 rfl)
theorem dL_take_2 : decode cL_take 2 = .ok (.iload_n 1, 1) := dqo_27 (kb_of ke_L_take 2 rfl)
theorem dL_take_3 : decode cL_take 3 = .ok (.invokevirtual 158, 3) := dqo_182 0 158 (kb_of ke_L_take 3 rfl) (kb_of ke_L_take 4 rfl) (kb_of ke_L_take 5 rfl)
theorem dL_take_6 : decode cL_take 6 = .ok (.i2l, 1) := dqo_133 (kb_of ke_L_take 6 rfl)
theorem dL_take_7 : decode cL_take 7 = .ok (.putfield 13, 3) := dqo_181 0 13 (kb_of ke_L_take 7 rfl) (kb_of ke_L_take 8 rfl) (kb_of ke_L_take 9 rfl)
theorem dL_take_10 : decode cL_take 10 = .ok (.goto 9, 3) := dqo_167 0 9 (by decide) (kb_of ke_L_take 10 rfl) (kb_of ke_L_take 11 rfl) (kb_of ke_L_take 12 rfl)
theorem dL_take_13 : decode cL_take 13 = .ok (.astore_n 3, 1) := dqo_78 (kb_of ke_L_take 13 rfl)
theorem dL_take_14 : decode cL_take 14 = .ok (.iconst 1, 1) := dqo_4 (kb_of ke_L_take 14 rfl)
theorem dL_take_15 : decode cL_take 15 = .ok (.ireturn, 1) := dqo_172 (kb_of ke_L_take 15 rfl)
theorem dL_take_16 : decode cL_take 16 = .ok (.astore_n 3, 1) := dqo_78 (kb_of ke_L_take 16 rfl)
theorem dL_take_17 : decode cL_take 17 = .ok (.iconst 2, 1) := dqo_5 (kb_of ke_L_take 17 rfl)
theorem dL_take_18 : decode cL_take 18 = .ok (.ireturn, 1) := dqo_172 (kb_of ke_L_take 18 rfl)
theorem dL_take_19 : decode cL_take 19 = .ok (.iconst 0, 1) := dqo_3 (kb_of ke_L_take 19 rfl)
theorem dL_take_20 : decode cL_take 20 = .ok (.ireturn, 1) := dqo_172 (kb_of ke_L_take 20 rfl)
theorem qcw_L_take : Cond.codeWith yL_take cL_take 4 (some .int) [(0, 10, 13, 19), (0, 10, 16, 23)] ∈ GW := gw_5 166 rfl rfl
theorem pk_L_take : PkH yL_take cL_take 4 (some .int) [(0, 10, 13, 19), (0, 10, 16, 23)] 3 := ⟨⟨qt_L_take, qz_L, qcw_L_take⟩, mh_L.1, mh_L.2, pd_48⟩
theorem pk_X2_take : PkV RX2 yX2_take cX2_take 3 (some .int) 1 := ⟨⟨qi_X2_take, qs_X2_take, qz_X2, qc_X2_take⟩, rfl, mh_X2.1, mh_X2.2, pd_1⟩
theorem W_take {l : Launch} {D : va_G} {cy : Nat → ClassId} {X : (Nat → Prop) → State → Heap → Prop} {a : Nat → Nat → Nat} {ba ra : Nat → Nat} {f : Nat → Nat → Nat} {r : Nat → Nat → Int32} {hf : Nat → Nat → Nat} {hq : Nat → Nat → Int32} {kn th : Int32} {sm : Int64} {o : Nat} {n0 : Int64} {s0 : Value} {x0 : Int32} (hX : EnvX X) (hN : EnvN X) (hC : CInv f) (hB : RB r) (hM : MR f r hf hq) (hp : PR l D cy X a ba ra f r hf hq kn th sm yX2_take cX2_take 3 (some .int) yX4_take cX4_take 2 (some .int) (rmk 9 4 48 420) [.int x0] [("java/lang/IndexOutOfBoundsException", 1), ("java/lang/IllegalStateException", 2)]) : CmH l D cy X yL_take cL_take 4 (some .int) [(0, 10, 13, 19), (0, 10, 16, 23)] (rmk 9 1 6 300) [.ref (a 0 0), .int x0, .ref o] (WC cy a f r kn ++ (WM cy ba ra hf hq kn th sm ++ [OUTo o n0 s0])) (fun v1 w1 => ∃ (f' : Nat → Nat → Nat) (r' : Nat → Nat → Int32) (k : Nat) (n1 : Int64), v1 = some (.int (nI k)) ∧ w1 = WC cy a f' r' kn ++ (WM cy ba ra hf hq kn th sm ++ [OUTo o n1 s0]) ∧ PN l D cy X ba ra hf hq kn th sm yX4_take cX4_take 2 (some .int) (rmk 9 4 48 420) [.int x0] cvI f' r' k n1) (fun _ => False) := by
  refine CmH.of [some (.ref (a 0 0)), some (.int x0), some (.ref o), none] pn_L rfl (Nat.le_of_ble_eq_true rfl) ?_
  intro p e s m args below meth c A C hE hr hnt
  refine r_aload_n C dL_take_0 rfl ?_
  refine r_aload_n C dL_take_1 rfl ?_
  refine r_iload_n C dL_take_2 rfl ?_
  rcases hp.two cvI (by simp) hC hB hM with ⟨E, k, hm, h1, h2⟩ | ⟨f', r', n, h1, h2⟩
  · refine c_V (st := [.ref o]) hX.stb C hE (h1 _) pk_X2_take qm_L_158 0 6 rfl rfl wc_0 rfl rfl (Nat.le_of_ble_eq_true rfl) dL_take_3 ⟨(Nat.le_of_ble_eq_true rfl), (Nat.le_of_ble_eq_true rfl)⟩ ⟨(Nat.le_of_ble_eq_true rfl), (Nat.le_of_ble_eq_true rfl)⟩ (fun _ _ h9 => h9.elim) (fun E1 hE1 => ?_)
    subst hE1
    simp only [List.mem_cons, List.not_mem_nil, or_false, Prod.mk.injEq] at hm
    rcases hm with ⟨rfl, rfl⟩ | ⟨rfl, rfl⟩
    · refine r_catch (name := "java/lang/IndexOutOfBoundsException") C [] ⟨0, 10, 13, 19⟩ [⟨0, 10, 16, 23⟩] (hnt.trans rfl) (fun z hz => absurd hz List.not_mem_nil) rfl (by decide) (C.2.2.2.2.1 _ qk_L_19) (hX.nw qca_IOB rfl hE) (fun q => ?_)
      refine r_astore_n C dL_take_13 (by decide) rfl ?_
      refine r_iconst (v := nI 1) C dL_take_14 (by decide) ?_
      exact r_iret C hr dL_take_15 ⟨_, _, _, _, rfl, rfl, h2 _⟩ (Nat.le_of_ble_eq_true rfl) (Nat.le_of_ble_eq_true rfl)
    · refine r_catch (name := "java/lang/IllegalStateException") C [⟨0, 10, 13, 19⟩] ⟨0, 10, 16, 23⟩ [] (hnt.trans rfl) (fun z hz => by
        simp only [List.mem_cons, List.not_mem_nil, or_false] at hz
        subst hz
        exact Or.inr ⟨by decide, "java/lang/IndexOutOfBoundsException", C.2.2.2.2.1 _ qk_L_19, hN ("java/lang/IllegalStateException", "java/lang/IndexOutOfBoundsException") (by simp [NCL]) _ _ _ hE⟩) rfl (by decide) (C.2.2.2.2.1 _ qk_L_23) (hX.nw qca_ISE rfl hE) (fun q => ?_)
      refine r_astore_n C dL_take_16 (by decide) rfl ?_
      refine r_iconst (v := nI 2) C dL_take_17 (by decide) ?_
      exact r_iret C hr dL_take_18 ⟨_, _, _, _, rfl, rfl, h2 _⟩ (Nat.le_of_ble_eq_true rfl) (Nat.le_of_ble_eq_true rfl)
  · refine c_V (st := [.ref o]) hX.stb C hE (h1 _) pk_X2_take qm_L_158 0 6 rfl rfl wc_0 rfl rfl (Nat.le_of_ble_eq_true rfl) dL_take_3 ⟨(Nat.le_of_ble_eq_true rfl), (Nat.le_of_ble_eq_true rfl)⟩ ⟨(Nat.le_of_ble_eq_true rfl), (Nat.le_of_ble_eq_true rfl)⟩ (fun v9 w9 h9 => ?_) (fun _ h9 => h9.elim)
    obtain ⟨rfl, rfl⟩ := h9
    refine r_i2l C dL_take_6 ?_
    refine g_putN hX C hE qu_X3 tyX3 tyX3_ok nmX3 (ci := 7) rfl 38 outo_at 0 (by decide) qn_L_13 rfl rfl (ty := .long) rfl rfl rfl (show 0 < 2 by omega) dL_take_7 outo_set ?_
    refine r_goto (tgt := 19) C dL_take_10 (by decide) ?_
    refine r_iconst (v := nI 0) C dL_take_19 (by decide) ?_
    exact r_iret C hr dL_take_20 ⟨_, _, _, _, rfl, rfl, h2⟩ (Nat.le_of_ble_eq_true rfl) (Nat.le_of_ble_eq_true rfl)
theorem dL_replace_0 : decode cL_replace 0 = .ok (.aload_n 3, 1) := dqo_45 (kb_of ke_L_replace 0 rfl)
theorem dL_replace_1 : decode cL_replace 1 = .ok (.aload_n 0, 1) := dqo_42 (kb_of ke_L_replace 1 rfl)
theorem dL_replace_2 : decode cL_replace 2 = .ok (.iload_n 1, 1) := dqo_27 (kb_of ke_L_replace 2 rfl)
theorem dL_replace_3 : decode cL_replace 3 = .ok (.iload_n 2, 1) := dqo_28 (kb_of ke_L_replace 3 rfl)
theorem dL_replace_4 : decode cL_replace 4 = .ok (.invokevirtual 161, 3) := dqo_182 0 161 (kb_of ke_L_replace 4 rfl) (kb_of ke_L_replace 5 rfl) (kb_of ke_L_replace 6 rfl)
theorem dL_replace_7 : decode cL_replace 7 = .ok (.i2l, 1) := dqo_133 (kb_of ke_L_replace 7 rfl)
theorem dL_replace_8 : decode cL_replace 8 = .ok (.putfield 13, 3) := dqo_181 0 13 (kb_of ke_L_replace 8 rfl) (kb_of ke_L_replace 9 rfl) (kb_of ke_L_replace 10 rfl)
theorem dL_replace_11 : decode cL_replace 11 = .ok (.goto 15, 3) := dqo_167 0 15 (by decide) (kb_of ke_L_replace 11 rfl) (kb_of ke_L_replace 12 rfl) (kb_of ke_L_replace 13 rfl)
theorem dL_replace_14 : decode cL_replace 14 = .ok (.astore 4, 2) := dqo_58 4 (kb_of ke_L_replace 14 rfl) (kb_of ke_L_replace 15 rfl)
theorem dL_replace_16 : decode cL_replace 16 = .ok (.iconst 1, 1) := dqo_4 (kb_of ke_L_replace 16 rfl)
theorem dL_replace_17 : decode cL_replace 17 = .ok (.ireturn, 1) := dqo_172 (kb_of ke_L_replace 17 rfl)
theorem dL_replace_18 : decode cL_replace 18 = .ok (.astore 4, 2) := dqo_58 4 (kb_of ke_L_replace 18 rfl) (kb_of ke_L_replace 19 rfl)
theorem dL_replace_20 : decode cL_replace 20 = .ok (.iconst 2, 1) := dqo_5 (kb_of ke_L_replace 20 rfl)
theorem dL_replace_21 : decode cL_replace 21 = .ok (.ireturn, 1) := dqo_172 (kb_of ke_L_replace 21 rfl)
theorem dL_replace_22 : decode cL_replace 22 = .ok (.astore 4, 2) := dqo_58 4 (kb_of ke_L_replace 22 rfl) (kb_of ke_L_replace 23 rfl)
theorem dL_replace_24 : decode cL_replace 24 = .ok (.iconst 3, 1) := dqo_6 (kb_of ke_L_replace 24 rfl)
theorem dL_replace_25 : decode cL_replace 25 = .ok (.ireturn, 1) := dqo_172 (kb_of ke_L_replace 25 rfl)
theorem dL_replace_26 : decode cL_replace 26 = .ok (.iconst 0, 1) := dqo_3 (kb_of ke_L_replace 26 rfl)
theorem dL_replace_27 : decode cL_replace 27 = .ok (.ireturn, 1) := dqo_172 (kb_of ke_L_replace 27 rfl)
theorem qcw_L_replace : Cond.codeWith yL_replace cL_replace 5 (some .int) [(0, 11, 14, 19), (0, 11, 18, 21), (0, 11, 22, 23)] ∈ GW := gw_5 173 rfl rfl
theorem pk_L_replace : PkH yL_replace cL_replace 5 (some .int) [(0, 11, 14, 19), (0, 11, 18, 21), (0, 11, 22, 23)] 4 := ⟨⟨qt_L_replace, qz_L, qcw_L_replace⟩, mh_L.1, mh_L.2, pd_46⟩
theorem pk_X2_replace : PkV RX2 yX2_replace cX2_replace 4 (some .int) 2 := ⟨⟨qi_X2_replace, qs_X2_replace, qz_X2, qc_X2_replace⟩, rfl, mh_X2.1, mh_X2.2, pd_0⟩
theorem W_replace {l : Launch} {D : va_G} {cy : Nat → ClassId} {X : (Nat → Prop) → State → Heap → Prop} {a : Nat → Nat → Nat} {ba ra : Nat → Nat} {f : Nat → Nat → Nat} {r : Nat → Nat → Int32} {hf : Nat → Nat → Nat} {hq : Nat → Nat → Int32} {kn th : Int32} {sm : Int64} {o : Nat} {n0 : Int64} {s0 : Value} {x0 x1 : Int32} (hX : EnvX X) (hN : EnvN X) (hC : CInv f) (hB : RB r) (hM : MR f r hf hq) (hp : PR l D cy X a ba ra f r hf hq kn th sm yX2_replace cX2_replace 4 (some .int) yX4_replace cX4_replace 3 (some .int) (rmk 9 4 48 420) [.int x0, .int x1] [("java/lang/IndexOutOfBoundsException", 1), ("java/lang/IllegalArgumentException", 2), ("java/lang/IllegalStateException", 3)]) : CmH l D cy X yL_replace cL_replace 5 (some .int) [(0, 11, 14, 19), (0, 11, 18, 21), (0, 11, 22, 23)] (rmk 9 1 6 300) [.ref (a 0 0), .int x0, .int x1, .ref o] (WC cy a f r kn ++ (WM cy ba ra hf hq kn th sm ++ [OUTo o n0 s0])) (fun v1 w1 => ∃ (f' : Nat → Nat → Nat) (r' : Nat → Nat → Int32) (k : Nat) (n1 : Int64), v1 = some (.int (nI k)) ∧ w1 = WC cy a f' r' kn ++ (WM cy ba ra hf hq kn th sm ++ [OUTo o n1 s0]) ∧ PN l D cy X ba ra hf hq kn th sm yX4_replace cX4_replace 3 (some .int) (rmk 9 4 48 420) [.int x0, .int x1] cvI f' r' k n1) (fun _ => False) := by
  refine CmH.of [some (.ref (a 0 0)), some (.int x0), some (.int x1), some (.ref o), none] pn_L rfl (Nat.le_of_ble_eq_true rfl) ?_
  intro p e s m args below meth c A C hE hr hnt
  refine r_aload_n C dL_replace_0 rfl ?_
  refine r_aload_n C dL_replace_1 rfl ?_
  refine r_iload_n C dL_replace_2 rfl ?_
  refine r_iload_n C dL_replace_3 rfl ?_
  rcases hp.two cvI (by simp) hC hB hM with ⟨E, k, hm, h1, h2⟩ | ⟨f', r', n, h1, h2⟩
  · refine c_V (st := [.ref o]) hX.stb C hE (h1 _) pk_X2_replace qm_L_161 0 6 rfl rfl wc_0 rfl rfl (Nat.le_of_ble_eq_true rfl) dL_replace_4 ⟨(Nat.le_of_ble_eq_true rfl), (Nat.le_of_ble_eq_true rfl)⟩ ⟨(Nat.le_of_ble_eq_true rfl), (Nat.le_of_ble_eq_true rfl)⟩ (fun _ _ h9 => h9.elim) (fun E1 hE1 => ?_)
    subst hE1
    simp only [List.mem_cons, List.not_mem_nil, or_false, Prod.mk.injEq] at hm
    rcases hm with ⟨rfl, rfl⟩ | ⟨rfl, rfl⟩ | ⟨rfl, rfl⟩
    · refine r_catch (name := "java/lang/IndexOutOfBoundsException") C [] ⟨0, 11, 14, 19⟩ [⟨0, 11, 18, 21⟩, ⟨0, 11, 22, 23⟩] (hnt.trans rfl) (fun z hz => absurd hz List.not_mem_nil) rfl (by decide) (C.2.2.2.2.1 _ qk_L_19) (hX.nw qca_IOB rfl hE) (fun q => ?_)
      refine r_astore C dL_replace_14 (by decide) rfl ?_
      refine r_iconst (v := nI 1) C dL_replace_16 (by decide) ?_
      exact r_iret C hr dL_replace_17 ⟨_, _, _, _, rfl, rfl, h2 _⟩ (Nat.le_of_ble_eq_true rfl) (Nat.le_of_ble_eq_true rfl)
    · refine r_catch (name := "java/lang/IllegalArgumentException") C [⟨0, 11, 14, 19⟩] ⟨0, 11, 18, 21⟩ [⟨0, 11, 22, 23⟩] (hnt.trans rfl) (fun z hz => by
        simp only [List.mem_cons, List.not_mem_nil, or_false] at hz
        subst hz
        exact Or.inr ⟨by decide, "java/lang/IndexOutOfBoundsException", C.2.2.2.2.1 _ qk_L_19, hN ("java/lang/IllegalArgumentException", "java/lang/IndexOutOfBoundsException") (by simp [NCL]) _ _ _ hE⟩) rfl (by decide) (C.2.2.2.2.1 _ qk_L_21) (hX.nw qca_IAE rfl hE) (fun q => ?_)
      refine r_astore C dL_replace_18 (by decide) rfl ?_
      refine r_iconst (v := nI 2) C dL_replace_20 (by decide) ?_
      exact r_iret C hr dL_replace_21 ⟨_, _, _, _, rfl, rfl, h2 _⟩ (Nat.le_of_ble_eq_true rfl) (Nat.le_of_ble_eq_true rfl)
    · refine r_catch (name := "java/lang/IllegalStateException") C [⟨0, 11, 14, 19⟩, ⟨0, 11, 18, 21⟩] ⟨0, 11, 22, 23⟩ [] (hnt.trans rfl) (fun z hz => by
        simp only [List.mem_cons, List.not_mem_nil, or_false] at hz
        rcases hz with rfl | rfl
        · exact Or.inr ⟨by decide, "java/lang/IndexOutOfBoundsException", C.2.2.2.2.1 _ qk_L_19, hN ("java/lang/IllegalStateException", "java/lang/IndexOutOfBoundsException") (by simp [NCL]) _ _ _ hE⟩
        · exact Or.inr ⟨by decide, "java/lang/IllegalArgumentException", C.2.2.2.2.1 _ qk_L_21, hN ("java/lang/IllegalStateException", "java/lang/IllegalArgumentException") (by simp [NCL]) _ _ _ hE⟩) rfl (by decide) (C.2.2.2.2.1 _ qk_L_23) (hX.nw qca_ISE rfl hE) (fun q => ?_)
      refine r_astore C dL_replace_22 (by decide) rfl ?_
      refine r_iconst (v := nI 3) C dL_replace_24 (by decide) ?_
      exact r_iret C hr dL_replace_25 ⟨_, _, _, _, rfl, rfl, h2 _⟩ (Nat.le_of_ble_eq_true rfl) (Nat.le_of_ble_eq_true rfl)
  · refine c_V (st := [.ref o]) hX.stb C hE (h1 _) pk_X2_replace qm_L_161 0 6 rfl rfl wc_0 rfl rfl (Nat.le_of_ble_eq_true rfl) dL_replace_4 ⟨(Nat.le_of_ble_eq_true rfl), (Nat.le_of_ble_eq_true rfl)⟩ ⟨(Nat.le_of_ble_eq_true rfl), (Nat.le_of_ble_eq_true rfl)⟩ (fun v9 w9 h9 => ?_) (fun _ h9 => h9.elim)
    obtain ⟨rfl, rfl⟩ := h9
    refine r_i2l C dL_replace_7 ?_
    refine g_putN hX C hE qu_X3 tyX3 tyX3_ok nmX3 (ci := 7) rfl 38 outo_at 0 (by decide) qn_L_13 rfl rfl (ty := .long) rfl rfl rfl (show 0 < 2 by omega) dL_replace_8 outo_set ?_
    refine r_goto (tgt := 26) C dL_replace_11 (by decide) ?_
    refine r_iconst (v := nI 0) C dL_replace_26 (by decide) ?_
    exact r_iret C hr dL_replace_27 ⟨_, _, _, _, rfl, rfl, h2⟩ (Nat.le_of_ble_eq_true rfl) (Nat.le_of_ble_eq_true rfl)
theorem dL_ofCursor_0 : decode cL_ofCursor 0 = .ok (.aload_n 3, 1) := dqo_45 (kb_of ke_L_ofCursor 0 rfl)
theorem dL_ofCursor_1 : decode cL_ofCursor 1 = .ok (.aload_n 0, 1) := dqo_42 (kb_of ke_L_ofCursor 1 rfl)
theorem dL_ofCursor_2 : decode cL_ofCursor 2 = .ok (.iload_n 1, 1) := dqo_27 (kb_of ke_L_ofCursor 2 rfl)
theorem dL_ofCursor_3 : decode cL_ofCursor 3 = .ok (.iload_n 2, 1) := dqo_28 (kb_of ke_L_ofCursor 3 rfl)
theorem dL_ofCursor_4 : decode cL_ofCursor 4 = .ok (.invokevirtual 164, 3) := dqo_182 0 164 (kb_of ke_L_ofCursor 4 rfl) (kb_of ke_L_ofCursor 5 rfl) (kb_of ke_L_ofCursor 6 rfl)
theorem dL_ofCursor_7 : decode cL_ofCursor 7 = .ok (.i2l, 1) := dqo_133 (kb_of ke_L_ofCursor 7 rfl)
theorem dL_ofCursor_8 : decode cL_ofCursor 8 = .ok (.putfield 13, 3) := dqo_181 0 13 (kb_of ke_L_ofCursor 8 rfl) (kb_of ke_L_ofCursor 9 rfl) (kb_of ke_L_ofCursor 10 rfl)
theorem dL_ofCursor_11 : decode cL_ofCursor 11 = .ok (.goto 11, 3) := dqo_167 0 11 (by decide) (kb_of ke_L_ofCursor 11 rfl) (kb_of ke_L_ofCursor 12 rfl) (kb_of ke_L_ofCursor 13 rfl)
theorem dL_ofCursor_14 : decode cL_ofCursor 14 = .ok (.astore 4, 2) := dqo_58 4 (kb_of ke_L_ofCursor 14 rfl) (kb_of ke_L_ofCursor 15 rfl)
theorem dL_ofCursor_16 : decode cL_ofCursor 16 = .ok (.iconst 1, 1) := dqo_4 (kb_of ke_L_ofCursor 16 rfl)
theorem dL_ofCursor_17 : decode cL_ofCursor 17 = .ok (.ireturn, 1) := dqo_172 (kb_of ke_L_ofCursor 17 rfl)
theorem dL_ofCursor_18 : decode cL_ofCursor 18 = .ok (.astore 4, 2) := dqo_58 4 (kb_of ke_L_ofCursor 18 rfl) (kb_of ke_L_ofCursor 19 rfl)
theorem dL_ofCursor_20 : decode cL_ofCursor 20 = .ok (.iconst 2, 1) := dqo_5 (kb_of ke_L_ofCursor 20 rfl)
theorem dL_ofCursor_21 : decode cL_ofCursor 21 = .ok (.ireturn, 1) := dqo_172 (kb_of ke_L_ofCursor 21 rfl)
theorem dL_ofCursor_22 : decode cL_ofCursor 22 = .ok (.iconst 0, 1) := dqo_3 (kb_of ke_L_ofCursor 22 rfl)
theorem dL_ofCursor_23 : decode cL_ofCursor 23 = .ok (.ireturn, 1) := dqo_172 (kb_of ke_L_ofCursor 23 rfl)
theorem qcw_L_ofCursor : Cond.codeWith yL_ofCursor cL_ofCursor 5 (some .int) [(0, 11, 14, 19), (0, 11, 18, 21)] ∈ GW := gw_5 180 rfl rfl
theorem pk_L_ofCursor : PkH yL_ofCursor cL_ofCursor 5 (some .int) [(0, 11, 14, 19), (0, 11, 18, 21)] 4 := ⟨⟨qt_L_ofCursor, qz_L, qcw_L_ofCursor⟩, mh_L.1, mh_L.2, pd_46⟩
theorem W_ofCursor {l : Launch} {D : va_G} {cy : Nat → ClassId} {X : (Nat → Prop) → State → Heap → Prop} {a : Nat → Nat → Nat} {ba ra : Nat → Nat} {f : Nat → Nat → Nat} {r : Nat → Nat → Int32} {hf : Nat → Nat → Nat} {hq : Nat → Nat → Int32} {kn th : Int32} {sm : Int64} {o : Nat} {n0 : Int64} {s0 : Value} {x0 x1 : Int32} (hX : EnvX X) (hN : EnvN X) (hC : CInv f) (hB : RB r) (hM : MR f r hf hq) (hp : PR l D cy X a ba ra f r hf hq kn th sm yX2_ofCursor cX2_ofCursor 4 (some .int) yX4_ofCursor cX4_ofCursor 3 (some .int) (rmk 9 4 48 420) [.int x0, .int x1] [("java/lang/IndexOutOfBoundsException", 1), ("java/lang/IllegalArgumentException", 2)]) : CmH l D cy X yL_ofCursor cL_ofCursor 5 (some .int) [(0, 11, 14, 19), (0, 11, 18, 21)] (rmk 9 1 6 300) [.ref (a 0 0), .int x0, .int x1, .ref o] (WC cy a f r kn ++ (WM cy ba ra hf hq kn th sm ++ [OUTo o n0 s0])) (fun v1 w1 => ∃ (f' : Nat → Nat → Nat) (r' : Nat → Nat → Int32) (k : Nat) (n1 : Int64), v1 = some (.int (nI k)) ∧ w1 = WC cy a f' r' kn ++ (WM cy ba ra hf hq kn th sm ++ [OUTo o n1 s0]) ∧ PN l D cy X ba ra hf hq kn th sm yX4_ofCursor cX4_ofCursor 3 (some .int) (rmk 9 4 48 420) [.int x0, .int x1] cvI f' r' k n1) (fun _ => False) := by
  refine CmH.of [some (.ref (a 0 0)), some (.int x0), some (.int x1), some (.ref o), none] pn_L rfl (Nat.le_of_ble_eq_true rfl) ?_
  intro p e s m args below meth c A C hE hr hnt
  refine r_aload_n C dL_ofCursor_0 rfl ?_
  refine r_aload_n C dL_ofCursor_1 rfl ?_
  refine r_iload_n C dL_ofCursor_2 rfl ?_
  refine r_iload_n C dL_ofCursor_3 rfl ?_
  rcases hp.two cvI (by simp) hC hB hM with ⟨E, k, hm, h1, h2⟩ | ⟨f', r', n, h1, h2⟩
  · refine c_V (st := [.ref o]) hX.stb C hE (h1 _) pk_X2_ofCursor qm_L_164 0 6 rfl rfl wc_0 rfl rfl (Nat.le_of_ble_eq_true rfl) dL_ofCursor_4 ⟨(Nat.le_of_ble_eq_true rfl), (Nat.le_of_ble_eq_true rfl)⟩ ⟨(Nat.le_of_ble_eq_true rfl), (Nat.le_of_ble_eq_true rfl)⟩ (fun _ _ h9 => h9.elim) (fun E1 hE1 => ?_)
    subst hE1
    simp only [List.mem_cons, List.not_mem_nil, or_false, Prod.mk.injEq] at hm
    rcases hm with ⟨rfl, rfl⟩ | ⟨rfl, rfl⟩
    · refine r_catch (name := "java/lang/IndexOutOfBoundsException") C [] ⟨0, 11, 14, 19⟩ [⟨0, 11, 18, 21⟩] (hnt.trans rfl) (fun z hz => absurd hz List.not_mem_nil) rfl (by decide) (C.2.2.2.2.1 _ qk_L_19) (hX.nw qca_IOB rfl hE) (fun q => ?_)
      refine r_astore C dL_ofCursor_14 (by decide) rfl ?_
      refine r_iconst (v := nI 1) C dL_ofCursor_16 (by decide) ?_
      exact r_iret C hr dL_ofCursor_17 ⟨_, _, _, _, rfl, rfl, h2 _⟩ (Nat.le_of_ble_eq_true rfl) (Nat.le_of_ble_eq_true rfl)
    · refine r_catch (name := "java/lang/IllegalArgumentException") C [⟨0, 11, 14, 19⟩] ⟨0, 11, 18, 21⟩ [] (hnt.trans rfl) (fun z hz => by
        simp only [List.mem_cons, List.not_mem_nil, or_false] at hz
        subst hz
        exact Or.inr ⟨by decide, "java/lang/IndexOutOfBoundsException", C.2.2.2.2.1 _ qk_L_19, hN ("java/lang/IllegalArgumentException", "java/lang/IndexOutOfBoundsException") (by simp [NCL]) _ _ _ hE⟩) rfl (by decide) (C.2.2.2.2.1 _ qk_L_21) (hX.nw qca_IAE rfl hE) (fun q => ?_)
      refine r_astore C dL_ofCursor_18 (by decide) rfl ?_
      refine r_iconst (v := nI 2) C dL_ofCursor_20 (by decide) ?_
      exact r_iret C hr dL_ofCursor_21 ⟨_, _, _, _, rfl, rfl, h2 _⟩ (Nat.le_of_ble_eq_true rfl) (Nat.le_of_ble_eq_true rfl)
  · refine c_V (st := [.ref o]) hX.stb C hE (h1 _) pk_X2_ofCursor qm_L_164 0 6 rfl rfl wc_0 rfl rfl (Nat.le_of_ble_eq_true rfl) dL_ofCursor_4 ⟨(Nat.le_of_ble_eq_true rfl), (Nat.le_of_ble_eq_true rfl)⟩ ⟨(Nat.le_of_ble_eq_true rfl), (Nat.le_of_ble_eq_true rfl)⟩ (fun v9 w9 h9 => ?_) (fun _ h9 => h9.elim)
    obtain ⟨rfl, rfl⟩ := h9
    refine r_i2l C dL_ofCursor_7 ?_
    refine g_putN hX C hE qu_X3 tyX3 tyX3_ok nmX3 (ci := 7) rfl 38 outo_at 0 (by decide) qn_L_13 rfl rfl (ty := .long) rfl rfl rfl (show 0 < 2 by omega) dL_ofCursor_8 outo_set ?_
    refine r_goto (tgt := 22) C dL_ofCursor_11 (by decide) ?_
    refine r_iconst (v := nI 0) C dL_ofCursor_22 (by decide) ?_
    exact r_iret C hr dL_ofCursor_23 ⟨_, _, _, _, rfl, rfl, h2⟩ (Nat.le_of_ble_eq_true rfl) (Nat.le_of_ble_eq_true rfl)
theorem dL_house_0 : decode cL_house 0 = .ok (.aload_n 2, 1) := dqo_44 (kb_of ke_L_house 0 rfl)
theorem dL_house_1 : decode cL_house 1 = .ok (.aload_n 0, 1) := dqo_42 (kb_of ke_L_house 1 rfl)
theorem dL_house_2 : decode cL_house 2 = .ok (.iload_n 1, 1) := dqo_27 (kb_of ke_L_house 2 rfl)
theorem dL_house_3 : decode cL_house 3 = .ok (.invokevirtual 167, 3) := dqo_182 0 167 (kb_of ke_L_house 3 rfl) (kb_of ke_L_house 4 rfl) (kb_of ke_L_house 5 rfl)
theorem dL_house_6 : decode cL_house 6 = .ok (.i2l, 1) := dqo_133 (kb_of ke_L_house 6 rfl)
theorem dL_house_7 : decode cL_house 7 = .ok (.putfield 13, 3) := dqo_181 0 13 (kb_of ke_L_house 7 rfl) (kb_of ke_L_house 8 rfl) (kb_of ke_L_house 9 rfl)
theorem dL_house_10 : decode cL_house 10 = .ok (.goto 6, 3) := dqo_167 0 6 (by decide) (kb_of ke_L_house 10 rfl) (kb_of ke_L_house 11 rfl) (kb_of ke_L_house 12 rfl)
theorem dL_house_13 : decode cL_house 13 = .ok (.astore_n 3, 1) := dqo_78 (kb_of ke_L_house 13 rfl)
theorem dL_house_14 : decode cL_house 14 = .ok (.iconst 1, 1) := dqo_4 (kb_of ke_L_house 14 rfl)
theorem dL_house_15 : decode cL_house 15 = .ok (.ireturn, 1) := dqo_172 (kb_of ke_L_house 15 rfl)
theorem dL_house_16 : decode cL_house 16 = .ok (.iconst 0, 1) := dqo_3 (kb_of ke_L_house 16 rfl)
theorem dL_house_17 : decode cL_house 17 = .ok (.ireturn, 1) := dqo_172 (kb_of ke_L_house 17 rfl)
theorem qcw_L_house : Cond.codeWith yL_house cL_house 4 (some .int) [(0, 10, 13, 21)] ∈ GW := gw_5 184 rfl rfl
theorem pk_L_house : PkH yL_house cL_house 4 (some .int) [(0, 10, 13, 21)] 3 := ⟨⟨qt_L_house, qz_L, qcw_L_house⟩, mh_L.1, mh_L.2, pd_48⟩
theorem W_house {l : Launch} {D : va_G} {cy : Nat → ClassId} {X : (Nat → Prop) → State → Heap → Prop} {a : Nat → Nat → Nat} {ba ra : Nat → Nat} {f : Nat → Nat → Nat} {r : Nat → Nat → Int32} {hf : Nat → Nat → Nat} {hq : Nat → Nat → Int32} {kn th : Int32} {sm : Int64} {o : Nat} {n0 : Int64} {s0 : Value} {x0 : Int32} (hX : EnvX X) (hN : EnvN X) (hC : CInv f) (hB : RB r) (hM : MR f r hf hq) (hp : PR l D cy X a ba ra f r hf hq kn th sm yX2_house cX2_house 2 (some .int) yX4_house cX4_house 2 (some .int) (rmk 9 4 48 420) [.int x0] [("java/lang/IllegalArgumentException", 1)]) : CmH l D cy X yL_house cL_house 4 (some .int) [(0, 10, 13, 21)] (rmk 9 1 6 300) [.ref (a 0 0), .int x0, .ref o] (WC cy a f r kn ++ (WM cy ba ra hf hq kn th sm ++ [OUTo o n0 s0])) (fun v1 w1 => ∃ (f' : Nat → Nat → Nat) (r' : Nat → Nat → Int32) (k : Nat) (n1 : Int64), v1 = some (.int (nI k)) ∧ w1 = WC cy a f' r' kn ++ (WM cy ba ra hf hq kn th sm ++ [OUTo o n1 s0]) ∧ PN l D cy X ba ra hf hq kn th sm yX4_house cX4_house 2 (some .int) (rmk 9 4 48 420) [.int x0] cvI f' r' k n1) (fun _ => False) := by
  refine CmH.of [some (.ref (a 0 0)), some (.int x0), some (.ref o), none] pn_L rfl (Nat.le_of_ble_eq_true rfl) ?_
  intro p e s m args below meth c A C hE hr hnt
  refine r_aload_n C dL_house_0 rfl ?_
  refine r_aload_n C dL_house_1 rfl ?_
  refine r_iload_n C dL_house_2 rfl ?_
  rcases hp.two cvI (by simp) hC hB hM with ⟨E, k, hm, h1, h2⟩ | ⟨f', r', n, h1, h2⟩
  · refine c_V (st := [.ref o]) hX.stb C hE (h1 _) pk_X2_house qm_L_167 0 6 rfl rfl wc_0 rfl rfl (Nat.le_of_ble_eq_true rfl) dL_house_3 ⟨(Nat.le_of_ble_eq_true rfl), (Nat.le_of_ble_eq_true rfl)⟩ ⟨(Nat.le_of_ble_eq_true rfl), (Nat.le_of_ble_eq_true rfl)⟩ (fun _ _ h9 => h9.elim) (fun E1 hE1 => ?_)
    subst hE1
    simp only [List.mem_cons, List.not_mem_nil, or_false, Prod.mk.injEq] at hm
    obtain ⟨rfl, rfl⟩ := hm
    refine r_catch (name := "java/lang/IllegalArgumentException") C [] ⟨0, 10, 13, 21⟩ [] (hnt.trans rfl) (fun z hz => absurd hz List.not_mem_nil) rfl (by decide) (C.2.2.2.2.1 _ qk_L_21) (hX.nw qca_IAE rfl hE) (fun q => ?_)
    refine r_astore_n C dL_house_13 (by decide) rfl ?_
    refine r_iconst (v := nI 1) C dL_house_14 (by decide) ?_
    exact r_iret C hr dL_house_15 ⟨_, _, _, _, rfl, rfl, h2 _⟩ (Nat.le_of_ble_eq_true rfl) (Nat.le_of_ble_eq_true rfl)
  · refine c_V (st := [.ref o]) hX.stb C hE (h1 _) pk_X2_house qm_L_167 0 6 rfl rfl wc_0 rfl rfl (Nat.le_of_ble_eq_true rfl) dL_house_3 ⟨(Nat.le_of_ble_eq_true rfl), (Nat.le_of_ble_eq_true rfl)⟩ ⟨(Nat.le_of_ble_eq_true rfl), (Nat.le_of_ble_eq_true rfl)⟩ (fun v9 w9 h9 => ?_) (fun _ h9 => h9.elim)
    obtain ⟨rfl, rfl⟩ := h9
    refine r_i2l C dL_house_6 ?_
    refine g_putN hX C hE qu_X3 tyX3 tyX3_ok nmX3 (ci := 7) rfl 38 outo_at 0 (by decide) qn_L_13 rfl rfl (ty := .long) rfl rfl rfl (show 0 < 2 by omega) dL_house_7 outo_set ?_
    refine r_goto (tgt := 16) C dL_house_10 (by decide) ?_
    refine r_iconst (v := nI 0) C dL_house_16 (by decide) ?_
    exact r_iret C hr dL_house_17 ⟨_, _, _, _, rfl, rfl, h2⟩ (Nat.le_of_ble_eq_true rfl) (Nat.le_of_ble_eq_true rfl)
