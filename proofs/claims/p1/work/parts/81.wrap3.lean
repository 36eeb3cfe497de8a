/-! THE LAW'S WRAPPERS, 3 -/
theorem dL_indexOf_0 : decode cL_indexOf 0 = .ok (.aload_n 3, 1) := dqo_45 (kb_of ke_L_indexOf 0 rfl)
theorem dL_indexOf_1 : decode cL_indexOf 1 = .ok (.aload_n 0, 1) := dqo_42 (kb_of ke_L_indexOf 1 rfl)
theorem dL_indexOf_2 : decode cL_indexOf 2 = .ok (.iload_n 1, 1) := dqo_27 (kb_of ke_L_indexOf 2 rfl)
theorem dL_indexOf_3 : decode cL_indexOf 3 = .ok (.iload_n 2, 1) := dqo_28 (kb_of ke_L_indexOf 3 rfl)
theorem dL_indexOf_4 : decode cL_indexOf 4 = .ok (.invokevirtual 97, 3) := dqo_182 0 97 (kb_of ke_L_indexOf 4 rfl) (kb_of ke_L_indexOf 5 rfl) (kb_of ke_L_indexOf 6 rfl)
theorem dL_indexOf_7 : decode cL_indexOf 7 = .ok (.i2l, 1) := dqo_133 (kb_of ke_L_indexOf 7 rfl)
theorem dL_indexOf_8 : decode cL_indexOf 8 = .ok (.putfield 13, 3) := dqo_181 0 13 (kb_of ke_L_indexOf 8 rfl) (kb_of ke_L_indexOf 9 rfl) (kb_of ke_L_indexOf 10 rfl)
theorem dL_indexOf_11 : decode cL_indexOf 11 = .ok (.goto 7, 3) := dqo_167 0 7 (by decide) (kb_of ke_L_indexOf 11 rfl) (kb_of ke_L_indexOf 12 rfl) (kb_of ke_L_indexOf 13 rfl)
theorem dL_indexOf_14 : decode cL_indexOf 14 = .ok (.astore 4, 2) := dqo_58 4 (kb_of ke_L_indexOf 14 rfl) (kb_of ke_L_indexOf 15 rfl)
theorem dL_indexOf_16 : decode cL_indexOf 16 = .ok (.iconst 1, 1) := dqo_4 (kb_of ke_L_indexOf 16 rfl)
theorem dL_indexOf_17 : decode cL_indexOf 17 = .ok (.ireturn, 1) := dqo_172 (kb_of ke_L_indexOf 17 rfl)
theorem dL_indexOf_18 : decode cL_indexOf 18 = .ok (.iconst 0, 1) := dqo_3 (kb_of ke_L_indexOf 18 rfl)
theorem dL_indexOf_19 : decode cL_indexOf 19 = .ok (.ireturn, 1) := dqo_172 (kb_of ke_L_indexOf 19 rfl)
theorem qcw_L_indexOf : Cond.codeWith yL_indexOf cL_indexOf 5 (some .int) [(0, 11, 14, 19)] ∈ GW := gw_5 7 rfl rfl
theorem pk_L_indexOf : PkH yL_indexOf cL_indexOf 5 (some .int) [(0, 11, 14, 19)] 4 := ⟨⟨qt_L_indexOf, qz_L, qcw_L_indexOf⟩, mh_L.1, mh_L.2, pd_46⟩
theorem pk_X2_indexOf : PkV RX2 yX2_indexOf cX2_indexOf 3 (some .int) 2 := ⟨⟨qi_X2_indexOf, qs_X2_indexOf, qz_X2, qc_X2_indexOf⟩, rfl, mh_X2.1, mh_X2.2, pd_0⟩
theorem W_indexOf {l : Launch} {D : va_G} {cy : Nat → ClassId} {X : (Nat → Prop) → State → Heap → Prop} {a : Nat → Nat → Nat} {ba ra : Nat → Nat} {f : Nat → Nat → Nat} {r : Nat → Nat → Int32} {hf : Nat → Nat → Nat} {hq : Nat → Nat → Int32} {kn th : Int32} {sm : Int64} {o : Nat} {n0 : Int64} {s0 : Value} {x0 x1 : Int32} (hX : EnvX X) (hN : EnvN X) (hC : CInv f) (hB : RB r) (hM : MR f r hf hq) (hp : PR l D cy X a ba ra f r hf hq kn th sm yX2_indexOf cX2_indexOf 3 (some .int) yX4_indexOf cX4_indexOf 3 (some .int) (rmk 9 4 48 420) [.int x0, .int x1] [("java/lang/IndexOutOfBoundsException", 1)]) : CmH l D cy X yL_indexOf cL_indexOf 5 (some .int) [(0, 11, 14, 19)] (rmk 9 1 6 300) [.ref (a 0 0), .int x0, .int x1, .ref o] (WC cy a f r kn ++ (WM cy ba ra hf hq kn th sm ++ [OUTo o n0 s0])) (fun v1 w1 => ∃ (f' : Nat → Nat → Nat) (r' : Nat → Nat → Int32) (k : Nat) (n1 : Int64), v1 = some (.int (nI k)) ∧ w1 = WC cy a f' r' kn ++ (WM cy ba ra hf hq kn th sm ++ [OUTo o n1 s0]) ∧ PN l D cy X ba ra hf hq kn th sm yX4_indexOf cX4_indexOf 3 (some .int) (rmk 9 4 48 420) [.int x0, .int x1] cvI f' r' k n1) (fun _ => False) := by
  refine CmH.of [some (.ref (a 0 0)), some (.int x0), some (.int x1), some (.ref o), none] pn_L rfl (Nat.le_of_ble_eq_true rfl) ?_
  intro p e s m args below meth c A C hE hr hnt
  refine r_aload_n C dL_indexOf_0 rfl ?_
  refine r_aload_n C dL_indexOf_1 rfl ?_
  refine r_iload_n C dL_indexOf_2 rfl ?_
  refine r_iload_n C dL_indexOf_3 rfl ?_
  rcases hp.two cvI (by simp) hC hB hM with ⟨E, k, hm, h1, h2⟩ | ⟨f', r', n, h1, h2⟩
  · refine c_V (st := [.ref o]) hX.stb C hE (h1 _) pk_X2_indexOf qm_L_97 0 6 rfl rfl wc_0 rfl rfl (Nat.le_of_ble_eq_true rfl) dL_indexOf_4 ⟨(Nat.le_of_ble_eq_true rfl), (Nat.le_of_ble_eq_true rfl)⟩ ⟨(Nat.le_of_ble_eq_true rfl), (Nat.le_of_ble_eq_true rfl)⟩ (fun _ _ h9 => h9.elim) (fun E1 hE1 => ?_)
    subst hE1
    simp only [List.mem_cons, List.not_mem_nil, or_false, Prod.mk.injEq] at hm
    obtain ⟨rfl, rfl⟩ := hm
    refine r_catch (name := "java/lang/IndexOutOfBoundsException") C [] ⟨0, 11, 14, 19⟩ [] (hnt.trans rfl) (fun z hz => absurd hz List.not_mem_nil) rfl (by decide) (C.2.2.2.2.1 _ qk_L_19) (hX.nw qca_IOB rfl hE) (fun q => ?_)
    refine r_astore C dL_indexOf_14 (by decide) rfl ?_
    refine r_iconst (v := nI 1) C dL_indexOf_16 (by decide) ?_
    exact r_iret C hr dL_indexOf_17 ⟨_, _, _, _, rfl, rfl, h2 _⟩ (Nat.le_of_ble_eq_true rfl) (Nat.le_of_ble_eq_true rfl)
  · refine c_V (st := [.ref o]) hX.stb C hE (h1 _) pk_X2_indexOf qm_L_97 0 6 rfl rfl wc_0 rfl rfl (Nat.le_of_ble_eq_true rfl) dL_indexOf_4 ⟨(Nat.le_of_ble_eq_true rfl), (Nat.le_of_ble_eq_true rfl)⟩ ⟨(Nat.le_of_ble_eq_true rfl), (Nat.le_of_ble_eq_true rfl)⟩ (fun v9 w9 h9 => ?_) (fun _ h9 => h9.elim)
    obtain ⟨rfl, rfl⟩ := h9
    refine r_i2l C dL_indexOf_7 ?_
    refine g_putN hX C hE qu_X3 tyX3 tyX3_ok nmX3 (ci := 7) rfl 38 outo_at 0 (by decide) qn_L_13 rfl rfl (ty := .long) rfl rfl rfl (show 0 < 2 by omega) dL_indexOf_8 outo_set ?_
    refine r_goto (tgt := 18) C dL_indexOf_11 (by decide) ?_
    refine r_iconst (v := nI 0) C dL_indexOf_18 (by decide) ?_
    exact r_iret C hr dL_indexOf_19 ⟨_, _, _, _, rfl, rfl, h2⟩ (Nat.le_of_ble_eq_true rfl) (Nat.le_of_ble_eq_true rfl)
theorem dL_lastIndexOf_0 : decode cL_lastIndexOf 0 = .ok (.aload_n 3, 1) := dqo_45 (kb_of ke_L_lastIndexOf 0 rfl)
theorem dL_lastIndexOf_1 : decode cL_lastIndexOf 1 = .ok (.aload_n 0, 1) := dqo_42 (kb_of ke_L_lastIndexOf 1 rfl)
theorem dL_lastIndexOf_2 : decode cL_lastIndexOf 2 = .ok (.iload_n 1, 1) := dqo_27 (kb_of ke_L_lastIndexOf 2 rfl)
theorem dL_lastIndexOf_3 : decode cL_lastIndexOf 3 = .ok (.iload_n 2, 1) := dqo_28 (kb_of ke_L_lastIndexOf 3 rfl)
theorem dL_lastIndexOf_4 : decode cL_lastIndexOf 4 = .ok (.invokevirtual 100, 3) := dqo_182 0 100 (kb_of ke_L_lastIndexOf 4 rfl) (kb_of ke_L_lastIndexOf 5 rfl) (kb_of ke_L_lastIndexOf 6 rfl)
theorem dL_lastIndexOf_7 : decode cL_lastIndexOf 7 = .ok (.i2l, 1) := dqo_133 (kb_of ke_L_lastIndexOf 7 rfl)
theorem dL_lastIndexOf_8 : decode cL_lastIndexOf 8 = .ok (.putfield 13, 3) := dqo_181 0 13 (kb_of ke_L_lastIndexOf 8 rfl) (kb_of ke_L_lastIndexOf 9 rfl) (kb_of ke_L_lastIndexOf 10 rfl)
theorem dL_lastIndexOf_11 : decode cL_lastIndexOf 11 = .ok (.goto 7, 3) := dqo_167 0 7 (by decide) (kb_of ke_L_lastIndexOf 11 rfl) (kb_of ke_L_lastIndexOf 12 rfl) (kb_of ke_L_lastIndexOf 13 rfl)
theorem dL_lastIndexOf_14 : decode cL_lastIndexOf 14 = .ok (.astore 4, 2) := dqo_58 4 (kb_of ke_L_lastIndexOf 14 rfl) (kb_of ke_L_lastIndexOf 15 rfl)
theorem dL_lastIndexOf_16 : decode cL_lastIndexOf 16 = .ok (.iconst 1, 1) := dqo_4 (kb_of ke_L_lastIndexOf 16 rfl)
theorem dL_lastIndexOf_17 : decode cL_lastIndexOf 17 = .ok (.ireturn, 1) := dqo_172 (kb_of ke_L_lastIndexOf 17 rfl)
theorem dL_lastIndexOf_18 : decode cL_lastIndexOf 18 = .ok (.iconst 0, 1) := dqo_3 (kb_of ke_L_lastIndexOf 18 rfl)
theorem dL_lastIndexOf_19 : decode cL_lastIndexOf 19 = .ok (.ireturn, 1) := dqo_172 (kb_of ke_L_lastIndexOf 19 rfl)
theorem qcw_L_lastIndexOf : Cond.codeWith yL_lastIndexOf cL_lastIndexOf 5 (some .int) [(0, 11, 14, 19)] ∈ GW := gw_5 14 rfl rfl
theorem pk_L_lastIndexOf : PkH yL_lastIndexOf cL_lastIndexOf 5 (some .int) [(0, 11, 14, 19)] 4 := ⟨⟨qt_L_lastIndexOf, qz_L, qcw_L_lastIndexOf⟩, mh_L.1, mh_L.2, pd_46⟩
theorem pk_X2_lastIndexOf : PkV RX2 yX2_lastIndexOf cX2_lastIndexOf 5 (some .int) 2 := ⟨⟨qi_X2_lastIndexOf, qs_X2_lastIndexOf, qz_X2, qc_X2_lastIndexOf⟩, rfl, mh_X2.1, mh_X2.2, pd_0⟩
theorem W_lastIndexOf {l : Launch} {D : va_G} {cy : Nat → ClassId} {X : (Nat → Prop) → State → Heap → Prop} {a : Nat → Nat → Nat} {ba ra : Nat → Nat} {f : Nat → Nat → Nat} {r : Nat → Nat → Int32} {hf : Nat → Nat → Nat} {hq : Nat → Nat → Int32} {kn th : Int32} {sm : Int64} {o : Nat} {n0 : Int64} {s0 : Value} {x0 x1 : Int32} (hX : EnvX X) (hN : EnvN X) (hC : CInv f) (hB : RB r) (hM : MR f r hf hq) (hp : PR l D cy X a ba ra f r hf hq kn th sm yX2_lastIndexOf cX2_lastIndexOf 5 (some .int) yX4_lastIndexOf cX4_lastIndexOf 3 (some .int) (rmk 9 4 48 420) [.int x0, .int x1] [("java/lang/IndexOutOfBoundsException", 1)]) : CmH l D cy X yL_lastIndexOf cL_lastIndexOf 5 (some .int) [(0, 11, 14, 19)] (rmk 9 1 6 300) [.ref (a 0 0), .int x0, .int x1, .ref o] (WC cy a f r kn ++ (WM cy ba ra hf hq kn th sm ++ [OUTo o n0 s0])) (fun v1 w1 => ∃ (f' : Nat → Nat → Nat) (r' : Nat → Nat → Int32) (k : Nat) (n1 : Int64), v1 = some (.int (nI k)) ∧ w1 = WC cy a f' r' kn ++ (WM cy ba ra hf hq kn th sm ++ [OUTo o n1 s0]) ∧ PN l D cy X ba ra hf hq kn th sm yX4_lastIndexOf cX4_lastIndexOf 3 (some .int) (rmk 9 4 48 420) [.int x0, .int x1] cvI f' r' k n1) (fun _ => False) := by
  refine CmH.of [some (.ref (a 0 0)), some (.int x0), some (.int x1), some (.ref o), none] pn_L rfl (Nat.le_of_ble_eq_true rfl) ?_
  intro p e s m args below meth c A C hE hr hnt
  refine r_aload_n C dL_lastIndexOf_0 rfl ?_
  refine r_aload_n C dL_lastIndexOf_1 rfl ?_
  refine r_iload_n C dL_lastIndexOf_2 rfl ?_
  refine r_iload_n C dL_lastIndexOf_3 rfl ?_
  rcases hp.two cvI (by simp) hC hB hM with ⟨E, k, hm, h1, h2⟩ | ⟨f', r', n, h1, h2⟩
  · refine c_V (st := [.ref o]) hX.stb C hE (h1 _) pk_X2_lastIndexOf qm_L_100 0 6 rfl rfl wc_0 rfl rfl (Nat.le_of_ble_eq_true rfl) dL_lastIndexOf_4 ⟨(Nat.le_of_ble_eq_true rfl), (Nat.le_of_ble_eq_true rfl)⟩ ⟨(Nat.le_of_ble_eq_true rfl), (Nat.le_of_ble_eq_true rfl)⟩ (fun _ _ h9 => h9.elim) (fun E1 hE1 => ?_)
    subst hE1
    simp only [List.mem_cons, List.not_mem_nil, or_false, Prod.mk.injEq] at hm
    obtain ⟨rfl, rfl⟩ := hm
    refine r_catch (name := "java/lang/IndexOutOfBoundsException") C [] ⟨0, 11, 14, 19⟩ [] (hnt.trans rfl) (fun z hz => absurd hz List.not_mem_nil) rfl (by decide) (C.2.2.2.2.1 _ qk_L_19) (hX.nw qca_IOB rfl hE) (fun q => ?_)
    refine r_astore C dL_lastIndexOf_14 (by decide) rfl ?_
    refine r_iconst (v := nI 1) C dL_lastIndexOf_16 (by decide) ?_
    exact r_iret C hr dL_lastIndexOf_17 ⟨_, _, _, _, rfl, rfl, h2 _⟩ (Nat.le_of_ble_eq_true rfl) (Nat.le_of_ble_eq_true rfl)
  · refine c_V (st := [.ref o]) hX.stb C hE (h1 _) pk_X2_lastIndexOf qm_L_100 0 6 rfl rfl wc_0 rfl rfl (Nat.le_of_ble_eq_true rfl) dL_lastIndexOf_4 ⟨(Nat.le_of_ble_eq_true rfl), (Nat.le_of_ble_eq_true rfl)⟩ ⟨(Nat.le_of_ble_eq_true rfl), (Nat.le_of_ble_eq_true rfl)⟩ (fun v9 w9 h9 => ?_) (fun _ h9 => h9.elim)
    obtain ⟨rfl, rfl⟩ := h9
    refine r_i2l C dL_lastIndexOf_7 ?_
    refine g_putN hX C hE qu_X3 tyX3 tyX3_ok nmX3 (ci := 7) rfl 38 outo_at 0 (by decide) qn_L_13 rfl rfl (ty := .long) rfl rfl rfl (show 0 < 2 by omega) dL_lastIndexOf_8 outo_set ?_
    refine r_goto (tgt := 18) C dL_lastIndexOf_11 (by decide) ?_
    refine r_iconst (v := nI 0) C dL_lastIndexOf_18 (by decide) ?_
    exact r_iret C hr dL_lastIndexOf_19 ⟨_, _, _, _, rfl, rfl, h2⟩ (Nat.le_of_ble_eq_true rfl) (Nat.le_of_ble_eq_true rfl)
theorem dL_contains_0 : decode cL_contains 0 = .ok (.aload_n 3, 1) := dqo_45 (kb_of ke_L_contains 0 rfl)
theorem dL_contains_1 : decode cL_contains 1 = .ok (.aload_n 0, 1) := dqo_42 (kb_of ke_L_contains 1 rfl)
theorem dL_contains_2 : decode cL_contains 2 = .ok (.iload_n 1, 1) := dqo_27 (kb_of ke_L_contains 2 rfl)
theorem dL_contains_3 : decode cL_contains 3 = .ok (.iload_n 2, 1) := dqo_28 (kb_of ke_L_contains 3 rfl)
theorem dL_contains_4 : decode cL_contains 4 = .ok (.invokevirtual 103, 3) := dqo_182 0 103 (kb_of ke_L_contains 4 rfl) (kb_of ke_L_contains 5 rfl) (kb_of ke_L_contains 6 rfl)
theorem dL_contains_7 : decode cL_contains 7 = .ok (.ifCond .eq 7, 3) := dqo_153 0 7 (by decide) (kb_of ke_L_contains 7 rfl) (kb_of ke_L_contains 8 rfl) (kb_of ke_L_contains 9 rfl)
theorem dL_contains_10 : decode cL_contains 10 = .ok (.lconst 1, 1) := dqo_10 (kb_of ke_L_contains 10 rfl)
theorem dL_contains_11 : decode cL_contains 11 = .ok (.goto 4, 3) := dqo_167 0 4 (by decide) (kb_of ke_L_contains 11 rfl) (kb_of ke_L_contains 12 rfl) (kb_of ke_L_contains 13 rfl)
theorem dL_contains_14 : decode cL_contains 14 = .ok (.lconst 0, 1) := dqo_9 (kb_of ke_L_contains 14 rfl)
theorem dL_contains_15 : decode cL_contains 15 = .ok (.putfield 13, 3) := dqo_181 0 13 (kb_of ke_L_contains 15 rfl) (kb_of ke_L_contains 16 rfl) (kb_of ke_L_contains 17 rfl)
theorem dL_contains_18 : decode cL_contains 18 = .ok (.goto 7, 3) := dqo_167 0 7 (by decide) (kb_of ke_L_contains 18 rfl) (kb_of ke_L_contains 19 rfl) (kb_of ke_L_contains 20 rfl)
theorem dL_contains_21 : decode cL_contains 21 = .ok (.astore 4, 2) := dqo_58 4 (kb_of ke_L_contains 21 rfl) (kb_of ke_L_contains 22 rfl)
theorem dL_contains_23 : decode cL_contains 23 = .ok (.iconst 1, 1) := dqo_4 (kb_of ke_L_contains 23 rfl)
theorem dL_contains_24 : decode cL_contains 24 = .ok (.ireturn, 1) := dqo_172 (kb_of ke_L_contains 24 rfl)
theorem dL_contains_25 : decode cL_contains 25 = .ok (.iconst 0, 1) := dqo_3 (kb_of ke_L_contains 25 rfl)
theorem dL_contains_26 : decode cL_contains 26 = .ok (.ireturn, 1) := dqo_172 (kb_of ke_L_contains 26 rfl)
theorem qcw_L_contains : Cond.codeWith yL_contains cL_contains 5 (some .int) [(0, 18, 21, 19)] ∈ GW := gw_5 21 rfl rfl
theorem pk_L_contains : PkH yL_contains cL_contains 5 (some .int) [(0, 18, 21, 19)] 4 := ⟨⟨qt_L_contains, qz_L, qcw_L_contains⟩, mh_L.1, mh_L.2, pd_46⟩
theorem pk_X2_contains : PkV RX2 yX2_contains cX2_contains 3 (some .boolean) 2 := ⟨⟨qi_X2_contains, qs_X2_contains, qz_X2, qc_X2_contains⟩, rfl, mh_X2.1, mh_X2.2, pd_5⟩
theorem W_contains {l : Launch} {D : va_G} {cy : Nat → ClassId} {X : (Nat → Prop) → State → Heap → Prop} {a : Nat → Nat → Nat} {ba ra : Nat → Nat} {f : Nat → Nat → Nat} {r : Nat → Nat → Int32} {hf : Nat → Nat → Nat} {hq : Nat → Nat → Int32} {kn th : Int32} {sm : Int64} {o : Nat} {n0 : Int64} {s0 : Value} {x0 x1 : Int32} (hX : EnvX X) (hN : EnvN X) (hC : CInv f) (hB : RB r) (hM : MR f r hf hq) (hp : PR l D cy X a ba ra f r hf hq kn th sm yX2_contains cX2_contains 3 (some .boolean) yX4_contains cX4_contains 3 (some .boolean) (rmk 9 4 48 420) [.int x0, .int x1] [("java/lang/IndexOutOfBoundsException", 1)]) : CmH l D cy X yL_contains cL_contains 5 (some .int) [(0, 18, 21, 19)] (rmk 9 1 6 300) [.ref (a 0 0), .int x0, .int x1, .ref o] (WC cy a f r kn ++ (WM cy ba ra hf hq kn th sm ++ [OUTo o n0 s0])) (fun v1 w1 => ∃ (f' : Nat → Nat → Nat) (r' : Nat → Nat → Int32) (k : Nat) (n1 : Int64), v1 = some (.int (nI k)) ∧ w1 = WC cy a f' r' kn ++ (WM cy ba ra hf hq kn th sm ++ [OUTo o n1 s0]) ∧ PN l D cy X ba ra hf hq kn th sm yX4_contains cX4_contains 3 (some .boolean) (rmk 9 4 48 420) [.int x0, .int x1] cvZ f' r' k n1) (fun _ => False) := by
  refine CmH.of [some (.ref (a 0 0)), some (.int x0), some (.int x1), some (.ref o), none] pn_L rfl (Nat.le_of_ble_eq_true rfl) ?_
  intro p e s m args below meth c A C hE hr hnt
  refine r_aload_n C dL_contains_0 rfl ?_
  refine r_aload_n C dL_contains_1 rfl ?_
  refine r_iload_n C dL_contains_2 rfl ?_
  refine r_iload_n C dL_contains_3 rfl ?_
  rcases hp.two cvZ (by simp) hC hB hM with ⟨E, k, hm, h1, h2⟩ | ⟨f', r', n, h1, h2⟩
  · refine c_V (st := [.ref o]) hX.stb C hE (h1 _) pk_X2_contains qm_L_103 0 6 rfl rfl wc_0 rfl rfl (Nat.le_of_ble_eq_true rfl) dL_contains_4 ⟨(Nat.le_of_ble_eq_true rfl), (Nat.le_of_ble_eq_true rfl)⟩ ⟨(Nat.le_of_ble_eq_true rfl), (Nat.le_of_ble_eq_true rfl)⟩ (fun _ _ h9 => h9.elim) (fun E1 hE1 => ?_)
    subst hE1
    simp only [List.mem_cons, List.not_mem_nil, or_false, Prod.mk.injEq] at hm
    obtain ⟨rfl, rfl⟩ := hm
    refine r_catch (name := "java/lang/IndexOutOfBoundsException") C [] ⟨0, 18, 21, 19⟩ [] (hnt.trans rfl) (fun z hz => absurd hz List.not_mem_nil) rfl (by decide) (C.2.2.2.2.1 _ qk_L_19) (hX.nw qca_IOB rfl hE) (fun q => ?_)
    refine r_astore C dL_contains_21 (by decide) rfl ?_
    refine r_iconst (v := nI 1) C dL_contains_23 (by decide) ?_
    exact r_iret C hr dL_contains_24 ⟨_, _, _, _, rfl, rfl, h2 _⟩ (Nat.le_of_ble_eq_true rfl) (Nat.le_of_ble_eq_true rfl)
  · refine c_V (st := [.ref o]) hX.stb C hE (h1 _) pk_X2_contains qm_L_103 0 6 rfl rfl wc_0 rfl rfl (Nat.le_of_ble_eq_true rfl) dL_contains_4 ⟨(Nat.le_of_ble_eq_true rfl), (Nat.le_of_ble_eq_true rfl)⟩ ⟨(Nat.le_of_ble_eq_true rfl), (Nat.le_of_ble_eq_true rfl)⟩ (fun v9 w9 h9 => ?_) (fun _ h9 => h9.elim)
    obtain ⟨rfl, rfl⟩ := h9
    refine r_if_eq (tgt := 14) C dL_contains_7 (by decide) (fun h0 => ?_) (fun h0 => ?_)
    · refine r_lconst (v := 0) C dL_contains_14 (by decide) ?_
      refine g_putN hX C hE qu_X3 tyX3 tyX3_ok nmX3 (ci := 7) rfl 38 outo_at 0 (by decide) qn_L_13 rfl rfl (ty := .long) rfl rfl rfl (show 0 < 2 by omega) dL_contains_15 outo_set ?_
      refine r_goto (tgt := 25) C dL_contains_18 (by decide) ?_
      refine r_iconst (v := nI 0) C dL_contains_25 (by decide) ?_
      exact r_iret C hr dL_contains_26 ⟨_, _, _, _, rfl, rfl, by rw [show cvZ n = 0 from if_pos h0] at h2; exact h2⟩ (Nat.le_of_ble_eq_true rfl) (Nat.le_of_ble_eq_true rfl)
    · refine r_lconst (v := 1) C dL_contains_10 (by decide) ?_
      refine r_goto (tgt := 15) C dL_contains_11 (by decide) ?_
      refine g_putN hX C hE qu_X3 tyX3 tyX3_ok nmX3 (ci := 7) rfl 38 outo_at 0 (by decide) qn_L_13 rfl rfl (ty := .long) rfl rfl rfl (show 0 < 2 by omega) dL_contains_15 outo_set ?_
      refine r_goto (tgt := 25) C dL_contains_18 (by decide) ?_
      refine r_iconst (v := nI 0) C dL_contains_25 (by decide) ?_
      exact r_iret C hr dL_contains_26 ⟨_, _, _, _, rfl, rfl, by rw [show cvZ n = 1 from if_neg h0] at h2; exact h2⟩ (Nat.le_of_ble_eq_true rfl) (Nat.le_of_ble_eq_true rfl)
theorem dL_howOften_0 : decode cL_howOften 0 = .ok (.aload_n 3, 1) := dqo_45 (kb_of ke_L_howOften 0 rfl)
theorem dL_howOften_1 : decode cL_howOften 1 = .ok (.aload_n 0, 1) := dqo_42 (kb_of ke_L_howOften 1 rfl)
theorem dL_howOften_2 : decode cL_howOften 2 = .ok (.iload_n 1, 1) := dqo_27 (kb_of ke_L_howOften 2 rfl)
theorem dL_howOften_3 : decode cL_howOften 3 = .ok (.iload_n 2, 1) := dqo_28 (kb_of ke_L_howOften 3 rfl)
theorem dL_howOften_4 : decode cL_howOften 4 = .ok (.invokevirtual 107, 3) := dqo_182 0 107 (kb_of ke_L_howOften 4 rfl) (kb_of ke_L_howOften 5 rfl) (kb_of ke_L_howOften 6 rfl)
theorem dL_howOften_7 : decode cL_howOften 7 = .ok (.i2l, 1) := dqo_133 (kb_of ke_L_howOften 7 rfl)
theorem dL_howOften_8 : decode cL_howOften 8 = .ok (.putfield 13, 3) := dqo_181 0 13 (kb_of ke_L_howOften 8 rfl) (kb_of ke_L_howOften 9 rfl) (kb_of ke_L_howOften 10 rfl)
theorem dL_howOften_11 : decode cL_howOften 11 = .ok (.goto 7, 3) := dqo_167 0 7 (by decide) (kb_of ke_L_howOften 11 rfl) (kb_of ke_L_howOften 12 rfl) (kb_of ke_L_howOften 13 rfl)
theorem dL_howOften_14 : decode cL_howOften 14 = .ok (.astore 4, 2) := dqo_58 4 (kb_of ke_L_howOften 14 rfl) (kb_of ke_L_howOften 15 rfl)
theorem dL_howOften_16 : decode cL_howOften 16 = .ok (.iconst 1, 1) := dqo_4 (kb_of ke_L_howOften 16 rfl)
theorem dL_howOften_17 : decode cL_howOften 17 = .ok (.ireturn, 1) := dqo_172 (kb_of ke_L_howOften 17 rfl)
theorem dL_howOften_18 : decode cL_howOften 18 = .ok (.iconst 0, 1) := dqo_3 (kb_of ke_L_howOften 18 rfl)
theorem dL_howOften_19 : decode cL_howOften 19 = .ok (.ireturn, 1) := dqo_172 (kb_of ke_L_howOften 19 rfl)
theorem qcw_L_howOften : Cond.codeWith yL_howOften cL_howOften 5 (some .int) [(0, 11, 14, 19)] ∈ GW := gw_5 28 rfl rfl
theorem pk_L_howOften : PkH yL_howOften cL_howOften 5 (some .int) [(0, 11, 14, 19)] 4 := ⟨⟨qt_L_howOften, qz_L, qcw_L_howOften⟩, mh_L.1, mh_L.2, pd_46⟩
theorem pk_X2_howOften : PkV RX2 yX2_howOften cX2_howOften 5 (some .int) 2 := ⟨⟨qi_X2_howOften, qs_X2_howOften, qz_X2, qc_X2_howOften⟩, rfl, mh_X2.1, mh_X2.2, pd_0⟩
theorem W_howOften {l : Launch} {D : va_G} {cy : Nat → ClassId} {X : (Nat → Prop) → State → Heap → Prop} {a : Nat → Nat → Nat} {ba ra : Nat → Nat} {f : Nat → Nat → Nat} {r : Nat → Nat → Int32} {hf : Nat → Nat → Nat} {hq : Nat → Nat → Int32} {kn th : Int32} {sm : Int64} {o : Nat} {n0 : Int64} {s0 : Value} {x0 x1 : Int32} (hX : EnvX X) (hN : EnvN X) (hC : CInv f) (hB : RB r) (hM : MR f r hf hq) (hp : PR l D cy X a ba ra f r hf hq kn th sm yX2_howOften cX2_howOften 5 (some .int) yX4_howOften cX4_howOften 8 (some .int) (rmk 9 4 48 420) [.int x0, .int x1] [("java/lang/IndexOutOfBoundsException", 1)]) : CmH l D cy X yL_howOften cL_howOften 5 (some .int) [(0, 11, 14, 19)] (rmk 9 1 6 300) [.ref (a 0 0), .int x0, .int x1, .ref o] (WC cy a f r kn ++ (WM cy ba ra hf hq kn th sm ++ [OUTo o n0 s0])) (fun v1 w1 => ∃ (f' : Nat → Nat → Nat) (r' : Nat → Nat → Int32) (k : Nat) (n1 : Int64), v1 = some (.int (nI k)) ∧ w1 = WC cy a f' r' kn ++ (WM cy ba ra hf hq kn th sm ++ [OUTo o n1 s0]) ∧ PN l D cy X ba ra hf hq kn th sm yX4_howOften cX4_howOften 8 (some .int) (rmk 9 4 48 420) [.int x0, .int x1] cvI f' r' k n1) (fun _ => False) := by
  refine CmH.of [some (.ref (a 0 0)), some (.int x0), some (.int x1), some (.ref o), none] pn_L rfl (Nat.le_of_ble_eq_true rfl) ?_
  intro p e s m args below meth c A C hE hr hnt
  refine r_aload_n C dL_howOften_0 rfl ?_
  refine r_aload_n C dL_howOften_1 rfl ?_
  refine r_iload_n C dL_howOften_2 rfl ?_
  refine r_iload_n C dL_howOften_3 rfl ?_
  rcases hp.two cvI (by simp) hC hB hM with ⟨E, k, hm, h1, h2⟩ | ⟨f', r', n, h1, h2⟩
  · refine c_V (st := [.ref o]) hX.stb C hE (h1 _) pk_X2_howOften qm_L_107 0 6 rfl rfl wc_0 rfl rfl (Nat.le_of_ble_eq_true rfl) dL_howOften_4 ⟨(Nat.le_of_ble_eq_true rfl), (Nat.le_of_ble_eq_true rfl)⟩ ⟨(Nat.le_of_ble_eq_true rfl), (Nat.le_of_ble_eq_true rfl)⟩ (fun _ _ h9 => h9.elim) (fun E1 hE1 => ?_)
    subst hE1
    simp only [List.mem_cons, List.not_mem_nil, or_false, Prod.mk.injEq] at hm
    obtain ⟨rfl, rfl⟩ := hm
    refine r_catch (name := "java/lang/IndexOutOfBoundsException") C [] ⟨0, 11, 14, 19⟩ [] (hnt.trans rfl) (fun z hz => absurd hz List.not_mem_nil) rfl (by decide) (C.2.2.2.2.1 _ qk_L_19) (hX.nw qca_IOB rfl hE) (fun q => ?_)
    refine r_astore C dL_howOften_14 (by decide) rfl ?_
    refine r_iconst (v := nI 1) C dL_howOften_16 (by decide) ?_
    exact r_iret C hr dL_howOften_17 ⟨_, _, _, _, rfl, rfl, h2 _⟩ (Nat.le_of_ble_eq_true rfl) (Nat.le_of_ble_eq_true rfl)
  · refine c_V (st := [.ref o]) hX.stb C hE (h1 _) pk_X2_howOften qm_L_107 0 6 rfl rfl wc_0 rfl rfl (Nat.le_of_ble_eq_true rfl) dL_howOften_4 ⟨(Nat.le_of_ble_eq_true rfl), (Nat.le_of_ble_eq_true rfl)⟩ ⟨(Nat.le_of_ble_eq_true rfl), (Nat.le_of_ble_eq_true rfl)⟩ (fun v9 w9 h9 => ?_) (fun _ h9 => h9.elim)
    obtain ⟨rfl, rfl⟩ := h9
    refine r_i2l C dL_howOften_7 ?_
    refine g_putN hX C hE qu_X3 tyX3 tyX3_ok nmX3 (ci := 7) rfl 38 outo_at 0 (by decide) qn_L_13 rfl rfl (ty := .long) rfl rfl rfl (show 0 < 2 by omega) dL_howOften_8 outo_set ?_
    refine r_goto (tgt := 18) C dL_howOften_11 (by decide) ?_
    refine r_iconst (v := nI 0) C dL_howOften_18 (by decide) ?_
    exact r_iret C hr dL_howOften_19 ⟨_, _, _, _, rfl, rfl, h2⟩ (Nat.le_of_ble_eq_true rfl) (Nat.le_of_ble_eq_true rfl)
theorem dL_least_0 : decode cL_least 0 = .ok (.aload_n 3, 1) := dqo_45 (kb_of ke_L_least 0 rfl)
theorem dL_least_1 : decode cL_least 1 = .ok (.aload_n 0, 1) := dqo_42 (kb_of ke_L_least 1 rfl)
theorem dL_least_2 : decode cL_least 2 = .ok (.iload_n 1, 1) := dqo_27 (kb_of ke_L_least 2 rfl)
theorem dL_least_3 : decode cL_least 3 = .ok (.iload_n 2, 1) := dqo_28 (kb_of ke_L_least 3 rfl)
theorem dL_least_4 : decode cL_least 4 = .ok (.invokevirtual 110, 3) := dqo_182 0 110 (kb_of ke_L_least 4 rfl) (kb_of ke_L_least 5 rfl) (kb_of ke_L_least 6 rfl)
theorem dL_least_7 : decode cL_least 7 = .ok (.i2l, 1) := dqo_133 (kb_of ke_L_least 7 rfl)
theorem dL_least_8 : decode cL_least 8 = .ok (.putfield 13, 3) := dqo_181 0 13 (kb_of ke_L_least 8 rfl) (kb_of ke_L_least 9 rfl) (kb_of ke_L_least 10 rfl)
theorem dL_least_11 : decode cL_least 11 = .ok (.goto 11, 3) := dqo_167 0 11 (by decide) (kb_of ke_L_least 11 rfl) (kb_of ke_L_least 12 rfl) (kb_of ke_L_least 13 rfl)
theorem dL_least_14 : decode cL_least 14 = .ok (.astore 4, 2) := dqo_58 4 (kb_of ke_L_least 14 rfl) (kb_of ke_L_least 15 rfl)
theorem dL_least_16 : decode cL_least 16 = .ok (.iconst 1, 1) := dqo_4 (kb_of ke_L_least 16 rfl)
theorem dL_least_17 : decode cL_least 17 = .ok (.ireturn, 1) := dqo_172 (kb_of ke_L_least 17 rfl)
theorem dL_least_18 : decode cL_least 18 = .ok (.astore 4, 2) := dqo_58 4 (kb_of ke_L_least 18 rfl) (kb_of ke_L_least 19 rfl)
theorem dL_least_20 : decode cL_least 20 = .ok (.iconst 2, 1) := dqo_5 (kb_of ke_L_least 20 rfl)
theorem dL_least_21 : decode cL_least 21 = .ok (.ireturn, 1) := dqo_172 (kb_of ke_L_least 21 rfl)
theorem dL_least_22 : decode cL_least 22 = .ok (.iconst 0, 1) := dqo_3 (kb_of ke_L_least 22 rfl)
theorem dL_least_23 : decode cL_least 23 = .ok (.ireturn, 1) := dqo_172 (kb_of ke_L_least 23 rfl)
theorem qcw_L_least : Cond.codeWith yL_least cL_least 5 (some .int) [(0, 11, 14, 19), (0, 11, 18, 23)] ∈ GW := gw_5 35 rfl rfl
theorem pk_L_least : PkH yL_least cL_least 5 (some .int) [(0, 11, 14, 19), (0, 11, 18, 23)] 4 := ⟨⟨qt_L_least, qz_L, qcw_L_least⟩, mh_L.1, mh_L.2, pd_51⟩
theorem pk_X2_least : PkV RX2 yX2_least cX2_least 6 (some .int) 2 := ⟨⟨qi_X2_least, qs_X2_least, qz_X2, qc_X2_least⟩, rfl, mh_X2.1, mh_X2.2, pd_52⟩
theorem W_least {l : Launch} {D : va_G} {cy : Nat → ClassId} {X : (Nat → Prop) → State → Heap → Prop} {a : Nat → Nat → Nat} {ba ra : Nat → Nat} {f : Nat → Nat → Nat} {r : Nat → Nat → Int32} {hf : Nat → Nat → Nat} {hq : Nat → Nat → Int32} {kn th : Int32} {sm : Int64} {o : Nat} {n0 : Int64} {s0 : Value} {x0 x1 : Int32} (hX : EnvX X) (hN : EnvN X) (hC : CInv f) (hB : RB r) (hM : MR f r hf hq) (hp : PR l D cy X a ba ra f r hf hq kn th sm yX2_least cX2_least 6 (some .int) yX4_least cX4_least 8 (some .int) (rmk 9 4 48 420) [.int x0, .int x1] [("java/lang/IndexOutOfBoundsException", 1), ("java/lang/IllegalStateException", 2)]) : CmH l D cy X yL_least cL_least 5 (some .int) [(0, 11, 14, 19), (0, 11, 18, 23)] (rmk 9 1 6 300) [.ref (a 0 0), .int x0, .int x1, .ref o] (WC cy a f r kn ++ (WM cy ba ra hf hq kn th sm ++ [OUTo o n0 s0])) (fun v1 w1 => ∃ (f' : Nat → Nat → Nat) (r' : Nat → Nat → Int32) (k : Nat) (n1 : Int64), v1 = some (.int (nI k)) ∧ w1 = WC cy a f' r' kn ++ (WM cy ba ra hf hq kn th sm ++ [OUTo o n1 s0]) ∧ PN l D cy X ba ra hf hq kn th sm yX4_least cX4_least 8 (some .int) (rmk 9 4 48 420) [.int x0, .int x1] cvI f' r' k n1) (fun _ => False) := by
  refine CmH.of [some (.ref (a 0 0)), some (.int x0), some (.int x1), some (.ref o), none] pn_L rfl (Nat.le_of_ble_eq_true rfl) ?_
  intro p e s m args below meth c A C hE hr hnt
  refine r_aload_n C dL_least_0 rfl ?_
  refine r_aload_n C dL_least_1 rfl ?_
  refine r_iload_n C dL_least_2 rfl ?_
  refine r_iload_n C dL_least_3 rfl ?_
  rcases hp.two cvI (by simp) hC hB hM with ⟨E, k, hm, h1, h2⟩ | ⟨f', r', n, h1, h2⟩
  · refine c_V (st := [.ref o]) hX.stb C hE (h1 _) pk_X2_least qm_L_110 0 6 rfl rfl wc_0 rfl rfl (Nat.le_of_ble_eq_true rfl) dL_least_4 ⟨(Nat.le_of_ble_eq_true rfl), (Nat.le_of_ble_eq_true rfl)⟩ ⟨(Nat.le_of_ble_eq_true rfl), (Nat.le_of_ble_eq_true rfl)⟩ (fun _ _ h9 => h9.elim) (fun E1 hE1 => ?_)
    subst hE1
    simp only [List.mem_cons, List.not_mem_nil, or_false, Prod.mk.injEq] at hm
    rcases hm with ⟨rfl, rfl⟩ | ⟨rfl, rfl⟩
    · refine r_catch (name := "java/lang/IndexOutOfBoundsException") C [] ⟨0, 11, 14, 19⟩ [⟨0, 11, 18, 23⟩] (hnt.trans rfl) (fun z hz => absurd hz List.not_mem_nil) rfl (by decide) (C.2.2.2.2.1 _ qk_L_19) (hX.nw qca_IOB rfl hE) (fun q => ?_)
      refine r_astore C dL_least_14 (by decide) rfl ?_
      refine r_iconst (v := nI 1) C dL_least_16 (by decide) ?_
      exact r_iret C hr dL_least_17 ⟨_, _, _, _, rfl, rfl, h2 _⟩ (Nat.le_of_ble_eq_true rfl) (Nat.le_of_ble_eq_true rfl)
    · refine r_catch (name := "java/lang/IllegalStateException") C [⟨0, 11, 14, 19⟩] ⟨0, 11, 18, 23⟩ [] (hnt.trans rfl) (fun z hz => by
        simp only [List.mem_cons, List.not_mem_nil, or_false] at hz
        subst hz
        exact Or.inr ⟨by decide, "java/lang/IndexOutOfBoundsException", C.2.2.2.2.1 _ qk_L_19, hN ("java/lang/IllegalStateException", "java/lang/IndexOutOfBoundsException") (by simp [NCL]) _ _ _ hE⟩) rfl (by decide) (C.2.2.2.2.1 _ qk_L_23) (hX.nw qca_ISE rfl hE) (fun q => ?_)
      refine r_astore C dL_least_18 (by decide) rfl ?_
      refine r_iconst (v := nI 2) C dL_least_20 (by decide) ?_
      exact r_iret C hr dL_least_21 ⟨_, _, _, _, rfl, rfl, h2 _⟩ (Nat.le_of_ble_eq_true rfl) (Nat.le_of_ble_eq_true rfl)
  · refine c_V (st := [.ref o]) hX.stb C hE (h1 _) pk_X2_least qm_L_110 0 6 rfl rfl wc_0 rfl rfl (Nat.le_of_ble_eq_true rfl) dL_least_4 ⟨(Nat.le_of_ble_eq_true rfl), (Nat.le_of_ble_eq_true rfl)⟩ ⟨(Nat.le_of_ble_eq_true rfl), (Nat.le_of_ble_eq_true rfl)⟩ (fun v9 w9 h9 => ?_) (fun _ h9 => h9.elim)
    obtain ⟨rfl, rfl⟩ := h9
    refine r_i2l C dL_least_7 ?_
    refine g_putN hX C hE qu_X3 tyX3 tyX3_ok nmX3 (ci := 7) rfl 38 outo_at 0 (by decide) qn_L_13 rfl rfl (ty := .long) rfl rfl rfl (show 0 < 2 by omega) dL_least_8 outo_set ?_
    refine r_goto (tgt := 22) C dL_least_11 (by decide) ?_
    refine r_iconst (v := nI 0) C dL_least_22 (by decide) ?_
    exact r_iret C hr dL_least_23 ⟨_, _, _, _, rfl, rfl, h2⟩ (Nat.le_of_ble_eq_true rfl) (Nat.le_of_ble_eq_true rfl)
theorem dL_areApart_0 : decode cL_areApart 0 = .ok (.aload_n 3, 1) := dqo_45 (kb_of ke_L_areApart 0 rfl)
theorem dL_areApart_1 : decode cL_areApart 1 = .ok (.aload_n 0, 1) := dqo_42 (kb_of ke_L_areApart 1 rfl)
theorem dL_areApart_2 : decode cL_areApart 2 = .ok (.iload_n 1, 1) := dqo_27 (kb_of ke_L_areApart 2 rfl)
theorem dL_areApart_3 : decode cL_areApart 3 = .ok (.iload_n 2, 1) := dqo_28 (kb_of ke_L_areApart 3 rfl)
theorem dL_areApart_4 : decode cL_areApart 4 = .ok (.invokevirtual 114, 3) := dqo_182 0 114 (kb_of ke_L_areApart 4 rfl) (kb_of ke_L_areApart 5 rfl) (kb_of ke_L_areApart 6 rfl)
theorem dL_areApart_7 : decode cL_areApart 7 = .ok (.ifCond .eq 7, 3) := dqo_153 0 7 (by decide) (kb_of ke_L_areApart 7 rfl) (kb_of ke_L_areApart 8 rfl) (kb_of ke_L_areApart 9 rfl)
theorem dL_areApart_10 : decode cL_areApart 10 = .ok (.lconst 1, 1) := dqo_10 (kb_of ke_L_areApart 10 rfl)
theorem dL_areApart_11 : decode cL_areApart 11 = .ok (.goto 4, 3) := dqo_167 0 4 (by decide) (kb_of ke_L_areApart 11 rfl) (kb_of ke_L_areApart 12 rfl) (kb_of ke_L_areApart 13 rfl)
theorem dL_areApart_14 : decode cL_areApart 14 = .ok (.lconst 0, 1) := dqo_9 (kb_of ke_L_areApart 14 rfl)
theorem dL_areApart_15 : decode cL_areApart 15 = .ok (.putfield 13, 3) := dqo_181 0 13 (kb_of ke_L_areApart 15 rfl) (kb_of ke_L_areApart 16 rfl) (kb_of ke_L_areApart 17 rfl)
theorem dL_areApart_18 : decode cL_areApart 18 = .ok (.goto 7, 3) := dqo_167 0 7 (by decide) (kb_of ke_L_areApart 18 rfl) (kb_of ke_L_areApart 19 rfl) (kb_of ke_L_areApart 20 rfl)
theorem dL_areApart_21 : decode cL_areApart 21 = .ok (.astore 4, 2) := dqo_58 4 (kb_of ke_L_areApart 21 rfl) (kb_of ke_L_areApart 22 rfl)
theorem dL_areApart_23 : decode cL_areApart 23 = .ok (.iconst 1, 1) := dqo_4 (kb_of ke_L_areApart 23 rfl)
theorem dL_areApart_24 : decode cL_areApart 24 = .ok (.ireturn, 1) := dqo_172 (kb_of ke_L_areApart 24 rfl)
theorem dL_areApart_25 : decode cL_areApart 25 = .ok (.iconst 0, 1) := dqo_3 (kb_of ke_L_areApart 25 rfl)
theorem dL_areApart_26 : decode cL_areApart 26 = .ok (.ireturn, 1) := dqo_172 (kb_of ke_L_areApart 26 rfl)
theorem qcw_L_areApart : Cond.codeWith yL_areApart cL_areApart 5 (some .int) [(0, 18, 21, 19)] ∈ GW := gw_5 45 rfl rfl
theorem pk_L_areApart : PkH yL_areApart cL_areApart 5 (some .int) [(0, 18, 21, 19)] 4 := ⟨⟨qt_L_areApart, qz_L, qcw_L_areApart⟩, mh_L.1, mh_L.2, pd_46⟩
theorem pk_X2_areApart : PkV RX2 yX2_areApart cX2_areApart 4 (some .boolean) 2 := ⟨⟨qi_X2_areApart, qs_X2_areApart, qz_X2, qc_X2_areApart⟩, rfl, mh_X2.1, mh_X2.2, pd_5⟩
theorem W_areApart {l : Launch} {D : va_G} {cy : Nat → ClassId} {X : (Nat → Prop) → State → Heap → Prop} {a : Nat → Nat → Nat} {ba ra : Nat → Nat} {f : Nat → Nat → Nat} {r : Nat → Nat → Int32} {hf : Nat → Nat → Nat} {hq : Nat → Nat → Int32} {kn th : Int32} {sm : Int64} {o : Nat} {n0 : Int64} {s0 : Value} {x0 x1 : Int32} (hX : EnvX X) (hN : EnvN X) (hC : CInv f) (hB : RB r) (hM : MR f r hf hq) (hp : PR l D cy X a ba ra f r hf hq kn th sm yX2_areApart cX2_areApart 4 (some .boolean) yX4_areApart cX4_areApart 8 (some .boolean) (rmk 9 4 48 420) [.int x0, .int x1] [("java/lang/IndexOutOfBoundsException", 1)]) : CmH l D cy X yL_areApart cL_areApart 5 (some .int) [(0, 18, 21, 19)] (rmk 9 1 6 300) [.ref (a 0 0), .int x0, .int x1, .ref o] (WC cy a f r kn ++ (WM cy ba ra hf hq kn th sm ++ [OUTo o n0 s0])) (fun v1 w1 => ∃ (f' : Nat → Nat → Nat) (r' : Nat → Nat → Int32) (k : Nat) (n1 : Int64), v1 = some (.int (nI k)) ∧ w1 = WC cy a f' r' kn ++ (WM cy ba ra hf hq kn th sm ++ [OUTo o n1 s0]) ∧ PN l D cy X ba ra hf hq kn th sm yX4_areApart cX4_areApart 8 (some .boolean) (rmk 9 4 48 420) [.int x0, .int x1] cvZ f' r' k n1) (fun _ => False) := by
  refine CmH.of [some (.ref (a 0 0)), some (.int x0), some (.int x1), some (.ref o), none] pn_L rfl (Nat.le_of_ble_eq_true rfl) ?_
  intro p e s m args below meth c A C hE hr hnt
  refine r_aload_n C dL_areApart_0 rfl ?_
  refine r_aload_n C dL_areApart_1 rfl ?_
  refine r_iload_n C dL_areApart_2 rfl ?_
  refine r_iload_n C dL_areApart_3 rfl ?_
  rcases hp.two cvZ (by simp) hC hB hM with ⟨E, k, hm, h1, h2⟩ | ⟨f', r', n, h1, h2⟩
  · refine c_V (st := [.ref o]) hX.stb C hE (h1 _) pk_X2_areApart qm_L_114 0 6 rfl rfl wc_0 rfl rfl (Nat.le_of_ble_eq_true rfl) dL_areApart_4 ⟨(Nat.le_of_ble_eq_true rfl), (Nat.le_of_ble_eq_true rfl)⟩ ⟨(Nat.le_of_ble_eq_true rfl), (Nat.le_of_ble_eq_true rfl)⟩ (fun _ _ h9 => h9.elim) (fun E1 hE1 => ?_)
    subst hE1
    simp only [List.mem_cons, List.not_mem_nil, or_false, Prod.mk.injEq] at hm
    obtain ⟨rfl, rfl⟩ := hm
    refine r_catch (name := "java/lang/IndexOutOfBoundsException") C [] ⟨0, 18, 21, 19⟩ [] (hnt.trans rfl) (fun z hz => absurd hz List.not_mem_nil) rfl (by decide) (C.2.2.2.2.1 _ qk_L_19) (hX.nw qca_IOB rfl hE) (fun q => ?_)
    refine r_astore C dL_areApart_21 (by decide) rfl ?_
    refine r_iconst (v := nI 1) C dL_areApart_23 (by decide) ?_
    exact r_iret C hr dL_areApart_24 ⟨_, _, _, _, rfl, rfl, h2 _⟩ (Nat.le_of_ble_eq_true rfl) (Nat.le_of_ble_eq_true rfl)
  · refine c_V (st := [.ref o]) hX.stb C hE (h1 _) pk_X2_areApart qm_L_114 0 6 rfl rfl wc_0 rfl rfl (Nat.le_of_ble_eq_true rfl) dL_areApart_4 ⟨(Nat.le_of_ble_eq_true rfl), (Nat.le_of_ble_eq_true rfl)⟩ ⟨(Nat.le_of_ble_eq_true rfl), (Nat.le_of_ble_eq_true rfl)⟩ (fun v9 w9 h9 => ?_) (fun _ h9 => h9.elim)
    obtain ⟨rfl, rfl⟩ := h9
    refine r_if_eq (tgt := 14) C dL_areApart_7 (by decide) (fun h0 => ?_) (fun h0 => ?_)
    · refine r_lconst (v := 0) C dL_areApart_14 (by decide) ?_
      refine g_putN hX C hE qu_X3 tyX3 tyX3_ok nmX3 (ci := 7) rfl 38 outo_at 0 (by decide) qn_L_13 rfl rfl (ty := .long) rfl rfl rfl (show 0 < 2 by omega) dL_areApart_15 outo_set ?_
      refine r_goto (tgt := 25) C dL_areApart_18 (by decide) ?_
      refine r_iconst (v := nI 0) C dL_areApart_25 (by decide) ?_
      exact r_iret C hr dL_areApart_26 ⟨_, _, _, _, rfl, rfl, by rw [show cvZ n = 0 from if_pos h0] at h2; exact h2⟩ (Nat.le_of_ble_eq_true rfl) (Nat.le_of_ble_eq_true rfl)
    · refine r_lconst (v := 1) C dL_areApart_10 (by decide) ?_
      refine r_goto (tgt := 15) C dL_areApart_11 (by decide) ?_
      refine g_putN hX C hE qu_X3 tyX3 tyX3_ok nmX3 (ci := 7) rfl 38 outo_at 0 (by decide) qn_L_13 rfl rfl (ty := .long) rfl rfl rfl (show 0 < 2 by omega) dL_areApart_15 outo_set ?_
      refine r_goto (tgt := 25) C dL_areApart_18 (by decide) ?_
      refine r_iconst (v := nI 0) C dL_areApart_25 (by decide) ?_
      exact r_iret C hr dL_areApart_26 ⟨_, _, _, _, rfl, rfl, by rw [show cvZ n = 1 from if_neg h0] at h2; exact h2⟩ (Nat.le_of_ble_eq_true rfl) (Nat.le_of_ble_eq_true rfl)
theorem dL_areSame_0 : decode cL_areSame 0 = .ok (.aload_n 3, 1) := dqo_45 (kb_of ke_L_areSame 0 rfl)
theorem dL_areSame_1 : decode cL_areSame 1 = .ok (.aload_n 0, 1) := dqo_42 (kb_of ke_L_areSame 1 rfl)
theorem dL_areSame_2 : decode cL_areSame 2 = .ok (.iload_n 1, 1) := dqo_27 (kb_of ke_L_areSame 2 rfl)
theorem dL_areSame_3 : decode cL_areSame 3 = .ok (.iload_n 2, 1) := dqo_28 (kb_of ke_L_areSame 3 rfl)
theorem dL_areSame_4 : decode cL_areSame 4 = .ok (.invokevirtual 117, 3) := dqo_182 0 117 (kb_of ke_L_areSame 4 rfl) (kb_of ke_L_areSame 5 rfl) (kb_of ke_L_areSame 6 rfl)
theorem dL_areSame_7 : decode cL_areSame 7 = .ok (.ifCond .eq 7, 3) := dqo_153 0 7 (by decide) (kb_of ke_L_areSame 7 rfl) (kb_of ke_L_areSame 8 rfl) (kb_of ke_L_areSame 9 rfl)
theorem dL_areSame_10 : decode cL_areSame 10 = .ok (.lconst 1, 1) := dqo_10 (kb_of ke_L_areSame 10 rfl)
theorem dL_areSame_11 : decode cL_areSame 11 = .ok (.goto 4, 3) := dqo_167 0 4 (by decide) (kb_of ke_L_areSame 11 rfl) (kb_of ke_L_areSame 12 rfl) (kb_of ke_L_areSame 13 rfl)
theorem dL_areSame_14 : decode cL_areSame 14 = .ok (.lconst 0, 1) := dqo_9 (kb_of ke_L_areSame 14 rfl)
theorem dL_areSame_15 : decode cL_areSame 15 = .ok (.putfield 13, 3) := dqo_181 0 13 (kb_of ke_L_areSame 15 rfl) (kb_of ke_L_areSame 16 rfl) (kb_of ke_L_areSame 17 rfl)
theorem dL_areSame_18 : decode cL_areSame 18 = .ok (.goto 7, 3) := dqo_167 0 7 (by decide) (kb_of ke_L_areSame 18 rfl) (kb_of ke_L_areSame 19 rfl) (kb_of ke_L_areSame 20 rfl)
theorem dL_areSame_21 : decode cL_areSame 21 = .ok (.astore 4, 2) := dqo_58 4 (kb_of ke_L_areSame 21 rfl) (kb_of ke_L_areSame 22 rfl)
theorem dL_areSame_23 : decode cL_areSame 23 = .ok (.iconst 1, 1) := dqo_4 (kb_of ke_L_areSame 23 rfl)
theorem dL_areSame_24 : decode cL_areSame 24 = .ok (.ireturn, 1) := dqo_172 (kb_of ke_L_areSame 24 rfl)
theorem dL_areSame_25 : decode cL_areSame 25 = .ok (.iconst 0, 1) := dqo_3 (kb_of ke_L_areSame 25 rfl)
theorem dL_areSame_26 : decode cL_areSame 26 = .ok (.ireturn, 1) := dqo_172 (kb_of ke_L_areSame 26 rfl)
theorem qcw_L_areSame : Cond.codeWith yL_areSame cL_areSame 5 (some .int) [(0, 18, 21, 19)] ∈ GW := gw_5 52 rfl rfl
theorem pk_L_areSame : PkH yL_areSame cL_areSame 5 (some .int) [(0, 18, 21, 19)] 4 := ⟨⟨qt_L_areSame, qz_L, qcw_L_areSame⟩, mh_L.1, mh_L.2, pd_46⟩
theorem pk_X2_areSame : PkV RX2 yX2_areSame cX2_areSame 3 (some .boolean) 2 := ⟨⟨qi_X2_areSame, qs_X2_areSame, qz_X2, qc_X2_areSame⟩, rfl, mh_X2.1, mh_X2.2, pd_5⟩
theorem W_areSame {l : Launch} {D : va_G} {cy : Nat → ClassId} {X : (Nat → Prop) → State → Heap → Prop} {a : Nat → Nat → Nat} {ba ra : Nat → Nat} {f : Nat → Nat → Nat} {r : Nat → Nat → Int32} {hf : Nat → Nat → Nat} {hq : Nat → Nat → Int32} {kn th : Int32} {sm : Int64} {o : Nat} {n0 : Int64} {s0 : Value} {x0 x1 : Int32} (hX : EnvX X) (hN : EnvN X) (hC : CInv f) (hB : RB r) (hM : MR f r hf hq) (hp : PR l D cy X a ba ra f r hf hq kn th sm yX2_areSame cX2_areSame 3 (some .boolean) yX4_areSame cX4_areSame 3 (some .boolean) (rmk 9 4 48 420) [.int x0, .int x1] [("java/lang/IndexOutOfBoundsException", 1)]) : CmH l D cy X yL_areSame cL_areSame 5 (some .int) [(0, 18, 21, 19)] (rmk 9 1 6 300) [.ref (a 0 0), .int x0, .int x1, .ref o] (WC cy a f r kn ++ (WM cy ba ra hf hq kn th sm ++ [OUTo o n0 s0])) (fun v1 w1 => ∃ (f' : Nat → Nat → Nat) (r' : Nat → Nat → Int32) (k : Nat) (n1 : Int64), v1 = some (.int (nI k)) ∧ w1 = WC cy a f' r' kn ++ (WM cy ba ra hf hq kn th sm ++ [OUTo o n1 s0]) ∧ PN l D cy X ba ra hf hq kn th sm yX4_areSame cX4_areSame 3 (some .boolean) (rmk 9 4 48 420) [.int x0, .int x1] cvZ f' r' k n1) (fun _ => False) := by
  refine CmH.of [some (.ref (a 0 0)), some (.int x0), some (.int x1), some (.ref o), none] pn_L rfl (Nat.le_of_ble_eq_true rfl) ?_
  intro p e s m args below meth c A C hE hr hnt
  refine r_aload_n C dL_areSame_0 rfl ?_
  refine r_aload_n C dL_areSame_1 rfl ?_
  refine r_iload_n C dL_areSame_2 rfl ?_
  refine r_iload_n C dL_areSame_3 rfl ?_
  rcases hp.two cvZ (by simp) hC hB hM with ⟨E, k, hm, h1, h2⟩ | ⟨f', r', n, h1, h2⟩
  · refine c_V (st := [.ref o]) hX.stb C hE (h1 _) pk_X2_areSame qm_L_117 0 6 rfl rfl wc_0 rfl rfl (Nat.le_of_ble_eq_true rfl) dL_areSame_4 ⟨(Nat.le_of_ble_eq_true rfl), (Nat.le_of_ble_eq_true rfl)⟩ ⟨(Nat.le_of_ble_eq_true rfl), (Nat.le_of_ble_eq_true rfl)⟩ (fun _ _ h9 => h9.elim) (fun E1 hE1 => ?_)
    subst hE1
    simp only [List.mem_cons, List.not_mem_nil, or_false, Prod.mk.injEq] at hm
    obtain ⟨rfl, rfl⟩ := hm
    refine r_catch (name := "java/lang/IndexOutOfBoundsException") C [] ⟨0, 18, 21, 19⟩ [] (hnt.trans rfl) (fun z hz => absurd hz List.not_mem_nil) rfl (by decide) (C.2.2.2.2.1 _ qk_L_19) (hX.nw qca_IOB rfl hE) (fun q => ?_)
    refine r_astore C dL_areSame_21 (by decide) rfl ?_
    refine r_iconst (v := nI 1) C dL_areSame_23 (by decide) ?_
    exact r_iret C hr dL_areSame_24 ⟨_, _, _, _, rfl, rfl, h2 _⟩ (Nat.le_of_ble_eq_true rfl) (Nat.le_of_ble_eq_true rfl)
  · refine c_V (st := [.ref o]) hX.stb C hE (h1 _) pk_X2_areSame qm_L_117 0 6 rfl rfl wc_0 rfl rfl (Nat.le_of_ble_eq_true rfl) dL_areSame_4 ⟨(Nat.le_of_ble_eq_true rfl), (Nat.le_of_ble_eq_true rfl)⟩ ⟨(Nat.le_of_ble_eq_true rfl), (Nat.le_of_ble_eq_true rfl)⟩ (fun v9 w9 h9 => ?_) (fun _ h9 => h9.elim)
    obtain ⟨rfl, rfl⟩ := h9
    refine r_if_eq (tgt := 14) C dL_areSame_7 (by decide) (fun h0 => ?_) (fun h0 => ?_)
    · refine r_lconst (v := 0) C dL_areSame_14 (by decide) ?_
      refine g_putN hX C hE qu_X3 tyX3 tyX3_ok nmX3 (ci := 7) rfl 38 outo_at 0 (by decide) qn_L_13 rfl rfl (ty := .long) rfl rfl rfl (show 0 < 2 by omega) dL_areSame_15 outo_set ?_
      refine r_goto (tgt := 25) C dL_areSame_18 (by decide) ?_
      refine r_iconst (v := nI 0) C dL_areSame_25 (by decide) ?_
      exact r_iret C hr dL_areSame_26 ⟨_, _, _, _, rfl, rfl, by rw [show cvZ n = 0 from if_pos h0] at h2; exact h2⟩ (Nat.le_of_ble_eq_true rfl) (Nat.le_of_ble_eq_true rfl)
    · refine r_lconst (v := 1) C dL_areSame_10 (by decide) ?_
      refine r_goto (tgt := 15) C dL_areSame_11 (by decide) ?_
      refine g_putN hX C hE qu_X3 tyX3 tyX3_ok nmX3 (ci := 7) rfl 38 outo_at 0 (by decide) qn_L_13 rfl rfl (ty := .long) rfl rfl rfl (show 0 < 2 by omega) dL_areSame_15 outo_set ?_
      refine r_goto (tgt := 25) C dL_areSame_18 (by decide) ?_
      refine r_iconst (v := nI 0) C dL_areSame_25 (by decide) ?_
      exact r_iret C hr dL_areSame_26 ⟨_, _, _, _, rfl, rfl, by rw [show cvZ n = 1 from if_neg h0] at h2; exact h2⟩ (Nat.le_of_ble_eq_true rfl) (Nat.le_of_ble_eq_true rfl)
theorem dL_hash_0 : decode cL_hash 0 = .ok (.aload_n 2, 1) := dqo_44 (kb_of ke_L_hash 0 rfl)
theorem dL_hash_1 : decode cL_hash 1 = .ok (.aload_n 0, 1) := dqo_42 (kb_of ke_L_hash 1 rfl)
theorem dL_hash_2 : decode cL_hash 2 = .ok (.iload_n 1, 1) := dqo_27 (kb_of ke_L_hash 2 rfl)
theorem dL_hash_3 : decode cL_hash 3 = .ok (.invokevirtual 120, 3) := dqo_182 0 120 (kb_of ke_L_hash 3 rfl) (kb_of ke_L_hash 4 rfl) (kb_of ke_L_hash 5 rfl)
theorem dL_hash_6 : decode cL_hash 6 = .ok (.i2l, 1) := dqo_133 (kb_of ke_L_hash 6 rfl)
theorem dL_hash_7 : decode cL_hash 7 = .ok (.putfield 13, 3) := dqo_181 0 13 (kb_of ke_L_hash 7 rfl) (kb_of ke_L_hash 8 rfl) (kb_of ke_L_hash 9 rfl)
theorem dL_hash_10 : decode cL_hash 10 = .ok (.goto 6, 3) := dqo_167 0 6 (by decide) (kb_of ke_L_hash 10 rfl) (kb_of ke_L_hash 11 rfl) (kb_of ke_L_hash 12 rfl)
theorem dL_hash_13 : decode cL_hash 13 = .ok (.astore_n 3, 1) := dqo_78 (kb_of ke_L_hash 13 rfl)
theorem dL_hash_14 : decode cL_hash 14 = .ok (.iconst 1, 1) := dqo_4 (kb_of ke_L_hash 14 rfl)
theorem dL_hash_15 : decode cL_hash 15 = .ok (.ireturn, 1) := dqo_172 (kb_of ke_L_hash 15 rfl)
theorem dL_hash_16 : decode cL_hash 16 = .ok (.iconst 0, 1) := dqo_3 (kb_of ke_L_hash 16 rfl)
theorem dL_hash_17 : decode cL_hash 17 = .ok (.ireturn, 1) := dqo_172 (kb_of ke_L_hash 17 rfl)
theorem qcw_L_hash : Cond.codeWith yL_hash cL_hash 4 (some .int) [(0, 10, 13, 19)] ∈ GW := gw_5 59 rfl rfl
theorem pk_L_hash : PkH yL_hash cL_hash 4 (some .int) [(0, 10, 13, 19)] 3 := ⟨⟨qt_L_hash, qz_L, qcw_L_hash⟩, mh_L.1, mh_L.2, pd_48⟩
theorem pk_X2_hash : PkV RX2 yX2_hash cX2_hash 2 (some .int) 1 := ⟨⟨qi_X2_hash, qs_X2_hash, qz_X2, qc_X2_hash⟩, rfl, mh_X2.1, mh_X2.2, pd_1⟩
theorem W_hash {l : Launch} {D : va_G} {cy : Nat → ClassId} {X : (Nat → Prop) → State → Heap → Prop} {a : Nat → Nat → Nat} {ba ra : Nat → Nat} {f : Nat → Nat → Nat} {r : Nat → Nat → Int32} {hf : Nat → Nat → Nat} {hq : Nat → Nat → Int32} {kn th : Int32} {sm : Int64} {o : Nat} {n0 : Int64} {s0 : Value} {x0 : Int32} (hX : EnvX X) (hN : EnvN X) (hC : CInv f) (hB : RB r) (hM : MR f r hf hq) (hp : PR l D cy X a ba ra f r hf hq kn th sm yX2_hash cX2_hash 2 (some .int) yX4_hash cX4_hash 2 (some .int) (rmk 9 4 48 420) [.int x0] [("java/lang/IndexOutOfBoundsException", 1)]) : CmH l D cy X yL_hash cL_hash 4 (some .int) [(0, 10, 13, 19)] (rmk 9 1 6 300) [.ref (a 0 0), .int x0, .ref o] (WC cy a f r kn ++ (WM cy ba ra hf hq kn th sm ++ [OUTo o n0 s0])) (fun v1 w1 => ∃ (f' : Nat → Nat → Nat) (r' : Nat → Nat → Int32) (k : Nat) (n1 : Int64), v1 = some (.int (nI k)) ∧ w1 = WC cy a f' r' kn ++ (WM cy ba ra hf hq kn th sm ++ [OUTo o n1 s0]) ∧ PN l D cy X ba ra hf hq kn th sm yX4_hash cX4_hash 2 (some .int) (rmk 9 4 48 420) [.int x0] cvI f' r' k n1) (fun _ => False) := by
  refine CmH.of [some (.ref (a 0 0)), some (.int x0), some (.ref o), none] pn_L rfl (Nat.le_of_ble_eq_true rfl) ?_
  intro p e s m args below meth c A C hE hr hnt
  refine r_aload_n C dL_hash_0 rfl ?_
  refine r_aload_n C dL_hash_1 rfl ?_
  refine r_iload_n C dL_hash_2 rfl ?_
  rcases hp.two cvI (by simp) hC hB hM with ⟨E, k, hm, h1, h2⟩ | ⟨f', r', n, h1, h2⟩
  · refine c_V (st := [.ref o]) hX.stb C hE (h1 _) pk_X2_hash qm_L_120 0 6 rfl rfl wc_0 rfl rfl (Nat.le_of_ble_eq_true rfl) dL_hash_3 ⟨(Nat.le_of_ble_eq_true rfl), (Nat.le_of_ble_eq_true rfl)⟩ ⟨(Nat.le_of_ble_eq_true rfl), (Nat.le_of_ble_eq_true rfl)⟩ (fun _ _ h9 => h9.elim) (fun E1 hE1 => ?_)
    subst hE1
    simp only [List.mem_cons, List.not_mem_nil, or_false, Prod.mk.injEq] at hm
    obtain ⟨rfl, rfl⟩ := hm
    refine r_catch (name := "java/lang/IndexOutOfBoundsException") C [] ⟨0, 10, 13, 19⟩ [] (hnt.trans rfl) (fun z hz => absurd hz List.not_mem_nil) rfl (by decide) (C.2.2.2.2.1 _ qk_L_19) (hX.nw qca_IOB rfl hE) (fun q => ?_)
    refine r_astore_n C dL_hash_13 (by decide) rfl ?_
    refine r_iconst (v := nI 1) C dL_hash_14 (by decide) ?_
    exact r_iret C hr dL_hash_15 ⟨_, _, _, _, rfl, rfl, h2 _⟩ (Nat.le_of_ble_eq_true rfl) (Nat.le_of_ble_eq_true rfl)
  · refine c_V (st := [.ref o]) hX.stb C hE (h1 _) pk_X2_hash qm_L_120 0 6 rfl rfl wc_0 rfl rfl (Nat.le_of_ble_eq_true rfl) dL_hash_3 ⟨(Nat.le_of_ble_eq_true rfl), (Nat.le_of_ble_eq_true rfl)⟩ ⟨(Nat.le_of_ble_eq_true rfl), (Nat.le_of_ble_eq_true rfl)⟩ (fun v9 w9 h9 => ?_) (fun _ h9 => h9.elim)
    obtain ⟨rfl, rfl⟩ := h9
    refine r_i2l C dL_hash_6 ?_
    refine g_putN hX C hE qu_X3 tyX3 tyX3_ok nmX3 (ci := 7) rfl 38 outo_at 0 (by decide) qn_L_13 rfl rfl (ty := .long) rfl rfl rfl (show 0 < 2 by omega) dL_hash_7 outo_set ?_
    refine r_goto (tgt := 16) C dL_hash_10 (by decide) ?_
    refine r_iconst (v := nI 0) C dL_hash_16 (by decide) ?_
    exact r_iret C hr dL_hash_17 ⟨_, _, _, _, rfl, rfl, h2⟩ (Nat.le_of_ble_eq_true rfl) (Nat.le_of_ble_eq_true rfl)
theorem dL_inArray_0 : decode cL_inArray 0 = .ok (.aload_n 3, 1) := dqo_45 (kb_of ke_L_inArray 0 rfl)
theorem dL_inArray_1 : decode cL_inArray 1 = .ok (.aload_n 0, 1) := dqo_42 (kb_of ke_L_inArray 1 rfl)
theorem dL_inArray_2 : decode cL_inArray 2 = .ok (.iload_n 1, 1) := dqo_27 (kb_of ke_L_inArray 2 rfl)
theorem dL_inArray_3 : decode cL_inArray 3 = .ok (.iload_n 2, 1) := dqo_28 (kb_of ke_L_inArray 3 rfl)
theorem dL_inArray_4 : decode cL_inArray 4 = .ok (.invokevirtual 131, 3) := dqo_182 0 131 (kb_of ke_L_inArray 4 rfl) (kb_of ke_L_inArray 5 rfl) (kb_of ke_L_inArray 6 rfl)
theorem dL_inArray_7 : decode cL_inArray 7 = .ok (.i2l, 1) := dqo_133 (kb_of ke_L_inArray 7 rfl)
theorem dL_inArray_8 : decode cL_inArray 8 = .ok (.putfield 13, 3) := dqo_181 0 13 (kb_of ke_L_inArray 8 rfl) (kb_of ke_L_inArray 9 rfl) (kb_of ke_L_inArray 10 rfl)
theorem dL_inArray_11 : decode cL_inArray 11 = .ok (.goto 7, 3) := dqo_167 0 7 (by decide) (kb_of ke_L_inArray 11 rfl) (kb_of ke_L_inArray 12 rfl) (kb_of ke_L_inArray 13 rfl)
theorem dL_inArray_14 : decode cL_inArray 14 = .ok (.astore 4, 2) := dqo_58 4 (kb_of ke_L_inArray 14 rfl) (kb_of ke_L_inArray 15 rfl)
theorem dL_inArray_16 : decode cL_inArray 16 = .ok (.iconst 1, 1) := dqo_4 (kb_of ke_L_inArray 16 rfl)
theorem dL_inArray_17 : decode cL_inArray 17 = .ok (.ireturn, 1) := dqo_172 (kb_of ke_L_inArray 17 rfl)
theorem dL_inArray_18 : decode cL_inArray 18 = .ok (.iconst 0, 1) := dqo_3 (kb_of ke_L_inArray 18 rfl)
theorem dL_inArray_19 : decode cL_inArray 19 = .ok (.ireturn, 1) := dqo_172 (kb_of ke_L_inArray 19 rfl)
theorem qcw_L_inArray : Cond.codeWith yL_inArray cL_inArray 5 (some .int) [(0, 11, 14, 19)] ∈ GW := gw_5 74 rfl rfl
theorem pk_L_inArray : PkH yL_inArray cL_inArray 5 (some .int) [(0, 11, 14, 19)] 4 := ⟨⟨qt_L_inArray, qz_L, qcw_L_inArray⟩, mh_L.1, mh_L.2, pd_46⟩
theorem pk_X2_inArray : PkV RX2 yX2_inArray cX2_inArray 3 (some .int) 2 := ⟨⟨qi_X2_inArray, qs_X2_inArray, qz_X2, qc_X2_inArray⟩, rfl, mh_X2.1, mh_X2.2, pd_0⟩
theorem W_inArray {l : Launch} {D : va_G} {cy : Nat → ClassId} {X : (Nat → Prop) → State → Heap → Prop} {a : Nat → Nat → Nat} {ba ra : Nat → Nat} {f : Nat → Nat → Nat} {r : Nat → Nat → Int32} {hf : Nat → Nat → Nat} {hq : Nat → Nat → Int32} {kn th : Int32} {sm : Int64} {o : Nat} {n0 : Int64} {s0 : Value} {x0 x1 : Int32} (hX : EnvX X) (hN : EnvN X) (hC : CInv f) (hB : RB r) (hM : MR f r hf hq) (hp : PR l D cy X a ba ra f r hf hq kn th sm yX2_inArray cX2_inArray 3 (some .int) yX4_inArray cX4_inArray 3 (some .int) (rmk 9 4 48 420) [.int x0, .int x1] [("java/lang/IndexOutOfBoundsException", 1)]) : CmH l D cy X yL_inArray cL_inArray 5 (some .int) [(0, 11, 14, 19)] (rmk 9 1 6 300) [.ref (a 0 0), .int x0, .int x1, .ref o] (WC cy a f r kn ++ (WM cy ba ra hf hq kn th sm ++ [OUTo o n0 s0])) (fun v1 w1 => ∃ (f' : Nat → Nat → Nat) (r' : Nat → Nat → Int32) (k : Nat) (n1 : Int64), v1 = some (.int (nI k)) ∧ w1 = WC cy a f' r' kn ++ (WM cy ba ra hf hq kn th sm ++ [OUTo o n1 s0]) ∧ PN l D cy X ba ra hf hq kn th sm yX4_inArray cX4_inArray 3 (some .int) (rmk 9 4 48 420) [.int x0, .int x1] cvI f' r' k n1) (fun _ => False) := by
  refine CmH.of [some (.ref (a 0 0)), some (.int x0), some (.int x1), some (.ref o), none] pn_L rfl (Nat.le_of_ble_eq_true rfl) ?_
  intro p e s m args below meth c A C hE hr hnt
  refine r_aload_n C dL_inArray_0 rfl ?_
  refine r_aload_n C dL_inArray_1 rfl ?_
  refine r_iload_n C dL_inArray_2 rfl ?_
  refine r_iload_n C dL_inArray_3 rfl ?_
  rcases hp.two cvI (by simp) hC hB hM with ⟨E, k, hm, h1, h2⟩ | ⟨f', r', n, h1, h2⟩
  · refine c_V (st := [.ref o]) hX.stb C hE (h1 _) pk_X2_inArray qm_L_131 0 6 rfl rfl wc_0 rfl rfl (Nat.le_of_ble_eq_true rfl) dL_inArray_4 ⟨(Nat.le_of_ble_eq_true rfl), (Nat.le_of_ble_eq_true rfl)⟩ ⟨(Nat.le_of_ble_eq_true rfl), (Nat.le_of_ble_eq_true rfl)⟩ (fun _ _ h9 => h9.elim) (fun E1 hE1 => ?_)
    subst hE1
    simp only [List.mem_cons, List.not_mem_nil, or_false, Prod.mk.injEq] at hm
    obtain ⟨rfl, rfl⟩ := hm
    refine r_catch (name := "java/lang/IndexOutOfBoundsException") C [] ⟨0, 11, 14, 19⟩ [] (hnt.trans rfl) (fun z hz => absurd hz List.not_mem_nil) rfl (by decide) (C.2.2.2.2.1 _ qk_L_19) (hX.nw qca_IOB rfl hE) (fun q => ?_)
    refine r_astore C dL_inArray_14 (by decide) rfl ?_
    refine r_iconst (v := nI 1) C dL_inArray_16 (by decide) ?_
    exact r_iret C hr dL_inArray_17 ⟨_, _, _, _, rfl, rfl, h2 _⟩ (Nat.le_of_ble_eq_true rfl) (Nat.le_of_ble_eq_true rfl)
  · refine c_V (st := [.ref o]) hX.stb C hE (h1 _) pk_X2_inArray qm_L_131 0 6 rfl rfl wc_0 rfl rfl (Nat.le_of_ble_eq_true rfl) dL_inArray_4 ⟨(Nat.le_of_ble_eq_true rfl), (Nat.le_of_ble_eq_true rfl)⟩ ⟨(Nat.le_of_ble_eq_true rfl), (Nat.le_of_ble_eq_true rfl)⟩ (fun v9 w9 h9 => ?_) (fun _ h9 => h9.elim)
    obtain ⟨rfl, rfl⟩ := h9
    refine r_i2l C dL_inArray_7 ?_
    refine g_putN hX C hE qu_X3 tyX3 tyX3_ok nmX3 (ci := 7) rfl 38 outo_at 0 (by decide) qn_L_13 rfl rfl (ty := .long) rfl rfl rfl (show 0 < 2 by omega) dL_inArray_8 outo_set ?_
    refine r_goto (tgt := 18) C dL_inArray_11 (by decide) ?_
    refine r_iconst (v := nI 0) C dL_inArray_18 (by decide) ?_
    exact r_iret C hr dL_inArray_19 ⟨_, _, _, _, rfl, rfl, h2⟩ (Nat.le_of_ble_eq_true rfl) (Nat.le_of_ble_eq_true rfl)
theorem dL_window_0 : decode cL_window 0 = .ok (.aload 5, 2) := dqo_25 5 (kb_of ke_L_window 0 rfl) (kb_of ke_L_window 1 rfl)
theorem dL_window_2 : decode cL_window 2 = .ok (.aload_n 0, 1) := dqo_42 (kb_of ke_L_window 2 rfl)
theorem dL_window_3 : decode cL_window 3 = .ok (.iload_n 1, 1) := dqo_27 (kb_of ke_L_window 3 rfl)
theorem dL_window_4 : decode cL_window 4 = .ok (.iload_n 2, 1) := dqo_28 (kb_of ke_L_window 4 rfl)
theorem dL_window_5 : decode cL_window 5 = .ok (.iload_n 3, 1) := dqo_29 (kb_of ke_L_window 5 rfl)
theorem dL_window_6 : decode cL_window 6 = .ok (.iload 4, 2) := dqo_21 4 (kb_of ke_L_window 6 rfl) (kb_of ke_L_window 7 rfl)
theorem dL_window_8 : decode cL_window 8 = .ok (.invokevirtual 134, 3) := dqo_182 0 134 (kb_of ke_L_window 8 rfl) (kb_of ke_L_window 9 rfl) (kb_of ke_L_window 10 rfl)
theorem dL_window_11 : decode cL_window 11 = .ok (.i2l, 1) := dqo_133 (kb_of ke_L_window 11 rfl)
theorem dL_window_12 : decode cL_window 12 = .ok (.putfield 13, 3) := dqo_181 0 13 (kb_of ke_L_window 12 rfl) (kb_of ke_L_window 13 rfl) (kb_of ke_L_window 14 rfl)
theorem dL_window_15 : decode cL_window 15 = .ok (.goto 11, 3) := dqo_167 0 11 (by decide) (kb_of ke_L_window 15 rfl) (kb_of ke_L_window 16 rfl) (kb_of ke_L_window 17 rfl)
theorem dL_window_18 : decode cL_window 18 = .ok (.astore 6, 2) := dqo_58 6 (kb_of ke_L_window 18 rfl) (kb_of ke_L_window 19 rfl)
theorem dL_window_20 : decode cL_window 20 = .ok (.iconst 1, 1) := dqo_4 (kb_of ke_L_window 20 rfl)
theorem dL_window_21 : decode cL_window 21 = .ok (.ireturn, 1) := dqo_172 (kb_of ke_L_window 21 rfl)
theorem dL_window_22 : decode cL_window 22 = .ok (.astore 6, 2) := dqo_58 6 (kb_of ke_L_window 22 rfl) (kb_of ke_L_window 23 rfl)
theorem dL_window_24 : decode cL_window 24 = .ok (.iconst 2, 1) := dqo_5 (kb_of ke_L_window 24 rfl)
theorem dL_window_25 : decode cL_window 25 = .ok (.ireturn, 1) := dqo_172 (kb_of ke_L_window 25 rfl)
theorem dL_window_26 : decode cL_window 26 = .ok (.iconst 0, 1) := dqo_3 (kb_of ke_L_window 26 rfl)
theorem dL_window_27 : decode cL_window 27 = .ok (.ireturn, 1) := dqo_172 (kb_of ke_L_window 27 rfl)
theorem qcw_L_window : Cond.codeWith yL_window cL_window 7 (some .int) [(0, 15, 18, 19), (0, 15, 22, 23)] ∈ GW := gw_5 81 rfl rfl
theorem pk_L_window : PkH yL_window cL_window 7 (some .int) [(0, 15, 18, 19), (0, 15, 22, 23)] 6 := ⟨⟨qt_L_window, qz_L, qcw_L_window⟩, mh_L.1, mh_L.2, pd_49⟩
theorem pk_X2_window : PkV RX2 yX2_window cX2_window 6 (some .int) 4 := ⟨⟨qi_X2_window, qs_X2_window, qz_X2, qc_X2_window⟩, rfl, mh_X2.1, mh_X2.2, pd_50⟩
theorem W_window {l : Launch} {D : va_G} {cy : Nat → ClassId} {X : (Nat → Prop) → State → Heap → Prop} {a : Nat → Nat → Nat} {ba ra : Nat → Nat} {f : Nat → Nat → Nat} {r : Nat → Nat → Int32} {hf : Nat → Nat → Nat} {hq : Nat → Nat → Int32} {kn th : Int32} {sm : Int64} {o : Nat} {n0 : Int64} {s0 : Value} {x0 x1 x2 x3 : Int32} (hX : EnvX X) (hN : EnvN X) (hC : CInv f) (hB : RB r) (hM : MR f r hf hq) (hp : PR l D cy X a ba ra f r hf hq kn th sm yX2_window cX2_window 6 (some .int) yX4_window cX4_window 6 (some .int) (rmk 9 4 48 420) [.int x0, .int x1, .int x2, .int x3] [("java/lang/IndexOutOfBoundsException", 1), ("java/lang/IllegalStateException", 2)]) : CmH l D cy X yL_window cL_window 7 (some .int) [(0, 15, 18, 19), (0, 15, 22, 23)] (rmk 9 1 6 300) [.ref (a 0 0), .int x0, .int x1, .int x2, .int x3, .ref o] (WC cy a f r kn ++ (WM cy ba ra hf hq kn th sm ++ [OUTo o n0 s0])) (fun v1 w1 => ∃ (f' : Nat → Nat → Nat) (r' : Nat → Nat → Int32) (k : Nat) (n1 : Int64), v1 = some (.int (nI k)) ∧ w1 = WC cy a f' r' kn ++ (WM cy ba ra hf hq kn th sm ++ [OUTo o n1 s0]) ∧ PN l D cy X ba ra hf hq kn th sm yX4_window cX4_window 6 (some .int) (rmk 9 4 48 420) [.int x0, .int x1, .int x2, .int x3] cvI f' r' k n1) (fun _ => False) := by
  refine CmH.of [some (.ref (a 0 0)), some (.int x0), some (.int x1), some (.int x2), some (.int x3), some (.ref o), none] pn_L rfl (Nat.le_of_ble_eq_true rfl) ?_
  intro p e s m args below meth c A C hE hr hnt
  refine r_aload C dL_window_0 rfl ?_
  refine r_aload_n C dL_window_2 rfl ?_
  refine r_iload_n C dL_window_3 rfl ?_
  refine r_iload_n C dL_window_4 rfl ?_
  refine r_iload_n C dL_window_5 rfl ?_
  refine r_iload C dL_window_6 rfl ?_
  rcases hp.two cvI (by simp) hC hB hM with ⟨E, k, hm, h1, h2⟩ | ⟨f', r', n, h1, h2⟩
  · refine c_V (st := [.ref o]) hX.stb C hE (h1 _) pk_X2_window qm_L_134 0 6 rfl rfl wc_0 rfl rfl (Nat.le_of_ble_eq_true rfl) dL_window_8 ⟨(Nat.le_of_ble_eq_true rfl), (Nat.le_of_ble_eq_true rfl)⟩ ⟨(Nat.le_of_ble_eq_true rfl), (Nat.le_of_ble_eq_true rfl)⟩ (fun _ _ h9 => h9.elim) (fun E1 hE1 => ?_)
    subst hE1
    simp only [List.mem_cons, List.not_mem_nil, or_false, Prod.mk.injEq] at hm
    rcases hm with ⟨rfl, rfl⟩ | ⟨rfl, rfl⟩
    · refine r_catch (name := "java/lang/IndexOutOfBoundsException") C [] ⟨0, 15, 18, 19⟩ [⟨0, 15, 22, 23⟩] (hnt.trans rfl) (fun z hz => absurd hz List.not_mem_nil) rfl (by decide) (C.2.2.2.2.1 _ qk_L_19) (hX.nw qca_IOB rfl hE) (fun q => ?_)
      refine r_astore C dL_window_18 (by decide) rfl ?_
      refine r_iconst (v := nI 1) C dL_window_20 (by decide) ?_
      exact r_iret C hr dL_window_21 ⟨_, _, _, _, rfl, rfl, h2 _⟩ (Nat.le_of_ble_eq_true rfl) (Nat.le_of_ble_eq_true rfl)
    · refine r_catch (name := "java/lang/IllegalStateException") C [⟨0, 15, 18, 19⟩] ⟨0, 15, 22, 23⟩ [] (hnt.trans rfl) (fun z hz => by
        simp only [List.mem_cons, List.not_mem_nil, or_false] at hz
        subst hz
        exact Or.inr ⟨by decide, "java/lang/IndexOutOfBoundsException", C.2.2.2.2.1 _ qk_L_19, hN ("java/lang/IllegalStateException", "java/lang/IndexOutOfBoundsException") (by simp [NCL]) _ _ _ hE⟩) rfl (by decide) (C.2.2.2.2.1 _ qk_L_23) (hX.nw qca_ISE rfl hE) (fun q => ?_)
      refine r_astore C dL_window_22 (by decide) rfl ?_
      refine r_iconst (v := nI 2) C dL_window_24 (by decide) ?_
      exact r_iret C hr dL_window_25 ⟨_, _, _, _, rfl, rfl, h2 _⟩ (Nat.le_of_ble_eq_true rfl) (Nat.le_of_ble_eq_true rfl)
  · refine c_V (st := [.ref o]) hX.stb C hE (h1 _) pk_X2_window qm_L_134 0 6 rfl rfl wc_0 rfl rfl (Nat.le_of_ble_eq_true rfl) dL_window_8 ⟨(Nat.le_of_ble_eq_true rfl), (Nat.le_of_ble_eq_true rfl)⟩ ⟨(Nat.le_of_ble_eq_true rfl), (Nat.le_of_ble_eq_true rfl)⟩ (fun v9 w9 h9 => ?_) (fun _ h9 => h9.elim)
    obtain ⟨rfl, rfl⟩ := h9
    refine r_i2l C dL_window_11 ?_
    refine g_putN hX C hE qu_X3 tyX3 tyX3_ok nmX3 (ci := 7) rfl 38 outo_at 0 (by decide) qn_L_13 rfl rfl (ty := .long) rfl rfl rfl (show 0 < 2 by omega) dL_window_12 outo_set ?_
    refine r_goto (tgt := 26) C dL_window_15 (by decide) ?_
    refine r_iconst (v := nI 0) C dL_window_26 (by decide) ?_
    exact r_iret C hr dL_window_27 ⟨_, _, _, _, rfl, rfl, h2⟩ (Nat.le_of_ble_eq_true rfl) (Nat.le_of_ble_eq_true rfl)
theorem dL_close_0 : decode cL_close 0 = .ok (.aload_n 2, 1) := dqo_44 (kb_of ke_L_close 0 rfl)
theorem dL_close_1 : decode cL_close 1 = .ok (.aload_n 0, 1) := dqo_42 (kb_of ke_L_close 1 rfl)
theorem dL_close_2 : decode cL_close 2 = .ok (.iload_n 1, 1) := dqo_27 (kb_of ke_L_close 2 rfl)
theorem dL_close_3 : decode cL_close 3 = .ok (.invokevirtual 137, 3) := dqo_182 0 137 (kb_of ke_L_close 3 rfl) (kb_of ke_L_close 4 rfl) (kb_of ke_L_close 5 rfl)
theorem dL_close_6 : decode cL_close 6 = .ok (.i2l, 1) := dqo_133 (kb_of ke_L_close 6 rfl)
theorem dL_close_7 : decode cL_close 7 = .ok (.putfield 13, 3) := dqo_181 0 13 (kb_of ke_L_close 7 rfl) (kb_of ke_L_close 8 rfl) (kb_of ke_L_close 9 rfl)
theorem dL_close_10 : decode cL_close 10 = .ok (.goto 6, 3) := dqo_167 0 6 (by decide) (kb_of ke_L_close 10 rfl) (kb_of ke_L_close 11 rfl) (kb_of ke_L_close 12 rfl)
theorem dL_close_13 : decode cL_close 13 = .ok (.astore_n 3, 1) := dqo_78 (kb_of ke_L_close 13 rfl)
theorem dL_close_14 : decode cL_close 14 = .ok (.iconst 1, 1) := dqo_4 (kb_of ke_L_close 14 rfl)
theorem dL_close_15 : decode cL_close 15 = .ok (.ireturn, 1) := dqo_172 (kb_of ke_L_close 15 rfl)
theorem dL_close_16 : decode cL_close 16 = .ok (.iconst 0, 1) := dqo_3 (kb_of ke_L_close 16 rfl)
theorem dL_close_17 : decode cL_close 17 = .ok (.ireturn, 1) := dqo_172 (kb_of ke_L_close 17 rfl)
theorem qcw_L_close : Cond.codeWith yL_close cL_close 4 (some .int) [(0, 10, 13, 19)] ∈ GW := gw_5 101 rfl rfl
theorem pk_L_close : PkH yL_close cL_close 4 (some .int) [(0, 10, 13, 19)] 3 := ⟨⟨qt_L_close, qz_L, qcw_L_close⟩, mh_L.1, mh_L.2, pd_48⟩
theorem pk_X2_close : PkV RX2 yX2_close cX2_close 2 (some .int) 1 := ⟨⟨qi_X2_close, qs_X2_close, qz_X2, qc_X2_close⟩, rfl, mh_X2.1, mh_X2.2, pd_1⟩
theorem W_close {l : Launch} {D : va_G} {cy : Nat → ClassId} {X : (Nat → Prop) → State → Heap → Prop} {a : Nat → Nat → Nat} {ba ra : Nat → Nat} {f : Nat → Nat → Nat} {r : Nat → Nat → Int32} {hf : Nat → Nat → Nat} {hq : Nat → Nat → Int32} {kn th : Int32} {sm : Int64} {o : Nat} {n0 : Int64} {s0 : Value} {x0 : Int32} (hX : EnvX X) (hN : EnvN X) (hC : CInv f) (hB : RB r) (hM : MR f r hf hq) (hp : PR l D cy X a ba ra f r hf hq kn th sm yX2_close cX2_close 2 (some .int) yX4_close cX4_close 2 (some .int) (rmk 9 4 48 420) [.int x0] [("java/lang/IndexOutOfBoundsException", 1)]) : CmH l D cy X yL_close cL_close 4 (some .int) [(0, 10, 13, 19)] (rmk 9 1 6 300) [.ref (a 0 0), .int x0, .ref o] (WC cy a f r kn ++ (WM cy ba ra hf hq kn th sm ++ [OUTo o n0 s0])) (fun v1 w1 => ∃ (f' : Nat → Nat → Nat) (r' : Nat → Nat → Int32) (k : Nat) (n1 : Int64), v1 = some (.int (nI k)) ∧ w1 = WC cy a f' r' kn ++ (WM cy ba ra hf hq kn th sm ++ [OUTo o n1 s0]) ∧ PN l D cy X ba ra hf hq kn th sm yX4_close cX4_close 2 (some .int) (rmk 9 4 48 420) [.int x0] cvI f' r' k n1) (fun _ => False) := by
  refine CmH.of [some (.ref (a 0 0)), some (.int x0), some (.ref o), none] pn_L rfl (Nat.le_of_ble_eq_true rfl) ?_
  intro p e s m args below meth c A C hE hr hnt
  refine r_aload_n C dL_close_0 rfl ?_
  refine r_aload_n C dL_close_1 rfl ?_
  refine r_iload_n C dL_close_2 rfl ?_
  rcases hp.two cvI (by simp) hC hB hM with ⟨E, k, hm, h1, h2⟩ | ⟨f', r', n, h1, h2⟩
  · refine c_V (st := [.ref o]) hX.stb C hE (h1 _) pk_X2_close qm_L_137 0 6 rfl rfl wc_0 rfl rfl (Nat.le_of_ble_eq_true rfl) dL_close_3 ⟨(Nat.le_of_ble_eq_true rfl), (Nat.le_of_ble_eq_true rfl)⟩ ⟨(Nat.le_of_ble_eq_true rfl), (Nat.le_of_ble_eq_true rfl)⟩ (fun _ _ h9 => h9.elim) (fun E1 hE1 => ?_)
    subst hE1
    simp only [List.mem_cons, List.not_mem_nil, or_false, Prod.mk.injEq] at hm
    obtain ⟨rfl, rfl⟩ := hm
    refine r_catch (name := "java/lang/IndexOutOfBoundsException") C [] ⟨0, 10, 13, 19⟩ [] (hnt.trans rfl) (fun z hz => absurd hz List.not_mem_nil) rfl (by decide) (C.2.2.2.2.1 _ qk_L_19) (hX.nw qca_IOB rfl hE) (fun q => ?_)
    refine r_astore_n C dL_close_13 (by decide) rfl ?_
    refine r_iconst (v := nI 1) C dL_close_14 (by decide) ?_
    exact r_iret C hr dL_close_15 ⟨_, _, _, _, rfl, rfl, h2 _⟩ (Nat.le_of_ble_eq_true rfl) (Nat.le_of_ble_eq_true rfl)
  · refine c_V (st := [.ref o]) hX.stb C hE (h1 _) pk_X2_close qm_L_137 0 6 rfl rfl wc_0 rfl rfl (Nat.le_of_ble_eq_true rfl) dL_close_3 ⟨(Nat.le_of_ble_eq_true rfl), (Nat.le_of_ble_eq_true rfl)⟩ ⟨(Nat.le_of_ble_eq_true rfl), (Nat.le_of_ble_eq_true rfl)⟩ (fun v9 w9 h9 => ?_) (fun _ h9 => h9.elim)
    obtain ⟨rfl, rfl⟩ := h9
    refine r_i2l C dL_close_6 ?_
    refine g_putN hX C hE qu_X3 tyX3 tyX3_ok nmX3 (ci := 7) rfl 38 outo_at 0 (by decide) qn_L_13 rfl rfl (ty := .long) rfl rfl rfl (show 0 < 2 by omega) dL_close_7 outo_set ?_
    refine r_goto (tgt := 16) C dL_close_10 (by decide) ?_
    refine r_iconst (v := nI 0) C dL_close_16 (by decide) ?_
    exact r_iret C hr dL_close_17 ⟨_, _, _, _, rfl, rfl, h2⟩ (Nat.le_of_ble_eq_true rfl) (Nat.le_of_ble_eq_true rfl)
theorem dL_ofWindow_0 : decode cL_ofWindow 0 = .ok (.aload_n 3, 1) := dqo_45 (kb_of ke_L_ofWindow 0 rfl)
theorem dL_ofWindow_1 : decode cL_ofWindow 1 = .ok (.aload_n 0, 1) := dqo_42 (kb_of ke_L_ofWindow 1 rfl)
theorem dL_ofWindow_2 : decode cL_ofWindow 2 = .ok (.iload_n 1, 1) := dqo_27 (kb_of ke_L_ofWindow 2 rfl)
theorem dL_ofWindow_3 : decode cL_ofWindow 3 = .ok (.iload_n 2, 1) := dqo_28 (kb_of ke_L_ofWindow 3 rfl)
theorem dL_ofWindow_4 : decode cL_ofWindow 4 = .ok (.invokevirtual 140, 3) := dqo_182 0 140 (kb_of ke_L_ofWindow 4 rfl) (kb_of ke_L_ofWindow 5 rfl) (kb_of ke_L_ofWindow 6 rfl)
theorem dL_ofWindow_7 : decode cL_ofWindow 7 = .ok (.i2l, 1) := dqo_133 (kb_of ke_L_ofWindow 7 rfl)
theorem dL_ofWindow_8 : decode cL_ofWindow 8 = .ok (.putfield 13, 3) := dqo_181 0 13 (kb_of ke_L_ofWindow 8 rfl) (kb_of ke_L_ofWindow 9 rfl) (kb_of ke_L_ofWindow 10 rfl)
theorem dL_ofWindow_11 : decode cL_ofWindow 11 = .ok (.goto 11, 3) := dqo_167 0 11 (by decide) (kb_of ke_L_ofWindow 11 rfl) (kb_of ke_L_ofWindow 12 rfl) (kb_of ke_L_ofWindow 13 rfl)
theorem dL_ofWindow_14 : decode cL_ofWindow 14 = .ok (.astore 4, 2) := dqo_58 4 (kb_of ke_L_ofWindow 14 rfl) (kb_of ke_L_ofWindow 15 rfl)
theorem dL_ofWindow_16 : decode cL_ofWindow 16 = .ok (.iconst 1, 1) := dqo_4 (kb_of ke_L_ofWindow 16 rfl)
theorem dL_ofWindow_17 : decode cL_ofWindow 17 = .ok (.ireturn, 1) := dqo_172 (kb_of ke_L_ofWindow 17 rfl)
theorem dL_ofWindow_18 : decode cL_ofWindow 18 = .ok (.astore 4, 2) := dqo_58 4 (kb_of ke_L_ofWindow 18 rfl) (kb_of ke_L_ofWindow 19 rfl)
theorem dL_ofWindow_20 : decode cL_ofWindow 20 = .ok (.iconst 2, 1) := dqo_5 (kb_of ke_L_ofWindow 20 rfl)
theorem dL_ofWindow_21 : decode cL_ofWindow 21 = .ok (.ireturn, 1) := dqo_172 (kb_of ke_L_ofWindow 21 rfl)
theorem dL_ofWindow_22 : decode cL_ofWindow 22 = .ok (.iconst 0, 1) := dqo_3 (kb_of ke_L_ofWindow 22 rfl)
theorem dL_ofWindow_23 : decode cL_ofWindow 23 = .ok (.ireturn, 1) := dqo_172 (kb_of ke_L_ofWindow 23 rfl)
theorem qcw_L_ofWindow : Cond.codeWith yL_ofWindow cL_ofWindow 5 (some .int) [(0, 11, 14, 19), (0, 11, 18, 21)] ∈ GW := gw_5 108 rfl rfl
theorem pk_L_ofWindow : PkH yL_ofWindow cL_ofWindow 5 (some .int) [(0, 11, 14, 19), (0, 11, 18, 21)] 4 := ⟨⟨qt_L_ofWindow, qz_L, qcw_L_ofWindow⟩, mh_L.1, mh_L.2, pd_46⟩
theorem W_ofWindow {l : Launch} {D : va_G} {cy : Nat → ClassId} {X : (Nat → Prop) → State → Heap → Prop} {a : Nat → Nat → Nat} {ba ra : Nat → Nat} {f : Nat → Nat → Nat} {r : Nat → Nat → Int32} {hf : Nat → Nat → Nat} {hq : Nat → Nat → Int32} {kn th : Int32} {sm : Int64} {o : Nat} {n0 : Int64} {s0 : Value} {x0 x1 : Int32} (hX : EnvX X) (hN : EnvN X) (hC : CInv f) (hB : RB r) (hM : MR f r hf hq) (hp : PR l D cy X a ba ra f r hf hq kn th sm yX2_ofWindow cX2_ofWindow 4 (some .int) yX4_ofWindow cX4_ofWindow 3 (some .int) (rmk 9 4 48 420) [.int x0, .int x1] [("java/lang/IndexOutOfBoundsException", 1), ("java/lang/IllegalArgumentException", 2)]) : CmH l D cy X yL_ofWindow cL_ofWindow 5 (some .int) [(0, 11, 14, 19), (0, 11, 18, 21)] (rmk 9 1 6 300) [.ref (a 0 0), .int x0, .int x1, .ref o] (WC cy a f r kn ++ (WM cy ba ra hf hq kn th sm ++ [OUTo o n0 s0])) (fun v1 w1 => ∃ (f' : Nat → Nat → Nat) (r' : Nat → Nat → Int32) (k : Nat) (n1 : Int64), v1 = some (.int (nI k)) ∧ w1 = WC cy a f' r' kn ++ (WM cy ba ra hf hq kn th sm ++ [OUTo o n1 s0]) ∧ PN l D cy X ba ra hf hq kn th sm yX4_ofWindow cX4_ofWindow 3 (some .int) (rmk 9 4 48 420) [.int x0, .int x1] cvI f' r' k n1) (fun _ => False) := by
  refine CmH.of [some (.ref (a 0 0)), some (.int x0), some (.int x1), some (.ref o), none] pn_L rfl (Nat.le_of_ble_eq_true rfl) ?_
  intro p e s m args below meth c A C hE hr hnt
  refine r_aload_n C dL_ofWindow_0 rfl ?_
  refine r_aload_n C dL_ofWindow_1 rfl ?_
  refine r_iload_n C dL_ofWindow_2 rfl ?_
  refine r_iload_n C dL_ofWindow_3 rfl ?_
  rcases hp.two cvI (by simp) hC hB hM with ⟨E, k, hm, h1, h2⟩ | ⟨f', r', n, h1, h2⟩
  · refine c_V (st := [.ref o]) hX.stb C hE (h1 _) pk_X2_ofWindow qm_L_140 0 6 rfl rfl wc_0 rfl rfl (Nat.le_of_ble_eq_true rfl) dL_ofWindow_4 ⟨(Nat.le_of_ble_eq_true rfl), (Nat.le_of_ble_eq_true rfl)⟩ ⟨(Nat.le_of_ble_eq_true rfl), (Nat.le_of_ble_eq_true rfl)⟩ (fun _ _ h9 => h9.elim) (fun E1 hE1 => ?_)
    subst hE1
    simp only [List.mem_cons, List.not_mem_nil, or_false, Prod.mk.injEq] at hm
    rcases hm with ⟨rfl, rfl⟩ | ⟨rfl, rfl⟩
    · refine r_catch (name := "java/lang/IndexOutOfBoundsException") C [] ⟨0, 11, 14, 19⟩ [⟨0, 11, 18, 21⟩] (hnt.trans rfl) (fun z hz => absurd hz List.not_mem_nil) rfl (by decide) (C.2.2.2.2.1 _ qk_L_19) (hX.nw qca_IOB rfl hE) (fun q => ?_)
      refine r_astore C dL_ofWindow_14 (by decide) rfl ?_
      refine r_iconst (v := nI 1) C dL_ofWindow_16 (by decide) ?_
      exact r_iret C hr dL_ofWindow_17 ⟨_, _, _, _, rfl, rfl, h2 _⟩ (Nat.le_of_ble_eq_true rfl) (Nat.le_of_ble_eq_true rfl)
    · refine r_catch (name := "java/lang/IllegalArgumentException") C [⟨0, 11, 14, 19⟩] ⟨0, 11, 18, 21⟩ [] (hnt.trans rfl) (fun z hz => by
        simp only [List.mem_cons, List.not_mem_nil, or_false] at hz
        subst hz
        exact Or.inr ⟨by decide, "java/lang/IndexOutOfBoundsException", C.2.2.2.2.1 _ qk_L_19, hN ("java/lang/IllegalArgumentException", "java/lang/IndexOutOfBoundsException") (by simp [NCL]) _ _ _ hE⟩) rfl (by decide) (C.2.2.2.2.1 _ qk_L_21) (hX.nw qca_IAE rfl hE) (fun q => ?_)
      refine r_astore C dL_ofWindow_18 (by decide) rfl ?_
      refine r_iconst (v := nI 2) C dL_ofWindow_20 (by decide) ?_
      exact r_iret C hr dL_ofWindow_21 ⟨_, _, _, _, rfl, rfl, h2 _⟩ (Nat.le_of_ble_eq_true rfl) (Nat.le_of_ble_eq_true rfl)
  · refine c_V (st := [.ref o]) hX.stb C hE (h1 _) pk_X2_ofWindow qm_L_140 0 6 rfl rfl wc_0 rfl rfl (Nat.le_of_ble_eq_true rfl) dL_ofWindow_4 ⟨(Nat.le_of_ble_eq_true rfl), (Nat.le_of_ble_eq_true rfl)⟩ ⟨(Nat.le_of_ble_eq_true rfl), (Nat.le_of_ble_eq_true rfl)⟩ (fun v9 w9 h9 => ?_) (fun _ h9 => h9.elim)
    obtain ⟨rfl, rfl⟩ := h9
    refine r_i2l C dL_ofWindow_7 ?_
    refine g_putN hX C hE qu_X3 tyX3 tyX3_ok nmX3 (ci := 7) rfl 38 outo_at 0 (by decide) qn_L_13 rfl rfl (ty := .long) rfl rfl rfl (show 0 < 2 by omega) dL_ofWindow_8 outo_set ?_
    refine r_goto (tgt := 22) C dL_ofWindow_11 (by decide) ?_
    refine r_iconst (v := nI 0) C dL_ofWindow_22 (by decide) ?_
    exact r_iret C hr dL_ofWindow_23 ⟨_, _, _, _, rfl, rfl, h2⟩ (Nat.le_of_ble_eq_true rfl) (Nat.le_of_ble_eq_true rfl)
