/-! THE LAW'S WRAPPERS, 2 -/
theorem dL_sortBy_0 : decode cL_sortBy 0 = .ok (.aload_n 3, 1) := dqo_45 (kb_of ke_L_sortBy 0 rfl)
theorem dL_sortBy_1 : decode cL_sortBy 1 = .ok (.aload_n 0, 1) := dqo_42 (kb_of ke_L_sortBy 1 rfl)
theorem dL_sortBy_2 : decode cL_sortBy 2 = .ok (.iload_n 1, 1) := dqo_27 (kb_of ke_L_sortBy 2 rfl)
theorem dL_sortBy_3 : decode cL_sortBy 3 = .ok (.iload_n 2, 1) := dqo_28 (kb_of ke_L_sortBy 3 rfl)
theorem dL_sortBy_4 : decode cL_sortBy 4 = .ok (.invokevirtual 61, 3) := dqo_182 0 61 (kb_of ke_L_sortBy 4 rfl) (kb_of ke_L_sortBy 5 rfl) (kb_of ke_L_sortBy 6 rfl)
theorem dL_sortBy_7 : decode cL_sortBy 7 = .ok (.i2l, 1) := dqo_133 (kb_of ke_L_sortBy 7 rfl)
theorem dL_sortBy_8 : decode cL_sortBy 8 = .ok (.putfield 13, 3) := dqo_181 0 13 (kb_of ke_L_sortBy 8 rfl) (kb_of ke_L_sortBy 9 rfl) (kb_of ke_L_sortBy 10 rfl)
theorem dL_sortBy_11 : decode cL_sortBy 11 = .ok (.goto 11, 3) := dqo_167 0 11 (by decide) (kb_of ke_L_sortBy 11 rfl) (kb_of ke_L_sortBy 12 rfl) (kb_of ke_L_sortBy 13 rfl)
theorem dL_sortBy_14 : decode cL_sortBy 14 = .ok (.astore 4, 2) := dqo_58 4 (kb_of ke_L_sortBy 14 rfl) (kb_of ke_L_sortBy 15 rfl)
theorem dL_sortBy_16 : decode cL_sortBy 16 = .ok (.iconst 1, 1) := dqo_4 (kb_of ke_L_sortBy 16 rfl)
theorem dL_sortBy_17 : decode cL_sortBy 17 = .ok (.ireturn, 1) := dqo_172 (kb_of ke_L_sortBy 17 rfl)
theorem dL_sortBy_18 : decode cL_sortBy 18 = .ok (.astore 4, 2) := dqo_58 4 (kb_of ke_L_sortBy 18 rfl) (kb_of ke_L_sortBy 19 rfl)
theorem dL_sortBy_20 : decode cL_sortBy 20 = .ok (.iconst 2, 1) := dqo_5 (kb_of ke_L_sortBy 20 rfl)
theorem dL_sortBy_21 : decode cL_sortBy 21 = .ok (.ireturn, 1) := dqo_172 (kb_of ke_L_sortBy 21 rfl)
theorem dL_sortBy_22 : decode cL_sortBy 22 = .ok (.iconst 0, 1) := dqo_3 (kb_of ke_L_sortBy 22 rfl)
theorem dL_sortBy_23 : decode cL_sortBy 23 = .ok (.ireturn, 1) := dqo_172 (kb_of ke_L_sortBy 23 rfl)
theorem qcw_L_sortBy : Cond.codeWith yL_sortBy cL_sortBy 5 (some .int) [(0, 11, 14, 19), (0, 11, 18, 21)] ∈ GW := gw_4 140 rfl rfl
theorem pk_L_sortBy : PkH yL_sortBy cL_sortBy 5 (some .int) [(0, 11, 14, 19), (0, 11, 18, 21)] 4 := ⟨⟨qt_L_sortBy, qz_L, qcw_L_sortBy⟩, mh_L.1, mh_L.2, pd_46⟩
theorem pk_X2_sortBy : PkV RX2 yX2_sortBy cX2_sortBy 3 (some .int) 2 := ⟨⟨qi_X2_sortBy, qs_X2_sortBy, qz_X2, qc_X2_sortBy⟩, rfl, mh_X2.1, mh_X2.2, pd_0⟩
theorem W_sortBy {l : Launch} {D : va_G} {cy : Nat → ClassId} {X : (Nat → Prop) → State → Heap → Prop} {a : Nat → Nat → Nat} {ba ra : Nat → Nat} {f : Nat → Nat → Nat} {r : Nat → Nat → Int32} {hf : Nat → Nat → Nat} {hq : Nat → Nat → Int32} {kn th : Int32} {sm : Int64} {o : Nat} {n0 : Int64} {s0 : Value} {x0 x1 : Int32} (hX : EnvX X) (hN : EnvN X) (hC : CInv f) (hB : RB r) (hM : MR f r hf hq) (hp : PR l D cy X a ba ra f r hf hq kn th sm yX2_sortBy cX2_sortBy 3 (some .int) yX4_sortBy cX4_sortBy 3 (some .int) (rmk 9 4 48 420) [.int x0, .int x1] [("java/lang/IndexOutOfBoundsException", 1), ("java/lang/IllegalArgumentException", 2)]) : CmH l D cy X yL_sortBy cL_sortBy 5 (some .int) [(0, 11, 14, 19), (0, 11, 18, 21)] (rmk 9 1 6 300) [.ref (a 0 0), .int x0, .int x1, .ref o] (WC cy a f r kn ++ (WM cy ba ra hf hq kn th sm ++ [OUTo o n0 s0])) (fun v1 w1 => ∃ (f' : Nat → Nat → Nat) (r' : Nat → Nat → Int32) (k : Nat) (n1 : Int64), v1 = some (.int (nI k)) ∧ w1 = WC cy a f' r' kn ++ (WM cy ba ra hf hq kn th sm ++ [OUTo o n1 s0]) ∧ PN l D cy X ba ra hf hq kn th sm yX4_sortBy cX4_sortBy 3 (some .int) (rmk 9 4 48 420) [.int x0, .int x1] cvI f' r' k n1) (fun _ => False) := by
  refine CmH.of [some (.ref (a 0 0)), some (.int x0), some (.int x1), some (.ref o), none] pn_L rfl (Nat.le_of_ble_eq_true rfl) ?_
  intro p e s m args below meth c A C hE hr hnt
  refine r_aload_n C dL_sortBy_0 rfl ?_
  refine r_aload_n C dL_sortBy_1 rfl ?_
  refine r_iload_n C dL_sortBy_2 rfl ?_
  refine r_iload_n C dL_sortBy_3 rfl ?_
  rcases hp.two cvI (by simp) hC hB hM with ⟨E, k, hm, h1, h2⟩ | ⟨f', r', n, h1, h2⟩
  · refine c_V (st := [.ref o]) hX.stb C hE (h1 _) pk_X2_sortBy qm_L_61 0 6 rfl rfl wc_0 rfl rfl (Nat.le_of_ble_eq_true rfl) dL_sortBy_4 ⟨(Nat.le_of_ble_eq_true rfl), (Nat.le_of_ble_eq_true rfl)⟩ ⟨(Nat.le_of_ble_eq_true rfl), (Nat.le_of_ble_eq_true rfl)⟩ (fun _ _ h9 => h9.elim) (fun E1 hE1 => ?_)
    subst hE1
    simp only [List.mem_cons, List.not_mem_nil, or_false, Prod.mk.injEq] at hm
    rcases hm with ⟨rfl, rfl⟩ | ⟨rfl, rfl⟩
    · refine r_catch (name := "java/lang/IndexOutOfBoundsException") C [] ⟨0, 11, 14, 19⟩ [⟨0, 11, 18, 21⟩] (hnt.trans rfl) (fun z hz => absurd hz List.not_mem_nil) rfl (by decide) (C.2.2.2.2.1 _ qk_L_19) (hX.nw qca_IOB rfl hE) (fun q => ?_)
      refine r_astore C dL_sortBy_14 (by decide) rfl ?_
      refine r_iconst (v := nI 1) C dL_sortBy_16 (by decide) ?_
      exact r_iret C hr dL_sortBy_17 ⟨_, _, _, _, rfl, rfl, h2 _⟩ (Nat.le_of_ble_eq_true rfl) (Nat.le_of_ble_eq_true rfl)
    · refine r_catch (name := "java/lang/IllegalArgumentException") C [⟨0, 11, 14, 19⟩] ⟨0, 11, 18, 21⟩ [] (hnt.trans rfl) (fun z hz => by
        simp only [List.mem_cons, List.not_mem_nil, or_false] at hz
        subst hz
        exact Or.inr ⟨by decide, "java/lang/IndexOutOfBoundsException", C.2.2.2.2.1 _ qk_L_19, hN ("java/lang/IllegalArgumentException", "java/lang/IndexOutOfBoundsException") (by simp [NCL]) _ _ _ hE⟩) rfl (by decide) (C.2.2.2.2.1 _ qk_L_21) (hX.nw qca_IAE rfl hE) (fun q => ?_)
      refine r_astore C dL_sortBy_18 (by decide) rfl ?_
      refine r_iconst (v := nI 2) C dL_sortBy_20 (by decide) ?_
      exact r_iret C hr dL_sortBy_21 ⟨_, _, _, _, rfl, rfl, h2 _⟩ (Nat.le_of_ble_eq_true rfl) (Nat.le_of_ble_eq_true rfl)
  · refine c_V (st := [.ref o]) hX.stb C hE (h1 _) pk_X2_sortBy qm_L_61 0 6 rfl rfl wc_0 rfl rfl (Nat.le_of_ble_eq_true rfl) dL_sortBy_4 ⟨(Nat.le_of_ble_eq_true rfl), (Nat.le_of_ble_eq_true rfl)⟩ ⟨(Nat.le_of_ble_eq_true rfl), (Nat.le_of_ble_eq_true rfl)⟩ (fun v9 w9 h9 => ?_) (fun _ h9 => h9.elim)
    obtain ⟨rfl, rfl⟩ := h9
    refine r_i2l C dL_sortBy_7 ?_
    refine g_putN hX C hE qu_X3 tyX3 tyX3_ok nmX3 (ci := 7) rfl 38 outo_at 0 (by decide) qn_L_13 rfl rfl (ty := .long) rfl rfl rfl (show 0 < 2 by omega) dL_sortBy_8 outo_set ?_
    refine r_goto (tgt := 22) C dL_sortBy_11 (by decide) ?_
    refine r_iconst (v := nI 0) C dL_sortBy_22 (by decide) ?_
    exact r_iret C hr dL_sortBy_23 ⟨_, _, _, _, rfl, rfl, h2⟩ (Nat.le_of_ble_eq_true rfl) (Nat.le_of_ble_eq_true rfl)
theorem dL_get_0 : decode cL_get 0 = .ok (.aload_n 3, 1) := dqo_45 (kb_of ke_L_get 0 rfl)
theorem dL_get_1 : decode cL_get 1 = .ok (.aload_n 0, 1) := dqo_42 (kb_of ke_L_get 1 rfl)
theorem dL_get_2 : decode cL_get 2 = .ok (.iload_n 1, 1) := dqo_27 (kb_of ke_L_get 2 rfl)
theorem dL_get_3 : decode cL_get 3 = .ok (.iload_n 2, 1) := dqo_28 (kb_of ke_L_get 3 rfl)
theorem dL_get_4 : decode cL_get 4 = .ok (.invokevirtual 64, 3) := dqo_182 0 64 (kb_of ke_L_get 4 rfl) (kb_of ke_L_get 5 rfl) (kb_of ke_L_get 6 rfl)
theorem dL_get_7 : decode cL_get 7 = .ok (.i2l, 1) := dqo_133 (kb_of ke_L_get 7 rfl)
theorem dL_get_8 : decode cL_get 8 = .ok (.putfield 13, 3) := dqo_181 0 13 (kb_of ke_L_get 8 rfl) (kb_of ke_L_get 9 rfl) (kb_of ke_L_get 10 rfl)
theorem dL_get_11 : decode cL_get 11 = .ok (.goto 7, 3) := dqo_167 0 7 (by decide) (kb_of ke_L_get 11 rfl) (kb_of ke_L_get 12 rfl) (kb_of ke_L_get 13 rfl)
theorem dL_get_14 : decode cL_get 14 = .ok (.astore 4, 2) := dqo_58 4 (kb_of ke_L_get 14 rfl) (kb_of ke_L_get 15 rfl)
theorem dL_get_16 : decode cL_get 16 = .ok (.iconst 1, 1) := dqo_4 (kb_of ke_L_get 16 rfl)
theorem dL_get_17 : decode cL_get 17 = .ok (.ireturn, 1) := dqo_172 (kb_of ke_L_get 17 rfl)
theorem dL_get_18 : decode cL_get 18 = .ok (.iconst 0, 1) := dqo_3 (kb_of ke_L_get 18 rfl)
theorem dL_get_19 : decode cL_get 19 = .ok (.ireturn, 1) := dqo_172 (kb_of ke_L_get 19 rfl)
theorem qcw_L_get : Cond.codeWith yL_get cL_get 5 (some .int) [(0, 11, 14, 19)] ∈ GW := gw_4 148 rfl rfl
theorem pk_L_get : PkH yL_get cL_get 5 (some .int) [(0, 11, 14, 19)] 4 := ⟨⟨qt_L_get, qz_L, qcw_L_get⟩, mh_L.1, mh_L.2, pd_46⟩
theorem pk_X2_get : PkV RX2 yX2_get cX2_get 3 (some .int) 2 := ⟨⟨qi_X2_get, qs_X2_get, qz_X2, qc_X2_get⟩, rfl, mh_X2.1, mh_X2.2, pd_0⟩
theorem W_get {l : Launch} {D : va_G} {cy : Nat → ClassId} {X : (Nat → Prop) → State → Heap → Prop} {a : Nat → Nat → Nat} {ba ra : Nat → Nat} {f : Nat → Nat → Nat} {r : Nat → Nat → Int32} {hf : Nat → Nat → Nat} {hq : Nat → Nat → Int32} {kn th : Int32} {sm : Int64} {o : Nat} {n0 : Int64} {s0 : Value} {x0 x1 : Int32} (hX : EnvX X) (hN : EnvN X) (hC : CInv f) (hB : RB r) (hM : MR f r hf hq) (hp : PR l D cy X a ba ra f r hf hq kn th sm yX2_get cX2_get 3 (some .int) yX4_get cX4_get 3 (some .int) (rmk 9 4 48 420) [.int x0, .int x1] [("java/lang/IndexOutOfBoundsException", 1)]) : CmH l D cy X yL_get cL_get 5 (some .int) [(0, 11, 14, 19)] (rmk 9 1 6 300) [.ref (a 0 0), .int x0, .int x1, .ref o] (WC cy a f r kn ++ (WM cy ba ra hf hq kn th sm ++ [OUTo o n0 s0])) (fun v1 w1 => ∃ (f' : Nat → Nat → Nat) (r' : Nat → Nat → Int32) (k : Nat) (n1 : Int64), v1 = some (.int (nI k)) ∧ w1 = WC cy a f' r' kn ++ (WM cy ba ra hf hq kn th sm ++ [OUTo o n1 s0]) ∧ PN l D cy X ba ra hf hq kn th sm yX4_get cX4_get 3 (some .int) (rmk 9 4 48 420) [.int x0, .int x1] cvI f' r' k n1) (fun _ => False) := by
  refine CmH.of [some (.ref (a 0 0)), some (.int x0), some (.int x1), some (.ref o), none] pn_L rfl (Nat.le_of_ble_eq_true rfl) ?_
  intro p e s m args below meth c A C hE hr hnt
  refine r_aload_n C dL_get_0 rfl ?_
  refine r_aload_n C dL_get_1 rfl ?_
  refine r_iload_n C dL_get_2 rfl ?_
  refine r_iload_n C dL_get_3 rfl ?_
  rcases hp.two cvI (by simp) hC hB hM with ⟨E, k, hm, h1, h2⟩ | ⟨f', r', n, h1, h2⟩
  · refine c_V (st := [.ref o]) hX.stb C hE (h1 _) pk_X2_get qm_L_64 0 6 rfl rfl wc_0 rfl rfl (Nat.le_of_ble_eq_true rfl) dL_get_4 ⟨(Nat.le_of_ble_eq_true rfl), (Nat.le_of_ble_eq_true rfl)⟩ ⟨(Nat.le_of_ble_eq_true rfl), (Nat.le_of_ble_eq_true rfl)⟩ (fun _ _ h9 => h9.elim) (fun E1 hE1 => ?_)
    subst hE1
    simp only [List.mem_cons, List.not_mem_nil, or_false, Prod.mk.injEq] at hm
    obtain ⟨rfl, rfl⟩ := hm
    refine r_catch (name := "java/lang/IndexOutOfBoundsException") C [] ⟨0, 11, 14, 19⟩ [] (hnt.trans rfl) (fun z hz => absurd hz List.not_mem_nil) rfl (by decide) (C.2.2.2.2.1 _ qk_L_19) (hX.nw qca_IOB rfl hE) (fun q => ?_)
    refine r_astore C dL_get_14 (by decide) rfl ?_
    refine r_iconst (v := nI 1) C dL_get_16 (by decide) ?_
    exact r_iret C hr dL_get_17 ⟨_, _, _, _, rfl, rfl, h2 _⟩ (Nat.le_of_ble_eq_true rfl) (Nat.le_of_ble_eq_true rfl)
  · refine c_V (st := [.ref o]) hX.stb C hE (h1 _) pk_X2_get qm_L_64 0 6 rfl rfl wc_0 rfl rfl (Nat.le_of_ble_eq_true rfl) dL_get_4 ⟨(Nat.le_of_ble_eq_true rfl), (Nat.le_of_ble_eq_true rfl)⟩ ⟨(Nat.le_of_ble_eq_true rfl), (Nat.le_of_ble_eq_true rfl)⟩ (fun v9 w9 h9 => ?_) (fun _ h9 => h9.elim)
    obtain ⟨rfl, rfl⟩ := h9
    refine r_i2l C dL_get_7 ?_
    refine g_putN hX C hE qu_X3 tyX3 tyX3_ok nmX3 (ci := 7) rfl 38 outo_at 0 (by decide) qn_L_13 rfl rfl (ty := .long) rfl rfl rfl (show 0 < 2 by omega) dL_get_8 outo_set ?_
    refine r_goto (tgt := 18) C dL_get_11 (by decide) ?_
    refine r_iconst (v := nI 0) C dL_get_18 (by decide) ?_
    exact r_iret C hr dL_get_19 ⟨_, _, _, _, rfl, rfl, h2⟩ (Nat.le_of_ble_eq_true rfl) (Nat.le_of_ble_eq_true rfl)
theorem dL_size_0 : decode cL_size 0 = .ok (.aload_n 2, 1) := dqo_44 (kb_of ke_L_size 0 rfl)
theorem dL_size_1 : decode cL_size 1 = .ok (.aload_n 0, 1) := dqo_42 (kb_of ke_L_size 1 rfl)
theorem dL_size_2 : decode cL_size 2 = .ok (.iload_n 1, 1) := dqo_27 (kb_of ke_L_size 2 rfl)
theorem dL_size_3 : decode cL_size 3 = .ok (.invokevirtual 67, 3) := dqo_182 0 67 (kb_of ke_L_size 3 rfl) (kb_of ke_L_size 4 rfl) (kb_of ke_L_size 5 rfl)
theorem dL_size_6 : decode cL_size 6 = .ok (.i2l, 1) := dqo_133 (kb_of ke_L_size 6 rfl)
theorem dL_size_7 : decode cL_size 7 = .ok (.putfield 13, 3) := dqo_181 0 13 (kb_of ke_L_size 7 rfl) (kb_of ke_L_size 8 rfl) (kb_of ke_L_size 9 rfl)
theorem dL_size_10 : decode cL_size 10 = .ok (.goto 6, 3) := dqo_167 0 6 (by decide) (kb_of ke_L_size 10 rfl) (kb_of ke_L_size 11 rfl) (kb_of ke_L_size 12 rfl)
theorem dL_size_13 : decode cL_size 13 = .ok (.astore_n 3, 1) := dqo_78 (kb_of ke_L_size 13 rfl)
theorem dL_size_14 : decode cL_size 14 = .ok (.iconst 1, 1) := dqo_4 (kb_of ke_L_size 14 rfl)
theorem dL_size_15 : decode cL_size 15 = .ok (.ireturn, 1) := dqo_172 (kb_of ke_L_size 15 rfl)
theorem dL_size_16 : decode cL_size 16 = .ok (.iconst 0, 1) := dqo_3 (kb_of ke_L_size 16 rfl)
theorem dL_size_17 : decode cL_size 17 = .ok (.ireturn, 1) := dqo_172 (kb_of ke_L_size 17 rfl)
theorem qcw_L_size : Cond.codeWith yL_size cL_size 4 (some .int) [(0, 10, 13, 19)] ∈ GW := gw_4 155 rfl rfl
theorem pk_L_size : PkH yL_size cL_size 4 (some .int) [(0, 10, 13, 19)] 3 := ⟨⟨qt_L_size, qz_L, qcw_L_size⟩, mh_L.1, mh_L.2, pd_48⟩
theorem pk_X2_size : PkV RX2 yX2_size cX2_size 2 (some .int) 1 := ⟨⟨qi_X2_size, qs_X2_size, qz_X2, qc_X2_size⟩, rfl, mh_X2.1, mh_X2.2, pd_1⟩
theorem W_size {l : Launch} {D : va_G} {cy : Nat → ClassId} {X : (Nat → Prop) → State → Heap → Prop} {a : Nat → Nat → Nat} {ba ra : Nat → Nat} {f : Nat → Nat → Nat} {r : Nat → Nat → Int32} {hf : Nat → Nat → Nat} {hq : Nat → Nat → Int32} {kn th : Int32} {sm : Int64} {o : Nat} {n0 : Int64} {s0 : Value} {x0 : Int32} (hX : EnvX X) (hN : EnvN X) (hC : CInv f) (hB : RB r) (hM : MR f r hf hq) (hp : PR l D cy X a ba ra f r hf hq kn th sm yX2_size cX2_size 2 (some .int) yX4_size cX4_size 2 (some .int) (rmk 9 4 48 420) [.int x0] [("java/lang/IndexOutOfBoundsException", 1)]) : CmH l D cy X yL_size cL_size 4 (some .int) [(0, 10, 13, 19)] (rmk 9 1 6 300) [.ref (a 0 0), .int x0, .ref o] (WC cy a f r kn ++ (WM cy ba ra hf hq kn th sm ++ [OUTo o n0 s0])) (fun v1 w1 => ∃ (f' : Nat → Nat → Nat) (r' : Nat → Nat → Int32) (k : Nat) (n1 : Int64), v1 = some (.int (nI k)) ∧ w1 = WC cy a f' r' kn ++ (WM cy ba ra hf hq kn th sm ++ [OUTo o n1 s0]) ∧ PN l D cy X ba ra hf hq kn th sm yX4_size cX4_size 2 (some .int) (rmk 9 4 48 420) [.int x0] cvI f' r' k n1) (fun _ => False) := by
  refine CmH.of [some (.ref (a 0 0)), some (.int x0), some (.ref o), none] pn_L rfl (Nat.le_of_ble_eq_true rfl) ?_
  intro p e s m args below meth c A C hE hr hnt
  refine r_aload_n C dL_size_0 rfl ?_
  refine r_aload_n C dL_size_1 rfl ?_
  refine r_iload_n C dL_size_2 rfl ?_
  rcases hp.two cvI (by simp) hC hB hM with ⟨E, k, hm, h1, h2⟩ | ⟨f', r', n, h1, h2⟩
  · refine c_V (st := [.ref o]) hX.stb C hE (h1 _) pk_X2_size qm_L_67 0 6 rfl rfl wc_0 rfl rfl (Nat.le_of_ble_eq_true rfl) dL_size_3 ⟨(Nat.le_of_ble_eq_true rfl), (Nat.le_of_ble_eq_true rfl)⟩ ⟨(Nat.le_of_ble_eq_true rfl), (Nat.le_of_ble_eq_true rfl)⟩ (fun _ _ h9 => h9.elim) (fun E1 hE1 => ?_)
    subst hE1
    simp only [List.mem_cons, List.not_mem_nil, or_false, Prod.mk.injEq] at hm
    obtain ⟨rfl, rfl⟩ := hm
    refine r_catch (name := "java/lang/IndexOutOfBoundsException") C [] ⟨0, 10, 13, 19⟩ [] (hnt.trans rfl) (fun z hz => absurd hz List.not_mem_nil) rfl (by decide) (C.2.2.2.2.1 _ qk_L_19) (hX.nw qca_IOB rfl hE) (fun q => ?_)
    refine r_astore_n C dL_size_13 (by decide) rfl ?_
    refine r_iconst (v := nI 1) C dL_size_14 (by decide) ?_
    exact r_iret C hr dL_size_15 ⟨_, _, _, _, rfl, rfl, h2 _⟩ (Nat.le_of_ble_eq_true rfl) (Nat.le_of_ble_eq_true rfl)
  · refine c_V (st := [.ref o]) hX.stb C hE (h1 _) pk_X2_size qm_L_67 0 6 rfl rfl wc_0 rfl rfl (Nat.le_of_ble_eq_true rfl) dL_size_3 ⟨(Nat.le_of_ble_eq_true rfl), (Nat.le_of_ble_eq_true rfl)⟩ ⟨(Nat.le_of_ble_eq_true rfl), (Nat.le_of_ble_eq_true rfl)⟩ (fun v9 w9 h9 => ?_) (fun _ h9 => h9.elim)
    obtain ⟨rfl, rfl⟩ := h9
    refine r_i2l C dL_size_6 ?_
    refine g_putN hX C hE qu_X3 tyX3 tyX3_ok nmX3 (ci := 7) rfl 38 outo_at 0 (by decide) qn_L_13 rfl rfl (ty := .long) rfl rfl rfl (show 0 < 2 by omega) dL_size_7 outo_set ?_
    refine r_goto (tgt := 16) C dL_size_10 (by decide) ?_
    refine r_iconst (v := nI 0) C dL_size_16 (by decide) ?_
    exact r_iret C hr dL_size_17 ⟨_, _, _, _, rfl, rfl, h2⟩ (Nat.le_of_ble_eq_true rfl) (Nat.le_of_ble_eq_true rfl)
theorem dL_partAt_0 : decode cL_partAt 0 = .ok (.aload_n 3, 1) := dqo_45 (kb_of ke_L_partAt 0 rfl)
theorem dL_partAt_1 : decode cL_partAt 1 = .ok (.aload_n 0, 1) := dqo_42 (kb_of ke_L_partAt 1 rfl)
theorem dL_partAt_2 : decode cL_partAt 2 = .ok (.iload_n 1, 1) := dqo_27 (kb_of ke_L_partAt 2 rfl)
theorem dL_partAt_3 : decode cL_partAt 3 = .ok (.iload_n 2, 1) := dqo_28 (kb_of ke_L_partAt 3 rfl)
theorem dL_partAt_4 : decode cL_partAt 4 = .ok (.invokevirtual 70, 3) := dqo_182 0 70 (kb_of ke_L_partAt 4 rfl) (kb_of ke_L_partAt 5 rfl) (kb_of ke_L_partAt 6 rfl)
theorem dL_partAt_7 : decode cL_partAt 7 = .ok (.i2l, 1) := dqo_133 (kb_of ke_L_partAt 7 rfl)
theorem dL_partAt_8 : decode cL_partAt 8 = .ok (.putfield 13, 3) := dqo_181 0 13 (kb_of ke_L_partAt 8 rfl) (kb_of ke_L_partAt 9 rfl) (kb_of ke_L_partAt 10 rfl)
theorem dL_partAt_11 : decode cL_partAt 11 = .ok (.goto 7, 3) := dqo_167 0 7 (by decide) (kb_of ke_L_partAt 11 rfl) (kb_of ke_L_partAt 12 rfl) (kb_of ke_L_partAt 13 rfl)
theorem dL_partAt_14 : decode cL_partAt 14 = .ok (.astore 4, 2) := dqo_58 4 (kb_of ke_L_partAt 14 rfl) (kb_of ke_L_partAt 15 rfl)
theorem dL_partAt_16 : decode cL_partAt 16 = .ok (.iconst 1, 1) := dqo_4 (kb_of ke_L_partAt 16 rfl)
theorem dL_partAt_17 : decode cL_partAt 17 = .ok (.ireturn, 1) := dqo_172 (kb_of ke_L_partAt 17 rfl)
theorem dL_partAt_18 : decode cL_partAt 18 = .ok (.iconst 0, 1) := dqo_3 (kb_of ke_L_partAt 18 rfl)
theorem dL_partAt_19 : decode cL_partAt 19 = .ok (.ireturn, 1) := dqo_172 (kb_of ke_L_partAt 19 rfl)
theorem qcw_L_partAt : Cond.codeWith yL_partAt cL_partAt 5 (some .int) [(0, 11, 14, 19)] ∈ GW := gw_4 162 rfl rfl
theorem pk_L_partAt : PkH yL_partAt cL_partAt 5 (some .int) [(0, 11, 14, 19)] 4 := ⟨⟨qt_L_partAt, qz_L, qcw_L_partAt⟩, mh_L.1, mh_L.2, pd_46⟩
theorem pk_X2_partAt : PkV RX2 yX2_partAt cX2_partAt 3 (some .int) 2 := ⟨⟨qi_X2_partAt, qs_X2_partAt, qz_X2, qc_X2_partAt⟩, rfl, mh_X2.1, mh_X2.2, pd_0⟩
theorem W_partAt {l : Launch} {D : va_G} {cy : Nat → ClassId} {X : (Nat → Prop) → State → Heap → Prop} {a : Nat → Nat → Nat} {ba ra : Nat → Nat} {f : Nat → Nat → Nat} {r : Nat → Nat → Int32} {hf : Nat → Nat → Nat} {hq : Nat → Nat → Int32} {kn th : Int32} {sm : Int64} {o : Nat} {n0 : Int64} {s0 : Value} {x0 x1 : Int32} (hX : EnvX X) (hN : EnvN X) (hC : CInv f) (hB : RB r) (hM : MR f r hf hq) (hp : PR l D cy X a ba ra f r hf hq kn th sm yX2_partAt cX2_partAt 3 (some .int) yX4_partAt cX4_partAt 3 (some .int) (rmk 9 4 48 420) [.int x0, .int x1] [("java/lang/IndexOutOfBoundsException", 1)]) : CmH l D cy X yL_partAt cL_partAt 5 (some .int) [(0, 11, 14, 19)] (rmk 9 1 6 300) [.ref (a 0 0), .int x0, .int x1, .ref o] (WC cy a f r kn ++ (WM cy ba ra hf hq kn th sm ++ [OUTo o n0 s0])) (fun v1 w1 => ∃ (f' : Nat → Nat → Nat) (r' : Nat → Nat → Int32) (k : Nat) (n1 : Int64), v1 = some (.int (nI k)) ∧ w1 = WC cy a f' r' kn ++ (WM cy ba ra hf hq kn th sm ++ [OUTo o n1 s0]) ∧ PN l D cy X ba ra hf hq kn th sm yX4_partAt cX4_partAt 3 (some .int) (rmk 9 4 48 420) [.int x0, .int x1] cvI f' r' k n1) (fun _ => False) := by
  refine CmH.of [some (.ref (a 0 0)), some (.int x0), some (.int x1), some (.ref o), none] pn_L rfl (Nat.le_of_ble_eq_true rfl) ?_
  intro p e s m args below meth c A C hE hr hnt
  refine r_aload_n C dL_partAt_0 rfl ?_
  refine r_aload_n C dL_partAt_1 rfl ?_
  refine r_iload_n C dL_partAt_2 rfl ?_
  refine r_iload_n C dL_partAt_3 rfl ?_
  rcases hp.two cvI (by simp) hC hB hM with ⟨E, k, hm, h1, h2⟩ | ⟨f', r', n, h1, h2⟩
  · refine c_V (st := [.ref o]) hX.stb C hE (h1 _) pk_X2_partAt qm_L_70 0 6 rfl rfl wc_0 rfl rfl (Nat.le_of_ble_eq_true rfl) dL_partAt_4 ⟨(Nat.le_of_ble_eq_true rfl), (Nat.le_of_ble_eq_true rfl)⟩ ⟨(Nat.le_of_ble_eq_true rfl), (Nat.le_of_ble_eq_true rfl)⟩ (fun _ _ h9 => h9.elim) (fun E1 hE1 => ?_)
    subst hE1
    simp only [List.mem_cons, List.not_mem_nil, or_false, Prod.mk.injEq] at hm
    obtain ⟨rfl, rfl⟩ := hm
    refine r_catch (name := "java/lang/IndexOutOfBoundsException") C [] ⟨0, 11, 14, 19⟩ [] (hnt.trans rfl) (fun z hz => absurd hz List.not_mem_nil) rfl (by decide) (C.2.2.2.2.1 _ qk_L_19) (hX.nw qca_IOB rfl hE) (fun q => ?_)
    refine r_astore C dL_partAt_14 (by decide) rfl ?_
    refine r_iconst (v := nI 1) C dL_partAt_16 (by decide) ?_
    exact r_iret C hr dL_partAt_17 ⟨_, _, _, _, rfl, rfl, h2 _⟩ (Nat.le_of_ble_eq_true rfl) (Nat.le_of_ble_eq_true rfl)
  · refine c_V (st := [.ref o]) hX.stb C hE (h1 _) pk_X2_partAt qm_L_70 0 6 rfl rfl wc_0 rfl rfl (Nat.le_of_ble_eq_true rfl) dL_partAt_4 ⟨(Nat.le_of_ble_eq_true rfl), (Nat.le_of_ble_eq_true rfl)⟩ ⟨(Nat.le_of_ble_eq_true rfl), (Nat.le_of_ble_eq_true rfl)⟩ (fun v9 w9 h9 => ?_) (fun _ h9 => h9.elim)
    obtain ⟨rfl, rfl⟩ := h9
    refine r_i2l C dL_partAt_7 ?_
    refine g_putN hX C hE qu_X3 tyX3 tyX3_ok nmX3 (ci := 7) rfl 38 outo_at 0 (by decide) qn_L_13 rfl rfl (ty := .long) rfl rfl rfl (show 0 < 2 by omega) dL_partAt_8 outo_set ?_
    refine r_goto (tgt := 18) C dL_partAt_11 (by decide) ?_
    refine r_iconst (v := nI 0) C dL_partAt_18 (by decide) ?_
    exact r_iret C hr dL_partAt_19 ⟨_, _, _, _, rfl, rfl, h2⟩ (Nat.le_of_ble_eq_true rfl) (Nat.le_of_ble_eq_true rfl)
theorem dL_fill_0 : decode cL_fill 0 = .ok (.aload_n 3, 1) := dqo_45 (kb_of ke_L_fill 0 rfl)
theorem dL_fill_1 : decode cL_fill 1 = .ok (.aload_n 0, 1) := dqo_42 (kb_of ke_L_fill 1 rfl)
theorem dL_fill_2 : decode cL_fill 2 = .ok (.iload_n 1, 1) := dqo_27 (kb_of ke_L_fill 2 rfl)
theorem dL_fill_3 : decode cL_fill 3 = .ok (.iload_n 2, 1) := dqo_28 (kb_of ke_L_fill 3 rfl)
theorem dL_fill_4 : decode cL_fill 4 = .ok (.invokevirtual 73, 3) := dqo_182 0 73 (kb_of ke_L_fill 4 rfl) (kb_of ke_L_fill 5 rfl) (kb_of ke_L_fill 6 rfl)
theorem dL_fill_7 : decode cL_fill 7 = .ok (.i2l, 1) := dqo_133 (kb_of ke_L_fill 7 rfl)
theorem dL_fill_8 : decode cL_fill 8 = .ok (.putfield 13, 3) := dqo_181 0 13 (kb_of ke_L_fill 8 rfl) (kb_of ke_L_fill 9 rfl) (kb_of ke_L_fill 10 rfl)
theorem dL_fill_11 : decode cL_fill 11 = .ok (.goto 11, 3) := dqo_167 0 11 (by decide) (kb_of ke_L_fill 11 rfl) (kb_of ke_L_fill 12 rfl) (kb_of ke_L_fill 13 rfl)
theorem dL_fill_14 : decode cL_fill 14 = .ok (.astore 4, 2) := dqo_58 4 (kb_of ke_L_fill 14 rfl) (kb_of ke_L_fill 15 rfl)
theorem dL_fill_16 : decode cL_fill 16 = .ok (.iconst 1, 1) := dqo_4 (kb_of ke_L_fill 16 rfl)
theorem dL_fill_17 : decode cL_fill 17 = .ok (.ireturn, 1) := dqo_172 (kb_of ke_L_fill 17 rfl)
theorem dL_fill_18 : decode cL_fill 18 = .ok (.astore 4, 2) := dqo_58 4 (kb_of ke_L_fill 18 rfl) (kb_of ke_L_fill 19 rfl)
theorem dL_fill_20 : decode cL_fill 20 = .ok (.iconst 2, 1) := dqo_5 (kb_of ke_L_fill 20 rfl)
theorem dL_fill_21 : decode cL_fill 21 = .ok (.ireturn, 1) := dqo_172 (kb_of ke_L_fill 21 rfl)
theorem dL_fill_22 : decode cL_fill 22 = .ok (.iconst 0, 1) := dqo_3 (kb_of ke_L_fill 22 rfl)
theorem dL_fill_23 : decode cL_fill 23 = .ok (.ireturn, 1) := dqo_172 (kb_of ke_L_fill 23 rfl)
theorem qcw_L_fill : Cond.codeWith yL_fill cL_fill 5 (some .int) [(0, 11, 14, 19), (0, 11, 18, 21)] ∈ GW := gw_4 169 rfl rfl
theorem pk_L_fill : PkH yL_fill cL_fill 5 (some .int) [(0, 11, 14, 19), (0, 11, 18, 21)] 4 := ⟨⟨qt_L_fill, qz_L, qcw_L_fill⟩, mh_L.1, mh_L.2, pd_46⟩
theorem pk_X2_fill : PkV RX2 yX2_fill cX2_fill 4 (some .int) 2 := ⟨⟨qi_X2_fill, qs_X2_fill, qz_X2, qc_X2_fill⟩, rfl, mh_X2.1, mh_X2.2, pd_0⟩
theorem W_fill {l : Launch} {D : va_G} {cy : Nat → ClassId} {X : (Nat → Prop) → State → Heap → Prop} {a : Nat → Nat → Nat} {ba ra : Nat → Nat} {f : Nat → Nat → Nat} {r : Nat → Nat → Int32} {hf : Nat → Nat → Nat} {hq : Nat → Nat → Int32} {kn th : Int32} {sm : Int64} {o : Nat} {n0 : Int64} {s0 : Value} {x0 x1 : Int32} (hX : EnvX X) (hN : EnvN X) (hC : CInv f) (hB : RB r) (hM : MR f r hf hq) (hp : PR l D cy X a ba ra f r hf hq kn th sm yX2_fill cX2_fill 4 (some .int) yX4_fill cX4_fill 4 (some .int) (rmk 9 4 48 420) [.int x0, .int x1] [("java/lang/IndexOutOfBoundsException", 1), ("java/lang/IllegalArgumentException", 2)]) : CmH l D cy X yL_fill cL_fill 5 (some .int) [(0, 11, 14, 19), (0, 11, 18, 21)] (rmk 9 1 6 300) [.ref (a 0 0), .int x0, .int x1, .ref o] (WC cy a f r kn ++ (WM cy ba ra hf hq kn th sm ++ [OUTo o n0 s0])) (fun v1 w1 => ∃ (f' : Nat → Nat → Nat) (r' : Nat → Nat → Int32) (k : Nat) (n1 : Int64), v1 = some (.int (nI k)) ∧ w1 = WC cy a f' r' kn ++ (WM cy ba ra hf hq kn th sm ++ [OUTo o n1 s0]) ∧ PN l D cy X ba ra hf hq kn th sm yX4_fill cX4_fill 4 (some .int) (rmk 9 4 48 420) [.int x0, .int x1] cvI f' r' k n1) (fun _ => False) := by
  refine CmH.of [some (.ref (a 0 0)), some (.int x0), some (.int x1), some (.ref o), none] pn_L rfl (Nat.le_of_ble_eq_true rfl) ?_
  intro p e s m args below meth c A C hE hr hnt
  refine r_aload_n C dL_fill_0 rfl ?_
  refine r_aload_n C dL_fill_1 rfl ?_
  refine r_iload_n C dL_fill_2 rfl ?_
  refine r_iload_n C dL_fill_3 rfl ?_
  rcases hp.two cvI (by simp) hC hB hM with ⟨E, k, hm, h1, h2⟩ | ⟨f', r', n, h1, h2⟩
  · refine c_V (st := [.ref o]) hX.stb C hE (h1 _) pk_X2_fill qm_L_73 0 6 rfl rfl wc_0 rfl rfl (Nat.le_of_ble_eq_true rfl) dL_fill_4 ⟨(Nat.le_of_ble_eq_true rfl), (Nat.le_of_ble_eq_true rfl)⟩ ⟨(Nat.le_of_ble_eq_true rfl), (Nat.le_of_ble_eq_true rfl)⟩ (fun _ _ h9 => h9.elim) (fun E1 hE1 => ?_)
    subst hE1
    simp only [List.mem_cons, List.not_mem_nil, or_false, Prod.mk.injEq] at hm
    rcases hm with ⟨rfl, rfl⟩ | ⟨rfl, rfl⟩
    · refine r_catch (name := "java/lang/IndexOutOfBoundsException") C [] ⟨0, 11, 14, 19⟩ [⟨0, 11, 18, 21⟩] (hnt.trans rfl) (fun z hz => absurd hz List.not_mem_nil) rfl (by decide) (C.2.2.2.2.1 _ qk_L_19) (hX.nw qca_IOB rfl hE) (fun q => ?_)
      refine r_astore C dL_fill_14 (by decide) rfl ?_
      refine r_iconst (v := nI 1) C dL_fill_16 (by decide) ?_
      exact r_iret C hr dL_fill_17 ⟨_, _, _, _, rfl, rfl, h2 _⟩ (Nat.le_of_ble_eq_true rfl) (Nat.le_of_ble_eq_true rfl)
    · refine r_catch (name := "java/lang/IllegalArgumentException") C [⟨0, 11, 14, 19⟩] ⟨0, 11, 18, 21⟩ [] (hnt.trans rfl) (fun z hz => by
        simp only [List.mem_cons, List.not_mem_nil, or_false] at hz
        subst hz
        exact Or.inr ⟨by decide, "java/lang/IndexOutOfBoundsException", C.2.2.2.2.1 _ qk_L_19, hN ("java/lang/IllegalArgumentException", "java/lang/IndexOutOfBoundsException") (by simp [NCL]) _ _ _ hE⟩) rfl (by decide) (C.2.2.2.2.1 _ qk_L_21) (hX.nw qca_IAE rfl hE) (fun q => ?_)
      refine r_astore C dL_fill_18 (by decide) rfl ?_
      refine r_iconst (v := nI 2) C dL_fill_20 (by decide) ?_
      exact r_iret C hr dL_fill_21 ⟨_, _, _, _, rfl, rfl, h2 _⟩ (Nat.le_of_ble_eq_true rfl) (Nat.le_of_ble_eq_true rfl)
  · refine c_V (st := [.ref o]) hX.stb C hE (h1 _) pk_X2_fill qm_L_73 0 6 rfl rfl wc_0 rfl rfl (Nat.le_of_ble_eq_true rfl) dL_fill_4 ⟨(Nat.le_of_ble_eq_true rfl), (Nat.le_of_ble_eq_true rfl)⟩ ⟨(Nat.le_of_ble_eq_true rfl), (Nat.le_of_ble_eq_true rfl)⟩ (fun v9 w9 h9 => ?_) (fun _ h9 => h9.elim)
    obtain ⟨rfl, rfl⟩ := h9
    refine r_i2l C dL_fill_7 ?_
    refine g_putN hX C hE qu_X3 tyX3 tyX3_ok nmX3 (ci := 7) rfl 38 outo_at 0 (by decide) qn_L_13 rfl rfl (ty := .long) rfl rfl rfl (show 0 < 2 by omega) dL_fill_8 outo_set ?_
    refine r_goto (tgt := 22) C dL_fill_11 (by decide) ?_
    refine r_iconst (v := nI 0) C dL_fill_22 (by decide) ?_
    exact r_iret C hr dL_fill_23 ⟨_, _, _, _, rfl, rfl, h2⟩ (Nat.le_of_ble_eq_true rfl) (Nat.le_of_ble_eq_true rfl)
theorem dL_removeItem_0 : decode cL_removeItem 0 = .ok (.aload_n 3, 1) := dqo_45 (kb_of ke_L_removeItem 0 rfl)
theorem dL_removeItem_1 : decode cL_removeItem 1 = .ok (.aload_n 0, 1) := dqo_42 (kb_of ke_L_removeItem 1 rfl)
theorem dL_removeItem_2 : decode cL_removeItem 2 = .ok (.iload_n 1, 1) := dqo_27 (kb_of ke_L_removeItem 2 rfl)
theorem dL_removeItem_3 : decode cL_removeItem 3 = .ok (.iload_n 2, 1) := dqo_28 (kb_of ke_L_removeItem 3 rfl)
theorem dL_removeItem_4 : decode cL_removeItem 4 = .ok (.invokevirtual 76, 3) := dqo_182 0 76 (kb_of ke_L_removeItem 4 rfl) (kb_of ke_L_removeItem 5 rfl) (kb_of ke_L_removeItem 6 rfl)
theorem dL_removeItem_7 : decode cL_removeItem 7 = .ok (.i2l, 1) := dqo_133 (kb_of ke_L_removeItem 7 rfl)
theorem dL_removeItem_8 : decode cL_removeItem 8 = .ok (.putfield 13, 3) := dqo_181 0 13 (kb_of ke_L_removeItem 8 rfl) (kb_of ke_L_removeItem 9 rfl) (kb_of ke_L_removeItem 10 rfl)
theorem dL_removeItem_11 : decode cL_removeItem 11 = .ok (.goto 7, 3) := dqo_167 0 7 (by decide) (kb_of ke_L_removeItem 11 rfl) (kb_of ke_L_removeItem 12 rfl) (kb_of ke_L_removeItem 13 rfl)
theorem dL_removeItem_14 : decode cL_removeItem 14 = .ok (.astore 4, 2) := dqo_58 4 (kb_of ke_L_removeItem 14 rfl) (kb_of ke_L_removeItem 15 rfl)
theorem dL_removeItem_16 : decode cL_removeItem 16 = .ok (.iconst 1, 1) := dqo_4 (kb_of ke_L_removeItem 16 rfl)
theorem dL_removeItem_17 : decode cL_removeItem 17 = .ok (.ireturn, 1) := dqo_172 (kb_of ke_L_removeItem 17 rfl)
theorem dL_removeItem_18 : decode cL_removeItem 18 = .ok (.iconst 0, 1) := dqo_3 (kb_of ke_L_removeItem 18 rfl)
theorem dL_removeItem_19 : decode cL_removeItem 19 = .ok (.ireturn, 1) := dqo_172 (kb_of ke_L_removeItem 19 rfl)
theorem qcw_L_removeItem : Cond.codeWith yL_removeItem cL_removeItem 5 (some .int) [(0, 11, 14, 19)] ∈ GW := gw_4 180 rfl rfl
theorem pk_L_removeItem : PkH yL_removeItem cL_removeItem 5 (some .int) [(0, 11, 14, 19)] 4 := ⟨⟨qt_L_removeItem, qz_L, qcw_L_removeItem⟩, mh_L.1, mh_L.2, pd_46⟩
theorem pk_X2_removeItem : PkV RX2 yX2_removeItem cX2_removeItem 4 (some .int) 2 := ⟨⟨qi_X2_removeItem, qs_X2_removeItem, qz_X2, qc_X2_removeItem⟩, rfl, mh_X2.1, mh_X2.2, pd_0⟩
theorem W_removeItem {l : Launch} {D : va_G} {cy : Nat → ClassId} {X : (Nat → Prop) → State → Heap → Prop} {a : Nat → Nat → Nat} {ba ra : Nat → Nat} {f : Nat → Nat → Nat} {r : Nat → Nat → Int32} {hf : Nat → Nat → Nat} {hq : Nat → Nat → Int32} {kn th : Int32} {sm : Int64} {o : Nat} {n0 : Int64} {s0 : Value} {x0 x1 : Int32} (hX : EnvX X) (hN : EnvN X) (hC : CInv f) (hB : RB r) (hM : MR f r hf hq) (hp : PR l D cy X a ba ra f r hf hq kn th sm yX2_removeItem cX2_removeItem 4 (some .int) yX4_removeItem cX4_removeItem 4 (some .int) (rmk 9 4 48 420) [.int x0, .int x1] [("java/lang/IndexOutOfBoundsException", 1)]) : CmH l D cy X yL_removeItem cL_removeItem 5 (some .int) [(0, 11, 14, 19)] (rmk 9 1 6 300) [.ref (a 0 0), .int x0, .int x1, .ref o] (WC cy a f r kn ++ (WM cy ba ra hf hq kn th sm ++ [OUTo o n0 s0])) (fun v1 w1 => ∃ (f' : Nat → Nat → Nat) (r' : Nat → Nat → Int32) (k : Nat) (n1 : Int64), v1 = some (.int (nI k)) ∧ w1 = WC cy a f' r' kn ++ (WM cy ba ra hf hq kn th sm ++ [OUTo o n1 s0]) ∧ PN l D cy X ba ra hf hq kn th sm yX4_removeItem cX4_removeItem 4 (some .int) (rmk 9 4 48 420) [.int x0, .int x1] cvI f' r' k n1) (fun _ => False) := by
  refine CmH.of [some (.ref (a 0 0)), some (.int x0), some (.int x1), some (.ref o), none] pn_L rfl (Nat.le_of_ble_eq_true rfl) ?_
  intro p e s m args below meth c A C hE hr hnt
  refine r_aload_n C dL_removeItem_0 rfl ?_
  refine r_aload_n C dL_removeItem_1 rfl ?_
  refine r_iload_n C dL_removeItem_2 rfl ?_
  refine r_iload_n C dL_removeItem_3 rfl ?_
  rcases hp.two cvI (by simp) hC hB hM with ⟨E, k, hm, h1, h2⟩ | ⟨f', r', n, h1, h2⟩
  · refine c_V (st := [.ref o]) hX.stb C hE (h1 _) pk_X2_removeItem qm_L_76 0 6 rfl rfl wc_0 rfl rfl (Nat.le_of_ble_eq_true rfl) dL_removeItem_4 ⟨(Nat.le_of_ble_eq_true rfl), (Nat.le_of_ble_eq_true rfl)⟩ ⟨(Nat.le_of_ble_eq_true rfl), (Nat.le_of_ble_eq_true rfl)⟩ (fun _ _ h9 => h9.elim) (fun E1 hE1 => ?_)
    subst hE1
    simp only [List.mem_cons, List.not_mem_nil, or_false, Prod.mk.injEq] at hm
    obtain ⟨rfl, rfl⟩ := hm
    refine r_catch (name := "java/lang/IndexOutOfBoundsException") C [] ⟨0, 11, 14, 19⟩ [] (hnt.trans rfl) (fun z hz => absurd hz List.not_mem_nil) rfl (by decide) (C.2.2.2.2.1 _ qk_L_19) (hX.nw qca_IOB rfl hE) (fun q => ?_)
    refine r_astore C dL_removeItem_14 (by decide) rfl ?_
    refine r_iconst (v := nI 1) C dL_removeItem_16 (by decide) ?_
    exact r_iret C hr dL_removeItem_17 ⟨_, _, _, _, rfl, rfl, h2 _⟩ (Nat.le_of_ble_eq_true rfl) (Nat.le_of_ble_eq_true rfl)
  · refine c_V (st := [.ref o]) hX.stb C hE (h1 _) pk_X2_removeItem qm_L_76 0 6 rfl rfl wc_0 rfl rfl (Nat.le_of_ble_eq_true rfl) dL_removeItem_4 ⟨(Nat.le_of_ble_eq_true rfl), (Nat.le_of_ble_eq_true rfl)⟩ ⟨(Nat.le_of_ble_eq_true rfl), (Nat.le_of_ble_eq_true rfl)⟩ (fun v9 w9 h9 => ?_) (fun _ h9 => h9.elim)
    obtain ⟨rfl, rfl⟩ := h9
    refine r_i2l C dL_removeItem_7 ?_
    refine g_putN hX C hE qu_X3 tyX3 tyX3_ok nmX3 (ci := 7) rfl 38 outo_at 0 (by decide) qn_L_13 rfl rfl (ty := .long) rfl rfl rfl (show 0 < 2 by omega) dL_removeItem_8 outo_set ?_
    refine r_goto (tgt := 18) C dL_removeItem_11 (by decide) ?_
    refine r_iconst (v := nI 0) C dL_removeItem_18 (by decide) ?_
    exact r_iret C hr dL_removeItem_19 ⟨_, _, _, _, rfl, rfl, h2⟩ (Nat.le_of_ble_eq_true rfl) (Nat.le_of_ble_eq_true rfl)
theorem dL_addAll_0 : decode cL_addAll 0 = .ok (.aload 4, 2) := dqo_25 4 (kb_of ke_L_addAll 0 rfl) (kb_of ke_L_addAll 1 rfl)
theorem dL_addAll_2 : decode cL_addAll 2 = .ok (.aload_n 0, 1) := dqo_42 (kb_of ke_L_addAll 2 rfl)
theorem dL_addAll_3 : decode cL_addAll 3 = .ok (.iload_n 1, 1) := dqo_27 (kb_of ke_L_addAll 3 rfl)
theorem dL_addAll_4 : decode cL_addAll 4 = .ok (.iload_n 2, 1) := dqo_28 (kb_of ke_L_addAll 4 rfl)
theorem dL_addAll_5 : decode cL_addAll 5 = .ok (.iload_n 3, 1) := dqo_29 (kb_of ke_L_addAll 5 rfl)
theorem dL_addAll_6 : decode cL_addAll 6 = .ok (.invokevirtual 79, 3) := dqo_182 0 79 (kb_of ke_L_addAll 6 rfl) (kb_of ke_L_addAll 7 rfl) (kb_of ke_L_addAll 8 rfl)
theorem dL_addAll_9 : decode cL_addAll 9 = .ok (.i2l, 1) := dqo_133 (kb_of ke_L_addAll 9 rfl)
theorem dL_addAll_10 : decode cL_addAll 10 = .ok (.putfield 13, 3) := dqo_181 0 13 (kb_of ke_L_addAll 10 rfl) (kb_of ke_L_addAll 11 rfl) (kb_of ke_L_addAll 12 rfl)
theorem dL_addAll_13 : decode cL_addAll 13 = .ok (.goto 11, 3) := dqo_167 0 11 (by decide) (kb_of ke_L_addAll 13 rfl) (kb_of ke_L_addAll 14 rfl) (kb_of ke_L_addAll 15 rfl)
theorem dL_addAll_16 : decode cL_addAll 16 = .ok (.astore 5, 2) := dqo_58 5 (kb_of ke_L_addAll 16 rfl) (kb_of ke_L_addAll 17 rfl)
theorem dL_addAll_18 : decode cL_addAll 18 = .ok (.iconst 1, 1) := dqo_4 (kb_of ke_L_addAll 18 rfl)
theorem dL_addAll_19 : decode cL_addAll 19 = .ok (.ireturn, 1) := dqo_172 (kb_of ke_L_addAll 19 rfl)
theorem dL_addAll_20 : decode cL_addAll 20 = .ok (.astore 5, 2) := dqo_58 5 (kb_of ke_L_addAll 20 rfl) (kb_of ke_L_addAll 21 rfl)
theorem dL_addAll_22 : decode cL_addAll 22 = .ok (.iconst 2, 1) := dqo_5 (kb_of ke_L_addAll 22 rfl)
theorem dL_addAll_23 : decode cL_addAll 23 = .ok (.ireturn, 1) := dqo_172 (kb_of ke_L_addAll 23 rfl)
theorem dL_addAll_24 : decode cL_addAll 24 = .ok (.iconst 0, 1) := dqo_3 (kb_of ke_L_addAll 24 rfl)
theorem dL_addAll_25 : decode cL_addAll 25 = .ok (.ireturn, 1) := dqo_172 (kb_of ke_L_addAll 25 rfl)
theorem qcw_L_addAll : Cond.codeWith yL_addAll cL_addAll 6 (some .int) [(0, 13, 16, 19), (0, 13, 20, 23)] ∈ GW := gw_4 191 rfl rfl
theorem pk_L_addAll : PkH yL_addAll cL_addAll 6 (some .int) [(0, 13, 16, 19), (0, 13, 20, 23)] 5 := ⟨⟨qt_L_addAll, qz_L, qcw_L_addAll⟩, mh_L.1, mh_L.2, pd_47⟩
theorem pk_X2_addAll : PkV RX2 yX2_addAll cX2_addAll 5 (some .int) 3 := ⟨⟨qi_X2_addAll, qs_X2_addAll, qz_X2, qc_X2_addAll⟩, rfl, mh_X2.1, mh_X2.2, pd_28⟩
theorem W_addAll {l : Launch} {D : va_G} {cy : Nat → ClassId} {X : (Nat → Prop) → State → Heap → Prop} {a : Nat → Nat → Nat} {ba ra : Nat → Nat} {f : Nat → Nat → Nat} {r : Nat → Nat → Int32} {hf : Nat → Nat → Nat} {hq : Nat → Nat → Int32} {kn th : Int32} {sm : Int64} {o : Nat} {n0 : Int64} {s0 : Value} {x0 x1 x2 : Int32} (hX : EnvX X) (hN : EnvN X) (hC : CInv f) (hB : RB r) (hM : MR f r hf hq) (hp : PR l D cy X a ba ra f r hf hq kn th sm yX2_addAll cX2_addAll 5 (some .int) yX4_addAll cX4_addAll 5 (some .int) (rmk 9 4 48 420) [.int x0, .int x1, .int x2] [("java/lang/IndexOutOfBoundsException", 1), ("java/lang/IllegalStateException", 2)]) : CmH l D cy X yL_addAll cL_addAll 6 (some .int) [(0, 13, 16, 19), (0, 13, 20, 23)] (rmk 9 1 6 300) [.ref (a 0 0), .int x0, .int x1, .int x2, .ref o] (WC cy a f r kn ++ (WM cy ba ra hf hq kn th sm ++ [OUTo o n0 s0])) (fun v1 w1 => ∃ (f' : Nat → Nat → Nat) (r' : Nat → Nat → Int32) (k : Nat) (n1 : Int64), v1 = some (.int (nI k)) ∧ w1 = WC cy a f' r' kn ++ (WM cy ba ra hf hq kn th sm ++ [OUTo o n1 s0]) ∧ PN l D cy X ba ra hf hq kn th sm yX4_addAll cX4_addAll 5 (some .int) (rmk 9 4 48 420) [.int x0, .int x1, .int x2] cvI f' r' k n1) (fun _ => False) := by
  refine CmH.of [some (.ref (a 0 0)), some (.int x0), some (.int x1), some (.int x2), some (.ref o), none] pn_L rfl (Nat.le_of_ble_eq_true rfl) ?_
  intro p e s m args below meth c A C hE hr hnt
  refine r_aload C dL_addAll_0 rfl ?_
  refine r_aload_n C dL_addAll_2 rfl ?_
  refine r_iload_n C dL_addAll_3 rfl ?_
  refine r_iload_n C dL_addAll_4 rfl ?_
  refine r_iload_n C dL_addAll_5 rfl ?_
  rcases hp.two cvI (by simp) hC hB hM with ⟨E, k, hm, h1, h2⟩ | ⟨f', r', n, h1, h2⟩
  · refine c_V (st := [.ref o]) hX.stb C hE (h1 _) pk_X2_addAll qm_L_79 0 6 rfl rfl wc_0 rfl rfl (Nat.le_of_ble_eq_true rfl) dL_addAll_6 ⟨(Nat.le_of_ble_eq_true rfl), (Nat.le_of_ble_eq_true rfl)⟩ ⟨(Nat.le_of_ble_eq_true rfl), (Nat.le_of_ble_eq_true rfl)⟩ (fun _ _ h9 => h9.elim) (fun E1 hE1 => ?_)
    subst hE1
    simp only [List.mem_cons, List.not_mem_nil, or_false, Prod.mk.injEq] at hm
    rcases hm with ⟨rfl, rfl⟩ | ⟨rfl, rfl⟩
    · refine r_catch (name := "java/lang/IndexOutOfBoundsException") C [] ⟨0, 13, 16, 19⟩ [⟨0, 13, 20, 23⟩] (hnt.trans rfl) (fun z hz => absurd hz List.not_mem_nil) rfl (by decide) (C.2.2.2.2.1 _ qk_L_19) (hX.nw qca_IOB rfl hE) (fun q => ?_)
      refine r_astore C dL_addAll_16 (by decide) rfl ?_
      refine r_iconst (v := nI 1) C dL_addAll_18 (by decide) ?_
      exact r_iret C hr dL_addAll_19 ⟨_, _, _, _, rfl, rfl, h2 _⟩ (Nat.le_of_ble_eq_true rfl) (Nat.le_of_ble_eq_true rfl)
    · refine r_catch (name := "java/lang/IllegalStateException") C [⟨0, 13, 16, 19⟩] ⟨0, 13, 20, 23⟩ [] (hnt.trans rfl) (fun z hz => by
        simp only [List.mem_cons, List.not_mem_nil, or_false] at hz
        subst hz
        exact Or.inr ⟨by decide, "java/lang/IndexOutOfBoundsException", C.2.2.2.2.1 _ qk_L_19, hN ("java/lang/IllegalStateException", "java/lang/IndexOutOfBoundsException") (by simp [NCL]) _ _ _ hE⟩) rfl (by decide) (C.2.2.2.2.1 _ qk_L_23) (hX.nw qca_ISE rfl hE) (fun q => ?_)
      refine r_astore C dL_addAll_20 (by decide) rfl ?_
      refine r_iconst (v := nI 2) C dL_addAll_22 (by decide) ?_
      exact r_iret C hr dL_addAll_23 ⟨_, _, _, _, rfl, rfl, h2 _⟩ (Nat.le_of_ble_eq_true rfl) (Nat.le_of_ble_eq_true rfl)
  · refine c_V (st := [.ref o]) hX.stb C hE (h1 _) pk_X2_addAll qm_L_79 0 6 rfl rfl wc_0 rfl rfl (Nat.le_of_ble_eq_true rfl) dL_addAll_6 ⟨(Nat.le_of_ble_eq_true rfl), (Nat.le_of_ble_eq_true rfl)⟩ ⟨(Nat.le_of_ble_eq_true rfl), (Nat.le_of_ble_eq_true rfl)⟩ (fun v9 w9 h9 => ?_) (fun _ h9 => h9.elim)
    obtain ⟨rfl, rfl⟩ := h9
    refine r_i2l C dL_addAll_9 ?_
    refine g_putN hX C hE qu_X3 tyX3 tyX3_ok nmX3 (ci := 7) rfl 38 outo_at 0 (by decide) qn_L_13 rfl rfl (ty := .long) rfl rfl rfl (show 0 < 2 by omega) dL_addAll_10 outo_set ?_
    refine r_goto (tgt := 24) C dL_addAll_13 (by decide) ?_
    refine r_iconst (v := nI 0) C dL_addAll_24 (by decide) ?_
    exact r_iret C hr dL_addAll_25 ⟨_, _, _, _, rfl, rfl, h2⟩ (Nat.le_of_ble_eq_true rfl) (Nat.le_of_ble_eq_true rfl)
theorem dL_removeAll_0 : decode cL_removeAll 0 = .ok (.aload_n 3, 1) := dqo_45 (kb_of ke_L_removeAll 0 rfl)
theorem dL_removeAll_1 : decode cL_removeAll 1 = .ok (.aload_n 0, 1) := dqo_42 (kb_of ke_L_removeAll 1 rfl)
theorem dL_removeAll_2 : decode cL_removeAll 2 = .ok (.iload_n 1, 1) := dqo_27 (kb_of ke_L_removeAll 2 rfl)
theorem dL_removeAll_3 : decode cL_removeAll 3 = .ok (.iload_n 2, 1) := dqo_28 (kb_of ke_L_removeAll 3 rfl)
theorem dL_removeAll_4 : decode cL_removeAll 4 = .ok (.invokevirtual 82, 3) := dqo_182 0 82 (kb_of ke_L_removeAll 4 rfl) (kb_of ke_L_removeAll 5 rfl) (kb_of ke_L_removeAll 6 rfl)
theorem dL_removeAll_7 : decode cL_removeAll 7 = .ok (.i2l, 1) := dqo_133 (kb_of ke_L_removeAll 7 rfl)
theorem dL_removeAll_8 : decode cL_removeAll 8 = .ok (.putfield 13, 3) := dqo_181 0 13 (kb_of ke_L_removeAll 8 rfl) (kb_of ke_L_removeAll 9 rfl) (kb_of ke_L_removeAll 10 rfl)
theorem dL_removeAll_11 : decode cL_removeAll 11 = .ok (.goto 7, 3) := dqo_167 0 7 (by decide) (kb_of ke_L_removeAll 11 rfl) (kb_of ke_L_removeAll 12 rfl) (kb_of ke_L_removeAll 13 rfl)
theorem dL_removeAll_14 : decode cL_removeAll 14 = .ok (.astore 4, 2) := dqo_58 4 (kb_of ke_L_removeAll 14 rfl) (kb_of ke_L_removeAll 15 rfl)
theorem dL_removeAll_16 : decode cL_removeAll 16 = .ok (.iconst 1, 1) := dqo_4 (kb_of ke_L_removeAll 16 rfl)
theorem dL_removeAll_17 : decode cL_removeAll 17 = .ok (.ireturn, 1) := dqo_172 (kb_of ke_L_removeAll 17 rfl)
theorem dL_removeAll_18 : decode cL_removeAll 18 = .ok (.iconst 0, 1) := dqo_3 (kb_of ke_L_removeAll 18 rfl)
theorem dL_removeAll_19 : decode cL_removeAll 19 = .ok (.ireturn, 1) := dqo_172 (kb_of ke_L_removeAll 19 rfl)
theorem qcw_L_removeAll : Cond.codeWith yL_removeAll cL_removeAll 5 (some .int) [(0, 11, 14, 19)] ∈ GW := gw_4 198 rfl rfl
theorem pk_L_removeAll : PkH yL_removeAll cL_removeAll 5 (some .int) [(0, 11, 14, 19)] 4 := ⟨⟨qt_L_removeAll, qz_L, qcw_L_removeAll⟩, mh_L.1, mh_L.2, pd_46⟩
theorem pk_X2_removeAll : PkV RX2 yX2_removeAll cX2_removeAll 3 (some .int) 2 := ⟨⟨qi_X2_removeAll, qs_X2_removeAll, qz_X2, qc_X2_removeAll⟩, rfl, mh_X2.1, mh_X2.2, pd_0⟩
theorem W_removeAll {l : Launch} {D : va_G} {cy : Nat → ClassId} {X : (Nat → Prop) → State → Heap → Prop} {a : Nat → Nat → Nat} {ba ra : Nat → Nat} {f : Nat → Nat → Nat} {r : Nat → Nat → Int32} {hf : Nat → Nat → Nat} {hq : Nat → Nat → Int32} {kn th : Int32} {sm : Int64} {o : Nat} {n0 : Int64} {s0 : Value} {x0 x1 : Int32} (hX : EnvX X) (hN : EnvN X) (hC : CInv f) (hB : RB r) (hM : MR f r hf hq) (hp : PR l D cy X a ba ra f r hf hq kn th sm yX2_removeAll cX2_removeAll 3 (some .int) yX4_removeAll cX4_removeAll 3 (some .int) (rmk 9 20 190 420) [.int x0, .int x1] [("java/lang/IndexOutOfBoundsException", 1)]) : CmH l D cy X yL_removeAll cL_removeAll 5 (some .int) [(0, 11, 14, 19)] (rmk 9 1 6 300) [.ref (a 0 0), .int x0, .int x1, .ref o] (WC cy a f r kn ++ (WM cy ba ra hf hq kn th sm ++ [OUTo o n0 s0])) (fun v1 w1 => ∃ (f' : Nat → Nat → Nat) (r' : Nat → Nat → Int32) (k : Nat) (n1 : Int64), v1 = some (.int (nI k)) ∧ w1 = WC cy a f' r' kn ++ (WM cy ba ra hf hq kn th sm ++ [OUTo o n1 s0]) ∧ PN l D cy X ba ra hf hq kn th sm yX4_removeAll cX4_removeAll 3 (some .int) (rmk 9 20 190 420) [.int x0, .int x1] cvI f' r' k n1) (fun _ => False) := by
  refine CmH.of [some (.ref (a 0 0)), some (.int x0), some (.int x1), some (.ref o), none] pn_L rfl (Nat.le_of_ble_eq_true rfl) ?_
  intro p e s m args below meth c A C hE hr hnt
  refine r_aload_n C dL_removeAll_0 rfl ?_
  refine r_aload_n C dL_removeAll_1 rfl ?_
  refine r_iload_n C dL_removeAll_2 rfl ?_
  refine r_iload_n C dL_removeAll_3 rfl ?_
  rcases hp.two cvI (by simp) hC hB hM with ⟨E, k, hm, h1, h2⟩ | ⟨f', r', n, h1, h2⟩
  · refine c_V (st := [.ref o]) hX.stb C hE (h1 _) pk_X2_removeAll qm_L_82 0 6 rfl rfl wc_0 rfl rfl (Nat.le_of_ble_eq_true rfl) dL_removeAll_4 ⟨(Nat.le_of_ble_eq_true rfl), (Nat.le_of_ble_eq_true rfl)⟩ ⟨(Nat.le_of_ble_eq_true rfl), (Nat.le_of_ble_eq_true rfl)⟩ (fun _ _ h9 => h9.elim) (fun E1 hE1 => ?_)
    subst hE1
    simp only [List.mem_cons, List.not_mem_nil, or_false, Prod.mk.injEq] at hm
    obtain ⟨rfl, rfl⟩ := hm
    refine r_catch (name := "java/lang/IndexOutOfBoundsException") C [] ⟨0, 11, 14, 19⟩ [] (hnt.trans rfl) (fun z hz => absurd hz List.not_mem_nil) rfl (by decide) (C.2.2.2.2.1 _ qk_L_19) (hX.nw qca_IOB rfl hE) (fun q => ?_)
    refine r_astore C dL_removeAll_14 (by decide) rfl ?_
    refine r_iconst (v := nI 1) C dL_removeAll_16 (by decide) ?_
    exact r_iret C hr dL_removeAll_17 ⟨_, _, _, _, rfl, rfl, h2 _⟩ (Nat.le_of_ble_eq_true rfl) (Nat.le_of_ble_eq_true rfl)
  · refine c_V (st := [.ref o]) hX.stb C hE (h1 _) pk_X2_removeAll qm_L_82 0 6 rfl rfl wc_0 rfl rfl (Nat.le_of_ble_eq_true rfl) dL_removeAll_4 ⟨(Nat.le_of_ble_eq_true rfl), (Nat.le_of_ble_eq_true rfl)⟩ ⟨(Nat.le_of_ble_eq_true rfl), (Nat.le_of_ble_eq_true rfl)⟩ (fun v9 w9 h9 => ?_) (fun _ h9 => h9.elim)
    obtain ⟨rfl, rfl⟩ := h9
    refine r_i2l C dL_removeAll_7 ?_
    refine g_putN hX C hE qu_X3 tyX3 tyX3_ok nmX3 (ci := 7) rfl 38 outo_at 0 (by decide) qn_L_13 rfl rfl (ty := .long) rfl rfl rfl (show 0 < 2 by omega) dL_removeAll_8 outo_set ?_
    refine r_goto (tgt := 18) C dL_removeAll_11 (by decide) ?_
    refine r_iconst (v := nI 0) C dL_removeAll_18 (by decide) ?_
    exact r_iret C hr dL_removeAll_19 ⟨_, _, _, _, rfl, rfl, h2⟩ (Nat.le_of_ble_eq_true rfl) (Nat.le_of_ble_eq_true rfl)
theorem dL_retainAll_0 : decode cL_retainAll 0 = .ok (.aload_n 3, 1) := dqo_45 (kb_of ke_L_retainAll 0 rfl)
theorem dL_retainAll_1 : decode cL_retainAll 1 = .ok (.aload_n 0, 1) := dqo_42 (kb_of ke_L_retainAll 1 rfl)
theorem dL_retainAll_2 : decode cL_retainAll 2 = .ok (.iload_n 1, 1) := dqo_27 (kb_of ke_L_retainAll 2 rfl)
theorem dL_retainAll_3 : decode cL_retainAll 3 = .ok (.iload_n 2, 1) := dqo_28 (kb_of ke_L_retainAll 3 rfl)
theorem dL_retainAll_4 : decode cL_retainAll 4 = .ok (.invokevirtual 85, 3) := dqo_182 0 85 (kb_of ke_L_retainAll 4 rfl) (kb_of ke_L_retainAll 5 rfl) (kb_of ke_L_retainAll 6 rfl)
theorem dL_retainAll_7 : decode cL_retainAll 7 = .ok (.i2l, 1) := dqo_133 (kb_of ke_L_retainAll 7 rfl)
theorem dL_retainAll_8 : decode cL_retainAll 8 = .ok (.putfield 13, 3) := dqo_181 0 13 (kb_of ke_L_retainAll 8 rfl) (kb_of ke_L_retainAll 9 rfl) (kb_of ke_L_retainAll 10 rfl)
theorem dL_retainAll_11 : decode cL_retainAll 11 = .ok (.goto 7, 3) := dqo_167 0 7 (by decide) (kb_of ke_L_retainAll 11 rfl) (kb_of ke_L_retainAll 12 rfl) (kb_of ke_L_retainAll 13 rfl)
theorem dL_retainAll_14 : decode cL_retainAll 14 = .ok (.astore 4, 2) := dqo_58 4 (kb_of ke_L_retainAll 14 rfl) (kb_of ke_L_retainAll 15 rfl)
theorem dL_retainAll_16 : decode cL_retainAll 16 = .ok (.iconst 1, 1) := dqo_4 (kb_of ke_L_retainAll 16 rfl)
theorem dL_retainAll_17 : decode cL_retainAll 17 = .ok (.ireturn, 1) := dqo_172 (kb_of ke_L_retainAll 17 rfl)
theorem dL_retainAll_18 : decode cL_retainAll 18 = .ok (.iconst 0, 1) := dqo_3 (kb_of ke_L_retainAll 18 rfl)
theorem dL_retainAll_19 : decode cL_retainAll 19 = .ok (.ireturn, 1) := dqo_172 (kb_of ke_L_retainAll 19 rfl)
theorem qcw_L_retainAll : Cond.codeWith yL_retainAll cL_retainAll 5 (some .int) [(0, 11, 14, 19)] ∈ GW := gw_4 218 rfl rfl
theorem pk_L_retainAll : PkH yL_retainAll cL_retainAll 5 (some .int) [(0, 11, 14, 19)] 4 := ⟨⟨qt_L_retainAll, qz_L, qcw_L_retainAll⟩, mh_L.1, mh_L.2, pd_46⟩
theorem pk_X2_retainAll : PkV RX2 yX2_retainAll cX2_retainAll 3 (some .int) 2 := ⟨⟨qi_X2_retainAll, qs_X2_retainAll, qz_X2, qc_X2_retainAll⟩, rfl, mh_X2.1, mh_X2.2, pd_0⟩
theorem W_retainAll {l : Launch} {D : va_G} {cy : Nat → ClassId} {X : (Nat → Prop) → State → Heap → Prop} {a : Nat → Nat → Nat} {ba ra : Nat → Nat} {f : Nat → Nat → Nat} {r : Nat → Nat → Int32} {hf : Nat → Nat → Nat} {hq : Nat → Nat → Int32} {kn th : Int32} {sm : Int64} {o : Nat} {n0 : Int64} {s0 : Value} {x0 x1 : Int32} (hX : EnvX X) (hN : EnvN X) (hC : CInv f) (hB : RB r) (hM : MR f r hf hq) (hp : PR l D cy X a ba ra f r hf hq kn th sm yX2_retainAll cX2_retainAll 3 (some .int) yX4_retainAll cX4_retainAll 3 (some .int) (rmk 9 20 190 420) [.int x0, .int x1] [("java/lang/IndexOutOfBoundsException", 1)]) : CmH l D cy X yL_retainAll cL_retainAll 5 (some .int) [(0, 11, 14, 19)] (rmk 9 1 6 300) [.ref (a 0 0), .int x0, .int x1, .ref o] (WC cy a f r kn ++ (WM cy ba ra hf hq kn th sm ++ [OUTo o n0 s0])) (fun v1 w1 => ∃ (f' : Nat → Nat → Nat) (r' : Nat → Nat → Int32) (k : Nat) (n1 : Int64), v1 = some (.int (nI k)) ∧ w1 = WC cy a f' r' kn ++ (WM cy ba ra hf hq kn th sm ++ [OUTo o n1 s0]) ∧ PN l D cy X ba ra hf hq kn th sm yX4_retainAll cX4_retainAll 3 (some .int) (rmk 9 20 190 420) [.int x0, .int x1] cvI f' r' k n1) (fun _ => False) := by
  refine CmH.of [some (.ref (a 0 0)), some (.int x0), some (.int x1), some (.ref o), none] pn_L rfl (Nat.le_of_ble_eq_true rfl) ?_
  intro p e s m args below meth c A C hE hr hnt
  refine r_aload_n C dL_retainAll_0 rfl ?_
  refine r_aload_n C dL_retainAll_1 rfl ?_
  refine r_iload_n C dL_retainAll_2 rfl ?_
  refine r_iload_n C dL_retainAll_3 rfl ?_
  rcases hp.two cvI (by simp) hC hB hM with ⟨E, k, hm, h1, h2⟩ | ⟨f', r', n, h1, h2⟩
  · refine c_V (st := [.ref o]) hX.stb C hE (h1 _) pk_X2_retainAll qm_L_85 0 6 rfl rfl wc_0 rfl rfl (Nat.le_of_ble_eq_true rfl) dL_retainAll_4 ⟨(Nat.le_of_ble_eq_true rfl), (Nat.le_of_ble_eq_true rfl)⟩ ⟨(Nat.le_of_ble_eq_true rfl), (Nat.le_of_ble_eq_true rfl)⟩ (fun _ _ h9 => h9.elim) (fun E1 hE1 => ?_)
    subst hE1
    simp only [List.mem_cons, List.not_mem_nil, or_false, Prod.mk.injEq] at hm
    obtain ⟨rfl, rfl⟩ := hm
    refine r_catch (name := "java/lang/IndexOutOfBoundsException") C [] ⟨0, 11, 14, 19⟩ [] (hnt.trans rfl) (fun z hz => absurd hz List.not_mem_nil) rfl (by decide) (C.2.2.2.2.1 _ qk_L_19) (hX.nw qca_IOB rfl hE) (fun q => ?_)
    refine r_astore C dL_retainAll_14 (by decide) rfl ?_
    refine r_iconst (v := nI 1) C dL_retainAll_16 (by decide) ?_
    exact r_iret C hr dL_retainAll_17 ⟨_, _, _, _, rfl, rfl, h2 _⟩ (Nat.le_of_ble_eq_true rfl) (Nat.le_of_ble_eq_true rfl)
  · refine c_V (st := [.ref o]) hX.stb C hE (h1 _) pk_X2_retainAll qm_L_85 0 6 rfl rfl wc_0 rfl rfl (Nat.le_of_ble_eq_true rfl) dL_retainAll_4 ⟨(Nat.le_of_ble_eq_true rfl), (Nat.le_of_ble_eq_true rfl)⟩ ⟨(Nat.le_of_ble_eq_true rfl), (Nat.le_of_ble_eq_true rfl)⟩ (fun v9 w9 h9 => ?_) (fun _ h9 => h9.elim)
    obtain ⟨rfl, rfl⟩ := h9
    refine r_i2l C dL_retainAll_7 ?_
    refine g_putN hX C hE qu_X3 tyX3 tyX3_ok nmX3 (ci := 7) rfl 38 outo_at 0 (by decide) qn_L_13 rfl rfl (ty := .long) rfl rfl rfl (show 0 < 2 by omega) dL_retainAll_8 outo_set ?_
    refine r_goto (tgt := 18) C dL_retainAll_11 (by decide) ?_
    refine r_iconst (v := nI 0) C dL_retainAll_18 (by decide) ?_
    exact r_iret C hr dL_retainAll_19 ⟨_, _, _, _, rfl, rfl, h2⟩ (Nat.le_of_ble_eq_true rfl) (Nat.le_of_ble_eq_true rfl)
theorem dL_copy_0 : decode cL_copy 0 = .ok (.aload_n 3, 1) := dqo_45 (kb_of ke_L_copy 0 rfl)
theorem dL_copy_1 : decode cL_copy 1 = .ok (.aload_n 0, 1) := dqo_42 (kb_of ke_L_copy 1 rfl)
theorem dL_copy_2 : decode cL_copy 2 = .ok (.iload_n 1, 1) := dqo_27 (kb_of ke_L_copy 2 rfl)
theorem dL_copy_3 : decode cL_copy 3 = .ok (.iload_n 2, 1) := dqo_28 (kb_of ke_L_copy 3 rfl)
theorem dL_copy_4 : decode cL_copy 4 = .ok (.invokevirtual 88, 3) := dqo_182 0 88 (kb_of ke_L_copy 4 rfl) (kb_of ke_L_copy 5 rfl) (kb_of ke_L_copy 6 rfl)
theorem dL_copy_7 : decode cL_copy 7 = .ok (.i2l, 1) := dqo_133 (kb_of ke_L_copy 7 rfl)
theorem dL_copy_8 : decode cL_copy 8 = .ok (.putfield 13, 3) := dqo_181 0 13 (kb_of ke_L_copy 8 rfl) (kb_of ke_L_copy 9 rfl) (kb_of ke_L_copy 10 rfl)
theorem dL_copy_11 : decode cL_copy 11 = .ok (.goto 7, 3) := dqo_167 0 7 (by decide) (kb_of ke_L_copy 11 rfl) (kb_of ke_L_copy 12 rfl) (kb_of ke_L_copy 13 rfl)
theorem dL_copy_14 : decode cL_copy 14 = .ok (.astore 4, 2) := dqo_58 4 (kb_of ke_L_copy 14 rfl) (kb_of ke_L_copy 15 rfl)
theorem dL_copy_16 : decode cL_copy 16 = .ok (.iconst 1, 1) := dqo_4 (kb_of ke_L_copy 16 rfl)
theorem dL_copy_17 : decode cL_copy 17 = .ok (.ireturn, 1) := dqo_172 (kb_of ke_L_copy 17 rfl)
theorem dL_copy_18 : decode cL_copy 18 = .ok (.iconst 0, 1) := dqo_3 (kb_of ke_L_copy 18 rfl)
theorem dL_copy_19 : decode cL_copy 19 = .ok (.ireturn, 1) := dqo_172 (kb_of ke_L_copy 19 rfl)
theorem qcw_L_copy : Cond.codeWith yL_copy cL_copy 5 (some .int) [(0, 11, 14, 19)] ∈ GW := gw_4 225 rfl rfl
theorem pk_L_copy : PkH yL_copy cL_copy 5 (some .int) [(0, 11, 14, 19)] 4 := ⟨⟨qt_L_copy, qz_L, qcw_L_copy⟩, mh_L.1, mh_L.2, pd_46⟩
theorem pk_X2_copy : PkV RX2 yX2_copy cX2_copy 3 (some .int) 2 := ⟨⟨qi_X2_copy, qs_X2_copy, qz_X2, qc_X2_copy⟩, rfl, mh_X2.1, mh_X2.2, pd_0⟩
theorem W_copy {l : Launch} {D : va_G} {cy : Nat → ClassId} {X : (Nat → Prop) → State → Heap → Prop} {a : Nat → Nat → Nat} {ba ra : Nat → Nat} {f : Nat → Nat → Nat} {r : Nat → Nat → Int32} {hf : Nat → Nat → Nat} {hq : Nat → Nat → Int32} {kn th : Int32} {sm : Int64} {o : Nat} {n0 : Int64} {s0 : Value} {x0 x1 : Int32} (hX : EnvX X) (hN : EnvN X) (hC : CInv f) (hB : RB r) (hM : MR f r hf hq) (hp : PR l D cy X a ba ra f r hf hq kn th sm yX2_copy cX2_copy 3 (some .int) yX4_copy cX4_copy 3 (some .int) (rmk 9 4 48 420) [.int x0, .int x1] [("java/lang/IndexOutOfBoundsException", 1)]) : CmH l D cy X yL_copy cL_copy 5 (some .int) [(0, 11, 14, 19)] (rmk 9 1 6 300) [.ref (a 0 0), .int x0, .int x1, .ref o] (WC cy a f r kn ++ (WM cy ba ra hf hq kn th sm ++ [OUTo o n0 s0])) (fun v1 w1 => ∃ (f' : Nat → Nat → Nat) (r' : Nat → Nat → Int32) (k : Nat) (n1 : Int64), v1 = some (.int (nI k)) ∧ w1 = WC cy a f' r' kn ++ (WM cy ba ra hf hq kn th sm ++ [OUTo o n1 s0]) ∧ PN l D cy X ba ra hf hq kn th sm yX4_copy cX4_copy 3 (some .int) (rmk 9 4 48 420) [.int x0, .int x1] cvI f' r' k n1) (fun _ => False) := by
  refine CmH.of [some (.ref (a 0 0)), some (.int x0), some (.int x1), some (.ref o), none] pn_L rfl (Nat.le_of_ble_eq_true rfl) ?_
  intro p e s m args below meth c A C hE hr hnt
  refine r_aload_n C dL_copy_0 rfl ?_
  refine r_aload_n C dL_copy_1 rfl ?_
  refine r_iload_n C dL_copy_2 rfl ?_
  refine r_iload_n C dL_copy_3 rfl ?_
  rcases hp.two cvI (by simp) hC hB hM with ⟨E, k, hm, h1, h2⟩ | ⟨f', r', n, h1, h2⟩
  · refine c_V (st := [.ref o]) hX.stb C hE (h1 _) pk_X2_copy qm_L_88 0 6 rfl rfl wc_0 rfl rfl (Nat.le_of_ble_eq_true rfl) dL_copy_4 ⟨(Nat.le_of_ble_eq_true rfl), (Nat.le_of_ble_eq_true rfl)⟩ ⟨(Nat.le_of_ble_eq_true rfl), (Nat.le_of_ble_eq_true rfl)⟩ (fun _ _ h9 => h9.elim) (fun E1 hE1 => ?_)
    subst hE1
    simp only [List.mem_cons, List.not_mem_nil, or_false, Prod.mk.injEq] at hm
    obtain ⟨rfl, rfl⟩ := hm
    refine r_catch (name := "java/lang/IndexOutOfBoundsException") C [] ⟨0, 11, 14, 19⟩ [] (hnt.trans rfl) (fun z hz => absurd hz List.not_mem_nil) rfl (by decide) (C.2.2.2.2.1 _ qk_L_19) (hX.nw qca_IOB rfl hE) (fun q => ?_)
    refine r_astore C dL_copy_14 (by decide) rfl ?_
    refine r_iconst (v := nI 1) C dL_copy_16 (by decide) ?_
    exact r_iret C hr dL_copy_17 ⟨_, _, _, _, rfl, rfl, h2 _⟩ (Nat.le_of_ble_eq_true rfl) (Nat.le_of_ble_eq_true rfl)
  · refine c_V (st := [.ref o]) hX.stb C hE (h1 _) pk_X2_copy qm_L_88 0 6 rfl rfl wc_0 rfl rfl (Nat.le_of_ble_eq_true rfl) dL_copy_4 ⟨(Nat.le_of_ble_eq_true rfl), (Nat.le_of_ble_eq_true rfl)⟩ ⟨(Nat.le_of_ble_eq_true rfl), (Nat.le_of_ble_eq_true rfl)⟩ (fun v9 w9 h9 => ?_) (fun _ h9 => h9.elim)
    obtain ⟨rfl, rfl⟩ := h9
    refine r_i2l C dL_copy_7 ?_
    refine g_putN hX C hE qu_X3 tyX3 tyX3_ok nmX3 (ci := 7) rfl 38 outo_at 0 (by decide) qn_L_13 rfl rfl (ty := .long) rfl rfl rfl (show 0 < 2 by omega) dL_copy_8 outo_set ?_
    refine r_goto (tgt := 18) C dL_copy_11 (by decide) ?_
    refine r_iconst (v := nI 0) C dL_copy_18 (by decide) ?_
    exact r_iret C hr dL_copy_19 ⟨_, _, _, _, rfl, rfl, h2⟩ (Nat.le_of_ble_eq_true rfl) (Nat.le_of_ble_eq_true rfl)
theorem dL_places_0 : decode cL_places 0 = .ok (.aload_n 3, 1) := dqo_45 (kb_of ke_L_places 0 rfl)
theorem dL_places_1 : decode cL_places 1 = .ok (.aload_n 0, 1) := dqo_42 (kb_of ke_L_places 1 rfl)
theorem dL_places_2 : decode cL_places 2 = .ok (.iload_n 1, 1) := dqo_27 (kb_of ke_L_places 2 rfl)
theorem dL_places_3 : decode cL_places 3 = .ok (.iload_n 2, 1) := dqo_28 (kb_of ke_L_places 3 rfl)
theorem dL_places_4 : decode cL_places 4 = .ok (.invokevirtual 91, 3) := dqo_182 0 91 (kb_of ke_L_places 4 rfl) (kb_of ke_L_places 5 rfl) (kb_of ke_L_places 6 rfl)
theorem dL_places_7 : decode cL_places 7 = .ok (.i2l, 1) := dqo_133 (kb_of ke_L_places 7 rfl)
theorem dL_places_8 : decode cL_places 8 = .ok (.putfield 13, 3) := dqo_181 0 13 (kb_of ke_L_places 8 rfl) (kb_of ke_L_places 9 rfl) (kb_of ke_L_places 10 rfl)
theorem dL_places_11 : decode cL_places 11 = .ok (.goto 11, 3) := dqo_167 0 11 (by decide) (kb_of ke_L_places 11 rfl) (kb_of ke_L_places 12 rfl) (kb_of ke_L_places 13 rfl)
theorem dL_places_14 : decode cL_places 14 = .ok (.astore 4, 2) := dqo_58 4 (kb_of ke_L_places 14 rfl) (kb_of ke_L_places 15 rfl)
theorem dL_places_16 : decode cL_places 16 = .ok (.iconst 1, 1) := dqo_4 (kb_of ke_L_places 16 rfl)
theorem dL_places_17 : decode cL_places 17 = .ok (.ireturn, 1) := dqo_172 (kb_of ke_L_places 17 rfl)
theorem dL_places_18 : decode cL_places 18 = .ok (.astore 4, 2) := dqo_58 4 (kb_of ke_L_places 18 rfl) (kb_of ke_L_places 19 rfl)
theorem dL_places_20 : decode cL_places 20 = .ok (.iconst 2, 1) := dqo_5 (kb_of ke_L_places 20 rfl)
theorem dL_places_21 : decode cL_places 21 = .ok (.ireturn, 1) := dqo_172 (kb_of ke_L_places 21 rfl)
theorem dL_places_22 : decode cL_places 22 = .ok (.iconst 0, 1) := dqo_3 (kb_of ke_L_places 22 rfl)
theorem dL_places_23 : decode cL_places 23 = .ok (.ireturn, 1) := dqo_172 (kb_of ke_L_places 23 rfl)
theorem qcw_L_places : Cond.codeWith yL_places cL_places 5 (some .int) [(0, 11, 14, 19), (0, 11, 18, 21)] ∈ GW := gw_4 232 rfl rfl
theorem pk_L_places : PkH yL_places cL_places 5 (some .int) [(0, 11, 14, 19), (0, 11, 18, 21)] 4 := ⟨⟨qt_L_places, qz_L, qcw_L_places⟩, mh_L.1, mh_L.2, pd_46⟩
theorem pk_X2_places : PkV RX2 yX2_places cX2_places 4 (some .int) 2 := ⟨⟨qi_X2_places, qs_X2_places, qz_X2, qc_X2_places⟩, rfl, mh_X2.1, mh_X2.2, pd_0⟩
theorem W_places {l : Launch} {D : va_G} {cy : Nat → ClassId} {X : (Nat → Prop) → State → Heap → Prop} {a : Nat → Nat → Nat} {ba ra : Nat → Nat} {f : Nat → Nat → Nat} {r : Nat → Nat → Int32} {hf : Nat → Nat → Nat} {hq : Nat → Nat → Int32} {kn th : Int32} {sm : Int64} {o : Nat} {n0 : Int64} {s0 : Value} {x0 x1 : Int32} (hX : EnvX X) (hN : EnvN X) (hC : CInv f) (hB : RB r) (hM : MR f r hf hq) (hp : PR l D cy X a ba ra f r hf hq kn th sm yX2_places cX2_places 4 (some .int) yX4_places cX4_places 5 (some .int) (rmk 9 4 48 420) [.int x0, .int x1] [("java/lang/IndexOutOfBoundsException", 1), ("java/lang/IllegalArgumentException", 2)]) : CmH l D cy X yL_places cL_places 5 (some .int) [(0, 11, 14, 19), (0, 11, 18, 21)] (rmk 9 1 6 300) [.ref (a 0 0), .int x0, .int x1, .ref o] (WC cy a f r kn ++ (WM cy ba ra hf hq kn th sm ++ [OUTo o n0 s0])) (fun v1 w1 => ∃ (f' : Nat → Nat → Nat) (r' : Nat → Nat → Int32) (k : Nat) (n1 : Int64), v1 = some (.int (nI k)) ∧ w1 = WC cy a f' r' kn ++ (WM cy ba ra hf hq kn th sm ++ [OUTo o n1 s0]) ∧ PN l D cy X ba ra hf hq kn th sm yX4_places cX4_places 5 (some .int) (rmk 9 4 48 420) [.int x0, .int x1] cvI f' r' k n1) (fun _ => False) := by
  refine CmH.of [some (.ref (a 0 0)), some (.int x0), some (.int x1), some (.ref o), none] pn_L rfl (Nat.le_of_ble_eq_true rfl) ?_
  intro p e s m args below meth c A C hE hr hnt
  refine r_aload_n C dL_places_0 rfl ?_
  refine r_aload_n C dL_places_1 rfl ?_
  refine r_iload_n C dL_places_2 rfl ?_
  refine r_iload_n C dL_places_3 rfl ?_
  rcases hp.two cvI (by simp) hC hB hM with ⟨E, k, hm, h1, h2⟩ | ⟨f', r', n, h1, h2⟩
  · refine c_V (st := [.ref o]) hX.stb C hE (h1 _) pk_X2_places qm_L_91 0 6 rfl rfl wc_0 rfl rfl (Nat.le_of_ble_eq_true rfl) dL_places_4 ⟨(Nat.le_of_ble_eq_true rfl), (Nat.le_of_ble_eq_true rfl)⟩ ⟨(Nat.le_of_ble_eq_true rfl), (Nat.le_of_ble_eq_true rfl)⟩ (fun _ _ h9 => h9.elim) (fun E1 hE1 => ?_)
    subst hE1
    simp only [List.mem_cons, List.not_mem_nil, or_false, Prod.mk.injEq] at hm
    rcases hm with ⟨rfl, rfl⟩ | ⟨rfl, rfl⟩
    · refine r_catch (name := "java/lang/IndexOutOfBoundsException") C [] ⟨0, 11, 14, 19⟩ [⟨0, 11, 18, 21⟩] (hnt.trans rfl) (fun z hz => absurd hz List.not_mem_nil) rfl (by decide) (C.2.2.2.2.1 _ qk_L_19) (hX.nw qca_IOB rfl hE) (fun q => ?_)
      refine r_astore C dL_places_14 (by decide) rfl ?_
      refine r_iconst (v := nI 1) C dL_places_16 (by decide) ?_
      exact r_iret C hr dL_places_17 ⟨_, _, _, _, rfl, rfl, h2 _⟩ (Nat.le_of_ble_eq_true rfl) (Nat.le_of_ble_eq_true rfl)
    · refine r_catch (name := "java/lang/IllegalArgumentException") C [⟨0, 11, 14, 19⟩] ⟨0, 11, 18, 21⟩ [] (hnt.trans rfl) (fun z hz => by
        simp only [List.mem_cons, List.not_mem_nil, or_false] at hz
        subst hz
        exact Or.inr ⟨by decide, "java/lang/IndexOutOfBoundsException", C.2.2.2.2.1 _ qk_L_19, hN ("java/lang/IllegalArgumentException", "java/lang/IndexOutOfBoundsException") (by simp [NCL]) _ _ _ hE⟩) rfl (by decide) (C.2.2.2.2.1 _ qk_L_21) (hX.nw qca_IAE rfl hE) (fun q => ?_)
      refine r_astore C dL_places_18 (by decide) rfl ?_
      refine r_iconst (v := nI 2) C dL_places_20 (by decide) ?_
      exact r_iret C hr dL_places_21 ⟨_, _, _, _, rfl, rfl, h2 _⟩ (Nat.le_of_ble_eq_true rfl) (Nat.le_of_ble_eq_true rfl)
  · refine c_V (st := [.ref o]) hX.stb C hE (h1 _) pk_X2_places qm_L_91 0 6 rfl rfl wc_0 rfl rfl (Nat.le_of_ble_eq_true rfl) dL_places_4 ⟨(Nat.le_of_ble_eq_true rfl), (Nat.le_of_ble_eq_true rfl)⟩ ⟨(Nat.le_of_ble_eq_true rfl), (Nat.le_of_ble_eq_true rfl)⟩ (fun v9 w9 h9 => ?_) (fun _ h9 => h9.elim)
    obtain ⟨rfl, rfl⟩ := h9
    refine r_i2l C dL_places_7 ?_
    refine g_putN hX C hE qu_X3 tyX3 tyX3_ok nmX3 (ci := 7) rfl 38 outo_at 0 (by decide) qn_L_13 rfl rfl (ty := .long) rfl rfl rfl (show 0 < 2 by omega) dL_places_8 outo_set ?_
    refine r_goto (tgt := 22) C dL_places_11 (by decide) ?_
    refine r_iconst (v := nI 0) C dL_places_22 (by decide) ?_
    exact r_iret C hr dL_places_23 ⟨_, _, _, _, rfl, rfl, h2⟩ (Nat.le_of_ble_eq_true rfl) (Nat.le_of_ble_eq_true rfl)
theorem dL_through_0 : decode cL_through 0 = .ok (.aload 4, 2) := dqo_25 4 (kb_of ke_L_through 0 rfl) (kb_of ke_L_through 1 rfl)
theorem dL_through_2 : decode cL_through 2 = .ok (.aload_n 0, 1) := dqo_42 (kb_of ke_L_through 2 rfl)
theorem dL_through_3 : decode cL_through 3 = .ok (.iload_n 1, 1) := dqo_27 (kb_of ke_L_through 3 rfl)
theorem dL_through_4 : decode cL_through 4 = .ok (.iload_n 2, 1) := dqo_28 (kb_of ke_L_through 4 rfl)
theorem dL_through_5 : decode cL_through 5 = .ok (.iload_n 3, 1) := dqo_29 (kb_of ke_L_through 5 rfl)
theorem dL_through_6 : decode cL_through 6 = .ok (.invokevirtual 94, 3) := dqo_182 0 94 (kb_of ke_L_through 6 rfl) (kb_of ke_L_through 7 rfl) (kb_of ke_L_through 8 rfl)
theorem dL_through_9 : decode cL_through 9 = .ok (.i2l, 1) := dqo_133 (kb_of ke_L_through 9 rfl)
theorem dL_through_10 : decode cL_through 10 = .ok (.putfield 13, 3) := dqo_181 0 13 (kb_of ke_L_through 10 rfl) (kb_of ke_L_through 11 rfl) (kb_of ke_L_through 12 rfl)
theorem dL_through_13 : decode cL_through 13 = .ok (.goto 7, 3) := dqo_167 0 7 (by decide) (kb_of ke_L_through 13 rfl) (kb_of ke_L_through 14 rfl) (kb_of ke_L_through 15 rfl)
theorem dL_through_16 : decode cL_through 16 = .ok (.astore 5, 2) := dqo_58 5 (kb_of ke_L_through 16 rfl) (kb_of ke_L_through 17 rfl)
theorem dL_through_18 : decode cL_through 18 = .ok (.iconst 1, 1) := dqo_4 (kb_of ke_L_through 18 rfl)
theorem dL_through_19 : decode cL_through 19 = .ok (.ireturn, 1) := dqo_172 (kb_of ke_L_through 19 rfl)
theorem dL_through_20 : decode cL_through 20 = .ok (.iconst 0, 1) := dqo_3 (kb_of ke_L_through 20 rfl)
theorem dL_through_21 : decode cL_through 21 = .ok (.ireturn, 1) := dqo_172 (kb_of ke_L_through 21 rfl)
theorem qcw_L_through : Cond.codeWith yL_through cL_through 6 (some .int) [(0, 13, 16, 19)] ∈ GW := gw_5 0 rfl rfl
theorem pk_L_through : PkH yL_through cL_through 6 (some .int) [(0, 13, 16, 19)] 5 := ⟨⟨qt_L_through, qz_L, qcw_L_through⟩, mh_L.1, mh_L.2, pd_47⟩
theorem pk_X2_through : PkV RX2 yX2_through cX2_through 6 (some .int) 3 := ⟨⟨qi_X2_through, qs_X2_through, qz_X2, qc_X2_through⟩, rfl, mh_X2.1, mh_X2.2, pd_28⟩
theorem W_through {l : Launch} {D : va_G} {cy : Nat → ClassId} {X : (Nat → Prop) → State → Heap → Prop} {a : Nat → Nat → Nat} {ba ra : Nat → Nat} {f : Nat → Nat → Nat} {r : Nat → Nat → Int32} {hf : Nat → Nat → Nat} {hq : Nat → Nat → Int32} {kn th : Int32} {sm : Int64} {o : Nat} {n0 : Int64} {s0 : Value} {x0 x1 x2 : Int32} (hX : EnvX X) (hN : EnvN X) (hC : CInv f) (hB : RB r) (hM : MR f r hf hq) (hp : PR l D cy X a ba ra f r hf hq kn th sm yX2_through cX2_through 6 (some .int) yX4_through cX4_through 7 (some .int) (rmk 9 4 48 420) [.int x0, .int x1, .int x2] [("java/lang/IndexOutOfBoundsException", 1)]) : CmH l D cy X yL_through cL_through 6 (some .int) [(0, 13, 16, 19)] (rmk 9 1 6 300) [.ref (a 0 0), .int x0, .int x1, .int x2, .ref o] (WC cy a f r kn ++ (WM cy ba ra hf hq kn th sm ++ [OUTo o n0 s0])) (fun v1 w1 => ∃ (f' : Nat → Nat → Nat) (r' : Nat → Nat → Int32) (k : Nat) (n1 : Int64), v1 = some (.int (nI k)) ∧ w1 = WC cy a f' r' kn ++ (WM cy ba ra hf hq kn th sm ++ [OUTo o n1 s0]) ∧ PN l D cy X ba ra hf hq kn th sm yX4_through cX4_through 7 (some .int) (rmk 9 4 48 420) [.int x0, .int x1, .int x2] cvI f' r' k n1) (fun _ => False) := by
  refine CmH.of [some (.ref (a 0 0)), some (.int x0), some (.int x1), some (.int x2), some (.ref o), none] pn_L rfl (Nat.le_of_ble_eq_true rfl) ?_
  intro p e s m args below meth c A C hE hr hnt
  refine r_aload C dL_through_0 rfl ?_
  refine r_aload_n C dL_through_2 rfl ?_
  refine r_iload_n C dL_through_3 rfl ?_
  refine r_iload_n C dL_through_4 rfl ?_
  refine r_iload_n C dL_through_5 rfl ?_
  rcases hp.two cvI (by simp) hC hB hM with ⟨E, k, hm, h1, h2⟩ | ⟨f', r', n, h1, h2⟩
  · refine c_V (st := [.ref o]) hX.stb C hE (h1 _) pk_X2_through qm_L_94 0 6 rfl rfl wc_0 rfl rfl (Nat.le_of_ble_eq_true rfl) dL_through_6 ⟨(Nat.le_of_ble_eq_true rfl), (Nat.le_of_ble_eq_true rfl)⟩ ⟨(Nat.le_of_ble_eq_true rfl), (Nat.le_of_ble_eq_true rfl)⟩ (fun _ _ h9 => h9.elim) (fun E1 hE1 => ?_)
    subst hE1
    simp only [List.mem_cons, List.not_mem_nil, or_false, Prod.mk.injEq] at hm
    obtain ⟨rfl, rfl⟩ := hm
    refine r_catch (name := "java/lang/IndexOutOfBoundsException") C [] ⟨0, 13, 16, 19⟩ [] (hnt.trans rfl) (fun z hz => absurd hz List.not_mem_nil) rfl (by decide) (C.2.2.2.2.1 _ qk_L_19) (hX.nw qca_IOB rfl hE) (fun q => ?_)
    refine r_astore C dL_through_16 (by decide) rfl ?_
    refine r_iconst (v := nI 1) C dL_through_18 (by decide) ?_
    exact r_iret C hr dL_through_19 ⟨_, _, _, _, rfl, rfl, h2 _⟩ (Nat.le_of_ble_eq_true rfl) (Nat.le_of_ble_eq_true rfl)
  · refine c_V (st := [.ref o]) hX.stb C hE (h1 _) pk_X2_through qm_L_94 0 6 rfl rfl wc_0 rfl rfl (Nat.le_of_ble_eq_true rfl) dL_through_6 ⟨(Nat.le_of_ble_eq_true rfl), (Nat.le_of_ble_eq_true rfl)⟩ ⟨(Nat.le_of_ble_eq_true rfl), (Nat.le_of_ble_eq_true rfl)⟩ (fun v9 w9 h9 => ?_) (fun _ h9 => h9.elim)
    obtain ⟨rfl, rfl⟩ := h9
    refine r_i2l C dL_through_9 ?_
    refine g_putN hX C hE qu_X3 tyX3 tyX3_ok nmX3 (ci := 7) rfl 38 outo_at 0 (by decide) qn_L_13 rfl rfl (ty := .long) rfl rfl rfl (show 0 < 2 by omega) dL_through_10 outo_set ?_
    refine r_goto (tgt := 20) C dL_through_13 (by decide) ?_
    refine r_iconst (v := nI 0) C dL_through_20 (by decide) ?_
    exact r_iret C hr dL_through_21 ⟨_, _, _, _, rfl, rfl, h2⟩ (Nat.le_of_ble_eq_true rfl) (Nat.le_of_ble_eq_true rfl)
