/-! THE LAW'S WRAPPERS, 1 -/
theorem dL_add_0 : decode cL_add 0 = .ok (.aload_n 3, 1) := dqo_45 (kb_of ke_L_add 0 rfl)
theorem dL_add_1 : decode cL_add 1 = .ok (.aload_n 0, 1) := dqo_42 (kb_of ke_L_add 1 rfl)
theorem dL_add_2 : decode cL_add 2 = .ok (.iload_n 1, 1) := dqo_27 (kb_of ke_L_add 2 rfl)
theorem dL_add_3 : decode cL_add 3 = .ok (.iload_n 2, 1) := dqo_28 (kb_of ke_L_add 3 rfl)
theorem dL_add_4 : decode cL_add 4 = .ok (.invokevirtual 7, 3) := dqo_182 0 7 (kb_of ke_L_add 4 rfl) (kb_of ke_L_add 5 rfl) (kb_of ke_L_add 6 rfl)
theorem dL_add_7 : decode cL_add 7 = .ok (.i2l, 1) := dqo_133 (kb_of ke_L_add 7 rfl)
theorem dL_add_8 : decode cL_add 8 = .ok (.putfield 13, 3) := dqo_181 0 13 (kb_of ke_L_add 8 rfl) (kb_of ke_L_add 9 rfl) (kb_of ke_L_add 10 rfl)
theorem dL_add_11 : decode cL_add 11 = .ok (.goto 15, 3) := dqo_167 0 15 (by decide) (kb_of ke_L_add 11 rfl) (kb_of ke_L_add 12 rfl) (kb_of ke_L_add 13 rfl)
theorem dL_add_14 : decode cL_add 14 = .ok (.astore 4, 2) := dqo_58 4 (kb_of ke_L_add 14 rfl) (kb_of ke_L_add 15 rfl)
theorem dL_add_16 : decode cL_add 16 = .ok (.iconst 1, 1) := dqo_4 (kb_of ke_L_add 16 rfl)
theorem dL_add_17 : decode cL_add 17 = .ok (.ireturn, 1) := dqo_172 (kb_of ke_L_add 17 rfl)
theorem dL_add_18 : decode cL_add 18 = .ok (.astore 4, 2) := dqo_58 4 (kb_of ke_L_add 18 rfl) (kb_of ke_L_add 19 rfl)
theorem dL_add_20 : decode cL_add 20 = .ok (.iconst 2, 1) := dqo_5 (kb_of ke_L_add 20 rfl)
theorem dL_add_21 : decode cL_add 21 = .ok (.ireturn, 1) := dqo_172 (kb_of ke_L_add 21 rfl)
theorem dL_add_22 : decode cL_add 22 = .ok (.astore 4, 2) := dqo_58 4 (kb_of ke_L_add 22 rfl) (kb_of ke_L_add 23 rfl)
theorem dL_add_24 : decode cL_add 24 = .ok (.iconst 3, 1) := dqo_6 (kb_of ke_L_add 24 rfl)
theorem dL_add_25 : decode cL_add 25 = .ok (.ireturn, 1) := dqo_172 (kb_of ke_L_add 25 rfl)
theorem dL_add_26 : decode cL_add 26 = .ok (.iconst 0, 1) := dqo_3 (kb_of ke_L_add 26 rfl)
theorem dL_add_27 : decode cL_add 27 = .ok (.ireturn, 1) := dqo_172 (kb_of ke_L_add 27 rfl)
theorem qcw_L_add : Cond.codeWith yL_add cL_add 5 (some .int) [(0, 11, 14, 19), (0, 11, 18, 21), (0, 11, 22, 23)] ∈ GW := gw_3 219 rfl rfl
theorem pk_L_add : PkH yL_add cL_add 5 (some .int) [(0, 11, 14, 19), (0, 11, 18, 21), (0, 11, 22, 23)] 4 := ⟨⟨qt_L_add, qz_L, qcw_L_add⟩, mh_L.1, mh_L.2, pd_46⟩
theorem pk_X2_add : PkV RX2 yX2_add cX2_add 3 (some .int) 2 := ⟨⟨qi_X2_add, qs_X2_add, qz_X2, qc_X2_add⟩, rfl, mh_X2.1, mh_X2.2, pd_0⟩
theorem W_add {l : Launch} {D : va_G} {cy : Nat → ClassId} {X : (Nat → Prop) → State → Heap → Prop} {a : Nat → Nat → Nat} {ba ra : Nat → Nat} {f : Nat → Nat → Nat} {r : Nat → Nat → Int32} {hf : Nat → Nat → Nat} {hq : Nat → Nat → Int32} {kn th : Int32} {sm : Int64} {o : Nat} {n0 : Int64} {s0 : Value} {x0 x1 : Int32} (hX : EnvX X) (hN : EnvN X) (hC : CInv f) (hB : RB r) (hM : MR f r hf hq) (hp : PR l D cy X a ba ra f r hf hq kn th sm yX2_add cX2_add 3 (some .int) yX4_add cX4_add 3 (some .int) (rmk 9 4 48 420) [.int x0, .int x1] [("java/lang/IndexOutOfBoundsException", 1), ("java/lang/IllegalArgumentException", 2), ("java/lang/IllegalStateException", 3)]) : CmH l D cy X yL_add cL_add 5 (some .int) [(0, 11, 14, 19), (0, 11, 18, 21), (0, 11, 22, 23)] (rmk 9 1 6 300) [.ref (a 0 0), .int x0, .int x1, .ref o] (WC cy a f r kn ++ (WM cy ba ra hf hq kn th sm ++ [OUTo o n0 s0])) (fun v1 w1 => ∃ (f' : Nat → Nat → Nat) (r' : Nat → Nat → Int32) (k : Nat) (n1 : Int64), v1 = some (.int (nI k)) ∧ w1 = WC cy a f' r' kn ++ (WM cy ba ra hf hq kn th sm ++ [OUTo o n1 s0]) ∧ PN l D cy X ba ra hf hq kn th sm yX4_add cX4_add 3 (some .int) (rmk 9 4 48 420) [.int x0, .int x1] cvI f' r' k n1) (fun _ => False) := by
  refine CmH.of [some (.ref (a 0 0)), some (.int x0), some (.int x1), some (.ref o), none] pn_L rfl (Nat.le_of_ble_eq_true rfl) ?_
  intro p e s m args below meth c A C hE hr hnt
  refine r_aload_n C dL_add_0 rfl ?_
  refine r_aload_n C dL_add_1 rfl ?_
  refine r_iload_n C dL_add_2 rfl ?_
  refine r_iload_n C dL_add_3 rfl ?_
  rcases hp.two cvI (by simp) hC hB hM with ⟨E, k, hm, h1, h2⟩ | ⟨f', r', n, h1, h2⟩
  · refine c_V (st := [.ref o]) hX.stb C hE (h1 _) pk_X2_add qm_L_7 0 6 rfl rfl wc_0 rfl rfl (Nat.le_of_ble_eq_true rfl) dL_add_4 ⟨(Nat.le_of_ble_eq_true rfl), (Nat.le_of_ble_eq_true rfl)⟩ ⟨(Nat.le_of_ble_eq_true rfl), (Nat.le_of_ble_eq_true rfl)⟩ (fun _ _ h9 => h9.elim) (fun E1 hE1 => ?_)
    subst hE1
    simp only [List.mem_cons, List.not_mem_nil, or_false, Prod.mk.injEq] at hm
    rcases hm with ⟨rfl, rfl⟩ | ⟨rfl, rfl⟩ | ⟨rfl, rfl⟩
    · refine r_catch (name := "java/lang/IndexOutOfBoundsException") C [] ⟨0, 11, 14, 19⟩ [⟨0, 11, 18, 21⟩, ⟨0, 11, 22, 23⟩] (hnt.trans rfl) (fun z hz => absurd hz List.not_mem_nil) rfl (by decide) (C.2.2.2.2.1 _ qk_L_19) (hX.nw qca_IOB rfl hE) (fun q => ?_)
      refine r_astore C dL_add_14 (by decide) rfl ?_
      refine r_iconst (v := nI 1) C dL_add_16 (by decide) ?_
      exact r_iret C hr dL_add_17 ⟨_, _, _, _, rfl, rfl, h2 _⟩ (Nat.le_of_ble_eq_true rfl) (Nat.le_of_ble_eq_true rfl)
    · refine r_catch (name := "java/lang/IllegalArgumentException") C [⟨0, 11, 14, 19⟩] ⟨0, 11, 18, 21⟩ [⟨0, 11, 22, 23⟩] (hnt.trans rfl) (fun z hz => by
        simp only [List.mem_cons, List.not_mem_nil, or_false] at hz
        subst hz
        exact Or.inr ⟨by decide, "java/lang/IndexOutOfBoundsException", C.2.2.2.2.1 _ qk_L_19, hN ("java/lang/IllegalArgumentException", "java/lang/IndexOutOfBoundsException") (by simp [NCL]) _ _ _ hE⟩) rfl (by decide) (C.2.2.2.2.1 _ qk_L_21) (hX.nw qca_IAE rfl hE) (fun q => ?_)
      refine r_astore C dL_add_18 (by decide) rfl ?_
      refine r_iconst (v := nI 2) C dL_add_20 (by decide) ?_
      exact r_iret C hr dL_add_21 ⟨_, _, _, _, rfl, rfl, h2 _⟩ (Nat.le_of_ble_eq_true rfl) (Nat.le_of_ble_eq_true rfl)
    · refine r_catch (name := "java/lang/IllegalStateException") C [⟨0, 11, 14, 19⟩, ⟨0, 11, 18, 21⟩] ⟨0, 11, 22, 23⟩ [] (hnt.trans rfl) (fun z hz => by
        simp only [List.mem_cons, List.not_mem_nil, or_false] at hz
        rcases hz with rfl | rfl
        · exact Or.inr ⟨by decide, "java/lang/IndexOutOfBoundsException", C.2.2.2.2.1 _ qk_L_19, hN ("java/lang/IllegalStateException", "java/lang/IndexOutOfBoundsException") (by simp [NCL]) _ _ _ hE⟩
        · exact Or.inr ⟨by decide, "java/lang/IllegalArgumentException", C.2.2.2.2.1 _ qk_L_21, hN ("java/lang/IllegalStateException", "java/lang/IllegalArgumentException") (by simp [NCL]) _ _ _ hE⟩) rfl (by decide) (C.2.2.2.2.1 _ qk_L_23) (hX.nw qca_ISE rfl hE) (fun q => ?_)
      refine r_astore C dL_add_22 (by decide) rfl ?_
      refine r_iconst (v := nI 3) C dL_add_24 (by decide) ?_
      exact r_iret C hr dL_add_25 ⟨_, _, _, _, rfl, rfl, h2 _⟩ (Nat.le_of_ble_eq_true rfl) (Nat.le_of_ble_eq_true rfl)
  · refine c_V (st := [.ref o]) hX.stb C hE (h1 _) pk_X2_add qm_L_7 0 6 rfl rfl wc_0 rfl rfl (Nat.le_of_ble_eq_true rfl) dL_add_4 ⟨(Nat.le_of_ble_eq_true rfl), (Nat.le_of_ble_eq_true rfl)⟩ ⟨(Nat.le_of_ble_eq_true rfl), (Nat.le_of_ble_eq_true rfl)⟩ (fun v9 w9 h9 => ?_) (fun _ h9 => h9.elim)
    obtain ⟨rfl, rfl⟩ := h9
    refine r_i2l C dL_add_7 ?_
    refine g_putN hX C hE qu_X3 tyX3 tyX3_ok nmX3 (ci := 7) rfl 38 outo_at 0 (by decide) qn_L_13 rfl rfl (ty := .long) rfl rfl rfl (show 0 < 2 by omega) dL_add_8 outo_set ?_
    refine r_goto (tgt := 26) C dL_add_11 (by decide) ?_
    refine r_iconst (v := nI 0) C dL_add_26 (by decide) ?_
    exact r_iret C hr dL_add_27 ⟨_, _, _, _, rfl, rfl, h2⟩ (Nat.le_of_ble_eq_true rfl) (Nat.le_of_ble_eq_true rfl)
theorem dL_insert_0 : decode cL_insert 0 = .ok (.aload 4, 2) := dqo_25 4 (kb_of ke_L_insert 0 rfl) (kb_of ke_L_insert 1 rfl)
theorem dL_insert_2 : decode cL_insert 2 = .ok (.aload_n 0, 1) := dqo_42 (kb_of ke_L_insert 2 rfl)
theorem dL_insert_3 : decode cL_insert 3 = .ok (.iload_n 1, 1) := dqo_27 (kb_of ke_L_insert 3 rfl)
theorem dL_insert_4 : decode cL_insert 4 = .ok (.iload_n 2, 1) := dqo_28 (kb_of ke_L_insert 4 rfl)
theorem dL_insert_5 : decode cL_insert 5 = .ok (.iload_n 3, 1) := dqo_29 (kb_of ke_L_insert 5 rfl)
theorem dL_insert_6 : decode cL_insert 6 = .ok (.invokevirtual 25, 3) := dqo_182 0 25 (kb_of ke_L_insert 6 rfl) (kb_of ke_L_insert 7 rfl) (kb_of ke_L_insert 8 rfl)
theorem dL_insert_9 : decode cL_insert 9 = .ok (.i2l, 1) := dqo_133 (kb_of ke_L_insert 9 rfl)
theorem dL_insert_10 : decode cL_insert 10 = .ok (.putfield 13, 3) := dqo_181 0 13 (kb_of ke_L_insert 10 rfl) (kb_of ke_L_insert 11 rfl) (kb_of ke_L_insert 12 rfl)
theorem dL_insert_13 : decode cL_insert 13 = .ok (.goto 15, 3) := dqo_167 0 15 (by decide) (kb_of ke_L_insert 13 rfl) (kb_of ke_L_insert 14 rfl) (kb_of ke_L_insert 15 rfl)
theorem dL_insert_16 : decode cL_insert 16 = .ok (.astore 5, 2) := dqo_58 5 (kb_of ke_L_insert 16 rfl) (kb_of ke_L_insert 17 rfl)
theorem dL_insert_18 : decode cL_insert 18 = .ok (.iconst 1, 1) := dqo_4 (kb_of ke_L_insert 18 rfl)
theorem dL_insert_19 : decode cL_insert 19 = .ok (.ireturn, 1) := dqo_172 (kb_of ke_L_insert 19 rfl)
theorem dL_insert_20 : decode cL_insert 20 = .ok (.astore 5, 2) := dqo_58 5 (kb_of ke_L_insert 20 rfl) (kb_of ke_L_insert 21 rfl)
theorem dL_insert_22 : decode cL_insert 22 = .ok (.iconst 2, 1) := dqo_5 (kb_of ke_L_insert 22 rfl)
theorem dL_insert_23 : decode cL_insert 23 = .ok (.ireturn, 1) := dqo_172 (kb_of ke_L_insert 23 rfl)
theorem dL_insert_24 : decode cL_insert 24 = .ok (.astore 5, 2) := dqo_58 5 (kb_of ke_L_insert 24 rfl) (kb_of ke_L_insert 25 rfl)
theorem dL_insert_26 : decode cL_insert 26 = .ok (.iconst 3, 1) := dqo_6 (kb_of ke_L_insert 26 rfl)
theorem dL_insert_27 : decode cL_insert 27 = .ok (.ireturn, 1) := dqo_172 (kb_of ke_L_insert 27 rfl)
theorem dL_insert_28 : decode cL_insert 28 = .ok (.iconst 0, 1) := dqo_3 (kb_of ke_L_insert 28 rfl)
theorem dL_insert_29 : decode cL_insert 29 = .ok (.ireturn, 1) := dqo_172 (kb_of ke_L_insert 29 rfl)
theorem qcw_L_insert : Cond.codeWith yL_insert cL_insert 6 (some .int) [(0, 13, 16, 19), (0, 13, 20, 21), (0, 13, 24, 23)] ∈ GW := gw_4 39 rfl rfl
theorem pk_L_insert : PkH yL_insert cL_insert 6 (some .int) [(0, 13, 16, 19), (0, 13, 20, 21), (0, 13, 24, 23)] 5 := ⟨⟨qt_L_insert, qz_L, qcw_L_insert⟩, mh_L.1, mh_L.2, pd_47⟩
theorem pk_X2_insert : PkV RX2 yX2_insert cX2_insert 4 (some .int) 3 := ⟨⟨qi_X2_insert, qs_X2_insert, qz_X2, qc_X2_insert⟩, rfl, mh_X2.1, mh_X2.2, pd_28⟩
theorem W_insert {l : Launch} {D : va_G} {cy : Nat → ClassId} {X : (Nat → Prop) → State → Heap → Prop} {a : Nat → Nat → Nat} {ba ra : Nat → Nat} {f : Nat → Nat → Nat} {r : Nat → Nat → Int32} {hf : Nat → Nat → Nat} {hq : Nat → Nat → Int32} {kn th : Int32} {sm : Int64} {o : Nat} {n0 : Int64} {s0 : Value} {x0 x1 x2 : Int32} (hX : EnvX X) (hN : EnvN X) (hC : CInv f) (hB : RB r) (hM : MR f r hf hq) (hp : PR l D cy X a ba ra f r hf hq kn th sm yX2_insert cX2_insert 4 (some .int) yX4_insert cX4_insert 4 (some .int) (rmk 9 4 48 420) [.int x0, .int x1, .int x2] [("java/lang/IndexOutOfBoundsException", 1), ("java/lang/IllegalArgumentException", 2), ("java/lang/IllegalStateException", 3)]) : CmH l D cy X yL_insert cL_insert 6 (some .int) [(0, 13, 16, 19), (0, 13, 20, 21), (0, 13, 24, 23)] (rmk 9 1 6 300) [.ref (a 0 0), .int x0, .int x1, .int x2, .ref o] (WC cy a f r kn ++ (WM cy ba ra hf hq kn th sm ++ [OUTo o n0 s0])) (fun v1 w1 => ∃ (f' : Nat → Nat → Nat) (r' : Nat → Nat → Int32) (k : Nat) (n1 : Int64), v1 = some (.int (nI k)) ∧ w1 = WC cy a f' r' kn ++ (WM cy ba ra hf hq kn th sm ++ [OUTo o n1 s0]) ∧ PN l D cy X ba ra hf hq kn th sm yX4_insert cX4_insert 4 (some .int) (rmk 9 4 48 420) [.int x0, .int x1, .int x2] cvI f' r' k n1) (fun _ => False) := by
  refine CmH.of [some (.ref (a 0 0)), some (.int x0), some (.int x1), some (.int x2), some (.ref o), none] pn_L rfl (Nat.le_of_ble_eq_true rfl) ?_
  intro p e s m args below meth c A C hE hr hnt
  refine r_aload C dL_insert_0 rfl ?_
  refine r_aload_n C dL_insert_2 rfl ?_
  refine r_iload_n C dL_insert_3 rfl ?_
  refine r_iload_n C dL_insert_4 rfl ?_
  refine r_iload_n C dL_insert_5 rfl ?_
  rcases hp.two cvI (by simp) hC hB hM with ⟨E, k, hm, h1, h2⟩ | ⟨f', r', n, h1, h2⟩
  · refine c_V (st := [.ref o]) hX.stb C hE (h1 _) pk_X2_insert qm_L_25 0 6 rfl rfl wc_0 rfl rfl (Nat.le_of_ble_eq_true rfl) dL_insert_6 ⟨(Nat.le_of_ble_eq_true rfl), (Nat.le_of_ble_eq_true rfl)⟩ ⟨(Nat.le_of_ble_eq_true rfl), (Nat.le_of_ble_eq_true rfl)⟩ (fun _ _ h9 => h9.elim) (fun E1 hE1 => ?_)
    subst hE1
    simp only [List.mem_cons, List.not_mem_nil, or_false, Prod.mk.injEq] at hm
    rcases hm with ⟨rfl, rfl⟩ | ⟨rfl, rfl⟩ | ⟨rfl, rfl⟩
    · refine r_catch (name := "java/lang/IndexOutOfBoundsException") C [] ⟨0, 13, 16, 19⟩ [⟨0, 13, 20, 21⟩, ⟨0, 13, 24, 23⟩] (hnt.trans rfl) (fun z hz => absurd hz List.not_mem_nil) rfl (by decide) (C.2.2.2.2.1 _ qk_L_19) (hX.nw qca_IOB rfl hE) (fun q => ?_)
      refine r_astore C dL_insert_16 (by decide) rfl ?_
      refine r_iconst (v := nI 1) C dL_insert_18 (by decide) ?_
      exact r_iret C hr dL_insert_19 ⟨_, _, _, _, rfl, rfl, h2 _⟩ (Nat.le_of_ble_eq_true rfl) (Nat.le_of_ble_eq_true rfl)
    · refine r_catch (name := "java/lang/IllegalArgumentException") C [⟨0, 13, 16, 19⟩] ⟨0, 13, 20, 21⟩ [⟨0, 13, 24, 23⟩] (hnt.trans rfl) (fun z hz => by
        simp only [List.mem_cons, List.not_mem_nil, or_false] at hz
        subst hz
        exact Or.inr ⟨by decide, "java/lang/IndexOutOfBoundsException", C.2.2.2.2.1 _ qk_L_19, hN ("java/lang/IllegalArgumentException", "java/lang/IndexOutOfBoundsException") (by simp [NCL]) _ _ _ hE⟩) rfl (by decide) (C.2.2.2.2.1 _ qk_L_21) (hX.nw qca_IAE rfl hE) (fun q => ?_)
      refine r_astore C dL_insert_20 (by decide) rfl ?_
      refine r_iconst (v := nI 2) C dL_insert_22 (by decide) ?_
      exact r_iret C hr dL_insert_23 ⟨_, _, _, _, rfl, rfl, h2 _⟩ (Nat.le_of_ble_eq_true rfl) (Nat.le_of_ble_eq_true rfl)
    · refine r_catch (name := "java/lang/IllegalStateException") C [⟨0, 13, 16, 19⟩, ⟨0, 13, 20, 21⟩] ⟨0, 13, 24, 23⟩ [] (hnt.trans rfl) (fun z hz => by
        simp only [List.mem_cons, List.not_mem_nil, or_false] at hz
        rcases hz with rfl | rfl
        · exact Or.inr ⟨by decide, "java/lang/IndexOutOfBoundsException", C.2.2.2.2.1 _ qk_L_19, hN ("java/lang/IllegalStateException", "java/lang/IndexOutOfBoundsException") (by simp [NCL]) _ _ _ hE⟩
        · exact Or.inr ⟨by decide, "java/lang/IllegalArgumentException", C.2.2.2.2.1 _ qk_L_21, hN ("java/lang/IllegalStateException", "java/lang/IllegalArgumentException") (by simp [NCL]) _ _ _ hE⟩) rfl (by decide) (C.2.2.2.2.1 _ qk_L_23) (hX.nw qca_ISE rfl hE) (fun q => ?_)
      refine r_astore C dL_insert_24 (by decide) rfl ?_
      refine r_iconst (v := nI 3) C dL_insert_26 (by decide) ?_
      exact r_iret C hr dL_insert_27 ⟨_, _, _, _, rfl, rfl, h2 _⟩ (Nat.le_of_ble_eq_true rfl) (Nat.le_of_ble_eq_true rfl)
  · refine c_V (st := [.ref o]) hX.stb C hE (h1 _) pk_X2_insert qm_L_25 0 6 rfl rfl wc_0 rfl rfl (Nat.le_of_ble_eq_true rfl) dL_insert_6 ⟨(Nat.le_of_ble_eq_true rfl), (Nat.le_of_ble_eq_true rfl)⟩ ⟨(Nat.le_of_ble_eq_true rfl), (Nat.le_of_ble_eq_true rfl)⟩ (fun v9 w9 h9 => ?_) (fun _ h9 => h9.elim)
    obtain ⟨rfl, rfl⟩ := h9
    refine r_i2l C dL_insert_9 ?_
    refine g_putN hX C hE qu_X3 tyX3 tyX3_ok nmX3 (ci := 7) rfl 38 outo_at 0 (by decide) qn_L_13 rfl rfl (ty := .long) rfl rfl rfl (show 0 < 2 by omega) dL_insert_10 outo_set ?_
    refine r_goto (tgt := 28) C dL_insert_13 (by decide) ?_
    refine r_iconst (v := nI 0) C dL_insert_28 (by decide) ?_
    exact r_iret C hr dL_insert_29 ⟨_, _, _, _, rfl, rfl, h2⟩ (Nat.le_of_ble_eq_true rfl) (Nat.le_of_ble_eq_true rfl)
theorem dL_set_0 : decode cL_set 0 = .ok (.aload 4, 2) := dqo_25 4 (kb_of ke_L_set 0 rfl) (kb_of ke_L_set 1 rfl)
theorem dL_set_2 : decode cL_set 2 = .ok (.aload_n 0, 1) := dqo_42 (kb_of ke_L_set 2 rfl)
theorem dL_set_3 : decode cL_set 3 = .ok (.iload_n 1, 1) := dqo_27 (kb_of ke_L_set 3 rfl)
theorem dL_set_4 : decode cL_set 4 = .ok (.iload_n 2, 1) := dqo_28 (kb_of ke_L_set 4 rfl)
theorem dL_set_5 : decode cL_set 5 = .ok (.iload_n 3, 1) := dqo_29 (kb_of ke_L_set 5 rfl)
theorem dL_set_6 : decode cL_set 6 = .ok (.invokevirtual 29, 3) := dqo_182 0 29 (kb_of ke_L_set 6 rfl) (kb_of ke_L_set 7 rfl) (kb_of ke_L_set 8 rfl)
theorem dL_set_9 : decode cL_set 9 = .ok (.i2l, 1) := dqo_133 (kb_of ke_L_set 9 rfl)
theorem dL_set_10 : decode cL_set 10 = .ok (.putfield 13, 3) := dqo_181 0 13 (kb_of ke_L_set 10 rfl) (kb_of ke_L_set 11 rfl) (kb_of ke_L_set 12 rfl)
theorem dL_set_13 : decode cL_set 13 = .ok (.goto 11, 3) := dqo_167 0 11 (by decide) (kb_of ke_L_set 13 rfl) (kb_of ke_L_set 14 rfl) (kb_of ke_L_set 15 rfl)
theorem dL_set_16 : decode cL_set 16 = .ok (.astore 5, 2) := dqo_58 5 (kb_of ke_L_set 16 rfl) (kb_of ke_L_set 17 rfl)
theorem dL_set_18 : decode cL_set 18 = .ok (.iconst 1, 1) := dqo_4 (kb_of ke_L_set 18 rfl)
theorem dL_set_19 : decode cL_set 19 = .ok (.ireturn, 1) := dqo_172 (kb_of ke_L_set 19 rfl)
theorem dL_set_20 : decode cL_set 20 = .ok (.astore 5, 2) := dqo_58 5 (kb_of ke_L_set 20 rfl) (kb_of ke_L_set 21 rfl)
theorem dL_set_22 : decode cL_set 22 = .ok (.iconst 2, 1) := dqo_5 (kb_of ke_L_set 22 rfl)
theorem dL_set_23 : decode cL_set 23 = .ok (.ireturn, 1) := dqo_172 (kb_of ke_L_set 23 rfl)
theorem dL_set_24 : decode cL_set 24 = .ok (.iconst 0, 1) := dqo_3 (kb_of ke_L_set 24 rfl)
theorem dL_set_25 : decode cL_set 25 = .ok (.ireturn, 1) := dqo_172 (kb_of ke_L_set 25 rfl)
theorem qcw_L_set : Cond.codeWith yL_set cL_set 6 (some .int) [(0, 13, 16, 19), (0, 13, 20, 21)] ∈ GW := gw_4 50 rfl rfl
theorem pk_L_set : PkH yL_set cL_set 6 (some .int) [(0, 13, 16, 19), (0, 13, 20, 21)] 5 := ⟨⟨qt_L_set, qz_L, qcw_L_set⟩, mh_L.1, mh_L.2, pd_47⟩
theorem pk_X2_set : PkV RX2 yX2_set cX2_set 5 (some .int) 3 := ⟨⟨qi_X2_set, qs_X2_set, qz_X2, qc_X2_set⟩, rfl, mh_X2.1, mh_X2.2, pd_28⟩
theorem W_set {l : Launch} {D : va_G} {cy : Nat → ClassId} {X : (Nat → Prop) → State → Heap → Prop} {a : Nat → Nat → Nat} {ba ra : Nat → Nat} {f : Nat → Nat → Nat} {r : Nat → Nat → Int32} {hf : Nat → Nat → Nat} {hq : Nat → Nat → Int32} {kn th : Int32} {sm : Int64} {o : Nat} {n0 : Int64} {s0 : Value} {x0 x1 x2 : Int32} (hX : EnvX X) (hN : EnvN X) (hC : CInv f) (hB : RB r) (hM : MR f r hf hq) (hp : PR l D cy X a ba ra f r hf hq kn th sm yX2_set cX2_set 5 (some .int) yX4_set cX4_set 5 (some .int) (rmk 9 4 48 420) [.int x0, .int x1, .int x2] [("java/lang/IndexOutOfBoundsException", 1), ("java/lang/IllegalArgumentException", 2)]) : CmH l D cy X yL_set cL_set 6 (some .int) [(0, 13, 16, 19), (0, 13, 20, 21)] (rmk 9 1 6 300) [.ref (a 0 0), .int x0, .int x1, .int x2, .ref o] (WC cy a f r kn ++ (WM cy ba ra hf hq kn th sm ++ [OUTo o n0 s0])) (fun v1 w1 => ∃ (f' : Nat → Nat → Nat) (r' : Nat → Nat → Int32) (k : Nat) (n1 : Int64), v1 = some (.int (nI k)) ∧ w1 = WC cy a f' r' kn ++ (WM cy ba ra hf hq kn th sm ++ [OUTo o n1 s0]) ∧ PN l D cy X ba ra hf hq kn th sm yX4_set cX4_set 5 (some .int) (rmk 9 4 48 420) [.int x0, .int x1, .int x2] cvI f' r' k n1) (fun _ => False) := by
  refine CmH.of [some (.ref (a 0 0)), some (.int x0), some (.int x1), some (.int x2), some (.ref o), none] pn_L rfl (Nat.le_of_ble_eq_true rfl) ?_
  intro p e s m args below meth c A C hE hr hnt
  refine r_aload C dL_set_0 rfl ?_
  refine r_aload_n C dL_set_2 rfl ?_
  refine r_iload_n C dL_set_3 rfl ?_
  refine r_iload_n C dL_set_4 rfl ?_
  refine r_iload_n C dL_set_5 rfl ?_
  rcases hp.two cvI (by simp) hC hB hM with ⟨E, k, hm, h1, h2⟩ | ⟨f', r', n, h1, h2⟩
  · refine c_V (st := [.ref o]) hX.stb C hE (h1 _) pk_X2_set qm_L_29 0 6 rfl rfl wc_0 rfl rfl (Nat.le_of_ble_eq_true rfl) dL_set_6 ⟨(Nat.le_of_ble_eq_true rfl), (Nat.le_of_ble_eq_true rfl)⟩ ⟨(Nat.le_of_ble_eq_true rfl), (Nat.le_of_ble_eq_true rfl)⟩ (fun _ _ h9 => h9.elim) (fun E1 hE1 => ?_)
    subst hE1
    simp only [List.mem_cons, List.not_mem_nil, or_false, Prod.mk.injEq] at hm
    rcases hm with ⟨rfl, rfl⟩ | ⟨rfl, rfl⟩
    · refine r_catch (name := "java/lang/IndexOutOfBoundsException") C [] ⟨0, 13, 16, 19⟩ [⟨0, 13, 20, 21⟩] (hnt.trans rfl) (fun z hz => absurd hz List.not_mem_nil) rfl (by decide) (C.2.2.2.2.1 _ qk_L_19) (hX.nw qca_IOB rfl hE) (fun q => ?_)
      refine r_astore C dL_set_16 (by decide) rfl ?_
      refine r_iconst (v := nI 1) C dL_set_18 (by decide) ?_
      exact r_iret C hr dL_set_19 ⟨_, _, _, _, rfl, rfl, h2 _⟩ (Nat.le_of_ble_eq_true rfl) (Nat.le_of_ble_eq_true rfl)
    · refine r_catch (name := "java/lang/IllegalArgumentException") C [⟨0, 13, 16, 19⟩] ⟨0, 13, 20, 21⟩ [] (hnt.trans rfl) (fun z hz => by
        simp only [List.mem_cons, List.not_mem_nil, or_false] at hz
        subst hz
        exact Or.inr ⟨by decide, "java/lang/IndexOutOfBoundsException", C.2.2.2.2.1 _ qk_L_19, hN ("java/lang/IllegalArgumentException", "java/lang/IndexOutOfBoundsException") (by simp [NCL]) _ _ _ hE⟩) rfl (by decide) (C.2.2.2.2.1 _ qk_L_21) (hX.nw qca_IAE rfl hE) (fun q => ?_)
      refine r_astore C dL_set_20 (by decide) rfl ?_
      refine r_iconst (v := nI 2) C dL_set_22 (by decide) ?_
      exact r_iret C hr dL_set_23 ⟨_, _, _, _, rfl, rfl, h2 _⟩ (Nat.le_of_ble_eq_true rfl) (Nat.le_of_ble_eq_true rfl)
  · refine c_V (st := [.ref o]) hX.stb C hE (h1 _) pk_X2_set qm_L_29 0 6 rfl rfl wc_0 rfl rfl (Nat.le_of_ble_eq_true rfl) dL_set_6 ⟨(Nat.le_of_ble_eq_true rfl), (Nat.le_of_ble_eq_true rfl)⟩ ⟨(Nat.le_of_ble_eq_true rfl), (Nat.le_of_ble_eq_true rfl)⟩ (fun v9 w9 h9 => ?_) (fun _ h9 => h9.elim)
    obtain ⟨rfl, rfl⟩ := h9
    refine r_i2l C dL_set_9 ?_
    refine g_putN hX C hE qu_X3 tyX3 tyX3_ok nmX3 (ci := 7) rfl 38 outo_at 0 (by decide) qn_L_13 rfl rfl (ty := .long) rfl rfl rfl (show 0 < 2 by omega) dL_set_10 outo_set ?_
    refine r_goto (tgt := 24) C dL_set_13 (by decide) ?_
    refine r_iconst (v := nI 0) C dL_set_24 (by decide) ?_
    exact r_iret C hr dL_set_25 ⟨_, _, _, _, rfl, rfl, h2⟩ (Nat.le_of_ble_eq_true rfl) (Nat.le_of_ble_eq_true rfl)
theorem dL_remove_0 : decode cL_remove 0 = .ok (.aload_n 3, 1) := dqo_45 (kb_of ke_L_remove 0 rfl)
theorem dL_remove_1 : decode cL_remove 1 = .ok (.aload_n 0, 1) := dqo_42 (kb_of ke_L_remove 1 rfl)
theorem dL_remove_2 : decode cL_remove 2 = .ok (.iload_n 1, 1) := dqo_27 (kb_of ke_L_remove 2 rfl)
theorem dL_remove_3 : decode cL_remove 3 = .ok (.iload_n 2, 1) := dqo_28 (kb_of ke_L_remove 3 rfl)
theorem dL_remove_4 : decode cL_remove 4 = .ok (.invokevirtual 32, 3) := dqo_182 0 32 (kb_of ke_L_remove 4 rfl) (kb_of ke_L_remove 5 rfl) (kb_of ke_L_remove 6 rfl)
theorem dL_remove_7 : decode cL_remove 7 = .ok (.i2l, 1) := dqo_133 (kb_of ke_L_remove 7 rfl)
theorem dL_remove_8 : decode cL_remove 8 = .ok (.putfield 13, 3) := dqo_181 0 13 (kb_of ke_L_remove 8 rfl) (kb_of ke_L_remove 9 rfl) (kb_of ke_L_remove 10 rfl)
theorem dL_remove_11 : decode cL_remove 11 = .ok (.goto 7, 3) := dqo_167 0 7 (by decide) (kb_of ke_L_remove 11 rfl) (kb_of ke_L_remove 12 rfl) (kb_of ke_L_remove 13 rfl)
theorem dL_remove_14 : decode cL_remove 14 = .ok (.astore 4, 2) := dqo_58 4 (kb_of ke_L_remove 14 rfl) (kb_of ke_L_remove 15 rfl)
theorem dL_remove_16 : decode cL_remove 16 = .ok (.iconst 1, 1) := dqo_4 (kb_of ke_L_remove 16 rfl)
theorem dL_remove_17 : decode cL_remove 17 = .ok (.ireturn, 1) := dqo_172 (kb_of ke_L_remove 17 rfl)
theorem dL_remove_18 : decode cL_remove 18 = .ok (.iconst 0, 1) := dqo_3 (kb_of ke_L_remove 18 rfl)
theorem dL_remove_19 : decode cL_remove 19 = .ok (.ireturn, 1) := dqo_172 (kb_of ke_L_remove 19 rfl)
theorem qcw_L_remove : Cond.codeWith yL_remove cL_remove 5 (some .int) [(0, 11, 14, 19)] ∈ GW := gw_4 63 rfl rfl
theorem pk_L_remove : PkH yL_remove cL_remove 5 (some .int) [(0, 11, 14, 19)] 4 := ⟨⟨qt_L_remove, qz_L, qcw_L_remove⟩, mh_L.1, mh_L.2, pd_46⟩
theorem pk_X2_remove : PkV RX2 yX2_remove cX2_remove 4 (some .int) 2 := ⟨⟨qi_X2_remove, qs_X2_remove, qz_X2, qc_X2_remove⟩, rfl, mh_X2.1, mh_X2.2, pd_0⟩
theorem W_remove {l : Launch} {D : va_G} {cy : Nat → ClassId} {X : (Nat → Prop) → State → Heap → Prop} {a : Nat → Nat → Nat} {ba ra : Nat → Nat} {f : Nat → Nat → Nat} {r : Nat → Nat → Int32} {hf : Nat → Nat → Nat} {hq : Nat → Nat → Int32} {kn th : Int32} {sm : Int64} {o : Nat} {n0 : Int64} {s0 : Value} {x0 x1 : Int32} (hX : EnvX X) (hN : EnvN X) (hC : CInv f) (hB : RB r) (hM : MR f r hf hq) (hp : PR l D cy X a ba ra f r hf hq kn th sm yX2_remove cX2_remove 4 (some .int) yX4_remove cX4_remove 4 (some .int) (rmk 9 4 48 420) [.int x0, .int x1] [("java/lang/IndexOutOfBoundsException", 1)]) : CmH l D cy X yL_remove cL_remove 5 (some .int) [(0, 11, 14, 19)] (rmk 9 1 6 300) [.ref (a 0 0), .int x0, .int x1, .ref o] (WC cy a f r kn ++ (WM cy ba ra hf hq kn th sm ++ [OUTo o n0 s0])) (fun v1 w1 => ∃ (f' : Nat → Nat → Nat) (r' : Nat → Nat → Int32) (k : Nat) (n1 : Int64), v1 = some (.int (nI k)) ∧ w1 = WC cy a f' r' kn ++ (WM cy ba ra hf hq kn th sm ++ [OUTo o n1 s0]) ∧ PN l D cy X ba ra hf hq kn th sm yX4_remove cX4_remove 4 (some .int) (rmk 9 4 48 420) [.int x0, .int x1] cvI f' r' k n1) (fun _ => False) := by
  refine CmH.of [some (.ref (a 0 0)), some (.int x0), some (.int x1), some (.ref o), none] pn_L rfl (Nat.le_of_ble_eq_true rfl) ?_
  intro p e s m args below meth c A C hE hr hnt
  refine r_aload_n C dL_remove_0 rfl ?_
  refine r_aload_n C dL_remove_1 rfl ?_
  refine r_iload_n C dL_remove_2 rfl ?_
  refine r_iload_n C dL_remove_3 rfl ?_
  rcases hp.two cvI (by simp) hC hB hM with ⟨E, k, hm, h1, h2⟩ | ⟨f', r', n, h1, h2⟩
  · refine c_V (st := [.ref o]) hX.stb C hE (h1 _) pk_X2_remove qm_L_32 0 6 rfl rfl wc_0 rfl rfl (Nat.le_of_ble_eq_true rfl) dL_remove_4 ⟨(Nat.le_of_ble_eq_true rfl), (Nat.le_of_ble_eq_true rfl)⟩ ⟨(Nat.le_of_ble_eq_true rfl), (Nat.le_of_ble_eq_true rfl)⟩ (fun _ _ h9 => h9.elim) (fun E1 hE1 => ?_)
    subst hE1
    simp only [List.mem_cons, List.not_mem_nil, or_false, Prod.mk.injEq] at hm
    obtain ⟨rfl, rfl⟩ := hm
    refine r_catch (name := "java/lang/IndexOutOfBoundsException") C [] ⟨0, 11, 14, 19⟩ [] (hnt.trans rfl) (fun z hz => absurd hz List.not_mem_nil) rfl (by decide) (C.2.2.2.2.1 _ qk_L_19) (hX.nw qca_IOB rfl hE) (fun q => ?_)
    refine r_astore C dL_remove_14 (by decide) rfl ?_
    refine r_iconst (v := nI 1) C dL_remove_16 (by decide) ?_
    exact r_iret C hr dL_remove_17 ⟨_, _, _, _, rfl, rfl, h2 _⟩ (Nat.le_of_ble_eq_true rfl) (Nat.le_of_ble_eq_true rfl)
  · refine c_V (st := [.ref o]) hX.stb C hE (h1 _) pk_X2_remove qm_L_32 0 6 rfl rfl wc_0 rfl rfl (Nat.le_of_ble_eq_true rfl) dL_remove_4 ⟨(Nat.le_of_ble_eq_true rfl), (Nat.le_of_ble_eq_true rfl)⟩ ⟨(Nat.le_of_ble_eq_true rfl), (Nat.le_of_ble_eq_true rfl)⟩ (fun v9 w9 h9 => ?_) (fun _ h9 => h9.elim)
    obtain ⟨rfl, rfl⟩ := h9
    refine r_i2l C dL_remove_7 ?_
    refine g_putN hX C hE qu_X3 tyX3 tyX3_ok nmX3 (ci := 7) rfl 38 outo_at 0 (by decide) qn_L_13 rfl rfl (ty := .long) rfl rfl rfl (show 0 < 2 by omega) dL_remove_8 outo_set ?_
    refine r_goto (tgt := 18) C dL_remove_11 (by decide) ?_
    refine r_iconst (v := nI 0) C dL_remove_18 (by decide) ?_
    exact r_iret C hr dL_remove_19 ⟨_, _, _, _, rfl, rfl, h2⟩ (Nat.le_of_ble_eq_true rfl) (Nat.le_of_ble_eq_true rfl)
theorem dL_clear_0 : decode cL_clear 0 = .ok (.aload_n 2, 1) := dqo_44 (kb_of ke_L_clear 0 rfl)
theorem dL_clear_1 : decode cL_clear 1 = .ok (.aload_n 0, 1) := dqo_42 (kb_of ke_L_clear 1 rfl)
theorem dL_clear_2 : decode cL_clear 2 = .ok (.iload_n 1, 1) := dqo_27 (kb_of ke_L_clear 2 rfl)
theorem dL_clear_3 : decode cL_clear 3 = .ok (.invokevirtual 35, 3) := dqo_182 0 35 (kb_of ke_L_clear 3 rfl) (kb_of ke_L_clear 4 rfl) (kb_of ke_L_clear 5 rfl)
theorem dL_clear_6 : decode cL_clear 6 = .ok (.i2l, 1) := dqo_133 (kb_of ke_L_clear 6 rfl)
theorem dL_clear_7 : decode cL_clear 7 = .ok (.putfield 13, 3) := dqo_181 0 13 (kb_of ke_L_clear 7 rfl) (kb_of ke_L_clear 8 rfl) (kb_of ke_L_clear 9 rfl)
theorem dL_clear_10 : decode cL_clear 10 = .ok (.goto 6, 3) := dqo_167 0 6 (by decide) (kb_of ke_L_clear 10 rfl) (kb_of ke_L_clear 11 rfl) (kb_of ke_L_clear 12 rfl)
theorem dL_clear_13 : decode cL_clear 13 = .ok (.astore_n 3, 1) := dqo_78 (kb_of ke_L_clear 13 rfl)
theorem dL_clear_14 : decode cL_clear 14 = .ok (.iconst 1, 1) := dqo_4 (kb_of ke_L_clear 14 rfl)
theorem dL_clear_15 : decode cL_clear 15 = .ok (.ireturn, 1) := dqo_172 (kb_of ke_L_clear 15 rfl)
theorem dL_clear_16 : decode cL_clear 16 = .ok (.iconst 0, 1) := dqo_3 (kb_of ke_L_clear 16 rfl)
theorem dL_clear_17 : decode cL_clear 17 = .ok (.ireturn, 1) := dqo_172 (kb_of ke_L_clear 17 rfl)
theorem qcw_L_clear : Cond.codeWith yL_clear cL_clear 4 (some .int) [(0, 10, 13, 19)] ∈ GW := gw_4 74 rfl rfl
theorem pk_L_clear : PkH yL_clear cL_clear 4 (some .int) [(0, 10, 13, 19)] 3 := ⟨⟨qt_L_clear, qz_L, qcw_L_clear⟩, mh_L.1, mh_L.2, pd_48⟩
theorem pk_X2_clear : PkV RX2 yX2_clear cX2_clear 3 (some .int) 1 := ⟨⟨qi_X2_clear, qs_X2_clear, qz_X2, qc_X2_clear⟩, rfl, mh_X2.1, mh_X2.2, pd_1⟩
theorem W_clear {l : Launch} {D : va_G} {cy : Nat → ClassId} {X : (Nat → Prop) → State → Heap → Prop} {a : Nat → Nat → Nat} {ba ra : Nat → Nat} {f : Nat → Nat → Nat} {r : Nat → Nat → Int32} {hf : Nat → Nat → Nat} {hq : Nat → Nat → Int32} {kn th : Int32} {sm : Int64} {o : Nat} {n0 : Int64} {s0 : Value} {x0 : Int32} (hX : EnvX X) (hN : EnvN X) (hC : CInv f) (hB : RB r) (hM : MR f r hf hq) (hp : PR l D cy X a ba ra f r hf hq kn th sm yX2_clear cX2_clear 3 (some .int) yX4_clear cX4_clear 3 (some .int) (rmk 9 4 48 420) [.int x0] [("java/lang/IndexOutOfBoundsException", 1)]) : CmH l D cy X yL_clear cL_clear 4 (some .int) [(0, 10, 13, 19)] (rmk 9 1 6 300) [.ref (a 0 0), .int x0, .ref o] (WC cy a f r kn ++ (WM cy ba ra hf hq kn th sm ++ [OUTo o n0 s0])) (fun v1 w1 => ∃ (f' : Nat → Nat → Nat) (r' : Nat → Nat → Int32) (k : Nat) (n1 : Int64), v1 = some (.int (nI k)) ∧ w1 = WC cy a f' r' kn ++ (WM cy ba ra hf hq kn th sm ++ [OUTo o n1 s0]) ∧ PN l D cy X ba ra hf hq kn th sm yX4_clear cX4_clear 3 (some .int) (rmk 9 4 48 420) [.int x0] cvI f' r' k n1) (fun _ => False) := by
  refine CmH.of [some (.ref (a 0 0)), some (.int x0), some (.ref o), none] pn_L rfl (Nat.le_of_ble_eq_true rfl) ?_
  intro p e s m args below meth c A C hE hr hnt
  refine r_aload_n C dL_clear_0 rfl ?_
  refine r_aload_n C dL_clear_1 rfl ?_
  refine r_iload_n C dL_clear_2 rfl ?_
  rcases hp.two cvI (by simp) hC hB hM with ⟨E, k, hm, h1, h2⟩ | ⟨f', r', n, h1, h2⟩
  · refine c_V (st := [.ref o]) hX.stb C hE (h1 _) pk_X2_clear qm_L_35 0 6 rfl rfl wc_0 rfl rfl (Nat.le_of_ble_eq_true rfl) dL_clear_3 ⟨(Nat.le_of_ble_eq_true rfl), (Nat.le_of_ble_eq_true rfl)⟩ ⟨(Nat.le_of_ble_eq_true rfl), (Nat.le_of_ble_eq_true rfl)⟩ (fun _ _ h9 => h9.elim) (fun E1 hE1 => ?_)
    subst hE1
    simp only [List.mem_cons, List.not_mem_nil, or_false, Prod.mk.injEq] at hm
    obtain ⟨rfl, rfl⟩ := hm
    refine r_catch (name := "java/lang/IndexOutOfBoundsException") C [] ⟨0, 10, 13, 19⟩ [] (hnt.trans rfl) (fun z hz => absurd hz List.not_mem_nil) rfl (by decide) (C.2.2.2.2.1 _ qk_L_19) (hX.nw qca_IOB rfl hE) (fun q => ?_)
    refine r_astore_n C dL_clear_13 (by decide) rfl ?_
    refine r_iconst (v := nI 1) C dL_clear_14 (by decide) ?_
    exact r_iret C hr dL_clear_15 ⟨_, _, _, _, rfl, rfl, h2 _⟩ (Nat.le_of_ble_eq_true rfl) (Nat.le_of_ble_eq_true rfl)
  · refine c_V (st := [.ref o]) hX.stb C hE (h1 _) pk_X2_clear qm_L_35 0 6 rfl rfl wc_0 rfl rfl (Nat.le_of_ble_eq_true rfl) dL_clear_3 ⟨(Nat.le_of_ble_eq_true rfl), (Nat.le_of_ble_eq_true rfl)⟩ ⟨(Nat.le_of_ble_eq_true rfl), (Nat.le_of_ble_eq_true rfl)⟩ (fun v9 w9 h9 => ?_) (fun _ h9 => h9.elim)
    obtain ⟨rfl, rfl⟩ := h9
    refine r_i2l C dL_clear_6 ?_
    refine g_putN hX C hE qu_X3 tyX3 tyX3_ok nmX3 (ci := 7) rfl 38 outo_at 0 (by decide) qn_L_13 rfl rfl (ty := .long) rfl rfl rfl (show 0 < 2 by omega) dL_clear_7 outo_set ?_
    refine r_goto (tgt := 16) C dL_clear_10 (by decide) ?_
    refine r_iconst (v := nI 0) C dL_clear_16 (by decide) ?_
    exact r_iret C hr dL_clear_17 ⟨_, _, _, _, rfl, rfl, h2⟩ (Nat.le_of_ble_eq_true rfl) (Nat.le_of_ble_eq_true rfl)
theorem dL_splice_0 : decode cL_splice 0 = .ok (.aload 5, 2) := dqo_25 5 (kb_of ke_L_splice 0 rfl) (kb_of ke_L_splice 1 rfl)
theorem dL_splice_2 : decode cL_splice 2 = .ok (.aload_n 0, 1) := dqo_42 (kb_of ke_L_splice 2 rfl)
theorem dL_splice_3 : decode cL_splice 3 = .ok (.iload_n 1, 1) := dqo_27 (kb_of ke_L_splice 3 rfl)
theorem dL_splice_4 : decode cL_splice 4 = .ok (.iload_n 2, 1) := dqo_28 (kb_of ke_L_splice 4 rfl)
theorem dL_splice_5 : decode cL_splice 5 = .ok (.iload_n 3, 1) := dqo_29 (kb_of ke_L_splice 5 rfl)
theorem dL_splice_6 : decode cL_splice 6 = .ok (.iload 4, 2) := dqo_21 4 (kb_of ke_L_splice 6 rfl) (kb_of ke_L_splice 7 rfl)
theorem dL_splice_8 : decode cL_splice 8 = .ok (.invokevirtual 39, 3) := dqo_182 0 39 (kb_of ke_L_splice 8 rfl) (kb_of ke_L_splice 9 rfl) (kb_of ke_L_splice 10 rfl)
theorem dL_splice_11 : decode cL_splice 11 = .ok (.i2l, 1) := dqo_133 (kb_of ke_L_splice 11 rfl)
theorem dL_splice_12 : decode cL_splice 12 = .ok (.putfield 13, 3) := dqo_181 0 13 (kb_of ke_L_splice 12 rfl) (kb_of ke_L_splice 13 rfl) (kb_of ke_L_splice 14 rfl)
theorem dL_splice_15 : decode cL_splice 15 = .ok (.goto 11, 3) := dqo_167 0 11 (by decide) (kb_of ke_L_splice 15 rfl) (kb_of ke_L_splice 16 rfl) (kb_of ke_L_splice 17 rfl)
theorem dL_splice_18 : decode cL_splice 18 = .ok (.astore 6, 2) := dqo_58 6 (kb_of ke_L_splice 18 rfl) (kb_of ke_L_splice 19 rfl)
theorem dL_splice_20 : decode cL_splice 20 = .ok (.iconst 1, 1) := dqo_4 (kb_of ke_L_splice 20 rfl)
theorem dL_splice_21 : decode cL_splice 21 = .ok (.ireturn, 1) := dqo_172 (kb_of ke_L_splice 21 rfl)
theorem dL_splice_22 : decode cL_splice 22 = .ok (.astore 6, 2) := dqo_58 6 (kb_of ke_L_splice 22 rfl) (kb_of ke_L_splice 23 rfl)
theorem dL_splice_24 : decode cL_splice 24 = .ok (.iconst 2, 1) := dqo_5 (kb_of ke_L_splice 24 rfl)
theorem dL_splice_25 : decode cL_splice 25 = .ok (.ireturn, 1) := dqo_172 (kb_of ke_L_splice 25 rfl)
theorem dL_splice_26 : decode cL_splice 26 = .ok (.iconst 0, 1) := dqo_3 (kb_of ke_L_splice 26 rfl)
theorem dL_splice_27 : decode cL_splice 27 = .ok (.ireturn, 1) := dqo_172 (kb_of ke_L_splice 27 rfl)
theorem qcw_L_splice : Cond.codeWith yL_splice cL_splice 7 (some .int) [(0, 15, 18, 19), (0, 15, 22, 23)] ∈ GW := gw_4 81 rfl rfl
theorem pk_L_splice : PkH yL_splice cL_splice 7 (some .int) [(0, 15, 18, 19), (0, 15, 22, 23)] 6 := ⟨⟨qt_L_splice, qz_L, qcw_L_splice⟩, mh_L.1, mh_L.2, pd_49⟩
theorem pk_X2_splice : PkV RX2 yX2_splice cX2_splice 7 (some .int) 4 := ⟨⟨qi_X2_splice, qs_X2_splice, qz_X2, qc_X2_splice⟩, rfl, mh_X2.1, mh_X2.2, pd_50⟩
theorem W_splice {l : Launch} {D : va_G} {cy : Nat → ClassId} {X : (Nat → Prop) → State → Heap → Prop} {a : Nat → Nat → Nat} {ba ra : Nat → Nat} {f : Nat → Nat → Nat} {r : Nat → Nat → Int32} {hf : Nat → Nat → Nat} {hq : Nat → Nat → Int32} {kn th : Int32} {sm : Int64} {o : Nat} {n0 : Int64} {s0 : Value} {x0 x1 x2 x3 : Int32} (hX : EnvX X) (hN : EnvN X) (hC : CInv f) (hB : RB r) (hM : MR f r hf hq) (hp : PR l D cy X a ba ra f r hf hq kn th sm yX2_splice cX2_splice 7 (some .int) yX4_splice cX4_splice 6 (some .int) (rmk 9 4 48 420) [.int x0, .int x1, .int x2, .int x3] [("java/lang/IndexOutOfBoundsException", 1), ("java/lang/IllegalStateException", 2)]) : CmH l D cy X yL_splice cL_splice 7 (some .int) [(0, 15, 18, 19), (0, 15, 22, 23)] (rmk 9 1 6 300) [.ref (a 0 0), .int x0, .int x1, .int x2, .int x3, .ref o] (WC cy a f r kn ++ (WM cy ba ra hf hq kn th sm ++ [OUTo o n0 s0])) (fun v1 w1 => ∃ (f' : Nat → Nat → Nat) (r' : Nat → Nat → Int32) (k : Nat) (n1 : Int64), v1 = some (.int (nI k)) ∧ w1 = WC cy a f' r' kn ++ (WM cy ba ra hf hq kn th sm ++ [OUTo o n1 s0]) ∧ PN l D cy X ba ra hf hq kn th sm yX4_splice cX4_splice 6 (some .int) (rmk 9 4 48 420) [.int x0, .int x1, .int x2, .int x3] cvI f' r' k n1) (fun _ => False) := by
  refine CmH.of [some (.ref (a 0 0)), some (.int x0), some (.int x1), some (.int x2), some (.int x3), some (.ref o), none] pn_L rfl (Nat.le_of_ble_eq_true rfl) ?_
  intro p e s m args below meth c A C hE hr hnt
  refine r_aload C dL_splice_0 rfl ?_
  refine r_aload_n C dL_splice_2 rfl ?_
  refine r_iload_n C dL_splice_3 rfl ?_
  refine r_iload_n C dL_splice_4 rfl ?_
  refine r_iload_n C dL_splice_5 rfl ?_
  refine r_iload C dL_splice_6 rfl ?_
  rcases hp.two cvI (by simp) hC hB hM with ⟨E, k, hm, h1, h2⟩ | ⟨f', r', n, h1, h2⟩
  · refine c_V (st := [.ref o]) hX.stb C hE (h1 _) pk_X2_splice qm_L_39 0 6 rfl rfl wc_0 rfl rfl (Nat.le_of_ble_eq_true rfl) dL_splice_8 ⟨(Nat.le_of_ble_eq_true rfl), (Nat.le_of_ble_eq_true rfl)⟩ ⟨(Nat.le_of_ble_eq_true rfl), (Nat.le_of_ble_eq_true rfl)⟩ (fun _ _ h9 => h9.elim) (fun E1 hE1 => ?_)
    subst hE1
    simp only [List.mem_cons, List.not_mem_nil, or_false, Prod.mk.injEq] at hm
    rcases hm with ⟨rfl, rfl⟩ | ⟨rfl, rfl⟩
    · refine r_catch (name := "java/lang/IndexOutOfBoundsException") C [] ⟨0, 15, 18, 19⟩ [⟨0, 15, 22, 23⟩] (hnt.trans rfl) (fun z hz => absurd hz List.not_mem_nil) rfl (by decide) (C.2.2.2.2.1 _ qk_L_19) (hX.nw qca_IOB rfl hE) (fun q => ?_)
      refine r_astore C dL_splice_18 (by decide) rfl ?_
      refine r_iconst (v := nI 1) C dL_splice_20 (by decide) ?_
      exact r_iret C hr dL_splice_21 ⟨_, _, _, _, rfl, rfl, h2 _⟩ (Nat.le_of_ble_eq_true rfl) (Nat.le_of_ble_eq_true rfl)
    · refine r_catch (name := "java/lang/IllegalStateException") C [⟨0, 15, 18, 19⟩] ⟨0, 15, 22, 23⟩ [] (hnt.trans rfl) (fun z hz => by
        simp only [List.mem_cons, List.not_mem_nil, or_false] at hz
        subst hz
        exact Or.inr ⟨by decide, "java/lang/IndexOutOfBoundsException", C.2.2.2.2.1 _ qk_L_19, hN ("java/lang/IllegalStateException", "java/lang/IndexOutOfBoundsException") (by simp [NCL]) _ _ _ hE⟩) rfl (by decide) (C.2.2.2.2.1 _ qk_L_23) (hX.nw qca_ISE rfl hE) (fun q => ?_)
      refine r_astore C dL_splice_22 (by decide) rfl ?_
      refine r_iconst (v := nI 2) C dL_splice_24 (by decide) ?_
      exact r_iret C hr dL_splice_25 ⟨_, _, _, _, rfl, rfl, h2 _⟩ (Nat.le_of_ble_eq_true rfl) (Nat.le_of_ble_eq_true rfl)
  · refine c_V (st := [.ref o]) hX.stb C hE (h1 _) pk_X2_splice qm_L_39 0 6 rfl rfl wc_0 rfl rfl (Nat.le_of_ble_eq_true rfl) dL_splice_8 ⟨(Nat.le_of_ble_eq_true rfl), (Nat.le_of_ble_eq_true rfl)⟩ ⟨(Nat.le_of_ble_eq_true rfl), (Nat.le_of_ble_eq_true rfl)⟩ (fun v9 w9 h9 => ?_) (fun _ h9 => h9.elim)
    obtain ⟨rfl, rfl⟩ := h9
    refine r_i2l C dL_splice_11 ?_
    refine g_putN hX C hE qu_X3 tyX3 tyX3_ok nmX3 (ci := 7) rfl 38 outo_at 0 (by decide) qn_L_13 rfl rfl (ty := .long) rfl rfl rfl (show 0 < 2 by omega) dL_splice_12 outo_set ?_
    refine r_goto (tgt := 26) C dL_splice_15 (by decide) ?_
    refine r_iconst (v := nI 0) C dL_splice_26 (by decide) ?_
    exact r_iret C hr dL_splice_27 ⟨_, _, _, _, rfl, rfl, h2⟩ (Nat.le_of_ble_eq_true rfl) (Nat.le_of_ble_eq_true rfl)
theorem dL_rotate_0 : decode cL_rotate 0 = .ok (.aload_n 3, 1) := dqo_45 (kb_of ke_L_rotate 0 rfl)
theorem dL_rotate_1 : decode cL_rotate 1 = .ok (.aload_n 0, 1) := dqo_42 (kb_of ke_L_rotate 1 rfl)
theorem dL_rotate_2 : decode cL_rotate 2 = .ok (.iload_n 1, 1) := dqo_27 (kb_of ke_L_rotate 2 rfl)
theorem dL_rotate_3 : decode cL_rotate 3 = .ok (.iload_n 2, 1) := dqo_28 (kb_of ke_L_rotate 3 rfl)
theorem dL_rotate_4 : decode cL_rotate 4 = .ok (.invokevirtual 43, 3) := dqo_182 0 43 (kb_of ke_L_rotate 4 rfl) (kb_of ke_L_rotate 5 rfl) (kb_of ke_L_rotate 6 rfl)
theorem dL_rotate_7 : decode cL_rotate 7 = .ok (.i2l, 1) := dqo_133 (kb_of ke_L_rotate 7 rfl)
theorem dL_rotate_8 : decode cL_rotate 8 = .ok (.putfield 13, 3) := dqo_181 0 13 (kb_of ke_L_rotate 8 rfl) (kb_of ke_L_rotate 9 rfl) (kb_of ke_L_rotate 10 rfl)
theorem dL_rotate_11 : decode cL_rotate 11 = .ok (.goto 11, 3) := dqo_167 0 11 (by decide) (kb_of ke_L_rotate 11 rfl) (kb_of ke_L_rotate 12 rfl) (kb_of ke_L_rotate 13 rfl)
theorem dL_rotate_14 : decode cL_rotate 14 = .ok (.astore 4, 2) := dqo_58 4 (kb_of ke_L_rotate 14 rfl) (kb_of ke_L_rotate 15 rfl)
theorem dL_rotate_16 : decode cL_rotate 16 = .ok (.iconst 1, 1) := dqo_4 (kb_of ke_L_rotate 16 rfl)
theorem dL_rotate_17 : decode cL_rotate 17 = .ok (.ireturn, 1) := dqo_172 (kb_of ke_L_rotate 17 rfl)
theorem dL_rotate_18 : decode cL_rotate 18 = .ok (.astore 4, 2) := dqo_58 4 (kb_of ke_L_rotate 18 rfl) (kb_of ke_L_rotate 19 rfl)
theorem dL_rotate_20 : decode cL_rotate 20 = .ok (.iconst 2, 1) := dqo_5 (kb_of ke_L_rotate 20 rfl)
theorem dL_rotate_21 : decode cL_rotate 21 = .ok (.ireturn, 1) := dqo_172 (kb_of ke_L_rotate 21 rfl)
theorem dL_rotate_22 : decode cL_rotate 22 = .ok (.iconst 0, 1) := dqo_3 (kb_of ke_L_rotate 22 rfl)
theorem dL_rotate_23 : decode cL_rotate 23 = .ok (.ireturn, 1) := dqo_172 (kb_of ke_L_rotate 23 rfl)
theorem qcw_L_rotate : Cond.codeWith yL_rotate cL_rotate 5 (some .int) [(0, 11, 14, 19), (0, 11, 18, 21)] ∈ GW := gw_4 92 rfl rfl
theorem pk_L_rotate : PkH yL_rotate cL_rotate 5 (some .int) [(0, 11, 14, 19), (0, 11, 18, 21)] 4 := ⟨⟨qt_L_rotate, qz_L, qcw_L_rotate⟩, mh_L.1, mh_L.2, pd_46⟩
theorem pk_X2_rotate : PkV RX2 yX2_rotate cX2_rotate 3 (some .int) 2 := ⟨⟨qi_X2_rotate, qs_X2_rotate, qz_X2, qc_X2_rotate⟩, rfl, mh_X2.1, mh_X2.2, pd_0⟩
theorem W_rotate {l : Launch} {D : va_G} {cy : Nat → ClassId} {X : (Nat → Prop) → State → Heap → Prop} {a : Nat → Nat → Nat} {ba ra : Nat → Nat} {f : Nat → Nat → Nat} {r : Nat → Nat → Int32} {hf : Nat → Nat → Nat} {hq : Nat → Nat → Int32} {kn th : Int32} {sm : Int64} {o : Nat} {n0 : Int64} {s0 : Value} {x0 x1 : Int32} (hX : EnvX X) (hN : EnvN X) (hC : CInv f) (hB : RB r) (hM : MR f r hf hq) (hp : PR l D cy X a ba ra f r hf hq kn th sm yX2_rotate cX2_rotate 3 (some .int) yX4_rotate cX4_rotate 6 (some .int) (rmk 9 4 48 420) [.int x0, .int x1] [("java/lang/IndexOutOfBoundsException", 1), ("java/lang/IllegalArgumentException", 2)]) : CmH l D cy X yL_rotate cL_rotate 5 (some .int) [(0, 11, 14, 19), (0, 11, 18, 21)] (rmk 9 1 6 300) [.ref (a 0 0), .int x0, .int x1, .ref o] (WC cy a f r kn ++ (WM cy ba ra hf hq kn th sm ++ [OUTo o n0 s0])) (fun v1 w1 => ∃ (f' : Nat → Nat → Nat) (r' : Nat → Nat → Int32) (k : Nat) (n1 : Int64), v1 = some (.int (nI k)) ∧ w1 = WC cy a f' r' kn ++ (WM cy ba ra hf hq kn th sm ++ [OUTo o n1 s0]) ∧ PN l D cy X ba ra hf hq kn th sm yX4_rotate cX4_rotate 6 (some .int) (rmk 9 4 48 420) [.int x0, .int x1] cvI f' r' k n1) (fun _ => False) := by
  refine CmH.of [some (.ref (a 0 0)), some (.int x0), some (.int x1), some (.ref o), none] pn_L rfl (Nat.le_of_ble_eq_true rfl) ?_
  intro p e s m args below meth c A C hE hr hnt
  refine r_aload_n C dL_rotate_0 rfl ?_
  refine r_aload_n C dL_rotate_1 rfl ?_
  refine r_iload_n C dL_rotate_2 rfl ?_
  refine r_iload_n C dL_rotate_3 rfl ?_
  rcases hp.two cvI (by simp) hC hB hM with ⟨E, k, hm, h1, h2⟩ | ⟨f', r', n, h1, h2⟩
  · refine c_V (st := [.ref o]) hX.stb C hE (h1 _) pk_X2_rotate qm_L_43 0 6 rfl rfl wc_0 rfl rfl (Nat.le_of_ble_eq_true rfl) dL_rotate_4 ⟨(Nat.le_of_ble_eq_true rfl), (Nat.le_of_ble_eq_true rfl)⟩ ⟨(Nat.le_of_ble_eq_true rfl), (Nat.le_of_ble_eq_true rfl)⟩ (fun _ _ h9 => h9.elim) (fun E1 hE1 => ?_)
    subst hE1
    simp only [List.mem_cons, List.not_mem_nil, or_false, Prod.mk.injEq] at hm
    rcases hm with ⟨rfl, rfl⟩ | ⟨rfl, rfl⟩
    · refine r_catch (name := "java/lang/IndexOutOfBoundsException") C [] ⟨0, 11, 14, 19⟩ [⟨0, 11, 18, 21⟩] (hnt.trans rfl) (fun z hz => absurd hz List.not_mem_nil) rfl (by decide) (C.2.2.2.2.1 _ qk_L_19) (hX.nw qca_IOB rfl hE) (fun q => ?_)
      refine r_astore C dL_rotate_14 (by decide) rfl ?_
      refine r_iconst (v := nI 1) C dL_rotate_16 (by decide) ?_
      exact r_iret C hr dL_rotate_17 ⟨_, _, _, _, rfl, rfl, h2 _⟩ (Nat.le_of_ble_eq_true rfl) (Nat.le_of_ble_eq_true rfl)
    · refine r_catch (name := "java/lang/IllegalArgumentException") C [⟨0, 11, 14, 19⟩] ⟨0, 11, 18, 21⟩ [] (hnt.trans rfl) (fun z hz => by
        simp only [List.mem_cons, List.not_mem_nil, or_false] at hz
        subst hz
        exact Or.inr ⟨by decide, "java/lang/IndexOutOfBoundsException", C.2.2.2.2.1 _ qk_L_19, hN ("java/lang/IllegalArgumentException", "java/lang/IndexOutOfBoundsException") (by simp [NCL]) _ _ _ hE⟩) rfl (by decide) (C.2.2.2.2.1 _ qk_L_21) (hX.nw qca_IAE rfl hE) (fun q => ?_)
      refine r_astore C dL_rotate_18 (by decide) rfl ?_
      refine r_iconst (v := nI 2) C dL_rotate_20 (by decide) ?_
      exact r_iret C hr dL_rotate_21 ⟨_, _, _, _, rfl, rfl, h2 _⟩ (Nat.le_of_ble_eq_true rfl) (Nat.le_of_ble_eq_true rfl)
  · refine c_V (st := [.ref o]) hX.stb C hE (h1 _) pk_X2_rotate qm_L_43 0 6 rfl rfl wc_0 rfl rfl (Nat.le_of_ble_eq_true rfl) dL_rotate_4 ⟨(Nat.le_of_ble_eq_true rfl), (Nat.le_of_ble_eq_true rfl)⟩ ⟨(Nat.le_of_ble_eq_true rfl), (Nat.le_of_ble_eq_true rfl)⟩ (fun v9 w9 h9 => ?_) (fun _ h9 => h9.elim)
    obtain ⟨rfl, rfl⟩ := h9
    refine r_i2l C dL_rotate_7 ?_
    refine g_putN hX C hE qu_X3 tyX3 tyX3_ok nmX3 (ci := 7) rfl 38 outo_at 0 (by decide) qn_L_13 rfl rfl (ty := .long) rfl rfl rfl (show 0 < 2 by omega) dL_rotate_8 outo_set ?_
    refine r_goto (tgt := 22) C dL_rotate_11 (by decide) ?_
    refine r_iconst (v := nI 0) C dL_rotate_22 (by decide) ?_
    exact r_iret C hr dL_rotate_23 ⟨_, _, _, _, rfl, rfl, h2⟩ (Nat.le_of_ble_eq_true rfl) (Nat.le_of_ble_eq_true rfl)
theorem dL_reverse_0 : decode cL_reverse 0 = .ok (.aload_n 2, 1) := dqo_44 (kb_of ke_L_reverse 0 rfl)
theorem dL_reverse_1 : decode cL_reverse 1 = .ok (.aload_n 0, 1) := dqo_42 (kb_of ke_L_reverse 1 rfl)
theorem dL_reverse_2 : decode cL_reverse 2 = .ok (.iload_n 1, 1) := dqo_27 (kb_of ke_L_reverse 2 rfl)
theorem dL_reverse_3 : decode cL_reverse 3 = .ok (.invokevirtual 46, 3) := dqo_182 0 46 (kb_of ke_L_reverse 3 rfl) (kb_of ke_L_reverse 4 rfl) (kb_of ke_L_reverse 5 rfl)
theorem dL_reverse_6 : decode cL_reverse 6 = .ok (.i2l, 1) := dqo_133 (kb_of ke_L_reverse 6 rfl)
theorem dL_reverse_7 : decode cL_reverse 7 = .ok (.putfield 13, 3) := dqo_181 0 13 (kb_of ke_L_reverse 7 rfl) (kb_of ke_L_reverse 8 rfl) (kb_of ke_L_reverse 9 rfl)
theorem dL_reverse_10 : decode cL_reverse 10 = .ok (.goto 6, 3) := dqo_167 0 6 (by decide) (kb_of ke_L_reverse 10 rfl) (kb_of ke_L_reverse 11 rfl) (kb_of ke_L_reverse 12 rfl)
theorem dL_reverse_13 : decode cL_reverse 13 = .ok (.astore_n 3, 1) := dqo_78 (kb_of ke_L_reverse 13 rfl)
theorem dL_reverse_14 : decode cL_reverse 14 = .ok (.iconst 1, 1) := dqo_4 (kb_of ke_L_reverse 14 rfl)
theorem dL_reverse_15 : decode cL_reverse 15 = .ok (.ireturn, 1) := dqo_172 (kb_of ke_L_reverse 15 rfl)
theorem dL_reverse_16 : decode cL_reverse 16 = .ok (.iconst 0, 1) := dqo_3 (kb_of ke_L_reverse 16 rfl)
theorem dL_reverse_17 : decode cL_reverse 17 = .ok (.ireturn, 1) := dqo_172 (kb_of ke_L_reverse 17 rfl)
theorem qcw_L_reverse : Cond.codeWith yL_reverse cL_reverse 4 (some .int) [(0, 10, 13, 19)] ∈ GW := gw_4 104 rfl rfl
theorem pk_L_reverse : PkH yL_reverse cL_reverse 4 (some .int) [(0, 10, 13, 19)] 3 := ⟨⟨qt_L_reverse, qz_L, qcw_L_reverse⟩, mh_L.1, mh_L.2, pd_48⟩
theorem pk_X2_reverse : PkV RX2 yX2_reverse cX2_reverse 2 (some .int) 1 := ⟨⟨qi_X2_reverse, qs_X2_reverse, qz_X2, qc_X2_reverse⟩, rfl, mh_X2.1, mh_X2.2, pd_1⟩
theorem W_reverse {l : Launch} {D : va_G} {cy : Nat → ClassId} {X : (Nat → Prop) → State → Heap → Prop} {a : Nat → Nat → Nat} {ba ra : Nat → Nat} {f : Nat → Nat → Nat} {r : Nat → Nat → Int32} {hf : Nat → Nat → Nat} {hq : Nat → Nat → Int32} {kn th : Int32} {sm : Int64} {o : Nat} {n0 : Int64} {s0 : Value} {x0 : Int32} (hX : EnvX X) (hN : EnvN X) (hC : CInv f) (hB : RB r) (hM : MR f r hf hq) (hp : PR l D cy X a ba ra f r hf hq kn th sm yX2_reverse cX2_reverse 2 (some .int) yX4_reverse cX4_reverse 2 (some .int) (rmk 9 4 48 420) [.int x0] [("java/lang/IndexOutOfBoundsException", 1)]) : CmH l D cy X yL_reverse cL_reverse 4 (some .int) [(0, 10, 13, 19)] (rmk 9 1 6 300) [.ref (a 0 0), .int x0, .ref o] (WC cy a f r kn ++ (WM cy ba ra hf hq kn th sm ++ [OUTo o n0 s0])) (fun v1 w1 => ∃ (f' : Nat → Nat → Nat) (r' : Nat → Nat → Int32) (k : Nat) (n1 : Int64), v1 = some (.int (nI k)) ∧ w1 = WC cy a f' r' kn ++ (WM cy ba ra hf hq kn th sm ++ [OUTo o n1 s0]) ∧ PN l D cy X ba ra hf hq kn th sm yX4_reverse cX4_reverse 2 (some .int) (rmk 9 4 48 420) [.int x0] cvI f' r' k n1) (fun _ => False) := by
  refine CmH.of [some (.ref (a 0 0)), some (.int x0), some (.ref o), none] pn_L rfl (Nat.le_of_ble_eq_true rfl) ?_
  intro p e s m args below meth c A C hE hr hnt
  refine r_aload_n C dL_reverse_0 rfl ?_
  refine r_aload_n C dL_reverse_1 rfl ?_
  refine r_iload_n C dL_reverse_2 rfl ?_
  rcases hp.two cvI (by simp) hC hB hM with ⟨E, k, hm, h1, h2⟩ | ⟨f', r', n, h1, h2⟩
  · refine c_V (st := [.ref o]) hX.stb C hE (h1 _) pk_X2_reverse qm_L_46 0 6 rfl rfl wc_0 rfl rfl (Nat.le_of_ble_eq_true rfl) dL_reverse_3 ⟨(Nat.le_of_ble_eq_true rfl), (Nat.le_of_ble_eq_true rfl)⟩ ⟨(Nat.le_of_ble_eq_true rfl), (Nat.le_of_ble_eq_true rfl)⟩ (fun _ _ h9 => h9.elim) (fun E1 hE1 => ?_)
    subst hE1
    simp only [List.mem_cons, List.not_mem_nil, or_false, Prod.mk.injEq] at hm
    obtain ⟨rfl, rfl⟩ := hm
    refine r_catch (name := "java/lang/IndexOutOfBoundsException") C [] ⟨0, 10, 13, 19⟩ [] (hnt.trans rfl) (fun z hz => absurd hz List.not_mem_nil) rfl (by decide) (C.2.2.2.2.1 _ qk_L_19) (hX.nw qca_IOB rfl hE) (fun q => ?_)
    refine r_astore_n C dL_reverse_13 (by decide) rfl ?_
    refine r_iconst (v := nI 1) C dL_reverse_14 (by decide) ?_
    exact r_iret C hr dL_reverse_15 ⟨_, _, _, _, rfl, rfl, h2 _⟩ (Nat.le_of_ble_eq_true rfl) (Nat.le_of_ble_eq_true rfl)
  · refine c_V (st := [.ref o]) hX.stb C hE (h1 _) pk_X2_reverse qm_L_46 0 6 rfl rfl wc_0 rfl rfl (Nat.le_of_ble_eq_true rfl) dL_reverse_3 ⟨(Nat.le_of_ble_eq_true rfl), (Nat.le_of_ble_eq_true rfl)⟩ ⟨(Nat.le_of_ble_eq_true rfl), (Nat.le_of_ble_eq_true rfl)⟩ (fun v9 w9 h9 => ?_) (fun _ h9 => h9.elim)
    obtain ⟨rfl, rfl⟩ := h9
    refine r_i2l C dL_reverse_6 ?_
    refine g_putN hX C hE qu_X3 tyX3 tyX3_ok nmX3 (ci := 7) rfl 38 outo_at 0 (by decide) qn_L_13 rfl rfl (ty := .long) rfl rfl rfl (show 0 < 2 by omega) dL_reverse_7 outo_set ?_
    refine r_goto (tgt := 16) C dL_reverse_10 (by decide) ?_
    refine r_iconst (v := nI 0) C dL_reverse_16 (by decide) ?_
    exact r_iret C hr dL_reverse_17 ⟨_, _, _, _, rfl, rfl, h2⟩ (Nat.le_of_ble_eq_true rfl) (Nat.le_of_ble_eq_true rfl)
theorem dL_swap_0 : decode cL_swap 0 = .ok (.aload 4, 2) := dqo_25 4 (kb_of ke_L_swap 0 rfl) (kb_of ke_L_swap 1 rfl)
theorem dL_swap_2 : decode cL_swap 2 = .ok (.aload_n 0, 1) := dqo_42 (kb_of ke_L_swap 2 rfl)
theorem dL_swap_3 : decode cL_swap 3 = .ok (.iload_n 1, 1) := dqo_27 (kb_of ke_L_swap 3 rfl)
theorem dL_swap_4 : decode cL_swap 4 = .ok (.iload_n 2, 1) := dqo_28 (kb_of ke_L_swap 4 rfl)
theorem dL_swap_5 : decode cL_swap 5 = .ok (.iload_n 3, 1) := dqo_29 (kb_of ke_L_swap 5 rfl)
theorem dL_swap_6 : decode cL_swap 6 = .ok (.invokevirtual 49, 3) := dqo_182 0 49 (kb_of ke_L_swap 6 rfl) (kb_of ke_L_swap 7 rfl) (kb_of ke_L_swap 8 rfl)
theorem dL_swap_9 : decode cL_swap 9 = .ok (.i2l, 1) := dqo_133 (kb_of ke_L_swap 9 rfl)
theorem dL_swap_10 : decode cL_swap 10 = .ok (.putfield 13, 3) := dqo_181 0 13 (kb_of ke_L_swap 10 rfl) (kb_of ke_L_swap 11 rfl) (kb_of ke_L_swap 12 rfl)
theorem dL_swap_13 : decode cL_swap 13 = .ok (.goto 7, 3) := dqo_167 0 7 (by decide) (kb_of ke_L_swap 13 rfl) (kb_of ke_L_swap 14 rfl) (kb_of ke_L_swap 15 rfl)
theorem dL_swap_16 : decode cL_swap 16 = .ok (.astore 5, 2) := dqo_58 5 (kb_of ke_L_swap 16 rfl) (kb_of ke_L_swap 17 rfl)
theorem dL_swap_18 : decode cL_swap 18 = .ok (.iconst 1, 1) := dqo_4 (kb_of ke_L_swap 18 rfl)
theorem dL_swap_19 : decode cL_swap 19 = .ok (.ireturn, 1) := dqo_172 (kb_of ke_L_swap 19 rfl)
theorem dL_swap_20 : decode cL_swap 20 = .ok (.iconst 0, 1) := dqo_3 (kb_of ke_L_swap 20 rfl)
theorem dL_swap_21 : decode cL_swap 21 = .ok (.ireturn, 1) := dqo_172 (kb_of ke_L_swap 21 rfl)
theorem qcw_L_swap : Cond.codeWith yL_swap cL_swap 6 (some .int) [(0, 13, 16, 19)] ∈ GW := gw_4 111 rfl rfl
theorem pk_L_swap : PkH yL_swap cL_swap 6 (some .int) [(0, 13, 16, 19)] 5 := ⟨⟨qt_L_swap, qz_L, qcw_L_swap⟩, mh_L.1, mh_L.2, pd_47⟩
theorem pk_X2_swap : PkV RX2 yX2_swap cX2_swap 4 (some .int) 3 := ⟨⟨qi_X2_swap, qs_X2_swap, qz_X2, qc_X2_swap⟩, rfl, mh_X2.1, mh_X2.2, pd_28⟩
theorem W_swap {l : Launch} {D : va_G} {cy : Nat → ClassId} {X : (Nat → Prop) → State → Heap → Prop} {a : Nat → Nat → Nat} {ba ra : Nat → Nat} {f : Nat → Nat → Nat} {r : Nat → Nat → Int32} {hf : Nat → Nat → Nat} {hq : Nat → Nat → Int32} {kn th : Int32} {sm : Int64} {o : Nat} {n0 : Int64} {s0 : Value} {x0 x1 x2 : Int32} (hX : EnvX X) (hN : EnvN X) (hC : CInv f) (hB : RB r) (hM : MR f r hf hq) (hp : PR l D cy X a ba ra f r hf hq kn th sm yX2_swap cX2_swap 4 (some .int) yX4_swap cX4_swap 6 (some .int) (rmk 9 4 48 420) [.int x0, .int x1, .int x2] [("java/lang/IndexOutOfBoundsException", 1)]) : CmH l D cy X yL_swap cL_swap 6 (some .int) [(0, 13, 16, 19)] (rmk 9 1 6 300) [.ref (a 0 0), .int x0, .int x1, .int x2, .ref o] (WC cy a f r kn ++ (WM cy ba ra hf hq kn th sm ++ [OUTo o n0 s0])) (fun v1 w1 => ∃ (f' : Nat → Nat → Nat) (r' : Nat → Nat → Int32) (k : Nat) (n1 : Int64), v1 = some (.int (nI k)) ∧ w1 = WC cy a f' r' kn ++ (WM cy ba ra hf hq kn th sm ++ [OUTo o n1 s0]) ∧ PN l D cy X ba ra hf hq kn th sm yX4_swap cX4_swap 6 (some .int) (rmk 9 4 48 420) [.int x0, .int x1, .int x2] cvI f' r' k n1) (fun _ => False) := by
  refine CmH.of [some (.ref (a 0 0)), some (.int x0), some (.int x1), some (.int x2), some (.ref o), none] pn_L rfl (Nat.le_of_ble_eq_true rfl) ?_
  intro p e s m args below meth c A C hE hr hnt
  refine r_aload C dL_swap_0 rfl ?_
  refine r_aload_n C dL_swap_2 rfl ?_
  refine r_iload_n C dL_swap_3 rfl ?_
  refine r_iload_n C dL_swap_4 rfl ?_
  refine r_iload_n C dL_swap_5 rfl ?_
  rcases hp.two cvI (by simp) hC hB hM with ⟨E, k, hm, h1, h2⟩ | ⟨f', r', n, h1, h2⟩
  · refine c_V (st := [.ref o]) hX.stb C hE (h1 _) pk_X2_swap qm_L_49 0 6 rfl rfl wc_0 rfl rfl (Nat.le_of_ble_eq_true rfl) dL_swap_6 ⟨(Nat.le_of_ble_eq_true rfl), (Nat.le_of_ble_eq_true rfl)⟩ ⟨(Nat.le_of_ble_eq_true rfl), (Nat.le_of_ble_eq_true rfl)⟩ (fun _ _ h9 => h9.elim) (fun E1 hE1 => ?_)
    subst hE1
    simp only [List.mem_cons, List.not_mem_nil, or_false, Prod.mk.injEq] at hm
    obtain ⟨rfl, rfl⟩ := hm
    refine r_catch (name := "java/lang/IndexOutOfBoundsException") C [] ⟨0, 13, 16, 19⟩ [] (hnt.trans rfl) (fun z hz => absurd hz List.not_mem_nil) rfl (by decide) (C.2.2.2.2.1 _ qk_L_19) (hX.nw qca_IOB rfl hE) (fun q => ?_)
    refine r_astore C dL_swap_16 (by decide) rfl ?_
    refine r_iconst (v := nI 1) C dL_swap_18 (by decide) ?_
    exact r_iret C hr dL_swap_19 ⟨_, _, _, _, rfl, rfl, h2 _⟩ (Nat.le_of_ble_eq_true rfl) (Nat.le_of_ble_eq_true rfl)
  · refine c_V (st := [.ref o]) hX.stb C hE (h1 _) pk_X2_swap qm_L_49 0 6 rfl rfl wc_0 rfl rfl (Nat.le_of_ble_eq_true rfl) dL_swap_6 ⟨(Nat.le_of_ble_eq_true rfl), (Nat.le_of_ble_eq_true rfl)⟩ ⟨(Nat.le_of_ble_eq_true rfl), (Nat.le_of_ble_eq_true rfl)⟩ (fun v9 w9 h9 => ?_) (fun _ h9 => h9.elim)
    obtain ⟨rfl, rfl⟩ := h9
    refine r_i2l C dL_swap_9 ?_
    refine g_putN hX C hE qu_X3 tyX3 tyX3_ok nmX3 (ci := 7) rfl 38 outo_at 0 (by decide) qn_L_13 rfl rfl (ty := .long) rfl rfl rfl (show 0 < 2 by omega) dL_swap_10 outo_set ?_
    refine r_goto (tgt := 20) C dL_swap_13 (by decide) ?_
    refine r_iconst (v := nI 0) C dL_swap_20 (by decide) ?_
    exact r_iret C hr dL_swap_21 ⟨_, _, _, _, rfl, rfl, h2⟩ (Nat.le_of_ble_eq_true rfl) (Nat.le_of_ble_eq_true rfl)
theorem dL_riffle_0 : decode cL_riffle 0 = .ok (.aload_n 2, 1) := dqo_44 (kb_of ke_L_riffle 0 rfl)
theorem dL_riffle_1 : decode cL_riffle 1 = .ok (.aload_n 0, 1) := dqo_42 (kb_of ke_L_riffle 1 rfl)
theorem dL_riffle_2 : decode cL_riffle 2 = .ok (.iload_n 1, 1) := dqo_27 (kb_of ke_L_riffle 2 rfl)
theorem dL_riffle_3 : decode cL_riffle 3 = .ok (.invokevirtual 52, 3) := dqo_182 0 52 (kb_of ke_L_riffle 3 rfl) (kb_of ke_L_riffle 4 rfl) (kb_of ke_L_riffle 5 rfl)
theorem dL_riffle_6 : decode cL_riffle 6 = .ok (.i2l, 1) := dqo_133 (kb_of ke_L_riffle 6 rfl)
theorem dL_riffle_7 : decode cL_riffle 7 = .ok (.putfield 13, 3) := dqo_181 0 13 (kb_of ke_L_riffle 7 rfl) (kb_of ke_L_riffle 8 rfl) (kb_of ke_L_riffle 9 rfl)
theorem dL_riffle_10 : decode cL_riffle 10 = .ok (.goto 6, 3) := dqo_167 0 6 (by decide) (kb_of ke_L_riffle 10 rfl) (kb_of ke_L_riffle 11 rfl) (kb_of ke_L_riffle 12 rfl)
theorem dL_riffle_13 : decode cL_riffle 13 = .ok (.astore_n 3, 1) := dqo_78 (kb_of ke_L_riffle 13 rfl)
theorem dL_riffle_14 : decode cL_riffle 14 = .ok (.iconst 1, 1) := dqo_4 (kb_of ke_L_riffle 14 rfl)
theorem dL_riffle_15 : decode cL_riffle 15 = .ok (.ireturn, 1) := dqo_172 (kb_of ke_L_riffle 15 rfl)
theorem dL_riffle_16 : decode cL_riffle 16 = .ok (.iconst 0, 1) := dqo_3 (kb_of ke_L_riffle 16 rfl)
theorem dL_riffle_17 : decode cL_riffle 17 = .ok (.ireturn, 1) := dqo_172 (kb_of ke_L_riffle 17 rfl)
theorem qcw_L_riffle : Cond.codeWith yL_riffle cL_riffle 4 (some .int) [(0, 10, 13, 19)] ∈ GW := gw_4 119 rfl rfl
theorem pk_L_riffle : PkH yL_riffle cL_riffle 4 (some .int) [(0, 10, 13, 19)] 3 := ⟨⟨qt_L_riffle, qz_L, qcw_L_riffle⟩, mh_L.1, mh_L.2, pd_48⟩
theorem pk_X2_riffle : PkV RX2 yX2_riffle cX2_riffle 2 (some .int) 1 := ⟨⟨qi_X2_riffle, qs_X2_riffle, qz_X2, qc_X2_riffle⟩, rfl, mh_X2.1, mh_X2.2, pd_1⟩
theorem W_riffle {l : Launch} {D : va_G} {cy : Nat → ClassId} {X : (Nat → Prop) → State → Heap → Prop} {a : Nat → Nat → Nat} {ba ra : Nat → Nat} {f : Nat → Nat → Nat} {r : Nat → Nat → Int32} {hf : Nat → Nat → Nat} {hq : Nat → Nat → Int32} {kn th : Int32} {sm : Int64} {o : Nat} {n0 : Int64} {s0 : Value} {x0 : Int32} (hX : EnvX X) (hN : EnvN X) (hC : CInv f) (hB : RB r) (hM : MR f r hf hq) (hp : PR l D cy X a ba ra f r hf hq kn th sm yX2_riffle cX2_riffle 2 (some .int) yX4_riffle cX4_riffle 5 (some .int) (rmk 9 4 48 420) [.int x0] [("java/lang/IndexOutOfBoundsException", 1)]) : CmH l D cy X yL_riffle cL_riffle 4 (some .int) [(0, 10, 13, 19)] (rmk 9 1 6 300) [.ref (a 0 0), .int x0, .ref o] (WC cy a f r kn ++ (WM cy ba ra hf hq kn th sm ++ [OUTo o n0 s0])) (fun v1 w1 => ∃ (f' : Nat → Nat → Nat) (r' : Nat → Nat → Int32) (k : Nat) (n1 : Int64), v1 = some (.int (nI k)) ∧ w1 = WC cy a f' r' kn ++ (WM cy ba ra hf hq kn th sm ++ [OUTo o n1 s0]) ∧ PN l D cy X ba ra hf hq kn th sm yX4_riffle cX4_riffle 5 (some .int) (rmk 9 4 48 420) [.int x0] cvI f' r' k n1) (fun _ => False) := by
  refine CmH.of [some (.ref (a 0 0)), some (.int x0), some (.ref o), none] pn_L rfl (Nat.le_of_ble_eq_true rfl) ?_
  intro p e s m args below meth c A C hE hr hnt
  refine r_aload_n C dL_riffle_0 rfl ?_
  refine r_aload_n C dL_riffle_1 rfl ?_
  refine r_iload_n C dL_riffle_2 rfl ?_
  rcases hp.two cvI (by simp) hC hB hM with ⟨E, k, hm, h1, h2⟩ | ⟨f', r', n, h1, h2⟩
  · refine c_V (st := [.ref o]) hX.stb C hE (h1 _) pk_X2_riffle qm_L_52 0 6 rfl rfl wc_0 rfl rfl (Nat.le_of_ble_eq_true rfl) dL_riffle_3 ⟨(Nat.le_of_ble_eq_true rfl), (Nat.le_of_ble_eq_true rfl)⟩ ⟨(Nat.le_of_ble_eq_true rfl), (Nat.le_of_ble_eq_true rfl)⟩ (fun _ _ h9 => h9.elim) (fun E1 hE1 => ?_)
    subst hE1
    simp only [List.mem_cons, List.not_mem_nil, or_false, Prod.mk.injEq] at hm
    obtain ⟨rfl, rfl⟩ := hm
    refine r_catch (name := "java/lang/IndexOutOfBoundsException") C [] ⟨0, 10, 13, 19⟩ [] (hnt.trans rfl) (fun z hz => absurd hz List.not_mem_nil) rfl (by decide) (C.2.2.2.2.1 _ qk_L_19) (hX.nw qca_IOB rfl hE) (fun q => ?_)
    refine r_astore_n C dL_riffle_13 (by decide) rfl ?_
    refine r_iconst (v := nI 1) C dL_riffle_14 (by decide) ?_
    exact r_iret C hr dL_riffle_15 ⟨_, _, _, _, rfl, rfl, h2 _⟩ (Nat.le_of_ble_eq_true rfl) (Nat.le_of_ble_eq_true rfl)
  · refine c_V (st := [.ref o]) hX.stb C hE (h1 _) pk_X2_riffle qm_L_52 0 6 rfl rfl wc_0 rfl rfl (Nat.le_of_ble_eq_true rfl) dL_riffle_3 ⟨(Nat.le_of_ble_eq_true rfl), (Nat.le_of_ble_eq_true rfl)⟩ ⟨(Nat.le_of_ble_eq_true rfl), (Nat.le_of_ble_eq_true rfl)⟩ (fun v9 w9 h9 => ?_) (fun _ h9 => h9.elim)
    obtain ⟨rfl, rfl⟩ := h9
    refine r_i2l C dL_riffle_6 ?_
    refine g_putN hX C hE qu_X3 tyX3 tyX3_ok nmX3 (ci := 7) rfl 38 outo_at 0 (by decide) qn_L_13 rfl rfl (ty := .long) rfl rfl rfl (show 0 < 2 by omega) dL_riffle_7 outo_set ?_
    refine r_goto (tgt := 16) C dL_riffle_10 (by decide) ?_
    refine r_iconst (v := nI 0) C dL_riffle_16 (by decide) ?_
    exact r_iret C hr dL_riffle_17 ⟨_, _, _, _, rfl, rfl, h2⟩ (Nat.le_of_ble_eq_true rfl) (Nat.le_of_ble_eq_true rfl)
theorem dL_unriffle_0 : decode cL_unriffle 0 = .ok (.aload_n 2, 1) := dqo_44 (kb_of ke_L_unriffle 0 rfl)
theorem dL_unriffle_1 : decode cL_unriffle 1 = .ok (.aload_n 0, 1) := dqo_42 (kb_of ke_L_unriffle 1 rfl)
theorem dL_unriffle_2 : decode cL_unriffle 2 = .ok (.iload_n 1, 1) := dqo_27 (kb_of ke_L_unriffle 2 rfl)
theorem dL_unriffle_3 : decode cL_unriffle 3 = .ok (.invokevirtual 55, 3) := dqo_182 0 55 (kb_of ke_L_unriffle 3 rfl) (kb_of ke_L_unriffle 4 rfl) (kb_of ke_L_unriffle 5 rfl)
theorem dL_unriffle_6 : decode cL_unriffle 6 = .ok (.i2l, 1) := dqo_133 (kb_of ke_L_unriffle 6 rfl)
theorem dL_unriffle_7 : decode cL_unriffle 7 = .ok (.putfield 13, 3) := dqo_181 0 13 (kb_of ke_L_unriffle 7 rfl) (kb_of ke_L_unriffle 8 rfl) (kb_of ke_L_unriffle 9 rfl)
theorem dL_unriffle_10 : decode cL_unriffle 10 = .ok (.goto 6, 3) := dqo_167 0 6 (by decide) (kb_of ke_L_unriffle 10 rfl) (kb_of ke_L_unriffle 11 rfl) (kb_of ke_L_unriffle 12 rfl)
theorem dL_unriffle_13 : decode cL_unriffle 13 = .ok (.astore_n 3, 1) := dqo_78 (kb_of ke_L_unriffle 13 rfl)
theorem dL_unriffle_14 : decode cL_unriffle 14 = .ok (.iconst 1, 1) := dqo_4 (kb_of ke_L_unriffle 14 rfl)
theorem dL_unriffle_15 : decode cL_unriffle 15 = .ok (.ireturn, 1) := dqo_172 (kb_of ke_L_unriffle 15 rfl)
theorem dL_unriffle_16 : decode cL_unriffle 16 = .ok (.iconst 0, 1) := dqo_3 (kb_of ke_L_unriffle 16 rfl)
theorem dL_unriffle_17 : decode cL_unriffle 17 = .ok (.ireturn, 1) := dqo_172 (kb_of ke_L_unriffle 17 rfl)
theorem qcw_L_unriffle : Cond.codeWith yL_unriffle cL_unriffle 4 (some .int) [(0, 10, 13, 19)] ∈ GW := gw_4 126 rfl rfl
theorem pk_L_unriffle : PkH yL_unriffle cL_unriffle 4 (some .int) [(0, 10, 13, 19)] 3 := ⟨⟨qt_L_unriffle, qz_L, qcw_L_unriffle⟩, mh_L.1, mh_L.2, pd_48⟩
theorem pk_X2_unriffle : PkV RX2 yX2_unriffle cX2_unriffle 2 (some .int) 1 := ⟨⟨qi_X2_unriffle, qs_X2_unriffle, qz_X2, qc_X2_unriffle⟩, rfl, mh_X2.1, mh_X2.2, pd_1⟩
theorem W_unriffle {l : Launch} {D : va_G} {cy : Nat → ClassId} {X : (Nat → Prop) → State → Heap → Prop} {a : Nat → Nat → Nat} {ba ra : Nat → Nat} {f : Nat → Nat → Nat} {r : Nat → Nat → Int32} {hf : Nat → Nat → Nat} {hq : Nat → Nat → Int32} {kn th : Int32} {sm : Int64} {o : Nat} {n0 : Int64} {s0 : Value} {x0 : Int32} (hX : EnvX X) (hN : EnvN X) (hC : CInv f) (hB : RB r) (hM : MR f r hf hq) (hp : PR l D cy X a ba ra f r hf hq kn th sm yX2_unriffle cX2_unriffle 2 (some .int) yX4_unriffle cX4_unriffle 5 (some .int) (rmk 9 4 48 420) [.int x0] [("java/lang/IndexOutOfBoundsException", 1)]) : CmH l D cy X yL_unriffle cL_unriffle 4 (some .int) [(0, 10, 13, 19)] (rmk 9 1 6 300) [.ref (a 0 0), .int x0, .ref o] (WC cy a f r kn ++ (WM cy ba ra hf hq kn th sm ++ [OUTo o n0 s0])) (fun v1 w1 => ∃ (f' : Nat → Nat → Nat) (r' : Nat → Nat → Int32) (k : Nat) (n1 : Int64), v1 = some (.int (nI k)) ∧ w1 = WC cy a f' r' kn ++ (WM cy ba ra hf hq kn th sm ++ [OUTo o n1 s0]) ∧ PN l D cy X ba ra hf hq kn th sm yX4_unriffle cX4_unriffle 5 (some .int) (rmk 9 4 48 420) [.int x0] cvI f' r' k n1) (fun _ => False) := by
  refine CmH.of [some (.ref (a 0 0)), some (.int x0), some (.ref o), none] pn_L rfl (Nat.le_of_ble_eq_true rfl) ?_
  intro p e s m args below meth c A C hE hr hnt
  refine r_aload_n C dL_unriffle_0 rfl ?_
  refine r_aload_n C dL_unriffle_1 rfl ?_
  refine r_iload_n C dL_unriffle_2 rfl ?_
  rcases hp.two cvI (by simp) hC hB hM with ⟨E, k, hm, h1, h2⟩ | ⟨f', r', n, h1, h2⟩
  · refine c_V (st := [.ref o]) hX.stb C hE (h1 _) pk_X2_unriffle qm_L_55 0 6 rfl rfl wc_0 rfl rfl (Nat.le_of_ble_eq_true rfl) dL_unriffle_3 ⟨(Nat.le_of_ble_eq_true rfl), (Nat.le_of_ble_eq_true rfl)⟩ ⟨(Nat.le_of_ble_eq_true rfl), (Nat.le_of_ble_eq_true rfl)⟩ (fun _ _ h9 => h9.elim) (fun E1 hE1 => ?_)
    subst hE1
    simp only [List.mem_cons, List.not_mem_nil, or_false, Prod.mk.injEq] at hm
    obtain ⟨rfl, rfl⟩ := hm
    refine r_catch (name := "java/lang/IndexOutOfBoundsException") C [] ⟨0, 10, 13, 19⟩ [] (hnt.trans rfl) (fun z hz => absurd hz List.not_mem_nil) rfl (by decide) (C.2.2.2.2.1 _ qk_L_19) (hX.nw qca_IOB rfl hE) (fun q => ?_)
    refine r_astore_n C dL_unriffle_13 (by decide) rfl ?_
    refine r_iconst (v := nI 1) C dL_unriffle_14 (by decide) ?_
    exact r_iret C hr dL_unriffle_15 ⟨_, _, _, _, rfl, rfl, h2 _⟩ (Nat.le_of_ble_eq_true rfl) (Nat.le_of_ble_eq_true rfl)
  · refine c_V (st := [.ref o]) hX.stb C hE (h1 _) pk_X2_unriffle qm_L_55 0 6 rfl rfl wc_0 rfl rfl (Nat.le_of_ble_eq_true rfl) dL_unriffle_3 ⟨(Nat.le_of_ble_eq_true rfl), (Nat.le_of_ble_eq_true rfl)⟩ ⟨(Nat.le_of_ble_eq_true rfl), (Nat.le_of_ble_eq_true rfl)⟩ (fun v9 w9 h9 => ?_) (fun _ h9 => h9.elim)
    obtain ⟨rfl, rfl⟩ := h9
    refine r_i2l C dL_unriffle_6 ?_
    refine g_putN hX C hE qu_X3 tyX3 tyX3_ok nmX3 (ci := 7) rfl 38 outo_at 0 (by decide) qn_L_13 rfl rfl (ty := .long) rfl rfl rfl (show 0 < 2 by omega) dL_unriffle_7 outo_set ?_
    refine r_goto (tgt := 16) C dL_unriffle_10 (by decide) ?_
    refine r_iconst (v := nI 0) C dL_unriffle_16 (by decide) ?_
    exact r_iret C hr dL_unriffle_17 ⟨_, _, _, _, rfl, rfl, h2⟩ (Nat.le_of_ble_eq_true rfl) (Nat.le_of_ble_eq_true rfl)
theorem dL_sort_0 : decode cL_sort 0 = .ok (.aload_n 2, 1) := dqo_44 (kb_of ke_L_sort 0 rfl)
theorem dL_sort_1 : decode cL_sort 1 = .ok (.aload_n 0, 1) := dqo_42 (kb_of ke_L_sort 1 rfl)
theorem dL_sort_2 : decode cL_sort 2 = .ok (.iload_n 1, 1) := dqo_27 (kb_of ke_L_sort 2 rfl)
theorem dL_sort_3 : decode cL_sort 3 = .ok (.invokevirtual 58, 3) := dqo_182 0 58 (kb_of ke_L_sort 3 rfl) (kb_of ke_L_sort 4 rfl) (kb_of ke_L_sort 5 rfl)
theorem dL_sort_6 : decode cL_sort 6 = .ok (.i2l, 1) := dqo_133 (kb_of ke_L_sort 6 rfl)
theorem dL_sort_7 : decode cL_sort 7 = .ok (.putfield 13, 3) := dqo_181 0 13 (kb_of ke_L_sort 7 rfl) (kb_of ke_L_sort 8 rfl) (kb_of ke_L_sort 9 rfl)
theorem dL_sort_10 : decode cL_sort 10 = .ok (.goto 6, 3) := dqo_167 0 6 (by decide) (kb_of ke_L_sort 10 rfl) (kb_of ke_L_sort 11 rfl) (kb_of ke_L_sort 12 rfl)
theorem dL_sort_13 : decode cL_sort 13 = .ok (.astore_n 3, 1) := dqo_78 (kb_of ke_L_sort 13 rfl)
theorem dL_sort_14 : decode cL_sort 14 = .ok (.iconst 1, 1) := dqo_4 (kb_of ke_L_sort 14 rfl)
theorem dL_sort_15 : decode cL_sort 15 = .ok (.ireturn, 1) := dqo_172 (kb_of ke_L_sort 15 rfl)
theorem dL_sort_16 : decode cL_sort 16 = .ok (.iconst 0, 1) := dqo_3 (kb_of ke_L_sort 16 rfl)
theorem dL_sort_17 : decode cL_sort 17 = .ok (.ireturn, 1) := dqo_172 (kb_of ke_L_sort 17 rfl)
theorem qcw_L_sort : Cond.codeWith yL_sort cL_sort 4 (some .int) [(0, 10, 13, 19)] ∈ GW := gw_4 133 rfl rfl
theorem pk_L_sort : PkH yL_sort cL_sort 4 (some .int) [(0, 10, 13, 19)] 3 := ⟨⟨qt_L_sort, qz_L, qcw_L_sort⟩, mh_L.1, mh_L.2, pd_48⟩
theorem pk_X2_sort : PkV RX2 yX2_sort cX2_sort 2 (some .int) 1 := ⟨⟨qi_X2_sort, qs_X2_sort, qz_X2, qc_X2_sort⟩, rfl, mh_X2.1, mh_X2.2, pd_1⟩
theorem W_sort {l : Launch} {D : va_G} {cy : Nat → ClassId} {X : (Nat → Prop) → State → Heap → Prop} {a : Nat → Nat → Nat} {ba ra : Nat → Nat} {f : Nat → Nat → Nat} {r : Nat → Nat → Int32} {hf : Nat → Nat → Nat} {hq : Nat → Nat → Int32} {kn th : Int32} {sm : Int64} {o : Nat} {n0 : Int64} {s0 : Value} {x0 : Int32} (hX : EnvX X) (hN : EnvN X) (hC : CInv f) (hB : RB r) (hM : MR f r hf hq) (hp : PR l D cy X a ba ra f r hf hq kn th sm yX2_sort cX2_sort 2 (some .int) yX4_sort cX4_sort 2 (some .int) (rmk 9 4 48 420) [.int x0] [("java/lang/IndexOutOfBoundsException", 1)]) : CmH l D cy X yL_sort cL_sort 4 (some .int) [(0, 10, 13, 19)] (rmk 9 1 6 300) [.ref (a 0 0), .int x0, .ref o] (WC cy a f r kn ++ (WM cy ba ra hf hq kn th sm ++ [OUTo o n0 s0])) (fun v1 w1 => ∃ (f' : Nat → Nat → Nat) (r' : Nat → Nat → Int32) (k : Nat) (n1 : Int64), v1 = some (.int (nI k)) ∧ w1 = WC cy a f' r' kn ++ (WM cy ba ra hf hq kn th sm ++ [OUTo o n1 s0]) ∧ PN l D cy X ba ra hf hq kn th sm yX4_sort cX4_sort 2 (some .int) (rmk 9 4 48 420) [.int x0] cvI f' r' k n1) (fun _ => False) := by
  refine CmH.of [some (.ref (a 0 0)), some (.int x0), some (.ref o), none] pn_L rfl (Nat.le_of_ble_eq_true rfl) ?_
  intro p e s m args below meth c A C hE hr hnt
  refine r_aload_n C dL_sort_0 rfl ?_
  refine r_aload_n C dL_sort_1 rfl ?_
  refine r_iload_n C dL_sort_2 rfl ?_
  rcases hp.two cvI (by simp) hC hB hM with ⟨E, k, hm, h1, h2⟩ | ⟨f', r', n, h1, h2⟩
  · refine c_V (st := [.ref o]) hX.stb C hE (h1 _) pk_X2_sort qm_L_58 0 6 rfl rfl wc_0 rfl rfl (Nat.le_of_ble_eq_true rfl) dL_sort_3 ⟨(Nat.le_of_ble_eq_true rfl), (Nat.le_of_ble_eq_true rfl)⟩ ⟨(Nat.le_of_ble_eq_true rfl), (Nat.le_of_ble_eq_true rfl)⟩ (fun _ _ h9 => h9.elim) (fun E1 hE1 => ?_)
    subst hE1
    simp only [List.mem_cons, List.not_mem_nil, or_false, Prod.mk.injEq] at hm
    obtain ⟨rfl, rfl⟩ := hm
    refine r_catch (name := "java/lang/IndexOutOfBoundsException") C [] ⟨0, 10, 13, 19⟩ [] (hnt.trans rfl) (fun z hz => absurd hz List.not_mem_nil) rfl (by decide) (C.2.2.2.2.1 _ qk_L_19) (hX.nw qca_IOB rfl hE) (fun q => ?_)
    refine r_astore_n C dL_sort_13 (by decide) rfl ?_
    refine r_iconst (v := nI 1) C dL_sort_14 (by decide) ?_
    exact r_iret C hr dL_sort_15 ⟨_, _, _, _, rfl, rfl, h2 _⟩ (Nat.le_of_ble_eq_true rfl) (Nat.le_of_ble_eq_true rfl)
  · refine c_V (st := [.ref o]) hX.stb C hE (h1 _) pk_X2_sort qm_L_58 0 6 rfl rfl wc_0 rfl rfl (Nat.le_of_ble_eq_true rfl) dL_sort_3 ⟨(Nat.le_of_ble_eq_true rfl), (Nat.le_of_ble_eq_true rfl)⟩ ⟨(Nat.le_of_ble_eq_true rfl), (Nat.le_of_ble_eq_true rfl)⟩ (fun v9 w9 h9 => ?_) (fun _ h9 => h9.elim)
    obtain ⟨rfl, rfl⟩ := h9
    refine r_i2l C dL_sort_6 ?_
    refine g_putN hX C hE qu_X3 tyX3 tyX3_ok nmX3 (ci := 7) rfl 38 outo_at 0 (by decide) qn_L_13 rfl rfl (ty := .long) rfl rfl rfl (show 0 < 2 by omega) dL_sort_7 outo_set ?_
    refine r_goto (tgt := 16) C dL_sort_10 (by decide) ?_
    refine r_iconst (v := nI 0) C dL_sort_16 (by decide) ?_
    exact r_iret C hr dL_sort_17 ⟨_, _, _, _, rfl, rfl, h2⟩ (Nat.le_of_ble_eq_true rfl) (Nat.le_of_ble_eq_true rfl)
