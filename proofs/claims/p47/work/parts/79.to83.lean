/-! ===== 79.wrap1 -/
section PT_79
/-! THE LAW'S WRAPPERS, 1 -/
theorem dL_add_0 : decode cL_add 0 = .ok (.aload_n 3, 1) := dqo_45 (kb_of ke_L_add 0 rfl)
theorem dL_add_1 : decode cL_add 1 = .ok (.aload_n 0, 1) := dqo_42 (kb_of ke_L_add 1 rfl)
theorem dL_add_2 : decode cL_add 2 = .ok (.iload_n 1, 1) := dqo_27 (kb_of ke_L_add 2 rfl)
theorem dL_add_3 : decode cL_add 3 = .ok (.iload_n 2, 1) := dqo_28 (kb_of ke_L_add 3 rfl)
theorem dL_add_4 : decode cL_add 4 = .ok (.invokevirtual 7, 3) := dqo_182 0 7 (kb_of ke_L_add 4 rfl) (kb_of ke_L_add 5 rfl) (kb_of ke_L_add 6 rfl)
theorem dL_add_7 : decode cL_add 7 = .ok (.i2l, 1) := dqo_133 (kb_of ke_L_add 7 rfl)
theorem dL_add_8 : decode cL_add 8 = .ok (.putfield 13, 3) := dqo_181 0 13 (kb_of ke_L_add 8 rfl) (kb_of ke_L_add 9 rfl) (kb_of ke_L_add 10 rfl)
theorem dL_add_11 : decode cL_add 11 = .ok (.goto 15, 3) := dqo_167 0 15 (by decide) (kb_of ke_L_add 11 rfl) (kb_of ke_L_add 12 rfl) (kb_of ke_L_add 13 rfl)
theorem dL_add_14 : decode cL_add 14 = .ok (.astore 4, 2) := dqo_58 4 (kb_of ke_L_add 14 rfl) (kb_of ke_L_add 15 rfl)
theorem dL_add_16 : decode cL_add 16 = .ok (.iconst 1, 1) := dqo_4 (kb_of ke_L_add 16 rfl)
theorem dL_add_17 : decode cL_add 17 = .ok (.ireturn, 1) := dqo_172 (kb_of ke_L_add 17 rfl)
theorem dL_add_18 : decode cL_add 18 = .ok (.astore 4, 2) := dqo_58 4 (kb_of ke_L_add 18 rfl) (kb_of ke_L_add 19 rfl)
theorem dL_add_20 : decode cL_add 20 = .ok (.iconst 2, 1) := dqo_5 (kb_of ke_L_add 20 rfl)
theorem dL_add_21 : decode cL_add 21 = .ok (.ireturn, 1) := dqo_172 (kb_of ke_L_add 21 rfl)
theorem dL_add_22 : decode cL_add 22 = .ok (.astore 4, 2) := dqo_58 4 (kb_of ke_L_add 22 rfl) (kb_of ke_L_add 23 rfl)
theorem dL_add_24 : decode cL_add 24 = .ok (.iconst 3, 1) := dqo_6 (kb_of ke_L_add 24 rfl)
theorem dL_add_25 : decode cL_add 25 = .ok (.ireturn, 1) := dqo_172 (kb_of ke_L_add 25 rfl)
theorem dL_add_26 : decode cL_add 26 = .ok (.iconst 0, 1) := dqo_3 (kb_of ke_L_add 26 rfl)
theorem dL_add_27 : decode cL_add 27 = .ok (.ireturn, 1) := dqo_172 (kb_of ke_L_add 27 rfl)
theorem qcw_L_add : Cond.codeWith yL_add cL_add 5 (some .int) [(0, 11, 14, 19), (0, 11, 18, 21), (0, 11, 22, 23)] ∈ GW := gw_3 219 rfl rfl
theorem pk_L_add : PkH yL_add cL_add 5 (some .int) [(0, 11, 14, 19), (0, 11, 18, 21), (0, 11, 22, 23)] 4 := ⟨⟨qt_L_add, qz_L, qcw_L_add⟩, mh_L.1, mh_L.2, pd_46⟩
theorem pk_X2_add : PkV RX2 yX2_add cX2_add 3 (some .int) 2 := ⟨⟨qi_X2_add, qs_X2_add, qz_X2, qc_X2_add⟩, rfl, mh_X2.1, mh_X2.2, pd_0⟩
theorem W_add {l : Launch} {D : va_G} {cy : Nat → ClassId} {X : (Nat → Prop) → State → Heap → Prop} {a : Nat → Nat → Nat} {ba ra : Nat → Nat} {f : Nat → Nat → Nat} {r : Nat → Nat → Int32} {hf : Nat → Nat → Nat} {hq : Nat → Nat → Int32} {kn th : Int32} {sm : Int64} {o : Nat} {n0 : Int64} {s0 : Value} {x0 x1 : Int32} (hX : EnvX X) (hN : EnvN X) (hC : CInv f) (hB : RB r) (hM : MR f r hf hq) (hp : PR l D cy X a ba ra f r hf hq kn th sm yX2_add cX2_add 3 (some .int) yX4_add cX4_add 3 (some .int) (rmk 9 4 48 420) [.int x0, .int x1] [("java/lang/IndexOutOfBoundsException", 1), ("java/lang/IllegalArgumentException", 2), ("java/lang/IllegalStateException", 3)]) : CmH l D cy X yL_add cL_add 5 (some .int) [(0, 11, 14, 19), (0, 11, 18, 21), (0, 11, 22, 23)] (rmk 9 1 6 300) [.ref (a 0 0), .int x0, .int x1, .ref o] (WC cy a f r kn ++ (WM cy ba ra hf hq kn th sm ++ [OUTo o n0 s0])) (fun v1 w1 => ∃ (f' : Nat → Nat → Nat) (r' : Nat → Nat → Int32) (k : Nat) (n1 : Int64), v1 = some (.int (nI k)) ∧ w1 = WC cy a f' r' kn ++ (WM cy ba ra hf hq kn th sm ++ [OUTo o n1 s0]) ∧ PN l D cy X ba ra hf hq kn th sm yX4_add cX4_add 3 (some .int) (rmk 9 4 48 420) [.int x0, .int x1] cvI f' r' k n1) (fun _ => False) := by
  refine CmH.of [some (.ref (a 0 0)), some (.int x0), some (.int x1), some (.ref o), none] pn_L rfl (Nat.le_of_ble_eq_true rfl) ?_
  intro p e s m args below meth c A C hE hr hnt
  refine r_aload_n C dL_add_0 rfl ?_
  refine r_aload_n C dL_add_1 rfl ?_
  refine r_iload_n C dL_add_2 rfl ?_
  refine r_iload_n C dL_add_3 rfl ?_
  rcases hp.two cvI (by simp) hC hB hM with ⟨E, k, hm, h1, h2⟩ | ⟨f', r', n, h1, h2⟩
  · refine c_V (st := [.ref o]) hX.stb C hE (h1 _) pk_X2_add qm_L_7 0 6 rfl rfl wc_0 rfl rfl (Nat.le_of_ble_eq_true rfl) dL_add_4 ⟨(Nat.le_of_ble_eq_true rfl), (Nat.le_of_ble_eq_true rfl)⟩ ⟨(Nat.le_of_ble_eq_true rfl), (Nat.le_of_ble_eq_true rfl)⟩ (fun _ _ h9 => h9.elim) (fun E1 hE1 => ?_)
    subst hE1
    simp only [List.mem_cons, List.not_mem_nil, or_false, Prod.mk.injEq] at hm
    rcases hm with ⟨rfl, rfl⟩ | ⟨rfl, rfl⟩ | ⟨rfl, rfl⟩
    · refine r_catch (name := "java/lang/IndexOutOfBoundsException") C [] ⟨0, 11, 14, 19⟩ [⟨0, 11, 18, 21⟩, ⟨0, 11, 22, 23⟩] (hnt.trans rfl) (fun z hz => absurd hz List.not_mem_nil) rfl (by decide) (C.2.2.2.2.1 _ qk_L_19) (hX.nw qca_IOB rfl hE) (fun q => ?_)
      refine r_astore C dL_add_14 (by decide) rfl ?_
      refine r_iconst (v := nI 1) C dL_add_16 (by decide) ?_
      exact r_iret C hr dL_add_17 ⟨_, _, _, _, rfl, rfl, h2 _⟩ (Nat.le_of_ble_eq_true rfl) (Nat.le_of_ble_eq_true rfl)
    · refine r_catch (name := "java/lang/IllegalArgumentException") C [⟨0, 11, 14, 19⟩] ⟨0, 11, 18, 21⟩ [⟨0, 11, 22, 23⟩] (hnt.trans rfl) (fun z hz => by
        simp only [List.mem_cons, List.not_mem_nil, or_false] at hz
        subst hz
        exact Or.inr ⟨by decide, "java/lang/IndexOutOfBoundsException", C.2.2.2.2.1 _ qk_L_19, hN ("java/lang/IllegalArgumentException", "java/lang/IndexOutOfBoundsException") (by simp [NCL]) _ _ _ hE⟩) rfl (by decide) (C.2.2.2.2.1 _ qk_L_21) (hX.nw qca_IAE rfl hE) (fun q => ?_)
      refine r_astore C dL_add_18 (by decide) rfl ?_
      refine r_iconst (v := nI 2) C dL_add_20 (by decide) ?_
      exact r_iret C hr dL_add_21 ⟨_, _, _, _, rfl, rfl, h2 _⟩ (Nat.le_of_ble_eq_true rfl) (Nat.le_of_ble_eq_true rfl)
    · refine r_catch (name := "java/lang/IllegalStateException") C [⟨0, 11, 14, 19⟩, ⟨0, 11, 18, 21⟩] ⟨0, 11, 22, 23⟩ [] (hnt.trans rfl) (fun z hz => by
        simp only [List.mem_cons, List.not_mem_nil, or_false] at hz
        rcases hz with rfl | rfl
        · exact Or.inr ⟨by decide, "java/lang/IndexOutOfBoundsException", C.2.2.2.2.1 _ qk_L_19, hN ("java/lang/IllegalStateException", "java/lang/IndexOutOfBoundsException") (by simp [NCL]) _ _ _ hE⟩
        · exact Or.inr ⟨by decide, "java/lang/IllegalArgumentException", C.2.2.2.2.1 _ qk_L_21, hN ("java/lang/IllegalStateException", "java/lang/IllegalArgumentException") (by simp [NCL]) _ _ _ hE⟩) rfl (by decide) (C.2.2.2.2.1 _ qk_L_23) (hX.nw qca_ISE rfl hE) (fun q => ?_)
      refine r_astore C dL_add_22 (by decide) rfl ?_
      refine r_iconst (v := nI 3) C dL_add_24 (by decide) ?_
      exact r_iret C hr dL_add_25 ⟨_, _, _, _, rfl, rfl, h2 _⟩ (Nat.le_of_ble_eq_true rfl) (Nat.le_of_ble_eq_true rfl)
  · refine c_V (st := [.ref o]) hX.stb C hE (h1 _) pk_X2_add qm_L_7 0 6 rfl rfl wc_0 rfl rfl (Nat.le_of_ble_eq_true rfl) dL_add_4 ⟨(Nat.le_of_ble_eq_true rfl), (Nat.le_of_ble_eq_true rfl)⟩ ⟨(Nat.le_of_ble_eq_true rfl), (Nat.le_of_ble_eq_true rfl)⟩ (fun v9 w9 h9 => ?_) (fun _ h9 => h9.elim)
    obtain ⟨rfl, rfl⟩ := h9
    refine r_i2l C dL_add_7 ?_
    refine g_putN hX C hE qu_X3 tyX3 tyX3_ok nmX3 (ci := 7) rfl 38 outo_at 0 (by decide) qn_L_13 rfl rfl (ty := .long) rfl rfl rfl (show 0 < 2 by omega) dL_add_8 outo_set ?_
    refine r_goto (tgt := 26) C dL_add_11 (by decide) ?_
    refine r_iconst (v := nI 0) C dL_add_26 (by decide) ?_
    exact r_iret C hr dL_add_27 ⟨_, _, _, _, rfl, rfl, h2⟩ (Nat.le_of_ble_eq_true rfl) (Nat.le_of_ble_eq_true rfl)
theorem dL_insert_0 : decode cL_insert 0 = .ok (.aload 4, 2) := dqo_25 4 (kb_of ke_L_insert 0 rfl) (kb_of ke_L_insert 1 rfl)
theorem dL_insert_2 : decode cL_insert 2 = .ok (.aload_n 0, 1) := dqo_42 (kb_of ke_L_insert 2 rfl)
theorem dL_insert_3 : decode cL_insert 3 = .ok (.iload_n 1, 1) := dqo_27 (kb_of ke_L_insert 3 rfl)
theorem dL_insert_4 : decode cL_insert 4 = .ok (.iload_n 2, 1) := dqo_28 (kb_of ke_L_insert 4 rfl)
theorem dL_insert_5 : decode cL_insert 5 = .ok (.iload_n 3, 1) := dqo_29 (kb_of ke_L_insert 5 rfl)
theorem dL_insert_6 : decode cL_insert 6 = .ok (.invokevirtual 25, 3) := dqo_182 0 25 (kb_of ke_L_insert 6 rfl) (kb_of ke_L_insert 7 rfl) (kb_of ke_L_insert 8 rfl)
theorem dL_insert_9 : decode cL_insert 9 = .ok (.i2l, 1) := dqo_133 (kb_of ke_L_insert 9 rfl)
theorem dL_insert_10 : decode cL_insert 10 = .ok (.putfield 13, 3) := dqo_181 0 13 (kb_of ke_L_insert 10 rfl) (kb_of ke_L_insert 11 rfl) (kb_of ke_L_insert 12 rfl)
theorem dL_insert_13 : decode cL_insert 13 = .ok (.goto 15, 3) := dqo_167 0 15 (by decide) (kb_of ke_L_insert 13 rfl) (kb_of ke_L_insert 14 rfl) (kb_of ke_L_insert 15 rfl)
theorem dL_insert_16 : decode cL_insert 16 = .ok (.astore 5, 2) := dqo_58 5 (kb_of ke_L_insert 16 rfl) (kb_of ke_L_insert 17 rfl)
theorem dL_insert_18 : decode cL_insert 18 = .ok (.iconst 1, 1) := dqo_4 (kb_of ke_L_insert 18 rfl)
theorem dL_insert_19 : decode cL_insert 19 = .ok (.ireturn, 1) := dqo_172 (kb_of ke_L_insert 19 rfl)
theorem dL_insert_20 : decode cL_insert 20 = .ok (.astore 5, 2) := dqo_58 5 (kb_of ke_L_insert 20 rfl) (kb_of ke_L_insert 21 rfl)
theorem dL_insert_22 : decode cL_insert 22 = .ok (.iconst 2, 1) := dqo_5 (kb_of ke_L_insert 22 rfl)
theorem dL_insert_23 : decode cL_insert 23 = .ok (.ireturn, 1) := dqo_172 (kb_of ke_L_insert 23 rfl)
theorem dL_insert_24 : decode cL_insert 24 = .ok (.astore 5, 2) := dqo_58 5 (kb_of ke_L_insert 24 rfl) (kb_of ke_L_insert 25 rfl)
theorem dL_insert_26 : decode cL_insert 26 = .ok (.iconst 3, 1) := dqo_6 (kb_of ke_L_insert 26 rfl)
theorem dL_insert_27 : decode cL_insert 27 = .ok (.ireturn, 1) := dqo_172 (kb_of ke_L_insert 27 rfl)
theorem dL_insert_28 : decode cL_insert 28 = .ok (.iconst 0, 1) := dqo_3 (kb_of ke_L_insert 28 rfl)
theorem dL_insert_29 : decode cL_insert 29 = .ok (.ireturn, 1) := dqo_172 (kb_of ke_L_insert 29 rfl)
theorem qcw_L_insert : Cond.codeWith yL_insert cL_insert 6 (some .int) [(0, 13, 16, 19), (0, 13, 20, 21), (0, 13, 24, 23)] ∈ GW := gw_4 39 rfl rfl
theorem pk_L_insert : PkH yL_insert cL_insert 6 (some .int) [(0, 13, 16, 19), (0, 13, 20, 21), (0, 13, 24, 23)] 5 := ⟨⟨qt_L_insert, qz_L, qcw_L_insert⟩, mh_L.1, mh_L.2, pd_47⟩
theorem pk_X2_insert : PkV RX2 yX2_insert cX2_insert 4 (some .int) 3 := ⟨⟨qi_X2_insert, qs_X2_insert, qz_X2, qc_X2_insert⟩, rfl, mh_X2.1, mh_X2.2, pd_28⟩
theorem W_insert {l : Launch} {D : va_G} {cy : Nat → ClassId} {X : (Nat → Prop) → State → Heap → Prop} {a : Nat → Nat → Nat} {ba ra : Nat → Nat} {f : Nat → Nat → Nat} {r : Nat → Nat → Int32} {hf : Nat → Nat → Nat} {hq : Nat → Nat → Int32} {kn th : Int32} {sm : Int64} {o : Nat} {n0 : Int64} {s0 : Value} {x0 x1 x2 : Int32} (hX : EnvX X) (hN : EnvN X) (hC : CInv f) (hB : RB r) (hM : MR f r hf hq) (hp : PR l D cy X a ba ra f r hf hq kn th sm yX2_insert cX2_insert 4 (some .int) yX4_insert cX4_insert 4 (some .int) (rmk 9 4 48 420) [.int x0, .int x1, .int x2] [("java/lang/IndexOutOfBoundsException", 1), ("java/lang/IllegalArgumentException", 2), ("java/lang/IllegalStateException", 3)]) : CmH l D cy X yL_insert cL_insert 6 (some .int) [(0, 13, 16, 19), (0, 13, 20, 21), (0, 13, 24, 23)] (rmk 9 1 6 300) [.ref (a 0 0), .int x0, .int x1, .int x2, .ref o] (WC cy a f r kn ++ (WM cy ba ra hf hq kn th sm ++ [OUTo o n0 s0])) (fun v1 w1 => ∃ (f' : Nat → Nat → Nat) (r' : Nat → Nat → Int32) (k : Nat) (n1 : Int64), v1 = some (.int (nI k)) ∧ w1 = WC cy a f' r' kn ++ (WM cy ba ra hf hq kn th sm ++ [OUTo o n1 s0]) ∧ PN l D cy X ba ra hf hq kn th sm yX4_insert cX4_insert 4 (some .int) (rmk 9 4 48 420) [.int x0, .int x1, .int x2] cvI f' r' k n1) (fun _ => False) := by
  refine CmH.of [some (.ref (a 0 0)), some (.int x0), some (.int x1), some (.int x2), some (.ref o), none] pn_L rfl (Nat.le_of_ble_eq_true rfl) ?_
  intro p e s m args below meth c A C hE hr hnt
  refine r_aload C dL_insert_0 rfl ?_
  refine r_aload_n C dL_insert_2 rfl ?_
  refine r_iload_n C dL_insert_3 rfl ?_
  refine r_iload_n C dL_insert_4 rfl ?_
  refine r_iload_n C dL_insert_5 rfl ?_
  rcases hp.two cvI (by simp) hC hB hM with ⟨E, k, hm, h1, h2⟩ | ⟨f', r', n, h1, h2⟩
  · refine c_V (st := [.ref o]) hX.stb C hE (h1 _) pk_X2_insert qm_L_25 0 6 rfl rfl wc_0 rfl rfl (Nat.le_of_ble_eq_true rfl) dL_insert_6 ⟨(Nat.le_of_ble_eq_true rfl), (Nat.le_of_ble_eq_true rfl)⟩ ⟨(Nat.le_of_ble_eq_true rfl), (Nat.le_of_ble_eq_true rfl)⟩ (fun _ _ h9 => h9.elim) (fun E1 hE1 => ?_)
    subst hE1
    simp only [List.mem_cons, List.not_mem_nil, or_false, Prod.mk.injEq] at hm
    rcases hm with ⟨rfl, rfl⟩ | ⟨rfl, rfl⟩ | ⟨rfl, rfl⟩
    · refine r_catch (name := "java/lang/IndexOutOfBoundsException") C [] ⟨0, 13, 16, 19⟩ [⟨0, 13, 20, 21⟩, ⟨0, 13, 24, 23⟩] (hnt.trans rfl) (fun z hz => absurd hz List.not_mem_nil) rfl (by decide) (C.2.2.2.2.1 _ qk_L_19) (hX.nw qca_IOB rfl hE) (fun q => ?_)
      refine r_astore C dL_insert_16 (by decide) rfl ?_
      refine r_iconst (v := nI 1) C dL_insert_18 (by decide) ?_
      exact r_iret C hr dL_insert_19 ⟨_, _, _, _, rfl, rfl, h2 _⟩ (Nat.le_of_ble_eq_true rfl) (Nat.le_of_ble_eq_true rfl)
    · refine r_catch (name := "java/lang/IllegalArgumentException") C [⟨0, 13, 16, 19⟩] ⟨0, 13, 20, 21⟩ [⟨0, 13, 24, 23⟩] (hnt.trans rfl) (fun z hz => by
        simp only [List.mem_cons, List.not_mem_nil, or_false] at hz
        subst hz
        exact Or.inr ⟨by decide, "java/lang/IndexOutOfBoundsException", C.2.2.2.2.1 _ qk_L_19, hN ("java/lang/IllegalArgumentException", "java/lang/IndexOutOfBoundsException") (by simp [NCL]) _ _ _ hE⟩) rfl (by decide) (C.2.2.2.2.1 _ qk_L_21) (hX.nw qca_IAE rfl hE) (fun q => ?_)
      refine r_astore C dL_insert_20 (by decide) rfl ?_
      refine r_iconst (v := nI 2) C dL_insert_22 (by decide) ?_
      exact r_iret C hr dL_insert_23 ⟨_, _, _, _, rfl, rfl, h2 _⟩ (Nat.le_of_ble_eq_true rfl) (Nat.le_of_ble_eq_true rfl)
    · refine r_catch (name := "java/lang/IllegalStateException") C [⟨0, 13, 16, 19⟩, ⟨0, 13, 20, 21⟩] ⟨0, 13, 24, 23⟩ [] (hnt.trans rfl) (fun z hz => by
        simp only [List.mem_cons, List.not_mem_nil, or_false] at hz
        rcases hz with rfl | rfl
        · exact Or.inr ⟨by decide, "java/lang/IndexOutOfBoundsException", C.2.2.2.2.1 _ qk_L_19, hN ("java/lang/IllegalStateException", "java/lang/IndexOutOfBoundsException") (by simp [NCL]) _ _ _ hE⟩
        · exact Or.inr ⟨by decide, "java/lang/IllegalArgumentException", C.2.2.2.2.1 _ qk_L_21, hN ("java/lang/IllegalStateException", "java/lang/IllegalArgumentException") (by simp [NCL]) _ _ _ hE⟩) rfl (by decide) (C.2.2.2.2.1 _ qk_L_23) (hX.nw qca_ISE rfl hE) (fun q => ?_)
      refine r_astore C dL_insert_24 (by decide) rfl ?_
      refine r_iconst (v := nI 3) C dL_insert_26 (by decide) ?_
      exact r_iret C hr dL_insert_27 ⟨_, _, _, _, rfl, rfl, h2 _⟩ (Nat.le_of_ble_eq_true rfl) (Nat.le_of_ble_eq_true rfl)
  · refine c_V (st := [.ref o]) hX.stb C hE (h1 _) pk_X2_insert qm_L_25 0 6 rfl rfl wc_0 rfl rfl (Nat.le_of_ble_eq_true rfl) dL_insert_6 ⟨(Nat.le_of_ble_eq_true rfl), (Nat.le_of_ble_eq_true rfl)⟩ ⟨(Nat.le_of_ble_eq_true rfl), (Nat.le_of_ble_eq_true rfl)⟩ (fun v9 w9 h9 => ?_) (fun _ h9 => h9.elim)
    obtain ⟨rfl, rfl⟩ := h9
    refine r_i2l C dL_insert_9 ?_
    refine g_putN hX C hE qu_X3 tyX3 tyX3_ok nmX3 (ci := 7) rfl 38 outo_at 0 (by decide) qn_L_13 rfl rfl (ty := .long) rfl rfl rfl (show 0 < 2 by omega) dL_insert_10 outo_set ?_
    refine r_goto (tgt := 28) C dL_insert_13 (by decide) ?_
    refine r_iconst (v := nI 0) C dL_insert_28 (by decide) ?_
    exact r_iret C hr dL_insert_29 ⟨_, _, _, _, rfl, rfl, h2⟩ (Nat.le_of_ble_eq_true rfl) (Nat.le_of_ble_eq_true rfl)
theorem dL_set_0 : decode cL_set 0 = .ok (.aload 4, 2) := dqo_25 4 (kb_of ke_L_set 0 rfl) (kb_of ke_L_set 1 rfl)
theorem dL_set_2 : decode cL_set 2 = .ok (.aload_n 0, 1) := dqo_42 (kb_of ke_L_set 2 rfl)
theorem dL_set_3 : decode cL_set 3 = .ok (.iload_n 1, 1) := dqo_27 (kb_of ke_L_set 3 rfl)
theorem dL_set_4 : decode cL_set 4 = .ok (.iload_n 2, 1) := dqo_28 (kb_of ke_L_set 4 rfl)
theorem dL_set_5 : decode cL_set 5 = .ok (.iload_n 3, 1) := dqo_29 (kb_of ke_L_set 5 rfl)
theorem dL_set_6 : decode cL_set 6 = .ok (.invokevirtual 29, 3) := dqo_182 0 29 (kb_of ke_L_set 6 rfl) (kb_of ke_L_set 7 rfl) (kb_of ke_L_set 8 rfl)
theorem dL_set_9 : decode cL_set 9 = .ok (.i2l, 1) := dqo_133 (kb_of ke_L_set 9 rfl)
theorem dL_set_10 : decode cL_set 10 = .ok (.putfield 13, 3) := dqo_181 0 13 (kb_of ke_L_set 10 rfl) (kb_of ke_L_set 11 rfl) (kb_of ke_L_set 12 rfl)
theorem dL_set_13 : decode cL_set 13 = .ok (.goto 11, 3) := dqo_167 0 11 (by decide) (kb_of ke_L_set 13 rfl) (kb_of ke_L_set 14 rfl) (kb_of ke_L_set 15 rfl)
theorem dL_set_16 : decode cL_set 16 = .ok (.astore 5, 2) := dqo_58 5 (kb_of ke_L_set 16 rfl) (kb_of ke_L_set 17 rfl)
theorem dL_set_18 : decode cL_set 18 = .ok (.iconst 1, 1) := dqo_4 (kb_of ke_L_set 18 rfl)
theorem dL_set_19 : decode cL_set 19 = .ok (.ireturn, 1) := dqo_172 (kb_of ke_L_set 19 rfl)
theorem dL_set_20 : decode cL_set 20 = .ok (.astore 5, 2) := dqo_58 5 (kb_of ke_L_set 20 rfl) (kb_of ke_L_set 21 rfl)
theorem dL_set_22 : decode cL_set 22 = .ok (.iconst 2, 1) := dqo_5 (kb_of ke_L_set 22 rfl)
theorem dL_set_23 : decode cL_set 23 = .ok (.ireturn, 1) := dqo_172 (kb_of ke_L_set 23 rfl)
theorem dL_set_24 : decode cL_set 24 = .ok (.iconst 0, 1) := dqo_3 (kb_of ke_L_set 24 rfl)
theorem dL_set_25 : decode cL_set 25 = .ok (.ireturn, 1) := dqo_172 (kb_of ke_L_set 25 rfl)
theorem qcw_L_set : Cond.codeWith yL_set cL_set 6 (some .int) [(0, 13, 16, 19), (0, 13, 20, 21)] ∈ GW := gw_4 50 rfl rfl
theorem pk_L_set : PkH yL_set cL_set 6 (some .int) [(0, 13, 16, 19), (0, 13, 20, 21)] 5 := ⟨⟨qt_L_set, qz_L, qcw_L_set⟩, mh_L.1, mh_L.2, pd_47⟩
theorem pk_X2_set : PkV RX2 yX2_set cX2_set 5 (some .int) 3 := ⟨⟨qi_X2_set, qs_X2_set, qz_X2, qc_X2_set⟩, rfl, mh_X2.1, mh_X2.2, pd_28⟩
theorem W_set {l : Launch} {D : va_G} {cy : Nat → ClassId} {X : (Nat → Prop) → State → Heap → Prop} {a : Nat → Nat → Nat} {ba ra : Nat → Nat} {f : Nat → Nat → Nat} {r : Nat → Nat → Int32} {hf : Nat → Nat → Nat} {hq : Nat → Nat → Int32} {kn th : Int32} {sm : Int64} {o : Nat} {n0 : Int64} {s0 : Value} {x0 x1 x2 : Int32} (hX : EnvX X) (hN : EnvN X) (hC : CInv f) (hB : RB r) (hM : MR f r hf hq) (hp : PR l D cy X a ba ra f r hf hq kn th sm yX2_set cX2_set 5 (some .int) yX4_set cX4_set 5 (some .int) (rmk 9 4 48 420) [.int x0, .int x1, .int x2] [("java/lang/IndexOutOfBoundsException", 1), ("java/lang/IllegalArgumentException", 2)]) : CmH l D cy X yL_set cL_set 6 (some .int) [(0, 13, 16, 19), (0, 13, 20, 21)] (rmk 9 1 6 300) [.ref (a 0 0), .int x0, .int x1, .int x2, .ref o] (WC cy a f r kn ++ (WM cy ba ra hf hq kn th sm ++ [OUTo o n0 s0])) (fun v1 w1 => ∃ (f' : Nat → Nat → Nat) (r' : Nat → Nat → Int32) (k : Nat) (n1 : Int64), v1 = some (.int (nI k)) ∧ w1 = WC cy a f' r' kn ++ (WM cy ba ra hf hq kn th sm ++ [OUTo o n1 s0]) ∧ PN l D cy X ba ra hf hq kn th sm yX4_set cX4_set 5 (some .int) (rmk 9 4 48 420) [.int x0, .int x1, .int x2] cvI f' r' k n1) (fun _ => False) := by
  refine CmH.of [some (.ref (a 0 0)), some (.int x0), some (.int x1), some (.int x2), some (.ref o), none] pn_L rfl (Nat.le_of_ble_eq_true rfl) ?_
  intro p e s m args below meth c A C hE hr hnt
  refine r_aload C dL_set_0 rfl ?_
  refine r_aload_n C dL_set_2 rfl ?_
  refine r_iload_n C dL_set_3 rfl ?_
  refine r_iload_n C dL_set_4 rfl ?_
  refine r_iload_n C dL_set_5 rfl ?_
  rcases hp.two cvI (by simp) hC hB hM with ⟨E, k, hm, h1, h2⟩ | ⟨f', r', n, h1, h2⟩
  · refine c_V (st := [.ref o]) hX.stb C hE (h1 _) pk_X2_set qm_L_29 0 6 rfl rfl wc_0 rfl rfl (Nat.le_of_ble_eq_true rfl) dL_set_6 ⟨(Nat.le_of_ble_eq_true rfl), (Nat.le_of_ble_eq_true rfl)⟩ ⟨(Nat.le_of_ble_eq_true rfl), (Nat.le_of_ble_eq_true rfl)⟩ (fun _ _ h9 => h9.elim) (fun E1 hE1 => ?_)
    subst hE1
    simp only [List.mem_cons, List.not_mem_nil, or_false, Prod.mk.injEq] at hm
    rcases hm with ⟨rfl, rfl⟩ | ⟨rfl, rfl⟩
    · refine r_catch (name := "java/lang/IndexOutOfBoundsException") C [] ⟨0, 13, 16, 19⟩ [⟨0, 13, 20, 21⟩] (hnt.trans rfl) (fun z hz => absurd hz List.not_mem_nil) rfl (by decide) (C.2.2.2.2.1 _ qk_L_19) (hX.nw qca_IOB rfl hE) (fun q => ?_)
      refine r_astore C dL_set_16 (by decide) rfl ?_
      refine r_iconst (v := nI 1) C dL_set_18 (by decide) ?_
      exact r_iret C hr dL_set_19 ⟨_, _, _, _, rfl, rfl, h2 _⟩ (Nat.le_of_ble_eq_true rfl) (Nat.le_of_ble_eq_true rfl)
    · refine r_catch (name := "java/lang/IllegalArgumentException") C [⟨0, 13, 16, 19⟩] ⟨0, 13, 20, 21⟩ [] (hnt.trans rfl) (fun z hz => by
        simp only [List.mem_cons, List.not_mem_nil, or_false] at hz
        subst hz
        exact Or.inr ⟨by decide, "java/lang/IndexOutOfBoundsException", C.2.2.2.2.1 _ qk_L_19, hN ("java/lang/IllegalArgumentException", "java/lang/IndexOutOfBoundsException") (by simp [NCL]) _ _ _ hE⟩) rfl (by decide) (C.2.2.2.2.1 _ qk_L_21) (hX.nw qca_IAE rfl hE) (fun q => ?_)
      refine r_astore C dL_set_20 (by decide) rfl ?_
      refine r_iconst (v := nI 2) C dL_set_22 (by decide) ?_
      exact r_iret C hr dL_set_23 ⟨_, _, _, _, rfl, rfl, h2 _⟩ (Nat.le_of_ble_eq_true rfl) (Nat.le_of_ble_eq_true rfl)
  · refine c_V (st := [.ref o]) hX.stb C hE (h1 _) pk_X2_set qm_L_29 0 6 rfl rfl wc_0 rfl rfl (Nat.le_of_ble_eq_true rfl) dL_set_6 ⟨(Nat.le_of_ble_eq_true rfl), (Nat.le_of_ble_eq_true rfl)⟩ ⟨(Nat.le_of_ble_eq_true rfl), (Nat.le_of_ble_eq_true rfl)⟩ (fun v9 w9 h9 => ?_) (fun _ h9 => h9.elim)
    obtain ⟨rfl, rfl⟩ := h9
    refine r_i2l C dL_set_9 ?_
    refine g_putN hX C hE qu_X3 tyX3 tyX3_ok nmX3 (ci := 7) rfl 38 outo_at 0 (by decide) qn_L_13 rfl rfl (ty := .long) rfl rfl rfl (show 0 < 2 by omega) dL_set_10 outo_set ?_
    refine r_goto (tgt := 24) C dL_set_13 (by decide) ?_
    refine r_iconst (v := nI 0) C dL_set_24 (by decide) ?_
    exact r_iret C hr dL_set_25 ⟨_, _, _, _, rfl, rfl, h2⟩ (Nat.le_of_ble_eq_true rfl) (Nat.le_of_ble_eq_true rfl)
theorem dL_remove_0 : decode cL_remove 0 = .ok (.aload_n 3, 1) := dqo_45 (kb_of ke_L_remove 0 rfl)
theorem dL_remove_1 : decode cL_remove 1 = .ok (.aload_n 0, 1) := dqo_42 (kb_of ke_L_remove 1 rfl)
theorem dL_remove_2 : decode cL_remove 2 = .ok (.iload_n 1, 1) := dqo_27 (kb_of ke_L_remove 2 rfl)
theorem dL_remove_3 : decode cL_remove 3 = .ok (.iload_n 2, 1) := dqo_28 (kb_of ke_L_remove 3 rfl)
theorem dL_remove_4 : decode cL_remove 4 = .ok (.invokevirtual 32, 3) := dqo_182 0 32 (kb_of ke_L_remove 4 rfl) (kb_of ke_L_remove 5 rfl) (kb_of ke_L_remove 6 rfl)
theorem dL_remove_7 : decode cL_remove 7 = .ok (.i2l, 1) := dqo_133 (kb_of ke_L_remove 7 rfl)
theorem dL_remove_8 : decode cL_remove 8 = .ok (.putfield 13, 3) := dqo_181 0 13 (kb_of ke_L_remove 8 rfl) (kb_of ke_L_remove 9 rfl) (kb_of ke_L_remove 10 rfl)
theorem dL_remove_11 : decode cL_remove 11 = .ok (.goto 7, 3) := dqo_167 0 7 (by decide) (kb_of ke_L_remove 11 rfl) (kb_of ke_L_remove 12 rfl) (kb_of ke_L_remove 13 rfl)
theorem dL_remove_14 : decode cL_remove 14 = .ok (.astore 4, 2) := dqo_58 4 (kb_of ke_L_remove 14 rfl) (kb_of ke_L_remove 15 rfl)
theorem dL_remove_16 : decode cL_remove 16 = .ok (.iconst 1, 1) := dqo_4 (kb_of ke_L_remove 16 rfl)
theorem dL_remove_17 : decode cL_remove 17 = .ok (.ireturn, 1) := dqo_172 (kb_of ke_L_remove 17 rfl)
theorem dL_remove_18 : decode cL_remove 18 = .ok (.iconst 0, 1) := dqo_3 (kb_of ke_L_remove 18 rfl)
theorem dL_remove_19 : decode cL_remove 19 = .ok (.ireturn, 1) := dqo_172 (kb_of ke_L_remove 19 rfl)
theorem qcw_L_remove : Cond.codeWith yL_remove cL_remove 5 (some .int) [(0, 11, 14, 19)] ∈ GW := gw_4 63 rfl rfl
theorem pk_L_remove : PkH yL_remove cL_remove 5 (some .int) [(0, 11, 14, 19)] 4 := ⟨⟨qt_L_remove, qz_L, qcw_L_remove⟩, mh_L.1, mh_L.2, pd_46⟩
theorem pk_X2_remove : PkV RX2 yX2_remove cX2_remove 4 (some .int) 2 := ⟨⟨qi_X2_remove, qs_X2_remove, qz_X2, qc_X2_remove⟩, rfl, mh_X2.1, mh_X2.2, pd_0⟩
theorem W_remove {l : Launch} {D : va_G} {cy : Nat → ClassId} {X : (Nat → Prop) → State → Heap → Prop} {a : Nat → Nat → Nat} {ba ra : Nat → Nat} {f : Nat → Nat → Nat} {r : Nat → Nat → Int32} {hf : Nat → Nat → Nat} {hq : Nat → Nat → Int32} {kn th : Int32} {sm : Int64} {o : Nat} {n0 : Int64} {s0 : Value} {x0 x1 : Int32} (hX : EnvX X) (hN : EnvN X) (hC : CInv f) (hB : RB r) (hM : MR f r hf hq) (hp : PR l D cy X a ba ra f r hf hq kn th sm yX2_remove cX2_remove 4 (some .int) yX4_remove cX4_remove 4 (some .int) (rmk 9 4 48 420) [.int x0, .int x1] [("java/lang/IndexOutOfBoundsException", 1)]) : CmH l D cy X yL_remove cL_remove 5 (some .int) [(0, 11, 14, 19)] (rmk 9 1 6 300) [.ref (a 0 0), .int x0, .int x1, .ref o] (WC cy a f r kn ++ (WM cy ba ra hf hq kn th sm ++ [OUTo o n0 s0])) (fun v1 w1 => ∃ (f' : Nat → Nat → Nat) (r' : Nat → Nat → Int32) (k : Nat) (n1 : Int64), v1 = some (.int (nI k)) ∧ w1 = WC cy a f' r' kn ++ (WM cy ba ra hf hq kn th sm ++ [OUTo o n1 s0]) ∧ PN l D cy X ba ra hf hq kn th sm yX4_remove cX4_remove 4 (some .int) (rmk 9 4 48 420) [.int x0, .int x1] cvI f' r' k n1) (fun _ => False) := by
  refine CmH.of [some (.ref (a 0 0)), some (.int x0), some (.int x1), some (.ref o), none] pn_L rfl (Nat.le_of_ble_eq_true rfl) ?_
  intro p e s m args below meth c A C hE hr hnt
  refine r_aload_n C dL_remove_0 rfl ?_
  refine r_aload_n C dL_remove_1 rfl ?_
  refine r_iload_n C dL_remove_2 rfl ?_
  refine r_iload_n C dL_remove_3 rfl ?_
  rcases hp.two cvI (by simp) hC hB hM with ⟨E, k, hm, h1, h2⟩ | ⟨f', r', n, h1, h2⟩
  · refine c_V (st := [.ref o]) hX.stb C hE (h1 _) pk_X2_remove qm_L_32 0 6 rfl rfl wc_0 rfl rfl (Nat.le_of_ble_eq_true rfl) dL_remove_4 ⟨(Nat.le_of_ble_eq_true rfl), (Nat.le_of_ble_eq_true rfl)⟩ ⟨(Nat.le_of_ble_eq_true rfl), (Nat.le_of_ble_eq_true rfl)⟩ (fun _ _ h9 => h9.elim) (fun E1 hE1 => ?_)
    subst hE1
    simp only [List.mem_cons, List.not_mem_nil, or_false, Prod.mk.injEq] at hm
    obtain ⟨rfl, rfl⟩ := hm
    refine r_catch (name := "java/lang/IndexOutOfBoundsException") C [] ⟨0, 11, 14, 19⟩ [] (hnt.trans rfl) (fun z hz => absurd hz List.not_mem_nil) rfl (by decide) (C.2.2.2.2.1 _ qk_L_19) (hX.nw qca_IOB rfl hE) (fun q => ?_)
    refine r_astore C dL_remove_14 (by decide) rfl ?_
    refine r_iconst (v := nI 1) C dL_remove_16 (by decide) ?_
    exact r_iret C hr dL_remove_17 ⟨_, _, _, _, rfl, rfl, h2 _⟩ (Nat.le_of_ble_eq_true rfl) (Nat.le_of_ble_eq_true rfl)
  · refine c_V (st := [.ref o]) hX.stb C hE (h1 _) pk_X2_remove qm_L_32 0 6 rfl rfl wc_0 rfl rfl (Nat.le_of_ble_eq_true rfl) dL_remove_4 ⟨(Nat.le_of_ble_eq_true rfl), (Nat.le_of_ble_eq_true rfl)⟩ ⟨(Nat.le_of_ble_eq_true rfl), (Nat.le_of_ble_eq_true rfl)⟩ (fun v9 w9 h9 => ?_) (fun _ h9 => h9.elim)
    obtain ⟨rfl, rfl⟩ := h9
    refine r_i2l C dL_remove_7 ?_
    refine g_putN hX C hE qu_X3 tyX3 tyX3_ok nmX3 (ci := 7) rfl 38 outo_at 0 (by decide) qn_L_13 rfl rfl (ty := .long) rfl rfl rfl (show 0 < 2 by omega) dL_remove_8 outo_set ?_
    refine r_goto (tgt := 18) C dL_remove_11 (by decide) ?_
    refine r_iconst (v := nI 0) C dL_remove_18 (by decide) ?_
    exact r_iret C hr dL_remove_19 ⟨_, _, _, _, rfl, rfl, h2⟩ (Nat.le_of_ble_eq_true rfl) (Nat.le_of_ble_eq_true rfl)
theorem dL_clear_0 : decode cL_clear 0 = .ok (.aload_n 2, 1) := dqo_44 (kb_of ke_L_clear 0 rfl)
theorem dL_clear_1 : decode cL_clear 1 = .ok (.aload_n 0, 1) := dqo_42 (kb_of ke_L_clear 1 rfl)
theorem dL_clear_2 : decode cL_clear 2 = .ok (.iload_n 1, 1) := dqo_27 (kb_of ke_L_clear 2 rfl)
theorem dL_clear_3 : decode cL_clear 3 = .ok (.invokevirtual 35, 3) := dqo_182 0 35 (kb_of ke_L_clear 3 rfl) (kb_of ke_L_clear 4 rfl) (kb_of ke_L_clear 5 rfl)
theorem dL_clear_6 : decode cL_clear 6 = .ok (.i2l, 1) := dqo_133 (kb_of ke_L_clear 6 rfl)
theorem dL_clear_7 : decode cL_clear 7 = .ok (.putfield 13, 3) := dqo_181 0 13 (kb_of ke_L_clear 7 rfl) (kb_of ke_L_clear 8 rfl) (kb_of ke_L_clear 9 rfl)
theorem dL_clear_10 : decode cL_clear 10 = .ok (.goto 6, 3) := dqo_167 0 6 (by decide) (kb_of ke_L_clear 10 rfl) (kb_of ke_L_clear 11 rfl) (kb_of ke_L_clear 12 rfl)
theorem dL_clear_13 : decode cL_clear 13 = .ok (.astore_n 3, 1) := dqo_78 (kb_of ke_L_clear 13 rfl)
theorem dL_clear_14 : decode cL_clear 14 = .ok (.iconst 1, 1) := dqo_4 (kb_of ke_L_clear 14 rfl)
theorem dL_clear_15 : decode cL_clear 15 = .ok (.ireturn, 1) := dqo_172 (kb_of ke_L_clear 15 rfl)
theorem dL_clear_16 : decode cL_clear 16 = .ok (.iconst 0, 1) := dqo_3 (kb_of ke_L_clear 16 rfl)
theorem dL_clear_17 : decode cL_clear 17 = .ok (.ireturn, 1) := dqo_172 (kb_of ke_L_clear 17 rfl)
theorem qcw_L_clear : Cond.codeWith yL_clear cL_clear 4 (some .int) [(0, 10, 13, 19)] ∈ GW := gw_4 74 rfl rfl
theorem pk_L_clear : PkH yL_clear cL_clear 4 (some .int) [(0, 10, 13, 19)] 3 := ⟨⟨qt_L_clear, qz_L, qcw_L_clear⟩, mh_L.1, mh_L.2, pd_48⟩
theorem pk_X2_clear : PkV RX2 yX2_clear cX2_clear 3 (some .int) 1 := ⟨⟨qi_X2_clear, qs_X2_clear, qz_X2, qc_X2_clear⟩, rfl, mh_X2.1, mh_X2.2, pd_1⟩
theorem W_clear {l : Launch} {D : va_G} {cy : Nat → ClassId} {X : (Nat → Prop) → State → Heap → Prop} {a : Nat → Nat → Nat} {ba ra : Nat → Nat} {f : Nat → Nat → Nat} {r : Nat → Nat → Int32} {hf : Nat → Nat → Nat} {hq : Nat → Nat → Int32} {kn th : Int32} {sm : Int64} {o : Nat} {n0 : Int64} {s0 : Value} {x0 : Int32} (hX : EnvX X) (hN : EnvN X) (hC : CInv f) (hB : RB r) (hM : MR f r hf hq) (hp : PR l D cy X a ba ra f r hf hq kn th sm yX2_clear cX2_clear 3 (some .int) yX4_clear cX4_clear 3 (some .int) (rmk 9 4 48 420) [.int x0] [("java/lang/IndexOutOfBoundsException", 1)]) : CmH l D cy X yL_clear cL_clear 4 (some .int) [(0, 10, 13, 19)] (rmk 9 1 6 300) [.ref (a 0 0), .int x0, .ref o] (WC cy a f r kn ++ (WM cy ba ra hf hq kn th sm ++ [OUTo o n0 s0])) (fun v1 w1 => ∃ (f' : Nat → Nat → Nat) (r' : Nat → Nat → Int32) (k : Nat) (n1 : Int64), v1 = some (.int (nI k)) ∧ w1 = WC cy a f' r' kn ++ (WM cy ba ra hf hq kn th sm ++ [OUTo o n1 s0]) ∧ PN l D cy X ba ra hf hq kn th sm yX4_clear cX4_clear 3 (some .int) (rmk 9 4 48 420) [.int x0] cvI f' r' k n1) (fun _ => False) := by
  refine CmH.of [some (.ref (a 0 0)), some (.int x0), some (.ref o), none] pn_L rfl (Nat.le_of_ble_eq_true rfl) ?_
  intro p e s m args below meth c A C hE hr hnt
  refine r_aload_n C dL_clear_0 rfl ?_
  refine r_aload_n C dL_clear_1 rfl ?_
  refine r_iload_n C dL_clear_2 rfl ?_
  rcases hp.two cvI (by simp) hC hB hM with ⟨E, k, hm, h1, h2⟩ | ⟨f', r', n, h1, h2⟩
  · refine c_V (st := [.ref o]) hX.stb C hE (h1 _) pk_X2_clear qm_L_35 0 6 rfl rfl wc_0 rfl rfl (Nat.le_of_ble_eq_true rfl) dL_clear_3 ⟨(Nat.le_of_ble_eq_true rfl), (Nat.le_of_ble_eq_true rfl)⟩ ⟨(Nat.le_of_ble_eq_true rfl), (Nat.le_of_ble_eq_true rfl)⟩ (fun _ _ h9 => h9.elim) (fun E1 hE1 => ?_)
    subst hE1
    simp only [List.mem_cons, List.not_mem_nil, or_false, Prod.mk.injEq] at hm
    obtain ⟨rfl, rfl⟩ := hm
    refine r_catch (name := "java/lang/IndexOutOfBoundsException") C [] ⟨0, 10, 13, 19⟩ [] (hnt.trans rfl) (fun z hz => absurd hz List.not_mem_nil) rfl (by decide) (C.2.2.2.2.1 _ qk_L_19) (hX.nw qca_IOB rfl hE) (fun q => ?_)
    refine r_astore_n C dL_clear_13 (by decide) rfl ?_
    refine r_iconst (v := nI 1) C dL_clear_14 (by decide) ?_
    exact r_iret C hr dL_clear_15 ⟨_, _, _, _, rfl, rfl, h2 _⟩ (Nat.le_of_ble_eq_true rfl) (Nat.le_of_ble_eq_true rfl)
  · refine c_V (st := [.ref o]) hX.stb C hE (h1 _) pk_X2_clear qm_L_35 0 6 rfl rfl wc_0 rfl rfl (Nat.le_of_ble_eq_true rfl) dL_clear_3 ⟨(Nat.le_of_ble_eq_true rfl), (Nat.le_of_ble_eq_true rfl)⟩ ⟨(Nat.le_of_ble_eq_true rfl), (Nat.le_of_ble_eq_true rfl)⟩ (fun v9 w9 h9 => ?_) (fun _ h9 => h9.elim)
    obtain ⟨rfl, rfl⟩ := h9
    refine r_i2l C dL_clear_6 ?_
    refine g_putN hX C hE qu_X3 tyX3 tyX3_ok nmX3 (ci := 7) rfl 38 outo_at 0 (by decide) qn_L_13 rfl rfl (ty := .long) rfl rfl rfl (show 0 < 2 by omega) dL_clear_7 outo_set ?_
    refine r_goto (tgt := 16) C dL_clear_10 (by decide) ?_
    refine r_iconst (v := nI 0) C dL_clear_16 (by decide) ?_
    exact r_iret C hr dL_clear_17 ⟨_, _, _, _, rfl, rfl, h2⟩ (Nat.le_of_ble_eq_true rfl) (Nat.le_of_ble_eq_true rfl)
theorem dL_splice_0 : decode cL_splice 0 = .ok (.aload 5, 2) := dqo_25 5 (kb_of ke_L_splice 0 rfl) (kb_of ke_L_splice 1 rfl)
theorem dL_splice_2 : decode cL_splice 2 = .ok (.aload_n 0, 1) := dqo_42 (kb_of ke_L_splice 2 rfl)
theorem dL_splice_3 : decode cL_splice 3 = .ok (.iload_n 1, 1) := dqo_27 (kb_of ke_L_splice 3 rfl)
theorem dL_splice_4 : decode cL_splice 4 = .ok (.iload_n 2, 1) := dqo_28 (kb_of ke_L_splice 4 rfl)
theorem dL_splice_5 : decode cL_splice 5 = .ok (.iload_n 3, 1) := dqo_29 (kb_of ke_L_splice 5 rfl)
theorem dL_splice_6 : decode cL_splice 6 = .ok (.iload 4, 2) := dqo_21 4 (kb_of ke_L_splice 6 rfl) (kb_of ke_L_splice 7 rfl)
theorem dL_splice_8 : decode cL_splice 8 = .ok (.invokevirtual 39, 3) := dqo_182 0 39 (kb_of ke_L_splice 8 rfl) (kb_of ke_L_splice 9 rfl) (kb_of ke_L_splice 10 rfl)
theorem dL_splice_11 : decode cL_splice 11 = .ok (.i2l, 1) := dqo_133 (kb_of ke_L_splice 11 rfl)
theorem dL_splice_12 : decode cL_splice 12 = .ok (.putfield 13, 3) := dqo_181 0 13 (kb_of ke_L_splice 12 rfl) (kb_of ke_L_splice 13 rfl) (kb_of ke_L_splice 14 rfl)
theorem dL_splice_15 : decode cL_splice 15 = .ok (.goto 11, 3) := dqo_167 0 11 (by decide) (kb_of ke_L_splice 15 rfl) (kb_of ke_L_splice 16 rfl) (kb_of ke_L_splice 17 rfl)
theorem dL_splice_18 : decode cL_splice 18 = .ok (.astore 6, 2) := dqo_58 6 (kb_of ke_L_splice 18 rfl) (kb_of ke_L_splice 19 rfl)
theorem dL_splice_20 : decode cL_splice 20 = .ok (.iconst 1, 1) := dqo_4 (kb_of ke_L_splice 20 rfl)
theorem dL_splice_21 : decode cL_splice 21 = .ok (.ireturn, 1) := dqo_172 (kb_of ke_L_splice 21 rfl)
theorem dL_splice_22 : decode cL_splice 22 = .ok (.astore 6, 2) := dqo_58 6 (kb_of ke_L_splice 22 rfl) (kb_of ke_L_splice 23 rfl)
theorem dL_splice_24 : decode cL_splice 24 = .ok (.iconst 2, 1) := dqo_5 (kb_of ke_L_splice 24 rfl)
theorem dL_splice_25 : decode cL_splice 25 = .ok (.ireturn, 1) := dqo_172 (kb_of ke_L_splice 25 rfl)
theorem dL_splice_26 : decode cL_splice 26 = .ok (.iconst 0, 1) := dqo_3 (kb_of ke_L_splice 26 rfl)
theorem dL_splice_27 : decode cL_splice 27 = .ok (.ireturn, 1) := dqo_172 (kb_of ke_L_splice 27 rfl)
theorem qcw_L_splice : Cond.codeWith yL_splice cL_splice 7 (some .int) [(0, 15, 18, 19), (0, 15, 22, 23)] ∈ GW := gw_4 81 rfl rfl
theorem pk_L_splice : PkH yL_splice cL_splice 7 (some .int) [(0, 15, 18, 19), (0, 15, 22, 23)] 6 := ⟨⟨qt_L_splice, qz_L, qcw_L_splice⟩, mh_L.1, mh_L.2, pd_49⟩
theorem pk_X2_splice : PkV RX2 yX2_splice cX2_splice 7 (some .int) 4 := ⟨⟨qi_X2_splice, qs_X2_splice, qz_X2, qc_X2_splice⟩, rfl, mh_X2.1, mh_X2.2, pd_50⟩
theorem W_splice {l : Launch} {D : va_G} {cy : Nat → ClassId} {X : (Nat → Prop) → State → Heap → Prop} {a : Nat → Nat → Nat} {ba ra : Nat → Nat} {f : Nat → Nat → Nat} {r : Nat → Nat → Int32} {hf : Nat → Nat → Nat} {hq : Nat → Nat → Int32} {kn th : Int32} {sm : Int64} {o : Nat} {n0 : Int64} {s0 : Value} {x0 x1 x2 x3 : Int32} (hX : EnvX X) (hN : EnvN X) (hC : CInv f) (hB : RB r) (hM : MR f r hf hq) (hp : PR l D cy X a ba ra f r hf hq kn th sm yX2_splice cX2_splice 7 (some .int) yX4_splice cX4_splice 6 (some .int) (rmk 9 4 48 420) [.int x0, .int x1, .int x2, .int x3] [("java/lang/IndexOutOfBoundsException", 1), ("java/lang/IllegalStateException", 2)]) : CmH l D cy X yL_splice cL_splice 7 (some .int) [(0, 15, 18, 19), (0, 15, 22, 23)] (rmk 9 1 6 300) [.ref (a 0 0), .int x0, .int x1, .int x2, .int x3, .ref o] (WC cy a f r kn ++ (WM cy ba ra hf hq kn th sm ++ [OUTo o n0 s0])) (fun v1 w1 => ∃ (f' : Nat → Nat → Nat) (r' : Nat → Nat → Int32) (k : Nat) (n1 : Int64), v1 = some (.int (nI k)) ∧ w1 = WC cy a f' r' kn ++ (WM cy ba ra hf hq kn th sm ++ [OUTo o n1 s0]) ∧ PN l D cy X ba ra hf hq kn th sm yX4_splice cX4_splice 6 (some .int) (rmk 9 4 48 420) [.int x0, .int x1, .int x2, .int x3] cvI f' r' k n1) (fun _ => False) := by
  refine CmH.of [some (.ref (a 0 0)), some (.int x0), some (.int x1), some (.int x2), some (.int x3), some (.ref o), none] pn_L rfl (Nat.le_of_ble_eq_true rfl) ?_
  intro p e s m args below meth c A C hE hr hnt
  refine r_aload C dL_splice_0 rfl ?_
  refine r_aload_n C dL_splice_2 rfl ?_
  refine r_iload_n C dL_splice_3 rfl ?_
  refine r_iload_n C dL_splice_4 rfl ?_
  refine r_iload_n C dL_splice_5 rfl ?_
  refine r_iload C dL_splice_6 rfl ?_
  rcases hp.two cvI (by simp) hC hB hM with ⟨E, k, hm, h1, h2⟩ | ⟨f', r', n, h1, h2⟩
  · refine c_V (st := [.ref o]) hX.stb C hE (h1 _) pk_X2_splice qm_L_39 0 6 rfl rfl wc_0 rfl rfl (Nat.le_of_ble_eq_true rfl) dL_splice_8 ⟨(Nat.le_of_ble_eq_true rfl), (Nat.le_of_ble_eq_true rfl)⟩ ⟨(Nat.le_of_ble_eq_true rfl), (Nat.le_of_ble_eq_true rfl)⟩ (fun _ _ h9 => h9.elim) (fun E1 hE1 => ?_)
    subst hE1
    simp only [List.mem_cons, List.not_mem_nil, or_false, Prod.mk.injEq] at hm
    rcases hm with ⟨rfl, rfl⟩ | ⟨rfl, rfl⟩
    · refine r_catch (name := "java/lang/IndexOutOfBoundsException") C [] ⟨0, 15, 18, 19⟩ [⟨0, 15, 22, 23⟩] (hnt.trans rfl) (fun z hz => absurd hz List.not_mem_nil) rfl (by decide) (C.2.2.2.2.1 _ qk_L_19) (hX.nw qca_IOB rfl hE) (fun q => ?_)
      refine r_astore C dL_splice_18 (by decide) rfl ?_
      refine r_iconst (v := nI 1) C dL_splice_20 (by decide) ?_
      exact r_iret C hr dL_splice_21 ⟨_, _, _, _, rfl, rfl, h2 _⟩ (Nat.le_of_ble_eq_true rfl) (Nat.le_of_ble_eq_true rfl)
    · refine r_catch (name := "java/lang/IllegalStateException") C [⟨0, 15, 18, 19⟩] ⟨0, 15, 22, 23⟩ [] (hnt.trans rfl) (fun z hz => by
        simp only [List.mem_cons, List.not_mem_nil, or_false] at hz
        subst hz
        exact Or.inr ⟨by decide, "java/lang/IndexOutOfBoundsException", C.2.2.2.2.1 _ qk_L_19, hN ("java/lang/IllegalStateException", "java/lang/IndexOutOfBoundsException") (by simp [NCL]) _ _ _ hE⟩) rfl (by decide) (C.2.2.2.2.1 _ qk_L_23) (hX.nw qca_ISE rfl hE) (fun q => ?_)
      refine r_astore C dL_splice_22 (by decide) rfl ?_
      refine r_iconst (v := nI 2) C dL_splice_24 (by decide) ?_
      exact r_iret C hr dL_splice_25 ⟨_, _, _, _, rfl, rfl, h2 _⟩ (Nat.le_of_ble_eq_true rfl) (Nat.le_of_ble_eq_true rfl)
  · refine c_V (st := [.ref o]) hX.stb C hE (h1 _) pk_X2_splice qm_L_39 0 6 rfl rfl wc_0 rfl rfl (Nat.le_of_ble_eq_true rfl) dL_splice_8 ⟨(Nat.le_of_ble_eq_true rfl), (Nat.le_of_ble_eq_true rfl)⟩ ⟨(Nat.le_of_ble_eq_true rfl), (Nat.le_of_ble_eq_true rfl)⟩ (fun v9 w9 h9 => ?_) (fun _ h9 => h9.elim)
    obtain ⟨rfl, rfl⟩ := h9
    refine r_i2l C dL_splice_11 ?_
    refine g_putN hX C hE qu_X3 tyX3 tyX3_ok nmX3 (ci := 7) rfl 38 outo_at 0 (by decide) qn_L_13 rfl rfl (ty := .long) rfl rfl rfl (show 0 < 2 by omega) dL_splice_12 outo_set ?_
    refine r_goto (tgt := 26) C dL_splice_15 (by decide) ?_
    refine r_iconst (v := nI 0) C dL_splice_26 (by decide) ?_
    exact r_iret C hr dL_splice_27 ⟨_, _, _, _, rfl, rfl, h2⟩ (Nat.le_of_ble_eq_true rfl) (Nat.le_of_ble_eq_true rfl)
theorem dL_rotate_0 : decode cL_rotate 0 = .ok (.aload_n 3, 1) := dqo_45 (kb_of ke_L_rotate 0 rfl)
theorem dL_rotate_1 : decode cL_rotate 1 = .ok (.aload_n 0, 1) := dqo_42 (kb_of ke_L_rotate 1 rfl)
theorem dL_rotate_2 : decode cL_rotate 2 = .ok (.iload_n 1, 1) := dqo_27 (kb_of ke_L_rotate 2 rfl)
theorem dL_rotate_3 : decode cL_rotate 3 = .ok (.iload_n 2, 1) := dqo_28 (kb_of ke_L_rotate 3 rfl)
theorem dL_rotate_4 : decode cL_rotate 4 = .ok (.invokevirtual 43, 3) := dqo_182 0 43 (kb_of ke_L_rotate 4 rfl) (kb_of ke_L_rotate 5 rfl) (kb_of ke_L_rotate 6 rfl)
theorem dL_rotate_7 : decode cL_rotate 7 = .ok (.i2l, 1) := dqo_133 (kb_of ke_L_rotate 7 rfl)
theorem dL_rotate_8 : decode cL_rotate 8 = .ok (.putfield 13, 3) := dqo_181 0 13 (kb_of ke_L_rotate 8 rfl) (kb_of ke_L_rotate 9 rfl) (kb_of ke_L_rotate 10 rfl)
theorem dL_rotate_11 : decode cL_rotate 11 = .ok (.goto 11, 3) := dqo_167 0 11 (by decide) (kb_of ke_L_rotate 11 rfl) (kb_of ke_L_rotate 12 rfl) (kb_of ke_L_rotate 13 rfl)
theorem dL_rotate_14 : decode cL_rotate 14 = .ok (.astore 4, 2) := dqo_58 4 (kb_of ke_L_rotate 14 rfl) (kb_of ke_L_rotate 15 rfl)
theorem dL_rotate_16 : decode cL_rotate 16 = .ok (.iconst 1, 1) := dqo_4 (kb_of ke_L_rotate 16 rfl)
theorem dL_rotate_17 : decode cL_rotate 17 = .ok (.ireturn, 1) := dqo_172 (kb_of ke_L_rotate 17 rfl)
theorem dL_rotate_18 : decode cL_rotate 18 = .ok (.astore 4, 2) := dqo_58 4 (kb_of ke_L_rotate 18 rfl) (kb_of ke_L_rotate 19 rfl)
theorem dL_rotate_20 : decode cL_rotate 20 = .ok (.iconst 2, 1) := dqo_5 (kb_of ke_L_rotate 20 rfl)
theorem dL_rotate_21 : decode cL_rotate 21 = .ok (.ireturn, 1) := dqo_172 (kb_of ke_L_rotate 21 rfl)
theorem dL_rotate_22 : decode cL_rotate 22 = .ok (.iconst 0, 1) := dqo_3 (kb_of ke_L_rotate 22 rfl)
theorem dL_rotate_23 : decode cL_rotate 23 = .ok (.ireturn, 1) := dqo_172 (kb_of ke_L_rotate 23 rfl)
theorem qcw_L_rotate : Cond.codeWith yL_rotate cL_rotate 5 (some .int) [(0, 11, 14, 19), (0, 11, 18, 21)] ∈ GW := gw_4 92 rfl rfl
theorem pk_L_rotate : PkH yL_rotate cL_rotate 5 (some .int) [(0, 11, 14, 19), (0, 11, 18, 21)] 4 := ⟨⟨qt_L_rotate, qz_L, qcw_L_rotate⟩, mh_L.1, mh_L.2, pd_46⟩
theorem pk_X2_rotate : PkV RX2 yX2_rotate cX2_rotate 3 (some .int) 2 := ⟨⟨qi_X2_rotate, qs_X2_rotate, qz_X2, qc_X2_rotate⟩, rfl, mh_X2.1, mh_X2.2, pd_0⟩
theorem W_rotate {l : Launch} {D : va_G} {cy : Nat → ClassId} {X : (Nat → Prop) → State → Heap → Prop} {a : Nat → Nat → Nat} {ba ra : Nat → Nat} {f : Nat → Nat → Nat} {r : Nat → Nat → Int32} {hf : Nat → Nat → Nat} {hq : Nat → Nat → Int32} {kn th : Int32} {sm : Int64} {o : Nat} {n0 : Int64} {s0 : Value} {x0 x1 : Int32} (hX : EnvX X) (hN : EnvN X) (hC : CInv f) (hB : RB r) (hM : MR f r hf hq) (hp : PR l D cy X a ba ra f r hf hq kn th sm yX2_rotate cX2_rotate 3 (some .int) yX4_rotate cX4_rotate 6 (some .int) (rmk 9 4 48 420) [.int x0, .int x1] [("java/lang/IndexOutOfBoundsException", 1), ("java/lang/IllegalArgumentException", 2)]) : CmH l D cy X yL_rotate cL_rotate 5 (some .int) [(0, 11, 14, 19), (0, 11, 18, 21)] (rmk 9 1 6 300) [.ref (a 0 0), .int x0, .int x1, .ref o] (WC cy a f r kn ++ (WM cy ba ra hf hq kn th sm ++ [OUTo o n0 s0])) (fun v1 w1 => ∃ (f' : Nat → Nat → Nat) (r' : Nat → Nat → Int32) (k : Nat) (n1 : Int64), v1 = some (.int (nI k)) ∧ w1 = WC cy a f' r' kn ++ (WM cy ba ra hf hq kn th sm ++ [OUTo o n1 s0]) ∧ PN l D cy X ba ra hf hq kn th sm yX4_rotate cX4_rotate 6 (some .int) (rmk 9 4 48 420) [.int x0, .int x1] cvI f' r' k n1) (fun _ => False) := by
  refine CmH.of [some (.ref (a 0 0)), some (.int x0), some (.int x1), some (.ref o), none] pn_L rfl (Nat.le_of_ble_eq_true rfl) ?_
  intro p e s m args below meth c A C hE hr hnt
  refine r_aload_n C dL_rotate_0 rfl ?_
  refine r_aload_n C dL_rotate_1 rfl ?_
  refine r_iload_n C dL_rotate_2 rfl ?_
  refine r_iload_n C dL_rotate_3 rfl ?_
  rcases hp.two cvI (by simp) hC hB hM with ⟨E, k, hm, h1, h2⟩ | ⟨f', r', n, h1, h2⟩
  · refine c_V (st := [.ref o]) hX.stb C hE (h1 _) pk_X2_rotate qm_L_43 0 6 rfl rfl wc_0 rfl rfl (Nat.le_of_ble_eq_true rfl) dL_rotate_4 ⟨(Nat.le_of_ble_eq_true rfl), (Nat.le_of_ble_eq_true rfl)⟩ ⟨(Nat.le_of_ble_eq_true rfl), (Nat.le_of_ble_eq_true rfl)⟩ (fun _ _ h9 => h9.elim) (fun E1 hE1 => ?_)
    subst hE1
    simp only [List.mem_cons, List.not_mem_nil, or_false, Prod.mk.injEq] at hm
    rcases hm with ⟨rfl, rfl⟩ | ⟨rfl, rfl⟩
    · refine r_catch (name := "java/lang/IndexOutOfBoundsException") C [] ⟨0, 11, 14, 19⟩ [⟨0, 11, 18, 21⟩] (hnt.trans rfl) (fun z hz => absurd hz List.not_mem_nil) rfl (by decide) (C.2.2.2.2.1 _ qk_L_19) (hX.nw qca_IOB rfl hE) (fun q => ?_)
      refine r_astore C dL_rotate_14 (by decide) rfl ?_
      refine r_iconst (v := nI 1) C dL_rotate_16 (by decide) ?_
      exact r_iret C hr dL_rotate_17 ⟨_, _, _, _, rfl, rfl, h2 _⟩ (Nat.le_of_ble_eq_true rfl) (Nat.le_of_ble_eq_true rfl)
    · refine r_catch (name := "java/lang/IllegalArgumentException") C [⟨0, 11, 14, 19⟩] ⟨0, 11, 18, 21⟩ [] (hnt.trans rfl) (fun z hz => by
        simp only [List.mem_cons, List.not_mem_nil, or_false] at hz
        subst hz
        exact Or.inr ⟨by decide, "java/lang/IndexOutOfBoundsException", C.2.2.2.2.1 _ qk_L_19, hN ("java/lang/IllegalArgumentException", "java/lang/IndexOutOfBoundsException") (by simp [NCL]) _ _ _ hE⟩) rfl (by decide) (C.2.2.2.2.1 _ qk_L_21) (hX.nw qca_IAE rfl hE) (fun q => ?_)
      refine r_astore C dL_rotate_18 (by decide) rfl ?_
      refine r_iconst (v := nI 2) C dL_rotate_20 (by decide) ?_
      exact r_iret C hr dL_rotate_21 ⟨_, _, _, _, rfl, rfl, h2 _⟩ (Nat.le_of_ble_eq_true rfl) (Nat.le_of_ble_eq_true rfl)
  · refine c_V (st := [.ref o]) hX.stb C hE (h1 _) pk_X2_rotate qm_L_43 0 6 rfl rfl wc_0 rfl rfl (Nat.le_of_ble_eq_true rfl) dL_rotate_4 ⟨(Nat.le_of_ble_eq_true rfl), (Nat.le_of_ble_eq_true rfl)⟩ ⟨(Nat.le_of_ble_eq_true rfl), (Nat.le_of_ble_eq_true rfl)⟩ (fun v9 w9 h9 => ?_) (fun _ h9 => h9.elim)
    obtain ⟨rfl, rfl⟩ := h9
    refine r_i2l C dL_rotate_7 ?_
    refine g_putN hX C hE qu_X3 tyX3 tyX3_ok nmX3 (ci := 7) rfl 38 outo_at 0 (by decide) qn_L_13 rfl rfl (ty := .long) rfl rfl rfl (show 0 < 2 by omega) dL_rotate_8 outo_set ?_
    refine r_goto (tgt := 22) C dL_rotate_11 (by decide) ?_
    refine r_iconst (v := nI 0) C dL_rotate_22 (by decide) ?_
    exact r_iret C hr dL_rotate_23 ⟨_, _, _, _, rfl, rfl, h2⟩ (Nat.le_of_ble_eq_true rfl) (Nat.le_of_ble_eq_true rfl)
theorem dL_reverse_0 : decode cL_reverse 0 = .ok (.aload_n 2, 1) := dqo_44 (kb_of ke_L_reverse 0 rfl)
theorem dL_reverse_1 : decode cL_reverse 1 = .ok (.aload_n 0, 1) := dqo_42 (kb_of ke_L_reverse 1 rfl)
theorem dL_reverse_2 : decode cL_reverse 2 = .ok (.iload_n 1, 1) := dqo_27 (kb_of ke_L_reverse 2 rfl)
theorem dL_reverse_3 : decode cL_reverse 3 = .ok (.invokevirtual 46, 3) := dqo_182 0 46 (kb_of ke_L_reverse 3 rfl) (kb_of ke_L_reverse 4 rfl) (kb_of ke_L_reverse 5 rfl)
theorem dL_reverse_6 : decode cL_reverse 6 = .ok (.i2l, 1) := dqo_133 (kb_of ke_L_reverse 6 rfl)
theorem dL_reverse_7 : decode cL_reverse 7 = .ok (.putfield 13, 3) := dqo_181 0 13 (kb_of ke_L_reverse 7 rfl) (kb_of ke_L_reverse 8 rfl) (kb_of ke_L_reverse 9 rfl)
theorem dL_reverse_10 : decode cL_reverse 10 = .ok (.goto 6, 3) := dqo_167 0 6 (by decide) (kb_of ke_L_reverse 10 rfl) (kb_of ke_L_reverse 11 rfl) (kb_of ke_L_reverse 12 rfl)
theorem dL_reverse_13 : decode cL_reverse 13 = .ok (.astore_n 3, 1) := dqo_78 (kb_of ke_L_reverse 13 rfl)
theorem dL_reverse_14 : decode cL_reverse 14 = .ok (.iconst 1, 1) := dqo_4 (kb_of ke_L_reverse 14 rfl)
theorem dL_reverse_15 : decode cL_reverse 15 = .ok (.ireturn, 1) := dqo_172 (kb_of ke_L_reverse 15 rfl)
theorem dL_reverse_16 : decode cL_reverse 16 = .ok (.iconst 0, 1) := dqo_3 (kb_of ke_L_reverse 16 rfl)
theorem dL_reverse_17 : decode cL_reverse 17 = .ok (.ireturn, 1) := dqo_172 (kb_of ke_L_reverse 17 rfl)
theorem qcw_L_reverse : Cond.codeWith yL_reverse cL_reverse 4 (some .int) [(0, 10, 13, 19)] ∈ GW := gw_4 104 rfl rfl
theorem pk_L_reverse : PkH yL_reverse cL_reverse 4 (some .int) [(0, 10, 13, 19)] 3 := ⟨⟨qt_L_reverse, qz_L, qcw_L_reverse⟩, mh_L.1, mh_L.2, pd_48⟩
theorem pk_X2_reverse : PkV RX2 yX2_reverse cX2_reverse 2 (some .int) 1 := ⟨⟨qi_X2_reverse, qs_X2_reverse, qz_X2, qc_X2_reverse⟩, rfl, mh_X2.1, mh_X2.2, pd_1⟩
theorem W_reverse {l : Launch} {D : va_G} {cy : Nat → ClassId} {X : (Nat → Prop) → State → Heap → Prop} {a : Nat → Nat → Nat} {ba ra : Nat → Nat} {f : Nat → Nat → Nat} {r : Nat → Nat → Int32} {hf : Nat → Nat → Nat} {hq : Nat → Nat → Int32} {kn th : Int32} {sm : Int64} {o : Nat} {n0 : Int64} {s0 : Value} {x0 : Int32} (hX : EnvX X) (hN : EnvN X) (hC : CInv f) (hB : RB r) (hM : MR f r hf hq) (hp : PR l D cy X a ba ra f r hf hq kn th sm yX2_reverse cX2_reverse 2 (some .int) yX4_reverse cX4_reverse 2 (some .int) (rmk 9 4 48 420) [.int x0] [("java/lang/IndexOutOfBoundsException", 1)]) : CmH l D cy X yL_reverse cL_reverse 4 (some .int) [(0, 10, 13, 19)] (rmk 9 1 6 300) [.ref (a 0 0), .int x0, .ref o] (WC cy a f r kn ++ (WM cy ba ra hf hq kn th sm ++ [OUTo o n0 s0])) (fun v1 w1 => ∃ (f' : Nat → Nat → Nat) (r' : Nat → Nat → Int32) (k : Nat) (n1 : Int64), v1 = some (.int (nI k)) ∧ w1 = WC cy a f' r' kn ++ (WM cy ba ra hf hq kn th sm ++ [OUTo o n1 s0]) ∧ PN l D cy X ba ra hf hq kn th sm yX4_reverse cX4_reverse 2 (some .int) (rmk 9 4 48 420) [.int x0] cvI f' r' k n1) (fun _ => False) := by
  refine CmH.of [some (.ref (a 0 0)), some (.int x0), some (.ref o), none] pn_L rfl (Nat.le_of_ble_eq_true rfl) ?_
  intro p e s m args below meth c A C hE hr hnt
  refine r_aload_n C dL_reverse_0 rfl ?_
  refine r_aload_n C dL_reverse_1 rfl ?_
  refine r_iload_n C dL_reverse_2 rfl ?_
  rcases hp.two cvI (by simp) hC hB hM with ⟨E, k, hm, h1, h2⟩ | ⟨f', r', n, h1, h2⟩
  · refine c_V (st := [.ref o]) hX.stb C hE (h1 _) pk_X2_reverse qm_L_46 0 6 rfl rfl wc_0 rfl rfl (Nat.le_of_ble_eq_true rfl) dL_reverse_3 ⟨(Nat.le_of_ble_eq_true rfl), (Nat.le_of_ble_eq_true rfl)⟩ ⟨(Nat.le_of_ble_eq_true rfl), (Nat.le_of_ble_eq_true rfl)⟩ (fun _ _ h9 => h9.elim) (fun E1 hE1 => ?_)
    subst hE1
    simp only [List.mem_cons, List.not_mem_nil, or_false, Prod.mk.injEq] at hm
    obtain ⟨rfl, rfl⟩ := hm
    refine r_catch (name := "java/lang/IndexOutOfBoundsException") C [] ⟨0, 10, 13, 19⟩ [] (hnt.trans rfl) (fun z hz => absurd hz List.not_mem_nil) rfl (by decide) (C.2.2.2.2.1 _ qk_L_19) (hX.nw qca_IOB rfl hE) (fun q => ?_)
    refine r_astore_n C dL_reverse_13 (by decide) rfl ?_
    refine r_iconst (v := nI 1) C dL_reverse_14 (by decide) ?_
    exact r_iret C hr dL_reverse_15 ⟨_, _, _, _, rfl, rfl, h2 _⟩ (Nat.le_of_ble_eq_true rfl) (Nat.le_of_ble_eq_true rfl)
  · refine c_V (st := [.ref o]) hX.stb C hE (h1 _) pk_X2_reverse qm_L_46 0 6 rfl rfl wc_0 rfl rfl (Nat.le_of_ble_eq_true rfl) dL_reverse_3 ⟨(Nat.le_of_ble_eq_true rfl), (Nat.le_of_ble_eq_true rfl)⟩ ⟨(Nat.le_of_ble_eq_true rfl), (Nat.le_of_ble_eq_true rfl)⟩ (fun v9 w9 h9 => ?_) (fun _ h9 => h9.elim)
    obtain ⟨rfl, rfl⟩ := h9
    refine r_i2l C dL_reverse_6 ?_
    refine g_putN hX C hE qu_X3 tyX3 tyX3_ok nmX3 (ci := 7) rfl 38 outo_at 0 (by decide) qn_L_13 rfl rfl (ty := .long) rfl rfl rfl (show 0 < 2 by omega) dL_reverse_7 outo_set ?_
    refine r_goto (tgt := 16) C dL_reverse_10 (by decide) ?_
    refine r_iconst (v := nI 0) C dL_reverse_16 (by decide) ?_
    exact r_iret C hr dL_reverse_17 ⟨_, _, _, _, rfl, rfl, h2⟩ (Nat.le_of_ble_eq_true rfl) (Nat.le_of_ble_eq_true rfl)
theorem dL_swap_0 : decode cL_swap 0 = .ok (.aload 4, 2) := dqo_25 4 (kb_of ke_L_swap 0 rfl) (kb_of ke_L_swap 1 rfl)
theorem dL_swap_2 : decode cL_swap 2 = .ok (.aload_n 0, 1) := dqo_42 (kb_of ke_L_swap 2 rfl)
theorem dL_swap_3 : decode cL_swap 3 = .ok (.iload_n 1, 1) := dqo_27 (kb_of ke_L_swap 3 rfl)
theorem dL_swap_4 : decode cL_swap 4 = .ok (.iload_n 2, 1) := dqo_28 (kb_of ke_L_swap 4 rfl)
theorem dL_swap_5 : decode cL_swap 5 = .ok (.iload_n 3, 1) := dqo_29 (kb_of ke_L_swap 5 rfl)
theorem dL_swap_6 : decode cL_swap 6 = .ok (.invokevirtual 49, 3) := dqo_182 0 49 (kb_of ke_L_swap 6 rfl) (kb_of ke_L_swap 7 rfl) (kb_of ke_L_swap 8 rfl)
theorem dL_swap_9 : decode cL_swap 9 = .ok (.i2l, 1) := dqo_133 (kb_of ke_L_swap 9 rfl)
theorem dL_swap_10 : decode cL_swap 10 = .ok (.putfield 13, 3) := dqo_181 0 13 (kb_of ke_L_swap 10 rfl) (kb_of ke_L_swap 11 rfl) (kb_of ke_L_swap 12 rfl)
theorem dL_swap_13 : decode cL_swap 13 = .ok (.goto 7, 3) := dqo_167 0 7 (by decide) (kb_of ke_L_swap 13 rfl) (kb_of ke_L_swap 14 rfl) (kb_of ke_L_swap 15 rfl)
theorem dL_swap_16 : decode cL_swap 16 = .ok (.astore 5, 2) := dqo_58 5 (kb_of ke_L_swap 16 rfl) (kb_of ke_L_swap 17 rfl)
theorem dL_swap_18 : decode cL_swap 18 = .ok (.iconst 1, 1) := dqo_4 (kb_of ke_L_swap 18 rfl)
theorem dL_swap_19 : decode cL_swap 19 = .ok (.ireturn, 1) := dqo_172 (kb_of ke_L_swap 19 rfl)
theorem dL_swap_20 : decode cL_swap 20 = .ok (.iconst 0, 1) := dqo_3 (kb_of ke_L_swap 20 rfl)
theorem dL_swap_21 : decode cL_swap 21 = .ok (.ireturn, 1) := dqo_172 (kb_of ke_L_swap 21 rfl)
theorem qcw_L_swap : Cond.codeWith yL_swap cL_swap 6 (some .int) [(0, 13, 16, 19)] ∈ GW := gw_4 111 rfl rfl
theorem pk_L_swap : PkH yL_swap cL_swap 6 (some .int) [(0, 13, 16, 19)] 5 := ⟨⟨qt_L_swap, qz_L, qcw_L_swap⟩, mh_L.1, mh_L.2, pd_47⟩
theorem pk_X2_swap : PkV RX2 yX2_swap cX2_swap 4 (some .int) 3 := ⟨⟨qi_X2_swap, qs_X2_swap, qz_X2, qc_X2_swap⟩, rfl, mh_X2.1, mh_X2.2, pd_28⟩
theorem W_swap {l : Launch} {D : va_G} {cy : Nat → ClassId} {X : (Nat → Prop) → State → Heap → Prop} {a : Nat → Nat → Nat} {ba ra : Nat → Nat} {f : Nat → Nat → Nat} {r : Nat → Nat → Int32} {hf : Nat → Nat → Nat} {hq : Nat → Nat → Int32} {kn th : Int32} {sm : Int64} {o : Nat} {n0 : Int64} {s0 : Value} {x0 x1 x2 : Int32} (hX : EnvX X) (hN : EnvN X) (hC : CInv f) (hB : RB r) (hM : MR f r hf hq) (hp : PR l D cy X a ba ra f r hf hq kn th sm yX2_swap cX2_swap 4 (some .int) yX4_swap cX4_swap 6 (some .int) (rmk 9 4 48 420) [.int x0, .int x1, .int x2] [("java/lang/IndexOutOfBoundsException", 1)]) : CmH l D cy X yL_swap cL_swap 6 (some .int) [(0, 13, 16, 19)] (rmk 9 1 6 300) [.ref (a 0 0), .int x0, .int x1, .int x2, .ref o] (WC cy a f r kn ++ (WM cy ba ra hf hq kn th sm ++ [OUTo o n0 s0])) (fun v1 w1 => ∃ (f' : Nat → Nat → Nat) (r' : Nat → Nat → Int32) (k : Nat) (n1 : Int64), v1 = some (.int (nI k)) ∧ w1 = WC cy a f' r' kn ++ (WM cy ba ra hf hq kn th sm ++ [OUTo o n1 s0]) ∧ PN l D cy X ba ra hf hq kn th sm yX4_swap cX4_swap 6 (some .int) (rmk 9 4 48 420) [.int x0, .int x1, .int x2] cvI f' r' k n1) (fun _ => False) := by
  refine CmH.of [some (.ref (a 0 0)), some (.int x0), some (.int x1), some (.int x2), some (.ref o), none] pn_L rfl (Nat.le_of_ble_eq_true rfl) ?_
  intro p e s m args below meth c A C hE hr hnt
  refine r_aload C dL_swap_0 rfl ?_
  refine r_aload_n C dL_swap_2 rfl ?_
  refine r_iload_n C dL_swap_3 rfl ?_
  refine r_iload_n C dL_swap_4 rfl ?_
  refine r_iload_n C dL_swap_5 rfl ?_
  rcases hp.two cvI (by simp) hC hB hM with ⟨E, k, hm, h1, h2⟩ | ⟨f', r', n, h1, h2⟩
  · refine c_V (st := [.ref o]) hX.stb C hE (h1 _) pk_X2_swap qm_L_49 0 6 rfl rfl wc_0 rfl rfl (Nat.le_of_ble_eq_true rfl) dL_swap_6 ⟨(Nat.le_of_ble_eq_true rfl), (Nat.le_of_ble_eq_true rfl)⟩ ⟨(Nat.le_of_ble_eq_true rfl), (Nat.le_of_ble_eq_true rfl)⟩ (fun _ _ h9 => h9.elim) (fun E1 hE1 => ?_)
    subst hE1
    simp only [List.mem_cons, List.not_mem_nil, or_false, Prod.mk.injEq] at hm
    obtain ⟨rfl, rfl⟩ := hm
    refine r_catch (name := "java/lang/IndexOutOfBoundsException") C [] ⟨0, 13, 16, 19⟩ [] (hnt.trans rfl) (fun z hz => absurd hz List.not_mem_nil) rfl (by decide) (C.2.2.2.2.1 _ qk_L_19) (hX.nw qca_IOB rfl hE) (fun q => ?_)
    refine r_astore C dL_swap_16 (by decide) rfl ?_
    refine r_iconst (v := nI 1) C dL_swap_18 (by decide) ?_
    exact r_iret C hr dL_swap_19 ⟨_, _, _, _, rfl, rfl, h2 _⟩ (Nat.le_of_ble_eq_true rfl) (Nat.le_of_ble_eq_true rfl)
  · refine c_V (st := [.ref o]) hX.stb C hE (h1 _) pk_X2_swap qm_L_49 0 6 rfl rfl wc_0 rfl rfl (Nat.le_of_ble_eq_true rfl) dL_swap_6 ⟨(Nat.le_of_ble_eq_true rfl), (Nat.le_of_ble_eq_true rfl)⟩ ⟨(Nat.le_of_ble_eq_true rfl), (Nat.le_of_ble_eq_true rfl)⟩ (fun v9 w9 h9 => ?_) (fun _ h9 => h9.elim)
    obtain ⟨rfl, rfl⟩ := h9
    refine r_i2l C dL_swap_9 ?_
    refine g_putN hX C hE qu_X3 tyX3 tyX3_ok nmX3 (ci := 7) rfl 38 outo_at 0 (by decide) qn_L_13 rfl rfl (ty := .long) rfl rfl rfl (show 0 < 2 by omega) dL_swap_10 outo_set ?_
    refine r_goto (tgt := 20) C dL_swap_13 (by decide) ?_
    refine r_iconst (v := nI 0) C dL_swap_20 (by decide) ?_
    exact r_iret C hr dL_swap_21 ⟨_, _, _, _, rfl, rfl, h2⟩ (Nat.le_of_ble_eq_true rfl) (Nat.le_of_ble_eq_true rfl)
theorem dL_riffle_0 : decode cL_riffle 0 = .ok (.aload_n 2, 1) := dqo_44 (kb_of ke_L_riffle 0 rfl)
theorem dL_riffle_1 : decode cL_riffle 1 = .ok (.aload_n 0, 1) := dqo_42 (kb_of ke_L_riffle 1 rfl)
theorem dL_riffle_2 : decode cL_riffle 2 = .ok (.iload_n 1, 1) := dqo_27 (kb_of ke_L_riffle 2 rfl)
theorem dL_riffle_3 : decode cL_riffle 3 = .ok (.invokevirtual 52, 3) := dqo_182 0 52 (kb_of ke_L_riffle 3 rfl) (kb_of ke_L_riffle 4 rfl) (kb_of ke_L_riffle 5 rfl)
theorem dL_riffle_6 : decode cL_riffle 6 = .ok (.i2l, 1) := dqo_133 (kb_of ke_L_riffle 6 rfl)
theorem dL_riffle_7 : decode cL_riffle 7 = .ok (.putfield 13, 3) := dqo_181 0 13 (kb_of ke_L_riffle 7 rfl) (kb_of ke_L_riffle 8 rfl) (kb_of ke_L_riffle 9 rfl)
theorem dL_riffle_10 : decode cL_riffle 10 = .ok (.goto 6, 3) := dqo_167 0 6 (by decide) (kb_of ke_L_riffle 10 rfl) (kb_of ke_L_riffle 11 rfl) (kb_of ke_L_riffle 12 rfl)
theorem dL_riffle_13 : decode cL_riffle 13 = .ok (.astore_n 3, 1) := dqo_78 (kb_of ke_L_riffle 13 rfl)
theorem dL_riffle_14 : decode cL_riffle 14 = .ok (.iconst 1, 1) := dqo_4 (kb_of ke_L_riffle 14 rfl)
theorem dL_riffle_15 : decode cL_riffle 15 = .ok (.ireturn, 1) := dqo_172 (kb_of ke_L_riffle 15 rfl)
theorem dL_riffle_16 : decode cL_riffle 16 = .ok (.iconst 0, 1) := dqo_3 (kb_of ke_L_riffle 16 rfl)
theorem dL_riffle_17 : decode cL_riffle 17 = .ok (.ireturn, 1) := dqo_172 (kb_of ke_L_riffle 17 rfl)
theorem qcw_L_riffle : Cond.codeWith yL_riffle cL_riffle 4 (some .int) [(0, 10, 13, 19)] ∈ GW := gw_4 119 rfl rfl
theorem pk_L_riffle : PkH yL_riffle cL_riffle 4 (some .int) [(0, 10, 13, 19)] 3 := ⟨⟨qt_L_riffle, qz_L, qcw_L_riffle⟩, mh_L.1, mh_L.2, pd_48⟩
theorem pk_X2_riffle : PkV RX2 yX2_riffle cX2_riffle 2 (some .int) 1 := ⟨⟨qi_X2_riffle, qs_X2_riffle, qz_X2, qc_X2_riffle⟩, rfl, mh_X2.1, mh_X2.2, pd_1⟩
theorem W_riffle {l : Launch} {D : va_G} {cy : Nat → ClassId} {X : (Nat → Prop) → State → Heap → Prop} {a : Nat → Nat → Nat} {ba ra : Nat → Nat} {f : Nat → Nat → Nat} {r : Nat → Nat → Int32} {hf : Nat → Nat → Nat} {hq : Nat → Nat → Int32} {kn th : Int32} {sm : Int64} {o : Nat} {n0 : Int64} {s0 : Value} {x0 : Int32} (hX : EnvX X) (hN : EnvN X) (hC : CInv f) (hB : RB r) (hM : MR f r hf hq) (hp : PR l D cy X a ba ra f r hf hq kn th sm yX2_riffle cX2_riffle 2 (some .int) yX4_riffle cX4_riffle 5 (some .int) (rmk 9 4 48 420) [.int x0] [("java/lang/IndexOutOfBoundsException", 1)]) : CmH l D cy X yL_riffle cL_riffle 4 (some .int) [(0, 10, 13, 19)] (rmk 9 1 6 300) [.ref (a 0 0), .int x0, .ref o] (WC cy a f r kn ++ (WM cy ba ra hf hq kn th sm ++ [OUTo o n0 s0])) (fun v1 w1 => ∃ (f' : Nat → Nat → Nat) (r' : Nat → Nat → Int32) (k : Nat) (n1 : Int64), v1 = some (.int (nI k)) ∧ w1 = WC cy a f' r' kn ++ (WM cy ba ra hf hq kn th sm ++ [OUTo o n1 s0]) ∧ PN l D cy X ba ra hf hq kn th sm yX4_riffle cX4_riffle 5 (some .int) (rmk 9 4 48 420) [.int x0] cvI f' r' k n1) (fun _ => False) := by
  refine CmH.of [some (.ref (a 0 0)), some (.int x0), some (.ref o), none] pn_L rfl (Nat.le_of_ble_eq_true rfl) ?_
  intro p e s m args below meth c A C hE hr hnt
  refine r_aload_n C dL_riffle_0 rfl ?_
  refine r_aload_n C dL_riffle_1 rfl ?_
  refine r_iload_n C dL_riffle_2 rfl ?_
  rcases hp.two cvI (by simp) hC hB hM with ⟨E, k, hm, h1, h2⟩ | ⟨f', r', n, h1, h2⟩
  · refine c_V (st := [.ref o]) hX.stb C hE (h1 _) pk_X2_riffle qm_L_52 0 6 rfl rfl wc_0 rfl rfl (Nat.le_of_ble_eq_true rfl) dL_riffle_3 ⟨(Nat.le_of_ble_eq_true rfl), (Nat.le_of_ble_eq_true rfl)⟩ ⟨(Nat.le_of_ble_eq_true rfl), (Nat.le_of_ble_eq_true rfl)⟩ (fun _ _ h9 => h9.elim) (fun E1 hE1 => ?_)
    subst hE1
    simp only [List.mem_cons, List.not_mem_nil, or_false, Prod.mk.injEq] at hm
    obtain ⟨rfl, rfl⟩ := hm
    refine r_catch (name := "java/lang/IndexOutOfBoundsException") C [] ⟨0, 10, 13, 19⟩ [] (hnt.trans rfl) (fun z hz => absurd hz List.not_mem_nil) rfl (by decide) (C.2.2.2.2.1 _ qk_L_19) (hX.nw qca_IOB rfl hE) (fun q => ?_)
    refine r_astore_n C dL_riffle_13 (by decide) rfl ?_
    refine r_iconst (v := nI 1) C dL_riffle_14 (by decide) ?_
    exact r_iret C hr dL_riffle_15 ⟨_, _, _, _, rfl, rfl, h2 _⟩ (Nat.le_of_ble_eq_true rfl) (Nat.le_of_ble_eq_true rfl)
  · refine c_V (st := [.ref o]) hX.stb C hE (h1 _) pk_X2_riffle qm_L_52 0 6 rfl rfl wc_0 rfl rfl (Nat.le_of_ble_eq_true rfl) dL_riffle_3 ⟨(Nat.le_of_ble_eq_true rfl), (Nat.le_of_ble_eq_true rfl)⟩ ⟨(Nat.le_of_ble_eq_true rfl), (Nat.le_of_ble_eq_true rfl)⟩ (fun v9 w9 h9 => ?_) (fun _ h9 => h9.elim)
    obtain ⟨rfl, rfl⟩ := h9
    refine r_i2l C dL_riffle_6 ?_
    refine g_putN hX C hE qu_X3 tyX3 tyX3_ok nmX3 (ci := 7) rfl 38 outo_at 0 (by decide) qn_L_13 rfl rfl (ty := .long) rfl rfl rfl (show 0 < 2 by omega) dL_riffle_7 outo_set ?_
    refine r_goto (tgt := 16) C dL_riffle_10 (by decide) ?_
    refine r_iconst (v := nI 0) C dL_riffle_16 (by decide) ?_
    exact r_iret C hr dL_riffle_17 ⟨_, _, _, _, rfl, rfl, h2⟩ (Nat.le_of_ble_eq_true rfl) (Nat.le_of_ble_eq_true rfl)
theorem dL_unriffle_0 : decode cL_unriffle 0 = .ok (.aload_n 2, 1) := dqo_44 (kb_of ke_L_unriffle 0 rfl)
theorem dL_unriffle_1 : decode cL_unriffle 1 = .ok (.aload_n 0, 1) := dqo_42 (kb_of ke_L_unriffle 1 rfl)
theorem dL_unriffle_2 : decode cL_unriffle 2 = .ok (.iload_n 1, 1) := dqo_27 (kb_of ke_L_unriffle 2 rfl)
theorem dL_unriffle_3 : decode cL_unriffle 3 = .ok (.invokevirtual 55, 3) := dqo_182 0 55 (kb_of ke_L_unriffle 3 rfl) (kb_of ke_L_unriffle 4 rfl) (kb_of ke_L_unriffle 5 rfl)
theorem dL_unriffle_6 : decode cL_unriffle 6 = .ok (.i2l, 1) := dqo_133 (kb_of ke_L_unriffle 6 rfl)
theorem dL_unriffle_7 : decode cL_unriffle 7 = .ok (.putfield 13, 3) := dqo_181 0 13 (kb_of ke_L_unriffle 7 rfl) (kb_of ke_L_unriffle 8 rfl) (kb_of ke_L_unriffle 9 rfl)
theorem dL_unriffle_10 : decode cL_unriffle 10 = .ok (.goto 6, 3) := dqo_167 0 6 (by decide) (kb_of ke_L_unriffle 10 rfl) (kb_of ke_L_unriffle 11 rfl) (kb_of ke_L_unriffle 12 rfl)
theorem dL_unriffle_13 : decode cL_unriffle 13 = .ok (.astore_n 3, 1) := dqo_78 (kb_of ke_L_unriffle 13 rfl)
theorem dL_unriffle_14 : decode cL_unriffle 14 = .ok (.iconst 1, 1) := dqo_4 (kb_of ke_L_unriffle 14 rfl)
theorem dL_unriffle_15 : decode cL_unriffle 15 = .ok (.ireturn, 1) := dqo_172 (kb_of ke_L_unriffle 15 rfl)
theorem dL_unriffle_16 : decode cL_unriffle 16 = .ok (.iconst 0, 1) := dqo_3 (kb_of ke_L_unriffle 16 rfl)
theorem dL_unriffle_17 : decode cL_unriffle 17 = .ok (.ireturn, 1) := dqo_172 (kb_of ke_L_unriffle 17 rfl)
theorem qcw_L_unriffle : Cond.codeWith yL_unriffle cL_unriffle 4 (some .int) [(0, 10, 13, 19)] ∈ GW := gw_4 126 rfl rfl
theorem pk_L_unriffle : PkH yL_unriffle cL_unriffle 4 (some .int) [(0, 10, 13, 19)] 3 := ⟨⟨qt_L_unriffle, qz_L, qcw_L_unriffle⟩, mh_L.1, mh_L.2, pd_48⟩
theorem pk_X2_unriffle : PkV RX2 yX2_unriffle cX2_unriffle 2 (some .int) 1 := ⟨⟨qi_X2_unriffle, qs_X2_unriffle, qz_X2, qc_X2_unriffle⟩, rfl, mh_X2.1, mh_X2.2, pd_1⟩
theorem W_unriffle {l : Launch} {D : va_G} {cy : Nat → ClassId} {X : (Nat → Prop) → State → Heap → Prop} {a : Nat → Nat → Nat} {ba ra : Nat → Nat} {f : Nat → Nat → Nat} {r : Nat → Nat → Int32} {hf : Nat → Nat → Nat} {hq : Nat → Nat → Int32} {kn th : Int32} {sm : Int64} {o : Nat} {n0 : Int64} {s0 : Value} {x0 : Int32} (hX : EnvX X) (hN : EnvN X) (hC : CInv f) (hB : RB r) (hM : MR f r hf hq) (hp : PR l D cy X a ba ra f r hf hq kn th sm yX2_unriffle cX2_unriffle 2 (some .int) yX4_unriffle cX4_unriffle 5 (some .int) (rmk 9 4 48 420) [.int x0] [("java/lang/IndexOutOfBoundsException", 1)]) : CmH l D cy X yL_unriffle cL_unriffle 4 (some .int) [(0, 10, 13, 19)] (rmk 9 1 6 300) [.ref (a 0 0), .int x0, .ref o] (WC cy a f r kn ++ (WM cy ba ra hf hq kn th sm ++ [OUTo o n0 s0])) (fun v1 w1 => ∃ (f' : Nat → Nat → Nat) (r' : Nat → Nat → Int32) (k : Nat) (n1 : Int64), v1 = some (.int (nI k)) ∧ w1 = WC cy a f' r' kn ++ (WM cy ba ra hf hq kn th sm ++ [OUTo o n1 s0]) ∧ PN l D cy X ba ra hf hq kn th sm yX4_unriffle cX4_unriffle 5 (some .int) (rmk 9 4 48 420) [.int x0] cvI f' r' k n1) (fun _ => False) := by
  refine CmH.of [some (.ref (a 0 0)), some (.int x0), some (.ref o), none] pn_L rfl (Nat.le_of_ble_eq_true rfl) ?_
  intro p e s m args below meth c A C hE hr hnt
  refine r_aload_n C dL_unriffle_0 rfl ?_
  refine r_aload_n C dL_unriffle_1 rfl ?_
  refine r_iload_n C dL_unriffle_2 rfl ?_
  rcases hp.two cvI (by simp) hC hB hM with ⟨E, k, hm, h1, h2⟩ | ⟨f', r', n, h1, h2⟩
  · refine c_V (st := [.ref o]) hX.stb C hE (h1 _) pk_X2_unriffle qm_L_55 0 6 rfl rfl wc_0 rfl rfl (Nat.le_of_ble_eq_true rfl) dL_unriffle_3 ⟨(Nat.le_of_ble_eq_true rfl), (Nat.le_of_ble_eq_true rfl)⟩ ⟨(Nat.le_of_ble_eq_true rfl), (Nat.le_of_ble_eq_true rfl)⟩ (fun _ _ h9 => h9.elim) (fun E1 hE1 => ?_)
    subst hE1
    simp only [List.mem_cons, List.not_mem_nil, or_false, Prod.mk.injEq] at hm
    obtain ⟨rfl, rfl⟩ := hm
    refine r_catch (name := "java/lang/IndexOutOfBoundsException") C [] ⟨0, 10, 13, 19⟩ [] (hnt.trans rfl) (fun z hz => absurd hz List.not_mem_nil) rfl (by decide) (C.2.2.2.2.1 _ qk_L_19) (hX.nw qca_IOB rfl hE) (fun q => ?_)
    refine r_astore_n C dL_unriffle_13 (by decide) rfl ?_
    refine r_iconst (v := nI 1) C dL_unriffle_14 (by decide) ?_
    exact r_iret C hr dL_unriffle_15 ⟨_, _, _, _, rfl, rfl, h2 _⟩ (Nat.le_of_ble_eq_true rfl) (Nat.le_of_ble_eq_true rfl)
  · refine c_V (st := [.ref o]) hX.stb C hE (h1 _) pk_X2_unriffle qm_L_55 0 6 rfl rfl wc_0 rfl rfl (Nat.le_of_ble_eq_true rfl) dL_unriffle_3 ⟨(Nat.le_of_ble_eq_true rfl), (Nat.le_of_ble_eq_true rfl)⟩ ⟨(Nat.le_of_ble_eq_true rfl), (Nat.le_of_ble_eq_true rfl)⟩ (fun v9 w9 h9 => ?_) (fun _ h9 => h9.elim)
    obtain ⟨rfl, rfl⟩ := h9
    refine r_i2l C dL_unriffle_6 ?_
    refine g_putN hX C hE qu_X3 tyX3 tyX3_ok nmX3 (ci := 7) rfl 38 outo_at 0 (by decide) qn_L_13 rfl rfl (ty := .long) rfl rfl rfl (show 0 < 2 by omega) dL_unriffle_7 outo_set ?_
    refine r_goto (tgt := 16) C dL_unriffle_10 (by decide) ?_
    refine r_iconst (v := nI 0) C dL_unriffle_16 (by decide) ?_
    exact r_iret C hr dL_unriffle_17 ⟨_, _, _, _, rfl, rfl, h2⟩ (Nat.le_of_ble_eq_true rfl) (Nat.le_of_ble_eq_true rfl)
theorem dL_sort_0 : decode cL_sort 0 = .ok (.aload_n 2, 1) := dqo_44 (kb_of ke_L_sort 0 rfl)
theorem dL_sort_1 : decode cL_sort 1 = .ok (.aload_n 0, 1) := dqo_42 (kb_of ke_L_sort 1 rfl)
theorem dL_sort_2 : decode cL_sort 2 = .ok (.iload_n 1, 1) := dqo_27 (kb_of ke_L_sort 2 rfl)
theorem dL_sort_3 : decode cL_sort 3 = .ok (.invokevirtual 58, 3) := dqo_182 0 58 (kb_of ke_L_sort 3 rfl) (kb_of ke_L_sort 4 rfl) (kb_of ke_L_sort 5 rfl)
theorem dL_sort_6 : decode cL_sort 6 = .ok (.i2l, 1) := dqo_133 (kb_of ke_L_sort 6 rfl)
theorem dL_sort_7 : decode cL_sort 7 = .ok (.putfield 13, 3) := dqo_181 0 13 (kb_of ke_L_sort 7 rfl) (kb_of ke_L_sort 8 rfl) (kb_of ke_L_sort 9 rfl)
theorem dL_sort_10 : decode cL_sort 10 = .ok (.goto 6, 3) := dqo_167 0 6 (by decide) (kb_of ke_L_sort 10 rfl) (kb_of ke_L_sort 11 rfl) (kb_of ke_L_sort 12 rfl)
theorem dL_sort_13 : decode cL_sort 13 = .ok (.astore_n 3, 1) := dqo_78 (kb_of ke_L_sort 13 rfl)
theorem dL_sort_14 : decode cL_sort 14 = .ok (.iconst 1, 1) := dqo_4 (kb_of ke_L_sort 14 rfl)
theorem dL_sort_15 : decode cL_sort 15 = .ok (.ireturn, 1) := dqo_172 (kb_of ke_L_sort 15 rfl)
theorem dL_sort_16 : decode cL_sort 16 = .ok (.iconst 0, 1) := dqo_3 (kb_of ke_L_sort 16 rfl)
theorem dL_sort_17 : decode cL_sort 17 = .ok (.ireturn, 1) := dqo_172 (kb_of ke_L_sort 17 rfl)
theorem qcw_L_sort : Cond.codeWith yL_sort cL_sort 4 (some .int) [(0, 10, 13, 19)] ∈ GW := gw_4 133 rfl rfl
theorem pk_L_sort : PkH yL_sort cL_sort 4 (some .int) [(0, 10, 13, 19)] 3 := ⟨⟨qt_L_sort, qz_L, qcw_L_sort⟩, mh_L.1, mh_L.2, pd_48⟩
theorem pk_X2_sort : PkV RX2 yX2_sort cX2_sort 2 (some .int) 1 := ⟨⟨qi_X2_sort, qs_X2_sort, qz_X2, qc_X2_sort⟩, rfl, mh_X2.1, mh_X2.2, pd_1⟩
theorem W_sort {l : Launch} {D : va_G} {cy : Nat → ClassId} {X : (Nat → Prop) → State → Heap → Prop} {a : Nat → Nat → Nat} {ba ra : Nat → Nat} {f : Nat → Nat → Nat} {r : Nat → Nat → Int32} {hf : Nat → Nat → Nat} {hq : Nat → Nat → Int32} {kn th : Int32} {sm : Int64} {o : Nat} {n0 : Int64} {s0 : Value} {x0 : Int32} (hX : EnvX X) (hN : EnvN X) (hC : CInv f) (hB : RB r) (hM : MR f r hf hq) (hp : PR l D cy X a ba ra f r hf hq kn th sm yX2_sort cX2_sort 2 (some .int) yX4_sort cX4_sort 2 (some .int) (rmk 9 4 48 420) [.int x0] [("java/lang/IndexOutOfBoundsException", 1)]) : CmH l D cy X yL_sort cL_sort 4 (some .int) [(0, 10, 13, 19)] (rmk 9 1 6 300) [.ref (a 0 0), .int x0, .ref o] (WC cy a f r kn ++ (WM cy ba ra hf hq kn th sm ++ [OUTo o n0 s0])) (fun v1 w1 => ∃ (f' : Nat → Nat → Nat) (r' : Nat → Nat → Int32) (k : Nat) (n1 : Int64), v1 = some (.int (nI k)) ∧ w1 = WC cy a f' r' kn ++ (WM cy ba ra hf hq kn th sm ++ [OUTo o n1 s0]) ∧ PN l D cy X ba ra hf hq kn th sm yX4_sort cX4_sort 2 (some .int) (rmk 9 4 48 420) [.int x0] cvI f' r' k n1) (fun _ => False) := by
  refine CmH.of [some (.ref (a 0 0)), some (.int x0), some (.ref o), none] pn_L rfl (Nat.le_of_ble_eq_true rfl) ?_
  intro p e s m args below meth c A C hE hr hnt
  refine r_aload_n C dL_sort_0 rfl ?_
  refine r_aload_n C dL_sort_1 rfl ?_
  refine r_iload_n C dL_sort_2 rfl ?_
  rcases hp.two cvI (by simp) hC hB hM with ⟨E, k, hm, h1, h2⟩ | ⟨f', r', n, h1, h2⟩
  · refine c_V (st := [.ref o]) hX.stb C hE (h1 _) pk_X2_sort qm_L_58 0 6 rfl rfl wc_0 rfl rfl (Nat.le_of_ble_eq_true rfl) dL_sort_3 ⟨(Nat.le_of_ble_eq_true rfl), (Nat.le_of_ble_eq_true rfl)⟩ ⟨(Nat.le_of_ble_eq_true rfl), (Nat.le_of_ble_eq_true rfl)⟩ (fun _ _ h9 => h9.elim) (fun E1 hE1 => ?_)
    subst hE1
    simp only [List.mem_cons, List.not_mem_nil, or_false, Prod.mk.injEq] at hm
    obtain ⟨rfl, rfl⟩ := hm
    refine r_catch (name := "java/lang/IndexOutOfBoundsException") C [] ⟨0, 10, 13, 19⟩ [] (hnt.trans rfl) (fun z hz => absurd hz List.not_mem_nil) rfl (by decide) (C.2.2.2.2.1 _ qk_L_19) (hX.nw qca_IOB rfl hE) (fun q => ?_)
    refine r_astore_n C dL_sort_13 (by decide) rfl ?_
    refine r_iconst (v := nI 1) C dL_sort_14 (by decide) ?_
    exact r_iret C hr dL_sort_15 ⟨_, _, _, _, rfl, rfl, h2 _⟩ (Nat.le_of_ble_eq_true rfl) (Nat.le_of_ble_eq_true rfl)
  · refine c_V (st := [.ref o]) hX.stb C hE (h1 _) pk_X2_sort qm_L_58 0 6 rfl rfl wc_0 rfl rfl (Nat.le_of_ble_eq_true rfl) dL_sort_3 ⟨(Nat.le_of_ble_eq_true rfl), (Nat.le_of_ble_eq_true rfl)⟩ ⟨(Nat.le_of_ble_eq_true rfl), (Nat.le_of_ble_eq_true rfl)⟩ (fun v9 w9 h9 => ?_) (fun _ h9 => h9.elim)
    obtain ⟨rfl, rfl⟩ := h9
    refine r_i2l C dL_sort_6 ?_
    refine g_putN hX C hE qu_X3 tyX3 tyX3_ok nmX3 (ci := 7) rfl 38 outo_at 0 (by decide) qn_L_13 rfl rfl (ty := .long) rfl rfl rfl (show 0 < 2 by omega) dL_sort_7 outo_set ?_
    refine r_goto (tgt := 16) C dL_sort_10 (by decide) ?_
    refine r_iconst (v := nI 0) C dL_sort_16 (by decide) ?_
    exact r_iret C hr dL_sort_17 ⟨_, _, _, _, rfl, rfl, h2⟩ (Nat.le_of_ble_eq_true rfl) (Nat.le_of_ble_eq_true rfl)
end PT_79
/-! ===== 80.wrap2 -/
section PT_80
/-! THE LAW'S WRAPPERS, 2 -/
theorem dL_sortBy_0 : decode cL_sortBy 0 = .ok (.aload_n 3, 1) := dqo_45 (kb_of ke_L_sortBy 0 rfl)
theorem dL_sortBy_1 : decode cL_sortBy 1 = .ok (.aload_n 0, 1) := dqo_42 (kb_of ke_L_sortBy 1 rfl)
theorem dL_sortBy_2 : decode cL_sortBy 2 = .ok (.iload_n 1, 1) := dqo_27 (kb_of ke_L_sortBy 2 rfl)
theorem dL_sortBy_3 : decode cL_sortBy 3 = .ok (.iload_n 2, 1) := dqo_28 (kb_of ke_L_sortBy 3 rfl)
theorem dL_sortBy_4 : decode cL_sortBy 4 = .ok (.invokevirtual 61, 3) := dqo_182 0 61 (kb_of ke_L_sortBy 4 rfl) (kb_of ke_L_sortBy 5 rfl) (kb_of ke_L_sortBy 6 rfl)
theorem dL_sortBy_7 : decode cL_sortBy 7 = .ok (.i2l, 1) := dqo_133 (kb_of ke_L_sortBy 7 rfl)
theorem dL_sortBy_8 : decode cL_sortBy 8 = .ok (.putfield 13, 3) := dqo_181 0 13 (kb_of ke_L_sortBy 8 rfl) (kb_of ke_L_sortBy 9 rfl) (kb_of ke_L_sortBy 10 rfl)
theorem dL_sortBy_11 : decode cL_sortBy 11 = .ok (.goto 11, 3) := dqo_167 0 11 (by decide) (kb_of ke_L_sortBy 11 rfl) (kb_of ke_L_sortBy 12 rfl) (kb_of ke_L_sortBy 13 rfl)
theorem dL_sortBy_14 : decode cL_sortBy 14 = .ok (.astore 4, 2) := dqo_58 4 (kb_of ke_L_sortBy 14 rfl) (kb_of ke_L_sortBy 15 rfl)
theorem dL_sortBy_16 : decode cL_sortBy 16 = .ok (.iconst 1, 1) := dqo_4 (kb_of ke_L_sortBy 16 rfl)
theorem dL_sortBy_17 : decode cL_sortBy 17 = .ok (.ireturn, 1) := dqo_172 (kb_of ke_L_sortBy 17 rfl)
theorem dL_sortBy_18 : decode cL_sortBy 18 = .ok (.astore 4, 2) := dqo_58 4 (kb_of ke_L_sortBy 18 rfl) (kb_of ke_L_sortBy 19 rfl)
theorem dL_sortBy_20 : decode cL_sortBy 20 = .ok (.iconst 2, 1) := dqo_5 (kb_of ke_L_sortBy 20 rfl)
theorem dL_sortBy_21 : decode cL_sortBy 21 = .ok (.ireturn, 1) := dqo_172 (kb_of ke_L_sortBy 21 rfl)
theorem dL_sortBy_22 : decode cL_sortBy 22 = .ok (.iconst 0, 1) := dqo_3 (kb_of ke_L_sortBy 22 rfl)
theorem dL_sortBy_23 : decode cL_sortBy 23 = .ok (.ireturn, 1) := dqo_172 (kb_of ke_L_sortBy 23 rfl)
theorem qcw_L_sortBy : Cond.codeWith yL_sortBy cL_sortBy 5 (some .int) [(0, 11, 14, 19), (0, 11, 18, 21)] ∈ GW := gw_4 140 rfl rfl
theorem pk_L_sortBy : PkH yL_sortBy cL_sortBy 5 (some .int) [(0, 11, 14, 19), (0, 11, 18, 21)] 4 := ⟨⟨qt_L_sortBy, qz_L, qcw_L_sortBy⟩, mh_L.1, mh_L.2, pd_46⟩
theorem pk_X2_sortBy : PkV RX2 yX2_sortBy cX2_sortBy 3 (some .int) 2 := ⟨⟨qi_X2_sortBy, qs_X2_sortBy, qz_X2, qc_X2_sortBy⟩, rfl, mh_X2.1, mh_X2.2, pd_0⟩
theorem W_sortBy {l : Launch} {D : va_G} {cy : Nat → ClassId} {X : (Nat → Prop) → State → Heap → Prop} {a : Nat → Nat → Nat} {ba ra : Nat → Nat} {f : Nat → Nat → Nat} {r : Nat → Nat → Int32} {hf : Nat → Nat → Nat} {hq : Nat → Nat → Int32} {kn th : Int32} {sm : Int64} {o : Nat} {n0 : Int64} {s0 : Value} {x0 x1 : Int32} (hX : EnvX X) (hN : EnvN X) (hC : CInv f) (hB : RB r) (hM : MR f r hf hq) (hp : PR l D cy X a ba ra f r hf hq kn th sm yX2_sortBy cX2_sortBy 3 (some .int) yX4_sortBy cX4_sortBy 3 (some .int) (rmk 9 4 48 420) [.int x0, .int x1] [("java/lang/IndexOutOfBoundsException", 1), ("java/lang/IllegalArgumentException", 2)]) : CmH l D cy X yL_sortBy cL_sortBy 5 (some .int) [(0, 11, 14, 19), (0, 11, 18, 21)] (rmk 9 1 6 300) [.ref (a 0 0), .int x0, .int x1, .ref o] (WC cy a f r kn ++ (WM cy ba ra hf hq kn th sm ++ [OUTo o n0 s0])) (fun v1 w1 => ∃ (f' : Nat → Nat → Nat) (r' : Nat → Nat → Int32) (k : Nat) (n1 : Int64), v1 = some (.int (nI k)) ∧ w1 = WC cy a f' r' kn ++ (WM cy ba ra hf hq kn th sm ++ [OUTo o n1 s0]) ∧ PN l D cy X ba ra hf hq kn th sm yX4_sortBy cX4_sortBy 3 (some .int) (rmk 9 4 48 420) [.int x0, .int x1] cvI f' r' k n1) (fun _ => False) := by
  refine CmH.of [some (.ref (a 0 0)), some (.int x0), some (.int x1), some (.ref o), none] pn_L rfl (Nat.le_of_ble_eq_true rfl) ?_
  intro p e s m args below meth c A C hE hr hnt
  refine r_aload_n C dL_sortBy_0 rfl ?_
  refine r_aload_n C dL_sortBy_1 rfl ?_
  refine r_iload_n C dL_sortBy_2 rfl ?_
  refine r_iload_n C dL_sortBy_3 rfl ?_
  rcases hp.two cvI (by simp) hC hB hM with ⟨E, k, hm, h1, h2⟩ | ⟨f', r', n, h1, h2⟩
  · refine c_V (st := [.ref o]) hX.stb C hE (h1 _) pk_X2_sortBy qm_L_61 0 6 rfl rfl wc_0 rfl rfl (Nat.le_of_ble_eq_true rfl) dL_sortBy_4 ⟨(Nat.le_of_ble_eq_true rfl), (Nat.le_of_ble_eq_true rfl)⟩ ⟨(Nat.le_of_ble_eq_true rfl), (Nat.le_of_ble_eq_true rfl)⟩ (fun _ _ h9 => h9.elim) (fun E1 hE1 => ?_)
    subst hE1
    simp only [List.mem_cons, List.not_mem_nil, or_false, Prod.mk.injEq] at hm
    rcases hm with ⟨rfl, rfl⟩ | ⟨rfl, rfl⟩
    · refine r_catch (name := "java/lang/IndexOutOfBoundsException") C [] ⟨0, 11, 14, 19⟩ [⟨0, 11, 18, 21⟩] (hnt.trans rfl) (fun z hz => absurd hz List.not_mem_nil) rfl (by decide) (C.2.2.2.2.1 _ qk_L_19) (hX.nw qca_IOB rfl hE) (fun q => ?_)
      refine r_astore C dL_sortBy_14 (by decide) rfl ?_
      refine r_iconst (v := nI 1) C dL_sortBy_16 (by decide) ?_
      exact r_iret C hr dL_sortBy_17 ⟨_, _, _, _, rfl, rfl, h2 _⟩ (Nat.le_of_ble_eq_true rfl) (Nat.le_of_ble_eq_true rfl)
    · refine r_catch (name := "java/lang/IllegalArgumentException") C [⟨0, 11, 14, 19⟩] ⟨0, 11, 18, 21⟩ [] (hnt.trans rfl) (fun z hz => by
        simp only [List.mem_cons, List.not_mem_nil, or_false] at hz
        subst hz
        exact Or.inr ⟨by decide, "java/lang/IndexOutOfBoundsException", C.2.2.2.2.1 _ qk_L_19, hN ("java/lang/IllegalArgumentException", "java/lang/IndexOutOfBoundsException") (by simp [NCL]) _ _ _ hE⟩) rfl (by decide) (C.2.2.2.2.1 _ qk_L_21) (hX.nw qca_IAE rfl hE) (fun q => ?_)
      refine r_astore C dL_sortBy_18 (by decide) rfl ?_
      refine r_iconst (v := nI 2) C dL_sortBy_20 (by decide) ?_
      exact r_iret C hr dL_sortBy_21 ⟨_, _, _, _, rfl, rfl, h2 _⟩ (Nat.le_of_ble_eq_true rfl) (Nat.le_of_ble_eq_true rfl)
  · refine c_V (st := [.ref o]) hX.stb C hE (h1 _) pk_X2_sortBy qm_L_61 0 6 rfl rfl wc_0 rfl rfl (Nat.le_of_ble_eq_true rfl) dL_sortBy_4 ⟨(Nat.le_of_ble_eq_true rfl), (Nat.le_of_ble_eq_true rfl)⟩ ⟨(Nat.le_of_ble_eq_true rfl), (Nat.le_of_ble_eq_true rfl)⟩ (fun v9 w9 h9 => ?_) (fun _ h9 => h9.elim)
    obtain ⟨rfl, rfl⟩ := h9
    refine r_i2l C dL_sortBy_7 ?_
    refine g_putN hX C hE qu_X3 tyX3 tyX3_ok nmX3 (ci := 7) rfl 38 outo_at 0 (by decide) qn_L_13 rfl rfl (ty := .long) rfl rfl rfl (show 0 < 2 by omega) dL_sortBy_8 outo_set ?_
    refine r_goto (tgt := 22) C dL_sortBy_11 (by decide) ?_
    refine r_iconst (v := nI 0) C dL_sortBy_22 (by decide) ?_
    exact r_iret C hr dL_sortBy_23 ⟨_, _, _, _, rfl, rfl, h2⟩ (Nat.le_of_ble_eq_true rfl) (Nat.le_of_ble_eq_true rfl)
theorem dL_get_0 : decode cL_get 0 = .ok (.aload_n 3, 1) := dqo_45 (kb_of ke_L_get 0 rfl)
theorem dL_get_1 : decode cL_get 1 = .ok (.aload_n 0, 1) := dqo_42 (kb_of ke_L_get 1 rfl)
theorem dL_get_2 : decode cL_get 2 = .ok (.iload_n 1, 1) := dqo_27 (kb_of ke_L_get 2 rfl)
theorem dL_get_3 : decode cL_get 3 = .ok (.iload_n 2, 1) := dqo_28 (kb_of ke_L_get 3 rfl)
theorem dL_get_4 : decode cL_get 4 = .ok (.invokevirtual 64, 3) := dqo_182 0 64 (kb_of ke_L_get 4 rfl) (kb_of ke_L_get 5 rfl) (kb_of ke_L_get 6 rfl)
theorem dL_get_7 : decode cL_get 7 = .ok (.i2l, 1) := dqo_133 (kb_of ke_L_get 7 rfl)
theorem dL_get_8 : decode cL_get 8 = .ok (.putfield 13, 3) := dqo_181 0 13 (kb_of ke_L_get 8 rfl) (kb_of ke_L_get 9 rfl) (kb_of ke_L_get 10 rfl)
theorem dL_get_11 : decode cL_get 11 = .ok (.goto 7, 3) := dqo_167 0 7 (by decide) (kb_of ke_L_get 11 rfl) (kb_of ke_L_get 12 rfl) (kb_of ke_L_get 13 rfl)
theorem dL_get_14 : decode cL_get 14 = .ok (.astore 4, 2) := dqo_58 4 (kb_of ke_L_get 14 rfl) (kb_of ke_L_get 15 rfl)
theorem dL_get_16 : decode cL_get 16 = .ok (.iconst 1, 1) := dqo_4 (kb_of ke_L_get 16 rfl)
theorem dL_get_17 : decode cL_get 17 = .ok (.ireturn, 1) := dqo_172 (kb_of ke_L_get 17 rfl)
theorem dL_get_18 : decode cL_get 18 = .ok (.iconst 0, 1) := dqo_3 (kb_of ke_L_get 18 rfl)
theorem dL_get_19 : decode cL_get 19 = .ok (.ireturn, 1) := dqo_172 (kb_of ke_L_get 19 rfl)
theorem qcw_L_get : Cond.codeWith yL_get cL_get 5 (some .int) [(0, 11, 14, 19)] ∈ GW := gw_4 148 rfl rfl
theorem pk_L_get : PkH yL_get cL_get 5 (some .int) [(0, 11, 14, 19)] 4 := ⟨⟨qt_L_get, qz_L, qcw_L_get⟩, mh_L.1, mh_L.2, pd_46⟩
theorem pk_X2_get : PkV RX2 yX2_get cX2_get 3 (some .int) 2 := ⟨⟨qi_X2_get, qs_X2_get, qz_X2, qc_X2_get⟩, rfl, mh_X2.1, mh_X2.2, pd_0⟩
theorem W_get {l : Launch} {D : va_G} {cy : Nat → ClassId} {X : (Nat → Prop) → State → Heap → Prop} {a : Nat → Nat → Nat} {ba ra : Nat → Nat} {f : Nat → Nat → Nat} {r : Nat → Nat → Int32} {hf : Nat → Nat → Nat} {hq : Nat → Nat → Int32} {kn th : Int32} {sm : Int64} {o : Nat} {n0 : Int64} {s0 : Value} {x0 x1 : Int32} (hX : EnvX X) (hN : EnvN X) (hC : CInv f) (hB : RB r) (hM : MR f r hf hq) (hp : PR l D cy X a ba ra f r hf hq kn th sm yX2_get cX2_get 3 (some .int) yX4_get cX4_get 3 (some .int) (rmk 9 4 48 420) [.int x0, .int x1] [("java/lang/IndexOutOfBoundsException", 1)]) : CmH l D cy X yL_get cL_get 5 (some .int) [(0, 11, 14, 19)] (rmk 9 1 6 300) [.ref (a 0 0), .int x0, .int x1, .ref o] (WC cy a f r kn ++ (WM cy ba ra hf hq kn th sm ++ [OUTo o n0 s0])) (fun v1 w1 => ∃ (f' : Nat → Nat → Nat) (r' : Nat → Nat → Int32) (k : Nat) (n1 : Int64), v1 = some (.int (nI k)) ∧ w1 = WC cy a f' r' kn ++ (WM cy ba ra hf hq kn th sm ++ [OUTo o n1 s0]) ∧ PN l D cy X ba ra hf hq kn th sm yX4_get cX4_get 3 (some .int) (rmk 9 4 48 420) [.int x0, .int x1] cvI f' r' k n1) (fun _ => False) := by
  refine CmH.of [some (.ref (a 0 0)), some (.int x0), some (.int x1), some (.ref o), none] pn_L rfl (Nat.le_of_ble_eq_true rfl) ?_
  intro p e s m args below meth c A C hE hr hnt
  refine r_aload_n C dL_get_0 rfl ?_
  refine r_aload_n C dL_get_1 rfl ?_
  refine r_iload_n C dL_get_2 rfl ?_
  refine r_iload_n C dL_get_3 rfl ?_
  rcases hp.two cvI (by simp) hC hB hM with ⟨E, k, hm, h1, h2⟩ | ⟨f', r', n, h1, h2⟩
  · refine c_V (st := [.ref o]) hX.stb C hE (h1 _) pk_X2_get qm_L_64 0 6 rfl rfl wc_0 rfl rfl (Nat.le_of_ble_eq_true rfl) dL_get_4 ⟨(Nat.le_of_ble_eq_true rfl), (Nat.le_of_ble_eq_true rfl)⟩ ⟨(Nat.le_of_ble_eq_true rfl), (Nat.le_of_ble_eq_true rfl)⟩ (fun _ _ h9 => h9.elim) (fun E1 hE1 => ?_)
    subst hE1
    simp only [List.mem_cons, List.not_mem_nil, or_false, Prod.mk.injEq] at hm
    obtain ⟨rfl, rfl⟩ := hm
    refine r_catch (name := "java/lang/IndexOutOfBoundsException") C [] ⟨0, 11, 14, 19⟩ [] (hnt.trans rfl) (fun z hz => absurd hz List.not_mem_nil) rfl (by decide) (C.2.2.2.2.1 _ qk_L_19) (hX.nw qca_IOB rfl hE) (fun q => ?_)
    refine r_astore C dL_get_14 (by decide) rfl ?_
    refine r_iconst (v := nI 1) C dL_get_16 (by decide) ?_
    exact r_iret C hr dL_get_17 ⟨_, _, _, _, rfl, rfl, h2 _⟩ (Nat.le_of_ble_eq_true rfl) (Nat.le_of_ble_eq_true rfl)
  · refine c_V (st := [.ref o]) hX.stb C hE (h1 _) pk_X2_get qm_L_64 0 6 rfl rfl wc_0 rfl rfl (Nat.le_of_ble_eq_true rfl) dL_get_4 ⟨(Nat.le_of_ble_eq_true rfl), (Nat.le_of_ble_eq_true rfl)⟩ ⟨(Nat.le_of_ble_eq_true rfl), (Nat.le_of_ble_eq_true rfl)⟩ (fun v9 w9 h9 => ?_) (fun _ h9 => h9.elim)
    obtain ⟨rfl, rfl⟩ := h9
    refine r_i2l C dL_get_7 ?_
    refine g_putN hX C hE qu_X3 tyX3 tyX3_ok nmX3 (ci := 7) rfl 38 outo_at 0 (by decide) qn_L_13 rfl rfl (ty := .long) rfl rfl rfl (show 0 < 2 by omega) dL_get_8 outo_set ?_
    refine r_goto (tgt := 18) C dL_get_11 (by decide) ?_
    refine r_iconst (v := nI 0) C dL_get_18 (by decide) ?_
    exact r_iret C hr dL_get_19 ⟨_, _, _, _, rfl, rfl, h2⟩ (Nat.le_of_ble_eq_true rfl) (Nat.le_of_ble_eq_true rfl)
theorem dL_size_0 : decode cL_size 0 = .ok (.aload_n 2, 1) := dqo_44 (kb_of ke_L_size 0 rfl)
theorem dL_size_1 : decode cL_size 1 = .ok (.aload_n 0, 1) := dqo_42 (kb_of ke_L_size 1 rfl)
theorem dL_size_2 : decode cL_size 2 = .ok (.iload_n 1, 1) := dqo_27 (kb_of ke_L_size 2 rfl)
theorem dL_size_3 : decode cL_size 3 = .ok (.invokevirtual 67, 3) := dqo_182 0 67 (kb_of ke_L_size 3 rfl) (kb_of ke_L_size 4 rfl) (kb_of ke_L_size 5 rfl)
theorem dL_size_6 : decode cL_size 6 = .ok (.i2l, 1) := dqo_133 (kb_of ke_L_size 6 rfl)
theorem dL_size_7 : decode cL_size 7 = .ok (.putfield 13, 3) := dqo_181 0 13 (kb_of ke_L_size 7 rfl) (kb_of ke_L_size 8 rfl) (kb_of ke_L_size 9 rfl)
theorem dL_size_10 : decode cL_size 10 = .ok (.goto 6, 3) := dqo_167 0 6 (by decide) (kb_of ke_L_size 10 rfl) (kb_of ke_L_size 11 rfl) (kb_of ke_L_size 12 rfl)
theorem dL_size_13 : decode cL_size 13 = .ok (.astore_n 3, 1) := dqo_78 (kb_of ke_L_size 13 rfl)
theorem dL_size_14 : decode cL_size 14 = .ok (.iconst 1, 1) := dqo_4 (kb_of ke_L_size 14 rfl)
theorem dL_size_15 : decode cL_size 15 = .ok (.ireturn, 1) := dqo_172 (kb_of ke_L_size 15 rfl)
theorem dL_size_16 : decode cL_size 16 = .ok (.iconst 0, 1) := dqo_3 (kb_of ke_L_size 16 rfl)
theorem dL_size_17 : decode cL_size 17 = .ok (.ireturn, 1) := dqo_172 (kb_of ke_L_size 17 rfl)
theorem qcw_L_size : Cond.codeWith yL_size cL_size 4 (some .int) [(0, 10, 13, 19)] ∈ GW := gw_4 155 rfl rfl
theorem pk_L_size : PkH yL_size cL_size 4 (some .int) [(0, 10, 13, 19)] 3 := ⟨⟨qt_L_size, qz_L, qcw_L_size⟩, mh_L.1, mh_L.2, pd_48⟩
theorem pk_X2_size : PkV RX2 yX2_size cX2_size 2 (some .int) 1 := ⟨⟨qi_X2_size, qs_X2_size, qz_X2, qc_X2_size⟩, rfl, mh_X2.1, mh_X2.2, pd_1⟩
theorem W_size {l : Launch} {D : va_G} {cy : Nat → ClassId} {X : (Nat → Prop) → State → Heap → Prop} {a : Nat → Nat → Nat} {ba ra : Nat → Nat} {f : Nat → Nat → Nat} {r : Nat → Nat → Int32} {hf : Nat → Nat → Nat} {hq : Nat → Nat → Int32} {kn th : Int32} {sm : Int64} {o : Nat} {n0 : Int64} {s0 : Value} {x0 : Int32} (hX : EnvX X) (hN : EnvN X) (hC : CInv f) (hB : RB r) (hM : MR f r hf hq) (hp : PR l D cy X a ba ra f r hf hq kn th sm yX2_size cX2_size 2 (some .int) yX4_size cX4_size 2 (some .int) (rmk 9 4 48 420) [.int x0] [("java/lang/IndexOutOfBoundsException", 1)]) : CmH l D cy X yL_size cL_size 4 (some .int) [(0, 10, 13, 19)] (rmk 9 1 6 300) [.ref (a 0 0), .int x0, .ref o] (WC cy a f r kn ++ (WM cy ba ra hf hq kn th sm ++ [OUTo o n0 s0])) (fun v1 w1 => ∃ (f' : Nat → Nat → Nat) (r' : Nat → Nat → Int32) (k : Nat) (n1 : Int64), v1 = some (.int (nI k)) ∧ w1 = WC cy a f' r' kn ++ (WM cy ba ra hf hq kn th sm ++ [OUTo o n1 s0]) ∧ PN l D cy X ba ra hf hq kn th sm yX4_size cX4_size 2 (some .int) (rmk 9 4 48 420) [.int x0] cvI f' r' k n1) (fun _ => False) := by
  refine CmH.of [some (.ref (a 0 0)), some (.int x0), some (.ref o), none] pn_L rfl (Nat.le_of_ble_eq_true rfl) ?_
  intro p e s m args below meth c A C hE hr hnt
  refine r_aload_n C dL_size_0 rfl ?_
  refine r_aload_n C dL_size_1 rfl ?_
  refine r_iload_n C dL_size_2 rfl ?_
  rcases hp.two cvI (by simp) hC hB hM with ⟨E, k, hm, h1, h2⟩ | ⟨f', r', n, h1, h2⟩
  · refine c_V (st := [.ref o]) hX.stb C hE (h1 _) pk_X2_size qm_L_67 0 6 rfl rfl wc_0 rfl rfl (Nat.le_of_ble_eq_true rfl) dL_size_3 ⟨(Nat.le_of_ble_eq_true rfl), (Nat.le_of_ble_eq_true rfl)⟩ ⟨(Nat.le_of_ble_eq_true rfl), (Nat.le_of_ble_eq_true rfl)⟩ (fun _ _ h9 => h9.elim) (fun E1 hE1 => ?_)
    subst hE1
    simp only [List.mem_cons, List.not_mem_nil, or_false, Prod.mk.injEq] at hm
    obtain ⟨rfl, rfl⟩ := hm
    refine r_catch (name := "java/lang/IndexOutOfBoundsException") C [] ⟨0, 10, 13, 19⟩ [] (hnt.trans rfl) (fun z hz => absurd hz List.not_mem_nil) rfl (by decide) (C.2.2.2.2.1 _ qk_L_19) (hX.nw qca_IOB rfl hE) (fun q => ?_)
    refine r_astore_n C dL_size_13 (by decide) rfl ?_
    refine r_iconst (v := nI 1) C dL_size_14 (by decide) ?_
    exact r_iret C hr dL_size_15 ⟨_, _, _, _, rfl, rfl, h2 _⟩ (Nat.le_of_ble_eq_true rfl) (Nat.le_of_ble_eq_true rfl)
  · refine c_V (st := [.ref o]) hX.stb C hE (h1 _) pk_X2_size qm_L_67 0 6 rfl rfl wc_0 rfl rfl (Nat.le_of_ble_eq_true rfl) dL_size_3 ⟨(Nat.le_of_ble_eq_true rfl), (Nat.le_of_ble_eq_true rfl)⟩ ⟨(Nat.le_of_ble_eq_true rfl), (Nat.le_of_ble_eq_true rfl)⟩ (fun v9 w9 h9 => ?_) (fun _ h9 => h9.elim)
    obtain ⟨rfl, rfl⟩ := h9
    refine r_i2l C dL_size_6 ?_
    refine g_putN hX C hE qu_X3 tyX3 tyX3_ok nmX3 (ci := 7) rfl 38 outo_at 0 (by decide) qn_L_13 rfl rfl (ty := .long) rfl rfl rfl (show 0 < 2 by omega) dL_size_7 outo_set ?_
    refine r_goto (tgt := 16) C dL_size_10 (by decide) ?_
    refine r_iconst (v := nI 0) C dL_size_16 (by decide) ?_
    exact r_iret C hr dL_size_17 ⟨_, _, _, _, rfl, rfl, h2⟩ (Nat.le_of_ble_eq_true rfl) (Nat.le_of_ble_eq_true rfl)
theorem dL_partAt_0 : decode cL_partAt 0 = .ok (.aload_n 3, 1) := dqo_45 (kb_of ke_L_partAt 0 rfl)
theorem dL_partAt_1 : decode cL_partAt 1 = .ok (.aload_n 0, 1) := dqo_42 (kb_of ke_L_partAt 1 rfl)
theorem dL_partAt_2 : decode cL_partAt 2 = .ok (.iload_n 1, 1) := dqo_27 (kb_of ke_L_partAt 2 rfl)
theorem dL_partAt_3 : decode cL_partAt 3 = .ok (.iload_n 2, 1) := dqo_28 (kb_of ke_L_partAt 3 rfl)
theorem dL_partAt_4 : decode cL_partAt 4 = .ok (.invokevirtual 70, 3) := dqo_182 0 70 (kb_of ke_L_partAt 4 rfl) (kb_of ke_L_partAt 5 rfl) (kb_of ke_L_partAt 6 rfl)
theorem dL_partAt_7 : decode cL_partAt 7 = .ok (.i2l, 1) := dqo_133 (kb_of ke_L_partAt 7 rfl)
theorem dL_partAt_8 : decode cL_partAt 8 = .ok (.putfield 13, 3) := dqo_181 0 13 (kb_of ke_L_partAt 8 rfl) (kb_of ke_L_partAt 9 rfl) (kb_of ke_L_partAt 10 rfl)
theorem dL_partAt_11 : decode cL_partAt 11 = .ok (.goto 7, 3) := dqo_167 0 7 (by decide) (kb_of ke_L_partAt 11 rfl) (kb_of ke_L_partAt 12 rfl) (kb_of ke_L_partAt 13 rfl)
theorem dL_partAt_14 : decode cL_partAt 14 = .ok (.astore 4, 2) := dqo_58 4 (kb_of ke_L_partAt 14 rfl) (kb_of ke_L_partAt 15 rfl)
theorem dL_partAt_16 : decode cL_partAt 16 = .ok (.iconst 1, 1) := dqo_4 (kb_of ke_L_partAt 16 rfl)
theorem dL_partAt_17 : decode cL_partAt 17 = .ok (.ireturn, 1) := dqo_172 (kb_of ke_L_partAt 17 rfl)
theorem dL_partAt_18 : decode cL_partAt 18 = .ok (.iconst 0, 1) := dqo_3 (kb_of ke_L_partAt 18 rfl)
theorem dL_partAt_19 : decode cL_partAt 19 = .ok (.ireturn, 1) := dqo_172 (kb_of ke_L_partAt 19 rfl)
theorem qcw_L_partAt : Cond.codeWith yL_partAt cL_partAt 5 (some .int) [(0, 11, 14, 19)] ∈ GW := gw_4 162 rfl rfl
theorem pk_L_partAt : PkH yL_partAt cL_partAt 5 (some .int) [(0, 11, 14, 19)] 4 := ⟨⟨qt_L_partAt, qz_L, qcw_L_partAt⟩, mh_L.1, mh_L.2, pd_46⟩
theorem pk_X2_partAt : PkV RX2 yX2_partAt cX2_partAt 3 (some .int) 2 := ⟨⟨qi_X2_partAt, qs_X2_partAt, qz_X2, qc_X2_partAt⟩, rfl, mh_X2.1, mh_X2.2, pd_0⟩
theorem W_partAt {l : Launch} {D : va_G} {cy : Nat → ClassId} {X : (Nat → Prop) → State → Heap → Prop} {a : Nat → Nat → Nat} {ba ra : Nat → Nat} {f : Nat → Nat → Nat} {r : Nat → Nat → Int32} {hf : Nat → Nat → Nat} {hq : Nat → Nat → Int32} {kn th : Int32} {sm : Int64} {o : Nat} {n0 : Int64} {s0 : Value} {x0 x1 : Int32} (hX : EnvX X) (hN : EnvN X) (hC : CInv f) (hB : RB r) (hM : MR f r hf hq) (hp : PR l D cy X a ba ra f r hf hq kn th sm yX2_partAt cX2_partAt 3 (some .int) yX4_partAt cX4_partAt 3 (some .int) (rmk 9 4 48 420) [.int x0, .int x1] [("java/lang/IndexOutOfBoundsException", 1)]) : CmH l D cy X yL_partAt cL_partAt 5 (some .int) [(0, 11, 14, 19)] (rmk 9 1 6 300) [.ref (a 0 0), .int x0, .int x1, .ref o] (WC cy a f r kn ++ (WM cy ba ra hf hq kn th sm ++ [OUTo o n0 s0])) (fun v1 w1 => ∃ (f' : Nat → Nat → Nat) (r' : Nat → Nat → Int32) (k : Nat) (n1 : Int64), v1 = some (.int (nI k)) ∧ w1 = WC cy a f' r' kn ++ (WM cy ba ra hf hq kn th sm ++ [OUTo o n1 s0]) ∧ PN l D cy X ba ra hf hq kn th sm yX4_partAt cX4_partAt 3 (some .int) (rmk 9 4 48 420) [.int x0, .int x1] cvI f' r' k n1) (fun _ => False) := by
  refine CmH.of [some (.ref (a 0 0)), some (.int x0), some (.int x1), some (.ref o), none] pn_L rfl (Nat.le_of_ble_eq_true rfl) ?_
  intro p e s m args below meth c A C hE hr hnt
  refine r_aload_n C dL_partAt_0 rfl ?_
  refine r_aload_n C dL_partAt_1 rfl ?_
  refine r_iload_n C dL_partAt_2 rfl ?_
  refine r_iload_n C dL_partAt_3 rfl ?_
  rcases hp.two cvI (by simp) hC hB hM with ⟨E, k, hm, h1, h2⟩ | ⟨f', r', n, h1, h2⟩
  · refine c_V (st := [.ref o]) hX.stb C hE (h1 _) pk_X2_partAt qm_L_70 0 6 rfl rfl wc_0 rfl rfl (Nat.le_of_ble_eq_true rfl) dL_partAt_4 ⟨(Nat.le_of_ble_eq_true rfl), (Nat.le_of_ble_eq_true rfl)⟩ ⟨(Nat.le_of_ble_eq_true rfl), (Nat.le_of_ble_eq_true rfl)⟩ (fun _ _ h9 => h9.elim) (fun E1 hE1 => ?_)
    subst hE1
    simp only [List.mem_cons, List.not_mem_nil, or_false, Prod.mk.injEq] at hm
    obtain ⟨rfl, rfl⟩ := hm
    refine r_catch (name := "java/lang/IndexOutOfBoundsException") C [] ⟨0, 11, 14, 19⟩ [] (hnt.trans rfl) (fun z hz => absurd hz List.not_mem_nil) rfl (by decide) (C.2.2.2.2.1 _ qk_L_19) (hX.nw qca_IOB rfl hE) (fun q => ?_)
    refine r_astore C dL_partAt_14 (by decide) rfl ?_
    refine r_iconst (v := nI 1) C dL_partAt_16 (by decide) ?_
    exact r_iret C hr dL_partAt_17 ⟨_, _, _, _, rfl, rfl, h2 _⟩ (Nat.le_of_ble_eq_true rfl) (Nat.le_of_ble_eq_true rfl)
  · refine c_V (st := [.ref o]) hX.stb C hE (h1 _) pk_X2_partAt qm_L_70 0 6 rfl rfl wc_0 rfl rfl (Nat.le_of_ble_eq_true rfl) dL_partAt_4 ⟨(Nat.le_of_ble_eq_true rfl), (Nat.le_of_ble_eq_true rfl)⟩ ⟨(Nat.le_of_ble_eq_true rfl), (Nat.le_of_ble_eq_true rfl)⟩ (fun v9 w9 h9 => ?_) (fun _ h9 => h9.elim)
    obtain ⟨rfl, rfl⟩ := h9
    refine r_i2l C dL_partAt_7 ?_
    refine g_putN hX C hE qu_X3 tyX3 tyX3_ok nmX3 (ci := 7) rfl 38 outo_at 0 (by decide) qn_L_13 rfl rfl (ty := .long) rfl rfl rfl (show 0 < 2 by omega) dL_partAt_8 outo_set ?_
    refine r_goto (tgt := 18) C dL_partAt_11 (by decide) ?_
    refine r_iconst (v := nI 0) C dL_partAt_18 (by decide) ?_
    exact r_iret C hr dL_partAt_19 ⟨_, _, _, _, rfl, rfl, h2⟩ (Nat.le_of_ble_eq_true rfl) (Nat.le_of_ble_eq_true rfl)
theorem dL_fill_0 : decode cL_fill 0 = .ok (.aload_n 3, 1) := dqo_45 (kb_of ke_L_fill 0 rfl)
theorem dL_fill_1 : decode cL_fill 1 = .ok (.aload_n 0, 1) := dqo_42 (kb_of ke_L_fill 1 rfl)
theorem dL_fill_2 : decode cL_fill 2 = .ok (.iload_n 1, 1) := dqo_27 (kb_of ke_L_fill 2 rfl)
theorem dL_fill_3 : decode cL_fill 3 = .ok (.iload_n 2, 1) := dqo_28 (kb_of ke_L_fill 3 rfl)
theorem dL_fill_4 : decode cL_fill 4 = .ok (.invokevirtual 73, 3) := dqo_182 0 73 (kb_of ke_L_fill 4 rfl) (kb_of ke_L_fill 5 rfl) (kb_of ke_L_fill 6 rfl)
theorem dL_fill_7 : decode cL_fill 7 = .ok (.i2l, 1) := dqo_133 (kb_of ke_L_fill 7 rfl)
theorem dL_fill_8 : decode cL_fill 8 = .ok (.putfield 13, 3) := dqo_181 0 13 (kb_of ke_L_fill 8 rfl) (kb_of ke_L_fill 9 rfl) (kb_of ke_L_fill 10 rfl)
theorem dL_fill_11 : decode cL_fill 11 = .ok (.goto 11, 3) := dqo_167 0 11 (by decide) (kb_of ke_L_fill 11 rfl) (kb_of ke_L_fill 12 rfl) (kb_of ke_L_fill 13 rfl)
theorem dL_fill_14 : decode cL_fill 14 = .ok (.astore 4, 2) := dqo_58 4 (kb_of ke_L_fill 14 rfl) (kb_of ke_L_fill 15 rfl)
theorem dL_fill_16 : decode cL_fill 16 = .ok (.iconst 1, 1) := dqo_4 (kb_of ke_L_fill 16 rfl)
theorem dL_fill_17 : decode cL_fill 17 = .ok (.ireturn, 1) := dqo_172 (kb_of ke_L_fill 17 rfl)
theorem dL_fill_18 : decode cL_fill 18 = .ok (.astore 4, 2) := dqo_58 4 (kb_of ke_L_fill 18 rfl) (kb_of ke_L_fill 19 rfl)
theorem dL_fill_20 : decode cL_fill 20 = .ok (.iconst 2, 1) := dqo_5 (kb_of ke_L_fill 20 rfl)
theorem dL_fill_21 : decode cL_fill 21 = .ok (.ireturn, 1) := dqo_172 (kb_of ke_L_fill 21 rfl)
theorem dL_fill_22 : decode cL_fill 22 = .ok (.iconst 0, 1) := dqo_3 (kb_of ke_L_fill 22 rfl)
theorem dL_fill_23 : decode cL_fill 23 = .ok (.ireturn, 1) := dqo_172 (kb_of ke_L_fill 23 rfl)
theorem qcw_L_fill : Cond.codeWith yL_fill cL_fill 5 (some .int) [(0, 11, 14, 19), (0, 11, 18, 21)] ∈ GW := gw_4 169 rfl rfl
theorem pk_L_fill : PkH yL_fill cL_fill 5 (some .int) [(0, 11, 14, 19), (0, 11, 18, 21)] 4 := ⟨⟨qt_L_fill, qz_L, qcw_L_fill⟩, mh_L.1, mh_L.2, pd_46⟩
theorem pk_X2_fill : PkV RX2 yX2_fill cX2_fill 4 (some .int) 2 := ⟨⟨qi_X2_fill, qs_X2_fill, qz_X2, qc_X2_fill⟩, rfl, mh_X2.1, mh_X2.2, pd_0⟩
theorem W_fill {l : Launch} {D : va_G} {cy : Nat → ClassId} {X : (Nat → Prop) → State → Heap → Prop} {a : Nat → Nat → Nat} {ba ra : Nat → Nat} {f : Nat → Nat → Nat} {r : Nat → Nat → Int32} {hf : Nat → Nat → Nat} {hq : Nat → Nat → Int32} {kn th : Int32} {sm : Int64} {o : Nat} {n0 : Int64} {s0 : Value} {x0 x1 : Int32} (hX : EnvX X) (hN : EnvN X) (hC : CInv f) (hB : RB r) (hM : MR f r hf hq) (hp : PR l D cy X a ba ra f r hf hq kn th sm yX2_fill cX2_fill 4 (some .int) yX4_fill cX4_fill 4 (some .int) (rmk 9 4 48 420) [.int x0, .int x1] [("java/lang/IndexOutOfBoundsException", 1), ("java/lang/IllegalArgumentException", 2)]) : CmH l D cy X yL_fill cL_fill 5 (some .int) [(0, 11, 14, 19), (0, 11, 18, 21)] (rmk 9 1 6 300) [.ref (a 0 0), .int x0, .int x1, .ref o] (WC cy a f r kn ++ (WM cy ba ra hf hq kn th sm ++ [OUTo o n0 s0])) (fun v1 w1 => ∃ (f' : Nat → Nat → Nat) (r' : Nat → Nat → Int32) (k : Nat) (n1 : Int64), v1 = some (.int (nI k)) ∧ w1 = WC cy a f' r' kn ++ (WM cy ba ra hf hq kn th sm ++ [OUTo o n1 s0]) ∧ PN l D cy X ba ra hf hq kn th sm yX4_fill cX4_fill 4 (some .int) (rmk 9 4 48 420) [.int x0, .int x1] cvI f' r' k n1) (fun _ => False) := by
  refine CmH.of [some (.ref (a 0 0)), some (.int x0), some (.int x1), some (.ref o), none] pn_L rfl (Nat.le_of_ble_eq_true rfl) ?_
  intro p e s m args below meth c A C hE hr hnt
  refine r_aload_n C dL_fill_0 rfl ?_
  refine r_aload_n C dL_fill_1 rfl ?_
  refine r_iload_n C dL_fill_2 rfl ?_
  refine r_iload_n C dL_fill_3 rfl ?_
  rcases hp.two cvI (by simp) hC hB hM with ⟨E, k, hm, h1, h2⟩ | ⟨f', r', n, h1, h2⟩
  · refine c_V (st := [.ref o]) hX.stb C hE (h1 _) pk_X2_fill qm_L_73 0 6 rfl rfl wc_0 rfl rfl (Nat.le_of_ble_eq_true rfl) dL_fill_4 ⟨(Nat.le_of_ble_eq_true rfl), (Nat.le_of_ble_eq_true rfl)⟩ ⟨(Nat.le_of_ble_eq_true rfl), (Nat.le_of_ble_eq_true rfl)⟩ (fun _ _ h9 => h9.elim) (fun E1 hE1 => ?_)
    subst hE1
    simp only [List.mem_cons, List.not_mem_nil, or_false, Prod.mk.injEq] at hm
    rcases hm with ⟨rfl, rfl⟩ | ⟨rfl, rfl⟩
    · refine r_catch (name := "java/lang/IndexOutOfBoundsException") C [] ⟨0, 11, 14, 19⟩ [⟨0, 11, 18, 21⟩] (hnt.trans rfl) (fun z hz => absurd hz List.not_mem_nil) rfl (by decide) (C.2.2.2.2.1 _ qk_L_19) (hX.nw qca_IOB rfl hE) (fun q => ?_)
      refine r_astore C dL_fill_14 (by decide) rfl ?_
      refine r_iconst (v := nI 1) C dL_fill_16 (by decide) ?_
      exact r_iret C hr dL_fill_17 ⟨_, _, _, _, rfl, rfl, h2 _⟩ (Nat.le_of_ble_eq_true rfl) (Nat.le_of_ble_eq_true rfl)
    · refine r_catch (name := "java/lang/IllegalArgumentException") C [⟨0, 11, 14, 19⟩] ⟨0, 11, 18, 21⟩ [] (hnt.trans rfl) (fun z hz => by
        simp only [List.mem_cons, List.not_mem_nil, or_false] at hz
        subst hz
        exact Or.inr ⟨by decide, "java/lang/IndexOutOfBoundsException", C.2.2.2.2.1 _ qk_L_19, hN ("java/lang/IllegalArgumentException", "java/lang/IndexOutOfBoundsException") (by simp [NCL]) _ _ _ hE⟩) rfl (by decide) (C.2.2.2.2.1 _ qk_L_21) (hX.nw qca_IAE rfl hE) (fun q => ?_)
      refine r_astore C dL_fill_18 (by decide) rfl ?_
      refine r_iconst (v := nI 2) C dL_fill_20 (by decide) ?_
      exact r_iret C hr dL_fill_21 ⟨_, _, _, _, rfl, rfl, h2 _⟩ (Nat.le_of_ble_eq_true rfl) (Nat.le_of_ble_eq_true rfl)
  · refine c_V (st := [.ref o]) hX.stb C hE (h1 _) pk_X2_fill qm_L_73 0 6 rfl rfl wc_0 rfl rfl (Nat.le_of_ble_eq_true rfl) dL_fill_4 ⟨(Nat.le_of_ble_eq_true rfl), (Nat.le_of_ble_eq_true rfl)⟩ ⟨(Nat.le_of_ble_eq_true rfl), (Nat.le_of_ble_eq_true rfl)⟩ (fun v9 w9 h9 => ?_) (fun _ h9 => h9.elim)
    obtain ⟨rfl, rfl⟩ := h9
    refine r_i2l C dL_fill_7 ?_
    refine g_putN hX C hE qu_X3 tyX3 tyX3_ok nmX3 (ci := 7) rfl 38 outo_at 0 (by decide) qn_L_13 rfl rfl (ty := .long) rfl rfl rfl (show 0 < 2 by omega) dL_fill_8 outo_set ?_
    refine r_goto (tgt := 22) C dL_fill_11 (by decide) ?_
    refine r_iconst (v := nI 0) C dL_fill_22 (by decide) ?_
    exact r_iret C hr dL_fill_23 ⟨_, _, _, _, rfl, rfl, h2⟩ (Nat.le_of_ble_eq_true rfl) (Nat.le_of_ble_eq_true rfl)
theorem dL_removeItem_0 : decode cL_removeItem 0 = .ok (.aload_n 3, 1) := dqo_45 (kb_of ke_L_removeItem 0 rfl)
theorem dL_removeItem_1 : decode cL_removeItem 1 = .ok (.aload_n 0, 1) := dqo_42 (kb_of ke_L_removeItem 1 rfl)
theorem dL_removeItem_2 : decode cL_removeItem 2 = .ok (.iload_n 1, 1) := dqo_27 (kb_of ke_L_removeItem 2 rfl)
theorem dL_removeItem_3 : decode cL_removeItem 3 = .ok (.iload_n 2, 1) := dqo_28 (kb_of ke_L_removeItem 3 rfl)
theorem dL_removeItem_4 : decode cL_removeItem 4 = .ok (.invokevirtual 76, 3) := dqo_182 0 76 (kb_of ke_L_removeItem 4 rfl) (kb_of ke_L_removeItem 5 rfl) (kb_of ke_L_removeItem 6 rfl)
theorem dL_removeItem_7 : decode cL_removeItem 7 = .ok (.i2l, 1) := dqo_133 (kb_of ke_L_removeItem 7 rfl)
theorem dL_removeItem_8 : decode cL_removeItem 8 = .ok (.putfield 13, 3) := dqo_181 0 13 (kb_of ke_L_removeItem 8 rfl) (kb_of ke_L_removeItem 9 rfl) (kb_of ke_L_removeItem 10 rfl)
theorem dL_removeItem_11 : decode cL_removeItem 11 = .ok (.goto 7, 3) := dqo_167 0 7 (by decide) (kb_of ke_L_removeItem 11 rfl) (kb_of ke_L_removeItem 12 rfl) (kb_of ke_L_removeItem 13 rfl)
theorem dL_removeItem_14 : decode cL_removeItem 14 = .ok (.astore 4, 2) := dqo_58 4 (kb_of ke_L_removeItem 14 rfl) (kb_of ke_L_removeItem 15 rfl)
theorem dL_removeItem_16 : decode cL_removeItem 16 = .ok (.iconst 1, 1) := dqo_4 (kb_of ke_L_removeItem 16 rfl)
theorem dL_removeItem_17 : decode cL_removeItem 17 = .ok (.ireturn, 1) := dqo_172 (kb_of ke_L_removeItem 17 rfl)
theorem dL_removeItem_18 : decode cL_removeItem 18 = .ok (.iconst 0, 1) := dqo_3 (kb_of ke_L_removeItem 18 rfl)
theorem dL_removeItem_19 : decode cL_removeItem 19 = .ok (.ireturn, 1) := dqo_172 (kb_of ke_L_removeItem 19 rfl)
theorem qcw_L_removeItem : Cond.codeWith yL_removeItem cL_removeItem 5 (some .int) [(0, 11, 14, 19)] ∈ GW := gw_4 180 rfl rfl
theorem pk_L_removeItem : PkH yL_removeItem cL_removeItem 5 (some .int) [(0, 11, 14, 19)] 4 := ⟨⟨qt_L_removeItem, qz_L, qcw_L_removeItem⟩, mh_L.1, mh_L.2, pd_46⟩
theorem pk_X2_removeItem : PkV RX2 yX2_removeItem cX2_removeItem 4 (some .int) 2 := ⟨⟨qi_X2_removeItem, qs_X2_removeItem, qz_X2, qc_X2_removeItem⟩, rfl, mh_X2.1, mh_X2.2, pd_0⟩
theorem W_removeItem {l : Launch} {D : va_G} {cy : Nat → ClassId} {X : (Nat → Prop) → State → Heap → Prop} {a : Nat → Nat → Nat} {ba ra : Nat → Nat} {f : Nat → Nat → Nat} {r : Nat → Nat → Int32} {hf : Nat → Nat → Nat} {hq : Nat → Nat → Int32} {kn th : Int32} {sm : Int64} {o : Nat} {n0 : Int64} {s0 : Value} {x0 x1 : Int32} (hX : EnvX X) (hN : EnvN X) (hC : CInv f) (hB : RB r) (hM : MR f r hf hq) (hp : PR l D cy X a ba ra f r hf hq kn th sm yX2_removeItem cX2_removeItem 4 (some .int) yX4_removeItem cX4_removeItem 4 (some .int) (rmk 9 4 48 420) [.int x0, .int x1] [("java/lang/IndexOutOfBoundsException", 1)]) : CmH l D cy X yL_removeItem cL_removeItem 5 (some .int) [(0, 11, 14, 19)] (rmk 9 1 6 300) [.ref (a 0 0), .int x0, .int x1, .ref o] (WC cy a f r kn ++ (WM cy ba ra hf hq kn th sm ++ [OUTo o n0 s0])) (fun v1 w1 => ∃ (f' : Nat → Nat → Nat) (r' : Nat → Nat → Int32) (k : Nat) (n1 : Int64), v1 = some (.int (nI k)) ∧ w1 = WC cy a f' r' kn ++ (WM cy ba ra hf hq kn th sm ++ [OUTo o n1 s0]) ∧ PN l D cy X ba ra hf hq kn th sm yX4_removeItem cX4_removeItem 4 (some .int) (rmk 9 4 48 420) [.int x0, .int x1] cvI f' r' k n1) (fun _ => False) := by
  refine CmH.of [some (.ref (a 0 0)), some (.int x0), some (.int x1), some (.ref o), none] pn_L rfl (Nat.le_of_ble_eq_true rfl) ?_
  intro p e s m args below meth c A C hE hr hnt
  refine r_aload_n C dL_removeItem_0 rfl ?_
  refine r_aload_n C dL_removeItem_1 rfl ?_
  refine r_iload_n C dL_removeItem_2 rfl ?_
  refine r_iload_n C dL_removeItem_3 rfl ?_
  rcases hp.two cvI (by simp) hC hB hM with ⟨E, k, hm, h1, h2⟩ | ⟨f', r', n, h1, h2⟩
  · refine c_V (st := [.ref o]) hX.stb C hE (h1 _) pk_X2_removeItem qm_L_76 0 6 rfl rfl wc_0 rfl rfl (Nat.le_of_ble_eq_true rfl) dL_removeItem_4 ⟨(Nat.le_of_ble_eq_true rfl), (Nat.le_of_ble_eq_true rfl)⟩ ⟨(Nat.le_of_ble_eq_true rfl), (Nat.le_of_ble_eq_true rfl)⟩ (fun _ _ h9 => h9.elim) (fun E1 hE1 => ?_)
    subst hE1
    simp only [List.mem_cons, List.not_mem_nil, or_false, Prod.mk.injEq] at hm
    obtain ⟨rfl, rfl⟩ := hm
    refine r_catch (name := "java/lang/IndexOutOfBoundsException") C [] ⟨0, 11, 14, 19⟩ [] (hnt.trans rfl) (fun z hz => absurd hz List.not_mem_nil) rfl (by decide) (C.2.2.2.2.1 _ qk_L_19) (hX.nw qca_IOB rfl hE) (fun q => ?_)
    refine r_astore C dL_removeItem_14 (by decide) rfl ?_
    refine r_iconst (v := nI 1) C dL_removeItem_16 (by decide) ?_
    exact r_iret C hr dL_removeItem_17 ⟨_, _, _, _, rfl, rfl, h2 _⟩ (Nat.le_of_ble_eq_true rfl) (Nat.le_of_ble_eq_true rfl)
  · refine c_V (st := [.ref o]) hX.stb C hE (h1 _) pk_X2_removeItem qm_L_76 0 6 rfl rfl wc_0 rfl rfl (Nat.le_of_ble_eq_true rfl) dL_removeItem_4 ⟨(Nat.le_of_ble_eq_true rfl), (Nat.le_of_ble_eq_true rfl)⟩ ⟨(Nat.le_of_ble_eq_true rfl), (Nat.le_of_ble_eq_true rfl)⟩ (fun v9 w9 h9 => ?_) (fun _ h9 => h9.elim)
    obtain ⟨rfl, rfl⟩ := h9
    refine r_i2l C dL_removeItem_7 ?_
    refine g_putN hX C hE qu_X3 tyX3 tyX3_ok nmX3 (ci := 7) rfl 38 outo_at 0 (by decide) qn_L_13 rfl rfl (ty := .long) rfl rfl rfl (show 0 < 2 by omega) dL_removeItem_8 outo_set ?_
    refine r_goto (tgt := 18) C dL_removeItem_11 (by decide) ?_
    refine r_iconst (v := nI 0) C dL_removeItem_18 (by decide) ?_
    exact r_iret C hr dL_removeItem_19 ⟨_, _, _, _, rfl, rfl, h2⟩ (Nat.le_of_ble_eq_true rfl) (Nat.le_of_ble_eq_true rfl)
theorem dL_addAll_0 : decode cL_addAll 0 = .ok (.aload 4, 2) := dqo_25 4 (kb_of ke_L_addAll 0 rfl) (kb_of ke_L_addAll 1 rfl)
theorem dL_addAll_2 : decode cL_addAll 2 = .ok (.aload_n 0, 1) := dqo_42 (kb_of ke_L_addAll 2 rfl)
theorem dL_addAll_3 : decode cL_addAll 3 = .ok (.iload_n 1, 1) := dqo_27 (kb_of ke_L_addAll 3 rfl)
theorem dL_addAll_4 : decode cL_addAll 4 = .ok (.iload_n 2, 1) := dqo_28 (kb_of ke_L_addAll 4 rfl)
theorem dL_addAll_5 : decode cL_addAll 5 = .ok (.iload_n 3, 1) := dqo_29 (kb_of ke_L_addAll 5 rfl)
theorem dL_addAll_6 : decode cL_addAll 6 = .ok (.invokevirtual 79, 3) := dqo_182 0 79 (kb_of ke_L_addAll 6 rfl) (kb_of ke_L_addAll 7 rfl) (kb_of ke_L_addAll 8 rfl)
theorem dL_addAll_9 : decode cL_addAll 9 = .ok (.i2l, 1) := dqo_133 (kb_of ke_L_addAll 9 rfl)
theorem dL_addAll_10 : decode cL_addAll 10 = .ok (.putfield 13, 3) := dqo_181 0 13 (kb_of ke_L_addAll 10 rfl) (kb_of ke_L_addAll 11 rfl) (kb_of ke_L_addAll 12 rfl)
theorem dL_addAll_13 : decode cL_addAll 13 = .ok (.goto 11, 3) := dqo_167 0 11 (by decide) (kb_of ke_L_addAll 13 rfl) (kb_of ke_L_addAll 14 rfl) (kb_of ke_L_addAll 15 rfl)
theorem dL_addAll_16 : decode cL_addAll 16 = .ok (.astore 5, 2) := dqo_58 5 (kb_of ke_L_addAll 16 rfl) (kb_of ke_L_addAll 17 rfl)
theorem dL_addAll_18 : decode cL_addAll 18 = .ok (.iconst 1, 1) := dqo_4 (kb_of ke_L_addAll 18 rfl)
theorem dL_addAll_19 : decode cL_addAll 19 = .ok (.ireturn, 1) := dqo_172 (kb_of ke_L_addAll 19 rfl)
theorem dL_addAll_20 : decode cL_addAll 20 = .ok (.astore 5, 2) := dqo_58 5 (kb_of ke_L_addAll 20 rfl) (kb_of ke_L_addAll 21 rfl)
theorem dL_addAll_22 : decode cL_addAll 22 = .ok (.iconst 2, 1) := dqo_5 (kb_of ke_L_addAll 22 rfl)
theorem dL_addAll_23 : decode cL_addAll 23 = .ok (.ireturn, 1) := dqo_172 (kb_of ke_L_addAll 23 rfl)
theorem dL_addAll_24 : decode cL_addAll 24 = .ok (.iconst 0, 1) := dqo_3 (kb_of ke_L_addAll 24 rfl)
theorem dL_addAll_25 : decode cL_addAll 25 = .ok (.ireturn, 1) := dqo_172 (kb_of ke_L_addAll 25 rfl)
theorem qcw_L_addAll : Cond.codeWith yL_addAll cL_addAll 6 (some .int) [(0, 13, 16, 19), (0, 13, 20, 23)] ∈ GW := gw_4 191 rfl rfl
theorem pk_L_addAll : PkH yL_addAll cL_addAll 6 (some .int) [(0, 13, 16, 19), (0, 13, 20, 23)] 5 := ⟨⟨qt_L_addAll, qz_L, qcw_L_addAll⟩, mh_L.1, mh_L.2, pd_47⟩
theorem pk_X2_addAll : PkV RX2 yX2_addAll cX2_addAll 5 (some .int) 3 := ⟨⟨qi_X2_addAll, qs_X2_addAll, qz_X2, qc_X2_addAll⟩, rfl, mh_X2.1, mh_X2.2, pd_28⟩
theorem W_addAll {l : Launch} {D : va_G} {cy : Nat → ClassId} {X : (Nat → Prop) → State → Heap → Prop} {a : Nat → Nat → Nat} {ba ra : Nat → Nat} {f : Nat → Nat → Nat} {r : Nat → Nat → Int32} {hf : Nat → Nat → Nat} {hq : Nat → Nat → Int32} {kn th : Int32} {sm : Int64} {o : Nat} {n0 : Int64} {s0 : Value} {x0 x1 x2 : Int32} (hX : EnvX X) (hN : EnvN X) (hC : CInv f) (hB : RB r) (hM : MR f r hf hq) (hp : PR l D cy X a ba ra f r hf hq kn th sm yX2_addAll cX2_addAll 5 (some .int) yX4_addAll cX4_addAll 5 (some .int) (rmk 9 4 48 420) [.int x0, .int x1, .int x2] [("java/lang/IndexOutOfBoundsException", 1), ("java/lang/IllegalStateException", 2)]) : CmH l D cy X yL_addAll cL_addAll 6 (some .int) [(0, 13, 16, 19), (0, 13, 20, 23)] (rmk 9 1 6 300) [.ref (a 0 0), .int x0, .int x1, .int x2, .ref o] (WC cy a f r kn ++ (WM cy ba ra hf hq kn th sm ++ [OUTo o n0 s0])) (fun v1 w1 => ∃ (f' : Nat → Nat → Nat) (r' : Nat → Nat → Int32) (k : Nat) (n1 : Int64), v1 = some (.int (nI k)) ∧ w1 = WC cy a f' r' kn ++ (WM cy ba ra hf hq kn th sm ++ [OUTo o n1 s0]) ∧ PN l D cy X ba ra hf hq kn th sm yX4_addAll cX4_addAll 5 (some .int) (rmk 9 4 48 420) [.int x0, .int x1, .int x2] cvI f' r' k n1) (fun _ => False) := by
  refine CmH.of [some (.ref (a 0 0)), some (.int x0), some (.int x1), some (.int x2), some (.ref o), none] pn_L rfl (Nat.le_of_ble_eq_true rfl) ?_
  intro p e s m args below meth c A C hE hr hnt
  refine r_aload C dL_addAll_0 rfl ?_
  refine r_aload_n C dL_addAll_2 rfl ?_
  refine r_iload_n C dL_addAll_3 rfl ?_
  refine r_iload_n C dL_addAll_4 rfl ?_
  refine r_iload_n C dL_addAll_5 rfl ?_
  rcases hp.two cvI (by simp) hC hB hM with ⟨E, k, hm, h1, h2⟩ | ⟨f', r', n, h1, h2⟩
  · refine c_V (st := [.ref o]) hX.stb C hE (h1 _) pk_X2_addAll qm_L_79 0 6 rfl rfl wc_0 rfl rfl (Nat.le_of_ble_eq_true rfl) dL_addAll_6 ⟨(Nat.le_of_ble_eq_true rfl), (Nat.le_of_ble_eq_true rfl)⟩ ⟨(Nat.le_of_ble_eq_true rfl), (Nat.le_of_ble_eq_true rfl)⟩ (fun _ _ h9 => h9.elim) (fun E1 hE1 => ?_)
    subst hE1
    simp only [List.mem_cons, List.not_mem_nil, or_false, Prod.mk.injEq] at hm
    rcases hm with ⟨rfl, rfl⟩ | ⟨rfl, rfl⟩
    · refine r_catch (name := "java/lang/IndexOutOfBoundsException") C [] ⟨0, 13, 16, 19⟩ [⟨0, 13, 20, 23⟩] (hnt.trans rfl) (fun z hz => absurd hz List.not_mem_nil) rfl (by decide) (C.2.2.2.2.1 _ qk_L_19) (hX.nw qca_IOB rfl hE) (fun q => ?_)
      refine r_astore C dL_addAll_16 (by decide) rfl ?_
      refine r_iconst (v := nI 1) C dL_addAll_18 (by decide) ?_
      exact r_iret C hr dL_addAll_19 ⟨_, _, _, _, rfl, rfl, h2 _⟩ (Nat.le_of_ble_eq_true rfl) (Nat.le_of_ble_eq_true rfl)
    · refine r_catch (name := "java/lang/IllegalStateException") C [⟨0, 13, 16, 19⟩] ⟨0, 13, 20, 23⟩ [] (hnt.trans rfl) (fun z hz => by
        simp only [List.mem_cons, List.not_mem_nil, or_false] at hz
        subst hz
        exact Or.inr ⟨by decide, "java/lang/IndexOutOfBoundsException", C.2.2.2.2.1 _ qk_L_19, hN ("java/lang/IllegalStateException", "java/lang/IndexOutOfBoundsException") (by simp [NCL]) _ _ _ hE⟩) rfl (by decide) (C.2.2.2.2.1 _ qk_L_23) (hX.nw qca_ISE rfl hE) (fun q => ?_)
      refine r_astore C dL_addAll_20 (by decide) rfl ?_
      refine r_iconst (v := nI 2) C dL_addAll_22 (by decide) ?_
      exact r_iret C hr dL_addAll_23 ⟨_, _, _, _, rfl, rfl, h2 _⟩ (Nat.le_of_ble_eq_true rfl) (Nat.le_of_ble_eq_true rfl)
  · refine c_V (st := [.ref o]) hX.stb C hE (h1 _) pk_X2_addAll qm_L_79 0 6 rfl rfl wc_0 rfl rfl (Nat.le_of_ble_eq_true rfl) dL_addAll_6 ⟨(Nat.le_of_ble_eq_true rfl), (Nat.le_of_ble_eq_true rfl)⟩ ⟨(Nat.le_of_ble_eq_true rfl), (Nat.le_of_ble_eq_true rfl)⟩ (fun v9 w9 h9 => ?_) (fun _ h9 => h9.elim)
    obtain ⟨rfl, rfl⟩ := h9
    refine r_i2l C dL_addAll_9 ?_
    refine g_putN hX C hE qu_X3 tyX3 tyX3_ok nmX3 (ci := 7) rfl 38 outo_at 0 (by decide) qn_L_13 rfl rfl (ty := .long) rfl rfl rfl (show 0 < 2 by omega) dL_addAll_10 outo_set ?_
    refine r_goto (tgt := 24) C dL_addAll_13 (by decide) ?_
    refine r_iconst (v := nI 0) C dL_addAll_24 (by decide) ?_
    exact r_iret C hr dL_addAll_25 ⟨_, _, _, _, rfl, rfl, h2⟩ (Nat.le_of_ble_eq_true rfl) (Nat.le_of_ble_eq_true rfl)
theorem dL_removeAll_0 : decode cL_removeAll 0 = .ok (.aload_n 3, 1) := dqo_45 (kb_of ke_L_removeAll 0 rfl)
theorem dL_removeAll_1 : decode cL_removeAll 1 = .ok (.aload_n 0, 1) := dqo_42 (kb_of ke_L_removeAll 1 rfl)
theorem dL_removeAll_2 : decode cL_removeAll 2 = .ok (.iload_n 1, 1) := dqo_27 (kb_of ke_L_removeAll 2 rfl)
theorem dL_removeAll_3 : decode cL_removeAll 3 = .ok (.iload_n 2, 1) := dqo_28 (kb_of ke_L_removeAll 3 rfl)
theorem dL_removeAll_4 : decode cL_removeAll 4 = .ok (.invokevirtual 82, 3) := dqo_182 0 82 (kb_of ke_L_removeAll 4 rfl) (kb_of ke_L_removeAll 5 rfl) (kb_of ke_L_removeAll 6 rfl)
theorem dL_removeAll_7 : decode cL_removeAll 7 = .ok (.i2l, 1) := dqo_133 (kb_of ke_L_removeAll 7 rfl)
theorem dL_removeAll_8 : decode cL_removeAll 8 = .ok (.putfield 13, 3) := dqo_181 0 13 (kb_of ke_L_removeAll 8 rfl) (kb_of ke_L_removeAll 9 rfl) (kb_of ke_L_removeAll 10 rfl)
theorem dL_removeAll_11 : decode cL_removeAll 11 = .ok (.goto 7, 3) := dqo_167 0 7 (by decide) (kb_of ke_L_removeAll 11 rfl) (kb_of ke_L_removeAll 12 rfl) (kb_of ke_L_removeAll 13 rfl)
theorem dL_removeAll_14 : decode cL_removeAll 14 = .ok (.astore 4, 2) := dqo_58 4 (kb_of ke_L_removeAll 14 rfl) (kb_of ke_L_removeAll 15 rfl)
theorem dL_removeAll_16 : decode cL_removeAll 16 = .ok (.iconst 1, 1) := dqo_4 (kb_of ke_L_removeAll 16 rfl)
theorem dL_removeAll_17 : decode cL_removeAll 17 = .ok (.ireturn, 1) := dqo_172 (kb_of ke_L_removeAll 17 rfl)
theorem dL_removeAll_18 : decode cL_removeAll 18 = .ok (.iconst 0, 1) := dqo_3 (kb_of ke_L_removeAll 18 rfl)
theorem dL_removeAll_19 : decode cL_removeAll 19 = .ok (.ireturn, 1) := dqo_172 (kb_of ke_L_removeAll 19 rfl)
theorem qcw_L_removeAll : Cond.codeWith yL_removeAll cL_removeAll 5 (some .int) [(0, 11, 14, 19)] ∈ GW := gw_4 198 rfl rfl
theorem pk_L_removeAll : PkH yL_removeAll cL_removeAll 5 (some .int) [(0, 11, 14, 19)] 4 := ⟨⟨qt_L_removeAll, qz_L, qcw_L_removeAll⟩, mh_L.1, mh_L.2, pd_46⟩
theorem pk_X2_removeAll : PkV RX2 yX2_removeAll cX2_removeAll 3 (some .int) 2 := ⟨⟨qi_X2_removeAll, qs_X2_removeAll, qz_X2, qc_X2_removeAll⟩, rfl, mh_X2.1, mh_X2.2, pd_0⟩
theorem W_removeAll {l : Launch} {D : va_G} {cy : Nat → ClassId} {X : (Nat → Prop) → State → Heap → Prop} {a : Nat → Nat → Nat} {ba ra : Nat → Nat} {f : Nat → Nat → Nat} {r : Nat → Nat → Int32} {hf : Nat → Nat → Nat} {hq : Nat → Nat → Int32} {kn th : Int32} {sm : Int64} {o : Nat} {n0 : Int64} {s0 : Value} {x0 x1 : Int32} (hX : EnvX X) (hN : EnvN X) (hC : CInv f) (hB : RB r) (hM : MR f r hf hq) (hp : PR l D cy X a ba ra f r hf hq kn th sm yX2_removeAll cX2_removeAll 3 (some .int) yX4_removeAll cX4_removeAll 3 (some .int) (rmk 9 20 190 420) [.int x0, .int x1] [("java/lang/IndexOutOfBoundsException", 1)]) : CmH l D cy X yL_removeAll cL_removeAll 5 (some .int) [(0, 11, 14, 19)] (rmk 9 1 6 300) [.ref (a 0 0), .int x0, .int x1, .ref o] (WC cy a f r kn ++ (WM cy ba ra hf hq kn th sm ++ [OUTo o n0 s0])) (fun v1 w1 => ∃ (f' : Nat → Nat → Nat) (r' : Nat → Nat → Int32) (k : Nat) (n1 : Int64), v1 = some (.int (nI k)) ∧ w1 = WC cy a f' r' kn ++ (WM cy ba ra hf hq kn th sm ++ [OUTo o n1 s0]) ∧ PN l D cy X ba ra hf hq kn th sm yX4_removeAll cX4_removeAll 3 (some .int) (rmk 9 20 190 420) [.int x0, .int x1] cvI f' r' k n1) (fun _ => False) := by
  refine CmH.of [some (.ref (a 0 0)), some (.int x0), some (.int x1), some (.ref o), none] pn_L rfl (Nat.le_of_ble_eq_true rfl) ?_
  intro p e s m args below meth c A C hE hr hnt
  refine r_aload_n C dL_removeAll_0 rfl ?_
  refine r_aload_n C dL_removeAll_1 rfl ?_
  refine r_iload_n C dL_removeAll_2 rfl ?_
  refine r_iload_n C dL_removeAll_3 rfl ?_
  rcases hp.two cvI (by simp) hC hB hM with ⟨E, k, hm, h1, h2⟩ | ⟨f', r', n, h1, h2⟩
  · refine c_V (st := [.ref o]) hX.stb C hE (h1 _) pk_X2_removeAll qm_L_82 0 6 rfl rfl wc_0 rfl rfl (Nat.le_of_ble_eq_true rfl) dL_removeAll_4 ⟨(Nat.le_of_ble_eq_true rfl), (Nat.le_of_ble_eq_true rfl)⟩ ⟨(Nat.le_of_ble_eq_true rfl), (Nat.le_of_ble_eq_true rfl)⟩ (fun _ _ h9 => h9.elim) (fun E1 hE1 => ?_)
    subst hE1
    simp only [List.mem_cons, List.not_mem_nil, or_false, Prod.mk.injEq] at hm
    obtain ⟨rfl, rfl⟩ := hm
    refine r_catch (name := "java/lang/IndexOutOfBoundsException") C [] ⟨0, 11, 14, 19⟩ [] (hnt.trans rfl) (fun z hz => absurd hz List.not_mem_nil) rfl (by decide) (C.2.2.2.2.1 _ qk_L_19) (hX.nw qca_IOB rfl hE) (fun q => ?_)
    refine r_astore C dL_removeAll_14 (by decide) rfl ?_
    refine r_iconst (v := nI 1) C dL_removeAll_16 (by decide) ?_
    exact r_iret C hr dL_removeAll_17 ⟨_, _, _, _, rfl, rfl, h2 _⟩ (Nat.le_of_ble_eq_true rfl) (Nat.le_of_ble_eq_true rfl)
  · refine c_V (st := [.ref o]) hX.stb C hE (h1 _) pk_X2_removeAll qm_L_82 0 6 rfl rfl wc_0 rfl rfl (Nat.le_of_ble_eq_true rfl) dL_removeAll_4 ⟨(Nat.le_of_ble_eq_true rfl), (Nat.le_of_ble_eq_true rfl)⟩ ⟨(Nat.le_of_ble_eq_true rfl), (Nat.le_of_ble_eq_true rfl)⟩ (fun v9 w9 h9 => ?_) (fun _ h9 => h9.elim)
    obtain ⟨rfl, rfl⟩ := h9
    refine r_i2l C dL_removeAll_7 ?_
    refine g_putN hX C hE qu_X3 tyX3 tyX3_ok nmX3 (ci := 7) rfl 38 outo_at 0 (by decide) qn_L_13 rfl rfl (ty := .long) rfl rfl rfl (show 0 < 2 by omega) dL_removeAll_8 outo_set ?_
    refine r_goto (tgt := 18) C dL_removeAll_11 (by decide) ?_
    refine r_iconst (v := nI 0) C dL_removeAll_18 (by decide) ?_
    exact r_iret C hr dL_removeAll_19 ⟨_, _, _, _, rfl, rfl, h2⟩ (Nat.le_of_ble_eq_true rfl) (Nat.le_of_ble_eq_true rfl)
theorem dL_retainAll_0 : decode cL_retainAll 0 = .ok (.aload_n 3, 1) := dqo_45 (kb_of ke_L_retainAll 0 rfl)
theorem dL_retainAll_1 : decode cL_retainAll 1 = .ok (.aload_n 0, 1) := dqo_42 (kb_of ke_L_retainAll 1 rfl)
theorem dL_retainAll_2 : decode cL_retainAll 2 = .ok (.iload_n 1, 1) := dqo_27 (kb_of ke_L_retainAll 2 rfl)
theorem dL_retainAll_3 : decode cL_retainAll 3 = .ok (.iload_n 2, 1) := dqo_28 (kb_of ke_L_retainAll 3 rfl)
theorem dL_retainAll_4 : decode cL_retainAll 4 = .ok (.invokevirtual 85, 3) := dqo_182 0 85 (kb_of ke_L_retainAll 4 rfl) (kb_of ke_L_retainAll 5 rfl) (kb_of ke_L_retainAll 6 rfl)
theorem dL_retainAll_7 : decode cL_retainAll 7 = .ok (.i2l, 1) := dqo_133 (kb_of ke_L_retainAll 7 rfl)
theorem dL_retainAll_8 : decode cL_retainAll 8 = .ok (.putfield 13, 3) := dqo_181 0 13 (kb_of ke_L_retainAll 8 rfl) (kb_of ke_L_retainAll 9 rfl) (kb_of ke_L_retainAll 10 rfl)
theorem dL_retainAll_11 : decode cL_retainAll 11 = .ok (.goto 7, 3) := dqo_167 0 7 (by decide) (kb_of ke_L_retainAll 11 rfl) (kb_of ke_L_retainAll 12 rfl) (kb_of ke_L_retainAll 13 rfl)
theorem dL_retainAll_14 : decode cL_retainAll 14 = .ok (.astore 4, 2) := dqo_58 4 (kb_of ke_L_retainAll 14 rfl) (kb_of ke_L_retainAll 15 rfl)
theorem dL_retainAll_16 : decode cL_retainAll 16 = .ok (.iconst 1, 1) := dqo_4 (kb_of ke_L_retainAll 16 rfl)
theorem dL_retainAll_17 : decode cL_retainAll 17 = .ok (.ireturn, 1) := dqo_172 (kb_of ke_L_retainAll 17 rfl)
theorem dL_retainAll_18 : decode cL_retainAll 18 = .ok (.iconst 0, 1) := dqo_3 (kb_of ke_L_retainAll 18 rfl)
theorem dL_retainAll_19 : decode cL_retainAll 19 = .ok (.ireturn, 1) := dqo_172 (kb_of ke_L_retainAll 19 rfl)
theorem qcw_L_retainAll : Cond.codeWith yL_retainAll cL_retainAll 5 (some .int) [(0, 11, 14, 19)] ∈ GW := gw_4 218 rfl rfl
theorem pk_L_retainAll : PkH yL_retainAll cL_retainAll 5 (some .int) [(0, 11, 14, 19)] 4 := ⟨⟨qt_L_retainAll, qz_L, qcw_L_retainAll⟩, mh_L.1, mh_L.2, pd_46⟩
theorem pk_X2_retainAll : PkV RX2 yX2_retainAll cX2_retainAll 3 (some .int) 2 := ⟨⟨qi_X2_retainAll, qs_X2_retainAll, qz_X2, qc_X2_retainAll⟩, rfl, mh_X2.1, mh_X2.2, pd_0⟩
theorem W_retainAll {l : Launch} {D : va_G} {cy : Nat → ClassId} {X : (Nat → Prop) → State → Heap → Prop} {a : Nat → Nat → Nat} {ba ra : Nat → Nat} {f : Nat → Nat → Nat} {r : Nat → Nat → Int32} {hf : Nat → Nat → Nat} {hq : Nat → Nat → Int32} {kn th : Int32} {sm : Int64} {o : Nat} {n0 : Int64} {s0 : Value} {x0 x1 : Int32} (hX : EnvX X) (hN : EnvN X) (hC : CInv f) (hB : RB r) (hM : MR f r hf hq) (hp : PR l D cy X a ba ra f r hf hq kn th sm yX2_retainAll cX2_retainAll 3 (some .int) yX4_retainAll cX4_retainAll 3 (some .int) (rmk 9 20 190 420) [.int x0, .int x1] [("java/lang/IndexOutOfBoundsException", 1)]) : CmH l D cy X yL_retainAll cL_retainAll 5 (some .int) [(0, 11, 14, 19)] (rmk 9 1 6 300) [.ref (a 0 0), .int x0, .int x1, .ref o] (WC cy a f r kn ++ (WM cy ba ra hf hq kn th sm ++ [OUTo o n0 s0])) (fun v1 w1 => ∃ (f' : Nat → Nat → Nat) (r' : Nat → Nat → Int32) (k : Nat) (n1 : Int64), v1 = some (.int (nI k)) ∧ w1 = WC cy a f' r' kn ++ (WM cy ba ra hf hq kn th sm ++ [OUTo o n1 s0]) ∧ PN l D cy X ba ra hf hq kn th sm yX4_retainAll cX4_retainAll 3 (some .int) (rmk 9 20 190 420) [.int x0, .int x1] cvI f' r' k n1) (fun _ => False) := by
  refine CmH.of [some (.ref (a 0 0)), some (.int x0), some (.int x1), some (.ref o), none] pn_L rfl (Nat.le_of_ble_eq_true rfl) ?_
  intro p e s m args below meth c A C hE hr hnt
  refine r_aload_n C dL_retainAll_0 rfl ?_
  refine r_aload_n C dL_retainAll_1 rfl ?_
  refine r_iload_n C dL_retainAll_2 rfl ?_
  refine r_iload_n C dL_retainAll_3 rfl ?_
  rcases hp.two cvI (by simp) hC hB hM with ⟨E, k, hm, h1, h2⟩ | ⟨f', r', n, h1, h2⟩
  · refine c_V (st := [.ref o]) hX.stb C hE (h1 _) pk_X2_retainAll qm_L_85 0 6 rfl rfl wc_0 rfl rfl (Nat.le_of_ble_eq_true rfl) dL_retainAll_4 ⟨(Nat.le_of_ble_eq_true rfl), (Nat.le_of_ble_eq_true rfl)⟩ ⟨(Nat.le_of_ble_eq_true rfl), (Nat.le_of_ble_eq_true rfl)⟩ (fun _ _ h9 => h9.elim) (fun E1 hE1 => ?_)
    subst hE1
    simp only [List.mem_cons, List.not_mem_nil, or_false, Prod.mk.injEq] at hm
    obtain ⟨rfl, rfl⟩ := hm
    refine r_catch (name := "java/lang/IndexOutOfBoundsException") C [] ⟨0, 11, 14, 19⟩ [] (hnt.trans rfl) (fun z hz => absurd hz List.not_mem_nil) rfl (by decide) (C.2.2.2.2.1 _ qk_L_19) (hX.nw qca_IOB rfl hE) (fun q => ?_)
    refine r_astore C dL_retainAll_14 (by decide) rfl ?_
    refine r_iconst (v := nI 1) C dL_retainAll_16 (by decide) ?_
    exact r_iret C hr dL_retainAll_17 ⟨_, _, _, _, rfl, rfl, h2 _⟩ (Nat.le_of_ble_eq_true rfl) (Nat.le_of_ble_eq_true rfl)
  · refine c_V (st := [.ref o]) hX.stb C hE (h1 _) pk_X2_retainAll qm_L_85 0 6 rfl rfl wc_0 rfl rfl (Nat.le_of_ble_eq_true rfl) dL_retainAll_4 ⟨(Nat.le_of_ble_eq_true rfl), (Nat.le_of_ble_eq_true rfl)⟩ ⟨(Nat.le_of_ble_eq_true rfl), (Nat.le_of_ble_eq_true rfl)⟩ (fun v9 w9 h9 => ?_) (fun _ h9 => h9.elim)
    obtain ⟨rfl, rfl⟩ := h9
    refine r_i2l C dL_retainAll_7 ?_
    refine g_putN hX C hE qu_X3 tyX3 tyX3_ok nmX3 (ci := 7) rfl 38 outo_at 0 (by decide) qn_L_13 rfl rfl (ty := .long) rfl rfl rfl (show 0 < 2 by omega) dL_retainAll_8 outo_set ?_
    refine r_goto (tgt := 18) C dL_retainAll_11 (by decide) ?_
    refine r_iconst (v := nI 0) C dL_retainAll_18 (by decide) ?_
    exact r_iret C hr dL_retainAll_19 ⟨_, _, _, _, rfl, rfl, h2⟩ (Nat.le_of_ble_eq_true rfl) (Nat.le_of_ble_eq_true rfl)
theorem dL_copy_0 : decode cL_copy 0 = .ok (.aload_n 3, 1) := dqo_45 (kb_of ke_L_copy 0 rfl)
theorem dL_copy_1 : decode cL_copy 1 = .ok (.aload_n 0, 1) := dqo_42 (kb_of ke_L_copy 1 rfl)
theorem dL_copy_2 : decode cL_copy 2 = .ok (.iload_n 1, 1) := dqo_27 (kb_of ke_L_copy 2 rfl)
theorem dL_copy_3 : decode cL_copy 3 = .ok (.iload_n 2, 1) := dqo_28 (kb_of ke_L_copy 3 rfl)
theorem dL_copy_4 : decode cL_copy 4 = .ok (.invokevirtual 88, 3) := dqo_182 0 88 (kb_of ke_L_copy 4 rfl) (kb_of ke_L_copy 5 rfl) (kb_of ke_L_copy 6 rfl)
theorem dL_copy_7 : decode cL_copy 7 = .ok (.i2l, 1) := dqo_133 (kb_of ke_L_copy 7 rfl)
theorem dL_copy_8 : decode cL_copy 8 = .ok (.putfield 13, 3) := dqo_181 0 13 (kb_of ke_L_copy 8 rfl) (kb_of ke_L_copy 9 rfl) (kb_of ke_L_copy 10 rfl)
theorem dL_copy_11 : decode cL_copy 11 = .ok (.goto 7, 3) := dqo_167 0 7 (by decide) (kb_of ke_L_copy 11 rfl) (kb_of ke_L_copy 12 rfl) (kb_of ke_L_copy 13 rfl)
theorem dL_copy_14 : decode cL_copy 14 = .ok (.astore 4, 2) := dqo_58 4 (kb_of ke_L_copy 14 rfl) (kb_of ke_L_copy 15 rfl)
theorem dL_copy_16 : decode cL_copy 16 = .ok (.iconst 1, 1) := dqo_4 (kb_of ke_L_copy 16 rfl)
theorem dL_copy_17 : decode cL_copy 17 = .ok (.ireturn, 1) := dqo_172 (kb_of ke_L_copy 17 rfl)
theorem dL_copy_18 : decode cL_copy 18 = .ok (.iconst 0, 1) := dqo_3 (kb_of ke_L_copy 18 rfl)
theorem dL_copy_19 : decode cL_copy 19 = .ok (.ireturn, 1) := dqo_172 (kb_of ke_L_copy 19 rfl)
theorem qcw_L_copy : Cond.codeWith yL_copy cL_copy 5 (some .int) [(0, 11, 14, 19)] ∈ GW := gw_4 225 rfl rfl
theorem pk_L_copy : PkH yL_copy cL_copy 5 (some .int) [(0, 11, 14, 19)] 4 := ⟨⟨qt_L_copy, qz_L, qcw_L_copy⟩, mh_L.1, mh_L.2, pd_46⟩
theorem pk_X2_copy : PkV RX2 yX2_copy cX2_copy 3 (some .int) 2 := ⟨⟨qi_X2_copy, qs_X2_copy, qz_X2, qc_X2_copy⟩, rfl, mh_X2.1, mh_X2.2, pd_0⟩
theorem W_copy {l : Launch} {D : va_G} {cy : Nat → ClassId} {X : (Nat → Prop) → State → Heap → Prop} {a : Nat → Nat → Nat} {ba ra : Nat → Nat} {f : Nat → Nat → Nat} {r : Nat → Nat → Int32} {hf : Nat → Nat → Nat} {hq : Nat → Nat → Int32} {kn th : Int32} {sm : Int64} {o : Nat} {n0 : Int64} {s0 : Value} {x0 x1 : Int32} (hX : EnvX X) (hN : EnvN X) (hC : CInv f) (hB : RB r) (hM : MR f r hf hq) (hp : PR l D cy X a ba ra f r hf hq kn th sm yX2_copy cX2_copy 3 (some .int) yX4_copy cX4_copy 3 (some .int) (rmk 9 4 48 420) [.int x0, .int x1] [("java/lang/IndexOutOfBoundsException", 1)]) : CmH l D cy X yL_copy cL_copy 5 (some .int) [(0, 11, 14, 19)] (rmk 9 1 6 300) [.ref (a 0 0), .int x0, .int x1, .ref o] (WC cy a f r kn ++ (WM cy ba ra hf hq kn th sm ++ [OUTo o n0 s0])) (fun v1 w1 => ∃ (f' : Nat → Nat → Nat) (r' : Nat → Nat → Int32) (k : Nat) (n1 : Int64), v1 = some (.int (nI k)) ∧ w1 = WC cy a f' r' kn ++ (WM cy ba ra hf hq kn th sm ++ [OUTo o n1 s0]) ∧ PN l D cy X ba ra hf hq kn th sm yX4_copy cX4_copy 3 (some .int) (rmk 9 4 48 420) [.int x0, .int x1] cvI f' r' k n1) (fun _ => False) := by
  refine CmH.of [some (.ref (a 0 0)), some (.int x0), some (.int x1), some (.ref o), none] pn_L rfl (Nat.le_of_ble_eq_true rfl) ?_
  intro p e s m args below meth c A C hE hr hnt
  refine r_aload_n C dL_copy_0 rfl ?_
  refine r_aload_n C dL_copy_1 rfl ?_
  refine r_iload_n C dL_copy_2 rfl ?_
  refine r_iload_n C dL_copy_3 rfl ?_
  rcases hp.two cvI (by simp) hC hB hM with ⟨E, k, hm, h1, h2⟩ | ⟨f', r', n, h1, h2⟩
  · refine c_V (st := [.ref o]) hX.stb C hE (h1 _) pk_X2_copy qm_L_88 0 6 rfl rfl wc_0 rfl rfl (Nat.le_of_ble_eq_true rfl) dL_copy_4 ⟨(Nat.le_of_ble_eq_true rfl), (Nat.le_of_ble_eq_true rfl)⟩ ⟨(Nat.le_of_ble_eq_true rfl), (Nat.le_of_ble_eq_true rfl)⟩ (fun _ _ h9 => h9.elim) (fun E1 hE1 => ?_)
    subst hE1
    simp only [List.mem_cons, List.not_mem_nil, or_false, Prod.mk.injEq] at hm
    obtain ⟨rfl, rfl⟩ := hm
    refine r_catch (name := "java/lang/IndexOutOfBoundsException") C [] ⟨0, 11, 14, 19⟩ [] (hnt.trans rfl) (fun z hz => absurd hz List.not_mem_nil) rfl (by decide) (C.2.2.2.2.1 _ qk_L_19) (hX.nw qca_IOB rfl hE) (fun q => ?_)
    refine r_astore C dL_copy_14 (by decide) rfl ?_
    refine r_iconst (v := nI 1) C dL_copy_16 (by decide) ?_
    exact r_iret C hr dL_copy_17 ⟨_, _, _, _, rfl, rfl, h2 _⟩ (Nat.le_of_ble_eq_true rfl) (Nat.le_of_ble_eq_true rfl)
  · refine c_V (st := [.ref o]) hX.stb C hE (h1 _) pk_X2_copy qm_L_88 0 6 rfl rfl wc_0 rfl rfl (Nat.le_of_ble_eq_true rfl) dL_copy_4 ⟨(Nat.le_of_ble_eq_true rfl), (Nat.le_of_ble_eq_true rfl)⟩ ⟨(Nat.le_of_ble_eq_true rfl), (Nat.le_of_ble_eq_true rfl)⟩ (fun v9 w9 h9 => ?_) (fun _ h9 => h9.elim)
    obtain ⟨rfl, rfl⟩ := h9
    refine r_i2l C dL_copy_7 ?_
    refine g_putN hX C hE qu_X3 tyX3 tyX3_ok nmX3 (ci := 7) rfl 38 outo_at 0 (by decide) qn_L_13 rfl rfl (ty := .long) rfl rfl rfl (show 0 < 2 by omega) dL_copy_8 outo_set ?_
    refine r_goto (tgt := 18) C dL_copy_11 (by decide) ?_
    refine r_iconst (v := nI 0) C dL_copy_18 (by decide) ?_
    exact r_iret C hr dL_copy_19 ⟨_, _, _, _, rfl, rfl, h2⟩ (Nat.le_of_ble_eq_true rfl) (Nat.le_of_ble_eq_true rfl)
theorem dL_places_0 : decode cL_places 0 = .ok (.aload_n 3, 1) := dqo_45 (kb_of ke_L_places 0 rfl)
theorem dL_places_1 : decode cL_places 1 = .ok (.aload_n 0, 1) := dqo_42 (kb_of ke_L_places 1 rfl)
theorem dL_places_2 : decode cL_places 2 = .ok (.iload_n 1, 1) := dqo_27 (kb_of ke_L_places 2 rfl)
theorem dL_places_3 : decode cL_places 3 = .ok (.iload_n 2, 1) := dqo_28 (kb_of ke_L_places 3 rfl)
theorem dL_places_4 : decode cL_places 4 = .ok (.invokevirtual 91, 3) := dqo_182 0 91 (kb_of ke_L_places 4 rfl) (kb_of ke_L_places 5 rfl) (kb_of ke_L_places 6 rfl)
theorem dL_places_7 : decode cL_places 7 = .ok (.i2l, 1) := dqo_133 (kb_of ke_L_places 7 rfl)
theorem dL_places_8 : decode cL_places 8 = .ok (.putfield 13, 3) := dqo_181 0 13 (kb_of ke_L_places 8 rfl) (kb_of ke_L_places 9 rfl) (kb_of ke_L_places 10 rfl)
theorem dL_places_11 : decode cL_places 11 = .ok (.goto 11, 3) := dqo_167 0 11 (by decide) (kb_of ke_L_places 11 rfl) (kb_of ke_L_places 12 rfl) (kb_of ke_L_places 13 rfl)
theorem dL_places_14 : decode cL_places 14 = .ok (.astore 4, 2) := dqo_58 4 (kb_of ke_L_places 14 rfl) (kb_of ke_L_places 15 rfl)
theorem dL_places_16 : decode cL_places 16 = .ok (.iconst 1, 1) := dqo_4 (kb_of ke_L_places 16 rfl)
theorem dL_places_17 : decode cL_places 17 = .ok (.ireturn, 1) := dqo_172 (kb_of ke_L_places 17 rfl)
theorem dL_places_18 : decode cL_places 18 = .ok (.astore 4, 2) := dqo_58 4 (kb_of ke_L_places 18 rfl) (kb_of ke_L_places 19 rfl)
theorem dL_places_20 : decode cL_places 20 = .ok (.iconst 2, 1) := dqo_5 (kb_of ke_L_places 20 rfl)
theorem dL_places_21 : decode cL_places 21 = .ok (.ireturn, 1) := dqo_172 (kb_of ke_L_places 21 rfl)
theorem dL_places_22 : decode cL_places 22 = .ok (.iconst 0, 1) := dqo_3 (kb_of ke_L_places 22 rfl)
theorem dL_places_23 : decode cL_places 23 = .ok (.ireturn, 1) := dqo_172 (kb_of ke_L_places 23 rfl)
theorem qcw_L_places : Cond.codeWith yL_places cL_places 5 (some .int) [(0, 11, 14, 19), (0, 11, 18, 21)] ∈ GW := gw_4 232 rfl rfl
theorem pk_L_places : PkH yL_places cL_places 5 (some .int) [(0, 11, 14, 19), (0, 11, 18, 21)] 4 := ⟨⟨qt_L_places, qz_L, qcw_L_places⟩, mh_L.1, mh_L.2, pd_46⟩
theorem pk_X2_places : PkV RX2 yX2_places cX2_places 4 (some .int) 2 := ⟨⟨qi_X2_places, qs_X2_places, qz_X2, qc_X2_places⟩, rfl, mh_X2.1, mh_X2.2, pd_0⟩
theorem W_places {l : Launch} {D : va_G} {cy : Nat → ClassId} {X : (Nat → Prop) → State → Heap → Prop} {a : Nat → Nat → Nat} {ba ra : Nat → Nat} {f : Nat → Nat → Nat} {r : Nat → Nat → Int32} {hf : Nat → Nat → Nat} {hq : Nat → Nat → Int32} {kn th : Int32} {sm : Int64} {o : Nat} {n0 : Int64} {s0 : Value} {x0 x1 : Int32} (hX : EnvX X) (hN : EnvN X) (hC : CInv f) (hB : RB r) (hM : MR f r hf hq) (hp : PR l D cy X a ba ra f r hf hq kn th sm yX2_places cX2_places 4 (some .int) yX4_places cX4_places 5 (some .int) (rmk 9 4 48 420) [.int x0, .int x1] [("java/lang/IndexOutOfBoundsException", 1), ("java/lang/IllegalArgumentException", 2)]) : CmH l D cy X yL_places cL_places 5 (some .int) [(0, 11, 14, 19), (0, 11, 18, 21)] (rmk 9 1 6 300) [.ref (a 0 0), .int x0, .int x1, .ref o] (WC cy a f r kn ++ (WM cy ba ra hf hq kn th sm ++ [OUTo o n0 s0])) (fun v1 w1 => ∃ (f' : Nat → Nat → Nat) (r' : Nat → Nat → Int32) (k : Nat) (n1 : Int64), v1 = some (.int (nI k)) ∧ w1 = WC cy a f' r' kn ++ (WM cy ba ra hf hq kn th sm ++ [OUTo o n1 s0]) ∧ PN l D cy X ba ra hf hq kn th sm yX4_places cX4_places 5 (some .int) (rmk 9 4 48 420) [.int x0, .int x1] cvI f' r' k n1) (fun _ => False) := by
  refine CmH.of [some (.ref (a 0 0)), some (.int x0), some (.int x1), some (.ref o), none] pn_L rfl (Nat.le_of_ble_eq_true rfl) ?_
  intro p e s m args below meth c A C hE hr hnt
  refine r_aload_n C dL_places_0 rfl ?_
  refine r_aload_n C dL_places_1 rfl ?_
  refine r_iload_n C dL_places_2 rfl ?_
  refine r_iload_n C dL_places_3 rfl ?_
  rcases hp.two cvI (by simp) hC hB hM with ⟨E, k, hm, h1, h2⟩ | ⟨f', r', n, h1, h2⟩
  · refine c_V (st := [.ref o]) hX.stb C hE (h1 _) pk_X2_places qm_L_91 0 6 rfl rfl wc_0 rfl rfl (Nat.le_of_ble_eq_true rfl) dL_places_4 ⟨(Nat.le_of_ble_eq_true rfl), (Nat.le_of_ble_eq_true rfl)⟩ ⟨(Nat.le_of_ble_eq_true rfl), (Nat.le_of_ble_eq_true rfl)⟩ (fun _ _ h9 => h9.elim) (fun E1 hE1 => ?_)
    subst hE1
    simp only [List.mem_cons, List.not_mem_nil, or_false, Prod.mk.injEq] at hm
    rcases hm with ⟨rfl, rfl⟩ | ⟨rfl, rfl⟩
    · refine r_catch (name := "java/lang/IndexOutOfBoundsException") C [] ⟨0, 11, 14, 19⟩ [⟨0, 11, 18, 21⟩] (hnt.trans rfl) (fun z hz => absurd hz List.not_mem_nil) rfl (by decide) (C.2.2.2.2.1 _ qk_L_19) (hX.nw qca_IOB rfl hE) (fun q => ?_)
      refine r_astore C dL_places_14 (by decide) rfl ?_
      refine r_iconst (v := nI 1) C dL_places_16 (by decide) ?_
      exact r_iret C hr dL_places_17 ⟨_, _, _, _, rfl, rfl, h2 _⟩ (Nat.le_of_ble_eq_true rfl) (Nat.le_of_ble_eq_true rfl)
    · refine r_catch (name := "java/lang/IllegalArgumentException") C [⟨0, 11, 14, 19⟩] ⟨0, 11, 18, 21⟩ [] (hnt.trans rfl) (fun z hz => by
        simp only [List.mem_cons, List.not_mem_nil, or_false] at hz
        subst hz
        exact Or.inr ⟨by decide, "java/lang/IndexOutOfBoundsException", C.2.2.2.2.1 _ qk_L_19, hN ("java/lang/IllegalArgumentException", "java/lang/IndexOutOfBoundsException") (by simp [NCL]) _ _ _ hE⟩) rfl (by decide) (C.2.2.2.2.1 _ qk_L_21) (hX.nw qca_IAE rfl hE) (fun q => ?_)
      refine r_astore C dL_places_18 (by decide) rfl ?_
      refine r_iconst (v := nI 2) C dL_places_20 (by decide) ?_
      exact r_iret C hr dL_places_21 ⟨_, _, _, _, rfl, rfl, h2 _⟩ (Nat.le_of_ble_eq_true rfl) (Nat.le_of_ble_eq_true rfl)
  · refine c_V (st := [.ref o]) hX.stb C hE (h1 _) pk_X2_places qm_L_91 0 6 rfl rfl wc_0 rfl rfl (Nat.le_of_ble_eq_true rfl) dL_places_4 ⟨(Nat.le_of_ble_eq_true rfl), (Nat.le_of_ble_eq_true rfl)⟩ ⟨(Nat.le_of_ble_eq_true rfl), (Nat.le_of_ble_eq_true rfl)⟩ (fun v9 w9 h9 => ?_) (fun _ h9 => h9.elim)
    obtain ⟨rfl, rfl⟩ := h9
    refine r_i2l C dL_places_7 ?_
    refine g_putN hX C hE qu_X3 tyX3 tyX3_ok nmX3 (ci := 7) rfl 38 outo_at 0 (by decide) qn_L_13 rfl rfl (ty := .long) rfl rfl rfl (show 0 < 2 by omega) dL_places_8 outo_set ?_
    refine r_goto (tgt := 22) C dL_places_11 (by decide) ?_
    refine r_iconst (v := nI 0) C dL_places_22 (by decide) ?_
    exact r_iret C hr dL_places_23 ⟨_, _, _, _, rfl, rfl, h2⟩ (Nat.le_of_ble_eq_true rfl) (Nat.le_of_ble_eq_true rfl)
theorem dL_through_0 : decode cL_through 0 = .ok (.aload 4, 2) := dqo_25 4 (kb_of ke_L_through 0 rfl) (kb_of ke_L_through 1 rfl)
theorem dL_through_2 : decode cL_through 2 = .ok (.aload_n 0, 1) := dqo_42 (kb_of ke_L_through 2 rfl)
theorem dL_through_3 : decode cL_through 3 = .ok (.iload_n 1, 1) := dqo_27 (kb_of ke_L_through 3 rfl)
theorem dL_through_4 : decode cL_through 4 = .ok (.iload_n 2, 1) := dqo_28 (kb_of ke_L_through 4 rfl)
theorem dL_through_5 : decode cL_through 5 = .ok (.iload_n 3, 1) := dqo_29 (kb_of ke_L_through 5 rfl)
theorem dL_through_6 : decode cL_through 6 = .ok (.invokevirtual 94, 3) := dqo_182 0 94 (kb_of ke_L_through 6 rfl) (kb_of ke_L_through 7 rfl) (kb_of ke_L_through 8 rfl)
theorem dL_through_9 : decode cL_through 9 = .ok (.i2l, 1) := dqo_133 (kb_of ke_L_through 9 rfl)
theorem dL_through_10 : decode cL_through 10 = .ok (.putfield 13, 3) := dqo_181 0 13 (kb_of ke_L_through 10 rfl) (kb_of ke_L_through 11 rfl) (kb_of ke_L_through 12 rfl)
theorem dL_through_13 : decode cL_through 13 = .ok (.goto 7, 3) := dqo_167 0 7 (by decide) (kb_of ke_L_through 13 rfl) (kb_of ke_L_through 14 rfl) (kb_of ke_L_through 15 rfl)
theorem dL_through_16 : decode cL_through 16 = .ok (.astore 5, 2) := dqo_58 5 (kb_of ke_L_through 16 rfl) (kb_of ke_L_through 17 rfl)
theorem dL_through_18 : decode cL_through 18 = .ok (.iconst 1, 1) := dqo_4 (kb_of ke_L_through 18 rfl)
theorem dL_through_19 : decode cL_through 19 = .ok (.ireturn, 1) := dqo_172 (kb_of ke_L_through 19 rfl)
theorem dL_through_20 : decode cL_through 20 = .ok (.iconst 0, 1) := dqo_3 (kb_of ke_L_through 20 rfl)
theorem dL_through_21 : decode cL_through 21 = .ok (.ireturn, 1) := dqo_172 (kb_of ke_L_through 21 rfl)
theorem qcw_L_through : Cond.codeWith yL_through cL_through 6 (some .int) [(0, 13, 16, 19)] ∈ GW := gw_5 0 rfl rfl
theorem pk_L_through : PkH yL_through cL_through 6 (some .int) [(0, 13, 16, 19)] 5 := ⟨⟨qt_L_through, qz_L, qcw_L_through⟩, mh_L.1, mh_L.2, pd_47⟩
theorem pk_X2_through : PkV RX2 yX2_through cX2_through 6 (some .int) 3 := ⟨⟨qi_X2_through, qs_X2_through, qz_X2, qc_X2_through⟩, rfl, mh_X2.1, mh_X2.2, pd_28⟩
theorem W_through {l : Launch} {D : va_G} {cy : Nat → ClassId} {X : (Nat → Prop) → State → Heap → Prop} {a : Nat → Nat → Nat} {ba ra : Nat → Nat} {f : Nat → Nat → Nat} {r : Nat → Nat → Int32} {hf : Nat → Nat → Nat} {hq : Nat → Nat → Int32} {kn th : Int32} {sm : Int64} {o : Nat} {n0 : Int64} {s0 : Value} {x0 x1 x2 : Int32} (hX : EnvX X) (hN : EnvN X) (hC : CInv f) (hB : RB r) (hM : MR f r hf hq) (hp : PR l D cy X a ba ra f r hf hq kn th sm yX2_through cX2_through 6 (some .int) yX4_through cX4_through 7 (some .int) (rmk 9 4 48 420) [.int x0, .int x1, .int x2] [("java/lang/IndexOutOfBoundsException", 1)]) : CmH l D cy X yL_through cL_through 6 (some .int) [(0, 13, 16, 19)] (rmk 9 1 6 300) [.ref (a 0 0), .int x0, .int x1, .int x2, .ref o] (WC cy a f r kn ++ (WM cy ba ra hf hq kn th sm ++ [OUTo o n0 s0])) (fun v1 w1 => ∃ (f' : Nat → Nat → Nat) (r' : Nat → Nat → Int32) (k : Nat) (n1 : Int64), v1 = some (.int (nI k)) ∧ w1 = WC cy a f' r' kn ++ (WM cy ba ra hf hq kn th sm ++ [OUTo o n1 s0]) ∧ PN l D cy X ba ra hf hq kn th sm yX4_through cX4_through 7 (some .int) (rmk 9 4 48 420) [.int x0, .int x1, .int x2] cvI f' r' k n1) (fun _ => False) := by
  refine CmH.of [some (.ref (a 0 0)), some (.int x0), some (.int x1), some (.int x2), some (.ref o), none] pn_L rfl (Nat.le_of_ble_eq_true rfl) ?_
  intro p e s m args below meth c A C hE hr hnt
  refine r_aload C dL_through_0 rfl ?_
  refine r_aload_n C dL_through_2 rfl ?_
  refine r_iload_n C dL_through_3 rfl ?_
  refine r_iload_n C dL_through_4 rfl ?_
  refine r_iload_n C dL_through_5 rfl ?_
  rcases hp.two cvI (by simp) hC hB hM with ⟨E, k, hm, h1, h2⟩ | ⟨f', r', n, h1, h2⟩
  · refine c_V (st := [.ref o]) hX.stb C hE (h1 _) pk_X2_through qm_L_94 0 6 rfl rfl wc_0 rfl rfl (Nat.le_of_ble_eq_true rfl) dL_through_6 ⟨(Nat.le_of_ble_eq_true rfl), (Nat.le_of_ble_eq_true rfl)⟩ ⟨(Nat.le_of_ble_eq_true rfl), (Nat.le_of_ble_eq_true rfl)⟩ (fun _ _ h9 => h9.elim) (fun E1 hE1 => ?_)
    subst hE1
    simp only [List.mem_cons, List.not_mem_nil, or_false, Prod.mk.injEq] at hm
    obtain ⟨rfl, rfl⟩ := hm
    refine r_catch (name := "java/lang/IndexOutOfBoundsException") C [] ⟨0, 13, 16, 19⟩ [] (hnt.trans rfl) (fun z hz => absurd hz List.not_mem_nil) rfl (by decide) (C.2.2.2.2.1 _ qk_L_19) (hX.nw qca_IOB rfl hE) (fun q => ?_)
    refine r_astore C dL_through_16 (by decide) rfl ?_
    refine r_iconst (v := nI 1) C dL_through_18 (by decide) ?_
    exact r_iret C hr dL_through_19 ⟨_, _, _, _, rfl, rfl, h2 _⟩ (Nat.le_of_ble_eq_true rfl) (Nat.le_of_ble_eq_true rfl)
  · refine c_V (st := [.ref o]) hX.stb C hE (h1 _) pk_X2_through qm_L_94 0 6 rfl rfl wc_0 rfl rfl (Nat.le_of_ble_eq_true rfl) dL_through_6 ⟨(Nat.le_of_ble_eq_true rfl), (Nat.le_of_ble_eq_true rfl)⟩ ⟨(Nat.le_of_ble_eq_true rfl), (Nat.le_of_ble_eq_true rfl)⟩ (fun v9 w9 h9 => ?_) (fun _ h9 => h9.elim)
    obtain ⟨rfl, rfl⟩ := h9
    refine r_i2l C dL_through_9 ?_
    refine g_putN hX C hE qu_X3 tyX3 tyX3_ok nmX3 (ci := 7) rfl 38 outo_at 0 (by decide) qn_L_13 rfl rfl (ty := .long) rfl rfl rfl (show 0 < 2 by omega) dL_through_10 outo_set ?_
    refine r_goto (tgt := 20) C dL_through_13 (by decide) ?_
    refine r_iconst (v := nI 0) C dL_through_20 (by decide) ?_
    exact r_iret C hr dL_through_21 ⟨_, _, _, _, rfl, rfl, h2⟩ (Nat.le_of_ble_eq_true rfl) (Nat.le_of_ble_eq_true rfl)
end PT_80
/-! ===== 81.wrap3 -/
section PT_81
/-! THE LAW'S WRAPPERS, 3 -/
theorem dL_indexOf_0 : decode cL_indexOf 0 = .ok (.aload_n 3, 1) := dqo_45 (kb_of ke_L_indexOf 0 rfl)
theorem dL_indexOf_1 : decode cL_indexOf 1 = .ok (.aload_n 0, 1) := dqo_42 (kb_of ke_L_indexOf 1 rfl)
theorem dL_indexOf_2 : decode cL_indexOf 2 = .ok (.iload_n 1, 1) := dqo_27 (kb_of ke_L_indexOf 2 rfl)
theorem dL_indexOf_3 : decode cL_indexOf 3 = .ok (.iload_n 2, 1) := dqo_28 (kb_of ke_L_indexOf 3 rfl)
theorem dL_indexOf_4 : decode cL_indexOf 4 = .ok (.invokevirtual 97, 3) := dqo_182 0 97 (kb_of ke_L_indexOf 4 rfl) (kb_of ke_L_indexOf 5 rfl) (kb_of ke_L_indexOf 6 rfl)
theorem dL_indexOf_7 : decode cL_indexOf 7 = .ok (.i2l, 1) := dqo_133 (kb_of ke_L_indexOf 7 rfl)
theorem dL_indexOf_8 : decode cL_indexOf 8 = .ok (.putfield 13, 3) := dqo_181 0 13 (kb_of ke_L_indexOf 8 rfl) (kb_of ke_L_indexOf 9 rfl) (kb_of ke_L_indexOf 10 rfl)
theorem dL_indexOf_11 : decode cL_indexOf 11 = .ok (.goto 7, 3) := dqo_167 0 7 (by decide) (kb_of ke_L_indexOf 11 rfl) (kb_of ke_L_indexOf 12 rfl) (kb_of ke_L_indexOf 13 rfl)
theorem dL_indexOf_14 : decode cL_indexOf 14 = .ok (.astore 4, 2) := dqo_58 4 (kb_of ke_L_indexOf 14 rfl) (kb_of ke_L_indexOf 15 rfl)
theorem dL_indexOf_16 : decode cL_indexOf 16 = .ok (.iconst 1, 1) := dqo_4 (kb_of ke_L_indexOf 16 rfl)
theorem dL_indexOf_17 : decode cL_indexOf 17 = .ok (.ireturn, 1) := dqo_172 (kb_of ke_L_indexOf 17 rfl)
theorem dL_indexOf_18 : decode cL_indexOf 18 = .ok (.iconst 0, 1) := dqo_3 (kb_of ke_L_indexOf 18 rfl)
theorem dL_indexOf_19 : decode cL_indexOf 19 = .ok (.ireturn, 1) := dqo_172 (kb_of ke_L_indexOf 19 rfl)
theorem qcw_L_indexOf : Cond.codeWith yL_indexOf cL_indexOf 5 (some .int) [(0, 11, 14, 19)] ∈ GW := gw_5 7 rfl rfl
theorem pk_L_indexOf : PkH yL_indexOf cL_indexOf 5 (some .int) [(0, 11, 14, 19)] 4 := ⟨⟨qt_L_indexOf, qz_L, qcw_L_indexOf⟩, mh_L.1, mh_L.2, pd_46⟩
theorem pk_X2_indexOf : PkV RX2 yX2_indexOf cX2_indexOf 3 (some .int) 2 := ⟨⟨qi_X2_indexOf, qs_X2_indexOf, qz_X2, qc_X2_indexOf⟩, rfl, mh_X2.1, mh_X2.2, pd_0⟩
theorem W_indexOf {l : Launch} {D : va_G} {cy : Nat → ClassId} {X : (Nat → Prop) → State → Heap → Prop} {a : Nat → Nat → Nat} {ba ra : Nat → Nat} {f : Nat → Nat → Nat} {r : Nat → Nat → Int32} {hf : Nat → Nat → Nat} {hq : Nat → Nat → Int32} {kn th : Int32} {sm : Int64} {o : Nat} {n0 : Int64} {s0 : Value} {x0 x1 : Int32} (hX : EnvX X) (hN : EnvN X) (hC : CInv f) (hB : RB r) (hM : MR f r hf hq) (hp : PR l D cy X a ba ra f r hf hq kn th sm yX2_indexOf cX2_indexOf 3 (some .int) yX4_indexOf cX4_indexOf 3 (some .int) (rmk 9 4 48 420) [.int x0, .int x1] [("java/lang/IndexOutOfBoundsException", 1)]) : CmH l D cy X yL_indexOf cL_indexOf 5 (some .int) [(0, 11, 14, 19)] (rmk 9 1 6 300) [.ref (a 0 0), .int x0, .int x1, .ref o] (WC cy a f r kn ++ (WM cy ba ra hf hq kn th sm ++ [OUTo o n0 s0])) (fun v1 w1 => ∃ (f' : Nat → Nat → Nat) (r' : Nat → Nat → Int32) (k : Nat) (n1 : Int64), v1 = some (.int (nI k)) ∧ w1 = WC cy a f' r' kn ++ (WM cy ba ra hf hq kn th sm ++ [OUTo o n1 s0]) ∧ PN l D cy X ba ra hf hq kn th sm yX4_indexOf cX4_indexOf 3 (some .int) (rmk 9 4 48 420) [.int x0, .int x1] cvI f' r' k n1) (fun _ => False) := by
  refine CmH.of [some (.ref (a 0 0)), some (.int x0), some (.int x1), some (.ref o), none] pn_L rfl (Nat.le_of_ble_eq_true rfl) ?_
  intro p e s m args below meth c A C hE hr hnt
  refine r_aload_n C dL_indexOf_0 rfl ?_
  refine r_aload_n C dL_indexOf_1 rfl ?_
  refine r_iload_n C dL_indexOf_2 rfl ?_
  refine r_iload_n C dL_indexOf_3 rfl ?_
  rcases hp.two cvI (by simp) hC hB hM with ⟨E, k, hm, h1, h2⟩ | ⟨f', r', n, h1, h2⟩
  · refine c_V (st := [.ref o]) hX.stb C hE (h1 _) pk_X2_indexOf qm_L_97 0 6 rfl rfl wc_0 rfl rfl (Nat.le_of_ble_eq_true rfl) dL_indexOf_4 ⟨(Nat.le_of_ble_eq_true rfl), (Nat.le_of_ble_eq_true rfl)⟩ ⟨(Nat.le_of_ble_eq_true rfl), (Nat.le_of_ble_eq_true rfl)⟩ (fun _ _ h9 => h9.elim) (fun E1 hE1 => ?_)
    subst hE1
    simp only [List.mem_cons, List.not_mem_nil, or_false, Prod.mk.injEq] at hm
    obtain ⟨rfl, rfl⟩ := hm
    refine r_catch (name := "java/lang/IndexOutOfBoundsException") C [] ⟨0, 11, 14, 19⟩ [] (hnt.trans rfl) (fun z hz => absurd hz List.not_mem_nil) rfl (by decide) (C.2.2.2.2.1 _ qk_L_19) (hX.nw qca_IOB rfl hE) (fun q => ?_)
    refine r_astore C dL_indexOf_14 (by decide) rfl ?_
    refine r_iconst (v := nI 1) C dL_indexOf_16 (by decide) ?_
    exact r_iret C hr dL_indexOf_17 ⟨_, _, _, _, rfl, rfl, h2 _⟩ (Nat.le_of_ble_eq_true rfl) (Nat.le_of_ble_eq_true rfl)
  · refine c_V (st := [.ref o]) hX.stb C hE (h1 _) pk_X2_indexOf qm_L_97 0 6 rfl rfl wc_0 rfl rfl (Nat.le_of_ble_eq_true rfl) dL_indexOf_4 ⟨(Nat.le_of_ble_eq_true rfl), (Nat.le_of_ble_eq_true rfl)⟩ ⟨(Nat.le_of_ble_eq_true rfl), (Nat.le_of_ble_eq_true rfl)⟩ (fun v9 w9 h9 => ?_) (fun _ h9 => h9.elim)
    obtain ⟨rfl, rfl⟩ := h9
    refine r_i2l C dL_indexOf_7 ?_
    refine g_putN hX C hE qu_X3 tyX3 tyX3_ok nmX3 (ci := 7) rfl 38 outo_at 0 (by decide) qn_L_13 rfl rfl (ty := .long) rfl rfl rfl (show 0 < 2 by omega) dL_indexOf_8 outo_set ?_
    refine r_goto (tgt := 18) C dL_indexOf_11 (by decide) ?_
    refine r_iconst (v := nI 0) C dL_indexOf_18 (by decide) ?_
    exact r_iret C hr dL_indexOf_19 ⟨_, _, _, _, rfl, rfl, h2⟩ (Nat.le_of_ble_eq_true rfl) (Nat.le_of_ble_eq_true rfl)
theorem dL_lastIndexOf_0 : decode cL_lastIndexOf 0 = .ok (.aload_n 3, 1) := dqo_45 (kb_of ke_L_lastIndexOf 0 rfl)
theorem dL_lastIndexOf_1 : decode cL_lastIndexOf 1 = .ok (.aload_n 0, 1) := dqo_42 (kb_of ke_L_lastIndexOf 1 rfl)
theorem dL_lastIndexOf_2 : decode cL_lastIndexOf 2 = .ok (.iload_n 1, 1) := dqo_27 (kb_of ke_L_lastIndexOf 2 rfl)
theorem dL_lastIndexOf_3 : decode cL_lastIndexOf 3 = .ok (.iload_n 2, 1) := dqo_28 (kb_of ke_L_lastIndexOf 3 rfl)
theorem dL_lastIndexOf_4 : decode cL_lastIndexOf 4 = .ok (.invokevirtual 100, 3) := dqo_182 0 100 (kb_of ke_L_lastIndexOf 4 rfl) (kb_of ke_L_lastIndexOf 5 rfl) (kb_of ke_L_lastIndexOf 6 rfl)
theorem dL_lastIndexOf_7 : decode cL_lastIndexOf 7 = .ok (.i2l, 1) := dqo_133 (kb_of ke_L_lastIndexOf 7 rfl)
theorem dL_lastIndexOf_8 : decode cL_lastIndexOf 8 = .ok (.putfield 13, 3) := dqo_181 0 13 (kb_of ke_L_lastIndexOf 8 rfl) (kb_of ke_L_lastIndexOf 9 rfl) (kb_of ke_L_lastIndexOf 10 rfl)
theorem dL_lastIndexOf_11 : decode cL_lastIndexOf 11 = .ok (.goto 7, 3) := dqo_167 0 7 (by decide) (kb_of ke_L_lastIndexOf 11 rfl) (kb_of ke_L_lastIndexOf 12 rfl) (kb_of ke_L_lastIndexOf 13 rfl)
theorem dL_lastIndexOf_14 : decode cL_lastIndexOf 14 = .ok (.astore 4, 2) := dqo_58 4 (kb_of ke_L_lastIndexOf 14 rfl) (kb_of ke_L_lastIndexOf 15 rfl)
theorem dL_lastIndexOf_16 : decode cL_lastIndexOf 16 = .ok (.iconst 1, 1) := dqo_4 (kb_of ke_L_lastIndexOf 16 rfl)
theorem dL_lastIndexOf_17 : decode cL_lastIndexOf 17 = .ok (.ireturn, 1) := dqo_172 (kb_of ke_L_lastIndexOf 17 rfl)
theorem dL_lastIndexOf_18 : decode cL_lastIndexOf 18 = .ok (.iconst 0, 1) := dqo_3 (kb_of ke_L_lastIndexOf 18 rfl)
theorem dL_lastIndexOf_19 : decode cL_lastIndexOf 19 = .ok (.ireturn, 1) := dqo_172 (kb_of ke_L_lastIndexOf 19 rfl)
theorem qcw_L_lastIndexOf : Cond.codeWith yL_lastIndexOf cL_lastIndexOf 5 (some .int) [(0, 11, 14, 19)] ∈ GW := gw_5 14 rfl rfl
theorem pk_L_lastIndexOf : PkH yL_lastIndexOf cL_lastIndexOf 5 (some .int) [(0, 11, 14, 19)] 4 := ⟨⟨qt_L_lastIndexOf, qz_L, qcw_L_lastIndexOf⟩, mh_L.1, mh_L.2, pd_46⟩
theorem pk_X2_lastIndexOf : PkV RX2 yX2_lastIndexOf cX2_lastIndexOf 5 (some .int) 2 := ⟨⟨qi_X2_lastIndexOf, qs_X2_lastIndexOf, qz_X2, qc_X2_lastIndexOf⟩, rfl, mh_X2.1, mh_X2.2, pd_0⟩
theorem W_lastIndexOf {l : Launch} {D : va_G} {cy : Nat → ClassId} {X : (Nat → Prop) → State → Heap → Prop} {a : Nat → Nat → Nat} {ba ra : Nat → Nat} {f : Nat → Nat → Nat} {r : Nat → Nat → Int32} {hf : Nat → Nat → Nat} {hq : Nat → Nat → Int32} {kn th : Int32} {sm : Int64} {o : Nat} {n0 : Int64} {s0 : Value} {x0 x1 : Int32} (hX : EnvX X) (hN : EnvN X) (hC : CInv f) (hB : RB r) (hM : MR f r hf hq) (hp : PR l D cy X a ba ra f r hf hq kn th sm yX2_lastIndexOf cX2_lastIndexOf 5 (some .int) yX4_lastIndexOf cX4_lastIndexOf 3 (some .int) (rmk 9 4 48 420) [.int x0, .int x1] [("java/lang/IndexOutOfBoundsException", 1)]) : CmH l D cy X yL_lastIndexOf cL_lastIndexOf 5 (some .int) [(0, 11, 14, 19)] (rmk 9 1 6 300) [.ref (a 0 0), .int x0, .int x1, .ref o] (WC cy a f r kn ++ (WM cy ba ra hf hq kn th sm ++ [OUTo o n0 s0])) (fun v1 w1 => ∃ (f' : Nat → Nat → Nat) (r' : Nat → Nat → Int32) (k : Nat) (n1 : Int64), v1 = some (.int (nI k)) ∧ w1 = WC cy a f' r' kn ++ (WM cy ba ra hf hq kn th sm ++ [OUTo o n1 s0]) ∧ PN l D cy X ba ra hf hq kn th sm yX4_lastIndexOf cX4_lastIndexOf 3 (some .int) (rmk 9 4 48 420) [.int x0, .int x1] cvI f' r' k n1) (fun _ => False) := by
  refine CmH.of [some (.ref (a 0 0)), some (.int x0), some (.int x1), some (.ref o), none] pn_L rfl (Nat.le_of_ble_eq_true rfl) ?_
  intro p e s m args below meth c A C hE hr hnt
  refine r_aload_n C dL_lastIndexOf_0 rfl ?_
  refine r_aload_n C dL_lastIndexOf_1 rfl ?_
  refine r_iload_n C dL_lastIndexOf_2 rfl ?_
  refine r_iload_n C dL_lastIndexOf_3 rfl ?_
  rcases hp.two cvI (by simp) hC hB hM with ⟨E, k, hm, h1, h2⟩ | ⟨f', r', n, h1, h2⟩
  · refine c_V (st := [.ref o]) hX.stb C hE (h1 _) pk_X2_lastIndexOf qm_L_100 0 6 rfl rfl wc_0 rfl rfl (Nat.le_of_ble_eq_true rfl) dL_lastIndexOf_4 ⟨(Nat.le_of_ble_eq_true rfl), (Nat.le_of_ble_eq_true rfl)⟩ ⟨(Nat.le_of_ble_eq_true rfl), (Nat.le_of_ble_eq_true rfl)⟩ (fun _ _ h9 => h9.elim) (fun E1 hE1 => ?_)
    subst hE1
    simp only [List.mem_cons, List.not_mem_nil, or_false, Prod.mk.injEq] at hm
    obtain ⟨rfl, rfl⟩ := hm
    refine r_catch (name := "java/lang/IndexOutOfBoundsException") C [] ⟨0, 11, 14, 19⟩ [] (hnt.trans rfl) (fun z hz => absurd hz List.not_mem_nil) rfl (by decide) (C.2.2.2.2.1 _ qk_L_19) (hX.nw qca_IOB rfl hE) (fun q => ?_)
    refine r_astore C dL_lastIndexOf_14 (by decide) rfl ?_
    refine r_iconst (v := nI 1) C dL_lastIndexOf_16 (by decide) ?_
    exact r_iret C hr dL_lastIndexOf_17 ⟨_, _, _, _, rfl, rfl, h2 _⟩ (Nat.le_of_ble_eq_true rfl) (Nat.le_of_ble_eq_true rfl)
  · refine c_V (st := [.ref o]) hX.stb C hE (h1 _) pk_X2_lastIndexOf qm_L_100 0 6 rfl rfl wc_0 rfl rfl (Nat.le_of_ble_eq_true rfl) dL_lastIndexOf_4 ⟨(Nat.le_of_ble_eq_true rfl), (Nat.le_of_ble_eq_true rfl)⟩ ⟨(Nat.le_of_ble_eq_true rfl), (Nat.le_of_ble_eq_true rfl)⟩ (fun v9 w9 h9 => ?_) (fun _ h9 => h9.elim)
    obtain ⟨rfl, rfl⟩ := h9
    refine r_i2l C dL_lastIndexOf_7 ?_
    refine g_putN hX C hE qu_X3 tyX3 tyX3_ok nmX3 (ci := 7) rfl 38 outo_at 0 (by decide) qn_L_13 rfl rfl (ty := .long) rfl rfl rfl (show 0 < 2 by omega) dL_lastIndexOf_8 outo_set ?_
    refine r_goto (tgt := 18) C dL_lastIndexOf_11 (by decide) ?_
    refine r_iconst (v := nI 0) C dL_lastIndexOf_18 (by decide) ?_
    exact r_iret C hr dL_lastIndexOf_19 ⟨_, _, _, _, rfl, rfl, h2⟩ (Nat.le_of_ble_eq_true rfl) (Nat.le_of_ble_eq_true rfl)
theorem dL_contains_0 : decode cL_contains 0 = .ok (.aload_n 3, 1) := dqo_45 (kb_of ke_L_contains 0 rfl)
theorem dL_contains_1 : decode cL_contains 1 = .ok (.aload_n 0, 1) := dqo_42 (kb_of ke_L_contains 1 rfl)
theorem dL_contains_2 : decode cL_contains 2 = .ok (.iload_n 1, 1) := dqo_27 (kb_of ke_L_contains 2 rfl)
theorem dL_contains_3 : decode cL_contains 3 = .ok (.iload_n 2, 1) := dqo_28 (kb_of ke_L_contains 3 rfl)
theorem dL_contains_4 : decode cL_contains 4 = .ok (.invokevirtual 103, 3) := dqo_182 0 103 (kb_of ke_L_contains 4 rfl) (kb_of ke_L_contains 5 rfl) (kb_of ke_L_contains 6 rfl)
theorem dL_contains_7 : decode cL_contains 7 = .ok (.ifCond .eq 7, 3) := dqo_153 0 7 (by decide) (kb_of ke_L_contains 7 rfl) (kb_of ke_L_contains 8 rfl) (kb_of ke_L_contains 9 rfl)
theorem dL_contains_10 : decode cL_contains 10 = .ok (.lconst 1, 1) := dqo_10 (kb_of ke_L_contains 10 rfl)
theorem dL_contains_11 : decode cL_contains 11 = .ok (.goto 4, 3) := dqo_167 0 4 (by decide) (kb_of ke_L_contains 11 rfl) (kb_of ke_L_contains 12 rfl) (kb_of ke_L_contains 13 rfl)
theorem dL_contains_14 : decode cL_contains 14 = .ok (.lconst 0, 1) := dqo_9 (kb_of ke_L_contains 14 rfl)
theorem dL_contains_15 : decode cL_contains 15 = .ok (.putfield 13, 3) := dqo_181 0 13 (kb_of ke_L_contains 15 rfl) (kb_of ke_L_contains 16 rfl) (kb_of ke_L_contains 17 rfl)
theorem dL_contains_18 : decode cL_contains 18 = .ok (.goto 7, 3) := dqo_167 0 7 (by decide) (kb_of ke_L_contains 18 rfl) (kb_of ke_L_contains 19 rfl) (kb_of ke_L_contains 20 rfl)
theorem dL_contains_21 : decode cL_contains 21 = .ok (.astore 4, 2) := dqo_58 4 (kb_of ke_L_contains 21 rfl) (kb_of ke_L_contains 22 rfl)
theorem dL_contains_23 : decode cL_contains 23 = .ok (.iconst 1, 1) := dqo_4 (kb_of ke_L_contains 23 rfl)
theorem dL_contains_24 : decode cL_contains 24 = .ok (.ireturn, 1) := dqo_172 (kb_of ke_L_contains 24 rfl)
theorem dL_contains_25 : decode cL_contains 25 = .ok (.iconst 0, 1) := dqo_3 (kb_of ke_L_contains 25 rfl)
theorem dL_contains_26 : decode cL_contains 26 = .ok (.ireturn, 1) := dqo_172 (kb_of ke_L_contains 26 rfl)
theorem qcw_L_contains : Cond.codeWith yL_contains cL_contains 5 (some .int) [(0, 18, 21, 19)] ∈ GW := gw_5 21 rfl rfl
theorem pk_L_contains : PkH yL_contains cL_contains 5 (some .int) [(0, 18, 21, 19)] 4 := ⟨⟨qt_L_contains, qz_L, qcw_L_contains⟩, mh_L.1, mh_L.2, pd_46⟩
theorem pk_X2_contains : PkV RX2 yX2_contains cX2_contains 3 (some .boolean) 2 := ⟨⟨qi_X2_contains, qs_X2_contains, qz_X2, qc_X2_contains⟩, rfl, mh_X2.1, mh_X2.2, pd_5⟩
theorem W_contains {l : Launch} {D : va_G} {cy : Nat → ClassId} {X : (Nat → Prop) → State → Heap → Prop} {a : Nat → Nat → Nat} {ba ra : Nat → Nat} {f : Nat → Nat → Nat} {r : Nat → Nat → Int32} {hf : Nat → Nat → Nat} {hq : Nat → Nat → Int32} {kn th : Int32} {sm : Int64} {o : Nat} {n0 : Int64} {s0 : Value} {x0 x1 : Int32} (hX : EnvX X) (hN : EnvN X) (hC : CInv f) (hB : RB r) (hM : MR f r hf hq) (hp : PR l D cy X a ba ra f r hf hq kn th sm yX2_contains cX2_contains 3 (some .boolean) yX4_contains cX4_contains 3 (some .boolean) (rmk 9 4 48 420) [.int x0, .int x1] [("java/lang/IndexOutOfBoundsException", 1)]) : CmH l D cy X yL_contains cL_contains 5 (some .int) [(0, 18, 21, 19)] (rmk 9 1 6 300) [.ref (a 0 0), .int x0, .int x1, .ref o] (WC cy a f r kn ++ (WM cy ba ra hf hq kn th sm ++ [OUTo o n0 s0])) (fun v1 w1 => ∃ (f' : Nat → Nat → Nat) (r' : Nat → Nat → Int32) (k : Nat) (n1 : Int64), v1 = some (.int (nI k)) ∧ w1 = WC cy a f' r' kn ++ (WM cy ba ra hf hq kn th sm ++ [OUTo o n1 s0]) ∧ PN l D cy X ba ra hf hq kn th sm yX4_contains cX4_contains 3 (some .boolean) (rmk 9 4 48 420) [.int x0, .int x1] cvZ f' r' k n1) (fun _ => False) := by
  refine CmH.of [some (.ref (a 0 0)), some (.int x0), some (.int x1), some (.ref o), none] pn_L rfl (Nat.le_of_ble_eq_true rfl) ?_
  intro p e s m args below meth c A C hE hr hnt
  refine r_aload_n C dL_contains_0 rfl ?_
  refine r_aload_n C dL_contains_1 rfl ?_
  refine r_iload_n C dL_contains_2 rfl ?_
  refine r_iload_n C dL_contains_3 rfl ?_
  rcases hp.two cvZ (by simp) hC hB hM with ⟨E, k, hm, h1, h2⟩ | ⟨f', r', n, h1, h2⟩
  · refine c_V (st := [.ref o]) hX.stb C hE (h1 _) pk_X2_contains qm_L_103 0 6 rfl rfl wc_0 rfl rfl (Nat.le_of_ble_eq_true rfl) dL_contains_4 ⟨(Nat.le_of_ble_eq_true rfl), (Nat.le_of_ble_eq_true rfl)⟩ ⟨(Nat.le_of_ble_eq_true rfl), (Nat.le_of_ble_eq_true rfl)⟩ (fun _ _ h9 => h9.elim) (fun E1 hE1 => ?_)
    subst hE1
    simp only [List.mem_cons, List.not_mem_nil, or_false, Prod.mk.injEq] at hm
    obtain ⟨rfl, rfl⟩ := hm
    refine r_catch (name := "java/lang/IndexOutOfBoundsException") C [] ⟨0, 18, 21, 19⟩ [] (hnt.trans rfl) (fun z hz => absurd hz List.not_mem_nil) rfl (by decide) (C.2.2.2.2.1 _ qk_L_19) (hX.nw qca_IOB rfl hE) (fun q => ?_)
    refine r_astore C dL_contains_21 (by decide) rfl ?_
    refine r_iconst (v := nI 1) C dL_contains_23 (by decide) ?_
    exact r_iret C hr dL_contains_24 ⟨_, _, _, _, rfl, rfl, h2 _⟩ (Nat.le_of_ble_eq_true rfl) (Nat.le_of_ble_eq_true rfl)
  · refine c_V (st := [.ref o]) hX.stb C hE (h1 _) pk_X2_contains qm_L_103 0 6 rfl rfl wc_0 rfl rfl (Nat.le_of_ble_eq_true rfl) dL_contains_4 ⟨(Nat.le_of_ble_eq_true rfl), (Nat.le_of_ble_eq_true rfl)⟩ ⟨(Nat.le_of_ble_eq_true rfl), (Nat.le_of_ble_eq_true rfl)⟩ (fun v9 w9 h9 => ?_) (fun _ h9 => h9.elim)
    obtain ⟨rfl, rfl⟩ := h9
    refine r_if_eq (tgt := 14) C dL_contains_7 (by decide) (fun h0 => ?_) (fun h0 => ?_)
    · refine r_lconst (v := 0) C dL_contains_14 (by decide) ?_
      refine g_putN hX C hE qu_X3 tyX3 tyX3_ok nmX3 (ci := 7) rfl 38 outo_at 0 (by decide) qn_L_13 rfl rfl (ty := .long) rfl rfl rfl (show 0 < 2 by omega) dL_contains_15 outo_set ?_
      refine r_goto (tgt := 25) C dL_contains_18 (by decide) ?_
      refine r_iconst (v := nI 0) C dL_contains_25 (by decide) ?_
      exact r_iret C hr dL_contains_26 ⟨_, _, _, _, rfl, rfl, by rw [show cvZ n = 0 from if_pos h0] at h2; exact h2⟩ (Nat.le_of_ble_eq_true rfl) (Nat.le_of_ble_eq_true rfl)
    · refine r_lconst (v := 1) C dL_contains_10 (by decide) ?_
      refine r_goto (tgt := 15) C dL_contains_11 (by decide) ?_
      refine g_putN hX C hE qu_X3 tyX3 tyX3_ok nmX3 (ci := 7) rfl 38 outo_at 0 (by decide) qn_L_13 rfl rfl (ty := .long) rfl rfl rfl (show 0 < 2 by omega) dL_contains_15 outo_set ?_
      refine r_goto (tgt := 25) C dL_contains_18 (by decide) ?_
      refine r_iconst (v := nI 0) C dL_contains_25 (by decide) ?_
      exact r_iret C hr dL_contains_26 ⟨_, _, _, _, rfl, rfl, by rw [show cvZ n = 1 from if_neg h0] at h2; exact h2⟩ (Nat.le_of_ble_eq_true rfl) (Nat.le_of_ble_eq_true rfl)
theorem dL_howOften_0 : decode cL_howOften 0 = .ok (.aload_n 3, 1) := dqo_45 (kb_of ke_L_howOften 0 rfl)
theorem dL_howOften_1 : decode cL_howOften 1 = .ok (.aload_n 0, 1) := dqo_42 (kb_of ke_L_howOften 1 rfl)
theorem dL_howOften_2 : decode cL_howOften 2 = .ok (.iload_n 1, 1) := dqo_27 (kb_of ke_L_howOften 2 rfl)
theorem dL_howOften_3 : decode cL_howOften 3 = .ok (.iload_n 2, 1) := dqo_28 (kb_of ke_L_howOften 3 rfl)
theorem dL_howOften_4 : decode cL_howOften 4 = .ok (.invokevirtual 107, 3) := dqo_182 0 107 (kb_of ke_L_howOften 4 rfl) (kb_of ke_L_howOften 5 rfl) (kb_of ke_L_howOften 6 rfl)
theorem dL_howOften_7 : decode cL_howOften 7 = .ok (.i2l, 1) := dqo_133 (kb_of ke_L_howOften 7 rfl)
theorem dL_howOften_8 : decode cL_howOften 8 = .ok (.putfield 13, 3) := dqo_181 0 13 (kb_of ke_L_howOften 8 rfl) (kb_of ke_L_howOften 9 rfl) (kb_of ke_L_howOften 10 rfl)
theorem dL_howOften_11 : decode cL_howOften 11 = .ok (.goto 7, 3) := dqo_167 0 7 (by decide) (kb_of ke_L_howOften 11 rfl) (kb_of ke_L_howOften 12 rfl) (kb_of ke_L_howOften 13 rfl)
theorem dL_howOften_14 : decode cL_howOften 14 = .ok (.astore 4, 2) := dqo_58 4 (kb_of ke_L_howOften 14 rfl) (kb_of ke_L_howOften 15 rfl)
theorem dL_howOften_16 : decode cL_howOften 16 = .ok (.iconst 1, 1) := dqo_4 (kb_of ke_L_howOften 16 rfl)
theorem dL_howOften_17 : decode cL_howOften 17 = .ok (.ireturn, 1) := dqo_172 (kb_of ke_L_howOften 17 rfl)
theorem dL_howOften_18 : decode cL_howOften 18 = .ok (.iconst 0, 1) := dqo_3 (kb_of ke_L_howOften 18 rfl)
theorem dL_howOften_19 : decode cL_howOften 19 = .ok (.ireturn, 1) := dqo_172 (kb_of ke_L_howOften 19 rfl)
theorem qcw_L_howOften : Cond.codeWith yL_howOften cL_howOften 5 (some .int) [(0, 11, 14, 19)] ∈ GW := gw_5 28 rfl rfl
theorem pk_L_howOften : PkH yL_howOften cL_howOften 5 (some .int) [(0, 11, 14, 19)] 4 := ⟨⟨qt_L_howOften, qz_L, qcw_L_howOften⟩, mh_L.1, mh_L.2, pd_46⟩
theorem pk_X2_howOften : PkV RX2 yX2_howOften cX2_howOften 5 (some .int) 2 := ⟨⟨qi_X2_howOften, qs_X2_howOften, qz_X2, qc_X2_howOften⟩, rfl, mh_X2.1, mh_X2.2, pd_0⟩
theorem W_howOften {l : Launch} {D : va_G} {cy : Nat → ClassId} {X : (Nat → Prop) → State → Heap → Prop} {a : Nat → Nat → Nat} {ba ra : Nat → Nat} {f : Nat → Nat → Nat} {r : Nat → Nat → Int32} {hf : Nat → Nat → Nat} {hq : Nat → Nat → Int32} {kn th : Int32} {sm : Int64} {o : Nat} {n0 : Int64} {s0 : Value} {x0 x1 : Int32} (hX : EnvX X) (hN : EnvN X) (hC : CInv f) (hB : RB r) (hM : MR f r hf hq) (hp : PR l D cy X a ba ra f r hf hq kn th sm yX2_howOften cX2_howOften 5 (some .int) yX4_howOften cX4_howOften 8 (some .int) (rmk 9 4 48 420) [.int x0, .int x1] [("java/lang/IndexOutOfBoundsException", 1)]) : CmH l D cy X yL_howOften cL_howOften 5 (some .int) [(0, 11, 14, 19)] (rmk 9 1 6 300) [.ref (a 0 0), .int x0, .int x1, .ref o] (WC cy a f r kn ++ (WM cy ba ra hf hq kn th sm ++ [OUTo o n0 s0])) (fun v1 w1 => ∃ (f' : Nat → Nat → Nat) (r' : Nat → Nat → Int32) (k : Nat) (n1 : Int64), v1 = some (.int (nI k)) ∧ w1 = WC cy a f' r' kn ++ (WM cy ba ra hf hq kn th sm ++ [OUTo o n1 s0]) ∧ PN l D cy X ba ra hf hq kn th sm yX4_howOften cX4_howOften 8 (some .int) (rmk 9 4 48 420) [.int x0, .int x1] cvI f' r' k n1) (fun _ => False) := by
  refine CmH.of [some (.ref (a 0 0)), some (.int x0), some (.int x1), some (.ref o), none] pn_L rfl (Nat.le_of_ble_eq_true rfl) ?_
  intro p e s m args below meth c A C hE hr hnt
  refine r_aload_n C dL_howOften_0 rfl ?_
  refine r_aload_n C dL_howOften_1 rfl ?_
  refine r_iload_n C dL_howOften_2 rfl ?_
  refine r_iload_n C dL_howOften_3 rfl ?_
  rcases hp.two cvI (by simp) hC hB hM with ⟨E, k, hm, h1, h2⟩ | ⟨f', r', n, h1, h2⟩
  · refine c_V (st := [.ref o]) hX.stb C hE (h1 _) pk_X2_howOften qm_L_107 0 6 rfl rfl wc_0 rfl rfl (Nat.le_of_ble_eq_true rfl) dL_howOften_4 ⟨(Nat.le_of_ble_eq_true rfl), (Nat.le_of_ble_eq_true rfl)⟩ ⟨(Nat.le_of_ble_eq_true rfl), (Nat.le_of_ble_eq_true rfl)⟩ (fun _ _ h9 => h9.elim) (fun E1 hE1 => ?_)
    subst hE1
    simp only [List.mem_cons, List.not_mem_nil, or_false, Prod.mk.injEq] at hm
    obtain ⟨rfl, rfl⟩ := hm
    refine r_catch (name := "java/lang/IndexOutOfBoundsException") C [] ⟨0, 11, 14, 19⟩ [] (hnt.trans rfl) (fun z hz => absurd hz List.not_mem_nil) rfl (by decide) (C.2.2.2.2.1 _ qk_L_19) (hX.nw qca_IOB rfl hE) (fun q => ?_)
    refine r_astore C dL_howOften_14 (by decide) rfl ?_
    refine r_iconst (v := nI 1) C dL_howOften_16 (by decide) ?_
    exact r_iret C hr dL_howOften_17 ⟨_, _, _, _, rfl, rfl, h2 _⟩ (Nat.le_of_ble_eq_true rfl) (Nat.le_of_ble_eq_true rfl)
  · refine c_V (st := [.ref o]) hX.stb C hE (h1 _) pk_X2_howOften qm_L_107 0 6 rfl rfl wc_0 rfl rfl (Nat.le_of_ble_eq_true rfl) dL_howOften_4 ⟨(Nat.le_of_ble_eq_true rfl), (Nat.le_of_ble_eq_true rfl)⟩ ⟨(Nat.le_of_ble_eq_true rfl), (Nat.le_of_ble_eq_true rfl)⟩ (fun v9 w9 h9 => ?_) (fun _ h9 => h9.elim)
    obtain ⟨rfl, rfl⟩ := h9
    refine r_i2l C dL_howOften_7 ?_
    refine g_putN hX C hE qu_X3 tyX3 tyX3_ok nmX3 (ci := 7) rfl 38 outo_at 0 (by decide) qn_L_13 rfl rfl (ty := .long) rfl rfl rfl (show 0 < 2 by omega) dL_howOften_8 outo_set ?_
    refine r_goto (tgt := 18) C dL_howOften_11 (by decide) ?_
    refine r_iconst (v := nI 0) C dL_howOften_18 (by decide) ?_
    exact r_iret C hr dL_howOften_19 ⟨_, _, _, _, rfl, rfl, h2⟩ (Nat.le_of_ble_eq_true rfl) (Nat.le_of_ble_eq_true rfl)
theorem dL_least_0 : decode cL_least 0 = .ok (.aload_n 3, 1) := dqo_45 (kb_of ke_L_least 0 rfl)
theorem dL_least_1 : decode cL_least 1 = .ok (.aload_n 0, 1) := dqo_42 (kb_of ke_L_least 1 rfl)
theorem dL_least_2 : decode cL_least 2 = .ok (.iload_n 1, 1) := dqo_27 (kb_of ke_L_least 2 rfl)
theorem dL_least_3 : decode cL_least 3 = .ok (.iload_n 2, 1) := dqo_28 (kb_of ke_L_least 3 rfl)
theorem dL_least_4 : decode cL_least 4 = .ok (.invokevirtual 110, 3) := dqo_182 0 110 (kb_of ke_L_least 4 rfl) (kb_of ke_L_least 5 rfl) (kb_of ke_L_least 6 rfl)
theorem dL_least_7 : decode cL_least 7 = .ok (.i2l, 1) := dqo_133 (kb_of ke_L_least 7 rfl)
theorem dL_least_8 : decode cL_least 8 = .ok (.putfield 13, 3) := dqo_181 0 13 (kb_of ke_L_least 8 rfl) (kb_of ke_L_least 9 rfl) (kb_of ke_L_least 10 rfl)
theorem dL_least_11 : decode cL_least 11 = .ok (.goto 11, 3) := dqo_167 0 11 (by decide) (kb_of ke_L_least 11 rfl) (kb_of ke_L_least 12 rfl) (kb_of ke_L_least 13 rfl)
theorem dL_least_14 : decode cL_least 14 = .ok (.astore 4, 2) := dqo_58 4 (kb_of ke_L_least 14 rfl) (kb_of ke_L_least 15 rfl)
theorem dL_least_16 : decode cL_least 16 = .ok (.iconst 1, 1) := dqo_4 (kb_of ke_L_least 16 rfl)
theorem dL_least_17 : decode cL_least 17 = .ok (.ireturn, 1) := dqo_172 (kb_of ke_L_least 17 rfl)
theorem dL_least_18 : decode cL_least 18 = .ok (.astore 4, 2) := dqo_58 4 (kb_of ke_L_least 18 rfl) (kb_of ke_L_least 19 rfl)
theorem dL_least_20 : decode cL_least 20 = .ok (.iconst 2, 1) := dqo_5 (kb_of ke_L_least 20 rfl)
theorem dL_least_21 : decode cL_least 21 = .ok (.ireturn, 1) := dqo_172 (kb_of ke_L_least 21 rfl)
theorem dL_least_22 : decode cL_least 22 = .ok (.iconst 0, 1) := dqo_3 (kb_of ke_L_least 22 rfl)
theorem dL_least_23 : decode cL_least 23 = .ok (.ireturn, 1) := dqo_172 (kb_of ke_L_least 23 rfl)
theorem qcw_L_least : Cond.codeWith yL_least cL_least 5 (some .int) [(0, 11, 14, 19), (0, 11, 18, 23)] ∈ GW := gw_5 35 rfl rfl
theorem pk_L_least : PkH yL_least cL_least 5 (some .int) [(0, 11, 14, 19), (0, 11, 18, 23)] 4 := ⟨⟨qt_L_least, qz_L, qcw_L_least⟩, mh_L.1, mh_L.2, pd_51⟩
theorem pk_X2_least : PkV RX2 yX2_least cX2_least 6 (some .int) 2 := ⟨⟨qi_X2_least, qs_X2_least, qz_X2, qc_X2_least⟩, rfl, mh_X2.1, mh_X2.2, pd_52⟩
theorem W_least {l : Launch} {D : va_G} {cy : Nat → ClassId} {X : (Nat → Prop) → State → Heap → Prop} {a : Nat → Nat → Nat} {ba ra : Nat → Nat} {f : Nat → Nat → Nat} {r : Nat → Nat → Int32} {hf : Nat → Nat → Nat} {hq : Nat → Nat → Int32} {kn th : Int32} {sm : Int64} {o : Nat} {n0 : Int64} {s0 : Value} {x0 x1 : Int32} (hX : EnvX X) (hN : EnvN X) (hC : CInv f) (hB : RB r) (hM : MR f r hf hq) (hp : PR l D cy X a ba ra f r hf hq kn th sm yX2_least cX2_least 6 (some .int) yX4_least cX4_least 8 (some .int) (rmk 9 4 48 420) [.int x0, .int x1] [("java/lang/IndexOutOfBoundsException", 1), ("java/lang/IllegalStateException", 2)]) : CmH l D cy X yL_least cL_least 5 (some .int) [(0, 11, 14, 19), (0, 11, 18, 23)] (rmk 9 1 6 300) [.ref (a 0 0), .int x0, .int x1, .ref o] (WC cy a f r kn ++ (WM cy ba ra hf hq kn th sm ++ [OUTo o n0 s0])) (fun v1 w1 => ∃ (f' : Nat → Nat → Nat) (r' : Nat → Nat → Int32) (k : Nat) (n1 : Int64), v1 = some (.int (nI k)) ∧ w1 = WC cy a f' r' kn ++ (WM cy ba ra hf hq kn th sm ++ [OUTo o n1 s0]) ∧ PN l D cy X ba ra hf hq kn th sm yX4_least cX4_least 8 (some .int) (rmk 9 4 48 420) [.int x0, .int x1] cvI f' r' k n1) (fun _ => False) := by
  refine CmH.of [some (.ref (a 0 0)), some (.int x0), some (.int x1), some (.ref o), none] pn_L rfl (Nat.le_of_ble_eq_true rfl) ?_
  intro p e s m args below meth c A C hE hr hnt
  refine r_aload_n C dL_least_0 rfl ?_
  refine r_aload_n C dL_least_1 rfl ?_
  refine r_iload_n C dL_least_2 rfl ?_
  refine r_iload_n C dL_least_3 rfl ?_
  rcases hp.two cvI (by simp) hC hB hM with ⟨E, k, hm, h1, h2⟩ | ⟨f', r', n, h1, h2⟩
  · refine c_V (st := [.ref o]) hX.stb C hE (h1 _) pk_X2_least qm_L_110 0 6 rfl rfl wc_0 rfl rfl (Nat.le_of_ble_eq_true rfl) dL_least_4 ⟨(Nat.le_of_ble_eq_true rfl), (Nat.le_of_ble_eq_true rfl)⟩ ⟨(Nat.le_of_ble_eq_true rfl), (Nat.le_of_ble_eq_true rfl)⟩ (fun _ _ h9 => h9.elim) (fun E1 hE1 => ?_)
    subst hE1
    simp only [List.mem_cons, List.not_mem_nil, or_false, Prod.mk.injEq] at hm
    rcases hm with ⟨rfl, rfl⟩ | ⟨rfl, rfl⟩
    · refine r_catch (name := "java/lang/IndexOutOfBoundsException") C [] ⟨0, 11, 14, 19⟩ [⟨0, 11, 18, 23⟩] (hnt.trans rfl) (fun z hz => absurd hz List.not_mem_nil) rfl (by decide) (C.2.2.2.2.1 _ qk_L_19) (hX.nw qca_IOB rfl hE) (fun q => ?_)
      refine r_astore C dL_least_14 (by decide) rfl ?_
      refine r_iconst (v := nI 1) C dL_least_16 (by decide) ?_
      exact r_iret C hr dL_least_17 ⟨_, _, _, _, rfl, rfl, h2 _⟩ (Nat.le_of_ble_eq_true rfl) (Nat.le_of_ble_eq_true rfl)
    · refine r_catch (name := "java/lang/IllegalStateException") C [⟨0, 11, 14, 19⟩] ⟨0, 11, 18, 23⟩ [] (hnt.trans rfl) (fun z hz => by
        simp only [List.mem_cons, List.not_mem_nil, or_false] at hz
        subst hz
        exact Or.inr ⟨by decide, "java/lang/IndexOutOfBoundsException", C.2.2.2.2.1 _ qk_L_19, hN ("java/lang/IllegalStateException", "java/lang/IndexOutOfBoundsException") (by simp [NCL]) _ _ _ hE⟩) rfl (by decide) (C.2.2.2.2.1 _ qk_L_23) (hX.nw qca_ISE rfl hE) (fun q => ?_)
      refine r_astore C dL_least_18 (by decide) rfl ?_
      refine r_iconst (v := nI 2) C dL_least_20 (by decide) ?_
      exact r_iret C hr dL_least_21 ⟨_, _, _, _, rfl, rfl, h2 _⟩ (Nat.le_of_ble_eq_true rfl) (Nat.le_of_ble_eq_true rfl)
  · refine c_V (st := [.ref o]) hX.stb C hE (h1 _) pk_X2_least qm_L_110 0 6 rfl rfl wc_0 rfl rfl (Nat.le_of_ble_eq_true rfl) dL_least_4 ⟨(Nat.le_of_ble_eq_true rfl), (Nat.le_of_ble_eq_true rfl)⟩ ⟨(Nat.le_of_ble_eq_true rfl), (Nat.le_of_ble_eq_true rfl)⟩ (fun v9 w9 h9 => ?_) (fun _ h9 => h9.elim)
    obtain ⟨rfl, rfl⟩ := h9
    refine r_i2l C dL_least_7 ?_
    refine g_putN hX C hE qu_X3 tyX3 tyX3_ok nmX3 (ci := 7) rfl 38 outo_at 0 (by decide) qn_L_13 rfl rfl (ty := .long) rfl rfl rfl (show 0 < 2 by omega) dL_least_8 outo_set ?_
    refine r_goto (tgt := 22) C dL_least_11 (by decide) ?_
    refine r_iconst (v := nI 0) C dL_least_22 (by decide) ?_
    exact r_iret C hr dL_least_23 ⟨_, _, _, _, rfl, rfl, h2⟩ (Nat.le_of_ble_eq_true rfl) (Nat.le_of_ble_eq_true rfl)
theorem dL_areApart_0 : decode cL_areApart 0 = .ok (.aload_n 3, 1) := dqo_45 (kb_of ke_L_areApart 0 rfl)
theorem dL_areApart_1 : decode cL_areApart 1 = .ok (.aload_n 0, 1) := dqo_42 (kb_of ke_L_areApart 1 rfl)
theorem dL_areApart_2 : decode cL_areApart 2 = .ok (.iload_n 1, 1) := dqo_27 (kb_of ke_L_areApart 2 rfl)
theorem dL_areApart_3 : decode cL_areApart 3 = .ok (.iload_n 2, 1) := dqo_28 (kb_of ke_L_areApart 3 rfl)
theorem dL_areApart_4 : decode cL_areApart 4 = .ok (.invokevirtual 114, 3) := dqo_182 0 114 (kb_of ke_L_areApart 4 rfl) (kb_of ke_L_areApart 5 rfl) (kb_of ke_L_areApart 6 rfl)
theorem dL_areApart_7 : decode cL_areApart 7 = .ok (.ifCond .eq 7, 3) := dqo_153 0 7 (by decide) (kb_of ke_L_areApart 7 rfl) (kb_of ke_L_areApart 8 rfl) (kb_of ke_L_areApart 9 rfl)
theorem dL_areApart_10 : decode cL_areApart 10 = .ok (.lconst 1, 1) := dqo_10 (kb_of ke_L_areApart 10 rfl)
theorem dL_areApart_11 : decode cL_areApart 11 = .ok (.goto 4, 3) := dqo_167 0 4 (by decide) (kb_of ke_L_areApart 11 rfl) (kb_of ke_L_areApart 12 rfl) (kb_of ke_L_areApart 13 rfl)
theorem dL_areApart_14 : decode cL_areApart 14 = .ok (.lconst 0, 1) := dqo_9 (kb_of ke_L_areApart 14 rfl)
theorem dL_areApart_15 : decode cL_areApart 15 = .ok (.putfield 13, 3) := dqo_181 0 13 (kb_of ke_L_areApart 15 rfl) (kb_of ke_L_areApart 16 rfl) (kb_of ke_L_areApart 17 rfl)
theorem dL_areApart_18 : decode cL_areApart 18 = .ok (.goto 7, 3) := dqo_167 0 7 (by decide) (kb_of ke_L_areApart 18 rfl) (kb_of ke_L_areApart 19 rfl) (kb_of ke_L_areApart 20 rfl)
theorem dL_areApart_21 : decode cL_areApart 21 = .ok (.astore 4, 2) := dqo_58 4 (kb_of ke_L_areApart 21 rfl) (kb_of ke_L_areApart 22 rfl)
theorem dL_areApart_23 : decode cL_areApart 23 = .ok (.iconst 1, 1) := dqo_4 (kb_of ke_L_areApart 23 rfl)
theorem dL_areApart_24 : decode cL_areApart 24 = .ok (.ireturn, 1) := dqo_172 (kb_of ke_L_areApart 24 rfl)
theorem dL_areApart_25 : decode cL_areApart 25 = .ok (.iconst 0, 1) := dqo_3 (kb_of ke_L_areApart 25 rfl)
theorem dL_areApart_26 : decode cL_areApart 26 = .ok (.ireturn, 1) := dqo_172 (kb_of ke_L_areApart 26 rfl)
theorem qcw_L_areApart : Cond.codeWith yL_areApart cL_areApart 5 (some .int) [(0, 18, 21, 19)] ∈ GW := gw_5 45 rfl rfl
theorem pk_L_areApart : PkH yL_areApart cL_areApart 5 (some .int) [(0, 18, 21, 19)] 4 := ⟨⟨qt_L_areApart, qz_L, qcw_L_areApart⟩, mh_L.1, mh_L.2, pd_46⟩
theorem pk_X2_areApart : PkV RX2 yX2_areApart cX2_areApart 4 (some .boolean) 2 := ⟨⟨qi_X2_areApart, qs_X2_areApart, qz_X2, qc_X2_areApart⟩, rfl, mh_X2.1, mh_X2.2, pd_5⟩
theorem W_areApart {l : Launch} {D : va_G} {cy : Nat → ClassId} {X : (Nat → Prop) → State → Heap → Prop} {a : Nat → Nat → Nat} {ba ra : Nat → Nat} {f : Nat → Nat → Nat} {r : Nat → Nat → Int32} {hf : Nat → Nat → Nat} {hq : Nat → Nat → Int32} {kn th : Int32} {sm : Int64} {o : Nat} {n0 : Int64} {s0 : Value} {x0 x1 : Int32} (hX : EnvX X) (hN : EnvN X) (hC : CInv f) (hB : RB r) (hM : MR f r hf hq) (hp : PR l D cy X a ba ra f r hf hq kn th sm yX2_areApart cX2_areApart 4 (some .boolean) yX4_areApart cX4_areApart 8 (some .boolean) (rmk 9 4 48 420) [.int x0, .int x1] [("java/lang/IndexOutOfBoundsException", 1)]) : CmH l D cy X yL_areApart cL_areApart 5 (some .int) [(0, 18, 21, 19)] (rmk 9 1 6 300) [.ref (a 0 0), .int x0, .int x1, .ref o] (WC cy a f r kn ++ (WM cy ba ra hf hq kn th sm ++ [OUTo o n0 s0])) (fun v1 w1 => ∃ (f' : Nat → Nat → Nat) (r' : Nat → Nat → Int32) (k : Nat) (n1 : Int64), v1 = some (.int (nI k)) ∧ w1 = WC cy a f' r' kn ++ (WM cy ba ra hf hq kn th sm ++ [OUTo o n1 s0]) ∧ PN l D cy X ba ra hf hq kn th sm yX4_areApart cX4_areApart 8 (some .boolean) (rmk 9 4 48 420) [.int x0, .int x1] cvZ f' r' k n1) (fun _ => False) := by
  refine CmH.of [some (.ref (a 0 0)), some (.int x0), some (.int x1), some (.ref o), none] pn_L rfl (Nat.le_of_ble_eq_true rfl) ?_
  intro p e s m args below meth c A C hE hr hnt
  refine r_aload_n C dL_areApart_0 rfl ?_
  refine r_aload_n C dL_areApart_1 rfl ?_
  refine r_iload_n C dL_areApart_2 rfl ?_
  refine r_iload_n C dL_areApart_3 rfl ?_
  rcases hp.two cvZ (by simp) hC hB hM with ⟨E, k, hm, h1, h2⟩ | ⟨f', r', n, h1, h2⟩
  · refine c_V (st := [.ref o]) hX.stb C hE (h1 _) pk_X2_areApart qm_L_114 0 6 rfl rfl wc_0 rfl rfl (Nat.le_of_ble_eq_true rfl) dL_areApart_4 ⟨(Nat.le_of_ble_eq_true rfl), (Nat.le_of_ble_eq_true rfl)⟩ ⟨(Nat.le_of_ble_eq_true rfl), (Nat.le_of_ble_eq_true rfl)⟩ (fun _ _ h9 => h9.elim) (fun E1 hE1 => ?_)
    subst hE1
    simp only [List.mem_cons, List.not_mem_nil, or_false, Prod.mk.injEq] at hm
    obtain ⟨rfl, rfl⟩ := hm
    refine r_catch (name := "java/lang/IndexOutOfBoundsException") C [] ⟨0, 18, 21, 19⟩ [] (hnt.trans rfl) (fun z hz => absurd hz List.not_mem_nil) rfl (by decide) (C.2.2.2.2.1 _ qk_L_19) (hX.nw qca_IOB rfl hE) (fun q => ?_)
    refine r_astore C dL_areApart_21 (by decide) rfl ?_
    refine r_iconst (v := nI 1) C dL_areApart_23 (by decide) ?_
    exact r_iret C hr dL_areApart_24 ⟨_, _, _, _, rfl, rfl, h2 _⟩ (Nat.le_of_ble_eq_true rfl) (Nat.le_of_ble_eq_true rfl)
  · refine c_V (st := [.ref o]) hX.stb C hE (h1 _) pk_X2_areApart qm_L_114 0 6 rfl rfl wc_0 rfl rfl (Nat.le_of_ble_eq_true rfl) dL_areApart_4 ⟨(Nat.le_of_ble_eq_true rfl), (Nat.le_of_ble_eq_true rfl)⟩ ⟨(Nat.le_of_ble_eq_true rfl), (Nat.le_of_ble_eq_true rfl)⟩ (fun v9 w9 h9 => ?_) (fun _ h9 => h9.elim)
    obtain ⟨rfl, rfl⟩ := h9
    refine r_if_eq (tgt := 14) C dL_areApart_7 (by decide) (fun h0 => ?_) (fun h0 => ?_)
    · refine r_lconst (v := 0) C dL_areApart_14 (by decide) ?_
      refine g_putN hX C hE qu_X3 tyX3 tyX3_ok nmX3 (ci := 7) rfl 38 outo_at 0 (by decide) qn_L_13 rfl rfl (ty := .long) rfl rfl rfl (show 0 < 2 by omega) dL_areApart_15 outo_set ?_
      refine r_goto (tgt := 25) C dL_areApart_18 (by decide) ?_
      refine r_iconst (v := nI 0) C dL_areApart_25 (by decide) ?_
      exact r_iret C hr dL_areApart_26 ⟨_, _, _, _, rfl, rfl, by rw [show cvZ n = 0 from if_pos h0] at h2; exact h2⟩ (Nat.le_of_ble_eq_true rfl) (Nat.le_of_ble_eq_true rfl)
    · refine r_lconst (v := 1) C dL_areApart_10 (by decide) ?_
      refine r_goto (tgt := 15) C dL_areApart_11 (by decide) ?_
      refine g_putN hX C hE qu_X3 tyX3 tyX3_ok nmX3 (ci := 7) rfl 38 outo_at 0 (by decide) qn_L_13 rfl rfl (ty := .long) rfl rfl rfl (show 0 < 2 by omega) dL_areApart_15 outo_set ?_
      refine r_goto (tgt := 25) C dL_areApart_18 (by decide) ?_
      refine r_iconst (v := nI 0) C dL_areApart_25 (by decide) ?_
      exact r_iret C hr dL_areApart_26 ⟨_, _, _, _, rfl, rfl, by rw [show cvZ n = 1 from if_neg h0] at h2; exact h2⟩ (Nat.le_of_ble_eq_true rfl) (Nat.le_of_ble_eq_true rfl)
theorem dL_areSame_0 : decode cL_areSame 0 = .ok (.aload_n 3, 1) := dqo_45 (kb_of ke_L_areSame 0 rfl)
theorem dL_areSame_1 : decode cL_areSame 1 = .ok (.aload_n 0, 1) := dqo_42 (kb_of ke_L_areSame 1 rfl)
theorem dL_areSame_2 : decode cL_areSame 2 = .ok (.iload_n 1, 1) := dqo_27 (kb_of ke_L_areSame 2 rfl)
theorem dL_areSame_3 : decode cL_areSame 3 = .ok (.iload_n 2, 1) := dqo_28 (kb_of ke_L_areSame 3 rfl)
theorem dL_areSame_4 : decode cL_areSame 4 = .ok (.invokevirtual 117, 3) := dqo_182 0 117 (kb_of ke_L_areSame 4 rfl) (kb_of ke_L_areSame 5 rfl) (kb_of ke_L_areSame 6 rfl)
theorem dL_areSame_7 : decode cL_areSame 7 = .ok (.ifCond .eq 7, 3) := dqo_153 0 7 (by decide) (kb_of ke_L_areSame 7 rfl) (kb_of ke_L_areSame 8 rfl) (kb_of ke_L_areSame 9 rfl)
theorem dL_areSame_10 : decode cL_areSame 10 = .ok (.lconst 1, 1) := dqo_10 (kb_of ke_L_areSame 10 rfl)
theorem dL_areSame_11 : decode cL_areSame 11 = .ok (.goto 4, 3) := dqo_167 0 4 (by decide) (kb_of ke_L_areSame 11 rfl) (kb_of ke_L_areSame 12 rfl) (kb_of ke_L_areSame 13 rfl)
theorem dL_areSame_14 : decode cL_areSame 14 = .ok (.lconst 0, 1) := dqo_9 (kb_of ke_L_areSame 14 rfl)
theorem dL_areSame_15 : decode cL_areSame 15 = .ok (.putfield 13, 3) := dqo_181 0 13 (kb_of ke_L_areSame 15 rfl) (kb_of ke_L_areSame 16 rfl) (kb_of ke_L_areSame 17 rfl)
theorem dL_areSame_18 : decode cL_areSame 18 = .ok (.goto 7, 3) := dqo_167 0 7 (by decide) (kb_of ke_L_areSame 18 rfl) (kb_of ke_L_areSame 19 rfl) (kb_of ke_L_areSame 20 rfl)
theorem dL_areSame_21 : decode cL_areSame 21 = .ok (.astore 4, 2) := dqo_58 4 (kb_of ke_L_areSame 21 rfl) (kb_of ke_L_areSame 22 rfl)
theorem dL_areSame_23 : decode cL_areSame 23 = .ok (.iconst 1, 1) := dqo_4 (kb_of ke_L_areSame 23 rfl)
theorem dL_areSame_24 : decode cL_areSame 24 = .ok (.ireturn, 1) := dqo_172 (kb_of ke_L_areSame 24 rfl)
theorem dL_areSame_25 : decode cL_areSame 25 = .ok (.iconst 0, 1) := dqo_3 (kb_of ke_L_areSame 25 rfl)
theorem dL_areSame_26 : decode cL_areSame 26 = .ok (.ireturn, 1) := dqo_172 (kb_of ke_L_areSame 26 rfl)
theorem qcw_L_areSame : Cond.codeWith yL_areSame cL_areSame 5 (some .int) [(0, 18, 21, 19)] ∈ GW := gw_5 52 rfl rfl
theorem pk_L_areSame : PkH yL_areSame cL_areSame 5 (some .int) [(0, 18, 21, 19)] 4 := ⟨⟨qt_L_areSame, qz_L, qcw_L_areSame⟩, mh_L.1, mh_L.2, pd_46⟩
theorem pk_X2_areSame : PkV RX2 yX2_areSame cX2_areSame 3 (some .boolean) 2 := ⟨⟨qi_X2_areSame, qs_X2_areSame, qz_X2, qc_X2_areSame⟩, rfl, mh_X2.1, mh_X2.2, pd_5⟩
theorem W_areSame {l : Launch} {D : va_G} {cy : Nat → ClassId} {X : (Nat → Prop) → State → Heap → Prop} {a : Nat → Nat → Nat} {ba ra : Nat → Nat} {f : Nat → Nat → Nat} {r : Nat → Nat → Int32} {hf : Nat → Nat → Nat} {hq : Nat → Nat → Int32} {kn th : Int32} {sm : Int64} {o : Nat} {n0 : Int64} {s0 : Value} {x0 x1 : Int32} (hX : EnvX X) (hN : EnvN X) (hC : CInv f) (hB : RB r) (hM : MR f r hf hq) (hp : PR l D cy X a ba ra f r hf hq kn th sm yX2_areSame cX2_areSame 3 (some .boolean) yX4_areSame cX4_areSame 3 (some .boolean) (rmk 9 4 48 420) [.int x0, .int x1] [("java/lang/IndexOutOfBoundsException", 1)]) : CmH l D cy X yL_areSame cL_areSame 5 (some .int) [(0, 18, 21, 19)] (rmk 9 1 6 300) [.ref (a 0 0), .int x0, .int x1, .ref o] (WC cy a f r kn ++ (WM cy ba ra hf hq kn th sm ++ [OUTo o n0 s0])) (fun v1 w1 => ∃ (f' : Nat → Nat → Nat) (r' : Nat → Nat → Int32) (k : Nat) (n1 : Int64), v1 = some (.int (nI k)) ∧ w1 = WC cy a f' r' kn ++ (WM cy ba ra hf hq kn th sm ++ [OUTo o n1 s0]) ∧ PN l D cy X ba ra hf hq kn th sm yX4_areSame cX4_areSame 3 (some .boolean) (rmk 9 4 48 420) [.int x0, .int x1] cvZ f' r' k n1) (fun _ => False) := by
  refine CmH.of [some (.ref (a 0 0)), some (.int x0), some (.int x1), some (.ref o), none] pn_L rfl (Nat.le_of_ble_eq_true rfl) ?_
  intro p e s m args below meth c A C hE hr hnt
  refine r_aload_n C dL_areSame_0 rfl ?_
  refine r_aload_n C dL_areSame_1 rfl ?_
  refine r_iload_n C dL_areSame_2 rfl ?_
  refine r_iload_n C dL_areSame_3 rfl ?_
  rcases hp.two cvZ (by simp) hC hB hM with ⟨E, k, hm, h1, h2⟩ | ⟨f', r', n, h1, h2⟩
  · refine c_V (st := [.ref o]) hX.stb C hE (h1 _) pk_X2_areSame qm_L_117 0 6 rfl rfl wc_0 rfl rfl (Nat.le_of_ble_eq_true rfl) dL_areSame_4 ⟨(Nat.le_of_ble_eq_true rfl), (Nat.le_of_ble_eq_true rfl)⟩ ⟨(Nat.le_of_ble_eq_true rfl), (Nat.le_of_ble_eq_true rfl)⟩ (fun _ _ h9 => h9.elim) (fun E1 hE1 => ?_)
    subst hE1
    simp only [List.mem_cons, List.not_mem_nil, or_false, Prod.mk.injEq] at hm
    obtain ⟨rfl, rfl⟩ := hm
    refine r_catch (name := "java/lang/IndexOutOfBoundsException") C [] ⟨0, 18, 21, 19⟩ [] (hnt.trans rfl) (fun z hz => absurd hz List.not_mem_nil) rfl (by decide) (C.2.2.2.2.1 _ qk_L_19) (hX.nw qca_IOB rfl hE) (fun q => ?_)
    refine r_astore C dL_areSame_21 (by decide) rfl ?_
    refine r_iconst (v := nI 1) C dL_areSame_23 (by decide) ?_
    exact r_iret C hr dL_areSame_24 ⟨_, _, _, _, rfl, rfl, h2 _⟩ (Nat.le_of_ble_eq_true rfl) (Nat.le_of_ble_eq_true rfl)
  · refine c_V (st := [.ref o]) hX.stb C hE (h1 _) pk_X2_areSame qm_L_117 0 6 rfl rfl wc_0 rfl rfl (Nat.le_of_ble_eq_true rfl) dL_areSame_4 ⟨(Nat.le_of_ble_eq_true rfl), (Nat.le_of_ble_eq_true rfl)⟩ ⟨(Nat.le_of_ble_eq_true rfl), (Nat.le_of_ble_eq_true rfl)⟩ (fun v9 w9 h9 => ?_) (fun _ h9 => h9.elim)
    obtain ⟨rfl, rfl⟩ := h9
    refine r_if_eq (tgt := 14) C dL_areSame_7 (by decide) (fun h0 => ?_) (fun h0 => ?_)
    · refine r_lconst (v := 0) C dL_areSame_14 (by decide) ?_
      refine g_putN hX C hE qu_X3 tyX3 tyX3_ok nmX3 (ci := 7) rfl 38 outo_at 0 (by decide) qn_L_13 rfl rfl (ty := .long) rfl rfl rfl (show 0 < 2 by omega) dL_areSame_15 outo_set ?_
      refine r_goto (tgt := 25) C dL_areSame_18 (by decide) ?_
      refine r_iconst (v := nI 0) C dL_areSame_25 (by decide) ?_
      exact r_iret C hr dL_areSame_26 ⟨_, _, _, _, rfl, rfl, by rw [show cvZ n = 0 from if_pos h0] at h2; exact h2⟩ (Nat.le_of_ble_eq_true rfl) (Nat.le_of_ble_eq_true rfl)
    · refine r_lconst (v := 1) C dL_areSame_10 (by decide) ?_
      refine r_goto (tgt := 15) C dL_areSame_11 (by decide) ?_
      refine g_putN hX C hE qu_X3 tyX3 tyX3_ok nmX3 (ci := 7) rfl 38 outo_at 0 (by decide) qn_L_13 rfl rfl (ty := .long) rfl rfl rfl (show 0 < 2 by omega) dL_areSame_15 outo_set ?_
      refine r_goto (tgt := 25) C dL_areSame_18 (by decide) ?_
      refine r_iconst (v := nI 0) C dL_areSame_25 (by decide) ?_
      exact r_iret C hr dL_areSame_26 ⟨_, _, _, _, rfl, rfl, by rw [show cvZ n = 1 from if_neg h0] at h2; exact h2⟩ (Nat.le_of_ble_eq_true rfl) (Nat.le_of_ble_eq_true rfl)
theorem dL_hash_0 : decode cL_hash 0 = .ok (.aload_n 2, 1) := dqo_44 (kb_of ke_L_hash 0 rfl)
theorem dL_hash_1 : decode cL_hash 1 = .ok (.aload_n 0, 1) := dqo_42 (kb_of ke_L_hash 1 rfl)
theorem dL_hash_2 : decode cL_hash 2 = .ok (.iload_n 1, 1) := dqo_27 (kb_of ke_L_hash 2 rfl)
theorem dL_hash_3 : decode cL_hash 3 = .ok (.invokevirtual 120, 3) := dqo_182 0 120 (kb_of ke_L_hash 3 rfl) (kb_of ke_L_hash 4 rfl) (kb_of ke_L_hash 5 rfl)
theorem dL_hash_6 : decode cL_hash 6 = .ok (.i2l, 1) := dqo_133 (kb_of ke_L_hash 6 rfl)
theorem dL_hash_7 : decode cL_hash 7 = .ok (.putfield 13, 3) := dqo_181 0 13 (kb_of ke_L_hash 7 rfl) (kb_of ke_L_hash 8 rfl) (kb_of ke_L_hash 9 rfl)
theorem dL_hash_10 : decode cL_hash 10 = .ok (.goto 6, 3) := dqo_167 0 6 (by decide) (kb_of ke_L_hash 10 rfl) (kb_of ke_L_hash 11 rfl) (kb_of ke_L_hash 12 rfl)
theorem dL_hash_13 : decode cL_hash 13 = .ok (.astore_n 3, 1) := dqo_78 (kb_of ke_L_hash 13 rfl)
theorem dL_hash_14 : decode cL_hash 14 = .ok (.iconst 1, 1) := dqo_4 (kb_of ke_L_hash 14 rfl)
theorem dL_hash_15 : decode cL_hash 15 = .ok (.ireturn, 1) := dqo_172 (kb_of ke_L_hash 15 rfl)
theorem dL_hash_16 : decode cL_hash 16 = .ok (.iconst 0, 1) := dqo_3 (kb_of ke_L_hash 16 rfl)
theorem dL_hash_17 : decode cL_hash 17 = .ok (.ireturn, 1) := dqo_172 (kb_of ke_L_hash 17 rfl)
theorem qcw_L_hash : Cond.codeWith yL_hash cL_hash 4 (some .int) [(0, 10, 13, 19)] ∈ GW := gw_5 59 rfl rfl
theorem pk_L_hash : PkH yL_hash cL_hash 4 (some .int) [(0, 10, 13, 19)] 3 := ⟨⟨qt_L_hash, qz_L, qcw_L_hash⟩, mh_L.1, mh_L.2, pd_48⟩
theorem pk_X2_hash : PkV RX2 yX2_hash cX2_hash 2 (some .int) 1 := ⟨⟨qi_X2_hash, qs_X2_hash, qz_X2, qc_X2_hash⟩, rfl, mh_X2.1, mh_X2.2, pd_1⟩
theorem W_hash {l : Launch} {D : va_G} {cy : Nat → ClassId} {X : (Nat → Prop) → State → Heap → Prop} {a : Nat → Nat → Nat} {ba ra : Nat → Nat} {f : Nat → Nat → Nat} {r : Nat → Nat → Int32} {hf : Nat → Nat → Nat} {hq : Nat → Nat → Int32} {kn th : Int32} {sm : Int64} {o : Nat} {n0 : Int64} {s0 : Value} {x0 : Int32} (hX : EnvX X) (hN : EnvN X) (hC : CInv f) (hB : RB r) (hM : MR f r hf hq) (hp : PR l D cy X a ba ra f r hf hq kn th sm yX2_hash cX2_hash 2 (some .int) yX4_hash cX4_hash 2 (some .int) (rmk 9 4 48 420) [.int x0] [("java/lang/IndexOutOfBoundsException", 1)]) : CmH l D cy X yL_hash cL_hash 4 (some .int) [(0, 10, 13, 19)] (rmk 9 1 6 300) [.ref (a 0 0), .int x0, .ref o] (WC cy a f r kn ++ (WM cy ba ra hf hq kn th sm ++ [OUTo o n0 s0])) (fun v1 w1 => ∃ (f' : Nat → Nat → Nat) (r' : Nat → Nat → Int32) (k : Nat) (n1 : Int64), v1 = some (.int (nI k)) ∧ w1 = WC cy a f' r' kn ++ (WM cy ba ra hf hq kn th sm ++ [OUTo o n1 s0]) ∧ PN l D cy X ba ra hf hq kn th sm yX4_hash cX4_hash 2 (some .int) (rmk 9 4 48 420) [.int x0] cvI f' r' k n1) (fun _ => False) := by
  refine CmH.of [some (.ref (a 0 0)), some (.int x0), some (.ref o), none] pn_L rfl (Nat.le_of_ble_eq_true rfl) ?_
  intro p e s m args below meth c A C hE hr hnt
  refine r_aload_n C dL_hash_0 rfl ?_
  refine r_aload_n C dL_hash_1 rfl ?_
  refine r_iload_n C dL_hash_2 rfl ?_
  rcases hp.two cvI (by simp) hC hB hM with ⟨E, k, hm, h1, h2⟩ | ⟨f', r', n, h1, h2⟩
  · refine c_V (st := [.ref o]) hX.stb C hE (h1 _) pk_X2_hash qm_L_120 0 6 rfl rfl wc_0 rfl rfl (Nat.le_of_ble_eq_true rfl) dL_hash_3 ⟨(Nat.le_of_ble_eq_true rfl), (Nat.le_of_ble_eq_true rfl)⟩ ⟨(Nat.le_of_ble_eq_true rfl), (Nat.le_of_ble_eq_true rfl)⟩ (fun _ _ h9 => h9.elim) (fun E1 hE1 => ?_)
    subst hE1
    simp only [List.mem_cons, List.not_mem_nil, or_false, Prod.mk.injEq] at hm
    obtain ⟨rfl, rfl⟩ := hm
    refine r_catch (name := "java/lang/IndexOutOfBoundsException") C [] ⟨0, 10, 13, 19⟩ [] (hnt.trans rfl) (fun z hz => absurd hz List.not_mem_nil) rfl (by decide) (C.2.2.2.2.1 _ qk_L_19) (hX.nw qca_IOB rfl hE) (fun q => ?_)
    refine r_astore_n C dL_hash_13 (by decide) rfl ?_
    refine r_iconst (v := nI 1) C dL_hash_14 (by decide) ?_
    exact r_iret C hr dL_hash_15 ⟨_, _, _, _, rfl, rfl, h2 _⟩ (Nat.le_of_ble_eq_true rfl) (Nat.le_of_ble_eq_true rfl)
  · refine c_V (st := [.ref o]) hX.stb C hE (h1 _) pk_X2_hash qm_L_120 0 6 rfl rfl wc_0 rfl rfl (Nat.le_of_ble_eq_true rfl) dL_hash_3 ⟨(Nat.le_of_ble_eq_true rfl), (Nat.le_of_ble_eq_true rfl)⟩ ⟨(Nat.le_of_ble_eq_true rfl), (Nat.le_of_ble_eq_true rfl)⟩ (fun v9 w9 h9 => ?_) (fun _ h9 => h9.elim)
    obtain ⟨rfl, rfl⟩ := h9
    refine r_i2l C dL_hash_6 ?_
    refine g_putN hX C hE qu_X3 tyX3 tyX3_ok nmX3 (ci := 7) rfl 38 outo_at 0 (by decide) qn_L_13 rfl rfl (ty := .long) rfl rfl rfl (show 0 < 2 by omega) dL_hash_7 outo_set ?_
    refine r_goto (tgt := 16) C dL_hash_10 (by decide) ?_
    refine r_iconst (v := nI 0) C dL_hash_16 (by decide) ?_
    exact r_iret C hr dL_hash_17 ⟨_, _, _, _, rfl, rfl, h2⟩ (Nat.le_of_ble_eq_true rfl) (Nat.le_of_ble_eq_true rfl)
theorem dL_inArray_0 : decode cL_inArray 0 = .ok (.aload_n 3, 1) := dqo_45 (kb_of ke_L_inArray 0 rfl)
theorem dL_inArray_1 : decode cL_inArray 1 = .ok (.aload_n 0, 1) := dqo_42 (kb_of ke_L_inArray 1 rfl)
theorem dL_inArray_2 : decode cL_inArray 2 = .ok (.iload_n 1, 1) := dqo_27 (kb_of ke_L_inArray 2 rfl)
theorem dL_inArray_3 : decode cL_inArray 3 = .ok (.iload_n 2, 1) := dqo_28 (kb_of ke_L_inArray 3 rfl)
theorem dL_inArray_4 : decode cL_inArray 4 = .ok (.invokevirtual 131, 3) := dqo_182 0 131 (kb_of ke_L_inArray 4 rfl) (kb_of ke_L_inArray 5 rfl) (kb_of ke_L_inArray 6 rfl)
theorem dL_inArray_7 : decode cL_inArray 7 = .ok (.i2l, 1) := dqo_133 (kb_of ke_L_inArray 7 rfl)
theorem dL_inArray_8 : decode cL_inArray 8 = .ok (.putfield 13, 3) := dqo_181 0 13 (kb_of ke_L_inArray 8 rfl) (kb_of ke_L_inArray 9 rfl) (kb_of ke_L_inArray 10 rfl)
theorem dL_inArray_11 : decode cL_inArray 11 = .ok (.goto 7, 3) := dqo_167 0 7 (by decide) (kb_of ke_L_inArray 11 rfl) (kb_of ke_L_inArray 12 rfl) (kb_of ke_L_inArray 13 rfl)
theorem dL_inArray_14 : decode cL_inArray 14 = .ok (.astore 4, 2) := dqo_58 4 (kb_of ke_L_inArray 14 rfl) (kb_of ke_L_inArray 15 rfl)
theorem dL_inArray_16 : decode cL_inArray 16 = .ok (.iconst 1, 1) := dqo_4 (kb_of ke_L_inArray 16 rfl)
theorem dL_inArray_17 : decode cL_inArray 17 = .ok (.ireturn, 1) := dqo_172 (kb_of ke_L_inArray 17 rfl)
theorem dL_inArray_18 : decode cL_inArray 18 = .ok (.iconst 0, 1) := dqo_3 (kb_of ke_L_inArray 18 rfl)
theorem dL_inArray_19 : decode cL_inArray 19 = .ok (.ireturn, 1) := dqo_172 (kb_of ke_L_inArray 19 rfl)
theorem qcw_L_inArray : Cond.codeWith yL_inArray cL_inArray 5 (some .int) [(0, 11, 14, 19)] ∈ GW := gw_5 74 rfl rfl
theorem pk_L_inArray : PkH yL_inArray cL_inArray 5 (some .int) [(0, 11, 14, 19)] 4 := ⟨⟨qt_L_inArray, qz_L, qcw_L_inArray⟩, mh_L.1, mh_L.2, pd_46⟩
theorem pk_X2_inArray : PkV RX2 yX2_inArray cX2_inArray 3 (some .int) 2 := ⟨⟨qi_X2_inArray, qs_X2_inArray, qz_X2, qc_X2_inArray⟩, rfl, mh_X2.1, mh_X2.2, pd_0⟩
theorem W_inArray {l : Launch} {D : va_G} {cy : Nat → ClassId} {X : (Nat → Prop) → State → Heap → Prop} {a : Nat → Nat → Nat} {ba ra : Nat → Nat} {f : Nat → Nat → Nat} {r : Nat → Nat → Int32} {hf : Nat → Nat → Nat} {hq : Nat → Nat → Int32} {kn th : Int32} {sm : Int64} {o : Nat} {n0 : Int64} {s0 : Value} {x0 x1 : Int32} (hX : EnvX X) (hN : EnvN X) (hC : CInv f) (hB : RB r) (hM : MR f r hf hq) (hp : PR l D cy X a ba ra f r hf hq kn th sm yX2_inArray cX2_inArray 3 (some .int) yX4_inArray cX4_inArray 3 (some .int) (rmk 9 4 48 420) [.int x0, .int x1] [("java/lang/IndexOutOfBoundsException", 1)]) : CmH l D cy X yL_inArray cL_inArray 5 (some .int) [(0, 11, 14, 19)] (rmk 9 1 6 300) [.ref (a 0 0), .int x0, .int x1, .ref o] (WC cy a f r kn ++ (WM cy ba ra hf hq kn th sm ++ [OUTo o n0 s0])) (fun v1 w1 => ∃ (f' : Nat → Nat → Nat) (r' : Nat → Nat → Int32) (k : Nat) (n1 : Int64), v1 = some (.int (nI k)) ∧ w1 = WC cy a f' r' kn ++ (WM cy ba ra hf hq kn th sm ++ [OUTo o n1 s0]) ∧ PN l D cy X ba ra hf hq kn th sm yX4_inArray cX4_inArray 3 (some .int) (rmk 9 4 48 420) [.int x0, .int x1] cvI f' r' k n1) (fun _ => False) := by
  refine CmH.of [some (.ref (a 0 0)), some (.int x0), some (.int x1), some (.ref o), none] pn_L rfl (Nat.le_of_ble_eq_true rfl) ?_
  intro p e s m args below meth c A C hE hr hnt
  refine r_aload_n C dL_inArray_0 rfl ?_
  refine r_aload_n C dL_inArray_1 rfl ?_
  refine r_iload_n C dL_inArray_2 rfl ?_
  refine r_iload_n C dL_inArray_3 rfl ?_
  rcases hp.two cvI (by simp) hC hB hM with ⟨E, k, hm, h1, h2⟩ | ⟨f', r', n, h1, h2⟩
  · refine c_V (st := [.ref o]) hX.stb C hE (h1 _) pk_X2_inArray qm_L_131 0 6 rfl rfl wc_0 rfl rfl (Nat.le_of_ble_eq_true rfl) dL_inArray_4 ⟨(Nat.le_of_ble_eq_true rfl), (Nat.le_of_ble_eq_true rfl)⟩ ⟨(Nat.le_of_ble_eq_true rfl), (Nat.le_of_ble_eq_true rfl)⟩ (fun _ _ h9 => h9.elim) (fun E1 hE1 => ?_)
    subst hE1
    simp only [List.mem_cons, List.not_mem_nil, or_false, Prod.mk.injEq] at hm
    obtain ⟨rfl, rfl⟩ := hm
    refine r_catch (name := "java/lang/IndexOutOfBoundsException") C [] ⟨0, 11, 14, 19⟩ [] (hnt.trans rfl) (fun z hz => absurd hz List.not_mem_nil) rfl (by decide) (C.2.2.2.2.1 _ qk_L_19) (hX.nw qca_IOB rfl hE) (fun q => ?_)
    refine r_astore C dL_inArray_14 (by decide) rfl ?_
    refine r_iconst (v := nI 1) C dL_inArray_16 (by decide) ?_
    exact r_iret C hr dL_inArray_17 ⟨_, _, _, _, rfl, rfl, h2 _⟩ (Nat.le_of_ble_eq_true rfl) (Nat.le_of_ble_eq_true rfl)
  · refine c_V (st := [.ref o]) hX.stb C hE (h1 _) pk_X2_inArray qm_L_131 0 6 rfl rfl wc_0 rfl rfl (Nat.le_of_ble_eq_true rfl) dL_inArray_4 ⟨(Nat.le_of_ble_eq_true rfl), (Nat.le_of_ble_eq_true rfl)⟩ ⟨(Nat.le_of_ble_eq_true rfl), (Nat.le_of_ble_eq_true rfl)⟩ (fun v9 w9 h9 => ?_) (fun _ h9 => h9.elim)
    obtain ⟨rfl, rfl⟩ := h9
    refine r_i2l C dL_inArray_7 ?_
    refine g_putN hX C hE qu_X3 tyX3 tyX3_ok nmX3 (ci := 7) rfl 38 outo_at 0 (by decide) qn_L_13 rfl rfl (ty := .long) rfl rfl rfl (show 0 < 2 by omega) dL_inArray_8 outo_set ?_
    refine r_goto (tgt := 18) C dL_inArray_11 (by decide) ?_
    refine r_iconst (v := nI 0) C dL_inArray_18 (by decide) ?_
    exact r_iret C hr dL_inArray_19 ⟨_, _, _, _, rfl, rfl, h2⟩ (Nat.le_of_ble_eq_true rfl) (Nat.le_of_ble_eq_true rfl)
theorem dL_window_0 : decode cL_window 0 = .ok (.aload 5, 2) := dqo_25 5 (kb_of ke_L_window 0 rfl) (kb_of ke_L_window 1 rfl)
theorem dL_window_2 : decode cL_window 2 = .ok (.aload_n 0, 1) := dqo_42 (kb_of ke_L_window 2 rfl)
theorem dL_window_3 : decode cL_window 3 = .ok (.iload_n 1, 1) := dqo_27 (kb_of ke_L_window 3 rfl)
theorem dL_window_4 : decode cL_window 4 = .ok (.iload_n 2, 1) := dqo_28 (kb_of ke_L_window 4 rfl)
theorem dL_window_5 : decode cL_window 5 = .ok (.iload_n 3, 1) := dqo_29 (kb_of ke_L_window 5 rfl)
theorem dL_window_6 : decode cL_window 6 = .ok (.iload 4, 2) := dqo_21 4 (kb_of ke_L_window 6 rfl) (kb_of ke_L_window 7 rfl)
theorem dL_window_8 : decode cL_window 8 = .ok (.invokevirtual 134, 3) := dqo_182 0 134 (kb_of ke_L_window 8 rfl) (kb_of ke_L_window 9 rfl) (kb_of ke_L_window 10 rfl)
theorem dL_window_11 : decode cL_window 11 = .ok (.i2l, 1) := dqo_133 (kb_of ke_L_window 11 rfl)
theorem dL_window_12 : decode cL_window 12 = .ok (.putfield 13, 3) := dqo_181 0 13 (kb_of ke_L_window 12 rfl) (kb_of ke_L_window 13 rfl) (kb_of ke_L_window 14 rfl)
theorem dL_window_15 : decode cL_window 15 = .ok (.goto 11, 3) := dqo_167 0 11 (by decide) (kb_of ke_L_window 15 rfl) (kb_of ke_L_window 16 rfl) (kb_of ke_L_window 17 rfl)
theorem dL_window_18 : decode cL_window 18 = .ok (.astore 6, 2) := dqo_58 6 (kb_of ke_L_window 18 rfl) (kb_of ke_L_window 19 rfl)
theorem dL_window_20 : decode cL_window 20 = .ok (.iconst 1, 1) := dqo_4 (kb_of ke_L_window 20 rfl)
theorem dL_window_21 : decode cL_window 21 = .ok (.ireturn, 1) := dqo_172 (kb_of ke_L_window 21 rfl)
theorem dL_window_22 : decode cL_window 22 = .ok (.astore 6, 2) := dqo_58 6 (kb_of ke_L_window 22 rfl) (kb_of ke_L_window 23 rfl)
theorem dL_window_24 : decode cL_window 24 = .ok (.iconst 2, 1) := dqo_5 (kb_of ke_L_window 24 rfl)
theorem dL_window_25 : decode cL_window 25 = .ok (.ireturn, 1) := dqo_172 (kb_of ke_L_window 25 rfl)
theorem dL_window_26 : decode cL_window 26 = .ok (.iconst 0, 1) := dqo_3 (kb_of ke_L_window 26 rfl)
theorem dL_window_27 : decode cL_window 27 = .ok (.ireturn, 1) := dqo_172 (kb_of ke_L_window 27 rfl)
theorem qcw_L_window : Cond.codeWith yL_window cL_window 7 (some .int) [(0, 15, 18, 19), (0, 15, 22, 23)] ∈ GW := gw_5 81 rfl rfl
theorem pk_L_window : PkH yL_window cL_window 7 (some .int) [(0, 15, 18, 19), (0, 15, 22, 23)] 6 := ⟨⟨qt_L_window, qz_L, qcw_L_window⟩, mh_L.1, mh_L.2, pd_49⟩
theorem pk_X2_window : PkV RX2 yX2_window cX2_window 6 (some .int) 4 := ⟨⟨qi_X2_window, qs_X2_window, qz_X2, qc_X2_window⟩, rfl, mh_X2.1, mh_X2.2, pd_50⟩
theorem W_window {l : Launch} {D : va_G} {cy : Nat → ClassId} {X : (Nat → Prop) → State → Heap → Prop} {a : Nat → Nat → Nat} {ba ra : Nat → Nat} {f : Nat → Nat → Nat} {r : Nat → Nat → Int32} {hf : Nat → Nat → Nat} {hq : Nat → Nat → Int32} {kn th : Int32} {sm : Int64} {o : Nat} {n0 : Int64} {s0 : Value} {x0 x1 x2 x3 : Int32} (hX : EnvX X) (hN : EnvN X) (hC : CInv f) (hB : RB r) (hM : MR f r hf hq) (hp : PR l D cy X a ba ra f r hf hq kn th sm yX2_window cX2_window 6 (some .int) yX4_window cX4_window 6 (some .int) (rmk 9 4 48 420) [.int x0, .int x1, .int x2, .int x3] [("java/lang/IndexOutOfBoundsException", 1), ("java/lang/IllegalStateException", 2)]) : CmH l D cy X yL_window cL_window 7 (some .int) [(0, 15, 18, 19), (0, 15, 22, 23)] (rmk 9 1 6 300) [.ref (a 0 0), .int x0, .int x1, .int x2, .int x3, .ref o] (WC cy a f r kn ++ (WM cy ba ra hf hq kn th sm ++ [OUTo o n0 s0])) (fun v1 w1 => ∃ (f' : Nat → Nat → Nat) (r' : Nat → Nat → Int32) (k : Nat) (n1 : Int64), v1 = some (.int (nI k)) ∧ w1 = WC cy a f' r' kn ++ (WM cy ba ra hf hq kn th sm ++ [OUTo o n1 s0]) ∧ PN l D cy X ba ra hf hq kn th sm yX4_window cX4_window 6 (some .int) (rmk 9 4 48 420) [.int x0, .int x1, .int x2, .int x3] cvI f' r' k n1) (fun _ => False) := by
  refine CmH.of [some (.ref (a 0 0)), some (.int x0), some (.int x1), some (.int x2), some (.int x3), some (.ref o), none] pn_L rfl (Nat.le_of_ble_eq_true rfl) ?_
  intro p e s m args below meth c A C hE hr hnt
  refine r_aload C dL_window_0 rfl ?_
  refine r_aload_n C dL_window_2 rfl ?_
  refine r_iload_n C dL_window_3 rfl ?_
  refine r_iload_n C dL_window_4 rfl ?_
  refine r_iload_n C dL_window_5 rfl ?_
  refine r_iload C dL_window_6 rfl ?_
  rcases hp.two cvI (by simp) hC hB hM with ⟨E, k, hm, h1, h2⟩ | ⟨f', r', n, h1, h2⟩
  · refine c_V (st := [.ref o]) hX.stb C hE (h1 _) pk_X2_window qm_L_134 0 6 rfl rfl wc_0 rfl rfl (Nat.le_of_ble_eq_true rfl) dL_window_8 ⟨(Nat.le_of_ble_eq_true rfl), (Nat.le_of_ble_eq_true rfl)⟩ ⟨(Nat.le_of_ble_eq_true rfl), (Nat.le_of_ble_eq_true rfl)⟩ (fun _ _ h9 => h9.elim) (fun E1 hE1 => ?_)
    subst hE1
    simp only [List.mem_cons, List.not_mem_nil, or_false, Prod.mk.injEq] at hm
    rcases hm with ⟨rfl, rfl⟩ | ⟨rfl, rfl⟩
    · refine r_catch (name := "java/lang/IndexOutOfBoundsException") C [] ⟨0, 15, 18, 19⟩ [⟨0, 15, 22, 23⟩] (hnt.trans rfl) (fun z hz => absurd hz List.not_mem_nil) rfl (by decide) (C.2.2.2.2.1 _ qk_L_19) (hX.nw qca_IOB rfl hE) (fun q => ?_)
      refine r_astore C dL_window_18 (by decide) rfl ?_
      refine r_iconst (v := nI 1) C dL_window_20 (by decide) ?_
      exact r_iret C hr dL_window_21 ⟨_, _, _, _, rfl, rfl, h2 _⟩ (Nat.le_of_ble_eq_true rfl) (Nat.le_of_ble_eq_true rfl)
    · refine r_catch (name := "java/lang/IllegalStateException") C [⟨0, 15, 18, 19⟩] ⟨0, 15, 22, 23⟩ [] (hnt.trans rfl) (fun z hz => by
        simp only [List.mem_cons, List.not_mem_nil, or_false] at hz
        subst hz
        exact Or.inr ⟨by decide, "java/lang/IndexOutOfBoundsException", C.2.2.2.2.1 _ qk_L_19, hN ("java/lang/IllegalStateException", "java/lang/IndexOutOfBoundsException") (by simp [NCL]) _ _ _ hE⟩) rfl (by decide) (C.2.2.2.2.1 _ qk_L_23) (hX.nw qca_ISE rfl hE) (fun q => ?_)
      refine r_astore C dL_window_22 (by decide) rfl ?_
      refine r_iconst (v := nI 2) C dL_window_24 (by decide) ?_
      exact r_iret C hr dL_window_25 ⟨_, _, _, _, rfl, rfl, h2 _⟩ (Nat.le_of_ble_eq_true rfl) (Nat.le_of_ble_eq_true rfl)
  · refine c_V (st := [.ref o]) hX.stb C hE (h1 _) pk_X2_window qm_L_134 0 6 rfl rfl wc_0 rfl rfl (Nat.le_of_ble_eq_true rfl) dL_window_8 ⟨(Nat.le_of_ble_eq_true rfl), (Nat.le_of_ble_eq_true rfl)⟩ ⟨(Nat.le_of_ble_eq_true rfl), (Nat.le_of_ble_eq_true rfl)⟩ (fun v9 w9 h9 => ?_) (fun _ h9 => h9.elim)
    obtain ⟨rfl, rfl⟩ := h9
    refine r_i2l C dL_window_11 ?_
    refine g_putN hX C hE qu_X3 tyX3 tyX3_ok nmX3 (ci := 7) rfl 38 outo_at 0 (by decide) qn_L_13 rfl rfl (ty := .long) rfl rfl rfl (show 0 < 2 by omega) dL_window_12 outo_set ?_
    refine r_goto (tgt := 26) C dL_window_15 (by decide) ?_
    refine r_iconst (v := nI 0) C dL_window_26 (by decide) ?_
    exact r_iret C hr dL_window_27 ⟨_, _, _, _, rfl, rfl, h2⟩ (Nat.le_of_ble_eq_true rfl) (Nat.le_of_ble_eq_true rfl)
theorem dL_close_0 : decode cL_close 0 = .ok (.aload_n 2, 1) := dqo_44 (kb_of ke_L_close 0 rfl)
theorem dL_close_1 : decode cL_close 1 = .ok (.aload_n 0, 1) := dqo_42 (kb_of ke_L_close 1 rfl)
theorem dL_close_2 : decode cL_close 2 = .ok (.iload_n 1, 1) := dqo_27 (kb_of ke_L_close 2 rfl)
theorem dL_close_3 : decode cL_close 3 = .ok (.invokevirtual 137, 3) := dqo_182 0 137 (kb_of ke_L_close 3 rfl) (kb_of ke_L_close 4 rfl) (kb_of ke_L_close 5 rfl)
theorem dL_close_6 : decode cL_close 6 = .ok (.i2l, 1) := dqo_133 (kb_of ke_L_close 6 rfl)
theorem dL_close_7 : decode cL_close 7 = .ok (.putfield 13, 3) := dqo_181 0 13 (kb_of ke_L_close 7 rfl) (kb_of ke_L_close 8 rfl) (kb_of ke_L_close 9 rfl)
theorem dL_close_10 : decode cL_close 10 = .ok (.goto 6, 3) := dqo_167 0 6 (by decide) (kb_of ke_L_close 10 rfl) (kb_of ke_L_close 11 rfl) (kb_of ke_L_close 12 rfl)
theorem dL_close_13 : decode cL_close 13 = .ok (.astore_n 3, 1) := dqo_78 (kb_of ke_L_close 13 rfl)
theorem dL_close_14 : decode cL_close 14 = .ok (.iconst 1, 1) := dqo_4 (kb_of ke_L_close 14 rfl)
theorem dL_close_15 : decode cL_close 15 = .ok (.ireturn, 1) := dqo_172 (kb_of ke_L_close 15 rfl)
theorem dL_close_16 : decode cL_close 16 = .ok (.iconst 0, 1) := dqo_3 (kb_of ke_L_close 16 rfl)
theorem dL_close_17 : decode cL_close 17 = .ok (.ireturn, 1) := dqo_172 (kb_of ke_L_close 17 rfl)
theorem qcw_L_close : Cond.codeWith yL_close cL_close 4 (some .int) [(0, 10, 13, 19)] ∈ GW := gw_5 101 rfl rfl
theorem pk_L_close : PkH yL_close cL_close 4 (some .int) [(0, 10, 13, 19)] 3 := ⟨⟨qt_L_close, qz_L, qcw_L_close⟩, mh_L.1, mh_L.2, pd_48⟩
theorem pk_X2_close : PkV RX2 yX2_close cX2_close 2 (some .int) 1 := ⟨⟨qi_X2_close, qs_X2_close, qz_X2, qc_X2_close⟩, rfl, mh_X2.1, mh_X2.2, pd_1⟩
theorem W_close {l : Launch} {D : va_G} {cy : Nat → ClassId} {X : (Nat → Prop) → State → Heap → Prop} {a : Nat → Nat → Nat} {ba ra : Nat → Nat} {f : Nat → Nat → Nat} {r : Nat → Nat → Int32} {hf : Nat → Nat → Nat} {hq : Nat → Nat → Int32} {kn th : Int32} {sm : Int64} {o : Nat} {n0 : Int64} {s0 : Value} {x0 : Int32} (hX : EnvX X) (hN : EnvN X) (hC : CInv f) (hB : RB r) (hM : MR f r hf hq) (hp : PR l D cy X a ba ra f r hf hq kn th sm yX2_close cX2_close 2 (some .int) yX4_close cX4_close 2 (some .int) (rmk 9 4 48 420) [.int x0] [("java/lang/IndexOutOfBoundsException", 1)]) : CmH l D cy X yL_close cL_close 4 (some .int) [(0, 10, 13, 19)] (rmk 9 1 6 300) [.ref (a 0 0), .int x0, .ref o] (WC cy a f r kn ++ (WM cy ba ra hf hq kn th sm ++ [OUTo o n0 s0])) (fun v1 w1 => ∃ (f' : Nat → Nat → Nat) (r' : Nat → Nat → Int32) (k : Nat) (n1 : Int64), v1 = some (.int (nI k)) ∧ w1 = WC cy a f' r' kn ++ (WM cy ba ra hf hq kn th sm ++ [OUTo o n1 s0]) ∧ PN l D cy X ba ra hf hq kn th sm yX4_close cX4_close 2 (some .int) (rmk 9 4 48 420) [.int x0] cvI f' r' k n1) (fun _ => False) := by
  refine CmH.of [some (.ref (a 0 0)), some (.int x0), some (.ref o), none] pn_L rfl (Nat.le_of_ble_eq_true rfl) ?_
  intro p e s m args below meth c A C hE hr hnt
  refine r_aload_n C dL_close_0 rfl ?_
  refine r_aload_n C dL_close_1 rfl ?_
  refine r_iload_n C dL_close_2 rfl ?_
  rcases hp.two cvI (by simp) hC hB hM with ⟨E, k, hm, h1, h2⟩ | ⟨f', r', n, h1, h2⟩
  · refine c_V (st := [.ref o]) hX.stb C hE (h1 _) pk_X2_close qm_L_137 0 6 rfl rfl wc_0 rfl rfl (Nat.le_of_ble_eq_true rfl) dL_close_3 ⟨(Nat.le_of_ble_eq_true rfl), (Nat.le_of_ble_eq_true rfl)⟩ ⟨(Nat.le_of_ble_eq_true rfl), (Nat.le_of_ble_eq_true rfl)⟩ (fun _ _ h9 => h9.elim) (fun E1 hE1 => ?_)
    subst hE1
    simp only [List.mem_cons, List.not_mem_nil, or_false, Prod.mk.injEq] at hm
    obtain ⟨rfl, rfl⟩ := hm
    refine r_catch (name := "java/lang/IndexOutOfBoundsException") C [] ⟨0, 10, 13, 19⟩ [] (hnt.trans rfl) (fun z hz => absurd hz List.not_mem_nil) rfl (by decide) (C.2.2.2.2.1 _ qk_L_19) (hX.nw qca_IOB rfl hE) (fun q => ?_)
    refine r_astore_n C dL_close_13 (by decide) rfl ?_
    refine r_iconst (v := nI 1) C dL_close_14 (by decide) ?_
    exact r_iret C hr dL_close_15 ⟨_, _, _, _, rfl, rfl, h2 _⟩ (Nat.le_of_ble_eq_true rfl) (Nat.le_of_ble_eq_true rfl)
  · refine c_V (st := [.ref o]) hX.stb C hE (h1 _) pk_X2_close qm_L_137 0 6 rfl rfl wc_0 rfl rfl (Nat.le_of_ble_eq_true rfl) dL_close_3 ⟨(Nat.le_of_ble_eq_true rfl), (Nat.le_of_ble_eq_true rfl)⟩ ⟨(Nat.le_of_ble_eq_true rfl), (Nat.le_of_ble_eq_true rfl)⟩ (fun v9 w9 h9 => ?_) (fun _ h9 => h9.elim)
    obtain ⟨rfl, rfl⟩ := h9
    refine r_i2l C dL_close_6 ?_
    refine g_putN hX C hE qu_X3 tyX3 tyX3_ok nmX3 (ci := 7) rfl 38 outo_at 0 (by decide) qn_L_13 rfl rfl (ty := .long) rfl rfl rfl (show 0 < 2 by omega) dL_close_7 outo_set ?_
    refine r_goto (tgt := 16) C dL_close_10 (by decide) ?_
    refine r_iconst (v := nI 0) C dL_close_16 (by decide) ?_
    exact r_iret C hr dL_close_17 ⟨_, _, _, _, rfl, rfl, h2⟩ (Nat.le_of_ble_eq_true rfl) (Nat.le_of_ble_eq_true rfl)
theorem dL_ofWindow_0 : decode cL_ofWindow 0 = .ok (.aload_n 3, 1) := dqo_45 (kb_of ke_L_ofWindow 0 rfl)
theorem dL_ofWindow_1 : decode cL_ofWindow 1 = .ok (.aload_n 0, 1) := dqo_42 (kb_of ke_L_ofWindow 1 rfl)
theorem dL_ofWindow_2 : decode cL_ofWindow 2 = .ok (.iload_n 1, 1) := dqo_27 (kb_of ke_L_ofWindow 2 rfl)
theorem dL_ofWindow_3 : decode cL_ofWindow 3 = .ok (.iload_n 2, 1) := dqo_28 (kb_of ke_L_ofWindow 3 rfl)
theorem dL_ofWindow_4 : decode cL_ofWindow 4 = .ok (.invokevirtual 140, 3) := dqo_182 0 140 (kb_of ke_L_ofWindow 4 rfl) (kb_of ke_L_ofWindow 5 rfl) (kb_of ke_L_ofWindow 6 rfl)
theorem dL_ofWindow_7 : decode cL_ofWindow 7 = .ok (.i2l, 1) := dqo_133 (kb_of ke_L_ofWindow 7 rfl)
theorem dL_ofWindow_8 : decode cL_ofWindow 8 = .ok (.putfield 13, 3) := dqo_181 0 13 (kb_of ke_L_ofWindow 8 rfl) (kb_of ke_L_ofWindow 9 rfl) (kb_of ke_L_ofWindow 10 rfl)
theorem dL_ofWindow_11 : decode cL_ofWindow 11 = .ok (.goto 11, 3) := dqo_167 0 11 (by decide) (kb_of ke_L_ofWindow 11 rfl) (kb_of ke_L_ofWindow 12 rfl) (kb_of ke_L_ofWindow 13 rfl)
theorem dL_ofWindow_14 : decode cL_ofWindow 14 = .ok (.astore 4, 2) := dqo_58 4 (kb_of ke_L_ofWindow 14 rfl) (kb_of ke_L_ofWindow 15 rfl)
theorem dL_ofWindow_16 : decode cL_ofWindow 16 = .ok (.iconst 1, 1) := dqo_4 (kb_of ke_L_ofWindow 16 rfl)
theorem dL_ofWindow_17 : decode cL_ofWindow 17 = .ok (.ireturn, 1) := dqo_172 (kb_of ke_L_ofWindow 17 rfl)
theorem dL_ofWindow_18 : decode cL_ofWindow 18 = .ok (.astore 4, 2) := dqo_58 4 (kb_of ke_L_ofWindow 18 rfl) (kb_of ke_L_ofWindow 19 rfl)
theorem dL_ofWindow_20 : decode cL_ofWindow 20 = .ok (.iconst 2, 1) := dqo_5 (kb_of ke_L_ofWindow 20 rfl)
theorem dL_ofWindow_21 : decode cL_ofWindow 21 = .ok (.ireturn, 1) := dqo_172 (kb_of ke_L_ofWindow 21 rfl)
theorem dL_ofWindow_22 : decode cL_ofWindow 22 = .ok (.iconst 0, 1) := dqo_3 (kb_of ke_L_ofWindow 22 rfl)
theorem dL_ofWindow_23 : decode cL_ofWindow 23 = .ok (.ireturn, 1) := dqo_172 (kb_of ke_L_ofWindow 23 rfl)
theorem qcw_L_ofWindow : Cond.codeWith yL_ofWindow cL_ofWindow 5 (some .int) [(0, 11, 14, 19), (0, 11, 18, 21)] ∈ GW := gw_5 108 rfl rfl
theorem pk_L_ofWindow : PkH yL_ofWindow cL_ofWindow 5 (some .int) [(0, 11, 14, 19), (0, 11, 18, 21)] 4 := ⟨⟨qt_L_ofWindow, qz_L, qcw_L_ofWindow⟩, mh_L.1, mh_L.2, pd_46⟩
theorem W_ofWindow {l : Launch} {D : va_G} {cy : Nat → ClassId} {X : (Nat → Prop) → State → Heap → Prop} {a : Nat → Nat → Nat} {ba ra : Nat → Nat} {f : Nat → Nat → Nat} {r : Nat → Nat → Int32} {hf : Nat → Nat → Nat} {hq : Nat → Nat → Int32} {kn th : Int32} {sm : Int64} {o : Nat} {n0 : Int64} {s0 : Value} {x0 x1 : Int32} (hX : EnvX X) (hN : EnvN X) (hC : CInv f) (hB : RB r) (hM : MR f r hf hq) (hp : PR l D cy X a ba ra f r hf hq kn th sm yX2_ofWindow cX2_ofWindow 4 (some .int) yX4_ofWindow cX4_ofWindow 3 (some .int) (rmk 9 4 48 420) [.int x0, .int x1] [("java/lang/IndexOutOfBoundsException", 1), ("java/lang/IllegalArgumentException", 2)]) : CmH l D cy X yL_ofWindow cL_ofWindow 5 (some .int) [(0, 11, 14, 19), (0, 11, 18, 21)] (rmk 9 1 6 300) [.ref (a 0 0), .int x0, .int x1, .ref o] (WC cy a f r kn ++ (WM cy ba ra hf hq kn th sm ++ [OUTo o n0 s0])) (fun v1 w1 => ∃ (f' : Nat → Nat → Nat) (r' : Nat → Nat → Int32) (k : Nat) (n1 : Int64), v1 = some (.int (nI k)) ∧ w1 = WC cy a f' r' kn ++ (WM cy ba ra hf hq kn th sm ++ [OUTo o n1 s0]) ∧ PN l D cy X ba ra hf hq kn th sm yX4_ofWindow cX4_ofWindow 3 (some .int) (rmk 9 4 48 420) [.int x0, .int x1] cvI f' r' k n1) (fun _ => False) := by
  refine CmH.of [some (.ref (a 0 0)), some (.int x0), some (.int x1), some (.ref o), none] pn_L rfl (Nat.le_of_ble_eq_true rfl) ?_
  intro p e s m args below meth c A C hE hr hnt
  refine r_aload_n C dL_ofWindow_0 rfl ?_
  refine r_aload_n C dL_ofWindow_1 rfl ?_
  refine r_iload_n C dL_ofWindow_2 rfl ?_
  refine r_iload_n C dL_ofWindow_3 rfl ?_
  rcases hp.two cvI (by simp) hC hB hM with ⟨E, k, hm, h1, h2⟩ | ⟨f', r', n, h1, h2⟩
  · refine c_V (st := [.ref o]) hX.stb C hE (h1 _) pk_X2_ofWindow qm_L_140 0 6 rfl rfl wc_0 rfl rfl (Nat.le_of_ble_eq_true rfl) dL_ofWindow_4 ⟨(Nat.le_of_ble_eq_true rfl), (Nat.le_of_ble_eq_true rfl)⟩ ⟨(Nat.le_of_ble_eq_true rfl), (Nat.le_of_ble_eq_true rfl)⟩ (fun _ _ h9 => h9.elim) (fun E1 hE1 => ?_)
    subst hE1
    simp only [List.mem_cons, List.not_mem_nil, or_false, Prod.mk.injEq] at hm
    rcases hm with ⟨rfl, rfl⟩ | ⟨rfl, rfl⟩
    · refine r_catch (name := "java/lang/IndexOutOfBoundsException") C [] ⟨0, 11, 14, 19⟩ [⟨0, 11, 18, 21⟩] (hnt.trans rfl) (fun z hz => absurd hz List.not_mem_nil) rfl (by decide) (C.2.2.2.2.1 _ qk_L_19) (hX.nw qca_IOB rfl hE) (fun q => ?_)
      refine r_astore C dL_ofWindow_14 (by decide) rfl ?_
      refine r_iconst (v := nI 1) C dL_ofWindow_16 (by decide) ?_
      exact r_iret C hr dL_ofWindow_17 ⟨_, _, _, _, rfl, rfl, h2 _⟩ (Nat.le_of_ble_eq_true rfl) (Nat.le_of_ble_eq_true rfl)
    · refine r_catch (name := "java/lang/IllegalArgumentException") C [⟨0, 11, 14, 19⟩] ⟨0, 11, 18, 21⟩ [] (hnt.trans rfl) (fun z hz => by
        simp only [List.mem_cons, List.not_mem_nil, or_false] at hz
        subst hz
        exact Or.inr ⟨by decide, "java/lang/IndexOutOfBoundsException", C.2.2.2.2.1 _ qk_L_19, hN ("java/lang/IllegalArgumentException", "java/lang/IndexOutOfBoundsException") (by simp [NCL]) _ _ _ hE⟩) rfl (by decide) (C.2.2.2.2.1 _ qk_L_21) (hX.nw qca_IAE rfl hE) (fun q => ?_)
      refine r_astore C dL_ofWindow_18 (by decide) rfl ?_
      refine r_iconst (v := nI 2) C dL_ofWindow_20 (by decide) ?_
      exact r_iret C hr dL_ofWindow_21 ⟨_, _, _, _, rfl, rfl, h2 _⟩ (Nat.le_of_ble_eq_true rfl) (Nat.le_of_ble_eq_true rfl)
  · refine c_V (st := [.ref o]) hX.stb C hE (h1 _) pk_X2_ofWindow qm_L_140 0 6 rfl rfl wc_0 rfl rfl (Nat.le_of_ble_eq_true rfl) dL_ofWindow_4 ⟨(Nat.le_of_ble_eq_true rfl), (Nat.le_of_ble_eq_true rfl)⟩ ⟨(Nat.le_of_ble_eq_true rfl), (Nat.le_of_ble_eq_true rfl)⟩ (fun v9 w9 h9 => ?_) (fun _ h9 => h9.elim)
    obtain ⟨rfl, rfl⟩ := h9
    refine r_i2l C dL_ofWindow_7 ?_
    refine g_putN hX C hE qu_X3 tyX3 tyX3_ok nmX3 (ci := 7) rfl 38 outo_at 0 (by decide) qn_L_13 rfl rfl (ty := .long) rfl rfl rfl (show 0 < 2 by omega) dL_ofWindow_8 outo_set ?_
    refine r_goto (tgt := 22) C dL_ofWindow_11 (by decide) ?_
    refine r_iconst (v := nI 0) C dL_ofWindow_22 (by decide) ?_
    exact r_iret C hr dL_ofWindow_23 ⟨_, _, _, _, rfl, rfl, h2⟩ (Nat.le_of_ble_eq_true rfl) (Nat.le_of_ble_eq_true rfl)
end PT_81
/-! ===== 82.wrap4 -/
section PT_82
/-! THE LAW'S WRAPPERS, 4 -/
theorem dL_open_0 : decode cL_open 0 = .ok (.aload 4, 2) := dqo_25 4 (kb_of ke_L_open 0 rfl) (kb_of ke_L_open 1 rfl)
theorem dL_open_2 : decode cL_open 2 = .ok (.aload_n 0, 1) := dqo_42 (kb_of ke_L_open 2 rfl)
theorem dL_open_3 : decode cL_open 3 = .ok (.iload_n 1, 1) := dqo_27 (kb_of ke_L_open 3 rfl)
theorem dL_open_4 : decode cL_open 4 = .ok (.iload_n 2, 1) := dqo_28 (kb_of ke_L_open 4 rfl)
theorem dL_open_5 : decode cL_open 5 = .ok (.iload_n 3, 1) := dqo_29 (kb_of ke_L_open 5 rfl)
theorem dL_open_6 : decode cL_open 6 = .ok (.invokevirtual 143, 3) := dqo_182 0 143 (kb_of ke_L_open 6 rfl) (kb_of ke_L_open 7 rfl) (kb_of ke_L_open 8 rfl)
theorem dL_open_9 : decode cL_open 9 = .ok (.i2l, 1) := dqo_133 (kb_of ke_L_open 9 rfl)
theorem dL_open_10 : decode cL_open 10 = .ok (.putfield 13, 3) := dqo_181 0 13 (kb_of ke_L_open 10 rfl) (kb_of ke_L_open 11 rfl) (kb_of ke_L_open 12 rfl)
theorem dL_open_13 : decode cL_open 13 = .ok (.goto 7, 3) := dqo_167 0 7 (by decide) (kb_of ke_L_open 13 rfl) (kb_of ke_L_open 14 rfl) (kb_of ke_L_open 15 rfl)
theorem dL_open_16 : decode cL_open 16 = .ok (.astore 5, 2) := dqo_58 5 (kb_of ke_L_open 16 rfl) (kb_of ke_L_open 17 rfl)
theorem dL_open_18 : decode cL_open 18 = .ok (.iconst 1, 1) := dqo_4 (kb_of ke_L_open 18 rfl)
theorem dL_open_19 : decode cL_open 19 = .ok (.ireturn, 1) := dqo_172 (kb_of ke_L_open 19 rfl)
theorem dL_open_20 : decode cL_open 20 = .ok (.iconst 0, 1) := dqo_3 (kb_of ke_L_open 20 rfl)
theorem dL_open_21 : decode cL_open 21 = .ok (.ireturn, 1) := dqo_172 (kb_of ke_L_open 21 rfl)
theorem qcw_L_open : Cond.codeWith yL_open cL_open 6 (some .int) [(0, 13, 16, 19)] ∈ GW := gw_5 112 rfl rfl
theorem pk_L_open : PkH yL_open cL_open 6 (some .int) [(0, 13, 16, 19)] 5 := ⟨⟨qt_L_open, qz_L, qcw_L_open⟩, mh_L.1, mh_L.2, pd_47⟩
theorem pk_X2_open : PkV RX2 yX2_open cX2_open 4 (some .int) 3 := ⟨⟨qi_X2_open, qs_X2_open, qz_X2, qc_X2_open⟩, rfl, mh_X2.1, mh_X2.2, pd_28⟩
theorem W_open {l : Launch} {D : va_G} {cy : Nat → ClassId} {X : (Nat → Prop) → State → Heap → Prop} {a : Nat → Nat → Nat} {ba ra : Nat → Nat} {f : Nat → Nat → Nat} {r : Nat → Nat → Int32} {hf : Nat → Nat → Nat} {hq : Nat → Nat → Int32} {kn th : Int32} {sm : Int64} {o : Nat} {n0 : Int64} {s0 : Value} {x0 x1 x2 : Int32} (hX : EnvX X) (hN : EnvN X) (hC : CInv f) (hB : RB r) (hM : MR f r hf hq) (hp : PR l D cy X a ba ra f r hf hq kn th sm yX2_open cX2_open 4 (some .int) yX4_open cX4_open 4 (some .int) (rmk 9 4 48 420) [.int x0, .int x1, .int x2] [("java/lang/IndexOutOfBoundsException", 1)]) : CmH l D cy X yL_open cL_open 6 (some .int) [(0, 13, 16, 19)] (rmk 9 1 6 300) [.ref (a 0 0), .int x0, .int x1, .int x2, .ref o] (WC cy a f r kn ++ (WM cy ba ra hf hq kn th sm ++ [OUTo o n0 s0])) (fun v1 w1 => ∃ (f' : Nat → Nat → Nat) (r' : Nat → Nat → Int32) (k : Nat) (n1 : Int64), v1 = some (.int (nI k)) ∧ w1 = WC cy a f' r' kn ++ (WM cy ba ra hf hq kn th sm ++ [OUTo o n1 s0]) ∧ PN l D cy X ba ra hf hq kn th sm yX4_open cX4_open 4 (some .int) (rmk 9 4 48 420) [.int x0, .int x1, .int x2] cvI f' r' k n1) (fun _ => False) := by
  refine CmH.of [some (.ref (a 0 0)), some (.int x0), some (.int x1), some (.int x2), some (.ref o), none] pn_L rfl (Nat.le_of_ble_eq_true rfl) ?_
  intro p e s m args below meth c A C hE hr hnt
  refine r_aload C dL_open_0 rfl ?_
  refine r_aload_n C dL_open_2 rfl ?_
  refine r_iload_n C dL_open_3 rfl ?_
  refine r_iload_n C dL_open_4 rfl ?_
  refine r_iload_n C dL_open_5 rfl ?_
  rcases hp.two cvI (by simp) hC hB hM with ⟨E, k, hm, h1, h2⟩ | ⟨f', r', n, h1, h2⟩
  · refine c_V (st := [.ref o]) hX.stb C hE (h1 _) pk_X2_open qm_L_143 0 6 rfl rfl wc_0 rfl rfl (Nat.le_of_ble_eq_true rfl) dL_open_6 ⟨(Nat.le_of_ble_eq_true rfl), (Nat.le_of_ble_eq_true rfl)⟩ ⟨(Nat.le_of_ble_eq_true rfl), (Nat.le_of_ble_eq_true rfl)⟩ (fun _ _ h9 => h9.elim) (fun E1 hE1 => ?_)
    subst hE1
    simp only [List.mem_cons, List.not_mem_nil, or_false, Prod.mk.injEq] at hm
    obtain ⟨rfl, rfl⟩ := hm
    refine r_catch (name := "java/lang/IndexOutOfBoundsException") C [] ⟨0, 13, 16, 19⟩ [] (hnt.trans rfl) (fun z hz => absurd hz List.not_mem_nil) rfl (by decide) (C.2.2.2.2.1 _ qk_L_19) (hX.nw qca_IOB rfl hE) (fun q => ?_)
    refine r_astore C dL_open_16 (by decide) rfl ?_
    refine r_iconst (v := nI 1) C dL_open_18 (by decide) ?_
    exact r_iret C hr dL_open_19 ⟨_, _, _, _, rfl, rfl, h2 _⟩ (Nat.le_of_ble_eq_true rfl) (Nat.le_of_ble_eq_true rfl)
  · refine c_V (st := [.ref o]) hX.stb C hE (h1 _) pk_X2_open qm_L_143 0 6 rfl rfl wc_0 rfl rfl (Nat.le_of_ble_eq_true rfl) dL_open_6 ⟨(Nat.le_of_ble_eq_true rfl), (Nat.le_of_ble_eq_true rfl)⟩ ⟨(Nat.le_of_ble_eq_true rfl), (Nat.le_of_ble_eq_true rfl)⟩ (fun v9 w9 h9 => ?_) (fun _ h9 => h9.elim)
    obtain ⟨rfl, rfl⟩ := h9
    refine r_i2l C dL_open_9 ?_
    refine g_putN hX C hE qu_X3 tyX3 tyX3_ok nmX3 (ci := 7) rfl 38 outo_at 0 (by decide) qn_L_13 rfl rfl (ty := .long) rfl rfl rfl (show 0 < 2 by omega) dL_open_10 outo_set ?_
    refine r_goto (tgt := 20) C dL_open_13 (by decide) ?_
    refine r_iconst (v := nI 0) C dL_open_20 (by decide) ?_
    exact r_iret C hr dL_open_21 ⟨_, _, _, _, rfl, rfl, h2⟩ (Nat.le_of_ble_eq_true rfl) (Nat.le_of_ble_eq_true rfl)
theorem dL_shut_0 : decode cL_shut 0 = .ok (.aload_n 2, 1) := dqo_44 (kb_of ke_L_shut 0 rfl)
theorem dL_shut_1 : decode cL_shut 1 = .ok (.aload_n 0, 1) := dqo_42 (kb_of ke_L_shut 1 rfl)
theorem dL_shut_2 : decode cL_shut 2 = .ok (.iload_n 1, 1) := dqo_27 (kb_of ke_L_shut 2 rfl)
theorem dL_shut_3 : decode cL_shut 3 = .ok (.invokevirtual 146, 3) := dqo_182 0 146 (kb_of ke_L_shut 3 rfl) (kb_of ke_L_shut 4 rfl) (kb_of ke_L_shut 5 rfl)
theorem dL_shut_6 : decode cL_shut 6 = .ok (.i2l, 1) := dqo_133 (kb_of ke_L_shut 6 rfl)
theorem dL_shut_7 : decode cL_shut 7 = .ok (.putfield 13, 3) := dqo_181 0 13 (kb_of ke_L_shut 7 rfl) (kb_of ke_L_shut 8 rfl) (kb_of ke_L_shut 9 rfl)
theorem dL_shut_10 : decode cL_shut 10 = .ok (.goto 6, 3) := dqo_167 0 6 (by decide) (kb_of ke_L_shut 10 rfl) (kb_of ke_L_shut 11 rfl) (kb_of ke_L_shut 12 rfl)
theorem dL_shut_13 : decode cL_shut 13 = .ok (.astore_n 3, 1) := dqo_78 (kb_of ke_L_shut 13 rfl)
theorem dL_shut_14 : decode cL_shut 14 = .ok (.iconst 1, 1) := dqo_4 (kb_of ke_L_shut 14 rfl)
theorem dL_shut_15 : decode cL_shut 15 = .ok (.ireturn, 1) := dqo_172 (kb_of ke_L_shut 15 rfl)
theorem dL_shut_16 : decode cL_shut 16 = .ok (.iconst 0, 1) := dqo_3 (kb_of ke_L_shut 16 rfl)
theorem dL_shut_17 : decode cL_shut 17 = .ok (.ireturn, 1) := dqo_172 (kb_of ke_L_shut 17 rfl)
theorem qcw_L_shut : Cond.codeWith yL_shut cL_shut 4 (some .int) [(0, 10, 13, 19)] ∈ GW := gw_5 124 rfl rfl
theorem pk_L_shut : PkH yL_shut cL_shut 4 (some .int) [(0, 10, 13, 19)] 3 := ⟨⟨qt_L_shut, qz_L, qcw_L_shut⟩, mh_L.1, mh_L.2, pd_48⟩
theorem pk_X2_shut : PkV RX2 yX2_shut cX2_shut 3 (some .int) 1 := ⟨⟨qi_X2_shut, qs_X2_shut, qz_X2, qc_X2_shut⟩, rfl, mh_X2.1, mh_X2.2, pd_1⟩
theorem W_shut {l : Launch} {D : va_G} {cy : Nat → ClassId} {X : (Nat → Prop) → State → Heap → Prop} {a : Nat → Nat → Nat} {ba ra : Nat → Nat} {f : Nat → Nat → Nat} {r : Nat → Nat → Int32} {hf : Nat → Nat → Nat} {hq : Nat → Nat → Int32} {kn th : Int32} {sm : Int64} {o : Nat} {n0 : Int64} {s0 : Value} {x0 : Int32} (hX : EnvX X) (hN : EnvN X) (hC : CInv f) (hB : RB r) (hM : MR f r hf hq) (hp : PR l D cy X a ba ra f r hf hq kn th sm yX2_shut cX2_shut 3 (some .int) yX4_shut cX4_shut 3 (some .int) (rmk 9 4 48 420) [.int x0] [("java/lang/IndexOutOfBoundsException", 1)]) : CmH l D cy X yL_shut cL_shut 4 (some .int) [(0, 10, 13, 19)] (rmk 9 1 6 300) [.ref (a 0 0), .int x0, .ref o] (WC cy a f r kn ++ (WM cy ba ra hf hq kn th sm ++ [OUTo o n0 s0])) (fun v1 w1 => ∃ (f' : Nat → Nat → Nat) (r' : Nat → Nat → Int32) (k : Nat) (n1 : Int64), v1 = some (.int (nI k)) ∧ w1 = WC cy a f' r' kn ++ (WM cy ba ra hf hq kn th sm ++ [OUTo o n1 s0]) ∧ PN l D cy X ba ra hf hq kn th sm yX4_shut cX4_shut 3 (some .int) (rmk 9 4 48 420) [.int x0] cvI f' r' k n1) (fun _ => False) := by
  refine CmH.of [some (.ref (a 0 0)), some (.int x0), some (.ref o), none] pn_L rfl (Nat.le_of_ble_eq_true rfl) ?_
  intro p e s m args below meth c A C hE hr hnt
  refine r_aload_n C dL_shut_0 rfl ?_
  refine r_aload_n C dL_shut_1 rfl ?_
  refine r_iload_n C dL_shut_2 rfl ?_
  rcases hp.two cvI (by simp) hC hB hM with ⟨E, k, hm, h1, h2⟩ | ⟨f', r', n, h1, h2⟩
  · refine c_V (st := [.ref o]) hX.stb C hE (h1 _) pk_X2_shut qm_L_146 0 6 rfl rfl wc_0 rfl rfl (Nat.le_of_ble_eq_true rfl) dL_shut_3 ⟨(Nat.le_of_ble_eq_true rfl), (Nat.le_of_ble_eq_true rfl)⟩ ⟨(Nat.le_of_ble_eq_true rfl), (Nat.le_of_ble_eq_true rfl)⟩ (fun _ _ h9 => h9.elim) (fun E1 hE1 => ?_)
    subst hE1
    simp only [List.mem_cons, List.not_mem_nil, or_false, Prod.mk.injEq] at hm
    obtain ⟨rfl, rfl⟩ := hm
    refine r_catch (name := "java/lang/IndexOutOfBoundsException") C [] ⟨0, 10, 13, 19⟩ [] (hnt.trans rfl) (fun z hz => absurd hz List.not_mem_nil) rfl (by decide) (C.2.2.2.2.1 _ qk_L_19) (hX.nw qca_IOB rfl hE) (fun q => ?_)
    refine r_astore_n C dL_shut_13 (by decide) rfl ?_
    refine r_iconst (v := nI 1) C dL_shut_14 (by decide) ?_
    exact r_iret C hr dL_shut_15 ⟨_, _, _, _, rfl, rfl, h2 _⟩ (Nat.le_of_ble_eq_true rfl) (Nat.le_of_ble_eq_true rfl)
  · refine c_V (st := [.ref o]) hX.stb C hE (h1 _) pk_X2_shut qm_L_146 0 6 rfl rfl wc_0 rfl rfl (Nat.le_of_ble_eq_true rfl) dL_shut_3 ⟨(Nat.le_of_ble_eq_true rfl), (Nat.le_of_ble_eq_true rfl)⟩ ⟨(Nat.le_of_ble_eq_true rfl), (Nat.le_of_ble_eq_true rfl)⟩ (fun v9 w9 h9 => ?_) (fun _ h9 => h9.elim)
    obtain ⟨rfl, rfl⟩ := h9
    refine r_i2l C dL_shut_6 ?_
    refine g_putN hX C hE qu_X3 tyX3 tyX3_ok nmX3 (ci := 7) rfl 38 outo_at 0 (by decide) qn_L_13 rfl rfl (ty := .long) rfl rfl rfl (show 0 < 2 by omega) dL_shut_7 outo_set ?_
    refine r_goto (tgt := 16) C dL_shut_10 (by decide) ?_
    refine r_iconst (v := nI 0) C dL_shut_16 (by decide) ?_
    exact r_iret C hr dL_shut_17 ⟨_, _, _, _, rfl, rfl, h2⟩ (Nat.le_of_ble_eq_true rfl) (Nat.le_of_ble_eq_true rfl)
theorem dL_next_0 : decode cL_next 0 = .ok (.aload_n 2, 1) := dqo_44 (kb_of ke_L_next 0 rfl)
theorem dL_next_1 : decode cL_next 1 = .ok (.aload_n 0, 1) := dqo_42 (kb_of ke_L_next 1 rfl)
theorem dL_next_2 : decode cL_next 2 = .ok (.iload_n 1, 1) := dqo_27 (kb_of ke_L_next 2 rfl)
theorem dL_next_3 : decode cL_next 3 = .ok (.invokevirtual 149, 3) := dqo_182 0 149 (kb_of ke_L_next 3 rfl) (kb_of ke_L_next 4 rfl) (kb_of ke_L_next 5 rfl)
theorem dL_next_6 : decode cL_next 6 = .ok (.i2l, 1) := dqo_133 (kb_of ke_L_next 6 rfl)
theorem dL_next_7 : decode cL_next 7 = .ok (.putfield 13, 3) := dqo_181 0 13 (kb_of ke_L_next 7 rfl) (kb_of ke_L_next 8 rfl) (kb_of ke_L_next 9 rfl)
theorem dL_next_10 : decode cL_next 10 = .ok (.goto 9, 3) := dqo_167 0 9 (by decide) (kb_of ke_L_next 10 rfl) (kb_of ke_L_next 11 rfl) (kb_of ke_L_next 12 rfl)
theorem dL_next_13 : decode cL_next 13 = .ok (.astore_n 3, 1) := dqo_78 (kb_of ke_L_next 13 rfl)
theorem dL_next_14 : decode cL_next 14 = .ok (.iconst 1, 1) := dqo_4 (kb_of ke_L_next 14 rfl)
theorem dL_next_15 : decode cL_next 15 = .ok (.ireturn, 1) := dqo_172 (kb_of ke_L_next 15 rfl)
theorem dL_next_16 : decode cL_next 16 = .ok (.astore_n 3, 1) := dqo_78 (kb_of ke_L_next 16 rfl)
theorem dL_next_17 : decode cL_next 17 = .ok (.iconst 2, 1) := dqo_5 (kb_of ke_L_next 17 rfl)
theorem dL_next_18 : decode cL_next 18 = .ok (.ireturn, 1) := dqo_172 (kb_of ke_L_next 18 rfl)
theorem dL_next_19 : decode cL_next 19 = .ok (.iconst 0, 1) := dqo_3 (kb_of ke_L_next 19 rfl)
theorem dL_next_20 : decode cL_next 20 = .ok (.ireturn, 1) := dqo_172 (kb_of ke_L_next 20 rfl)
theorem qcw_L_next : Cond.codeWith yL_next cL_next 4 (some .int) [(0, 10, 13, 19), (0, 10, 16, 23)] ∈ GW := gw_5 131 rfl rfl
theorem pk_L_next : PkH yL_next cL_next 4 (some .int) [(0, 10, 13, 19), (0, 10, 16, 23)] 3 := ⟨⟨qt_L_next, qz_L, qcw_L_next⟩, mh_L.1, mh_L.2, pd_48⟩
theorem pk_X2_next : PkV RX2 yX2_next cX2_next 2 (some .int) 1 := ⟨⟨qi_X2_next, qs_X2_next, qz_X2, qc_X2_next⟩, rfl, mh_X2.1, mh_X2.2, pd_1⟩
theorem W_next {l : Launch} {D : va_G} {cy : Nat → ClassId} {X : (Nat → Prop) → State → Heap → Prop} {a : Nat → Nat → Nat} {ba ra : Nat → Nat} {f : Nat → Nat → Nat} {r : Nat → Nat → Int32} {hf : Nat → Nat → Nat} {hq : Nat → Nat → Int32} {kn th : Int32} {sm : Int64} {o : Nat} {n0 : Int64} {s0 : Value} {x0 : Int32} (hX : EnvX X) (hN : EnvN X) (hC : CInv f) (hB : RB r) (hM : MR f r hf hq) (hp : PR l D cy X a ba ra f r hf hq kn th sm yX2_next cX2_next 2 (some .int) yX4_next cX4_next 2 (some .int) (rmk 9 4 48 420) [.int x0] [("java/lang/IndexOutOfBoundsException", 1), ("java/lang/IllegalStateException", 2)]) : CmH l D cy X yL_next cL_next 4 (some .int) [(0, 10, 13, 19), (0, 10, 16, 23)] (rmk 9 1 6 300) [.ref (a 0 0), .int x0, .ref o] (WC cy a f r kn ++ (WM cy ba ra hf hq kn th sm ++ [OUTo o n0 s0])) (fun v1 w1 => ∃ (f' : Nat → Nat → Nat) (r' : Nat → Nat → Int32) (k : Nat) (n1 : Int64), v1 = some (.int (nI k)) ∧ w1 = WC cy a f' r' kn ++ (WM cy ba ra hf hq kn th sm ++ [OUTo o n1 s0]) ∧ PN l D cy X ba ra hf hq kn th sm yX4_next cX4_next 2 (some .int) (rmk 9 4 48 420) [.int x0] cvI f' r' k n1) (fun _ => False) := by
  refine CmH.of [some (.ref (a 0 0)), some (.int x0), some (.ref o), none] pn_L rfl (Nat.le_of_ble_eq_true rfl) ?_
  intro p e s m args below meth c A C hE hr hnt
  refine r_aload_n C dL_next_0 rfl ?_
  refine r_aload_n C dL_next_1 rfl ?_
  refine r_iload_n C dL_next_2 rfl ?_
  rcases hp.two cvI (by simp) hC hB hM with ⟨E, k, hm, h1, h2⟩ | ⟨f', r', n, h1, h2⟩
  · refine c_V (st := [.ref o]) hX.stb C hE (h1 _) pk_X2_next qm_L_149 0 6 rfl rfl wc_0 rfl rfl (Nat.le_of_ble_eq_true rfl) dL_next_3 ⟨(Nat.le_of_ble_eq_true rfl), (Nat.le_of_ble_eq_true rfl)⟩ ⟨(Nat.le_of_ble_eq_true rfl), (Nat.le_of_ble_eq_true rfl)⟩ (fun _ _ h9 => h9.elim) (fun E1 hE1 => ?_)
    subst hE1
    simp only [List.mem_cons, List.not_mem_nil, or_false, Prod.mk.injEq] at hm
    rcases hm with ⟨rfl, rfl⟩ | ⟨rfl, rfl⟩
    · refine r_catch (name := "java/lang/IndexOutOfBoundsException") C [] ⟨0, 10, 13, 19⟩ [⟨0, 10, 16, 23⟩] (hnt.trans rfl) (fun z hz => absurd hz List.not_mem_nil) rfl (by decide) (C.2.2.2.2.1 _ qk_L_19) (hX.nw qca_IOB rfl hE) (fun q => ?_)
      refine r_astore_n C dL_next_13 (by decide) rfl ?_
      refine r_iconst (v := nI 1) C dL_next_14 (by decide) ?_
      exact r_iret C hr dL_next_15 ⟨_, _, _, _, rfl, rfl, h2 _⟩ (Nat.le_of_ble_eq_true rfl) (Nat.le_of_ble_eq_true rfl)
    · refine r_catch (name := "java/lang/IllegalStateException") C [⟨0, 10, 13, 19⟩] ⟨0, 10, 16, 23⟩ [] (hnt.trans rfl) (fun z hz => by
        simp only [List.mem_cons, List.not_mem_nil, or_false] at hz
        subst hz
        exact Or.inr ⟨by decide, "java/lang/IndexOutOfBoundsException", C.2.2.2.2.1 _ qk_L_19, hN ("java/lang/IllegalStateException", "java/lang/IndexOutOfBoundsException") (by simp [NCL]) _ _ _ hE⟩) rfl (by decide) (C.2.2.2.2.1 _ qk_L_23) (hX.nw qca_ISE rfl hE) (fun q => ?_)
      refine r_astore_n C dL_next_16 (by decide) rfl ?_
      refine r_iconst (v := nI 2) C dL_next_17 (by decide) ?_
      exact r_iret C hr dL_next_18 ⟨_, _, _, _, rfl, rfl, h2 _⟩ (Nat.le_of_ble_eq_true rfl) (Nat.le_of_ble_eq_true rfl)
  · refine c_V (st := [.ref o]) hX.stb C hE (h1 _) pk_X2_next qm_L_149 0 6 rfl rfl wc_0 rfl rfl (Nat.le_of_ble_eq_true rfl) dL_next_3 ⟨(Nat.le_of_ble_eq_true rfl), (Nat.le_of_ble_eq_true rfl)⟩ ⟨(Nat.le_of_ble_eq_true rfl), (Nat.le_of_ble_eq_true rfl)⟩ (fun v9 w9 h9 => ?_) (fun _ h9 => h9.elim)
    obtain ⟨rfl, rfl⟩ := h9
    refine r_i2l C dL_next_6 ?_
    refine g_putN hX C hE qu_X3 tyX3 tyX3_ok nmX3 (ci := 7) rfl 38 outo_at 0 (by decide) qn_L_13 rfl rfl (ty := .long) rfl rfl rfl (show 0 < 2 by omega) dL_next_7 outo_set ?_
    refine r_goto (tgt := 19) C dL_next_10 (by decide) ?_
    refine r_iconst (v := nI 0) C dL_next_19 (by decide) ?_
    exact r_iret C hr dL_next_20 ⟨_, _, _, _, rfl, rfl, h2⟩ (Nat.le_of_ble_eq_true rfl) (Nat.le_of_ble_eq_true rfl)
theorem dL_previous_0 : decode cL_previous 0 = .ok (.aload_n 2, 1) := dqo_44 (kb_of ke_L_previous 0 rfl)
theorem dL_previous_1 : decode cL_previous 1 = .ok (.aload_n 0, 1) := dqo_42 (kb_of ke_L_previous 1 rfl)
theorem dL_previous_2 : decode cL_previous 2 = .ok (.iload_n 1, 1) := dqo_27 (kb_of ke_L_previous 2 rfl)
theorem dL_previous_3 : decode cL_previous 3 = .ok (.invokevirtual 152, 3) := dqo_182 0 152 (kb_of ke_L_previous 3 rfl) (kb_of ke_L_previous 4 rfl) (kb_of ke_L_previous 5 rfl)
theorem dL_previous_6 : decode cL_previous 6 = .ok (.i2l, 1) := dqo_133 (kb_of ke_L_previous 6 rfl)
theorem dL_previous_7 : decode cL_previous 7 = .ok (.putfield 13, 3) := dqo_181 0 13 (kb_of ke_L_previous 7 rfl) (kb_of ke_L_previous 8 rfl) (kb_of ke_L_previous 9 rfl)
theorem dL_previous_10 : decode cL_previous 10 = .ok (.goto 9, 3) := dqo_167 0 9 (by decide) (kb_of ke_L_previous 10 rfl) (kb_of ke_L_previous 11 rfl) (kb_of ke_L_previous 12 rfl)
theorem dL_previous_13 : decode cL_previous 13 = .ok (.astore_n 3, 1) := dqo_78 (kb_of ke_L_previous 13 rfl)
theorem dL_previous_14 : decode cL_previous 14 = .ok (.iconst 1, 1) := dqo_4 (kb_of ke_L_previous 14 rfl)
theorem dL_previous_15 : decode cL_previous 15 = .ok (.ireturn, 1) := dqo_172 (kb_of ke_L_previous 15 rfl)
theorem dL_previous_16 : decode cL_previous 16 = .ok (.astore_n 3, 1) := dqo_78 (kb_of ke_L_previous 16 rfl)
theorem dL_previous_17 : decode cL_previous 17 = .ok (.iconst 2, 1) := dqo_5 (kb_of ke_L_previous 17 rfl)
theorem dL_previous_18 : decode cL_previous 18 = .ok (.ireturn, 1) := dqo_172 (kb_of ke_L_previous 18 rfl)
theorem dL_previous_19 : decode cL_previous 19 = .ok (.iconst 0, 1) := dqo_3 (kb_of ke_L_previous 19 rfl)
theorem dL_previous_20 : decode cL_previous 20 = .ok (.ireturn, 1) := dqo_172 (kb_of ke_L_previous 20 rfl)
theorem qcw_L_previous : Cond.codeWith yL_previous cL_previous 4 (some .int) [(0, 10, 13, 19), (0, 10, 16, 23)] ∈ GW := gw_5 148 rfl rfl
theorem pk_L_previous : PkH yL_previous cL_previous 4 (some .int) [(0, 10, 13, 19), (0, 10, 16, 23)] 3 := ⟨⟨qt_L_previous, qz_L, qcw_L_previous⟩, mh_L.1, mh_L.2, pd_48⟩
theorem pk_X2_previous : PkV RX2 yX2_previous cX2_previous 2 (some .int) 1 := ⟨⟨qi_X2_previous, qs_X2_previous, qz_X2, qc_X2_previous⟩, rfl, mh_X2.1, mh_X2.2, pd_1⟩
theorem W_previous {l : Launch} {D : va_G} {cy : Nat → ClassId} {X : (Nat → Prop) → State → Heap → Prop} {a : Nat → Nat → Nat} {ba ra : Nat → Nat} {f : Nat → Nat → Nat} {r : Nat → Nat → Int32} {hf : Nat → Nat → Nat} {hq : Nat → Nat → Int32} {kn th : Int32} {sm : Int64} {o : Nat} {n0 : Int64} {s0 : Value} {x0 : Int32} (hX : EnvX X) (hN : EnvN X) (hC : CInv f) (hB : RB r) (hM : MR f r hf hq) (hp : PR l D cy X a ba ra f r hf hq kn th sm yX2_previous cX2_previous 2 (some .int) yX4_previous cX4_previous 2 (some .int) (rmk 9 4 48 420) [.int x0] [("java/lang/IndexOutOfBoundsException", 1), ("java/lang/IllegalStateException", 2)]) : CmH l D cy X yL_previous cL_previous 4 (some .int) [(0, 10, 13, 19), (0, 10, 16, 23)] (rmk 9 1 6 300) [.ref (a 0 0), .int x0, .ref o] (WC cy a f r kn ++ (WM cy ba ra hf hq kn th sm ++ [OUTo o n0 s0])) (fun v1 w1 => ∃ (f' : Nat → Nat → Nat) (r' : Nat → Nat → Int32) (k : Nat) (n1 : Int64), v1 = some (.int (nI k)) ∧ w1 = WC cy a f' r' kn ++ (WM cy ba ra hf hq kn th sm ++ [OUTo o n1 s0]) ∧ PN l D cy X ba ra hf hq kn th sm yX4_previous cX4_previous 2 (some .int) (rmk 9 4 48 420) [.int x0] cvI f' r' k n1) (fun _ => False) := by
  refine CmH.of [some (.ref (a 0 0)), some (.int x0), some (.ref o), none] pn_L rfl (Nat.le_of_ble_eq_true rfl) ?_
  intro p e s m args below meth c A C hE hr hnt
  refine r_aload_n C dL_previous_0 rfl ?_
  refine r_aload_n C dL_previous_1 rfl ?_
  refine r_iload_n C dL_previous_2 rfl ?_
  rcases hp.two cvI (by simp) hC hB hM with ⟨E, k, hm, h1, h2⟩ | ⟨f', r', n, h1, h2⟩
  · refine c_V (st := [.ref o]) hX.stb C hE (h1 _) pk_X2_previous qm_L_152 0 6 rfl rfl wc_0 rfl rfl (Nat.le_of_ble_eq_true rfl) dL_previous_3 ⟨(Nat.le_of_ble_eq_true rfl), (Nat.le_of_ble_eq_true rfl)⟩ ⟨(Nat.le_of_ble_eq_true rfl), (Nat.le_of_ble_eq_true rfl)⟩ (fun _ _ h9 => h9.elim) (fun E1 hE1 => ?_)
    subst hE1
    simp only [List.mem_cons, List.not_mem_nil, or_false, Prod.mk.injEq] at hm
    rcases hm with ⟨rfl, rfl⟩ | ⟨rfl, rfl⟩
    · refine r_catch (name := "java/lang/IndexOutOfBoundsException") C [] ⟨0, 10, 13, 19⟩ [⟨0, 10, 16, 23⟩] (hnt.trans rfl) (fun z hz => absurd hz List.not_mem_nil) rfl (by decide) (C.2.2.2.2.1 _ qk_L_19) (hX.nw qca_IOB rfl hE) (fun q => ?_)
      refine r_astore_n C dL_previous_13 (by decide) rfl ?_
      refine r_iconst (v := nI 1) C dL_previous_14 (by decide) ?_
      exact r_iret C hr dL_previous_15 ⟨_, _, _, _, rfl, rfl, h2 _⟩ (Nat.le_of_ble_eq_true rfl) (Nat.le_of_ble_eq_true rfl)
    · refine r_catch (name := "java/lang/IllegalStateException") C [⟨0, 10, 13, 19⟩] ⟨0, 10, 16, 23⟩ [] (hnt.trans rfl) (fun z hz => by
        simp only [List.mem_cons, List.not_mem_nil, or_false] at hz
        subst hz
        exact Or.inr ⟨by decide, "java/lang/IndexOutOfBoundsException", C.2.2.2.2.1 _ qk_L_19, hN ("java/lang/IllegalStateException", "java/lang/IndexOutOfBoundsException") (by simp [NCL]) _ _ _ hE⟩) rfl (by decide) (C.2.2.2.2.1 _ qk_L_23) (hX.nw qca_ISE rfl hE) (fun q => ?_)
      refine r_astore_n C dL_previous_16 (by decide) rfl ?_
      refine r_iconst (v := nI 2) C dL_previous_17 (by decide) ?_
      exact r_iret C hr dL_previous_18 ⟨_, _, _, _, rfl, rfl, h2 _⟩ (Nat.le_of_ble_eq_true rfl) (Nat.le_of_ble_eq_true rfl)
  · refine c_V (st := [.ref o]) hX.stb C hE (h1 _) pk_X2_previous qm_L_152 0 6 rfl rfl wc_0 rfl rfl (Nat.le_of_ble_eq_true rfl) dL_previous_3 ⟨(Nat.le_of_ble_eq_true rfl), (Nat.le_of_ble_eq_true rfl)⟩ ⟨(Nat.le_of_ble_eq_true rfl), (Nat.le_of_ble_eq_true rfl)⟩ (fun v9 w9 h9 => ?_) (fun _ h9 => h9.elim)
    obtain ⟨rfl, rfl⟩ := h9
    refine r_i2l C dL_previous_6 ?_
    refine g_putN hX C hE qu_X3 tyX3 tyX3_ok nmX3 (ci := 7) rfl 38 outo_at 0 (by decide) qn_L_13 rfl rfl (ty := .long) rfl rfl rfl (show 0 < 2 by omega) dL_previous_7 outo_set ?_
    refine r_goto (tgt := 19) C dL_previous_10 (by decide) ?_
    refine r_iconst (v := nI 0) C dL_previous_19 (by decide) ?_
    exact r_iret C hr dL_previous_20 ⟨_, _, _, _, rfl, rfl, h2⟩ (Nat.le_of_ble_eq_true rfl) (Nat.le_of_ble_eq_true rfl)
theorem dL_put_0 : decode cL_put 0 = .ok (.aload_n 3, 1) := dqo_45 (kb_of ke_L_put 0 rfl)
theorem dL_put_1 : decode cL_put 1 = .ok (.aload_n 0, 1) := dqo_42 (kb_of ke_L_put 1 rfl)
theorem dL_put_2 : decode cL_put 2 = .ok (.iload_n 1, 1) := dqo_27 (kb_of ke_L_put 2 rfl)
theorem dL_put_3 : decode cL_put 3 = .ok (.iload_n 2, 1) := dqo_28 (kb_of ke_L_put 3 rfl)
theorem dL_put_4 : decode cL_put 4 = .ok (.invokevirtual 155, 3) := dqo_182 0 155 (kb_of ke_L_put 4 rfl) (kb_of ke_L_put 5 rfl) (kb_of ke_L_put 6 rfl)
theorem dL_put_7 : decode cL_put 7 = .ok (.i2l, 1) := dqo_133 (kb_of ke_L_put 7 rfl)
theorem dL_put_8 : decode cL_put 8 = .ok (.putfield 13, 3) := dqo_181 0 13 (kb_of ke_L_put 8 rfl) (kb_of ke_L_put 9 rfl) (kb_of ke_L_put 10 rfl)
theorem dL_put_11 : decode cL_put 11 = .ok (.goto 15, 3) := dqo_167 0 15 (by decide) (kb_of ke_L_put 11 rfl) (kb_of ke_L_put 12 rfl) (kb_of ke_L_put 13 rfl)
theorem dL_put_14 : decode cL_put 14 = .ok (.astore 4, 2) := dqo_58 4 (kb_of ke_L_put 14 rfl) (kb_of ke_L_put 15 rfl)
theorem dL_put_16 : decode cL_put 16 = .ok (.iconst 1, 1) := dqo_4 (kb_of ke_L_put 16 rfl)
theorem dL_put_17 : decode cL_put 17 = .ok (.ireturn, 1) := dqo_172 (kb_of ke_L_put 17 rfl)
theorem dL_put_18 : decode cL_put 18 = .ok (.astore 4, 2) := dqo_58 4 (kb_of ke_L_put 18 rfl) (kb_of ke_L_put 19 rfl)
theorem dL_put_20 : decode cL_put 20 = .ok (.iconst 2, 1) := dqo_5 (kb_of ke_L_put 20 rfl)
theorem dL_put_21 : decode cL_put 21 = .ok (.ireturn, 1) := dqo_172 (kb_of ke_L_put 21 rfl)
theorem dL_put_22 : decode cL_put 22 = .ok (.astore 4, 2) := dqo_58 4 (kb_of ke_L_put 22 rfl) (kb_of ke_L_put 23 rfl)
theorem dL_put_24 : decode cL_put 24 = .ok (.iconst 3, 1) := dqo_6 (kb_of ke_L_put 24 rfl)
theorem dL_put_25 : decode cL_put 25 = .ok (.ireturn, 1) := dqo_172 (kb_of ke_L_put 25 rfl)
theorem dL_put_26 : decode cL_put 26 = .ok (.iconst 0, 1) := dqo_3 (kb_of ke_L_put 26 rfl)
theorem dL_put_27 : decode cL_put 27 = .ok (.ireturn, 1) := dqo_172 (kb_of ke_L_put 27 rfl)
theorem qcw_L_put : Cond.codeWith yL_put cL_put 5 (some .int) [(0, 11, 14, 19), (0, 11, 18, 21), (0, 11, 22, 23)] ∈ GW := gw_5 159 rfl rfl
theorem pk_L_put : PkH yL_put cL_put 5 (some .int) [(0, 11, 14, 19), (0, 11, 18, 21), (0, 11, 22, 23)] 4 := ⟨⟨qt_L_put, qz_L, qcw_L_put⟩, mh_L.1, mh_L.2, pd_46⟩
theorem pk_X2_put : PkV RX2 yX2_put cX2_put 4 (some .int) 2 := ⟨⟨qi_X2_put, qs_X2_put, qz_X2, qc_X2_put⟩, rfl, mh_X2.1, mh_X2.2, pd_0⟩
theorem W_put {l : Launch} {D : va_G} {cy : Nat → ClassId} {X : (Nat → Prop) → State → Heap → Prop} {a : Nat → Nat → Nat} {ba ra : Nat → Nat} {f : Nat → Nat → Nat} {r : Nat → Nat → Int32} {hf : Nat → Nat → Nat} {hq : Nat → Nat → Int32} {kn th : Int32} {sm : Int64} {o : Nat} {n0 : Int64} {s0 : Value} {x0 x1 : Int32} (hX : EnvX X) (hN : EnvN X) (hC : CInv f) (hB : RB r) (hM : MR f r hf hq) (hp : PR l D cy X a ba ra f r hf hq kn th sm yX2_put cX2_put 4 (some .int) yX4_put_ cX4_put_ 3 (some .int) (rmk 9 4 48 420) [.int x0, .int x1] [("java/lang/IndexOutOfBoundsException", 1), ("java/lang/IllegalArgumentException", 2), ("java/lang/IllegalStateException", 3)]) : CmH l D cy X yL_put cL_put 5 (some .int) [(0, 11, 14, 19), (0, 11, 18, 21), (0, 11, 22, 23)] (rmk 9 1 6 300) [.ref (a 0 0), .int x0, .int x1, .ref o] (WC cy a f r kn ++ (WM cy ba ra hf hq kn th sm ++ [OUTo o n0 s0])) (fun v1 w1 => ∃ (f' : Nat → Nat → Nat) (r' : Nat → Nat → Int32) (k : Nat) (n1 : Int64), v1 = some (.int (nI k)) ∧ w1 = WC cy a f' r' kn ++ (WM cy ba ra hf hq kn th sm ++ [OUTo o n1 s0]) ∧ PN l D cy X ba ra hf hq kn th sm yX4_put_ cX4_put_ 3 (some .int) (rmk 9 4 48 420) [.int x0, .int x1] cvI f' r' k n1) (fun _ => False) := by
  refine CmH.of [some (.ref (a 0 0)), some (.int x0), some (.int x1), some (.ref o), none] pn_L rfl (Nat.le_of_ble_eq_true rfl) ?_
  intro p e s m args below meth c A C hE hr hnt
  refine r_aload_n C dL_put_0 rfl ?_
  refine r_aload_n C dL_put_1 rfl ?_
  refine r_iload_n C dL_put_2 rfl ?_
  refine r_iload_n C dL_put_3 rfl ?_
  rcases hp.two cvI (by simp) hC hB hM with ⟨E, k, hm, h1, h2⟩ | ⟨f', r', n, h1, h2⟩
  · refine c_V (st := [.ref o]) hX.stb C hE (h1 _) pk_X2_put qm_L_155 0 6 rfl rfl wc_0 rfl rfl (Nat.le_of_ble_eq_true rfl) dL_put_4 ⟨(Nat.le_of_ble_eq_true rfl), (Nat.le_of_ble_eq_true rfl)⟩ ⟨(Nat.le_of_ble_eq_true rfl), (Nat.le_of_ble_eq_true rfl)⟩ (fun _ _ h9 => h9.elim) (fun E1 hE1 => ?_)
    subst hE1
    simp only [List.mem_cons, List.not_mem_nil, or_false, Prod.mk.injEq] at hm
    rcases hm with ⟨rfl, rfl⟩ | ⟨rfl, rfl⟩ | ⟨rfl, rfl⟩
    · refine r_catch (name := "java/lang/IndexOutOfBoundsException") C [] ⟨0, 11, 14, 19⟩ [⟨0, 11, 18, 21⟩, ⟨0, 11, 22, 23⟩] (hnt.trans rfl) (fun z hz => absurd hz List.not_mem_nil) rfl (by decide) (C.2.2.2.2.1 _ qk_L_19) (hX.nw qca_IOB rfl hE) (fun q => ?_)
      refine r_astore C dL_put_14 (by decide) rfl ?_
      refine r_iconst (v := nI 1) C dL_put_16 (by decide) ?_
      exact r_iret C hr dL_put_17 ⟨_, _, _, _, rfl, rfl, h2 _⟩ (Nat.le_of_ble_eq_true rfl) (Nat.le_of_ble_eq_true rfl)
    · refine r_catch (name := "java/lang/IllegalArgumentException") C [⟨0, 11, 14, 19⟩] ⟨0, 11, 18, 21⟩ [⟨0, 11, 22, 23⟩] (hnt.trans rfl) (fun z hz => by
        simp only [List.mem_cons, List.not_mem_nil, or_false] at hz
        subst hz
        exact Or.inr ⟨by decide, "java/lang/IndexOutOfBoundsException", C.2.2.2.2.1 _ qk_L_19, hN ("java/lang/IllegalArgumentException", "java/lang/IndexOutOfBoundsException") (by simp [NCL]) _ _ _ hE⟩) rfl (by decide) (C.2.2.2.2.1 _ qk_L_21) (hX.nw qca_IAE rfl hE) (fun q => ?_)
      refine r_astore C dL_put_18 (by decide) rfl ?_
      refine r_iconst (v := nI 2) C dL_put_20 (by decide) ?_
      exact r_iret C hr dL_put_21 ⟨_, _, _, _, rfl, rfl, h2 _⟩ (Nat.le_of_ble_eq_true rfl) (Nat.le_of_ble_eq_true rfl)
    · refine r_catch (name := "java/lang/IllegalStateException") C [⟨0, 11, 14, 19⟩, ⟨0, 11, 18, 21⟩] ⟨0, 11, 22, 23⟩ [] (hnt.trans rfl) (fun z hz => by
        simp only [List.mem_cons, List.not_mem_nil, or_false] at hz
        rcases hz with rfl | rfl
        · exact Or.inr ⟨by decide, "java/lang/IndexOutOfBoundsException", C.2.2.2.2.1 _ qk_L_19, hN ("java/lang/IllegalStateException", "java/lang/IndexOutOfBoundsException") (by simp [NCL]) _ _ _ hE⟩
        · exact Or.inr ⟨by decide, "java/lang/IllegalArgumentException", C.2.2.2.2.1 _ qk_L_21, hN ("java/lang/IllegalStateException", "java/lang/IllegalArgumentException") (by simp [NCL]) _ _ _ hE⟩) rfl (by decide) (C.2.2.2.2.1 _ qk_L_23) (hX.nw qca_ISE rfl hE) (fun q => ?_)
      refine r_astore C dL_put_22 (by decide) rfl ?_
      refine r_iconst (v := nI 3) C dL_put_24 (by decide) ?_
      exact r_iret C hr dL_put_25 ⟨_, _, _, _, rfl, rfl, h2 _⟩ (Nat.le_of_ble_eq_true rfl) (Nat.le_of_ble_eq_true rfl)
  · refine c_V (st := [.ref o]) hX.stb C hE (h1 _) pk_X2_put qm_L_155 0 6 rfl rfl wc_0 rfl rfl (Nat.le_of_ble_eq_true rfl) dL_put_4 ⟨(Nat.le_of_ble_eq_true rfl), (Nat.le_of_ble_eq_true rfl)⟩ ⟨(Nat.le_of_ble_eq_true rfl), (Nat.le_of_ble_eq_true rfl)⟩ (fun v9 w9 h9 => ?_) (fun _ h9 => h9.elim)
    obtain ⟨rfl, rfl⟩ := h9
    refine r_i2l C dL_put_7 ?_
    refine g_putN hX C hE qu_X3 tyX3 tyX3_ok nmX3 (ci := 7) rfl 38 outo_at 0 (by decide) qn_L_13 rfl rfl (ty := .long) rfl rfl rfl (show 0 < 2 by omega) dL_put_8 outo_set ?_
    refine r_goto (tgt := 26) C dL_put_11 (by decide) ?_
    refine r_iconst (v := nI 0) C dL_put_26 (by decide) ?_
    exact r_iret C hr dL_put_27 ⟨_, _, _, _, rfl, rfl, h2⟩ (Nat.le_of_ble_eq_true rfl) (Nat.le_of_ble_eq_true rfl)
theorem dL_take_0 : decode cL_take 0 = .ok (.aload_n 2, 1) := dqo_44 (kb_of ke_L_take 0 rfl)
theorem dL_take_1 : decode cL_take 1 = .ok (.aload_n 0, 1) := dqo_42 (kb_of ke_L_take 1 rfl)
theorem dL_take_2 : decode cL_take 2 = .ok (.iload_n 1, 1) := dqo_27 (kb_of ke_L_take 2 rfl)
theorem dL_take_3 : decode cL_take 3 = .ok (.invokevirtual 158, 3) := dqo_182 0 158 (kb_of ke_L_take 3 rfl) (kb_of ke_L_take 4 rfl) (kb_of ke_L_take 5 rfl)
theorem dL_take_6 : decode cL_take 6 = .ok (.i2l, 1) := dqo_133 (kb_of ke_L_take 6 rfl)
theorem dL_take_7 : decode cL_take 7 = .ok (.putfield 13, 3) := dqo_181 0 13 (kb_of ke_L_take 7 rfl) (kb_of ke_L_take 8 rfl) (kb_of ke_L_take 9 rfl)
theorem dL_take_10 : decode cL_take 10 = .ok (.goto 9, 3) := dqo_167 0 9 (by decide) (kb_of ke_L_take 10 rfl) (kb_of ke_L_take 11 rfl) (kb_of ke_L_take 12 rfl)
theorem dL_take_13 : decode cL_take 13 = .ok (.astore_n 3, 1) := dqo_78 (kb_of ke_L_take 13 rfl)
theorem dL_take_14 : decode cL_take 14 = .ok (.iconst 1, 1) := dqo_4 (kb_of ke_L_take 14 rfl)
theorem dL_take_15 : decode cL_take 15 = .ok (.ireturn, 1) := dqo_172 (kb_of ke_L_take 15 rfl)
theorem dL_take_16 : decode cL_take 16 = .ok (.astore_n 3, 1) := dqo_78 (kb_of ke_L_take 16 rfl)
theorem dL_take_17 : decode cL_take 17 = .ok (.iconst 2, 1) := dqo_5 (kb_of ke_L_take 17 rfl)
theorem dL_take_18 : decode cL_take 18 = .ok (.ireturn, 1) := dqo_172 (kb_of ke_L_take 18 rfl)
theorem dL_take_19 : decode cL_take 19 = .ok (.iconst 0, 1) := dqo_3 (kb_of ke_L_take 19 rfl)
theorem dL_take_20 : decode cL_take 20 = .ok (.ireturn, 1) := dqo_172 (kb_of ke_L_take 20 rfl)
theorem qcw_L_take : Cond.codeWith yL_take cL_take 4 (some .int) [(0, 10, 13, 19), (0, 10, 16, 23)] ∈ GW := gw_5 166 rfl rfl
theorem pk_L_take : PkH yL_take cL_take 4 (some .int) [(0, 10, 13, 19), (0, 10, 16, 23)] 3 := ⟨⟨qt_L_take, qz_L, qcw_L_take⟩, mh_L.1, mh_L.2, pd_48⟩
theorem pk_X2_take : PkV RX2 yX2_take cX2_take 3 (some .int) 1 := ⟨⟨qi_X2_take, qs_X2_take, qz_X2, qc_X2_take⟩, rfl, mh_X2.1, mh_X2.2, pd_1⟩
theorem W_take {l : Launch} {D : va_G} {cy : Nat → ClassId} {X : (Nat → Prop) → State → Heap → Prop} {a : Nat → Nat → Nat} {ba ra : Nat → Nat} {f : Nat → Nat → Nat} {r : Nat → Nat → Int32} {hf : Nat → Nat → Nat} {hq : Nat → Nat → Int32} {kn th : Int32} {sm : Int64} {o : Nat} {n0 : Int64} {s0 : Value} {x0 : Int32} (hX : EnvX X) (hN : EnvN X) (hC : CInv f) (hB : RB r) (hM : MR f r hf hq) (hp : PR l D cy X a ba ra f r hf hq kn th sm yX2_take cX2_take 3 (some .int) yX4_take cX4_take 2 (some .int) (rmk 9 4 48 420) [.int x0] [("java/lang/IndexOutOfBoundsException", 1), ("java/lang/IllegalStateException", 2)]) : CmH l D cy X yL_take cL_take 4 (some .int) [(0, 10, 13, 19), (0, 10, 16, 23)] (rmk 9 1 6 300) [.ref (a 0 0), .int x0, .ref o] (WC cy a f r kn ++ (WM cy ba ra hf hq kn th sm ++ [OUTo o n0 s0])) (fun v1 w1 => ∃ (f' : Nat → Nat → Nat) (r' : Nat → Nat → Int32) (k : Nat) (n1 : Int64), v1 = some (.int (nI k)) ∧ w1 = WC cy a f' r' kn ++ (WM cy ba ra hf hq kn th sm ++ [OUTo o n1 s0]) ∧ PN l D cy X ba ra hf hq kn th sm yX4_take cX4_take 2 (some .int) (rmk 9 4 48 420) [.int x0] cvI f' r' k n1) (fun _ => False) := by
  refine CmH.of [some (.ref (a 0 0)), some (.int x0), some (.ref o), none] pn_L rfl (Nat.le_of_ble_eq_true rfl) ?_
  intro p e s m args below meth c A C hE hr hnt
  refine r_aload_n C dL_take_0 rfl ?_
  refine r_aload_n C dL_take_1 rfl ?_
  refine r_iload_n C dL_take_2 rfl ?_
  rcases hp.two cvI (by simp) hC hB hM with ⟨E, k, hm, h1, h2⟩ | ⟨f', r', n, h1, h2⟩
  · refine c_V (st := [.ref o]) hX.stb C hE (h1 _) pk_X2_take qm_L_158 0 6 rfl rfl wc_0 rfl rfl (Nat.le_of_ble_eq_true rfl) dL_take_3 ⟨(Nat.le_of_ble_eq_true rfl), (Nat.le_of_ble_eq_true rfl)⟩ ⟨(Nat.le_of_ble_eq_true rfl), (Nat.le_of_ble_eq_true rfl)⟩ (fun _ _ h9 => h9.elim) (fun E1 hE1 => ?_)
    subst hE1
    simp only [List.mem_cons, List.not_mem_nil, or_false, Prod.mk.injEq] at hm
    rcases hm with ⟨rfl, rfl⟩ | ⟨rfl, rfl⟩
    · refine r_catch (name := "java/lang/IndexOutOfBoundsException") C [] ⟨0, 10, 13, 19⟩ [⟨0, 10, 16, 23⟩] (hnt.trans rfl) (fun z hz => absurd hz List.not_mem_nil) rfl (by decide) (C.2.2.2.2.1 _ qk_L_19) (hX.nw qca_IOB rfl hE) (fun q => ?_)
      refine r_astore_n C dL_take_13 (by decide) rfl ?_
      refine r_iconst (v := nI 1) C dL_take_14 (by decide) ?_
      exact r_iret C hr dL_take_15 ⟨_, _, _, _, rfl, rfl, h2 _⟩ (Nat.le_of_ble_eq_true rfl) (Nat.le_of_ble_eq_true rfl)
    · refine r_catch (name := "java/lang/IllegalStateException") C [⟨0, 10, 13, 19⟩] ⟨0, 10, 16, 23⟩ [] (hnt.trans rfl) (fun z hz => by
        simp only [List.mem_cons, List.not_mem_nil, or_false] at hz
        subst hz
        exact Or.inr ⟨by decide, "java/lang/IndexOutOfBoundsException", C.2.2.2.2.1 _ qk_L_19, hN ("java/lang/IllegalStateException", "java/lang/IndexOutOfBoundsException") (by simp [NCL]) _ _ _ hE⟩) rfl (by decide) (C.2.2.2.2.1 _ qk_L_23) (hX.nw qca_ISE rfl hE) (fun q => ?_)
      refine r_astore_n C dL_take_16 (by decide) rfl ?_
      refine r_iconst (v := nI 2) C dL_take_17 (by decide) ?_
      exact r_iret C hr dL_take_18 ⟨_, _, _, _, rfl, rfl, h2 _⟩ (Nat.le_of_ble_eq_true rfl) (Nat.le_of_ble_eq_true rfl)
  · refine c_V (st := [.ref o]) hX.stb C hE (h1 _) pk_X2_take qm_L_158 0 6 rfl rfl wc_0 rfl rfl (Nat.le_of_ble_eq_true rfl) dL_take_3 ⟨(Nat.le_of_ble_eq_true rfl), (Nat.le_of_ble_eq_true rfl)⟩ ⟨(Nat.le_of_ble_eq_true rfl), (Nat.le_of_ble_eq_true rfl)⟩ (fun v9 w9 h9 => ?_) (fun _ h9 => h9.elim)
    obtain ⟨rfl, rfl⟩ := h9
    refine r_i2l C dL_take_6 ?_
    refine g_putN hX C hE qu_X3 tyX3 tyX3_ok nmX3 (ci := 7) rfl 38 outo_at 0 (by decide) qn_L_13 rfl rfl (ty := .long) rfl rfl rfl (show 0 < 2 by omega) dL_take_7 outo_set ?_
    refine r_goto (tgt := 19) C dL_take_10 (by decide) ?_
    refine r_iconst (v := nI 0) C dL_take_19 (by decide) ?_
    exact r_iret C hr dL_take_20 ⟨_, _, _, _, rfl, rfl, h2⟩ (Nat.le_of_ble_eq_true rfl) (Nat.le_of_ble_eq_true rfl)
theorem dL_replace_0 : decode cL_replace 0 = .ok (.aload_n 3, 1) := dqo_45 (kb_of ke_L_replace 0 rfl)
theorem dL_replace_1 : decode cL_replace 1 = .ok (.aload_n 0, 1) := dqo_42 (kb_of ke_L_replace 1 rfl)
theorem dL_replace_2 : decode cL_replace 2 = .ok (.iload_n 1, 1) := dqo_27 (kb_of ke_L_replace 2 rfl)
theorem dL_replace_3 : decode cL_replace 3 = .ok (.iload_n 2, 1) := dqo_28 (kb_of ke_L_replace 3 rfl)
theorem dL_replace_4 : decode cL_replace 4 = .ok (.invokevirtual 161, 3) := dqo_182 0 161 (kb_of ke_L_replace 4 rfl) (kb_of ke_L_replace 5 rfl) (kb_of ke_L_replace 6 rfl)
theorem dL_replace_7 : decode cL_replace 7 = .ok (.i2l, 1) := dqo_133 (kb_of ke_L_replace 7 rfl)
theorem dL_replace_8 : decode cL_replace 8 = .ok (.putfield 13, 3) := dqo_181 0 13 (kb_of ke_L_replace 8 rfl) (kb_of ke_L_replace 9 rfl) (kb_of ke_L_replace 10 rfl)
theorem dL_replace_11 : decode cL_replace 11 = .ok (.goto 15, 3) := dqo_167 0 15 (by decide) (kb_of ke_L_replace 11 rfl) (kb_of ke_L_replace 12 rfl) (kb_of ke_L_replace 13 rfl)
theorem dL_replace_14 : decode cL_replace 14 = .ok (.astore 4, 2) := dqo_58 4 (kb_of ke_L_replace 14 rfl) (kb_of ke_L_replace 15 rfl)
theorem dL_replace_16 : decode cL_replace 16 = .ok (.iconst 1, 1) := dqo_4 (kb_of ke_L_replace 16 rfl)
theorem dL_replace_17 : decode cL_replace 17 = .ok (.ireturn, 1) := dqo_172 (kb_of ke_L_replace 17 rfl)
theorem dL_replace_18 : decode cL_replace 18 = .ok (.astore 4, 2) := dqo_58 4 (kb_of ke_L_replace 18 rfl) (kb_of ke_L_replace 19 rfl)
theorem dL_replace_20 : decode cL_replace 20 = .ok (.iconst 2, 1) := dqo_5 (kb_of ke_L_replace 20 rfl)
theorem dL_replace_21 : decode cL_replace 21 = .ok (.ireturn, 1) := dqo_172 (kb_of ke_L_replace 21 rfl)
theorem dL_replace_22 : decode cL_replace 22 = .ok (.astore 4, 2) := dqo_58 4 (kb_of ke_L_replace 22 rfl) (kb_of ke_L_replace 23 rfl)
theorem dL_replace_24 : decode cL_replace 24 = .ok (.iconst 3, 1) := dqo_6 (kb_of ke_L_replace 24 rfl)
theorem dL_replace_25 : decode cL_replace 25 = .ok (.ireturn, 1) := dqo_172 (kb_of ke_L_replace 25 rfl)
theorem dL_replace_26 : decode cL_replace 26 = .ok (.iconst 0, 1) := dqo_3 (kb_of ke_L_replace 26 rfl)
theorem dL_replace_27 : decode cL_replace 27 = .ok (.ireturn, 1) := dqo_172 (kb_of ke_L_replace 27 rfl)
theorem qcw_L_replace : Cond.codeWith yL_replace cL_replace 5 (some .int) [(0, 11, 14, 19), (0, 11, 18, 21), (0, 11, 22, 23)] ∈ GW := gw_5 173 rfl rfl
theorem pk_L_replace : PkH yL_replace cL_replace 5 (some .int) [(0, 11, 14, 19), (0, 11, 18, 21), (0, 11, 22, 23)] 4 := ⟨⟨qt_L_replace, qz_L, qcw_L_replace⟩, mh_L.1, mh_L.2, pd_46⟩
theorem pk_X2_replace : PkV RX2 yX2_replace cX2_replace 4 (some .int) 2 := ⟨⟨qi_X2_replace, qs_X2_replace, qz_X2, qc_X2_replace⟩, rfl, mh_X2.1, mh_X2.2, pd_0⟩
theorem W_replace {l : Launch} {D : va_G} {cy : Nat → ClassId} {X : (Nat → Prop) → State → Heap → Prop} {a : Nat → Nat → Nat} {ba ra : Nat → Nat} {f : Nat → Nat → Nat} {r : Nat → Nat → Int32} {hf : Nat → Nat → Nat} {hq : Nat → Nat → Int32} {kn th : Int32} {sm : Int64} {o : Nat} {n0 : Int64} {s0 : Value} {x0 x1 : Int32} (hX : EnvX X) (hN : EnvN X) (hC : CInv f) (hB : RB r) (hM : MR f r hf hq) (hp : PR l D cy X a ba ra f r hf hq kn th sm yX2_replace cX2_replace 4 (some .int) yX4_replace cX4_replace 3 (some .int) (rmk 9 4 48 420) [.int x0, .int x1] [("java/lang/IndexOutOfBoundsException", 1), ("java/lang/IllegalArgumentException", 2), ("java/lang/IllegalStateException", 3)]) : CmH l D cy X yL_replace cL_replace 5 (some .int) [(0, 11, 14, 19), (0, 11, 18, 21), (0, 11, 22, 23)] (rmk 9 1 6 300) [.ref (a 0 0), .int x0, .int x1, .ref o] (WC cy a f r kn ++ (WM cy ba ra hf hq kn th sm ++ [OUTo o n0 s0])) (fun v1 w1 => ∃ (f' : Nat → Nat → Nat) (r' : Nat → Nat → Int32) (k : Nat) (n1 : Int64), v1 = some (.int (nI k)) ∧ w1 = WC cy a f' r' kn ++ (WM cy ba ra hf hq kn th sm ++ [OUTo o n1 s0]) ∧ PN l D cy X ba ra hf hq kn th sm yX4_replace cX4_replace 3 (some .int) (rmk 9 4 48 420) [.int x0, .int x1] cvI f' r' k n1) (fun _ => False) := by
  refine CmH.of [some (.ref (a 0 0)), some (.int x0), some (.int x1), some (.ref o), none] pn_L rfl (Nat.le_of_ble_eq_true rfl) ?_
  intro p e s m args below meth c A C hE hr hnt
  refine r_aload_n C dL_replace_0 rfl ?_
  refine r_aload_n C dL_replace_1 rfl ?_
  refine r_iload_n C dL_replace_2 rfl ?_
  refine r_iload_n C dL_replace_3 rfl ?_
  rcases hp.two cvI (by simp) hC hB hM with ⟨E, k, hm, h1, h2⟩ | ⟨f', r', n, h1, h2⟩
  · refine c_V (st := [.ref o]) hX.stb C hE (h1 _) pk_X2_replace qm_L_161 0 6 rfl rfl wc_0 rfl rfl (Nat.le_of_ble_eq_true rfl) dL_replace_4 ⟨(Nat.le_of_ble_eq_true rfl), (Nat.le_of_ble_eq_true rfl)⟩ ⟨(Nat.le_of_ble_eq_true rfl), (Nat.le_of_ble_eq_true rfl)⟩ (fun _ _ h9 => h9.elim) (fun E1 hE1 => ?_)
    subst hE1
    simp only [List.mem_cons, List.not_mem_nil, or_false, Prod.mk.injEq] at hm
    rcases hm with ⟨rfl, rfl⟩ | ⟨rfl, rfl⟩ | ⟨rfl, rfl⟩
    · refine r_catch (name := "java/lang/IndexOutOfBoundsException") C [] ⟨0, 11, 14, 19⟩ [⟨0, 11, 18, 21⟩, ⟨0, 11, 22, 23⟩] (hnt.trans rfl) (fun z hz => absurd hz List.not_mem_nil) rfl (by decide) (C.2.2.2.2.1 _ qk_L_19) (hX.nw qca_IOB rfl hE) (fun q => ?_)
      refine r_astore C dL_replace_14 (by decide) rfl ?_
      refine r_iconst (v := nI 1) C dL_replace_16 (by decide) ?_
      exact r_iret C hr dL_replace_17 ⟨_, _, _, _, rfl, rfl, h2 _⟩ (Nat.le_of_ble_eq_true rfl) (Nat.le_of_ble_eq_true rfl)
    · refine r_catch (name := "java/lang/IllegalArgumentException") C [⟨0, 11, 14, 19⟩] ⟨0, 11, 18, 21⟩ [⟨0, 11, 22, 23⟩] (hnt.trans rfl) (fun z hz => by
        simp only [List.mem_cons, List.not_mem_nil, or_false] at hz
        subst hz
        exact Or.inr ⟨by decide, "java/lang/IndexOutOfBoundsException", C.2.2.2.2.1 _ qk_L_19, hN ("java/lang/IllegalArgumentException", "java/lang/IndexOutOfBoundsException") (by simp [NCL]) _ _ _ hE⟩) rfl (by decide) (C.2.2.2.2.1 _ qk_L_21) (hX.nw qca_IAE rfl hE) (fun q => ?_)
      refine r_astore C dL_replace_18 (by decide) rfl ?_
      refine r_iconst (v := nI 2) C dL_replace_20 (by decide) ?_
      exact r_iret C hr dL_replace_21 ⟨_, _, _, _, rfl, rfl, h2 _⟩ (Nat.le_of_ble_eq_true rfl) (Nat.le_of_ble_eq_true rfl)
    · refine r_catch (name := "java/lang/IllegalStateException") C [⟨0, 11, 14, 19⟩, ⟨0, 11, 18, 21⟩] ⟨0, 11, 22, 23⟩ [] (hnt.trans rfl) (fun z hz => by
        simp only [List.mem_cons, List.not_mem_nil, or_false] at hz
        rcases hz with rfl | rfl
        · exact Or.inr ⟨by decide, "java/lang/IndexOutOfBoundsException", C.2.2.2.2.1 _ qk_L_19, hN ("java/lang/IllegalStateException", "java/lang/IndexOutOfBoundsException") (by simp [NCL]) _ _ _ hE⟩
        · exact Or.inr ⟨by decide, "java/lang/IllegalArgumentException", C.2.2.2.2.1 _ qk_L_21, hN ("java/lang/IllegalStateException", "java/lang/IllegalArgumentException") (by simp [NCL]) _ _ _ hE⟩) rfl (by decide) (C.2.2.2.2.1 _ qk_L_23) (hX.nw qca_ISE rfl hE) (fun q => ?_)
      refine r_astore C dL_replace_22 (by decide) rfl ?_
      refine r_iconst (v := nI 3) C dL_replace_24 (by decide) ?_
      exact r_iret C hr dL_replace_25 ⟨_, _, _, _, rfl, rfl, h2 _⟩ (Nat.le_of_ble_eq_true rfl) (Nat.le_of_ble_eq_true rfl)
  · refine c_V (st := [.ref o]) hX.stb C hE (h1 _) pk_X2_replace qm_L_161 0 6 rfl rfl wc_0 rfl rfl (Nat.le_of_ble_eq_true rfl) dL_replace_4 ⟨(Nat.le_of_ble_eq_true rfl), (Nat.le_of_ble_eq_true rfl)⟩ ⟨(Nat.le_of_ble_eq_true rfl), (Nat.le_of_ble_eq_true rfl)⟩ (fun v9 w9 h9 => ?_) (fun _ h9 => h9.elim)
    obtain ⟨rfl, rfl⟩ := h9
    refine r_i2l C dL_replace_7 ?_
    refine g_putN hX C hE qu_X3 tyX3 tyX3_ok nmX3 (ci := 7) rfl 38 outo_at 0 (by decide) qn_L_13 rfl rfl (ty := .long) rfl rfl rfl (show 0 < 2 by omega) dL_replace_8 outo_set ?_
    refine r_goto (tgt := 26) C dL_replace_11 (by decide) ?_
    refine r_iconst (v := nI 0) C dL_replace_26 (by decide) ?_
    exact r_iret C hr dL_replace_27 ⟨_, _, _, _, rfl, rfl, h2⟩ (Nat.le_of_ble_eq_true rfl) (Nat.le_of_ble_eq_true rfl)
theorem dL_ofCursor_0 : decode cL_ofCursor 0 = .ok (.aload_n 3, 1) := dqo_45 (kb_of ke_L_ofCursor 0 rfl)
theorem dL_ofCursor_1 : decode cL_ofCursor 1 = .ok (.aload_n 0, 1) := dqo_42 (kb_of ke_L_ofCursor 1 rfl)
theorem dL_ofCursor_2 : decode cL_ofCursor 2 = .ok (.iload_n 1, 1) := dqo_27 (kb_of ke_L_ofCursor 2 rfl)
theorem dL_ofCursor_3 : decode cL_ofCursor 3 = .ok (.iload_n 2, 1) := dqo_28 (kb_of ke_L_ofCursor 3 rfl)
theorem dL_ofCursor_4 : decode cL_ofCursor 4 = .ok (.invokevirtual 164, 3) := dqo_182 0 164 (kb_of ke_L_ofCursor 4 rfl) (kb_of ke_L_ofCursor 5 rfl) (kb_of ke_L_ofCursor 6 rfl)
theorem dL_ofCursor_7 : decode cL_ofCursor 7 = .ok (.i2l, 1) := dqo_133 (kb_of ke_L_ofCursor 7 rfl)
theorem dL_ofCursor_8 : decode cL_ofCursor 8 = .ok (.putfield 13, 3) := dqo_181 0 13 (kb_of ke_L_ofCursor 8 rfl) (kb_of ke_L_ofCursor 9 rfl) (kb_of ke_L_ofCursor 10 rfl)
theorem dL_ofCursor_11 : decode cL_ofCursor 11 = .ok (.goto 11, 3) := dqo_167 0 11 (by decide) (kb_of ke_L_ofCursor 11 rfl) (kb_of ke_L_ofCursor 12 rfl) (kb_of ke_L_ofCursor 13 rfl)
theorem dL_ofCursor_14 : decode cL_ofCursor 14 = .ok (.astore 4, 2) := dqo_58 4 (kb_of ke_L_ofCursor 14 rfl) (kb_of ke_L_ofCursor 15 rfl)
theorem dL_ofCursor_16 : decode cL_ofCursor 16 = .ok (.iconst 1, 1) := dqo_4 (kb_of ke_L_ofCursor 16 rfl)
theorem dL_ofCursor_17 : decode cL_ofCursor 17 = .ok (.ireturn, 1) := dqo_172 (kb_of ke_L_ofCursor 17 rfl)
theorem dL_ofCursor_18 : decode cL_ofCursor 18 = .ok (.astore 4, 2) := dqo_58 4 (kb_of ke_L_ofCursor 18 rfl) (kb_of ke_L_ofCursor 19 rfl)
theorem dL_ofCursor_20 : decode cL_ofCursor 20 = .ok (.iconst 2, 1) := dqo_5 (kb_of ke_L_ofCursor 20 rfl)
theorem dL_ofCursor_21 : decode cL_ofCursor 21 = .ok (.ireturn, 1) := dqo_172 (kb_of ke_L_ofCursor 21 rfl)
theorem dL_ofCursor_22 : decode cL_ofCursor 22 = .ok (.iconst 0, 1) := dqo_3 (kb_of ke_L_ofCursor 22 rfl)
theorem dL_ofCursor_23 : decode cL_ofCursor 23 = .ok (.ireturn, 1) := dqo_172 (kb_of ke_L_ofCursor 23 rfl)
theorem qcw_L_ofCursor : Cond.codeWith yL_ofCursor cL_ofCursor 5 (some .int) [(0, 11, 14, 19), (0, 11, 18, 21)] ∈ GW := gw_5 180 rfl rfl
theorem pk_L_ofCursor : PkH yL_ofCursor cL_ofCursor 5 (some .int) [(0, 11, 14, 19), (0, 11, 18, 21)] 4 := ⟨⟨qt_L_ofCursor, qz_L, qcw_L_ofCursor⟩, mh_L.1, mh_L.2, pd_46⟩
theorem W_ofCursor {l : Launch} {D : va_G} {cy : Nat → ClassId} {X : (Nat → Prop) → State → Heap → Prop} {a : Nat → Nat → Nat} {ba ra : Nat → Nat} {f : Nat → Nat → Nat} {r : Nat → Nat → Int32} {hf : Nat → Nat → Nat} {hq : Nat → Nat → Int32} {kn th : Int32} {sm : Int64} {o : Nat} {n0 : Int64} {s0 : Value} {x0 x1 : Int32} (hX : EnvX X) (hN : EnvN X) (hC : CInv f) (hB : RB r) (hM : MR f r hf hq) (hp : PR l D cy X a ba ra f r hf hq kn th sm yX2_ofCursor cX2_ofCursor 4 (some .int) yX4_ofCursor cX4_ofCursor 3 (some .int) (rmk 9 4 48 420) [.int x0, .int x1] [("java/lang/IndexOutOfBoundsException", 1), ("java/lang/IllegalArgumentException", 2)]) : CmH l D cy X yL_ofCursor cL_ofCursor 5 (some .int) [(0, 11, 14, 19), (0, 11, 18, 21)] (rmk 9 1 6 300) [.ref (a 0 0), .int x0, .int x1, .ref o] (WC cy a f r kn ++ (WM cy ba ra hf hq kn th sm ++ [OUTo o n0 s0])) (fun v1 w1 => ∃ (f' : Nat → Nat → Nat) (r' : Nat → Nat → Int32) (k : Nat) (n1 : Int64), v1 = some (.int (nI k)) ∧ w1 = WC cy a f' r' kn ++ (WM cy ba ra hf hq kn th sm ++ [OUTo o n1 s0]) ∧ PN l D cy X ba ra hf hq kn th sm yX4_ofCursor cX4_ofCursor 3 (some .int) (rmk 9 4 48 420) [.int x0, .int x1] cvI f' r' k n1) (fun _ => False) := by
  refine CmH.of [some (.ref (a 0 0)), some (.int x0), some (.int x1), some (.ref o), none] pn_L rfl (Nat.le_of_ble_eq_true rfl) ?_
  intro p e s m args below meth c A C hE hr hnt
  refine r_aload_n C dL_ofCursor_0 rfl ?_
  refine r_aload_n C dL_ofCursor_1 rfl ?_
  refine r_iload_n C dL_ofCursor_2 rfl ?_
  refine r_iload_n C dL_ofCursor_3 rfl ?_
  rcases hp.two cvI (by simp) hC hB hM with ⟨E, k, hm, h1, h2⟩ | ⟨f', r', n, h1, h2⟩
  · refine c_V (st := [.ref o]) hX.stb C hE (h1 _) pk_X2_ofCursor qm_L_164 0 6 rfl rfl wc_0 rfl rfl (Nat.le_of_ble_eq_true rfl) dL_ofCursor_4 ⟨(Nat.le_of_ble_eq_true rfl), (Nat.le_of_ble_eq_true rfl)⟩ ⟨(Nat.le_of_ble_eq_true rfl), (Nat.le_of_ble_eq_true rfl)⟩ (fun _ _ h9 => h9.elim) (fun E1 hE1 => ?_)
    subst hE1
    simp only [List.mem_cons, List.not_mem_nil, or_false, Prod.mk.injEq] at hm
    rcases hm with ⟨rfl, rfl⟩ | ⟨rfl, rfl⟩
    · refine r_catch (name := "java/lang/IndexOutOfBoundsException") C [] ⟨0, 11, 14, 19⟩ [⟨0, 11, 18, 21⟩] (hnt.trans rfl) (fun z hz => absurd hz List.not_mem_nil) rfl (by decide) (C.2.2.2.2.1 _ qk_L_19) (hX.nw qca_IOB rfl hE) (fun q => ?_)
      refine r_astore C dL_ofCursor_14 (by decide) rfl ?_
      refine r_iconst (v := nI 1) C dL_ofCursor_16 (by decide) ?_
      exact r_iret C hr dL_ofCursor_17 ⟨_, _, _, _, rfl, rfl, h2 _⟩ (Nat.le_of_ble_eq_true rfl) (Nat.le_of_ble_eq_true rfl)
    · refine r_catch (name := "java/lang/IllegalArgumentException") C [⟨0, 11, 14, 19⟩] ⟨0, 11, 18, 21⟩ [] (hnt.trans rfl) (fun z hz => by
        simp only [List.mem_cons, List.not_mem_nil, or_false] at hz
        subst hz
        exact Or.inr ⟨by decide, "java/lang/IndexOutOfBoundsException", C.2.2.2.2.1 _ qk_L_19, hN ("java/lang/IllegalArgumentException", "java/lang/IndexOutOfBoundsException") (by simp [NCL]) _ _ _ hE⟩) rfl (by decide) (C.2.2.2.2.1 _ qk_L_21) (hX.nw qca_IAE rfl hE) (fun q => ?_)
      refine r_astore C dL_ofCursor_18 (by decide) rfl ?_
      refine r_iconst (v := nI 2) C dL_ofCursor_20 (by decide) ?_
      exact r_iret C hr dL_ofCursor_21 ⟨_, _, _, _, rfl, rfl, h2 _⟩ (Nat.le_of_ble_eq_true rfl) (Nat.le_of_ble_eq_true rfl)
  · refine c_V (st := [.ref o]) hX.stb C hE (h1 _) pk_X2_ofCursor qm_L_164 0 6 rfl rfl wc_0 rfl rfl (Nat.le_of_ble_eq_true rfl) dL_ofCursor_4 ⟨(Nat.le_of_ble_eq_true rfl), (Nat.le_of_ble_eq_true rfl)⟩ ⟨(Nat.le_of_ble_eq_true rfl), (Nat.le_of_ble_eq_true rfl)⟩ (fun v9 w9 h9 => ?_) (fun _ h9 => h9.elim)
    obtain ⟨rfl, rfl⟩ := h9
    refine r_i2l C dL_ofCursor_7 ?_
    refine g_putN hX C hE qu_X3 tyX3 tyX3_ok nmX3 (ci := 7) rfl 38 outo_at 0 (by decide) qn_L_13 rfl rfl (ty := .long) rfl rfl rfl (show 0 < 2 by omega) dL_ofCursor_8 outo_set ?_
    refine r_goto (tgt := 22) C dL_ofCursor_11 (by decide) ?_
    refine r_iconst (v := nI 0) C dL_ofCursor_22 (by decide) ?_
    exact r_iret C hr dL_ofCursor_23 ⟨_, _, _, _, rfl, rfl, h2⟩ (Nat.le_of_ble_eq_true rfl) (Nat.le_of_ble_eq_true rfl)
theorem dL_house_0 : decode cL_house 0 = .ok (.aload_n 2, 1) := dqo_44 (kb_of ke_L_house 0 rfl)
theorem dL_house_1 : decode cL_house 1 = .ok (.aload_n 0, 1) := dqo_42 (kb_of ke_L_house 1 rfl)
theorem dL_house_2 : decode cL_house 2 = .ok (.iload_n 1, 1) := dqo_27 (kb_of ke_L_house 2 rfl)
theorem dL_house_3 : decode cL_house 3 = .ok (.invokevirtual 167, 3) := dqo_182 0 167 (kb_of ke_L_house 3 rfl) (kb_of ke_L_house 4 rfl) (kb_of ke_L_house 5 rfl)
theorem dL_house_6 : decode cL_house 6 = .ok (.i2l, 1) := dqo_133 (kb_of ke_L_house 6 rfl)
theorem dL_house_7 : decode cL_house 7 = .ok (.putfield 13, 3) := dqo_181 0 13 (kb_of ke_L_house 7 rfl) (kb_of ke_L_house 8 rfl) (kb_of ke_L_house 9 rfl)
theorem dL_house_10 : decode cL_house 10 = .ok (.goto 6, 3) := dqo_167 0 6 (by decide) (kb_of ke_L_house 10 rfl) (kb_of ke_L_house 11 rfl) (kb_of ke_L_house 12 rfl)
theorem dL_house_13 : decode cL_house 13 = .ok (.astore_n 3, 1) := dqo_78 (kb_of ke_L_house 13 rfl)
theorem dL_house_14 : decode cL_house 14 = .ok (.iconst 1, 1) := dqo_4 (kb_of ke_L_house 14 rfl)
theorem dL_house_15 : decode cL_house 15 = .ok (.ireturn, 1) := dqo_172 (kb_of ke_L_house 15 rfl)
theorem dL_house_16 : decode cL_house 16 = .ok (.iconst 0, 1) := dqo_3 (kb_of ke_L_house 16 rfl)
theorem dL_house_17 : decode cL_house 17 = .ok (.ireturn, 1) := dqo_172 (kb_of ke_L_house 17 rfl)
theorem qcw_L_house : Cond.codeWith yL_house cL_house 4 (some .int) [(0, 10, 13, 21)] ∈ GW := gw_5 184 rfl rfl
theorem pk_L_house : PkH yL_house cL_house 4 (some .int) [(0, 10, 13, 21)] 3 := ⟨⟨qt_L_house, qz_L, qcw_L_house⟩, mh_L.1, mh_L.2, pd_48⟩
theorem W_house {l : Launch} {D : va_G} {cy : Nat → ClassId} {X : (Nat → Prop) → State → Heap → Prop} {a : Nat → Nat → Nat} {ba ra : Nat → Nat} {f : Nat → Nat → Nat} {r : Nat → Nat → Int32} {hf : Nat → Nat → Nat} {hq : Nat → Nat → Int32} {kn th : Int32} {sm : Int64} {o : Nat} {n0 : Int64} {s0 : Value} {x0 : Int32} (hX : EnvX X) (hN : EnvN X) (hC : CInv f) (hB : RB r) (hM : MR f r hf hq) (hp : PR l D cy X a ba ra f r hf hq kn th sm yX2_house cX2_house 2 (some .int) yX4_house cX4_house 2 (some .int) (rmk 9 4 48 420) [.int x0] [("java/lang/IllegalArgumentException", 1)]) : CmH l D cy X yL_house cL_house 4 (some .int) [(0, 10, 13, 21)] (rmk 9 1 6 300) [.ref (a 0 0), .int x0, .ref o] (WC cy a f r kn ++ (WM cy ba ra hf hq kn th sm ++ [OUTo o n0 s0])) (fun v1 w1 => ∃ (f' : Nat → Nat → Nat) (r' : Nat → Nat → Int32) (k : Nat) (n1 : Int64), v1 = some (.int (nI k)) ∧ w1 = WC cy a f' r' kn ++ (WM cy ba ra hf hq kn th sm ++ [OUTo o n1 s0]) ∧ PN l D cy X ba ra hf hq kn th sm yX4_house cX4_house 2 (some .int) (rmk 9 4 48 420) [.int x0] cvI f' r' k n1) (fun _ => False) := by
  refine CmH.of [some (.ref (a 0 0)), some (.int x0), some (.ref o), none] pn_L rfl (Nat.le_of_ble_eq_true rfl) ?_
  intro p e s m args below meth c A C hE hr hnt
  refine r_aload_n C dL_house_0 rfl ?_
  refine r_aload_n C dL_house_1 rfl ?_
  refine r_iload_n C dL_house_2 rfl ?_
  rcases hp.two cvI (by simp) hC hB hM with ⟨E, k, hm, h1, h2⟩ | ⟨f', r', n, h1, h2⟩
  · refine c_V (st := [.ref o]) hX.stb C hE (h1 _) pk_X2_house qm_L_167 0 6 rfl rfl wc_0 rfl rfl (Nat.le_of_ble_eq_true rfl) dL_house_3 ⟨(Nat.le_of_ble_eq_true rfl), (Nat.le_of_ble_eq_true rfl)⟩ ⟨(Nat.le_of_ble_eq_true rfl), (Nat.le_of_ble_eq_true rfl)⟩ (fun _ _ h9 => h9.elim) (fun E1 hE1 => ?_)
    subst hE1
    simp only [List.mem_cons, List.not_mem_nil, or_false, Prod.mk.injEq] at hm
    obtain ⟨rfl, rfl⟩ := hm
    refine r_catch (name := "java/lang/IllegalArgumentException") C [] ⟨0, 10, 13, 21⟩ [] (hnt.trans rfl) (fun z hz => absurd hz List.not_mem_nil) rfl (by decide) (C.2.2.2.2.1 _ qk_L_21) (hX.nw qca_IAE rfl hE) (fun q => ?_)
    refine r_astore_n C dL_house_13 (by decide) rfl ?_
    refine r_iconst (v := nI 1) C dL_house_14 (by decide) ?_
    exact r_iret C hr dL_house_15 ⟨_, _, _, _, rfl, rfl, h2 _⟩ (Nat.le_of_ble_eq_true rfl) (Nat.le_of_ble_eq_true rfl)
  · refine c_V (st := [.ref o]) hX.stb C hE (h1 _) pk_X2_house qm_L_167 0 6 rfl rfl wc_0 rfl rfl (Nat.le_of_ble_eq_true rfl) dL_house_3 ⟨(Nat.le_of_ble_eq_true rfl), (Nat.le_of_ble_eq_true rfl)⟩ ⟨(Nat.le_of_ble_eq_true rfl), (Nat.le_of_ble_eq_true rfl)⟩ (fun v9 w9 h9 => ?_) (fun _ h9 => h9.elim)
    obtain ⟨rfl, rfl⟩ := h9
    refine r_i2l C dL_house_6 ?_
    refine g_putN hX C hE qu_X3 tyX3 tyX3_ok nmX3 (ci := 7) rfl 38 outo_at 0 (by decide) qn_L_13 rfl rfl (ty := .long) rfl rfl rfl (show 0 < 2 by omega) dL_house_7 outo_set ?_
    refine r_goto (tgt := 16) C dL_house_10 (by decide) ?_
    refine r_iconst (v := nI 0) C dL_house_16 (by decide) ?_
    exact r_iret C hr dL_house_17 ⟨_, _, _, _, rfl, rfl, h2⟩ (Nat.le_of_ble_eq_true rfl) (Nat.le_of_ble_eq_true rfl)
end PT_82
/-! ===== 83.wtext -/
section PT_83
/-! TEXT'S WRAPPER -/
theorem dL_text_0 : decode cL_text 0 = .ok (.aload_n 2, 1) := dqo_44 (kb_of ke_L_text 0 rfl)
theorem dL_text_1 : decode cL_text 1 = .ok (.aload_n 0, 1) := dqo_42 (kb_of ke_L_text 1 rfl)
theorem dL_text_2 : decode cL_text 2 = .ok (.iload_n 1, 1) := dqo_27 (kb_of ke_L_text 2 rfl)
theorem dL_text_3 : decode cL_text 3 = .ok (.invokevirtual 123, 3) := dqo_182 0 123 (kb_of ke_L_text 3 rfl) (kb_of ke_L_text 4 rfl) (kb_of ke_L_text 5 rfl)
theorem dL_text_6 : decode cL_text 6 = .ok (.putfield 127, 3) := dqo_181 0 127 (kb_of ke_L_text 6 rfl) (kb_of ke_L_text 7 rfl) (kb_of ke_L_text 8 rfl)
theorem dL_text_9 : decode cL_text 9 = .ok (.goto 6, 3) := dqo_167 0 6 (by decide) (kb_of ke_L_text 9 rfl) (kb_of ke_L_text 10 rfl) (kb_of ke_L_text 11 rfl)
theorem dL_text_12 : decode cL_text 12 = .ok (.astore_n 3, 1) := dqo_78 (kb_of ke_L_text 12 rfl)
theorem dL_text_13 : decode cL_text 13 = .ok (.iconst 1, 1) := dqo_4 (kb_of ke_L_text 13 rfl)
theorem dL_text_14 : decode cL_text 14 = .ok (.ireturn, 1) := dqo_172 (kb_of ke_L_text 14 rfl)
theorem dL_text_15 : decode cL_text 15 = .ok (.iconst 0, 1) := dqo_3 (kb_of ke_L_text 15 rfl)
theorem dL_text_16 : decode cL_text 16 = .ok (.ireturn, 1) := dqo_172 (kb_of ke_L_text 16 rfl)
theorem qcw_L_text : Cond.codeWith yL_text cL_text 4 (some .int) [(0, 9, 12, 19)] ∈ GW := gw_5 66 rfl rfl
theorem pk_L_text : PkH yL_text cL_text 4 (some .int) [(0, 9, 12, 19)] 3 := ⟨⟨qt_L_text, qz_L, qcw_L_text⟩, mh_L.1, mh_L.2, pd_48⟩
section LCE
variable {p : Program} {l : Launch} {e : Env} {R : Room} {s : State} {m : MethodId} {args : Array Value} {below : List Frame} {meth : Method} {c : Code} {D : va_G} {cy : Nat → ClassId} {A : Nat → Prop} {Q : State → Prop} {nL cells slots : Nat} {w : va_W} {lv : List (Option Value)} {pc : Nat} {st : List Value} {cc : ByteArray} {own : String}
theorem r_lcmpE (C : Fg p s m args meth c cc nL own D cy A) {x : Int64} (d : decode cc pc = .ok (.lcmp, 1)) (kk : vW p l e R s m args below meth c D vwCl A Q nL cells slots w lv (pc + 1) (.int 0 :: st)) : vW p l e R s m args below meth c D vwCl A Q nL cells slots w lv pc (.long x :: .long x :: st) := fun H locs ls hP hD hS hl =>
  W.lcmp C.1 C.2.1 d (by
    rw [show lg_cmp x x = 0 by simp [lg_cmp]]
    exact kk H locs ls hP hD hS hl)
end LCE
theorem dX4_thrown_0 : decode cX4_thrown 0 = .ok (.aload_n 0, 1) := dqo_42 (kb_of ke_X4_thrown 0 rfl)
theorem dX4_thrown_1 : decode cX4_thrown 1 = .ok (.getfield 44, 3) := dqo_180 0 44 (kb_of ke_X4_thrown 1 rfl) (kb_of ke_X4_thrown 2 rfl) (kb_of ke_X4_thrown 3 rfl)
theorem dX4_thrown_4 : decode cX4_thrown 4 = .ok (.ireturn, 1) := dqo_172 (kb_of ke_X4_thrown 4 rfl)
theorem D_thrown {l : Launch} {D : va_G} {cy : Nat → ClassId} {X : (Nat → Prop) → State → Heap → Prop} {ba ra : Nat → Nat} {hf : Nat → Nat → Nat} {hq : Nat → Nat → Int32} {kn th : Int32} {sm : Int64} {Y : va_W} (hX : EnvM X cy) : Cd l D cy X yX4_thrown cX4_thrown 1 (some .int) (rmz 0 0) [.ref (ba 9)] (WM cy ba ra hf hq kn th sm ++ Y) (some (.int th)) (WM cy ba ra hf hq kn th sm ++ Y) := by
  refine Cm.of [some (.ref (ba 9))] pn_X4 rfl (Nat.le_of_ble_eq_true rfl) ?_
  intro p e s m args below meth c A C hE hr hnt hn
  refine r_aload_n C dX4_thrown_0 rfl ?_
  refine m_get (v := .int th) C 10 (by decide) qf_X4_44 rfl rfl dX4_thrown_1 ?_
  exact r_iret C hr dX4_thrown_4 ⟨rfl, rfl⟩ (Nat.le_of_ble_eq_true rfl) (Nat.le_of_ble_eq_true rfl)
theorem pk_X2_digest : PkV RX2 yX2_digest cX2_digest 5 (some .long) 0 := ⟨⟨qi_X2_digest, qs_X2_digest, qz_X2, qc_X2_digest⟩, rfl, mh_X2.1, mh_X2.2, pd_53⟩
theorem pk_X2_knock : PkV RX2 yX2_knock cX2_knock 1 (some .int) 0 := ⟨⟨qi_X2_knock, qs_X2_knock, qz_X2, qc_X2_knock⟩, rfl, mh_X2.1, mh_X2.2, pd_10⟩
theorem pk_X2_text : PkV RX2 yX2_text cX2_text 3 (some (.object "java/lang/String")) 1 := ⟨⟨qi_X2_text, qs_X2_text, qz_X2, qc_X2_text⟩, rfl, mh_X2.1, mh_X2.2, pd_44⟩
theorem pk_X4_add : PkV RX4 yX4_add cX4_add 3 (some .int) 2 := ⟨⟨qi_X4_add, qs_X4_add, qz_X4, qc_X4_add⟩, rfl, mh_X4.1, mh_X4.2, pd_0⟩
theorem pk_X4_addAll : PkV RX4 yX4_addAll cX4_addAll 5 (some .int) 3 := ⟨⟨qi_X4_addAll, qs_X4_addAll, qz_X4, qc_X4_addAll⟩, rfl, mh_X4.1, mh_X4.2, pd_28⟩
theorem pk_X4_areApart : PkV RX4 yX4_areApart cX4_areApart 8 (some .boolean) 2 := ⟨⟨qi_X4_areApart, qs_X4_areApart, qz_X4, qc_X4_areApart⟩, rfl, mh_X4.1, mh_X4.2, pd_5⟩
theorem pk_X4_areSame : PkV RX4 yX4_areSame cX4_areSame 3 (some .boolean) 2 := ⟨⟨qi_X4_areSame, qs_X4_areSame, qz_X4, qc_X4_areSame⟩, rfl, mh_X4.1, mh_X4.2, pd_5⟩
theorem pk_X4_clear : PkV RX4 yX4_clear cX4_clear 3 (some .int) 1 := ⟨⟨qi_X4_clear, qs_X4_clear, qz_X4, qc_X4_clear⟩, rfl, mh_X4.1, mh_X4.2, pd_1⟩
theorem pk_X4_close : PkV RX4 yX4_close cX4_close 2 (some .int) 1 := ⟨⟨qi_X4_close, qs_X4_close, qz_X4, qc_X4_close⟩, rfl, mh_X4.1, mh_X4.2, pd_1⟩
theorem pk_X4_contains : PkV RX4 yX4_contains cX4_contains 3 (some .boolean) 2 := ⟨⟨qi_X4_contains, qs_X4_contains, qz_X4, qc_X4_contains⟩, rfl, mh_X4.1, mh_X4.2, pd_5⟩
theorem pk_X4_copy : PkV RX4 yX4_copy cX4_copy 3 (some .int) 2 := ⟨⟨qi_X4_copy, qs_X4_copy, qz_X4, qc_X4_copy⟩, rfl, mh_X4.1, mh_X4.2, pd_0⟩
theorem pk_X4_digest : PkV RX4 yX4_digest cX4_digest 6 (some .long) 0 := ⟨⟨qi_X4_digest, qs_X4_digest, qz_X4, qc_X4_digest⟩, rfl, mh_X4.1, mh_X4.2, pd_53⟩
theorem pk_X4_fill : PkV RX4 yX4_fill cX4_fill 4 (some .int) 2 := ⟨⟨qi_X4_fill, qs_X4_fill, qz_X4, qc_X4_fill⟩, rfl, mh_X4.1, mh_X4.2, pd_0⟩
theorem pk_X4_get : PkV RX4 yX4_get cX4_get 3 (some .int) 2 := ⟨⟨qi_X4_get, qs_X4_get, qz_X4, qc_X4_get⟩, rfl, mh_X4.1, mh_X4.2, pd_0⟩
theorem pk_X4_hash : PkV RX4 yX4_hash cX4_hash 2 (some .int) 1 := ⟨⟨qi_X4_hash, qs_X4_hash, qz_X4, qc_X4_hash⟩, rfl, mh_X4.1, mh_X4.2, pd_1⟩
theorem pk_X4_house : PkV RX4 yX4_house cX4_house 2 (some .int) 1 := ⟨⟨qi_X4_house, qs_X4_house, qz_X4, qc_X4_house⟩, rfl, mh_X4.1, mh_X4.2, pd_1⟩
theorem pk_X4_howOften : PkV RX4 yX4_howOften cX4_howOften 8 (some .int) 2 := ⟨⟨qi_X4_howOften, qs_X4_howOften, qz_X4, qc_X4_howOften⟩, rfl, mh_X4.1, mh_X4.2, pd_0⟩
theorem pk_X4_inArray : PkV RX4 yX4_inArray cX4_inArray 3 (some .int) 2 := ⟨⟨qi_X4_inArray, qs_X4_inArray, qz_X4, qc_X4_inArray⟩, rfl, mh_X4.1, mh_X4.2, pd_0⟩
theorem pk_X4_indexOf : PkV RX4 yX4_indexOf cX4_indexOf 3 (some .int) 2 := ⟨⟨qi_X4_indexOf, qs_X4_indexOf, qz_X4, qc_X4_indexOf⟩, rfl, mh_X4.1, mh_X4.2, pd_0⟩
theorem pk_X4_insert : PkV RX4 yX4_insert cX4_insert 4 (some .int) 3 := ⟨⟨qi_X4_insert, qs_X4_insert, qz_X4, qc_X4_insert⟩, rfl, mh_X4.1, mh_X4.2, pd_28⟩
theorem pk_X4_isSound : PkV RX4 yX4_isSound cX4_isSound 1 (some .boolean) 0 := ⟨⟨qi_X4_isSound, qs_X4_isSound, qz_X4, qc_X4_isSound⟩, rfl, mh_X4.1, mh_X4.2, pd_27⟩
theorem pk_X4_knock : PkV RX4 yX4_knock cX4_knock 1 (some .int) 0 := ⟨⟨qi_X4_knock, qs_X4_knock, qz_X4, qc_X4_knock⟩, rfl, mh_X4.1, mh_X4.2, pd_10⟩
theorem pk_X4_lastIndexOf : PkV RX4 yX4_lastIndexOf cX4_lastIndexOf 3 (some .int) 2 := ⟨⟨qi_X4_lastIndexOf, qs_X4_lastIndexOf, qz_X4, qc_X4_lastIndexOf⟩, rfl, mh_X4.1, mh_X4.2, pd_0⟩
theorem pk_X4_least : PkV RX4 yX4_least cX4_least 8 (some .int) 2 := ⟨⟨qi_X4_least, qs_X4_least, qz_X4, qc_X4_least⟩, rfl, mh_X4.1, mh_X4.2, pd_52⟩
theorem pk_X4_next : PkV RX4 yX4_next cX4_next 2 (some .int) 1 := ⟨⟨qi_X4_next, qs_X4_next, qz_X4, qc_X4_next⟩, rfl, mh_X4.1, mh_X4.2, pd_1⟩
theorem pk_X4_ofCursor : PkV RX4 yX4_ofCursor cX4_ofCursor 3 (some .int) 2 := ⟨⟨qi_X4_ofCursor, qs_X4_ofCursor, qz_X4, qc_X4_ofCursor⟩, rfl, mh_X4.1, mh_X4.2, pd_0⟩
theorem pk_X4_ofWindow : PkV RX4 yX4_ofWindow cX4_ofWindow 3 (some .int) 2 := ⟨⟨qi_X4_ofWindow, qs_X4_ofWindow, qz_X4, qc_X4_ofWindow⟩, rfl, mh_X4.1, mh_X4.2, pd_0⟩
theorem pk_X4_open : PkV RX4 yX4_open cX4_open 4 (some .int) 3 := ⟨⟨qi_X4_open, qs_X4_open, qz_X4, qc_X4_open⟩, rfl, mh_X4.1, mh_X4.2, pd_28⟩
theorem pk_X4_partAt : PkV RX4 yX4_partAt cX4_partAt 3 (some .int) 2 := ⟨⟨qi_X4_partAt, qs_X4_partAt, qz_X4, qc_X4_partAt⟩, rfl, mh_X4.1, mh_X4.2, pd_0⟩
theorem pk_X4_places : PkV RX4 yX4_places cX4_places 5 (some .int) 2 := ⟨⟨qi_X4_places, qs_X4_places, qz_X4, qc_X4_places⟩, rfl, mh_X4.1, mh_X4.2, pd_0⟩
theorem pk_X4_previous : PkV RX4 yX4_previous cX4_previous 2 (some .int) 1 := ⟨⟨qi_X4_previous, qs_X4_previous, qz_X4, qc_X4_previous⟩, rfl, mh_X4.1, mh_X4.2, pd_1⟩
theorem pk_X4_put_ : PkV RX4 yX4_put_ cX4_put_ 3 (some .int) 2 := ⟨⟨qi_X4_put_, qs_X4_put_, qz_X4, qc_X4_put_⟩, rfl, mh_X4.1, mh_X4.2, pd_0⟩
theorem pk_X4_remove : PkV RX4 yX4_remove cX4_remove 4 (some .int) 2 := ⟨⟨qi_X4_remove, qs_X4_remove, qz_X4, qc_X4_remove⟩, rfl, mh_X4.1, mh_X4.2, pd_0⟩
theorem pk_X4_removeAll : PkV RX4 yX4_removeAll cX4_removeAll 3 (some .int) 2 := ⟨⟨qi_X4_removeAll, qs_X4_removeAll, qz_X4, qc_X4_removeAll⟩, rfl, mh_X4.1, mh_X4.2, pd_0⟩
theorem pk_X4_removeItem : PkV RX4 yX4_removeItem cX4_removeItem 4 (some .int) 2 := ⟨⟨qi_X4_removeItem, qs_X4_removeItem, qz_X4, qc_X4_removeItem⟩, rfl, mh_X4.1, mh_X4.2, pd_0⟩
theorem pk_X4_replace : PkV RX4 yX4_replace cX4_replace 3 (some .int) 2 := ⟨⟨qi_X4_replace, qs_X4_replace, qz_X4, qc_X4_replace⟩, rfl, mh_X4.1, mh_X4.2, pd_0⟩
theorem pk_X4_retainAll : PkV RX4 yX4_retainAll cX4_retainAll 3 (some .int) 2 := ⟨⟨qi_X4_retainAll, qs_X4_retainAll, qz_X4, qc_X4_retainAll⟩, rfl, mh_X4.1, mh_X4.2, pd_0⟩
theorem pk_X4_reverse : PkV RX4 yX4_reverse cX4_reverse 2 (some .int) 1 := ⟨⟨qi_X4_reverse, qs_X4_reverse, qz_X4, qc_X4_reverse⟩, rfl, mh_X4.1, mh_X4.2, pd_1⟩
theorem pk_X4_riffle : PkV RX4 yX4_riffle cX4_riffle 5 (some .int) 1 := ⟨⟨qi_X4_riffle, qs_X4_riffle, qz_X4, qc_X4_riffle⟩, rfl, mh_X4.1, mh_X4.2, pd_1⟩
theorem pk_X4_rotate : PkV RX4 yX4_rotate cX4_rotate 6 (some .int) 2 := ⟨⟨qi_X4_rotate, qs_X4_rotate, qz_X4, qc_X4_rotate⟩, rfl, mh_X4.1, mh_X4.2, pd_0⟩
theorem pk_X4_set : PkV RX4 yX4_set cX4_set 5 (some .int) 3 := ⟨⟨qi_X4_set, qs_X4_set, qz_X4, qc_X4_set⟩, rfl, mh_X4.1, mh_X4.2, pd_28⟩
theorem pk_X4_shut : PkV RX4 yX4_shut cX4_shut 3 (some .int) 1 := ⟨⟨qi_X4_shut, qs_X4_shut, qz_X4, qc_X4_shut⟩, rfl, mh_X4.1, mh_X4.2, pd_1⟩
theorem pk_X4_size : PkV RX4 yX4_size cX4_size 2 (some .int) 1 := ⟨⟨qi_X4_size, qs_X4_size, qz_X4, qc_X4_size⟩, rfl, mh_X4.1, mh_X4.2, pd_1⟩
theorem pk_X4_sort : PkV RX4 yX4_sort cX4_sort 2 (some .int) 1 := ⟨⟨qi_X4_sort, qs_X4_sort, qz_X4, qc_X4_sort⟩, rfl, mh_X4.1, mh_X4.2, pd_1⟩
theorem pk_X4_sortBy : PkV RX4 yX4_sortBy cX4_sortBy 3 (some .int) 2 := ⟨⟨qi_X4_sortBy, qs_X4_sortBy, qz_X4, qc_X4_sortBy⟩, rfl, mh_X4.1, mh_X4.2, pd_0⟩
theorem pk_X4_splice : PkV RX4 yX4_splice cX4_splice 6 (some .int) 4 := ⟨⟨qi_X4_splice, qs_X4_splice, qz_X4, qc_X4_splice⟩, rfl, mh_X4.1, mh_X4.2, pd_50⟩
theorem pk_X4_swap : PkV RX4 yX4_swap cX4_swap 6 (some .int) 3 := ⟨⟨qi_X4_swap, qs_X4_swap, qz_X4, qc_X4_swap⟩, rfl, mh_X4.1, mh_X4.2, pd_28⟩
theorem pk_X4_take : PkV RX4 yX4_take cX4_take 2 (some .int) 1 := ⟨⟨qi_X4_take, qs_X4_take, qz_X4, qc_X4_take⟩, rfl, mh_X4.1, mh_X4.2, pd_1⟩
theorem pk_X4_text : PkV RX4 yX4_text cX4_text 2 (some (.object "java/lang/String")) 1 := ⟨⟨qi_X4_text, qs_X4_text, qz_X4, qc_X4_text⟩, rfl, mh_X4.1, mh_X4.2, pd_44⟩
theorem pk_X4_through : PkV RX4 yX4_through cX4_through 7 (some .int) 3 := ⟨⟨qi_X4_through, qs_X4_through, qz_X4, qc_X4_through⟩, rfl, mh_X4.1, mh_X4.2, pd_28⟩
theorem pk_X4_thrown : PkV RX4 yX4_thrown cX4_thrown 1 (some .int) 0 := ⟨⟨qi_X4_thrown, qs_X4_thrown, qz_X4, qc_X4_thrown⟩, rfl, mh_X4.1, mh_X4.2, pd_10⟩
theorem pk_X4_unriffle : PkV RX4 yX4_unriffle cX4_unriffle 5 (some .int) 1 := ⟨⟨qi_X4_unriffle, qs_X4_unriffle, qz_X4, qc_X4_unriffle⟩, rfl, mh_X4.1, mh_X4.2, pd_1⟩
theorem pk_X4_window : PkV RX4 yX4_window cX4_window 6 (some .int) 4 := ⟨⟨qi_X4_window, qs_X4_window, qz_X4, qc_X4_window⟩, rfl, mh_X4.1, mh_X4.2, pd_50⟩
theorem W_text {l : Launch} {D : va_G} {cy : Nat → ClassId} {X : (Nat → Prop) → State → Heap → Prop} {aK aV : Nat → Nat} {tO tT : Nat} {gO gT : Nat → Int32} {a : Nat → Nat → Nat} {ba ra : Nat → Nat} {f : Nat → Nat → Nat} {r : Nat → Nat → Int32} {hf : Nat → Nat → Nat} {hq : Nat → Nat → Int32} {kn th : Int32} {sm : Int64} {o : Nat} {n0 : Int64} {s0 : Value} {x0 : Int32} (hX : EnvS X cy aK aV tO tT gO gT) (hl : l.stackTraces = false) (hC : CInv f) (hB : RB r) (hM : MR f r hf hq) : CmH l D cy X yL_text cL_text 4 (some .int) [(0, 9, 12, 19)] (rmk 9 6 204 600) [.ref (a 0 0), .int x0, .ref o] (WC cy a f r kn ++ (WM cy ba ra hf hq kn th sm ++ [OUTo o n0 s0])) (fun v1 w1 => ∃ (k : Nat) (s1 : Value), v1 = some (.int (nI k)) ∧ w1 = WC cy a f r kn ++ (WM cy ba ra hf hq kn th sm ++ [OUTo o n0 s1])) (fun _ => False) := by
  refine CmH.of [some (.ref (a 0 0)), some (.int x0), some (.ref o), none] pn_L rfl (Nat.le_of_ble_eq_true rfl) ?_
  intro p e s m args below meth c A C hE hr hnt
  refine r_aload_n C dL_text_0 rfl ?_
  refine r_aload_n C dL_text_1 rfl ?_
  refine r_iload_n C dL_text_2 rfl ?_
  rcases n_dec (n := 4) (by omega) x0 with hno | ⟨j, hj4, rfl⟩
  · refine c_V (st := [.ref o]) hX.1.1.stb C hE (C_text_noR hX.1.1 hl hC hno) pk_X2_text qm_L_123 0 6 rfl rfl wc_0 rfl rfl (Nat.le_of_ble_eq_true rfl) dL_text_3 ⟨(Nat.le_of_ble_eq_true rfl), (Nat.le_of_ble_eq_true rfl)⟩ ⟨(Nat.le_of_ble_eq_true rfl), (Nat.le_of_ble_eq_true rfl)⟩ (fun _ _ h9 => h9.elim) (fun E1 hE1 => ?_)
    subst hE1
    refine r_catch (name := "java/lang/IndexOutOfBoundsException") C [] ⟨0, 9, 12, 19⟩ [] (hnt.trans rfl) (fun z hz => absurd hz List.not_mem_nil) rfl (by decide) (C.2.2.2.2.1 _ qk_L_19) (hX.1.1.nw qca_IOB rfl hE) (fun q => ?_)
    refine r_astore_n C dL_text_12 (by decide) rfl ?_
    refine r_iconst (v := nI 1) C dL_text_13 (by decide) ?_
    exact r_iret C hr dL_text_14 ⟨_, _, rfl, rfl⟩ (Nat.le_of_ble_eq_true rfl) (Nat.le_of_ble_eq_true rfl)
  · have q := hC.rw hj4
    refine c_V (st := [.ref o]) hX.1.1.stb C hE (C_text_ok hX hC hj4 (fun q hq => hB _ _)) pk_X2_text qm_L_123 0 6 rfl rfl wc_0 rfl rfl (Nat.le_of_ble_eq_true rfl) dL_text_3 ⟨(Nat.le_of_ble_eq_true rfl), (Nat.le_of_ble_eq_true rfl)⟩ ⟨(Nat.le_of_ble_eq_true rfl), (Nat.le_of_ble_eq_true rfl)⟩ (fun v9 w9 h9 => ?_) (fun _ h9 => h9.elim)
    obtain ⟨a9, rfl, rfl⟩ := h9
    refine g_putN hX.1.1 C hE qu_X3 tyX3 tyX3_ok nmX3 (ci := 7) rfl 38 outo_at 1 (by decide) qn_L_127 rfl rfl (ty := .object "java/lang/String") rfl rfl rfl (show 1 < 2 by omega) dL_text_6 outo_set ?_
    refine r_goto (tgt := 15) C dL_text_9 (by decide) ?_
    refine r_iconst (v := nI 0) C dL_text_15 (by decide) ?_
    exact r_iret C hr dL_text_16 ⟨_, _, rfl, rfl⟩ (Nat.le_of_ble_eq_true rfl) (Nat.le_of_ble_eq_true rfl)
theorem D_text_all {l : Launch} {D : va_G} {cy : Nat → ClassId} {X : (Nat → Prop) → State → Heap → Prop} {aK aV : Nat → Nat} {tO tT : Nat} {gO gT : Nat → Int32} {ba ra : Nat → Nat} {f : Nat → Nat → Nat} {r : Nat → Nat → Int32} {hf : Nat → Nat → Nat} {hq : Nat → Nat → Int32} {kn th : Int32} {sm : Int64} {E : va_W} (hX : EnvS X cy aK aV tO tT gO gT) (hC : CInv f) (hB : RB r) (hM : MR f r hf hq) (x0 : Int32) : Cm l D cy X yX4_text cX4_text 2 (some (.object "java/lang/String")) (rmk 7 100 2200 400) [.ref (ba 9), .int x0] (WM cy ba ra hf hq kn th sm ++ E) (fun v1 w1 => ∃ a9 k : Nat, v1 = some (.ref a9) ∧ w1 = WM cy ba ra hf hq kn (nI k) sm ++ E) (fun _ => False) := by
  rcases n_dec (n := 4) (by omega) x0 with hno | ⟨j, hj4, rfl⟩
  · exact (D_text_noR hX hno).imp (fun v w1 h => ⟨_, 1, h.1, h.2⟩)
  · have q := hC.rw hj4
    have e := hM.h4 hj4
    exact (D_text_ok hX hj4 (by omega) (hM.hb hC hB)).imp (fun v w1 h => by
      obtain ⟨a9, h1, h2⟩ := h
      exact ⟨a9, 0, h1, h2⟩)
end PT_83
