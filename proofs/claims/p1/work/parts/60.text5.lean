/-! TEXTS: a builder made, its text -/
theorem i_pos {x : Int32} (h : 0 ≤ x.toInt) (h2 : x.toInt ≤ 99) : x = nI x.toInt.toNat := by
  apply Int32.toInt_inj.mp
  rw [nI_toInt (by omega)]
  omega
theorem i_neg {x : Int32} (h : x.toInt < 0) (h2 : -99 ≤ x.toInt) : x = -(nI x.toInt.natAbs) := by
  apply Int32.toInt_inj.mp
  rw [nk_toInt (by omega)]
  omega
theorem C_asbInt {l : Launch} {D : va_G} {cy : Nat → ClassId} {X : (Nat → Prop) → State → Heap → Prop} {aK aV : Nat → Nat} {tO tT : Nat} {gO gT : Nat → Int32} {U E : va_W} {b : Nat} {v : Nat} {m : Nat} {n : Nat} {g : Nat → Int32} {ml : Int32} {tl : List Int32} {x : Int32} (hX : EnvS X cy aK aV tO tT gO gT) (hm : m ≤ 65536) (hnm : n ≤ m) (hf : TXT g n tl) (hib : -99 ≤ x.toInt ∧ x.toInt ≤ 99) : Cm l D cy X yJ5_append_c97b9 cJ5_append_c97b9 4 (some (.object "java/lang/AbstractStringBuilder")) (rmk 4 (gC (n + sz9 x) m) (gS (n + sz9 x) m) 160) [.ref b, .int x] (U ++ (SBO b v ml n :: BYO cy v m g :: E)) (fun v1 w1 => ∃ v9 : Nat, ∃ g9 : Nat → Int32, (TXT g9 (n + sz9 x) (tl ++ dgl gO gT x)) ∧ v1 = some (.ref b) ∧ w1 = U ++ (SBO b v9 ml (n + sz9 x) :: BYO cy v9 (sb_cap (n + sz9 x) m) g9 :: E)) (fun _ => False) := by
  by_cases h0 : x.toInt < 0
  · by_cases h1 : x.toInt.natAbs < 10
    · have e : sz9 x = 2 := by simp only [sz9, if_pos h0, if_pos h1]
      rw [e, dgl, if_pos h0, if_pos h1]
      exact C_asbInt_n1 hX hm hnm hf (i_neg h0 hib.1) (by omega) h1
    · have e : sz9 x = 3 := by simp only [sz9, if_pos h0, if_neg h1]
      rw [e, dgl, if_pos h0, if_neg h1]
      exact C_asbInt_n2 hX hm hnm hf (i_neg h0 hib.1) (by omega) (by omega)
  · by_cases h1 : x.toInt.natAbs < 10
    · have e : sz9 x = 1 := by simp only [sz9, if_neg h0, if_pos h1]
      rw [e, dgl, if_neg h0, if_pos h1]
      exact C_asbInt_p1 hX hm hnm hf (i_pos (by omega) hib.2) (by omega)
    · have e : sz9 x = 2 := by simp only [sz9, if_neg h0, if_neg h1]
      rw [e, dgl, if_neg h0, if_neg h1]
      exact C_asbInt_p2 hX hm hnm hf (i_pos (by omega) hib.2) (by omega) (by omega)
theorem sz9_le (x : Int32) : sz9 x ≤ 3 := by
  unfold sz9
  split <;> split <;> omega
theorem sz9_pos (x : Int32) : 1 ≤ sz9 x := by
  unfold sz9
  split <;> split <;> omega
theorem dJ4_append_bf812_0 : decode cJ4_append_bf812 0 = .ok (.aload_n 0, 1) := dqo_42 (kb_of ke_J4_append_bf812 0 rfl)
theorem dJ4_append_bf812_1 : decode cJ4_append_bf812 1 = .ok (.iload_n 1, 1) := dqo_27 (kb_of ke_J4_append_bf812 1 rfl)
theorem dJ4_append_bf812_2 : decode cJ4_append_bf812 2 = .ok (.invokespecial 53, 3) := dqo_183 0 53 (kb_of ke_J4_append_bf812 2 rfl) (kb_of ke_J4_append_bf812 3 rfl) (kb_of ke_J4_append_bf812 4 rfl)
theorem dJ4_append_bf812_5 : decode cJ4_append_bf812 5 = .ok (.pop, 1) := dqo_87 (kb_of ke_J4_append_bf812 5 rfl)
theorem dJ4_append_bf812_6 : decode cJ4_append_bf812 6 = .ok (.aload_n 0, 1) := dqo_42 (kb_of ke_J4_append_bf812 6 rfl)
theorem dJ4_append_bf812_7 : decode cJ4_append_bf812 7 = .ok (.areturn, 1) := dqo_176 (kb_of ke_J4_append_bf812 7 rfl)
theorem pkS_J5_append_c97b9 : PkSU yJ5_append_c97b9 cJ5_append_c97b9 4 (some (.object "java/lang/AbstractStringBuilder")) 1 := ⟨⟨qe_J5_append_c97b9, qi_J5_append_c97b9, qc_J5_append_c97b9⟩, by decide +kernel⟩
set_option maxRecDepth 100000 in
set_option maxHeartbeats 400000 in
theorem C_sbInt {l : Launch} {D : va_G} {cy : Nat → ClassId} {X : (Nat → Prop) → State → Heap → Prop} {aK aV : Nat → Nat} {tO tT : Nat} {gO gT : Nat → Int32} {U E : va_W} {b : Nat} {v : Nat} {m : Nat} {n : Nat} {g : Nat → Int32} {ml : Int32} {tl : List Int32} {x : Int32} (hX : EnvS X cy aK aV tO tT gO gT) (hm : m ≤ 65536) (hnm : n ≤ m) (hf : TXT g n tl) (hib : -99 ≤ x.toInt ∧ x.toInt ≤ 99) : Cm l D cy X yJ4_append_bf812 cJ4_append_bf812 2 (some (.object "java/lang/StringBuilder")) (rmk 5 (gC (n + sz9 x) m) (gS (n + sz9 x) m) 200) [.ref b, .int x] (U ++ (SBO b v ml n :: BYO cy v m g :: E)) (fun v1 w1 => ∃ v9 : Nat, ∃ g9 : Nat → Int32, (TXT g9 (n + sz9 x) (tl ++ dgl gO gT x)) ∧ v1 = some (.ref b) ∧ w1 = U ++ (SBO b v9 ml (n + sz9 x) :: BYO cy v9 (sb_cap (n + sz9 x) m) g9 :: E)) (fun _ => False) := by
  refine Cm.ofF [some (.ref b), some (.int x)] (plainFor_of_name pn_J4) rfl (Nat.le_of_ble_eq_true rfl) ?_
  intro p e s mI args below meth c A C hE hr hnt hn
  refine r_aload_n C dJ4_append_bf812_0 rfl ?_
  refine r_iload_n C dJ4_append_bf812_1 rfl ?_
  refine c_SU (st := []) hX C hE (C_asbInt (U := U) (E := E) (b := b) (v := v) (m := m) (n := n) (g := g) (ml := ml) (x := x) hX (by first | omega | (simp [up2, *]; done) | (simp [up2, *]; omega) | (simp only [up2_eq]; omega) | (split <;> omega)) (by first | omega | (simp [up2, *]; done) | (simp [up2, *]; omega) | (simp only [up2_eq]; omega) | (split <;> omega)) hf hib) pkS_J5_append_c97b9 qm_J4_53 (U.length + 0) (us_g rfl) rfl rfl (Nat.le_of_ble_eq_true rfl) dJ4_append_bf812_2 ⟨Nat.le_of_ble_eq_true rfl, Nat.le_of_ble_eq_true rfl⟩ ⟨by first | (simp only [rmk, rmz]; omega) | (simp only [rmk, rmz]; done) | omega, by first | (simp only [rmk, rmz]; omega) | (simp only [rmk, rmz]; done) | omega⟩ (fun v9 w9 h9 => ?_) (fun _ h9 => h9.elim)
  obtain ⟨v9_1, g9_2, f_3, rfl, rfl⟩ := h9
  refine r_pop C dJ4_append_bf812_5 rfl ?_
  refine r_aload_n C dJ4_append_bf812_6 rfl ?_
  exact r_aret C hr (Or.inl ⟨_, rfl⟩) dJ4_append_bf812_7 ⟨v9_1, g9_2, f_3, rfl, rfl⟩ (by first | (simp only [rmk, rmz]; omega) | (simp only [rmk, rmz]; done) | omega) (by first | (simp only [rmk, rmz]; omega) | (simp only [rmk, rmz]; done) | omega)
theorem dJ5_init_d00df_0 : decode cJ5_init_d00df 0 = .ok (.aload_n 0, 1) := dqo_42 (kb_of ke_J5_init_d00df 0 rfl)
theorem dJ5_init_d00df_1 : decode cJ5_init_d00df 1 = .ok (.invokespecial 3, 3) := dqo_183 0 3 (kb_of ke_J5_init_d00df 1 rfl) (kb_of ke_J5_init_d00df 2 rfl) (kb_of ke_J5_init_d00df 3 rfl)
theorem dJ5_init_d00df_4 : decode cJ5_init_d00df 4 = .ok (.getstatic 18, 3) := dqo_178 0 18 (kb_of ke_J5_init_d00df 4 rfl) (kb_of ke_J5_init_d00df 5 rfl) (kb_of ke_J5_init_d00df 6 rfl)
theorem dJ5_init_d00df_7 : decode cJ5_init_d00df 7 = .ok (.ifCond .eq 18, 3) := dqo_153 0 18 (by decide) (kb_of ke_J5_init_d00df 7 rfl) (kb_of ke_J5_init_d00df 8 rfl) (kb_of ke_J5_init_d00df 9 rfl)
theorem dJ5_init_d00df_10 : decode cJ5_init_d00df 10 = .ok (.aload_n 0, 1) := dqo_42 (kb_of ke_J5_init_d00df 10 rfl)
theorem dJ5_init_d00df_11 : decode cJ5_init_d00df 11 = .ok (.iload_n 1, 1) := dqo_27 (kb_of ke_J5_init_d00df 11 rfl)
theorem dJ5_init_d00df_12 : decode cJ5_init_d00df 12 = .ok (.newarray .byte, 2) := dqo_188_8 (kb_of ke_J5_init_d00df 12 rfl) (kb_of ke_J5_init_d00df 13 rfl)
theorem dJ5_init_d00df_14 : decode cJ5_init_d00df 14 = .ok (.putfield 15, 3) := dqo_181 0 15 (kb_of ke_J5_init_d00df 14 rfl) (kb_of ke_J5_init_d00df 15 rfl) (kb_of ke_J5_init_d00df 16 rfl)
theorem dJ5_init_d00df_17 : decode cJ5_init_d00df 17 = .ok (.aload_n 0, 1) := dqo_42 (kb_of ke_J5_init_d00df 17 rfl)
theorem dJ5_init_d00df_18 : decode cJ5_init_d00df 18 = .ok (.iconst 0, 1) := dqo_3 (kb_of ke_J5_init_d00df 18 rfl)
theorem dJ5_init_d00df_19 : decode cJ5_init_d00df 19 = .ok (.putfield 22, 3) := dqo_181 0 22 (kb_of ke_J5_init_d00df 19 rfl) (kb_of ke_J5_init_d00df 20 rfl) (kb_of ke_J5_init_d00df 21 rfl)
theorem dJ5_init_d00df_22 : decode cJ5_init_d00df 22 = .ok (.goto 16, 3) := dqo_167 0 16 (by decide) (kb_of ke_J5_init_d00df 22 rfl) (kb_of ke_J5_init_d00df 23 rfl) (kb_of ke_J5_init_d00df 24 rfl)
theorem dJ5_init_d00df_38 : decode cJ5_init_d00df 38 = .ok (.return_, 1) := dqo_177 (kb_of ke_J5_init_d00df 38 rfl)
set_option maxRecDepth 100000 in
set_option maxHeartbeats 400000 in
theorem C_asbInit {l : Launch} {D : va_G} {cy : Nat → ClassId} {X : (Nat → Prop) → State → Heap → Prop} {aK aV : Nat → Nat} {tO tT : Nat} {gO gT : Nat → Int32} {U E : va_W} {b : Nat} {q : Nat} (hX : EnvS X cy aK aV tO tT gO gT) (hq : q < 1000) : Cm l D cy X yJ5_init_d00df cJ5_init_d00df 2 none (rmk 1 1 q 60) [.ref b, .int (nI q)] (U ++ ((b, Sum.inr (1, [Value.null, Value.int (nI 0), Value.int (nI 0), Value.int (nI 0)])) :: E)) (fun v1 w1 => ∃ v9 : Nat, ∃ g9 : Nat → Int32, (sb_Fit g9) ∧ v1 = none ∧ w1 = U ++ (SBO b v9 (nI 0) 0 :: BYO cy v9 q g9 :: E)) (fun _ => False) := by
  refine Cm.ofF [some (.ref b), some (.int (nI q))] (plainFor_of_name pn_J5) rfl (Nat.le_of_ble_eq_true rfl) ?_
  intro p e s mI args below meth c A C hE hr hnt hn
  refine r_aload_n C dJ5_init_d00df_0 rfl ?_
  refine r_objI C qm_J5_3 dJ5_init_d00df_1 (Nat.le_of_ble_eq_true rfl) (Nat.le_of_ble_eq_true rfl) ?_
  refine j_cs hX C hE qf_J5_18 dJ5_init_d00df_4 ?_
  refine r_ifN_eq (a := 1) (tgt := 25) C (by first | omega | (simp [up2, *]; done) | (simp [up2, *]; omega) | (simp only [up2_eq]; omega) | (split <;> omega)) dJ5_init_d00df_7 (by decide) (fun h7_1 => ?_) (fun h7_1 => ?_)
  · exact absurd h7_1 (by first | omega | (simp [up2, *]; done) | (simp [up2, *]; omega) | (simp only [up2_eq]; omega) | (split <;> omega))
  · skip
    refine r_aload_n C dJ5_init_d00df_10 rfl ?_
    refine r_iload_n C dJ5_init_d00df_11 rfl ?_
    refine t_newB C qa_byte (by first | omega | (simp [up2, *]; done) | (simp [up2, *]; omega) | (simp only [up2_eq]; omega) | (split <;> omega)) (by first | (simp only [rmk, rmz]; omega) | (simp only [rmk, rmz]; done) | omega) (by first | (simp only [rmk, rmz]; omega) | (simp only [rmk, rmz]; done) | omega) dJ5_init_d00df_12 (fun q_2 => ?_)
    refine t_sbp (ty := .array .byte) C 1 0 rfl (by decide) rfl qf_J5_15 rfl rfl rfl rfl rfl dJ5_init_d00df_14 (L' := (BYO cy q_2 q (fun _ => 0) :: SBO b q_2 (nI 0) 0 :: E)) rfl ?_
    refine t_perm [BYO cy q_2 q (fun _ => 0), SBO b q_2 (nI 0) 0] [SBO b q_2 (nI 0) 0, BYO cy q_2 q (fun _ => 0)] [1, 0] rfl (by decide) rfl (w' := U ++ (SBO b q_2 (nI 0) 0 :: BYO cy q_2 q (fun _ => 0) :: E)) rfl ?_
    refine r_aload_n C dJ5_init_d00df_17 rfl ?_
    refine r_iconst (v := (nI 0)) C dJ5_init_d00df_18 (by decide) ?_
    refine t_sbp (ty := .byte) C 0 1 rfl (by decide) rfl qf_J5_22 rfl rfl rfl rfl rfl dJ5_init_d00df_19 (L' := (SBO b q_2 (nI 0) 0 :: BYO cy q_2 q (fun _ => 0) :: E)) rfl ?_
    refine r_goto (tgt := 38) C dJ5_init_d00df_22 (by decide) ?_
    exact r_vret C hr dJ5_init_d00df_38 ⟨q_2, _, sb_fit0, rfl, rfl⟩ (by first | (simp only [rmk, rmz]; omega) | (simp only [rmk, rmz]; done) | omega) (by first | (simp only [rmk, rmz]; omega) | (simp only [rmk, rmz]; done) | omega)
theorem dJ4_init_da8c8_0 : decode cJ4_init_da8c8 0 = .ok (.aload_n 0, 1) := dqo_42 (kb_of ke_J4_init_da8c8 0 rfl)
theorem dJ4_init_da8c8_1 : decode cJ4_init_da8c8 1 = .ok (.bipush 16, 2) := dqo_16 16 (by decide) (kb_of ke_J4_init_da8c8 1 rfl) (kb_of ke_J4_init_da8c8 2 rfl)
theorem dJ4_init_da8c8_3 : decode cJ4_init_da8c8 3 = .ok (.invokespecial 1, 3) := dqo_183 0 1 (kb_of ke_J4_init_da8c8 3 rfl) (kb_of ke_J4_init_da8c8 4 rfl) (kb_of ke_J4_init_da8c8 5 rfl)
theorem dJ4_init_da8c8_6 : decode cJ4_init_da8c8 6 = .ok (.return_, 1) := dqo_177 (kb_of ke_J4_init_da8c8 6 rfl)
theorem pk_J5_init_d00df : PkI yJ5_init_d00df cJ5_init_d00df 2 1 := ⟨⟨qi_J5_init_d00df, qz_J5, qc_J5_init_d00df⟩, rfl, mh_J5.1, mh_J5.2, pd_6⟩
set_option maxRecDepth 100000 in
set_option maxHeartbeats 400000 in
theorem C_sbInit {l : Launch} {D : va_G} {cy : Nat → ClassId} {X : (Nat → Prop) → State → Heap → Prop} {aK aV : Nat → Nat} {tO tT : Nat} {gO gT : Nat → Int32} {U E : va_W} {b : Nat} (hX : EnvS X cy aK aV tO tT gO gT)  : Cm l D cy X yJ4_init_da8c8 cJ4_init_da8c8 1 none (rmk 2 1 16 100) [.ref b] (U ++ ((b, Sum.inr (1, [Value.null, Value.int (nI 0), Value.int (nI 0), Value.int (nI 0)])) :: E)) (fun v1 w1 => ∃ v9 : Nat, ∃ g9 : Nat → Int32, (sb_Fit g9) ∧ v1 = none ∧ w1 = U ++ (SBO b v9 (nI 0) 0 :: BYO cy v9 16 g9 :: E)) (fun _ => False) := by
  refine Cm.ofF [some (.ref b)] (plainFor_of_name pn_J4) rfl (Nat.le_of_ble_eq_true rfl) ?_
  intro p e s mI args below meth c A C hE hr hnt hn
  refine r_aload_n C dJ4_init_da8c8_0 rfl ?_
  refine r_bipush (v := (nI 16)) C dJ4_init_da8c8_1 (by decide) ?_
  refine c_I (st := []) hX.stb C hE (C_asbInit (U := U) (E := E) (b := b) (q := 16) hX (by first | omega | (simp [up2, *]; done) | (simp [up2, *]; omega) | (simp only [up2_eq]; omega) | (split <;> omega))) pk_J5_init_d00df qm_J4_1 rfl rfl (Nat.le_of_ble_eq_true rfl) dJ4_init_da8c8_3 ⟨Nat.le_of_ble_eq_true rfl, Nat.le_of_ble_eq_true rfl⟩ ⟨by first | (simp only [rmk, rmz]; omega) | (simp only [rmk, rmz]; done) | omega, by first | (simp only [rmk, rmz]; omega) | (simp only [rmk, rmz]; done) | omega⟩ (fun v9 w9 h9 => ?_) (fun _ h9 => h9.elim)
  obtain ⟨v9_1, g9_2, f_3, rfl, rfl⟩ := h9
  exact r_vret C hr dJ4_init_da8c8_6 ⟨v9_1, g9_2, f_3, rfl, rfl⟩ (by first | (simp only [rmk, rmz]; omega) | (simp only [rmk, rmz]; done) | omega) (by first | (simp only [rmk, rmz]; omega) | (simp only [rmk, rmz]; done) | omega)
theorem dJ5_getValue_6d5f1_0 : decode cJ5_getValue_6d5f1 0 = .ok (.aload_n 0, 1) := dqo_42 (kb_of ke_J5_getValue_6d5f1 0 rfl)
theorem dJ5_getValue_6d5f1_1 : decode cJ5_getValue_6d5f1 1 = .ok (.getfield 15, 3) := dqo_180 0 15 (kb_of ke_J5_getValue_6d5f1 1 rfl) (kb_of ke_J5_getValue_6d5f1 2 rfl) (kb_of ke_J5_getValue_6d5f1 3 rfl)
theorem dJ5_getValue_6d5f1_4 : decode cJ5_getValue_6d5f1 4 = .ok (.areturn, 1) := dqo_176 (kb_of ke_J5_getValue_6d5f1 4 rfl)
set_option maxRecDepth 100000 in
set_option maxHeartbeats 400000 in
theorem C_getValue {l : Launch} {D : va_G} {cy : Nat → ClassId} {X : (Nat → Prop) → State → Heap → Prop} {aK aV : Nat → Nat} {tO tT : Nat} {gO gT : Nat → Int32} {U E : va_W} {b : Nat} {v : Nat} {n : Nat} {ml : Int32} (hX : EnvS X cy aK aV tO tT gO gT)  : Cm l D cy X yJ5_getValue_6d5f1 cJ5_getValue_6d5f1 1 (some (.array .byte)) (rmz 0 0) [.ref b] (U ++ (SBO b v ml n :: E)) (fun v1 w1 => v1 = some (.ref v) ∧ w1 = U ++ (SBO b v ml n :: E)) (fun _ => False) := by
  refine Cm.ofF [some (.ref b)] (plainFor_of_name pn_J5) rfl (Nat.le_of_ble_eq_true rfl) ?_
  intro p e s mI args below meth c A C hE hr hnt hn
  refine r_aload_n C dJ5_getValue_6d5f1_0 rfl ?_
  refine t_sbg C 0 0 rfl (by decide) qf_J5_15 rfl rfl dJ5_getValue_6d5f1_1 ?_
  exact r_aret C hr (Or.inr ⟨_, rfl⟩) dJ5_getValue_6d5f1_4 ⟨rfl, rfl⟩ (by first | (simp only [rmk, rmz]; omega) | (simp only [rmk, rmz]; done) | omega) (by first | (simp only [rmk, rmz]; omega) | (simp only [rmk, rmz]; done) | omega)
theorem dJ5_length_8abf5_0 : decode cJ5_length_8abf5 0 = .ok (.aload_n 0, 1) := dqo_42 (kb_of ke_J5_length_8abf5 0 rfl)
theorem dJ5_length_8abf5_1 : decode cJ5_length_8abf5 1 = .ok (.getfield 79, 3) := dqo_180 0 79 (kb_of ke_J5_length_8abf5 1 rfl) (kb_of ke_J5_length_8abf5 2 rfl) (kb_of ke_J5_length_8abf5 3 rfl)
theorem dJ5_length_8abf5_4 : decode cJ5_length_8abf5 4 = .ok (.ireturn, 1) := dqo_172 (kb_of ke_J5_length_8abf5 4 rfl)
set_option maxRecDepth 100000 in
set_option maxHeartbeats 400000 in
theorem C_asbLength {l : Launch} {D : va_G} {cy : Nat → ClassId} {X : (Nat → Prop) → State → Heap → Prop} {aK aV : Nat → Nat} {tO tT : Nat} {gO gT : Nat → Int32} {U E : va_W} {b : Nat} {v : Nat} {n : Nat} {ml : Int32} (hX : EnvS X cy aK aV tO tT gO gT)  : Cm l D cy X yJ5_length_8abf5 cJ5_length_8abf5 1 (some .int) (rmz 0 0) [.ref b] (U ++ (SBO b v ml n :: E)) (fun v1 w1 => v1 = some (.int (nI n)) ∧ w1 = U ++ (SBO b v ml n :: E)) (fun _ => False) := by
  refine Cm.ofF [some (.ref b)] (plainFor_of_name pn_J5) rfl (Nat.le_of_ble_eq_true rfl) ?_
  intro p e s mI args below meth c A C hE hr hnt hn
  refine r_aload_n C dJ5_length_8abf5_0 rfl ?_
  refine t_sbg C 0 3 rfl (by decide) qf_J5_79 rfl rfl dJ5_length_8abf5_1 ?_
  exact r_iret C hr dJ5_length_8abf5_4 ⟨rfl, rfl⟩ (by first | (simp only [rmk, rmz]; omega) | (simp only [rmk, rmz]; done) | omega) (by first | (simp only [rmk, rmz]; omega) | (simp only [rmk, rmz]; done) | omega)
theorem dJ4_length_8abf5_0 : decode cJ4_length_8abf5 0 = .ok (.aload_n 0, 1) := dqo_42 (kb_of ke_J4_length_8abf5 0 rfl)
theorem dJ4_length_8abf5_1 : decode cJ4_length_8abf5 1 = .ok (.invokespecial 343, 3) := dqo_183 1 87 (kb_of ke_J4_length_8abf5 1 rfl) (kb_of ke_J4_length_8abf5 2 rfl) (kb_of ke_J4_length_8abf5 3 rfl)
theorem dJ4_length_8abf5_4 : decode cJ4_length_8abf5 4 = .ok (.ireturn, 1) := dqo_172 (kb_of ke_J4_length_8abf5 4 rfl)
theorem pkS_J5_length_8abf5 : PkSU yJ5_length_8abf5 cJ5_length_8abf5 1 (some .int) 0 := ⟨⟨qe_J5_length_8abf5, qi_J5_length_8abf5, qc_J5_length_8abf5⟩, by decide +kernel⟩
set_option maxRecDepth 100000 in
set_option maxHeartbeats 400000 in
theorem C_sbLength {l : Launch} {D : va_G} {cy : Nat → ClassId} {X : (Nat → Prop) → State → Heap → Prop} {aK aV : Nat → Nat} {tO tT : Nat} {gO gT : Nat → Int32} {U E : va_W} {b : Nat} {v : Nat} {n : Nat} {ml : Int32} (hX : EnvS X cy aK aV tO tT gO gT)  : Cm l D cy X yJ4_length_8abf5 cJ4_length_8abf5 1 (some .int) (rmz 1 40) [.ref b] (U ++ (SBO b v ml n :: E)) (fun v1 w1 => v1 = some (.int (nI n)) ∧ w1 = U ++ (SBO b v ml n :: E)) (fun _ => False) := by
  refine Cm.ofF [some (.ref b)] (plainFor_of_name pn_J4) rfl (Nat.le_of_ble_eq_true rfl) ?_
  intro p e s mI args below meth c A C hE hr hnt hn
  refine r_aload_n C dJ4_length_8abf5_0 rfl ?_
  refine c_SU (st := []) hX C hE (C_asbLength (U := U) (E := E) (b := b) (v := v) (n := n) (ml := ml) hX ) pkS_J5_length_8abf5 qm_J4_343 (U.length + 0) (us_g rfl) rfl rfl (Nat.le_of_ble_eq_true rfl) dJ4_length_8abf5_1 ⟨Nat.le_of_ble_eq_true rfl, Nat.le_of_ble_eq_true rfl⟩ ⟨by first | (simp only [rmk, rmz]; omega) | (simp only [rmk, rmz]; done) | omega, by first | (simp only [rmk, rmz]; omega) | (simp only [rmk, rmz]; done) | omega⟩ (fun v9 w9 h9 => ?_) (fun _ h9 => h9.elim)
  obtain ⟨rfl, rfl⟩ := h9
  exact r_iret C hr dJ4_length_8abf5_4 ⟨rfl, rfl⟩ (by first | (simp only [rmk, rmz]; omega) | (simp only [rmk, rmz]; done) | omega) (by first | (simp only [rmk, rmz]; omega) | (simp only [rmk, rmz]; done) | omega)
theorem dJ7_checkLength_df160_0 : decode cJ7_checkLength_df160 0 = .ok (.iload_n 1, 1) := dqo_27 (kb_of ke_J7_checkLength_df160 0 rfl)
theorem dJ7_checkLength_df160_1 : decode cJ7_checkLength_df160 1 = .ok (.iload_n 0, 1) := dqo_26 (kb_of ke_J7_checkLength_df160 1 rfl)
theorem dJ7_checkLength_df160_2 : decode cJ7_checkLength_df160 2 = .ok (.if_icmp .ge 35, 3) := dqo_162 0 35 (by decide) (kb_of ke_J7_checkLength_df160 2 rfl) (kb_of ke_J7_checkLength_df160 3 rfl) (kb_of ke_J7_checkLength_df160 4 rfl)
theorem dJ7_checkLength_df160_37 : decode cJ7_checkLength_df160 37 = .ok (.return_, 1) := dqo_177 (kb_of ke_J7_checkLength_df160 37 rfl)
set_option maxRecDepth 100000 in
set_option maxHeartbeats 400000 in
theorem C_checkLength {l : Launch} {D : va_G} {cy : Nat → ClassId} {X : (Nat → Prop) → State → Heap → Prop} {w : va_W} {o : Nat} {k : Nat}  (hk : o ≤ k) (hkl : k < 1000000) : Cm l D cy X yJ7_checkLength_df160 cJ7_checkLength_df160 2 none (rmz 0 0) [.int (nI o), .int (nI k)] (w) (fun v1 w1 => v1 = none ∧ w1 = w) (fun _ => False) := by
  refine Cm.ofF [some (.int (nI o)), some (.int (nI k))] (plainFor_of_name pn_J7) rfl (Nat.le_of_ble_eq_true rfl) ?_
  intro p e s mI args below meth c A C hE hr hnt hn
  refine r_iload_n C dJ7_checkLength_df160_0 rfl ?_
  refine r_iload_n C dJ7_checkLength_df160_1 rfl ?_
  refine r_icN_ge (a := k) (b := o) (tgt := 37) C (by first | omega | (simp [up2, *]; done) | (simp [up2, *]; omega) | (simp only [up2_eq]; omega) | (split <;> omega)) (by first | omega | (simp [up2, *]; done) | (simp [up2, *]; omega) | (simp only [up2_eq]; omega) | (split <;> omega)) dJ7_checkLength_df160_2 (by decide) (fun h2_1 => ?_) (fun h2_1 => ?_)
  · skip
    exact r_vret C hr dJ7_checkLength_df160_37 ⟨rfl, rfl⟩ (by first | (simp only [rmk, rmz]; omega) | (simp only [rmk, rmz]; done) | omega) (by first | (simp only [rmk, rmz]; omega) | (simp only [rmk, rmz]; done) | omega)
  · exact absurd h2_1 (by first | omega | (simp [up2, *]; done) | (simp [up2, *]; omega) | (simp only [up2_eq]; omega) | (split <;> omega))
theorem dJ7_copyOfRangeByte_39247_0 : decode cJ7_copyOfRangeByte_39247 0 = .ok (.iload_n 1, 1) := dqo_27 (kb_of ke_J7_copyOfRangeByte_39247 0 rfl)
theorem dJ7_copyOfRangeByte_39247_1 : decode cJ7_copyOfRangeByte_39247 1 = .ok (.iload_n 2, 1) := dqo_28 (kb_of ke_J7_copyOfRangeByte_39247 1 rfl)
theorem dJ7_copyOfRangeByte_39247_2 : decode cJ7_copyOfRangeByte_39247 2 = .ok (.invokestatic 343, 3) := dqo_184 1 87 (kb_of ke_J7_copyOfRangeByte_39247 2 rfl) (kb_of ke_J7_copyOfRangeByte_39247 3 rfl) (kb_of ke_J7_copyOfRangeByte_39247 4 rfl)
theorem dJ7_copyOfRangeByte_39247_5 : decode cJ7_copyOfRangeByte_39247 5 = .ok (.iload_n 2, 1) := dqo_28 (kb_of ke_J7_copyOfRangeByte_39247 5 rfl)
theorem dJ7_copyOfRangeByte_39247_6 : decode cJ7_copyOfRangeByte_39247 6 = .ok (.iload_n 1, 1) := dqo_27 (kb_of ke_J7_copyOfRangeByte_39247 6 rfl)
theorem dJ7_copyOfRangeByte_39247_7 : decode cJ7_copyOfRangeByte_39247 7 = .ok (.isub, 1) := dqo_100 (kb_of ke_J7_copyOfRangeByte_39247 7 rfl)
theorem dJ7_copyOfRangeByte_39247_8 : decode cJ7_copyOfRangeByte_39247 8 = .ok (.istore_n 3, 1) := dqo_62 (kb_of ke_J7_copyOfRangeByte_39247 8 rfl)
theorem dJ7_copyOfRangeByte_39247_9 : decode cJ7_copyOfRangeByte_39247 9 = .ok (.iload_n 3, 1) := dqo_29 (kb_of ke_J7_copyOfRangeByte_39247 9 rfl)
theorem dJ7_copyOfRangeByte_39247_10 : decode cJ7_copyOfRangeByte_39247 10 = .ok (.newarray .byte, 2) := dqo_188_8 (kb_of ke_J7_copyOfRangeByte_39247 10 rfl) (kb_of ke_J7_copyOfRangeByte_39247 11 rfl)
theorem dJ7_copyOfRangeByte_39247_12 : decode cJ7_copyOfRangeByte_39247 12 = .ok (.astore 4, 2) := dqo_58 4 (kb_of ke_J7_copyOfRangeByte_39247 12 rfl) (kb_of ke_J7_copyOfRangeByte_39247 13 rfl)
theorem dJ7_copyOfRangeByte_39247_14 : decode cJ7_copyOfRangeByte_39247 14 = .ok (.aload_n 0, 1) := dqo_42 (kb_of ke_J7_copyOfRangeByte_39247 14 rfl)
theorem dJ7_copyOfRangeByte_39247_15 : decode cJ7_copyOfRangeByte_39247 15 = .ok (.iload_n 1, 1) := dqo_27 (kb_of ke_J7_copyOfRangeByte_39247 15 rfl)
theorem dJ7_copyOfRangeByte_39247_16 : decode cJ7_copyOfRangeByte_39247 16 = .ok (.aload 4, 2) := dqo_25 4 (kb_of ke_J7_copyOfRangeByte_39247 16 rfl) (kb_of ke_J7_copyOfRangeByte_39247 17 rfl)
theorem dJ7_copyOfRangeByte_39247_18 : decode cJ7_copyOfRangeByte_39247 18 = .ok (.iconst 0, 1) := dqo_3 (kb_of ke_J7_copyOfRangeByte_39247 18 rfl)
theorem dJ7_copyOfRangeByte_39247_19 : decode cJ7_copyOfRangeByte_39247 19 = .ok (.aload_n 0, 1) := dqo_42 (kb_of ke_J7_copyOfRangeByte_39247 19 rfl)
theorem dJ7_copyOfRangeByte_39247_20 : decode cJ7_copyOfRangeByte_39247 20 = .ok (.arraylength, 1) := dqo_190 (kb_of ke_J7_copyOfRangeByte_39247 20 rfl)
theorem dJ7_copyOfRangeByte_39247_21 : decode cJ7_copyOfRangeByte_39247 21 = .ok (.iload_n 1, 1) := dqo_27 (kb_of ke_J7_copyOfRangeByte_39247 21 rfl)
theorem dJ7_copyOfRangeByte_39247_22 : decode cJ7_copyOfRangeByte_39247 22 = .ok (.isub, 1) := dqo_100 (kb_of ke_J7_copyOfRangeByte_39247 22 rfl)
theorem dJ7_copyOfRangeByte_39247_23 : decode cJ7_copyOfRangeByte_39247 23 = .ok (.iload_n 3, 1) := dqo_29 (kb_of ke_J7_copyOfRangeByte_39247 23 rfl)
theorem dJ7_copyOfRangeByte_39247_24 : decode cJ7_copyOfRangeByte_39247 24 = .ok (.invokestatic 304, 3) := dqo_184 1 48 (kb_of ke_J7_copyOfRangeByte_39247 24 rfl) (kb_of ke_J7_copyOfRangeByte_39247 25 rfl) (kb_of ke_J7_copyOfRangeByte_39247 26 rfl)
theorem dJ7_copyOfRangeByte_39247_27 : decode cJ7_copyOfRangeByte_39247 27 = .ok (.invokestatic 150, 3) := dqo_184 0 150 (kb_of ke_J7_copyOfRangeByte_39247 27 rfl) (kb_of ke_J7_copyOfRangeByte_39247 28 rfl) (kb_of ke_J7_copyOfRangeByte_39247 29 rfl)
theorem dJ7_copyOfRangeByte_39247_30 : decode cJ7_copyOfRangeByte_39247 30 = .ok (.aload 4, 2) := dqo_25 4 (kb_of ke_J7_copyOfRangeByte_39247 30 rfl) (kb_of ke_J7_copyOfRangeByte_39247 31 rfl)
theorem dJ7_copyOfRangeByte_39247_32 : decode cJ7_copyOfRangeByte_39247 32 = .ok (.areturn, 1) := dqo_176 (kb_of ke_J7_copyOfRangeByte_39247 32 rfl)
theorem pk_J7_checkLength_df160 : PkS yJ7_checkLength_df160 cJ7_checkLength_df160 2 none 2 := ⟨⟨qt_J7_checkLength_df160, qz_J7, qc_J7_checkLength_df160⟩, mh_J7.1, mh_J7.2, pd_2⟩
set_option maxRecDepth 100000 in
set_option maxHeartbeats 400000 in
theorem C_copyRangeByte {l : Launch} {D : va_G} {cy : Nat → ClassId} {X : (Nat → Prop) → State → Heap → Prop} {aK aV : Nat → Nat} {tO tT : Nat} {gO gT : Nat → Int32} {U E : va_W} {v : Nat} {m : Nat} {g : Nat → Int32} {n : Nat} {tl : List Int32} (hX : EnvS X cy aK aV tO tT gO gT) (hnm : n ≤ m) (hm : m < 1000000) (hf : TXT g n tl) : Cm l D cy X yJ7_copyOfRangeByte_39247 cJ7_copyOfRangeByte_39247 5 (some (.array .byte)) (rmk 1 1 n 60) [.ref v, .int (nI 0), .int (nI n)] (U ++ (BYO cy v m g :: E)) (fun v1 w1 => ∃ v9 : Nat, ∃ g9 : Nat → Int32, (TXT g9 n tl) ∧ v1 = some (.ref v9) ∧ w1 = U ++ (BYO cy v9 n g9 :: BYO cy v m g :: E)) (fun _ => False) := by
  refine Cm.ofF [some (.ref v), some (.int (nI 0)), some (.int (nI n)), none, none] (plainFor_of_name pn_J7) rfl (Nat.le_of_ble_eq_true rfl) ?_
  intro p e s mI args below meth c A C hE hr hnt hn
  refine r_iload_n C dJ7_copyOfRangeByte_39247_0 rfl ?_
  refine r_iload_n C dJ7_copyOfRangeByte_39247_1 rfl ?_
  refine c_S (st := []) hX.stb C hE (C_checkLength (w := U ++ (BYO cy v m g :: E)) (o := 0) (k := n) (by first | omega | (simp [up2, *]; done) | (simp [up2, *]; omega) | (simp only [up2_eq]; omega) | (split <;> omega)) (by first | omega | (simp [up2, *]; done) | (simp [up2, *]; omega) | (simp only [up2_eq]; omega) | (split <;> omega))) pk_J7_checkLength_df160 qm_J7_343 rfl rfl (Nat.le_of_ble_eq_true rfl) dJ7_copyOfRangeByte_39247_2 ⟨Nat.le_of_ble_eq_true rfl, Nat.le_of_ble_eq_true rfl⟩ ⟨by first | (simp only [rmk, rmz]; omega) | (simp only [rmk, rmz]; done) | omega, by first | (simp only [rmk, rmz]; omega) | (simp only [rmk, rmz]; done) | omega⟩ (fun v9 w9 h9 => ?_) (fun _ h9 => h9.elim)
  obtain ⟨rfl, rfl⟩ := h9
  refine r_iload_n C dJ7_copyOfRangeByte_39247_5 rfl ?_
  refine r_iload_n C dJ7_copyOfRangeByte_39247_6 rfl ?_
  refine r_isubN C dJ7_copyOfRangeByte_39247_7 (by first | omega | (simp [up2, *]; done) | (simp [up2, *]; omega) | (simp only [up2_eq]; omega) | (split <;> omega)) ?_
  refine r_istore_n C dJ7_copyOfRangeByte_39247_8 (by decide) rfl ?_
  refine r_iload_n C dJ7_copyOfRangeByte_39247_9 rfl ?_
  refine t_newB C qa_byte (by first | omega | (simp [up2, *]; done) | (simp [up2, *]; omega) | (simp only [up2_eq]; omega) | (split <;> omega)) (by first | (simp only [rmk, rmz]; omega) | (simp only [rmk, rmz]; done) | omega) (by first | (simp only [rmk, rmz]; omega) | (simp only [rmk, rmz]; done) | omega) dJ7_copyOfRangeByte_39247_10 (fun q_1 => ?_)
  refine r_astore C dJ7_copyOfRangeByte_39247_12 (by decide) rfl ?_
  refine r_aload_n C dJ7_copyOfRangeByte_39247_14 rfl ?_
  refine r_iload_n C dJ7_copyOfRangeByte_39247_15 rfl ?_
  refine r_aload C dJ7_copyOfRangeByte_39247_16 rfl ?_
  refine r_iconst (v := (nI 0)) C dJ7_copyOfRangeByte_39247_18 (by decide) ?_
  refine r_aload_n C dJ7_copyOfRangeByte_39247_19 rfl ?_
  refine t_blen C 1 rfl dJ7_copyOfRangeByte_39247_20 ?_
  refine r_iload_n C dJ7_copyOfRangeByte_39247_21 rfl ?_
  refine r_isubN C dJ7_copyOfRangeByte_39247_22 (by first | omega | (simp [up2, *]; done) | (simp [up2, *]; omega) | (simp only [up2_eq]; omega) | (split <;> omega)) ?_
  refine r_iload_n C dJ7_copyOfRangeByte_39247_23 rfl ?_
  refine c_S (st := [.int (nI 0), .ref q_1, .int (nI 0), .ref v]) hX.stb C hE (C_mmin (w := U ++ (BYO cy q_1 (n - 0) (fun _ => 0) :: BYO cy v m g :: E)) (x := (nI (m - 0))) (y := (nI (n - 0))) ) pk_J9_min_7cf53 qm_J7_304 rfl rfl (Nat.le_of_ble_eq_true rfl) dJ7_copyOfRangeByte_39247_24 ⟨Nat.le_of_ble_eq_true rfl, Nat.le_of_ble_eq_true rfl⟩ ⟨by first | (simp only [rmk, rmz]; omega) | (simp only [rmk, rmz]; done) | omega, by first | (simp only [rmk, rmz]; omega) | (simp only [rmk, rmz]; done) | omega⟩ (fun v9 w9 h9 => ?_) (fun _ h9 => h9.elim)
  obtain ⟨rfl, rfl⟩ := h9
  refine r_eqi (y := nI n) (show (if nI n < nI (m - 0) then nI n else nI (m - 0)) = nI n by rw [Nat.sub_zero]; split; rfl; rename_i h; have := Nat.le_antisymm hnm (by rcases Nat.lt_or_ge n m with h2 | h2; exact absurd (nI_lt h2 (by omega)) h; exact h2); rw [this]) ?_
  refine t_bcp (st := []) (sp := 0) (dp := 0) (n := n) C 1 0 qm_J7_150 rfl rfl hf.1 (by omega) (by omega) (by first | omega | (simp [up2, *]; done) | (simp [up2, *]; omega) | (simp only [up2_eq]; omega) | (split <;> omega)) (by first | omega | (simp [up2, *]; done) | (simp [up2, *]; omega) | (simp only [up2_eq]; omega) | (split <;> omega)) (Nat.le_of_ble_eq_true rfl) (Nat.le_of_ble_eq_true rfl) dJ7_copyOfRangeByte_39247_27 (L' := (BYO cy q_1 (n - 0) (va_cpy g (fun _ => 0) 0 0 n) :: BYO cy v m g :: E)) rfl ?_
  refine r_aload C dJ7_copyOfRangeByte_39247_30 rfl ?_
  exact r_aret C hr (Or.inr ⟨_, rfl⟩) dJ7_copyOfRangeByte_39247_32 ⟨q_1, _, hf.cut, (by first | rfl | simp only [Nat.sub_zero]), (by first | rfl | simp only [Nat.sub_zero])⟩ (by first | (simp only [rmk, rmz]; omega) | (simp only [rmk, rmz]; done) | omega) (by first | (simp only [rmk, rmz]; omega) | (simp only [rmk, rmz]; done) | omega)
theorem dJ7_copyOfRange_39247_0 : decode cJ7_copyOfRange_39247 0 = .ok (.iload_n 1, 1) := dqo_27 (kb_of ke_J7_copyOfRange_39247 0 rfl)
theorem dJ7_copyOfRange_39247_1 : decode cJ7_copyOfRange_39247 1 = .ok (.ifCond .ne 9, 3) := dqo_154 0 9 (by decide) (kb_of ke_J7_copyOfRange_39247 1 rfl) (kb_of ke_J7_copyOfRange_39247 2 rfl) (kb_of ke_J7_copyOfRange_39247 3 rfl)
theorem dJ7_copyOfRange_39247_4 : decode cJ7_copyOfRange_39247 4 = .ok (.iload_n 2, 1) := dqo_28 (kb_of ke_J7_copyOfRange_39247 4 rfl)
theorem dJ7_copyOfRange_39247_5 : decode cJ7_copyOfRange_39247 5 = .ok (.aload_n 0, 1) := dqo_42 (kb_of ke_J7_copyOfRange_39247 5 rfl)
theorem dJ7_copyOfRange_39247_6 : decode cJ7_copyOfRange_39247 6 = .ok (.arraylength, 1) := dqo_190 (kb_of ke_J7_copyOfRange_39247 6 rfl)
theorem dJ7_copyOfRange_39247_7 : decode cJ7_copyOfRange_39247 7 = .ok (.if_icmp .eq 10, 3) := dqo_159 0 10 (by decide) (kb_of ke_J7_copyOfRange_39247 7 rfl) (kb_of ke_J7_copyOfRange_39247 8 rfl) (kb_of ke_J7_copyOfRange_39247 9 rfl)
theorem dJ7_copyOfRange_39247_10 : decode cJ7_copyOfRange_39247 10 = .ok (.aload_n 0, 1) := dqo_42 (kb_of ke_J7_copyOfRange_39247 10 rfl)
theorem dJ7_copyOfRange_39247_11 : decode cJ7_copyOfRange_39247 11 = .ok (.iload_n 1, 1) := dqo_27 (kb_of ke_J7_copyOfRange_39247 11 rfl)
theorem dJ7_copyOfRange_39247_12 : decode cJ7_copyOfRange_39247 12 = .ok (.iload_n 2, 1) := dqo_28 (kb_of ke_J7_copyOfRange_39247 12 rfl)
theorem dJ7_copyOfRange_39247_13 : decode cJ7_copyOfRange_39247 13 = .ok (.invokestatic 339, 3) := dqo_184 1 83 (kb_of ke_J7_copyOfRange_39247 13 rfl) (kb_of ke_J7_copyOfRange_39247 14 rfl) (kb_of ke_J7_copyOfRange_39247 15 rfl)
theorem dJ7_copyOfRange_39247_16 : decode cJ7_copyOfRange_39247 16 = .ok (.areturn, 1) := dqo_176 (kb_of ke_J7_copyOfRange_39247 16 rfl)
theorem dJ7_copyOfRange_39247_17 : decode cJ7_copyOfRange_39247 17 = .ok (.aload_n 0, 1) := dqo_42 (kb_of ke_J7_copyOfRange_39247 17 rfl)
theorem dJ7_copyOfRange_39247_18 : decode cJ7_copyOfRange_39247 18 = .ok (.invokevirtual 310, 3) := dqo_182 1 54 (kb_of ke_J7_copyOfRange_39247 18 rfl) (kb_of ke_J7_copyOfRange_39247 19 rfl) (kb_of ke_J7_copyOfRange_39247 20 rfl)
theorem dJ7_copyOfRange_39247_21 : decode cJ7_copyOfRange_39247 21 = .ok (.checkcast 311, 3) := dqo_192 1 55 (kb_of ke_J7_copyOfRange_39247 21 rfl) (kb_of ke_J7_copyOfRange_39247 22 rfl) (kb_of ke_J7_copyOfRange_39247 23 rfl)
theorem dJ7_copyOfRange_39247_24 : decode cJ7_copyOfRange_39247 24 = .ok (.areturn, 1) := dqo_176 (kb_of ke_J7_copyOfRange_39247 24 rfl)
theorem pk_J7_copyOfRangeByte_39247 : PkS yJ7_copyOfRangeByte_39247 cJ7_copyOfRangeByte_39247 5 (some (.array .byte)) 3 := ⟨⟨qt_J7_copyOfRangeByte_39247, qz_J7, qc_J7_copyOfRangeByte_39247⟩, mh_J7.1, mh_J7.2, pd_34⟩
set_option maxRecDepth 100000 in
set_option maxHeartbeats 400000 in
theorem C_copyRange {l : Launch} {D : va_G} {cy : Nat → ClassId} {X : (Nat → Prop) → State → Heap → Prop} {aK aV : Nat → Nat} {tO tT : Nat} {gO gT : Nat → Int32} {U E : va_W} {v : Nat} {m : Nat} {g : Nat → Int32} {n : Nat} {tl : List Int32} (hX : EnvS X cy aK aV tO tT gO gT) (hnm : n ≤ m) (hm : m < 1000000) (hf : TXT g n tl) : Cm l D cy X yJ7_copyOfRange_39247 cJ7_copyOfRange_39247 3 (some (.array .byte)) (rmk 2 1 n 100) [.ref v, .int (nI 0), .int (nI n)] (U ++ (BYO cy v m g :: E)) (fun v1 w1 => ∃ v9 : Nat, ∃ g9 : Nat → Int32, (TXT g9 n tl) ∧ v1 = some (.ref v9) ∧ w1 = U ++ (BYO cy v9 n g9 :: BYO cy v m g :: E)) (fun _ => False) := by
  refine Cm.ofF [some (.ref v), some (.int (nI 0)), some (.int (nI n))] (plainFor_of_name pn_J7) rfl (Nat.le_of_ble_eq_true rfl) ?_
  intro p e s mI args below meth c A C hE hr hnt hn
  refine r_iload_n C dJ7_copyOfRange_39247_0 rfl ?_
  refine r_ifN_ne (a := 0) (tgt := 10) C (by first | omega | (simp [up2, *]; done) | (simp [up2, *]; omega) | (simp only [up2_eq]; omega) | (split <;> omega)) dJ7_copyOfRange_39247_1 (by decide) (fun h1_1 => ?_) (fun h1_1 => ?_)
  · exact absurd h1_1 (by first | omega | (simp [up2, *]; done) | (simp [up2, *]; omega) | (simp only [up2_eq]; omega) | (split <;> omega))
  · skip
    refine r_iload_n C dJ7_copyOfRange_39247_4 rfl ?_
    refine r_aload_n C dJ7_copyOfRange_39247_5 rfl ?_
    refine t_blen C 0 rfl dJ7_copyOfRange_39247_6 ?_
    refine r_icN_eq (a := n) (b := m) (tgt := 17) C (by first | omega | (simp [up2, *]; done) | (simp [up2, *]; omega) | (simp only [up2_eq]; omega) | (split <;> omega)) (by first | omega | (simp [up2, *]; done) | (simp [up2, *]; omega) | (simp only [up2_eq]; omega) | (split <;> omega)) dJ7_copyOfRange_39247_7 (by decide) (fun h7_2 => ?_) (fun h7_2 => ?_)
    · skip
      have hnm2 : n = m := by omega
      refine r_aload_n C dJ7_copyOfRange_39247_17 rfl ?_
      refine t_clone (st := []) hX C hE 0 rfl hf.1 (Nat.le_of_ble_eq_true rfl) (Nat.le_of_ble_eq_true rfl) (by first | (simp only [rmk, rmz]; omega) | (simp only [rmk, rmz]; done) | omega) (by first | (simp only [rmk, rmz]; omega) | (simp only [rmk, rmz]; done) | omega) dJ7_copyOfRange_39247_18 (fun q_3 => ?_)
      refine t_castB C 0 rfl qk_J7_311 dJ7_copyOfRange_39247_21 ?_
      exact r_aret C hr (Or.inr ⟨_, rfl⟩) dJ7_copyOfRange_39247_24 ⟨q_3, g, hf, rfl, (by first | rfl | rw [hnm2])⟩ (by first | (simp only [rmk, rmz]; omega) | (simp only [rmk, rmz]; done) | omega) (by first | (simp only [rmk, rmz]; omega) | (simp only [rmk, rmz]; done) | omega)
    · skip
      refine r_aload_n C dJ7_copyOfRange_39247_10 rfl ?_
      refine r_iload_n C dJ7_copyOfRange_39247_11 rfl ?_
      refine r_iload_n C dJ7_copyOfRange_39247_12 rfl ?_
      refine c_S (st := []) hX.stb C hE (C_copyRangeByte (U := U) (E := E) (v := v) (m := m) (g := g) (n := n) hX (by first | omega | (simp [up2, *]; done) | (simp [up2, *]; omega) | (simp only [up2_eq]; omega) | (split <;> omega)) (by first | omega | (simp [up2, *]; done) | (simp [up2, *]; omega) | (simp only [up2_eq]; omega) | (split <;> omega)) hf) pk_J7_copyOfRangeByte_39247 qm_J7_339 rfl rfl (Nat.le_of_ble_eq_true rfl) dJ7_copyOfRange_39247_13 ⟨Nat.le_of_ble_eq_true rfl, Nat.le_of_ble_eq_true rfl⟩ ⟨by first | (simp only [rmk, rmz]; omega) | (simp only [rmk, rmz]; done) | omega, by first | (simp only [rmk, rmz]; omega) | (simp only [rmk, rmz]; done) | omega⟩ (fun v9 w9 h9 => ?_) (fun _ h9 => h9.elim)
      obtain ⟨v9_4, g9_5, f_6, rfl, rfl⟩ := h9
      exact r_aret C hr (Or.inr ⟨_, rfl⟩) dJ7_copyOfRange_39247_16 ⟨v9_4, g9_5, f_6, rfl, (by first | rfl | rw [hnm2])⟩ (by first | (simp only [rmk, rmz]; omega) | (simp only [rmk, rmz]; done) | omega) (by first | (simp only [rmk, rmz]; omega) | (simp only [rmk, rmz]; done) | omega)
theorem dJ0_init_db425_0 : decode cJ0_init_db425 0 = .ok (.aload_n 0, 1) := dqo_42 (kb_J0_init_db425_0 0 rfl)
theorem dJ0_init_db425_1 : decode cJ0_init_db425 1 = .ok (.invokespecial 1, 3) := dqo_183 0 1 (kb_J0_init_db425_0 1 rfl) (kb_J0_init_db425_0 2 rfl) (kb_J0_init_db425_0 3 rfl)
theorem dJ0_init_db425_4 : decode cJ0_init_db425 4 = .ok (.aload_n 1, 1) := dqo_43 (kb_J0_init_db425_0 4 rfl)
theorem dJ0_init_db425_5 : decode cJ0_init_db425 5 = .ok (.invokevirtual 552, 3) := dqo_182 2 40 (kb_J0_init_db425_0 5 rfl) (kb_J0_init_db425_0 6 rfl) (kb_J0_init_db425_0 7 rfl)
theorem dJ0_init_db425_8 : decode cJ0_init_db425 8 = .ok (.astore_n 3, 1) := dqo_78 (kb_J0_init_db425_0 8 rfl)
theorem dJ0_init_db425_9 : decode cJ0_init_db425 9 = .ok (.aload_n 1, 1) := dqo_43 (kb_J0_init_db425_0 9 rfl)
theorem dJ0_init_db425_10 : decode cJ0_init_db425 10 = .ok (.invokevirtual 549, 3) := dqo_182 2 37 (kb_J0_init_db425_0 10 rfl) (kb_J0_init_db425_0 11 rfl) (kb_J0_init_db425_0 12 rfl)
theorem dJ0_init_db425_13 : decode cJ0_init_db425 13 = .ok (.istore 4, 2) := dqo_54 4 (kb_J0_init_db425_0 13 rfl) (kb_J0_init_db425_0 14 rfl)
theorem dJ0_init_db425_15 : decode cJ0_init_db425 15 = .ok (.aload_n 1, 1) := dqo_43 (kb_J0_init_db425_0 15 rfl)
theorem dJ0_init_db425_16 : decode cJ0_init_db425 16 = .ok (.invokevirtual 1047, 3) := dqo_182 4 23 (kb_J0_init_db425_0 16 rfl) (kb_J0_init_db425_0 17 rfl) (kb_J0_init_db425_0 18 rfl)
theorem dJ0_init_db425_19 : decode cJ0_init_db425 19 = .ok (.ifCond .eq 22, 3) := dqo_153 0 22 (by decide) (kb_J0_init_db425_0 19 rfl) (kb_J0_init_db425_0 20 rfl) (kb_J0_init_db425_0 21 rfl)
theorem dJ0_init_db425_22 : decode cJ0_init_db425 22 = .ok (.aload_n 0, 1) := dqo_42 (kb_J0_init_db425_0 22 rfl)
theorem dJ0_init_db425_23 : decode cJ0_init_db425 23 = .ok (.iconst 0, 1) := dqo_3 (kb_J0_init_db425_0 23 rfl)
theorem dJ0_init_db425_24 : decode cJ0_init_db425 24 = .ok (.putfield 15, 3) := dqo_181 0 15 (kb_J0_init_db425_0 24 rfl) (kb_J0_init_db425_0 25 rfl) (kb_J0_init_db425_0 26 rfl)
theorem dJ0_init_db425_27 : decode cJ0_init_db425 27 = .ok (.aload_n 0, 1) := dqo_42 (kb_J0_init_db425_0 27 rfl)
theorem dJ0_init_db425_28 : decode cJ0_init_db425 28 = .ok (.aload_n 3, 1) := dqo_45 (kb_J0_init_db425_0 28 rfl)
theorem dJ0_init_db425_29 : decode cJ0_init_db425 29 = .ok (.iconst 0, 1) := dqo_3 (kb_J0_init_db425_0 29 rfl)
theorem dJ0_init_db425_30 : decode cJ0_init_db425 30 = .ok (.iload 4, 2) := dqo_21 4 (kb_J0_init_db425_0 30 rfl) (kb_J0_init_db425_0 31 rfl)
theorem dJ0_init_db425_32 : decode cJ0_init_db425 32 = .ok (.invokestatic 54, 3) := dqo_184 0 54 (kb_J0_init_db425_0 32 rfl) (kb_J0_init_db425_0 33 rfl) (kb_J0_init_db425_0 34 rfl)
theorem dJ0_init_db425_35 : decode cJ0_init_db425 35 = .ok (.putfield 9, 3) := dqo_181 0 9 (kb_J0_init_db425_0 35 rfl) (kb_J0_init_db425_0 36 rfl) (kb_J0_init_db425_0 37 rfl)
theorem dJ0_init_db425_38 : decode cJ0_init_db425 38 = .ok (.goto 59, 3) := dqo_167 0 59 (by decide) (kb_J0_init_db425_0 38 rfl) (kb_J0_init_db425_0 39 rfl) (kb_J0_init_db425_0 40 rfl)
theorem dJ0_init_db425_97 : decode cJ0_init_db425 97 = .ok (.return_, 1) := dqo_177 (kb_J0_init_db425_1 33 rfl)
theorem pk_J4_length_8abf5 : PkV RJ4 yJ4_length_8abf5 cJ4_length_8abf5 1 (some .int) 0 := ⟨⟨qi_J4_length_8abf5, qs_J4_length_8abf5, qz_J4, qc_J4_length_8abf5⟩, rfl, mh_J4.1, mh_J4.2, pd_10⟩
theorem pk_J5_getValue_6d5f1 : PkU yJ5_getValue_6d5f1 cJ5_getValue_6d5f1 1 (some (.array .byte)) 0 := ⟨⟨qe_J5_getValue_6d5f1, qi_J5_getValue_6d5f1, qc_J5_getValue_6d5f1⟩, Or.inl qs_J5_getValue_6d5f1, by decide +kernel⟩
theorem pk_J7_copyOfRange_39247 : PkS yJ7_copyOfRange_39247 cJ7_copyOfRange_39247 3 (some (.array .byte)) 3 := ⟨⟨qt_J7_copyOfRange_39247, qz_J7, qc_J7_copyOfRange_39247⟩, mh_J7.1, mh_J7.2, pd_34⟩
set_option maxRecDepth 100000 in
set_option maxHeartbeats 400000 in
theorem C_strInit {l : Launch} {D : va_G} {cy : Nat → ClassId} {X : (Nat → Prop) → State → Heap → Prop} {aK aV : Nat → Nat} {tO tT : Nat} {gO gT : Nat → Int32} {U E : va_W} {a : Nat} {b : Nat} {v : Nat} {m : Nat} {n : Nat} {g : Nat → Int32} {ml : Int32} {tl : List Int32} (hX : EnvS X cy aK aV tO tT gO gT) (hnm : n ≤ m) (hm : m < 1000000) (hf : TXT g n tl) : Cm l D cy X yJ0_init_db425 cJ0_init_db425 5 none (rmk 3 1 n 200) [.ref a, .ref b, .null] (U ++ ((a, Sum.inr (0, [Value.null, Value.int (nI 0), Value.int (nI 0), Value.int (nI 0)])) :: SBO b v ml n :: BYO cy v m g :: E)) (fun v1 w1 => ∃ v9 : Nat, ∃ g9 : Nat → Int32, (TXT g9 n tl) ∧ v1 = none ∧ w1 = U ++ (STO a v9 (nI 0) (nI 0) :: BYO cy v9 n g9 :: SBO b v ml n :: BYO cy v m g :: E)) (fun _ => False) := by
  refine Cm.ofF [some (.ref a), some (.ref b), some (.null), none, none] (plainFor_of_name pn_J0) rfl (Nat.le_of_ble_eq_true rfl) ?_
  intro p e s mI args below meth c A C hE hr hnt hn
  refine r_aload_n C dJ0_init_db425_0 rfl ?_
  refine r_objI C qm_J0_1 dJ0_init_db425_1 (Nat.le_of_ble_eq_true rfl) (Nat.le_of_ble_eq_true rfl) ?_
  refine r_aload_n C dJ0_init_db425_4 rfl ?_
  refine t_perm [(a, Sum.inr (0, [Value.null, Value.int (nI 0), Value.int (nI 0), Value.int (nI 0)])), SBO b v ml n, BYO cy v m g] [SBO b v ml n, (a, Sum.inr (0, [Value.null, Value.int (nI 0), Value.int (nI 0), Value.int (nI 0)])), BYO cy v m g] [1, 0, 2] rfl (by decide) rfl (w' := U ++ (SBO b v ml n :: (a, Sum.inr (0, [Value.null, Value.int (nI 0), Value.int (nI 0), Value.int (nI 0)])) :: BYO cy v m g :: E)) rfl ?_
  refine c_U (st := []) hX C hE (C_getValue (U := U) (E := ((a, Sum.inr (0, [Value.null, Value.int (nI 0), Value.int (nI 0), Value.int (nI 0)])) :: BYO cy v m g :: E)) (b := b) (v := v) (n := n) (ml := ml) hX ) pk_J5_getValue_6d5f1 qm_J0_552 (U.length + 0) (us_g rfl) rfl rfl (Nat.le_of_ble_eq_true rfl) dJ0_init_db425_5 ⟨Nat.le_of_ble_eq_true rfl, Nat.le_of_ble_eq_true rfl⟩ ⟨by first | (simp only [rmk, rmz]; omega) | (simp only [rmk, rmz]; done) | omega, by first | (simp only [rmk, rmz]; omega) | (simp only [rmk, rmz]; done) | omega⟩ (fun v9 w9 h9 => ?_) (fun _ h9 => h9.elim)
  obtain ⟨rfl, rfl⟩ := h9
  refine r_astore_n C dJ0_init_db425_8 (by decide) rfl ?_
  refine r_aload_n C dJ0_init_db425_9 rfl ?_
  refine c_UL (st := []) hX C hE (C_sbLength (U := U) (E := ((a, Sum.inr (0, [Value.null, Value.int (nI 0), Value.int (nI 0), Value.int (nI 0)])) :: BYO cy v m g :: E)) (b := b) (v := v) (n := n) (ml := ml) hX ) pk_J4_length_8abf5 qm_J0_549 (U.length + 0) (us_g rfl) rfl rfl (Nat.le_of_ble_eq_true rfl) dJ0_init_db425_10 ⟨Nat.le_of_ble_eq_true rfl, Nat.le_of_ble_eq_true rfl⟩ ⟨by first | (simp only [rmk, rmz]; omega) | (simp only [rmk, rmz]; done) | omega, by first | (simp only [rmk, rmz]; omega) | (simp only [rmk, rmz]; done) | omega⟩ (fun v9 w9 h9 => ?_) (fun _ h9 => h9.elim)
  obtain ⟨rfl, rfl⟩ := h9
  refine r_istore C dJ0_init_db425_13 (by decide) rfl ?_
  refine r_aload_n C dJ0_init_db425_15 rfl ?_
  refine c_U (st := []) hX C hE (C_isLatin1 (U := U) (E := ((a, Sum.inr (0, [Value.null, Value.int (nI 0), Value.int (nI 0), Value.int (nI 0)])) :: BYO cy v m g :: E)) (b := b) (v := v) (n := n) (ml := ml) hX ) pk_J5_isLatin1_aae02 qm_J0_1047 (U.length + 0) (us_g rfl) rfl rfl (Nat.le_of_ble_eq_true rfl) dJ0_init_db425_16 ⟨Nat.le_of_ble_eq_true rfl, Nat.le_of_ble_eq_true rfl⟩ ⟨by first | (simp only [rmk, rmz]; omega) | (simp only [rmk, rmz]; done) | omega, by first | (simp only [rmk, rmz]; omega) | (simp only [rmk, rmz]; done) | omega⟩ (fun v9 w9 h9 => ?_) (fun _ h9 => h9.elim)
  obtain ⟨rfl, rfl⟩ := h9
  refine r_ifN_eq (a := 1) (tgt := 41) C (by first | omega | (simp [up2, *]; done) | (simp [up2, *]; omega) | (simp only [up2_eq]; omega) | (split <;> omega)) dJ0_init_db425_19 (by decide) (fun h19_1 => ?_) (fun h19_1 => ?_)
  · exact absurd h19_1 (by first | omega | (simp [up2, *]; done) | (simp [up2, *]; omega) | (simp only [up2_eq]; omega) | (split <;> omega))
  · skip
    refine r_aload_n C dJ0_init_db425_22 rfl ?_
    refine r_iconst (v := (nI 0)) C dJ0_init_db425_23 (by decide) ?_
    refine t_stp (ty := .byte) C 1 1 rfl (by decide) rfl qf_J0_15 rfl rfl (hn.trans rfl) rfl rfl rfl dJ0_init_db425_24 (L' := (SBO b v ml n :: (a, Sum.inr (0, [Value.null, Value.int (nI 0), Value.int (nI 0), Value.int (nI 0)])) :: BYO cy v m g :: E)) rfl ?_
    refine r_aload_n C dJ0_init_db425_27 rfl ?_
    refine r_aload_n C dJ0_init_db425_28 rfl ?_
    refine r_iconst (v := (nI 0)) C dJ0_init_db425_29 (by decide) ?_
    refine r_iload C dJ0_init_db425_30 rfl ?_
    refine t_perm [SBO b v ml n, (a, Sum.inr (0, [Value.null, Value.int (nI 0), Value.int (nI 0), Value.int (nI 0)])), BYO cy v m g] [BYO cy v m g, SBO b v ml n, (a, Sum.inr (0, [Value.null, Value.int (nI 0), Value.int (nI 0), Value.int (nI 0)]))] [2, 0, 1] rfl (by decide) rfl (w' := U ++ (BYO cy v m g :: SBO b v ml n :: (a, Sum.inr (0, [Value.null, Value.int (nI 0), Value.int (nI 0), Value.int (nI 0)])) :: E)) rfl ?_
    refine c_S (st := [.ref a]) hX.stb C hE (C_copyRange (U := U) (E := (SBO b v ml n :: (a, Sum.inr (0, [Value.null, Value.int (nI 0), Value.int (nI 0), Value.int (nI 0)])) :: E)) (v := v) (m := m) (g := g) (n := n) hX (by first | omega | (simp [up2, *]; done) | (simp [up2, *]; omega) | (simp only [up2_eq]; omega) | (split <;> omega)) (by first | omega | (simp [up2, *]; done) | (simp [up2, *]; omega) | (simp only [up2_eq]; omega) | (split <;> omega)) hf) pk_J7_copyOfRange_39247 qm_J0_54 rfl rfl (Nat.le_of_ble_eq_true rfl) dJ0_init_db425_32 ⟨Nat.le_of_ble_eq_true rfl, Nat.le_of_ble_eq_true rfl⟩ ⟨by first | (simp only [rmk, rmz]; omega) | (simp only [rmk, rmz]; done) | omega, by first | (simp only [rmk, rmz]; omega) | (simp only [rmk, rmz]; done) | omega⟩ (fun v9 w9 h9 => ?_) (fun _ h9 => h9.elim)
    obtain ⟨v9_2, g9_3, f_4, rfl, rfl⟩ := h9
    refine t_stp (ty := .array .byte) C 3 0 rfl (by decide) rfl qf_J0_9 rfl rfl (hn.trans rfl) rfl rfl rfl dJ0_init_db425_35 (L' := (BYO cy v9_2 n g9_3 :: BYO cy v m g :: SBO b v ml n :: STO a v9_2 (nI 0) (nI 0) :: E)) rfl ?_
    refine r_goto (tgt := 97) C dJ0_init_db425_38 (by decide) ?_
    refine t_perm [BYO cy v9_2 n g9_3, BYO cy v m g, SBO b v ml n, STO a v9_2 (nI 0) (nI 0)] [STO a v9_2 (nI 0) (nI 0), BYO cy v9_2 n g9_3, SBO b v ml n, BYO cy v m g] [3, 0, 2, 1] rfl (by decide) rfl (w' := U ++ (STO a v9_2 (nI 0) (nI 0) :: BYO cy v9_2 n g9_3 :: SBO b v ml n :: BYO cy v m g :: E)) rfl ?_
    exact r_vret C hr dJ0_init_db425_97 ⟨v9_2, g9_3, f_4, rfl, rfl⟩ (by first | (simp only [rmk, rmz]; omega) | (simp only [rmk, rmz]; done) | omega) (by first | (simp only [rmk, rmz]; omega) | (simp only [rmk, rmz]; done) | omega)
theorem dJ0_init_81219_0 : decode cJ0_init_81219 0 = .ok (.aload_n 0, 1) := dqo_42 (kb_of ke_J0_init_81219 0 rfl)
theorem dJ0_init_81219_1 : decode cJ0_init_81219 1 = .ok (.aload_n 1, 1) := dqo_43 (kb_of ke_J0_init_81219 1 rfl)
theorem dJ0_init_81219_2 : decode cJ0_init_81219 2 = .ok (.aconst_null, 1) := dqo_1 (kb_of ke_J0_init_81219 2 rfl)
theorem dJ0_init_81219_3 : decode cJ0_init_81219 3 = .ok (.invokespecial 489, 3) := dqo_183 1 233 (kb_of ke_J0_init_81219 3 rfl) (kb_of ke_J0_init_81219 4 rfl) (kb_of ke_J0_init_81219 5 rfl)
theorem dJ0_init_81219_6 : decode cJ0_init_81219 6 = .ok (.return_, 1) := dqo_177 (kb_of ke_J0_init_81219 6 rfl)
theorem pk_J0_init_db425 : PkI yJ0_init_db425 cJ0_init_db425 5 2 := ⟨⟨qi_J0_init_db425, qz_J0, qc_J0_init_db425⟩, rfl, mh_J0.1, mh_J0.2, pd_35⟩
set_option maxRecDepth 100000 in
set_option maxHeartbeats 400000 in
theorem C_strInit0 {l : Launch} {D : va_G} {cy : Nat → ClassId} {X : (Nat → Prop) → State → Heap → Prop} {aK aV : Nat → Nat} {tO tT : Nat} {gO gT : Nat → Int32} {U E : va_W} {a : Nat} {b : Nat} {v : Nat} {m : Nat} {n : Nat} {g : Nat → Int32} {ml : Int32} {tl : List Int32} (hX : EnvS X cy aK aV tO tT gO gT) (hnm : n ≤ m) (hm : m < 1000000) (hf : TXT g n tl) : Cm l D cy X yJ0_init_81219 cJ0_init_81219 2 none (rmk 4 1 n 240) [.ref a, .ref b] (U ++ ((a, Sum.inr (0, [Value.null, Value.int (nI 0), Value.int (nI 0), Value.int (nI 0)])) :: SBO b v ml n :: BYO cy v m g :: E)) (fun v1 w1 => ∃ v9 : Nat, ∃ g9 : Nat → Int32, (TXT g9 n tl) ∧ v1 = none ∧ w1 = U ++ (STO a v9 (nI 0) (nI 0) :: BYO cy v9 n g9 :: SBO b v ml n :: BYO cy v m g :: E)) (fun _ => False) := by
  refine Cm.ofF [some (.ref a), some (.ref b)] (plainFor_of_name pn_J0) rfl (Nat.le_of_ble_eq_true rfl) ?_
  intro p e s mI args below meth c A C hE hr hnt hn
  refine r_aload_n C dJ0_init_81219_0 rfl ?_
  refine r_aload_n C dJ0_init_81219_1 rfl ?_
  refine j_null C dJ0_init_81219_2 ?_
  refine c_I (st := []) hX.stb C hE (C_strInit (U := U) (E := E) (a := a) (b := b) (v := v) (m := m) (n := n) (g := g) (ml := ml) hX (by first | omega | (simp [up2, *]; done) | (simp [up2, *]; omega) | (simp only [up2_eq]; omega) | (split <;> omega)) (by first | omega | (simp [up2, *]; done) | (simp [up2, *]; omega) | (simp only [up2_eq]; omega) | (split <;> omega)) hf) pk_J0_init_db425 qm_J0_489 rfl rfl (Nat.le_of_ble_eq_true rfl) dJ0_init_81219_3 ⟨Nat.le_of_ble_eq_true rfl, Nat.le_of_ble_eq_true rfl⟩ ⟨by first | (simp only [rmk, rmz]; omega) | (simp only [rmk, rmz]; done) | omega, by first | (simp only [rmk, rmz]; omega) | (simp only [rmk, rmz]; done) | omega⟩ (fun v9 w9 h9 => ?_) (fun _ h9 => h9.elim)
  obtain ⟨v9_1, g9_2, f_3, rfl, rfl⟩ := h9
  exact r_vret C hr dJ0_init_81219_6 ⟨v9_1, g9_2, f_3, rfl, rfl⟩ (by first | (simp only [rmk, rmz]; omega) | (simp only [rmk, rmz]; done) | omega) (by first | (simp only [rmk, rmz]; omega) | (simp only [rmk, rmz]; done) | omega)
theorem dJ4_toString_0e30d_0 : decode cJ4_toString_0e30d 0 = .ok (.new 18, 3) := dqo_187 0 18 (kb_of ke_J4_toString_0e30d 0 rfl) (kb_of ke_J4_toString_0e30d 1 rfl) (kb_of ke_J4_toString_0e30d 2 rfl)
theorem dJ4_toString_0e30d_3 : decode cJ4_toString_0e30d 3 = .ok (.dup, 1) := dqo_89 (kb_of ke_J4_toString_0e30d 3 rfl)
theorem dJ4_toString_0e30d_4 : decode cJ4_toString_0e30d 4 = .ok (.aload_n 0, 1) := dqo_42 (kb_of ke_J4_toString_0e30d 4 rfl)
theorem dJ4_toString_0e30d_5 : decode cJ4_toString_0e30d 5 = .ok (.invokespecial 137, 3) := dqo_183 0 137 (kb_of ke_J4_toString_0e30d 5 rfl) (kb_of ke_J4_toString_0e30d 6 rfl) (kb_of ke_J4_toString_0e30d 7 rfl)
theorem dJ4_toString_0e30d_8 : decode cJ4_toString_0e30d 8 = .ok (.areturn, 1) := dqo_176 (kb_of ke_J4_toString_0e30d 8 rfl)
theorem pk_J0_init_81219 : PkI yJ0_init_81219 cJ0_init_81219 2 1 := ⟨⟨qi_J0_init_81219, qz_J0, qc_J0_init_81219⟩, rfl, mh_J0.1, mh_J0.2, pd_36⟩
set_option maxRecDepth 100000 in
set_option maxHeartbeats 400000 in
theorem C_toString {l : Launch} {D : va_G} {cy : Nat → ClassId} {X : (Nat → Prop) → State → Heap → Prop} {aK aV : Nat → Nat} {tO tT : Nat} {gO gT : Nat → Int32} {U E : va_W} {b : Nat} {v : Nat} {m : Nat} {n : Nat} {g : Nat → Int32} {ml : Int32} {tl : List Int32} (hX : EnvS X cy aK aV tO tT gO gT) (hnm : n ≤ m) (hm : m < 1000000) (hf : TXT g n tl) : Cm l D cy X yJ4_toString_0e30d cJ4_toString_0e30d 1 (some (.object "java/lang/String")) (rmk 5 2 (n + 4) 300) [.ref b] (U ++ (SBO b v ml n :: BYO cy v m g :: E)) (fun v1 w1 => ∃ a9 : Nat, ∃ v9 : Nat, ∃ g9 : Nat → Int32, (TXT g9 n tl) ∧ v1 = some (.ref a9) ∧ w1 = U ++ (STO a9 v9 (nI 0) (nI 0) :: BYO cy v9 n g9 :: SBO b v ml n :: BYO cy v m g :: E)) (fun _ => False) := by
  refine Cm.ofF [some (.ref b)] (plainFor_of_name pn_J4) rfl (Nat.le_of_ble_eq_true rfl) ?_
  intro p e s mI args below meth c A C hE hr hnt hn
  refine r_new (fs := [.null, .int (nI 0), .int (nI 0), .int (nI 0)]) C qu_J0 tyJ0 tyJ0_ok qk_J4_18 qo_J0 qz_J0 (ci := 0) rfl fs0_J0 (by first | (simp only [rmk, rmz]; omega) | (simp only [rmk, rmz]; done) | omega) (by first | (simp only [rmk, rmz]; omega) | (simp only [rmk, rmz]; done) | omega) dJ4_toString_0e30d_0 (fun q_1 => ?_)
  refine t_front ?_
  refine r_dup C dJ4_toString_0e30d_3 rfl ?_
  refine r_aload_n C dJ4_toString_0e30d_4 rfl ?_
  refine c_I (st := [.ref q_1]) hX.stb C hE (C_strInit0 (U := U) (E := E) (a := q_1) (b := b) (v := v) (m := m) (n := n) (g := g) (ml := ml) hX (by first | omega | (simp [up2, *]; done) | (simp [up2, *]; omega) | (simp only [up2_eq]; omega) | (split <;> omega)) (by first | omega | (simp [up2, *]; done) | (simp [up2, *]; omega) | (simp only [up2_eq]; omega) | (split <;> omega)) hf) pk_J0_init_81219 qm_J4_137 rfl rfl (Nat.le_of_ble_eq_true rfl) dJ4_toString_0e30d_5 ⟨Nat.le_of_ble_eq_true rfl, Nat.le_of_ble_eq_true rfl⟩ ⟨by first | (simp only [rmk, rmz]; omega) | (simp only [rmk, rmz]; done) | omega, by first | (simp only [rmk, rmz]; omega) | (simp only [rmk, rmz]; done) | omega⟩ (fun v9 w9 h9 => ?_) (fun _ h9 => h9.elim)
  obtain ⟨v9_2, g9_3, f_4, rfl, rfl⟩ := h9
  exact r_aret C hr (Or.inl ⟨_, rfl⟩) dJ4_toString_0e30d_8 ⟨q_1, v9_2, g9_3, f_4, rfl, rfl⟩ (by first | (simp only [rmk, rmz]; omega) | (simp only [rmk, rmz]; done) | omega) (by first | (simp only [rmk, rmz]; omega) | (simp only [rmk, rmz]; done) | omega)
theorem dJ5_setLength_d00df_0 : decode cJ5_setLength_d00df 0 = .ok (.iload_n 1, 1) := dqo_27 (kb_J5_setLength_d00df_0 0 rfl)
theorem dJ5_setLength_d00df_1 : decode cJ5_setLength_d00df 1 = .ok (.ifCond .ge 12, 3) := dqo_156 0 12 (by decide) (kb_J5_setLength_d00df_0 1 rfl) (kb_J5_setLength_d00df_0 2 rfl) (kb_J5_setLength_d00df_0 3 rfl)
theorem dJ5_setLength_d00df_13 : decode cJ5_setLength_d00df 13 = .ok (.aload_n 0, 1) := dqo_42 (kb_J5_setLength_d00df_0 13 rfl)
theorem dJ5_setLength_d00df_14 : decode cJ5_setLength_d00df 14 = .ok (.iload_n 1, 1) := dqo_27 (kb_J5_setLength_d00df_0 14 rfl)
theorem dJ5_setLength_d00df_15 : decode cJ5_setLength_d00df 15 = .ok (.invokevirtual 100, 3) := dqo_182 0 100 (kb_J5_setLength_d00df_0 15 rfl) (kb_J5_setLength_d00df_0 16 rfl) (kb_J5_setLength_d00df_0 17 rfl)
theorem dJ5_setLength_d00df_18 : decode cJ5_setLength_d00df 18 = .ok (.aload_n 0, 1) := dqo_42 (kb_J5_setLength_d00df_0 18 rfl)
theorem dJ5_setLength_d00df_19 : decode cJ5_setLength_d00df 19 = .ok (.getfield 79, 3) := dqo_180 0 79 (kb_J5_setLength_d00df_0 19 rfl) (kb_J5_setLength_d00df_0 20 rfl) (kb_J5_setLength_d00df_0 21 rfl)
theorem dJ5_setLength_d00df_22 : decode cJ5_setLength_d00df 22 = .ok (.iload_n 1, 1) := dqo_27 (kb_J5_setLength_d00df_0 22 rfl)
theorem dJ5_setLength_d00df_23 : decode cJ5_setLength_d00df 23 = .ok (.if_icmp .ge 40, 3) := dqo_162 0 40 (by decide) (kb_J5_setLength_d00df_0 23 rfl) (kb_J5_setLength_d00df_0 24 rfl) (kb_J5_setLength_d00df_0 25 rfl)
theorem dJ5_setLength_d00df_63 : decode cJ5_setLength_d00df 63 = .ok (.aload_n 0, 1) := dqo_42 (kb_J5_setLength_d00df_0 63 rfl)
theorem dJ5_setLength_d00df_64 : decode cJ5_setLength_d00df 64 = .ok (.getfield 79, 3) := dqo_180 0 79 (kb_J5_setLength_d00df_1 0 rfl) (kb_J5_setLength_d00df_1 1 rfl) (kb_J5_setLength_d00df_1 2 rfl)
theorem dJ5_setLength_d00df_67 : decode cJ5_setLength_d00df 67 = .ok (.iload_n 1, 1) := dqo_27 (kb_J5_setLength_d00df_1 3 rfl)
theorem dJ5_setLength_d00df_68 : decode cJ5_setLength_d00df 68 = .ok (.if_icmp .le 8, 3) := dqo_164 0 8 (by decide) (kb_J5_setLength_d00df_1 4 rfl) (kb_J5_setLength_d00df_1 5 rfl) (kb_J5_setLength_d00df_1 6 rfl)
theorem dJ5_setLength_d00df_71 : decode cJ5_setLength_d00df 71 = .ok (.aload_n 0, 1) := dqo_42 (kb_J5_setLength_d00df_1 7 rfl)
theorem dJ5_setLength_d00df_72 : decode cJ5_setLength_d00df 72 = .ok (.iconst 1, 1) := dqo_4 (kb_J5_setLength_d00df_1 8 rfl)
theorem dJ5_setLength_d00df_73 : decode cJ5_setLength_d00df 73 = .ok (.putfield 73, 3) := dqo_181 0 73 (kb_J5_setLength_d00df_1 9 rfl) (kb_J5_setLength_d00df_1 10 rfl) (kb_J5_setLength_d00df_1 11 rfl)
theorem dJ5_setLength_d00df_76 : decode cJ5_setLength_d00df 76 = .ok (.aload_n 0, 1) := dqo_42 (kb_J5_setLength_d00df_1 12 rfl)
theorem dJ5_setLength_d00df_77 : decode cJ5_setLength_d00df 77 = .ok (.iload_n 1, 1) := dqo_27 (kb_J5_setLength_d00df_1 13 rfl)
theorem dJ5_setLength_d00df_78 : decode cJ5_setLength_d00df 78 = .ok (.putfield 79, 3) := dqo_181 0 79 (kb_J5_setLength_d00df_1 14 rfl) (kb_J5_setLength_d00df_1 15 rfl) (kb_J5_setLength_d00df_1 16 rfl)
theorem dJ5_setLength_d00df_81 : decode cJ5_setLength_d00df 81 = .ok (.return_, 1) := dqo_177 (kb_J5_setLength_d00df_1 17 rfl)
set_option maxRecDepth 100000 in
set_option maxHeartbeats 400000 in
theorem C_asbSetLen0 {l : Launch} {D : va_G} {cy : Nat → ClassId} {X : (Nat → Prop) → State → Heap → Prop} {aK aV : Nat → Nat} {tO tT : Nat} {gO gT : Nat → Int32} {U E : va_W} {b : Nat} {v : Nat} {m : Nat} {n : Nat} {g : Nat → Int32} {ml : Int32} (hX : EnvS X cy aK aV tO tT gO gT) (hm : m ≤ 65536) (hn2 : n < 300000) (hf : sb_Fit g) : Cm l D cy X yJ5_setLength_d00df cJ5_setLength_d00df 2 none (rmz 4 160) [.ref b, .int (nI 0)] (U ++ (SBO b v ml n :: BYO cy v m g :: E)) (fun v1 w1 => ∃ v9 : Nat, ∃ ml9 : Int32, ∃ g9 : Nat → Int32, (sb_Fit g9) ∧ v1 = none ∧ w1 = U ++ (SBO b v9 ml9 0 :: BYO cy v9 m g9 :: E)) (fun _ => False) := by
  refine Cm.ofF [some (.ref b), some (.int (nI 0))] (plainFor_of_name pn_J5) rfl (Nat.le_of_ble_eq_true rfl) ?_
  intro p e s mI args below meth c A C hE hr hnt hn
  refine r_iload_n C dJ5_setLength_d00df_0 rfl ?_
  refine r_ifN_ge (a := 0) (tgt := 13) C (by first | omega | (simp [up2, *]; done) | (simp [up2, *]; omega) | (simp only [up2_eq]; omega) | (split <;> omega)) dJ5_setLength_d00df_1 (by decide) (fun h1_1 => ?_) (fun h1_1 => ?_)
  · skip
    refine r_aload_n C dJ5_setLength_d00df_13 rfl ?_
    refine r_iload_n C dJ5_setLength_d00df_14 rfl ?_
    refine c_U (st := []) hX C hE (C_ensure (U := U) (E := E) (b := b) (v := v) (m := m) (n := n) (g := g) (ml := ml) (q := 0) hX (by first | omega | (simp [up2, *]; done) | (simp [up2, *]; omega) | (simp only [up2_eq]; omega) | (split <;> omega)) (by first | omega | (simp [up2, *]; done) | (simp [up2, *]; omega) | (simp only [up2_eq]; omega) | (split <;> omega)) hf) pk_J5_ensureCapacityInternal_d00df qm_J5_100 (U.length + 0) (us_g rfl) rfl rfl (Nat.le_of_ble_eq_true rfl) dJ5_setLength_d00df_15 ⟨Nat.le_of_ble_eq_true rfl, Nat.le_of_ble_eq_true rfl⟩ ⟨by simp only [rmk, rmz, gC, if_pos (Nat.zero_le m)]; omega, by simp only [rmk, rmz, gS, if_pos (Nat.zero_le m)]; omega⟩ (fun v9 w9 h9 => ?_) (fun _ h9 => h9.elim)
    obtain ⟨v9_2, g9_3, f_4, rfl, rfl⟩ := h9
    refine r_aload_n C dJ5_setLength_d00df_18 rfl ?_
    refine t_sbg C 0 3 rfl (by decide) qf_J5_79 rfl rfl dJ5_setLength_d00df_19 ?_
    refine r_iload_n C dJ5_setLength_d00df_22 rfl ?_
    refine r_icN_ge (a := n) (b := 0) (tgt := 63) C (by first | omega | (simp [up2, *]; done) | (simp [up2, *]; omega) | (simp only [up2_eq]; omega) | (split <;> omega)) (by first | omega | (simp [up2, *]; done) | (simp [up2, *]; omega) | (simp only [up2_eq]; omega) | (split <;> omega)) dJ5_setLength_d00df_23 (by decide) (fun h23_5 => ?_) (fun h23_5 => ?_)
    · skip
      refine r_aload_n C dJ5_setLength_d00df_63 rfl ?_
      refine t_sbg C 0 3 rfl (by decide) qf_J5_79 rfl rfl dJ5_setLength_d00df_64 ?_
      refine r_iload_n C dJ5_setLength_d00df_67 rfl ?_
      refine r_icN_le (a := n) (b := 0) (tgt := 76) C (by first | omega | (simp [up2, *]; done) | (simp [up2, *]; omega) | (simp only [up2_eq]; omega) | (split <;> omega)) (by first | omega | (simp [up2, *]; done) | (simp [up2, *]; omega) | (simp only [up2_eq]; omega) | (split <;> omega)) dJ5_setLength_d00df_68 (by decide) (fun h68_6 => ?_) (fun h68_6 => ?_)
      · first
        | exfalso; first | omega | contradiction
        | skip
          refine r_aload_n C dJ5_setLength_d00df_76 rfl ?_
          refine r_iload_n C dJ5_setLength_d00df_77 rfl ?_
          refine t_sbp (ty := .int) C 0 3 rfl (by decide) rfl qf_J5_79 rfl rfl rfl rfl rfl dJ5_setLength_d00df_78 (L' := (SBO b v9_2 ml 0 :: BYO cy v9_2 (sb_cap 0 m) g9_3 :: E)) rfl ?_
          exact r_vret C hr dJ5_setLength_d00df_81 ⟨v9_2, ml, g9_3, f_4.1, rfl, by rw [show sb_cap 0 m = m from if_pos (Nat.zero_le m)]⟩ (by simp only [rmk, rmz, gC, if_pos (Nat.zero_le m)]; omega) (by simp only [rmk, rmz, gS, if_pos (Nat.zero_le m)]; omega)
      · first
        | exfalso; first | omega | contradiction
        | skip
          refine r_aload_n C dJ5_setLength_d00df_71 rfl ?_
          refine r_iconst (v := (nI 1)) C dJ5_setLength_d00df_72 (by decide) ?_
          refine t_sbp (ty := .boolean) C 0 2 rfl (by decide) rfl qf_J5_73 rfl rfl rfl rfl rfl dJ5_setLength_d00df_73 (L' := (SBO b v9_2 (nI 1) n :: BYO cy v9_2 (sb_cap 0 m) g9_3 :: E)) rfl ?_
          refine r_aload_n C dJ5_setLength_d00df_76 rfl ?_
          refine r_iload_n C dJ5_setLength_d00df_77 rfl ?_
          refine t_sbp (ty := .int) C 0 3 rfl (by decide) rfl qf_J5_79 rfl rfl rfl rfl rfl dJ5_setLength_d00df_78 (L' := (SBO b v9_2 (nI 1) 0 :: BYO cy v9_2 (sb_cap 0 m) g9_3 :: E)) rfl ?_
          exact r_vret C hr dJ5_setLength_d00df_81 ⟨v9_2, (nI 1), g9_3, f_4.1, rfl, by rw [show sb_cap 0 m = m from if_pos (Nat.zero_le m)]⟩ (by simp only [rmk, rmz, gC, if_pos (Nat.zero_le m)]; omega) (by simp only [rmk, rmz, gS, if_pos (Nat.zero_le m)]; omega)
    · exact absurd h23_5 (by first | omega | (simp [up2, *]; done) | (simp [up2, *]; omega) | (simp only [up2_eq]; omega) | (split <;> omega))
  · exact absurd h1_1 (by first | omega | (simp [up2, *]; done) | (simp [up2, *]; omega) | (simp only [up2_eq]; omega) | (split <;> omega))
theorem dJ4_setLength_d00df_0 : decode cJ4_setLength_d00df 0 = .ok (.aload_n 0, 1) := dqo_42 (kb_of ke_J4_setLength_d00df 0 rfl)
theorem dJ4_setLength_d00df_1 : decode cJ4_setLength_d00df 1 = .ok (.iload_n 1, 1) := dqo_27 (kb_of ke_J4_setLength_d00df 1 rfl)
theorem dJ4_setLength_d00df_2 : decode cJ4_setLength_d00df 2 = .ok (.invokespecial 333, 3) := dqo_183 1 77 (kb_of ke_J4_setLength_d00df 2 rfl) (kb_of ke_J4_setLength_d00df 3 rfl) (kb_of ke_J4_setLength_d00df 4 rfl)
theorem dJ4_setLength_d00df_5 : decode cJ4_setLength_d00df 5 = .ok (.return_, 1) := dqo_177 (kb_of ke_J4_setLength_d00df 5 rfl)
theorem pkS_J5_setLength_d00df : PkSU yJ5_setLength_d00df cJ5_setLength_d00df 2 none 1 := ⟨⟨qe_J5_setLength_d00df, qi_J5_setLength_d00df, qc_J5_setLength_d00df⟩, by decide +kernel⟩
set_option maxRecDepth 100000 in
set_option maxHeartbeats 400000 in
theorem C_sbSetLen0 {l : Launch} {D : va_G} {cy : Nat → ClassId} {X : (Nat → Prop) → State → Heap → Prop} {aK aV : Nat → Nat} {tO tT : Nat} {gO gT : Nat → Int32} {U E : va_W} {b : Nat} {v : Nat} {m : Nat} {n : Nat} {g : Nat → Int32} {ml : Int32} (hX : EnvS X cy aK aV tO tT gO gT) (hm : m ≤ 65536) (hn2 : n < 300000) (hf : sb_Fit g) : Cm l D cy X yJ4_setLength_d00df cJ4_setLength_d00df 2 none (rmz 5 200) [.ref b, .int (nI 0)] (U ++ (SBO b v ml n :: BYO cy v m g :: E)) (fun v1 w1 => ∃ v9 : Nat, ∃ ml9 : Int32, ∃ g9 : Nat → Int32, (sb_Fit g9) ∧ v1 = none ∧ w1 = U ++ (SBO b v9 ml9 0 :: BYO cy v9 m g9 :: E)) (fun _ => False) := by
  refine Cm.ofF [some (.ref b), some (.int (nI 0))] (plainFor_of_name pn_J4) rfl (Nat.le_of_ble_eq_true rfl) ?_
  intro p e s mI args below meth c A C hE hr hnt hn
  refine r_aload_n C dJ4_setLength_d00df_0 rfl ?_
  refine r_iload_n C dJ4_setLength_d00df_1 rfl ?_
  refine c_SU (st := []) hX C hE (C_asbSetLen0 (U := U) (E := E) (b := b) (v := v) (m := m) (n := n) (g := g) (ml := ml) hX (by first | omega | (simp [up2, *]; done) | (simp [up2, *]; omega) | (simp only [up2_eq]; omega) | (split <;> omega)) (by first | omega | (simp [up2, *]; done) | (simp [up2, *]; omega) | (simp only [up2_eq]; omega) | (split <;> omega)) hf) pkS_J5_setLength_d00df qm_J4_333 (U.length + 0) (us_g rfl) rfl rfl (Nat.le_of_ble_eq_true rfl) dJ4_setLength_d00df_2 ⟨Nat.le_of_ble_eq_true rfl, Nat.le_of_ble_eq_true rfl⟩ ⟨by first | (simp only [rmk, rmz]; omega) | (simp only [rmk, rmz]; done) | omega, by first | (simp only [rmk, rmz]; omega) | (simp only [rmk, rmz]; done) | omega⟩ (fun v9 w9 h9 => ?_) (fun _ h9 => h9.elim)
  obtain ⟨v9_1, ml9_2, g9_3, f_4, rfl, rfl⟩ := h9
  exact r_vret C hr dJ4_setLength_d00df_5 ⟨v9_1, ml9_2, g9_3, f_4, rfl, rfl⟩ (by first | (simp only [rmk, rmz]; omega) | (simp only [rmk, rmz]; done) | omega) (by first | (simp only [rmk, rmz]; omega) | (simp only [rmk, rmz]; done) | omega)
