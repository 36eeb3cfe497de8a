/-! TEXTS: writeTo -/
/-! ROWS WRITTEN INTO A BUILDER -/
def tlx (x : Nat → Int32) : Nat → Nat
  | 0 => 1
  | k + 1 => tlx x k + (if 0 < k then 2 else 0) + sz9 (x k)
theorem tlx_le (x : Nat → Int32) (k : Nat) : tlx x k ≤ 1 + 5 * k := by
  induction k with
  | zero => exact Nat.le_refl _
  | succ k ih =>
    have := sz9_le (x k)
    show tlx x k + (if 0 < k then 2 else 0) + sz9 (x k) ≤ _
    split <;> omega
def potC (m : Nat) : Nat := if m < 34 then 2 else if m < 70 then 1 else 0
def potS (m : Nat) : Nat := if m < 34 then 104 else if m < 70 then 70 else 0
def c3 (m : Nat) : Prop := m = 16 ∨ m = 34 ∨ m = 70
theorem c3_step {q m : Nat} (h : c3 m) (hq : q ≤ 70) (h3 : q ≤ m + 3) : c3 (sb_cap q m) ∧ gC q m + potC (sb_cap q m) ≤ potC m ∧ gS q m + potS (sb_cap q m) ≤ potS m := by
  rcases h with rfl | rfl | rfl
  · by_cases h1 : q ≤ 16
    · have e : sb_cap q 16 = 16 := if_pos h1
      rw [e, gC, gS, if_pos h1, if_pos h1]
      exact ⟨Or.inl rfl, by decide, by decide⟩
    · have e : sb_cap q 16 = 34 := by rw [sb_cap, if_neg h1, if_neg (by omega)]
      rw [e, gC, gS, if_neg h1, if_neg h1, e]
      exact ⟨Or.inr (Or.inl rfl), by decide, by decide⟩
  · by_cases h1 : q ≤ 34
    · have e : sb_cap q 34 = 34 := if_pos h1
      rw [e, gC, gS, if_pos h1, if_pos h1]
      exact ⟨Or.inr (Or.inl rfl), by decide, by decide⟩
    · have e : sb_cap q 34 = 70 := by rw [sb_cap, if_neg h1, if_neg (by omega)]
      rw [e, gC, gS, if_neg h1, if_neg h1, e]
      exact ⟨Or.inr (Or.inr rfl), by decide, by decide⟩
  · have e : sb_cap q 70 = 70 := if_pos hq
    rw [e, gC, gS, if_pos hq, if_pos hq]
    exact ⟨Or.inr (Or.inr rfl), by decide, by decide⟩
theorem c3_le {m : Nat} (h : c3 m) : m ≤ 65536 := by
  rcases h with rfl | rfl | rfl <;> decide
theorem potC_le (m : Nat) : potC m ≤ 2 := by
  unfold potC
  split
  · omega
  · split <;> omega
theorem potS_le (m : Nat) : potS m ≤ 104 := by
  unfold potS
  split
  · omega
  · split <;> omega
/-- the first k items, with what stands between them -/
def jln (gO gT : Nat → Int32) (x : Nat → Int32) : Nat → List Int32
  | 0 => []
  | k + 1 => jln gO gT x k ++ (if 0 < k then [44, 32] else []) ++ dgl gO gT (x k)
theorem jln_up {gO gT x : Nat → Int32} {k : Nat} (hk : 0 < k) : jln gO gT x (k + 1) = jln gO gT x k ++ [44, 32] ++ dgl gO gT (x k) := by
  show jln gO gT x k ++ (if 0 < k then [44, 32] else []) ++ dgl gO gT (x k) = _
  rw [if_pos hk]
theorem jln_up0 {gO gT x : Nat → Int32} {k : Nat} (hk : ¬ 0 < k) : jln gO gT x (k + 1) = jln gO gT x k ++ dgl gO gT (x k) := by
  show jln gO gT x k ++ (if 0 < k then [44, 32] else []) ++ dgl gO gT (x k) = _
  rw [if_neg hk, List.append_nil]
/-- the whole text -/
def txl (gO gT : Nat → Int32) (x : Nat → Int32) (k : Nat) : List Int32 := chb 91 :: jln gO gT x k ++ [chb 93]

theorem dX1_writeTo_0 : decode cX1_writeTo 0 = .ok (.aload_n 1, 1) := dqo_43 (kb_of ke_X1_writeTo 0 rfl)
theorem dX1_writeTo_1 : decode cX1_writeTo 1 = .ok (.bipush 91, 2) := dqo_16 91 (by decide) (kb_of ke_X1_writeTo 1 rfl) (kb_of ke_X1_writeTo 2 rfl)
theorem dX1_writeTo_3 : decode cX1_writeTo 3 = .ok (.invokevirtual 69, 3) := dqo_182 0 69 (kb_of ke_X1_writeTo 3 rfl) (kb_of ke_X1_writeTo 4 rfl) (kb_of ke_X1_writeTo 5 rfl)
theorem dX1_writeTo_6 : decode cX1_writeTo 6 = .ok (.pop, 1) := dqo_87 (kb_of ke_X1_writeTo 6 rfl)
theorem dX1_writeTo_7 : decode cX1_writeTo 7 = .ok (.iconst 0, 1) := dqo_3 (kb_of ke_X1_writeTo 7 rfl)
theorem dX1_writeTo_8 : decode cX1_writeTo 8 = .ok (.istore_n 2, 1) := dqo_61 (kb_of ke_X1_writeTo 8 rfl)
theorem dX1_writeTo_9 : decode cX1_writeTo 9 = .ok (.iload_n 2, 1) := dqo_28 (kb_of ke_X1_writeTo 9 rfl)
theorem dX1_writeTo_10 : decode cX1_writeTo 10 = .ok (.aload_n 0, 1) := dqo_42 (kb_of ke_X1_writeTo 10 rfl)
theorem dX1_writeTo_11 : decode cX1_writeTo 11 = .ok (.getfield 29, 3) := dqo_180 0 29 (kb_of ke_X1_writeTo 11 rfl) (kb_of ke_X1_writeTo 12 rfl) (kb_of ke_X1_writeTo 13 rfl)
theorem dX1_writeTo_14 : decode cX1_writeTo 14 = .ok (.if_icmp .ge 30, 3) := dqo_162 0 30 (by decide) (kb_of ke_X1_writeTo 14 rfl) (kb_of ke_X1_writeTo 15 rfl) (kb_of ke_X1_writeTo 16 rfl)
theorem dX1_writeTo_17 : decode cX1_writeTo 17 = .ok (.iload_n 2, 1) := dqo_28 (kb_of ke_X1_writeTo 17 rfl)
theorem dX1_writeTo_18 : decode cX1_writeTo 18 = .ok (.ifCond .le 10, 3) := dqo_158 0 10 (by decide) (kb_of ke_X1_writeTo 18 rfl) (kb_of ke_X1_writeTo 19 rfl) (kb_of ke_X1_writeTo 20 rfl)
theorem dX1_writeTo_21 : decode cX1_writeTo 21 = .ok (.aload_n 1, 1) := dqo_43 (kb_of ke_X1_writeTo 21 rfl)
theorem dX1_writeTo_22 : decode cX1_writeTo 22 = .ok (.ldc 75, 2) := dqo_18 75 (kb_of ke_X1_writeTo 22 rfl) (kb_of ke_X1_writeTo 23 rfl)
theorem dX1_writeTo_24 : decode cX1_writeTo 24 = .ok (.invokevirtual 77, 3) := dqo_182 0 77 (kb_of ke_X1_writeTo 24 rfl) (kb_of ke_X1_writeTo 25 rfl) (kb_of ke_X1_writeTo 26 rfl)
theorem dX1_writeTo_27 : decode cX1_writeTo 27 = .ok (.pop, 1) := dqo_87 (kb_of ke_X1_writeTo 27 rfl)
theorem dX1_writeTo_28 : decode cX1_writeTo 28 = .ok (.aload_n 1, 1) := dqo_43 (kb_of ke_X1_writeTo 28 rfl)
theorem dX1_writeTo_29 : decode cX1_writeTo 29 = .ok (.aload_n 0, 1) := dqo_42 (kb_of ke_X1_writeTo 29 rfl)
theorem dX1_writeTo_30 : decode cX1_writeTo 30 = .ok (.iload_n 2, 1) := dqo_28 (kb_of ke_X1_writeTo 30 rfl)
theorem dX1_writeTo_31 : decode cX1_writeTo 31 = .ok (.invokevirtual 32, 3) := dqo_182 0 32 (kb_of ke_X1_writeTo 31 rfl) (kb_of ke_X1_writeTo 32 rfl) (kb_of ke_X1_writeTo 33 rfl)
theorem dX1_writeTo_34 : decode cX1_writeTo 34 = .ok (.invokevirtual 80, 3) := dqo_182 0 80 (kb_of ke_X1_writeTo 34 rfl) (kb_of ke_X1_writeTo 35 rfl) (kb_of ke_X1_writeTo 36 rfl)
theorem dX1_writeTo_37 : decode cX1_writeTo 37 = .ok (.pop, 1) := dqo_87 (kb_of ke_X1_writeTo 37 rfl)
theorem dX1_writeTo_38 : decode cX1_writeTo 38 = .ok (.iinc 2 1, 3) := dqo_132 2 1 (by decide) (kb_of ke_X1_writeTo 38 rfl) (kb_of ke_X1_writeTo 39 rfl) (kb_of ke_X1_writeTo 40 rfl)
theorem dX1_writeTo_41 : decode cX1_writeTo 41 = .ok (.goto (-32), 3) := dqo_167 255 224 (by decide) (kb_of ke_X1_writeTo 41 rfl) (kb_of ke_X1_writeTo 42 rfl) (kb_of ke_X1_writeTo 43 rfl)
theorem dX1_writeTo_44 : decode cX1_writeTo 44 = .ok (.aload_n 1, 1) := dqo_43 (kb_of ke_X1_writeTo 44 rfl)
theorem dX1_writeTo_45 : decode cX1_writeTo 45 = .ok (.bipush 93, 2) := dqo_16 93 (by decide) (kb_of ke_X1_writeTo 45 rfl) (kb_of ke_X1_writeTo 46 rfl)
theorem dX1_writeTo_47 : decode cX1_writeTo 47 = .ok (.invokevirtual 69, 3) := dqo_182 0 69 (kb_of ke_X1_writeTo 47 rfl) (kb_of ke_X1_writeTo 48 rfl) (kb_of ke_X1_writeTo 49 rfl)
theorem dX1_writeTo_50 : decode cX1_writeTo 50 = .ok (.pop, 1) := dqo_87 (kb_of ke_X1_writeTo 50 rfl)
theorem dX1_writeTo_51 : decode cX1_writeTo 51 = .ok (.return_, 1) := dqo_177 (kb_of ke_X1_writeTo 51 rfl)
theorem pk_J4_append_15ec4 : PkV RJ4 yJ4_append_15ec4 cJ4_append_15ec4 2 (some (.object "java/lang/StringBuilder")) 1 := ⟨⟨qi_J4_append_15ec4, qs_J4_append_15ec4, qz_J4, qc_J4_append_15ec4⟩, rfl, mh_J4.1, mh_J4.2, pd_37⟩
theorem pk_J4_append_bf812 : PkV RJ4 yJ4_append_bf812 cJ4_append_bf812 2 (some (.object "java/lang/StringBuilder")) 1 := ⟨⟨qi_J4_append_bf812, qs_J4_append_bf812, qz_J4, qc_J4_append_bf812⟩, rfl, mh_J4.1, mh_J4.2, pd_38⟩
theorem pk_J4_append_cf468 : PkV RJ4 yJ4_append_cf468 cJ4_append_cf468 2 (some (.object "java/lang/StringBuilder")) 1 := ⟨⟨qi_J4_append_cf468, qs_J4_append_cf468, qz_J4, qc_J4_append_cf468⟩, rfl, mh_J4.1, mh_J4.2, pd_39⟩
set_option maxRecDepth 100000 in
set_option maxHeartbeats 800000 in
theorem C_writeTo {l : Launch} {D : va_G} {cy : Nat → ClassId} {X : (Nat → Prop) → State → Heap → Prop} {aK aV : Nat → Nat} {tO tT : Nat} {gO gT : Nat → Int32} {a f : Nat → Nat → Nat} {r : Nat → Nat → Int32} {kn : Int32} {E : va_W} {i b v m : Nat} {g : Nat → Int32} {ml : Int32} (hX : EnvS X cy aK aV tO tT gO gT) (hi : i < 11) (h0 : f 0 i < 7) (h4 : f 3 i + f 4 i ≤ 12) (hR : ∀ k, k < f 4 i → -99 ≤ (r (f 0 i) (f 3 i + k)).toInt ∧ (r (f 0 i) (f 3 i + k)).toInt ≤ 99) (hc : c3 m) (hf : sb_Fit g) : Cm l D cy X yX1_writeTo cX1_writeTo 3 none (rmk 6 2 104 300) [.ref (a 1 i), .ref b] (WC cy a f r kn ++ (SBO b v ml 0 :: BYO cy v m g :: E)) (fun v1 w1 => ∃ (v9 : Nat) (m9 : Nat) (g9 : Nat → Int32), c3 m9 ∧ TXT g9 (tlx (fun k => r (f 0 i) (f 3 i + k)) (f 4 i) + 1) (txl gO gT (fun k => r (f 0 i) (f 3 i + k)) (f 4 i)) ∧ tlx (fun k => r (f 0 i) (f 3 i + k)) (f 4 i) + 1 ≤ m9 ∧ v1 = none ∧ w1 = WC cy a f r kn ++ (SBO b v9 ml (tlx (fun k => r (f 0 i) (f 3 i + k)) (f 4 i) + 1) :: BYO cy v9 m9 g9 :: E)) (fun _ => False) := by
  refine Cm.of [some (.ref (a 1 i)), some (.ref b), none] pn_X1 rfl (Nat.le_of_ble_eq_true rfl) ?_
  intro p e s mI args below meth c A C hE hr hnt hn
  have L9 : ∀ (d k v2 mm c1 s1 : Nat) (g2 : Nat → Int32), k + d = f 4 i → c3 mm → TXT g2 (tlx (fun k => r (f 0 i) (f 3 i + k)) k) (chb 91 :: jln gO gT (fun k => r (f 0 i) (f 3 i + k)) k) → tlx (fun k => r (f 0 i) (f 3 i + k)) k ≤ mm → c1 + potC mm ≤ 2 → s1 + potS mm ≤ 104 → vC p l e (rmk 6 2 104 300) s mI args below meth c D A (vx_MQ below (vG (fun v1 w1 => ∃ (v9 : Nat) (m9 : Nat) (g9 : Nat → Int32), c3 m9 ∧ TXT g9 (tlx (fun k => r (f 0 i) (f 3 i + k)) (f 4 i) + 1) (txl gO gT (fun k => r (f 0 i) (f 3 i + k)) (f 4 i)) ∧ tlx (fun k => r (f 0 i) (f 3 i + k)) (f 4 i) + 1 ≤ m9 ∧ v1 = none ∧ w1 = WC cy a f r kn ++ (SBO b v9 ml (tlx (fun k => r (f 0 i) (f 3 i + k)) (f 4 i) + 1) :: BYO cy v9 m9 g9 :: E)) D vwCl A) (vGX (fun _ => False) D vwCl (WC cy a f r kn ++ (SBO b v ml 0 :: BYO cy v m g :: E)) A) args s (rmk 6 2 104 300).cells (rmk 6 2 104 300).slots A) 3 c1 s1 (WC cy a f r kn ++ (SBO b v2 ml (tlx (fun k => r (f 0 i) (f 3 i + k)) k) :: BYO cy v2 mm g2 :: E)) [some (.ref (a 1 i)), some (.ref b), some (.int (nI k))] 9 [] := by
    intro d
    induction d with
    | zero =>
      intro k v2 mm c1 s1 g2 hk hc hg hnm hcc hcs
      have hml := c3_le hc
      have htk := tlx_le (fun k => r (f 0 i) (f 3 i + k)) k
      have hz3 := sz9_le ((fun k => r (f 0 i) (f 3 i + k)) k)
      simp only at hz3
      refine r_iload_n C dX1_writeTo_9 rfl ?_
      refine r_aload_n C dX1_writeTo_10 rfl ?_
      refine p_get (v := .int (nI (f 4 i))) C 4 (by first | omega | (simp [up2, *]; done) | (simp [up2, *]; omega) | (simp only [up2_eq]; omega) | (split <;> omega)) (by decide) qf_X1_29 rfl rfl dX1_writeTo_11 ?_
      refine r_icN_ge (a := k) (b := (f 4 i)) (tgt := 44) C (by first | omega | (simp [up2, *]; done) | (simp [up2, *]; omega) | (simp only [up2_eq]; omega) | (split <;> omega)) (by first | omega | (simp [up2, *]; done) | (simp [up2, *]; omega) | (simp only [up2_eq]; omega) | (split <;> omega)) dX1_writeTo_14 (by decide) (fun h14_1 => ?_) (fun h14_1 => ?_)
      · skip
        have hkf : k = f 4 i := by omega
        refine r_aload_n C dX1_writeTo_44 rfl ?_
        refine r_bipush (v := (nI 93)) C dX1_writeTo_45 (by decide) ?_
        obtain ⟨hc3_2, hcc_2, hcs_2⟩ := c3_step (q := tlx (fun k => r (f 0 i) (f 3 i + k)) k + 1) hc (by omega) (by omega)
        have hcg_2 := sb_cap_ge (tlx (fun k => r (f 0 i) (f 3 i + k)) k + 1) mm
        have hcm_2 := c3_le hc3_2
        refine c_V (st := []) hX.stb C hE (C_sbChar (U := WC cy a f r kn) (E := E) (b := b) (v := v2) (m := mm) (n := (tlx (fun k => r (f 0 i) (f 3 i + k)) k)) (g := g2) (ml := ml) (ch := 93) hX hml (by first | omega | (simp [up2, *]; done) | (simp [up2, *]; omega) | (simp only [up2_eq]; omega) | (split <;> omega)) hg (by first | omega | (simp [up2, *]; done) | (simp [up2, *]; omega) | (simp only [up2_eq]; omega) | (split <;> omega))) pk_J4_append_cf468 qm_X1_69 ((WC cy a f r kn).length + 0) 1 rfl rfl (us_g rfl) rfl rfl (Nat.le_of_ble_eq_true rfl) dX1_writeTo_47 ⟨Nat.le_of_ble_eq_true rfl, Nat.le_of_ble_eq_true rfl⟩ ⟨by first | (simp only [rmk, rmz]; omega) | (simp only [rmk, rmz]; done) | omega, by first | (simp only [rmk, rmz]; omega) | (simp only [rmk, rmz]; done) | omega⟩ (fun v9 w9 h9 => ?_) (fun _ h9 => h9.elim)
        obtain ⟨v9_3, g9_4, f_5, rfl, rfl⟩ := h9
        refine r_pop C dX1_writeTo_50 rfl ?_
        exact r_vret C hr dX1_writeTo_51 ⟨v9_3, (sb_cap ((tlx (fun k => r (f 0 i) (f 3 i + k)) k) + 1) mm), g9_4, hc3_2, (by rw [← hkf]; exact f_5), (by rw [← hkf]; exact hcg_2), rfl, by rw [hkf]⟩ (by first | (simp only [rmk, rmz]; omega) | (simp only [rmk, rmz]; done) | omega) (by first | (simp only [rmk, rmz]; omega) | (simp only [rmk, rmz]; done) | omega)
      · skip
        refine r_iload_n C dX1_writeTo_17 rfl ?_
        refine r_ifN_le (a := k) (tgt := 28) C (by first | omega | (simp [up2, *]; done) | (simp [up2, *]; omega) | (simp only [up2_eq]; omega) | (split <;> omega)) dX1_writeTo_18 (by decide) (fun h18_6 => ?_) (fun h18_6 => ?_)
        · skip
          have htl : tlx (fun k => r (f 0 i) (f 3 i + k)) (k + 1) = tlx (fun k => r (f 0 i) (f 3 i + k)) k + 0 + sz9 (r (f 0 i) (f 3 i + k)) := by
            show tlx (fun k => r (f 0 i) (f 3 i + k)) k + (if 0 < k then 2 else 0) + sz9 _ = _
            rw [if_neg (by omega)]
          have hjl : jln gO gT (fun k => r (f 0 i) (f 3 i + k)) (k + 1) = jln gO gT (fun k => r (f 0 i) (f 3 i + k)) k ++ dgl gO gT (r (f 0 i) (f 3 i + k)) := jln_up0 (by omega)
          simp only [Nat.add_zero] at htl
          refine r_aload_n C dX1_writeTo_28 rfl ?_
          refine r_aload_n C dX1_writeTo_29 rfl ?_
          refine r_iload_n C dX1_writeTo_30 rfl ?_
          refine d_V (st := [.ref b]) hX.1.1.stb C hE (C_itemAt (f := f) (r := r) (kn := kn) (i := i) (k := k) hX.1.1 hi h0 (by omega)) pk_X1_itemAt qm_X1_32 (3 + i) 5 rfl rfl (wc_p (by first | omega | (simp [up2, *]; done) | (simp [up2, *]; omega) | (simp only [up2_eq]; omega) | (split <;> omega))) rfl rfl (Nat.le_of_ble_eq_true rfl) dX1_writeTo_31 ⟨Nat.le_of_ble_eq_true rfl, Nat.le_of_ble_eq_true rfl⟩ ⟨by first | (simp only [rmk, rmz]; omega) | (simp only [rmk, rmz]; done) | omega, by first | (simp only [rmk, rmz]; omega) | (simp only [rmk, rmz]; done) | omega⟩ ?_
          obtain ⟨hc3_7, hcc_7, hcs_7⟩ := c3_step (q := tlx (fun k => r (f 0 i) (f 3 i + k)) k + sz9 (r (f 0 i) (f 3 i + k))) hc (by omega) (by omega)
          have hcg_7 := sb_cap_ge (tlx (fun k => r (f 0 i) (f 3 i + k)) k + sz9 (r (f 0 i) (f 3 i + k))) mm
          have hcm_7 := c3_le hc3_7
          refine c_V (st := []) hX.stb C hE (C_sbInt (U := WC cy a f r kn) (E := E) (b := b) (v := v2) (m := mm) (n := (tlx (fun k => r (f 0 i) (f 3 i + k)) k)) (g := g2) (ml := ml) (x := (r (f 0 i) (f 3 i + k))) hX hml (by first | omega | (simp [up2, *]; done) | (simp [up2, *]; omega) | (simp only [up2_eq]; omega) | (split <;> omega)) hg (hR k (by omega))) pk_J4_append_bf812 qm_X1_80 ((WC cy a f r kn).length + 0) 1 rfl rfl (us_g rfl) rfl rfl (Nat.le_of_ble_eq_true rfl) dX1_writeTo_34 ⟨Nat.le_of_ble_eq_true rfl, Nat.le_of_ble_eq_true rfl⟩ ⟨by first | (simp only [rmk, rmz]; omega) | (simp only [rmk, rmz]; done) | omega, by first | (simp only [rmk, rmz]; omega) | (simp only [rmk, rmz]; done) | omega⟩ (fun v9 w9 h9 => ?_) (fun _ h9 => h9.elim)
          obtain ⟨v9_8, g9_9, f_10, rfl, rfl⟩ := h9
          refine r_pop C dX1_writeTo_37 rfl ?_
          refine r_iincN C dX1_writeTo_38 rfl (by decide) rfl ?_
          refine r_goto (tgt := 9) C dX1_writeTo_41 (by decide) ?_
          exfalso
          omega
        · skip
          have htl : tlx (fun k => r (f 0 i) (f 3 i + k)) (k + 1) = tlx (fun k => r (f 0 i) (f 3 i + k)) k + 2 + sz9 (r (f 0 i) (f 3 i + k)) := by
            show tlx (fun k => r (f 0 i) (f 3 i + k)) k + (if 0 < k then 2 else 0) + sz9 _ = _
            rw [if_pos (by omega)]
          have hjl : jln gO gT (fun k => r (f 0 i) (f 3 i + k)) (k + 1) = jln gO gT (fun k => r (f 0 i) (f 3 i + k)) k ++ [44, 32] ++ dgl gO gT (r (f 0 i) (f 3 i + k)) := jln_up (by omega)
          refine r_aload_n C dX1_writeTo_21 rfl ?_
          refine j_ldcS hX C hE (i := 0) rfl dX1_writeTo_22 ?_
          have hks : KSN.getD 0 0 = 2 := rfl
          obtain ⟨hc3_11, hcc_11, hcs_11⟩ := c3_step (q := tlx (fun k => r (f 0 i) (f 3 i + k)) k + KSN.getD 0 0) hc (by omega) (by omega)
          have hcg_11 := sb_cap_ge (tlx (fun k => r (f 0 i) (f 3 i + k)) k + KSN.getD 0 0) mm
          have hcm_11 := c3_le hc3_11
          refine c_V (st := []) hX.stb C hE (C_sbStr_K (U := WC cy a f r kn) (E := E) (b := b) (v := v2) (m := mm) (n := (tlx (fun k => r (f 0 i) (f 3 i + k)) k)) (g := g2) (ml := ml) (i := 0) hX hml (by first | omega | (simp [up2, *]; done) | (simp [up2, *]; omega) | (simp only [up2_eq]; omega) | (split <;> omega)) hg (by first | assumption | decide)) pk_J4_append_15ec4 qm_X1_77 ((WC cy a f r kn).length + 0) 1 rfl rfl (us_g rfl) rfl rfl (Nat.le_of_ble_eq_true rfl) dX1_writeTo_24 ⟨Nat.le_of_ble_eq_true rfl, Nat.le_of_ble_eq_true rfl⟩ ⟨by first | (simp only [rmk, rmz]; omega) | (simp only [rmk, rmz]; done) | omega, by first | (simp only [rmk, rmz]; omega) | (simp only [rmk, rmz]; done) | omega⟩ (fun v9 w9 h9 => ?_) (fun _ h9 => h9.elim)
          obtain ⟨v9_12, g9_13, f_14, rfl, rfl⟩ := h9
          refine r_pop C dX1_writeTo_27 rfl ?_
          refine r_aload_n C dX1_writeTo_28 rfl ?_
          refine r_aload_n C dX1_writeTo_29 rfl ?_
          refine r_iload_n C dX1_writeTo_30 rfl ?_
          refine d_V (st := [.ref b]) hX.1.1.stb C hE (C_itemAt (f := f) (r := r) (kn := kn) (i := i) (k := k) hX.1.1 hi h0 (by omega)) pk_X1_itemAt qm_X1_32 (3 + i) 5 rfl rfl (wc_p (by first | omega | (simp [up2, *]; done) | (simp [up2, *]; omega) | (simp only [up2_eq]; omega) | (split <;> omega))) rfl rfl (Nat.le_of_ble_eq_true rfl) dX1_writeTo_31 ⟨Nat.le_of_ble_eq_true rfl, Nat.le_of_ble_eq_true rfl⟩ ⟨by first | (simp only [rmk, rmz]; omega) | (simp only [rmk, rmz]; done) | omega, by first | (simp only [rmk, rmz]; omega) | (simp only [rmk, rmz]; done) | omega⟩ ?_
          obtain ⟨hc3_15, hcc_15, hcs_15⟩ := c3_step (q := tlx (fun k => r (f 0 i) (f 3 i + k)) k + KSN.getD 0 0 + sz9 (r (f 0 i) (f 3 i + k))) hc3_11 (by omega) (by omega)
          have hcg_15 := sb_cap_ge (tlx (fun k => r (f 0 i) (f 3 i + k)) k + KSN.getD 0 0 + sz9 (r (f 0 i) (f 3 i + k))) (sb_cap ((tlx (fun k => r (f 0 i) (f 3 i + k)) k) + KSN.getD 0 0) mm)
          have hcm_15 := c3_le hc3_15
          refine c_V (st := []) hX.stb C hE (C_sbInt (U := WC cy a f r kn) (E := E) (b := b) (v := v9_12) (m := (sb_cap ((tlx (fun k => r (f 0 i) (f 3 i + k)) k) + KSN.getD 0 0) mm)) (n := ((tlx (fun k => r (f 0 i) (f 3 i + k)) k) + KSN.getD 0 0)) (g := g9_13) (ml := ml) (x := (r (f 0 i) (f 3 i + k))) hX hcm_11 (by first | omega | (simp [up2, *]; done) | (simp [up2, *]; omega) | (simp only [up2_eq]; omega) | (split <;> omega)) f_14 (hR k (by omega))) pk_J4_append_bf812 qm_X1_80 ((WC cy a f r kn).length + 0) 1 rfl rfl (us_g rfl) rfl rfl (Nat.le_of_ble_eq_true rfl) dX1_writeTo_34 ⟨Nat.le_of_ble_eq_true rfl, Nat.le_of_ble_eq_true rfl⟩ ⟨by first | (simp only [rmk, rmz]; omega) | (simp only [rmk, rmz]; done) | omega, by first | (simp only [rmk, rmz]; omega) | (simp only [rmk, rmz]; done) | omega⟩ (fun v9 w9 h9 => ?_) (fun _ h9 => h9.elim)
          obtain ⟨v9_16, g9_17, f_18, rfl, rfl⟩ := h9
          refine r_pop C dX1_writeTo_37 rfl ?_
          refine r_iincN C dX1_writeTo_38 rfl (by decide) rfl ?_
          refine r_goto (tgt := 9) C dX1_writeTo_41 (by decide) ?_
          exfalso
          omega
    | succ d ih =>
      intro k v2 mm c1 s1 g2 hk hc hg hnm hcc hcs
      have hml := c3_le hc
      have htk := tlx_le (fun k => r (f 0 i) (f 3 i + k)) k
      have hz3 := sz9_le ((fun k => r (f 0 i) (f 3 i + k)) k)
      simp only at hz3
      refine r_iload_n C dX1_writeTo_9 rfl ?_
      refine r_aload_n C dX1_writeTo_10 rfl ?_
      refine p_get (v := .int (nI (f 4 i))) C 4 (by first | omega | (simp [up2, *]; done) | (simp [up2, *]; omega) | (simp only [up2_eq]; omega) | (split <;> omega)) (by decide) qf_X1_29 rfl rfl dX1_writeTo_11 ?_
      refine r_icN_ge (a := k) (b := (f 4 i)) (tgt := 44) C (by first | omega | (simp [up2, *]; done) | (simp [up2, *]; omega) | (simp only [up2_eq]; omega) | (split <;> omega)) (by first | omega | (simp [up2, *]; done) | (simp [up2, *]; omega) | (simp only [up2_eq]; omega) | (split <;> omega)) dX1_writeTo_14 (by decide) (fun h14_19 => ?_) (fun h14_19 => ?_)
      · skip
        have hkf : k = f 4 i := by omega
        refine r_aload_n C dX1_writeTo_44 rfl ?_
        refine r_bipush (v := (nI 93)) C dX1_writeTo_45 (by decide) ?_
        obtain ⟨hc3_20, hcc_20, hcs_20⟩ := c3_step (q := tlx (fun k => r (f 0 i) (f 3 i + k)) k + 1) hc (by omega) (by omega)
        have hcg_20 := sb_cap_ge (tlx (fun k => r (f 0 i) (f 3 i + k)) k + 1) mm
        have hcm_20 := c3_le hc3_20
        refine c_V (st := []) hX.stb C hE (C_sbChar (U := WC cy a f r kn) (E := E) (b := b) (v := v2) (m := mm) (n := (tlx (fun k => r (f 0 i) (f 3 i + k)) k)) (g := g2) (ml := ml) (ch := 93) hX hml (by first | omega | (simp [up2, *]; done) | (simp [up2, *]; omega) | (simp only [up2_eq]; omega) | (split <;> omega)) hg (by first | omega | (simp [up2, *]; done) | (simp [up2, *]; omega) | (simp only [up2_eq]; omega) | (split <;> omega))) pk_J4_append_cf468 qm_X1_69 ((WC cy a f r kn).length + 0) 1 rfl rfl (us_g rfl) rfl rfl (Nat.le_of_ble_eq_true rfl) dX1_writeTo_47 ⟨Nat.le_of_ble_eq_true rfl, Nat.le_of_ble_eq_true rfl⟩ ⟨by first | (simp only [rmk, rmz]; omega) | (simp only [rmk, rmz]; done) | omega, by first | (simp only [rmk, rmz]; omega) | (simp only [rmk, rmz]; done) | omega⟩ (fun v9 w9 h9 => ?_) (fun _ h9 => h9.elim)
        obtain ⟨v9_21, g9_22, f_23, rfl, rfl⟩ := h9
        refine r_pop C dX1_writeTo_50 rfl ?_
        exact r_vret C hr dX1_writeTo_51 ⟨v9_21, (sb_cap ((tlx (fun k => r (f 0 i) (f 3 i + k)) k) + 1) mm), g9_22, hc3_20, (by rw [← hkf]; exact f_23), (by rw [← hkf]; exact hcg_20), rfl, by rw [hkf]⟩ (by first | (simp only [rmk, rmz]; omega) | (simp only [rmk, rmz]; done) | omega) (by first | (simp only [rmk, rmz]; omega) | (simp only [rmk, rmz]; done) | omega)
      · skip
        refine r_iload_n C dX1_writeTo_17 rfl ?_
        refine r_ifN_le (a := k) (tgt := 28) C (by first | omega | (simp [up2, *]; done) | (simp [up2, *]; omega) | (simp only [up2_eq]; omega) | (split <;> omega)) dX1_writeTo_18 (by decide) (fun h18_24 => ?_) (fun h18_24 => ?_)
        · skip
          have htl : tlx (fun k => r (f 0 i) (f 3 i + k)) (k + 1) = tlx (fun k => r (f 0 i) (f 3 i + k)) k + 0 + sz9 (r (f 0 i) (f 3 i + k)) := by
            show tlx (fun k => r (f 0 i) (f 3 i + k)) k + (if 0 < k then 2 else 0) + sz9 _ = _
            rw [if_neg (by omega)]
          have hjl : jln gO gT (fun k => r (f 0 i) (f 3 i + k)) (k + 1) = jln gO gT (fun k => r (f 0 i) (f 3 i + k)) k ++ dgl gO gT (r (f 0 i) (f 3 i + k)) := jln_up0 (by omega)
          simp only [Nat.add_zero] at htl
          refine r_aload_n C dX1_writeTo_28 rfl ?_
          refine r_aload_n C dX1_writeTo_29 rfl ?_
          refine r_iload_n C dX1_writeTo_30 rfl ?_
          refine d_V (st := [.ref b]) hX.1.1.stb C hE (C_itemAt (f := f) (r := r) (kn := kn) (i := i) (k := k) hX.1.1 hi h0 (by omega)) pk_X1_itemAt qm_X1_32 (3 + i) 5 rfl rfl (wc_p (by first | omega | (simp [up2, *]; done) | (simp [up2, *]; omega) | (simp only [up2_eq]; omega) | (split <;> omega))) rfl rfl (Nat.le_of_ble_eq_true rfl) dX1_writeTo_31 ⟨Nat.le_of_ble_eq_true rfl, Nat.le_of_ble_eq_true rfl⟩ ⟨by first | (simp only [rmk, rmz]; omega) | (simp only [rmk, rmz]; done) | omega, by first | (simp only [rmk, rmz]; omega) | (simp only [rmk, rmz]; done) | omega⟩ ?_
          obtain ⟨hc3_25, hcc_25, hcs_25⟩ := c3_step (q := tlx (fun k => r (f 0 i) (f 3 i + k)) k + sz9 (r (f 0 i) (f 3 i + k))) hc (by omega) (by omega)
          have hcg_25 := sb_cap_ge (tlx (fun k => r (f 0 i) (f 3 i + k)) k + sz9 (r (f 0 i) (f 3 i + k))) mm
          have hcm_25 := c3_le hc3_25
          refine c_V (st := []) hX.stb C hE (C_sbInt (U := WC cy a f r kn) (E := E) (b := b) (v := v2) (m := mm) (n := (tlx (fun k => r (f 0 i) (f 3 i + k)) k)) (g := g2) (ml := ml) (x := (r (f 0 i) (f 3 i + k))) hX hml (by first | omega | (simp [up2, *]; done) | (simp [up2, *]; omega) | (simp only [up2_eq]; omega) | (split <;> omega)) hg (hR k (by omega))) pk_J4_append_bf812 qm_X1_80 ((WC cy a f r kn).length + 0) 1 rfl rfl (us_g rfl) rfl rfl (Nat.le_of_ble_eq_true rfl) dX1_writeTo_34 ⟨Nat.le_of_ble_eq_true rfl, Nat.le_of_ble_eq_true rfl⟩ ⟨by first | (simp only [rmk, rmz]; omega) | (simp only [rmk, rmz]; done) | omega, by first | (simp only [rmk, rmz]; omega) | (simp only [rmk, rmz]; done) | omega⟩ (fun v9 w9 h9 => ?_) (fun _ h9 => h9.elim)
          obtain ⟨v9_26, g9_27, f_28, rfl, rfl⟩ := h9
          refine r_pop C dX1_writeTo_37 rfl ?_
          refine r_iincN C dX1_writeTo_38 rfl (by decide) rfl ?_
          refine r_goto (tgt := 9) C dX1_writeTo_41 (by decide) ?_
          refine r_w (w' := WC cy a f r kn ++ (SBO b v9_26 ml (tlx (fun k => r (f 0 i) (f 3 i + k)) (k + 1)) :: BYO cy v9_26 (sb_cap ((tlx (fun k => r (f 0 i) (f 3 i + k)) k) + sz9 (r (f 0 i) (f 3 i + k))) mm) g9_27 :: E)) (by first | (rw [htl]; done) | (rw [htl]; rfl)) ?_
          refine r_widen (k := 2 - potC (sb_cap ((tlx (fun k => r (f 0 i) (f 3 i + k)) k) + sz9 (r (f 0 i) (f 3 i + k))) mm)) (n := 104 - potS (sb_cap ((tlx (fun k => r (f 0 i) (f 3 i + k)) k) + sz9 (r (f 0 i) (f 3 i + k))) mm)) (by first | (simp only [rmk, rmz]; omega) | (simp only [rmk, rmz]; done) | omega) (by first | (simp only [rmk, rmz]; omega) | (simp only [rmk, rmz]; done) | omega) ?_
          exact ih (k + 1) v9_26 (sb_cap ((tlx (fun k => r (f 0 i) (f 3 i + k)) k) + sz9 (r (f 0 i) (f 3 i + k))) mm) (2 - potC (sb_cap ((tlx (fun k => r (f 0 i) (f 3 i + k)) k) + sz9 (r (f 0 i) (f 3 i + k))) mm)) (104 - potS (sb_cap ((tlx (fun k => r (f 0 i) (f 3 i + k)) k) + sz9 (r (f 0 i) (f 3 i + k))) mm)) g9_27 (by omega) hc3_25 (by rw [htl, hjl]; exact f_28) (by first | omega | (rw [htl]; exact hcg_25)) (by have := potC_le (sb_cap ((tlx (fun k => r (f 0 i) (f 3 i + k)) k) + sz9 (r (f 0 i) (f 3 i + k))) mm); omega) (by have := potS_le (sb_cap ((tlx (fun k => r (f 0 i) (f 3 i + k)) k) + sz9 (r (f 0 i) (f 3 i + k))) mm); omega)
        · skip
          have htl : tlx (fun k => r (f 0 i) (f 3 i + k)) (k + 1) = tlx (fun k => r (f 0 i) (f 3 i + k)) k + 2 + sz9 (r (f 0 i) (f 3 i + k)) := by
            show tlx (fun k => r (f 0 i) (f 3 i + k)) k + (if 0 < k then 2 else 0) + sz9 _ = _
            rw [if_pos (by omega)]
          have hjl : jln gO gT (fun k => r (f 0 i) (f 3 i + k)) (k + 1) = jln gO gT (fun k => r (f 0 i) (f 3 i + k)) k ++ [44, 32] ++ dgl gO gT (r (f 0 i) (f 3 i + k)) := jln_up (by omega)
          refine r_aload_n C dX1_writeTo_21 rfl ?_
          refine j_ldcS hX C hE (i := 0) rfl dX1_writeTo_22 ?_
          have hks : KSN.getD 0 0 = 2 := rfl
          obtain ⟨hc3_29, hcc_29, hcs_29⟩ := c3_step (q := tlx (fun k => r (f 0 i) (f 3 i + k)) k + KSN.getD 0 0) hc (by omega) (by omega)
          have hcg_29 := sb_cap_ge (tlx (fun k => r (f 0 i) (f 3 i + k)) k + KSN.getD 0 0) mm
          have hcm_29 := c3_le hc3_29
          refine c_V (st := []) hX.stb C hE (C_sbStr_K (U := WC cy a f r kn) (E := E) (b := b) (v := v2) (m := mm) (n := (tlx (fun k => r (f 0 i) (f 3 i + k)) k)) (g := g2) (ml := ml) (i := 0) hX hml (by first | omega | (simp [up2, *]; done) | (simp [up2, *]; omega) | (simp only [up2_eq]; omega) | (split <;> omega)) hg (by first | assumption | decide)) pk_J4_append_15ec4 qm_X1_77 ((WC cy a f r kn).length + 0) 1 rfl rfl (us_g rfl) rfl rfl (Nat.le_of_ble_eq_true rfl) dX1_writeTo_24 ⟨Nat.le_of_ble_eq_true rfl, Nat.le_of_ble_eq_true rfl⟩ ⟨by first | (simp only [rmk, rmz]; omega) | (simp only [rmk, rmz]; done) | omega, by first | (simp only [rmk, rmz]; omega) | (simp only [rmk, rmz]; done) | omega⟩ (fun v9 w9 h9 => ?_) (fun _ h9 => h9.elim)
          obtain ⟨v9_30, g9_31, f_32, rfl, rfl⟩ := h9
          refine r_pop C dX1_writeTo_27 rfl ?_
          refine r_aload_n C dX1_writeTo_28 rfl ?_
          refine r_aload_n C dX1_writeTo_29 rfl ?_
          refine r_iload_n C dX1_writeTo_30 rfl ?_
          refine d_V (st := [.ref b]) hX.1.1.stb C hE (C_itemAt (f := f) (r := r) (kn := kn) (i := i) (k := k) hX.1.1 hi h0 (by omega)) pk_X1_itemAt qm_X1_32 (3 + i) 5 rfl rfl (wc_p (by first | omega | (simp [up2, *]; done) | (simp [up2, *]; omega) | (simp only [up2_eq]; omega) | (split <;> omega))) rfl rfl (Nat.le_of_ble_eq_true rfl) dX1_writeTo_31 ⟨Nat.le_of_ble_eq_true rfl, Nat.le_of_ble_eq_true rfl⟩ ⟨by first | (simp only [rmk, rmz]; omega) | (simp only [rmk, rmz]; done) | omega, by first | (simp only [rmk, rmz]; omega) | (simp only [rmk, rmz]; done) | omega⟩ ?_
          obtain ⟨hc3_33, hcc_33, hcs_33⟩ := c3_step (q := tlx (fun k => r (f 0 i) (f 3 i + k)) k + KSN.getD 0 0 + sz9 (r (f 0 i) (f 3 i + k))) hc3_29 (by omega) (by omega)
          have hcg_33 := sb_cap_ge (tlx (fun k => r (f 0 i) (f 3 i + k)) k + KSN.getD 0 0 + sz9 (r (f 0 i) (f 3 i + k))) (sb_cap ((tlx (fun k => r (f 0 i) (f 3 i + k)) k) + KSN.getD 0 0) mm)
          have hcm_33 := c3_le hc3_33
          refine c_V (st := []) hX.stb C hE (C_sbInt (U := WC cy a f r kn) (E := E) (b := b) (v := v9_30) (m := (sb_cap ((tlx (fun k => r (f 0 i) (f 3 i + k)) k) + KSN.getD 0 0) mm)) (n := ((tlx (fun k => r (f 0 i) (f 3 i + k)) k) + KSN.getD 0 0)) (g := g9_31) (ml := ml) (x := (r (f 0 i) (f 3 i + k))) hX hcm_29 (by first | omega | (simp [up2, *]; done) | (simp [up2, *]; omega) | (simp only [up2_eq]; omega) | (split <;> omega)) f_32 (hR k (by omega))) pk_J4_append_bf812 qm_X1_80 ((WC cy a f r kn).length + 0) 1 rfl rfl (us_g rfl) rfl rfl (Nat.le_of_ble_eq_true rfl) dX1_writeTo_34 ⟨Nat.le_of_ble_eq_true rfl, Nat.le_of_ble_eq_true rfl⟩ ⟨by first | (simp only [rmk, rmz]; omega) | (simp only [rmk, rmz]; done) | omega, by first | (simp only [rmk, rmz]; omega) | (simp only [rmk, rmz]; done) | omega⟩ (fun v9 w9 h9 => ?_) (fun _ h9 => h9.elim)
          obtain ⟨v9_34, g9_35, f_36, rfl, rfl⟩ := h9
          refine r_pop C dX1_writeTo_37 rfl ?_
          refine r_iincN C dX1_writeTo_38 rfl (by decide) rfl ?_
          refine r_goto (tgt := 9) C dX1_writeTo_41 (by decide) ?_
          refine r_w (w' := WC cy a f r kn ++ (SBO b v9_34 ml (tlx (fun k => r (f 0 i) (f 3 i + k)) (k + 1)) :: BYO cy v9_34 (sb_cap (((tlx (fun k => r (f 0 i) (f 3 i + k)) k) + KSN.getD 0 0) + sz9 (r (f 0 i) (f 3 i + k))) (sb_cap ((tlx (fun k => r (f 0 i) (f 3 i + k)) k) + KSN.getD 0 0) mm)) g9_35 :: E)) (by first | (rw [htl]; done) | (rw [htl]; rfl)) ?_
          refine r_widen (k := 2 - potC (sb_cap (((tlx (fun k => r (f 0 i) (f 3 i + k)) k) + KSN.getD 0 0) + sz9 (r (f 0 i) (f 3 i + k))) (sb_cap ((tlx (fun k => r (f 0 i) (f 3 i + k)) k) + KSN.getD 0 0) mm))) (n := 104 - potS (sb_cap (((tlx (fun k => r (f 0 i) (f 3 i + k)) k) + KSN.getD 0 0) + sz9 (r (f 0 i) (f 3 i + k))) (sb_cap ((tlx (fun k => r (f 0 i) (f 3 i + k)) k) + KSN.getD 0 0) mm))) (by first | (simp only [rmk, rmz]; omega) | (simp only [rmk, rmz]; done) | omega) (by first | (simp only [rmk, rmz]; omega) | (simp only [rmk, rmz]; done) | omega) ?_
          exact ih (k + 1) v9_34 (sb_cap (((tlx (fun k => r (f 0 i) (f 3 i + k)) k) + KSN.getD 0 0) + sz9 (r (f 0 i) (f 3 i + k))) (sb_cap ((tlx (fun k => r (f 0 i) (f 3 i + k)) k) + KSN.getD 0 0) mm)) (2 - potC (sb_cap (((tlx (fun k => r (f 0 i) (f 3 i + k)) k) + KSN.getD 0 0) + sz9 (r (f 0 i) (f 3 i + k))) (sb_cap ((tlx (fun k => r (f 0 i) (f 3 i + k)) k) + KSN.getD 0 0) mm))) (104 - potS (sb_cap (((tlx (fun k => r (f 0 i) (f 3 i + k)) k) + KSN.getD 0 0) + sz9 (r (f 0 i) (f 3 i + k))) (sb_cap ((tlx (fun k => r (f 0 i) (f 3 i + k)) k) + KSN.getD 0 0) mm))) g9_35 (by omega) hc3_33 (by rw [htl, hjl]; exact f_36) (by first | omega | (rw [htl]; exact hcg_33)) (by have := potC_le (sb_cap (((tlx (fun k => r (f 0 i) (f 3 i + k)) k) + KSN.getD 0 0) + sz9 (r (f 0 i) (f 3 i + k))) (sb_cap ((tlx (fun k => r (f 0 i) (f 3 i + k)) k) + KSN.getD 0 0) mm)); omega) (by have := potS_le (sb_cap (((tlx (fun k => r (f 0 i) (f 3 i + k)) k) + KSN.getD 0 0) + sz9 (r (f 0 i) (f 3 i + k))) (sb_cap ((tlx (fun k => r (f 0 i) (f 3 i + k)) k) + KSN.getD 0 0) mm)); omega)
  have hml := c3_le hc
  have hpc := potC_le m
  have hps := potS_le m
  refine r_widen (k := 2 - potC m) (n := 104 - potS m) (Nat.zero_le _) (Nat.zero_le _) ?_
  have h16 : 16 ≤ m := by rcases hc with rfl | rfl | rfl <;> decide
  refine r_aload_n C dX1_writeTo_0 rfl ?_
  refine r_bipush (v := (nI 91)) C dX1_writeTo_1 (by decide) ?_
  obtain ⟨hc3_37, hcc_37, hcs_37⟩ := c3_step (q := 0 + 1) hc (by omega) (by omega)
  have hcg_37 := sb_cap_ge (0 + 1) m
  have hcm_37 := c3_le hc3_37
  refine c_V (st := []) hX.stb C hE (C_sbChar (U := WC cy a f r kn) (E := E) (b := b) (v := v) (m := m) (n := 0) (g := g) (ml := ml) (ch := 91) hX hml (by first | omega | (simp [up2, *]; done) | (simp [up2, *]; omega) | (simp only [up2_eq]; omega) | (split <;> omega)) (TXT.nil hf) (by first | omega | (simp [up2, *]; done) | (simp [up2, *]; omega) | (simp only [up2_eq]; omega) | (split <;> omega))) pk_J4_append_cf468 qm_X1_69 ((WC cy a f r kn).length + 0) 1 rfl rfl (us_g rfl) rfl rfl (Nat.le_of_ble_eq_true rfl) dX1_writeTo_3 ⟨Nat.le_of_ble_eq_true rfl, Nat.le_of_ble_eq_true rfl⟩ ⟨by first | (simp only [rmk, rmz]; omega) | (simp only [rmk, rmz]; done) | omega, by first | (simp only [rmk, rmz]; omega) | (simp only [rmk, rmz]; done) | omega⟩ (fun v9 w9 h9 => ?_) (fun _ h9 => h9.elim)
  obtain ⟨v9_38, g9_39, f_40, rfl, rfl⟩ := h9
  refine r_pop C dX1_writeTo_6 rfl ?_
  refine r_iconst (v := (nI 0)) C dX1_writeTo_7 (by decide) ?_
  refine r_istore_n C dX1_writeTo_8 (by decide) rfl ?_
  refine r_widen (k := 2 - potC (sb_cap (0 + 1) m)) (n := 104 - potS (sb_cap (0 + 1) m)) (by first | (simp only [rmk, rmz]; omega) | (simp only [rmk, rmz]; done) | omega) (by first | (simp only [rmk, rmz]; omega) | (simp only [rmk, rmz]; done) | omega) ?_
  exact L9 (f 4 i) 0 v9_38 (sb_cap (0 + 1) m) (2 - potC (sb_cap (0 + 1) m)) (104 - potS (sb_cap (0 + 1) m)) g9_39 (Nat.zero_add _) hc3_37 f_40 (by show 1 ≤ _; omega) (by have := potC_le (sb_cap (0 + 1) m); omega) (by have := potS_le (sb_cap (0 + 1) m); omega)
