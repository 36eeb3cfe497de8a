/-! ===== 57.text2 -/
section PT_57
/-! TEXTS: growth, a letter -/
theorem cap_val {q m : Nat} (h : m < q) : m + (if q - m < m + 2 then m + 2 else q - m) = sb_cap q m := by
  have h0 : ¬ q ≤ m := by omega
  simp only [sb_cap, if_neg h0]
  by_cases h1 : q - m < m + 2 <;> by_cases h2 : 2 * m + 2 < q <;> simp only [h1, h2, if_true, if_false] <;> omega
theorem cap_lt {q m : Nat} (hm : m ≤ 65536) (hq : q < 268435456) : sb_cap q m < 536870912 := by
  unfold sb_cap
  split
  · omega
  · split <;> omega
def gC (q m : Nat) : Nat := if q ≤ m then 0 else 1
def gS (q m : Nat) : Nat := if q ≤ m then 0 else sb_cap q m
theorem mx_nI {a k : Nat} (ha : a < 2147483648) (hk : k < 2147483648) : (if nI a < nI k then nI k else nI a) = nI (if a < k then k else a) := by
  by_cases h : a < k
  · rw [if_pos h, if_pos (nI_lt h hk)]
  · rw [if_neg h, if_neg (nI_nlt (by omega) ha)]
theorem mn_nI {a k : Nat} (h : a ≤ k) (hk : k < 2147483648) : (if nI k < nI a then nI k else nI a) = nI a := if_neg (nI_nlt h hk)
theorem ks_lt {i : Nat} (hi : i < KSN.length) : KSN.getD i 0 < 100 := by
  have : ∀ j, j < KSN.length → KSN.getD j 0 < 100 := by decide
  exact this i hi
theorem dJ8_newLength_cabcc_0 : decode cJ8_newLength_cabcc 0 = .ok (.iload_n 0, 1) := dqo_26 (kb_of ke_J8_newLength_cabcc 0 rfl)
theorem dJ8_newLength_cabcc_1 : decode cJ8_newLength_cabcc 1 = .ok (.iload_n 1, 1) := dqo_27 (kb_of ke_J8_newLength_cabcc 1 rfl)
theorem dJ8_newLength_cabcc_2 : decode cJ8_newLength_cabcc 2 = .ok (.iload_n 2, 1) := dqo_28 (kb_of ke_J8_newLength_cabcc 2 rfl)
theorem dJ8_newLength_cabcc_3 : decode cJ8_newLength_cabcc 3 = .ok (.invokestatic 194, 3) := dqo_184 0 194 (kb_of ke_J8_newLength_cabcc 3 rfl) (kb_of ke_J8_newLength_cabcc 4 rfl) (kb_of ke_J8_newLength_cabcc 5 rfl)
theorem dJ8_newLength_cabcc_6 : decode cJ8_newLength_cabcc 6 = .ok (.iadd, 1) := dqo_96 (kb_of ke_J8_newLength_cabcc 6 rfl)
theorem dJ8_newLength_cabcc_7 : decode cJ8_newLength_cabcc 7 = .ok (.istore_n 3, 1) := dqo_62 (kb_of ke_J8_newLength_cabcc 7 rfl)
theorem dJ8_newLength_cabcc_8 : decode cJ8_newLength_cabcc 8 = .ok (.iconst 0, 1) := dqo_3 (kb_of ke_J8_newLength_cabcc 8 rfl)
theorem dJ8_newLength_cabcc_9 : decode cJ8_newLength_cabcc 9 = .ok (.iload_n 3, 1) := dqo_29 (kb_of ke_J8_newLength_cabcc 9 rfl)
theorem dJ8_newLength_cabcc_10 : decode cJ8_newLength_cabcc 10 = .ok (.if_icmp .ge 11, 3) := dqo_162 0 11 (by decide) (kb_of ke_J8_newLength_cabcc 10 rfl) (kb_of ke_J8_newLength_cabcc 11 rfl) (kb_of ke_J8_newLength_cabcc 12 rfl)
theorem dJ8_newLength_cabcc_13 : decode cJ8_newLength_cabcc 13 = .ok (.iload_n 3, 1) := dqo_29 (kb_of ke_J8_newLength_cabcc 13 rfl)
theorem dJ8_newLength_cabcc_14 : decode cJ8_newLength_cabcc 14 = .ok (.ldc 200, 2) := dqo_18 200 (kb_of ke_J8_newLength_cabcc 14 rfl) (kb_of ke_J8_newLength_cabcc 15 rfl)
theorem dJ8_newLength_cabcc_16 : decode cJ8_newLength_cabcc 16 = .ok (.if_icmp .gt 5, 3) := dqo_163 0 5 (by decide) (kb_of ke_J8_newLength_cabcc 16 rfl) (kb_of ke_J8_newLength_cabcc 17 rfl) (kb_of ke_J8_newLength_cabcc 18 rfl)
theorem dJ8_newLength_cabcc_19 : decode cJ8_newLength_cabcc 19 = .ok (.iload_n 3, 1) := dqo_29 (kb_of ke_J8_newLength_cabcc 19 rfl)
theorem dJ8_newLength_cabcc_20 : decode cJ8_newLength_cabcc 20 = .ok (.ireturn, 1) := dqo_172 (kb_of ke_J8_newLength_cabcc 20 rfl)
set_option maxRecDepth 100000 in
set_option maxHeartbeats 400000 in
theorem C_newLength {l : Launch} {D : va_G} {cy : Nat → ClassId} {X : (Nat → Prop) → State → Heap → Prop} {aK aV : Nat → Nat} {tO tT : Nat} {gO gT : Nat → Int32} {w : va_W} {o : Nat} {a : Nat} {k : Nat} (hX : EnvS X cy aK aV tO tT gO gT) (h1 : o < 268435456) (h2 : a < 268435456) (h3 : k < 268435456) (h4 : 0 < a) : Cm l D cy X yJ8_newLength_cabcc cJ8_newLength_cabcc 4 (some .int) (rmz 1 40) [.int (nI o), .int (nI a), .int (nI k)] (w) (fun v1 w1 => v1 = some (.int (nI (o + (if a < k then k else a)))) ∧ w1 = w) (fun _ => False) := by
  refine Cm.ofF [some (.int (nI o)), some (.int (nI a)), some (.int (nI k)), none] (plainFor_of_name pn_J8) rfl (Nat.le_of_ble_eq_true rfl) ?_
  intro p e s mI args below meth c A C hE hr hnt hn
  refine r_iload_n C dJ8_newLength_cabcc_0 rfl ?_
  refine r_iload_n C dJ8_newLength_cabcc_1 rfl ?_
  refine r_iload_n C dJ8_newLength_cabcc_2 rfl ?_
  refine c_S (st := [.int (nI o)]) hX.stb C hE (C_mmax (w := w) (x := (nI a)) (y := (nI k)) ) pk_J9_max_7cf53 qm_J8_194 rfl rfl (Nat.le_of_ble_eq_true rfl) dJ8_newLength_cabcc_3 ⟨Nat.le_of_ble_eq_true rfl, Nat.le_of_ble_eq_true rfl⟩ ⟨by first | (simp only [rmk, rmz]; omega) | (simp only [rmk, rmz]; done) | omega, by first | (simp only [rmk, rmz]; omega) | (simp only [rmk, rmz]; done) | omega⟩ (fun v9 w9 h9 => ?_) (fun _ h9 => h9.elim)
  obtain ⟨rfl, rfl⟩ := h9
  refine r_eqi (y := nI (if a < k then k else a)) (mx_nI (by omega) (by omega)) ?_
  refine r_iaddN C dJ8_newLength_cabcc_6 ?_
  refine r_istore_n C dJ8_newLength_cabcc_7 (by decide) rfl ?_
  refine r_iconst (v := (nI 0)) C dJ8_newLength_cabcc_8 (by decide) ?_
  refine r_iload_n C dJ8_newLength_cabcc_9 rfl ?_
  refine r_icN_ge (a := 0) (b := (o + (if a < k then k else a))) (tgt := 21) C (by first | omega | (simp [up2, *]; done) | (simp [up2, *]; omega) | (simp only [up2_eq]; omega) | (split <;> omega)) (by first | omega | (simp [up2, *]; done) | (simp [up2, *]; omega) | (simp only [up2_eq]; omega) | (split <;> omega)) dJ8_newLength_cabcc_10 (by decide) (fun h10_1 => ?_) (fun h10_1 => ?_)
  · exact absurd h10_1 (by first | omega | (simp [up2, *]; done) | (simp [up2, *]; omega) | (simp only [up2_eq]; omega) | (split <;> omega))
  · skip
    refine r_iload_n C dJ8_newLength_cabcc_13 rfl ?_
    refine j_ldc (v := nI 2147483639) C qx_J8_200 dJ8_newLength_cabcc_14 ?_
    refine r_icN_gt (a := (o + (if a < k then k else a))) (b := 2147483639) (tgt := 21) C (by first | omega | (simp [up2, *]; done) | (simp [up2, *]; omega) | (simp only [up2_eq]; omega) | (split <;> omega)) (by first | omega | (simp [up2, *]; done) | (simp [up2, *]; omega) | (simp only [up2_eq]; omega) | (split <;> omega)) dJ8_newLength_cabcc_16 (by decide) (fun h16_2 => ?_) (fun h16_2 => ?_)
    · exact absurd h16_2 (by first | omega | (simp [up2, *]; done) | (simp [up2, *]; omega) | (simp only [up2_eq]; omega) | (split <;> omega))
    · skip
      refine r_iload_n C dJ8_newLength_cabcc_19 rfl ?_
      exact r_iret C hr dJ8_newLength_cabcc_20 ⟨rfl, rfl⟩ (by first | (simp only [rmk, rmz]; omega) | (simp only [rmk, rmz]; done) | omega) (by first | (simp only [rmk, rmz]; omega) | (simp only [rmk, rmz]; done) | omega)
theorem dJ5_newCapacity_0f7a4_0 : decode cJ5_newCapacity_0f7a4 0 = .ok (.aload_n 0, 1) := dqo_42 (kb_of ke_J5_newCapacity_0f7a4 0 rfl)
theorem dJ5_newCapacity_0f7a4_1 : decode cJ5_newCapacity_0f7a4 1 = .ok (.getfield 15, 3) := dqo_180 0 15 (kb_of ke_J5_newCapacity_0f7a4 1 rfl) (kb_of ke_J5_newCapacity_0f7a4 2 rfl) (kb_of ke_J5_newCapacity_0f7a4 3 rfl)
theorem dJ5_newCapacity_0f7a4_4 : decode cJ5_newCapacity_0f7a4 4 = .ok (.arraylength, 1) := dqo_190 (kb_of ke_J5_newCapacity_0f7a4 4 rfl)
theorem dJ5_newCapacity_0f7a4_5 : decode cJ5_newCapacity_0f7a4 5 = .ok (.istore_n 2, 1) := dqo_61 (kb_of ke_J5_newCapacity_0f7a4 5 rfl)
theorem dJ5_newCapacity_0f7a4_6 : decode cJ5_newCapacity_0f7a4 6 = .ok (.iload_n 1, 1) := dqo_27 (kb_of ke_J5_newCapacity_0f7a4 6 rfl)
theorem dJ5_newCapacity_0f7a4_7 : decode cJ5_newCapacity_0f7a4 7 = .ok (.aload_n 0, 1) := dqo_42 (kb_of ke_J5_newCapacity_0f7a4 7 rfl)
theorem dJ5_newCapacity_0f7a4_8 : decode cJ5_newCapacity_0f7a4 8 = .ok (.getfield 22, 3) := dqo_180 0 22 (kb_of ke_J5_newCapacity_0f7a4 8 rfl) (kb_of ke_J5_newCapacity_0f7a4 9 rfl) (kb_of ke_J5_newCapacity_0f7a4 10 rfl)
theorem dJ5_newCapacity_0f7a4_11 : decode cJ5_newCapacity_0f7a4 11 = .ok (.ishl, 1) := dqo_120 (kb_of ke_J5_newCapacity_0f7a4 11 rfl)
theorem dJ5_newCapacity_0f7a4_12 : decode cJ5_newCapacity_0f7a4 12 = .ok (.istore_n 3, 1) := dqo_62 (kb_of ke_J5_newCapacity_0f7a4 12 rfl)
theorem dJ5_newCapacity_0f7a4_13 : decode cJ5_newCapacity_0f7a4 13 = .ok (.iload_n 3, 1) := dqo_29 (kb_of ke_J5_newCapacity_0f7a4 13 rfl)
theorem dJ5_newCapacity_0f7a4_14 : decode cJ5_newCapacity_0f7a4 14 = .ok (.iload_n 2, 1) := dqo_28 (kb_of ke_J5_newCapacity_0f7a4 14 rfl)
theorem dJ5_newCapacity_0f7a4_15 : decode cJ5_newCapacity_0f7a4 15 = .ok (.isub, 1) := dqo_100 (kb_of ke_J5_newCapacity_0f7a4 15 rfl)
theorem dJ5_newCapacity_0f7a4_16 : decode cJ5_newCapacity_0f7a4 16 = .ok (.istore 4, 2) := dqo_54 4 (kb_of ke_J5_newCapacity_0f7a4 16 rfl) (kb_of ke_J5_newCapacity_0f7a4 17 rfl)
theorem dJ5_newCapacity_0f7a4_18 : decode cJ5_newCapacity_0f7a4 18 = .ok (.iload_n 2, 1) := dqo_28 (kb_of ke_J5_newCapacity_0f7a4 18 rfl)
theorem dJ5_newCapacity_0f7a4_19 : decode cJ5_newCapacity_0f7a4 19 = .ok (.iload 4, 2) := dqo_21 4 (kb_of ke_J5_newCapacity_0f7a4 19 rfl) (kb_of ke_J5_newCapacity_0f7a4 20 rfl)
theorem dJ5_newCapacity_0f7a4_21 : decode cJ5_newCapacity_0f7a4 21 = .ok (.iload_n 2, 1) := dqo_28 (kb_of ke_J5_newCapacity_0f7a4 21 rfl)
theorem dJ5_newCapacity_0f7a4_22 : decode cJ5_newCapacity_0f7a4 22 = .ok (.iconst 2, 1) := dqo_5 (kb_of ke_J5_newCapacity_0f7a4 22 rfl)
theorem dJ5_newCapacity_0f7a4_23 : decode cJ5_newCapacity_0f7a4 23 = .ok (.aload_n 0, 1) := dqo_42 (kb_of ke_J5_newCapacity_0f7a4 23 rfl)
theorem dJ5_newCapacity_0f7a4_24 : decode cJ5_newCapacity_0f7a4 24 = .ok (.getfield 22, 3) := dqo_180 0 22 (kb_of ke_J5_newCapacity_0f7a4 24 rfl) (kb_of ke_J5_newCapacity_0f7a4 25 rfl) (kb_of ke_J5_newCapacity_0f7a4 26 rfl)
theorem dJ5_newCapacity_0f7a4_27 : decode cJ5_newCapacity_0f7a4 27 = .ok (.ishl, 1) := dqo_120 (kb_of ke_J5_newCapacity_0f7a4 27 rfl)
theorem dJ5_newCapacity_0f7a4_28 : decode cJ5_newCapacity_0f7a4 28 = .ok (.iadd, 1) := dqo_96 (kb_of ke_J5_newCapacity_0f7a4 28 rfl)
theorem dJ5_newCapacity_0f7a4_29 : decode cJ5_newCapacity_0f7a4 29 = .ok (.invokestatic 114, 3) := dqo_184 0 114 (kb_of ke_J5_newCapacity_0f7a4 29 rfl) (kb_of ke_J5_newCapacity_0f7a4 30 rfl) (kb_of ke_J5_newCapacity_0f7a4 31 rfl)
theorem dJ5_newCapacity_0f7a4_32 : decode cJ5_newCapacity_0f7a4 32 = .ok (.istore 5, 2) := dqo_54 5 (kb_of ke_J5_newCapacity_0f7a4 32 rfl) (kb_of ke_J5_newCapacity_0f7a4 33 rfl)
theorem dJ5_newCapacity_0f7a4_34 : decode cJ5_newCapacity_0f7a4 34 = .ok (.iload 5, 2) := dqo_21 5 (kb_of ke_J5_newCapacity_0f7a4 34 rfl) (kb_of ke_J5_newCapacity_0f7a4 35 rfl)
theorem dJ5_newCapacity_0f7a4_36 : decode cJ5_newCapacity_0f7a4 36 = .ok (.ldc 39, 2) := dqo_18 39 (kb_of ke_J5_newCapacity_0f7a4 36 rfl) (kb_of ke_J5_newCapacity_0f7a4 37 rfl)
theorem dJ5_newCapacity_0f7a4_38 : decode cJ5_newCapacity_0f7a4 38 = .ok (.if_icmp .ne 13, 3) := dqo_160 0 13 (by decide) (kb_of ke_J5_newCapacity_0f7a4 38 rfl) (kb_of ke_J5_newCapacity_0f7a4 39 rfl) (kb_of ke_J5_newCapacity_0f7a4 40 rfl)
theorem dJ5_newCapacity_0f7a4_51 : decode cJ5_newCapacity_0f7a4 51 = .ok (.iload 5, 2) := dqo_21 5 (kb_of ke_J5_newCapacity_0f7a4 51 rfl) (kb_of ke_J5_newCapacity_0f7a4 52 rfl)
theorem dJ5_newCapacity_0f7a4_53 : decode cJ5_newCapacity_0f7a4 53 = .ok (.aload_n 0, 1) := dqo_42 (kb_of ke_J5_newCapacity_0f7a4 53 rfl)
theorem dJ5_newCapacity_0f7a4_54 : decode cJ5_newCapacity_0f7a4 54 = .ok (.getfield 22, 3) := dqo_180 0 22 (kb_of ke_J5_newCapacity_0f7a4 54 rfl) (kb_of ke_J5_newCapacity_0f7a4 55 rfl) (kb_of ke_J5_newCapacity_0f7a4 56 rfl)
theorem dJ5_newCapacity_0f7a4_57 : decode cJ5_newCapacity_0f7a4 57 = .ok (.ishr, 1) := dqo_122 (kb_of ke_J5_newCapacity_0f7a4 57 rfl)
theorem dJ5_newCapacity_0f7a4_58 : decode cJ5_newCapacity_0f7a4 58 = .ok (.ireturn, 1) := dqo_172 (kb_of ke_J5_newCapacity_0f7a4 58 rfl)
theorem pk_J8_newLength_cabcc : PkS yJ8_newLength_cabcc cJ8_newLength_cabcc 4 (some .int) 3 := ⟨⟨qt_J8_newLength_cabcc, qz_J8, qc_J8_newLength_cabcc⟩, mh_J8.1, mh_J8.2, pd_28⟩
set_option maxRecDepth 100000 in
set_option maxHeartbeats 400000 in
theorem C_newCapacity {l : Launch} {D : va_G} {cy : Nat → ClassId} {X : (Nat → Prop) → State → Heap → Prop} {aK aV : Nat → Nat} {tO tT : Nat} {gO gT : Nat → Int32} {U E : va_W} {b : Nat} {v : Nat} {m : Nat} {n : Nat} {g : Nat → Int32} {ml : Int32} {q : Nat} (hX : EnvS X cy aK aV tO tT gO gT) (hm : m ≤ 65536) (hq : q < 268435456) (hmq : m < q) : Cm l D cy X yJ5_newCapacity_0f7a4 cJ5_newCapacity_0f7a4 6 (some .int) (rmz 2 80) [.ref b, .int (nI q)] (U ++ (SBO b v ml n :: BYO cy v m g :: E)) (fun v1 w1 => v1 = some (.int (nI (sb_cap q m))) ∧ w1 = U ++ (SBO b v ml n :: BYO cy v m g :: E)) (fun _ => False) := by
  refine Cm.ofF [some (.ref b), some (.int (nI q)), none, none, none, none] (plainFor_of_name pn_J5) rfl (Nat.le_of_ble_eq_true rfl) ?_
  intro p e s mI args below meth c A C hE hr hnt hn
  refine r_aload_n C dJ5_newCapacity_0f7a4_0 rfl ?_
  refine t_sbg C 0 0 rfl (by decide) qf_J5_15 rfl rfl dJ5_newCapacity_0f7a4_1 ?_
  refine t_blen C 1 rfl dJ5_newCapacity_0f7a4_4 ?_
  refine r_istore_n C dJ5_newCapacity_0f7a4_5 (by decide) rfl ?_
  refine r_iload_n C dJ5_newCapacity_0f7a4_6 rfl ?_
  refine r_aload_n C dJ5_newCapacity_0f7a4_7 rfl ?_
  refine t_sbg C 0 1 rfl (by decide) qf_J5_22 rfl rfl dJ5_newCapacity_0f7a4_8 ?_
  refine t_ishl C dJ5_newCapacity_0f7a4_11 ?_
  refine r_istore_n C dJ5_newCapacity_0f7a4_12 (by decide) rfl ?_
  refine r_iload_n C dJ5_newCapacity_0f7a4_13 rfl ?_
  refine r_iload_n C dJ5_newCapacity_0f7a4_14 rfl ?_
  refine r_isubN C dJ5_newCapacity_0f7a4_15 (by first | omega | (simp [up2, *]; done) | (simp [up2, *]; omega) | (simp only [up2_eq]; omega) | (split <;> omega)) ?_
  refine r_istore C dJ5_newCapacity_0f7a4_16 (by decide) rfl ?_
  refine r_iload_n C dJ5_newCapacity_0f7a4_18 rfl ?_
  refine r_iload C dJ5_newCapacity_0f7a4_19 rfl ?_
  refine r_iload_n C dJ5_newCapacity_0f7a4_21 rfl ?_
  refine r_iconst (v := (nI 2)) C dJ5_newCapacity_0f7a4_22 (by decide) ?_
  refine r_aload_n C dJ5_newCapacity_0f7a4_23 rfl ?_
  refine t_sbg C 0 1 rfl (by decide) qf_J5_22 rfl rfl dJ5_newCapacity_0f7a4_24 ?_
  refine t_ishl C dJ5_newCapacity_0f7a4_27 ?_
  refine r_iaddN C dJ5_newCapacity_0f7a4_28 ?_
  refine c_S (st := []) hX.stb C hE (C_newLength (w := U ++ (SBO b v ml n :: BYO cy v m g :: E)) (o := m) (a := (q - m)) (k := (m + 2)) hX (by first | omega | (simp [up2, *]; done) | (simp [up2, *]; omega) | (simp only [up2_eq]; omega) | (split <;> omega)) (by first | omega | (simp [up2, *]; done) | (simp [up2, *]; omega) | (simp only [up2_eq]; omega) | (split <;> omega)) (by first | omega | (simp [up2, *]; done) | (simp [up2, *]; omega) | (simp only [up2_eq]; omega) | (split <;> omega)) (by first | omega | (simp [up2, *]; done) | (simp [up2, *]; omega) | (simp only [up2_eq]; omega) | (split <;> omega))) pk_J8_newLength_cabcc qm_J5_114 rfl rfl (Nat.le_of_ble_eq_true rfl) dJ5_newCapacity_0f7a4_29 ⟨Nat.le_of_ble_eq_true rfl, Nat.le_of_ble_eq_true rfl⟩ ⟨by first | (simp only [rmk, rmz]; omega) | (simp only [rmk, rmz]; done) | omega, by first | (simp only [rmk, rmz]; omega) | (simp only [rmk, rmz]; done) | omega⟩ (fun v9 w9 h9 => ?_) (fun _ h9 => h9.elim)
  obtain ⟨rfl, rfl⟩ := h9
  refine r_istore C dJ5_newCapacity_0f7a4_32 (by decide) rfl ?_
  refine r_iload C dJ5_newCapacity_0f7a4_34 rfl ?_
  refine j_ldc (v := nI 2147483647) C qx_J5_39 dJ5_newCapacity_0f7a4_36 ?_
  refine r_icN_ne (a := (m + (if (q - m) < (m + 2) then (m + 2) else (q - m)))) (b := 2147483647) (tgt := 51) C (by first | omega | (simp [up2, *]; done) | (simp [up2, *]; omega) | (simp only [up2_eq]; omega) | (split <;> omega)) (by first | omega | (simp [up2, *]; done) | (simp [up2, *]; omega) | (simp only [up2_eq]; omega) | (split <;> omega)) dJ5_newCapacity_0f7a4_38 (by decide) (fun h38_1 => ?_) (fun h38_1 => ?_)
  · skip
    refine r_iload C dJ5_newCapacity_0f7a4_51 rfl ?_
    refine r_aload_n C dJ5_newCapacity_0f7a4_53 rfl ?_
    refine t_sbg C 0 1 rfl (by decide) qf_J5_22 rfl rfl dJ5_newCapacity_0f7a4_54 ?_
    refine t_ishr C dJ5_newCapacity_0f7a4_57 ?_
    exact r_iret C hr dJ5_newCapacity_0f7a4_58 ⟨by rw [cap_val hmq], rfl⟩ (by first | (simp only [rmk, rmz]; omega) | (simp only [rmk, rmz]; done) | omega) (by first | (simp only [rmk, rmz]; omega) | (simp only [rmk, rmz]; done) | omega)
  · exact absurd h38_1 (by first | omega | (simp [up2, *]; done) | (simp [up2, *]; omega) | (simp only [up2_eq]; omega) | (split <;> omega))
theorem dJ7_copyOf_9075b_0 : decode cJ7_copyOf_9075b 0 = .ok (.iload_n 1, 1) := dqo_27 (kb_of ke_J7_copyOf_9075b 0 rfl)
theorem dJ7_copyOf_9075b_1 : decode cJ7_copyOf_9075b 1 = .ok (.aload_n 0, 1) := dqo_42 (kb_of ke_J7_copyOf_9075b 1 rfl)
theorem dJ7_copyOf_9075b_2 : decode cJ7_copyOf_9075b 2 = .ok (.arraylength, 1) := dqo_190 (kb_of ke_J7_copyOf_9075b 2 rfl)
theorem dJ7_copyOf_9075b_3 : decode cJ7_copyOf_9075b 3 = .ok (.if_icmp .ne 11, 3) := dqo_160 0 11 (by decide) (kb_of ke_J7_copyOf_9075b 3 rfl) (kb_of ke_J7_copyOf_9075b 4 rfl) (kb_of ke_J7_copyOf_9075b 5 rfl)
theorem dJ7_copyOf_9075b_14 : decode cJ7_copyOf_9075b 14 = .ok (.iload_n 1, 1) := dqo_27 (kb_of ke_J7_copyOf_9075b 14 rfl)
theorem dJ7_copyOf_9075b_15 : decode cJ7_copyOf_9075b 15 = .ok (.newarray .byte, 2) := dqo_188_8 (kb_of ke_J7_copyOf_9075b 15 rfl) (kb_of ke_J7_copyOf_9075b 16 rfl)
theorem dJ7_copyOf_9075b_17 : decode cJ7_copyOf_9075b 17 = .ok (.astore_n 2, 1) := dqo_77 (kb_of ke_J7_copyOf_9075b 17 rfl)
theorem dJ7_copyOf_9075b_18 : decode cJ7_copyOf_9075b 18 = .ok (.aload_n 0, 1) := dqo_42 (kb_of ke_J7_copyOf_9075b 18 rfl)
theorem dJ7_copyOf_9075b_19 : decode cJ7_copyOf_9075b 19 = .ok (.iconst 0, 1) := dqo_3 (kb_of ke_J7_copyOf_9075b 19 rfl)
theorem dJ7_copyOf_9075b_20 : decode cJ7_copyOf_9075b 20 = .ok (.aload_n 2, 1) := dqo_44 (kb_of ke_J7_copyOf_9075b 20 rfl)
theorem dJ7_copyOf_9075b_21 : decode cJ7_copyOf_9075b 21 = .ok (.iconst 0, 1) := dqo_3 (kb_of ke_J7_copyOf_9075b 21 rfl)
theorem dJ7_copyOf_9075b_22 : decode cJ7_copyOf_9075b 22 = .ok (.aload_n 0, 1) := dqo_42 (kb_of ke_J7_copyOf_9075b 22 rfl)
theorem dJ7_copyOf_9075b_23 : decode cJ7_copyOf_9075b 23 = .ok (.arraylength, 1) := dqo_190 (kb_of ke_J7_copyOf_9075b 23 rfl)
theorem dJ7_copyOf_9075b_24 : decode cJ7_copyOf_9075b 24 = .ok (.iload_n 1, 1) := dqo_27 (kb_of ke_J7_copyOf_9075b 24 rfl)
theorem dJ7_copyOf_9075b_25 : decode cJ7_copyOf_9075b 25 = .ok (.invokestatic 304, 3) := dqo_184 1 48 (kb_of ke_J7_copyOf_9075b 25 rfl) (kb_of ke_J7_copyOf_9075b 26 rfl) (kb_of ke_J7_copyOf_9075b 27 rfl)
theorem dJ7_copyOf_9075b_28 : decode cJ7_copyOf_9075b 28 = .ok (.invokestatic 150, 3) := dqo_184 0 150 (kb_of ke_J7_copyOf_9075b 28 rfl) (kb_of ke_J7_copyOf_9075b 29 rfl) (kb_of ke_J7_copyOf_9075b 30 rfl)
theorem dJ7_copyOf_9075b_31 : decode cJ7_copyOf_9075b 31 = .ok (.aload_n 2, 1) := dqo_44 (kb_of ke_J7_copyOf_9075b 31 rfl)
theorem dJ7_copyOf_9075b_32 : decode cJ7_copyOf_9075b 32 = .ok (.areturn, 1) := dqo_176 (kb_of ke_J7_copyOf_9075b 32 rfl)
set_option maxRecDepth 100000 in
set_option maxHeartbeats 400000 in
theorem C_copyOf {l : Launch} {D : va_G} {cy : Nat → ClassId} {X : (Nat → Prop) → State → Heap → Prop} {aK aV : Nat → Nat} {tO tT : Nat} {gO gT : Nat → Int32} {U E : va_W} {v : Nat} {m : Nat} {g : Nat → Int32} {q : Nat} (hX : EnvS X cy aK aV tO tT gO gT) (hmq : m < q) (hq : q < 1000000) (hf : sb_Fit g) : Cm l D cy X yJ7_copyOf_9075b cJ7_copyOf_9075b 3 (some (.array .byte)) (rmk 1 1 q 40) [.ref v, .int (nI q)] (U ++ (BYO cy v m g :: E)) (fun v1 w1 => ∃ v9 : Nat, ∃ g9 : Nat → Int32, (sb_Fit g9) ∧ v1 = some (.ref v9) ∧ w1 = U ++ (BYO cy v9 q g9 :: BYO cy v m g :: E)) (fun _ => False) := by
  refine Cm.ofF [some (.ref v), some (.int (nI q)), none] (plainFor_of_name pn_J7) rfl (Nat.le_of_ble_eq_true rfl) ?_
  intro p e s mI args below meth c A C hE hr hnt hn
  refine r_iload_n C dJ7_copyOf_9075b_0 rfl ?_
  refine r_aload_n C dJ7_copyOf_9075b_1 rfl ?_
  refine t_blen C 0 rfl dJ7_copyOf_9075b_2 ?_
  refine r_icN_ne (a := q) (b := m) (tgt := 14) C (by first | omega | (simp [up2, *]; done) | (simp [up2, *]; omega) | (simp only [up2_eq]; omega) | (split <;> omega)) (by first | omega | (simp [up2, *]; done) | (simp [up2, *]; omega) | (simp only [up2_eq]; omega) | (split <;> omega)) dJ7_copyOf_9075b_3 (by decide) (fun h3_1 => ?_) (fun h3_1 => ?_)
  · skip
    refine r_iload_n C dJ7_copyOf_9075b_14 rfl ?_
    refine t_newB C qa_byte (by first | omega | (simp [up2, *]; done) | (simp [up2, *]; omega) | (simp only [up2_eq]; omega) | (split <;> omega)) (by first | (simp only [rmk, rmz]; omega) | (simp only [rmk, rmz]; done) | omega) (by first | (simp only [rmk, rmz]; omega) | (simp only [rmk, rmz]; done) | omega) dJ7_copyOf_9075b_15 (fun q_2 => ?_)
    refine r_astore_n C dJ7_copyOf_9075b_17 (by decide) rfl ?_
    refine r_aload_n C dJ7_copyOf_9075b_18 rfl ?_
    refine r_iconst (v := (nI 0)) C dJ7_copyOf_9075b_19 (by decide) ?_
    refine r_aload_n C dJ7_copyOf_9075b_20 rfl ?_
    refine r_iconst (v := (nI 0)) C dJ7_copyOf_9075b_21 (by decide) ?_
    refine r_aload_n C dJ7_copyOf_9075b_22 rfl ?_
    refine t_blen C 1 rfl dJ7_copyOf_9075b_23 ?_
    refine r_iload_n C dJ7_copyOf_9075b_24 rfl ?_
    refine c_S (st := [.int (nI 0), .ref q_2, .int (nI 0), .ref v]) hX.stb C hE (C_mmin (w := U ++ (BYO cy q_2 q (fun _ => 0) :: BYO cy v m g :: E)) (x := (nI m)) (y := (nI q)) ) pk_J9_min_7cf53 qm_J7_304 rfl rfl (Nat.le_of_ble_eq_true rfl) dJ7_copyOf_9075b_25 ⟨Nat.le_of_ble_eq_true rfl, Nat.le_of_ble_eq_true rfl⟩ ⟨by first | (simp only [rmk, rmz]; omega) | (simp only [rmk, rmz]; done) | omega, by first | (simp only [rmk, rmz]; omega) | (simp only [rmk, rmz]; done) | omega⟩ (fun v9 w9 h9 => ?_) (fun _ h9 => h9.elim)
    obtain ⟨rfl, rfl⟩ := h9
    refine r_eqi (y := nI m) (mn_nI (by omega) (by omega)) ?_
    refine t_bcp (st := []) (sp := 0) (dp := 0) (n := m) C 1 0 qm_J7_150 rfl rfl hf (by first | omega | (simp [up2, *]; done) | (simp [up2, *]; omega) | (simp only [up2_eq]; omega) | (split <;> omega)) (by first | omega | (simp [up2, *]; done) | (simp [up2, *]; omega) | (simp only [up2_eq]; omega) | (split <;> omega)) (by first | omega | (simp [up2, *]; done) | (simp [up2, *]; omega) | (simp only [up2_eq]; omega) | (split <;> omega)) (by first | omega | (simp [up2, *]; done) | (simp [up2, *]; omega) | (simp only [up2_eq]; omega) | (split <;> omega)) (Nat.le_of_ble_eq_true rfl) (Nat.le_of_ble_eq_true rfl) dJ7_copyOf_9075b_28 (L' := (BYO cy q_2 q (va_cpy g (fun _ => 0) 0 0 m) :: BYO cy v m g :: E)) rfl ?_
    refine r_aload_n C dJ7_copyOf_9075b_31 rfl ?_
    exact r_aret C hr (Or.inr ⟨_, rfl⟩) dJ7_copyOf_9075b_32 ⟨q_2, _, sb_fitC hf sb_fit0, rfl, rfl⟩ (by first | (simp only [rmk, rmz]; omega) | (simp only [rmk, rmz]; done) | omega) (by first | (simp only [rmk, rmz]; omega) | (simp only [rmk, rmz]; done) | omega)
  · exact absurd h3_1 (by first | omega | (simp [up2, *]; done) | (simp [up2, *]; omega) | (simp only [up2_eq]; omega) | (split <;> omega))
theorem dJ5_ensureCapacityInternal_d00df_0 : decode cJ5_ensureCapacityInternal_d00df 0 = .ok (.aload_n 0, 1) := dqo_42 (kb_of ke_J5_ensureCapacityInternal_d00df 0 rfl)
theorem dJ5_ensureCapacityInternal_d00df_1 : decode cJ5_ensureCapacityInternal_d00df 1 = .ok (.getfield 15, 3) := dqo_180 0 15 (kb_of ke_J5_ensureCapacityInternal_d00df 1 rfl) (kb_of ke_J5_ensureCapacityInternal_d00df 2 rfl) (kb_of ke_J5_ensureCapacityInternal_d00df 3 rfl)
theorem dJ5_ensureCapacityInternal_d00df_4 : decode cJ5_ensureCapacityInternal_d00df 4 = .ok (.arraylength, 1) := dqo_190 (kb_of ke_J5_ensureCapacityInternal_d00df 4 rfl)
theorem dJ5_ensureCapacityInternal_d00df_5 : decode cJ5_ensureCapacityInternal_d00df 5 = .ok (.aload_n 0, 1) := dqo_42 (kb_of ke_J5_ensureCapacityInternal_d00df 5 rfl)
theorem dJ5_ensureCapacityInternal_d00df_6 : decode cJ5_ensureCapacityInternal_d00df 6 = .ok (.getfield 22, 3) := dqo_180 0 22 (kb_of ke_J5_ensureCapacityInternal_d00df 6 rfl) (kb_of ke_J5_ensureCapacityInternal_d00df 7 rfl) (kb_of ke_J5_ensureCapacityInternal_d00df 8 rfl)
theorem dJ5_ensureCapacityInternal_d00df_9 : decode cJ5_ensureCapacityInternal_d00df 9 = .ok (.ishr, 1) := dqo_122 (kb_of ke_J5_ensureCapacityInternal_d00df 9 rfl)
theorem dJ5_ensureCapacityInternal_d00df_10 : decode cJ5_ensureCapacityInternal_d00df 10 = .ok (.istore_n 2, 1) := dqo_61 (kb_of ke_J5_ensureCapacityInternal_d00df 10 rfl)
theorem dJ5_ensureCapacityInternal_d00df_11 : decode cJ5_ensureCapacityInternal_d00df 11 = .ok (.iload_n 1, 1) := dqo_27 (kb_of ke_J5_ensureCapacityInternal_d00df 11 rfl)
theorem dJ5_ensureCapacityInternal_d00df_12 : decode cJ5_ensureCapacityInternal_d00df 12 = .ok (.iload_n 2, 1) := dqo_28 (kb_of ke_J5_ensureCapacityInternal_d00df 12 rfl)
theorem dJ5_ensureCapacityInternal_d00df_13 : decode cJ5_ensureCapacityInternal_d00df 13 = .ok (.isub, 1) := dqo_100 (kb_of ke_J5_ensureCapacityInternal_d00df 13 rfl)
theorem dJ5_ensureCapacityInternal_d00df_14 : decode cJ5_ensureCapacityInternal_d00df 14 = .ok (.ifCond .le 24, 3) := dqo_158 0 24 (by decide) (kb_of ke_J5_ensureCapacityInternal_d00df 14 rfl) (kb_of ke_J5_ensureCapacityInternal_d00df 15 rfl) (kb_of ke_J5_ensureCapacityInternal_d00df 16 rfl)
theorem dJ5_ensureCapacityInternal_d00df_17 : decode cJ5_ensureCapacityInternal_d00df 17 = .ok (.aload_n 0, 1) := dqo_42 (kb_of ke_J5_ensureCapacityInternal_d00df 17 rfl)
theorem dJ5_ensureCapacityInternal_d00df_18 : decode cJ5_ensureCapacityInternal_d00df 18 = .ok (.aload_n 0, 1) := dqo_42 (kb_of ke_J5_ensureCapacityInternal_d00df 18 rfl)
theorem dJ5_ensureCapacityInternal_d00df_19 : decode cJ5_ensureCapacityInternal_d00df 19 = .ok (.getfield 15, 3) := dqo_180 0 15 (kb_of ke_J5_ensureCapacityInternal_d00df 19 rfl) (kb_of ke_J5_ensureCapacityInternal_d00df 20 rfl) (kb_of ke_J5_ensureCapacityInternal_d00df 21 rfl)
theorem dJ5_ensureCapacityInternal_d00df_22 : decode cJ5_ensureCapacityInternal_d00df 22 = .ok (.aload_n 0, 1) := dqo_42 (kb_of ke_J5_ensureCapacityInternal_d00df 22 rfl)
theorem dJ5_ensureCapacityInternal_d00df_23 : decode cJ5_ensureCapacityInternal_d00df 23 = .ok (.iload_n 1, 1) := dqo_27 (kb_of ke_J5_ensureCapacityInternal_d00df 23 rfl)
theorem dJ5_ensureCapacityInternal_d00df_24 : decode cJ5_ensureCapacityInternal_d00df 24 = .ok (.invokevirtual 104, 3) := dqo_182 0 104 (kb_of ke_J5_ensureCapacityInternal_d00df 24 rfl) (kb_of ke_J5_ensureCapacityInternal_d00df 25 rfl) (kb_of ke_J5_ensureCapacityInternal_d00df 26 rfl)
theorem dJ5_ensureCapacityInternal_d00df_27 : decode cJ5_ensureCapacityInternal_d00df 27 = .ok (.aload_n 0, 1) := dqo_42 (kb_of ke_J5_ensureCapacityInternal_d00df 27 rfl)
theorem dJ5_ensureCapacityInternal_d00df_28 : decode cJ5_ensureCapacityInternal_d00df 28 = .ok (.getfield 22, 3) := dqo_180 0 22 (kb_of ke_J5_ensureCapacityInternal_d00df 28 rfl) (kb_of ke_J5_ensureCapacityInternal_d00df 29 rfl) (kb_of ke_J5_ensureCapacityInternal_d00df 30 rfl)
theorem dJ5_ensureCapacityInternal_d00df_31 : decode cJ5_ensureCapacityInternal_d00df 31 = .ok (.ishl, 1) := dqo_120 (kb_of ke_J5_ensureCapacityInternal_d00df 31 rfl)
theorem dJ5_ensureCapacityInternal_d00df_32 : decode cJ5_ensureCapacityInternal_d00df 32 = .ok (.invokestatic 108, 3) := dqo_184 0 108 (kb_of ke_J5_ensureCapacityInternal_d00df 32 rfl) (kb_of ke_J5_ensureCapacityInternal_d00df 33 rfl) (kb_of ke_J5_ensureCapacityInternal_d00df 34 rfl)
theorem dJ5_ensureCapacityInternal_d00df_35 : decode cJ5_ensureCapacityInternal_d00df 35 = .ok (.putfield 15, 3) := dqo_181 0 15 (kb_of ke_J5_ensureCapacityInternal_d00df 35 rfl) (kb_of ke_J5_ensureCapacityInternal_d00df 36 rfl) (kb_of ke_J5_ensureCapacityInternal_d00df 37 rfl)
theorem dJ5_ensureCapacityInternal_d00df_38 : decode cJ5_ensureCapacityInternal_d00df 38 = .ok (.return_, 1) := dqo_177 (kb_of ke_J5_ensureCapacityInternal_d00df 38 rfl)
theorem pk_J5_newCapacity_0f7a4 : PkU yJ5_newCapacity_0f7a4 cJ5_newCapacity_0f7a4 6 (some .int) 1 := ⟨⟨qe_J5_newCapacity_0f7a4, qi_J5_newCapacity_0f7a4, qc_J5_newCapacity_0f7a4⟩, Or.inr qr_J5_newCapacity_0f7a4, by decide +kernel⟩
theorem pk_J7_copyOf_9075b : PkS yJ7_copyOf_9075b cJ7_copyOf_9075b 3 (some (.array .byte)) 2 := ⟨⟨qt_J7_copyOf_9075b, qz_J7, qc_J7_copyOf_9075b⟩, mh_J7.1, mh_J7.2, pd_29⟩
set_option maxRecDepth 100000 in
set_option maxHeartbeats 400000 in
theorem C_ensure {l : Launch} {D : va_G} {cy : Nat → ClassId} {X : (Nat → Prop) → State → Heap → Prop} {aK aV : Nat → Nat} {tO tT : Nat} {gO gT : Nat → Int32} {U E : va_W} {b : Nat} {v : Nat} {m : Nat} {n : Nat} {g : Nat → Int32} {ml : Int32} {q : Nat} (hX : EnvS X cy aK aV tO tT gO gT) (hm : m ≤ 65536) (hq : q < 300000) (hf : sb_Fit g) : Cm l D cy X yJ5_ensureCapacityInternal_d00df cJ5_ensureCapacityInternal_d00df 3 none (rmk 3 (gC q m) (gS q m) 120) [.ref b, .int (nI q)] (U ++ (SBO b v ml n :: BYO cy v m g :: E)) (fun v1 w1 => ∃ v9 : Nat, ∃ g9 : Nat → Int32, (sb_Fit g9) ∧ v1 = none ∧ w1 = U ++ (SBO b v9 ml n :: BYO cy v9 (sb_cap q m) g9 :: E)) (fun _ => False) := by
  refine Cm.ofF [some (.ref b), some (.int (nI q)), none] (plainFor_of_name pn_J5) rfl (Nat.le_of_ble_eq_true rfl) ?_
  intro p e s mI args below meth c A C hE hr hnt hn
  refine r_aload_n C dJ5_ensureCapacityInternal_d00df_0 rfl ?_
  refine t_sbg C 0 0 rfl (by decide) qf_J5_15 rfl rfl dJ5_ensureCapacityInternal_d00df_1 ?_
  refine t_blen C 1 rfl dJ5_ensureCapacityInternal_d00df_4 ?_
  refine r_aload_n C dJ5_ensureCapacityInternal_d00df_5 rfl ?_
  refine t_sbg C 0 1 rfl (by decide) qf_J5_22 rfl rfl dJ5_ensureCapacityInternal_d00df_6 ?_
  refine t_ishr C dJ5_ensureCapacityInternal_d00df_9 ?_
  refine r_istore_n C dJ5_ensureCapacityInternal_d00df_10 (by decide) rfl ?_
  refine r_iload_n C dJ5_ensureCapacityInternal_d00df_11 rfl ?_
  refine r_iload_n C dJ5_ensureCapacityInternal_d00df_12 rfl ?_
  refine r_isub C dJ5_ensureCapacityInternal_d00df_13 ?_
  refine r_if_le (tgt := 38) C dJ5_ensureCapacityInternal_d00df_14 (by decide) (fun h14_1 => ?_) (fun h14_1 => ?_)
  · skip
    have hqm : q ≤ m := by
      rw [Int32.le_iff_toInt_le, pk_sub_toInt (by omega) (by omega)] at h14_1
      have h8 : (0 : Int32).toInt = 0 := rfl
      omega
    exact r_vret C hr dJ5_ensureCapacityInternal_d00df_38 ⟨v, g, hf, rfl, by rw [show sb_cap q m = m from if_pos hqm]⟩ (by first | (simp only [rmk, rmz]; omega) | (simp only [rmk, rmz]; done) | omega) (by first | (simp only [rmk, rmz]; omega) | (simp only [rmk, rmz]; done) | omega)
  · skip
    have hqm : m < q := by
      rw [Int32.le_iff_toInt_le, pk_sub_toInt (by omega) (by omega)] at h14_1
      have h8 : (0 : Int32).toInt = 0 := rfl
      omega
    have hC : gC q m = 1 := if_neg (by omega)
    have hS : gS q m = sb_cap q m := if_neg (by omega)
    have hcg := sb_cap_ge q m
    refine r_aload_n C dJ5_ensureCapacityInternal_d00df_17 rfl ?_
    refine r_aload_n C dJ5_ensureCapacityInternal_d00df_18 rfl ?_
    refine t_sbg C 0 0 rfl (by decide) qf_J5_15 rfl rfl dJ5_ensureCapacityInternal_d00df_19 ?_
    refine r_aload_n C dJ5_ensureCapacityInternal_d00df_22 rfl ?_
    refine r_iload_n C dJ5_ensureCapacityInternal_d00df_23 rfl ?_
    refine c_U (st := [.ref v, .ref b]) hX C hE (C_newCapacity (U := U) (E := E) (b := b) (v := v) (m := m) (n := n) (g := g) (ml := ml) (q := q) hX (by first | omega | (simp [up2, *]; done) | (simp [up2, *]; omega) | (simp only [up2_eq]; omega) | (split <;> omega)) (by first | omega | (simp [up2, *]; done) | (simp [up2, *]; omega) | (simp only [up2_eq]; omega) | (split <;> omega)) (by first | omega | (simp [up2, *]; done) | (simp [up2, *]; omega) | (simp only [up2_eq]; omega) | (split <;> omega))) pk_J5_newCapacity_0f7a4 qm_J5_104 (U.length + 0) (us_g rfl) rfl rfl (Nat.le_of_ble_eq_true rfl) dJ5_ensureCapacityInternal_d00df_24 ⟨Nat.le_of_ble_eq_true rfl, Nat.le_of_ble_eq_true rfl⟩ ⟨by first | (simp only [rmk, rmz]; omega) | (simp only [rmk, rmz]; done) | omega, by first | (simp only [rmk, rmz]; omega) | (simp only [rmk, rmz]; done) | omega⟩ (fun v9 w9 h9 => ?_) (fun _ h9 => h9.elim)
    obtain ⟨rfl, rfl⟩ := h9
    refine r_aload_n C dJ5_ensureCapacityInternal_d00df_27 rfl ?_
    refine t_sbg C 0 1 rfl (by decide) qf_J5_22 rfl rfl dJ5_ensureCapacityInternal_d00df_28 ?_
    refine t_ishl C dJ5_ensureCapacityInternal_d00df_31 ?_
    refine t_perm [SBO b v ml n, BYO cy v m g] [BYO cy v m g, SBO b v ml n] [1, 0] rfl (by decide) rfl (w' := U ++ (BYO cy v m g :: SBO b v ml n :: E)) rfl ?_
    refine c_S (st := [.ref b]) hX.stb C hE (C_copyOf (U := U) (E := (SBO b v ml n :: E)) (v := v) (m := m) (g := g) (q := (sb_cap q m)) hX (by omega) (by have := cap_lt hm (show q < 268435456 by omega); unfold sb_cap; split; omega; split <;> omega) hf) pk_J7_copyOf_9075b qm_J5_108 rfl rfl (Nat.le_of_ble_eq_true rfl) dJ5_ensureCapacityInternal_d00df_32 ⟨Nat.le_of_ble_eq_true rfl, Nat.le_of_ble_eq_true rfl⟩ ⟨by first | (simp only [rmk, rmz]; omega) | (simp only [rmk, rmz]; done) | omega, by first | (simp only [rmk, rmz]; omega) | (simp only [rmk, rmz]; done) | omega⟩ (fun v9 w9 h9 => ?_) (fun _ h9 => h9.elim)
    obtain ⟨v9_2, g9_3, f_4, rfl, rfl⟩ := h9
    refine t_sbp (ty := .array .byte) C 2 0 rfl (by decide) rfl qf_J5_15 rfl rfl rfl rfl rfl dJ5_ensureCapacityInternal_d00df_35 (L' := (BYO cy v9_2 (sb_cap q m) g9_3 :: BYO cy v m g :: SBO b v9_2 ml n :: E)) rfl ?_
    refine t_perm [BYO cy v9_2 (sb_cap q m) g9_3, BYO cy v m g, SBO b v9_2 ml n] [SBO b v9_2 ml n, BYO cy v9_2 (sb_cap q m) g9_3] [2, 0] rfl (by decide) rfl (w' := U ++ (SBO b v9_2 ml n :: BYO cy v9_2 (sb_cap q m) g9_3 :: E)) rfl ?_
    exact r_vret C hr dJ5_ensureCapacityInternal_d00df_38 ⟨v9_2, g9_3, f_4, rfl, rfl⟩ (by first | (simp only [rmk, rmz]; omega) | (simp only [rmk, rmz]; done) | omega) (by first | (simp only [rmk, rmz]; omega) | (simp only [rmk, rmz]; done) | omega)
theorem dJ5_isLatin1_aae02_0 : decode cJ5_isLatin1_aae02 0 = .ok (.getstatic 18, 3) := dqo_178 0 18 (kb_of ke_J5_isLatin1_aae02 0 rfl) (kb_of ke_J5_isLatin1_aae02 1 rfl) (kb_of ke_J5_isLatin1_aae02 2 rfl)
theorem dJ5_isLatin1_aae02_3 : decode cJ5_isLatin1_aae02 3 = .ok (.ifCond .eq 14, 3) := dqo_153 0 14 (by decide) (kb_of ke_J5_isLatin1_aae02 3 rfl) (kb_of ke_J5_isLatin1_aae02 4 rfl) (kb_of ke_J5_isLatin1_aae02 5 rfl)
theorem dJ5_isLatin1_aae02_6 : decode cJ5_isLatin1_aae02 6 = .ok (.aload_n 0, 1) := dqo_42 (kb_of ke_J5_isLatin1_aae02 6 rfl)
theorem dJ5_isLatin1_aae02_7 : decode cJ5_isLatin1_aae02 7 = .ok (.getfield 22, 3) := dqo_180 0 22 (kb_of ke_J5_isLatin1_aae02 7 rfl) (kb_of ke_J5_isLatin1_aae02 8 rfl) (kb_of ke_J5_isLatin1_aae02 9 rfl)
theorem dJ5_isLatin1_aae02_10 : decode cJ5_isLatin1_aae02 10 = .ok (.ifCond .ne 7, 3) := dqo_154 0 7 (by decide) (kb_of ke_J5_isLatin1_aae02 10 rfl) (kb_of ke_J5_isLatin1_aae02 11 rfl) (kb_of ke_J5_isLatin1_aae02 12 rfl)
theorem dJ5_isLatin1_aae02_13 : decode cJ5_isLatin1_aae02 13 = .ok (.iconst 1, 1) := dqo_4 (kb_of ke_J5_isLatin1_aae02 13 rfl)
theorem dJ5_isLatin1_aae02_14 : decode cJ5_isLatin1_aae02 14 = .ok (.goto 4, 3) := dqo_167 0 4 (by decide) (kb_of ke_J5_isLatin1_aae02 14 rfl) (kb_of ke_J5_isLatin1_aae02 15 rfl) (kb_of ke_J5_isLatin1_aae02 16 rfl)
theorem dJ5_isLatin1_aae02_18 : decode cJ5_isLatin1_aae02 18 = .ok (.ireturn, 1) := dqo_172 (kb_of ke_J5_isLatin1_aae02 18 rfl)
set_option maxRecDepth 100000 in
set_option maxHeartbeats 400000 in
theorem C_isLatin1 {l : Launch} {D : va_G} {cy : Nat → ClassId} {X : (Nat → Prop) → State → Heap → Prop} {aK aV : Nat → Nat} {tO tT : Nat} {gO gT : Nat → Int32} {U E : va_W} {b : Nat} {v : Nat} {n : Nat} {ml : Int32} (hX : EnvS X cy aK aV tO tT gO gT)  : Cm l D cy X yJ5_isLatin1_aae02 cJ5_isLatin1_aae02 1 (some .boolean) (rmz 0 0) [.ref b] (U ++ (SBO b v ml n :: E)) (fun v1 w1 => v1 = some (.int (nI 1)) ∧ w1 = U ++ (SBO b v ml n :: E)) (fun _ => False) := by
  refine Cm.ofF [some (.ref b)] (plainFor_of_name pn_J5) rfl (Nat.le_of_ble_eq_true rfl) ?_
  intro p e s mI args below meth c A C hE hr hnt hn
  refine j_cs hX C hE qf_J5_18 dJ5_isLatin1_aae02_0 ?_
  refine r_ifN_eq (a := 1) (tgt := 17) C (by first | omega | (simp [up2, *]; done) | (simp [up2, *]; omega) | (simp only [up2_eq]; omega) | (split <;> omega)) dJ5_isLatin1_aae02_3 (by decide) (fun h3_1 => ?_) (fun h3_1 => ?_)
  · exact absurd h3_1 (by first | omega | (simp [up2, *]; done) | (simp [up2, *]; omega) | (simp only [up2_eq]; omega) | (split <;> omega))
  · skip
    refine r_aload_n C dJ5_isLatin1_aae02_6 rfl ?_
    refine t_sbg C 0 1 rfl (by decide) qf_J5_22 rfl rfl dJ5_isLatin1_aae02_7 ?_
    refine r_ifN_ne (a := 0) (tgt := 17) C (by first | omega | (simp [up2, *]; done) | (simp [up2, *]; omega) | (simp only [up2_eq]; omega) | (split <;> omega)) dJ5_isLatin1_aae02_10 (by decide) (fun h10_2 => ?_) (fun h10_2 => ?_)
    · exact absurd h10_2 (by first | omega | (simp [up2, *]; done) | (simp [up2, *]; omega) | (simp only [up2_eq]; omega) | (split <;> omega))
    · skip
      refine r_iconst (v := (nI 1)) C dJ5_isLatin1_aae02_13 (by decide) ?_
      refine r_goto (tgt := 18) C dJ5_isLatin1_aae02_14 (by decide) ?_
      exact r_zret C hr (by first | omega | (simp [up2, *]; done) | (simp [up2, *]; omega) | (simp only [up2_eq]; omega) | (split <;> omega)) dJ5_isLatin1_aae02_18 ⟨rfl, rfl⟩ (by first | (simp only [rmk, rmz]; omega) | (simp only [rmk, rmz]; done) | omega) (by first | (simp only [rmk, rmz]; omega) | (simp only [rmk, rmz]; done) | omega)
theorem dJ1_canEncode_fc78d_0 : decode cJ1_canEncode_fc78d 0 = .ok (.iload_n 0, 1) := dqo_26 (kb_of ke_J1_canEncode_fc78d 0 rfl)
theorem dJ1_canEncode_fc78d_1 : decode cJ1_canEncode_fc78d 1 = .ok (.sipush 255, 3) := dqo_17 0 255 (by decide) (kb_of ke_J1_canEncode_fc78d 1 rfl) (kb_of ke_J1_canEncode_fc78d 2 rfl) (kb_of ke_J1_canEncode_fc78d 3 rfl)
theorem dJ1_canEncode_fc78d_4 : decode cJ1_canEncode_fc78d 4 = .ok (.if_icmp .gt 7, 3) := dqo_163 0 7 (by decide) (kb_of ke_J1_canEncode_fc78d 4 rfl) (kb_of ke_J1_canEncode_fc78d 5 rfl) (kb_of ke_J1_canEncode_fc78d 6 rfl)
theorem dJ1_canEncode_fc78d_7 : decode cJ1_canEncode_fc78d 7 = .ok (.iconst 1, 1) := dqo_4 (kb_of ke_J1_canEncode_fc78d 7 rfl)
theorem dJ1_canEncode_fc78d_8 : decode cJ1_canEncode_fc78d 8 = .ok (.goto 4, 3) := dqo_167 0 4 (by decide) (kb_of ke_J1_canEncode_fc78d 8 rfl) (kb_of ke_J1_canEncode_fc78d 9 rfl) (kb_of ke_J1_canEncode_fc78d 10 rfl)
theorem dJ1_canEncode_fc78d_12 : decode cJ1_canEncode_fc78d 12 = .ok (.ireturn, 1) := dqo_172 (kb_of ke_J1_canEncode_fc78d 12 rfl)
set_option maxRecDepth 100000 in
set_option maxHeartbeats 400000 in
theorem C_canEncode {l : Launch} {D : va_G} {cy : Nat → ClassId} {X : (Nat → Prop) → State → Heap → Prop} {w : va_W} {ch : Nat}  (hch : ch < 256) : Cm l D cy X yJ1_canEncode_fc78d cJ1_canEncode_fc78d 1 (some .boolean) (rmz 0 0) [.int (nI ch)] (w) (fun v1 w1 => v1 = some (.int (nI 1)) ∧ w1 = w) (fun _ => False) := by
  refine Cm.ofF [some (.int (nI ch))] (plainFor_of_name pn_J1) rfl (Nat.le_of_ble_eq_true rfl) ?_
  intro p e s mI args below meth c A C hE hr hnt hn
  refine r_iload_n C dJ1_canEncode_fc78d_0 rfl ?_
  refine r_sipush (v := (nI 255)) C dJ1_canEncode_fc78d_1 (by decide) ?_
  refine r_icN_gt (a := ch) (b := 255) (tgt := 11) C (by first | omega | (simp [up2, *]; done) | (simp [up2, *]; omega) | (simp only [up2_eq]; omega) | (split <;> omega)) (by first | omega | (simp [up2, *]; done) | (simp [up2, *]; omega) | (simp only [up2_eq]; omega) | (split <;> omega)) dJ1_canEncode_fc78d_4 (by decide) (fun h4_1 => ?_) (fun h4_1 => ?_)
  · exact absurd h4_1 (by first | omega | (simp [up2, *]; done) | (simp [up2, *]; omega) | (simp only [up2_eq]; omega) | (split <;> omega))
  · skip
    refine r_iconst (v := (nI 1)) C dJ1_canEncode_fc78d_7 (by decide) ?_
    refine r_goto (tgt := 12) C dJ1_canEncode_fc78d_8 (by decide) ?_
    exact r_zret C hr (by first | omega | (simp [up2, *]; done) | (simp [up2, *]; omega) | (simp only [up2_eq]; omega) | (split <;> omega)) dJ1_canEncode_fc78d_12 ⟨rfl, rfl⟩ (by first | (simp only [rmk, rmz]; omega) | (simp only [rmk, rmz]; done) | omega) (by first | (simp only [rmk, rmz]; omega) | (simp only [rmk, rmz]; done) | omega)
theorem dJ5_append_3fe6f_0 : decode cJ5_append_3fe6f 0 = .ok (.aload_n 0, 1) := dqo_42 (kb_J5_append_3fe6f_0 0 rfl)
theorem dJ5_append_3fe6f_1 : decode cJ5_append_3fe6f 1 = .ok (.aload_n 0, 1) := dqo_42 (kb_J5_append_3fe6f_0 1 rfl)
theorem dJ5_append_3fe6f_2 : decode cJ5_append_3fe6f 2 = .ok (.getfield 79, 3) := dqo_180 0 79 (kb_J5_append_3fe6f_0 2 rfl) (kb_J5_append_3fe6f_0 3 rfl) (kb_J5_append_3fe6f_0 4 rfl)
theorem dJ5_append_3fe6f_5 : decode cJ5_append_3fe6f 5 = .ok (.iconst 1, 1) := dqo_4 (kb_J5_append_3fe6f_0 5 rfl)
theorem dJ5_append_3fe6f_6 : decode cJ5_append_3fe6f 6 = .ok (.iadd, 1) := dqo_96 (kb_J5_append_3fe6f_0 6 rfl)
theorem dJ5_append_3fe6f_7 : decode cJ5_append_3fe6f 7 = .ok (.invokevirtual 100, 3) := dqo_182 0 100 (kb_J5_append_3fe6f_0 7 rfl) (kb_J5_append_3fe6f_0 8 rfl) (kb_J5_append_3fe6f_0 9 rfl)
theorem dJ5_append_3fe6f_10 : decode cJ5_append_3fe6f 10 = .ok (.aload_n 0, 1) := dqo_42 (kb_J5_append_3fe6f_0 10 rfl)
theorem dJ5_append_3fe6f_11 : decode cJ5_append_3fe6f 11 = .ok (.invokevirtual 83, 3) := dqo_182 0 83 (kb_J5_append_3fe6f_0 11 rfl) (kb_J5_append_3fe6f_0 12 rfl) (kb_J5_append_3fe6f_0 13 rfl)
theorem dJ5_append_3fe6f_14 : decode cJ5_append_3fe6f 14 = .ok (.ifCond .eq 31, 3) := dqo_153 0 31 (by decide) (kb_J5_append_3fe6f_0 14 rfl) (kb_J5_append_3fe6f_0 15 rfl) (kb_J5_append_3fe6f_0 16 rfl)
theorem dJ5_append_3fe6f_17 : decode cJ5_append_3fe6f 17 = .ok (.iload_n 1, 1) := dqo_27 (kb_J5_append_3fe6f_0 17 rfl)
theorem dJ5_append_3fe6f_18 : decode cJ5_append_3fe6f 18 = .ok (.invokestatic 191, 3) := dqo_184 0 191 (kb_J5_append_3fe6f_0 18 rfl) (kb_J5_append_3fe6f_0 19 rfl) (kb_J5_append_3fe6f_0 20 rfl)
theorem dJ5_append_3fe6f_21 : decode cJ5_append_3fe6f 21 = .ok (.ifCond .eq 24, 3) := dqo_153 0 24 (by decide) (kb_J5_append_3fe6f_0 21 rfl) (kb_J5_append_3fe6f_0 22 rfl) (kb_J5_append_3fe6f_0 23 rfl)
theorem dJ5_append_3fe6f_24 : decode cJ5_append_3fe6f 24 = .ok (.aload_n 0, 1) := dqo_42 (kb_J5_append_3fe6f_0 24 rfl)
theorem dJ5_append_3fe6f_25 : decode cJ5_append_3fe6f 25 = .ok (.getfield 15, 3) := dqo_180 0 15 (kb_J5_append_3fe6f_0 25 rfl) (kb_J5_append_3fe6f_0 26 rfl) (kb_J5_append_3fe6f_0 27 rfl)
theorem dJ5_append_3fe6f_28 : decode cJ5_append_3fe6f 28 = .ok (.aload_n 0, 1) := dqo_42 (kb_J5_append_3fe6f_0 28 rfl)
theorem dJ5_append_3fe6f_29 : decode cJ5_append_3fe6f 29 = .ok (.dup, 1) := dqo_89 (kb_J5_append_3fe6f_0 29 rfl)
theorem dJ5_append_3fe6f_30 : decode cJ5_append_3fe6f 30 = .ok (.getfield 79, 3) := dqo_180 0 79 (kb_J5_append_3fe6f_0 30 rfl) (kb_J5_append_3fe6f_0 31 rfl) (kb_J5_append_3fe6f_0 32 rfl)
theorem dJ5_append_3fe6f_33 : decode cJ5_append_3fe6f 33 = .ok (.dup_x1, 1) := dqo_90 (kb_J5_append_3fe6f_0 33 rfl)
theorem dJ5_append_3fe6f_34 : decode cJ5_append_3fe6f 34 = .ok (.iconst 1, 1) := dqo_4 (kb_J5_append_3fe6f_0 34 rfl)
theorem dJ5_append_3fe6f_35 : decode cJ5_append_3fe6f 35 = .ok (.iadd, 1) := dqo_96 (kb_J5_append_3fe6f_0 35 rfl)
theorem dJ5_append_3fe6f_36 : decode cJ5_append_3fe6f 36 = .ok (.putfield 79, 3) := dqo_181 0 79 (kb_J5_append_3fe6f_0 36 rfl) (kb_J5_append_3fe6f_0 37 rfl) (kb_J5_append_3fe6f_0 38 rfl)
theorem dJ5_append_3fe6f_39 : decode cJ5_append_3fe6f 39 = .ok (.iload_n 1, 1) := dqo_27 (kb_J5_append_3fe6f_0 39 rfl)
theorem dJ5_append_3fe6f_40 : decode cJ5_append_3fe6f 40 = .ok (.i2b, 1) := dqo_145 (kb_J5_append_3fe6f_0 40 rfl)
theorem dJ5_append_3fe6f_41 : decode cJ5_append_3fe6f 41 = .ok (.bastore, 1) := dqo_84 (kb_J5_append_3fe6f_0 41 rfl)
theorem dJ5_append_3fe6f_42 : decode cJ5_append_3fe6f 42 = .ok (.goto 33, 3) := dqo_167 0 33 (by decide) (kb_J5_append_3fe6f_0 42 rfl) (kb_J5_append_3fe6f_0 43 rfl) (kb_J5_append_3fe6f_0 44 rfl)
theorem dJ5_append_3fe6f_75 : decode cJ5_append_3fe6f 75 = .ok (.aload_n 0, 1) := dqo_42 (kb_J5_append_3fe6f_1 11 rfl)
theorem dJ5_append_3fe6f_76 : decode cJ5_append_3fe6f 76 = .ok (.areturn, 1) := dqo_176 (kb_J5_append_3fe6f_1 12 rfl)
theorem pk_J1_canEncode_fc78d : PkS yJ1_canEncode_fc78d cJ1_canEncode_fc78d 1 (some .boolean) 1 := ⟨⟨qt_J1_canEncode_fc78d, qz_J1, qc_J1_canEncode_fc78d⟩, mh_J1.1, mh_J1.2, pd_30⟩
theorem pk_J5_ensureCapacityInternal_d00df : PkU yJ5_ensureCapacityInternal_d00df cJ5_ensureCapacityInternal_d00df 3 none 1 := ⟨⟨qe_J5_ensureCapacityInternal_d00df, qi_J5_ensureCapacityInternal_d00df, qc_J5_ensureCapacityInternal_d00df⟩, Or.inr qr_J5_ensureCapacityInternal_d00df, by decide +kernel⟩
theorem pk_J5_isLatin1_aae02 : PkU yJ5_isLatin1_aae02 cJ5_isLatin1_aae02 1 (some .boolean) 0 := ⟨⟨qe_J5_isLatin1_aae02, qi_J5_isLatin1_aae02, qc_J5_isLatin1_aae02⟩, Or.inl qs_J5_isLatin1_aae02, by decide +kernel⟩
set_option maxRecDepth 100000 in
set_option maxHeartbeats 400000 in
theorem C_asbChar {l : Launch} {D : va_G} {cy : Nat → ClassId} {X : (Nat → Prop) → State → Heap → Prop} {aK aV : Nat → Nat} {tO tT : Nat} {gO gT : Nat → Int32} {U E : va_W} {b : Nat} {v : Nat} {m : Nat} {n : Nat} {g : Nat → Int32} {ml : Int32} {ch : Nat} (hX : EnvS X cy aK aV tO tT gO gT) (hm : m ≤ 65536) (hnm : n ≤ m) (hf : sb_Fit g) (hch : ch < 256) : Cm l D cy X yJ5_append_3fe6f cJ5_append_3fe6f 2 (some (.object "java/lang/AbstractStringBuilder")) (rmk 4 (gC (n + 1) m) (gS (n + 1) m) 160) [.ref b, .int (nI ch)] (U ++ (SBO b v ml n :: BYO cy v m g :: E)) (fun v1 w1 => ∃ v9 : Nat, ∃ g9 : Nat → Int32, (sb_Fit g9) ∧ v1 = some (.ref b) ∧ w1 = U ++ (SBO b v9 ml (n + 1) :: BYO cy v9 (sb_cap (n + 1) m) g9 :: E)) (fun _ => False) := by
  refine Cm.ofF [some (.ref b), some (.int (nI ch))] (plainFor_of_name pn_J5) rfl (Nat.le_of_ble_eq_true rfl) ?_
  intro p e s mI args below meth c A C hE hr hnt hn
  refine r_aload_n C dJ5_append_3fe6f_0 rfl ?_
  refine r_aload_n C dJ5_append_3fe6f_1 rfl ?_
  refine t_sbg C 0 3 rfl (by decide) qf_J5_79 rfl rfl dJ5_append_3fe6f_2 ?_
  refine r_iconst (v := (nI 1)) C dJ5_append_3fe6f_5 (by decide) ?_
  refine r_iaddN C dJ5_append_3fe6f_6 ?_
  refine c_U (st := []) hX C hE (C_ensure (U := U) (E := E) (b := b) (v := v) (m := m) (n := n) (g := g) (ml := ml) (q := (n + 1)) hX (by first | omega | (simp [up2, *]; done) | (simp [up2, *]; omega) | (simp only [up2_eq]; omega) | (split <;> omega)) (by first | omega | (simp [up2, *]; done) | (simp [up2, *]; omega) | (simp only [up2_eq]; omega) | (split <;> omega)) (by first | omega | (simp [up2, *]; done) | (simp [up2, *]; omega) | (simp only [up2_eq]; omega) | (split <;> omega))) pk_J5_ensureCapacityInternal_d00df qm_J5_100 (U.length + 0) (us_g rfl) rfl rfl (Nat.le_of_ble_eq_true rfl) dJ5_append_3fe6f_7 ⟨Nat.le_of_ble_eq_true rfl, Nat.le_of_ble_eq_true rfl⟩ ⟨by first | (simp only [rmk, rmz]; omega) | (simp only [rmk, rmz]; done) | omega, by first | (simp only [rmk, rmz]; omega) | (simp only [rmk, rmz]; done) | omega⟩ (fun v9 w9 h9 => ?_) (fun _ h9 => h9.elim)
  obtain ⟨v9_1, g9_2, f_3, rfl, rfl⟩ := h9
  have hcg := sb_cap_ge (n + 1) m
  have hcl := cap_lt (q := n + 1) hm (by omega)
  refine r_aload_n C dJ5_append_3fe6f_10 rfl ?_
  refine c_U (st := []) hX C hE (C_isLatin1 (U := U) (E := (BYO cy v9_1 (sb_cap (n + 1) m) g9_2 :: E)) (b := b) (v := v9_1) (n := n) (ml := ml) hX ) pk_J5_isLatin1_aae02 qm_J5_83 (U.length + 0) (us_g rfl) rfl rfl (Nat.le_of_ble_eq_true rfl) dJ5_append_3fe6f_11 ⟨Nat.le_of_ble_eq_true rfl, Nat.le_of_ble_eq_true rfl⟩ ⟨by first | (simp only [rmk, rmz]; omega) | (simp only [rmk, rmz]; done) | omega, by first | (simp only [rmk, rmz]; omega) | (simp only [rmk, rmz]; done) | omega⟩ (fun v9 w9 h9 => ?_) (fun _ h9 => h9.elim)
  obtain ⟨rfl, rfl⟩ := h9
  refine r_ifN_eq (a := 1) (tgt := 45) C (by first | omega | (simp [up2, *]; done) | (simp [up2, *]; omega) | (simp only [up2_eq]; omega) | (split <;> omega)) dJ5_append_3fe6f_14 (by decide) (fun h14_4 => ?_) (fun h14_4 => ?_)
  · exact absurd h14_4 (by first | omega | (simp [up2, *]; done) | (simp [up2, *]; omega) | (simp only [up2_eq]; omega) | (split <;> omega))
  · skip
    refine r_iload_n C dJ5_append_3fe6f_17 rfl ?_
    refine c_S (st := []) hX.stb C hE (C_canEncode (w := U ++ (SBO b v9_1 ml n :: BYO cy v9_1 (sb_cap (n + 1) m) g9_2 :: E)) (ch := ch) (by first | omega | (simp [up2, *]; done) | (simp [up2, *]; omega) | (simp only [up2_eq]; omega) | (split <;> omega))) pk_J1_canEncode_fc78d qm_J5_191 rfl rfl (Nat.le_of_ble_eq_true rfl) dJ5_append_3fe6f_18 ⟨Nat.le_of_ble_eq_true rfl, Nat.le_of_ble_eq_true rfl⟩ ⟨by first | (simp only [rmk, rmz]; omega) | (simp only [rmk, rmz]; done) | omega, by first | (simp only [rmk, rmz]; omega) | (simp only [rmk, rmz]; done) | omega⟩ (fun v9 w9 h9 => ?_) (fun _ h9 => h9.elim)
    obtain ⟨rfl, rfl⟩ := h9
    refine r_ifN_eq (a := 1) (tgt := 45) C (by first | omega | (simp [up2, *]; done) | (simp [up2, *]; omega) | (simp only [up2_eq]; omega) | (split <;> omega)) dJ5_append_3fe6f_21 (by decide) (fun h21_5 => ?_) (fun h21_5 => ?_)
    · exact absurd h21_5 (by first | omega | (simp [up2, *]; done) | (simp [up2, *]; omega) | (simp only [up2_eq]; omega) | (split <;> omega))
    · skip
      refine r_aload_n C dJ5_append_3fe6f_24 rfl ?_
      refine t_sbg C 0 0 rfl (by decide) qf_J5_15 rfl rfl dJ5_append_3fe6f_25 ?_
      refine r_aload_n C dJ5_append_3fe6f_28 rfl ?_
      refine r_dup C dJ5_append_3fe6f_29 rfl ?_
      refine t_sbg C 0 3 rfl (by decide) qf_J5_79 rfl rfl dJ5_append_3fe6f_30 ?_
      refine r_dup_x1 C dJ5_append_3fe6f_33 rfl rfl ?_
      refine r_iconst (v := (nI 1)) C dJ5_append_3fe6f_34 (by decide) ?_
      refine r_iaddN C dJ5_append_3fe6f_35 ?_
      refine t_sbp (ty := .int) C 0 3 rfl (by decide) rfl qf_J5_79 rfl rfl rfl rfl rfl dJ5_append_3fe6f_36 (L' := (SBO b v9_1 ml (n + 1) :: BYO cy v9_1 (sb_cap (n + 1) m) g9_2 :: E)) rfl ?_
      refine r_iload_n C dJ5_append_3fe6f_39 rfl ?_
      refine r_i2b C dJ5_append_3fe6f_40 ?_
      refine t_bst C 1 rfl (by first | omega | (simp [up2, *]; done) | (simp [up2, *]; omega) | (simp only [up2_eq]; omega) | (split <;> omega)) (by first | omega | (simp [up2, *]; done) | (simp [up2, *]; omega) | (simp only [up2_eq]; omega) | (split <;> omega)) dJ5_append_3fe6f_41 rfl ?_
      refine r_goto (tgt := 75) C dJ5_append_3fe6f_42 (by decide) ?_
      refine r_aload_n C dJ5_append_3fe6f_75 rfl ?_
      exact r_aret C hr (Or.inl ⟨_, rfl⟩) dJ5_append_3fe6f_76 ⟨v9_1, _, bf_up f_3, rfl, rfl⟩ (by first | (simp only [rmk, rmz]; omega) | (simp only [rmk, rmz]; done) | omega) (by first | (simp only [rmk, rmz]; omega) | (simp only [rmk, rmz]; done) | omega)
theorem dJ4_append_cf468_0 : decode cJ4_append_cf468 0 = .ok (.aload_n 0, 1) := dqo_42 (kb_of ke_J4_append_cf468 0 rfl)
theorem dJ4_append_cf468_1 : decode cJ4_append_cf468 1 = .ok (.iload_n 1, 1) := dqo_27 (kb_of ke_J4_append_cf468 1 rfl)
theorem dJ4_append_cf468_2 : decode cJ4_append_cf468 2 = .ok (.invokespecial 50, 3) := dqo_183 0 50 (kb_of ke_J4_append_cf468 2 rfl) (kb_of ke_J4_append_cf468 3 rfl) (kb_of ke_J4_append_cf468 4 rfl)
theorem dJ4_append_cf468_5 : decode cJ4_append_cf468 5 = .ok (.pop, 1) := dqo_87 (kb_of ke_J4_append_cf468 5 rfl)
theorem dJ4_append_cf468_6 : decode cJ4_append_cf468 6 = .ok (.aload_n 0, 1) := dqo_42 (kb_of ke_J4_append_cf468 6 rfl)
theorem dJ4_append_cf468_7 : decode cJ4_append_cf468 7 = .ok (.areturn, 1) := dqo_176 (kb_of ke_J4_append_cf468 7 rfl)
theorem pkS_J5_append_3fe6f : PkSU yJ5_append_3fe6f cJ5_append_3fe6f 2 (some (.object "java/lang/AbstractStringBuilder")) 1 := ⟨⟨qe_J5_append_3fe6f, qi_J5_append_3fe6f, qc_J5_append_3fe6f⟩, by decide +kernel⟩
set_option maxRecDepth 100000 in
set_option maxHeartbeats 400000 in
theorem C_sbChar {l : Launch} {D : va_G} {cy : Nat → ClassId} {X : (Nat → Prop) → State → Heap → Prop} {aK aV : Nat → Nat} {tO tT : Nat} {gO gT : Nat → Int32} {U E : va_W} {b : Nat} {v : Nat} {m : Nat} {n : Nat} {g : Nat → Int32} {ml : Int32} {ch : Nat} (hX : EnvS X cy aK aV tO tT gO gT) (hm : m ≤ 65536) (hnm : n ≤ m) (hf : sb_Fit g) (hch : ch < 256) : Cm l D cy X yJ4_append_cf468 cJ4_append_cf468 2 (some (.object "java/lang/StringBuilder")) (rmk 5 (gC (n + 1) m) (gS (n + 1) m) 200) [.ref b, .int (nI ch)] (U ++ (SBO b v ml n :: BYO cy v m g :: E)) (fun v1 w1 => ∃ v9 : Nat, ∃ g9 : Nat → Int32, (sb_Fit g9) ∧ v1 = some (.ref b) ∧ w1 = U ++ (SBO b v9 ml (n + 1) :: BYO cy v9 (sb_cap (n + 1) m) g9 :: E)) (fun _ => False) := by
  refine Cm.ofF [some (.ref b), some (.int (nI ch))] (plainFor_of_name pn_J4) rfl (Nat.le_of_ble_eq_true rfl) ?_
  intro p e s mI args below meth c A C hE hr hnt hn
  refine r_aload_n C dJ4_append_cf468_0 rfl ?_
  refine r_iload_n C dJ4_append_cf468_1 rfl ?_
  refine c_SU (st := []) hX C hE (C_asbChar (U := U) (E := E) (b := b) (v := v) (m := m) (n := n) (g := g) (ml := ml) (ch := ch) hX (by first | omega | (simp [up2, *]; done) | (simp [up2, *]; omega) | (simp only [up2_eq]; omega) | (split <;> omega)) (by first | omega | (simp [up2, *]; done) | (simp [up2, *]; omega) | (simp only [up2_eq]; omega) | (split <;> omega)) (by first | omega | (simp [up2, *]; done) | (simp [up2, *]; omega) | (simp only [up2_eq]; omega) | (split <;> omega)) (by first | omega | (simp [up2, *]; done) | (simp [up2, *]; omega) | (simp only [up2_eq]; omega) | (split <;> omega))) pkS_J5_append_3fe6f qm_J4_50 (U.length + 0) (us_g rfl) rfl rfl (Nat.le_of_ble_eq_true rfl) dJ4_append_cf468_2 ⟨Nat.le_of_ble_eq_true rfl, Nat.le_of_ble_eq_true rfl⟩ ⟨by first | (simp only [rmk, rmz]; omega) | (simp only [rmk, rmz]; done) | omega, by first | (simp only [rmk, rmz]; omega) | (simp only [rmk, rmz]; done) | omega⟩ (fun v9 w9 h9 => ?_) (fun _ h9 => h9.elim)
  obtain ⟨v9_1, g9_2, f_3, rfl, rfl⟩ := h9
  refine r_pop C dJ4_append_cf468_5 rfl ?_
  refine r_aload_n C dJ4_append_cf468_6 rfl ?_
  exact r_aret C hr (Or.inl ⟨_, rfl⟩) dJ4_append_cf468_7 ⟨v9_1, g9_2, f_3, rfl, rfl⟩ (by first | (simp only [rmk, rmz]; omega) | (simp only [rmk, rmz]; done) | omega) (by first | (simp only [rmk, rmz]; omega) | (simp only [rmk, rmz]; done) | omega)
end PT_57
/-! ===== 58.text3 -/
section PT_58
/-! TEXTS: strings appended -/
theorem r_bret {p : Program} {l : Launch} {e : Env} {R : Room} {s : State} {m : MethodId} {args : Array Value} {below : List Frame} {meth : Method} {c : Code} {D : va_G} {cy : Nat → ClassId} {A : Nat → Prop} {nL cells slots : Nat} {w : va_W} {lv : List (Option Value)} {pc : Nat} {cc : ByteArray} {own : String} {post : Option Value → va_W → Prop} {px : String → Prop} {w0 : va_W} {mc ms : Nat} {x : Int32} (C : Fg p s m args meth c cc nL own D cy A) (hr : meth.sig.returnType = some .byte) (hx : narrow .byte (.int x) = .int x) (d : decode cc pc = .ok (.ireturn, 1)) (hp : post (some (.int x)) w) (h1 : cells ≤ mc) (h2 : slots ≤ ms) :
    vW p l e R s m args below meth c D vwCl A (vx_MQ below (vG post D vwCl A) (vGX px D vwCl w0 A) args s mc ms A) nL cells slots w lv pc [.int x] := fun H locs ls hP hD hS hl =>
  W.widen h1 h2 (vx_ret (W.zret C.1 C.2.1 hr hx (fun t ht hW => ⟨⟨_, w, rfl, hp, by rw [ht]; exact hP, hD⟩, hS.F ht⟩) hS.2.2 d C.2.2.2.2.2.2.1))
theorem dJ0_coder_7d493_0 : decode cJ0_coder_7d493 0 = .ok (.getstatic 38, 3) := dqo_178 0 38 (kb_of ke_J0_coder_7d493 0 rfl) (kb_of ke_J0_coder_7d493 1 rfl) (kb_of ke_J0_coder_7d493 2 rfl)
theorem dJ0_coder_7d493_3 : decode cJ0_coder_7d493 3 = .ok (.ifCond .eq 10, 3) := dqo_153 0 10 (by decide) (kb_of ke_J0_coder_7d493 3 rfl) (kb_of ke_J0_coder_7d493 4 rfl) (kb_of ke_J0_coder_7d493 5 rfl)
theorem dJ0_coder_7d493_6 : decode cJ0_coder_7d493 6 = .ok (.aload_n 0, 1) := dqo_42 (kb_of ke_J0_coder_7d493 6 rfl)
theorem dJ0_coder_7d493_7 : decode cJ0_coder_7d493 7 = .ok (.getfield 15, 3) := dqo_180 0 15 (kb_of ke_J0_coder_7d493 7 rfl) (kb_of ke_J0_coder_7d493 8 rfl) (kb_of ke_J0_coder_7d493 9 rfl)
theorem dJ0_coder_7d493_10 : decode cJ0_coder_7d493 10 = .ok (.goto 4, 3) := dqo_167 0 4 (by decide) (kb_of ke_J0_coder_7d493 10 rfl) (kb_of ke_J0_coder_7d493 11 rfl) (kb_of ke_J0_coder_7d493 12 rfl)
theorem dJ0_coder_7d493_14 : decode cJ0_coder_7d493 14 = .ok (.ireturn, 1) := dqo_172 (kb_of ke_J0_coder_7d493 14 rfl)
set_option maxRecDepth 100000 in
set_option maxHeartbeats 400000 in
theorem C_coder_K {l : Launch} {D : va_G} {cy : Nat → ClassId} {X : (Nat → Prop) → State → Heap → Prop} {aK aV : Nat → Nat} {tO tT : Nat} {gO gT : Nat → Int32} {w : va_W} {i : Nat} (hX : EnvS X cy aK aV tO tT gO gT) (hi : i < KSN.length) : Cm l D cy X yJ0_coder_7d493 cJ0_coder_7d493 1 (some .byte) (rmz 0 0) [.ref (aK i)] (w) (fun v1 w1 => v1 = some (.int (nI 0)) ∧ w1 = w) (fun _ => False) := by
  refine Cm.ofF [some (.ref (aK i))] (plainFor_of_name pn_J0) rfl (Nat.le_of_ble_eq_true rfl) ?_
  intro p e s mI args below meth c A C hE hr hnt hn
  refine j_cs hX C hE qf_J0_38 dJ0_coder_7d493_0 ?_
  refine r_ifN_eq (a := 1) (tgt := 13) C (by first | omega | (simp [up2, *]; done) | (simp [up2, *]; omega) | (simp only [up2_eq]; omega) | (split <;> omega)) dJ0_coder_7d493_3 (by decide) (fun h3_1 => ?_) (fun h3_1 => ?_)
  · exact absurd h3_1 (by first | omega | (simp [up2, *]; done) | (simp [up2, *]; omega) | (simp only [up2_eq]; omega) | (split <;> omega))
  · skip
    refine r_aload_n C dJ0_coder_7d493_6 rfl ?_
    refine k_cod hX C hE (by first | assumption | decide) qf_J0_15 dJ0_coder_7d493_7 ?_
    refine r_goto (tgt := 14) C dJ0_coder_7d493_10 (by decide) ?_
    exact r_bret C hr rfl dJ0_coder_7d493_14 ⟨rfl, rfl⟩ (by first | (simp only [rmk, rmz]; omega) | (simp only [rmk, rmz]; done) | omega) (by first | (simp only [rmk, rmz]; omega) | (simp only [rmk, rmz]; done) | omega)
set_option maxRecDepth 100000 in
set_option maxHeartbeats 400000 in
theorem C_coder_W {l : Launch} {D : va_G} {cy : Nat → ClassId} {X : (Nat → Prop) → State → Heap → Prop} {aK aV : Nat → Nat} {tO tT : Nat} {gO gT : Nat → Int32} {U E : va_W} {a : Nat} {va : Nat} {h : Int32} {z : Int32} (hX : EnvS X cy aK aV tO tT gO gT)  : Cm l D cy X yJ0_coder_7d493 cJ0_coder_7d493 1 (some .byte) (rmz 0 0) [.ref a] (U ++ (STO a va h z :: E)) (fun v1 w1 => v1 = some (.int (nI 0)) ∧ w1 = U ++ (STO a va h z :: E)) (fun _ => False) := by
  refine Cm.ofF [some (.ref a)] (plainFor_of_name pn_J0) rfl (Nat.le_of_ble_eq_true rfl) ?_
  intro p e s mI args below meth c A C hE hr hnt hn
  refine j_cs hX C hE qf_J0_38 dJ0_coder_7d493_0 ?_
  refine r_ifN_eq (a := 1) (tgt := 13) C (by first | omega | (simp [up2, *]; done) | (simp [up2, *]; omega) | (simp only [up2_eq]; omega) | (split <;> omega)) dJ0_coder_7d493_3 (by decide) (fun h3_1 => ?_) (fun h3_1 => ?_)
  · exact absurd h3_1 (by first | omega | (simp [up2, *]; done) | (simp [up2, *]; omega) | (simp only [up2_eq]; omega) | (split <;> omega))
  · skip
    refine r_aload_n C dJ0_coder_7d493_6 rfl ?_
    refine t_stg C 0 1 rfl (by decide) qf_J0_15 rfl rfl dJ0_coder_7d493_7 ?_
    refine r_goto (tgt := 14) C dJ0_coder_7d493_10 (by decide) ?_
    exact r_bret C hr rfl dJ0_coder_7d493_14 ⟨rfl, rfl⟩ (by first | (simp only [rmk, rmz]; omega) | (simp only [rmk, rmz]; done) | omega) (by first | (simp only [rmk, rmz]; omega) | (simp only [rmk, rmz]; done) | omega)
theorem dJ0_length_8abf5_0 : decode cJ0_length_8abf5 0 = .ok (.aload_n 0, 1) := dqo_42 (kb_of ke_J0_length_8abf5 0 rfl)
theorem dJ0_length_8abf5_1 : decode cJ0_length_8abf5 1 = .ok (.getfield 9, 3) := dqo_180 0 9 (kb_of ke_J0_length_8abf5 1 rfl) (kb_of ke_J0_length_8abf5 2 rfl) (kb_of ke_J0_length_8abf5 3 rfl)
theorem dJ0_length_8abf5_4 : decode cJ0_length_8abf5 4 = .ok (.arraylength, 1) := dqo_190 (kb_of ke_J0_length_8abf5 4 rfl)
theorem dJ0_length_8abf5_5 : decode cJ0_length_8abf5 5 = .ok (.aload_n 0, 1) := dqo_42 (kb_of ke_J0_length_8abf5 5 rfl)
theorem dJ0_length_8abf5_6 : decode cJ0_length_8abf5 6 = .ok (.invokevirtual 335, 3) := dqo_182 1 79 (kb_of ke_J0_length_8abf5 6 rfl) (kb_of ke_J0_length_8abf5 7 rfl) (kb_of ke_J0_length_8abf5 8 rfl)
theorem dJ0_length_8abf5_9 : decode cJ0_length_8abf5 9 = .ok (.ishr, 1) := dqo_122 (kb_of ke_J0_length_8abf5 9 rfl)
theorem dJ0_length_8abf5_10 : decode cJ0_length_8abf5 10 = .ok (.ireturn, 1) := dqo_172 (kb_of ke_J0_length_8abf5 10 rfl)
theorem pk_J0_coder_7d493 : PkV RJ0 yJ0_coder_7d493 cJ0_coder_7d493 1 (some .byte) 0 := ⟨⟨qi_J0_coder_7d493, qs_J0_coder_7d493, qz_J0, qc_J0_coder_7d493⟩, rfl, mh_J0.1, mh_J0.2, pd_31⟩
set_option maxRecDepth 100000 in
set_option maxHeartbeats 400000 in
theorem C_len_K {l : Launch} {D : va_G} {cy : Nat → ClassId} {X : (Nat → Prop) → State → Heap → Prop} {aK aV : Nat → Nat} {tO tT : Nat} {gO gT : Nat → Int32} {w : va_W} {i : Nat} (hX : EnvS X cy aK aV tO tT gO gT) (hi : i < KSN.length) : Cm l D cy X yJ0_length_8abf5 cJ0_length_8abf5 1 (some .int) (rmz 1 40) [.ref (aK i)] (w) (fun v1 w1 => v1 = some (.int (nI (KSN.getD i 0))) ∧ w1 = w) (fun _ => False) := by
  refine Cm.ofF [some (.ref (aK i))] (plainFor_of_name pn_J0) rfl (Nat.le_of_ble_eq_true rfl) ?_
  intro p e s mI args below meth c A C hE hr hnt hn
  refine r_aload_n C dJ0_length_8abf5_0 rfl ?_
  refine k_val hX C hE (by first | assumption | decide) qf_J0_9 dJ0_length_8abf5_1 ?_
  refine k_len hX C hE (by first | assumption | decide) dJ0_length_8abf5_4 ?_
  refine r_aload_n C dJ0_length_8abf5_5 rfl ?_
  refine c_VK (st := [.int (nI (KSN.getD i 0))]) hX C hE (by first | assumption | decide) (C_coder_K (w := w) (i := i) hX (by first | assumption | decide)) pk_J0_coder_7d493 qm_J0_335 rfl rfl (Nat.le_of_ble_eq_true rfl) dJ0_length_8abf5_6 ⟨Nat.le_of_ble_eq_true rfl, Nat.le_of_ble_eq_true rfl⟩ ⟨by first | (simp only [rmk, rmz]; omega) | (simp only [rmk, rmz]; done) | omega, by first | (simp only [rmk, rmz]; omega) | (simp only [rmk, rmz]; done) | omega⟩ (fun v9 w9 h9 => ?_) (fun _ h9 => h9.elim)
  obtain ⟨rfl, rfl⟩ := h9
  refine t_ishr C dJ0_length_8abf5_9 ?_
  exact r_iret C hr dJ0_length_8abf5_10 ⟨rfl, rfl⟩ (by first | (simp only [rmk, rmz]; omega) | (simp only [rmk, rmz]; done) | omega) (by first | (simp only [rmk, rmz]; omega) | (simp only [rmk, rmz]; done) | omega)
set_option maxRecDepth 100000 in
set_option maxHeartbeats 400000 in
theorem C_len_W {l : Launch} {D : va_G} {cy : Nat → ClassId} {X : (Nat → Prop) → State → Heap → Prop} {aK aV : Nat → Nat} {tO tT : Nat} {gO gT : Nat → Int32} {U E : va_W} {a : Nat} {va : Nat} {h : Int32} {z : Int32} {k : Nat} {gs : Nat → Int32} (hX : EnvS X cy aK aV tO tT gO gT)  : Cm l D cy X yJ0_length_8abf5 cJ0_length_8abf5 1 (some .int) (rmz 1 40) [.ref a] (U ++ (STO a va h z :: BYO cy va k gs :: E)) (fun v1 w1 => v1 = some (.int (nI k)) ∧ w1 = U ++ (STO a va h z :: BYO cy va k gs :: E)) (fun _ => False) := by
  refine Cm.ofF [some (.ref a)] (plainFor_of_name pn_J0) rfl (Nat.le_of_ble_eq_true rfl) ?_
  intro p e s mI args below meth c A C hE hr hnt hn
  refine r_aload_n C dJ0_length_8abf5_0 rfl ?_
  refine t_stg C 0 0 rfl (by decide) qf_J0_9 rfl rfl dJ0_length_8abf5_1 ?_
  refine t_blen C 1 rfl dJ0_length_8abf5_4 ?_
  refine r_aload_n C dJ0_length_8abf5_5 rfl ?_
  refine c_V (st := [.int (nI k)]) hX.stb C hE (C_coder_W (U := U) (E := (BYO cy va k gs :: E)) (a := a) (va := va) (h := h) (z := z) hX ) pk_J0_coder_7d493 qm_J0_335 (U.length + 0) 0 rfl rfl (us_g rfl) rfl rfl (Nat.le_of_ble_eq_true rfl) dJ0_length_8abf5_6 ⟨Nat.le_of_ble_eq_true rfl, Nat.le_of_ble_eq_true rfl⟩ ⟨by first | (simp only [rmk, rmz]; omega) | (simp only [rmk, rmz]; done) | omega, by first | (simp only [rmk, rmz]; omega) | (simp only [rmk, rmz]; done) | omega⟩ (fun v9 w9 h9 => ?_) (fun _ h9 => h9.elim)
  obtain ⟨rfl, rfl⟩ := h9
  refine t_ishr C dJ0_length_8abf5_9 ?_
  exact r_iret C hr dJ0_length_8abf5_10 ⟨rfl, rfl⟩ (by first | (simp only [rmk, rmz]; omega) | (simp only [rmk, rmz]; done) | omega) (by first | (simp only [rmk, rmz]; omega) | (simp only [rmk, rmz]; done) | omega)
theorem dJ0_isEmpty_aae02_0 : decode cJ0_isEmpty_aae02 0 = .ok (.aload_n 0, 1) := dqo_42 (kb_of ke_J0_isEmpty_aae02 0 rfl)
theorem dJ0_isEmpty_aae02_1 : decode cJ0_isEmpty_aae02 1 = .ok (.getfield 9, 3) := dqo_180 0 9 (kb_of ke_J0_isEmpty_aae02 1 rfl) (kb_of ke_J0_isEmpty_aae02 2 rfl) (kb_of ke_J0_isEmpty_aae02 3 rfl)
theorem dJ0_isEmpty_aae02_4 : decode cJ0_isEmpty_aae02 4 = .ok (.arraylength, 1) := dqo_190 (kb_of ke_J0_isEmpty_aae02 4 rfl)
theorem dJ0_isEmpty_aae02_5 : decode cJ0_isEmpty_aae02 5 = .ok (.ifCond .ne 7, 3) := dqo_154 0 7 (by decide) (kb_of ke_J0_isEmpty_aae02 5 rfl) (kb_of ke_J0_isEmpty_aae02 6 rfl) (kb_of ke_J0_isEmpty_aae02 7 rfl)
theorem dJ0_isEmpty_aae02_8 : decode cJ0_isEmpty_aae02 8 = .ok (.iconst 1, 1) := dqo_4 (kb_of ke_J0_isEmpty_aae02 8 rfl)
theorem dJ0_isEmpty_aae02_9 : decode cJ0_isEmpty_aae02 9 = .ok (.goto 4, 3) := dqo_167 0 4 (by decide) (kb_of ke_J0_isEmpty_aae02 9 rfl) (kb_of ke_J0_isEmpty_aae02 10 rfl) (kb_of ke_J0_isEmpty_aae02 11 rfl)
theorem dJ0_isEmpty_aae02_13 : decode cJ0_isEmpty_aae02 13 = .ok (.ireturn, 1) := dqo_172 (kb_of ke_J0_isEmpty_aae02 13 rfl)
set_option maxRecDepth 100000 in
set_option maxHeartbeats 400000 in
theorem C_empty_K {l : Launch} {D : va_G} {cy : Nat → ClassId} {X : (Nat → Prop) → State → Heap → Prop} {aK aV : Nat → Nat} {tO tT : Nat} {gO gT : Nat → Int32} {w : va_W} {i : Nat} (hX : EnvS X cy aK aV tO tT gO gT) (hi : i < KSN.length) (h0 : KSN.getD i 0 = 0) : Cm l D cy X yJ0_isEmpty_aae02 cJ0_isEmpty_aae02 1 (some .boolean) (rmz 0 0) [.ref (aK i)] (w) (fun v1 w1 => v1 = some (.int (nI 1)) ∧ w1 = w) (fun _ => False) := by
  refine Cm.ofF [some (.ref (aK i))] (plainFor_of_name pn_J0) rfl (Nat.le_of_ble_eq_true rfl) ?_
  intro p e s mI args below meth c A C hE hr hnt hn
  refine r_aload_n C dJ0_isEmpty_aae02_0 rfl ?_
  refine k_val hX C hE (by first | assumption | decide) qf_J0_9 dJ0_isEmpty_aae02_1 ?_
  refine k_len hX C hE (by first | assumption | decide) dJ0_isEmpty_aae02_4 ?_
  refine r_ifN_ne (a := (KSN.getD i 0)) (tgt := 12) C (by omega) dJ0_isEmpty_aae02_5 (by decide) (fun h5_1 => ?_) (fun h5_1 => ?_)
  · exact absurd h5_1 (by first | omega | (simp [up2, *]; done) | (simp [up2, *]; omega) | (simp only [up2_eq]; omega) | (split <;> omega))
  · skip
    refine r_iconst (v := (nI 1)) C dJ0_isEmpty_aae02_8 (by decide) ?_
    refine r_goto (tgt := 13) C dJ0_isEmpty_aae02_9 (by decide) ?_
    exact r_zret C hr (by first | omega | (simp [up2, *]; done) | (simp [up2, *]; omega) | (simp only [up2_eq]; omega) | (split <;> omega)) dJ0_isEmpty_aae02_13 ⟨rfl, rfl⟩ (by first | (simp only [rmk, rmz]; omega) | (simp only [rmk, rmz]; done) | omega) (by first | (simp only [rmk, rmz]; omega) | (simp only [rmk, rmz]; done) | omega)
theorem dJ0_isEmpty_aae02_12 : decode cJ0_isEmpty_aae02 12 = .ok (.iconst 0, 1) := dqo_3 (kb_of ke_J0_isEmpty_aae02 12 rfl)
set_option maxRecDepth 100000 in
set_option maxHeartbeats 400000 in
theorem C_empty_W {l : Launch} {D : va_G} {cy : Nat → ClassId} {X : (Nat → Prop) → State → Heap → Prop} {aK aV : Nat → Nat} {tO tT : Nat} {gO gT : Nat → Int32} {U E : va_W} {a : Nat} {va : Nat} {h : Int32} {z : Int32} {k : Nat} {gs : Nat → Int32} (hX : EnvS X cy aK aV tO tT gO gT) (h0 : 0 < k) (hk : k < 1000) : Cm l D cy X yJ0_isEmpty_aae02 cJ0_isEmpty_aae02 1 (some .boolean) (rmz 0 0) [.ref a] (U ++ (STO a va h z :: BYO cy va k gs :: E)) (fun v1 w1 => v1 = some (.int (nI 0)) ∧ w1 = U ++ (STO a va h z :: BYO cy va k gs :: E)) (fun _ => False) := by
  refine Cm.ofF [some (.ref a)] (plainFor_of_name pn_J0) rfl (Nat.le_of_ble_eq_true rfl) ?_
  intro p e s mI args below meth c A C hE hr hnt hn
  refine r_aload_n C dJ0_isEmpty_aae02_0 rfl ?_
  refine t_stg C 0 0 rfl (by decide) qf_J0_9 rfl rfl dJ0_isEmpty_aae02_1 ?_
  refine t_blen C 1 rfl dJ0_isEmpty_aae02_4 ?_
  refine r_ifN_ne (a := k) (tgt := 12) C (by first | omega | (simp [up2, *]; done) | (simp [up2, *]; omega) | (simp only [up2_eq]; omega) | (split <;> omega)) dJ0_isEmpty_aae02_5 (by decide) (fun h5_1 => ?_) (fun h5_1 => ?_)
  · skip
    refine r_iconst (v := (nI 0)) C dJ0_isEmpty_aae02_12 (by decide) ?_
    exact r_zret C hr (by first | omega | (simp [up2, *]; done) | (simp [up2, *]; omega) | (simp only [up2_eq]; omega) | (split <;> omega)) dJ0_isEmpty_aae02_13 ⟨rfl, rfl⟩ (by first | (simp only [rmk, rmz]; omega) | (simp only [rmk, rmz]; done) | omega) (by first | (simp only [rmk, rmz]; omega) | (simp only [rmk, rmz]; done) | omega)
  · exact absurd h5_1 (by first | omega | (simp [up2, *]; done) | (simp [up2, *]; omega) | (simp only [up2_eq]; omega) | (split <;> omega))
theorem dJ0_getBytes_840e7_0 : decode cJ0_getBytes_840e7 0 = .ok (.aload_n 0, 1) := dqo_42 (kb_of ke_J0_getBytes_840e7 0 rfl)
theorem dJ0_getBytes_840e7_1 : decode cJ0_getBytes_840e7 1 = .ok (.invokevirtual 335, 3) := dqo_182 1 79 (kb_of ke_J0_getBytes_840e7 1 rfl) (kb_of ke_J0_getBytes_840e7 2 rfl) (kb_of ke_J0_getBytes_840e7 3 rfl)
theorem dJ0_getBytes_840e7_4 : decode cJ0_getBytes_840e7 4 = .ok (.iload_n 3, 1) := dqo_29 (kb_of ke_J0_getBytes_840e7 4 rfl)
theorem dJ0_getBytes_840e7_5 : decode cJ0_getBytes_840e7 5 = .ok (.if_icmp .ne 23, 3) := dqo_160 0 23 (by decide) (kb_of ke_J0_getBytes_840e7 5 rfl) (kb_of ke_J0_getBytes_840e7 6 rfl) (kb_of ke_J0_getBytes_840e7 7 rfl)
theorem dJ0_getBytes_840e7_8 : decode cJ0_getBytes_840e7 8 = .ok (.aload_n 0, 1) := dqo_42 (kb_of ke_J0_getBytes_840e7 8 rfl)
theorem dJ0_getBytes_840e7_9 : decode cJ0_getBytes_840e7 9 = .ok (.getfield 9, 3) := dqo_180 0 9 (kb_of ke_J0_getBytes_840e7 9 rfl) (kb_of ke_J0_getBytes_840e7 10 rfl) (kb_of ke_J0_getBytes_840e7 11 rfl)
theorem dJ0_getBytes_840e7_12 : decode cJ0_getBytes_840e7 12 = .ok (.iconst 0, 1) := dqo_3 (kb_of ke_J0_getBytes_840e7 12 rfl)
theorem dJ0_getBytes_840e7_13 : decode cJ0_getBytes_840e7 13 = .ok (.aload_n 1, 1) := dqo_43 (kb_of ke_J0_getBytes_840e7 13 rfl)
theorem dJ0_getBytes_840e7_14 : decode cJ0_getBytes_840e7 14 = .ok (.iload_n 2, 1) := dqo_28 (kb_of ke_J0_getBytes_840e7 14 rfl)
theorem dJ0_getBytes_840e7_15 : decode cJ0_getBytes_840e7 15 = .ok (.iload_n 3, 1) := dqo_29 (kb_of ke_J0_getBytes_840e7 15 rfl)
theorem dJ0_getBytes_840e7_16 : decode cJ0_getBytes_840e7 16 = .ok (.ishl, 1) := dqo_120 (kb_of ke_J0_getBytes_840e7 16 rfl)
theorem dJ0_getBytes_840e7_17 : decode cJ0_getBytes_840e7 17 = .ok (.aload_n 0, 1) := dqo_42 (kb_of ke_J0_getBytes_840e7 17 rfl)
theorem dJ0_getBytes_840e7_18 : decode cJ0_getBytes_840e7 18 = .ok (.getfield 9, 3) := dqo_180 0 9 (kb_of ke_J0_getBytes_840e7 18 rfl) (kb_of ke_J0_getBytes_840e7 19 rfl) (kb_of ke_J0_getBytes_840e7 20 rfl)
theorem dJ0_getBytes_840e7_21 : decode cJ0_getBytes_840e7 21 = .ok (.arraylength, 1) := dqo_190 (kb_of ke_J0_getBytes_840e7 21 rfl)
theorem dJ0_getBytes_840e7_22 : decode cJ0_getBytes_840e7 22 = .ok (.invokestatic 212, 3) := dqo_184 0 212 (kb_of ke_J0_getBytes_840e7 22 rfl) (kb_of ke_J0_getBytes_840e7 23 rfl) (kb_of ke_J0_getBytes_840e7 24 rfl)
theorem dJ0_getBytes_840e7_25 : decode cJ0_getBytes_840e7 25 = .ok (.goto 18, 3) := dqo_167 0 18 (by decide) (kb_of ke_J0_getBytes_840e7 25 rfl) (kb_of ke_J0_getBytes_840e7 26 rfl) (kb_of ke_J0_getBytes_840e7 27 rfl)
theorem dJ0_getBytes_840e7_43 : decode cJ0_getBytes_840e7 43 = .ok (.return_, 1) := dqo_177 (kb_of ke_J0_getBytes_840e7 43 rfl)
set_option maxRecDepth 100000 in
set_option maxHeartbeats 400000 in
theorem C_getBytes_K {l : Launch} {D : va_G} {cy : Nat → ClassId} {X : (Nat → Prop) → State → Heap → Prop} {aK aV : Nat → Nat} {tO tT : Nat} {gO gT : Nat → Int32} {U E : va_W} {v : Nat} {m : Nat} {g : Nat → Int32} {dp : Nat} {i : Nat} (hX : EnvS X cy aK aV tO tT gO gT) (hi : i < KSN.length) (hdp : dp + KSN.getD i 0 ≤ m) (hm : m < 536870912) (hf : sb_Fit g) : Cm l D cy X yJ0_getBytes_840e7 cJ0_getBytes_840e7 4 none (rmz 1 60) [.ref (aK i), .ref v, .int (nI dp), .int (nI 0)] (U ++ (BYO cy v m g :: E)) (fun v1 w1 => ∃ g9 : Nat → Int32, (sb_Fit g9) ∧ v1 = none ∧ w1 = U ++ (BYO cy v m g9 :: E)) (fun _ => False) := by
  refine Cm.ofF [some (.ref (aK i)), some (.ref v), some (.int (nI dp)), some (.int (nI 0))] (plainFor_of_name pn_J0) rfl (Nat.le_of_ble_eq_true rfl) ?_
  intro p e s mI args below meth c A C hE hr hnt hn
  refine r_aload_n C dJ0_getBytes_840e7_0 rfl ?_
  refine c_VK (st := []) hX C hE (by first | assumption | decide) (C_coder_K (w := U ++ (BYO cy v m g :: E)) (i := i) hX (by first | assumption | decide)) pk_J0_coder_7d493 qm_J0_335 rfl rfl (Nat.le_of_ble_eq_true rfl) dJ0_getBytes_840e7_1 ⟨Nat.le_of_ble_eq_true rfl, Nat.le_of_ble_eq_true rfl⟩ ⟨by first | (simp only [rmk, rmz]; omega) | (simp only [rmk, rmz]; done) | omega, by first | (simp only [rmk, rmz]; omega) | (simp only [rmk, rmz]; done) | omega⟩ (fun v9 w9 h9 => ?_) (fun _ h9 => h9.elim)
  obtain ⟨rfl, rfl⟩ := h9
  refine r_iload_n C dJ0_getBytes_840e7_4 rfl ?_
  refine r_icN_ne (a := 0) (b := 0) (tgt := 28) C (by first | omega | (simp [up2, *]; done) | (simp [up2, *]; omega) | (simp only [up2_eq]; omega) | (split <;> omega)) (by first | omega | (simp [up2, *]; done) | (simp [up2, *]; omega) | (simp only [up2_eq]; omega) | (split <;> omega)) dJ0_getBytes_840e7_5 (by decide) (fun h5_1 => ?_) (fun h5_1 => ?_)
  · exact absurd h5_1 (by first | omega | (simp [up2, *]; done) | (simp [up2, *]; omega) | (simp only [up2_eq]; omega) | (split <;> omega))
  · skip
    refine r_aload_n C dJ0_getBytes_840e7_8 rfl ?_
    refine k_val hX C hE (by first | assumption | decide) qf_J0_9 dJ0_getBytes_840e7_9 ?_
    refine r_iconst (v := (nI 0)) C dJ0_getBytes_840e7_12 (by decide) ?_
    refine r_aload_n C dJ0_getBytes_840e7_13 rfl ?_
    refine r_iload_n C dJ0_getBytes_840e7_14 rfl ?_
    refine r_iload_n C dJ0_getBytes_840e7_15 rfl ?_
    refine t_ishl C dJ0_getBytes_840e7_16 ?_
    refine r_aload_n C dJ0_getBytes_840e7_17 rfl ?_
    refine k_val hX C hE (by first | assumption | decide) qf_J0_9 dJ0_getBytes_840e7_18 ?_
    refine k_len hX C hE (by first | assumption | decide) dJ0_getBytes_840e7_21 ?_
    refine k_bcp (st := []) hX C hE (U.length + 0) (by first | assumption | decide) qm_J0_212 (us_g rfl) (by first | omega | (simp [up2, *]; done) | (simp [up2, *]; omega) | (simp only [up2_eq]; omega) | (split <;> omega)) (by first | omega | (simp [up2, *]; done) | (simp [up2, *]; omega) | (simp only [up2_eq]; omega) | (split <;> omega)) (Nat.le_of_ble_eq_true rfl) (Nat.le_of_ble_eq_true rfl) dJ0_getBytes_840e7_22 (us_t (L' := (BYO cy v m (va_cpy (fun j => (KSB.getD i []).getD j 0) g 0 dp (KSN.getD i 0)) :: E)) rfl) ?_
    refine r_goto (tgt := 43) C dJ0_getBytes_840e7_25 (by decide) ?_
    exact r_vret C hr dJ0_getBytes_840e7_43 ⟨_, kb_fit hi hf, rfl, rfl⟩ (by first | (simp only [rmk, rmz]; omega) | (simp only [rmk, rmz]; done) | omega) (by first | (simp only [rmk, rmz]; omega) | (simp only [rmk, rmz]; done) | omega)
set_option maxRecDepth 100000 in
set_option maxHeartbeats 400000 in
theorem C_getBytes_W {l : Launch} {D : va_G} {cy : Nat → ClassId} {X : (Nat → Prop) → State → Heap → Prop} {aK aV : Nat → Nat} {tO tT : Nat} {gO gT : Nat → Int32} {U E : va_W} {v : Nat} {m : Nat} {g : Nat → Int32} {dp : Nat} {a : Nat} {va : Nat} {h : Int32} {z : Int32} {k : Nat} {gs : Nat → Int32} (hX : EnvS X cy aK aV tO tT gO gT) (hdp : dp + k ≤ m) (hm : m < 536870912) (hf : sb_Fit g) (hgs : sb_Fit gs) : Cm l D cy X yJ0_getBytes_840e7 cJ0_getBytes_840e7 4 none (rmz 1 60) [.ref a, .ref v, .int (nI dp), .int (nI 0)] (U ++ (BYO cy v m g :: STO a va h z :: BYO cy va k gs :: E)) (fun v1 w1 => ∃ g9 : Nat → Int32, (sb_Fit g9) ∧ v1 = none ∧ w1 = U ++ (BYO cy v m g9 :: STO a va h z :: BYO cy va k gs :: E)) (fun _ => False) := by
  refine Cm.ofF [some (.ref a), some (.ref v), some (.int (nI dp)), some (.int (nI 0))] (plainFor_of_name pn_J0) rfl (Nat.le_of_ble_eq_true rfl) ?_
  intro p e s mI args below meth c A C hE hr hnt hn
  refine r_aload_n C dJ0_getBytes_840e7_0 rfl ?_
  refine t_perm [BYO cy v m g, STO a va h z, BYO cy va k gs] [STO a va h z, BYO cy v m g, BYO cy va k gs] [1, 0, 2] rfl (by decide) rfl (w' := U ++ (STO a va h z :: BYO cy v m g :: BYO cy va k gs :: E)) rfl ?_
  refine c_V (st := []) hX.stb C hE (C_coder_W (U := U) (E := (BYO cy v m g :: BYO cy va k gs :: E)) (a := a) (va := va) (h := h) (z := z) hX ) pk_J0_coder_7d493 qm_J0_335 (U.length + 0) 0 rfl rfl (us_g rfl) rfl rfl (Nat.le_of_ble_eq_true rfl) dJ0_getBytes_840e7_1 ⟨Nat.le_of_ble_eq_true rfl, Nat.le_of_ble_eq_true rfl⟩ ⟨by first | (simp only [rmk, rmz]; omega) | (simp only [rmk, rmz]; done) | omega, by first | (simp only [rmk, rmz]; omega) | (simp only [rmk, rmz]; done) | omega⟩ (fun v9 w9 h9 => ?_) (fun _ h9 => h9.elim)
  obtain ⟨rfl, rfl⟩ := h9
  refine r_iload_n C dJ0_getBytes_840e7_4 rfl ?_
  refine t_perm [STO a va h z, BYO cy v m g, BYO cy va k gs] [BYO cy v m g, STO a va h z, BYO cy va k gs] [1, 0, 2] rfl (by decide) rfl (w' := U ++ (BYO cy v m g :: STO a va h z :: BYO cy va k gs :: E)) rfl ?_
  refine r_icN_ne (a := 0) (b := 0) (tgt := 28) C (by first | omega | (simp [up2, *]; done) | (simp [up2, *]; omega) | (simp only [up2_eq]; omega) | (split <;> omega)) (by first | omega | (simp [up2, *]; done) | (simp [up2, *]; omega) | (simp only [up2_eq]; omega) | (split <;> omega)) dJ0_getBytes_840e7_5 (by decide) (fun h5_1 => ?_) (fun h5_1 => ?_)
  · exact absurd h5_1 (by first | omega | (simp [up2, *]; done) | (simp [up2, *]; omega) | (simp only [up2_eq]; omega) | (split <;> omega))
  · skip
    refine r_aload_n C dJ0_getBytes_840e7_8 rfl ?_
    refine t_stg C 1 0 rfl (by decide) qf_J0_9 rfl rfl dJ0_getBytes_840e7_9 ?_
    refine r_iconst (v := (nI 0)) C dJ0_getBytes_840e7_12 (by decide) ?_
    refine r_aload_n C dJ0_getBytes_840e7_13 rfl ?_
    refine r_iload_n C dJ0_getBytes_840e7_14 rfl ?_
    refine r_iload_n C dJ0_getBytes_840e7_15 rfl ?_
    refine t_ishl C dJ0_getBytes_840e7_16 ?_
    refine r_aload_n C dJ0_getBytes_840e7_17 rfl ?_
    refine t_stg C 1 0 rfl (by decide) qf_J0_9 rfl rfl dJ0_getBytes_840e7_18 ?_
    refine t_blen C 2 rfl dJ0_getBytes_840e7_21 ?_
    refine t_bcp (st := []) (sp := 0) (dp := dp) (n := k) C 2 0 qm_J0_212 rfl rfl hgs (by first | omega | (simp [up2, *]; done) | (simp [up2, *]; omega) | (simp only [up2_eq]; omega) | (split <;> omega)) (by first | omega | (simp [up2, *]; done) | (simp [up2, *]; omega) | (simp only [up2_eq]; omega) | (split <;> omega)) (by first | omega | (simp [up2, *]; done) | (simp [up2, *]; omega) | (simp only [up2_eq]; omega) | (split <;> omega)) (by first | omega | (simp [up2, *]; done) | (simp [up2, *]; omega) | (simp only [up2_eq]; omega) | (split <;> omega)) (Nat.le_of_ble_eq_true rfl) (Nat.le_of_ble_eq_true rfl) dJ0_getBytes_840e7_22 (L' := (BYO cy v m (va_cpy gs g 0 dp k) :: STO a va h z :: BYO cy va k gs :: E)) rfl ?_
    refine r_goto (tgt := 43) C dJ0_getBytes_840e7_25 (by decide) ?_
    exact r_vret C hr dJ0_getBytes_840e7_43 ⟨_, sb_fitC hgs hf, rfl, rfl⟩ (by first | (simp only [rmk, rmz]; omega) | (simp only [rmk, rmz]; done) | omega) (by first | (simp only [rmk, rmz]; omega) | (simp only [rmk, rmz]; done) | omega)
theorem dJ5_inflateIfNeededFor_a7421_0 : decode cJ5_inflateIfNeededFor_a7421 0 = .ok (.getstatic 18, 3) := dqo_178 0 18 (kb_of ke_J5_inflateIfNeededFor_a7421 0 rfl) (kb_of ke_J5_inflateIfNeededFor_a7421 1 rfl) (kb_of ke_J5_inflateIfNeededFor_a7421 2 rfl)
theorem dJ5_inflateIfNeededFor_a7421_3 : decode cJ5_inflateIfNeededFor_a7421 3 = .ok (.ifCond .eq 18, 3) := dqo_153 0 18 (by decide) (kb_of ke_J5_inflateIfNeededFor_a7421 3 rfl) (kb_of ke_J5_inflateIfNeededFor_a7421 4 rfl) (kb_of ke_J5_inflateIfNeededFor_a7421 5 rfl)
theorem dJ5_inflateIfNeededFor_a7421_6 : decode cJ5_inflateIfNeededFor_a7421 6 = .ok (.aload_n 0, 1) := dqo_42 (kb_of ke_J5_inflateIfNeededFor_a7421 6 rfl)
theorem dJ5_inflateIfNeededFor_a7421_7 : decode cJ5_inflateIfNeededFor_a7421 7 = .ok (.getfield 22, 3) := dqo_180 0 22 (kb_of ke_J5_inflateIfNeededFor_a7421 7 rfl) (kb_of ke_J5_inflateIfNeededFor_a7421 8 rfl) (kb_of ke_J5_inflateIfNeededFor_a7421 9 rfl)
theorem dJ5_inflateIfNeededFor_a7421_10 : decode cJ5_inflateIfNeededFor_a7421 10 = .ok (.aload_n 1, 1) := dqo_43 (kb_of ke_J5_inflateIfNeededFor_a7421 10 rfl)
theorem dJ5_inflateIfNeededFor_a7421_11 : decode cJ5_inflateIfNeededFor_a7421 11 = .ok (.invokevirtual 40, 3) := dqo_182 0 40 (kb_of ke_J5_inflateIfNeededFor_a7421 11 rfl) (kb_of ke_J5_inflateIfNeededFor_a7421 12 rfl) (kb_of ke_J5_inflateIfNeededFor_a7421 13 rfl)
theorem dJ5_inflateIfNeededFor_a7421_14 : decode cJ5_inflateIfNeededFor_a7421 14 = .ok (.if_icmp .eq 7, 3) := dqo_159 0 7 (by decide) (kb_of ke_J5_inflateIfNeededFor_a7421 14 rfl) (kb_of ke_J5_inflateIfNeededFor_a7421 15 rfl) (kb_of ke_J5_inflateIfNeededFor_a7421 16 rfl)
theorem dJ5_inflateIfNeededFor_a7421_21 : decode cJ5_inflateIfNeededFor_a7421 21 = .ok (.return_, 1) := dqo_177 (kb_of ke_J5_inflateIfNeededFor_a7421 21 rfl)
set_option maxRecDepth 100000 in
set_option maxHeartbeats 400000 in
theorem C_infl_K {l : Launch} {D : va_G} {cy : Nat → ClassId} {X : (Nat → Prop) → State → Heap → Prop} {aK aV : Nat → Nat} {tO tT : Nat} {gO gT : Nat → Int32} {U E : va_W} {b : Nat} {v : Nat} {n : Nat} {ml : Int32} {i : Nat} (hX : EnvS X cy aK aV tO tT gO gT) (hi : i < KSN.length) : Cm l D cy X yJ5_inflateIfNeededFor_a7421 cJ5_inflateIfNeededFor_a7421 2 none (rmz 1 40) [.ref b, .ref (aK i)] (U ++ (SBO b v ml n :: E)) (fun v1 w1 => v1 = none ∧ w1 = U ++ (SBO b v ml n :: E)) (fun _ => False) := by
  refine Cm.ofF [some (.ref b), some (.ref (aK i))] (plainFor_of_name pn_J5) rfl (Nat.le_of_ble_eq_true rfl) ?_
  intro p e s mI args below meth c A C hE hr hnt hn
  refine j_cs hX C hE qf_J5_18 dJ5_inflateIfNeededFor_a7421_0 ?_
  refine r_ifN_eq (a := 1) (tgt := 21) C (by first | omega | (simp [up2, *]; done) | (simp [up2, *]; omega) | (simp only [up2_eq]; omega) | (split <;> omega)) dJ5_inflateIfNeededFor_a7421_3 (by decide) (fun h3_1 => ?_) (fun h3_1 => ?_)
  · exact absurd h3_1 (by first | omega | (simp [up2, *]; done) | (simp [up2, *]; omega) | (simp only [up2_eq]; omega) | (split <;> omega))
  · skip
    refine r_aload_n C dJ5_inflateIfNeededFor_a7421_6 rfl ?_
    refine t_sbg C 0 1 rfl (by decide) qf_J5_22 rfl rfl dJ5_inflateIfNeededFor_a7421_7 ?_
    refine r_aload_n C dJ5_inflateIfNeededFor_a7421_10 rfl ?_
    refine c_VK (st := [.int (nI 0)]) hX C hE (by first | assumption | decide) (C_coder_K (w := U ++ (SBO b v ml n :: E)) (i := i) hX (by first | assumption | decide)) pk_J0_coder_7d493 qm_J5_40 rfl rfl (Nat.le_of_ble_eq_true rfl) dJ5_inflateIfNeededFor_a7421_11 ⟨Nat.le_of_ble_eq_true rfl, Nat.le_of_ble_eq_true rfl⟩ ⟨by first | (simp only [rmk, rmz]; omega) | (simp only [rmk, rmz]; done) | omega, by first | (simp only [rmk, rmz]; omega) | (simp only [rmk, rmz]; done) | omega⟩ (fun v9 w9 h9 => ?_) (fun _ h9 => h9.elim)
    obtain ⟨rfl, rfl⟩ := h9
    refine r_icN_eq (a := 0) (b := 0) (tgt := 21) C (by first | omega | (simp [up2, *]; done) | (simp [up2, *]; omega) | (simp only [up2_eq]; omega) | (split <;> omega)) (by first | omega | (simp [up2, *]; done) | (simp [up2, *]; omega) | (simp only [up2_eq]; omega) | (split <;> omega)) dJ5_inflateIfNeededFor_a7421_14 (by decide) (fun h14_2 => ?_) (fun h14_2 => ?_)
    · skip
      exact r_vret C hr dJ5_inflateIfNeededFor_a7421_21 ⟨rfl, rfl⟩ (by first | (simp only [rmk, rmz]; omega) | (simp only [rmk, rmz]; done) | omega) (by first | (simp only [rmk, rmz]; omega) | (simp only [rmk, rmz]; done) | omega)
    · exact absurd h14_2 (by first | omega | (simp [up2, *]; done) | (simp [up2, *]; omega) | (simp only [up2_eq]; omega) | (split <;> omega))
set_option maxRecDepth 100000 in
set_option maxHeartbeats 400000 in
theorem C_infl_W {l : Launch} {D : va_G} {cy : Nat → ClassId} {X : (Nat → Prop) → State → Heap → Prop} {aK aV : Nat → Nat} {tO tT : Nat} {gO gT : Nat → Int32} {U E : va_W} {b : Nat} {v : Nat} {n : Nat} {ml : Int32} {a : Nat} {va : Nat} {h : Int32} {z : Int32} (hX : EnvS X cy aK aV tO tT gO gT)  : Cm l D cy X yJ5_inflateIfNeededFor_a7421 cJ5_inflateIfNeededFor_a7421 2 none (rmz 1 40) [.ref b, .ref a] (U ++ (SBO b v ml n :: STO a va h z :: E)) (fun v1 w1 => v1 = none ∧ w1 = U ++ (SBO b v ml n :: STO a va h z :: E)) (fun _ => False) := by
  refine Cm.ofF [some (.ref b), some (.ref a)] (plainFor_of_name pn_J5) rfl (Nat.le_of_ble_eq_true rfl) ?_
  intro p e s mI args below meth c A C hE hr hnt hn
  refine j_cs hX C hE qf_J5_18 dJ5_inflateIfNeededFor_a7421_0 ?_
  refine r_ifN_eq (a := 1) (tgt := 21) C (by first | omega | (simp [up2, *]; done) | (simp [up2, *]; omega) | (simp only [up2_eq]; omega) | (split <;> omega)) dJ5_inflateIfNeededFor_a7421_3 (by decide) (fun h3_1 => ?_) (fun h3_1 => ?_)
  · exact absurd h3_1 (by first | omega | (simp [up2, *]; done) | (simp [up2, *]; omega) | (simp only [up2_eq]; omega) | (split <;> omega))
  · skip
    refine r_aload_n C dJ5_inflateIfNeededFor_a7421_6 rfl ?_
    refine t_sbg C 0 1 rfl (by decide) qf_J5_22 rfl rfl dJ5_inflateIfNeededFor_a7421_7 ?_
    refine r_aload_n C dJ5_inflateIfNeededFor_a7421_10 rfl ?_
    refine t_perm [SBO b v ml n, STO a va h z] [STO a va h z, SBO b v ml n] [1, 0] rfl (by decide) rfl (w' := U ++ (STO a va h z :: SBO b v ml n :: E)) rfl ?_
    refine c_V (st := [.int (nI 0)]) hX.stb C hE (C_coder_W (U := U) (E := (SBO b v ml n :: E)) (a := a) (va := va) (h := h) (z := z) hX ) pk_J0_coder_7d493 qm_J5_40 (U.length + 0) 0 rfl rfl (us_g rfl) rfl rfl (Nat.le_of_ble_eq_true rfl) dJ5_inflateIfNeededFor_a7421_11 ⟨Nat.le_of_ble_eq_true rfl, Nat.le_of_ble_eq_true rfl⟩ ⟨by first | (simp only [rmk, rmz]; omega) | (simp only [rmk, rmz]; done) | omega, by first | (simp only [rmk, rmz]; omega) | (simp only [rmk, rmz]; done) | omega⟩ (fun v9 w9 h9 => ?_) (fun _ h9 => h9.elim)
    obtain ⟨rfl, rfl⟩ := h9
    refine t_perm [STO a va h z, SBO b v ml n] [SBO b v ml n, STO a va h z] [1, 0] rfl (by decide) rfl (w' := U ++ (SBO b v ml n :: STO a va h z :: E)) rfl ?_
    refine r_icN_eq (a := 0) (b := 0) (tgt := 21) C (by first | omega | (simp [up2, *]; done) | (simp [up2, *]; omega) | (simp only [up2_eq]; omega) | (split <;> omega)) (by first | omega | (simp [up2, *]; done) | (simp [up2, *]; omega) | (simp only [up2_eq]; omega) | (split <;> omega)) dJ5_inflateIfNeededFor_a7421_14 (by decide) (fun h14_2 => ?_) (fun h14_2 => ?_)
    · skip
      exact r_vret C hr dJ5_inflateIfNeededFor_a7421_21 ⟨rfl, rfl⟩ (by first | (simp only [rmk, rmz]; omega) | (simp only [rmk, rmz]; done) | omega) (by first | (simp only [rmk, rmz]; omega) | (simp only [rmk, rmz]; done) | omega)
    · exact absurd h14_2 (by first | omega | (simp [up2, *]; done) | (simp [up2, *]; omega) | (simp only [up2_eq]; omega) | (split <;> omega))
theorem dJ5_putStringAt_47b60_0 : decode cJ5_putStringAt_47b60 0 = .ok (.aload_n 0, 1) := dqo_42 (kb_of ke_J5_putStringAt_47b60 0 rfl)
theorem dJ5_putStringAt_47b60_1 : decode cJ5_putStringAt_47b60 1 = .ok (.aload_n 2, 1) := dqo_44 (kb_of ke_J5_putStringAt_47b60 1 rfl)
theorem dJ5_putStringAt_47b60_2 : decode cJ5_putStringAt_47b60 2 = .ok (.invokevirtual 397, 3) := dqo_182 1 141 (kb_of ke_J5_putStringAt_47b60 2 rfl) (kb_of ke_J5_putStringAt_47b60 3 rfl) (kb_of ke_J5_putStringAt_47b60 4 rfl)
theorem dJ5_putStringAt_47b60_5 : decode cJ5_putStringAt_47b60 5 = .ok (.aload_n 2, 1) := dqo_44 (kb_of ke_J5_putStringAt_47b60 5 rfl)
theorem dJ5_putStringAt_47b60_6 : decode cJ5_putStringAt_47b60 6 = .ok (.aload_n 0, 1) := dqo_42 (kb_of ke_J5_putStringAt_47b60 6 rfl)
theorem dJ5_putStringAt_47b60_7 : decode cJ5_putStringAt_47b60 7 = .ok (.getfield 15, 3) := dqo_180 0 15 (kb_of ke_J5_putStringAt_47b60 7 rfl) (kb_of ke_J5_putStringAt_47b60 8 rfl) (kb_of ke_J5_putStringAt_47b60 9 rfl)
theorem dJ5_putStringAt_47b60_10 : decode cJ5_putStringAt_47b60 10 = .ok (.iload_n 1, 1) := dqo_27 (kb_of ke_J5_putStringAt_47b60 10 rfl)
theorem dJ5_putStringAt_47b60_11 : decode cJ5_putStringAt_47b60 11 = .ok (.aload_n 0, 1) := dqo_42 (kb_of ke_J5_putStringAt_47b60 11 rfl)
theorem dJ5_putStringAt_47b60_12 : decode cJ5_putStringAt_47b60 12 = .ok (.getfield 22, 3) := dqo_180 0 22 (kb_of ke_J5_putStringAt_47b60 12 rfl) (kb_of ke_J5_putStringAt_47b60 13 rfl) (kb_of ke_J5_putStringAt_47b60 14 rfl)
theorem dJ5_putStringAt_47b60_15 : decode cJ5_putStringAt_47b60 15 = .ok (.invokevirtual 399, 3) := dqo_182 1 143 (kb_of ke_J5_putStringAt_47b60 15 rfl) (kb_of ke_J5_putStringAt_47b60 16 rfl) (kb_of ke_J5_putStringAt_47b60 17 rfl)
theorem dJ5_putStringAt_47b60_18 : decode cJ5_putStringAt_47b60 18 = .ok (.return_, 1) := dqo_177 (kb_of ke_J5_putStringAt_47b60 18 rfl)
theorem pk_J0_getBytes_840e7 : PkV RJ0 yJ0_getBytes_840e7 cJ0_getBytes_840e7 4 none 3 := ⟨⟨qi_J0_getBytes_840e7, qs_J0_getBytes_840e7, qz_J0, qc_J0_getBytes_840e7⟩, rfl, mh_J0.1, mh_J0.2, pd_32⟩
theorem pk_J5_inflateIfNeededFor_a7421 : PkU yJ5_inflateIfNeededFor_a7421 cJ5_inflateIfNeededFor_a7421 2 none 1 := ⟨⟨qe_J5_inflateIfNeededFor_a7421, qi_J5_inflateIfNeededFor_a7421, qc_J5_inflateIfNeededFor_a7421⟩, Or.inr qr_J5_inflateIfNeededFor_a7421, by decide +kernel⟩
set_option maxRecDepth 100000 in
set_option maxHeartbeats 400000 in
theorem C_putStr_K {l : Launch} {D : va_G} {cy : Nat → ClassId} {X : (Nat → Prop) → State → Heap → Prop} {aK aV : Nat → Nat} {tO tT : Nat} {gO gT : Nat → Int32} {U E : va_W} {b : Nat} {v : Nat} {m : Nat} {n : Nat} {g : Nat → Int32} {ml : Int32} {dp : Nat} {i : Nat} (hX : EnvS X cy aK aV tO tT gO gT) (hi : i < KSN.length) (hdp : dp + KSN.getD i 0 ≤ m) (hm : m < 536870912) (hf : sb_Fit g) : Cm l D cy X yJ5_putStringAt_47b60 cJ5_putStringAt_47b60 3 none (rmz 2 100) [.ref b, .int (nI dp), .ref (aK i)] (U ++ (SBO b v ml n :: BYO cy v m g :: E)) (fun v1 w1 => ∃ g9 : Nat → Int32, (sb_Fit g9) ∧ v1 = none ∧ w1 = U ++ (SBO b v ml n :: BYO cy v m g9 :: E)) (fun _ => False) := by
  refine Cm.ofF [some (.ref b), some (.int (nI dp)), some (.ref (aK i))] (plainFor_of_name pn_J5) rfl (Nat.le_of_ble_eq_true rfl) ?_
  intro p e s mI args below meth c A C hE hr hnt hn
  refine r_aload_n C dJ5_putStringAt_47b60_0 rfl ?_
  refine r_aload_n C dJ5_putStringAt_47b60_1 rfl ?_
  refine c_U (st := []) hX C hE (C_infl_K (U := U) (E := (BYO cy v m g :: E)) (b := b) (v := v) (n := n) (ml := ml) (i := i) hX (by first | assumption | decide)) pk_J5_inflateIfNeededFor_a7421 qm_J5_397 (U.length + 0) (us_g rfl) rfl rfl (Nat.le_of_ble_eq_true rfl) dJ5_putStringAt_47b60_2 ⟨Nat.le_of_ble_eq_true rfl, Nat.le_of_ble_eq_true rfl⟩ ⟨by first | (simp only [rmk, rmz]; omega) | (simp only [rmk, rmz]; done) | omega, by first | (simp only [rmk, rmz]; omega) | (simp only [rmk, rmz]; done) | omega⟩ (fun v9 w9 h9 => ?_) (fun _ h9 => h9.elim)
  obtain ⟨rfl, rfl⟩ := h9
  refine r_aload_n C dJ5_putStringAt_47b60_5 rfl ?_
  refine r_aload_n C dJ5_putStringAt_47b60_6 rfl ?_
  refine t_sbg C 0 0 rfl (by decide) qf_J5_15 rfl rfl dJ5_putStringAt_47b60_7 ?_
  refine r_iload_n C dJ5_putStringAt_47b60_10 rfl ?_
  refine r_aload_n C dJ5_putStringAt_47b60_11 rfl ?_
  refine t_sbg C 0 1 rfl (by decide) qf_J5_22 rfl rfl dJ5_putStringAt_47b60_12 ?_
  refine t_perm [SBO b v ml n, BYO cy v m g] [BYO cy v m g, SBO b v ml n] [1, 0] rfl (by decide) rfl (w' := U ++ (BYO cy v m g :: SBO b v ml n :: E)) rfl ?_
  refine c_VK (st := []) hX C hE (by first | assumption | decide) (C_getBytes_K (U := U) (E := (SBO b v ml n :: E)) (v := v) (m := m) (g := g) (dp := dp) (i := i) hX (by first | assumption | decide) (by first | omega | (simp [up2, *]; done) | (simp [up2, *]; omega) | (simp only [up2_eq]; omega) | (split <;> omega)) (by first | omega | (simp [up2, *]; done) | (simp [up2, *]; omega) | (simp only [up2_eq]; omega) | (split <;> omega)) hf) pk_J0_getBytes_840e7 qm_J5_399 rfl rfl (Nat.le_of_ble_eq_true rfl) dJ5_putStringAt_47b60_15 ⟨Nat.le_of_ble_eq_true rfl, Nat.le_of_ble_eq_true rfl⟩ ⟨by first | (simp only [rmk, rmz]; omega) | (simp only [rmk, rmz]; done) | omega, by first | (simp only [rmk, rmz]; omega) | (simp only [rmk, rmz]; done) | omega⟩ (fun v9 w9 h9 => ?_) (fun _ h9 => h9.elim)
  obtain ⟨g9_1, f_2, rfl, rfl⟩ := h9
  refine t_perm [BYO cy v m g9_1, SBO b v ml n] [SBO b v ml n, BYO cy v m g9_1] [1, 0] rfl (by decide) rfl (w' := U ++ (SBO b v ml n :: BYO cy v m g9_1 :: E)) rfl ?_
  exact r_vret C hr dJ5_putStringAt_47b60_18 ⟨g9_1, f_2, rfl, rfl⟩ (by first | (simp only [rmk, rmz]; omega) | (simp only [rmk, rmz]; done) | omega) (by first | (simp only [rmk, rmz]; omega) | (simp only [rmk, rmz]; done) | omega)
set_option maxRecDepth 100000 in
set_option maxHeartbeats 400000 in
theorem C_putStr_W {l : Launch} {D : va_G} {cy : Nat → ClassId} {X : (Nat → Prop) → State → Heap → Prop} {aK aV : Nat → Nat} {tO tT : Nat} {gO gT : Nat → Int32} {U E : va_W} {b : Nat} {v : Nat} {m : Nat} {n : Nat} {g : Nat → Int32} {ml : Int32} {dp : Nat} {a : Nat} {va : Nat} {h : Int32} {z : Int32} {k : Nat} {gs : Nat → Int32} (hX : EnvS X cy aK aV tO tT gO gT) (hdp : dp + k ≤ m) (hm : m < 536870912) (hf : sb_Fit g) (hgs : sb_Fit gs) : Cm l D cy X yJ5_putStringAt_47b60 cJ5_putStringAt_47b60 3 none (rmz 2 100) [.ref b, .int (nI dp), .ref a] (U ++ (SBO b v ml n :: BYO cy v m g :: STO a va h z :: BYO cy va k gs :: E)) (fun v1 w1 => ∃ g9 : Nat → Int32, (sb_Fit g9) ∧ v1 = none ∧ w1 = U ++ (SBO b v ml n :: BYO cy v m g9 :: STO a va h z :: BYO cy va k gs :: E)) (fun _ => False) := by
  refine Cm.ofF [some (.ref b), some (.int (nI dp)), some (.ref a)] (plainFor_of_name pn_J5) rfl (Nat.le_of_ble_eq_true rfl) ?_
  intro p e s mI args below meth c A C hE hr hnt hn
  refine r_aload_n C dJ5_putStringAt_47b60_0 rfl ?_
  refine r_aload_n C dJ5_putStringAt_47b60_1 rfl ?_
  refine t_perm [SBO b v ml n, BYO cy v m g, STO a va h z, BYO cy va k gs] [SBO b v ml n, STO a va h z, BYO cy v m g, BYO cy va k gs] [0, 2, 1, 3] rfl (by decide) rfl (w' := U ++ (SBO b v ml n :: STO a va h z :: BYO cy v m g :: BYO cy va k gs :: E)) rfl ?_
  refine c_U (st := []) hX C hE (C_infl_W (U := U) (E := (BYO cy v m g :: BYO cy va k gs :: E)) (b := b) (v := v) (n := n) (ml := ml) (a := a) (va := va) (h := h) (z := z) hX ) pk_J5_inflateIfNeededFor_a7421 qm_J5_397 (U.length + 0) (us_g rfl) rfl rfl (Nat.le_of_ble_eq_true rfl) dJ5_putStringAt_47b60_2 ⟨Nat.le_of_ble_eq_true rfl, Nat.le_of_ble_eq_true rfl⟩ ⟨by first | (simp only [rmk, rmz]; omega) | (simp only [rmk, rmz]; done) | omega, by first | (simp only [rmk, rmz]; omega) | (simp only [rmk, rmz]; done) | omega⟩ (fun v9 w9 h9 => ?_) (fun _ h9 => h9.elim)
  obtain ⟨rfl, rfl⟩ := h9
  refine r_aload_n C dJ5_putStringAt_47b60_5 rfl ?_
  refine r_aload_n C dJ5_putStringAt_47b60_6 rfl ?_
  refine t_sbg C 0 0 rfl (by decide) qf_J5_15 rfl rfl dJ5_putStringAt_47b60_7 ?_
  refine r_iload_n C dJ5_putStringAt_47b60_10 rfl ?_
  refine r_aload_n C dJ5_putStringAt_47b60_11 rfl ?_
  refine t_sbg C 0 1 rfl (by decide) qf_J5_22 rfl rfl dJ5_putStringAt_47b60_12 ?_
  refine t_perm [SBO b v ml n, STO a va h z, BYO cy v m g, BYO cy va k gs] [BYO cy v m g, STO a va h z, BYO cy va k gs, SBO b v ml n] [2, 1, 3, 0] rfl (by decide) rfl (w' := U ++ (BYO cy v m g :: STO a va h z :: BYO cy va k gs :: SBO b v ml n :: E)) rfl ?_
  refine c_V (st := []) hX.stb C hE (C_getBytes_W (U := U) (E := (SBO b v ml n :: E)) (v := v) (m := m) (g := g) (dp := dp) (a := a) (va := va) (h := h) (z := z) (k := k) (gs := gs) hX (by first | omega | (simp [up2, *]; done) | (simp [up2, *]; omega) | (simp only [up2_eq]; omega) | (split <;> omega)) (by first | omega | (simp [up2, *]; done) | (simp [up2, *]; omega) | (simp only [up2_eq]; omega) | (split <;> omega)) hf hgs) pk_J0_getBytes_840e7 qm_J5_399 (U.length + 1) 0 rfl rfl (us_g rfl) rfl rfl (Nat.le_of_ble_eq_true rfl) dJ5_putStringAt_47b60_15 ⟨Nat.le_of_ble_eq_true rfl, Nat.le_of_ble_eq_true rfl⟩ ⟨by first | (simp only [rmk, rmz]; omega) | (simp only [rmk, rmz]; done) | omega, by first | (simp only [rmk, rmz]; omega) | (simp only [rmk, rmz]; done) | omega⟩ (fun v9 w9 h9 => ?_) (fun _ h9 => h9.elim)
  obtain ⟨g9_1, f_2, rfl, rfl⟩ := h9
  refine t_perm [BYO cy v m g9_1, STO a va h z, BYO cy va k gs, SBO b v ml n] [SBO b v ml n, BYO cy v m g9_1, STO a va h z, BYO cy va k gs] [3, 0, 1, 2] rfl (by decide) rfl (w' := U ++ (SBO b v ml n :: BYO cy v m g9_1 :: STO a va h z :: BYO cy va k gs :: E)) rfl ?_
  exact r_vret C hr dJ5_putStringAt_47b60_18 ⟨g9_1, f_2, rfl, rfl⟩ (by first | (simp only [rmk, rmz]; omega) | (simp only [rmk, rmz]; done) | omega) (by first | (simp only [rmk, rmz]; omega) | (simp only [rmk, rmz]; done) | omega)
theorem dJ5_append_cf1ce_0 : decode cJ5_append_cf1ce 0 = .ok (.aload_n 1, 1) := dqo_43 (kb_of ke_J5_append_cf1ce 0 rfl)
theorem dJ5_append_cf1ce_1 : decode cJ5_append_cf1ce 1 = .ok (.ifnonnull 8, 3) := dqo_199 0 8 (by decide) (kb_of ke_J5_append_cf1ce 1 rfl) (kb_of ke_J5_append_cf1ce 2 rfl) (kb_of ke_J5_append_cf1ce 3 rfl)
theorem dJ5_append_cf1ce_9 : decode cJ5_append_cf1ce 9 = .ok (.aload_n 1, 1) := dqo_43 (kb_of ke_J5_append_cf1ce 9 rfl)
theorem dJ5_append_cf1ce_10 : decode cJ5_append_cf1ce 10 = .ok (.invokevirtual 32, 3) := dqo_182 0 32 (kb_of ke_J5_append_cf1ce 10 rfl) (kb_of ke_J5_append_cf1ce 11 rfl) (kb_of ke_J5_append_cf1ce 12 rfl)
theorem dJ5_append_cf1ce_13 : decode cJ5_append_cf1ce 13 = .ok (.istore_n 2, 1) := dqo_61 (kb_of ke_J5_append_cf1ce 13 rfl)
theorem dJ5_append_cf1ce_14 : decode cJ5_append_cf1ce 14 = .ok (.aload_n 0, 1) := dqo_42 (kb_of ke_J5_append_cf1ce 14 rfl)
theorem dJ5_append_cf1ce_15 : decode cJ5_append_cf1ce 15 = .ok (.aload_n 0, 1) := dqo_42 (kb_of ke_J5_append_cf1ce 15 rfl)
theorem dJ5_append_cf1ce_16 : decode cJ5_append_cf1ce 16 = .ok (.getfield 79, 3) := dqo_180 0 79 (kb_of ke_J5_append_cf1ce 16 rfl) (kb_of ke_J5_append_cf1ce 17 rfl) (kb_of ke_J5_append_cf1ce 18 rfl)
theorem dJ5_append_cf1ce_19 : decode cJ5_append_cf1ce 19 = .ok (.iload_n 2, 1) := dqo_28 (kb_of ke_J5_append_cf1ce 19 rfl)
theorem dJ5_append_cf1ce_20 : decode cJ5_append_cf1ce 20 = .ok (.iadd, 1) := dqo_96 (kb_of ke_J5_append_cf1ce 20 rfl)
theorem dJ5_append_cf1ce_21 : decode cJ5_append_cf1ce 21 = .ok (.invokevirtual 100, 3) := dqo_182 0 100 (kb_of ke_J5_append_cf1ce 21 rfl) (kb_of ke_J5_append_cf1ce 22 rfl) (kb_of ke_J5_append_cf1ce 23 rfl)
theorem dJ5_append_cf1ce_24 : decode cJ5_append_cf1ce 24 = .ok (.aload_n 0, 1) := dqo_42 (kb_of ke_J5_append_cf1ce 24 rfl)
theorem dJ5_append_cf1ce_25 : decode cJ5_append_cf1ce 25 = .ok (.aload_n 0, 1) := dqo_42 (kb_of ke_J5_append_cf1ce 25 rfl)
theorem dJ5_append_cf1ce_26 : decode cJ5_append_cf1ce 26 = .ok (.getfield 79, 3) := dqo_180 0 79 (kb_of ke_J5_append_cf1ce 26 rfl) (kb_of ke_J5_append_cf1ce 27 rfl) (kb_of ke_J5_append_cf1ce 28 rfl)
theorem dJ5_append_cf1ce_29 : decode cJ5_append_cf1ce 29 = .ok (.aload_n 1, 1) := dqo_43 (kb_of ke_J5_append_cf1ce 29 rfl)
theorem dJ5_append_cf1ce_30 : decode cJ5_append_cf1ce 30 = .ok (.invokevirtual 208, 3) := dqo_182 0 208 (kb_of ke_J5_append_cf1ce 30 rfl) (kb_of ke_J5_append_cf1ce 31 rfl) (kb_of ke_J5_append_cf1ce 32 rfl)
theorem dJ5_append_cf1ce_33 : decode cJ5_append_cf1ce 33 = .ok (.aload_n 0, 1) := dqo_42 (kb_of ke_J5_append_cf1ce 33 rfl)
theorem dJ5_append_cf1ce_34 : decode cJ5_append_cf1ce 34 = .ok (.dup, 1) := dqo_89 (kb_of ke_J5_append_cf1ce 34 rfl)
theorem dJ5_append_cf1ce_35 : decode cJ5_append_cf1ce 35 = .ok (.getfield 79, 3) := dqo_180 0 79 (kb_of ke_J5_append_cf1ce 35 rfl) (kb_of ke_J5_append_cf1ce 36 rfl) (kb_of ke_J5_append_cf1ce 37 rfl)
theorem dJ5_append_cf1ce_38 : decode cJ5_append_cf1ce 38 = .ok (.iload_n 2, 1) := dqo_28 (kb_of ke_J5_append_cf1ce 38 rfl)
theorem dJ5_append_cf1ce_39 : decode cJ5_append_cf1ce 39 = .ok (.iadd, 1) := dqo_96 (kb_of ke_J5_append_cf1ce 39 rfl)
theorem dJ5_append_cf1ce_40 : decode cJ5_append_cf1ce 40 = .ok (.putfield 79, 3) := dqo_181 0 79 (kb_of ke_J5_append_cf1ce 40 rfl) (kb_of ke_J5_append_cf1ce 41 rfl) (kb_of ke_J5_append_cf1ce 42 rfl)
theorem dJ5_append_cf1ce_43 : decode cJ5_append_cf1ce 43 = .ok (.aload_n 0, 1) := dqo_42 (kb_of ke_J5_append_cf1ce 43 rfl)
theorem dJ5_append_cf1ce_44 : decode cJ5_append_cf1ce 44 = .ok (.areturn, 1) := dqo_176 (kb_of ke_J5_append_cf1ce 44 rfl)
theorem pk_J0_length_8abf5 : PkV RJ0 yJ0_length_8abf5 cJ0_length_8abf5 1 (some .int) 0 := ⟨⟨qi_J0_length_8abf5, qs_J0_length_8abf5, qz_J0, qc_J0_length_8abf5⟩, rfl, mh_J0.1, mh_J0.2, pd_10⟩
theorem pk_J5_putStringAt_47b60 : PkU yJ5_putStringAt_47b60 cJ5_putStringAt_47b60 3 none 2 := ⟨⟨qe_J5_putStringAt_47b60, qi_J5_putStringAt_47b60, qc_J5_putStringAt_47b60⟩, Or.inr qr_J5_putStringAt_47b60, by decide +kernel⟩
set_option maxRecDepth 100000 in
set_option maxHeartbeats 400000 in
theorem C_asbStr_K {l : Launch} {D : va_G} {cy : Nat → ClassId} {X : (Nat → Prop) → State → Heap → Prop} {aK aV : Nat → Nat} {tO tT : Nat} {gO gT : Nat → Int32} {U E : va_W} {b : Nat} {v : Nat} {m : Nat} {n : Nat} {g : Nat → Int32} {ml : Int32} {i : Nat} (hX : EnvS X cy aK aV tO tT gO gT) (hm : m ≤ 65536) (hnm : n ≤ m) (hf : sb_Fit g) (hi : i < KSN.length) : Cm l D cy X yJ5_append_cf1ce cJ5_append_cf1ce 3 (some (.object "java/lang/AbstractStringBuilder")) (rmk 4 (gC (n + KSN.getD i 0) m) (gS (n + KSN.getD i 0) m) 160) [.ref b, .ref (aK i)] (U ++ (SBO b v ml n :: BYO cy v m g :: E)) (fun v1 w1 => ∃ v9 : Nat, ∃ g9 : Nat → Int32, (sb_Fit g9) ∧ v1 = some (.ref b) ∧ w1 = U ++ (SBO b v9 ml (n + KSN.getD i 0) :: BYO cy v9 (sb_cap (n + KSN.getD i 0) m) g9 :: E)) (fun _ => False) := by
  refine Cm.ofF [some (.ref b), some (.ref (aK i)), none] (plainFor_of_name pn_J5) rfl (Nat.le_of_ble_eq_true rfl) ?_
  intro p e s mI args below meth c A C hE hr hnt hn
  refine r_aload_n C dJ5_append_cf1ce_0 rfl ?_
  refine r_ifnonnull (tgt := 9) C dJ5_append_cf1ce_1 (by decide) ?_
  refine r_aload_n C dJ5_append_cf1ce_9 rfl ?_
  refine c_VK (st := []) hX C hE (by first | assumption | decide) (C_len_K (w := U ++ (SBO b v ml n :: BYO cy v m g :: E)) (i := i) hX (by first | assumption | decide)) pk_J0_length_8abf5 qm_J5_32 rfl rfl (Nat.le_of_ble_eq_true rfl) dJ5_append_cf1ce_10 ⟨Nat.le_of_ble_eq_true rfl, Nat.le_of_ble_eq_true rfl⟩ ⟨by first | (simp only [rmk, rmz]; omega) | (simp only [rmk, rmz]; done) | omega, by first | (simp only [rmk, rmz]; omega) | (simp only [rmk, rmz]; done) | omega⟩ (fun v9 w9 h9 => ?_) (fun _ h9 => h9.elim)
  obtain ⟨rfl, rfl⟩ := h9
  have hk := ks_lt hi
  have hcg := sb_cap_ge (n + KSN.getD i 0) m
  have hcl := cap_lt (q := n + KSN.getD i 0) hm (by omega)
  refine r_istore_n C dJ5_append_cf1ce_13 (by decide) rfl ?_
  refine r_aload_n C dJ5_append_cf1ce_14 rfl ?_
  refine r_aload_n C dJ5_append_cf1ce_15 rfl ?_
  refine t_sbg C 0 3 rfl (by decide) qf_J5_79 rfl rfl dJ5_append_cf1ce_16 ?_
  refine r_iload_n C dJ5_append_cf1ce_19 rfl ?_
  refine r_iaddN C dJ5_append_cf1ce_20 ?_
  refine c_U (st := []) hX C hE (C_ensure (U := U) (E := E) (b := b) (v := v) (m := m) (n := n) (g := g) (ml := ml) (q := (n + (KSN.getD i 0))) hX (by first | omega | (simp [up2, *]; done) | (simp [up2, *]; omega) | (simp only [up2_eq]; omega) | (split <;> omega)) (by first | omega | (simp [up2, *]; done) | (simp [up2, *]; omega) | (simp only [up2_eq]; omega) | (split <;> omega)) (by first | omega | (simp [up2, *]; done) | (simp [up2, *]; omega) | (simp only [up2_eq]; omega) | (split <;> omega))) pk_J5_ensureCapacityInternal_d00df qm_J5_100 (U.length + 0) (us_g rfl) rfl rfl (Nat.le_of_ble_eq_true rfl) dJ5_append_cf1ce_21 ⟨Nat.le_of_ble_eq_true rfl, Nat.le_of_ble_eq_true rfl⟩ ⟨by first | (simp only [rmk, rmz]; omega) | (simp only [rmk, rmz]; done) | omega, by first | (simp only [rmk, rmz]; omega) | (simp only [rmk, rmz]; done) | omega⟩ (fun v9 w9 h9 => ?_) (fun _ h9 => h9.elim)
  obtain ⟨v9_1, g9_2, f_3, rfl, rfl⟩ := h9
  refine r_aload_n C dJ5_append_cf1ce_24 rfl ?_
  refine r_aload_n C dJ5_append_cf1ce_25 rfl ?_
  refine t_sbg C 0 3 rfl (by decide) qf_J5_79 rfl rfl dJ5_append_cf1ce_26 ?_
  refine r_aload_n C dJ5_append_cf1ce_29 rfl ?_
  refine c_U (st := []) hX C hE (C_putStr_K (U := U) (E := E) (b := b) (v := v9_1) (m := (sb_cap (n + (KSN.getD i 0)) m)) (n := n) (g := g9_2) (ml := ml) (dp := n) (i := i) hX (by first | assumption | decide) (by omega) hcl f_3) pk_J5_putStringAt_47b60 qm_J5_208 (U.length + 0) (us_g rfl) rfl rfl (Nat.le_of_ble_eq_true rfl) dJ5_append_cf1ce_30 ⟨Nat.le_of_ble_eq_true rfl, Nat.le_of_ble_eq_true rfl⟩ ⟨by first | (simp only [rmk, rmz]; omega) | (simp only [rmk, rmz]; done) | omega, by first | (simp only [rmk, rmz]; omega) | (simp only [rmk, rmz]; done) | omega⟩ (fun v9 w9 h9 => ?_) (fun _ h9 => h9.elim)
  obtain ⟨g9_4, f_5, rfl, rfl⟩ := h9
  refine r_aload_n C dJ5_append_cf1ce_33 rfl ?_
  refine r_dup C dJ5_append_cf1ce_34 rfl ?_
  refine t_sbg C 0 3 rfl (by decide) qf_J5_79 rfl rfl dJ5_append_cf1ce_35 ?_
  refine r_iload_n C dJ5_append_cf1ce_38 rfl ?_
  refine r_iaddN C dJ5_append_cf1ce_39 ?_
  refine t_sbp (ty := .int) C 0 3 rfl (by decide) rfl qf_J5_79 rfl rfl rfl rfl rfl dJ5_append_cf1ce_40 (L' := (SBO b v9_1 ml (n + (KSN.getD i 0)) :: BYO cy v9_1 (sb_cap (n + (KSN.getD i 0)) m) g9_4 :: E)) rfl ?_
  refine r_aload_n C dJ5_append_cf1ce_43 rfl ?_
  exact r_aret C hr (Or.inl ⟨_, rfl⟩) dJ5_append_cf1ce_44 ⟨v9_1, g9_4, f_5, rfl, rfl⟩ (by first | (simp only [rmk, rmz]; omega) | (simp only [rmk, rmz]; done) | omega) (by first | (simp only [rmk, rmz]; omega) | (simp only [rmk, rmz]; done) | omega)
set_option maxRecDepth 100000 in
set_option maxHeartbeats 400000 in
theorem C_asbStr_W {l : Launch} {D : va_G} {cy : Nat → ClassId} {X : (Nat → Prop) → State → Heap → Prop} {aK aV : Nat → Nat} {tO tT : Nat} {gO gT : Nat → Int32} {U E : va_W} {b : Nat} {v : Nat} {m : Nat} {n : Nat} {g : Nat → Int32} {ml : Int32} {a : Nat} {va : Nat} {h : Int32} {z : Int32} {k : Nat} {gs : Nat → Int32} (hX : EnvS X cy aK aV tO tT gO gT) (hm : m ≤ 65536) (hnm : n ≤ m) (hf : sb_Fit g) (hk : k < 1000) (hgs : sb_Fit gs) : Cm l D cy X yJ5_append_cf1ce cJ5_append_cf1ce 3 (some (.object "java/lang/AbstractStringBuilder")) (rmk 4 (gC (n + k) m) (gS (n + k) m) 160) [.ref b, .ref a] (U ++ (SBO b v ml n :: BYO cy v m g :: STO a va h z :: BYO cy va k gs :: E)) (fun v1 w1 => ∃ v9 : Nat, ∃ g9 : Nat → Int32, (sb_Fit g9) ∧ v1 = some (.ref b) ∧ w1 = U ++ (SBO b v9 ml (n + k) :: BYO cy v9 (sb_cap (n + k) m) g9 :: STO a va h z :: BYO cy va k gs :: E)) (fun _ => False) := by
  refine Cm.ofF [some (.ref b), some (.ref a), none] (plainFor_of_name pn_J5) rfl (Nat.le_of_ble_eq_true rfl) ?_
  intro p e s mI args below meth c A C hE hr hnt hn
  refine r_aload_n C dJ5_append_cf1ce_0 rfl ?_
  refine r_ifnonnull (tgt := 9) C dJ5_append_cf1ce_1 (by decide) ?_
  refine r_aload_n C dJ5_append_cf1ce_9 rfl ?_
  refine t_perm [SBO b v ml n, BYO cy v m g, STO a va h z, BYO cy va k gs] [STO a va h z, BYO cy va k gs, SBO b v ml n, BYO cy v m g] [2, 3, 0, 1] rfl (by decide) rfl (w' := U ++ (STO a va h z :: BYO cy va k gs :: SBO b v ml n :: BYO cy v m g :: E)) rfl ?_
  refine c_V (st := []) hX.stb C hE (C_len_W (U := U) (E := (SBO b v ml n :: BYO cy v m g :: E)) (a := a) (va := va) (h := h) (z := z) (k := k) (gs := gs) hX ) pk_J0_length_8abf5 qm_J5_32 (U.length + 0) 0 rfl rfl (us_g rfl) rfl rfl (Nat.le_of_ble_eq_true rfl) dJ5_append_cf1ce_10 ⟨Nat.le_of_ble_eq_true rfl, Nat.le_of_ble_eq_true rfl⟩ ⟨by first | (simp only [rmk, rmz]; omega) | (simp only [rmk, rmz]; done) | omega, by first | (simp only [rmk, rmz]; omega) | (simp only [rmk, rmz]; done) | omega⟩ (fun v9 w9 h9 => ?_) (fun _ h9 => h9.elim)
  obtain ⟨rfl, rfl⟩ := h9
  have hcg := sb_cap_ge (n + k) m
  have hcl := cap_lt (q := n + k) hm (by omega)
  refine r_istore_n C dJ5_append_cf1ce_13 (by decide) rfl ?_
  refine r_aload_n C dJ5_append_cf1ce_14 rfl ?_
  refine r_aload_n C dJ5_append_cf1ce_15 rfl ?_
  refine t_sbg C 2 3 rfl (by decide) qf_J5_79 rfl rfl dJ5_append_cf1ce_16 ?_
  refine r_iload_n C dJ5_append_cf1ce_19 rfl ?_
  refine r_iaddN C dJ5_append_cf1ce_20 ?_
  refine t_perm [STO a va h z, BYO cy va k gs, SBO b v ml n, BYO cy v m g] [SBO b v ml n, BYO cy v m g, STO a va h z, BYO cy va k gs] [2, 3, 0, 1] rfl (by decide) rfl (w' := U ++ (SBO b v ml n :: BYO cy v m g :: STO a va h z :: BYO cy va k gs :: E)) rfl ?_
  refine c_U (st := []) hX C hE (C_ensure (U := U) (E := (STO a va h z :: BYO cy va k gs :: E)) (b := b) (v := v) (m := m) (n := n) (g := g) (ml := ml) (q := (n + k)) hX (by first | omega | (simp [up2, *]; done) | (simp [up2, *]; omega) | (simp only [up2_eq]; omega) | (split <;> omega)) (by first | omega | (simp [up2, *]; done) | (simp [up2, *]; omega) | (simp only [up2_eq]; omega) | (split <;> omega)) (by first | omega | (simp [up2, *]; done) | (simp [up2, *]; omega) | (simp only [up2_eq]; omega) | (split <;> omega))) pk_J5_ensureCapacityInternal_d00df qm_J5_100 (U.length + 0) (us_g rfl) rfl rfl (Nat.le_of_ble_eq_true rfl) dJ5_append_cf1ce_21 ⟨Nat.le_of_ble_eq_true rfl, Nat.le_of_ble_eq_true rfl⟩ ⟨by first | (simp only [rmk, rmz]; omega) | (simp only [rmk, rmz]; done) | omega, by first | (simp only [rmk, rmz]; omega) | (simp only [rmk, rmz]; done) | omega⟩ (fun v9 w9 h9 => ?_) (fun _ h9 => h9.elim)
  obtain ⟨v9_1, g9_2, f_3, rfl, rfl⟩ := h9
  refine r_aload_n C dJ5_append_cf1ce_24 rfl ?_
  refine r_aload_n C dJ5_append_cf1ce_25 rfl ?_
  refine t_sbg C 0 3 rfl (by decide) qf_J5_79 rfl rfl dJ5_append_cf1ce_26 ?_
  refine r_aload_n C dJ5_append_cf1ce_29 rfl ?_
  refine c_U (st := []) hX C hE (C_putStr_W (U := U) (E := E) (b := b) (v := v9_1) (m := (sb_cap (n + k) m)) (n := n) (g := g9_2) (ml := ml) (dp := n) (a := a) (va := va) (h := h) (z := z) (k := k) (gs := gs) hX (by omega) hcl f_3 hgs) pk_J5_putStringAt_47b60 qm_J5_208 (U.length + 0) (us_g rfl) rfl rfl (Nat.le_of_ble_eq_true rfl) dJ5_append_cf1ce_30 ⟨Nat.le_of_ble_eq_true rfl, Nat.le_of_ble_eq_true rfl⟩ ⟨by first | (simp only [rmk, rmz]; omega) | (simp only [rmk, rmz]; done) | omega, by first | (simp only [rmk, rmz]; omega) | (simp only [rmk, rmz]; done) | omega⟩ (fun v9 w9 h9 => ?_) (fun _ h9 => h9.elim)
  obtain ⟨g9_4, f_5, rfl, rfl⟩ := h9
  refine r_aload_n C dJ5_append_cf1ce_33 rfl ?_
  refine r_dup C dJ5_append_cf1ce_34 rfl ?_
  refine t_sbg C 0 3 rfl (by decide) qf_J5_79 rfl rfl dJ5_append_cf1ce_35 ?_
  refine r_iload_n C dJ5_append_cf1ce_38 rfl ?_
  refine r_iaddN C dJ5_append_cf1ce_39 ?_
  refine t_sbp (ty := .int) C 0 3 rfl (by decide) rfl qf_J5_79 rfl rfl rfl rfl rfl dJ5_append_cf1ce_40 (L' := (SBO b v9_1 ml (n + k) :: BYO cy v9_1 (sb_cap (n + k) m) g9_4 :: STO a va h z :: BYO cy va k gs :: E)) rfl ?_
  refine r_aload_n C dJ5_append_cf1ce_43 rfl ?_
  exact r_aret C hr (Or.inl ⟨_, rfl⟩) dJ5_append_cf1ce_44 ⟨v9_1, g9_4, f_5, rfl, rfl⟩ (by first | (simp only [rmk, rmz]; omega) | (simp only [rmk, rmz]; done) | omega) (by first | (simp only [rmk, rmz]; omega) | (simp only [rmk, rmz]; done) | omega)
theorem dJ4_append_15ec4_0 : decode cJ4_append_15ec4 0 = .ok (.aload_n 0, 1) := dqo_42 (kb_of ke_J4_append_15ec4 0 rfl)
theorem dJ4_append_15ec4_1 : decode cJ4_append_15ec4 1 = .ok (.aload_n 1, 1) := dqo_43 (kb_of ke_J4_append_15ec4 1 rfl)
theorem dJ4_append_15ec4_2 : decode cJ4_append_15ec4 2 = .ok (.invokespecial 29, 3) := dqo_183 0 29 (kb_of ke_J4_append_15ec4 2 rfl) (kb_of ke_J4_append_15ec4 3 rfl) (kb_of ke_J4_append_15ec4 4 rfl)
theorem dJ4_append_15ec4_5 : decode cJ4_append_15ec4 5 = .ok (.pop, 1) := dqo_87 (kb_of ke_J4_append_15ec4 5 rfl)
theorem dJ4_append_15ec4_6 : decode cJ4_append_15ec4 6 = .ok (.aload_n 0, 1) := dqo_42 (kb_of ke_J4_append_15ec4 6 rfl)
theorem dJ4_append_15ec4_7 : decode cJ4_append_15ec4 7 = .ok (.areturn, 1) := dqo_176 (kb_of ke_J4_append_15ec4 7 rfl)
theorem pkS_J5_append_cf1ce : PkSU yJ5_append_cf1ce cJ5_append_cf1ce 3 (some (.object "java/lang/AbstractStringBuilder")) 1 := ⟨⟨qe_J5_append_cf1ce, qi_J5_append_cf1ce, qc_J5_append_cf1ce⟩, by decide +kernel⟩
set_option maxRecDepth 100000 in
set_option maxHeartbeats 400000 in
theorem C_sbStr_K {l : Launch} {D : va_G} {cy : Nat → ClassId} {X : (Nat → Prop) → State → Heap → Prop} {aK aV : Nat → Nat} {tO tT : Nat} {gO gT : Nat → Int32} {U E : va_W} {b : Nat} {v : Nat} {m : Nat} {n : Nat} {g : Nat → Int32} {ml : Int32} {i : Nat} (hX : EnvS X cy aK aV tO tT gO gT) (hm : m ≤ 65536) (hnm : n ≤ m) (hf : sb_Fit g) (hi : i < KSN.length) : Cm l D cy X yJ4_append_15ec4 cJ4_append_15ec4 2 (some (.object "java/lang/StringBuilder")) (rmk 5 (gC (n + KSN.getD i 0) m) (gS (n + KSN.getD i 0) m) 200) [.ref b, .ref (aK i)] (U ++ (SBO b v ml n :: BYO cy v m g :: E)) (fun v1 w1 => ∃ v9 : Nat, ∃ g9 : Nat → Int32, (sb_Fit g9) ∧ v1 = some (.ref b) ∧ w1 = U ++ (SBO b v9 ml (n + KSN.getD i 0) :: BYO cy v9 (sb_cap (n + KSN.getD i 0) m) g9 :: E)) (fun _ => False) := by
  refine Cm.ofF [some (.ref b), some (.ref (aK i))] (plainFor_of_name pn_J4) rfl (Nat.le_of_ble_eq_true rfl) ?_
  intro p e s mI args below meth c A C hE hr hnt hn
  refine r_aload_n C dJ4_append_15ec4_0 rfl ?_
  refine r_aload_n C dJ4_append_15ec4_1 rfl ?_
  refine c_SU (st := []) hX C hE (C_asbStr_K (U := U) (E := E) (b := b) (v := v) (m := m) (n := n) (g := g) (ml := ml) (i := i) hX (by first | omega | (simp [up2, *]; done) | (simp [up2, *]; omega) | (simp only [up2_eq]; omega) | (split <;> omega)) (by first | omega | (simp [up2, *]; done) | (simp [up2, *]; omega) | (simp only [up2_eq]; omega) | (split <;> omega)) hf (by first | assumption | decide)) pkS_J5_append_cf1ce qm_J4_29 (U.length + 0) (us_g rfl) rfl rfl (Nat.le_of_ble_eq_true rfl) dJ4_append_15ec4_2 ⟨Nat.le_of_ble_eq_true rfl, Nat.le_of_ble_eq_true rfl⟩ ⟨by first | (simp only [rmk, rmz]; omega) | (simp only [rmk, rmz]; done) | omega, by first | (simp only [rmk, rmz]; omega) | (simp only [rmk, rmz]; done) | omega⟩ (fun v9 w9 h9 => ?_) (fun _ h9 => h9.elim)
  obtain ⟨v9_1, g9_2, f_3, rfl, rfl⟩ := h9
  refine r_pop C dJ4_append_15ec4_5 rfl ?_
  refine r_aload_n C dJ4_append_15ec4_6 rfl ?_
  exact r_aret C hr (Or.inl ⟨_, rfl⟩) dJ4_append_15ec4_7 ⟨v9_1, g9_2, f_3, rfl, rfl⟩ (by first | (simp only [rmk, rmz]; omega) | (simp only [rmk, rmz]; done) | omega) (by first | (simp only [rmk, rmz]; omega) | (simp only [rmk, rmz]; done) | omega)
set_option maxRecDepth 100000 in
set_option maxHeartbeats 400000 in
theorem C_sbStr_W {l : Launch} {D : va_G} {cy : Nat → ClassId} {X : (Nat → Prop) → State → Heap → Prop} {aK aV : Nat → Nat} {tO tT : Nat} {gO gT : Nat → Int32} {U E : va_W} {b : Nat} {v : Nat} {m : Nat} {n : Nat} {g : Nat → Int32} {ml : Int32} {a : Nat} {va : Nat} {h : Int32} {z : Int32} {k : Nat} {gs : Nat → Int32} (hX : EnvS X cy aK aV tO tT gO gT) (hm : m ≤ 65536) (hnm : n ≤ m) (hf : sb_Fit g) (hk : k < 1000) (hgs : sb_Fit gs) : Cm l D cy X yJ4_append_15ec4 cJ4_append_15ec4 2 (some (.object "java/lang/StringBuilder")) (rmk 5 (gC (n + k) m) (gS (n + k) m) 200) [.ref b, .ref a] (U ++ (SBO b v ml n :: BYO cy v m g :: STO a va h z :: BYO cy va k gs :: E)) (fun v1 w1 => ∃ v9 : Nat, ∃ g9 : Nat → Int32, (sb_Fit g9) ∧ v1 = some (.ref b) ∧ w1 = U ++ (SBO b v9 ml (n + k) :: BYO cy v9 (sb_cap (n + k) m) g9 :: STO a va h z :: BYO cy va k gs :: E)) (fun _ => False) := by
  refine Cm.ofF [some (.ref b), some (.ref a)] (plainFor_of_name pn_J4) rfl (Nat.le_of_ble_eq_true rfl) ?_
  intro p e s mI args below meth c A C hE hr hnt hn
  refine r_aload_n C dJ4_append_15ec4_0 rfl ?_
  refine r_aload_n C dJ4_append_15ec4_1 rfl ?_
  refine c_SU (st := []) hX C hE (C_asbStr_W (U := U) (E := E) (b := b) (v := v) (m := m) (n := n) (g := g) (ml := ml) (a := a) (va := va) (h := h) (z := z) (k := k) (gs := gs) hX (by first | omega | (simp [up2, *]; done) | (simp [up2, *]; omega) | (simp only [up2_eq]; omega) | (split <;> omega)) (by first | omega | (simp [up2, *]; done) | (simp [up2, *]; omega) | (simp only [up2_eq]; omega) | (split <;> omega)) hf (by first | omega | (simp [up2, *]; done) | (simp [up2, *]; omega) | (simp only [up2_eq]; omega) | (split <;> omega)) hgs) pkS_J5_append_cf1ce qm_J4_29 (U.length + 0) (us_g rfl) rfl rfl (Nat.le_of_ble_eq_true rfl) dJ4_append_15ec4_2 ⟨Nat.le_of_ble_eq_true rfl, Nat.le_of_ble_eq_true rfl⟩ ⟨by first | (simp only [rmk, rmz]; omega) | (simp only [rmk, rmz]; done) | omega, by first | (simp only [rmk, rmz]; omega) | (simp only [rmk, rmz]; done) | omega⟩ (fun v9 w9 h9 => ?_) (fun _ h9 => h9.elim)
  obtain ⟨v9_1, g9_2, f_3, rfl, rfl⟩ := h9
  refine r_pop C dJ4_append_15ec4_5 rfl ?_
  refine r_aload_n C dJ4_append_15ec4_6 rfl ?_
  exact r_aret C hr (Or.inl ⟨_, rfl⟩) dJ4_append_15ec4_7 ⟨v9_1, g9_2, f_3, rfl, rfl⟩ (by first | (simp only [rmk, rmz]; omega) | (simp only [rmk, rmz]; done) | omega) (by first | (simp only [rmk, rmz]; omega) | (simp only [rmk, rmz]; done) | omega)
end PT_58
/-! ===== 59.text4 -/
section PT_59
/-! TEXTS: numbers appended -/
theorem nk_toInt {k : Nat} (h : k < 1000) : (-(nI k)).toInt = -(k : Int) := by
  rw [Int32.toInt_neg, nI_toInt (by omega)]
  exact Int.bmod_eq_of_le (by omega) (by omega)
theorem nk_le {k : Nat} (h : k < 1000) : (-(nI k) ≤ (-10 : Int32)) ↔ 10 ≤ k := by
  rw [Int32.le_iff_toInt_le, nk_toInt h, show (-10 : Int32).toInt = -10 from rfl]
  omega
theorem nk_le2 {k : Nat} (h : k < 1000) : (-(nI k) ≤ nI 10 * (-10 : Int32)) ↔ 100 ≤ k := by
  rw [Int32.le_iff_toInt_le, nk_toInt h, show (nI 10 * (-10 : Int32)).toInt = -100 from by decide]
  omega
theorem nk_lt0 {k : Nat} (h : k < 1000) : (-(nI k) < (0 : Int32)) ↔ 0 < k := by
  rw [Int32.lt_iff_toInt_lt, nk_toInt h, show (0 : Int32).toInt = 0 from rfl]
  omega
theorem nk_ge0 {k : Nat} (h : k < 1000) : ((0 : Int32) ≤ -(nI k)) ↔ k = 0 := by
  rw [Int32.le_iff_toInt_le, nk_toInt h, show (0 : Int32).toInt = 0 from rfl]
  omega
theorem nk_gt100 {k : Nat} (h : k < 1000) : ((-100 : Int32) < -(nI k)) ↔ k < 100 := by
  rw [Int32.lt_iff_toInt_lt, nk_toInt h, show (-100 : Int32).toInt = -100 from rfl]
  omega
theorem nk_ge9 {k : Nat} (h : k < 1000) : ((-9 : Int32) ≤ -(nI k)) ↔ k ≤ 9 := by
  rw [Int32.le_iff_toInt_le, nk_toInt h, show (-9 : Int32).toInt = -9 from rfl]
  omega
def sz9 (x : Int32) : Nat := (if x.toInt < 0 then 1 else 0) + (if x.toInt.natAbs < 10 then 1 else 2)
theorem fs0_J4 : ∀ j, j < 4 → defaultValue (tyJ4 j) = vp_V [.null, .int (nI 0), .int (nI 0), .int (nI 0)] j := fun j hj => by
  have : j = 0 ∨ j = 1 ∨ j = 2 ∨ j = 3 := by omega
  rcases this with rfl | rfl | rfl | rfl <;> rfl
theorem fs0_J0 : ∀ j, j < 4 → defaultValue (tyJ0 j) = vp_V [.null, .int (nI 0), .int (nI 0), .int (nI 0)] j := fun j hj => by
  have : j = 0 ∨ j = 1 ∨ j = 2 ∨ j = 3 := by omega
  rcases this with rfl | rfl | rfl | rfl <;> rfl
section CLN
variable {p : Program} {l : Launch} {e : Env} {R : Room} {s : State} {m : MethodId} {args : Array Value} {below : List Frame} {meth : Method} {c : Code} {D : va_G} {cy : Nat → ClassId} {A : Nat → Prop} {Q : State → Prop} {nL cells slots : Nat} {lv : List (Option Value)} {pc : Nat} {st : List Value} {cc : ByteArray} {own : String} {X : (Nat → Prop) → State → Heap → Prop} {aK aV : Nat → Nat} {tO tT : Nat} {gO gT : Nat → Int32} {U L : va_W}
/-- a copy of all the bytes -/
theorem t_clone (hX : EnvS X cy aK aV tO tT gO gT) (C : Fg p s m args meth c cc nL RJ7 D cy A) (hE : X A s s.heap) {b n : Nat} {g : Nat → Int32} (j : Nat) (he : L[j]? = some (b, .inl (cy 0, n, .inl g))) (hfit : sb_Fit g) (hf : 1 ≤ R.frames) (hlo : (st.map fun v => v.category).sum + 14 ≤ R.locals) (hcells : cells + 1 ≤ R.cells) (hslots : slots + n ≤ R.slots) (d : decode cc pc = .ok (.invokevirtual 310, 3))
    (kk : ∀ q : Nat, vW p l e R s m args below meth c D vwCl A Q nL (cells + 1) (slots + n) (U ++ ((q, .inl (cy 0, n, .inl g)) :: L)) lv (pc + 3) (.ref q :: st)) : vW p l e R s m args below meth c D vwCl A Q nL cells slots (U ++ L) lv pc (.ref b :: st) := fun H locs ls hP hD hS hl =>
  va_clone C.1 C.2.1 (C.2.2.1.trans hl.1.symm) C.2.2.2.1 (C.2.2.2.2.1 _ qm_clone) (C.2.2.2.2.1 _ qe_clone) (C.2.2.2.2.1 _ qv_clone) (C.2.2.2.2.1 _ qi_clone) (C.2.2.2.2.1 _ qs_clone) (hX.1.1.2.1 _ qn_clone A s s.heap hE) C.2.2.2.2.2.1 hP hD hS C.2.2.2.2.2.2.2 (U.length + j) 0 (us_g he) rfl (C.2.2.2.2.2.1.2 0 (cy 0, .byte) rfl).2 (fun i v h => by
    have h2 : (arrV (cy 0) n fun j => Value.int (g j)).slots[i]? = some v := h
    have hlt : i < n := by
      have h3 := (Array.getElem?_eq_some_iff.mp h2).1
      rw [arrV_size] at h3
      exact h3
    rw [arrV_read _ _ hlt] at h2
    exact (Option.some.inj h2) ▸ hfit i) hf hlo hcells hslots d (fun q H1 hK hP hD hS => (t_front (kk q)) H1 locs ls hP hD hS hl)
theorem t_castB (C : Fg p s m args meth c cc nL own D cy A) {b n index : Nat} {g : Nat → Int32} (j : Nat) (he : L[j]? = some (b, .inl (cy 0, n, .inl g))) (hq : Cond.classLink own index "[B" ∈ GW) (d : decode cc pc = .ok (.checkcast index, 3))
    (kk : vW p l e R s m args below meth c D vwCl A Q nL cells slots (U ++ L) lv (pc + 3) (.ref b :: st)) : vW p l e R s m args below meth c D vwCl A Q nL cells slots (U ++ L) lv pc (.ref b :: st) := fun H locs ls hP hD hS hl =>
  va_castA C.1 C.2.1 C.2.2.2.1 (C.2.2.2.2.1 _ hq) hP (U.length + j) (us_g he) (C.2.2.2.2.2.1.2 0 (cy 0, .byte) rfl).2 d (kk H locs ls hP hD hS hl)
end CLN

theorem dJ6_stringSize_0f7a4_0 : decode cJ6_stringSize_0f7a4 0 = .ok (.iconst 1, 1) := dqo_4 (kb_of ke_J6_stringSize_0f7a4 0 rfl)
theorem dJ6_stringSize_0f7a4_1 : decode cJ6_stringSize_0f7a4 1 = .ok (.istore_n 1, 1) := dqo_60 (kb_of ke_J6_stringSize_0f7a4 1 rfl)
theorem dJ6_stringSize_0f7a4_2 : decode cJ6_stringSize_0f7a4 2 = .ok (.iload_n 0, 1) := dqo_26 (kb_of ke_J6_stringSize_0f7a4 2 rfl)
theorem dJ6_stringSize_0f7a4_3 : decode cJ6_stringSize_0f7a4 3 = .ok (.ifCond .lt 8, 3) := dqo_155 0 8 (by decide) (kb_of ke_J6_stringSize_0f7a4 3 rfl) (kb_of ke_J6_stringSize_0f7a4 4 rfl) (kb_of ke_J6_stringSize_0f7a4 5 rfl)
theorem dJ6_stringSize_0f7a4_6 : decode cJ6_stringSize_0f7a4 6 = .ok (.iconst 0, 1) := dqo_3 (kb_of ke_J6_stringSize_0f7a4 6 rfl)
theorem dJ6_stringSize_0f7a4_7 : decode cJ6_stringSize_0f7a4 7 = .ok (.istore_n 1, 1) := dqo_60 (kb_of ke_J6_stringSize_0f7a4 7 rfl)
theorem dJ6_stringSize_0f7a4_8 : decode cJ6_stringSize_0f7a4 8 = .ok (.iload_n 0, 1) := dqo_26 (kb_of ke_J6_stringSize_0f7a4 8 rfl)
theorem dJ6_stringSize_0f7a4_9 : decode cJ6_stringSize_0f7a4 9 = .ok (.ineg, 1) := dqo_116 (kb_of ke_J6_stringSize_0f7a4 9 rfl)
theorem dJ6_stringSize_0f7a4_10 : decode cJ6_stringSize_0f7a4 10 = .ok (.istore_n 0, 1) := dqo_59 (kb_of ke_J6_stringSize_0f7a4 10 rfl)
theorem dJ6_stringSize_0f7a4_11 : decode cJ6_stringSize_0f7a4 11 = .ok (.bipush (-10), 2) := dqo_16 246 (by decide) (kb_of ke_J6_stringSize_0f7a4 11 rfl) (kb_of ke_J6_stringSize_0f7a4 12 rfl)
theorem dJ6_stringSize_0f7a4_13 : decode cJ6_stringSize_0f7a4 13 = .ok (.istore_n 2, 1) := dqo_61 (kb_of ke_J6_stringSize_0f7a4 13 rfl)
theorem dJ6_stringSize_0f7a4_14 : decode cJ6_stringSize_0f7a4 14 = .ok (.iconst 1, 1) := dqo_4 (kb_of ke_J6_stringSize_0f7a4 14 rfl)
theorem dJ6_stringSize_0f7a4_15 : decode cJ6_stringSize_0f7a4 15 = .ok (.istore_n 3, 1) := dqo_62 (kb_of ke_J6_stringSize_0f7a4 15 rfl)
theorem dJ6_stringSize_0f7a4_16 : decode cJ6_stringSize_0f7a4 16 = .ok (.iload_n 3, 1) := dqo_29 (kb_of ke_J6_stringSize_0f7a4 16 rfl)
theorem dJ6_stringSize_0f7a4_17 : decode cJ6_stringSize_0f7a4 17 = .ok (.bipush 10, 2) := dqo_16 10 (by decide) (kb_of ke_J6_stringSize_0f7a4 17 rfl) (kb_of ke_J6_stringSize_0f7a4 18 rfl)
theorem dJ6_stringSize_0f7a4_19 : decode cJ6_stringSize_0f7a4 19 = .ok (.if_icmp .ge 23, 3) := dqo_162 0 23 (by decide) (kb_of ke_J6_stringSize_0f7a4 19 rfl) (kb_of ke_J6_stringSize_0f7a4 20 rfl) (kb_of ke_J6_stringSize_0f7a4 21 rfl)
theorem dJ6_stringSize_0f7a4_22 : decode cJ6_stringSize_0f7a4 22 = .ok (.iload_n 0, 1) := dqo_26 (kb_of ke_J6_stringSize_0f7a4 22 rfl)
theorem dJ6_stringSize_0f7a4_23 : decode cJ6_stringSize_0f7a4 23 = .ok (.iload_n 2, 1) := dqo_28 (kb_of ke_J6_stringSize_0f7a4 23 rfl)
theorem dJ6_stringSize_0f7a4_24 : decode cJ6_stringSize_0f7a4 24 = .ok (.if_icmp .le 7, 3) := dqo_164 0 7 (by decide) (kb_of ke_J6_stringSize_0f7a4 24 rfl) (kb_of ke_J6_stringSize_0f7a4 25 rfl) (kb_of ke_J6_stringSize_0f7a4 26 rfl)
theorem dJ6_stringSize_0f7a4_27 : decode cJ6_stringSize_0f7a4 27 = .ok (.iload_n 3, 1) := dqo_29 (kb_of ke_J6_stringSize_0f7a4 27 rfl)
theorem dJ6_stringSize_0f7a4_28 : decode cJ6_stringSize_0f7a4 28 = .ok (.iload_n 1, 1) := dqo_27 (kb_of ke_J6_stringSize_0f7a4 28 rfl)
theorem dJ6_stringSize_0f7a4_29 : decode cJ6_stringSize_0f7a4 29 = .ok (.iadd, 1) := dqo_96 (kb_of ke_J6_stringSize_0f7a4 29 rfl)
theorem dJ6_stringSize_0f7a4_30 : decode cJ6_stringSize_0f7a4 30 = .ok (.ireturn, 1) := dqo_172 (kb_of ke_J6_stringSize_0f7a4 30 rfl)
set_option maxRecDepth 100000 in
set_option maxHeartbeats 400000 in
theorem C_size_p1 {l : Launch} {D : va_G} {cy : Nat → ClassId} {X : (Nat → Prop) → State → Heap → Prop} {w : va_W} {x : Int32} {k : Nat}  (hx : x = nI k) (hk : k < 10) : Cm l D cy X yJ6_stringSize_0f7a4 cJ6_stringSize_0f7a4 4 (some .int) (rmz 0 0) [.int x] (w) (fun v1 w1 => v1 = some (.int (nI 1)) ∧ w1 = w) (fun _ => False) := by
  subst hx
  refine Cm.ofF [some (.int (nI k)), none, none, none] (plainFor_of_name pn_J6) rfl (Nat.le_of_ble_eq_true rfl) ?_
  intro p e s mI args below meth c A C hE hr hnt hn
  refine r_iconst (v := (nI 1)) C dJ6_stringSize_0f7a4_0 (by decide) ?_
  refine r_istore_n C dJ6_stringSize_0f7a4_1 (by decide) rfl ?_
  refine r_iload_n C dJ6_stringSize_0f7a4_2 rfl ?_
  refine r_ifN_lt (a := k) (tgt := 11) C (by first | omega | (simp [up2, *]; done) | (simp [up2, *]; omega) | (simp only [up2_eq]; omega) | (split <;> omega)) dJ6_stringSize_0f7a4_3 (by decide) (fun h3_1 => ?_) (fun h3_1 => ?_)
  · exact absurd h3_1 (by first | omega | (simp [up2, *]; done) | (simp [up2, *]; omega) | (simp only [up2_eq]; omega) | (split <;> omega))
  · skip
    refine r_iconst (v := (nI 0)) C dJ6_stringSize_0f7a4_6 (by decide) ?_
    refine r_istore_n C dJ6_stringSize_0f7a4_7 (by decide) rfl ?_
    refine r_iload_n C dJ6_stringSize_0f7a4_8 rfl ?_
    refine r_ineg C dJ6_stringSize_0f7a4_9 ?_
    refine r_istore_n C dJ6_stringSize_0f7a4_10 (by decide) rfl ?_
    refine r_bipush (v := (-10)) C dJ6_stringSize_0f7a4_11 (by decide) ?_
    refine r_istore_n C dJ6_stringSize_0f7a4_13 (by decide) rfl ?_
    refine r_iconst (v := (nI 1)) C dJ6_stringSize_0f7a4_14 (by decide) ?_
    refine r_istore_n C dJ6_stringSize_0f7a4_15 (by decide) rfl ?_
    refine r_iload_n C dJ6_stringSize_0f7a4_16 rfl ?_
    refine r_bipush (v := (nI 10)) C dJ6_stringSize_0f7a4_17 (by decide) ?_
    refine r_icN_ge (a := 1) (b := 10) (tgt := 42) C (by first | omega | (simp [up2, *]; done) | (simp [up2, *]; omega) | (simp only [up2_eq]; omega) | (split <;> omega)) (by first | omega | (simp [up2, *]; done) | (simp [up2, *]; omega) | (simp only [up2_eq]; omega) | (split <;> omega)) dJ6_stringSize_0f7a4_19 (by decide) (fun h19_2 => ?_) (fun h19_2 => ?_)
    · exact absurd h19_2 (by first | omega | (simp [up2, *]; done) | (simp [up2, *]; omega) | (simp only [up2_eq]; omega) | (split <;> omega))
    · skip
      refine r_iload_n C dJ6_stringSize_0f7a4_22 rfl ?_
      refine r_iload_n C dJ6_stringSize_0f7a4_23 rfl ?_
      refine r_ic_le (tgt := 31) C dJ6_stringSize_0f7a4_24 (by decide) (fun h24_3 => ?_) (fun h24_3 => ?_)
      · exact absurd ((nk_le (by omega)).mp h24_3) (by omega)
      · skip
        refine r_iload_n C dJ6_stringSize_0f7a4_27 rfl ?_
        refine r_iload_n C dJ6_stringSize_0f7a4_28 rfl ?_
        refine r_iaddN C dJ6_stringSize_0f7a4_29 ?_
        exact r_iret C hr dJ6_stringSize_0f7a4_30 ⟨rfl, rfl⟩ (by first | (simp only [rmk, rmz]; omega) | (simp only [rmk, rmz]; done) | omega) (by first | (simp only [rmk, rmz]; omega) | (simp only [rmk, rmz]; done) | omega)
theorem dJ6_getChars_ba4f3_0 : decode cJ6_getChars_ba4f3 0 = .ok (.iload_n 1, 1) := dqo_27 (kb_J6_getChars_ba4f3_0 0 rfl)
theorem dJ6_getChars_ba4f3_1 : decode cJ6_getChars_ba4f3 1 = .ok (.istore 5, 2) := dqo_54 5 (kb_J6_getChars_ba4f3_0 1 rfl) (kb_J6_getChars_ba4f3_0 2 rfl)
theorem dJ6_getChars_ba4f3_3 : decode cJ6_getChars_ba4f3 3 = .ok (.iload_n 0, 1) := dqo_26 (kb_J6_getChars_ba4f3_0 3 rfl)
theorem dJ6_getChars_ba4f3_4 : decode cJ6_getChars_ba4f3 4 = .ok (.ifCond .ge 7, 3) := dqo_156 0 7 (by decide) (kb_J6_getChars_ba4f3_0 4 rfl) (kb_J6_getChars_ba4f3_0 5 rfl) (kb_J6_getChars_ba4f3_0 6 rfl)
theorem dJ6_getChars_ba4f3_11 : decode cJ6_getChars_ba4f3 11 = .ok (.iconst 0, 1) := dqo_3 (kb_J6_getChars_ba4f3_0 11 rfl)
theorem dJ6_getChars_ba4f3_12 : decode cJ6_getChars_ba4f3 12 = .ok (.istore 6, 2) := dqo_54 6 (kb_J6_getChars_ba4f3_0 12 rfl) (kb_J6_getChars_ba4f3_0 13 rfl)
theorem dJ6_getChars_ba4f3_14 : decode cJ6_getChars_ba4f3 14 = .ok (.iload 6, 2) := dqo_21 6 (kb_J6_getChars_ba4f3_0 14 rfl) (kb_J6_getChars_ba4f3_0 15 rfl)
theorem dJ6_getChars_ba4f3_16 : decode cJ6_getChars_ba4f3 16 = .ok (.ifCond .ne 6, 3) := dqo_154 0 6 (by decide) (kb_J6_getChars_ba4f3_0 16 rfl) (kb_J6_getChars_ba4f3_0 17 rfl) (kb_J6_getChars_ba4f3_0 18 rfl)
theorem dJ6_getChars_ba4f3_19 : decode cJ6_getChars_ba4f3 19 = .ok (.iload_n 0, 1) := dqo_26 (kb_J6_getChars_ba4f3_0 19 rfl)
theorem dJ6_getChars_ba4f3_20 : decode cJ6_getChars_ba4f3 20 = .ok (.ineg, 1) := dqo_116 (kb_J6_getChars_ba4f3_0 20 rfl)
theorem dJ6_getChars_ba4f3_21 : decode cJ6_getChars_ba4f3 21 = .ok (.istore_n 0, 1) := dqo_59 (kb_J6_getChars_ba4f3_0 21 rfl)
theorem dJ6_getChars_ba4f3_22 : decode cJ6_getChars_ba4f3 22 = .ok (.iload_n 0, 1) := dqo_26 (kb_J6_getChars_ba4f3_0 22 rfl)
theorem dJ6_getChars_ba4f3_23 : decode cJ6_getChars_ba4f3 23 = .ok (.bipush (-100), 2) := dqo_16 156 (by decide) (kb_J6_getChars_ba4f3_0 23 rfl) (kb_J6_getChars_ba4f3_0 24 rfl)
theorem dJ6_getChars_ba4f3_25 : decode cJ6_getChars_ba4f3 25 = .ok (.if_icmp .gt 47, 3) := dqo_163 0 47 (by decide) (kb_J6_getChars_ba4f3_0 25 rfl) (kb_J6_getChars_ba4f3_0 26 rfl) (kb_J6_getChars_ba4f3_0 27 rfl)
theorem dJ6_getChars_ba4f3_72 : decode cJ6_getChars_ba4f3 72 = .ok (.aload_n 2, 1) := dqo_44 (kb_J6_getChars_ba4f3_1 8 rfl)
theorem dJ6_getChars_ba4f3_73 : decode cJ6_getChars_ba4f3 73 = .ok (.iinc 5 (-1), 3) := dqo_132 5 255 (by decide) (kb_J6_getChars_ba4f3_1 9 rfl) (kb_J6_getChars_ba4f3_1 10 rfl) (kb_J6_getChars_ba4f3_1 11 rfl)
theorem dJ6_getChars_ba4f3_76 : decode cJ6_getChars_ba4f3 76 = .ok (.iload 5, 2) := dqo_21 5 (kb_J6_getChars_ba4f3_1 12 rfl) (kb_J6_getChars_ba4f3_1 13 rfl)
theorem dJ6_getChars_ba4f3_78 : decode cJ6_getChars_ba4f3 78 = .ok (.getstatic 83, 3) := dqo_178 0 83 (kb_J6_getChars_ba4f3_1 14 rfl) (kb_J6_getChars_ba4f3_1 15 rfl) (kb_J6_getChars_ba4f3_1 16 rfl)
theorem dJ6_getChars_ba4f3_81 : decode cJ6_getChars_ba4f3 81 = .ok (.iload_n 0, 1) := dqo_26 (kb_J6_getChars_ba4f3_1 17 rfl)
theorem dJ6_getChars_ba4f3_82 : decode cJ6_getChars_ba4f3 82 = .ok (.ineg, 1) := dqo_116 (kb_J6_getChars_ba4f3_1 18 rfl)
theorem dJ6_getChars_ba4f3_83 : decode cJ6_getChars_ba4f3 83 = .ok (.baload, 1) := dqo_51 (kb_J6_getChars_ba4f3_1 19 rfl)
theorem dJ6_getChars_ba4f3_84 : decode cJ6_getChars_ba4f3 84 = .ok (.bastore, 1) := dqo_84 (kb_J6_getChars_ba4f3_1 20 rfl)
theorem dJ6_getChars_ba4f3_85 : decode cJ6_getChars_ba4f3 85 = .ok (.iload_n 0, 1) := dqo_26 (kb_J6_getChars_ba4f3_1 21 rfl)
theorem dJ6_getChars_ba4f3_86 : decode cJ6_getChars_ba4f3 86 = .ok (.bipush (-9), 2) := dqo_16 247 (by decide) (kb_J6_getChars_ba4f3_1 22 rfl) (kb_J6_getChars_ba4f3_1 23 rfl)
theorem dJ6_getChars_ba4f3_88 : decode cJ6_getChars_ba4f3 88 = .ok (.if_icmp .ge 16, 3) := dqo_162 0 16 (by decide) (kb_J6_getChars_ba4f3_1 24 rfl) (kb_J6_getChars_ba4f3_1 25 rfl) (kb_J6_getChars_ba4f3_1 26 rfl)
theorem dJ6_getChars_ba4f3_104 : decode cJ6_getChars_ba4f3 104 = .ok (.iload 6, 2) := dqo_21 6 (kb_J6_getChars_ba4f3_1 40 rfl) (kb_J6_getChars_ba4f3_1 41 rfl)
theorem dJ6_getChars_ba4f3_106 : decode cJ6_getChars_ba4f3 106 = .ok (.ifCond .eq 12, 3) := dqo_153 0 12 (by decide) (kb_J6_getChars_ba4f3_1 42 rfl) (kb_J6_getChars_ba4f3_1 43 rfl) (kb_J6_getChars_ba4f3_1 44 rfl)
theorem dJ6_getChars_ba4f3_118 : decode cJ6_getChars_ba4f3 118 = .ok (.iload 5, 2) := dqo_21 5 (kb_J6_getChars_ba4f3_1 54 rfl) (kb_J6_getChars_ba4f3_1 55 rfl)
theorem dJ6_getChars_ba4f3_120 : decode cJ6_getChars_ba4f3 120 = .ok (.ireturn, 1) := dqo_172 (kb_J6_getChars_ba4f3_1 56 rfl)
set_option maxRecDepth 100000 in
set_option maxHeartbeats 400000 in
theorem C_chars_p1 {l : Launch} {D : va_G} {cy : Nat → ClassId} {X : (Nat → Prop) → State → Heap → Prop} {aK aV : Nat → Nat} {tO tT : Nat} {gO gT : Nat → Int32} {U E : va_W} {x : Int32} {k : Nat} {ix : Nat} {v : Nat} {m : Nat} {g : Nat → Int32} (hX : EnvS X cy aK aV tO tT gO gT) (hx : x = nI k) (hk : k < 10) (hix : 1 ≤ ix) (him : ix ≤ m) (hm : m < 536870912) (hf : sb_Fit g) : Cm l D cy X yJ6_getChars_ba4f3 cJ6_getChars_ba4f3 7 (some .int) (rmz 0 0) [.int x, .int (nI ix), .ref v] (U ++ (BYO cy v m g :: E)) (fun v1 w1 => ∃ g9 : Nat → Int32, (sb_Fit g9) ∧ v1 = some (.int (nI (ix - 1))) ∧ w1 = U ++ (BYO cy v m g9 :: E)) (fun _ => False) := by
  subst hx
  refine Cm.ofF [some (.int (nI k)), some (.int (nI ix)), some (.ref v), none, none, none, none] (plainFor_of_name pn_J6) rfl (Nat.le_of_ble_eq_true rfl) ?_
  intro p e s mI args below meth c A C hE hr hnt hn
  refine r_iload_n C dJ6_getChars_ba4f3_0 rfl ?_
  refine r_istore C dJ6_getChars_ba4f3_1 (by decide) rfl ?_
  refine r_iload_n C dJ6_getChars_ba4f3_3 rfl ?_
  refine r_ifN_ge (a := k) (tgt := 11) C (by first | omega | (simp [up2, *]; done) | (simp [up2, *]; omega) | (simp only [up2_eq]; omega) | (split <;> omega)) dJ6_getChars_ba4f3_4 (by decide) (fun h4_1 => ?_) (fun h4_1 => ?_)
  · skip
    refine r_iconst (v := (nI 0)) C dJ6_getChars_ba4f3_11 (by decide) ?_
    refine r_istore C dJ6_getChars_ba4f3_12 (by decide) rfl ?_
    refine r_iload C dJ6_getChars_ba4f3_14 rfl ?_
    refine r_ifN_ne (a := 0) (tgt := 22) C (by first | omega | (simp [up2, *]; done) | (simp [up2, *]; omega) | (simp only [up2_eq]; omega) | (split <;> omega)) dJ6_getChars_ba4f3_16 (by decide) (fun h16_2 => ?_) (fun h16_2 => ?_)
    · exact absurd h16_2 (by first | omega | (simp [up2, *]; done) | (simp [up2, *]; omega) | (simp only [up2_eq]; omega) | (split <;> omega))
    · skip
      refine r_iload_n C dJ6_getChars_ba4f3_19 rfl ?_
      refine r_ineg C dJ6_getChars_ba4f3_20 ?_
      refine r_istore_n C dJ6_getChars_ba4f3_21 (by decide) rfl ?_
      refine r_iload_n C dJ6_getChars_ba4f3_22 rfl ?_
      refine r_bipush (v := (-100)) C dJ6_getChars_ba4f3_23 (by decide) ?_
      refine r_ic_gt (tgt := 72) C dJ6_getChars_ba4f3_25 (by decide) (fun h25_3 => ?_) (fun h25_3 => ?_)
      · skip
        refine r_aload_n C dJ6_getChars_ba4f3_72 rfl ?_
        refine r_idecP C dJ6_getChars_ba4f3_73 rfl (by first | omega | (simp [up2, *]; done) | (simp [up2, *]; omega) | (simp only [up2_eq]; omega) | (split <;> omega)) (by decide) rfl ?_
        refine r_iload C dJ6_getChars_ba4f3_76 rfl ?_
        refine j_do hX C hE qf_J6_83 dJ6_getChars_ba4f3_78 ?_
        refine r_iload_n C dJ6_getChars_ba4f3_81 rfl ?_
        refine r_ineg C dJ6_getChars_ba4f3_82 ?_
        refine r_eqi (y := nI k) (Int32.neg_neg) ?_
        refine j_dol hX C hE (by first | omega | (simp [up2, *]; done) | (simp [up2, *]; omega) | (simp only [up2_eq]; omega) | (split <;> omega)) dJ6_getChars_ba4f3_83 ?_
        refine t_bst C 0 rfl (by first | omega | (simp [up2, *]; done) | (simp [up2, *]; omega) | (simp only [up2_eq]; omega) | (split <;> omega)) (by first | omega | (simp [up2, *]; done) | (simp [up2, *]; omega) | (simp only [up2_eq]; omega) | (split <;> omega)) dJ6_getChars_ba4f3_84 rfl ?_
        refine r_iload_n C dJ6_getChars_ba4f3_85 rfl ?_
        refine r_bipush (v := (-9)) C dJ6_getChars_ba4f3_86 (by decide) ?_
        refine r_ic_ge (tgt := 104) C dJ6_getChars_ba4f3_88 (by decide) (fun h88_4 => ?_) (fun h88_4 => ?_)
        · skip
          refine r_iload C dJ6_getChars_ba4f3_104 rfl ?_
          refine r_ifN_eq (a := 0) (tgt := 118) C (by first | omega | (simp [up2, *]; done) | (simp [up2, *]; omega) | (simp only [up2_eq]; omega) | (split <;> omega)) dJ6_getChars_ba4f3_106 (by decide) (fun h106_5 => ?_) (fun h106_5 => ?_)
          · skip
            refine r_iload C dJ6_getChars_ba4f3_118 rfl ?_
            exact r_iret C hr dJ6_getChars_ba4f3_120 ⟨_, bf_up (hf), (by first | rfl | simp only [Nat.sub_sub]), rfl⟩ (by first | (simp only [rmk, rmz]; omega) | (simp only [rmk, rmz]; done) | omega) (by first | (simp only [rmk, rmz]; omega) | (simp only [rmk, rmz]; done) | omega)
          · exact absurd h106_5 (by first | omega | (simp [up2, *]; done) | (simp [up2, *]; omega) | (simp only [up2_eq]; omega) | (split <;> omega))
        · exact absurd ((nk_ge9 (by omega)).mpr (by omega)) h88_4
      · exact absurd ((nk_gt100 (by omega)).mpr (by omega)) h25_3
  · exact absurd h4_1 (by first | omega | (simp [up2, *]; done) | (simp [up2, *]; omega) | (simp only [up2_eq]; omega) | (split <;> omega))
theorem dJ6_stringSize_0f7a4_31 : decode cJ6_stringSize_0f7a4 31 = .ok (.bipush 10, 2) := dqo_16 10 (by decide) (kb_of ke_J6_stringSize_0f7a4 31 rfl) (kb_of ke_J6_stringSize_0f7a4 32 rfl)
theorem dJ6_stringSize_0f7a4_33 : decode cJ6_stringSize_0f7a4 33 = .ok (.iload_n 2, 1) := dqo_28 (kb_of ke_J6_stringSize_0f7a4 33 rfl)
theorem dJ6_stringSize_0f7a4_34 : decode cJ6_stringSize_0f7a4 34 = .ok (.imul, 1) := dqo_104 (kb_of ke_J6_stringSize_0f7a4 34 rfl)
theorem dJ6_stringSize_0f7a4_35 : decode cJ6_stringSize_0f7a4 35 = .ok (.istore_n 2, 1) := dqo_61 (kb_of ke_J6_stringSize_0f7a4 35 rfl)
theorem dJ6_stringSize_0f7a4_36 : decode cJ6_stringSize_0f7a4 36 = .ok (.iinc 3 1, 3) := dqo_132 3 1 (by decide) (kb_of ke_J6_stringSize_0f7a4 36 rfl) (kb_of ke_J6_stringSize_0f7a4 37 rfl) (kb_of ke_J6_stringSize_0f7a4 38 rfl)
theorem dJ6_stringSize_0f7a4_39 : decode cJ6_stringSize_0f7a4 39 = .ok (.goto (-23), 3) := dqo_167 255 233 (by decide) (kb_of ke_J6_stringSize_0f7a4 39 rfl) (kb_of ke_J6_stringSize_0f7a4 40 rfl) (kb_of ke_J6_stringSize_0f7a4 41 rfl)
set_option maxRecDepth 100000 in
set_option maxHeartbeats 400000 in
theorem C_size_p2 {l : Launch} {D : va_G} {cy : Nat → ClassId} {X : (Nat → Prop) → State → Heap → Prop} {w : va_W} {x : Int32} {k : Nat}  (hx : x = nI k) (hk0 : 10 ≤ k) (hk : k < 100) : Cm l D cy X yJ6_stringSize_0f7a4 cJ6_stringSize_0f7a4 4 (some .int) (rmz 0 0) [.int x] (w) (fun v1 w1 => v1 = some (.int (nI 2)) ∧ w1 = w) (fun _ => False) := by
  subst hx
  refine Cm.ofF [some (.int (nI k)), none, none, none] (plainFor_of_name pn_J6) rfl (Nat.le_of_ble_eq_true rfl) ?_
  intro p e s mI args below meth c A C hE hr hnt hn
  refine r_iconst (v := (nI 1)) C dJ6_stringSize_0f7a4_0 (by decide) ?_
  refine r_istore_n C dJ6_stringSize_0f7a4_1 (by decide) rfl ?_
  refine r_iload_n C dJ6_stringSize_0f7a4_2 rfl ?_
  refine r_ifN_lt (a := k) (tgt := 11) C (by first | omega | (simp [up2, *]; done) | (simp [up2, *]; omega) | (simp only [up2_eq]; omega) | (split <;> omega)) dJ6_stringSize_0f7a4_3 (by decide) (fun h3_1 => ?_) (fun h3_1 => ?_)
  · exact absurd h3_1 (by first | omega | (simp [up2, *]; done) | (simp [up2, *]; omega) | (simp only [up2_eq]; omega) | (split <;> omega))
  · skip
    refine r_iconst (v := (nI 0)) C dJ6_stringSize_0f7a4_6 (by decide) ?_
    refine r_istore_n C dJ6_stringSize_0f7a4_7 (by decide) rfl ?_
    refine r_iload_n C dJ6_stringSize_0f7a4_8 rfl ?_
    refine r_ineg C dJ6_stringSize_0f7a4_9 ?_
    refine r_istore_n C dJ6_stringSize_0f7a4_10 (by decide) rfl ?_
    refine r_bipush (v := (-10)) C dJ6_stringSize_0f7a4_11 (by decide) ?_
    refine r_istore_n C dJ6_stringSize_0f7a4_13 (by decide) rfl ?_
    refine r_iconst (v := (nI 1)) C dJ6_stringSize_0f7a4_14 (by decide) ?_
    refine r_istore_n C dJ6_stringSize_0f7a4_15 (by decide) rfl ?_
    refine r_iload_n C dJ6_stringSize_0f7a4_16 rfl ?_
    refine r_bipush (v := (nI 10)) C dJ6_stringSize_0f7a4_17 (by decide) ?_
    refine r_icN_ge (a := 1) (b := 10) (tgt := 42) C (by first | omega | (simp [up2, *]; done) | (simp [up2, *]; omega) | (simp only [up2_eq]; omega) | (split <;> omega)) (by first | omega | (simp [up2, *]; done) | (simp [up2, *]; omega) | (simp only [up2_eq]; omega) | (split <;> omega)) dJ6_stringSize_0f7a4_19 (by decide) (fun h19_2 => ?_) (fun h19_2 => ?_)
    · exact absurd h19_2 (by first | omega | (simp [up2, *]; done) | (simp [up2, *]; omega) | (simp only [up2_eq]; omega) | (split <;> omega))
    · skip
      refine r_iload_n C dJ6_stringSize_0f7a4_22 rfl ?_
      refine r_iload_n C dJ6_stringSize_0f7a4_23 rfl ?_
      refine r_ic_le (tgt := 31) C dJ6_stringSize_0f7a4_24 (by decide) (fun h24_3 => ?_) (fun h24_3 => ?_)
      · skip
        refine r_bipush (v := (nI 10)) C dJ6_stringSize_0f7a4_31 (by decide) ?_
        refine r_iload_n C dJ6_stringSize_0f7a4_33 rfl ?_
        refine r_imul C dJ6_stringSize_0f7a4_34 ?_
        refine r_istore_n C dJ6_stringSize_0f7a4_35 (by decide) rfl ?_
        refine r_iincN C dJ6_stringSize_0f7a4_36 rfl (by decide) rfl ?_
        refine r_goto (tgt := 16) C dJ6_stringSize_0f7a4_39 (by decide) ?_
        refine r_iload_n C dJ6_stringSize_0f7a4_16 rfl ?_
        refine r_bipush (v := (nI 10)) C dJ6_stringSize_0f7a4_17 (by decide) ?_
        refine r_icN_ge (a := (1 + 1)) (b := 10) (tgt := 42) C (by first | omega | (simp [up2, *]; done) | (simp [up2, *]; omega) | (simp only [up2_eq]; omega) | (split <;> omega)) (by first | omega | (simp [up2, *]; done) | (simp [up2, *]; omega) | (simp only [up2_eq]; omega) | (split <;> omega)) dJ6_stringSize_0f7a4_19 (by decide) (fun h19_4 => ?_) (fun h19_4 => ?_)
        · exact absurd h19_4 (by first | omega | (simp [up2, *]; done) | (simp [up2, *]; omega) | (simp only [up2_eq]; omega) | (split <;> omega))
        · skip
          refine r_iload_n C dJ6_stringSize_0f7a4_22 rfl ?_
          refine r_iload_n C dJ6_stringSize_0f7a4_23 rfl ?_
          refine r_ic_le (tgt := 31) C dJ6_stringSize_0f7a4_24 (by decide) (fun h24_5 => ?_) (fun h24_5 => ?_)
          · exact absurd ((nk_le2 (by omega)).mp h24_5) (by omega)
          · skip
            refine r_iload_n C dJ6_stringSize_0f7a4_27 rfl ?_
            refine r_iload_n C dJ6_stringSize_0f7a4_28 rfl ?_
            refine r_iaddN C dJ6_stringSize_0f7a4_29 ?_
            exact r_iret C hr dJ6_stringSize_0f7a4_30 ⟨rfl, rfl⟩ (by first | (simp only [rmk, rmz]; omega) | (simp only [rmk, rmz]; done) | omega) (by first | (simp only [rmk, rmz]; omega) | (simp only [rmk, rmz]; done) | omega)
      · exact absurd ((nk_le (by omega)).mpr (by omega)) h24_3
theorem dJ6_getChars_ba4f3_91 : decode cJ6_getChars_ba4f3 91 = .ok (.aload_n 2, 1) := dqo_44 (kb_J6_getChars_ba4f3_1 27 rfl)
theorem dJ6_getChars_ba4f3_92 : decode cJ6_getChars_ba4f3 92 = .ok (.iinc 5 (-1), 3) := dqo_132 5 255 (by decide) (kb_J6_getChars_ba4f3_1 28 rfl) (kb_J6_getChars_ba4f3_1 29 rfl) (kb_J6_getChars_ba4f3_1 30 rfl)
theorem dJ6_getChars_ba4f3_95 : decode cJ6_getChars_ba4f3 95 = .ok (.iload 5, 2) := dqo_21 5 (kb_J6_getChars_ba4f3_1 31 rfl) (kb_J6_getChars_ba4f3_1 32 rfl)
theorem dJ6_getChars_ba4f3_97 : decode cJ6_getChars_ba4f3 97 = .ok (.getstatic 87, 3) := dqo_178 0 87 (kb_J6_getChars_ba4f3_1 33 rfl) (kb_J6_getChars_ba4f3_1 34 rfl) (kb_J6_getChars_ba4f3_1 35 rfl)
theorem dJ6_getChars_ba4f3_100 : decode cJ6_getChars_ba4f3 100 = .ok (.iload_n 0, 1) := dqo_26 (kb_J6_getChars_ba4f3_1 36 rfl)
theorem dJ6_getChars_ba4f3_101 : decode cJ6_getChars_ba4f3 101 = .ok (.ineg, 1) := dqo_116 (kb_J6_getChars_ba4f3_1 37 rfl)
theorem dJ6_getChars_ba4f3_102 : decode cJ6_getChars_ba4f3 102 = .ok (.baload, 1) := dqo_51 (kb_J6_getChars_ba4f3_1 38 rfl)
theorem dJ6_getChars_ba4f3_103 : decode cJ6_getChars_ba4f3 103 = .ok (.bastore, 1) := dqo_84 (kb_J6_getChars_ba4f3_1 39 rfl)
set_option maxRecDepth 100000 in
set_option maxHeartbeats 400000 in
theorem C_chars_p2 {l : Launch} {D : va_G} {cy : Nat → ClassId} {X : (Nat → Prop) → State → Heap → Prop} {aK aV : Nat → Nat} {tO tT : Nat} {gO gT : Nat → Int32} {U E : va_W} {x : Int32} {k : Nat} {ix : Nat} {v : Nat} {m : Nat} {g : Nat → Int32} (hX : EnvS X cy aK aV tO tT gO gT) (hx : x = nI k) (hk0 : 10 ≤ k) (hk : k < 100) (hix : 2 ≤ ix) (him : ix ≤ m) (hm : m < 536870912) (hf : sb_Fit g) : Cm l D cy X yJ6_getChars_ba4f3 cJ6_getChars_ba4f3 7 (some .int) (rmz 0 0) [.int x, .int (nI ix), .ref v] (U ++ (BYO cy v m g :: E)) (fun v1 w1 => ∃ g9 : Nat → Int32, (sb_Fit g9) ∧ v1 = some (.int (nI (ix - 2))) ∧ w1 = U ++ (BYO cy v m g9 :: E)) (fun _ => False) := by
  subst hx
  refine Cm.ofF [some (.int (nI k)), some (.int (nI ix)), some (.ref v), none, none, none, none] (plainFor_of_name pn_J6) rfl (Nat.le_of_ble_eq_true rfl) ?_
  intro p e s mI args below meth c A C hE hr hnt hn
  refine r_iload_n C dJ6_getChars_ba4f3_0 rfl ?_
  refine r_istore C dJ6_getChars_ba4f3_1 (by decide) rfl ?_
  refine r_iload_n C dJ6_getChars_ba4f3_3 rfl ?_
  refine r_ifN_ge (a := k) (tgt := 11) C (by first | omega | (simp [up2, *]; done) | (simp [up2, *]; omega) | (simp only [up2_eq]; omega) | (split <;> omega)) dJ6_getChars_ba4f3_4 (by decide) (fun h4_1 => ?_) (fun h4_1 => ?_)
  · skip
    refine r_iconst (v := (nI 0)) C dJ6_getChars_ba4f3_11 (by decide) ?_
    refine r_istore C dJ6_getChars_ba4f3_12 (by decide) rfl ?_
    refine r_iload C dJ6_getChars_ba4f3_14 rfl ?_
    refine r_ifN_ne (a := 0) (tgt := 22) C (by first | omega | (simp [up2, *]; done) | (simp [up2, *]; omega) | (simp only [up2_eq]; omega) | (split <;> omega)) dJ6_getChars_ba4f3_16 (by decide) (fun h16_2 => ?_) (fun h16_2 => ?_)
    · exact absurd h16_2 (by first | omega | (simp [up2, *]; done) | (simp [up2, *]; omega) | (simp only [up2_eq]; omega) | (split <;> omega))
    · skip
      refine r_iload_n C dJ6_getChars_ba4f3_19 rfl ?_
      refine r_ineg C dJ6_getChars_ba4f3_20 ?_
      refine r_istore_n C dJ6_getChars_ba4f3_21 (by decide) rfl ?_
      refine r_iload_n C dJ6_getChars_ba4f3_22 rfl ?_
      refine r_bipush (v := (-100)) C dJ6_getChars_ba4f3_23 (by decide) ?_
      refine r_ic_gt (tgt := 72) C dJ6_getChars_ba4f3_25 (by decide) (fun h25_3 => ?_) (fun h25_3 => ?_)
      · skip
        refine r_aload_n C dJ6_getChars_ba4f3_72 rfl ?_
        refine r_idecP C dJ6_getChars_ba4f3_73 rfl (by first | omega | (simp [up2, *]; done) | (simp [up2, *]; omega) | (simp only [up2_eq]; omega) | (split <;> omega)) (by decide) rfl ?_
        refine r_iload C dJ6_getChars_ba4f3_76 rfl ?_
        refine j_do hX C hE qf_J6_83 dJ6_getChars_ba4f3_78 ?_
        refine r_iload_n C dJ6_getChars_ba4f3_81 rfl ?_
        refine r_ineg C dJ6_getChars_ba4f3_82 ?_
        refine r_eqi (y := nI k) (Int32.neg_neg) ?_
        refine j_dol hX C hE (by first | omega | (simp [up2, *]; done) | (simp [up2, *]; omega) | (simp only [up2_eq]; omega) | (split <;> omega)) dJ6_getChars_ba4f3_83 ?_
        refine t_bst C 0 rfl (by first | omega | (simp [up2, *]; done) | (simp [up2, *]; omega) | (simp only [up2_eq]; omega) | (split <;> omega)) (by first | omega | (simp [up2, *]; done) | (simp [up2, *]; omega) | (simp only [up2_eq]; omega) | (split <;> omega)) dJ6_getChars_ba4f3_84 rfl ?_
        refine r_iload_n C dJ6_getChars_ba4f3_85 rfl ?_
        refine r_bipush (v := (-9)) C dJ6_getChars_ba4f3_86 (by decide) ?_
        refine r_ic_ge (tgt := 104) C dJ6_getChars_ba4f3_88 (by decide) (fun h88_4 => ?_) (fun h88_4 => ?_)
        · exact absurd ((nk_ge9 (by omega)).mp h88_4) (by omega)
        · skip
          refine r_aload_n C dJ6_getChars_ba4f3_91 rfl ?_
          refine r_idecP C dJ6_getChars_ba4f3_92 rfl (by first | omega | (simp [up2, *]; done) | (simp [up2, *]; omega) | (simp only [up2_eq]; omega) | (split <;> omega)) (by decide) rfl ?_
          refine r_iload C dJ6_getChars_ba4f3_95 rfl ?_
          refine j_dt hX C hE qf_J6_87 dJ6_getChars_ba4f3_97 ?_
          refine r_iload_n C dJ6_getChars_ba4f3_100 rfl ?_
          refine r_ineg C dJ6_getChars_ba4f3_101 ?_
          refine r_eqi (y := nI k) (Int32.neg_neg) ?_
          refine j_dtl hX C hE (by first | omega | (simp [up2, *]; done) | (simp [up2, *]; omega) | (simp only [up2_eq]; omega) | (split <;> omega)) dJ6_getChars_ba4f3_102 ?_
          refine t_bst C 0 rfl (by first | omega | (simp [up2, *]; done) | (simp [up2, *]; omega) | (simp only [up2_eq]; omega) | (split <;> omega)) (by first | omega | (simp [up2, *]; done) | (simp [up2, *]; omega) | (simp only [up2_eq]; omega) | (split <;> omega)) dJ6_getChars_ba4f3_103 rfl ?_
          refine r_iload C dJ6_getChars_ba4f3_104 rfl ?_
          refine r_ifN_eq (a := 0) (tgt := 118) C (by first | omega | (simp [up2, *]; done) | (simp [up2, *]; omega) | (simp only [up2_eq]; omega) | (split <;> omega)) dJ6_getChars_ba4f3_106 (by decide) (fun h106_5 => ?_) (fun h106_5 => ?_)
          · skip
            refine r_iload C dJ6_getChars_ba4f3_118 rfl ?_
            exact r_iret C hr dJ6_getChars_ba4f3_120 ⟨_, bf_up (bf_up (hf)), (by first | rfl | simp only [Nat.sub_sub]), rfl⟩ (by first | (simp only [rmk, rmz]; omega) | (simp only [rmk, rmz]; done) | omega) (by first | (simp only [rmk, rmz]; omega) | (simp only [rmk, rmz]; done) | omega)
          · exact absurd h106_5 (by first | omega | (simp [up2, *]; done) | (simp [up2, *]; omega) | (simp only [up2_eq]; omega) | (split <;> omega))
      · exact absurd ((nk_gt100 (by omega)).mpr (by omega)) h25_3
  · exact absurd h4_1 (by first | omega | (simp [up2, *]; done) | (simp [up2, *]; omega) | (simp only [up2_eq]; omega) | (split <;> omega))
set_option maxRecDepth 100000 in
set_option maxHeartbeats 400000 in
theorem C_size_n1 {l : Launch} {D : va_G} {cy : Nat → ClassId} {X : (Nat → Prop) → State → Heap → Prop} {w : va_W} {x : Int32} {k : Nat}  (hx : x = -(nI k)) (hk0 : 0 < k) (hk : k < 10) : Cm l D cy X yJ6_stringSize_0f7a4 cJ6_stringSize_0f7a4 4 (some .int) (rmz 0 0) [.int x] (w) (fun v1 w1 => v1 = some (.int (nI 2)) ∧ w1 = w) (fun _ => False) := by
  subst hx
  refine Cm.ofF [some (.int (-(nI k))), none, none, none] (plainFor_of_name pn_J6) rfl (Nat.le_of_ble_eq_true rfl) ?_
  intro p e s mI args below meth c A C hE hr hnt hn
  refine r_iconst (v := (nI 1)) C dJ6_stringSize_0f7a4_0 (by decide) ?_
  refine r_istore_n C dJ6_stringSize_0f7a4_1 (by decide) rfl ?_
  refine r_iload_n C dJ6_stringSize_0f7a4_2 rfl ?_
  refine r_if_lt (tgt := 11) C dJ6_stringSize_0f7a4_3 (by decide) (fun h3_1 => ?_) (fun h3_1 => ?_)
  · skip
    refine r_bipush (v := (-10)) C dJ6_stringSize_0f7a4_11 (by decide) ?_
    refine r_istore_n C dJ6_stringSize_0f7a4_13 (by decide) rfl ?_
    refine r_iconst (v := (nI 1)) C dJ6_stringSize_0f7a4_14 (by decide) ?_
    refine r_istore_n C dJ6_stringSize_0f7a4_15 (by decide) rfl ?_
    refine r_iload_n C dJ6_stringSize_0f7a4_16 rfl ?_
    refine r_bipush (v := (nI 10)) C dJ6_stringSize_0f7a4_17 (by decide) ?_
    refine r_icN_ge (a := 1) (b := 10) (tgt := 42) C (by first | omega | (simp [up2, *]; done) | (simp [up2, *]; omega) | (simp only [up2_eq]; omega) | (split <;> omega)) (by first | omega | (simp [up2, *]; done) | (simp [up2, *]; omega) | (simp only [up2_eq]; omega) | (split <;> omega)) dJ6_stringSize_0f7a4_19 (by decide) (fun h19_2 => ?_) (fun h19_2 => ?_)
    · exact absurd h19_2 (by first | omega | (simp [up2, *]; done) | (simp [up2, *]; omega) | (simp only [up2_eq]; omega) | (split <;> omega))
    · skip
      refine r_iload_n C dJ6_stringSize_0f7a4_22 rfl ?_
      refine r_iload_n C dJ6_stringSize_0f7a4_23 rfl ?_
      refine r_ic_le (tgt := 31) C dJ6_stringSize_0f7a4_24 (by decide) (fun h24_3 => ?_) (fun h24_3 => ?_)
      · exact absurd ((nk_le (by omega)).mp h24_3) (by omega)
      · skip
        refine r_iload_n C dJ6_stringSize_0f7a4_27 rfl ?_
        refine r_iload_n C dJ6_stringSize_0f7a4_28 rfl ?_
        refine r_iaddN C dJ6_stringSize_0f7a4_29 ?_
        exact r_iret C hr dJ6_stringSize_0f7a4_30 ⟨rfl, rfl⟩ (by first | (simp only [rmk, rmz]; omega) | (simp only [rmk, rmz]; done) | omega) (by first | (simp only [rmk, rmz]; omega) | (simp only [rmk, rmz]; done) | omega)
  · exact absurd ((nk_lt0 (by omega)).mpr (by omega)) h3_1
theorem dJ6_getChars_ba4f3_7 : decode cJ6_getChars_ba4f3 7 = .ok (.iconst 1, 1) := dqo_4 (kb_J6_getChars_ba4f3_0 7 rfl)
theorem dJ6_getChars_ba4f3_8 : decode cJ6_getChars_ba4f3 8 = .ok (.goto 4, 3) := dqo_167 0 4 (by decide) (kb_J6_getChars_ba4f3_0 8 rfl) (kb_J6_getChars_ba4f3_0 9 rfl) (kb_J6_getChars_ba4f3_0 10 rfl)
theorem dJ6_getChars_ba4f3_109 : decode cJ6_getChars_ba4f3 109 = .ok (.aload_n 2, 1) := dqo_44 (kb_J6_getChars_ba4f3_1 45 rfl)
theorem dJ6_getChars_ba4f3_110 : decode cJ6_getChars_ba4f3 110 = .ok (.iinc 5 (-1), 3) := dqo_132 5 255 (by decide) (kb_J6_getChars_ba4f3_1 46 rfl) (kb_J6_getChars_ba4f3_1 47 rfl) (kb_J6_getChars_ba4f3_1 48 rfl)
theorem dJ6_getChars_ba4f3_113 : decode cJ6_getChars_ba4f3 113 = .ok (.iload 5, 2) := dqo_21 5 (kb_J6_getChars_ba4f3_1 49 rfl) (kb_J6_getChars_ba4f3_1 50 rfl)
theorem dJ6_getChars_ba4f3_115 : decode cJ6_getChars_ba4f3 115 = .ok (.bipush 45, 2) := dqo_16 45 (by decide) (kb_J6_getChars_ba4f3_1 51 rfl) (kb_J6_getChars_ba4f3_1 52 rfl)
theorem dJ6_getChars_ba4f3_117 : decode cJ6_getChars_ba4f3 117 = .ok (.bastore, 1) := dqo_84 (kb_J6_getChars_ba4f3_1 53 rfl)
set_option maxRecDepth 100000 in
set_option maxHeartbeats 400000 in
theorem C_chars_n1 {l : Launch} {D : va_G} {cy : Nat → ClassId} {X : (Nat → Prop) → State → Heap → Prop} {aK aV : Nat → Nat} {tO tT : Nat} {gO gT : Nat → Int32} {U E : va_W} {x : Int32} {k : Nat} {ix : Nat} {v : Nat} {m : Nat} {g : Nat → Int32} (hX : EnvS X cy aK aV tO tT gO gT) (hx : x = -(nI k)) (hk0 : 0 < k) (hk : k < 10) (hix : 2 ≤ ix) (him : ix ≤ m) (hm : m < 536870912) (hf : sb_Fit g) : Cm l D cy X yJ6_getChars_ba4f3 cJ6_getChars_ba4f3 7 (some .int) (rmz 0 0) [.int x, .int (nI ix), .ref v] (U ++ (BYO cy v m g :: E)) (fun v1 w1 => ∃ g9 : Nat → Int32, (sb_Fit g9) ∧ v1 = some (.int (nI (ix - 2))) ∧ w1 = U ++ (BYO cy v m g9 :: E)) (fun _ => False) := by
  subst hx
  refine Cm.ofF [some (.int (-(nI k))), some (.int (nI ix)), some (.ref v), none, none, none, none] (plainFor_of_name pn_J6) rfl (Nat.le_of_ble_eq_true rfl) ?_
  intro p e s mI args below meth c A C hE hr hnt hn
  refine r_iload_n C dJ6_getChars_ba4f3_0 rfl ?_
  refine r_istore C dJ6_getChars_ba4f3_1 (by decide) rfl ?_
  refine r_iload_n C dJ6_getChars_ba4f3_3 rfl ?_
  refine r_if_ge (tgt := 11) C dJ6_getChars_ba4f3_4 (by decide) (fun h4_1 => ?_) (fun h4_1 => ?_)
  · exact absurd ((nk_ge0 (by omega)).mp h4_1) (by omega)
  · skip
    refine r_iconst (v := (nI 1)) C dJ6_getChars_ba4f3_7 (by decide) ?_
    refine r_goto (tgt := 12) C dJ6_getChars_ba4f3_8 (by decide) ?_
    refine r_istore C dJ6_getChars_ba4f3_12 (by decide) rfl ?_
    refine r_iload C dJ6_getChars_ba4f3_14 rfl ?_
    refine r_ifN_ne (a := 1) (tgt := 22) C (by first | omega | (simp [up2, *]; done) | (simp [up2, *]; omega) | (simp only [up2_eq]; omega) | (split <;> omega)) dJ6_getChars_ba4f3_16 (by decide) (fun h16_2 => ?_) (fun h16_2 => ?_)
    · skip
      refine r_iload_n C dJ6_getChars_ba4f3_22 rfl ?_
      refine r_bipush (v := (-100)) C dJ6_getChars_ba4f3_23 (by decide) ?_
      refine r_ic_gt (tgt := 72) C dJ6_getChars_ba4f3_25 (by decide) (fun h25_3 => ?_) (fun h25_3 => ?_)
      · skip
        refine r_aload_n C dJ6_getChars_ba4f3_72 rfl ?_
        refine r_idecP C dJ6_getChars_ba4f3_73 rfl (by first | omega | (simp [up2, *]; done) | (simp [up2, *]; omega) | (simp only [up2_eq]; omega) | (split <;> omega)) (by decide) rfl ?_
        refine r_iload C dJ6_getChars_ba4f3_76 rfl ?_
        refine j_do hX C hE qf_J6_83 dJ6_getChars_ba4f3_78 ?_
        refine r_iload_n C dJ6_getChars_ba4f3_81 rfl ?_
        refine r_ineg C dJ6_getChars_ba4f3_82 ?_
        refine r_eqi (y := nI k) (Int32.neg_neg) ?_
        refine j_dol hX C hE (by first | omega | (simp [up2, *]; done) | (simp [up2, *]; omega) | (simp only [up2_eq]; omega) | (split <;> omega)) dJ6_getChars_ba4f3_83 ?_
        refine t_bst C 0 rfl (by first | omega | (simp [up2, *]; done) | (simp [up2, *]; omega) | (simp only [up2_eq]; omega) | (split <;> omega)) (by first | omega | (simp [up2, *]; done) | (simp [up2, *]; omega) | (simp only [up2_eq]; omega) | (split <;> omega)) dJ6_getChars_ba4f3_84 rfl ?_
        refine r_iload_n C dJ6_getChars_ba4f3_85 rfl ?_
        refine r_bipush (v := (-9)) C dJ6_getChars_ba4f3_86 (by decide) ?_
        refine r_ic_ge (tgt := 104) C dJ6_getChars_ba4f3_88 (by decide) (fun h88_4 => ?_) (fun h88_4 => ?_)
        · skip
          refine r_iload C dJ6_getChars_ba4f3_104 rfl ?_
          refine r_ifN_eq (a := 1) (tgt := 118) C (by first | omega | (simp [up2, *]; done) | (simp [up2, *]; omega) | (simp only [up2_eq]; omega) | (split <;> omega)) dJ6_getChars_ba4f3_106 (by decide) (fun h106_5 => ?_) (fun h106_5 => ?_)
          · exact absurd h106_5 (by first | omega | (simp [up2, *]; done) | (simp [up2, *]; omega) | (simp only [up2_eq]; omega) | (split <;> omega))
          · skip
            refine r_aload_n C dJ6_getChars_ba4f3_109 rfl ?_
            refine r_idecP C dJ6_getChars_ba4f3_110 rfl (by first | omega | (simp [up2, *]; done) | (simp [up2, *]; omega) | (simp only [up2_eq]; omega) | (split <;> omega)) (by decide) rfl ?_
            refine r_iload C dJ6_getChars_ba4f3_113 rfl ?_
            refine r_bipush (v := (nI 45)) C dJ6_getChars_ba4f3_115 (by decide) ?_
            refine t_bst C 0 rfl (by first | omega | (simp [up2, *]; done) | (simp [up2, *]; omega) | (simp only [up2_eq]; omega) | (split <;> omega)) (by first | omega | (simp [up2, *]; done) | (simp [up2, *]; omega) | (simp only [up2_eq]; omega) | (split <;> omega)) dJ6_getChars_ba4f3_117 rfl ?_
            refine r_iload C dJ6_getChars_ba4f3_118 rfl ?_
            exact r_iret C hr dJ6_getChars_ba4f3_120 ⟨_, bf_up (bf_up (hf)), (by first | rfl | simp only [Nat.sub_sub]), rfl⟩ (by first | (simp only [rmk, rmz]; omega) | (simp only [rmk, rmz]; done) | omega) (by first | (simp only [rmk, rmz]; omega) | (simp only [rmk, rmz]; done) | omega)
        · exact absurd ((nk_ge9 (by omega)).mpr (by omega)) h88_4
      · exact absurd ((nk_gt100 (by omega)).mpr (by omega)) h25_3
    · exact absurd h16_2 (by first | omega | (simp [up2, *]; done) | (simp [up2, *]; omega) | (simp only [up2_eq]; omega) | (split <;> omega))
set_option maxRecDepth 100000 in
set_option maxHeartbeats 400000 in
theorem C_size_n2 {l : Launch} {D : va_G} {cy : Nat → ClassId} {X : (Nat → Prop) → State → Heap → Prop} {w : va_W} {x : Int32} {k : Nat}  (hx : x = -(nI k)) (hk0 : 10 ≤ k) (hk : k < 100) : Cm l D cy X yJ6_stringSize_0f7a4 cJ6_stringSize_0f7a4 4 (some .int) (rmz 0 0) [.int x] (w) (fun v1 w1 => v1 = some (.int (nI 3)) ∧ w1 = w) (fun _ => False) := by
  subst hx
  refine Cm.ofF [some (.int (-(nI k))), none, none, none] (plainFor_of_name pn_J6) rfl (Nat.le_of_ble_eq_true rfl) ?_
  intro p e s mI args below meth c A C hE hr hnt hn
  refine r_iconst (v := (nI 1)) C dJ6_stringSize_0f7a4_0 (by decide) ?_
  refine r_istore_n C dJ6_stringSize_0f7a4_1 (by decide) rfl ?_
  refine r_iload_n C dJ6_stringSize_0f7a4_2 rfl ?_
  refine r_if_lt (tgt := 11) C dJ6_stringSize_0f7a4_3 (by decide) (fun h3_1 => ?_) (fun h3_1 => ?_)
  · skip
    refine r_bipush (v := (-10)) C dJ6_stringSize_0f7a4_11 (by decide) ?_
    refine r_istore_n C dJ6_stringSize_0f7a4_13 (by decide) rfl ?_
    refine r_iconst (v := (nI 1)) C dJ6_stringSize_0f7a4_14 (by decide) ?_
    refine r_istore_n C dJ6_stringSize_0f7a4_15 (by decide) rfl ?_
    refine r_iload_n C dJ6_stringSize_0f7a4_16 rfl ?_
    refine r_bipush (v := (nI 10)) C dJ6_stringSize_0f7a4_17 (by decide) ?_
    refine r_icN_ge (a := 1) (b := 10) (tgt := 42) C (by first | omega | (simp [up2, *]; done) | (simp [up2, *]; omega) | (simp only [up2_eq]; omega) | (split <;> omega)) (by first | omega | (simp [up2, *]; done) | (simp [up2, *]; omega) | (simp only [up2_eq]; omega) | (split <;> omega)) dJ6_stringSize_0f7a4_19 (by decide) (fun h19_2 => ?_) (fun h19_2 => ?_)
    · exact absurd h19_2 (by first | omega | (simp [up2, *]; done) | (simp [up2, *]; omega) | (simp only [up2_eq]; omega) | (split <;> omega))
    · skip
      refine r_iload_n C dJ6_stringSize_0f7a4_22 rfl ?_
      refine r_iload_n C dJ6_stringSize_0f7a4_23 rfl ?_
      refine r_ic_le (tgt := 31) C dJ6_stringSize_0f7a4_24 (by decide) (fun h24_3 => ?_) (fun h24_3 => ?_)
      · skip
        refine r_bipush (v := (nI 10)) C dJ6_stringSize_0f7a4_31 (by decide) ?_
        refine r_iload_n C dJ6_stringSize_0f7a4_33 rfl ?_
        refine r_imul C dJ6_stringSize_0f7a4_34 ?_
        refine r_istore_n C dJ6_stringSize_0f7a4_35 (by decide) rfl ?_
        refine r_iincN C dJ6_stringSize_0f7a4_36 rfl (by decide) rfl ?_
        refine r_goto (tgt := 16) C dJ6_stringSize_0f7a4_39 (by decide) ?_
        refine r_iload_n C dJ6_stringSize_0f7a4_16 rfl ?_
        refine r_bipush (v := (nI 10)) C dJ6_stringSize_0f7a4_17 (by decide) ?_
        refine r_icN_ge (a := (1 + 1)) (b := 10) (tgt := 42) C (by first | omega | (simp [up2, *]; done) | (simp [up2, *]; omega) | (simp only [up2_eq]; omega) | (split <;> omega)) (by first | omega | (simp [up2, *]; done) | (simp [up2, *]; omega) | (simp only [up2_eq]; omega) | (split <;> omega)) dJ6_stringSize_0f7a4_19 (by decide) (fun h19_4 => ?_) (fun h19_4 => ?_)
        · exact absurd h19_4 (by first | omega | (simp [up2, *]; done) | (simp [up2, *]; omega) | (simp only [up2_eq]; omega) | (split <;> omega))
        · skip
          refine r_iload_n C dJ6_stringSize_0f7a4_22 rfl ?_
          refine r_iload_n C dJ6_stringSize_0f7a4_23 rfl ?_
          refine r_ic_le (tgt := 31) C dJ6_stringSize_0f7a4_24 (by decide) (fun h24_5 => ?_) (fun h24_5 => ?_)
          · exact absurd ((nk_le2 (by omega)).mp h24_5) (by omega)
          · skip
            refine r_iload_n C dJ6_stringSize_0f7a4_27 rfl ?_
            refine r_iload_n C dJ6_stringSize_0f7a4_28 rfl ?_
            refine r_iaddN C dJ6_stringSize_0f7a4_29 ?_
            exact r_iret C hr dJ6_stringSize_0f7a4_30 ⟨rfl, rfl⟩ (by first | (simp only [rmk, rmz]; omega) | (simp only [rmk, rmz]; done) | omega) (by first | (simp only [rmk, rmz]; omega) | (simp only [rmk, rmz]; done) | omega)
      · exact absurd ((nk_le (by omega)).mpr (by omega)) h24_3
  · exact absurd ((nk_lt0 (by omega)).mpr (by omega)) h3_1
set_option maxRecDepth 100000 in
set_option maxHeartbeats 400000 in
theorem C_chars_n2 {l : Launch} {D : va_G} {cy : Nat → ClassId} {X : (Nat → Prop) → State → Heap → Prop} {aK aV : Nat → Nat} {tO tT : Nat} {gO gT : Nat → Int32} {U E : va_W} {x : Int32} {k : Nat} {ix : Nat} {v : Nat} {m : Nat} {g : Nat → Int32} (hX : EnvS X cy aK aV tO tT gO gT) (hx : x = -(nI k)) (hk0 : 10 ≤ k) (hk : k < 100) (hix : 3 ≤ ix) (him : ix ≤ m) (hm : m < 536870912) (hf : sb_Fit g) : Cm l D cy X yJ6_getChars_ba4f3 cJ6_getChars_ba4f3 7 (some .int) (rmz 0 0) [.int x, .int (nI ix), .ref v] (U ++ (BYO cy v m g :: E)) (fun v1 w1 => ∃ g9 : Nat → Int32, (sb_Fit g9) ∧ v1 = some (.int (nI (ix - 3))) ∧ w1 = U ++ (BYO cy v m g9 :: E)) (fun _ => False) := by
  subst hx
  refine Cm.ofF [some (.int (-(nI k))), some (.int (nI ix)), some (.ref v), none, none, none, none] (plainFor_of_name pn_J6) rfl (Nat.le_of_ble_eq_true rfl) ?_
  intro p e s mI args below meth c A C hE hr hnt hn
  refine r_iload_n C dJ6_getChars_ba4f3_0 rfl ?_
  refine r_istore C dJ6_getChars_ba4f3_1 (by decide) rfl ?_
  refine r_iload_n C dJ6_getChars_ba4f3_3 rfl ?_
  refine r_if_ge (tgt := 11) C dJ6_getChars_ba4f3_4 (by decide) (fun h4_1 => ?_) (fun h4_1 => ?_)
  · exact absurd ((nk_ge0 (by omega)).mp h4_1) (by omega)
  · skip
    refine r_iconst (v := (nI 1)) C dJ6_getChars_ba4f3_7 (by decide) ?_
    refine r_goto (tgt := 12) C dJ6_getChars_ba4f3_8 (by decide) ?_
    refine r_istore C dJ6_getChars_ba4f3_12 (by decide) rfl ?_
    refine r_iload C dJ6_getChars_ba4f3_14 rfl ?_
    refine r_ifN_ne (a := 1) (tgt := 22) C (by first | omega | (simp [up2, *]; done) | (simp [up2, *]; omega) | (simp only [up2_eq]; omega) | (split <;> omega)) dJ6_getChars_ba4f3_16 (by decide) (fun h16_2 => ?_) (fun h16_2 => ?_)
    · skip
      refine r_iload_n C dJ6_getChars_ba4f3_22 rfl ?_
      refine r_bipush (v := (-100)) C dJ6_getChars_ba4f3_23 (by decide) ?_
      refine r_ic_gt (tgt := 72) C dJ6_getChars_ba4f3_25 (by decide) (fun h25_3 => ?_) (fun h25_3 => ?_)
      · skip
        refine r_aload_n C dJ6_getChars_ba4f3_72 rfl ?_
        refine r_idecP C dJ6_getChars_ba4f3_73 rfl (by first | omega | (simp [up2, *]; done) | (simp [up2, *]; omega) | (simp only [up2_eq]; omega) | (split <;> omega)) (by decide) rfl ?_
        refine r_iload C dJ6_getChars_ba4f3_76 rfl ?_
        refine j_do hX C hE qf_J6_83 dJ6_getChars_ba4f3_78 ?_
        refine r_iload_n C dJ6_getChars_ba4f3_81 rfl ?_
        refine r_ineg C dJ6_getChars_ba4f3_82 ?_
        refine r_eqi (y := nI k) (Int32.neg_neg) ?_
        refine j_dol hX C hE (by first | omega | (simp [up2, *]; done) | (simp [up2, *]; omega) | (simp only [up2_eq]; omega) | (split <;> omega)) dJ6_getChars_ba4f3_83 ?_
        refine t_bst C 0 rfl (by first | omega | (simp [up2, *]; done) | (simp [up2, *]; omega) | (simp only [up2_eq]; omega) | (split <;> omega)) (by first | omega | (simp [up2, *]; done) | (simp [up2, *]; omega) | (simp only [up2_eq]; omega) | (split <;> omega)) dJ6_getChars_ba4f3_84 rfl ?_
        refine r_iload_n C dJ6_getChars_ba4f3_85 rfl ?_
        refine r_bipush (v := (-9)) C dJ6_getChars_ba4f3_86 (by decide) ?_
        refine r_ic_ge (tgt := 104) C dJ6_getChars_ba4f3_88 (by decide) (fun h88_4 => ?_) (fun h88_4 => ?_)
        · exact absurd ((nk_ge9 (by omega)).mp h88_4) (by omega)
        · skip
          refine r_aload_n C dJ6_getChars_ba4f3_91 rfl ?_
          refine r_idecP C dJ6_getChars_ba4f3_92 rfl (by first | omega | (simp [up2, *]; done) | (simp [up2, *]; omega) | (simp only [up2_eq]; omega) | (split <;> omega)) (by decide) rfl ?_
          refine r_iload C dJ6_getChars_ba4f3_95 rfl ?_
          refine j_dt hX C hE qf_J6_87 dJ6_getChars_ba4f3_97 ?_
          refine r_iload_n C dJ6_getChars_ba4f3_100 rfl ?_
          refine r_ineg C dJ6_getChars_ba4f3_101 ?_
          refine r_eqi (y := nI k) (Int32.neg_neg) ?_
          refine j_dtl hX C hE (by first | omega | (simp [up2, *]; done) | (simp [up2, *]; omega) | (simp only [up2_eq]; omega) | (split <;> omega)) dJ6_getChars_ba4f3_102 ?_
          refine t_bst C 0 rfl (by first | omega | (simp [up2, *]; done) | (simp [up2, *]; omega) | (simp only [up2_eq]; omega) | (split <;> omega)) (by first | omega | (simp [up2, *]; done) | (simp [up2, *]; omega) | (simp only [up2_eq]; omega) | (split <;> omega)) dJ6_getChars_ba4f3_103 rfl ?_
          refine r_iload C dJ6_getChars_ba4f3_104 rfl ?_
          refine r_ifN_eq (a := 1) (tgt := 118) C (by first | omega | (simp [up2, *]; done) | (simp [up2, *]; omega) | (simp only [up2_eq]; omega) | (split <;> omega)) dJ6_getChars_ba4f3_106 (by decide) (fun h106_5 => ?_) (fun h106_5 => ?_)
          · exact absurd h106_5 (by first | omega | (simp [up2, *]; done) | (simp [up2, *]; omega) | (simp only [up2_eq]; omega) | (split <;> omega))
          · skip
            refine r_aload_n C dJ6_getChars_ba4f3_109 rfl ?_
            refine r_idecP C dJ6_getChars_ba4f3_110 rfl (by first | omega | (simp [up2, *]; done) | (simp [up2, *]; omega) | (simp only [up2_eq]; omega) | (split <;> omega)) (by decide) rfl ?_
            refine r_iload C dJ6_getChars_ba4f3_113 rfl ?_
            refine r_bipush (v := (nI 45)) C dJ6_getChars_ba4f3_115 (by decide) ?_
            refine t_bst C 0 rfl (by first | omega | (simp [up2, *]; done) | (simp [up2, *]; omega) | (simp only [up2_eq]; omega) | (split <;> omega)) (by first | omega | (simp [up2, *]; done) | (simp [up2, *]; omega) | (simp only [up2_eq]; omega) | (split <;> omega)) dJ6_getChars_ba4f3_117 rfl ?_
            refine r_iload C dJ6_getChars_ba4f3_118 rfl ?_
            exact r_iret C hr dJ6_getChars_ba4f3_120 ⟨_, bf_up (bf_up (bf_up (hf))), (by first | rfl | simp only [Nat.sub_sub]), rfl⟩ (by first | (simp only [rmk, rmz]; omega) | (simp only [rmk, rmz]; done) | omega) (by first | (simp only [rmk, rmz]; omega) | (simp only [rmk, rmz]; done) | omega)
      · exact absurd ((nk_gt100 (by omega)).mpr (by omega)) h25_3
    · exact absurd h16_2 (by first | omega | (simp [up2, *]; done) | (simp [up2, *]; omega) | (simp only [up2_eq]; omega) | (split <;> omega))
theorem dJ5_append_c97b9_0 : decode cJ5_append_c97b9 0 = .ok (.aload_n 0, 1) := dqo_42 (kb_of ke_J5_append_c97b9 0 rfl)
theorem dJ5_append_c97b9_1 : decode cJ5_append_c97b9 1 = .ok (.getfield 79, 3) := dqo_180 0 79 (kb_of ke_J5_append_c97b9 1 rfl) (kb_of ke_J5_append_c97b9 2 rfl) (kb_of ke_J5_append_c97b9 3 rfl)
theorem dJ5_append_c97b9_4 : decode cJ5_append_c97b9 4 = .ok (.istore_n 2, 1) := dqo_61 (kb_of ke_J5_append_c97b9 4 rfl)
theorem dJ5_append_c97b9_5 : decode cJ5_append_c97b9 5 = .ok (.iload_n 2, 1) := dqo_28 (kb_of ke_J5_append_c97b9 5 rfl)
theorem dJ5_append_c97b9_6 : decode cJ5_append_c97b9 6 = .ok (.iload_n 1, 1) := dqo_27 (kb_of ke_J5_append_c97b9 6 rfl)
theorem dJ5_append_c97b9_7 : decode cJ5_append_c97b9 7 = .ok (.invokestatic 245, 3) := dqo_184 0 245 (kb_of ke_J5_append_c97b9 7 rfl) (kb_of ke_J5_append_c97b9 8 rfl) (kb_of ke_J5_append_c97b9 9 rfl)
theorem dJ5_append_c97b9_10 : decode cJ5_append_c97b9 10 = .ok (.iadd, 1) := dqo_96 (kb_of ke_J5_append_c97b9 10 rfl)
theorem dJ5_append_c97b9_11 : decode cJ5_append_c97b9 11 = .ok (.istore_n 3, 1) := dqo_62 (kb_of ke_J5_append_c97b9 11 rfl)
theorem dJ5_append_c97b9_12 : decode cJ5_append_c97b9 12 = .ok (.aload_n 0, 1) := dqo_42 (kb_of ke_J5_append_c97b9 12 rfl)
theorem dJ5_append_c97b9_13 : decode cJ5_append_c97b9 13 = .ok (.iload_n 3, 1) := dqo_29 (kb_of ke_J5_append_c97b9 13 rfl)
theorem dJ5_append_c97b9_14 : decode cJ5_append_c97b9 14 = .ok (.invokevirtual 100, 3) := dqo_182 0 100 (kb_of ke_J5_append_c97b9 14 rfl) (kb_of ke_J5_append_c97b9 15 rfl) (kb_of ke_J5_append_c97b9 16 rfl)
theorem dJ5_append_c97b9_17 : decode cJ5_append_c97b9 17 = .ok (.aload_n 0, 1) := dqo_42 (kb_of ke_J5_append_c97b9 17 rfl)
theorem dJ5_append_c97b9_18 : decode cJ5_append_c97b9 18 = .ok (.invokevirtual 83, 3) := dqo_182 0 83 (kb_of ke_J5_append_c97b9 18 rfl) (kb_of ke_J5_append_c97b9 19 rfl) (kb_of ke_J5_append_c97b9 20 rfl)
theorem dJ5_append_c97b9_21 : decode cJ5_append_c97b9 21 = .ok (.ifCond .eq 16, 3) := dqo_153 0 16 (by decide) (kb_of ke_J5_append_c97b9 21 rfl) (kb_of ke_J5_append_c97b9 22 rfl) (kb_of ke_J5_append_c97b9 23 rfl)
theorem dJ5_append_c97b9_24 : decode cJ5_append_c97b9 24 = .ok (.iload_n 1, 1) := dqo_27 (kb_of ke_J5_append_c97b9 24 rfl)
theorem dJ5_append_c97b9_25 : decode cJ5_append_c97b9 25 = .ok (.iload_n 3, 1) := dqo_29 (kb_of ke_J5_append_c97b9 25 rfl)
theorem dJ5_append_c97b9_26 : decode cJ5_append_c97b9 26 = .ok (.aload_n 0, 1) := dqo_42 (kb_of ke_J5_append_c97b9 26 rfl)
theorem dJ5_append_c97b9_27 : decode cJ5_append_c97b9 27 = .ok (.getfield 15, 3) := dqo_180 0 15 (kb_of ke_J5_append_c97b9 27 rfl) (kb_of ke_J5_append_c97b9 28 rfl) (kb_of ke_J5_append_c97b9 29 rfl)
theorem dJ5_append_c97b9_30 : decode cJ5_append_c97b9 30 = .ok (.invokestatic 248, 3) := dqo_184 0 248 (kb_of ke_J5_append_c97b9 30 rfl) (kb_of ke_J5_append_c97b9 31 rfl) (kb_of ke_J5_append_c97b9 32 rfl)
theorem dJ5_append_c97b9_33 : decode cJ5_append_c97b9 33 = .ok (.pop, 1) := dqo_87 (kb_of ke_J5_append_c97b9 33 rfl)
theorem dJ5_append_c97b9_34 : decode cJ5_append_c97b9 34 = .ok (.goto 14, 3) := dqo_167 0 14 (by decide) (kb_of ke_J5_append_c97b9 34 rfl) (kb_of ke_J5_append_c97b9 35 rfl) (kb_of ke_J5_append_c97b9 36 rfl)
theorem dJ5_append_c97b9_48 : decode cJ5_append_c97b9 48 = .ok (.aload_n 0, 1) := dqo_42 (kb_of ke_J5_append_c97b9 48 rfl)
theorem dJ5_append_c97b9_49 : decode cJ5_append_c97b9 49 = .ok (.iload_n 3, 1) := dqo_29 (kb_of ke_J5_append_c97b9 49 rfl)
theorem dJ5_append_c97b9_50 : decode cJ5_append_c97b9 50 = .ok (.putfield 79, 3) := dqo_181 0 79 (kb_of ke_J5_append_c97b9 50 rfl) (kb_of ke_J5_append_c97b9 51 rfl) (kb_of ke_J5_append_c97b9 52 rfl)
theorem dJ5_append_c97b9_53 : decode cJ5_append_c97b9 53 = .ok (.aload_n 0, 1) := dqo_42 (kb_of ke_J5_append_c97b9 53 rfl)
theorem dJ5_append_c97b9_54 : decode cJ5_append_c97b9 54 = .ok (.areturn, 1) := dqo_176 (kb_of ke_J5_append_c97b9 54 rfl)
theorem pk_J6_getChars_ba4f3 : PkS yJ6_getChars_ba4f3 cJ6_getChars_ba4f3 7 (some .int) 3 := ⟨⟨qt_J6_getChars_ba4f3, qz_J6, qc_J6_getChars_ba4f3⟩, mh_J6.1, mh_J6.2, pd_33⟩
theorem pk_J6_stringSize_0f7a4 : PkS yJ6_stringSize_0f7a4 cJ6_stringSize_0f7a4 4 (some .int) 1 := ⟨⟨qt_J6_stringSize_0f7a4, qz_J6, qc_J6_stringSize_0f7a4⟩, mh_J6.1, mh_J6.2, pd_1⟩
set_option maxRecDepth 100000 in
set_option maxHeartbeats 400000 in
theorem C_asbInt_p1 {l : Launch} {D : va_G} {cy : Nat → ClassId} {X : (Nat → Prop) → State → Heap → Prop} {aK aV : Nat → Nat} {tO tT : Nat} {gO gT : Nat → Int32} {U E : va_W} {b : Nat} {v : Nat} {m : Nat} {n : Nat} {g : Nat → Int32} {ml : Int32} {x : Int32} {k : Nat} (hX : EnvS X cy aK aV tO tT gO gT) (hm : m ≤ 65536) (hnm : n ≤ m) (hf : sb_Fit g) (hx : x = nI k) (hk : k < 10) : Cm l D cy X yJ5_append_c97b9 cJ5_append_c97b9 4 (some (.object "java/lang/AbstractStringBuilder")) (rmk 4 (gC (n + 1) m) (gS (n + 1) m) 160) [.ref b, .int x] (U ++ (SBO b v ml n :: BYO cy v m g :: E)) (fun v1 w1 => ∃ v9 : Nat, ∃ g9 : Nat → Int32, (sb_Fit g9) ∧ v1 = some (.ref b) ∧ w1 = U ++ (SBO b v9 ml (n + 1) :: BYO cy v9 (sb_cap (n + 1) m) g9 :: E)) (fun _ => False) := by
  refine Cm.ofF [some (.ref b), some (.int x), none, none] (plainFor_of_name pn_J5) rfl (Nat.le_of_ble_eq_true rfl) ?_
  intro p e s mI args below meth c A C hE hr hnt hn
  refine r_aload_n C dJ5_append_c97b9_0 rfl ?_
  refine t_sbg C 0 3 rfl (by decide) qf_J5_79 rfl rfl dJ5_append_c97b9_1 ?_
  refine r_istore_n C dJ5_append_c97b9_4 (by decide) rfl ?_
  refine r_iload_n C dJ5_append_c97b9_5 rfl ?_
  refine r_iload_n C dJ5_append_c97b9_6 rfl ?_
  refine c_S (st := [.int (nI n)]) hX.stb C hE (C_size_p1 (w := U ++ (SBO b v ml n :: BYO cy v m g :: E)) (x := x) hx (by first | omega | (simp [up2, *]; done) | (simp [up2, *]; omega) | (simp only [up2_eq]; omega) | (split <;> omega))) pk_J6_stringSize_0f7a4 qm_J5_245 rfl rfl (Nat.le_of_ble_eq_true rfl) dJ5_append_c97b9_7 ⟨Nat.le_of_ble_eq_true rfl, Nat.le_of_ble_eq_true rfl⟩ ⟨by first | (simp only [rmk, rmz]; omega) | (simp only [rmk, rmz]; done) | omega, by first | (simp only [rmk, rmz]; omega) | (simp only [rmk, rmz]; done) | omega⟩ (fun v9 w9 h9 => ?_) (fun _ h9 => h9.elim)
  obtain ⟨rfl, rfl⟩ := h9
  refine r_iaddN C dJ5_append_c97b9_10 ?_
  refine r_istore_n C dJ5_append_c97b9_11 (by decide) rfl ?_
  refine r_aload_n C dJ5_append_c97b9_12 rfl ?_
  refine r_iload_n C dJ5_append_c97b9_13 rfl ?_
  refine c_U (st := []) hX C hE (C_ensure (U := U) (E := E) (b := b) (v := v) (m := m) (n := n) (g := g) (ml := ml) (q := (n + 1)) hX (by first | omega | (simp [up2, *]; done) | (simp [up2, *]; omega) | (simp only [up2_eq]; omega) | (split <;> omega)) (by first | omega | (simp [up2, *]; done) | (simp [up2, *]; omega) | (simp only [up2_eq]; omega) | (split <;> omega)) (by first | omega | (simp [up2, *]; done) | (simp [up2, *]; omega) | (simp only [up2_eq]; omega) | (split <;> omega))) pk_J5_ensureCapacityInternal_d00df qm_J5_100 (U.length + 0) (us_g rfl) rfl rfl (Nat.le_of_ble_eq_true rfl) dJ5_append_c97b9_14 ⟨Nat.le_of_ble_eq_true rfl, Nat.le_of_ble_eq_true rfl⟩ ⟨by first | (simp only [rmk, rmz]; omega) | (simp only [rmk, rmz]; done) | omega, by first | (simp only [rmk, rmz]; omega) | (simp only [rmk, rmz]; done) | omega⟩ (fun v9 w9 h9 => ?_) (fun _ h9 => h9.elim)
  obtain ⟨v9_1, g9_2, f_3, rfl, rfl⟩ := h9
  have hcg := sb_cap_ge (n + 1) m
  have hcl := cap_lt (q := n + 1) hm (by omega)
  refine r_aload_n C dJ5_append_c97b9_17 rfl ?_
  refine c_U (st := []) hX C hE (C_isLatin1 (U := U) (E := (BYO cy v9_1 (sb_cap (n + 1) m) g9_2 :: E)) (b := b) (v := v9_1) (n := n) (ml := ml) hX ) pk_J5_isLatin1_aae02 qm_J5_83 (U.length + 0) (us_g rfl) rfl rfl (Nat.le_of_ble_eq_true rfl) dJ5_append_c97b9_18 ⟨Nat.le_of_ble_eq_true rfl, Nat.le_of_ble_eq_true rfl⟩ ⟨by first | (simp only [rmk, rmz]; omega) | (simp only [rmk, rmz]; done) | omega, by first | (simp only [rmk, rmz]; omega) | (simp only [rmk, rmz]; done) | omega⟩ (fun v9 w9 h9 => ?_) (fun _ h9 => h9.elim)
  obtain ⟨rfl, rfl⟩ := h9
  refine r_ifN_eq (a := 1) (tgt := 37) C (by first | omega | (simp [up2, *]; done) | (simp [up2, *]; omega) | (simp only [up2_eq]; omega) | (split <;> omega)) dJ5_append_c97b9_21 (by decide) (fun h21_4 => ?_) (fun h21_4 => ?_)
  · exact absurd h21_4 (by first | omega | (simp [up2, *]; done) | (simp [up2, *]; omega) | (simp only [up2_eq]; omega) | (split <;> omega))
  · skip
    refine r_iload_n C dJ5_append_c97b9_24 rfl ?_
    refine r_iload_n C dJ5_append_c97b9_25 rfl ?_
    refine r_aload_n C dJ5_append_c97b9_26 rfl ?_
    refine t_sbg C 0 0 rfl (by decide) qf_J5_15 rfl rfl dJ5_append_c97b9_27 ?_
    refine t_perm [SBO b v9_1 ml n, BYO cy v9_1 (sb_cap (n + 1) m) g9_2] [BYO cy v9_1 (sb_cap (n + 1) m) g9_2, SBO b v9_1 ml n] [1, 0] rfl (by decide) rfl (w' := U ++ (BYO cy v9_1 (sb_cap (n + 1) m) g9_2 :: SBO b v9_1 ml n :: E)) rfl ?_
    refine c_S (st := []) hX.stb C hE (C_chars_p1 (U := U) (E := (SBO b v9_1 ml n :: E)) (x := x) (ix := (n + 1)) (v := v9_1) (m := (sb_cap (n + 1) m)) (g := g9_2) hX hx (by first | omega | (simp [up2, *]; done) | (simp [up2, *]; omega) | (simp only [up2_eq]; omega) | (split <;> omega)) (by first | omega | (simp [up2, *]; done) | (simp [up2, *]; omega) | (simp only [up2_eq]; omega) | (split <;> omega)) (by omega) (by omega) f_3) pk_J6_getChars_ba4f3 qm_J5_248 rfl rfl (Nat.le_of_ble_eq_true rfl) dJ5_append_c97b9_30 ⟨Nat.le_of_ble_eq_true rfl, Nat.le_of_ble_eq_true rfl⟩ ⟨by first | (simp only [rmk, rmz]; omega) | (simp only [rmk, rmz]; done) | omega, by first | (simp only [rmk, rmz]; omega) | (simp only [rmk, rmz]; done) | omega⟩ (fun v9 w9 h9 => ?_) (fun _ h9 => h9.elim)
    obtain ⟨g9_5, f_6, rfl, rfl⟩ := h9
    refine r_pop C dJ5_append_c97b9_33 rfl ?_
    refine r_goto (tgt := 48) C dJ5_append_c97b9_34 (by decide) ?_
    refine t_perm [BYO cy v9_1 (sb_cap (n + 1) m) g9_5, SBO b v9_1 ml n] [SBO b v9_1 ml n, BYO cy v9_1 (sb_cap (n + 1) m) g9_5] [1, 0] rfl (by decide) rfl (w' := U ++ (SBO b v9_1 ml n :: BYO cy v9_1 (sb_cap (n + 1) m) g9_5 :: E)) rfl ?_
    refine r_aload_n C dJ5_append_c97b9_48 rfl ?_
    refine r_iload_n C dJ5_append_c97b9_49 rfl ?_
    refine t_sbp (ty := .int) C 0 3 rfl (by decide) rfl qf_J5_79 rfl rfl rfl rfl rfl dJ5_append_c97b9_50 (L' := (SBO b v9_1 ml (n + 1) :: BYO cy v9_1 (sb_cap (n + 1) m) g9_5 :: E)) rfl ?_
    refine r_aload_n C dJ5_append_c97b9_53 rfl ?_
    exact r_aret C hr (Or.inl ⟨_, rfl⟩) dJ5_append_c97b9_54 ⟨v9_1, g9_5, f_6, rfl, rfl⟩ (by first | (simp only [rmk, rmz]; omega) | (simp only [rmk, rmz]; done) | omega) (by first | (simp only [rmk, rmz]; omega) | (simp only [rmk, rmz]; done) | omega)
set_option maxRecDepth 100000 in
set_option maxHeartbeats 400000 in
theorem C_asbInt_p2 {l : Launch} {D : va_G} {cy : Nat → ClassId} {X : (Nat → Prop) → State → Heap → Prop} {aK aV : Nat → Nat} {tO tT : Nat} {gO gT : Nat → Int32} {U E : va_W} {b : Nat} {v : Nat} {m : Nat} {n : Nat} {g : Nat → Int32} {ml : Int32} {x : Int32} {k : Nat} (hX : EnvS X cy aK aV tO tT gO gT) (hm : m ≤ 65536) (hnm : n ≤ m) (hf : sb_Fit g) (hx : x = nI k) (hk0 : 10 ≤ k) (hk : k < 100) : Cm l D cy X yJ5_append_c97b9 cJ5_append_c97b9 4 (some (.object "java/lang/AbstractStringBuilder")) (rmk 4 (gC (n + 2) m) (gS (n + 2) m) 160) [.ref b, .int x] (U ++ (SBO b v ml n :: BYO cy v m g :: E)) (fun v1 w1 => ∃ v9 : Nat, ∃ g9 : Nat → Int32, (sb_Fit g9) ∧ v1 = some (.ref b) ∧ w1 = U ++ (SBO b v9 ml (n + 2) :: BYO cy v9 (sb_cap (n + 2) m) g9 :: E)) (fun _ => False) := by
  refine Cm.ofF [some (.ref b), some (.int x), none, none] (plainFor_of_name pn_J5) rfl (Nat.le_of_ble_eq_true rfl) ?_
  intro p e s mI args below meth c A C hE hr hnt hn
  refine r_aload_n C dJ5_append_c97b9_0 rfl ?_
  refine t_sbg C 0 3 rfl (by decide) qf_J5_79 rfl rfl dJ5_append_c97b9_1 ?_
  refine r_istore_n C dJ5_append_c97b9_4 (by decide) rfl ?_
  refine r_iload_n C dJ5_append_c97b9_5 rfl ?_
  refine r_iload_n C dJ5_append_c97b9_6 rfl ?_
  refine c_S (st := [.int (nI n)]) hX.stb C hE (C_size_p2 (w := U ++ (SBO b v ml n :: BYO cy v m g :: E)) (x := x) hx (by first | omega | (simp [up2, *]; done) | (simp [up2, *]; omega) | (simp only [up2_eq]; omega) | (split <;> omega)) (by first | omega | (simp [up2, *]; done) | (simp [up2, *]; omega) | (simp only [up2_eq]; omega) | (split <;> omega))) pk_J6_stringSize_0f7a4 qm_J5_245 rfl rfl (Nat.le_of_ble_eq_true rfl) dJ5_append_c97b9_7 ⟨Nat.le_of_ble_eq_true rfl, Nat.le_of_ble_eq_true rfl⟩ ⟨by first | (simp only [rmk, rmz]; omega) | (simp only [rmk, rmz]; done) | omega, by first | (simp only [rmk, rmz]; omega) | (simp only [rmk, rmz]; done) | omega⟩ (fun v9 w9 h9 => ?_) (fun _ h9 => h9.elim)
  obtain ⟨rfl, rfl⟩ := h9
  refine r_iaddN C dJ5_append_c97b9_10 ?_
  refine r_istore_n C dJ5_append_c97b9_11 (by decide) rfl ?_
  refine r_aload_n C dJ5_append_c97b9_12 rfl ?_
  refine r_iload_n C dJ5_append_c97b9_13 rfl ?_
  refine c_U (st := []) hX C hE (C_ensure (U := U) (E := E) (b := b) (v := v) (m := m) (n := n) (g := g) (ml := ml) (q := (n + 2)) hX (by first | omega | (simp [up2, *]; done) | (simp [up2, *]; omega) | (simp only [up2_eq]; omega) | (split <;> omega)) (by first | omega | (simp [up2, *]; done) | (simp [up2, *]; omega) | (simp only [up2_eq]; omega) | (split <;> omega)) (by first | omega | (simp [up2, *]; done) | (simp [up2, *]; omega) | (simp only [up2_eq]; omega) | (split <;> omega))) pk_J5_ensureCapacityInternal_d00df qm_J5_100 (U.length + 0) (us_g rfl) rfl rfl (Nat.le_of_ble_eq_true rfl) dJ5_append_c97b9_14 ⟨Nat.le_of_ble_eq_true rfl, Nat.le_of_ble_eq_true rfl⟩ ⟨by first | (simp only [rmk, rmz]; omega) | (simp only [rmk, rmz]; done) | omega, by first | (simp only [rmk, rmz]; omega) | (simp only [rmk, rmz]; done) | omega⟩ (fun v9 w9 h9 => ?_) (fun _ h9 => h9.elim)
  obtain ⟨v9_1, g9_2, f_3, rfl, rfl⟩ := h9
  have hcg := sb_cap_ge (n + 2) m
  have hcl := cap_lt (q := n + 2) hm (by omega)
  refine r_aload_n C dJ5_append_c97b9_17 rfl ?_
  refine c_U (st := []) hX C hE (C_isLatin1 (U := U) (E := (BYO cy v9_1 (sb_cap (n + 2) m) g9_2 :: E)) (b := b) (v := v9_1) (n := n) (ml := ml) hX ) pk_J5_isLatin1_aae02 qm_J5_83 (U.length + 0) (us_g rfl) rfl rfl (Nat.le_of_ble_eq_true rfl) dJ5_append_c97b9_18 ⟨Nat.le_of_ble_eq_true rfl, Nat.le_of_ble_eq_true rfl⟩ ⟨by first | (simp only [rmk, rmz]; omega) | (simp only [rmk, rmz]; done) | omega, by first | (simp only [rmk, rmz]; omega) | (simp only [rmk, rmz]; done) | omega⟩ (fun v9 w9 h9 => ?_) (fun _ h9 => h9.elim)
  obtain ⟨rfl, rfl⟩ := h9
  refine r_ifN_eq (a := 1) (tgt := 37) C (by first | omega | (simp [up2, *]; done) | (simp [up2, *]; omega) | (simp only [up2_eq]; omega) | (split <;> omega)) dJ5_append_c97b9_21 (by decide) (fun h21_4 => ?_) (fun h21_4 => ?_)
  · exact absurd h21_4 (by first | omega | (simp [up2, *]; done) | (simp [up2, *]; omega) | (simp only [up2_eq]; omega) | (split <;> omega))
  · skip
    refine r_iload_n C dJ5_append_c97b9_24 rfl ?_
    refine r_iload_n C dJ5_append_c97b9_25 rfl ?_
    refine r_aload_n C dJ5_append_c97b9_26 rfl ?_
    refine t_sbg C 0 0 rfl (by decide) qf_J5_15 rfl rfl dJ5_append_c97b9_27 ?_
    refine t_perm [SBO b v9_1 ml n, BYO cy v9_1 (sb_cap (n + 2) m) g9_2] [BYO cy v9_1 (sb_cap (n + 2) m) g9_2, SBO b v9_1 ml n] [1, 0] rfl (by decide) rfl (w' := U ++ (BYO cy v9_1 (sb_cap (n + 2) m) g9_2 :: SBO b v9_1 ml n :: E)) rfl ?_
    refine c_S (st := []) hX.stb C hE (C_chars_p2 (U := U) (E := (SBO b v9_1 ml n :: E)) (x := x) (ix := (n + 2)) (v := v9_1) (m := (sb_cap (n + 2) m)) (g := g9_2) hX hx (by first | omega | (simp [up2, *]; done) | (simp [up2, *]; omega) | (simp only [up2_eq]; omega) | (split <;> omega)) (by first | omega | (simp [up2, *]; done) | (simp [up2, *]; omega) | (simp only [up2_eq]; omega) | (split <;> omega)) (by first | omega | (simp [up2, *]; done) | (simp [up2, *]; omega) | (simp only [up2_eq]; omega) | (split <;> omega)) (by omega) (by omega) f_3) pk_J6_getChars_ba4f3 qm_J5_248 rfl rfl (Nat.le_of_ble_eq_true rfl) dJ5_append_c97b9_30 ⟨Nat.le_of_ble_eq_true rfl, Nat.le_of_ble_eq_true rfl⟩ ⟨by first | (simp only [rmk, rmz]; omega) | (simp only [rmk, rmz]; done) | omega, by first | (simp only [rmk, rmz]; omega) | (simp only [rmk, rmz]; done) | omega⟩ (fun v9 w9 h9 => ?_) (fun _ h9 => h9.elim)
    obtain ⟨g9_5, f_6, rfl, rfl⟩ := h9
    refine r_pop C dJ5_append_c97b9_33 rfl ?_
    refine r_goto (tgt := 48) C dJ5_append_c97b9_34 (by decide) ?_
    refine t_perm [BYO cy v9_1 (sb_cap (n + 2) m) g9_5, SBO b v9_1 ml n] [SBO b v9_1 ml n, BYO cy v9_1 (sb_cap (n + 2) m) g9_5] [1, 0] rfl (by decide) rfl (w' := U ++ (SBO b v9_1 ml n :: BYO cy v9_1 (sb_cap (n + 2) m) g9_5 :: E)) rfl ?_
    refine r_aload_n C dJ5_append_c97b9_48 rfl ?_
    refine r_iload_n C dJ5_append_c97b9_49 rfl ?_
    refine t_sbp (ty := .int) C 0 3 rfl (by decide) rfl qf_J5_79 rfl rfl rfl rfl rfl dJ5_append_c97b9_50 (L' := (SBO b v9_1 ml (n + 2) :: BYO cy v9_1 (sb_cap (n + 2) m) g9_5 :: E)) rfl ?_
    refine r_aload_n C dJ5_append_c97b9_53 rfl ?_
    exact r_aret C hr (Or.inl ⟨_, rfl⟩) dJ5_append_c97b9_54 ⟨v9_1, g9_5, f_6, rfl, rfl⟩ (by first | (simp only [rmk, rmz]; omega) | (simp only [rmk, rmz]; done) | omega) (by first | (simp only [rmk, rmz]; omega) | (simp only [rmk, rmz]; done) | omega)
set_option maxRecDepth 100000 in
set_option maxHeartbeats 400000 in
theorem C_asbInt_n1 {l : Launch} {D : va_G} {cy : Nat → ClassId} {X : (Nat → Prop) → State → Heap → Prop} {aK aV : Nat → Nat} {tO tT : Nat} {gO gT : Nat → Int32} {U E : va_W} {b : Nat} {v : Nat} {m : Nat} {n : Nat} {g : Nat → Int32} {ml : Int32} {x : Int32} {k : Nat} (hX : EnvS X cy aK aV tO tT gO gT) (hm : m ≤ 65536) (hnm : n ≤ m) (hf : sb_Fit g) (hx : x = -(nI k)) (hk0 : 0 < k) (hk : k < 10) : Cm l D cy X yJ5_append_c97b9 cJ5_append_c97b9 4 (some (.object "java/lang/AbstractStringBuilder")) (rmk 4 (gC (n + 2) m) (gS (n + 2) m) 160) [.ref b, .int x] (U ++ (SBO b v ml n :: BYO cy v m g :: E)) (fun v1 w1 => ∃ v9 : Nat, ∃ g9 : Nat → Int32, (sb_Fit g9) ∧ v1 = some (.ref b) ∧ w1 = U ++ (SBO b v9 ml (n + 2) :: BYO cy v9 (sb_cap (n + 2) m) g9 :: E)) (fun _ => False) := by
  refine Cm.ofF [some (.ref b), some (.int x), none, none] (plainFor_of_name pn_J5) rfl (Nat.le_of_ble_eq_true rfl) ?_
  intro p e s mI args below meth c A C hE hr hnt hn
  refine r_aload_n C dJ5_append_c97b9_0 rfl ?_
  refine t_sbg C 0 3 rfl (by decide) qf_J5_79 rfl rfl dJ5_append_c97b9_1 ?_
  refine r_istore_n C dJ5_append_c97b9_4 (by decide) rfl ?_
  refine r_iload_n C dJ5_append_c97b9_5 rfl ?_
  refine r_iload_n C dJ5_append_c97b9_6 rfl ?_
  refine c_S (st := [.int (nI n)]) hX.stb C hE (C_size_n1 (w := U ++ (SBO b v ml n :: BYO cy v m g :: E)) (x := x) hx (by first | omega | (simp [up2, *]; done) | (simp [up2, *]; omega) | (simp only [up2_eq]; omega) | (split <;> omega)) (by first | omega | (simp [up2, *]; done) | (simp [up2, *]; omega) | (simp only [up2_eq]; omega) | (split <;> omega))) pk_J6_stringSize_0f7a4 qm_J5_245 rfl rfl (Nat.le_of_ble_eq_true rfl) dJ5_append_c97b9_7 ⟨Nat.le_of_ble_eq_true rfl, Nat.le_of_ble_eq_true rfl⟩ ⟨by first | (simp only [rmk, rmz]; omega) | (simp only [rmk, rmz]; done) | omega, by first | (simp only [rmk, rmz]; omega) | (simp only [rmk, rmz]; done) | omega⟩ (fun v9 w9 h9 => ?_) (fun _ h9 => h9.elim)
  obtain ⟨rfl, rfl⟩ := h9
  refine r_iaddN C dJ5_append_c97b9_10 ?_
  refine r_istore_n C dJ5_append_c97b9_11 (by decide) rfl ?_
  refine r_aload_n C dJ5_append_c97b9_12 rfl ?_
  refine r_iload_n C dJ5_append_c97b9_13 rfl ?_
  refine c_U (st := []) hX C hE (C_ensure (U := U) (E := E) (b := b) (v := v) (m := m) (n := n) (g := g) (ml := ml) (q := (n + 2)) hX (by first | omega | (simp [up2, *]; done) | (simp [up2, *]; omega) | (simp only [up2_eq]; omega) | (split <;> omega)) (by first | omega | (simp [up2, *]; done) | (simp [up2, *]; omega) | (simp only [up2_eq]; omega) | (split <;> omega)) (by first | omega | (simp [up2, *]; done) | (simp [up2, *]; omega) | (simp only [up2_eq]; omega) | (split <;> omega))) pk_J5_ensureCapacityInternal_d00df qm_J5_100 (U.length + 0) (us_g rfl) rfl rfl (Nat.le_of_ble_eq_true rfl) dJ5_append_c97b9_14 ⟨Nat.le_of_ble_eq_true rfl, Nat.le_of_ble_eq_true rfl⟩ ⟨by first | (simp only [rmk, rmz]; omega) | (simp only [rmk, rmz]; done) | omega, by first | (simp only [rmk, rmz]; omega) | (simp only [rmk, rmz]; done) | omega⟩ (fun v9 w9 h9 => ?_) (fun _ h9 => h9.elim)
  obtain ⟨v9_1, g9_2, f_3, rfl, rfl⟩ := h9
  have hcg := sb_cap_ge (n + 2) m
  have hcl := cap_lt (q := n + 2) hm (by omega)
  refine r_aload_n C dJ5_append_c97b9_17 rfl ?_
  refine c_U (st := []) hX C hE (C_isLatin1 (U := U) (E := (BYO cy v9_1 (sb_cap (n + 2) m) g9_2 :: E)) (b := b) (v := v9_1) (n := n) (ml := ml) hX ) pk_J5_isLatin1_aae02 qm_J5_83 (U.length + 0) (us_g rfl) rfl rfl (Nat.le_of_ble_eq_true rfl) dJ5_append_c97b9_18 ⟨Nat.le_of_ble_eq_true rfl, Nat.le_of_ble_eq_true rfl⟩ ⟨by first | (simp only [rmk, rmz]; omega) | (simp only [rmk, rmz]; done) | omega, by first | (simp only [rmk, rmz]; omega) | (simp only [rmk, rmz]; done) | omega⟩ (fun v9 w9 h9 => ?_) (fun _ h9 => h9.elim)
  obtain ⟨rfl, rfl⟩ := h9
  refine r_ifN_eq (a := 1) (tgt := 37) C (by first | omega | (simp [up2, *]; done) | (simp [up2, *]; omega) | (simp only [up2_eq]; omega) | (split <;> omega)) dJ5_append_c97b9_21 (by decide) (fun h21_4 => ?_) (fun h21_4 => ?_)
  · exact absurd h21_4 (by first | omega | (simp [up2, *]; done) | (simp [up2, *]; omega) | (simp only [up2_eq]; omega) | (split <;> omega))
  · skip
    refine r_iload_n C dJ5_append_c97b9_24 rfl ?_
    refine r_iload_n C dJ5_append_c97b9_25 rfl ?_
    refine r_aload_n C dJ5_append_c97b9_26 rfl ?_
    refine t_sbg C 0 0 rfl (by decide) qf_J5_15 rfl rfl dJ5_append_c97b9_27 ?_
    refine t_perm [SBO b v9_1 ml n, BYO cy v9_1 (sb_cap (n + 2) m) g9_2] [BYO cy v9_1 (sb_cap (n + 2) m) g9_2, SBO b v9_1 ml n] [1, 0] rfl (by decide) rfl (w' := U ++ (BYO cy v9_1 (sb_cap (n + 2) m) g9_2 :: SBO b v9_1 ml n :: E)) rfl ?_
    refine c_S (st := []) hX.stb C hE (C_chars_n1 (U := U) (E := (SBO b v9_1 ml n :: E)) (x := x) (ix := (n + 2)) (v := v9_1) (m := (sb_cap (n + 2) m)) (g := g9_2) hX hx (by first | omega | (simp [up2, *]; done) | (simp [up2, *]; omega) | (simp only [up2_eq]; omega) | (split <;> omega)) (by first | omega | (simp [up2, *]; done) | (simp [up2, *]; omega) | (simp only [up2_eq]; omega) | (split <;> omega)) (by first | omega | (simp [up2, *]; done) | (simp [up2, *]; omega) | (simp only [up2_eq]; omega) | (split <;> omega)) (by omega) (by omega) f_3) pk_J6_getChars_ba4f3 qm_J5_248 rfl rfl (Nat.le_of_ble_eq_true rfl) dJ5_append_c97b9_30 ⟨Nat.le_of_ble_eq_true rfl, Nat.le_of_ble_eq_true rfl⟩ ⟨by first | (simp only [rmk, rmz]; omega) | (simp only [rmk, rmz]; done) | omega, by first | (simp only [rmk, rmz]; omega) | (simp only [rmk, rmz]; done) | omega⟩ (fun v9 w9 h9 => ?_) (fun _ h9 => h9.elim)
    obtain ⟨g9_5, f_6, rfl, rfl⟩ := h9
    refine r_pop C dJ5_append_c97b9_33 rfl ?_
    refine r_goto (tgt := 48) C dJ5_append_c97b9_34 (by decide) ?_
    refine t_perm [BYO cy v9_1 (sb_cap (n + 2) m) g9_5, SBO b v9_1 ml n] [SBO b v9_1 ml n, BYO cy v9_1 (sb_cap (n + 2) m) g9_5] [1, 0] rfl (by decide) rfl (w' := U ++ (SBO b v9_1 ml n :: BYO cy v9_1 (sb_cap (n + 2) m) g9_5 :: E)) rfl ?_
    refine r_aload_n C dJ5_append_c97b9_48 rfl ?_
    refine r_iload_n C dJ5_append_c97b9_49 rfl ?_
    refine t_sbp (ty := .int) C 0 3 rfl (by decide) rfl qf_J5_79 rfl rfl rfl rfl rfl dJ5_append_c97b9_50 (L' := (SBO b v9_1 ml (n + 2) :: BYO cy v9_1 (sb_cap (n + 2) m) g9_5 :: E)) rfl ?_
    refine r_aload_n C dJ5_append_c97b9_53 rfl ?_
    exact r_aret C hr (Or.inl ⟨_, rfl⟩) dJ5_append_c97b9_54 ⟨v9_1, g9_5, f_6, rfl, rfl⟩ (by first | (simp only [rmk, rmz]; omega) | (simp only [rmk, rmz]; done) | omega) (by first | (simp only [rmk, rmz]; omega) | (simp only [rmk, rmz]; done) | omega)
set_option maxRecDepth 100000 in
set_option maxHeartbeats 400000 in
theorem C_asbInt_n2 {l : Launch} {D : va_G} {cy : Nat → ClassId} {X : (Nat → Prop) → State → Heap → Prop} {aK aV : Nat → Nat} {tO tT : Nat} {gO gT : Nat → Int32} {U E : va_W} {b : Nat} {v : Nat} {m : Nat} {n : Nat} {g : Nat → Int32} {ml : Int32} {x : Int32} {k : Nat} (hX : EnvS X cy aK aV tO tT gO gT) (hm : m ≤ 65536) (hnm : n ≤ m) (hf : sb_Fit g) (hx : x = -(nI k)) (hk0 : 10 ≤ k) (hk : k < 100) : Cm l D cy X yJ5_append_c97b9 cJ5_append_c97b9 4 (some (.object "java/lang/AbstractStringBuilder")) (rmk 4 (gC (n + 3) m) (gS (n + 3) m) 160) [.ref b, .int x] (U ++ (SBO b v ml n :: BYO cy v m g :: E)) (fun v1 w1 => ∃ v9 : Nat, ∃ g9 : Nat → Int32, (sb_Fit g9) ∧ v1 = some (.ref b) ∧ w1 = U ++ (SBO b v9 ml (n + 3) :: BYO cy v9 (sb_cap (n + 3) m) g9 :: E)) (fun _ => False) := by
  refine Cm.ofF [some (.ref b), some (.int x), none, none] (plainFor_of_name pn_J5) rfl (Nat.le_of_ble_eq_true rfl) ?_
  intro p e s mI args below meth c A C hE hr hnt hn
  refine r_aload_n C dJ5_append_c97b9_0 rfl ?_
  refine t_sbg C 0 3 rfl (by decide) qf_J5_79 rfl rfl dJ5_append_c97b9_1 ?_
  refine r_istore_n C dJ5_append_c97b9_4 (by decide) rfl ?_
  refine r_iload_n C dJ5_append_c97b9_5 rfl ?_
  refine r_iload_n C dJ5_append_c97b9_6 rfl ?_
  refine c_S (st := [.int (nI n)]) hX.stb C hE (C_size_n2 (w := U ++ (SBO b v ml n :: BYO cy v m g :: E)) (x := x) hx (by first | omega | (simp [up2, *]; done) | (simp [up2, *]; omega) | (simp only [up2_eq]; omega) | (split <;> omega)) (by first | omega | (simp [up2, *]; done) | (simp [up2, *]; omega) | (simp only [up2_eq]; omega) | (split <;> omega))) pk_J6_stringSize_0f7a4 qm_J5_245 rfl rfl (Nat.le_of_ble_eq_true rfl) dJ5_append_c97b9_7 ⟨Nat.le_of_ble_eq_true rfl, Nat.le_of_ble_eq_true rfl⟩ ⟨by first | (simp only [rmk, rmz]; omega) | (simp only [rmk, rmz]; done) | omega, by first | (simp only [rmk, rmz]; omega) | (simp only [rmk, rmz]; done) | omega⟩ (fun v9 w9 h9 => ?_) (fun _ h9 => h9.elim)
  obtain ⟨rfl, rfl⟩ := h9
  refine r_iaddN C dJ5_append_c97b9_10 ?_
  refine r_istore_n C dJ5_append_c97b9_11 (by decide) rfl ?_
  refine r_aload_n C dJ5_append_c97b9_12 rfl ?_
  refine r_iload_n C dJ5_append_c97b9_13 rfl ?_
  refine c_U (st := []) hX C hE (C_ensure (U := U) (E := E) (b := b) (v := v) (m := m) (n := n) (g := g) (ml := ml) (q := (n + 3)) hX (by first | omega | (simp [up2, *]; done) | (simp [up2, *]; omega) | (simp only [up2_eq]; omega) | (split <;> omega)) (by first | omega | (simp [up2, *]; done) | (simp [up2, *]; omega) | (simp only [up2_eq]; omega) | (split <;> omega)) (by first | omega | (simp [up2, *]; done) | (simp [up2, *]; omega) | (simp only [up2_eq]; omega) | (split <;> omega))) pk_J5_ensureCapacityInternal_d00df qm_J5_100 (U.length + 0) (us_g rfl) rfl rfl (Nat.le_of_ble_eq_true rfl) dJ5_append_c97b9_14 ⟨Nat.le_of_ble_eq_true rfl, Nat.le_of_ble_eq_true rfl⟩ ⟨by first | (simp only [rmk, rmz]; omega) | (simp only [rmk, rmz]; done) | omega, by first | (simp only [rmk, rmz]; omega) | (simp only [rmk, rmz]; done) | omega⟩ (fun v9 w9 h9 => ?_) (fun _ h9 => h9.elim)
  obtain ⟨v9_1, g9_2, f_3, rfl, rfl⟩ := h9
  have hcg := sb_cap_ge (n + 3) m
  have hcl := cap_lt (q := n + 3) hm (by omega)
  refine r_aload_n C dJ5_append_c97b9_17 rfl ?_
  refine c_U (st := []) hX C hE (C_isLatin1 (U := U) (E := (BYO cy v9_1 (sb_cap (n + 3) m) g9_2 :: E)) (b := b) (v := v9_1) (n := n) (ml := ml) hX ) pk_J5_isLatin1_aae02 qm_J5_83 (U.length + 0) (us_g rfl) rfl rfl (Nat.le_of_ble_eq_true rfl) dJ5_append_c97b9_18 ⟨Nat.le_of_ble_eq_true rfl, Nat.le_of_ble_eq_true rfl⟩ ⟨by first | (simp only [rmk, rmz]; omega) | (simp only [rmk, rmz]; done) | omega, by first | (simp only [rmk, rmz]; omega) | (simp only [rmk, rmz]; done) | omega⟩ (fun v9 w9 h9 => ?_) (fun _ h9 => h9.elim)
  obtain ⟨rfl, rfl⟩ := h9
  refine r_ifN_eq (a := 1) (tgt := 37) C (by first | omega | (simp [up2, *]; done) | (simp [up2, *]; omega) | (simp only [up2_eq]; omega) | (split <;> omega)) dJ5_append_c97b9_21 (by decide) (fun h21_4 => ?_) (fun h21_4 => ?_)
  · exact absurd h21_4 (by first | omega | (simp [up2, *]; done) | (simp [up2, *]; omega) | (simp only [up2_eq]; omega) | (split <;> omega))
  · skip
    refine r_iload_n C dJ5_append_c97b9_24 rfl ?_
    refine r_iload_n C dJ5_append_c97b9_25 rfl ?_
    refine r_aload_n C dJ5_append_c97b9_26 rfl ?_
    refine t_sbg C 0 0 rfl (by decide) qf_J5_15 rfl rfl dJ5_append_c97b9_27 ?_
    refine t_perm [SBO b v9_1 ml n, BYO cy v9_1 (sb_cap (n + 3) m) g9_2] [BYO cy v9_1 (sb_cap (n + 3) m) g9_2, SBO b v9_1 ml n] [1, 0] rfl (by decide) rfl (w' := U ++ (BYO cy v9_1 (sb_cap (n + 3) m) g9_2 :: SBO b v9_1 ml n :: E)) rfl ?_
    refine c_S (st := []) hX.stb C hE (C_chars_n2 (U := U) (E := (SBO b v9_1 ml n :: E)) (x := x) (ix := (n + 3)) (v := v9_1) (m := (sb_cap (n + 3) m)) (g := g9_2) hX hx (by first | omega | (simp [up2, *]; done) | (simp [up2, *]; omega) | (simp only [up2_eq]; omega) | (split <;> omega)) (by first | omega | (simp [up2, *]; done) | (simp [up2, *]; omega) | (simp only [up2_eq]; omega) | (split <;> omega)) (by first | omega | (simp [up2, *]; done) | (simp [up2, *]; omega) | (simp only [up2_eq]; omega) | (split <;> omega)) (by omega) (by omega) f_3) pk_J6_getChars_ba4f3 qm_J5_248 rfl rfl (Nat.le_of_ble_eq_true rfl) dJ5_append_c97b9_30 ⟨Nat.le_of_ble_eq_true rfl, Nat.le_of_ble_eq_true rfl⟩ ⟨by first | (simp only [rmk, rmz]; omega) | (simp only [rmk, rmz]; done) | omega, by first | (simp only [rmk, rmz]; omega) | (simp only [rmk, rmz]; done) | omega⟩ (fun v9 w9 h9 => ?_) (fun _ h9 => h9.elim)
    obtain ⟨g9_5, f_6, rfl, rfl⟩ := h9
    refine r_pop C dJ5_append_c97b9_33 rfl ?_
    refine r_goto (tgt := 48) C dJ5_append_c97b9_34 (by decide) ?_
    refine t_perm [BYO cy v9_1 (sb_cap (n + 3) m) g9_5, SBO b v9_1 ml n] [SBO b v9_1 ml n, BYO cy v9_1 (sb_cap (n + 3) m) g9_5] [1, 0] rfl (by decide) rfl (w' := U ++ (SBO b v9_1 ml n :: BYO cy v9_1 (sb_cap (n + 3) m) g9_5 :: E)) rfl ?_
    refine r_aload_n C dJ5_append_c97b9_48 rfl ?_
    refine r_iload_n C dJ5_append_c97b9_49 rfl ?_
    refine t_sbp (ty := .int) C 0 3 rfl (by decide) rfl qf_J5_79 rfl rfl rfl rfl rfl dJ5_append_c97b9_50 (L' := (SBO b v9_1 ml (n + 3) :: BYO cy v9_1 (sb_cap (n + 3) m) g9_5 :: E)) rfl ?_
    refine r_aload_n C dJ5_append_c97b9_53 rfl ?_
    exact r_aret C hr (Or.inl ⟨_, rfl⟩) dJ5_append_c97b9_54 ⟨v9_1, g9_5, f_6, rfl, rfl⟩ (by first | (simp only [rmk, rmz]; omega) | (simp only [rmk, rmz]; done) | omega) (by first | (simp only [rmk, rmz]; omega) | (simp only [rmk, rmz]; done) | omega)
end PT_59
/-! ===== 60.text5 -/
section PT_60
/-! TEXTS: a builder made, its text -/
theorem i_pos {x : Int32} (h : 0 ≤ x.toInt) (h2 : x.toInt ≤ 99) : x = nI x.toInt.toNat := by
  apply Int32.toInt_inj.mp
  rw [nI_toInt (by omega)]
  omega
theorem i_neg {x : Int32} (h : x.toInt < 0) (h2 : -99 ≤ x.toInt) : x = -(nI x.toInt.natAbs) := by
  apply Int32.toInt_inj.mp
  rw [nk_toInt (by omega)]
  omega
theorem C_asbInt {l : Launch} {D : va_G} {cy : Nat → ClassId} {X : (Nat → Prop) → State → Heap → Prop} {aK aV : Nat → Nat} {tO tT : Nat} {gO gT : Nat → Int32} {U E : va_W} {b : Nat} {v : Nat} {m : Nat} {n : Nat} {g : Nat → Int32} {ml : Int32} {x : Int32} (hX : EnvS X cy aK aV tO tT gO gT) (hm : m ≤ 65536) (hnm : n ≤ m) (hf : sb_Fit g) (hib : -99 ≤ x.toInt ∧ x.toInt ≤ 99) : Cm l D cy X yJ5_append_c97b9 cJ5_append_c97b9 4 (some (.object "java/lang/AbstractStringBuilder")) (rmk 4 (gC (n + sz9 x) m) (gS (n + sz9 x) m) 160) [.ref b, .int x] (U ++ (SBO b v ml n :: BYO cy v m g :: E)) (fun v1 w1 => ∃ v9 : Nat, ∃ g9 : Nat → Int32, (sb_Fit g9) ∧ v1 = some (.ref b) ∧ w1 = U ++ (SBO b v9 ml (n + sz9 x) :: BYO cy v9 (sb_cap (n + sz9 x) m) g9 :: E)) (fun _ => False) := by
  by_cases h0 : x.toInt < 0
  · by_cases h1 : x.toInt.natAbs < 10
    · have e : sz9 x = 2 := by simp only [sz9, if_pos h0, if_pos h1]
      rw [e]
      exact C_asbInt_n1 hX hm hnm hf (i_neg h0 hib.1) (by omega) h1
    · have e : sz9 x = 3 := by simp only [sz9, if_pos h0, if_neg h1]
      rw [e]
      exact C_asbInt_n2 hX hm hnm hf (i_neg h0 hib.1) (by omega) (by omega)
  · by_cases h1 : x.toInt.natAbs < 10
    · have e : sz9 x = 1 := by simp only [sz9, if_neg h0, if_pos h1]
      rw [e]
      exact C_asbInt_p1 hX hm hnm hf (i_pos (by omega) hib.2) (by omega)
    · have e : sz9 x = 2 := by simp only [sz9, if_neg h0, if_neg h1]
      rw [e]
      exact C_asbInt_p2 hX hm hnm hf (i_pos (by omega) hib.2) (by omega) (by omega)
theorem sz9_le (x : Int32) : sz9 x ≤ 3 := by
  unfold sz9
  split <;> split <;> omega
theorem sz9_pos (x : Int32) : 1 ≤ sz9 x := by
  unfold sz9
  split <;> split <;> omega
theorem dJ4_append_bf812_0 : decode cJ4_append_bf812 0 = .ok (.aload_n 0, 1) := dqo_42 (kb_of ke_J4_append_bf812 0 rfl)
theorem dJ4_append_bf812_1 : decode cJ4_append_bf812 1 = .ok (.iload_n 1, 1) := dqo_27 (kb_of ke_J4_append_bf812 1 rfl)
theorem dJ4_append_bf812_2 : decode cJ4_append_bf812 2 = .ok (.invokespecial 53, 3) := dqo_183 0 53 (kb_of ke_J4_append_bf812 2 rfl) (kb_of ke_J4_append_bf812 3 rfl) (kb_of ke_J4_append_bf812 4 rfl)
theorem dJ4_append_bf812_5 : decode cJ4_append_bf812 5 = .ok (.pop, 1) := dqo_87 (kb_of ke_J4_append_bf812 5 rfl)
theorem dJ4_append_bf812_6 : decode cJ4_append_bf812 6 = .ok (.aload_n 0, 1) := dqo_42 (kb_of ke_J4_append_bf812 6 rfl)
theorem dJ4_append_bf812_7 : decode cJ4_append_bf812 7 = .ok (.areturn, 1) := dqo_176 (kb_of ke_J4_append_bf812 7 rfl)
theorem pkS_J5_append_c97b9 : PkSU yJ5_append_c97b9 cJ5_append_c97b9 4 (some (.object "java/lang/AbstractStringBuilder")) 1 := ⟨⟨qe_J5_append_c97b9, qi_J5_append_c97b9, qc_J5_append_c97b9⟩, by decide +kernel⟩
set_option maxRecDepth 100000 in
set_option maxHeartbeats 400000 in
theorem C_sbInt {l : Launch} {D : va_G} {cy : Nat → ClassId} {X : (Nat → Prop) → State → Heap → Prop} {aK aV : Nat → Nat} {tO tT : Nat} {gO gT : Nat → Int32} {U E : va_W} {b : Nat} {v : Nat} {m : Nat} {n : Nat} {g : Nat → Int32} {ml : Int32} {x : Int32} (hX : EnvS X cy aK aV tO tT gO gT) (hm : m ≤ 65536) (hnm : n ≤ m) (hf : sb_Fit g) (hib : -99 ≤ x.toInt ∧ x.toInt ≤ 99) : Cm l D cy X yJ4_append_bf812 cJ4_append_bf812 2 (some (.object "java/lang/StringBuilder")) (rmk 5 (gC (n + sz9 x) m) (gS (n + sz9 x) m) 200) [.ref b, .int x] (U ++ (SBO b v ml n :: BYO cy v m g :: E)) (fun v1 w1 => ∃ v9 : Nat, ∃ g9 : Nat → Int32, (sb_Fit g9) ∧ v1 = some (.ref b) ∧ w1 = U ++ (SBO b v9 ml (n + sz9 x) :: BYO cy v9 (sb_cap (n + sz9 x) m) g9 :: E)) (fun _ => False) := by
  refine Cm.ofF [some (.ref b), some (.int x)] (plainFor_of_name pn_J4) rfl (Nat.le_of_ble_eq_true rfl) ?_
  intro p e s mI args below meth c A C hE hr hnt hn
  refine r_aload_n C dJ4_append_bf812_0 rfl ?_
  refine r_iload_n C dJ4_append_bf812_1 rfl ?_
  refine c_SU (st := []) hX C hE (C_asbInt (U := U) (E := E) (b := b) (v := v) (m := m) (n := n) (g := g) (ml := ml) (x := x) hX (by first | omega | (simp [up2, *]; done) | (simp [up2, *]; omega) | (simp only [up2_eq]; omega) | (split <;> omega)) (by first | omega | (simp [up2, *]; done) | (simp [up2, *]; omega) | (simp only [up2_eq]; omega) | (split <;> omega)) hf hib) pkS_J5_append_c97b9 qm_J4_53 (U.length + 0) (us_g rfl) rfl rfl (Nat.le_of_ble_eq_true rfl) dJ4_append_bf812_2 ⟨Nat.le_of_ble_eq_true rfl, Nat.le_of_ble_eq_true rfl⟩ ⟨by first | (simp only [rmk, rmz]; omega) | (simp only [rmk, rmz]; done) | omega, by first | (simp only [rmk, rmz]; omega) | (simp only [rmk, rmz]; done) | omega⟩ (fun v9 w9 h9 => ?_) (fun _ h9 => h9.elim)
  obtain ⟨v9_1, g9_2, f_3, rfl, rfl⟩ := h9
  refine r_pop C dJ4_append_bf812_5 rfl ?_
  refine r_aload_n C dJ4_append_bf812_6 rfl ?_
  exact r_aret C hr (Or.inl ⟨_, rfl⟩) dJ4_append_bf812_7 ⟨v9_1, g9_2, f_3, rfl, rfl⟩ (by first | (simp only [rmk, rmz]; omega) | (simp only [rmk, rmz]; done) | omega) (by first | (simp only [rmk, rmz]; omega) | (simp only [rmk, rmz]; done) | omega)
theorem dJ5_init_d00df_0 : decode cJ5_init_d00df 0 = .ok (.aload_n 0, 1) := dqo_42 (kb_of ke_J5_init_d00df 0 rfl)
theorem dJ5_init_d00df_1 : decode cJ5_init_d00df 1 = .ok (.invokespecial 3, 3) := dqo_183 0 3 (kb_of ke_J5_init_d00df 1 rfl) (kb_of ke_J5_init_d00df 2 rfl) (kb_of ke_J5_init_d00df 3 rfl)
theorem dJ5_init_d00df_4 : decode cJ5_init_d00df 4 = .ok (.getstatic 18, 3) := dqo_178 0 18 (kb_of ke_J5_init_d00df 4 rfl) (kb_of ke_J5_init_d00df 5 rfl) (kb_of ke_J5_init_d00df 6 rfl)
theorem dJ5_init_d00df_7 : decode cJ5_init_d00df 7 = .ok (.ifCond .eq 18, 3) := dqo_153 0 18 (by decide) (kb_of ke_J5_init_d00df 7 rfl) (kb_of ke_J5_init_d00df 8 rfl) (kb_of ke_J5_init_d00df 9 rfl)
theorem dJ5_init_d00df_10 : decode cJ5_init_d00df 10 = .ok (.aload_n 0, 1) := dqo_42 (kb_of ke_J5_init_d00df 10 rfl)
theorem dJ5_init_d00df_11 : decode cJ5_init_d00df 11 = .ok (.iload_n 1, 1) := dqo_27 (kb_of ke_J5_init_d00df 11 rfl)
theorem dJ5_init_d00df_12 : decode cJ5_init_d00df 12 = .ok (.newarray .byte, 2) := dqo_188_8 (kb_of ke_J5_init_d00df 12 rfl) (kb_of ke_J5_init_d00df 13 rfl)
theorem dJ5_init_d00df_14 : decode cJ5_init_d00df 14 = .ok (.putfield 15, 3) := dqo_181 0 15 (kb_of ke_J5_init_d00df 14 rfl) (kb_of ke_J5_init_d00df 15 rfl) (kb_of ke_J5_init_d00df 16 rfl)
theorem dJ5_init_d00df_17 : decode cJ5_init_d00df 17 = .ok (.aload_n 0, 1) := dqo_42 (kb_of ke_J5_init_d00df 17 rfl)
theorem dJ5_init_d00df_18 : decode cJ5_init_d00df 18 = .ok (.iconst 0, 1) := dqo_3 (kb_of ke_J5_init_d00df 18 rfl)
theorem dJ5_init_d00df_19 : decode cJ5_init_d00df 19 = .ok (.putfield 22, 3) := dqo_181 0 22 (kb_of ke_J5_init_d00df 19 rfl) (kb_of ke_J5_init_d00df 20 rfl) (kb_of ke_J5_init_d00df 21 rfl)
theorem dJ5_init_d00df_22 : decode cJ5_init_d00df 22 = .ok (.goto 16, 3) := dqo_167 0 16 (by decide) (kb_of ke_J5_init_d00df 22 rfl) (kb_of ke_J5_init_d00df 23 rfl) (kb_of ke_J5_init_d00df 24 rfl)
theorem dJ5_init_d00df_38 : decode cJ5_init_d00df 38 = .ok (.return_, 1) := dqo_177 (kb_of ke_J5_init_d00df 38 rfl)
set_option maxRecDepth 100000 in
set_option maxHeartbeats 400000 in
theorem C_asbInit {l : Launch} {D : va_G} {cy : Nat → ClassId} {X : (Nat → Prop) → State → Heap → Prop} {aK aV : Nat → Nat} {tO tT : Nat} {gO gT : Nat → Int32} {U E : va_W} {b : Nat} {q : Nat} (hX : EnvS X cy aK aV tO tT gO gT) (hq : q < 1000) : Cm l D cy X yJ5_init_d00df cJ5_init_d00df 2 none (rmk 1 1 q 60) [.ref b, .int (nI q)] (U ++ ((b, Sum.inr (1, [Value.null, Value.int (nI 0), Value.int (nI 0), Value.int (nI 0)])) :: E)) (fun v1 w1 => ∃ v9 : Nat, ∃ g9 : Nat → Int32, (sb_Fit g9) ∧ v1 = none ∧ w1 = U ++ (SBO b v9 (nI 0) 0 :: BYO cy v9 q g9 :: E)) (fun _ => False) := by
  refine Cm.ofF [some (.ref b), some (.int (nI q))] (plainFor_of_name pn_J5) rfl (Nat.le_of_ble_eq_true rfl) ?_
  intro p e s mI args below meth c A C hE hr hnt hn
  refine r_aload_n C dJ5_init_d00df_0 rfl ?_
  refine r_objI C qm_J5_3 dJ5_init_d00df_1 (Nat.le_of_ble_eq_true rfl) (Nat.le_of_ble_eq_true rfl) ?_
  refine j_cs hX C hE qf_J5_18 dJ5_init_d00df_4 ?_
  refine r_ifN_eq (a := 1) (tgt := 25) C (by first | omega | (simp [up2, *]; done) | (simp [up2, *]; omega) | (simp only [up2_eq]; omega) | (split <;> omega)) dJ5_init_d00df_7 (by decide) (fun h7_1 => ?_) (fun h7_1 => ?_)
  · exact absurd h7_1 (by first | omega | (simp [up2, *]; done) | (simp [up2, *]; omega) | (simp only [up2_eq]; omega) | (split <;> omega))
  · skip
    refine r_aload_n C dJ5_init_d00df_10 rfl ?_
    refine r_iload_n C dJ5_init_d00df_11 rfl ?_
    refine t_newB C qa_byte (by first | omega | (simp [up2, *]; done) | (simp [up2, *]; omega) | (simp only [up2_eq]; omega) | (split <;> omega)) (by first | (simp only [rmk, rmz]; omega) | (simp only [rmk, rmz]; done) | omega) (by first | (simp only [rmk, rmz]; omega) | (simp only [rmk, rmz]; done) | omega) dJ5_init_d00df_12 (fun q_2 => ?_)
    refine t_sbp (ty := .array .byte) C 1 0 rfl (by decide) rfl qf_J5_15 rfl rfl rfl rfl rfl dJ5_init_d00df_14 (L' := (BYO cy q_2 q (fun _ => 0) :: SBO b q_2 (nI 0) 0 :: E)) rfl ?_
    refine t_perm [BYO cy q_2 q (fun _ => 0), SBO b q_2 (nI 0) 0] [SBO b q_2 (nI 0) 0, BYO cy q_2 q (fun _ => 0)] [1, 0] rfl (by decide) rfl (w' := U ++ (SBO b q_2 (nI 0) 0 :: BYO cy q_2 q (fun _ => 0) :: E)) rfl ?_
    refine r_aload_n C dJ5_init_d00df_17 rfl ?_
    refine r_iconst (v := (nI 0)) C dJ5_init_d00df_18 (by decide) ?_
    refine t_sbp (ty := .byte) C 0 1 rfl (by decide) rfl qf_J5_22 rfl rfl rfl rfl rfl dJ5_init_d00df_19 (L' := (SBO b q_2 (nI 0) 0 :: BYO cy q_2 q (fun _ => 0) :: E)) rfl ?_
    refine r_goto (tgt := 38) C dJ5_init_d00df_22 (by decide) ?_
    exact r_vret C hr dJ5_init_d00df_38 ⟨q_2, _, sb_fit0, rfl, rfl⟩ (by first | (simp only [rmk, rmz]; omega) | (simp only [rmk, rmz]; done) | omega) (by first | (simp only [rmk, rmz]; omega) | (simp only [rmk, rmz]; done) | omega)
theorem dJ4_init_da8c8_0 : decode cJ4_init_da8c8 0 = .ok (.aload_n 0, 1) := dqo_42 (kb_of ke_J4_init_da8c8 0 rfl)
theorem dJ4_init_da8c8_1 : decode cJ4_init_da8c8 1 = .ok (.bipush 16, 2) := dqo_16 16 (by decide) (kb_of ke_J4_init_da8c8 1 rfl) (kb_of ke_J4_init_da8c8 2 rfl)
theorem dJ4_init_da8c8_3 : decode cJ4_init_da8c8 3 = .ok (.invokespecial 1, 3) := dqo_183 0 1 (kb_of ke_J4_init_da8c8 3 rfl) (kb_of ke_J4_init_da8c8 4 rfl) (kb_of ke_J4_init_da8c8 5 rfl)
theorem dJ4_init_da8c8_6 : decode cJ4_init_da8c8 6 = .ok (.return_, 1) := dqo_177 (kb_of ke_J4_init_da8c8 6 rfl)
theorem pk_J5_init_d00df : PkI yJ5_init_d00df cJ5_init_d00df 2 1 := ⟨⟨qi_J5_init_d00df, qz_J5, qc_J5_init_d00df⟩, rfl, mh_J5.1, mh_J5.2, pd_6⟩
set_option maxRecDepth 100000 in
set_option maxHeartbeats 400000 in
theorem C_sbInit {l : Launch} {D : va_G} {cy : Nat → ClassId} {X : (Nat → Prop) → State → Heap → Prop} {aK aV : Nat → Nat} {tO tT : Nat} {gO gT : Nat → Int32} {U E : va_W} {b : Nat} (hX : EnvS X cy aK aV tO tT gO gT)  : Cm l D cy X yJ4_init_da8c8 cJ4_init_da8c8 1 none (rmk 2 1 16 100) [.ref b] (U ++ ((b, Sum.inr (1, [Value.null, Value.int (nI 0), Value.int (nI 0), Value.int (nI 0)])) :: E)) (fun v1 w1 => ∃ v9 : Nat, ∃ g9 : Nat → Int32, (sb_Fit g9) ∧ v1 = none ∧ w1 = U ++ (SBO b v9 (nI 0) 0 :: BYO cy v9 16 g9 :: E)) (fun _ => False) := by
  refine Cm.ofF [some (.ref b)] (plainFor_of_name pn_J4) rfl (Nat.le_of_ble_eq_true rfl) ?_
  intro p e s mI args below meth c A C hE hr hnt hn
  refine r_aload_n C dJ4_init_da8c8_0 rfl ?_
  refine r_bipush (v := (nI 16)) C dJ4_init_da8c8_1 (by decide) ?_
  refine c_I (st := []) hX.stb C hE (C_asbInit (U := U) (E := E) (b := b) (q := 16) hX (by first | omega | (simp [up2, *]; done) | (simp [up2, *]; omega) | (simp only [up2_eq]; omega) | (split <;> omega))) pk_J5_init_d00df qm_J4_1 rfl rfl (Nat.le_of_ble_eq_true rfl) dJ4_init_da8c8_3 ⟨Nat.le_of_ble_eq_true rfl, Nat.le_of_ble_eq_true rfl⟩ ⟨by first | (simp only [rmk, rmz]; omega) | (simp only [rmk, rmz]; done) | omega, by first | (simp only [rmk, rmz]; omega) | (simp only [rmk, rmz]; done) | omega⟩ (fun v9 w9 h9 => ?_) (fun _ h9 => h9.elim)
  obtain ⟨v9_1, g9_2, f_3, rfl, rfl⟩ := h9
  exact r_vret C hr dJ4_init_da8c8_6 ⟨v9_1, g9_2, f_3, rfl, rfl⟩ (by first | (simp only [rmk, rmz]; omega) | (simp only [rmk, rmz]; done) | omega) (by first | (simp only [rmk, rmz]; omega) | (simp only [rmk, rmz]; done) | omega)
theorem dJ5_getValue_6d5f1_0 : decode cJ5_getValue_6d5f1 0 = .ok (.aload_n 0, 1) := dqo_42 (kb_of ke_J5_getValue_6d5f1 0 rfl)
theorem dJ5_getValue_6d5f1_1 : decode cJ5_getValue_6d5f1 1 = .ok (.getfield 15, 3) := dqo_180 0 15 (kb_of ke_J5_getValue_6d5f1 1 rfl) (kb_of ke_J5_getValue_6d5f1 2 rfl) (kb_of ke_J5_getValue_6d5f1 3 rfl)
theorem dJ5_getValue_6d5f1_4 : decode cJ5_getValue_6d5f1 4 = .ok (.areturn, 1) := dqo_176 (kb_of ke_J5_getValue_6d5f1 4 rfl)
set_option maxRecDepth 100000 in
set_option maxHeartbeats 400000 in
theorem C_getValue {l : Launch} {D : va_G} {cy : Nat → ClassId} {X : (Nat → Prop) → State → Heap → Prop} {aK aV : Nat → Nat} {tO tT : Nat} {gO gT : Nat → Int32} {U E : va_W} {b : Nat} {v : Nat} {n : Nat} {ml : Int32} (hX : EnvS X cy aK aV tO tT gO gT)  : Cm l D cy X yJ5_getValue_6d5f1 cJ5_getValue_6d5f1 1 (some (.array .byte)) (rmz 0 0) [.ref b] (U ++ (SBO b v ml n :: E)) (fun v1 w1 => v1 = some (.ref v) ∧ w1 = U ++ (SBO b v ml n :: E)) (fun _ => False) := by
  refine Cm.ofF [some (.ref b)] (plainFor_of_name pn_J5) rfl (Nat.le_of_ble_eq_true rfl) ?_
  intro p e s mI args below meth c A C hE hr hnt hn
  refine r_aload_n C dJ5_getValue_6d5f1_0 rfl ?_
  refine t_sbg C 0 0 rfl (by decide) qf_J5_15 rfl rfl dJ5_getValue_6d5f1_1 ?_
  exact r_aret C hr (Or.inr ⟨_, rfl⟩) dJ5_getValue_6d5f1_4 ⟨rfl, rfl⟩ (by first | (simp only [rmk, rmz]; omega) | (simp only [rmk, rmz]; done) | omega) (by first | (simp only [rmk, rmz]; omega) | (simp only [rmk, rmz]; done) | omega)
theorem dJ5_length_8abf5_0 : decode cJ5_length_8abf5 0 = .ok (.aload_n 0, 1) := dqo_42 (kb_of ke_J5_length_8abf5 0 rfl)
theorem dJ5_length_8abf5_1 : decode cJ5_length_8abf5 1 = .ok (.getfield 79, 3) := dqo_180 0 79 (kb_of ke_J5_length_8abf5 1 rfl) (kb_of ke_J5_length_8abf5 2 rfl) (kb_of ke_J5_length_8abf5 3 rfl)
theorem dJ5_length_8abf5_4 : decode cJ5_length_8abf5 4 = .ok (.ireturn, 1) := dqo_172 (kb_of ke_J5_length_8abf5 4 rfl)
set_option maxRecDepth 100000 in
set_option maxHeartbeats 400000 in
theorem C_asbLength {l : Launch} {D : va_G} {cy : Nat → ClassId} {X : (Nat → Prop) → State → Heap → Prop} {aK aV : Nat → Nat} {tO tT : Nat} {gO gT : Nat → Int32} {U E : va_W} {b : Nat} {v : Nat} {n : Nat} {ml : Int32} (hX : EnvS X cy aK aV tO tT gO gT)  : Cm l D cy X yJ5_length_8abf5 cJ5_length_8abf5 1 (some .int) (rmz 0 0) [.ref b] (U ++ (SBO b v ml n :: E)) (fun v1 w1 => v1 = some (.int (nI n)) ∧ w1 = U ++ (SBO b v ml n :: E)) (fun _ => False) := by
  refine Cm.ofF [some (.ref b)] (plainFor_of_name pn_J5) rfl (Nat.le_of_ble_eq_true rfl) ?_
  intro p e s mI args below meth c A C hE hr hnt hn
  refine r_aload_n C dJ5_length_8abf5_0 rfl ?_
  refine t_sbg C 0 3 rfl (by decide) qf_J5_79 rfl rfl dJ5_length_8abf5_1 ?_
  exact r_iret C hr dJ5_length_8abf5_4 ⟨rfl, rfl⟩ (by first | (simp only [rmk, rmz]; omega) | (simp only [rmk, rmz]; done) | omega) (by first | (simp only [rmk, rmz]; omega) | (simp only [rmk, rmz]; done) | omega)
theorem dJ4_length_8abf5_0 : decode cJ4_length_8abf5 0 = .ok (.aload_n 0, 1) := dqo_42 (kb_of ke_J4_length_8abf5 0 rfl)
theorem dJ4_length_8abf5_1 : decode cJ4_length_8abf5 1 = .ok (.invokespecial 343, 3) := dqo_183 1 87 (kb_of ke_J4_length_8abf5 1 rfl) (kb_of ke_J4_length_8abf5 2 rfl) (kb_of ke_J4_length_8abf5 3 rfl)
theorem dJ4_length_8abf5_4 : decode cJ4_length_8abf5 4 = .ok (.ireturn, 1) := dqo_172 (kb_of ke_J4_length_8abf5 4 rfl)
theorem pkS_J5_length_8abf5 : PkSU yJ5_length_8abf5 cJ5_length_8abf5 1 (some .int) 0 := ⟨⟨qe_J5_length_8abf5, qi_J5_length_8abf5, qc_J5_length_8abf5⟩, by decide +kernel⟩
set_option maxRecDepth 100000 in
set_option maxHeartbeats 400000 in
theorem C_sbLength {l : Launch} {D : va_G} {cy : Nat → ClassId} {X : (Nat → Prop) → State → Heap → Prop} {aK aV : Nat → Nat} {tO tT : Nat} {gO gT : Nat → Int32} {U E : va_W} {b : Nat} {v : Nat} {n : Nat} {ml : Int32} (hX : EnvS X cy aK aV tO tT gO gT)  : Cm l D cy X yJ4_length_8abf5 cJ4_length_8abf5 1 (some .int) (rmz 1 40) [.ref b] (U ++ (SBO b v ml n :: E)) (fun v1 w1 => v1 = some (.int (nI n)) ∧ w1 = U ++ (SBO b v ml n :: E)) (fun _ => False) := by
  refine Cm.ofF [some (.ref b)] (plainFor_of_name pn_J4) rfl (Nat.le_of_ble_eq_true rfl) ?_
  intro p e s mI args below meth c A C hE hr hnt hn
  refine r_aload_n C dJ4_length_8abf5_0 rfl ?_
  refine c_SU (st := []) hX C hE (C_asbLength (U := U) (E := E) (b := b) (v := v) (n := n) (ml := ml) hX ) pkS_J5_length_8abf5 qm_J4_343 (U.length + 0) (us_g rfl) rfl rfl (Nat.le_of_ble_eq_true rfl) dJ4_length_8abf5_1 ⟨Nat.le_of_ble_eq_true rfl, Nat.le_of_ble_eq_true rfl⟩ ⟨by first | (simp only [rmk, rmz]; omega) | (simp only [rmk, rmz]; done) | omega, by first | (simp only [rmk, rmz]; omega) | (simp only [rmk, rmz]; done) | omega⟩ (fun v9 w9 h9 => ?_) (fun _ h9 => h9.elim)
  obtain ⟨rfl, rfl⟩ := h9
  exact r_iret C hr dJ4_length_8abf5_4 ⟨rfl, rfl⟩ (by first | (simp only [rmk, rmz]; omega) | (simp only [rmk, rmz]; done) | omega) (by first | (simp only [rmk, rmz]; omega) | (simp only [rmk, rmz]; done) | omega)
theorem dJ7_checkLength_df160_0 : decode cJ7_checkLength_df160 0 = .ok (.iload_n 1, 1) := dqo_27 (kb_of ke_J7_checkLength_df160 0 rfl)
theorem dJ7_checkLength_df160_1 : decode cJ7_checkLength_df160 1 = .ok (.iload_n 0, 1) := dqo_26 (kb_of ke_J7_checkLength_df160 1 rfl)
theorem dJ7_checkLength_df160_2 : decode cJ7_checkLength_df160 2 = .ok (.if_icmp .ge 35, 3) := dqo_162 0 35 (by decide) (kb_of ke_J7_checkLength_df160 2 rfl) (kb_of ke_J7_checkLength_df160 3 rfl) (kb_of ke_J7_checkLength_df160 4 rfl)
theorem dJ7_checkLength_df160_37 : decode cJ7_checkLength_df160 37 = .ok (.return_, 1) := dqo_177 (kb_of ke_J7_checkLength_df160 37 rfl)
set_option maxRecDepth 100000 in
set_option maxHeartbeats 400000 in
theorem C_checkLength {l : Launch} {D : va_G} {cy : Nat → ClassId} {X : (Nat → Prop) → State → Heap → Prop} {w : va_W} {o : Nat} {k : Nat}  (hk : o ≤ k) (hkl : k < 1000000) : Cm l D cy X yJ7_checkLength_df160 cJ7_checkLength_df160 2 none (rmz 0 0) [.int (nI o), .int (nI k)] (w) (fun v1 w1 => v1 = none ∧ w1 = w) (fun _ => False) := by
  refine Cm.ofF [some (.int (nI o)), some (.int (nI k))] (plainFor_of_name pn_J7) rfl (Nat.le_of_ble_eq_true rfl) ?_
  intro p e s mI args below meth c A C hE hr hnt hn
  refine r_iload_n C dJ7_checkLength_df160_0 rfl ?_
  refine r_iload_n C dJ7_checkLength_df160_1 rfl ?_
  refine r_icN_ge (a := k) (b := o) (tgt := 37) C (by first | omega | (simp [up2, *]; done) | (simp [up2, *]; omega) | (simp only [up2_eq]; omega) | (split <;> omega)) (by first | omega | (simp [up2, *]; done) | (simp [up2, *]; omega) | (simp only [up2_eq]; omega) | (split <;> omega)) dJ7_checkLength_df160_2 (by decide) (fun h2_1 => ?_) (fun h2_1 => ?_)
  · skip
    exact r_vret C hr dJ7_checkLength_df160_37 ⟨rfl, rfl⟩ (by first | (simp only [rmk, rmz]; omega) | (simp only [rmk, rmz]; done) | omega) (by first | (simp only [rmk, rmz]; omega) | (simp only [rmk, rmz]; done) | omega)
  · exact absurd h2_1 (by first | omega | (simp [up2, *]; done) | (simp [up2, *]; omega) | (simp only [up2_eq]; omega) | (split <;> omega))
theorem dJ7_copyOfRangeByte_39247_0 : decode cJ7_copyOfRangeByte_39247 0 = .ok (.iload_n 1, 1) := dqo_27 (kb_of ke_J7_copyOfRangeByte_39247 0 rfl)
theorem dJ7_copyOfRangeByte_39247_1 : decode cJ7_copyOfRangeByte_39247 1 = .ok (.iload_n 2, 1) := dqo_28 (kb_of ke_J7_copyOfRangeByte_39247 1 rfl)
theorem dJ7_copyOfRangeByte_39247_2 : decode cJ7_copyOfRangeByte_39247 2 = .ok (.invokestatic 343, 3) := dqo_184 1 87 (kb_of ke_J7_copyOfRangeByte_39247 2 rfl) (kb_of ke_J7_copyOfRangeByte_39247 3 rfl) (kb_of ke_J7_copyOfRangeByte_39247 4 rfl)
theorem dJ7_copyOfRangeByte_39247_5 : decode cJ7_copyOfRangeByte_39247 5 = .ok (.iload_n 2, 1) := dqo_28 (kb_of ke_J7_copyOfRangeByte_39247 5 rfl)
theorem dJ7_copyOfRangeByte_39247_6 : decode cJ7_copyOfRangeByte_39247 6 = .ok (.iload_n 1, 1) := dqo_27 (kb_of ke_J7_copyOfRangeByte_39247 6 rfl)
theorem dJ7_copyOfRangeByte_39247_7 : decode cJ7_copyOfRangeByte_39247 7 = .ok (.isub, 1) := dqo_100 (kb_of ke_J7_copyOfRangeByte_39247 7 rfl)
theorem dJ7_copyOfRangeByte_39247_8 : decode cJ7_copyOfRangeByte_39247 8 = .ok (.istore_n 3, 1) := dqo_62 (kb_of ke_J7_copyOfRangeByte_39247 8 rfl)
theorem dJ7_copyOfRangeByte_39247_9 : decode cJ7_copyOfRangeByte_39247 9 = .ok (.iload_n 3, 1) := dqo_29 (kb_of ke_J7_copyOfRangeByte_39247 9 rfl)
theorem dJ7_copyOfRangeByte_39247_10 : decode cJ7_copyOfRangeByte_39247 10 = .ok (.newarray .byte, 2) := dqo_188_8 (kb_of ke_J7_copyOfRangeByte_39247 10 rfl) (kb_of ke_J7_copyOfRangeByte_39247 11 rfl)
theorem dJ7_copyOfRangeByte_39247_12 : decode cJ7_copyOfRangeByte_39247 12 = .ok (.astore 4, 2) := dqo_58 4 (kb_of ke_J7_copyOfRangeByte_39247 12 rfl) (kb_of ke_J7_copyOfRangeByte_39247 13 rfl)
theorem dJ7_copyOfRangeByte_39247_14 : decode cJ7_copyOfRangeByte_39247 14 = .ok (.aload_n 0, 1) := dqo_42 (kb_of ke_J7_copyOfRangeByte_39247 14 rfl)
theorem dJ7_copyOfRangeByte_39247_15 : decode cJ7_copyOfRangeByte_39247 15 = .ok (.iload_n 1, 1) := dqo_27 (kb_of ke_J7_copyOfRangeByte_39247 15 rfl)
theorem dJ7_copyOfRangeByte_39247_16 : decode cJ7_copyOfRangeByte_39247 16 = .ok (.aload 4, 2) := dqo_25 4 (kb_of ke_J7_copyOfRangeByte_39247 16 rfl) (kb_of ke_J7_copyOfRangeByte_39247 17 rfl)
theorem dJ7_copyOfRangeByte_39247_18 : decode cJ7_copyOfRangeByte_39247 18 = .ok (.iconst 0, 1) := dqo_3 (kb_of ke_J7_copyOfRangeByte_39247 18 rfl)
theorem dJ7_copyOfRangeByte_39247_19 : decode cJ7_copyOfRangeByte_39247 19 = .ok (.aload_n 0, 1) := dqo_42 (kb_of ke_J7_copyOfRangeByte_39247 19 rfl)
theorem dJ7_copyOfRangeByte_39247_20 : decode cJ7_copyOfRangeByte_39247 20 = .ok (.arraylength, 1) := dqo_190 (kb_of ke_J7_copyOfRangeByte_39247 20 rfl)
theorem dJ7_copyOfRangeByte_39247_21 : decode cJ7_copyOfRangeByte_39247 21 = .ok (.iload_n 1, 1) := dqo_27 (kb_of ke_J7_copyOfRangeByte_39247 21 rfl)
theorem dJ7_copyOfRangeByte_39247_22 : decode cJ7_copyOfRangeByte_39247 22 = .ok (.isub, 1) := dqo_100 (kb_of ke_J7_copyOfRangeByte_39247 22 rfl)
theorem dJ7_copyOfRangeByte_39247_23 : decode cJ7_copyOfRangeByte_39247 23 = .ok (.iload_n 3, 1) := dqo_29 (kb_of ke_J7_copyOfRangeByte_39247 23 rfl)
theorem dJ7_copyOfRangeByte_39247_24 : decode cJ7_copyOfRangeByte_39247 24 = .ok (.invokestatic 304, 3) := dqo_184 1 48 (kb_of ke_J7_copyOfRangeByte_39247 24 rfl) (kb_of ke_J7_copyOfRangeByte_39247 25 rfl) (kb_of ke_J7_copyOfRangeByte_39247 26 rfl)
theorem dJ7_copyOfRangeByte_39247_27 : decode cJ7_copyOfRangeByte_39247 27 = .ok (.invokestatic 150, 3) := dqo_184 0 150 (kb_of ke_J7_copyOfRangeByte_39247 27 rfl) (kb_of ke_J7_copyOfRangeByte_39247 28 rfl) (kb_of ke_J7_copyOfRangeByte_39247 29 rfl)
theorem dJ7_copyOfRangeByte_39247_30 : decode cJ7_copyOfRangeByte_39247 30 = .ok (.aload 4, 2) := dqo_25 4 (kb_of ke_J7_copyOfRangeByte_39247 30 rfl) (kb_of ke_J7_copyOfRangeByte_39247 31 rfl)
theorem dJ7_copyOfRangeByte_39247_32 : decode cJ7_copyOfRangeByte_39247 32 = .ok (.areturn, 1) := dqo_176 (kb_of ke_J7_copyOfRangeByte_39247 32 rfl)
theorem pk_J7_checkLength_df160 : PkS yJ7_checkLength_df160 cJ7_checkLength_df160 2 none 2 := ⟨⟨qt_J7_checkLength_df160, qz_J7, qc_J7_checkLength_df160⟩, mh_J7.1, mh_J7.2, pd_2⟩
set_option maxRecDepth 100000 in
set_option maxHeartbeats 400000 in
theorem C_copyRangeByte {l : Launch} {D : va_G} {cy : Nat → ClassId} {X : (Nat → Prop) → State → Heap → Prop} {aK aV : Nat → Nat} {tO tT : Nat} {gO gT : Nat → Int32} {U E : va_W} {v : Nat} {m : Nat} {g : Nat → Int32} {n : Nat} (hX : EnvS X cy aK aV tO tT gO gT) (hnm : n ≤ m) (hm : m < 1000000) (hf : sb_Fit g) : Cm l D cy X yJ7_copyOfRangeByte_39247 cJ7_copyOfRangeByte_39247 5 (some (.array .byte)) (rmk 1 1 n 60) [.ref v, .int (nI 0), .int (nI n)] (U ++ (BYO cy v m g :: E)) (fun v1 w1 => ∃ v9 : Nat, ∃ g9 : Nat → Int32, (sb_Fit g9) ∧ v1 = some (.ref v9) ∧ w1 = U ++ (BYO cy v9 n g9 :: BYO cy v m g :: E)) (fun _ => False) := by
  refine Cm.ofF [some (.ref v), some (.int (nI 0)), some (.int (nI n)), none, none] (plainFor_of_name pn_J7) rfl (Nat.le_of_ble_eq_true rfl) ?_
  intro p e s mI args below meth c A C hE hr hnt hn
  refine r_iload_n C dJ7_copyOfRangeByte_39247_0 rfl ?_
  refine r_iload_n C dJ7_copyOfRangeByte_39247_1 rfl ?_
  refine c_S (st := []) hX.stb C hE (C_checkLength (w := U ++ (BYO cy v m g :: E)) (o := 0) (k := n) (by first | omega | (simp [up2, *]; done) | (simp [up2, *]; omega) | (simp only [up2_eq]; omega) | (split <;> omega)) (by first | omega | (simp [up2, *]; done) | (simp [up2, *]; omega) | (simp only [up2_eq]; omega) | (split <;> omega))) pk_J7_checkLength_df160 qm_J7_343 rfl rfl (Nat.le_of_ble_eq_true rfl) dJ7_copyOfRangeByte_39247_2 ⟨Nat.le_of_ble_eq_true rfl, Nat.le_of_ble_eq_true rfl⟩ ⟨by first | (simp only [rmk, rmz]; omega) | (simp only [rmk, rmz]; done) | omega, by first | (simp only [rmk, rmz]; omega) | (simp only [rmk, rmz]; done) | omega⟩ (fun v9 w9 h9 => ?_) (fun _ h9 => h9.elim)
  obtain ⟨rfl, rfl⟩ := h9
  refine r_iload_n C dJ7_copyOfRangeByte_39247_5 rfl ?_
  refine r_iload_n C dJ7_copyOfRangeByte_39247_6 rfl ?_
  refine r_isubN C dJ7_copyOfRangeByte_39247_7 (by first | omega | (simp [up2, *]; done) | (simp [up2, *]; omega) | (simp only [up2_eq]; omega) | (split <;> omega)) ?_
  refine r_istore_n C dJ7_copyOfRangeByte_39247_8 (by decide) rfl ?_
  refine r_iload_n C dJ7_copyOfRangeByte_39247_9 rfl ?_
  refine t_newB C qa_byte (by first | omega | (simp [up2, *]; done) | (simp [up2, *]; omega) | (simp only [up2_eq]; omega) | (split <;> omega)) (by first | (simp only [rmk, rmz]; omega) | (simp only [rmk, rmz]; done) | omega) (by first | (simp only [rmk, rmz]; omega) | (simp only [rmk, rmz]; done) | omega) dJ7_copyOfRangeByte_39247_10 (fun q_1 => ?_)
  refine r_astore C dJ7_copyOfRangeByte_39247_12 (by decide) rfl ?_
  refine r_aload_n C dJ7_copyOfRangeByte_39247_14 rfl ?_
  refine r_iload_n C dJ7_copyOfRangeByte_39247_15 rfl ?_
  refine r_aload C dJ7_copyOfRangeByte_39247_16 rfl ?_
  refine r_iconst (v := (nI 0)) C dJ7_copyOfRangeByte_39247_18 (by decide) ?_
  refine r_aload_n C dJ7_copyOfRangeByte_39247_19 rfl ?_
  refine t_blen C 1 rfl dJ7_copyOfRangeByte_39247_20 ?_
  refine r_iload_n C dJ7_copyOfRangeByte_39247_21 rfl ?_
  refine r_isubN C dJ7_copyOfRangeByte_39247_22 (by first | omega | (simp [up2, *]; done) | (simp [up2, *]; omega) | (simp only [up2_eq]; omega) | (split <;> omega)) ?_
  refine r_iload_n C dJ7_copyOfRangeByte_39247_23 rfl ?_
  refine c_S (st := [.int (nI 0), .ref q_1, .int (nI 0), .ref v]) hX.stb C hE (C_mmin (w := U ++ (BYO cy q_1 (n - 0) (fun _ => 0) :: BYO cy v m g :: E)) (x := (nI (m - 0))) (y := (nI (n - 0))) ) pk_J9_min_7cf53 qm_J7_304 rfl rfl (Nat.le_of_ble_eq_true rfl) dJ7_copyOfRangeByte_39247_24 ⟨Nat.le_of_ble_eq_true rfl, Nat.le_of_ble_eq_true rfl⟩ ⟨by first | (simp only [rmk, rmz]; omega) | (simp only [rmk, rmz]; done) | omega, by first | (simp only [rmk, rmz]; omega) | (simp only [rmk, rmz]; done) | omega⟩ (fun v9 w9 h9 => ?_) (fun _ h9 => h9.elim)
  obtain ⟨rfl, rfl⟩ := h9
  refine r_eqi (y := nI n) (show (if nI n < nI (m - 0) then nI n else nI (m - 0)) = nI n by rw [Nat.sub_zero]; split; rfl; rename_i h; have := Nat.le_antisymm hnm (by rcases Nat.lt_or_ge n m with h2 | h2; exact absurd (nI_lt h2 (by omega)) h; exact h2); rw [this]) ?_
  refine t_bcp (st := []) (sp := 0) (dp := 0) (n := n) C 1 0 qm_J7_150 rfl rfl hf (by omega) (by omega) (by first | omega | (simp [up2, *]; done) | (simp [up2, *]; omega) | (simp only [up2_eq]; omega) | (split <;> omega)) (by first | omega | (simp [up2, *]; done) | (simp [up2, *]; omega) | (simp only [up2_eq]; omega) | (split <;> omega)) (Nat.le_of_ble_eq_true rfl) (Nat.le_of_ble_eq_true rfl) dJ7_copyOfRangeByte_39247_27 (L' := (BYO cy q_1 (n - 0) (va_cpy g (fun _ => 0) 0 0 n) :: BYO cy v m g :: E)) rfl ?_
  refine r_aload C dJ7_copyOfRangeByte_39247_30 rfl ?_
  exact r_aret C hr (Or.inr ⟨_, rfl⟩) dJ7_copyOfRangeByte_39247_32 ⟨q_1, _, sb_fitC hf sb_fit0, (by first | rfl | simp only [Nat.sub_zero]), (by first | rfl | simp only [Nat.sub_zero])⟩ (by first | (simp only [rmk, rmz]; omega) | (simp only [rmk, rmz]; done) | omega) (by first | (simp only [rmk, rmz]; omega) | (simp only [rmk, rmz]; done) | omega)
theorem dJ7_copyOfRange_39247_0 : decode cJ7_copyOfRange_39247 0 = .ok (.iload_n 1, 1) := dqo_27 (kb_of ke_J7_copyOfRange_39247 0 rfl)
theorem dJ7_copyOfRange_39247_1 : decode cJ7_copyOfRange_39247 1 = .ok (.ifCond .ne 9, 3) := dqo_154 0 9 (by decide) (kb_of ke_J7_copyOfRange_39247 1 rfl) (kb_of ke_J7_copyOfRange_39247 2 rfl) (kb_of ke_J7_copyOfRange_39247 3 rfl)
theorem dJ7_copyOfRange_39247_4 : decode cJ7_copyOfRange_39247 4 = .ok (.iload_n 2, 1) := dqo_28 (kb_of ke_J7_copyOfRange_39247 4 rfl)
theorem dJ7_copyOfRange_39247_5 : decode cJ7_copyOfRange_39247 5 = .ok (.aload_n 0, 1) := dqo_42 (kb_of ke_J7_copyOfRange_39247 5 rfl)
theorem dJ7_copyOfRange_39247_6 : decode cJ7_copyOfRange_39247 6 = .ok (.arraylength, 1) := dqo_190 (kb_of ke_J7_copyOfRange_39247 6 rfl)
theorem dJ7_copyOfRange_39247_7 : decode cJ7_copyOfRange_39247 7 = .ok (.if_icmp .eq 10, 3) := dqo_159 0 10 (by decide) (kb_of ke_J7_copyOfRange_39247 7 rfl) (kb_of ke_J7_copyOfRange_39247 8 rfl) (kb_of ke_J7_copyOfRange_39247 9 rfl)
theorem dJ7_copyOfRange_39247_10 : decode cJ7_copyOfRange_39247 10 = .ok (.aload_n 0, 1) := dqo_42 (kb_of ke_J7_copyOfRange_39247 10 rfl)
theorem dJ7_copyOfRange_39247_11 : decode cJ7_copyOfRange_39247 11 = .ok (.iload_n 1, 1) := dqo_27 (kb_of ke_J7_copyOfRange_39247 11 rfl)
theorem dJ7_copyOfRange_39247_12 : decode cJ7_copyOfRange_39247 12 = .ok (.iload_n 2, 1) := dqo_28 (kb_of ke_J7_copyOfRange_39247 12 rfl)
theorem dJ7_copyOfRange_39247_13 : decode cJ7_copyOfRange_39247 13 = .ok (.invokestatic 339, 3) := dqo_184 1 83 (kb_of ke_J7_copyOfRange_39247 13 rfl) (kb_of ke_J7_copyOfRange_39247 14 rfl) (kb_of ke_J7_copyOfRange_39247 15 rfl)
theorem dJ7_copyOfRange_39247_16 : decode cJ7_copyOfRange_39247 16 = .ok (.areturn, 1) := dqo_176 (kb_of ke_J7_copyOfRange_39247 16 rfl)
theorem dJ7_copyOfRange_39247_17 : decode cJ7_copyOfRange_39247 17 = .ok (.aload_n 0, 1) := dqo_42 (kb_of ke_J7_copyOfRange_39247 17 rfl)
theorem dJ7_copyOfRange_39247_18 : decode cJ7_copyOfRange_39247 18 = .ok (.invokevirtual 310, 3) := dqo_182 1 54 (kb_of ke_J7_copyOfRange_39247 18 rfl) (kb_of ke_J7_copyOfRange_39247 19 rfl) (kb_of ke_J7_copyOfRange_39247 20 rfl)
theorem dJ7_copyOfRange_39247_21 : decode cJ7_copyOfRange_39247 21 = .ok (.checkcast 311, 3) := dqo_192 1 55 (kb_of ke_J7_copyOfRange_39247 21 rfl) (kb_of ke_J7_copyOfRange_39247 22 rfl) (kb_of ke_J7_copyOfRange_39247 23 rfl)
theorem dJ7_copyOfRange_39247_24 : decode cJ7_copyOfRange_39247 24 = .ok (.areturn, 1) := dqo_176 (kb_of ke_J7_copyOfRange_39247 24 rfl)
theorem pk_J7_copyOfRangeByte_39247 : PkS yJ7_copyOfRangeByte_39247 cJ7_copyOfRangeByte_39247 5 (some (.array .byte)) 3 := ⟨⟨qt_J7_copyOfRangeByte_39247, qz_J7, qc_J7_copyOfRangeByte_39247⟩, mh_J7.1, mh_J7.2, pd_34⟩
set_option maxRecDepth 100000 in
set_option maxHeartbeats 400000 in
theorem C_copyRange {l : Launch} {D : va_G} {cy : Nat → ClassId} {X : (Nat → Prop) → State → Heap → Prop} {aK aV : Nat → Nat} {tO tT : Nat} {gO gT : Nat → Int32} {U E : va_W} {v : Nat} {m : Nat} {g : Nat → Int32} {n : Nat} (hX : EnvS X cy aK aV tO tT gO gT) (hnm : n ≤ m) (hm : m < 1000000) (hf : sb_Fit g) : Cm l D cy X yJ7_copyOfRange_39247 cJ7_copyOfRange_39247 3 (some (.array .byte)) (rmk 2 1 n 100) [.ref v, .int (nI 0), .int (nI n)] (U ++ (BYO cy v m g :: E)) (fun v1 w1 => ∃ v9 : Nat, ∃ g9 : Nat → Int32, (sb_Fit g9) ∧ v1 = some (.ref v9) ∧ w1 = U ++ (BYO cy v9 n g9 :: BYO cy v m g :: E)) (fun _ => False) := by
  refine Cm.ofF [some (.ref v), some (.int (nI 0)), some (.int (nI n))] (plainFor_of_name pn_J7) rfl (Nat.le_of_ble_eq_true rfl) ?_
  intro p e s mI args below meth c A C hE hr hnt hn
  refine r_iload_n C dJ7_copyOfRange_39247_0 rfl ?_
  refine r_ifN_ne (a := 0) (tgt := 10) C (by first | omega | (simp [up2, *]; done) | (simp [up2, *]; omega) | (simp only [up2_eq]; omega) | (split <;> omega)) dJ7_copyOfRange_39247_1 (by decide) (fun h1_1 => ?_) (fun h1_1 => ?_)
  · exact absurd h1_1 (by first | omega | (simp [up2, *]; done) | (simp [up2, *]; omega) | (simp only [up2_eq]; omega) | (split <;> omega))
  · skip
    refine r_iload_n C dJ7_copyOfRange_39247_4 rfl ?_
    refine r_aload_n C dJ7_copyOfRange_39247_5 rfl ?_
    refine t_blen C 0 rfl dJ7_copyOfRange_39247_6 ?_
    refine r_icN_eq (a := n) (b := m) (tgt := 17) C (by first | omega | (simp [up2, *]; done) | (simp [up2, *]; omega) | (simp only [up2_eq]; omega) | (split <;> omega)) (by first | omega | (simp [up2, *]; done) | (simp [up2, *]; omega) | (simp only [up2_eq]; omega) | (split <;> omega)) dJ7_copyOfRange_39247_7 (by decide) (fun h7_2 => ?_) (fun h7_2 => ?_)
    · skip
      have hnm2 : n = m := by omega
      refine r_aload_n C dJ7_copyOfRange_39247_17 rfl ?_
      refine t_clone (st := []) hX C hE 0 rfl hf (Nat.le_of_ble_eq_true rfl) (Nat.le_of_ble_eq_true rfl) (by first | (simp only [rmk, rmz]; omega) | (simp only [rmk, rmz]; done) | omega) (by first | (simp only [rmk, rmz]; omega) | (simp only [rmk, rmz]; done) | omega) dJ7_copyOfRange_39247_18 (fun q_3 => ?_)
      refine t_castB C 0 rfl qk_J7_311 dJ7_copyOfRange_39247_21 ?_
      exact r_aret C hr (Or.inr ⟨_, rfl⟩) dJ7_copyOfRange_39247_24 ⟨q_3, g, hf, rfl, (by first | rfl | rw [hnm2])⟩ (by first | (simp only [rmk, rmz]; omega) | (simp only [rmk, rmz]; done) | omega) (by first | (simp only [rmk, rmz]; omega) | (simp only [rmk, rmz]; done) | omega)
    · skip
      refine r_aload_n C dJ7_copyOfRange_39247_10 rfl ?_
      refine r_iload_n C dJ7_copyOfRange_39247_11 rfl ?_
      refine r_iload_n C dJ7_copyOfRange_39247_12 rfl ?_
      refine c_S (st := []) hX.stb C hE (C_copyRangeByte (U := U) (E := E) (v := v) (m := m) (g := g) (n := n) hX (by first | omega | (simp [up2, *]; done) | (simp [up2, *]; omega) | (simp only [up2_eq]; omega) | (split <;> omega)) (by first | omega | (simp [up2, *]; done) | (simp [up2, *]; omega) | (simp only [up2_eq]; omega) | (split <;> omega)) hf) pk_J7_copyOfRangeByte_39247 qm_J7_339 rfl rfl (Nat.le_of_ble_eq_true rfl) dJ7_copyOfRange_39247_13 ⟨Nat.le_of_ble_eq_true rfl, Nat.le_of_ble_eq_true rfl⟩ ⟨by first | (simp only [rmk, rmz]; omega) | (simp only [rmk, rmz]; done) | omega, by first | (simp only [rmk, rmz]; omega) | (simp only [rmk, rmz]; done) | omega⟩ (fun v9 w9 h9 => ?_) (fun _ h9 => h9.elim)
      obtain ⟨v9_4, g9_5, f_6, rfl, rfl⟩ := h9
      exact r_aret C hr (Or.inr ⟨_, rfl⟩) dJ7_copyOfRange_39247_16 ⟨v9_4, g9_5, f_6, rfl, (by first | rfl | rw [hnm2])⟩ (by first | (simp only [rmk, rmz]; omega) | (simp only [rmk, rmz]; done) | omega) (by first | (simp only [rmk, rmz]; omega) | (simp only [rmk, rmz]; done) | omega)
theorem dJ0_init_db425_0 : decode cJ0_init_db425 0 = .ok (.aload_n 0, 1) := dqo_42 (kb_J0_init_db425_0 0 rfl)
theorem dJ0_init_db425_1 : decode cJ0_init_db425 1 = .ok (.invokespecial 1, 3) := dqo_183 0 1 (kb_J0_init_db425_0 1 rfl) (kb_J0_init_db425_0 2 rfl) (kb_J0_init_db425_0 3 rfl)
theorem dJ0_init_db425_4 : decode cJ0_init_db425 4 = .ok (.aload_n 1, 1) := dqo_43 (kb_J0_init_db425_0 4 rfl)
theorem dJ0_init_db425_5 : decode cJ0_init_db425 5 = .ok (.invokevirtual 552, 3) := dqo_182 2 40 (kb_J0_init_db425_0 5 rfl) (kb_J0_init_db425_0 6 rfl) (kb_J0_init_db425_0 7 rfl)
theorem dJ0_init_db425_8 : decode cJ0_init_db425 8 = .ok (.astore_n 3, 1) := dqo_78 (kb_J0_init_db425_0 8 rfl)
theorem dJ0_init_db425_9 : decode cJ0_init_db425 9 = .ok (.aload_n 1, 1) := dqo_43 (kb_J0_init_db425_0 9 rfl)
theorem dJ0_init_db425_10 : decode cJ0_init_db425 10 = .ok (.invokevirtual 549, 3) := dqo_182 2 37 (kb_J0_init_db425_0 10 rfl) (kb_J0_init_db425_0 11 rfl) (kb_J0_init_db425_0 12 rfl)
theorem dJ0_init_db425_13 : decode cJ0_init_db425 13 = .ok (.istore 4, 2) := dqo_54 4 (kb_J0_init_db425_0 13 rfl) (kb_J0_init_db425_0 14 rfl)
theorem dJ0_init_db425_15 : decode cJ0_init_db425 15 = .ok (.aload_n 1, 1) := dqo_43 (kb_J0_init_db425_0 15 rfl)
theorem dJ0_init_db425_16 : decode cJ0_init_db425 16 = .ok (.invokevirtual 1047, 3) := dqo_182 4 23 (kb_J0_init_db425_0 16 rfl) (kb_J0_init_db425_0 17 rfl) (kb_J0_init_db425_0 18 rfl)
theorem dJ0_init_db425_19 : decode cJ0_init_db425 19 = .ok (.ifCond .eq 22, 3) := dqo_153 0 22 (by decide) (kb_J0_init_db425_0 19 rfl) (kb_J0_init_db425_0 20 rfl) (kb_J0_init_db425_0 21 rfl)
theorem dJ0_init_db425_22 : decode cJ0_init_db425 22 = .ok (.aload_n 0, 1) := dqo_42 (kb_J0_init_db425_0 22 rfl)
theorem dJ0_init_db425_23 : decode cJ0_init_db425 23 = .ok (.iconst 0, 1) := dqo_3 (kb_J0_init_db425_0 23 rfl)
theorem dJ0_init_db425_24 : decode cJ0_init_db425 24 = .ok (.putfield 15, 3) := dqo_181 0 15 (kb_J0_init_db425_0 24 rfl) (kb_J0_init_db425_0 25 rfl) (kb_J0_init_db425_0 26 rfl)
theorem dJ0_init_db425_27 : decode cJ0_init_db425 27 = .ok (.aload_n 0, 1) := dqo_42 (kb_J0_init_db425_0 27 rfl)
theorem dJ0_init_db425_28 : decode cJ0_init_db425 28 = .ok (.aload_n 3, 1) := dqo_45 (kb_J0_init_db425_0 28 rfl)
theorem dJ0_init_db425_29 : decode cJ0_init_db425 29 = .ok (.iconst 0, 1) := dqo_3 (kb_J0_init_db425_0 29 rfl)
theorem dJ0_init_db425_30 : decode cJ0_init_db425 30 = .ok (.iload 4, 2) := dqo_21 4 (kb_J0_init_db425_0 30 rfl) (kb_J0_init_db425_0 31 rfl)
theorem dJ0_init_db425_32 : decode cJ0_init_db425 32 = .ok (.invokestatic 54, 3) := dqo_184 0 54 (kb_J0_init_db425_0 32 rfl) (kb_J0_init_db425_0 33 rfl) (kb_J0_init_db425_0 34 rfl)
theorem dJ0_init_db425_35 : decode cJ0_init_db425 35 = .ok (.putfield 9, 3) := dqo_181 0 9 (kb_J0_init_db425_0 35 rfl) (kb_J0_init_db425_0 36 rfl) (kb_J0_init_db425_0 37 rfl)
theorem dJ0_init_db425_38 : decode cJ0_init_db425 38 = .ok (.goto 59, 3) := dqo_167 0 59 (by decide) (kb_J0_init_db425_0 38 rfl) (kb_J0_init_db425_0 39 rfl) (kb_J0_init_db425_0 40 rfl)
theorem dJ0_init_db425_97 : decode cJ0_init_db425 97 = .ok (.return_, 1) := dqo_177 (kb_J0_init_db425_1 33 rfl)
theorem pk_J4_length_8abf5 : PkV RJ4 yJ4_length_8abf5 cJ4_length_8abf5 1 (some .int) 0 := ⟨⟨qi_J4_length_8abf5, qs_J4_length_8abf5, qz_J4, qc_J4_length_8abf5⟩, rfl, mh_J4.1, mh_J4.2, pd_10⟩
theorem pk_J5_getValue_6d5f1 : PkU yJ5_getValue_6d5f1 cJ5_getValue_6d5f1 1 (some (.array .byte)) 0 := ⟨⟨qe_J5_getValue_6d5f1, qi_J5_getValue_6d5f1, qc_J5_getValue_6d5f1⟩, Or.inl qs_J5_getValue_6d5f1, by decide +kernel⟩
theorem pk_J7_copyOfRange_39247 : PkS yJ7_copyOfRange_39247 cJ7_copyOfRange_39247 3 (some (.array .byte)) 3 := ⟨⟨qt_J7_copyOfRange_39247, qz_J7, qc_J7_copyOfRange_39247⟩, mh_J7.1, mh_J7.2, pd_34⟩
set_option maxRecDepth 100000 in
set_option maxHeartbeats 400000 in
theorem C_strInit {l : Launch} {D : va_G} {cy : Nat → ClassId} {X : (Nat → Prop) → State → Heap → Prop} {aK aV : Nat → Nat} {tO tT : Nat} {gO gT : Nat → Int32} {U E : va_W} {a : Nat} {b : Nat} {v : Nat} {m : Nat} {n : Nat} {g : Nat → Int32} {ml : Int32} (hX : EnvS X cy aK aV tO tT gO gT) (hnm : n ≤ m) (hm : m < 1000000) (hf : sb_Fit g) : Cm l D cy X yJ0_init_db425 cJ0_init_db425 5 none (rmk 3 1 n 200) [.ref a, .ref b, .null] (U ++ ((a, Sum.inr (0, [Value.null, Value.int (nI 0), Value.int (nI 0), Value.int (nI 0)])) :: SBO b v ml n :: BYO cy v m g :: E)) (fun v1 w1 => ∃ v9 : Nat, ∃ g9 : Nat → Int32, (sb_Fit g9) ∧ v1 = none ∧ w1 = U ++ (STO a v9 (nI 0) (nI 0) :: BYO cy v9 n g9 :: SBO b v ml n :: BYO cy v m g :: E)) (fun _ => False) := by
  refine Cm.ofF [some (.ref a), some (.ref b), some (.null), none, none] (plainFor_of_name pn_J0) rfl (Nat.le_of_ble_eq_true rfl) ?_
  intro p e s mI args below meth c A C hE hr hnt hn
  refine r_aload_n C dJ0_init_db425_0 rfl ?_
  refine r_objI C qm_J0_1 dJ0_init_db425_1 (Nat.le_of_ble_eq_true rfl) (Nat.le_of_ble_eq_true rfl) ?_
  refine r_aload_n C dJ0_init_db425_4 rfl ?_
  refine t_perm [(a, Sum.inr (0, [Value.null, Value.int (nI 0), Value.int (nI 0), Value.int (nI 0)])), SBO b v ml n, BYO cy v m g] [SBO b v ml n, (a, Sum.inr (0, [Value.null, Value.int (nI 0), Value.int (nI 0), Value.int (nI 0)])), BYO cy v m g] [1, 0, 2] rfl (by decide) rfl (w' := U ++ (SBO b v ml n :: (a, Sum.inr (0, [Value.null, Value.int (nI 0), Value.int (nI 0), Value.int (nI 0)])) :: BYO cy v m g :: E)) rfl ?_
  refine c_U (st := []) hX C hE (C_getValue (U := U) (E := ((a, Sum.inr (0, [Value.null, Value.int (nI 0), Value.int (nI 0), Value.int (nI 0)])) :: BYO cy v m g :: E)) (b := b) (v := v) (n := n) (ml := ml) hX ) pk_J5_getValue_6d5f1 qm_J0_552 (U.length + 0) (us_g rfl) rfl rfl (Nat.le_of_ble_eq_true rfl) dJ0_init_db425_5 ⟨Nat.le_of_ble_eq_true rfl, Nat.le_of_ble_eq_true rfl⟩ ⟨by first | (simp only [rmk, rmz]; omega) | (simp only [rmk, rmz]; done) | omega, by first | (simp only [rmk, rmz]; omega) | (simp only [rmk, rmz]; done) | omega⟩ (fun v9 w9 h9 => ?_) (fun _ h9 => h9.elim)
  obtain ⟨rfl, rfl⟩ := h9
  refine r_astore_n C dJ0_init_db425_8 (by decide) rfl ?_
  refine r_aload_n C dJ0_init_db425_9 rfl ?_
  refine c_UL (st := []) hX C hE (C_sbLength (U := U) (E := ((a, Sum.inr (0, [Value.null, Value.int (nI 0), Value.int (nI 0), Value.int (nI 0)])) :: BYO cy v m g :: E)) (b := b) (v := v) (n := n) (ml := ml) hX ) pk_J4_length_8abf5 qm_J0_549 (U.length + 0) (us_g rfl) rfl rfl (Nat.le_of_ble_eq_true rfl) dJ0_init_db425_10 ⟨Nat.le_of_ble_eq_true rfl, Nat.le_of_ble_eq_true rfl⟩ ⟨by first | (simp only [rmk, rmz]; omega) | (simp only [rmk, rmz]; done) | omega, by first | (simp only [rmk, rmz]; omega) | (simp only [rmk, rmz]; done) | omega⟩ (fun v9 w9 h9 => ?_) (fun _ h9 => h9.elim)
  obtain ⟨rfl, rfl⟩ := h9
  refine r_istore C dJ0_init_db425_13 (by decide) rfl ?_
  refine r_aload_n C dJ0_init_db425_15 rfl ?_
  refine c_U (st := []) hX C hE (C_isLatin1 (U := U) (E := ((a, Sum.inr (0, [Value.null, Value.int (nI 0), Value.int (nI 0), Value.int (nI 0)])) :: BYO cy v m g :: E)) (b := b) (v := v) (n := n) (ml := ml) hX ) pk_J5_isLatin1_aae02 qm_J0_1047 (U.length + 0) (us_g rfl) rfl rfl (Nat.le_of_ble_eq_true rfl) dJ0_init_db425_16 ⟨Nat.le_of_ble_eq_true rfl, Nat.le_of_ble_eq_true rfl⟩ ⟨by first | (simp only [rmk, rmz]; omega) | (simp only [rmk, rmz]; done) | omega, by first | (simp only [rmk, rmz]; omega) | (simp only [rmk, rmz]; done) | omega⟩ (fun v9 w9 h9 => ?_) (fun _ h9 => h9.elim)
  obtain ⟨rfl, rfl⟩ := h9
  refine r_ifN_eq (a := 1) (tgt := 41) C (by first | omega | (simp [up2, *]; done) | (simp [up2, *]; omega) | (simp only [up2_eq]; omega) | (split <;> omega)) dJ0_init_db425_19 (by decide) (fun h19_1 => ?_) (fun h19_1 => ?_)
  · exact absurd h19_1 (by first | omega | (simp [up2, *]; done) | (simp [up2, *]; omega) | (simp only [up2_eq]; omega) | (split <;> omega))
  · skip
    refine r_aload_n C dJ0_init_db425_22 rfl ?_
    refine r_iconst (v := (nI 0)) C dJ0_init_db425_23 (by decide) ?_
    refine t_stp (ty := .byte) C 1 1 rfl (by decide) rfl qf_J0_15 rfl rfl (hn.trans rfl) rfl rfl rfl dJ0_init_db425_24 (L' := (SBO b v ml n :: (a, Sum.inr (0, [Value.null, Value.int (nI 0), Value.int (nI 0), Value.int (nI 0)])) :: BYO cy v m g :: E)) rfl ?_
    refine r_aload_n C dJ0_init_db425_27 rfl ?_
    refine r_aload_n C dJ0_init_db425_28 rfl ?_
    refine r_iconst (v := (nI 0)) C dJ0_init_db425_29 (by decide) ?_
    refine r_iload C dJ0_init_db425_30 rfl ?_
    refine t_perm [SBO b v ml n, (a, Sum.inr (0, [Value.null, Value.int (nI 0), Value.int (nI 0), Value.int (nI 0)])), BYO cy v m g] [BYO cy v m g, SBO b v ml n, (a, Sum.inr (0, [Value.null, Value.int (nI 0), Value.int (nI 0), Value.int (nI 0)]))] [2, 0, 1] rfl (by decide) rfl (w' := U ++ (BYO cy v m g :: SBO b v ml n :: (a, Sum.inr (0, [Value.null, Value.int (nI 0), Value.int (nI 0), Value.int (nI 0)])) :: E)) rfl ?_
    refine c_S (st := [.ref a]) hX.stb C hE (C_copyRange (U := U) (E := (SBO b v ml n :: (a, Sum.inr (0, [Value.null, Value.int (nI 0), Value.int (nI 0), Value.int (nI 0)])) :: E)) (v := v) (m := m) (g := g) (n := n) hX (by first | omega | (simp [up2, *]; done) | (simp [up2, *]; omega) | (simp only [up2_eq]; omega) | (split <;> omega)) (by first | omega | (simp [up2, *]; done) | (simp [up2, *]; omega) | (simp only [up2_eq]; omega) | (split <;> omega)) hf) pk_J7_copyOfRange_39247 qm_J0_54 rfl rfl (Nat.le_of_ble_eq_true rfl) dJ0_init_db425_32 ⟨Nat.le_of_ble_eq_true rfl, Nat.le_of_ble_eq_true rfl⟩ ⟨by first | (simp only [rmk, rmz]; omega) | (simp only [rmk, rmz]; done) | omega, by first | (simp only [rmk, rmz]; omega) | (simp only [rmk, rmz]; done) | omega⟩ (fun v9 w9 h9 => ?_) (fun _ h9 => h9.elim)
    obtain ⟨v9_2, g9_3, f_4, rfl, rfl⟩ := h9
    refine t_stp (ty := .array .byte) C 3 0 rfl (by decide) rfl qf_J0_9 rfl rfl (hn.trans rfl) rfl rfl rfl dJ0_init_db425_35 (L' := (BYO cy v9_2 n g9_3 :: BYO cy v m g :: SBO b v ml n :: STO a v9_2 (nI 0) (nI 0) :: E)) rfl ?_
    refine r_goto (tgt := 97) C dJ0_init_db425_38 (by decide) ?_
    refine t_perm [BYO cy v9_2 n g9_3, BYO cy v m g, SBO b v ml n, STO a v9_2 (nI 0) (nI 0)] [STO a v9_2 (nI 0) (nI 0), BYO cy v9_2 n g9_3, SBO b v ml n, BYO cy v m g] [3, 0, 2, 1] rfl (by decide) rfl (w' := U ++ (STO a v9_2 (nI 0) (nI 0) :: BYO cy v9_2 n g9_3 :: SBO b v ml n :: BYO cy v m g :: E)) rfl ?_
    exact r_vret C hr dJ0_init_db425_97 ⟨v9_2, g9_3, f_4, rfl, rfl⟩ (by first | (simp only [rmk, rmz]; omega) | (simp only [rmk, rmz]; done) | omega) (by first | (simp only [rmk, rmz]; omega) | (simp only [rmk, rmz]; done) | omega)
theorem dJ0_init_81219_0 : decode cJ0_init_81219 0 = .ok (.aload_n 0, 1) := dqo_42 (kb_of ke_J0_init_81219 0 rfl)
theorem dJ0_init_81219_1 : decode cJ0_init_81219 1 = .ok (.aload_n 1, 1) := dqo_43 (kb_of ke_J0_init_81219 1 rfl)
theorem dJ0_init_81219_2 : decode cJ0_init_81219 2 = .ok (.aconst_null, 1) := dqo_1 (kb_of ke_J0_init_81219 2 rfl)
theorem dJ0_init_81219_3 : decode cJ0_init_81219 3 = .ok (.invokespecial 489, 3) := dqo_183 1 233 (kb_of ke_J0_init_81219 3 rfl) (kb_of ke_J0_init_81219 4 rfl) (kb_of ke_J0_init_81219 5 rfl)
theorem dJ0_init_81219_6 : decode cJ0_init_81219 6 = .ok (.return_, 1) := dqo_177 (kb_of ke_J0_init_81219 6 rfl)
theorem pk_J0_init_db425 : PkI yJ0_init_db425 cJ0_init_db425 5 2 := ⟨⟨qi_J0_init_db425, qz_J0, qc_J0_init_db425⟩, rfl, mh_J0.1, mh_J0.2, pd_35⟩
set_option maxRecDepth 100000 in
set_option maxHeartbeats 400000 in
theorem C_strInit0 {l : Launch} {D : va_G} {cy : Nat → ClassId} {X : (Nat → Prop) → State → Heap → Prop} {aK aV : Nat → Nat} {tO tT : Nat} {gO gT : Nat → Int32} {U E : va_W} {a : Nat} {b : Nat} {v : Nat} {m : Nat} {n : Nat} {g : Nat → Int32} {ml : Int32} (hX : EnvS X cy aK aV tO tT gO gT) (hnm : n ≤ m) (hm : m < 1000000) (hf : sb_Fit g) : Cm l D cy X yJ0_init_81219 cJ0_init_81219 2 none (rmk 4 1 n 240) [.ref a, .ref b] (U ++ ((a, Sum.inr (0, [Value.null, Value.int (nI 0), Value.int (nI 0), Value.int (nI 0)])) :: SBO b v ml n :: BYO cy v m g :: E)) (fun v1 w1 => ∃ v9 : Nat, ∃ g9 : Nat → Int32, (sb_Fit g9) ∧ v1 = none ∧ w1 = U ++ (STO a v9 (nI 0) (nI 0) :: BYO cy v9 n g9 :: SBO b v ml n :: BYO cy v m g :: E)) (fun _ => False) := by
  refine Cm.ofF [some (.ref a), some (.ref b)] (plainFor_of_name pn_J0) rfl (Nat.le_of_ble_eq_true rfl) ?_
  intro p e s mI args below meth c A C hE hr hnt hn
  refine r_aload_n C dJ0_init_81219_0 rfl ?_
  refine r_aload_n C dJ0_init_81219_1 rfl ?_
  refine j_null C dJ0_init_81219_2 ?_
  refine c_I (st := []) hX.stb C hE (C_strInit (U := U) (E := E) (a := a) (b := b) (v := v) (m := m) (n := n) (g := g) (ml := ml) hX (by first | omega | (simp [up2, *]; done) | (simp [up2, *]; omega) | (simp only [up2_eq]; omega) | (split <;> omega)) (by first | omega | (simp [up2, *]; done) | (simp [up2, *]; omega) | (simp only [up2_eq]; omega) | (split <;> omega)) hf) pk_J0_init_db425 qm_J0_489 rfl rfl (Nat.le_of_ble_eq_true rfl) dJ0_init_81219_3 ⟨Nat.le_of_ble_eq_true rfl, Nat.le_of_ble_eq_true rfl⟩ ⟨by first | (simp only [rmk, rmz]; omega) | (simp only [rmk, rmz]; done) | omega, by first | (simp only [rmk, rmz]; omega) | (simp only [rmk, rmz]; done) | omega⟩ (fun v9 w9 h9 => ?_) (fun _ h9 => h9.elim)
  obtain ⟨v9_1, g9_2, f_3, rfl, rfl⟩ := h9
  exact r_vret C hr dJ0_init_81219_6 ⟨v9_1, g9_2, f_3, rfl, rfl⟩ (by first | (simp only [rmk, rmz]; omega) | (simp only [rmk, rmz]; done) | omega) (by first | (simp only [rmk, rmz]; omega) | (simp only [rmk, rmz]; done) | omega)
theorem dJ4_toString_0e30d_0 : decode cJ4_toString_0e30d 0 = .ok (.new 18, 3) := dqo_187 0 18 (kb_of ke_J4_toString_0e30d 0 rfl) (kb_of ke_J4_toString_0e30d 1 rfl) (kb_of ke_J4_toString_0e30d 2 rfl)
theorem dJ4_toString_0e30d_3 : decode cJ4_toString_0e30d 3 = .ok (.dup, 1) := dqo_89 (kb_of ke_J4_toString_0e30d 3 rfl)
theorem dJ4_toString_0e30d_4 : decode cJ4_toString_0e30d 4 = .ok (.aload_n 0, 1) := dqo_42 (kb_of ke_J4_toString_0e30d 4 rfl)
theorem dJ4_toString_0e30d_5 : decode cJ4_toString_0e30d 5 = .ok (.invokespecial 137, 3) := dqo_183 0 137 (kb_of ke_J4_toString_0e30d 5 rfl) (kb_of ke_J4_toString_0e30d 6 rfl) (kb_of ke_J4_toString_0e30d 7 rfl)
theorem dJ4_toString_0e30d_8 : decode cJ4_toString_0e30d 8 = .ok (.areturn, 1) := dqo_176 (kb_of ke_J4_toString_0e30d 8 rfl)
theorem pk_J0_init_81219 : PkI yJ0_init_81219 cJ0_init_81219 2 1 := ⟨⟨qi_J0_init_81219, qz_J0, qc_J0_init_81219⟩, rfl, mh_J0.1, mh_J0.2, pd_36⟩
set_option maxRecDepth 100000 in
set_option maxHeartbeats 400000 in
theorem C_toString {l : Launch} {D : va_G} {cy : Nat → ClassId} {X : (Nat → Prop) → State → Heap → Prop} {aK aV : Nat → Nat} {tO tT : Nat} {gO gT : Nat → Int32} {U E : va_W} {b : Nat} {v : Nat} {m : Nat} {n : Nat} {g : Nat → Int32} {ml : Int32} (hX : EnvS X cy aK aV tO tT gO gT) (hnm : n ≤ m) (hm : m < 1000000) (hf : sb_Fit g) : Cm l D cy X yJ4_toString_0e30d cJ4_toString_0e30d 1 (some (.object "java/lang/String")) (rmk 5 2 (n + 4) 300) [.ref b] (U ++ (SBO b v ml n :: BYO cy v m g :: E)) (fun v1 w1 => ∃ a9 : Nat, ∃ v9 : Nat, ∃ g9 : Nat → Int32, (sb_Fit g9) ∧ v1 = some (.ref a9) ∧ w1 = U ++ (STO a9 v9 (nI 0) (nI 0) :: BYO cy v9 n g9 :: SBO b v ml n :: BYO cy v m g :: E)) (fun _ => False) := by
  refine Cm.ofF [some (.ref b)] (plainFor_of_name pn_J4) rfl (Nat.le_of_ble_eq_true rfl) ?_
  intro p e s mI args below meth c A C hE hr hnt hn
  refine r_new (fs := [.null, .int (nI 0), .int (nI 0), .int (nI 0)]) C qu_J0 tyJ0 tyJ0_ok qk_J4_18 qo_J0 qz_J0 (ci := 0) rfl fs0_J0 (by first | (simp only [rmk, rmz]; omega) | (simp only [rmk, rmz]; done) | omega) (by first | (simp only [rmk, rmz]; omega) | (simp only [rmk, rmz]; done) | omega) dJ4_toString_0e30d_0 (fun q_1 => ?_)
  refine t_front ?_
  refine r_dup C dJ4_toString_0e30d_3 rfl ?_
  refine r_aload_n C dJ4_toString_0e30d_4 rfl ?_
  refine c_I (st := [.ref q_1]) hX.stb C hE (C_strInit0 (U := U) (E := E) (a := q_1) (b := b) (v := v) (m := m) (n := n) (g := g) (ml := ml) hX (by first | omega | (simp [up2, *]; done) | (simp [up2, *]; omega) | (simp only [up2_eq]; omega) | (split <;> omega)) (by first | omega | (simp [up2, *]; done) | (simp [up2, *]; omega) | (simp only [up2_eq]; omega) | (split <;> omega)) hf) pk_J0_init_81219 qm_J4_137 rfl rfl (Nat.le_of_ble_eq_true rfl) dJ4_toString_0e30d_5 ⟨Nat.le_of_ble_eq_true rfl, Nat.le_of_ble_eq_true rfl⟩ ⟨by first | (simp only [rmk, rmz]; omega) | (simp only [rmk, rmz]; done) | omega, by first | (simp only [rmk, rmz]; omega) | (simp only [rmk, rmz]; done) | omega⟩ (fun v9 w9 h9 => ?_) (fun _ h9 => h9.elim)
  obtain ⟨v9_2, g9_3, f_4, rfl, rfl⟩ := h9
  exact r_aret C hr (Or.inl ⟨_, rfl⟩) dJ4_toString_0e30d_8 ⟨q_1, v9_2, g9_3, f_4, rfl, rfl⟩ (by first | (simp only [rmk, rmz]; omega) | (simp only [rmk, rmz]; done) | omega) (by first | (simp only [rmk, rmz]; omega) | (simp only [rmk, rmz]; done) | omega)
theorem dJ5_setLength_d00df_0 : decode cJ5_setLength_d00df 0 = .ok (.iload_n 1, 1) := dqo_27 (kb_J5_setLength_d00df_0 0 rfl)
theorem dJ5_setLength_d00df_1 : decode cJ5_setLength_d00df 1 = .ok (.ifCond .ge 12, 3) := dqo_156 0 12 (by decide) (kb_J5_setLength_d00df_0 1 rfl) (kb_J5_setLength_d00df_0 2 rfl) (kb_J5_setLength_d00df_0 3 rfl)
theorem dJ5_setLength_d00df_13 : decode cJ5_setLength_d00df 13 = .ok (.aload_n 0, 1) := dqo_42 (kb_J5_setLength_d00df_0 13 rfl)
theorem dJ5_setLength_d00df_14 : decode cJ5_setLength_d00df 14 = .ok (.iload_n 1, 1) := dqo_27 (kb_J5_setLength_d00df_0 14 rfl)
theorem dJ5_setLength_d00df_15 : decode cJ5_setLength_d00df 15 = .ok (.invokevirtual 100, 3) := dqo_182 0 100 (kb_J5_setLength_d00df_0 15 rfl) (kb_J5_setLength_d00df_0 16 rfl) (kb_J5_setLength_d00df_0 17 rfl)
theorem dJ5_setLength_d00df_18 : decode cJ5_setLength_d00df 18 = .ok (.aload_n 0, 1) := dqo_42 (kb_J5_setLength_d00df_0 18 rfl)
theorem dJ5_setLength_d00df_19 : decode cJ5_setLength_d00df 19 = .ok (.getfield 79, 3) := dqo_180 0 79 (kb_J5_setLength_d00df_0 19 rfl) (kb_J5_setLength_d00df_0 20 rfl) (kb_J5_setLength_d00df_0 21 rfl)
theorem dJ5_setLength_d00df_22 : decode cJ5_setLength_d00df 22 = .ok (.iload_n 1, 1) := dqo_27 (kb_J5_setLength_d00df_0 22 rfl)
theorem dJ5_setLength_d00df_23 : decode cJ5_setLength_d00df 23 = .ok (.if_icmp .ge 40, 3) := dqo_162 0 40 (by decide) (kb_J5_setLength_d00df_0 23 rfl) (kb_J5_setLength_d00df_0 24 rfl) (kb_J5_setLength_d00df_0 25 rfl)
theorem dJ5_setLength_d00df_63 : decode cJ5_setLength_d00df 63 = .ok (.aload_n 0, 1) := dqo_42 (kb_J5_setLength_d00df_0 63 rfl)
theorem dJ5_setLength_d00df_64 : decode cJ5_setLength_d00df 64 = .ok (.getfield 79, 3) := dqo_180 0 79 (kb_J5_setLength_d00df_1 0 rfl) (kb_J5_setLength_d00df_1 1 rfl) (kb_J5_setLength_d00df_1 2 rfl)
theorem dJ5_setLength_d00df_67 : decode cJ5_setLength_d00df 67 = .ok (.iload_n 1, 1) := dqo_27 (kb_J5_setLength_d00df_1 3 rfl)
theorem dJ5_setLength_d00df_68 : decode cJ5_setLength_d00df 68 = .ok (.if_icmp .le 8, 3) := dqo_164 0 8 (by decide) (kb_J5_setLength_d00df_1 4 rfl) (kb_J5_setLength_d00df_1 5 rfl) (kb_J5_setLength_d00df_1 6 rfl)
theorem dJ5_setLength_d00df_71 : decode cJ5_setLength_d00df 71 = .ok (.aload_n 0, 1) := dqo_42 (kb_J5_setLength_d00df_1 7 rfl)
theorem dJ5_setLength_d00df_72 : decode cJ5_setLength_d00df 72 = .ok (.iconst 1, 1) := dqo_4 (kb_J5_setLength_d00df_1 8 rfl)
theorem dJ5_setLength_d00df_73 : decode cJ5_setLength_d00df 73 = .ok (.putfield 73, 3) := dqo_181 0 73 (kb_J5_setLength_d00df_1 9 rfl) (kb_J5_setLength_d00df_1 10 rfl) (kb_J5_setLength_d00df_1 11 rfl)
theorem dJ5_setLength_d00df_76 : decode cJ5_setLength_d00df 76 = .ok (.aload_n 0, 1) := dqo_42 (kb_J5_setLength_d00df_1 12 rfl)
theorem dJ5_setLength_d00df_77 : decode cJ5_setLength_d00df 77 = .ok (.iload_n 1, 1) := dqo_27 (kb_J5_setLength_d00df_1 13 rfl)
theorem dJ5_setLength_d00df_78 : decode cJ5_setLength_d00df 78 = .ok (.putfield 79, 3) := dqo_181 0 79 (kb_J5_setLength_d00df_1 14 rfl) (kb_J5_setLength_d00df_1 15 rfl) (kb_J5_setLength_d00df_1 16 rfl)
theorem dJ5_setLength_d00df_81 : decode cJ5_setLength_d00df 81 = .ok (.return_, 1) := dqo_177 (kb_J5_setLength_d00df_1 17 rfl)
set_option maxRecDepth 100000 in
set_option maxHeartbeats 400000 in
theorem C_asbSetLen0 {l : Launch} {D : va_G} {cy : Nat → ClassId} {X : (Nat → Prop) → State → Heap → Prop} {aK aV : Nat → Nat} {tO tT : Nat} {gO gT : Nat → Int32} {U E : va_W} {b : Nat} {v : Nat} {m : Nat} {n : Nat} {g : Nat → Int32} {ml : Int32} (hX : EnvS X cy aK aV tO tT gO gT) (hm : m ≤ 65536) (hn2 : n < 300000) (hf : sb_Fit g) : Cm l D cy X yJ5_setLength_d00df cJ5_setLength_d00df 2 none (rmz 4 160) [.ref b, .int (nI 0)] (U ++ (SBO b v ml n :: BYO cy v m g :: E)) (fun v1 w1 => ∃ v9 : Nat, ∃ ml9 : Int32, ∃ g9 : Nat → Int32, (sb_Fit g9) ∧ v1 = none ∧ w1 = U ++ (SBO b v9 ml9 0 :: BYO cy v9 m g9 :: E)) (fun _ => False) := by
  refine Cm.ofF [some (.ref b), some (.int (nI 0))] (plainFor_of_name pn_J5) rfl (Nat.le_of_ble_eq_true rfl) ?_
  intro p e s mI args below meth c A C hE hr hnt hn
  refine r_iload_n C dJ5_setLength_d00df_0 rfl ?_
  refine r_ifN_ge (a := 0) (tgt := 13) C (by first | omega | (simp [up2, *]; done) | (simp [up2, *]; omega) | (simp only [up2_eq]; omega) | (split <;> omega)) dJ5_setLength_d00df_1 (by decide) (fun h1_1 => ?_) (fun h1_1 => ?_)
  · skip
    refine r_aload_n C dJ5_setLength_d00df_13 rfl ?_
    refine r_iload_n C dJ5_setLength_d00df_14 rfl ?_
    refine c_U (st := []) hX C hE (C_ensure (U := U) (E := E) (b := b) (v := v) (m := m) (n := n) (g := g) (ml := ml) (q := 0) hX (by first | omega | (simp [up2, *]; done) | (simp [up2, *]; omega) | (simp only [up2_eq]; omega) | (split <;> omega)) (by first | omega | (simp [up2, *]; done) | (simp [up2, *]; omega) | (simp only [up2_eq]; omega) | (split <;> omega)) hf) pk_J5_ensureCapacityInternal_d00df qm_J5_100 (U.length + 0) (us_g rfl) rfl rfl (Nat.le_of_ble_eq_true rfl) dJ5_setLength_d00df_15 ⟨Nat.le_of_ble_eq_true rfl, Nat.le_of_ble_eq_true rfl⟩ ⟨by simp only [rmk, rmz, gC, if_pos (Nat.zero_le m)]; omega, by simp only [rmk, rmz, gS, if_pos (Nat.zero_le m)]; omega⟩ (fun v9 w9 h9 => ?_) (fun _ h9 => h9.elim)
    obtain ⟨v9_2, g9_3, f_4, rfl, rfl⟩ := h9
    refine r_aload_n C dJ5_setLength_d00df_18 rfl ?_
    refine t_sbg C 0 3 rfl (by decide) qf_J5_79 rfl rfl dJ5_setLength_d00df_19 ?_
    refine r_iload_n C dJ5_setLength_d00df_22 rfl ?_
    refine r_icN_ge (a := n) (b := 0) (tgt := 63) C (by first | omega | (simp [up2, *]; done) | (simp [up2, *]; omega) | (simp only [up2_eq]; omega) | (split <;> omega)) (by first | omega | (simp [up2, *]; done) | (simp [up2, *]; omega) | (simp only [up2_eq]; omega) | (split <;> omega)) dJ5_setLength_d00df_23 (by decide) (fun h23_5 => ?_) (fun h23_5 => ?_)
    · skip
      refine r_aload_n C dJ5_setLength_d00df_63 rfl ?_
      refine t_sbg C 0 3 rfl (by decide) qf_J5_79 rfl rfl dJ5_setLength_d00df_64 ?_
      refine r_iload_n C dJ5_setLength_d00df_67 rfl ?_
      refine r_icN_le (a := n) (b := 0) (tgt := 76) C (by first | omega | (simp [up2, *]; done) | (simp [up2, *]; omega) | (simp only [up2_eq]; omega) | (split <;> omega)) (by first | omega | (simp [up2, *]; done) | (simp [up2, *]; omega) | (simp only [up2_eq]; omega) | (split <;> omega)) dJ5_setLength_d00df_68 (by decide) (fun h68_6 => ?_) (fun h68_6 => ?_)
      · first
        | exfalso; first | omega | contradiction
        | skip
          refine r_aload_n C dJ5_setLength_d00df_76 rfl ?_
          refine r_iload_n C dJ5_setLength_d00df_77 rfl ?_
          refine t_sbp (ty := .int) C 0 3 rfl (by decide) rfl qf_J5_79 rfl rfl rfl rfl rfl dJ5_setLength_d00df_78 (L' := (SBO b v9_2 ml 0 :: BYO cy v9_2 (sb_cap 0 m) g9_3 :: E)) rfl ?_
          exact r_vret C hr dJ5_setLength_d00df_81 ⟨v9_2, ml, g9_3, f_4, rfl, by rw [show sb_cap 0 m = m from if_pos (Nat.zero_le m)]⟩ (by simp only [rmk, rmz, gC, if_pos (Nat.zero_le m)]; omega) (by simp only [rmk, rmz, gS, if_pos (Nat.zero_le m)]; omega)
      · first
        | exfalso; first | omega | contradiction
        | skip
          refine r_aload_n C dJ5_setLength_d00df_71 rfl ?_
          refine r_iconst (v := (nI 1)) C dJ5_setLength_d00df_72 (by decide) ?_
          refine t_sbp (ty := .boolean) C 0 2 rfl (by decide) rfl qf_J5_73 rfl rfl rfl rfl rfl dJ5_setLength_d00df_73 (L' := (SBO b v9_2 (nI 1) n :: BYO cy v9_2 (sb_cap 0 m) g9_3 :: E)) rfl ?_
          refine r_aload_n C dJ5_setLength_d00df_76 rfl ?_
          refine r_iload_n C dJ5_setLength_d00df_77 rfl ?_
          refine t_sbp (ty := .int) C 0 3 rfl (by decide) rfl qf_J5_79 rfl rfl rfl rfl rfl dJ5_setLength_d00df_78 (L' := (SBO b v9_2 (nI 1) 0 :: BYO cy v9_2 (sb_cap 0 m) g9_3 :: E)) rfl ?_
          exact r_vret C hr dJ5_setLength_d00df_81 ⟨v9_2, (nI 1), g9_3, f_4, rfl, by rw [show sb_cap 0 m = m from if_pos (Nat.zero_le m)]⟩ (by simp only [rmk, rmz, gC, if_pos (Nat.zero_le m)]; omega) (by simp only [rmk, rmz, gS, if_pos (Nat.zero_le m)]; omega)
    · exact absurd h23_5 (by first | omega | (simp [up2, *]; done) | (simp [up2, *]; omega) | (simp only [up2_eq]; omega) | (split <;> omega))
  · exact absurd h1_1 (by first | omega | (simp [up2, *]; done) | (simp [up2, *]; omega) | (simp only [up2_eq]; omega) | (split <;> omega))
theorem dJ4_setLength_d00df_0 : decode cJ4_setLength_d00df 0 = .ok (.aload_n 0, 1) := dqo_42 (kb_of ke_J4_setLength_d00df 0 rfl)
theorem dJ4_setLength_d00df_1 : decode cJ4_setLength_d00df 1 = .ok (.iload_n 1, 1) := dqo_27 (kb_of ke_J4_setLength_d00df 1 rfl)
theorem dJ4_setLength_d00df_2 : decode cJ4_setLength_d00df 2 = .ok (.invokespecial 333, 3) := dqo_183 1 77 (kb_of ke_J4_setLength_d00df 2 rfl) (kb_of ke_J4_setLength_d00df 3 rfl) (kb_of ke_J4_setLength_d00df 4 rfl)
theorem dJ4_setLength_d00df_5 : decode cJ4_setLength_d00df 5 = .ok (.return_, 1) := dqo_177 (kb_of ke_J4_setLength_d00df 5 rfl)
theorem pkS_J5_setLength_d00df : PkSU yJ5_setLength_d00df cJ5_setLength_d00df 2 none 1 := ⟨⟨qe_J5_setLength_d00df, qi_J5_setLength_d00df, qc_J5_setLength_d00df⟩, by decide +kernel⟩
set_option maxRecDepth 100000 in
set_option maxHeartbeats 400000 in
theorem C_sbSetLen0 {l : Launch} {D : va_G} {cy : Nat → ClassId} {X : (Nat → Prop) → State → Heap → Prop} {aK aV : Nat → Nat} {tO tT : Nat} {gO gT : Nat → Int32} {U E : va_W} {b : Nat} {v : Nat} {m : Nat} {n : Nat} {g : Nat → Int32} {ml : Int32} (hX : EnvS X cy aK aV tO tT gO gT) (hm : m ≤ 65536) (hn2 : n < 300000) (hf : sb_Fit g) : Cm l D cy X yJ4_setLength_d00df cJ4_setLength_d00df 2 none (rmz 5 200) [.ref b, .int (nI 0)] (U ++ (SBO b v ml n :: BYO cy v m g :: E)) (fun v1 w1 => ∃ v9 : Nat, ∃ ml9 : Int32, ∃ g9 : Nat → Int32, (sb_Fit g9) ∧ v1 = none ∧ w1 = U ++ (SBO b v9 ml9 0 :: BYO cy v9 m g9 :: E)) (fun _ => False) := by
  refine Cm.ofF [some (.ref b), some (.int (nI 0))] (plainFor_of_name pn_J4) rfl (Nat.le_of_ble_eq_true rfl) ?_
  intro p e s mI args below meth c A C hE hr hnt hn
  refine r_aload_n C dJ4_setLength_d00df_0 rfl ?_
  refine r_iload_n C dJ4_setLength_d00df_1 rfl ?_
  refine c_SU (st := []) hX C hE (C_asbSetLen0 (U := U) (E := E) (b := b) (v := v) (m := m) (n := n) (g := g) (ml := ml) hX (by first | omega | (simp [up2, *]; done) | (simp [up2, *]; omega) | (simp only [up2_eq]; omega) | (split <;> omega)) (by first | omega | (simp [up2, *]; done) | (simp [up2, *]; omega) | (simp only [up2_eq]; omega) | (split <;> omega)) hf) pkS_J5_setLength_d00df qm_J4_333 (U.length + 0) (us_g rfl) rfl rfl (Nat.le_of_ble_eq_true rfl) dJ4_setLength_d00df_2 ⟨Nat.le_of_ble_eq_true rfl, Nat.le_of_ble_eq_true rfl⟩ ⟨by first | (simp only [rmk, rmz]; omega) | (simp only [rmk, rmz]; done) | omega, by first | (simp only [rmk, rmz]; omega) | (simp only [rmk, rmz]; done) | omega⟩ (fun v9 w9 h9 => ?_) (fun _ h9 => h9.elim)
  obtain ⟨v9_1, ml9_2, g9_3, f_4, rfl, rfl⟩ := h9
  exact r_vret C hr dJ4_setLength_d00df_5 ⟨v9_1, ml9_2, g9_3, f_4, rfl, rfl⟩ (by first | (simp only [rmk, rmz]; omega) | (simp only [rmk, rmz]; done) | omega) (by first | (simp only [rmk, rmz]; omega) | (simp only [rmk, rmz]; done) | omega)
end PT_60
/-! ===== 61.text6 -/
section PT_61
/-! TEXTS: writeTo -/
/-! ROWS WRITTEN INTO A BUILDER -/
def tlx (x : Nat → Int32) : Nat → Nat
  | 0 => 1
  | k + 1 => tlx x k + (if 0 < k then 2 else 0) + sz9 (x k)
theorem tlx_le (x : Nat → Int32) (k : Nat) : tlx x k ≤ 1 + 5 * k := by
  induction k with
  | zero => exact Nat.le_refl _
  | succ k ih =>
    have := sz9_le (x k)
    show tlx x k + (if 0 < k then 2 else 0) + sz9 (x k) ≤ _
    split <;> omega
def potC (m : Nat) : Nat := if m < 34 then 2 else if m < 70 then 1 else 0
def potS (m : Nat) : Nat := if m < 34 then 104 else if m < 70 then 70 else 0
def c3 (m : Nat) : Prop := m = 16 ∨ m = 34 ∨ m = 70
theorem c3_step {q m : Nat} (h : c3 m) (hq : q ≤ 70) (h3 : q ≤ m + 3) : c3 (sb_cap q m) ∧ gC q m + potC (sb_cap q m) ≤ potC m ∧ gS q m + potS (sb_cap q m) ≤ potS m := by
  rcases h with rfl | rfl | rfl
  · by_cases h1 : q ≤ 16
    · have e : sb_cap q 16 = 16 := if_pos h1
      rw [e, gC, gS, if_pos h1, if_pos h1]
      exact ⟨Or.inl rfl, by decide, by decide⟩
    · have e : sb_cap q 16 = 34 := by rw [sb_cap, if_neg h1, if_neg (by omega)]
      rw [e, gC, gS, if_neg h1, if_neg h1, e]
      exact ⟨Or.inr (Or.inl rfl), by decide, by decide⟩
  · by_cases h1 : q ≤ 34
    · have e : sb_cap q 34 = 34 := if_pos h1
      rw [e, gC, gS, if_pos h1, if_pos h1]
      exact ⟨Or.inr (Or.inl rfl), by decide, by decide⟩
    · have e : sb_cap q 34 = 70 := by rw [sb_cap, if_neg h1, if_neg (by omega)]
      rw [e, gC, gS, if_neg h1, if_neg h1, e]
      exact ⟨Or.inr (Or.inr rfl), by decide, by decide⟩
  · have e : sb_cap q 70 = 70 := if_pos hq
    rw [e, gC, gS, if_pos hq, if_pos hq]
    exact ⟨Or.inr (Or.inr rfl), by decide, by decide⟩
theorem c3_le {m : Nat} (h : c3 m) : m ≤ 65536 := by
  rcases h with rfl | rfl | rfl <;> decide
theorem potC_le (m : Nat) : potC m ≤ 2 := by
  unfold potC
  split
  · omega
  · split <;> omega
theorem potS_le (m : Nat) : potS m ≤ 104 := by
  unfold potS
  split
  · omega
  · split <;> omega

theorem dX1_writeTo_0 : decode cX1_writeTo 0 = .ok (.aload_n 1, 1) := dqo_43 (kb_of ke_X1_writeTo 0 rfl)
theorem dX1_writeTo_1 : decode cX1_writeTo 1 = .ok (.bipush 91, 2) := dqo_16 91 (by decide) (kb_of ke_X1_writeTo 1 rfl) (kb_of ke_X1_writeTo 2 rfl)
theorem dX1_writeTo_3 : decode cX1_writeTo 3 = .ok (.invokevirtual 69, 3) := dqo_182 0 69 (kb_of ke_X1_writeTo 3 rfl) (kb_of ke_X1_writeTo 4 rfl) (kb_of ke_X1_writeTo 5 rfl)
theorem dX1_writeTo_6 : decode cX1_writeTo 6 = .ok (.pop, 1) := dqo_87 (kb_of ke_X1_writeTo 6 rfl)
theorem dX1_writeTo_7 : decode cX1_writeTo 7 = .ok (.iconst 0, 1) := dqo_3 (kb_of ke_X1_writeTo 7 rfl)
theorem dX1_writeTo_8 : decode cX1_writeTo 8 = .ok (.istore_n 2, 1) := dqo_61 (kb_of ke_X1_writeTo 8 rfl)
theorem dX1_writeTo_9 : decode cX1_writeTo 9 = .ok (.iload_n 2, 1) := dqo_28 (kb_of ke_X1_writeTo 9 rfl)
theorem dX1_writeTo_10 : decode cX1_writeTo 10 = .ok (.aload_n 0, 1) := dqo_42 (kb_of ke_X1_writeTo 10 rfl)
theorem dX1_writeTo_11 : decode cX1_writeTo 11 = .ok (.getfield 29, 3) := dqo_180 0 29 (kb_of ke_X1_writeTo 11 rfl) (kb_of ke_X1_writeTo 12 rfl) (kb_of ke_X1_writeTo 13 rfl)
theorem dX1_writeTo_14 : decode cX1_writeTo 14 = .ok (.if_icmp .ge 30, 3) := dqo_162 0 30 (by decide) (kb_of ke_X1_writeTo 14 rfl) (kb_of ke_X1_writeTo 15 rfl) (kb_of ke_X1_writeTo 16 rfl)
theorem dX1_writeTo_17 : decode cX1_writeTo 17 = .ok (.iload_n 2, 1) := dqo_28 (kb_of ke_X1_writeTo 17 rfl)
theorem dX1_writeTo_18 : decode cX1_writeTo 18 = .ok (.ifCond .le 10, 3) := dqo_158 0 10 (by decide) (kb_of ke_X1_writeTo 18 rfl) (kb_of ke_X1_writeTo 19 rfl) (kb_of ke_X1_writeTo 20 rfl)
theorem dX1_writeTo_21 : decode cX1_writeTo 21 = .ok (.aload_n 1, 1) := dqo_43 (kb_of ke_X1_writeTo 21 rfl)
theorem dX1_writeTo_22 : decode cX1_writeTo 22 = .ok (.ldc 75, 2) := dqo_18 75 (kb_of ke_X1_writeTo 22 rfl) (kb_of ke_X1_writeTo 23 rfl)
theorem dX1_writeTo_24 : decode cX1_writeTo 24 = .ok (.invokevirtual 77, 3) := dqo_182 0 77 (kb_of ke_X1_writeTo 24 rfl) (kb_of ke_X1_writeTo 25 rfl) (kb_of ke_X1_writeTo 26 rfl)
theorem dX1_writeTo_27 : decode cX1_writeTo 27 = .ok (.pop, 1) := dqo_87 (kb_of ke_X1_writeTo 27 rfl)
theorem dX1_writeTo_28 : decode cX1_writeTo 28 = .ok (.aload_n 1, 1) := dqo_43 (kb_of ke_X1_writeTo 28 rfl)
theorem dX1_writeTo_29 : decode cX1_writeTo 29 = .ok (.aload_n 0, 1) := dqo_42 (kb_of ke_X1_writeTo 29 rfl)
theorem dX1_writeTo_30 : decode cX1_writeTo 30 = .ok (.iload_n 2, 1) := dqo_28 (kb_of ke_X1_writeTo 30 rfl)
theorem dX1_writeTo_31 : decode cX1_writeTo 31 = .ok (.invokevirtual 32, 3) := dqo_182 0 32 (kb_of ke_X1_writeTo 31 rfl) (kb_of ke_X1_writeTo 32 rfl) (kb_of ke_X1_writeTo 33 rfl)
theorem dX1_writeTo_34 : decode cX1_writeTo 34 = .ok (.invokevirtual 80, 3) := dqo_182 0 80 (kb_of ke_X1_writeTo 34 rfl) (kb_of ke_X1_writeTo 35 rfl) (kb_of ke_X1_writeTo 36 rfl)
theorem dX1_writeTo_37 : decode cX1_writeTo 37 = .ok (.pop, 1) := dqo_87 (kb_of ke_X1_writeTo 37 rfl)
theorem dX1_writeTo_38 : decode cX1_writeTo 38 = .ok (.iinc 2 1, 3) := dqo_132 2 1 (by decide) (kb_of ke_X1_writeTo 38 rfl) (kb_of ke_X1_writeTo 39 rfl) (kb_of ke_X1_writeTo 40 rfl)
theorem dX1_writeTo_41 : decode cX1_writeTo 41 = .ok (.goto (-32), 3) := dqo_167 255 224 (by decide) (kb_of ke_X1_writeTo 41 rfl) (kb_of ke_X1_writeTo 42 rfl) (kb_of ke_X1_writeTo 43 rfl)
theorem dX1_writeTo_44 : decode cX1_writeTo 44 = .ok (.aload_n 1, 1) := dqo_43 (kb_of ke_X1_writeTo 44 rfl)
theorem dX1_writeTo_45 : decode cX1_writeTo 45 = .ok (.bipush 93, 2) := dqo_16 93 (by decide) (kb_of ke_X1_writeTo 45 rfl) (kb_of ke_X1_writeTo 46 rfl)
theorem dX1_writeTo_47 : decode cX1_writeTo 47 = .ok (.invokevirtual 69, 3) := dqo_182 0 69 (kb_of ke_X1_writeTo 47 rfl) (kb_of ke_X1_writeTo 48 rfl) (kb_of ke_X1_writeTo 49 rfl)
theorem dX1_writeTo_50 : decode cX1_writeTo 50 = .ok (.pop, 1) := dqo_87 (kb_of ke_X1_writeTo 50 rfl)
theorem dX1_writeTo_51 : decode cX1_writeTo 51 = .ok (.return_, 1) := dqo_177 (kb_of ke_X1_writeTo 51 rfl)
theorem pk_J4_append_15ec4 : PkV RJ4 yJ4_append_15ec4 cJ4_append_15ec4 2 (some (.object "java/lang/StringBuilder")) 1 := ⟨⟨qi_J4_append_15ec4, qs_J4_append_15ec4, qz_J4, qc_J4_append_15ec4⟩, rfl, mh_J4.1, mh_J4.2, pd_37⟩
theorem pk_J4_append_bf812 : PkV RJ4 yJ4_append_bf812 cJ4_append_bf812 2 (some (.object "java/lang/StringBuilder")) 1 := ⟨⟨qi_J4_append_bf812, qs_J4_append_bf812, qz_J4, qc_J4_append_bf812⟩, rfl, mh_J4.1, mh_J4.2, pd_38⟩
theorem pk_J4_append_cf468 : PkV RJ4 yJ4_append_cf468 cJ4_append_cf468 2 (some (.object "java/lang/StringBuilder")) 1 := ⟨⟨qi_J4_append_cf468, qs_J4_append_cf468, qz_J4, qc_J4_append_cf468⟩, rfl, mh_J4.1, mh_J4.2, pd_39⟩
set_option maxRecDepth 100000 in
set_option maxHeartbeats 800000 in
theorem C_writeTo {l : Launch} {D : va_G} {cy : Nat → ClassId} {X : (Nat → Prop) → State → Heap → Prop} {aK aV : Nat → Nat} {tO tT : Nat} {gO gT : Nat → Int32} {a f : Nat → Nat → Nat} {r : Nat → Nat → Int32} {kn : Int32} {E : va_W} {i b v m : Nat} {g : Nat → Int32} {ml : Int32} (hX : EnvS X cy aK aV tO tT gO gT) (hi : i < 11) (h0 : f 0 i < 7) (h4 : f 3 i + f 4 i ≤ 12) (hR : ∀ k, k < f 4 i → -99 ≤ (r (f 0 i) (f 3 i + k)).toInt ∧ (r (f 0 i) (f 3 i + k)).toInt ≤ 99) (hc : c3 m) (hf : sb_Fit g) : Cm l D cy X yX1_writeTo cX1_writeTo 3 none (rmk 6 2 104 300) [.ref (a 1 i), .ref b] (WC cy a f r kn ++ (SBO b v ml 0 :: BYO cy v m g :: E)) (fun v1 w1 => ∃ (v9 : Nat) (m9 : Nat) (g9 : Nat → Int32), c3 m9 ∧ sb_Fit g9 ∧ tlx (fun k => r (f 0 i) (f 3 i + k)) (f 4 i) + 1 ≤ m9 ∧ v1 = none ∧ w1 = WC cy a f r kn ++ (SBO b v9 ml (tlx (fun k => r (f 0 i) (f 3 i + k)) (f 4 i) + 1) :: BYO cy v9 m9 g9 :: E)) (fun _ => False) := by
  refine Cm.of [some (.ref (a 1 i)), some (.ref b), none] pn_X1 rfl (Nat.le_of_ble_eq_true rfl) ?_
  intro p e s mI args below meth c A C hE hr hnt hn
  have L9 : ∀ (d k v2 mm c1 s1 : Nat) (g2 : Nat → Int32), k + d = f 4 i → c3 mm → sb_Fit g2 → tlx (fun k => r (f 0 i) (f 3 i + k)) k ≤ mm → c1 + potC mm ≤ 2 → s1 + potS mm ≤ 104 → vC p l e (rmk 6 2 104 300) s mI args below meth c D A (vx_MQ below (vG (fun v1 w1 => ∃ (v9 : Nat) (m9 : Nat) (g9 : Nat → Int32), c3 m9 ∧ sb_Fit g9 ∧ tlx (fun k => r (f 0 i) (f 3 i + k)) (f 4 i) + 1 ≤ m9 ∧ v1 = none ∧ w1 = WC cy a f r kn ++ (SBO b v9 ml (tlx (fun k => r (f 0 i) (f 3 i + k)) (f 4 i) + 1) :: BYO cy v9 m9 g9 :: E)) D vwCl A) (vGX (fun _ => False) D vwCl (WC cy a f r kn ++ (SBO b v ml 0 :: BYO cy v m g :: E)) A) args s (rmk 6 2 104 300).cells (rmk 6 2 104 300).slots A) 3 c1 s1 (WC cy a f r kn ++ (SBO b v2 ml (tlx (fun k => r (f 0 i) (f 3 i + k)) k) :: BYO cy v2 mm g2 :: E)) [some (.ref (a 1 i)), some (.ref b), some (.int (nI k))] 9 [] := by
    intro d
    induction d with
    | zero =>
      intro k v2 mm c1 s1 g2 hk hc hg hnm hcc hcs
      have hml := c3_le hc
      have htk := tlx_le (fun k => r (f 0 i) (f 3 i + k)) k
      have hz3 := sz9_le ((fun k => r (f 0 i) (f 3 i + k)) k)
      simp only at hz3
      refine r_iload_n C dX1_writeTo_9 rfl ?_
      refine r_aload_n C dX1_writeTo_10 rfl ?_
      refine p_get (v := .int (nI (f 4 i))) C 4 (by first | omega | (simp [up2, *]; done) | (simp [up2, *]; omega) | (simp only [up2_eq]; omega) | (split <;> omega)) (by decide) qf_X1_29 rfl rfl dX1_writeTo_11 ?_
      refine r_icN_ge (a := k) (b := (f 4 i)) (tgt := 44) C (by first | omega | (simp [up2, *]; done) | (simp [up2, *]; omega) | (simp only [up2_eq]; omega) | (split <;> omega)) (by first | omega | (simp [up2, *]; done) | (simp [up2, *]; omega) | (simp only [up2_eq]; omega) | (split <;> omega)) dX1_writeTo_14 (by decide) (fun h14_1 => ?_) (fun h14_1 => ?_)
      · skip
        have hkf : k = f 4 i := by omega
        refine r_aload_n C dX1_writeTo_44 rfl ?_
        refine r_bipush (v := (nI 93)) C dX1_writeTo_45 (by decide) ?_
        obtain ⟨hc3_2, hcc_2, hcs_2⟩ := c3_step (q := tlx (fun k => r (f 0 i) (f 3 i + k)) k + 1) hc (by omega) (by omega)
        have hcg_2 := sb_cap_ge (tlx (fun k => r (f 0 i) (f 3 i + k)) k + 1) mm
        have hcm_2 := c3_le hc3_2
        refine c_V (st := []) hX.stb C hE (C_sbChar (U := WC cy a f r kn) (E := E) (b := b) (v := v2) (m := mm) (n := (tlx (fun k => r (f 0 i) (f 3 i + k)) k)) (g := g2) (ml := ml) (ch := 93) hX hml (by first | omega | (simp [up2, *]; done) | (simp [up2, *]; omega) | (simp only [up2_eq]; omega) | (split <;> omega)) hg (by first | omega | (simp [up2, *]; done) | (simp [up2, *]; omega) | (simp only [up2_eq]; omega) | (split <;> omega))) pk_J4_append_cf468 qm_X1_69 ((WC cy a f r kn).length + 0) 1 rfl rfl (us_g rfl) rfl rfl (Nat.le_of_ble_eq_true rfl) dX1_writeTo_47 ⟨Nat.le_of_ble_eq_true rfl, Nat.le_of_ble_eq_true rfl⟩ ⟨by first | (simp only [rmk, rmz]; omega) | (simp only [rmk, rmz]; done) | omega, by first | (simp only [rmk, rmz]; omega) | (simp only [rmk, rmz]; done) | omega⟩ (fun v9 w9 h9 => ?_) (fun _ h9 => h9.elim)
        obtain ⟨v9_3, g9_4, f_5, rfl, rfl⟩ := h9
        refine r_pop C dX1_writeTo_50 rfl ?_
        exact r_vret C hr dX1_writeTo_51 ⟨v9_3, (sb_cap ((tlx (fun k => r (f 0 i) (f 3 i + k)) k) + 1) mm), g9_4, hc3_2, f_5, (by rw [← hkf]; exact hcg_2), rfl, by rw [hkf]⟩ (by first | (simp only [rmk, rmz]; omega) | (simp only [rmk, rmz]; done) | omega) (by first | (simp only [rmk, rmz]; omega) | (simp only [rmk, rmz]; done) | omega)
      · skip
        refine r_iload_n C dX1_writeTo_17 rfl ?_
        refine r_ifN_le (a := k) (tgt := 28) C (by first | omega | (simp [up2, *]; done) | (simp [up2, *]; omega) | (simp only [up2_eq]; omega) | (split <;> omega)) dX1_writeTo_18 (by decide) (fun h18_6 => ?_) (fun h18_6 => ?_)
        · skip
          have htl : tlx (fun k => r (f 0 i) (f 3 i + k)) (k + 1) = tlx (fun k => r (f 0 i) (f 3 i + k)) k + 0 + sz9 (r (f 0 i) (f 3 i + k)) := by
            show tlx (fun k => r (f 0 i) (f 3 i + k)) k + (if 0 < k then 2 else 0) + sz9 _ = _
            rw [if_neg (by omega)]
          simp only [Nat.add_zero] at htl
          refine r_aload_n C dX1_writeTo_28 rfl ?_
          refine r_aload_n C dX1_writeTo_29 rfl ?_
          refine r_iload_n C dX1_writeTo_30 rfl ?_
          refine d_V (st := [.ref b]) hX.1.1.stb C hE (C_itemAt (f := f) (r := r) (kn := kn) (i := i) (k := k) hX.1.1 hi h0 (by omega)) pk_X1_itemAt qm_X1_32 (3 + i) 5 rfl rfl (wc_p (by first | omega | (simp [up2, *]; done) | (simp [up2, *]; omega) | (simp only [up2_eq]; omega) | (split <;> omega))) rfl rfl (Nat.le_of_ble_eq_true rfl) dX1_writeTo_31 ⟨Nat.le_of_ble_eq_true rfl, Nat.le_of_ble_eq_true rfl⟩ ⟨by first | (simp only [rmk, rmz]; omega) | (simp only [rmk, rmz]; done) | omega, by first | (simp only [rmk, rmz]; omega) | (simp only [rmk, rmz]; done) | omega⟩ ?_
          obtain ⟨hc3_7, hcc_7, hcs_7⟩ := c3_step (q := tlx (fun k => r (f 0 i) (f 3 i + k)) k + sz9 (r (f 0 i) (f 3 i + k))) hc (by omega) (by omega)
          have hcg_7 := sb_cap_ge (tlx (fun k => r (f 0 i) (f 3 i + k)) k + sz9 (r (f 0 i) (f 3 i + k))) mm
          have hcm_7 := c3_le hc3_7
          refine c_V (st := []) hX.stb C hE (C_sbInt (U := WC cy a f r kn) (E := E) (b := b) (v := v2) (m := mm) (n := (tlx (fun k => r (f 0 i) (f 3 i + k)) k)) (g := g2) (ml := ml) (x := (r (f 0 i) (f 3 i + k))) hX hml (by first | omega | (simp [up2, *]; done) | (simp [up2, *]; omega) | (simp only [up2_eq]; omega) | (split <;> omega)) hg (hR k (by omega))) pk_J4_append_bf812 qm_X1_80 ((WC cy a f r kn).length + 0) 1 rfl rfl (us_g rfl) rfl rfl (Nat.le_of_ble_eq_true rfl) dX1_writeTo_34 ⟨Nat.le_of_ble_eq_true rfl, Nat.le_of_ble_eq_true rfl⟩ ⟨by first | (simp only [rmk, rmz]; omega) | (simp only [rmk, rmz]; done) | omega, by first | (simp only [rmk, rmz]; omega) | (simp only [rmk, rmz]; done) | omega⟩ (fun v9 w9 h9 => ?_) (fun _ h9 => h9.elim)
          obtain ⟨v9_8, g9_9, f_10, rfl, rfl⟩ := h9
          refine r_pop C dX1_writeTo_37 rfl ?_
          refine r_iincN C dX1_writeTo_38 rfl (by decide) rfl ?_
          refine r_goto (tgt := 9) C dX1_writeTo_41 (by decide) ?_
          exfalso
          omega
        · skip
          have htl : tlx (fun k => r (f 0 i) (f 3 i + k)) (k + 1) = tlx (fun k => r (f 0 i) (f 3 i + k)) k + 2 + sz9 (r (f 0 i) (f 3 i + k)) := by
            show tlx (fun k => r (f 0 i) (f 3 i + k)) k + (if 0 < k then 2 else 0) + sz9 _ = _
            rw [if_pos (by omega)]
          refine r_aload_n C dX1_writeTo_21 rfl ?_
          refine j_ldcS hX C hE (i := 0) rfl dX1_writeTo_22 ?_
          have hks : KSN.getD 0 0 = 2 := rfl
          obtain ⟨hc3_11, hcc_11, hcs_11⟩ := c3_step (q := tlx (fun k => r (f 0 i) (f 3 i + k)) k + KSN.getD 0 0) hc (by omega) (by omega)
          have hcg_11 := sb_cap_ge (tlx (fun k => r (f 0 i) (f 3 i + k)) k + KSN.getD 0 0) mm
          have hcm_11 := c3_le hc3_11
          refine c_V (st := []) hX.stb C hE (C_sbStr_K (U := WC cy a f r kn) (E := E) (b := b) (v := v2) (m := mm) (n := (tlx (fun k => r (f 0 i) (f 3 i + k)) k)) (g := g2) (ml := ml) (i := 0) hX hml (by first | omega | (simp [up2, *]; done) | (simp [up2, *]; omega) | (simp only [up2_eq]; omega) | (split <;> omega)) hg (by first | assumption | decide)) pk_J4_append_15ec4 qm_X1_77 ((WC cy a f r kn).length + 0) 1 rfl rfl (us_g rfl) rfl rfl (Nat.le_of_ble_eq_true rfl) dX1_writeTo_24 ⟨Nat.le_of_ble_eq_true rfl, Nat.le_of_ble_eq_true rfl⟩ ⟨by first | (simp only [rmk, rmz]; omega) | (simp only [rmk, rmz]; done) | omega, by first | (simp only [rmk, rmz]; omega) | (simp only [rmk, rmz]; done) | omega⟩ (fun v9 w9 h9 => ?_) (fun _ h9 => h9.elim)
          obtain ⟨v9_12, g9_13, f_14, rfl, rfl⟩ := h9
          refine r_pop C dX1_writeTo_27 rfl ?_
          refine r_aload_n C dX1_writeTo_28 rfl ?_
          refine r_aload_n C dX1_writeTo_29 rfl ?_
          refine r_iload_n C dX1_writeTo_30 rfl ?_
          refine d_V (st := [.ref b]) hX.1.1.stb C hE (C_itemAt (f := f) (r := r) (kn := kn) (i := i) (k := k) hX.1.1 hi h0 (by omega)) pk_X1_itemAt qm_X1_32 (3 + i) 5 rfl rfl (wc_p (by first | omega | (simp [up2, *]; done) | (simp [up2, *]; omega) | (simp only [up2_eq]; omega) | (split <;> omega))) rfl rfl (Nat.le_of_ble_eq_true rfl) dX1_writeTo_31 ⟨Nat.le_of_ble_eq_true rfl, Nat.le_of_ble_eq_true rfl⟩ ⟨by first | (simp only [rmk, rmz]; omega) | (simp only [rmk, rmz]; done) | omega, by first | (simp only [rmk, rmz]; omega) | (simp only [rmk, rmz]; done) | omega⟩ ?_
          obtain ⟨hc3_15, hcc_15, hcs_15⟩ := c3_step (q := tlx (fun k => r (f 0 i) (f 3 i + k)) k + KSN.getD 0 0 + sz9 (r (f 0 i) (f 3 i + k))) hc3_11 (by omega) (by omega)
          have hcg_15 := sb_cap_ge (tlx (fun k => r (f 0 i) (f 3 i + k)) k + KSN.getD 0 0 + sz9 (r (f 0 i) (f 3 i + k))) (sb_cap ((tlx (fun k => r (f 0 i) (f 3 i + k)) k) + KSN.getD 0 0) mm)
          have hcm_15 := c3_le hc3_15
          refine c_V (st := []) hX.stb C hE (C_sbInt (U := WC cy a f r kn) (E := E) (b := b) (v := v9_12) (m := (sb_cap ((tlx (fun k => r (f 0 i) (f 3 i + k)) k) + KSN.getD 0 0) mm)) (n := ((tlx (fun k => r (f 0 i) (f 3 i + k)) k) + KSN.getD 0 0)) (g := g9_13) (ml := ml) (x := (r (f 0 i) (f 3 i + k))) hX hcm_11 (by first | omega | (simp [up2, *]; done) | (simp [up2, *]; omega) | (simp only [up2_eq]; omega) | (split <;> omega)) f_14 (hR k (by omega))) pk_J4_append_bf812 qm_X1_80 ((WC cy a f r kn).length + 0) 1 rfl rfl (us_g rfl) rfl rfl (Nat.le_of_ble_eq_true rfl) dX1_writeTo_34 ⟨Nat.le_of_ble_eq_true rfl, Nat.le_of_ble_eq_true rfl⟩ ⟨by first | (simp only [rmk, rmz]; omega) | (simp only [rmk, rmz]; done) | omega, by first | (simp only [rmk, rmz]; omega) | (simp only [rmk, rmz]; done) | omega⟩ (fun v9 w9 h9 => ?_) (fun _ h9 => h9.elim)
          obtain ⟨v9_16, g9_17, f_18, rfl, rfl⟩ := h9
          refine r_pop C dX1_writeTo_37 rfl ?_
          refine r_iincN C dX1_writeTo_38 rfl (by decide) rfl ?_
          refine r_goto (tgt := 9) C dX1_writeTo_41 (by decide) ?_
          exfalso
          omega
    | succ d ih =>
      intro k v2 mm c1 s1 g2 hk hc hg hnm hcc hcs
      have hml := c3_le hc
      have htk := tlx_le (fun k => r (f 0 i) (f 3 i + k)) k
      have hz3 := sz9_le ((fun k => r (f 0 i) (f 3 i + k)) k)
      simp only at hz3
      refine r_iload_n C dX1_writeTo_9 rfl ?_
      refine r_aload_n C dX1_writeTo_10 rfl ?_
      refine p_get (v := .int (nI (f 4 i))) C 4 (by first | omega | (simp [up2, *]; done) | (simp [up2, *]; omega) | (simp only [up2_eq]; omega) | (split <;> omega)) (by decide) qf_X1_29 rfl rfl dX1_writeTo_11 ?_
      refine r_icN_ge (a := k) (b := (f 4 i)) (tgt := 44) C (by first | omega | (simp [up2, *]; done) | (simp [up2, *]; omega) | (simp only [up2_eq]; omega) | (split <;> omega)) (by first | omega | (simp [up2, *]; done) | (simp [up2, *]; omega) | (simp only [up2_eq]; omega) | (split <;> omega)) dX1_writeTo_14 (by decide) (fun h14_19 => ?_) (fun h14_19 => ?_)
      · skip
        have hkf : k = f 4 i := by omega
        refine r_aload_n C dX1_writeTo_44 rfl ?_
        refine r_bipush (v := (nI 93)) C dX1_writeTo_45 (by decide) ?_
        obtain ⟨hc3_20, hcc_20, hcs_20⟩ := c3_step (q := tlx (fun k => r (f 0 i) (f 3 i + k)) k + 1) hc (by omega) (by omega)
        have hcg_20 := sb_cap_ge (tlx (fun k => r (f 0 i) (f 3 i + k)) k + 1) mm
        have hcm_20 := c3_le hc3_20
        refine c_V (st := []) hX.stb C hE (C_sbChar (U := WC cy a f r kn) (E := E) (b := b) (v := v2) (m := mm) (n := (tlx (fun k => r (f 0 i) (f 3 i + k)) k)) (g := g2) (ml := ml) (ch := 93) hX hml (by first | omega | (simp [up2, *]; done) | (simp [up2, *]; omega) | (simp only [up2_eq]; omega) | (split <;> omega)) hg (by first | omega | (simp [up2, *]; done) | (simp [up2, *]; omega) | (simp only [up2_eq]; omega) | (split <;> omega))) pk_J4_append_cf468 qm_X1_69 ((WC cy a f r kn).length + 0) 1 rfl rfl (us_g rfl) rfl rfl (Nat.le_of_ble_eq_true rfl) dX1_writeTo_47 ⟨Nat.le_of_ble_eq_true rfl, Nat.le_of_ble_eq_true rfl⟩ ⟨by first | (simp only [rmk, rmz]; omega) | (simp only [rmk, rmz]; done) | omega, by first | (simp only [rmk, rmz]; omega) | (simp only [rmk, rmz]; done) | omega⟩ (fun v9 w9 h9 => ?_) (fun _ h9 => h9.elim)
        obtain ⟨v9_21, g9_22, f_23, rfl, rfl⟩ := h9
        refine r_pop C dX1_writeTo_50 rfl ?_
        exact r_vret C hr dX1_writeTo_51 ⟨v9_21, (sb_cap ((tlx (fun k => r (f 0 i) (f 3 i + k)) k) + 1) mm), g9_22, hc3_20, f_23, (by rw [← hkf]; exact hcg_20), rfl, by rw [hkf]⟩ (by first | (simp only [rmk, rmz]; omega) | (simp only [rmk, rmz]; done) | omega) (by first | (simp only [rmk, rmz]; omega) | (simp only [rmk, rmz]; done) | omega)
      · skip
        refine r_iload_n C dX1_writeTo_17 rfl ?_
        refine r_ifN_le (a := k) (tgt := 28) C (by first | omega | (simp [up2, *]; done) | (simp [up2, *]; omega) | (simp only [up2_eq]; omega) | (split <;> omega)) dX1_writeTo_18 (by decide) (fun h18_24 => ?_) (fun h18_24 => ?_)
        · skip
          have htl : tlx (fun k => r (f 0 i) (f 3 i + k)) (k + 1) = tlx (fun k => r (f 0 i) (f 3 i + k)) k + 0 + sz9 (r (f 0 i) (f 3 i + k)) := by
            show tlx (fun k => r (f 0 i) (f 3 i + k)) k + (if 0 < k then 2 else 0) + sz9 _ = _
            rw [if_neg (by omega)]
          simp only [Nat.add_zero] at htl
          refine r_aload_n C dX1_writeTo_28 rfl ?_
          refine r_aload_n C dX1_writeTo_29 rfl ?_
          refine r_iload_n C dX1_writeTo_30 rfl ?_
          refine d_V (st := [.ref b]) hX.1.1.stb C hE (C_itemAt (f := f) (r := r) (kn := kn) (i := i) (k := k) hX.1.1 hi h0 (by omega)) pk_X1_itemAt qm_X1_32 (3 + i) 5 rfl rfl (wc_p (by first | omega | (simp [up2, *]; done) | (simp [up2, *]; omega) | (simp only [up2_eq]; omega) | (split <;> omega))) rfl rfl (Nat.le_of_ble_eq_true rfl) dX1_writeTo_31 ⟨Nat.le_of_ble_eq_true rfl, Nat.le_of_ble_eq_true rfl⟩ ⟨by first | (simp only [rmk, rmz]; omega) | (simp only [rmk, rmz]; done) | omega, by first | (simp only [rmk, rmz]; omega) | (simp only [rmk, rmz]; done) | omega⟩ ?_
          obtain ⟨hc3_25, hcc_25, hcs_25⟩ := c3_step (q := tlx (fun k => r (f 0 i) (f 3 i + k)) k + sz9 (r (f 0 i) (f 3 i + k))) hc (by omega) (by omega)
          have hcg_25 := sb_cap_ge (tlx (fun k => r (f 0 i) (f 3 i + k)) k + sz9 (r (f 0 i) (f 3 i + k))) mm
          have hcm_25 := c3_le hc3_25
          refine c_V (st := []) hX.stb C hE (C_sbInt (U := WC cy a f r kn) (E := E) (b := b) (v := v2) (m := mm) (n := (tlx (fun k => r (f 0 i) (f 3 i + k)) k)) (g := g2) (ml := ml) (x := (r (f 0 i) (f 3 i + k))) hX hml (by first | omega | (simp [up2, *]; done) | (simp [up2, *]; omega) | (simp only [up2_eq]; omega) | (split <;> omega)) hg (hR k (by omega))) pk_J4_append_bf812 qm_X1_80 ((WC cy a f r kn).length + 0) 1 rfl rfl (us_g rfl) rfl rfl (Nat.le_of_ble_eq_true rfl) dX1_writeTo_34 ⟨Nat.le_of_ble_eq_true rfl, Nat.le_of_ble_eq_true rfl⟩ ⟨by first | (simp only [rmk, rmz]; omega) | (simp only [rmk, rmz]; done) | omega, by first | (simp only [rmk, rmz]; omega) | (simp only [rmk, rmz]; done) | omega⟩ (fun v9 w9 h9 => ?_) (fun _ h9 => h9.elim)
          obtain ⟨v9_26, g9_27, f_28, rfl, rfl⟩ := h9
          refine r_pop C dX1_writeTo_37 rfl ?_
          refine r_iincN C dX1_writeTo_38 rfl (by decide) rfl ?_
          refine r_goto (tgt := 9) C dX1_writeTo_41 (by decide) ?_
          refine r_w (w' := WC cy a f r kn ++ (SBO b v9_26 ml (tlx (fun k => r (f 0 i) (f 3 i + k)) (k + 1)) :: BYO cy v9_26 (sb_cap ((tlx (fun k => r (f 0 i) (f 3 i + k)) k) + sz9 (r (f 0 i) (f 3 i + k))) mm) g9_27 :: E)) (by first | (rw [htl]; done) | (rw [htl]; rfl)) ?_
          refine r_widen (k := 2 - potC (sb_cap ((tlx (fun k => r (f 0 i) (f 3 i + k)) k) + sz9 (r (f 0 i) (f 3 i + k))) mm)) (n := 104 - potS (sb_cap ((tlx (fun k => r (f 0 i) (f 3 i + k)) k) + sz9 (r (f 0 i) (f 3 i + k))) mm)) (by first | (simp only [rmk, rmz]; omega) | (simp only [rmk, rmz]; done) | omega) (by first | (simp only [rmk, rmz]; omega) | (simp only [rmk, rmz]; done) | omega) ?_
          exact ih (k + 1) v9_26 (sb_cap ((tlx (fun k => r (f 0 i) (f 3 i + k)) k) + sz9 (r (f 0 i) (f 3 i + k))) mm) (2 - potC (sb_cap ((tlx (fun k => r (f 0 i) (f 3 i + k)) k) + sz9 (r (f 0 i) (f 3 i + k))) mm)) (104 - potS (sb_cap ((tlx (fun k => r (f 0 i) (f 3 i + k)) k) + sz9 (r (f 0 i) (f 3 i + k))) mm)) g9_27 (by omega) hc3_25 f_28 (by first | omega | (rw [htl]; exact hcg_25)) (by have := potC_le (sb_cap ((tlx (fun k => r (f 0 i) (f 3 i + k)) k) + sz9 (r (f 0 i) (f 3 i + k))) mm); omega) (by have := potS_le (sb_cap ((tlx (fun k => r (f 0 i) (f 3 i + k)) k) + sz9 (r (f 0 i) (f 3 i + k))) mm); omega)
        · skip
          have htl : tlx (fun k => r (f 0 i) (f 3 i + k)) (k + 1) = tlx (fun k => r (f 0 i) (f 3 i + k)) k + 2 + sz9 (r (f 0 i) (f 3 i + k)) := by
            show tlx (fun k => r (f 0 i) (f 3 i + k)) k + (if 0 < k then 2 else 0) + sz9 _ = _
            rw [if_pos (by omega)]
          refine r_aload_n C dX1_writeTo_21 rfl ?_
          refine j_ldcS hX C hE (i := 0) rfl dX1_writeTo_22 ?_
          have hks : KSN.getD 0 0 = 2 := rfl
          obtain ⟨hc3_29, hcc_29, hcs_29⟩ := c3_step (q := tlx (fun k => r (f 0 i) (f 3 i + k)) k + KSN.getD 0 0) hc (by omega) (by omega)
          have hcg_29 := sb_cap_ge (tlx (fun k => r (f 0 i) (f 3 i + k)) k + KSN.getD 0 0) mm
          have hcm_29 := c3_le hc3_29
          refine c_V (st := []) hX.stb C hE (C_sbStr_K (U := WC cy a f r kn) (E := E) (b := b) (v := v2) (m := mm) (n := (tlx (fun k => r (f 0 i) (f 3 i + k)) k)) (g := g2) (ml := ml) (i := 0) hX hml (by first | omega | (simp [up2, *]; done) | (simp [up2, *]; omega) | (simp only [up2_eq]; omega) | (split <;> omega)) hg (by first | assumption | decide)) pk_J4_append_15ec4 qm_X1_77 ((WC cy a f r kn).length + 0) 1 rfl rfl (us_g rfl) rfl rfl (Nat.le_of_ble_eq_true rfl) dX1_writeTo_24 ⟨Nat.le_of_ble_eq_true rfl, Nat.le_of_ble_eq_true rfl⟩ ⟨by first | (simp only [rmk, rmz]; omega) | (simp only [rmk, rmz]; done) | omega, by first | (simp only [rmk, rmz]; omega) | (simp only [rmk, rmz]; done) | omega⟩ (fun v9 w9 h9 => ?_) (fun _ h9 => h9.elim)
          obtain ⟨v9_30, g9_31, f_32, rfl, rfl⟩ := h9
          refine r_pop C dX1_writeTo_27 rfl ?_
          refine r_aload_n C dX1_writeTo_28 rfl ?_
          refine r_aload_n C dX1_writeTo_29 rfl ?_
          refine r_iload_n C dX1_writeTo_30 rfl ?_
          refine d_V (st := [.ref b]) hX.1.1.stb C hE (C_itemAt (f := f) (r := r) (kn := kn) (i := i) (k := k) hX.1.1 hi h0 (by omega)) pk_X1_itemAt qm_X1_32 (3 + i) 5 rfl rfl (wc_p (by first | omega | (simp [up2, *]; done) | (simp [up2, *]; omega) | (simp only [up2_eq]; omega) | (split <;> omega))) rfl rfl (Nat.le_of_ble_eq_true rfl) dX1_writeTo_31 ⟨Nat.le_of_ble_eq_true rfl, Nat.le_of_ble_eq_true rfl⟩ ⟨by first | (simp only [rmk, rmz]; omega) | (simp only [rmk, rmz]; done) | omega, by first | (simp only [rmk, rmz]; omega) | (simp only [rmk, rmz]; done) | omega⟩ ?_
          obtain ⟨hc3_33, hcc_33, hcs_33⟩ := c3_step (q := tlx (fun k => r (f 0 i) (f 3 i + k)) k + KSN.getD 0 0 + sz9 (r (f 0 i) (f 3 i + k))) hc3_29 (by omega) (by omega)
          have hcg_33 := sb_cap_ge (tlx (fun k => r (f 0 i) (f 3 i + k)) k + KSN.getD 0 0 + sz9 (r (f 0 i) (f 3 i + k))) (sb_cap ((tlx (fun k => r (f 0 i) (f 3 i + k)) k) + KSN.getD 0 0) mm)
          have hcm_33 := c3_le hc3_33
          refine c_V (st := []) hX.stb C hE (C_sbInt (U := WC cy a f r kn) (E := E) (b := b) (v := v9_30) (m := (sb_cap ((tlx (fun k => r (f 0 i) (f 3 i + k)) k) + KSN.getD 0 0) mm)) (n := ((tlx (fun k => r (f 0 i) (f 3 i + k)) k) + KSN.getD 0 0)) (g := g9_31) (ml := ml) (x := (r (f 0 i) (f 3 i + k))) hX hcm_29 (by first | omega | (simp [up2, *]; done) | (simp [up2, *]; omega) | (simp only [up2_eq]; omega) | (split <;> omega)) f_32 (hR k (by omega))) pk_J4_append_bf812 qm_X1_80 ((WC cy a f r kn).length + 0) 1 rfl rfl (us_g rfl) rfl rfl (Nat.le_of_ble_eq_true rfl) dX1_writeTo_34 ⟨Nat.le_of_ble_eq_true rfl, Nat.le_of_ble_eq_true rfl⟩ ⟨by first | (simp only [rmk, rmz]; omega) | (simp only [rmk, rmz]; done) | omega, by first | (simp only [rmk, rmz]; omega) | (simp only [rmk, rmz]; done) | omega⟩ (fun v9 w9 h9 => ?_) (fun _ h9 => h9.elim)
          obtain ⟨v9_34, g9_35, f_36, rfl, rfl⟩ := h9
          refine r_pop C dX1_writeTo_37 rfl ?_
          refine r_iincN C dX1_writeTo_38 rfl (by decide) rfl ?_
          refine r_goto (tgt := 9) C dX1_writeTo_41 (by decide) ?_
          refine r_w (w' := WC cy a f r kn ++ (SBO b v9_34 ml (tlx (fun k => r (f 0 i) (f 3 i + k)) (k + 1)) :: BYO cy v9_34 (sb_cap (((tlx (fun k => r (f 0 i) (f 3 i + k)) k) + KSN.getD 0 0) + sz9 (r (f 0 i) (f 3 i + k))) (sb_cap ((tlx (fun k => r (f 0 i) (f 3 i + k)) k) + KSN.getD 0 0) mm)) g9_35 :: E)) (by first | (rw [htl]; done) | (rw [htl]; rfl)) ?_
          refine r_widen (k := 2 - potC (sb_cap (((tlx (fun k => r (f 0 i) (f 3 i + k)) k) + KSN.getD 0 0) + sz9 (r (f 0 i) (f 3 i + k))) (sb_cap ((tlx (fun k => r (f 0 i) (f 3 i + k)) k) + KSN.getD 0 0) mm))) (n := 104 - potS (sb_cap (((tlx (fun k => r (f 0 i) (f 3 i + k)) k) + KSN.getD 0 0) + sz9 (r (f 0 i) (f 3 i + k))) (sb_cap ((tlx (fun k => r (f 0 i) (f 3 i + k)) k) + KSN.getD 0 0) mm))) (by first | (simp only [rmk, rmz]; omega) | (simp only [rmk, rmz]; done) | omega) (by first | (simp only [rmk, rmz]; omega) | (simp only [rmk, rmz]; done) | omega) ?_
          exact ih (k + 1) v9_34 (sb_cap (((tlx (fun k => r (f 0 i) (f 3 i + k)) k) + KSN.getD 0 0) + sz9 (r (f 0 i) (f 3 i + k))) (sb_cap ((tlx (fun k => r (f 0 i) (f 3 i + k)) k) + KSN.getD 0 0) mm)) (2 - potC (sb_cap (((tlx (fun k => r (f 0 i) (f 3 i + k)) k) + KSN.getD 0 0) + sz9 (r (f 0 i) (f 3 i + k))) (sb_cap ((tlx (fun k => r (f 0 i) (f 3 i + k)) k) + KSN.getD 0 0) mm))) (104 - potS (sb_cap (((tlx (fun k => r (f 0 i) (f 3 i + k)) k) + KSN.getD 0 0) + sz9 (r (f 0 i) (f 3 i + k))) (sb_cap ((tlx (fun k => r (f 0 i) (f 3 i + k)) k) + KSN.getD 0 0) mm))) g9_35 (by omega) hc3_33 f_36 (by first | omega | (rw [htl]; exact hcg_33)) (by have := potC_le (sb_cap (((tlx (fun k => r (f 0 i) (f 3 i + k)) k) + KSN.getD 0 0) + sz9 (r (f 0 i) (f 3 i + k))) (sb_cap ((tlx (fun k => r (f 0 i) (f 3 i + k)) k) + KSN.getD 0 0) mm)); omega) (by have := potS_le (sb_cap (((tlx (fun k => r (f 0 i) (f 3 i + k)) k) + KSN.getD 0 0) + sz9 (r (f 0 i) (f 3 i + k))) (sb_cap ((tlx (fun k => r (f 0 i) (f 3 i + k)) k) + KSN.getD 0 0) mm)); omega)
  have hml := c3_le hc
  have hpc := potC_le m
  have hps := potS_le m
  refine r_widen (k := 2 - potC m) (n := 104 - potS m) (Nat.zero_le _) (Nat.zero_le _) ?_
  have h16 : 16 ≤ m := by rcases hc with rfl | rfl | rfl <;> decide
  refine r_aload_n C dX1_writeTo_0 rfl ?_
  refine r_bipush (v := (nI 91)) C dX1_writeTo_1 (by decide) ?_
  obtain ⟨hc3_37, hcc_37, hcs_37⟩ := c3_step (q := 0 + 1) hc (by omega) (by omega)
  have hcg_37 := sb_cap_ge (0 + 1) m
  have hcm_37 := c3_le hc3_37
  refine c_V (st := []) hX.stb C hE (C_sbChar (U := WC cy a f r kn) (E := E) (b := b) (v := v) (m := m) (n := 0) (g := g) (ml := ml) (ch := 91) hX hml (by first | omega | (simp [up2, *]; done) | (simp [up2, *]; omega) | (simp only [up2_eq]; omega) | (split <;> omega)) hf (by first | omega | (simp [up2, *]; done) | (simp [up2, *]; omega) | (simp only [up2_eq]; omega) | (split <;> omega))) pk_J4_append_cf468 qm_X1_69 ((WC cy a f r kn).length + 0) 1 rfl rfl (us_g rfl) rfl rfl (Nat.le_of_ble_eq_true rfl) dX1_writeTo_3 ⟨Nat.le_of_ble_eq_true rfl, Nat.le_of_ble_eq_true rfl⟩ ⟨by first | (simp only [rmk, rmz]; omega) | (simp only [rmk, rmz]; done) | omega, by first | (simp only [rmk, rmz]; omega) | (simp only [rmk, rmz]; done) | omega⟩ (fun v9 w9 h9 => ?_) (fun _ h9 => h9.elim)
  obtain ⟨v9_38, g9_39, f_40, rfl, rfl⟩ := h9
  refine r_pop C dX1_writeTo_6 rfl ?_
  refine r_iconst (v := (nI 0)) C dX1_writeTo_7 (by decide) ?_
  refine r_istore_n C dX1_writeTo_8 (by decide) rfl ?_
  refine r_widen (k := 2 - potC (sb_cap (0 + 1) m)) (n := 104 - potS (sb_cap (0 + 1) m)) (by first | (simp only [rmk, rmz]; omega) | (simp only [rmk, rmz]; done) | omega) (by first | (simp only [rmk, rmz]; omega) | (simp only [rmk, rmz]; done) | omega) ?_
  exact L9 (f 4 i) 0 v9_38 (sb_cap (0 + 1) m) (2 - potC (sb_cap (0 + 1) m)) (104 - potS (sb_cap (0 + 1) m)) g9_39 (Nat.zero_add _) hc3_37 f_40 (by show 1 ≤ _; omega) (by have := potC_le (sb_cap (0 + 1) m); omega) (by have := potS_le (sb_cap (0 + 1) m); omega)
end PT_61
