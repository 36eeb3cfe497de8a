theorem dJ9_floorMod_7cf53_17 : decode cJ9_floorMod_7cf53 17 = .ok (.ireturn, 1) := by decide +kernel
theorem dJ9_floorMod_7cf53_18 : decode cJ9_floorMod_7cf53 18 = .ok (.iload_n 2, 1) := by decide +kernel
theorem dJ9_floorMod_7cf53_19 : decode cJ9_floorMod_7cf53 19 = .ok (.ireturn, 1) := by decide +kernel
set_option maxRecDepth 100000 in
set_option maxHeartbeats 4000000 in
theorem C_floorMod {l : Launch} {D : va_G} {cy : Nat → ClassId} {X : (Nat → Prop) → State → Heap → Prop} {w : va_W} {x : Int32} {n : Nat} (h0 : 0 < n) (hn : n < 2147483648) : Cd l D cy X yJ9_floorMod_7cf53 cJ9_floorMod_7cf53 3 (some .int) (rmz 0 0) [.int x, .int (nI n)] w (some (.int (nI (shN x n)))) w := by
  refine Cm.ofF [some (.int x), some (.int (nI n)), none] (by decide +kernel) rfl (Nat.le_of_ble_eq_true rfl) ?_
  intro p e s m args below meth c A C hE hr hnt hnm
  have hnI : (nI n).toInt = (n : Int) := nI_toInt hn
  have hrt := rem_toInt x (nI n)
  rw [hnI] at hrt
  obtain ⟨t, ht⟩ : ∃ t, t = x - x / nI n * nI n := ⟨_, rfl⟩
  rw [← ht] at hrt
  have hfm := fm_mod (show (0 : Int) < n by omega) hrt
  have hb := tmod_bounds (a := x.toInt) (show (0 : Int) < n by omega)
  rw [← hrt] at hb
  refine r_iload_n C dJ9_floorMod_7cf53_0 rfl ?_
  refine r_iload_n C dJ9_floorMod_7cf53_1 rfl ?_
  refine r_irem C dJ9_floorMod_7cf53_2 (nI_ne0 h0 hn) ?_
  rw [← ht]
  refine r_istore_n C dJ9_floorMod_7cf53_3 (by decide) rfl ?_
  refine r_iload_n C dJ9_floorMod_7cf53_4 rfl ?_
  refine r_iload_n C dJ9_floorMod_7cf53_5 rfl ?_
  refine r_ixor C dJ9_floorMod_7cf53_6 ?_
  refine r_if_ge (tgt := 18) C dJ9_floorMod_7cf53_7 (by decide) (fun h => ?_) (fun h => ?_)
  · refine r_iload_n C dJ9_floorMod_7cf53_18 rfl ?_
    refine r_iret C hr dJ9_floorMod_7cf53_19 ⟨?_, rfl⟩ (Nat.le_refl _) (Nat.le_refl _)
    have hx : ¬ x.toInt < 0 := fun q => by
      have := (xor_neg (x := x) (y := nI n) (by omega)).mpr q
      exact absurd h (Int32.not_le.mpr this)
    have h3 : 0 ≤ t.toInt := by
      rw [hrt]
      exact Int.tmod_nonneg _ (by omega)
    rw [if_neg (by omega)] at hfm
    rw [fm_val h0 hn hfm.symm]
  · have hx : x.toInt < 0 := (xor_neg (x := x) (y := nI n) (by omega)).mp (Int32.not_le.mp h)
    refine r_iload_n C dJ9_floorMod_7cf53_10 rfl ?_
    refine r_if_eq (tgt := 18) C dJ9_floorMod_7cf53_11 (by decide) (fun h => ?_) (fun h => ?_)
    · refine r_iload_n C dJ9_floorMod_7cf53_18 rfl ?_
      refine r_iret C hr dJ9_floorMod_7cf53_19 ⟨?_, rfl⟩ (Nat.le_refl _) (Nat.le_refl _)
      have h4 : t.toInt = 0 := by rw [h]; rfl
      rw [if_neg (by omega)] at hfm
      rw [fm_val h0 hn hfm.symm]
    · refine r_iload_n C dJ9_floorMod_7cf53_14 rfl ?_
      refine r_iload_n C dJ9_floorMod_7cf53_15 rfl ?_
      refine r_iadd C dJ9_floorMod_7cf53_16 ?_
      refine r_iret C hr dJ9_floorMod_7cf53_17 ⟨?_, rfl⟩ (Nat.le_refl _) (Nat.le_refl _)
      have h4 : t.toInt ≠ 0 := fun q => h (Int32.toInt_inj.mp (by rw [q]; rfl))
      have h5 : t.toInt ≤ 0 := by
        rw [hrt]
        have h7 : (-x.toInt).tmod n = -(x.toInt.tmod n) := Int.neg_tmod _ _
        have h8 := Int.tmod_nonneg (a := -x.toInt) n (by omega)
        omega
      rw [if_pos (by omega)] at hfm
      have h6 : (t + nI n).toInt = t.toInt + n := by
        rw [Int32.toInt_add, hnI]
        exact Int.bmod_eq_of_le (by omega) (by omega)
      rw [fm_val h0 hn (h6.trans hfm.symm)]
