theorem xor_neg {x y : Int32} (hy : 0 ≤ y.toInt) : (x ^^^ y) < 0 ↔ x.toInt < 0 := by
  have h1 : (x ^^^ y) < 0 ↔ (x ^^^ y).toInt < 0 := by
    rw [Int32.lt_iff_toInt_lt]
    rfl
  rw [h1]
  have e1 : ∀ z : Int32, z.toInt < 0 ↔ z.toBitVec.msb = true := fun z => by
    rw [BitVec.msb_eq_toInt]
    simp only [decide_eq_true_eq]
    rfl
  rw [e1, e1]
  have e2 : y.toBitVec.msb = false := by
    rcases h : y.toBitVec.msb with _ | _
    · rfl
    · have := (e1 y).mpr h
      omega
  have e3 : (x ^^^ y).toBitVec = x.toBitVec ^^^ y.toBitVec := rfl
  rw [e3, BitVec.msb_xor, e2, Bool.xor_false]
theorem fm_mod {X t n : Int} (hn : 0 < n) (ht : t = X.tmod n) : X % n = if t < 0 then t + n else t := by
  have h1 : X % n = t % n := by
    rw [ht, Int.tmod_def, Int.sub_mul_emod_self_left]
  have hb := tmod_bounds (a := X) hn
  rw [← ht] at hb
  rw [h1]
  split
  · rw [← Int.add_emod_right, Int.emod_eq_of_lt (by omega) (by omega)]
  · exact Int.emod_eq_of_lt (by omega) (by omega)
theorem fm_val {x : Int32} {n : Nat} (h0 : 0 < n) (hn : n < 2147483648) {y : Int32} (hy : y.toInt = x.toInt % (n : Int)) : y = nI (shN x n) := by
  apply Int32.toInt_inj.mp
  have h1 := shN_lt x h0
  have h2 : ((shN x n : Nat) : Int) = x.toInt % (n : Int) := by
    unfold shN
    exact Int.toNat_of_nonneg (Int.emod_nonneg _ (by omega))
  rw [hy, nI_toInt (by omega), h2]
