theorem ah_0 {x y : Int32} (hx : IB x) (hy : IB y) : ahF 0 x y = if y < x then 1 else 0 := by
  unfold ahF rkF
  simp only [if_true, neg_lt hx hy]
theorem ah_1 {x y : Int32} : ahF 1 x y = if shN x 10 < shN y 10 then 1 else 0 := by
  unfold ahF rkF
  simp only [show ¬ (1 = 0) by decide, if_false, if_true, sh_lt]
theorem ah_2 {x y : Int32} : ahF 2 x y = if x < 0 ∧ 0 ≤ y then 1 else 0 := by
  unfold ahF rkF
  simp only [show ¬ (2 = 0) by decide, show ¬ (2 = 1) by decide, if_false, if_true]
  by_cases h1 : x < 0
  · rw [if_pos h1]
    by_cases h2 : y < 0
    · rw [if_pos h2, if_neg (by decide), if_neg (fun z => absurd z.2 (Int32.not_le.mpr h2))]
    · rw [if_neg h2, if_pos (by decide), if_pos ⟨h1, Int32.not_lt.mp h2⟩]
  · rw [if_neg h1, if_neg (fun z : x < 0 ∧ 0 ≤ y => h1 z.1)]
    by_cases h2 : y < 0
    · rw [if_pos h2, if_neg (by decide)]
    · rw [if_neg h2, if_neg (by decide)]
theorem ah_3 {x y : Int32} : ahF 3 x y = if x < y then 1 else 0 := by
  unfold ahF rkF
  simp only [show ¬ (3 = 0) by decide, show ¬ (3 = 1) by decide, show ¬ (3 = 2) by decide, if_false]
