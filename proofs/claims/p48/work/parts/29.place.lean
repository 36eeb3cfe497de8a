/-! A WINDOW LIES IN ITS GROUND -/
theorem poF_ne {g : Nat → Nat} : ∀ d k, k + d < 4294967295 → (∃ q, k ≤ q ∧ q < k + d ∧ g q ≠ 0) → poF g d k < k + d
  | 0, k, _, h => by
    obtain ⟨q, h1, h2, _⟩ := h
    omega
  | d + 1, k, hk, h => by
    unfold poF
    by_cases z : g k = 0
    · have := poF_ne (g := g) d (k + 1) (by omega) (by
        obtain ⟨q, h1, h2, h3⟩ := h
        refine ⟨q, ?_, by omega, h3⟩
        rcases Nat.lt_or_ge k q with h4 | h4
        · omega
        · exact absurd z (by rw [show k = q by omega]; exact h3))
      first
      | rw [if_pos z]; omega
      | rw [if_neg (by omega)]; omega
    · first
      | rw [if_neg z]; omega
      | rw [if_pos (by omega)]; omega
