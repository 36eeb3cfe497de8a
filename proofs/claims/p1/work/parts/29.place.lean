/-! A WINDOW LIES IN ITS GROUND -/
theorem poF_ne {g : Nat → Nat} : ∀ d k, k + d < 4294967295 → (∃ q, k ≤ q ∧ q < k + d ∧ g q ≠ 0) → poF g d k < k + d
  | 0, k, _, h => by
    obtain ⟨q, h1, h2, _⟩ := h
    omega
  | d + 1, k, hk, h => by
    unfold poF
    by_cases z : g k = 0
    · have := poF_ne (g := g) d (k + 1) (by omega) (by
        obtain ⟨q, h1, h2, h3⟩ := h
        refine ⟨q, ?_, by omega, h3⟩
        rcases Nat.lt_or_ge k q with h4 | h4
        · omega
        · exact absurd z (by rw [show k = q by omega]; exact h3))
      first
      | rw [if_pos z]; omega
      | rw [if_neg (by omega)]; omega
    · first
      | rw [if_neg z]; omega
      | rw [if_pos (by omega)]; omega
theorem win_place {f : Nat → Nat → Nat} {r : Nat → Nat → Int32} (h : CInv f) {i : Nat} (h4 : 4 ≤ i) (hi : i < 8) (h5 : f 5 i = 1) : poF (fun k => stF (fun q => r (f 0 (f 2 i)) (f 3 (f 2 i) + (k + q))) (fun q => r (f 0 i) (f 3 i + q)) (f 4 i) 0) (f 4 (f 2 i) + 1 - f 4 i) 0 < 13 := by
  have hw := h.wi h4 hi h5
  have hg := h.th hw.1 hw.2.1
  have ha := h.al hi
  have hb := h.al hw.1
  have h0 : f 0 (f 2 i) = f 0 i := by rw [ha.2.2.1, hb.2.2.1, hw.2.2.1]
  have hp := poF_ne (g := fun k => stF (fun q => r (f 0 (f 2 i)) (f 3 (f 2 i) + (k + q))) (fun q => r (f 0 i) (f 3 i + q)) (f 4 i) 0) (f 4 (f 2 i) + 1 - f 4 i) 0 (by omega) ⟨f 3 i - f 3 (f 2 i), by omega, by omega, by
    have e := stF_all (g := fun q => r (f 0 (f 2 i)) (f 3 (f 2 i) + (f 3 i - f 3 (f 2 i) + q))) (h := fun q => r (f 0 i) (f 3 i + q)) (f 4 i) 0 (fun q _ _ => by
      show r (f 0 (f 2 i)) (f 3 (f 2 i) + (f 3 i - f 3 (f 2 i) + q)) = r (f 0 i) (f 3 i + q)
      rw [h0, show f 3 (f 2 i) + (f 3 i - f 3 (f 2 i) + q) = f 3 i + q by omega])
    show stF _ _ _ _ ≠ 0
    omega⟩
  omega
