/-! A ROW LAID IN RISING ORDER, AND ONE LAID IN FALLING ORDER -/
/-- one item more laid into both: they stay each other's mirror -/
theorem ins_core {S T S' T' : Nat → Int} {e p p' : Nat} {x : Int} (hT : ∀ q, q < e → T q = S (e - 1 - q)) (hp : p ≤ e) (hp' : p' ≤ e) (a1 : ∀ q, q < p → S q ≤ x) (a2 : ∀ q, p ≤ q → q < e → x < S q) (b1 : ∀ q, q < p' → x ≤ T q) (b2 : ∀ q, p' ≤ q → q < e → T q < x) (s1 : ∀ k, k < p → S' k = S k) (s2 : S' p = x) (s3 : ∀ k, p < k → k ≤ e → S' k = S (k - 1)) (t1 : ∀ k, k < p' → T' k = T k) (t2 : T' p' = x) (t3 : ∀ k, p' < k → k ≤ e → T' k = T (k - 1)) : ∀ q, q < e + 1 → T' q = S' (e - q) := by
  have hle : e - p' ≤ p := by
    refine Decidable.byContradiction fun z => ?_
    have h1 := a2 p (Nat.le_refl p) (by omega)
    have h2 := b2 (e - 1 - p) (by omega) (by omega)
    rw [hT _ (by omega), show e - 1 - (e - 1 - p) = p by omega] at h2
    omega
  have eqx : ∀ k, e - p' ≤ k → k < p → S k = x := fun k h1 h2 => by
    have h3 := a1 k h2
    have h4 := b1 (e - 1 - k) (by omega)
    rw [hT _ (by omega), show e - 1 - (e - 1 - k) = k by omega] at h4
    omega
  intro q hq
  rcases Nat.lt_trichotomy q p' with h | h | h
  · rw [t1 q h, hT q (by omega)]
    rcases Nat.lt_trichotomy (e - q) p with g | g | g
    · rw [s1 _ g, eqx (e - q) (by omega) g, eqx (e - 1 - q) (by omega) (by omega)]
    · rw [g, s2, eqx (e - 1 - q) (by omega) (by omega)]
    · rw [s3 _ g (by omega), show e - 1 - q = e - q - 1 by omega]
  · subst h
    rw [t2]
    rcases Nat.lt_trichotomy (e - q) p with g | g | g
    · rw [s1 _ g, eqx (e - q) (by omega) g]
    · rw [g, s2]
    · exact absurd g (by omega)
  · rw [t3 q h (by omega), hT (q - 1) (by omega), s1 (e - q) (by omega), show e - 1 - (q - 1) = e - q by omega]
/-- what rises goes on rising -/
theorem ins_up {S S' : Nat → Int} {e p : Nat} {x : Int} (hs : ∀ q, q + 1 < e → S q ≤ S (q + 1)) (hp : p ≤ e) (a1 : ∀ q, q < p → S q ≤ x) (a2 : ∀ q, p ≤ q → q < e → x < S q) (s1 : ∀ k, k < p → S' k = S k) (s2 : S' p = x) (s3 : ∀ k, p < k → k ≤ e → S' k = S (k - 1)) : ∀ q, q + 1 < e + 1 → S' q ≤ S' (q + 1) := by
  intro q hq
  rcases Nat.lt_trichotomy q p with h | h | h
  · rw [s1 q h]
    rcases Nat.lt_trichotomy (q + 1) p with g | g | g
    · rw [s1 _ g]
      exact hs q (by omega)
    · rw [g, s2]
      exact a1 q h
    · exact absurd g (by omega)
  · subst h
    rw [s2, s3 (q + 1) (by omega) (by omega), Nat.add_sub_cancel]
    exact Int.le_of_lt (a2 q (Nat.le_refl q) (by omega))
  · rw [s3 q h (by omega), s3 (q + 1) (by omega) (by omega), Nat.add_sub_cancel]
    have := hs (q - 1) (by omega)
    rw [show q - 1 + 1 = q by omega] at this
    exact this
/-- where an item is laid in -/
theorem inP_le (g : Nat → Int32) (b : Nat) (x : Int32) : ∀ e, inP g b x e ≤ e
  | 0 => Nat.le_refl 0
  | e + 1 => by
    unfold inP
    split
    · exact Nat.le_refl _
    · exact Nat.le_succ_of_le (inP_le g b x e)
theorem inP_ge (g : Nat → Int32) (b : Nat) (x : Int32) : ∀ e q, inP g b x e ≤ q → q < e → ¬ rkF b (g q) ≤ rkF b x
  | 0, q, _, h => absurd h (Nat.not_lt_zero q)
  | e + 1, q, h1, h2 => by
    unfold inP at h1
    split at h1
    · exact absurd h2 (by omega)
    · rename_i hn
      by_cases h : q = e
      · rw [h]
        exact hn
      · exact inP_ge g b x e q h1 (by omega)
theorem inP_at (g : Nat → Int32) (b : Nat) (x : Int32) : ∀ e, 0 < inP g b x e → rkF b (g (inP g b x e - 1)) ≤ rkF b x
  | 0, h => absurd h (by unfold inP; omega)
  | e + 1, h => by
    by_cases hn : rkF b (g e) ≤ rkF b x
    · have hh : inP g b x (e + 1) = e + 1 := if_pos hn
      rw [hh, Nat.add_sub_cancel]
      exact hn
    · have hh : inP g b x (e + 1) = inP g b x e := if_neg hn
      rw [hh] at h ⊢
      exact inP_at g b x e h
/-- the places behind one laying in -/
theorem in1_lt {r : Nat → Nat → Int32} {j lo b e p k : Nat} (hp : inP (fun q => r j (lo + q)) b (r j (lo + e)) e = p) (hk : k < p) : in1 r j lo b e j (lo + k) = r j (lo + k) := by
  subst hp
  unfold in1
  rw [up2_i _ _ _ _ (by omega), shf_lo (by omega)]
theorem in1_eq {r : Nat → Nat → Int32} {j lo b e p : Nat} (hp : inP (fun q => r j (lo + q)) b (r j (lo + e)) e = p) : in1 r j lo b e j (lo + p) = r j (lo + e) := by
  subst hp
  exact up2_eq _ _ _ _
theorem in1_gt {r : Nat → Nat → Int32} {j lo b e p k : Nat} (hp : inP (fun q => r j (lo + q)) b (r j (lo + e)) e = p) (hk : p < k) (hke : k ≤ e) : in1 r j lo b e j (lo + k) = r j (lo + (k - 1)) := by
  subst hp
  unfold in1
  rw [up2_i _ _ _ _ (by omega)]
  unfold shf
  rw [if_pos ⟨rfl, by omega, by omega⟩]
  exact congrArg (r j) (by omega)
theorem in1_far {r : Nat → Nat → Int32} {j lo b e k : Nat} (hke : e < k) : in1 r j lo b e j (lo + k) = r j (lo + k) := by
  have := inP_le (fun q => r j (lo + q)) b (r j (lo + e)) e
  unfold in1
  rw [up2_i _ _ _ _ (by omega)]
  unfold shf
  rw [if_neg (by omega)]
