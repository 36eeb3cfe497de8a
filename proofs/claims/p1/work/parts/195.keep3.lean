/-! THE INVARIANT OVER CURSORS AND WINDOWS -/
/-- one cursor's four numbers -/
theorem cur_keep {f F : Nat → Nat → Nat} {k : Nat} (h : CInv f) (e : ∀ fl i, fl < 6 ∨ i ≠ k → F fl i = f fl i) (h6 : F 6 k < 8) (h9 : F 9 k ≤ 1) (hd : F 9 k = 1 → f 5 (F 6 k) = 1 ∧ F 7 k ≤ f 4 (F 6 k) ∧ (F 8 k = 4294967295 ∨ F 8 k < f 4 (F 6 k))) : CInv F := by
  obtain ⟨a1, a2, a3, a4, a5, a6⟩ := h
  have e0 : ∀ i, F 0 i = f 0 i := fun i => e 0 i (Or.inl (by decide))
  have e1 : ∀ i, F 1 i = f 1 i := fun i => e 1 i (Or.inl (by decide))
  have e2 : ∀ i, F 2 i = f 2 i := fun i => e 2 i (Or.inl (by decide))
  have e3 : ∀ i, F 3 i = f 3 i := fun i => e 3 i (Or.inl (by decide))
  have e4 : ∀ i, F 4 i = f 4 i := fun i => e 4 i (Or.inl (by decide))
  have e5 : ∀ i, F 5 i = f 5 i := fun i => e 5 i (Or.inl (by decide))
  refine ⟨fun i hi => ?_, ?_, fun i hi => ?_, fun i hi h5 => ?_, fun i h4 hi h5 => ?_, fun j hj => ?_⟩
  · rw [e0, e1, e2, e3, e4, e5]
    exact a1 i hi
  · rw [e0, e3, e0, e3, e0, e3, e4, e4, e4]
    exact a2
  · rw [e5, e1, e0, e2]
    exact a3 i hi
  · rw [e5] at h5
    rw [e3, e1, e4, e4]
    exact a4 i hi h5
  · rw [e5] at h5
    have h := a5 i h4 hi h5
    rw [e2, e5, e1, e1, e3, e3, e4, e4]
    exact ⟨h.1, h.2.1, h.2.2.1, h.2.2.2.1, h.2.2.2.2.1, ch_same e2 e5 5 i h.2.2.2.2.2⟩
  · by_cases x : j = k
    · subst x
      refine ⟨h6, h9, fun z => ?_⟩
      rw [e5, e4]
      exact hd z
    · have h := a6 j hj
      rw [e 6 j (Or.inr x), e 9 j (Or.inr x), e5, e4, e 7 j (Or.inr x), e 8 j (Or.inr x)]
      exact h
theorem opF_keep {f : Nat → Nat → Nat} (h : CInv f) {k w p : Nat} (hw : w < 8) (h5 : f 5 w = 1) (hp : p ≤ f 4 w) : CInv (up2 (up2 (up2 (up2 f 6 k w) 7 k p) 8 k 4294967295) 9 k 1) := by
  have u6 : up2 (up2 (up2 (up2 f 6 k w) 7 k p) 8 k 4294967295) 9 k 1 6 k = w := by simp [up2]
  have u7 : up2 (up2 (up2 (up2 f 6 k w) 7 k p) 8 k 4294967295) 9 k 1 7 k = p := by simp [up2]
  have u8 : up2 (up2 (up2 (up2 f 6 k w) 7 k p) 8 k 4294967295) 9 k 1 8 k = 4294967295 := by simp [up2]
  have u9 : up2 (up2 (up2 (up2 f 6 k w) 7 k p) 8 k 4294967295) 9 k 1 9 k = 1 := by simp [up2]
  refine cur_keep (k := k) h (fun fl i z => ?_) (by omega) (by omega) (fun _ => ?_)
  · simp only [up2]
    rw [if_neg (by omega), if_neg (by omega), if_neg (by omega), if_neg (by omega)]
  · rw [u6, u7, u8]
    exact ⟨h5, hp, Or.inl rfl⟩
theorem shF_keep {f : Nat → Nat → Nat} (h : CInv f) {k : Nat} (hk : k < 3) : CInv (up2 f 9 k 0) := by
  have hc := h.cu hk
  refine cur_keep (k := k) h (fun fl i z => (show (if fl = 9 ∧ i = k then 0 else f fl i) = f fl i from if_neg (by omega))) ?_ ?_ (fun z => ?_)
  · show (if 6 = 9 ∧ k = k then 0 else f 6 k) < 8
    rw [if_neg (by omega)]
    exact hc.1
  · rw [up2_eq]
    omega
  · rw [up2_eq] at z
    omega
/-- a cursor steps from p to q and remembers l -/
theorem stepF_keep {f F : Nat → Nat → Nat} (h : CInv f) {k q l : Nat} (hk : k < 3) (h9 : f 9 k = 1) (hq : q ≤ f 4 (f 6 k)) (hl : l < f 4 (f 6 k)) (e : ∀ fl i, F fl i = if fl = 7 ∧ i = k then q else if fl = 8 ∧ i = k then l else f fl i) : CInv F := by
  have hc := h.cu hk
  have c3 := hc.2.2 h9
  have u6 : F 6 k = f 6 k := by
    rw [e, if_neg (by omega), if_neg (by omega)]
  have u7 : F 7 k = q := by
    rw [e, if_pos ⟨rfl, rfl⟩]
  have u8 : F 8 k = l := by
    rw [e, if_neg (by omega), if_pos ⟨rfl, rfl⟩]
  have u9 : F 9 k = f 9 k := by
    rw [e, if_neg (by omega), if_neg (by omega)]
  refine cur_keep (k := k) h (fun fl i z => ?_) (by omega) (by omega) (fun _ => ?_)
  · rw [e, if_neg (by omega), if_neg (by omega)]
  · rw [u6, u7, u8]
    exact ⟨c3.1, hq, Or.inr hl⟩
theorem nxF_keep {f : Nat → Nat → Nat} (h : CInv f) {k : Nat} (hk : k < 3) (h9 : f 9 k = 1) (hx : f 7 k < f 4 (f 6 k)) : CInv (up2 (up2 f 8 k (f 7 k)) 7 k (f 7 k + 1)) :=
  stepF_keep h hk h9 (q := f 7 k + 1) (l := f 7 k) (by omega) hx (fun _ _ => rfl)
theorem pvF_keep {f : Nat → Nat → Nat} (h : CInv f) {k : Nat} (hk : k < 3) (h9 : f 9 k = 1) (hx : 0 < f 7 k) : CInv (up2 (up2 f 7 k (f 7 k - 1)) 8 k (f 7 k - 1)) := by
  have c3 := (h.cu hk).2.2 h9
  refine stepF_keep h hk h9 (q := f 7 k - 1) (l := f 7 k - 1) (by omega) (by omega) (fun fl i => ?_)
  simp only [up2]
  by_cases a : fl = 7 ∧ i = k
  · rw [if_neg (show ¬ (fl = 8 ∧ i = k) by omega), if_pos a, if_pos a]
  · rw [if_neg a, if_neg a]
