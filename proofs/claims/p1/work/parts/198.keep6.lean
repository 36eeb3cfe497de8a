/-! THE INVARIANT, CALL BY CALL -/
theorem spF_keep {f : Nat → Nat → Nat} (h : CInv f) {c : Nat} (hc : c ≤ 12) : CInv (up2 f 4 8 c) := by
  have sp := h.sp
  refine h.scr (fun fl i z => ?_) ⟨?_, ?_, ?_⟩
  · show (if fl = 4 ∧ i = 8 then c else f fl i) = f fl i
    rw [if_neg (by omega)]
  · rw [up2_eq]
    exact hc
  · rw [up2_i _ _ _ _ (by omega)]
    omega
  · rw [up2_i _ _ _ _ (by omega)]
    omega
theorem chF_keep {f : Nat → Nat → Nat} (h : CInv f) {w c c2 g : Nat} (hw : w < 8) (h5 : f 5 w = 1) (hc : c ≤ 12) (hg : g ≤ f 4 w) (hfit : f 4 (f 1 w) + c - g ≤ 12) (e : c2 = c) : CInv (settleF (exL (up2 f 4 8 c) w c2 g 8) w 4294967295) := by
  subst e
  exact (chg_keep h hw h5 hc hg hfit).all (fun hd => absurd hd (by decide))
theorem seF_keep {f : Nat → Nat → Nat} (h : CInv f) {w c : Nat} (hw : w < 8) (h5 : f 5 w = 1) (hc : c ≤ 12) : CInv (settleF (up2 f 4 8 c) w 4294967295) :=
  (settle_keep h hw h5 c hc).all (fun hd => absurd hd (by decide))
theorem soF_keep {f : Nat → Nat → Nat} (h : CInv f) {w : Nat} (hw : w < 8) (h5 : f 5 w = 1) : CInv (settleF f w 4294967295) := by
  have sp := h.sp
  have e : up2 f 4 8 (f 4 8) = f := by
    funext fl i
    show (if fl = 4 ∧ i = 8 then f 4 8 else f fl i) = f fl i
    split
    · rename_i z
      rw [z.1, z.2]
    · rfl
  have := seF_keep h hw h5 (c := f 4 8) (by omega)
  rw [e] at this
  exact this
/-- the cursor that the change spares takes its new place -/
theorem cdF_keep {f F : Nat → Nat → Nat} {k : Nat} (h : CInvD f k) (e : ∀ fl i, (fl ≠ 7 ∧ fl ≠ 8) ∨ i ≠ k → F fl i = f fl i) (hd : f 9 k = 1 → f 5 (f 6 k) = 1 ∧ F 7 k ≤ f 4 (f 6 k) ∧ (F 8 k = 4294967295 ∨ F 8 k < f 4 (f 6 k))) : CInv F := by
  obtain ⟨a1, a2, a3, a4, a5, a6⟩ := h
  have e0 : ∀ i, F 0 i = f 0 i := fun i => e 0 i (Or.inl (by decide))
  have e1 : ∀ i, F 1 i = f 1 i := fun i => e 1 i (Or.inl (by decide))
  have e2 : ∀ i, F 2 i = f 2 i := fun i => e 2 i (Or.inl (by decide))
  have e3 : ∀ i, F 3 i = f 3 i := fun i => e 3 i (Or.inl (by decide))
  have e4 : ∀ i, F 4 i = f 4 i := fun i => e 4 i (Or.inl (by decide))
  have e5 : ∀ i, F 5 i = f 5 i := fun i => e 5 i (Or.inl (by decide))
  have e6 : ∀ i, F 6 i = f 6 i := fun i => e 6 i (Or.inl (by decide))
  have e9 : ∀ i, F 9 i = f 9 i := fun i => e 9 i (Or.inl (by decide))
  refine ⟨fun i hi => ?_, ?_, fun i hi => ?_, fun i hi h5 => ?_, fun i h4 hi h5 => ?_, fun j hj => ?_⟩
  · rw [e0, e1, e2, e3, e4, e5]
    exact a1 i hi
  · rw [e0, e3, e0, e3, e0, e3, e4, e4, e4]
    exact a2
  · rw [e5, e1, e0, e2]
    exact a3 i hi
  · rw [e5] at h5
    rw [e3, e1, e4, e4]
    exact a4 i hi h5
  · rw [e5] at h5
    have h := a5 i h4 hi h5
    rw [e2, e5, e1, e1, e3, e3, e4, e4]
    exact ⟨h.1, h.2.1, h.2.2.1, h.2.2.2.1, h.2.2.2.2.1, ch_same e2 e5 5 i h.2.2.2.2.2⟩
  · have h := a6 j hj
    rw [e6, e9, e5, e4]
    refine ⟨h.1, h.2.1, fun h9 => ?_⟩
    by_cases x : j = k
    · subst x
      exact hd h9
    · rw [e 7 j (Or.inr x), e 8 j (Or.inr x)]
      exact h.2.2 x h9
/-- a cursor's own put and take -/
theorem crF_keep {f : Nat → Nat → Nat} (h : CInv f) {k c g q l : Nat} (hk : k < 3) (h9 : f 9 k = 1) (hc : c ≤ 12) (hg : g ≤ f 4 (f 6 k)) (hfit : f 4 (f 1 (f 6 k)) + c - g ≤ 12) (hq : q ≤ f 4 (f 6 k) + c - g) (hl : l = 4294967295 ∨ l < f 4 (f 6 k) + c - g) : CInv (up2 (up2 (settleF (exL (up2 f 4 8 c) (f 6 k) c g 8) (f 6 k) k) 7 k q) 8 k l) := by
  have hck := h.cu hk
  have c3 := hck.2.2 h9
  have hs := hol_self (f := f) hck.1
  have e4 : chgF f (f 6 k) c g k 4 (f 6 k) = f 4 (f 6 k) + c - g := by
    rw [chg_4, if_pos ⟨hck.1, by omega⟩]
  have e5 : chgF f (f 6 k) c g k 5 (f 6 k) = 1 := by
    rw [chg_5, if_neg (by omega)]
    exact c3.1
  refine cdF_keep (k := k) (chg_keep h hck.1 c3.1 hc hg hfit) (fun fl i z => ?_) (fun _ => ?_)
  · show (if fl = 8 ∧ i = k then l else if fl = 7 ∧ i = k then q else chgF f (f 6 k) c g k fl i) = chgF f (f 6 k) c g k fl i
    rw [if_neg (by omega), if_neg (by omega)]
  · have q7 : up2 (up2 (settleF (exL (up2 f 4 8 c) (f 6 k) c g 8) (f 6 k) k) 7 k q) 8 k l 7 k = q := by simp [up2]
    have q8 : up2 (up2 (settleF (exL (up2 f 4 8 c) (f 6 k) c g 8) (f 6 k) k) 7 k q) 8 k l 8 k = l := by simp [up2]
    rw [q7, q8]
    show chgF f (f 6 k) c g k 5 (f 6 k) = 1 ∧ q ≤ chgF f (f 6 k) c g k 4 (f 6 k) ∧ (l = 4294967295 ∨ l < chgF f (f 6 k) c g k 4 (f 6 k))
    rw [e4, e5]
    exact ⟨rfl, hq, hl⟩
theorem tbF_keep {f : Nat → Nat → Nat} (h : CInv f) {k g : Nat} (hk : k < 3) (h9 : f 9 k = 1) (hg : g = 1) (h8 : f 8 k ≠ 4294967295) (hx : f 7 k ≤ f 8 k) : CInv (up2 (settleF (exL (up2 f 4 8 0) (f 6 k) 0 g 8) (f 6 k) k) 8 k 4294967295) := by
  have hck := h.cu hk
  have c3 := hck.2.2 h9
  have ht := h.th hck.1 c3.1
  have h4 : f 4 (f 6 k) ≤ f 4 (f 1 (f 6 k)) := by omega
  have hh := crF_keep h (k := k) (c := 0) (g := g) (q := f 7 k) (l := 4294967295) hk h9 (by omega) (by omega) (by omega) (by omega) (Or.inl rfl)
  have e : up2 (settleF (exL (up2 f 4 8 0) (f 6 k) 0 g 8) (f 6 k) k) 7 k (f 7 k) = settleF (exL (up2 f 4 8 0) (f 6 k) 0 g 8) (f 6 k) k := by
    funext fl i
    show (if fl = 7 ∧ i = k then f 7 k else settleF (exL (up2 f 4 8 0) (f 6 k) 0 g 8) (f 6 k) k fl i) = _
    split
    · rename_i z
      rw [z.1, z.2]
      unfold settleF stW
      rw [if_neg (fun z => absurd z.1 (by decide))]
      unfold stU
      rw [if_neg (fun z => absurd z.1 (by decide))]
      unfold exL
      rw [if_neg (fun z => absurd z.1 (by decide))]
      rfl
    · rfl
  rw [e] at hh
  exact hh
