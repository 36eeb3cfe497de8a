/-! THE INVARIANT OVER OTHER CHANGES -/
theorem ch_same {f F : Nat → Nat → Nat} (h2 : ∀ i, F 2 i = f 2 i) (h5 : ∀ i, F 5 i = f 5 i) : ∀ (n i : Nat), chN f n i → chN F n i
  | 0, i, hc => hc
  | n + 1, i, hc => by
    rcases hc with hc | ⟨hi, h, hc⟩
    · exact Or.inl hc
    · refine Or.inr ⟨hi, (h5 i).trans h, ?_⟩
      rw [h2]
      exact ch_same h2 h5 n (f 2 i) hc
/-- the spare parts' lengths are free -/
theorem CInvD.scr {f F : Nat → Nat → Nat} {d : Nat} (h : CInvD f d) (e : ∀ fl i, fl ≠ 4 ∨ i < 8 → F fl i = f fl i) (h8 : F 4 8 ≤ 12 ∧ F 4 9 ≤ 12 ∧ F 4 10 ≤ 12) : CInvD F d := by
  obtain ⟨a1, a2, a3, a4, a5, a6⟩ := h
  have e0 : ∀ i, F 0 i = f 0 i := fun i => e 0 i (Or.inl (by decide))
  have e1 : ∀ i, F 1 i = f 1 i := fun i => e 1 i (Or.inl (by decide))
  have e2 : ∀ i, F 2 i = f 2 i := fun i => e 2 i (Or.inl (by decide))
  have e3 : ∀ i, F 3 i = f 3 i := fun i => e 3 i (Or.inl (by decide))
  have e4 : ∀ i, i < 8 → F 4 i = f 4 i := fun i hi => e 4 i (Or.inr hi)
  have e5 : ∀ i, F 5 i = f 5 i := fun i => e 5 i (Or.inl (by decide))
  have e6 : ∀ i, F 6 i = f 6 i := fun i => e 6 i (Or.inl (by decide))
  have e7 : ∀ i, F 7 i = f 7 i := fun i => e 7 i (Or.inl (by decide))
  have e8 : ∀ i, F 8 i = f 8 i := fun i => e 8 i (Or.inl (by decide))
  have e9 : ∀ i, F 9 i = f 9 i := fun i => e 9 i (Or.inl (by decide))
  refine ⟨fun i hi => ?_, ?_, fun i hi => ?_, fun i hi h5 => ?_, fun i h4 hi h5 => ?_, fun k hk => ?_⟩
  · rw [e0, e1, e2, e3, e4 i (by omega), e5]
    exact a1 i hi
  · rw [e0, e3, e0, e3, e0, e3]
    omega
  · rw [e5, e1, e0, e2]
    exact a3 i hi
  · have := a3 i hi
    rw [e5] at h5
    rw [e3, e1, e4 i hi, e4 _ (by omega)]
    exact a4 i hi h5
  · rw [e5] at h5
    have h := a5 i h4 hi h5
    rw [e2, e5, e1, e1, e3, e3, e4 i hi, e4 _ h.1]
    exact ⟨h.1, h.2.1, h.2.2.1, h.2.2.2.1, h.2.2.2.2.1, ch_same e2 e5 5 i h.2.2.2.2.2⟩
  · have h := a6 k hk
    rw [e6, e9, e5, e7, e8, e4 _ h.1]
    exact h
theorem CInv.toD {f : Nat → Nat → Nat} (h : CInv f) (d : Nat) : CInvD f d := by
  obtain ⟨a1, a2, a3, a4, a5, a6⟩ := h
  exact ⟨a1, a2, a3, a4, a5, fun k hk => ⟨(a6 k hk).1, (a6 k hk).2.1, fun _ h9 => (a6 k hk).2.2 h9⟩⟩
theorem CInv.scr {f F : Nat → Nat → Nat} (h : CInv f) (e : ∀ fl i, fl ≠ 4 ∨ i < 8 → F fl i = f fl i) (h8 : F 4 8 ≤ 12 ∧ F 4 9 ≤ 12 ∧ F 4 10 ≤ 12) : CInv F :=
  ((h.toD 3).scr e h8).all (fun hd => absurd hd (by decide))
/-- a row's own holder is itself alone -/
theorem hol_rowf {f : Nat → Nat → Nat} (h : CInv f) {i j : Nat} (hi : i < 4) : hol f j i ≠ 0 ↔ j = i := by
  have h2 := (h.rw hi).2.2.1
  have e : hol f j i = hlC (f 2) j 8 i := rfl
  rw [e]
  unfold hlC
  rw [if_neg (by omega)]
  by_cases x : i = j
  · rw [if_pos x]
    exact ⟨fun _ => x.symm, fun _ => by decide⟩
  · rw [if_neg x, h2]
    unfold hlC
    rw [if_pos rfl]
    exact ⟨fun z => absurd rfl z, fun z => absurd z.symm x⟩
/-- a row that the spare part gives anew -/
theorem becF_keep {f : Nat → Nat → Nat} (h : CInv f) {i c : Nat} (hi : i < 4) (hc : c ≤ 12) : CInv (settleF (up2 (up2 f 4 8 c) 4 i c) i 4294967295) := by
  have hr := h.rw hi
  have h1 := chg_keep h (w := i) (c := c) (g := f 4 i) (d := 4294967295) (by omega) hr.2.2.2.2.2 hc (Nat.le_refl _) (by rw [hr.2.1]; omega)
  have e : chgF f i c (f 4 i) 4294967295 = settleF (up2 (up2 f 4 8 c) 4 i c) i 4294967295 := by
    refine congrArg (fun z => settleF z i 4294967295) (?_ : exL (up2 f 4 8 c) i c (f 4 i) 8 = up2 (up2 f 4 8 c) 4 i c)
    funext fl k
    have e2 : hol (up2 f 4 8 c) k i = hol f k i := rfl
    unfold exL
    rw [e2]
    by_cases x : fl = 4 ∧ k < 8 ∧ hol f k i ≠ 0
    · obtain ⟨x1, x2, x3⟩ := x
      have x4 := (hol_rowf h hi).mp x3
      subst x1 x4
      rw [if_pos ⟨rfl, x2, x3⟩, up2_eq, up2_i _ _ _ _ (by omega)]
      omega
    · rw [if_neg x]
      by_cases y : fl = 4 ∧ k = i
      · exact absurd ⟨y.1, by omega, (hol_rowf h hi).mpr y.2⟩ x
      · show up2 f 4 8 c fl k = if fl = 4 ∧ k = i then c else up2 f 4 8 c fl k
        rw [if_neg y]
  rw [e] at h1
  exact h1.all (fun hd => absurd hd (by decide))
theorem settleF_4 (f : Nat → Nat → Nat) (w d i : Nat) : settleF f w d 4 i = f 4 i := by
  unfold settleF stW
  rw [if_neg (fun z => absurd z.1 (by decide))]
  unfold stU
  rw [if_neg (fun z => absurd z.1 (by decide))]
/-- a row settled, its length as it was -/
theorem settle_keep {f : Nat → Nat → Nat} (h : CInv f) {w d : Nat} (hw : w < 8) (h5 : f 5 w = 1) (c : Nat) (hc : c ≤ 12) : CInvD (settleF (up2 f 4 8 c) w d) d := by
  have hal := h.al hw
  have hr := h.rw hal.2.1
  have h1 := chg_keep h (w := w) (c := 0) (g := 0) (d := d) hw h5 (by omega) (by omega) (by omega)
  have sp := h.sp
  refine h1.scr (fun fl i hfl => ?_) ⟨?_, ?_, ?_⟩
  · show settleF (up2 f 4 8 c) w d fl i = settleF (exL (up2 f 4 8 0) w 0 0 8) w d fl i
    have ex : ∀ fl i, fl ≠ 4 ∨ i < 8 → up2 f 4 8 c fl i = exL (up2 f 4 8 0) w 0 0 8 fl i := fun fl i hfl => by
      unfold exL
      by_cases x : fl = 4 ∧ i < 8 ∧ hol (up2 f 4 8 0) i w ≠ 0
      · rw [if_pos x, x.1]
        show (if 4 = 4 ∧ i = 8 then c else f 4 i) = (if 4 = 4 ∧ i = 8 then 0 else f 4 i) + 0 - 0
        rw [if_neg (by omega), if_neg (by omega)]
        rfl
      · rw [if_neg x]
        show (if fl = 4 ∧ i = 8 then c else f fl i) = if fl = 4 ∧ i = 8 then 0 else f fl i
        rw [if_neg (by omega), if_neg (by omega)]
    show (if fl = 5 ∧ 4 ≤ i ∧ i < 8 ∧ f 1 i = f 1 w ∧ hol f i w = 0 then 0 else if fl = 9 ∧ i < 3 ∧ i ≠ d ∧ f 1 (f 6 i) = f 1 w then 0 else up2 f 4 8 c fl i) = (if fl = 5 ∧ 4 ≤ i ∧ i < 8 ∧ f 1 i = f 1 w ∧ hol f i w = 0 then 0 else if fl = 9 ∧ i < 3 ∧ i ≠ d ∧ f 1 (f 6 i) = f 1 w then 0 else exL (up2 f 4 8 0) w 0 0 8 fl i)
    rw [ex fl i hfl]
  · rw [settleF_4, up2_eq]
    exact hc
  · rw [settleF_4, up2_i _ _ _ _ (by omega)]
    omega
  · rw [settleF_4, up2_i _ _ _ _ (by omega)]
    omega
