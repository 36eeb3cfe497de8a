/-! THE INVARIANT WHEN A WINDOW GOES OR COMES -/
theorem dmF_5 (f : Nat → Nat → Nat) (g i : Nat) : dmF f g 8 5 i = if 4 ≤ i ∧ i < 8 ∧ f 5 i ≠ 0 ∧ hol f g i ≠ 0 then 0 else f 5 i := by
  show (if 5 = 5 ∧ 4 ≤ i ∧ i < 8 ∧ f 5 i ≠ 0 ∧ hol f g i ≠ 0 then 0 else if 5 = 9 ∧ i < 3 ∧ 4 ≤ f 6 i ∧ f 6 i < 8 ∧ f 5 (f 6 i) ≠ 0 ∧ hol f g (f 6 i) ≠ 0 then 0 else f 5 i) = _
  rw [if_neg (show ¬ (5 = 9 ∧ i < 3 ∧ 4 ≤ f 6 i ∧ f 6 i < 8 ∧ f 5 (f 6 i) ≠ 0 ∧ hol f g (f 6 i) ≠ 0) from fun z => absurd z.1 (by decide))]
  simp only [true_and]
theorem dmF_9 (f : Nat → Nat → Nat) (g i : Nat) : dmF f g 8 9 i = if i < 3 ∧ 4 ≤ f 6 i ∧ f 6 i < 8 ∧ f 5 (f 6 i) ≠ 0 ∧ hol f g (f 6 i) ≠ 0 then 0 else f 9 i := by
  show (if 9 = 5 ∧ 4 ≤ i ∧ i < 8 ∧ f 5 i ≠ 0 ∧ hol f g i ≠ 0 then 0 else if 9 = 9 ∧ i < 3 ∧ 4 ≤ f 6 i ∧ f 6 i < 8 ∧ f 5 (f 6 i) ≠ 0 ∧ hol f g (f 6 i) ≠ 0 then 0 else f 9 i) = _
  rw [if_neg (show ¬ (9 = 5 ∧ 4 ≤ i ∧ i < 8 ∧ f 5 i ≠ 0 ∧ hol f g i ≠ 0) from fun z => absurd z.1 (by decide))]
  simp only [true_and]
theorem dmF_o (f : Nat → Nat → Nat) (g fl i : Nat) (h5 : fl ≠ 5) (h9 : fl ≠ 9) : dmF f g 8 fl i = f fl i := by
  unfold dmF
  rw [if_neg (fun z => h5 z.1), if_neg (fun z => h9 z.1)]
/-- what stays isn't over g -/
theorem dmF_t {f : Nat → Nat → Nat} (h : CInv f) {g i : Nat} (hg : 4 ≤ g) (hi : i < 8) (h5 : dmF f g 8 5 i = 1) : f 5 i = 1 ∧ hol f g i = 0 := by
  rw [dmF_5] at h5
  split at h5
  · exact absurd h5 (by decide)
  · rename_i hn
    refine ⟨h5, ?_⟩
    by_cases h4 : i < 4
    · refine Decidable.byContradiction fun z => ?_
      have := (hol_rowf h h4).mp z
      omega
    · refine Decidable.byContradiction fun z => hn ⟨by omega, hi, by omega, z⟩
theorem dmF_s {f : Nat → Nat → Nat} {g i : Nat} (h5 : f 5 i = 1) (hh : hol f g i = 0) : dmF f g 8 5 i = 1 := by
  rw [dmF_5, if_neg (fun z => z.2.2.2 hh)]
  exact h5
/-- a cursor that stays is over what stays -/
theorem dmF_c {f : Nat → Nat → Nat} (h : CInv f) {g k : Nat} (hg : 4 ≤ g) (hk : k < 3) (h9 : dmF f g 8 9 k = 1) : f 9 k = 1 ∧ hol f g (f 6 k) = 0 := by
  have hck := h.cu hk
  rw [dmF_9] at h9
  split at h9
  · exact absurd h9 (by decide)
  · rename_i hn
    have h5 := (hck.2.2 h9).1
    refine ⟨h9, ?_⟩
    by_cases h4 : f 6 k < 4
    · refine Decidable.byContradiction fun z => ?_
      have := (hol_rowf h h4).mp z
      omega
    · refine Decidable.byContradiction fun z => hn ⟨hk, by omega, hck.1, by omega, z⟩
theorem hol_me {f : Nat → Nat → Nat} {g i : Nat} (hi : i < 8) (hh : hol f g i = 0) : i ≠ g := (hl_step (d := 7) hi hh).1
/-- all that a change does: what is over g goes, and g itself may come -/
theorem win_keep {f F : Nat → Nat → Nat} (h : CInv f) {g : Nat} (hg : 4 ≤ g) (hg8 : g < 8) (e : ∀ fl i, (fl < 6 ∧ i ≠ g) ∨ 5 < fl → F fl i = dmF f g 8 fl i) (hgg : F 5 g ≤ 1 ∧ F 1 g < 4 ∧ F 0 g = F 1 g ∧ (F 2 g < 8 ∨ F 2 g = 4294967295)) (hnew : F 5 g = 1 → f 5 (F 2 g) = 1 ∧ hol f g (F 2 g) = 0 ∧ F 2 g < 8 ∧ F 1 g = f 1 (F 2 g) ∧ f 3 (F 2 g) ≤ F 3 g ∧ F 3 g + F 4 g ≤ f 3 (F 2 g) + f 4 (F 2 g)) : CInv F := by
  have eo : ∀ fl i, fl < 5 → i ≠ g → F fl i = f fl i := fun fl i a b => (e fl i (Or.inl ⟨by omega, b⟩)).trans (dmF_o f g fl i (by omega) (by omega))
  have e5 : ∀ i, i ≠ g → F 5 i = dmF f g 8 5 i := fun i b => e 5 i (Or.inl ⟨by omega, b⟩)
  have ht : ∀ i, i < 8 → i ≠ g → F 5 i = 1 → f 5 i = 1 ∧ hol f g i = 0 := fun i hi hn h5 => dmF_t h hg hi ((e5 i hn).symm.trans h5)
  have hs : ∀ i, i < 8 → f 5 i = 1 → hol f g i = 0 → F 5 i = 1 := fun i hi h5 hh => (e5 i (hol_me hi hh)).trans (dmF_s h5 hh)
  have hch : ∀ n i, i < 8 → chN f n i → f 5 i = 1 → hol f g i = 0 → chN F n i := fun n => by
    induction n with
    | zero => exact fun i _ hc _ _ => hc
    | succ n ih =>
      intro i hi hc h5 hh
      by_cases h4 : i < 4
      · exact Or.inl h4
      · rcases hc with hc | ⟨_, _, hc⟩
        · exact Or.inl hc
        · refine Or.inr ⟨hi, hs i hi h5 hh, ?_⟩
          have hwi := h.wi (by omega) hi h5
          rw [eo 2 i (by omega) (hol_me hi hh)]
          exact ih (f 2 i) hwi.1 hc hwi.2.1 (h.hd (by omega) hi h5 hh).2
  have hrow : ∀ i, i < 4 → hol f g i = 0 := fun i hi => Decidable.byContradiction fun z => by
    have := (hol_rowf h hi).mp z
    omega
  refine ⟨fun i hi => ?_, ?_, fun i hi => ?_, fun i hi h5 => ?_, fun i h4 hi h5 => ?_, fun k hk => ?_⟩
  · have hr := h.rw hi
    rw [eo 0 i (by omega) (by omega), eo 1 i (by omega) (by omega), eo 2 i (by omega) (by omega), eo 3 i (by omega) (by omega), eo 4 i (by omega) (by omega)]
    exact ⟨hr.1, hr.2.1, hr.2.2.1, hr.2.2.2.1, hr.2.2.2.2.1, hs i (by omega) hr.2.2.2.2.2 (hrow i hi)⟩
  · rw [eo 0 8 (by omega) (by omega), eo 3 8 (by omega) (by omega), eo 4 8 (by omega) (by omega), eo 0 9 (by omega) (by omega), eo 3 9 (by omega) (by omega), eo 4 9 (by omega) (by omega), eo 0 10 (by omega) (by omega), eo 3 10 (by omega) (by omega), eo 4 10 (by omega) (by omega)]
    exact h.sp
  · by_cases x : i = g
    · subst x
      exact hgg
    · have ha := h.al hi
      rw [eo 0 i (by omega) x, eo 1 i (by omega) x, eo 2 i (by omega) x, e5 i x, dmF_5]
      refine ⟨?_, ha.2⟩
      split
      · exact Nat.zero_le 1
      · exact ha.1
  · have r4 : ∀ j, j < 4 → F 4 j = f 4 j := fun j hj => eo 4 j (by omega) (by omega)
    by_cases x : i = g
    · subst x
      obtain ⟨b1, b2, b3, b4, b5, b6⟩ := hnew h5
      have := h.th b3 b1
      rw [r4 _ hgg.2.1, b4]
      omega
    · obtain ⟨b1, b2⟩ := ht i hi x h5
      have ha := h.al hi
      have := h.th hi b1
      rw [eo 3 i (by omega) x, eo 4 i (by omega) x, eo 1 i (by omega) x, r4 _ ha.2.1]
      exact this.1
  · by_cases x : i = g
    · subst x
      obtain ⟨b1, b2, b3, b4, b5, b6⟩ := hnew h5
      have hn := hol_me b3 b2
      refine ⟨b3, hs _ b3 b1 b2, ?_, ?_, ?_, ?_⟩
      · rw [eo 1 _ (by omega) hn]
        exact b4
      · rw [eo 3 _ (by omega) hn]
        exact b5
      · rw [eo 3 _ (by omega) hn, eo 4 _ (by omega) hn]
        exact b6
      · exact Or.inr ⟨hi, h5, hch 4 _ b3 (ch_four h hg hg8 b3 b1 b2) b1 b2⟩
    · obtain ⟨b1, b2⟩ := ht i hi x h5
      have hwi := h.wi h4 hi b1
      have hd := h.hd h4 hi b1 b2
      have hn := hol_me hwi.1 hd.2
      have q2 := eo 2 i (by omega) x
      rw [q2, eo 1 i (by omega) x, eo 1 _ (by omega) hn, eo 3 i (by omega) x, eo 3 _ (by omega) hn, eo 4 i (by omega) x, eo 4 _ (by omega) hn]
      exact ⟨hwi.1, hs _ hwi.1 hwi.2.1 hd.2, hwi.2.2.1, hwi.2.2.2.1, hwi.2.2.2.2.1, hch 5 i hi hwi.2.2.2.2.2 b1 b2⟩
  · have hck := h.cu hk
    rw [e 6 k (Or.inr (by omega)), e 7 k (Or.inr (by omega)), e 8 k (Or.inr (by omega)), e 9 k (Or.inr (by omega)), dmF_o f g 6 k (by omega) (by omega), dmF_o f g 7 k (by omega) (by omega), dmF_o f g 8 k (by omega) (by omega)]
    refine ⟨hck.1, ?_, fun h9 => ?_⟩
    · rw [dmF_9]
      split
      · exact Nat.zero_le 1
      · exact hck.2.1
    · obtain ⟨c1, c2⟩ := dmF_c h hg hk h9
      have c3 := hck.2.2 c1
      rw [eo 4 _ (by omega) (hol_me hck.1 c2)]
      exact ⟨hs _ hck.1 c3.1 c2, c3.2⟩
theorem dmF_keep {f : Nat → Nat → Nat} (h : CInv f) {g : Nat} (hg : 4 ≤ g) (hg8 : g < 8) : CInv (dmF f g 8) := by
  have ha := h.al hg8
  have h0 : dmF f g 8 5 g = 0 := by
    rw [dmF_5]
    split
    · rfl
    · rename_i hn
      have := hol_self (f := f) hg8
      have := ha.1
      refine Decidable.byContradiction fun z => hn ⟨hg, hg8, z, by omega⟩
  refine win_keep h hg hg8 (fun _ _ _ => rfl) ?_ (fun z => ?_)
  · rw [h0, dmF_o _ _ _ _ (by decide) (by decide), dmF_o _ _ _ _ (by decide) (by decide), dmF_o _ _ _ _ (by decide) (by decide)]
    exact ⟨by omega, ha.2⟩
  · rw [h0] at z
    exact absurd z (by decide)
theorem wnF_keep {f : Nat → Nat → Nat} (h : CInv f) {g w p q : Nat} (hg : 4 ≤ g) (hg8 : g < 8) (hw : w < 8) (h5 : f 5 w = 1) (hh : hol f g w = 0) (hp : p ≤ q) (hq : q ≤ f 4 w) : CInv (up2 (up2 (up2 (up2 (up2 (up2 (dmF f g 8) 0 g (f 0 w)) 1 g (f 1 w)) 2 g w) 3 g (f 3 w + p)) 4 g (q - p)) 5 g 1) := by
  have ha := h.al hw
  have u0 : up2 (up2 (up2 (up2 (up2 (up2 (dmF f g 8) 0 g (f 0 w)) 1 g (f 1 w)) 2 g w) 3 g (f 3 w + p)) 4 g (q - p)) 5 g 1 0 g = f 0 w := by simp [up2]
  have u1 : up2 (up2 (up2 (up2 (up2 (up2 (dmF f g 8) 0 g (f 0 w)) 1 g (f 1 w)) 2 g w) 3 g (f 3 w + p)) 4 g (q - p)) 5 g 1 1 g = f 1 w := by simp [up2]
  have u2 : up2 (up2 (up2 (up2 (up2 (up2 (dmF f g 8) 0 g (f 0 w)) 1 g (f 1 w)) 2 g w) 3 g (f 3 w + p)) 4 g (q - p)) 5 g 1 2 g = w := by simp [up2]
  have u3 : up2 (up2 (up2 (up2 (up2 (up2 (dmF f g 8) 0 g (f 0 w)) 1 g (f 1 w)) 2 g w) 3 g (f 3 w + p)) 4 g (q - p)) 5 g 1 3 g = f 3 w + p := by simp [up2]
  have u4 : up2 (up2 (up2 (up2 (up2 (up2 (dmF f g 8) 0 g (f 0 w)) 1 g (f 1 w)) 2 g w) 3 g (f 3 w + p)) 4 g (q - p)) 5 g 1 4 g = q - p := by simp [up2]
  have u5 : up2 (up2 (up2 (up2 (up2 (up2 (dmF f g 8) 0 g (f 0 w)) 1 g (f 1 w)) 2 g w) 3 g (f 3 w + p)) 4 g (q - p)) 5 g 1 5 g = 1 := by simp [up2]
  refine win_keep h hg hg8 (fun fl i z => ?_) ?_ (fun _ => ?_)
  · simp only [up2]
    rw [if_neg (by omega), if_neg (by omega), if_neg (by omega), if_neg (by omega), if_neg (by omega), if_neg (by omega)]
  · rw [u5, u1, u0, u2]
    exact ⟨by omega, ha.2.1, ha.2.2.1, Or.inl hw⟩
  · rw [u2, u1, u3, u4]
    exact ⟨h5, hh, hw, rfl, by omega, by omega⟩
