/-! ===== 196.keep4 -/
section PT_196
/-! THE INVARIANT OVER WINDOWS -/
theorem hl_step {g : Nat → Nat} {j d w : Nat} (hw : w < 8) (h : hlC g j (d + 1) w = 0) : w ≠ j ∧ hlC g j d (g w) = 0 := by
  unfold hlC at h
  rw [if_neg (by omega)] at h
  by_cases e : w = j
  · rw [if_pos e] at h
    exact absurd h (by decide)
  · rw [if_neg e] at h
    exact ⟨e, h⟩
theorem hl_none (g : Nat → Nat) (j d : Nat) : hlC g j d 4294967295 = 0 := by
  cases d with
  | zero => rfl
  | succ d =>
    unfold hlC
    rw [if_pos rfl]
/-- more steps find no more -/
theorem hl_more {f : Nat → Nat → Nat} (h : CInv f) {j : Nat} : ∀ (n d e w : Nat), w < 8 → chN f n w → n < d → n < e → hlC (f 2) j d w = hlC (f 2) j e w
  | 0, d, e, w, hw, hc, hd, he => absurd hc id
  | n + 1, 0, e, w, hw, hc, hd, he => absurd hd (by omega)
  | n + 1, d + 1, 0, w, hw, hc, hd, he => absurd he (by omega)
  | n + 1, d + 1, e + 1, w, hw, hc, hd, he => by
    unfold hlC
    have hne : ¬ w = 4294967295 := by omega
    simp only [if_neg hne]
    by_cases x : w = j
    · simp only [if_pos x]
    · simp only [if_neg x]
      by_cases h4 : w < 4
      · rw [(h.rw h4).2.2.1, hl_none, hl_none]
      · rcases hc with hc | ⟨_, h5, hc⟩
        · exact absurd hc h4
        · exact hl_more h n d e (f 2 w) (h.wi (by omega) hw h5).1 hc (by omega) (by omega)
/-- nor is it met from the ground on -/
theorem CInv.hd {f : Nat → Nat → Nat} (h : CInv f) {j w : Nat} (h4 : 4 ≤ w) (hw : w < 8) (h5 : f 5 w = 1) (hh : hol f j w = 0) : w ≠ j ∧ hol f j (f 2 w) = 0 := by
  obtain ⟨a, b⟩ := hl_step (d := 7) hw hh
  have hwi := h.wi h4 hw h5
  refine ⟨a, ?_⟩
  exact (hl_more h 5 8 7 (f 2 w) hwi.1 (h.ch hwi.1 hwi.2.1) (by omega) (by omega)).trans b
/-- without j among them at most three windows follow each other -/
theorem ch_four {f : Nat → Nat → Nat} (h : CInv f) {j w : Nat} (hj : 4 ≤ j) (hj8 : j < 8) (hw : w < 8) (h5 : f 5 w = 1) (hh : hol f j w = 0) : chN f 4 w := by
  have hc := h.ch hw h5
  rcases hc with hc | ⟨_, _, hc⟩
  · exact Or.inl hc
  · by_cases x0 : w < 4
    · exact Or.inl x0
    · refine Or.inr ⟨hw, h5, ?_⟩
      have w0 := h.wi (by omega) hw h5
      obtain ⟨n0, hh1⟩ := h.hd (by omega) hw h5 hh
      have g0 : ∀ z, w = z → f 2 w = f 2 z := fun z e => congrArg (f 2) e
      generalize e1 : f 2 w = w1 at *
      rcases hc with hc | ⟨_, _, hc⟩
      · exact Or.inl hc
      · by_cases x1 : w1 < 4
        · exact Or.inl x1
        · have h51 := w0.2.1
          refine Or.inr ⟨w0.1, h51, ?_⟩
          have w1' := h.wi (by omega) w0.1 h51
          obtain ⟨n1, hh2⟩ := h.hd (by omega) w0.1 h51 hh1
          have g1 : ∀ z, w1 = z → f 2 w1 = f 2 z := fun z e => congrArg (f 2) e
          generalize e2 : f 2 w1 = w2 at *
          rcases hc with hc | ⟨_, _, hc⟩
          · exact Or.inl hc
          · by_cases x2 : w2 < 4
            · exact Or.inl x2
            · have h52 := w1'.2.1
              refine Or.inr ⟨w1'.1, h52, ?_⟩
              have w2' := h.wi (by omega) w1'.1 h52
              obtain ⟨n2, hh3⟩ := h.hd (by omega) w1'.1 h52 hh2
              have g2 : ∀ z, w2 = z → f 2 w2 = f 2 z := fun z e => congrArg (f 2) e
              generalize e3 : f 2 w2 = w3 at *
              rcases hc with hc | ⟨_, _, hc⟩
              · exact Or.inl hc
              · by_cases x3 : w3 < 4
                · exact Or.inl x3
                · have h53 := w2'.2.1
                  obtain ⟨n3, hh4⟩ := h.hd (by omega) w2'.1 h53 hh3
                  have b3 := w2'.1
                  have b2 := w1'.1
                  have b1 := w0.1
                  have hc4 : f 2 w3 < 4 := by
                    rcases hc with hc | ⟨_, _, hc⟩
                    · exact hc
                    · exact absurd hc id
                  have c01 : w = w1 → w1 = w2 := fun e => by rw [← e1, ← e2, e]
                  have c02 : w = w2 → w1 = w3 := fun e => by rw [← e1, ← e3, e]
                  have c03 : w = w3 → w1 = f 2 w3 := fun e => by rw [← e1, e]
                  have c12 : w1 = w2 → w2 = w3 := fun e => by rw [← e2, ← e3, e]
                  have c13 : w1 = w3 → w2 = f 2 w3 := fun e => by rw [← e2, e]
                  have c23 : w2 = w3 → w3 = f 2 w3 := fun e => e3.symm.trans (congrArg (f 2) e)
                  exfalso
                  by_cases y0 : w = w1
                  · have := c12 (c01 y0)
                    have := c23 this
                    omega
                  · by_cases y1 : w = w2
                    · have := c13 (c02 y1)
                      omega
                    · by_cases y2 : w = w3
                      · have := c03 y2
                        omega
                      · by_cases y3 : w1 = w2
                        · have := c23 (c12 y3)
                          omega
                        · by_cases y4 : w1 = w3
                          · have := c13 y4
                            omega
                          · by_cases y5 : w2 = w3
                            · have := c23 y5
                              omega
                            · omega
end PT_196
/-! ===== 197.keep5 -/
section PT_197
/-! THE INVARIANT WHEN A WINDOW GOES OR COMES -/
theorem dmF_5 (f : Nat → Nat → Nat) (g i : Nat) : dmF f g 8 5 i = if 4 ≤ i ∧ i < 8 ∧ f 5 i ≠ 0 ∧ hol f g i ≠ 0 then 0 else f 5 i := by
  show (if 5 = 5 ∧ 4 ≤ i ∧ i < 8 ∧ f 5 i ≠ 0 ∧ hol f g i ≠ 0 then 0 else if 5 = 9 ∧ i < 3 ∧ 4 ≤ f 6 i ∧ f 6 i < 8 ∧ f 5 (f 6 i) ≠ 0 ∧ hol f g (f 6 i) ≠ 0 then 0 else f 5 i) = _
  rw [if_neg (show ¬ (5 = 9 ∧ i < 3 ∧ 4 ≤ f 6 i ∧ f 6 i < 8 ∧ f 5 (f 6 i) ≠ 0 ∧ hol f g (f 6 i) ≠ 0) from fun z => absurd z.1 (by decide))]
  simp only [true_and]
theorem dmF_9 (f : Nat → Nat → Nat) (g i : Nat) : dmF f g 8 9 i = if i < 3 ∧ 4 ≤ f 6 i ∧ f 6 i < 8 ∧ f 5 (f 6 i) ≠ 0 ∧ hol f g (f 6 i) ≠ 0 then 0 else f 9 i := by
  show (if 9 = 5 ∧ 4 ≤ i ∧ i < 8 ∧ f 5 i ≠ 0 ∧ hol f g i ≠ 0 then 0 else if 9 = 9 ∧ i < 3 ∧ 4 ≤ f 6 i ∧ f 6 i < 8 ∧ f 5 (f 6 i) ≠ 0 ∧ hol f g (f 6 i) ≠ 0 then 0 else f 9 i) = _
  rw [if_neg (show ¬ (9 = 5 ∧ 4 ≤ i ∧ i < 8 ∧ f 5 i ≠ 0 ∧ hol f g i ≠ 0) from fun z => absurd z.1 (by decide))]
  simp only [true_and]
theorem dmF_o (f : Nat → Nat → Nat) (g fl i : Nat) (h5 : fl ≠ 5) (h9 : fl ≠ 9) : dmF f g 8 fl i = f fl i := by
  unfold dmF
  rw [if_neg (fun z => h5 z.1), if_neg (fun z => h9 z.1)]
/-- what stays isn't over g -/
theorem dmF_t {f : Nat → Nat → Nat} (h : CInv f) {g i : Nat} (hg : 4 ≤ g) (hi : i < 8) (h5 : dmF f g 8 5 i = 1) : f 5 i = 1 ∧ hol f g i = 0 := by
  rw [dmF_5] at h5
  split at h5
  · exact absurd h5 (by decide)
  · rename_i hn
    refine ⟨h5, ?_⟩
    by_cases h4 : i < 4
    · refine Decidable.byContradiction fun z => ?_
      have := (hol_rowf h h4).mp z
      omega
    · refine Decidable.byContradiction fun z => hn ⟨by omega, hi, by omega, z⟩
theorem dmF_s {f : Nat → Nat → Nat} {g i : Nat} (h5 : f 5 i = 1) (hh : hol f g i = 0) : dmF f g 8 5 i = 1 := by
  rw [dmF_5, if_neg (fun z => z.2.2.2 hh)]
  exact h5
/-- a cursor that stays is over what stays -/
theorem dmF_c {f : Nat → Nat → Nat} (h : CInv f) {g k : Nat} (hg : 4 ≤ g) (hk : k < 3) (h9 : dmF f g 8 9 k = 1) : f 9 k = 1 ∧ hol f g (f 6 k) = 0 := by
  have hck := h.cu hk
  rw [dmF_9] at h9
  split at h9
  · exact absurd h9 (by decide)
  · rename_i hn
    have h5 := (hck.2.2 h9).1
    refine ⟨h9, ?_⟩
    by_cases h4 : f 6 k < 4
    · refine Decidable.byContradiction fun z => ?_
      have := (hol_rowf h h4).mp z
      omega
    · refine Decidable.byContradiction fun z => hn ⟨hk, by omega, hck.1, by omega, z⟩
theorem hol_me {f : Nat → Nat → Nat} {g i : Nat} (hi : i < 8) (hh : hol f g i = 0) : i ≠ g := (hl_step (d := 7) hi hh).1
/-- all that a change does: what is over g goes, and g itself may come -/
theorem win_keep {f F : Nat → Nat → Nat} (h : CInv f) {g : Nat} (hg : 4 ≤ g) (hg8 : g < 8) (e : ∀ fl i, (fl < 6 ∧ i ≠ g) ∨ 5 < fl → F fl i = dmF f g 8 fl i) (hgg : F 5 g ≤ 1 ∧ F 1 g < 4 ∧ F 0 g = F 1 g ∧ (F 2 g < 8 ∨ F 2 g = 4294967295)) (hnew : F 5 g = 1 → f 5 (F 2 g) = 1 ∧ hol f g (F 2 g) = 0 ∧ F 2 g < 8 ∧ F 1 g = f 1 (F 2 g) ∧ f 3 (F 2 g) ≤ F 3 g ∧ F 3 g + F 4 g ≤ f 3 (F 2 g) + f 4 (F 2 g)) : CInv F := by
  have eo : ∀ fl i, fl < 5 → i ≠ g → F fl i = f fl i := fun fl i a b => (e fl i (Or.inl ⟨by omega, b⟩)).trans (dmF_o f g fl i (by omega) (by omega))
  have e5 : ∀ i, i ≠ g → F 5 i = dmF f g 8 5 i := fun i b => e 5 i (Or.inl ⟨by omega, b⟩)
  have ht : ∀ i, i < 8 → i ≠ g → F 5 i = 1 → f 5 i = 1 ∧ hol f g i = 0 := fun i hi hn h5 => dmF_t h hg hi ((e5 i hn).symm.trans h5)
  have hs : ∀ i, i < 8 → f 5 i = 1 → hol f g i = 0 → F 5 i = 1 := fun i hi h5 hh => (e5 i (hol_me hi hh)).trans (dmF_s h5 hh)
  have hch : ∀ n i, i < 8 → chN f n i → f 5 i = 1 → hol f g i = 0 → chN F n i := fun n => by
    induction n with
    | zero => exact fun i _ hc _ _ => hc
    | succ n ih =>
      intro i hi hc h5 hh
      by_cases h4 : i < 4
      · exact Or.inl h4
      · rcases hc with hc | ⟨_, _, hc⟩
        · exact Or.inl hc
        · refine Or.inr ⟨hi, hs i hi h5 hh, ?_⟩
          have hwi := h.wi (by omega) hi h5
          rw [eo 2 i (by omega) (hol_me hi hh)]
          exact ih (f 2 i) hwi.1 hc hwi.2.1 (h.hd (by omega) hi h5 hh).2
  have hrow : ∀ i, i < 4 → hol f g i = 0 := fun i hi => Decidable.byContradiction fun z => by
    have := (hol_rowf h hi).mp z
    omega
  refine ⟨fun i hi => ?_, ?_, fun i hi => ?_, fun i hi h5 => ?_, fun i h4 hi h5 => ?_, fun k hk => ?_⟩
  · have hr := h.rw hi
    rw [eo 0 i (by omega) (by omega), eo 1 i (by omega) (by omega), eo 2 i (by omega) (by omega), eo 3 i (by omega) (by omega), eo 4 i (by omega) (by omega)]
    exact ⟨hr.1, hr.2.1, hr.2.2.1, hr.2.2.2.1, hr.2.2.2.2.1, hs i (by omega) hr.2.2.2.2.2 (hrow i hi)⟩
  · rw [eo 0 8 (by omega) (by omega), eo 3 8 (by omega) (by omega), eo 4 8 (by omega) (by omega), eo 0 9 (by omega) (by omega), eo 3 9 (by omega) (by omega), eo 4 9 (by omega) (by omega), eo 0 10 (by omega) (by omega), eo 3 10 (by omega) (by omega), eo 4 10 (by omega) (by omega)]
    exact h.sp
  · by_cases x : i = g
    · subst x
      exact hgg
    · have ha := h.al hi
      rw [eo 0 i (by omega) x, eo 1 i (by omega) x, eo 2 i (by omega) x, e5 i x, dmF_5]
      refine ⟨?_, ha.2⟩
      split
      · exact Nat.zero_le 1
      · exact ha.1
  · have r4 : ∀ j, j < 4 → F 4 j = f 4 j := fun j hj => eo 4 j (by omega) (by omega)
    by_cases x : i = g
    · subst x
      obtain ⟨b1, b2, b3, b4, b5, b6⟩ := hnew h5
      have := h.th b3 b1
      rw [r4 _ hgg.2.1, b4]
      omega
    · obtain ⟨b1, b2⟩ := ht i hi x h5
      have ha := h.al hi
      have := h.th hi b1
      rw [eo 3 i (by omega) x, eo 4 i (by omega) x, eo 1 i (by omega) x, r4 _ ha.2.1]
      exact this.1
  · by_cases x : i = g
    · subst x
      obtain ⟨b1, b2, b3, b4, b5, b6⟩ := hnew h5
      have hn := hol_me b3 b2
      refine ⟨b3, hs _ b3 b1 b2, ?_, ?_, ?_, ?_⟩
      · rw [eo 1 _ (by omega) hn]
        exact b4
      · rw [eo 3 _ (by omega) hn]
        exact b5
      · rw [eo 3 _ (by omega) hn, eo 4 _ (by omega) hn]
        exact b6
      · exact Or.inr ⟨hi, h5, hch 4 _ b3 (ch_four h hg hg8 b3 b1 b2) b1 b2⟩
    · obtain ⟨b1, b2⟩ := ht i hi x h5
      have hwi := h.wi h4 hi b1
      have hd := h.hd h4 hi b1 b2
      have hn := hol_me hwi.1 hd.2
      have q2 := eo 2 i (by omega) x
      rw [q2, eo 1 i (by omega) x, eo 1 _ (by omega) hn, eo 3 i (by omega) x, eo 3 _ (by omega) hn, eo 4 i (by omega) x, eo 4 _ (by omega) hn]
      exact ⟨hwi.1, hs _ hwi.1 hwi.2.1 hd.2, hwi.2.2.1, hwi.2.2.2.1, hwi.2.2.2.2.1, hch 5 i hi hwi.2.2.2.2.2 b1 b2⟩
  · have hck := h.cu hk
    rw [e 6 k (Or.inr (by omega)), e 7 k (Or.inr (by omega)), e 8 k (Or.inr (by omega)), e 9 k (Or.inr (by omega)), dmF_o f g 6 k (by omega) (by omega), dmF_o f g 7 k (by omega) (by omega), dmF_o f g 8 k (by omega) (by omega)]
    refine ⟨hck.1, ?_, fun h9 => ?_⟩
    · rw [dmF_9]
      split
      · exact Nat.zero_le 1
      · exact hck.2.1
    · obtain ⟨c1, c2⟩ := dmF_c h hg hk h9
      have c3 := hck.2.2 c1
      rw [eo 4 _ (by omega) (hol_me hck.1 c2)]
      exact ⟨hs _ hck.1 c3.1 c2, c3.2⟩
theorem dmF_keep {f : Nat → Nat → Nat} (h : CInv f) {g : Nat} (hg : 4 ≤ g) (hg8 : g < 8) : CInv (dmF f g 8) := by
  have ha := h.al hg8
  have h0 : dmF f g 8 5 g = 0 := by
    rw [dmF_5]
    split
    · rfl
    · rename_i hn
      have := hol_self (f := f) hg8
      have := ha.1
      refine Decidable.byContradiction fun z => hn ⟨hg, hg8, z, by omega⟩
  refine win_keep h hg hg8 (fun _ _ _ => rfl) ?_ (fun z => ?_)
  · rw [h0, dmF_o _ _ _ _ (by decide) (by decide), dmF_o _ _ _ _ (by decide) (by decide), dmF_o _ _ _ _ (by decide) (by decide)]
    exact ⟨by omega, ha.2⟩
  · rw [h0] at z
    exact absurd z (by decide)
theorem wnF_keep {f : Nat → Nat → Nat} (h : CInv f) {g w p q : Nat} (hg : 4 ≤ g) (hg8 : g < 8) (hw : w < 8) (h5 : f 5 w = 1) (hh : hol f g w = 0) (hp : p ≤ q) (hq : q ≤ f 4 w) : CInv (up2 (up2 (up2 (up2 (up2 (up2 (dmF f g 8) 0 g (f 0 w)) 1 g (f 1 w)) 2 g w) 3 g (f 3 w + p)) 4 g (q - p)) 5 g 1) := by
  have ha := h.al hw
  have u0 : up2 (up2 (up2 (up2 (up2 (up2 (dmF f g 8) 0 g (f 0 w)) 1 g (f 1 w)) 2 g w) 3 g (f 3 w + p)) 4 g (q - p)) 5 g 1 0 g = f 0 w := by simp [up2]
  have u1 : up2 (up2 (up2 (up2 (up2 (up2 (dmF f g 8) 0 g (f 0 w)) 1 g (f 1 w)) 2 g w) 3 g (f 3 w + p)) 4 g (q - p)) 5 g 1 1 g = f 1 w := by simp [up2]
  have u2 : up2 (up2 (up2 (up2 (up2 (up2 (dmF f g 8) 0 g (f 0 w)) 1 g (f 1 w)) 2 g w) 3 g (f 3 w + p)) 4 g (q - p)) 5 g 1 2 g = w := by simp [up2]
  have u3 : up2 (up2 (up2 (up2 (up2 (up2 (dmF f g 8) 0 g (f 0 w)) 1 g (f 1 w)) 2 g w) 3 g (f 3 w + p)) 4 g (q - p)) 5 g 1 3 g = f 3 w + p := by simp [up2]
  have u4 : up2 (up2 (up2 (up2 (up2 (up2 (dmF f g 8) 0 g (f 0 w)) 1 g (f 1 w)) 2 g w) 3 g (f 3 w + p)) 4 g (q - p)) 5 g 1 4 g = q - p := by simp [up2]
  have u5 : up2 (up2 (up2 (up2 (up2 (up2 (dmF f g 8) 0 g (f 0 w)) 1 g (f 1 w)) 2 g w) 3 g (f 3 w + p)) 4 g (q - p)) 5 g 1 5 g = 1 := by simp [up2]
  refine win_keep h hg hg8 (fun fl i z => ?_) ?_ (fun _ => ?_)
  · simp only [up2]
    rw [if_neg (by omega), if_neg (by omega), if_neg (by omega), if_neg (by omega), if_neg (by omega), if_neg (by omega)]
  · rw [u5, u1, u0, u2]
    exact ⟨by omega, ha.2.1, ha.2.2.1, Or.inl hw⟩
  · rw [u2, u1, u3, u4]
    exact ⟨h5, hh, hw, rfl, by omega, by omega⟩
end PT_197
/-! ===== 198.keep6 -/
section PT_198
/-! THE INVARIANT, CALL BY CALL -/
theorem spF_keep {f : Nat → Nat → Nat} (h : CInv f) {c : Nat} (hc : c ≤ 12) : CInv (up2 f 4 8 c) := by
  have sp := h.sp
  refine h.scr (fun fl i z => ?_) ⟨?_, ?_, ?_⟩
  · show (if fl = 4 ∧ i = 8 then c else f fl i) = f fl i
    rw [if_neg (by omega)]
  · rw [up2_eq]
    exact hc
  · rw [up2_i _ _ _ _ (by omega)]
    omega
  · rw [up2_i _ _ _ _ (by omega)]
    omega
theorem chF_keep {f : Nat → Nat → Nat} (h : CInv f) {w c c2 g : Nat} (hw : w < 8) (h5 : f 5 w = 1) (hc : c ≤ 12) (hg : g ≤ f 4 w) (hfit : f 4 (f 1 w) + c - g ≤ 12) (e : c2 = c) : CInv (settleF (exL (up2 f 4 8 c) w c2 g 8) w 4294967295) := by
  subst e
  exact (chg_keep h hw h5 hc hg hfit).all (fun hd => absurd hd (by decide))
theorem seF_keep {f : Nat → Nat → Nat} (h : CInv f) {w c : Nat} (hw : w < 8) (h5 : f 5 w = 1) (hc : c ≤ 12) : CInv (settleF (up2 f 4 8 c) w 4294967295) :=
  (settle_keep h hw h5 c hc).all (fun hd => absurd hd (by decide))
theorem soF_keep {f : Nat → Nat → Nat} (h : CInv f) {w : Nat} (hw : w < 8) (h5 : f 5 w = 1) : CInv (settleF f w 4294967295) := by
  have sp := h.sp
  have e : up2 f 4 8 (f 4 8) = f := by
    funext fl i
    show (if fl = 4 ∧ i = 8 then f 4 8 else f fl i) = f fl i
    split
    · rename_i z
      rw [z.1, z.2]
    · rfl
  have := seF_keep h hw h5 (c := f 4 8) (by omega)
  rw [e] at this
  exact this
/-- the cursor that the change spares takes its new place -/
theorem cdF_keep {f F : Nat → Nat → Nat} {k : Nat} (h : CInvD f k) (e : ∀ fl i, (fl ≠ 7 ∧ fl ≠ 8) ∨ i ≠ k → F fl i = f fl i) (hd : f 9 k = 1 → f 5 (f 6 k) = 1 ∧ F 7 k ≤ f 4 (f 6 k) ∧ (F 8 k = 4294967295 ∨ F 8 k < f 4 (f 6 k))) : CInv F := by
  obtain ⟨a1, a2, a3, a4, a5, a6⟩ := h
  have e0 : ∀ i, F 0 i = f 0 i := fun i => e 0 i (Or.inl (by decide))
  have e1 : ∀ i, F 1 i = f 1 i := fun i => e 1 i (Or.inl (by decide))
  have e2 : ∀ i, F 2 i = f 2 i := fun i => e 2 i (Or.inl (by decide))
  have e3 : ∀ i, F 3 i = f 3 i := fun i => e 3 i (Or.inl (by decide))
  have e4 : ∀ i, F 4 i = f 4 i := fun i => e 4 i (Or.inl (by decide))
  have e5 : ∀ i, F 5 i = f 5 i := fun i => e 5 i (Or.inl (by decide))
  have e6 : ∀ i, F 6 i = f 6 i := fun i => e 6 i (Or.inl (by decide))
  have e9 : ∀ i, F 9 i = f 9 i := fun i => e 9 i (Or.inl (by decide))
  refine ⟨fun i hi => ?_, ?_, fun i hi => ?_, fun i hi h5 => ?_, fun i h4 hi h5 => ?_, fun j hj => ?_⟩
  · rw [e0, e1, e2, e3, e4, e5]
    exact a1 i hi
  · rw [e0, e3, e0, e3, e0, e3, e4, e4, e4]
    exact a2
  · rw [e5, e1, e0, e2]
    exact a3 i hi
  · rw [e5] at h5
    rw [e3, e1, e4, e4]
    exact a4 i hi h5
  · rw [e5] at h5
    have h := a5 i h4 hi h5
    rw [e2, e5, e1, e1, e3, e3, e4, e4]
    exact ⟨h.1, h.2.1, h.2.2.1, h.2.2.2.1, h.2.2.2.2.1, ch_same e2 e5 5 i h.2.2.2.2.2⟩
  · have h := a6 j hj
    rw [e6, e9, e5, e4]
    refine ⟨h.1, h.2.1, fun h9 => ?_⟩
    by_cases x : j = k
    · subst x
      exact hd h9
    · rw [e 7 j (Or.inr x), e 8 j (Or.inr x)]
      exact h.2.2 x h9
/-- a cursor's own put and take -/
theorem crF_keep {f : Nat → Nat → Nat} (h : CInv f) {k c g q l : Nat} (hk : k < 3) (h9 : f 9 k = 1) (hc : c ≤ 12) (hg : g ≤ f 4 (f 6 k)) (hfit : f 4 (f 1 (f 6 k)) + c - g ≤ 12) (hq : q ≤ f 4 (f 6 k) + c - g) (hl : l = 4294967295 ∨ l < f 4 (f 6 k) + c - g) : CInv (up2 (up2 (settleF (exL (up2 f 4 8 c) (f 6 k) c g 8) (f 6 k) k) 7 k q) 8 k l) := by
  have hck := h.cu hk
  have c3 := hck.2.2 h9
  have hs := hol_self (f := f) hck.1
  have e4 : chgF f (f 6 k) c g k 4 (f 6 k) = f 4 (f 6 k) + c - g := by
    rw [chg_4, if_pos ⟨hck.1, by omega⟩]
  have e5 : chgF f (f 6 k) c g k 5 (f 6 k) = 1 := by
    rw [chg_5, if_neg (by omega)]
    exact c3.1
  refine cdF_keep (k := k) (chg_keep h hck.1 c3.1 hc hg hfit) (fun fl i z => ?_) (fun _ => ?_)
  · show (if fl = 8 ∧ i = k then l else if fl = 7 ∧ i = k then q else chgF f (f 6 k) c g k fl i) = chgF f (f 6 k) c g k fl i
    rw [if_neg (by omega), if_neg (by omega)]
  · have q7 : up2 (up2 (settleF (exL (up2 f 4 8 c) (f 6 k) c g 8) (f 6 k) k) 7 k q) 8 k l 7 k = q := by simp [up2]
    have q8 : up2 (up2 (settleF (exL (up2 f 4 8 c) (f 6 k) c g 8) (f 6 k) k) 7 k q) 8 k l 8 k = l := by simp [up2]
    rw [q7, q8]
    show chgF f (f 6 k) c g k 5 (f 6 k) = 1 ∧ q ≤ chgF f (f 6 k) c g k 4 (f 6 k) ∧ (l = 4294967295 ∨ l < chgF f (f 6 k) c g k 4 (f 6 k))
    rw [e4, e5]
    exact ⟨rfl, hq, hl⟩
theorem tbF_keep {f : Nat → Nat → Nat} (h : CInv f) {k g : Nat} (hk : k < 3) (h9 : f 9 k = 1) (hg : g = 1) (h8 : f 8 k ≠ 4294967295) (hx : f 7 k ≤ f 8 k) : CInv (up2 (settleF (exL (up2 f 4 8 0) (f 6 k) 0 g 8) (f 6 k) k) 8 k 4294967295) := by
  have hck := h.cu hk
  have c3 := hck.2.2 h9
  have ht := h.th hck.1 c3.1
  have h4 : f 4 (f 6 k) ≤ f 4 (f 1 (f 6 k)) := by omega
  have hh := crF_keep h (k := k) (c := 0) (g := g) (q := f 7 k) (l := 4294967295) hk h9 (by omega) (by omega) (by omega) (by omega) (Or.inl rfl)
  have e : up2 (settleF (exL (up2 f 4 8 0) (f 6 k) 0 g 8) (f 6 k) k) 7 k (f 7 k) = settleF (exL (up2 f 4 8 0) (f 6 k) 0 g 8) (f 6 k) k := by
    funext fl i
    show (if fl = 7 ∧ i = k then f 7 k else settleF (exL (up2 f 4 8 0) (f 6 k) 0 g 8) (f 6 k) k fl i) = _
    split
    · rename_i z
      rw [z.1, z.2]
      unfold settleF stW
      rw [if_neg (fun z => absurd z.1 (by decide))]
      unfold stU
      rw [if_neg (fun z => absurd z.1 (by decide))]
      unfold exL
      rw [if_neg (fun z => absurd z.1 (by decide))]
      rfl
    · rfl
  rw [e] at hh
  exact hh
end PT_198
/-! ===== 21.sums -/
section PT_21
/-! CONTRACTS of the class: sums -/
/-- what a window answers -/
def wqF (f : Nat → Nat → Nat) (k q : Nat) : Int32 := if f 5 (4 + k) = 0 then nI 4294967295 else if q = 0 then nI (f 2 (4 + k)) else if q = 1 then nI (f 1 (4 + k)) else nI (f 4 (4 + k))
/-- what a cursor answers -/
def cqF (f : Nat → Nat → Nat) (k q : Nat) : Int32 := if f 9 k = 0 then nI 4294967295 else if q = 0 then nI (f 6 k) else if q = 1 then nI (f 7 k) else if q = 2 then nI (f 7 k) - nI 1 else if q = 3 then nI (if f 7 k < f 4 (f 6 k) then 1 else 0) else nI (if 0 < f 7 k then 1 else 0)
/-- windows mixed in -/
def mwF (f : Nat → Nat → Nat) (r : Nat → Nat → Int32) : Nat → Nat → Int64 → Int64
  | 0, _, u => u
  | d + 1, k, u => mwF f r d (k + 1) (if f 5 (4 + k) = 0 then mxF (wqF f k) 3 0 u else mxF (fun q => r (f 0 (4 + k)) (f 3 (4 + k) + q)) (f 4 (4 + k)) 0 (mxF (wqF f k) 3 0 u))
/-- cursors mixed in -/
def mcF (f : Nat → Nat → Nat) : Nat → Nat → Int64 → Int64
  | 0, _, u => u
  | d + 1, k, u => mcF f d (k + 1) (mxF (cqF f k) 5 0 u)
theorem C_ofWindow_all {l : Launch} {D : va_G} {cy : Nat → ClassId} {X : (Nat → Prop) → State → Heap → Prop} {a f : Nat → Nat → Nat} {r : Nat → Nat → Int32} {kn : Int32} {Y : va_W} {k0 : Nat} {q0 : Nat} (hX : EnvX X) (hC : CInv f) (hk4 : k0 < 4) (hq : q0 < 3) : Cd l D cy X yX2_ofWindow cX2_ofWindow 4 (some .int) (rmz 6 240) [.ref (a 0 0), .int (nI k0), .int (nI q0)] (WC cy a f r kn ++ Y) (some (.int (wqF f k0 q0))) (WC cy a f r kn ++ Y) := by
  by_cases z : f 5 (4 + k0) = 0
  · rw [show wqF f k0 q0 = nI 4294967295 from if_pos z]
    exact C_ofWindow_none hX hC hk4 hq z
  · have h1 : f 5 (4 + k0) = 1 := by
      have := hC.h5 (4 + k0) (by omega)
      omega
    obtain rfl | rfl | rfl : q0 = 0 ∨ q0 = 1 ∨ q0 = 2 := by omega
    · rw [show wqF f k0 0 = nI (f 2 (4 + k0)) from if_neg z]
      exact C_ofWindow_0 hX hC hk4 h1
    · rw [show wqF f k0 1 = nI (f 1 (4 + k0)) from if_neg z]
      exact C_ofWindow_1 hX hC hk4 h1
    · rw [show wqF f k0 2 = nI (f 4 (4 + k0)) from if_neg z]
      exact C_ofWindow_2 hX hC hk4 h1
theorem C_ofCursor_all {l : Launch} {D : va_G} {cy : Nat → ClassId} {X : (Nat → Prop) → State → Heap → Prop} {a f : Nat → Nat → Nat} {r : Nat → Nat → Int32} {kn : Int32} {Y : va_W} {k0 : Nat} {q0 : Nat} (hX : EnvX X) (hC : CInv f) (hk3 : k0 < 3) (hq : q0 < 5) : Cd l D cy X yX2_ofCursor cX2_ofCursor 4 (some .int) (rmz 6 240) [.ref (a 0 0), .int (nI k0), .int (nI q0)] (WC cy a f r kn ++ Y) (some (.int (cqF f k0 q0))) (WC cy a f r kn ++ Y) := by
  by_cases z : f 9 k0 = 0
  · rw [show cqF f k0 q0 = nI 4294967295 from if_pos z]
    exact C_ofCursor_none hX hC hk3 hq z
  · have h1 : f 9 k0 = 1 := by
      have := hC.cu hk3
      omega
    obtain rfl | rfl | rfl | rfl | rfl : q0 = 0 ∨ q0 = 1 ∨ q0 = 2 ∨ q0 = 3 ∨ q0 = 4 := by omega
    · rw [show cqF f k0 0 = nI (f 6 k0) from if_neg z]
      exact C_ofCursor_0 hX hC hk3 h1
    · rw [show cqF f k0 1 = nI (f 7 k0) from if_neg z]
      exact C_ofCursor_1 hX hC hk3 h1
    · rw [show cqF f k0 2 = nI (f 7 k0) - nI 1 from if_neg z]
      exact C_ofCursor_2 hX hC hk3 h1
    · rw [show cqF f k0 3 = nI (if f 7 k0 < f 4 (f 6 k0) then 1 else 0) from if_neg z]
      exact C_ofCursor_3 hX hC hk3 h1
    · rw [show cqF f k0 4 = nI (if 0 < f 7 k0 then 1 else 0) from if_neg z]
      exact C_ofCursor_4 hX hC hk3 h1
theorem pk_X2_ofCursor : PkV RX2 yX2_ofCursor cX2_ofCursor 4 (some .int) 2 := ⟨⟨qi_X2_ofCursor, qs_X2_ofCursor, qz_X2, qc_X2_ofCursor⟩, rfl, mh_X2.1, mh_X2.2, pd_0⟩
theorem dX2_mixCursors_0 : decode cX2_mixCursors 0 = .ok (.lload_n 1, 1) := dqo_31 (kb_of ke_X2_mixCursors 0 rfl)
theorem dX2_mixCursors_1 : decode cX2_mixCursors 1 = .ok (.lstore_n 3, 1) := dqo_66 (kb_of ke_X2_mixCursors 1 rfl)
theorem dX2_mixCursors_2 : decode cX2_mixCursors 2 = .ok (.iconst 0, 1) := dqo_3 (kb_of ke_X2_mixCursors 2 rfl)
theorem dX2_mixCursors_3 : decode cX2_mixCursors 3 = .ok (.istore 5, 2) := dqo_54 5 (kb_of ke_X2_mixCursors 3 rfl) (kb_of ke_X2_mixCursors 4 rfl)
theorem dX2_mixCursors_5 : decode cX2_mixCursors 5 = .ok (.iload 5, 2) := dqo_21 5 (kb_of ke_X2_mixCursors 5 rfl) (kb_of ke_X2_mixCursors 6 rfl)
theorem dX2_mixCursors_7 : decode cX2_mixCursors 7 = .ok (.iconst 3, 1) := dqo_6 (kb_of ke_X2_mixCursors 7 rfl)
theorem dX2_mixCursors_8 : decode cX2_mixCursors 8 = .ok (.if_icmp .ge 38, 3) := dqo_162 0 38 (by decide) (kb_of ke_X2_mixCursors 8 rfl) (kb_of ke_X2_mixCursors 9 rfl) (kb_of ke_X2_mixCursors 10 rfl)
theorem dX2_mixCursors_11 : decode cX2_mixCursors 11 = .ok (.iconst 0, 1) := dqo_3 (kb_of ke_X2_mixCursors 11 rfl)
theorem dX2_mixCursors_12 : decode cX2_mixCursors 12 = .ok (.istore 6, 2) := dqo_54 6 (kb_of ke_X2_mixCursors 12 rfl) (kb_of ke_X2_mixCursors 13 rfl)
theorem dX2_mixCursors_14 : decode cX2_mixCursors 14 = .ok (.iload 6, 2) := dqo_21 6 (kb_of ke_X2_mixCursors 14 rfl) (kb_of ke_X2_mixCursors 15 rfl)
theorem dX2_mixCursors_16 : decode cX2_mixCursors 16 = .ok (.iconst 5, 1) := dqo_8 (kb_of ke_X2_mixCursors 16 rfl)
theorem dX2_mixCursors_17 : decode cX2_mixCursors 17 = .ok (.if_icmp .ge 23, 3) := dqo_162 0 23 (by decide) (kb_of ke_X2_mixCursors 17 rfl) (kb_of ke_X2_mixCursors 18 rfl) (kb_of ke_X2_mixCursors 19 rfl)
theorem dX2_mixCursors_20 : decode cX2_mixCursors 20 = .ok (.lload_n 3, 1) := dqo_33 (kb_of ke_X2_mixCursors 20 rfl)
theorem dX2_mixCursors_21 : decode cX2_mixCursors 21 = .ok (.aload_n 0, 1) := dqo_42 (kb_of ke_X2_mixCursors 21 rfl)
theorem dX2_mixCursors_22 : decode cX2_mixCursors 22 = .ok (.iload 5, 2) := dqo_21 5 (kb_of ke_X2_mixCursors 22 rfl) (kb_of ke_X2_mixCursors 23 rfl)
theorem dX2_mixCursors_24 : decode cX2_mixCursors 24 = .ok (.iload 6, 2) := dqo_21 6 (kb_of ke_X2_mixCursors 24 rfl) (kb_of ke_X2_mixCursors 25 rfl)
theorem dX2_mixCursors_26 : decode cX2_mixCursors 26 = .ok (.invokevirtual 335, 3) := dqo_182 1 79 (kb_of ke_X2_mixCursors 26 rfl) (kb_of ke_X2_mixCursors 27 rfl) (kb_of ke_X2_mixCursors 28 rfl)
theorem dX2_mixCursors_29 : decode cX2_mixCursors 29 = .ok (.i2l, 1) := dqo_133 (kb_of ke_X2_mixCursors 29 rfl)
theorem dX2_mixCursors_30 : decode cX2_mixCursors 30 = .ok (.invokestatic 257, 3) := dqo_184 1 1 (kb_of ke_X2_mixCursors 30 rfl) (kb_of ke_X2_mixCursors 31 rfl) (kb_of ke_X2_mixCursors 32 rfl)
theorem dX2_mixCursors_33 : decode cX2_mixCursors 33 = .ok (.lstore_n 3, 1) := dqo_66 (kb_of ke_X2_mixCursors 33 rfl)
theorem dX2_mixCursors_34 : decode cX2_mixCursors 34 = .ok (.iinc 6 1, 3) := dqo_132 6 1 (by decide) (kb_of ke_X2_mixCursors 34 rfl) (kb_of ke_X2_mixCursors 35 rfl) (kb_of ke_X2_mixCursors 36 rfl)
theorem dX2_mixCursors_37 : decode cX2_mixCursors 37 = .ok (.goto (-23), 3) := dqo_167 255 233 (by decide) (kb_of ke_X2_mixCursors 37 rfl) (kb_of ke_X2_mixCursors 38 rfl) (kb_of ke_X2_mixCursors 39 rfl)
theorem dX2_mixCursors_40 : decode cX2_mixCursors 40 = .ok (.iinc 5 1, 3) := dqo_132 5 1 (by decide) (kb_of ke_X2_mixCursors 40 rfl) (kb_of ke_X2_mixCursors 41 rfl) (kb_of ke_X2_mixCursors 42 rfl)
theorem dX2_mixCursors_43 : decode cX2_mixCursors 43 = .ok (.goto (-38), 3) := dqo_167 255 218 (by decide) (kb_of ke_X2_mixCursors 43 rfl) (kb_of ke_X2_mixCursors 44 rfl) (kb_of ke_X2_mixCursors 45 rfl)
theorem dX2_mixCursors_46 : decode cX2_mixCursors 46 = .ok (.lload_n 3, 1) := dqo_33 (kb_of ke_X2_mixCursors 46 rfl)
theorem dX2_mixCursors_47 : decode cX2_mixCursors 47 = .ok (.lreturn, 1) := dqo_173 (kb_of ke_X2_mixCursors 47 rfl)
set_option maxRecDepth 100000 in
set_option maxHeartbeats 4000000 in
theorem C_mixCursors {l : Launch} {D : va_G} {cy : Nat → ClassId} {X : (Nat → Prop) → State → Heap → Prop} {a f : Nat → Nat → Nat} {r : Nat → Nat → Int32} {kn : Int32} {Y : va_W} {u : Int64} (hX : EnvX X) (hC : CInv f) : Cd l D cy X yX2_mixCursors cX2_mixCursors 7 (some .long) (rmz 7 300) [.ref (a 0 0), .long u] (WC cy a f r kn ++ Y) (some (.long (mcF f 3 0 u))) (WC cy a f r kn ++ Y) := by
  refine Cm.of [some (.ref (a 0 0)), some (.long u), none, none, none, none, none] pn_X2 rfl (Nat.le_of_ble_eq_true rfl) ?_
  intro p e s m args below meth c A C hE hr hnt hn
  refine r_lload_n C dX2_mixCursors_0 rfl ?_
  refine r_lstore_n C dX2_mixCursors_1 (by decide) rfl ?_
  refine r_iconst (v := (nI 0)) C dX2_mixCursors_2 (by decide) ?_
  refine r_istore C dX2_mixCursors_3 (by decide) rfl ?_
  have L5 : ∀ (d : Nat) (k : Nat) (v : Int64), (ht : k + d = 3) → (hF : mcF f d k v = mcF f 3 0 u) → vC p l e (rmz 7 300) s m args below meth c D A (vx_MQ below (vG (fun v1 w1 => v1 = (some (.long (mcF f 3 0 u))) ∧ w1 = WC cy a f r kn ++ Y) D vwCl A) (vGX (fun _ => False) D vwCl (WC cy a f r kn ++ Y) A) args s (rmz 7 300).cells (rmz 7 300).slots A) 7 0 0 (WC cy a f r kn ++ Y) [some (.ref (a 0 0)), some (.long u), none, some (.long v), none, some (.int (nI k)), none] 5 [] := by
    intro d
    induction d with
    | zero =>
      intro k v ht hF
      refine r_iload C dX2_mixCursors_5 rfl ?_
      refine r_iconst (v := (nI 3)) C dX2_mixCursors_7 (by decide) ?_
      refine r_icN_ge (a := k) (b := 3) (tgt := 46) C (by first | omega | (simp [up2, *]; done) | (simp [up2, *]; omega) | (simp only [up2_eq]; omega) | (split <;> omega)) (by first | omega | (simp [up2, *]; done) | (simp [up2, *]; omega) | (simp only [up2_eq]; omega) | (split <;> omega)) dX2_mixCursors_8 (by decide) (fun h8_1 => ?_) (fun h8_1 => ?_)
      · first
        | exfalso; first | omega | contradiction
        | skip
          refine r_lload_n C dX2_mixCursors_46 rfl ?_
          exact r_lret C hr dX2_mixCursors_47 ⟨by rw [← hF]; rfl, rfl⟩ (Nat.le_of_ble_eq_true rfl) (Nat.le_of_ble_eq_true rfl)
      · first
        | exfalso; first | omega | contradiction
        | skip
          refine r_iconst (v := (nI 0)) C dX2_mixCursors_11 (by decide) ?_
          refine r_istore C dX2_mixCursors_12 (by decide) rfl ?_
          have L14 : ∀ (d : Nat) (t : Nat) (z : Int64), (hs : t + d = 5) → (hG : mxF (cqF f k) d t z = mxF (cqF f k) 5 0 v) → vC p l e (rmz 7 300) s m args below meth c D A (vx_MQ below (vG (fun v1 w1 => v1 = (some (.long (mcF f 3 0 u))) ∧ w1 = WC cy a f r kn ++ Y) D vwCl A) (vGX (fun _ => False) D vwCl (WC cy a f r kn ++ Y) A) args s (rmz 7 300).cells (rmz 7 300).slots A) 7 0 0 (WC cy a f r kn ++ Y) [some (.ref (a 0 0)), some (.long u), none, some (.long z), none, some (.int (nI k)), some (.int (nI t))] 14 [] := by
            intro d
            induction d with
            | zero =>
              intro t z hs hG
              refine r_iload C dX2_mixCursors_14 rfl ?_
              refine r_iconst (v := (nI 5)) C dX2_mixCursors_16 (by decide) ?_
              refine r_icN_ge (a := t) (b := 5) (tgt := 40) C (by first | omega | (simp [up2, *]; done) | (simp [up2, *]; omega) | (simp only [up2_eq]; omega) | (split <;> omega)) (by first | omega | (simp [up2, *]; done) | (simp [up2, *]; omega) | (simp only [up2_eq]; omega) | (split <;> omega)) dX2_mixCursors_17 (by decide) (fun h17_2 => ?_) (fun h17_2 => ?_)
              · first
                | exfalso; first | omega | contradiction
                | skip
                  refine r_iincN C dX2_mixCursors_40 rfl (by decide) rfl ?_
                  refine r_goto (tgt := 5) C dX2_mixCursors_43 (by decide) ?_
                  refine r_drop 6 ?_
                  exact (Nat.not_lt_zero _ (by omega)).elim
              · first
                | exfalso; first | omega | contradiction
                | skip
                  refine r_lload_n C dX2_mixCursors_20 rfl ?_
                  refine r_aload_n C dX2_mixCursors_21 rfl ?_
                  refine r_iload C dX2_mixCursors_22 rfl ?_
                  refine r_iload C dX2_mixCursors_24 rfl ?_
                  refine d_V (st := [.long z]) hX.stb C hE (C_ofCursor_all (f := f) (r := r) (kn := kn) (k0 := k) (q0 := t) hX (by first | omega | (simp [up2, *]; done) | (simp [up2, *]; omega) | (simp only [up2_eq]; omega) | (split <;> omega)) (by first | omega | (simp [up2, *]; done) | (simp [up2, *]; omega) | (simp only [up2_eq]; omega) | (split <;> omega)) (by first | omega | (simp [up2, *]; done) | (simp [up2, *]; omega) | (simp only [up2_eq]; omega) | (split <;> omega))) pk_X2_ofCursor qm_X2_335 0 6 rfl rfl wc_0 rfl rfl (Nat.le_of_ble_eq_true rfl) dX2_mixCursors_26 ⟨Nat.le_of_ble_eq_true rfl, Nat.le_of_ble_eq_true rfl⟩ ⟨Nat.le_of_ble_eq_true rfl, Nat.le_of_ble_eq_true rfl⟩ ?_
                  refine r_i2l C dX2_mixCursors_29 ?_
                  refine d_S (st := []) hX.stb C hE (C_mix (f := f) (r := r) (kn := kn) (u := z) (v := (((cqF f k t)).toInt64)) hX ) pk_X2_mix qm_X2_257 rfl rfl (Nat.le_of_ble_eq_true rfl) dX2_mixCursors_30 ⟨Nat.le_of_ble_eq_true rfl, Nat.le_of_ble_eq_true rfl⟩ ⟨Nat.le_of_ble_eq_true rfl, Nat.le_of_ble_eq_true rfl⟩ ?_
                  refine r_lstore_n C dX2_mixCursors_33 (by decide) rfl ?_
                  refine r_iincN C dX2_mixCursors_34 rfl (by decide) rfl ?_
                  refine r_goto (tgt := 14) C dX2_mixCursors_37 (by decide) ?_
                  exact (Nat.not_lt_zero _ (by omega)).elim
            | succ d ih_L14 =>
              intro t z hs hG
              refine r_iload C dX2_mixCursors_14 rfl ?_
              refine r_iconst (v := (nI 5)) C dX2_mixCursors_16 (by decide) ?_
              refine r_icN_ge (a := t) (b := 5) (tgt := 40) C (by first | omega | (simp [up2, *]; done) | (simp [up2, *]; omega) | (simp only [up2_eq]; omega) | (split <;> omega)) (by first | omega | (simp [up2, *]; done) | (simp [up2, *]; omega) | (simp only [up2_eq]; omega) | (split <;> omega)) dX2_mixCursors_17 (by decide) (fun h17_3 => ?_) (fun h17_3 => ?_)
              · first
                | exfalso; first | omega | contradiction
                | skip
                  refine r_iincN C dX2_mixCursors_40 rfl (by decide) rfl ?_
                  refine r_goto (tgt := 5) C dX2_mixCursors_43 (by decide) ?_
                  refine r_drop 6 ?_
                  exact (Nat.not_lt_zero _ (by omega)).elim
              · first
                | exfalso; first | omega | contradiction
                | skip
                  refine r_lload_n C dX2_mixCursors_20 rfl ?_
                  refine r_aload_n C dX2_mixCursors_21 rfl ?_
                  refine r_iload C dX2_mixCursors_22 rfl ?_
                  refine r_iload C dX2_mixCursors_24 rfl ?_
                  refine d_V (st := [.long z]) hX.stb C hE (C_ofCursor_all (f := f) (r := r) (kn := kn) (k0 := k) (q0 := t) hX (by first | omega | (simp [up2, *]; done) | (simp [up2, *]; omega) | (simp only [up2_eq]; omega) | (split <;> omega)) (by first | omega | (simp [up2, *]; done) | (simp [up2, *]; omega) | (simp only [up2_eq]; omega) | (split <;> omega)) (by first | omega | (simp [up2, *]; done) | (simp [up2, *]; omega) | (simp only [up2_eq]; omega) | (split <;> omega))) pk_X2_ofCursor qm_X2_335 0 6 rfl rfl wc_0 rfl rfl (Nat.le_of_ble_eq_true rfl) dX2_mixCursors_26 ⟨Nat.le_of_ble_eq_true rfl, Nat.le_of_ble_eq_true rfl⟩ ⟨Nat.le_of_ble_eq_true rfl, Nat.le_of_ble_eq_true rfl⟩ ?_
                  refine r_i2l C dX2_mixCursors_29 ?_
                  refine d_S (st := []) hX.stb C hE (C_mix (f := f) (r := r) (kn := kn) (u := z) (v := (((cqF f k t)).toInt64)) hX ) pk_X2_mix qm_X2_257 rfl rfl (Nat.le_of_ble_eq_true rfl) dX2_mixCursors_30 ⟨Nat.le_of_ble_eq_true rfl, Nat.le_of_ble_eq_true rfl⟩ ⟨Nat.le_of_ble_eq_true rfl, Nat.le_of_ble_eq_true rfl⟩ ?_
                  refine r_lstore_n C dX2_mixCursors_33 (by decide) rfl ?_
                  refine r_iincN C dX2_mixCursors_34 rfl (by decide) rfl ?_
                  refine r_goto (tgt := 14) C dX2_mixCursors_37 (by decide) ?_
                  exact ih_L14 (t + 1) _ (by omega) (by rw [← hG]; rfl)
          exact L14 5 0 v (by omega) rfl
    | succ d ih_L5 =>
      intro k v ht hF
      refine r_iload C dX2_mixCursors_5 rfl ?_
      refine r_iconst (v := (nI 3)) C dX2_mixCursors_7 (by decide) ?_
      refine r_icN_ge (a := k) (b := 3) (tgt := 46) C (by first | omega | (simp [up2, *]; done) | (simp [up2, *]; omega) | (simp only [up2_eq]; omega) | (split <;> omega)) (by first | omega | (simp [up2, *]; done) | (simp [up2, *]; omega) | (simp only [up2_eq]; omega) | (split <;> omega)) dX2_mixCursors_8 (by decide) (fun h8_4 => ?_) (fun h8_4 => ?_)
      · first
        | exfalso; first | omega | contradiction
        | skip
          refine r_lload_n C dX2_mixCursors_46 rfl ?_
          exact r_lret C hr dX2_mixCursors_47 ⟨by rw [← hF]; rfl, rfl⟩ (Nat.le_of_ble_eq_true rfl) (Nat.le_of_ble_eq_true rfl)
      · first
        | exfalso; first | omega | contradiction
        | skip
          refine r_iconst (v := (nI 0)) C dX2_mixCursors_11 (by decide) ?_
          refine r_istore C dX2_mixCursors_12 (by decide) rfl ?_
          have L14 : ∀ (d : Nat) (t : Nat) (z : Int64), (hs : t + d = 5) → (hG : mxF (cqF f k) d t z = mxF (cqF f k) 5 0 v) → vC p l e (rmz 7 300) s m args below meth c D A (vx_MQ below (vG (fun v1 w1 => v1 = (some (.long (mcF f 3 0 u))) ∧ w1 = WC cy a f r kn ++ Y) D vwCl A) (vGX (fun _ => False) D vwCl (WC cy a f r kn ++ Y) A) args s (rmz 7 300).cells (rmz 7 300).slots A) 7 0 0 (WC cy a f r kn ++ Y) [some (.ref (a 0 0)), some (.long u), none, some (.long z), none, some (.int (nI k)), some (.int (nI t))] 14 [] := by
            intro d
            induction d with
            | zero =>
              intro t z hs hG
              refine r_iload C dX2_mixCursors_14 rfl ?_
              refine r_iconst (v := (nI 5)) C dX2_mixCursors_16 (by decide) ?_
              refine r_icN_ge (a := t) (b := 5) (tgt := 40) C (by first | omega | (simp [up2, *]; done) | (simp [up2, *]; omega) | (simp only [up2_eq]; omega) | (split <;> omega)) (by first | omega | (simp [up2, *]; done) | (simp [up2, *]; omega) | (simp only [up2_eq]; omega) | (split <;> omega)) dX2_mixCursors_17 (by decide) (fun h17_5 => ?_) (fun h17_5 => ?_)
              · first
                | exfalso; first | omega | contradiction
                | skip
                  refine r_iincN C dX2_mixCursors_40 rfl (by decide) rfl ?_
                  refine r_goto (tgt := 5) C dX2_mixCursors_43 (by decide) ?_
                  refine r_drop 6 ?_
                  exact ih_L5 (k + 1) _ (by omega) (by rw [← hF]; exact congrArg (mcF f _ (k + 1)) hG)
              · first
                | exfalso; first | omega | contradiction
                | skip
                  refine r_lload_n C dX2_mixCursors_20 rfl ?_
                  refine r_aload_n C dX2_mixCursors_21 rfl ?_
                  refine r_iload C dX2_mixCursors_22 rfl ?_
                  refine r_iload C dX2_mixCursors_24 rfl ?_
                  refine d_V (st := [.long z]) hX.stb C hE (C_ofCursor_all (f := f) (r := r) (kn := kn) (k0 := k) (q0 := t) hX (by first | omega | (simp [up2, *]; done) | (simp [up2, *]; omega) | (simp only [up2_eq]; omega) | (split <;> omega)) (by first | omega | (simp [up2, *]; done) | (simp [up2, *]; omega) | (simp only [up2_eq]; omega) | (split <;> omega)) (by first | omega | (simp [up2, *]; done) | (simp [up2, *]; omega) | (simp only [up2_eq]; omega) | (split <;> omega))) pk_X2_ofCursor qm_X2_335 0 6 rfl rfl wc_0 rfl rfl (Nat.le_of_ble_eq_true rfl) dX2_mixCursors_26 ⟨Nat.le_of_ble_eq_true rfl, Nat.le_of_ble_eq_true rfl⟩ ⟨Nat.le_of_ble_eq_true rfl, Nat.le_of_ble_eq_true rfl⟩ ?_
                  refine r_i2l C dX2_mixCursors_29 ?_
                  refine d_S (st := []) hX.stb C hE (C_mix (f := f) (r := r) (kn := kn) (u := z) (v := (((cqF f k t)).toInt64)) hX ) pk_X2_mix qm_X2_257 rfl rfl (Nat.le_of_ble_eq_true rfl) dX2_mixCursors_30 ⟨Nat.le_of_ble_eq_true rfl, Nat.le_of_ble_eq_true rfl⟩ ⟨Nat.le_of_ble_eq_true rfl, Nat.le_of_ble_eq_true rfl⟩ ?_
                  refine r_lstore_n C dX2_mixCursors_33 (by decide) rfl ?_
                  refine r_iincN C dX2_mixCursors_34 rfl (by decide) rfl ?_
                  refine r_goto (tgt := 14) C dX2_mixCursors_37 (by decide) ?_
                  exact (Nat.not_lt_zero _ (by omega)).elim
            | succ d ih_L14 =>
              intro t z hs hG
              refine r_iload C dX2_mixCursors_14 rfl ?_
              refine r_iconst (v := (nI 5)) C dX2_mixCursors_16 (by decide) ?_
              refine r_icN_ge (a := t) (b := 5) (tgt := 40) C (by first | omega | (simp [up2, *]; done) | (simp [up2, *]; omega) | (simp only [up2_eq]; omega) | (split <;> omega)) (by first | omega | (simp [up2, *]; done) | (simp [up2, *]; omega) | (simp only [up2_eq]; omega) | (split <;> omega)) dX2_mixCursors_17 (by decide) (fun h17_6 => ?_) (fun h17_6 => ?_)
              · first
                | exfalso; first | omega | contradiction
                | skip
                  refine r_iincN C dX2_mixCursors_40 rfl (by decide) rfl ?_
                  refine r_goto (tgt := 5) C dX2_mixCursors_43 (by decide) ?_
                  refine r_drop 6 ?_
                  exact ih_L5 (k + 1) _ (by omega) (by rw [← hF]; exact congrArg (mcF f _ (k + 1)) hG)
              · first
                | exfalso; first | omega | contradiction
                | skip
                  refine r_lload_n C dX2_mixCursors_20 rfl ?_
                  refine r_aload_n C dX2_mixCursors_21 rfl ?_
                  refine r_iload C dX2_mixCursors_22 rfl ?_
                  refine r_iload C dX2_mixCursors_24 rfl ?_
                  refine d_V (st := [.long z]) hX.stb C hE (C_ofCursor_all (f := f) (r := r) (kn := kn) (k0 := k) (q0 := t) hX (by first | omega | (simp [up2, *]; done) | (simp [up2, *]; omega) | (simp only [up2_eq]; omega) | (split <;> omega)) (by first | omega | (simp [up2, *]; done) | (simp [up2, *]; omega) | (simp only [up2_eq]; omega) | (split <;> omega)) (by first | omega | (simp [up2, *]; done) | (simp [up2, *]; omega) | (simp only [up2_eq]; omega) | (split <;> omega))) pk_X2_ofCursor qm_X2_335 0 6 rfl rfl wc_0 rfl rfl (Nat.le_of_ble_eq_true rfl) dX2_mixCursors_26 ⟨Nat.le_of_ble_eq_true rfl, Nat.le_of_ble_eq_true rfl⟩ ⟨Nat.le_of_ble_eq_true rfl, Nat.le_of_ble_eq_true rfl⟩ ?_
                  refine r_i2l C dX2_mixCursors_29 ?_
                  refine d_S (st := []) hX.stb C hE (C_mix (f := f) (r := r) (kn := kn) (u := z) (v := (((cqF f k t)).toInt64)) hX ) pk_X2_mix qm_X2_257 rfl rfl (Nat.le_of_ble_eq_true rfl) dX2_mixCursors_30 ⟨Nat.le_of_ble_eq_true rfl, Nat.le_of_ble_eq_true rfl⟩ ⟨Nat.le_of_ble_eq_true rfl, Nat.le_of_ble_eq_true rfl⟩ ?_
                  refine r_lstore_n C dX2_mixCursors_33 (by decide) rfl ?_
                  refine r_iincN C dX2_mixCursors_34 rfl (by decide) rfl ?_
                  refine r_goto (tgt := 14) C dX2_mixCursors_37 (by decide) ?_
                  exact ih_L14 (t + 1) _ (by omega) (by rw [← hG]; rfl)
          exact L14 5 0 v (by omega) rfl
  exact L5 3 0 u (by omega) rfl
theorem pk_X2_mixItems : PkS yX2_mixItems cX2_mixItems 6 (some .long) 2 := ⟨⟨qt_X2_mixItems, qz_X2, qc_X2_mixItems⟩, mh_X2.1, mh_X2.2, pd_17⟩
theorem pk_X2_ofWindow : PkV RX2 yX2_ofWindow cX2_ofWindow 4 (some .int) 2 := ⟨⟨qi_X2_ofWindow, qs_X2_ofWindow, qz_X2, qc_X2_ofWindow⟩, rfl, mh_X2.1, mh_X2.2, pd_0⟩
theorem dX2_mixWindows_0 : decode cX2_mixWindows 0 = .ok (.lload_n 1, 1) := dqo_31 (kb_X2_mixWindows_0 0 rfl)
theorem dX2_mixWindows_1 : decode cX2_mixWindows 1 = .ok (.lstore_n 3, 1) := dqo_66 (kb_X2_mixWindows_0 1 rfl)
theorem dX2_mixWindows_2 : decode cX2_mixWindows 2 = .ok (.iconst 0, 1) := dqo_3 (kb_X2_mixWindows_0 2 rfl)
theorem dX2_mixWindows_3 : decode cX2_mixWindows 3 = .ok (.istore 5, 2) := dqo_54 5 (kb_X2_mixWindows_0 3 rfl) (kb_X2_mixWindows_0 4 rfl)
theorem dX2_mixWindows_5 : decode cX2_mixWindows 5 = .ok (.iload 5, 2) := dqo_21 5 (kb_X2_mixWindows_0 5 rfl) (kb_X2_mixWindows_0 6 rfl)
theorem dX2_mixWindows_7 : decode cX2_mixWindows 7 = .ok (.iconst 4, 1) := dqo_7 (kb_X2_mixWindows_0 7 rfl)
theorem dX2_mixWindows_8 : decode cX2_mixWindows 8 = .ok (.if_icmp .ge 67, 3) := dqo_162 0 67 (by decide) (kb_X2_mixWindows_0 8 rfl) (kb_X2_mixWindows_0 9 rfl) (kb_X2_mixWindows_0 10 rfl)
theorem dX2_mixWindows_11 : decode cX2_mixWindows 11 = .ok (.iconst 0, 1) := dqo_3 (kb_X2_mixWindows_0 11 rfl)
theorem dX2_mixWindows_12 : decode cX2_mixWindows 12 = .ok (.istore 6, 2) := dqo_54 6 (kb_X2_mixWindows_0 12 rfl) (kb_X2_mixWindows_0 13 rfl)
theorem dX2_mixWindows_14 : decode cX2_mixWindows 14 = .ok (.iload 6, 2) := dqo_21 6 (kb_X2_mixWindows_0 14 rfl) (kb_X2_mixWindows_0 15 rfl)
theorem dX2_mixWindows_16 : decode cX2_mixWindows 16 = .ok (.iconst 3, 1) := dqo_6 (kb_X2_mixWindows_0 16 rfl)
theorem dX2_mixWindows_17 : decode cX2_mixWindows 17 = .ok (.if_icmp .ge 23, 3) := dqo_162 0 23 (by decide) (kb_X2_mixWindows_0 17 rfl) (kb_X2_mixWindows_0 18 rfl) (kb_X2_mixWindows_0 19 rfl)
theorem dX2_mixWindows_20 : decode cX2_mixWindows 20 = .ok (.lload_n 3, 1) := dqo_33 (kb_X2_mixWindows_0 20 rfl)
theorem dX2_mixWindows_21 : decode cX2_mixWindows 21 = .ok (.aload_n 0, 1) := dqo_42 (kb_X2_mixWindows_0 21 rfl)
theorem dX2_mixWindows_22 : decode cX2_mixWindows 22 = .ok (.iload 5, 2) := dqo_21 5 (kb_X2_mixWindows_0 22 rfl) (kb_X2_mixWindows_0 23 rfl)
theorem dX2_mixWindows_24 : decode cX2_mixWindows 24 = .ok (.iload 6, 2) := dqo_21 6 (kb_X2_mixWindows_0 24 rfl) (kb_X2_mixWindows_0 25 rfl)
theorem dX2_mixWindows_26 : decode cX2_mixWindows 26 = .ok (.invokevirtual 332, 3) := dqo_182 1 76 (kb_X2_mixWindows_0 26 rfl) (kb_X2_mixWindows_0 27 rfl) (kb_X2_mixWindows_0 28 rfl)
theorem dX2_mixWindows_29 : decode cX2_mixWindows 29 = .ok (.i2l, 1) := dqo_133 (kb_X2_mixWindows_0 29 rfl)
theorem dX2_mixWindows_30 : decode cX2_mixWindows 30 = .ok (.invokestatic 257, 3) := dqo_184 1 1 (kb_X2_mixWindows_0 30 rfl) (kb_X2_mixWindows_0 31 rfl) (kb_X2_mixWindows_0 32 rfl)
theorem dX2_mixWindows_33 : decode cX2_mixWindows 33 = .ok (.lstore_n 3, 1) := dqo_66 (kb_X2_mixWindows_0 33 rfl)
theorem dX2_mixWindows_34 : decode cX2_mixWindows 34 = .ok (.iinc 6 1, 3) := dqo_132 6 1 (by decide) (kb_X2_mixWindows_0 34 rfl) (kb_X2_mixWindows_0 35 rfl) (kb_X2_mixWindows_0 36 rfl)
theorem dX2_mixWindows_37 : decode cX2_mixWindows 37 = .ok (.goto (-23), 3) := dqo_167 255 233 (by decide) (kb_X2_mixWindows_0 37 rfl) (kb_X2_mixWindows_0 38 rfl) (kb_X2_mixWindows_0 39 rfl)
theorem dX2_mixWindows_40 : decode cX2_mixWindows 40 = .ok (.aload_n 0, 1) := dqo_42 (kb_X2_mixWindows_0 40 rfl)
theorem dX2_mixWindows_41 : decode cX2_mixWindows 41 = .ok (.getfield 11, 3) := dqo_180 0 11 (kb_X2_mixWindows_0 41 rfl) (kb_X2_mixWindows_0 42 rfl) (kb_X2_mixWindows_0 43 rfl)
theorem dX2_mixWindows_44 : decode cX2_mixWindows 44 = .ok (.iconst 4, 1) := dqo_7 (kb_X2_mixWindows_0 44 rfl)
theorem dX2_mixWindows_45 : decode cX2_mixWindows 45 = .ok (.iload 5, 2) := dqo_21 5 (kb_X2_mixWindows_0 45 rfl) (kb_X2_mixWindows_0 46 rfl)
theorem dX2_mixWindows_47 : decode cX2_mixWindows 47 = .ok (.iadd, 1) := dqo_96 (kb_X2_mixWindows_0 47 rfl)
theorem dX2_mixWindows_48 : decode cX2_mixWindows 48 = .ok (.aaload, 1) := dqo_50 (kb_X2_mixWindows_0 48 rfl)
theorem dX2_mixWindows_49 : decode cX2_mixWindows 49 = .ok (.getfield 194, 3) := dqo_180 0 194 (kb_X2_mixWindows_0 49 rfl) (kb_X2_mixWindows_0 50 rfl) (kb_X2_mixWindows_0 51 rfl)
theorem dX2_mixWindows_52 : decode cX2_mixWindows 52 = .ok (.ifCond .eq 17, 3) := dqo_153 0 17 (by decide) (kb_X2_mixWindows_0 52 rfl) (kb_X2_mixWindows_0 53 rfl) (kb_X2_mixWindows_0 54 rfl)
theorem dX2_mixWindows_55 : decode cX2_mixWindows 55 = .ok (.lload_n 3, 1) := dqo_33 (kb_X2_mixWindows_0 55 rfl)
theorem dX2_mixWindows_56 : decode cX2_mixWindows 56 = .ok (.aload_n 0, 1) := dqo_42 (kb_X2_mixWindows_0 56 rfl)
theorem dX2_mixWindows_57 : decode cX2_mixWindows 57 = .ok (.getfield 11, 3) := dqo_180 0 11 (kb_X2_mixWindows_0 57 rfl) (kb_X2_mixWindows_0 58 rfl) (kb_X2_mixWindows_0 59 rfl)
theorem dX2_mixWindows_60 : decode cX2_mixWindows 60 = .ok (.iconst 4, 1) := dqo_7 (kb_X2_mixWindows_0 60 rfl)
theorem dX2_mixWindows_61 : decode cX2_mixWindows 61 = .ok (.iload 5, 2) := dqo_21 5 (kb_X2_mixWindows_0 61 rfl) (kb_X2_mixWindows_0 62 rfl)
theorem dX2_mixWindows_63 : decode cX2_mixWindows 63 = .ok (.iadd, 1) := dqo_96 (kb_X2_mixWindows_0 63 rfl)
theorem dX2_mixWindows_64 : decode cX2_mixWindows 64 = .ok (.aaload, 1) := dqo_50 (kb_X2_mixWindows_1 0 rfl)
theorem dX2_mixWindows_65 : decode cX2_mixWindows 65 = .ok (.invokestatic 323, 3) := dqo_184 1 67 (kb_X2_mixWindows_1 1 rfl) (kb_X2_mixWindows_1 2 rfl) (kb_X2_mixWindows_1 3 rfl)
theorem dX2_mixWindows_68 : decode cX2_mixWindows 68 = .ok (.lstore_n 3, 1) := dqo_66 (kb_X2_mixWindows_1 4 rfl)
theorem dX2_mixWindows_69 : decode cX2_mixWindows 69 = .ok (.iinc 5 1, 3) := dqo_132 5 1 (by decide) (kb_X2_mixWindows_1 5 rfl) (kb_X2_mixWindows_1 6 rfl) (kb_X2_mixWindows_1 7 rfl)
theorem dX2_mixWindows_72 : decode cX2_mixWindows 72 = .ok (.goto (-67), 3) := dqo_167 255 189 (by decide) (kb_X2_mixWindows_1 8 rfl) (kb_X2_mixWindows_1 9 rfl) (kb_X2_mixWindows_1 10 rfl)
theorem dX2_mixWindows_75 : decode cX2_mixWindows 75 = .ok (.lload_n 3, 1) := dqo_33 (kb_X2_mixWindows_1 11 rfl)
theorem dX2_mixWindows_76 : decode cX2_mixWindows 76 = .ok (.lreturn, 1) := dqo_173 (kb_X2_mixWindows_1 12 rfl)
set_option maxRecDepth 100000 in
set_option maxHeartbeats 4000000 in
theorem C_mixWindows {l : Launch} {D : va_G} {cy : Nat → ClassId} {X : (Nat → Prop) → State → Heap → Prop} {a f : Nat → Nat → Nat} {r : Nat → Nat → Int32} {kn : Int32} {Y : va_W} {u : Int64} (hX : EnvX X) (hC : CInv f) : Cd l D cy X yX2_mixWindows cX2_mixWindows 7 (some .long) (rmz 7 300) [.ref (a 0 0), .long u] (WC cy a f r kn ++ Y) (some (.long (mwF f r 4 0 u))) (WC cy a f r kn ++ Y) := by
  refine Cm.of [some (.ref (a 0 0)), some (.long u), none, none, none, none, none] pn_X2 rfl (Nat.le_of_ble_eq_true rfl) ?_
  intro p e s m args below meth c A C hE hr hnt hn
  refine r_lload_n C dX2_mixWindows_0 rfl ?_
  refine r_lstore_n C dX2_mixWindows_1 (by decide) rfl ?_
  refine r_iconst (v := (nI 0)) C dX2_mixWindows_2 (by decide) ?_
  refine r_istore C dX2_mixWindows_3 (by decide) rfl ?_
  have L5 : ∀ (d : Nat) (k : Nat) (v : Int64), (ht : k + d = 4) → (hF : mwF f r d k v = mwF f r 4 0 u) → vC p l e (rmz 7 300) s m args below meth c D A (vx_MQ below (vG (fun v1 w1 => v1 = (some (.long (mwF f r 4 0 u))) ∧ w1 = WC cy a f r kn ++ Y) D vwCl A) (vGX (fun _ => False) D vwCl (WC cy a f r kn ++ Y) A) args s (rmz 7 300).cells (rmz 7 300).slots A) 7 0 0 (WC cy a f r kn ++ Y) [some (.ref (a 0 0)), some (.long u), none, some (.long v), none, some (.int (nI k)), none] 5 [] := by
    intro d
    induction d with
    | zero =>
      intro k v ht hF
      refine r_iload C dX2_mixWindows_5 rfl ?_
      refine r_iconst (v := (nI 4)) C dX2_mixWindows_7 (by decide) ?_
      refine r_icN_ge (a := k) (b := 4) (tgt := 75) C (by first | omega | (simp [up2, *]; done) | (simp [up2, *]; omega) | (simp only [up2_eq]; omega) | (split <;> omega)) (by first | omega | (simp [up2, *]; done) | (simp [up2, *]; omega) | (simp only [up2_eq]; omega) | (split <;> omega)) dX2_mixWindows_8 (by decide) (fun h8_1 => ?_) (fun h8_1 => ?_)
      · first
        | exfalso; first | omega | contradiction
        | skip
          refine r_lload_n C dX2_mixWindows_75 rfl ?_
          exact r_lret C hr dX2_mixWindows_76 ⟨by rw [← hF]; rfl, rfl⟩ (Nat.le_of_ble_eq_true rfl) (Nat.le_of_ble_eq_true rfl)
      · first
        | exfalso; first | omega | contradiction
        | skip
          refine r_iconst (v := (nI 0)) C dX2_mixWindows_11 (by decide) ?_
          refine r_istore C dX2_mixWindows_12 (by decide) rfl ?_
          have L14 : ∀ (d : Nat) (t : Nat) (z : Int64), (hs : t + d = 3) → (hG : mxF (wqF f k) d t z = mxF (wqF f k) 3 0 v) → vC p l e (rmz 7 300) s m args below meth c D A (vx_MQ below (vG (fun v1 w1 => v1 = (some (.long (mwF f r 4 0 u))) ∧ w1 = WC cy a f r kn ++ Y) D vwCl A) (vGX (fun _ => False) D vwCl (WC cy a f r kn ++ Y) A) args s (rmz 7 300).cells (rmz 7 300).slots A) 7 0 0 (WC cy a f r kn ++ Y) [some (.ref (a 0 0)), some (.long u), none, some (.long z), none, some (.int (nI k)), some (.int (nI t))] 14 [] := by
            intro d
            induction d with
            | zero =>
              intro t z hs hG
              refine r_iload C dX2_mixWindows_14 rfl ?_
              refine r_iconst (v := (nI 3)) C dX2_mixWindows_16 (by decide) ?_
              refine r_icN_ge (a := t) (b := 3) (tgt := 40) C (by first | omega | (simp [up2, *]; done) | (simp [up2, *]; omega) | (simp only [up2_eq]; omega) | (split <;> omega)) (by first | omega | (simp [up2, *]; done) | (simp [up2, *]; omega) | (simp only [up2_eq]; omega) | (split <;> omega)) dX2_mixWindows_17 (by decide) (fun h17_2 => ?_) (fun h17_2 => ?_)
              · first
                | exfalso; first | omega | contradiction
                | skip
                  have hz : z = mxF (wqF f k) 3 0 v := by first | exact hG | (exfalso; omega)
                  subst hz
                  have q1 := hC.h5 (4 + k) (by omega)
                  refine r_aload_n C dX2_mixWindows_40 rfl ?_
                  refine s_get C 0 (by decide) qf_X2_11 rfl rfl dX2_mixWindows_41 ?_
                  refine r_iconst (v := (nI 4)) C dX2_mixWindows_44 (by decide) ?_
                  refine r_iload C dX2_mixWindows_45 rfl ?_
                  refine r_iaddN C dX2_mixWindows_47 ?_
                  refine s_parts C (by first | omega | (simp [up2, *]; done) | (simp [up2, *]; omega) | (simp only [up2_eq]; omega) | (split <;> omega)) dX2_mixWindows_48 ?_
                  refine p_getN (v := .int (nI (f 5 (4 + k)))) hX C hE 5 (by first | omega | (simp [up2, *]; done) | (simp [up2, *]; omega) | (simp only [up2_eq]; omega) | (split <;> omega)) (by decide) qn_X2_194 rfl rfl dX2_mixWindows_49 ?_
                  refine r_ifN_eq (a := (f 5 (4 + k))) (tgt := 69) C (by first | omega | (simp [up2, *]; done) | (simp [up2, *]; omega) | (simp only [up2_eq]; omega) | (split <;> omega)) dX2_mixWindows_52 (by decide) (fun h52_3 => ?_) (fun h52_3 => ?_)
                  · first
                    | exfalso; first | omega | contradiction
                    | skip
                      refine r_iincN C dX2_mixWindows_69 rfl (by decide) rfl ?_
                      refine r_goto (tgt := 5) C dX2_mixWindows_72 (by decide) ?_
                      refine r_drop 6 ?_
                      exact (Nat.not_lt_zero _ (by omega)).elim
                  · first
                    | exfalso; first | omega | contradiction
                    | skip
                      have q2 := hC.th (i := 4 + k) (by omega) (by omega)
                      refine r_lload_n C dX2_mixWindows_55 rfl ?_
                      refine r_aload_n C dX2_mixWindows_56 rfl ?_
                      refine s_get C 0 (by decide) qf_X2_11 rfl rfl dX2_mixWindows_57 ?_
                      refine r_iconst (v := (nI 4)) C dX2_mixWindows_60 (by decide) ?_
                      refine r_iload C dX2_mixWindows_61 rfl ?_
                      refine r_iaddN C dX2_mixWindows_63 ?_
                      refine s_parts C (by first | omega | (simp [up2, *]; done) | (simp [up2, *]; omega) | (simp only [up2_eq]; omega) | (split <;> omega)) dX2_mixWindows_64 ?_
                      refine d_S (st := []) hX.stb C hE (C_mixItems (f := f) (r := r) (kn := kn) (i := (4 + k)) (u := (mxF (wqF f k) 3 0 v)) hX (by first | omega | (simp [up2, *]; done) | (simp [up2, *]; omega) | (simp only [up2_eq]; omega) | (split <;> omega)) (by first | omega | (simp [up2, *]; done) | (simp [up2, *]; omega) | (simp only [up2_eq]; omega) | (split <;> omega)) (by first | omega | (simp [up2, *]; done) | (simp [up2, *]; omega) | (simp only [up2_eq]; omega) | (split <;> omega))) pk_X2_mixItems qm_X2_323 rfl rfl (Nat.le_of_ble_eq_true rfl) dX2_mixWindows_65 ⟨Nat.le_of_ble_eq_true rfl, Nat.le_of_ble_eq_true rfl⟩ ⟨Nat.le_of_ble_eq_true rfl, Nat.le_of_ble_eq_true rfl⟩ ?_
                      refine r_lstore_n C dX2_mixWindows_68 (by decide) rfl ?_
                      refine r_iincN C dX2_mixWindows_69 rfl (by decide) rfl ?_
                      refine r_goto (tgt := 5) C dX2_mixWindows_72 (by decide) ?_
                      refine r_drop 6 ?_
                      exact (Nat.not_lt_zero _ (by omega)).elim
              · first
                | exfalso; first | omega | contradiction
                | skip
                  refine r_lload_n C dX2_mixWindows_20 rfl ?_
                  refine r_aload_n C dX2_mixWindows_21 rfl ?_
                  refine r_iload C dX2_mixWindows_22 rfl ?_
                  refine r_iload C dX2_mixWindows_24 rfl ?_
                  refine d_V (st := [.long z]) hX.stb C hE (C_ofWindow_all (f := f) (r := r) (kn := kn) (k0 := k) (q0 := t) hX (by first | omega | (simp [up2, *]; done) | (simp [up2, *]; omega) | (simp only [up2_eq]; omega) | (split <;> omega)) (by first | omega | (simp [up2, *]; done) | (simp [up2, *]; omega) | (simp only [up2_eq]; omega) | (split <;> omega)) (by first | omega | (simp [up2, *]; done) | (simp [up2, *]; omega) | (simp only [up2_eq]; omega) | (split <;> omega))) pk_X2_ofWindow qm_X2_332 0 6 rfl rfl wc_0 rfl rfl (Nat.le_of_ble_eq_true rfl) dX2_mixWindows_26 ⟨Nat.le_of_ble_eq_true rfl, Nat.le_of_ble_eq_true rfl⟩ ⟨Nat.le_of_ble_eq_true rfl, Nat.le_of_ble_eq_true rfl⟩ ?_
                  refine r_i2l C dX2_mixWindows_29 ?_
                  refine d_S (st := []) hX.stb C hE (C_mix (f := f) (r := r) (kn := kn) (u := z) (v := (((wqF f k t)).toInt64)) hX ) pk_X2_mix qm_X2_257 rfl rfl (Nat.le_of_ble_eq_true rfl) dX2_mixWindows_30 ⟨Nat.le_of_ble_eq_true rfl, Nat.le_of_ble_eq_true rfl⟩ ⟨Nat.le_of_ble_eq_true rfl, Nat.le_of_ble_eq_true rfl⟩ ?_
                  refine r_lstore_n C dX2_mixWindows_33 (by decide) rfl ?_
                  refine r_iincN C dX2_mixWindows_34 rfl (by decide) rfl ?_
                  refine r_goto (tgt := 14) C dX2_mixWindows_37 (by decide) ?_
                  exact (Nat.not_lt_zero _ (by omega)).elim
            | succ d ih_L14 =>
              intro t z hs hG
              refine r_iload C dX2_mixWindows_14 rfl ?_
              refine r_iconst (v := (nI 3)) C dX2_mixWindows_16 (by decide) ?_
              refine r_icN_ge (a := t) (b := 3) (tgt := 40) C (by first | omega | (simp [up2, *]; done) | (simp [up2, *]; omega) | (simp only [up2_eq]; omega) | (split <;> omega)) (by first | omega | (simp [up2, *]; done) | (simp [up2, *]; omega) | (simp only [up2_eq]; omega) | (split <;> omega)) dX2_mixWindows_17 (by decide) (fun h17_4 => ?_) (fun h17_4 => ?_)
              · first
                | exfalso; first | omega | contradiction
                | skip
                  have hz : z = mxF (wqF f k) 3 0 v := by first | exact hG | (exfalso; omega)
                  subst hz
                  have q1 := hC.h5 (4 + k) (by omega)
                  refine r_aload_n C dX2_mixWindows_40 rfl ?_
                  refine s_get C 0 (by decide) qf_X2_11 rfl rfl dX2_mixWindows_41 ?_
                  refine r_iconst (v := (nI 4)) C dX2_mixWindows_44 (by decide) ?_
                  refine r_iload C dX2_mixWindows_45 rfl ?_
                  refine r_iaddN C dX2_mixWindows_47 ?_
                  refine s_parts C (by first | omega | (simp [up2, *]; done) | (simp [up2, *]; omega) | (simp only [up2_eq]; omega) | (split <;> omega)) dX2_mixWindows_48 ?_
                  refine p_getN (v := .int (nI (f 5 (4 + k)))) hX C hE 5 (by first | omega | (simp [up2, *]; done) | (simp [up2, *]; omega) | (simp only [up2_eq]; omega) | (split <;> omega)) (by decide) qn_X2_194 rfl rfl dX2_mixWindows_49 ?_
                  refine r_ifN_eq (a := (f 5 (4 + k))) (tgt := 69) C (by first | omega | (simp [up2, *]; done) | (simp [up2, *]; omega) | (simp only [up2_eq]; omega) | (split <;> omega)) dX2_mixWindows_52 (by decide) (fun h52_5 => ?_) (fun h52_5 => ?_)
                  · first
                    | exfalso; first | omega | contradiction
                    | skip
                      refine r_iincN C dX2_mixWindows_69 rfl (by decide) rfl ?_
                      refine r_goto (tgt := 5) C dX2_mixWindows_72 (by decide) ?_
                      refine r_drop 6 ?_
                      exact (Nat.not_lt_zero _ (by omega)).elim
                  · first
                    | exfalso; first | omega | contradiction
                    | skip
                      have q2 := hC.th (i := 4 + k) (by omega) (by omega)
                      refine r_lload_n C dX2_mixWindows_55 rfl ?_
                      refine r_aload_n C dX2_mixWindows_56 rfl ?_
                      refine s_get C 0 (by decide) qf_X2_11 rfl rfl dX2_mixWindows_57 ?_
                      refine r_iconst (v := (nI 4)) C dX2_mixWindows_60 (by decide) ?_
                      refine r_iload C dX2_mixWindows_61 rfl ?_
                      refine r_iaddN C dX2_mixWindows_63 ?_
                      refine s_parts C (by first | omega | (simp [up2, *]; done) | (simp [up2, *]; omega) | (simp only [up2_eq]; omega) | (split <;> omega)) dX2_mixWindows_64 ?_
                      refine d_S (st := []) hX.stb C hE (C_mixItems (f := f) (r := r) (kn := kn) (i := (4 + k)) (u := (mxF (wqF f k) 3 0 v)) hX (by first | omega | (simp [up2, *]; done) | (simp [up2, *]; omega) | (simp only [up2_eq]; omega) | (split <;> omega)) (by first | omega | (simp [up2, *]; done) | (simp [up2, *]; omega) | (simp only [up2_eq]; omega) | (split <;> omega)) (by first | omega | (simp [up2, *]; done) | (simp [up2, *]; omega) | (simp only [up2_eq]; omega) | (split <;> omega))) pk_X2_mixItems qm_X2_323 rfl rfl (Nat.le_of_ble_eq_true rfl) dX2_mixWindows_65 ⟨Nat.le_of_ble_eq_true rfl, Nat.le_of_ble_eq_true rfl⟩ ⟨Nat.le_of_ble_eq_true rfl, Nat.le_of_ble_eq_true rfl⟩ ?_
                      refine r_lstore_n C dX2_mixWindows_68 (by decide) rfl ?_
                      refine r_iincN C dX2_mixWindows_69 rfl (by decide) rfl ?_
                      refine r_goto (tgt := 5) C dX2_mixWindows_72 (by decide) ?_
                      refine r_drop 6 ?_
                      exact (Nat.not_lt_zero _ (by omega)).elim
              · first
                | exfalso; first | omega | contradiction
                | skip
                  refine r_lload_n C dX2_mixWindows_20 rfl ?_
                  refine r_aload_n C dX2_mixWindows_21 rfl ?_
                  refine r_iload C dX2_mixWindows_22 rfl ?_
                  refine r_iload C dX2_mixWindows_24 rfl ?_
                  refine d_V (st := [.long z]) hX.stb C hE (C_ofWindow_all (f := f) (r := r) (kn := kn) (k0 := k) (q0 := t) hX (by first | omega | (simp [up2, *]; done) | (simp [up2, *]; omega) | (simp only [up2_eq]; omega) | (split <;> omega)) (by first | omega | (simp [up2, *]; done) | (simp [up2, *]; omega) | (simp only [up2_eq]; omega) | (split <;> omega)) (by first | omega | (simp [up2, *]; done) | (simp [up2, *]; omega) | (simp only [up2_eq]; omega) | (split <;> omega))) pk_X2_ofWindow qm_X2_332 0 6 rfl rfl wc_0 rfl rfl (Nat.le_of_ble_eq_true rfl) dX2_mixWindows_26 ⟨Nat.le_of_ble_eq_true rfl, Nat.le_of_ble_eq_true rfl⟩ ⟨Nat.le_of_ble_eq_true rfl, Nat.le_of_ble_eq_true rfl⟩ ?_
                  refine r_i2l C dX2_mixWindows_29 ?_
                  refine d_S (st := []) hX.stb C hE (C_mix (f := f) (r := r) (kn := kn) (u := z) (v := (((wqF f k t)).toInt64)) hX ) pk_X2_mix qm_X2_257 rfl rfl (Nat.le_of_ble_eq_true rfl) dX2_mixWindows_30 ⟨Nat.le_of_ble_eq_true rfl, Nat.le_of_ble_eq_true rfl⟩ ⟨Nat.le_of_ble_eq_true rfl, Nat.le_of_ble_eq_true rfl⟩ ?_
                  refine r_lstore_n C dX2_mixWindows_33 (by decide) rfl ?_
                  refine r_iincN C dX2_mixWindows_34 rfl (by decide) rfl ?_
                  refine r_goto (tgt := 14) C dX2_mixWindows_37 (by decide) ?_
                  exact ih_L14 (t + 1) _ (by omega) (by rw [← hG]; rfl)
          exact L14 3 0 v (by omega) rfl
    | succ d ih_L5 =>
      intro k v ht hF
      refine r_iload C dX2_mixWindows_5 rfl ?_
      refine r_iconst (v := (nI 4)) C dX2_mixWindows_7 (by decide) ?_
      refine r_icN_ge (a := k) (b := 4) (tgt := 75) C (by first | omega | (simp [up2, *]; done) | (simp [up2, *]; omega) | (simp only [up2_eq]; omega) | (split <;> omega)) (by first | omega | (simp [up2, *]; done) | (simp [up2, *]; omega) | (simp only [up2_eq]; omega) | (split <;> omega)) dX2_mixWindows_8 (by decide) (fun h8_6 => ?_) (fun h8_6 => ?_)
      · first
        | exfalso; first | omega | contradiction
        | skip
          refine r_lload_n C dX2_mixWindows_75 rfl ?_
          exact r_lret C hr dX2_mixWindows_76 ⟨by rw [← hF]; rfl, rfl⟩ (Nat.le_of_ble_eq_true rfl) (Nat.le_of_ble_eq_true rfl)
      · first
        | exfalso; first | omega | contradiction
        | skip
          refine r_iconst (v := (nI 0)) C dX2_mixWindows_11 (by decide) ?_
          refine r_istore C dX2_mixWindows_12 (by decide) rfl ?_
          have L14 : ∀ (d : Nat) (t : Nat) (z : Int64), (hs : t + d = 3) → (hG : mxF (wqF f k) d t z = mxF (wqF f k) 3 0 v) → vC p l e (rmz 7 300) s m args below meth c D A (vx_MQ below (vG (fun v1 w1 => v1 = (some (.long (mwF f r 4 0 u))) ∧ w1 = WC cy a f r kn ++ Y) D vwCl A) (vGX (fun _ => False) D vwCl (WC cy a f r kn ++ Y) A) args s (rmz 7 300).cells (rmz 7 300).slots A) 7 0 0 (WC cy a f r kn ++ Y) [some (.ref (a 0 0)), some (.long u), none, some (.long z), none, some (.int (nI k)), some (.int (nI t))] 14 [] := by
            intro d
            induction d with
            | zero =>
              intro t z hs hG
              refine r_iload C dX2_mixWindows_14 rfl ?_
              refine r_iconst (v := (nI 3)) C dX2_mixWindows_16 (by decide) ?_
              refine r_icN_ge (a := t) (b := 3) (tgt := 40) C (by first | omega | (simp [up2, *]; done) | (simp [up2, *]; omega) | (simp only [up2_eq]; omega) | (split <;> omega)) (by first | omega | (simp [up2, *]; done) | (simp [up2, *]; omega) | (simp only [up2_eq]; omega) | (split <;> omega)) dX2_mixWindows_17 (by decide) (fun h17_7 => ?_) (fun h17_7 => ?_)
              · first
                | exfalso; first | omega | contradiction
                | skip
                  have hz : z = mxF (wqF f k) 3 0 v := by first | exact hG | (exfalso; omega)
                  subst hz
                  have q1 := hC.h5 (4 + k) (by omega)
                  refine r_aload_n C dX2_mixWindows_40 rfl ?_
                  refine s_get C 0 (by decide) qf_X2_11 rfl rfl dX2_mixWindows_41 ?_
                  refine r_iconst (v := (nI 4)) C dX2_mixWindows_44 (by decide) ?_
                  refine r_iload C dX2_mixWindows_45 rfl ?_
                  refine r_iaddN C dX2_mixWindows_47 ?_
                  refine s_parts C (by first | omega | (simp [up2, *]; done) | (simp [up2, *]; omega) | (simp only [up2_eq]; omega) | (split <;> omega)) dX2_mixWindows_48 ?_
                  refine p_getN (v := .int (nI (f 5 (4 + k)))) hX C hE 5 (by first | omega | (simp [up2, *]; done) | (simp [up2, *]; omega) | (simp only [up2_eq]; omega) | (split <;> omega)) (by decide) qn_X2_194 rfl rfl dX2_mixWindows_49 ?_
                  refine r_ifN_eq (a := (f 5 (4 + k))) (tgt := 69) C (by first | omega | (simp [up2, *]; done) | (simp [up2, *]; omega) | (simp only [up2_eq]; omega) | (split <;> omega)) dX2_mixWindows_52 (by decide) (fun h52_8 => ?_) (fun h52_8 => ?_)
                  · first
                    | exfalso; first | omega | contradiction
                    | skip
                      refine r_iincN C dX2_mixWindows_69 rfl (by decide) rfl ?_
                      refine r_goto (tgt := 5) C dX2_mixWindows_72 (by decide) ?_
                      refine r_drop 6 ?_
                      exact ih_L5 (k + 1) _ (by omega) (by rw [← hF]; exact congrArg (mwF f r _ (k + 1)) (by first | exact (if_pos (by assumption)).symm | exact (if_neg (by assumption)).symm))
                  · first
                    | exfalso; first | omega | contradiction
                    | skip
                      have q2 := hC.th (i := 4 + k) (by omega) (by omega)
                      refine r_lload_n C dX2_mixWindows_55 rfl ?_
                      refine r_aload_n C dX2_mixWindows_56 rfl ?_
                      refine s_get C 0 (by decide) qf_X2_11 rfl rfl dX2_mixWindows_57 ?_
                      refine r_iconst (v := (nI 4)) C dX2_mixWindows_60 (by decide) ?_
                      refine r_iload C dX2_mixWindows_61 rfl ?_
                      refine r_iaddN C dX2_mixWindows_63 ?_
                      refine s_parts C (by first | omega | (simp [up2, *]; done) | (simp [up2, *]; omega) | (simp only [up2_eq]; omega) | (split <;> omega)) dX2_mixWindows_64 ?_
                      refine d_S (st := []) hX.stb C hE (C_mixItems (f := f) (r := r) (kn := kn) (i := (4 + k)) (u := (mxF (wqF f k) 3 0 v)) hX (by first | omega | (simp [up2, *]; done) | (simp [up2, *]; omega) | (simp only [up2_eq]; omega) | (split <;> omega)) (by first | omega | (simp [up2, *]; done) | (simp [up2, *]; omega) | (simp only [up2_eq]; omega) | (split <;> omega)) (by first | omega | (simp [up2, *]; done) | (simp [up2, *]; omega) | (simp only [up2_eq]; omega) | (split <;> omega))) pk_X2_mixItems qm_X2_323 rfl rfl (Nat.le_of_ble_eq_true rfl) dX2_mixWindows_65 ⟨Nat.le_of_ble_eq_true rfl, Nat.le_of_ble_eq_true rfl⟩ ⟨Nat.le_of_ble_eq_true rfl, Nat.le_of_ble_eq_true rfl⟩ ?_
                      refine r_lstore_n C dX2_mixWindows_68 (by decide) rfl ?_
                      refine r_iincN C dX2_mixWindows_69 rfl (by decide) rfl ?_
                      refine r_goto (tgt := 5) C dX2_mixWindows_72 (by decide) ?_
                      refine r_drop 6 ?_
                      exact ih_L5 (k + 1) _ (by omega) (by rw [← hF]; exact congrArg (mwF f r _ (k + 1)) (by first | exact (if_pos (by assumption)).symm | exact (if_neg (by assumption)).symm))
              · first
                | exfalso; first | omega | contradiction
                | skip
                  refine r_lload_n C dX2_mixWindows_20 rfl ?_
                  refine r_aload_n C dX2_mixWindows_21 rfl ?_
                  refine r_iload C dX2_mixWindows_22 rfl ?_
                  refine r_iload C dX2_mixWindows_24 rfl ?_
                  refine d_V (st := [.long z]) hX.stb C hE (C_ofWindow_all (f := f) (r := r) (kn := kn) (k0 := k) (q0 := t) hX (by first | omega | (simp [up2, *]; done) | (simp [up2, *]; omega) | (simp only [up2_eq]; omega) | (split <;> omega)) (by first | omega | (simp [up2, *]; done) | (simp [up2, *]; omega) | (simp only [up2_eq]; omega) | (split <;> omega)) (by first | omega | (simp [up2, *]; done) | (simp [up2, *]; omega) | (simp only [up2_eq]; omega) | (split <;> omega))) pk_X2_ofWindow qm_X2_332 0 6 rfl rfl wc_0 rfl rfl (Nat.le_of_ble_eq_true rfl) dX2_mixWindows_26 ⟨Nat.le_of_ble_eq_true rfl, Nat.le_of_ble_eq_true rfl⟩ ⟨Nat.le_of_ble_eq_true rfl, Nat.le_of_ble_eq_true rfl⟩ ?_
                  refine r_i2l C dX2_mixWindows_29 ?_
                  refine d_S (st := []) hX.stb C hE (C_mix (f := f) (r := r) (kn := kn) (u := z) (v := (((wqF f k t)).toInt64)) hX ) pk_X2_mix qm_X2_257 rfl rfl (Nat.le_of_ble_eq_true rfl) dX2_mixWindows_30 ⟨Nat.le_of_ble_eq_true rfl, Nat.le_of_ble_eq_true rfl⟩ ⟨Nat.le_of_ble_eq_true rfl, Nat.le_of_ble_eq_true rfl⟩ ?_
                  refine r_lstore_n C dX2_mixWindows_33 (by decide) rfl ?_
                  refine r_iincN C dX2_mixWindows_34 rfl (by decide) rfl ?_
                  refine r_goto (tgt := 14) C dX2_mixWindows_37 (by decide) ?_
                  exact (Nat.not_lt_zero _ (by omega)).elim
            | succ d ih_L14 =>
              intro t z hs hG
              refine r_iload C dX2_mixWindows_14 rfl ?_
              refine r_iconst (v := (nI 3)) C dX2_mixWindows_16 (by decide) ?_
              refine r_icN_ge (a := t) (b := 3) (tgt := 40) C (by first | omega | (simp [up2, *]; done) | (simp [up2, *]; omega) | (simp only [up2_eq]; omega) | (split <;> omega)) (by first | omega | (simp [up2, *]; done) | (simp [up2, *]; omega) | (simp only [up2_eq]; omega) | (split <;> omega)) dX2_mixWindows_17 (by decide) (fun h17_9 => ?_) (fun h17_9 => ?_)
              · first
                | exfalso; first | omega | contradiction
                | skip
                  have hz : z = mxF (wqF f k) 3 0 v := by first | exact hG | (exfalso; omega)
                  subst hz
                  have q1 := hC.h5 (4 + k) (by omega)
                  refine r_aload_n C dX2_mixWindows_40 rfl ?_
                  refine s_get C 0 (by decide) qf_X2_11 rfl rfl dX2_mixWindows_41 ?_
                  refine r_iconst (v := (nI 4)) C dX2_mixWindows_44 (by decide) ?_
                  refine r_iload C dX2_mixWindows_45 rfl ?_
                  refine r_iaddN C dX2_mixWindows_47 ?_
                  refine s_parts C (by first | omega | (simp [up2, *]; done) | (simp [up2, *]; omega) | (simp only [up2_eq]; omega) | (split <;> omega)) dX2_mixWindows_48 ?_
                  refine p_getN (v := .int (nI (f 5 (4 + k)))) hX C hE 5 (by first | omega | (simp [up2, *]; done) | (simp [up2, *]; omega) | (simp only [up2_eq]; omega) | (split <;> omega)) (by decide) qn_X2_194 rfl rfl dX2_mixWindows_49 ?_
                  refine r_ifN_eq (a := (f 5 (4 + k))) (tgt := 69) C (by first | omega | (simp [up2, *]; done) | (simp [up2, *]; omega) | (simp only [up2_eq]; omega) | (split <;> omega)) dX2_mixWindows_52 (by decide) (fun h52_10 => ?_) (fun h52_10 => ?_)
                  · first
                    | exfalso; first | omega | contradiction
                    | skip
                      refine r_iincN C dX2_mixWindows_69 rfl (by decide) rfl ?_
                      refine r_goto (tgt := 5) C dX2_mixWindows_72 (by decide) ?_
                      refine r_drop 6 ?_
                      exact ih_L5 (k + 1) _ (by omega) (by rw [← hF]; exact congrArg (mwF f r _ (k + 1)) (by first | exact (if_pos (by assumption)).symm | exact (if_neg (by assumption)).symm))
                  · first
                    | exfalso; first | omega | contradiction
                    | skip
                      have q2 := hC.th (i := 4 + k) (by omega) (by omega)
                      refine r_lload_n C dX2_mixWindows_55 rfl ?_
                      refine r_aload_n C dX2_mixWindows_56 rfl ?_
                      refine s_get C 0 (by decide) qf_X2_11 rfl rfl dX2_mixWindows_57 ?_
                      refine r_iconst (v := (nI 4)) C dX2_mixWindows_60 (by decide) ?_
                      refine r_iload C dX2_mixWindows_61 rfl ?_
                      refine r_iaddN C dX2_mixWindows_63 ?_
                      refine s_parts C (by first | omega | (simp [up2, *]; done) | (simp [up2, *]; omega) | (simp only [up2_eq]; omega) | (split <;> omega)) dX2_mixWindows_64 ?_
                      refine d_S (st := []) hX.stb C hE (C_mixItems (f := f) (r := r) (kn := kn) (i := (4 + k)) (u := (mxF (wqF f k) 3 0 v)) hX (by first | omega | (simp [up2, *]; done) | (simp [up2, *]; omega) | (simp only [up2_eq]; omega) | (split <;> omega)) (by first | omega | (simp [up2, *]; done) | (simp [up2, *]; omega) | (simp only [up2_eq]; omega) | (split <;> omega)) (by first | omega | (simp [up2, *]; done) | (simp [up2, *]; omega) | (simp only [up2_eq]; omega) | (split <;> omega))) pk_X2_mixItems qm_X2_323 rfl rfl (Nat.le_of_ble_eq_true rfl) dX2_mixWindows_65 ⟨Nat.le_of_ble_eq_true rfl, Nat.le_of_ble_eq_true rfl⟩ ⟨Nat.le_of_ble_eq_true rfl, Nat.le_of_ble_eq_true rfl⟩ ?_
                      refine r_lstore_n C dX2_mixWindows_68 (by decide) rfl ?_
                      refine r_iincN C dX2_mixWindows_69 rfl (by decide) rfl ?_
                      refine r_goto (tgt := 5) C dX2_mixWindows_72 (by decide) ?_
                      refine r_drop 6 ?_
                      exact ih_L5 (k + 1) _ (by omega) (by rw [← hF]; exact congrArg (mwF f r _ (k + 1)) (by first | exact (if_pos (by assumption)).symm | exact (if_neg (by assumption)).symm))
              · first
                | exfalso; first | omega | contradiction
                | skip
                  refine r_lload_n C dX2_mixWindows_20 rfl ?_
                  refine r_aload_n C dX2_mixWindows_21 rfl ?_
                  refine r_iload C dX2_mixWindows_22 rfl ?_
                  refine r_iload C dX2_mixWindows_24 rfl ?_
                  refine d_V (st := [.long z]) hX.stb C hE (C_ofWindow_all (f := f) (r := r) (kn := kn) (k0 := k) (q0 := t) hX (by first | omega | (simp [up2, *]; done) | (simp [up2, *]; omega) | (simp only [up2_eq]; omega) | (split <;> omega)) (by first | omega | (simp [up2, *]; done) | (simp [up2, *]; omega) | (simp only [up2_eq]; omega) | (split <;> omega)) (by first | omega | (simp [up2, *]; done) | (simp [up2, *]; omega) | (simp only [up2_eq]; omega) | (split <;> omega))) pk_X2_ofWindow qm_X2_332 0 6 rfl rfl wc_0 rfl rfl (Nat.le_of_ble_eq_true rfl) dX2_mixWindows_26 ⟨Nat.le_of_ble_eq_true rfl, Nat.le_of_ble_eq_true rfl⟩ ⟨Nat.le_of_ble_eq_true rfl, Nat.le_of_ble_eq_true rfl⟩ ?_
                  refine r_i2l C dX2_mixWindows_29 ?_
                  refine d_S (st := []) hX.stb C hE (C_mix (f := f) (r := r) (kn := kn) (u := z) (v := (((wqF f k t)).toInt64)) hX ) pk_X2_mix qm_X2_257 rfl rfl (Nat.le_of_ble_eq_true rfl) dX2_mixWindows_30 ⟨Nat.le_of_ble_eq_true rfl, Nat.le_of_ble_eq_true rfl⟩ ⟨Nat.le_of_ble_eq_true rfl, Nat.le_of_ble_eq_true rfl⟩ ?_
                  refine r_lstore_n C dX2_mixWindows_33 (by decide) rfl ?_
                  refine r_iincN C dX2_mixWindows_34 rfl (by decide) rfl ?_
                  refine r_goto (tgt := 14) C dX2_mixWindows_37 (by decide) ?_
                  exact ih_L14 (t + 1) _ (by omega) (by rw [← hG]; rfl)
          exact L14 3 0 v (by omega) rfl
  exact L5 4 0 u (by omega) rfl
end PT_21
/-! ===== 22.sound -/
section PT_22
/-! CONTRACTS of the class: whether it is sound -/
theorem stF_all {g h : Nat → Int32} : ∀ d k, (∀ q, k ≤ q → q < k + d → g q = h q) → stF g h d k = 1
  | 0, k, _ => rfl
  | d + 1, k, e => by
    unfold stF
    rw [if_pos (e k (Nat.le_refl k) (by omega))]
    exact stF_all d (k + 1) (fun q a b => e q (by omega) (by omega))
theorem hsF_same {g h : Nat → Int32} : ∀ d k z, (∀ q, k ≤ q → q < k + d → g q = h q) → hsF g d k z = hsF h d k z
  | 0, k, z, _ => rfl
  | d + 1, k, z, e => by
    unfold hsF
    rw [e k (Nat.le_refl k) (by omega)]
    exact hsF_same d (k + 1) _ (fun q a b => e q (by omega) (by omega))
theorem revS_two (r : Nat → Nat → Int32) (j lo hi : Nat) : revS (revS r j lo hi) j lo hi = r := by
  funext j' k
  unfold revS
  by_cases h : j' = j ∧ lo ≤ k ∧ k < hi
  · rw [if_pos h, if_pos ⟨rfl, by omega, by omega⟩, h.1, show lo + hi - 1 - (lo + hi - 1 - k) = k by omega]
  · rw [if_neg h, if_neg h]
theorem C_isLike_yes {l : Launch} {D : va_G} {cy : Nat → ClassId} {X : (Nat → Prop) → State → Heap → Prop} {a f : Nat → Nat → Nat} {r : Nat → Nat → Int32} {kn : Int32} {Y : va_W} {i j : Nat} (hX : EnvX X) (hi : i < 11) (hj : j < 11) (h0 : f 0 i < 7) (h0j : f 0 j < 7) (h4 : f 3 i + f 4 i ≤ 12) (h4j : f 3 j + f 4 j ≤ 12) (hlen : f 4 i = f 4 j) (hall : ∀ q, q < f 4 j → r (f 0 i) (f 3 i + q) = r (f 0 j) (f 3 j + q)) : Cd l D cy X yX1_isLike cX1_isLike 2 (some .boolean) (rmz 2 60) [.ref (a 1 i), .ref (a 1 j)] (WC cy a f r kn ++ Y) (some (.int (nI 1))) (WC cy a f r kn ++ Y) := by
  have hs : stF (fun q => r (f 0 i) (f 3 i + (0 + q))) (fun q => r (f 0 j) (f 3 j + q)) (f 4 j) 0 = 1 := stF_all _ _ (fun q _ b => by
    show r (f 0 i) (f 3 i + (0 + q)) = r (f 0 j) (f 3 j + q)
    rw [Nat.zero_add]
    exact hall q (by omega))
  have hh := C_isLike (l := l) (D := D) (cy := cy) (X := X) (a := a) (f := f) (r := r) (kn := kn) (Y := Y) hX hi hj h0 h0j h4 h4j
  rw [if_pos ⟨hlen, by omega⟩] at hh
  exact hh
theorem lk_cp {f : Nat → Nat → Nat} {r : Nat → Nat → Int32} {i j : Nat} (h : f 0 i ≠ f 0 j) (hij : i ≠ j) : ∀ q, q < up2 f 4 j (f 4 i) 4 i → cpy2 r (f 0 i) (f 3 i) (f 0 j) (f 3 j) (f 4 i) (f 0 j) (f 3 j + q) = cpy2 r (f 0 i) (f 3 i) (f 0 j) (f 3 j) (f 4 i) (f 0 i) (f 3 i + q) := by
  intro q hq
  rw [up2_i _ _ _ _ hij] at hq
  exact (cpy2_at hq).trans (cpy2_off h).symm
theorem hs_lk {g h : Nat → Int32} {m n : Nat} (z : Int32) (e : n = m) (a : ∀ q, q < n → h q = g q) : hsF g n 0 z = hsF h m 0 z := by
  subst e
  exact hsF_same n 0 z (fun q _ b => (a q (by omega)).symm)
theorem scS_at {r : Nat → Nat → Int32} {j lo n q : Nat} {src : Nat → Nat} {g : Nat → Int32} (hq : q < n) : scS r j lo n src g j (lo + q) = g (src q) := by
  unfold scS
  rw [if_pos ⟨rfl, by omega, by omega⟩, Nat.add_sub_cancel_left]
theorem scS_off {r : Nat → Nat → Int32} {j lo n q j' : Nat} {src : Nat → Nat} {g : Nat → Int32} (h : j' ≠ j) : scS r j lo n src g j' q = r j' q := by
  unfold scS
  rw [if_neg (fun z => h z.1)]
theorem lay_unl2 {n q : Nat} (hq : q < n) : layN n (unlN n q) = q := by
  unfold layN unlN
  by_cases h : q < (n + 1) / 2
  · rw [if_pos h, if_pos (by omega)]
    omega
  · rw [if_neg h, if_neg (by omega)]
    omega
theorem lay_two (R : Nat → Nat → Int32) {j d s ds n q : Nat} (hq : q < n) : scS (cpy2 (scS (cpy2 R j d s ds n) j d n (fun t => t) (fun q => R j (d + layN n q))) j d s ds n) j d n (unlN n) (fun q => (scS (cpy2 R j d s ds n) j d n (fun t => t) (fun q => R j (d + layN n q))) j (d + q)) j (d + q) = R j (d + q) :=
  (scS_at hq).trans ((scS_at (unlN_lt hq)).trans (by rw [lay_unl2 hq]))
theorem lay_off (R : Nat → Nat → Int32) {a j d s ds n k : Nat} (h1 : a ≠ j) (h2 : a ≠ s) : scS (cpy2 (scS (cpy2 R j d s ds n) j d n (fun t => t) (fun q => R j (d + layN n q))) j d s ds n) j d n (unlN n) (fun q => (scS (cpy2 R j d s ds n) j d n (fun t => t) (fun q => R j (d + layN n q))) j (d + q)) a k = R a k :=
  (scS_off h1).trans ((cpy2_off h2).trans ((scS_off h1).trans (cpy2_off h2)))
theorem dX2_isTurnSound_0 : decode cX2_isTurnSound 0 = .ok (.aload_n 0, 1) := dqo_42 (kb_of ke_X2_isTurnSound 0 rfl)
theorem dX2_isTurnSound_1 : decode cX2_isTurnSound 1 = .ok (.getfield 33, 3) := dqo_180 0 33 (kb_of ke_X2_isTurnSound 1 rfl) (kb_of ke_X2_isTurnSound 2 rfl) (kb_of ke_X2_isTurnSound 3 rfl)
theorem dX2_isTurnSound_4 : decode cX2_isTurnSound 4 = .ok (.aload_n 1, 1) := dqo_43 (kb_of ke_X2_isTurnSound 4 rfl)
theorem dX2_isTurnSound_5 : decode cX2_isTurnSound 5 = .ok (.invokevirtual 79, 3) := dqo_182 0 79 (kb_of ke_X2_isTurnSound 5 rfl) (kb_of ke_X2_isTurnSound 6 rfl) (kb_of ke_X2_isTurnSound 7 rfl)
theorem dX2_isTurnSound_8 : decode cX2_isTurnSound 8 = .ok (.aload_n 0, 1) := dqo_42 (kb_of ke_X2_isTurnSound 8 rfl)
theorem dX2_isTurnSound_9 : decode cX2_isTurnSound 9 = .ok (.getfield 33, 3) := dqo_180 0 33 (kb_of ke_X2_isTurnSound 9 rfl) (kb_of ke_X2_isTurnSound 10 rfl) (kb_of ke_X2_isTurnSound 11 rfl)
theorem dX2_isTurnSound_12 : decode cX2_isTurnSound 12 = .ok (.iconst 0, 1) := dqo_3 (kb_of ke_X2_isTurnSound 12 rfl)
theorem dX2_isTurnSound_13 : decode cX2_isTurnSound 13 = .ok (.aload_n 1, 1) := dqo_43 (kb_of ke_X2_isTurnSound 13 rfl)
theorem dX2_isTurnSound_14 : decode cX2_isTurnSound 14 = .ok (.getfield 50, 3) := dqo_180 0 50 (kb_of ke_X2_isTurnSound 14 rfl) (kb_of ke_X2_isTurnSound 15 rfl) (kb_of ke_X2_isTurnSound 16 rfl)
theorem dX2_isTurnSound_17 : decode cX2_isTurnSound 17 = .ok (.invokevirtual 105, 3) := dqo_182 0 105 (kb_of ke_X2_isTurnSound 17 rfl) (kb_of ke_X2_isTurnSound 18 rfl) (kb_of ke_X2_isTurnSound 19 rfl)
theorem dX2_isTurnSound_20 : decode cX2_isTurnSound 20 = .ok (.aload_n 0, 1) := dqo_42 (kb_of ke_X2_isTurnSound 20 rfl)
theorem dX2_isTurnSound_21 : decode cX2_isTurnSound 21 = .ok (.getfield 33, 3) := dqo_180 0 33 (kb_of ke_X2_isTurnSound 21 rfl) (kb_of ke_X2_isTurnSound 22 rfl) (kb_of ke_X2_isTurnSound 23 rfl)
theorem dX2_isTurnSound_24 : decode cX2_isTurnSound 24 = .ok (.iconst 0, 1) := dqo_3 (kb_of ke_X2_isTurnSound 24 rfl)
theorem dX2_isTurnSound_25 : decode cX2_isTurnSound 25 = .ok (.aload_n 1, 1) := dqo_43 (kb_of ke_X2_isTurnSound 25 rfl)
theorem dX2_isTurnSound_26 : decode cX2_isTurnSound 26 = .ok (.getfield 50, 3) := dqo_180 0 50 (kb_of ke_X2_isTurnSound 26 rfl) (kb_of ke_X2_isTurnSound 27 rfl) (kb_of ke_X2_isTurnSound 28 rfl)
theorem dX2_isTurnSound_29 : decode cX2_isTurnSound 29 = .ok (.invokevirtual 105, 3) := dqo_182 0 105 (kb_of ke_X2_isTurnSound 29 rfl) (kb_of ke_X2_isTurnSound 30 rfl) (kb_of ke_X2_isTurnSound 31 rfl)
theorem dX2_isTurnSound_32 : decode cX2_isTurnSound 32 = .ok (.aload_n 0, 1) := dqo_42 (kb_of ke_X2_isTurnSound 32 rfl)
theorem dX2_isTurnSound_33 : decode cX2_isTurnSound 33 = .ok (.getfield 33, 3) := dqo_180 0 33 (kb_of ke_X2_isTurnSound 33 rfl) (kb_of ke_X2_isTurnSound 34 rfl) (kb_of ke_X2_isTurnSound 35 rfl)
theorem dX2_isTurnSound_36 : decode cX2_isTurnSound 36 = .ok (.aload_n 1, 1) := dqo_43 (kb_of ke_X2_isTurnSound 36 rfl)
theorem dX2_isTurnSound_37 : decode cX2_isTurnSound 37 = .ok (.invokevirtual 161, 3) := dqo_182 0 161 (kb_of ke_X2_isTurnSound 37 rfl) (kb_of ke_X2_isTurnSound 38 rfl) (kb_of ke_X2_isTurnSound 39 rfl)
theorem dX2_isTurnSound_40 : decode cX2_isTurnSound 40 = .ok (.ifCond .eq 21, 3) := dqo_153 0 21 (by decide) (kb_of ke_X2_isTurnSound 40 rfl) (kb_of ke_X2_isTurnSound 41 rfl) (kb_of ke_X2_isTurnSound 42 rfl)
theorem dX2_isTurnSound_43 : decode cX2_isTurnSound 43 = .ok (.aload_n 0, 1) := dqo_42 (kb_of ke_X2_isTurnSound 43 rfl)
theorem dX2_isTurnSound_44 : decode cX2_isTurnSound 44 = .ok (.getfield 33, 3) := dqo_180 0 33 (kb_of ke_X2_isTurnSound 44 rfl) (kb_of ke_X2_isTurnSound 45 rfl) (kb_of ke_X2_isTurnSound 46 rfl)
theorem dX2_isTurnSound_47 : decode cX2_isTurnSound 47 = .ok (.invokevirtual 165, 3) := dqo_182 0 165 (kb_of ke_X2_isTurnSound 47 rfl) (kb_of ke_X2_isTurnSound 48 rfl) (kb_of ke_X2_isTurnSound 49 rfl)
theorem dX2_isTurnSound_50 : decode cX2_isTurnSound 50 = .ok (.aload_n 1, 1) := dqo_43 (kb_of ke_X2_isTurnSound 50 rfl)
theorem dX2_isTurnSound_51 : decode cX2_isTurnSound 51 = .ok (.invokevirtual 165, 3) := dqo_182 0 165 (kb_of ke_X2_isTurnSound 51 rfl) (kb_of ke_X2_isTurnSound 52 rfl) (kb_of ke_X2_isTurnSound 53 rfl)
theorem dX2_isTurnSound_54 : decode cX2_isTurnSound 54 = .ok (.if_icmp .ne 7, 3) := dqo_160 0 7 (by decide) (kb_of ke_X2_isTurnSound 54 rfl) (kb_of ke_X2_isTurnSound 55 rfl) (kb_of ke_X2_isTurnSound 56 rfl)
theorem dX2_isTurnSound_57 : decode cX2_isTurnSound 57 = .ok (.iconst 1, 1) := dqo_4 (kb_of ke_X2_isTurnSound 57 rfl)
theorem dX2_isTurnSound_58 : decode cX2_isTurnSound 58 = .ok (.goto 4, 3) := dqo_167 0 4 (by decide) (kb_of ke_X2_isTurnSound 58 rfl) (kb_of ke_X2_isTurnSound 59 rfl) (kb_of ke_X2_isTurnSound 60 rfl)
theorem dX2_isTurnSound_62 : decode cX2_isTurnSound 62 = .ok (.ireturn, 1) := dqo_172 (kb_of ke_X2_isTurnSound 62 rfl)
set_option maxRecDepth 100000 in
set_option maxHeartbeats 4000000 in
theorem C_isTurnSound_ok {l : Launch} {D : va_G} {cy : Nat → ClassId} {X : (Nat → Prop) → State → Heap → Prop} {a f : Nat → Nat → Nat} {r : Nat → Nat → Int32} {kn : Int32} {Y : va_W} {i : Nat} (hX : EnvX X) (hC : CInv f) (hi4 : i < 4) (hz : 0 < f 4 i) : Cd l D cy X yX2_isTurnSound cX2_isTurnSound 2 (some .boolean) (rmz 4 200) [.ref (a 0 0), .ref (a 1 i)] (WC cy a f r kn ++ Y) (some (.int (nI 1))) (WC cy a (up2 f 4 9 (f 4 i)) (cpy2 r (f 0 i) (f 3 i) (f 0 9) (f 3 9) (f 4 i)) kn ++ Y) := by
  have q3 := hC.sp
  have sp := hC.sp
  have q1 := hC.rw hi4
  obtain ⟨sp0, sp1, sp2, sp3, sp4, sp5, sp6, sp7, sp8⟩ := sp
  obtain ⟨q2, q3, q4, q5, q6, q7⟩ := q1
  refine Cm.of [some (.ref (a 0 0)), some (.ref (a 1 i))] pn_X2 rfl (Nat.le_of_ble_eq_true rfl) ?_
  intro p e s m args below meth c A C hE hr hnt hn
  refine r_aload_n C dX2_isTurnSound_0 rfl ?_
  refine s_get C 3 (by decide) qf_X2_33 rfl rfl dX2_isTurnSound_1 ?_
  refine r_aload_n C dX2_isTurnSound_4 rfl ?_
  refine d_Vv (st := []) hX.stb C hE (C_becomeLike (f := f) (r := r) (kn := kn) (i := 9) (j := i) hX (by first | omega | (simp [up2, *]; done) | (simp [up2, *]; omega) | (simp only [up2_eq]; omega) | (split <;> omega)) (by first | omega | (simp [up2, *]; done) | (simp [up2, *]; omega) | (simp only [up2_eq]; omega) | (split <;> omega)) (by first | omega | (simp [up2, *]; done) | (simp [up2, *]; omega) | (simp only [up2_eq]; omega) | (split <;> omega)) (by first | omega | (simp [up2, *]; done) | (simp [up2, *]; omega) | (simp only [up2_eq]; omega) | (split <;> omega)) (by first | omega | (simp [up2, *]; done) | (simp [up2, *]; omega) | (simp only [up2_eq]; omega) | (split <;> omega)) (by first | omega | (simp [up2, *]; done) | (simp [up2, *]; omega) | (simp only [up2_eq]; omega) | (split <;> omega))) pk_X1_becomeLike qm_X2_79 (3 + 9) 5 rfl rfl (wc_p (by first | omega | (simp [up2, *]; done) | (simp [up2, *]; omega) | (simp only [up2_eq]; omega) | (split <;> omega))) rfl rfl (Nat.le_of_ble_eq_true rfl) dX2_isTurnSound_5 ⟨Nat.le_of_ble_eq_true rfl, Nat.le_of_ble_eq_true rfl⟩ ⟨Nat.le_of_ble_eq_true rfl, Nat.le_of_ble_eq_true rfl⟩ ?_
  refine r_aload_n C dX2_isTurnSound_8 rfl ?_
  refine s_get C 3 (by decide) qf_X2_33 rfl rfl dX2_isTurnSound_9 ?_
  refine r_iconst (v := (nI 0)) C dX2_isTurnSound_12 (by decide) ?_
  refine r_aload_n C dX2_isTurnSound_13 rfl ?_
  refine p_getN (v := .int (nI ((up2 f 4 9 (f 4 i)) 4 i))) hX C hE 4 (by first | omega | (simp [up2, *]; done) | (simp [up2, *]; omega) | (simp only [up2_eq]; omega) | (split <;> omega)) (by decide) qn_X2_50 rfl rfl dX2_isTurnSound_14 ?_
  refine r_eqi (show nI (up2 f 4 9 (f 4 i) 4 i) = nI (f 4 i) from congrArg nI (up2_i _ _ _ _ (by omega))) ?_
  refine d_Vv (st := []) hX.stb C hE (C_turn (f := (up2 f 4 9 (f 4 i))) (r := (cpy2 r (f 0 i) (f 3 i) (f 0 9) (f 3 9) (f 4 i))) (kn := kn) (i := 9) (p0 := 0) (q0 := (f 4 i)) hX (by first | omega | (simp [up2, *]; done) | (simp [up2, *]; omega) | (simp only [up2_eq]; omega) | (split <;> omega)) (by first | omega | (simp [up2, *]; done) | (simp [up2, *]; omega) | (simp only [up2_eq]; omega) | (split <;> omega)) (by first | omega | (simp [up2, *]; done) | (simp [up2, *]; omega) | (simp only [up2_eq]; omega) | (split <;> omega)) (by first | omega | (simp [up2, *]; done) | (simp [up2, *]; omega) | (simp only [up2_eq]; omega) | (split <;> omega)) (by first | omega | (simp [up2, *]; done) | (simp [up2, *]; omega) | (simp only [up2_eq]; omega) | (split <;> omega))) pk_X1_turn qm_X2_105 (3 + 9) 5 rfl rfl (wc_p (by first | omega | (simp [up2, *]; done) | (simp [up2, *]; omega) | (simp only [up2_eq]; omega) | (split <;> omega))) rfl rfl (Nat.le_of_ble_eq_true rfl) dX2_isTurnSound_17 ⟨Nat.le_of_ble_eq_true rfl, Nat.le_of_ble_eq_true rfl⟩ ⟨Nat.le_of_ble_eq_true rfl, Nat.le_of_ble_eq_true rfl⟩ ?_
  refine r_aload_n C dX2_isTurnSound_20 rfl ?_
  refine s_get C 3 (by decide) qf_X2_33 rfl rfl dX2_isTurnSound_21 ?_
  refine r_iconst (v := (nI 0)) C dX2_isTurnSound_24 (by decide) ?_
  refine r_aload_n C dX2_isTurnSound_25 rfl ?_
  refine p_getN (v := .int (nI ((up2 f 4 9 (f 4 i)) 4 i))) hX C hE 4 (by first | omega | (simp [up2, *]; done) | (simp [up2, *]; omega) | (simp only [up2_eq]; omega) | (split <;> omega)) (by decide) qn_X2_50 rfl rfl dX2_isTurnSound_26 ?_
  refine r_eqi (show nI (up2 f 4 9 (f 4 i) 4 i) = nI (f 4 i) from congrArg nI (up2_i _ _ _ _ (by omega))) ?_
  refine d_Vv (st := []) hX.stb C hE (C_turn (f := (up2 f 4 9 (f 4 i))) (r := (revS (cpy2 r (f 0 i) (f 3 i) (f 0 9) (f 3 9) (f 4 i)) (f 0 9) (f 3 9 + 0) (f 3 9 + (f 4 i)))) (kn := kn) (i := 9) (p0 := 0) (q0 := (f 4 i)) hX (by first | omega | (simp [up2, *]; done) | (simp [up2, *]; omega) | (simp only [up2_eq]; omega) | (split <;> omega)) (by first | omega | (simp [up2, *]; done) | (simp [up2, *]; omega) | (simp only [up2_eq]; omega) | (split <;> omega)) (by first | omega | (simp [up2, *]; done) | (simp [up2, *]; omega) | (simp only [up2_eq]; omega) | (split <;> omega)) (by first | omega | (simp [up2, *]; done) | (simp [up2, *]; omega) | (simp only [up2_eq]; omega) | (split <;> omega)) (by first | omega | (simp [up2, *]; done) | (simp [up2, *]; omega) | (simp only [up2_eq]; omega) | (split <;> omega))) pk_X1_turn qm_X2_105 (3 + 9) 5 rfl rfl (wc_p (by first | omega | (simp [up2, *]; done) | (simp [up2, *]; omega) | (simp only [up2_eq]; omega) | (split <;> omega))) rfl rfl (Nat.le_of_ble_eq_true rfl) dX2_isTurnSound_29 ⟨Nat.le_of_ble_eq_true rfl, Nat.le_of_ble_eq_true rfl⟩ ⟨Nat.le_of_ble_eq_true rfl, Nat.le_of_ble_eq_true rfl⟩ ?_
  refine r_w (congrArg (fun z => WC cy a (up2 f 4 9 (f 4 i)) z kn ++ Y) (revS_two _ _ _ _)) ?_
  refine r_aload_n C dX2_isTurnSound_32 rfl ?_
  refine s_get C 3 (by decide) qf_X2_33 rfl rfl dX2_isTurnSound_33 ?_
  refine r_aload_n C dX2_isTurnSound_36 rfl ?_
  refine d_V (st := []) hX.stb C hE (C_isLike_yes (f := (up2 f 4 9 (f 4 i))) (r := (cpy2 r (f 0 i) (f 3 i) (f 0 9) (f 3 9) (f 4 i))) (kn := kn) (i := 9) (j := i) hX (by first | omega | (simp [up2, *]; done) | (simp [up2, *]; omega) | (simp only [up2_eq]; omega) | (split <;> omega)) (by first | omega | (simp [up2, *]; done) | (simp [up2, *]; omega) | (simp only [up2_eq]; omega) | (split <;> omega)) (by first | omega | (simp [up2, *]; done) | (simp [up2, *]; omega) | (simp only [up2_eq]; omega) | (split <;> omega)) (by first | omega | (simp [up2, *]; done) | (simp [up2, *]; omega) | (simp only [up2_eq]; omega) | (split <;> omega)) (by first | omega | (simp [up2, *]; done) | (simp [up2, *]; omega) | (simp only [up2_eq]; omega) | (split <;> omega)) (by first | omega | (simp [up2, *]; done) | (simp [up2, *]; omega) | (simp only [up2_eq]; omega) | (split <;> omega)) (by rw [up2_eq, up2_i _ _ _ _ (by omega)]) (lk_cp (by omega) (by omega))) pk_X1_isLike qm_X2_161 (3 + 9) 5 rfl rfl (wc_p (by first | omega | (simp [up2, *]; done) | (simp [up2, *]; omega) | (simp only [up2_eq]; omega) | (split <;> omega))) rfl rfl (Nat.le_of_ble_eq_true rfl) dX2_isTurnSound_37 ⟨Nat.le_of_ble_eq_true rfl, Nat.le_of_ble_eq_true rfl⟩ ⟨Nat.le_of_ble_eq_true rfl, Nat.le_of_ble_eq_true rfl⟩ ?_
  refine r_ifN_eq (a := 1) (tgt := 61) C (by first | omega | (simp [up2, *]; done) | (simp [up2, *]; omega) | (simp only [up2_eq]; omega) | (split <;> omega)) dX2_isTurnSound_40 (by decide) (fun h40_1 => ?_) (fun h40_1 => ?_)
  · exact absurd h40_1 (by first | omega | (simp [up2, *]; done) | (simp [up2, *]; omega) | (simp only [up2_eq]; omega) | (split <;> omega))
  · skip
    refine r_aload_n C dX2_isTurnSound_43 rfl ?_
    refine s_get C 3 (by decide) qf_X2_33 rfl rfl dX2_isTurnSound_44 ?_
    refine d_V (st := []) hX.stb C hE (C_hashOfItems (f := (up2 f 4 9 (f 4 i))) (r := (cpy2 r (f 0 i) (f 3 i) (f 0 9) (f 3 9) (f 4 i))) (kn := kn) (i := 9) hX (by first | omega | (simp [up2, *]; done) | (simp [up2, *]; omega) | (simp only [up2_eq]; omega) | (split <;> omega)) (by first | omega | (simp [up2, *]; done) | (simp [up2, *]; omega) | (simp only [up2_eq]; omega) | (split <;> omega)) (by first | omega | (simp [up2, *]; done) | (simp [up2, *]; omega) | (simp only [up2_eq]; omega) | (split <;> omega))) pk_X1_hashOfItems qm_X2_165 (3 + 9) 5 rfl rfl (wc_p (by first | omega | (simp [up2, *]; done) | (simp [up2, *]; omega) | (simp only [up2_eq]; omega) | (split <;> omega))) rfl rfl (Nat.le_of_ble_eq_true rfl) dX2_isTurnSound_47 ⟨Nat.le_of_ble_eq_true rfl, Nat.le_of_ble_eq_true rfl⟩ ⟨Nat.le_of_ble_eq_true rfl, Nat.le_of_ble_eq_true rfl⟩ ?_
    refine r_aload_n C dX2_isTurnSound_50 rfl ?_
    refine d_V (st := [.int (hsF (fun q => (cpy2 r (f 0 i) (f 3 i) (f 0 9) (f 3 9) (f 4 i)) (f 0 9) (f 3 9 + q)) (f 4 i) 0 (nI 1))]) hX.stb C hE (C_hashOfItems (f := (up2 f 4 9 (f 4 i))) (r := (cpy2 r (f 0 i) (f 3 i) (f 0 9) (f 3 9) (f 4 i))) (kn := kn) (i := i) hX (by first | omega | (simp [up2, *]; done) | (simp [up2, *]; omega) | (simp only [up2_eq]; omega) | (split <;> omega)) (by first | omega | (simp [up2, *]; done) | (simp [up2, *]; omega) | (simp only [up2_eq]; omega) | (split <;> omega)) (by first | omega | (simp [up2, *]; done) | (simp [up2, *]; omega) | (simp only [up2_eq]; omega) | (split <;> omega))) pk_X1_hashOfItems qm_X2_165 (3 + i) 5 rfl rfl (wc_p (by first | omega | (simp [up2, *]; done) | (simp [up2, *]; omega) | (simp only [up2_eq]; omega) | (split <;> omega))) rfl rfl (Nat.le_of_ble_eq_true rfl) dX2_isTurnSound_51 ⟨Nat.le_of_ble_eq_true rfl, Nat.le_of_ble_eq_true rfl⟩ ⟨Nat.le_of_ble_eq_true rfl, Nat.le_of_ble_eq_true rfl⟩ ?_
    refine r_eqi (y := (hsF (fun q => (cpy2 r (f 0 i) (f 3 i) (f 0 9) (f 3 9) (f 4 i)) (f 0 9) (f 3 9 + q)) (f 4 i) 0 (nI 1))) (hs_lk _ (up2_i _ _ _ _ (by omega)) (fun q hq => lk_cp (by omega) (by omega) q hq)) ?_
    refine r_ic_ne (tgt := 61) C dX2_isTurnSound_54 (by decide) (fun h54_2 => ?_) (fun h54_2 => ?_)
    · exact absurd h54_2 (by first | omega | (simp [up2, *]; done) | (simp [up2, *]; omega) | (simp only [up2_eq]; omega) | (split <;> omega))
    · skip
      refine r_iconst (v := (nI 1)) C dX2_isTurnSound_57 (by decide) ?_
      refine r_goto (tgt := 62) C dX2_isTurnSound_58 (by decide) ?_
      exact r_zret C hr (by first | omega | (simp [up2, *]; done) | (simp [up2, *]; omega) | (simp only [up2_eq]; omega) | (split <;> omega)) dX2_isTurnSound_62 ⟨rfl, rfl⟩ (Nat.le_of_ble_eq_true rfl) (Nat.le_of_ble_eq_true rfl)
set_option maxRecDepth 100000 in
set_option maxHeartbeats 4000000 in
theorem C_isTurnSound_0 {l : Launch} {D : va_G} {cy : Nat → ClassId} {X : (Nat → Prop) → State → Heap → Prop} {a f : Nat → Nat → Nat} {r : Nat → Nat → Int32} {kn : Int32} {Y : va_W} {i : Nat} (hX : EnvX X) (hC : CInv f) (hi4 : i < 4) (hz : f 4 i = 0) : Cd l D cy X yX2_isTurnSound cX2_isTurnSound 2 (some .boolean) (rmz 4 200) [.ref (a 0 0), .ref (a 1 i)] (WC cy a f r kn ++ Y) (some (.int (nI 1))) (WC cy a (up2 f 4 9 (f 4 i)) (cpy2 r (f 0 i) (f 3 i) (f 0 9) (f 3 9) (f 4 i)) kn ++ Y) := by
  have q3 := hC.sp
  have sp := hC.sp
  have q1 := hC.rw hi4
  obtain ⟨sp0, sp1, sp2, sp3, sp4, sp5, sp6, sp7, sp8⟩ := sp
  obtain ⟨q2, q3, q4, q5, q6, q7⟩ := q1
  refine Cm.of [some (.ref (a 0 0)), some (.ref (a 1 i))] pn_X2 rfl (Nat.le_of_ble_eq_true rfl) ?_
  intro p e s m args below meth c A C hE hr hnt hn
  refine r_aload_n C dX2_isTurnSound_0 rfl ?_
  refine s_get C 3 (by decide) qf_X2_33 rfl rfl dX2_isTurnSound_1 ?_
  refine r_aload_n C dX2_isTurnSound_4 rfl ?_
  refine d_Vv (st := []) hX.stb C hE (C_becomeLike (f := f) (r := r) (kn := kn) (i := 9) (j := i) hX (by first | omega | (simp [up2, *]; done) | (simp [up2, *]; omega) | (simp only [up2_eq]; omega) | (split <;> omega)) (by first | omega | (simp [up2, *]; done) | (simp [up2, *]; omega) | (simp only [up2_eq]; omega) | (split <;> omega)) (by first | omega | (simp [up2, *]; done) | (simp [up2, *]; omega) | (simp only [up2_eq]; omega) | (split <;> omega)) (by first | omega | (simp [up2, *]; done) | (simp [up2, *]; omega) | (simp only [up2_eq]; omega) | (split <;> omega)) (by first | omega | (simp [up2, *]; done) | (simp [up2, *]; omega) | (simp only [up2_eq]; omega) | (split <;> omega)) (by first | omega | (simp [up2, *]; done) | (simp [up2, *]; omega) | (simp only [up2_eq]; omega) | (split <;> omega))) pk_X1_becomeLike qm_X2_79 (3 + 9) 5 rfl rfl (wc_p (by first | omega | (simp [up2, *]; done) | (simp [up2, *]; omega) | (simp only [up2_eq]; omega) | (split <;> omega))) rfl rfl (Nat.le_of_ble_eq_true rfl) dX2_isTurnSound_5 ⟨Nat.le_of_ble_eq_true rfl, Nat.le_of_ble_eq_true rfl⟩ ⟨Nat.le_of_ble_eq_true rfl, Nat.le_of_ble_eq_true rfl⟩ ?_
  refine r_aload_n C dX2_isTurnSound_8 rfl ?_
  refine s_get C 3 (by decide) qf_X2_33 rfl rfl dX2_isTurnSound_9 ?_
  refine r_iconst (v := (nI 0)) C dX2_isTurnSound_12 (by decide) ?_
  refine r_aload_n C dX2_isTurnSound_13 rfl ?_
  refine p_getN (v := .int (nI ((up2 f 4 9 (f 4 i)) 4 i))) hX C hE 4 (by first | omega | (simp [up2, *]; done) | (simp [up2, *]; omega) | (simp only [up2_eq]; omega) | (split <;> omega)) (by decide) qn_X2_50 rfl rfl dX2_isTurnSound_14 ?_
  refine r_eqi (show nI (up2 f 4 9 (f 4 i) 4 i) = nI 0 from congrArg nI ((up2_i _ _ _ _ (by omega)).trans hz)) ?_
  refine d_Vv (st := []) hX.stb C hE (C_turn0 (f := (up2 f 4 9 (f 4 i))) (r := (cpy2 r (f 0 i) (f 3 i) (f 0 9) (f 3 9) (f 4 i))) (kn := kn) (i := 9) hX (by first | omega | (simp [up2, *]; done) | (simp [up2, *]; omega) | (simp only [up2_eq]; omega) | (split <;> omega))) pk_X1_turn qm_X2_105 (3 + 9) 5 rfl rfl (wc_p (by first | omega | (simp [up2, *]; done) | (simp [up2, *]; omega) | (simp only [up2_eq]; omega) | (split <;> omega))) rfl rfl (Nat.le_of_ble_eq_true rfl) dX2_isTurnSound_17 ⟨Nat.le_of_ble_eq_true rfl, Nat.le_of_ble_eq_true rfl⟩ ⟨Nat.le_of_ble_eq_true rfl, Nat.le_of_ble_eq_true rfl⟩ ?_
  refine r_aload_n C dX2_isTurnSound_20 rfl ?_
  refine s_get C 3 (by decide) qf_X2_33 rfl rfl dX2_isTurnSound_21 ?_
  refine r_iconst (v := (nI 0)) C dX2_isTurnSound_24 (by decide) ?_
  refine r_aload_n C dX2_isTurnSound_25 rfl ?_
  refine p_getN (v := .int (nI ((up2 f 4 9 (f 4 i)) 4 i))) hX C hE 4 (by first | omega | (simp [up2, *]; done) | (simp [up2, *]; omega) | (simp only [up2_eq]; omega) | (split <;> omega)) (by decide) qn_X2_50 rfl rfl dX2_isTurnSound_26 ?_
  refine r_eqi (show nI (up2 f 4 9 (f 4 i) 4 i) = nI 0 from congrArg nI ((up2_i _ _ _ _ (by omega)).trans hz)) ?_
  refine d_Vv (st := []) hX.stb C hE (C_turn0 (f := (up2 f 4 9 (f 4 i))) (r := (cpy2 r (f 0 i) (f 3 i) (f 0 9) (f 3 9) (f 4 i))) (kn := kn) (i := 9) hX (by first | omega | (simp [up2, *]; done) | (simp [up2, *]; omega) | (simp only [up2_eq]; omega) | (split <;> omega))) pk_X1_turn qm_X2_105 (3 + 9) 5 rfl rfl (wc_p (by first | omega | (simp [up2, *]; done) | (simp [up2, *]; omega) | (simp only [up2_eq]; omega) | (split <;> omega))) rfl rfl (Nat.le_of_ble_eq_true rfl) dX2_isTurnSound_29 ⟨Nat.le_of_ble_eq_true rfl, Nat.le_of_ble_eq_true rfl⟩ ⟨Nat.le_of_ble_eq_true rfl, Nat.le_of_ble_eq_true rfl⟩ ?_
  refine r_aload_n C dX2_isTurnSound_32 rfl ?_
  refine s_get C 3 (by decide) qf_X2_33 rfl rfl dX2_isTurnSound_33 ?_
  refine r_aload_n C dX2_isTurnSound_36 rfl ?_
  refine d_V (st := []) hX.stb C hE (C_isLike_yes (f := (up2 f 4 9 (f 4 i))) (r := (cpy2 r (f 0 i) (f 3 i) (f 0 9) (f 3 9) (f 4 i))) (kn := kn) (i := 9) (j := i) hX (by first | omega | (simp [up2, *]; done) | (simp [up2, *]; omega) | (simp only [up2_eq]; omega) | (split <;> omega)) (by first | omega | (simp [up2, *]; done) | (simp [up2, *]; omega) | (simp only [up2_eq]; omega) | (split <;> omega)) (by first | omega | (simp [up2, *]; done) | (simp [up2, *]; omega) | (simp only [up2_eq]; omega) | (split <;> omega)) (by first | omega | (simp [up2, *]; done) | (simp [up2, *]; omega) | (simp only [up2_eq]; omega) | (split <;> omega)) (by first | omega | (simp [up2, *]; done) | (simp [up2, *]; omega) | (simp only [up2_eq]; omega) | (split <;> omega)) (by first | omega | (simp [up2, *]; done) | (simp [up2, *]; omega) | (simp only [up2_eq]; omega) | (split <;> omega)) (by rw [up2_eq, up2_i _ _ _ _ (by omega)]) (lk_cp (by omega) (by omega))) pk_X1_isLike qm_X2_161 (3 + 9) 5 rfl rfl (wc_p (by first | omega | (simp [up2, *]; done) | (simp [up2, *]; omega) | (simp only [up2_eq]; omega) | (split <;> omega))) rfl rfl (Nat.le_of_ble_eq_true rfl) dX2_isTurnSound_37 ⟨Nat.le_of_ble_eq_true rfl, Nat.le_of_ble_eq_true rfl⟩ ⟨Nat.le_of_ble_eq_true rfl, Nat.le_of_ble_eq_true rfl⟩ ?_
  refine r_ifN_eq (a := 1) (tgt := 61) C (by first | omega | (simp [up2, *]; done) | (simp [up2, *]; omega) | (simp only [up2_eq]; omega) | (split <;> omega)) dX2_isTurnSound_40 (by decide) (fun h40_1 => ?_) (fun h40_1 => ?_)
  · exact absurd h40_1 (by first | omega | (simp [up2, *]; done) | (simp [up2, *]; omega) | (simp only [up2_eq]; omega) | (split <;> omega))
  · skip
    refine r_aload_n C dX2_isTurnSound_43 rfl ?_
    refine s_get C 3 (by decide) qf_X2_33 rfl rfl dX2_isTurnSound_44 ?_
    refine d_V (st := []) hX.stb C hE (C_hashOfItems (f := (up2 f 4 9 (f 4 i))) (r := (cpy2 r (f 0 i) (f 3 i) (f 0 9) (f 3 9) (f 4 i))) (kn := kn) (i := 9) hX (by first | omega | (simp [up2, *]; done) | (simp [up2, *]; omega) | (simp only [up2_eq]; omega) | (split <;> omega)) (by first | omega | (simp [up2, *]; done) | (simp [up2, *]; omega) | (simp only [up2_eq]; omega) | (split <;> omega)) (by first | omega | (simp [up2, *]; done) | (simp [up2, *]; omega) | (simp only [up2_eq]; omega) | (split <;> omega))) pk_X1_hashOfItems qm_X2_165 (3 + 9) 5 rfl rfl (wc_p (by first | omega | (simp [up2, *]; done) | (simp [up2, *]; omega) | (simp only [up2_eq]; omega) | (split <;> omega))) rfl rfl (Nat.le_of_ble_eq_true rfl) dX2_isTurnSound_47 ⟨Nat.le_of_ble_eq_true rfl, Nat.le_of_ble_eq_true rfl⟩ ⟨Nat.le_of_ble_eq_true rfl, Nat.le_of_ble_eq_true rfl⟩ ?_
    refine r_aload_n C dX2_isTurnSound_50 rfl ?_
    refine d_V (st := [.int (hsF (fun q => (cpy2 r (f 0 i) (f 3 i) (f 0 9) (f 3 9) (f 4 i)) (f 0 9) (f 3 9 + q)) (f 4 i) 0 (nI 1))]) hX.stb C hE (C_hashOfItems (f := (up2 f 4 9 (f 4 i))) (r := (cpy2 r (f 0 i) (f 3 i) (f 0 9) (f 3 9) (f 4 i))) (kn := kn) (i := i) hX (by first | omega | (simp [up2, *]; done) | (simp [up2, *]; omega) | (simp only [up2_eq]; omega) | (split <;> omega)) (by first | omega | (simp [up2, *]; done) | (simp [up2, *]; omega) | (simp only [up2_eq]; omega) | (split <;> omega)) (by first | omega | (simp [up2, *]; done) | (simp [up2, *]; omega) | (simp only [up2_eq]; omega) | (split <;> omega))) pk_X1_hashOfItems qm_X2_165 (3 + i) 5 rfl rfl (wc_p (by first | omega | (simp [up2, *]; done) | (simp [up2, *]; omega) | (simp only [up2_eq]; omega) | (split <;> omega))) rfl rfl (Nat.le_of_ble_eq_true rfl) dX2_isTurnSound_51 ⟨Nat.le_of_ble_eq_true rfl, Nat.le_of_ble_eq_true rfl⟩ ⟨Nat.le_of_ble_eq_true rfl, Nat.le_of_ble_eq_true rfl⟩ ?_
    refine r_eqi (y := (hsF (fun q => (cpy2 r (f 0 i) (f 3 i) (f 0 9) (f 3 9) (f 4 i)) (f 0 9) (f 3 9 + q)) (f 4 i) 0 (nI 1))) (hs_lk _ (up2_i _ _ _ _ (by omega)) (fun q hq => lk_cp (by omega) (by omega) q hq)) ?_
    refine r_ic_ne (tgt := 61) C dX2_isTurnSound_54 (by decide) (fun h54_2 => ?_) (fun h54_2 => ?_)
    · exact absurd h54_2 (by first | omega | (simp [up2, *]; done) | (simp [up2, *]; omega) | (simp only [up2_eq]; omega) | (split <;> omega))
    · skip
      refine r_iconst (v := (nI 1)) C dX2_isTurnSound_57 (by decide) ?_
      refine r_goto (tgt := 62) C dX2_isTurnSound_58 (by decide) ?_
      exact r_zret C hr (by first | omega | (simp [up2, *]; done) | (simp [up2, *]; omega) | (simp only [up2_eq]; omega) | (split <;> omega)) dX2_isTurnSound_62 ⟨rfl, rfl⟩ (Nat.le_of_ble_eq_true rfl) (Nat.le_of_ble_eq_true rfl)
theorem dX2_isRiffleSound_0 : decode cX2_isRiffleSound 0 = .ok (.aload_n 0, 1) := dqo_42 (kb_of ke_X2_isRiffleSound 0 rfl)
theorem dX2_isRiffleSound_1 : decode cX2_isRiffleSound 1 = .ok (.getfield 33, 3) := dqo_180 0 33 (kb_of ke_X2_isRiffleSound 1 rfl) (kb_of ke_X2_isRiffleSound 2 rfl) (kb_of ke_X2_isRiffleSound 3 rfl)
theorem dX2_isRiffleSound_4 : decode cX2_isRiffleSound 4 = .ok (.aload_n 1, 1) := dqo_43 (kb_of ke_X2_isRiffleSound 4 rfl)
theorem dX2_isRiffleSound_5 : decode cX2_isRiffleSound 5 = .ok (.invokevirtual 79, 3) := dqo_182 0 79 (kb_of ke_X2_isRiffleSound 5 rfl) (kb_of ke_X2_isRiffleSound 6 rfl) (kb_of ke_X2_isRiffleSound 7 rfl)
theorem dX2_isRiffleSound_8 : decode cX2_isRiffleSound 8 = .ok (.aload_n 0, 1) := dqo_42 (kb_of ke_X2_isRiffleSound 8 rfl)
theorem dX2_isRiffleSound_9 : decode cX2_isRiffleSound 9 = .ok (.getfield 33, 3) := dqo_180 0 33 (kb_of ke_X2_isRiffleSound 9 rfl) (kb_of ke_X2_isRiffleSound 10 rfl) (kb_of ke_X2_isRiffleSound 11 rfl)
theorem dX2_isRiffleSound_12 : decode cX2_isRiffleSound 12 = .ok (.aload_n 0, 1) := dqo_42 (kb_of ke_X2_isRiffleSound 12 rfl)
theorem dX2_isRiffleSound_13 : decode cX2_isRiffleSound 13 = .ok (.getfield 29, 3) := dqo_180 0 29 (kb_of ke_X2_isRiffleSound 13 rfl) (kb_of ke_X2_isRiffleSound 14 rfl) (kb_of ke_X2_isRiffleSound 15 rfl)
theorem dX2_isRiffleSound_16 : decode cX2_isRiffleSound 16 = .ok (.invokevirtual 111, 3) := dqo_182 0 111 (kb_of ke_X2_isRiffleSound 16 rfl) (kb_of ke_X2_isRiffleSound 17 rfl) (kb_of ke_X2_isRiffleSound 18 rfl)
theorem dX2_isRiffleSound_19 : decode cX2_isRiffleSound 19 = .ok (.aload_n 0, 1) := dqo_42 (kb_of ke_X2_isRiffleSound 19 rfl)
theorem dX2_isRiffleSound_20 : decode cX2_isRiffleSound 20 = .ok (.getfield 33, 3) := dqo_180 0 33 (kb_of ke_X2_isRiffleSound 20 rfl) (kb_of ke_X2_isRiffleSound 21 rfl) (kb_of ke_X2_isRiffleSound 22 rfl)
theorem dX2_isRiffleSound_23 : decode cX2_isRiffleSound 23 = .ok (.aload_n 0, 1) := dqo_42 (kb_of ke_X2_isRiffleSound 23 rfl)
theorem dX2_isRiffleSound_24 : decode cX2_isRiffleSound 24 = .ok (.getfield 29, 3) := dqo_180 0 29 (kb_of ke_X2_isRiffleSound 24 rfl) (kb_of ke_X2_isRiffleSound 25 rfl) (kb_of ke_X2_isRiffleSound 26 rfl)
theorem dX2_isRiffleSound_27 : decode cX2_isRiffleSound 27 = .ok (.invokevirtual 114, 3) := dqo_182 0 114 (kb_of ke_X2_isRiffleSound 27 rfl) (kb_of ke_X2_isRiffleSound 28 rfl) (kb_of ke_X2_isRiffleSound 29 rfl)
theorem dX2_isRiffleSound_30 : decode cX2_isRiffleSound 30 = .ok (.aload_n 0, 1) := dqo_42 (kb_of ke_X2_isRiffleSound 30 rfl)
theorem dX2_isRiffleSound_31 : decode cX2_isRiffleSound 31 = .ok (.getfield 33, 3) := dqo_180 0 33 (kb_of ke_X2_isRiffleSound 31 rfl) (kb_of ke_X2_isRiffleSound 32 rfl) (kb_of ke_X2_isRiffleSound 33 rfl)
theorem dX2_isRiffleSound_34 : decode cX2_isRiffleSound 34 = .ok (.aload_n 1, 1) := dqo_43 (kb_of ke_X2_isRiffleSound 34 rfl)
theorem dX2_isRiffleSound_35 : decode cX2_isRiffleSound 35 = .ok (.invokevirtual 161, 3) := dqo_182 0 161 (kb_of ke_X2_isRiffleSound 35 rfl) (kb_of ke_X2_isRiffleSound 36 rfl) (kb_of ke_X2_isRiffleSound 37 rfl)
theorem dX2_isRiffleSound_38 : decode cX2_isRiffleSound 38 = .ok (.ireturn, 1) := dqo_172 (kb_of ke_X2_isRiffleSound 38 rfl)
set_option maxRecDepth 100000 in
set_option maxHeartbeats 4000000 in
theorem C_isRiffleSound {l : Launch} {D : va_G} {cy : Nat → ClassId} {X : (Nat → Prop) → State → Heap → Prop} {a f : Nat → Nat → Nat} {r : Nat → Nat → Int32} {kn : Int32} {Y : va_W} {i : Nat} (hX : EnvX X) (hC : CInv f) (hi4 : i < 4) : Cd l D cy X yX2_isRiffleSound cX2_isRiffleSound 2 (some .boolean) (rmz 4 200) [.ref (a 0 0), .ref (a 1 i)] (WC cy a f r kn ++ Y) (some (.int (nI 1))) (WC cy a (up2 (up2 (up2 f 4 9 (f 4 i)) 4 8 (f 4 i)) 4 8 (f 4 i)) (scS (cpy2 (scS (cpy2 (cpy2 r (f 0 i) (f 3 i) (f 0 9) (f 3 9) (f 4 i)) (f 0 9) (f 3 9) (f 0 8) (f 3 8) (f 4 i)) (f 0 9) (f 3 9) (f 4 i) (fun t => t) (fun q => (cpy2 r (f 0 i) (f 3 i) (f 0 9) (f 3 9) (f 4 i)) (f 0 9) (f 3 9 + layN (f 4 i) q))) (f 0 9) (f 3 9) (f 0 8) (f 3 8) (f 4 i)) (f 0 9) (f 3 9) (f 4 i) (unlN (f 4 i)) (fun q => (scS (cpy2 (cpy2 r (f 0 i) (f 3 i) (f 0 9) (f 3 9) (f 4 i)) (f 0 9) (f 3 9) (f 0 8) (f 3 8) (f 4 i)) (f 0 9) (f 3 9) (f 4 i) (fun t => t) (fun q => (cpy2 r (f 0 i) (f 3 i) (f 0 9) (f 3 9) (f 4 i)) (f 0 9) (f 3 9 + layN (f 4 i) q))) (f 0 9) (f 3 9 + q))) kn ++ Y) := by
  have q3 := hC.sp
  have sp := hC.sp
  have q1 := hC.rw hi4
  obtain ⟨sp0, sp1, sp2, sp3, sp4, sp5, sp6, sp7, sp8⟩ := sp
  obtain ⟨q2, q3, q4, q5, q6, q7⟩ := q1
  refine Cm.of [some (.ref (a 0 0)), some (.ref (a 1 i))] pn_X2 rfl (Nat.le_of_ble_eq_true rfl) ?_
  intro p e s m args below meth c A C hE hr hnt hn
  refine r_aload_n C dX2_isRiffleSound_0 rfl ?_
  refine s_get C 3 (by decide) qf_X2_33 rfl rfl dX2_isRiffleSound_1 ?_
  refine r_aload_n C dX2_isRiffleSound_4 rfl ?_
  refine d_Vv (st := []) hX.stb C hE (C_becomeLike (f := f) (r := r) (kn := kn) (i := 9) (j := i) hX (by first | omega | (simp [up2, *]; done) | (simp [up2, *]; omega) | (simp only [up2_eq]; omega) | (split <;> omega)) (by first | omega | (simp [up2, *]; done) | (simp [up2, *]; omega) | (simp only [up2_eq]; omega) | (split <;> omega)) (by first | omega | (simp [up2, *]; done) | (simp [up2, *]; omega) | (simp only [up2_eq]; omega) | (split <;> omega)) (by first | omega | (simp [up2, *]; done) | (simp [up2, *]; omega) | (simp only [up2_eq]; omega) | (split <;> omega)) (by first | omega | (simp [up2, *]; done) | (simp [up2, *]; omega) | (simp only [up2_eq]; omega) | (split <;> omega)) (by first | omega | (simp [up2, *]; done) | (simp [up2, *]; omega) | (simp only [up2_eq]; omega) | (split <;> omega))) pk_X1_becomeLike qm_X2_79 (3 + 9) 5 rfl rfl (wc_p (by first | omega | (simp [up2, *]; done) | (simp [up2, *]; omega) | (simp only [up2_eq]; omega) | (split <;> omega))) rfl rfl (Nat.le_of_ble_eq_true rfl) dX2_isRiffleSound_5 ⟨Nat.le_of_ble_eq_true rfl, Nat.le_of_ble_eq_true rfl⟩ ⟨Nat.le_of_ble_eq_true rfl, Nat.le_of_ble_eq_true rfl⟩ ?_
  refine r_aload_n C dX2_isRiffleSound_8 rfl ?_
  refine s_get C 3 (by decide) qf_X2_33 rfl rfl dX2_isRiffleSound_9 ?_
  refine r_aload_n C dX2_isRiffleSound_12 rfl ?_
  refine s_get C 2 (by decide) qf_X2_29 rfl rfl dX2_isRiffleSound_13 ?_
  refine d_Vv (st := []) hX.stb C hE (C_layHalvesTogether (f := (up2 f 4 9 (f 4 i))) (r := (cpy2 r (f 0 i) (f 3 i) (f 0 9) (f 3 9) (f 4 i))) (kn := kn) (i := 9) (j := 8) hX (by first | omega | (simp [up2, *]; done) | (simp [up2, *]; omega) | (simp only [up2_eq]; omega) | (split <;> omega)) (by first | omega | (simp [up2, *]; done) | (simp [up2, *]; omega) | (simp only [up2_eq]; omega) | (split <;> omega)) (by first | omega | (simp [up2, *]; done) | (simp [up2, *]; omega) | (simp only [up2_eq]; omega) | (split <;> omega)) (by first | omega | (simp [up2, *]; done) | (simp [up2, *]; omega) | (simp only [up2_eq]; omega) | (split <;> omega)) (by first | omega | (simp [up2, *]; done) | (simp [up2, *]; omega) | (simp only [up2_eq]; omega) | (split <;> omega)) (by first | omega | (simp [up2, *]; done) | (simp [up2, *]; omega) | (simp only [up2_eq]; omega) | (split <;> omega)) (by first | omega | (simp [up2, *]; done) | (simp [up2, *]; omega) | (simp only [up2_eq]; omega) | (split <;> omega)) (by first | omega | (simp [up2, *]; done) | (simp [up2, *]; omega) | (simp only [up2_eq]; omega) | (split <;> omega))) pk_X1_layHalvesTogether qm_X2_111 (3 + 9) 5 rfl rfl (wc_p (by first | omega | (simp [up2, *]; done) | (simp [up2, *]; omega) | (simp only [up2_eq]; omega) | (split <;> omega))) rfl rfl (Nat.le_of_ble_eq_true rfl) dX2_isRiffleSound_16 ⟨Nat.le_of_ble_eq_true rfl, Nat.le_of_ble_eq_true rfl⟩ ⟨Nat.le_of_ble_eq_true rfl, Nat.le_of_ble_eq_true rfl⟩ ?_
  refine r_aload_n C dX2_isRiffleSound_19 rfl ?_
  refine s_get C 3 (by decide) qf_X2_33 rfl rfl dX2_isRiffleSound_20 ?_
  refine r_aload_n C dX2_isRiffleSound_23 rfl ?_
  refine s_get C 2 (by decide) qf_X2_29 rfl rfl dX2_isRiffleSound_24 ?_
  refine d_Vv (st := []) hX.stb C hE (C_drawHalvesApart (f := (up2 (up2 f 4 9 (f 4 i)) 4 8 (f 4 i))) (r := (scS (cpy2 (cpy2 r (f 0 i) (f 3 i) (f 0 9) (f 3 9) (f 4 i)) (f 0 9) (f 3 9) (f 0 8) (f 3 8) (f 4 i)) (f 0 9) (f 3 9) (f 4 i) (fun t => t) (fun q => (cpy2 r (f 0 i) (f 3 i) (f 0 9) (f 3 9) (f 4 i)) (f 0 9) (f 3 9 + layN (f 4 i) q)))) (kn := kn) (i := 9) (j := 8) hX (by first | omega | (simp [up2, *]; done) | (simp [up2, *]; omega) | (simp only [up2_eq]; omega) | (split <;> omega)) (by first | omega | (simp [up2, *]; done) | (simp [up2, *]; omega) | (simp only [up2_eq]; omega) | (split <;> omega)) (by first | omega | (simp [up2, *]; done) | (simp [up2, *]; omega) | (simp only [up2_eq]; omega) | (split <;> omega)) (by first | omega | (simp [up2, *]; done) | (simp [up2, *]; omega) | (simp only [up2_eq]; omega) | (split <;> omega)) (by first | omega | (simp [up2, *]; done) | (simp [up2, *]; omega) | (simp only [up2_eq]; omega) | (split <;> omega)) (by first | omega | (simp [up2, *]; done) | (simp [up2, *]; omega) | (simp only [up2_eq]; omega) | (split <;> omega)) (by first | omega | (simp [up2, *]; done) | (simp [up2, *]; omega) | (simp only [up2_eq]; omega) | (split <;> omega)) (by first | omega | (simp [up2, *]; done) | (simp [up2, *]; omega) | (simp only [up2_eq]; omega) | (split <;> omega))) pk_X1_drawHalvesApart qm_X2_114 (3 + 9) 5 rfl rfl (wc_p (by first | omega | (simp [up2, *]; done) | (simp [up2, *]; omega) | (simp only [up2_eq]; omega) | (split <;> omega))) rfl rfl (Nat.le_of_ble_eq_true rfl) dX2_isRiffleSound_27 ⟨Nat.le_of_ble_eq_true rfl, Nat.le_of_ble_eq_true rfl⟩ ⟨Nat.le_of_ble_eq_true rfl, Nat.le_of_ble_eq_true rfl⟩ ?_
  refine r_aload_n C dX2_isRiffleSound_30 rfl ?_
  refine s_get C 3 (by decide) qf_X2_33 rfl rfl dX2_isRiffleSound_31 ?_
  refine r_aload_n C dX2_isRiffleSound_34 rfl ?_
  refine d_V (st := []) hX.stb C hE (C_isLike_yes (f := (up2 (up2 (up2 f 4 9 (f 4 i)) 4 8 (f 4 i)) 4 8 (f 4 i))) (r := (scS (cpy2 (scS (cpy2 (cpy2 r (f 0 i) (f 3 i) (f 0 9) (f 3 9) (f 4 i)) (f 0 9) (f 3 9) (f 0 8) (f 3 8) (f 4 i)) (f 0 9) (f 3 9) (f 4 i) (fun t => t) (fun q => (cpy2 r (f 0 i) (f 3 i) (f 0 9) (f 3 9) (f 4 i)) (f 0 9) (f 3 9 + layN (f 4 i) q))) (f 0 9) (f 3 9) (f 0 8) (f 3 8) (f 4 i)) (f 0 9) (f 3 9) (f 4 i) (unlN (f 4 i)) (fun q => (scS (cpy2 (cpy2 r (f 0 i) (f 3 i) (f 0 9) (f 3 9) (f 4 i)) (f 0 9) (f 3 9) (f 0 8) (f 3 8) (f 4 i)) (f 0 9) (f 3 9) (f 4 i) (fun t => t) (fun q => (cpy2 r (f 0 i) (f 3 i) (f 0 9) (f 3 9) (f 4 i)) (f 0 9) (f 3 9 + layN (f 4 i) q))) (f 0 9) (f 3 9 + q)))) (kn := kn) (i := 9) (j := i) hX (by first | omega | (simp [up2, *]; done) | (simp [up2, *]; omega) | (simp only [up2_eq]; omega) | (split <;> omega)) (by first | omega | (simp [up2, *]; done) | (simp [up2, *]; omega) | (simp only [up2_eq]; omega) | (split <;> omega)) (by first | omega | (simp [up2, *]; done) | (simp [up2, *]; omega) | (simp only [up2_eq]; omega) | (split <;> omega)) (by first | omega | (simp [up2, *]; done) | (simp [up2, *]; omega) | (simp only [up2_eq]; omega) | (split <;> omega)) (by first | omega | (simp [up2, *]; done) | (simp [up2, *]; omega) | (simp only [up2_eq]; omega) | (split <;> omega)) (by first | omega | (simp [up2, *]; done) | (simp [up2, *]; omega) | (simp only [up2_eq]; omega) | (split <;> omega)) (by rw [up2_i _ _ _ _ (by omega), up2_i _ _ _ _ (by omega), up2_eq, up2_i _ _ _ _ (by omega), up2_i _ _ _ _ (by omega), up2_i _ _ _ _ (by omega)]) (fun q hq => by rw [up2_i _ _ _ _ (by omega), up2_i _ _ _ _ (by omega), up2_i _ _ _ _ (by omega)] at hq; exact (lay_two _ hq).trans ((cpy2_at hq).trans ((lay_off _ (by omega) (by omega)).trans (cpy2_off (by omega))).symm))) pk_X1_isLike qm_X2_161 (3 + 9) 5 rfl rfl (wc_p (by first | omega | (simp [up2, *]; done) | (simp [up2, *]; omega) | (simp only [up2_eq]; omega) | (split <;> omega))) rfl rfl (Nat.le_of_ble_eq_true rfl) dX2_isRiffleSound_35 ⟨Nat.le_of_ble_eq_true rfl, Nat.le_of_ble_eq_true rfl⟩ ⟨Nat.le_of_ble_eq_true rfl, Nat.le_of_ble_eq_true rfl⟩ ?_
  exact r_zret C hr (by first | omega | (simp [up2, *]; done) | (simp [up2, *]; omega) | (simp only [up2_eq]; omega) | (split <;> omega)) dX2_isRiffleSound_38 ⟨rfl, rfl⟩ (Nat.le_of_ble_eq_true rfl) (Nat.le_of_ble_eq_true rfl)
theorem shN_nI {k n : Nat} (hk : k < 1000) : shN (nI k) n = k % n := by
  unfold shN
  rw [nI_toInt (by omega), ← Int.natCast_emod]
  exact Int.toNat_natCast _
theorem revS_off {r : Nat → Nat → Int32} {j lo hi j' k : Nat} (h : j' ≠ j) : revS r j lo hi j' k = r j' k := by
  unfold revS
  rw [if_neg (fun z => h z.1)]
theorem rev3 {r : Nat → Nat → Int32} {j d n k q : Nat} (hk : k < n) (hq : q < n) : revS (revS (revS r j (d + 0) (d + n)) j (d + 0) (d + k)) j (d + k) (d + n) j (d + q) = r j (d + (q + (n - k)) % n) := by
  by_cases h : q < k
  · rw [Nat.mod_eq_of_lt (show q + (n - k) < n by omega)]
    unfold revS
    rw [if_neg (by omega), if_pos ⟨rfl, by omega, by omega⟩, if_pos ⟨rfl, by omega, by omega⟩]
    exact congrArg (r j) (by omega)
  · rw [show q + (n - k) = (q - k) + n by omega, Nat.add_mod_right, Nat.mod_eq_of_lt (show q - k < n by omega)]
    unfold revS
    rw [if_pos ⟨rfl, by omega, by omega⟩, if_neg (by omega), if_pos ⟨rfl, by omega, by omega⟩]
    exact congrArg (r j) (by omega)
theorem mv_lk {r : Nat → Nat → Int32} {a b j d s ds j2 d2 n k q : Nat} (h1 : a ≠ j) (h2 : a ≠ s) (h3 : j ≠ j2) (hk : k < n) (hq : q < n) : revS (revS (revS (cpy2 (scS (cpy2 (cpy2 r a b j d n) j d s ds n) j d n (rotN n k) (fun q => (cpy2 r a b j d n) j (d + q))) a b j2 d2 n) j2 (d2 + 0) (d2 + n)) j2 (d2 + 0) (d2 + k)) j2 (d2 + k) (d2 + n) j (d + q) = revS (revS (revS (cpy2 (scS (cpy2 (cpy2 r a b j d n) j d s ds n) j d n (rotN n k) (fun q => (cpy2 r a b j d n) j (d + q))) a b j2 d2 n) j2 (d2 + 0) (d2 + n)) j2 (d2 + 0) (d2 + k)) j2 (d2 + k) (d2 + n) j2 (d2 + q) := by
  have hm : (q + (n - k)) % n < n := Nat.mod_lt _ (by omega)
  rw [revS_off h3, revS_off h3, revS_off h3, cpy2_off h3, scS_at hq, rev3 hk hq, cpy2_at hm, scS_off h1, cpy2_off h2, cpy2_off h1]
  exact cpy2_at hm
theorem dX2_isMoveSound_0 : decode cX2_isMoveSound 0 = .ok (.aload_n 1, 1) := dqo_43 (kb_X2_isMoveSound_0 0 rfl)
theorem dX2_isMoveSound_1 : decode cX2_isMoveSound 1 = .ok (.getfield 50, 3) := dqo_180 0 50 (kb_X2_isMoveSound_0 1 rfl) (kb_X2_isMoveSound_0 2 rfl) (kb_X2_isMoveSound_0 3 rfl)
theorem dX2_isMoveSound_4 : decode cX2_isMoveSound 4 = .ok (.istore_n 3, 1) := dqo_62 (kb_X2_isMoveSound_0 4 rfl)
theorem dX2_isMoveSound_5 : decode cX2_isMoveSound 5 = .ok (.iload_n 3, 1) := dqo_29 (kb_X2_isMoveSound_0 5 rfl)
theorem dX2_isMoveSound_6 : decode cX2_isMoveSound 6 = .ok (.ifCond .ne 7, 3) := dqo_154 0 7 (by decide) (kb_X2_isMoveSound_0 6 rfl) (kb_X2_isMoveSound_0 7 rfl) (kb_X2_isMoveSound_0 8 rfl)
theorem dX2_isMoveSound_13 : decode cX2_isMoveSound 13 = .ok (.iload_n 2, 1) := dqo_28 (kb_X2_isMoveSound_0 13 rfl)
theorem dX2_isMoveSound_14 : decode cX2_isMoveSound 14 = .ok (.iload_n 3, 1) := dqo_29 (kb_X2_isMoveSound_0 14 rfl)
theorem dX2_isMoveSound_15 : decode cX2_isMoveSound 15 = .ok (.irem, 1) := dqo_112 (kb_X2_isMoveSound_0 15 rfl)
theorem dX2_isMoveSound_16 : decode cX2_isMoveSound 16 = .ok (.istore 4, 2) := dqo_54 4 (kb_X2_isMoveSound_0 16 rfl) (kb_X2_isMoveSound_0 17 rfl)
theorem dX2_isMoveSound_18 : decode cX2_isMoveSound 18 = .ok (.aload_n 0, 1) := dqo_42 (kb_X2_isMoveSound_0 18 rfl)
theorem dX2_isMoveSound_19 : decode cX2_isMoveSound 19 = .ok (.getfield 33, 3) := dqo_180 0 33 (kb_X2_isMoveSound_0 19 rfl) (kb_X2_isMoveSound_0 20 rfl) (kb_X2_isMoveSound_0 21 rfl)
theorem dX2_isMoveSound_22 : decode cX2_isMoveSound 22 = .ok (.aload_n 1, 1) := dqo_43 (kb_X2_isMoveSound_0 22 rfl)
theorem dX2_isMoveSound_23 : decode cX2_isMoveSound 23 = .ok (.invokevirtual 79, 3) := dqo_182 0 79 (kb_X2_isMoveSound_0 23 rfl) (kb_X2_isMoveSound_0 24 rfl) (kb_X2_isMoveSound_0 25 rfl)
theorem dX2_isMoveSound_26 : decode cX2_isMoveSound 26 = .ok (.aload_n 0, 1) := dqo_42 (kb_X2_isMoveSound_0 26 rfl)
theorem dX2_isMoveSound_27 : decode cX2_isMoveSound 27 = .ok (.getfield 33, 3) := dqo_180 0 33 (kb_X2_isMoveSound_0 27 rfl) (kb_X2_isMoveSound_0 28 rfl) (kb_X2_isMoveSound_0 29 rfl)
theorem dX2_isMoveSound_30 : decode cX2_isMoveSound 30 = .ok (.iload_n 2, 1) := dqo_28 (kb_X2_isMoveSound_0 30 rfl)
theorem dX2_isMoveSound_31 : decode cX2_isMoveSound 31 = .ok (.aload_n 0, 1) := dqo_42 (kb_X2_isMoveSound_0 31 rfl)
theorem dX2_isMoveSound_32 : decode cX2_isMoveSound 32 = .ok (.getfield 29, 3) := dqo_180 0 29 (kb_X2_isMoveSound_0 32 rfl) (kb_X2_isMoveSound_0 33 rfl) (kb_X2_isMoveSound_0 34 rfl)
theorem dX2_isMoveSound_35 : decode cX2_isMoveSound 35 = .ok (.invokevirtual 97, 3) := dqo_182 0 97 (kb_X2_isMoveSound_0 35 rfl) (kb_X2_isMoveSound_0 36 rfl) (kb_X2_isMoveSound_0 37 rfl)
theorem dX2_isMoveSound_38 : decode cX2_isMoveSound 38 = .ok (.aload_n 0, 1) := dqo_42 (kb_X2_isMoveSound_0 38 rfl)
theorem dX2_isMoveSound_39 : decode cX2_isMoveSound 39 = .ok (.getfield 36, 3) := dqo_180 0 36 (kb_X2_isMoveSound_0 39 rfl) (kb_X2_isMoveSound_0 40 rfl) (kb_X2_isMoveSound_0 41 rfl)
theorem dX2_isMoveSound_42 : decode cX2_isMoveSound 42 = .ok (.aload_n 1, 1) := dqo_43 (kb_X2_isMoveSound_0 42 rfl)
theorem dX2_isMoveSound_43 : decode cX2_isMoveSound 43 = .ok (.invokevirtual 79, 3) := dqo_182 0 79 (kb_X2_isMoveSound_0 43 rfl) (kb_X2_isMoveSound_0 44 rfl) (kb_X2_isMoveSound_0 45 rfl)
theorem dX2_isMoveSound_46 : decode cX2_isMoveSound 46 = .ok (.aload_n 0, 1) := dqo_42 (kb_X2_isMoveSound_0 46 rfl)
theorem dX2_isMoveSound_47 : decode cX2_isMoveSound 47 = .ok (.getfield 36, 3) := dqo_180 0 36 (kb_X2_isMoveSound_0 47 rfl) (kb_X2_isMoveSound_0 48 rfl) (kb_X2_isMoveSound_0 49 rfl)
theorem dX2_isMoveSound_50 : decode cX2_isMoveSound 50 = .ok (.iconst 0, 1) := dqo_3 (kb_X2_isMoveSound_0 50 rfl)
theorem dX2_isMoveSound_51 : decode cX2_isMoveSound 51 = .ok (.iload_n 3, 1) := dqo_29 (kb_X2_isMoveSound_0 51 rfl)
theorem dX2_isMoveSound_52 : decode cX2_isMoveSound 52 = .ok (.invokevirtual 105, 3) := dqo_182 0 105 (kb_X2_isMoveSound_0 52 rfl) (kb_X2_isMoveSound_0 53 rfl) (kb_X2_isMoveSound_0 54 rfl)
theorem dX2_isMoveSound_55 : decode cX2_isMoveSound 55 = .ok (.aload_n 0, 1) := dqo_42 (kb_X2_isMoveSound_0 55 rfl)
theorem dX2_isMoveSound_56 : decode cX2_isMoveSound 56 = .ok (.getfield 36, 3) := dqo_180 0 36 (kb_X2_isMoveSound_0 56 rfl) (kb_X2_isMoveSound_0 57 rfl) (kb_X2_isMoveSound_0 58 rfl)
theorem dX2_isMoveSound_59 : decode cX2_isMoveSound 59 = .ok (.iconst 0, 1) := dqo_3 (kb_X2_isMoveSound_0 59 rfl)
theorem dX2_isMoveSound_60 : decode cX2_isMoveSound 60 = .ok (.iload 4, 2) := dqo_21 4 (kb_X2_isMoveSound_0 60 rfl) (kb_X2_isMoveSound_0 61 rfl)
theorem dX2_isMoveSound_62 : decode cX2_isMoveSound 62 = .ok (.invokevirtual 105, 3) := dqo_182 0 105 (kb_X2_isMoveSound_0 62 rfl) (kb_X2_isMoveSound_0 63 rfl) (kb_X2_isMoveSound_1 0 rfl)
theorem dX2_isMoveSound_65 : decode cX2_isMoveSound 65 = .ok (.aload_n 0, 1) := dqo_42 (kb_X2_isMoveSound_1 1 rfl)
theorem dX2_isMoveSound_66 : decode cX2_isMoveSound 66 = .ok (.getfield 36, 3) := dqo_180 0 36 (kb_X2_isMoveSound_1 2 rfl) (kb_X2_isMoveSound_1 3 rfl) (kb_X2_isMoveSound_1 4 rfl)
theorem dX2_isMoveSound_69 : decode cX2_isMoveSound 69 = .ok (.iload 4, 2) := dqo_21 4 (kb_X2_isMoveSound_1 5 rfl) (kb_X2_isMoveSound_1 6 rfl)
theorem dX2_isMoveSound_71 : decode cX2_isMoveSound 71 = .ok (.iload_n 3, 1) := dqo_29 (kb_X2_isMoveSound_1 7 rfl)
theorem dX2_isMoveSound_72 : decode cX2_isMoveSound 72 = .ok (.invokevirtual 105, 3) := dqo_182 0 105 (kb_X2_isMoveSound_1 8 rfl) (kb_X2_isMoveSound_1 9 rfl) (kb_X2_isMoveSound_1 10 rfl)
theorem dX2_isMoveSound_75 : decode cX2_isMoveSound 75 = .ok (.aload_n 0, 1) := dqo_42 (kb_X2_isMoveSound_1 11 rfl)
theorem dX2_isMoveSound_76 : decode cX2_isMoveSound 76 = .ok (.getfield 33, 3) := dqo_180 0 33 (kb_X2_isMoveSound_1 12 rfl) (kb_X2_isMoveSound_1 13 rfl) (kb_X2_isMoveSound_1 14 rfl)
theorem dX2_isMoveSound_79 : decode cX2_isMoveSound 79 = .ok (.aload_n 0, 1) := dqo_42 (kb_X2_isMoveSound_1 15 rfl)
theorem dX2_isMoveSound_80 : decode cX2_isMoveSound 80 = .ok (.getfield 36, 3) := dqo_180 0 36 (kb_X2_isMoveSound_1 16 rfl) (kb_X2_isMoveSound_1 17 rfl) (kb_X2_isMoveSound_1 18 rfl)
theorem dX2_isMoveSound_83 : decode cX2_isMoveSound 83 = .ok (.invokevirtual 161, 3) := dqo_182 0 161 (kb_X2_isMoveSound_1 19 rfl) (kb_X2_isMoveSound_1 20 rfl) (kb_X2_isMoveSound_1 21 rfl)
theorem dX2_isMoveSound_86 : decode cX2_isMoveSound 86 = .ok (.ireturn, 1) := dqo_172 (kb_X2_isMoveSound_1 22 rfl)
set_option maxRecDepth 100000 in
set_option maxHeartbeats 4000000 in
theorem C_isMoveSound_b {l : Launch} {D : va_G} {cy : Nat → ClassId} {X : (Nat → Prop) → State → Heap → Prop} {a f : Nat → Nat → Nat} {r : Nat → Nat → Int32} {kn : Int32} {Y : va_W} {i : Nat} {n0 : Nat} (hX : EnvX X) (hC : CInv f) (hi4 : i < 4) (hz : 0 < f 4 i) (hc : n0 < 1000) (hk : 0 < n0 % f 4 i) (hk2 : n0 % f 4 i < f 4 i) : Cd l D cy X yX2_isMoveSound cX2_isMoveSound 5 (some .boolean) (rmz 4 220) [.ref (a 0 0), .ref (a 1 i), .int (nI n0)] (WC cy a f r kn ++ Y) (some (.int (nI 1))) (WC cy a (up2 (up2 (up2 f 4 9 (f 4 i)) 4 8 (f 4 i)) 4 10 (f 4 i)) (revS (revS (revS (cpy2 (scS (cpy2 (cpy2 r (f 0 i) (f 3 i) (f 0 9) (f 3 9) (f 4 i)) (f 0 9) (f 3 9) (f 0 8) (f 3 8) (f 4 i)) (f 0 9) (f 3 9) (f 4 i) (rotN (f 4 i) (n0 % (f 4 i))) (fun q => (cpy2 r (f 0 i) (f 3 i) (f 0 9) (f 3 9) (f 4 i)) (f 0 9) (f 3 9 + q))) (f 0 i) (f 3 i) (f 0 10) (f 3 10) (f 4 i)) (f 0 10) (f 3 10 + 0) (f 3 10 + (f 4 i))) (f 0 10) (f 3 10 + 0) (f 3 10 + (n0 % (f 4 i)))) (f 0 10) (f 3 10 + (n0 % (f 4 i))) (f 3 10 + (f 4 i))) kn ++ Y) := by
  have q3 := hC.sp
  have sp := hC.sp
  have q1 := hC.rw hi4
  obtain ⟨sp0, sp1, sp2, sp3, sp4, sp5, sp6, sp7, sp8⟩ := sp
  obtain ⟨q2, q3, q4, q5, q6, q7⟩ := q1
  have q8 : (nI n0).toInt = (n0 : Int) := nI_toInt (by omega)
  refine Cm.of [some (.ref (a 0 0)), some (.ref (a 1 i)), some (.int (nI n0)), none, none] pn_X2 rfl (Nat.le_of_ble_eq_true rfl) ?_
  intro p e s m args below meth c A C hE hr hnt hn
  refine r_aload_n C dX2_isMoveSound_0 rfl ?_
  refine p_getN (v := .int (nI (f 4 i))) hX C hE 4 (by first | omega | (simp [up2, *]; done) | (simp [up2, *]; omega) | (simp only [up2_eq]; omega) | (split <;> omega)) (by decide) qn_X2_50 rfl rfl dX2_isMoveSound_1 ?_
  refine r_istore_n C dX2_isMoveSound_4 (by decide) rfl ?_
  refine r_iload_n C dX2_isMoveSound_5 rfl ?_
  refine r_ifN_ne (a := (f 4 i)) (tgt := 13) C (by first | omega | (simp [up2, *]; done) | (simp [up2, *]; omega) | (simp only [up2_eq]; omega) | (split <;> omega)) dX2_isMoveSound_6 (by decide) (fun h6_1 => ?_) (fun h6_1 => ?_)
  · skip
    refine r_iload_n C dX2_isMoveSound_13 rfl ?_
    refine r_iload_n C dX2_isMoveSound_14 rfl ?_
    refine r_iremN C dX2_isMoveSound_15 (by first | omega | (simp [up2, *]; done) | (simp [up2, *]; omega) | (simp only [up2_eq]; omega) | (split <;> omega)) (by first | omega | (simp [up2, *]; done) | (simp [up2, *]; omega) | (simp only [up2_eq]; omega) | (split <;> omega)) (by first | omega | (simp [up2, *]; done) | (simp [up2, *]; omega) | (simp only [up2_eq]; omega) | (split <;> omega)) ?_
    refine r_istore C dX2_isMoveSound_16 (by decide) rfl ?_
    refine r_aload_n C dX2_isMoveSound_18 rfl ?_
    refine s_get C 3 (by decide) qf_X2_33 rfl rfl dX2_isMoveSound_19 ?_
    refine r_aload_n C dX2_isMoveSound_22 rfl ?_
    refine d_Vv (st := []) hX.stb C hE (C_becomeLike (f := f) (r := r) (kn := kn) (i := 9) (j := i) hX (by first | omega | (simp [up2, *]; done) | (simp [up2, *]; omega) | (simp only [up2_eq]; omega) | (split <;> omega)) (by first | omega | (simp [up2, *]; done) | (simp [up2, *]; omega) | (simp only [up2_eq]; omega) | (split <;> omega)) (by first | omega | (simp [up2, *]; done) | (simp [up2, *]; omega) | (simp only [up2_eq]; omega) | (split <;> omega)) (by first | omega | (simp [up2, *]; done) | (simp [up2, *]; omega) | (simp only [up2_eq]; omega) | (split <;> omega)) (by first | omega | (simp [up2, *]; done) | (simp [up2, *]; omega) | (simp only [up2_eq]; omega) | (split <;> omega)) (by first | omega | (simp [up2, *]; done) | (simp [up2, *]; omega) | (simp only [up2_eq]; omega) | (split <;> omega))) pk_X1_becomeLike qm_X2_79 (3 + 9) 5 rfl rfl (wc_p (by first | omega | (simp [up2, *]; done) | (simp [up2, *]; omega) | (simp only [up2_eq]; omega) | (split <;> omega))) rfl rfl (Nat.le_of_ble_eq_true rfl) dX2_isMoveSound_23 ⟨Nat.le_of_ble_eq_true rfl, Nat.le_of_ble_eq_true rfl⟩ ⟨Nat.le_of_ble_eq_true rfl, Nat.le_of_ble_eq_true rfl⟩ ?_
    refine r_aload_n C dX2_isMoveSound_26 rfl ?_
    refine s_get C 3 (by decide) qf_X2_33 rfl rfl dX2_isMoveSound_27 ?_
    refine r_iload_n C dX2_isMoveSound_30 rfl ?_
    refine r_aload_n C dX2_isMoveSound_31 rfl ?_
    refine s_get C 2 (by decide) qf_X2_29 rfl rfl dX2_isMoveSound_32 ?_
    refine d_Vv (st := []) hX.stb C hE (C_moveUp (f := (up2 f 4 9 (f 4 i))) (r := (cpy2 r (f 0 i) (f 3 i) (f 0 9) (f 3 9) (f 4 i))) (kn := kn) (i := 9) (j := 8) (x := ((nI n0))) hX (by first | omega | (simp [up2, *]; done) | (simp [up2, *]; omega) | (simp only [up2_eq]; omega) | (split <;> omega)) (by first | omega | (simp [up2, *]; done) | (simp [up2, *]; omega) | (simp only [up2_eq]; omega) | (split <;> omega)) (by first | omega | (simp [up2, *]; done) | (simp [up2, *]; omega) | (simp only [up2_eq]; omega) | (split <;> omega)) (by first | omega | (simp [up2, *]; done) | (simp [up2, *]; omega) | (simp only [up2_eq]; omega) | (split <;> omega)) (by first | omega | (simp [up2, *]; done) | (simp [up2, *]; omega) | (simp only [up2_eq]; omega) | (split <;> omega)) (by first | omega | (simp [up2, *]; done) | (simp [up2, *]; omega) | (simp only [up2_eq]; omega) | (split <;> omega)) (by first | omega | (simp [up2, *]; done) | (simp [up2, *]; omega) | (simp only [up2_eq]; omega) | (split <;> omega)) (by first | omega | (simp [up2, *]; done) | (simp [up2, *]; omega) | (simp only [up2_eq]; omega) | (split <;> omega)) (by first | omega | (simp [up2, *]; done) | (simp [up2, *]; omega) | (simp only [up2_eq]; omega) | (split <;> omega)) (by first | omega | (simp [up2, *]; done) | (simp [up2, *]; omega) | (simp only [up2_eq]; omega) | (split <;> omega)) (by first | omega | (simp [up2, *]; done) | (simp [up2, *]; omega) | (simp only [up2_eq]; omega) | (split <;> omega))) pk_X1_moveUp qm_X2_97 (3 + 9) 5 rfl rfl (wc_p (by first | omega | (simp [up2, *]; done) | (simp [up2, *]; omega) | (simp only [up2_eq]; omega) | (split <;> omega))) rfl rfl (Nat.le_of_ble_eq_true rfl) dX2_isMoveSound_35 ⟨Nat.le_of_ble_eq_true rfl, Nat.le_of_ble_eq_true rfl⟩ ⟨Nat.le_of_ble_eq_true rfl, Nat.le_of_ble_eq_true rfl⟩ ?_
    refine r_aload_n C dX2_isMoveSound_38 rfl ?_
    refine s_get C 4 (by decide) qf_X2_36 rfl rfl dX2_isMoveSound_39 ?_
    refine r_aload_n C dX2_isMoveSound_42 rfl ?_
    refine d_Vv (st := []) hX.stb C hE (C_becomeLike (f := (up2 (up2 f 4 9 (f 4 i)) 4 8 (f 4 i))) (r := (scS (cpy2 (cpy2 r (f 0 i) (f 3 i) (f 0 9) (f 3 9) (f 4 i)) (f 0 9) (f 3 9) (f 0 8) (f 3 8) (f 4 i)) (f 0 9) (f 3 9) (f 4 i) (rotN (f 4 i) (shN ((nI n0)) (f 4 i))) (fun q => (cpy2 r (f 0 i) (f 3 i) (f 0 9) (f 3 9) (f 4 i)) (f 0 9) (f 3 9 + q)))) (kn := kn) (i := 10) (j := i) hX (by first | omega | (simp [up2, *]; done) | (simp [up2, *]; omega) | (simp only [up2_eq]; omega) | (split <;> omega)) (by first | omega | (simp [up2, *]; done) | (simp [up2, *]; omega) | (simp only [up2_eq]; omega) | (split <;> omega)) (by first | omega | (simp [up2, *]; done) | (simp [up2, *]; omega) | (simp only [up2_eq]; omega) | (split <;> omega)) (by first | omega | (simp [up2, *]; done) | (simp [up2, *]; omega) | (simp only [up2_eq]; omega) | (split <;> omega)) (by first | omega | (simp [up2, *]; done) | (simp [up2, *]; omega) | (simp only [up2_eq]; omega) | (split <;> omega)) (by first | omega | (simp [up2, *]; done) | (simp [up2, *]; omega) | (simp only [up2_eq]; omega) | (split <;> omega))) pk_X1_becomeLike qm_X2_79 (3 + 10) 5 rfl rfl (wc_p (by first | omega | (simp [up2, *]; done) | (simp [up2, *]; omega) | (simp only [up2_eq]; omega) | (split <;> omega))) rfl rfl (Nat.le_of_ble_eq_true rfl) dX2_isMoveSound_43 ⟨Nat.le_of_ble_eq_true rfl, Nat.le_of_ble_eq_true rfl⟩ ⟨Nat.le_of_ble_eq_true rfl, Nat.le_of_ble_eq_true rfl⟩ ?_
    refine r_w (show WC cy a (up2 (up2 (up2 f 4 9 (f 4 i)) 4 8 (f 4 i)) 4 10 ((up2 (up2 f 4 9 (f 4 i)) 4 8 (f 4 i)) 4 i)) (cpy2 (scS (cpy2 (cpy2 r (f 0 i) (f 3 i) (f 0 9) (f 3 9) (f 4 i)) (f 0 9) (f 3 9) (f 0 8) (f 3 8) (f 4 i)) (f 0 9) (f 3 9) (f 4 i) (rotN (f 4 i) (shN ((nI n0)) (f 4 i))) (fun q => (cpy2 r (f 0 i) (f 3 i) (f 0 9) (f 3 9) (f 4 i)) (f 0 9) (f 3 9 + q))) (f 0 i) (f 3 i) (f 0 10) (f 3 10) ((up2 (up2 f 4 9 (f 4 i)) 4 8 (f 4 i)) 4 i)) kn ++ Y = WC cy a (up2 (up2 (up2 f 4 9 (f 4 i)) 4 8 (f 4 i)) 4 10 (f 4 i)) (cpy2 (scS (cpy2 (cpy2 r (f 0 i) (f 3 i) (f 0 9) (f 3 9) (f 4 i)) (f 0 9) (f 3 9) (f 0 8) (f 3 8) (f 4 i)) (f 0 9) (f 3 9) (f 4 i) (rotN (f 4 i) (n0 % (f 4 i))) (fun q => (cpy2 r (f 0 i) (f 3 i) (f 0 9) (f 3 9) (f 4 i)) (f 0 9) (f 3 9 + q))) (f 0 i) (f 3 i) (f 0 10) (f 3 10) (f 4 i)) kn ++ Y by rw [show up2 (up2 f 4 9 (f 4 i)) 4 8 (f 4 i) 4 i = f 4 i from (up2_i _ _ _ _ (by omega)).trans (up2_i _ _ _ _ (by omega)), shN_nI hc]) ?_
    refine r_aload_n C dX2_isMoveSound_46 rfl ?_
    refine s_get C 4 (by decide) qf_X2_36 rfl rfl dX2_isMoveSound_47 ?_
    refine r_iconst (v := (nI 0)) C dX2_isMoveSound_50 (by decide) ?_
    refine r_iload_n C dX2_isMoveSound_51 rfl ?_
    refine d_Vv (st := []) hX.stb C hE (C_turn (f := (up2 (up2 (up2 f 4 9 (f 4 i)) 4 8 (f 4 i)) 4 10 (f 4 i))) (r := (cpy2 (scS (cpy2 (cpy2 r (f 0 i) (f 3 i) (f 0 9) (f 3 9) (f 4 i)) (f 0 9) (f 3 9) (f 0 8) (f 3 8) (f 4 i)) (f 0 9) (f 3 9) (f 4 i) (rotN (f 4 i) (n0 % (f 4 i))) (fun q => (cpy2 r (f 0 i) (f 3 i) (f 0 9) (f 3 9) (f 4 i)) (f 0 9) (f 3 9 + q))) (f 0 i) (f 3 i) (f 0 10) (f 3 10) (f 4 i))) (kn := kn) (i := 10) (p0 := 0) (q0 := (f 4 i)) hX (by first | omega | (simp [up2, *]; done) | (simp [up2, *]; omega) | (simp only [up2_eq]; omega) | (split <;> omega)) (by first | omega | (simp [up2, *]; done) | (simp [up2, *]; omega) | (simp only [up2_eq]; omega) | (split <;> omega)) (by first | omega | (simp [up2, *]; done) | (simp [up2, *]; omega) | (simp only [up2_eq]; omega) | (split <;> omega)) (by first | omega | (simp [up2, *]; done) | (simp [up2, *]; omega) | (simp only [up2_eq]; omega) | (split <;> omega)) (by first | omega | (simp [up2, *]; done) | (simp [up2, *]; omega) | (simp only [up2_eq]; omega) | (split <;> omega))) pk_X1_turn qm_X2_105 (3 + 10) 5 rfl rfl (wc_p (by first | omega | (simp [up2, *]; done) | (simp [up2, *]; omega) | (simp only [up2_eq]; omega) | (split <;> omega))) rfl rfl (Nat.le_of_ble_eq_true rfl) dX2_isMoveSound_52 ⟨Nat.le_of_ble_eq_true rfl, Nat.le_of_ble_eq_true rfl⟩ ⟨Nat.le_of_ble_eq_true rfl, Nat.le_of_ble_eq_true rfl⟩ ?_
    refine r_aload_n C dX2_isMoveSound_55 rfl ?_
    refine s_get C 4 (by decide) qf_X2_36 rfl rfl dX2_isMoveSound_56 ?_
    refine r_iconst (v := (nI 0)) C dX2_isMoveSound_59 (by decide) ?_
    refine r_iload C dX2_isMoveSound_60 rfl ?_
    refine d_Vv (st := []) hX.stb C hE (C_turn (f := (up2 (up2 (up2 f 4 9 (f 4 i)) 4 8 (f 4 i)) 4 10 (f 4 i))) (r := (revS (cpy2 (scS (cpy2 (cpy2 r (f 0 i) (f 3 i) (f 0 9) (f 3 9) (f 4 i)) (f 0 9) (f 3 9) (f 0 8) (f 3 8) (f 4 i)) (f 0 9) (f 3 9) (f 4 i) (rotN (f 4 i) (n0 % (f 4 i))) (fun q => (cpy2 r (f 0 i) (f 3 i) (f 0 9) (f 3 9) (f 4 i)) (f 0 9) (f 3 9 + q))) (f 0 i) (f 3 i) (f 0 10) (f 3 10) (f 4 i)) (f 0 10) (f 3 10 + 0) (f 3 10 + (f 4 i)))) (kn := kn) (i := 10) (p0 := 0) (q0 := (n0 % (f 4 i))) hX (by first | omega | (simp [up2, *]; done) | (simp [up2, *]; omega) | (simp only [up2_eq]; omega) | (split <;> omega)) (by first | omega | (simp [up2, *]; done) | (simp [up2, *]; omega) | (simp only [up2_eq]; omega) | (split <;> omega)) (by first | omega | (simp [up2, *]; done) | (simp [up2, *]; omega) | (simp only [up2_eq]; omega) | (split <;> omega)) (by first | omega | (simp [up2, *]; done) | (simp [up2, *]; omega) | (simp only [up2_eq]; omega) | (split <;> omega)) (by first | omega | (simp [up2, *]; done) | (simp [up2, *]; omega) | (simp only [up2_eq]; omega) | (split <;> omega))) pk_X1_turn qm_X2_105 (3 + 10) 5 rfl rfl (wc_p (by first | omega | (simp [up2, *]; done) | (simp [up2, *]; omega) | (simp only [up2_eq]; omega) | (split <;> omega))) rfl rfl (Nat.le_of_ble_eq_true rfl) dX2_isMoveSound_62 ⟨Nat.le_of_ble_eq_true rfl, Nat.le_of_ble_eq_true rfl⟩ ⟨Nat.le_of_ble_eq_true rfl, Nat.le_of_ble_eq_true rfl⟩ ?_
    refine r_aload_n C dX2_isMoveSound_65 rfl ?_
    refine s_get C 4 (by decide) qf_X2_36 rfl rfl dX2_isMoveSound_66 ?_
    refine r_iload C dX2_isMoveSound_69 rfl ?_
    refine r_iload_n C dX2_isMoveSound_71 rfl ?_
    refine d_Vv (st := []) hX.stb C hE (C_turn (f := (up2 (up2 (up2 f 4 9 (f 4 i)) 4 8 (f 4 i)) 4 10 (f 4 i))) (r := (revS (revS (cpy2 (scS (cpy2 (cpy2 r (f 0 i) (f 3 i) (f 0 9) (f 3 9) (f 4 i)) (f 0 9) (f 3 9) (f 0 8) (f 3 8) (f 4 i)) (f 0 9) (f 3 9) (f 4 i) (rotN (f 4 i) (n0 % (f 4 i))) (fun q => (cpy2 r (f 0 i) (f 3 i) (f 0 9) (f 3 9) (f 4 i)) (f 0 9) (f 3 9 + q))) (f 0 i) (f 3 i) (f 0 10) (f 3 10) (f 4 i)) (f 0 10) (f 3 10 + 0) (f 3 10 + (f 4 i))) (f 0 10) (f 3 10 + 0) (f 3 10 + (n0 % (f 4 i))))) (kn := kn) (i := 10) (p0 := (n0 % (f 4 i))) (q0 := (f 4 i)) hX (by first | omega | (simp [up2, *]; done) | (simp [up2, *]; omega) | (simp only [up2_eq]; omega) | (split <;> omega)) (by first | omega | (simp [up2, *]; done) | (simp [up2, *]; omega) | (simp only [up2_eq]; omega) | (split <;> omega)) (by first | omega | (simp [up2, *]; done) | (simp [up2, *]; omega) | (simp only [up2_eq]; omega) | (split <;> omega)) (by first | omega | (simp [up2, *]; done) | (simp [up2, *]; omega) | (simp only [up2_eq]; omega) | (split <;> omega)) (by first | omega | (simp [up2, *]; done) | (simp [up2, *]; omega) | (simp only [up2_eq]; omega) | (split <;> omega))) pk_X1_turn qm_X2_105 (3 + 10) 5 rfl rfl (wc_p (by first | omega | (simp [up2, *]; done) | (simp [up2, *]; omega) | (simp only [up2_eq]; omega) | (split <;> omega))) rfl rfl (Nat.le_of_ble_eq_true rfl) dX2_isMoveSound_72 ⟨Nat.le_of_ble_eq_true rfl, Nat.le_of_ble_eq_true rfl⟩ ⟨Nat.le_of_ble_eq_true rfl, Nat.le_of_ble_eq_true rfl⟩ ?_
    refine r_aload_n C dX2_isMoveSound_75 rfl ?_
    refine s_get C 3 (by decide) qf_X2_33 rfl rfl dX2_isMoveSound_76 ?_
    refine r_aload_n C dX2_isMoveSound_79 rfl ?_
    refine s_get C 4 (by decide) qf_X2_36 rfl rfl dX2_isMoveSound_80 ?_
    refine d_V (st := []) hX.stb C hE (C_isLike_yes (f := (up2 (up2 (up2 f 4 9 (f 4 i)) 4 8 (f 4 i)) 4 10 (f 4 i))) (r := (revS (revS (revS (cpy2 (scS (cpy2 (cpy2 r (f 0 i) (f 3 i) (f 0 9) (f 3 9) (f 4 i)) (f 0 9) (f 3 9) (f 0 8) (f 3 8) (f 4 i)) (f 0 9) (f 3 9) (f 4 i) (rotN (f 4 i) (n0 % (f 4 i))) (fun q => (cpy2 r (f 0 i) (f 3 i) (f 0 9) (f 3 9) (f 4 i)) (f 0 9) (f 3 9 + q))) (f 0 i) (f 3 i) (f 0 10) (f 3 10) (f 4 i)) (f 0 10) (f 3 10 + 0) (f 3 10 + (f 4 i))) (f 0 10) (f 3 10 + 0) (f 3 10 + (n0 % (f 4 i)))) (f 0 10) (f 3 10 + (n0 % (f 4 i))) (f 3 10 + (f 4 i)))) (kn := kn) (i := 9) (j := 10) hX (by first | omega | (simp [up2, *]; done) | (simp [up2, *]; omega) | (simp only [up2_eq]; omega) | (split <;> omega)) (by first | omega | (simp [up2, *]; done) | (simp [up2, *]; omega) | (simp only [up2_eq]; omega) | (split <;> omega)) (by first | omega | (simp [up2, *]; done) | (simp [up2, *]; omega) | (simp only [up2_eq]; omega) | (split <;> omega)) (by first | omega | (simp [up2, *]; done) | (simp [up2, *]; omega) | (simp only [up2_eq]; omega) | (split <;> omega)) (by first | omega | (simp [up2, *]; done) | (simp [up2, *]; omega) | (simp only [up2_eq]; omega) | (split <;> omega)) (by first | omega | (simp [up2, *]; done) | (simp [up2, *]; omega) | (simp only [up2_eq]; omega) | (split <;> omega)) (by rw [up2_i _ _ _ _ (by omega), up2_i _ _ _ _ (by omega), up2_eq, up2_eq]) (fun q hq => by rw [up2_eq] at hq; exact mv_lk (k := n0 % f 4 i) (by omega) (by omega) (by omega) hk2 hq)) pk_X1_isLike qm_X2_161 (3 + 9) 5 rfl rfl (wc_p (by first | omega | (simp [up2, *]; done) | (simp [up2, *]; omega) | (simp only [up2_eq]; omega) | (split <;> omega))) rfl rfl (Nat.le_of_ble_eq_true rfl) dX2_isMoveSound_83 ⟨Nat.le_of_ble_eq_true rfl, Nat.le_of_ble_eq_true rfl⟩ ⟨Nat.le_of_ble_eq_true rfl, Nat.le_of_ble_eq_true rfl⟩ ?_
    exact r_zret C hr (by first | omega | (simp [up2, *]; done) | (simp [up2, *]; omega) | (simp only [up2_eq]; omega) | (split <;> omega)) dX2_isMoveSound_86 ⟨rfl, rfl⟩ (Nat.le_of_ble_eq_true rfl) (Nat.le_of_ble_eq_true rfl)
  · exact absurd h6_1 (by first | omega | (simp [up2, *]; done) | (simp [up2, *]; omega) | (simp only [up2_eq]; omega) | (split <;> omega))
theorem mv_lk0 {r : Nat → Nat → Int32} {a b j d s ds j2 d2 n k q : Nat} (h1 : a ≠ j) (h2 : a ≠ s) (h3 : j ≠ j2) (hk : k = 0) (hq : q < n) : revS (revS (cpy2 (scS (cpy2 (cpy2 r a b j d n) j d s ds n) j d n (rotN n k) (fun q => (cpy2 r a b j d n) j (d + q))) a b j2 d2 n) j2 (d2 + 0) (d2 + n)) j2 (d2 + k) (d2 + n) j (d + q) = revS (revS (cpy2 (scS (cpy2 (cpy2 r a b j d n) j d s ds n) j d n (rotN n k) (fun q => (cpy2 r a b j d n) j (d + q))) a b j2 d2 n) j2 (d2 + 0) (d2 + n)) j2 (d2 + k) (d2 + n) j2 (d2 + q) := by
  subst hk
  have e : rotN n 0 q = q := by
    unfold rotN
    rw [Nat.sub_zero, Nat.add_mod_right, Nat.mod_eq_of_lt hq]
  rw [revS_two, cpy2_off h3, scS_at hq, e, cpy2_at hq, cpy2_at hq, scS_off h1, cpy2_off h2, cpy2_off h1]
set_option maxRecDepth 100000 in
set_option maxHeartbeats 4000000 in
theorem C_isMoveSound_a {l : Launch} {D : va_G} {cy : Nat → ClassId} {X : (Nat → Prop) → State → Heap → Prop} {a f : Nat → Nat → Nat} {r : Nat → Nat → Int32} {kn : Int32} {Y : va_W} {i : Nat} {n0 : Nat} (hX : EnvX X) (hC : CInv f) (hi4 : i < 4) (hz : 0 < f 4 i) (hc : n0 < 1000) (hk : n0 % f 4 i = 0) : Cd l D cy X yX2_isMoveSound cX2_isMoveSound 5 (some .boolean) (rmz 4 220) [.ref (a 0 0), .ref (a 1 i), .int (nI n0)] (WC cy a f r kn ++ Y) (some (.int (nI 1))) (WC cy a (up2 (up2 (up2 f 4 9 (f 4 i)) 4 8 (f 4 i)) 4 10 (f 4 i)) (revS (revS (cpy2 (scS (cpy2 (cpy2 r (f 0 i) (f 3 i) (f 0 9) (f 3 9) (f 4 i)) (f 0 9) (f 3 9) (f 0 8) (f 3 8) (f 4 i)) (f 0 9) (f 3 9) (f 4 i) (rotN (f 4 i) (n0 % (f 4 i))) (fun q => (cpy2 r (f 0 i) (f 3 i) (f 0 9) (f 3 9) (f 4 i)) (f 0 9) (f 3 9 + q))) (f 0 i) (f 3 i) (f 0 10) (f 3 10) (f 4 i)) (f 0 10) (f 3 10 + 0) (f 3 10 + (f 4 i))) (f 0 10) (f 3 10 + (n0 % (f 4 i))) (f 3 10 + (f 4 i))) kn ++ Y) := by
  have q3 := hC.sp
  have sp := hC.sp
  have q1 := hC.rw hi4
  obtain ⟨sp0, sp1, sp2, sp3, sp4, sp5, sp6, sp7, sp8⟩ := sp
  obtain ⟨q2, q3, q4, q5, q6, q7⟩ := q1
  have q8 : (nI n0).toInt = (n0 : Int) := nI_toInt (by omega)
  refine Cm.of [some (.ref (a 0 0)), some (.ref (a 1 i)), some (.int (nI n0)), none, none] pn_X2 rfl (Nat.le_of_ble_eq_true rfl) ?_
  intro p e s m args below meth c A C hE hr hnt hn
  refine r_aload_n C dX2_isMoveSound_0 rfl ?_
  refine p_getN (v := .int (nI (f 4 i))) hX C hE 4 (by first | omega | (simp [up2, *]; done) | (simp [up2, *]; omega) | (simp only [up2_eq]; omega) | (split <;> omega)) (by decide) qn_X2_50 rfl rfl dX2_isMoveSound_1 ?_
  refine r_istore_n C dX2_isMoveSound_4 (by decide) rfl ?_
  refine r_iload_n C dX2_isMoveSound_5 rfl ?_
  refine r_ifN_ne (a := (f 4 i)) (tgt := 13) C (by first | omega | (simp [up2, *]; done) | (simp [up2, *]; omega) | (simp only [up2_eq]; omega) | (split <;> omega)) dX2_isMoveSound_6 (by decide) (fun h6_1 => ?_) (fun h6_1 => ?_)
  · skip
    refine r_iload_n C dX2_isMoveSound_13 rfl ?_
    refine r_iload_n C dX2_isMoveSound_14 rfl ?_
    refine r_iremN C dX2_isMoveSound_15 (by first | omega | (simp [up2, *]; done) | (simp [up2, *]; omega) | (simp only [up2_eq]; omega) | (split <;> omega)) (by first | omega | (simp [up2, *]; done) | (simp [up2, *]; omega) | (simp only [up2_eq]; omega) | (split <;> omega)) (by first | omega | (simp [up2, *]; done) | (simp [up2, *]; omega) | (simp only [up2_eq]; omega) | (split <;> omega)) ?_
    refine r_istore C dX2_isMoveSound_16 (by decide) rfl ?_
    refine r_aload_n C dX2_isMoveSound_18 rfl ?_
    refine s_get C 3 (by decide) qf_X2_33 rfl rfl dX2_isMoveSound_19 ?_
    refine r_aload_n C dX2_isMoveSound_22 rfl ?_
    refine d_Vv (st := []) hX.stb C hE (C_becomeLike (f := f) (r := r) (kn := kn) (i := 9) (j := i) hX (by first | omega | (simp [up2, *]; done) | (simp [up2, *]; omega) | (simp only [up2_eq]; omega) | (split <;> omega)) (by first | omega | (simp [up2, *]; done) | (simp [up2, *]; omega) | (simp only [up2_eq]; omega) | (split <;> omega)) (by first | omega | (simp [up2, *]; done) | (simp [up2, *]; omega) | (simp only [up2_eq]; omega) | (split <;> omega)) (by first | omega | (simp [up2, *]; done) | (simp [up2, *]; omega) | (simp only [up2_eq]; omega) | (split <;> omega)) (by first | omega | (simp [up2, *]; done) | (simp [up2, *]; omega) | (simp only [up2_eq]; omega) | (split <;> omega)) (by first | omega | (simp [up2, *]; done) | (simp [up2, *]; omega) | (simp only [up2_eq]; omega) | (split <;> omega))) pk_X1_becomeLike qm_X2_79 (3 + 9) 5 rfl rfl (wc_p (by first | omega | (simp [up2, *]; done) | (simp [up2, *]; omega) | (simp only [up2_eq]; omega) | (split <;> omega))) rfl rfl (Nat.le_of_ble_eq_true rfl) dX2_isMoveSound_23 ⟨Nat.le_of_ble_eq_true rfl, Nat.le_of_ble_eq_true rfl⟩ ⟨Nat.le_of_ble_eq_true rfl, Nat.le_of_ble_eq_true rfl⟩ ?_
    refine r_aload_n C dX2_isMoveSound_26 rfl ?_
    refine s_get C 3 (by decide) qf_X2_33 rfl rfl dX2_isMoveSound_27 ?_
    refine r_iload_n C dX2_isMoveSound_30 rfl ?_
    refine r_aload_n C dX2_isMoveSound_31 rfl ?_
    refine s_get C 2 (by decide) qf_X2_29 rfl rfl dX2_isMoveSound_32 ?_
    refine d_Vv (st := []) hX.stb C hE (C_moveUp (f := (up2 f 4 9 (f 4 i))) (r := (cpy2 r (f 0 i) (f 3 i) (f 0 9) (f 3 9) (f 4 i))) (kn := kn) (i := 9) (j := 8) (x := ((nI n0))) hX (by first | omega | (simp [up2, *]; done) | (simp [up2, *]; omega) | (simp only [up2_eq]; omega) | (split <;> omega)) (by first | omega | (simp [up2, *]; done) | (simp [up2, *]; omega) | (simp only [up2_eq]; omega) | (split <;> omega)) (by first | omega | (simp [up2, *]; done) | (simp [up2, *]; omega) | (simp only [up2_eq]; omega) | (split <;> omega)) (by first | omega | (simp [up2, *]; done) | (simp [up2, *]; omega) | (simp only [up2_eq]; omega) | (split <;> omega)) (by first | omega | (simp [up2, *]; done) | (simp [up2, *]; omega) | (simp only [up2_eq]; omega) | (split <;> omega)) (by first | omega | (simp [up2, *]; done) | (simp [up2, *]; omega) | (simp only [up2_eq]; omega) | (split <;> omega)) (by first | omega | (simp [up2, *]; done) | (simp [up2, *]; omega) | (simp only [up2_eq]; omega) | (split <;> omega)) (by first | omega | (simp [up2, *]; done) | (simp [up2, *]; omega) | (simp only [up2_eq]; omega) | (split <;> omega)) (by first | omega | (simp [up2, *]; done) | (simp [up2, *]; omega) | (simp only [up2_eq]; omega) | (split <;> omega)) (by first | omega | (simp [up2, *]; done) | (simp [up2, *]; omega) | (simp only [up2_eq]; omega) | (split <;> omega)) (by first | omega | (simp [up2, *]; done) | (simp [up2, *]; omega) | (simp only [up2_eq]; omega) | (split <;> omega))) pk_X1_moveUp qm_X2_97 (3 + 9) 5 rfl rfl (wc_p (by first | omega | (simp [up2, *]; done) | (simp [up2, *]; omega) | (simp only [up2_eq]; omega) | (split <;> omega))) rfl rfl (Nat.le_of_ble_eq_true rfl) dX2_isMoveSound_35 ⟨Nat.le_of_ble_eq_true rfl, Nat.le_of_ble_eq_true rfl⟩ ⟨Nat.le_of_ble_eq_true rfl, Nat.le_of_ble_eq_true rfl⟩ ?_
    refine r_aload_n C dX2_isMoveSound_38 rfl ?_
    refine s_get C 4 (by decide) qf_X2_36 rfl rfl dX2_isMoveSound_39 ?_
    refine r_aload_n C dX2_isMoveSound_42 rfl ?_
    refine d_Vv (st := []) hX.stb C hE (C_becomeLike (f := (up2 (up2 f 4 9 (f 4 i)) 4 8 (f 4 i))) (r := (scS (cpy2 (cpy2 r (f 0 i) (f 3 i) (f 0 9) (f 3 9) (f 4 i)) (f 0 9) (f 3 9) (f 0 8) (f 3 8) (f 4 i)) (f 0 9) (f 3 9) (f 4 i) (rotN (f 4 i) (shN ((nI n0)) (f 4 i))) (fun q => (cpy2 r (f 0 i) (f 3 i) (f 0 9) (f 3 9) (f 4 i)) (f 0 9) (f 3 9 + q)))) (kn := kn) (i := 10) (j := i) hX (by first | omega | (simp [up2, *]; done) | (simp [up2, *]; omega) | (simp only [up2_eq]; omega) | (split <;> omega)) (by first | omega | (simp [up2, *]; done) | (simp [up2, *]; omega) | (simp only [up2_eq]; omega) | (split <;> omega)) (by first | omega | (simp [up2, *]; done) | (simp [up2, *]; omega) | (simp only [up2_eq]; omega) | (split <;> omega)) (by first | omega | (simp [up2, *]; done) | (simp [up2, *]; omega) | (simp only [up2_eq]; omega) | (split <;> omega)) (by first | omega | (simp [up2, *]; done) | (simp [up2, *]; omega) | (simp only [up2_eq]; omega) | (split <;> omega)) (by first | omega | (simp [up2, *]; done) | (simp [up2, *]; omega) | (simp only [up2_eq]; omega) | (split <;> omega))) pk_X1_becomeLike qm_X2_79 (3 + 10) 5 rfl rfl (wc_p (by first | omega | (simp [up2, *]; done) | (simp [up2, *]; omega) | (simp only [up2_eq]; omega) | (split <;> omega))) rfl rfl (Nat.le_of_ble_eq_true rfl) dX2_isMoveSound_43 ⟨Nat.le_of_ble_eq_true rfl, Nat.le_of_ble_eq_true rfl⟩ ⟨Nat.le_of_ble_eq_true rfl, Nat.le_of_ble_eq_true rfl⟩ ?_
    refine r_w (show WC cy a (up2 (up2 (up2 f 4 9 (f 4 i)) 4 8 (f 4 i)) 4 10 ((up2 (up2 f 4 9 (f 4 i)) 4 8 (f 4 i)) 4 i)) (cpy2 (scS (cpy2 (cpy2 r (f 0 i) (f 3 i) (f 0 9) (f 3 9) (f 4 i)) (f 0 9) (f 3 9) (f 0 8) (f 3 8) (f 4 i)) (f 0 9) (f 3 9) (f 4 i) (rotN (f 4 i) (shN ((nI n0)) (f 4 i))) (fun q => (cpy2 r (f 0 i) (f 3 i) (f 0 9) (f 3 9) (f 4 i)) (f 0 9) (f 3 9 + q))) (f 0 i) (f 3 i) (f 0 10) (f 3 10) ((up2 (up2 f 4 9 (f 4 i)) 4 8 (f 4 i)) 4 i)) kn ++ Y = WC cy a (up2 (up2 (up2 f 4 9 (f 4 i)) 4 8 (f 4 i)) 4 10 (f 4 i)) (cpy2 (scS (cpy2 (cpy2 r (f 0 i) (f 3 i) (f 0 9) (f 3 9) (f 4 i)) (f 0 9) (f 3 9) (f 0 8) (f 3 8) (f 4 i)) (f 0 9) (f 3 9) (f 4 i) (rotN (f 4 i) (n0 % (f 4 i))) (fun q => (cpy2 r (f 0 i) (f 3 i) (f 0 9) (f 3 9) (f 4 i)) (f 0 9) (f 3 9 + q))) (f 0 i) (f 3 i) (f 0 10) (f 3 10) (f 4 i)) kn ++ Y by rw [show up2 (up2 f 4 9 (f 4 i)) 4 8 (f 4 i) 4 i = f 4 i from (up2_i _ _ _ _ (by omega)).trans (up2_i _ _ _ _ (by omega)), shN_nI hc]) ?_
    refine r_aload_n C dX2_isMoveSound_46 rfl ?_
    refine s_get C 4 (by decide) qf_X2_36 rfl rfl dX2_isMoveSound_47 ?_
    refine r_iconst (v := (nI 0)) C dX2_isMoveSound_50 (by decide) ?_
    refine r_iload_n C dX2_isMoveSound_51 rfl ?_
    refine d_Vv (st := []) hX.stb C hE (C_turn (f := (up2 (up2 (up2 f 4 9 (f 4 i)) 4 8 (f 4 i)) 4 10 (f 4 i))) (r := (cpy2 (scS (cpy2 (cpy2 r (f 0 i) (f 3 i) (f 0 9) (f 3 9) (f 4 i)) (f 0 9) (f 3 9) (f 0 8) (f 3 8) (f 4 i)) (f 0 9) (f 3 9) (f 4 i) (rotN (f 4 i) (n0 % (f 4 i))) (fun q => (cpy2 r (f 0 i) (f 3 i) (f 0 9) (f 3 9) (f 4 i)) (f 0 9) (f 3 9 + q))) (f 0 i) (f 3 i) (f 0 10) (f 3 10) (f 4 i))) (kn := kn) (i := 10) (p0 := 0) (q0 := (f 4 i)) hX (by first | omega | (simp [up2, *]; done) | (simp [up2, *]; omega) | (simp only [up2_eq]; omega) | (split <;> omega)) (by first | omega | (simp [up2, *]; done) | (simp [up2, *]; omega) | (simp only [up2_eq]; omega) | (split <;> omega)) (by first | omega | (simp [up2, *]; done) | (simp [up2, *]; omega) | (simp only [up2_eq]; omega) | (split <;> omega)) (by first | omega | (simp [up2, *]; done) | (simp [up2, *]; omega) | (simp only [up2_eq]; omega) | (split <;> omega)) (by first | omega | (simp [up2, *]; done) | (simp [up2, *]; omega) | (simp only [up2_eq]; omega) | (split <;> omega))) pk_X1_turn qm_X2_105 (3 + 10) 5 rfl rfl (wc_p (by first | omega | (simp [up2, *]; done) | (simp [up2, *]; omega) | (simp only [up2_eq]; omega) | (split <;> omega))) rfl rfl (Nat.le_of_ble_eq_true rfl) dX2_isMoveSound_52 ⟨Nat.le_of_ble_eq_true rfl, Nat.le_of_ble_eq_true rfl⟩ ⟨Nat.le_of_ble_eq_true rfl, Nat.le_of_ble_eq_true rfl⟩ ?_
    refine r_aload_n C dX2_isMoveSound_55 rfl ?_
    refine s_get C 4 (by decide) qf_X2_36 rfl rfl dX2_isMoveSound_56 ?_
    refine r_iconst (v := (nI 0)) C dX2_isMoveSound_59 (by decide) ?_
    refine r_iload C dX2_isMoveSound_60 rfl ?_
    refine r_eqi (show nI (n0 % f 4 i) = nI 0 from congrArg nI hk) ?_
    refine d_Vv (st := []) hX.stb C hE (C_turn0 (f := (up2 (up2 (up2 f 4 9 (f 4 i)) 4 8 (f 4 i)) 4 10 (f 4 i))) (r := (revS (cpy2 (scS (cpy2 (cpy2 r (f 0 i) (f 3 i) (f 0 9) (f 3 9) (f 4 i)) (f 0 9) (f 3 9) (f 0 8) (f 3 8) (f 4 i)) (f 0 9) (f 3 9) (f 4 i) (rotN (f 4 i) (n0 % (f 4 i))) (fun q => (cpy2 r (f 0 i) (f 3 i) (f 0 9) (f 3 9) (f 4 i)) (f 0 9) (f 3 9 + q))) (f 0 i) (f 3 i) (f 0 10) (f 3 10) (f 4 i)) (f 0 10) (f 3 10 + 0) (f 3 10 + (f 4 i)))) (kn := kn) (i := 10) hX (by first | omega | (simp [up2, *]; done) | (simp [up2, *]; omega) | (simp only [up2_eq]; omega) | (split <;> omega))) pk_X1_turn qm_X2_105 (3 + 10) 5 rfl rfl (wc_p (by first | omega | (simp [up2, *]; done) | (simp [up2, *]; omega) | (simp only [up2_eq]; omega) | (split <;> omega))) rfl rfl (Nat.le_of_ble_eq_true rfl) dX2_isMoveSound_62 ⟨Nat.le_of_ble_eq_true rfl, Nat.le_of_ble_eq_true rfl⟩ ⟨Nat.le_of_ble_eq_true rfl, Nat.le_of_ble_eq_true rfl⟩ ?_
    refine r_aload_n C dX2_isMoveSound_65 rfl ?_
    refine s_get C 4 (by decide) qf_X2_36 rfl rfl dX2_isMoveSound_66 ?_
    refine r_iload C dX2_isMoveSound_69 rfl ?_
    refine r_iload_n C dX2_isMoveSound_71 rfl ?_
    refine d_Vv (st := []) hX.stb C hE (C_turn (f := (up2 (up2 (up2 f 4 9 (f 4 i)) 4 8 (f 4 i)) 4 10 (f 4 i))) (r := (revS (cpy2 (scS (cpy2 (cpy2 r (f 0 i) (f 3 i) (f 0 9) (f 3 9) (f 4 i)) (f 0 9) (f 3 9) (f 0 8) (f 3 8) (f 4 i)) (f 0 9) (f 3 9) (f 4 i) (rotN (f 4 i) (n0 % (f 4 i))) (fun q => (cpy2 r (f 0 i) (f 3 i) (f 0 9) (f 3 9) (f 4 i)) (f 0 9) (f 3 9 + q))) (f 0 i) (f 3 i) (f 0 10) (f 3 10) (f 4 i)) (f 0 10) (f 3 10 + 0) (f 3 10 + (f 4 i)))) (kn := kn) (i := 10) (p0 := (n0 % (f 4 i))) (q0 := (f 4 i)) hX (by first | omega | (simp [up2, *]; done) | (simp [up2, *]; omega) | (simp only [up2_eq]; omega) | (split <;> omega)) (by first | omega | (simp [up2, *]; done) | (simp [up2, *]; omega) | (simp only [up2_eq]; omega) | (split <;> omega)) (by first | omega | (simp [up2, *]; done) | (simp [up2, *]; omega) | (simp only [up2_eq]; omega) | (split <;> omega)) (by first | omega | (simp [up2, *]; done) | (simp [up2, *]; omega) | (simp only [up2_eq]; omega) | (split <;> omega)) (by first | omega | (simp [up2, *]; done) | (simp [up2, *]; omega) | (simp only [up2_eq]; omega) | (split <;> omega))) pk_X1_turn qm_X2_105 (3 + 10) 5 rfl rfl (wc_p (by first | omega | (simp [up2, *]; done) | (simp [up2, *]; omega) | (simp only [up2_eq]; omega) | (split <;> omega))) rfl rfl (Nat.le_of_ble_eq_true rfl) dX2_isMoveSound_72 ⟨Nat.le_of_ble_eq_true rfl, Nat.le_of_ble_eq_true rfl⟩ ⟨Nat.le_of_ble_eq_true rfl, Nat.le_of_ble_eq_true rfl⟩ ?_
    refine r_aload_n C dX2_isMoveSound_75 rfl ?_
    refine s_get C 3 (by decide) qf_X2_33 rfl rfl dX2_isMoveSound_76 ?_
    refine r_aload_n C dX2_isMoveSound_79 rfl ?_
    refine s_get C 4 (by decide) qf_X2_36 rfl rfl dX2_isMoveSound_80 ?_
    refine d_V (st := []) hX.stb C hE (C_isLike_yes (f := (up2 (up2 (up2 f 4 9 (f 4 i)) 4 8 (f 4 i)) 4 10 (f 4 i))) (r := (revS (revS (cpy2 (scS (cpy2 (cpy2 r (f 0 i) (f 3 i) (f 0 9) (f 3 9) (f 4 i)) (f 0 9) (f 3 9) (f 0 8) (f 3 8) (f 4 i)) (f 0 9) (f 3 9) (f 4 i) (rotN (f 4 i) (n0 % (f 4 i))) (fun q => (cpy2 r (f 0 i) (f 3 i) (f 0 9) (f 3 9) (f 4 i)) (f 0 9) (f 3 9 + q))) (f 0 i) (f 3 i) (f 0 10) (f 3 10) (f 4 i)) (f 0 10) (f 3 10 + 0) (f 3 10 + (f 4 i))) (f 0 10) (f 3 10 + (n0 % (f 4 i))) (f 3 10 + (f 4 i)))) (kn := kn) (i := 9) (j := 10) hX (by first | omega | (simp [up2, *]; done) | (simp [up2, *]; omega) | (simp only [up2_eq]; omega) | (split <;> omega)) (by first | omega | (simp [up2, *]; done) | (simp [up2, *]; omega) | (simp only [up2_eq]; omega) | (split <;> omega)) (by first | omega | (simp [up2, *]; done) | (simp [up2, *]; omega) | (simp only [up2_eq]; omega) | (split <;> omega)) (by first | omega | (simp [up2, *]; done) | (simp [up2, *]; omega) | (simp only [up2_eq]; omega) | (split <;> omega)) (by first | omega | (simp [up2, *]; done) | (simp [up2, *]; omega) | (simp only [up2_eq]; omega) | (split <;> omega)) (by first | omega | (simp [up2, *]; done) | (simp [up2, *]; omega) | (simp only [up2_eq]; omega) | (split <;> omega)) (by rw [up2_i _ _ _ _ (by omega), up2_i _ _ _ _ (by omega), up2_eq, up2_eq]) (fun q hq => by rw [up2_eq] at hq; exact mv_lk0 (k := n0 % f 4 i) (by omega) (by omega) (by omega) hk hq)) pk_X1_isLike qm_X2_161 (3 + 9) 5 rfl rfl (wc_p (by first | omega | (simp [up2, *]; done) | (simp [up2, *]; omega) | (simp only [up2_eq]; omega) | (split <;> omega))) rfl rfl (Nat.le_of_ble_eq_true rfl) dX2_isMoveSound_83 ⟨Nat.le_of_ble_eq_true rfl, Nat.le_of_ble_eq_true rfl⟩ ⟨Nat.le_of_ble_eq_true rfl, Nat.le_of_ble_eq_true rfl⟩ ?_
    exact r_zret C hr (by first | omega | (simp [up2, *]; done) | (simp [up2, *]; omega) | (simp only [up2_eq]; omega) | (split <;> omega)) dX2_isMoveSound_86 ⟨rfl, rfl⟩ (Nat.le_of_ble_eq_true rfl) (Nat.le_of_ble_eq_true rfl)
  · exact absurd h6_1 (by first | omega | (simp [up2, *]; done) | (simp [up2, *]; omega) | (simp only [up2_eq]; omega) | (split <;> omega))
theorem dX2_isMoveSound_9 : decode cX2_isMoveSound 9 = .ok (.iconst 0, 1) := dqo_3 (kb_X2_isMoveSound_0 9 rfl)
theorem dX2_isMoveSound_10 : decode cX2_isMoveSound 10 = .ok (.goto 6, 3) := dqo_167 0 6 (by decide) (kb_X2_isMoveSound_0 10 rfl) (kb_X2_isMoveSound_0 11 rfl) (kb_X2_isMoveSound_0 12 rfl)
set_option maxRecDepth 100000 in
set_option maxHeartbeats 4000000 in
theorem C_isMoveSound_0 {l : Launch} {D : va_G} {cy : Nat → ClassId} {X : (Nat → Prop) → State → Heap → Prop} {a f : Nat → Nat → Nat} {r : Nat → Nat → Int32} {kn : Int32} {Y : va_W} {i : Nat} {n0 : Nat} (hX : EnvX X) (hC : CInv f) (hi4 : i < 4) (hz : f 4 i = 0) (hc : n0 < 1000) : Cd l D cy X yX2_isMoveSound cX2_isMoveSound 5 (some .boolean) (rmz 4 220) [.ref (a 0 0), .ref (a 1 i), .int (nI n0)] (WC cy a f r kn ++ Y) (some (.int (nI 1))) (WC cy a (up2 (up2 f 4 9 (f 4 i)) 4 10 ((up2 f 4 9 (f 4 i)) 4 i)) (cpy2 (cpy2 r (f 0 i) (f 3 i) (f 0 9) (f 3 9) (f 4 i)) (f 0 i) (f 3 i) (f 0 10) (f 3 10) ((up2 f 4 9 (f 4 i)) 4 i)) kn ++ Y) := by
  have q3 := hC.sp
  have sp := hC.sp
  have q1 := hC.rw hi4
  obtain ⟨sp0, sp1, sp2, sp3, sp4, sp5, sp6, sp7, sp8⟩ := sp
  obtain ⟨q2, q3, q4, q5, q6, q7⟩ := q1
  have q8 : (nI n0).toInt = (n0 : Int) := nI_toInt (by omega)
  refine Cm.of [some (.ref (a 0 0)), some (.ref (a 1 i)), some (.int (nI n0)), none, none] pn_X2 rfl (Nat.le_of_ble_eq_true rfl) ?_
  intro p e s m args below meth c A C hE hr hnt hn
  refine r_aload_n C dX2_isMoveSound_0 rfl ?_
  refine p_getN (v := .int (nI (f 4 i))) hX C hE 4 (by first | omega | (simp [up2, *]; done) | (simp [up2, *]; omega) | (simp only [up2_eq]; omega) | (split <;> omega)) (by decide) qn_X2_50 rfl rfl dX2_isMoveSound_1 ?_
  refine r_istore_n C dX2_isMoveSound_4 (by decide) rfl ?_
  refine r_iload_n C dX2_isMoveSound_5 rfl ?_
  refine r_eqi (show (nI (f 4 i)) = nI 0 by rw [hz]) ?_
  refine r_ifN_ne (a := 0) (tgt := 13) C (by first | omega | (simp [up2, *]; done) | (simp [up2, *]; omega) | (simp only [up2_eq]; omega) | (split <;> omega)) dX2_isMoveSound_6 (by decide) (fun h6_1 => ?_) (fun h6_1 => ?_)
  · exact absurd h6_1 (by first | omega | (simp [up2, *]; done) | (simp [up2, *]; omega) | (simp only [up2_eq]; omega) | (split <;> omega))
  · skip
    refine r_iconst (v := (nI 0)) C dX2_isMoveSound_9 (by decide) ?_
    refine r_goto (tgt := 16) C dX2_isMoveSound_10 (by decide) ?_
    refine r_istore C dX2_isMoveSound_16 (by decide) rfl ?_
    refine r_aload_n C dX2_isMoveSound_18 rfl ?_
    refine s_get C 3 (by decide) qf_X2_33 rfl rfl dX2_isMoveSound_19 ?_
    refine r_aload_n C dX2_isMoveSound_22 rfl ?_
    refine d_Vv (st := []) hX.stb C hE (C_becomeLike (f := f) (r := r) (kn := kn) (i := 9) (j := i) hX (by first | omega | (simp [up2, *]; done) | (simp [up2, *]; omega) | (simp only [up2_eq]; omega) | (split <;> omega)) (by first | omega | (simp [up2, *]; done) | (simp [up2, *]; omega) | (simp only [up2_eq]; omega) | (split <;> omega)) (by first | omega | (simp [up2, *]; done) | (simp [up2, *]; omega) | (simp only [up2_eq]; omega) | (split <;> omega)) (by first | omega | (simp [up2, *]; done) | (simp [up2, *]; omega) | (simp only [up2_eq]; omega) | (split <;> omega)) (by first | omega | (simp [up2, *]; done) | (simp [up2, *]; omega) | (simp only [up2_eq]; omega) | (split <;> omega)) (by first | omega | (simp [up2, *]; done) | (simp [up2, *]; omega) | (simp only [up2_eq]; omega) | (split <;> omega))) pk_X1_becomeLike qm_X2_79 (3 + 9) 5 rfl rfl (wc_p (by first | omega | (simp [up2, *]; done) | (simp [up2, *]; omega) | (simp only [up2_eq]; omega) | (split <;> omega))) rfl rfl (Nat.le_of_ble_eq_true rfl) dX2_isMoveSound_23 ⟨Nat.le_of_ble_eq_true rfl, Nat.le_of_ble_eq_true rfl⟩ ⟨Nat.le_of_ble_eq_true rfl, Nat.le_of_ble_eq_true rfl⟩ ?_
    refine r_aload_n C dX2_isMoveSound_26 rfl ?_
    refine s_get C 3 (by decide) qf_X2_33 rfl rfl dX2_isMoveSound_27 ?_
    refine r_iload_n C dX2_isMoveSound_30 rfl ?_
    refine r_aload_n C dX2_isMoveSound_31 rfl ?_
    refine s_get C 2 (by decide) qf_X2_29 rfl rfl dX2_isMoveSound_32 ?_
    refine d_Vv (st := []) hX.stb C hE (C_moveUp0 (f := (up2 f 4 9 (f 4 i))) (r := (cpy2 r (f 0 i) (f 3 i) (f 0 9) (f 3 9) (f 4 i))) (kn := kn) (i := 9) (j := 8) (x := ((nI n0))) hX (by first | omega | (simp [up2, *]; done) | (simp [up2, *]; omega) | (simp only [up2_eq]; omega) | (split <;> omega)) (by first | omega | (simp [up2, *]; done) | (simp [up2, *]; omega) | (simp only [up2_eq]; omega) | (split <;> omega))) pk_X1_moveUp qm_X2_97 (3 + 9) 5 rfl rfl (wc_p (by first | omega | (simp [up2, *]; done) | (simp [up2, *]; omega) | (simp only [up2_eq]; omega) | (split <;> omega))) rfl rfl (Nat.le_of_ble_eq_true rfl) dX2_isMoveSound_35 ⟨Nat.le_of_ble_eq_true rfl, Nat.le_of_ble_eq_true rfl⟩ ⟨Nat.le_of_ble_eq_true rfl, Nat.le_of_ble_eq_true rfl⟩ ?_
    refine r_aload_n C dX2_isMoveSound_38 rfl ?_
    refine s_get C 4 (by decide) qf_X2_36 rfl rfl dX2_isMoveSound_39 ?_
    refine r_aload_n C dX2_isMoveSound_42 rfl ?_
    refine d_Vv (st := []) hX.stb C hE (C_becomeLike (f := (up2 f 4 9 (f 4 i))) (r := (cpy2 r (f 0 i) (f 3 i) (f 0 9) (f 3 9) (f 4 i))) (kn := kn) (i := 10) (j := i) hX (by first | omega | (simp [up2, *]; done) | (simp [up2, *]; omega) | (simp only [up2_eq]; omega) | (split <;> omega)) (by first | omega | (simp [up2, *]; done) | (simp [up2, *]; omega) | (simp only [up2_eq]; omega) | (split <;> omega)) (by first | omega | (simp [up2, *]; done) | (simp [up2, *]; omega) | (simp only [up2_eq]; omega) | (split <;> omega)) (by first | omega | (simp [up2, *]; done) | (simp [up2, *]; omega) | (simp only [up2_eq]; omega) | (split <;> omega)) (by first | omega | (simp [up2, *]; done) | (simp [up2, *]; omega) | (simp only [up2_eq]; omega) | (split <;> omega)) (by first | omega | (simp [up2, *]; done) | (simp [up2, *]; omega) | (simp only [up2_eq]; omega) | (split <;> omega))) pk_X1_becomeLike qm_X2_79 (3 + 10) 5 rfl rfl (wc_p (by first | omega | (simp [up2, *]; done) | (simp [up2, *]; omega) | (simp only [up2_eq]; omega) | (split <;> omega))) rfl rfl (Nat.le_of_ble_eq_true rfl) dX2_isMoveSound_43 ⟨Nat.le_of_ble_eq_true rfl, Nat.le_of_ble_eq_true rfl⟩ ⟨Nat.le_of_ble_eq_true rfl, Nat.le_of_ble_eq_true rfl⟩ ?_
    refine r_aload_n C dX2_isMoveSound_46 rfl ?_
    refine s_get C 4 (by decide) qf_X2_36 rfl rfl dX2_isMoveSound_47 ?_
    refine r_iconst (v := (nI 0)) C dX2_isMoveSound_50 (by decide) ?_
    refine r_iload_n C dX2_isMoveSound_51 rfl ?_
    refine r_eqi (show (nI (f 4 i)) = nI 0 by first | rfl | (rw [hz]) | (simp [up2, *]; done)) ?_
    refine d_Vv (st := []) hX.stb C hE (C_turn0 (f := (up2 (up2 f 4 9 (f 4 i)) 4 10 ((up2 f 4 9 (f 4 i)) 4 i))) (r := (cpy2 (cpy2 r (f 0 i) (f 3 i) (f 0 9) (f 3 9) (f 4 i)) (f 0 i) (f 3 i) (f 0 10) (f 3 10) ((up2 f 4 9 (f 4 i)) 4 i))) (kn := kn) (i := 10) hX (by first | omega | (simp [up2, *]; done) | (simp [up2, *]; omega) | (simp only [up2_eq]; omega) | (split <;> omega))) pk_X1_turn qm_X2_105 (3 + 10) 5 rfl rfl (wc_p (by first | omega | (simp [up2, *]; done) | (simp [up2, *]; omega) | (simp only [up2_eq]; omega) | (split <;> omega))) rfl rfl (Nat.le_of_ble_eq_true rfl) dX2_isMoveSound_52 ⟨Nat.le_of_ble_eq_true rfl, Nat.le_of_ble_eq_true rfl⟩ ⟨Nat.le_of_ble_eq_true rfl, Nat.le_of_ble_eq_true rfl⟩ ?_
    refine r_aload_n C dX2_isMoveSound_55 rfl ?_
    refine s_get C 4 (by decide) qf_X2_36 rfl rfl dX2_isMoveSound_56 ?_
    refine r_iconst (v := (nI 0)) C dX2_isMoveSound_59 (by decide) ?_
    refine r_iload C dX2_isMoveSound_60 rfl ?_
    refine d_Vv (st := []) hX.stb C hE (C_turn0 (f := (up2 (up2 f 4 9 (f 4 i)) 4 10 ((up2 f 4 9 (f 4 i)) 4 i))) (r := (cpy2 (cpy2 r (f 0 i) (f 3 i) (f 0 9) (f 3 9) (f 4 i)) (f 0 i) (f 3 i) (f 0 10) (f 3 10) ((up2 f 4 9 (f 4 i)) 4 i))) (kn := kn) (i := 10) hX (by first | omega | (simp [up2, *]; done) | (simp [up2, *]; omega) | (simp only [up2_eq]; omega) | (split <;> omega))) pk_X1_turn qm_X2_105 (3 + 10) 5 rfl rfl (wc_p (by first | omega | (simp [up2, *]; done) | (simp [up2, *]; omega) | (simp only [up2_eq]; omega) | (split <;> omega))) rfl rfl (Nat.le_of_ble_eq_true rfl) dX2_isMoveSound_62 ⟨Nat.le_of_ble_eq_true rfl, Nat.le_of_ble_eq_true rfl⟩ ⟨Nat.le_of_ble_eq_true rfl, Nat.le_of_ble_eq_true rfl⟩ ?_
    refine r_aload_n C dX2_isMoveSound_65 rfl ?_
    refine s_get C 4 (by decide) qf_X2_36 rfl rfl dX2_isMoveSound_66 ?_
    refine r_iload C dX2_isMoveSound_69 rfl ?_
    refine r_iload_n C dX2_isMoveSound_71 rfl ?_
    refine r_eqi (show (nI (f 4 i)) = nI 0 by first | rfl | (rw [hz]) | (simp [up2, *]; done)) ?_
    refine d_Vv (st := []) hX.stb C hE (C_turn0 (f := (up2 (up2 f 4 9 (f 4 i)) 4 10 ((up2 f 4 9 (f 4 i)) 4 i))) (r := (cpy2 (cpy2 r (f 0 i) (f 3 i) (f 0 9) (f 3 9) (f 4 i)) (f 0 i) (f 3 i) (f 0 10) (f 3 10) ((up2 f 4 9 (f 4 i)) 4 i))) (kn := kn) (i := 10) hX (by first | omega | (simp [up2, *]; done) | (simp [up2, *]; omega) | (simp only [up2_eq]; omega) | (split <;> omega))) pk_X1_turn qm_X2_105 (3 + 10) 5 rfl rfl (wc_p (by first | omega | (simp [up2, *]; done) | (simp [up2, *]; omega) | (simp only [up2_eq]; omega) | (split <;> omega))) rfl rfl (Nat.le_of_ble_eq_true rfl) dX2_isMoveSound_72 ⟨Nat.le_of_ble_eq_true rfl, Nat.le_of_ble_eq_true rfl⟩ ⟨Nat.le_of_ble_eq_true rfl, Nat.le_of_ble_eq_true rfl⟩ ?_
    refine r_aload_n C dX2_isMoveSound_75 rfl ?_
    refine s_get C 3 (by decide) qf_X2_33 rfl rfl dX2_isMoveSound_76 ?_
    refine r_aload_n C dX2_isMoveSound_79 rfl ?_
    refine s_get C 4 (by decide) qf_X2_36 rfl rfl dX2_isMoveSound_80 ?_
    refine d_V (st := []) hX.stb C hE (C_isLike_yes (f := (up2 (up2 f 4 9 (f 4 i)) 4 10 ((up2 f 4 9 (f 4 i)) 4 i))) (r := (cpy2 (cpy2 r (f 0 i) (f 3 i) (f 0 9) (f 3 9) (f 4 i)) (f 0 i) (f 3 i) (f 0 10) (f 3 10) ((up2 f 4 9 (f 4 i)) 4 i))) (kn := kn) (i := 9) (j := 10) hX (by first | omega | (simp [up2, *]; done) | (simp [up2, *]; omega) | (simp only [up2_eq]; omega) | (split <;> omega)) (by first | omega | (simp [up2, *]; done) | (simp [up2, *]; omega) | (simp only [up2_eq]; omega) | (split <;> omega)) (by first | omega | (simp [up2, *]; done) | (simp [up2, *]; omega) | (simp only [up2_eq]; omega) | (split <;> omega)) (by first | omega | (simp [up2, *]; done) | (simp [up2, *]; omega) | (simp only [up2_eq]; omega) | (split <;> omega)) (by first | omega | (simp [up2, *]; done) | (simp [up2, *]; omega) | (simp only [up2_eq]; omega) | (split <;> omega)) (by first | omega | (simp [up2, *]; done) | (simp [up2, *]; omega) | (simp only [up2_eq]; omega) | (split <;> omega)) (by simp [up2, *]) (fun q hq => absurd hq (by simp [up2, *]))) pk_X1_isLike qm_X2_161 (3 + 9) 5 rfl rfl (wc_p (by first | omega | (simp [up2, *]; done) | (simp [up2, *]; omega) | (simp only [up2_eq]; omega) | (split <;> omega))) rfl rfl (Nat.le_of_ble_eq_true rfl) dX2_isMoveSound_83 ⟨Nat.le_of_ble_eq_true rfl, Nat.le_of_ble_eq_true rfl⟩ ⟨Nat.le_of_ble_eq_true rfl, Nat.le_of_ble_eq_true rfl⟩ ?_
    exact r_zret C hr (by first | omega | (simp [up2, *]; done) | (simp [up2, *]; omega) | (simp only [up2_eq]; omega) | (split <;> omega)) dX2_isMoveSound_86 ⟨rfl, rfl⟩ (Nat.le_of_ble_eq_true rfl) (Nat.le_of_ble_eq_true rfl)
end PT_22
/-! ===== 23.order -/
section PT_23
/-! A ROW LAID IN RISING ORDER, AND ONE LAID IN FALLING ORDER -/
/-- one item more laid into both: they stay each other's mirror -/
theorem ins_core {S T S' T' : Nat → Int} {e p p' : Nat} {x : Int} (hT : ∀ q, q < e → T q = S (e - 1 - q)) (hp : p ≤ e) (hp' : p' ≤ e) (a1 : ∀ q, q < p → S q ≤ x) (a2 : ∀ q, p ≤ q → q < e → x < S q) (b1 : ∀ q, q < p' → x ≤ T q) (b2 : ∀ q, p' ≤ q → q < e → T q < x) (s1 : ∀ k, k < p → S' k = S k) (s2 : S' p = x) (s3 : ∀ k, p < k → k ≤ e → S' k = S (k - 1)) (t1 : ∀ k, k < p' → T' k = T k) (t2 : T' p' = x) (t3 : ∀ k, p' < k → k ≤ e → T' k = T (k - 1)) : ∀ q, q < e + 1 → T' q = S' (e - q) := by
  have hle : e - p' ≤ p := by
    refine Decidable.byContradiction fun z => ?_
    have h1 := a2 p (Nat.le_refl p) (by omega)
    have h2 := b2 (e - 1 - p) (by omega) (by omega)
    rw [hT _ (by omega), show e - 1 - (e - 1 - p) = p by omega] at h2
    omega
  have eqx : ∀ k, e - p' ≤ k → k < p → S k = x := fun k h1 h2 => by
    have h3 := a1 k h2
    have h4 := b1 (e - 1 - k) (by omega)
    rw [hT _ (by omega), show e - 1 - (e - 1 - k) = k by omega] at h4
    omega
  intro q hq
  rcases Nat.lt_trichotomy q p' with h | h | h
  · rw [t1 q h, hT q (by omega)]
    rcases Nat.lt_trichotomy (e - q) p with g | g | g
    · rw [s1 _ g, eqx (e - q) (by omega) g, eqx (e - 1 - q) (by omega) (by omega)]
    · rw [g, s2, eqx (e - 1 - q) (by omega) (by omega)]
    · rw [s3 _ g (by omega), show e - 1 - q = e - q - 1 by omega]
  · subst h
    rw [t2]
    rcases Nat.lt_trichotomy (e - q) p with g | g | g
    · rw [s1 _ g, eqx (e - q) (by omega) g]
    · rw [g, s2]
    · exact absurd g (by omega)
  · rw [t3 q h (by omega), hT (q - 1) (by omega), s1 (e - q) (by omega), show e - 1 - (q - 1) = e - q by omega]
/-- what rises goes on rising -/
theorem ins_up {S S' : Nat → Int} {e p : Nat} {x : Int} (hs : ∀ q, q + 1 < e → S q ≤ S (q + 1)) (hp : p ≤ e) (a1 : ∀ q, q < p → S q ≤ x) (a2 : ∀ q, p ≤ q → q < e → x < S q) (s1 : ∀ k, k < p → S' k = S k) (s2 : S' p = x) (s3 : ∀ k, p < k → k ≤ e → S' k = S (k - 1)) : ∀ q, q + 1 < e + 1 → S' q ≤ S' (q + 1) := by
  intro q hq
  rcases Nat.lt_trichotomy q p with h | h | h
  · rw [s1 q h]
    rcases Nat.lt_trichotomy (q + 1) p with g | g | g
    · rw [s1 _ g]
      exact hs q (by omega)
    · rw [g, s2]
      exact a1 q h
    · exact absurd g (by omega)
  · subst h
    rw [s2, s3 (q + 1) (by omega) (by omega), Nat.add_sub_cancel]
    exact Int.le_of_lt (a2 q (Nat.le_refl q) (by omega))
  · rw [s3 q h (by omega), s3 (q + 1) (by omega) (by omega), Nat.add_sub_cancel]
    have := hs (q - 1) (by omega)
    rw [show q - 1 + 1 = q by omega] at this
    exact this
/-- where an item is laid in -/
theorem inP_le (g : Nat → Int32) (b : Nat) (x : Int32) : ∀ e, inP g b x e ≤ e
  | 0 => Nat.le_refl 0
  | e + 1 => by
    unfold inP
    split
    · exact Nat.le_refl _
    · exact Nat.le_succ_of_le (inP_le g b x e)
theorem inP_ge (g : Nat → Int32) (b : Nat) (x : Int32) : ∀ e q, inP g b x e ≤ q → q < e → ¬ rkF b (g q) ≤ rkF b x
  | 0, q, _, h => absurd h (Nat.not_lt_zero q)
  | e + 1, q, h1, h2 => by
    unfold inP at h1
    split at h1
    · exact absurd h2 (by omega)
    · rename_i hn
      by_cases h : q = e
      · rw [h]
        exact hn
      · exact inP_ge g b x e q h1 (by omega)
theorem inP_at (g : Nat → Int32) (b : Nat) (x : Int32) : ∀ e, 0 < inP g b x e → rkF b (g (inP g b x e - 1)) ≤ rkF b x
  | 0, h => absurd h (by unfold inP; omega)
  | e + 1, h => by
    by_cases hn : rkF b (g e) ≤ rkF b x
    · have hh : inP g b x (e + 1) = e + 1 := if_pos hn
      rw [hh, Nat.add_sub_cancel]
      exact hn
    · have hh : inP g b x (e + 1) = inP g b x e := if_neg hn
      rw [hh] at h ⊢
      exact inP_at g b x e h
/-- the places behind one laying in -/
theorem in1_lt {r : Nat → Nat → Int32} {j lo b e p k : Nat} (hp : inP (fun q => r j (lo + q)) b (r j (lo + e)) e = p) (hk : k < p) : in1 r j lo b e j (lo + k) = r j (lo + k) := by
  subst hp
  unfold in1
  rw [up2_i _ _ _ _ (by omega), shf_lo (by omega)]
theorem in1_eq {r : Nat → Nat → Int32} {j lo b e p : Nat} (hp : inP (fun q => r j (lo + q)) b (r j (lo + e)) e = p) : in1 r j lo b e j (lo + p) = r j (lo + e) := by
  subst hp
  exact up2_eq _ _ _ _
theorem in1_gt {r : Nat → Nat → Int32} {j lo b e p k : Nat} (hp : inP (fun q => r j (lo + q)) b (r j (lo + e)) e = p) (hk : p < k) (hke : k ≤ e) : in1 r j lo b e j (lo + k) = r j (lo + (k - 1)) := by
  subst hp
  unfold in1
  rw [up2_i _ _ _ _ (by omega)]
  unfold shf
  rw [if_pos ⟨rfl, by omega, by omega⟩]
  exact congrArg (r j) (by omega)
theorem in1_far {r : Nat → Nat → Int32} {j lo b e k : Nat} (hke : e < k) : in1 r j lo b e j (lo + k) = r j (lo + k) := by
  have := inP_le (fun q => r j (lo + q)) b (r j (lo + e)) e
  unfold in1
  rw [up2_i _ _ _ _ (by omega)]
  unfold shf
  rw [if_neg (by omega)]
end PT_23
/-! ===== 24.order2 -/
section PT_24
theorem up_mono {S : Nat → Int} {e : Nat} (hs : ∀ q, q + 1 < e → S q ≤ S (q + 1)) : ∀ d q, q + d < e → S q ≤ S (q + d)
  | 0, q, _ => Int.le_refl _
  | d + 1, q, h => Int.le_trans (up_mono hs d q (by omega)) (hs (q + d) (by omega))
theorem rk0_le {x y : Int32} (hx : -99 ≤ x.toInt ∧ x.toInt ≤ 99) (hy : -99 ≤ y.toInt ∧ y.toInt ≤ 99) : rkF 0 x ≤ rkF 0 y ↔ y.toInt ≤ x.toInt := by
  have e1 : (-x).toInt = -x.toInt := by
    rw [Int32.toInt_neg]
    exact Int.bmod_eq_of_le (by omega) (by omega)
  have e2 : (-y).toInt = -y.toInt := by
    rw [Int32.toInt_neg]
    exact Int.bmod_eq_of_le (by omega) (by omega)
  show -x ≤ -y ↔ _
  rw [Int32.le_iff_toInt_le, e1, e2]
  omega
theorem rk3_le {x y : Int32} : rkF 3 x ≤ rkF 3 y ↔ x.toInt ≤ y.toInt := Int32.le_iff_toInt_le
theorem in1_bd {r : Nat → Nat → Int32} {j lo b e n : Nat} (he : e < n) (hb : ∀ q, q < n → -99 ≤ (r j (lo + q)).toInt ∧ (r j (lo + q)).toInt ≤ 99) : ∀ q, q < n → -99 ≤ (in1 r j lo b e j (lo + q)).toInt ∧ (in1 r j lo b e j (lo + q)).toInt ≤ 99 := by
  intro q hq
  generalize hp : inP (fun q => r j (lo + q)) b (r j (lo + e)) e = p
  rcases Nat.lt_trichotomy q p with h | h | h
  · rw [in1_lt hp h]
    exact hb q hq
  · subst h
    rw [in1_eq hp]
    exact hb e he
  · by_cases g : q ≤ e
    · rw [in1_gt hp h g]
      exact hb (q - 1) (by omega)
    · rw [in1_far (by omega)]
      exact hb q hq
theorem sr_mir (jA loA jB loB : Nat) : ∀ (d e : Nat) (rA rB : Nat → Nat → Int32), (∀ q, q < e → (rA jA (loA + q)).toInt = (rB jB (loB + (e - 1 - q))).toInt) → (∀ q, q + 1 < e → (rB jB (loB + q)).toInt ≤ (rB jB (loB + (q + 1))).toInt) → (∀ q, e ≤ q → q < e + d → rA jA (loA + q) = rB jB (loB + q)) → (∀ q, q < e + d → -99 ≤ (rA jA (loA + q)).toInt ∧ (rA jA (loA + q)).toInt ≤ 99) → (∀ q, q < e + d → -99 ≤ (rB jB (loB + q)).toInt ∧ (rB jB (loB + q)).toInt ≤ 99) → ∀ q, q < e + d → (srF jA loA 0 d e rA jA (loA + q)).toInt = (srF jB loB 3 d e rB jB (loB + (e + d - 1 - q))).toInt
  | 0, e, rA, rB, h, _, _, _, _ => fun q hq => h q hq
  | d + 1, e, rA, rB, h, hup, hrest, bA, bB => by
    have hx : rA jA (loA + e) = rB jB (loB + e) := hrest e (Nat.le_refl e) (by omega)
    have lA := inP_le (fun q => rA jA (loA + q)) 0 (rA jA (loA + e)) e
    have gA := inP_ge (fun q => rA jA (loA + q)) 0 (rA jA (loA + e)) e
    have tA := inP_at (fun q => rA jA (loA + q)) 0 (rA jA (loA + e)) e
    have lB := inP_le (fun q => rB jB (loB + q)) 3 (rB jB (loB + e)) e
    have gB := inP_ge (fun q => rB jB (loB + q)) 3 (rB jB (loB + e)) e
    have tB := inP_at (fun q => rB jB (loB + q)) 3 (rB jB (loB + e)) e
    generalize hA : inP (fun q => rA jA (loA + q)) 0 (rA jA (loA + e)) e = p' at lA gA tA
    generalize hB : inP (fun q => rB jB (loB + q)) 3 (rB jB (loB + e)) e = p at lB gB tB
    have a1 : ∀ q, q < p → (rB jB (loB + q)).toInt ≤ (rB jB (loB + e)).toInt := fun q hq => by
      have h1 := rk3_le.mp (tB (by omega))
      have h2 := up_mono (S := fun q => (rB jB (loB + q)).toInt) hup (p - 1 - q) q (by omega)
      rw [show q + (p - 1 - q) = p - 1 by omega] at h2
      exact Int.le_trans h2 h1
    have a2 : ∀ q, p ≤ q → q < e → (rB jB (loB + e)).toInt < (rB jB (loB + q)).toInt := fun q h1 h2 => by
      have h3 := gB q h1 h2
      exact Int.not_le.mp (fun z => h3 (rk3_le.mpr z))
    have b1 : ∀ q, q < p' → (rB jB (loB + e)).toInt ≤ (rA jA (loA + q)).toInt := fun q hq => by
      have h1 := (rk0_le (bA (p' - 1) (by omega)) (bA e (by omega))).mp (tA (by omega))
      have h2 := up_mono (S := fun q => (rB jB (loB + q)).toInt) hup (p' - 1 - q) (e - 1 - (p' - 1)) (by omega)
      have h3 := h (p' - 1) (by omega)
      have h4 := h q (by omega)
      rw [show e - 1 - (p' - 1) + (p' - 1 - q) = e - 1 - q by omega] at h2
      rw [hx] at h1
      have h2' : (rB jB (loB + (e - 1 - (p' - 1)))).toInt ≤ (rB jB (loB + (e - 1 - q))).toInt := h2
      omega
    have b2 : ∀ q, p' ≤ q → q < e → (rA jA (loA + q)).toInt < (rB jB (loB + e)).toInt := fun q h1 h2 => by
      have h3 := gA q h1 h2
      rw [← hx]
      exact Int.not_le.mp (fun z => h3 ((rk0_le (bA q (by omega)) (bA e (by omega))).mpr z))
    intro q hq
    have hc := ins_core (S := fun q => (rB jB (loB + q)).toInt) (T := fun q => (rA jA (loA + q)).toInt) (S' := fun q => (in1 rB jB loB 3 e jB (loB + q)).toInt) (T' := fun q => (in1 rA jA loA 0 e jA (loA + q)).toInt) (x := (rB jB (loB + e)).toInt) h lB lA a1 a2 b1 b2 (fun k hk => congrArg Int32.toInt (in1_lt hB hk)) (congrArg Int32.toInt (in1_eq hB)) (fun k h1 h2 => congrArg Int32.toInt (in1_gt hB h1 h2)) (fun k hk => congrArg Int32.toInt (in1_lt hA hk)) (congrArg Int32.toInt ((in1_eq hA).trans hx)) (fun k h1 h2 => congrArg Int32.toInt (in1_gt hA h1 h2))
    have hu := ins_up (S := fun q => (rB jB (loB + q)).toInt) (S' := fun q => (in1 rB jB loB 3 e jB (loB + q)).toInt) (x := (rB jB (loB + e)).toInt) hup lB a1 a2 (fun k hk => congrArg Int32.toInt (in1_lt hB hk)) (congrArg Int32.toInt (in1_eq hB)) (fun k h1 h2 => congrArg Int32.toInt (in1_gt hB h1 h2))
    have hh := sr_mir jA loA jB loB d (e + 1) (in1 rA jA loA 0 e) (in1 rB jB loB 3 e) (fun q hq => (hc q hq).trans (by rw [show e + 1 - 1 - q = e - q by omega])) hu (fun q h1 h2 => (in1_far (by omega)).trans ((hrest q (by omega) (by omega)).trans (in1_far (by omega)).symm)) (fun q hq => in1_bd (n := e + 1 + d) (by omega) (fun q hq => bA q (by omega)) q hq) (fun q hq => in1_bd (n := e + 1 + d) (by omega) (fun q hq => bB q (by omega)) q hq) q (by omega)
    rw [show e + (d + 1) - 1 - q = e + 1 + d - 1 - q by omega]
    exact hh
end PT_24
/-! ===== 25.sound2 -/
section PT_25
/-! CONTRACTS of the class: whether it is sound, orders -/
theorem in1_off {r : Nat → Nat → Int32} {j lo b e j' q : Nat} (h : j' ≠ j) : in1 r j lo b e j' q = r j' q := by
  unfold in1
  show (if j' = j ∧ _ then _ else shf r j lo e _ j' q) = _
  rw [if_neg (fun z => h z.1)]
  unfold shf
  rw [if_neg (fun z => h z.1)]
theorem srF_off {j lo b j' q : Nat} (h : j' ≠ j) : ∀ (d e : Nat) (r : Nat → Nat → Int32), srF j lo b d e r j' q = r j' q
  | 0, e, r => rfl
  | d + 1, e, r => (srF_off h d (e + 1) (in1 r j lo b e)).trans (in1_off h)
theorem or_lk {r : Nat → Nat → Int32} {a b j d j2 d2 n q : Nat} (h1 : a ≠ j) (h3 : j ≠ j2) (hR : ∀ q, q < n → -99 ≤ (r a (b + q)).toInt ∧ (r a (b + q)).toInt ≤ 99) (hq : q < n) : revS (srF j2 d2 3 (n - 1) 1 (cpy2 (srF j d 0 (n - 1) 1 (cpy2 r a b j d n)) a b j2 d2 n)) j2 (d2 + 0) (d2 + n) j (d + q) = revS (srF j2 d2 3 (n - 1) 1 (cpy2 (srF j d 0 (n - 1) 1 (cpy2 r a b j d n)) a b j2 d2 n)) j2 (d2 + 0) (d2 + n) j2 (d2 + q) := by
  have eA : ∀ q, q < n → cpy2 r a b j d n j (d + q) = r a (b + q) := fun q hq => cpy2_at hq
  have eB : ∀ q, q < n → cpy2 (srF j d 0 (n - 1) 1 (cpy2 r a b j d n)) a b j2 d2 n j2 (d2 + q) = r a (b + q) := fun q hq => (cpy2_at hq).trans ((srF_off h1 _ _ _).trans (cpy2_off h1))
  have hm := sr_mir j d j2 d2 (n - 1) 1 (cpy2 r a b j d n) (cpy2 (srF j d 0 (n - 1) 1 (cpy2 r a b j d n)) a b j2 d2 n) (fun q hq => by rw [eA q (by omega), eB _ (by omega), show 1 - 1 - q = q by omega]) (fun q hq => absurd hq (by omega)) (fun q h1 h2 => (eA q (by omega)).trans (eB q (by omega)).symm) (fun q hq => by rw [eA q (by omega)]; exact hR q (by omega)) (fun q hq => by rw [eB q (by omega)]; exact hR q (by omega)) q (by omega)
  rw [revS_off h3, srF_off h3, cpy2_off h3]
  refine (Int32.toInt_inj.mp hm).trans ?_
  unfold revS
  rw [if_pos ⟨rfl, by omega, by omega⟩]
  exact congrArg _ (by omega)
theorem dX2_isOrderSound_0 : decode cX2_isOrderSound 0 = .ok (.aload_n 0, 1) := dqo_42 (kb_of ke_X2_isOrderSound 0 rfl)
theorem dX2_isOrderSound_1 : decode cX2_isOrderSound 1 = .ok (.getfield 33, 3) := dqo_180 0 33 (kb_of ke_X2_isOrderSound 1 rfl) (kb_of ke_X2_isOrderSound 2 rfl) (kb_of ke_X2_isOrderSound 3 rfl)
theorem dX2_isOrderSound_4 : decode cX2_isOrderSound 4 = .ok (.aload_n 1, 1) := dqo_43 (kb_of ke_X2_isOrderSound 4 rfl)
theorem dX2_isOrderSound_5 : decode cX2_isOrderSound 5 = .ok (.invokevirtual 79, 3) := dqo_182 0 79 (kb_of ke_X2_isOrderSound 5 rfl) (kb_of ke_X2_isOrderSound 6 rfl) (kb_of ke_X2_isOrderSound 7 rfl)
theorem dX2_isOrderSound_8 : decode cX2_isOrderSound 8 = .ok (.aload_n 0, 1) := dqo_42 (kb_of ke_X2_isOrderSound 8 rfl)
theorem dX2_isOrderSound_9 : decode cX2_isOrderSound 9 = .ok (.getfield 33, 3) := dqo_180 0 33 (kb_of ke_X2_isOrderSound 9 rfl) (kb_of ke_X2_isOrderSound 10 rfl) (kb_of ke_X2_isOrderSound 11 rfl)
theorem dX2_isOrderSound_12 : decode cX2_isOrderSound 12 = .ok (.iconst 0, 1) := dqo_3 (kb_of ke_X2_isOrderSound 12 rfl)
theorem dX2_isOrderSound_13 : decode cX2_isOrderSound 13 = .ok (.invokevirtual 117, 3) := dqo_182 0 117 (kb_of ke_X2_isOrderSound 13 rfl) (kb_of ke_X2_isOrderSound 14 rfl) (kb_of ke_X2_isOrderSound 15 rfl)
theorem dX2_isOrderSound_16 : decode cX2_isOrderSound 16 = .ok (.aload_n 0, 1) := dqo_42 (kb_of ke_X2_isOrderSound 16 rfl)
theorem dX2_isOrderSound_17 : decode cX2_isOrderSound 17 = .ok (.getfield 36, 3) := dqo_180 0 36 (kb_of ke_X2_isOrderSound 17 rfl) (kb_of ke_X2_isOrderSound 18 rfl) (kb_of ke_X2_isOrderSound 19 rfl)
theorem dX2_isOrderSound_20 : decode cX2_isOrderSound 20 = .ok (.aload_n 1, 1) := dqo_43 (kb_of ke_X2_isOrderSound 20 rfl)
theorem dX2_isOrderSound_21 : decode cX2_isOrderSound 21 = .ok (.invokevirtual 79, 3) := dqo_182 0 79 (kb_of ke_X2_isOrderSound 21 rfl) (kb_of ke_X2_isOrderSound 22 rfl) (kb_of ke_X2_isOrderSound 23 rfl)
theorem dX2_isOrderSound_24 : decode cX2_isOrderSound 24 = .ok (.aload_n 0, 1) := dqo_42 (kb_of ke_X2_isOrderSound 24 rfl)
theorem dX2_isOrderSound_25 : decode cX2_isOrderSound 25 = .ok (.getfield 36, 3) := dqo_180 0 36 (kb_of ke_X2_isOrderSound 25 rfl) (kb_of ke_X2_isOrderSound 26 rfl) (kb_of ke_X2_isOrderSound 27 rfl)
theorem dX2_isOrderSound_28 : decode cX2_isOrderSound 28 = .ok (.iconst 3, 1) := dqo_6 (kb_of ke_X2_isOrderSound 28 rfl)
theorem dX2_isOrderSound_29 : decode cX2_isOrderSound 29 = .ok (.invokevirtual 117, 3) := dqo_182 0 117 (kb_of ke_X2_isOrderSound 29 rfl) (kb_of ke_X2_isOrderSound 30 rfl) (kb_of ke_X2_isOrderSound 31 rfl)
theorem dX2_isOrderSound_32 : decode cX2_isOrderSound 32 = .ok (.aload_n 0, 1) := dqo_42 (kb_of ke_X2_isOrderSound 32 rfl)
theorem dX2_isOrderSound_33 : decode cX2_isOrderSound 33 = .ok (.getfield 36, 3) := dqo_180 0 36 (kb_of ke_X2_isOrderSound 33 rfl) (kb_of ke_X2_isOrderSound 34 rfl) (kb_of ke_X2_isOrderSound 35 rfl)
theorem dX2_isOrderSound_36 : decode cX2_isOrderSound 36 = .ok (.iconst 0, 1) := dqo_3 (kb_of ke_X2_isOrderSound 36 rfl)
theorem dX2_isOrderSound_37 : decode cX2_isOrderSound 37 = .ok (.aload_n 1, 1) := dqo_43 (kb_of ke_X2_isOrderSound 37 rfl)
theorem dX2_isOrderSound_38 : decode cX2_isOrderSound 38 = .ok (.getfield 50, 3) := dqo_180 0 50 (kb_of ke_X2_isOrderSound 38 rfl) (kb_of ke_X2_isOrderSound 39 rfl) (kb_of ke_X2_isOrderSound 40 rfl)
theorem dX2_isOrderSound_41 : decode cX2_isOrderSound 41 = .ok (.invokevirtual 105, 3) := dqo_182 0 105 (kb_of ke_X2_isOrderSound 41 rfl) (kb_of ke_X2_isOrderSound 42 rfl) (kb_of ke_X2_isOrderSound 43 rfl)
theorem dX2_isOrderSound_44 : decode cX2_isOrderSound 44 = .ok (.aload_n 0, 1) := dqo_42 (kb_of ke_X2_isOrderSound 44 rfl)
theorem dX2_isOrderSound_45 : decode cX2_isOrderSound 45 = .ok (.getfield 33, 3) := dqo_180 0 33 (kb_of ke_X2_isOrderSound 45 rfl) (kb_of ke_X2_isOrderSound 46 rfl) (kb_of ke_X2_isOrderSound 47 rfl)
theorem dX2_isOrderSound_48 : decode cX2_isOrderSound 48 = .ok (.aload_n 0, 1) := dqo_42 (kb_of ke_X2_isOrderSound 48 rfl)
theorem dX2_isOrderSound_49 : decode cX2_isOrderSound 49 = .ok (.getfield 36, 3) := dqo_180 0 36 (kb_of ke_X2_isOrderSound 49 rfl) (kb_of ke_X2_isOrderSound 50 rfl) (kb_of ke_X2_isOrderSound 51 rfl)
theorem dX2_isOrderSound_52 : decode cX2_isOrderSound 52 = .ok (.invokevirtual 161, 3) := dqo_182 0 161 (kb_of ke_X2_isOrderSound 52 rfl) (kb_of ke_X2_isOrderSound 53 rfl) (kb_of ke_X2_isOrderSound 54 rfl)
theorem dX2_isOrderSound_55 : decode cX2_isOrderSound 55 = .ok (.ireturn, 1) := dqo_172 (kb_of ke_X2_isOrderSound 55 rfl)
set_option maxRecDepth 100000 in
set_option maxHeartbeats 4000000 in
theorem C_isOrderSound_ok {l : Launch} {D : va_G} {cy : Nat → ClassId} {X : (Nat → Prop) → State → Heap → Prop} {a f : Nat → Nat → Nat} {r : Nat → Nat → Int32} {kn : Int32} {Y : va_W} {i : Nat} (hX : EnvX X) (hC : CInv f) (hi4 : i < 4) (hz : 0 < f 4 i) (hR : ∀ q, q < f 4 i → -99 ≤ (r (f 0 i) (f 3 i + q)).toInt ∧ (r (f 0 i) (f 3 i + q)).toInt ≤ 99) : Cd l D cy X yX2_isOrderSound cX2_isOrderSound 2 (some .boolean) (rmz 4 200) [.ref (a 0 0), .ref (a 1 i)] (WC cy a f r kn ++ Y) (some (.int (nI 1))) (WC cy a (up2 (up2 f 4 9 (f 4 i)) 4 10 (f 4 i)) (revS (srF (f 0 10) (f 3 10) 3 (f 4 i - 1) 1 (cpy2 (srF (f 0 9) (f 3 9) 0 (f 4 i - 1) 1 (cpy2 r (f 0 i) (f 3 i) (f 0 9) (f 3 9) (f 4 i))) (f 0 i) (f 3 i) (f 0 10) (f 3 10) (f 4 i))) (f 0 10) (f 3 10 + 0) (f 3 10 + (f 4 i))) kn ++ Y) := by
  have q3 := hC.sp
  have sp := hC.sp
  have q1 := hC.rw hi4
  obtain ⟨sp0, sp1, sp2, sp3, sp4, sp5, sp6, sp7, sp8⟩ := sp
  obtain ⟨q2, q3, q4, q5, q6, q7⟩ := q1
  refine Cm.of [some (.ref (a 0 0)), some (.ref (a 1 i))] pn_X2 rfl (Nat.le_of_ble_eq_true rfl) ?_
  intro p e s m args below meth c A C hE hr hnt hn
  refine r_aload_n C dX2_isOrderSound_0 rfl ?_
  refine s_get C 3 (by decide) qf_X2_33 rfl rfl dX2_isOrderSound_1 ?_
  refine r_aload_n C dX2_isOrderSound_4 rfl ?_
  refine d_Vv (st := []) hX.stb C hE (C_becomeLike (f := f) (r := r) (kn := kn) (i := 9) (j := i) hX (by first | omega | (simp [up2, *]; done) | (simp [up2, *]; omega) | (simp only [up2_eq]; omega) | (split <;> omega)) (by first | omega | (simp [up2, *]; done) | (simp [up2, *]; omega) | (simp only [up2_eq]; omega) | (split <;> omega)) (by first | omega | (simp [up2, *]; done) | (simp [up2, *]; omega) | (simp only [up2_eq]; omega) | (split <;> omega)) (by first | omega | (simp [up2, *]; done) | (simp [up2, *]; omega) | (simp only [up2_eq]; omega) | (split <;> omega)) (by first | omega | (simp [up2, *]; done) | (simp [up2, *]; omega) | (simp only [up2_eq]; omega) | (split <;> omega)) (by first | omega | (simp [up2, *]; done) | (simp [up2, *]; omega) | (simp only [up2_eq]; omega) | (split <;> omega))) pk_X1_becomeLike qm_X2_79 (3 + 9) 5 rfl rfl (wc_p (by first | omega | (simp [up2, *]; done) | (simp [up2, *]; omega) | (simp only [up2_eq]; omega) | (split <;> omega))) rfl rfl (Nat.le_of_ble_eq_true rfl) dX2_isOrderSound_5 ⟨Nat.le_of_ble_eq_true rfl, Nat.le_of_ble_eq_true rfl⟩ ⟨Nat.le_of_ble_eq_true rfl, Nat.le_of_ble_eq_true rfl⟩ ?_
  refine r_aload_n C dX2_isOrderSound_8 rfl ?_
  refine s_get C 3 (by decide) qf_X2_33 rfl rfl dX2_isOrderSound_9 ?_
  refine r_iconst (v := (nI 0)) C dX2_isOrderSound_12 (by decide) ?_
  refine d_Vv (st := []) hX.stb C hE (C_arrange (f := (up2 f 4 9 (f 4 i))) (r := (cpy2 r (f 0 i) (f 3 i) (f 0 9) (f 3 9) (f 4 i))) (kn := kn) (i := 9) (b := 0) hX (by first | omega | (simp [up2, *]; done) | (simp [up2, *]; omega) | (simp only [up2_eq]; omega) | (split <;> omega)) (by first | omega | (simp [up2, *]; done) | (simp [up2, *]; omega) | (simp only [up2_eq]; omega) | (split <;> omega)) (by first | omega | (simp [up2, *]; done) | (simp [up2, *]; omega) | (simp only [up2_eq]; omega) | (split <;> omega)) (by first | omega | (simp [up2, *]; done) | (simp [up2, *]; omega) | (simp only [up2_eq]; omega) | (split <;> omega))) pk_X1_arrange qm_X2_117 (3 + 9) 5 rfl rfl (wc_p (by first | omega | (simp [up2, *]; done) | (simp [up2, *]; omega) | (simp only [up2_eq]; omega) | (split <;> omega))) rfl rfl (Nat.le_of_ble_eq_true rfl) dX2_isOrderSound_13 ⟨Nat.le_of_ble_eq_true rfl, Nat.le_of_ble_eq_true rfl⟩ ⟨Nat.le_of_ble_eq_true rfl, Nat.le_of_ble_eq_true rfl⟩ ?_
  refine r_aload_n C dX2_isOrderSound_16 rfl ?_
  refine s_get C 4 (by decide) qf_X2_36 rfl rfl dX2_isOrderSound_17 ?_
  refine r_aload_n C dX2_isOrderSound_20 rfl ?_
  refine d_Vv (st := []) hX.stb C hE (C_becomeLike (f := (up2 f 4 9 (f 4 i))) (r := (srF (f 0 9) (f 3 9) 0 (f 4 i - 1) 1 (cpy2 r (f 0 i) (f 3 i) (f 0 9) (f 3 9) (f 4 i)))) (kn := kn) (i := 10) (j := i) hX (by first | omega | (simp [up2, *]; done) | (simp [up2, *]; omega) | (simp only [up2_eq]; omega) | (split <;> omega)) (by first | omega | (simp [up2, *]; done) | (simp [up2, *]; omega) | (simp only [up2_eq]; omega) | (split <;> omega)) (by first | omega | (simp [up2, *]; done) | (simp [up2, *]; omega) | (simp only [up2_eq]; omega) | (split <;> omega)) (by first | omega | (simp [up2, *]; done) | (simp [up2, *]; omega) | (simp only [up2_eq]; omega) | (split <;> omega)) (by first | omega | (simp [up2, *]; done) | (simp [up2, *]; omega) | (simp only [up2_eq]; omega) | (split <;> omega)) (by first | omega | (simp [up2, *]; done) | (simp [up2, *]; omega) | (simp only [up2_eq]; omega) | (split <;> omega))) pk_X1_becomeLike qm_X2_79 (3 + 10) 5 rfl rfl (wc_p (by first | omega | (simp [up2, *]; done) | (simp [up2, *]; omega) | (simp only [up2_eq]; omega) | (split <;> omega))) rfl rfl (Nat.le_of_ble_eq_true rfl) dX2_isOrderSound_21 ⟨Nat.le_of_ble_eq_true rfl, Nat.le_of_ble_eq_true rfl⟩ ⟨Nat.le_of_ble_eq_true rfl, Nat.le_of_ble_eq_true rfl⟩ ?_
  refine r_w (show WC cy a (up2 (up2 f 4 9 (f 4 i)) 4 10 ((up2 f 4 9 (f 4 i)) 4 i)) (cpy2 (srF (f 0 9) (f 3 9) 0 (f 4 i - 1) 1 (cpy2 r (f 0 i) (f 3 i) (f 0 9) (f 3 9) (f 4 i))) (f 0 i) (f 3 i) (f 0 10) (f 3 10) ((up2 f 4 9 (f 4 i)) 4 i)) kn ++ Y = WC cy a (up2 (up2 f 4 9 (f 4 i)) 4 10 (f 4 i)) (cpy2 (srF (f 0 9) (f 3 9) 0 (f 4 i - 1) 1 (cpy2 r (f 0 i) (f 3 i) (f 0 9) (f 3 9) (f 4 i))) (f 0 i) (f 3 i) (f 0 10) (f 3 10) (f 4 i)) kn ++ Y by rw [show up2 f 4 9 (f 4 i) 4 i = f 4 i from up2_i _ _ _ _ (by omega)]) ?_
  refine r_aload_n C dX2_isOrderSound_24 rfl ?_
  refine s_get C 4 (by decide) qf_X2_36 rfl rfl dX2_isOrderSound_25 ?_
  refine r_iconst (v := (nI 3)) C dX2_isOrderSound_28 (by decide) ?_
  refine d_Vv (st := []) hX.stb C hE (C_arrange (f := (up2 (up2 f 4 9 (f 4 i)) 4 10 (f 4 i))) (r := (cpy2 (srF (f 0 9) (f 3 9) 0 (f 4 i - 1) 1 (cpy2 r (f 0 i) (f 3 i) (f 0 9) (f 3 9) (f 4 i))) (f 0 i) (f 3 i) (f 0 10) (f 3 10) (f 4 i))) (kn := kn) (i := 10) (b := 3) hX (by first | omega | (simp [up2, *]; done) | (simp [up2, *]; omega) | (simp only [up2_eq]; omega) | (split <;> omega)) (by first | omega | (simp [up2, *]; done) | (simp [up2, *]; omega) | (simp only [up2_eq]; omega) | (split <;> omega)) (by first | omega | (simp [up2, *]; done) | (simp [up2, *]; omega) | (simp only [up2_eq]; omega) | (split <;> omega)) (by first | omega | (simp [up2, *]; done) | (simp [up2, *]; omega) | (simp only [up2_eq]; omega) | (split <;> omega))) pk_X1_arrange qm_X2_117 (3 + 10) 5 rfl rfl (wc_p (by first | omega | (simp [up2, *]; done) | (simp [up2, *]; omega) | (simp only [up2_eq]; omega) | (split <;> omega))) rfl rfl (Nat.le_of_ble_eq_true rfl) dX2_isOrderSound_29 ⟨Nat.le_of_ble_eq_true rfl, Nat.le_of_ble_eq_true rfl⟩ ⟨Nat.le_of_ble_eq_true rfl, Nat.le_of_ble_eq_true rfl⟩ ?_
  refine r_aload_n C dX2_isOrderSound_32 rfl ?_
  refine s_get C 4 (by decide) qf_X2_36 rfl rfl dX2_isOrderSound_33 ?_
  refine r_iconst (v := (nI 0)) C dX2_isOrderSound_36 (by decide) ?_
  refine r_aload_n C dX2_isOrderSound_37 rfl ?_
  refine p_getN (v := .int (nI ((up2 (up2 f 4 9 (f 4 i)) 4 10 (f 4 i)) 4 i))) hX C hE 4 (by first | omega | (simp [up2, *]; done) | (simp [up2, *]; omega) | (simp only [up2_eq]; omega) | (split <;> omega)) (by decide) qn_X2_50 rfl rfl dX2_isOrderSound_38 ?_
  refine r_eqi (show (nI ((up2 (up2 f 4 9 (f 4 i)) 4 10 (f 4 i)) 4 i)) = nI (f 4 i) by first | rfl | (rw [up2_i _ _ _ _ (by omega), up2_i _ _ _ _ (by omega)]) | (simp [up2, *]; omega)) ?_
  refine d_Vv (st := []) hX.stb C hE (C_turn (f := (up2 (up2 f 4 9 (f 4 i)) 4 10 (f 4 i))) (r := (srF (f 0 10) (f 3 10) 3 (f 4 i - 1) 1 (cpy2 (srF (f 0 9) (f 3 9) 0 (f 4 i - 1) 1 (cpy2 r (f 0 i) (f 3 i) (f 0 9) (f 3 9) (f 4 i))) (f 0 i) (f 3 i) (f 0 10) (f 3 10) (f 4 i)))) (kn := kn) (i := 10) (p0 := 0) (q0 := (f 4 i)) hX (by first | omega | (simp [up2, *]; done) | (simp [up2, *]; omega) | (simp only [up2_eq]; omega) | (split <;> omega)) (by first | omega | (simp [up2, *]; done) | (simp [up2, *]; omega) | (simp only [up2_eq]; omega) | (split <;> omega)) (by first | omega | (simp [up2, *]; done) | (simp [up2, *]; omega) | (simp only [up2_eq]; omega) | (split <;> omega)) (by first | omega | (simp [up2, *]; done) | (simp [up2, *]; omega) | (simp only [up2_eq]; omega) | (split <;> omega)) (by first | omega | (simp [up2, *]; done) | (simp [up2, *]; omega) | (simp only [up2_eq]; omega) | (split <;> omega))) pk_X1_turn qm_X2_105 (3 + 10) 5 rfl rfl (wc_p (by first | omega | (simp [up2, *]; done) | (simp [up2, *]; omega) | (simp only [up2_eq]; omega) | (split <;> omega))) rfl rfl (Nat.le_of_ble_eq_true rfl) dX2_isOrderSound_41 ⟨Nat.le_of_ble_eq_true rfl, Nat.le_of_ble_eq_true rfl⟩ ⟨Nat.le_of_ble_eq_true rfl, Nat.le_of_ble_eq_true rfl⟩ ?_
  refine r_aload_n C dX2_isOrderSound_44 rfl ?_
  refine s_get C 3 (by decide) qf_X2_33 rfl rfl dX2_isOrderSound_45 ?_
  refine r_aload_n C dX2_isOrderSound_48 rfl ?_
  refine s_get C 4 (by decide) qf_X2_36 rfl rfl dX2_isOrderSound_49 ?_
  refine d_V (st := []) hX.stb C hE (C_isLike_yes (f := (up2 (up2 f 4 9 (f 4 i)) 4 10 (f 4 i))) (r := (revS (srF (f 0 10) (f 3 10) 3 (f 4 i - 1) 1 (cpy2 (srF (f 0 9) (f 3 9) 0 (f 4 i - 1) 1 (cpy2 r (f 0 i) (f 3 i) (f 0 9) (f 3 9) (f 4 i))) (f 0 i) (f 3 i) (f 0 10) (f 3 10) (f 4 i))) (f 0 10) (f 3 10 + 0) (f 3 10 + (f 4 i)))) (kn := kn) (i := 9) (j := 10) hX (by first | omega | (simp [up2, *]; done) | (simp [up2, *]; omega) | (simp only [up2_eq]; omega) | (split <;> omega)) (by first | omega | (simp [up2, *]; done) | (simp [up2, *]; omega) | (simp only [up2_eq]; omega) | (split <;> omega)) (by first | omega | (simp [up2, *]; done) | (simp [up2, *]; omega) | (simp only [up2_eq]; omega) | (split <;> omega)) (by first | omega | (simp [up2, *]; done) | (simp [up2, *]; omega) | (simp only [up2_eq]; omega) | (split <;> omega)) (by first | omega | (simp [up2, *]; done) | (simp [up2, *]; omega) | (simp only [up2_eq]; omega) | (split <;> omega)) (by first | omega | (simp [up2, *]; done) | (simp [up2, *]; omega) | (simp only [up2_eq]; omega) | (split <;> omega)) (by rw [up2_i _ _ _ _ (by omega), up2_eq, up2_eq]) (fun q hq => by rw [up2_eq] at hq; exact or_lk (by omega) (by omega) hR hq)) pk_X1_isLike qm_X2_161 (3 + 9) 5 rfl rfl (wc_p (by first | omega | (simp [up2, *]; done) | (simp [up2, *]; omega) | (simp only [up2_eq]; omega) | (split <;> omega))) rfl rfl (Nat.le_of_ble_eq_true rfl) dX2_isOrderSound_52 ⟨Nat.le_of_ble_eq_true rfl, Nat.le_of_ble_eq_true rfl⟩ ⟨Nat.le_of_ble_eq_true rfl, Nat.le_of_ble_eq_true rfl⟩ ?_
  exact r_zret C hr (by first | omega | (simp [up2, *]; done) | (simp [up2, *]; omega) | (simp only [up2_eq]; omega) | (split <;> omega)) dX2_isOrderSound_55 ⟨rfl, rfl⟩ (Nat.le_of_ble_eq_true rfl) (Nat.le_of_ble_eq_true rfl)
set_option maxRecDepth 100000 in
set_option maxHeartbeats 4000000 in
theorem C_isOrderSound_0 {l : Launch} {D : va_G} {cy : Nat → ClassId} {X : (Nat → Prop) → State → Heap → Prop} {a f : Nat → Nat → Nat} {r : Nat → Nat → Int32} {kn : Int32} {Y : va_W} {i : Nat} (hX : EnvX X) (hC : CInv f) (hi4 : i < 4) (hz : f 4 i = 0) : Cd l D cy X yX2_isOrderSound cX2_isOrderSound 2 (some .boolean) (rmz 4 200) [.ref (a 0 0), .ref (a 1 i)] (WC cy a f r kn ++ Y) (some (.int (nI 1))) (WC cy a (up2 (up2 f 4 9 (f 4 i)) 4 10 ((up2 f 4 9 (f 4 i)) 4 i)) (srF (f 0 10) (f 3 10) 3 ((up2 f 4 9 (f 4 i)) 4 i - 1) 1 (cpy2 (srF (f 0 9) (f 3 9) 0 (f 4 i - 1) 1 (cpy2 r (f 0 i) (f 3 i) (f 0 9) (f 3 9) (f 4 i))) (f 0 i) (f 3 i) (f 0 10) (f 3 10) ((up2 f 4 9 (f 4 i)) 4 i))) kn ++ Y) := by
  have q3 := hC.sp
  have sp := hC.sp
  have q1 := hC.rw hi4
  obtain ⟨sp0, sp1, sp2, sp3, sp4, sp5, sp6, sp7, sp8⟩ := sp
  obtain ⟨q2, q3, q4, q5, q6, q7⟩ := q1
  refine Cm.of [some (.ref (a 0 0)), some (.ref (a 1 i))] pn_X2 rfl (Nat.le_of_ble_eq_true rfl) ?_
  intro p e s m args below meth c A C hE hr hnt hn
  refine r_aload_n C dX2_isOrderSound_0 rfl ?_
  refine s_get C 3 (by decide) qf_X2_33 rfl rfl dX2_isOrderSound_1 ?_
  refine r_aload_n C dX2_isOrderSound_4 rfl ?_
  refine d_Vv (st := []) hX.stb C hE (C_becomeLike (f := f) (r := r) (kn := kn) (i := 9) (j := i) hX (by first | omega | (simp [up2, *]; done) | (simp [up2, *]; omega) | (simp only [up2_eq]; omega) | (split <;> omega)) (by first | omega | (simp [up2, *]; done) | (simp [up2, *]; omega) | (simp only [up2_eq]; omega) | (split <;> omega)) (by first | omega | (simp [up2, *]; done) | (simp [up2, *]; omega) | (simp only [up2_eq]; omega) | (split <;> omega)) (by first | omega | (simp [up2, *]; done) | (simp [up2, *]; omega) | (simp only [up2_eq]; omega) | (split <;> omega)) (by first | omega | (simp [up2, *]; done) | (simp [up2, *]; omega) | (simp only [up2_eq]; omega) | (split <;> omega)) (by first | omega | (simp [up2, *]; done) | (simp [up2, *]; omega) | (simp only [up2_eq]; omega) | (split <;> omega))) pk_X1_becomeLike qm_X2_79 (3 + 9) 5 rfl rfl (wc_p (by first | omega | (simp [up2, *]; done) | (simp [up2, *]; omega) | (simp only [up2_eq]; omega) | (split <;> omega))) rfl rfl (Nat.le_of_ble_eq_true rfl) dX2_isOrderSound_5 ⟨Nat.le_of_ble_eq_true rfl, Nat.le_of_ble_eq_true rfl⟩ ⟨Nat.le_of_ble_eq_true rfl, Nat.le_of_ble_eq_true rfl⟩ ?_
  refine r_aload_n C dX2_isOrderSound_8 rfl ?_
  refine s_get C 3 (by decide) qf_X2_33 rfl rfl dX2_isOrderSound_9 ?_
  refine r_iconst (v := (nI 0)) C dX2_isOrderSound_12 (by decide) ?_
  refine d_Vv (st := []) hX.stb C hE (C_arrange (f := (up2 f 4 9 (f 4 i))) (r := (cpy2 r (f 0 i) (f 3 i) (f 0 9) (f 3 9) (f 4 i))) (kn := kn) (i := 9) (b := 0) hX (by first | omega | (simp [up2, *]; done) | (simp [up2, *]; omega) | (simp only [up2_eq]; omega) | (split <;> omega)) (by first | omega | (simp [up2, *]; done) | (simp [up2, *]; omega) | (simp only [up2_eq]; omega) | (split <;> omega)) (by first | omega | (simp [up2, *]; done) | (simp [up2, *]; omega) | (simp only [up2_eq]; omega) | (split <;> omega)) (by first | omega | (simp [up2, *]; done) | (simp [up2, *]; omega) | (simp only [up2_eq]; omega) | (split <;> omega))) pk_X1_arrange qm_X2_117 (3 + 9) 5 rfl rfl (wc_p (by first | omega | (simp [up2, *]; done) | (simp [up2, *]; omega) | (simp only [up2_eq]; omega) | (split <;> omega))) rfl rfl (Nat.le_of_ble_eq_true rfl) dX2_isOrderSound_13 ⟨Nat.le_of_ble_eq_true rfl, Nat.le_of_ble_eq_true rfl⟩ ⟨Nat.le_of_ble_eq_true rfl, Nat.le_of_ble_eq_true rfl⟩ ?_
  refine r_aload_n C dX2_isOrderSound_16 rfl ?_
  refine s_get C 4 (by decide) qf_X2_36 rfl rfl dX2_isOrderSound_17 ?_
  refine r_aload_n C dX2_isOrderSound_20 rfl ?_
  refine d_Vv (st := []) hX.stb C hE (C_becomeLike (f := (up2 f 4 9 (f 4 i))) (r := (srF (f 0 9) (f 3 9) 0 (f 4 i - 1) 1 (cpy2 r (f 0 i) (f 3 i) (f 0 9) (f 3 9) (f 4 i)))) (kn := kn) (i := 10) (j := i) hX (by first | omega | (simp [up2, *]; done) | (simp [up2, *]; omega) | (simp only [up2_eq]; omega) | (split <;> omega)) (by first | omega | (simp [up2, *]; done) | (simp [up2, *]; omega) | (simp only [up2_eq]; omega) | (split <;> omega)) (by first | omega | (simp [up2, *]; done) | (simp [up2, *]; omega) | (simp only [up2_eq]; omega) | (split <;> omega)) (by first | omega | (simp [up2, *]; done) | (simp [up2, *]; omega) | (simp only [up2_eq]; omega) | (split <;> omega)) (by first | omega | (simp [up2, *]; done) | (simp [up2, *]; omega) | (simp only [up2_eq]; omega) | (split <;> omega)) (by first | omega | (simp [up2, *]; done) | (simp [up2, *]; omega) | (simp only [up2_eq]; omega) | (split <;> omega))) pk_X1_becomeLike qm_X2_79 (3 + 10) 5 rfl rfl (wc_p (by first | omega | (simp [up2, *]; done) | (simp [up2, *]; omega) | (simp only [up2_eq]; omega) | (split <;> omega))) rfl rfl (Nat.le_of_ble_eq_true rfl) dX2_isOrderSound_21 ⟨Nat.le_of_ble_eq_true rfl, Nat.le_of_ble_eq_true rfl⟩ ⟨Nat.le_of_ble_eq_true rfl, Nat.le_of_ble_eq_true rfl⟩ ?_
  refine r_aload_n C dX2_isOrderSound_24 rfl ?_
  refine s_get C 4 (by decide) qf_X2_36 rfl rfl dX2_isOrderSound_25 ?_
  refine r_iconst (v := (nI 3)) C dX2_isOrderSound_28 (by decide) ?_
  refine d_Vv (st := []) hX.stb C hE (C_arrange (f := (up2 (up2 f 4 9 (f 4 i)) 4 10 ((up2 f 4 9 (f 4 i)) 4 i))) (r := (cpy2 (srF (f 0 9) (f 3 9) 0 (f 4 i - 1) 1 (cpy2 r (f 0 i) (f 3 i) (f 0 9) (f 3 9) (f 4 i))) (f 0 i) (f 3 i) (f 0 10) (f 3 10) ((up2 f 4 9 (f 4 i)) 4 i))) (kn := kn) (i := 10) (b := 3) hX (by first | omega | (simp [up2, *]; done) | (simp [up2, *]; omega) | (simp only [up2_eq]; omega) | (split <;> omega)) (by first | omega | (simp [up2, *]; done) | (simp [up2, *]; omega) | (simp only [up2_eq]; omega) | (split <;> omega)) (by first | omega | (simp [up2, *]; done) | (simp [up2, *]; omega) | (simp only [up2_eq]; omega) | (split <;> omega)) (by first | omega | (simp [up2, *]; done) | (simp [up2, *]; omega) | (simp only [up2_eq]; omega) | (split <;> omega))) pk_X1_arrange qm_X2_117 (3 + 10) 5 rfl rfl (wc_p (by first | omega | (simp [up2, *]; done) | (simp [up2, *]; omega) | (simp only [up2_eq]; omega) | (split <;> omega))) rfl rfl (Nat.le_of_ble_eq_true rfl) dX2_isOrderSound_29 ⟨Nat.le_of_ble_eq_true rfl, Nat.le_of_ble_eq_true rfl⟩ ⟨Nat.le_of_ble_eq_true rfl, Nat.le_of_ble_eq_true rfl⟩ ?_
  refine r_aload_n C dX2_isOrderSound_32 rfl ?_
  refine s_get C 4 (by decide) qf_X2_36 rfl rfl dX2_isOrderSound_33 ?_
  refine r_iconst (v := (nI 0)) C dX2_isOrderSound_36 (by decide) ?_
  refine r_aload_n C dX2_isOrderSound_37 rfl ?_
  refine p_getN (v := .int (nI ((up2 (up2 f 4 9 (f 4 i)) 4 10 ((up2 f 4 9 (f 4 i)) 4 i)) 4 i))) hX C hE 4 (by first | omega | (simp [up2, *]; done) | (simp [up2, *]; omega) | (simp only [up2_eq]; omega) | (split <;> omega)) (by decide) qn_X2_50 rfl rfl dX2_isOrderSound_38 ?_
  refine r_eqi (show (nI ((up2 (up2 f 4 9 (f 4 i)) 4 10 ((up2 f 4 9 (f 4 i)) 4 i)) 4 i)) = nI 0 by first | rfl | (simp [up2, *]; done)) ?_
  refine d_Vv (st := []) hX.stb C hE (C_turn0 (f := (up2 (up2 f 4 9 (f 4 i)) 4 10 ((up2 f 4 9 (f 4 i)) 4 i))) (r := (srF (f 0 10) (f 3 10) 3 ((up2 f 4 9 (f 4 i)) 4 i - 1) 1 (cpy2 (srF (f 0 9) (f 3 9) 0 (f 4 i - 1) 1 (cpy2 r (f 0 i) (f 3 i) (f 0 9) (f 3 9) (f 4 i))) (f 0 i) (f 3 i) (f 0 10) (f 3 10) ((up2 f 4 9 (f 4 i)) 4 i)))) (kn := kn) (i := 10) hX (by first | omega | (simp [up2, *]; done) | (simp [up2, *]; omega) | (simp only [up2_eq]; omega) | (split <;> omega))) pk_X1_turn qm_X2_105 (3 + 10) 5 rfl rfl (wc_p (by first | omega | (simp [up2, *]; done) | (simp [up2, *]; omega) | (simp only [up2_eq]; omega) | (split <;> omega))) rfl rfl (Nat.le_of_ble_eq_true rfl) dX2_isOrderSound_41 ⟨Nat.le_of_ble_eq_true rfl, Nat.le_of_ble_eq_true rfl⟩ ⟨Nat.le_of_ble_eq_true rfl, Nat.le_of_ble_eq_true rfl⟩ ?_
  refine r_aload_n C dX2_isOrderSound_44 rfl ?_
  refine s_get C 3 (by decide) qf_X2_33 rfl rfl dX2_isOrderSound_45 ?_
  refine r_aload_n C dX2_isOrderSound_48 rfl ?_
  refine s_get C 4 (by decide) qf_X2_36 rfl rfl dX2_isOrderSound_49 ?_
  refine d_V (st := []) hX.stb C hE (C_isLike_yes (f := (up2 (up2 f 4 9 (f 4 i)) 4 10 ((up2 f 4 9 (f 4 i)) 4 i))) (r := (srF (f 0 10) (f 3 10) 3 ((up2 f 4 9 (f 4 i)) 4 i - 1) 1 (cpy2 (srF (f 0 9) (f 3 9) 0 (f 4 i - 1) 1 (cpy2 r (f 0 i) (f 3 i) (f 0 9) (f 3 9) (f 4 i))) (f 0 i) (f 3 i) (f 0 10) (f 3 10) ((up2 f 4 9 (f 4 i)) 4 i)))) (kn := kn) (i := 9) (j := 10) hX (by first | omega | (simp [up2, *]; done) | (simp [up2, *]; omega) | (simp only [up2_eq]; omega) | (split <;> omega)) (by first | omega | (simp [up2, *]; done) | (simp [up2, *]; omega) | (simp only [up2_eq]; omega) | (split <;> omega)) (by first | omega | (simp [up2, *]; done) | (simp [up2, *]; omega) | (simp only [up2_eq]; omega) | (split <;> omega)) (by first | omega | (simp [up2, *]; done) | (simp [up2, *]; omega) | (simp only [up2_eq]; omega) | (split <;> omega)) (by first | omega | (simp [up2, *]; done) | (simp [up2, *]; omega) | (simp only [up2_eq]; omega) | (split <;> omega)) (by first | omega | (simp [up2, *]; done) | (simp [up2, *]; omega) | (simp only [up2_eq]; omega) | (split <;> omega)) (by simp [up2, *]) (fun q hq => absurd hq (by simp [up2, *]))) pk_X1_isLike qm_X2_161 (3 + 9) 5 rfl rfl (wc_p (by first | omega | (simp [up2, *]; done) | (simp [up2, *]; omega) | (simp only [up2_eq]; omega) | (split <;> omega))) rfl rfl (Nat.le_of_ble_eq_true rfl) dX2_isOrderSound_52 ⟨Nat.le_of_ble_eq_true rfl, Nat.le_of_ble_eq_true rfl⟩ ⟨Nat.le_of_ble_eq_true rfl, Nat.le_of_ble_eq_true rfl⟩ ?_
  exact r_zret C hr (by first | omega | (simp [up2, *]; done) | (simp [up2, *]; omega) | (simp only [up2_eq]; omega) | (split <;> omega)) dX2_isOrderSound_55 ⟨rfl, rfl⟩ (Nat.le_of_ble_eq_true rfl) (Nat.le_of_ble_eq_true rfl)
end PT_25
/-! ===== 255.items -/
section PT_255
/-! ALL ITEMS ARE FROM -99 TO 99 -/
def IB (x : Int32) : Prop := -99 ≤ x.toInt ∧ x.toInt ≤ 99
def RB (r : Nat → Nat → Int32) : Prop := ∀ j q, IB (r j q)
theorem RB.up {r : Nat → Nat → Int32} (h : RB r) {j q : Nat} {x : Int32} (hx : IB x) : RB (up2 r j q x) := fun j' q' => by
  unfold up2
  split
  · exact hx
  · exact h j' q'
theorem RB.cpy {r : Nat → Nat → Int32} (h : RB r) (j0 sp j1 dp n : Nat) : RB (cpy2 r j0 sp j1 dp n) := fun j' q' => by
  unfold cpy2
  split
  · split
    · exact h _ _
    · exact h _ _
  · exact h _ _
theorem RB.rev {r : Nat → Nat → Int32} (h : RB r) (j lo hi : Nat) : RB (revS r j lo hi) := fun j' q' => by
  unfold revS
  split
  · exact h _ _
  · exact h _ _
theorem RB.sc {r : Nat → Nat → Int32} (h : RB r) (j lo n : Nat) (src : Nat → Nat) {g : Nat → Int32} (hg : ∀ q, IB (g q)) : RB (scS r j lo n src g) := fun j' q' => by
  unfold scS
  split
  · exact hg _
  · exact h _ _
theorem RB.in1 {r : Nat → Nat → Int32} (h : RB r) (j lo b e : Nat) : RB (in1 r j lo b e) := by
  refine RB.up (fun j' q' => ?_) (h _ _)
  unfold shf
  split
  · exact h _ _
  · exact h _ _
theorem RB.sr (j lo b : Nat) : ∀ (d e : Nat) {r : Nat → Nat → Int32}, RB r → RB (srF j lo b d e r)
  | 0, e, r, h => h
  | d + 1, e, r, h => RB.sr j lo b d (e + 1) (h.in1 j lo b e)
theorem RB.ex {f : Nat → Nat → Nat} {r : Nat → Nat → Int32} (h : RB r) (w p q c : Nat) : RB (exR f r w p q c) := (h.cpy _ _ _ _ _).cpy _ _ _ _ _
theorem RB.fl {r : Nat → Nat → Int32} (h : RB r) (j lo n : Nat) {x : Int32} (hx : IB x) : RB (flR r j lo n x) := fun j' q' => by
  unfold flR
  split
  · exact hx
  · exact h _ _
theorem RB.th {r : Nat → Nat → Int32} (h : RB r) (j n : Nat) {v : Nat → Int32} (hv : ∀ q, IB (v q)) : RB (thR r j n v) := fun j' q' => by
  unfold thR
  split
  · exact hv _
  · exact h _ _
theorem tvF_ib {g : Nat → Int32} {x : Int32} (hg : ∀ q, IB (g q)) (hx : IB x) : IB (tvF g x) := by
  unfold tvF
  split
  · exact hx
  · exact hg _
theorem IB.ok {x : Int32} (h : okI x) : IB x := by
  have h1 := Int32.not_lt.mp h.1
  have h2 := Int32.not_lt.mp h.2
  rw [Int32.le_iff_toInt_le] at h1 h2
  have e1 : (nI 4294967197).toInt = -99 := by decide +kernel
  have e2 : (nI 99).toInt = 99 := by decide +kernel
  exact ⟨by omega, by omega⟩
theorem IB.nat {n : Nat} (h : n ≤ 99) : IB (nI n) := by
  have e : (nI n).toInt = (n : Int) := nI_toInt (by omega)
  exact ⟨by omega, by omega⟩
theorem RB.pl {r : Nat → Nat → Int32} (h : RB r) (j : Nat) {n : Nat} (hn : n ≤ 12) : RB (plR r j n) := fun j' q' => by
  unfold plR
  split
  · exact IB.nat (by omega)
  · exact h _ _
theorem RB.xc {r : Nat → Nat → Int32} (h : RB r) (j k1 k2 : Nat) : RB (exch2 r j k1 k2) := (h.up (h _ _)).up (h _ _)
theorem RB.si {P : Int32 → Nat} {b js : Nat} {g : Nat → Int32} (hg : ∀ q, IB (g q)) : ∀ (d k c : Nat) {r : Nat → Nat → Int32}, RB r → RB (siR P b g js d k c r)
  | 0, k, c, r, h => h
  | d + 1, k, c, r, h => by
    unfold siR
    split
    · exact RB.si hg d (k + 1) (c + 1) (h.up (hg k))
    · exact RB.si hg d (k + 1) c h
end PT_255
