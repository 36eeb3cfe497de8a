/-! THE INVARIANT OVER WINDOWS -/
theorem hl_step {g : Nat → Nat} {j d w : Nat} (hw : w < 8) (h : hlC g j (d + 1) w = 0) : w ≠ j ∧ hlC g j d (g w) = 0 := by
  unfold hlC at h
  rw [if_neg (by omega)] at h
  by_cases e : w = j
  · rw [if_pos e] at h
    exact absurd h (by decide)
  · rw [if_neg e] at h
    exact ⟨e, h⟩
theorem hl_none (g : Nat → Nat) (j d : Nat) : hlC g j d 4294967295 = 0 := by
  cases d with
  | zero => rfl
  | succ d =>
    unfold hlC
    rw [if_pos rfl]
/-- more steps find no more -/
theorem hl_more {f : Nat → Nat → Nat} (h : CInv f) {j : Nat} : ∀ (n d e w : Nat), w < 8 → chN f n w → n < d → n < e → hlC (f 2) j d w = hlC (f 2) j e w
  | 0, d, e, w, hw, hc, hd, he => absurd hc id
  | n + 1, 0, e, w, hw, hc, hd, he => absurd hd (by omega)
  | n + 1, d + 1, 0, w, hw, hc, hd, he => absurd he (by omega)
  | n + 1, d + 1, e + 1, w, hw, hc, hd, he => by
    unfold hlC
    have hne : ¬ w = 4294967295 := by omega
    simp only [if_neg hne]
    by_cases x : w = j
    · simp only [if_pos x]
    · simp only [if_neg x]
      by_cases h4 : w < 4
      · rw [(h.rw h4).2.2.1, hl_none, hl_none]
      · rcases hc with hc | ⟨_, h5, hc⟩
        · exact absurd hc h4
        · exact hl_more h n d e (f 2 w) (h.wi (by omega) hw h5).1 hc (by omega) (by omega)
/-- nor is it met from the ground on -/
theorem CInv.hd {f : Nat → Nat → Nat} (h : CInv f) {j w : Nat} (h4 : 4 ≤ w) (hw : w < 8) (h5 : f 5 w = 1) (hh : hol f j w = 0) : w ≠ j ∧ hol f j (f 2 w) = 0 := by
  obtain ⟨a, b⟩ := hl_step (d := 7) hw hh
  have hwi := h.wi h4 hw h5
  refine ⟨a, ?_⟩
  exact (hl_more h 5 8 7 (f 2 w) hwi.1 (h.ch hwi.1 hwi.2.1) (by omega) (by omega)).trans b
/-- without j among them at most three windows follow each other -/
theorem ch_four {f : Nat → Nat → Nat} (h : CInv f) {j w : Nat} (hj : 4 ≤ j) (hj8 : j < 8) (hw : w < 8) (h5 : f 5 w = 1) (hh : hol f j w = 0) : chN f 4 w := by
  have hc := h.ch hw h5
  rcases hc with hc | ⟨_, _, hc⟩
  · exact Or.inl hc
  · by_cases x0 : w < 4
    · exact Or.inl x0
    · refine Or.inr ⟨hw, h5, ?_⟩
      have w0 := h.wi (by omega) hw h5
      obtain ⟨n0, hh1⟩ := h.hd (by omega) hw h5 hh
      have g0 : ∀ z, w = z → f 2 w = f 2 z := fun z e => congrArg (f 2) e
      generalize e1 : f 2 w = w1 at *
      rcases hc with hc | ⟨_, _, hc⟩
      · exact Or.inl hc
      · by_cases x1 : w1 < 4
        · exact Or.inl x1
        · have h51 := w0.2.1
          refine Or.inr ⟨w0.1, h51, ?_⟩
          have w1' := h.wi (by omega) w0.1 h51
          obtain ⟨n1, hh2⟩ := h.hd (by omega) w0.1 h51 hh1
          have g1 : ∀ z, w1 = z → f 2 w1 = f 2 z := fun z e => congrArg (f 2) e
          generalize e2 : f 2 w1 = w2 at *
          rcases hc with hc | ⟨_, _, hc⟩
          · exact Or.inl hc
          · by_cases x2 : w2 < 4
            · exact Or.inl x2
            · have h52 := w1'.2.1
              refine Or.inr ⟨w1'.1, h52, ?_⟩
              have w2' := h.wi (by omega) w1'.1 h52
              obtain ⟨n2, hh3⟩ := h.hd (by omega) w1'.1 h52 hh2
              have g2 : ∀ z, w2 = z → f 2 w2 = f 2 z := fun z e => congrArg (f 2) e
              generalize e3 : f 2 w2 = w3 at *
              rcases hc with hc | ⟨_, _, hc⟩
              · exact Or.inl hc
              · by_cases x3 : w3 < 4
                · exact Or.inl x3
                · have h53 := w2'.2.1
                  obtain ⟨n3, hh4⟩ := h.hd (by omega) w2'.1 h53 hh3
                  have b3 := w2'.1
                  have b2 := w1'.1
                  have b1 := w0.1
                  have hc4 : f 2 w3 < 4 := by
                    rcases hc with hc | ⟨_, _, hc⟩
                    · exact hc
                    · exact absurd hc id
                  have c01 : w = w1 → w1 = w2 := fun e => by rw [← e1, ← e2, e]
                  have c02 : w = w2 → w1 = w3 := fun e => by rw [← e1, ← e3, e]
                  have c03 : w = w3 → w1 = f 2 w3 := fun e => by rw [← e1, e]
                  have c12 : w1 = w2 → w2 = w3 := fun e => by rw [← e2, ← e3, e]
                  have c13 : w1 = w3 → w2 = f 2 w3 := fun e => by rw [← e2, e]
                  have c23 : w2 = w3 → w3 = f 2 w3 := fun e => e3.symm.trans (congrArg (f 2) e)
                  exfalso
                  by_cases y0 : w = w1
                  · have := c12 (c01 y0)
                    have := c23 this
                    omega
                  · by_cases y1 : w = w2
                    · have := c13 (c02 y1)
                      omega
                    · by_cases y2 : w = w3
                      · have := c03 y2
                        omega
                      · by_cases y3 : w1 = w2
                        · have := c23 (c12 y3)
                          omega
                        · by_cases y4 : w1 = w3
                          · have := c13 y4
                            omega
                          · by_cases y5 : w2 = w3
                            · have := c23 y5
                              omega
                            · omega
