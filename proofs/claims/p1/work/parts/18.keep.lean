/-! THE INVARIANT IS KEPT -/
theorem hol_row {f : Nat → Nat → Nat} (h : CInv f) : ∀ (n d w : Nat), w < 8 → f 5 w = 1 → chN f n w → n ≤ d → hlC (f 2) (f 1 w) d w ≠ 0
  | 0, d, w, hw, h5, hc, hd => hc.elim
  | n + 1, 0, w, hw, h5, hc, hd => absurd hd (by omega)
  | n + 1, d + 1, w, hw, h5, hc, hd => by
    unfold hlC
    rw [if_neg (by omega)]
    by_cases e : w = f 1 w
    · rw [if_pos e]
      omega
    · rw [if_neg e]
      rcases hc with hc | ⟨_, _, hc⟩
      · exact absurd (h.rw hc).2.1.symm e
      · by_cases h4 : w < 4
        · exact absurd (h.rw h4).2.1.symm e
        · have hwi := h.wi (by omega) hw h5
          rw [hwi.2.2.1]
          exact hol_row h n d (f 2 w) hwi.1 hwi.2.1 hc (by omega)
theorem CInv.ch {f : Nat → Nat → Nat} (h : CInv f) {w : Nat} (hw : w < 8) (h5 : f 5 w = 1) : chN f 5 w := by
  by_cases h4 : w < 4
  · exact Or.inl h4
  · exact (h.wi (by omega) hw h5).2.2.2.2.2
theorem CInv.hr {f : Nat → Nat → Nat} (h : CInv f) {w : Nat} (hw : w < 8) (h5 : f 5 w = 1) : hol f (f 1 w) w ≠ 0 := hol_row h 5 8 w hw h5 (h.ch hw h5) (by omega)
/-- the ground of a holder is one -/
theorem hol_up {f : Nat → Nat → Nat} (h : CInv f) {i : Nat} (h4 : 4 ≤ i) : ∀ (n d w : Nat), w < 8 → f 5 w = 1 → chN f n w → n < d → hlC (f 2) i d w ≠ 0 → hlC (f 2) (f 2 i) d w ≠ 0
  | 0, d, w, hw, h5, hc, hd, hh => hc.elim
  | n + 1, 0, w, hw, h5, hc, hd, hh => absurd hd (by omega)
  | n + 1, d + 1, w, hw, h5, hc, hd, hh => by
    by_cases hw4 : w < 4
    · exfalso
      have hf := hol_facts h (d + 1) i w hw h5 hh
      unfold hlC at hh
      rw [if_neg (by omega), if_neg (by omega), (h.rw hw4).2.2.1] at hh
      cases d with
      | zero => exact hh rfl
      | succ d =>
        unfold hlC at hh
        rw [if_pos rfl] at hh
        exact hh rfl
    · have hwi := h.wi (by omega) hw h5
      have hc2 : chN f n (f 2 w) := by
        rcases hc with hc | hc
        · exact absurd hc hw4
        · exact hc.2.2
      by_cases e : w = i
      · subst e
        unfold hlC
        rw [if_neg (by omega)]
        by_cases e2 : w = f 2 w
        · rw [if_pos e2]
          omega
        · rw [if_neg e2]
          cases n with
          | zero => exact hc2.elim
          | succ n =>
            cases d with
            | zero => omega
            | succ d =>
              unfold hlC
              rw [if_neg (by omega), if_pos rfl]
              omega
      · unfold hlC at hh ⊢
        rw [if_neg (by omega)] at hh ⊢
        rw [if_neg e] at hh
        by_cases e2 : w = f 2 i
        · rw [if_pos e2]
          omega
        · rw [if_neg e2]
          exact hol_up h h4 n d (f 2 w) hwi.1 hwi.2.1 hc2 (by omega) hh
theorem CInv.hu {f : Nat → Nat → Nat} (h : CInv f) {i w : Nat} (h4 : 4 ≤ i) (hw : w < 8) (h5 : f 5 w = 1) (hh : hol f i w ≠ 0) : hol f (f 2 i) w ≠ 0 := hol_up h h4 5 8 w hw h5 (h.ch hw h5) (by omega) hh
/-- a chain over windows that stay -/
theorem ch_keep {f F : Nat → Nat → Nat} (h2 : ∀ i, F 2 i = f 2 i) (hs : ∀ i, 4 ≤ i → i < 8 → F 5 i = 1 → f 2 i < 8 ∧ F 5 (f 2 i) = 1) : ∀ (n i : Nat), chN f n i → F 5 i = 1 → chN F n i
  | 0, i, hc, h5 => hc
  | n + 1, i, hc, h5 => by
    rcases hc with hc | ⟨hi, _, hc⟩
    · exact Or.inl hc
    · by_cases h4 : i < 4
      · exact Or.inl h4
      · refine Or.inr ⟨hi, h5, ?_⟩
        rw [h2]
        exact ch_keep h2 hs n (f 2 i) hc (hs i (by omega) hi h5).2
/-- the invariant, but of one cursor's place -/
def CInvD (f : Nat → Nat → Nat) (d : Nat) : Prop :=
  (∀ i, i < 4 → f 0 i = i ∧ f 1 i = i ∧ f 2 i = 4294967295 ∧ f 3 i = 0 ∧ f 4 i ≤ 12 ∧ f 5 i = 1) ∧
  (f 0 8 = 4 ∧ f 3 8 = 0 ∧ f 4 8 ≤ 12 ∧ f 0 9 = 5 ∧ f 3 9 = 0 ∧ f 4 9 ≤ 12 ∧ f 0 10 = 6 ∧ f 3 10 = 0 ∧ f 4 10 ≤ 12) ∧
  (∀ i, i < 8 → f 5 i ≤ 1 ∧ f 1 i < 4 ∧ f 0 i = f 1 i ∧ (f 2 i < 8 ∨ f 2 i = 4294967295)) ∧
  (∀ i, i < 8 → f 5 i = 1 → f 3 i + f 4 i ≤ f 4 (f 1 i)) ∧
  (∀ i, 4 ≤ i → i < 8 → f 5 i = 1 → f 2 i < 8 ∧ f 5 (f 2 i) = 1 ∧ f 1 i = f 1 (f 2 i) ∧ f 3 (f 2 i) ≤ f 3 i ∧ f 3 i + f 4 i ≤ f 3 (f 2 i) + f 4 (f 2 i) ∧ chN f 5 i) ∧
  (∀ k, k < 3 → f 6 k < 8 ∧ f 9 k ≤ 1 ∧ (k ≠ d → f 9 k = 1 → f 5 (f 6 k) = 1 ∧ f 7 k ≤ f 4 (f 6 k) ∧ (f 8 k = 4294967295 ∨ f 8 k < f 4 (f 6 k))))
theorem CInvD.all {f : Nat → Nat → Nat} {d : Nat} (h : CInvD f d) (hd : d < 3 → f 9 d = 1 → f 5 (f 6 d) = 1 ∧ f 7 d ≤ f 4 (f 6 d) ∧ (f 8 d = 4294967295 ∨ f 8 d < f 4 (f 6 d))) : CInv f := by
  obtain ⟨a1, a2, a3, a4, a5, a6⟩ := h
  refine ⟨a1, a2, a3, a4, a5, fun k hk => ⟨(a6 k hk).1, (a6 k hk).2.1, fun h9 => ?_⟩⟩
  by_cases e : k = d
  · subst e
    exact hd hk h9
  · exact (a6 k hk).2.2 e h9
/-- a change in w, with c items in the place of g -/
def chgF (f : Nat → Nat → Nat) (w c g d : Nat) : Nat → Nat → Nat := settleF (exL (up2 f 4 8 c) w c g 8) w d
theorem chg_4 (f : Nat → Nat → Nat) (w c g d i : Nat) : chgF f w c g d 4 i = if i < 8 ∧ hol f i w ≠ 0 then f 4 i + c - g else if i = 8 then c else f 4 i := by
  show exL (up2 f 4 8 c) w c g 8 4 i = _
  unfold exL
  have e : hol (up2 f 4 8 c) i w = hol f i w := rfl
  rw [e]
  by_cases h : i < 8 ∧ hol f i w ≠ 0
  · rw [if_pos ⟨rfl, h⟩, if_pos h, up2_i _ _ _ _ (by omega)]
  · rw [if_neg (fun z => h z.2), if_neg h]
    by_cases e8 : i = 8
    · subst e8
      rw [if_pos rfl, up2_eq]
    · rw [if_neg e8, up2_i _ _ _ _ e8]
theorem chg_5 (f : Nat → Nat → Nat) (w c g d i : Nat) : chgF f w c g d 5 i = if 4 ≤ i ∧ i < 8 ∧ f 1 i = f 1 w ∧ hol f i w = 0 then 0 else f 5 i := by
  show (if 5 = 5 ∧ 4 ≤ i ∧ i < 8 ∧ f 1 i = f 1 w ∧ hol f i w = 0 then 0 else f 5 i) = _
  simp only [true_and]
theorem chg_9 (f : Nat → Nat → Nat) (w c g d k : Nat) : chgF f w c g d 9 k = if k < 3 ∧ k ≠ d ∧ f 1 (f 6 k) = f 1 w then 0 else f 9 k := by
  show (if 9 = 9 ∧ k < 3 ∧ k ≠ d ∧ f 1 (f 6 k) = f 1 w then 0 else f 9 k) = _
  simp only [true_and]
theorem chg_keep {f : Nat → Nat → Nat} (h : CInv f) {w c g d : Nat} (hw : w < 8) (h5 : f 5 w = 1) (hc : c ≤ 12) (hg : g ≤ f 4 w) (hfit : f 4 (f 1 w) + c - g ≤ 12) : CInvD (chgF f w c g d) d := by
  have hal := h.al hw
  have hrw := h.rw hal.2.1
  have hR := h.hr hw h5
  have hoR := h.ho hw h5 hR
  have hin : ∀ i, i < 8 → hol f i w ≠ 0 → f 1 i = f 1 w ∧ f 4 w ≤ f 4 i ∧ f 5 i = 1 := fun i hi hh => by
    have := h.ho hw h5 hh
    exact ⟨this.2.2.1, this.2.2.2.1, this.2.1⟩
  have h5F : ∀ i, i < 8 → chgF f w c g d 5 i = 1 → f 5 i = 1 ∧ (f 1 i = f 1 w → hol f i w ≠ 0) := fun i hi hF => by
    rw [chg_5] at hF
    split at hF
    · exact absurd hF (by omega)
    · refine ⟨hF, fun e => ?_⟩
      by_cases h4 : 4 ≤ i
      · intro h0
        rename_i hn
        exact hn ⟨h4, hi, e, h0⟩
      · have hri := h.rw (show i < 4 by omega)
        have : i = f 1 w := by omega
        rw [this]
        exact hR
  have hst : ∀ i, 4 ≤ i → i < 8 → chgF f w c g d 5 i = 1 → f 2 i < 8 ∧ chgF f w c g d 5 (f 2 i) = 1 := fun i h4 hi hF => by
    obtain ⟨a1, a2⟩ := h5F i hi hF
    have hwi := h.wi h4 hi a1
    refine ⟨hwi.1, ?_⟩
    rw [chg_5, if_neg]
    · exact hwi.2.1
    · rintro ⟨_, _, z3, z4⟩
      exact h.hu h4 hw h5 (a2 (hwi.2.2.1.trans z3)) z4
  refine ⟨fun i hi => ?_, ?_, fun i hi => ?_, fun i hi hF => ?_, fun i h4 hi hF => ?_, fun k hk => ?_⟩
  · have hri := h.rw hi
    refine ⟨hri.1, hri.2.1, hri.2.2.1, hri.2.2.2.1, ?_, ?_⟩
    · rw [chg_4]
      split
      · rename_i hh
        have := hin i (by omega) hh.2
        have e : i = f 1 w := by omega
        rw [e]
        exact hfit
      · rw [if_neg (by omega)]
        omega
    · rw [chg_5, if_neg (by omega)]
      omega
  · have hs := h.sp
    refine ⟨hs.1, hs.2.1, ?_, hs.2.2.2.1, hs.2.2.2.2.1, ?_, hs.2.2.2.2.2.2.1, hs.2.2.2.2.2.2.2.1, ?_⟩
    · rw [chg_4, if_neg (by omega), if_pos rfl]
      exact hc
    · rw [chg_4, if_neg (by omega), if_neg (by omega)]
      omega
    · rw [chg_4, if_neg (by omega), if_neg (by omega)]
      omega
  · have hi2 := h.al hi
    refine ⟨?_, hi2.2.1, hi2.2.2.1, hi2.2.2.2⟩
    rw [chg_5]
    split <;> omega
  · obtain ⟨a1, a2⟩ := h5F i hi hF
    have hti := h.th hi a1
    have hai := h.al hi
    show f 3 i + chgF f w c g d 4 i ≤ chgF f w c g d 4 (f 1 i)
    rw [chg_4, chg_4]
    by_cases e : f 1 i = f 1 w
    · have hh := a2 e
      have := hin i hi hh
      rw [e] at hti
      rw [if_pos ⟨hi, hh⟩, e, if_pos ⟨by omega, hR⟩]
      omega
    · rw [if_neg (fun z => e (hin i hi z.2).1), if_neg (by omega), if_neg (fun z => e ?_), if_neg (by omega)]
      · exact hti.1
      · have h7 := hin (f 1 i) (by omega) z.2
        have h8 := h.rw hai.2.1
        omega
  · obtain ⟨a1, a2⟩ := h5F i hi hF
    have hwi := h.wi h4 hi a1
    refine ⟨hwi.1, (hst i h4 hi hF).2, hwi.2.2.1, hwi.2.2.2.1, ?_, ?_⟩
    · show f 3 i + chgF f w c g d 4 i ≤ f 3 (f 2 i) + chgF f w c g d 4 (f 2 i)
      rw [chg_4, chg_4]
      by_cases e : f 1 i = f 1 w
      · have hh := a2 e
        have h7 := hin i hi hh
        have h8 := h.hu h4 hw h5 hh
        have h9 := hin (f 2 i) hwi.1 h8
        rw [if_pos ⟨hi, hh⟩, if_pos ⟨hwi.1, h8⟩]
        omega
      · rw [if_neg (fun z => e (hin i hi z.2).1), if_neg (by omega), if_neg (fun z => e (hwi.2.2.1.trans (hin (f 2 i) hwi.1 z.2).1)), if_neg (by omega)]
        exact hwi.2.2.2.2.1
    · exact ch_keep (f := f) (F := chgF f w c g d) (fun _ => rfl) hst 5 i hwi.2.2.2.2.2 hF
  · have hck := h.cu hk
    refine ⟨hck.1, ?_, fun hkd h9 => ?_⟩
    · rw [chg_9]
      split <;> omega
    · rw [chg_9] at h9
      split at h9
      · exact absurd h9 (by omega)
      · rename_i hn
        have hne : f 1 (f 6 k) ≠ f 1 w := fun e => hn ⟨hk, hkd, e⟩
        have hc3 := hck.2.2 h9
        show chgF f w c g d 5 (f 6 k) = 1 ∧ f 7 k ≤ chgF f w c g d 4 (f 6 k) ∧ (f 8 k = 4294967295 ∨ f 8 k < chgF f w c g d 4 (f 6 k))
        rw [chg_5, if_neg (fun z => hne z.2.2.1), chg_4, if_neg (fun z => hne (hin (f 6 k) hck.1 z.2).1), if_neg (by omega)]
        exact hc3
