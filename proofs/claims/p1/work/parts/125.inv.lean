/-! WHAT HOLDS OF THE CLASS'S NUMBERS BETWEEN TWO CALLS -/
/-- from w on a row is reached in n steps, over windows that are there -/
def chN (f : Nat → Nat → Nat) : Nat → Nat → Prop
  | 0, _ => False
  | n + 1, w => w < 4 ∨ (w < 8 ∧ f 5 w = 1 ∧ chN f n (f 2 w))
def CInv (f : Nat → Nat → Nat) : Prop :=
  (∀ i, i < 4 → f 0 i = i ∧ f 1 i = i ∧ f 2 i = 4294967295 ∧ f 3 i = 0 ∧ f 4 i ≤ 12 ∧ f 5 i = 1) ∧
  (f 0 8 = 4 ∧ f 3 8 = 0 ∧ f 4 8 ≤ 12 ∧ f 0 9 = 5 ∧ f 3 9 = 0 ∧ f 4 9 ≤ 12 ∧ f 0 10 = 6 ∧ f 3 10 = 0 ∧ f 4 10 ≤ 12) ∧
  (∀ i, i < 8 → f 5 i ≤ 1 ∧ f 1 i < 4 ∧ f 0 i = f 1 i ∧ (f 2 i < 8 ∨ f 2 i = 4294967295)) ∧
  (∀ i, i < 8 → f 5 i = 1 → f 3 i + f 4 i ≤ f 4 (f 1 i)) ∧
  (∀ i, 4 ≤ i → i < 8 → f 5 i = 1 → f 2 i < 8 ∧ f 5 (f 2 i) = 1 ∧ f 1 i = f 1 (f 2 i) ∧ f 3 (f 2 i) ≤ f 3 i ∧ f 3 i + f 4 i ≤ f 3 (f 2 i) + f 4 (f 2 i) ∧ chN f 5 i) ∧
  (∀ k, k < 3 → f 6 k < 8 ∧ f 9 k ≤ 1 ∧ (f 9 k = 1 → f 5 (f 6 k) = 1 ∧ f 7 k ≤ f 4 (f 6 k) ∧ (f 8 k = 4294967295 ∨ f 8 k < f 4 (f 6 k))))
theorem CInv.rw {f : Nat → Nat → Nat} (h : CInv f) {i : Nat} (hi : i < 4) : f 0 i = i ∧ f 1 i = i ∧ f 2 i = 4294967295 ∧ f 3 i = 0 ∧ f 4 i ≤ 12 ∧ f 5 i = 1 := h.1 i hi
theorem CInv.sp {f : Nat → Nat → Nat} (h : CInv f) : f 0 8 = 4 ∧ f 3 8 = 0 ∧ f 4 8 ≤ 12 ∧ f 0 9 = 5 ∧ f 3 9 = 0 ∧ f 4 9 ≤ 12 ∧ f 0 10 = 6 ∧ f 3 10 = 0 ∧ f 4 10 ≤ 12 := h.2.1
theorem CInv.al {f : Nat → Nat → Nat} (h : CInv f) {i : Nat} (hi : i < 8) : f 5 i ≤ 1 ∧ f 1 i < 4 ∧ f 0 i = f 1 i ∧ (f 2 i < 8 ∨ f 2 i = 4294967295) := h.2.2.1 i hi
theorem CInv.th {f : Nat → Nat → Nat} (h : CInv f) {i : Nat} (hi : i < 8) (h5 : f 5 i = 1) : f 3 i + f 4 i ≤ f 4 (f 1 i) ∧ f 4 (f 1 i) ≤ 12 ∧ f 0 i < 7 ∧ f 0 i ≠ 4 ∧ f 0 i ≠ f 0 8 ∧ f 3 i + f 4 i ≤ 12 := by
  have h1 := h.2.2.2.1 i hi h5
  have h2 := h.al hi
  have h3 := h.rw (i := f 1 i) h2.2.1
  have h4 := h.sp
  omega
theorem CInv.wi {f : Nat → Nat → Nat} (h : CInv f) {i : Nat} (h4 : 4 ≤ i) (hi : i < 8) (h5 : f 5 i = 1) : f 2 i < 8 ∧ f 5 (f 2 i) = 1 ∧ f 1 i = f 1 (f 2 i) ∧ f 3 (f 2 i) ≤ f 3 i ∧ f 3 i + f 4 i ≤ f 3 (f 2 i) + f 4 (f 2 i) ∧ chN f 5 i := h.2.2.2.2.1 i h4 hi h5
theorem CInv.cu {f : Nat → Nat → Nat} (h : CInv f) {k : Nat} (hk : k < 3) : f 6 k < 8 ∧ f 9 k ≤ 1 ∧ (f 9 k = 1 → f 5 (f 6 k) = 1 ∧ f 7 k ≤ f 4 (f 6 k) ∧ (f 8 k = 4294967295 ∨ f 8 k < f 4 (f 6 k))) := h.2.2.2.2.2 k hk
theorem CInv.h1 {f : Nat → Nat → Nat} (h : CInv f) : ∀ i, i < 8 → f 1 i < 4 := fun _ hi => (h.al hi).2.1
theorem CInv.h5 {f : Nat → Nat → Nat} (h : CInv f) : ∀ i, i < 8 → f 5 i ≤ 1 := fun _ hi => (h.al hi).1
theorem CInv.hG {f : Nat → Nat → Nat} (h : CInv f) : ∀ i, i < 8 → f 2 i < 8 ∨ f 2 i = 4294967295 := fun _ hi => (h.al hi).2.2.2
theorem CInv.hU {f : Nat → Nat → Nat} (h : CInv f) : ∀ k, k < 3 → f 6 k < 8 := fun _ hk => (h.cu hk).1
theorem CInv.hI {f : Nat → Nat → Nat} (h : CInv f) : ∀ i, i < 4 → f 0 i < 7 := fun i hi => by
  have := h.rw hi
  omega
theorem CInv.hI8 {f : Nat → Nat → Nat} (h : CInv f) : f 0 8 < 7 := by
  have := h.sp
  omega
/-- what a holder is -/
theorem hol_facts {f : Nat → Nat → Nat} (h : CInv f) : ∀ (d i w : Nat), w < 8 → f 5 w = 1 → hlC (f 2) i d w ≠ 0 → i < 8 ∧ f 5 i = 1 ∧ f 1 i = f 1 w ∧ f 4 w ≤ f 4 i ∧ f 3 i ≤ f 3 w ∧ f 3 w + f 4 w ≤ f 3 i + f 4 i
  | 0, i, w, hw, h5, hh => absurd rfl hh
  | d + 1, i, w, hw, h5, hh => by
    unfold hlC at hh
    rw [if_neg (by omega)] at hh
    by_cases e : w = i
    · subst e
      exact ⟨hw, h5, rfl, Nat.le_refl _, Nat.le_refl _, Nat.le_refl _⟩
    · rw [if_neg e] at hh
      by_cases h4 : w < 4
      · have h2 := (h.rw h4).2.2.1
        rw [h2] at hh
        cases d with
        | zero => exact absurd rfl hh
        | succ d =>
          unfold hlC at hh
          rw [if_pos rfl] at hh
          exact absurd rfl hh
      · have hwi := h.wi (by omega) hw h5
        obtain ⟨a1, a2, a3, a4, a5, a6⟩ := hol_facts h d i (f 2 w) hwi.1 hwi.2.1 hh
        exact ⟨a1, a2, by omega, by omega, by omega, by omega⟩
theorem CInv.ho {f : Nat → Nat → Nat} (h : CInv f) {i w : Nat} (hw : w < 8) (h5 : f 5 w = 1) (hh : hol f i w ≠ 0) : i < 8 ∧ f 5 i = 1 ∧ f 1 i = f 1 w ∧ f 4 w ≤ f 4 i ∧ f 3 i ≤ f 3 w ∧ f 3 w + f 4 w ≤ f 3 i + f 4 i := hol_facts h 8 i w hw h5 hh
theorem CInv.ho12 {f : Nat → Nat → Nat} (h : CInv f) {w : Nat} (hw : w < 8) (h5 : f 5 w = 1) : ∀ i, i < 8 → hol f i w ≠ 0 → f 4 w ≤ f 4 i ∧ f 4 i ≤ 12 := fun i hi hh => by
  have h1 := h.ho hw h5 hh
  have h2 := h.th hi h1.2.1
  omega
theorem hol_self {f : Nat → Nat → Nat} {w : Nat} (hw : w < 8) : hol f w w = 1 := by
  unfold hol hlC
  rw [if_neg (by omega), if_pos rfl]
