/-- there is no such where -/
def noW (f : Nat → Nat → Nat) (x : Int32) : Prop := ¬ ∃ w, w < 8 ∧ x = nI w ∧ f 5 w = 1
theorem in_of {x : Int32} {n : Nat} (hn : n < 2147483648) (h : 0 ≤ x ∧ x < nI n) : ∃ j, j < n ∧ x = nI j := by
  rcases pk_ix x hn with h1 | h1 | h1
  · exact absurd h.1 (Int32.not_le.mpr h1)
  · exact absurd h.2 (Int32.not_lt.mpr h1)
  · exact h1
theorem noW_or {f : Nat → Nat → Nat} {x : Int32} (h : noW f x) (h5 : ∀ i, i < 8 → f 5 i ≤ 1) : ¬ (0 ≤ x ∧ x < nI 8) ∨ ∃ w, w < 8 ∧ x = nI w ∧ f 5 w = 0 := by
  by_cases h1 : 0 ≤ x ∧ x < nI 8
  · obtain ⟨w, hw, e⟩ := in_of (by omega) h1
    refine Or.inr ⟨w, hw, e, ?_⟩
    have h2 := h5 w hw
    have h3 : f 5 w ≠ 1 := fun q => h ⟨w, hw, e, q⟩
    omega
  · exact Or.inl h1
theorem C_needWhere_no {l : Launch} {D : va_G} {cy : Nat → ClassId} {X : (Nat → Prop) → State → Heap → Prop} {a f : Nat → Nat → Nat} {r : Nat → Nat → Int32} {kn : Int32} {Y : va_W} {x : Int32} (hX : EnvX X) (hl : l.stackTraces = false) (hno : noW f x) (h5 : ∀ i, i < 8 → f 5 i ≤ 1) : Ce l D cy X yX2_needWhere cX2_needWhere 2 none (rmk 6 1 6 100) [.ref (a 0 0), .int x] (WC cy a f r kn ++ Y) "java/lang/IndexOutOfBoundsException" := by
  rcases noW_or hno h5 with h | ⟨w, hw, rfl, h0⟩
  · exact C_needWhere_noA hX hl h
  · exact C_needWhere_noB hX hl hw h0
theorem pk_X2_needWhere : PkV RX2 yX2_needWhere cX2_needWhere 2 none 1 := ⟨⟨qi_X2_needWhere, qs_X2_needWhere, qz_X2, qc_X2_needWhere⟩, by decide +kernel⟩
theorem dX2_needPlace_0 : decode cX2_needPlace 0 = .ok (.aload_n 0, 1) := by decide +kernel
theorem dX2_needPlace_1 : decode cX2_needPlace 1 = .ok (.iload_n 1, 1) := by decide +kernel
theorem dX2_needPlace_2 : decode cX2_needPlace 2 = .ok (.invokevirtual 39, 3) := by decide +kernel
theorem dX2_needPlace_5 : decode cX2_needPlace 5 = .ok (.iload_n 2, 1) := by decide +kernel
