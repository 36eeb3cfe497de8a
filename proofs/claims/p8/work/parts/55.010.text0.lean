def KSN : List Nat := [2, 0, 2, 1, 1]
def KSB : List (List Int32) := [[44, 32], [], [44, 32], [91], [93]]
/-- a constant's object, its coder, its bytes, each for itself: two of one text are one object -/
def KS1 (N : Nat) (aK aV : Nat → Nat) (A : Nat → Prop) (U : State) (H : Heap) : Prop := ∀ i : Nat, i < N → vk_S 1 [KSN.getD i 0] [KSB.getD i []] (fun _ => aK i) (fun _ => aV i) A U H
theorem ks_at {N : Nat} {aK aV : Nat → Nat} {A : Nat → Prop} {U : State} {H : Heap} (h : KS1 N aK aV A U H) {i : Nat} (hi : i < N) : va_O "java/lang/String" (aK i) A U H ∧ va_OF "java/lang/String" "coder" "B" (.int 0) (aK i) A U H ∧ va_OF "java/lang/String" "value" "[B" (.ref (aV i)) (aK i) A U H ∧ va_T .byte (aV i) (KSN.getD i 0) (fun j => .int ((KSB.getD i []).getD j 0)) A U H := (h i hi).1 0 (by decide)
