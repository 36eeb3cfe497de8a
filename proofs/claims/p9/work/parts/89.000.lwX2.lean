/-! THE LAW'S START: WHAT THE STATEMENT GIVES -/
def FLL : List Cond := flatC (Jvm.Cond.and given_1 narrow_1)
def gO0 (j : Nat) : Int32 := Int32.ofNat (48 + j % 10)
def gT0 (j : Nat) : Int32 := Int32.ofNat (48 + j / 10)
theorem vk_ex {args : Array Value} {s : State} {own tx : String} {k : Nat} (h1 : (Cond.stringRef own k tx).before args s = true) (h2 : (Cond.exactly (.string own k) "java/lang/String").before args s = true) : ∃ sa, vk_R own k tx sa s := by
  obtain ⟨a, -, -, -, q1, -⟩ := Cond.exactly_spec (args := args) (first := s) (o := none) (s := s) (idx := []) (t := .string own k) (cls := "java/lang/String") h2
  exact ⟨a, vk_R.of h1 q1⟩
