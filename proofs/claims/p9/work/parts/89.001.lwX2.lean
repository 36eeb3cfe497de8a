theorem ks_one {args : Array Value} {s : State} {own : String} {k n : Nat} {bs : List Int32} {A : Nat → Prop} (hn : n < 2 ^ 31) (hex : (Cond.exactly (.string own k) "java/lang/String").before args s = true) (hco : (Cond.eq (.field (.string own k) "java/lang/String" "coder" "B") (.int 0)).before args s = true)
    (har : (Cond.arrayOf (.field (.string own k) "java/lang/String" "value" "[B") .byte).before args s = true) (hle : (Cond.eq (.length (.field (.string own k) "java/lang/String" "value" "[B")) (.int (Int32.ofNat n))).before args s = true)
    (hel : ∀ j : Nat, j < n → (Cond.eq (.elem (.field (.string own k) "java/lang/String" "value" "[B") (.int (Int32.ofNat j))) (.int (bs.getD j 0))).before args s = true) (hA : ∀ a : Nat, a < s.heap.size → ¬ A a) :
    ∃ x y : Nat, vk_S 1 [n] [bs] (fun _ => x) (fun _ => y) A s s.heap ∧ (Term.string own k).eval args s none [] s = some (.ref x) := by
  obtain ⟨adK, adV, h1, h2⟩ := vk_Sof (args := args) (s := s) (N := 1) (tm := fun _ => .string own k) (len := [n]) (byt := [bs]) (A := A) (fun i hi => by
    obtain rfl : i = 0 := by omega
    exact hn) (fun _ _ => hex) (fun _ _ => hco) (fun _ _ => har) (fun i hi => by
    obtain rfl : i = 0 := by omega
    exact hle) (fun i hi j hj => by
    obtain rfl : i = 0 := by omega
    exact hel j hj) (fun i j hi hj hne => absurd (show i = j by omega) hne) hA
  exact ⟨adK 0, adV 0, ⟨fun i hi => by
    obtain rfl : i = 0 := by omega
    exact h1.1 0 hi, fun i j hi hj _ => by omega⟩, h2 0 (by decide)⟩
