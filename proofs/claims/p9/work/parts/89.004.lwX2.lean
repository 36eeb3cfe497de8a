theorem digO : ∀ j : Nat, j < 100 → FLL[14 + j]? = some (Cond.eq (.elem (.static "java/lang/Integer" "DigitOnes" "[B") (.int (Int32.ofNat j))) (.int (gO0 j))) := by decide +kernel
theorem digT : ∀ j : Nat, j < 100 → FLL[117 + j]? = some (Cond.eq (.elem (.static "java/lang/Integer" "DigitTens" "[B") (.int (Int32.ofNat j))) (.int (gT0 j))) := by decide +kernel
