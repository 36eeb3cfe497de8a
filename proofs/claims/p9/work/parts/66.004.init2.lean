theorem rI_ib : RB rI := fun _ _ => ⟨by show (-99 : Int) ≤ (0 : Int32).toInt; decide, by show (0 : Int32).toInt ≤ 99; decide⟩
theorem fI_mr : MR fI rI hfI rI := by
  refine ⟨fun w h4 hw h5 => ?_, fun i hi => ⟨?_, fun k hk => rfl⟩, fun w h4 hw => ⟨?_, Nat.zero_lt_succ 7, fun h5 => ?_⟩, fun k hk => ⟨rfl, Nat.zero_lt_succ 7, fun h => absurd h (show ¬ (0 : Nat) = 1 by decide)⟩⟩
  · rcases (show w = 4 ∨ w = 5 ∨ w = 6 ∨ w = 7 by omega) with rfl | rfl | rfl | rfl <;> exact absurd h5 (by decide)
  · rfl
  · rcases (show w = 4 ∨ w = 5 ∨ w = 6 ∨ w = 7 by omega) with rfl | rfl | rfl | rfl <;> rfl
  · rcases (show w = 4 ∨ w = 5 ∨ w = 6 ∨ w = 7 by omega) with rfl | rfl | rfl | rfl <;> exact absurd h5 (by decide)
theorem dX2_init_0 : decode cX2_init 0 = .ok (.aload_n 0, 1) := by decide +kernel
theorem dX2_init_1 : decode cX2_init 1 = .ok (.invokespecial 3, 3) := by decide +kernel
theorem dX2_init_4 : decode cX2_init 4 = .ok (.aload_n 0, 1) := by decide +kernel
theorem dX2_init_5 : decode cX2_init 5 = .ok (.bipush 8, 2) := by decide +kernel
theorem dX2_init_7 : decode cX2_init 7 = .ok (.anewarray 9, 3) := by decide +kernel
theorem dX2_init_10 : decode cX2_init 10 = .ok (.putfield 11, 3) := by decide +kernel
