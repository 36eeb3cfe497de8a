theorem dX1_rank_0 : decode cX1_rank 0 = .ok (.iload_n 0, 1) := by decide +kernel
theorem dX1_rank_1 : decode cX1_rank 1 = .ok (.tableswitch 47 0 2 #[27, 30, 37], 27) := by decide +kernel
theorem dX1_rank_28 : decode cX1_rank 28 = .ok (.iload_n 1, 1) := by decide +kernel
theorem dX1_rank_29 : decode cX1_rank 29 = .ok (.ineg, 1) := by decide +kernel
theorem dX1_rank_30 : decode cX1_rank 30 = .ok (.ireturn, 1) := by decide +kernel
set_option maxRecDepth 100000 in
set_option maxHeartbeats 4000000 in
theorem C_rank0 {l : Launch} {D : va_G} {cy : Nat → ClassId} {X : (Nat → Prop) → State → Heap → Prop} {a f : Nat → Nat → Nat} {r : Nat → Nat → Int32} {kn : Int32} {Y : va_W} {x : Int32} (hX : EnvX X)  : Cd l D cy X yX1_rank cX1_rank 2 (some .int) (rmz 1 30) [.int (nI 0), .int x] (WC cy a f r kn ++ Y) (some (.int (-x))) (WC cy a f r kn ++ Y) := by
  refine Cm.of [some (.int (nI 0)), some (.int x)] (by decide +kernel) rfl (Nat.le_of_ble_eq_true rfl) ?_
  intro p e s m args below meth c A C hE hr hnt hn
  refine r_iload_n C dX1_rank_0 rfl ?_
  refine r_tableIn (off := 27) (tgt := 28) C dX1_rank_1 (by decide) (by decide) (by decide) (by decide) ?_
  refine r_iload_n C dX1_rank_28 rfl ?_
  refine r_ineg C dX1_rank_29 ?_
  exact r_iret C hr dX1_rank_30 ⟨by first | rfl | rw [if_pos (by assumption)] | rw [if_neg (by assumption)] | rw [if_neg (Int32.not_lt.mpr (by assumption))] | rw [if_pos (Int32.not_le.mp (by assumption))], rfl⟩ (Nat.le_of_ble_eq_true rfl) (Nat.le_of_ble_eq_true rfl)
theorem dX1_rank_31 : decode cX1_rank 31 = .ok (.iload_n 1, 1) := by decide +kernel
theorem dX1_rank_32 : decode cX1_rank 32 = .ok (.bipush 10, 2) := by decide +kernel
theorem dX1_rank_34 : decode cX1_rank 34 = .ok (.invokestatic 53, 3) := by decide +kernel
theorem dX1_rank_37 : decode cX1_rank 37 = .ok (.ireturn, 1) := by decide +kernel
set_option maxRecDepth 100000 in
set_option maxHeartbeats 4000000 in
theorem C_rank1 {l : Launch} {D : va_G} {cy : Nat → ClassId} {X : (Nat → Prop) → State → Heap → Prop} {a f : Nat → Nat → Nat} {r : Nat → Nat → Int32} {kn : Int32} {Y : va_W} {x : Int32} (hX : EnvX X)  : Cd l D cy X yX1_rank cX1_rank 2 (some .int) (rmz 1 30) [.int (nI 1), .int x] (WC cy a f r kn ++ Y) (some (.int (nI (shN x 10)))) (WC cy a f r kn ++ Y) := by
  refine Cm.of [some (.int (nI 1)), some (.int x)] (by decide +kernel) rfl (Nat.le_of_ble_eq_true rfl) ?_
  intro p e s m args below meth c A C hE hr hnt hn
  refine r_iload_n C dX1_rank_0 rfl ?_
  refine r_tableIn (off := 30) (tgt := 31) C dX1_rank_1 (by decide) (by decide) (by decide) (by decide) ?_
  refine r_iload_n C dX1_rank_31 rfl ?_
  refine r_bipush (v := (nI 10)) C dX1_rank_32 (by decide) ?_
  refine d_S (st := []) hX.stb C hE (C_floorMod (w := (WC cy a f r kn ++ Y)) (x := (x)) (n := 10) (by first | omega | (simp [up2, *]; done) | (simp [up2, *]; omega) | (simp only [up2_eq]; omega)) (by first | omega | (simp [up2, *]; done) | (simp [up2, *]; omega) | (simp only [up2_eq]; omega))) pk_J9_floorMod_7cf53 qm_X1_53 rfl rfl (Nat.le_of_ble_eq_true rfl) dX1_rank_34 ⟨Nat.le_of_ble_eq_true rfl, Nat.le_of_ble_eq_true rfl⟩ ⟨Nat.le_of_ble_eq_true rfl, Nat.le_of_ble_eq_true rfl⟩ ?_
  exact r_iret C hr dX1_rank_37 ⟨by first | rfl | rw [if_pos (by assumption)] | rw [if_neg (by assumption)] | rw [if_neg (Int32.not_lt.mpr (by assumption))] | rw [if_pos (Int32.not_le.mp (by assumption))], rfl⟩ (Nat.le_of_ble_eq_true rfl) (Nat.le_of_ble_eq_true rfl)
