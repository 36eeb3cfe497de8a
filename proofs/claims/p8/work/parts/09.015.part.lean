theorem dX1_rank_38 : decode cX1_rank 38 = .ok (.iload_n 1, 1) := by decide +kernel
theorem dX1_rank_39 : decode cX1_rank 39 = .ok (.ifCond .ge 7, 3) := by decide +kernel
theorem dX1_rank_42 : decode cX1_rank 42 = .ok (.iconst 0, 1) := by decide +kernel
theorem dX1_rank_43 : decode cX1_rank 43 = .ok (.goto 4, 3) := by decide +kernel
theorem dX1_rank_46 : decode cX1_rank 46 = .ok (.iconst 1, 1) := by decide +kernel
theorem dX1_rank_47 : decode cX1_rank 47 = .ok (.ireturn, 1) := by decide +kernel
set_option maxRecDepth 100000 in
set_option maxHeartbeats 4000000 in
theorem C_rank2 {l : Launch} {D : va_G} {cy : Nat → ClassId} {X : (Nat → Prop) → State → Heap → Prop} {a f : Nat → Nat → Nat} {r : Nat → Nat → Int32} {kn : Int32} {Y : va_W} {x : Int32} (hX : EnvX X)  : Cd l D cy X yX1_rank cX1_rank 2 (some .int) (rmz 1 30) [.int (nI 2), .int x] (WC cy a f r kn ++ Y) (some (.int (if x < 0 then nI 0 else nI 1))) (WC cy a f r kn ++ Y) := by
  refine Cm.of [some (.int (nI 2)), some (.int x)] (by decide +kernel) rfl (Nat.le_of_ble_eq_true rfl) ?_
  intro p e s m args below meth c A C hE hr hnt hn
  refine r_iload_n C dX1_rank_0 rfl ?_
  refine r_tableIn (off := 37) (tgt := 38) C dX1_rank_1 (by decide) (by decide) (by decide) (by decide) ?_
  refine r_iload_n C dX1_rank_38 rfl ?_
  refine r_if_ge (tgt := 46) C dX1_rank_39 (by decide) (fun h39_1 => ?_) (fun h39_1 => ?_)
  · first
    | exfalso; first | omega | contradiction
    | skip
      refine r_iconst (v := (nI 1)) C dX1_rank_46 (by decide) ?_
      exact r_iret C hr dX1_rank_47 ⟨by first | rfl | rw [if_pos (by assumption)] | rw [if_neg (by assumption)] | rw [if_neg (Int32.not_lt.mpr (by assumption))] | rw [if_pos (Int32.not_le.mp (by assumption))], rfl⟩ (Nat.le_of_ble_eq_true rfl) (Nat.le_of_ble_eq_true rfl)
  · first
    | exfalso; first | omega | contradiction
    | skip
      refine r_iconst (v := (nI 0)) C dX1_rank_42 (by decide) ?_
      refine r_goto (tgt := 47) C dX1_rank_43 (by decide) ?_
      exact r_iret C hr dX1_rank_47 ⟨by first | rfl | rw [if_pos (by assumption)] | rw [if_neg (by assumption)] | rw [if_neg (Int32.not_lt.mpr (by assumption))] | rw [if_pos (Int32.not_le.mp (by assumption))], rfl⟩ (Nat.le_of_ble_eq_true rfl) (Nat.le_of_ble_eq_true rfl)
theorem dX1_rank_48 : decode cX1_rank 48 = .ok (.iload_n 1, 1) := by decide +kernel
theorem dX1_rank_49 : decode cX1_rank 49 = .ok (.ireturn, 1) := by decide +kernel
set_option maxRecDepth 100000 in
set_option maxHeartbeats 4000000 in
theorem C_rank3 {l : Launch} {D : va_G} {cy : Nat → ClassId} {X : (Nat → Prop) → State → Heap → Prop} {a f : Nat → Nat → Nat} {r : Nat → Nat → Int32} {kn : Int32} {Y : va_W} {x : Int32} (hX : EnvX X)  : Cd l D cy X yX1_rank cX1_rank 2 (some .int) (rmz 1 30) [.int (nI 3), .int x] (WC cy a f r kn ++ Y) (some (.int x)) (WC cy a f r kn ++ Y) := by
  refine Cm.of [some (.int (nI 3)), some (.int x)] (by decide +kernel) rfl (Nat.le_of_ble_eq_true rfl) ?_
  intro p e s m args below meth c A C hE hr hnt hn
  refine r_iload_n C dX1_rank_0 rfl ?_
  refine r_tableOut (tgt := 48) C dX1_rank_1 (by decide) (by decide) ?_
  refine r_iload_n C dX1_rank_48 rfl ?_
  exact r_iret C hr dX1_rank_49 ⟨by first | rfl | rw [if_pos (by assumption)] | rw [if_neg (by assumption)] | rw [if_neg (Int32.not_lt.mpr (by assumption))] | rw [if_pos (Int32.not_le.mp (by assumption))], rfl⟩ (Nat.le_of_ble_eq_true rfl) (Nat.le_of_ble_eq_true rfl)
theorem C_rank {l : Launch} {D : va_G} {cy : Nat → ClassId} {X : (Nat → Prop) → State → Heap → Prop} {a f : Nat → Nat → Nat} {r : Nat → Nat → Int32} {kn : Int32} {Y : va_W} {b : Nat} {x : Int32} (hX : EnvX X) (hb : b ≤ 3) : Cd l D cy X yX1_rank cX1_rank 2 (some .int) (rmz 1 30) [.int (nI b), .int x] (WC cy a f r kn ++ Y) (some (.int (rkF b x))) (WC cy a f r kn ++ Y) := by
  rcases (show b = 0 ∨ b = 1 ∨ b = 2 ∨ b = 3 by omega) with rfl | rfl | rfl | rfl
  · exact C_rank0 hX
  · exact C_rank1 hX
  · exact C_rank2 hX
  · exact C_rank3 hX
theorem pk_X1_rank : PkS yX1_rank cX1_rank 2 (some .int) 2 := ⟨⟨qt_X1_rank, qz_X1, qc_X1_rank⟩, by decide +kernel⟩
theorem dX1_arrange_0 : decode cX1_arrange 0 = .ok (.iconst 1, 1) := by decide +kernel
theorem dX1_arrange_1 : decode cX1_arrange 1 = .ok (.istore_n 2, 1) := by decide +kernel
theorem dX1_arrange_2 : decode cX1_arrange 2 = .ok (.iload_n 2, 1) := by decide +kernel
theorem dX1_arrange_3 : decode cX1_arrange 3 = .ok (.aload_n 0, 1) := by decide +kernel
theorem dX1_arrange_4 : decode cX1_arrange 4 = .ok (.getfield 29, 3) := by decide +kernel
theorem dX1_arrange_7 : decode cX1_arrange 7 = .ok (.if_icmp .ge 70, 3) := by decide +kernel
theorem dX1_arrange_10 : decode cX1_arrange 10 = .ok (.aload_n 0, 1) := by decide +kernel
theorem dX1_arrange_11 : decode cX1_arrange 11 = .ok (.iload_n 2, 1) := by decide +kernel
theorem dX1_arrange_12 : decode cX1_arrange 12 = .ok (.invokevirtual 32, 3) := by decide +kernel
theorem dX1_arrange_15 : decode cX1_arrange 15 = .ok (.istore_n 3, 1) := by decide +kernel
theorem dX1_arrange_16 : decode cX1_arrange 16 = .ok (.iload_n 2, 1) := by decide +kernel
theorem dX1_arrange_17 : decode cX1_arrange 17 = .ok (.istore 4, 2) := by decide +kernel
theorem dX1_arrange_19 : decode cX1_arrange 19 = .ok (.iload 4, 2) := by decide +kernel
theorem dX1_arrange_21 : decode cX1_arrange 21 = .ok (.ifCond .le 43, 3) := by decide +kernel
theorem dX1_arrange_24 : decode cX1_arrange 24 = .ok (.iload_n 1, 1) := by decide +kernel
theorem dX1_arrange_25 : decode cX1_arrange 25 = .ok (.aload_n 0, 1) := by decide +kernel
theorem dX1_arrange_26 : decode cX1_arrange 26 = .ok (.iload 4, 2) := by decide +kernel
theorem dX1_arrange_28 : decode cX1_arrange 28 = .ok (.iconst 1, 1) := by decide +kernel
theorem dX1_arrange_29 : decode cX1_arrange 29 = .ok (.isub, 1) := by decide +kernel
theorem dX1_arrange_30 : decode cX1_arrange 30 = .ok (.invokevirtual 32, 3) := by decide +kernel
theorem dX1_arrange_33 : decode cX1_arrange 33 = .ok (.invokestatic 59, 3) := by decide +kernel
theorem dX1_arrange_36 : decode cX1_arrange 36 = .ok (.iload_n 1, 1) := by decide +kernel
theorem dX1_arrange_37 : decode cX1_arrange 37 = .ok (.iload_n 3, 1) := by decide +kernel
theorem dX1_arrange_38 : decode cX1_arrange 38 = .ok (.invokestatic 59, 3) := by decide +kernel
theorem dX1_arrange_41 : decode cX1_arrange 41 = .ok (.if_icmp .le 23, 3) := by decide +kernel
theorem dX1_arrange_44 : decode cX1_arrange 44 = .ok (.aload_n 0, 1) := by decide +kernel
theorem dX1_arrange_45 : decode cX1_arrange 45 = .ok (.iload 4, 2) := by decide +kernel
theorem dX1_arrange_47 : decode cX1_arrange 47 = .ok (.aload_n 0, 1) := by decide +kernel
theorem dX1_arrange_48 : decode cX1_arrange 48 = .ok (.iload 4, 2) := by decide +kernel
theorem dX1_arrange_50 : decode cX1_arrange 50 = .ok (.iconst 1, 1) := by decide +kernel
theorem dX1_arrange_51 : decode cX1_arrange 51 = .ok (.isub, 1) := by decide +kernel
theorem dX1_arrange_52 : decode cX1_arrange 52 = .ok (.invokevirtual 32, 3) := by decide +kernel
