theorem dX2_needQuestion_11 : decode cX2_needQuestion 11 = .ok (.dup, 1) := by decide +kernel
theorem dX2_needQuestion_12 : decode cX2_needQuestion 12 = .ok (.ldc_w 286, 3) := by decide +kernel
theorem dX2_needQuestion_15 : decode cX2_needQuestion 15 = .ok (.invokespecial 94, 3) := by decide +kernel
theorem dX2_needQuestion_18 : decode cX2_needQuestion 18 = .ok (.athrow, 1) := by decide +kernel
set_option maxRecDepth 100000 in
set_option maxHeartbeats 4000000 in
theorem C_needQuestion_no {l : Launch} {D : va_G} {cy : Nat → ClassId} {X : (Nat → Prop) → State → Heap → Prop} {a f : Nat → Nat → Nat} {r : Nat → Nat → Int32} {kn : Int32} {Y : va_W} {x : Int32} {n : Nat} (hX : EnvX X) (hl : l.stackTraces = false) (hno : ¬ (0 ≤ x ∧ x < nI n)) : Ce l D cy X yX2_needQuestion cX2_needQuestion 2 none (rmk 6 1 6 100) [.int x, .int (nI n)] (WC cy a f r kn ++ Y) "java/lang/IllegalArgumentException" := by
  refine Cm.of [some (.int x), some (.int (nI n))] (by decide +kernel) rfl (Nat.le_of_ble_eq_true rfl) ?_
  intro p e s m args below meth c A C hE hr hnt hn
  refine r_iload_n C dX2_needQuestion_0 rfl ?_
  refine r_iload_n C dX2_needQuestion_1 rfl ?_
  refine d_S (st := []) hX.stb C hE (C_isBelow0 (f := f) (r := r) (kn := kn) (x := (x)) (n := n) hX (by first | omega | (simp [up2, *]; done) | (simp [up2, *]; omega) | (simp only [up2_eq]; omega))) pk_X2_isBelow qm_X2_275 rfl rfl (Nat.le_of_ble_eq_true rfl) dX2_needQuestion_2 ⟨Nat.le_of_ble_eq_true rfl, Nat.le_of_ble_eq_true rfl⟩ ⟨Nat.le_of_ble_eq_true rfl, Nat.le_of_ble_eq_true rfl⟩ ?_
  refine r_ifN_ne (a := 0) (tgt := 19) C (by first | omega | (simp [up2, *]; done) | (simp [up2, *]; omega) | (simp only [up2_eq]; omega)) dX2_needQuestion_5 (by decide) (fun h5_1 => ?_) (fun h5_1 => ?_)
  · exact absurd h5_1 (by first | omega | (simp [up2, *]; done) | (simp [up2, *]; omega) | (simp only [up2_eq]; omega))
  · skip
    exact r_throwW (cls := "java/lang/IllegalArgumentException") (text := "there is no such question") (names := ["java/lang/RuntimeException", "java/lang/Exception"]) hX hl C hE hnt thr_X2_90_94 (by decide +kernel) (by decide +kernel) (by decide +kernel) dX2_needQuestion_8 dX2_needQuestion_11 dX2_needQuestion_12 dX2_needQuestion_15 dX2_needQuestion_18 (by decide) (Nat.le_of_ble_eq_true rfl) (Nat.le_of_ble_eq_true rfl) (Nat.le_of_ble_eq_true rfl) rfl rfl (Nat.le_of_ble_eq_true rfl) (Nat.le_of_ble_eq_true rfl)
theorem dX2_needItem_0 : decode cX2_needItem 0 = .ok (.iload_n 0, 1) := by decide +kernel
theorem dX2_needItem_1 : decode cX2_needItem 1 = .ok (.bipush (-99), 2) := by decide +kernel
theorem dX2_needItem_3 : decode cX2_needItem 3 = .ok (.if_icmp .lt 9, 3) := by decide +kernel
theorem dX2_needItem_6 : decode cX2_needItem 6 = .ok (.iload_n 0, 1) := by decide +kernel
theorem dX2_needItem_7 : decode cX2_needItem 7 = .ok (.bipush 99, 2) := by decide +kernel
theorem dX2_needItem_9 : decode cX2_needItem 9 = .ok (.if_icmp .le 14, 3) := by decide +kernel
theorem dX2_needItem_23 : decode cX2_needItem 23 = .ok (.return_, 1) := by decide +kernel
