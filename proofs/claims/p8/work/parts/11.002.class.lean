theorem thr_X2_213_217 : thr_ok RX2 213 217 "java/lang/IndexOutOfBoundsException" ["java/lang/RuntimeException", "java/lang/Exception"] = true := by decide +kernel
theorem dX2_needRow_8 : decode cX2_needRow 8 = .ok (.new 213, 3) := by decide +kernel
theorem dX2_needRow_11 : decode cX2_needRow 11 = .ok (.dup, 1) := by decide +kernel
theorem dX2_needRow_12 : decode cX2_needRow 12 = .ok (.ldc_w 278, 3) := by decide +kernel
theorem dX2_needRow_15 : decode cX2_needRow 15 = .ok (.invokespecial 217, 3) := by decide +kernel
theorem dX2_needRow_18 : decode cX2_needRow 18 = .ok (.athrow, 1) := by decide +kernel
set_option maxRecDepth 100000 in
set_option maxHeartbeats 4000000 in
theorem C_needRow_no {l : Launch} {D : va_G} {cy : Nat → ClassId} {X : (Nat → Prop) → State → Heap → Prop} {a f : Nat → Nat → Nat} {r : Nat → Nat → Int32} {kn : Int32} {Y : va_W} {x : Int32} (hX : EnvX X) (hl : l.stackTraces = false) (hno : ¬ (0 ≤ x ∧ x < nI 4)) : Ce l D cy X yX2_needRow cX2_needRow 1 none (rmk 6 1 6 100) [.int x] (WC cy a f r kn ++ Y) "java/lang/IndexOutOfBoundsException" := by
  refine Cm.of [some (.int x)] (by decide +kernel) rfl (Nat.le_of_ble_eq_true rfl) ?_
  intro p e s m args below meth c A C hE hr hnt hn
  refine r_iload_n C dX2_needRow_0 rfl ?_
  refine r_iconst (v := (nI 4)) C dX2_needRow_1 (by decide) ?_
  refine d_S (st := []) hX.stb C hE (C_isBelow0 (f := f) (r := r) (kn := kn) (x := (x)) (n := 4) hX (by first | omega | (simp [up2, *]; done) | (simp [up2, *]; omega) | (simp only [up2_eq]; omega))) pk_X2_isBelow qm_X2_275 rfl rfl (Nat.le_of_ble_eq_true rfl) dX2_needRow_2 ⟨Nat.le_of_ble_eq_true rfl, Nat.le_of_ble_eq_true rfl⟩ ⟨Nat.le_of_ble_eq_true rfl, Nat.le_of_ble_eq_true rfl⟩ ?_
  refine r_ifN_ne (a := 0) (tgt := 19) C (by first | omega | (simp [up2, *]; done) | (simp [up2, *]; omega) | (simp only [up2_eq]; omega)) dX2_needRow_5 (by decide) (fun h5_1 => ?_) (fun h5_1 => ?_)
  · exact absurd h5_1 (by first | omega | (simp [up2, *]; done) | (simp [up2, *]; omega) | (simp only [up2_eq]; omega))
  · skip
    exact r_throwW (cls := "java/lang/IndexOutOfBoundsException") (text := "there is no such row") (names := ["java/lang/RuntimeException", "java/lang/Exception"]) hX hl C hE hnt thr_X2_213_217 (by decide +kernel) (by decide +kernel) (by decide +kernel) dX2_needRow_8 dX2_needRow_11 dX2_needRow_12 dX2_needRow_15 dX2_needRow_18 (by decide) (Nat.le_of_ble_eq_true rfl) (Nat.le_of_ble_eq_true rfl) (Nat.le_of_ble_eq_true rfl) rfl rfl (Nat.le_of_ble_eq_true rfl) (Nat.le_of_ble_eq_true rfl)
theorem dX2_needWindow_0 : decode cX2_needWindow 0 = .ok (.iload_n 0, 1) := by decide +kernel
theorem dX2_needWindow_1 : decode cX2_needWindow 1 = .ok (.iconst 4, 1) := by decide +kernel
theorem dX2_needWindow_2 : decode cX2_needWindow 2 = .ok (.invokestatic 275, 3) := by decide +kernel
theorem dX2_needWindow_5 : decode cX2_needWindow 5 = .ok (.ifCond .ne 14, 3) := by decide +kernel
theorem dX2_needWindow_19 : decode cX2_needWindow 19 = .ok (.return_, 1) := by decide +kernel
