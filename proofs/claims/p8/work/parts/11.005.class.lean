theorem dX2_needQuestion_0 : decode cX2_needQuestion 0 = .ok (.iload_n 0, 1) := by decide +kernel
theorem dX2_needQuestion_1 : decode cX2_needQuestion 1 = .ok (.iload_n 1, 1) := by decide +kernel
theorem dX2_needQuestion_2 : decode cX2_needQuestion 2 = .ok (.invokestatic 275, 3) := by decide +kernel
theorem dX2_needQuestion_5 : decode cX2_needQuestion 5 = .ok (.ifCond .ne 14, 3) := by decide +kernel
theorem dX2_needQuestion_19 : decode cX2_needQuestion 19 = .ok (.return_, 1) := by decide +kernel
set_option maxRecDepth 100000 in
set_option maxHeartbeats 4000000 in
theorem C_needQuestion_ok {l : Launch} {D : va_G} {cy : Nat → ClassId} {X : (Nat → Prop) → State → Heap → Prop} {a f : Nat → Nat → Nat} {r : Nat → Nat → Int32} {kn : Int32} {Y : va_W} {k : Nat} {n : Nat} (hX : EnvX X) (hk : k < n) (hn2 : n < 2147483648) : Cd l D cy X yX2_needQuestion cX2_needQuestion 2 none (rmz 1 30) [.int (nI k), .int (nI n)] (WC cy a f r kn ++ Y) none (WC cy a f r kn ++ Y) := by
  refine Cm.of [some (.int (nI k)), some (.int (nI n))] (by decide +kernel) rfl (Nat.le_of_ble_eq_true rfl) ?_
  intro p e s m args below meth c A C hE hr hnt hn
  refine r_iload_n C dX2_needQuestion_0 rfl ?_
  refine r_iload_n C dX2_needQuestion_1 rfl ?_
  refine d_S (st := []) hX.stb C hE (C_isBelow1 (f := f) (r := r) (kn := kn) (k := k) (n := n) hX (by first | omega | (simp [up2, *]; done) | (simp [up2, *]; omega) | (simp only [up2_eq]; omega)) (by first | omega | (simp [up2, *]; done) | (simp [up2, *]; omega) | (simp only [up2_eq]; omega))) pk_X2_isBelow qm_X2_275 rfl rfl (Nat.le_of_ble_eq_true rfl) dX2_needQuestion_2 ⟨Nat.le_of_ble_eq_true rfl, Nat.le_of_ble_eq_true rfl⟩ ⟨Nat.le_of_ble_eq_true rfl, Nat.le_of_ble_eq_true rfl⟩ ?_
  refine r_ifN_ne (a := 1) (tgt := 19) C (by first | omega | (simp [up2, *]; done) | (simp [up2, *]; omega) | (simp only [up2_eq]; omega)) dX2_needQuestion_5 (by decide) (fun h5_1 => ?_) (fun h5_1 => ?_)
  · skip
    exact r_vret C hr dX2_needQuestion_19 ⟨rfl, rfl⟩ (Nat.le_of_ble_eq_true rfl) (Nat.le_of_ble_eq_true rfl)
  · exact absurd h5_1 (by first | omega | (simp [up2, *]; done) | (simp [up2, *]; omega) | (simp only [up2_eq]; omega))
theorem thr_X2_90_94 : thr_ok RX2 90 94 "java/lang/IllegalArgumentException" ["java/lang/RuntimeException", "java/lang/Exception"] = true := by decide +kernel
theorem dX2_needQuestion_8 : decode cX2_needQuestion 8 = .ok (.new 90, 3) := by decide +kernel
