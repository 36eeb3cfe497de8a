theorem dX2_needPlace_6 : decode cX2_needPlace 6 = .ok (.aload_n 0, 1) := by decide +kernel
theorem dX2_needPlace_7 : decode cX2_needPlace 7 = .ok (.getfield 11, 3) := by decide +kernel
theorem dX2_needPlace_10 : decode cX2_needPlace 10 = .ok (.iload_n 1, 1) := by decide +kernel
theorem dX2_needPlace_11 : decode cX2_needPlace 11 = .ok (.aaload, 1) := by decide +kernel
theorem dX2_needPlace_12 : decode cX2_needPlace 12 = .ok (.getfield 50, 3) := by decide +kernel
theorem dX2_needPlace_15 : decode cX2_needPlace 15 = .ok (.invokestatic 275, 3) := by decide +kernel
theorem dX2_needPlace_18 : decode cX2_needPlace 18 = .ok (.ifCond .ne 14, 3) := by decide +kernel
theorem dX2_needPlace_32 : decode cX2_needPlace 32 = .ok (.return_, 1) := by decide +kernel
set_option maxRecDepth 100000 in
set_option maxHeartbeats 4000000 in
theorem C_needPlace_ok {l : Launch} {D : va_G} {cy : Nat → ClassId} {X : (Nat → Prop) → State → Heap → Prop} {a f : Nat → Nat → Nat} {r : Nat → Nat → Int32} {kn : Int32} {Y : va_W} {w : Nat} {k : Nat} (hX : EnvX X) (hw : w < 8) (h5 : f 5 w = 1) (hk : k < f 4 w) (h4 : f 4 w ≤ 12) : Cd l D cy X yX2_needPlace cX2_needPlace 3 none (rmz 2 60) [.ref (a 0 0), .int (nI w), .int (nI k)] (WC cy a f r kn ++ Y) none (WC cy a f r kn ++ Y) := by
  refine Cm.of [some (.ref (a 0 0)), some (.int (nI w)), some (.int (nI k))] (by decide +kernel) rfl (Nat.le_of_ble_eq_true rfl) ?_
  intro p e s m args below meth c A C hE hr hnt hn
  refine r_aload_n C dX2_needPlace_0 rfl ?_
  refine r_iload_n C dX2_needPlace_1 rfl ?_
  refine d_Vv (st := []) hX.stb C hE (C_needWhere_ok (f := f) (r := r) (kn := kn) (w := w) hX (by first | omega | (simp [up2, *]; done) | (simp [up2, *]; omega) | (simp only [up2_eq]; omega)) (by first | omega | (simp [up2, *]; done) | (simp [up2, *]; omega) | (simp only [up2_eq]; omega))) pk_X2_needWhere qm_X2_39 0 6 rfl rfl wc_0 rfl rfl (Nat.le_of_ble_eq_true rfl) dX2_needPlace_2 ⟨Nat.le_of_ble_eq_true rfl, Nat.le_of_ble_eq_true rfl⟩ ⟨Nat.le_of_ble_eq_true rfl, Nat.le_of_ble_eq_true rfl⟩ ?_
  refine r_iload_n C dX2_needPlace_5 rfl ?_
  refine r_aload_n C dX2_needPlace_6 rfl ?_
  refine s_get C 0 (by decide) qf_X2_11 rfl rfl dX2_needPlace_7 ?_
  refine r_iload_n C dX2_needPlace_10 rfl ?_
  refine s_parts C (by first | omega | (simp [up2, *]; done) | (simp [up2, *]; omega) | (simp only [up2_eq]; omega)) dX2_needPlace_11 ?_
  refine p_getN (v := .int (nI (f 4 w))) hX C hE 4 (by first | omega | (simp [up2, *]; done) | (simp [up2, *]; omega) | (simp only [up2_eq]; omega)) (by decide) qn_X2_50 rfl rfl dX2_needPlace_12 ?_
  refine d_S (st := []) hX.stb C hE (C_isBelow1 (f := f) (r := r) (kn := kn) (k := k) (n := (f 4 w)) hX (by first | omega | (simp [up2, *]; done) | (simp [up2, *]; omega) | (simp only [up2_eq]; omega)) (by first | omega | (simp [up2, *]; done) | (simp [up2, *]; omega) | (simp only [up2_eq]; omega))) pk_X2_isBelow qm_X2_275 rfl rfl (Nat.le_of_ble_eq_true rfl) dX2_needPlace_15 ⟨Nat.le_of_ble_eq_true rfl, Nat.le_of_ble_eq_true rfl⟩ ⟨Nat.le_of_ble_eq_true rfl, Nat.le_of_ble_eq_true rfl⟩ ?_
  refine r_ifN_ne (a := 1) (tgt := 32) C (by first | omega | (simp [up2, *]; done) | (simp [up2, *]; omega) | (simp only [up2_eq]; omega)) dX2_needPlace_18 (by decide) (fun h18_1 => ?_) (fun h18_1 => ?_)
  · skip
    exact r_vret C hr dX2_needPlace_32 ⟨rfl, rfl⟩ (Nat.le_of_ble_eq_true rfl) (Nat.le_of_ble_eq_true rfl)
  · exact absurd h18_1 (by first | omega | (simp [up2, *]; done) | (simp [up2, *]; omega) | (simp only [up2_eq]; omega))
