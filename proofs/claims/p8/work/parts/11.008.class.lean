theorem dX2_needWhere_0 : decode cX2_needWhere 0 = .ok (.iload_n 1, 1) := by decide +kernel
theorem dX2_needWhere_1 : decode cX2_needWhere 1 = .ok (.bipush 8, 2) := by decide +kernel
theorem dX2_needWhere_3 : decode cX2_needWhere 3 = .ok (.invokestatic 275, 3) := by decide +kernel
theorem dX2_needWhere_6 : decode cX2_needWhere 6 = .ok (.ifCond .eq 15, 3) := by decide +kernel
theorem dX2_needWhere_9 : decode cX2_needWhere 9 = .ok (.aload_n 0, 1) := by decide +kernel
theorem dX2_needWhere_10 : decode cX2_needWhere 10 = .ok (.getfield 11, 3) := by decide +kernel
theorem dX2_needWhere_13 : decode cX2_needWhere 13 = .ok (.iload_n 1, 1) := by decide +kernel
theorem dX2_needWhere_14 : decode cX2_needWhere 14 = .ok (.aaload, 1) := by decide +kernel
theorem dX2_needWhere_15 : decode cX2_needWhere 15 = .ok (.getfield 194, 3) := by decide +kernel
theorem dX2_needWhere_18 : decode cX2_needWhere 18 = .ok (.ifCond .ne 14, 3) := by decide +kernel
theorem dX2_needWhere_32 : decode cX2_needWhere 32 = .ok (.return_, 1) := by decide +kernel
set_option maxRecDepth 100000 in
set_option maxHeartbeats 4000000 in
theorem C_needWhere_ok {l : Launch} {D : va_G} {cy : Nat → ClassId} {X : (Nat → Prop) → State → Heap → Prop} {a f : Nat → Nat → Nat} {r : Nat → Nat → Int32} {kn : Int32} {Y : va_W} {w : Nat} (hX : EnvX X) (hw : w < 8) (h5 : f 5 w = 1) : Cd l D cy X yX2_needWhere cX2_needWhere 2 none (rmz 1 30) [.ref (a 0 0), .int (nI w)] (WC cy a f r kn ++ Y) none (WC cy a f r kn ++ Y) := by
  refine Cm.of [some (.ref (a 0 0)), some (.int (nI w))] (by decide +kernel) rfl (Nat.le_of_ble_eq_true rfl) ?_
  intro p e s m args below meth c A C hE hr hnt hn
  refine r_iload_n C dX2_needWhere_0 rfl ?_
  refine r_bipush (v := (nI 8)) C dX2_needWhere_1 (by decide) ?_
  refine d_S (st := []) hX.stb C hE (C_isBelow1 (f := f) (r := r) (kn := kn) (k := w) (n := 8) hX (by first | omega | (simp [up2, *]; done) | (simp [up2, *]; omega) | (simp only [up2_eq]; omega)) (by first | omega | (simp [up2, *]; done) | (simp [up2, *]; omega) | (simp only [up2_eq]; omega))) pk_X2_isBelow qm_X2_275 rfl rfl (Nat.le_of_ble_eq_true rfl) dX2_needWhere_3 ⟨Nat.le_of_ble_eq_true rfl, Nat.le_of_ble_eq_true rfl⟩ ⟨Nat.le_of_ble_eq_true rfl, Nat.le_of_ble_eq_true rfl⟩ ?_
  refine r_ifN_eq (a := 1) (tgt := 21) C (by first | omega | (simp [up2, *]; done) | (simp [up2, *]; omega) | (simp only [up2_eq]; omega)) dX2_needWhere_6 (by decide) (fun h6_1 => ?_) (fun h6_1 => ?_)
  · exact absurd h6_1 (by first | omega | (simp [up2, *]; done) | (simp [up2, *]; omega) | (simp only [up2_eq]; omega))
  · skip
    refine r_aload_n C dX2_needWhere_9 rfl ?_
    refine s_get C 0 (by decide) qf_X2_11 rfl rfl dX2_needWhere_10 ?_
    refine r_iload_n C dX2_needWhere_13 rfl ?_
    refine s_parts C (by first | omega | (simp [up2, *]; done) | (simp [up2, *]; omega) | (simp only [up2_eq]; omega)) dX2_needWhere_14 ?_
    refine p_getN (v := .int (nI (f 5 w))) hX C hE 5 (by first | omega | (simp [up2, *]; done) | (simp [up2, *]; omega) | (simp only [up2_eq]; omega)) (by decide) qn_X2_194 rfl rfl dX2_needWhere_15 ?_
    refine r_ifN_ne (a := (f 5 w)) (tgt := 32) C (by first | omega | (simp [up2, *]; done) | (simp [up2, *]; omega) | (simp only [up2_eq]; omega)) dX2_needWhere_18 (by decide) (fun h18_2 => ?_) (fun h18_2 => ?_)
    · skip
      exact r_vret C hr dX2_needWhere_32 ⟨rfl, rfl⟩ (Nat.le_of_ble_eq_true rfl) (Nat.le_of_ble_eq_true rfl)
    · exact absurd (h18_2.symm.trans rfl : 0 = f 5 w) (by omega)
