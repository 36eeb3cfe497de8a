theorem dX2_addAll_26 : decode cX2_addAll 26 = .ok (.iload 4, 2) := by decide +kernel
theorem dX2_addAll_28 : decode cX2_addAll 28 = .ok (.ifCond .ne 13, 3) := by decide +kernel
theorem dX2_addAll_31 : decode cX2_addAll 31 = .ok (.aload_n 0, 1) := by decide +kernel
theorem dX2_addAll_32 : decode cX2_addAll 32 = .ok (.getfield 11, 3) := by decide +kernel
theorem dX2_addAll_35 : decode cX2_addAll 35 = .ok (.iload_n 1, 1) := by decide +kernel
theorem dX2_addAll_36 : decode cX2_addAll 36 = .ok (.aaload, 1) := by decide +kernel
theorem dX2_addAll_37 : decode cX2_addAll 37 = .ok (.getfield 50, 3) := by decide +kernel
theorem dX2_addAll_40 : decode cX2_addAll 40 = .ok (.ireturn, 1) := by decide +kernel
set_option maxRecDepth 100000 in
set_option maxHeartbeats 4000000 in
theorem C_addAll_0 {l : Launch} {D : va_G} {cy : Nat → ClassId} {X : (Nat → Prop) → State → Heap → Prop} {a f : Nat → Nat → Nat} {r : Nat → Nat → Int32} {kn : Int32} {Y : va_W} {i : Nat} {y0 : Int32} {j : Nat} (hX : EnvX X) (hC : CInv f) (hi4 : i < 4) (hj4 : j < 4) (hz : f 4 j = 0) : Cd l D cy X yX2_addAll cX2_addAll 5 (some .int) (rmz 6 240) [.ref (a 0 0), .int (nI i), .int y0, .int (nI j)] (WC cy a f r kn ++ Y) (some (.int (nI (f 4 i)))) (WC cy a f r kn ++ Y) := by
  have q3 := hC.sp
  have q1_i := hC.rw hi4
  have q2_i := hC.al (i := i) (by omega)
  have q6_i : f 4 (f 1 i) = f 4 i := by rw [q1_i.2.1]
  have q1_j := hC.rw hj4
  have q2_j := hC.al (i := j) (by omega)
  have q6_j : f 4 (f 1 j) = f 4 j := by rw [q1_j.2.1]
  have q7 : f 4 (f 1 i) ≤ 12 := by rw [q1_i.2.1]; omega
  refine Cm.of [some (.ref (a 0 0)), some (.int (nI i)), some (.int y0), some (.int (nI j)), none] (by decide +kernel) rfl (Nat.le_of_ble_eq_true rfl) ?_
  intro p e s m args below meth c A C hE hr hnt hn
  refine r_iload_n C dX2_addAll_0 rfl ?_
  refine d_Sv (st := []) hX.stb C hE (C_needRow_ok (f := f) (r := r) (kn := kn) (k := i) hX (by first | omega | (simp [up2, *]; done) | (simp [up2, *]; omega) | (simp only [up2_eq]; omega) | (split <;> omega))) pk_X2_needRow qm_X2_126 rfl rfl (Nat.le_of_ble_eq_true rfl) dX2_addAll_1 ⟨Nat.le_of_ble_eq_true rfl, Nat.le_of_ble_eq_true rfl⟩ ⟨Nat.le_of_ble_eq_true rfl, Nat.le_of_ble_eq_true rfl⟩ ?_
  refine r_iload_n C dX2_addAll_4 rfl ?_
  refine d_Sv (st := []) hX.stb C hE (C_needRow_ok (f := f) (r := r) (kn := kn) (k := j) hX (by first | omega | (simp [up2, *]; done) | (simp [up2, *]; omega) | (simp only [up2_eq]; omega) | (split <;> omega))) pk_X2_needRow qm_X2_126 rfl rfl (Nat.le_of_ble_eq_true rfl) dX2_addAll_5 ⟨Nat.le_of_ble_eq_true rfl, Nat.le_of_ble_eq_true rfl⟩ ⟨Nat.le_of_ble_eq_true rfl, Nat.le_of_ble_eq_true rfl⟩ ?_
  refine r_aload_n C dX2_addAll_8 rfl ?_
  refine s_get C 0 (by decide) qf_X2_11 rfl rfl dX2_addAll_9 ?_
  refine r_iload_n C dX2_addAll_12 rfl ?_
  refine s_parts C (by first | omega | (simp [up2, *]; done) | (simp [up2, *]; omega) | (simp only [up2_eq]; omega) | (split <;> omega)) dX2_addAll_13 ?_
  refine p_getN (v := .int (nI (f 4 j))) hX C hE 4 (by first | omega | (simp [up2, *]; done) | (simp [up2, *]; omega) | (simp only [up2_eq]; omega) | (split <;> omega)) (by decide) qn_X2_50 rfl rfl dX2_addAll_14 ?_
  refine r_istore C dX2_addAll_17 (by decide) rfl ?_
  refine r_aload_n C dX2_addAll_19 rfl ?_
  refine r_iload_n C dX2_addAll_20 rfl ?_
  refine r_iload C dX2_addAll_21 rfl ?_
  refine d_Vv (st := []) hX.stb C hE (C_needRoom_ok (f := f) (r := r) (kn := kn) (w := i) (x := ((nI (f 4 j)))) (q0 := (f 4 (f 1 i) + f 4 j)) hX (by first | omega | (simp [up2, *]; done) | (simp [up2, *]; omega) | (simp only [up2_eq]; omega) | (split <;> omega)) (by omega) (nI_add _ _) (by first | omega | (simp [up2, *]; done) | (simp [up2, *]; omega) | (simp only [up2_eq]; omega) | (split <;> omega))) pk_X2_needRoom qm_X2_46 0 6 rfl rfl wc_0 rfl rfl (Nat.le_of_ble_eq_true rfl) dX2_addAll_23 ⟨Nat.le_of_ble_eq_true rfl, Nat.le_of_ble_eq_true rfl⟩ ⟨Nat.le_of_ble_eq_true rfl, Nat.le_of_ble_eq_true rfl⟩ ?_
  refine r_iload C dX2_addAll_26 rfl ?_
  refine r_ifN_ne (a := (f 4 j)) (tgt := 41) C (by first | omega | (simp [up2, *]; done) | (simp [up2, *]; omega) | (simp only [up2_eq]; omega) | (split <;> omega)) dX2_addAll_28 (by decide) (fun h28_1 => ?_) (fun h28_1 => ?_)
  · exact absurd h28_1 (by first | omega | (simp [up2, *]; done) | (simp [up2, *]; omega) | (simp only [up2_eq]; omega) | (split <;> omega))
  · skip
    refine r_aload_n C dX2_addAll_31 rfl ?_
    refine s_get C 0 (by decide) qf_X2_11 rfl rfl dX2_addAll_32 ?_
    refine r_iload_n C dX2_addAll_35 rfl ?_
    refine s_parts C (by first | omega | (simp [up2, *]; done) | (simp [up2, *]; omega) | (simp only [up2_eq]; omega) | (split <;> omega)) dX2_addAll_36 ?_
    refine p_getN (v := .int (nI (f 4 i))) hX C hE 4 (by first | omega | (simp [up2, *]; done) | (simp [up2, *]; omega) | (simp only [up2_eq]; omega) | (split <;> omega)) (by decide) qn_X2_50 rfl rfl dX2_addAll_37 ?_
    exact r_iret C hr dX2_addAll_40 ⟨rfl, rfl⟩ (Nat.le_of_ble_eq_true rfl) (Nat.le_of_ble_eq_true rfl)
theorem dX2_addAll_41 : decode cX2_addAll 41 = .ok (.aload_n 0, 1) := by decide +kernel
theorem dX2_addAll_42 : decode cX2_addAll 42 = .ok (.getfield 11, 3) := by decide +kernel
theorem dX2_addAll_45 : decode cX2_addAll 45 = .ok (.iload_n 1, 1) := by decide +kernel
theorem dX2_addAll_46 : decode cX2_addAll 46 = .ok (.aaload, 1) := by decide +kernel
theorem dX2_addAll_47 : decode cX2_addAll 47 = .ok (.iload_n 2, 1) := by decide +kernel
theorem dX2_addAll_48 : decode cX2_addAll 48 = .ok (.invokevirtual 58, 3) := by decide +kernel
theorem dX2_addAll_51 : decode cX2_addAll 51 = .ok (.ifCond .ne 6, 3) := by decide +kernel
theorem dX2_addAll_54 : decode cX2_addAll 54 = .ok (.bipush (-9), 2) := by decide +kernel
