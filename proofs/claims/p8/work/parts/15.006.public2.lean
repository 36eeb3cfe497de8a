theorem dX2_addAll_56 : decode cX2_addAll 56 = .ok (.ireturn, 1) := by decide +kernel
set_option maxRecDepth 100000 in
set_option maxHeartbeats 4000000 in
theorem C_addAll_ref {l : Launch} {D : va_G} {cy : Nat → ClassId} {X : (Nat → Prop) → State → Heap → Prop} {a f : Nat → Nat → Nat} {r : Nat → Nat → Int32} {kn : Int32} {Y : va_W} {i : Nat} {y0 : Int32} {j : Nat} (hX : EnvX X) (hC : CInv f) (hi4 : i < 4) (hj4 : j < 4) (hz : 0 < f 4 j) (hfit : f 4 (f 1 i) + f 4 j ≤ 12) (hno : ¬ (0 ≤ y0 ∧ y0 ≤ nI (f 4 i))) : Cd l D cy X yX2_addAll cX2_addAll 5 (some .int) (rmz 6 240) [.ref (a 0 0), .int (nI i), .int y0, .int (nI j)] (WC cy a f r kn ++ Y) (some (.int (nI 4294967287))) (WC cy a f r kn ++ Y) := by
  have q3 := hC.sp
  have q1_i := hC.rw hi4
  have q2_i := hC.al (i := i) (by omega)
  have q6_i : f 4 (f 1 i) = f 4 i := by rw [q1_i.2.1]
  have q1_j := hC.rw hj4
  have q2_j := hC.al (i := j) (by omega)
  have q6_j : f 4 (f 1 j) = f 4 j := by rw [q1_j.2.1]
  refine Cm.of [some (.ref (a 0 0)), some (.int (nI i)), some (.int y0), some (.int (nI j)), none] (by decide +kernel) rfl (Nat.le_of_ble_eq_true rfl) ?_
  intro p e s m args below meth c A C hE hr hnt hn
  refine r_iload_n C dX2_addAll_0 rfl ?_
  refine d_Sv (st := []) hX.stb C hE (C_needRow_ok (f := f) (r := r) (kn := kn) (k := i) hX (by first | omega | (simp [up2, *]; done) | (simp [up2, *]; omega) | (simp only [up2_eq]; omega) | (split <;> omega))) pk_X2_needRow qm_X2_126 rfl rfl (Nat.le_of_ble_eq_true rfl) dX2_addAll_1 ⟨Nat.le_of_ble_eq_true rfl, Nat.le_of_ble_eq_true rfl⟩ ⟨Nat.le_of_ble_eq_true rfl, Nat.le_of_ble_eq_true rfl⟩ ?_
  refine r_iload_n C dX2_addAll_4 rfl ?_
  refine d_Sv (st := []) hX.stb C hE (C_needRow_ok (f := f) (r := r) (kn := kn) (k := j) hX (by first | omega | (simp [up2, *]; done) | (simp [up2, *]; omega) | (simp only [up2_eq]; omega) | (split <;> omega))) pk_X2_needRow qm_X2_126 rfl rfl (Nat.le_of_ble_eq_true rfl) dX2_addAll_5 ⟨Nat.le_of_ble_eq_true rfl, Nat.le_of_ble_eq_true rfl⟩ ⟨Nat.le_of_ble_eq_true rfl, Nat.le_of_ble_eq_true rfl⟩ ?_
  refine r_aload_n C dX2_addAll_8 rfl ?_
  refine s_get C 0 (by decide) qf_X2_11 rfl rfl dX2_addAll_9 ?_
  refine r_iload_n C dX2_addAll_12 rfl ?_
  refine s_parts C (by first | omega | (simp [up2, *]; done) | (simp [up2, *]; omega) | (simp only [up2_eq]; omega) | (split <;> omega)) dX2_addAll_13 ?_
  refine p_getN (v := .int (nI (f 4 j))) hX C hE 4 (by first | omega | (simp [up2, *]; done) | (simp [up2, *]; omega) | (simp only [up2_eq]; omega) | (split <;> omega)) (by decide) qn_X2_50 rfl rfl dX2_addAll_14 ?_
  refine r_istore C dX2_addAll_17 (by decide) rfl ?_
  refine r_aload_n C dX2_addAll_19 rfl ?_
  refine r_iload_n C dX2_addAll_20 rfl ?_
  refine r_iload C dX2_addAll_21 rfl ?_
  refine d_Vv (st := []) hX.stb C hE (C_needRoom_ok (f := f) (r := r) (kn := kn) (w := i) (x := ((nI (f 4 j)))) (q0 := (f 4 (f 1 i) + f 4 j)) hX (by first | omega | (simp [up2, *]; done) | (simp [up2, *]; omega) | (simp only [up2_eq]; omega) | (split <;> omega)) (by omega) (nI_add _ _) (by first | omega | (simp [up2, *]; done) | (simp [up2, *]; omega) | (simp only [up2_eq]; omega) | (split <;> omega))) pk_X2_needRoom qm_X2_46 0 6 rfl rfl wc_0 rfl rfl (Nat.le_of_ble_eq_true rfl) dX2_addAll_23 ⟨Nat.le_of_ble_eq_true rfl, Nat.le_of_ble_eq_true rfl⟩ ⟨Nat.le_of_ble_eq_true rfl, Nat.le_of_ble_eq_true rfl⟩ ?_
  refine r_iload C dX2_addAll_26 rfl ?_
  refine r_ifN_ne (a := (f 4 j)) (tgt := 41) C (by first | omega | (simp [up2, *]; done) | (simp [up2, *]; omega) | (simp only [up2_eq]; omega) | (split <;> omega)) dX2_addAll_28 (by decide) (fun h28_1 => ?_) (fun h28_1 => ?_)
  · skip
    refine r_aload_n C dX2_addAll_41 rfl ?_
    refine s_get C 0 (by decide) qf_X2_11 rfl rfl dX2_addAll_42 ?_
    refine r_iload_n C dX2_addAll_45 rfl ?_
    refine s_parts C (by first | omega | (simp [up2, *]; done) | (simp [up2, *]; omega) | (simp only [up2_eq]; omega) | (split <;> omega)) dX2_addAll_46 ?_
    refine r_iload_n C dX2_addAll_47 rfl ?_
    refine d_V (st := []) hX.stb C hE (C_isGap0 (f := f) (r := r) (kn := kn) (i := i) (x := (y0)) hX (by first | omega | (simp [up2, *]; done) | (simp [up2, *]; omega) | (simp only [up2_eq]; omega) | (split <;> omega)) hno) pk_X1_isGap qm_X2_58 (3 + i) 5 rfl rfl (wc_p (by first | omega | (simp [up2, *]; done) | (simp [up2, *]; omega) | (simp only [up2_eq]; omega) | (split <;> omega))) rfl rfl (Nat.le_of_ble_eq_true rfl) dX2_addAll_48 ⟨Nat.le_of_ble_eq_true rfl, Nat.le_of_ble_eq_true rfl⟩ ⟨Nat.le_of_ble_eq_true rfl, Nat.le_of_ble_eq_true rfl⟩ ?_
    refine r_ifN_ne (a := 0) (tgt := 57) C (by first | omega | (simp [up2, *]; done) | (simp [up2, *]; omega) | (simp only [up2_eq]; omega) | (split <;> omega)) dX2_addAll_51 (by decide) (fun h51_2 => ?_) (fun h51_2 => ?_)
    · exact absurd h51_2 (by first | omega | (simp [up2, *]; done) | (simp [up2, *]; omega) | (simp only [up2_eq]; omega) | (split <;> omega))
    · skip
      refine r_bipush (v := (nI 4294967287)) C dX2_addAll_54 (by decide) ?_
      exact r_iret C hr dX2_addAll_56 ⟨rfl, rfl⟩ (Nat.le_of_ble_eq_true rfl) (Nat.le_of_ble_eq_true rfl)
  · exact absurd h28_1 (by first | omega | (simp [up2, *]; done) | (simp [up2, *]; omega) | (simp only [up2_eq]; omega) | (split <;> omega))
theorem dX2_addAll_57 : decode cX2_addAll 57 = .ok (.aload_n 0, 1) := by decide +kernel
theorem dX2_addAll_58 : decode cX2_addAll 58 = .ok (.getfield 29, 3) := by decide +kernel
theorem dX2_addAll_61 : decode cX2_addAll 61 = .ok (.aload_n 0, 1) := by decide +kernel
theorem dX2_addAll_62 : decode cX2_addAll 62 = .ok (.getfield 11, 3) := by decide +kernel
theorem dX2_addAll_65 : decode cX2_addAll 65 = .ok (.iload_n 3, 1) := by decide +kernel
theorem dX2_addAll_66 : decode cX2_addAll 66 = .ok (.aaload, 1) := by decide +kernel
theorem dX2_addAll_67 : decode cX2_addAll 67 = .ok (.invokevirtual 79, 3) := by decide +kernel
theorem dX2_addAll_70 : decode cX2_addAll 70 = .ok (.aload_n 0, 1) := by decide +kernel
theorem dX2_addAll_71 : decode cX2_addAll 71 = .ok (.iload_n 1, 1) := by decide +kernel
theorem dX2_addAll_72 : decode cX2_addAll 72 = .ok (.iload_n 2, 1) := by decide +kernel
theorem dX2_addAll_73 : decode cX2_addAll 73 = .ok (.iload_n 2, 1) := by decide +kernel
theorem dX2_addAll_74 : decode cX2_addAll 74 = .ok (.invokevirtual 83, 3) := by decide +kernel
theorem dX2_addAll_77 : decode cX2_addAll 77 = .ok (.aload_n 0, 1) := by decide +kernel
theorem dX2_addAll_78 : decode cX2_addAll 78 = .ok (.iload_n 1, 1) := by decide +kernel
theorem dX2_addAll_79 : decode cX2_addAll 79 = .ok (.iconst (-1), 1) := by decide +kernel
theorem dX2_addAll_80 : decode cX2_addAll 80 = .ok (.invokevirtual 87, 3) := by decide +kernel
theorem dX2_addAll_83 : decode cX2_addAll 83 = .ok (.aload_n 0, 1) := by decide +kernel
theorem dX2_addAll_84 : decode cX2_addAll 84 = .ok (.getfield 11, 3) := by decide +kernel
theorem dX2_addAll_87 : decode cX2_addAll 87 = .ok (.iload_n 1, 1) := by decide +kernel
