theorem pk_X1_isLike : PkV RX1 yX1_isLike cX1_isLike 2 (some .boolean) 1 := ⟨⟨qi_X1_isLike, qs_X1_isLike, qz_X1, qc_X1_isLike⟩, by decide +kernel⟩
theorem dX2_areSame_8 : decode cX2_areSame 8 = .ok (.aload_n 0, 1) := by decide +kernel
theorem dX2_areSame_9 : decode cX2_areSame 9 = .ok (.getfield 11, 3) := by decide +kernel
theorem dX2_areSame_12 : decode cX2_areSame 12 = .ok (.iload_n 1, 1) := by decide +kernel
theorem dX2_areSame_13 : decode cX2_areSame 13 = .ok (.aaload, 1) := by decide +kernel
theorem dX2_areSame_14 : decode cX2_areSame 14 = .ok (.aload_n 0, 1) := by decide +kernel
theorem dX2_areSame_15 : decode cX2_areSame 15 = .ok (.getfield 11, 3) := by decide +kernel
theorem dX2_areSame_18 : decode cX2_areSame 18 = .ok (.iload_n 2, 1) := by decide +kernel
theorem dX2_areSame_19 : decode cX2_areSame 19 = .ok (.aaload, 1) := by decide +kernel
theorem dX2_areSame_20 : decode cX2_areSame 20 = .ok (.invokevirtual 161, 3) := by decide +kernel
theorem dX2_areSame_23 : decode cX2_areSame 23 = .ok (.ireturn, 1) := by decide +kernel
set_option maxRecDepth 100000 in
set_option maxHeartbeats 4000000 in
theorem C_areSame_ok {l : Launch} {D : va_G} {cy : Nat → ClassId} {X : (Nat → Prop) → State → Heap → Prop} {a f : Nat → Nat → Nat} {r : Nat → Nat → Int32} {kn : Int32} {Y : va_W} {i : Nat} {j : Nat} (hX : EnvX X) (hC : CInv f) (hi4 : i < 4) (hj4 : j < 4) : Cd l D cy X yX2_areSame cX2_areSame 3 (some .boolean) (rmz 6 240) [.ref (a 0 0), .int (nI i), .int (nI j)] (WC cy a f r kn ++ Y) (some (.int (nI (if f 4 i = f 4 j ∧ stF (fun q => r (f 0 i) (f 3 i + (0 + q))) (fun q => r (f 0 j) (f 3 j + q)) (f 4 j) 0 ≠ 0 then 1 else 0)))) (WC cy a f r kn ++ Y) := by
  have q3 := hC.sp
  have q1_i := hC.rw hi4
  have q2_i := hC.al (i := i) (by omega)
  have q6_i : f 4 (f 1 i) = f 4 i := by rw [q1_i.2.1]
  have q1_j := hC.rw hj4
  have q2_j := hC.al (i := j) (by omega)
  have q6_j : f 4 (f 1 j) = f 4 j := by rw [q1_j.2.1]
  refine Cm.of [some (.ref (a 0 0)), some (.int (nI i)), some (.int (nI j))] (by decide +kernel) rfl (Nat.le_of_ble_eq_true rfl) ?_
  intro p e s m args below meth c A C hE hr hnt hn
  refine r_iload_n C dX2_areSame_0 rfl ?_
  refine d_Sv (st := []) hX.stb C hE (C_needRow_ok (f := f) (r := r) (kn := kn) (k := i) hX (by first | omega | (simp [up2, *]; done) | (simp [up2, *]; omega) | (simp only [up2_eq]; omega) | (split <;> omega))) pk_X2_needRow qm_X2_126 rfl rfl (Nat.le_of_ble_eq_true rfl) dX2_areSame_1 ⟨Nat.le_of_ble_eq_true rfl, Nat.le_of_ble_eq_true rfl⟩ ⟨Nat.le_of_ble_eq_true rfl, Nat.le_of_ble_eq_true rfl⟩ ?_
  refine r_iload_n C dX2_areSame_4 rfl ?_
  refine d_Sv (st := []) hX.stb C hE (C_needRow_ok (f := f) (r := r) (kn := kn) (k := j) hX (by first | omega | (simp [up2, *]; done) | (simp [up2, *]; omega) | (simp only [up2_eq]; omega) | (split <;> omega))) pk_X2_needRow qm_X2_126 rfl rfl (Nat.le_of_ble_eq_true rfl) dX2_areSame_5 ⟨Nat.le_of_ble_eq_true rfl, Nat.le_of_ble_eq_true rfl⟩ ⟨Nat.le_of_ble_eq_true rfl, Nat.le_of_ble_eq_true rfl⟩ ?_
  refine r_aload_n C dX2_areSame_8 rfl ?_
  refine s_get C 0 (by decide) qf_X2_11 rfl rfl dX2_areSame_9 ?_
  refine r_iload_n C dX2_areSame_12 rfl ?_
  refine s_parts C (by first | omega | (simp [up2, *]; done) | (simp [up2, *]; omega) | (simp only [up2_eq]; omega) | (split <;> omega)) dX2_areSame_13 ?_
  refine r_aload_n C dX2_areSame_14 rfl ?_
  refine s_get C 0 (by decide) qf_X2_11 rfl rfl dX2_areSame_15 ?_
  refine r_iload_n C dX2_areSame_18 rfl ?_
  refine s_parts C (by first | omega | (simp [up2, *]; done) | (simp [up2, *]; omega) | (simp only [up2_eq]; omega) | (split <;> omega)) dX2_areSame_19 ?_
  refine d_V (st := []) hX.stb C hE (C_isLike (f := f) (r := r) (kn := kn) (i := i) (j := j) hX (by first | omega | (simp [up2, *]; done) | (simp [up2, *]; omega) | (simp only [up2_eq]; omega) | (split <;> omega)) (by first | omega | (simp [up2, *]; done) | (simp [up2, *]; omega) | (simp only [up2_eq]; omega) | (split <;> omega)) (by first | omega | (simp [up2, *]; done) | (simp [up2, *]; omega) | (simp only [up2_eq]; omega) | (split <;> omega)) (by first | omega | (simp [up2, *]; done) | (simp [up2, *]; omega) | (simp only [up2_eq]; omega) | (split <;> omega)) (by first | omega | (simp [up2, *]; done) | (simp [up2, *]; omega) | (simp only [up2_eq]; omega) | (split <;> omega)) (by first | omega | (simp [up2, *]; done) | (simp [up2, *]; omega) | (simp only [up2_eq]; omega) | (split <;> omega))) pk_X1_isLike qm_X2_161 (3 + i) 5 rfl rfl (wc_p (by first | omega | (simp [up2, *]; done) | (simp [up2, *]; omega) | (simp only [up2_eq]; omega) | (split <;> omega))) rfl rfl (Nat.le_of_ble_eq_true rfl) dX2_areSame_20 ⟨Nat.le_of_ble_eq_true rfl, Nat.le_of_ble_eq_true rfl⟩ ⟨Nat.le_of_ble_eq_true rfl, Nat.le_of_ble_eq_true rfl⟩ ?_
  exact r_zret C hr (by first | omega | (simp [up2, *]; done) | (simp [up2, *]; omega) | (simp only [up2_eq]; omega) | (split <;> omega)) dX2_areSame_23 ⟨rfl, rfl⟩ (Nat.le_of_ble_eq_true rfl) (Nat.le_of_ble_eq_true rfl)
