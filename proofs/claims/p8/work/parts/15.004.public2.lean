theorem dX2_addAll_0 : decode cX2_addAll 0 = .ok (.iload_n 1, 1) := by decide +kernel
theorem dX2_addAll_1 : decode cX2_addAll 1 = .ok (.invokestatic 126, 3) := by decide +kernel
set_option maxRecDepth 100000 in
set_option maxHeartbeats 4000000 in
theorem C_addAll_noR {l : Launch} {D : va_G} {cy : Nat → ClassId} {X : (Nat → Prop) → State → Heap → Prop} {a f : Nat → Nat → Nat} {r : Nat → Nat → Int32} {kn : Int32} {Y : va_W} {x : Int32} {y0 : Int32} {y1 : Int32} (hX : EnvX X) (hl : l.stackTraces = false) (hC : CInv f) (hno : ¬ (0 ≤ x ∧ x < nI 4)) : Ce l D cy X yX2_addAll cX2_addAll 5 (some .int) (rmk 8 1 6 170) [.ref (a 0 0), .int x, .int y0, .int y1] (WC cy a f r kn ++ Y) "java/lang/IndexOutOfBoundsException" := by
  have q3 := hC.sp
  refine Cm.of [some (.ref (a 0 0)), some (.int x), some (.int y0), some (.int y1), none] (by decide +kernel) rfl (Nat.le_of_ble_eq_true rfl) ?_
  intro p e s m args below meth c A C hE hr hnt hn
  refine r_iload_n C dX2_addAll_0 rfl ?_
  refine c_S (st := []) hX.stb C hE (C_needRow_no (f := f) (r := r) (kn := kn) (x := (x)) hX hl hno) pk_X2_needRow qm_X2_126 rfl rfl (Nat.le_of_ble_eq_true rfl) dX2_addAll_1 ⟨Nat.le_of_ble_eq_true rfl, Nat.le_of_ble_eq_true rfl⟩ ⟨Nat.le_of_ble_eq_true rfl, Nat.le_of_ble_eq_true rfl⟩ (fun _ _ h9 => h9.elim) (fun E9 h9 => ?_)
  subst h9
  exact r_out C hnt rfl rfl (Nat.le_of_ble_eq_true rfl) (Nat.le_of_ble_eq_true rfl)
theorem dX2_addAll_4 : decode cX2_addAll 4 = .ok (.iload_n 3, 1) := by decide +kernel
theorem dX2_addAll_5 : decode cX2_addAll 5 = .ok (.invokestatic 126, 3) := by decide +kernel
set_option maxRecDepth 100000 in
set_option maxHeartbeats 4000000 in
theorem C_addAll_noR2 {l : Launch} {D : va_G} {cy : Nat → ClassId} {X : (Nat → Prop) → State → Heap → Prop} {a f : Nat → Nat → Nat} {r : Nat → Nat → Int32} {kn : Int32} {Y : va_W} {i : Nat} {y0 : Int32} {x : Int32} (hX : EnvX X) (hl : l.stackTraces = false) (hC : CInv f) (hi4 : i < 4) (hno : ¬ (0 ≤ x ∧ x < nI 4)) : Ce l D cy X yX2_addAll cX2_addAll 5 (some .int) (rmk 8 1 6 170) [.ref (a 0 0), .int (nI i), .int y0, .int x] (WC cy a f r kn ++ Y) "java/lang/IndexOutOfBoundsException" := by
  have q3 := hC.sp
  have q1_i := hC.rw hi4
  have q2_i := hC.al (i := i) (by omega)
  have q6_i : f 4 (f 1 i) = f 4 i := by rw [q1_i.2.1]
  refine Cm.of [some (.ref (a 0 0)), some (.int (nI i)), some (.int y0), some (.int x), none] (by decide +kernel) rfl (Nat.le_of_ble_eq_true rfl) ?_
  intro p e s m args below meth c A C hE hr hnt hn
  refine r_iload_n C dX2_addAll_0 rfl ?_
  refine d_Sv (st := []) hX.stb C hE (C_needRow_ok (f := f) (r := r) (kn := kn) (k := i) hX (by first | omega | (simp [up2, *]; done) | (simp [up2, *]; omega) | (simp only [up2_eq]; omega) | (split <;> omega))) pk_X2_needRow qm_X2_126 rfl rfl (Nat.le_of_ble_eq_true rfl) dX2_addAll_1 ⟨Nat.le_of_ble_eq_true rfl, Nat.le_of_ble_eq_true rfl⟩ ⟨Nat.le_of_ble_eq_true rfl, Nat.le_of_ble_eq_true rfl⟩ ?_
  refine r_iload_n C dX2_addAll_4 rfl ?_
  refine c_S (st := []) hX.stb C hE (C_needRow_no (f := f) (r := r) (kn := kn) (x := (x)) hX hl hno) pk_X2_needRow qm_X2_126 rfl rfl (Nat.le_of_ble_eq_true rfl) dX2_addAll_5 ⟨Nat.le_of_ble_eq_true rfl, Nat.le_of_ble_eq_true rfl⟩ ⟨Nat.le_of_ble_eq_true rfl, Nat.le_of_ble_eq_true rfl⟩ (fun _ _ h9 => h9.elim) (fun E9 h9 => ?_)
  subst h9
  exact r_out C hnt rfl rfl (Nat.le_of_ble_eq_true rfl) (Nat.le_of_ble_eq_true rfl)
theorem dX2_addAll_8 : decode cX2_addAll 8 = .ok (.aload_n 0, 1) := by decide +kernel
theorem dX2_addAll_9 : decode cX2_addAll 9 = .ok (.getfield 11, 3) := by decide +kernel
theorem dX2_addAll_12 : decode cX2_addAll 12 = .ok (.iload_n 3, 1) := by decide +kernel
theorem dX2_addAll_13 : decode cX2_addAll 13 = .ok (.aaload, 1) := by decide +kernel
theorem dX2_addAll_14 : decode cX2_addAll 14 = .ok (.getfield 50, 3) := by decide +kernel
theorem dX2_addAll_17 : decode cX2_addAll 17 = .ok (.istore 4, 2) := by decide +kernel
theorem dX2_addAll_19 : decode cX2_addAll 19 = .ok (.aload_n 0, 1) := by decide +kernel
theorem dX2_addAll_20 : decode cX2_addAll 20 = .ok (.iload_n 1, 1) := by decide +kernel
theorem dX2_addAll_21 : decode cX2_addAll 21 = .ok (.iload 4, 2) := by decide +kernel
theorem dX2_addAll_23 : decode cX2_addAll 23 = .ok (.invokevirtual 46, 3) := by decide +kernel
set_option maxRecDepth 100000 in
set_option maxHeartbeats 4000000 in
theorem C_addAll_full {l : Launch} {D : va_G} {cy : Nat → ClassId} {X : (Nat → Prop) → State → Heap → Prop} {a f : Nat → Nat → Nat} {r : Nat → Nat → Int32} {kn : Int32} {Y : va_W} {i : Nat} {y0 : Int32} {j : Nat} (hX : EnvX X) (hl : l.stackTraces = false) (hC : CInv f) (hi4 : i < 4) (hj4 : j < 4) (hfull : 12 < f 4 (f 1 i) + f 4 j) : Ce l D cy X yX2_addAll cX2_addAll 5 (some .int) (rmk 8 1 6 170) [.ref (a 0 0), .int (nI i), .int y0, .int (nI j)] (WC cy a f r kn ++ Y) "java/lang/IllegalStateException" := by
  have q3 := hC.sp
  have q1_i := hC.rw hi4
  have q2_i := hC.al (i := i) (by omega)
  have q6_i : f 4 (f 1 i) = f 4 i := by rw [q1_i.2.1]
  have q1_j := hC.rw hj4
  have q2_j := hC.al (i := j) (by omega)
  have q6_j : f 4 (f 1 j) = f 4 j := by rw [q1_j.2.1]
  have q7 : f 4 (f 1 i) ≤ 12 := by rw [q1_i.2.1]; omega
  refine Cm.of [some (.ref (a 0 0)), some (.int (nI i)), some (.int y0), some (.int (nI j)), none] (by decide +kernel) rfl (Nat.le_of_ble_eq_true rfl) ?_
  intro p e s m args below meth c A C hE hr hnt hn
  refine r_iload_n C dX2_addAll_0 rfl ?_
  refine d_Sv (st := []) hX.stb C hE (C_needRow_ok (f := f) (r := r) (kn := kn) (k := i) hX (by first | omega | (simp [up2, *]; done) | (simp [up2, *]; omega) | (simp only [up2_eq]; omega) | (split <;> omega))) pk_X2_needRow qm_X2_126 rfl rfl (Nat.le_of_ble_eq_true rfl) dX2_addAll_1 ⟨Nat.le_of_ble_eq_true rfl, Nat.le_of_ble_eq_true rfl⟩ ⟨Nat.le_of_ble_eq_true rfl, Nat.le_of_ble_eq_true rfl⟩ ?_
  refine r_iload_n C dX2_addAll_4 rfl ?_
  refine d_Sv (st := []) hX.stb C hE (C_needRow_ok (f := f) (r := r) (kn := kn) (k := j) hX (by first | omega | (simp [up2, *]; done) | (simp [up2, *]; omega) | (simp only [up2_eq]; omega) | (split <;> omega))) pk_X2_needRow qm_X2_126 rfl rfl (Nat.le_of_ble_eq_true rfl) dX2_addAll_5 ⟨Nat.le_of_ble_eq_true rfl, Nat.le_of_ble_eq_true rfl⟩ ⟨Nat.le_of_ble_eq_true rfl, Nat.le_of_ble_eq_true rfl⟩ ?_
  refine r_aload_n C dX2_addAll_8 rfl ?_
  refine s_get C 0 (by decide) qf_X2_11 rfl rfl dX2_addAll_9 ?_
  refine r_iload_n C dX2_addAll_12 rfl ?_
  refine s_parts C (by first | omega | (simp [up2, *]; done) | (simp [up2, *]; omega) | (simp only [up2_eq]; omega) | (split <;> omega)) dX2_addAll_13 ?_
  refine p_getN (v := .int (nI (f 4 j))) hX C hE 4 (by first | omega | (simp [up2, *]; done) | (simp [up2, *]; omega) | (simp only [up2_eq]; omega) | (split <;> omega)) (by decide) qn_X2_50 rfl rfl dX2_addAll_14 ?_
  refine r_istore C dX2_addAll_17 (by decide) rfl ?_
  refine r_aload_n C dX2_addAll_19 rfl ?_
  refine r_iload_n C dX2_addAll_20 rfl ?_
  refine r_iload C dX2_addAll_21 rfl ?_
  refine c_V (st := []) hX.stb C hE (C_needRoom_no (f := f) (r := r) (kn := kn) (w := i) (x := ((nI (f 4 j)))) (q0 := (f 4 (f 1 i) + f 4 j)) hX hl (by first | omega | (simp [up2, *]; done) | (simp [up2, *]; omega) | (simp only [up2_eq]; omega) | (split <;> omega)) (by omega) (nI_add _ _) (by first | omega | (simp [up2, *]; done) | (simp [up2, *]; omega) | (simp only [up2_eq]; omega) | (split <;> omega)) (by first | omega | (simp [up2, *]; done) | (simp [up2, *]; omega) | (simp only [up2_eq]; omega) | (split <;> omega))) pk_X2_needRoom qm_X2_46 0 6 rfl rfl wc_0 rfl rfl (Nat.le_of_ble_eq_true rfl) dX2_addAll_23 ⟨Nat.le_of_ble_eq_true rfl, Nat.le_of_ble_eq_true rfl⟩ ⟨Nat.le_of_ble_eq_true rfl, Nat.le_of_ble_eq_true rfl⟩ (fun _ _ h9 => h9.elim) (fun E9 h9 => ?_)
  subst h9
  exact r_out C hnt rfl rfl (Nat.le_of_ble_eq_true rfl) (Nat.le_of_ble_eq_true rfl)
