theorem dX2_inArray_10 : decode cX2_inArray 10 = .ok (.aload_n 0, 1) := by decide +kernel
theorem dX2_inArray_11 : decode cX2_inArray 11 = .ok (.getfield 11, 3) := by decide +kernel
theorem dX2_inArray_14 : decode cX2_inArray 14 = .ok (.iload_n 1, 1) := by decide +kernel
theorem dX2_inArray_15 : decode cX2_inArray 15 = .ok (.aaload, 1) := by decide +kernel
theorem dX2_inArray_16 : decode cX2_inArray 16 = .ok (.iload_n 2, 1) := by decide +kernel
theorem dX2_inArray_17 : decode cX2_inArray 17 = .ok (.invokevirtual 65, 3) := by decide +kernel
theorem dX2_inArray_20 : decode cX2_inArray 20 = .ok (.ireturn, 1) := by decide +kernel
set_option maxRecDepth 100000 in
set_option maxHeartbeats 4000000 in
theorem C_inArray_ok {l : Launch} {D : va_G} {cy : Nat → ClassId} {X : (Nat → Prop) → State → Heap → Prop} {a f : Nat → Nat → Nat} {r : Nat → Nat → Int32} {kn : Int32} {Y : va_W} {i : Nat} {k0 : Nat} (hX : EnvX X) (hC : CInv f) (hi4 : i < 4) (hk : k0 < f 4 i) : Cd l D cy X yX2_inArray cX2_inArray 3 (some .int) (rmz 6 240) [.ref (a 0 0), .int (nI i), .int (nI k0)] (WC cy a f r kn ++ Y) (some (.int (r (f 0 i) (f 3 i + k0)))) (WC cy a f r kn ++ Y) := by
  have q3 := hC.sp
  have q1_i := hC.rw hi4
  have q2_i := hC.al (i := i) (by omega)
  have q6_i : f 4 (f 1 i) = f 4 i := by rw [q1_i.2.1]
  refine Cm.of [some (.ref (a 0 0)), some (.int (nI i)), some (.int (nI k0))] (by decide +kernel) rfl (Nat.le_of_ble_eq_true rfl) ?_
  intro p e s m args below meth c A C hE hr hnt hn
  refine r_iload_n C dX2_inArray_0 rfl ?_
  refine d_Sv (st := []) hX.stb C hE (C_needRow_ok (f := f) (r := r) (kn := kn) (k := i) hX (by first | omega | (simp [up2, *]; done) | (simp [up2, *]; omega) | (simp only [up2_eq]; omega) | (split <;> omega))) pk_X2_needRow qm_X2_126 rfl rfl (Nat.le_of_ble_eq_true rfl) dX2_inArray_1 ⟨Nat.le_of_ble_eq_true rfl, Nat.le_of_ble_eq_true rfl⟩ ⟨Nat.le_of_ble_eq_true rfl, Nat.le_of_ble_eq_true rfl⟩ ?_
  refine r_aload_n C dX2_inArray_4 rfl ?_
  refine r_iload_n C dX2_inArray_5 rfl ?_
  refine r_iload_n C dX2_inArray_6 rfl ?_
  refine d_Vv (st := []) hX.stb C hE (C_needPlace_ok (f := f) (r := r) (kn := kn) (w := i) (k := k0) hX (by first | omega | (simp [up2, *]; done) | (simp [up2, *]; omega) | (simp only [up2_eq]; omega) | (split <;> omega)) (by first | omega | (simp [up2, *]; done) | (simp [up2, *]; omega) | (simp only [up2_eq]; omega) | (split <;> omega)) (by first | omega | (simp [up2, *]; done) | (simp [up2, *]; omega) | (simp only [up2_eq]; omega) | (split <;> omega)) (by first | omega | (simp [up2, *]; done) | (simp [up2, *]; omega) | (simp only [up2_eq]; omega) | (split <;> omega))) pk_X2_needPlace qm_X2_62 0 6 rfl rfl wc_0 rfl rfl (Nat.le_of_ble_eq_true rfl) dX2_inArray_7 ⟨Nat.le_of_ble_eq_true rfl, Nat.le_of_ble_eq_true rfl⟩ ⟨Nat.le_of_ble_eq_true rfl, Nat.le_of_ble_eq_true rfl⟩ ?_
  refine r_aload_n C dX2_inArray_10 rfl ?_
  refine s_get C 0 (by decide) qf_X2_11 rfl rfl dX2_inArray_11 ?_
  refine r_iload_n C dX2_inArray_14 rfl ?_
  refine s_parts C (by first | omega | (simp [up2, *]; done) | (simp [up2, *]; omega) | (simp only [up2_eq]; omega) | (split <;> omega)) dX2_inArray_15 ?_
  refine r_iload_n C dX2_inArray_16 rfl ?_
  refine d_V (st := []) hX.stb C hE (C_itemAt (f := f) (r := r) (kn := kn) (i := i) (k := k0) hX (by first | omega | (simp [up2, *]; done) | (simp [up2, *]; omega) | (simp only [up2_eq]; omega) | (split <;> omega)) (by first | omega | (simp [up2, *]; done) | (simp [up2, *]; omega) | (simp only [up2_eq]; omega) | (split <;> omega)) (by first | omega | (simp [up2, *]; done) | (simp [up2, *]; omega) | (simp only [up2_eq]; omega) | (split <;> omega))) pk_X1_itemAt qm_X2_65 (3 + i) 5 rfl rfl (wc_p (by first | omega | (simp [up2, *]; done) | (simp [up2, *]; omega) | (simp only [up2_eq]; omega) | (split <;> omega))) rfl rfl (Nat.le_of_ble_eq_true rfl) dX2_inArray_17 ⟨Nat.le_of_ble_eq_true rfl, Nat.le_of_ble_eq_true rfl⟩ ⟨Nat.le_of_ble_eq_true rfl, Nat.le_of_ble_eq_true rfl⟩ ?_
  exact r_iret C hr dX2_inArray_20 ⟨rfl, rfl⟩ (Nat.le_of_ble_eq_true rfl) (Nat.le_of_ble_eq_true rfl)
theorem dX2_through_0 : decode cX2_through 0 = .ok (.aload_n 0, 1) := by decide +kernel
theorem dX2_through_1 : decode cX2_through 1 = .ok (.iload_n 1, 1) := by decide +kernel
theorem dX2_through_2 : decode cX2_through 2 = .ok (.invokevirtual 39, 3) := by decide +kernel
set_option maxRecDepth 100000 in
set_option maxHeartbeats 4000000 in
theorem C_through_noW {l : Launch} {D : va_G} {cy : Nat → ClassId} {X : (Nat → Prop) → State → Heap → Prop} {a f : Nat → Nat → Nat} {r : Nat → Nat → Int32} {kn : Int32} {Y : va_W} {x : Int32} {y0 : Int32} {y1 : Int32} (hX : EnvX X) (hl : l.stackTraces = false) (hC : CInv f) (hno : noW f x) : Ce l D cy X yX2_through cX2_through 6 (some .int) (rmk 8 1 6 170) [.ref (a 0 0), .int x, .int y0, .int y1] (WC cy a f r kn ++ Y) "java/lang/IndexOutOfBoundsException" := by
  have q3 := hC.sp
  refine Cm.of [some (.ref (a 0 0)), some (.int x), some (.int y0), some (.int y1), none, none] (by decide +kernel) rfl (Nat.le_of_ble_eq_true rfl) ?_
  intro p e s m args below meth c A C hE hr hnt hn
  refine r_aload_n C dX2_through_0 rfl ?_
  refine r_iload_n C dX2_through_1 rfl ?_
  refine c_V (st := []) hX.stb C hE (C_needWhere_no (f := f) (r := r) (kn := kn) (x := (x)) hX hl hno hC.h5) pk_X2_needWhere qm_X2_39 0 6 rfl rfl wc_0 rfl rfl (Nat.le_of_ble_eq_true rfl) dX2_through_2 ⟨Nat.le_of_ble_eq_true rfl, Nat.le_of_ble_eq_true rfl⟩ ⟨Nat.le_of_ble_eq_true rfl, Nat.le_of_ble_eq_true rfl⟩ (fun _ _ h9 => h9.elim) (fun E9 h9 => ?_)
  subst h9
  exact r_out C hnt rfl rfl (Nat.le_of_ble_eq_true rfl) (Nat.le_of_ble_eq_true rfl)
theorem dX2_through_5 : decode cX2_through 5 = .ok (.aload_n 0, 1) := by decide +kernel
theorem dX2_through_6 : decode cX2_through 6 = .ok (.iload_n 2, 1) := by decide +kernel
theorem dX2_through_7 : decode cX2_through 7 = .ok (.invokevirtual 39, 3) := by decide +kernel
set_option maxRecDepth 100000 in
set_option maxHeartbeats 4000000 in
theorem C_through_noW2 {l : Launch} {D : va_G} {cy : Nat → ClassId} {X : (Nat → Prop) → State → Heap → Prop} {a f : Nat → Nat → Nat} {r : Nat → Nat → Int32} {kn : Int32} {Y : va_W} {w : Nat} {x : Int32} {y : Int32} (hX : EnvX X) (hl : l.stackTraces = false) (hC : CInv f) (hw : w < 8) (h5w : f 5 w = 1) (hno : noW f x) : Ce l D cy X yX2_through cX2_through 6 (some .int) (rmk 8 1 6 170) [.ref (a 0 0), .int (nI w), .int x, .int y] (WC cy a f r kn ++ Y) "java/lang/IndexOutOfBoundsException" := by
  have q3 := hC.sp
  have q1_w := hC.al hw
  have q2_w := hC.th hw h5w
  have q4_w := hC.rw (i := f 1 w) q1_w.2.1
  refine Cm.of [some (.ref (a 0 0)), some (.int (nI w)), some (.int x), some (.int y), none, none] (by decide +kernel) rfl (Nat.le_of_ble_eq_true rfl) ?_
  intro p e s m args below meth c A C hE hr hnt hn
  refine r_aload_n C dX2_through_0 rfl ?_
  refine r_iload_n C dX2_through_1 rfl ?_
  refine d_Vv (st := []) hX.stb C hE (C_needWhere_ok (f := f) (r := r) (kn := kn) (w := w) hX (by first | omega | (simp [up2, *]; done) | (simp [up2, *]; omega) | (simp only [up2_eq]; omega) | (split <;> omega)) (by first | omega | (simp [up2, *]; done) | (simp [up2, *]; omega) | (simp only [up2_eq]; omega) | (split <;> omega))) pk_X2_needWhere qm_X2_39 0 6 rfl rfl wc_0 rfl rfl (Nat.le_of_ble_eq_true rfl) dX2_through_2 ⟨Nat.le_of_ble_eq_true rfl, Nat.le_of_ble_eq_true rfl⟩ ⟨Nat.le_of_ble_eq_true rfl, Nat.le_of_ble_eq_true rfl⟩ ?_
  refine r_aload_n C dX2_through_5 rfl ?_
  refine r_iload_n C dX2_through_6 rfl ?_
  refine c_V (st := []) hX.stb C hE (C_needWhere_no (f := f) (r := r) (kn := kn) (x := (x)) hX hl hno hC.h5) pk_X2_needWhere qm_X2_39 0 6 rfl rfl wc_0 rfl rfl (Nat.le_of_ble_eq_true rfl) dX2_through_7 ⟨Nat.le_of_ble_eq_true rfl, Nat.le_of_ble_eq_true rfl⟩ ⟨Nat.le_of_ble_eq_true rfl, Nat.le_of_ble_eq_true rfl⟩ (fun _ _ h9 => h9.elim) (fun E9 h9 => ?_)
  subst h9
  exact r_out C hnt rfl rfl (Nat.le_of_ble_eq_true rfl) (Nat.le_of_ble_eq_true rfl)
