theorem dX2_copy_1 : decode cX2_copy 1 = .ok (.iload_n 1, 1) := by decide +kernel
theorem dX2_copy_2 : decode cX2_copy 2 = .ok (.invokevirtual 39, 3) := by decide +kernel
set_option maxRecDepth 100000 in
set_option maxHeartbeats 4000000 in
theorem C_copy_noW {l : Launch} {D : va_G} {cy : Nat → ClassId} {X : (Nat → Prop) → State → Heap → Prop} {a f : Nat → Nat → Nat} {r : Nat → Nat → Int32} {kn : Int32} {Y : va_W} {x : Int32} {y0 : Int32} (hX : EnvX X) (hl : l.stackTraces = false) (hC : CInv f) (hno : noW f x) : Ce l D cy X yX2_copy cX2_copy 3 (some .int) (rmk 8 1 6 170) [.ref (a 0 0), .int x, .int y0] (WC cy a f r kn ++ Y) "java/lang/IndexOutOfBoundsException" := by
  have q3 := hC.sp
  refine Cm.of [some (.ref (a 0 0)), some (.int x), some (.int y0)] (by decide +kernel) rfl (Nat.le_of_ble_eq_true rfl) ?_
  intro p e s m args below meth c A C hE hr hnt hn
  refine r_aload_n C dX2_copy_0 rfl ?_
  refine r_iload_n C dX2_copy_1 rfl ?_
  refine c_V (st := []) hX.stb C hE (C_needWhere_no (f := f) (r := r) (kn := kn) (x := (x)) hX hl hno hC.h5) pk_X2_needWhere qm_X2_39 0 6 rfl rfl wc_0 rfl rfl (Nat.le_of_ble_eq_true rfl) dX2_copy_2 ⟨Nat.le_of_ble_eq_true rfl, Nat.le_of_ble_eq_true rfl⟩ ⟨Nat.le_of_ble_eq_true rfl, Nat.le_of_ble_eq_true rfl⟩ (fun _ _ h9 => h9.elim) (fun E9 h9 => ?_)
  subst h9
  exact r_out C hnt rfl rfl (Nat.le_of_ble_eq_true rfl) (Nat.le_of_ble_eq_true rfl)
theorem dX2_copy_5 : decode cX2_copy 5 = .ok (.iload_n 2, 1) := by decide +kernel
theorem dX2_copy_6 : decode cX2_copy 6 = .ok (.invokestatic 126, 3) := by decide +kernel
set_option maxRecDepth 100000 in
set_option maxHeartbeats 4000000 in
theorem C_copy_noR {l : Launch} {D : va_G} {cy : Nat → ClassId} {X : (Nat → Prop) → State → Heap → Prop} {a f : Nat → Nat → Nat} {r : Nat → Nat → Int32} {kn : Int32} {Y : va_W} {w : Nat} {x : Int32} (hX : EnvX X) (hl : l.stackTraces = false) (hC : CInv f) (hw : w < 8) (h5w : f 5 w = 1) (hno : ¬ (0 ≤ x ∧ x < nI 4)) : Ce l D cy X yX2_copy cX2_copy 3 (some .int) (rmk 8 1 6 170) [.ref (a 0 0), .int (nI w), .int x] (WC cy a f r kn ++ Y) "java/lang/IndexOutOfBoundsException" := by
  have q3 := hC.sp
  have q1_w := hC.al hw
  have q2_w := hC.th hw h5w
  have q4_w := hC.rw (i := f 1 w) q1_w.2.1
  refine Cm.of [some (.ref (a 0 0)), some (.int (nI w)), some (.int x)] (by decide +kernel) rfl (Nat.le_of_ble_eq_true rfl) ?_
  intro p e s m args below meth c A C hE hr hnt hn
  refine r_aload_n C dX2_copy_0 rfl ?_
  refine r_iload_n C dX2_copy_1 rfl ?_
  refine d_Vv (st := []) hX.stb C hE (C_needWhere_ok (f := f) (r := r) (kn := kn) (w := w) hX (by first | omega | (simp [up2, *]; done) | (simp [up2, *]; omega) | (simp only [up2_eq]; omega) | (split <;> omega)) (by first | omega | (simp [up2, *]; done) | (simp [up2, *]; omega) | (simp only [up2_eq]; omega) | (split <;> omega))) pk_X2_needWhere qm_X2_39 0 6 rfl rfl wc_0 rfl rfl (Nat.le_of_ble_eq_true rfl) dX2_copy_2 ⟨Nat.le_of_ble_eq_true rfl, Nat.le_of_ble_eq_true rfl⟩ ⟨Nat.le_of_ble_eq_true rfl, Nat.le_of_ble_eq_true rfl⟩ ?_
  refine r_iload_n C dX2_copy_5 rfl ?_
  refine c_S (st := []) hX.stb C hE (C_needRow_no (f := f) (r := r) (kn := kn) (x := (x)) hX hl hno) pk_X2_needRow qm_X2_126 rfl rfl (Nat.le_of_ble_eq_true rfl) dX2_copy_6 ⟨Nat.le_of_ble_eq_true rfl, Nat.le_of_ble_eq_true rfl⟩ ⟨Nat.le_of_ble_eq_true rfl, Nat.le_of_ble_eq_true rfl⟩ (fun _ _ h9 => h9.elim) (fun E9 h9 => ?_)
  subst h9
  exact r_out C hnt rfl rfl (Nat.le_of_ble_eq_true rfl) (Nat.le_of_ble_eq_true rfl)
theorem dX2_copy_9 : decode cX2_copy 9 = .ok (.aload_n 0, 1) := by decide +kernel
theorem dX2_copy_10 : decode cX2_copy 10 = .ok (.getfield 29, 3) := by decide +kernel
theorem dX2_copy_13 : decode cX2_copy 13 = .ok (.aload_n 0, 1) := by decide +kernel
theorem dX2_copy_14 : decode cX2_copy 14 = .ok (.getfield 11, 3) := by decide +kernel
theorem dX2_copy_17 : decode cX2_copy 17 = .ok (.iload_n 1, 1) := by decide +kernel
theorem dX2_copy_18 : decode cX2_copy 18 = .ok (.aaload, 1) := by decide +kernel
theorem dX2_copy_19 : decode cX2_copy 19 = .ok (.invokevirtual 79, 3) := by decide +kernel
theorem dX2_copy_22 : decode cX2_copy 22 = .ok (.aload_n 0, 1) := by decide +kernel
theorem dX2_copy_23 : decode cX2_copy 23 = .ok (.iload_n 2, 1) := by decide +kernel
theorem dX2_copy_24 : decode cX2_copy 24 = .ok (.invokevirtual 136, 3) := by decide +kernel
theorem dX2_copy_27 : decode cX2_copy 27 = .ok (.ireturn, 1) := by decide +kernel
set_option maxRecDepth 100000 in
set_option maxHeartbeats 4000000 in
theorem C_copy_ok {l : Launch} {D : va_G} {cy : Nat → ClassId} {X : (Nat → Prop) → State → Heap → Prop} {a f : Nat → Nat → Nat} {r : Nat → Nat → Int32} {kn : Int32} {Y : va_W} {w : Nat} {i : Nat} (hX : EnvX X) (hC : CInv f) (hw : w < 8) (h5w : f 5 w = 1) (hi4 : i < 4) : Cd l D cy X yX2_copy cX2_copy 3 (some .int) (rmz 6 240) [.ref (a 0 0), .int (nI w), .int (nI i)] (WC cy a f r kn ++ Y) (some (.int (nI ((up2 f 4 8 (f 4 w)) 4 8)))) (WC cy a (settleF (up2 (up2 f 4 8 (f 4 w)) 4 i ((up2 f 4 8 (f 4 w)) 4 8)) i 4294967295) (cpy2 (cpy2 r (f 0 w) (f 3 w) (f 0 8) (f 3 8) (f 4 w)) ((up2 f 4 8 (f 4 w)) 0 8) ((up2 f 4 8 (f 4 w)) 3 8) (f 0 i) (f 3 i) ((up2 f 4 8 (f 4 w)) 4 8)) kn ++ Y) := by
  have q3 := hC.sp
  have q1_w := hC.al hw
  have q2_w := hC.th hw h5w
  have q4_w := hC.rw (i := f 1 w) q1_w.2.1
  have q1_i := hC.rw hi4
  have q2_i := hC.al (i := i) (by omega)
  have q6_i : f 4 (f 1 i) = f 4 i := by rw [q1_i.2.1]
  refine Cm.of [some (.ref (a 0 0)), some (.int (nI w)), some (.int (nI i))] (by decide +kernel) rfl (Nat.le_of_ble_eq_true rfl) ?_
  intro p e s m args below meth c A C hE hr hnt hn
  refine r_aload_n C dX2_copy_0 rfl ?_
  refine r_iload_n C dX2_copy_1 rfl ?_
  refine d_Vv (st := []) hX.stb C hE (C_needWhere_ok (f := f) (r := r) (kn := kn) (w := w) hX (by first | omega | (simp [up2, *]; done) | (simp [up2, *]; omega) | (simp only [up2_eq]; omega) | (split <;> omega)) (by first | omega | (simp [up2, *]; done) | (simp [up2, *]; omega) | (simp only [up2_eq]; omega) | (split <;> omega))) pk_X2_needWhere qm_X2_39 0 6 rfl rfl wc_0 rfl rfl (Nat.le_of_ble_eq_true rfl) dX2_copy_2 ⟨Nat.le_of_ble_eq_true rfl, Nat.le_of_ble_eq_true rfl⟩ ⟨Nat.le_of_ble_eq_true rfl, Nat.le_of_ble_eq_true rfl⟩ ?_
  refine r_iload_n C dX2_copy_5 rfl ?_
  refine d_Sv (st := []) hX.stb C hE (C_needRow_ok (f := f) (r := r) (kn := kn) (k := i) hX (by first | omega | (simp [up2, *]; done) | (simp [up2, *]; omega) | (simp only [up2_eq]; omega) | (split <;> omega))) pk_X2_needRow qm_X2_126 rfl rfl (Nat.le_of_ble_eq_true rfl) dX2_copy_6 ⟨Nat.le_of_ble_eq_true rfl, Nat.le_of_ble_eq_true rfl⟩ ⟨Nat.le_of_ble_eq_true rfl, Nat.le_of_ble_eq_true rfl⟩ ?_
  refine r_aload_n C dX2_copy_9 rfl ?_
  refine s_get C 2 (by decide) qf_X2_29 rfl rfl dX2_copy_10 ?_
  refine r_aload_n C dX2_copy_13 rfl ?_
  refine s_get C 0 (by decide) qf_X2_11 rfl rfl dX2_copy_14 ?_
  refine r_iload_n C dX2_copy_17 rfl ?_
  refine s_parts C (by first | omega | (simp [up2, *]; done) | (simp [up2, *]; omega) | (simp only [up2_eq]; omega) | (split <;> omega)) dX2_copy_18 ?_
  refine d_Vv (st := []) hX.stb C hE (C_becomeLike (f := f) (r := r) (kn := kn) (i := 8) (j := w) hX (by first | omega | (simp [up2, *]; done) | (simp [up2, *]; omega) | (simp only [up2_eq]; omega) | (split <;> omega)) (by first | omega | (simp [up2, *]; done) | (simp [up2, *]; omega) | (simp only [up2_eq]; omega) | (split <;> omega)) (by first | omega | (simp [up2, *]; done) | (simp [up2, *]; omega) | (simp only [up2_eq]; omega) | (split <;> omega)) (by first | omega | (simp [up2, *]; done) | (simp [up2, *]; omega) | (simp only [up2_eq]; omega) | (split <;> omega)) (by first | omega | (simp [up2, *]; done) | (simp [up2, *]; omega) | (simp only [up2_eq]; omega) | (split <;> omega)) (by first | omega | (simp [up2, *]; done) | (simp [up2, *]; omega) | (simp only [up2_eq]; omega) | (split <;> omega))) pk_X1_becomeLike qm_X2_79 (3 + 8) 5 rfl rfl (wc_p (by first | omega | (simp [up2, *]; done) | (simp [up2, *]; omega) | (simp only [up2_eq]; omega) | (split <;> omega))) rfl rfl (Nat.le_of_ble_eq_true rfl) dX2_copy_19 ⟨Nat.le_of_ble_eq_true rfl, Nat.le_of_ble_eq_true rfl⟩ ⟨Nat.le_of_ble_eq_true rfl, Nat.le_of_ble_eq_true rfl⟩ ?_
  refine r_aload_n C dX2_copy_22 rfl ?_
  refine r_iload_n C dX2_copy_23 rfl ?_
  refine d_V (st := []) hX.stb C hE (C_becomeSpare (f := (up2 f 4 8 (f 4 w))) (r := (cpy2 r (f 0 w) (f 3 w) (f 0 8) (f 3 8) (f 4 w))) (kn := kn) (i := i) hX (by first | omega | (simp [up2, *]; done) | (simp [up2, *]; omega) | (simp only [up2_eq]; omega) | (split <;> omega)) (by first | omega | (simp [up2, *]; done) | (simp [up2, *]; omega) | (simp only [up2_eq]; omega) | (split <;> omega)) (by first | omega | (simp [up2, *]; done) | (simp [up2, *]; omega) | (simp only [up2_eq]; omega) | (split <;> omega)) hC.h1 hC.hG hC.hU hC.hI8 (by first | omega | (simp [up2, *]; done) | (simp [up2, *]; omega) | (simp only [up2_eq]; omega) | (split <;> omega)) (by rw [up2_eq]; omega)) pk_X2_becomeSpare qm_X2_136 0 6 rfl rfl wc_0 rfl rfl (Nat.le_of_ble_eq_true rfl) dX2_copy_24 ⟨Nat.le_of_ble_eq_true rfl, Nat.le_of_ble_eq_true rfl⟩ ⟨Nat.le_of_ble_eq_true rfl, Nat.le_of_ble_eq_true rfl⟩ ?_
  exact r_iret C hr dX2_copy_27 ⟨rfl, rfl⟩ (Nat.le_of_ble_eq_true rfl) (Nat.le_of_ble_eq_true rfl)
