theorem dX2_contains_4 : decode cX2_contains 4 = .ok (.aload_n 0, 1) := by decide +kernel
theorem dX2_contains_5 : decode cX2_contains 5 = .ok (.getfield 11, 3) := by decide +kernel
theorem dX2_contains_8 : decode cX2_contains 8 = .ok (.iload_n 1, 1) := by decide +kernel
theorem dX2_contains_9 : decode cX2_contains 9 = .ok (.aaload, 1) := by decide +kernel
theorem dX2_contains_10 : decode cX2_contains 10 = .ok (.iload_n 2, 1) := by decide +kernel
theorem dX2_contains_11 : decode cX2_contains 11 = .ok (.invokevirtual 144, 3) := by decide +kernel
theorem dX2_contains_14 : decode cX2_contains 14 = .ok (.ireturn, 1) := by decide +kernel
set_option maxRecDepth 100000 in
set_option maxHeartbeats 4000000 in
theorem C_contains_ok {l : Launch} {D : va_G} {cy : Nat → ClassId} {X : (Nat → Prop) → State → Heap → Prop} {a f : Nat → Nat → Nat} {r : Nat → Nat → Int32} {kn : Int32} {Y : va_W} {i : Nat} {y : Int32} (hX : EnvX X) (hC : CInv f) (hi4 : i < 4) : Cd l D cy X yX2_contains cX2_contains 3 (some .boolean) (rmz 6 240) [.ref (a 0 0), .int (nI i), .int y] (WC cy a f r kn ++ Y) (some (.int (nI (if fpF (fun q => r (f 0 i) (f 3 i + q)) (y) (f 4 i) 0 = 4294967295 then 0 else 1)))) (WC cy a f r kn ++ Y) := by
  have q3 := hC.sp
  have q1_i := hC.rw hi4
  have q2_i := hC.al (i := i) (by omega)
  have q6_i : f 4 (f 1 i) = f 4 i := by rw [q1_i.2.1]
  refine Cm.of [some (.ref (a 0 0)), some (.int (nI i)), some (.int y)] (by decide +kernel) rfl (Nat.le_of_ble_eq_true rfl) ?_
  intro p e s m args below meth c A C hE hr hnt hn
  refine r_iload_n C dX2_contains_0 rfl ?_
  refine d_Sv (st := []) hX.stb C hE (C_needRow_ok (f := f) (r := r) (kn := kn) (k := i) hX (by first | omega | (simp [up2, *]; done) | (simp [up2, *]; omega) | (simp only [up2_eq]; omega) | (split <;> omega))) pk_X2_needRow qm_X2_126 rfl rfl (Nat.le_of_ble_eq_true rfl) dX2_contains_1 ⟨Nat.le_of_ble_eq_true rfl, Nat.le_of_ble_eq_true rfl⟩ ⟨Nat.le_of_ble_eq_true rfl, Nat.le_of_ble_eq_true rfl⟩ ?_
  refine r_aload_n C dX2_contains_4 rfl ?_
  refine s_get C 0 (by decide) qf_X2_11 rfl rfl dX2_contains_5 ?_
  refine r_iload_n C dX2_contains_8 rfl ?_
  refine s_parts C (by first | omega | (simp [up2, *]; done) | (simp [up2, *]; omega) | (simp only [up2_eq]; omega) | (split <;> omega)) dX2_contains_9 ?_
  refine r_iload_n C dX2_contains_10 rfl ?_
  refine d_V (st := []) hX.stb C hE (C_has (f := f) (r := r) (kn := kn) (i := i) (x := (y)) hX (by first | omega | (simp [up2, *]; done) | (simp [up2, *]; omega) | (simp only [up2_eq]; omega) | (split <;> omega)) (by first | omega | (simp [up2, *]; done) | (simp [up2, *]; omega) | (simp only [up2_eq]; omega) | (split <;> omega)) (by first | omega | (simp [up2, *]; done) | (simp [up2, *]; omega) | (simp only [up2_eq]; omega) | (split <;> omega))) pk_X1_has qm_X2_144 (3 + i) 5 rfl rfl (wc_p (by first | omega | (simp [up2, *]; done) | (simp [up2, *]; omega) | (simp only [up2_eq]; omega) | (split <;> omega))) rfl rfl (Nat.le_of_ble_eq_true rfl) dX2_contains_11 ⟨Nat.le_of_ble_eq_true rfl, Nat.le_of_ble_eq_true rfl⟩ ⟨Nat.le_of_ble_eq_true rfl, Nat.le_of_ble_eq_true rfl⟩ ?_
  exact r_zret C hr (by first | omega | (simp [up2, *]; done) | (simp [up2, *]; omega) | (simp only [up2_eq]; omega) | (split <;> omega)) dX2_contains_14 ⟨rfl, rfl⟩ (Nat.le_of_ble_eq_true rfl) (Nat.le_of_ble_eq_true rfl)
theorem dX2_lastIndexOf_0 : decode cX2_lastIndexOf 0 = .ok (.iload_n 1, 1) := by decide +kernel
theorem dX2_lastIndexOf_1 : decode cX2_lastIndexOf 1 = .ok (.invokestatic 126, 3) := by decide +kernel
set_option maxRecDepth 100000 in
set_option maxHeartbeats 4000000 in
theorem C_lastIndexOf_noR {l : Launch} {D : va_G} {cy : Nat → ClassId} {X : (Nat → Prop) → State → Heap → Prop} {a f : Nat → Nat → Nat} {r : Nat → Nat → Int32} {kn : Int32} {Y : va_W} {x : Int32} {y0 : Int32} (hX : EnvX X) (hl : l.stackTraces = false) (hC : CInv f) (hno : ¬ (0 ≤ x ∧ x < nI 4)) : Ce l D cy X yX2_lastIndexOf cX2_lastIndexOf 5 (some .int) (rmk 8 1 6 170) [.ref (a 0 0), .int x, .int y0] (WC cy a f r kn ++ Y) "java/lang/IndexOutOfBoundsException" := by
  have q3 := hC.sp
  refine Cm.of [some (.ref (a 0 0)), some (.int x), some (.int y0), none, none] (by decide +kernel) rfl (Nat.le_of_ble_eq_true rfl) ?_
  intro p e s m args below meth c A C hE hr hnt hn
  refine r_iload_n C dX2_lastIndexOf_0 rfl ?_
  refine c_S (st := []) hX.stb C hE (C_needRow_no (f := f) (r := r) (kn := kn) (x := (x)) hX hl hno) pk_X2_needRow qm_X2_126 rfl rfl (Nat.le_of_ble_eq_true rfl) dX2_lastIndexOf_1 ⟨Nat.le_of_ble_eq_true rfl, Nat.le_of_ble_eq_true rfl⟩ ⟨Nat.le_of_ble_eq_true rfl, Nat.le_of_ble_eq_true rfl⟩ (fun _ _ h9 => h9.elim) (fun E9 h9 => ?_)
  subst h9
  exact r_out C hnt rfl rfl (Nat.le_of_ble_eq_true rfl) (Nat.le_of_ble_eq_true rfl)
theorem dX2_lastIndexOf_4 : decode cX2_lastIndexOf 4 = .ok (.iconst (-1), 1) := by decide +kernel
theorem dX2_lastIndexOf_5 : decode cX2_lastIndexOf 5 = .ok (.istore_n 3, 1) := by decide +kernel
theorem dX2_lastIndexOf_6 : decode cX2_lastIndexOf 6 = .ok (.iconst 0, 1) := by decide +kernel
theorem dX2_lastIndexOf_7 : decode cX2_lastIndexOf 7 = .ok (.istore 4, 2) := by decide +kernel
theorem dX2_lastIndexOf_9 : decode cX2_lastIndexOf 9 = .ok (.iload 4, 2) := by decide +kernel
theorem dX2_lastIndexOf_11 : decode cX2_lastIndexOf 11 = .ok (.aload_n 0, 1) := by decide +kernel
theorem dX2_lastIndexOf_12 : decode cX2_lastIndexOf 12 = .ok (.getfield 11, 3) := by decide +kernel
theorem dX2_lastIndexOf_15 : decode cX2_lastIndexOf 15 = .ok (.iload_n 1, 1) := by decide +kernel
theorem dX2_lastIndexOf_16 : decode cX2_lastIndexOf 16 = .ok (.aaload, 1) := by decide +kernel
theorem dX2_lastIndexOf_17 : decode cX2_lastIndexOf 17 = .ok (.getfield 50, 3) := by decide +kernel
theorem dX2_lastIndexOf_20 : decode cX2_lastIndexOf 20 = .ok (.if_icmp .ge 27, 3) := by decide +kernel
theorem dX2_lastIndexOf_23 : decode cX2_lastIndexOf 23 = .ok (.aload_n 0, 1) := by decide +kernel
