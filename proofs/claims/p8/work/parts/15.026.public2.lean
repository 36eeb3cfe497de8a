theorem dX2_through_10 : decode cX2_through 10 = .ok (.iload_n 3, 1) := by decide +kernel
theorem dX2_through_11 : decode cX2_through 11 = .ok (.invokestatic 126, 3) := by decide +kernel
set_option maxRecDepth 100000 in
set_option maxHeartbeats 4000000 in
theorem C_through_noR {l : Launch} {D : va_G} {cy : Nat → ClassId} {X : (Nat → Prop) → State → Heap → Prop} {a f : Nat → Nat → Nat} {r : Nat → Nat → Int32} {kn : Int32} {Y : va_W} {w : Nat} {v : Nat} {x : Int32} (hX : EnvX X) (hl : l.stackTraces = false) (hC : CInv f) (hw : w < 8) (h5w : f 5 w = 1) (hv : v < 8) (h5v : f 5 v = 1) (hno : ¬ (0 ≤ x ∧ x < nI 4)) : Ce l D cy X yX2_through cX2_through 6 (some .int) (rmk 8 1 6 170) [.ref (a 0 0), .int (nI w), .int (nI v), .int x] (WC cy a f r kn ++ Y) "java/lang/IndexOutOfBoundsException" := by
  have q3 := hC.sp
  have q1_w := hC.al hw
  have q2_w := hC.th hw h5w
  have q4_w := hC.rw (i := f 1 w) q1_w.2.1
  have q1_v := hC.al hv
  have q2_v := hC.th hv h5v
  have q4_v := hC.rw (i := f 1 v) q1_v.2.1
  refine Cm.of [some (.ref (a 0 0)), some (.int (nI w)), some (.int (nI v)), some (.int x), none, none] (by decide +kernel) rfl (Nat.le_of_ble_eq_true rfl) ?_
  intro p e s m args below meth c A C hE hr hnt hn
  refine r_aload_n C dX2_through_0 rfl ?_
  refine r_iload_n C dX2_through_1 rfl ?_
  refine d_Vv (st := []) hX.stb C hE (C_needWhere_ok (f := f) (r := r) (kn := kn) (w := w) hX (by first | omega | (simp [up2, *]; done) | (simp [up2, *]; omega) | (simp only [up2_eq]; omega) | (split <;> omega)) (by first | omega | (simp [up2, *]; done) | (simp [up2, *]; omega) | (simp only [up2_eq]; omega) | (split <;> omega))) pk_X2_needWhere qm_X2_39 0 6 rfl rfl wc_0 rfl rfl (Nat.le_of_ble_eq_true rfl) dX2_through_2 ⟨Nat.le_of_ble_eq_true rfl, Nat.le_of_ble_eq_true rfl⟩ ⟨Nat.le_of_ble_eq_true rfl, Nat.le_of_ble_eq_true rfl⟩ ?_
  refine r_aload_n C dX2_through_5 rfl ?_
  refine r_iload_n C dX2_through_6 rfl ?_
  refine d_Vv (st := []) hX.stb C hE (C_needWhere_ok (f := f) (r := r) (kn := kn) (w := v) hX (by first | omega | (simp [up2, *]; done) | (simp [up2, *]; omega) | (simp only [up2_eq]; omega) | (split <;> omega)) (by first | omega | (simp [up2, *]; done) | (simp [up2, *]; omega) | (simp only [up2_eq]; omega) | (split <;> omega))) pk_X2_needWhere qm_X2_39 0 6 rfl rfl wc_0 rfl rfl (Nat.le_of_ble_eq_true rfl) dX2_through_7 ⟨Nat.le_of_ble_eq_true rfl, Nat.le_of_ble_eq_true rfl⟩ ⟨Nat.le_of_ble_eq_true rfl, Nat.le_of_ble_eq_true rfl⟩ ?_
  refine r_iload_n C dX2_through_10 rfl ?_
  refine c_S (st := []) hX.stb C hE (C_needRow_no (f := f) (r := r) (kn := kn) (x := (x)) hX hl hno) pk_X2_needRow qm_X2_126 rfl rfl (Nat.le_of_ble_eq_true rfl) dX2_through_11 ⟨Nat.le_of_ble_eq_true rfl, Nat.le_of_ble_eq_true rfl⟩ ⟨Nat.le_of_ble_eq_true rfl, Nat.le_of_ble_eq_true rfl⟩ (fun _ _ h9 => h9.elim) (fun E9 h9 => ?_)
  subst h9
  exact r_out C hnt rfl rfl (Nat.le_of_ble_eq_true rfl) (Nat.le_of_ble_eq_true rfl)
theorem dX2_through_14 : decode cX2_through 14 = .ok (.aload_n 0, 1) := by decide +kernel
theorem dX2_through_15 : decode cX2_through 15 = .ok (.getfield 29, 3) := by decide +kernel
theorem dX2_through_18 : decode cX2_through 18 = .ok (.iconst 0, 1) := by decide +kernel
theorem dX2_through_19 : decode cX2_through 19 = .ok (.putfield 50, 3) := by decide +kernel
theorem dX2_through_22 : decode cX2_through 22 = .ok (.iconst 0, 1) := by decide +kernel
theorem dX2_through_23 : decode cX2_through 23 = .ok (.istore 4, 2) := by decide +kernel
theorem dX2_through_25 : decode cX2_through 25 = .ok (.iload 4, 2) := by decide +kernel
theorem dX2_through_27 : decode cX2_through 27 = .ok (.aload_n 0, 1) := by decide +kernel
theorem dX2_through_28 : decode cX2_through 28 = .ok (.getfield 11, 3) := by decide +kernel
theorem dX2_through_31 : decode cX2_through 31 = .ok (.iload_n 2, 1) := by decide +kernel
theorem dX2_through_32 : decode cX2_through 32 = .ok (.aaload, 1) := by decide +kernel
theorem dX2_through_33 : decode cX2_through 33 = .ok (.getfield 50, 3) := by decide +kernel
theorem dX2_through_36 : decode cX2_through 36 = .ok (.if_icmp .ge 67, 3) := by decide +kernel
theorem dX2_through_39 : decode cX2_through 39 = .ok (.aload_n 0, 1) := by decide +kernel
theorem dX2_through_40 : decode cX2_through 40 = .ok (.getfield 11, 3) := by decide +kernel
theorem dX2_through_43 : decode cX2_through 43 = .ok (.iload_n 2, 1) := by decide +kernel
theorem dX2_through_44 : decode cX2_through 44 = .ok (.aaload, 1) := by decide +kernel
theorem dX2_through_45 : decode cX2_through 45 = .ok (.iload 4, 2) := by decide +kernel
theorem dX2_through_47 : decode cX2_through 47 = .ok (.invokevirtual 65, 3) := by decide +kernel
theorem dX2_through_50 : decode cX2_through 50 = .ok (.istore 5, 2) := by decide +kernel
