set_option maxRecDepth 100000 in
set_option maxHeartbeats 4000000 in
theorem C_needPlace_noW {l : Launch} {D : va_G} {cy : Nat → ClassId} {X : (Nat → Prop) → State → Heap → Prop} {a f : Nat → Nat → Nat} {r : Nat → Nat → Int32} {kn : Int32} {Y : va_W} {x : Int32} {y : Int32} (hX : EnvX X) (hl : l.stackTraces = false) (hno : noW f x) (h5a : ∀ i, i < 8 → f 5 i ≤ 1) : Ce l D cy X yX2_needPlace cX2_needPlace 3 none (rmk 7 1 6 130) [.ref (a 0 0), .int x, .int y] (WC cy a f r kn ++ Y) "java/lang/IndexOutOfBoundsException" := by
  refine Cm.of [some (.ref (a 0 0)), some (.int x), some (.int y)] (by decide +kernel) rfl (Nat.le_of_ble_eq_true rfl) ?_
  intro p e s m args below meth c A C hE hr hnt hn
  refine r_aload_n C dX2_needPlace_0 rfl ?_
  refine r_iload_n C dX2_needPlace_1 rfl ?_
  refine c_V (st := []) hX.stb C hE (C_needWhere_no (f := f) (r := r) (kn := kn) (x := (x)) hX hl hno h5a) pk_X2_needWhere qm_X2_39 0 6 rfl rfl wc_0 rfl rfl (Nat.le_of_ble_eq_true rfl) dX2_needPlace_2 ⟨Nat.le_of_ble_eq_true rfl, Nat.le_of_ble_eq_true rfl⟩ ⟨Nat.le_of_ble_eq_true rfl, Nat.le_of_ble_eq_true rfl⟩ (fun _ _ h9 => h9.elim) (fun E9 h9 => ?_)
  subst h9
  exact r_out C hnt rfl rfl (Nat.le_of_ble_eq_true rfl) (Nat.le_of_ble_eq_true rfl)
theorem dX2_needPlace_21 : decode cX2_needPlace 21 = .ok (.new 213, 3) := by decide +kernel
theorem dX2_needPlace_24 : decode cX2_needPlace 24 = .ok (.dup, 1) := by decide +kernel
theorem dX2_needPlace_25 : decode cX2_needPlace 25 = .ok (.ldc_w 290, 3) := by decide +kernel
theorem dX2_needPlace_28 : decode cX2_needPlace 28 = .ok (.invokespecial 217, 3) := by decide +kernel
theorem dX2_needPlace_31 : decode cX2_needPlace 31 = .ok (.athrow, 1) := by decide +kernel
set_option maxRecDepth 100000 in
set_option maxHeartbeats 4000000 in
theorem C_needPlace_no {l : Launch} {D : va_G} {cy : Nat → ClassId} {X : (Nat → Prop) → State → Heap → Prop} {a f : Nat → Nat → Nat} {r : Nat → Nat → Int32} {kn : Int32} {Y : va_W} {w : Nat} {y : Int32} (hX : EnvX X) (hl : l.stackTraces = false) (hw : w < 8) (h5 : f 5 w = 1) (hno : ¬ (0 ≤ y ∧ y < nI (f 4 w))) : Ce l D cy X yX2_needPlace cX2_needPlace 3 none (rmk 7 1 6 130) [.ref (a 0 0), .int (nI w), .int y] (WC cy a f r kn ++ Y) "java/lang/IndexOutOfBoundsException" := by
  refine Cm.of [some (.ref (a 0 0)), some (.int (nI w)), some (.int y)] (by decide +kernel) rfl (Nat.le_of_ble_eq_true rfl) ?_
  intro p e s m args below meth c A C hE hr hnt hn
  refine r_aload_n C dX2_needPlace_0 rfl ?_
  refine r_iload_n C dX2_needPlace_1 rfl ?_
  refine d_Vv (st := []) hX.stb C hE (C_needWhere_ok (f := f) (r := r) (kn := kn) (w := w) hX (by first | omega | (simp [up2, *]; done) | (simp [up2, *]; omega) | (simp only [up2_eq]; omega)) (by first | omega | (simp [up2, *]; done) | (simp [up2, *]; omega) | (simp only [up2_eq]; omega))) pk_X2_needWhere qm_X2_39 0 6 rfl rfl wc_0 rfl rfl (Nat.le_of_ble_eq_true rfl) dX2_needPlace_2 ⟨Nat.le_of_ble_eq_true rfl, Nat.le_of_ble_eq_true rfl⟩ ⟨Nat.le_of_ble_eq_true rfl, Nat.le_of_ble_eq_true rfl⟩ ?_
  refine r_iload_n C dX2_needPlace_5 rfl ?_
  refine r_aload_n C dX2_needPlace_6 rfl ?_
  refine s_get C 0 (by decide) qf_X2_11 rfl rfl dX2_needPlace_7 ?_
  refine r_iload_n C dX2_needPlace_10 rfl ?_
  refine s_parts C (by first | omega | (simp [up2, *]; done) | (simp [up2, *]; omega) | (simp only [up2_eq]; omega)) dX2_needPlace_11 ?_
  refine p_getN (v := .int (nI (f 4 w))) hX C hE 4 (by first | omega | (simp [up2, *]; done) | (simp [up2, *]; omega) | (simp only [up2_eq]; omega)) (by decide) qn_X2_50 rfl rfl dX2_needPlace_12 ?_
  refine d_S (st := []) hX.stb C hE (C_isBelow0 (f := f) (r := r) (kn := kn) (x := (y)) (n := (f 4 w)) hX hno) pk_X2_isBelow qm_X2_275 rfl rfl (Nat.le_of_ble_eq_true rfl) dX2_needPlace_15 ⟨Nat.le_of_ble_eq_true rfl, Nat.le_of_ble_eq_true rfl⟩ ⟨Nat.le_of_ble_eq_true rfl, Nat.le_of_ble_eq_true rfl⟩ ?_
  refine r_ifN_ne (a := 0) (tgt := 32) C (by first | omega | (simp [up2, *]; done) | (simp [up2, *]; omega) | (simp only [up2_eq]; omega)) dX2_needPlace_18 (by decide) (fun h18_1 => ?_) (fun h18_1 => ?_)
  · exact absurd h18_1 (by first | omega | (simp [up2, *]; done) | (simp [up2, *]; omega) | (simp only [up2_eq]; omega))
  · skip
    exact r_throwW (cls := "java/lang/IndexOutOfBoundsException") (text := "there is no such place") (names := ["java/lang/RuntimeException", "java/lang/Exception"]) hX hl C hE hnt thr_X2_213_217 (by decide +kernel) (by decide +kernel) (by decide +kernel) dX2_needPlace_21 dX2_needPlace_24 dX2_needPlace_25 dX2_needPlace_28 dX2_needPlace_31 (by decide) (Nat.le_of_ble_eq_true rfl) (Nat.le_of_ble_eq_true rfl) (Nat.le_of_ble_eq_true rfl) rfl rfl (Nat.le_of_ble_eq_true rfl) (Nat.le_of_ble_eq_true rfl)
