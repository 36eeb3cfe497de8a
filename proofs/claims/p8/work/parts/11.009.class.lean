theorem dX2_needWhere_21 : decode cX2_needWhere 21 = .ok (.new 213, 3) := by decide +kernel
theorem dX2_needWhere_24 : decode cX2_needWhere 24 = .ok (.dup, 1) := by decide +kernel
theorem dX2_needWhere_25 : decode cX2_needWhere 25 = .ok (.ldc_w 288, 3) := by decide +kernel
theorem dX2_needWhere_28 : decode cX2_needWhere 28 = .ok (.invokespecial 217, 3) := by decide +kernel
theorem dX2_needWhere_31 : decode cX2_needWhere 31 = .ok (.athrow, 1) := by decide +kernel
set_option maxRecDepth 100000 in
set_option maxHeartbeats 4000000 in
theorem C_needWhere_noA {l : Launch} {D : va_G} {cy : Nat → ClassId} {X : (Nat → Prop) → State → Heap → Prop} {a f : Nat → Nat → Nat} {r : Nat → Nat → Int32} {kn : Int32} {Y : va_W} {x : Int32} (hX : EnvX X) (hl : l.stackTraces = false) (hno : ¬ (0 ≤ x ∧ x < nI 8)) : Ce l D cy X yX2_needWhere cX2_needWhere 2 none (rmk 6 1 6 100) [.ref (a 0 0), .int x] (WC cy a f r kn ++ Y) "java/lang/IndexOutOfBoundsException" := by
  refine Cm.of [some (.ref (a 0 0)), some (.int x)] (by decide +kernel) rfl (Nat.le_of_ble_eq_true rfl) ?_
  intro p e s m args below meth c A C hE hr hnt hn
  refine r_iload_n C dX2_needWhere_0 rfl ?_
  refine r_bipush (v := (nI 8)) C dX2_needWhere_1 (by decide) ?_
  refine d_S (st := []) hX.stb C hE (C_isBelow0 (f := f) (r := r) (kn := kn) (x := (x)) (n := 8) hX (by first | omega | (simp [up2, *]; done) | (simp [up2, *]; omega) | (simp only [up2_eq]; omega))) pk_X2_isBelow qm_X2_275 rfl rfl (Nat.le_of_ble_eq_true rfl) dX2_needWhere_3 ⟨Nat.le_of_ble_eq_true rfl, Nat.le_of_ble_eq_true rfl⟩ ⟨Nat.le_of_ble_eq_true rfl, Nat.le_of_ble_eq_true rfl⟩ ?_
  refine r_ifN_eq (a := 0) (tgt := 21) C (by first | omega | (simp [up2, *]; done) | (simp [up2, *]; omega) | (simp only [up2_eq]; omega)) dX2_needWhere_6 (by decide) (fun h6_1 => ?_) (fun h6_1 => ?_)
  · skip
    exact r_throwW (cls := "java/lang/IndexOutOfBoundsException") (text := "there is no such row or window") (names := ["java/lang/RuntimeException", "java/lang/Exception"]) hX hl C hE hnt thr_X2_213_217 (by decide +kernel) (by decide +kernel) (by decide +kernel) dX2_needWhere_21 dX2_needWhere_24 dX2_needWhere_25 dX2_needWhere_28 dX2_needWhere_31 (by decide) (Nat.le_of_ble_eq_true rfl) (Nat.le_of_ble_eq_true rfl) (Nat.le_of_ble_eq_true rfl) rfl rfl (Nat.le_of_ble_eq_true rfl) (Nat.le_of_ble_eq_true rfl)
  · exact absurd h6_1 (by first | omega | (simp [up2, *]; done) | (simp [up2, *]; omega) | (simp only [up2_eq]; omega))
set_option maxRecDepth 100000 in
set_option maxHeartbeats 4000000 in
theorem C_needWhere_noB {l : Launch} {D : va_G} {cy : Nat → ClassId} {X : (Nat → Prop) → State → Heap → Prop} {a f : Nat → Nat → Nat} {r : Nat → Nat → Int32} {kn : Int32} {Y : va_W} {w : Nat} (hX : EnvX X) (hl : l.stackTraces = false) (hw : w < 8) (h5 : f 5 w = 0) : Ce l D cy X yX2_needWhere cX2_needWhere 2 none (rmk 6 1 6 100) [.ref (a 0 0), .int (nI w)] (WC cy a f r kn ++ Y) "java/lang/IndexOutOfBoundsException" := by
  refine Cm.of [some (.ref (a 0 0)), some (.int (nI w))] (by decide +kernel) rfl (Nat.le_of_ble_eq_true rfl) ?_
  intro p e s m args below meth c A C hE hr hnt hn
  refine r_iload_n C dX2_needWhere_0 rfl ?_
  refine r_bipush (v := (nI 8)) C dX2_needWhere_1 (by decide) ?_
  refine d_S (st := []) hX.stb C hE (C_isBelow1 (f := f) (r := r) (kn := kn) (k := w) (n := 8) hX (by first | omega | (simp [up2, *]; done) | (simp [up2, *]; omega) | (simp only [up2_eq]; omega)) (by first | omega | (simp [up2, *]; done) | (simp [up2, *]; omega) | (simp only [up2_eq]; omega))) pk_X2_isBelow qm_X2_275 rfl rfl (Nat.le_of_ble_eq_true rfl) dX2_needWhere_3 ⟨Nat.le_of_ble_eq_true rfl, Nat.le_of_ble_eq_true rfl⟩ ⟨Nat.le_of_ble_eq_true rfl, Nat.le_of_ble_eq_true rfl⟩ ?_
  refine r_ifN_eq (a := 1) (tgt := 21) C (by first | omega | (simp [up2, *]; done) | (simp [up2, *]; omega) | (simp only [up2_eq]; omega)) dX2_needWhere_6 (by decide) (fun h6_1 => ?_) (fun h6_1 => ?_)
  · exact absurd h6_1 (by first | omega | (simp [up2, *]; done) | (simp [up2, *]; omega) | (simp only [up2_eq]; omega))
  · skip
    refine r_aload_n C dX2_needWhere_9 rfl ?_
    refine s_get C 0 (by decide) qf_X2_11 rfl rfl dX2_needWhere_10 ?_
    refine r_iload_n C dX2_needWhere_13 rfl ?_
    refine s_parts C (by first | omega | (simp [up2, *]; done) | (simp [up2, *]; omega) | (simp only [up2_eq]; omega)) dX2_needWhere_14 ?_
    refine p_getN (v := .int (nI (f 5 w))) hX C hE 5 (by first | omega | (simp [up2, *]; done) | (simp [up2, *]; omega) | (simp only [up2_eq]; omega)) (by decide) qn_X2_194 rfl rfl dX2_needWhere_15 ?_
    refine r_ifN_ne (a := (f 5 w)) (tgt := 32) C (by first | omega | (simp [up2, *]; done) | (simp [up2, *]; omega) | (simp only [up2_eq]; omega)) dX2_needWhere_18 (by decide) (fun h18_2 => ?_) (fun h18_2 => ?_)
    · first
      | exfalso; first | omega | contradiction
      | skip
        exact r_vret C hr dX2_needWhere_32 ⟨rfl, rfl⟩ (Nat.le_of_ble_eq_true rfl) (Nat.le_of_ble_eq_true rfl)
    · first
      | exfalso; first | omega | contradiction
      | skip
        exact r_throwW (cls := "java/lang/IndexOutOfBoundsException") (text := "there is no such row or window") (names := ["java/lang/RuntimeException", "java/lang/Exception"]) hX hl C hE hnt thr_X2_213_217 (by decide +kernel) (by decide +kernel) (by decide +kernel) dX2_needWhere_21 dX2_needWhere_24 dX2_needWhere_25 dX2_needWhere_28 dX2_needWhere_31 (by decide) (Nat.le_of_ble_eq_true rfl) (Nat.le_of_ble_eq_true rfl) (Nat.le_of_ble_eq_true rfl) rfl rfl (Nat.le_of_ble_eq_true rfl) (Nat.le_of_ble_eq_true rfl)
