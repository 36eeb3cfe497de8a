theorem dX2_needRoom_28 : decode cX2_needRoom 28 = .ok (.ldc_w 292, 3) := by decide +kernel
theorem dX2_needRoom_31 : decode cX2_needRoom 31 = .ok (.invokespecial 151, 3) := by decide +kernel
theorem dX2_needRoom_34 : decode cX2_needRoom 34 = .ok (.athrow, 1) := by decide +kernel
theorem dX2_needRoom_35 : decode cX2_needRoom 35 = .ok (.return_, 1) := by decide +kernel
set_option maxRecDepth 100000 in
set_option maxHeartbeats 4000000 in
theorem C_needRoom_ok {l : Launch} {D : va_G} {cy : Nat → ClassId} {X : (Nat → Prop) → State → Heap → Prop} {a f : Nat → Nat → Nat} {r : Nat → Nat → Int32} {kn : Int32} {Y : va_W} {w : Nat} {x : Int32} {q0 : Nat} (hX : EnvX X) (hw : w < 8) (h1 : f 1 w < 8) (hm : nI (f 4 (f 1 w)) + x = nI q0) (hq : q0 ≤ 12) : Cd l D cy X yX2_needRoom cX2_needRoom 3 none (rmz 0 0) [.ref (a 0 0), .int (nI w), .int x] (WC cy a f r kn ++ Y) none (WC cy a f r kn ++ Y) := by
  refine Cm.of [some (.ref (a 0 0)), some (.int (nI w)), some (.int x)] (by decide +kernel) rfl (Nat.le_of_ble_eq_true rfl) ?_
  intro p e s m args below meth c A C hE hr hnt hn
  refine r_aload_n C dX2_needRoom_0 rfl ?_
  refine s_get C 0 (by decide) qf_X2_11 rfl rfl dX2_needRoom_1 ?_
  refine r_aload_n C dX2_needRoom_4 rfl ?_
  refine s_get C 0 (by decide) qf_X2_11 rfl rfl dX2_needRoom_5 ?_
  refine r_iload_n C dX2_needRoom_8 rfl ?_
  refine s_parts C (by first | omega | (simp [up2, *]; done) | (simp [up2, *]; omega) | (simp only [up2_eq]; omega)) dX2_needRoom_9 ?_
  refine p_getN (v := .int (nI (f 1 w))) hX C hE 1 (by first | omega | (simp [up2, *]; done) | (simp [up2, *]; omega) | (simp only [up2_eq]; omega)) (by decide) qn_X2_207 rfl rfl dX2_needRoom_10 ?_
  refine s_parts C (by first | omega | (simp [up2, *]; done) | (simp [up2, *]; omega) | (simp only [up2_eq]; omega)) dX2_needRoom_13 ?_
  refine p_getN (v := .int (nI (f 4 (f 1 w)))) hX C hE 4 (by first | omega | (simp [up2, *]; done) | (simp [up2, *]; omega) | (simp only [up2_eq]; omega)) (by decide) qn_X2_50 rfl rfl dX2_needRoom_14 ?_
  refine r_iload_n C dX2_needRoom_17 rfl ?_
  refine r_iadd C dX2_needRoom_18 ?_
  refine r_eqi hm ?_
  refine r_bipush (v := (nI 12)) C dX2_needRoom_19 (by decide) ?_
  refine r_icN_le (a := q0) (b := 12) (tgt := 35) C (by first | omega | (simp [up2, *]; done) | (simp [up2, *]; omega) | (simp only [up2_eq]; omega)) (by first | omega | (simp [up2, *]; done) | (simp [up2, *]; omega) | (simp only [up2_eq]; omega)) dX2_needRoom_21 (by decide) (fun h21_1 => ?_) (fun h21_1 => ?_)
  · first
    | exfalso; first | omega | contradiction
    | skip
      exact r_vret C hr dX2_needRoom_35 ⟨rfl, rfl⟩ (Nat.le_of_ble_eq_true rfl) (Nat.le_of_ble_eq_true rfl)
  · first
    | exfalso; first | omega | contradiction
    | skip
      exact r_throwW (cls := "java/lang/IllegalStateException") (text := "a row has at most 12 items") (names := ["java/lang/RuntimeException", "java/lang/Exception"]) hX hl C hE hnt thr_X2_147_151 (by decide +kernel) (by decide +kernel) (by decide +kernel) dX2_needRoom_24 dX2_needRoom_27 dX2_needRoom_28 dX2_needRoom_31 dX2_needRoom_34 (by decide) (Nat.le_of_ble_eq_true rfl) (Nat.le_of_ble_eq_true rfl) (Nat.le_of_ble_eq_true rfl) rfl rfl (Nat.le_of_ble_eq_true rfl) (Nat.le_of_ble_eq_true rfl)
set_option maxRecDepth 100000 in
set_option maxHeartbeats 4000000 in
theorem C_needRoom_no {l : Launch} {D : va_G} {cy : Nat → ClassId} {X : (Nat → Prop) → State → Heap → Prop} {a f : Nat → Nat → Nat} {r : Nat → Nat → Int32} {kn : Int32} {Y : va_W} {w : Nat} {x : Int32} {q0 : Nat} (hX : EnvX X) (hl : l.stackTraces = false) (hw : w < 8) (h1 : f 1 w < 8) (hm : nI (f 4 (f 1 w)) + x = nI q0) (hq : 12 < q0) (hq2 : q0 < 2147483648) : Ce l D cy X yX2_needRoom cX2_needRoom 3 none (rmk 6 1 6 100) [.ref (a 0 0), .int (nI w), .int x] (WC cy a f r kn ++ Y) "java/lang/IllegalStateException" := by
  refine Cm.of [some (.ref (a 0 0)), some (.int (nI w)), some (.int x)] (by decide +kernel) rfl (Nat.le_of_ble_eq_true rfl) ?_
  intro p e s m args below meth c A C hE hr hnt hn
  refine r_aload_n C dX2_needRoom_0 rfl ?_
  refine s_get C 0 (by decide) qf_X2_11 rfl rfl dX2_needRoom_1 ?_
  refine r_aload_n C dX2_needRoom_4 rfl ?_
  refine s_get C 0 (by decide) qf_X2_11 rfl rfl dX2_needRoom_5 ?_
  refine r_iload_n C dX2_needRoom_8 rfl ?_
  refine s_parts C (by first | omega | (simp [up2, *]; done) | (simp [up2, *]; omega) | (simp only [up2_eq]; omega)) dX2_needRoom_9 ?_
  refine p_getN (v := .int (nI (f 1 w))) hX C hE 1 (by first | omega | (simp [up2, *]; done) | (simp [up2, *]; omega) | (simp only [up2_eq]; omega)) (by decide) qn_X2_207 rfl rfl dX2_needRoom_10 ?_
  refine s_parts C (by first | omega | (simp [up2, *]; done) | (simp [up2, *]; omega) | (simp only [up2_eq]; omega)) dX2_needRoom_13 ?_
  refine p_getN (v := .int (nI (f 4 (f 1 w)))) hX C hE 4 (by first | omega | (simp [up2, *]; done) | (simp [up2, *]; omega) | (simp only [up2_eq]; omega)) (by decide) qn_X2_50 rfl rfl dX2_needRoom_14 ?_
  refine r_iload_n C dX2_needRoom_17 rfl ?_
  refine r_iadd C dX2_needRoom_18 ?_
  refine r_eqi hm ?_
  refine r_bipush (v := (nI 12)) C dX2_needRoom_19 (by decide) ?_
  refine r_icN_le (a := q0) (b := 12) (tgt := 35) C (by first | omega | (simp [up2, *]; done) | (simp [up2, *]; omega) | (simp only [up2_eq]; omega)) (by first | omega | (simp [up2, *]; done) | (simp [up2, *]; omega) | (simp only [up2_eq]; omega)) dX2_needRoom_21 (by decide) (fun h21_1 => ?_) (fun h21_1 => ?_)
  · first
    | exfalso; first | omega | contradiction
    | skip
      exact r_vret C hr dX2_needRoom_35 ⟨rfl, rfl⟩ (Nat.le_of_ble_eq_true rfl) (Nat.le_of_ble_eq_true rfl)
  · first
    | exfalso; first | omega | contradiction
    | skip
      exact r_throwW (cls := "java/lang/IllegalStateException") (text := "a row has at most 12 items") (names := ["java/lang/RuntimeException", "java/lang/Exception"]) hX hl C hE hnt thr_X2_147_151 (by decide +kernel) (by decide +kernel) (by decide +kernel) dX2_needRoom_24 dX2_needRoom_27 dX2_needRoom_28 dX2_needRoom_31 dX2_needRoom_34 (by decide) (Nat.le_of_ble_eq_true rfl) (Nat.le_of_ble_eq_true rfl) (Nat.le_of_ble_eq_true rfl) rfl rfl (Nat.le_of_ble_eq_true rfl) (Nat.le_of_ble_eq_true rfl)
