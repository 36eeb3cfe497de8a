theorem dX2_needCursorThere_23 : decode cX2_needCursorThere 23 = .ok (.invokespecial 151, 3) := by decide +kernel
theorem dX2_needCursorThere_26 : decode cX2_needCursorThere 26 = .ok (.athrow, 1) := by decide +kernel
theorem dX2_needCursorThere_27 : decode cX2_needCursorThere 27 = .ok (.return_, 1) := by decide +kernel
set_option maxRecDepth 100000 in
set_option maxHeartbeats 4000000 in
theorem C_needCursorThere_ok {l : Launch} {D : va_G} {cy : Nat → ClassId} {X : (Nat → Prop) → State → Heap → Prop} {a f : Nat → Nat → Nat} {r : Nat → Nat → Int32} {kn : Int32} {Y : va_W} {k : Nat} (hX : EnvX X) (hk : k < 3) (h9 : f 9 k = 1) : Cd l D cy X yX2_needCursorThere cX2_needCursorThere 2 none (rmz 2 60) [.ref (a 0 0), .int (nI k)] (WC cy a f r kn ++ Y) none (WC cy a f r kn ++ Y) := by
  refine Cm.of [some (.ref (a 0 0)), some (.int (nI k))] (by decide +kernel) rfl (Nat.le_of_ble_eq_true rfl) ?_
  intro p e s m args below meth c A C hE hr hnt hn
  refine r_iload_n C dX2_needCursorThere_0 rfl ?_
  refine d_Sv (st := []) hX.stb C hE (C_needCursor_ok (f := f) (r := r) (kn := kn) (k := k) hX (by first | omega | (simp [up2, *]; done) | (simp [up2, *]; omega) | (simp only [up2_eq]; omega))) pk_X2_needCursor qm_X2_210 rfl rfl (Nat.le_of_ble_eq_true rfl) dX2_needCursorThere_1 ⟨Nat.le_of_ble_eq_true rfl, Nat.le_of_ble_eq_true rfl⟩ ⟨Nat.le_of_ble_eq_true rfl, Nat.le_of_ble_eq_true rfl⟩ ?_
  refine r_aload_n C dX2_needCursorThere_4 rfl ?_
  refine s_get C 1 (by decide) qf_X2_24 rfl rfl dX2_needCursorThere_5 ?_
  refine r_iload_n C dX2_needCursorThere_8 rfl ?_
  refine s_curs C (by first | omega | (simp [up2, *]; done) | (simp [up2, *]; omega) | (simp only [up2_eq]; omega)) dX2_needCursorThere_9 ?_
  refine u_getN (v := .int (nI (f 9 k))) hX C hE 3 (by first | omega | (simp [up2, *]; done) | (simp [up2, *]; omega) | (simp only [up2_eq]; omega)) (by decide) qn_X2_221 rfl rfl dX2_needCursorThere_10 ?_
  refine r_ifN_ne (a := (f 9 k)) (tgt := 27) C (by first | omega | (simp [up2, *]; done) | (simp [up2, *]; omega) | (simp only [up2_eq]; omega)) dX2_needCursorThere_13 (by decide) (fun h13_1 => ?_) (fun h13_1 => ?_)
  · first
    | exfalso; first | omega | contradiction
    | skip
      exact r_vret C hr dX2_needCursorThere_27 ⟨rfl, rfl⟩ (Nat.le_of_ble_eq_true rfl) (Nat.le_of_ble_eq_true rfl)
  · first
    | exfalso; first | omega | contradiction
    | skip
      exact r_throwW (cls := "java/lang/IllegalStateException") (text := "the cursor is not there") (names := ["java/lang/RuntimeException", "java/lang/Exception"]) hX hl C hE hnt thr_X2_147_151 (by decide +kernel) (by decide +kernel) (by decide +kernel) dX2_needCursorThere_16 dX2_needCursorThere_19 dX2_needCursorThere_20 dX2_needCursorThere_23 dX2_needCursorThere_26 (by decide) (Nat.le_of_ble_eq_true rfl) (Nat.le_of_ble_eq_true rfl) (Nat.le_of_ble_eq_true rfl) rfl rfl (Nat.le_of_ble_eq_true rfl) (Nat.le_of_ble_eq_true rfl)
set_option maxRecDepth 100000 in
set_option maxHeartbeats 4000000 in
theorem C_needCursorThere_noC {l : Launch} {D : va_G} {cy : Nat → ClassId} {X : (Nat → Prop) → State → Heap → Prop} {a f : Nat → Nat → Nat} {r : Nat → Nat → Int32} {kn : Int32} {Y : va_W} {x : Int32} (hX : EnvX X) (hl : l.stackTraces = false) (hno : ¬ (0 ≤ x ∧ x < nI 3)) : Ce l D cy X yX2_needCursorThere cX2_needCursorThere 2 none (rmk 7 1 6 130) [.ref (a 0 0), .int x] (WC cy a f r kn ++ Y) "java/lang/IndexOutOfBoundsException" := by
  refine Cm.of [some (.ref (a 0 0)), some (.int x)] (by decide +kernel) rfl (Nat.le_of_ble_eq_true rfl) ?_
  intro p e s m args below meth c A C hE hr hnt hn
  refine r_iload_n C dX2_needCursorThere_0 rfl ?_
  refine c_S (st := []) hX.stb C hE (C_needCursor_no (f := f) (r := r) (kn := kn) (x := (x)) hX hl hno) pk_X2_needCursor qm_X2_210 rfl rfl (Nat.le_of_ble_eq_true rfl) dX2_needCursorThere_1 ⟨Nat.le_of_ble_eq_true rfl, Nat.le_of_ble_eq_true rfl⟩ ⟨Nat.le_of_ble_eq_true rfl, Nat.le_of_ble_eq_true rfl⟩ (fun _ _ h9 => h9.elim) (fun E9 h9 => ?_)
  subst h9
  exact r_out C hnt rfl rfl (Nat.le_of_ble_eq_true rfl) (Nat.le_of_ble_eq_true rfl)
set_option maxRecDepth 100000 in
set_option maxHeartbeats 4000000 in
theorem C_needCursorThere_no {l : Launch} {D : va_G} {cy : Nat → ClassId} {X : (Nat → Prop) → State → Heap → Prop} {a f : Nat → Nat → Nat} {r : Nat → Nat → Int32} {kn : Int32} {Y : va_W} {k : Nat} (hX : EnvX X) (hl : l.stackTraces = false) (hk : k < 3) (h9 : f 9 k = 0) : Ce l D cy X yX2_needCursorThere cX2_needCursorThere 2 none (rmk 7 1 6 130) [.ref (a 0 0), .int (nI k)] (WC cy a f r kn ++ Y) "java/lang/IllegalStateException" := by
  refine Cm.of [some (.ref (a 0 0)), some (.int (nI k))] (by decide +kernel) rfl (Nat.le_of_ble_eq_true rfl) ?_
  intro p e s m args below meth c A C hE hr hnt hn
  refine r_iload_n C dX2_needCursorThere_0 rfl ?_
  refine d_Sv (st := []) hX.stb C hE (C_needCursor_ok (f := f) (r := r) (kn := kn) (k := k) hX (by first | omega | (simp [up2, *]; done) | (simp [up2, *]; omega) | (simp only [up2_eq]; omega))) pk_X2_needCursor qm_X2_210 rfl rfl (Nat.le_of_ble_eq_true rfl) dX2_needCursorThere_1 ⟨Nat.le_of_ble_eq_true rfl, Nat.le_of_ble_eq_true rfl⟩ ⟨Nat.le_of_ble_eq_true rfl, Nat.le_of_ble_eq_true rfl⟩ ?_
  refine r_aload_n C dX2_needCursorThere_4 rfl ?_
  refine s_get C 1 (by decide) qf_X2_24 rfl rfl dX2_needCursorThere_5 ?_
  refine r_iload_n C dX2_needCursorThere_8 rfl ?_
  refine s_curs C (by first | omega | (simp [up2, *]; done) | (simp [up2, *]; omega) | (simp only [up2_eq]; omega)) dX2_needCursorThere_9 ?_
  refine u_getN (v := .int (nI (f 9 k))) hX C hE 3 (by first | omega | (simp [up2, *]; done) | (simp [up2, *]; omega) | (simp only [up2_eq]; omega)) (by decide) qn_X2_221 rfl rfl dX2_needCursorThere_10 ?_
  refine r_ifN_ne (a := (f 9 k)) (tgt := 27) C (by first | omega | (simp [up2, *]; done) | (simp [up2, *]; omega) | (simp only [up2_eq]; omega)) dX2_needCursorThere_13 (by decide) (fun h13_1 => ?_) (fun h13_1 => ?_)
  · first
    | exfalso; first | omega | contradiction
    | skip
      exact r_vret C hr dX2_needCursorThere_27 ⟨rfl, rfl⟩ (Nat.le_of_ble_eq_true rfl) (Nat.le_of_ble_eq_true rfl)
  · first
    | exfalso; first | omega | contradiction
    | skip
      exact r_throwW (cls := "java/lang/IllegalStateException") (text := "the cursor is not there") (names := ["java/lang/RuntimeException", "java/lang/Exception"]) hX hl C hE hnt thr_X2_147_151 (by decide +kernel) (by decide +kernel) (by decide +kernel) dX2_needCursorThere_16 dX2_needCursorThere_19 dX2_needCursorThere_20 dX2_needCursorThere_23 dX2_needCursorThere_26 (by decide) (Nat.le_of_ble_eq_true rfl) (Nat.le_of_ble_eq_true rfl) (Nat.le_of_ble_eq_true rfl) rfl rfl (Nat.le_of_ble_eq_true rfl) (Nat.le_of_ble_eq_true rfl)
