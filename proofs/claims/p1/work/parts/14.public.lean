/-! CONTRACTS of the class: its calls on rows and windows -/
theorem dX2_add_0 : decode cX2_add 0 = .ok (.aload_n 0, 1) := dqo_42 (kb_of ke_X2_add 0 rfl)
theorem dX2_add_1 : decode cX2_add 1 = .ok (.iload_n 1, 1) := dqo_27 (kb_of ke_X2_add 1 rfl)
theorem dX2_add_2 : decode cX2_add 2 = .ok (.invokevirtual 39, 3) := dqo_182 0 39 (kb_of ke_X2_add 2 rfl) (kb_of ke_X2_add 3 rfl) (kb_of ke_X2_add 4 rfl)
set_option maxRecDepth 100000 in
set_option maxHeartbeats 4000000 in
theorem C_add_noW {l : Launch} {D : va_G} {cy : Nat → ClassId} {X : (Nat → Prop) → State → Heap → Prop} {a f : Nat → Nat → Nat} {r : Nat → Nat → Int32} {kn : Int32} {Y : va_W} {x : Int32} {y0 : Int32} (hX : EnvX X) (hl : l.stackTraces = false) (hC : CInv f) (hno : noW f x) : Ce l D cy X yX2_add cX2_add 3 (some .int) (rmk 8 1 6 170) [.ref (a 0 0), .int x, .int y0] (WC cy a f r kn ++ Y) "java/lang/IndexOutOfBoundsException" := by
  have q3 := hC.sp
  refine Cm.of [some (.ref (a 0 0)), some (.int x), some (.int y0)] pn_X2 rfl (Nat.le_of_ble_eq_true rfl) ?_
  intro p e s m args below meth c A C hE hr hnt hn
  refine r_aload_n C dX2_add_0 rfl ?_
  refine r_iload_n C dX2_add_1 rfl ?_
  refine c_V (st := []) hX.stb C hE (C_needWhere_no (f := f) (r := r) (kn := kn) (x := (x)) hX hl hno hC.h5) pk_X2_needWhere qm_X2_39 0 6 rfl rfl wc_0 rfl rfl (Nat.le_of_ble_eq_true rfl) dX2_add_2 ⟨Nat.le_of_ble_eq_true rfl, Nat.le_of_ble_eq_true rfl⟩ ⟨Nat.le_of_ble_eq_true rfl, Nat.le_of_ble_eq_true rfl⟩ (fun _ _ h9 => h9.elim) (fun E9 h9 => ?_)
  subst h9
  exact r_out C hnt rfl rfl (Nat.le_of_ble_eq_true rfl) (Nat.le_of_ble_eq_true rfl)
theorem pk_X2_needItem : PkS yX2_needItem cX2_needItem 1 none 1 := ⟨⟨qt_X2_needItem, qz_X2, qc_X2_needItem⟩, mh_X2.1, mh_X2.2, pd_6⟩
theorem dX2_add_5 : decode cX2_add 5 = .ok (.iload_n 2, 1) := dqo_28 (kb_of ke_X2_add 5 rfl)
theorem dX2_add_6 : decode cX2_add 6 = .ok (.invokestatic 43, 3) := dqo_184 0 43 (kb_of ke_X2_add 6 rfl) (kb_of ke_X2_add 7 rfl) (kb_of ke_X2_add 8 rfl)
set_option maxRecDepth 100000 in
set_option maxHeartbeats 4000000 in
theorem C_add_noI {l : Launch} {D : va_G} {cy : Nat → ClassId} {X : (Nat → Prop) → State → Heap → Prop} {a f : Nat → Nat → Nat} {r : Nat → Nat → Int32} {kn : Int32} {Y : va_W} {w : Nat} {y : Int32} (hX : EnvX X) (hl : l.stackTraces = false) (hC : CInv f) (hw : w < 8) (h5w : f 5 w = 1) (ho : ¬ okI y) : Ce l D cy X yX2_add cX2_add 3 (some .int) (rmk 8 1 6 170) [.ref (a 0 0), .int (nI w), .int y] (WC cy a f r kn ++ Y) "java/lang/IllegalArgumentException" := by
  have q3 := hC.sp
  have q1_w := hC.al hw
  have q2_w := hC.th hw h5w
  have q4_w := hC.rw (i := f 1 w) q1_w.2.1
  refine Cm.of [some (.ref (a 0 0)), some (.int (nI w)), some (.int y)] pn_X2 rfl (Nat.le_of_ble_eq_true rfl) ?_
  intro p e s m args below meth c A C hE hr hnt hn
  refine r_aload_n C dX2_add_0 rfl ?_
  refine r_iload_n C dX2_add_1 rfl ?_
  refine d_Vv (st := []) hX.stb C hE (C_needWhere_ok (f := f) (r := r) (kn := kn) (w := w) hX (by first | omega | (simp [up2, *]; done) | (simp [up2, *]; omega) | (simp only [up2_eq]; omega)) (by first | omega | (simp [up2, *]; done) | (simp [up2, *]; omega) | (simp only [up2_eq]; omega))) pk_X2_needWhere qm_X2_39 0 6 rfl rfl wc_0 rfl rfl (Nat.le_of_ble_eq_true rfl) dX2_add_2 ⟨Nat.le_of_ble_eq_true rfl, Nat.le_of_ble_eq_true rfl⟩ ⟨Nat.le_of_ble_eq_true rfl, Nat.le_of_ble_eq_true rfl⟩ ?_
  refine r_iload_n C dX2_add_5 rfl ?_
  refine c_S (st := []) hX.stb C hE (C_needItem_no (f := f) (r := r) (kn := kn) (x := (y)) hX hl ho) pk_X2_needItem qm_X2_43 rfl rfl (Nat.le_of_ble_eq_true rfl) dX2_add_6 ⟨Nat.le_of_ble_eq_true rfl, Nat.le_of_ble_eq_true rfl⟩ ⟨Nat.le_of_ble_eq_true rfl, Nat.le_of_ble_eq_true rfl⟩ (fun _ _ h9 => h9.elim) (fun E9 h9 => ?_)
  subst h9
  exact r_out C hnt rfl rfl (Nat.le_of_ble_eq_true rfl) (Nat.le_of_ble_eq_true rfl)
theorem pk_X2_needRoom : PkV RX2 yX2_needRoom cX2_needRoom 3 none 2 := ⟨⟨qi_X2_needRoom, qs_X2_needRoom, qz_X2, qc_X2_needRoom⟩, rfl, mh_X2.1, mh_X2.2, pd_2⟩
theorem dX2_add_9 : decode cX2_add 9 = .ok (.aload_n 0, 1) := dqo_42 (kb_of ke_X2_add 9 rfl)
theorem dX2_add_10 : decode cX2_add 10 = .ok (.iload_n 1, 1) := dqo_27 (kb_of ke_X2_add 10 rfl)
theorem dX2_add_11 : decode cX2_add 11 = .ok (.iconst 1, 1) := dqo_4 (kb_of ke_X2_add 11 rfl)
theorem dX2_add_12 : decode cX2_add 12 = .ok (.invokevirtual 46, 3) := dqo_182 0 46 (kb_of ke_X2_add 12 rfl) (kb_of ke_X2_add 13 rfl) (kb_of ke_X2_add 14 rfl)
set_option maxRecDepth 100000 in
set_option maxHeartbeats 4000000 in
theorem C_add_full {l : Launch} {D : va_G} {cy : Nat → ClassId} {X : (Nat → Prop) → State → Heap → Prop} {a f : Nat → Nat → Nat} {r : Nat → Nat → Int32} {kn : Int32} {Y : va_W} {w : Nat} {y : Int32} (hX : EnvX X) (hl : l.stackTraces = false) (hC : CInv f) (hw : w < 8) (h5w : f 5 w = 1) (ho : okI y) (hfull : 12 ≤ f 4 (f 1 w)) : Ce l D cy X yX2_add cX2_add 3 (some .int) (rmk 8 1 6 170) [.ref (a 0 0), .int (nI w), .int y] (WC cy a f r kn ++ Y) "java/lang/IllegalStateException" := by
  have q3 := hC.sp
  have q1_w := hC.al hw
  have q2_w := hC.th hw h5w
  have q4_w := hC.rw (i := f 1 w) q1_w.2.1
  refine Cm.of [some (.ref (a 0 0)), some (.int (nI w)), some (.int y)] pn_X2 rfl (Nat.le_of_ble_eq_true rfl) ?_
  intro p e s m args below meth c A C hE hr hnt hn
  refine r_aload_n C dX2_add_0 rfl ?_
  refine r_iload_n C dX2_add_1 rfl ?_
  refine d_Vv (st := []) hX.stb C hE (C_needWhere_ok (f := f) (r := r) (kn := kn) (w := w) hX (by first | omega | (simp [up2, *]; done) | (simp [up2, *]; omega) | (simp only [up2_eq]; omega)) (by first | omega | (simp [up2, *]; done) | (simp [up2, *]; omega) | (simp only [up2_eq]; omega))) pk_X2_needWhere qm_X2_39 0 6 rfl rfl wc_0 rfl rfl (Nat.le_of_ble_eq_true rfl) dX2_add_2 ⟨Nat.le_of_ble_eq_true rfl, Nat.le_of_ble_eq_true rfl⟩ ⟨Nat.le_of_ble_eq_true rfl, Nat.le_of_ble_eq_true rfl⟩ ?_
  refine r_iload_n C dX2_add_5 rfl ?_
  refine d_Sv (st := []) hX.stb C hE (C_needItem_ok (f := f) (r := r) (kn := kn) (x := (y)) hX ho) pk_X2_needItem qm_X2_43 rfl rfl (Nat.le_of_ble_eq_true rfl) dX2_add_6 ⟨Nat.le_of_ble_eq_true rfl, Nat.le_of_ble_eq_true rfl⟩ ⟨Nat.le_of_ble_eq_true rfl, Nat.le_of_ble_eq_true rfl⟩ ?_
  refine r_aload_n C dX2_add_9 rfl ?_
  refine r_iload_n C dX2_add_10 rfl ?_
  refine r_iconst (v := (nI 1)) C dX2_add_11 (by decide) ?_
  refine c_V (st := []) hX.stb C hE (C_needRoom_no (f := f) (r := r) (kn := kn) (w := w) (x := ((nI 1))) (q0 := (f 4 (f 1 w) + 1)) hX hl (by first | omega | (simp [up2, *]; done) | (simp [up2, *]; omega) | (simp only [up2_eq]; omega)) (by omega) (nI_add _ _) (by first | omega | (simp [up2, *]; done) | (simp [up2, *]; omega) | (simp only [up2_eq]; omega)) (by first | omega | (simp [up2, *]; done) | (simp [up2, *]; omega) | (simp only [up2_eq]; omega))) pk_X2_needRoom qm_X2_46 0 6 rfl rfl wc_0 rfl rfl (Nat.le_of_ble_eq_true rfl) dX2_add_12 ⟨Nat.le_of_ble_eq_true rfl, Nat.le_of_ble_eq_true rfl⟩ ⟨Nat.le_of_ble_eq_true rfl, Nat.le_of_ble_eq_true rfl⟩ (fun _ _ h9 => h9.elim) (fun E9 h9 => ?_)
  subst h9
  exact r_out C hnt rfl rfl (Nat.le_of_ble_eq_true rfl) (Nat.le_of_ble_eq_true rfl)
theorem pk_X2_putIn : PkV RX2 yX2_putIn cX2_putIn 5 none 4 := ⟨⟨qi_X2_putIn, qs_X2_putIn, qz_X2, qc_X2_putIn⟩, rfl, mh_X2.1, mh_X2.2, pd_9⟩
theorem dX2_add_15 : decode cX2_add 15 = .ok (.aload_n 0, 1) := dqo_42 (kb_of ke_X2_add 15 rfl)
theorem dX2_add_16 : decode cX2_add 16 = .ok (.iload_n 1, 1) := dqo_27 (kb_of ke_X2_add 16 rfl)
theorem dX2_add_17 : decode cX2_add 17 = .ok (.aload_n 0, 1) := dqo_42 (kb_of ke_X2_add 17 rfl)
theorem dX2_add_18 : decode cX2_add 18 = .ok (.getfield 11, 3) := dqo_180 0 11 (kb_of ke_X2_add 18 rfl) (kb_of ke_X2_add 19 rfl) (kb_of ke_X2_add 20 rfl)
theorem dX2_add_21 : decode cX2_add 21 = .ok (.iload_n 1, 1) := dqo_27 (kb_of ke_X2_add 21 rfl)
theorem dX2_add_22 : decode cX2_add 22 = .ok (.aaload, 1) := dqo_50 (kb_of ke_X2_add 22 rfl)
theorem dX2_add_23 : decode cX2_add 23 = .ok (.getfield 50, 3) := dqo_180 0 50 (kb_of ke_X2_add 23 rfl) (kb_of ke_X2_add 24 rfl) (kb_of ke_X2_add 25 rfl)
theorem dX2_add_26 : decode cX2_add 26 = .ok (.iload_n 2, 1) := dqo_28 (kb_of ke_X2_add 26 rfl)
theorem dX2_add_27 : decode cX2_add 27 = .ok (.iconst (-1), 1) := dqo_2 (kb_of ke_X2_add 27 rfl)
theorem dX2_add_28 : decode cX2_add 28 = .ok (.invokevirtual 54, 3) := dqo_182 0 54 (kb_of ke_X2_add 28 rfl) (kb_of ke_X2_add 29 rfl) (kb_of ke_X2_add 30 rfl)
theorem dX2_add_31 : decode cX2_add 31 = .ok (.aload_n 0, 1) := dqo_42 (kb_of ke_X2_add 31 rfl)
theorem dX2_add_32 : decode cX2_add 32 = .ok (.getfield 11, 3) := dqo_180 0 11 (kb_of ke_X2_add 32 rfl) (kb_of ke_X2_add 33 rfl) (kb_of ke_X2_add 34 rfl)
theorem dX2_add_35 : decode cX2_add 35 = .ok (.iload_n 1, 1) := dqo_27 (kb_of ke_X2_add 35 rfl)
theorem dX2_add_36 : decode cX2_add 36 = .ok (.aaload, 1) := dqo_50 (kb_of ke_X2_add 36 rfl)
theorem dX2_add_37 : decode cX2_add 37 = .ok (.getfield 50, 3) := dqo_180 0 50 (kb_of ke_X2_add 37 rfl) (kb_of ke_X2_add 38 rfl) (kb_of ke_X2_add 39 rfl)
theorem dX2_add_40 : decode cX2_add 40 = .ok (.ireturn, 1) := dqo_172 (kb_of ke_X2_add 40 rfl)
set_option maxRecDepth 100000 in
set_option maxHeartbeats 4000000 in
theorem C_add_ok {l : Launch} {D : va_G} {cy : Nat → ClassId} {X : (Nat → Prop) → State → Heap → Prop} {a f : Nat → Nat → Nat} {r : Nat → Nat → Int32} {kn : Int32} {Y : va_W} {w : Nat} {y : Int32} (hX : EnvX X) (hC : CInv f) (hw : w < 8) (h5w : f 5 w = 1) (ho : okI y) (hroom : f 4 (f 1 w) < 12) : Cd l D cy X yX2_add cX2_add 3 (some .int) (rmz 6 240) [.ref (a 0 0), .int (nI w), .int y] (WC cy a f r kn ++ Y) (some (.int (nI (settleF (exL (up2 f 4 8 1) w 1 0 8) w 4294967295 4 w)))) (WC cy a (settleF (exL (up2 f 4 8 1) w 1 0 8) w 4294967295) (exR (up2 f 4 8 1) (up2 r (f 0 8) 0 y) w (f 4 w) (f 4 w) 1) kn ++ Y) := by
  have q3 := hC.sp
  have q1_w := hC.al hw
  have q2_w := hC.th hw h5w
  have q4_w := hC.rw (i := f 1 w) q1_w.2.1
  refine Cm.of [some (.ref (a 0 0)), some (.int (nI w)), some (.int y)] pn_X2 rfl (Nat.le_of_ble_eq_true rfl) ?_
  intro p e s m args below meth c A C hE hr hnt hn
  refine r_aload_n C dX2_add_0 rfl ?_
  refine r_iload_n C dX2_add_1 rfl ?_
  refine d_Vv (st := []) hX.stb C hE (C_needWhere_ok (f := f) (r := r) (kn := kn) (w := w) hX (by first | omega | (simp [up2, *]; done) | (simp [up2, *]; omega) | (simp only [up2_eq]; omega)) (by first | omega | (simp [up2, *]; done) | (simp [up2, *]; omega) | (simp only [up2_eq]; omega))) pk_X2_needWhere qm_X2_39 0 6 rfl rfl wc_0 rfl rfl (Nat.le_of_ble_eq_true rfl) dX2_add_2 ⟨Nat.le_of_ble_eq_true rfl, Nat.le_of_ble_eq_true rfl⟩ ⟨Nat.le_of_ble_eq_true rfl, Nat.le_of_ble_eq_true rfl⟩ ?_
  refine r_iload_n C dX2_add_5 rfl ?_
  refine d_Sv (st := []) hX.stb C hE (C_needItem_ok (f := f) (r := r) (kn := kn) (x := (y)) hX ho) pk_X2_needItem qm_X2_43 rfl rfl (Nat.le_of_ble_eq_true rfl) dX2_add_6 ⟨Nat.le_of_ble_eq_true rfl, Nat.le_of_ble_eq_true rfl⟩ ⟨Nat.le_of_ble_eq_true rfl, Nat.le_of_ble_eq_true rfl⟩ ?_
  refine r_aload_n C dX2_add_9 rfl ?_
  refine r_iload_n C dX2_add_10 rfl ?_
  refine r_iconst (v := (nI 1)) C dX2_add_11 (by decide) ?_
  refine d_Vv (st := []) hX.stb C hE (C_needRoom_ok (f := f) (r := r) (kn := kn) (w := w) (x := ((nI 1))) (q0 := (f 4 (f 1 w) + 1)) hX (by first | omega | (simp [up2, *]; done) | (simp [up2, *]; omega) | (simp only [up2_eq]; omega)) (by omega) (nI_add _ _) (by first | omega | (simp [up2, *]; done) | (simp [up2, *]; omega) | (simp only [up2_eq]; omega))) pk_X2_needRoom qm_X2_46 0 6 rfl rfl wc_0 rfl rfl (Nat.le_of_ble_eq_true rfl) dX2_add_12 ⟨Nat.le_of_ble_eq_true rfl, Nat.le_of_ble_eq_true rfl⟩ ⟨Nat.le_of_ble_eq_true rfl, Nat.le_of_ble_eq_true rfl⟩ ?_
  refine r_aload_n C dX2_add_15 rfl ?_
  refine r_iload_n C dX2_add_16 rfl ?_
  refine r_aload_n C dX2_add_17 rfl ?_
  refine s_get C 0 (by decide) qf_X2_11 rfl rfl dX2_add_18 ?_
  refine r_iload_n C dX2_add_21 rfl ?_
  refine s_parts C (by first | omega | (simp [up2, *]; done) | (simp [up2, *]; omega) | (simp only [up2_eq]; omega)) dX2_add_22 ?_
  refine p_getN (v := .int (nI (f 4 w))) hX C hE 4 (by first | omega | (simp [up2, *]; done) | (simp [up2, *]; omega) | (simp only [up2_eq]; omega)) (by decide) qn_X2_50 rfl rfl dX2_add_23 ?_
  refine r_iload_n C dX2_add_26 rfl ?_
  refine r_iconst (v := (nI 4294967295)) C dX2_add_27 (by decide) ?_
  refine d_Vv (st := []) hX.stb C hE (C_putIn (f := f) (r := r) (kn := kn) (w := w) (k := (f 4 w)) (x := (y)) (d0 := 4294967295) hX (by first | omega | (simp [up2, *]; done) | (simp [up2, *]; omega) | (simp only [up2_eq]; omega)) hC.h1 hC.hG hC.hI hC.hI8 (by first | omega | (simp [up2, *]; done) | (simp [up2, *]; omega) | (simp only [up2_eq]; omega)) (by first | omega | (simp [up2, *]; done) | (simp [up2, *]; omega) | (simp only [up2_eq]; omega)) (by first | omega | (simp [up2, *]; done) | (simp [up2, *]; omega) | (simp only [up2_eq]; omega)) (fun i hi h => (hC.ho12 hw h5w i hi h).2) (by first | omega | (simp [up2, *]; done) | (simp [up2, *]; omega) | (simp only [up2_eq]; omega)) hC.hU) pk_X2_putIn qm_X2_54 0 6 rfl rfl wc_0 rfl rfl (Nat.le_of_ble_eq_true rfl) dX2_add_28 ⟨Nat.le_of_ble_eq_true rfl, Nat.le_of_ble_eq_true rfl⟩ ⟨Nat.le_of_ble_eq_true rfl, Nat.le_of_ble_eq_true rfl⟩ ?_
  refine r_aload_n C dX2_add_31 rfl ?_
  refine s_get C 0 (by decide) qf_X2_11 rfl rfl dX2_add_32 ?_
  refine r_iload_n C dX2_add_35 rfl ?_
  refine s_parts C (by first | omega | (simp [up2, *]; done) | (simp [up2, *]; omega) | (simp only [up2_eq]; omega)) dX2_add_36 ?_
  refine p_getN (v := .int (nI ((exL (up2 f 4 8 1) w 1 0 8) 4 w))) hX C hE 4 (by first | omega | (simp [up2, *]; done) | (simp [up2, *]; omega) | (simp only [up2_eq]; omega)) (by decide) qn_X2_50 rfl rfl dX2_add_37 ?_
  exact r_iret C hr dX2_add_40 ⟨rfl, rfl⟩ (Nat.le_of_ble_eq_true rfl) (Nat.le_of_ble_eq_true rfl)
theorem okI_b {x : Int32} (h : okI x) : -1000 ≤ x.toInt ∧ x.toInt ≤ 1000 := by
  obtain ⟨h1, h2⟩ := h
  have e1 : (nI 4294967197).toInt = -99 := by decide
  have e2 : (nI 99).toInt = 99 := by decide
  rw [Int32.not_lt, Int32.le_iff_toInt_le] at h1 h2
  omega
theorem dX2_insert_0 : decode cX2_insert 0 = .ok (.aload_n 0, 1) := dqo_42 (kb_of ke_X2_insert 0 rfl)
theorem dX2_insert_1 : decode cX2_insert 1 = .ok (.iload_n 1, 1) := dqo_27 (kb_of ke_X2_insert 1 rfl)
theorem dX2_insert_2 : decode cX2_insert 2 = .ok (.invokevirtual 39, 3) := dqo_182 0 39 (kb_of ke_X2_insert 2 rfl) (kb_of ke_X2_insert 3 rfl) (kb_of ke_X2_insert 4 rfl)
set_option maxRecDepth 100000 in
set_option maxHeartbeats 4000000 in
theorem C_insert_noW {l : Launch} {D : va_G} {cy : Nat → ClassId} {X : (Nat → Prop) → State → Heap → Prop} {a f : Nat → Nat → Nat} {r : Nat → Nat → Int32} {kn : Int32} {Y : va_W} {x : Int32} {y0 : Int32} {y1 : Int32} (hX : EnvX X) (hl : l.stackTraces = false) (hC : CInv f) (hno : noW f x) : Ce l D cy X yX2_insert cX2_insert 4 (some .int) (rmk 8 1 6 170) [.ref (a 0 0), .int x, .int y0, .int y1] (WC cy a f r kn ++ Y) "java/lang/IndexOutOfBoundsException" := by
  have q3 := hC.sp
  refine Cm.of [some (.ref (a 0 0)), some (.int x), some (.int y0), some (.int y1)] pn_X2 rfl (Nat.le_of_ble_eq_true rfl) ?_
  intro p e s m args below meth c A C hE hr hnt hn
  refine r_aload_n C dX2_insert_0 rfl ?_
  refine r_iload_n C dX2_insert_1 rfl ?_
  refine c_V (st := []) hX.stb C hE (C_needWhere_no (f := f) (r := r) (kn := kn) (x := (x)) hX hl hno hC.h5) pk_X2_needWhere qm_X2_39 0 6 rfl rfl wc_0 rfl rfl (Nat.le_of_ble_eq_true rfl) dX2_insert_2 ⟨Nat.le_of_ble_eq_true rfl, Nat.le_of_ble_eq_true rfl⟩ ⟨Nat.le_of_ble_eq_true rfl, Nat.le_of_ble_eq_true rfl⟩ (fun _ _ h9 => h9.elim) (fun E9 h9 => ?_)
  subst h9
  exact r_out C hnt rfl rfl (Nat.le_of_ble_eq_true rfl) (Nat.le_of_ble_eq_true rfl)
theorem dX2_insert_5 : decode cX2_insert 5 = .ok (.iload_n 3, 1) := dqo_29 (kb_of ke_X2_insert 5 rfl)
theorem dX2_insert_6 : decode cX2_insert 6 = .ok (.invokestatic 43, 3) := dqo_184 0 43 (kb_of ke_X2_insert 6 rfl) (kb_of ke_X2_insert 7 rfl) (kb_of ke_X2_insert 8 rfl)
set_option maxRecDepth 100000 in
set_option maxHeartbeats 4000000 in
theorem C_insert_noI {l : Launch} {D : va_G} {cy : Nat → ClassId} {X : (Nat → Prop) → State → Heap → Prop} {a f : Nat → Nat → Nat} {r : Nat → Nat → Int32} {kn : Int32} {Y : va_W} {w : Nat} {y0 : Int32} {y : Int32} (hX : EnvX X) (hl : l.stackTraces = false) (hC : CInv f) (hw : w < 8) (h5w : f 5 w = 1) (ho : ¬ okI y) : Ce l D cy X yX2_insert cX2_insert 4 (some .int) (rmk 8 1 6 170) [.ref (a 0 0), .int (nI w), .int y0, .int y] (WC cy a f r kn ++ Y) "java/lang/IllegalArgumentException" := by
  have q3 := hC.sp
  have q1_w := hC.al hw
  have q2_w := hC.th hw h5w
  have q4_w := hC.rw (i := f 1 w) q1_w.2.1
  refine Cm.of [some (.ref (a 0 0)), some (.int (nI w)), some (.int y0), some (.int y)] pn_X2 rfl (Nat.le_of_ble_eq_true rfl) ?_
  intro p e s m args below meth c A C hE hr hnt hn
  refine r_aload_n C dX2_insert_0 rfl ?_
  refine r_iload_n C dX2_insert_1 rfl ?_
  refine d_Vv (st := []) hX.stb C hE (C_needWhere_ok (f := f) (r := r) (kn := kn) (w := w) hX (by first | omega | (simp [up2, *]; done) | (simp [up2, *]; omega) | (simp only [up2_eq]; omega)) (by first | omega | (simp [up2, *]; done) | (simp [up2, *]; omega) | (simp only [up2_eq]; omega))) pk_X2_needWhere qm_X2_39 0 6 rfl rfl wc_0 rfl rfl (Nat.le_of_ble_eq_true rfl) dX2_insert_2 ⟨Nat.le_of_ble_eq_true rfl, Nat.le_of_ble_eq_true rfl⟩ ⟨Nat.le_of_ble_eq_true rfl, Nat.le_of_ble_eq_true rfl⟩ ?_
  refine r_iload_n C dX2_insert_5 rfl ?_
  refine c_S (st := []) hX.stb C hE (C_needItem_no (f := f) (r := r) (kn := kn) (x := (y)) hX hl ho) pk_X2_needItem qm_X2_43 rfl rfl (Nat.le_of_ble_eq_true rfl) dX2_insert_6 ⟨Nat.le_of_ble_eq_true rfl, Nat.le_of_ble_eq_true rfl⟩ ⟨Nat.le_of_ble_eq_true rfl, Nat.le_of_ble_eq_true rfl⟩ (fun _ _ h9 => h9.elim) (fun E9 h9 => ?_)
  subst h9
  exact r_out C hnt rfl rfl (Nat.le_of_ble_eq_true rfl) (Nat.le_of_ble_eq_true rfl)
theorem dX2_insert_9 : decode cX2_insert 9 = .ok (.aload_n 0, 1) := dqo_42 (kb_of ke_X2_insert 9 rfl)
theorem dX2_insert_10 : decode cX2_insert 10 = .ok (.iload_n 1, 1) := dqo_27 (kb_of ke_X2_insert 10 rfl)
theorem dX2_insert_11 : decode cX2_insert 11 = .ok (.iconst 1, 1) := dqo_4 (kb_of ke_X2_insert 11 rfl)
theorem dX2_insert_12 : decode cX2_insert 12 = .ok (.invokevirtual 46, 3) := dqo_182 0 46 (kb_of ke_X2_insert 12 rfl) (kb_of ke_X2_insert 13 rfl) (kb_of ke_X2_insert 14 rfl)
set_option maxRecDepth 100000 in
set_option maxHeartbeats 4000000 in
theorem C_insert_full {l : Launch} {D : va_G} {cy : Nat → ClassId} {X : (Nat → Prop) → State → Heap → Prop} {a f : Nat → Nat → Nat} {r : Nat → Nat → Int32} {kn : Int32} {Y : va_W} {w : Nat} {y0 : Int32} {y : Int32} (hX : EnvX X) (hl : l.stackTraces = false) (hC : CInv f) (hw : w < 8) (h5w : f 5 w = 1) (ho : okI y) (hfull : 12 ≤ f 4 (f 1 w)) : Ce l D cy X yX2_insert cX2_insert 4 (some .int) (rmk 8 1 6 170) [.ref (a 0 0), .int (nI w), .int y0, .int y] (WC cy a f r kn ++ Y) "java/lang/IllegalStateException" := by
  have q3 := hC.sp
  have q1_w := hC.al hw
  have q2_w := hC.th hw h5w
  have q4_w := hC.rw (i := f 1 w) q1_w.2.1
  refine Cm.of [some (.ref (a 0 0)), some (.int (nI w)), some (.int y0), some (.int y)] pn_X2 rfl (Nat.le_of_ble_eq_true rfl) ?_
  intro p e s m args below meth c A C hE hr hnt hn
  refine r_aload_n C dX2_insert_0 rfl ?_
  refine r_iload_n C dX2_insert_1 rfl ?_
  refine d_Vv (st := []) hX.stb C hE (C_needWhere_ok (f := f) (r := r) (kn := kn) (w := w) hX (by first | omega | (simp [up2, *]; done) | (simp [up2, *]; omega) | (simp only [up2_eq]; omega)) (by first | omega | (simp [up2, *]; done) | (simp [up2, *]; omega) | (simp only [up2_eq]; omega))) pk_X2_needWhere qm_X2_39 0 6 rfl rfl wc_0 rfl rfl (Nat.le_of_ble_eq_true rfl) dX2_insert_2 ⟨Nat.le_of_ble_eq_true rfl, Nat.le_of_ble_eq_true rfl⟩ ⟨Nat.le_of_ble_eq_true rfl, Nat.le_of_ble_eq_true rfl⟩ ?_
  refine r_iload_n C dX2_insert_5 rfl ?_
  refine d_Sv (st := []) hX.stb C hE (C_needItem_ok (f := f) (r := r) (kn := kn) (x := (y)) hX ho) pk_X2_needItem qm_X2_43 rfl rfl (Nat.le_of_ble_eq_true rfl) dX2_insert_6 ⟨Nat.le_of_ble_eq_true rfl, Nat.le_of_ble_eq_true rfl⟩ ⟨Nat.le_of_ble_eq_true rfl, Nat.le_of_ble_eq_true rfl⟩ ?_
  refine r_aload_n C dX2_insert_9 rfl ?_
  refine r_iload_n C dX2_insert_10 rfl ?_
  refine r_iconst (v := (nI 1)) C dX2_insert_11 (by decide) ?_
  refine c_V (st := []) hX.stb C hE (C_needRoom_no (f := f) (r := r) (kn := kn) (w := w) (x := ((nI 1))) (q0 := (f 4 (f 1 w) + 1)) hX hl (by first | omega | (simp [up2, *]; done) | (simp [up2, *]; omega) | (simp only [up2_eq]; omega)) (by omega) (nI_add _ _) (by first | omega | (simp [up2, *]; done) | (simp [up2, *]; omega) | (simp only [up2_eq]; omega)) (by first | omega | (simp [up2, *]; done) | (simp [up2, *]; omega) | (simp only [up2_eq]; omega))) pk_X2_needRoom qm_X2_46 0 6 rfl rfl wc_0 rfl rfl (Nat.le_of_ble_eq_true rfl) dX2_insert_12 ⟨Nat.le_of_ble_eq_true rfl, Nat.le_of_ble_eq_true rfl⟩ ⟨Nat.le_of_ble_eq_true rfl, Nat.le_of_ble_eq_true rfl⟩ (fun _ _ h9 => h9.elim) (fun E9 h9 => ?_)
  subst h9
  exact r_out C hnt rfl rfl (Nat.le_of_ble_eq_true rfl) (Nat.le_of_ble_eq_true rfl)
theorem pk_X1_isGap : PkV RX1 yX1_isGap cX1_isGap 2 (some .boolean) 1 := ⟨⟨qi_X1_isGap, qs_X1_isGap, qz_X1, qc_X1_isGap⟩, rfl, mh_X1.1, mh_X1.2, pd_8⟩
theorem dX2_insert_15 : decode cX2_insert 15 = .ok (.aload_n 0, 1) := dqo_42 (kb_of ke_X2_insert 15 rfl)
theorem dX2_insert_16 : decode cX2_insert 16 = .ok (.getfield 11, 3) := dqo_180 0 11 (kb_of ke_X2_insert 16 rfl) (kb_of ke_X2_insert 17 rfl) (kb_of ke_X2_insert 18 rfl)
theorem dX2_insert_19 : decode cX2_insert 19 = .ok (.iload_n 1, 1) := dqo_27 (kb_of ke_X2_insert 19 rfl)
theorem dX2_insert_20 : decode cX2_insert 20 = .ok (.aaload, 1) := dqo_50 (kb_of ke_X2_insert 20 rfl)
theorem dX2_insert_21 : decode cX2_insert 21 = .ok (.iload_n 2, 1) := dqo_28 (kb_of ke_X2_insert 21 rfl)
theorem dX2_insert_22 : decode cX2_insert 22 = .ok (.invokevirtual 58, 3) := dqo_182 0 58 (kb_of ke_X2_insert 22 rfl) (kb_of ke_X2_insert 23 rfl) (kb_of ke_X2_insert 24 rfl)
theorem dX2_insert_25 : decode cX2_insert 25 = .ok (.ifCond .ne 6, 3) := dqo_154 0 6 (by decide) (kb_of ke_X2_insert 25 rfl) (kb_of ke_X2_insert 26 rfl) (kb_of ke_X2_insert 27 rfl)
theorem dX2_insert_28 : decode cX2_insert 28 = .ok (.bipush (-9), 2) := dqo_16 247 (by decide) (kb_of ke_X2_insert 28 rfl) (kb_of ke_X2_insert 29 rfl)
theorem dX2_insert_30 : decode cX2_insert 30 = .ok (.ireturn, 1) := dqo_172 (kb_of ke_X2_insert 30 rfl)
set_option maxRecDepth 100000 in
set_option maxHeartbeats 4000000 in
theorem C_insert_ref {l : Launch} {D : va_G} {cy : Nat → ClassId} {X : (Nat → Prop) → State → Heap → Prop} {a f : Nat → Nat → Nat} {r : Nat → Nat → Int32} {kn : Int32} {Y : va_W} {w : Nat} {y0 : Int32} {y : Int32} (hX : EnvX X) (hC : CInv f) (hw : w < 8) (h5w : f 5 w = 1) (ho : okI y) (hroom : f 4 (f 1 w) < 12) (hno : ¬ (0 ≤ y0 ∧ y0 ≤ nI (f 4 w))) : Cd l D cy X yX2_insert cX2_insert 4 (some .int) (rmz 6 240) [.ref (a 0 0), .int (nI w), .int y0, .int y] (WC cy a f r kn ++ Y) (some (.int (nI 4294967287))) (WC cy a f r kn ++ Y) := by
  have q3 := hC.sp
  have q1_w := hC.al hw
  have q2_w := hC.th hw h5w
  have q4_w := hC.rw (i := f 1 w) q1_w.2.1
  refine Cm.of [some (.ref (a 0 0)), some (.int (nI w)), some (.int y0), some (.int y)] pn_X2 rfl (Nat.le_of_ble_eq_true rfl) ?_
  intro p e s m args below meth c A C hE hr hnt hn
  refine r_aload_n C dX2_insert_0 rfl ?_
  refine r_iload_n C dX2_insert_1 rfl ?_
  refine d_Vv (st := []) hX.stb C hE (C_needWhere_ok (f := f) (r := r) (kn := kn) (w := w) hX (by first | omega | (simp [up2, *]; done) | (simp [up2, *]; omega) | (simp only [up2_eq]; omega)) (by first | omega | (simp [up2, *]; done) | (simp [up2, *]; omega) | (simp only [up2_eq]; omega))) pk_X2_needWhere qm_X2_39 0 6 rfl rfl wc_0 rfl rfl (Nat.le_of_ble_eq_true rfl) dX2_insert_2 ⟨Nat.le_of_ble_eq_true rfl, Nat.le_of_ble_eq_true rfl⟩ ⟨Nat.le_of_ble_eq_true rfl, Nat.le_of_ble_eq_true rfl⟩ ?_
  refine r_iload_n C dX2_insert_5 rfl ?_
  refine d_Sv (st := []) hX.stb C hE (C_needItem_ok (f := f) (r := r) (kn := kn) (x := (y)) hX ho) pk_X2_needItem qm_X2_43 rfl rfl (Nat.le_of_ble_eq_true rfl) dX2_insert_6 ⟨Nat.le_of_ble_eq_true rfl, Nat.le_of_ble_eq_true rfl⟩ ⟨Nat.le_of_ble_eq_true rfl, Nat.le_of_ble_eq_true rfl⟩ ?_
  refine r_aload_n C dX2_insert_9 rfl ?_
  refine r_iload_n C dX2_insert_10 rfl ?_
  refine r_iconst (v := (nI 1)) C dX2_insert_11 (by decide) ?_
  refine d_Vv (st := []) hX.stb C hE (C_needRoom_ok (f := f) (r := r) (kn := kn) (w := w) (x := ((nI 1))) (q0 := (f 4 (f 1 w) + 1)) hX (by first | omega | (simp [up2, *]; done) | (simp [up2, *]; omega) | (simp only [up2_eq]; omega)) (by omega) (nI_add _ _) (by first | omega | (simp [up2, *]; done) | (simp [up2, *]; omega) | (simp only [up2_eq]; omega))) pk_X2_needRoom qm_X2_46 0 6 rfl rfl wc_0 rfl rfl (Nat.le_of_ble_eq_true rfl) dX2_insert_12 ⟨Nat.le_of_ble_eq_true rfl, Nat.le_of_ble_eq_true rfl⟩ ⟨Nat.le_of_ble_eq_true rfl, Nat.le_of_ble_eq_true rfl⟩ ?_
  refine r_aload_n C dX2_insert_15 rfl ?_
  refine s_get C 0 (by decide) qf_X2_11 rfl rfl dX2_insert_16 ?_
  refine r_iload_n C dX2_insert_19 rfl ?_
  refine s_parts C (by first | omega | (simp [up2, *]; done) | (simp [up2, *]; omega) | (simp only [up2_eq]; omega)) dX2_insert_20 ?_
  refine r_iload_n C dX2_insert_21 rfl ?_
  refine d_V (st := []) hX.stb C hE (C_isGap0 (f := f) (r := r) (kn := kn) (i := w) (x := (y0)) hX (by first | omega | (simp [up2, *]; done) | (simp [up2, *]; omega) | (simp only [up2_eq]; omega)) hno) pk_X1_isGap qm_X2_58 (3 + w) 5 rfl rfl (wc_p (by first | omega | (simp [up2, *]; done) | (simp [up2, *]; omega) | (simp only [up2_eq]; omega))) rfl rfl (Nat.le_of_ble_eq_true rfl) dX2_insert_22 ⟨Nat.le_of_ble_eq_true rfl, Nat.le_of_ble_eq_true rfl⟩ ⟨Nat.le_of_ble_eq_true rfl, Nat.le_of_ble_eq_true rfl⟩ ?_
  refine r_ifN_ne (a := 0) (tgt := 31) C (by first | omega | (simp [up2, *]; done) | (simp [up2, *]; omega) | (simp only [up2_eq]; omega)) dX2_insert_25 (by decide) (fun h25_1 => ?_) (fun h25_1 => ?_)
  · exact absurd h25_1 (by first | omega | (simp [up2, *]; done) | (simp [up2, *]; omega) | (simp only [up2_eq]; omega))
  · skip
    refine r_bipush (v := (nI 4294967287)) C dX2_insert_28 (by decide) ?_
    exact r_iret C hr dX2_insert_30 ⟨rfl, rfl⟩ (Nat.le_of_ble_eq_true rfl) (Nat.le_of_ble_eq_true rfl)
theorem dX2_insert_31 : decode cX2_insert 31 = .ok (.aload_n 0, 1) := dqo_42 (kb_of ke_X2_insert 31 rfl)
theorem dX2_insert_32 : decode cX2_insert 32 = .ok (.iload_n 1, 1) := dqo_27 (kb_of ke_X2_insert 32 rfl)
theorem dX2_insert_33 : decode cX2_insert 33 = .ok (.iload_n 2, 1) := dqo_28 (kb_of ke_X2_insert 33 rfl)
theorem dX2_insert_34 : decode cX2_insert 34 = .ok (.iload_n 3, 1) := dqo_29 (kb_of ke_X2_insert 34 rfl)
theorem dX2_insert_35 : decode cX2_insert 35 = .ok (.iconst (-1), 1) := dqo_2 (kb_of ke_X2_insert 35 rfl)
theorem dX2_insert_36 : decode cX2_insert 36 = .ok (.invokevirtual 54, 3) := dqo_182 0 54 (kb_of ke_X2_insert 36 rfl) (kb_of ke_X2_insert 37 rfl) (kb_of ke_X2_insert 38 rfl)
theorem dX2_insert_39 : decode cX2_insert 39 = .ok (.aload_n 0, 1) := dqo_42 (kb_of ke_X2_insert 39 rfl)
theorem dX2_insert_40 : decode cX2_insert 40 = .ok (.getfield 11, 3) := dqo_180 0 11 (kb_of ke_X2_insert 40 rfl) (kb_of ke_X2_insert 41 rfl) (kb_of ke_X2_insert 42 rfl)
theorem dX2_insert_43 : decode cX2_insert 43 = .ok (.iload_n 1, 1) := dqo_27 (kb_of ke_X2_insert 43 rfl)
theorem dX2_insert_44 : decode cX2_insert 44 = .ok (.aaload, 1) := dqo_50 (kb_of ke_X2_insert 44 rfl)
theorem dX2_insert_45 : decode cX2_insert 45 = .ok (.getfield 50, 3) := dqo_180 0 50 (kb_of ke_X2_insert 45 rfl) (kb_of ke_X2_insert 46 rfl) (kb_of ke_X2_insert 47 rfl)
theorem dX2_insert_48 : decode cX2_insert 48 = .ok (.ireturn, 1) := dqo_172 (kb_of ke_X2_insert 48 rfl)
set_option maxRecDepth 100000 in
set_option maxHeartbeats 4000000 in
theorem C_insert_ok {l : Launch} {D : va_G} {cy : Nat → ClassId} {X : (Nat → Prop) → State → Heap → Prop} {a f : Nat → Nat → Nat} {r : Nat → Nat → Int32} {kn : Int32} {Y : va_W} {w : Nat} {k0 : Nat} {y : Int32} (hX : EnvX X) (hC : CInv f) (hw : w < 8) (h5w : f 5 w = 1) (ho : okI y) (hroom : f 4 (f 1 w) < 12) (hk : k0 ≤ f 4 w) : Cd l D cy X yX2_insert cX2_insert 4 (some .int) (rmz 6 240) [.ref (a 0 0), .int (nI w), .int (nI k0), .int y] (WC cy a f r kn ++ Y) (some (.int (nI ((exL (up2 f 4 8 1) w 1 0 8) 4 w)))) (WC cy a (settleF (exL (up2 f 4 8 1) w 1 0 8) w 4294967295) (exR (up2 f 4 8 1) (up2 r (f 0 8) 0 (y)) w k0 k0 1) kn ++ Y) := by
  have q3 := hC.sp
  have q1_w := hC.al hw
  have q2_w := hC.th hw h5w
  have q4_w := hC.rw (i := f 1 w) q1_w.2.1
  refine Cm.of [some (.ref (a 0 0)), some (.int (nI w)), some (.int (nI k0)), some (.int y)] pn_X2 rfl (Nat.le_of_ble_eq_true rfl) ?_
  intro p e s m args below meth c A C hE hr hnt hn
  refine r_aload_n C dX2_insert_0 rfl ?_
  refine r_iload_n C dX2_insert_1 rfl ?_
  refine d_Vv (st := []) hX.stb C hE (C_needWhere_ok (f := f) (r := r) (kn := kn) (w := w) hX (by first | omega | (simp [up2, *]; done) | (simp [up2, *]; omega) | (simp only [up2_eq]; omega)) (by first | omega | (simp [up2, *]; done) | (simp [up2, *]; omega) | (simp only [up2_eq]; omega))) pk_X2_needWhere qm_X2_39 0 6 rfl rfl wc_0 rfl rfl (Nat.le_of_ble_eq_true rfl) dX2_insert_2 ⟨Nat.le_of_ble_eq_true rfl, Nat.le_of_ble_eq_true rfl⟩ ⟨Nat.le_of_ble_eq_true rfl, Nat.le_of_ble_eq_true rfl⟩ ?_
  refine r_iload_n C dX2_insert_5 rfl ?_
  refine d_Sv (st := []) hX.stb C hE (C_needItem_ok (f := f) (r := r) (kn := kn) (x := (y)) hX ho) pk_X2_needItem qm_X2_43 rfl rfl (Nat.le_of_ble_eq_true rfl) dX2_insert_6 ⟨Nat.le_of_ble_eq_true rfl, Nat.le_of_ble_eq_true rfl⟩ ⟨Nat.le_of_ble_eq_true rfl, Nat.le_of_ble_eq_true rfl⟩ ?_
  refine r_aload_n C dX2_insert_9 rfl ?_
  refine r_iload_n C dX2_insert_10 rfl ?_
  refine r_iconst (v := (nI 1)) C dX2_insert_11 (by decide) ?_
  refine d_Vv (st := []) hX.stb C hE (C_needRoom_ok (f := f) (r := r) (kn := kn) (w := w) (x := ((nI 1))) (q0 := (f 4 (f 1 w) + 1)) hX (by first | omega | (simp [up2, *]; done) | (simp [up2, *]; omega) | (simp only [up2_eq]; omega)) (by omega) (nI_add _ _) (by first | omega | (simp [up2, *]; done) | (simp [up2, *]; omega) | (simp only [up2_eq]; omega))) pk_X2_needRoom qm_X2_46 0 6 rfl rfl wc_0 rfl rfl (Nat.le_of_ble_eq_true rfl) dX2_insert_12 ⟨Nat.le_of_ble_eq_true rfl, Nat.le_of_ble_eq_true rfl⟩ ⟨Nat.le_of_ble_eq_true rfl, Nat.le_of_ble_eq_true rfl⟩ ?_
  refine r_aload_n C dX2_insert_15 rfl ?_
  refine s_get C 0 (by decide) qf_X2_11 rfl rfl dX2_insert_16 ?_
  refine r_iload_n C dX2_insert_19 rfl ?_
  refine s_parts C (by first | omega | (simp [up2, *]; done) | (simp [up2, *]; omega) | (simp only [up2_eq]; omega)) dX2_insert_20 ?_
  refine r_iload_n C dX2_insert_21 rfl ?_
  refine d_V (st := []) hX.stb C hE (C_isGap1 (f := f) (r := r) (kn := kn) (i := w) (k := k0) hX (by first | omega | (simp [up2, *]; done) | (simp [up2, *]; omega) | (simp only [up2_eq]; omega)) (by first | omega | (simp [up2, *]; done) | (simp [up2, *]; omega) | (simp only [up2_eq]; omega)) (by first | omega | (simp [up2, *]; done) | (simp [up2, *]; omega) | (simp only [up2_eq]; omega))) pk_X1_isGap qm_X2_58 (3 + w) 5 rfl rfl (wc_p (by first | omega | (simp [up2, *]; done) | (simp [up2, *]; omega) | (simp only [up2_eq]; omega))) rfl rfl (Nat.le_of_ble_eq_true rfl) dX2_insert_22 ⟨Nat.le_of_ble_eq_true rfl, Nat.le_of_ble_eq_true rfl⟩ ⟨Nat.le_of_ble_eq_true rfl, Nat.le_of_ble_eq_true rfl⟩ ?_
  refine r_ifN_ne (a := 1) (tgt := 31) C (by first | omega | (simp [up2, *]; done) | (simp [up2, *]; omega) | (simp only [up2_eq]; omega)) dX2_insert_25 (by decide) (fun h25_1 => ?_) (fun h25_1 => ?_)
  · skip
    refine r_aload_n C dX2_insert_31 rfl ?_
    refine r_iload_n C dX2_insert_32 rfl ?_
    refine r_iload_n C dX2_insert_33 rfl ?_
    refine r_iload_n C dX2_insert_34 rfl ?_
    refine r_iconst (v := (nI 4294967295)) C dX2_insert_35 (by decide) ?_
    refine d_Vv (st := []) hX.stb C hE (C_putIn (f := f) (r := r) (kn := kn) (w := w) (k := k0) (x := (y)) (d0 := 4294967295) hX (by first | omega | (simp [up2, *]; done) | (simp [up2, *]; omega) | (simp only [up2_eq]; omega)) hC.h1 hC.hG hC.hI hC.hI8 (by first | omega | (simp [up2, *]; done) | (simp [up2, *]; omega) | (simp only [up2_eq]; omega)) (by first | omega | (simp [up2, *]; done) | (simp [up2, *]; omega) | (simp only [up2_eq]; omega)) (by first | omega | (simp [up2, *]; done) | (simp [up2, *]; omega) | (simp only [up2_eq]; omega)) (fun i hi h => (hC.ho12 hw h5w i hi h).2) (by first | omega | (simp [up2, *]; done) | (simp [up2, *]; omega) | (simp only [up2_eq]; omega)) hC.hU) pk_X2_putIn qm_X2_54 0 6 rfl rfl wc_0 rfl rfl (Nat.le_of_ble_eq_true rfl) dX2_insert_36 ⟨Nat.le_of_ble_eq_true rfl, Nat.le_of_ble_eq_true rfl⟩ ⟨Nat.le_of_ble_eq_true rfl, Nat.le_of_ble_eq_true rfl⟩ ?_
    refine r_aload_n C dX2_insert_39 rfl ?_
    refine s_get C 0 (by decide) qf_X2_11 rfl rfl dX2_insert_40 ?_
    refine r_iload_n C dX2_insert_43 rfl ?_
    refine s_parts C (by first | omega | (simp [up2, *]; done) | (simp [up2, *]; omega) | (simp only [up2_eq]; omega)) dX2_insert_44 ?_
    refine p_getN (v := .int (nI ((exL (up2 f 4 8 1) w 1 0 8) 4 w))) hX C hE 4 (by first | omega | (simp [up2, *]; done) | (simp [up2, *]; omega) | (simp only [up2_eq]; omega)) (by decide) qn_X2_50 rfl rfl dX2_insert_45 ?_
    exact r_iret C hr dX2_insert_48 ⟨rfl, rfl⟩ (Nat.le_of_ble_eq_true rfl) (Nat.le_of_ble_eq_true rfl)
  · exact absurd h25_1 (by first | omega | (simp [up2, *]; done) | (simp [up2, *]; omega) | (simp only [up2_eq]; omega))
theorem pk_X2_needPlace : PkV RX2 yX2_needPlace cX2_needPlace 3 none 2 := ⟨⟨qi_X2_needPlace, qs_X2_needPlace, qz_X2, qc_X2_needPlace⟩, rfl, mh_X2.1, mh_X2.2, pd_2⟩
theorem dX2_set_0 : decode cX2_set 0 = .ok (.aload_n 0, 1) := dqo_42 (kb_of ke_X2_set 0 rfl)
theorem dX2_set_1 : decode cX2_set 1 = .ok (.iload_n 1, 1) := dqo_27 (kb_of ke_X2_set 1 rfl)
theorem dX2_set_2 : decode cX2_set 2 = .ok (.iload_n 2, 1) := dqo_28 (kb_of ke_X2_set 2 rfl)
theorem dX2_set_3 : decode cX2_set 3 = .ok (.invokevirtual 62, 3) := dqo_182 0 62 (kb_of ke_X2_set 3 rfl) (kb_of ke_X2_set 4 rfl) (kb_of ke_X2_set 5 rfl)
set_option maxRecDepth 100000 in
set_option maxHeartbeats 4000000 in
theorem C_set_noW {l : Launch} {D : va_G} {cy : Nat → ClassId} {X : (Nat → Prop) → State → Heap → Prop} {a f : Nat → Nat → Nat} {r : Nat → Nat → Int32} {kn : Int32} {Y : va_W} {x : Int32} {y0 : Int32} {y1 : Int32} (hX : EnvX X) (hl : l.stackTraces = false) (hC : CInv f) (hno : noW f x) : Ce l D cy X yX2_set cX2_set 5 (some .int) (rmk 8 1 6 170) [.ref (a 0 0), .int x, .int y0, .int y1] (WC cy a f r kn ++ Y) "java/lang/IndexOutOfBoundsException" := by
  have q3 := hC.sp
  refine Cm.of [some (.ref (a 0 0)), some (.int x), some (.int y0), some (.int y1), none] pn_X2 rfl (Nat.le_of_ble_eq_true rfl) ?_
  intro p e s m args below meth c A C hE hr hnt hn
  refine r_aload_n C dX2_set_0 rfl ?_
  refine r_iload_n C dX2_set_1 rfl ?_
  refine r_iload_n C dX2_set_2 rfl ?_
  refine c_V (st := []) hX.stb C hE (C_needPlace_noW (f := f) (r := r) (kn := kn) (x := (x)) (y := (y0)) hX hl hno hC.h5) pk_X2_needPlace qm_X2_62 0 6 rfl rfl wc_0 rfl rfl (Nat.le_of_ble_eq_true rfl) dX2_set_3 ⟨Nat.le_of_ble_eq_true rfl, Nat.le_of_ble_eq_true rfl⟩ ⟨Nat.le_of_ble_eq_true rfl, Nat.le_of_ble_eq_true rfl⟩ (fun _ _ h9 => h9.elim) (fun E9 h9 => ?_)
  subst h9
  exact r_out C hnt rfl rfl (Nat.le_of_ble_eq_true rfl) (Nat.le_of_ble_eq_true rfl)
set_option maxRecDepth 100000 in
set_option maxHeartbeats 4000000 in
theorem C_set_noP {l : Launch} {D : va_G} {cy : Nat → ClassId} {X : (Nat → Prop) → State → Heap → Prop} {a f : Nat → Nat → Nat} {r : Nat → Nat → Int32} {kn : Int32} {Y : va_W} {w : Nat} {y0 : Int32} {y : Int32} (hX : EnvX X) (hl : l.stackTraces = false) (hC : CInv f) (hw : w < 8) (h5w : f 5 w = 1) (hno : ¬ (0 ≤ y0 ∧ y0 < nI (f 4 w))) : Ce l D cy X yX2_set cX2_set 5 (some .int) (rmk 8 1 6 170) [.ref (a 0 0), .int (nI w), .int y0, .int y] (WC cy a f r kn ++ Y) "java/lang/IndexOutOfBoundsException" := by
  have q3 := hC.sp
  have q1_w := hC.al hw
  have q2_w := hC.th hw h5w
  have q4_w := hC.rw (i := f 1 w) q1_w.2.1
  refine Cm.of [some (.ref (a 0 0)), some (.int (nI w)), some (.int y0), some (.int y), none] pn_X2 rfl (Nat.le_of_ble_eq_true rfl) ?_
  intro p e s m args below meth c A C hE hr hnt hn
  refine r_aload_n C dX2_set_0 rfl ?_
  refine r_iload_n C dX2_set_1 rfl ?_
  refine r_iload_n C dX2_set_2 rfl ?_
  refine c_V (st := []) hX.stb C hE (C_needPlace_no (f := f) (r := r) (kn := kn) (w := w) (y := (y0)) hX hl (by first | omega | (simp [up2, *]; done) | (simp [up2, *]; omega) | (simp only [up2_eq]; omega)) (by first | omega | (simp [up2, *]; done) | (simp [up2, *]; omega) | (simp only [up2_eq]; omega)) hno) pk_X2_needPlace qm_X2_62 0 6 rfl rfl wc_0 rfl rfl (Nat.le_of_ble_eq_true rfl) dX2_set_3 ⟨Nat.le_of_ble_eq_true rfl, Nat.le_of_ble_eq_true rfl⟩ ⟨Nat.le_of_ble_eq_true rfl, Nat.le_of_ble_eq_true rfl⟩ (fun _ _ h9 => h9.elim) (fun E9 h9 => ?_)
  subst h9
  exact r_out C hnt rfl rfl (Nat.le_of_ble_eq_true rfl) (Nat.le_of_ble_eq_true rfl)
theorem dX2_set_6 : decode cX2_set 6 = .ok (.iload_n 3, 1) := dqo_29 (kb_of ke_X2_set 6 rfl)
theorem dX2_set_7 : decode cX2_set 7 = .ok (.invokestatic 43, 3) := dqo_184 0 43 (kb_of ke_X2_set 7 rfl) (kb_of ke_X2_set 8 rfl) (kb_of ke_X2_set 9 rfl)
set_option maxRecDepth 100000 in
set_option maxHeartbeats 4000000 in
theorem C_set_noI {l : Launch} {D : va_G} {cy : Nat → ClassId} {X : (Nat → Prop) → State → Heap → Prop} {a f : Nat → Nat → Nat} {r : Nat → Nat → Int32} {kn : Int32} {Y : va_W} {w : Nat} {k0 : Nat} {y : Int32} (hX : EnvX X) (hl : l.stackTraces = false) (hC : CInv f) (hw : w < 8) (h5w : f 5 w = 1) (hk : k0 < f 4 w) (ho : ¬ okI y) : Ce l D cy X yX2_set cX2_set 5 (some .int) (rmk 8 1 6 170) [.ref (a 0 0), .int (nI w), .int (nI k0), .int y] (WC cy a f r kn ++ Y) "java/lang/IllegalArgumentException" := by
  have q3 := hC.sp
  have q1_w := hC.al hw
  have q2_w := hC.th hw h5w
  have q4_w := hC.rw (i := f 1 w) q1_w.2.1
  refine Cm.of [some (.ref (a 0 0)), some (.int (nI w)), some (.int (nI k0)), some (.int y), none] pn_X2 rfl (Nat.le_of_ble_eq_true rfl) ?_
  intro p e s m args below meth c A C hE hr hnt hn
  refine r_aload_n C dX2_set_0 rfl ?_
  refine r_iload_n C dX2_set_1 rfl ?_
  refine r_iload_n C dX2_set_2 rfl ?_
  refine d_Vv (st := []) hX.stb C hE (C_needPlace_ok (f := f) (r := r) (kn := kn) (w := w) (k := k0) hX (by first | omega | (simp [up2, *]; done) | (simp [up2, *]; omega) | (simp only [up2_eq]; omega)) (by first | omega | (simp [up2, *]; done) | (simp [up2, *]; omega) | (simp only [up2_eq]; omega)) (by first | omega | (simp [up2, *]; done) | (simp [up2, *]; omega) | (simp only [up2_eq]; omega)) (by first | omega | (simp [up2, *]; done) | (simp [up2, *]; omega) | (simp only [up2_eq]; omega))) pk_X2_needPlace qm_X2_62 0 6 rfl rfl wc_0 rfl rfl (Nat.le_of_ble_eq_true rfl) dX2_set_3 ⟨Nat.le_of_ble_eq_true rfl, Nat.le_of_ble_eq_true rfl⟩ ⟨Nat.le_of_ble_eq_true rfl, Nat.le_of_ble_eq_true rfl⟩ ?_
  refine r_iload_n C dX2_set_6 rfl ?_
  refine c_S (st := []) hX.stb C hE (C_needItem_no (f := f) (r := r) (kn := kn) (x := (y)) hX hl ho) pk_X2_needItem qm_X2_43 rfl rfl (Nat.le_of_ble_eq_true rfl) dX2_set_7 ⟨Nat.le_of_ble_eq_true rfl, Nat.le_of_ble_eq_true rfl⟩ ⟨Nat.le_of_ble_eq_true rfl, Nat.le_of_ble_eq_true rfl⟩ (fun _ _ h9 => h9.elim) (fun E9 h9 => ?_)
  subst h9
  exact r_out C hnt rfl rfl (Nat.le_of_ble_eq_true rfl) (Nat.le_of_ble_eq_true rfl)
theorem dX2_set_10 : decode cX2_set 10 = .ok (.aload_n 0, 1) := dqo_42 (kb_of ke_X2_set 10 rfl)
theorem dX2_set_11 : decode cX2_set 11 = .ok (.getfield 11, 3) := dqo_180 0 11 (kb_of ke_X2_set 11 rfl) (kb_of ke_X2_set 12 rfl) (kb_of ke_X2_set 13 rfl)
theorem dX2_set_14 : decode cX2_set 14 = .ok (.iload_n 1, 1) := dqo_27 (kb_of ke_X2_set 14 rfl)
theorem dX2_set_15 : decode cX2_set 15 = .ok (.aaload, 1) := dqo_50 (kb_of ke_X2_set 15 rfl)
theorem dX2_set_16 : decode cX2_set 16 = .ok (.iload_n 2, 1) := dqo_28 (kb_of ke_X2_set 16 rfl)
theorem dX2_set_17 : decode cX2_set 17 = .ok (.invokevirtual 65, 3) := dqo_182 0 65 (kb_of ke_X2_set 17 rfl) (kb_of ke_X2_set 18 rfl) (kb_of ke_X2_set 19 rfl)
theorem dX2_set_20 : decode cX2_set 20 = .ok (.istore 4, 2) := dqo_54 4 (kb_of ke_X2_set 20 rfl) (kb_of ke_X2_set 21 rfl)
theorem dX2_set_22 : decode cX2_set 22 = .ok (.aload_n 0, 1) := dqo_42 (kb_of ke_X2_set 22 rfl)
theorem dX2_set_23 : decode cX2_set 23 = .ok (.getfield 11, 3) := dqo_180 0 11 (kb_of ke_X2_set 23 rfl) (kb_of ke_X2_set 24 rfl) (kb_of ke_X2_set 25 rfl)
theorem dX2_set_26 : decode cX2_set 26 = .ok (.iload_n 1, 1) := dqo_27 (kb_of ke_X2_set 26 rfl)
theorem dX2_set_27 : decode cX2_set 27 = .ok (.aaload, 1) := dqo_50 (kb_of ke_X2_set 27 rfl)
theorem dX2_set_28 : decode cX2_set 28 = .ok (.iload_n 2, 1) := dqo_28 (kb_of ke_X2_set 28 rfl)
theorem dX2_set_29 : decode cX2_set 29 = .ok (.iload_n 3, 1) := dqo_29 (kb_of ke_X2_set 29 rfl)
theorem dX2_set_30 : decode cX2_set 30 = .ok (.invokevirtual 69, 3) := dqo_182 0 69 (kb_of ke_X2_set 30 rfl) (kb_of ke_X2_set 31 rfl) (kb_of ke_X2_set 32 rfl)
theorem dX2_set_33 : decode cX2_set 33 = .ok (.iload 4, 2) := dqo_21 4 (kb_of ke_X2_set 33 rfl) (kb_of ke_X2_set 34 rfl)
theorem dX2_set_35 : decode cX2_set 35 = .ok (.ireturn, 1) := dqo_172 (kb_of ke_X2_set 35 rfl)
set_option maxRecDepth 100000 in
set_option maxHeartbeats 4000000 in
theorem C_set_ok {l : Launch} {D : va_G} {cy : Nat → ClassId} {X : (Nat → Prop) → State → Heap → Prop} {a f : Nat → Nat → Nat} {r : Nat → Nat → Int32} {kn : Int32} {Y : va_W} {w : Nat} {k0 : Nat} {y : Int32} (hX : EnvX X) (hC : CInv f) (hw : w < 8) (h5w : f 5 w = 1) (hk : k0 < f 4 w) (ho : okI y) : Cd l D cy X yX2_set cX2_set 5 (some .int) (rmz 6 240) [.ref (a 0 0), .int (nI w), .int (nI k0), .int y] (WC cy a f r kn ++ Y) (some (.int (r (f 0 w) (f 3 w + k0)))) (WC cy a f (up2 r (f 0 w) (f 3 w + k0) (y)) kn ++ Y) := by
  have q3 := hC.sp
  have q1_w := hC.al hw
  have q2_w := hC.th hw h5w
  have q4_w := hC.rw (i := f 1 w) q1_w.2.1
  refine Cm.of [some (.ref (a 0 0)), some (.int (nI w)), some (.int (nI k0)), some (.int y), none] pn_X2 rfl (Nat.le_of_ble_eq_true rfl) ?_
  intro p e s m args below meth c A C hE hr hnt hn
  refine r_aload_n C dX2_set_0 rfl ?_
  refine r_iload_n C dX2_set_1 rfl ?_
  refine r_iload_n C dX2_set_2 rfl ?_
  refine d_Vv (st := []) hX.stb C hE (C_needPlace_ok (f := f) (r := r) (kn := kn) (w := w) (k := k0) hX (by first | omega | (simp [up2, *]; done) | (simp [up2, *]; omega) | (simp only [up2_eq]; omega)) (by first | omega | (simp [up2, *]; done) | (simp [up2, *]; omega) | (simp only [up2_eq]; omega)) (by first | omega | (simp [up2, *]; done) | (simp [up2, *]; omega) | (simp only [up2_eq]; omega)) (by first | omega | (simp [up2, *]; done) | (simp [up2, *]; omega) | (simp only [up2_eq]; omega))) pk_X2_needPlace qm_X2_62 0 6 rfl rfl wc_0 rfl rfl (Nat.le_of_ble_eq_true rfl) dX2_set_3 ⟨Nat.le_of_ble_eq_true rfl, Nat.le_of_ble_eq_true rfl⟩ ⟨Nat.le_of_ble_eq_true rfl, Nat.le_of_ble_eq_true rfl⟩ ?_
  refine r_iload_n C dX2_set_6 rfl ?_
  refine d_Sv (st := []) hX.stb C hE (C_needItem_ok (f := f) (r := r) (kn := kn) (x := (y)) hX ho) pk_X2_needItem qm_X2_43 rfl rfl (Nat.le_of_ble_eq_true rfl) dX2_set_7 ⟨Nat.le_of_ble_eq_true rfl, Nat.le_of_ble_eq_true rfl⟩ ⟨Nat.le_of_ble_eq_true rfl, Nat.le_of_ble_eq_true rfl⟩ ?_
  refine r_aload_n C dX2_set_10 rfl ?_
  refine s_get C 0 (by decide) qf_X2_11 rfl rfl dX2_set_11 ?_
  refine r_iload_n C dX2_set_14 rfl ?_
  refine s_parts C (by first | omega | (simp [up2, *]; done) | (simp [up2, *]; omega) | (simp only [up2_eq]; omega)) dX2_set_15 ?_
  refine r_iload_n C dX2_set_16 rfl ?_
  refine d_V (st := []) hX.stb C hE (C_itemAt (f := f) (r := r) (kn := kn) (i := w) (k := k0) hX (by first | omega | (simp [up2, *]; done) | (simp [up2, *]; omega) | (simp only [up2_eq]; omega)) (by first | omega | (simp [up2, *]; done) | (simp [up2, *]; omega) | (simp only [up2_eq]; omega)) (by first | omega | (simp [up2, *]; done) | (simp [up2, *]; omega) | (simp only [up2_eq]; omega))) pk_X1_itemAt qm_X2_65 (3 + w) 5 rfl rfl (wc_p (by first | omega | (simp [up2, *]; done) | (simp [up2, *]; omega) | (simp only [up2_eq]; omega))) rfl rfl (Nat.le_of_ble_eq_true rfl) dX2_set_17 ⟨Nat.le_of_ble_eq_true rfl, Nat.le_of_ble_eq_true rfl⟩ ⟨Nat.le_of_ble_eq_true rfl, Nat.le_of_ble_eq_true rfl⟩ ?_
  refine r_istore C dX2_set_20 (by decide) rfl ?_
  refine r_aload_n C dX2_set_22 rfl ?_
  refine s_get C 0 (by decide) qf_X2_11 rfl rfl dX2_set_23 ?_
  refine r_iload_n C dX2_set_26 rfl ?_
  refine s_parts C (by first | omega | (simp [up2, *]; done) | (simp [up2, *]; omega) | (simp only [up2_eq]; omega)) dX2_set_27 ?_
  refine r_iload_n C dX2_set_28 rfl ?_
  refine r_iload_n C dX2_set_29 rfl ?_
  refine d_Vv (st := []) hX.stb C hE (C_putAt (f := f) (r := r) (kn := kn) (i := w) (k := k0) (x := (y)) hX (by first | omega | (simp [up2, *]; done) | (simp [up2, *]; omega) | (simp only [up2_eq]; omega)) (by first | omega | (simp [up2, *]; done) | (simp [up2, *]; omega) | (simp only [up2_eq]; omega)) (by first | omega | (simp [up2, *]; done) | (simp [up2, *]; omega) | (simp only [up2_eq]; omega))) pk_X1_putAt qm_X2_69 (3 + w) 5 rfl rfl (wc_p (by first | omega | (simp [up2, *]; done) | (simp [up2, *]; omega) | (simp only [up2_eq]; omega))) rfl rfl (Nat.le_of_ble_eq_true rfl) dX2_set_30 ⟨Nat.le_of_ble_eq_true rfl, Nat.le_of_ble_eq_true rfl⟩ ⟨Nat.le_of_ble_eq_true rfl, Nat.le_of_ble_eq_true rfl⟩ ?_
  refine r_iload C dX2_set_33 rfl ?_
  exact r_iret C hr dX2_set_35 ⟨rfl, rfl⟩ (Nat.le_of_ble_eq_true rfl) (Nat.le_of_ble_eq_true rfl)
theorem dX2_remove_0 : decode cX2_remove 0 = .ok (.aload_n 0, 1) := dqo_42 (kb_of ke_X2_remove 0 rfl)
theorem dX2_remove_1 : decode cX2_remove 1 = .ok (.iload_n 1, 1) := dqo_27 (kb_of ke_X2_remove 1 rfl)
theorem dX2_remove_2 : decode cX2_remove 2 = .ok (.iload_n 2, 1) := dqo_28 (kb_of ke_X2_remove 2 rfl)
theorem dX2_remove_3 : decode cX2_remove 3 = .ok (.invokevirtual 62, 3) := dqo_182 0 62 (kb_of ke_X2_remove 3 rfl) (kb_of ke_X2_remove 4 rfl) (kb_of ke_X2_remove 5 rfl)
set_option maxRecDepth 100000 in
set_option maxHeartbeats 4000000 in
theorem C_remove_noW {l : Launch} {D : va_G} {cy : Nat → ClassId} {X : (Nat → Prop) → State → Heap → Prop} {a f : Nat → Nat → Nat} {r : Nat → Nat → Int32} {kn : Int32} {Y : va_W} {x : Int32} {y0 : Int32} (hX : EnvX X) (hl : l.stackTraces = false) (hC : CInv f) (hno : noW f x) : Ce l D cy X yX2_remove cX2_remove 4 (some .int) (rmk 8 1 6 170) [.ref (a 0 0), .int x, .int y0] (WC cy a f r kn ++ Y) "java/lang/IndexOutOfBoundsException" := by
  have q3 := hC.sp
  refine Cm.of [some (.ref (a 0 0)), some (.int x), some (.int y0), none] pn_X2 rfl (Nat.le_of_ble_eq_true rfl) ?_
  intro p e s m args below meth c A C hE hr hnt hn
  refine r_aload_n C dX2_remove_0 rfl ?_
  refine r_iload_n C dX2_remove_1 rfl ?_
  refine r_iload_n C dX2_remove_2 rfl ?_
  refine c_V (st := []) hX.stb C hE (C_needPlace_noW (f := f) (r := r) (kn := kn) (x := (x)) (y := (y0)) hX hl hno hC.h5) pk_X2_needPlace qm_X2_62 0 6 rfl rfl wc_0 rfl rfl (Nat.le_of_ble_eq_true rfl) dX2_remove_3 ⟨Nat.le_of_ble_eq_true rfl, Nat.le_of_ble_eq_true rfl⟩ ⟨Nat.le_of_ble_eq_true rfl, Nat.le_of_ble_eq_true rfl⟩ (fun _ _ h9 => h9.elim) (fun E9 h9 => ?_)
  subst h9
  exact r_out C hnt rfl rfl (Nat.le_of_ble_eq_true rfl) (Nat.le_of_ble_eq_true rfl)
set_option maxRecDepth 100000 in
set_option maxHeartbeats 4000000 in
theorem C_remove_noP {l : Launch} {D : va_G} {cy : Nat → ClassId} {X : (Nat → Prop) → State → Heap → Prop} {a f : Nat → Nat → Nat} {r : Nat → Nat → Int32} {kn : Int32} {Y : va_W} {w : Nat} {y0 : Int32} (hX : EnvX X) (hl : l.stackTraces = false) (hC : CInv f) (hw : w < 8) (h5w : f 5 w = 1) (hno : ¬ (0 ≤ y0 ∧ y0 < nI (f 4 w))) : Ce l D cy X yX2_remove cX2_remove 4 (some .int) (rmk 8 1 6 170) [.ref (a 0 0), .int (nI w), .int y0] (WC cy a f r kn ++ Y) "java/lang/IndexOutOfBoundsException" := by
  have q3 := hC.sp
  have q1_w := hC.al hw
  have q2_w := hC.th hw h5w
  have q4_w := hC.rw (i := f 1 w) q1_w.2.1
  refine Cm.of [some (.ref (a 0 0)), some (.int (nI w)), some (.int y0), none] pn_X2 rfl (Nat.le_of_ble_eq_true rfl) ?_
  intro p e s m args below meth c A C hE hr hnt hn
  refine r_aload_n C dX2_remove_0 rfl ?_
  refine r_iload_n C dX2_remove_1 rfl ?_
  refine r_iload_n C dX2_remove_2 rfl ?_
  refine c_V (st := []) hX.stb C hE (C_needPlace_no (f := f) (r := r) (kn := kn) (w := w) (y := (y0)) hX hl (by first | omega | (simp [up2, *]; done) | (simp [up2, *]; omega) | (simp only [up2_eq]; omega)) (by first | omega | (simp [up2, *]; done) | (simp [up2, *]; omega) | (simp only [up2_eq]; omega)) hno) pk_X2_needPlace qm_X2_62 0 6 rfl rfl wc_0 rfl rfl (Nat.le_of_ble_eq_true rfl) dX2_remove_3 ⟨Nat.le_of_ble_eq_true rfl, Nat.le_of_ble_eq_true rfl⟩ ⟨Nat.le_of_ble_eq_true rfl, Nat.le_of_ble_eq_true rfl⟩ (fun _ _ h9 => h9.elim) (fun E9 h9 => ?_)
  subst h9
  exact r_out C hnt rfl rfl (Nat.le_of_ble_eq_true rfl) (Nat.le_of_ble_eq_true rfl)
theorem pk_X2_takeOut : PkV RX2 yX2_takeOut cX2_takeOut 5 none 4 := ⟨⟨qi_X2_takeOut, qs_X2_takeOut, qz_X2, qc_X2_takeOut⟩, rfl, mh_X2.1, mh_X2.2, pd_9⟩
theorem dX2_remove_6 : decode cX2_remove 6 = .ok (.aload_n 0, 1) := dqo_42 (kb_of ke_X2_remove 6 rfl)
theorem dX2_remove_7 : decode cX2_remove 7 = .ok (.getfield 11, 3) := dqo_180 0 11 (kb_of ke_X2_remove 7 rfl) (kb_of ke_X2_remove 8 rfl) (kb_of ke_X2_remove 9 rfl)
theorem dX2_remove_10 : decode cX2_remove 10 = .ok (.iload_n 1, 1) := dqo_27 (kb_of ke_X2_remove 10 rfl)
theorem dX2_remove_11 : decode cX2_remove 11 = .ok (.aaload, 1) := dqo_50 (kb_of ke_X2_remove 11 rfl)
theorem dX2_remove_12 : decode cX2_remove 12 = .ok (.iload_n 2, 1) := dqo_28 (kb_of ke_X2_remove 12 rfl)
theorem dX2_remove_13 : decode cX2_remove 13 = .ok (.invokevirtual 65, 3) := dqo_182 0 65 (kb_of ke_X2_remove 13 rfl) (kb_of ke_X2_remove 14 rfl) (kb_of ke_X2_remove 15 rfl)
theorem dX2_remove_16 : decode cX2_remove 16 = .ok (.istore_n 3, 1) := dqo_62 (kb_of ke_X2_remove 16 rfl)
theorem dX2_remove_17 : decode cX2_remove 17 = .ok (.aload_n 0, 1) := dqo_42 (kb_of ke_X2_remove 17 rfl)
theorem dX2_remove_18 : decode cX2_remove 18 = .ok (.iload_n 1, 1) := dqo_27 (kb_of ke_X2_remove 18 rfl)
theorem dX2_remove_19 : decode cX2_remove 19 = .ok (.iload_n 2, 1) := dqo_28 (kb_of ke_X2_remove 19 rfl)
theorem dX2_remove_20 : decode cX2_remove 20 = .ok (.iload_n 2, 1) := dqo_28 (kb_of ke_X2_remove 20 rfl)
theorem dX2_remove_21 : decode cX2_remove 21 = .ok (.iconst 1, 1) := dqo_4 (kb_of ke_X2_remove 21 rfl)
theorem dX2_remove_22 : decode cX2_remove 22 = .ok (.iadd, 1) := dqo_96 (kb_of ke_X2_remove 22 rfl)
theorem dX2_remove_23 : decode cX2_remove 23 = .ok (.iconst (-1), 1) := dqo_2 (kb_of ke_X2_remove 23 rfl)
theorem dX2_remove_24 : decode cX2_remove 24 = .ok (.invokevirtual 72, 3) := dqo_182 0 72 (kb_of ke_X2_remove 24 rfl) (kb_of ke_X2_remove 25 rfl) (kb_of ke_X2_remove 26 rfl)
theorem dX2_remove_27 : decode cX2_remove 27 = .ok (.iload_n 3, 1) := dqo_29 (kb_of ke_X2_remove 27 rfl)
theorem dX2_remove_28 : decode cX2_remove 28 = .ok (.ireturn, 1) := dqo_172 (kb_of ke_X2_remove 28 rfl)
set_option maxRecDepth 100000 in
set_option maxHeartbeats 4000000 in
theorem C_remove_ok {l : Launch} {D : va_G} {cy : Nat → ClassId} {X : (Nat → Prop) → State → Heap → Prop} {a f : Nat → Nat → Nat} {r : Nat → Nat → Int32} {kn : Int32} {Y : va_W} {w : Nat} {k0 : Nat} (hX : EnvX X) (hC : CInv f) (hw : w < 8) (h5w : f 5 w = 1) (hk : k0 < f 4 w) : Cd l D cy X yX2_remove cX2_remove 4 (some .int) (rmz 6 240) [.ref (a 0 0), .int (nI w), .int (nI k0)] (WC cy a f r kn ++ Y) (some (.int (r (f 0 w) (f 3 w + k0)))) (WC cy a (settleF (exL (up2 f 4 8 0) w 0 ((k0 + 1) - k0) 8) w 4294967295) (exR (up2 f 4 8 0) r w k0 (k0 + 1) 0) kn ++ Y) := by
  have q3 := hC.sp
  have q1_w := hC.al hw
  have q2_w := hC.th hw h5w
  have q4_w := hC.rw (i := f 1 w) q1_w.2.1
  refine Cm.of [some (.ref (a 0 0)), some (.int (nI w)), some (.int (nI k0)), none] pn_X2 rfl (Nat.le_of_ble_eq_true rfl) ?_
  intro p e s m args below meth c A C hE hr hnt hn
  refine r_aload_n C dX2_remove_0 rfl ?_
  refine r_iload_n C dX2_remove_1 rfl ?_
  refine r_iload_n C dX2_remove_2 rfl ?_
  refine d_Vv (st := []) hX.stb C hE (C_needPlace_ok (f := f) (r := r) (kn := kn) (w := w) (k := k0) hX (by first | omega | (simp [up2, *]; done) | (simp [up2, *]; omega) | (simp only [up2_eq]; omega)) (by first | omega | (simp [up2, *]; done) | (simp [up2, *]; omega) | (simp only [up2_eq]; omega)) (by first | omega | (simp [up2, *]; done) | (simp [up2, *]; omega) | (simp only [up2_eq]; omega)) (by first | omega | (simp [up2, *]; done) | (simp [up2, *]; omega) | (simp only [up2_eq]; omega))) pk_X2_needPlace qm_X2_62 0 6 rfl rfl wc_0 rfl rfl (Nat.le_of_ble_eq_true rfl) dX2_remove_3 ⟨Nat.le_of_ble_eq_true rfl, Nat.le_of_ble_eq_true rfl⟩ ⟨Nat.le_of_ble_eq_true rfl, Nat.le_of_ble_eq_true rfl⟩ ?_
  refine r_aload_n C dX2_remove_6 rfl ?_
  refine s_get C 0 (by decide) qf_X2_11 rfl rfl dX2_remove_7 ?_
  refine r_iload_n C dX2_remove_10 rfl ?_
  refine s_parts C (by first | omega | (simp [up2, *]; done) | (simp [up2, *]; omega) | (simp only [up2_eq]; omega)) dX2_remove_11 ?_
  refine r_iload_n C dX2_remove_12 rfl ?_
  refine d_V (st := []) hX.stb C hE (C_itemAt (f := f) (r := r) (kn := kn) (i := w) (k := k0) hX (by first | omega | (simp [up2, *]; done) | (simp [up2, *]; omega) | (simp only [up2_eq]; omega)) (by first | omega | (simp [up2, *]; done) | (simp [up2, *]; omega) | (simp only [up2_eq]; omega)) (by first | omega | (simp [up2, *]; done) | (simp [up2, *]; omega) | (simp only [up2_eq]; omega))) pk_X1_itemAt qm_X2_65 (3 + w) 5 rfl rfl (wc_p (by first | omega | (simp [up2, *]; done) | (simp [up2, *]; omega) | (simp only [up2_eq]; omega))) rfl rfl (Nat.le_of_ble_eq_true rfl) dX2_remove_13 ⟨Nat.le_of_ble_eq_true rfl, Nat.le_of_ble_eq_true rfl⟩ ⟨Nat.le_of_ble_eq_true rfl, Nat.le_of_ble_eq_true rfl⟩ ?_
  refine r_istore_n C dX2_remove_16 (by decide) rfl ?_
  refine r_aload_n C dX2_remove_17 rfl ?_
  refine r_iload_n C dX2_remove_18 rfl ?_
  refine r_iload_n C dX2_remove_19 rfl ?_
  refine r_iload_n C dX2_remove_20 rfl ?_
  refine r_iconst (v := (nI 1)) C dX2_remove_21 (by decide) ?_
  refine r_iaddN C dX2_remove_22 ?_
  refine r_iconst (v := (nI 4294967295)) C dX2_remove_23 (by decide) ?_
  refine d_Vv (st := []) hX.stb C hE (C_takeOut (f := f) (r := r) (kn := kn) (w := w) (p0 := k0) (q0 := (k0 + 1)) (d0 := 4294967295) hX (by first | omega | (simp [up2, *]; done) | (simp [up2, *]; omega) | (simp only [up2_eq]; omega)) hC.h1 hC.hG hC.hI hC.hI8 (by first | omega | (simp [up2, *]; done) | (simp [up2, *]; omega) | (simp only [up2_eq]; omega)) (by first | omega | (simp [up2, *]; done) | (simp [up2, *]; omega) | (simp only [up2_eq]; omega)) (by first | omega | (simp [up2, *]; done) | (simp [up2, *]; omega) | (simp only [up2_eq]; omega)) (by first | omega | (simp [up2, *]; done) | (simp [up2, *]; omega) | (simp only [up2_eq]; omega)) (fun i hi h => by have h6 := hC.ho12 hw h5w i hi h; omega) (by first | omega | (simp [up2, *]; done) | (simp [up2, *]; omega) | (simp only [up2_eq]; omega)) hC.hU) pk_X2_takeOut qm_X2_72 0 6 rfl rfl wc_0 rfl rfl (Nat.le_of_ble_eq_true rfl) dX2_remove_24 ⟨Nat.le_of_ble_eq_true rfl, Nat.le_of_ble_eq_true rfl⟩ ⟨Nat.le_of_ble_eq_true rfl, Nat.le_of_ble_eq_true rfl⟩ ?_
  refine r_iload_n C dX2_remove_27 rfl ?_
  exact r_iret C hr dX2_remove_28 ⟨rfl, rfl⟩ (Nat.le_of_ble_eq_true rfl) (Nat.le_of_ble_eq_true rfl)
theorem dX2_clear_0 : decode cX2_clear 0 = .ok (.aload_n 0, 1) := dqo_42 (kb_of ke_X2_clear 0 rfl)
theorem dX2_clear_1 : decode cX2_clear 1 = .ok (.iload_n 1, 1) := dqo_27 (kb_of ke_X2_clear 1 rfl)
theorem dX2_clear_2 : decode cX2_clear 2 = .ok (.invokevirtual 39, 3) := dqo_182 0 39 (kb_of ke_X2_clear 2 rfl) (kb_of ke_X2_clear 3 rfl) (kb_of ke_X2_clear 4 rfl)
set_option maxRecDepth 100000 in
set_option maxHeartbeats 4000000 in
theorem C_clear_noW {l : Launch} {D : va_G} {cy : Nat → ClassId} {X : (Nat → Prop) → State → Heap → Prop} {a f : Nat → Nat → Nat} {r : Nat → Nat → Int32} {kn : Int32} {Y : va_W} {x : Int32} (hX : EnvX X) (hl : l.stackTraces = false) (hC : CInv f) (hno : noW f x) : Ce l D cy X yX2_clear cX2_clear 3 (some .int) (rmk 8 1 6 170) [.ref (a 0 0), .int x] (WC cy a f r kn ++ Y) "java/lang/IndexOutOfBoundsException" := by
  have q3 := hC.sp
  refine Cm.of [some (.ref (a 0 0)), some (.int x), none] pn_X2 rfl (Nat.le_of_ble_eq_true rfl) ?_
  intro p e s m args below meth c A C hE hr hnt hn
  refine r_aload_n C dX2_clear_0 rfl ?_
  refine r_iload_n C dX2_clear_1 rfl ?_
  refine c_V (st := []) hX.stb C hE (C_needWhere_no (f := f) (r := r) (kn := kn) (x := (x)) hX hl hno hC.h5) pk_X2_needWhere qm_X2_39 0 6 rfl rfl wc_0 rfl rfl (Nat.le_of_ble_eq_true rfl) dX2_clear_2 ⟨Nat.le_of_ble_eq_true rfl, Nat.le_of_ble_eq_true rfl⟩ ⟨Nat.le_of_ble_eq_true rfl, Nat.le_of_ble_eq_true rfl⟩ (fun _ _ h9 => h9.elim) (fun E9 h9 => ?_)
  subst h9
  exact r_out C hnt rfl rfl (Nat.le_of_ble_eq_true rfl) (Nat.le_of_ble_eq_true rfl)
theorem dX2_clear_5 : decode cX2_clear 5 = .ok (.aload_n 0, 1) := dqo_42 (kb_of ke_X2_clear 5 rfl)
theorem dX2_clear_6 : decode cX2_clear 6 = .ok (.getfield 11, 3) := dqo_180 0 11 (kb_of ke_X2_clear 6 rfl) (kb_of ke_X2_clear 7 rfl) (kb_of ke_X2_clear 8 rfl)
theorem dX2_clear_9 : decode cX2_clear 9 = .ok (.iload_n 1, 1) := dqo_27 (kb_of ke_X2_clear 9 rfl)
theorem dX2_clear_10 : decode cX2_clear 10 = .ok (.aaload, 1) := dqo_50 (kb_of ke_X2_clear 10 rfl)
theorem dX2_clear_11 : decode cX2_clear 11 = .ok (.getfield 50, 3) := dqo_180 0 50 (kb_of ke_X2_clear 11 rfl) (kb_of ke_X2_clear 12 rfl) (kb_of ke_X2_clear 13 rfl)
theorem dX2_clear_14 : decode cX2_clear 14 = .ok (.istore_n 2, 1) := dqo_61 (kb_of ke_X2_clear 14 rfl)
theorem dX2_clear_15 : decode cX2_clear 15 = .ok (.iload_n 2, 1) := dqo_28 (kb_of ke_X2_clear 15 rfl)
theorem dX2_clear_16 : decode cX2_clear 16 = .ok (.ifCond .le 11, 3) := dqo_158 0 11 (by decide) (kb_of ke_X2_clear 16 rfl) (kb_of ke_X2_clear 17 rfl) (kb_of ke_X2_clear 18 rfl)
theorem dX2_clear_27 : decode cX2_clear 27 = .ok (.iload_n 2, 1) := dqo_28 (kb_of ke_X2_clear 27 rfl)
theorem dX2_clear_28 : decode cX2_clear 28 = .ok (.ireturn, 1) := dqo_172 (kb_of ke_X2_clear 28 rfl)
set_option maxRecDepth 100000 in
set_option maxHeartbeats 4000000 in
theorem C_clear_0 {l : Launch} {D : va_G} {cy : Nat → ClassId} {X : (Nat → Prop) → State → Heap → Prop} {a f : Nat → Nat → Nat} {r : Nat → Nat → Int32} {kn : Int32} {Y : va_W} {w : Nat} (hX : EnvX X) (hC : CInv f) (hw : w < 8) (h5w : f 5 w = 1) (hz : f 4 w = 0) : Cd l D cy X yX2_clear cX2_clear 3 (some .int) (rmz 6 240) [.ref (a 0 0), .int (nI w)] (WC cy a f r kn ++ Y) (some (.int (nI (f 4 w)))) (WC cy a f r kn ++ Y) := by
  have q3 := hC.sp
  have q1_w := hC.al hw
  have q2_w := hC.th hw h5w
  have q4_w := hC.rw (i := f 1 w) q1_w.2.1
  refine Cm.of [some (.ref (a 0 0)), some (.int (nI w)), none] pn_X2 rfl (Nat.le_of_ble_eq_true rfl) ?_
  intro p e s m args below meth c A C hE hr hnt hn
  refine r_aload_n C dX2_clear_0 rfl ?_
  refine r_iload_n C dX2_clear_1 rfl ?_
  refine d_Vv (st := []) hX.stb C hE (C_needWhere_ok (f := f) (r := r) (kn := kn) (w := w) hX (by first | omega | (simp [up2, *]; done) | (simp [up2, *]; omega) | (simp only [up2_eq]; omega)) (by first | omega | (simp [up2, *]; done) | (simp [up2, *]; omega) | (simp only [up2_eq]; omega))) pk_X2_needWhere qm_X2_39 0 6 rfl rfl wc_0 rfl rfl (Nat.le_of_ble_eq_true rfl) dX2_clear_2 ⟨Nat.le_of_ble_eq_true rfl, Nat.le_of_ble_eq_true rfl⟩ ⟨Nat.le_of_ble_eq_true rfl, Nat.le_of_ble_eq_true rfl⟩ ?_
  refine r_aload_n C dX2_clear_5 rfl ?_
  refine s_get C 0 (by decide) qf_X2_11 rfl rfl dX2_clear_6 ?_
  refine r_iload_n C dX2_clear_9 rfl ?_
  refine s_parts C (by first | omega | (simp [up2, *]; done) | (simp [up2, *]; omega) | (simp only [up2_eq]; omega)) dX2_clear_10 ?_
  refine p_getN (v := .int (nI (f 4 w))) hX C hE 4 (by first | omega | (simp [up2, *]; done) | (simp [up2, *]; omega) | (simp only [up2_eq]; omega)) (by decide) qn_X2_50 rfl rfl dX2_clear_11 ?_
  refine r_istore_n C dX2_clear_14 (by decide) rfl ?_
  refine r_iload_n C dX2_clear_15 rfl ?_
  refine r_ifN_le (a := (f 4 w)) (tgt := 27) C (by first | omega | (simp [up2, *]; done) | (simp [up2, *]; omega) | (simp only [up2_eq]; omega)) dX2_clear_16 (by decide) (fun h16_1 => ?_) (fun h16_1 => ?_)
  · skip
    refine r_iload_n C dX2_clear_27 rfl ?_
    exact r_iret C hr dX2_clear_28 ⟨rfl, rfl⟩ (Nat.le_of_ble_eq_true rfl) (Nat.le_of_ble_eq_true rfl)
  · exact absurd h16_1 (by first | omega | (simp [up2, *]; done) | (simp [up2, *]; omega) | (simp only [up2_eq]; omega))
theorem dX2_clear_19 : decode cX2_clear 19 = .ok (.aload_n 0, 1) := dqo_42 (kb_of ke_X2_clear 19 rfl)
theorem dX2_clear_20 : decode cX2_clear 20 = .ok (.iload_n 1, 1) := dqo_27 (kb_of ke_X2_clear 20 rfl)
theorem dX2_clear_21 : decode cX2_clear 21 = .ok (.iconst 0, 1) := dqo_3 (kb_of ke_X2_clear 21 rfl)
theorem dX2_clear_22 : decode cX2_clear 22 = .ok (.iload_n 2, 1) := dqo_28 (kb_of ke_X2_clear 22 rfl)
theorem dX2_clear_23 : decode cX2_clear 23 = .ok (.iconst (-1), 1) := dqo_2 (kb_of ke_X2_clear 23 rfl)
theorem dX2_clear_24 : decode cX2_clear 24 = .ok (.invokevirtual 72, 3) := dqo_182 0 72 (kb_of ke_X2_clear 24 rfl) (kb_of ke_X2_clear 25 rfl) (kb_of ke_X2_clear 26 rfl)
set_option maxRecDepth 100000 in
set_option maxHeartbeats 4000000 in
theorem C_clear_ok {l : Launch} {D : va_G} {cy : Nat → ClassId} {X : (Nat → Prop) → State → Heap → Prop} {a f : Nat → Nat → Nat} {r : Nat → Nat → Int32} {kn : Int32} {Y : va_W} {w : Nat} (hX : EnvX X) (hC : CInv f) (hw : w < 8) (h5w : f 5 w = 1) (hz : 0 < f 4 w) : Cd l D cy X yX2_clear cX2_clear 3 (some .int) (rmz 6 240) [.ref (a 0 0), .int (nI w)] (WC cy a f r kn ++ Y) (some (.int (nI (f 4 w)))) (WC cy a (settleF (exL (up2 f 4 8 0) w 0 ((f 4 w) - 0) 8) w 4294967295) (exR (up2 f 4 8 0) r w 0 (f 4 w) 0) kn ++ Y) := by
  have q3 := hC.sp
  have q1_w := hC.al hw
  have q2_w := hC.th hw h5w
  have q4_w := hC.rw (i := f 1 w) q1_w.2.1
  refine Cm.of [some (.ref (a 0 0)), some (.int (nI w)), none] pn_X2 rfl (Nat.le_of_ble_eq_true rfl) ?_
  intro p e s m args below meth c A C hE hr hnt hn
  refine r_aload_n C dX2_clear_0 rfl ?_
  refine r_iload_n C dX2_clear_1 rfl ?_
  refine d_Vv (st := []) hX.stb C hE (C_needWhere_ok (f := f) (r := r) (kn := kn) (w := w) hX (by first | omega | (simp [up2, *]; done) | (simp [up2, *]; omega) | (simp only [up2_eq]; omega)) (by first | omega | (simp [up2, *]; done) | (simp [up2, *]; omega) | (simp only [up2_eq]; omega))) pk_X2_needWhere qm_X2_39 0 6 rfl rfl wc_0 rfl rfl (Nat.le_of_ble_eq_true rfl) dX2_clear_2 ⟨Nat.le_of_ble_eq_true rfl, Nat.le_of_ble_eq_true rfl⟩ ⟨Nat.le_of_ble_eq_true rfl, Nat.le_of_ble_eq_true rfl⟩ ?_
  refine r_aload_n C dX2_clear_5 rfl ?_
  refine s_get C 0 (by decide) qf_X2_11 rfl rfl dX2_clear_6 ?_
  refine r_iload_n C dX2_clear_9 rfl ?_
  refine s_parts C (by first | omega | (simp [up2, *]; done) | (simp [up2, *]; omega) | (simp only [up2_eq]; omega)) dX2_clear_10 ?_
  refine p_getN (v := .int (nI (f 4 w))) hX C hE 4 (by first | omega | (simp [up2, *]; done) | (simp [up2, *]; omega) | (simp only [up2_eq]; omega)) (by decide) qn_X2_50 rfl rfl dX2_clear_11 ?_
  refine r_istore_n C dX2_clear_14 (by decide) rfl ?_
  refine r_iload_n C dX2_clear_15 rfl ?_
  refine r_ifN_le (a := (f 4 w)) (tgt := 27) C (by first | omega | (simp [up2, *]; done) | (simp [up2, *]; omega) | (simp only [up2_eq]; omega)) dX2_clear_16 (by decide) (fun h16_1 => ?_) (fun h16_1 => ?_)
  · exact absurd h16_1 (by first | omega | (simp [up2, *]; done) | (simp [up2, *]; omega) | (simp only [up2_eq]; omega))
  · skip
    refine r_aload_n C dX2_clear_19 rfl ?_
    refine r_iload_n C dX2_clear_20 rfl ?_
    refine r_iconst (v := (nI 0)) C dX2_clear_21 (by decide) ?_
    refine r_iload_n C dX2_clear_22 rfl ?_
    refine r_iconst (v := (nI 4294967295)) C dX2_clear_23 (by decide) ?_
    refine d_Vv (st := []) hX.stb C hE (C_takeOut (f := f) (r := r) (kn := kn) (w := w) (p0 := 0) (q0 := (f 4 w)) (d0 := 4294967295) hX (by first | omega | (simp [up2, *]; done) | (simp [up2, *]; omega) | (simp only [up2_eq]; omega)) hC.h1 hC.hG hC.hI hC.hI8 (by first | omega | (simp [up2, *]; done) | (simp [up2, *]; omega) | (simp only [up2_eq]; omega)) (by first | omega | (simp [up2, *]; done) | (simp [up2, *]; omega) | (simp only [up2_eq]; omega)) (by first | omega | (simp [up2, *]; done) | (simp [up2, *]; omega) | (simp only [up2_eq]; omega)) (by first | omega | (simp [up2, *]; done) | (simp [up2, *]; omega) | (simp only [up2_eq]; omega)) (fun i hi h => by have h6 := hC.ho12 hw h5w i hi h; omega) (by first | omega | (simp [up2, *]; done) | (simp [up2, *]; omega) | (simp only [up2_eq]; omega)) hC.hU) pk_X2_takeOut qm_X2_72 0 6 rfl rfl wc_0 rfl rfl (Nat.le_of_ble_eq_true rfl) dX2_clear_24 ⟨Nat.le_of_ble_eq_true rfl, Nat.le_of_ble_eq_true rfl⟩ ⟨Nat.le_of_ble_eq_true rfl, Nat.le_of_ble_eq_true rfl⟩ ?_
    refine r_iload_n C dX2_clear_27 rfl ?_
    exact r_iret C hr dX2_clear_28 ⟨rfl, rfl⟩ (Nat.le_of_ble_eq_true rfl) (Nat.le_of_ble_eq_true rfl)
theorem dX2_splice_0 : decode cX2_splice 0 = .ok (.aload_n 0, 1) := dqo_42 (kb_X2_splice_0 0 rfl)
theorem dX2_splice_1 : decode cX2_splice 1 = .ok (.iload_n 1, 1) := dqo_27 (kb_X2_splice_0 1 rfl)
theorem dX2_splice_2 : decode cX2_splice 2 = .ok (.invokevirtual 39, 3) := dqo_182 0 39 (kb_X2_splice_0 2 rfl) (kb_X2_splice_0 3 rfl) (kb_X2_splice_0 4 rfl)
set_option maxRecDepth 100000 in
set_option maxHeartbeats 4000000 in
theorem C_splice_noW {l : Launch} {D : va_G} {cy : Nat → ClassId} {X : (Nat → Prop) → State → Heap → Prop} {a f : Nat → Nat → Nat} {r : Nat → Nat → Int32} {kn : Int32} {Y : va_W} {x : Int32} {y0 : Int32} {y1 : Int32} {y2 : Int32} (hX : EnvX X) (hl : l.stackTraces = false) (hC : CInv f) (hno : noW f x) : Ce l D cy X yX2_splice cX2_splice 7 (some .int) (rmk 8 1 6 170) [.ref (a 0 0), .int x, .int y0, .int y1, .int y2] (WC cy a f r kn ++ Y) "java/lang/IndexOutOfBoundsException" := by
  have q3 := hC.sp
  refine Cm.of [some (.ref (a 0 0)), some (.int x), some (.int y0), some (.int y1), some (.int y2), none, none] pn_X2 rfl (Nat.le_of_ble_eq_true rfl) ?_
  intro p e s m args below meth c A C hE hr hnt hn
  refine r_aload_n C dX2_splice_0 rfl ?_
  refine r_iload_n C dX2_splice_1 rfl ?_
  refine c_V (st := []) hX.stb C hE (C_needWhere_no (f := f) (r := r) (kn := kn) (x := (x)) hX hl hno hC.h5) pk_X2_needWhere qm_X2_39 0 6 rfl rfl wc_0 rfl rfl (Nat.le_of_ble_eq_true rfl) dX2_splice_2 ⟨Nat.le_of_ble_eq_true rfl, Nat.le_of_ble_eq_true rfl⟩ ⟨Nat.le_of_ble_eq_true rfl, Nat.le_of_ble_eq_true rfl⟩ (fun _ _ h9 => h9.elim) (fun E9 h9 => ?_)
  subst h9
  exact r_out C hnt rfl rfl (Nat.le_of_ble_eq_true rfl) (Nat.le_of_ble_eq_true rfl)
theorem dX2_splice_5 : decode cX2_splice 5 = .ok (.aload_n 0, 1) := dqo_42 (kb_X2_splice_0 5 rfl)
theorem dX2_splice_6 : decode cX2_splice 6 = .ok (.iload 4, 2) := dqo_21 4 (kb_X2_splice_0 6 rfl) (kb_X2_splice_0 7 rfl)
theorem dX2_splice_8 : decode cX2_splice 8 = .ok (.invokevirtual 39, 3) := dqo_182 0 39 (kb_X2_splice_0 8 rfl) (kb_X2_splice_0 9 rfl) (kb_X2_splice_0 10 rfl)
set_option maxRecDepth 100000 in
set_option maxHeartbeats 4000000 in
theorem C_splice_noW2 {l : Launch} {D : va_G} {cy : Nat → ClassId} {X : (Nat → Prop) → State → Heap → Prop} {a f : Nat → Nat → Nat} {r : Nat → Nat → Int32} {kn : Int32} {Y : va_W} {w : Nat} {y0 : Int32} {y : Int32} {x : Int32} (hX : EnvX X) (hl : l.stackTraces = false) (hC : CInv f) (hw : w < 8) (h5w : f 5 w = 1) (hno : noW f x) : Ce l D cy X yX2_splice cX2_splice 7 (some .int) (rmk 8 1 6 170) [.ref (a 0 0), .int (nI w), .int y0, .int y, .int x] (WC cy a f r kn ++ Y) "java/lang/IndexOutOfBoundsException" := by
  have q3 := hC.sp
  have q1_w := hC.al hw
  have q2_w := hC.th hw h5w
  have q4_w := hC.rw (i := f 1 w) q1_w.2.1
  refine Cm.of [some (.ref (a 0 0)), some (.int (nI w)), some (.int y0), some (.int y), some (.int x), none, none] pn_X2 rfl (Nat.le_of_ble_eq_true rfl) ?_
  intro p e s m args below meth c A C hE hr hnt hn
  refine r_aload_n C dX2_splice_0 rfl ?_
  refine r_iload_n C dX2_splice_1 rfl ?_
  refine d_Vv (st := []) hX.stb C hE (C_needWhere_ok (f := f) (r := r) (kn := kn) (w := w) hX (by first | omega | (simp [up2, *]; done) | (simp [up2, *]; omega) | (simp only [up2_eq]; omega)) (by first | omega | (simp [up2, *]; done) | (simp [up2, *]; omega) | (simp only [up2_eq]; omega))) pk_X2_needWhere qm_X2_39 0 6 rfl rfl wc_0 rfl rfl (Nat.le_of_ble_eq_true rfl) dX2_splice_2 ⟨Nat.le_of_ble_eq_true rfl, Nat.le_of_ble_eq_true rfl⟩ ⟨Nat.le_of_ble_eq_true rfl, Nat.le_of_ble_eq_true rfl⟩ ?_
  refine r_aload_n C dX2_splice_5 rfl ?_
  refine r_iload C dX2_splice_6 rfl ?_
  refine c_V (st := []) hX.stb C hE (C_needWhere_no (f := f) (r := r) (kn := kn) (x := (x)) hX hl hno hC.h5) pk_X2_needWhere qm_X2_39 0 6 rfl rfl wc_0 rfl rfl (Nat.le_of_ble_eq_true rfl) dX2_splice_8 ⟨Nat.le_of_ble_eq_true rfl, Nat.le_of_ble_eq_true rfl⟩ ⟨Nat.le_of_ble_eq_true rfl, Nat.le_of_ble_eq_true rfl⟩ (fun _ _ h9 => h9.elim) (fun E9 h9 => ?_)
  subst h9
  exact r_out C hnt rfl rfl (Nat.le_of_ble_eq_true rfl) (Nat.le_of_ble_eq_true rfl)
theorem pk_X1_isStretch : PkV RX1 yX1_isStretch cX1_isStretch 3 (some .boolean) 2 := ⟨⟨qi_X1_isStretch, qs_X1_isStretch, qz_X1, qc_X1_isStretch⟩, rfl, mh_X1.1, mh_X1.2, pd_5⟩
theorem dX2_splice_11 : decode cX2_splice 11 = .ok (.aload_n 0, 1) := dqo_42 (kb_X2_splice_0 11 rfl)
theorem dX2_splice_12 : decode cX2_splice 12 = .ok (.getfield 11, 3) := dqo_180 0 11 (kb_X2_splice_0 12 rfl) (kb_X2_splice_0 13 rfl) (kb_X2_splice_0 14 rfl)
theorem dX2_splice_15 : decode cX2_splice 15 = .ok (.iload_n 1, 1) := dqo_27 (kb_X2_splice_0 15 rfl)
theorem dX2_splice_16 : decode cX2_splice 16 = .ok (.aaload, 1) := dqo_50 (kb_X2_splice_0 16 rfl)
theorem dX2_splice_17 : decode cX2_splice 17 = .ok (.iload_n 2, 1) := dqo_28 (kb_X2_splice_0 17 rfl)
theorem dX2_splice_18 : decode cX2_splice 18 = .ok (.iload_n 3, 1) := dqo_29 (kb_X2_splice_0 18 rfl)
theorem dX2_splice_19 : decode cX2_splice 19 = .ok (.invokevirtual 75, 3) := dqo_182 0 75 (kb_X2_splice_0 19 rfl) (kb_X2_splice_0 20 rfl) (kb_X2_splice_0 21 rfl)
theorem dX2_splice_22 : decode cX2_splice 22 = .ok (.ifCond .ne 6, 3) := dqo_154 0 6 (by decide) (kb_X2_splice_0 22 rfl) (kb_X2_splice_0 23 rfl) (kb_X2_splice_0 24 rfl)
theorem dX2_splice_25 : decode cX2_splice 25 = .ok (.bipush (-9), 2) := dqo_16 247 (by decide) (kb_X2_splice_0 25 rfl) (kb_X2_splice_0 26 rfl)
theorem dX2_splice_27 : decode cX2_splice 27 = .ok (.ireturn, 1) := dqo_172 (kb_X2_splice_0 27 rfl)
set_option maxRecDepth 100000 in
set_option maxHeartbeats 4000000 in
theorem C_splice_ref {l : Launch} {D : va_G} {cy : Nat → ClassId} {X : (Nat → Prop) → State → Heap → Prop} {a f : Nat → Nat → Nat} {r : Nat → Nat → Int32} {kn : Int32} {Y : va_W} {w : Nat} {y0 : Int32} {y : Int32} {v : Nat} (hX : EnvX X) (hC : CInv f) (hw : w < 8) (h5w : f 5 w = 1) (hv : v < 8) (h5v : f 5 v = 1) (hno : ¬ (0 ≤ y0 ∧ y0 ≤ y ∧ y ≤ nI (f 4 w))) : Cd l D cy X yX2_splice cX2_splice 7 (some .int) (rmz 6 240) [.ref (a 0 0), .int (nI w), .int y0, .int y, .int (nI v)] (WC cy a f r kn ++ Y) (some (.int (nI 4294967287))) (WC cy a f r kn ++ Y) := by
  have q3 := hC.sp
  have q1_w := hC.al hw
  have q2_w := hC.th hw h5w
  have q4_w := hC.rw (i := f 1 w) q1_w.2.1
  have q1_v := hC.al hv
  have q2_v := hC.th hv h5v
  have q4_v := hC.rw (i := f 1 v) q1_v.2.1
  refine Cm.of [some (.ref (a 0 0)), some (.int (nI w)), some (.int y0), some (.int y), some (.int (nI v)), none, none] pn_X2 rfl (Nat.le_of_ble_eq_true rfl) ?_
  intro p e s m args below meth c A C hE hr hnt hn
  refine r_aload_n C dX2_splice_0 rfl ?_
  refine r_iload_n C dX2_splice_1 rfl ?_
  refine d_Vv (st := []) hX.stb C hE (C_needWhere_ok (f := f) (r := r) (kn := kn) (w := w) hX (by first | omega | (simp [up2, *]; done) | (simp [up2, *]; omega) | (simp only [up2_eq]; omega)) (by first | omega | (simp [up2, *]; done) | (simp [up2, *]; omega) | (simp only [up2_eq]; omega))) pk_X2_needWhere qm_X2_39 0 6 rfl rfl wc_0 rfl rfl (Nat.le_of_ble_eq_true rfl) dX2_splice_2 ⟨Nat.le_of_ble_eq_true rfl, Nat.le_of_ble_eq_true rfl⟩ ⟨Nat.le_of_ble_eq_true rfl, Nat.le_of_ble_eq_true rfl⟩ ?_
  refine r_aload_n C dX2_splice_5 rfl ?_
  refine r_iload C dX2_splice_6 rfl ?_
  refine d_Vv (st := []) hX.stb C hE (C_needWhere_ok (f := f) (r := r) (kn := kn) (w := v) hX (by first | omega | (simp [up2, *]; done) | (simp [up2, *]; omega) | (simp only [up2_eq]; omega)) (by first | omega | (simp [up2, *]; done) | (simp [up2, *]; omega) | (simp only [up2_eq]; omega))) pk_X2_needWhere qm_X2_39 0 6 rfl rfl wc_0 rfl rfl (Nat.le_of_ble_eq_true rfl) dX2_splice_8 ⟨Nat.le_of_ble_eq_true rfl, Nat.le_of_ble_eq_true rfl⟩ ⟨Nat.le_of_ble_eq_true rfl, Nat.le_of_ble_eq_true rfl⟩ ?_
  refine r_aload_n C dX2_splice_11 rfl ?_
  refine s_get C 0 (by decide) qf_X2_11 rfl rfl dX2_splice_12 ?_
  refine r_iload_n C dX2_splice_15 rfl ?_
  refine s_parts C (by first | omega | (simp [up2, *]; done) | (simp [up2, *]; omega) | (simp only [up2_eq]; omega)) dX2_splice_16 ?_
  refine r_iload_n C dX2_splice_17 rfl ?_
  refine r_iload_n C dX2_splice_18 rfl ?_
  refine d_V (st := []) hX.stb C hE (C_isStretch0 (f := f) (r := r) (kn := kn) (i := w) (x := (y0)) (y := (y)) hX (by first | omega | (simp [up2, *]; done) | (simp [up2, *]; omega) | (simp only [up2_eq]; omega)) hno) pk_X1_isStretch qm_X2_75 (3 + w) 5 rfl rfl (wc_p (by first | omega | (simp [up2, *]; done) | (simp [up2, *]; omega) | (simp only [up2_eq]; omega))) rfl rfl (Nat.le_of_ble_eq_true rfl) dX2_splice_19 ⟨Nat.le_of_ble_eq_true rfl, Nat.le_of_ble_eq_true rfl⟩ ⟨Nat.le_of_ble_eq_true rfl, Nat.le_of_ble_eq_true rfl⟩ ?_
  refine r_ifN_ne (a := 0) (tgt := 28) C (by first | omega | (simp [up2, *]; done) | (simp [up2, *]; omega) | (simp only [up2_eq]; omega)) dX2_splice_22 (by decide) (fun h22_1 => ?_) (fun h22_1 => ?_)
  · exact absurd h22_1 (by first | omega | (simp [up2, *]; done) | (simp [up2, *]; omega) | (simp only [up2_eq]; omega))
  · skip
    refine r_bipush (v := (nI 4294967287)) C dX2_splice_25 (by decide) ?_
    exact r_iret C hr dX2_splice_27 ⟨rfl, rfl⟩ (Nat.le_of_ble_eq_true rfl) (Nat.le_of_ble_eq_true rfl)
theorem dX2_splice_28 : decode cX2_splice 28 = .ok (.iload_n 3, 1) := dqo_29 (kb_X2_splice_0 28 rfl)
theorem dX2_splice_29 : decode cX2_splice 29 = .ok (.iload_n 2, 1) := dqo_28 (kb_X2_splice_0 29 rfl)
theorem dX2_splice_30 : decode cX2_splice 30 = .ok (.isub, 1) := dqo_100 (kb_X2_splice_0 30 rfl)
theorem dX2_splice_31 : decode cX2_splice 31 = .ok (.istore 5, 2) := dqo_54 5 (kb_X2_splice_0 31 rfl) (kb_X2_splice_0 32 rfl)
theorem dX2_splice_33 : decode cX2_splice 33 = .ok (.aload_n 0, 1) := dqo_42 (kb_X2_splice_0 33 rfl)
theorem dX2_splice_34 : decode cX2_splice 34 = .ok (.getfield 11, 3) := dqo_180 0 11 (kb_X2_splice_0 34 rfl) (kb_X2_splice_0 35 rfl) (kb_X2_splice_0 36 rfl)
theorem dX2_splice_37 : decode cX2_splice 37 = .ok (.iload 4, 2) := dqo_21 4 (kb_X2_splice_0 37 rfl) (kb_X2_splice_0 38 rfl)
theorem dX2_splice_39 : decode cX2_splice 39 = .ok (.aaload, 1) := dqo_50 (kb_X2_splice_0 39 rfl)
theorem dX2_splice_40 : decode cX2_splice 40 = .ok (.getfield 50, 3) := dqo_180 0 50 (kb_X2_splice_0 40 rfl) (kb_X2_splice_0 41 rfl) (kb_X2_splice_0 42 rfl)
theorem dX2_splice_43 : decode cX2_splice 43 = .ok (.istore 6, 2) := dqo_54 6 (kb_X2_splice_0 43 rfl) (kb_X2_splice_0 44 rfl)
theorem dX2_splice_45 : decode cX2_splice 45 = .ok (.aload_n 0, 1) := dqo_42 (kb_X2_splice_0 45 rfl)
theorem dX2_splice_46 : decode cX2_splice 46 = .ok (.iload_n 1, 1) := dqo_27 (kb_X2_splice_0 46 rfl)
theorem dX2_splice_47 : decode cX2_splice 47 = .ok (.iload 6, 2) := dqo_21 6 (kb_X2_splice_0 47 rfl) (kb_X2_splice_0 48 rfl)
theorem dX2_splice_49 : decode cX2_splice 49 = .ok (.iload 5, 2) := dqo_21 5 (kb_X2_splice_0 49 rfl) (kb_X2_splice_0 50 rfl)
theorem dX2_splice_51 : decode cX2_splice 51 = .ok (.isub, 1) := dqo_100 (kb_X2_splice_0 51 rfl)
theorem dX2_splice_52 : decode cX2_splice 52 = .ok (.invokevirtual 46, 3) := dqo_182 0 46 (kb_X2_splice_0 52 rfl) (kb_X2_splice_0 53 rfl) (kb_X2_splice_0 54 rfl)
set_option maxRecDepth 100000 in
set_option maxHeartbeats 4000000 in
theorem C_splice_full {l : Launch} {D : va_G} {cy : Nat → ClassId} {X : (Nat → Prop) → State → Heap → Prop} {a f : Nat → Nat → Nat} {r : Nat → Nat → Int32} {kn : Int32} {Y : va_W} {w : Nat} {p0 : Nat} {q0 : Nat} {v : Nat} (hX : EnvX X) (hl : l.stackTraces = false) (hC : CInv f) (hw : w < 8) (h5w : f 5 w = 1) (hv : v < 8) (h5v : f 5 v = 1) (hp : p0 ≤ q0) (hq : q0 ≤ f 4 w) (hfull : 12 < f 4 (f 1 w) + f 4 v - (q0 - p0)) : Ce l D cy X yX2_splice cX2_splice 7 (some .int) (rmk 8 1 6 170) [.ref (a 0 0), .int (nI w), .int (nI p0), .int (nI q0), .int (nI v)] (WC cy a f r kn ++ Y) "java/lang/IllegalStateException" := by
  have q3 := hC.sp
  have q1_w := hC.al hw
  have q2_w := hC.th hw h5w
  have q4_w := hC.rw (i := f 1 w) q1_w.2.1
  have q1_v := hC.al hv
  have q2_v := hC.th hv h5v
  have q4_v := hC.rw (i := f 1 v) q1_v.2.1
  refine Cm.of [some (.ref (a 0 0)), some (.int (nI w)), some (.int (nI p0)), some (.int (nI q0)), some (.int (nI v)), none, none] pn_X2 rfl (Nat.le_of_ble_eq_true rfl) ?_
  intro p e s m args below meth c A C hE hr hnt hn
  refine r_aload_n C dX2_splice_0 rfl ?_
  refine r_iload_n C dX2_splice_1 rfl ?_
  refine d_Vv (st := []) hX.stb C hE (C_needWhere_ok (f := f) (r := r) (kn := kn) (w := w) hX (by first | omega | (simp [up2, *]; done) | (simp [up2, *]; omega) | (simp only [up2_eq]; omega)) (by first | omega | (simp [up2, *]; done) | (simp [up2, *]; omega) | (simp only [up2_eq]; omega))) pk_X2_needWhere qm_X2_39 0 6 rfl rfl wc_0 rfl rfl (Nat.le_of_ble_eq_true rfl) dX2_splice_2 ⟨Nat.le_of_ble_eq_true rfl, Nat.le_of_ble_eq_true rfl⟩ ⟨Nat.le_of_ble_eq_true rfl, Nat.le_of_ble_eq_true rfl⟩ ?_
  refine r_aload_n C dX2_splice_5 rfl ?_
  refine r_iload C dX2_splice_6 rfl ?_
  refine d_Vv (st := []) hX.stb C hE (C_needWhere_ok (f := f) (r := r) (kn := kn) (w := v) hX (by first | omega | (simp [up2, *]; done) | (simp [up2, *]; omega) | (simp only [up2_eq]; omega)) (by first | omega | (simp [up2, *]; done) | (simp [up2, *]; omega) | (simp only [up2_eq]; omega))) pk_X2_needWhere qm_X2_39 0 6 rfl rfl wc_0 rfl rfl (Nat.le_of_ble_eq_true rfl) dX2_splice_8 ⟨Nat.le_of_ble_eq_true rfl, Nat.le_of_ble_eq_true rfl⟩ ⟨Nat.le_of_ble_eq_true rfl, Nat.le_of_ble_eq_true rfl⟩ ?_
  refine r_aload_n C dX2_splice_11 rfl ?_
  refine s_get C 0 (by decide) qf_X2_11 rfl rfl dX2_splice_12 ?_
  refine r_iload_n C dX2_splice_15 rfl ?_
  refine s_parts C (by first | omega | (simp [up2, *]; done) | (simp [up2, *]; omega) | (simp only [up2_eq]; omega)) dX2_splice_16 ?_
  refine r_iload_n C dX2_splice_17 rfl ?_
  refine r_iload_n C dX2_splice_18 rfl ?_
  refine d_V (st := []) hX.stb C hE (C_isStretch1 (f := f) (r := r) (kn := kn) (i := w) (p0 := p0) (q0 := q0) hX (by first | omega | (simp [up2, *]; done) | (simp [up2, *]; omega) | (simp only [up2_eq]; omega)) (by first | omega | (simp [up2, *]; done) | (simp [up2, *]; omega) | (simp only [up2_eq]; omega)) (by first | omega | (simp [up2, *]; done) | (simp [up2, *]; omega) | (simp only [up2_eq]; omega)) (by first | omega | (simp [up2, *]; done) | (simp [up2, *]; omega) | (simp only [up2_eq]; omega))) pk_X1_isStretch qm_X2_75 (3 + w) 5 rfl rfl (wc_p (by first | omega | (simp [up2, *]; done) | (simp [up2, *]; omega) | (simp only [up2_eq]; omega))) rfl rfl (Nat.le_of_ble_eq_true rfl) dX2_splice_19 ⟨Nat.le_of_ble_eq_true rfl, Nat.le_of_ble_eq_true rfl⟩ ⟨Nat.le_of_ble_eq_true rfl, Nat.le_of_ble_eq_true rfl⟩ ?_
  refine r_ifN_ne (a := 1) (tgt := 28) C (by first | omega | (simp [up2, *]; done) | (simp [up2, *]; omega) | (simp only [up2_eq]; omega)) dX2_splice_22 (by decide) (fun h22_1 => ?_) (fun h22_1 => ?_)
  · skip
    refine r_iload_n C dX2_splice_28 rfl ?_
    refine r_iload_n C dX2_splice_29 rfl ?_
    refine r_isubN C dX2_splice_30 (by first | omega | (simp [up2, *]; done) | (simp [up2, *]; omega) | (simp only [up2_eq]; omega)) ?_
    refine r_istore C dX2_splice_31 (by decide) rfl ?_
    refine r_aload_n C dX2_splice_33 rfl ?_
    refine s_get C 0 (by decide) qf_X2_11 rfl rfl dX2_splice_34 ?_
    refine r_iload C dX2_splice_37 rfl ?_
    refine s_parts C (by first | omega | (simp [up2, *]; done) | (simp [up2, *]; omega) | (simp only [up2_eq]; omega)) dX2_splice_39 ?_
    refine p_getN (v := .int (nI (f 4 v))) hX C hE 4 (by first | omega | (simp [up2, *]; done) | (simp [up2, *]; omega) | (simp only [up2_eq]; omega)) (by decide) qn_X2_50 rfl rfl dX2_splice_40 ?_
    refine r_istore C dX2_splice_43 (by decide) rfl ?_
    refine r_aload_n C dX2_splice_45 rfl ?_
    refine r_iload_n C dX2_splice_46 rfl ?_
    refine r_iload C dX2_splice_47 rfl ?_
    refine r_iload C dX2_splice_49 rfl ?_
    refine r_isub C dX2_splice_51 ?_
    refine c_V (st := []) hX.stb C hE (C_needRoom_no (f := f) (r := r) (kn := kn) (w := w) (x := (((nI (f 4 v)) - (nI (q0 - p0))))) (q0 := (f 4 (f 1 w) + f 4 v - (q0 - p0))) hX hl (by first | omega | (simp [up2, *]; done) | (simp [up2, *]; omega) | (simp only [up2_eq]; omega)) (by omega) (nI_adj (by omega)) (by first | omega | (simp [up2, *]; done) | (simp [up2, *]; omega) | (simp only [up2_eq]; omega)) (by first | omega | (simp [up2, *]; done) | (simp [up2, *]; omega) | (simp only [up2_eq]; omega))) pk_X2_needRoom qm_X2_46 0 6 rfl rfl wc_0 rfl rfl (Nat.le_of_ble_eq_true rfl) dX2_splice_52 ⟨Nat.le_of_ble_eq_true rfl, Nat.le_of_ble_eq_true rfl⟩ ⟨Nat.le_of_ble_eq_true rfl, Nat.le_of_ble_eq_true rfl⟩ (fun _ _ h9 => h9.elim) (fun E9 h9 => ?_)
    subst h9
    exact r_out C hnt rfl rfl (Nat.le_of_ble_eq_true rfl) (Nat.le_of_ble_eq_true rfl)
  · exact absurd h22_1 (by first | omega | (simp [up2, *]; done) | (simp [up2, *]; omega) | (simp only [up2_eq]; omega))
theorem dX2_splice_55 : decode cX2_splice 55 = .ok (.iload 5, 2) := dqo_21 5 (kb_X2_splice_0 55 rfl) (kb_X2_splice_0 56 rfl)
theorem dX2_splice_57 : decode cX2_splice 57 = .ok (.ifCond .gt 8, 3) := dqo_157 0 8 (by decide) (kb_X2_splice_0 57 rfl) (kb_X2_splice_0 58 rfl) (kb_X2_splice_0 59 rfl)
theorem dX2_splice_60 : decode cX2_splice 60 = .ok (.iload 6, 2) := dqo_21 6 (kb_X2_splice_0 60 rfl) (kb_X2_splice_0 61 rfl)
theorem dX2_splice_62 : decode cX2_splice 62 = .ok (.ifCond .le 30, 3) := dqo_158 0 30 (by decide) (kb_X2_splice_0 62 rfl) (kb_X2_splice_0 63 rfl) (kb_X2_splice_1 0 rfl)
theorem dX2_splice_92 : decode cX2_splice 92 = .ok (.aload_n 0, 1) := dqo_42 (kb_X2_splice_1 28 rfl)
theorem dX2_splice_93 : decode cX2_splice 93 = .ok (.getfield 11, 3) := dqo_180 0 11 (kb_X2_splice_1 29 rfl) (kb_X2_splice_1 30 rfl) (kb_X2_splice_1 31 rfl)
theorem dX2_splice_96 : decode cX2_splice 96 = .ok (.iload_n 1, 1) := dqo_27 (kb_X2_splice_1 32 rfl)
theorem dX2_splice_97 : decode cX2_splice 97 = .ok (.aaload, 1) := dqo_50 (kb_X2_splice_1 33 rfl)
theorem dX2_splice_98 : decode cX2_splice 98 = .ok (.getfield 50, 3) := dqo_180 0 50 (kb_X2_splice_1 34 rfl) (kb_X2_splice_1 35 rfl) (kb_X2_splice_1 36 rfl)
theorem dX2_splice_101 : decode cX2_splice 101 = .ok (.ireturn, 1) := dqo_172 (kb_X2_splice_1 37 rfl)
set_option maxRecDepth 100000 in
set_option maxHeartbeats 4000000 in
theorem C_splice_0 {l : Launch} {D : va_G} {cy : Nat → ClassId} {X : (Nat → Prop) → State → Heap → Prop} {a f : Nat → Nat → Nat} {r : Nat → Nat → Int32} {kn : Int32} {Y : va_W} {w : Nat} {p0 : Nat} {q0 : Nat} {v : Nat} (hX : EnvX X) (hC : CInv f) (hw : w < 8) (h5w : f 5 w = 1) (hv : v < 8) (h5v : f 5 v = 1) (hp : p0 ≤ q0) (hq : q0 ≤ f 4 w) (hz : q0 = p0 ∧ f 4 v = 0) : Cd l D cy X yX2_splice cX2_splice 7 (some .int) (rmz 6 240) [.ref (a 0 0), .int (nI w), .int (nI p0), .int (nI q0), .int (nI v)] (WC cy a f r kn ++ Y) (some (.int (nI (f 4 w)))) (WC cy a f r kn ++ Y) := by
  have q3 := hC.sp
  have q1_w := hC.al hw
  have q2_w := hC.th hw h5w
  have q4_w := hC.rw (i := f 1 w) q1_w.2.1
  have q1_v := hC.al hv
  have q2_v := hC.th hv h5v
  have q4_v := hC.rw (i := f 1 v) q1_v.2.1
  refine Cm.of [some (.ref (a 0 0)), some (.int (nI w)), some (.int (nI p0)), some (.int (nI q0)), some (.int (nI v)), none, none] pn_X2 rfl (Nat.le_of_ble_eq_true rfl) ?_
  intro p e s m args below meth c A C hE hr hnt hn
  refine r_aload_n C dX2_splice_0 rfl ?_
  refine r_iload_n C dX2_splice_1 rfl ?_
  refine d_Vv (st := []) hX.stb C hE (C_needWhere_ok (f := f) (r := r) (kn := kn) (w := w) hX (by first | omega | (simp [up2, *]; done) | (simp [up2, *]; omega) | (simp only [up2_eq]; omega)) (by first | omega | (simp [up2, *]; done) | (simp [up2, *]; omega) | (simp only [up2_eq]; omega))) pk_X2_needWhere qm_X2_39 0 6 rfl rfl wc_0 rfl rfl (Nat.le_of_ble_eq_true rfl) dX2_splice_2 ⟨Nat.le_of_ble_eq_true rfl, Nat.le_of_ble_eq_true rfl⟩ ⟨Nat.le_of_ble_eq_true rfl, Nat.le_of_ble_eq_true rfl⟩ ?_
  refine r_aload_n C dX2_splice_5 rfl ?_
  refine r_iload C dX2_splice_6 rfl ?_
  refine d_Vv (st := []) hX.stb C hE (C_needWhere_ok (f := f) (r := r) (kn := kn) (w := v) hX (by first | omega | (simp [up2, *]; done) | (simp [up2, *]; omega) | (simp only [up2_eq]; omega)) (by first | omega | (simp [up2, *]; done) | (simp [up2, *]; omega) | (simp only [up2_eq]; omega))) pk_X2_needWhere qm_X2_39 0 6 rfl rfl wc_0 rfl rfl (Nat.le_of_ble_eq_true rfl) dX2_splice_8 ⟨Nat.le_of_ble_eq_true rfl, Nat.le_of_ble_eq_true rfl⟩ ⟨Nat.le_of_ble_eq_true rfl, Nat.le_of_ble_eq_true rfl⟩ ?_
  refine r_aload_n C dX2_splice_11 rfl ?_
  refine s_get C 0 (by decide) qf_X2_11 rfl rfl dX2_splice_12 ?_
  refine r_iload_n C dX2_splice_15 rfl ?_
  refine s_parts C (by first | omega | (simp [up2, *]; done) | (simp [up2, *]; omega) | (simp only [up2_eq]; omega)) dX2_splice_16 ?_
  refine r_iload_n C dX2_splice_17 rfl ?_
  refine r_iload_n C dX2_splice_18 rfl ?_
  refine d_V (st := []) hX.stb C hE (C_isStretch1 (f := f) (r := r) (kn := kn) (i := w) (p0 := p0) (q0 := q0) hX (by first | omega | (simp [up2, *]; done) | (simp [up2, *]; omega) | (simp only [up2_eq]; omega)) (by first | omega | (simp [up2, *]; done) | (simp [up2, *]; omega) | (simp only [up2_eq]; omega)) (by first | omega | (simp [up2, *]; done) | (simp [up2, *]; omega) | (simp only [up2_eq]; omega)) (by first | omega | (simp [up2, *]; done) | (simp [up2, *]; omega) | (simp only [up2_eq]; omega))) pk_X1_isStretch qm_X2_75 (3 + w) 5 rfl rfl (wc_p (by first | omega | (simp [up2, *]; done) | (simp [up2, *]; omega) | (simp only [up2_eq]; omega))) rfl rfl (Nat.le_of_ble_eq_true rfl) dX2_splice_19 ⟨Nat.le_of_ble_eq_true rfl, Nat.le_of_ble_eq_true rfl⟩ ⟨Nat.le_of_ble_eq_true rfl, Nat.le_of_ble_eq_true rfl⟩ ?_
  refine r_ifN_ne (a := 1) (tgt := 28) C (by first | omega | (simp [up2, *]; done) | (simp [up2, *]; omega) | (simp only [up2_eq]; omega)) dX2_splice_22 (by decide) (fun h22_1 => ?_) (fun h22_1 => ?_)
  · skip
    refine r_iload_n C dX2_splice_28 rfl ?_
    refine r_iload_n C dX2_splice_29 rfl ?_
    refine r_isubN C dX2_splice_30 (by first | omega | (simp [up2, *]; done) | (simp [up2, *]; omega) | (simp only [up2_eq]; omega)) ?_
    refine r_istore C dX2_splice_31 (by decide) rfl ?_
    refine r_aload_n C dX2_splice_33 rfl ?_
    refine s_get C 0 (by decide) qf_X2_11 rfl rfl dX2_splice_34 ?_
    refine r_iload C dX2_splice_37 rfl ?_
    refine s_parts C (by first | omega | (simp [up2, *]; done) | (simp [up2, *]; omega) | (simp only [up2_eq]; omega)) dX2_splice_39 ?_
    refine p_getN (v := .int (nI (f 4 v))) hX C hE 4 (by first | omega | (simp [up2, *]; done) | (simp [up2, *]; omega) | (simp only [up2_eq]; omega)) (by decide) qn_X2_50 rfl rfl dX2_splice_40 ?_
    refine r_istore C dX2_splice_43 (by decide) rfl ?_
    refine r_aload_n C dX2_splice_45 rfl ?_
    refine r_iload_n C dX2_splice_46 rfl ?_
    refine r_iload C dX2_splice_47 rfl ?_
    refine r_iload C dX2_splice_49 rfl ?_
    refine r_isub C dX2_splice_51 ?_
    refine d_Vv (st := []) hX.stb C hE (C_needRoom_ok (f := f) (r := r) (kn := kn) (w := w) (x := (((nI (f 4 v)) - (nI (q0 - p0))))) (q0 := (f 4 (f 1 w) + f 4 v - (q0 - p0))) hX (by first | omega | (simp [up2, *]; done) | (simp [up2, *]; omega) | (simp only [up2_eq]; omega)) (by omega) (nI_adj (by omega)) (by first | omega | (simp [up2, *]; done) | (simp [up2, *]; omega) | (simp only [up2_eq]; omega))) pk_X2_needRoom qm_X2_46 0 6 rfl rfl wc_0 rfl rfl (Nat.le_of_ble_eq_true rfl) dX2_splice_52 ⟨Nat.le_of_ble_eq_true rfl, Nat.le_of_ble_eq_true rfl⟩ ⟨Nat.le_of_ble_eq_true rfl, Nat.le_of_ble_eq_true rfl⟩ ?_
    refine r_iload C dX2_splice_55 rfl ?_
    refine r_ifN_gt (a := (q0 - p0)) (tgt := 65) C (by first | omega | (simp [up2, *]; done) | (simp [up2, *]; omega) | (simp only [up2_eq]; omega)) dX2_splice_57 (by decide) (fun h57_2 => ?_) (fun h57_2 => ?_)
    · exact absurd h57_2 (by first | omega | (simp [up2, *]; done) | (simp [up2, *]; omega) | (simp only [up2_eq]; omega))
    · skip
      refine r_iload C dX2_splice_60 rfl ?_
      refine r_ifN_le (a := (f 4 v)) (tgt := 92) C (by first | omega | (simp [up2, *]; done) | (simp [up2, *]; omega) | (simp only [up2_eq]; omega)) dX2_splice_62 (by decide) (fun h62_3 => ?_) (fun h62_3 => ?_)
      · skip
        refine r_aload_n C dX2_splice_92 rfl ?_
        refine s_get C 0 (by decide) qf_X2_11 rfl rfl dX2_splice_93 ?_
        refine r_iload_n C dX2_splice_96 rfl ?_
        refine s_parts C (by first | omega | (simp [up2, *]; done) | (simp [up2, *]; omega) | (simp only [up2_eq]; omega)) dX2_splice_97 ?_
        refine p_getN (v := .int (nI (f 4 w))) hX C hE 4 (by first | omega | (simp [up2, *]; done) | (simp [up2, *]; omega) | (simp only [up2_eq]; omega)) (by decide) qn_X2_50 rfl rfl dX2_splice_98 ?_
        exact r_iret C hr dX2_splice_101 ⟨rfl, rfl⟩ (Nat.le_of_ble_eq_true rfl) (Nat.le_of_ble_eq_true rfl)
      · exact absurd h62_3 (by first | omega | (simp [up2, *]; done) | (simp [up2, *]; omega) | (simp only [up2_eq]; omega))
  · exact absurd h22_1 (by first | omega | (simp [up2, *]; done) | (simp [up2, *]; omega) | (simp only [up2_eq]; omega))
theorem dX2_splice_65 : decode cX2_splice 65 = .ok (.aload_n 0, 1) := dqo_42 (kb_X2_splice_1 1 rfl)
theorem dX2_splice_66 : decode cX2_splice 66 = .ok (.getfield 29, 3) := dqo_180 0 29 (kb_X2_splice_1 2 rfl) (kb_X2_splice_1 3 rfl) (kb_X2_splice_1 4 rfl)
theorem dX2_splice_69 : decode cX2_splice 69 = .ok (.aload_n 0, 1) := dqo_42 (kb_X2_splice_1 5 rfl)
theorem dX2_splice_70 : decode cX2_splice 70 = .ok (.getfield 11, 3) := dqo_180 0 11 (kb_X2_splice_1 6 rfl) (kb_X2_splice_1 7 rfl) (kb_X2_splice_1 8 rfl)
theorem dX2_splice_73 : decode cX2_splice 73 = .ok (.iload 4, 2) := dqo_21 4 (kb_X2_splice_1 9 rfl) (kb_X2_splice_1 10 rfl)
theorem dX2_splice_75 : decode cX2_splice 75 = .ok (.aaload, 1) := dqo_50 (kb_X2_splice_1 11 rfl)
theorem dX2_splice_76 : decode cX2_splice 76 = .ok (.invokevirtual 79, 3) := dqo_182 0 79 (kb_X2_splice_1 12 rfl) (kb_X2_splice_1 13 rfl) (kb_X2_splice_1 14 rfl)
theorem dX2_splice_79 : decode cX2_splice 79 = .ok (.aload_n 0, 1) := dqo_42 (kb_X2_splice_1 15 rfl)
theorem dX2_splice_80 : decode cX2_splice 80 = .ok (.iload_n 1, 1) := dqo_27 (kb_X2_splice_1 16 rfl)
theorem dX2_splice_81 : decode cX2_splice 81 = .ok (.iload_n 2, 1) := dqo_28 (kb_X2_splice_1 17 rfl)
theorem dX2_splice_82 : decode cX2_splice 82 = .ok (.iload_n 3, 1) := dqo_29 (kb_X2_splice_1 18 rfl)
theorem dX2_splice_83 : decode cX2_splice 83 = .ok (.invokevirtual 83, 3) := dqo_182 0 83 (kb_X2_splice_1 19 rfl) (kb_X2_splice_1 20 rfl) (kb_X2_splice_1 21 rfl)
theorem dX2_splice_86 : decode cX2_splice 86 = .ok (.aload_n 0, 1) := dqo_42 (kb_X2_splice_1 22 rfl)
theorem dX2_splice_87 : decode cX2_splice 87 = .ok (.iload_n 1, 1) := dqo_27 (kb_X2_splice_1 23 rfl)
theorem dX2_splice_88 : decode cX2_splice 88 = .ok (.iconst (-1), 1) := dqo_2 (kb_X2_splice_1 24 rfl)
theorem dX2_splice_89 : decode cX2_splice 89 = .ok (.invokevirtual 87, 3) := dqo_182 0 87 (kb_X2_splice_1 25 rfl) (kb_X2_splice_1 26 rfl) (kb_X2_splice_1 27 rfl)
set_option maxRecDepth 100000 in
set_option maxHeartbeats 4000000 in
theorem C_splice_ok {l : Launch} {D : va_G} {cy : Nat → ClassId} {X : (Nat → Prop) → State → Heap → Prop} {a f : Nat → Nat → Nat} {r : Nat → Nat → Int32} {kn : Int32} {Y : va_W} {w : Nat} {p0 : Nat} {q0 : Nat} {v : Nat} (hX : EnvX X) (hC : CInv f) (hw : w < 8) (h5w : f 5 w = 1) (hv : v < 8) (h5v : f 5 v = 1) (hp : p0 ≤ q0) (hq : q0 ≤ f 4 w) (hfit : f 4 (f 1 w) + f 4 v - (q0 - p0) ≤ 12) (hz : p0 < q0 ∨ 0 < f 4 v) : Cd l D cy X yX2_splice cX2_splice 7 (some .int) (rmz 6 240) [.ref (a 0 0), .int (nI w), .int (nI p0), .int (nI q0), .int (nI v)] (WC cy a f r kn ++ Y) (some (.int (nI ((exL (up2 f 4 8 (f 4 v)) w ((up2 f 4 8 (f 4 v)) 4 8) (q0 - p0) 8) 4 w)))) (WC cy a (settleF (exL (up2 f 4 8 (f 4 v)) w ((up2 f 4 8 (f 4 v)) 4 8) (q0 - p0) 8) w 4294967295) (exR (up2 f 4 8 (f 4 v)) (cpy2 r (f 0 v) (f 3 v) (f 0 8) (f 3 8) (f 4 v)) w p0 q0 ((up2 f 4 8 (f 4 v)) 4 8)) kn ++ Y) := by
  have q3 := hC.sp
  have q1_w := hC.al hw
  have q2_w := hC.th hw h5w
  have q4_w := hC.rw (i := f 1 w) q1_w.2.1
  have q1_v := hC.al hv
  have q2_v := hC.th hv h5v
  have q4_v := hC.rw (i := f 1 v) q1_v.2.1
  refine Cm.of [some (.ref (a 0 0)), some (.int (nI w)), some (.int (nI p0)), some (.int (nI q0)), some (.int (nI v)), none, none] pn_X2 rfl (Nat.le_of_ble_eq_true rfl) ?_
  intro p e s m args below meth c A C hE hr hnt hn
  refine r_aload_n C dX2_splice_0 rfl ?_
  refine r_iload_n C dX2_splice_1 rfl ?_
  refine d_Vv (st := []) hX.stb C hE (C_needWhere_ok (f := f) (r := r) (kn := kn) (w := w) hX (by first | omega | (simp [up2, *]; done) | (simp [up2, *]; omega) | (simp only [up2_eq]; omega)) (by first | omega | (simp [up2, *]; done) | (simp [up2, *]; omega) | (simp only [up2_eq]; omega))) pk_X2_needWhere qm_X2_39 0 6 rfl rfl wc_0 rfl rfl (Nat.le_of_ble_eq_true rfl) dX2_splice_2 ⟨Nat.le_of_ble_eq_true rfl, Nat.le_of_ble_eq_true rfl⟩ ⟨Nat.le_of_ble_eq_true rfl, Nat.le_of_ble_eq_true rfl⟩ ?_
  refine r_aload_n C dX2_splice_5 rfl ?_
  refine r_iload C dX2_splice_6 rfl ?_
  refine d_Vv (st := []) hX.stb C hE (C_needWhere_ok (f := f) (r := r) (kn := kn) (w := v) hX (by first | omega | (simp [up2, *]; done) | (simp [up2, *]; omega) | (simp only [up2_eq]; omega)) (by first | omega | (simp [up2, *]; done) | (simp [up2, *]; omega) | (simp only [up2_eq]; omega))) pk_X2_needWhere qm_X2_39 0 6 rfl rfl wc_0 rfl rfl (Nat.le_of_ble_eq_true rfl) dX2_splice_8 ⟨Nat.le_of_ble_eq_true rfl, Nat.le_of_ble_eq_true rfl⟩ ⟨Nat.le_of_ble_eq_true rfl, Nat.le_of_ble_eq_true rfl⟩ ?_
  refine r_aload_n C dX2_splice_11 rfl ?_
  refine s_get C 0 (by decide) qf_X2_11 rfl rfl dX2_splice_12 ?_
  refine r_iload_n C dX2_splice_15 rfl ?_
  refine s_parts C (by first | omega | (simp [up2, *]; done) | (simp [up2, *]; omega) | (simp only [up2_eq]; omega)) dX2_splice_16 ?_
  refine r_iload_n C dX2_splice_17 rfl ?_
  refine r_iload_n C dX2_splice_18 rfl ?_
  refine d_V (st := []) hX.stb C hE (C_isStretch1 (f := f) (r := r) (kn := kn) (i := w) (p0 := p0) (q0 := q0) hX (by first | omega | (simp [up2, *]; done) | (simp [up2, *]; omega) | (simp only [up2_eq]; omega)) (by first | omega | (simp [up2, *]; done) | (simp [up2, *]; omega) | (simp only [up2_eq]; omega)) (by first | omega | (simp [up2, *]; done) | (simp [up2, *]; omega) | (simp only [up2_eq]; omega)) (by first | omega | (simp [up2, *]; done) | (simp [up2, *]; omega) | (simp only [up2_eq]; omega))) pk_X1_isStretch qm_X2_75 (3 + w) 5 rfl rfl (wc_p (by first | omega | (simp [up2, *]; done) | (simp [up2, *]; omega) | (simp only [up2_eq]; omega))) rfl rfl (Nat.le_of_ble_eq_true rfl) dX2_splice_19 ⟨Nat.le_of_ble_eq_true rfl, Nat.le_of_ble_eq_true rfl⟩ ⟨Nat.le_of_ble_eq_true rfl, Nat.le_of_ble_eq_true rfl⟩ ?_
  refine r_ifN_ne (a := 1) (tgt := 28) C (by first | omega | (simp [up2, *]; done) | (simp [up2, *]; omega) | (simp only [up2_eq]; omega)) dX2_splice_22 (by decide) (fun h22_1 => ?_) (fun h22_1 => ?_)
  · skip
    refine r_iload_n C dX2_splice_28 rfl ?_
    refine r_iload_n C dX2_splice_29 rfl ?_
    refine r_isubN C dX2_splice_30 (by first | omega | (simp [up2, *]; done) | (simp [up2, *]; omega) | (simp only [up2_eq]; omega)) ?_
    refine r_istore C dX2_splice_31 (by decide) rfl ?_
    refine r_aload_n C dX2_splice_33 rfl ?_
    refine s_get C 0 (by decide) qf_X2_11 rfl rfl dX2_splice_34 ?_
    refine r_iload C dX2_splice_37 rfl ?_
    refine s_parts C (by first | omega | (simp [up2, *]; done) | (simp [up2, *]; omega) | (simp only [up2_eq]; omega)) dX2_splice_39 ?_
    refine p_getN (v := .int (nI (f 4 v))) hX C hE 4 (by first | omega | (simp [up2, *]; done) | (simp [up2, *]; omega) | (simp only [up2_eq]; omega)) (by decide) qn_X2_50 rfl rfl dX2_splice_40 ?_
    refine r_istore C dX2_splice_43 (by decide) rfl ?_
    refine r_aload_n C dX2_splice_45 rfl ?_
    refine r_iload_n C dX2_splice_46 rfl ?_
    refine r_iload C dX2_splice_47 rfl ?_
    refine r_iload C dX2_splice_49 rfl ?_
    refine r_isub C dX2_splice_51 ?_
    refine d_Vv (st := []) hX.stb C hE (C_needRoom_ok (f := f) (r := r) (kn := kn) (w := w) (x := (((nI (f 4 v)) - (nI (q0 - p0))))) (q0 := (f 4 (f 1 w) + f 4 v - (q0 - p0))) hX (by first | omega | (simp [up2, *]; done) | (simp [up2, *]; omega) | (simp only [up2_eq]; omega)) (by omega) (nI_adj (by omega)) (by first | omega | (simp [up2, *]; done) | (simp [up2, *]; omega) | (simp only [up2_eq]; omega))) pk_X2_needRoom qm_X2_46 0 6 rfl rfl wc_0 rfl rfl (Nat.le_of_ble_eq_true rfl) dX2_splice_52 ⟨Nat.le_of_ble_eq_true rfl, Nat.le_of_ble_eq_true rfl⟩ ⟨Nat.le_of_ble_eq_true rfl, Nat.le_of_ble_eq_true rfl⟩ ?_
    refine r_iload C dX2_splice_55 rfl ?_
    refine r_ifN_gt (a := (q0 - p0)) (tgt := 65) C (by first | omega | (simp [up2, *]; done) | (simp [up2, *]; omega) | (simp only [up2_eq]; omega)) dX2_splice_57 (by decide) (fun h57_2 => ?_) (fun h57_2 => ?_)
    · first
      | exfalso; first | omega | contradiction
      | skip
        refine r_aload_n C dX2_splice_65 rfl ?_
        refine s_get C 2 (by decide) qf_X2_29 rfl rfl dX2_splice_66 ?_
        refine r_aload_n C dX2_splice_69 rfl ?_
        refine s_get C 0 (by decide) qf_X2_11 rfl rfl dX2_splice_70 ?_
        refine r_iload C dX2_splice_73 rfl ?_
        refine s_parts C (by first | omega | (simp [up2, *]; done) | (simp [up2, *]; omega) | (simp only [up2_eq]; omega)) dX2_splice_75 ?_
        refine d_Vv (st := []) hX.stb C hE (C_becomeLike (f := f) (r := r) (kn := kn) (i := 8) (j := v) hX (by first | omega | (simp [up2, *]; done) | (simp [up2, *]; omega) | (simp only [up2_eq]; omega)) (by first | omega | (simp [up2, *]; done) | (simp [up2, *]; omega) | (simp only [up2_eq]; omega)) (by first | omega | (simp [up2, *]; done) | (simp [up2, *]; omega) | (simp only [up2_eq]; omega)) (by first | omega | (simp [up2, *]; done) | (simp [up2, *]; omega) | (simp only [up2_eq]; omega)) (by first | omega | (simp [up2, *]; done) | (simp [up2, *]; omega) | (simp only [up2_eq]; omega)) (by first | omega | (simp [up2, *]; done) | (simp [up2, *]; omega) | (simp only [up2_eq]; omega))) pk_X1_becomeLike qm_X2_79 (3 + 8) 5 rfl rfl (wc_p (by first | omega | (simp [up2, *]; done) | (simp [up2, *]; omega) | (simp only [up2_eq]; omega))) rfl rfl (Nat.le_of_ble_eq_true rfl) dX2_splice_76 ⟨Nat.le_of_ble_eq_true rfl, Nat.le_of_ble_eq_true rfl⟩ ⟨Nat.le_of_ble_eq_true rfl, Nat.le_of_ble_eq_true rfl⟩ ?_
        refine r_aload_n C dX2_splice_79 rfl ?_
        refine r_iload_n C dX2_splice_80 rfl ?_
        refine r_iload_n C dX2_splice_81 rfl ?_
        refine r_iload_n C dX2_splice_82 rfl ?_
        refine d_Vv (st := []) hX.stb C hE (C_exchange (f := (up2 f 4 8 (f 4 v))) (r := (cpy2 r (f 0 v) (f 3 v) (f 0 8) (f 3 8) (f 4 v))) (kn := kn) (w := w) (p0 := p0) (q0 := q0) hX (by first | omega | (simp [up2, *]; done) | (simp [up2, *]; omega) | (simp only [up2_eq]; omega)) hC.h1 hC.hG hC.hI hC.hI8 (by first | omega | (simp [up2, *]; done) | (simp [up2, *]; omega) | (simp only [up2_eq]; omega)) hp (show f 3 w + q0 ≤ up2 f 4 8 (f 4 v) 4 (f 1 w) by rw [up2_i _ _ _ _ (show f 1 w ≠ 8 by omega)]; omega) (show up2 f 4 8 (f 4 v) 4 (f 1 w) ≤ 12 by rw [up2_i _ _ _ _ (show f 1 w ≠ 8 by omega)]; omega) (show up2 f 4 8 (f 4 v) 4 8 ≤ 12 by rw [up2_eq]; omega) (show up2 f 4 8 (f 4 v) 4 (f 1 w) + up2 f 4 8 (f 4 v) 4 8 ≤ 12 + (q0 - p0) by rw [up2_i _ _ _ _ (show f 1 w ≠ 8 by omega), up2_eq]; omega) (fun i hi h => by have h6 := hC.ho12 hw h5w i hi h; rw [up2_i _ _ _ _ (show i ≠ 8 by omega), up2_eq]; omega)) pk_X2_exchangeForSpare qm_X2_83 0 6 rfl rfl wc_0 rfl rfl (Nat.le_of_ble_eq_true rfl) dX2_splice_83 ⟨Nat.le_of_ble_eq_true rfl, Nat.le_of_ble_eq_true rfl⟩ ⟨Nat.le_of_ble_eq_true rfl, Nat.le_of_ble_eq_true rfl⟩ ?_
        refine r_aload_n C dX2_splice_86 rfl ?_
        refine r_iload_n C dX2_splice_87 rfl ?_
        refine r_iconst (v := (nI 4294967295)) C dX2_splice_88 (by decide) ?_
        refine d_Vv (st := []) hX.stb C hE (C_settle (f := (exL (up2 f 4 8 (f 4 v)) w ((up2 f 4 8 (f 4 v)) 4 8) (q0 - p0) 8)) (r := (exR (up2 f 4 8 (f 4 v)) (cpy2 r (f 0 v) (f 3 v) (f 0 8) (f 3 8) (f 4 v)) w p0 q0 ((up2 f 4 8 (f 4 v)) 4 8))) (kn := kn) (w := w) (d0 := 4294967295) hX (by first | omega | (simp [up2, *]; done) | (simp [up2, *]; omega) | (simp only [up2_eq]; omega)) (by first | omega | (simp [up2, *]; done) | (simp [up2, *]; omega) | (simp only [up2_eq]; omega)) hC.h1 hC.hU hC.hG) pk_X2_settle qm_X2_87 0 6 rfl rfl wc_0 rfl rfl (Nat.le_of_ble_eq_true rfl) dX2_splice_89 ⟨Nat.le_of_ble_eq_true rfl, Nat.le_of_ble_eq_true rfl⟩ ⟨Nat.le_of_ble_eq_true rfl, Nat.le_of_ble_eq_true rfl⟩ ?_
        refine r_aload_n C dX2_splice_92 rfl ?_
        refine s_get C 0 (by decide) qf_X2_11 rfl rfl dX2_splice_93 ?_
        refine r_iload_n C dX2_splice_96 rfl ?_
        refine s_parts C (by first | omega | (simp [up2, *]; done) | (simp [up2, *]; omega) | (simp only [up2_eq]; omega)) dX2_splice_97 ?_
        refine p_getN (v := .int (nI ((exL (up2 f 4 8 (f 4 v)) w ((up2 f 4 8 (f 4 v)) 4 8) (q0 - p0) 8) 4 w))) hX C hE 4 (by first | omega | (simp [up2, *]; done) | (simp [up2, *]; omega) | (simp only [up2_eq]; omega)) (by decide) qn_X2_50 rfl rfl dX2_splice_98 ?_
        exact r_iret C hr dX2_splice_101 ⟨rfl, rfl⟩ (Nat.le_of_ble_eq_true rfl) (Nat.le_of_ble_eq_true rfl)
    · first
      | exfalso; first | omega | contradiction
      | skip
        refine r_iload C dX2_splice_60 rfl ?_
        refine r_ifN_le (a := (f 4 v)) (tgt := 92) C (by first | omega | (simp [up2, *]; done) | (simp [up2, *]; omega) | (simp only [up2_eq]; omega)) dX2_splice_62 (by decide) (fun h62_3 => ?_) (fun h62_3 => ?_)
        · exact absurd h62_3 (by first | omega | (simp [up2, *]; done) | (simp [up2, *]; omega) | (simp only [up2_eq]; omega))
        · skip
          refine r_aload_n C dX2_splice_65 rfl ?_
          refine s_get C 2 (by decide) qf_X2_29 rfl rfl dX2_splice_66 ?_
          refine r_aload_n C dX2_splice_69 rfl ?_
          refine s_get C 0 (by decide) qf_X2_11 rfl rfl dX2_splice_70 ?_
          refine r_iload C dX2_splice_73 rfl ?_
          refine s_parts C (by first | omega | (simp [up2, *]; done) | (simp [up2, *]; omega) | (simp only [up2_eq]; omega)) dX2_splice_75 ?_
          refine d_Vv (st := []) hX.stb C hE (C_becomeLike (f := f) (r := r) (kn := kn) (i := 8) (j := v) hX (by first | omega | (simp [up2, *]; done) | (simp [up2, *]; omega) | (simp only [up2_eq]; omega)) (by first | omega | (simp [up2, *]; done) | (simp [up2, *]; omega) | (simp only [up2_eq]; omega)) (by first | omega | (simp [up2, *]; done) | (simp [up2, *]; omega) | (simp only [up2_eq]; omega)) (by first | omega | (simp [up2, *]; done) | (simp [up2, *]; omega) | (simp only [up2_eq]; omega)) (by first | omega | (simp [up2, *]; done) | (simp [up2, *]; omega) | (simp only [up2_eq]; omega)) (by first | omega | (simp [up2, *]; done) | (simp [up2, *]; omega) | (simp only [up2_eq]; omega))) pk_X1_becomeLike qm_X2_79 (3 + 8) 5 rfl rfl (wc_p (by first | omega | (simp [up2, *]; done) | (simp [up2, *]; omega) | (simp only [up2_eq]; omega))) rfl rfl (Nat.le_of_ble_eq_true rfl) dX2_splice_76 ⟨Nat.le_of_ble_eq_true rfl, Nat.le_of_ble_eq_true rfl⟩ ⟨Nat.le_of_ble_eq_true rfl, Nat.le_of_ble_eq_true rfl⟩ ?_
          refine r_aload_n C dX2_splice_79 rfl ?_
          refine r_iload_n C dX2_splice_80 rfl ?_
          refine r_iload_n C dX2_splice_81 rfl ?_
          refine r_iload_n C dX2_splice_82 rfl ?_
          refine d_Vv (st := []) hX.stb C hE (C_exchange (f := (up2 f 4 8 (f 4 v))) (r := (cpy2 r (f 0 v) (f 3 v) (f 0 8) (f 3 8) (f 4 v))) (kn := kn) (w := w) (p0 := p0) (q0 := q0) hX (by first | omega | (simp [up2, *]; done) | (simp [up2, *]; omega) | (simp only [up2_eq]; omega)) hC.h1 hC.hG hC.hI hC.hI8 (by first | omega | (simp [up2, *]; done) | (simp [up2, *]; omega) | (simp only [up2_eq]; omega)) hp (show f 3 w + q0 ≤ up2 f 4 8 (f 4 v) 4 (f 1 w) by rw [up2_i _ _ _ _ (show f 1 w ≠ 8 by omega)]; omega) (show up2 f 4 8 (f 4 v) 4 (f 1 w) ≤ 12 by rw [up2_i _ _ _ _ (show f 1 w ≠ 8 by omega)]; omega) (show up2 f 4 8 (f 4 v) 4 8 ≤ 12 by rw [up2_eq]; omega) (show up2 f 4 8 (f 4 v) 4 (f 1 w) + up2 f 4 8 (f 4 v) 4 8 ≤ 12 + (q0 - p0) by rw [up2_i _ _ _ _ (show f 1 w ≠ 8 by omega), up2_eq]; omega) (fun i hi h => by have h6 := hC.ho12 hw h5w i hi h; rw [up2_i _ _ _ _ (show i ≠ 8 by omega), up2_eq]; omega)) pk_X2_exchangeForSpare qm_X2_83 0 6 rfl rfl wc_0 rfl rfl (Nat.le_of_ble_eq_true rfl) dX2_splice_83 ⟨Nat.le_of_ble_eq_true rfl, Nat.le_of_ble_eq_true rfl⟩ ⟨Nat.le_of_ble_eq_true rfl, Nat.le_of_ble_eq_true rfl⟩ ?_
          refine r_aload_n C dX2_splice_86 rfl ?_
          refine r_iload_n C dX2_splice_87 rfl ?_
          refine r_iconst (v := (nI 4294967295)) C dX2_splice_88 (by decide) ?_
          refine d_Vv (st := []) hX.stb C hE (C_settle (f := (exL (up2 f 4 8 (f 4 v)) w ((up2 f 4 8 (f 4 v)) 4 8) (q0 - p0) 8)) (r := (exR (up2 f 4 8 (f 4 v)) (cpy2 r (f 0 v) (f 3 v) (f 0 8) (f 3 8) (f 4 v)) w p0 q0 ((up2 f 4 8 (f 4 v)) 4 8))) (kn := kn) (w := w) (d0 := 4294967295) hX (by first | omega | (simp [up2, *]; done) | (simp [up2, *]; omega) | (simp only [up2_eq]; omega)) (by first | omega | (simp [up2, *]; done) | (simp [up2, *]; omega) | (simp only [up2_eq]; omega)) hC.h1 hC.hU hC.hG) pk_X2_settle qm_X2_87 0 6 rfl rfl wc_0 rfl rfl (Nat.le_of_ble_eq_true rfl) dX2_splice_89 ⟨Nat.le_of_ble_eq_true rfl, Nat.le_of_ble_eq_true rfl⟩ ⟨Nat.le_of_ble_eq_true rfl, Nat.le_of_ble_eq_true rfl⟩ ?_
          refine r_aload_n C dX2_splice_92 rfl ?_
          refine s_get C 0 (by decide) qf_X2_11 rfl rfl dX2_splice_93 ?_
          refine r_iload_n C dX2_splice_96 rfl ?_
          refine s_parts C (by first | omega | (simp [up2, *]; done) | (simp [up2, *]; omega) | (simp only [up2_eq]; omega)) dX2_splice_97 ?_
          refine p_getN (v := .int (nI ((exL (up2 f 4 8 (f 4 v)) w ((up2 f 4 8 (f 4 v)) 4 8) (q0 - p0) 8) 4 w))) hX C hE 4 (by first | omega | (simp [up2, *]; done) | (simp [up2, *]; omega) | (simp only [up2_eq]; omega)) (by decide) qn_X2_50 rfl rfl dX2_splice_98 ?_
          exact r_iret C hr dX2_splice_101 ⟨rfl, rfl⟩ (Nat.le_of_ble_eq_true rfl) (Nat.le_of_ble_eq_true rfl)
  · exact absurd h22_1 (by first | omega | (simp [up2, *]; done) | (simp [up2, *]; omega) | (simp only [up2_eq]; omega))
theorem dX2_rotate_0 : decode cX2_rotate 0 = .ok (.aload_n 0, 1) := dqo_42 (kb_of ke_X2_rotate 0 rfl)
theorem dX2_rotate_1 : decode cX2_rotate 1 = .ok (.iload_n 1, 1) := dqo_27 (kb_of ke_X2_rotate 1 rfl)
theorem dX2_rotate_2 : decode cX2_rotate 2 = .ok (.invokevirtual 39, 3) := dqo_182 0 39 (kb_of ke_X2_rotate 2 rfl) (kb_of ke_X2_rotate 3 rfl) (kb_of ke_X2_rotate 4 rfl)
set_option maxRecDepth 100000 in
set_option maxHeartbeats 4000000 in
theorem C_rotate_noW {l : Launch} {D : va_G} {cy : Nat → ClassId} {X : (Nat → Prop) → State → Heap → Prop} {a f : Nat → Nat → Nat} {r : Nat → Nat → Int32} {kn : Int32} {Y : va_W} {x : Int32} {y0 : Int32} (hX : EnvX X) (hl : l.stackTraces = false) (hC : CInv f) (hno : noW f x) : Ce l D cy X yX2_rotate cX2_rotate 3 (some .int) (rmk 8 1 6 170) [.ref (a 0 0), .int x, .int y0] (WC cy a f r kn ++ Y) "java/lang/IndexOutOfBoundsException" := by
  have q3 := hC.sp
  refine Cm.of [some (.ref (a 0 0)), some (.int x), some (.int y0)] pn_X2 rfl (Nat.le_of_ble_eq_true rfl) ?_
  intro p e s m args below meth c A C hE hr hnt hn
  refine r_aload_n C dX2_rotate_0 rfl ?_
  refine r_iload_n C dX2_rotate_1 rfl ?_
  refine c_V (st := []) hX.stb C hE (C_needWhere_no (f := f) (r := r) (kn := kn) (x := (x)) hX hl hno hC.h5) pk_X2_needWhere qm_X2_39 0 6 rfl rfl wc_0 rfl rfl (Nat.le_of_ble_eq_true rfl) dX2_rotate_2 ⟨Nat.le_of_ble_eq_true rfl, Nat.le_of_ble_eq_true rfl⟩ ⟨Nat.le_of_ble_eq_true rfl, Nat.le_of_ble_eq_true rfl⟩ (fun _ _ h9 => h9.elim) (fun E9 h9 => ?_)
  subst h9
  exact r_out C hnt rfl rfl (Nat.le_of_ble_eq_true rfl) (Nat.le_of_ble_eq_true rfl)
theorem dX2_rotate_5 : decode cX2_rotate 5 = .ok (.iload_n 2, 1) := dqo_28 (kb_of ke_X2_rotate 5 rfl)
theorem dX2_rotate_6 : decode cX2_rotate 6 = .ok (.bipush (-99), 2) := dqo_16 157 (by decide) (kb_of ke_X2_rotate 6 rfl) (kb_of ke_X2_rotate 7 rfl)
theorem dX2_rotate_8 : decode cX2_rotate 8 = .ok (.if_icmp .lt 9, 3) := dqo_161 0 9 (by decide) (kb_of ke_X2_rotate 8 rfl) (kb_of ke_X2_rotate 9 rfl) (kb_of ke_X2_rotate 10 rfl)
theorem dX2_rotate_11 : decode cX2_rotate 11 = .ok (.iload_n 2, 1) := dqo_28 (kb_of ke_X2_rotate 11 rfl)
theorem dX2_rotate_12 : decode cX2_rotate 12 = .ok (.bipush 99, 2) := dqo_16 99 (by decide) (kb_of ke_X2_rotate 12 rfl) (kb_of ke_X2_rotate 13 rfl)
theorem dX2_rotate_14 : decode cX2_rotate 14 = .ok (.if_icmp .le 13, 3) := dqo_164 0 13 (by decide) (kb_of ke_X2_rotate 14 rfl) (kb_of ke_X2_rotate 15 rfl) (kb_of ke_X2_rotate 16 rfl)
theorem dX2_rotate_17 : decode cX2_rotate 17 = .ok (.new 90, 3) := dqo_187 0 90 (kb_of ke_X2_rotate 17 rfl) (kb_of ke_X2_rotate 18 rfl) (kb_of ke_X2_rotate 19 rfl)
theorem dX2_rotate_20 : decode cX2_rotate 20 = .ok (.dup, 1) := dqo_89 (kb_of ke_X2_rotate 20 rfl)
theorem dX2_rotate_21 : decode cX2_rotate 21 = .ok (.ldc 92, 2) := dqo_18 92 (kb_of ke_X2_rotate 21 rfl) (kb_of ke_X2_rotate 22 rfl)
theorem dX2_rotate_23 : decode cX2_rotate 23 = .ok (.invokespecial 94, 3) := dqo_183 0 94 (kb_of ke_X2_rotate 23 rfl) (kb_of ke_X2_rotate 24 rfl) (kb_of ke_X2_rotate 25 rfl)
theorem dX2_rotate_26 : decode cX2_rotate 26 = .ok (.athrow, 1) := dqo_191 (kb_of ke_X2_rotate 26 rfl)
set_option maxRecDepth 100000 in
set_option maxHeartbeats 4000000 in
theorem C_rotate_noB {l : Launch} {D : va_G} {cy : Nat → ClassId} {X : (Nat → Prop) → State → Heap → Prop} {a f : Nat → Nat → Nat} {r : Nat → Nat → Int32} {kn : Int32} {Y : va_W} {w : Nat} {y : Int32} (hX : EnvX X) (hl : l.stackTraces = false) (hC : CInv f) (hw : w < 8) (h5w : f 5 w = 1) (ho : ¬ okI y) : Ce l D cy X yX2_rotate cX2_rotate 3 (some .int) (rmk 8 1 6 170) [.ref (a 0 0), .int (nI w), .int y] (WC cy a f r kn ++ Y) "java/lang/IllegalArgumentException" := by
  have q3 := hC.sp
  have q1_w := hC.al hw
  have q2_w := hC.th hw h5w
  have q4_w := hC.rw (i := f 1 w) q1_w.2.1
  refine Cm.of [some (.ref (a 0 0)), some (.int (nI w)), some (.int y)] pn_X2 rfl (Nat.le_of_ble_eq_true rfl) ?_
  intro p e s m args below meth c A C hE hr hnt hn
  refine r_aload_n C dX2_rotate_0 rfl ?_
  refine r_iload_n C dX2_rotate_1 rfl ?_
  refine d_Vv (st := []) hX.stb C hE (C_needWhere_ok (f := f) (r := r) (kn := kn) (w := w) hX (by first | omega | (simp [up2, *]; done) | (simp [up2, *]; omega) | (simp only [up2_eq]; omega)) (by first | omega | (simp [up2, *]; done) | (simp [up2, *]; omega) | (simp only [up2_eq]; omega))) pk_X2_needWhere qm_X2_39 0 6 rfl rfl wc_0 rfl rfl (Nat.le_of_ble_eq_true rfl) dX2_rotate_2 ⟨Nat.le_of_ble_eq_true rfl, Nat.le_of_ble_eq_true rfl⟩ ⟨Nat.le_of_ble_eq_true rfl, Nat.le_of_ble_eq_true rfl⟩ ?_
  refine r_iload_n C dX2_rotate_5 rfl ?_
  refine r_bipush (v := (nI 4294967197)) C dX2_rotate_6 (by decide) ?_
  refine r_ic_lt (tgt := 17) C dX2_rotate_8 (by decide) (fun h8_1 => ?_) (fun h8_1 => ?_)
  · first
    | exfalso; first | omega | contradiction
    | skip
      exact r_throw (cls := "java/lang/IllegalArgumentException") (text := "a turn goes from -99 to 99") (names := ["java/lang/RuntimeException", "java/lang/Exception"]) hX hl C hE hnt thr_X2_90_94 (by decide +kernel) (by decide +kernel) (by decide +kernel) dX2_rotate_17 dX2_rotate_20 dX2_rotate_21 dX2_rotate_23 dX2_rotate_26 (by decide) (Nat.le_of_ble_eq_true rfl) (Nat.le_of_ble_eq_true rfl) (Nat.le_of_ble_eq_true rfl) rfl rfl (Nat.le_of_ble_eq_true rfl) (Nat.le_of_ble_eq_true rfl)
  · first
    | exfalso; first | omega | contradiction
    | skip
      refine r_iload_n C dX2_rotate_11 rfl ?_
      refine r_bipush (v := (nI 99)) C dX2_rotate_12 (by decide) ?_
      refine r_ic_le (tgt := 27) C dX2_rotate_14 (by decide) (fun h14_2 => ?_) (fun h14_2 => ?_)
      · exact absurd ⟨by assumption, Int32.not_lt.mpr h14_2⟩ ho
      · skip
        exact r_throw (cls := "java/lang/IllegalArgumentException") (text := "a turn goes from -99 to 99") (names := ["java/lang/RuntimeException", "java/lang/Exception"]) hX hl C hE hnt thr_X2_90_94 (by decide +kernel) (by decide +kernel) (by decide +kernel) dX2_rotate_17 dX2_rotate_20 dX2_rotate_21 dX2_rotate_23 dX2_rotate_26 (by decide) (Nat.le_of_ble_eq_true rfl) (Nat.le_of_ble_eq_true rfl) (Nat.le_of_ble_eq_true rfl) rfl rfl (Nat.le_of_ble_eq_true rfl) (Nat.le_of_ble_eq_true rfl)
theorem pk_X1_firstItem : PkV RX1 yX1_firstItem cX1_firstItem 1 (some .int) 0 := ⟨⟨qi_X1_firstItem, qs_X1_firstItem, qz_X1, qc_X1_firstItem⟩, rfl, mh_X1.1, mh_X1.2, pd_10⟩
theorem pk_X1_moveUp : PkV RX1 yX1_moveUp cX1_moveUp 4 none 2 := ⟨⟨qi_X1_moveUp, qs_X1_moveUp, qz_X1, qc_X1_moveUp⟩, rfl, mh_X1.1, mh_X1.2, pd_11⟩
theorem dX2_rotate_27 : decode cX2_rotate 27 = .ok (.aload_n 0, 1) := dqo_42 (kb_of ke_X2_rotate 27 rfl)
theorem dX2_rotate_28 : decode cX2_rotate 28 = .ok (.getfield 11, 3) := dqo_180 0 11 (kb_of ke_X2_rotate 28 rfl) (kb_of ke_X2_rotate 29 rfl) (kb_of ke_X2_rotate 30 rfl)
theorem dX2_rotate_31 : decode cX2_rotate 31 = .ok (.iload_n 1, 1) := dqo_27 (kb_of ke_X2_rotate 31 rfl)
theorem dX2_rotate_32 : decode cX2_rotate 32 = .ok (.aaload, 1) := dqo_50 (kb_of ke_X2_rotate 32 rfl)
theorem dX2_rotate_33 : decode cX2_rotate 33 = .ok (.iload_n 2, 1) := dqo_28 (kb_of ke_X2_rotate 33 rfl)
theorem dX2_rotate_34 : decode cX2_rotate 34 = .ok (.aload_n 0, 1) := dqo_42 (kb_of ke_X2_rotate 34 rfl)
theorem dX2_rotate_35 : decode cX2_rotate 35 = .ok (.getfield 29, 3) := dqo_180 0 29 (kb_of ke_X2_rotate 35 rfl) (kb_of ke_X2_rotate 36 rfl) (kb_of ke_X2_rotate 37 rfl)
theorem dX2_rotate_38 : decode cX2_rotate 38 = .ok (.invokevirtual 97, 3) := dqo_182 0 97 (kb_of ke_X2_rotate 38 rfl) (kb_of ke_X2_rotate 39 rfl) (kb_of ke_X2_rotate 40 rfl)
theorem dX2_rotate_41 : decode cX2_rotate 41 = .ok (.aload_n 0, 1) := dqo_42 (kb_of ke_X2_rotate 41 rfl)
theorem dX2_rotate_42 : decode cX2_rotate 42 = .ok (.getfield 11, 3) := dqo_180 0 11 (kb_of ke_X2_rotate 42 rfl) (kb_of ke_X2_rotate 43 rfl) (kb_of ke_X2_rotate 44 rfl)
theorem dX2_rotate_45 : decode cX2_rotate 45 = .ok (.iload_n 1, 1) := dqo_27 (kb_of ke_X2_rotate 45 rfl)
theorem dX2_rotate_46 : decode cX2_rotate 46 = .ok (.aaload, 1) := dqo_50 (kb_of ke_X2_rotate 46 rfl)
theorem dX2_rotate_47 : decode cX2_rotate 47 = .ok (.invokevirtual 101, 3) := dqo_182 0 101 (kb_of ke_X2_rotate 47 rfl) (kb_of ke_X2_rotate 48 rfl) (kb_of ke_X2_rotate 49 rfl)
theorem dX2_rotate_50 : decode cX2_rotate 50 = .ok (.ireturn, 1) := dqo_172 (kb_of ke_X2_rotate 50 rfl)
set_option maxRecDepth 100000 in
set_option maxHeartbeats 4000000 in
theorem C_rotate_0 {l : Launch} {D : va_G} {cy : Nat → ClassId} {X : (Nat → Prop) → State → Heap → Prop} {a f : Nat → Nat → Nat} {r : Nat → Nat → Int32} {kn : Int32} {Y : va_W} {w : Nat} {y : Int32} (hX : EnvX X) (hC : CInv f) (hw : w < 8) (h5w : f 5 w = 1) (ho : okI y) (hz : f 4 w = 0) : Cd l D cy X yX2_rotate cX2_rotate 3 (some .int) (rmz 6 240) [.ref (a 0 0), .int (nI w), .int y] (WC cy a f r kn ++ Y) (some (.int (if f 4 w = 0 then nI 100 else r (f 0 w) (f 3 w)))) (WC cy a f r kn ++ Y) := by
  have q3 := hC.sp
  have q1_w := hC.al hw
  have q2_w := hC.th hw h5w
  have q4_w := hC.rw (i := f 1 w) q1_w.2.1
  refine Cm.of [some (.ref (a 0 0)), some (.int (nI w)), some (.int y)] pn_X2 rfl (Nat.le_of_ble_eq_true rfl) ?_
  intro p e s m args below meth c A C hE hr hnt hn
  refine r_aload_n C dX2_rotate_0 rfl ?_
  refine r_iload_n C dX2_rotate_1 rfl ?_
  refine d_Vv (st := []) hX.stb C hE (C_needWhere_ok (f := f) (r := r) (kn := kn) (w := w) hX (by first | omega | (simp [up2, *]; done) | (simp [up2, *]; omega) | (simp only [up2_eq]; omega)) (by first | omega | (simp [up2, *]; done) | (simp [up2, *]; omega) | (simp only [up2_eq]; omega))) pk_X2_needWhere qm_X2_39 0 6 rfl rfl wc_0 rfl rfl (Nat.le_of_ble_eq_true rfl) dX2_rotate_2 ⟨Nat.le_of_ble_eq_true rfl, Nat.le_of_ble_eq_true rfl⟩ ⟨Nat.le_of_ble_eq_true rfl, Nat.le_of_ble_eq_true rfl⟩ ?_
  refine r_iload_n C dX2_rotate_5 rfl ?_
  refine r_bipush (v := (nI 4294967197)) C dX2_rotate_6 (by decide) ?_
  refine r_ic_lt (tgt := 17) C dX2_rotate_8 (by decide) (fun h8_1 => ?_) (fun h8_1 => ?_)
  · exact absurd h8_1 ho.1
  · skip
    refine r_iload_n C dX2_rotate_11 rfl ?_
    refine r_bipush (v := (nI 99)) C dX2_rotate_12 (by decide) ?_
    refine r_ic_le (tgt := 27) C dX2_rotate_14 (by decide) (fun h14_2 => ?_) (fun h14_2 => ?_)
    · skip
      refine r_aload_n C dX2_rotate_27 rfl ?_
      refine s_get C 0 (by decide) qf_X2_11 rfl rfl dX2_rotate_28 ?_
      refine r_iload_n C dX2_rotate_31 rfl ?_
      refine s_parts C (by first | omega | (simp [up2, *]; done) | (simp [up2, *]; omega) | (simp only [up2_eq]; omega)) dX2_rotate_32 ?_
      refine r_iload_n C dX2_rotate_33 rfl ?_
      refine r_aload_n C dX2_rotate_34 rfl ?_
      refine s_get C 2 (by decide) qf_X2_29 rfl rfl dX2_rotate_35 ?_
      refine d_Vv (st := []) hX.stb C hE (C_moveUp0 (f := f) (r := r) (kn := kn) (i := w) (j := 8) (x := (y)) hX (by first | omega | (simp [up2, *]; done) | (simp [up2, *]; omega) | (simp only [up2_eq]; omega)) (by first | omega | (simp [up2, *]; done) | (simp [up2, *]; omega) | (simp only [up2_eq]; omega))) pk_X1_moveUp qm_X2_97 (3 + w) 5 rfl rfl (wc_p (by first | omega | (simp [up2, *]; done) | (simp [up2, *]; omega) | (simp only [up2_eq]; omega))) rfl rfl (Nat.le_of_ble_eq_true rfl) dX2_rotate_38 ⟨Nat.le_of_ble_eq_true rfl, Nat.le_of_ble_eq_true rfl⟩ ⟨Nat.le_of_ble_eq_true rfl, Nat.le_of_ble_eq_true rfl⟩ ?_
      refine r_aload_n C dX2_rotate_41 rfl ?_
      refine s_get C 0 (by decide) qf_X2_11 rfl rfl dX2_rotate_42 ?_
      refine r_iload_n C dX2_rotate_45 rfl ?_
      refine s_parts C (by first | omega | (simp [up2, *]; done) | (simp [up2, *]; omega) | (simp only [up2_eq]; omega)) dX2_rotate_46 ?_
      refine d_V (st := []) hX.stb C hE (C_firstItem (f := f) (r := r) (kn := kn) (i := w) hX (by first | omega | (simp [up2, *]; done) | (simp [up2, *]; omega) | (simp only [up2_eq]; omega)) (by first | omega | (simp [up2, *]; done) | (simp [up2, *]; omega) | (simp only [up2_eq]; omega)) (by first | omega | (simp [up2, *]; done) | (simp [up2, *]; omega) | (simp only [up2_eq]; omega))) pk_X1_firstItem qm_X2_101 (3 + w) 5 rfl rfl (wc_p (by first | omega | (simp [up2, *]; done) | (simp [up2, *]; omega) | (simp only [up2_eq]; omega))) rfl rfl (Nat.le_of_ble_eq_true rfl) dX2_rotate_47 ⟨Nat.le_of_ble_eq_true rfl, Nat.le_of_ble_eq_true rfl⟩ ⟨Nat.le_of_ble_eq_true rfl, Nat.le_of_ble_eq_true rfl⟩ ?_
      exact r_iret C hr dX2_rotate_50 ⟨rfl, rfl⟩ (Nat.le_of_ble_eq_true rfl) (Nat.le_of_ble_eq_true rfl)
    · exact absurd (Int32.not_le.mp h14_2) ho.2
set_option maxRecDepth 100000 in
set_option maxHeartbeats 4000000 in
theorem C_rotate_ok {l : Launch} {D : va_G} {cy : Nat → ClassId} {X : (Nat → Prop) → State → Heap → Prop} {a f : Nat → Nat → Nat} {r : Nat → Nat → Int32} {kn : Int32} {Y : va_W} {w : Nat} {y : Int32} (hX : EnvX X) (hC : CInv f) (hw : w < 8) (h5w : f 5 w = 1) (ho : okI y) (hz : 0 < f 4 w) : Cd l D cy X yX2_rotate cX2_rotate 3 (some .int) (rmz 6 240) [.ref (a 0 0), .int (nI w), .int y] (WC cy a f r kn ++ Y) (some (.int (if (up2 f 4 8 (f 4 w)) 4 w = 0 then nI 100 else (scS (cpy2 r (f 0 w) (f 3 w) (f 0 8) (f 3 8) (f 4 w)) (f 0 w) (f 3 w) (f 4 w) (rotN (f 4 w) (shN (y) (f 4 w))) (fun q => r (f 0 w) (f 3 w + q))) (f 0 w) (f 3 w)))) (WC cy a (up2 f 4 8 (f 4 w)) (scS (cpy2 r (f 0 w) (f 3 w) (f 0 8) (f 3 8) (f 4 w)) (f 0 w) (f 3 w) (f 4 w) (rotN (f 4 w) (shN (y) (f 4 w))) (fun q => r (f 0 w) (f 3 w + q))) kn ++ Y) := by
  have q3 := hC.sp
  have q1_w := hC.al hw
  have q2_w := hC.th hw h5w
  have q4_w := hC.rw (i := f 1 w) q1_w.2.1
  have q5 := okI_b ho
  refine Cm.of [some (.ref (a 0 0)), some (.int (nI w)), some (.int y)] pn_X2 rfl (Nat.le_of_ble_eq_true rfl) ?_
  intro p e s m args below meth c A C hE hr hnt hn
  refine r_aload_n C dX2_rotate_0 rfl ?_
  refine r_iload_n C dX2_rotate_1 rfl ?_
  refine d_Vv (st := []) hX.stb C hE (C_needWhere_ok (f := f) (r := r) (kn := kn) (w := w) hX (by first | omega | (simp [up2, *]; done) | (simp [up2, *]; omega) | (simp only [up2_eq]; omega)) (by first | omega | (simp [up2, *]; done) | (simp [up2, *]; omega) | (simp only [up2_eq]; omega))) pk_X2_needWhere qm_X2_39 0 6 rfl rfl wc_0 rfl rfl (Nat.le_of_ble_eq_true rfl) dX2_rotate_2 ⟨Nat.le_of_ble_eq_true rfl, Nat.le_of_ble_eq_true rfl⟩ ⟨Nat.le_of_ble_eq_true rfl, Nat.le_of_ble_eq_true rfl⟩ ?_
  refine r_iload_n C dX2_rotate_5 rfl ?_
  refine r_bipush (v := (nI 4294967197)) C dX2_rotate_6 (by decide) ?_
  refine r_ic_lt (tgt := 17) C dX2_rotate_8 (by decide) (fun h8_1 => ?_) (fun h8_1 => ?_)
  · exact absurd h8_1 ho.1
  · skip
    refine r_iload_n C dX2_rotate_11 rfl ?_
    refine r_bipush (v := (nI 99)) C dX2_rotate_12 (by decide) ?_
    refine r_ic_le (tgt := 27) C dX2_rotate_14 (by decide) (fun h14_2 => ?_) (fun h14_2 => ?_)
    · skip
      refine r_aload_n C dX2_rotate_27 rfl ?_
      refine s_get C 0 (by decide) qf_X2_11 rfl rfl dX2_rotate_28 ?_
      refine r_iload_n C dX2_rotate_31 rfl ?_
      refine s_parts C (by first | omega | (simp [up2, *]; done) | (simp [up2, *]; omega) | (simp only [up2_eq]; omega)) dX2_rotate_32 ?_
      refine r_iload_n C dX2_rotate_33 rfl ?_
      refine r_aload_n C dX2_rotate_34 rfl ?_
      refine s_get C 2 (by decide) qf_X2_29 rfl rfl dX2_rotate_35 ?_
      refine d_Vv (st := []) hX.stb C hE (C_moveUp (f := f) (r := r) (kn := kn) (i := w) (j := 8) (x := (y)) hX (by first | omega | (simp [up2, *]; done) | (simp [up2, *]; omega) | (simp only [up2_eq]; omega)) (by first | omega | (simp [up2, *]; done) | (simp [up2, *]; omega) | (simp only [up2_eq]; omega)) (by first | omega | (simp [up2, *]; done) | (simp [up2, *]; omega) | (simp only [up2_eq]; omega)) (by first | omega | (simp [up2, *]; done) | (simp [up2, *]; omega) | (simp only [up2_eq]; omega)) (by first | omega | (simp [up2, *]; done) | (simp [up2, *]; omega) | (simp only [up2_eq]; omega)) (by first | omega | (simp [up2, *]; done) | (simp [up2, *]; omega) | (simp only [up2_eq]; omega)) (by first | omega | (simp [up2, *]; done) | (simp [up2, *]; omega) | (simp only [up2_eq]; omega)) (by first | omega | (simp [up2, *]; done) | (simp [up2, *]; omega) | (simp only [up2_eq]; omega)) (by first | omega | (simp [up2, *]; done) | (simp [up2, *]; omega) | (simp only [up2_eq]; omega)) (by first | omega | (simp [up2, *]; done) | (simp [up2, *]; omega) | (simp only [up2_eq]; omega)) (by first | omega | (simp [up2, *]; done) | (simp [up2, *]; omega) | (simp only [up2_eq]; omega))) pk_X1_moveUp qm_X2_97 (3 + w) 5 rfl rfl (wc_p (by first | omega | (simp [up2, *]; done) | (simp [up2, *]; omega) | (simp only [up2_eq]; omega))) rfl rfl (Nat.le_of_ble_eq_true rfl) dX2_rotate_38 ⟨Nat.le_of_ble_eq_true rfl, Nat.le_of_ble_eq_true rfl⟩ ⟨Nat.le_of_ble_eq_true rfl, Nat.le_of_ble_eq_true rfl⟩ ?_
      refine r_aload_n C dX2_rotate_41 rfl ?_
      refine s_get C 0 (by decide) qf_X2_11 rfl rfl dX2_rotate_42 ?_
      refine r_iload_n C dX2_rotate_45 rfl ?_
      refine s_parts C (by first | omega | (simp [up2, *]; done) | (simp [up2, *]; omega) | (simp only [up2_eq]; omega)) dX2_rotate_46 ?_
      refine d_V (st := []) hX.stb C hE (C_firstItem (f := (up2 f 4 8 (f 4 w))) (r := (scS (cpy2 r (f 0 w) (f 3 w) (f 0 8) (f 3 8) (f 4 w)) (f 0 w) (f 3 w) (f 4 w) (rotN (f 4 w) (shN (y) (f 4 w))) (fun q => r (f 0 w) (f 3 w + q)))) (kn := kn) (i := w) hX (by first | omega | (simp [up2, *]; done) | (simp [up2, *]; omega) | (simp only [up2_eq]; omega)) (by first | omega | (simp [up2, *]; done) | (simp [up2, *]; omega) | (simp only [up2_eq]; omega)) (by first | omega | (simp [up2, *]; done) | (simp [up2, *]; omega) | (simp only [up2_eq]; omega))) pk_X1_firstItem qm_X2_101 (3 + w) 5 rfl rfl (wc_p (by first | omega | (simp [up2, *]; done) | (simp [up2, *]; omega) | (simp only [up2_eq]; omega))) rfl rfl (Nat.le_of_ble_eq_true rfl) dX2_rotate_47 ⟨Nat.le_of_ble_eq_true rfl, Nat.le_of_ble_eq_true rfl⟩ ⟨Nat.le_of_ble_eq_true rfl, Nat.le_of_ble_eq_true rfl⟩ ?_
      exact r_iret C hr dX2_rotate_50 ⟨rfl, rfl⟩ (Nat.le_of_ble_eq_true rfl) (Nat.le_of_ble_eq_true rfl)
    · exact absurd (Int32.not_le.mp h14_2) ho.2
theorem dX2_reverse_0 : decode cX2_reverse 0 = .ok (.aload_n 0, 1) := dqo_42 (kb_of ke_X2_reverse 0 rfl)
theorem dX2_reverse_1 : decode cX2_reverse 1 = .ok (.iload_n 1, 1) := dqo_27 (kb_of ke_X2_reverse 1 rfl)
theorem dX2_reverse_2 : decode cX2_reverse 2 = .ok (.invokevirtual 39, 3) := dqo_182 0 39 (kb_of ke_X2_reverse 2 rfl) (kb_of ke_X2_reverse 3 rfl) (kb_of ke_X2_reverse 4 rfl)
set_option maxRecDepth 100000 in
set_option maxHeartbeats 4000000 in
theorem C_reverse_noW {l : Launch} {D : va_G} {cy : Nat → ClassId} {X : (Nat → Prop) → State → Heap → Prop} {a f : Nat → Nat → Nat} {r : Nat → Nat → Int32} {kn : Int32} {Y : va_W} {x : Int32} (hX : EnvX X) (hl : l.stackTraces = false) (hC : CInv f) (hno : noW f x) : Ce l D cy X yX2_reverse cX2_reverse 2 (some .int) (rmk 8 1 6 170) [.ref (a 0 0), .int x] (WC cy a f r kn ++ Y) "java/lang/IndexOutOfBoundsException" := by
  have q3 := hC.sp
  refine Cm.of [some (.ref (a 0 0)), some (.int x)] pn_X2 rfl (Nat.le_of_ble_eq_true rfl) ?_
  intro p e s m args below meth c A C hE hr hnt hn
  refine r_aload_n C dX2_reverse_0 rfl ?_
  refine r_iload_n C dX2_reverse_1 rfl ?_
  refine c_V (st := []) hX.stb C hE (C_needWhere_no (f := f) (r := r) (kn := kn) (x := (x)) hX hl hno hC.h5) pk_X2_needWhere qm_X2_39 0 6 rfl rfl wc_0 rfl rfl (Nat.le_of_ble_eq_true rfl) dX2_reverse_2 ⟨Nat.le_of_ble_eq_true rfl, Nat.le_of_ble_eq_true rfl⟩ ⟨Nat.le_of_ble_eq_true rfl, Nat.le_of_ble_eq_true rfl⟩ (fun _ _ h9 => h9.elim) (fun E9 h9 => ?_)
  subst h9
  exact r_out C hnt rfl rfl (Nat.le_of_ble_eq_true rfl) (Nat.le_of_ble_eq_true rfl)
theorem pk_X1_turn : PkV RX1 yX1_turn cX1_turn 5 none 2 := ⟨⟨qi_X1_turn, qs_X1_turn, qz_X1, qc_X1_turn⟩, rfl, mh_X1.1, mh_X1.2, pd_2⟩
theorem dX2_reverse_5 : decode cX2_reverse 5 = .ok (.aload_n 0, 1) := dqo_42 (kb_of ke_X2_reverse 5 rfl)
theorem dX2_reverse_6 : decode cX2_reverse 6 = .ok (.getfield 11, 3) := dqo_180 0 11 (kb_of ke_X2_reverse 6 rfl) (kb_of ke_X2_reverse 7 rfl) (kb_of ke_X2_reverse 8 rfl)
theorem dX2_reverse_9 : decode cX2_reverse 9 = .ok (.iload_n 1, 1) := dqo_27 (kb_of ke_X2_reverse 9 rfl)
theorem dX2_reverse_10 : decode cX2_reverse 10 = .ok (.aaload, 1) := dqo_50 (kb_of ke_X2_reverse 10 rfl)
theorem dX2_reverse_11 : decode cX2_reverse 11 = .ok (.iconst 0, 1) := dqo_3 (kb_of ke_X2_reverse 11 rfl)
theorem dX2_reverse_12 : decode cX2_reverse 12 = .ok (.aload_n 0, 1) := dqo_42 (kb_of ke_X2_reverse 12 rfl)
theorem dX2_reverse_13 : decode cX2_reverse 13 = .ok (.getfield 11, 3) := dqo_180 0 11 (kb_of ke_X2_reverse 13 rfl) (kb_of ke_X2_reverse 14 rfl) (kb_of ke_X2_reverse 15 rfl)
theorem dX2_reverse_16 : decode cX2_reverse 16 = .ok (.iload_n 1, 1) := dqo_27 (kb_of ke_X2_reverse 16 rfl)
theorem dX2_reverse_17 : decode cX2_reverse 17 = .ok (.aaload, 1) := dqo_50 (kb_of ke_X2_reverse 17 rfl)
theorem dX2_reverse_18 : decode cX2_reverse 18 = .ok (.getfield 50, 3) := dqo_180 0 50 (kb_of ke_X2_reverse 18 rfl) (kb_of ke_X2_reverse 19 rfl) (kb_of ke_X2_reverse 20 rfl)
theorem dX2_reverse_21 : decode cX2_reverse 21 = .ok (.invokevirtual 105, 3) := dqo_182 0 105 (kb_of ke_X2_reverse 21 rfl) (kb_of ke_X2_reverse 22 rfl) (kb_of ke_X2_reverse 23 rfl)
theorem dX2_reverse_24 : decode cX2_reverse 24 = .ok (.aload_n 0, 1) := dqo_42 (kb_of ke_X2_reverse 24 rfl)
theorem dX2_reverse_25 : decode cX2_reverse 25 = .ok (.getfield 11, 3) := dqo_180 0 11 (kb_of ke_X2_reverse 25 rfl) (kb_of ke_X2_reverse 26 rfl) (kb_of ke_X2_reverse 27 rfl)
theorem dX2_reverse_28 : decode cX2_reverse 28 = .ok (.iload_n 1, 1) := dqo_27 (kb_of ke_X2_reverse 28 rfl)
theorem dX2_reverse_29 : decode cX2_reverse 29 = .ok (.aaload, 1) := dqo_50 (kb_of ke_X2_reverse 29 rfl)
theorem dX2_reverse_30 : decode cX2_reverse 30 = .ok (.invokevirtual 101, 3) := dqo_182 0 101 (kb_of ke_X2_reverse 30 rfl) (kb_of ke_X2_reverse 31 rfl) (kb_of ke_X2_reverse 32 rfl)
theorem dX2_reverse_33 : decode cX2_reverse 33 = .ok (.ireturn, 1) := dqo_172 (kb_of ke_X2_reverse 33 rfl)
set_option maxRecDepth 100000 in
set_option maxHeartbeats 4000000 in
theorem C_reverse_0 {l : Launch} {D : va_G} {cy : Nat → ClassId} {X : (Nat → Prop) → State → Heap → Prop} {a f : Nat → Nat → Nat} {r : Nat → Nat → Int32} {kn : Int32} {Y : va_W} {w : Nat} (hX : EnvX X) (hC : CInv f) (hw : w < 8) (h5w : f 5 w = 1) (hz : f 4 w = 0) : Cd l D cy X yX2_reverse cX2_reverse 2 (some .int) (rmz 6 240) [.ref (a 0 0), .int (nI w)] (WC cy a f r kn ++ Y) (some (.int (if f 4 w = 0 then nI 100 else r (f 0 w) (f 3 w)))) (WC cy a f r kn ++ Y) := by
  have q3 := hC.sp
  have q1_w := hC.al hw
  have q2_w := hC.th hw h5w
  have q4_w := hC.rw (i := f 1 w) q1_w.2.1
  refine Cm.of [some (.ref (a 0 0)), some (.int (nI w))] pn_X2 rfl (Nat.le_of_ble_eq_true rfl) ?_
  intro p e s m args below meth c A C hE hr hnt hn
  refine r_aload_n C dX2_reverse_0 rfl ?_
  refine r_iload_n C dX2_reverse_1 rfl ?_
  refine d_Vv (st := []) hX.stb C hE (C_needWhere_ok (f := f) (r := r) (kn := kn) (w := w) hX (by first | omega | (simp [up2, *]; done) | (simp [up2, *]; omega) | (simp only [up2_eq]; omega)) (by first | omega | (simp [up2, *]; done) | (simp [up2, *]; omega) | (simp only [up2_eq]; omega))) pk_X2_needWhere qm_X2_39 0 6 rfl rfl wc_0 rfl rfl (Nat.le_of_ble_eq_true rfl) dX2_reverse_2 ⟨Nat.le_of_ble_eq_true rfl, Nat.le_of_ble_eq_true rfl⟩ ⟨Nat.le_of_ble_eq_true rfl, Nat.le_of_ble_eq_true rfl⟩ ?_
  refine r_aload_n C dX2_reverse_5 rfl ?_
  refine s_get C 0 (by decide) qf_X2_11 rfl rfl dX2_reverse_6 ?_
  refine r_iload_n C dX2_reverse_9 rfl ?_
  refine s_parts C (by first | omega | (simp [up2, *]; done) | (simp [up2, *]; omega) | (simp only [up2_eq]; omega)) dX2_reverse_10 ?_
  refine r_iconst (v := (nI 0)) C dX2_reverse_11 (by decide) ?_
  refine r_aload_n C dX2_reverse_12 rfl ?_
  refine s_get C 0 (by decide) qf_X2_11 rfl rfl dX2_reverse_13 ?_
  refine r_iload_n C dX2_reverse_16 rfl ?_
  refine s_parts C (by first | omega | (simp [up2, *]; done) | (simp [up2, *]; omega) | (simp only [up2_eq]; omega)) dX2_reverse_17 ?_
  refine p_getN (v := .int (nI (f 4 w))) hX C hE 4 (by first | omega | (simp [up2, *]; done) | (simp [up2, *]; omega) | (simp only [up2_eq]; omega)) (by decide) qn_X2_50 rfl rfl dX2_reverse_18 ?_
  refine r_eqi (congrArg nI hz) ?_
  refine d_Vv (st := []) hX.stb C hE (C_turn0 (f := f) (r := r) (kn := kn) (i := w) hX (by first | omega | (simp [up2, *]; done) | (simp [up2, *]; omega) | (simp only [up2_eq]; omega))) pk_X1_turn qm_X2_105 (3 + w) 5 rfl rfl (wc_p (by first | omega | (simp [up2, *]; done) | (simp [up2, *]; omega) | (simp only [up2_eq]; omega))) rfl rfl (Nat.le_of_ble_eq_true rfl) dX2_reverse_21 ⟨Nat.le_of_ble_eq_true rfl, Nat.le_of_ble_eq_true rfl⟩ ⟨Nat.le_of_ble_eq_true rfl, Nat.le_of_ble_eq_true rfl⟩ ?_
  refine r_aload_n C dX2_reverse_24 rfl ?_
  refine s_get C 0 (by decide) qf_X2_11 rfl rfl dX2_reverse_25 ?_
  refine r_iload_n C dX2_reverse_28 rfl ?_
  refine s_parts C (by first | omega | (simp [up2, *]; done) | (simp [up2, *]; omega) | (simp only [up2_eq]; omega)) dX2_reverse_29 ?_
  refine d_V (st := []) hX.stb C hE (C_firstItem (f := f) (r := r) (kn := kn) (i := w) hX (by first | omega | (simp [up2, *]; done) | (simp [up2, *]; omega) | (simp only [up2_eq]; omega)) (by first | omega | (simp [up2, *]; done) | (simp [up2, *]; omega) | (simp only [up2_eq]; omega)) (by first | omega | (simp [up2, *]; done) | (simp [up2, *]; omega) | (simp only [up2_eq]; omega))) pk_X1_firstItem qm_X2_101 (3 + w) 5 rfl rfl (wc_p (by first | omega | (simp [up2, *]; done) | (simp [up2, *]; omega) | (simp only [up2_eq]; omega))) rfl rfl (Nat.le_of_ble_eq_true rfl) dX2_reverse_30 ⟨Nat.le_of_ble_eq_true rfl, Nat.le_of_ble_eq_true rfl⟩ ⟨Nat.le_of_ble_eq_true rfl, Nat.le_of_ble_eq_true rfl⟩ ?_
  exact r_iret C hr dX2_reverse_33 ⟨rfl, rfl⟩ (Nat.le_of_ble_eq_true rfl) (Nat.le_of_ble_eq_true rfl)
set_option maxRecDepth 100000 in
set_option maxHeartbeats 4000000 in
theorem C_reverse_ok {l : Launch} {D : va_G} {cy : Nat → ClassId} {X : (Nat → Prop) → State → Heap → Prop} {a f : Nat → Nat → Nat} {r : Nat → Nat → Int32} {kn : Int32} {Y : va_W} {w : Nat} (hX : EnvX X) (hC : CInv f) (hw : w < 8) (h5w : f 5 w = 1) (hz : 0 < f 4 w) : Cd l D cy X yX2_reverse cX2_reverse 2 (some .int) (rmz 6 240) [.ref (a 0 0), .int (nI w)] (WC cy a f r kn ++ Y) (some (.int (if f 4 w = 0 then nI 100 else (revS r (f 0 w) (f 3 w + 0) (f 3 w + (f 4 w))) (f 0 w) (f 3 w)))) (WC cy a f (revS r (f 0 w) (f 3 w + 0) (f 3 w + (f 4 w))) kn ++ Y) := by
  have q3 := hC.sp
  have q1_w := hC.al hw
  have q2_w := hC.th hw h5w
  have q4_w := hC.rw (i := f 1 w) q1_w.2.1
  refine Cm.of [some (.ref (a 0 0)), some (.int (nI w))] pn_X2 rfl (Nat.le_of_ble_eq_true rfl) ?_
  intro p e s m args below meth c A C hE hr hnt hn
  refine r_aload_n C dX2_reverse_0 rfl ?_
  refine r_iload_n C dX2_reverse_1 rfl ?_
  refine d_Vv (st := []) hX.stb C hE (C_needWhere_ok (f := f) (r := r) (kn := kn) (w := w) hX (by first | omega | (simp [up2, *]; done) | (simp [up2, *]; omega) | (simp only [up2_eq]; omega)) (by first | omega | (simp [up2, *]; done) | (simp [up2, *]; omega) | (simp only [up2_eq]; omega))) pk_X2_needWhere qm_X2_39 0 6 rfl rfl wc_0 rfl rfl (Nat.le_of_ble_eq_true rfl) dX2_reverse_2 ⟨Nat.le_of_ble_eq_true rfl, Nat.le_of_ble_eq_true rfl⟩ ⟨Nat.le_of_ble_eq_true rfl, Nat.le_of_ble_eq_true rfl⟩ ?_
  refine r_aload_n C dX2_reverse_5 rfl ?_
  refine s_get C 0 (by decide) qf_X2_11 rfl rfl dX2_reverse_6 ?_
  refine r_iload_n C dX2_reverse_9 rfl ?_
  refine s_parts C (by first | omega | (simp [up2, *]; done) | (simp [up2, *]; omega) | (simp only [up2_eq]; omega)) dX2_reverse_10 ?_
  refine r_iconst (v := (nI 0)) C dX2_reverse_11 (by decide) ?_
  refine r_aload_n C dX2_reverse_12 rfl ?_
  refine s_get C 0 (by decide) qf_X2_11 rfl rfl dX2_reverse_13 ?_
  refine r_iload_n C dX2_reverse_16 rfl ?_
  refine s_parts C (by first | omega | (simp [up2, *]; done) | (simp [up2, *]; omega) | (simp only [up2_eq]; omega)) dX2_reverse_17 ?_
  refine p_getN (v := .int (nI (f 4 w))) hX C hE 4 (by first | omega | (simp [up2, *]; done) | (simp [up2, *]; omega) | (simp only [up2_eq]; omega)) (by decide) qn_X2_50 rfl rfl dX2_reverse_18 ?_
  refine d_Vv (st := []) hX.stb C hE (C_turn (f := f) (r := r) (kn := kn) (i := w) (p0 := 0) (q0 := (f 4 w)) hX (by first | omega | (simp [up2, *]; done) | (simp [up2, *]; omega) | (simp only [up2_eq]; omega)) (by first | omega | (simp [up2, *]; done) | (simp [up2, *]; omega) | (simp only [up2_eq]; omega)) (by first | omega | (simp [up2, *]; done) | (simp [up2, *]; omega) | (simp only [up2_eq]; omega)) (by first | omega | (simp [up2, *]; done) | (simp [up2, *]; omega) | (simp only [up2_eq]; omega)) (by first | omega | (simp [up2, *]; done) | (simp [up2, *]; omega) | (simp only [up2_eq]; omega))) pk_X1_turn qm_X2_105 (3 + w) 5 rfl rfl (wc_p (by first | omega | (simp [up2, *]; done) | (simp [up2, *]; omega) | (simp only [up2_eq]; omega))) rfl rfl (Nat.le_of_ble_eq_true rfl) dX2_reverse_21 ⟨Nat.le_of_ble_eq_true rfl, Nat.le_of_ble_eq_true rfl⟩ ⟨Nat.le_of_ble_eq_true rfl, Nat.le_of_ble_eq_true rfl⟩ ?_
  refine r_aload_n C dX2_reverse_24 rfl ?_
  refine s_get C 0 (by decide) qf_X2_11 rfl rfl dX2_reverse_25 ?_
  refine r_iload_n C dX2_reverse_28 rfl ?_
  refine s_parts C (by first | omega | (simp [up2, *]; done) | (simp [up2, *]; omega) | (simp only [up2_eq]; omega)) dX2_reverse_29 ?_
  refine d_V (st := []) hX.stb C hE (C_firstItem (f := f) (r := (revS r (f 0 w) (f 3 w + 0) (f 3 w + (f 4 w)))) (kn := kn) (i := w) hX (by first | omega | (simp [up2, *]; done) | (simp [up2, *]; omega) | (simp only [up2_eq]; omega)) (by first | omega | (simp [up2, *]; done) | (simp [up2, *]; omega) | (simp only [up2_eq]; omega)) (by first | omega | (simp [up2, *]; done) | (simp [up2, *]; omega) | (simp only [up2_eq]; omega))) pk_X1_firstItem qm_X2_101 (3 + w) 5 rfl rfl (wc_p (by first | omega | (simp [up2, *]; done) | (simp [up2, *]; omega) | (simp only [up2_eq]; omega))) rfl rfl (Nat.le_of_ble_eq_true rfl) dX2_reverse_30 ⟨Nat.le_of_ble_eq_true rfl, Nat.le_of_ble_eq_true rfl⟩ ⟨Nat.le_of_ble_eq_true rfl, Nat.le_of_ble_eq_true rfl⟩ ?_
  exact r_iret C hr dX2_reverse_33 ⟨rfl, rfl⟩ (Nat.le_of_ble_eq_true rfl) (Nat.le_of_ble_eq_true rfl)
theorem dX2_swap_0 : decode cX2_swap 0 = .ok (.aload_n 0, 1) := dqo_42 (kb_of ke_X2_swap 0 rfl)
theorem dX2_swap_1 : decode cX2_swap 1 = .ok (.iload_n 1, 1) := dqo_27 (kb_of ke_X2_swap 1 rfl)
theorem dX2_swap_2 : decode cX2_swap 2 = .ok (.iload_n 2, 1) := dqo_28 (kb_of ke_X2_swap 2 rfl)
theorem dX2_swap_3 : decode cX2_swap 3 = .ok (.invokevirtual 62, 3) := dqo_182 0 62 (kb_of ke_X2_swap 3 rfl) (kb_of ke_X2_swap 4 rfl) (kb_of ke_X2_swap 5 rfl)
set_option maxRecDepth 100000 in
set_option maxHeartbeats 4000000 in
theorem C_swap_noW {l : Launch} {D : va_G} {cy : Nat → ClassId} {X : (Nat → Prop) → State → Heap → Prop} {a f : Nat → Nat → Nat} {r : Nat → Nat → Int32} {kn : Int32} {Y : va_W} {x : Int32} {y0 : Int32} {y1 : Int32} (hX : EnvX X) (hl : l.stackTraces = false) (hC : CInv f) (hno : noW f x) : Ce l D cy X yX2_swap cX2_swap 4 (some .int) (rmk 8 1 6 170) [.ref (a 0 0), .int x, .int y0, .int y1] (WC cy a f r kn ++ Y) "java/lang/IndexOutOfBoundsException" := by
  have q3 := hC.sp
  refine Cm.of [some (.ref (a 0 0)), some (.int x), some (.int y0), some (.int y1)] pn_X2 rfl (Nat.le_of_ble_eq_true rfl) ?_
  intro p e s m args below meth c A C hE hr hnt hn
  refine r_aload_n C dX2_swap_0 rfl ?_
  refine r_iload_n C dX2_swap_1 rfl ?_
  refine r_iload_n C dX2_swap_2 rfl ?_
  refine c_V (st := []) hX.stb C hE (C_needPlace_noW (f := f) (r := r) (kn := kn) (x := (x)) (y := (y0)) hX hl hno hC.h5) pk_X2_needPlace qm_X2_62 0 6 rfl rfl wc_0 rfl rfl (Nat.le_of_ble_eq_true rfl) dX2_swap_3 ⟨Nat.le_of_ble_eq_true rfl, Nat.le_of_ble_eq_true rfl⟩ ⟨Nat.le_of_ble_eq_true rfl, Nat.le_of_ble_eq_true rfl⟩ (fun _ _ h9 => h9.elim) (fun E9 h9 => ?_)
  subst h9
  exact r_out C hnt rfl rfl (Nat.le_of_ble_eq_true rfl) (Nat.le_of_ble_eq_true rfl)
set_option maxRecDepth 100000 in
set_option maxHeartbeats 4000000 in
theorem C_swap_no1 {l : Launch} {D : va_G} {cy : Nat → ClassId} {X : (Nat → Prop) → State → Heap → Prop} {a f : Nat → Nat → Nat} {r : Nat → Nat → Int32} {kn : Int32} {Y : va_W} {w : Nat} {y0 : Int32} {y : Int32} (hX : EnvX X) (hl : l.stackTraces = false) (hC : CInv f) (hw : w < 8) (h5w : f 5 w = 1) (hno : ¬ (0 ≤ y0 ∧ y0 < nI (f 4 w))) : Ce l D cy X yX2_swap cX2_swap 4 (some .int) (rmk 8 1 6 170) [.ref (a 0 0), .int (nI w), .int y0, .int y] (WC cy a f r kn ++ Y) "java/lang/IndexOutOfBoundsException" := by
  have q3 := hC.sp
  have q1_w := hC.al hw
  have q2_w := hC.th hw h5w
  have q4_w := hC.rw (i := f 1 w) q1_w.2.1
  refine Cm.of [some (.ref (a 0 0)), some (.int (nI w)), some (.int y0), some (.int y)] pn_X2 rfl (Nat.le_of_ble_eq_true rfl) ?_
  intro p e s m args below meth c A C hE hr hnt hn
  refine r_aload_n C dX2_swap_0 rfl ?_
  refine r_iload_n C dX2_swap_1 rfl ?_
  refine r_iload_n C dX2_swap_2 rfl ?_
  refine c_V (st := []) hX.stb C hE (C_needPlace_no (f := f) (r := r) (kn := kn) (w := w) (y := (y0)) hX hl (by first | omega | (simp [up2, *]; done) | (simp [up2, *]; omega) | (simp only [up2_eq]; omega)) (by first | omega | (simp [up2, *]; done) | (simp [up2, *]; omega) | (simp only [up2_eq]; omega)) hno) pk_X2_needPlace qm_X2_62 0 6 rfl rfl wc_0 rfl rfl (Nat.le_of_ble_eq_true rfl) dX2_swap_3 ⟨Nat.le_of_ble_eq_true rfl, Nat.le_of_ble_eq_true rfl⟩ ⟨Nat.le_of_ble_eq_true rfl, Nat.le_of_ble_eq_true rfl⟩ (fun _ _ h9 => h9.elim) (fun E9 h9 => ?_)
  subst h9
  exact r_out C hnt rfl rfl (Nat.le_of_ble_eq_true rfl) (Nat.le_of_ble_eq_true rfl)
theorem dX2_swap_6 : decode cX2_swap 6 = .ok (.aload_n 0, 1) := dqo_42 (kb_of ke_X2_swap 6 rfl)
theorem dX2_swap_7 : decode cX2_swap 7 = .ok (.iload_n 1, 1) := dqo_27 (kb_of ke_X2_swap 7 rfl)
theorem dX2_swap_8 : decode cX2_swap 8 = .ok (.iload_n 3, 1) := dqo_29 (kb_of ke_X2_swap 8 rfl)
theorem dX2_swap_9 : decode cX2_swap 9 = .ok (.invokevirtual 62, 3) := dqo_182 0 62 (kb_of ke_X2_swap 9 rfl) (kb_of ke_X2_swap 10 rfl) (kb_of ke_X2_swap 11 rfl)
set_option maxRecDepth 100000 in
set_option maxHeartbeats 4000000 in
theorem C_swap_no2 {l : Launch} {D : va_G} {cy : Nat → ClassId} {X : (Nat → Prop) → State → Heap → Prop} {a f : Nat → Nat → Nat} {r : Nat → Nat → Int32} {kn : Int32} {Y : va_W} {w : Nat} {k0 : Nat} {y0 : Int32} (hX : EnvX X) (hl : l.stackTraces = false) (hC : CInv f) (hw : w < 8) (h5w : f 5 w = 1) (hk : k0 < f 4 w) (hno : ¬ (0 ≤ y0 ∧ y0 < nI (f 4 w))) : Ce l D cy X yX2_swap cX2_swap 4 (some .int) (rmk 8 1 6 170) [.ref (a 0 0), .int (nI w), .int (nI k0), .int y0] (WC cy a f r kn ++ Y) "java/lang/IndexOutOfBoundsException" := by
  have q3 := hC.sp
  have q1_w := hC.al hw
  have q2_w := hC.th hw h5w
  have q4_w := hC.rw (i := f 1 w) q1_w.2.1
  refine Cm.of [some (.ref (a 0 0)), some (.int (nI w)), some (.int (nI k0)), some (.int y0)] pn_X2 rfl (Nat.le_of_ble_eq_true rfl) ?_
  intro p e s m args below meth c A C hE hr hnt hn
  refine r_aload_n C dX2_swap_0 rfl ?_
  refine r_iload_n C dX2_swap_1 rfl ?_
  refine r_iload_n C dX2_swap_2 rfl ?_
  refine d_Vv (st := []) hX.stb C hE (C_needPlace_ok (f := f) (r := r) (kn := kn) (w := w) (k := k0) hX (by first | omega | (simp [up2, *]; done) | (simp [up2, *]; omega) | (simp only [up2_eq]; omega)) (by first | omega | (simp [up2, *]; done) | (simp [up2, *]; omega) | (simp only [up2_eq]; omega)) (by first | omega | (simp [up2, *]; done) | (simp [up2, *]; omega) | (simp only [up2_eq]; omega)) (by first | omega | (simp [up2, *]; done) | (simp [up2, *]; omega) | (simp only [up2_eq]; omega))) pk_X2_needPlace qm_X2_62 0 6 rfl rfl wc_0 rfl rfl (Nat.le_of_ble_eq_true rfl) dX2_swap_3 ⟨Nat.le_of_ble_eq_true rfl, Nat.le_of_ble_eq_true rfl⟩ ⟨Nat.le_of_ble_eq_true rfl, Nat.le_of_ble_eq_true rfl⟩ ?_
  refine r_aload_n C dX2_swap_6 rfl ?_
  refine r_iload_n C dX2_swap_7 rfl ?_
  refine r_iload_n C dX2_swap_8 rfl ?_
  refine c_V (st := []) hX.stb C hE (C_needPlace_no (f := f) (r := r) (kn := kn) (w := w) (y := (y0)) hX hl (by first | omega | (simp [up2, *]; done) | (simp [up2, *]; omega) | (simp only [up2_eq]; omega)) (by first | omega | (simp [up2, *]; done) | (simp [up2, *]; omega) | (simp only [up2_eq]; omega)) hno) pk_X2_needPlace qm_X2_62 0 6 rfl rfl wc_0 rfl rfl (Nat.le_of_ble_eq_true rfl) dX2_swap_9 ⟨Nat.le_of_ble_eq_true rfl, Nat.le_of_ble_eq_true rfl⟩ ⟨Nat.le_of_ble_eq_true rfl, Nat.le_of_ble_eq_true rfl⟩ (fun _ _ h9 => h9.elim) (fun E9 h9 => ?_)
  subst h9
  exact r_out C hnt rfl rfl (Nat.le_of_ble_eq_true rfl) (Nat.le_of_ble_eq_true rfl)
theorem dX2_swap_12 : decode cX2_swap 12 = .ok (.aload_n 0, 1) := dqo_42 (kb_of ke_X2_swap 12 rfl)
theorem dX2_swap_13 : decode cX2_swap 13 = .ok (.getfield 11, 3) := dqo_180 0 11 (kb_of ke_X2_swap 13 rfl) (kb_of ke_X2_swap 14 rfl) (kb_of ke_X2_swap 15 rfl)
theorem dX2_swap_16 : decode cX2_swap 16 = .ok (.iload_n 1, 1) := dqo_27 (kb_of ke_X2_swap 16 rfl)
theorem dX2_swap_17 : decode cX2_swap 17 = .ok (.aaload, 1) := dqo_50 (kb_of ke_X2_swap 17 rfl)
theorem dX2_swap_18 : decode cX2_swap 18 = .ok (.iload_n 2, 1) := dqo_28 (kb_of ke_X2_swap 18 rfl)
theorem dX2_swap_19 : decode cX2_swap 19 = .ok (.iload_n 3, 1) := dqo_29 (kb_of ke_X2_swap 19 rfl)
theorem dX2_swap_20 : decode cX2_swap 20 = .ok (.invokevirtual 108, 3) := dqo_182 0 108 (kb_of ke_X2_swap 20 rfl) (kb_of ke_X2_swap 21 rfl) (kb_of ke_X2_swap 22 rfl)
theorem dX2_swap_23 : decode cX2_swap 23 = .ok (.aload_n 0, 1) := dqo_42 (kb_of ke_X2_swap 23 rfl)
theorem dX2_swap_24 : decode cX2_swap 24 = .ok (.getfield 11, 3) := dqo_180 0 11 (kb_of ke_X2_swap 24 rfl) (kb_of ke_X2_swap 25 rfl) (kb_of ke_X2_swap 26 rfl)
theorem dX2_swap_27 : decode cX2_swap 27 = .ok (.iload_n 1, 1) := dqo_27 (kb_of ke_X2_swap 27 rfl)
theorem dX2_swap_28 : decode cX2_swap 28 = .ok (.aaload, 1) := dqo_50 (kb_of ke_X2_swap 28 rfl)
theorem dX2_swap_29 : decode cX2_swap 29 = .ok (.iload_n 2, 1) := dqo_28 (kb_of ke_X2_swap 29 rfl)
theorem dX2_swap_30 : decode cX2_swap 30 = .ok (.invokevirtual 65, 3) := dqo_182 0 65 (kb_of ke_X2_swap 30 rfl) (kb_of ke_X2_swap 31 rfl) (kb_of ke_X2_swap 32 rfl)
theorem dX2_swap_33 : decode cX2_swap 33 = .ok (.ireturn, 1) := dqo_172 (kb_of ke_X2_swap 33 rfl)
set_option maxRecDepth 100000 in
set_option maxHeartbeats 4000000 in
theorem C_swap_ok {l : Launch} {D : va_G} {cy : Nat → ClassId} {X : (Nat → Prop) → State → Heap → Prop} {a f : Nat → Nat → Nat} {r : Nat → Nat → Int32} {kn : Int32} {Y : va_W} {w : Nat} {k0 : Nat} {k1 : Nat} (hX : EnvX X) (hC : CInv f) (hw : w < 8) (h5w : f 5 w = 1) (hk : k0 < f 4 w) (hk1 : k1 < f 4 w) : Cd l D cy X yX2_swap cX2_swap 4 (some .int) (rmz 6 240) [.ref (a 0 0), .int (nI w), .int (nI k0), .int (nI k1)] (WC cy a f r kn ++ Y) (some (.int ((exch2 r (f 0 w) (f 3 w + k0) (f 3 w + k1)) (f 0 w) (f 3 w + k0)))) (WC cy a f (exch2 r (f 0 w) (f 3 w + k0) (f 3 w + k1)) kn ++ Y) := by
  have q3 := hC.sp
  have q1_w := hC.al hw
  have q2_w := hC.th hw h5w
  have q4_w := hC.rw (i := f 1 w) q1_w.2.1
  refine Cm.of [some (.ref (a 0 0)), some (.int (nI w)), some (.int (nI k0)), some (.int (nI k1))] pn_X2 rfl (Nat.le_of_ble_eq_true rfl) ?_
  intro p e s m args below meth c A C hE hr hnt hn
  refine r_aload_n C dX2_swap_0 rfl ?_
  refine r_iload_n C dX2_swap_1 rfl ?_
  refine r_iload_n C dX2_swap_2 rfl ?_
  refine d_Vv (st := []) hX.stb C hE (C_needPlace_ok (f := f) (r := r) (kn := kn) (w := w) (k := k0) hX (by first | omega | (simp [up2, *]; done) | (simp [up2, *]; omega) | (simp only [up2_eq]; omega)) (by first | omega | (simp [up2, *]; done) | (simp [up2, *]; omega) | (simp only [up2_eq]; omega)) (by first | omega | (simp [up2, *]; done) | (simp [up2, *]; omega) | (simp only [up2_eq]; omega)) (by first | omega | (simp [up2, *]; done) | (simp [up2, *]; omega) | (simp only [up2_eq]; omega))) pk_X2_needPlace qm_X2_62 0 6 rfl rfl wc_0 rfl rfl (Nat.le_of_ble_eq_true rfl) dX2_swap_3 ⟨Nat.le_of_ble_eq_true rfl, Nat.le_of_ble_eq_true rfl⟩ ⟨Nat.le_of_ble_eq_true rfl, Nat.le_of_ble_eq_true rfl⟩ ?_
  refine r_aload_n C dX2_swap_6 rfl ?_
  refine r_iload_n C dX2_swap_7 rfl ?_
  refine r_iload_n C dX2_swap_8 rfl ?_
  refine d_Vv (st := []) hX.stb C hE (C_needPlace_ok (f := f) (r := r) (kn := kn) (w := w) (k := k1) hX (by first | omega | (simp [up2, *]; done) | (simp [up2, *]; omega) | (simp only [up2_eq]; omega)) (by first | omega | (simp [up2, *]; done) | (simp [up2, *]; omega) | (simp only [up2_eq]; omega)) (by first | omega | (simp [up2, *]; done) | (simp [up2, *]; omega) | (simp only [up2_eq]; omega)) (by first | omega | (simp [up2, *]; done) | (simp [up2, *]; omega) | (simp only [up2_eq]; omega))) pk_X2_needPlace qm_X2_62 0 6 rfl rfl wc_0 rfl rfl (Nat.le_of_ble_eq_true rfl) dX2_swap_9 ⟨Nat.le_of_ble_eq_true rfl, Nat.le_of_ble_eq_true rfl⟩ ⟨Nat.le_of_ble_eq_true rfl, Nat.le_of_ble_eq_true rfl⟩ ?_
  refine r_aload_n C dX2_swap_12 rfl ?_
  refine s_get C 0 (by decide) qf_X2_11 rfl rfl dX2_swap_13 ?_
  refine r_iload_n C dX2_swap_16 rfl ?_
  refine s_parts C (by first | omega | (simp [up2, *]; done) | (simp [up2, *]; omega) | (simp only [up2_eq]; omega)) dX2_swap_17 ?_
  refine r_iload_n C dX2_swap_18 rfl ?_
  refine r_iload_n C dX2_swap_19 rfl ?_
  refine d_Vv (st := []) hX.stb C hE (C_exchangeTwo (f := f) (r := r) (kn := kn) (i := w) (k1 := k0) (k2 := k1) hX (by first | omega | (simp [up2, *]; done) | (simp [up2, *]; omega) | (simp only [up2_eq]; omega)) (by first | omega | (simp [up2, *]; done) | (simp [up2, *]; omega) | (simp only [up2_eq]; omega)) (by first | omega | (simp [up2, *]; done) | (simp [up2, *]; omega) | (simp only [up2_eq]; omega)) (by first | omega | (simp [up2, *]; done) | (simp [up2, *]; omega) | (simp only [up2_eq]; omega))) pk_X1_exchangeTwo qm_X2_108 (3 + w) 5 rfl rfl (wc_p (by first | omega | (simp [up2, *]; done) | (simp [up2, *]; omega) | (simp only [up2_eq]; omega))) rfl rfl (Nat.le_of_ble_eq_true rfl) dX2_swap_20 ⟨Nat.le_of_ble_eq_true rfl, Nat.le_of_ble_eq_true rfl⟩ ⟨Nat.le_of_ble_eq_true rfl, Nat.le_of_ble_eq_true rfl⟩ ?_
  refine r_aload_n C dX2_swap_23 rfl ?_
  refine s_get C 0 (by decide) qf_X2_11 rfl rfl dX2_swap_24 ?_
  refine r_iload_n C dX2_swap_27 rfl ?_
  refine s_parts C (by first | omega | (simp [up2, *]; done) | (simp [up2, *]; omega) | (simp only [up2_eq]; omega)) dX2_swap_28 ?_
  refine r_iload_n C dX2_swap_29 rfl ?_
  refine d_V (st := []) hX.stb C hE (C_itemAt (f := f) (r := (exch2 r (f 0 w) (f 3 w + k0) (f 3 w + k1))) (kn := kn) (i := w) (k := k0) hX (by first | omega | (simp [up2, *]; done) | (simp [up2, *]; omega) | (simp only [up2_eq]; omega)) (by first | omega | (simp [up2, *]; done) | (simp [up2, *]; omega) | (simp only [up2_eq]; omega)) (by first | omega | (simp [up2, *]; done) | (simp [up2, *]; omega) | (simp only [up2_eq]; omega))) pk_X1_itemAt qm_X2_65 (3 + w) 5 rfl rfl (wc_p (by first | omega | (simp [up2, *]; done) | (simp [up2, *]; omega) | (simp only [up2_eq]; omega))) rfl rfl (Nat.le_of_ble_eq_true rfl) dX2_swap_30 ⟨Nat.le_of_ble_eq_true rfl, Nat.le_of_ble_eq_true rfl⟩ ⟨Nat.le_of_ble_eq_true rfl, Nat.le_of_ble_eq_true rfl⟩ ?_
  exact r_iret C hr dX2_swap_33 ⟨rfl, rfl⟩ (Nat.le_of_ble_eq_true rfl) (Nat.le_of_ble_eq_true rfl)
theorem dX2_riffle_0 : decode cX2_riffle 0 = .ok (.aload_n 0, 1) := dqo_42 (kb_of ke_X2_riffle 0 rfl)
theorem dX2_riffle_1 : decode cX2_riffle 1 = .ok (.iload_n 1, 1) := dqo_27 (kb_of ke_X2_riffle 1 rfl)
theorem dX2_riffle_2 : decode cX2_riffle 2 = .ok (.invokevirtual 39, 3) := dqo_182 0 39 (kb_of ke_X2_riffle 2 rfl) (kb_of ke_X2_riffle 3 rfl) (kb_of ke_X2_riffle 4 rfl)
set_option maxRecDepth 100000 in
set_option maxHeartbeats 4000000 in
theorem C_riffle_noW {l : Launch} {D : va_G} {cy : Nat → ClassId} {X : (Nat → Prop) → State → Heap → Prop} {a f : Nat → Nat → Nat} {r : Nat → Nat → Int32} {kn : Int32} {Y : va_W} {x : Int32} (hX : EnvX X) (hl : l.stackTraces = false) (hC : CInv f) (hno : noW f x) : Ce l D cy X yX2_riffle cX2_riffle 2 (some .int) (rmk 8 1 6 170) [.ref (a 0 0), .int x] (WC cy a f r kn ++ Y) "java/lang/IndexOutOfBoundsException" := by
  have q3 := hC.sp
  refine Cm.of [some (.ref (a 0 0)), some (.int x)] pn_X2 rfl (Nat.le_of_ble_eq_true rfl) ?_
  intro p e s m args below meth c A C hE hr hnt hn
  refine r_aload_n C dX2_riffle_0 rfl ?_
  refine r_iload_n C dX2_riffle_1 rfl ?_
  refine c_V (st := []) hX.stb C hE (C_needWhere_no (f := f) (r := r) (kn := kn) (x := (x)) hX hl hno hC.h5) pk_X2_needWhere qm_X2_39 0 6 rfl rfl wc_0 rfl rfl (Nat.le_of_ble_eq_true rfl) dX2_riffle_2 ⟨Nat.le_of_ble_eq_true rfl, Nat.le_of_ble_eq_true rfl⟩ ⟨Nat.le_of_ble_eq_true rfl, Nat.le_of_ble_eq_true rfl⟩ (fun _ _ h9 => h9.elim) (fun E9 h9 => ?_)
  subst h9
  exact r_out C hnt rfl rfl (Nat.le_of_ble_eq_true rfl) (Nat.le_of_ble_eq_true rfl)
theorem dX2_riffle_5 : decode cX2_riffle 5 = .ok (.aload_n 0, 1) := dqo_42 (kb_of ke_X2_riffle 5 rfl)
theorem dX2_riffle_6 : decode cX2_riffle 6 = .ok (.getfield 11, 3) := dqo_180 0 11 (kb_of ke_X2_riffle 6 rfl) (kb_of ke_X2_riffle 7 rfl) (kb_of ke_X2_riffle 8 rfl)
theorem dX2_riffle_9 : decode cX2_riffle 9 = .ok (.iload_n 1, 1) := dqo_27 (kb_of ke_X2_riffle 9 rfl)
theorem dX2_riffle_10 : decode cX2_riffle 10 = .ok (.aaload, 1) := dqo_50 (kb_of ke_X2_riffle 10 rfl)
theorem dX2_riffle_11 : decode cX2_riffle 11 = .ok (.getfield 50, 3) := dqo_180 0 50 (kb_of ke_X2_riffle 11 rfl) (kb_of ke_X2_riffle 12 rfl) (kb_of ke_X2_riffle 13 rfl)
theorem dX2_riffle_14 : decode cX2_riffle 14 = .ok (.iconst 1, 1) := dqo_4 (kb_of ke_X2_riffle 14 rfl)
theorem dX2_riffle_15 : decode cX2_riffle 15 = .ok (.if_icmp .le 22, 3) := dqo_164 0 22 (by decide) (kb_of ke_X2_riffle 15 rfl) (kb_of ke_X2_riffle 16 rfl) (kb_of ke_X2_riffle 17 rfl)
theorem dX2_riffle_37 : decode cX2_riffle 37 = .ok (.aload_n 0, 1) := dqo_42 (kb_of ke_X2_riffle 37 rfl)
theorem dX2_riffle_38 : decode cX2_riffle 38 = .ok (.getfield 11, 3) := dqo_180 0 11 (kb_of ke_X2_riffle 38 rfl) (kb_of ke_X2_riffle 39 rfl) (kb_of ke_X2_riffle 40 rfl)
theorem dX2_riffle_41 : decode cX2_riffle 41 = .ok (.iload_n 1, 1) := dqo_27 (kb_of ke_X2_riffle 41 rfl)
theorem dX2_riffle_42 : decode cX2_riffle 42 = .ok (.aaload, 1) := dqo_50 (kb_of ke_X2_riffle 42 rfl)
theorem dX2_riffle_43 : decode cX2_riffle 43 = .ok (.getfield 50, 3) := dqo_180 0 50 (kb_of ke_X2_riffle 43 rfl) (kb_of ke_X2_riffle 44 rfl) (kb_of ke_X2_riffle 45 rfl)
theorem dX2_riffle_46 : decode cX2_riffle 46 = .ok (.ireturn, 1) := dqo_172 (kb_of ke_X2_riffle 46 rfl)
set_option maxRecDepth 100000 in
set_option maxHeartbeats 4000000 in
theorem C_riffle_1 {l : Launch} {D : va_G} {cy : Nat → ClassId} {X : (Nat → Prop) → State → Heap → Prop} {a f : Nat → Nat → Nat} {r : Nat → Nat → Int32} {kn : Int32} {Y : va_W} {w : Nat} (hX : EnvX X) (hC : CInv f) (hw : w < 8) (h5w : f 5 w = 1) (hz : f 4 w ≤ 1) : Cd l D cy X yX2_riffle cX2_riffle 2 (some .int) (rmz 6 240) [.ref (a 0 0), .int (nI w)] (WC cy a f r kn ++ Y) (some (.int (nI (f 4 w)))) (WC cy a f r kn ++ Y) := by
  have q3 := hC.sp
  have q1_w := hC.al hw
  have q2_w := hC.th hw h5w
  have q4_w := hC.rw (i := f 1 w) q1_w.2.1
  refine Cm.of [some (.ref (a 0 0)), some (.int (nI w))] pn_X2 rfl (Nat.le_of_ble_eq_true rfl) ?_
  intro p e s m args below meth c A C hE hr hnt hn
  refine r_aload_n C dX2_riffle_0 rfl ?_
  refine r_iload_n C dX2_riffle_1 rfl ?_
  refine d_Vv (st := []) hX.stb C hE (C_needWhere_ok (f := f) (r := r) (kn := kn) (w := w) hX (by first | omega | (simp [up2, *]; done) | (simp [up2, *]; omega) | (simp only [up2_eq]; omega)) (by first | omega | (simp [up2, *]; done) | (simp [up2, *]; omega) | (simp only [up2_eq]; omega))) pk_X2_needWhere qm_X2_39 0 6 rfl rfl wc_0 rfl rfl (Nat.le_of_ble_eq_true rfl) dX2_riffle_2 ⟨Nat.le_of_ble_eq_true rfl, Nat.le_of_ble_eq_true rfl⟩ ⟨Nat.le_of_ble_eq_true rfl, Nat.le_of_ble_eq_true rfl⟩ ?_
  refine r_aload_n C dX2_riffle_5 rfl ?_
  refine s_get C 0 (by decide) qf_X2_11 rfl rfl dX2_riffle_6 ?_
  refine r_iload_n C dX2_riffle_9 rfl ?_
  refine s_parts C (by first | omega | (simp [up2, *]; done) | (simp [up2, *]; omega) | (simp only [up2_eq]; omega)) dX2_riffle_10 ?_
  refine p_getN (v := .int (nI (f 4 w))) hX C hE 4 (by first | omega | (simp [up2, *]; done) | (simp [up2, *]; omega) | (simp only [up2_eq]; omega)) (by decide) qn_X2_50 rfl rfl dX2_riffle_11 ?_
  refine r_iconst (v := (nI 1)) C dX2_riffle_14 (by decide) ?_
  refine r_icN_le (a := (f 4 w)) (b := 1) (tgt := 37) C (by first | omega | (simp [up2, *]; done) | (simp [up2, *]; omega) | (simp only [up2_eq]; omega)) (by first | omega | (simp [up2, *]; done) | (simp [up2, *]; omega) | (simp only [up2_eq]; omega)) dX2_riffle_15 (by decide) (fun h15_1 => ?_) (fun h15_1 => ?_)
  · skip
    refine r_aload_n C dX2_riffle_37 rfl ?_
    refine s_get C 0 (by decide) qf_X2_11 rfl rfl dX2_riffle_38 ?_
    refine r_iload_n C dX2_riffle_41 rfl ?_
    refine s_parts C (by first | omega | (simp [up2, *]; done) | (simp [up2, *]; omega) | (simp only [up2_eq]; omega)) dX2_riffle_42 ?_
    refine p_getN (v := .int (nI (f 4 w))) hX C hE 4 (by first | omega | (simp [up2, *]; done) | (simp [up2, *]; omega) | (simp only [up2_eq]; omega)) (by decide) qn_X2_50 rfl rfl dX2_riffle_43 ?_
    exact r_iret C hr dX2_riffle_46 ⟨rfl, rfl⟩ (Nat.le_of_ble_eq_true rfl) (Nat.le_of_ble_eq_true rfl)
  · exact absurd h15_1 (by first | omega | (simp [up2, *]; done) | (simp [up2, *]; omega) | (simp only [up2_eq]; omega))
theorem pk_X1_layHalvesTogether : PkV RX1 yX1_layHalvesTogether cX1_layHalvesTogether 5 none 1 := ⟨⟨qi_X1_layHalvesTogether, qs_X1_layHalvesTogether, qz_X1, qc_X1_layHalvesTogether⟩, rfl, mh_X1.1, mh_X1.2, pd_4⟩
theorem dX2_riffle_18 : decode cX2_riffle 18 = .ok (.aload_n 0, 1) := dqo_42 (kb_of ke_X2_riffle 18 rfl)
theorem dX2_riffle_19 : decode cX2_riffle 19 = .ok (.getfield 11, 3) := dqo_180 0 11 (kb_of ke_X2_riffle 19 rfl) (kb_of ke_X2_riffle 20 rfl) (kb_of ke_X2_riffle 21 rfl)
theorem dX2_riffle_22 : decode cX2_riffle 22 = .ok (.iload_n 1, 1) := dqo_27 (kb_of ke_X2_riffle 22 rfl)
theorem dX2_riffle_23 : decode cX2_riffle 23 = .ok (.aaload, 1) := dqo_50 (kb_of ke_X2_riffle 23 rfl)
theorem dX2_riffle_24 : decode cX2_riffle 24 = .ok (.aload_n 0, 1) := dqo_42 (kb_of ke_X2_riffle 24 rfl)
theorem dX2_riffle_25 : decode cX2_riffle 25 = .ok (.getfield 29, 3) := dqo_180 0 29 (kb_of ke_X2_riffle 25 rfl) (kb_of ke_X2_riffle 26 rfl) (kb_of ke_X2_riffle 27 rfl)
theorem dX2_riffle_28 : decode cX2_riffle 28 = .ok (.invokevirtual 111, 3) := dqo_182 0 111 (kb_of ke_X2_riffle 28 rfl) (kb_of ke_X2_riffle 29 rfl) (kb_of ke_X2_riffle 30 rfl)
theorem dX2_riffle_31 : decode cX2_riffle 31 = .ok (.aload_n 0, 1) := dqo_42 (kb_of ke_X2_riffle 31 rfl)
theorem dX2_riffle_32 : decode cX2_riffle 32 = .ok (.iload_n 1, 1) := dqo_27 (kb_of ke_X2_riffle 32 rfl)
theorem dX2_riffle_33 : decode cX2_riffle 33 = .ok (.iconst (-1), 1) := dqo_2 (kb_of ke_X2_riffle 33 rfl)
theorem dX2_riffle_34 : decode cX2_riffle 34 = .ok (.invokevirtual 87, 3) := dqo_182 0 87 (kb_of ke_X2_riffle 34 rfl) (kb_of ke_X2_riffle 35 rfl) (kb_of ke_X2_riffle 36 rfl)
set_option maxRecDepth 100000 in
set_option maxHeartbeats 4000000 in
theorem C_riffle_ok {l : Launch} {D : va_G} {cy : Nat → ClassId} {X : (Nat → Prop) → State → Heap → Prop} {a f : Nat → Nat → Nat} {r : Nat → Nat → Int32} {kn : Int32} {Y : va_W} {w : Nat} (hX : EnvX X) (hC : CInv f) (hw : w < 8) (h5w : f 5 w = 1) (hz : 1 < f 4 w) : Cd l D cy X yX2_riffle cX2_riffle 2 (some .int) (rmz 6 240) [.ref (a 0 0), .int (nI w)] (WC cy a f r kn ++ Y) (some (.int (nI ((up2 f 4 8 (f 4 w)) 4 w)))) (WC cy a (settleF (up2 f 4 8 (f 4 w)) w 4294967295) (scS (cpy2 r (f 0 w) (f 3 w) (f 0 8) (f 3 8) (f 4 w)) (f 0 w) (f 3 w) (f 4 w) (fun t => t) (fun q => r (f 0 w) (f 3 w + layN (f 4 w) q))) kn ++ Y) := by
  have q3 := hC.sp
  have q1_w := hC.al hw
  have q2_w := hC.th hw h5w
  have q4_w := hC.rw (i := f 1 w) q1_w.2.1
  refine Cm.of [some (.ref (a 0 0)), some (.int (nI w))] pn_X2 rfl (Nat.le_of_ble_eq_true rfl) ?_
  intro p e s m args below meth c A C hE hr hnt hn
  refine r_aload_n C dX2_riffle_0 rfl ?_
  refine r_iload_n C dX2_riffle_1 rfl ?_
  refine d_Vv (st := []) hX.stb C hE (C_needWhere_ok (f := f) (r := r) (kn := kn) (w := w) hX (by first | omega | (simp [up2, *]; done) | (simp [up2, *]; omega) | (simp only [up2_eq]; omega)) (by first | omega | (simp [up2, *]; done) | (simp [up2, *]; omega) | (simp only [up2_eq]; omega))) pk_X2_needWhere qm_X2_39 0 6 rfl rfl wc_0 rfl rfl (Nat.le_of_ble_eq_true rfl) dX2_riffle_2 ⟨Nat.le_of_ble_eq_true rfl, Nat.le_of_ble_eq_true rfl⟩ ⟨Nat.le_of_ble_eq_true rfl, Nat.le_of_ble_eq_true rfl⟩ ?_
  refine r_aload_n C dX2_riffle_5 rfl ?_
  refine s_get C 0 (by decide) qf_X2_11 rfl rfl dX2_riffle_6 ?_
  refine r_iload_n C dX2_riffle_9 rfl ?_
  refine s_parts C (by first | omega | (simp [up2, *]; done) | (simp [up2, *]; omega) | (simp only [up2_eq]; omega)) dX2_riffle_10 ?_
  refine p_getN (v := .int (nI (f 4 w))) hX C hE 4 (by first | omega | (simp [up2, *]; done) | (simp [up2, *]; omega) | (simp only [up2_eq]; omega)) (by decide) qn_X2_50 rfl rfl dX2_riffle_11 ?_
  refine r_iconst (v := (nI 1)) C dX2_riffle_14 (by decide) ?_
  refine r_icN_le (a := (f 4 w)) (b := 1) (tgt := 37) C (by first | omega | (simp [up2, *]; done) | (simp [up2, *]; omega) | (simp only [up2_eq]; omega)) (by first | omega | (simp [up2, *]; done) | (simp [up2, *]; omega) | (simp only [up2_eq]; omega)) dX2_riffle_15 (by decide) (fun h15_1 => ?_) (fun h15_1 => ?_)
  · exact absurd h15_1 (by first | omega | (simp [up2, *]; done) | (simp [up2, *]; omega) | (simp only [up2_eq]; omega))
  · skip
    refine r_aload_n C dX2_riffle_18 rfl ?_
    refine s_get C 0 (by decide) qf_X2_11 rfl rfl dX2_riffle_19 ?_
    refine r_iload_n C dX2_riffle_22 rfl ?_
    refine s_parts C (by first | omega | (simp [up2, *]; done) | (simp [up2, *]; omega) | (simp only [up2_eq]; omega)) dX2_riffle_23 ?_
    refine r_aload_n C dX2_riffle_24 rfl ?_
    refine s_get C 2 (by decide) qf_X2_29 rfl rfl dX2_riffle_25 ?_
    refine d_Vv (st := []) hX.stb C hE (C_layHalvesTogether (f := f) (r := r) (kn := kn) (i := w) (j := 8) hX (by first | omega | (simp [up2, *]; done) | (simp [up2, *]; omega) | (simp only [up2_eq]; omega)) (by first | omega | (simp [up2, *]; done) | (simp [up2, *]; omega) | (simp only [up2_eq]; omega)) (by first | omega | (simp [up2, *]; done) | (simp [up2, *]; omega) | (simp only [up2_eq]; omega)) (by first | omega | (simp [up2, *]; done) | (simp [up2, *]; omega) | (simp only [up2_eq]; omega)) (by first | omega | (simp [up2, *]; done) | (simp [up2, *]; omega) | (simp only [up2_eq]; omega)) (by first | omega | (simp [up2, *]; done) | (simp [up2, *]; omega) | (simp only [up2_eq]; omega)) (by first | omega | (simp [up2, *]; done) | (simp [up2, *]; omega) | (simp only [up2_eq]; omega)) (by first | omega | (simp [up2, *]; done) | (simp [up2, *]; omega) | (simp only [up2_eq]; omega))) pk_X1_layHalvesTogether qm_X2_111 (3 + w) 5 rfl rfl (wc_p (by first | omega | (simp [up2, *]; done) | (simp [up2, *]; omega) | (simp only [up2_eq]; omega))) rfl rfl (Nat.le_of_ble_eq_true rfl) dX2_riffle_28 ⟨Nat.le_of_ble_eq_true rfl, Nat.le_of_ble_eq_true rfl⟩ ⟨Nat.le_of_ble_eq_true rfl, Nat.le_of_ble_eq_true rfl⟩ ?_
    refine r_aload_n C dX2_riffle_31 rfl ?_
    refine r_iload_n C dX2_riffle_32 rfl ?_
    refine r_iconst (v := (nI 4294967295)) C dX2_riffle_33 (by decide) ?_
    refine d_Vv (st := []) hX.stb C hE (C_settle (f := (up2 f 4 8 (f 4 w))) (r := (scS (cpy2 r (f 0 w) (f 3 w) (f 0 8) (f 3 8) (f 4 w)) (f 0 w) (f 3 w) (f 4 w) (fun t => t) (fun q => r (f 0 w) (f 3 w + layN (f 4 w) q)))) (kn := kn) (w := w) (d0 := 4294967295) hX (by first | omega | (simp [up2, *]; done) | (simp [up2, *]; omega) | (simp only [up2_eq]; omega)) (by first | omega | (simp [up2, *]; done) | (simp [up2, *]; omega) | (simp only [up2_eq]; omega)) hC.h1 hC.hU hC.hG) pk_X2_settle qm_X2_87 0 6 rfl rfl wc_0 rfl rfl (Nat.le_of_ble_eq_true rfl) dX2_riffle_34 ⟨Nat.le_of_ble_eq_true rfl, Nat.le_of_ble_eq_true rfl⟩ ⟨Nat.le_of_ble_eq_true rfl, Nat.le_of_ble_eq_true rfl⟩ ?_
    refine r_aload_n C dX2_riffle_37 rfl ?_
    refine s_get C 0 (by decide) qf_X2_11 rfl rfl dX2_riffle_38 ?_
    refine r_iload_n C dX2_riffle_41 rfl ?_
    refine s_parts C (by first | omega | (simp [up2, *]; done) | (simp [up2, *]; omega) | (simp only [up2_eq]; omega)) dX2_riffle_42 ?_
    refine p_getN (v := .int (nI ((up2 f 4 8 (f 4 w)) 4 w))) hX C hE 4 (by first | omega | (simp [up2, *]; done) | (simp [up2, *]; omega) | (simp only [up2_eq]; omega)) (by decide) qn_X2_50 rfl rfl dX2_riffle_43 ?_
    exact r_iret C hr dX2_riffle_46 ⟨rfl, rfl⟩ (Nat.le_of_ble_eq_true rfl) (Nat.le_of_ble_eq_true rfl)
theorem dX2_unriffle_0 : decode cX2_unriffle 0 = .ok (.aload_n 0, 1) := dqo_42 (kb_of ke_X2_unriffle 0 rfl)
theorem dX2_unriffle_1 : decode cX2_unriffle 1 = .ok (.iload_n 1, 1) := dqo_27 (kb_of ke_X2_unriffle 1 rfl)
theorem dX2_unriffle_2 : decode cX2_unriffle 2 = .ok (.invokevirtual 39, 3) := dqo_182 0 39 (kb_of ke_X2_unriffle 2 rfl) (kb_of ke_X2_unriffle 3 rfl) (kb_of ke_X2_unriffle 4 rfl)
set_option maxRecDepth 100000 in
set_option maxHeartbeats 4000000 in
theorem C_unriffle_noW {l : Launch} {D : va_G} {cy : Nat → ClassId} {X : (Nat → Prop) → State → Heap → Prop} {a f : Nat → Nat → Nat} {r : Nat → Nat → Int32} {kn : Int32} {Y : va_W} {x : Int32} (hX : EnvX X) (hl : l.stackTraces = false) (hC : CInv f) (hno : noW f x) : Ce l D cy X yX2_unriffle cX2_unriffle 2 (some .int) (rmk 8 1 6 170) [.ref (a 0 0), .int x] (WC cy a f r kn ++ Y) "java/lang/IndexOutOfBoundsException" := by
  have q3 := hC.sp
  refine Cm.of [some (.ref (a 0 0)), some (.int x)] pn_X2 rfl (Nat.le_of_ble_eq_true rfl) ?_
  intro p e s m args below meth c A C hE hr hnt hn
  refine r_aload_n C dX2_unriffle_0 rfl ?_
  refine r_iload_n C dX2_unriffle_1 rfl ?_
  refine c_V (st := []) hX.stb C hE (C_needWhere_no (f := f) (r := r) (kn := kn) (x := (x)) hX hl hno hC.h5) pk_X2_needWhere qm_X2_39 0 6 rfl rfl wc_0 rfl rfl (Nat.le_of_ble_eq_true rfl) dX2_unriffle_2 ⟨Nat.le_of_ble_eq_true rfl, Nat.le_of_ble_eq_true rfl⟩ ⟨Nat.le_of_ble_eq_true rfl, Nat.le_of_ble_eq_true rfl⟩ (fun _ _ h9 => h9.elim) (fun E9 h9 => ?_)
  subst h9
  exact r_out C hnt rfl rfl (Nat.le_of_ble_eq_true rfl) (Nat.le_of_ble_eq_true rfl)
theorem dX2_unriffle_5 : decode cX2_unriffle 5 = .ok (.aload_n 0, 1) := dqo_42 (kb_of ke_X2_unriffle 5 rfl)
theorem dX2_unriffle_6 : decode cX2_unriffle 6 = .ok (.getfield 11, 3) := dqo_180 0 11 (kb_of ke_X2_unriffle 6 rfl) (kb_of ke_X2_unriffle 7 rfl) (kb_of ke_X2_unriffle 8 rfl)
theorem dX2_unriffle_9 : decode cX2_unriffle 9 = .ok (.iload_n 1, 1) := dqo_27 (kb_of ke_X2_unriffle 9 rfl)
theorem dX2_unriffle_10 : decode cX2_unriffle 10 = .ok (.aaload, 1) := dqo_50 (kb_of ke_X2_unriffle 10 rfl)
theorem dX2_unriffle_11 : decode cX2_unriffle 11 = .ok (.getfield 50, 3) := dqo_180 0 50 (kb_of ke_X2_unriffle 11 rfl) (kb_of ke_X2_unriffle 12 rfl) (kb_of ke_X2_unriffle 13 rfl)
theorem dX2_unriffle_14 : decode cX2_unriffle 14 = .ok (.iconst 1, 1) := dqo_4 (kb_of ke_X2_unriffle 14 rfl)
theorem dX2_unriffle_15 : decode cX2_unriffle 15 = .ok (.if_icmp .le 22, 3) := dqo_164 0 22 (by decide) (kb_of ke_X2_unriffle 15 rfl) (kb_of ke_X2_unriffle 16 rfl) (kb_of ke_X2_unriffle 17 rfl)
theorem dX2_unriffle_37 : decode cX2_unriffle 37 = .ok (.aload_n 0, 1) := dqo_42 (kb_of ke_X2_unriffle 37 rfl)
theorem dX2_unriffle_38 : decode cX2_unriffle 38 = .ok (.getfield 11, 3) := dqo_180 0 11 (kb_of ke_X2_unriffle 38 rfl) (kb_of ke_X2_unriffle 39 rfl) (kb_of ke_X2_unriffle 40 rfl)
theorem dX2_unriffle_41 : decode cX2_unriffle 41 = .ok (.iload_n 1, 1) := dqo_27 (kb_of ke_X2_unriffle 41 rfl)
theorem dX2_unriffle_42 : decode cX2_unriffle 42 = .ok (.aaload, 1) := dqo_50 (kb_of ke_X2_unriffle 42 rfl)
theorem dX2_unriffle_43 : decode cX2_unriffle 43 = .ok (.getfield 50, 3) := dqo_180 0 50 (kb_of ke_X2_unriffle 43 rfl) (kb_of ke_X2_unriffle 44 rfl) (kb_of ke_X2_unriffle 45 rfl)
theorem dX2_unriffle_46 : decode cX2_unriffle 46 = .ok (.ireturn, 1) := dqo_172 (kb_of ke_X2_unriffle 46 rfl)
set_option maxRecDepth 100000 in
set_option maxHeartbeats 4000000 in
theorem C_unriffle_1 {l : Launch} {D : va_G} {cy : Nat → ClassId} {X : (Nat → Prop) → State → Heap → Prop} {a f : Nat → Nat → Nat} {r : Nat → Nat → Int32} {kn : Int32} {Y : va_W} {w : Nat} (hX : EnvX X) (hC : CInv f) (hw : w < 8) (h5w : f 5 w = 1) (hz : f 4 w ≤ 1) : Cd l D cy X yX2_unriffle cX2_unriffle 2 (some .int) (rmz 6 240) [.ref (a 0 0), .int (nI w)] (WC cy a f r kn ++ Y) (some (.int (nI (f 4 w)))) (WC cy a f r kn ++ Y) := by
  have q3 := hC.sp
  have q1_w := hC.al hw
  have q2_w := hC.th hw h5w
  have q4_w := hC.rw (i := f 1 w) q1_w.2.1
  refine Cm.of [some (.ref (a 0 0)), some (.int (nI w))] pn_X2 rfl (Nat.le_of_ble_eq_true rfl) ?_
  intro p e s m args below meth c A C hE hr hnt hn
  refine r_aload_n C dX2_unriffle_0 rfl ?_
  refine r_iload_n C dX2_unriffle_1 rfl ?_
  refine d_Vv (st := []) hX.stb C hE (C_needWhere_ok (f := f) (r := r) (kn := kn) (w := w) hX (by first | omega | (simp [up2, *]; done) | (simp [up2, *]; omega) | (simp only [up2_eq]; omega)) (by first | omega | (simp [up2, *]; done) | (simp [up2, *]; omega) | (simp only [up2_eq]; omega))) pk_X2_needWhere qm_X2_39 0 6 rfl rfl wc_0 rfl rfl (Nat.le_of_ble_eq_true rfl) dX2_unriffle_2 ⟨Nat.le_of_ble_eq_true rfl, Nat.le_of_ble_eq_true rfl⟩ ⟨Nat.le_of_ble_eq_true rfl, Nat.le_of_ble_eq_true rfl⟩ ?_
  refine r_aload_n C dX2_unriffle_5 rfl ?_
  refine s_get C 0 (by decide) qf_X2_11 rfl rfl dX2_unriffle_6 ?_
  refine r_iload_n C dX2_unriffle_9 rfl ?_
  refine s_parts C (by first | omega | (simp [up2, *]; done) | (simp [up2, *]; omega) | (simp only [up2_eq]; omega)) dX2_unriffle_10 ?_
  refine p_getN (v := .int (nI (f 4 w))) hX C hE 4 (by first | omega | (simp [up2, *]; done) | (simp [up2, *]; omega) | (simp only [up2_eq]; omega)) (by decide) qn_X2_50 rfl rfl dX2_unriffle_11 ?_
  refine r_iconst (v := (nI 1)) C dX2_unriffle_14 (by decide) ?_
  refine r_icN_le (a := (f 4 w)) (b := 1) (tgt := 37) C (by first | omega | (simp [up2, *]; done) | (simp [up2, *]; omega) | (simp only [up2_eq]; omega)) (by first | omega | (simp [up2, *]; done) | (simp [up2, *]; omega) | (simp only [up2_eq]; omega)) dX2_unriffle_15 (by decide) (fun h15_1 => ?_) (fun h15_1 => ?_)
  · skip
    refine r_aload_n C dX2_unriffle_37 rfl ?_
    refine s_get C 0 (by decide) qf_X2_11 rfl rfl dX2_unriffle_38 ?_
    refine r_iload_n C dX2_unriffle_41 rfl ?_
    refine s_parts C (by first | omega | (simp [up2, *]; done) | (simp [up2, *]; omega) | (simp only [up2_eq]; omega)) dX2_unriffle_42 ?_
    refine p_getN (v := .int (nI (f 4 w))) hX C hE 4 (by first | omega | (simp [up2, *]; done) | (simp [up2, *]; omega) | (simp only [up2_eq]; omega)) (by decide) qn_X2_50 rfl rfl dX2_unriffle_43 ?_
    exact r_iret C hr dX2_unriffle_46 ⟨rfl, rfl⟩ (Nat.le_of_ble_eq_true rfl) (Nat.le_of_ble_eq_true rfl)
  · exact absurd h15_1 (by first | omega | (simp [up2, *]; done) | (simp [up2, *]; omega) | (simp only [up2_eq]; omega))
theorem pk_X1_drawHalvesApart : PkV RX1 yX1_drawHalvesApart cX1_drawHalvesApart 5 none 1 := ⟨⟨qi_X1_drawHalvesApart, qs_X1_drawHalvesApart, qz_X1, qc_X1_drawHalvesApart⟩, rfl, mh_X1.1, mh_X1.2, pd_4⟩
theorem dX2_unriffle_18 : decode cX2_unriffle 18 = .ok (.aload_n 0, 1) := dqo_42 (kb_of ke_X2_unriffle 18 rfl)
theorem dX2_unriffle_19 : decode cX2_unriffle 19 = .ok (.getfield 11, 3) := dqo_180 0 11 (kb_of ke_X2_unriffle 19 rfl) (kb_of ke_X2_unriffle 20 rfl) (kb_of ke_X2_unriffle 21 rfl)
theorem dX2_unriffle_22 : decode cX2_unriffle 22 = .ok (.iload_n 1, 1) := dqo_27 (kb_of ke_X2_unriffle 22 rfl)
theorem dX2_unriffle_23 : decode cX2_unriffle 23 = .ok (.aaload, 1) := dqo_50 (kb_of ke_X2_unriffle 23 rfl)
theorem dX2_unriffle_24 : decode cX2_unriffle 24 = .ok (.aload_n 0, 1) := dqo_42 (kb_of ke_X2_unriffle 24 rfl)
theorem dX2_unriffle_25 : decode cX2_unriffle 25 = .ok (.getfield 29, 3) := dqo_180 0 29 (kb_of ke_X2_unriffle 25 rfl) (kb_of ke_X2_unriffle 26 rfl) (kb_of ke_X2_unriffle 27 rfl)
theorem dX2_unriffle_28 : decode cX2_unriffle 28 = .ok (.invokevirtual 114, 3) := dqo_182 0 114 (kb_of ke_X2_unriffle 28 rfl) (kb_of ke_X2_unriffle 29 rfl) (kb_of ke_X2_unriffle 30 rfl)
theorem dX2_unriffle_31 : decode cX2_unriffle 31 = .ok (.aload_n 0, 1) := dqo_42 (kb_of ke_X2_unriffle 31 rfl)
theorem dX2_unriffle_32 : decode cX2_unriffle 32 = .ok (.iload_n 1, 1) := dqo_27 (kb_of ke_X2_unriffle 32 rfl)
theorem dX2_unriffle_33 : decode cX2_unriffle 33 = .ok (.iconst (-1), 1) := dqo_2 (kb_of ke_X2_unriffle 33 rfl)
theorem dX2_unriffle_34 : decode cX2_unriffle 34 = .ok (.invokevirtual 87, 3) := dqo_182 0 87 (kb_of ke_X2_unriffle 34 rfl) (kb_of ke_X2_unriffle 35 rfl) (kb_of ke_X2_unriffle 36 rfl)
set_option maxRecDepth 100000 in
set_option maxHeartbeats 4000000 in
theorem C_unriffle_ok {l : Launch} {D : va_G} {cy : Nat → ClassId} {X : (Nat → Prop) → State → Heap → Prop} {a f : Nat → Nat → Nat} {r : Nat → Nat → Int32} {kn : Int32} {Y : va_W} {w : Nat} (hX : EnvX X) (hC : CInv f) (hw : w < 8) (h5w : f 5 w = 1) (hz : 1 < f 4 w) : Cd l D cy X yX2_unriffle cX2_unriffle 2 (some .int) (rmz 6 240) [.ref (a 0 0), .int (nI w)] (WC cy a f r kn ++ Y) (some (.int (nI ((up2 f 4 8 (f 4 w)) 4 w)))) (WC cy a (settleF (up2 f 4 8 (f 4 w)) w 4294967295) (scS (cpy2 r (f 0 w) (f 3 w) (f 0 8) (f 3 8) (f 4 w)) (f 0 w) (f 3 w) (f 4 w) (unlN (f 4 w)) (fun q => r (f 0 w) (f 3 w + q))) kn ++ Y) := by
  have q3 := hC.sp
  have q1_w := hC.al hw
  have q2_w := hC.th hw h5w
  have q4_w := hC.rw (i := f 1 w) q1_w.2.1
  refine Cm.of [some (.ref (a 0 0)), some (.int (nI w))] pn_X2 rfl (Nat.le_of_ble_eq_true rfl) ?_
  intro p e s m args below meth c A C hE hr hnt hn
  refine r_aload_n C dX2_unriffle_0 rfl ?_
  refine r_iload_n C dX2_unriffle_1 rfl ?_
  refine d_Vv (st := []) hX.stb C hE (C_needWhere_ok (f := f) (r := r) (kn := kn) (w := w) hX (by first | omega | (simp [up2, *]; done) | (simp [up2, *]; omega) | (simp only [up2_eq]; omega)) (by first | omega | (simp [up2, *]; done) | (simp [up2, *]; omega) | (simp only [up2_eq]; omega))) pk_X2_needWhere qm_X2_39 0 6 rfl rfl wc_0 rfl rfl (Nat.le_of_ble_eq_true rfl) dX2_unriffle_2 ⟨Nat.le_of_ble_eq_true rfl, Nat.le_of_ble_eq_true rfl⟩ ⟨Nat.le_of_ble_eq_true rfl, Nat.le_of_ble_eq_true rfl⟩ ?_
  refine r_aload_n C dX2_unriffle_5 rfl ?_
  refine s_get C 0 (by decide) qf_X2_11 rfl rfl dX2_unriffle_6 ?_
  refine r_iload_n C dX2_unriffle_9 rfl ?_
  refine s_parts C (by first | omega | (simp [up2, *]; done) | (simp [up2, *]; omega) | (simp only [up2_eq]; omega)) dX2_unriffle_10 ?_
  refine p_getN (v := .int (nI (f 4 w))) hX C hE 4 (by first | omega | (simp [up2, *]; done) | (simp [up2, *]; omega) | (simp only [up2_eq]; omega)) (by decide) qn_X2_50 rfl rfl dX2_unriffle_11 ?_
  refine r_iconst (v := (nI 1)) C dX2_unriffle_14 (by decide) ?_
  refine r_icN_le (a := (f 4 w)) (b := 1) (tgt := 37) C (by first | omega | (simp [up2, *]; done) | (simp [up2, *]; omega) | (simp only [up2_eq]; omega)) (by first | omega | (simp [up2, *]; done) | (simp [up2, *]; omega) | (simp only [up2_eq]; omega)) dX2_unriffle_15 (by decide) (fun h15_1 => ?_) (fun h15_1 => ?_)
  · exact absurd h15_1 (by first | omega | (simp [up2, *]; done) | (simp [up2, *]; omega) | (simp only [up2_eq]; omega))
  · skip
    refine r_aload_n C dX2_unriffle_18 rfl ?_
    refine s_get C 0 (by decide) qf_X2_11 rfl rfl dX2_unriffle_19 ?_
    refine r_iload_n C dX2_unriffle_22 rfl ?_
    refine s_parts C (by first | omega | (simp [up2, *]; done) | (simp [up2, *]; omega) | (simp only [up2_eq]; omega)) dX2_unriffle_23 ?_
    refine r_aload_n C dX2_unriffle_24 rfl ?_
    refine s_get C 2 (by decide) qf_X2_29 rfl rfl dX2_unriffle_25 ?_
    refine d_Vv (st := []) hX.stb C hE (C_drawHalvesApart (f := f) (r := r) (kn := kn) (i := w) (j := 8) hX (by first | omega | (simp [up2, *]; done) | (simp [up2, *]; omega) | (simp only [up2_eq]; omega)) (by first | omega | (simp [up2, *]; done) | (simp [up2, *]; omega) | (simp only [up2_eq]; omega)) (by first | omega | (simp [up2, *]; done) | (simp [up2, *]; omega) | (simp only [up2_eq]; omega)) (by first | omega | (simp [up2, *]; done) | (simp [up2, *]; omega) | (simp only [up2_eq]; omega)) (by first | omega | (simp [up2, *]; done) | (simp [up2, *]; omega) | (simp only [up2_eq]; omega)) (by first | omega | (simp [up2, *]; done) | (simp [up2, *]; omega) | (simp only [up2_eq]; omega)) (by first | omega | (simp [up2, *]; done) | (simp [up2, *]; omega) | (simp only [up2_eq]; omega)) (by first | omega | (simp [up2, *]; done) | (simp [up2, *]; omega) | (simp only [up2_eq]; omega))) pk_X1_drawHalvesApart qm_X2_114 (3 + w) 5 rfl rfl (wc_p (by first | omega | (simp [up2, *]; done) | (simp [up2, *]; omega) | (simp only [up2_eq]; omega))) rfl rfl (Nat.le_of_ble_eq_true rfl) dX2_unriffle_28 ⟨Nat.le_of_ble_eq_true rfl, Nat.le_of_ble_eq_true rfl⟩ ⟨Nat.le_of_ble_eq_true rfl, Nat.le_of_ble_eq_true rfl⟩ ?_
    refine r_aload_n C dX2_unriffle_31 rfl ?_
    refine r_iload_n C dX2_unriffle_32 rfl ?_
    refine r_iconst (v := (nI 4294967295)) C dX2_unriffle_33 (by decide) ?_
    refine d_Vv (st := []) hX.stb C hE (C_settle (f := (up2 f 4 8 (f 4 w))) (r := (scS (cpy2 r (f 0 w) (f 3 w) (f 0 8) (f 3 8) (f 4 w)) (f 0 w) (f 3 w) (f 4 w) (unlN (f 4 w)) (fun q => r (f 0 w) (f 3 w + q)))) (kn := kn) (w := w) (d0 := 4294967295) hX (by first | omega | (simp [up2, *]; done) | (simp [up2, *]; omega) | (simp only [up2_eq]; omega)) (by first | omega | (simp [up2, *]; done) | (simp [up2, *]; omega) | (simp only [up2_eq]; omega)) hC.h1 hC.hU hC.hG) pk_X2_settle qm_X2_87 0 6 rfl rfl wc_0 rfl rfl (Nat.le_of_ble_eq_true rfl) dX2_unriffle_34 ⟨Nat.le_of_ble_eq_true rfl, Nat.le_of_ble_eq_true rfl⟩ ⟨Nat.le_of_ble_eq_true rfl, Nat.le_of_ble_eq_true rfl⟩ ?_
    refine r_aload_n C dX2_unriffle_37 rfl ?_
    refine s_get C 0 (by decide) qf_X2_11 rfl rfl dX2_unriffle_38 ?_
    refine r_iload_n C dX2_unriffle_41 rfl ?_
    refine s_parts C (by first | omega | (simp [up2, *]; done) | (simp [up2, *]; omega) | (simp only [up2_eq]; omega)) dX2_unriffle_42 ?_
    refine p_getN (v := .int (nI ((up2 f 4 8 (f 4 w)) 4 w))) hX C hE 4 (by first | omega | (simp [up2, *]; done) | (simp [up2, *]; omega) | (simp only [up2_eq]; omega)) (by decide) qn_X2_50 rfl rfl dX2_unriffle_43 ?_
    exact r_iret C hr dX2_unriffle_46 ⟨rfl, rfl⟩ (Nat.le_of_ble_eq_true rfl) (Nat.le_of_ble_eq_true rfl)
theorem dX2_sort_0 : decode cX2_sort 0 = .ok (.aload_n 0, 1) := dqo_42 (kb_of ke_X2_sort 0 rfl)
theorem dX2_sort_1 : decode cX2_sort 1 = .ok (.iload_n 1, 1) := dqo_27 (kb_of ke_X2_sort 1 rfl)
theorem dX2_sort_2 : decode cX2_sort 2 = .ok (.invokevirtual 39, 3) := dqo_182 0 39 (kb_of ke_X2_sort 2 rfl) (kb_of ke_X2_sort 3 rfl) (kb_of ke_X2_sort 4 rfl)
set_option maxRecDepth 100000 in
set_option maxHeartbeats 4000000 in
theorem C_sort_noW {l : Launch} {D : va_G} {cy : Nat → ClassId} {X : (Nat → Prop) → State → Heap → Prop} {a f : Nat → Nat → Nat} {r : Nat → Nat → Int32} {kn : Int32} {Y : va_W} {x : Int32} (hX : EnvX X) (hl : l.stackTraces = false) (hC : CInv f) (hno : noW f x) : Ce l D cy X yX2_sort cX2_sort 2 (some .int) (rmk 8 1 6 170) [.ref (a 0 0), .int x] (WC cy a f r kn ++ Y) "java/lang/IndexOutOfBoundsException" := by
  have q3 := hC.sp
  refine Cm.of [some (.ref (a 0 0)), some (.int x)] pn_X2 rfl (Nat.le_of_ble_eq_true rfl) ?_
  intro p e s m args below meth c A C hE hr hnt hn
  refine r_aload_n C dX2_sort_0 rfl ?_
  refine r_iload_n C dX2_sort_1 rfl ?_
  refine c_V (st := []) hX.stb C hE (C_needWhere_no (f := f) (r := r) (kn := kn) (x := (x)) hX hl hno hC.h5) pk_X2_needWhere qm_X2_39 0 6 rfl rfl wc_0 rfl rfl (Nat.le_of_ble_eq_true rfl) dX2_sort_2 ⟨Nat.le_of_ble_eq_true rfl, Nat.le_of_ble_eq_true rfl⟩ ⟨Nat.le_of_ble_eq_true rfl, Nat.le_of_ble_eq_true rfl⟩ (fun _ _ h9 => h9.elim) (fun E9 h9 => ?_)
  subst h9
  exact r_out C hnt rfl rfl (Nat.le_of_ble_eq_true rfl) (Nat.le_of_ble_eq_true rfl)
theorem pk_X1_arrange : PkV RX1 yX1_arrange cX1_arrange 5 none 1 := ⟨⟨qi_X1_arrange, qs_X1_arrange, qz_X1, qc_X1_arrange⟩, rfl, mh_X1.1, mh_X1.2, pd_6⟩
theorem dX2_sort_5 : decode cX2_sort 5 = .ok (.aload_n 0, 1) := dqo_42 (kb_of ke_X2_sort 5 rfl)
theorem dX2_sort_6 : decode cX2_sort 6 = .ok (.getfield 11, 3) := dqo_180 0 11 (kb_of ke_X2_sort 6 rfl) (kb_of ke_X2_sort 7 rfl) (kb_of ke_X2_sort 8 rfl)
theorem dX2_sort_9 : decode cX2_sort 9 = .ok (.iload_n 1, 1) := dqo_27 (kb_of ke_X2_sort 9 rfl)
theorem dX2_sort_10 : decode cX2_sort 10 = .ok (.aaload, 1) := dqo_50 (kb_of ke_X2_sort 10 rfl)
theorem dX2_sort_11 : decode cX2_sort 11 = .ok (.iconst 3, 1) := dqo_6 (kb_of ke_X2_sort 11 rfl)
theorem dX2_sort_12 : decode cX2_sort 12 = .ok (.invokevirtual 117, 3) := dqo_182 0 117 (kb_of ke_X2_sort 12 rfl) (kb_of ke_X2_sort 13 rfl) (kb_of ke_X2_sort 14 rfl)
theorem dX2_sort_15 : decode cX2_sort 15 = .ok (.aload_n 0, 1) := dqo_42 (kb_of ke_X2_sort 15 rfl)
theorem dX2_sort_16 : decode cX2_sort 16 = .ok (.iload_n 1, 1) := dqo_27 (kb_of ke_X2_sort 16 rfl)
theorem dX2_sort_17 : decode cX2_sort 17 = .ok (.iconst (-1), 1) := dqo_2 (kb_of ke_X2_sort 17 rfl)
theorem dX2_sort_18 : decode cX2_sort 18 = .ok (.invokevirtual 87, 3) := dqo_182 0 87 (kb_of ke_X2_sort 18 rfl) (kb_of ke_X2_sort 19 rfl) (kb_of ke_X2_sort 20 rfl)
theorem dX2_sort_21 : decode cX2_sort 21 = .ok (.aload_n 0, 1) := dqo_42 (kb_of ke_X2_sort 21 rfl)
theorem dX2_sort_22 : decode cX2_sort 22 = .ok (.getfield 11, 3) := dqo_180 0 11 (kb_of ke_X2_sort 22 rfl) (kb_of ke_X2_sort 23 rfl) (kb_of ke_X2_sort 24 rfl)
theorem dX2_sort_25 : decode cX2_sort 25 = .ok (.iload_n 1, 1) := dqo_27 (kb_of ke_X2_sort 25 rfl)
theorem dX2_sort_26 : decode cX2_sort 26 = .ok (.aaload, 1) := dqo_50 (kb_of ke_X2_sort 26 rfl)
theorem dX2_sort_27 : decode cX2_sort 27 = .ok (.invokevirtual 101, 3) := dqo_182 0 101 (kb_of ke_X2_sort 27 rfl) (kb_of ke_X2_sort 28 rfl) (kb_of ke_X2_sort 29 rfl)
theorem dX2_sort_30 : decode cX2_sort 30 = .ok (.ireturn, 1) := dqo_172 (kb_of ke_X2_sort 30 rfl)
set_option maxRecDepth 100000 in
set_option maxHeartbeats 4000000 in
theorem C_sort_ok {l : Launch} {D : va_G} {cy : Nat → ClassId} {X : (Nat → Prop) → State → Heap → Prop} {a f : Nat → Nat → Nat} {r : Nat → Nat → Int32} {kn : Int32} {Y : va_W} {w : Nat} (hX : EnvX X) (hC : CInv f) (hw : w < 8) (h5w : f 5 w = 1) : Cd l D cy X yX2_sort cX2_sort 2 (some .int) (rmz 6 240) [.ref (a 0 0), .int (nI w)] (WC cy a f r kn ++ Y) (some (.int (if f 4 w = 0 then nI 100 else (srF (f 0 w) (f 3 w) 3 (f 4 w - 1) 1 r) (f 0 w) (f 3 w)))) (WC cy a (settleF f w 4294967295) (srF (f 0 w) (f 3 w) 3 (f 4 w - 1) 1 r) kn ++ Y) := by
  have q3 := hC.sp
  have q1_w := hC.al hw
  have q2_w := hC.th hw h5w
  have q4_w := hC.rw (i := f 1 w) q1_w.2.1
  refine Cm.of [some (.ref (a 0 0)), some (.int (nI w))] pn_X2 rfl (Nat.le_of_ble_eq_true rfl) ?_
  intro p e s m args below meth c A C hE hr hnt hn
  refine r_aload_n C dX2_sort_0 rfl ?_
  refine r_iload_n C dX2_sort_1 rfl ?_
  refine d_Vv (st := []) hX.stb C hE (C_needWhere_ok (f := f) (r := r) (kn := kn) (w := w) hX (by first | omega | (simp [up2, *]; done) | (simp [up2, *]; omega) | (simp only [up2_eq]; omega)) (by first | omega | (simp [up2, *]; done) | (simp [up2, *]; omega) | (simp only [up2_eq]; omega))) pk_X2_needWhere qm_X2_39 0 6 rfl rfl wc_0 rfl rfl (Nat.le_of_ble_eq_true rfl) dX2_sort_2 ⟨Nat.le_of_ble_eq_true rfl, Nat.le_of_ble_eq_true rfl⟩ ⟨Nat.le_of_ble_eq_true rfl, Nat.le_of_ble_eq_true rfl⟩ ?_
  refine r_aload_n C dX2_sort_5 rfl ?_
  refine s_get C 0 (by decide) qf_X2_11 rfl rfl dX2_sort_6 ?_
  refine r_iload_n C dX2_sort_9 rfl ?_
  refine s_parts C (by first | omega | (simp [up2, *]; done) | (simp [up2, *]; omega) | (simp only [up2_eq]; omega)) dX2_sort_10 ?_
  refine r_iconst (v := (nI 3)) C dX2_sort_11 (by decide) ?_
  refine d_Vv (st := []) hX.stb C hE (C_arrange (f := f) (r := r) (kn := kn) (i := w) (b := 3) hX (by first | omega | (simp [up2, *]; done) | (simp [up2, *]; omega) | (simp only [up2_eq]; omega)) (show f 0 w < 7 by omega) (show f 3 w + f 4 w ≤ 12 by omega) (by first | omega | (simp [up2, *]; done) | (simp [up2, *]; omega) | (simp only [up2_eq]; omega))) pk_X1_arrange qm_X2_117 (3 + w) 5 rfl rfl (wc_p (by first | omega | (simp [up2, *]; done) | (simp [up2, *]; omega) | (simp only [up2_eq]; omega))) rfl rfl (Nat.le_of_ble_eq_true rfl) dX2_sort_12 ⟨Nat.le_of_ble_eq_true rfl, Nat.le_of_ble_eq_true rfl⟩ ⟨Nat.le_of_ble_eq_true rfl, Nat.le_of_ble_eq_true rfl⟩ ?_
  refine r_aload_n C dX2_sort_15 rfl ?_
  refine r_iload_n C dX2_sort_16 rfl ?_
  refine r_iconst (v := (nI 4294967295)) C dX2_sort_17 (by decide) ?_
  refine d_Vv (st := []) hX.stb C hE (C_settle (f := f) (r := (srF (f 0 w) (f 3 w) 3 (f 4 w - 1) 1 r)) (kn := kn) (w := w) (d0 := 4294967295) hX (by first | omega | (simp [up2, *]; done) | (simp [up2, *]; omega) | (simp only [up2_eq]; omega)) (by first | omega | (simp [up2, *]; done) | (simp [up2, *]; omega) | (simp only [up2_eq]; omega)) hC.h1 hC.hU hC.hG) pk_X2_settle qm_X2_87 0 6 rfl rfl wc_0 rfl rfl (Nat.le_of_ble_eq_true rfl) dX2_sort_18 ⟨Nat.le_of_ble_eq_true rfl, Nat.le_of_ble_eq_true rfl⟩ ⟨Nat.le_of_ble_eq_true rfl, Nat.le_of_ble_eq_true rfl⟩ ?_
  refine r_aload_n C dX2_sort_21 rfl ?_
  refine s_get C 0 (by decide) qf_X2_11 rfl rfl dX2_sort_22 ?_
  refine r_iload_n C dX2_sort_25 rfl ?_
  refine s_parts C (by first | omega | (simp [up2, *]; done) | (simp [up2, *]; omega) | (simp only [up2_eq]; omega)) dX2_sort_26 ?_
  refine d_V (st := []) hX.stb C hE (C_firstItem (f := (settleF f w 4294967295)) (r := (srF (f 0 w) (f 3 w) 3 (f 4 w - 1) 1 r)) (kn := kn) (i := w) hX (by first | omega | (simp [up2, *]; done) | (simp [up2, *]; omega) | (simp only [up2_eq]; omega)) (show f 0 w < 7 by omega) (show f 3 w + f 4 w ≤ 12 by omega)) pk_X1_firstItem qm_X2_101 (3 + w) 5 rfl rfl (wc_p (by first | omega | (simp [up2, *]; done) | (simp [up2, *]; omega) | (simp only [up2_eq]; omega))) rfl rfl (Nat.le_of_ble_eq_true rfl) dX2_sort_27 ⟨Nat.le_of_ble_eq_true rfl, Nat.le_of_ble_eq_true rfl⟩ ⟨Nat.le_of_ble_eq_true rfl, Nat.le_of_ble_eq_true rfl⟩ ?_
  exact r_iret C hr dX2_sort_30 ⟨rfl, rfl⟩ (Nat.le_of_ble_eq_true rfl) (Nat.le_of_ble_eq_true rfl)
theorem dX2_sortBy_0 : decode cX2_sortBy 0 = .ok (.aload_n 0, 1) := dqo_42 (kb_of ke_X2_sortBy 0 rfl)
theorem dX2_sortBy_1 : decode cX2_sortBy 1 = .ok (.iload_n 1, 1) := dqo_27 (kb_of ke_X2_sortBy 1 rfl)
theorem dX2_sortBy_2 : decode cX2_sortBy 2 = .ok (.invokevirtual 39, 3) := dqo_182 0 39 (kb_of ke_X2_sortBy 2 rfl) (kb_of ke_X2_sortBy 3 rfl) (kb_of ke_X2_sortBy 4 rfl)
set_option maxRecDepth 100000 in
set_option maxHeartbeats 4000000 in
theorem C_sortBy_noW {l : Launch} {D : va_G} {cy : Nat → ClassId} {X : (Nat → Prop) → State → Heap → Prop} {a f : Nat → Nat → Nat} {r : Nat → Nat → Int32} {kn : Int32} {Y : va_W} {x : Int32} {y0 : Int32} (hX : EnvX X) (hl : l.stackTraces = false) (hC : CInv f) (hno : noW f x) : Ce l D cy X yX2_sortBy cX2_sortBy 3 (some .int) (rmk 8 1 6 170) [.ref (a 0 0), .int x, .int y0] (WC cy a f r kn ++ Y) "java/lang/IndexOutOfBoundsException" := by
  have q3 := hC.sp
  refine Cm.of [some (.ref (a 0 0)), some (.int x), some (.int y0)] pn_X2 rfl (Nat.le_of_ble_eq_true rfl) ?_
  intro p e s m args below meth c A C hE hr hnt hn
  refine r_aload_n C dX2_sortBy_0 rfl ?_
  refine r_iload_n C dX2_sortBy_1 rfl ?_
  refine c_V (st := []) hX.stb C hE (C_needWhere_no (f := f) (r := r) (kn := kn) (x := (x)) hX hl hno hC.h5) pk_X2_needWhere qm_X2_39 0 6 rfl rfl wc_0 rfl rfl (Nat.le_of_ble_eq_true rfl) dX2_sortBy_2 ⟨Nat.le_of_ble_eq_true rfl, Nat.le_of_ble_eq_true rfl⟩ ⟨Nat.le_of_ble_eq_true rfl, Nat.le_of_ble_eq_true rfl⟩ (fun _ _ h9 => h9.elim) (fun E9 h9 => ?_)
  subst h9
  exact r_out C hnt rfl rfl (Nat.le_of_ble_eq_true rfl) (Nat.le_of_ble_eq_true rfl)
theorem dX2_sortBy_5 : decode cX2_sortBy 5 = .ok (.iload_n 2, 1) := dqo_28 (kb_of ke_X2_sortBy 5 rfl)
theorem dX2_sortBy_6 : decode cX2_sortBy 6 = .ok (.ifCond .lt 8, 3) := dqo_155 0 8 (by decide) (kb_of ke_X2_sortBy 6 rfl) (kb_of ke_X2_sortBy 7 rfl) (kb_of ke_X2_sortBy 8 rfl)
theorem dX2_sortBy_9 : decode cX2_sortBy 9 = .ok (.iload_n 2, 1) := dqo_28 (kb_of ke_X2_sortBy 9 rfl)
theorem dX2_sortBy_10 : decode cX2_sortBy 10 = .ok (.iconst 2, 1) := dqo_5 (kb_of ke_X2_sortBy 10 rfl)
theorem dX2_sortBy_11 : decode cX2_sortBy 11 = .ok (.if_icmp .le 13, 3) := dqo_164 0 13 (by decide) (kb_of ke_X2_sortBy 11 rfl) (kb_of ke_X2_sortBy 12 rfl) (kb_of ke_X2_sortBy 13 rfl)
theorem dX2_sortBy_14 : decode cX2_sortBy 14 = .ok (.new 90, 3) := dqo_187 0 90 (kb_of ke_X2_sortBy 14 rfl) (kb_of ke_X2_sortBy 15 rfl) (kb_of ke_X2_sortBy 16 rfl)
theorem dX2_sortBy_17 : decode cX2_sortBy 17 = .ok (.dup, 1) := dqo_89 (kb_of ke_X2_sortBy 17 rfl)
theorem dX2_sortBy_18 : decode cX2_sortBy 18 = .ok (.ldc 120, 2) := dqo_18 120 (kb_of ke_X2_sortBy 18 rfl) (kb_of ke_X2_sortBy 19 rfl)
theorem dX2_sortBy_20 : decode cX2_sortBy 20 = .ok (.invokespecial 94, 3) := dqo_183 0 94 (kb_of ke_X2_sortBy 20 rfl) (kb_of ke_X2_sortBy 21 rfl) (kb_of ke_X2_sortBy 22 rfl)
theorem dX2_sortBy_23 : decode cX2_sortBy 23 = .ok (.athrow, 1) := dqo_191 (kb_of ke_X2_sortBy 23 rfl)
set_option maxRecDepth 100000 in
set_option maxHeartbeats 4000000 in
theorem C_sortBy_noB {l : Launch} {D : va_G} {cy : Nat → ClassId} {X : (Nat → Prop) → State → Heap → Prop} {a f : Nat → Nat → Nat} {r : Nat → Nat → Int32} {kn : Int32} {Y : va_W} {w : Nat} {y : Int32} (hX : EnvX X) (hl : l.stackTraces = false) (hC : CInv f) (hw : w < 8) (h5w : f 5 w = 1) (hno : ¬ (0 ≤ y ∧ y ≤ nI 2)) : Ce l D cy X yX2_sortBy cX2_sortBy 3 (some .int) (rmk 8 1 6 170) [.ref (a 0 0), .int (nI w), .int y] (WC cy a f r kn ++ Y) "java/lang/IllegalArgumentException" := by
  have q3 := hC.sp
  have q1_w := hC.al hw
  have q2_w := hC.th hw h5w
  have q4_w := hC.rw (i := f 1 w) q1_w.2.1
  refine Cm.of [some (.ref (a 0 0)), some (.int (nI w)), some (.int y)] pn_X2 rfl (Nat.le_of_ble_eq_true rfl) ?_
  intro p e s m args below meth c A C hE hr hnt hn
  refine r_aload_n C dX2_sortBy_0 rfl ?_
  refine r_iload_n C dX2_sortBy_1 rfl ?_
  refine d_Vv (st := []) hX.stb C hE (C_needWhere_ok (f := f) (r := r) (kn := kn) (w := w) hX (by first | omega | (simp [up2, *]; done) | (simp [up2, *]; omega) | (simp only [up2_eq]; omega)) (by first | omega | (simp [up2, *]; done) | (simp [up2, *]; omega) | (simp only [up2_eq]; omega))) pk_X2_needWhere qm_X2_39 0 6 rfl rfl wc_0 rfl rfl (Nat.le_of_ble_eq_true rfl) dX2_sortBy_2 ⟨Nat.le_of_ble_eq_true rfl, Nat.le_of_ble_eq_true rfl⟩ ⟨Nat.le_of_ble_eq_true rfl, Nat.le_of_ble_eq_true rfl⟩ ?_
  refine r_iload_n C dX2_sortBy_5 rfl ?_
  refine r_if_lt (tgt := 14) C dX2_sortBy_6 (by decide) (fun h6_1 => ?_) (fun h6_1 => ?_)
  · first
    | exfalso; first | omega | contradiction
    | skip
      exact r_throw (cls := "java/lang/IllegalArgumentException") (text := "there are the orders 0 to 2") (names := ["java/lang/RuntimeException", "java/lang/Exception"]) hX hl C hE hnt thr_X2_90_94 (by decide +kernel) (by decide +kernel) (by decide +kernel) dX2_sortBy_14 dX2_sortBy_17 dX2_sortBy_18 dX2_sortBy_20 dX2_sortBy_23 (by decide) (Nat.le_of_ble_eq_true rfl) (Nat.le_of_ble_eq_true rfl) (Nat.le_of_ble_eq_true rfl) rfl rfl (Nat.le_of_ble_eq_true rfl) (Nat.le_of_ble_eq_true rfl)
  · first
    | exfalso; first | omega | contradiction
    | skip
      refine r_iload_n C dX2_sortBy_9 rfl ?_
      refine r_iconst (v := (nI 2)) C dX2_sortBy_10 (by decide) ?_
      refine r_ic_le (tgt := 24) C dX2_sortBy_11 (by decide) (fun h11_2 => ?_) (fun h11_2 => ?_)
      · exact absurd ⟨by first | assumption | exact Int32.not_lt.mp (by assumption), h11_2⟩ hno
      · skip
        exact r_throw (cls := "java/lang/IllegalArgumentException") (text := "there are the orders 0 to 2") (names := ["java/lang/RuntimeException", "java/lang/Exception"]) hX hl C hE hnt thr_X2_90_94 (by decide +kernel) (by decide +kernel) (by decide +kernel) dX2_sortBy_14 dX2_sortBy_17 dX2_sortBy_18 dX2_sortBy_20 dX2_sortBy_23 (by decide) (Nat.le_of_ble_eq_true rfl) (Nat.le_of_ble_eq_true rfl) (Nat.le_of_ble_eq_true rfl) rfl rfl (Nat.le_of_ble_eq_true rfl) (Nat.le_of_ble_eq_true rfl)
theorem dX2_sortBy_24 : decode cX2_sortBy 24 = .ok (.aload_n 0, 1) := dqo_42 (kb_of ke_X2_sortBy 24 rfl)
theorem dX2_sortBy_25 : decode cX2_sortBy 25 = .ok (.getfield 11, 3) := dqo_180 0 11 (kb_of ke_X2_sortBy 25 rfl) (kb_of ke_X2_sortBy 26 rfl) (kb_of ke_X2_sortBy 27 rfl)
theorem dX2_sortBy_28 : decode cX2_sortBy 28 = .ok (.iload_n 1, 1) := dqo_27 (kb_of ke_X2_sortBy 28 rfl)
theorem dX2_sortBy_29 : decode cX2_sortBy 29 = .ok (.aaload, 1) := dqo_50 (kb_of ke_X2_sortBy 29 rfl)
theorem dX2_sortBy_30 : decode cX2_sortBy 30 = .ok (.iload_n 2, 1) := dqo_28 (kb_of ke_X2_sortBy 30 rfl)
theorem dX2_sortBy_31 : decode cX2_sortBy 31 = .ok (.invokevirtual 117, 3) := dqo_182 0 117 (kb_of ke_X2_sortBy 31 rfl) (kb_of ke_X2_sortBy 32 rfl) (kb_of ke_X2_sortBy 33 rfl)
theorem dX2_sortBy_34 : decode cX2_sortBy 34 = .ok (.aload_n 0, 1) := dqo_42 (kb_of ke_X2_sortBy 34 rfl)
theorem dX2_sortBy_35 : decode cX2_sortBy 35 = .ok (.iload_n 1, 1) := dqo_27 (kb_of ke_X2_sortBy 35 rfl)
theorem dX2_sortBy_36 : decode cX2_sortBy 36 = .ok (.iconst (-1), 1) := dqo_2 (kb_of ke_X2_sortBy 36 rfl)
theorem dX2_sortBy_37 : decode cX2_sortBy 37 = .ok (.invokevirtual 87, 3) := dqo_182 0 87 (kb_of ke_X2_sortBy 37 rfl) (kb_of ke_X2_sortBy 38 rfl) (kb_of ke_X2_sortBy 39 rfl)
theorem dX2_sortBy_40 : decode cX2_sortBy 40 = .ok (.aload_n 0, 1) := dqo_42 (kb_of ke_X2_sortBy 40 rfl)
theorem dX2_sortBy_41 : decode cX2_sortBy 41 = .ok (.getfield 11, 3) := dqo_180 0 11 (kb_of ke_X2_sortBy 41 rfl) (kb_of ke_X2_sortBy 42 rfl) (kb_of ke_X2_sortBy 43 rfl)
theorem dX2_sortBy_44 : decode cX2_sortBy 44 = .ok (.iload_n 1, 1) := dqo_27 (kb_of ke_X2_sortBy 44 rfl)
theorem dX2_sortBy_45 : decode cX2_sortBy 45 = .ok (.aaload, 1) := dqo_50 (kb_of ke_X2_sortBy 45 rfl)
theorem dX2_sortBy_46 : decode cX2_sortBy 46 = .ok (.invokevirtual 101, 3) := dqo_182 0 101 (kb_of ke_X2_sortBy 46 rfl) (kb_of ke_X2_sortBy 47 rfl) (kb_of ke_X2_sortBy 48 rfl)
theorem dX2_sortBy_49 : decode cX2_sortBy 49 = .ok (.ireturn, 1) := dqo_172 (kb_of ke_X2_sortBy 49 rfl)
set_option maxRecDepth 100000 in
set_option maxHeartbeats 4000000 in
theorem C_sortBy_ok {l : Launch} {D : va_G} {cy : Nat → ClassId} {X : (Nat → Prop) → State → Heap → Prop} {a f : Nat → Nat → Nat} {r : Nat → Nat → Int32} {kn : Int32} {Y : va_W} {w : Nat} {b0 : Nat} (hX : EnvX X) (hC : CInv f) (hw : w < 8) (h5w : f 5 w = 1) (hb : b0 ≤ 2) : Cd l D cy X yX2_sortBy cX2_sortBy 3 (some .int) (rmz 6 240) [.ref (a 0 0), .int (nI w), .int (nI b0)] (WC cy a f r kn ++ Y) (some (.int (if f 4 w = 0 then nI 100 else (srF (f 0 w) (f 3 w) b0 (f 4 w - 1) 1 r) (f 0 w) (f 3 w)))) (WC cy a (settleF f w 4294967295) (srF (f 0 w) (f 3 w) b0 (f 4 w - 1) 1 r) kn ++ Y) := by
  have q3 := hC.sp
  have q1_w := hC.al hw
  have q2_w := hC.th hw h5w
  have q4_w := hC.rw (i := f 1 w) q1_w.2.1
  refine Cm.of [some (.ref (a 0 0)), some (.int (nI w)), some (.int (nI b0))] pn_X2 rfl (Nat.le_of_ble_eq_true rfl) ?_
  intro p e s m args below meth c A C hE hr hnt hn
  refine r_aload_n C dX2_sortBy_0 rfl ?_
  refine r_iload_n C dX2_sortBy_1 rfl ?_
  refine d_Vv (st := []) hX.stb C hE (C_needWhere_ok (f := f) (r := r) (kn := kn) (w := w) hX (by first | omega | (simp [up2, *]; done) | (simp [up2, *]; omega) | (simp only [up2_eq]; omega)) (by first | omega | (simp [up2, *]; done) | (simp [up2, *]; omega) | (simp only [up2_eq]; omega))) pk_X2_needWhere qm_X2_39 0 6 rfl rfl wc_0 rfl rfl (Nat.le_of_ble_eq_true rfl) dX2_sortBy_2 ⟨Nat.le_of_ble_eq_true rfl, Nat.le_of_ble_eq_true rfl⟩ ⟨Nat.le_of_ble_eq_true rfl, Nat.le_of_ble_eq_true rfl⟩ ?_
  refine r_iload_n C dX2_sortBy_5 rfl ?_
  refine r_ifN_lt (a := b0) (tgt := 14) C (by first | omega | (simp [up2, *]; done) | (simp [up2, *]; omega) | (simp only [up2_eq]; omega)) dX2_sortBy_6 (by decide) (fun h6_1 => ?_) (fun h6_1 => ?_)
  · exact h6_1.elim
  · skip
    refine r_iload_n C dX2_sortBy_9 rfl ?_
    refine r_iconst (v := (nI 2)) C dX2_sortBy_10 (by decide) ?_
    refine r_icN_le (a := b0) (b := 2) (tgt := 24) C (by first | omega | (simp [up2, *]; done) | (simp [up2, *]; omega) | (simp only [up2_eq]; omega)) (by first | omega | (simp [up2, *]; done) | (simp [up2, *]; omega) | (simp only [up2_eq]; omega)) dX2_sortBy_11 (by decide) (fun h11_2 => ?_) (fun h11_2 => ?_)
    · skip
      refine r_aload_n C dX2_sortBy_24 rfl ?_
      refine s_get C 0 (by decide) qf_X2_11 rfl rfl dX2_sortBy_25 ?_
      refine r_iload_n C dX2_sortBy_28 rfl ?_
      refine s_parts C (by first | omega | (simp [up2, *]; done) | (simp [up2, *]; omega) | (simp only [up2_eq]; omega)) dX2_sortBy_29 ?_
      refine r_iload_n C dX2_sortBy_30 rfl ?_
      refine d_Vv (st := []) hX.stb C hE (C_arrange (f := f) (r := r) (kn := kn) (i := w) (b := b0) hX (by first | omega | (simp [up2, *]; done) | (simp [up2, *]; omega) | (simp only [up2_eq]; omega)) (show f 0 w < 7 by omega) (show f 3 w + f 4 w ≤ 12 by omega) (by first | omega | (simp [up2, *]; done) | (simp [up2, *]; omega) | (simp only [up2_eq]; omega))) pk_X1_arrange qm_X2_117 (3 + w) 5 rfl rfl (wc_p (by first | omega | (simp [up2, *]; done) | (simp [up2, *]; omega) | (simp only [up2_eq]; omega))) rfl rfl (Nat.le_of_ble_eq_true rfl) dX2_sortBy_31 ⟨Nat.le_of_ble_eq_true rfl, Nat.le_of_ble_eq_true rfl⟩ ⟨Nat.le_of_ble_eq_true rfl, Nat.le_of_ble_eq_true rfl⟩ ?_
      refine r_aload_n C dX2_sortBy_34 rfl ?_
      refine r_iload_n C dX2_sortBy_35 rfl ?_
      refine r_iconst (v := (nI 4294967295)) C dX2_sortBy_36 (by decide) ?_
      refine d_Vv (st := []) hX.stb C hE (C_settle (f := f) (r := (srF (f 0 w) (f 3 w) b0 (f 4 w - 1) 1 r)) (kn := kn) (w := w) (d0 := 4294967295) hX (by first | omega | (simp [up2, *]; done) | (simp [up2, *]; omega) | (simp only [up2_eq]; omega)) (by first | omega | (simp [up2, *]; done) | (simp [up2, *]; omega) | (simp only [up2_eq]; omega)) hC.h1 hC.hU hC.hG) pk_X2_settle qm_X2_87 0 6 rfl rfl wc_0 rfl rfl (Nat.le_of_ble_eq_true rfl) dX2_sortBy_37 ⟨Nat.le_of_ble_eq_true rfl, Nat.le_of_ble_eq_true rfl⟩ ⟨Nat.le_of_ble_eq_true rfl, Nat.le_of_ble_eq_true rfl⟩ ?_
      refine r_aload_n C dX2_sortBy_40 rfl ?_
      refine s_get C 0 (by decide) qf_X2_11 rfl rfl dX2_sortBy_41 ?_
      refine r_iload_n C dX2_sortBy_44 rfl ?_
      refine s_parts C (by first | omega | (simp [up2, *]; done) | (simp [up2, *]; omega) | (simp only [up2_eq]; omega)) dX2_sortBy_45 ?_
      refine d_V (st := []) hX.stb C hE (C_firstItem (f := (settleF f w 4294967295)) (r := (srF (f 0 w) (f 3 w) b0 (f 4 w - 1) 1 r)) (kn := kn) (i := w) hX (by first | omega | (simp [up2, *]; done) | (simp [up2, *]; omega) | (simp only [up2_eq]; omega)) (show f 0 w < 7 by omega) (show f 3 w + f 4 w ≤ 12 by omega)) pk_X1_firstItem qm_X2_101 (3 + w) 5 rfl rfl (wc_p (by first | omega | (simp [up2, *]; done) | (simp [up2, *]; omega) | (simp only [up2_eq]; omega))) rfl rfl (Nat.le_of_ble_eq_true rfl) dX2_sortBy_46 ⟨Nat.le_of_ble_eq_true rfl, Nat.le_of_ble_eq_true rfl⟩ ⟨Nat.le_of_ble_eq_true rfl, Nat.le_of_ble_eq_true rfl⟩ ?_
      exact r_iret C hr dX2_sortBy_49 ⟨rfl, rfl⟩ (Nat.le_of_ble_eq_true rfl) (Nat.le_of_ble_eq_true rfl)
    · exact absurd h11_2 (by first | omega | (simp [up2, *]; done) | (simp [up2, *]; omega) | (simp only [up2_eq]; omega))
theorem dX2_get_0 : decode cX2_get 0 = .ok (.aload_n 0, 1) := dqo_42 (kb_of ke_X2_get 0 rfl)
theorem dX2_get_1 : decode cX2_get 1 = .ok (.iload_n 1, 1) := dqo_27 (kb_of ke_X2_get 1 rfl)
theorem dX2_get_2 : decode cX2_get 2 = .ok (.iload_n 2, 1) := dqo_28 (kb_of ke_X2_get 2 rfl)
theorem dX2_get_3 : decode cX2_get 3 = .ok (.invokevirtual 62, 3) := dqo_182 0 62 (kb_of ke_X2_get 3 rfl) (kb_of ke_X2_get 4 rfl) (kb_of ke_X2_get 5 rfl)
set_option maxRecDepth 100000 in
set_option maxHeartbeats 4000000 in
theorem C_get_noW {l : Launch} {D : va_G} {cy : Nat → ClassId} {X : (Nat → Prop) → State → Heap → Prop} {a f : Nat → Nat → Nat} {r : Nat → Nat → Int32} {kn : Int32} {Y : va_W} {x : Int32} {y0 : Int32} (hX : EnvX X) (hl : l.stackTraces = false) (hC : CInv f) (hno : noW f x) : Ce l D cy X yX2_get cX2_get 3 (some .int) (rmk 8 1 6 170) [.ref (a 0 0), .int x, .int y0] (WC cy a f r kn ++ Y) "java/lang/IndexOutOfBoundsException" := by
  have q3 := hC.sp
  refine Cm.of [some (.ref (a 0 0)), some (.int x), some (.int y0)] pn_X2 rfl (Nat.le_of_ble_eq_true rfl) ?_
  intro p e s m args below meth c A C hE hr hnt hn
  refine r_aload_n C dX2_get_0 rfl ?_
  refine r_iload_n C dX2_get_1 rfl ?_
  refine r_iload_n C dX2_get_2 rfl ?_
  refine c_V (st := []) hX.stb C hE (C_needPlace_noW (f := f) (r := r) (kn := kn) (x := (x)) (y := (y0)) hX hl hno hC.h5) pk_X2_needPlace qm_X2_62 0 6 rfl rfl wc_0 rfl rfl (Nat.le_of_ble_eq_true rfl) dX2_get_3 ⟨Nat.le_of_ble_eq_true rfl, Nat.le_of_ble_eq_true rfl⟩ ⟨Nat.le_of_ble_eq_true rfl, Nat.le_of_ble_eq_true rfl⟩ (fun _ _ h9 => h9.elim) (fun E9 h9 => ?_)
  subst h9
  exact r_out C hnt rfl rfl (Nat.le_of_ble_eq_true rfl) (Nat.le_of_ble_eq_true rfl)
set_option maxRecDepth 100000 in
set_option maxHeartbeats 4000000 in
theorem C_get_noP {l : Launch} {D : va_G} {cy : Nat → ClassId} {X : (Nat → Prop) → State → Heap → Prop} {a f : Nat → Nat → Nat} {r : Nat → Nat → Int32} {kn : Int32} {Y : va_W} {w : Nat} {y0 : Int32} (hX : EnvX X) (hl : l.stackTraces = false) (hC : CInv f) (hw : w < 8) (h5w : f 5 w = 1) (hno : ¬ (0 ≤ y0 ∧ y0 < nI (f 4 w))) : Ce l D cy X yX2_get cX2_get 3 (some .int) (rmk 8 1 6 170) [.ref (a 0 0), .int (nI w), .int y0] (WC cy a f r kn ++ Y) "java/lang/IndexOutOfBoundsException" := by
  have q3 := hC.sp
  have q1_w := hC.al hw
  have q2_w := hC.th hw h5w
  have q4_w := hC.rw (i := f 1 w) q1_w.2.1
  refine Cm.of [some (.ref (a 0 0)), some (.int (nI w)), some (.int y0)] pn_X2 rfl (Nat.le_of_ble_eq_true rfl) ?_
  intro p e s m args below meth c A C hE hr hnt hn
  refine r_aload_n C dX2_get_0 rfl ?_
  refine r_iload_n C dX2_get_1 rfl ?_
  refine r_iload_n C dX2_get_2 rfl ?_
  refine c_V (st := []) hX.stb C hE (C_needPlace_no (f := f) (r := r) (kn := kn) (w := w) (y := (y0)) hX hl (by first | omega | (simp [up2, *]; done) | (simp [up2, *]; omega) | (simp only [up2_eq]; omega)) (by first | omega | (simp [up2, *]; done) | (simp [up2, *]; omega) | (simp only [up2_eq]; omega)) hno) pk_X2_needPlace qm_X2_62 0 6 rfl rfl wc_0 rfl rfl (Nat.le_of_ble_eq_true rfl) dX2_get_3 ⟨Nat.le_of_ble_eq_true rfl, Nat.le_of_ble_eq_true rfl⟩ ⟨Nat.le_of_ble_eq_true rfl, Nat.le_of_ble_eq_true rfl⟩ (fun _ _ h9 => h9.elim) (fun E9 h9 => ?_)
  subst h9
  exact r_out C hnt rfl rfl (Nat.le_of_ble_eq_true rfl) (Nat.le_of_ble_eq_true rfl)
theorem dX2_get_6 : decode cX2_get 6 = .ok (.aload_n 0, 1) := dqo_42 (kb_of ke_X2_get 6 rfl)
theorem dX2_get_7 : decode cX2_get 7 = .ok (.getfield 11, 3) := dqo_180 0 11 (kb_of ke_X2_get 7 rfl) (kb_of ke_X2_get 8 rfl) (kb_of ke_X2_get 9 rfl)
theorem dX2_get_10 : decode cX2_get 10 = .ok (.iload_n 1, 1) := dqo_27 (kb_of ke_X2_get 10 rfl)
theorem dX2_get_11 : decode cX2_get 11 = .ok (.aaload, 1) := dqo_50 (kb_of ke_X2_get 11 rfl)
theorem dX2_get_12 : decode cX2_get 12 = .ok (.iload_n 2, 1) := dqo_28 (kb_of ke_X2_get 12 rfl)
theorem dX2_get_13 : decode cX2_get 13 = .ok (.invokevirtual 65, 3) := dqo_182 0 65 (kb_of ke_X2_get 13 rfl) (kb_of ke_X2_get 14 rfl) (kb_of ke_X2_get 15 rfl)
theorem dX2_get_16 : decode cX2_get 16 = .ok (.ireturn, 1) := dqo_172 (kb_of ke_X2_get 16 rfl)
set_option maxRecDepth 100000 in
set_option maxHeartbeats 4000000 in
theorem C_get_ok {l : Launch} {D : va_G} {cy : Nat → ClassId} {X : (Nat → Prop) → State → Heap → Prop} {a f : Nat → Nat → Nat} {r : Nat → Nat → Int32} {kn : Int32} {Y : va_W} {w : Nat} {k0 : Nat} (hX : EnvX X) (hC : CInv f) (hw : w < 8) (h5w : f 5 w = 1) (hk : k0 < f 4 w) : Cd l D cy X yX2_get cX2_get 3 (some .int) (rmz 6 240) [.ref (a 0 0), .int (nI w), .int (nI k0)] (WC cy a f r kn ++ Y) (some (.int (r (f 0 w) (f 3 w + k0)))) (WC cy a f r kn ++ Y) := by
  have q3 := hC.sp
  have q1_w := hC.al hw
  have q2_w := hC.th hw h5w
  have q4_w := hC.rw (i := f 1 w) q1_w.2.1
  refine Cm.of [some (.ref (a 0 0)), some (.int (nI w)), some (.int (nI k0))] pn_X2 rfl (Nat.le_of_ble_eq_true rfl) ?_
  intro p e s m args below meth c A C hE hr hnt hn
  refine r_aload_n C dX2_get_0 rfl ?_
  refine r_iload_n C dX2_get_1 rfl ?_
  refine r_iload_n C dX2_get_2 rfl ?_
  refine d_Vv (st := []) hX.stb C hE (C_needPlace_ok (f := f) (r := r) (kn := kn) (w := w) (k := k0) hX (by first | omega | (simp [up2, *]; done) | (simp [up2, *]; omega) | (simp only [up2_eq]; omega)) (by first | omega | (simp [up2, *]; done) | (simp [up2, *]; omega) | (simp only [up2_eq]; omega)) (by first | omega | (simp [up2, *]; done) | (simp [up2, *]; omega) | (simp only [up2_eq]; omega)) (by first | omega | (simp [up2, *]; done) | (simp [up2, *]; omega) | (simp only [up2_eq]; omega))) pk_X2_needPlace qm_X2_62 0 6 rfl rfl wc_0 rfl rfl (Nat.le_of_ble_eq_true rfl) dX2_get_3 ⟨Nat.le_of_ble_eq_true rfl, Nat.le_of_ble_eq_true rfl⟩ ⟨Nat.le_of_ble_eq_true rfl, Nat.le_of_ble_eq_true rfl⟩ ?_
  refine r_aload_n C dX2_get_6 rfl ?_
  refine s_get C 0 (by decide) qf_X2_11 rfl rfl dX2_get_7 ?_
  refine r_iload_n C dX2_get_10 rfl ?_
  refine s_parts C (by first | omega | (simp [up2, *]; done) | (simp [up2, *]; omega) | (simp only [up2_eq]; omega)) dX2_get_11 ?_
  refine r_iload_n C dX2_get_12 rfl ?_
  refine d_V (st := []) hX.stb C hE (C_itemAt (f := f) (r := r) (kn := kn) (i := w) (k := k0) hX (by first | omega | (simp [up2, *]; done) | (simp [up2, *]; omega) | (simp only [up2_eq]; omega)) (by first | omega | (simp [up2, *]; done) | (simp [up2, *]; omega) | (simp only [up2_eq]; omega)) (by first | omega | (simp [up2, *]; done) | (simp [up2, *]; omega) | (simp only [up2_eq]; omega))) pk_X1_itemAt qm_X2_65 (3 + w) 5 rfl rfl (wc_p (by first | omega | (simp [up2, *]; done) | (simp [up2, *]; omega) | (simp only [up2_eq]; omega))) rfl rfl (Nat.le_of_ble_eq_true rfl) dX2_get_13 ⟨Nat.le_of_ble_eq_true rfl, Nat.le_of_ble_eq_true rfl⟩ ⟨Nat.le_of_ble_eq_true rfl, Nat.le_of_ble_eq_true rfl⟩ ?_
  exact r_iret C hr dX2_get_16 ⟨rfl, rfl⟩ (Nat.le_of_ble_eq_true rfl) (Nat.le_of_ble_eq_true rfl)
theorem dX2_size_0 : decode cX2_size 0 = .ok (.aload_n 0, 1) := dqo_42 (kb_of ke_X2_size 0 rfl)
theorem dX2_size_1 : decode cX2_size 1 = .ok (.iload_n 1, 1) := dqo_27 (kb_of ke_X2_size 1 rfl)
theorem dX2_size_2 : decode cX2_size 2 = .ok (.invokevirtual 39, 3) := dqo_182 0 39 (kb_of ke_X2_size 2 rfl) (kb_of ke_X2_size 3 rfl) (kb_of ke_X2_size 4 rfl)
set_option maxRecDepth 100000 in
set_option maxHeartbeats 4000000 in
theorem C_size_noW {l : Launch} {D : va_G} {cy : Nat → ClassId} {X : (Nat → Prop) → State → Heap → Prop} {a f : Nat → Nat → Nat} {r : Nat → Nat → Int32} {kn : Int32} {Y : va_W} {x : Int32} (hX : EnvX X) (hl : l.stackTraces = false) (hC : CInv f) (hno : noW f x) : Ce l D cy X yX2_size cX2_size 2 (some .int) (rmk 8 1 6 170) [.ref (a 0 0), .int x] (WC cy a f r kn ++ Y) "java/lang/IndexOutOfBoundsException" := by
  have q3 := hC.sp
  refine Cm.of [some (.ref (a 0 0)), some (.int x)] pn_X2 rfl (Nat.le_of_ble_eq_true rfl) ?_
  intro p e s m args below meth c A C hE hr hnt hn
  refine r_aload_n C dX2_size_0 rfl ?_
  refine r_iload_n C dX2_size_1 rfl ?_
  refine c_V (st := []) hX.stb C hE (C_needWhere_no (f := f) (r := r) (kn := kn) (x := (x)) hX hl hno hC.h5) pk_X2_needWhere qm_X2_39 0 6 rfl rfl wc_0 rfl rfl (Nat.le_of_ble_eq_true rfl) dX2_size_2 ⟨Nat.le_of_ble_eq_true rfl, Nat.le_of_ble_eq_true rfl⟩ ⟨Nat.le_of_ble_eq_true rfl, Nat.le_of_ble_eq_true rfl⟩ (fun _ _ h9 => h9.elim) (fun E9 h9 => ?_)
  subst h9
  exact r_out C hnt rfl rfl (Nat.le_of_ble_eq_true rfl) (Nat.le_of_ble_eq_true rfl)
theorem dX2_size_5 : decode cX2_size 5 = .ok (.aload_n 0, 1) := dqo_42 (kb_of ke_X2_size 5 rfl)
theorem dX2_size_6 : decode cX2_size 6 = .ok (.getfield 11, 3) := dqo_180 0 11 (kb_of ke_X2_size 6 rfl) (kb_of ke_X2_size 7 rfl) (kb_of ke_X2_size 8 rfl)
theorem dX2_size_9 : decode cX2_size 9 = .ok (.iload_n 1, 1) := dqo_27 (kb_of ke_X2_size 9 rfl)
theorem dX2_size_10 : decode cX2_size 10 = .ok (.aaload, 1) := dqo_50 (kb_of ke_X2_size 10 rfl)
theorem dX2_size_11 : decode cX2_size 11 = .ok (.getfield 50, 3) := dqo_180 0 50 (kb_of ke_X2_size 11 rfl) (kb_of ke_X2_size 12 rfl) (kb_of ke_X2_size 13 rfl)
theorem dX2_size_14 : decode cX2_size 14 = .ok (.ireturn, 1) := dqo_172 (kb_of ke_X2_size 14 rfl)
set_option maxRecDepth 100000 in
set_option maxHeartbeats 4000000 in
theorem C_size_ok {l : Launch} {D : va_G} {cy : Nat → ClassId} {X : (Nat → Prop) → State → Heap → Prop} {a f : Nat → Nat → Nat} {r : Nat → Nat → Int32} {kn : Int32} {Y : va_W} {w : Nat} (hX : EnvX X) (hC : CInv f) (hw : w < 8) (h5w : f 5 w = 1) : Cd l D cy X yX2_size cX2_size 2 (some .int) (rmz 6 240) [.ref (a 0 0), .int (nI w)] (WC cy a f r kn ++ Y) (some (.int (nI (f 4 w)))) (WC cy a f r kn ++ Y) := by
  have q3 := hC.sp
  have q1_w := hC.al hw
  have q2_w := hC.th hw h5w
  have q4_w := hC.rw (i := f 1 w) q1_w.2.1
  refine Cm.of [some (.ref (a 0 0)), some (.int (nI w))] pn_X2 rfl (Nat.le_of_ble_eq_true rfl) ?_
  intro p e s m args below meth c A C hE hr hnt hn
  refine r_aload_n C dX2_size_0 rfl ?_
  refine r_iload_n C dX2_size_1 rfl ?_
  refine d_Vv (st := []) hX.stb C hE (C_needWhere_ok (f := f) (r := r) (kn := kn) (w := w) hX (by first | omega | (simp [up2, *]; done) | (simp [up2, *]; omega) | (simp only [up2_eq]; omega)) (by first | omega | (simp [up2, *]; done) | (simp [up2, *]; omega) | (simp only [up2_eq]; omega))) pk_X2_needWhere qm_X2_39 0 6 rfl rfl wc_0 rfl rfl (Nat.le_of_ble_eq_true rfl) dX2_size_2 ⟨Nat.le_of_ble_eq_true rfl, Nat.le_of_ble_eq_true rfl⟩ ⟨Nat.le_of_ble_eq_true rfl, Nat.le_of_ble_eq_true rfl⟩ ?_
  refine r_aload_n C dX2_size_5 rfl ?_
  refine s_get C 0 (by decide) qf_X2_11 rfl rfl dX2_size_6 ?_
  refine r_iload_n C dX2_size_9 rfl ?_
  refine s_parts C (by first | omega | (simp [up2, *]; done) | (simp [up2, *]; omega) | (simp only [up2_eq]; omega)) dX2_size_10 ?_
  refine p_getN (v := .int (nI (f 4 w))) hX C hE 4 (by first | omega | (simp [up2, *]; done) | (simp [up2, *]; omega) | (simp only [up2_eq]; omega)) (by decide) qn_X2_50 rfl rfl dX2_size_11 ?_
  exact r_iret C hr dX2_size_14 ⟨rfl, rfl⟩ (Nat.le_of_ble_eq_true rfl) (Nat.le_of_ble_eq_true rfl)
theorem dX2_partAt_0 : decode cX2_partAt 0 = .ok (.aload_n 0, 1) := dqo_42 (kb_of ke_X2_partAt 0 rfl)
theorem dX2_partAt_1 : decode cX2_partAt 1 = .ok (.iload_n 1, 1) := dqo_27 (kb_of ke_X2_partAt 1 rfl)
theorem dX2_partAt_2 : decode cX2_partAt 2 = .ok (.invokevirtual 39, 3) := dqo_182 0 39 (kb_of ke_X2_partAt 2 rfl) (kb_of ke_X2_partAt 3 rfl) (kb_of ke_X2_partAt 4 rfl)
set_option maxRecDepth 100000 in
set_option maxHeartbeats 4000000 in
theorem C_partAt_noW {l : Launch} {D : va_G} {cy : Nat → ClassId} {X : (Nat → Prop) → State → Heap → Prop} {a f : Nat → Nat → Nat} {r : Nat → Nat → Int32} {kn : Int32} {Y : va_W} {x : Int32} {y0 : Int32} (hX : EnvX X) (hl : l.stackTraces = false) (hC : CInv f) (hno : noW f x) : Ce l D cy X yX2_partAt cX2_partAt 3 (some .int) (rmk 8 1 6 170) [.ref (a 0 0), .int x, .int y0] (WC cy a f r kn ++ Y) "java/lang/IndexOutOfBoundsException" := by
  have q3 := hC.sp
  refine Cm.of [some (.ref (a 0 0)), some (.int x), some (.int y0)] pn_X2 rfl (Nat.le_of_ble_eq_true rfl) ?_
  intro p e s m args below meth c A C hE hr hnt hn
  refine r_aload_n C dX2_partAt_0 rfl ?_
  refine r_iload_n C dX2_partAt_1 rfl ?_
  refine c_V (st := []) hX.stb C hE (C_needWhere_no (f := f) (r := r) (kn := kn) (x := (x)) hX hl hno hC.h5) pk_X2_needWhere qm_X2_39 0 6 rfl rfl wc_0 rfl rfl (Nat.le_of_ble_eq_true rfl) dX2_partAt_2 ⟨Nat.le_of_ble_eq_true rfl, Nat.le_of_ble_eq_true rfl⟩ ⟨Nat.le_of_ble_eq_true rfl, Nat.le_of_ble_eq_true rfl⟩ (fun _ _ h9 => h9.elim) (fun E9 h9 => ?_)
  subst h9
  exact r_out C hnt rfl rfl (Nat.le_of_ble_eq_true rfl) (Nat.le_of_ble_eq_true rfl)
theorem dX2_partAt_5 : decode cX2_partAt 5 = .ok (.aload_n 0, 1) := dqo_42 (kb_of ke_X2_partAt 5 rfl)
theorem dX2_partAt_6 : decode cX2_partAt 6 = .ok (.iload_n 2, 1) := dqo_28 (kb_of ke_X2_partAt 6 rfl)
theorem dX2_partAt_7 : decode cX2_partAt 7 = .ok (.invokevirtual 39, 3) := dqo_182 0 39 (kb_of ke_X2_partAt 7 rfl) (kb_of ke_X2_partAt 8 rfl) (kb_of ke_X2_partAt 9 rfl)
set_option maxRecDepth 100000 in
set_option maxHeartbeats 4000000 in
theorem C_partAt_noW2 {l : Launch} {D : va_G} {cy : Nat → ClassId} {X : (Nat → Prop) → State → Heap → Prop} {a f : Nat → Nat → Nat} {r : Nat → Nat → Int32} {kn : Int32} {Y : va_W} {w : Nat} {x : Int32} (hX : EnvX X) (hl : l.stackTraces = false) (hC : CInv f) (hw : w < 8) (h5w : f 5 w = 1) (hno : noW f x) : Ce l D cy X yX2_partAt cX2_partAt 3 (some .int) (rmk 8 1 6 170) [.ref (a 0 0), .int (nI w), .int x] (WC cy a f r kn ++ Y) "java/lang/IndexOutOfBoundsException" := by
  have q3 := hC.sp
  have q1_w := hC.al hw
  have q2_w := hC.th hw h5w
  have q4_w := hC.rw (i := f 1 w) q1_w.2.1
  refine Cm.of [some (.ref (a 0 0)), some (.int (nI w)), some (.int x)] pn_X2 rfl (Nat.le_of_ble_eq_true rfl) ?_
  intro p e s m args below meth c A C hE hr hnt hn
  refine r_aload_n C dX2_partAt_0 rfl ?_
  refine r_iload_n C dX2_partAt_1 rfl ?_
  refine d_Vv (st := []) hX.stb C hE (C_needWhere_ok (f := f) (r := r) (kn := kn) (w := w) hX (by first | omega | (simp [up2, *]; done) | (simp [up2, *]; omega) | (simp only [up2_eq]; omega)) (by first | omega | (simp [up2, *]; done) | (simp [up2, *]; omega) | (simp only [up2_eq]; omega))) pk_X2_needWhere qm_X2_39 0 6 rfl rfl wc_0 rfl rfl (Nat.le_of_ble_eq_true rfl) dX2_partAt_2 ⟨Nat.le_of_ble_eq_true rfl, Nat.le_of_ble_eq_true rfl⟩ ⟨Nat.le_of_ble_eq_true rfl, Nat.le_of_ble_eq_true rfl⟩ ?_
  refine r_aload_n C dX2_partAt_5 rfl ?_
  refine r_iload_n C dX2_partAt_6 rfl ?_
  refine c_V (st := []) hX.stb C hE (C_needWhere_no (f := f) (r := r) (kn := kn) (x := (x)) hX hl hno hC.h5) pk_X2_needWhere qm_X2_39 0 6 rfl rfl wc_0 rfl rfl (Nat.le_of_ble_eq_true rfl) dX2_partAt_7 ⟨Nat.le_of_ble_eq_true rfl, Nat.le_of_ble_eq_true rfl⟩ ⟨Nat.le_of_ble_eq_true rfl, Nat.le_of_ble_eq_true rfl⟩ (fun _ _ h9 => h9.elim) (fun E9 h9 => ?_)
  subst h9
  exact r_out C hnt rfl rfl (Nat.le_of_ble_eq_true rfl) (Nat.le_of_ble_eq_true rfl)
theorem pk_X1_placeOfAll : PkV RX1 yX1_placeOfAll cX1_placeOfAll 3 (some .int) 1 := ⟨⟨qi_X1_placeOfAll, qs_X1_placeOfAll, qz_X1, qc_X1_placeOfAll⟩, rfl, mh_X1.1, mh_X1.2, pd_12⟩
theorem dX2_partAt_10 : decode cX2_partAt 10 = .ok (.aload_n 0, 1) := dqo_42 (kb_of ke_X2_partAt 10 rfl)
theorem dX2_partAt_11 : decode cX2_partAt 11 = .ok (.getfield 11, 3) := dqo_180 0 11 (kb_of ke_X2_partAt 11 rfl) (kb_of ke_X2_partAt 12 rfl) (kb_of ke_X2_partAt 13 rfl)
theorem dX2_partAt_14 : decode cX2_partAt 14 = .ok (.iload_n 1, 1) := dqo_27 (kb_of ke_X2_partAt 14 rfl)
theorem dX2_partAt_15 : decode cX2_partAt 15 = .ok (.aaload, 1) := dqo_50 (kb_of ke_X2_partAt 15 rfl)
theorem dX2_partAt_16 : decode cX2_partAt 16 = .ok (.aload_n 0, 1) := dqo_42 (kb_of ke_X2_partAt 16 rfl)
theorem dX2_partAt_17 : decode cX2_partAt 17 = .ok (.getfield 11, 3) := dqo_180 0 11 (kb_of ke_X2_partAt 17 rfl) (kb_of ke_X2_partAt 18 rfl) (kb_of ke_X2_partAt 19 rfl)
theorem dX2_partAt_20 : decode cX2_partAt 20 = .ok (.iload_n 2, 1) := dqo_28 (kb_of ke_X2_partAt 20 rfl)
theorem dX2_partAt_21 : decode cX2_partAt 21 = .ok (.aaload, 1) := dqo_50 (kb_of ke_X2_partAt 21 rfl)
theorem dX2_partAt_22 : decode cX2_partAt 22 = .ok (.invokevirtual 122, 3) := dqo_182 0 122 (kb_of ke_X2_partAt 22 rfl) (kb_of ke_X2_partAt 23 rfl) (kb_of ke_X2_partAt 24 rfl)
theorem dX2_partAt_25 : decode cX2_partAt 25 = .ok (.ireturn, 1) := dqo_172 (kb_of ke_X2_partAt 25 rfl)
set_option maxRecDepth 100000 in
set_option maxHeartbeats 4000000 in
theorem C_partAt_ok {l : Launch} {D : va_G} {cy : Nat → ClassId} {X : (Nat → Prop) → State → Heap → Prop} {a f : Nat → Nat → Nat} {r : Nat → Nat → Int32} {kn : Int32} {Y : va_W} {w : Nat} {v : Nat} (hX : EnvX X) (hC : CInv f) (hw : w < 8) (h5w : f 5 w = 1) (hv : v < 8) (h5v : f 5 v = 1) : Cd l D cy X yX2_partAt cX2_partAt 3 (some .int) (rmz 6 240) [.ref (a 0 0), .int (nI w), .int (nI v)] (WC cy a f r kn ++ Y) (some (.int (nI (poF (fun k => stF (fun q => r (f 0 w) (f 3 w + (k + q))) (fun q => r (f 0 v) (f 3 v + q)) (f 4 v) 0) (f 4 w + 1 - f 4 v) 0)))) (WC cy a f r kn ++ Y) := by
  have q3 := hC.sp
  have q1_w := hC.al hw
  have q2_w := hC.th hw h5w
  have q4_w := hC.rw (i := f 1 w) q1_w.2.1
  have q1_v := hC.al hv
  have q2_v := hC.th hv h5v
  have q4_v := hC.rw (i := f 1 v) q1_v.2.1
  refine Cm.of [some (.ref (a 0 0)), some (.int (nI w)), some (.int (nI v))] pn_X2 rfl (Nat.le_of_ble_eq_true rfl) ?_
  intro p e s m args below meth c A C hE hr hnt hn
  refine r_aload_n C dX2_partAt_0 rfl ?_
  refine r_iload_n C dX2_partAt_1 rfl ?_
  refine d_Vv (st := []) hX.stb C hE (C_needWhere_ok (f := f) (r := r) (kn := kn) (w := w) hX (by first | omega | (simp [up2, *]; done) | (simp [up2, *]; omega) | (simp only [up2_eq]; omega)) (by first | omega | (simp [up2, *]; done) | (simp [up2, *]; omega) | (simp only [up2_eq]; omega))) pk_X2_needWhere qm_X2_39 0 6 rfl rfl wc_0 rfl rfl (Nat.le_of_ble_eq_true rfl) dX2_partAt_2 ⟨Nat.le_of_ble_eq_true rfl, Nat.le_of_ble_eq_true rfl⟩ ⟨Nat.le_of_ble_eq_true rfl, Nat.le_of_ble_eq_true rfl⟩ ?_
  refine r_aload_n C dX2_partAt_5 rfl ?_
  refine r_iload_n C dX2_partAt_6 rfl ?_
  refine d_Vv (st := []) hX.stb C hE (C_needWhere_ok (f := f) (r := r) (kn := kn) (w := v) hX (by first | omega | (simp [up2, *]; done) | (simp [up2, *]; omega) | (simp only [up2_eq]; omega)) (by first | omega | (simp [up2, *]; done) | (simp [up2, *]; omega) | (simp only [up2_eq]; omega))) pk_X2_needWhere qm_X2_39 0 6 rfl rfl wc_0 rfl rfl (Nat.le_of_ble_eq_true rfl) dX2_partAt_7 ⟨Nat.le_of_ble_eq_true rfl, Nat.le_of_ble_eq_true rfl⟩ ⟨Nat.le_of_ble_eq_true rfl, Nat.le_of_ble_eq_true rfl⟩ ?_
  refine r_aload_n C dX2_partAt_10 rfl ?_
  refine s_get C 0 (by decide) qf_X2_11 rfl rfl dX2_partAt_11 ?_
  refine r_iload_n C dX2_partAt_14 rfl ?_
  refine s_parts C (by first | omega | (simp [up2, *]; done) | (simp [up2, *]; omega) | (simp only [up2_eq]; omega)) dX2_partAt_15 ?_
  refine r_aload_n C dX2_partAt_16 rfl ?_
  refine s_get C 0 (by decide) qf_X2_11 rfl rfl dX2_partAt_17 ?_
  refine r_iload_n C dX2_partAt_20 rfl ?_
  refine s_parts C (by first | omega | (simp [up2, *]; done) | (simp [up2, *]; omega) | (simp only [up2_eq]; omega)) dX2_partAt_21 ?_
  refine d_V (st := []) hX.stb C hE (C_placeOfAll (f := f) (r := r) (kn := kn) (i := w) (j := v) hX (by first | omega | (simp [up2, *]; done) | (simp [up2, *]; omega) | (simp only [up2_eq]; omega)) (by first | omega | (simp [up2, *]; done) | (simp [up2, *]; omega) | (simp only [up2_eq]; omega)) (by first | omega | (simp [up2, *]; done) | (simp [up2, *]; omega) | (simp only [up2_eq]; omega)) (by first | omega | (simp [up2, *]; done) | (simp [up2, *]; omega) | (simp only [up2_eq]; omega)) (by first | omega | (simp [up2, *]; done) | (simp [up2, *]; omega) | (simp only [up2_eq]; omega)) (by first | omega | (simp [up2, *]; done) | (simp [up2, *]; omega) | (simp only [up2_eq]; omega))) pk_X1_placeOfAll qm_X2_122 (3 + w) 5 rfl rfl (wc_p (by first | omega | (simp [up2, *]; done) | (simp [up2, *]; omega) | (simp only [up2_eq]; omega))) rfl rfl (Nat.le_of_ble_eq_true rfl) dX2_partAt_22 ⟨Nat.le_of_ble_eq_true rfl, Nat.le_of_ble_eq_true rfl⟩ ⟨Nat.le_of_ble_eq_true rfl, Nat.le_of_ble_eq_true rfl⟩ ?_
  exact r_iret C hr dX2_partAt_25 ⟨rfl, rfl⟩ (Nat.le_of_ble_eq_true rfl) (Nat.le_of_ble_eq_true rfl)
