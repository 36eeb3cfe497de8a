/-! CONTRACTS of the class: questions, knock, sums -/
theorem dX2_ofCursor_0 : decode cX2_ofCursor 0 = .ok (.iload_n 1, 1) := dqo_27 (kb_X2_ofCursor_0 0 rfl)
theorem dX2_ofCursor_1 : decode cX2_ofCursor 1 = .ok (.invokestatic 210, 3) := dqo_184 0 210 (kb_X2_ofCursor_0 1 rfl) (kb_X2_ofCursor_0 2 rfl) (kb_X2_ofCursor_0 3 rfl)
set_option maxRecDepth 100000 in
set_option maxHeartbeats 4000000 in
theorem C_ofCursor_noC {l : Launch} {D : va_G} {cy : Nat → ClassId} {X : (Nat → Prop) → State → Heap → Prop} {a f : Nat → Nat → Nat} {r : Nat → Nat → Int32} {kn : Int32} {Y : va_W} {x : Int32} {y0 : Int32} (hX : EnvX X) (hl : l.stackTraces = false) (hC : CInv f) (hno : ¬ (0 ≤ x ∧ x < nI 3)) : Ce l D cy X yX2_ofCursor cX2_ofCursor 4 (some .int) (rmk 8 1 6 170) [.ref (a 0 0), .int x, .int y0] (WC cy a f r kn ++ Y) "java/lang/IndexOutOfBoundsException" := by
  have q3 := hC.sp
  refine Cm.of [some (.ref (a 0 0)), some (.int x), some (.int y0), none] pn_X2 rfl (Nat.le_of_ble_eq_true rfl) ?_
  intro p e s m args below meth c A C hE hr hnt hn
  refine r_iload_n C dX2_ofCursor_0 rfl ?_
  refine c_S (st := []) hX.stb C hE (C_needCursor_no (f := f) (r := r) (kn := kn) (x := (x)) hX hl hno) pk_X2_needCursor qm_X2_210 rfl rfl (Nat.le_of_ble_eq_true rfl) dX2_ofCursor_1 ⟨Nat.le_of_ble_eq_true rfl, Nat.le_of_ble_eq_true rfl⟩ ⟨Nat.le_of_ble_eq_true rfl, Nat.le_of_ble_eq_true rfl⟩ (fun _ _ h9 => h9.elim) (fun E9 h9 => ?_)
  subst h9
  exact r_out C hnt rfl rfl (Nat.le_of_ble_eq_true rfl) (Nat.le_of_ble_eq_true rfl)
theorem dX2_ofCursor_4 : decode cX2_ofCursor 4 = .ok (.iload_n 2, 1) := dqo_28 (kb_X2_ofCursor_0 4 rfl)
theorem dX2_ofCursor_5 : decode cX2_ofCursor 5 = .ok (.iconst 5, 1) := dqo_8 (kb_X2_ofCursor_0 5 rfl)
theorem dX2_ofCursor_6 : decode cX2_ofCursor 6 = .ok (.invokestatic 201, 3) := dqo_184 0 201 (kb_X2_ofCursor_0 6 rfl) (kb_X2_ofCursor_0 7 rfl) (kb_X2_ofCursor_0 8 rfl)
set_option maxRecDepth 100000 in
set_option maxHeartbeats 4000000 in
theorem C_ofCursor_noQ {l : Launch} {D : va_G} {cy : Nat → ClassId} {X : (Nat → Prop) → State → Heap → Prop} {a f : Nat → Nat → Nat} {r : Nat → Nat → Int32} {kn : Int32} {Y : va_W} {k0 : Nat} {x : Int32} (hX : EnvX X) (hl : l.stackTraces = false) (hC : CInv f) (hk3 : k0 < 3) (hno : ¬ (0 ≤ x ∧ x < nI 5)) : Ce l D cy X yX2_ofCursor cX2_ofCursor 4 (some .int) (rmk 8 1 6 170) [.ref (a 0 0), .int (nI k0), .int x] (WC cy a f r kn ++ Y) "java/lang/IllegalArgumentException" := by
  have q3 := hC.sp
  refine Cm.of [some (.ref (a 0 0)), some (.int (nI k0)), some (.int x), none] pn_X2 rfl (Nat.le_of_ble_eq_true rfl) ?_
  intro p e s m args below meth c A C hE hr hnt hn
  refine r_iload_n C dX2_ofCursor_0 rfl ?_
  refine d_Sv (st := []) hX.stb C hE (C_needCursor_ok (f := f) (r := r) (kn := kn) (k := k0) hX (by first | omega | (simp [up2, *]; done) | (simp [up2, *]; omega) | (simp only [up2_eq]; omega) | (split <;> omega))) pk_X2_needCursor qm_X2_210 rfl rfl (Nat.le_of_ble_eq_true rfl) dX2_ofCursor_1 ⟨Nat.le_of_ble_eq_true rfl, Nat.le_of_ble_eq_true rfl⟩ ⟨Nat.le_of_ble_eq_true rfl, Nat.le_of_ble_eq_true rfl⟩ ?_
  refine r_iload_n C dX2_ofCursor_4 rfl ?_
  refine r_iconst (v := (nI 5)) C dX2_ofCursor_5 (by decide) ?_
  refine c_S (st := []) hX.stb C hE (C_needQuestion_no (f := f) (r := r) (kn := kn) (x := (x)) (n := 5) hX hl hno) pk_X2_needQuestion qm_X2_201 rfl rfl (Nat.le_of_ble_eq_true rfl) dX2_ofCursor_6 ⟨Nat.le_of_ble_eq_true rfl, Nat.le_of_ble_eq_true rfl⟩ ⟨Nat.le_of_ble_eq_true rfl, Nat.le_of_ble_eq_true rfl⟩ (fun _ _ h9 => h9.elim) (fun E9 h9 => ?_)
  subst h9
  exact r_out C hnt rfl rfl (Nat.le_of_ble_eq_true rfl) (Nat.le_of_ble_eq_true rfl)
theorem dX2_ofCursor_9 : decode cX2_ofCursor 9 = .ok (.aload_n 0, 1) := dqo_42 (kb_X2_ofCursor_0 9 rfl)
theorem dX2_ofCursor_10 : decode cX2_ofCursor 10 = .ok (.getfield 24, 3) := dqo_180 0 24 (kb_X2_ofCursor_0 10 rfl) (kb_X2_ofCursor_0 11 rfl) (kb_X2_ofCursor_0 12 rfl)
theorem dX2_ofCursor_13 : decode cX2_ofCursor 13 = .ok (.iload_n 1, 1) := dqo_27 (kb_X2_ofCursor_0 13 rfl)
theorem dX2_ofCursor_14 : decode cX2_ofCursor 14 = .ok (.aaload, 1) := dqo_50 (kb_X2_ofCursor_0 14 rfl)
theorem dX2_ofCursor_15 : decode cX2_ofCursor 15 = .ok (.astore_n 3, 1) := dqo_78 (kb_X2_ofCursor_0 15 rfl)
theorem dX2_ofCursor_16 : decode cX2_ofCursor 16 = .ok (.aload_n 3, 1) := dqo_45 (kb_X2_ofCursor_0 16 rfl)
theorem dX2_ofCursor_17 : decode cX2_ofCursor 17 = .ok (.getfield 221, 3) := dqo_180 0 221 (kb_X2_ofCursor_0 17 rfl) (kb_X2_ofCursor_0 18 rfl) (kb_X2_ofCursor_0 19 rfl)
theorem dX2_ofCursor_20 : decode cX2_ofCursor 20 = .ok (.ifCond .ne 5, 3) := dqo_154 0 5 (by decide) (kb_X2_ofCursor_0 20 rfl) (kb_X2_ofCursor_0 21 rfl) (kb_X2_ofCursor_0 22 rfl)
theorem dX2_ofCursor_23 : decode cX2_ofCursor 23 = .ok (.iconst (-1), 1) := dqo_2 (kb_X2_ofCursor_0 23 rfl)
theorem dX2_ofCursor_24 : decode cX2_ofCursor 24 = .ok (.ireturn, 1) := dqo_172 (kb_X2_ofCursor_0 24 rfl)
set_option maxRecDepth 100000 in
set_option maxHeartbeats 4000000 in
theorem C_ofCursor_none {l : Launch} {D : va_G} {cy : Nat → ClassId} {X : (Nat → Prop) → State → Heap → Prop} {a f : Nat → Nat → Nat} {r : Nat → Nat → Int32} {kn : Int32} {Y : va_W} {k0 : Nat} {q0 : Nat} (hX : EnvX X) (hC : CInv f) (hk3 : k0 < 3) (hq : q0 < 5) (hz : f 9 k0 = 0) : Cd l D cy X yX2_ofCursor cX2_ofCursor 4 (some .int) (rmz 6 240) [.ref (a 0 0), .int (nI k0), .int (nI q0)] (WC cy a f r kn ++ Y) (some (.int (nI 4294967295))) (WC cy a f r kn ++ Y) := by
  have q3 := hC.sp
  refine Cm.of [some (.ref (a 0 0)), some (.int (nI k0)), some (.int (nI q0)), none] pn_X2 rfl (Nat.le_of_ble_eq_true rfl) ?_
  intro p e s m args below meth c A C hE hr hnt hn
  refine r_iload_n C dX2_ofCursor_0 rfl ?_
  refine d_Sv (st := []) hX.stb C hE (C_needCursor_ok (f := f) (r := r) (kn := kn) (k := k0) hX (by first | omega | (simp [up2, *]; done) | (simp [up2, *]; omega) | (simp only [up2_eq]; omega) | (split <;> omega))) pk_X2_needCursor qm_X2_210 rfl rfl (Nat.le_of_ble_eq_true rfl) dX2_ofCursor_1 ⟨Nat.le_of_ble_eq_true rfl, Nat.le_of_ble_eq_true rfl⟩ ⟨Nat.le_of_ble_eq_true rfl, Nat.le_of_ble_eq_true rfl⟩ ?_
  refine r_iload_n C dX2_ofCursor_4 rfl ?_
  refine r_iconst (v := (nI 5)) C dX2_ofCursor_5 (by decide) ?_
  refine d_Sv (st := []) hX.stb C hE (C_needQuestion_ok (f := f) (r := r) (kn := kn) (k := q0) (n := 5) hX (by first | omega | (simp [up2, *]; done) | (simp [up2, *]; omega) | (simp only [up2_eq]; omega) | (split <;> omega)) (by first | omega | (simp [up2, *]; done) | (simp [up2, *]; omega) | (simp only [up2_eq]; omega) | (split <;> omega))) pk_X2_needQuestion qm_X2_201 rfl rfl (Nat.le_of_ble_eq_true rfl) dX2_ofCursor_6 ⟨Nat.le_of_ble_eq_true rfl, Nat.le_of_ble_eq_true rfl⟩ ⟨Nat.le_of_ble_eq_true rfl, Nat.le_of_ble_eq_true rfl⟩ ?_
  refine r_aload_n C dX2_ofCursor_9 rfl ?_
  refine s_get C 1 (by decide) qf_X2_24 rfl rfl dX2_ofCursor_10 ?_
  refine r_iload_n C dX2_ofCursor_13 rfl ?_
  refine s_curs C (by first | omega | (simp [up2, *]; done) | (simp [up2, *]; omega) | (simp only [up2_eq]; omega) | (split <;> omega)) dX2_ofCursor_14 ?_
  refine r_astore_n C dX2_ofCursor_15 (by decide) rfl ?_
  refine r_aload_n C dX2_ofCursor_16 rfl ?_
  refine u_getN (v := .int (nI (f 9 k0))) hX C hE 3 (by first | omega | (simp [up2, *]; done) | (simp [up2, *]; omega) | (simp only [up2_eq]; omega) | (split <;> omega)) (by decide) qn_X2_221 rfl rfl dX2_ofCursor_17 ?_
  refine r_ifN_ne (a := (f 9 k0)) (tgt := 25) C (by first | omega | (simp [up2, *]; done) | (simp [up2, *]; omega) | (simp only [up2_eq]; omega) | (split <;> omega)) dX2_ofCursor_20 (by decide) (fun h20_1 => ?_) (fun h20_1 => ?_)
  · exact absurd h20_1 (by first | omega | (simp [up2, *]; done) | (simp [up2, *]; omega) | (simp only [up2_eq]; omega) | (split <;> omega))
  · skip
    refine r_iconst (v := (nI 4294967295)) C dX2_ofCursor_23 (by decide) ?_
    exact r_iret C hr dX2_ofCursor_24 ⟨rfl, rfl⟩ (Nat.le_of_ble_eq_true rfl) (Nat.le_of_ble_eq_true rfl)
theorem dX2_ofCursor_25 : decode cX2_ofCursor 25 = .ok (.iload_n 2, 1) := dqo_28 (kb_X2_ofCursor_0 25 rfl)
theorem dX2_ofCursor_26 : decode cX2_ofCursor 26 = .ok (.tableswitch 72 0 3 #[30, 35, 40, 47], 30) := by decide +kernel
theorem dX2_ofCursor_56 : decode cX2_ofCursor 56 = .ok (.aload_n 3, 1) := dqo_45 (kb_X2_ofCursor_0 56 rfl)
theorem dX2_ofCursor_57 : decode cX2_ofCursor 57 = .ok (.getfield 225, 3) := dqo_180 0 225 (kb_X2_ofCursor_0 57 rfl) (kb_X2_ofCursor_0 58 rfl) (kb_X2_ofCursor_0 59 rfl)
theorem dX2_ofCursor_60 : decode cX2_ofCursor 60 = .ok (.ireturn, 1) := dqo_172 (kb_X2_ofCursor_0 60 rfl)
set_option maxRecDepth 100000 in
set_option maxHeartbeats 4000000 in
theorem C_ofCursor_0 {l : Launch} {D : va_G} {cy : Nat → ClassId} {X : (Nat → Prop) → State → Heap → Prop} {a f : Nat → Nat → Nat} {r : Nat → Nat → Int32} {kn : Int32} {Y : va_W} {k0 : Nat} (hX : EnvX X) (hC : CInv f) (hk3 : k0 < 3) (hz : f 9 k0 = 1) : Cd l D cy X yX2_ofCursor cX2_ofCursor 4 (some .int) (rmz 6 240) [.ref (a 0 0), .int (nI k0), .int (nI 0)] (WC cy a f r kn ++ Y) (some (.int (nI (f 6 k0)))) (WC cy a f r kn ++ Y) := by
  have q3 := hC.sp
  have q5 := hC.cu hk3
  refine Cm.of [some (.ref (a 0 0)), some (.int (nI k0)), some (.int (nI 0)), none] pn_X2 rfl (Nat.le_of_ble_eq_true rfl) ?_
  intro p e s m args below meth c A C hE hr hnt hn
  refine r_iload_n C dX2_ofCursor_0 rfl ?_
  refine d_Sv (st := []) hX.stb C hE (C_needCursor_ok (f := f) (r := r) (kn := kn) (k := k0) hX (by first | omega | (simp [up2, *]; done) | (simp [up2, *]; omega) | (simp only [up2_eq]; omega) | (split <;> omega))) pk_X2_needCursor qm_X2_210 rfl rfl (Nat.le_of_ble_eq_true rfl) dX2_ofCursor_1 ⟨Nat.le_of_ble_eq_true rfl, Nat.le_of_ble_eq_true rfl⟩ ⟨Nat.le_of_ble_eq_true rfl, Nat.le_of_ble_eq_true rfl⟩ ?_
  refine r_iload_n C dX2_ofCursor_4 rfl ?_
  refine r_iconst (v := (nI 5)) C dX2_ofCursor_5 (by decide) ?_
  refine d_Sv (st := []) hX.stb C hE (C_needQuestion_ok (f := f) (r := r) (kn := kn) (k := 0) (n := 5) hX (by first | omega | (simp [up2, *]; done) | (simp [up2, *]; omega) | (simp only [up2_eq]; omega) | (split <;> omega)) (by first | omega | (simp [up2, *]; done) | (simp [up2, *]; omega) | (simp only [up2_eq]; omega) | (split <;> omega))) pk_X2_needQuestion qm_X2_201 rfl rfl (Nat.le_of_ble_eq_true rfl) dX2_ofCursor_6 ⟨Nat.le_of_ble_eq_true rfl, Nat.le_of_ble_eq_true rfl⟩ ⟨Nat.le_of_ble_eq_true rfl, Nat.le_of_ble_eq_true rfl⟩ ?_
  refine r_aload_n C dX2_ofCursor_9 rfl ?_
  refine s_get C 1 (by decide) qf_X2_24 rfl rfl dX2_ofCursor_10 ?_
  refine r_iload_n C dX2_ofCursor_13 rfl ?_
  refine s_curs C (by first | omega | (simp [up2, *]; done) | (simp [up2, *]; omega) | (simp only [up2_eq]; omega) | (split <;> omega)) dX2_ofCursor_14 ?_
  refine r_astore_n C dX2_ofCursor_15 (by decide) rfl ?_
  refine r_aload_n C dX2_ofCursor_16 rfl ?_
  refine u_getN (v := .int (nI (f 9 k0))) hX C hE 3 (by first | omega | (simp [up2, *]; done) | (simp [up2, *]; omega) | (simp only [up2_eq]; omega) | (split <;> omega)) (by decide) qn_X2_221 rfl rfl dX2_ofCursor_17 ?_
  refine r_ifN_ne (a := (f 9 k0)) (tgt := 25) C (by first | omega | (simp [up2, *]; done) | (simp [up2, *]; omega) | (simp only [up2_eq]; omega) | (split <;> omega)) dX2_ofCursor_20 (by decide) (fun h20_1 => ?_) (fun h20_1 => ?_)
  · skip
    refine r_iload_n C dX2_ofCursor_25 rfl ?_
    refine r_tableIn (off := 30) (tgt := 56) C dX2_ofCursor_26 (by decide) (by decide) (by decide) (by decide) ?_
    refine r_aload_n C dX2_ofCursor_56 rfl ?_
    refine u_getN (v := .int (nI (f 6 k0))) hX C hE 0 (by first | omega | (simp [up2, *]; done) | (simp [up2, *]; omega) | (simp only [up2_eq]; omega) | (split <;> omega)) (by decide) qn_X2_225 rfl rfl dX2_ofCursor_57 ?_
    exact r_iret C hr dX2_ofCursor_60 ⟨rfl, rfl⟩ (Nat.le_of_ble_eq_true rfl) (Nat.le_of_ble_eq_true rfl)
  · exact absurd h20_1 (by first | omega | (simp [up2, *]; done) | (simp [up2, *]; omega) | (simp only [up2_eq]; omega) | (split <;> omega))
theorem dX2_ofCursor_61 : decode cX2_ofCursor 61 = .ok (.aload_n 3, 1) := dqo_45 (kb_X2_ofCursor_0 61 rfl)
theorem dX2_ofCursor_62 : decode cX2_ofCursor 62 = .ok (.getfield 234, 3) := dqo_180 0 234 (kb_X2_ofCursor_0 62 rfl) (kb_X2_ofCursor_0 63 rfl) (kb_X2_ofCursor_1 0 rfl)
theorem dX2_ofCursor_65 : decode cX2_ofCursor 65 = .ok (.ireturn, 1) := dqo_172 (kb_X2_ofCursor_1 1 rfl)
set_option maxRecDepth 100000 in
set_option maxHeartbeats 4000000 in
theorem C_ofCursor_1 {l : Launch} {D : va_G} {cy : Nat → ClassId} {X : (Nat → Prop) → State → Heap → Prop} {a f : Nat → Nat → Nat} {r : Nat → Nat → Int32} {kn : Int32} {Y : va_W} {k0 : Nat} (hX : EnvX X) (hC : CInv f) (hk3 : k0 < 3) (hz : f 9 k0 = 1) : Cd l D cy X yX2_ofCursor cX2_ofCursor 4 (some .int) (rmz 6 240) [.ref (a 0 0), .int (nI k0), .int (nI 1)] (WC cy a f r kn ++ Y) (some (.int (nI (f 7 k0)))) (WC cy a f r kn ++ Y) := by
  have q3 := hC.sp
  have q5 := hC.cu hk3
  refine Cm.of [some (.ref (a 0 0)), some (.int (nI k0)), some (.int (nI 1)), none] pn_X2 rfl (Nat.le_of_ble_eq_true rfl) ?_
  intro p e s m args below meth c A C hE hr hnt hn
  refine r_iload_n C dX2_ofCursor_0 rfl ?_
  refine d_Sv (st := []) hX.stb C hE (C_needCursor_ok (f := f) (r := r) (kn := kn) (k := k0) hX (by first | omega | (simp [up2, *]; done) | (simp [up2, *]; omega) | (simp only [up2_eq]; omega) | (split <;> omega))) pk_X2_needCursor qm_X2_210 rfl rfl (Nat.le_of_ble_eq_true rfl) dX2_ofCursor_1 ⟨Nat.le_of_ble_eq_true rfl, Nat.le_of_ble_eq_true rfl⟩ ⟨Nat.le_of_ble_eq_true rfl, Nat.le_of_ble_eq_true rfl⟩ ?_
  refine r_iload_n C dX2_ofCursor_4 rfl ?_
  refine r_iconst (v := (nI 5)) C dX2_ofCursor_5 (by decide) ?_
  refine d_Sv (st := []) hX.stb C hE (C_needQuestion_ok (f := f) (r := r) (kn := kn) (k := 1) (n := 5) hX (by first | omega | (simp [up2, *]; done) | (simp [up2, *]; omega) | (simp only [up2_eq]; omega) | (split <;> omega)) (by first | omega | (simp [up2, *]; done) | (simp [up2, *]; omega) | (simp only [up2_eq]; omega) | (split <;> omega))) pk_X2_needQuestion qm_X2_201 rfl rfl (Nat.le_of_ble_eq_true rfl) dX2_ofCursor_6 ⟨Nat.le_of_ble_eq_true rfl, Nat.le_of_ble_eq_true rfl⟩ ⟨Nat.le_of_ble_eq_true rfl, Nat.le_of_ble_eq_true rfl⟩ ?_
  refine r_aload_n C dX2_ofCursor_9 rfl ?_
  refine s_get C 1 (by decide) qf_X2_24 rfl rfl dX2_ofCursor_10 ?_
  refine r_iload_n C dX2_ofCursor_13 rfl ?_
  refine s_curs C (by first | omega | (simp [up2, *]; done) | (simp [up2, *]; omega) | (simp only [up2_eq]; omega) | (split <;> omega)) dX2_ofCursor_14 ?_
  refine r_astore_n C dX2_ofCursor_15 (by decide) rfl ?_
  refine r_aload_n C dX2_ofCursor_16 rfl ?_
  refine u_getN (v := .int (nI (f 9 k0))) hX C hE 3 (by first | omega | (simp [up2, *]; done) | (simp [up2, *]; omega) | (simp only [up2_eq]; omega) | (split <;> omega)) (by decide) qn_X2_221 rfl rfl dX2_ofCursor_17 ?_
  refine r_ifN_ne (a := (f 9 k0)) (tgt := 25) C (by first | omega | (simp [up2, *]; done) | (simp [up2, *]; omega) | (simp only [up2_eq]; omega) | (split <;> omega)) dX2_ofCursor_20 (by decide) (fun h20_1 => ?_) (fun h20_1 => ?_)
  · skip
    refine r_iload_n C dX2_ofCursor_25 rfl ?_
    refine r_tableIn (off := 35) (tgt := 61) C dX2_ofCursor_26 (by decide) (by decide) (by decide) (by decide) ?_
    refine r_aload_n C dX2_ofCursor_61 rfl ?_
    refine u_getN (v := .int (nI (f 7 k0))) hX C hE 1 (by first | omega | (simp [up2, *]; done) | (simp [up2, *]; omega) | (simp only [up2_eq]; omega) | (split <;> omega)) (by decide) qn_X2_234 rfl rfl dX2_ofCursor_62 ?_
    exact r_iret C hr dX2_ofCursor_65 ⟨rfl, rfl⟩ (Nat.le_of_ble_eq_true rfl) (Nat.le_of_ble_eq_true rfl)
  · exact absurd h20_1 (by first | omega | (simp [up2, *]; done) | (simp [up2, *]; omega) | (simp only [up2_eq]; omega) | (split <;> omega))
theorem dX2_ofCursor_66 : decode cX2_ofCursor 66 = .ok (.aload_n 3, 1) := dqo_45 (kb_X2_ofCursor_1 2 rfl)
theorem dX2_ofCursor_67 : decode cX2_ofCursor 67 = .ok (.getfield 234, 3) := dqo_180 0 234 (kb_X2_ofCursor_1 3 rfl) (kb_X2_ofCursor_1 4 rfl) (kb_X2_ofCursor_1 5 rfl)
theorem dX2_ofCursor_70 : decode cX2_ofCursor 70 = .ok (.iconst 1, 1) := dqo_4 (kb_X2_ofCursor_1 6 rfl)
theorem dX2_ofCursor_71 : decode cX2_ofCursor 71 = .ok (.isub, 1) := dqo_100 (kb_X2_ofCursor_1 7 rfl)
theorem dX2_ofCursor_72 : decode cX2_ofCursor 72 = .ok (.ireturn, 1) := dqo_172 (kb_X2_ofCursor_1 8 rfl)
set_option maxRecDepth 100000 in
set_option maxHeartbeats 4000000 in
theorem C_ofCursor_2 {l : Launch} {D : va_G} {cy : Nat → ClassId} {X : (Nat → Prop) → State → Heap → Prop} {a f : Nat → Nat → Nat} {r : Nat → Nat → Int32} {kn : Int32} {Y : va_W} {k0 : Nat} (hX : EnvX X) (hC : CInv f) (hk3 : k0 < 3) (hz : f 9 k0 = 1) : Cd l D cy X yX2_ofCursor cX2_ofCursor 4 (some .int) (rmz 6 240) [.ref (a 0 0), .int (nI k0), .int (nI 2)] (WC cy a f r kn ++ Y) (some (.int ((nI (f 7 k0)) - (nI 1)))) (WC cy a f r kn ++ Y) := by
  have q3 := hC.sp
  have q5 := hC.cu hk3
  refine Cm.of [some (.ref (a 0 0)), some (.int (nI k0)), some (.int (nI 2)), none] pn_X2 rfl (Nat.le_of_ble_eq_true rfl) ?_
  intro p e s m args below meth c A C hE hr hnt hn
  refine r_iload_n C dX2_ofCursor_0 rfl ?_
  refine d_Sv (st := []) hX.stb C hE (C_needCursor_ok (f := f) (r := r) (kn := kn) (k := k0) hX (by first | omega | (simp [up2, *]; done) | (simp [up2, *]; omega) | (simp only [up2_eq]; omega) | (split <;> omega))) pk_X2_needCursor qm_X2_210 rfl rfl (Nat.le_of_ble_eq_true rfl) dX2_ofCursor_1 ⟨Nat.le_of_ble_eq_true rfl, Nat.le_of_ble_eq_true rfl⟩ ⟨Nat.le_of_ble_eq_true rfl, Nat.le_of_ble_eq_true rfl⟩ ?_
  refine r_iload_n C dX2_ofCursor_4 rfl ?_
  refine r_iconst (v := (nI 5)) C dX2_ofCursor_5 (by decide) ?_
  refine d_Sv (st := []) hX.stb C hE (C_needQuestion_ok (f := f) (r := r) (kn := kn) (k := 2) (n := 5) hX (by first | omega | (simp [up2, *]; done) | (simp [up2, *]; omega) | (simp only [up2_eq]; omega) | (split <;> omega)) (by first | omega | (simp [up2, *]; done) | (simp [up2, *]; omega) | (simp only [up2_eq]; omega) | (split <;> omega))) pk_X2_needQuestion qm_X2_201 rfl rfl (Nat.le_of_ble_eq_true rfl) dX2_ofCursor_6 ⟨Nat.le_of_ble_eq_true rfl, Nat.le_of_ble_eq_true rfl⟩ ⟨Nat.le_of_ble_eq_true rfl, Nat.le_of_ble_eq_true rfl⟩ ?_
  refine r_aload_n C dX2_ofCursor_9 rfl ?_
  refine s_get C 1 (by decide) qf_X2_24 rfl rfl dX2_ofCursor_10 ?_
  refine r_iload_n C dX2_ofCursor_13 rfl ?_
  refine s_curs C (by first | omega | (simp [up2, *]; done) | (simp [up2, *]; omega) | (simp only [up2_eq]; omega) | (split <;> omega)) dX2_ofCursor_14 ?_
  refine r_astore_n C dX2_ofCursor_15 (by decide) rfl ?_
  refine r_aload_n C dX2_ofCursor_16 rfl ?_
  refine u_getN (v := .int (nI (f 9 k0))) hX C hE 3 (by first | omega | (simp [up2, *]; done) | (simp [up2, *]; omega) | (simp only [up2_eq]; omega) | (split <;> omega)) (by decide) qn_X2_221 rfl rfl dX2_ofCursor_17 ?_
  refine r_ifN_ne (a := (f 9 k0)) (tgt := 25) C (by first | omega | (simp [up2, *]; done) | (simp [up2, *]; omega) | (simp only [up2_eq]; omega) | (split <;> omega)) dX2_ofCursor_20 (by decide) (fun h20_1 => ?_) (fun h20_1 => ?_)
  · skip
    refine r_iload_n C dX2_ofCursor_25 rfl ?_
    refine r_tableIn (off := 40) (tgt := 66) C dX2_ofCursor_26 (by decide) (by decide) (by decide) (by decide) ?_
    refine r_aload_n C dX2_ofCursor_66 rfl ?_
    refine u_getN (v := .int (nI (f 7 k0))) hX C hE 1 (by first | omega | (simp [up2, *]; done) | (simp [up2, *]; omega) | (simp only [up2_eq]; omega) | (split <;> omega)) (by decide) qn_X2_234 rfl rfl dX2_ofCursor_67 ?_
    refine r_iconst (v := (nI 1)) C dX2_ofCursor_70 (by decide) ?_
    refine r_isub C dX2_ofCursor_71 ?_
    exact r_iret C hr dX2_ofCursor_72 ⟨rfl, rfl⟩ (Nat.le_of_ble_eq_true rfl) (Nat.le_of_ble_eq_true rfl)
  · exact absurd h20_1 (by first | omega | (simp [up2, *]; done) | (simp [up2, *]; omega) | (simp only [up2_eq]; omega) | (split <;> omega))
theorem dX2_ofCursor_73 : decode cX2_ofCursor 73 = .ok (.aload_n 3, 1) := dqo_45 (kb_X2_ofCursor_1 9 rfl)
theorem dX2_ofCursor_74 : decode cX2_ofCursor 74 = .ok (.getfield 234, 3) := dqo_180 0 234 (kb_X2_ofCursor_1 10 rfl) (kb_X2_ofCursor_1 11 rfl) (kb_X2_ofCursor_1 12 rfl)
theorem dX2_ofCursor_77 : decode cX2_ofCursor 77 = .ok (.aload_n 0, 1) := dqo_42 (kb_X2_ofCursor_1 13 rfl)
theorem dX2_ofCursor_78 : decode cX2_ofCursor 78 = .ok (.getfield 11, 3) := dqo_180 0 11 (kb_X2_ofCursor_1 14 rfl) (kb_X2_ofCursor_1 15 rfl) (kb_X2_ofCursor_1 16 rfl)
theorem dX2_ofCursor_81 : decode cX2_ofCursor 81 = .ok (.aload_n 3, 1) := dqo_45 (kb_X2_ofCursor_1 17 rfl)
theorem dX2_ofCursor_82 : decode cX2_ofCursor 82 = .ok (.getfield 225, 3) := dqo_180 0 225 (kb_X2_ofCursor_1 18 rfl) (kb_X2_ofCursor_1 19 rfl) (kb_X2_ofCursor_1 20 rfl)
theorem dX2_ofCursor_85 : decode cX2_ofCursor 85 = .ok (.aaload, 1) := dqo_50 (kb_X2_ofCursor_1 21 rfl)
theorem dX2_ofCursor_86 : decode cX2_ofCursor 86 = .ok (.getfield 50, 3) := dqo_180 0 50 (kb_X2_ofCursor_1 22 rfl) (kb_X2_ofCursor_1 23 rfl) (kb_X2_ofCursor_1 24 rfl)
theorem dX2_ofCursor_89 : decode cX2_ofCursor 89 = .ok (.if_icmp .ge 7, 3) := dqo_162 0 7 (by decide) (kb_X2_ofCursor_1 25 rfl) (kb_X2_ofCursor_1 26 rfl) (kb_X2_ofCursor_1 27 rfl)
theorem dX2_ofCursor_92 : decode cX2_ofCursor 92 = .ok (.iconst 1, 1) := dqo_4 (kb_X2_ofCursor_1 28 rfl)
theorem dX2_ofCursor_93 : decode cX2_ofCursor 93 = .ok (.goto 4, 3) := dqo_167 0 4 (by decide) (kb_X2_ofCursor_1 29 rfl) (kb_X2_ofCursor_1 30 rfl) (kb_X2_ofCursor_1 31 rfl)
theorem dX2_ofCursor_96 : decode cX2_ofCursor 96 = .ok (.iconst 0, 1) := dqo_3 (kb_X2_ofCursor_1 32 rfl)
theorem dX2_ofCursor_97 : decode cX2_ofCursor 97 = .ok (.ireturn, 1) := dqo_172 (kb_X2_ofCursor_1 33 rfl)
set_option maxRecDepth 100000 in
set_option maxHeartbeats 4000000 in
theorem C_ofCursor_3 {l : Launch} {D : va_G} {cy : Nat → ClassId} {X : (Nat → Prop) → State → Heap → Prop} {a f : Nat → Nat → Nat} {r : Nat → Nat → Int32} {kn : Int32} {Y : va_W} {k0 : Nat} (hX : EnvX X) (hC : CInv f) (hk3 : k0 < 3) (hz : f 9 k0 = 1) : Cd l D cy X yX2_ofCursor cX2_ofCursor 4 (some .int) (rmz 6 240) [.ref (a 0 0), .int (nI k0), .int (nI 3)] (WC cy a f r kn ++ Y) (some (.int (nI (if f 7 k0 < f 4 (f 6 k0) then 1 else 0)))) (WC cy a f r kn ++ Y) := by
  have q3 := hC.sp
  have q5 := hC.cu hk3
  have q6 := q5.2.2 hz
  have q7 := hC.th q5.1 q6.1
  refine Cm.of [some (.ref (a 0 0)), some (.int (nI k0)), some (.int (nI 3)), none] pn_X2 rfl (Nat.le_of_ble_eq_true rfl) ?_
  intro p e s m args below meth c A C hE hr hnt hn
  refine r_iload_n C dX2_ofCursor_0 rfl ?_
  refine d_Sv (st := []) hX.stb C hE (C_needCursor_ok (f := f) (r := r) (kn := kn) (k := k0) hX (by first | omega | (simp [up2, *]; done) | (simp [up2, *]; omega) | (simp only [up2_eq]; omega) | (split <;> omega))) pk_X2_needCursor qm_X2_210 rfl rfl (Nat.le_of_ble_eq_true rfl) dX2_ofCursor_1 ⟨Nat.le_of_ble_eq_true rfl, Nat.le_of_ble_eq_true rfl⟩ ⟨Nat.le_of_ble_eq_true rfl, Nat.le_of_ble_eq_true rfl⟩ ?_
  refine r_iload_n C dX2_ofCursor_4 rfl ?_
  refine r_iconst (v := (nI 5)) C dX2_ofCursor_5 (by decide) ?_
  refine d_Sv (st := []) hX.stb C hE (C_needQuestion_ok (f := f) (r := r) (kn := kn) (k := 3) (n := 5) hX (by first | omega | (simp [up2, *]; done) | (simp [up2, *]; omega) | (simp only [up2_eq]; omega) | (split <;> omega)) (by first | omega | (simp [up2, *]; done) | (simp [up2, *]; omega) | (simp only [up2_eq]; omega) | (split <;> omega))) pk_X2_needQuestion qm_X2_201 rfl rfl (Nat.le_of_ble_eq_true rfl) dX2_ofCursor_6 ⟨Nat.le_of_ble_eq_true rfl, Nat.le_of_ble_eq_true rfl⟩ ⟨Nat.le_of_ble_eq_true rfl, Nat.le_of_ble_eq_true rfl⟩ ?_
  refine r_aload_n C dX2_ofCursor_9 rfl ?_
  refine s_get C 1 (by decide) qf_X2_24 rfl rfl dX2_ofCursor_10 ?_
  refine r_iload_n C dX2_ofCursor_13 rfl ?_
  refine s_curs C (by first | omega | (simp [up2, *]; done) | (simp [up2, *]; omega) | (simp only [up2_eq]; omega) | (split <;> omega)) dX2_ofCursor_14 ?_
  refine r_astore_n C dX2_ofCursor_15 (by decide) rfl ?_
  refine r_aload_n C dX2_ofCursor_16 rfl ?_
  refine u_getN (v := .int (nI (f 9 k0))) hX C hE 3 (by first | omega | (simp [up2, *]; done) | (simp [up2, *]; omega) | (simp only [up2_eq]; omega) | (split <;> omega)) (by decide) qn_X2_221 rfl rfl dX2_ofCursor_17 ?_
  refine r_ifN_ne (a := (f 9 k0)) (tgt := 25) C (by first | omega | (simp [up2, *]; done) | (simp [up2, *]; omega) | (simp only [up2_eq]; omega) | (split <;> omega)) dX2_ofCursor_20 (by decide) (fun h20_1 => ?_) (fun h20_1 => ?_)
  · skip
    refine r_iload_n C dX2_ofCursor_25 rfl ?_
    refine r_tableIn (off := 47) (tgt := 73) C dX2_ofCursor_26 (by decide) (by decide) (by decide) (by decide) ?_
    refine r_aload_n C dX2_ofCursor_73 rfl ?_
    refine u_getN (v := .int (nI (f 7 k0))) hX C hE 1 (by first | omega | (simp [up2, *]; done) | (simp [up2, *]; omega) | (simp only [up2_eq]; omega) | (split <;> omega)) (by decide) qn_X2_234 rfl rfl dX2_ofCursor_74 ?_
    refine r_aload_n C dX2_ofCursor_77 rfl ?_
    refine s_get C 0 (by decide) qf_X2_11 rfl rfl dX2_ofCursor_78 ?_
    refine r_aload_n C dX2_ofCursor_81 rfl ?_
    refine u_getN (v := .int (nI (f 6 k0))) hX C hE 0 (by first | omega | (simp [up2, *]; done) | (simp [up2, *]; omega) | (simp only [up2_eq]; omega) | (split <;> omega)) (by decide) qn_X2_225 rfl rfl dX2_ofCursor_82 ?_
    refine s_parts C (by first | omega | (simp [up2, *]; done) | (simp [up2, *]; omega) | (simp only [up2_eq]; omega) | (split <;> omega)) dX2_ofCursor_85 ?_
    refine p_getN (v := .int (nI (f 4 (f 6 k0)))) hX C hE 4 (by first | omega | (simp [up2, *]; done) | (simp [up2, *]; omega) | (simp only [up2_eq]; omega) | (split <;> omega)) (by decide) qn_X2_50 rfl rfl dX2_ofCursor_86 ?_
    refine r_icN_ge (a := (f 7 k0)) (b := (f 4 (f 6 k0))) (tgt := 96) C (by first | omega | (simp [up2, *]; done) | (simp [up2, *]; omega) | (simp only [up2_eq]; omega) | (split <;> omega)) (by first | omega | (simp [up2, *]; done) | (simp [up2, *]; omega) | (simp only [up2_eq]; omega) | (split <;> omega)) dX2_ofCursor_89 (by decide) (fun h89_2 => ?_) (fun h89_2 => ?_)
    · first
      | exfalso; first | omega | contradiction
      | skip
        refine r_iconst (v := (nI 0)) C dX2_ofCursor_96 (by decide) ?_
        exact r_iret C hr dX2_ofCursor_97 ⟨by first | rfl | rw [if_pos (by omega)] | rw [if_neg (by omega)], rfl⟩ (Nat.le_of_ble_eq_true rfl) (Nat.le_of_ble_eq_true rfl)
    · first
      | exfalso; first | omega | contradiction
      | skip
        refine r_iconst (v := (nI 1)) C dX2_ofCursor_92 (by decide) ?_
        refine r_goto (tgt := 97) C dX2_ofCursor_93 (by decide) ?_
        exact r_iret C hr dX2_ofCursor_97 ⟨by first | rfl | rw [if_pos (by omega)] | rw [if_neg (by omega)], rfl⟩ (Nat.le_of_ble_eq_true rfl) (Nat.le_of_ble_eq_true rfl)
  · exact absurd h20_1 (by first | omega | (simp [up2, *]; done) | (simp [up2, *]; omega) | (simp only [up2_eq]; omega) | (split <;> omega))
theorem dX2_ofCursor_98 : decode cX2_ofCursor 98 = .ok (.aload_n 3, 1) := dqo_45 (kb_X2_ofCursor_1 34 rfl)
theorem dX2_ofCursor_99 : decode cX2_ofCursor 99 = .ok (.getfield 234, 3) := dqo_180 0 234 (kb_X2_ofCursor_1 35 rfl) (kb_X2_ofCursor_1 36 rfl) (kb_X2_ofCursor_1 37 rfl)
theorem dX2_ofCursor_102 : decode cX2_ofCursor 102 = .ok (.ifCond .le 7, 3) := dqo_158 0 7 (by decide) (kb_X2_ofCursor_1 38 rfl) (kb_X2_ofCursor_1 39 rfl) (kb_X2_ofCursor_1 40 rfl)
theorem dX2_ofCursor_105 : decode cX2_ofCursor 105 = .ok (.iconst 1, 1) := dqo_4 (kb_X2_ofCursor_1 41 rfl)
theorem dX2_ofCursor_106 : decode cX2_ofCursor 106 = .ok (.goto 4, 3) := dqo_167 0 4 (by decide) (kb_X2_ofCursor_1 42 rfl) (kb_X2_ofCursor_1 43 rfl) (kb_X2_ofCursor_1 44 rfl)
theorem dX2_ofCursor_109 : decode cX2_ofCursor 109 = .ok (.iconst 0, 1) := dqo_3 (kb_X2_ofCursor_1 45 rfl)
theorem dX2_ofCursor_110 : decode cX2_ofCursor 110 = .ok (.ireturn, 1) := dqo_172 (kb_X2_ofCursor_1 46 rfl)
set_option maxRecDepth 100000 in
set_option maxHeartbeats 4000000 in
theorem C_ofCursor_4 {l : Launch} {D : va_G} {cy : Nat → ClassId} {X : (Nat → Prop) → State → Heap → Prop} {a f : Nat → Nat → Nat} {r : Nat → Nat → Int32} {kn : Int32} {Y : va_W} {k0 : Nat} (hX : EnvX X) (hC : CInv f) (hk3 : k0 < 3) (hz : f 9 k0 = 1) : Cd l D cy X yX2_ofCursor cX2_ofCursor 4 (some .int) (rmz 6 240) [.ref (a 0 0), .int (nI k0), .int (nI 4)] (WC cy a f r kn ++ Y) (some (.int (nI (if 0 < f 7 k0 then 1 else 0)))) (WC cy a f r kn ++ Y) := by
  have q3 := hC.sp
  have q5 := hC.cu hk3
  have q6 := q5.2.2 hz
  have q7 := hC.th q5.1 q6.1
  refine Cm.of [some (.ref (a 0 0)), some (.int (nI k0)), some (.int (nI 4)), none] pn_X2 rfl (Nat.le_of_ble_eq_true rfl) ?_
  intro p e s m args below meth c A C hE hr hnt hn
  refine r_iload_n C dX2_ofCursor_0 rfl ?_
  refine d_Sv (st := []) hX.stb C hE (C_needCursor_ok (f := f) (r := r) (kn := kn) (k := k0) hX (by first | omega | (simp [up2, *]; done) | (simp [up2, *]; omega) | (simp only [up2_eq]; omega) | (split <;> omega))) pk_X2_needCursor qm_X2_210 rfl rfl (Nat.le_of_ble_eq_true rfl) dX2_ofCursor_1 ⟨Nat.le_of_ble_eq_true rfl, Nat.le_of_ble_eq_true rfl⟩ ⟨Nat.le_of_ble_eq_true rfl, Nat.le_of_ble_eq_true rfl⟩ ?_
  refine r_iload_n C dX2_ofCursor_4 rfl ?_
  refine r_iconst (v := (nI 5)) C dX2_ofCursor_5 (by decide) ?_
  refine d_Sv (st := []) hX.stb C hE (C_needQuestion_ok (f := f) (r := r) (kn := kn) (k := 4) (n := 5) hX (by first | omega | (simp [up2, *]; done) | (simp [up2, *]; omega) | (simp only [up2_eq]; omega) | (split <;> omega)) (by first | omega | (simp [up2, *]; done) | (simp [up2, *]; omega) | (simp only [up2_eq]; omega) | (split <;> omega))) pk_X2_needQuestion qm_X2_201 rfl rfl (Nat.le_of_ble_eq_true rfl) dX2_ofCursor_6 ⟨Nat.le_of_ble_eq_true rfl, Nat.le_of_ble_eq_true rfl⟩ ⟨Nat.le_of_ble_eq_true rfl, Nat.le_of_ble_eq_true rfl⟩ ?_
  refine r_aload_n C dX2_ofCursor_9 rfl ?_
  refine s_get C 1 (by decide) qf_X2_24 rfl rfl dX2_ofCursor_10 ?_
  refine r_iload_n C dX2_ofCursor_13 rfl ?_
  refine s_curs C (by first | omega | (simp [up2, *]; done) | (simp [up2, *]; omega) | (simp only [up2_eq]; omega) | (split <;> omega)) dX2_ofCursor_14 ?_
  refine r_astore_n C dX2_ofCursor_15 (by decide) rfl ?_
  refine r_aload_n C dX2_ofCursor_16 rfl ?_
  refine u_getN (v := .int (nI (f 9 k0))) hX C hE 3 (by first | omega | (simp [up2, *]; done) | (simp [up2, *]; omega) | (simp only [up2_eq]; omega) | (split <;> omega)) (by decide) qn_X2_221 rfl rfl dX2_ofCursor_17 ?_
  refine r_ifN_ne (a := (f 9 k0)) (tgt := 25) C (by first | omega | (simp [up2, *]; done) | (simp [up2, *]; omega) | (simp only [up2_eq]; omega) | (split <;> omega)) dX2_ofCursor_20 (by decide) (fun h20_1 => ?_) (fun h20_1 => ?_)
  · skip
    refine r_iload_n C dX2_ofCursor_25 rfl ?_
    refine r_tableOut (tgt := 98) C dX2_ofCursor_26 (by decide) (by decide) ?_
    refine r_aload_n C dX2_ofCursor_98 rfl ?_
    refine u_getN (v := .int (nI (f 7 k0))) hX C hE 1 (by first | omega | (simp [up2, *]; done) | (simp [up2, *]; omega) | (simp only [up2_eq]; omega) | (split <;> omega)) (by decide) qn_X2_234 rfl rfl dX2_ofCursor_99 ?_
    refine r_ifN_le (a := (f 7 k0)) (tgt := 109) C (by first | omega | (simp [up2, *]; done) | (simp [up2, *]; omega) | (simp only [up2_eq]; omega) | (split <;> omega)) dX2_ofCursor_102 (by decide) (fun h102_2 => ?_) (fun h102_2 => ?_)
    · first
      | exfalso; first | omega | contradiction
      | skip
        refine r_iconst (v := (nI 0)) C dX2_ofCursor_109 (by decide) ?_
        exact r_iret C hr dX2_ofCursor_110 ⟨by first | rfl | rw [if_pos (by omega)] | rw [if_neg (by omega)], rfl⟩ (Nat.le_of_ble_eq_true rfl) (Nat.le_of_ble_eq_true rfl)
    · first
      | exfalso; first | omega | contradiction
      | skip
        refine r_iconst (v := (nI 1)) C dX2_ofCursor_105 (by decide) ?_
        refine r_goto (tgt := 110) C dX2_ofCursor_106 (by decide) ?_
        exact r_iret C hr dX2_ofCursor_110 ⟨by first | rfl | rw [if_pos (by omega)] | rw [if_neg (by omega)], rfl⟩ (Nat.le_of_ble_eq_true rfl) (Nat.le_of_ble_eq_true rfl)
  · exact absurd h20_1 (by first | omega | (simp [up2, *]; done) | (simp [up2, *]; omega) | (simp only [up2_eq]; omega) | (split <;> omega))
theorem dX2_house_0 : decode cX2_house 0 = .ok (.iload_n 1, 1) := dqo_27 (kb_of ke_X2_house 0 rfl)
theorem dX2_house_1 : decode cX2_house 1 = .ok (.iconst 4, 1) := dqo_7 (kb_of ke_X2_house 1 rfl)
theorem dX2_house_2 : decode cX2_house 2 = .ok (.invokestatic 201, 3) := dqo_184 0 201 (kb_of ke_X2_house 2 rfl) (kb_of ke_X2_house 3 rfl) (kb_of ke_X2_house 4 rfl)
set_option maxRecDepth 100000 in
set_option maxHeartbeats 4000000 in
theorem C_house_noQ {l : Launch} {D : va_G} {cy : Nat → ClassId} {X : (Nat → Prop) → State → Heap → Prop} {a f : Nat → Nat → Nat} {r : Nat → Nat → Int32} {kn : Int32} {Y : va_W} {x : Int32} (hX : EnvX X) (hl : l.stackTraces = false) (hC : CInv f) (hno : ¬ (0 ≤ x ∧ x < nI 4)) : Ce l D cy X yX2_house cX2_house 2 (some .int) (rmk 8 1 6 170) [.ref (a 0 0), .int x] (WC cy a f r kn ++ Y) "java/lang/IllegalArgumentException" := by
  have q3 := hC.sp
  refine Cm.of [some (.ref (a 0 0)), some (.int x)] pn_X2 rfl (Nat.le_of_ble_eq_true rfl) ?_
  intro p e s m args below meth c A C hE hr hnt hn
  refine r_iload_n C dX2_house_0 rfl ?_
  refine r_iconst (v := (nI 4)) C dX2_house_1 (by decide) ?_
  refine c_S (st := []) hX.stb C hE (C_needQuestion_no (f := f) (r := r) (kn := kn) (x := (x)) (n := 4) hX hl hno) pk_X2_needQuestion qm_X2_201 rfl rfl (Nat.le_of_ble_eq_true rfl) dX2_house_2 ⟨Nat.le_of_ble_eq_true rfl, Nat.le_of_ble_eq_true rfl⟩ ⟨Nat.le_of_ble_eq_true rfl, Nat.le_of_ble_eq_true rfl⟩ (fun _ _ h9 => h9.elim) (fun E9 h9 => ?_)
  subst h9
  exact r_out C hnt rfl rfl (Nat.le_of_ble_eq_true rfl) (Nat.le_of_ble_eq_true rfl)
theorem pk_X2_itemsOfRows : PkV RX2 yX2_itemsOfRows cX2_itemsOfRows 3 (some .int) 0 := ⟨⟨qi_X2_itemsOfRows, qs_X2_itemsOfRows, qz_X2, qc_X2_itemsOfRows⟩, rfl, mh_X2.1, mh_X2.2, pd_10⟩
theorem dX2_house_5 : decode cX2_house 5 = .ok (.iload_n 1, 1) := dqo_27 (kb_of ke_X2_house 5 rfl)
theorem dX2_house_6 : decode cX2_house 6 = .ok (.tableswitch 41 0 2 #[26, 31, 36], 26) := by decide +kernel
theorem dX2_house_32 : decode cX2_house 32 = .ok (.aload_n 0, 1) := dqo_42 (kb_of ke_X2_house 32 rfl)
theorem dX2_house_33 : decode cX2_house 33 = .ok (.invokevirtual 240, 3) := dqo_182 0 240 (kb_of ke_X2_house 33 rfl) (kb_of ke_X2_house 34 rfl) (kb_of ke_X2_house 35 rfl)
theorem dX2_house_36 : decode cX2_house 36 = .ok (.ireturn, 1) := dqo_172 (kb_of ke_X2_house 36 rfl)
set_option maxRecDepth 100000 in
set_option maxHeartbeats 4000000 in
theorem C_house_0 {l : Launch} {D : va_G} {cy : Nat → ClassId} {X : (Nat → Prop) → State → Heap → Prop} {a f : Nat → Nat → Nat} {r : Nat → Nat → Int32} {kn : Int32} {Y : va_W}  (hX : EnvX X) (hC : CInv f) : Cd l D cy X yX2_house cX2_house 2 (some .int) (rmz 6 240) [.ref (a 0 0), .int (nI 0)] (WC cy a f r kn ++ Y) (some (.int (nI (smF (f 4) 4 0 0)))) (WC cy a f r kn ++ Y) := by
  have q3 := hC.sp
  refine Cm.of [some (.ref (a 0 0)), some (.int (nI 0))] pn_X2 rfl (Nat.le_of_ble_eq_true rfl) ?_
  intro p e s m args below meth c A C hE hr hnt hn
  refine r_iload_n C dX2_house_0 rfl ?_
  refine r_iconst (v := (nI 4)) C dX2_house_1 (by decide) ?_
  refine d_Sv (st := []) hX.stb C hE (C_needQuestion_ok (f := f) (r := r) (kn := kn) (k := 0) (n := 4) hX (by first | omega | (simp [up2, *]; done) | (simp [up2, *]; omega) | (simp only [up2_eq]; omega) | (split <;> omega)) (by first | omega | (simp [up2, *]; done) | (simp [up2, *]; omega) | (simp only [up2_eq]; omega) | (split <;> omega))) pk_X2_needQuestion qm_X2_201 rfl rfl (Nat.le_of_ble_eq_true rfl) dX2_house_2 ⟨Nat.le_of_ble_eq_true rfl, Nat.le_of_ble_eq_true rfl⟩ ⟨Nat.le_of_ble_eq_true rfl, Nat.le_of_ble_eq_true rfl⟩ ?_
  refine r_iload_n C dX2_house_5 rfl ?_
  refine r_tableIn (off := 26) (tgt := 32) C dX2_house_6 (by decide) (by decide) (by decide) (by decide) ?_
  refine r_aload_n C dX2_house_32 rfl ?_
  refine d_V (st := []) hX.stb C hE (C_itemsOfRows (f := f) (r := r) (kn := kn)  hX (fun i hi => (hC.rw hi).2.2.2.2.1)) pk_X2_itemsOfRows qm_X2_240 0 6 rfl rfl wc_0 rfl rfl (Nat.le_of_ble_eq_true rfl) dX2_house_33 ⟨Nat.le_of_ble_eq_true rfl, Nat.le_of_ble_eq_true rfl⟩ ⟨Nat.le_of_ble_eq_true rfl, Nat.le_of_ble_eq_true rfl⟩ ?_
  exact r_iret C hr dX2_house_36 ⟨rfl, rfl⟩ (Nat.le_of_ble_eq_true rfl) (Nat.le_of_ble_eq_true rfl)
theorem dX2_house_37 : decode cX2_house 37 = .ok (.aload_n 0, 1) := dqo_42 (kb_of ke_X2_house 37 rfl)
theorem dX2_house_38 : decode cX2_house 38 = .ok (.invokevirtual 198, 3) := dqo_182 0 198 (kb_of ke_X2_house 38 rfl) (kb_of ke_X2_house 39 rfl) (kb_of ke_X2_house 40 rfl)
theorem dX2_house_41 : decode cX2_house 41 = .ok (.ireturn, 1) := dqo_172 (kb_of ke_X2_house 41 rfl)
set_option maxRecDepth 100000 in
set_option maxHeartbeats 4000000 in
theorem C_house_1 {l : Launch} {D : va_G} {cy : Nat → ClassId} {X : (Nat → Prop) → State → Heap → Prop} {a f : Nat → Nat → Nat} {r : Nat → Nat → Int32} {kn : Int32} {Y : va_W}  (hX : EnvX X) (hC : CInv f) : Cd l D cy X yX2_house cX2_house 2 (some .int) (rmz 6 240) [.ref (a 0 0), .int (nI 1)] (WC cy a f r kn ++ Y) (some (.int (nI (smF (f 5) 4 4 0)))) (WC cy a f r kn ++ Y) := by
  have q3 := hC.sp
  refine Cm.of [some (.ref (a 0 0)), some (.int (nI 1))] pn_X2 rfl (Nat.le_of_ble_eq_true rfl) ?_
  intro p e s m args below meth c A C hE hr hnt hn
  refine r_iload_n C dX2_house_0 rfl ?_
  refine r_iconst (v := (nI 4)) C dX2_house_1 (by decide) ?_
  refine d_Sv (st := []) hX.stb C hE (C_needQuestion_ok (f := f) (r := r) (kn := kn) (k := 1) (n := 4) hX (by first | omega | (simp [up2, *]; done) | (simp [up2, *]; omega) | (simp only [up2_eq]; omega) | (split <;> omega)) (by first | omega | (simp [up2, *]; done) | (simp [up2, *]; omega) | (simp only [up2_eq]; omega) | (split <;> omega))) pk_X2_needQuestion qm_X2_201 rfl rfl (Nat.le_of_ble_eq_true rfl) dX2_house_2 ⟨Nat.le_of_ble_eq_true rfl, Nat.le_of_ble_eq_true rfl⟩ ⟨Nat.le_of_ble_eq_true rfl, Nat.le_of_ble_eq_true rfl⟩ ?_
  refine r_iload_n C dX2_house_5 rfl ?_
  refine r_tableIn (off := 31) (tgt := 37) C dX2_house_6 (by decide) (by decide) (by decide) (by decide) ?_
  refine r_aload_n C dX2_house_37 rfl ?_
  refine d_V (st := []) hX.stb C hE (C_windowsThere (f := f) (r := r) (kn := kn)  hX hC.h5) pk_X2_windowsThere qm_X2_198 0 6 rfl rfl wc_0 rfl rfl (Nat.le_of_ble_eq_true rfl) dX2_house_38 ⟨Nat.le_of_ble_eq_true rfl, Nat.le_of_ble_eq_true rfl⟩ ⟨Nat.le_of_ble_eq_true rfl, Nat.le_of_ble_eq_true rfl⟩ ?_
  exact r_iret C hr dX2_house_41 ⟨rfl, rfl⟩ (Nat.le_of_ble_eq_true rfl) (Nat.le_of_ble_eq_true rfl)
theorem pk_X2_cursorsThere : PkV RX2 yX2_cursorsThere cX2_cursorsThere 3 (some .int) 0 := ⟨⟨qi_X2_cursorsThere, qs_X2_cursorsThere, qz_X2, qc_X2_cursorsThere⟩, rfl, mh_X2.1, mh_X2.2, pd_10⟩
theorem dX2_house_42 : decode cX2_house 42 = .ok (.aload_n 0, 1) := dqo_42 (kb_of ke_X2_house 42 rfl)
theorem dX2_house_43 : decode cX2_house 43 = .ok (.invokevirtual 243, 3) := dqo_182 0 243 (kb_of ke_X2_house 43 rfl) (kb_of ke_X2_house 44 rfl) (kb_of ke_X2_house 45 rfl)
theorem dX2_house_46 : decode cX2_house 46 = .ok (.ireturn, 1) := dqo_172 (kb_of ke_X2_house 46 rfl)
set_option maxRecDepth 100000 in
set_option maxHeartbeats 4000000 in
theorem C_house_2 {l : Launch} {D : va_G} {cy : Nat → ClassId} {X : (Nat → Prop) → State → Heap → Prop} {a f : Nat → Nat → Nat} {r : Nat → Nat → Int32} {kn : Int32} {Y : va_W}  (hX : EnvX X) (hC : CInv f) : Cd l D cy X yX2_house cX2_house 2 (some .int) (rmz 6 240) [.ref (a 0 0), .int (nI 2)] (WC cy a f r kn ++ Y) (some (.int (nI (smF (f 9) 3 0 0)))) (WC cy a f r kn ++ Y) := by
  have q3 := hC.sp
  refine Cm.of [some (.ref (a 0 0)), some (.int (nI 2))] pn_X2 rfl (Nat.le_of_ble_eq_true rfl) ?_
  intro p e s m args below meth c A C hE hr hnt hn
  refine r_iload_n C dX2_house_0 rfl ?_
  refine r_iconst (v := (nI 4)) C dX2_house_1 (by decide) ?_
  refine d_Sv (st := []) hX.stb C hE (C_needQuestion_ok (f := f) (r := r) (kn := kn) (k := 2) (n := 4) hX (by first | omega | (simp [up2, *]; done) | (simp [up2, *]; omega) | (simp only [up2_eq]; omega) | (split <;> omega)) (by first | omega | (simp [up2, *]; done) | (simp [up2, *]; omega) | (simp only [up2_eq]; omega) | (split <;> omega))) pk_X2_needQuestion qm_X2_201 rfl rfl (Nat.le_of_ble_eq_true rfl) dX2_house_2 ⟨Nat.le_of_ble_eq_true rfl, Nat.le_of_ble_eq_true rfl⟩ ⟨Nat.le_of_ble_eq_true rfl, Nat.le_of_ble_eq_true rfl⟩ ?_
  refine r_iload_n C dX2_house_5 rfl ?_
  refine r_tableIn (off := 36) (tgt := 42) C dX2_house_6 (by decide) (by decide) (by decide) (by decide) ?_
  refine r_aload_n C dX2_house_42 rfl ?_
  refine d_V (st := []) hX.stb C hE (C_cursorsThere (f := f) (r := r) (kn := kn)  hX (fun k hk => (hC.cu hk).2.1)) pk_X2_cursorsThere qm_X2_243 0 6 rfl rfl wc_0 rfl rfl (Nat.le_of_ble_eq_true rfl) dX2_house_43 ⟨Nat.le_of_ble_eq_true rfl, Nat.le_of_ble_eq_true rfl⟩ ⟨Nat.le_of_ble_eq_true rfl, Nat.le_of_ble_eq_true rfl⟩ ?_
  exact r_iret C hr dX2_house_46 ⟨rfl, rfl⟩ (Nat.le_of_ble_eq_true rfl) (Nat.le_of_ble_eq_true rfl)
theorem dX2_house_47 : decode cX2_house 47 = .ok (.aload_n 0, 1) := dqo_42 (kb_of ke_X2_house 47 rfl)
theorem dX2_house_48 : decode cX2_house 48 = .ok (.getfield 246, 3) := dqo_180 0 246 (kb_of ke_X2_house 48 rfl) (kb_of ke_X2_house 49 rfl) (kb_of ke_X2_house 50 rfl)
theorem dX2_house_51 : decode cX2_house 51 = .ok (.ireturn, 1) := dqo_172 (kb_of ke_X2_house 51 rfl)
set_option maxRecDepth 100000 in
set_option maxHeartbeats 4000000 in
theorem C_house_3 {l : Launch} {D : va_G} {cy : Nat → ClassId} {X : (Nat → Prop) → State → Heap → Prop} {a f : Nat → Nat → Nat} {r : Nat → Nat → Int32} {kn : Int32} {Y : va_W}  (hX : EnvX X) (hC : CInv f) : Cd l D cy X yX2_house cX2_house 2 (some .int) (rmz 6 240) [.ref (a 0 0), .int (nI 3)] (WC cy a f r kn ++ Y) (some (.int kn)) (WC cy a f r kn ++ Y) := by
  have q3 := hC.sp
  refine Cm.of [some (.ref (a 0 0)), some (.int (nI 3))] pn_X2 rfl (Nat.le_of_ble_eq_true rfl) ?_
  intro p e s m args below meth c A C hE hr hnt hn
  refine r_iload_n C dX2_house_0 rfl ?_
  refine r_iconst (v := (nI 4)) C dX2_house_1 (by decide) ?_
  refine d_Sv (st := []) hX.stb C hE (C_needQuestion_ok (f := f) (r := r) (kn := kn) (k := 3) (n := 4) hX (by first | omega | (simp [up2, *]; done) | (simp [up2, *]; omega) | (simp only [up2_eq]; omega) | (split <;> omega)) (by first | omega | (simp [up2, *]; done) | (simp [up2, *]; omega) | (simp only [up2_eq]; omega) | (split <;> omega))) pk_X2_needQuestion qm_X2_201 rfl rfl (Nat.le_of_ble_eq_true rfl) dX2_house_2 ⟨Nat.le_of_ble_eq_true rfl, Nat.le_of_ble_eq_true rfl⟩ ⟨Nat.le_of_ble_eq_true rfl, Nat.le_of_ble_eq_true rfl⟩ ?_
  refine r_iload_n C dX2_house_5 rfl ?_
  refine r_tableOut (tgt := 47) C dX2_house_6 (by decide) (by decide) ?_
  refine r_aload_n C dX2_house_47 rfl ?_
  refine s_get C 5 (by decide) qf_X2_246 rfl rfl dX2_house_48 ?_
  exact r_iret C hr dX2_house_51 ⟨rfl, rfl⟩ (Nat.le_of_ble_eq_true rfl) (Nat.le_of_ble_eq_true rfl)
theorem dX2_knock_0 : decode cX2_knock 0 = .ok (.aload_n 0, 1) := dqo_42 (kb_of ke_X2_knock 0 rfl)
theorem dX2_knock_1 : decode cX2_knock 1 = .ok (.dup, 1) := dqo_89 (kb_of ke_X2_knock 1 rfl)
theorem dX2_knock_2 : decode cX2_knock 2 = .ok (.getfield 246, 3) := dqo_180 0 246 (kb_of ke_X2_knock 2 rfl) (kb_of ke_X2_knock 3 rfl) (kb_of ke_X2_knock 4 rfl)
theorem dX2_knock_5 : decode cX2_knock 5 = .ok (.iconst 1, 1) := dqo_4 (kb_of ke_X2_knock 5 rfl)
theorem dX2_knock_6 : decode cX2_knock 6 = .ok (.iadd, 1) := dqo_96 (kb_of ke_X2_knock 6 rfl)
theorem dX2_knock_7 : decode cX2_knock 7 = .ok (.putfield 246, 3) := dqo_181 0 246 (kb_of ke_X2_knock 7 rfl) (kb_of ke_X2_knock 8 rfl) (kb_of ke_X2_knock 9 rfl)
theorem dX2_knock_10 : decode cX2_knock 10 = .ok (.aload_n 0, 1) := dqo_42 (kb_of ke_X2_knock 10 rfl)
theorem dX2_knock_11 : decode cX2_knock 11 = .ok (.getfield 246, 3) := dqo_180 0 246 (kb_of ke_X2_knock 11 rfl) (kb_of ke_X2_knock 12 rfl) (kb_of ke_X2_knock 13 rfl)
theorem dX2_knock_14 : decode cX2_knock 14 = .ok (.ireturn, 1) := dqo_172 (kb_of ke_X2_knock 14 rfl)
set_option maxRecDepth 100000 in
set_option maxHeartbeats 4000000 in
theorem C_knock {l : Launch} {D : va_G} {cy : Nat → ClassId} {X : (Nat → Prop) → State → Heap → Prop} {a f : Nat → Nat → Nat} {r : Nat → Nat → Int32} {kn : Int32} {Y : va_W}  (hX : EnvX X) (hC : CInv f) : Cd l D cy X yX2_knock cX2_knock 1 (some .int) (rmz 6 240) [.ref (a 0 0)] (WC cy a f r kn ++ Y) (some (.int (kn + (nI 1)))) (WC cy a f r (kn + (nI 1)) ++ Y) := by
  have q3 := hC.sp
  refine Cm.of [some (.ref (a 0 0))] pn_X2 rfl (Nat.le_of_ble_eq_true rfl) ?_
  intro p e s m args below meth c A C hE hr hnt hn
  refine r_aload_n C dX2_knock_0 rfl ?_
  refine r_dup C dX2_knock_1 rfl ?_
  refine s_get C 5 (by decide) qf_X2_246 rfl rfl dX2_knock_2 ?_
  refine r_iconst (v := (nI 1)) C dX2_knock_5 (by decide) ?_
  refine r_iadd C dX2_knock_6 ?_
  refine s_putK C qf_X2_246 dX2_knock_7 ?_
  refine r_aload_n C dX2_knock_10 rfl ?_
  refine s_get C 5 (by decide) qf_X2_246 rfl rfl dX2_knock_11 ?_
  exact r_iret C hr dX2_knock_14 ⟨rfl, rfl⟩ (Nat.le_of_ble_eq_true rfl) (Nat.le_of_ble_eq_true rfl)
theorem dX2_mix_0 : decode cX2_mix 0 = .ok (.lload_n 0, 1) := dqo_30 (kb_of ke_X2_mix 0 rfl)
theorem dX2_mix_1 : decode cX2_mix 1 = .ok (.ldc2_w 321, 3) := dqo_20 1 65 (kb_of ke_X2_mix 1 rfl) (kb_of ke_X2_mix 2 rfl) (kb_of ke_X2_mix 3 rfl)
theorem dX2_mix_4 : decode cX2_mix 4 = .ok (.lmul, 1) := dqo_105 (kb_of ke_X2_mix 4 rfl)
theorem dX2_mix_5 : decode cX2_mix 5 = .ok (.lload_n 2, 1) := dqo_32 (kb_of ke_X2_mix 5 rfl)
theorem dX2_mix_6 : decode cX2_mix 6 = .ok (.ladd, 1) := dqo_97 (kb_of ke_X2_mix 6 rfl)
theorem dX2_mix_7 : decode cX2_mix 7 = .ok (.lreturn, 1) := dqo_173 (kb_of ke_X2_mix 7 rfl)
set_option maxRecDepth 100000 in
set_option maxHeartbeats 4000000 in
theorem C_mix {l : Launch} {D : va_G} {cy : Nat → ClassId} {X : (Nat → Prop) → State → Heap → Prop} {a f : Nat → Nat → Nat} {r : Nat → Nat → Int32} {kn : Int32} {Y : va_W} {u : Int64} {v : Int64} (hX : EnvX X)  : Cd l D cy X yX2_mix cX2_mix 4 (some .long) (rmz 0 0) [.long u, .long v] (WC cy a f r kn ++ Y) (some (.long (u * 31 + v))) (WC cy a f r kn ++ Y) := by
  refine Cm.of [some (.long u), none, some (.long v), none] pn_X2 rfl (Nat.le_of_ble_eq_true rfl) ?_
  intro p e s m args below meth c A C hE hr hnt hn
  refine r_lload_n C dX2_mix_0 rfl ?_
  refine r_ldc2 (v := 31) C ql_X2_321 dX2_mix_1 ?_
  refine r_lmul C dX2_mix_4 ?_
  refine r_lload_n C dX2_mix_5 rfl ?_
  refine r_ladd C dX2_mix_6 ?_
  exact r_lret C hr dX2_mix_7 ⟨rfl, rfl⟩ (Nat.le_of_ble_eq_true rfl) (Nat.le_of_ble_eq_true rfl)
/-- d items of g from k on mixed in -/
def mxF (g : Nat → Int32) : Nat → Nat → Int64 → Int64
  | 0, _, u => u
  | d + 1, k, u => mxF g d (k + 1) (u * 31 + (g k).toInt64)
theorem pk_X2_mix : PkS yX2_mix cX2_mix 4 (some .long) 2 := ⟨⟨qt_X2_mix, qz_X2, qc_X2_mix⟩, mh_X2.1, mh_X2.2, pd_16⟩
theorem dX2_mixItems_0 : decode cX2_mixItems 0 = .ok (.lload_n 0, 1) := dqo_30 (kb_of ke_X2_mixItems 0 rfl)
theorem dX2_mixItems_1 : decode cX2_mixItems 1 = .ok (.lstore_n 3, 1) := dqo_66 (kb_of ke_X2_mixItems 1 rfl)
theorem dX2_mixItems_2 : decode cX2_mixItems 2 = .ok (.iconst 0, 1) := dqo_3 (kb_of ke_X2_mixItems 2 rfl)
theorem dX2_mixItems_3 : decode cX2_mixItems 3 = .ok (.istore 5, 2) := dqo_54 5 (kb_of ke_X2_mixItems 3 rfl) (kb_of ke_X2_mixItems 4 rfl)
theorem dX2_mixItems_5 : decode cX2_mixItems 5 = .ok (.iload 5, 2) := dqo_21 5 (kb_of ke_X2_mixItems 5 rfl) (kb_of ke_X2_mixItems 6 rfl)
theorem dX2_mixItems_7 : decode cX2_mixItems 7 = .ok (.aload_n 2, 1) := dqo_44 (kb_of ke_X2_mixItems 7 rfl)
theorem dX2_mixItems_8 : decode cX2_mixItems 8 = .ok (.getfield 50, 3) := dqo_180 0 50 (kb_of ke_X2_mixItems 8 rfl) (kb_of ke_X2_mixItems 9 rfl) (kb_of ke_X2_mixItems 10 rfl)
theorem dX2_mixItems_11 : decode cX2_mixItems 11 = .ok (.if_icmp .ge 21, 3) := dqo_162 0 21 (by decide) (kb_of ke_X2_mixItems 11 rfl) (kb_of ke_X2_mixItems 12 rfl) (kb_of ke_X2_mixItems 13 rfl)
theorem dX2_mixItems_14 : decode cX2_mixItems 14 = .ok (.lload_n 3, 1) := dqo_33 (kb_of ke_X2_mixItems 14 rfl)
theorem dX2_mixItems_15 : decode cX2_mixItems 15 = .ok (.aload_n 2, 1) := dqo_44 (kb_of ke_X2_mixItems 15 rfl)
theorem dX2_mixItems_16 : decode cX2_mixItems 16 = .ok (.iload 5, 2) := dqo_21 5 (kb_of ke_X2_mixItems 16 rfl) (kb_of ke_X2_mixItems 17 rfl)
theorem dX2_mixItems_18 : decode cX2_mixItems 18 = .ok (.invokevirtual 65, 3) := dqo_182 0 65 (kb_of ke_X2_mixItems 18 rfl) (kb_of ke_X2_mixItems 19 rfl) (kb_of ke_X2_mixItems 20 rfl)
theorem dX2_mixItems_21 : decode cX2_mixItems 21 = .ok (.i2l, 1) := dqo_133 (kb_of ke_X2_mixItems 21 rfl)
theorem dX2_mixItems_22 : decode cX2_mixItems 22 = .ok (.invokestatic 257, 3) := dqo_184 1 1 (kb_of ke_X2_mixItems 22 rfl) (kb_of ke_X2_mixItems 23 rfl) (kb_of ke_X2_mixItems 24 rfl)
theorem dX2_mixItems_25 : decode cX2_mixItems 25 = .ok (.lstore_n 3, 1) := dqo_66 (kb_of ke_X2_mixItems 25 rfl)
theorem dX2_mixItems_26 : decode cX2_mixItems 26 = .ok (.iinc 5 1, 3) := dqo_132 5 1 (by decide) (kb_of ke_X2_mixItems 26 rfl) (kb_of ke_X2_mixItems 27 rfl) (kb_of ke_X2_mixItems 28 rfl)
theorem dX2_mixItems_29 : decode cX2_mixItems 29 = .ok (.goto (-24), 3) := dqo_167 255 232 (by decide) (kb_of ke_X2_mixItems 29 rfl) (kb_of ke_X2_mixItems 30 rfl) (kb_of ke_X2_mixItems 31 rfl)
theorem dX2_mixItems_32 : decode cX2_mixItems 32 = .ok (.lload_n 3, 1) := dqo_33 (kb_of ke_X2_mixItems 32 rfl)
theorem dX2_mixItems_33 : decode cX2_mixItems 33 = .ok (.lreturn, 1) := dqo_173 (kb_of ke_X2_mixItems 33 rfl)
set_option maxRecDepth 100000 in
set_option maxHeartbeats 4000000 in
theorem C_mixItems {l : Launch} {D : va_G} {cy : Nat → ClassId} {X : (Nat → Prop) → State → Heap → Prop} {a f : Nat → Nat → Nat} {r : Nat → Nat → Int32} {kn : Int32} {Y : va_W} {i : Nat} {u : Int64} (hX : EnvX X) (hi : i < 11) (h0 : f 0 i < 7) (h4 : f 3 i + f 4 i ≤ 12) : Cd l D cy X yX2_mixItems cX2_mixItems 6 (some .long) (rmz 1 30) [.long u, .ref (a 1 i)] (WC cy a f r kn ++ Y) (some (.long (mxF (fun q => r (f 0 i) (f 3 i + q)) (f 4 i) 0 u))) (WC cy a f r kn ++ Y) := by
  refine Cm.of [some (.long u), none, some (.ref (a 1 i)), none, none, none] pn_X2 rfl (Nat.le_of_ble_eq_true rfl) ?_
  intro p e s m args below meth c A C hE hr hnt hn
  refine r_lload_n C dX2_mixItems_0 rfl ?_
  refine r_lstore_n C dX2_mixItems_1 (by decide) rfl ?_
  refine r_iconst (v := (nI 0)) C dX2_mixItems_2 (by decide) ?_
  refine r_istore C dX2_mixItems_3 (by decide) rfl ?_
  have L5 : ∀ (d : Nat) (t : Nat) (z : Int64), (ht : t + d = f 4 i) → (hF : mxF (fun q => r (f 0 i) (f 3 i + q)) d t z = mxF (fun q => r (f 0 i) (f 3 i + q)) (f 4 i) 0 u) → vC p l e (rmz 1 30) s m args below meth c D A (vx_MQ below (vG (fun v1 w1 => v1 = (some (.long (mxF (fun q => r (f 0 i) (f 3 i + q)) (f 4 i) 0 u))) ∧ w1 = WC cy a f r kn ++ Y) D vwCl A) (vGX (fun _ => False) D vwCl (WC cy a f r kn ++ Y) A) args s (rmz 1 30).cells (rmz 1 30).slots A) 6 0 0 (WC cy a f r kn ++ Y) [some (.long u), none, some (.ref (a 1 i)), some (.long z), none, some (.int (nI t))] 5 [] := by
    intro d
    induction d with
    | zero =>
      intro t z ht hF
      refine r_iload C dX2_mixItems_5 rfl ?_
      refine r_aload_n C dX2_mixItems_7 rfl ?_
      refine p_getN (v := .int (nI (f 4 i))) hX C hE 4 (by first | omega | (simp [up2, *]; done) | (simp [up2, *]; omega) | (simp only [up2_eq]; omega) | (split <;> omega)) (by decide) qn_X2_50 rfl rfl dX2_mixItems_8 ?_
      refine r_icN_ge (a := t) (b := (f 4 i)) (tgt := 32) C (by first | omega | (simp [up2, *]; done) | (simp [up2, *]; omega) | (simp only [up2_eq]; omega) | (split <;> omega)) (by first | omega | (simp [up2, *]; done) | (simp [up2, *]; omega) | (simp only [up2_eq]; omega) | (split <;> omega)) dX2_mixItems_11 (by decide) (fun h11_1 => ?_) (fun h11_1 => ?_)
      · first
        | exfalso; first | omega | contradiction
        | skip
          refine r_lload_n C dX2_mixItems_32 rfl ?_
          exact r_lret C hr dX2_mixItems_33 ⟨by rw [← hF]; rfl, rfl⟩ (Nat.le_of_ble_eq_true rfl) (Nat.le_of_ble_eq_true rfl)
      · first
        | exfalso; first | omega | contradiction
        | skip
          refine r_lload_n C dX2_mixItems_14 rfl ?_
          refine r_aload_n C dX2_mixItems_15 rfl ?_
          refine r_iload C dX2_mixItems_16 rfl ?_
          refine d_V (st := [.long z]) hX.stb C hE (C_itemAt (f := f) (r := r) (kn := kn) (i := i) (k := t) hX (by first | omega | (simp [up2, *]; done) | (simp [up2, *]; omega) | (simp only [up2_eq]; omega) | (split <;> omega)) (by first | omega | (simp [up2, *]; done) | (simp [up2, *]; omega) | (simp only [up2_eq]; omega) | (split <;> omega)) (by first | omega | (simp [up2, *]; done) | (simp [up2, *]; omega) | (simp only [up2_eq]; omega) | (split <;> omega))) pk_X1_itemAt qm_X2_65 (3 + i) 5 rfl rfl (wc_p (by first | omega | (simp [up2, *]; done) | (simp [up2, *]; omega) | (simp only [up2_eq]; omega) | (split <;> omega))) rfl rfl (Nat.le_of_ble_eq_true rfl) dX2_mixItems_18 ⟨Nat.le_of_ble_eq_true rfl, Nat.le_of_ble_eq_true rfl⟩ ⟨Nat.le_of_ble_eq_true rfl, Nat.le_of_ble_eq_true rfl⟩ ?_
          refine r_i2l C dX2_mixItems_21 ?_
          refine d_S (st := []) hX.stb C hE (C_mix (f := f) (r := r) (kn := kn) (u := z) (v := (((r (f 0 i) (f 3 i + t))).toInt64)) hX ) pk_X2_mix qm_X2_257 rfl rfl (Nat.le_of_ble_eq_true rfl) dX2_mixItems_22 ⟨Nat.le_of_ble_eq_true rfl, Nat.le_of_ble_eq_true rfl⟩ ⟨Nat.le_of_ble_eq_true rfl, Nat.le_of_ble_eq_true rfl⟩ ?_
          refine r_lstore_n C dX2_mixItems_25 (by decide) rfl ?_
          refine r_iincN C dX2_mixItems_26 rfl (by decide) rfl ?_
          refine r_goto (tgt := 5) C dX2_mixItems_29 (by decide) ?_
          exact (Nat.not_lt_zero _ (by omega)).elim
    | succ d ih_L5 =>
      intro t z ht hF
      refine r_iload C dX2_mixItems_5 rfl ?_
      refine r_aload_n C dX2_mixItems_7 rfl ?_
      refine p_getN (v := .int (nI (f 4 i))) hX C hE 4 (by first | omega | (simp [up2, *]; done) | (simp [up2, *]; omega) | (simp only [up2_eq]; omega) | (split <;> omega)) (by decide) qn_X2_50 rfl rfl dX2_mixItems_8 ?_
      refine r_icN_ge (a := t) (b := (f 4 i)) (tgt := 32) C (by first | omega | (simp [up2, *]; done) | (simp [up2, *]; omega) | (simp only [up2_eq]; omega) | (split <;> omega)) (by first | omega | (simp [up2, *]; done) | (simp [up2, *]; omega) | (simp only [up2_eq]; omega) | (split <;> omega)) dX2_mixItems_11 (by decide) (fun h11_2 => ?_) (fun h11_2 => ?_)
      · first
        | exfalso; first | omega | contradiction
        | skip
          refine r_lload_n C dX2_mixItems_32 rfl ?_
          exact r_lret C hr dX2_mixItems_33 ⟨by rw [← hF]; rfl, rfl⟩ (Nat.le_of_ble_eq_true rfl) (Nat.le_of_ble_eq_true rfl)
      · first
        | exfalso; first | omega | contradiction
        | skip
          refine r_lload_n C dX2_mixItems_14 rfl ?_
          refine r_aload_n C dX2_mixItems_15 rfl ?_
          refine r_iload C dX2_mixItems_16 rfl ?_
          refine d_V (st := [.long z]) hX.stb C hE (C_itemAt (f := f) (r := r) (kn := kn) (i := i) (k := t) hX (by first | omega | (simp [up2, *]; done) | (simp [up2, *]; omega) | (simp only [up2_eq]; omega) | (split <;> omega)) (by first | omega | (simp [up2, *]; done) | (simp [up2, *]; omega) | (simp only [up2_eq]; omega) | (split <;> omega)) (by first | omega | (simp [up2, *]; done) | (simp [up2, *]; omega) | (simp only [up2_eq]; omega) | (split <;> omega))) pk_X1_itemAt qm_X2_65 (3 + i) 5 rfl rfl (wc_p (by first | omega | (simp [up2, *]; done) | (simp [up2, *]; omega) | (simp only [up2_eq]; omega) | (split <;> omega))) rfl rfl (Nat.le_of_ble_eq_true rfl) dX2_mixItems_18 ⟨Nat.le_of_ble_eq_true rfl, Nat.le_of_ble_eq_true rfl⟩ ⟨Nat.le_of_ble_eq_true rfl, Nat.le_of_ble_eq_true rfl⟩ ?_
          refine r_i2l C dX2_mixItems_21 ?_
          refine d_S (st := []) hX.stb C hE (C_mix (f := f) (r := r) (kn := kn) (u := z) (v := (((r (f 0 i) (f 3 i + t))).toInt64)) hX ) pk_X2_mix qm_X2_257 rfl rfl (Nat.le_of_ble_eq_true rfl) dX2_mixItems_22 ⟨Nat.le_of_ble_eq_true rfl, Nat.le_of_ble_eq_true rfl⟩ ⟨Nat.le_of_ble_eq_true rfl, Nat.le_of_ble_eq_true rfl⟩ ?_
          refine r_lstore_n C dX2_mixItems_25 (by decide) rfl ?_
          refine r_iincN C dX2_mixItems_26 rfl (by decide) rfl ?_
          refine r_goto (tgt := 5) C dX2_mixItems_29 (by decide) ?_
          exact ih_L5 (t + 1) _ (by omega) (by rw [← hF]; rfl)
  exact L5 (f 4 i) 0 u (by omega) rfl
