/-! CONTRACTS of the class: its calls on rows alone -/
theorem dJ9_max_7cf53_0 : decode cJ9_max_7cf53 0 = .ok (.iload_n 0, 1) := dqo_26 (kb_of ke_J9_max_7cf53 0 rfl)
theorem dJ9_max_7cf53_1 : decode cJ9_max_7cf53 1 = .ok (.iload_n 1, 1) := dqo_27 (kb_of ke_J9_max_7cf53 1 rfl)
theorem dJ9_max_7cf53_2 : decode cJ9_max_7cf53 2 = .ok (.if_icmp .lt 7, 3) := dqo_161 0 7 (by decide) (kb_of ke_J9_max_7cf53 2 rfl) (kb_of ke_J9_max_7cf53 3 rfl) (kb_of ke_J9_max_7cf53 4 rfl)
theorem dJ9_max_7cf53_5 : decode cJ9_max_7cf53 5 = .ok (.iload_n 0, 1) := dqo_26 (kb_of ke_J9_max_7cf53 5 rfl)
theorem dJ9_max_7cf53_6 : decode cJ9_max_7cf53 6 = .ok (.goto 4, 3) := dqo_167 0 4 (by decide) (kb_of ke_J9_max_7cf53 6 rfl) (kb_of ke_J9_max_7cf53 7 rfl) (kb_of ke_J9_max_7cf53 8 rfl)
theorem dJ9_max_7cf53_9 : decode cJ9_max_7cf53 9 = .ok (.iload_n 1, 1) := dqo_27 (kb_of ke_J9_max_7cf53 9 rfl)
theorem dJ9_max_7cf53_10 : decode cJ9_max_7cf53 10 = .ok (.ireturn, 1) := dqo_172 (kb_of ke_J9_max_7cf53 10 rfl)
theorem pk_J9_max_7cf53 : PkS yJ9_max_7cf53 cJ9_max_7cf53 2 (some .int) 2 := ⟨⟨qt_J9_max_7cf53, qz_J9, qc_J9_max_7cf53⟩, mh_J9.1, mh_J9.2, pd_0⟩
set_option maxRecDepth 100000 in
set_option maxHeartbeats 4000000 in
theorem C_mmax {l : Launch} {D : va_G} {cy : Nat → ClassId} {X : (Nat → Prop) → State → Heap → Prop} {w : va_W} {x : Int32} {y : Int32}  : Cd l D cy X yJ9_max_7cf53 cJ9_max_7cf53 2 (some .int) (rmz 0 0) [.int x, .int y] w (some (.int (if x < y then y else x))) w := by
  refine Cm.ofF [some (.int x), some (.int y)] (show plainFor yJ9_max_7cf53 = true from (Bool.or_eq_true _ _).mpr (Or.inr Jvm.Lib.Math.max.noRow0)) rfl (Nat.le_of_ble_eq_true rfl) ?_
  intro p e s m args below meth c A C hE hr hnt hn
  refine r_iload_n C dJ9_max_7cf53_0 rfl ?_
  refine r_iload_n C dJ9_max_7cf53_1 rfl ?_
  refine r_ic_lt (tgt := 9) C dJ9_max_7cf53_2 (by decide) (fun h2_1 => ?_) (fun h2_1 => ?_)
  · first
    | exfalso; first | omega | contradiction
    | skip
      refine r_iload_n C dJ9_max_7cf53_9 rfl ?_
      exact r_iret C hr dJ9_max_7cf53_10 ⟨by first | rw [if_pos (by assumption)] | rw [if_neg (by assumption)] | rw [if_neg (Int32.not_lt.mpr (by assumption))] | rw [if_pos (Int32.not_le.mp (by assumption))], rfl⟩ (Nat.le_of_ble_eq_true rfl) (Nat.le_of_ble_eq_true rfl)
  · first
    | exfalso; first | omega | contradiction
    | skip
      refine r_iload_n C dJ9_max_7cf53_5 rfl ?_
      refine r_goto (tgt := 10) C dJ9_max_7cf53_6 (by decide) ?_
      exact r_iret C hr dJ9_max_7cf53_10 ⟨by first | rw [if_pos (by assumption)] | rw [if_neg (by assumption)] | rw [if_neg (Int32.not_lt.mpr (by assumption))] | rw [if_pos (Int32.not_le.mp (by assumption))], rfl⟩ (Nat.le_of_ble_eq_true rfl) (Nat.le_of_ble_eq_true rfl)
theorem dJ9_min_7cf53_0 : decode cJ9_min_7cf53 0 = .ok (.iload_n 0, 1) := dqo_26 (kb_of ke_J9_min_7cf53 0 rfl)
theorem dJ9_min_7cf53_1 : decode cJ9_min_7cf53 1 = .ok (.iload_n 1, 1) := dqo_27 (kb_of ke_J9_min_7cf53 1 rfl)
theorem dJ9_min_7cf53_2 : decode cJ9_min_7cf53 2 = .ok (.if_icmp .gt 7, 3) := dqo_163 0 7 (by decide) (kb_of ke_J9_min_7cf53 2 rfl) (kb_of ke_J9_min_7cf53 3 rfl) (kb_of ke_J9_min_7cf53 4 rfl)
theorem dJ9_min_7cf53_5 : decode cJ9_min_7cf53 5 = .ok (.iload_n 0, 1) := dqo_26 (kb_of ke_J9_min_7cf53 5 rfl)
theorem dJ9_min_7cf53_6 : decode cJ9_min_7cf53 6 = .ok (.goto 4, 3) := dqo_167 0 4 (by decide) (kb_of ke_J9_min_7cf53 6 rfl) (kb_of ke_J9_min_7cf53 7 rfl) (kb_of ke_J9_min_7cf53 8 rfl)
theorem dJ9_min_7cf53_9 : decode cJ9_min_7cf53 9 = .ok (.iload_n 1, 1) := dqo_27 (kb_of ke_J9_min_7cf53 9 rfl)
theorem dJ9_min_7cf53_10 : decode cJ9_min_7cf53 10 = .ok (.ireturn, 1) := dqo_172 (kb_of ke_J9_min_7cf53 10 rfl)
theorem pk_J9_min_7cf53 : PkS yJ9_min_7cf53 cJ9_min_7cf53 2 (some .int) 2 := ⟨⟨qt_J9_min_7cf53, qz_J9, qc_J9_min_7cf53⟩, mh_J9.1, mh_J9.2, pd_0⟩
set_option maxRecDepth 100000 in
set_option maxHeartbeats 4000000 in
theorem C_mmin {l : Launch} {D : va_G} {cy : Nat → ClassId} {X : (Nat → Prop) → State → Heap → Prop} {w : va_W} {x : Int32} {y : Int32}  : Cd l D cy X yJ9_min_7cf53 cJ9_min_7cf53 2 (some .int) (rmz 0 0) [.int x, .int y] w (some (.int (if y < x then y else x))) w := by
  refine Cm.ofF [some (.int x), some (.int y)] (show plainFor yJ9_min_7cf53 = true from (Bool.or_eq_true _ _).mpr (Or.inr Jvm.Lib.Math.min.noRow0)) rfl (Nat.le_of_ble_eq_true rfl) ?_
  intro p e s m args below meth c A C hE hr hnt hn
  refine r_iload_n C dJ9_min_7cf53_0 rfl ?_
  refine r_iload_n C dJ9_min_7cf53_1 rfl ?_
  refine r_ic_gt (tgt := 9) C dJ9_min_7cf53_2 (by decide) (fun h2_1 => ?_) (fun h2_1 => ?_)
  · first
    | exfalso; first | omega | contradiction
    | skip
      refine r_iload_n C dJ9_min_7cf53_9 rfl ?_
      exact r_iret C hr dJ9_min_7cf53_10 ⟨by first | rw [if_pos (by assumption)] | rw [if_neg (by assumption)] | rw [if_neg (Int32.not_lt.mpr (by assumption))] | rw [if_pos (Int32.not_le.mp (by assumption))], rfl⟩ (Nat.le_of_ble_eq_true rfl) (Nat.le_of_ble_eq_true rfl)
  · first
    | exfalso; first | omega | contradiction
    | skip
      refine r_iload_n C dJ9_min_7cf53_5 rfl ?_
      refine r_goto (tgt := 10) C dJ9_min_7cf53_6 (by decide) ?_
      exact r_iret C hr dJ9_min_7cf53_10 ⟨by first | rw [if_pos (by assumption)] | rw [if_neg (by assumption)] | rw [if_neg (Int32.not_lt.mpr (by assumption))] | rw [if_pos (Int32.not_le.mp (by assumption))], rfl⟩ (Nat.le_of_ble_eq_true rfl) (Nat.le_of_ble_eq_true rfl)
theorem pk_X2_needRow : PkS yX2_needRow cX2_needRow 1 none 1 := ⟨⟨qt_X2_needRow, qz_X2, qc_X2_needRow⟩, mh_X2.1, mh_X2.2, pd_6⟩
theorem dX2_fill_0 : decode cX2_fill 0 = .ok (.iload_n 1, 1) := dqo_27 (kb_of ke_X2_fill 0 rfl)
theorem dX2_fill_1 : decode cX2_fill 1 = .ok (.invokestatic 126, 3) := dqo_184 0 126 (kb_of ke_X2_fill 1 rfl) (kb_of ke_X2_fill 2 rfl) (kb_of ke_X2_fill 3 rfl)
set_option maxRecDepth 100000 in
set_option maxHeartbeats 4000000 in
theorem C_fill_noR {l : Launch} {D : va_G} {cy : Nat → ClassId} {X : (Nat → Prop) → State → Heap → Prop} {a f : Nat → Nat → Nat} {r : Nat → Nat → Int32} {kn : Int32} {Y : va_W} {x : Int32} {y0 : Int32} (hX : EnvX X) (hl : l.stackTraces = false) (hC : CInv f) (hno : ¬ (0 ≤ x ∧ x < nI 4)) : Ce l D cy X yX2_fill cX2_fill 4 (some .int) (rmk 8 1 6 170) [.ref (a 0 0), .int x, .int y0] (WC cy a f r kn ++ Y) "java/lang/IndexOutOfBoundsException" := by
  have q3 := hC.sp
  refine Cm.of [some (.ref (a 0 0)), some (.int x), some (.int y0), none] pn_X2 rfl (Nat.le_of_ble_eq_true rfl) ?_
  intro p e s m args below meth c A C hE hr hnt hn
  refine r_iload_n C dX2_fill_0 rfl ?_
  refine c_S (st := []) hX.stb C hE (C_needRow_no (f := f) (r := r) (kn := kn) (x := (x)) hX hl hno) pk_X2_needRow qm_X2_126 rfl rfl (Nat.le_of_ble_eq_true rfl) dX2_fill_1 ⟨Nat.le_of_ble_eq_true rfl, Nat.le_of_ble_eq_true rfl⟩ ⟨Nat.le_of_ble_eq_true rfl, Nat.le_of_ble_eq_true rfl⟩ (fun _ _ h9 => h9.elim) (fun E9 h9 => ?_)
  subst h9
  exact r_out C hnt rfl rfl (Nat.le_of_ble_eq_true rfl) (Nat.le_of_ble_eq_true rfl)
theorem dX2_fill_4 : decode cX2_fill 4 = .ok (.iload_n 2, 1) := dqo_28 (kb_of ke_X2_fill 4 rfl)
theorem dX2_fill_5 : decode cX2_fill 5 = .ok (.invokestatic 43, 3) := dqo_184 0 43 (kb_of ke_X2_fill 5 rfl) (kb_of ke_X2_fill 6 rfl) (kb_of ke_X2_fill 7 rfl)
set_option maxRecDepth 100000 in
set_option maxHeartbeats 4000000 in
theorem C_fill_noI {l : Launch} {D : va_G} {cy : Nat → ClassId} {X : (Nat → Prop) → State → Heap → Prop} {a f : Nat → Nat → Nat} {r : Nat → Nat → Int32} {kn : Int32} {Y : va_W} {i : Nat} {y : Int32} (hX : EnvX X) (hl : l.stackTraces = false) (hC : CInv f) (hi4 : i < 4) (ho : ¬ okI y) : Ce l D cy X yX2_fill cX2_fill 4 (some .int) (rmk 8 1 6 170) [.ref (a 0 0), .int (nI i), .int y] (WC cy a f r kn ++ Y) "java/lang/IllegalArgumentException" := by
  have q3 := hC.sp
  have q1_i := hC.rw hi4
  have q2_i := hC.al (i := i) (by omega)
  have q6_i : f 4 (f 1 i) = f 4 i := by rw [q1_i.2.1]
  refine Cm.of [some (.ref (a 0 0)), some (.int (nI i)), some (.int y), none] pn_X2 rfl (Nat.le_of_ble_eq_true rfl) ?_
  intro p e s m args below meth c A C hE hr hnt hn
  refine r_iload_n C dX2_fill_0 rfl ?_
  refine d_Sv (st := []) hX.stb C hE (C_needRow_ok (f := f) (r := r) (kn := kn) (k := i) hX (by first | omega | (simp [up2, *]; done) | (simp [up2, *]; omega) | (simp only [up2_eq]; omega) | (split <;> omega))) pk_X2_needRow qm_X2_126 rfl rfl (Nat.le_of_ble_eq_true rfl) dX2_fill_1 ⟨Nat.le_of_ble_eq_true rfl, Nat.le_of_ble_eq_true rfl⟩ ⟨Nat.le_of_ble_eq_true rfl, Nat.le_of_ble_eq_true rfl⟩ ?_
  refine r_iload_n C dX2_fill_4 rfl ?_
  refine c_S (st := []) hX.stb C hE (C_needItem_no (f := f) (r := r) (kn := kn) (x := (y)) hX hl ho) pk_X2_needItem qm_X2_43 rfl rfl (Nat.le_of_ble_eq_true rfl) dX2_fill_5 ⟨Nat.le_of_ble_eq_true rfl, Nat.le_of_ble_eq_true rfl⟩ ⟨Nat.le_of_ble_eq_true rfl, Nat.le_of_ble_eq_true rfl⟩ (fun _ _ h9 => h9.elim) (fun E9 h9 => ?_)
  subst h9
  exact r_out C hnt rfl rfl (Nat.le_of_ble_eq_true rfl) (Nat.le_of_ble_eq_true rfl)
theorem dX2_fill_8 : decode cX2_fill 8 = .ok (.iconst 0, 1) := dqo_3 (kb_of ke_X2_fill 8 rfl)
theorem dX2_fill_9 : decode cX2_fill 9 = .ok (.istore_n 3, 1) := dqo_62 (kb_of ke_X2_fill 9 rfl)
theorem dX2_fill_10 : decode cX2_fill 10 = .ok (.iload_n 3, 1) := dqo_29 (kb_of ke_X2_fill 10 rfl)
theorem dX2_fill_11 : decode cX2_fill 11 = .ok (.aload_n 0, 1) := dqo_42 (kb_of ke_X2_fill 11 rfl)
theorem dX2_fill_12 : decode cX2_fill 12 = .ok (.getfield 11, 3) := dqo_180 0 11 (kb_of ke_X2_fill 12 rfl) (kb_of ke_X2_fill 13 rfl) (kb_of ke_X2_fill 14 rfl)
theorem dX2_fill_15 : decode cX2_fill 15 = .ok (.iload_n 1, 1) := dqo_27 (kb_of ke_X2_fill 15 rfl)
theorem dX2_fill_16 : decode cX2_fill 16 = .ok (.aaload, 1) := dqo_50 (kb_of ke_X2_fill 16 rfl)
theorem dX2_fill_17 : decode cX2_fill 17 = .ok (.getfield 50, 3) := dqo_180 0 50 (kb_of ke_X2_fill 17 rfl) (kb_of ke_X2_fill 18 rfl) (kb_of ke_X2_fill 19 rfl)
theorem dX2_fill_20 : decode cX2_fill 20 = .ok (.if_icmp .ge 20, 3) := dqo_162 0 20 (by decide) (kb_of ke_X2_fill 20 rfl) (kb_of ke_X2_fill 21 rfl) (kb_of ke_X2_fill 22 rfl)
theorem dX2_fill_23 : decode cX2_fill 23 = .ok (.aload_n 0, 1) := dqo_42 (kb_of ke_X2_fill 23 rfl)
theorem dX2_fill_24 : decode cX2_fill 24 = .ok (.getfield 11, 3) := dqo_180 0 11 (kb_of ke_X2_fill 24 rfl) (kb_of ke_X2_fill 25 rfl) (kb_of ke_X2_fill 26 rfl)
theorem dX2_fill_27 : decode cX2_fill 27 = .ok (.iload_n 1, 1) := dqo_27 (kb_of ke_X2_fill 27 rfl)
theorem dX2_fill_28 : decode cX2_fill 28 = .ok (.aaload, 1) := dqo_50 (kb_of ke_X2_fill 28 rfl)
theorem dX2_fill_29 : decode cX2_fill 29 = .ok (.iload_n 3, 1) := dqo_29 (kb_of ke_X2_fill 29 rfl)
theorem dX2_fill_30 : decode cX2_fill 30 = .ok (.iload_n 2, 1) := dqo_28 (kb_of ke_X2_fill 30 rfl)
theorem dX2_fill_31 : decode cX2_fill 31 = .ok (.invokevirtual 69, 3) := dqo_182 0 69 (kb_of ke_X2_fill 31 rfl) (kb_of ke_X2_fill 32 rfl) (kb_of ke_X2_fill 33 rfl)
theorem dX2_fill_34 : decode cX2_fill 34 = .ok (.iinc 3 1, 3) := dqo_132 3 1 (by decide) (kb_of ke_X2_fill 34 rfl) (kb_of ke_X2_fill 35 rfl) (kb_of ke_X2_fill 36 rfl)
theorem dX2_fill_37 : decode cX2_fill 37 = .ok (.goto (-27), 3) := dqo_167 255 229 (by decide) (kb_of ke_X2_fill 37 rfl) (kb_of ke_X2_fill 38 rfl) (kb_of ke_X2_fill 39 rfl)
theorem dX2_fill_40 : decode cX2_fill 40 = .ok (.aload_n 0, 1) := dqo_42 (kb_of ke_X2_fill 40 rfl)
theorem dX2_fill_41 : decode cX2_fill 41 = .ok (.getfield 11, 3) := dqo_180 0 11 (kb_of ke_X2_fill 41 rfl) (kb_of ke_X2_fill 42 rfl) (kb_of ke_X2_fill 43 rfl)
theorem dX2_fill_44 : decode cX2_fill 44 = .ok (.iload_n 1, 1) := dqo_27 (kb_of ke_X2_fill 44 rfl)
theorem dX2_fill_45 : decode cX2_fill 45 = .ok (.aaload, 1) := dqo_50 (kb_of ke_X2_fill 45 rfl)
theorem dX2_fill_46 : decode cX2_fill 46 = .ok (.getfield 50, 3) := dqo_180 0 50 (kb_of ke_X2_fill 46 rfl) (kb_of ke_X2_fill 47 rfl) (kb_of ke_X2_fill 48 rfl)
theorem dX2_fill_49 : decode cX2_fill 49 = .ok (.ireturn, 1) := dqo_172 (kb_of ke_X2_fill 49 rfl)
set_option maxRecDepth 100000 in
set_option maxHeartbeats 4000000 in
theorem C_fill_ok {l : Launch} {D : va_G} {cy : Nat → ClassId} {X : (Nat → Prop) → State → Heap → Prop} {a f : Nat → Nat → Nat} {r : Nat → Nat → Int32} {kn : Int32} {Y : va_W} {i : Nat} {y : Int32} (hX : EnvX X) (hC : CInv f) (hi4 : i < 4) (ho : okI y) : Cd l D cy X yX2_fill cX2_fill 4 (some .int) (rmz 6 240) [.ref (a 0 0), .int (nI i), .int y] (WC cy a f r kn ++ Y) (some (.int (nI (f 4 i)))) (WC cy a f (flR r (f 0 i) (f 3 i) (f 4 i) y) kn ++ Y) := by
  have q3 := hC.sp
  have q1_i := hC.rw hi4
  have q2_i := hC.al (i := i) (by omega)
  have q6_i : f 4 (f 1 i) = f 4 i := by rw [q1_i.2.1]
  refine Cm.of [some (.ref (a 0 0)), some (.int (nI i)), some (.int y), none] pn_X2 rfl (Nat.le_of_ble_eq_true rfl) ?_
  intro p e s m args below meth c A C hE hr hnt hn
  refine r_iload_n C dX2_fill_0 rfl ?_
  refine d_Sv (st := []) hX.stb C hE (C_needRow_ok (f := f) (r := r) (kn := kn) (k := i) hX (by first | omega | (simp [up2, *]; done) | (simp [up2, *]; omega) | (simp only [up2_eq]; omega) | (split <;> omega))) pk_X2_needRow qm_X2_126 rfl rfl (Nat.le_of_ble_eq_true rfl) dX2_fill_1 ⟨Nat.le_of_ble_eq_true rfl, Nat.le_of_ble_eq_true rfl⟩ ⟨Nat.le_of_ble_eq_true rfl, Nat.le_of_ble_eq_true rfl⟩ ?_
  refine r_iload_n C dX2_fill_4 rfl ?_
  refine d_Sv (st := []) hX.stb C hE (C_needItem_ok (f := f) (r := r) (kn := kn) (x := (y)) hX ho) pk_X2_needItem qm_X2_43 rfl rfl (Nat.le_of_ble_eq_true rfl) dX2_fill_5 ⟨Nat.le_of_ble_eq_true rfl, Nat.le_of_ble_eq_true rfl⟩ ⟨Nat.le_of_ble_eq_true rfl, Nat.le_of_ble_eq_true rfl⟩ ?_
  refine r_iconst (v := (nI 0)) C dX2_fill_8 (by decide) ?_
  refine r_istore_n C dX2_fill_9 (by decide) rfl ?_
  refine r_w (congrArg (fun z => WC cy a f z kn ++ Y) (flR_0 r (f 0 i) (f 3 i) y).symm) ?_
  have L10 : ∀ (d : Nat) (k : Nat), (hk : k + d = f 4 i) → vC p l e (rmz 6 240) s m args below meth c D A (vx_MQ below (vG (fun v1 w1 => v1 = (some (.int (nI (f 4 i)))) ∧ w1 = WC cy a f (flR r (f 0 i) (f 3 i) (f 4 i) y) kn ++ Y) D vwCl A) (vGX (fun _ => False) D vwCl (WC cy a f r kn ++ Y) A) args s (rmz 6 240).cells (rmz 6 240).slots A) 4 0 0 (WC cy a f (flR r (f 0 i) (f 3 i) k y) kn ++ Y) [some (.ref (a 0 0)), some (.int (nI i)), some (.int y), some (.int (nI k))] 10 [] := by
    intro d
    induction d with
    | zero =>
      intro k hk
      refine r_iload_n C dX2_fill_10 rfl ?_
      refine r_aload_n C dX2_fill_11 rfl ?_
      refine s_get C 0 (by decide) qf_X2_11 rfl rfl dX2_fill_12 ?_
      refine r_iload_n C dX2_fill_15 rfl ?_
      refine s_parts C (by first | omega | (simp [up2, *]; done) | (simp [up2, *]; omega) | (simp only [up2_eq]; omega) | (split <;> omega)) dX2_fill_16 ?_
      refine p_getN (v := .int (nI (f 4 i))) hX C hE 4 (by first | omega | (simp [up2, *]; done) | (simp [up2, *]; omega) | (simp only [up2_eq]; omega) | (split <;> omega)) (by decide) qn_X2_50 rfl rfl dX2_fill_17 ?_
      refine r_icN_ge (a := k) (b := (f 4 i)) (tgt := 40) C (by first | omega | (simp [up2, *]; done) | (simp [up2, *]; omega) | (simp only [up2_eq]; omega) | (split <;> omega)) (by first | omega | (simp [up2, *]; done) | (simp [up2, *]; omega) | (simp only [up2_eq]; omega) | (split <;> omega)) dX2_fill_20 (by decide) (fun h20_1 => ?_) (fun h20_1 => ?_)
      · first
        | exfalso; first | omega | contradiction
        | skip
          refine r_aload_n C dX2_fill_40 rfl ?_
          refine s_get C 0 (by decide) qf_X2_11 rfl rfl dX2_fill_41 ?_
          refine r_iload_n C dX2_fill_44 rfl ?_
          refine s_parts C (by first | omega | (simp [up2, *]; done) | (simp [up2, *]; omega) | (simp only [up2_eq]; omega) | (split <;> omega)) dX2_fill_45 ?_
          refine p_getN (v := .int (nI (f 4 i))) hX C hE 4 (by first | omega | (simp [up2, *]; done) | (simp [up2, *]; omega) | (simp only [up2_eq]; omega) | (split <;> omega)) (by decide) qn_X2_50 rfl rfl dX2_fill_46 ?_
          have e8 : k = f 4 i := by omega
          subst e8
          exact r_iret C hr dX2_fill_49 ⟨rfl, rfl⟩ (Nat.le_of_ble_eq_true rfl) (Nat.le_of_ble_eq_true rfl)
      · first
        | exfalso; first | omega | contradiction
        | skip
          refine r_aload_n C dX2_fill_23 rfl ?_
          refine s_get C 0 (by decide) qf_X2_11 rfl rfl dX2_fill_24 ?_
          refine r_iload_n C dX2_fill_27 rfl ?_
          refine s_parts C (by first | omega | (simp [up2, *]; done) | (simp [up2, *]; omega) | (simp only [up2_eq]; omega) | (split <;> omega)) dX2_fill_28 ?_
          refine r_iload_n C dX2_fill_29 rfl ?_
          refine r_iload_n C dX2_fill_30 rfl ?_
          refine d_Vv (st := []) hX.stb C hE (C_putAt (f := f) (r := (flR r (f 0 i) (f 3 i) k y)) (kn := kn) (i := i) (k := k) (x := (y)) hX (by first | omega | (simp [up2, *]; done) | (simp [up2, *]; omega) | (simp only [up2_eq]; omega) | (split <;> omega)) (by first | omega | (simp [up2, *]; done) | (simp [up2, *]; omega) | (simp only [up2_eq]; omega) | (split <;> omega)) (by first | omega | (simp [up2, *]; done) | (simp [up2, *]; omega) | (simp only [up2_eq]; omega) | (split <;> omega))) pk_X1_putAt qm_X2_69 (3 + i) 5 rfl rfl (wc_p (by first | omega | (simp [up2, *]; done) | (simp [up2, *]; omega) | (simp only [up2_eq]; omega) | (split <;> omega))) rfl rfl (Nat.le_of_ble_eq_true rfl) dX2_fill_31 ⟨Nat.le_of_ble_eq_true rfl, Nat.le_of_ble_eq_true rfl⟩ ⟨Nat.le_of_ble_eq_true rfl, Nat.le_of_ble_eq_true rfl⟩ ?_
          refine r_iincN C dX2_fill_34 rfl (by decide) rfl ?_
          refine r_goto (tgt := 10) C dX2_fill_37 (by decide) ?_
          refine r_w (congrArg (fun z => WC cy a f z kn ++ Y) flR_step) ?_
          exact (Nat.not_lt_zero _ (by omega)).elim
    | succ d ih_L10 =>
      intro k hk
      refine r_iload_n C dX2_fill_10 rfl ?_
      refine r_aload_n C dX2_fill_11 rfl ?_
      refine s_get C 0 (by decide) qf_X2_11 rfl rfl dX2_fill_12 ?_
      refine r_iload_n C dX2_fill_15 rfl ?_
      refine s_parts C (by first | omega | (simp [up2, *]; done) | (simp [up2, *]; omega) | (simp only [up2_eq]; omega) | (split <;> omega)) dX2_fill_16 ?_
      refine p_getN (v := .int (nI (f 4 i))) hX C hE 4 (by first | omega | (simp [up2, *]; done) | (simp [up2, *]; omega) | (simp only [up2_eq]; omega) | (split <;> omega)) (by decide) qn_X2_50 rfl rfl dX2_fill_17 ?_
      refine r_icN_ge (a := k) (b := (f 4 i)) (tgt := 40) C (by first | omega | (simp [up2, *]; done) | (simp [up2, *]; omega) | (simp only [up2_eq]; omega) | (split <;> omega)) (by first | omega | (simp [up2, *]; done) | (simp [up2, *]; omega) | (simp only [up2_eq]; omega) | (split <;> omega)) dX2_fill_20 (by decide) (fun h20_2 => ?_) (fun h20_2 => ?_)
      · first
        | exfalso; first | omega | contradiction
        | skip
          refine r_aload_n C dX2_fill_40 rfl ?_
          refine s_get C 0 (by decide) qf_X2_11 rfl rfl dX2_fill_41 ?_
          refine r_iload_n C dX2_fill_44 rfl ?_
          refine s_parts C (by first | omega | (simp [up2, *]; done) | (simp [up2, *]; omega) | (simp only [up2_eq]; omega) | (split <;> omega)) dX2_fill_45 ?_
          refine p_getN (v := .int (nI (f 4 i))) hX C hE 4 (by first | omega | (simp [up2, *]; done) | (simp [up2, *]; omega) | (simp only [up2_eq]; omega) | (split <;> omega)) (by decide) qn_X2_50 rfl rfl dX2_fill_46 ?_
          have e8 : k = f 4 i := by omega
          subst e8
          exact r_iret C hr dX2_fill_49 ⟨rfl, rfl⟩ (Nat.le_of_ble_eq_true rfl) (Nat.le_of_ble_eq_true rfl)
      · first
        | exfalso; first | omega | contradiction
        | skip
          refine r_aload_n C dX2_fill_23 rfl ?_
          refine s_get C 0 (by decide) qf_X2_11 rfl rfl dX2_fill_24 ?_
          refine r_iload_n C dX2_fill_27 rfl ?_
          refine s_parts C (by first | omega | (simp [up2, *]; done) | (simp [up2, *]; omega) | (simp only [up2_eq]; omega) | (split <;> omega)) dX2_fill_28 ?_
          refine r_iload_n C dX2_fill_29 rfl ?_
          refine r_iload_n C dX2_fill_30 rfl ?_
          refine d_Vv (st := []) hX.stb C hE (C_putAt (f := f) (r := (flR r (f 0 i) (f 3 i) k y)) (kn := kn) (i := i) (k := k) (x := (y)) hX (by first | omega | (simp [up2, *]; done) | (simp [up2, *]; omega) | (simp only [up2_eq]; omega) | (split <;> omega)) (by first | omega | (simp [up2, *]; done) | (simp [up2, *]; omega) | (simp only [up2_eq]; omega) | (split <;> omega)) (by first | omega | (simp [up2, *]; done) | (simp [up2, *]; omega) | (simp only [up2_eq]; omega) | (split <;> omega))) pk_X1_putAt qm_X2_69 (3 + i) 5 rfl rfl (wc_p (by first | omega | (simp [up2, *]; done) | (simp [up2, *]; omega) | (simp only [up2_eq]; omega) | (split <;> omega))) rfl rfl (Nat.le_of_ble_eq_true rfl) dX2_fill_31 ⟨Nat.le_of_ble_eq_true rfl, Nat.le_of_ble_eq_true rfl⟩ ⟨Nat.le_of_ble_eq_true rfl, Nat.le_of_ble_eq_true rfl⟩ ?_
          refine r_iincN C dX2_fill_34 rfl (by decide) rfl ?_
          refine r_goto (tgt := 10) C dX2_fill_37 (by decide) ?_
          refine r_w (congrArg (fun z => WC cy a f z kn ++ Y) flR_step) ?_
          exact ih_L10 (k + 1) (by omega)
  exact L10 (f 4 i) 0 (by omega)
theorem dX2_removeItem_0 : decode cX2_removeItem 0 = .ok (.iload_n 1, 1) := dqo_27 (kb_of ke_X2_removeItem 0 rfl)
theorem dX2_removeItem_1 : decode cX2_removeItem 1 = .ok (.invokestatic 126, 3) := dqo_184 0 126 (kb_of ke_X2_removeItem 1 rfl) (kb_of ke_X2_removeItem 2 rfl) (kb_of ke_X2_removeItem 3 rfl)
set_option maxRecDepth 100000 in
set_option maxHeartbeats 4000000 in
theorem C_removeItem_noR {l : Launch} {D : va_G} {cy : Nat → ClassId} {X : (Nat → Prop) → State → Heap → Prop} {a f : Nat → Nat → Nat} {r : Nat → Nat → Int32} {kn : Int32} {Y : va_W} {x : Int32} {y0 : Int32} (hX : EnvX X) (hl : l.stackTraces = false) (hC : CInv f) (hno : ¬ (0 ≤ x ∧ x < nI 4)) : Ce l D cy X yX2_removeItem cX2_removeItem 4 (some .int) (rmk 8 1 6 170) [.ref (a 0 0), .int x, .int y0] (WC cy a f r kn ++ Y) "java/lang/IndexOutOfBoundsException" := by
  have q3 := hC.sp
  refine Cm.of [some (.ref (a 0 0)), some (.int x), some (.int y0), none] pn_X2 rfl (Nat.le_of_ble_eq_true rfl) ?_
  intro p e s m args below meth c A C hE hr hnt hn
  refine r_iload_n C dX2_removeItem_0 rfl ?_
  refine c_S (st := []) hX.stb C hE (C_needRow_no (f := f) (r := r) (kn := kn) (x := (x)) hX hl hno) pk_X2_needRow qm_X2_126 rfl rfl (Nat.le_of_ble_eq_true rfl) dX2_removeItem_1 ⟨Nat.le_of_ble_eq_true rfl, Nat.le_of_ble_eq_true rfl⟩ ⟨Nat.le_of_ble_eq_true rfl, Nat.le_of_ble_eq_true rfl⟩ (fun _ _ h9 => h9.elim) (fun E9 h9 => ?_)
  subst h9
  exact r_out C hnt rfl rfl (Nat.le_of_ble_eq_true rfl) (Nat.le_of_ble_eq_true rfl)
theorem dX2_removeItem_4 : decode cX2_removeItem 4 = .ok (.aload_n 0, 1) := dqo_42 (kb_of ke_X2_removeItem 4 rfl)
theorem dX2_removeItem_5 : decode cX2_removeItem 5 = .ok (.getfield 11, 3) := dqo_180 0 11 (kb_of ke_X2_removeItem 5 rfl) (kb_of ke_X2_removeItem 6 rfl) (kb_of ke_X2_removeItem 7 rfl)
theorem dX2_removeItem_8 : decode cX2_removeItem 8 = .ok (.iload_n 1, 1) := dqo_27 (kb_of ke_X2_removeItem 8 rfl)
theorem dX2_removeItem_9 : decode cX2_removeItem 9 = .ok (.aaload, 1) := dqo_50 (kb_of ke_X2_removeItem 9 rfl)
theorem dX2_removeItem_10 : decode cX2_removeItem 10 = .ok (.iload_n 2, 1) := dqo_28 (kb_of ke_X2_removeItem 10 rfl)
theorem dX2_removeItem_11 : decode cX2_removeItem 11 = .ok (.invokevirtual 129, 3) := dqo_182 0 129 (kb_of ke_X2_removeItem 11 rfl) (kb_of ke_X2_removeItem 12 rfl) (kb_of ke_X2_removeItem 13 rfl)
theorem dX2_removeItem_14 : decode cX2_removeItem 14 = .ok (.istore_n 3, 1) := dqo_62 (kb_of ke_X2_removeItem 14 rfl)
theorem dX2_removeItem_15 : decode cX2_removeItem 15 = .ok (.iload_n 3, 1) := dqo_29 (kb_of ke_X2_removeItem 15 rfl)
theorem dX2_removeItem_16 : decode cX2_removeItem 16 = .ok (.iconst (-1), 1) := dqo_2 (kb_of ke_X2_removeItem 16 rfl)
theorem dX2_removeItem_17 : decode cX2_removeItem 17 = .ok (.if_icmp .ne 5, 3) := dqo_160 0 5 (by decide) (kb_of ke_X2_removeItem 17 rfl) (kb_of ke_X2_removeItem 18 rfl) (kb_of ke_X2_removeItem 19 rfl)
theorem dX2_removeItem_20 : decode cX2_removeItem 20 = .ok (.iconst 0, 1) := dqo_3 (kb_of ke_X2_removeItem 20 rfl)
theorem dX2_removeItem_21 : decode cX2_removeItem 21 = .ok (.ireturn, 1) := dqo_172 (kb_of ke_X2_removeItem 21 rfl)
set_option maxRecDepth 100000 in
set_option maxHeartbeats 4000000 in
theorem C_removeItem_0 {l : Launch} {D : va_G} {cy : Nat → ClassId} {X : (Nat → Prop) → State → Heap → Prop} {a f : Nat → Nat → Nat} {r : Nat → Nat → Int32} {kn : Int32} {Y : va_W} {i : Nat} {y : Int32} (hX : EnvX X) (hC : CInv f) (hi4 : i < 4) (hz : fpF (fun q => r (f 0 i) (f 3 i + q)) y (f 4 i) 0 = 4294967295) : Cd l D cy X yX2_removeItem cX2_removeItem 4 (some .int) (rmz 6 240) [.ref (a 0 0), .int (nI i), .int y] (WC cy a f r kn ++ Y) (some (.int (nI 0))) (WC cy a f r kn ++ Y) := by
  have q3 := hC.sp
  have q1_i := hC.rw hi4
  have q2_i := hC.al (i := i) (by omega)
  have q6_i : f 4 (f 1 i) = f 4 i := by rw [q1_i.2.1]
  refine Cm.of [some (.ref (a 0 0)), some (.int (nI i)), some (.int y), none] pn_X2 rfl (Nat.le_of_ble_eq_true rfl) ?_
  intro p e s m args below meth c A C hE hr hnt hn
  refine r_iload_n C dX2_removeItem_0 rfl ?_
  refine d_Sv (st := []) hX.stb C hE (C_needRow_ok (f := f) (r := r) (kn := kn) (k := i) hX (by first | omega | (simp [up2, *]; done) | (simp [up2, *]; omega) | (simp only [up2_eq]; omega) | (split <;> omega))) pk_X2_needRow qm_X2_126 rfl rfl (Nat.le_of_ble_eq_true rfl) dX2_removeItem_1 ⟨Nat.le_of_ble_eq_true rfl, Nat.le_of_ble_eq_true rfl⟩ ⟨Nat.le_of_ble_eq_true rfl, Nat.le_of_ble_eq_true rfl⟩ ?_
  refine r_aload_n C dX2_removeItem_4 rfl ?_
  refine s_get C 0 (by decide) qf_X2_11 rfl rfl dX2_removeItem_5 ?_
  refine r_iload_n C dX2_removeItem_8 rfl ?_
  refine s_parts C (by first | omega | (simp [up2, *]; done) | (simp [up2, *]; omega) | (simp only [up2_eq]; omega) | (split <;> omega)) dX2_removeItem_9 ?_
  refine r_iload_n C dX2_removeItem_10 rfl ?_
  refine d_V (st := []) hX.stb C hE (C_firstPlaceOf (f := f) (r := r) (kn := kn) (i := i) (x := (y)) hX (by first | omega | (simp [up2, *]; done) | (simp [up2, *]; omega) | (simp only [up2_eq]; omega) | (split <;> omega)) (by first | omega | (simp [up2, *]; done) | (simp [up2, *]; omega) | (simp only [up2_eq]; omega) | (split <;> omega)) (by first | omega | (simp [up2, *]; done) | (simp [up2, *]; omega) | (simp only [up2_eq]; omega) | (split <;> omega))) pk_X1_firstPlaceOf qm_X2_129 (3 + i) 5 rfl rfl (wc_p (by first | omega | (simp [up2, *]; done) | (simp [up2, *]; omega) | (simp only [up2_eq]; omega) | (split <;> omega))) rfl rfl (Nat.le_of_ble_eq_true rfl) dX2_removeItem_11 ⟨Nat.le_of_ble_eq_true rfl, Nat.le_of_ble_eq_true rfl⟩ ⟨Nat.le_of_ble_eq_true rfl, Nat.le_of_ble_eq_true rfl⟩ ?_
  refine r_istore_n C dX2_removeItem_14 (by decide) rfl ?_
  refine r_iload_n C dX2_removeItem_15 rfl ?_
  refine r_iconst (v := (nI 4294967295)) C dX2_removeItem_16 (by decide) ?_
  refine r_icN_ne (a := (fpF (fun q => r (f 0 i) (f 3 i + q)) (y) (f 4 i) 0)) (b := 4294967295) (tgt := 22) C (by omega) (by first | omega | (simp [up2, *]; done) | (simp [up2, *]; omega) | (simp only [up2_eq]; omega) | (split <;> omega)) dX2_removeItem_17 (by decide) (fun h17_1 => ?_) (fun h17_1 => ?_)
  · exact absurd h17_1 (by first | omega | (simp [up2, *]; done) | (simp [up2, *]; omega) | (simp only [up2_eq]; omega) | (split <;> omega))
  · skip
    refine r_iconst (v := (nI 0)) C dX2_removeItem_20 (by decide) ?_
    exact r_iret C hr dX2_removeItem_21 ⟨rfl, rfl⟩ (Nat.le_of_ble_eq_true rfl) (Nat.le_of_ble_eq_true rfl)
theorem dX2_removeItem_22 : decode cX2_removeItem 22 = .ok (.aload_n 0, 1) := dqo_42 (kb_of ke_X2_removeItem 22 rfl)
theorem dX2_removeItem_23 : decode cX2_removeItem 23 = .ok (.iload_n 1, 1) := dqo_27 (kb_of ke_X2_removeItem 23 rfl)
theorem dX2_removeItem_24 : decode cX2_removeItem 24 = .ok (.iload_n 3, 1) := dqo_29 (kb_of ke_X2_removeItem 24 rfl)
theorem dX2_removeItem_25 : decode cX2_removeItem 25 = .ok (.iload_n 3, 1) := dqo_29 (kb_of ke_X2_removeItem 25 rfl)
theorem dX2_removeItem_26 : decode cX2_removeItem 26 = .ok (.iconst 1, 1) := dqo_4 (kb_of ke_X2_removeItem 26 rfl)
theorem dX2_removeItem_27 : decode cX2_removeItem 27 = .ok (.iadd, 1) := dqo_96 (kb_of ke_X2_removeItem 27 rfl)
theorem dX2_removeItem_28 : decode cX2_removeItem 28 = .ok (.iconst (-1), 1) := dqo_2 (kb_of ke_X2_removeItem 28 rfl)
theorem dX2_removeItem_29 : decode cX2_removeItem 29 = .ok (.invokevirtual 72, 3) := dqo_182 0 72 (kb_of ke_X2_removeItem 29 rfl) (kb_of ke_X2_removeItem 30 rfl) (kb_of ke_X2_removeItem 31 rfl)
theorem dX2_removeItem_32 : decode cX2_removeItem 32 = .ok (.iconst 1, 1) := dqo_4 (kb_of ke_X2_removeItem 32 rfl)
theorem dX2_removeItem_33 : decode cX2_removeItem 33 = .ok (.ireturn, 1) := dqo_172 (kb_of ke_X2_removeItem 33 rfl)
set_option maxRecDepth 100000 in
set_option maxHeartbeats 4000000 in
theorem C_removeItem_ok {l : Launch} {D : va_G} {cy : Nat → ClassId} {X : (Nat → Prop) → State → Heap → Prop} {a f : Nat → Nat → Nat} {r : Nat → Nat → Int32} {kn : Int32} {Y : va_W} {i : Nat} {y : Int32} (hX : EnvX X) (hC : CInv f) (hi4 : i < 4) (hz : fpF (fun q => r (f 0 i) (f 3 i + q)) y (f 4 i) 0 ≠ 4294967295) : Cd l D cy X yX2_removeItem cX2_removeItem 4 (some .int) (rmz 6 240) [.ref (a 0 0), .int (nI i), .int y] (WC cy a f r kn ++ Y) (some (.int (nI 1))) (WC cy a (settleF (exL (up2 f 4 8 0) i 0 (((fpF (fun q => r (f 0 i) (f 3 i + q)) (y) (f 4 i) 0) + 1) - (fpF (fun q => r (f 0 i) (f 3 i + q)) (y) (f 4 i) 0)) 8) i 4294967295) (exR (up2 f 4 8 0) r i (fpF (fun q => r (f 0 i) (f 3 i + q)) (y) (f 4 i) 0) ((fpF (fun q => r (f 0 i) (f 3 i + q)) (y) (f 4 i) 0) + 1) 0) kn ++ Y) := by
  have q3 := hC.sp
  have q1_i := hC.rw hi4
  have q2_i := hC.al (i := i) (by omega)
  have q6_i : f 4 (f 1 i) = f 4 i := by rw [q1_i.2.1]
  have q5 := fpF_or (fun q => r (f 0 i) (f 3 i + q)) y (f 4 i) 0
  refine Cm.of [some (.ref (a 0 0)), some (.int (nI i)), some (.int y), none] pn_X2 rfl (Nat.le_of_ble_eq_true rfl) ?_
  intro p e s m args below meth c A C hE hr hnt hn
  refine r_iload_n C dX2_removeItem_0 rfl ?_
  refine d_Sv (st := []) hX.stb C hE (C_needRow_ok (f := f) (r := r) (kn := kn) (k := i) hX (by first | omega | (simp [up2, *]; done) | (simp [up2, *]; omega) | (simp only [up2_eq]; omega) | (split <;> omega))) pk_X2_needRow qm_X2_126 rfl rfl (Nat.le_of_ble_eq_true rfl) dX2_removeItem_1 ⟨Nat.le_of_ble_eq_true rfl, Nat.le_of_ble_eq_true rfl⟩ ⟨Nat.le_of_ble_eq_true rfl, Nat.le_of_ble_eq_true rfl⟩ ?_
  refine r_aload_n C dX2_removeItem_4 rfl ?_
  refine s_get C 0 (by decide) qf_X2_11 rfl rfl dX2_removeItem_5 ?_
  refine r_iload_n C dX2_removeItem_8 rfl ?_
  refine s_parts C (by first | omega | (simp [up2, *]; done) | (simp [up2, *]; omega) | (simp only [up2_eq]; omega) | (split <;> omega)) dX2_removeItem_9 ?_
  refine r_iload_n C dX2_removeItem_10 rfl ?_
  refine d_V (st := []) hX.stb C hE (C_firstPlaceOf (f := f) (r := r) (kn := kn) (i := i) (x := (y)) hX (by first | omega | (simp [up2, *]; done) | (simp [up2, *]; omega) | (simp only [up2_eq]; omega) | (split <;> omega)) (by first | omega | (simp [up2, *]; done) | (simp [up2, *]; omega) | (simp only [up2_eq]; omega) | (split <;> omega)) (by first | omega | (simp [up2, *]; done) | (simp [up2, *]; omega) | (simp only [up2_eq]; omega) | (split <;> omega))) pk_X1_firstPlaceOf qm_X2_129 (3 + i) 5 rfl rfl (wc_p (by first | omega | (simp [up2, *]; done) | (simp [up2, *]; omega) | (simp only [up2_eq]; omega) | (split <;> omega))) rfl rfl (Nat.le_of_ble_eq_true rfl) dX2_removeItem_11 ⟨Nat.le_of_ble_eq_true rfl, Nat.le_of_ble_eq_true rfl⟩ ⟨Nat.le_of_ble_eq_true rfl, Nat.le_of_ble_eq_true rfl⟩ ?_
  refine r_istore_n C dX2_removeItem_14 (by decide) rfl ?_
  refine r_iload_n C dX2_removeItem_15 rfl ?_
  refine r_iconst (v := (nI 4294967295)) C dX2_removeItem_16 (by decide) ?_
  refine r_icN_ne (a := (fpF (fun q => r (f 0 i) (f 3 i + q)) (y) (f 4 i) 0)) (b := 4294967295) (tgt := 22) C (by omega) (by first | omega | (simp [up2, *]; done) | (simp [up2, *]; omega) | (simp only [up2_eq]; omega) | (split <;> omega)) dX2_removeItem_17 (by decide) (fun h17_1 => ?_) (fun h17_1 => ?_)
  · skip
    refine r_aload_n C dX2_removeItem_22 rfl ?_
    refine r_iload_n C dX2_removeItem_23 rfl ?_
    refine r_iload_n C dX2_removeItem_24 rfl ?_
    refine r_iload_n C dX2_removeItem_25 rfl ?_
    refine r_iconst (v := (nI 1)) C dX2_removeItem_26 (by decide) ?_
    refine r_iaddN C dX2_removeItem_27 ?_
    refine r_iconst (v := (nI 4294967295)) C dX2_removeItem_28 (by decide) ?_
    refine d_Vv (st := []) hX.stb C hE (C_takeOut (f := f) (r := r) (kn := kn) (w := i) (p0 := (fpF (fun q => r (f 0 i) (f 3 i + q)) (y) (f 4 i) 0)) (q0 := ((fpF (fun q => r (f 0 i) (f 3 i + q)) (y) (f 4 i) 0) + 1)) (d0 := 4294967295) hX (by first | omega | (simp [up2, *]; done) | (simp [up2, *]; omega) | (simp only [up2_eq]; omega) | (split <;> omega)) hC.h1 hC.hG hC.hI hC.hI8 (by first | omega | (simp [up2, *]; done) | (simp [up2, *]; omega) | (simp only [up2_eq]; omega) | (split <;> omega)) (by first | omega | (simp [up2, *]; done) | (simp [up2, *]; omega) | (simp only [up2_eq]; omega) | (split <;> omega)) (by first | omega | (simp [up2, *]; done) | (simp [up2, *]; omega) | (simp only [up2_eq]; omega) | (split <;> omega)) (by first | omega | (simp [up2, *]; done) | (simp [up2, *]; omega) | (simp only [up2_eq]; omega) | (split <;> omega)) (fun z hz h => by have h6 := hC.ho12 (show i < 8 by omega) (show f 5 i = 1 by omega) z hz h; omega) (by first | omega | (simp [up2, *]; done) | (simp [up2, *]; omega) | (simp only [up2_eq]; omega) | (split <;> omega)) hC.hU) pk_X2_takeOut qm_X2_72 0 6 rfl rfl wc_0 rfl rfl (Nat.le_of_ble_eq_true rfl) dX2_removeItem_29 ⟨Nat.le_of_ble_eq_true rfl, Nat.le_of_ble_eq_true rfl⟩ ⟨Nat.le_of_ble_eq_true rfl, Nat.le_of_ble_eq_true rfl⟩ ?_
    refine r_iconst (v := (nI 1)) C dX2_removeItem_32 (by decide) ?_
    exact r_iret C hr dX2_removeItem_33 ⟨rfl, rfl⟩ (Nat.le_of_ble_eq_true rfl) (Nat.le_of_ble_eq_true rfl)
  · exact absurd h17_1 (by first | omega | (simp [up2, *]; done) | (simp [up2, *]; omega) | (simp only [up2_eq]; omega) | (split <;> omega))
theorem dX2_addAll_0 : decode cX2_addAll 0 = .ok (.iload_n 1, 1) := dqo_27 (kb_X2_addAll_0 0 rfl)
theorem dX2_addAll_1 : decode cX2_addAll 1 = .ok (.invokestatic 126, 3) := dqo_184 0 126 (kb_X2_addAll_0 1 rfl) (kb_X2_addAll_0 2 rfl) (kb_X2_addAll_0 3 rfl)
set_option maxRecDepth 100000 in
set_option maxHeartbeats 4000000 in
theorem C_addAll_noR {l : Launch} {D : va_G} {cy : Nat → ClassId} {X : (Nat → Prop) → State → Heap → Prop} {a f : Nat → Nat → Nat} {r : Nat → Nat → Int32} {kn : Int32} {Y : va_W} {x : Int32} {y0 : Int32} {y1 : Int32} (hX : EnvX X) (hl : l.stackTraces = false) (hC : CInv f) (hno : ¬ (0 ≤ x ∧ x < nI 4)) : Ce l D cy X yX2_addAll cX2_addAll 5 (some .int) (rmk 8 1 6 170) [.ref (a 0 0), .int x, .int y0, .int y1] (WC cy a f r kn ++ Y) "java/lang/IndexOutOfBoundsException" := by
  have q3 := hC.sp
  refine Cm.of [some (.ref (a 0 0)), some (.int x), some (.int y0), some (.int y1), none] pn_X2 rfl (Nat.le_of_ble_eq_true rfl) ?_
  intro p e s m args below meth c A C hE hr hnt hn
  refine r_iload_n C dX2_addAll_0 rfl ?_
  refine c_S (st := []) hX.stb C hE (C_needRow_no (f := f) (r := r) (kn := kn) (x := (x)) hX hl hno) pk_X2_needRow qm_X2_126 rfl rfl (Nat.le_of_ble_eq_true rfl) dX2_addAll_1 ⟨Nat.le_of_ble_eq_true rfl, Nat.le_of_ble_eq_true rfl⟩ ⟨Nat.le_of_ble_eq_true rfl, Nat.le_of_ble_eq_true rfl⟩ (fun _ _ h9 => h9.elim) (fun E9 h9 => ?_)
  subst h9
  exact r_out C hnt rfl rfl (Nat.le_of_ble_eq_true rfl) (Nat.le_of_ble_eq_true rfl)
theorem dX2_addAll_4 : decode cX2_addAll 4 = .ok (.iload_n 3, 1) := dqo_29 (kb_X2_addAll_0 4 rfl)
theorem dX2_addAll_5 : decode cX2_addAll 5 = .ok (.invokestatic 126, 3) := dqo_184 0 126 (kb_X2_addAll_0 5 rfl) (kb_X2_addAll_0 6 rfl) (kb_X2_addAll_0 7 rfl)
set_option maxRecDepth 100000 in
set_option maxHeartbeats 4000000 in
theorem C_addAll_noR2 {l : Launch} {D : va_G} {cy : Nat → ClassId} {X : (Nat → Prop) → State → Heap → Prop} {a f : Nat → Nat → Nat} {r : Nat → Nat → Int32} {kn : Int32} {Y : va_W} {i : Nat} {y0 : Int32} {x : Int32} (hX : EnvX X) (hl : l.stackTraces = false) (hC : CInv f) (hi4 : i < 4) (hno : ¬ (0 ≤ x ∧ x < nI 4)) : Ce l D cy X yX2_addAll cX2_addAll 5 (some .int) (rmk 8 1 6 170) [.ref (a 0 0), .int (nI i), .int y0, .int x] (WC cy a f r kn ++ Y) "java/lang/IndexOutOfBoundsException" := by
  have q3 := hC.sp
  have q1_i := hC.rw hi4
  have q2_i := hC.al (i := i) (by omega)
  have q6_i : f 4 (f 1 i) = f 4 i := by rw [q1_i.2.1]
  refine Cm.of [some (.ref (a 0 0)), some (.int (nI i)), some (.int y0), some (.int x), none] pn_X2 rfl (Nat.le_of_ble_eq_true rfl) ?_
  intro p e s m args below meth c A C hE hr hnt hn
  refine r_iload_n C dX2_addAll_0 rfl ?_
  refine d_Sv (st := []) hX.stb C hE (C_needRow_ok (f := f) (r := r) (kn := kn) (k := i) hX (by first | omega | (simp [up2, *]; done) | (simp [up2, *]; omega) | (simp only [up2_eq]; omega) | (split <;> omega))) pk_X2_needRow qm_X2_126 rfl rfl (Nat.le_of_ble_eq_true rfl) dX2_addAll_1 ⟨Nat.le_of_ble_eq_true rfl, Nat.le_of_ble_eq_true rfl⟩ ⟨Nat.le_of_ble_eq_true rfl, Nat.le_of_ble_eq_true rfl⟩ ?_
  refine r_iload_n C dX2_addAll_4 rfl ?_
  refine c_S (st := []) hX.stb C hE (C_needRow_no (f := f) (r := r) (kn := kn) (x := (x)) hX hl hno) pk_X2_needRow qm_X2_126 rfl rfl (Nat.le_of_ble_eq_true rfl) dX2_addAll_5 ⟨Nat.le_of_ble_eq_true rfl, Nat.le_of_ble_eq_true rfl⟩ ⟨Nat.le_of_ble_eq_true rfl, Nat.le_of_ble_eq_true rfl⟩ (fun _ _ h9 => h9.elim) (fun E9 h9 => ?_)
  subst h9
  exact r_out C hnt rfl rfl (Nat.le_of_ble_eq_true rfl) (Nat.le_of_ble_eq_true rfl)
theorem dX2_addAll_8 : decode cX2_addAll 8 = .ok (.aload_n 0, 1) := dqo_42 (kb_X2_addAll_0 8 rfl)
theorem dX2_addAll_9 : decode cX2_addAll 9 = .ok (.getfield 11, 3) := dqo_180 0 11 (kb_X2_addAll_0 9 rfl) (kb_X2_addAll_0 10 rfl) (kb_X2_addAll_0 11 rfl)
theorem dX2_addAll_12 : decode cX2_addAll 12 = .ok (.iload_n 3, 1) := dqo_29 (kb_X2_addAll_0 12 rfl)
theorem dX2_addAll_13 : decode cX2_addAll 13 = .ok (.aaload, 1) := dqo_50 (kb_X2_addAll_0 13 rfl)
theorem dX2_addAll_14 : decode cX2_addAll 14 = .ok (.getfield 50, 3) := dqo_180 0 50 (kb_X2_addAll_0 14 rfl) (kb_X2_addAll_0 15 rfl) (kb_X2_addAll_0 16 rfl)
theorem dX2_addAll_17 : decode cX2_addAll 17 = .ok (.istore 4, 2) := dqo_54 4 (kb_X2_addAll_0 17 rfl) (kb_X2_addAll_0 18 rfl)
theorem dX2_addAll_19 : decode cX2_addAll 19 = .ok (.aload_n 0, 1) := dqo_42 (kb_X2_addAll_0 19 rfl)
theorem dX2_addAll_20 : decode cX2_addAll 20 = .ok (.iload_n 1, 1) := dqo_27 (kb_X2_addAll_0 20 rfl)
theorem dX2_addAll_21 : decode cX2_addAll 21 = .ok (.iload 4, 2) := dqo_21 4 (kb_X2_addAll_0 21 rfl) (kb_X2_addAll_0 22 rfl)
theorem dX2_addAll_23 : decode cX2_addAll 23 = .ok (.invokevirtual 46, 3) := dqo_182 0 46 (kb_X2_addAll_0 23 rfl) (kb_X2_addAll_0 24 rfl) (kb_X2_addAll_0 25 rfl)
set_option maxRecDepth 100000 in
set_option maxHeartbeats 4000000 in
theorem C_addAll_full {l : Launch} {D : va_G} {cy : Nat → ClassId} {X : (Nat → Prop) → State → Heap → Prop} {a f : Nat → Nat → Nat} {r : Nat → Nat → Int32} {kn : Int32} {Y : va_W} {i : Nat} {y0 : Int32} {j : Nat} (hX : EnvX X) (hl : l.stackTraces = false) (hC : CInv f) (hi4 : i < 4) (hj4 : j < 4) (hfull : 12 < f 4 (f 1 i) + f 4 j) : Ce l D cy X yX2_addAll cX2_addAll 5 (some .int) (rmk 8 1 6 170) [.ref (a 0 0), .int (nI i), .int y0, .int (nI j)] (WC cy a f r kn ++ Y) "java/lang/IllegalStateException" := by
  have q3 := hC.sp
  have q1_i := hC.rw hi4
  have q2_i := hC.al (i := i) (by omega)
  have q6_i : f 4 (f 1 i) = f 4 i := by rw [q1_i.2.1]
  have q1_j := hC.rw hj4
  have q2_j := hC.al (i := j) (by omega)
  have q6_j : f 4 (f 1 j) = f 4 j := by rw [q1_j.2.1]
  have q7 : f 4 (f 1 i) ≤ 12 := by rw [q1_i.2.1]; omega
  refine Cm.of [some (.ref (a 0 0)), some (.int (nI i)), some (.int y0), some (.int (nI j)), none] pn_X2 rfl (Nat.le_of_ble_eq_true rfl) ?_
  intro p e s m args below meth c A C hE hr hnt hn
  refine r_iload_n C dX2_addAll_0 rfl ?_
  refine d_Sv (st := []) hX.stb C hE (C_needRow_ok (f := f) (r := r) (kn := kn) (k := i) hX (by first | omega | (simp [up2, *]; done) | (simp [up2, *]; omega) | (simp only [up2_eq]; omega) | (split <;> omega))) pk_X2_needRow qm_X2_126 rfl rfl (Nat.le_of_ble_eq_true rfl) dX2_addAll_1 ⟨Nat.le_of_ble_eq_true rfl, Nat.le_of_ble_eq_true rfl⟩ ⟨Nat.le_of_ble_eq_true rfl, Nat.le_of_ble_eq_true rfl⟩ ?_
  refine r_iload_n C dX2_addAll_4 rfl ?_
  refine d_Sv (st := []) hX.stb C hE (C_needRow_ok (f := f) (r := r) (kn := kn) (k := j) hX (by first | omega | (simp [up2, *]; done) | (simp [up2, *]; omega) | (simp only [up2_eq]; omega) | (split <;> omega))) pk_X2_needRow qm_X2_126 rfl rfl (Nat.le_of_ble_eq_true rfl) dX2_addAll_5 ⟨Nat.le_of_ble_eq_true rfl, Nat.le_of_ble_eq_true rfl⟩ ⟨Nat.le_of_ble_eq_true rfl, Nat.le_of_ble_eq_true rfl⟩ ?_
  refine r_aload_n C dX2_addAll_8 rfl ?_
  refine s_get C 0 (by decide) qf_X2_11 rfl rfl dX2_addAll_9 ?_
  refine r_iload_n C dX2_addAll_12 rfl ?_
  refine s_parts C (by first | omega | (simp [up2, *]; done) | (simp [up2, *]; omega) | (simp only [up2_eq]; omega) | (split <;> omega)) dX2_addAll_13 ?_
  refine p_getN (v := .int (nI (f 4 j))) hX C hE 4 (by first | omega | (simp [up2, *]; done) | (simp [up2, *]; omega) | (simp only [up2_eq]; omega) | (split <;> omega)) (by decide) qn_X2_50 rfl rfl dX2_addAll_14 ?_
  refine r_istore C dX2_addAll_17 (by decide) rfl ?_
  refine r_aload_n C dX2_addAll_19 rfl ?_
  refine r_iload_n C dX2_addAll_20 rfl ?_
  refine r_iload C dX2_addAll_21 rfl ?_
  refine c_V (st := []) hX.stb C hE (C_needRoom_no (f := f) (r := r) (kn := kn) (w := i) (x := ((nI (f 4 j)))) (q0 := (f 4 (f 1 i) + f 4 j)) hX hl (by first | omega | (simp [up2, *]; done) | (simp [up2, *]; omega) | (simp only [up2_eq]; omega) | (split <;> omega)) (by omega) (nI_add _ _) (by first | omega | (simp [up2, *]; done) | (simp [up2, *]; omega) | (simp only [up2_eq]; omega) | (split <;> omega)) (by first | omega | (simp [up2, *]; done) | (simp [up2, *]; omega) | (simp only [up2_eq]; omega) | (split <;> omega))) pk_X2_needRoom qm_X2_46 0 6 rfl rfl wc_0 rfl rfl (Nat.le_of_ble_eq_true rfl) dX2_addAll_23 ⟨Nat.le_of_ble_eq_true rfl, Nat.le_of_ble_eq_true rfl⟩ ⟨Nat.le_of_ble_eq_true rfl, Nat.le_of_ble_eq_true rfl⟩ (fun _ _ h9 => h9.elim) (fun E9 h9 => ?_)
  subst h9
  exact r_out C hnt rfl rfl (Nat.le_of_ble_eq_true rfl) (Nat.le_of_ble_eq_true rfl)
theorem dX2_addAll_26 : decode cX2_addAll 26 = .ok (.iload 4, 2) := dqo_21 4 (kb_X2_addAll_0 26 rfl) (kb_X2_addAll_0 27 rfl)
theorem dX2_addAll_28 : decode cX2_addAll 28 = .ok (.ifCond .ne 13, 3) := dqo_154 0 13 (by decide) (kb_X2_addAll_0 28 rfl) (kb_X2_addAll_0 29 rfl) (kb_X2_addAll_0 30 rfl)
theorem dX2_addAll_31 : decode cX2_addAll 31 = .ok (.aload_n 0, 1) := dqo_42 (kb_X2_addAll_0 31 rfl)
theorem dX2_addAll_32 : decode cX2_addAll 32 = .ok (.getfield 11, 3) := dqo_180 0 11 (kb_X2_addAll_0 32 rfl) (kb_X2_addAll_0 33 rfl) (kb_X2_addAll_0 34 rfl)
theorem dX2_addAll_35 : decode cX2_addAll 35 = .ok (.iload_n 1, 1) := dqo_27 (kb_X2_addAll_0 35 rfl)
theorem dX2_addAll_36 : decode cX2_addAll 36 = .ok (.aaload, 1) := dqo_50 (kb_X2_addAll_0 36 rfl)
theorem dX2_addAll_37 : decode cX2_addAll 37 = .ok (.getfield 50, 3) := dqo_180 0 50 (kb_X2_addAll_0 37 rfl) (kb_X2_addAll_0 38 rfl) (kb_X2_addAll_0 39 rfl)
theorem dX2_addAll_40 : decode cX2_addAll 40 = .ok (.ireturn, 1) := dqo_172 (kb_X2_addAll_0 40 rfl)
set_option maxRecDepth 100000 in
set_option maxHeartbeats 4000000 in
theorem C_addAll_0 {l : Launch} {D : va_G} {cy : Nat → ClassId} {X : (Nat → Prop) → State → Heap → Prop} {a f : Nat → Nat → Nat} {r : Nat → Nat → Int32} {kn : Int32} {Y : va_W} {i : Nat} {y0 : Int32} {j : Nat} (hX : EnvX X) (hC : CInv f) (hi4 : i < 4) (hj4 : j < 4) (hz : f 4 j = 0) : Cd l D cy X yX2_addAll cX2_addAll 5 (some .int) (rmz 6 240) [.ref (a 0 0), .int (nI i), .int y0, .int (nI j)] (WC cy a f r kn ++ Y) (some (.int (nI (f 4 i)))) (WC cy a f r kn ++ Y) := by
  have q3 := hC.sp
  have q1_i := hC.rw hi4
  have q2_i := hC.al (i := i) (by omega)
  have q6_i : f 4 (f 1 i) = f 4 i := by rw [q1_i.2.1]
  have q1_j := hC.rw hj4
  have q2_j := hC.al (i := j) (by omega)
  have q6_j : f 4 (f 1 j) = f 4 j := by rw [q1_j.2.1]
  have q7 : f 4 (f 1 i) ≤ 12 := by rw [q1_i.2.1]; omega
  refine Cm.of [some (.ref (a 0 0)), some (.int (nI i)), some (.int y0), some (.int (nI j)), none] pn_X2 rfl (Nat.le_of_ble_eq_true rfl) ?_
  intro p e s m args below meth c A C hE hr hnt hn
  refine r_iload_n C dX2_addAll_0 rfl ?_
  refine d_Sv (st := []) hX.stb C hE (C_needRow_ok (f := f) (r := r) (kn := kn) (k := i) hX (by first | omega | (simp [up2, *]; done) | (simp [up2, *]; omega) | (simp only [up2_eq]; omega) | (split <;> omega))) pk_X2_needRow qm_X2_126 rfl rfl (Nat.le_of_ble_eq_true rfl) dX2_addAll_1 ⟨Nat.le_of_ble_eq_true rfl, Nat.le_of_ble_eq_true rfl⟩ ⟨Nat.le_of_ble_eq_true rfl, Nat.le_of_ble_eq_true rfl⟩ ?_
  refine r_iload_n C dX2_addAll_4 rfl ?_
  refine d_Sv (st := []) hX.stb C hE (C_needRow_ok (f := f) (r := r) (kn := kn) (k := j) hX (by first | omega | (simp [up2, *]; done) | (simp [up2, *]; omega) | (simp only [up2_eq]; omega) | (split <;> omega))) pk_X2_needRow qm_X2_126 rfl rfl (Nat.le_of_ble_eq_true rfl) dX2_addAll_5 ⟨Nat.le_of_ble_eq_true rfl, Nat.le_of_ble_eq_true rfl⟩ ⟨Nat.le_of_ble_eq_true rfl, Nat.le_of_ble_eq_true rfl⟩ ?_
  refine r_aload_n C dX2_addAll_8 rfl ?_
  refine s_get C 0 (by decide) qf_X2_11 rfl rfl dX2_addAll_9 ?_
  refine r_iload_n C dX2_addAll_12 rfl ?_
  refine s_parts C (by first | omega | (simp [up2, *]; done) | (simp [up2, *]; omega) | (simp only [up2_eq]; omega) | (split <;> omega)) dX2_addAll_13 ?_
  refine p_getN (v := .int (nI (f 4 j))) hX C hE 4 (by first | omega | (simp [up2, *]; done) | (simp [up2, *]; omega) | (simp only [up2_eq]; omega) | (split <;> omega)) (by decide) qn_X2_50 rfl rfl dX2_addAll_14 ?_
  refine r_istore C dX2_addAll_17 (by decide) rfl ?_
  refine r_aload_n C dX2_addAll_19 rfl ?_
  refine r_iload_n C dX2_addAll_20 rfl ?_
  refine r_iload C dX2_addAll_21 rfl ?_
  refine d_Vv (st := []) hX.stb C hE (C_needRoom_ok (f := f) (r := r) (kn := kn) (w := i) (x := ((nI (f 4 j)))) (q0 := (f 4 (f 1 i) + f 4 j)) hX (by first | omega | (simp [up2, *]; done) | (simp [up2, *]; omega) | (simp only [up2_eq]; omega) | (split <;> omega)) (by omega) (nI_add _ _) (by first | omega | (simp [up2, *]; done) | (simp [up2, *]; omega) | (simp only [up2_eq]; omega) | (split <;> omega))) pk_X2_needRoom qm_X2_46 0 6 rfl rfl wc_0 rfl rfl (Nat.le_of_ble_eq_true rfl) dX2_addAll_23 ⟨Nat.le_of_ble_eq_true rfl, Nat.le_of_ble_eq_true rfl⟩ ⟨Nat.le_of_ble_eq_true rfl, Nat.le_of_ble_eq_true rfl⟩ ?_
  refine r_iload C dX2_addAll_26 rfl ?_
  refine r_ifN_ne (a := (f 4 j)) (tgt := 41) C (by first | omega | (simp [up2, *]; done) | (simp [up2, *]; omega) | (simp only [up2_eq]; omega) | (split <;> omega)) dX2_addAll_28 (by decide) (fun h28_1 => ?_) (fun h28_1 => ?_)
  · exact absurd h28_1 (by first | omega | (simp [up2, *]; done) | (simp [up2, *]; omega) | (simp only [up2_eq]; omega) | (split <;> omega))
  · skip
    refine r_aload_n C dX2_addAll_31 rfl ?_
    refine s_get C 0 (by decide) qf_X2_11 rfl rfl dX2_addAll_32 ?_
    refine r_iload_n C dX2_addAll_35 rfl ?_
    refine s_parts C (by first | omega | (simp [up2, *]; done) | (simp [up2, *]; omega) | (simp only [up2_eq]; omega) | (split <;> omega)) dX2_addAll_36 ?_
    refine p_getN (v := .int (nI (f 4 i))) hX C hE 4 (by first | omega | (simp [up2, *]; done) | (simp [up2, *]; omega) | (simp only [up2_eq]; omega) | (split <;> omega)) (by decide) qn_X2_50 rfl rfl dX2_addAll_37 ?_
    exact r_iret C hr dX2_addAll_40 ⟨rfl, rfl⟩ (Nat.le_of_ble_eq_true rfl) (Nat.le_of_ble_eq_true rfl)
theorem dX2_addAll_41 : decode cX2_addAll 41 = .ok (.aload_n 0, 1) := dqo_42 (kb_X2_addAll_0 41 rfl)
theorem dX2_addAll_42 : decode cX2_addAll 42 = .ok (.getfield 11, 3) := dqo_180 0 11 (kb_X2_addAll_0 42 rfl) (kb_X2_addAll_0 43 rfl) (kb_X2_addAll_0 44 rfl)
theorem dX2_addAll_45 : decode cX2_addAll 45 = .ok (.iload_n 1, 1) := dqo_27 (kb_X2_addAll_0 45 rfl)
theorem dX2_addAll_46 : decode cX2_addAll 46 = .ok (.aaload, 1) := dqo_50 (kb_X2_addAll_0 46 rfl)
theorem dX2_addAll_47 : decode cX2_addAll 47 = .ok (.iload_n 2, 1) := dqo_28 (kb_X2_addAll_0 47 rfl)
theorem dX2_addAll_48 : decode cX2_addAll 48 = .ok (.invokevirtual 58, 3) := dqo_182 0 58 (kb_X2_addAll_0 48 rfl) (kb_X2_addAll_0 49 rfl) (kb_X2_addAll_0 50 rfl)
theorem dX2_addAll_51 : decode cX2_addAll 51 = .ok (.ifCond .ne 6, 3) := dqo_154 0 6 (by decide) (kb_X2_addAll_0 51 rfl) (kb_X2_addAll_0 52 rfl) (kb_X2_addAll_0 53 rfl)
theorem dX2_addAll_54 : decode cX2_addAll 54 = .ok (.bipush (-9), 2) := dqo_16 247 (by decide) (kb_X2_addAll_0 54 rfl) (kb_X2_addAll_0 55 rfl)
theorem dX2_addAll_56 : decode cX2_addAll 56 = .ok (.ireturn, 1) := dqo_172 (kb_X2_addAll_0 56 rfl)
set_option maxRecDepth 100000 in
set_option maxHeartbeats 4000000 in
theorem C_addAll_ref {l : Launch} {D : va_G} {cy : Nat → ClassId} {X : (Nat → Prop) → State → Heap → Prop} {a f : Nat → Nat → Nat} {r : Nat → Nat → Int32} {kn : Int32} {Y : va_W} {i : Nat} {y0 : Int32} {j : Nat} (hX : EnvX X) (hC : CInv f) (hi4 : i < 4) (hj4 : j < 4) (hz : 0 < f 4 j) (hfit : f 4 (f 1 i) + f 4 j ≤ 12) (hno : ¬ (0 ≤ y0 ∧ y0 ≤ nI (f 4 i))) : Cd l D cy X yX2_addAll cX2_addAll 5 (some .int) (rmz 6 240) [.ref (a 0 0), .int (nI i), .int y0, .int (nI j)] (WC cy a f r kn ++ Y) (some (.int (nI 4294967287))) (WC cy a f r kn ++ Y) := by
  have q3 := hC.sp
  have q1_i := hC.rw hi4
  have q2_i := hC.al (i := i) (by omega)
  have q6_i : f 4 (f 1 i) = f 4 i := by rw [q1_i.2.1]
  have q1_j := hC.rw hj4
  have q2_j := hC.al (i := j) (by omega)
  have q6_j : f 4 (f 1 j) = f 4 j := by rw [q1_j.2.1]
  refine Cm.of [some (.ref (a 0 0)), some (.int (nI i)), some (.int y0), some (.int (nI j)), none] pn_X2 rfl (Nat.le_of_ble_eq_true rfl) ?_
  intro p e s m args below meth c A C hE hr hnt hn
  refine r_iload_n C dX2_addAll_0 rfl ?_
  refine d_Sv (st := []) hX.stb C hE (C_needRow_ok (f := f) (r := r) (kn := kn) (k := i) hX (by first | omega | (simp [up2, *]; done) | (simp [up2, *]; omega) | (simp only [up2_eq]; omega) | (split <;> omega))) pk_X2_needRow qm_X2_126 rfl rfl (Nat.le_of_ble_eq_true rfl) dX2_addAll_1 ⟨Nat.le_of_ble_eq_true rfl, Nat.le_of_ble_eq_true rfl⟩ ⟨Nat.le_of_ble_eq_true rfl, Nat.le_of_ble_eq_true rfl⟩ ?_
  refine r_iload_n C dX2_addAll_4 rfl ?_
  refine d_Sv (st := []) hX.stb C hE (C_needRow_ok (f := f) (r := r) (kn := kn) (k := j) hX (by first | omega | (simp [up2, *]; done) | (simp [up2, *]; omega) | (simp only [up2_eq]; omega) | (split <;> omega))) pk_X2_needRow qm_X2_126 rfl rfl (Nat.le_of_ble_eq_true rfl) dX2_addAll_5 ⟨Nat.le_of_ble_eq_true rfl, Nat.le_of_ble_eq_true rfl⟩ ⟨Nat.le_of_ble_eq_true rfl, Nat.le_of_ble_eq_true rfl⟩ ?_
  refine r_aload_n C dX2_addAll_8 rfl ?_
  refine s_get C 0 (by decide) qf_X2_11 rfl rfl dX2_addAll_9 ?_
  refine r_iload_n C dX2_addAll_12 rfl ?_
  refine s_parts C (by first | omega | (simp [up2, *]; done) | (simp [up2, *]; omega) | (simp only [up2_eq]; omega) | (split <;> omega)) dX2_addAll_13 ?_
  refine p_getN (v := .int (nI (f 4 j))) hX C hE 4 (by first | omega | (simp [up2, *]; done) | (simp [up2, *]; omega) | (simp only [up2_eq]; omega) | (split <;> omega)) (by decide) qn_X2_50 rfl rfl dX2_addAll_14 ?_
  refine r_istore C dX2_addAll_17 (by decide) rfl ?_
  refine r_aload_n C dX2_addAll_19 rfl ?_
  refine r_iload_n C dX2_addAll_20 rfl ?_
  refine r_iload C dX2_addAll_21 rfl ?_
  refine d_Vv (st := []) hX.stb C hE (C_needRoom_ok (f := f) (r := r) (kn := kn) (w := i) (x := ((nI (f 4 j)))) (q0 := (f 4 (f 1 i) + f 4 j)) hX (by first | omega | (simp [up2, *]; done) | (simp [up2, *]; omega) | (simp only [up2_eq]; omega) | (split <;> omega)) (by omega) (nI_add _ _) (by first | omega | (simp [up2, *]; done) | (simp [up2, *]; omega) | (simp only [up2_eq]; omega) | (split <;> omega))) pk_X2_needRoom qm_X2_46 0 6 rfl rfl wc_0 rfl rfl (Nat.le_of_ble_eq_true rfl) dX2_addAll_23 ⟨Nat.le_of_ble_eq_true rfl, Nat.le_of_ble_eq_true rfl⟩ ⟨Nat.le_of_ble_eq_true rfl, Nat.le_of_ble_eq_true rfl⟩ ?_
  refine r_iload C dX2_addAll_26 rfl ?_
  refine r_ifN_ne (a := (f 4 j)) (tgt := 41) C (by first | omega | (simp [up2, *]; done) | (simp [up2, *]; omega) | (simp only [up2_eq]; omega) | (split <;> omega)) dX2_addAll_28 (by decide) (fun h28_1 => ?_) (fun h28_1 => ?_)
  · skip
    refine r_aload_n C dX2_addAll_41 rfl ?_
    refine s_get C 0 (by decide) qf_X2_11 rfl rfl dX2_addAll_42 ?_
    refine r_iload_n C dX2_addAll_45 rfl ?_
    refine s_parts C (by first | omega | (simp [up2, *]; done) | (simp [up2, *]; omega) | (simp only [up2_eq]; omega) | (split <;> omega)) dX2_addAll_46 ?_
    refine r_iload_n C dX2_addAll_47 rfl ?_
    refine d_V (st := []) hX.stb C hE (C_isGap0 (f := f) (r := r) (kn := kn) (i := i) (x := (y0)) hX (by first | omega | (simp [up2, *]; done) | (simp [up2, *]; omega) | (simp only [up2_eq]; omega) | (split <;> omega)) hno) pk_X1_isGap qm_X2_58 (3 + i) 5 rfl rfl (wc_p (by first | omega | (simp [up2, *]; done) | (simp [up2, *]; omega) | (simp only [up2_eq]; omega) | (split <;> omega))) rfl rfl (Nat.le_of_ble_eq_true rfl) dX2_addAll_48 ⟨Nat.le_of_ble_eq_true rfl, Nat.le_of_ble_eq_true rfl⟩ ⟨Nat.le_of_ble_eq_true rfl, Nat.le_of_ble_eq_true rfl⟩ ?_
    refine r_ifN_ne (a := 0) (tgt := 57) C (by first | omega | (simp [up2, *]; done) | (simp [up2, *]; omega) | (simp only [up2_eq]; omega) | (split <;> omega)) dX2_addAll_51 (by decide) (fun h51_2 => ?_) (fun h51_2 => ?_)
    · exact absurd h51_2 (by first | omega | (simp [up2, *]; done) | (simp [up2, *]; omega) | (simp only [up2_eq]; omega) | (split <;> omega))
    · skip
      refine r_bipush (v := (nI 4294967287)) C dX2_addAll_54 (by decide) ?_
      exact r_iret C hr dX2_addAll_56 ⟨rfl, rfl⟩ (Nat.le_of_ble_eq_true rfl) (Nat.le_of_ble_eq_true rfl)
  · exact absurd h28_1 (by first | omega | (simp [up2, *]; done) | (simp [up2, *]; omega) | (simp only [up2_eq]; omega) | (split <;> omega))
theorem dX2_addAll_57 : decode cX2_addAll 57 = .ok (.aload_n 0, 1) := dqo_42 (kb_X2_addAll_0 57 rfl)
theorem dX2_addAll_58 : decode cX2_addAll 58 = .ok (.getfield 29, 3) := dqo_180 0 29 (kb_X2_addAll_0 58 rfl) (kb_X2_addAll_0 59 rfl) (kb_X2_addAll_0 60 rfl)
theorem dX2_addAll_61 : decode cX2_addAll 61 = .ok (.aload_n 0, 1) := dqo_42 (kb_X2_addAll_0 61 rfl)
theorem dX2_addAll_62 : decode cX2_addAll 62 = .ok (.getfield 11, 3) := dqo_180 0 11 (kb_X2_addAll_0 62 rfl) (kb_X2_addAll_0 63 rfl) (kb_X2_addAll_1 0 rfl)
theorem dX2_addAll_65 : decode cX2_addAll 65 = .ok (.iload_n 3, 1) := dqo_29 (kb_X2_addAll_1 1 rfl)
theorem dX2_addAll_66 : decode cX2_addAll 66 = .ok (.aaload, 1) := dqo_50 (kb_X2_addAll_1 2 rfl)
theorem dX2_addAll_67 : decode cX2_addAll 67 = .ok (.invokevirtual 79, 3) := dqo_182 0 79 (kb_X2_addAll_1 3 rfl) (kb_X2_addAll_1 4 rfl) (kb_X2_addAll_1 5 rfl)
theorem dX2_addAll_70 : decode cX2_addAll 70 = .ok (.aload_n 0, 1) := dqo_42 (kb_X2_addAll_1 6 rfl)
theorem dX2_addAll_71 : decode cX2_addAll 71 = .ok (.iload_n 1, 1) := dqo_27 (kb_X2_addAll_1 7 rfl)
theorem dX2_addAll_72 : decode cX2_addAll 72 = .ok (.iload_n 2, 1) := dqo_28 (kb_X2_addAll_1 8 rfl)
theorem dX2_addAll_73 : decode cX2_addAll 73 = .ok (.iload_n 2, 1) := dqo_28 (kb_X2_addAll_1 9 rfl)
theorem dX2_addAll_74 : decode cX2_addAll 74 = .ok (.invokevirtual 83, 3) := dqo_182 0 83 (kb_X2_addAll_1 10 rfl) (kb_X2_addAll_1 11 rfl) (kb_X2_addAll_1 12 rfl)
theorem dX2_addAll_77 : decode cX2_addAll 77 = .ok (.aload_n 0, 1) := dqo_42 (kb_X2_addAll_1 13 rfl)
theorem dX2_addAll_78 : decode cX2_addAll 78 = .ok (.iload_n 1, 1) := dqo_27 (kb_X2_addAll_1 14 rfl)
theorem dX2_addAll_79 : decode cX2_addAll 79 = .ok (.iconst (-1), 1) := dqo_2 (kb_X2_addAll_1 15 rfl)
theorem dX2_addAll_80 : decode cX2_addAll 80 = .ok (.invokevirtual 87, 3) := dqo_182 0 87 (kb_X2_addAll_1 16 rfl) (kb_X2_addAll_1 17 rfl) (kb_X2_addAll_1 18 rfl)
theorem dX2_addAll_83 : decode cX2_addAll 83 = .ok (.aload_n 0, 1) := dqo_42 (kb_X2_addAll_1 19 rfl)
theorem dX2_addAll_84 : decode cX2_addAll 84 = .ok (.getfield 11, 3) := dqo_180 0 11 (kb_X2_addAll_1 20 rfl) (kb_X2_addAll_1 21 rfl) (kb_X2_addAll_1 22 rfl)
theorem dX2_addAll_87 : decode cX2_addAll 87 = .ok (.iload_n 1, 1) := dqo_27 (kb_X2_addAll_1 23 rfl)
theorem dX2_addAll_88 : decode cX2_addAll 88 = .ok (.aaload, 1) := dqo_50 (kb_X2_addAll_1 24 rfl)
theorem dX2_addAll_89 : decode cX2_addAll 89 = .ok (.getfield 50, 3) := dqo_180 0 50 (kb_X2_addAll_1 25 rfl) (kb_X2_addAll_1 26 rfl) (kb_X2_addAll_1 27 rfl)
theorem dX2_addAll_92 : decode cX2_addAll 92 = .ok (.ireturn, 1) := dqo_172 (kb_X2_addAll_1 28 rfl)
set_option maxRecDepth 100000 in
set_option maxHeartbeats 4000000 in
theorem C_addAll_ok {l : Launch} {D : va_G} {cy : Nat → ClassId} {X : (Nat → Prop) → State → Heap → Prop} {a f : Nat → Nat → Nat} {r : Nat → Nat → Int32} {kn : Int32} {Y : va_W} {i : Nat} {k0 : Nat} {j : Nat} (hX : EnvX X) (hC : CInv f) (hi4 : i < 4) (hj4 : j < 4) (hz : 0 < f 4 j) (hfit : f 4 (f 1 i) + f 4 j ≤ 12) (hk : k0 ≤ f 4 i) : Cd l D cy X yX2_addAll cX2_addAll 5 (some .int) (rmz 6 240) [.ref (a 0 0), .int (nI i), .int (nI k0), .int (nI j)] (WC cy a f r kn ++ Y) (some (.int (nI ((exL (up2 f 4 8 (f 4 j)) i ((up2 f 4 8 (f 4 j)) 4 8) (k0 - k0) 8) 4 i)))) (WC cy a (settleF (exL (up2 f 4 8 (f 4 j)) i ((up2 f 4 8 (f 4 j)) 4 8) (k0 - k0) 8) i 4294967295) (exR (up2 f 4 8 (f 4 j)) (cpy2 r (f 0 j) (f 3 j) (f 0 8) (f 3 8) (f 4 j)) i k0 k0 ((up2 f 4 8 (f 4 j)) 4 8)) kn ++ Y) := by
  have q3 := hC.sp
  have q1_i := hC.rw hi4
  have q2_i := hC.al (i := i) (by omega)
  have q6_i : f 4 (f 1 i) = f 4 i := by rw [q1_i.2.1]
  have q1_j := hC.rw hj4
  have q2_j := hC.al (i := j) (by omega)
  have q6_j : f 4 (f 1 j) = f 4 j := by rw [q1_j.2.1]
  refine Cm.of [some (.ref (a 0 0)), some (.int (nI i)), some (.int (nI k0)), some (.int (nI j)), none] pn_X2 rfl (Nat.le_of_ble_eq_true rfl) ?_
  intro p e s m args below meth c A C hE hr hnt hn
  refine r_iload_n C dX2_addAll_0 rfl ?_
  refine d_Sv (st := []) hX.stb C hE (C_needRow_ok (f := f) (r := r) (kn := kn) (k := i) hX (by first | omega | (simp [up2, *]; done) | (simp [up2, *]; omega) | (simp only [up2_eq]; omega) | (split <;> omega))) pk_X2_needRow qm_X2_126 rfl rfl (Nat.le_of_ble_eq_true rfl) dX2_addAll_1 ⟨Nat.le_of_ble_eq_true rfl, Nat.le_of_ble_eq_true rfl⟩ ⟨Nat.le_of_ble_eq_true rfl, Nat.le_of_ble_eq_true rfl⟩ ?_
  refine r_iload_n C dX2_addAll_4 rfl ?_
  refine d_Sv (st := []) hX.stb C hE (C_needRow_ok (f := f) (r := r) (kn := kn) (k := j) hX (by first | omega | (simp [up2, *]; done) | (simp [up2, *]; omega) | (simp only [up2_eq]; omega) | (split <;> omega))) pk_X2_needRow qm_X2_126 rfl rfl (Nat.le_of_ble_eq_true rfl) dX2_addAll_5 ⟨Nat.le_of_ble_eq_true rfl, Nat.le_of_ble_eq_true rfl⟩ ⟨Nat.le_of_ble_eq_true rfl, Nat.le_of_ble_eq_true rfl⟩ ?_
  refine r_aload_n C dX2_addAll_8 rfl ?_
  refine s_get C 0 (by decide) qf_X2_11 rfl rfl dX2_addAll_9 ?_
  refine r_iload_n C dX2_addAll_12 rfl ?_
  refine s_parts C (by first | omega | (simp [up2, *]; done) | (simp [up2, *]; omega) | (simp only [up2_eq]; omega) | (split <;> omega)) dX2_addAll_13 ?_
  refine p_getN (v := .int (nI (f 4 j))) hX C hE 4 (by first | omega | (simp [up2, *]; done) | (simp [up2, *]; omega) | (simp only [up2_eq]; omega) | (split <;> omega)) (by decide) qn_X2_50 rfl rfl dX2_addAll_14 ?_
  refine r_istore C dX2_addAll_17 (by decide) rfl ?_
  refine r_aload_n C dX2_addAll_19 rfl ?_
  refine r_iload_n C dX2_addAll_20 rfl ?_
  refine r_iload C dX2_addAll_21 rfl ?_
  refine d_Vv (st := []) hX.stb C hE (C_needRoom_ok (f := f) (r := r) (kn := kn) (w := i) (x := ((nI (f 4 j)))) (q0 := (f 4 (f 1 i) + f 4 j)) hX (by first | omega | (simp [up2, *]; done) | (simp [up2, *]; omega) | (simp only [up2_eq]; omega) | (split <;> omega)) (by omega) (nI_add _ _) (by first | omega | (simp [up2, *]; done) | (simp [up2, *]; omega) | (simp only [up2_eq]; omega) | (split <;> omega))) pk_X2_needRoom qm_X2_46 0 6 rfl rfl wc_0 rfl rfl (Nat.le_of_ble_eq_true rfl) dX2_addAll_23 ⟨Nat.le_of_ble_eq_true rfl, Nat.le_of_ble_eq_true rfl⟩ ⟨Nat.le_of_ble_eq_true rfl, Nat.le_of_ble_eq_true rfl⟩ ?_
  refine r_iload C dX2_addAll_26 rfl ?_
  refine r_ifN_ne (a := (f 4 j)) (tgt := 41) C (by first | omega | (simp [up2, *]; done) | (simp [up2, *]; omega) | (simp only [up2_eq]; omega) | (split <;> omega)) dX2_addAll_28 (by decide) (fun h28_1 => ?_) (fun h28_1 => ?_)
  · skip
    refine r_aload_n C dX2_addAll_41 rfl ?_
    refine s_get C 0 (by decide) qf_X2_11 rfl rfl dX2_addAll_42 ?_
    refine r_iload_n C dX2_addAll_45 rfl ?_
    refine s_parts C (by first | omega | (simp [up2, *]; done) | (simp [up2, *]; omega) | (simp only [up2_eq]; omega) | (split <;> omega)) dX2_addAll_46 ?_
    refine r_iload_n C dX2_addAll_47 rfl ?_
    refine d_V (st := []) hX.stb C hE (C_isGap1 (f := f) (r := r) (kn := kn) (i := i) (k := k0) hX (by first | omega | (simp [up2, *]; done) | (simp [up2, *]; omega) | (simp only [up2_eq]; omega) | (split <;> omega)) (by first | omega | (simp [up2, *]; done) | (simp [up2, *]; omega) | (simp only [up2_eq]; omega) | (split <;> omega)) (by first | omega | (simp [up2, *]; done) | (simp [up2, *]; omega) | (simp only [up2_eq]; omega) | (split <;> omega))) pk_X1_isGap qm_X2_58 (3 + i) 5 rfl rfl (wc_p (by first | omega | (simp [up2, *]; done) | (simp [up2, *]; omega) | (simp only [up2_eq]; omega) | (split <;> omega))) rfl rfl (Nat.le_of_ble_eq_true rfl) dX2_addAll_48 ⟨Nat.le_of_ble_eq_true rfl, Nat.le_of_ble_eq_true rfl⟩ ⟨Nat.le_of_ble_eq_true rfl, Nat.le_of_ble_eq_true rfl⟩ ?_
    refine r_ifN_ne (a := 1) (tgt := 57) C (by first | omega | (simp [up2, *]; done) | (simp [up2, *]; omega) | (simp only [up2_eq]; omega) | (split <;> omega)) dX2_addAll_51 (by decide) (fun h51_2 => ?_) (fun h51_2 => ?_)
    · skip
      refine r_aload_n C dX2_addAll_57 rfl ?_
      refine s_get C 2 (by decide) qf_X2_29 rfl rfl dX2_addAll_58 ?_
      refine r_aload_n C dX2_addAll_61 rfl ?_
      refine s_get C 0 (by decide) qf_X2_11 rfl rfl dX2_addAll_62 ?_
      refine r_iload_n C dX2_addAll_65 rfl ?_
      refine s_parts C (by first | omega | (simp [up2, *]; done) | (simp [up2, *]; omega) | (simp only [up2_eq]; omega) | (split <;> omega)) dX2_addAll_66 ?_
      refine d_Vv (st := []) hX.stb C hE (C_becomeLike (f := f) (r := r) (kn := kn) (i := 8) (j := j) hX (by first | omega | (simp [up2, *]; done) | (simp [up2, *]; omega) | (simp only [up2_eq]; omega) | (split <;> omega)) (by first | omega | (simp [up2, *]; done) | (simp [up2, *]; omega) | (simp only [up2_eq]; omega) | (split <;> omega)) (by first | omega | (simp [up2, *]; done) | (simp [up2, *]; omega) | (simp only [up2_eq]; omega) | (split <;> omega)) (by first | omega | (simp [up2, *]; done) | (simp [up2, *]; omega) | (simp only [up2_eq]; omega) | (split <;> omega)) (by first | omega | (simp [up2, *]; done) | (simp [up2, *]; omega) | (simp only [up2_eq]; omega) | (split <;> omega)) (by first | omega | (simp [up2, *]; done) | (simp [up2, *]; omega) | (simp only [up2_eq]; omega) | (split <;> omega))) pk_X1_becomeLike qm_X2_79 (3 + 8) 5 rfl rfl (wc_p (by first | omega | (simp [up2, *]; done) | (simp [up2, *]; omega) | (simp only [up2_eq]; omega) | (split <;> omega))) rfl rfl (Nat.le_of_ble_eq_true rfl) dX2_addAll_67 ⟨Nat.le_of_ble_eq_true rfl, Nat.le_of_ble_eq_true rfl⟩ ⟨Nat.le_of_ble_eq_true rfl, Nat.le_of_ble_eq_true rfl⟩ ?_
      refine r_aload_n C dX2_addAll_70 rfl ?_
      refine r_iload_n C dX2_addAll_71 rfl ?_
      refine r_iload_n C dX2_addAll_72 rfl ?_
      refine r_iload_n C dX2_addAll_73 rfl ?_
      refine d_Vv (st := []) hX.stb C hE (C_exchange (f := (up2 f 4 8 (f 4 j))) (r := (cpy2 r (f 0 j) (f 3 j) (f 0 8) (f 3 8) (f 4 j))) (kn := kn) (w := i) (p0 := k0) (q0 := k0) hX (by first | omega | (simp [up2, *]; done) | (simp [up2, *]; omega) | (simp only [up2_eq]; omega) | (split <;> omega)) hC.h1 hC.hG hC.hI hC.hI8 (by first | omega | (simp [up2, *]; done) | (simp [up2, *]; omega) | (simp only [up2_eq]; omega) | (split <;> omega)) (Nat.le_refl _) (show f 3 i + k0 ≤ up2 f 4 8 (f 4 j) 4 (f 1 i) by rw [up2_i _ _ _ _ (show f 1 i ≠ 8 by omega), q1_i.2.1]; omega) (show up2 f 4 8 (f 4 j) 4 (f 1 i) ≤ 12 by rw [up2_i _ _ _ _ (show f 1 i ≠ 8 by omega), q1_i.2.1]; omega) (show up2 f 4 8 (f 4 j) 4 8 ≤ 12 by rw [up2_eq]; omega) (show up2 f 4 8 (f 4 j) 4 (f 1 i) + up2 f 4 8 (f 4 j) 4 8 ≤ 12 + (k0 - k0) by rw [up2_i _ _ _ _ (show f 1 i ≠ 8 by omega), up2_eq]; omega) (fun z hz h => by have h6 := hC.ho12 (show i < 8 by omega) (show f 5 i = 1 by omega) z hz h; rw [up2_i _ _ _ _ (show z ≠ 8 by omega), up2_eq]; omega)) pk_X2_exchangeForSpare qm_X2_83 0 6 rfl rfl wc_0 rfl rfl (Nat.le_of_ble_eq_true rfl) dX2_addAll_74 ⟨Nat.le_of_ble_eq_true rfl, Nat.le_of_ble_eq_true rfl⟩ ⟨Nat.le_of_ble_eq_true rfl, Nat.le_of_ble_eq_true rfl⟩ ?_
      refine r_aload_n C dX2_addAll_77 rfl ?_
      refine r_iload_n C dX2_addAll_78 rfl ?_
      refine r_iconst (v := (nI 4294967295)) C dX2_addAll_79 (by decide) ?_
      refine d_Vv (st := []) hX.stb C hE (C_settle (f := (exL (up2 f 4 8 (f 4 j)) i ((up2 f 4 8 (f 4 j)) 4 8) (k0 - k0) 8)) (r := (exR (up2 f 4 8 (f 4 j)) (cpy2 r (f 0 j) (f 3 j) (f 0 8) (f 3 8) (f 4 j)) i k0 k0 ((up2 f 4 8 (f 4 j)) 4 8))) (kn := kn) (w := i) (d0 := 4294967295) hX (by first | omega | (simp [up2, *]; done) | (simp [up2, *]; omega) | (simp only [up2_eq]; omega) | (split <;> omega)) (by first | omega | (simp [up2, *]; done) | (simp [up2, *]; omega) | (simp only [up2_eq]; omega) | (split <;> omega)) hC.h1 hC.hU hC.hG) pk_X2_settle qm_X2_87 0 6 rfl rfl wc_0 rfl rfl (Nat.le_of_ble_eq_true rfl) dX2_addAll_80 ⟨Nat.le_of_ble_eq_true rfl, Nat.le_of_ble_eq_true rfl⟩ ⟨Nat.le_of_ble_eq_true rfl, Nat.le_of_ble_eq_true rfl⟩ ?_
      refine r_aload_n C dX2_addAll_83 rfl ?_
      refine s_get C 0 (by decide) qf_X2_11 rfl rfl dX2_addAll_84 ?_
      refine r_iload_n C dX2_addAll_87 rfl ?_
      refine s_parts C (by first | omega | (simp [up2, *]; done) | (simp [up2, *]; omega) | (simp only [up2_eq]; omega) | (split <;> omega)) dX2_addAll_88 ?_
      refine p_getN (v := .int (nI ((exL (up2 f 4 8 (f 4 j)) i ((up2 f 4 8 (f 4 j)) 4 8) (k0 - k0) 8) 4 i))) hX C hE 4 (by first | omega | (simp [up2, *]; done) | (simp [up2, *]; omega) | (simp only [up2_eq]; omega) | (split <;> omega)) (by decide) qn_X2_50 rfl rfl dX2_addAll_89 ?_
      exact r_iret C hr dX2_addAll_92 ⟨rfl, rfl⟩ (Nat.le_of_ble_eq_true rfl) (Nat.le_of_ble_eq_true rfl)
    · exact absurd h51_2 (by first | omega | (simp [up2, *]; done) | (simp [up2, *]; omega) | (simp only [up2_eq]; omega) | (split <;> omega))
  · exact absurd h28_1 (by first | omega | (simp [up2, *]; done) | (simp [up2, *]; omega) | (simp only [up2_eq]; omega) | (split <;> omega))
theorem dX2_removeAll_0 : decode cX2_removeAll 0 = .ok (.iload_n 1, 1) := dqo_27 (kb_of ke_X2_removeAll 0 rfl)
theorem dX2_removeAll_1 : decode cX2_removeAll 1 = .ok (.invokestatic 126, 3) := dqo_184 0 126 (kb_of ke_X2_removeAll 1 rfl) (kb_of ke_X2_removeAll 2 rfl) (kb_of ke_X2_removeAll 3 rfl)
set_option maxRecDepth 100000 in
set_option maxHeartbeats 4000000 in
theorem C_removeAll_noR {l : Launch} {D : va_G} {cy : Nat → ClassId} {X : (Nat → Prop) → State → Heap → Prop} {a f : Nat → Nat → Nat} {r : Nat → Nat → Int32} {kn : Int32} {Y : va_W} {x : Int32} {y0 : Int32} (hX : EnvX X) (hl : l.stackTraces = false) (hC : CInv f) (hno : ¬ (0 ≤ x ∧ x < nI 4)) : Ce l D cy X yX2_removeAll cX2_removeAll 3 (some .int) (rmk 8 1 6 170) [.ref (a 0 0), .int x, .int y0] (WC cy a f r kn ++ Y) "java/lang/IndexOutOfBoundsException" := by
  have q3 := hC.sp
  refine Cm.of [some (.ref (a 0 0)), some (.int x), some (.int y0)] pn_X2 rfl (Nat.le_of_ble_eq_true rfl) ?_
  intro p e s m args below meth c A C hE hr hnt hn
  refine r_iload_n C dX2_removeAll_0 rfl ?_
  refine c_S (st := []) hX.stb C hE (C_needRow_no (f := f) (r := r) (kn := kn) (x := (x)) hX hl hno) pk_X2_needRow qm_X2_126 rfl rfl (Nat.le_of_ble_eq_true rfl) dX2_removeAll_1 ⟨Nat.le_of_ble_eq_true rfl, Nat.le_of_ble_eq_true rfl⟩ ⟨Nat.le_of_ble_eq_true rfl, Nat.le_of_ble_eq_true rfl⟩ (fun _ _ h9 => h9.elim) (fun E9 h9 => ?_)
  subst h9
  exact r_out C hnt rfl rfl (Nat.le_of_ble_eq_true rfl) (Nat.le_of_ble_eq_true rfl)
theorem dX2_removeAll_4 : decode cX2_removeAll 4 = .ok (.iload_n 2, 1) := dqo_28 (kb_of ke_X2_removeAll 4 rfl)
theorem dX2_removeAll_5 : decode cX2_removeAll 5 = .ok (.invokestatic 126, 3) := dqo_184 0 126 (kb_of ke_X2_removeAll 5 rfl) (kb_of ke_X2_removeAll 6 rfl) (kb_of ke_X2_removeAll 7 rfl)
set_option maxRecDepth 100000 in
set_option maxHeartbeats 4000000 in
theorem C_removeAll_noR2 {l : Launch} {D : va_G} {cy : Nat → ClassId} {X : (Nat → Prop) → State → Heap → Prop} {a f : Nat → Nat → Nat} {r : Nat → Nat → Int32} {kn : Int32} {Y : va_W} {i : Nat} {x : Int32} (hX : EnvX X) (hl : l.stackTraces = false) (hC : CInv f) (hi4 : i < 4) (hno : ¬ (0 ≤ x ∧ x < nI 4)) : Ce l D cy X yX2_removeAll cX2_removeAll 3 (some .int) (rmk 8 1 6 170) [.ref (a 0 0), .int (nI i), .int x] (WC cy a f r kn ++ Y) "java/lang/IndexOutOfBoundsException" := by
  have q3 := hC.sp
  have q1_i := hC.rw hi4
  have q2_i := hC.al (i := i) (by omega)
  have q6_i : f 4 (f 1 i) = f 4 i := by rw [q1_i.2.1]
  refine Cm.of [some (.ref (a 0 0)), some (.int (nI i)), some (.int x)] pn_X2 rfl (Nat.le_of_ble_eq_true rfl) ?_
  intro p e s m args below meth c A C hE hr hnt hn
  refine r_iload_n C dX2_removeAll_0 rfl ?_
  refine d_Sv (st := []) hX.stb C hE (C_needRow_ok (f := f) (r := r) (kn := kn) (k := i) hX (by first | omega | (simp [up2, *]; done) | (simp [up2, *]; omega) | (simp only [up2_eq]; omega) | (split <;> omega))) pk_X2_needRow qm_X2_126 rfl rfl (Nat.le_of_ble_eq_true rfl) dX2_removeAll_1 ⟨Nat.le_of_ble_eq_true rfl, Nat.le_of_ble_eq_true rfl⟩ ⟨Nat.le_of_ble_eq_true rfl, Nat.le_of_ble_eq_true rfl⟩ ?_
  refine r_iload_n C dX2_removeAll_4 rfl ?_
  refine c_S (st := []) hX.stb C hE (C_needRow_no (f := f) (r := r) (kn := kn) (x := (x)) hX hl hno) pk_X2_needRow qm_X2_126 rfl rfl (Nat.le_of_ble_eq_true rfl) dX2_removeAll_5 ⟨Nat.le_of_ble_eq_true rfl, Nat.le_of_ble_eq_true rfl⟩ ⟨Nat.le_of_ble_eq_true rfl, Nat.le_of_ble_eq_true rfl⟩ (fun _ _ h9 => h9.elim) (fun E9 h9 => ?_)
  subst h9
  exact r_out C hnt rfl rfl (Nat.le_of_ble_eq_true rfl) (Nat.le_of_ble_eq_true rfl)
theorem pk_X2_sift : PkV RX2 yX2_sift cX2_sift 7 (some .int) 3 := ⟨⟨qi_X2_sift, qs_X2_sift, qz_X2, qc_X2_sift⟩, rfl, mh_X2.1, mh_X2.2, pd_13⟩
theorem dX2_removeAll_8 : decode cX2_removeAll 8 = .ok (.aload_n 0, 1) := dqo_42 (kb_of ke_X2_removeAll 8 rfl)
theorem dX2_removeAll_9 : decode cX2_removeAll 9 = .ok (.iload_n 1, 1) := dqo_27 (kb_of ke_X2_removeAll 9 rfl)
theorem dX2_removeAll_10 : decode cX2_removeAll 10 = .ok (.iload_n 2, 1) := dqo_28 (kb_of ke_X2_removeAll 10 rfl)
theorem dX2_removeAll_11 : decode cX2_removeAll 11 = .ok (.iconst 0, 1) := dqo_3 (kb_of ke_X2_removeAll 11 rfl)
theorem dX2_removeAll_12 : decode cX2_removeAll 12 = .ok (.invokevirtual 132, 3) := dqo_182 0 132 (kb_of ke_X2_removeAll 12 rfl) (kb_of ke_X2_removeAll 13 rfl) (kb_of ke_X2_removeAll 14 rfl)
theorem dX2_removeAll_15 : decode cX2_removeAll 15 = .ok (.ireturn, 1) := dqo_172 (kb_of ke_X2_removeAll 15 rfl)
set_option maxRecDepth 100000 in
set_option maxHeartbeats 4000000 in
theorem C_removeAll_ok {l : Launch} {D : va_G} {cy : Nat → ClassId} {X : (Nat → Prop) → State → Heap → Prop} {a f : Nat → Nat → Nat} {r : Nat → Nat → Int32} {kn : Int32} {Y : va_W} {i : Nat} {j : Nat} (hX : EnvX X) (hC : CInv f) (hi4 : i < 4) (hj4 : j < 4) : Cd l D cy X yX2_removeAll cX2_removeAll 3 (some .int) (rmz 6 240) [.ref (a 0 0), .int (nI i), .int (nI j)] (WC cy a f r kn ++ Y) (some (.int (nI (f 4 i - siC (hsP r f j) 0 (fun q => r (f 0 i) (f 3 i + q)) (f 4 i) 0 0)))) (WC cy a (settleF (up2 (up2 f 4 8 (siC (hsP r f j) 0 (fun q => r (f 0 i) (f 3 i + q)) (f 4 i) 0 0)) 4 i (siC (hsP r f j) 0 (fun q => r (f 0 i) (f 3 i + q)) (f 4 i) 0 0)) i 4294967295) (cpy2 (siR (hsP r f j) 0 (fun q => r (f 0 i) (f 3 i + q)) (f 0 8) (f 4 i) 0 0 r) (f 0 8) (f 3 8) (f 0 i) (f 3 i) (siC (hsP r f j) 0 (fun q => r (f 0 i) (f 3 i + q)) (f 4 i) 0 0)) kn ++ Y) := by
  have q3 := hC.sp
  have q1_i := hC.rw hi4
  have q2_i := hC.al (i := i) (by omega)
  have q6_i : f 4 (f 1 i) = f 4 i := by rw [q1_i.2.1]
  have q1_j := hC.rw hj4
  have q2_j := hC.al (i := j) (by omega)
  have q6_j : f 4 (f 1 j) = f 4 j := by rw [q1_j.2.1]
  refine Cm.of [some (.ref (a 0 0)), some (.int (nI i)), some (.int (nI j))] pn_X2 rfl (Nat.le_of_ble_eq_true rfl) ?_
  intro p e s m args below meth c A C hE hr hnt hn
  refine r_iload_n C dX2_removeAll_0 rfl ?_
  refine d_Sv (st := []) hX.stb C hE (C_needRow_ok (f := f) (r := r) (kn := kn) (k := i) hX (by first | omega | (simp [up2, *]; done) | (simp [up2, *]; omega) | (simp only [up2_eq]; omega) | (split <;> omega))) pk_X2_needRow qm_X2_126 rfl rfl (Nat.le_of_ble_eq_true rfl) dX2_removeAll_1 ⟨Nat.le_of_ble_eq_true rfl, Nat.le_of_ble_eq_true rfl⟩ ⟨Nat.le_of_ble_eq_true rfl, Nat.le_of_ble_eq_true rfl⟩ ?_
  refine r_iload_n C dX2_removeAll_4 rfl ?_
  refine d_Sv (st := []) hX.stb C hE (C_needRow_ok (f := f) (r := r) (kn := kn) (k := j) hX (by first | omega | (simp [up2, *]; done) | (simp [up2, *]; omega) | (simp only [up2_eq]; omega) | (split <;> omega))) pk_X2_needRow qm_X2_126 rfl rfl (Nat.le_of_ble_eq_true rfl) dX2_removeAll_5 ⟨Nat.le_of_ble_eq_true rfl, Nat.le_of_ble_eq_true rfl⟩ ⟨Nat.le_of_ble_eq_true rfl, Nat.le_of_ble_eq_true rfl⟩ ?_
  refine r_aload_n C dX2_removeAll_8 rfl ?_
  refine r_iload_n C dX2_removeAll_9 rfl ?_
  refine r_iload_n C dX2_removeAll_10 rfl ?_
  refine r_iconst (v := (nI 0)) C dX2_removeAll_11 (by decide) ?_
  refine d_V (st := []) hX.stb C hE (C_sift (f := f) (r := r) (kn := kn) (i := i) (j := j) (b := 0) hX (by first | omega | (simp [up2, *]; done) | (simp [up2, *]; omega) | (simp only [up2_eq]; omega) | (split <;> omega)) (by first | omega | (simp [up2, *]; done) | (simp [up2, *]; omega) | (simp only [up2_eq]; omega) | (split <;> omega)) (by first | omega | (simp [up2, *]; done) | (simp [up2, *]; omega) | (simp only [up2_eq]; omega) | (split <;> omega)) hC.h1 hC.hG hC.hU hC.hI8 (by first | omega | (simp [up2, *]; done) | (simp [up2, *]; omega) | (simp only [up2_eq]; omega) | (split <;> omega)) (by first | omega | (simp [up2, *]; done) | (simp [up2, *]; omega) | (simp only [up2_eq]; omega) | (split <;> omega)) (by first | omega | (simp [up2, *]; done) | (simp [up2, *]; omega) | (simp only [up2_eq]; omega) | (split <;> omega)) (by first | omega | (simp [up2, *]; done) | (simp [up2, *]; omega) | (simp only [up2_eq]; omega) | (split <;> omega)) (by first | omega | (simp [up2, *]; done) | (simp [up2, *]; omega) | (simp only [up2_eq]; omega) | (split <;> omega)) (by first | omega | (simp [up2, *]; done) | (simp [up2, *]; omega) | (simp only [up2_eq]; omega) | (split <;> omega)) (by first | omega | (simp [up2, *]; done) | (simp [up2, *]; omega) | (simp only [up2_eq]; omega) | (split <;> omega)) (by first | omega | (simp [up2, *]; done) | (simp [up2, *]; omega) | (simp only [up2_eq]; omega) | (split <;> omega)) (by first | omega | (simp [up2, *]; done) | (simp [up2, *]; omega) | (simp only [up2_eq]; omega) | (split <;> omega))) pk_X2_sift qm_X2_132 0 6 rfl rfl wc_0 rfl rfl (Nat.le_of_ble_eq_true rfl) dX2_removeAll_12 ⟨Nat.le_of_ble_eq_true rfl, Nat.le_of_ble_eq_true rfl⟩ ⟨Nat.le_of_ble_eq_true rfl, Nat.le_of_ble_eq_true rfl⟩ ?_
  exact r_iret C hr dX2_removeAll_15 ⟨rfl, rfl⟩ (Nat.le_of_ble_eq_true rfl) (Nat.le_of_ble_eq_true rfl)
theorem dX2_retainAll_0 : decode cX2_retainAll 0 = .ok (.iload_n 1, 1) := dqo_27 (kb_of ke_X2_retainAll 0 rfl)
theorem dX2_retainAll_1 : decode cX2_retainAll 1 = .ok (.invokestatic 126, 3) := dqo_184 0 126 (kb_of ke_X2_retainAll 1 rfl) (kb_of ke_X2_retainAll 2 rfl) (kb_of ke_X2_retainAll 3 rfl)
set_option maxRecDepth 100000 in
set_option maxHeartbeats 4000000 in
theorem C_retainAll_noR {l : Launch} {D : va_G} {cy : Nat → ClassId} {X : (Nat → Prop) → State → Heap → Prop} {a f : Nat → Nat → Nat} {r : Nat → Nat → Int32} {kn : Int32} {Y : va_W} {x : Int32} {y0 : Int32} (hX : EnvX X) (hl : l.stackTraces = false) (hC : CInv f) (hno : ¬ (0 ≤ x ∧ x < nI 4)) : Ce l D cy X yX2_retainAll cX2_retainAll 3 (some .int) (rmk 8 1 6 170) [.ref (a 0 0), .int x, .int y0] (WC cy a f r kn ++ Y) "java/lang/IndexOutOfBoundsException" := by
  have q3 := hC.sp
  refine Cm.of [some (.ref (a 0 0)), some (.int x), some (.int y0)] pn_X2 rfl (Nat.le_of_ble_eq_true rfl) ?_
  intro p e s m args below meth c A C hE hr hnt hn
  refine r_iload_n C dX2_retainAll_0 rfl ?_
  refine c_S (st := []) hX.stb C hE (C_needRow_no (f := f) (r := r) (kn := kn) (x := (x)) hX hl hno) pk_X2_needRow qm_X2_126 rfl rfl (Nat.le_of_ble_eq_true rfl) dX2_retainAll_1 ⟨Nat.le_of_ble_eq_true rfl, Nat.le_of_ble_eq_true rfl⟩ ⟨Nat.le_of_ble_eq_true rfl, Nat.le_of_ble_eq_true rfl⟩ (fun _ _ h9 => h9.elim) (fun E9 h9 => ?_)
  subst h9
  exact r_out C hnt rfl rfl (Nat.le_of_ble_eq_true rfl) (Nat.le_of_ble_eq_true rfl)
theorem dX2_retainAll_4 : decode cX2_retainAll 4 = .ok (.iload_n 2, 1) := dqo_28 (kb_of ke_X2_retainAll 4 rfl)
theorem dX2_retainAll_5 : decode cX2_retainAll 5 = .ok (.invokestatic 126, 3) := dqo_184 0 126 (kb_of ke_X2_retainAll 5 rfl) (kb_of ke_X2_retainAll 6 rfl) (kb_of ke_X2_retainAll 7 rfl)
set_option maxRecDepth 100000 in
set_option maxHeartbeats 4000000 in
theorem C_retainAll_noR2 {l : Launch} {D : va_G} {cy : Nat → ClassId} {X : (Nat → Prop) → State → Heap → Prop} {a f : Nat → Nat → Nat} {r : Nat → Nat → Int32} {kn : Int32} {Y : va_W} {i : Nat} {x : Int32} (hX : EnvX X) (hl : l.stackTraces = false) (hC : CInv f) (hi4 : i < 4) (hno : ¬ (0 ≤ x ∧ x < nI 4)) : Ce l D cy X yX2_retainAll cX2_retainAll 3 (some .int) (rmk 8 1 6 170) [.ref (a 0 0), .int (nI i), .int x] (WC cy a f r kn ++ Y) "java/lang/IndexOutOfBoundsException" := by
  have q3 := hC.sp
  have q1_i := hC.rw hi4
  have q2_i := hC.al (i := i) (by omega)
  have q6_i : f 4 (f 1 i) = f 4 i := by rw [q1_i.2.1]
  refine Cm.of [some (.ref (a 0 0)), some (.int (nI i)), some (.int x)] pn_X2 rfl (Nat.le_of_ble_eq_true rfl) ?_
  intro p e s m args below meth c A C hE hr hnt hn
  refine r_iload_n C dX2_retainAll_0 rfl ?_
  refine d_Sv (st := []) hX.stb C hE (C_needRow_ok (f := f) (r := r) (kn := kn) (k := i) hX (by first | omega | (simp [up2, *]; done) | (simp [up2, *]; omega) | (simp only [up2_eq]; omega) | (split <;> omega))) pk_X2_needRow qm_X2_126 rfl rfl (Nat.le_of_ble_eq_true rfl) dX2_retainAll_1 ⟨Nat.le_of_ble_eq_true rfl, Nat.le_of_ble_eq_true rfl⟩ ⟨Nat.le_of_ble_eq_true rfl, Nat.le_of_ble_eq_true rfl⟩ ?_
  refine r_iload_n C dX2_retainAll_4 rfl ?_
  refine c_S (st := []) hX.stb C hE (C_needRow_no (f := f) (r := r) (kn := kn) (x := (x)) hX hl hno) pk_X2_needRow qm_X2_126 rfl rfl (Nat.le_of_ble_eq_true rfl) dX2_retainAll_5 ⟨Nat.le_of_ble_eq_true rfl, Nat.le_of_ble_eq_true rfl⟩ ⟨Nat.le_of_ble_eq_true rfl, Nat.le_of_ble_eq_true rfl⟩ (fun _ _ h9 => h9.elim) (fun E9 h9 => ?_)
  subst h9
  exact r_out C hnt rfl rfl (Nat.le_of_ble_eq_true rfl) (Nat.le_of_ble_eq_true rfl)
theorem dX2_retainAll_8 : decode cX2_retainAll 8 = .ok (.aload_n 0, 1) := dqo_42 (kb_of ke_X2_retainAll 8 rfl)
theorem dX2_retainAll_9 : decode cX2_retainAll 9 = .ok (.iload_n 1, 1) := dqo_27 (kb_of ke_X2_retainAll 9 rfl)
theorem dX2_retainAll_10 : decode cX2_retainAll 10 = .ok (.iload_n 2, 1) := dqo_28 (kb_of ke_X2_retainAll 10 rfl)
theorem dX2_retainAll_11 : decode cX2_retainAll 11 = .ok (.iconst 1, 1) := dqo_4 (kb_of ke_X2_retainAll 11 rfl)
theorem dX2_retainAll_12 : decode cX2_retainAll 12 = .ok (.invokevirtual 132, 3) := dqo_182 0 132 (kb_of ke_X2_retainAll 12 rfl) (kb_of ke_X2_retainAll 13 rfl) (kb_of ke_X2_retainAll 14 rfl)
theorem dX2_retainAll_15 : decode cX2_retainAll 15 = .ok (.ireturn, 1) := dqo_172 (kb_of ke_X2_retainAll 15 rfl)
set_option maxRecDepth 100000 in
set_option maxHeartbeats 4000000 in
theorem C_retainAll_ok {l : Launch} {D : va_G} {cy : Nat → ClassId} {X : (Nat → Prop) → State → Heap → Prop} {a f : Nat → Nat → Nat} {r : Nat → Nat → Int32} {kn : Int32} {Y : va_W} {i : Nat} {j : Nat} (hX : EnvX X) (hC : CInv f) (hi4 : i < 4) (hj4 : j < 4) : Cd l D cy X yX2_retainAll cX2_retainAll 3 (some .int) (rmz 6 240) [.ref (a 0 0), .int (nI i), .int (nI j)] (WC cy a f r kn ++ Y) (some (.int (nI (f 4 i - siC (hsP r f j) 1 (fun q => r (f 0 i) (f 3 i + q)) (f 4 i) 0 0)))) (WC cy a (settleF (up2 (up2 f 4 8 (siC (hsP r f j) 1 (fun q => r (f 0 i) (f 3 i + q)) (f 4 i) 0 0)) 4 i (siC (hsP r f j) 1 (fun q => r (f 0 i) (f 3 i + q)) (f 4 i) 0 0)) i 4294967295) (cpy2 (siR (hsP r f j) 1 (fun q => r (f 0 i) (f 3 i + q)) (f 0 8) (f 4 i) 0 0 r) (f 0 8) (f 3 8) (f 0 i) (f 3 i) (siC (hsP r f j) 1 (fun q => r (f 0 i) (f 3 i + q)) (f 4 i) 0 0)) kn ++ Y) := by
  have q3 := hC.sp
  have q1_i := hC.rw hi4
  have q2_i := hC.al (i := i) (by omega)
  have q6_i : f 4 (f 1 i) = f 4 i := by rw [q1_i.2.1]
  have q1_j := hC.rw hj4
  have q2_j := hC.al (i := j) (by omega)
  have q6_j : f 4 (f 1 j) = f 4 j := by rw [q1_j.2.1]
  refine Cm.of [some (.ref (a 0 0)), some (.int (nI i)), some (.int (nI j))] pn_X2 rfl (Nat.le_of_ble_eq_true rfl) ?_
  intro p e s m args below meth c A C hE hr hnt hn
  refine r_iload_n C dX2_retainAll_0 rfl ?_
  refine d_Sv (st := []) hX.stb C hE (C_needRow_ok (f := f) (r := r) (kn := kn) (k := i) hX (by first | omega | (simp [up2, *]; done) | (simp [up2, *]; omega) | (simp only [up2_eq]; omega) | (split <;> omega))) pk_X2_needRow qm_X2_126 rfl rfl (Nat.le_of_ble_eq_true rfl) dX2_retainAll_1 ⟨Nat.le_of_ble_eq_true rfl, Nat.le_of_ble_eq_true rfl⟩ ⟨Nat.le_of_ble_eq_true rfl, Nat.le_of_ble_eq_true rfl⟩ ?_
  refine r_iload_n C dX2_retainAll_4 rfl ?_
  refine d_Sv (st := []) hX.stb C hE (C_needRow_ok (f := f) (r := r) (kn := kn) (k := j) hX (by first | omega | (simp [up2, *]; done) | (simp [up2, *]; omega) | (simp only [up2_eq]; omega) | (split <;> omega))) pk_X2_needRow qm_X2_126 rfl rfl (Nat.le_of_ble_eq_true rfl) dX2_retainAll_5 ⟨Nat.le_of_ble_eq_true rfl, Nat.le_of_ble_eq_true rfl⟩ ⟨Nat.le_of_ble_eq_true rfl, Nat.le_of_ble_eq_true rfl⟩ ?_
  refine r_aload_n C dX2_retainAll_8 rfl ?_
  refine r_iload_n C dX2_retainAll_9 rfl ?_
  refine r_iload_n C dX2_retainAll_10 rfl ?_
  refine r_iconst (v := (nI 1)) C dX2_retainAll_11 (by decide) ?_
  refine d_V (st := []) hX.stb C hE (C_sift (f := f) (r := r) (kn := kn) (i := i) (j := j) (b := 1) hX (by first | omega | (simp [up2, *]; done) | (simp [up2, *]; omega) | (simp only [up2_eq]; omega) | (split <;> omega)) (by first | omega | (simp [up2, *]; done) | (simp [up2, *]; omega) | (simp only [up2_eq]; omega) | (split <;> omega)) (by first | omega | (simp [up2, *]; done) | (simp [up2, *]; omega) | (simp only [up2_eq]; omega) | (split <;> omega)) hC.h1 hC.hG hC.hU hC.hI8 (by first | omega | (simp [up2, *]; done) | (simp [up2, *]; omega) | (simp only [up2_eq]; omega) | (split <;> omega)) (by first | omega | (simp [up2, *]; done) | (simp [up2, *]; omega) | (simp only [up2_eq]; omega) | (split <;> omega)) (by first | omega | (simp [up2, *]; done) | (simp [up2, *]; omega) | (simp only [up2_eq]; omega) | (split <;> omega)) (by first | omega | (simp [up2, *]; done) | (simp [up2, *]; omega) | (simp only [up2_eq]; omega) | (split <;> omega)) (by first | omega | (simp [up2, *]; done) | (simp [up2, *]; omega) | (simp only [up2_eq]; omega) | (split <;> omega)) (by first | omega | (simp [up2, *]; done) | (simp [up2, *]; omega) | (simp only [up2_eq]; omega) | (split <;> omega)) (by first | omega | (simp [up2, *]; done) | (simp [up2, *]; omega) | (simp only [up2_eq]; omega) | (split <;> omega)) (by first | omega | (simp [up2, *]; done) | (simp [up2, *]; omega) | (simp only [up2_eq]; omega) | (split <;> omega)) (by first | omega | (simp [up2, *]; done) | (simp [up2, *]; omega) | (simp only [up2_eq]; omega) | (split <;> omega))) pk_X2_sift qm_X2_132 0 6 rfl rfl wc_0 rfl rfl (Nat.le_of_ble_eq_true rfl) dX2_retainAll_12 ⟨Nat.le_of_ble_eq_true rfl, Nat.le_of_ble_eq_true rfl⟩ ⟨Nat.le_of_ble_eq_true rfl, Nat.le_of_ble_eq_true rfl⟩ ?_
  exact r_iret C hr dX2_retainAll_15 ⟨rfl, rfl⟩ (Nat.le_of_ble_eq_true rfl) (Nat.le_of_ble_eq_true rfl)
theorem dX2_copy_0 : decode cX2_copy 0 = .ok (.aload_n 0, 1) := dqo_42 (kb_of ke_X2_copy 0 rfl)
theorem dX2_copy_1 : decode cX2_copy 1 = .ok (.iload_n 1, 1) := dqo_27 (kb_of ke_X2_copy 1 rfl)
theorem dX2_copy_2 : decode cX2_copy 2 = .ok (.invokevirtual 39, 3) := dqo_182 0 39 (kb_of ke_X2_copy 2 rfl) (kb_of ke_X2_copy 3 rfl) (kb_of ke_X2_copy 4 rfl)
set_option maxRecDepth 100000 in
set_option maxHeartbeats 4000000 in
theorem C_copy_noW {l : Launch} {D : va_G} {cy : Nat → ClassId} {X : (Nat → Prop) → State → Heap → Prop} {a f : Nat → Nat → Nat} {r : Nat → Nat → Int32} {kn : Int32} {Y : va_W} {x : Int32} {y0 : Int32} (hX : EnvX X) (hl : l.stackTraces = false) (hC : CInv f) (hno : noW f x) : Ce l D cy X yX2_copy cX2_copy 3 (some .int) (rmk 8 1 6 170) [.ref (a 0 0), .int x, .int y0] (WC cy a f r kn ++ Y) "java/lang/IndexOutOfBoundsException" := by
  have q3 := hC.sp
  refine Cm.of [some (.ref (a 0 0)), some (.int x), some (.int y0)] pn_X2 rfl (Nat.le_of_ble_eq_true rfl) ?_
  intro p e s m args below meth c A C hE hr hnt hn
  refine r_aload_n C dX2_copy_0 rfl ?_
  refine r_iload_n C dX2_copy_1 rfl ?_
  refine c_V (st := []) hX.stb C hE (C_needWhere_no (f := f) (r := r) (kn := kn) (x := (x)) hX hl hno hC.h5) pk_X2_needWhere qm_X2_39 0 6 rfl rfl wc_0 rfl rfl (Nat.le_of_ble_eq_true rfl) dX2_copy_2 ⟨Nat.le_of_ble_eq_true rfl, Nat.le_of_ble_eq_true rfl⟩ ⟨Nat.le_of_ble_eq_true rfl, Nat.le_of_ble_eq_true rfl⟩ (fun _ _ h9 => h9.elim) (fun E9 h9 => ?_)
  subst h9
  exact r_out C hnt rfl rfl (Nat.le_of_ble_eq_true rfl) (Nat.le_of_ble_eq_true rfl)
theorem dX2_copy_5 : decode cX2_copy 5 = .ok (.iload_n 2, 1) := dqo_28 (kb_of ke_X2_copy 5 rfl)
theorem dX2_copy_6 : decode cX2_copy 6 = .ok (.invokestatic 126, 3) := dqo_184 0 126 (kb_of ke_X2_copy 6 rfl) (kb_of ke_X2_copy 7 rfl) (kb_of ke_X2_copy 8 rfl)
set_option maxRecDepth 100000 in
set_option maxHeartbeats 4000000 in
theorem C_copy_noR {l : Launch} {D : va_G} {cy : Nat → ClassId} {X : (Nat → Prop) → State → Heap → Prop} {a f : Nat → Nat → Nat} {r : Nat → Nat → Int32} {kn : Int32} {Y : va_W} {w : Nat} {x : Int32} (hX : EnvX X) (hl : l.stackTraces = false) (hC : CInv f) (hw : w < 8) (h5w : f 5 w = 1) (hno : ¬ (0 ≤ x ∧ x < nI 4)) : Ce l D cy X yX2_copy cX2_copy 3 (some .int) (rmk 8 1 6 170) [.ref (a 0 0), .int (nI w), .int x] (WC cy a f r kn ++ Y) "java/lang/IndexOutOfBoundsException" := by
  have q3 := hC.sp
  have q1_w := hC.al hw
  have q2_w := hC.th hw h5w
  have q4_w := hC.rw (i := f 1 w) q1_w.2.1
  refine Cm.of [some (.ref (a 0 0)), some (.int (nI w)), some (.int x)] pn_X2 rfl (Nat.le_of_ble_eq_true rfl) ?_
  intro p e s m args below meth c A C hE hr hnt hn
  refine r_aload_n C dX2_copy_0 rfl ?_
  refine r_iload_n C dX2_copy_1 rfl ?_
  refine d_Vv (st := []) hX.stb C hE (C_needWhere_ok (f := f) (r := r) (kn := kn) (w := w) hX (by first | omega | (simp [up2, *]; done) | (simp [up2, *]; omega) | (simp only [up2_eq]; omega) | (split <;> omega)) (by first | omega | (simp [up2, *]; done) | (simp [up2, *]; omega) | (simp only [up2_eq]; omega) | (split <;> omega))) pk_X2_needWhere qm_X2_39 0 6 rfl rfl wc_0 rfl rfl (Nat.le_of_ble_eq_true rfl) dX2_copy_2 ⟨Nat.le_of_ble_eq_true rfl, Nat.le_of_ble_eq_true rfl⟩ ⟨Nat.le_of_ble_eq_true rfl, Nat.le_of_ble_eq_true rfl⟩ ?_
  refine r_iload_n C dX2_copy_5 rfl ?_
  refine c_S (st := []) hX.stb C hE (C_needRow_no (f := f) (r := r) (kn := kn) (x := (x)) hX hl hno) pk_X2_needRow qm_X2_126 rfl rfl (Nat.le_of_ble_eq_true rfl) dX2_copy_6 ⟨Nat.le_of_ble_eq_true rfl, Nat.le_of_ble_eq_true rfl⟩ ⟨Nat.le_of_ble_eq_true rfl, Nat.le_of_ble_eq_true rfl⟩ (fun _ _ h9 => h9.elim) (fun E9 h9 => ?_)
  subst h9
  exact r_out C hnt rfl rfl (Nat.le_of_ble_eq_true rfl) (Nat.le_of_ble_eq_true rfl)
theorem dX2_copy_9 : decode cX2_copy 9 = .ok (.aload_n 0, 1) := dqo_42 (kb_of ke_X2_copy 9 rfl)
theorem dX2_copy_10 : decode cX2_copy 10 = .ok (.getfield 29, 3) := dqo_180 0 29 (kb_of ke_X2_copy 10 rfl) (kb_of ke_X2_copy 11 rfl) (kb_of ke_X2_copy 12 rfl)
theorem dX2_copy_13 : decode cX2_copy 13 = .ok (.aload_n 0, 1) := dqo_42 (kb_of ke_X2_copy 13 rfl)
theorem dX2_copy_14 : decode cX2_copy 14 = .ok (.getfield 11, 3) := dqo_180 0 11 (kb_of ke_X2_copy 14 rfl) (kb_of ke_X2_copy 15 rfl) (kb_of ke_X2_copy 16 rfl)
theorem dX2_copy_17 : decode cX2_copy 17 = .ok (.iload_n 1, 1) := dqo_27 (kb_of ke_X2_copy 17 rfl)
theorem dX2_copy_18 : decode cX2_copy 18 = .ok (.aaload, 1) := dqo_50 (kb_of ke_X2_copy 18 rfl)
theorem dX2_copy_19 : decode cX2_copy 19 = .ok (.invokevirtual 79, 3) := dqo_182 0 79 (kb_of ke_X2_copy 19 rfl) (kb_of ke_X2_copy 20 rfl) (kb_of ke_X2_copy 21 rfl)
theorem dX2_copy_22 : decode cX2_copy 22 = .ok (.aload_n 0, 1) := dqo_42 (kb_of ke_X2_copy 22 rfl)
theorem dX2_copy_23 : decode cX2_copy 23 = .ok (.iload_n 2, 1) := dqo_28 (kb_of ke_X2_copy 23 rfl)
theorem dX2_copy_24 : decode cX2_copy 24 = .ok (.invokevirtual 136, 3) := dqo_182 0 136 (kb_of ke_X2_copy 24 rfl) (kb_of ke_X2_copy 25 rfl) (kb_of ke_X2_copy 26 rfl)
theorem dX2_copy_27 : decode cX2_copy 27 = .ok (.ireturn, 1) := dqo_172 (kb_of ke_X2_copy 27 rfl)
set_option maxRecDepth 100000 in
set_option maxHeartbeats 4000000 in
theorem C_copy_ok {l : Launch} {D : va_G} {cy : Nat → ClassId} {X : (Nat → Prop) → State → Heap → Prop} {a f : Nat → Nat → Nat} {r : Nat → Nat → Int32} {kn : Int32} {Y : va_W} {w : Nat} {i : Nat} (hX : EnvX X) (hC : CInv f) (hw : w < 8) (h5w : f 5 w = 1) (hi4 : i < 4) : Cd l D cy X yX2_copy cX2_copy 3 (some .int) (rmz 6 240) [.ref (a 0 0), .int (nI w), .int (nI i)] (WC cy a f r kn ++ Y) (some (.int (nI ((up2 f 4 8 (f 4 w)) 4 8)))) (WC cy a (settleF (up2 (up2 f 4 8 (f 4 w)) 4 i ((up2 f 4 8 (f 4 w)) 4 8)) i 4294967295) (cpy2 (cpy2 r (f 0 w) (f 3 w) (f 0 8) (f 3 8) (f 4 w)) ((up2 f 4 8 (f 4 w)) 0 8) ((up2 f 4 8 (f 4 w)) 3 8) (f 0 i) (f 3 i) ((up2 f 4 8 (f 4 w)) 4 8)) kn ++ Y) := by
  have q3 := hC.sp
  have q1_w := hC.al hw
  have q2_w := hC.th hw h5w
  have q4_w := hC.rw (i := f 1 w) q1_w.2.1
  have q1_i := hC.rw hi4
  have q2_i := hC.al (i := i) (by omega)
  have q6_i : f 4 (f 1 i) = f 4 i := by rw [q1_i.2.1]
  refine Cm.of [some (.ref (a 0 0)), some (.int (nI w)), some (.int (nI i))] pn_X2 rfl (Nat.le_of_ble_eq_true rfl) ?_
  intro p e s m args below meth c A C hE hr hnt hn
  refine r_aload_n C dX2_copy_0 rfl ?_
  refine r_iload_n C dX2_copy_1 rfl ?_
  refine d_Vv (st := []) hX.stb C hE (C_needWhere_ok (f := f) (r := r) (kn := kn) (w := w) hX (by first | omega | (simp [up2, *]; done) | (simp [up2, *]; omega) | (simp only [up2_eq]; omega) | (split <;> omega)) (by first | omega | (simp [up2, *]; done) | (simp [up2, *]; omega) | (simp only [up2_eq]; omega) | (split <;> omega))) pk_X2_needWhere qm_X2_39 0 6 rfl rfl wc_0 rfl rfl (Nat.le_of_ble_eq_true rfl) dX2_copy_2 ⟨Nat.le_of_ble_eq_true rfl, Nat.le_of_ble_eq_true rfl⟩ ⟨Nat.le_of_ble_eq_true rfl, Nat.le_of_ble_eq_true rfl⟩ ?_
  refine r_iload_n C dX2_copy_5 rfl ?_
  refine d_Sv (st := []) hX.stb C hE (C_needRow_ok (f := f) (r := r) (kn := kn) (k := i) hX (by first | omega | (simp [up2, *]; done) | (simp [up2, *]; omega) | (simp only [up2_eq]; omega) | (split <;> omega))) pk_X2_needRow qm_X2_126 rfl rfl (Nat.le_of_ble_eq_true rfl) dX2_copy_6 ⟨Nat.le_of_ble_eq_true rfl, Nat.le_of_ble_eq_true rfl⟩ ⟨Nat.le_of_ble_eq_true rfl, Nat.le_of_ble_eq_true rfl⟩ ?_
  refine r_aload_n C dX2_copy_9 rfl ?_
  refine s_get C 2 (by decide) qf_X2_29 rfl rfl dX2_copy_10 ?_
  refine r_aload_n C dX2_copy_13 rfl ?_
  refine s_get C 0 (by decide) qf_X2_11 rfl rfl dX2_copy_14 ?_
  refine r_iload_n C dX2_copy_17 rfl ?_
  refine s_parts C (by first | omega | (simp [up2, *]; done) | (simp [up2, *]; omega) | (simp only [up2_eq]; omega) | (split <;> omega)) dX2_copy_18 ?_
  refine d_Vv (st := []) hX.stb C hE (C_becomeLike (f := f) (r := r) (kn := kn) (i := 8) (j := w) hX (by first | omega | (simp [up2, *]; done) | (simp [up2, *]; omega) | (simp only [up2_eq]; omega) | (split <;> omega)) (by first | omega | (simp [up2, *]; done) | (simp [up2, *]; omega) | (simp only [up2_eq]; omega) | (split <;> omega)) (by first | omega | (simp [up2, *]; done) | (simp [up2, *]; omega) | (simp only [up2_eq]; omega) | (split <;> omega)) (by first | omega | (simp [up2, *]; done) | (simp [up2, *]; omega) | (simp only [up2_eq]; omega) | (split <;> omega)) (by first | omega | (simp [up2, *]; done) | (simp [up2, *]; omega) | (simp only [up2_eq]; omega) | (split <;> omega)) (by first | omega | (simp [up2, *]; done) | (simp [up2, *]; omega) | (simp only [up2_eq]; omega) | (split <;> omega))) pk_X1_becomeLike qm_X2_79 (3 + 8) 5 rfl rfl (wc_p (by first | omega | (simp [up2, *]; done) | (simp [up2, *]; omega) | (simp only [up2_eq]; omega) | (split <;> omega))) rfl rfl (Nat.le_of_ble_eq_true rfl) dX2_copy_19 ⟨Nat.le_of_ble_eq_true rfl, Nat.le_of_ble_eq_true rfl⟩ ⟨Nat.le_of_ble_eq_true rfl, Nat.le_of_ble_eq_true rfl⟩ ?_
  refine r_aload_n C dX2_copy_22 rfl ?_
  refine r_iload_n C dX2_copy_23 rfl ?_
  refine d_V (st := []) hX.stb C hE (C_becomeSpare (f := (up2 f 4 8 (f 4 w))) (r := (cpy2 r (f 0 w) (f 3 w) (f 0 8) (f 3 8) (f 4 w))) (kn := kn) (i := i) hX (by first | omega | (simp [up2, *]; done) | (simp [up2, *]; omega) | (simp only [up2_eq]; omega) | (split <;> omega)) (by first | omega | (simp [up2, *]; done) | (simp [up2, *]; omega) | (simp only [up2_eq]; omega) | (split <;> omega)) (by first | omega | (simp [up2, *]; done) | (simp [up2, *]; omega) | (simp only [up2_eq]; omega) | (split <;> omega)) hC.h1 hC.hG hC.hU hC.hI8 (by first | omega | (simp [up2, *]; done) | (simp [up2, *]; omega) | (simp only [up2_eq]; omega) | (split <;> omega)) (by rw [up2_eq]; omega)) pk_X2_becomeSpare qm_X2_136 0 6 rfl rfl wc_0 rfl rfl (Nat.le_of_ble_eq_true rfl) dX2_copy_24 ⟨Nat.le_of_ble_eq_true rfl, Nat.le_of_ble_eq_true rfl⟩ ⟨Nat.le_of_ble_eq_true rfl, Nat.le_of_ble_eq_true rfl⟩ ?_
  exact r_iret C hr dX2_copy_27 ⟨rfl, rfl⟩ (Nat.le_of_ble_eq_true rfl) (Nat.le_of_ble_eq_true rfl)
theorem dX2_places_0 : decode cX2_places 0 = .ok (.iload_n 1, 1) := dqo_27 (kb_of ke_X2_places 0 rfl)
theorem dX2_places_1 : decode cX2_places 1 = .ok (.invokestatic 126, 3) := dqo_184 0 126 (kb_of ke_X2_places 1 rfl) (kb_of ke_X2_places 2 rfl) (kb_of ke_X2_places 3 rfl)
set_option maxRecDepth 100000 in
set_option maxHeartbeats 4000000 in
theorem C_places_noR {l : Launch} {D : va_G} {cy : Nat → ClassId} {X : (Nat → Prop) → State → Heap → Prop} {a f : Nat → Nat → Nat} {r : Nat → Nat → Int32} {kn : Int32} {Y : va_W} {x : Int32} {y0 : Int32} (hX : EnvX X) (hl : l.stackTraces = false) (hC : CInv f) (hno : ¬ (0 ≤ x ∧ x < nI 4)) : Ce l D cy X yX2_places cX2_places 4 (some .int) (rmk 8 1 6 170) [.ref (a 0 0), .int x, .int y0] (WC cy a f r kn ++ Y) "java/lang/IndexOutOfBoundsException" := by
  have q3 := hC.sp
  refine Cm.of [some (.ref (a 0 0)), some (.int x), some (.int y0), none] pn_X2 rfl (Nat.le_of_ble_eq_true rfl) ?_
  intro p e s m args below meth c A C hE hr hnt hn
  refine r_iload_n C dX2_places_0 rfl ?_
  refine c_S (st := []) hX.stb C hE (C_needRow_no (f := f) (r := r) (kn := kn) (x := (x)) hX hl hno) pk_X2_needRow qm_X2_126 rfl rfl (Nat.le_of_ble_eq_true rfl) dX2_places_1 ⟨Nat.le_of_ble_eq_true rfl, Nat.le_of_ble_eq_true rfl⟩ ⟨Nat.le_of_ble_eq_true rfl, Nat.le_of_ble_eq_true rfl⟩ (fun _ _ h9 => h9.elim) (fun E9 h9 => ?_)
  subst h9
  exact r_out C hnt rfl rfl (Nat.le_of_ble_eq_true rfl) (Nat.le_of_ble_eq_true rfl)
theorem dX2_places_4 : decode cX2_places 4 = .ok (.iload_n 2, 1) := dqo_28 (kb_of ke_X2_places 4 rfl)
theorem dX2_places_5 : decode cX2_places 5 = .ok (.ifCond .lt 9, 3) := dqo_155 0 9 (by decide) (kb_of ke_X2_places 5 rfl) (kb_of ke_X2_places 6 rfl) (kb_of ke_X2_places 7 rfl)
theorem dX2_places_8 : decode cX2_places 8 = .ok (.iload_n 2, 1) := dqo_28 (kb_of ke_X2_places 8 rfl)
theorem dX2_places_9 : decode cX2_places 9 = .ok (.bipush 12, 2) := dqo_16 12 (by decide) (kb_of ke_X2_places 9 rfl) (kb_of ke_X2_places 10 rfl)
theorem dX2_places_11 : decode cX2_places 11 = .ok (.if_icmp .le 13, 3) := dqo_164 0 13 (by decide) (kb_of ke_X2_places 11 rfl) (kb_of ke_X2_places 12 rfl) (kb_of ke_X2_places 13 rfl)
theorem dX2_places_14 : decode cX2_places 14 = .ok (.new 90, 3) := dqo_187 0 90 (kb_of ke_X2_places 14 rfl) (kb_of ke_X2_places 15 rfl) (kb_of ke_X2_places 16 rfl)
theorem dX2_places_17 : decode cX2_places 17 = .ok (.dup, 1) := dqo_89 (kb_of ke_X2_places 17 rfl)
theorem dX2_places_18 : decode cX2_places 18 = .ok (.ldc 139, 2) := dqo_18 139 (kb_of ke_X2_places 18 rfl) (kb_of ke_X2_places 19 rfl)
theorem dX2_places_20 : decode cX2_places 20 = .ok (.invokespecial 94, 3) := dqo_183 0 94 (kb_of ke_X2_places 20 rfl) (kb_of ke_X2_places 21 rfl) (kb_of ke_X2_places 22 rfl)
theorem dX2_places_23 : decode cX2_places 23 = .ok (.athrow, 1) := dqo_191 (kb_of ke_X2_places 23 rfl)
set_option maxRecDepth 100000 in
set_option maxHeartbeats 4000000 in
theorem C_places_noM {l : Launch} {D : va_G} {cy : Nat → ClassId} {X : (Nat → Prop) → State → Heap → Prop} {a f : Nat → Nat → Nat} {r : Nat → Nat → Int32} {kn : Int32} {Y : va_W} {i : Nat} {y : Int32} (hX : EnvX X) (hl : l.stackTraces = false) (hC : CInv f) (hi4 : i < 4) (hno : ¬ (0 ≤ y ∧ y ≤ nI 12)) : Ce l D cy X yX2_places cX2_places 4 (some .int) (rmk 8 1 6 170) [.ref (a 0 0), .int (nI i), .int y] (WC cy a f r kn ++ Y) "java/lang/IllegalArgumentException" := by
  have q3 := hC.sp
  have q1_i := hC.rw hi4
  have q2_i := hC.al (i := i) (by omega)
  have q6_i : f 4 (f 1 i) = f 4 i := by rw [q1_i.2.1]
  refine Cm.of [some (.ref (a 0 0)), some (.int (nI i)), some (.int y), none] pn_X2 rfl (Nat.le_of_ble_eq_true rfl) ?_
  intro p e s m args below meth c A C hE hr hnt hn
  refine r_iload_n C dX2_places_0 rfl ?_
  refine d_Sv (st := []) hX.stb C hE (C_needRow_ok (f := f) (r := r) (kn := kn) (k := i) hX (by first | omega | (simp [up2, *]; done) | (simp [up2, *]; omega) | (simp only [up2_eq]; omega) | (split <;> omega))) pk_X2_needRow qm_X2_126 rfl rfl (Nat.le_of_ble_eq_true rfl) dX2_places_1 ⟨Nat.le_of_ble_eq_true rfl, Nat.le_of_ble_eq_true rfl⟩ ⟨Nat.le_of_ble_eq_true rfl, Nat.le_of_ble_eq_true rfl⟩ ?_
  refine r_iload_n C dX2_places_4 rfl ?_
  refine r_if_lt (tgt := 14) C dX2_places_5 (by decide) (fun h5_1 => ?_) (fun h5_1 => ?_)
  · first
    | exfalso; first | omega | contradiction
    | skip
      exact r_throw (cls := "java/lang/IllegalArgumentException") (text := "a row has 0 to 12 items") (names := ["java/lang/RuntimeException", "java/lang/Exception"]) hX hl C hE hnt thr_X2_90_94 (by decide +kernel) (by decide +kernel) (by decide +kernel) dX2_places_14 dX2_places_17 dX2_places_18 dX2_places_20 dX2_places_23 (by decide) (Nat.le_of_ble_eq_true rfl) (Nat.le_of_ble_eq_true rfl) (Nat.le_of_ble_eq_true rfl) rfl rfl (Nat.le_of_ble_eq_true rfl) (Nat.le_of_ble_eq_true rfl)
  · first
    | exfalso; first | omega | contradiction
    | skip
      refine r_iload_n C dX2_places_8 rfl ?_
      refine r_bipush (v := (nI 12)) C dX2_places_9 (by decide) ?_
      refine r_ic_le (tgt := 24) C dX2_places_11 (by decide) (fun h11_2 => ?_) (fun h11_2 => ?_)
      · exact absurd ⟨by first | assumption | exact Int32.not_lt.mp (by assumption), h11_2⟩ hno
      · skip
        exact r_throw (cls := "java/lang/IllegalArgumentException") (text := "a row has 0 to 12 items") (names := ["java/lang/RuntimeException", "java/lang/Exception"]) hX hl C hE hnt thr_X2_90_94 (by decide +kernel) (by decide +kernel) (by decide +kernel) dX2_places_14 dX2_places_17 dX2_places_18 dX2_places_20 dX2_places_23 (by decide) (Nat.le_of_ble_eq_true rfl) (Nat.le_of_ble_eq_true rfl) (Nat.le_of_ble_eq_true rfl) rfl rfl (Nat.le_of_ble_eq_true rfl) (Nat.le_of_ble_eq_true rfl)
theorem dX2_places_24 : decode cX2_places 24 = .ok (.aload_n 0, 1) := dqo_42 (kb_of ke_X2_places 24 rfl)
theorem dX2_places_25 : decode cX2_places 25 = .ok (.getfield 29, 3) := dqo_180 0 29 (kb_of ke_X2_places 25 rfl) (kb_of ke_X2_places 26 rfl) (kb_of ke_X2_places 27 rfl)
theorem dX2_places_28 : decode cX2_places 28 = .ok (.iconst 0, 1) := dqo_3 (kb_of ke_X2_places 28 rfl)
theorem dX2_places_29 : decode cX2_places 29 = .ok (.putfield 50, 3) := dqo_181 0 50 (kb_of ke_X2_places 29 rfl) (kb_of ke_X2_places 30 rfl) (kb_of ke_X2_places 31 rfl)
theorem dX2_places_32 : decode cX2_places 32 = .ok (.iconst 0, 1) := dqo_3 (kb_of ke_X2_places 32 rfl)
theorem dX2_places_33 : decode cX2_places 33 = .ok (.istore_n 3, 1) := dqo_62 (kb_of ke_X2_places 33 rfl)
theorem dX2_places_34 : decode cX2_places 34 = .ok (.iload_n 3, 1) := dqo_29 (kb_of ke_X2_places 34 rfl)
theorem dX2_places_35 : decode cX2_places 35 = .ok (.iload_n 2, 1) := dqo_28 (kb_of ke_X2_places 35 rfl)
theorem dX2_places_36 : decode cX2_places 36 = .ok (.if_icmp .ge 17, 3) := dqo_162 0 17 (by decide) (kb_of ke_X2_places 36 rfl) (kb_of ke_X2_places 37 rfl) (kb_of ke_X2_places 38 rfl)
theorem dX2_places_39 : decode cX2_places 39 = .ok (.aload_n 0, 1) := dqo_42 (kb_of ke_X2_places 39 rfl)
theorem dX2_places_40 : decode cX2_places 40 = .ok (.getfield 29, 3) := dqo_180 0 29 (kb_of ke_X2_places 40 rfl) (kb_of ke_X2_places 41 rfl) (kb_of ke_X2_places 42 rfl)
theorem dX2_places_43 : decode cX2_places 43 = .ok (.iload_n 3, 1) := dqo_29 (kb_of ke_X2_places 43 rfl)
theorem dX2_places_44 : decode cX2_places 44 = .ok (.invokevirtual 141, 3) := dqo_182 0 141 (kb_of ke_X2_places 44 rfl) (kb_of ke_X2_places 45 rfl) (kb_of ke_X2_places 46 rfl)
theorem dX2_places_47 : decode cX2_places 47 = .ok (.iinc 3 1, 3) := dqo_132 3 1 (by decide) (kb_of ke_X2_places 47 rfl) (kb_of ke_X2_places 48 rfl) (kb_of ke_X2_places 49 rfl)
theorem dX2_places_50 : decode cX2_places 50 = .ok (.goto (-16), 3) := dqo_167 255 240 (by decide) (kb_of ke_X2_places 50 rfl) (kb_of ke_X2_places 51 rfl) (kb_of ke_X2_places 52 rfl)
theorem dX2_places_53 : decode cX2_places 53 = .ok (.aload_n 0, 1) := dqo_42 (kb_of ke_X2_places 53 rfl)
theorem dX2_places_54 : decode cX2_places 54 = .ok (.iload_n 1, 1) := dqo_27 (kb_of ke_X2_places 54 rfl)
theorem dX2_places_55 : decode cX2_places 55 = .ok (.invokevirtual 136, 3) := dqo_182 0 136 (kb_of ke_X2_places 55 rfl) (kb_of ke_X2_places 56 rfl) (kb_of ke_X2_places 57 rfl)
theorem dX2_places_58 : decode cX2_places 58 = .ok (.ireturn, 1) := dqo_172 (kb_of ke_X2_places 58 rfl)
set_option maxRecDepth 100000 in
set_option maxHeartbeats 4000000 in
theorem C_places_ok {l : Launch} {D : va_G} {cy : Nat → ClassId} {X : (Nat → Prop) → State → Heap → Prop} {a f : Nat → Nat → Nat} {r : Nat → Nat → Int32} {kn : Int32} {Y : va_W} {i : Nat} {k0 : Nat} (hX : EnvX X) (hC : CInv f) (hi4 : i < 4) (hk : k0 ≤ 12) : Cd l D cy X yX2_places cX2_places 4 (some .int) (rmz 6 240) [.ref (a 0 0), .int (nI i), .int (nI k0)] (WC cy a f r kn ++ Y) (some (.int (nI k0))) (WC cy a (settleF (up2 (up2 f 4 8 k0) 4 i k0) i 4294967295) (cpy2 (plR r (f 0 8) k0) (f 0 8) (f 3 8) (f 0 i) (f 3 i) k0) kn ++ Y) := by
  have q3 := hC.sp
  have q1_i := hC.rw hi4
  have q2_i := hC.al (i := i) (by omega)
  have q6_i : f 4 (f 1 i) = f 4 i := by rw [q1_i.2.1]
  refine Cm.of [some (.ref (a 0 0)), some (.int (nI i)), some (.int (nI k0)), none] pn_X2 rfl (Nat.le_of_ble_eq_true rfl) ?_
  intro p e s m args below meth c A C hE hr hnt hn
  refine r_iload_n C dX2_places_0 rfl ?_
  refine d_Sv (st := []) hX.stb C hE (C_needRow_ok (f := f) (r := r) (kn := kn) (k := i) hX (by first | omega | (simp [up2, *]; done) | (simp [up2, *]; omega) | (simp only [up2_eq]; omega) | (split <;> omega))) pk_X2_needRow qm_X2_126 rfl rfl (Nat.le_of_ble_eq_true rfl) dX2_places_1 ⟨Nat.le_of_ble_eq_true rfl, Nat.le_of_ble_eq_true rfl⟩ ⟨Nat.le_of_ble_eq_true rfl, Nat.le_of_ble_eq_true rfl⟩ ?_
  refine r_iload_n C dX2_places_4 rfl ?_
  refine r_ifN_lt (a := k0) (tgt := 14) C (by first | omega | (simp [up2, *]; done) | (simp [up2, *]; omega) | (simp only [up2_eq]; omega) | (split <;> omega)) dX2_places_5 (by decide) (fun h5_1 => ?_) (fun h5_1 => ?_)
  · exact h5_1.elim
  · skip
    refine r_iload_n C dX2_places_8 rfl ?_
    refine r_bipush (v := (nI 12)) C dX2_places_9 (by decide) ?_
    refine r_icN_le (a := k0) (b := 12) (tgt := 24) C (by first | omega | (simp [up2, *]; done) | (simp [up2, *]; omega) | (simp only [up2_eq]; omega) | (split <;> omega)) (by first | omega | (simp [up2, *]; done) | (simp [up2, *]; omega) | (simp only [up2_eq]; omega) | (split <;> omega)) dX2_places_11 (by decide) (fun h11_2 => ?_) (fun h11_2 => ?_)
    · skip
      refine r_aload_n C dX2_places_24 rfl ?_
      refine s_get C 2 (by decide) qf_X2_29 rfl rfl dX2_places_25 ?_
      refine r_iconst (v := (nI 0)) C dX2_places_28 (by decide) ?_
      refine p_putN hX C hE 4 (by first | omega | (simp [up2, *]; done) | (simp [up2, *]; omega) | (simp only [up2_eq]; omega) | (split <;> omega)) (by decide) (by decide) qn_X2_50 rfl rfl rfl dX2_places_29 ?_
      refine r_iconst (v := (nI 0)) C dX2_places_32 (by decide) ?_
      refine r_istore_n C dX2_places_33 (by decide) rfl ?_
      refine r_w (congrArg (fun z => WC cy a (up2 f 4 8 0) z kn ++ Y) (plR_0 r (f 0 8)).symm) ?_
      have L34 : ∀ (d : Nat) (t : Nat), (ht : t + d = k0) → vC p l e (rmz 6 240) s m args below meth c D A (vx_MQ below (vG (fun v1 w1 => v1 = (some (.int (nI k0))) ∧ w1 = WC cy a (settleF (up2 (up2 f 4 8 k0) 4 i k0) i 4294967295) (cpy2 (plR r (f 0 8) k0) (f 0 8) (f 3 8) (f 0 i) (f 3 i) k0) kn ++ Y) D vwCl A) (vGX (fun _ => False) D vwCl (WC cy a f r kn ++ Y) A) args s (rmz 6 240).cells (rmz 6 240).slots A) 4 0 0 (WC cy a (up2 f 4 8 t) (plR r (f 0 8) t) kn ++ Y) [some (.ref (a 0 0)), some (.int (nI i)), some (.int (nI k0)), some (.int (nI t))] 34 [] := by
        intro d
        induction d with
        | zero =>
          intro t ht
          refine r_iload_n C dX2_places_34 rfl ?_
          refine r_iload_n C dX2_places_35 rfl ?_
          refine r_icN_ge (a := t) (b := k0) (tgt := 53) C (by first | omega | (simp [up2, *]; done) | (simp [up2, *]; omega) | (simp only [up2_eq]; omega) | (split <;> omega)) (by first | omega | (simp [up2, *]; done) | (simp [up2, *]; omega) | (simp only [up2_eq]; omega) | (split <;> omega)) dX2_places_36 (by decide) (fun h36_3 => ?_) (fun h36_3 => ?_)
          · first
            | exfalso; first | omega | contradiction
            | skip
              have e8 : t = k0 := by omega
              subst e8
              refine r_aload_n C dX2_places_53 rfl ?_
              refine r_iload_n C dX2_places_54 rfl ?_
              refine d_V (st := []) hX.stb C hE (C_becomeSpare (f := (up2 f 4 8 t)) (r := (plR r (f 0 8) t)) (kn := kn) (i := i) hX (by first | omega | (simp [up2, *]; done) | (simp [up2, *]; omega) | (simp only [up2_eq]; omega) | (split <;> omega)) (by first | omega | (simp [up2, *]; done) | (simp [up2, *]; omega) | (simp only [up2_eq]; omega) | (split <;> omega)) (by first | omega | (simp [up2, *]; done) | (simp [up2, *]; omega) | (simp only [up2_eq]; omega) | (split <;> omega)) hC.h1 hC.hG hC.hU hC.hI8 (by first | omega | (simp [up2, *]; done) | (simp [up2, *]; omega) | (simp only [up2_eq]; omega) | (split <;> omega)) (by rw [up2_eq]; omega)) pk_X2_becomeSpare qm_X2_136 0 6 rfl rfl wc_0 rfl rfl (Nat.le_of_ble_eq_true rfl) dX2_places_55 ⟨Nat.le_of_ble_eq_true rfl, Nat.le_of_ble_eq_true rfl⟩ ⟨Nat.le_of_ble_eq_true rfl, Nat.le_of_ble_eq_true rfl⟩ ?_
              exact r_iret C hr dX2_places_58 ⟨rfl, rfl⟩ (Nat.le_of_ble_eq_true rfl) (Nat.le_of_ble_eq_true rfl)
          · first
            | exfalso; first | omega | contradiction
            | skip
              refine r_aload_n C dX2_places_39 rfl ?_
              refine s_get C 2 (by decide) qf_X2_29 rfl rfl dX2_places_40 ?_
              refine r_iload_n C dX2_places_43 rfl ?_
              refine d_Vv (st := []) hX.stb C hE (C_append (f := (up2 f 4 8 t)) (r := (plR r (f 0 8) t)) (kn := kn) (i := 8) (x := ((nI t))) hX (by first | omega | (simp [up2, *]; done) | (simp [up2, *]; omega) | (simp only [up2_eq]; omega) | (split <;> omega)) (by first | omega | (simp [up2, *]; done) | (simp [up2, *]; omega) | (simp only [up2_eq]; omega) | (split <;> omega)) (by first | omega | (simp [up2, *]; done) | (simp [up2, *]; omega) | (simp only [up2_eq]; omega) | (split <;> omega))) pk_X1_append qm_X2_141 (3 + 8) 5 rfl rfl (wc_p (by first | omega | (simp [up2, *]; done) | (simp [up2, *]; omega) | (simp only [up2_eq]; omega) | (split <;> omega))) rfl rfl (Nat.le_of_ble_eq_true rfl) dX2_places_44 ⟨Nat.le_of_ble_eq_true rfl, Nat.le_of_ble_eq_true rfl⟩ ⟨Nat.le_of_ble_eq_true rfl, Nat.le_of_ble_eq_true rfl⟩ ?_
              refine r_iincN C dX2_places_47 rfl (by decide) rfl ?_
              refine r_goto (tgt := 34) C dX2_places_50 (by decide) ?_
              refine r_w (congrArg (fun z => WC cy a z (up2 (plR r (f 0 8) t) (f 0 8) (t) ((nI t))) kn ++ Y) (up2_up2 f 4 8 t (t + 1))) ?_
              refine r_w (congrArg (fun z => WC cy a (up2 f 4 8 (t + 1)) z kn ++ Y) plR_step) ?_
              exact (Nat.not_lt_zero _ (by omega)).elim
        | succ d ih_L34 =>
          intro t ht
          refine r_iload_n C dX2_places_34 rfl ?_
          refine r_iload_n C dX2_places_35 rfl ?_
          refine r_icN_ge (a := t) (b := k0) (tgt := 53) C (by first | omega | (simp [up2, *]; done) | (simp [up2, *]; omega) | (simp only [up2_eq]; omega) | (split <;> omega)) (by first | omega | (simp [up2, *]; done) | (simp [up2, *]; omega) | (simp only [up2_eq]; omega) | (split <;> omega)) dX2_places_36 (by decide) (fun h36_4 => ?_) (fun h36_4 => ?_)
          · first
            | exfalso; first | omega | contradiction
            | skip
              have e8 : t = k0 := by omega
              subst e8
              refine r_aload_n C dX2_places_53 rfl ?_
              refine r_iload_n C dX2_places_54 rfl ?_
              refine d_V (st := []) hX.stb C hE (C_becomeSpare (f := (up2 f 4 8 t)) (r := (plR r (f 0 8) t)) (kn := kn) (i := i) hX (by first | omega | (simp [up2, *]; done) | (simp [up2, *]; omega) | (simp only [up2_eq]; omega) | (split <;> omega)) (by first | omega | (simp [up2, *]; done) | (simp [up2, *]; omega) | (simp only [up2_eq]; omega) | (split <;> omega)) (by first | omega | (simp [up2, *]; done) | (simp [up2, *]; omega) | (simp only [up2_eq]; omega) | (split <;> omega)) hC.h1 hC.hG hC.hU hC.hI8 (by first | omega | (simp [up2, *]; done) | (simp [up2, *]; omega) | (simp only [up2_eq]; omega) | (split <;> omega)) (by rw [up2_eq]; omega)) pk_X2_becomeSpare qm_X2_136 0 6 rfl rfl wc_0 rfl rfl (Nat.le_of_ble_eq_true rfl) dX2_places_55 ⟨Nat.le_of_ble_eq_true rfl, Nat.le_of_ble_eq_true rfl⟩ ⟨Nat.le_of_ble_eq_true rfl, Nat.le_of_ble_eq_true rfl⟩ ?_
              exact r_iret C hr dX2_places_58 ⟨rfl, rfl⟩ (Nat.le_of_ble_eq_true rfl) (Nat.le_of_ble_eq_true rfl)
          · first
            | exfalso; first | omega | contradiction
            | skip
              refine r_aload_n C dX2_places_39 rfl ?_
              refine s_get C 2 (by decide) qf_X2_29 rfl rfl dX2_places_40 ?_
              refine r_iload_n C dX2_places_43 rfl ?_
              refine d_Vv (st := []) hX.stb C hE (C_append (f := (up2 f 4 8 t)) (r := (plR r (f 0 8) t)) (kn := kn) (i := 8) (x := ((nI t))) hX (by first | omega | (simp [up2, *]; done) | (simp [up2, *]; omega) | (simp only [up2_eq]; omega) | (split <;> omega)) (by first | omega | (simp [up2, *]; done) | (simp [up2, *]; omega) | (simp only [up2_eq]; omega) | (split <;> omega)) (by first | omega | (simp [up2, *]; done) | (simp [up2, *]; omega) | (simp only [up2_eq]; omega) | (split <;> omega))) pk_X1_append qm_X2_141 (3 + 8) 5 rfl rfl (wc_p (by first | omega | (simp [up2, *]; done) | (simp [up2, *]; omega) | (simp only [up2_eq]; omega) | (split <;> omega))) rfl rfl (Nat.le_of_ble_eq_true rfl) dX2_places_44 ⟨Nat.le_of_ble_eq_true rfl, Nat.le_of_ble_eq_true rfl⟩ ⟨Nat.le_of_ble_eq_true rfl, Nat.le_of_ble_eq_true rfl⟩ ?_
              refine r_iincN C dX2_places_47 rfl (by decide) rfl ?_
              refine r_goto (tgt := 34) C dX2_places_50 (by decide) ?_
              refine r_w (congrArg (fun z => WC cy a z (up2 (plR r (f 0 8) t) (f 0 8) (t) ((nI t))) kn ++ Y) (up2_up2 f 4 8 t (t + 1))) ?_
              refine r_w (congrArg (fun z => WC cy a (up2 f 4 8 (t + 1)) z kn ++ Y) plR_step) ?_
              exact ih_L34 (t + 1) (by omega)
      exact L34 k0 0 (by omega)
    · exact absurd h11_2 (by first | omega | (simp [up2, *]; done) | (simp [up2, *]; omega) | (simp only [up2_eq]; omega) | (split <;> omega))
theorem dX2_indexOf_0 : decode cX2_indexOf 0 = .ok (.iload_n 1, 1) := dqo_27 (kb_of ke_X2_indexOf 0 rfl)
theorem dX2_indexOf_1 : decode cX2_indexOf 1 = .ok (.invokestatic 126, 3) := dqo_184 0 126 (kb_of ke_X2_indexOf 1 rfl) (kb_of ke_X2_indexOf 2 rfl) (kb_of ke_X2_indexOf 3 rfl)
set_option maxRecDepth 100000 in
set_option maxHeartbeats 4000000 in
theorem C_indexOf_noR {l : Launch} {D : va_G} {cy : Nat → ClassId} {X : (Nat → Prop) → State → Heap → Prop} {a f : Nat → Nat → Nat} {r : Nat → Nat → Int32} {kn : Int32} {Y : va_W} {x : Int32} {y0 : Int32} (hX : EnvX X) (hl : l.stackTraces = false) (hC : CInv f) (hno : ¬ (0 ≤ x ∧ x < nI 4)) : Ce l D cy X yX2_indexOf cX2_indexOf 3 (some .int) (rmk 8 1 6 170) [.ref (a 0 0), .int x, .int y0] (WC cy a f r kn ++ Y) "java/lang/IndexOutOfBoundsException" := by
  have q3 := hC.sp
  refine Cm.of [some (.ref (a 0 0)), some (.int x), some (.int y0)] pn_X2 rfl (Nat.le_of_ble_eq_true rfl) ?_
  intro p e s m args below meth c A C hE hr hnt hn
  refine r_iload_n C dX2_indexOf_0 rfl ?_
  refine c_S (st := []) hX.stb C hE (C_needRow_no (f := f) (r := r) (kn := kn) (x := (x)) hX hl hno) pk_X2_needRow qm_X2_126 rfl rfl (Nat.le_of_ble_eq_true rfl) dX2_indexOf_1 ⟨Nat.le_of_ble_eq_true rfl, Nat.le_of_ble_eq_true rfl⟩ ⟨Nat.le_of_ble_eq_true rfl, Nat.le_of_ble_eq_true rfl⟩ (fun _ _ h9 => h9.elim) (fun E9 h9 => ?_)
  subst h9
  exact r_out C hnt rfl rfl (Nat.le_of_ble_eq_true rfl) (Nat.le_of_ble_eq_true rfl)
theorem dX2_indexOf_4 : decode cX2_indexOf 4 = .ok (.aload_n 0, 1) := dqo_42 (kb_of ke_X2_indexOf 4 rfl)
theorem dX2_indexOf_5 : decode cX2_indexOf 5 = .ok (.getfield 11, 3) := dqo_180 0 11 (kb_of ke_X2_indexOf 5 rfl) (kb_of ke_X2_indexOf 6 rfl) (kb_of ke_X2_indexOf 7 rfl)
theorem dX2_indexOf_8 : decode cX2_indexOf 8 = .ok (.iload_n 1, 1) := dqo_27 (kb_of ke_X2_indexOf 8 rfl)
theorem dX2_indexOf_9 : decode cX2_indexOf 9 = .ok (.aaload, 1) := dqo_50 (kb_of ke_X2_indexOf 9 rfl)
theorem dX2_indexOf_10 : decode cX2_indexOf 10 = .ok (.iload_n 2, 1) := dqo_28 (kb_of ke_X2_indexOf 10 rfl)
theorem dX2_indexOf_11 : decode cX2_indexOf 11 = .ok (.invokevirtual 129, 3) := dqo_182 0 129 (kb_of ke_X2_indexOf 11 rfl) (kb_of ke_X2_indexOf 12 rfl) (kb_of ke_X2_indexOf 13 rfl)
theorem dX2_indexOf_14 : decode cX2_indexOf 14 = .ok (.ireturn, 1) := dqo_172 (kb_of ke_X2_indexOf 14 rfl)
set_option maxRecDepth 100000 in
set_option maxHeartbeats 4000000 in
theorem C_indexOf_ok {l : Launch} {D : va_G} {cy : Nat → ClassId} {X : (Nat → Prop) → State → Heap → Prop} {a f : Nat → Nat → Nat} {r : Nat → Nat → Int32} {kn : Int32} {Y : va_W} {i : Nat} {y : Int32} (hX : EnvX X) (hC : CInv f) (hi4 : i < 4) : Cd l D cy X yX2_indexOf cX2_indexOf 3 (some .int) (rmz 6 240) [.ref (a 0 0), .int (nI i), .int y] (WC cy a f r kn ++ Y) (some (.int (nI (fpF (fun q => r (f 0 i) (f 3 i + q)) (y) (f 4 i) 0)))) (WC cy a f r kn ++ Y) := by
  have q3 := hC.sp
  have q1_i := hC.rw hi4
  have q2_i := hC.al (i := i) (by omega)
  have q6_i : f 4 (f 1 i) = f 4 i := by rw [q1_i.2.1]
  refine Cm.of [some (.ref (a 0 0)), some (.int (nI i)), some (.int y)] pn_X2 rfl (Nat.le_of_ble_eq_true rfl) ?_
  intro p e s m args below meth c A C hE hr hnt hn
  refine r_iload_n C dX2_indexOf_0 rfl ?_
  refine d_Sv (st := []) hX.stb C hE (C_needRow_ok (f := f) (r := r) (kn := kn) (k := i) hX (by first | omega | (simp [up2, *]; done) | (simp [up2, *]; omega) | (simp only [up2_eq]; omega) | (split <;> omega))) pk_X2_needRow qm_X2_126 rfl rfl (Nat.le_of_ble_eq_true rfl) dX2_indexOf_1 ⟨Nat.le_of_ble_eq_true rfl, Nat.le_of_ble_eq_true rfl⟩ ⟨Nat.le_of_ble_eq_true rfl, Nat.le_of_ble_eq_true rfl⟩ ?_
  refine r_aload_n C dX2_indexOf_4 rfl ?_
  refine s_get C 0 (by decide) qf_X2_11 rfl rfl dX2_indexOf_5 ?_
  refine r_iload_n C dX2_indexOf_8 rfl ?_
  refine s_parts C (by first | omega | (simp [up2, *]; done) | (simp [up2, *]; omega) | (simp only [up2_eq]; omega) | (split <;> omega)) dX2_indexOf_9 ?_
  refine r_iload_n C dX2_indexOf_10 rfl ?_
  refine d_V (st := []) hX.stb C hE (C_firstPlaceOf (f := f) (r := r) (kn := kn) (i := i) (x := (y)) hX (by first | omega | (simp [up2, *]; done) | (simp [up2, *]; omega) | (simp only [up2_eq]; omega) | (split <;> omega)) (by first | omega | (simp [up2, *]; done) | (simp [up2, *]; omega) | (simp only [up2_eq]; omega) | (split <;> omega)) (by first | omega | (simp [up2, *]; done) | (simp [up2, *]; omega) | (simp only [up2_eq]; omega) | (split <;> omega))) pk_X1_firstPlaceOf qm_X2_129 (3 + i) 5 rfl rfl (wc_p (by first | omega | (simp [up2, *]; done) | (simp [up2, *]; omega) | (simp only [up2_eq]; omega) | (split <;> omega))) rfl rfl (Nat.le_of_ble_eq_true rfl) dX2_indexOf_11 ⟨Nat.le_of_ble_eq_true rfl, Nat.le_of_ble_eq_true rfl⟩ ⟨Nat.le_of_ble_eq_true rfl, Nat.le_of_ble_eq_true rfl⟩ ?_
  exact r_iret C hr dX2_indexOf_14 ⟨rfl, rfl⟩ (Nat.le_of_ble_eq_true rfl) (Nat.le_of_ble_eq_true rfl)
theorem dX2_contains_0 : decode cX2_contains 0 = .ok (.iload_n 1, 1) := dqo_27 (kb_of ke_X2_contains 0 rfl)
theorem dX2_contains_1 : decode cX2_contains 1 = .ok (.invokestatic 126, 3) := dqo_184 0 126 (kb_of ke_X2_contains 1 rfl) (kb_of ke_X2_contains 2 rfl) (kb_of ke_X2_contains 3 rfl)
set_option maxRecDepth 100000 in
set_option maxHeartbeats 4000000 in
theorem C_contains_noR {l : Launch} {D : va_G} {cy : Nat → ClassId} {X : (Nat → Prop) → State → Heap → Prop} {a f : Nat → Nat → Nat} {r : Nat → Nat → Int32} {kn : Int32} {Y : va_W} {x : Int32} {y0 : Int32} (hX : EnvX X) (hl : l.stackTraces = false) (hC : CInv f) (hno : ¬ (0 ≤ x ∧ x < nI 4)) : Ce l D cy X yX2_contains cX2_contains 3 (some .boolean) (rmk 8 1 6 170) [.ref (a 0 0), .int x, .int y0] (WC cy a f r kn ++ Y) "java/lang/IndexOutOfBoundsException" := by
  have q3 := hC.sp
  refine Cm.of [some (.ref (a 0 0)), some (.int x), some (.int y0)] pn_X2 rfl (Nat.le_of_ble_eq_true rfl) ?_
  intro p e s m args below meth c A C hE hr hnt hn
  refine r_iload_n C dX2_contains_0 rfl ?_
  refine c_S (st := []) hX.stb C hE (C_needRow_no (f := f) (r := r) (kn := kn) (x := (x)) hX hl hno) pk_X2_needRow qm_X2_126 rfl rfl (Nat.le_of_ble_eq_true rfl) dX2_contains_1 ⟨Nat.le_of_ble_eq_true rfl, Nat.le_of_ble_eq_true rfl⟩ ⟨Nat.le_of_ble_eq_true rfl, Nat.le_of_ble_eq_true rfl⟩ (fun _ _ h9 => h9.elim) (fun E9 h9 => ?_)
  subst h9
  exact r_out C hnt rfl rfl (Nat.le_of_ble_eq_true rfl) (Nat.le_of_ble_eq_true rfl)
theorem dX2_contains_4 : decode cX2_contains 4 = .ok (.aload_n 0, 1) := dqo_42 (kb_of ke_X2_contains 4 rfl)
theorem dX2_contains_5 : decode cX2_contains 5 = .ok (.getfield 11, 3) := dqo_180 0 11 (kb_of ke_X2_contains 5 rfl) (kb_of ke_X2_contains 6 rfl) (kb_of ke_X2_contains 7 rfl)
theorem dX2_contains_8 : decode cX2_contains 8 = .ok (.iload_n 1, 1) := dqo_27 (kb_of ke_X2_contains 8 rfl)
theorem dX2_contains_9 : decode cX2_contains 9 = .ok (.aaload, 1) := dqo_50 (kb_of ke_X2_contains 9 rfl)
theorem dX2_contains_10 : decode cX2_contains 10 = .ok (.iload_n 2, 1) := dqo_28 (kb_of ke_X2_contains 10 rfl)
theorem dX2_contains_11 : decode cX2_contains 11 = .ok (.invokevirtual 144, 3) := dqo_182 0 144 (kb_of ke_X2_contains 11 rfl) (kb_of ke_X2_contains 12 rfl) (kb_of ke_X2_contains 13 rfl)
theorem dX2_contains_14 : decode cX2_contains 14 = .ok (.ireturn, 1) := dqo_172 (kb_of ke_X2_contains 14 rfl)
set_option maxRecDepth 100000 in
set_option maxHeartbeats 4000000 in
theorem C_contains_ok {l : Launch} {D : va_G} {cy : Nat → ClassId} {X : (Nat → Prop) → State → Heap → Prop} {a f : Nat → Nat → Nat} {r : Nat → Nat → Int32} {kn : Int32} {Y : va_W} {i : Nat} {y : Int32} (hX : EnvX X) (hC : CInv f) (hi4 : i < 4) : Cd l D cy X yX2_contains cX2_contains 3 (some .boolean) (rmz 6 240) [.ref (a 0 0), .int (nI i), .int y] (WC cy a f r kn ++ Y) (some (.int (nI (if fpF (fun q => r (f 0 i) (f 3 i + q)) (y) (f 4 i) 0 = 4294967295 then 0 else 1)))) (WC cy a f r kn ++ Y) := by
  have q3 := hC.sp
  have q1_i := hC.rw hi4
  have q2_i := hC.al (i := i) (by omega)
  have q6_i : f 4 (f 1 i) = f 4 i := by rw [q1_i.2.1]
  refine Cm.of [some (.ref (a 0 0)), some (.int (nI i)), some (.int y)] pn_X2 rfl (Nat.le_of_ble_eq_true rfl) ?_
  intro p e s m args below meth c A C hE hr hnt hn
  refine r_iload_n C dX2_contains_0 rfl ?_
  refine d_Sv (st := []) hX.stb C hE (C_needRow_ok (f := f) (r := r) (kn := kn) (k := i) hX (by first | omega | (simp [up2, *]; done) | (simp [up2, *]; omega) | (simp only [up2_eq]; omega) | (split <;> omega))) pk_X2_needRow qm_X2_126 rfl rfl (Nat.le_of_ble_eq_true rfl) dX2_contains_1 ⟨Nat.le_of_ble_eq_true rfl, Nat.le_of_ble_eq_true rfl⟩ ⟨Nat.le_of_ble_eq_true rfl, Nat.le_of_ble_eq_true rfl⟩ ?_
  refine r_aload_n C dX2_contains_4 rfl ?_
  refine s_get C 0 (by decide) qf_X2_11 rfl rfl dX2_contains_5 ?_
  refine r_iload_n C dX2_contains_8 rfl ?_
  refine s_parts C (by first | omega | (simp [up2, *]; done) | (simp [up2, *]; omega) | (simp only [up2_eq]; omega) | (split <;> omega)) dX2_contains_9 ?_
  refine r_iload_n C dX2_contains_10 rfl ?_
  refine d_V (st := []) hX.stb C hE (C_has (f := f) (r := r) (kn := kn) (i := i) (x := (y)) hX (by first | omega | (simp [up2, *]; done) | (simp [up2, *]; omega) | (simp only [up2_eq]; omega) | (split <;> omega)) (by first | omega | (simp [up2, *]; done) | (simp [up2, *]; omega) | (simp only [up2_eq]; omega) | (split <;> omega)) (by first | omega | (simp [up2, *]; done) | (simp [up2, *]; omega) | (simp only [up2_eq]; omega) | (split <;> omega))) pk_X1_has qm_X2_144 (3 + i) 5 rfl rfl (wc_p (by first | omega | (simp [up2, *]; done) | (simp [up2, *]; omega) | (simp only [up2_eq]; omega) | (split <;> omega))) rfl rfl (Nat.le_of_ble_eq_true rfl) dX2_contains_11 ⟨Nat.le_of_ble_eq_true rfl, Nat.le_of_ble_eq_true rfl⟩ ⟨Nat.le_of_ble_eq_true rfl, Nat.le_of_ble_eq_true rfl⟩ ?_
  exact r_zret C hr (by first | omega | (simp [up2, *]; done) | (simp [up2, *]; omega) | (simp only [up2_eq]; omega) | (split <;> omega)) dX2_contains_14 ⟨rfl, rfl⟩ (Nat.le_of_ble_eq_true rfl) (Nat.le_of_ble_eq_true rfl)
theorem dX2_lastIndexOf_0 : decode cX2_lastIndexOf 0 = .ok (.iload_n 1, 1) := dqo_27 (kb_of ke_X2_lastIndexOf 0 rfl)
theorem dX2_lastIndexOf_1 : decode cX2_lastIndexOf 1 = .ok (.invokestatic 126, 3) := dqo_184 0 126 (kb_of ke_X2_lastIndexOf 1 rfl) (kb_of ke_X2_lastIndexOf 2 rfl) (kb_of ke_X2_lastIndexOf 3 rfl)
set_option maxRecDepth 100000 in
set_option maxHeartbeats 4000000 in
theorem C_lastIndexOf_noR {l : Launch} {D : va_G} {cy : Nat → ClassId} {X : (Nat → Prop) → State → Heap → Prop} {a f : Nat → Nat → Nat} {r : Nat → Nat → Int32} {kn : Int32} {Y : va_W} {x : Int32} {y0 : Int32} (hX : EnvX X) (hl : l.stackTraces = false) (hC : CInv f) (hno : ¬ (0 ≤ x ∧ x < nI 4)) : Ce l D cy X yX2_lastIndexOf cX2_lastIndexOf 5 (some .int) (rmk 8 1 6 170) [.ref (a 0 0), .int x, .int y0] (WC cy a f r kn ++ Y) "java/lang/IndexOutOfBoundsException" := by
  have q3 := hC.sp
  refine Cm.of [some (.ref (a 0 0)), some (.int x), some (.int y0), none, none] pn_X2 rfl (Nat.le_of_ble_eq_true rfl) ?_
  intro p e s m args below meth c A C hE hr hnt hn
  refine r_iload_n C dX2_lastIndexOf_0 rfl ?_
  refine c_S (st := []) hX.stb C hE (C_needRow_no (f := f) (r := r) (kn := kn) (x := (x)) hX hl hno) pk_X2_needRow qm_X2_126 rfl rfl (Nat.le_of_ble_eq_true rfl) dX2_lastIndexOf_1 ⟨Nat.le_of_ble_eq_true rfl, Nat.le_of_ble_eq_true rfl⟩ ⟨Nat.le_of_ble_eq_true rfl, Nat.le_of_ble_eq_true rfl⟩ (fun _ _ h9 => h9.elim) (fun E9 h9 => ?_)
  subst h9
  exact r_out C hnt rfl rfl (Nat.le_of_ble_eq_true rfl) (Nat.le_of_ble_eq_true rfl)
theorem dX2_lastIndexOf_4 : decode cX2_lastIndexOf 4 = .ok (.iconst (-1), 1) := dqo_2 (kb_of ke_X2_lastIndexOf 4 rfl)
theorem dX2_lastIndexOf_5 : decode cX2_lastIndexOf 5 = .ok (.istore_n 3, 1) := dqo_62 (kb_of ke_X2_lastIndexOf 5 rfl)
theorem dX2_lastIndexOf_6 : decode cX2_lastIndexOf 6 = .ok (.iconst 0, 1) := dqo_3 (kb_of ke_X2_lastIndexOf 6 rfl)
theorem dX2_lastIndexOf_7 : decode cX2_lastIndexOf 7 = .ok (.istore 4, 2) := dqo_54 4 (kb_of ke_X2_lastIndexOf 7 rfl) (kb_of ke_X2_lastIndexOf 8 rfl)
theorem dX2_lastIndexOf_9 : decode cX2_lastIndexOf 9 = .ok (.iload 4, 2) := dqo_21 4 (kb_of ke_X2_lastIndexOf 9 rfl) (kb_of ke_X2_lastIndexOf 10 rfl)
theorem dX2_lastIndexOf_11 : decode cX2_lastIndexOf 11 = .ok (.aload_n 0, 1) := dqo_42 (kb_of ke_X2_lastIndexOf 11 rfl)
theorem dX2_lastIndexOf_12 : decode cX2_lastIndexOf 12 = .ok (.getfield 11, 3) := dqo_180 0 11 (kb_of ke_X2_lastIndexOf 12 rfl) (kb_of ke_X2_lastIndexOf 13 rfl) (kb_of ke_X2_lastIndexOf 14 rfl)
theorem dX2_lastIndexOf_15 : decode cX2_lastIndexOf 15 = .ok (.iload_n 1, 1) := dqo_27 (kb_of ke_X2_lastIndexOf 15 rfl)
theorem dX2_lastIndexOf_16 : decode cX2_lastIndexOf 16 = .ok (.aaload, 1) := dqo_50 (kb_of ke_X2_lastIndexOf 16 rfl)
theorem dX2_lastIndexOf_17 : decode cX2_lastIndexOf 17 = .ok (.getfield 50, 3) := dqo_180 0 50 (kb_of ke_X2_lastIndexOf 17 rfl) (kb_of ke_X2_lastIndexOf 18 rfl) (kb_of ke_X2_lastIndexOf 19 rfl)
theorem dX2_lastIndexOf_20 : decode cX2_lastIndexOf 20 = .ok (.if_icmp .ge 27, 3) := dqo_162 0 27 (by decide) (kb_of ke_X2_lastIndexOf 20 rfl) (kb_of ke_X2_lastIndexOf 21 rfl) (kb_of ke_X2_lastIndexOf 22 rfl)
theorem dX2_lastIndexOf_23 : decode cX2_lastIndexOf 23 = .ok (.aload_n 0, 1) := dqo_42 (kb_of ke_X2_lastIndexOf 23 rfl)
theorem dX2_lastIndexOf_24 : decode cX2_lastIndexOf 24 = .ok (.getfield 11, 3) := dqo_180 0 11 (kb_of ke_X2_lastIndexOf 24 rfl) (kb_of ke_X2_lastIndexOf 25 rfl) (kb_of ke_X2_lastIndexOf 26 rfl)
theorem dX2_lastIndexOf_27 : decode cX2_lastIndexOf 27 = .ok (.iload_n 1, 1) := dqo_27 (kb_of ke_X2_lastIndexOf 27 rfl)
theorem dX2_lastIndexOf_28 : decode cX2_lastIndexOf 28 = .ok (.aaload, 1) := dqo_50 (kb_of ke_X2_lastIndexOf 28 rfl)
theorem dX2_lastIndexOf_29 : decode cX2_lastIndexOf 29 = .ok (.iload 4, 2) := dqo_21 4 (kb_of ke_X2_lastIndexOf 29 rfl) (kb_of ke_X2_lastIndexOf 30 rfl)
theorem dX2_lastIndexOf_31 : decode cX2_lastIndexOf 31 = .ok (.invokevirtual 65, 3) := dqo_182 0 65 (kb_of ke_X2_lastIndexOf 31 rfl) (kb_of ke_X2_lastIndexOf 32 rfl) (kb_of ke_X2_lastIndexOf 33 rfl)
theorem dX2_lastIndexOf_34 : decode cX2_lastIndexOf 34 = .ok (.iload_n 2, 1) := dqo_28 (kb_of ke_X2_lastIndexOf 34 rfl)
theorem dX2_lastIndexOf_35 : decode cX2_lastIndexOf 35 = .ok (.if_icmp .ne 6, 3) := dqo_160 0 6 (by decide) (kb_of ke_X2_lastIndexOf 35 rfl) (kb_of ke_X2_lastIndexOf 36 rfl) (kb_of ke_X2_lastIndexOf 37 rfl)
theorem dX2_lastIndexOf_38 : decode cX2_lastIndexOf 38 = .ok (.iload 4, 2) := dqo_21 4 (kb_of ke_X2_lastIndexOf 38 rfl) (kb_of ke_X2_lastIndexOf 39 rfl)
theorem dX2_lastIndexOf_40 : decode cX2_lastIndexOf 40 = .ok (.istore_n 3, 1) := dqo_62 (kb_of ke_X2_lastIndexOf 40 rfl)
theorem dX2_lastIndexOf_41 : decode cX2_lastIndexOf 41 = .ok (.iinc 4 1, 3) := dqo_132 4 1 (by decide) (kb_of ke_X2_lastIndexOf 41 rfl) (kb_of ke_X2_lastIndexOf 42 rfl) (kb_of ke_X2_lastIndexOf 43 rfl)
theorem dX2_lastIndexOf_44 : decode cX2_lastIndexOf 44 = .ok (.goto (-35), 3) := dqo_167 255 221 (by decide) (kb_of ke_X2_lastIndexOf 44 rfl) (kb_of ke_X2_lastIndexOf 45 rfl) (kb_of ke_X2_lastIndexOf 46 rfl)
theorem dX2_lastIndexOf_47 : decode cX2_lastIndexOf 47 = .ok (.iload_n 3, 1) := dqo_29 (kb_of ke_X2_lastIndexOf 47 rfl)
theorem dX2_lastIndexOf_48 : decode cX2_lastIndexOf 48 = .ok (.ireturn, 1) := dqo_172 (kb_of ke_X2_lastIndexOf 48 rfl)
set_option maxRecDepth 100000 in
set_option maxHeartbeats 4000000 in
theorem C_lastIndexOf_ok {l : Launch} {D : va_G} {cy : Nat → ClassId} {X : (Nat → Prop) → State → Heap → Prop} {a f : Nat → Nat → Nat} {r : Nat → Nat → Int32} {kn : Int32} {Y : va_W} {i : Nat} {y : Int32} (hX : EnvX X) (hC : CInv f) (hi4 : i < 4) : Cd l D cy X yX2_lastIndexOf cX2_lastIndexOf 5 (some .int) (rmz 6 240) [.ref (a 0 0), .int (nI i), .int y] (WC cy a f r kn ++ Y) (some (.int (nI (liF (fun q => r (f 0 i) (f 3 i + q)) y (f 4 i) 0 4294967295)))) (WC cy a f r kn ++ Y) := by
  have q3 := hC.sp
  have q1_i := hC.rw hi4
  have q2_i := hC.al (i := i) (by omega)
  have q6_i : f 4 (f 1 i) = f 4 i := by rw [q1_i.2.1]
  refine Cm.of [some (.ref (a 0 0)), some (.int (nI i)), some (.int y), none, none] pn_X2 rfl (Nat.le_of_ble_eq_true rfl) ?_
  intro p e s m args below meth c A C hE hr hnt hn
  refine r_iload_n C dX2_lastIndexOf_0 rfl ?_
  refine d_Sv (st := []) hX.stb C hE (C_needRow_ok (f := f) (r := r) (kn := kn) (k := i) hX (by first | omega | (simp [up2, *]; done) | (simp [up2, *]; omega) | (simp only [up2_eq]; omega) | (split <;> omega))) pk_X2_needRow qm_X2_126 rfl rfl (Nat.le_of_ble_eq_true rfl) dX2_lastIndexOf_1 ⟨Nat.le_of_ble_eq_true rfl, Nat.le_of_ble_eq_true rfl⟩ ⟨Nat.le_of_ble_eq_true rfl, Nat.le_of_ble_eq_true rfl⟩ ?_
  refine r_iconst (v := (nI 4294967295)) C dX2_lastIndexOf_4 (by decide) ?_
  refine r_istore_n C dX2_lastIndexOf_5 (by decide) rfl ?_
  refine r_iconst (v := (nI 0)) C dX2_lastIndexOf_6 (by decide) ?_
  refine r_istore C dX2_lastIndexOf_7 (by decide) rfl ?_
  have L9 : ∀ (d : Nat) (t : Nat) (z : Nat), (ht : t + d = f 4 i) → (hz9 : z ≤ t ∨ z = 4294967295) → (hF : liF (fun q => r (f 0 i) (f 3 i + q)) y d t z = liF (fun q => r (f 0 i) (f 3 i + q)) y (f 4 i) 0 4294967295) → vC p l e (rmz 6 240) s m args below meth c D A (vx_MQ below (vG (fun v1 w1 => v1 = (some (.int (nI (liF (fun q => r (f 0 i) (f 3 i + q)) y (f 4 i) 0 4294967295)))) ∧ w1 = WC cy a f r kn ++ Y) D vwCl A) (vGX (fun _ => False) D vwCl (WC cy a f r kn ++ Y) A) args s (rmz 6 240).cells (rmz 6 240).slots A) 5 0 0 (WC cy a f r kn ++ Y) [some (.ref (a 0 0)), some (.int (nI i)), some (.int y), some (.int (nI z)), some (.int (nI t))] 9 [] := by
    intro d
    induction d with
    | zero =>
      intro t z ht hz9 hF
      refine r_iload C dX2_lastIndexOf_9 rfl ?_
      refine r_aload_n C dX2_lastIndexOf_11 rfl ?_
      refine s_get C 0 (by decide) qf_X2_11 rfl rfl dX2_lastIndexOf_12 ?_
      refine r_iload_n C dX2_lastIndexOf_15 rfl ?_
      refine s_parts C (by first | omega | (simp [up2, *]; done) | (simp [up2, *]; omega) | (simp only [up2_eq]; omega) | (split <;> omega)) dX2_lastIndexOf_16 ?_
      refine p_getN (v := .int (nI (f 4 i))) hX C hE 4 (by first | omega | (simp [up2, *]; done) | (simp [up2, *]; omega) | (simp only [up2_eq]; omega) | (split <;> omega)) (by decide) qn_X2_50 rfl rfl dX2_lastIndexOf_17 ?_
      refine r_icN_ge (a := t) (b := (f 4 i)) (tgt := 47) C (by first | omega | (simp [up2, *]; done) | (simp [up2, *]; omega) | (simp only [up2_eq]; omega) | (split <;> omega)) (by first | omega | (simp [up2, *]; done) | (simp [up2, *]; omega) | (simp only [up2_eq]; omega) | (split <;> omega)) dX2_lastIndexOf_20 (by decide) (fun h20_1 => ?_) (fun h20_1 => ?_)
      · first
        | exfalso; first | omega | contradiction
        | skip
          refine r_iload_n C dX2_lastIndexOf_47 rfl ?_
          exact r_iret C hr dX2_lastIndexOf_48 ⟨by rw [← hF]; rfl, rfl⟩ (Nat.le_of_ble_eq_true rfl) (Nat.le_of_ble_eq_true rfl)
      · first
        | exfalso; first | omega | contradiction
        | skip
          refine r_aload_n C dX2_lastIndexOf_23 rfl ?_
          refine s_get C 0 (by decide) qf_X2_11 rfl rfl dX2_lastIndexOf_24 ?_
          refine r_iload_n C dX2_lastIndexOf_27 rfl ?_
          refine s_parts C (by first | omega | (simp [up2, *]; done) | (simp [up2, *]; omega) | (simp only [up2_eq]; omega) | (split <;> omega)) dX2_lastIndexOf_28 ?_
          refine r_iload C dX2_lastIndexOf_29 rfl ?_
          refine d_V (st := []) hX.stb C hE (C_itemAt (f := f) (r := r) (kn := kn) (i := i) (k := t) hX (by first | omega | (simp [up2, *]; done) | (simp [up2, *]; omega) | (simp only [up2_eq]; omega) | (split <;> omega)) (by first | omega | (simp [up2, *]; done) | (simp [up2, *]; omega) | (simp only [up2_eq]; omega) | (split <;> omega)) (by first | omega | (simp [up2, *]; done) | (simp [up2, *]; omega) | (simp only [up2_eq]; omega) | (split <;> omega))) pk_X1_itemAt qm_X2_65 (3 + i) 5 rfl rfl (wc_p (by first | omega | (simp [up2, *]; done) | (simp [up2, *]; omega) | (simp only [up2_eq]; omega) | (split <;> omega))) rfl rfl (Nat.le_of_ble_eq_true rfl) dX2_lastIndexOf_31 ⟨Nat.le_of_ble_eq_true rfl, Nat.le_of_ble_eq_true rfl⟩ ⟨Nat.le_of_ble_eq_true rfl, Nat.le_of_ble_eq_true rfl⟩ ?_
          refine r_iload_n C dX2_lastIndexOf_34 rfl ?_
          refine r_ic_ne (tgt := 41) C dX2_lastIndexOf_35 (by decide) (fun h35_2 => ?_) (fun h35_2 => ?_)
          · first
            | exfalso; first | omega | contradiction
            | skip
              refine r_iincN C dX2_lastIndexOf_41 rfl (by decide) rfl ?_
              refine r_goto (tgt := 9) C dX2_lastIndexOf_44 (by decide) ?_
              exact (Nat.not_lt_zero _ (by omega)).elim
          · first
            | exfalso; first | omega | contradiction
            | skip
              refine r_iload C dX2_lastIndexOf_38 rfl ?_
              refine r_istore_n C dX2_lastIndexOf_40 (by decide) rfl ?_
              refine r_iincN C dX2_lastIndexOf_41 rfl (by decide) rfl ?_
              refine r_goto (tgt := 9) C dX2_lastIndexOf_44 (by decide) ?_
              exact (Nat.not_lt_zero _ (by omega)).elim
    | succ d ih_L9 =>
      intro t z ht hz9 hF
      refine r_iload C dX2_lastIndexOf_9 rfl ?_
      refine r_aload_n C dX2_lastIndexOf_11 rfl ?_
      refine s_get C 0 (by decide) qf_X2_11 rfl rfl dX2_lastIndexOf_12 ?_
      refine r_iload_n C dX2_lastIndexOf_15 rfl ?_
      refine s_parts C (by first | omega | (simp [up2, *]; done) | (simp [up2, *]; omega) | (simp only [up2_eq]; omega) | (split <;> omega)) dX2_lastIndexOf_16 ?_
      refine p_getN (v := .int (nI (f 4 i))) hX C hE 4 (by first | omega | (simp [up2, *]; done) | (simp [up2, *]; omega) | (simp only [up2_eq]; omega) | (split <;> omega)) (by decide) qn_X2_50 rfl rfl dX2_lastIndexOf_17 ?_
      refine r_icN_ge (a := t) (b := (f 4 i)) (tgt := 47) C (by first | omega | (simp [up2, *]; done) | (simp [up2, *]; omega) | (simp only [up2_eq]; omega) | (split <;> omega)) (by first | omega | (simp [up2, *]; done) | (simp [up2, *]; omega) | (simp only [up2_eq]; omega) | (split <;> omega)) dX2_lastIndexOf_20 (by decide) (fun h20_3 => ?_) (fun h20_3 => ?_)
      · first
        | exfalso; first | omega | contradiction
        | skip
          refine r_iload_n C dX2_lastIndexOf_47 rfl ?_
          exact r_iret C hr dX2_lastIndexOf_48 ⟨by rw [← hF]; rfl, rfl⟩ (Nat.le_of_ble_eq_true rfl) (Nat.le_of_ble_eq_true rfl)
      · first
        | exfalso; first | omega | contradiction
        | skip
          refine r_aload_n C dX2_lastIndexOf_23 rfl ?_
          refine s_get C 0 (by decide) qf_X2_11 rfl rfl dX2_lastIndexOf_24 ?_
          refine r_iload_n C dX2_lastIndexOf_27 rfl ?_
          refine s_parts C (by first | omega | (simp [up2, *]; done) | (simp [up2, *]; omega) | (simp only [up2_eq]; omega) | (split <;> omega)) dX2_lastIndexOf_28 ?_
          refine r_iload C dX2_lastIndexOf_29 rfl ?_
          refine d_V (st := []) hX.stb C hE (C_itemAt (f := f) (r := r) (kn := kn) (i := i) (k := t) hX (by first | omega | (simp [up2, *]; done) | (simp [up2, *]; omega) | (simp only [up2_eq]; omega) | (split <;> omega)) (by first | omega | (simp [up2, *]; done) | (simp [up2, *]; omega) | (simp only [up2_eq]; omega) | (split <;> omega)) (by first | omega | (simp [up2, *]; done) | (simp [up2, *]; omega) | (simp only [up2_eq]; omega) | (split <;> omega))) pk_X1_itemAt qm_X2_65 (3 + i) 5 rfl rfl (wc_p (by first | omega | (simp [up2, *]; done) | (simp [up2, *]; omega) | (simp only [up2_eq]; omega) | (split <;> omega))) rfl rfl (Nat.le_of_ble_eq_true rfl) dX2_lastIndexOf_31 ⟨Nat.le_of_ble_eq_true rfl, Nat.le_of_ble_eq_true rfl⟩ ⟨Nat.le_of_ble_eq_true rfl, Nat.le_of_ble_eq_true rfl⟩ ?_
          refine r_iload_n C dX2_lastIndexOf_34 rfl ?_
          refine r_ic_ne (tgt := 41) C dX2_lastIndexOf_35 (by decide) (fun h35_4 => ?_) (fun h35_4 => ?_)
          · first
            | exfalso; first | omega | contradiction
            | skip
              refine r_iincN C dX2_lastIndexOf_41 rfl (by decide) rfl ?_
              refine r_goto (tgt := 9) C dX2_lastIndexOf_44 (by decide) ?_
              exact ih_L9 (t + 1) z (by omega) (by omega) (by rw [← hF]; simp only [liF]; first | rw [if_pos (by assumption)] | rw [if_neg (by assumption)])
          · first
            | exfalso; first | omega | contradiction
            | skip
              refine r_iload C dX2_lastIndexOf_38 rfl ?_
              refine r_istore_n C dX2_lastIndexOf_40 (by decide) rfl ?_
              refine r_iincN C dX2_lastIndexOf_41 rfl (by decide) rfl ?_
              refine r_goto (tgt := 9) C dX2_lastIndexOf_44 (by decide) ?_
              exact ih_L9 (t + 1) t (by omega) (by omega) (by rw [← hF]; simp only [liF]; first | rw [if_pos (by assumption)] | rw [if_neg (by assumption)])
  exact L9 (f 4 i) 0 4294967295 (by omega) (by omega) rfl
theorem dX2_howOften_0 : decode cX2_howOften 0 = .ok (.iload_n 1, 1) := dqo_27 (kb_of ke_X2_howOften 0 rfl)
theorem dX2_howOften_1 : decode cX2_howOften 1 = .ok (.invokestatic 126, 3) := dqo_184 0 126 (kb_of ke_X2_howOften 1 rfl) (kb_of ke_X2_howOften 2 rfl) (kb_of ke_X2_howOften 3 rfl)
set_option maxRecDepth 100000 in
set_option maxHeartbeats 4000000 in
theorem C_howOften_noR {l : Launch} {D : va_G} {cy : Nat → ClassId} {X : (Nat → Prop) → State → Heap → Prop} {a f : Nat → Nat → Nat} {r : Nat → Nat → Int32} {kn : Int32} {Y : va_W} {x : Int32} {y0 : Int32} (hX : EnvX X) (hl : l.stackTraces = false) (hC : CInv f) (hno : ¬ (0 ≤ x ∧ x < nI 4)) : Ce l D cy X yX2_howOften cX2_howOften 5 (some .int) (rmk 8 1 6 170) [.ref (a 0 0), .int x, .int y0] (WC cy a f r kn ++ Y) "java/lang/IndexOutOfBoundsException" := by
  have q3 := hC.sp
  refine Cm.of [some (.ref (a 0 0)), some (.int x), some (.int y0), none, none] pn_X2 rfl (Nat.le_of_ble_eq_true rfl) ?_
  intro p e s m args below meth c A C hE hr hnt hn
  refine r_iload_n C dX2_howOften_0 rfl ?_
  refine c_S (st := []) hX.stb C hE (C_needRow_no (f := f) (r := r) (kn := kn) (x := (x)) hX hl hno) pk_X2_needRow qm_X2_126 rfl rfl (Nat.le_of_ble_eq_true rfl) dX2_howOften_1 ⟨Nat.le_of_ble_eq_true rfl, Nat.le_of_ble_eq_true rfl⟩ ⟨Nat.le_of_ble_eq_true rfl, Nat.le_of_ble_eq_true rfl⟩ (fun _ _ h9 => h9.elim) (fun E9 h9 => ?_)
  subst h9
  exact r_out C hnt rfl rfl (Nat.le_of_ble_eq_true rfl) (Nat.le_of_ble_eq_true rfl)
theorem dX2_howOften_4 : decode cX2_howOften 4 = .ok (.iconst 0, 1) := dqo_3 (kb_of ke_X2_howOften 4 rfl)
theorem dX2_howOften_5 : decode cX2_howOften 5 = .ok (.istore_n 3, 1) := dqo_62 (kb_of ke_X2_howOften 5 rfl)
theorem dX2_howOften_6 : decode cX2_howOften 6 = .ok (.iconst 0, 1) := dqo_3 (kb_of ke_X2_howOften 6 rfl)
theorem dX2_howOften_7 : decode cX2_howOften 7 = .ok (.istore 4, 2) := dqo_54 4 (kb_of ke_X2_howOften 7 rfl) (kb_of ke_X2_howOften 8 rfl)
theorem dX2_howOften_9 : decode cX2_howOften 9 = .ok (.iload 4, 2) := dqo_21 4 (kb_of ke_X2_howOften 9 rfl) (kb_of ke_X2_howOften 10 rfl)
theorem dX2_howOften_11 : decode cX2_howOften 11 = .ok (.aload_n 0, 1) := dqo_42 (kb_of ke_X2_howOften 11 rfl)
theorem dX2_howOften_12 : decode cX2_howOften 12 = .ok (.getfield 11, 3) := dqo_180 0 11 (kb_of ke_X2_howOften 12 rfl) (kb_of ke_X2_howOften 13 rfl) (kb_of ke_X2_howOften 14 rfl)
theorem dX2_howOften_15 : decode cX2_howOften 15 = .ok (.iload_n 1, 1) := dqo_27 (kb_of ke_X2_howOften 15 rfl)
theorem dX2_howOften_16 : decode cX2_howOften 16 = .ok (.aaload, 1) := dqo_50 (kb_of ke_X2_howOften 16 rfl)
theorem dX2_howOften_17 : decode cX2_howOften 17 = .ok (.getfield 50, 3) := dqo_180 0 50 (kb_of ke_X2_howOften 17 rfl) (kb_of ke_X2_howOften 18 rfl) (kb_of ke_X2_howOften 19 rfl)
theorem dX2_howOften_20 : decode cX2_howOften 20 = .ok (.if_icmp .ge 27, 3) := dqo_162 0 27 (by decide) (kb_of ke_X2_howOften 20 rfl) (kb_of ke_X2_howOften 21 rfl) (kb_of ke_X2_howOften 22 rfl)
theorem dX2_howOften_23 : decode cX2_howOften 23 = .ok (.aload_n 0, 1) := dqo_42 (kb_of ke_X2_howOften 23 rfl)
theorem dX2_howOften_24 : decode cX2_howOften 24 = .ok (.getfield 11, 3) := dqo_180 0 11 (kb_of ke_X2_howOften 24 rfl) (kb_of ke_X2_howOften 25 rfl) (kb_of ke_X2_howOften 26 rfl)
theorem dX2_howOften_27 : decode cX2_howOften 27 = .ok (.iload_n 1, 1) := dqo_27 (kb_of ke_X2_howOften 27 rfl)
theorem dX2_howOften_28 : decode cX2_howOften 28 = .ok (.aaload, 1) := dqo_50 (kb_of ke_X2_howOften 28 rfl)
theorem dX2_howOften_29 : decode cX2_howOften 29 = .ok (.iload 4, 2) := dqo_21 4 (kb_of ke_X2_howOften 29 rfl) (kb_of ke_X2_howOften 30 rfl)
theorem dX2_howOften_31 : decode cX2_howOften 31 = .ok (.invokevirtual 65, 3) := dqo_182 0 65 (kb_of ke_X2_howOften 31 rfl) (kb_of ke_X2_howOften 32 rfl) (kb_of ke_X2_howOften 33 rfl)
theorem dX2_howOften_34 : decode cX2_howOften 34 = .ok (.iload_n 2, 1) := dqo_28 (kb_of ke_X2_howOften 34 rfl)
theorem dX2_howOften_35 : decode cX2_howOften 35 = .ok (.if_icmp .ne 6, 3) := dqo_160 0 6 (by decide) (kb_of ke_X2_howOften 35 rfl) (kb_of ke_X2_howOften 36 rfl) (kb_of ke_X2_howOften 37 rfl)
theorem dX2_howOften_38 : decode cX2_howOften 38 = .ok (.iinc 3 1, 3) := dqo_132 3 1 (by decide) (kb_of ke_X2_howOften 38 rfl) (kb_of ke_X2_howOften 39 rfl) (kb_of ke_X2_howOften 40 rfl)
theorem dX2_howOften_41 : decode cX2_howOften 41 = .ok (.iinc 4 1, 3) := dqo_132 4 1 (by decide) (kb_of ke_X2_howOften 41 rfl) (kb_of ke_X2_howOften 42 rfl) (kb_of ke_X2_howOften 43 rfl)
theorem dX2_howOften_44 : decode cX2_howOften 44 = .ok (.goto (-35), 3) := dqo_167 255 221 (by decide) (kb_of ke_X2_howOften 44 rfl) (kb_of ke_X2_howOften 45 rfl) (kb_of ke_X2_howOften 46 rfl)
theorem dX2_howOften_47 : decode cX2_howOften 47 = .ok (.iload_n 3, 1) := dqo_29 (kb_of ke_X2_howOften 47 rfl)
theorem dX2_howOften_48 : decode cX2_howOften 48 = .ok (.ireturn, 1) := dqo_172 (kb_of ke_X2_howOften 48 rfl)
set_option maxRecDepth 100000 in
set_option maxHeartbeats 4000000 in
theorem C_howOften_ok {l : Launch} {D : va_G} {cy : Nat → ClassId} {X : (Nat → Prop) → State → Heap → Prop} {a f : Nat → Nat → Nat} {r : Nat → Nat → Int32} {kn : Int32} {Y : va_W} {i : Nat} {y : Int32} (hX : EnvX X) (hC : CInv f) (hi4 : i < 4) : Cd l D cy X yX2_howOften cX2_howOften 5 (some .int) (rmz 6 240) [.ref (a 0 0), .int (nI i), .int y] (WC cy a f r kn ++ Y) (some (.int (nI (hoF (fun q => r (f 0 i) (f 3 i + q)) y (f 4 i) 0 0)))) (WC cy a f r kn ++ Y) := by
  have q3 := hC.sp
  have q1_i := hC.rw hi4
  have q2_i := hC.al (i := i) (by omega)
  have q6_i : f 4 (f 1 i) = f 4 i := by rw [q1_i.2.1]
  refine Cm.of [some (.ref (a 0 0)), some (.int (nI i)), some (.int y), none, none] pn_X2 rfl (Nat.le_of_ble_eq_true rfl) ?_
  intro p e s m args below meth c A C hE hr hnt hn
  refine r_iload_n C dX2_howOften_0 rfl ?_
  refine d_Sv (st := []) hX.stb C hE (C_needRow_ok (f := f) (r := r) (kn := kn) (k := i) hX (by first | omega | (simp [up2, *]; done) | (simp [up2, *]; omega) | (simp only [up2_eq]; omega) | (split <;> omega))) pk_X2_needRow qm_X2_126 rfl rfl (Nat.le_of_ble_eq_true rfl) dX2_howOften_1 ⟨Nat.le_of_ble_eq_true rfl, Nat.le_of_ble_eq_true rfl⟩ ⟨Nat.le_of_ble_eq_true rfl, Nat.le_of_ble_eq_true rfl⟩ ?_
  refine r_iconst (v := (nI 0)) C dX2_howOften_4 (by decide) ?_
  refine r_istore_n C dX2_howOften_5 (by decide) rfl ?_
  refine r_iconst (v := (nI 0)) C dX2_howOften_6 (by decide) ?_
  refine r_istore C dX2_howOften_7 (by decide) rfl ?_
  have L9 : ∀ (d : Nat) (t : Nat) (z : Nat), (ht : t + d = f 4 i) → (hz9 : z ≤ t) → (hF : hoF (fun q => r (f 0 i) (f 3 i + q)) y d t z = hoF (fun q => r (f 0 i) (f 3 i + q)) y (f 4 i) 0 0) → vC p l e (rmz 6 240) s m args below meth c D A (vx_MQ below (vG (fun v1 w1 => v1 = (some (.int (nI (hoF (fun q => r (f 0 i) (f 3 i + q)) y (f 4 i) 0 0)))) ∧ w1 = WC cy a f r kn ++ Y) D vwCl A) (vGX (fun _ => False) D vwCl (WC cy a f r kn ++ Y) A) args s (rmz 6 240).cells (rmz 6 240).slots A) 5 0 0 (WC cy a f r kn ++ Y) [some (.ref (a 0 0)), some (.int (nI i)), some (.int y), some (.int (nI z)), some (.int (nI t))] 9 [] := by
    intro d
    induction d with
    | zero =>
      intro t z ht hz9 hF
      refine r_iload C dX2_howOften_9 rfl ?_
      refine r_aload_n C dX2_howOften_11 rfl ?_
      refine s_get C 0 (by decide) qf_X2_11 rfl rfl dX2_howOften_12 ?_
      refine r_iload_n C dX2_howOften_15 rfl ?_
      refine s_parts C (by first | omega | (simp [up2, *]; done) | (simp [up2, *]; omega) | (simp only [up2_eq]; omega) | (split <;> omega)) dX2_howOften_16 ?_
      refine p_getN (v := .int (nI (f 4 i))) hX C hE 4 (by first | omega | (simp [up2, *]; done) | (simp [up2, *]; omega) | (simp only [up2_eq]; omega) | (split <;> omega)) (by decide) qn_X2_50 rfl rfl dX2_howOften_17 ?_
      refine r_icN_ge (a := t) (b := (f 4 i)) (tgt := 47) C (by first | omega | (simp [up2, *]; done) | (simp [up2, *]; omega) | (simp only [up2_eq]; omega) | (split <;> omega)) (by first | omega | (simp [up2, *]; done) | (simp [up2, *]; omega) | (simp only [up2_eq]; omega) | (split <;> omega)) dX2_howOften_20 (by decide) (fun h20_1 => ?_) (fun h20_1 => ?_)
      · first
        | exfalso; first | omega | contradiction
        | skip
          refine r_iload_n C dX2_howOften_47 rfl ?_
          exact r_iret C hr dX2_howOften_48 ⟨by rw [← hF]; rfl, rfl⟩ (Nat.le_of_ble_eq_true rfl) (Nat.le_of_ble_eq_true rfl)
      · first
        | exfalso; first | omega | contradiction
        | skip
          refine r_aload_n C dX2_howOften_23 rfl ?_
          refine s_get C 0 (by decide) qf_X2_11 rfl rfl dX2_howOften_24 ?_
          refine r_iload_n C dX2_howOften_27 rfl ?_
          refine s_parts C (by first | omega | (simp [up2, *]; done) | (simp [up2, *]; omega) | (simp only [up2_eq]; omega) | (split <;> omega)) dX2_howOften_28 ?_
          refine r_iload C dX2_howOften_29 rfl ?_
          refine d_V (st := []) hX.stb C hE (C_itemAt (f := f) (r := r) (kn := kn) (i := i) (k := t) hX (by first | omega | (simp [up2, *]; done) | (simp [up2, *]; omega) | (simp only [up2_eq]; omega) | (split <;> omega)) (by first | omega | (simp [up2, *]; done) | (simp [up2, *]; omega) | (simp only [up2_eq]; omega) | (split <;> omega)) (by first | omega | (simp [up2, *]; done) | (simp [up2, *]; omega) | (simp only [up2_eq]; omega) | (split <;> omega))) pk_X1_itemAt qm_X2_65 (3 + i) 5 rfl rfl (wc_p (by first | omega | (simp [up2, *]; done) | (simp [up2, *]; omega) | (simp only [up2_eq]; omega) | (split <;> omega))) rfl rfl (Nat.le_of_ble_eq_true rfl) dX2_howOften_31 ⟨Nat.le_of_ble_eq_true rfl, Nat.le_of_ble_eq_true rfl⟩ ⟨Nat.le_of_ble_eq_true rfl, Nat.le_of_ble_eq_true rfl⟩ ?_
          refine r_iload_n C dX2_howOften_34 rfl ?_
          refine r_ic_ne (tgt := 41) C dX2_howOften_35 (by decide) (fun h35_2 => ?_) (fun h35_2 => ?_)
          · first
            | exfalso; first | omega | contradiction
            | skip
              refine r_iincN C dX2_howOften_41 rfl (by decide) rfl ?_
              refine r_goto (tgt := 9) C dX2_howOften_44 (by decide) ?_
              exact (Nat.not_lt_zero _ (by omega)).elim
          · first
            | exfalso; first | omega | contradiction
            | skip
              refine r_iincN C dX2_howOften_38 rfl (by decide) rfl ?_
              refine r_iincN C dX2_howOften_41 rfl (by decide) rfl ?_
              refine r_goto (tgt := 9) C dX2_howOften_44 (by decide) ?_
              exact (Nat.not_lt_zero _ (by omega)).elim
    | succ d ih_L9 =>
      intro t z ht hz9 hF
      refine r_iload C dX2_howOften_9 rfl ?_
      refine r_aload_n C dX2_howOften_11 rfl ?_
      refine s_get C 0 (by decide) qf_X2_11 rfl rfl dX2_howOften_12 ?_
      refine r_iload_n C dX2_howOften_15 rfl ?_
      refine s_parts C (by first | omega | (simp [up2, *]; done) | (simp [up2, *]; omega) | (simp only [up2_eq]; omega) | (split <;> omega)) dX2_howOften_16 ?_
      refine p_getN (v := .int (nI (f 4 i))) hX C hE 4 (by first | omega | (simp [up2, *]; done) | (simp [up2, *]; omega) | (simp only [up2_eq]; omega) | (split <;> omega)) (by decide) qn_X2_50 rfl rfl dX2_howOften_17 ?_
      refine r_icN_ge (a := t) (b := (f 4 i)) (tgt := 47) C (by first | omega | (simp [up2, *]; done) | (simp [up2, *]; omega) | (simp only [up2_eq]; omega) | (split <;> omega)) (by first | omega | (simp [up2, *]; done) | (simp [up2, *]; omega) | (simp only [up2_eq]; omega) | (split <;> omega)) dX2_howOften_20 (by decide) (fun h20_3 => ?_) (fun h20_3 => ?_)
      · first
        | exfalso; first | omega | contradiction
        | skip
          refine r_iload_n C dX2_howOften_47 rfl ?_
          exact r_iret C hr dX2_howOften_48 ⟨by rw [← hF]; rfl, rfl⟩ (Nat.le_of_ble_eq_true rfl) (Nat.le_of_ble_eq_true rfl)
      · first
        | exfalso; first | omega | contradiction
        | skip
          refine r_aload_n C dX2_howOften_23 rfl ?_
          refine s_get C 0 (by decide) qf_X2_11 rfl rfl dX2_howOften_24 ?_
          refine r_iload_n C dX2_howOften_27 rfl ?_
          refine s_parts C (by first | omega | (simp [up2, *]; done) | (simp [up2, *]; omega) | (simp only [up2_eq]; omega) | (split <;> omega)) dX2_howOften_28 ?_
          refine r_iload C dX2_howOften_29 rfl ?_
          refine d_V (st := []) hX.stb C hE (C_itemAt (f := f) (r := r) (kn := kn) (i := i) (k := t) hX (by first | omega | (simp [up2, *]; done) | (simp [up2, *]; omega) | (simp only [up2_eq]; omega) | (split <;> omega)) (by first | omega | (simp [up2, *]; done) | (simp [up2, *]; omega) | (simp only [up2_eq]; omega) | (split <;> omega)) (by first | omega | (simp [up2, *]; done) | (simp [up2, *]; omega) | (simp only [up2_eq]; omega) | (split <;> omega))) pk_X1_itemAt qm_X2_65 (3 + i) 5 rfl rfl (wc_p (by first | omega | (simp [up2, *]; done) | (simp [up2, *]; omega) | (simp only [up2_eq]; omega) | (split <;> omega))) rfl rfl (Nat.le_of_ble_eq_true rfl) dX2_howOften_31 ⟨Nat.le_of_ble_eq_true rfl, Nat.le_of_ble_eq_true rfl⟩ ⟨Nat.le_of_ble_eq_true rfl, Nat.le_of_ble_eq_true rfl⟩ ?_
          refine r_iload_n C dX2_howOften_34 rfl ?_
          refine r_ic_ne (tgt := 41) C dX2_howOften_35 (by decide) (fun h35_4 => ?_) (fun h35_4 => ?_)
          · first
            | exfalso; first | omega | contradiction
            | skip
              refine r_iincN C dX2_howOften_41 rfl (by decide) rfl ?_
              refine r_goto (tgt := 9) C dX2_howOften_44 (by decide) ?_
              exact ih_L9 (t + 1) z (by omega) (by omega) (by rw [← hF]; simp only [hoF]; first | rw [if_pos (by assumption)] | rw [if_neg (by assumption)])
          · first
            | exfalso; first | omega | contradiction
            | skip
              refine r_iincN C dX2_howOften_38 rfl (by decide) rfl ?_
              refine r_iincN C dX2_howOften_41 rfl (by decide) rfl ?_
              refine r_goto (tgt := 9) C dX2_howOften_44 (by decide) ?_
              exact ih_L9 (t + 1) (z + 1) (by omega) (by omega) (by rw [← hF]; simp only [hoF]; first | rw [if_pos (by assumption)] | rw [if_neg (by assumption)])
  exact L9 (f 4 i) 0 0 (by omega) (by omega) rfl
theorem dX2_least_0 : decode cX2_least 0 = .ok (.iload_n 1, 1) := dqo_27 (kb_X2_least_0 0 rfl)
theorem dX2_least_1 : decode cX2_least 1 = .ok (.invokestatic 126, 3) := dqo_184 0 126 (kb_X2_least_0 1 rfl) (kb_X2_least_0 2 rfl) (kb_X2_least_0 3 rfl)
set_option maxRecDepth 100000 in
set_option maxHeartbeats 4000000 in
theorem C_least_noR {l : Launch} {D : va_G} {cy : Nat → ClassId} {X : (Nat → Prop) → State → Heap → Prop} {a f : Nat → Nat → Nat} {r : Nat → Nat → Int32} {kn : Int32} {Y : va_W} {x : Int32} {y0 : Int32} (hX : EnvX X) (hl : l.stackTraces = false) (hC : CInv f) (hno : ¬ (0 ≤ x ∧ x < nI 4)) : Ce l D cy X yX2_least cX2_least 6 (some .int) (rmk 8 1 6 170) [.ref (a 0 0), .int x, .int y0] (WC cy a f r kn ++ Y) "java/lang/IndexOutOfBoundsException" := by
  have q3 := hC.sp
  refine Cm.of [some (.ref (a 0 0)), some (.int x), some (.int y0), none, none, none] pn_X2 rfl (Nat.le_of_ble_eq_true rfl) ?_
  intro p e s m args below meth c A C hE hr hnt hn
  refine r_iload_n C dX2_least_0 rfl ?_
  refine c_S (st := []) hX.stb C hE (C_needRow_no (f := f) (r := r) (kn := kn) (x := (x)) hX hl hno) pk_X2_needRow qm_X2_126 rfl rfl (Nat.le_of_ble_eq_true rfl) dX2_least_1 ⟨Nat.le_of_ble_eq_true rfl, Nat.le_of_ble_eq_true rfl⟩ ⟨Nat.le_of_ble_eq_true rfl, Nat.le_of_ble_eq_true rfl⟩ (fun _ _ h9 => h9.elim) (fun E9 h9 => ?_)
  subst h9
  exact r_out C hnt rfl rfl (Nat.le_of_ble_eq_true rfl) (Nat.le_of_ble_eq_true rfl)
theorem dX2_least_4 : decode cX2_least 4 = .ok (.aload_n 0, 1) := dqo_42 (kb_X2_least_0 4 rfl)
theorem dX2_least_5 : decode cX2_least 5 = .ok (.getfield 11, 3) := dqo_180 0 11 (kb_X2_least_0 5 rfl) (kb_X2_least_0 6 rfl) (kb_X2_least_0 7 rfl)
theorem dX2_least_8 : decode cX2_least 8 = .ok (.iload_n 1, 1) := dqo_27 (kb_X2_least_0 8 rfl)
theorem dX2_least_9 : decode cX2_least 9 = .ok (.aaload, 1) := dqo_50 (kb_X2_least_0 9 rfl)
theorem dX2_least_10 : decode cX2_least 10 = .ok (.getfield 50, 3) := dqo_180 0 50 (kb_X2_least_0 10 rfl) (kb_X2_least_0 11 rfl) (kb_X2_least_0 12 rfl)
theorem dX2_least_13 : decode cX2_least 13 = .ok (.ifCond .ne 13, 3) := dqo_154 0 13 (by decide) (kb_X2_least_0 13 rfl) (kb_X2_least_0 14 rfl) (kb_X2_least_0 15 rfl)
theorem dX2_least_16 : decode cX2_least 16 = .ok (.new 147, 3) := dqo_187 0 147 (kb_X2_least_0 16 rfl) (kb_X2_least_0 17 rfl) (kb_X2_least_0 18 rfl)
theorem dX2_least_19 : decode cX2_least 19 = .ok (.dup, 1) := dqo_89 (kb_X2_least_0 19 rfl)
theorem dX2_least_20 : decode cX2_least 20 = .ok (.ldc 149, 2) := dqo_18 149 (kb_X2_least_0 20 rfl) (kb_X2_least_0 21 rfl)
theorem dX2_least_22 : decode cX2_least 22 = .ok (.invokespecial 151, 3) := dqo_183 0 151 (kb_X2_least_0 22 rfl) (kb_X2_least_0 23 rfl) (kb_X2_least_0 24 rfl)
theorem dX2_least_25 : decode cX2_least 25 = .ok (.athrow, 1) := dqo_191 (kb_X2_least_0 25 rfl)
set_option maxRecDepth 100000 in
set_option maxHeartbeats 4000000 in
theorem C_least_0 {l : Launch} {D : va_G} {cy : Nat → ClassId} {X : (Nat → Prop) → State → Heap → Prop} {a f : Nat → Nat → Nat} {r : Nat → Nat → Int32} {kn : Int32} {Y : va_W} {i : Nat} {b0 : Nat} (hX : EnvX X) (hl : l.stackTraces = false) (hC : CInv f) (hi4 : i < 4) (hz : f 4 i = 0) : Ce l D cy X yX2_least cX2_least 6 (some .int) (rmk 8 1 6 170) [.ref (a 0 0), .int (nI i), .int (nI b0)] (WC cy a f r kn ++ Y) "java/lang/IllegalStateException" := by
  have q3 := hC.sp
  have q1_i := hC.rw hi4
  have q2_i := hC.al (i := i) (by omega)
  have q6_i : f 4 (f 1 i) = f 4 i := by rw [q1_i.2.1]
  refine Cm.of [some (.ref (a 0 0)), some (.int (nI i)), some (.int (nI b0)), none, none, none] pn_X2 rfl (Nat.le_of_ble_eq_true rfl) ?_
  intro p e s m args below meth c A C hE hr hnt hn
  refine r_iload_n C dX2_least_0 rfl ?_
  refine d_Sv (st := []) hX.stb C hE (C_needRow_ok (f := f) (r := r) (kn := kn) (k := i) hX (by first | omega | (simp [up2, *]; done) | (simp [up2, *]; omega) | (simp only [up2_eq]; omega) | (split <;> omega))) pk_X2_needRow qm_X2_126 rfl rfl (Nat.le_of_ble_eq_true rfl) dX2_least_1 ⟨Nat.le_of_ble_eq_true rfl, Nat.le_of_ble_eq_true rfl⟩ ⟨Nat.le_of_ble_eq_true rfl, Nat.le_of_ble_eq_true rfl⟩ ?_
  refine r_aload_n C dX2_least_4 rfl ?_
  refine s_get C 0 (by decide) qf_X2_11 rfl rfl dX2_least_5 ?_
  refine r_iload_n C dX2_least_8 rfl ?_
  refine s_parts C (by first | omega | (simp [up2, *]; done) | (simp [up2, *]; omega) | (simp only [up2_eq]; omega) | (split <;> omega)) dX2_least_9 ?_
  refine p_getN (v := .int (nI (f 4 i))) hX C hE 4 (by first | omega | (simp [up2, *]; done) | (simp [up2, *]; omega) | (simp only [up2_eq]; omega) | (split <;> omega)) (by decide) qn_X2_50 rfl rfl dX2_least_10 ?_
  refine r_ifN_ne (a := (f 4 i)) (tgt := 26) C (by first | omega | (simp [up2, *]; done) | (simp [up2, *]; omega) | (simp only [up2_eq]; omega) | (split <;> omega)) dX2_least_13 (by decide) (fun h13_1 => ?_) (fun h13_1 => ?_)
  · exact absurd h13_1 (by first | omega | (simp [up2, *]; done) | (simp [up2, *]; omega) | (simp only [up2_eq]; omega) | (split <;> omega))
  · skip
    exact r_throw (cls := "java/lang/IllegalStateException") (text := "the row has no items") (names := ["java/lang/RuntimeException", "java/lang/Exception"]) hX hl C hE hnt thr_X2_147_151 (by decide +kernel) (by decide +kernel) (by decide +kernel) dX2_least_16 dX2_least_19 dX2_least_20 dX2_least_22 dX2_least_25 (by decide) (Nat.le_of_ble_eq_true rfl) (Nat.le_of_ble_eq_true rfl) (Nat.le_of_ble_eq_true rfl) rfl rfl (Nat.le_of_ble_eq_true rfl) (Nat.le_of_ble_eq_true rfl)
theorem dX2_least_26 : decode cX2_least 26 = .ok (.aload_n 0, 1) := dqo_42 (kb_X2_least_0 26 rfl)
theorem dX2_least_27 : decode cX2_least 27 = .ok (.getfield 11, 3) := dqo_180 0 11 (kb_X2_least_0 27 rfl) (kb_X2_least_0 28 rfl) (kb_X2_least_0 29 rfl)
theorem dX2_least_30 : decode cX2_least 30 = .ok (.iload_n 1, 1) := dqo_27 (kb_X2_least_0 30 rfl)
theorem dX2_least_31 : decode cX2_least 31 = .ok (.aaload, 1) := dqo_50 (kb_X2_least_0 31 rfl)
theorem dX2_least_32 : decode cX2_least 32 = .ok (.iconst 0, 1) := dqo_3 (kb_X2_least_0 32 rfl)
theorem dX2_least_33 : decode cX2_least 33 = .ok (.invokevirtual 65, 3) := dqo_182 0 65 (kb_X2_least_0 33 rfl) (kb_X2_least_0 34 rfl) (kb_X2_least_0 35 rfl)
theorem dX2_least_36 : decode cX2_least 36 = .ok (.istore_n 3, 1) := dqo_62 (kb_X2_least_0 36 rfl)
theorem dX2_least_37 : decode cX2_least 37 = .ok (.iconst 1, 1) := dqo_4 (kb_X2_least_0 37 rfl)
theorem dX2_least_38 : decode cX2_least 38 = .ok (.istore 4, 2) := dqo_54 4 (kb_X2_least_0 38 rfl) (kb_X2_least_0 39 rfl)
theorem dX2_least_40 : decode cX2_least 40 = .ok (.iload 4, 2) := dqo_21 4 (kb_X2_least_0 40 rfl) (kb_X2_least_0 41 rfl)
theorem dX2_least_42 : decode cX2_least 42 = .ok (.aload_n 0, 1) := dqo_42 (kb_X2_least_0 42 rfl)
theorem dX2_least_43 : decode cX2_least 43 = .ok (.getfield 11, 3) := dqo_180 0 11 (kb_X2_least_0 43 rfl) (kb_X2_least_0 44 rfl) (kb_X2_least_0 45 rfl)
theorem dX2_least_46 : decode cX2_least 46 = .ok (.iload_n 1, 1) := dqo_27 (kb_X2_least_0 46 rfl)
theorem dX2_least_47 : decode cX2_least 47 = .ok (.aaload, 1) := dqo_50 (kb_X2_least_0 47 rfl)
theorem dX2_least_48 : decode cX2_least 48 = .ok (.getfield 50, 3) := dqo_180 0 50 (kb_X2_least_0 48 rfl) (kb_X2_least_0 49 rfl) (kb_X2_least_0 50 rfl)
theorem dX2_least_51 : decode cX2_least 51 = .ok (.if_icmp .ge 42, 3) := dqo_162 0 42 (by decide) (kb_X2_least_0 51 rfl) (kb_X2_least_0 52 rfl) (kb_X2_least_0 53 rfl)
theorem dX2_least_54 : decode cX2_least 54 = .ok (.aload_n 0, 1) := dqo_42 (kb_X2_least_0 54 rfl)
theorem dX2_least_55 : decode cX2_least 55 = .ok (.getfield 11, 3) := dqo_180 0 11 (kb_X2_least_0 55 rfl) (kb_X2_least_0 56 rfl) (kb_X2_least_0 57 rfl)
theorem dX2_least_58 : decode cX2_least 58 = .ok (.iload_n 1, 1) := dqo_27 (kb_X2_least_0 58 rfl)
theorem dX2_least_59 : decode cX2_least 59 = .ok (.aaload, 1) := dqo_50 (kb_X2_least_0 59 rfl)
theorem dX2_least_60 : decode cX2_least 60 = .ok (.iload 4, 2) := dqo_21 4 (kb_X2_least_0 60 rfl) (kb_X2_least_0 61 rfl)
theorem dX2_least_62 : decode cX2_least 62 = .ok (.invokevirtual 65, 3) := dqo_182 0 65 (kb_X2_least_0 62 rfl) (kb_X2_least_0 63 rfl) (kb_X2_least_1 0 rfl)
theorem dX2_least_65 : decode cX2_least 65 = .ok (.istore 5, 2) := dqo_54 5 (kb_X2_least_1 1 rfl) (kb_X2_least_1 2 rfl)
theorem dX2_least_67 : decode cX2_least 67 = .ok (.iload_n 2, 1) := dqo_28 (kb_X2_least_1 3 rfl)
theorem dX2_least_68 : decode cX2_least 68 = .ok (.ifCond .eq 12, 3) := dqo_153 0 12 (by decide) (kb_X2_least_1 4 rfl) (kb_X2_least_1 5 rfl) (kb_X2_least_1 6 rfl)
theorem dX2_least_71 : decode cX2_least 71 = .ok (.iload_n 3, 1) := dqo_29 (kb_X2_least_1 7 rfl)
theorem dX2_least_72 : decode cX2_least 72 = .ok (.iload 5, 2) := dqo_21 5 (kb_X2_least_1 8 rfl) (kb_X2_least_1 9 rfl)
theorem dX2_least_74 : decode cX2_least 74 = .ok (.invokestatic 152, 3) := dqo_184 0 152 (kb_X2_least_1 10 rfl) (kb_X2_least_1 11 rfl) (kb_X2_least_1 12 rfl)
theorem dX2_least_77 : decode cX2_least 77 = .ok (.goto 9, 3) := dqo_167 0 9 (by decide) (kb_X2_least_1 13 rfl) (kb_X2_least_1 14 rfl) (kb_X2_least_1 15 rfl)
theorem dX2_least_80 : decode cX2_least 80 = .ok (.iload_n 3, 1) := dqo_29 (kb_X2_least_1 16 rfl)
theorem dX2_least_81 : decode cX2_least 81 = .ok (.iload 5, 2) := dqo_21 5 (kb_X2_least_1 17 rfl) (kb_X2_least_1 18 rfl)
theorem dX2_least_83 : decode cX2_least 83 = .ok (.invokestatic 158, 3) := dqo_184 0 158 (kb_X2_least_1 19 rfl) (kb_X2_least_1 20 rfl) (kb_X2_least_1 21 rfl)
theorem dX2_least_86 : decode cX2_least 86 = .ok (.istore_n 3, 1) := dqo_62 (kb_X2_least_1 22 rfl)
theorem dX2_least_87 : decode cX2_least 87 = .ok (.iinc 4 1, 3) := dqo_132 4 1 (by decide) (kb_X2_least_1 23 rfl) (kb_X2_least_1 24 rfl) (kb_X2_least_1 25 rfl)
theorem dX2_least_90 : decode cX2_least 90 = .ok (.goto (-50), 3) := dqo_167 255 206 (by decide) (kb_X2_least_1 26 rfl) (kb_X2_least_1 27 rfl) (kb_X2_least_1 28 rfl)
theorem dX2_least_93 : decode cX2_least 93 = .ok (.iload_n 3, 1) := dqo_29 (kb_X2_least_1 29 rfl)
theorem dX2_least_94 : decode cX2_least 94 = .ok (.ireturn, 1) := dqo_172 (kb_X2_least_1 30 rfl)
set_option maxRecDepth 100000 in
set_option maxHeartbeats 4000000 in
theorem C_least_ok {l : Launch} {D : va_G} {cy : Nat → ClassId} {X : (Nat → Prop) → State → Heap → Prop} {a f : Nat → Nat → Nat} {r : Nat → Nat → Int32} {kn : Int32} {Y : va_W} {i : Nat} {b0 : Nat} (hX : EnvX X) (hC : CInv f) (hi4 : i < 4) (hz : 0 < f 4 i) (hb : b0 ≤ 1) : Cd l D cy X yX2_least cX2_least 6 (some .int) (rmz 6 240) [.ref (a 0 0), .int (nI i), .int (nI b0)] (WC cy a f r kn ++ Y) (some (.int (leF b0 (fun q => r (f 0 i) (f 3 i + q)) (f 4 i - 1) 1 (r (f 0 i) (f 3 i))))) (WC cy a f r kn ++ Y) := by
  have q3 := hC.sp
  have q1_i := hC.rw hi4
  have q2_i := hC.al (i := i) (by omega)
  have q6_i : f 4 (f 1 i) = f 4 i := by rw [q1_i.2.1]
  refine Cm.of [some (.ref (a 0 0)), some (.int (nI i)), some (.int (nI b0)), none, none, none] pn_X2 rfl (Nat.le_of_ble_eq_true rfl) ?_
  intro p e s m args below meth c A C hE hr hnt hn
  refine r_iload_n C dX2_least_0 rfl ?_
  refine d_Sv (st := []) hX.stb C hE (C_needRow_ok (f := f) (r := r) (kn := kn) (k := i) hX (by first | omega | (simp [up2, *]; done) | (simp [up2, *]; omega) | (simp only [up2_eq]; omega) | (split <;> omega))) pk_X2_needRow qm_X2_126 rfl rfl (Nat.le_of_ble_eq_true rfl) dX2_least_1 ⟨Nat.le_of_ble_eq_true rfl, Nat.le_of_ble_eq_true rfl⟩ ⟨Nat.le_of_ble_eq_true rfl, Nat.le_of_ble_eq_true rfl⟩ ?_
  refine r_aload_n C dX2_least_4 rfl ?_
  refine s_get C 0 (by decide) qf_X2_11 rfl rfl dX2_least_5 ?_
  refine r_iload_n C dX2_least_8 rfl ?_
  refine s_parts C (by first | omega | (simp [up2, *]; done) | (simp [up2, *]; omega) | (simp only [up2_eq]; omega) | (split <;> omega)) dX2_least_9 ?_
  refine p_getN (v := .int (nI (f 4 i))) hX C hE 4 (by first | omega | (simp [up2, *]; done) | (simp [up2, *]; omega) | (simp only [up2_eq]; omega) | (split <;> omega)) (by decide) qn_X2_50 rfl rfl dX2_least_10 ?_
  refine r_ifN_ne (a := (f 4 i)) (tgt := 26) C (by first | omega | (simp [up2, *]; done) | (simp [up2, *]; omega) | (simp only [up2_eq]; omega) | (split <;> omega)) dX2_least_13 (by decide) (fun h13_1 => ?_) (fun h13_1 => ?_)
  · skip
    refine r_aload_n C dX2_least_26 rfl ?_
    refine s_get C 0 (by decide) qf_X2_11 rfl rfl dX2_least_27 ?_
    refine r_iload_n C dX2_least_30 rfl ?_
    refine s_parts C (by first | omega | (simp [up2, *]; done) | (simp [up2, *]; omega) | (simp only [up2_eq]; omega) | (split <;> omega)) dX2_least_31 ?_
    refine r_iconst (v := (nI 0)) C dX2_least_32 (by decide) ?_
    refine d_V (st := []) hX.stb C hE (C_itemAt (f := f) (r := r) (kn := kn) (i := i) (k := 0) hX (by first | omega | (simp [up2, *]; done) | (simp [up2, *]; omega) | (simp only [up2_eq]; omega) | (split <;> omega)) (by first | omega | (simp [up2, *]; done) | (simp [up2, *]; omega) | (simp only [up2_eq]; omega) | (split <;> omega)) (by first | omega | (simp [up2, *]; done) | (simp [up2, *]; omega) | (simp only [up2_eq]; omega) | (split <;> omega))) pk_X1_itemAt qm_X2_65 (3 + i) 5 rfl rfl (wc_p (by first | omega | (simp [up2, *]; done) | (simp [up2, *]; omega) | (simp only [up2_eq]; omega) | (split <;> omega))) rfl rfl (Nat.le_of_ble_eq_true rfl) dX2_least_33 ⟨Nat.le_of_ble_eq_true rfl, Nat.le_of_ble_eq_true rfl⟩ ⟨Nat.le_of_ble_eq_true rfl, Nat.le_of_ble_eq_true rfl⟩ ?_
    refine r_istore_n C dX2_least_36 (by decide) rfl ?_
    refine r_iconst (v := (nI 1)) C dX2_least_37 (by decide) ?_
    refine r_istore C dX2_least_38 (by decide) rfl ?_
    have L40 : ∀ (d : Nat) (t : Nat) (z : Int32), (ht : t + d = f 4 i) → (hF : leF b0 (fun q => r (f 0 i) (f 3 i + q)) d t z = leF b0 (fun q => r (f 0 i) (f 3 i + q)) (f 4 i - 1) 1 (r (f 0 i) (f 3 i))) → vC p l e (rmz 6 240) s m args below meth c D A (vx_MQ below (vG (fun v1 w1 => v1 = (some (.int (leF b0 (fun q => r (f 0 i) (f 3 i + q)) (f 4 i - 1) 1 (r (f 0 i) (f 3 i))))) ∧ w1 = WC cy a f r kn ++ Y) D vwCl A) (vGX (fun _ => False) D vwCl (WC cy a f r kn ++ Y) A) args s (rmz 6 240).cells (rmz 6 240).slots A) 6 0 0 (WC cy a f r kn ++ Y) [some (.ref (a 0 0)), some (.int (nI i)), some (.int (nI b0)), some (.int z), some (.int (nI t)), none] 40 [] := by
      intro d
      induction d with
      | zero =>
        intro t z ht hF
        refine r_iload C dX2_least_40 rfl ?_
        refine r_aload_n C dX2_least_42 rfl ?_
        refine s_get C 0 (by decide) qf_X2_11 rfl rfl dX2_least_43 ?_
        refine r_iload_n C dX2_least_46 rfl ?_
        refine s_parts C (by first | omega | (simp [up2, *]; done) | (simp [up2, *]; omega) | (simp only [up2_eq]; omega) | (split <;> omega)) dX2_least_47 ?_
        refine p_getN (v := .int (nI (f 4 i))) hX C hE 4 (by first | omega | (simp [up2, *]; done) | (simp [up2, *]; omega) | (simp only [up2_eq]; omega) | (split <;> omega)) (by decide) qn_X2_50 rfl rfl dX2_least_48 ?_
        refine r_icN_ge (a := t) (b := (f 4 i)) (tgt := 93) C (by first | omega | (simp [up2, *]; done) | (simp [up2, *]; omega) | (simp only [up2_eq]; omega) | (split <;> omega)) (by first | omega | (simp [up2, *]; done) | (simp [up2, *]; omega) | (simp only [up2_eq]; omega) | (split <;> omega)) dX2_least_51 (by decide) (fun h51_2 => ?_) (fun h51_2 => ?_)
        · first
          | exfalso; first | omega | contradiction
          | skip
            refine r_iload_n C dX2_least_93 rfl ?_
            exact r_iret C hr dX2_least_94 ⟨by rw [← hF]; rfl, rfl⟩ (Nat.le_of_ble_eq_true rfl) (Nat.le_of_ble_eq_true rfl)
        · first
          | exfalso; first | omega | contradiction
          | skip
            refine r_aload_n C dX2_least_54 rfl ?_
            refine s_get C 0 (by decide) qf_X2_11 rfl rfl dX2_least_55 ?_
            refine r_iload_n C dX2_least_58 rfl ?_
            refine s_parts C (by first | omega | (simp [up2, *]; done) | (simp [up2, *]; omega) | (simp only [up2_eq]; omega) | (split <;> omega)) dX2_least_59 ?_
            refine r_iload C dX2_least_60 rfl ?_
            refine d_V (st := []) hX.stb C hE (C_itemAt (f := f) (r := r) (kn := kn) (i := i) (k := t) hX (by first | omega | (simp [up2, *]; done) | (simp [up2, *]; omega) | (simp only [up2_eq]; omega) | (split <;> omega)) (by first | omega | (simp [up2, *]; done) | (simp [up2, *]; omega) | (simp only [up2_eq]; omega) | (split <;> omega)) (by first | omega | (simp [up2, *]; done) | (simp [up2, *]; omega) | (simp only [up2_eq]; omega) | (split <;> omega))) pk_X1_itemAt qm_X2_65 (3 + i) 5 rfl rfl (wc_p (by first | omega | (simp [up2, *]; done) | (simp [up2, *]; omega) | (simp only [up2_eq]; omega) | (split <;> omega))) rfl rfl (Nat.le_of_ble_eq_true rfl) dX2_least_62 ⟨Nat.le_of_ble_eq_true rfl, Nat.le_of_ble_eq_true rfl⟩ ⟨Nat.le_of_ble_eq_true rfl, Nat.le_of_ble_eq_true rfl⟩ ?_
            refine r_istore C dX2_least_65 (by decide) rfl ?_
            refine r_iload_n C dX2_least_67 rfl ?_
            refine r_ifN_eq (a := b0) (tgt := 80) C (by first | omega | (simp [up2, *]; done) | (simp [up2, *]; omega) | (simp only [up2_eq]; omega) | (split <;> omega)) dX2_least_68 (by decide) (fun h68_3 => ?_) (fun h68_3 => ?_)
            · first
              | exfalso; first | omega | contradiction
              | skip
                refine r_iload_n C dX2_least_80 rfl ?_
                refine r_iload C dX2_least_81 rfl ?_
                refine d_S (st := []) hX.stb C hE (C_mmin (w := (WC cy a f r kn ++ Y)) (x := (z)) (y := ((r (f 0 i) (f 3 i + t)))) ) pk_J9_min_7cf53 qm_X2_158 rfl rfl (Nat.le_of_ble_eq_true rfl) dX2_least_83 ⟨Nat.le_of_ble_eq_true rfl, Nat.le_of_ble_eq_true rfl⟩ ⟨Nat.le_of_ble_eq_true rfl, Nat.le_of_ble_eq_true rfl⟩ ?_
                refine r_istore_n C dX2_least_86 (by decide) rfl ?_
                refine r_iincN C dX2_least_87 rfl (by decide) rfl ?_
                refine r_goto (tgt := 40) C dX2_least_90 (by decide) ?_
                refine r_drop 5 ?_
                exact (Nat.not_lt_zero _ (by omega)).elim
            · first
              | exfalso; first | omega | contradiction
              | skip
                refine r_iload_n C dX2_least_71 rfl ?_
                refine r_iload C dX2_least_72 rfl ?_
                refine d_S (st := []) hX.stb C hE (C_mmax (w := (WC cy a f r kn ++ Y)) (x := (z)) (y := ((r (f 0 i) (f 3 i + t)))) ) pk_J9_max_7cf53 qm_X2_152 rfl rfl (Nat.le_of_ble_eq_true rfl) dX2_least_74 ⟨Nat.le_of_ble_eq_true rfl, Nat.le_of_ble_eq_true rfl⟩ ⟨Nat.le_of_ble_eq_true rfl, Nat.le_of_ble_eq_true rfl⟩ ?_
                refine r_goto (tgt := 86) C dX2_least_77 (by decide) ?_
                refine r_istore_n C dX2_least_86 (by decide) rfl ?_
                refine r_iincN C dX2_least_87 rfl (by decide) rfl ?_
                refine r_goto (tgt := 40) C dX2_least_90 (by decide) ?_
                refine r_drop 5 ?_
                exact (Nat.not_lt_zero _ (by omega)).elim
      | succ d ih_L40 =>
        intro t z ht hF
        refine r_iload C dX2_least_40 rfl ?_
        refine r_aload_n C dX2_least_42 rfl ?_
        refine s_get C 0 (by decide) qf_X2_11 rfl rfl dX2_least_43 ?_
        refine r_iload_n C dX2_least_46 rfl ?_
        refine s_parts C (by first | omega | (simp [up2, *]; done) | (simp [up2, *]; omega) | (simp only [up2_eq]; omega) | (split <;> omega)) dX2_least_47 ?_
        refine p_getN (v := .int (nI (f 4 i))) hX C hE 4 (by first | omega | (simp [up2, *]; done) | (simp [up2, *]; omega) | (simp only [up2_eq]; omega) | (split <;> omega)) (by decide) qn_X2_50 rfl rfl dX2_least_48 ?_
        refine r_icN_ge (a := t) (b := (f 4 i)) (tgt := 93) C (by first | omega | (simp [up2, *]; done) | (simp [up2, *]; omega) | (simp only [up2_eq]; omega) | (split <;> omega)) (by first | omega | (simp [up2, *]; done) | (simp [up2, *]; omega) | (simp only [up2_eq]; omega) | (split <;> omega)) dX2_least_51 (by decide) (fun h51_4 => ?_) (fun h51_4 => ?_)
        · first
          | exfalso; first | omega | contradiction
          | skip
            refine r_iload_n C dX2_least_93 rfl ?_
            exact r_iret C hr dX2_least_94 ⟨by rw [← hF]; rfl, rfl⟩ (Nat.le_of_ble_eq_true rfl) (Nat.le_of_ble_eq_true rfl)
        · first
          | exfalso; first | omega | contradiction
          | skip
            refine r_aload_n C dX2_least_54 rfl ?_
            refine s_get C 0 (by decide) qf_X2_11 rfl rfl dX2_least_55 ?_
            refine r_iload_n C dX2_least_58 rfl ?_
            refine s_parts C (by first | omega | (simp [up2, *]; done) | (simp [up2, *]; omega) | (simp only [up2_eq]; omega) | (split <;> omega)) dX2_least_59 ?_
            refine r_iload C dX2_least_60 rfl ?_
            refine d_V (st := []) hX.stb C hE (C_itemAt (f := f) (r := r) (kn := kn) (i := i) (k := t) hX (by first | omega | (simp [up2, *]; done) | (simp [up2, *]; omega) | (simp only [up2_eq]; omega) | (split <;> omega)) (by first | omega | (simp [up2, *]; done) | (simp [up2, *]; omega) | (simp only [up2_eq]; omega) | (split <;> omega)) (by first | omega | (simp [up2, *]; done) | (simp [up2, *]; omega) | (simp only [up2_eq]; omega) | (split <;> omega))) pk_X1_itemAt qm_X2_65 (3 + i) 5 rfl rfl (wc_p (by first | omega | (simp [up2, *]; done) | (simp [up2, *]; omega) | (simp only [up2_eq]; omega) | (split <;> omega))) rfl rfl (Nat.le_of_ble_eq_true rfl) dX2_least_62 ⟨Nat.le_of_ble_eq_true rfl, Nat.le_of_ble_eq_true rfl⟩ ⟨Nat.le_of_ble_eq_true rfl, Nat.le_of_ble_eq_true rfl⟩ ?_
            refine r_istore C dX2_least_65 (by decide) rfl ?_
            refine r_iload_n C dX2_least_67 rfl ?_
            refine r_ifN_eq (a := b0) (tgt := 80) C (by first | omega | (simp [up2, *]; done) | (simp [up2, *]; omega) | (simp only [up2_eq]; omega) | (split <;> omega)) dX2_least_68 (by decide) (fun h68_5 => ?_) (fun h68_5 => ?_)
            · first
              | exfalso; first | omega | contradiction
              | skip
                refine r_iload_n C dX2_least_80 rfl ?_
                refine r_iload C dX2_least_81 rfl ?_
                refine d_S (st := []) hX.stb C hE (C_mmin (w := (WC cy a f r kn ++ Y)) (x := (z)) (y := ((r (f 0 i) (f 3 i + t)))) ) pk_J9_min_7cf53 qm_X2_158 rfl rfl (Nat.le_of_ble_eq_true rfl) dX2_least_83 ⟨Nat.le_of_ble_eq_true rfl, Nat.le_of_ble_eq_true rfl⟩ ⟨Nat.le_of_ble_eq_true rfl, Nat.le_of_ble_eq_true rfl⟩ ?_
                refine r_istore_n C dX2_least_86 (by decide) rfl ?_
                refine r_iincN C dX2_least_87 rfl (by decide) rfl ?_
                refine r_goto (tgt := 40) C dX2_least_90 (by decide) ?_
                refine r_drop 5 ?_
                exact ih_L40 (t + 1) _ (by omega) (by rw [← hF]; show _ = if b0 = 0 then _ else _; first | rw [if_pos (show b0 = 0 by assumption)] | rw [if_neg (show ¬ b0 = 0 by assumption)])
            · first
              | exfalso; first | omega | contradiction
              | skip
                refine r_iload_n C dX2_least_71 rfl ?_
                refine r_iload C dX2_least_72 rfl ?_
                refine d_S (st := []) hX.stb C hE (C_mmax (w := (WC cy a f r kn ++ Y)) (x := (z)) (y := ((r (f 0 i) (f 3 i + t)))) ) pk_J9_max_7cf53 qm_X2_152 rfl rfl (Nat.le_of_ble_eq_true rfl) dX2_least_74 ⟨Nat.le_of_ble_eq_true rfl, Nat.le_of_ble_eq_true rfl⟩ ⟨Nat.le_of_ble_eq_true rfl, Nat.le_of_ble_eq_true rfl⟩ ?_
                refine r_goto (tgt := 86) C dX2_least_77 (by decide) ?_
                refine r_istore_n C dX2_least_86 (by decide) rfl ?_
                refine r_iincN C dX2_least_87 rfl (by decide) rfl ?_
                refine r_goto (tgt := 40) C dX2_least_90 (by decide) ?_
                refine r_drop 5 ?_
                exact ih_L40 (t + 1) _ (by omega) (by rw [← hF]; show _ = if b0 = 0 then _ else _; first | rw [if_pos (show b0 = 0 by assumption)] | rw [if_neg (show ¬ b0 = 0 by assumption)])
    exact L40 (f 4 i - 1) 1 _ (by omega) rfl
  · exact absurd h13_1 (by first | omega | (simp [up2, *]; done) | (simp [up2, *]; omega) | (simp only [up2_eq]; omega) | (split <;> omega))
theorem dX2_areApart_0 : decode cX2_areApart 0 = .ok (.iload_n 1, 1) := dqo_27 (kb_of ke_X2_areApart 0 rfl)
theorem dX2_areApart_1 : decode cX2_areApart 1 = .ok (.invokestatic 126, 3) := dqo_184 0 126 (kb_of ke_X2_areApart 1 rfl) (kb_of ke_X2_areApart 2 rfl) (kb_of ke_X2_areApart 3 rfl)
set_option maxRecDepth 100000 in
set_option maxHeartbeats 4000000 in
theorem C_areApart_noR {l : Launch} {D : va_G} {cy : Nat → ClassId} {X : (Nat → Prop) → State → Heap → Prop} {a f : Nat → Nat → Nat} {r : Nat → Nat → Int32} {kn : Int32} {Y : va_W} {x : Int32} {y0 : Int32} (hX : EnvX X) (hl : l.stackTraces = false) (hC : CInv f) (hno : ¬ (0 ≤ x ∧ x < nI 4)) : Ce l D cy X yX2_areApart cX2_areApart 4 (some .boolean) (rmk 8 1 6 170) [.ref (a 0 0), .int x, .int y0] (WC cy a f r kn ++ Y) "java/lang/IndexOutOfBoundsException" := by
  have q3 := hC.sp
  refine Cm.of [some (.ref (a 0 0)), some (.int x), some (.int y0), none] pn_X2 rfl (Nat.le_of_ble_eq_true rfl) ?_
  intro p e s m args below meth c A C hE hr hnt hn
  refine r_iload_n C dX2_areApart_0 rfl ?_
  refine c_S (st := []) hX.stb C hE (C_needRow_no (f := f) (r := r) (kn := kn) (x := (x)) hX hl hno) pk_X2_needRow qm_X2_126 rfl rfl (Nat.le_of_ble_eq_true rfl) dX2_areApart_1 ⟨Nat.le_of_ble_eq_true rfl, Nat.le_of_ble_eq_true rfl⟩ ⟨Nat.le_of_ble_eq_true rfl, Nat.le_of_ble_eq_true rfl⟩ (fun _ _ h9 => h9.elim) (fun E9 h9 => ?_)
  subst h9
  exact r_out C hnt rfl rfl (Nat.le_of_ble_eq_true rfl) (Nat.le_of_ble_eq_true rfl)
theorem dX2_areSame_0 : decode cX2_areSame 0 = .ok (.iload_n 1, 1) := dqo_27 (kb_of ke_X2_areSame 0 rfl)
theorem dX2_areSame_1 : decode cX2_areSame 1 = .ok (.invokestatic 126, 3) := dqo_184 0 126 (kb_of ke_X2_areSame 1 rfl) (kb_of ke_X2_areSame 2 rfl) (kb_of ke_X2_areSame 3 rfl)
set_option maxRecDepth 100000 in
set_option maxHeartbeats 4000000 in
theorem C_areSame_noR {l : Launch} {D : va_G} {cy : Nat → ClassId} {X : (Nat → Prop) → State → Heap → Prop} {a f : Nat → Nat → Nat} {r : Nat → Nat → Int32} {kn : Int32} {Y : va_W} {x : Int32} {y0 : Int32} (hX : EnvX X) (hl : l.stackTraces = false) (hC : CInv f) (hno : ¬ (0 ≤ x ∧ x < nI 4)) : Ce l D cy X yX2_areSame cX2_areSame 3 (some .boolean) (rmk 8 1 6 170) [.ref (a 0 0), .int x, .int y0] (WC cy a f r kn ++ Y) "java/lang/IndexOutOfBoundsException" := by
  have q3 := hC.sp
  refine Cm.of [some (.ref (a 0 0)), some (.int x), some (.int y0)] pn_X2 rfl (Nat.le_of_ble_eq_true rfl) ?_
  intro p e s m args below meth c A C hE hr hnt hn
  refine r_iload_n C dX2_areSame_0 rfl ?_
  refine c_S (st := []) hX.stb C hE (C_needRow_no (f := f) (r := r) (kn := kn) (x := (x)) hX hl hno) pk_X2_needRow qm_X2_126 rfl rfl (Nat.le_of_ble_eq_true rfl) dX2_areSame_1 ⟨Nat.le_of_ble_eq_true rfl, Nat.le_of_ble_eq_true rfl⟩ ⟨Nat.le_of_ble_eq_true rfl, Nat.le_of_ble_eq_true rfl⟩ (fun _ _ h9 => h9.elim) (fun E9 h9 => ?_)
  subst h9
  exact r_out C hnt rfl rfl (Nat.le_of_ble_eq_true rfl) (Nat.le_of_ble_eq_true rfl)
theorem dX2_areApart_4 : decode cX2_areApart 4 = .ok (.iload_n 2, 1) := dqo_28 (kb_of ke_X2_areApart 4 rfl)
theorem dX2_areApart_5 : decode cX2_areApart 5 = .ok (.invokestatic 126, 3) := dqo_184 0 126 (kb_of ke_X2_areApart 5 rfl) (kb_of ke_X2_areApart 6 rfl) (kb_of ke_X2_areApart 7 rfl)
set_option maxRecDepth 100000 in
set_option maxHeartbeats 4000000 in
theorem C_areApart_noR2 {l : Launch} {D : va_G} {cy : Nat → ClassId} {X : (Nat → Prop) → State → Heap → Prop} {a f : Nat → Nat → Nat} {r : Nat → Nat → Int32} {kn : Int32} {Y : va_W} {i : Nat} {x : Int32} (hX : EnvX X) (hl : l.stackTraces = false) (hC : CInv f) (hi4 : i < 4) (hno : ¬ (0 ≤ x ∧ x < nI 4)) : Ce l D cy X yX2_areApart cX2_areApart 4 (some .boolean) (rmk 8 1 6 170) [.ref (a 0 0), .int (nI i), .int x] (WC cy a f r kn ++ Y) "java/lang/IndexOutOfBoundsException" := by
  have q3 := hC.sp
  have q1_i := hC.rw hi4
  have q2_i := hC.al (i := i) (by omega)
  have q6_i : f 4 (f 1 i) = f 4 i := by rw [q1_i.2.1]
  refine Cm.of [some (.ref (a 0 0)), some (.int (nI i)), some (.int x), none] pn_X2 rfl (Nat.le_of_ble_eq_true rfl) ?_
  intro p e s m args below meth c A C hE hr hnt hn
  refine r_iload_n C dX2_areApart_0 rfl ?_
  refine d_Sv (st := []) hX.stb C hE (C_needRow_ok (f := f) (r := r) (kn := kn) (k := i) hX (by first | omega | (simp [up2, *]; done) | (simp [up2, *]; omega) | (simp only [up2_eq]; omega) | (split <;> omega))) pk_X2_needRow qm_X2_126 rfl rfl (Nat.le_of_ble_eq_true rfl) dX2_areApart_1 ⟨Nat.le_of_ble_eq_true rfl, Nat.le_of_ble_eq_true rfl⟩ ⟨Nat.le_of_ble_eq_true rfl, Nat.le_of_ble_eq_true rfl⟩ ?_
  refine r_iload_n C dX2_areApart_4 rfl ?_
  refine c_S (st := []) hX.stb C hE (C_needRow_no (f := f) (r := r) (kn := kn) (x := (x)) hX hl hno) pk_X2_needRow qm_X2_126 rfl rfl (Nat.le_of_ble_eq_true rfl) dX2_areApart_5 ⟨Nat.le_of_ble_eq_true rfl, Nat.le_of_ble_eq_true rfl⟩ ⟨Nat.le_of_ble_eq_true rfl, Nat.le_of_ble_eq_true rfl⟩ (fun _ _ h9 => h9.elim) (fun E9 h9 => ?_)
  subst h9
  exact r_out C hnt rfl rfl (Nat.le_of_ble_eq_true rfl) (Nat.le_of_ble_eq_true rfl)
theorem dX2_areSame_4 : decode cX2_areSame 4 = .ok (.iload_n 2, 1) := dqo_28 (kb_of ke_X2_areSame 4 rfl)
theorem dX2_areSame_5 : decode cX2_areSame 5 = .ok (.invokestatic 126, 3) := dqo_184 0 126 (kb_of ke_X2_areSame 5 rfl) (kb_of ke_X2_areSame 6 rfl) (kb_of ke_X2_areSame 7 rfl)
set_option maxRecDepth 100000 in
set_option maxHeartbeats 4000000 in
theorem C_areSame_noR2 {l : Launch} {D : va_G} {cy : Nat → ClassId} {X : (Nat → Prop) → State → Heap → Prop} {a f : Nat → Nat → Nat} {r : Nat → Nat → Int32} {kn : Int32} {Y : va_W} {i : Nat} {x : Int32} (hX : EnvX X) (hl : l.stackTraces = false) (hC : CInv f) (hi4 : i < 4) (hno : ¬ (0 ≤ x ∧ x < nI 4)) : Ce l D cy X yX2_areSame cX2_areSame 3 (some .boolean) (rmk 8 1 6 170) [.ref (a 0 0), .int (nI i), .int x] (WC cy a f r kn ++ Y) "java/lang/IndexOutOfBoundsException" := by
  have q3 := hC.sp
  have q1_i := hC.rw hi4
  have q2_i := hC.al (i := i) (by omega)
  have q6_i : f 4 (f 1 i) = f 4 i := by rw [q1_i.2.1]
  refine Cm.of [some (.ref (a 0 0)), some (.int (nI i)), some (.int x)] pn_X2 rfl (Nat.le_of_ble_eq_true rfl) ?_
  intro p e s m args below meth c A C hE hr hnt hn
  refine r_iload_n C dX2_areSame_0 rfl ?_
  refine d_Sv (st := []) hX.stb C hE (C_needRow_ok (f := f) (r := r) (kn := kn) (k := i) hX (by first | omega | (simp [up2, *]; done) | (simp [up2, *]; omega) | (simp only [up2_eq]; omega) | (split <;> omega))) pk_X2_needRow qm_X2_126 rfl rfl (Nat.le_of_ble_eq_true rfl) dX2_areSame_1 ⟨Nat.le_of_ble_eq_true rfl, Nat.le_of_ble_eq_true rfl⟩ ⟨Nat.le_of_ble_eq_true rfl, Nat.le_of_ble_eq_true rfl⟩ ?_
  refine r_iload_n C dX2_areSame_4 rfl ?_
  refine c_S (st := []) hX.stb C hE (C_needRow_no (f := f) (r := r) (kn := kn) (x := (x)) hX hl hno) pk_X2_needRow qm_X2_126 rfl rfl (Nat.le_of_ble_eq_true rfl) dX2_areSame_5 ⟨Nat.le_of_ble_eq_true rfl, Nat.le_of_ble_eq_true rfl⟩ ⟨Nat.le_of_ble_eq_true rfl, Nat.le_of_ble_eq_true rfl⟩ (fun _ _ h9 => h9.elim) (fun E9 h9 => ?_)
  subst h9
  exact r_out C hnt rfl rfl (Nat.le_of_ble_eq_true rfl) (Nat.le_of_ble_eq_true rfl)
theorem dX2_areApart_8 : decode cX2_areApart 8 = .ok (.iconst 0, 1) := dqo_3 (kb_of ke_X2_areApart 8 rfl)
theorem dX2_areApart_9 : decode cX2_areApart 9 = .ok (.istore_n 3, 1) := dqo_62 (kb_of ke_X2_areApart 9 rfl)
theorem dX2_areApart_10 : decode cX2_areApart 10 = .ok (.iload_n 3, 1) := dqo_29 (kb_of ke_X2_areApart 10 rfl)
theorem dX2_areApart_11 : decode cX2_areApart 11 = .ok (.aload_n 0, 1) := dqo_42 (kb_of ke_X2_areApart 11 rfl)
theorem dX2_areApart_12 : decode cX2_areApart 12 = .ok (.getfield 11, 3) := dqo_180 0 11 (kb_of ke_X2_areApart 12 rfl) (kb_of ke_X2_areApart 13 rfl) (kb_of ke_X2_areApart 14 rfl)
theorem dX2_areApart_15 : decode cX2_areApart 15 = .ok (.iload_n 1, 1) := dqo_27 (kb_of ke_X2_areApart 15 rfl)
theorem dX2_areApart_16 : decode cX2_areApart 16 = .ok (.aaload, 1) := dqo_50 (kb_of ke_X2_areApart 16 rfl)
theorem dX2_areApart_17 : decode cX2_areApart 17 = .ok (.getfield 50, 3) := dqo_180 0 50 (kb_of ke_X2_areApart 17 rfl) (kb_of ke_X2_areApart 18 rfl) (kb_of ke_X2_areApart 19 rfl)
theorem dX2_areApart_20 : decode cX2_areApart 20 = .ok (.if_icmp .ge 33, 3) := dqo_162 0 33 (by decide) (kb_of ke_X2_areApart 20 rfl) (kb_of ke_X2_areApart 21 rfl) (kb_of ke_X2_areApart 22 rfl)
theorem dX2_areApart_23 : decode cX2_areApart 23 = .ok (.aload_n 0, 1) := dqo_42 (kb_of ke_X2_areApart 23 rfl)
theorem dX2_areApart_24 : decode cX2_areApart 24 = .ok (.getfield 11, 3) := dqo_180 0 11 (kb_of ke_X2_areApart 24 rfl) (kb_of ke_X2_areApart 25 rfl) (kb_of ke_X2_areApart 26 rfl)
theorem dX2_areApart_27 : decode cX2_areApart 27 = .ok (.iload_n 2, 1) := dqo_28 (kb_of ke_X2_areApart 27 rfl)
theorem dX2_areApart_28 : decode cX2_areApart 28 = .ok (.aaload, 1) := dqo_50 (kb_of ke_X2_areApart 28 rfl)
theorem dX2_areApart_29 : decode cX2_areApart 29 = .ok (.aload_n 0, 1) := dqo_42 (kb_of ke_X2_areApart 29 rfl)
theorem dX2_areApart_30 : decode cX2_areApart 30 = .ok (.getfield 11, 3) := dqo_180 0 11 (kb_of ke_X2_areApart 30 rfl) (kb_of ke_X2_areApart 31 rfl) (kb_of ke_X2_areApart 32 rfl)
theorem dX2_areApart_33 : decode cX2_areApart 33 = .ok (.iload_n 1, 1) := dqo_27 (kb_of ke_X2_areApart 33 rfl)
theorem dX2_areApart_34 : decode cX2_areApart 34 = .ok (.aaload, 1) := dqo_50 (kb_of ke_X2_areApart 34 rfl)
theorem dX2_areApart_35 : decode cX2_areApart 35 = .ok (.iload_n 3, 1) := dqo_29 (kb_of ke_X2_areApart 35 rfl)
theorem dX2_areApart_36 : decode cX2_areApart 36 = .ok (.invokevirtual 65, 3) := dqo_182 0 65 (kb_of ke_X2_areApart 36 rfl) (kb_of ke_X2_areApart 37 rfl) (kb_of ke_X2_areApart 38 rfl)
theorem dX2_areApart_39 : decode cX2_areApart 39 = .ok (.invokevirtual 144, 3) := dqo_182 0 144 (kb_of ke_X2_areApart 39 rfl) (kb_of ke_X2_areApart 40 rfl) (kb_of ke_X2_areApart 41 rfl)
theorem dX2_areApart_42 : decode cX2_areApart 42 = .ok (.ifCond .eq 5, 3) := dqo_153 0 5 (by decide) (kb_of ke_X2_areApart 42 rfl) (kb_of ke_X2_areApart 43 rfl) (kb_of ke_X2_areApart 44 rfl)
theorem dX2_areApart_45 : decode cX2_areApart 45 = .ok (.iconst 0, 1) := dqo_3 (kb_of ke_X2_areApart 45 rfl)
theorem dX2_areApart_46 : decode cX2_areApart 46 = .ok (.ireturn, 1) := dqo_172 (kb_of ke_X2_areApart 46 rfl)
theorem dX2_areApart_47 : decode cX2_areApart 47 = .ok (.iinc 3 1, 3) := dqo_132 3 1 (by decide) (kb_of ke_X2_areApart 47 rfl) (kb_of ke_X2_areApart 48 rfl) (kb_of ke_X2_areApart 49 rfl)
theorem dX2_areApart_50 : decode cX2_areApart 50 = .ok (.goto (-40), 3) := dqo_167 255 216 (by decide) (kb_of ke_X2_areApart 50 rfl) (kb_of ke_X2_areApart 51 rfl) (kb_of ke_X2_areApart 52 rfl)
theorem dX2_areApart_53 : decode cX2_areApart 53 = .ok (.iconst 1, 1) := dqo_4 (kb_of ke_X2_areApart 53 rfl)
theorem dX2_areApart_54 : decode cX2_areApart 54 = .ok (.ireturn, 1) := dqo_172 (kb_of ke_X2_areApart 54 rfl)
set_option maxRecDepth 100000 in
set_option maxHeartbeats 4000000 in
theorem C_areApart_ok {l : Launch} {D : va_G} {cy : Nat → ClassId} {X : (Nat → Prop) → State → Heap → Prop} {a f : Nat → Nat → Nat} {r : Nat → Nat → Int32} {kn : Int32} {Y : va_W} {i : Nat} {j : Nat} (hX : EnvX X) (hC : CInv f) (hi4 : i < 4) (hj4 : j < 4) : Cd l D cy X yX2_areApart cX2_areApart 4 (some .boolean) (rmz 6 240) [.ref (a 0 0), .int (nI i), .int (nI j)] (WC cy a f r kn ++ Y) (some (.int (nI (apF (hsP r f j) (fun q => r (f 0 i) (f 3 i + q)) (f 4 i) 0)))) (WC cy a f r kn ++ Y) := by
  have q3 := hC.sp
  have q1_i := hC.rw hi4
  have q2_i := hC.al (i := i) (by omega)
  have q6_i : f 4 (f 1 i) = f 4 i := by rw [q1_i.2.1]
  have q1_j := hC.rw hj4
  have q2_j := hC.al (i := j) (by omega)
  have q6_j : f 4 (f 1 j) = f 4 j := by rw [q1_j.2.1]
  refine Cm.of [some (.ref (a 0 0)), some (.int (nI i)), some (.int (nI j)), none] pn_X2 rfl (Nat.le_of_ble_eq_true rfl) ?_
  intro p e s m args below meth c A C hE hr hnt hn
  refine r_iload_n C dX2_areApart_0 rfl ?_
  refine d_Sv (st := []) hX.stb C hE (C_needRow_ok (f := f) (r := r) (kn := kn) (k := i) hX (by first | omega | (simp [up2, *]; done) | (simp [up2, *]; omega) | (simp only [up2_eq]; omega) | (split <;> omega))) pk_X2_needRow qm_X2_126 rfl rfl (Nat.le_of_ble_eq_true rfl) dX2_areApart_1 ⟨Nat.le_of_ble_eq_true rfl, Nat.le_of_ble_eq_true rfl⟩ ⟨Nat.le_of_ble_eq_true rfl, Nat.le_of_ble_eq_true rfl⟩ ?_
  refine r_iload_n C dX2_areApart_4 rfl ?_
  refine d_Sv (st := []) hX.stb C hE (C_needRow_ok (f := f) (r := r) (kn := kn) (k := j) hX (by first | omega | (simp [up2, *]; done) | (simp [up2, *]; omega) | (simp only [up2_eq]; omega) | (split <;> omega))) pk_X2_needRow qm_X2_126 rfl rfl (Nat.le_of_ble_eq_true rfl) dX2_areApart_5 ⟨Nat.le_of_ble_eq_true rfl, Nat.le_of_ble_eq_true rfl⟩ ⟨Nat.le_of_ble_eq_true rfl, Nat.le_of_ble_eq_true rfl⟩ ?_
  refine r_iconst (v := (nI 0)) C dX2_areApart_8 (by decide) ?_
  refine r_istore_n C dX2_areApart_9 (by decide) rfl ?_
  have L10 : ∀ (d : Nat) (t : Nat), (ht : t + d = f 4 i) → (hF : apF (hsP r f j) (fun q => r (f 0 i) (f 3 i + q)) d t = apF (hsP r f j) (fun q => r (f 0 i) (f 3 i + q)) (f 4 i) 0) → vC p l e (rmz 6 240) s m args below meth c D A (vx_MQ below (vG (fun v1 w1 => v1 = (some (.int (nI (apF (hsP r f j) (fun q => r (f 0 i) (f 3 i + q)) (f 4 i) 0)))) ∧ w1 = WC cy a f r kn ++ Y) D vwCl A) (vGX (fun _ => False) D vwCl (WC cy a f r kn ++ Y) A) args s (rmz 6 240).cells (rmz 6 240).slots A) 4 0 0 (WC cy a f r kn ++ Y) [some (.ref (a 0 0)), some (.int (nI i)), some (.int (nI j)), some (.int (nI t))] 10 [] := by
    intro d
    induction d with
    | zero =>
      intro t ht hF
      refine r_iload_n C dX2_areApart_10 rfl ?_
      refine r_aload_n C dX2_areApart_11 rfl ?_
      refine s_get C 0 (by decide) qf_X2_11 rfl rfl dX2_areApart_12 ?_
      refine r_iload_n C dX2_areApart_15 rfl ?_
      refine s_parts C (by first | omega | (simp [up2, *]; done) | (simp [up2, *]; omega) | (simp only [up2_eq]; omega) | (split <;> omega)) dX2_areApart_16 ?_
      refine p_getN (v := .int (nI (f 4 i))) hX C hE 4 (by first | omega | (simp [up2, *]; done) | (simp [up2, *]; omega) | (simp only [up2_eq]; omega) | (split <;> omega)) (by decide) qn_X2_50 rfl rfl dX2_areApart_17 ?_
      refine r_icN_ge (a := t) (b := (f 4 i)) (tgt := 53) C (by first | omega | (simp [up2, *]; done) | (simp [up2, *]; omega) | (simp only [up2_eq]; omega) | (split <;> omega)) (by first | omega | (simp [up2, *]; done) | (simp [up2, *]; omega) | (simp only [up2_eq]; omega) | (split <;> omega)) dX2_areApart_20 (by decide) (fun h20_1 => ?_) (fun h20_1 => ?_)
      · first
        | exfalso; first | omega | contradiction
        | skip
          refine r_iconst (v := (nI 1)) C dX2_areApart_53 (by decide) ?_
          exact r_zret C hr (by first | omega | (simp [up2, *]; done) | (simp [up2, *]; omega) | (simp only [up2_eq]; omega) | (split <;> omega)) dX2_areApart_54 ⟨by rw [← hF]; first | rfl | (simp only [apF]; rw [if_neg (by assumption)]), rfl⟩ (Nat.le_of_ble_eq_true rfl) (Nat.le_of_ble_eq_true rfl)
      · first
        | exfalso; first | omega | contradiction
        | skip
          refine r_aload_n C dX2_areApart_23 rfl ?_
          refine s_get C 0 (by decide) qf_X2_11 rfl rfl dX2_areApart_24 ?_
          refine r_iload_n C dX2_areApart_27 rfl ?_
          refine s_parts C (by first | omega | (simp [up2, *]; done) | (simp [up2, *]; omega) | (simp only [up2_eq]; omega) | (split <;> omega)) dX2_areApart_28 ?_
          refine r_aload_n C dX2_areApart_29 rfl ?_
          refine s_get C 0 (by decide) qf_X2_11 rfl rfl dX2_areApart_30 ?_
          refine r_iload_n C dX2_areApart_33 rfl ?_
          refine s_parts C (by first | omega | (simp [up2, *]; done) | (simp [up2, *]; omega) | (simp only [up2_eq]; omega) | (split <;> omega)) dX2_areApart_34 ?_
          refine r_iload_n C dX2_areApart_35 rfl ?_
          refine d_V (st := [.ref (a 1 j)]) hX.stb C hE (C_itemAt (f := f) (r := r) (kn := kn) (i := i) (k := t) hX (by first | omega | (simp [up2, *]; done) | (simp [up2, *]; omega) | (simp only [up2_eq]; omega) | (split <;> omega)) (by first | omega | (simp [up2, *]; done) | (simp [up2, *]; omega) | (simp only [up2_eq]; omega) | (split <;> omega)) (by first | omega | (simp [up2, *]; done) | (simp [up2, *]; omega) | (simp only [up2_eq]; omega) | (split <;> omega))) pk_X1_itemAt qm_X2_65 (3 + i) 5 rfl rfl (wc_p (by first | omega | (simp [up2, *]; done) | (simp [up2, *]; omega) | (simp only [up2_eq]; omega) | (split <;> omega))) rfl rfl (Nat.le_of_ble_eq_true rfl) dX2_areApart_36 ⟨Nat.le_of_ble_eq_true rfl, Nat.le_of_ble_eq_true rfl⟩ ⟨Nat.le_of_ble_eq_true rfl, Nat.le_of_ble_eq_true rfl⟩ ?_
          refine d_V (st := []) hX.stb C hE (C_has (f := f) (r := r) (kn := kn) (i := j) (x := ((r (f 0 i) (f 3 i + t)))) hX (by first | omega | (simp [up2, *]; done) | (simp [up2, *]; omega) | (simp only [up2_eq]; omega) | (split <;> omega)) (by first | omega | (simp [up2, *]; done) | (simp [up2, *]; omega) | (simp only [up2_eq]; omega) | (split <;> omega)) (by first | omega | (simp [up2, *]; done) | (simp [up2, *]; omega) | (simp only [up2_eq]; omega) | (split <;> omega))) pk_X1_has qm_X2_144 (3 + j) 5 rfl rfl (wc_p (by first | omega | (simp [up2, *]; done) | (simp [up2, *]; omega) | (simp only [up2_eq]; omega) | (split <;> omega))) rfl rfl (Nat.le_of_ble_eq_true rfl) dX2_areApart_39 ⟨Nat.le_of_ble_eq_true rfl, Nat.le_of_ble_eq_true rfl⟩ ⟨Nat.le_of_ble_eq_true rfl, Nat.le_of_ble_eq_true rfl⟩ ?_
          refine r_ifN_eq (a := (hsP r f j (r (f 0 i) (f 3 i + t)))) (tgt := 47) C (by unfold hsP; split <;> omega) dX2_areApart_42 (by decide) (fun h42_2 => ?_) (fun h42_2 => ?_)
          · first
            | exfalso; first | omega | contradiction
            | skip
              refine r_iincN C dX2_areApart_47 rfl (by decide) rfl ?_
              refine r_goto (tgt := 10) C dX2_areApart_50 (by decide) ?_
              exact (Nat.not_lt_zero _ (by omega)).elim
          · first
            | exfalso; first | omega | contradiction
            | skip
              refine r_iconst (v := (nI 0)) C dX2_areApart_45 (by decide) ?_
              exact r_zret C hr (by first | omega | (simp [up2, *]; done) | (simp [up2, *]; omega) | (simp only [up2_eq]; omega) | (split <;> omega)) dX2_areApart_46 ⟨by rw [← hF]; first | rfl | (simp only [apF]; rw [if_neg (by assumption)]), rfl⟩ (Nat.le_of_ble_eq_true rfl) (Nat.le_of_ble_eq_true rfl)
    | succ d ih_L10 =>
      intro t ht hF
      refine r_iload_n C dX2_areApart_10 rfl ?_
      refine r_aload_n C dX2_areApart_11 rfl ?_
      refine s_get C 0 (by decide) qf_X2_11 rfl rfl dX2_areApart_12 ?_
      refine r_iload_n C dX2_areApart_15 rfl ?_
      refine s_parts C (by first | omega | (simp [up2, *]; done) | (simp [up2, *]; omega) | (simp only [up2_eq]; omega) | (split <;> omega)) dX2_areApart_16 ?_
      refine p_getN (v := .int (nI (f 4 i))) hX C hE 4 (by first | omega | (simp [up2, *]; done) | (simp [up2, *]; omega) | (simp only [up2_eq]; omega) | (split <;> omega)) (by decide) qn_X2_50 rfl rfl dX2_areApart_17 ?_
      refine r_icN_ge (a := t) (b := (f 4 i)) (tgt := 53) C (by first | omega | (simp [up2, *]; done) | (simp [up2, *]; omega) | (simp only [up2_eq]; omega) | (split <;> omega)) (by first | omega | (simp [up2, *]; done) | (simp [up2, *]; omega) | (simp only [up2_eq]; omega) | (split <;> omega)) dX2_areApart_20 (by decide) (fun h20_3 => ?_) (fun h20_3 => ?_)
      · first
        | exfalso; first | omega | contradiction
        | skip
          refine r_iconst (v := (nI 1)) C dX2_areApart_53 (by decide) ?_
          exact r_zret C hr (by first | omega | (simp [up2, *]; done) | (simp [up2, *]; omega) | (simp only [up2_eq]; omega) | (split <;> omega)) dX2_areApart_54 ⟨by rw [← hF]; first | rfl | (simp only [apF]; rw [if_neg (by assumption)]), rfl⟩ (Nat.le_of_ble_eq_true rfl) (Nat.le_of_ble_eq_true rfl)
      · first
        | exfalso; first | omega | contradiction
        | skip
          refine r_aload_n C dX2_areApart_23 rfl ?_
          refine s_get C 0 (by decide) qf_X2_11 rfl rfl dX2_areApart_24 ?_
          refine r_iload_n C dX2_areApart_27 rfl ?_
          refine s_parts C (by first | omega | (simp [up2, *]; done) | (simp [up2, *]; omega) | (simp only [up2_eq]; omega) | (split <;> omega)) dX2_areApart_28 ?_
          refine r_aload_n C dX2_areApart_29 rfl ?_
          refine s_get C 0 (by decide) qf_X2_11 rfl rfl dX2_areApart_30 ?_
          refine r_iload_n C dX2_areApart_33 rfl ?_
          refine s_parts C (by first | omega | (simp [up2, *]; done) | (simp [up2, *]; omega) | (simp only [up2_eq]; omega) | (split <;> omega)) dX2_areApart_34 ?_
          refine r_iload_n C dX2_areApart_35 rfl ?_
          refine d_V (st := [.ref (a 1 j)]) hX.stb C hE (C_itemAt (f := f) (r := r) (kn := kn) (i := i) (k := t) hX (by first | omega | (simp [up2, *]; done) | (simp [up2, *]; omega) | (simp only [up2_eq]; omega) | (split <;> omega)) (by first | omega | (simp [up2, *]; done) | (simp [up2, *]; omega) | (simp only [up2_eq]; omega) | (split <;> omega)) (by first | omega | (simp [up2, *]; done) | (simp [up2, *]; omega) | (simp only [up2_eq]; omega) | (split <;> omega))) pk_X1_itemAt qm_X2_65 (3 + i) 5 rfl rfl (wc_p (by first | omega | (simp [up2, *]; done) | (simp [up2, *]; omega) | (simp only [up2_eq]; omega) | (split <;> omega))) rfl rfl (Nat.le_of_ble_eq_true rfl) dX2_areApart_36 ⟨Nat.le_of_ble_eq_true rfl, Nat.le_of_ble_eq_true rfl⟩ ⟨Nat.le_of_ble_eq_true rfl, Nat.le_of_ble_eq_true rfl⟩ ?_
          refine d_V (st := []) hX.stb C hE (C_has (f := f) (r := r) (kn := kn) (i := j) (x := ((r (f 0 i) (f 3 i + t)))) hX (by first | omega | (simp [up2, *]; done) | (simp [up2, *]; omega) | (simp only [up2_eq]; omega) | (split <;> omega)) (by first | omega | (simp [up2, *]; done) | (simp [up2, *]; omega) | (simp only [up2_eq]; omega) | (split <;> omega)) (by first | omega | (simp [up2, *]; done) | (simp [up2, *]; omega) | (simp only [up2_eq]; omega) | (split <;> omega))) pk_X1_has qm_X2_144 (3 + j) 5 rfl rfl (wc_p (by first | omega | (simp [up2, *]; done) | (simp [up2, *]; omega) | (simp only [up2_eq]; omega) | (split <;> omega))) rfl rfl (Nat.le_of_ble_eq_true rfl) dX2_areApart_39 ⟨Nat.le_of_ble_eq_true rfl, Nat.le_of_ble_eq_true rfl⟩ ⟨Nat.le_of_ble_eq_true rfl, Nat.le_of_ble_eq_true rfl⟩ ?_
          refine r_ifN_eq (a := (hsP r f j (r (f 0 i) (f 3 i + t)))) (tgt := 47) C (by unfold hsP; split <;> omega) dX2_areApart_42 (by decide) (fun h42_4 => ?_) (fun h42_4 => ?_)
          · first
            | exfalso; first | omega | contradiction
            | skip
              refine r_iincN C dX2_areApart_47 rfl (by decide) rfl ?_
              refine r_goto (tgt := 10) C dX2_areApart_50 (by decide) ?_
              exact ih_L10 (t + 1) (by omega) (by rw [← hF]; simp only [apF]; rw [if_pos (by assumption)])
          · first
            | exfalso; first | omega | contradiction
            | skip
              refine r_iconst (v := (nI 0)) C dX2_areApart_45 (by decide) ?_
              exact r_zret C hr (by first | omega | (simp [up2, *]; done) | (simp [up2, *]; omega) | (simp only [up2_eq]; omega) | (split <;> omega)) dX2_areApart_46 ⟨by rw [← hF]; first | rfl | (simp only [apF]; rw [if_neg (by assumption)]), rfl⟩ (Nat.le_of_ble_eq_true rfl) (Nat.le_of_ble_eq_true rfl)
  exact L10 (f 4 i) 0 (by omega) rfl
theorem pk_X1_isLike : PkV RX1 yX1_isLike cX1_isLike 2 (some .boolean) 1 := ⟨⟨qi_X1_isLike, qs_X1_isLike, qz_X1, qc_X1_isLike⟩, rfl, mh_X1.1, mh_X1.2, pd_14⟩
theorem dX2_areSame_8 : decode cX2_areSame 8 = .ok (.aload_n 0, 1) := dqo_42 (kb_of ke_X2_areSame 8 rfl)
theorem dX2_areSame_9 : decode cX2_areSame 9 = .ok (.getfield 11, 3) := dqo_180 0 11 (kb_of ke_X2_areSame 9 rfl) (kb_of ke_X2_areSame 10 rfl) (kb_of ke_X2_areSame 11 rfl)
theorem dX2_areSame_12 : decode cX2_areSame 12 = .ok (.iload_n 1, 1) := dqo_27 (kb_of ke_X2_areSame 12 rfl)
theorem dX2_areSame_13 : decode cX2_areSame 13 = .ok (.aaload, 1) := dqo_50 (kb_of ke_X2_areSame 13 rfl)
theorem dX2_areSame_14 : decode cX2_areSame 14 = .ok (.aload_n 0, 1) := dqo_42 (kb_of ke_X2_areSame 14 rfl)
theorem dX2_areSame_15 : decode cX2_areSame 15 = .ok (.getfield 11, 3) := dqo_180 0 11 (kb_of ke_X2_areSame 15 rfl) (kb_of ke_X2_areSame 16 rfl) (kb_of ke_X2_areSame 17 rfl)
theorem dX2_areSame_18 : decode cX2_areSame 18 = .ok (.iload_n 2, 1) := dqo_28 (kb_of ke_X2_areSame 18 rfl)
theorem dX2_areSame_19 : decode cX2_areSame 19 = .ok (.aaload, 1) := dqo_50 (kb_of ke_X2_areSame 19 rfl)
theorem dX2_areSame_20 : decode cX2_areSame 20 = .ok (.invokevirtual 161, 3) := dqo_182 0 161 (kb_of ke_X2_areSame 20 rfl) (kb_of ke_X2_areSame 21 rfl) (kb_of ke_X2_areSame 22 rfl)
theorem dX2_areSame_23 : decode cX2_areSame 23 = .ok (.ireturn, 1) := dqo_172 (kb_of ke_X2_areSame 23 rfl)
set_option maxRecDepth 100000 in
set_option maxHeartbeats 4000000 in
theorem C_areSame_ok {l : Launch} {D : va_G} {cy : Nat → ClassId} {X : (Nat → Prop) → State → Heap → Prop} {a f : Nat → Nat → Nat} {r : Nat → Nat → Int32} {kn : Int32} {Y : va_W} {i : Nat} {j : Nat} (hX : EnvX X) (hC : CInv f) (hi4 : i < 4) (hj4 : j < 4) : Cd l D cy X yX2_areSame cX2_areSame 3 (some .boolean) (rmz 6 240) [.ref (a 0 0), .int (nI i), .int (nI j)] (WC cy a f r kn ++ Y) (some (.int (nI (if f 4 i = f 4 j ∧ stF (fun q => r (f 0 i) (f 3 i + (0 + q))) (fun q => r (f 0 j) (f 3 j + q)) (f 4 j) 0 ≠ 0 then 1 else 0)))) (WC cy a f r kn ++ Y) := by
  have q3 := hC.sp
  have q1_i := hC.rw hi4
  have q2_i := hC.al (i := i) (by omega)
  have q6_i : f 4 (f 1 i) = f 4 i := by rw [q1_i.2.1]
  have q1_j := hC.rw hj4
  have q2_j := hC.al (i := j) (by omega)
  have q6_j : f 4 (f 1 j) = f 4 j := by rw [q1_j.2.1]
  refine Cm.of [some (.ref (a 0 0)), some (.int (nI i)), some (.int (nI j))] pn_X2 rfl (Nat.le_of_ble_eq_true rfl) ?_
  intro p e s m args below meth c A C hE hr hnt hn
  refine r_iload_n C dX2_areSame_0 rfl ?_
  refine d_Sv (st := []) hX.stb C hE (C_needRow_ok (f := f) (r := r) (kn := kn) (k := i) hX (by first | omega | (simp [up2, *]; done) | (simp [up2, *]; omega) | (simp only [up2_eq]; omega) | (split <;> omega))) pk_X2_needRow qm_X2_126 rfl rfl (Nat.le_of_ble_eq_true rfl) dX2_areSame_1 ⟨Nat.le_of_ble_eq_true rfl, Nat.le_of_ble_eq_true rfl⟩ ⟨Nat.le_of_ble_eq_true rfl, Nat.le_of_ble_eq_true rfl⟩ ?_
  refine r_iload_n C dX2_areSame_4 rfl ?_
  refine d_Sv (st := []) hX.stb C hE (C_needRow_ok (f := f) (r := r) (kn := kn) (k := j) hX (by first | omega | (simp [up2, *]; done) | (simp [up2, *]; omega) | (simp only [up2_eq]; omega) | (split <;> omega))) pk_X2_needRow qm_X2_126 rfl rfl (Nat.le_of_ble_eq_true rfl) dX2_areSame_5 ⟨Nat.le_of_ble_eq_true rfl, Nat.le_of_ble_eq_true rfl⟩ ⟨Nat.le_of_ble_eq_true rfl, Nat.le_of_ble_eq_true rfl⟩ ?_
  refine r_aload_n C dX2_areSame_8 rfl ?_
  refine s_get C 0 (by decide) qf_X2_11 rfl rfl dX2_areSame_9 ?_
  refine r_iload_n C dX2_areSame_12 rfl ?_
  refine s_parts C (by first | omega | (simp [up2, *]; done) | (simp [up2, *]; omega) | (simp only [up2_eq]; omega) | (split <;> omega)) dX2_areSame_13 ?_
  refine r_aload_n C dX2_areSame_14 rfl ?_
  refine s_get C 0 (by decide) qf_X2_11 rfl rfl dX2_areSame_15 ?_
  refine r_iload_n C dX2_areSame_18 rfl ?_
  refine s_parts C (by first | omega | (simp [up2, *]; done) | (simp [up2, *]; omega) | (simp only [up2_eq]; omega) | (split <;> omega)) dX2_areSame_19 ?_
  refine d_V (st := []) hX.stb C hE (C_isLike (f := f) (r := r) (kn := kn) (i := i) (j := j) hX (by first | omega | (simp [up2, *]; done) | (simp [up2, *]; omega) | (simp only [up2_eq]; omega) | (split <;> omega)) (by first | omega | (simp [up2, *]; done) | (simp [up2, *]; omega) | (simp only [up2_eq]; omega) | (split <;> omega)) (by first | omega | (simp [up2, *]; done) | (simp [up2, *]; omega) | (simp only [up2_eq]; omega) | (split <;> omega)) (by first | omega | (simp [up2, *]; done) | (simp [up2, *]; omega) | (simp only [up2_eq]; omega) | (split <;> omega)) (by first | omega | (simp [up2, *]; done) | (simp [up2, *]; omega) | (simp only [up2_eq]; omega) | (split <;> omega)) (by first | omega | (simp [up2, *]; done) | (simp [up2, *]; omega) | (simp only [up2_eq]; omega) | (split <;> omega))) pk_X1_isLike qm_X2_161 (3 + i) 5 rfl rfl (wc_p (by first | omega | (simp [up2, *]; done) | (simp [up2, *]; omega) | (simp only [up2_eq]; omega) | (split <;> omega))) rfl rfl (Nat.le_of_ble_eq_true rfl) dX2_areSame_20 ⟨Nat.le_of_ble_eq_true rfl, Nat.le_of_ble_eq_true rfl⟩ ⟨Nat.le_of_ble_eq_true rfl, Nat.le_of_ble_eq_true rfl⟩ ?_
  exact r_zret C hr (by first | omega | (simp [up2, *]; done) | (simp [up2, *]; omega) | (simp only [up2_eq]; omega) | (split <;> omega)) dX2_areSame_23 ⟨rfl, rfl⟩ (Nat.le_of_ble_eq_true rfl) (Nat.le_of_ble_eq_true rfl)
theorem dX2_hash_0 : decode cX2_hash 0 = .ok (.iload_n 1, 1) := dqo_27 (kb_of ke_X2_hash 0 rfl)
theorem dX2_hash_1 : decode cX2_hash 1 = .ok (.invokestatic 126, 3) := dqo_184 0 126 (kb_of ke_X2_hash 1 rfl) (kb_of ke_X2_hash 2 rfl) (kb_of ke_X2_hash 3 rfl)
set_option maxRecDepth 100000 in
set_option maxHeartbeats 4000000 in
theorem C_hash_noR {l : Launch} {D : va_G} {cy : Nat → ClassId} {X : (Nat → Prop) → State → Heap → Prop} {a f : Nat → Nat → Nat} {r : Nat → Nat → Int32} {kn : Int32} {Y : va_W} {x : Int32} (hX : EnvX X) (hl : l.stackTraces = false) (hC : CInv f) (hno : ¬ (0 ≤ x ∧ x < nI 4)) : Ce l D cy X yX2_hash cX2_hash 2 (some .int) (rmk 8 1 6 170) [.ref (a 0 0), .int x] (WC cy a f r kn ++ Y) "java/lang/IndexOutOfBoundsException" := by
  have q3 := hC.sp
  refine Cm.of [some (.ref (a 0 0)), some (.int x)] pn_X2 rfl (Nat.le_of_ble_eq_true rfl) ?_
  intro p e s m args below meth c A C hE hr hnt hn
  refine r_iload_n C dX2_hash_0 rfl ?_
  refine c_S (st := []) hX.stb C hE (C_needRow_no (f := f) (r := r) (kn := kn) (x := (x)) hX hl hno) pk_X2_needRow qm_X2_126 rfl rfl (Nat.le_of_ble_eq_true rfl) dX2_hash_1 ⟨Nat.le_of_ble_eq_true rfl, Nat.le_of_ble_eq_true rfl⟩ ⟨Nat.le_of_ble_eq_true rfl, Nat.le_of_ble_eq_true rfl⟩ (fun _ _ h9 => h9.elim) (fun E9 h9 => ?_)
  subst h9
  exact r_out C hnt rfl rfl (Nat.le_of_ble_eq_true rfl) (Nat.le_of_ble_eq_true rfl)
theorem pk_X1_hashOfItems : PkV RX1 yX1_hashOfItems cX1_hashOfItems 3 (some .int) 0 := ⟨⟨qi_X1_hashOfItems, qs_X1_hashOfItems, qz_X1, qc_X1_hashOfItems⟩, rfl, mh_X1.1, mh_X1.2, pd_10⟩
theorem dX2_hash_4 : decode cX2_hash 4 = .ok (.aload_n 0, 1) := dqo_42 (kb_of ke_X2_hash 4 rfl)
theorem dX2_hash_5 : decode cX2_hash 5 = .ok (.getfield 11, 3) := dqo_180 0 11 (kb_of ke_X2_hash 5 rfl) (kb_of ke_X2_hash 6 rfl) (kb_of ke_X2_hash 7 rfl)
theorem dX2_hash_8 : decode cX2_hash 8 = .ok (.iload_n 1, 1) := dqo_27 (kb_of ke_X2_hash 8 rfl)
theorem dX2_hash_9 : decode cX2_hash 9 = .ok (.aaload, 1) := dqo_50 (kb_of ke_X2_hash 9 rfl)
theorem dX2_hash_10 : decode cX2_hash 10 = .ok (.invokevirtual 165, 3) := dqo_182 0 165 (kb_of ke_X2_hash 10 rfl) (kb_of ke_X2_hash 11 rfl) (kb_of ke_X2_hash 12 rfl)
theorem dX2_hash_13 : decode cX2_hash 13 = .ok (.ireturn, 1) := dqo_172 (kb_of ke_X2_hash 13 rfl)
set_option maxRecDepth 100000 in
set_option maxHeartbeats 4000000 in
theorem C_hash_ok {l : Launch} {D : va_G} {cy : Nat → ClassId} {X : (Nat → Prop) → State → Heap → Prop} {a f : Nat → Nat → Nat} {r : Nat → Nat → Int32} {kn : Int32} {Y : va_W} {i : Nat} (hX : EnvX X) (hC : CInv f) (hi4 : i < 4) : Cd l D cy X yX2_hash cX2_hash 2 (some .int) (rmz 6 240) [.ref (a 0 0), .int (nI i)] (WC cy a f r kn ++ Y) (some (.int (hsF (fun q => r (f 0 i) (f 3 i + q)) (f 4 i) 0 (nI 1)))) (WC cy a f r kn ++ Y) := by
  have q3 := hC.sp
  have q1_i := hC.rw hi4
  have q2_i := hC.al (i := i) (by omega)
  have q6_i : f 4 (f 1 i) = f 4 i := by rw [q1_i.2.1]
  refine Cm.of [some (.ref (a 0 0)), some (.int (nI i))] pn_X2 rfl (Nat.le_of_ble_eq_true rfl) ?_
  intro p e s m args below meth c A C hE hr hnt hn
  refine r_iload_n C dX2_hash_0 rfl ?_
  refine d_Sv (st := []) hX.stb C hE (C_needRow_ok (f := f) (r := r) (kn := kn) (k := i) hX (by first | omega | (simp [up2, *]; done) | (simp [up2, *]; omega) | (simp only [up2_eq]; omega) | (split <;> omega))) pk_X2_needRow qm_X2_126 rfl rfl (Nat.le_of_ble_eq_true rfl) dX2_hash_1 ⟨Nat.le_of_ble_eq_true rfl, Nat.le_of_ble_eq_true rfl⟩ ⟨Nat.le_of_ble_eq_true rfl, Nat.le_of_ble_eq_true rfl⟩ ?_
  refine r_aload_n C dX2_hash_4 rfl ?_
  refine s_get C 0 (by decide) qf_X2_11 rfl rfl dX2_hash_5 ?_
  refine r_iload_n C dX2_hash_8 rfl ?_
  refine s_parts C (by first | omega | (simp [up2, *]; done) | (simp [up2, *]; omega) | (simp only [up2_eq]; omega) | (split <;> omega)) dX2_hash_9 ?_
  refine d_V (st := []) hX.stb C hE (C_hashOfItems (f := f) (r := r) (kn := kn) (i := i) hX (by first | omega | (simp [up2, *]; done) | (simp [up2, *]; omega) | (simp only [up2_eq]; omega) | (split <;> omega)) (by first | omega | (simp [up2, *]; done) | (simp [up2, *]; omega) | (simp only [up2_eq]; omega) | (split <;> omega)) (by first | omega | (simp [up2, *]; done) | (simp [up2, *]; omega) | (simp only [up2_eq]; omega) | (split <;> omega))) pk_X1_hashOfItems qm_X2_165 (3 + i) 5 rfl rfl (wc_p (by first | omega | (simp [up2, *]; done) | (simp [up2, *]; omega) | (simp only [up2_eq]; omega) | (split <;> omega))) rfl rfl (Nat.le_of_ble_eq_true rfl) dX2_hash_10 ⟨Nat.le_of_ble_eq_true rfl, Nat.le_of_ble_eq_true rfl⟩ ⟨Nat.le_of_ble_eq_true rfl, Nat.le_of_ble_eq_true rfl⟩ ?_
  exact r_iret C hr dX2_hash_13 ⟨rfl, rfl⟩ (Nat.le_of_ble_eq_true rfl) (Nat.le_of_ble_eq_true rfl)
theorem dX2_inArray_0 : decode cX2_inArray 0 = .ok (.iload_n 1, 1) := dqo_27 (kb_of ke_X2_inArray 0 rfl)
theorem dX2_inArray_1 : decode cX2_inArray 1 = .ok (.invokestatic 126, 3) := dqo_184 0 126 (kb_of ke_X2_inArray 1 rfl) (kb_of ke_X2_inArray 2 rfl) (kb_of ke_X2_inArray 3 rfl)
set_option maxRecDepth 100000 in
set_option maxHeartbeats 4000000 in
theorem C_inArray_noR {l : Launch} {D : va_G} {cy : Nat → ClassId} {X : (Nat → Prop) → State → Heap → Prop} {a f : Nat → Nat → Nat} {r : Nat → Nat → Int32} {kn : Int32} {Y : va_W} {x : Int32} {y0 : Int32} (hX : EnvX X) (hl : l.stackTraces = false) (hC : CInv f) (hno : ¬ (0 ≤ x ∧ x < nI 4)) : Ce l D cy X yX2_inArray cX2_inArray 3 (some .int) (rmk 8 1 6 170) [.ref (a 0 0), .int x, .int y0] (WC cy a f r kn ++ Y) "java/lang/IndexOutOfBoundsException" := by
  have q3 := hC.sp
  refine Cm.of [some (.ref (a 0 0)), some (.int x), some (.int y0)] pn_X2 rfl (Nat.le_of_ble_eq_true rfl) ?_
  intro p e s m args below meth c A C hE hr hnt hn
  refine r_iload_n C dX2_inArray_0 rfl ?_
  refine c_S (st := []) hX.stb C hE (C_needRow_no (f := f) (r := r) (kn := kn) (x := (x)) hX hl hno) pk_X2_needRow qm_X2_126 rfl rfl (Nat.le_of_ble_eq_true rfl) dX2_inArray_1 ⟨Nat.le_of_ble_eq_true rfl, Nat.le_of_ble_eq_true rfl⟩ ⟨Nat.le_of_ble_eq_true rfl, Nat.le_of_ble_eq_true rfl⟩ (fun _ _ h9 => h9.elim) (fun E9 h9 => ?_)
  subst h9
  exact r_out C hnt rfl rfl (Nat.le_of_ble_eq_true rfl) (Nat.le_of_ble_eq_true rfl)
theorem dX2_inArray_4 : decode cX2_inArray 4 = .ok (.aload_n 0, 1) := dqo_42 (kb_of ke_X2_inArray 4 rfl)
theorem dX2_inArray_5 : decode cX2_inArray 5 = .ok (.iload_n 1, 1) := dqo_27 (kb_of ke_X2_inArray 5 rfl)
theorem dX2_inArray_6 : decode cX2_inArray 6 = .ok (.iload_n 2, 1) := dqo_28 (kb_of ke_X2_inArray 6 rfl)
theorem dX2_inArray_7 : decode cX2_inArray 7 = .ok (.invokevirtual 62, 3) := dqo_182 0 62 (kb_of ke_X2_inArray 7 rfl) (kb_of ke_X2_inArray 8 rfl) (kb_of ke_X2_inArray 9 rfl)
set_option maxRecDepth 100000 in
set_option maxHeartbeats 4000000 in
theorem C_inArray_noP {l : Launch} {D : va_G} {cy : Nat → ClassId} {X : (Nat → Prop) → State → Heap → Prop} {a f : Nat → Nat → Nat} {r : Nat → Nat → Int32} {kn : Int32} {Y : va_W} {i : Nat} {y0 : Int32} (hX : EnvX X) (hl : l.stackTraces = false) (hC : CInv f) (hi4 : i < 4) (hno : ¬ (0 ≤ y0 ∧ y0 < nI (f 4 i))) : Ce l D cy X yX2_inArray cX2_inArray 3 (some .int) (rmk 8 1 6 170) [.ref (a 0 0), .int (nI i), .int y0] (WC cy a f r kn ++ Y) "java/lang/IndexOutOfBoundsException" := by
  have q3 := hC.sp
  have q1_i := hC.rw hi4
  have q2_i := hC.al (i := i) (by omega)
  have q6_i : f 4 (f 1 i) = f 4 i := by rw [q1_i.2.1]
  refine Cm.of [some (.ref (a 0 0)), some (.int (nI i)), some (.int y0)] pn_X2 rfl (Nat.le_of_ble_eq_true rfl) ?_
  intro p e s m args below meth c A C hE hr hnt hn
  refine r_iload_n C dX2_inArray_0 rfl ?_
  refine d_Sv (st := []) hX.stb C hE (C_needRow_ok (f := f) (r := r) (kn := kn) (k := i) hX (by first | omega | (simp [up2, *]; done) | (simp [up2, *]; omega) | (simp only [up2_eq]; omega) | (split <;> omega))) pk_X2_needRow qm_X2_126 rfl rfl (Nat.le_of_ble_eq_true rfl) dX2_inArray_1 ⟨Nat.le_of_ble_eq_true rfl, Nat.le_of_ble_eq_true rfl⟩ ⟨Nat.le_of_ble_eq_true rfl, Nat.le_of_ble_eq_true rfl⟩ ?_
  refine r_aload_n C dX2_inArray_4 rfl ?_
  refine r_iload_n C dX2_inArray_5 rfl ?_
  refine r_iload_n C dX2_inArray_6 rfl ?_
  refine c_V (st := []) hX.stb C hE (C_needPlace_no (f := f) (r := r) (kn := kn) (w := i) (y := (y0)) hX hl (by first | omega | (simp [up2, *]; done) | (simp [up2, *]; omega) | (simp only [up2_eq]; omega) | (split <;> omega)) (by first | omega | (simp [up2, *]; done) | (simp [up2, *]; omega) | (simp only [up2_eq]; omega) | (split <;> omega)) hno) pk_X2_needPlace qm_X2_62 0 6 rfl rfl wc_0 rfl rfl (Nat.le_of_ble_eq_true rfl) dX2_inArray_7 ⟨Nat.le_of_ble_eq_true rfl, Nat.le_of_ble_eq_true rfl⟩ ⟨Nat.le_of_ble_eq_true rfl, Nat.le_of_ble_eq_true rfl⟩ (fun _ _ h9 => h9.elim) (fun E9 h9 => ?_)
  subst h9
  exact r_out C hnt rfl rfl (Nat.le_of_ble_eq_true rfl) (Nat.le_of_ble_eq_true rfl)
theorem dX2_inArray_10 : decode cX2_inArray 10 = .ok (.aload_n 0, 1) := dqo_42 (kb_of ke_X2_inArray 10 rfl)
theorem dX2_inArray_11 : decode cX2_inArray 11 = .ok (.getfield 11, 3) := dqo_180 0 11 (kb_of ke_X2_inArray 11 rfl) (kb_of ke_X2_inArray 12 rfl) (kb_of ke_X2_inArray 13 rfl)
theorem dX2_inArray_14 : decode cX2_inArray 14 = .ok (.iload_n 1, 1) := dqo_27 (kb_of ke_X2_inArray 14 rfl)
theorem dX2_inArray_15 : decode cX2_inArray 15 = .ok (.aaload, 1) := dqo_50 (kb_of ke_X2_inArray 15 rfl)
theorem dX2_inArray_16 : decode cX2_inArray 16 = .ok (.iload_n 2, 1) := dqo_28 (kb_of ke_X2_inArray 16 rfl)
theorem dX2_inArray_17 : decode cX2_inArray 17 = .ok (.invokevirtual 65, 3) := dqo_182 0 65 (kb_of ke_X2_inArray 17 rfl) (kb_of ke_X2_inArray 18 rfl) (kb_of ke_X2_inArray 19 rfl)
theorem dX2_inArray_20 : decode cX2_inArray 20 = .ok (.ireturn, 1) := dqo_172 (kb_of ke_X2_inArray 20 rfl)
set_option maxRecDepth 100000 in
set_option maxHeartbeats 4000000 in
theorem C_inArray_ok {l : Launch} {D : va_G} {cy : Nat → ClassId} {X : (Nat → Prop) → State → Heap → Prop} {a f : Nat → Nat → Nat} {r : Nat → Nat → Int32} {kn : Int32} {Y : va_W} {i : Nat} {k0 : Nat} (hX : EnvX X) (hC : CInv f) (hi4 : i < 4) (hk : k0 < f 4 i) : Cd l D cy X yX2_inArray cX2_inArray 3 (some .int) (rmz 6 240) [.ref (a 0 0), .int (nI i), .int (nI k0)] (WC cy a f r kn ++ Y) (some (.int (r (f 0 i) (f 3 i + k0)))) (WC cy a f r kn ++ Y) := by
  have q3 := hC.sp
  have q1_i := hC.rw hi4
  have q2_i := hC.al (i := i) (by omega)
  have q6_i : f 4 (f 1 i) = f 4 i := by rw [q1_i.2.1]
  refine Cm.of [some (.ref (a 0 0)), some (.int (nI i)), some (.int (nI k0))] pn_X2 rfl (Nat.le_of_ble_eq_true rfl) ?_
  intro p e s m args below meth c A C hE hr hnt hn
  refine r_iload_n C dX2_inArray_0 rfl ?_
  refine d_Sv (st := []) hX.stb C hE (C_needRow_ok (f := f) (r := r) (kn := kn) (k := i) hX (by first | omega | (simp [up2, *]; done) | (simp [up2, *]; omega) | (simp only [up2_eq]; omega) | (split <;> omega))) pk_X2_needRow qm_X2_126 rfl rfl (Nat.le_of_ble_eq_true rfl) dX2_inArray_1 ⟨Nat.le_of_ble_eq_true rfl, Nat.le_of_ble_eq_true rfl⟩ ⟨Nat.le_of_ble_eq_true rfl, Nat.le_of_ble_eq_true rfl⟩ ?_
  refine r_aload_n C dX2_inArray_4 rfl ?_
  refine r_iload_n C dX2_inArray_5 rfl ?_
  refine r_iload_n C dX2_inArray_6 rfl ?_
  refine d_Vv (st := []) hX.stb C hE (C_needPlace_ok (f := f) (r := r) (kn := kn) (w := i) (k := k0) hX (by first | omega | (simp [up2, *]; done) | (simp [up2, *]; omega) | (simp only [up2_eq]; omega) | (split <;> omega)) (by first | omega | (simp [up2, *]; done) | (simp [up2, *]; omega) | (simp only [up2_eq]; omega) | (split <;> omega)) (by first | omega | (simp [up2, *]; done) | (simp [up2, *]; omega) | (simp only [up2_eq]; omega) | (split <;> omega)) (by first | omega | (simp [up2, *]; done) | (simp [up2, *]; omega) | (simp only [up2_eq]; omega) | (split <;> omega))) pk_X2_needPlace qm_X2_62 0 6 rfl rfl wc_0 rfl rfl (Nat.le_of_ble_eq_true rfl) dX2_inArray_7 ⟨Nat.le_of_ble_eq_true rfl, Nat.le_of_ble_eq_true rfl⟩ ⟨Nat.le_of_ble_eq_true rfl, Nat.le_of_ble_eq_true rfl⟩ ?_
  refine r_aload_n C dX2_inArray_10 rfl ?_
  refine s_get C 0 (by decide) qf_X2_11 rfl rfl dX2_inArray_11 ?_
  refine r_iload_n C dX2_inArray_14 rfl ?_
  refine s_parts C (by first | omega | (simp [up2, *]; done) | (simp [up2, *]; omega) | (simp only [up2_eq]; omega) | (split <;> omega)) dX2_inArray_15 ?_
  refine r_iload_n C dX2_inArray_16 rfl ?_
  refine d_V (st := []) hX.stb C hE (C_itemAt (f := f) (r := r) (kn := kn) (i := i) (k := k0) hX (by first | omega | (simp [up2, *]; done) | (simp [up2, *]; omega) | (simp only [up2_eq]; omega) | (split <;> omega)) (by first | omega | (simp [up2, *]; done) | (simp [up2, *]; omega) | (simp only [up2_eq]; omega) | (split <;> omega)) (by first | omega | (simp [up2, *]; done) | (simp [up2, *]; omega) | (simp only [up2_eq]; omega) | (split <;> omega))) pk_X1_itemAt qm_X2_65 (3 + i) 5 rfl rfl (wc_p (by first | omega | (simp [up2, *]; done) | (simp [up2, *]; omega) | (simp only [up2_eq]; omega) | (split <;> omega))) rfl rfl (Nat.le_of_ble_eq_true rfl) dX2_inArray_17 ⟨Nat.le_of_ble_eq_true rfl, Nat.le_of_ble_eq_true rfl⟩ ⟨Nat.le_of_ble_eq_true rfl, Nat.le_of_ble_eq_true rfl⟩ ?_
  exact r_iret C hr dX2_inArray_20 ⟨rfl, rfl⟩ (Nat.le_of_ble_eq_true rfl) (Nat.le_of_ble_eq_true rfl)
theorem dX2_through_0 : decode cX2_through 0 = .ok (.aload_n 0, 1) := dqo_42 (kb_X2_through_0 0 rfl)
theorem dX2_through_1 : decode cX2_through 1 = .ok (.iload_n 1, 1) := dqo_27 (kb_X2_through_0 1 rfl)
theorem dX2_through_2 : decode cX2_through 2 = .ok (.invokevirtual 39, 3) := dqo_182 0 39 (kb_X2_through_0 2 rfl) (kb_X2_through_0 3 rfl) (kb_X2_through_0 4 rfl)
set_option maxRecDepth 100000 in
set_option maxHeartbeats 4000000 in
theorem C_through_noW {l : Launch} {D : va_G} {cy : Nat → ClassId} {X : (Nat → Prop) → State → Heap → Prop} {a f : Nat → Nat → Nat} {r : Nat → Nat → Int32} {kn : Int32} {Y : va_W} {x : Int32} {y0 : Int32} {y1 : Int32} (hX : EnvX X) (hl : l.stackTraces = false) (hC : CInv f) (hno : noW f x) : Ce l D cy X yX2_through cX2_through 6 (some .int) (rmk 8 1 6 170) [.ref (a 0 0), .int x, .int y0, .int y1] (WC cy a f r kn ++ Y) "java/lang/IndexOutOfBoundsException" := by
  have q3 := hC.sp
  refine Cm.of [some (.ref (a 0 0)), some (.int x), some (.int y0), some (.int y1), none, none] pn_X2 rfl (Nat.le_of_ble_eq_true rfl) ?_
  intro p e s m args below meth c A C hE hr hnt hn
  refine r_aload_n C dX2_through_0 rfl ?_
  refine r_iload_n C dX2_through_1 rfl ?_
  refine c_V (st := []) hX.stb C hE (C_needWhere_no (f := f) (r := r) (kn := kn) (x := (x)) hX hl hno hC.h5) pk_X2_needWhere qm_X2_39 0 6 rfl rfl wc_0 rfl rfl (Nat.le_of_ble_eq_true rfl) dX2_through_2 ⟨Nat.le_of_ble_eq_true rfl, Nat.le_of_ble_eq_true rfl⟩ ⟨Nat.le_of_ble_eq_true rfl, Nat.le_of_ble_eq_true rfl⟩ (fun _ _ h9 => h9.elim) (fun E9 h9 => ?_)
  subst h9
  exact r_out C hnt rfl rfl (Nat.le_of_ble_eq_true rfl) (Nat.le_of_ble_eq_true rfl)
theorem dX2_through_5 : decode cX2_through 5 = .ok (.aload_n 0, 1) := dqo_42 (kb_X2_through_0 5 rfl)
theorem dX2_through_6 : decode cX2_through 6 = .ok (.iload_n 2, 1) := dqo_28 (kb_X2_through_0 6 rfl)
theorem dX2_through_7 : decode cX2_through 7 = .ok (.invokevirtual 39, 3) := dqo_182 0 39 (kb_X2_through_0 7 rfl) (kb_X2_through_0 8 rfl) (kb_X2_through_0 9 rfl)
set_option maxRecDepth 100000 in
set_option maxHeartbeats 4000000 in
theorem C_through_noW2 {l : Launch} {D : va_G} {cy : Nat → ClassId} {X : (Nat → Prop) → State → Heap → Prop} {a f : Nat → Nat → Nat} {r : Nat → Nat → Int32} {kn : Int32} {Y : va_W} {w : Nat} {x : Int32} {y : Int32} (hX : EnvX X) (hl : l.stackTraces = false) (hC : CInv f) (hw : w < 8) (h5w : f 5 w = 1) (hno : noW f x) : Ce l D cy X yX2_through cX2_through 6 (some .int) (rmk 8 1 6 170) [.ref (a 0 0), .int (nI w), .int x, .int y] (WC cy a f r kn ++ Y) "java/lang/IndexOutOfBoundsException" := by
  have q3 := hC.sp
  have q1_w := hC.al hw
  have q2_w := hC.th hw h5w
  have q4_w := hC.rw (i := f 1 w) q1_w.2.1
  refine Cm.of [some (.ref (a 0 0)), some (.int (nI w)), some (.int x), some (.int y), none, none] pn_X2 rfl (Nat.le_of_ble_eq_true rfl) ?_
  intro p e s m args below meth c A C hE hr hnt hn
  refine r_aload_n C dX2_through_0 rfl ?_
  refine r_iload_n C dX2_through_1 rfl ?_
  refine d_Vv (st := []) hX.stb C hE (C_needWhere_ok (f := f) (r := r) (kn := kn) (w := w) hX (by first | omega | (simp [up2, *]; done) | (simp [up2, *]; omega) | (simp only [up2_eq]; omega) | (split <;> omega)) (by first | omega | (simp [up2, *]; done) | (simp [up2, *]; omega) | (simp only [up2_eq]; omega) | (split <;> omega))) pk_X2_needWhere qm_X2_39 0 6 rfl rfl wc_0 rfl rfl (Nat.le_of_ble_eq_true rfl) dX2_through_2 ⟨Nat.le_of_ble_eq_true rfl, Nat.le_of_ble_eq_true rfl⟩ ⟨Nat.le_of_ble_eq_true rfl, Nat.le_of_ble_eq_true rfl⟩ ?_
  refine r_aload_n C dX2_through_5 rfl ?_
  refine r_iload_n C dX2_through_6 rfl ?_
  refine c_V (st := []) hX.stb C hE (C_needWhere_no (f := f) (r := r) (kn := kn) (x := (x)) hX hl hno hC.h5) pk_X2_needWhere qm_X2_39 0 6 rfl rfl wc_0 rfl rfl (Nat.le_of_ble_eq_true rfl) dX2_through_7 ⟨Nat.le_of_ble_eq_true rfl, Nat.le_of_ble_eq_true rfl⟩ ⟨Nat.le_of_ble_eq_true rfl, Nat.le_of_ble_eq_true rfl⟩ (fun _ _ h9 => h9.elim) (fun E9 h9 => ?_)
  subst h9
  exact r_out C hnt rfl rfl (Nat.le_of_ble_eq_true rfl) (Nat.le_of_ble_eq_true rfl)
theorem dX2_through_10 : decode cX2_through 10 = .ok (.iload_n 3, 1) := dqo_29 (kb_X2_through_0 10 rfl)
theorem dX2_through_11 : decode cX2_through 11 = .ok (.invokestatic 126, 3) := dqo_184 0 126 (kb_X2_through_0 11 rfl) (kb_X2_through_0 12 rfl) (kb_X2_through_0 13 rfl)
set_option maxRecDepth 100000 in
set_option maxHeartbeats 4000000 in
theorem C_through_noR {l : Launch} {D : va_G} {cy : Nat → ClassId} {X : (Nat → Prop) → State → Heap → Prop} {a f : Nat → Nat → Nat} {r : Nat → Nat → Int32} {kn : Int32} {Y : va_W} {w : Nat} {v : Nat} {x : Int32} (hX : EnvX X) (hl : l.stackTraces = false) (hC : CInv f) (hw : w < 8) (h5w : f 5 w = 1) (hv : v < 8) (h5v : f 5 v = 1) (hno : ¬ (0 ≤ x ∧ x < nI 4)) : Ce l D cy X yX2_through cX2_through 6 (some .int) (rmk 8 1 6 170) [.ref (a 0 0), .int (nI w), .int (nI v), .int x] (WC cy a f r kn ++ Y) "java/lang/IndexOutOfBoundsException" := by
  have q3 := hC.sp
  have q1_w := hC.al hw
  have q2_w := hC.th hw h5w
  have q4_w := hC.rw (i := f 1 w) q1_w.2.1
  have q1_v := hC.al hv
  have q2_v := hC.th hv h5v
  have q4_v := hC.rw (i := f 1 v) q1_v.2.1
  refine Cm.of [some (.ref (a 0 0)), some (.int (nI w)), some (.int (nI v)), some (.int x), none, none] pn_X2 rfl (Nat.le_of_ble_eq_true rfl) ?_
  intro p e s m args below meth c A C hE hr hnt hn
  refine r_aload_n C dX2_through_0 rfl ?_
  refine r_iload_n C dX2_through_1 rfl ?_
  refine d_Vv (st := []) hX.stb C hE (C_needWhere_ok (f := f) (r := r) (kn := kn) (w := w) hX (by first | omega | (simp [up2, *]; done) | (simp [up2, *]; omega) | (simp only [up2_eq]; omega) | (split <;> omega)) (by first | omega | (simp [up2, *]; done) | (simp [up2, *]; omega) | (simp only [up2_eq]; omega) | (split <;> omega))) pk_X2_needWhere qm_X2_39 0 6 rfl rfl wc_0 rfl rfl (Nat.le_of_ble_eq_true rfl) dX2_through_2 ⟨Nat.le_of_ble_eq_true rfl, Nat.le_of_ble_eq_true rfl⟩ ⟨Nat.le_of_ble_eq_true rfl, Nat.le_of_ble_eq_true rfl⟩ ?_
  refine r_aload_n C dX2_through_5 rfl ?_
  refine r_iload_n C dX2_through_6 rfl ?_
  refine d_Vv (st := []) hX.stb C hE (C_needWhere_ok (f := f) (r := r) (kn := kn) (w := v) hX (by first | omega | (simp [up2, *]; done) | (simp [up2, *]; omega) | (simp only [up2_eq]; omega) | (split <;> omega)) (by first | omega | (simp [up2, *]; done) | (simp [up2, *]; omega) | (simp only [up2_eq]; omega) | (split <;> omega))) pk_X2_needWhere qm_X2_39 0 6 rfl rfl wc_0 rfl rfl (Nat.le_of_ble_eq_true rfl) dX2_through_7 ⟨Nat.le_of_ble_eq_true rfl, Nat.le_of_ble_eq_true rfl⟩ ⟨Nat.le_of_ble_eq_true rfl, Nat.le_of_ble_eq_true rfl⟩ ?_
  refine r_iload_n C dX2_through_10 rfl ?_
  refine c_S (st := []) hX.stb C hE (C_needRow_no (f := f) (r := r) (kn := kn) (x := (x)) hX hl hno) pk_X2_needRow qm_X2_126 rfl rfl (Nat.le_of_ble_eq_true rfl) dX2_through_11 ⟨Nat.le_of_ble_eq_true rfl, Nat.le_of_ble_eq_true rfl⟩ ⟨Nat.le_of_ble_eq_true rfl, Nat.le_of_ble_eq_true rfl⟩ (fun _ _ h9 => h9.elim) (fun E9 h9 => ?_)
  subst h9
  exact r_out C hnt rfl rfl (Nat.le_of_ble_eq_true rfl) (Nat.le_of_ble_eq_true rfl)
theorem dX2_through_14 : decode cX2_through 14 = .ok (.aload_n 0, 1) := dqo_42 (kb_X2_through_0 14 rfl)
theorem dX2_through_15 : decode cX2_through 15 = .ok (.getfield 29, 3) := dqo_180 0 29 (kb_X2_through_0 15 rfl) (kb_X2_through_0 16 rfl) (kb_X2_through_0 17 rfl)
theorem dX2_through_18 : decode cX2_through 18 = .ok (.iconst 0, 1) := dqo_3 (kb_X2_through_0 18 rfl)
theorem dX2_through_19 : decode cX2_through 19 = .ok (.putfield 50, 3) := dqo_181 0 50 (kb_X2_through_0 19 rfl) (kb_X2_through_0 20 rfl) (kb_X2_through_0 21 rfl)
theorem dX2_through_22 : decode cX2_through 22 = .ok (.iconst 0, 1) := dqo_3 (kb_X2_through_0 22 rfl)
theorem dX2_through_23 : decode cX2_through 23 = .ok (.istore 4, 2) := dqo_54 4 (kb_X2_through_0 23 rfl) (kb_X2_through_0 24 rfl)
theorem dX2_through_25 : decode cX2_through 25 = .ok (.iload 4, 2) := dqo_21 4 (kb_X2_through_0 25 rfl) (kb_X2_through_0 26 rfl)
theorem dX2_through_27 : decode cX2_through 27 = .ok (.aload_n 0, 1) := dqo_42 (kb_X2_through_0 27 rfl)
theorem dX2_through_28 : decode cX2_through 28 = .ok (.getfield 11, 3) := dqo_180 0 11 (kb_X2_through_0 28 rfl) (kb_X2_through_0 29 rfl) (kb_X2_through_0 30 rfl)
theorem dX2_through_31 : decode cX2_through 31 = .ok (.iload_n 2, 1) := dqo_28 (kb_X2_through_0 31 rfl)
theorem dX2_through_32 : decode cX2_through 32 = .ok (.aaload, 1) := dqo_50 (kb_X2_through_0 32 rfl)
theorem dX2_through_33 : decode cX2_through 33 = .ok (.getfield 50, 3) := dqo_180 0 50 (kb_X2_through_0 33 rfl) (kb_X2_through_0 34 rfl) (kb_X2_through_0 35 rfl)
theorem dX2_through_36 : decode cX2_through 36 = .ok (.if_icmp .ge 67, 3) := dqo_162 0 67 (by decide) (kb_X2_through_0 36 rfl) (kb_X2_through_0 37 rfl) (kb_X2_through_0 38 rfl)
theorem dX2_through_39 : decode cX2_through 39 = .ok (.aload_n 0, 1) := dqo_42 (kb_X2_through_0 39 rfl)
theorem dX2_through_40 : decode cX2_through 40 = .ok (.getfield 11, 3) := dqo_180 0 11 (kb_X2_through_0 40 rfl) (kb_X2_through_0 41 rfl) (kb_X2_through_0 42 rfl)
theorem dX2_through_43 : decode cX2_through 43 = .ok (.iload_n 2, 1) := dqo_28 (kb_X2_through_0 43 rfl)
theorem dX2_through_44 : decode cX2_through 44 = .ok (.aaload, 1) := dqo_50 (kb_X2_through_0 44 rfl)
theorem dX2_through_45 : decode cX2_through 45 = .ok (.iload 4, 2) := dqo_21 4 (kb_X2_through_0 45 rfl) (kb_X2_through_0 46 rfl)
theorem dX2_through_47 : decode cX2_through 47 = .ok (.invokevirtual 65, 3) := dqo_182 0 65 (kb_X2_through_0 47 rfl) (kb_X2_through_0 48 rfl) (kb_X2_through_0 49 rfl)
theorem dX2_through_50 : decode cX2_through 50 = .ok (.istore 5, 2) := dqo_54 5 (kb_X2_through_0 50 rfl) (kb_X2_through_0 51 rfl)
theorem dX2_through_52 : decode cX2_through 52 = .ok (.iload 5, 2) := dqo_21 5 (kb_X2_through_0 52 rfl) (kb_X2_through_0 53 rfl)
theorem dX2_through_54 : decode cX2_through 54 = .ok (.aload_n 0, 1) := dqo_42 (kb_X2_through_0 54 rfl)
theorem dX2_through_55 : decode cX2_through 55 = .ok (.getfield 11, 3) := dqo_180 0 11 (kb_X2_through_0 55 rfl) (kb_X2_through_0 56 rfl) (kb_X2_through_0 57 rfl)
theorem dX2_through_58 : decode cX2_through 58 = .ok (.iload_n 1, 1) := dqo_27 (kb_X2_through_0 58 rfl)
theorem dX2_through_59 : decode cX2_through 59 = .ok (.aaload, 1) := dqo_50 (kb_X2_through_0 59 rfl)
theorem dX2_through_60 : decode cX2_through 60 = .ok (.getfield 50, 3) := dqo_180 0 50 (kb_X2_through_0 60 rfl) (kb_X2_through_0 61 rfl) (kb_X2_through_0 62 rfl)
theorem dX2_through_63 : decode cX2_through 63 = .ok (.if_icmp .lt 6, 3) := dqo_161 0 6 (by decide) (kb_X2_through_0 63 rfl) (kb_X2_through_1 0 rfl) (kb_X2_through_1 1 rfl)
theorem dX2_through_69 : decode cX2_through 69 = .ok (.aload_n 0, 1) := dqo_42 (kb_X2_through_1 5 rfl)
theorem dX2_through_70 : decode cX2_through 70 = .ok (.getfield 29, 3) := dqo_180 0 29 (kb_X2_through_1 6 rfl) (kb_X2_through_1 7 rfl) (kb_X2_through_1 8 rfl)
theorem dX2_through_73 : decode cX2_through 73 = .ok (.iload 5, 2) := dqo_21 5 (kb_X2_through_1 9 rfl) (kb_X2_through_1 10 rfl)
theorem dX2_through_75 : decode cX2_through 75 = .ok (.ifCond .ge 8, 3) := dqo_156 0 8 (by decide) (kb_X2_through_1 11 rfl) (kb_X2_through_1 12 rfl) (kb_X2_through_1 13 rfl)
theorem dX2_through_78 : decode cX2_through 78 = .ok (.iload 5, 2) := dqo_21 5 (kb_X2_through_1 14 rfl) (kb_X2_through_1 15 rfl)
theorem dX2_through_80 : decode cX2_through 80 = .ok (.goto 14, 3) := dqo_167 0 14 (by decide) (kb_X2_through_1 16 rfl) (kb_X2_through_1 17 rfl) (kb_X2_through_1 18 rfl)
theorem dX2_through_83 : decode cX2_through 83 = .ok (.aload_n 0, 1) := dqo_42 (kb_X2_through_1 19 rfl)
theorem dX2_through_84 : decode cX2_through 84 = .ok (.getfield 11, 3) := dqo_180 0 11 (kb_X2_through_1 20 rfl) (kb_X2_through_1 21 rfl) (kb_X2_through_1 22 rfl)
theorem dX2_through_87 : decode cX2_through 87 = .ok (.iload_n 1, 1) := dqo_27 (kb_X2_through_1 23 rfl)
theorem dX2_through_88 : decode cX2_through 88 = .ok (.aaload, 1) := dqo_50 (kb_X2_through_1 24 rfl)
theorem dX2_through_89 : decode cX2_through 89 = .ok (.iload 5, 2) := dqo_21 5 (kb_X2_through_1 25 rfl) (kb_X2_through_1 26 rfl)
theorem dX2_through_91 : decode cX2_through 91 = .ok (.invokevirtual 65, 3) := dqo_182 0 65 (kb_X2_through_1 27 rfl) (kb_X2_through_1 28 rfl) (kb_X2_through_1 29 rfl)
theorem dX2_through_94 : decode cX2_through 94 = .ok (.invokevirtual 141, 3) := dqo_182 0 141 (kb_X2_through_1 30 rfl) (kb_X2_through_1 31 rfl) (kb_X2_through_1 32 rfl)
theorem dX2_through_97 : decode cX2_through 97 = .ok (.iinc 4 1, 3) := dqo_132 4 1 (by decide) (kb_X2_through_1 33 rfl) (kb_X2_through_1 34 rfl) (kb_X2_through_1 35 rfl)
theorem dX2_through_100 : decode cX2_through 100 = .ok (.goto (-75), 3) := dqo_167 255 181 (by decide) (kb_X2_through_1 36 rfl) (kb_X2_through_1 37 rfl) (kb_X2_through_1 38 rfl)
theorem dX2_through_103 : decode cX2_through 103 = .ok (.aload_n 0, 1) := dqo_42 (kb_X2_through_1 39 rfl)
theorem dX2_through_104 : decode cX2_through 104 = .ok (.iload_n 3, 1) := dqo_29 (kb_X2_through_1 40 rfl)
theorem dX2_through_105 : decode cX2_through 105 = .ok (.invokevirtual 136, 3) := dqo_182 0 136 (kb_X2_through_1 41 rfl) (kb_X2_through_1 42 rfl) (kb_X2_through_1 43 rfl)
theorem dX2_through_108 : decode cX2_through 108 = .ok (.ireturn, 1) := dqo_172 (kb_X2_through_1 44 rfl)
set_option maxRecDepth 100000 in
set_option maxHeartbeats 4000000 in
theorem C_through_ok {l : Launch} {D : va_G} {cy : Nat → ClassId} {X : (Nat → Prop) → State → Heap → Prop} {a f : Nat → Nat → Nat} {r : Nat → Nat → Int32} {kn : Int32} {Y : va_W} {w : Nat} {v : Nat} {i : Nat} (hX : EnvX X) (hC : CInv f) (hw : w < 8) (h5w : f 5 w = 1) (hv : v < 8) (h5v : f 5 v = 1) (hi4 : i < 4) (hall : ∀ q, q < f 4 v → r (f 0 v) (f 3 v + q) < nI (f 4 w)) : Cd l D cy X yX2_through cX2_through 6 (some .int) (rmz 6 240) [.ref (a 0 0), .int (nI w), .int (nI v), .int (nI i)] (WC cy a f r kn ++ Y) (some (.int (nI (f 4 v)))) (WC cy a (settleF (up2 (up2 f 4 8 (f 4 v)) 4 i (f 4 v)) i 4294967295) (cpy2 (thR r (f 0 8) (f 4 v) (fun q => tvF (fun t => r (f 0 w) (f 3 w + t)) (r (f 0 v) (f 3 v + q)))) (f 0 8) (f 3 8) (f 0 i) (f 3 i) (f 4 v)) kn ++ Y) := by
  have q3 := hC.sp
  have q1_w := hC.al hw
  have q2_w := hC.th hw h5w
  have q4_w := hC.rw (i := f 1 w) q1_w.2.1
  have q1_v := hC.al hv
  have q2_v := hC.th hv h5v
  have q4_v := hC.rw (i := f 1 v) q1_v.2.1
  have q1_i := hC.rw hi4
  have q2_i := hC.al (i := i) (by omega)
  have q6_i : f 4 (f 1 i) = f 4 i := by rw [q1_i.2.1]
  have ne_w : w ≠ 8 := by omega
  have ne_v : v ≠ 8 := by omega
  have ne_i : i ≠ 8 := by omega
  refine Cm.of [some (.ref (a 0 0)), some (.int (nI w)), some (.int (nI v)), some (.int (nI i)), none, none] pn_X2 rfl (Nat.le_of_ble_eq_true rfl) ?_
  intro p e s m args below meth c A C hE hr hnt hn
  refine r_aload_n C dX2_through_0 rfl ?_
  refine r_iload_n C dX2_through_1 rfl ?_
  refine d_Vv (st := []) hX.stb C hE (C_needWhere_ok (f := f) (r := r) (kn := kn) (w := w) hX (by first | omega | (simp [up2, *]; done) | (simp [up2, *]; omega) | (simp only [up2_eq]; omega) | (split <;> omega)) (by first | omega | (simp [up2, *]; done) | (simp [up2, *]; omega) | (simp only [up2_eq]; omega) | (split <;> omega))) pk_X2_needWhere qm_X2_39 0 6 rfl rfl wc_0 rfl rfl (Nat.le_of_ble_eq_true rfl) dX2_through_2 ⟨Nat.le_of_ble_eq_true rfl, Nat.le_of_ble_eq_true rfl⟩ ⟨Nat.le_of_ble_eq_true rfl, Nat.le_of_ble_eq_true rfl⟩ ?_
  refine r_aload_n C dX2_through_5 rfl ?_
  refine r_iload_n C dX2_through_6 rfl ?_
  refine d_Vv (st := []) hX.stb C hE (C_needWhere_ok (f := f) (r := r) (kn := kn) (w := v) hX (by first | omega | (simp [up2, *]; done) | (simp [up2, *]; omega) | (simp only [up2_eq]; omega) | (split <;> omega)) (by first | omega | (simp [up2, *]; done) | (simp [up2, *]; omega) | (simp only [up2_eq]; omega) | (split <;> omega))) pk_X2_needWhere qm_X2_39 0 6 rfl rfl wc_0 rfl rfl (Nat.le_of_ble_eq_true rfl) dX2_through_7 ⟨Nat.le_of_ble_eq_true rfl, Nat.le_of_ble_eq_true rfl⟩ ⟨Nat.le_of_ble_eq_true rfl, Nat.le_of_ble_eq_true rfl⟩ ?_
  refine r_iload_n C dX2_through_10 rfl ?_
  refine d_Sv (st := []) hX.stb C hE (C_needRow_ok (f := f) (r := r) (kn := kn) (k := i) hX (by first | omega | (simp [up2, *]; done) | (simp [up2, *]; omega) | (simp only [up2_eq]; omega) | (split <;> omega))) pk_X2_needRow qm_X2_126 rfl rfl (Nat.le_of_ble_eq_true rfl) dX2_through_11 ⟨Nat.le_of_ble_eq_true rfl, Nat.le_of_ble_eq_true rfl⟩ ⟨Nat.le_of_ble_eq_true rfl, Nat.le_of_ble_eq_true rfl⟩ ?_
  refine r_aload_n C dX2_through_14 rfl ?_
  refine s_get C 2 (by decide) qf_X2_29 rfl rfl dX2_through_15 ?_
  refine r_iconst (v := (nI 0)) C dX2_through_18 (by decide) ?_
  refine p_putN hX C hE 4 (by first | omega | (simp [up2, *]; done) | (simp [up2, *]; omega) | (simp only [up2_eq]; omega) | (split <;> omega)) (by decide) (by decide) qn_X2_50 rfl rfl rfl dX2_through_19 ?_
  refine r_iconst (v := (nI 0)) C dX2_through_22 (by decide) ?_
  refine r_istore C dX2_through_23 (by decide) rfl ?_
  refine r_w (congrArg (fun z => WC cy a (up2 f 4 8 0) z kn ++ Y) (thR_0 r (f 0 8) (fun q => tvF (fun t => r (f 0 w) (f 3 w + t)) (r (f 0 v) (f 3 v + q)))).symm) ?_
  have L25 : ∀ (d : Nat) (t : Nat), (ht : t + d = f 4 v) → vC p l e (rmz 6 240) s m args below meth c D A (vx_MQ below (vG (fun v1 w1 => v1 = (some (.int (nI (f 4 v)))) ∧ w1 = WC cy a (settleF (up2 (up2 f 4 8 (f 4 v)) 4 i (f 4 v)) i 4294967295) (cpy2 (thR r (f 0 8) (f 4 v) (fun q => tvF (fun t => r (f 0 w) (f 3 w + t)) (r (f 0 v) (f 3 v + q)))) (f 0 8) (f 3 8) (f 0 i) (f 3 i) (f 4 v)) kn ++ Y) D vwCl A) (vGX (fun _ => False) D vwCl (WC cy a f r kn ++ Y) A) args s (rmz 6 240).cells (rmz 6 240).slots A) 6 0 0 (WC cy a (up2 f 4 8 t) (thR r (f 0 8) t (fun q => tvF (fun t => r (f 0 w) (f 3 w + t)) (r (f 0 v) (f 3 v + q)))) kn ++ Y) [some (.ref (a 0 0)), some (.int (nI w)), some (.int (nI v)), some (.int (nI i)), some (.int (nI t)), none] 25 [] := by
    intro d
    induction d with
    | zero =>
      intro t ht
      refine r_iload C dX2_through_25 rfl ?_
      refine r_aload_n C dX2_through_27 rfl ?_
      refine s_get C 0 (by decide) qf_X2_11 rfl rfl dX2_through_28 ?_
      refine r_iload_n C dX2_through_31 rfl ?_
      refine s_parts C (by first | omega | (simp [up2, *]; done) | (simp [up2, *]; omega) | (simp only [up2_eq]; omega) | (split <;> omega)) dX2_through_32 ?_
      refine p_getN (v := .int (nI (f 4 v))) hX C hE 4 (by first | omega | (simp [up2, *]; done) | (simp [up2, *]; omega) | (simp only [up2_eq]; omega) | (split <;> omega)) (by decide) qn_X2_50 rfl (congrArg (fun z => some (Value.int (nI z))) (show (up2 f 4 8 t) 4 v = f 4 v by simp [up2, exL_at, dmF_at, *])) dX2_through_33 ?_
      refine r_icN_ge (a := t) (b := (f 4 v)) (tgt := 103) C (by first | omega | (simp [up2, *]; done) | (simp [up2, *]; omega) | (simp only [up2_eq]; omega) | (split <;> omega)) (by first | omega | (simp [up2, *]; done) | (simp [up2, *]; omega) | (simp only [up2_eq]; omega) | (split <;> omega)) dX2_through_36 (by decide) (fun h36_1 => ?_) (fun h36_1 => ?_)
      · first
        | exfalso; first | omega | contradiction
        | skip
          have e8 : t = f 4 v := by omega
          subst e8
          refine r_aload_n C dX2_through_103 rfl ?_
          refine r_iload_n C dX2_through_104 rfl ?_
          refine d_V (st := []) hX.stb C hE (C_becomeSpare (f := (up2 f 4 8 (f 4 v))) (r := (thR r (f 0 8) (f 4 v) (fun q => tvF (fun t => r (f 0 w) (f 3 w + t)) (r (f 0 v) (f 3 v + q))))) (kn := kn) (i := i) hX (by first | omega | (simp [up2, *]; done) | (simp [up2, *]; omega) | (simp only [up2_eq]; omega) | (split <;> omega)) (by first | omega | (simp [up2, *]; done) | (simp [up2, *]; omega) | (simp only [up2_eq]; omega) | (split <;> omega)) (by first | omega | (simp [up2, *]; done) | (simp [up2, *]; omega) | (simp only [up2_eq]; omega) | (split <;> omega)) hC.h1 hC.hG hC.hU hC.hI8 (by first | omega | (simp [up2, *]; done) | (simp [up2, *]; omega) | (simp only [up2_eq]; omega) | (split <;> omega)) (by rw [up2_eq]; omega)) pk_X2_becomeSpare qm_X2_136 0 6 rfl rfl wc_0 rfl rfl (Nat.le_of_ble_eq_true rfl) dX2_through_105 ⟨Nat.le_of_ble_eq_true rfl, Nat.le_of_ble_eq_true rfl⟩ ⟨Nat.le_of_ble_eq_true rfl, Nat.le_of_ble_eq_true rfl⟩ ?_
          exact r_iret C hr dX2_through_108 ⟨rfl, rfl⟩ (Nat.le_of_ble_eq_true rfl) (Nat.le_of_ble_eq_true rfl)
      · first
        | exfalso; first | omega | contradiction
        | skip
          refine r_aload_n C dX2_through_39 rfl ?_
          refine s_get C 0 (by decide) qf_X2_11 rfl rfl dX2_through_40 ?_
          refine r_iload_n C dX2_through_43 rfl ?_
          refine s_parts C (by first | omega | (simp [up2, *]; done) | (simp [up2, *]; omega) | (simp only [up2_eq]; omega) | (split <;> omega)) dX2_through_44 ?_
          refine r_iload C dX2_through_45 rfl ?_
          refine d_V (st := []) hX.stb C hE (C_itemAt (f := (up2 f 4 8 t)) (r := (thR r (f 0 8) t (fun q => tvF (fun t => r (f 0 w) (f 3 w + t)) (r (f 0 v) (f 3 v + q))))) (kn := kn) (i := v) (k := t) hX (by first | omega | (simp [up2, *]; done) | (simp [up2, *]; omega) | (simp only [up2_eq]; omega) | (split <;> omega)) (by first | omega | (simp [up2, *]; done) | (simp [up2, *]; omega) | (simp only [up2_eq]; omega) | (split <;> omega)) (by first | omega | (simp [up2, *]; done) | (simp [up2, *]; omega) | (simp only [up2_eq]; omega) | (split <;> omega))) pk_X1_itemAt qm_X2_65 (3 + v) 5 rfl rfl (wc_p (by first | omega | (simp [up2, *]; done) | (simp [up2, *]; omega) | (simp only [up2_eq]; omega) | (split <;> omega))) rfl rfl (Nat.le_of_ble_eq_true rfl) dX2_through_47 ⟨Nat.le_of_ble_eq_true rfl, Nat.le_of_ble_eq_true rfl⟩ ⟨Nat.le_of_ble_eq_true rfl, Nat.le_of_ble_eq_true rfl⟩ ?_
          refine r_eqi (y := r (f 0 v) (f 3 v + t)) (congrFun (thR_off (show f 0 v ≠ f 0 8 from q2_v.2.2.2.2.1)) _) ?_
          refine r_istore C dX2_through_50 (by decide) rfl ?_
          refine r_iload C dX2_through_52 rfl ?_
          refine r_aload_n C dX2_through_54 rfl ?_
          refine s_get C 0 (by decide) qf_X2_11 rfl rfl dX2_through_55 ?_
          refine r_iload_n C dX2_through_58 rfl ?_
          refine s_parts C (by first | omega | (simp [up2, *]; done) | (simp [up2, *]; omega) | (simp only [up2_eq]; omega) | (split <;> omega)) dX2_through_59 ?_
          refine p_getN (v := .int (nI (f 4 w))) hX C hE 4 (by first | omega | (simp [up2, *]; done) | (simp [up2, *]; omega) | (simp only [up2_eq]; omega) | (split <;> omega)) (by decide) qn_X2_50 rfl (congrArg (fun z => some (Value.int (nI z))) (show (up2 f 4 8 t) 4 w = f 4 w by simp [up2, exL_at, dmF_at, *])) dX2_through_60 ?_
          refine r_ic_lt (tgt := 69) C dX2_through_63 (by decide) (fun h63_2 => ?_) (fun h63_2 => ?_)
          · skip
            refine r_aload_n C dX2_through_69 rfl ?_
            refine s_get C 2 (by decide) qf_X2_29 rfl rfl dX2_through_70 ?_
            refine r_iload C dX2_through_73 rfl ?_
            refine r_if_ge (tgt := 83) C dX2_through_75 (by decide) (fun h75_3 => ?_) (fun h75_3 => ?_)
            · first
              | exfalso; first | omega | contradiction
              | skip
                refine r_aload_n C dX2_through_83 rfl ?_
                refine s_get C 0 (by decide) qf_X2_11 rfl rfl dX2_through_84 ?_
                refine r_iload_n C dX2_through_87 rfl ?_
                refine s_parts C (by first | omega | (simp [up2, *]; done) | (simp [up2, *]; omega) | (simp only [up2_eq]; omega) | (split <;> omega)) dX2_through_88 ?_
                refine r_iload C dX2_through_89 rfl ?_
                have hcl := cl_nI (by omega) (by assumption) (hall t (by omega))
                refine r_eqi hcl.1 ?_
                refine d_V (st := [.ref (a 1 8)]) hX.stb C hE (C_itemAt (f := (up2 f 4 8 t)) (r := (thR r (f 0 8) t (fun q => tvF (fun t => r (f 0 w) (f 3 w + t)) (r (f 0 v) (f 3 v + q))))) (kn := kn) (i := w) (k := ((r (f 0 v) (f 3 v + t)).toNatClampNeg)) hX (by first | omega | (simp [up2, *]; done) | (simp [up2, *]; omega) | (simp only [up2_eq]; omega) | (split <;> omega)) (by first | omega | (simp [up2, *]; done) | (simp [up2, *]; omega) | (simp only [up2_eq]; omega) | (split <;> omega)) (show f 3 w + (r (f 0 v) (f 3 v + t)).toNatClampNeg < 12 by omega)) pk_X1_itemAt qm_X2_65 (3 + w) 5 rfl rfl (wc_p (by first | omega | (simp [up2, *]; done) | (simp [up2, *]; omega) | (simp only [up2_eq]; omega) | (split <;> omega))) rfl rfl (Nat.le_of_ble_eq_true rfl) dX2_through_91 ⟨Nat.le_of_ble_eq_true rfl, Nat.le_of_ble_eq_true rfl⟩ ⟨Nat.le_of_ble_eq_true rfl, Nat.le_of_ble_eq_true rfl⟩ ?_
                refine r_eqi (y := r (f 0 w) (f 3 w + (r (f 0 v) (f 3 v + t)).toNatClampNeg)) (congrFun (thR_off (show f 0 w ≠ f 0 8 from q2_w.2.2.2.2.1)) _) ?_
                refine d_Vv (st := []) hX.stb C hE (C_append (f := (up2 f 4 8 t)) (r := (thR r (f 0 8) t (fun q => tvF (fun t => r (f 0 w) (f 3 w + t)) (r (f 0 v) (f 3 v + q))))) (kn := kn) (i := 8) (x := ((r (f 0 w) (f 3 w + (r (f 0 v) (f 3 v + t)).toNatClampNeg)))) hX (by first | omega | (simp [up2, *]; done) | (simp [up2, *]; omega) | (simp only [up2_eq]; omega) | (split <;> omega)) (by first | omega | (simp [up2, *]; done) | (simp [up2, *]; omega) | (simp only [up2_eq]; omega) | (split <;> omega)) (by first | omega | (simp [up2, *]; done) | (simp [up2, *]; omega) | (simp only [up2_eq]; omega) | (split <;> omega))) pk_X1_append qm_X2_141 (3 + 8) 5 rfl rfl (wc_p (by first | omega | (simp [up2, *]; done) | (simp [up2, *]; omega) | (simp only [up2_eq]; omega) | (split <;> omega))) rfl rfl (Nat.le_of_ble_eq_true rfl) dX2_through_94 ⟨Nat.le_of_ble_eq_true rfl, Nat.le_of_ble_eq_true rfl⟩ ⟨Nat.le_of_ble_eq_true rfl, Nat.le_of_ble_eq_true rfl⟩ ?_
                refine r_iincN C dX2_through_97 rfl (by decide) rfl ?_
                refine r_goto (tgt := 25) C dX2_through_100 (by decide) ?_
                refine r_w (congrArg (fun z => WC cy a z (up2 (thR r (f 0 8) t (fun q => tvF (fun t => r (f 0 w) (f 3 w + t)) (r (f 0 v) (f 3 v + q)))) (f 0 8) (t) ((r (f 0 w) (f 3 w + (r (f 0 v) (f 3 v + t)).toNatClampNeg)))) kn ++ Y) (up2_up2 f 4 8 t (t + 1))) ?_
                refine r_w (congrArg (fun z => WC cy a (up2 f 4 8 (t + 1)) z kn ++ Y) (thR_step (by simp only [tvF]; first | rw [if_pos (by assumption)] | (rw [if_neg (Int32.not_lt.mpr (by assumption))] <;> rfl) | rw [if_pos (Int32.not_le.mp (by assumption))]))) ?_
                refine r_drop 5 ?_
                exact (Nat.not_lt_zero _ (by omega)).elim
            · first
              | exfalso; first | omega | contradiction
              | skip
                refine r_iload C dX2_through_78 rfl ?_
                refine r_goto (tgt := 94) C dX2_through_80 (by decide) ?_
                refine d_Vv (st := []) hX.stb C hE (C_append (f := (up2 f 4 8 t)) (r := (thR r (f 0 8) t (fun q => tvF (fun t => r (f 0 w) (f 3 w + t)) (r (f 0 v) (f 3 v + q))))) (kn := kn) (i := 8) (x := ((r (f 0 v) (f 3 v + t)))) hX (by first | omega | (simp [up2, *]; done) | (simp [up2, *]; omega) | (simp only [up2_eq]; omega) | (split <;> omega)) (by first | omega | (simp [up2, *]; done) | (simp [up2, *]; omega) | (simp only [up2_eq]; omega) | (split <;> omega)) (by first | omega | (simp [up2, *]; done) | (simp [up2, *]; omega) | (simp only [up2_eq]; omega) | (split <;> omega))) pk_X1_append qm_X2_141 (3 + 8) 5 rfl rfl (wc_p (by first | omega | (simp [up2, *]; done) | (simp [up2, *]; omega) | (simp only [up2_eq]; omega) | (split <;> omega))) rfl rfl (Nat.le_of_ble_eq_true rfl) dX2_through_94 ⟨Nat.le_of_ble_eq_true rfl, Nat.le_of_ble_eq_true rfl⟩ ⟨Nat.le_of_ble_eq_true rfl, Nat.le_of_ble_eq_true rfl⟩ ?_
                refine r_iincN C dX2_through_97 rfl (by decide) rfl ?_
                refine r_goto (tgt := 25) C dX2_through_100 (by decide) ?_
                refine r_w (congrArg (fun z => WC cy a z (up2 (thR r (f 0 8) t (fun q => tvF (fun t => r (f 0 w) (f 3 w + t)) (r (f 0 v) (f 3 v + q)))) (f 0 8) (t) ((r (f 0 v) (f 3 v + t)))) kn ++ Y) (up2_up2 f 4 8 t (t + 1))) ?_
                refine r_w (congrArg (fun z => WC cy a (up2 f 4 8 (t + 1)) z kn ++ Y) (thR_step (by simp only [tvF]; first | rw [if_pos (by assumption)] | (rw [if_neg (Int32.not_lt.mpr (by assumption))] <;> rfl) | rw [if_pos (Int32.not_le.mp (by assumption))]))) ?_
                refine r_drop 5 ?_
                exact (Nat.not_lt_zero _ (by omega)).elim
          · exact absurd (hall t (by omega)) h63_2
    | succ d ih_L25 =>
      intro t ht
      refine r_iload C dX2_through_25 rfl ?_
      refine r_aload_n C dX2_through_27 rfl ?_
      refine s_get C 0 (by decide) qf_X2_11 rfl rfl dX2_through_28 ?_
      refine r_iload_n C dX2_through_31 rfl ?_
      refine s_parts C (by first | omega | (simp [up2, *]; done) | (simp [up2, *]; omega) | (simp only [up2_eq]; omega) | (split <;> omega)) dX2_through_32 ?_
      refine p_getN (v := .int (nI (f 4 v))) hX C hE 4 (by first | omega | (simp [up2, *]; done) | (simp [up2, *]; omega) | (simp only [up2_eq]; omega) | (split <;> omega)) (by decide) qn_X2_50 rfl (congrArg (fun z => some (Value.int (nI z))) (show (up2 f 4 8 t) 4 v = f 4 v by simp [up2, exL_at, dmF_at, *])) dX2_through_33 ?_
      refine r_icN_ge (a := t) (b := (f 4 v)) (tgt := 103) C (by first | omega | (simp [up2, *]; done) | (simp [up2, *]; omega) | (simp only [up2_eq]; omega) | (split <;> omega)) (by first | omega | (simp [up2, *]; done) | (simp [up2, *]; omega) | (simp only [up2_eq]; omega) | (split <;> omega)) dX2_through_36 (by decide) (fun h36_4 => ?_) (fun h36_4 => ?_)
      · first
        | exfalso; first | omega | contradiction
        | skip
          have e8 : t = f 4 v := by omega
          subst e8
          refine r_aload_n C dX2_through_103 rfl ?_
          refine r_iload_n C dX2_through_104 rfl ?_
          refine d_V (st := []) hX.stb C hE (C_becomeSpare (f := (up2 f 4 8 (f 4 v))) (r := (thR r (f 0 8) (f 4 v) (fun q => tvF (fun t => r (f 0 w) (f 3 w + t)) (r (f 0 v) (f 3 v + q))))) (kn := kn) (i := i) hX (by first | omega | (simp [up2, *]; done) | (simp [up2, *]; omega) | (simp only [up2_eq]; omega) | (split <;> omega)) (by first | omega | (simp [up2, *]; done) | (simp [up2, *]; omega) | (simp only [up2_eq]; omega) | (split <;> omega)) (by first | omega | (simp [up2, *]; done) | (simp [up2, *]; omega) | (simp only [up2_eq]; omega) | (split <;> omega)) hC.h1 hC.hG hC.hU hC.hI8 (by first | omega | (simp [up2, *]; done) | (simp [up2, *]; omega) | (simp only [up2_eq]; omega) | (split <;> omega)) (by rw [up2_eq]; omega)) pk_X2_becomeSpare qm_X2_136 0 6 rfl rfl wc_0 rfl rfl (Nat.le_of_ble_eq_true rfl) dX2_through_105 ⟨Nat.le_of_ble_eq_true rfl, Nat.le_of_ble_eq_true rfl⟩ ⟨Nat.le_of_ble_eq_true rfl, Nat.le_of_ble_eq_true rfl⟩ ?_
          exact r_iret C hr dX2_through_108 ⟨rfl, rfl⟩ (Nat.le_of_ble_eq_true rfl) (Nat.le_of_ble_eq_true rfl)
      · first
        | exfalso; first | omega | contradiction
        | skip
          refine r_aload_n C dX2_through_39 rfl ?_
          refine s_get C 0 (by decide) qf_X2_11 rfl rfl dX2_through_40 ?_
          refine r_iload_n C dX2_through_43 rfl ?_
          refine s_parts C (by first | omega | (simp [up2, *]; done) | (simp [up2, *]; omega) | (simp only [up2_eq]; omega) | (split <;> omega)) dX2_through_44 ?_
          refine r_iload C dX2_through_45 rfl ?_
          refine d_V (st := []) hX.stb C hE (C_itemAt (f := (up2 f 4 8 t)) (r := (thR r (f 0 8) t (fun q => tvF (fun t => r (f 0 w) (f 3 w + t)) (r (f 0 v) (f 3 v + q))))) (kn := kn) (i := v) (k := t) hX (by first | omega | (simp [up2, *]; done) | (simp [up2, *]; omega) | (simp only [up2_eq]; omega) | (split <;> omega)) (by first | omega | (simp [up2, *]; done) | (simp [up2, *]; omega) | (simp only [up2_eq]; omega) | (split <;> omega)) (by first | omega | (simp [up2, *]; done) | (simp [up2, *]; omega) | (simp only [up2_eq]; omega) | (split <;> omega))) pk_X1_itemAt qm_X2_65 (3 + v) 5 rfl rfl (wc_p (by first | omega | (simp [up2, *]; done) | (simp [up2, *]; omega) | (simp only [up2_eq]; omega) | (split <;> omega))) rfl rfl (Nat.le_of_ble_eq_true rfl) dX2_through_47 ⟨Nat.le_of_ble_eq_true rfl, Nat.le_of_ble_eq_true rfl⟩ ⟨Nat.le_of_ble_eq_true rfl, Nat.le_of_ble_eq_true rfl⟩ ?_
          refine r_eqi (y := r (f 0 v) (f 3 v + t)) (congrFun (thR_off (show f 0 v ≠ f 0 8 from q2_v.2.2.2.2.1)) _) ?_
          refine r_istore C dX2_through_50 (by decide) rfl ?_
          refine r_iload C dX2_through_52 rfl ?_
          refine r_aload_n C dX2_through_54 rfl ?_
          refine s_get C 0 (by decide) qf_X2_11 rfl rfl dX2_through_55 ?_
          refine r_iload_n C dX2_through_58 rfl ?_
          refine s_parts C (by first | omega | (simp [up2, *]; done) | (simp [up2, *]; omega) | (simp only [up2_eq]; omega) | (split <;> omega)) dX2_through_59 ?_
          refine p_getN (v := .int (nI (f 4 w))) hX C hE 4 (by first | omega | (simp [up2, *]; done) | (simp [up2, *]; omega) | (simp only [up2_eq]; omega) | (split <;> omega)) (by decide) qn_X2_50 rfl (congrArg (fun z => some (Value.int (nI z))) (show (up2 f 4 8 t) 4 w = f 4 w by simp [up2, exL_at, dmF_at, *])) dX2_through_60 ?_
          refine r_ic_lt (tgt := 69) C dX2_through_63 (by decide) (fun h63_5 => ?_) (fun h63_5 => ?_)
          · skip
            refine r_aload_n C dX2_through_69 rfl ?_
            refine s_get C 2 (by decide) qf_X2_29 rfl rfl dX2_through_70 ?_
            refine r_iload C dX2_through_73 rfl ?_
            refine r_if_ge (tgt := 83) C dX2_through_75 (by decide) (fun h75_6 => ?_) (fun h75_6 => ?_)
            · first
              | exfalso; first | omega | contradiction
              | skip
                refine r_aload_n C dX2_through_83 rfl ?_
                refine s_get C 0 (by decide) qf_X2_11 rfl rfl dX2_through_84 ?_
                refine r_iload_n C dX2_through_87 rfl ?_
                refine s_parts C (by first | omega | (simp [up2, *]; done) | (simp [up2, *]; omega) | (simp only [up2_eq]; omega) | (split <;> omega)) dX2_through_88 ?_
                refine r_iload C dX2_through_89 rfl ?_
                have hcl := cl_nI (by omega) (by assumption) (hall t (by omega))
                refine r_eqi hcl.1 ?_
                refine d_V (st := [.ref (a 1 8)]) hX.stb C hE (C_itemAt (f := (up2 f 4 8 t)) (r := (thR r (f 0 8) t (fun q => tvF (fun t => r (f 0 w) (f 3 w + t)) (r (f 0 v) (f 3 v + q))))) (kn := kn) (i := w) (k := ((r (f 0 v) (f 3 v + t)).toNatClampNeg)) hX (by first | omega | (simp [up2, *]; done) | (simp [up2, *]; omega) | (simp only [up2_eq]; omega) | (split <;> omega)) (by first | omega | (simp [up2, *]; done) | (simp [up2, *]; omega) | (simp only [up2_eq]; omega) | (split <;> omega)) (show f 3 w + (r (f 0 v) (f 3 v + t)).toNatClampNeg < 12 by omega)) pk_X1_itemAt qm_X2_65 (3 + w) 5 rfl rfl (wc_p (by first | omega | (simp [up2, *]; done) | (simp [up2, *]; omega) | (simp only [up2_eq]; omega) | (split <;> omega))) rfl rfl (Nat.le_of_ble_eq_true rfl) dX2_through_91 ⟨Nat.le_of_ble_eq_true rfl, Nat.le_of_ble_eq_true rfl⟩ ⟨Nat.le_of_ble_eq_true rfl, Nat.le_of_ble_eq_true rfl⟩ ?_
                refine r_eqi (y := r (f 0 w) (f 3 w + (r (f 0 v) (f 3 v + t)).toNatClampNeg)) (congrFun (thR_off (show f 0 w ≠ f 0 8 from q2_w.2.2.2.2.1)) _) ?_
                refine d_Vv (st := []) hX.stb C hE (C_append (f := (up2 f 4 8 t)) (r := (thR r (f 0 8) t (fun q => tvF (fun t => r (f 0 w) (f 3 w + t)) (r (f 0 v) (f 3 v + q))))) (kn := kn) (i := 8) (x := ((r (f 0 w) (f 3 w + (r (f 0 v) (f 3 v + t)).toNatClampNeg)))) hX (by first | omega | (simp [up2, *]; done) | (simp [up2, *]; omega) | (simp only [up2_eq]; omega) | (split <;> omega)) (by first | omega | (simp [up2, *]; done) | (simp [up2, *]; omega) | (simp only [up2_eq]; omega) | (split <;> omega)) (by first | omega | (simp [up2, *]; done) | (simp [up2, *]; omega) | (simp only [up2_eq]; omega) | (split <;> omega))) pk_X1_append qm_X2_141 (3 + 8) 5 rfl rfl (wc_p (by first | omega | (simp [up2, *]; done) | (simp [up2, *]; omega) | (simp only [up2_eq]; omega) | (split <;> omega))) rfl rfl (Nat.le_of_ble_eq_true rfl) dX2_through_94 ⟨Nat.le_of_ble_eq_true rfl, Nat.le_of_ble_eq_true rfl⟩ ⟨Nat.le_of_ble_eq_true rfl, Nat.le_of_ble_eq_true rfl⟩ ?_
                refine r_iincN C dX2_through_97 rfl (by decide) rfl ?_
                refine r_goto (tgt := 25) C dX2_through_100 (by decide) ?_
                refine r_w (congrArg (fun z => WC cy a z (up2 (thR r (f 0 8) t (fun q => tvF (fun t => r (f 0 w) (f 3 w + t)) (r (f 0 v) (f 3 v + q)))) (f 0 8) (t) ((r (f 0 w) (f 3 w + (r (f 0 v) (f 3 v + t)).toNatClampNeg)))) kn ++ Y) (up2_up2 f 4 8 t (t + 1))) ?_
                refine r_w (congrArg (fun z => WC cy a (up2 f 4 8 (t + 1)) z kn ++ Y) (thR_step (by simp only [tvF]; first | rw [if_pos (by assumption)] | (rw [if_neg (Int32.not_lt.mpr (by assumption))] <;> rfl) | rw [if_pos (Int32.not_le.mp (by assumption))]))) ?_
                refine r_drop 5 ?_
                exact ih_L25 (t + 1) (by omega)
            · first
              | exfalso; first | omega | contradiction
              | skip
                refine r_iload C dX2_through_78 rfl ?_
                refine r_goto (tgt := 94) C dX2_through_80 (by decide) ?_
                refine d_Vv (st := []) hX.stb C hE (C_append (f := (up2 f 4 8 t)) (r := (thR r (f 0 8) t (fun q => tvF (fun t => r (f 0 w) (f 3 w + t)) (r (f 0 v) (f 3 v + q))))) (kn := kn) (i := 8) (x := ((r (f 0 v) (f 3 v + t)))) hX (by first | omega | (simp [up2, *]; done) | (simp [up2, *]; omega) | (simp only [up2_eq]; omega) | (split <;> omega)) (by first | omega | (simp [up2, *]; done) | (simp [up2, *]; omega) | (simp only [up2_eq]; omega) | (split <;> omega)) (by first | omega | (simp [up2, *]; done) | (simp [up2, *]; omega) | (simp only [up2_eq]; omega) | (split <;> omega))) pk_X1_append qm_X2_141 (3 + 8) 5 rfl rfl (wc_p (by first | omega | (simp [up2, *]; done) | (simp [up2, *]; omega) | (simp only [up2_eq]; omega) | (split <;> omega))) rfl rfl (Nat.le_of_ble_eq_true rfl) dX2_through_94 ⟨Nat.le_of_ble_eq_true rfl, Nat.le_of_ble_eq_true rfl⟩ ⟨Nat.le_of_ble_eq_true rfl, Nat.le_of_ble_eq_true rfl⟩ ?_
                refine r_iincN C dX2_through_97 rfl (by decide) rfl ?_
                refine r_goto (tgt := 25) C dX2_through_100 (by decide) ?_
                refine r_w (congrArg (fun z => WC cy a z (up2 (thR r (f 0 8) t (fun q => tvF (fun t => r (f 0 w) (f 3 w + t)) (r (f 0 v) (f 3 v + q)))) (f 0 8) (t) ((r (f 0 v) (f 3 v + t)))) kn ++ Y) (up2_up2 f 4 8 t (t + 1))) ?_
                refine r_w (congrArg (fun z => WC cy a (up2 f 4 8 (t + 1)) z kn ++ Y) (thR_step (by simp only [tvF]; first | rw [if_pos (by assumption)] | (rw [if_neg (Int32.not_lt.mpr (by assumption))] <;> rfl) | rw [if_pos (Int32.not_le.mp (by assumption))]))) ?_
                refine r_drop 5 ?_
                exact ih_L25 (t + 1) (by omega)
          · exact absurd (hall t (by omega)) h63_5
  exact L25 (f 4 v) 0 (by omega)
