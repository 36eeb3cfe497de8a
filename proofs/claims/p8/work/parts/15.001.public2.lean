theorem dX2_fill_8 : decode cX2_fill 8 = .ok (.iconst 0, 1) := by decide +kernel
theorem dX2_fill_9 : decode cX2_fill 9 = .ok (.istore_n 3, 1) := by decide +kernel
theorem dX2_fill_10 : decode cX2_fill 10 = .ok (.iload_n 3, 1) := by decide +kernel
theorem dX2_fill_11 : decode cX2_fill 11 = .ok (.aload_n 0, 1) := by decide +kernel
theorem dX2_fill_12 : decode cX2_fill 12 = .ok (.getfield 11, 3) := by decide +kernel
theorem dX2_fill_15 : decode cX2_fill 15 = .ok (.iload_n 1, 1) := by decide +kernel
theorem dX2_fill_16 : decode cX2_fill 16 = .ok (.aaload, 1) := by decide +kernel
theorem dX2_fill_17 : decode cX2_fill 17 = .ok (.getfield 50, 3) := by decide +kernel
theorem dX2_fill_20 : decode cX2_fill 20 = .ok (.if_icmp .ge 20, 3) := by decide +kernel
theorem dX2_fill_23 : decode cX2_fill 23 = .ok (.aload_n 0, 1) := by decide +kernel
theorem dX2_fill_24 : decode cX2_fill 24 = .ok (.getfield 11, 3) := by decide +kernel
theorem dX2_fill_27 : decode cX2_fill 27 = .ok (.iload_n 1, 1) := by decide +kernel
theorem dX2_fill_28 : decode cX2_fill 28 = .ok (.aaload, 1) := by decide +kernel
theorem dX2_fill_29 : decode cX2_fill 29 = .ok (.iload_n 3, 1) := by decide +kernel
theorem dX2_fill_30 : decode cX2_fill 30 = .ok (.iload_n 2, 1) := by decide +kernel
theorem dX2_fill_31 : decode cX2_fill 31 = .ok (.invokevirtual 69, 3) := by decide +kernel
theorem dX2_fill_34 : decode cX2_fill 34 = .ok (.iinc 3 1, 3) := by decide +kernel
theorem dX2_fill_37 : decode cX2_fill 37 = .ok (.goto (-27), 3) := by decide +kernel
theorem dX2_fill_40 : decode cX2_fill 40 = .ok (.aload_n 0, 1) := by decide +kernel
theorem dX2_fill_41 : decode cX2_fill 41 = .ok (.getfield 11, 3) := by decide +kernel
theorem dX2_fill_44 : decode cX2_fill 44 = .ok (.iload_n 1, 1) := by decide +kernel
theorem dX2_fill_45 : decode cX2_fill 45 = .ok (.aaload, 1) := by decide +kernel
theorem dX2_fill_46 : decode cX2_fill 46 = .ok (.getfield 50, 3) := by decide +kernel
theorem dX2_fill_49 : decode cX2_fill 49 = .ok (.ireturn, 1) := by decide +kernel
set_option maxRecDepth 100000 in
set_option maxHeartbeats 4000000 in
theorem C_fill_ok {l : Launch} {D : va_G} {cy : Nat → ClassId} {X : (Nat → Prop) → State → Heap → Prop} {a f : Nat → Nat → Nat} {r : Nat → Nat → Int32} {kn : Int32} {Y : va_W} {i : Nat} {y : Int32} (hX : EnvX X) (hC : CInv f) (hi4 : i < 4) (ho : okI y) : Cd l D cy X yX2_fill cX2_fill 4 (some .int) (rmz 6 240) [.ref (a 0 0), .int (nI i), .int y] (WC cy a f r kn ++ Y) (some (.int (nI (f 4 i)))) (WC cy a f (flR r (f 0 i) (f 3 i) (f 4 i) y) kn ++ Y) := by
  have q3 := hC.sp
  have q1_i := hC.rw hi4
  have q2_i := hC.al (i := i) (by omega)
  have q6_i : f 4 (f 1 i) = f 4 i := by rw [q1_i.2.1]
  refine Cm.of [some (.ref (a 0 0)), some (.int (nI i)), some (.int y), none] (by decide +kernel) rfl (Nat.le_of_ble_eq_true rfl) ?_
  intro p e s m args below meth c A C hE hr hnt hn
  refine r_iload_n C dX2_fill_0 rfl ?_
  refine d_Sv (st := []) hX.stb C hE (C_needRow_ok (f := f) (r := r) (kn := kn) (k := i) hX (by first | omega | (simp [up2, *]; done) | (simp [up2, *]; omega) | (simp only [up2_eq]; omega) | (split <;> omega))) pk_X2_needRow qm_X2_126 rfl rfl (Nat.le_of_ble_eq_true rfl) dX2_fill_1 ⟨Nat.le_of_ble_eq_true rfl, Nat.le_of_ble_eq_true rfl⟩ ⟨Nat.le_of_ble_eq_true rfl, Nat.le_of_ble_eq_true rfl⟩ ?_
  refine r_iload_n C dX2_fill_4 rfl ?_
  refine d_Sv (st := []) hX.stb C hE (C_needItem_ok (f := f) (r := r) (kn := kn) (x := (y)) hX ho) pk_X2_needItem qm_X2_43 rfl rfl (Nat.le_of_ble_eq_true rfl) dX2_fill_5 ⟨Nat.le_of_ble_eq_true rfl, Nat.le_of_ble_eq_true rfl⟩ ⟨Nat.le_of_ble_eq_true rfl, Nat.le_of_ble_eq_true rfl⟩ ?_
  refine r_iconst (v := (nI 0)) C dX2_fill_8 (by decide) ?_
  refine r_istore_n C dX2_fill_9 (by decide) rfl ?_
  refine r_w (congrArg (fun z => WC cy a f z kn ++ Y) (flR_0 r (f 0 i) (f 3 i) y).symm) ?_
  have L10 : ∀ (d : Nat) (k : Nat), (hk : k + d = f 4 i) → vC p l e (rmz 6 240) s m args below meth c D A (vx_MQ below (vG (fun v1 w1 => v1 = (some (.int (nI (f 4 i)))) ∧ w1 = WC cy a f (flR r (f 0 i) (f 3 i) (f 4 i) y) kn ++ Y) D vwCl A) (vGX (fun _ => False) D vwCl (WC cy a f r kn ++ Y) A) args s (rmz 6 240).cells (rmz 6 240).slots A) 4 0 0 (WC cy a f (flR r (f 0 i) (f 3 i) k y) kn ++ Y) [some (.ref (a 0 0)), some (.int (nI i)), some (.int y), some (.int (nI k))] 10 [] := by
    intro d
    induction d with
    | zero =>
      intro k hk
      refine r_iload_n C dX2_fill_10 rfl ?_
      refine r_aload_n C dX2_fill_11 rfl ?_
      refine s_get C 0 (by decide) qf_X2_11 rfl rfl dX2_fill_12 ?_
      refine r_iload_n C dX2_fill_15 rfl ?_
      refine s_parts C (by first | omega | (simp [up2, *]; done) | (simp [up2, *]; omega) | (simp only [up2_eq]; omega) | (split <;> omega)) dX2_fill_16 ?_
      refine p_getN (v := .int (nI (f 4 i))) hX C hE 4 (by first | omega | (simp [up2, *]; done) | (simp [up2, *]; omega) | (simp only [up2_eq]; omega) | (split <;> omega)) (by decide) qn_X2_50 rfl rfl dX2_fill_17 ?_
      refine r_icN_ge (a := k) (b := (f 4 i)) (tgt := 40) C (by first | omega | (simp [up2, *]; done) | (simp [up2, *]; omega) | (simp only [up2_eq]; omega) | (split <;> omega)) (by first | omega | (simp [up2, *]; done) | (simp [up2, *]; omega) | (simp only [up2_eq]; omega) | (split <;> omega)) dX2_fill_20 (by decide) (fun h20_1 => ?_) (fun h20_1 => ?_)
      · first
        | exfalso; first | omega | contradiction
        | skip
          refine r_aload_n C dX2_fill_40 rfl ?_
          refine s_get C 0 (by decide) qf_X2_11 rfl rfl dX2_fill_41 ?_
          refine r_iload_n C dX2_fill_44 rfl ?_
          refine s_parts C (by first | omega | (simp [up2, *]; done) | (simp [up2, *]; omega) | (simp only [up2_eq]; omega) | (split <;> omega)) dX2_fill_45 ?_
          refine p_getN (v := .int (nI (f 4 i))) hX C hE 4 (by first | omega | (simp [up2, *]; done) | (simp [up2, *]; omega) | (simp only [up2_eq]; omega) | (split <;> omega)) (by decide) qn_X2_50 rfl rfl dX2_fill_46 ?_
          have e8 : k = f 4 i := by omega
          subst e8
          exact r_iret C hr dX2_fill_49 ⟨rfl, rfl⟩ (Nat.le_of_ble_eq_true rfl) (Nat.le_of_ble_eq_true rfl)
      · first
        | exfalso; first | omega | contradiction
        | skip
          refine r_aload_n C dX2_fill_23 rfl ?_
          refine s_get C 0 (by decide) qf_X2_11 rfl rfl dX2_fill_24 ?_
          refine r_iload_n C dX2_fill_27 rfl ?_
          refine s_parts C (by first | omega | (simp [up2, *]; done) | (simp [up2, *]; omega) | (simp only [up2_eq]; omega) | (split <;> omega)) dX2_fill_28 ?_
          refine r_iload_n C dX2_fill_29 rfl ?_
          refine r_iload_n C dX2_fill_30 rfl ?_
          refine d_Vv (st := []) hX.stb C hE (C_putAt (f := f) (r := (flR r (f 0 i) (f 3 i) k y)) (kn := kn) (i := i) (k := k) (x := (y)) hX (by first | omega | (simp [up2, *]; done) | (simp [up2, *]; omega) | (simp only [up2_eq]; omega) | (split <;> omega)) (by first | omega | (simp [up2, *]; done) | (simp [up2, *]; omega) | (simp only [up2_eq]; omega) | (split <;> omega)) (by first | omega | (simp [up2, *]; done) | (simp [up2, *]; omega) | (simp only [up2_eq]; omega) | (split <;> omega))) pk_X1_putAt qm_X2_69 (3 + i) 5 rfl rfl (wc_p (by first | omega | (simp [up2, *]; done) | (simp [up2, *]; omega) | (simp only [up2_eq]; omega) | (split <;> omega))) rfl rfl (Nat.le_of_ble_eq_true rfl) dX2_fill_31 ⟨Nat.le_of_ble_eq_true rfl, Nat.le_of_ble_eq_true rfl⟩ ⟨Nat.le_of_ble_eq_true rfl, Nat.le_of_ble_eq_true rfl⟩ ?_
          refine r_iincN C dX2_fill_34 rfl (by decide) rfl ?_
          refine r_goto (tgt := 10) C dX2_fill_37 (by decide) ?_
          refine r_w (congrArg (fun z => WC cy a f z kn ++ Y) flR_step) ?_
          exact (Nat.not_lt_zero _ (by omega)).elim
    | succ d ih_L10 =>
      intro k hk
      refine r_iload_n C dX2_fill_10 rfl ?_
      refine r_aload_n C dX2_fill_11 rfl ?_
      refine s_get C 0 (by decide) qf_X2_11 rfl rfl dX2_fill_12 ?_
      refine r_iload_n C dX2_fill_15 rfl ?_
      refine s_parts C (by first | omega | (simp [up2, *]; done) | (simp [up2, *]; omega) | (simp only [up2_eq]; omega) | (split <;> omega)) dX2_fill_16 ?_
      refine p_getN (v := .int (nI (f 4 i))) hX C hE 4 (by first | omega | (simp [up2, *]; done) | (simp [up2, *]; omega) | (simp only [up2_eq]; omega) | (split <;> omega)) (by decide) qn_X2_50 rfl rfl dX2_fill_17 ?_
      refine r_icN_ge (a := k) (b := (f 4 i)) (tgt := 40) C (by first | omega | (simp [up2, *]; done) | (simp [up2, *]; omega) | (simp only [up2_eq]; omega) | (split <;> omega)) (by first | omega | (simp [up2, *]; done) | (simp [up2, *]; omega) | (simp only [up2_eq]; omega) | (split <;> omega)) dX2_fill_20 (by decide) (fun h20_2 => ?_) (fun h20_2 => ?_)
      · first
        | exfalso; first | omega | contradiction
        | skip
          refine r_aload_n C dX2_fill_40 rfl ?_
          refine s_get C 0 (by decide) qf_X2_11 rfl rfl dX2_fill_41 ?_
          refine r_iload_n C dX2_fill_44 rfl ?_
          refine s_parts C (by first | omega | (simp [up2, *]; done) | (simp [up2, *]; omega) | (simp only [up2_eq]; omega) | (split <;> omega)) dX2_fill_45 ?_
          refine p_getN (v := .int (nI (f 4 i))) hX C hE 4 (by first | omega | (simp [up2, *]; done) | (simp [up2, *]; omega) | (simp only [up2_eq]; omega) | (split <;> omega)) (by decide) qn_X2_50 rfl rfl dX2_fill_46 ?_
          have e8 : k = f 4 i := by omega
          subst e8
          exact r_iret C hr dX2_fill_49 ⟨rfl, rfl⟩ (Nat.le_of_ble_eq_true rfl) (Nat.le_of_ble_eq_true rfl)
      · first
        | exfalso; first | omega | contradiction
        | skip
          refine r_aload_n C dX2_fill_23 rfl ?_
          refine s_get C 0 (by decide) qf_X2_11 rfl rfl dX2_fill_24 ?_
          refine r_iload_n C dX2_fill_27 rfl ?_
          refine s_parts C (by first | omega | (simp [up2, *]; done) | (simp [up2, *]; omega) | (simp only [up2_eq]; omega) | (split <;> omega)) dX2_fill_28 ?_
          refine r_iload_n C dX2_fill_29 rfl ?_
          refine r_iload_n C dX2_fill_30 rfl ?_
          refine d_Vv (st := []) hX.stb C hE (C_putAt (f := f) (r := (flR r (f 0 i) (f 3 i) k y)) (kn := kn) (i := i) (k := k) (x := (y)) hX (by first | omega | (simp [up2, *]; done) | (simp [up2, *]; omega) | (simp only [up2_eq]; omega) | (split <;> omega)) (by first | omega | (simp [up2, *]; done) | (simp [up2, *]; omega) | (simp only [up2_eq]; omega) | (split <;> omega)) (by first | omega | (simp [up2, *]; done) | (simp [up2, *]; omega) | (simp only [up2_eq]; omega) | (split <;> omega))) pk_X1_putAt qm_X2_69 (3 + i) 5 rfl rfl (wc_p (by first | omega | (simp [up2, *]; done) | (simp [up2, *]; omega) | (simp only [up2_eq]; omega) | (split <;> omega))) rfl rfl (Nat.le_of_ble_eq_true rfl) dX2_fill_31 ⟨Nat.le_of_ble_eq_true rfl, Nat.le_of_ble_eq_true rfl⟩ ⟨Nat.le_of_ble_eq_true rfl, Nat.le_of_ble_eq_true rfl⟩ ?_
          refine r_iincN C dX2_fill_34 rfl (by decide) rfl ?_
          refine r_goto (tgt := 10) C dX2_fill_37 (by decide) ?_
          refine r_w (congrArg (fun z => WC cy a f z kn ++ Y) flR_step) ?_
          exact ih_L10 (k + 1) (by omega)
  exact L10 (f 4 i) 0 (by omega)
