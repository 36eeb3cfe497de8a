theorem dX2_howOften_48 : decode cX2_howOften 48 = .ok (.ireturn, 1) := by decide +kernel
set_option maxRecDepth 100000 in
set_option maxHeartbeats 4000000 in
theorem C_howOften_ok {l : Launch} {D : va_G} {cy : Nat → ClassId} {X : (Nat → Prop) → State → Heap → Prop} {a f : Nat → Nat → Nat} {r : Nat → Nat → Int32} {kn : Int32} {Y : va_W} {i : Nat} {y : Int32} (hX : EnvX X) (hC : CInv f) (hi4 : i < 4) : Cd l D cy X yX2_howOften cX2_howOften 5 (some .int) (rmz 6 240) [.ref (a 0 0), .int (nI i), .int y] (WC cy a f r kn ++ Y) (some (.int (nI (hoF (fun q => r (f 0 i) (f 3 i + q)) y (f 4 i) 0 0)))) (WC cy a f r kn ++ Y) := by
  have q3 := hC.sp
  have q1_i := hC.rw hi4
  have q2_i := hC.al (i := i) (by omega)
  have q6_i : f 4 (f 1 i) = f 4 i := by rw [q1_i.2.1]
  refine Cm.of [some (.ref (a 0 0)), some (.int (nI i)), some (.int y), none, none] (by decide +kernel) rfl (Nat.le_of_ble_eq_true rfl) ?_
  intro p e s m args below meth c A C hE hr hnt hn
  refine r_iload_n C dX2_howOften_0 rfl ?_
  refine d_Sv (st := []) hX.stb C hE (C_needRow_ok (f := f) (r := r) (kn := kn) (k := i) hX (by first | omega | (simp [up2, *]; done) | (simp [up2, *]; omega) | (simp only [up2_eq]; omega) | (split <;> omega))) pk_X2_needRow qm_X2_126 rfl rfl (Nat.le_of_ble_eq_true rfl) dX2_howOften_1 ⟨Nat.le_of_ble_eq_true rfl, Nat.le_of_ble_eq_true rfl⟩ ⟨Nat.le_of_ble_eq_true rfl, Nat.le_of_ble_eq_true rfl⟩ ?_
  refine r_iconst (v := (nI 0)) C dX2_howOften_4 (by decide) ?_
  refine r_istore_n C dX2_howOften_5 (by decide) rfl ?_
  refine r_iconst (v := (nI 0)) C dX2_howOften_6 (by decide) ?_
  refine r_istore C dX2_howOften_7 (by decide) rfl ?_
  have L9 : ∀ (d : Nat) (t : Nat) (z : Nat), (ht : t + d = f 4 i) → (hz9 : z ≤ t) → (hF : hoF (fun q => r (f 0 i) (f 3 i + q)) y d t z = hoF (fun q => r (f 0 i) (f 3 i + q)) y (f 4 i) 0 0) → vC p l e (rmz 6 240) s m args below meth c D A (vx_MQ below (vG (fun v1 w1 => v1 = (some (.int (nI (hoF (fun q => r (f 0 i) (f 3 i + q)) y (f 4 i) 0 0)))) ∧ w1 = WC cy a f r kn ++ Y) D vwCl A) (vGX (fun _ => False) D vwCl (WC cy a f r kn ++ Y) A) args s (rmz 6 240).cells (rmz 6 240).slots A) 5 0 0 (WC cy a f r kn ++ Y) [some (.ref (a 0 0)), some (.int (nI i)), some (.int y), some (.int (nI z)), some (.int (nI t))] 9 [] := by
    intro d
    induction d with
    | zero =>
      intro t z ht hz9 hF
      refine r_iload C dX2_howOften_9 rfl ?_
      refine r_aload_n C dX2_howOften_11 rfl ?_
      refine s_get C 0 (by decide) qf_X2_11 rfl rfl dX2_howOften_12 ?_
      refine r_iload_n C dX2_howOften_15 rfl ?_
      refine s_parts C (by first | omega | (simp [up2, *]; done) | (simp [up2, *]; omega) | (simp only [up2_eq]; omega) | (split <;> omega)) dX2_howOften_16 ?_
      refine p_getN (v := .int (nI (f 4 i))) hX C hE 4 (by first | omega | (simp [up2, *]; done) | (simp [up2, *]; omega) | (simp only [up2_eq]; omega) | (split <;> omega)) (by decide) qn_X2_50 rfl rfl dX2_howOften_17 ?_
      refine r_icN_ge (a := t) (b := (f 4 i)) (tgt := 47) C (by first | omega | (simp [up2, *]; done) | (simp [up2, *]; omega) | (simp only [up2_eq]; omega) | (split <;> omega)) (by first | omega | (simp [up2, *]; done) | (simp [up2, *]; omega) | (simp only [up2_eq]; omega) | (split <;> omega)) dX2_howOften_20 (by decide) (fun h20_1 => ?_) (fun h20_1 => ?_)
      · first
        | exfalso; first | omega | contradiction
        | skip
          refine r_iload_n C dX2_howOften_47 rfl ?_
          exact r_iret C hr dX2_howOften_48 ⟨by rw [← hF]; rfl, rfl⟩ (Nat.le_of_ble_eq_true rfl) (Nat.le_of_ble_eq_true rfl)
      · first
        | exfalso; first | omega | contradiction
        | skip
          refine r_aload_n C dX2_howOften_23 rfl ?_
          refine s_get C 0 (by decide) qf_X2_11 rfl rfl dX2_howOften_24 ?_
          refine r_iload_n C dX2_howOften_27 rfl ?_
          refine s_parts C (by first | omega | (simp [up2, *]; done) | (simp [up2, *]; omega) | (simp only [up2_eq]; omega) | (split <;> omega)) dX2_howOften_28 ?_
          refine r_iload C dX2_howOften_29 rfl ?_
          refine d_V (st := []) hX.stb C hE (C_itemAt (f := f) (r := r) (kn := kn) (i := i) (k := t) hX (by first | omega | (simp [up2, *]; done) | (simp [up2, *]; omega) | (simp only [up2_eq]; omega) | (split <;> omega)) (by first | omega | (simp [up2, *]; done) | (simp [up2, *]; omega) | (simp only [up2_eq]; omega) | (split <;> omega)) (by first | omega | (simp [up2, *]; done) | (simp [up2, *]; omega) | (simp only [up2_eq]; omega) | (split <;> omega))) pk_X1_itemAt qm_X2_65 (3 + i) 5 rfl rfl (wc_p (by first | omega | (simp [up2, *]; done) | (simp [up2, *]; omega) | (simp only [up2_eq]; omega) | (split <;> omega))) rfl rfl (Nat.le_of_ble_eq_true rfl) dX2_howOften_31 ⟨Nat.le_of_ble_eq_true rfl, Nat.le_of_ble_eq_true rfl⟩ ⟨Nat.le_of_ble_eq_true rfl, Nat.le_of_ble_eq_true rfl⟩ ?_
          refine r_iload_n C dX2_howOften_34 rfl ?_
          refine r_ic_ne (tgt := 41) C dX2_howOften_35 (by decide) (fun h35_2 => ?_) (fun h35_2 => ?_)
          · first
            | exfalso; first | omega | contradiction
            | skip
              refine r_iincN C dX2_howOften_41 rfl (by decide) rfl ?_
              refine r_goto (tgt := 9) C dX2_howOften_44 (by decide) ?_
              exact (Nat.not_lt_zero _ (by omega)).elim
          · first
            | exfalso; first | omega | contradiction
            | skip
              refine r_iincN C dX2_howOften_38 rfl (by decide) rfl ?_
              refine r_iincN C dX2_howOften_41 rfl (by decide) rfl ?_
              refine r_goto (tgt := 9) C dX2_howOften_44 (by decide) ?_
              exact (Nat.not_lt_zero _ (by omega)).elim
    | succ d ih_L9 =>
      intro t z ht hz9 hF
      refine r_iload C dX2_howOften_9 rfl ?_
      refine r_aload_n C dX2_howOften_11 rfl ?_
      refine s_get C 0 (by decide) qf_X2_11 rfl rfl dX2_howOften_12 ?_
      refine r_iload_n C dX2_howOften_15 rfl ?_
      refine s_parts C (by first | omega | (simp [up2, *]; done) | (simp [up2, *]; omega) | (simp only [up2_eq]; omega) | (split <;> omega)) dX2_howOften_16 ?_
      refine p_getN (v := .int (nI (f 4 i))) hX C hE 4 (by first | omega | (simp [up2, *]; done) | (simp [up2, *]; omega) | (simp only [up2_eq]; omega) | (split <;> omega)) (by decide) qn_X2_50 rfl rfl dX2_howOften_17 ?_
      refine r_icN_ge (a := t) (b := (f 4 i)) (tgt := 47) C (by first | omega | (simp [up2, *]; done) | (simp [up2, *]; omega) | (simp only [up2_eq]; omega) | (split <;> omega)) (by first | omega | (simp [up2, *]; done) | (simp [up2, *]; omega) | (simp only [up2_eq]; omega) | (split <;> omega)) dX2_howOften_20 (by decide) (fun h20_3 => ?_) (fun h20_3 => ?_)
      · first
        | exfalso; first | omega | contradiction
        | skip
          refine r_iload_n C dX2_howOften_47 rfl ?_
          exact r_iret C hr dX2_howOften_48 ⟨by rw [← hF]; rfl, rfl⟩ (Nat.le_of_ble_eq_true rfl) (Nat.le_of_ble_eq_true rfl)
      · first
        | exfalso; first | omega | contradiction
        | skip
          refine r_aload_n C dX2_howOften_23 rfl ?_
          refine s_get C 0 (by decide) qf_X2_11 rfl rfl dX2_howOften_24 ?_
          refine r_iload_n C dX2_howOften_27 rfl ?_
          refine s_parts C (by first | omega | (simp [up2, *]; done) | (simp [up2, *]; omega) | (simp only [up2_eq]; omega) | (split <;> omega)) dX2_howOften_28 ?_
          refine r_iload C dX2_howOften_29 rfl ?_
          refine d_V (st := []) hX.stb C hE (C_itemAt (f := f) (r := r) (kn := kn) (i := i) (k := t) hX (by first | omega | (simp [up2, *]; done) | (simp [up2, *]; omega) | (simp only [up2_eq]; omega) | (split <;> omega)) (by first | omega | (simp [up2, *]; done) | (simp [up2, *]; omega) | (simp only [up2_eq]; omega) | (split <;> omega)) (by first | omega | (simp [up2, *]; done) | (simp [up2, *]; omega) | (simp only [up2_eq]; omega) | (split <;> omega))) pk_X1_itemAt qm_X2_65 (3 + i) 5 rfl rfl (wc_p (by first | omega | (simp [up2, *]; done) | (simp [up2, *]; omega) | (simp only [up2_eq]; omega) | (split <;> omega))) rfl rfl (Nat.le_of_ble_eq_true rfl) dX2_howOften_31 ⟨Nat.le_of_ble_eq_true rfl, Nat.le_of_ble_eq_true rfl⟩ ⟨Nat.le_of_ble_eq_true rfl, Nat.le_of_ble_eq_true rfl⟩ ?_
          refine r_iload_n C dX2_howOften_34 rfl ?_
          refine r_ic_ne (tgt := 41) C dX2_howOften_35 (by decide) (fun h35_4 => ?_) (fun h35_4 => ?_)
          · first
            | exfalso; first | omega | contradiction
            | skip
              refine r_iincN C dX2_howOften_41 rfl (by decide) rfl ?_
              refine r_goto (tgt := 9) C dX2_howOften_44 (by decide) ?_
              exact ih_L9 (t + 1) z (by omega) (by omega) (by rw [← hF]; simp only [hoF]; first | rw [if_pos (by assumption)] | rw [if_neg (by assumption)])
          · first
            | exfalso; first | omega | contradiction
            | skip
              refine r_iincN C dX2_howOften_38 rfl (by decide) rfl ?_
              refine r_iincN C dX2_howOften_41 rfl (by decide) rfl ?_
              refine r_goto (tgt := 9) C dX2_howOften_44 (by decide) ?_
              exact ih_L9 (t + 1) (z + 1) (by omega) (by omega) (by rw [← hF]; simp only [hoF]; first | rw [if_pos (by assumption)] | rw [if_neg (by assumption)])
  exact L9 (f 4 i) 0 0 (by omega) (by omega) rfl
theorem dX2_least_0 : decode cX2_least 0 = .ok (.iload_n 1, 1) := by decide +kernel
theorem dX2_least_1 : decode cX2_least 1 = .ok (.invokestatic 126, 3) := by decide +kernel
set_option maxRecDepth 100000 in
set_option maxHeartbeats 4000000 in
theorem C_least_noR {l : Launch} {D : va_G} {cy : Nat → ClassId} {X : (Nat → Prop) → State → Heap → Prop} {a f : Nat → Nat → Nat} {r : Nat → Nat → Int32} {kn : Int32} {Y : va_W} {x : Int32} {y0 : Int32} (hX : EnvX X) (hl : l.stackTraces = false) (hC : CInv f) (hno : ¬ (0 ≤ x ∧ x < nI 4)) : Ce l D cy X yX2_least cX2_least 6 (some .int) (rmk 8 1 6 170) [.ref (a 0 0), .int x, .int y0] (WC cy a f r kn ++ Y) "java/lang/IndexOutOfBoundsException" := by
  have q3 := hC.sp
  refine Cm.of [some (.ref (a 0 0)), some (.int x), some (.int y0), none, none, none] (by decide +kernel) rfl (Nat.le_of_ble_eq_true rfl) ?_
  intro p e s m args below meth c A C hE hr hnt hn
  refine r_iload_n C dX2_least_0 rfl ?_
  refine c_S (st := []) hX.stb C hE (C_needRow_no (f := f) (r := r) (kn := kn) (x := (x)) hX hl hno) pk_X2_needRow qm_X2_126 rfl rfl (Nat.le_of_ble_eq_true rfl) dX2_least_1 ⟨Nat.le_of_ble_eq_true rfl, Nat.le_of_ble_eq_true rfl⟩ ⟨Nat.le_of_ble_eq_true rfl, Nat.le_of_ble_eq_true rfl⟩ (fun _ _ h9 => h9.elim) (fun E9 h9 => ?_)
  subst h9
  exact r_out C hnt rfl rfl (Nat.le_of_ble_eq_true rfl) (Nat.le_of_ble_eq_true rfl)
