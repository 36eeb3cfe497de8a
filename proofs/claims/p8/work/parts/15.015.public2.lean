theorem dX2_lastIndexOf_24 : decode cX2_lastIndexOf 24 = .ok (.getfield 11, 3) := by decide +kernel
theorem dX2_lastIndexOf_27 : decode cX2_lastIndexOf 27 = .ok (.iload_n 1, 1) := by decide +kernel
theorem dX2_lastIndexOf_28 : decode cX2_lastIndexOf 28 = .ok (.aaload, 1) := by decide +kernel
theorem dX2_lastIndexOf_29 : decode cX2_lastIndexOf 29 = .ok (.iload 4, 2) := by decide +kernel
theorem dX2_lastIndexOf_31 : decode cX2_lastIndexOf 31 = .ok (.invokevirtual 65, 3) := by decide +kernel
theorem dX2_lastIndexOf_34 : decode cX2_lastIndexOf 34 = .ok (.iload_n 2, 1) := by decide +kernel
theorem dX2_lastIndexOf_35 : decode cX2_lastIndexOf 35 = .ok (.if_icmp .ne 6, 3) := by decide +kernel
theorem dX2_lastIndexOf_38 : decode cX2_lastIndexOf 38 = .ok (.iload 4, 2) := by decide +kernel
theorem dX2_lastIndexOf_40 : decode cX2_lastIndexOf 40 = .ok (.istore_n 3, 1) := by decide +kernel
theorem dX2_lastIndexOf_41 : decode cX2_lastIndexOf 41 = .ok (.iinc 4 1, 3) := by decide +kernel
theorem dX2_lastIndexOf_44 : decode cX2_lastIndexOf 44 = .ok (.goto (-35), 3) := by decide +kernel
theorem dX2_lastIndexOf_47 : decode cX2_lastIndexOf 47 = .ok (.iload_n 3, 1) := by decide +kernel
theorem dX2_lastIndexOf_48 : decode cX2_lastIndexOf 48 = .ok (.ireturn, 1) := by decide +kernel
set_option maxRecDepth 100000 in
set_option maxHeartbeats 4000000 in
theorem C_lastIndexOf_ok {l : Launch} {D : va_G} {cy : Nat → ClassId} {X : (Nat → Prop) → State → Heap → Prop} {a f : Nat → Nat → Nat} {r : Nat → Nat → Int32} {kn : Int32} {Y : va_W} {i : Nat} {y : Int32} (hX : EnvX X) (hC : CInv f) (hi4 : i < 4) : Cd l D cy X yX2_lastIndexOf cX2_lastIndexOf 5 (some .int) (rmz 6 240) [.ref (a 0 0), .int (nI i), .int y] (WC cy a f r kn ++ Y) (some (.int (nI (liF (fun q => r (f 0 i) (f 3 i + q)) y (f 4 i) 0 4294967295)))) (WC cy a f r kn ++ Y) := by
  have q3 := hC.sp
  have q1_i := hC.rw hi4
  have q2_i := hC.al (i := i) (by omega)
  have q6_i : f 4 (f 1 i) = f 4 i := by rw [q1_i.2.1]
  refine Cm.of [some (.ref (a 0 0)), some (.int (nI i)), some (.int y), none, none] (by decide +kernel) rfl (Nat.le_of_ble_eq_true rfl) ?_
  intro p e s m args below meth c A C hE hr hnt hn
  refine r_iload_n C dX2_lastIndexOf_0 rfl ?_
  refine d_Sv (st := []) hX.stb C hE (C_needRow_ok (f := f) (r := r) (kn := kn) (k := i) hX (by first | omega | (simp [up2, *]; done) | (simp [up2, *]; omega) | (simp only [up2_eq]; omega) | (split <;> omega))) pk_X2_needRow qm_X2_126 rfl rfl (Nat.le_of_ble_eq_true rfl) dX2_lastIndexOf_1 ⟨Nat.le_of_ble_eq_true rfl, Nat.le_of_ble_eq_true rfl⟩ ⟨Nat.le_of_ble_eq_true rfl, Nat.le_of_ble_eq_true rfl⟩ ?_
  refine r_iconst (v := (nI 4294967295)) C dX2_lastIndexOf_4 (by decide) ?_
  refine r_istore_n C dX2_lastIndexOf_5 (by decide) rfl ?_
  refine r_iconst (v := (nI 0)) C dX2_lastIndexOf_6 (by decide) ?_
  refine r_istore C dX2_lastIndexOf_7 (by decide) rfl ?_
  have L9 : ∀ (d : Nat) (t : Nat) (z : Nat), (ht : t + d = f 4 i) → (hz9 : z ≤ t ∨ z = 4294967295) → (hF : liF (fun q => r (f 0 i) (f 3 i + q)) y d t z = liF (fun q => r (f 0 i) (f 3 i + q)) y (f 4 i) 0 4294967295) → vC p l e (rmz 6 240) s m args below meth c D A (vx_MQ below (vG (fun v1 w1 => v1 = (some (.int (nI (liF (fun q => r (f 0 i) (f 3 i + q)) y (f 4 i) 0 4294967295)))) ∧ w1 = WC cy a f r kn ++ Y) D vwCl A) (vGX (fun _ => False) D vwCl (WC cy a f r kn ++ Y) A) args s (rmz 6 240).cells (rmz 6 240).slots A) 5 0 0 (WC cy a f r kn ++ Y) [some (.ref (a 0 0)), some (.int (nI i)), some (.int y), some (.int (nI z)), some (.int (nI t))] 9 [] := by
    intro d
    induction d with
    | zero =>
      intro t z ht hz9 hF
      refine r_iload C dX2_lastIndexOf_9 rfl ?_
      refine r_aload_n C dX2_lastIndexOf_11 rfl ?_
      refine s_get C 0 (by decide) qf_X2_11 rfl rfl dX2_lastIndexOf_12 ?_
      refine r_iload_n C dX2_lastIndexOf_15 rfl ?_
      refine s_parts C (by first | omega | (simp [up2, *]; done) | (simp [up2, *]; omega) | (simp only [up2_eq]; omega) | (split <;> omega)) dX2_lastIndexOf_16 ?_
      refine p_getN (v := .int (nI (f 4 i))) hX C hE 4 (by first | omega | (simp [up2, *]; done) | (simp [up2, *]; omega) | (simp only [up2_eq]; omega) | (split <;> omega)) (by decide) qn_X2_50 rfl rfl dX2_lastIndexOf_17 ?_
      refine r_icN_ge (a := t) (b := (f 4 i)) (tgt := 47) C (by first | omega | (simp [up2, *]; done) | (simp [up2, *]; omega) | (simp only [up2_eq]; omega) | (split <;> omega)) (by first | omega | (simp [up2, *]; done) | (simp [up2, *]; omega) | (simp only [up2_eq]; omega) | (split <;> omega)) dX2_lastIndexOf_20 (by decide) (fun h20_1 => ?_) (fun h20_1 => ?_)
      · first
        | exfalso; first | omega | contradiction
        | skip
          refine r_iload_n C dX2_lastIndexOf_47 rfl ?_
          exact r_iret C hr dX2_lastIndexOf_48 ⟨by rw [← hF]; rfl, rfl⟩ (Nat.le_of_ble_eq_true rfl) (Nat.le_of_ble_eq_true rfl)
      · first
        | exfalso; first | omega | contradiction
        | skip
          refine r_aload_n C dX2_lastIndexOf_23 rfl ?_
          refine s_get C 0 (by decide) qf_X2_11 rfl rfl dX2_lastIndexOf_24 ?_
          refine r_iload_n C dX2_lastIndexOf_27 rfl ?_
          refine s_parts C (by first | omega | (simp [up2, *]; done) | (simp [up2, *]; omega) | (simp only [up2_eq]; omega) | (split <;> omega)) dX2_lastIndexOf_28 ?_
          refine r_iload C dX2_lastIndexOf_29 rfl ?_
          refine d_V (st := []) hX.stb C hE (C_itemAt (f := f) (r := r) (kn := kn) (i := i) (k := t) hX (by first | omega | (simp [up2, *]; done) | (simp [up2, *]; omega) | (simp only [up2_eq]; omega) | (split <;> omega)) (by first | omega | (simp [up2, *]; done) | (simp [up2, *]; omega) | (simp only [up2_eq]; omega) | (split <;> omega)) (by first | omega | (simp [up2, *]; done) | (simp [up2, *]; omega) | (simp only [up2_eq]; omega) | (split <;> omega))) pk_X1_itemAt qm_X2_65 (3 + i) 5 rfl rfl (wc_p (by first | omega | (simp [up2, *]; done) | (simp [up2, *]; omega) | (simp only [up2_eq]; omega) | (split <;> omega))) rfl rfl (Nat.le_of_ble_eq_true rfl) dX2_lastIndexOf_31 ⟨Nat.le_of_ble_eq_true rfl, Nat.le_of_ble_eq_true rfl⟩ ⟨Nat.le_of_ble_eq_true rfl, Nat.le_of_ble_eq_true rfl⟩ ?_
          refine r_iload_n C dX2_lastIndexOf_34 rfl ?_
          refine r_ic_ne (tgt := 41) C dX2_lastIndexOf_35 (by decide) (fun h35_2 => ?_) (fun h35_2 => ?_)
          · first
            | exfalso; first | omega | contradiction
            | skip
              refine r_iincN C dX2_lastIndexOf_41 rfl (by decide) rfl ?_
              refine r_goto (tgt := 9) C dX2_lastIndexOf_44 (by decide) ?_
              exact (Nat.not_lt_zero _ (by omega)).elim
          · first
            | exfalso; first | omega | contradiction
            | skip
              refine r_iload C dX2_lastIndexOf_38 rfl ?_
              refine r_istore_n C dX2_lastIndexOf_40 (by decide) rfl ?_
              refine r_iincN C dX2_lastIndexOf_41 rfl (by decide) rfl ?_
              refine r_goto (tgt := 9) C dX2_lastIndexOf_44 (by decide) ?_
              exact (Nat.not_lt_zero _ (by omega)).elim
    | succ d ih_L9 =>
      intro t z ht hz9 hF
      refine r_iload C dX2_lastIndexOf_9 rfl ?_
      refine r_aload_n C dX2_lastIndexOf_11 rfl ?_
      refine s_get C 0 (by decide) qf_X2_11 rfl rfl dX2_lastIndexOf_12 ?_
      refine r_iload_n C dX2_lastIndexOf_15 rfl ?_
      refine s_parts C (by first | omega | (simp [up2, *]; done) | (simp [up2, *]; omega) | (simp only [up2_eq]; omega) | (split <;> omega)) dX2_lastIndexOf_16 ?_
      refine p_getN (v := .int (nI (f 4 i))) hX C hE 4 (by first | omega | (simp [up2, *]; done) | (simp [up2, *]; omega) | (simp only [up2_eq]; omega) | (split <;> omega)) (by decide) qn_X2_50 rfl rfl dX2_lastIndexOf_17 ?_
      refine r_icN_ge (a := t) (b := (f 4 i)) (tgt := 47) C (by first | omega | (simp [up2, *]; done) | (simp [up2, *]; omega) | (simp only [up2_eq]; omega) | (split <;> omega)) (by first | omega | (simp [up2, *]; done) | (simp [up2, *]; omega) | (simp only [up2_eq]; omega) | (split <;> omega)) dX2_lastIndexOf_20 (by decide) (fun h20_3 => ?_) (fun h20_3 => ?_)
      · first
        | exfalso; first | omega | contradiction
        | skip
          refine r_iload_n C dX2_lastIndexOf_47 rfl ?_
          exact r_iret C hr dX2_lastIndexOf_48 ⟨by rw [← hF]; rfl, rfl⟩ (Nat.le_of_ble_eq_true rfl) (Nat.le_of_ble_eq_true rfl)
      · first
        | exfalso; first | omega | contradiction
        | skip
          refine r_aload_n C dX2_lastIndexOf_23 rfl ?_
          refine s_get C 0 (by decide) qf_X2_11 rfl rfl dX2_lastIndexOf_24 ?_
          refine r_iload_n C dX2_lastIndexOf_27 rfl ?_
          refine s_parts C (by first | omega | (simp [up2, *]; done) | (simp [up2, *]; omega) | (simp only [up2_eq]; omega) | (split <;> omega)) dX2_lastIndexOf_28 ?_
          refine r_iload C dX2_lastIndexOf_29 rfl ?_
          refine d_V (st := []) hX.stb C hE (C_itemAt (f := f) (r := r) (kn := kn) (i := i) (k := t) hX (by first | omega | (simp [up2, *]; done) | (simp [up2, *]; omega) | (simp only [up2_eq]; omega) | (split <;> omega)) (by first | omega | (simp [up2, *]; done) | (simp [up2, *]; omega) | (simp only [up2_eq]; omega) | (split <;> omega)) (by first | omega | (simp [up2, *]; done) | (simp [up2, *]; omega) | (simp only [up2_eq]; omega) | (split <;> omega))) pk_X1_itemAt qm_X2_65 (3 + i) 5 rfl rfl (wc_p (by first | omega | (simp [up2, *]; done) | (simp [up2, *]; omega) | (simp only [up2_eq]; omega) | (split <;> omega))) rfl rfl (Nat.le_of_ble_eq_true rfl) dX2_lastIndexOf_31 ⟨Nat.le_of_ble_eq_true rfl, Nat.le_of_ble_eq_true rfl⟩ ⟨Nat.le_of_ble_eq_true rfl, Nat.le_of_ble_eq_true rfl⟩ ?_
          refine r_iload_n C dX2_lastIndexOf_34 rfl ?_
          refine r_ic_ne (tgt := 41) C dX2_lastIndexOf_35 (by decide) (fun h35_4 => ?_) (fun h35_4 => ?_)
          · first
            | exfalso; first | omega | contradiction
            | skip
              refine r_iincN C dX2_lastIndexOf_41 rfl (by decide) rfl ?_
              refine r_goto (tgt := 9) C dX2_lastIndexOf_44 (by decide) ?_
              exact ih_L9 (t + 1) z (by omega) (by omega) (by rw [← hF]; simp only [liF]; first | rw [if_pos (by assumption)] | rw [if_neg (by assumption)])
          · first
            | exfalso; first | omega | contradiction
            | skip
              refine r_iload C dX2_lastIndexOf_38 rfl ?_
              refine r_istore_n C dX2_lastIndexOf_40 (by decide) rfl ?_
              refine r_iincN C dX2_lastIndexOf_41 rfl (by decide) rfl ?_
              refine r_goto (tgt := 9) C dX2_lastIndexOf_44 (by decide) ?_
              exact ih_L9 (t + 1) t (by omega) (by omega) (by rw [← hF]; simp only [liF]; first | rw [if_pos (by assumption)] | rw [if_neg (by assumption)])
  exact L9 (f 4 i) 0 4294967295 (by omega) (by omega) rfl
