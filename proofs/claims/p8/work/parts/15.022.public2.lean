theorem dX2_areApart_34 : decode cX2_areApart 34 = .ok (.aaload, 1) := by decide +kernel
theorem dX2_areApart_35 : decode cX2_areApart 35 = .ok (.iload_n 3, 1) := by decide +kernel
theorem dX2_areApart_36 : decode cX2_areApart 36 = .ok (.invokevirtual 65, 3) := by decide +kernel
theorem dX2_areApart_39 : decode cX2_areApart 39 = .ok (.invokevirtual 144, 3) := by decide +kernel
theorem dX2_areApart_42 : decode cX2_areApart 42 = .ok (.ifCond .eq 5, 3) := by decide +kernel
theorem dX2_areApart_45 : decode cX2_areApart 45 = .ok (.iconst 0, 1) := by decide +kernel
theorem dX2_areApart_46 : decode cX2_areApart 46 = .ok (.ireturn, 1) := by decide +kernel
theorem dX2_areApart_47 : decode cX2_areApart 47 = .ok (.iinc 3 1, 3) := by decide +kernel
theorem dX2_areApart_50 : decode cX2_areApart 50 = .ok (.goto (-40), 3) := by decide +kernel
theorem dX2_areApart_53 : decode cX2_areApart 53 = .ok (.iconst 1, 1) := by decide +kernel
theorem dX2_areApart_54 : decode cX2_areApart 54 = .ok (.ireturn, 1) := by decide +kernel
set_option maxRecDepth 100000 in
set_option maxHeartbeats 4000000 in
theorem C_areApart_ok {l : Launch} {D : va_G} {cy : Nat → ClassId} {X : (Nat → Prop) → State → Heap → Prop} {a f : Nat → Nat → Nat} {r : Nat → Nat → Int32} {kn : Int32} {Y : va_W} {i : Nat} {j : Nat} (hX : EnvX X) (hC : CInv f) (hi4 : i < 4) (hj4 : j < 4) : Cd l D cy X yX2_areApart cX2_areApart 4 (some .boolean) (rmz 6 240) [.ref (a 0 0), .int (nI i), .int (nI j)] (WC cy a f r kn ++ Y) (some (.int (nI (apF (hsP r f j) (fun q => r (f 0 i) (f 3 i + q)) (f 4 i) 0)))) (WC cy a f r kn ++ Y) := by
  have q3 := hC.sp
  have q1_i := hC.rw hi4
  have q2_i := hC.al (i := i) (by omega)
  have q6_i : f 4 (f 1 i) = f 4 i := by rw [q1_i.2.1]
  have q1_j := hC.rw hj4
  have q2_j := hC.al (i := j) (by omega)
  have q6_j : f 4 (f 1 j) = f 4 j := by rw [q1_j.2.1]
  refine Cm.of [some (.ref (a 0 0)), some (.int (nI i)), some (.int (nI j)), none] (by decide +kernel) rfl (Nat.le_of_ble_eq_true rfl) ?_
  intro p e s m args below meth c A C hE hr hnt hn
  refine r_iload_n C dX2_areApart_0 rfl ?_
  refine d_Sv (st := []) hX.stb C hE (C_needRow_ok (f := f) (r := r) (kn := kn) (k := i) hX (by first | omega | (simp [up2, *]; done) | (simp [up2, *]; omega) | (simp only [up2_eq]; omega) | (split <;> omega))) pk_X2_needRow qm_X2_126 rfl rfl (Nat.le_of_ble_eq_true rfl) dX2_areApart_1 ⟨Nat.le_of_ble_eq_true rfl, Nat.le_of_ble_eq_true rfl⟩ ⟨Nat.le_of_ble_eq_true rfl, Nat.le_of_ble_eq_true rfl⟩ ?_
  refine r_iload_n C dX2_areApart_4 rfl ?_
  refine d_Sv (st := []) hX.stb C hE (C_needRow_ok (f := f) (r := r) (kn := kn) (k := j) hX (by first | omega | (simp [up2, *]; done) | (simp [up2, *]; omega) | (simp only [up2_eq]; omega) | (split <;> omega))) pk_X2_needRow qm_X2_126 rfl rfl (Nat.le_of_ble_eq_true rfl) dX2_areApart_5 ⟨Nat.le_of_ble_eq_true rfl, Nat.le_of_ble_eq_true rfl⟩ ⟨Nat.le_of_ble_eq_true rfl, Nat.le_of_ble_eq_true rfl⟩ ?_
  refine r_iconst (v := (nI 0)) C dX2_areApart_8 (by decide) ?_
  refine r_istore_n C dX2_areApart_9 (by decide) rfl ?_
  have L10 : ∀ (d : Nat) (t : Nat), (ht : t + d = f 4 i) → (hF : apF (hsP r f j) (fun q => r (f 0 i) (f 3 i + q)) d t = apF (hsP r f j) (fun q => r (f 0 i) (f 3 i + q)) (f 4 i) 0) → vC p l e (rmz 6 240) s m args below meth c D A (vx_MQ below (vG (fun v1 w1 => v1 = (some (.int (nI (apF (hsP r f j) (fun q => r (f 0 i) (f 3 i + q)) (f 4 i) 0)))) ∧ w1 = WC cy a f r kn ++ Y) D vwCl A) (vGX (fun _ => False) D vwCl (WC cy a f r kn ++ Y) A) args s (rmz 6 240).cells (rmz 6 240).slots A) 4 0 0 (WC cy a f r kn ++ Y) [some (.ref (a 0 0)), some (.int (nI i)), some (.int (nI j)), some (.int (nI t))] 10 [] := by
    intro d
    induction d with
    | zero =>
      intro t ht hF
      refine r_iload_n C dX2_areApart_10 rfl ?_
      refine r_aload_n C dX2_areApart_11 rfl ?_
      refine s_get C 0 (by decide) qf_X2_11 rfl rfl dX2_areApart_12 ?_
      refine r_iload_n C dX2_areApart_15 rfl ?_
      refine s_parts C (by first | omega | (simp [up2, *]; done) | (simp [up2, *]; omega) | (simp only [up2_eq]; omega) | (split <;> omega)) dX2_areApart_16 ?_
      refine p_getN (v := .int (nI (f 4 i))) hX C hE 4 (by first | omega | (simp [up2, *]; done) | (simp [up2, *]; omega) | (simp only [up2_eq]; omega) | (split <;> omega)) (by decide) qn_X2_50 rfl rfl dX2_areApart_17 ?_
      refine r_icN_ge (a := t) (b := (f 4 i)) (tgt := 53) C (by first | omega | (simp [up2, *]; done) | (simp [up2, *]; omega) | (simp only [up2_eq]; omega) | (split <;> omega)) (by first | omega | (simp [up2, *]; done) | (simp [up2, *]; omega) | (simp only [up2_eq]; omega) | (split <;> omega)) dX2_areApart_20 (by decide) (fun h20_1 => ?_) (fun h20_1 => ?_)
      · first
        | exfalso; first | omega | contradiction
        | skip
          refine r_iconst (v := (nI 1)) C dX2_areApart_53 (by decide) ?_
          exact r_zret C hr (by first | omega | (simp [up2, *]; done) | (simp [up2, *]; omega) | (simp only [up2_eq]; omega) | (split <;> omega)) dX2_areApart_54 ⟨by rw [← hF]; first | rfl | (simp only [apF]; rw [if_neg (by assumption)]), rfl⟩ (Nat.le_of_ble_eq_true rfl) (Nat.le_of_ble_eq_true rfl)
      · first
        | exfalso; first | omega | contradiction
        | skip
          refine r_aload_n C dX2_areApart_23 rfl ?_
          refine s_get C 0 (by decide) qf_X2_11 rfl rfl dX2_areApart_24 ?_
          refine r_iload_n C dX2_areApart_27 rfl ?_
          refine s_parts C (by first | omega | (simp [up2, *]; done) | (simp [up2, *]; omega) | (simp only [up2_eq]; omega) | (split <;> omega)) dX2_areApart_28 ?_
          refine r_aload_n C dX2_areApart_29 rfl ?_
          refine s_get C 0 (by decide) qf_X2_11 rfl rfl dX2_areApart_30 ?_
          refine r_iload_n C dX2_areApart_33 rfl ?_
          refine s_parts C (by first | omega | (simp [up2, *]; done) | (simp [up2, *]; omega) | (simp only [up2_eq]; omega) | (split <;> omega)) dX2_areApart_34 ?_
          refine r_iload_n C dX2_areApart_35 rfl ?_
          refine d_V (st := [.ref (a 1 j)]) hX.stb C hE (C_itemAt (f := f) (r := r) (kn := kn) (i := i) (k := t) hX (by first | omega | (simp [up2, *]; done) | (simp [up2, *]; omega) | (simp only [up2_eq]; omega) | (split <;> omega)) (by first | omega | (simp [up2, *]; done) | (simp [up2, *]; omega) | (simp only [up2_eq]; omega) | (split <;> omega)) (by first | omega | (simp [up2, *]; done) | (simp [up2, *]; omega) | (simp only [up2_eq]; omega) | (split <;> omega))) pk_X1_itemAt qm_X2_65 (3 + i) 5 rfl rfl (wc_p (by first | omega | (simp [up2, *]; done) | (simp [up2, *]; omega) | (simp only [up2_eq]; omega) | (split <;> omega))) rfl rfl (Nat.le_of_ble_eq_true rfl) dX2_areApart_36 ⟨Nat.le_of_ble_eq_true rfl, Nat.le_of_ble_eq_true rfl⟩ ⟨Nat.le_of_ble_eq_true rfl, Nat.le_of_ble_eq_true rfl⟩ ?_
          refine d_V (st := []) hX.stb C hE (C_has (f := f) (r := r) (kn := kn) (i := j) (x := ((r (f 0 i) (f 3 i + t)))) hX (by first | omega | (simp [up2, *]; done) | (simp [up2, *]; omega) | (simp only [up2_eq]; omega) | (split <;> omega)) (by first | omega | (simp [up2, *]; done) | (simp [up2, *]; omega) | (simp only [up2_eq]; omega) | (split <;> omega)) (by first | omega | (simp [up2, *]; done) | (simp [up2, *]; omega) | (simp only [up2_eq]; omega) | (split <;> omega))) pk_X1_has qm_X2_144 (3 + j) 5 rfl rfl (wc_p (by first | omega | (simp [up2, *]; done) | (simp [up2, *]; omega) | (simp only [up2_eq]; omega) | (split <;> omega))) rfl rfl (Nat.le_of_ble_eq_true rfl) dX2_areApart_39 ⟨Nat.le_of_ble_eq_true rfl, Nat.le_of_ble_eq_true rfl⟩ ⟨Nat.le_of_ble_eq_true rfl, Nat.le_of_ble_eq_true rfl⟩ ?_
          refine r_ifN_eq (a := (hsP r f j (r (f 0 i) (f 3 i + t)))) (tgt := 47) C (by unfold hsP; split <;> omega) dX2_areApart_42 (by decide) (fun h42_2 => ?_) (fun h42_2 => ?_)
          · first
            | exfalso; first | omega | contradiction
            | skip
              refine r_iincN C dX2_areApart_47 rfl (by decide) rfl ?_
              refine r_goto (tgt := 10) C dX2_areApart_50 (by decide) ?_
              exact (Nat.not_lt_zero _ (by omega)).elim
          · first
            | exfalso; first | omega | contradiction
            | skip
              refine r_iconst (v := (nI 0)) C dX2_areApart_45 (by decide) ?_
              exact r_zret C hr (by first | omega | (simp [up2, *]; done) | (simp [up2, *]; omega) | (simp only [up2_eq]; omega) | (split <;> omega)) dX2_areApart_46 ⟨by rw [← hF]; first | rfl | (simp only [apF]; rw [if_neg (by assumption)]), rfl⟩ (Nat.le_of_ble_eq_true rfl) (Nat.le_of_ble_eq_true rfl)
    | succ d ih_L10 =>
      intro t ht hF
      refine r_iload_n C dX2_areApart_10 rfl ?_
      refine r_aload_n C dX2_areApart_11 rfl ?_
      refine s_get C 0 (by decide) qf_X2_11 rfl rfl dX2_areApart_12 ?_
      refine r_iload_n C dX2_areApart_15 rfl ?_
      refine s_parts C (by first | omega | (simp [up2, *]; done) | (simp [up2, *]; omega) | (simp only [up2_eq]; omega) | (split <;> omega)) dX2_areApart_16 ?_
      refine p_getN (v := .int (nI (f 4 i))) hX C hE 4 (by first | omega | (simp [up2, *]; done) | (simp [up2, *]; omega) | (simp only [up2_eq]; omega) | (split <;> omega)) (by decide) qn_X2_50 rfl rfl dX2_areApart_17 ?_
      refine r_icN_ge (a := t) (b := (f 4 i)) (tgt := 53) C (by first | omega | (simp [up2, *]; done) | (simp [up2, *]; omega) | (simp only [up2_eq]; omega) | (split <;> omega)) (by first | omega | (simp [up2, *]; done) | (simp [up2, *]; omega) | (simp only [up2_eq]; omega) | (split <;> omega)) dX2_areApart_20 (by decide) (fun h20_3 => ?_) (fun h20_3 => ?_)
      · first
        | exfalso; first | omega | contradiction
        | skip
          refine r_iconst (v := (nI 1)) C dX2_areApart_53 (by decide) ?_
          exact r_zret C hr (by first | omega | (simp [up2, *]; done) | (simp [up2, *]; omega) | (simp only [up2_eq]; omega) | (split <;> omega)) dX2_areApart_54 ⟨by rw [← hF]; first | rfl | (simp only [apF]; rw [if_neg (by assumption)]), rfl⟩ (Nat.le_of_ble_eq_true rfl) (Nat.le_of_ble_eq_true rfl)
      · first
        | exfalso; first | omega | contradiction
        | skip
          refine r_aload_n C dX2_areApart_23 rfl ?_
          refine s_get C 0 (by decide) qf_X2_11 rfl rfl dX2_areApart_24 ?_
          refine r_iload_n C dX2_areApart_27 rfl ?_
          refine s_parts C (by first | omega | (simp [up2, *]; done) | (simp [up2, *]; omega) | (simp only [up2_eq]; omega) | (split <;> omega)) dX2_areApart_28 ?_
          refine r_aload_n C dX2_areApart_29 rfl ?_
          refine s_get C 0 (by decide) qf_X2_11 rfl rfl dX2_areApart_30 ?_
          refine r_iload_n C dX2_areApart_33 rfl ?_
          refine s_parts C (by first | omega | (simp [up2, *]; done) | (simp [up2, *]; omega) | (simp only [up2_eq]; omega) | (split <;> omega)) dX2_areApart_34 ?_
          refine r_iload_n C dX2_areApart_35 rfl ?_
          refine d_V (st := [.ref (a 1 j)]) hX.stb C hE (C_itemAt (f := f) (r := r) (kn := kn) (i := i) (k := t) hX (by first | omega | (simp [up2, *]; done) | (simp [up2, *]; omega) | (simp only [up2_eq]; omega) | (split <;> omega)) (by first | omega | (simp [up2, *]; done) | (simp [up2, *]; omega) | (simp only [up2_eq]; omega) | (split <;> omega)) (by first | omega | (simp [up2, *]; done) | (simp [up2, *]; omega) | (simp only [up2_eq]; omega) | (split <;> omega))) pk_X1_itemAt qm_X2_65 (3 + i) 5 rfl rfl (wc_p (by first | omega | (simp [up2, *]; done) | (simp [up2, *]; omega) | (simp only [up2_eq]; omega) | (split <;> omega))) rfl rfl (Nat.le_of_ble_eq_true rfl) dX2_areApart_36 ⟨Nat.le_of_ble_eq_true rfl, Nat.le_of_ble_eq_true rfl⟩ ⟨Nat.le_of_ble_eq_true rfl, Nat.le_of_ble_eq_true rfl⟩ ?_
          refine d_V (st := []) hX.stb C hE (C_has (f := f) (r := r) (kn := kn) (i := j) (x := ((r (f 0 i) (f 3 i + t)))) hX (by first | omega | (simp [up2, *]; done) | (simp [up2, *]; omega) | (simp only [up2_eq]; omega) | (split <;> omega)) (by first | omega | (simp [up2, *]; done) | (simp [up2, *]; omega) | (simp only [up2_eq]; omega) | (split <;> omega)) (by first | omega | (simp [up2, *]; done) | (simp [up2, *]; omega) | (simp only [up2_eq]; omega) | (split <;> omega))) pk_X1_has qm_X2_144 (3 + j) 5 rfl rfl (wc_p (by first | omega | (simp [up2, *]; done) | (simp [up2, *]; omega) | (simp only [up2_eq]; omega) | (split <;> omega))) rfl rfl (Nat.le_of_ble_eq_true rfl) dX2_areApart_39 ⟨Nat.le_of_ble_eq_true rfl, Nat.le_of_ble_eq_true rfl⟩ ⟨Nat.le_of_ble_eq_true rfl, Nat.le_of_ble_eq_true rfl⟩ ?_
          refine r_ifN_eq (a := (hsP r f j (r (f 0 i) (f 3 i + t)))) (tgt := 47) C (by unfold hsP; split <;> omega) dX2_areApart_42 (by decide) (fun h42_4 => ?_) (fun h42_4 => ?_)
          · first
            | exfalso; first | omega | contradiction
            | skip
              refine r_iincN C dX2_areApart_47 rfl (by decide) rfl ?_
              refine r_goto (tgt := 10) C dX2_areApart_50 (by decide) ?_
              exact ih_L10 (t + 1) (by omega) (by rw [← hF]; simp only [apF]; rw [if_pos (by assumption)])
          · first
            | exfalso; first | omega | contradiction
            | skip
              refine r_iconst (v := (nI 0)) C dX2_areApart_45 (by decide) ?_
              exact r_zret C hr (by first | omega | (simp [up2, *]; done) | (simp [up2, *]; omega) | (simp only [up2_eq]; omega) | (split <;> omega)) dX2_areApart_46 ⟨by rw [← hF]; first | rfl | (simp only [apF]; rw [if_neg (by assumption)]), rfl⟩ (Nat.le_of_ble_eq_true rfl) (Nat.le_of_ble_eq_true rfl)
  exact L10 (f 4 i) 0 (by omega) rfl
