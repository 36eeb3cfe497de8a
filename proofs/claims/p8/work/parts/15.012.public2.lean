theorem dX2_places_34 : decode cX2_places 34 = .ok (.iload_n 3, 1) := by decide +kernel
theorem dX2_places_35 : decode cX2_places 35 = .ok (.iload_n 2, 1) := by decide +kernel
theorem dX2_places_36 : decode cX2_places 36 = .ok (.if_icmp .ge 17, 3) := by decide +kernel
theorem dX2_places_39 : decode cX2_places 39 = .ok (.aload_n 0, 1) := by decide +kernel
theorem dX2_places_40 : decode cX2_places 40 = .ok (.getfield 29, 3) := by decide +kernel
theorem dX2_places_43 : decode cX2_places 43 = .ok (.iload_n 3, 1) := by decide +kernel
theorem dX2_places_44 : decode cX2_places 44 = .ok (.invokevirtual 141, 3) := by decide +kernel
theorem dX2_places_47 : decode cX2_places 47 = .ok (.iinc 3 1, 3) := by decide +kernel
theorem dX2_places_50 : decode cX2_places 50 = .ok (.goto (-16), 3) := by decide +kernel
theorem dX2_places_53 : decode cX2_places 53 = .ok (.aload_n 0, 1) := by decide +kernel
theorem dX2_places_54 : decode cX2_places 54 = .ok (.iload_n 1, 1) := by decide +kernel
theorem dX2_places_55 : decode cX2_places 55 = .ok (.invokevirtual 136, 3) := by decide +kernel
theorem dX2_places_58 : decode cX2_places 58 = .ok (.ireturn, 1) := by decide +kernel
set_option maxRecDepth 100000 in
set_option maxHeartbeats 4000000 in
theorem C_places_ok {l : Launch} {D : va_G} {cy : Nat → ClassId} {X : (Nat → Prop) → State → Heap → Prop} {a f : Nat → Nat → Nat} {r : Nat → Nat → Int32} {kn : Int32} {Y : va_W} {i : Nat} {k0 : Nat} (hX : EnvX X) (hC : CInv f) (hi4 : i < 4) (hk : k0 ≤ 12) : Cd l D cy X yX2_places cX2_places 4 (some .int) (rmz 6 240) [.ref (a 0 0), .int (nI i), .int (nI k0)] (WC cy a f r kn ++ Y) (some (.int (nI k0))) (WC cy a (settleF (up2 (up2 f 4 8 k0) 4 i k0) i 4294967295) (cpy2 (plR r (f 0 8) k0) (f 0 8) (f 3 8) (f 0 i) (f 3 i) k0) kn ++ Y) := by
  have q3 := hC.sp
  have q1_i := hC.rw hi4
  have q2_i := hC.al (i := i) (by omega)
  have q6_i : f 4 (f 1 i) = f 4 i := by rw [q1_i.2.1]
  refine Cm.of [some (.ref (a 0 0)), some (.int (nI i)), some (.int (nI k0)), none] (by decide +kernel) rfl (Nat.le_of_ble_eq_true rfl) ?_
  intro p e s m args below meth c A C hE hr hnt hn
  refine r_iload_n C dX2_places_0 rfl ?_
  refine d_Sv (st := []) hX.stb C hE (C_needRow_ok (f := f) (r := r) (kn := kn) (k := i) hX (by first | omega | (simp [up2, *]; done) | (simp [up2, *]; omega) | (simp only [up2_eq]; omega) | (split <;> omega))) pk_X2_needRow qm_X2_126 rfl rfl (Nat.le_of_ble_eq_true rfl) dX2_places_1 ⟨Nat.le_of_ble_eq_true rfl, Nat.le_of_ble_eq_true rfl⟩ ⟨Nat.le_of_ble_eq_true rfl, Nat.le_of_ble_eq_true rfl⟩ ?_
  refine r_iload_n C dX2_places_4 rfl ?_
  refine r_ifN_lt (a := k0) (tgt := 14) C (by first | omega | (simp [up2, *]; done) | (simp [up2, *]; omega) | (simp only [up2_eq]; omega) | (split <;> omega)) dX2_places_5 (by decide) (fun h5_1 => ?_) (fun h5_1 => ?_)
  · exact h5_1.elim
  · skip
    refine r_iload_n C dX2_places_8 rfl ?_
    refine r_bipush (v := (nI 12)) C dX2_places_9 (by decide) ?_
    refine r_icN_le (a := k0) (b := 12) (tgt := 24) C (by first | omega | (simp [up2, *]; done) | (simp [up2, *]; omega) | (simp only [up2_eq]; omega) | (split <;> omega)) (by first | omega | (simp [up2, *]; done) | (simp [up2, *]; omega) | (simp only [up2_eq]; omega) | (split <;> omega)) dX2_places_11 (by decide) (fun h11_2 => ?_) (fun h11_2 => ?_)
    · skip
      refine r_aload_n C dX2_places_24 rfl ?_
      refine s_get C 2 (by decide) qf_X2_29 rfl rfl dX2_places_25 ?_
      refine r_iconst (v := (nI 0)) C dX2_places_28 (by decide) ?_
      refine p_putN hX C hE 4 (by first | omega | (simp [up2, *]; done) | (simp [up2, *]; omega) | (simp only [up2_eq]; omega) | (split <;> omega)) (by decide) (by decide) qn_X2_50 rfl rfl rfl dX2_places_29 ?_
      refine r_iconst (v := (nI 0)) C dX2_places_32 (by decide) ?_
      refine r_istore_n C dX2_places_33 (by decide) rfl ?_
      refine r_w (congrArg (fun z => WC cy a (up2 f 4 8 0) z kn ++ Y) (plR_0 r (f 0 8)).symm) ?_
      have L34 : ∀ (d : Nat) (t : Nat), (ht : t + d = k0) → vC p l e (rmz 6 240) s m args below meth c D A (vx_MQ below (vG (fun v1 w1 => v1 = (some (.int (nI k0))) ∧ w1 = WC cy a (settleF (up2 (up2 f 4 8 k0) 4 i k0) i 4294967295) (cpy2 (plR r (f 0 8) k0) (f 0 8) (f 3 8) (f 0 i) (f 3 i) k0) kn ++ Y) D vwCl A) (vGX (fun _ => False) D vwCl (WC cy a f r kn ++ Y) A) args s (rmz 6 240).cells (rmz 6 240).slots A) 4 0 0 (WC cy a (up2 f 4 8 t) (plR r (f 0 8) t) kn ++ Y) [some (.ref (a 0 0)), some (.int (nI i)), some (.int (nI k0)), some (.int (nI t))] 34 [] := by
        intro d
        induction d with
        | zero =>
          intro t ht
          refine r_iload_n C dX2_places_34 rfl ?_
          refine r_iload_n C dX2_places_35 rfl ?_
          refine r_icN_ge (a := t) (b := k0) (tgt := 53) C (by first | omega | (simp [up2, *]; done) | (simp [up2, *]; omega) | (simp only [up2_eq]; omega) | (split <;> omega)) (by first | omega | (simp [up2, *]; done) | (simp [up2, *]; omega) | (simp only [up2_eq]; omega) | (split <;> omega)) dX2_places_36 (by decide) (fun h36_3 => ?_) (fun h36_3 => ?_)
          · first
            | exfalso; first | omega | contradiction
            | skip
              have e8 : t = k0 := by omega
              subst e8
              refine r_aload_n C dX2_places_53 rfl ?_
              refine r_iload_n C dX2_places_54 rfl ?_
              refine d_V (st := []) hX.stb C hE (C_becomeSpare (f := (up2 f 4 8 t)) (r := (plR r (f 0 8) t)) (kn := kn) (i := i) hX (by first | omega | (simp [up2, *]; done) | (simp [up2, *]; omega) | (simp only [up2_eq]; omega) | (split <;> omega)) (by first | omega | (simp [up2, *]; done) | (simp [up2, *]; omega) | (simp only [up2_eq]; omega) | (split <;> omega)) (by first | omega | (simp [up2, *]; done) | (simp [up2, *]; omega) | (simp only [up2_eq]; omega) | (split <;> omega)) hC.h1 hC.hG hC.hU hC.hI8 (by first | omega | (simp [up2, *]; done) | (simp [up2, *]; omega) | (simp only [up2_eq]; omega) | (split <;> omega)) (by rw [up2_eq]; omega)) pk_X2_becomeSpare qm_X2_136 0 6 rfl rfl wc_0 rfl rfl (Nat.le_of_ble_eq_true rfl) dX2_places_55 ⟨Nat.le_of_ble_eq_true rfl, Nat.le_of_ble_eq_true rfl⟩ ⟨Nat.le_of_ble_eq_true rfl, Nat.le_of_ble_eq_true rfl⟩ ?_
              exact r_iret C hr dX2_places_58 ⟨rfl, rfl⟩ (Nat.le_of_ble_eq_true rfl) (Nat.le_of_ble_eq_true rfl)
          · first
            | exfalso; first | omega | contradiction
            | skip
              refine r_aload_n C dX2_places_39 rfl ?_
              refine s_get C 2 (by decide) qf_X2_29 rfl rfl dX2_places_40 ?_
              refine r_iload_n C dX2_places_43 rfl ?_
              refine d_Vv (st := []) hX.stb C hE (C_append (f := (up2 f 4 8 t)) (r := (plR r (f 0 8) t)) (kn := kn) (i := 8) (x := ((nI t))) hX (by first | omega | (simp [up2, *]; done) | (simp [up2, *]; omega) | (simp only [up2_eq]; omega) | (split <;> omega)) (by first | omega | (simp [up2, *]; done) | (simp [up2, *]; omega) | (simp only [up2_eq]; omega) | (split <;> omega)) (by first | omega | (simp [up2, *]; done) | (simp [up2, *]; omega) | (simp only [up2_eq]; omega) | (split <;> omega))) pk_X1_append qm_X2_141 (3 + 8) 5 rfl rfl (wc_p (by first | omega | (simp [up2, *]; done) | (simp [up2, *]; omega) | (simp only [up2_eq]; omega) | (split <;> omega))) rfl rfl (Nat.le_of_ble_eq_true rfl) dX2_places_44 ⟨Nat.le_of_ble_eq_true rfl, Nat.le_of_ble_eq_true rfl⟩ ⟨Nat.le_of_ble_eq_true rfl, Nat.le_of_ble_eq_true rfl⟩ ?_
              refine r_iincN C dX2_places_47 rfl (by decide) rfl ?_
              refine r_goto (tgt := 34) C dX2_places_50 (by decide) ?_
              refine r_w (congrArg (fun z => WC cy a z (up2 (plR r (f 0 8) t) (f 0 8) (t) ((nI t))) kn ++ Y) (up2_up2 f 4 8 t (t + 1))) ?_
              refine r_w (congrArg (fun z => WC cy a (up2 f 4 8 (t + 1)) z kn ++ Y) plR_step) ?_
              exact (Nat.not_lt_zero _ (by omega)).elim
        | succ d ih_L34 =>
          intro t ht
          refine r_iload_n C dX2_places_34 rfl ?_
          refine r_iload_n C dX2_places_35 rfl ?_
          refine r_icN_ge (a := t) (b := k0) (tgt := 53) C (by first | omega | (simp [up2, *]; done) | (simp [up2, *]; omega) | (simp only [up2_eq]; omega) | (split <;> omega)) (by first | omega | (simp [up2, *]; done) | (simp [up2, *]; omega) | (simp only [up2_eq]; omega) | (split <;> omega)) dX2_places_36 (by decide) (fun h36_4 => ?_) (fun h36_4 => ?_)
          · first
            | exfalso; first | omega | contradiction
            | skip
              have e8 : t = k0 := by omega
              subst e8
              refine r_aload_n C dX2_places_53 rfl ?_
              refine r_iload_n C dX2_places_54 rfl ?_
              refine d_V (st := []) hX.stb C hE (C_becomeSpare (f := (up2 f 4 8 t)) (r := (plR r (f 0 8) t)) (kn := kn) (i := i) hX (by first | omega | (simp [up2, *]; done) | (simp [up2, *]; omega) | (simp only [up2_eq]; omega) | (split <;> omega)) (by first | omega | (simp [up2, *]; done) | (simp [up2, *]; omega) | (simp only [up2_eq]; omega) | (split <;> omega)) (by first | omega | (simp [up2, *]; done) | (simp [up2, *]; omega) | (simp only [up2_eq]; omega) | (split <;> omega)) hC.h1 hC.hG hC.hU hC.hI8 (by first | omega | (simp [up2, *]; done) | (simp [up2, *]; omega) | (simp only [up2_eq]; omega) | (split <;> omega)) (by rw [up2_eq]; omega)) pk_X2_becomeSpare qm_X2_136 0 6 rfl rfl wc_0 rfl rfl (Nat.le_of_ble_eq_true rfl) dX2_places_55 ⟨Nat.le_of_ble_eq_true rfl, Nat.le_of_ble_eq_true rfl⟩ ⟨Nat.le_of_ble_eq_true rfl, Nat.le_of_ble_eq_true rfl⟩ ?_
              exact r_iret C hr dX2_places_58 ⟨rfl, rfl⟩ (Nat.le_of_ble_eq_true rfl) (Nat.le_of_ble_eq_true rfl)
          · first
            | exfalso; first | omega | contradiction
            | skip
              refine r_aload_n C dX2_places_39 rfl ?_
              refine s_get C 2 (by decide) qf_X2_29 rfl rfl dX2_places_40 ?_
              refine r_iload_n C dX2_places_43 rfl ?_
              refine d_Vv (st := []) hX.stb C hE (C_append (f := (up2 f 4 8 t)) (r := (plR r (f 0 8) t)) (kn := kn) (i := 8) (x := ((nI t))) hX (by first | omega | (simp [up2, *]; done) | (simp [up2, *]; omega) | (simp only [up2_eq]; omega) | (split <;> omega)) (by first | omega | (simp [up2, *]; done) | (simp [up2, *]; omega) | (simp only [up2_eq]; omega) | (split <;> omega)) (by first | omega | (simp [up2, *]; done) | (simp [up2, *]; omega) | (simp only [up2_eq]; omega) | (split <;> omega))) pk_X1_append qm_X2_141 (3 + 8) 5 rfl rfl (wc_p (by first | omega | (simp [up2, *]; done) | (simp [up2, *]; omega) | (simp only [up2_eq]; omega) | (split <;> omega))) rfl rfl (Nat.le_of_ble_eq_true rfl) dX2_places_44 ⟨Nat.le_of_ble_eq_true rfl, Nat.le_of_ble_eq_true rfl⟩ ⟨Nat.le_of_ble_eq_true rfl, Nat.le_of_ble_eq_true rfl⟩ ?_
              refine r_iincN C dX2_places_47 rfl (by decide) rfl ?_
              refine r_goto (tgt := 34) C dX2_places_50 (by decide) ?_
              refine r_w (congrArg (fun z => WC cy a z (up2 (plR r (f 0 8) t) (f 0 8) (t) ((nI t))) kn ++ Y) (up2_up2 f 4 8 t (t + 1))) ?_
              refine r_w (congrArg (fun z => WC cy a (up2 f 4 8 (t + 1)) z kn ++ Y) plR_step) ?_
              exact ih_L34 (t + 1) (by omega)
      exact L34 k0 0 (by omega)
    · exact absurd h11_2 (by first | omega | (simp [up2, *]; done) | (simp [up2, *]; omega) | (simp only [up2_eq]; omega) | (split <;> omega))
