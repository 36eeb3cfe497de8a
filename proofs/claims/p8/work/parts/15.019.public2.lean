theorem dX2_least_55 : decode cX2_least 55 = .ok (.getfield 11, 3) := by decide +kernel
theorem dX2_least_58 : decode cX2_least 58 = .ok (.iload_n 1, 1) := by decide +kernel
theorem dX2_least_59 : decode cX2_least 59 = .ok (.aaload, 1) := by decide +kernel
theorem dX2_least_60 : decode cX2_least 60 = .ok (.iload 4, 2) := by decide +kernel
theorem dX2_least_62 : decode cX2_least 62 = .ok (.invokevirtual 65, 3) := by decide +kernel
theorem dX2_least_65 : decode cX2_least 65 = .ok (.istore 5, 2) := by decide +kernel
theorem dX2_least_67 : decode cX2_least 67 = .ok (.iload_n 2, 1) := by decide +kernel
theorem dX2_least_68 : decode cX2_least 68 = .ok (.ifCond .eq 12, 3) := by decide +kernel
theorem dX2_least_71 : decode cX2_least 71 = .ok (.iload_n 3, 1) := by decide +kernel
theorem dX2_least_72 : decode cX2_least 72 = .ok (.iload 5, 2) := by decide +kernel
theorem dX2_least_74 : decode cX2_least 74 = .ok (.invokestatic 152, 3) := by decide +kernel
theorem dX2_least_77 : decode cX2_least 77 = .ok (.goto 9, 3) := by decide +kernel
theorem dX2_least_80 : decode cX2_least 80 = .ok (.iload_n 3, 1) := by decide +kernel
theorem dX2_least_81 : decode cX2_least 81 = .ok (.iload 5, 2) := by decide +kernel
theorem dX2_least_83 : decode cX2_least 83 = .ok (.invokestatic 158, 3) := by decide +kernel
theorem dX2_least_86 : decode cX2_least 86 = .ok (.istore_n 3, 1) := by decide +kernel
theorem dX2_least_87 : decode cX2_least 87 = .ok (.iinc 4 1, 3) := by decide +kernel
theorem dX2_least_90 : decode cX2_least 90 = .ok (.goto (-50), 3) := by decide +kernel
theorem dX2_least_93 : decode cX2_least 93 = .ok (.iload_n 3, 1) := by decide +kernel
theorem dX2_least_94 : decode cX2_least 94 = .ok (.ireturn, 1) := by decide +kernel
set_option maxRecDepth 100000 in
set_option maxHeartbeats 4000000 in
theorem C_least_ok {l : Launch} {D : va_G} {cy : Nat → ClassId} {X : (Nat → Prop) → State → Heap → Prop} {a f : Nat → Nat → Nat} {r : Nat → Nat → Int32} {kn : Int32} {Y : va_W} {i : Nat} {b0 : Nat} (hX : EnvX X) (hC : CInv f) (hi4 : i < 4) (hz : 0 < f 4 i) (hb : b0 ≤ 1) : Cd l D cy X yX2_least cX2_least 6 (some .int) (rmz 6 240) [.ref (a 0 0), .int (nI i), .int (nI b0)] (WC cy a f r kn ++ Y) (some (.int (leF b0 (fun q => r (f 0 i) (f 3 i + q)) (f 4 i - 1) 1 (r (f 0 i) (f 3 i))))) (WC cy a f r kn ++ Y) := by
  have q3 := hC.sp
  have q1_i := hC.rw hi4
  have q2_i := hC.al (i := i) (by omega)
  have q6_i : f 4 (f 1 i) = f 4 i := by rw [q1_i.2.1]
  refine Cm.of [some (.ref (a 0 0)), some (.int (nI i)), some (.int (nI b0)), none, none, none] (by decide +kernel) rfl (Nat.le_of_ble_eq_true rfl) ?_
  intro p e s m args below meth c A C hE hr hnt hn
  refine r_iload_n C dX2_least_0 rfl ?_
  refine d_Sv (st := []) hX.stb C hE (C_needRow_ok (f := f) (r := r) (kn := kn) (k := i) hX (by first | omega | (simp [up2, *]; done) | (simp [up2, *]; omega) | (simp only [up2_eq]; omega) | (split <;> omega))) pk_X2_needRow qm_X2_126 rfl rfl (Nat.le_of_ble_eq_true rfl) dX2_least_1 ⟨Nat.le_of_ble_eq_true rfl, Nat.le_of_ble_eq_true rfl⟩ ⟨Nat.le_of_ble_eq_true rfl, Nat.le_of_ble_eq_true rfl⟩ ?_
  refine r_aload_n C dX2_least_4 rfl ?_
  refine s_get C 0 (by decide) qf_X2_11 rfl rfl dX2_least_5 ?_
  refine r_iload_n C dX2_least_8 rfl ?_
  refine s_parts C (by first | omega | (simp [up2, *]; done) | (simp [up2, *]; omega) | (simp only [up2_eq]; omega) | (split <;> omega)) dX2_least_9 ?_
  refine p_getN (v := .int (nI (f 4 i))) hX C hE 4 (by first | omega | (simp [up2, *]; done) | (simp [up2, *]; omega) | (simp only [up2_eq]; omega) | (split <;> omega)) (by decide) qn_X2_50 rfl rfl dX2_least_10 ?_
  refine r_ifN_ne (a := (f 4 i)) (tgt := 26) C (by first | omega | (simp [up2, *]; done) | (simp [up2, *]; omega) | (simp only [up2_eq]; omega) | (split <;> omega)) dX2_least_13 (by decide) (fun h13_1 => ?_) (fun h13_1 => ?_)
  · skip
    refine r_aload_n C dX2_least_26 rfl ?_
    refine s_get C 0 (by decide) qf_X2_11 rfl rfl dX2_least_27 ?_
    refine r_iload_n C dX2_least_30 rfl ?_
    refine s_parts C (by first | omega | (simp [up2, *]; done) | (simp [up2, *]; omega) | (simp only [up2_eq]; omega) | (split <;> omega)) dX2_least_31 ?_
    refine r_iconst (v := (nI 0)) C dX2_least_32 (by decide) ?_
    refine d_V (st := []) hX.stb C hE (C_itemAt (f := f) (r := r) (kn := kn) (i := i) (k := 0) hX (by first | omega | (simp [up2, *]; done) | (simp [up2, *]; omega) | (simp only [up2_eq]; omega) | (split <;> omega)) (by first | omega | (simp [up2, *]; done) | (simp [up2, *]; omega) | (simp only [up2_eq]; omega) | (split <;> omega)) (by first | omega | (simp [up2, *]; done) | (simp [up2, *]; omega) | (simp only [up2_eq]; omega) | (split <;> omega))) pk_X1_itemAt qm_X2_65 (3 + i) 5 rfl rfl (wc_p (by first | omega | (simp [up2, *]; done) | (simp [up2, *]; omega) | (simp only [up2_eq]; omega) | (split <;> omega))) rfl rfl (Nat.le_of_ble_eq_true rfl) dX2_least_33 ⟨Nat.le_of_ble_eq_true rfl, Nat.le_of_ble_eq_true rfl⟩ ⟨Nat.le_of_ble_eq_true rfl, Nat.le_of_ble_eq_true rfl⟩ ?_
    refine r_istore_n C dX2_least_36 (by decide) rfl ?_
    refine r_iconst (v := (nI 1)) C dX2_least_37 (by decide) ?_
    refine r_istore C dX2_least_38 (by decide) rfl ?_
    have L40 : ∀ (d : Nat) (t : Nat) (z : Int32), (ht : t + d = f 4 i) → (hF : leF b0 (fun q => r (f 0 i) (f 3 i + q)) d t z = leF b0 (fun q => r (f 0 i) (f 3 i + q)) (f 4 i - 1) 1 (r (f 0 i) (f 3 i))) → vC p l e (rmz 6 240) s m args below meth c D A (vx_MQ below (vG (fun v1 w1 => v1 = (some (.int (leF b0 (fun q => r (f 0 i) (f 3 i + q)) (f 4 i - 1) 1 (r (f 0 i) (f 3 i))))) ∧ w1 = WC cy a f r kn ++ Y) D vwCl A) (vGX (fun _ => False) D vwCl (WC cy a f r kn ++ Y) A) args s (rmz 6 240).cells (rmz 6 240).slots A) 6 0 0 (WC cy a f r kn ++ Y) [some (.ref (a 0 0)), some (.int (nI i)), some (.int (nI b0)), some (.int z), some (.int (nI t)), none] 40 [] := by
      intro d
      induction d with
      | zero =>
        intro t z ht hF
        refine r_iload C dX2_least_40 rfl ?_
        refine r_aload_n C dX2_least_42 rfl ?_
        refine s_get C 0 (by decide) qf_X2_11 rfl rfl dX2_least_43 ?_
        refine r_iload_n C dX2_least_46 rfl ?_
        refine s_parts C (by first | omega | (simp [up2, *]; done) | (simp [up2, *]; omega) | (simp only [up2_eq]; omega) | (split <;> omega)) dX2_least_47 ?_
        refine p_getN (v := .int (nI (f 4 i))) hX C hE 4 (by first | omega | (simp [up2, *]; done) | (simp [up2, *]; omega) | (simp only [up2_eq]; omega) | (split <;> omega)) (by decide) qn_X2_50 rfl rfl dX2_least_48 ?_
        refine r_icN_ge (a := t) (b := (f 4 i)) (tgt := 93) C (by first | omega | (simp [up2, *]; done) | (simp [up2, *]; omega) | (simp only [up2_eq]; omega) | (split <;> omega)) (by first | omega | (simp [up2, *]; done) | (simp [up2, *]; omega) | (simp only [up2_eq]; omega) | (split <;> omega)) dX2_least_51 (by decide) (fun h51_2 => ?_) (fun h51_2 => ?_)
        · first
          | exfalso; first | omega | contradiction
          | skip
            refine r_iload_n C dX2_least_93 rfl ?_
            exact r_iret C hr dX2_least_94 ⟨by rw [← hF]; rfl, rfl⟩ (Nat.le_of_ble_eq_true rfl) (Nat.le_of_ble_eq_true rfl)
        · first
          | exfalso; first | omega | contradiction
          | skip
            refine r_aload_n C dX2_least_54 rfl ?_
            refine s_get C 0 (by decide) qf_X2_11 rfl rfl dX2_least_55 ?_
            refine r_iload_n C dX2_least_58 rfl ?_
            refine s_parts C (by first | omega | (simp [up2, *]; done) | (simp [up2, *]; omega) | (simp only [up2_eq]; omega) | (split <;> omega)) dX2_least_59 ?_
            refine r_iload C dX2_least_60 rfl ?_
            refine d_V (st := []) hX.stb C hE (C_itemAt (f := f) (r := r) (kn := kn) (i := i) (k := t) hX (by first | omega | (simp [up2, *]; done) | (simp [up2, *]; omega) | (simp only [up2_eq]; omega) | (split <;> omega)) (by first | omega | (simp [up2, *]; done) | (simp [up2, *]; omega) | (simp only [up2_eq]; omega) | (split <;> omega)) (by first | omega | (simp [up2, *]; done) | (simp [up2, *]; omega) | (simp only [up2_eq]; omega) | (split <;> omega))) pk_X1_itemAt qm_X2_65 (3 + i) 5 rfl rfl (wc_p (by first | omega | (simp [up2, *]; done) | (simp [up2, *]; omega) | (simp only [up2_eq]; omega) | (split <;> omega))) rfl rfl (Nat.le_of_ble_eq_true rfl) dX2_least_62 ⟨Nat.le_of_ble_eq_true rfl, Nat.le_of_ble_eq_true rfl⟩ ⟨Nat.le_of_ble_eq_true rfl, Nat.le_of_ble_eq_true rfl⟩ ?_
            refine r_istore C dX2_least_65 (by decide) rfl ?_
            refine r_iload_n C dX2_least_67 rfl ?_
            refine r_ifN_eq (a := b0) (tgt := 80) C (by first | omega | (simp [up2, *]; done) | (simp [up2, *]; omega) | (simp only [up2_eq]; omega) | (split <;> omega)) dX2_least_68 (by decide) (fun h68_3 => ?_) (fun h68_3 => ?_)
            · first
              | exfalso; first | omega | contradiction
              | skip
                refine r_iload_n C dX2_least_80 rfl ?_
                refine r_iload C dX2_least_81 rfl ?_
                refine d_S (st := []) hX.stb C hE (C_mmin (w := (WC cy a f r kn ++ Y)) (x := (z)) (y := ((r (f 0 i) (f 3 i + t)))) ) pk_J9_min_7cf53 qm_X2_158 rfl rfl (Nat.le_of_ble_eq_true rfl) dX2_least_83 ⟨Nat.le_of_ble_eq_true rfl, Nat.le_of_ble_eq_true rfl⟩ ⟨Nat.le_of_ble_eq_true rfl, Nat.le_of_ble_eq_true rfl⟩ ?_
                refine r_istore_n C dX2_least_86 (by decide) rfl ?_
                refine r_iincN C dX2_least_87 rfl (by decide) rfl ?_
                refine r_goto (tgt := 40) C dX2_least_90 (by decide) ?_
                refine r_drop 5 ?_
                exact (Nat.not_lt_zero _ (by omega)).elim
            · first
              | exfalso; first | omega | contradiction
              | skip
                refine r_iload_n C dX2_least_71 rfl ?_
                refine r_iload C dX2_least_72 rfl ?_
                refine d_S (st := []) hX.stb C hE (C_mmax (w := (WC cy a f r kn ++ Y)) (x := (z)) (y := ((r (f 0 i) (f 3 i + t)))) ) pk_J9_max_7cf53 qm_X2_152 rfl rfl (Nat.le_of_ble_eq_true rfl) dX2_least_74 ⟨Nat.le_of_ble_eq_true rfl, Nat.le_of_ble_eq_true rfl⟩ ⟨Nat.le_of_ble_eq_true rfl, Nat.le_of_ble_eq_true rfl⟩ ?_
                refine r_goto (tgt := 86) C dX2_least_77 (by decide) ?_
                refine r_istore_n C dX2_least_86 (by decide) rfl ?_
                refine r_iincN C dX2_least_87 rfl (by decide) rfl ?_
                refine r_goto (tgt := 40) C dX2_least_90 (by decide) ?_
                refine r_drop 5 ?_
                exact (Nat.not_lt_zero _ (by omega)).elim
      | succ d ih_L40 =>
        intro t z ht hF
        refine r_iload C dX2_least_40 rfl ?_
        refine r_aload_n C dX2_least_42 rfl ?_
        refine s_get C 0 (by decide) qf_X2_11 rfl rfl dX2_least_43 ?_
        refine r_iload_n C dX2_least_46 rfl ?_
        refine s_parts C (by first | omega | (simp [up2, *]; done) | (simp [up2, *]; omega) | (simp only [up2_eq]; omega) | (split <;> omega)) dX2_least_47 ?_
        refine p_getN (v := .int (nI (f 4 i))) hX C hE 4 (by first | omega | (simp [up2, *]; done) | (simp [up2, *]; omega) | (simp only [up2_eq]; omega) | (split <;> omega)) (by decide) qn_X2_50 rfl rfl dX2_least_48 ?_
        refine r_icN_ge (a := t) (b := (f 4 i)) (tgt := 93) C (by first | omega | (simp [up2, *]; done) | (simp [up2, *]; omega) | (simp only [up2_eq]; omega) | (split <;> omega)) (by first | omega | (simp [up2, *]; done) | (simp [up2, *]; omega) | (simp only [up2_eq]; omega) | (split <;> omega)) dX2_least_51 (by decide) (fun h51_4 => ?_) (fun h51_4 => ?_)
        · first
          | exfalso; first | omega | contradiction
          | skip
            refine r_iload_n C dX2_least_93 rfl ?_
            exact r_iret C hr dX2_least_94 ⟨by rw [← hF]; rfl, rfl⟩ (Nat.le_of_ble_eq_true rfl) (Nat.le_of_ble_eq_true rfl)
        · first
          | exfalso; first | omega | contradiction
          | skip
            refine r_aload_n C dX2_least_54 rfl ?_
            refine s_get C 0 (by decide) qf_X2_11 rfl rfl dX2_least_55 ?_
            refine r_iload_n C dX2_least_58 rfl ?_
            refine s_parts C (by first | omega | (simp [up2, *]; done) | (simp [up2, *]; omega) | (simp only [up2_eq]; omega) | (split <;> omega)) dX2_least_59 ?_
            refine r_iload C dX2_least_60 rfl ?_
            refine d_V (st := []) hX.stb C hE (C_itemAt (f := f) (r := r) (kn := kn) (i := i) (k := t) hX (by first | omega | (simp [up2, *]; done) | (simp [up2, *]; omega) | (simp only [up2_eq]; omega) | (split <;> omega)) (by first | omega | (simp [up2, *]; done) | (simp [up2, *]; omega) | (simp only [up2_eq]; omega) | (split <;> omega)) (by first | omega | (simp [up2, *]; done) | (simp [up2, *]; omega) | (simp only [up2_eq]; omega) | (split <;> omega))) pk_X1_itemAt qm_X2_65 (3 + i) 5 rfl rfl (wc_p (by first | omega | (simp [up2, *]; done) | (simp [up2, *]; omega) | (simp only [up2_eq]; omega) | (split <;> omega))) rfl rfl (Nat.le_of_ble_eq_true rfl) dX2_least_62 ⟨Nat.le_of_ble_eq_true rfl, Nat.le_of_ble_eq_true rfl⟩ ⟨Nat.le_of_ble_eq_true rfl, Nat.le_of_ble_eq_true rfl⟩ ?_
            refine r_istore C dX2_least_65 (by decide) rfl ?_
            refine r_iload_n C dX2_least_67 rfl ?_
            refine r_ifN_eq (a := b0) (tgt := 80) C (by first | omega | (simp [up2, *]; done) | (simp [up2, *]; omega) | (simp only [up2_eq]; omega) | (split <;> omega)) dX2_least_68 (by decide) (fun h68_5 => ?_) (fun h68_5 => ?_)
            · first
              | exfalso; first | omega | contradiction
              | skip
                refine r_iload_n C dX2_least_80 rfl ?_
                refine r_iload C dX2_least_81 rfl ?_
                refine d_S (st := []) hX.stb C hE (C_mmin (w := (WC cy a f r kn ++ Y)) (x := (z)) (y := ((r (f 0 i) (f 3 i + t)))) ) pk_J9_min_7cf53 qm_X2_158 rfl rfl (Nat.le_of_ble_eq_true rfl) dX2_least_83 ⟨Nat.le_of_ble_eq_true rfl, Nat.le_of_ble_eq_true rfl⟩ ⟨Nat.le_of_ble_eq_true rfl, Nat.le_of_ble_eq_true rfl⟩ ?_
                refine r_istore_n C dX2_least_86 (by decide) rfl ?_
                refine r_iincN C dX2_least_87 rfl (by decide) rfl ?_
                refine r_goto (tgt := 40) C dX2_least_90 (by decide) ?_
                refine r_drop 5 ?_
                exact ih_L40 (t + 1) _ (by omega) (by rw [← hF]; show _ = if b0 = 0 then _ else _; first | rw [if_pos (show b0 = 0 by assumption)] | rw [if_neg (show ¬ b0 = 0 by assumption)])
            · first
              | exfalso; first | omega | contradiction
              | skip
                refine r_iload_n C dX2_least_71 rfl ?_
                refine r_iload C dX2_least_72 rfl ?_
                refine d_S (st := []) hX.stb C hE (C_mmax (w := (WC cy a f r kn ++ Y)) (x := (z)) (y := ((r (f 0 i) (f 3 i + t)))) ) pk_J9_max_7cf53 qm_X2_152 rfl rfl (Nat.le_of_ble_eq_true rfl) dX2_least_74 ⟨Nat.le_of_ble_eq_true rfl, Nat.le_of_ble_eq_true rfl⟩ ⟨Nat.le_of_ble_eq_true rfl, Nat.le_of_ble_eq_true rfl⟩ ?_
                refine r_goto (tgt := 86) C dX2_least_77 (by decide) ?_
                refine r_istore_n C dX2_least_86 (by decide) rfl ?_
                refine r_iincN C dX2_least_87 rfl (by decide) rfl ?_
                refine r_goto (tgt := 40) C dX2_least_90 (by decide) ?_
                refine r_drop 5 ?_
                exact ih_L40 (t + 1) _ (by omega) (by rw [← hF]; show _ = if b0 = 0 then _ else _; first | rw [if_pos (show b0 = 0 by assumption)] | rw [if_neg (show ¬ b0 = 0 by assumption)])
    exact L40 (f 4 i - 1) 1 _ (by omega) rfl
  · exact absurd h13_1 (by first | omega | (simp [up2, *]; done) | (simp [up2, *]; omega) | (simp only [up2_eq]; omega) | (split <;> omega))
