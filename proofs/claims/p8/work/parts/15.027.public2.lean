theorem dX2_through_52 : decode cX2_through 52 = .ok (.iload 5, 2) := by decide +kernel
theorem dX2_through_54 : decode cX2_through 54 = .ok (.aload_n 0, 1) := by decide +kernel
theorem dX2_through_55 : decode cX2_through 55 = .ok (.getfield 11, 3) := by decide +kernel
theorem dX2_through_58 : decode cX2_through 58 = .ok (.iload_n 1, 1) := by decide +kernel
theorem dX2_through_59 : decode cX2_through 59 = .ok (.aaload, 1) := by decide +kernel
theorem dX2_through_60 : decode cX2_through 60 = .ok (.getfield 50, 3) := by decide +kernel
theorem dX2_through_63 : decode cX2_through 63 = .ok (.if_icmp .lt 6, 3) := by decide +kernel
theorem dX2_through_69 : decode cX2_through 69 = .ok (.aload_n 0, 1) := by decide +kernel
theorem dX2_through_70 : decode cX2_through 70 = .ok (.getfield 29, 3) := by decide +kernel
theorem dX2_through_73 : decode cX2_through 73 = .ok (.iload 5, 2) := by decide +kernel
theorem dX2_through_75 : decode cX2_through 75 = .ok (.ifCond .ge 8, 3) := by decide +kernel
theorem dX2_through_78 : decode cX2_through 78 = .ok (.iload 5, 2) := by decide +kernel
theorem dX2_through_80 : decode cX2_through 80 = .ok (.goto 14, 3) := by decide +kernel
theorem dX2_through_83 : decode cX2_through 83 = .ok (.aload_n 0, 1) := by decide +kernel
theorem dX2_through_84 : decode cX2_through 84 = .ok (.getfield 11, 3) := by decide +kernel
theorem dX2_through_87 : decode cX2_through 87 = .ok (.iload_n 1, 1) := by decide +kernel
theorem dX2_through_88 : decode cX2_through 88 = .ok (.aaload, 1) := by decide +kernel
theorem dX2_through_89 : decode cX2_through 89 = .ok (.iload 5, 2) := by decide +kernel
theorem dX2_through_91 : decode cX2_through 91 = .ok (.invokevirtual 65, 3) := by decide +kernel
theorem dX2_through_94 : decode cX2_through 94 = .ok (.invokevirtual 141, 3) := by decide +kernel
theorem dX2_through_97 : decode cX2_through 97 = .ok (.iinc 4 1, 3) := by decide +kernel
theorem dX2_through_100 : decode cX2_through 100 = .ok (.goto (-75), 3) := by decide +kernel
theorem dX2_through_103 : decode cX2_through 103 = .ok (.aload_n 0, 1) := by decide +kernel
theorem dX2_through_104 : decode cX2_through 104 = .ok (.iload_n 3, 1) := by decide +kernel
theorem dX2_through_105 : decode cX2_through 105 = .ok (.invokevirtual 136, 3) := by decide +kernel
theorem dX2_through_108 : decode cX2_through 108 = .ok (.ireturn, 1) := by decide +kernel
set_option maxRecDepth 100000 in
set_option maxHeartbeats 4000000 in
theorem C_through_ok {l : Launch} {D : va_G} {cy : Nat → ClassId} {X : (Nat → Prop) → State → Heap → Prop} {a f : Nat → Nat → Nat} {r : Nat → Nat → Int32} {kn : Int32} {Y : va_W} {w : Nat} {v : Nat} {i : Nat} (hX : EnvX X) (hC : CInv f) (hw : w < 8) (h5w : f 5 w = 1) (hv : v < 8) (h5v : f 5 v = 1) (hi4 : i < 4) (hall : ∀ q, q < f 4 v → r (f 0 v) (f 3 v + q) < nI (f 4 w)) : Cd l D cy X yX2_through cX2_through 6 (some .int) (rmz 6 240) [.ref (a 0 0), .int (nI w), .int (nI v), .int (nI i)] (WC cy a f r kn ++ Y) (some (.int (nI (f 4 v)))) (WC cy a (settleF (up2 (up2 f 4 8 (f 4 v)) 4 i (f 4 v)) i 4294967295) (cpy2 (thR r (f 0 8) (f 4 v) (fun q => tvF (fun t => r (f 0 w) (f 3 w + t)) (r (f 0 v) (f 3 v + q)))) (f 0 8) (f 3 8) (f 0 i) (f 3 i) (f 4 v)) kn ++ Y) := by
  have q3 := hC.sp
  have q1_w := hC.al hw
  have q2_w := hC.th hw h5w
  have q4_w := hC.rw (i := f 1 w) q1_w.2.1
  have q1_v := hC.al hv
  have q2_v := hC.th hv h5v
  have q4_v := hC.rw (i := f 1 v) q1_v.2.1
  have q1_i := hC.rw hi4
  have q2_i := hC.al (i := i) (by omega)
  have q6_i : f 4 (f 1 i) = f 4 i := by rw [q1_i.2.1]
  have ne_w : w ≠ 8 := by omega
  have ne_v : v ≠ 8 := by omega
  have ne_i : i ≠ 8 := by omega
  refine Cm.of [some (.ref (a 0 0)), some (.int (nI w)), some (.int (nI v)), some (.int (nI i)), none, none] (by decide +kernel) rfl (Nat.le_of_ble_eq_true rfl) ?_
  intro p e s m args below meth c A C hE hr hnt hn
  refine r_aload_n C dX2_through_0 rfl ?_
  refine r_iload_n C dX2_through_1 rfl ?_
  refine d_Vv (st := []) hX.stb C hE (C_needWhere_ok (f := f) (r := r) (kn := kn) (w := w) hX (by first | omega | (simp [up2, *]; done) | (simp [up2, *]; omega) | (simp only [up2_eq]; omega) | (split <;> omega)) (by first | omega | (simp [up2, *]; done) | (simp [up2, *]; omega) | (simp only [up2_eq]; omega) | (split <;> omega))) pk_X2_needWhere qm_X2_39 0 6 rfl rfl wc_0 rfl rfl (Nat.le_of_ble_eq_true rfl) dX2_through_2 ⟨Nat.le_of_ble_eq_true rfl, Nat.le_of_ble_eq_true rfl⟩ ⟨Nat.le_of_ble_eq_true rfl, Nat.le_of_ble_eq_true rfl⟩ ?_
  refine r_aload_n C dX2_through_5 rfl ?_
  refine r_iload_n C dX2_through_6 rfl ?_
  refine d_Vv (st := []) hX.stb C hE (C_needWhere_ok (f := f) (r := r) (kn := kn) (w := v) hX (by first | omega | (simp [up2, *]; done) | (simp [up2, *]; omega) | (simp only [up2_eq]; omega) | (split <;> omega)) (by first | omega | (simp [up2, *]; done) | (simp [up2, *]; omega) | (simp only [up2_eq]; omega) | (split <;> omega))) pk_X2_needWhere qm_X2_39 0 6 rfl rfl wc_0 rfl rfl (Nat.le_of_ble_eq_true rfl) dX2_through_7 ⟨Nat.le_of_ble_eq_true rfl, Nat.le_of_ble_eq_true rfl⟩ ⟨Nat.le_of_ble_eq_true rfl, Nat.le_of_ble_eq_true rfl⟩ ?_
  refine r_iload_n C dX2_through_10 rfl ?_
  refine d_Sv (st := []) hX.stb C hE (C_needRow_ok (f := f) (r := r) (kn := kn) (k := i) hX (by first | omega | (simp [up2, *]; done) | (simp [up2, *]; omega) | (simp only [up2_eq]; omega) | (split <;> omega))) pk_X2_needRow qm_X2_126 rfl rfl (Nat.le_of_ble_eq_true rfl) dX2_through_11 ⟨Nat.le_of_ble_eq_true rfl, Nat.le_of_ble_eq_true rfl⟩ ⟨Nat.le_of_ble_eq_true rfl, Nat.le_of_ble_eq_true rfl⟩ ?_
  refine r_aload_n C dX2_through_14 rfl ?_
  refine s_get C 2 (by decide) qf_X2_29 rfl rfl dX2_through_15 ?_
  refine r_iconst (v := (nI 0)) C dX2_through_18 (by decide) ?_
  refine p_putN hX C hE 4 (by first | omega | (simp [up2, *]; done) | (simp [up2, *]; omega) | (simp only [up2_eq]; omega) | (split <;> omega)) (by decide) (by decide) qn_X2_50 rfl rfl rfl dX2_through_19 ?_
  refine r_iconst (v := (nI 0)) C dX2_through_22 (by decide) ?_
  refine r_istore C dX2_through_23 (by decide) rfl ?_
  refine r_w (congrArg (fun z => WC cy a (up2 f 4 8 0) z kn ++ Y) (thR_0 r (f 0 8) (fun q => tvF (fun t => r (f 0 w) (f 3 w + t)) (r (f 0 v) (f 3 v + q)))).symm) ?_
  have L25 : ∀ (d : Nat) (t : Nat), (ht : t + d = f 4 v) → vC p l e (rmz 6 240) s m args below meth c D A (vx_MQ below (vG (fun v1 w1 => v1 = (some (.int (nI (f 4 v)))) ∧ w1 = WC cy a (settleF (up2 (up2 f 4 8 (f 4 v)) 4 i (f 4 v)) i 4294967295) (cpy2 (thR r (f 0 8) (f 4 v) (fun q => tvF (fun t => r (f 0 w) (f 3 w + t)) (r (f 0 v) (f 3 v + q)))) (f 0 8) (f 3 8) (f 0 i) (f 3 i) (f 4 v)) kn ++ Y) D vwCl A) (vGX (fun _ => False) D vwCl (WC cy a f r kn ++ Y) A) args s (rmz 6 240).cells (rmz 6 240).slots A) 6 0 0 (WC cy a (up2 f 4 8 t) (thR r (f 0 8) t (fun q => tvF (fun t => r (f 0 w) (f 3 w + t)) (r (f 0 v) (f 3 v + q)))) kn ++ Y) [some (.ref (a 0 0)), some (.int (nI w)), some (.int (nI v)), some (.int (nI i)), some (.int (nI t)), none] 25 [] := by
    intro d
    induction d with
    | zero =>
      intro t ht
      refine r_iload C dX2_through_25 rfl ?_
      refine r_aload_n C dX2_through_27 rfl ?_
      refine s_get C 0 (by decide) qf_X2_11 rfl rfl dX2_through_28 ?_
      refine r_iload_n C dX2_through_31 rfl ?_
      refine s_parts C (by first | omega | (simp [up2, *]; done) | (simp [up2, *]; omega) | (simp only [up2_eq]; omega) | (split <;> omega)) dX2_through_32 ?_
      refine p_getN (v := .int (nI (f 4 v))) hX C hE 4 (by first | omega | (simp [up2, *]; done) | (simp [up2, *]; omega) | (simp only [up2_eq]; omega) | (split <;> omega)) (by decide) qn_X2_50 rfl (congrArg (fun z => some (Value.int (nI z))) (show (up2 f 4 8 t) 4 v = f 4 v by simp [up2, exL_at, dmF_at, *])) dX2_through_33 ?_
      refine r_icN_ge (a := t) (b := (f 4 v)) (tgt := 103) C (by first | omega | (simp [up2, *]; done) | (simp [up2, *]; omega) | (simp only [up2_eq]; omega) | (split <;> omega)) (by first | omega | (simp [up2, *]; done) | (simp [up2, *]; omega) | (simp only [up2_eq]; omega) | (split <;> omega)) dX2_through_36 (by decide) (fun h36_1 => ?_) (fun h36_1 => ?_)
      · first
        | exfalso; first | omega | contradiction
        | skip
          have e8 : t = f 4 v := by omega
          subst e8
          refine r_aload_n C dX2_through_103 rfl ?_
          refine r_iload_n C dX2_through_104 rfl ?_
          refine d_V (st := []) hX.stb C hE (C_becomeSpare (f := (up2 f 4 8 (f 4 v))) (r := (thR r (f 0 8) (f 4 v) (fun q => tvF (fun t => r (f 0 w) (f 3 w + t)) (r (f 0 v) (f 3 v + q))))) (kn := kn) (i := i) hX (by first | omega | (simp [up2, *]; done) | (simp [up2, *]; omega) | (simp only [up2_eq]; omega) | (split <;> omega)) (by first | omega | (simp [up2, *]; done) | (simp [up2, *]; omega) | (simp only [up2_eq]; omega) | (split <;> omega)) (by first | omega | (simp [up2, *]; done) | (simp [up2, *]; omega) | (simp only [up2_eq]; omega) | (split <;> omega)) hC.h1 hC.hG hC.hU hC.hI8 (by first | omega | (simp [up2, *]; done) | (simp [up2, *]; omega) | (simp only [up2_eq]; omega) | (split <;> omega)) (by rw [up2_eq]; omega)) pk_X2_becomeSpare qm_X2_136 0 6 rfl rfl wc_0 rfl rfl (Nat.le_of_ble_eq_true rfl) dX2_through_105 ⟨Nat.le_of_ble_eq_true rfl, Nat.le_of_ble_eq_true rfl⟩ ⟨Nat.le_of_ble_eq_true rfl, Nat.le_of_ble_eq_true rfl⟩ ?_
          exact r_iret C hr dX2_through_108 ⟨rfl, rfl⟩ (Nat.le_of_ble_eq_true rfl) (Nat.le_of_ble_eq_true rfl)
      · first
        | exfalso; first | omega | contradiction
        | skip
          refine r_aload_n C dX2_through_39 rfl ?_
          refine s_get C 0 (by decide) qf_X2_11 rfl rfl dX2_through_40 ?_
          refine r_iload_n C dX2_through_43 rfl ?_
          refine s_parts C (by first | omega | (simp [up2, *]; done) | (simp [up2, *]; omega) | (simp only [up2_eq]; omega) | (split <;> omega)) dX2_through_44 ?_
          refine r_iload C dX2_through_45 rfl ?_
          refine d_V (st := []) hX.stb C hE (C_itemAt (f := (up2 f 4 8 t)) (r := (thR r (f 0 8) t (fun q => tvF (fun t => r (f 0 w) (f 3 w + t)) (r (f 0 v) (f 3 v + q))))) (kn := kn) (i := v) (k := t) hX (by first | omega | (simp [up2, *]; done) | (simp [up2, *]; omega) | (simp only [up2_eq]; omega) | (split <;> omega)) (by first | omega | (simp [up2, *]; done) | (simp [up2, *]; omega) | (simp only [up2_eq]; omega) | (split <;> omega)) (by first | omega | (simp [up2, *]; done) | (simp [up2, *]; omega) | (simp only [up2_eq]; omega) | (split <;> omega))) pk_X1_itemAt qm_X2_65 (3 + v) 5 rfl rfl (wc_p (by first | omega | (simp [up2, *]; done) | (simp [up2, *]; omega) | (simp only [up2_eq]; omega) | (split <;> omega))) rfl rfl (Nat.le_of_ble_eq_true rfl) dX2_through_47 ⟨Nat.le_of_ble_eq_true rfl, Nat.le_of_ble_eq_true rfl⟩ ⟨Nat.le_of_ble_eq_true rfl, Nat.le_of_ble_eq_true rfl⟩ ?_
          refine r_eqi (y := r (f 0 v) (f 3 v + t)) (congrFun (thR_off (show f 0 v ≠ f 0 8 from q2_v.2.2.2.2.1)) _) ?_
          refine r_istore C dX2_through_50 (by decide) rfl ?_
          refine r_iload C dX2_through_52 rfl ?_
          refine r_aload_n C dX2_through_54 rfl ?_
          refine s_get C 0 (by decide) qf_X2_11 rfl rfl dX2_through_55 ?_
          refine r_iload_n C dX2_through_58 rfl ?_
          refine s_parts C (by first | omega | (simp [up2, *]; done) | (simp [up2, *]; omega) | (simp only [up2_eq]; omega) | (split <;> omega)) dX2_through_59 ?_
          refine p_getN (v := .int (nI (f 4 w))) hX C hE 4 (by first | omega | (simp [up2, *]; done) | (simp [up2, *]; omega) | (simp only [up2_eq]; omega) | (split <;> omega)) (by decide) qn_X2_50 rfl (congrArg (fun z => some (Value.int (nI z))) (show (up2 f 4 8 t) 4 w = f 4 w by simp [up2, exL_at, dmF_at, *])) dX2_through_60 ?_
          refine r_ic_lt (tgt := 69) C dX2_through_63 (by decide) (fun h63_2 => ?_) (fun h63_2 => ?_)
          · skip
            refine r_aload_n C dX2_through_69 rfl ?_
            refine s_get C 2 (by decide) qf_X2_29 rfl rfl dX2_through_70 ?_
            refine r_iload C dX2_through_73 rfl ?_
            refine r_if_ge (tgt := 83) C dX2_through_75 (by decide) (fun h75_3 => ?_) (fun h75_3 => ?_)
            · first
              | exfalso; first | omega | contradiction
              | skip
                refine r_aload_n C dX2_through_83 rfl ?_
                refine s_get C 0 (by decide) qf_X2_11 rfl rfl dX2_through_84 ?_
                refine r_iload_n C dX2_through_87 rfl ?_
                refine s_parts C (by first | omega | (simp [up2, *]; done) | (simp [up2, *]; omega) | (simp only [up2_eq]; omega) | (split <;> omega)) dX2_through_88 ?_
                refine r_iload C dX2_through_89 rfl ?_
                have hcl := cl_nI (by omega) (by assumption) (hall t (by omega))
                refine r_eqi hcl.1 ?_
                refine d_V (st := [.ref (a 1 8)]) hX.stb C hE (C_itemAt (f := (up2 f 4 8 t)) (r := (thR r (f 0 8) t (fun q => tvF (fun t => r (f 0 w) (f 3 w + t)) (r (f 0 v) (f 3 v + q))))) (kn := kn) (i := w) (k := ((r (f 0 v) (f 3 v + t)).toNatClampNeg)) hX (by first | omega | (simp [up2, *]; done) | (simp [up2, *]; omega) | (simp only [up2_eq]; omega) | (split <;> omega)) (by first | omega | (simp [up2, *]; done) | (simp [up2, *]; omega) | (simp only [up2_eq]; omega) | (split <;> omega)) (show f 3 w + (r (f 0 v) (f 3 v + t)).toNatClampNeg < 12 by omega)) pk_X1_itemAt qm_X2_65 (3 + w) 5 rfl rfl (wc_p (by first | omega | (simp [up2, *]; done) | (simp [up2, *]; omega) | (simp only [up2_eq]; omega) | (split <;> omega))) rfl rfl (Nat.le_of_ble_eq_true rfl) dX2_through_91 ⟨Nat.le_of_ble_eq_true rfl, Nat.le_of_ble_eq_true rfl⟩ ⟨Nat.le_of_ble_eq_true rfl, Nat.le_of_ble_eq_true rfl⟩ ?_
                refine r_eqi (y := r (f 0 w) (f 3 w + (r (f 0 v) (f 3 v + t)).toNatClampNeg)) (congrFun (thR_off (show f 0 w ≠ f 0 8 from q2_w.2.2.2.2.1)) _) ?_
                refine d_Vv (st := []) hX.stb C hE (C_append (f := (up2 f 4 8 t)) (r := (thR r (f 0 8) t (fun q => tvF (fun t => r (f 0 w) (f 3 w + t)) (r (f 0 v) (f 3 v + q))))) (kn := kn) (i := 8) (x := ((r (f 0 w) (f 3 w + (r (f 0 v) (f 3 v + t)).toNatClampNeg)))) hX (by first | omega | (simp [up2, *]; done) | (simp [up2, *]; omega) | (simp only [up2_eq]; omega) | (split <;> omega)) (by first | omega | (simp [up2, *]; done) | (simp [up2, *]; omega) | (simp only [up2_eq]; omega) | (split <;> omega)) (by first | omega | (simp [up2, *]; done) | (simp [up2, *]; omega) | (simp only [up2_eq]; omega) | (split <;> omega))) pk_X1_append qm_X2_141 (3 + 8) 5 rfl rfl (wc_p (by first | omega | (simp [up2, *]; done) | (simp [up2, *]; omega) | (simp only [up2_eq]; omega) | (split <;> omega))) rfl rfl (Nat.le_of_ble_eq_true rfl) dX2_through_94 ⟨Nat.le_of_ble_eq_true rfl, Nat.le_of_ble_eq_true rfl⟩ ⟨Nat.le_of_ble_eq_true rfl, Nat.le_of_ble_eq_true rfl⟩ ?_
                refine r_iincN C dX2_through_97 rfl (by decide) rfl ?_
                refine r_goto (tgt := 25) C dX2_through_100 (by decide) ?_
                refine r_w (congrArg (fun z => WC cy a z (up2 (thR r (f 0 8) t (fun q => tvF (fun t => r (f 0 w) (f 3 w + t)) (r (f 0 v) (f 3 v + q)))) (f 0 8) (t) ((r (f 0 w) (f 3 w + (r (f 0 v) (f 3 v + t)).toNatClampNeg)))) kn ++ Y) (up2_up2 f 4 8 t (t + 1))) ?_
                refine r_w (congrArg (fun z => WC cy a (up2 f 4 8 (t + 1)) z kn ++ Y) (thR_step (by simp only [tvF]; first | rw [if_pos (by assumption)] | (rw [if_neg (Int32.not_lt.mpr (by assumption))] <;> rfl) | rw [if_pos (Int32.not_le.mp (by assumption))]))) ?_
                refine r_drop 5 ?_
                exact (Nat.not_lt_zero _ (by omega)).elim
            · first
              | exfalso; first | omega | contradiction
              | skip
                refine r_iload C dX2_through_78 rfl ?_
                refine r_goto (tgt := 94) C dX2_through_80 (by decide) ?_
                refine d_Vv (st := []) hX.stb C hE (C_append (f := (up2 f 4 8 t)) (r := (thR r (f 0 8) t (fun q => tvF (fun t => r (f 0 w) (f 3 w + t)) (r (f 0 v) (f 3 v + q))))) (kn := kn) (i := 8) (x := ((r (f 0 v) (f 3 v + t)))) hX (by first | omega | (simp [up2, *]; done) | (simp [up2, *]; omega) | (simp only [up2_eq]; omega) | (split <;> omega)) (by first | omega | (simp [up2, *]; done) | (simp [up2, *]; omega) | (simp only [up2_eq]; omega) | (split <;> omega)) (by first | omega | (simp [up2, *]; done) | (simp [up2, *]; omega) | (simp only [up2_eq]; omega) | (split <;> omega))) pk_X1_append qm_X2_141 (3 + 8) 5 rfl rfl (wc_p (by first | omega | (simp [up2, *]; done) | (simp [up2, *]; omega) | (simp only [up2_eq]; omega) | (split <;> omega))) rfl rfl (Nat.le_of_ble_eq_true rfl) dX2_through_94 ⟨Nat.le_of_ble_eq_true rfl, Nat.le_of_ble_eq_true rfl⟩ ⟨Nat.le_of_ble_eq_true rfl, Nat.le_of_ble_eq_true rfl⟩ ?_
                refine r_iincN C dX2_through_97 rfl (by decide) rfl ?_
                refine r_goto (tgt := 25) C dX2_through_100 (by decide) ?_
                refine r_w (congrArg (fun z => WC cy a z (up2 (thR r (f 0 8) t (fun q => tvF (fun t => r (f 0 w) (f 3 w + t)) (r (f 0 v) (f 3 v + q)))) (f 0 8) (t) ((r (f 0 v) (f 3 v + t)))) kn ++ Y) (up2_up2 f 4 8 t (t + 1))) ?_
                refine r_w (congrArg (fun z => WC cy a (up2 f 4 8 (t + 1)) z kn ++ Y) (thR_step (by simp only [tvF]; first | rw [if_pos (by assumption)] | (rw [if_neg (Int32.not_lt.mpr (by assumption))] <;> rfl) | rw [if_pos (Int32.not_le.mp (by assumption))]))) ?_
                refine r_drop 5 ?_
                exact (Nat.not_lt_zero _ (by omega)).elim
          · exact absurd (hall t (by omega)) h63_2
    | succ d ih_L25 =>
      intro t ht
      refine r_iload C dX2_through_25 rfl ?_
      refine r_aload_n C dX2_through_27 rfl ?_
      refine s_get C 0 (by decide) qf_X2_11 rfl rfl dX2_through_28 ?_
      refine r_iload_n C dX2_through_31 rfl ?_
      refine s_parts C (by first | omega | (simp [up2, *]; done) | (simp [up2, *]; omega) | (simp only [up2_eq]; omega) | (split <;> omega)) dX2_through_32 ?_
      refine p_getN (v := .int (nI (f 4 v))) hX C hE 4 (by first | omega | (simp [up2, *]; done) | (simp [up2, *]; omega) | (simp only [up2_eq]; omega) | (split <;> omega)) (by decide) qn_X2_50 rfl (congrArg (fun z => some (Value.int (nI z))) (show (up2 f 4 8 t) 4 v = f 4 v by simp [up2, exL_at, dmF_at, *])) dX2_through_33 ?_
      refine r_icN_ge (a := t) (b := (f 4 v)) (tgt := 103) C (by first | omega | (simp [up2, *]; done) | (simp [up2, *]; omega) | (simp only [up2_eq]; omega) | (split <;> omega)) (by first | omega | (simp [up2, *]; done) | (simp [up2, *]; omega) | (simp only [up2_eq]; omega) | (split <;> omega)) dX2_through_36 (by decide) (fun h36_4 => ?_) (fun h36_4 => ?_)
      · first
        | exfalso; first | omega | contradiction
        | skip
          have e8 : t = f 4 v := by omega
          subst e8
          refine r_aload_n C dX2_through_103 rfl ?_
          refine r_iload_n C dX2_through_104 rfl ?_
          refine d_V (st := []) hX.stb C hE (C_becomeSpare (f := (up2 f 4 8 (f 4 v))) (r := (thR r (f 0 8) (f 4 v) (fun q => tvF (fun t => r (f 0 w) (f 3 w + t)) (r (f 0 v) (f 3 v + q))))) (kn := kn) (i := i) hX (by first | omega | (simp [up2, *]; done) | (simp [up2, *]; omega) | (simp only [up2_eq]; omega) | (split <;> omega)) (by first | omega | (simp [up2, *]; done) | (simp [up2, *]; omega) | (simp only [up2_eq]; omega) | (split <;> omega)) (by first | omega | (simp [up2, *]; done) | (simp [up2, *]; omega) | (simp only [up2_eq]; omega) | (split <;> omega)) hC.h1 hC.hG hC.hU hC.hI8 (by first | omega | (simp [up2, *]; done) | (simp [up2, *]; omega) | (simp only [up2_eq]; omega) | (split <;> omega)) (by rw [up2_eq]; omega)) pk_X2_becomeSpare qm_X2_136 0 6 rfl rfl wc_0 rfl rfl (Nat.le_of_ble_eq_true rfl) dX2_through_105 ⟨Nat.le_of_ble_eq_true rfl, Nat.le_of_ble_eq_true rfl⟩ ⟨Nat.le_of_ble_eq_true rfl, Nat.le_of_ble_eq_true rfl⟩ ?_
          exact r_iret C hr dX2_through_108 ⟨rfl, rfl⟩ (Nat.le_of_ble_eq_true rfl) (Nat.le_of_ble_eq_true rfl)
      · first
        | exfalso; first | omega | contradiction
        | skip
          refine r_aload_n C dX2_through_39 rfl ?_
          refine s_get C 0 (by decide) qf_X2_11 rfl rfl dX2_through_40 ?_
          refine r_iload_n C dX2_through_43 rfl ?_
          refine s_parts C (by first | omega | (simp [up2, *]; done) | (simp [up2, *]; omega) | (simp only [up2_eq]; omega) | (split <;> omega)) dX2_through_44 ?_
          refine r_iload C dX2_through_45 rfl ?_
          refine d_V (st := []) hX.stb C hE (C_itemAt (f := (up2 f 4 8 t)) (r := (thR r (f 0 8) t (fun q => tvF (fun t => r (f 0 w) (f 3 w + t)) (r (f 0 v) (f 3 v + q))))) (kn := kn) (i := v) (k := t) hX (by first | omega | (simp [up2, *]; done) | (simp [up2, *]; omega) | (simp only [up2_eq]; omega) | (split <;> omega)) (by first | omega | (simp [up2, *]; done) | (simp [up2, *]; omega) | (simp only [up2_eq]; omega) | (split <;> omega)) (by first | omega | (simp [up2, *]; done) | (simp [up2, *]; omega) | (simp only [up2_eq]; omega) | (split <;> omega))) pk_X1_itemAt qm_X2_65 (3 + v) 5 rfl rfl (wc_p (by first | omega | (simp [up2, *]; done) | (simp [up2, *]; omega) | (simp only [up2_eq]; omega) | (split <;> omega))) rfl rfl (Nat.le_of_ble_eq_true rfl) dX2_through_47 ⟨Nat.le_of_ble_eq_true rfl, Nat.le_of_ble_eq_true rfl⟩ ⟨Nat.le_of_ble_eq_true rfl, Nat.le_of_ble_eq_true rfl⟩ ?_
          refine r_eqi (y := r (f 0 v) (f 3 v + t)) (congrFun (thR_off (show f 0 v ≠ f 0 8 from q2_v.2.2.2.2.1)) _) ?_
          refine r_istore C dX2_through_50 (by decide) rfl ?_
          refine r_iload C dX2_through_52 rfl ?_
          refine r_aload_n C dX2_through_54 rfl ?_
          refine s_get C 0 (by decide) qf_X2_11 rfl rfl dX2_through_55 ?_
          refine r_iload_n C dX2_through_58 rfl ?_
          refine s_parts C (by first | omega | (simp [up2, *]; done) | (simp [up2, *]; omega) | (simp only [up2_eq]; omega) | (split <;> omega)) dX2_through_59 ?_
          refine p_getN (v := .int (nI (f 4 w))) hX C hE 4 (by first | omega | (simp [up2, *]; done) | (simp [up2, *]; omega) | (simp only [up2_eq]; omega) | (split <;> omega)) (by decide) qn_X2_50 rfl (congrArg (fun z => some (Value.int (nI z))) (show (up2 f 4 8 t) 4 w = f 4 w by simp [up2, exL_at, dmF_at, *])) dX2_through_60 ?_
          refine r_ic_lt (tgt := 69) C dX2_through_63 (by decide) (fun h63_5 => ?_) (fun h63_5 => ?_)
          · skip
            refine r_aload_n C dX2_through_69 rfl ?_
            refine s_get C 2 (by decide) qf_X2_29 rfl rfl dX2_through_70 ?_
            refine r_iload C dX2_through_73 rfl ?_
            refine r_if_ge (tgt := 83) C dX2_through_75 (by decide) (fun h75_6 => ?_) (fun h75_6 => ?_)
            · first
              | exfalso; first | omega | contradiction
              | skip
                refine r_aload_n C dX2_through_83 rfl ?_
                refine s_get C 0 (by decide) qf_X2_11 rfl rfl dX2_through_84 ?_
                refine r_iload_n C dX2_through_87 rfl ?_
                refine s_parts C (by first | omega | (simp [up2, *]; done) | (simp [up2, *]; omega) | (simp only [up2_eq]; omega) | (split <;> omega)) dX2_through_88 ?_
                refine r_iload C dX2_through_89 rfl ?_
                have hcl := cl_nI (by omega) (by assumption) (hall t (by omega))
                refine r_eqi hcl.1 ?_
                refine d_V (st := [.ref (a 1 8)]) hX.stb C hE (C_itemAt (f := (up2 f 4 8 t)) (r := (thR r (f 0 8) t (fun q => tvF (fun t => r (f 0 w) (f 3 w + t)) (r (f 0 v) (f 3 v + q))))) (kn := kn) (i := w) (k := ((r (f 0 v) (f 3 v + t)).toNatClampNeg)) hX (by first | omega | (simp [up2, *]; done) | (simp [up2, *]; omega) | (simp only [up2_eq]; omega) | (split <;> omega)) (by first | omega | (simp [up2, *]; done) | (simp [up2, *]; omega) | (simp only [up2_eq]; omega) | (split <;> omega)) (show f 3 w + (r (f 0 v) (f 3 v + t)).toNatClampNeg < 12 by omega)) pk_X1_itemAt qm_X2_65 (3 + w) 5 rfl rfl (wc_p (by first | omega | (simp [up2, *]; done) | (simp [up2, *]; omega) | (simp only [up2_eq]; omega) | (split <;> omega))) rfl rfl (Nat.le_of_ble_eq_true rfl) dX2_through_91 ⟨Nat.le_of_ble_eq_true rfl, Nat.le_of_ble_eq_true rfl⟩ ⟨Nat.le_of_ble_eq_true rfl, Nat.le_of_ble_eq_true rfl⟩ ?_
                refine r_eqi (y := r (f 0 w) (f 3 w + (r (f 0 v) (f 3 v + t)).toNatClampNeg)) (congrFun (thR_off (show f 0 w ≠ f 0 8 from q2_w.2.2.2.2.1)) _) ?_
                refine d_Vv (st := []) hX.stb C hE (C_append (f := (up2 f 4 8 t)) (r := (thR r (f 0 8) t (fun q => tvF (fun t => r (f 0 w) (f 3 w + t)) (r (f 0 v) (f 3 v + q))))) (kn := kn) (i := 8) (x := ((r (f 0 w) (f 3 w + (r (f 0 v) (f 3 v + t)).toNatClampNeg)))) hX (by first | omega | (simp [up2, *]; done) | (simp [up2, *]; omega) | (simp only [up2_eq]; omega) | (split <;> omega)) (by first | omega | (simp [up2, *]; done) | (simp [up2, *]; omega) | (simp only [up2_eq]; omega) | (split <;> omega)) (by first | omega | (simp [up2, *]; done) | (simp [up2, *]; omega) | (simp only [up2_eq]; omega) | (split <;> omega))) pk_X1_append qm_X2_141 (3 + 8) 5 rfl rfl (wc_p (by first | omega | (simp [up2, *]; done) | (simp [up2, *]; omega) | (simp only [up2_eq]; omega) | (split <;> omega))) rfl rfl (Nat.le_of_ble_eq_true rfl) dX2_through_94 ⟨Nat.le_of_ble_eq_true rfl, Nat.le_of_ble_eq_true rfl⟩ ⟨Nat.le_of_ble_eq_true rfl, Nat.le_of_ble_eq_true rfl⟩ ?_
                refine r_iincN C dX2_through_97 rfl (by decide) rfl ?_
                refine r_goto (tgt := 25) C dX2_through_100 (by decide) ?_
                refine r_w (congrArg (fun z => WC cy a z (up2 (thR r (f 0 8) t (fun q => tvF (fun t => r (f 0 w) (f 3 w + t)) (r (f 0 v) (f 3 v + q)))) (f 0 8) (t) ((r (f 0 w) (f 3 w + (r (f 0 v) (f 3 v + t)).toNatClampNeg)))) kn ++ Y) (up2_up2 f 4 8 t (t + 1))) ?_
                refine r_w (congrArg (fun z => WC cy a (up2 f 4 8 (t + 1)) z kn ++ Y) (thR_step (by simp only [tvF]; first | rw [if_pos (by assumption)] | (rw [if_neg (Int32.not_lt.mpr (by assumption))] <;> rfl) | rw [if_pos (Int32.not_le.mp (by assumption))]))) ?_
                refine r_drop 5 ?_
                exact ih_L25 (t + 1) (by omega)
            · first
              | exfalso; first | omega | contradiction
              | skip
                refine r_iload C dX2_through_78 rfl ?_
                refine r_goto (tgt := 94) C dX2_through_80 (by decide) ?_
                refine d_Vv (st := []) hX.stb C hE (C_append (f := (up2 f 4 8 t)) (r := (thR r (f 0 8) t (fun q => tvF (fun t => r (f 0 w) (f 3 w + t)) (r (f 0 v) (f 3 v + q))))) (kn := kn) (i := 8) (x := ((r (f 0 v) (f 3 v + t)))) hX (by first | omega | (simp [up2, *]; done) | (simp [up2, *]; omega) | (simp only [up2_eq]; omega) | (split <;> omega)) (by first | omega | (simp [up2, *]; done) | (simp [up2, *]; omega) | (simp only [up2_eq]; omega) | (split <;> omega)) (by first | omega | (simp [up2, *]; done) | (simp [up2, *]; omega) | (simp only [up2_eq]; omega) | (split <;> omega))) pk_X1_append qm_X2_141 (3 + 8) 5 rfl rfl (wc_p (by first | omega | (simp [up2, *]; done) | (simp [up2, *]; omega) | (simp only [up2_eq]; omega) | (split <;> omega))) rfl rfl (Nat.le_of_ble_eq_true rfl) dX2_through_94 ⟨Nat.le_of_ble_eq_true rfl, Nat.le_of_ble_eq_true rfl⟩ ⟨Nat.le_of_ble_eq_true rfl, Nat.le_of_ble_eq_true rfl⟩ ?_
                refine r_iincN C dX2_through_97 rfl (by decide) rfl ?_
                refine r_goto (tgt := 25) C dX2_through_100 (by decide) ?_
                refine r_w (congrArg (fun z => WC cy a z (up2 (thR r (f 0 8) t (fun q => tvF (fun t => r (f 0 w) (f 3 w + t)) (r (f 0 v) (f 3 v + q)))) (f 0 8) (t) ((r (f 0 v) (f 3 v + t)))) kn ++ Y) (up2_up2 f 4 8 t (t + 1))) ?_
                refine r_w (congrArg (fun z => WC cy a (up2 f 4 8 (t + 1)) z kn ++ Y) (thR_step (by simp only [tvF]; first | rw [if_pos (by assumption)] | (rw [if_neg (Int32.not_lt.mpr (by assumption))] <;> rfl) | rw [if_pos (Int32.not_le.mp (by assumption))]))) ?_
                refine r_drop 5 ?_
                exact ih_L25 (t + 1) (by omega)
          · exact absurd (hall t (by omega)) h63_5
  exact L25 (f 4 v) 0 (by omega)

