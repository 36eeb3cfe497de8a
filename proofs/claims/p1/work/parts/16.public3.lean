/-! CONTRACTS of the class: windows and cursors -/
theorem dX2_through_66 : decode cX2_through 66 = .ok (.bipush (-9), 2) := dqo_16 247 (by decide) (kb_X2_through_1 2 rfl) (kb_X2_through_1 3 rfl)
theorem dX2_through_68 : decode cX2_through 68 = .ok (.ireturn, 1) := dqo_172 (kb_X2_through_1 4 rfl)
set_option maxRecDepth 100000 in
set_option maxHeartbeats 4000000 in
theorem C_through_ref {l : Launch} {D : va_G} {cy : Nat → ClassId} {X : (Nat → Prop) → State → Heap → Prop} {a f : Nat → Nat → Nat} {r : Nat → Nat → Int32} {kn : Int32} {Y : va_W} {w : Nat} {v : Nat} {i : Nat} {m0 : Nat} (hX : EnvX X) (hC : CInv f) (hw : w < 8) (h5w : f 5 w = 1) (hv : v < 8) (h5v : f 5 v = 1) (hi4 : i < 4) (hm : m0 < f 4 v) (hall : ∀ q, q < m0 → r (f 0 v) (f 3 v + q) < nI (f 4 w)) (hno : nI (f 4 w) ≤ r (f 0 v) (f 3 v + m0)) : Cd l D cy X yX2_through cX2_through 6 (some .int) (rmz 6 240) [.ref (a 0 0), .int (nI w), .int (nI v), .int (nI i)] (WC cy a f r kn ++ Y) (some (.int (nI 4294967287))) (WC cy a (up2 f 4 8 m0) (thR r (f 0 8) m0 (fun q => tvF (fun t => r (f 0 w) (f 3 w + t)) (r (f 0 v) (f 3 v + q)))) kn ++ Y) := by
  have q3 := hC.sp
  have q1_w := hC.al hw
  have q2_w := hC.th hw h5w
  have q4_w := hC.rw (i := f 1 w) q1_w.2.1
  have q1_v := hC.al hv
  have q2_v := hC.th hv h5v
  have q4_v := hC.rw (i := f 1 v) q1_v.2.1
  have q1_i := hC.rw hi4
  have q2_i := hC.al (i := i) (by omega)
  have q6_i : f 4 (f 1 i) = f 4 i := by rw [q1_i.2.1]
  have ne_w : w ≠ 8 := by omega
  have ne_v : v ≠ 8 := by omega
  have ne_i : i ≠ 8 := by omega
  refine Cm.of [some (.ref (a 0 0)), some (.int (nI w)), some (.int (nI v)), some (.int (nI i)), none, none] pn_X2 rfl (Nat.le_of_ble_eq_true rfl) ?_
  intro p e s m args below meth c A C hE hr hnt hn
  refine r_aload_n C dX2_through_0 rfl ?_
  refine r_iload_n C dX2_through_1 rfl ?_
  refine d_Vv (st := []) hX.stb C hE (C_needWhere_ok (f := f) (r := r) (kn := kn) (w := w) hX (by first | omega | (simp [up2, *]; done) | (simp [up2, *]; omega) | (simp only [up2_eq]; omega) | (split <;> omega)) (by first | omega | (simp [up2, *]; done) | (simp [up2, *]; omega) | (simp only [up2_eq]; omega) | (split <;> omega))) pk_X2_needWhere qm_X2_39 0 6 rfl rfl wc_0 rfl rfl (Nat.le_of_ble_eq_true rfl) dX2_through_2 ⟨Nat.le_of_ble_eq_true rfl, Nat.le_of_ble_eq_true rfl⟩ ⟨Nat.le_of_ble_eq_true rfl, Nat.le_of_ble_eq_true rfl⟩ ?_
  refine r_aload_n C dX2_through_5 rfl ?_
  refine r_iload_n C dX2_through_6 rfl ?_
  refine d_Vv (st := []) hX.stb C hE (C_needWhere_ok (f := f) (r := r) (kn := kn) (w := v) hX (by first | omega | (simp [up2, *]; done) | (simp [up2, *]; omega) | (simp only [up2_eq]; omega) | (split <;> omega)) (by first | omega | (simp [up2, *]; done) | (simp [up2, *]; omega) | (simp only [up2_eq]; omega) | (split <;> omega))) pk_X2_needWhere qm_X2_39 0 6 rfl rfl wc_0 rfl rfl (Nat.le_of_ble_eq_true rfl) dX2_through_7 ⟨Nat.le_of_ble_eq_true rfl, Nat.le_of_ble_eq_true rfl⟩ ⟨Nat.le_of_ble_eq_true rfl, Nat.le_of_ble_eq_true rfl⟩ ?_
  refine r_iload_n C dX2_through_10 rfl ?_
  refine d_Sv (st := []) hX.stb C hE (C_needRow_ok (f := f) (r := r) (kn := kn) (k := i) hX (by first | omega | (simp [up2, *]; done) | (simp [up2, *]; omega) | (simp only [up2_eq]; omega) | (split <;> omega))) pk_X2_needRow qm_X2_126 rfl rfl (Nat.le_of_ble_eq_true rfl) dX2_through_11 ⟨Nat.le_of_ble_eq_true rfl, Nat.le_of_ble_eq_true rfl⟩ ⟨Nat.le_of_ble_eq_true rfl, Nat.le_of_ble_eq_true rfl⟩ ?_
  refine r_aload_n C dX2_through_14 rfl ?_
  refine s_get C 2 (by decide) qf_X2_29 rfl rfl dX2_through_15 ?_
  refine r_iconst (v := (nI 0)) C dX2_through_18 (by decide) ?_
  refine p_putN hX C hE 4 (by first | omega | (simp [up2, *]; done) | (simp [up2, *]; omega) | (simp only [up2_eq]; omega) | (split <;> omega)) (by decide) (by decide) qn_X2_50 rfl rfl rfl dX2_through_19 ?_
  refine r_iconst (v := (nI 0)) C dX2_through_22 (by decide) ?_
  refine r_istore C dX2_through_23 (by decide) rfl ?_
  refine r_w (congrArg (fun z => WC cy a (up2 f 4 8 0) z kn ++ Y) (thR_0 r (f 0 8) (fun q => tvF (fun t => r (f 0 w) (f 3 w + t)) (r (f 0 v) (f 3 v + q)))).symm) ?_
  have L25 : ∀ (d : Nat) (t : Nat), (ht : t + d = m0) → vC p l e (rmz 6 240) s m args below meth c D A (vx_MQ below (vG (fun v1 w1 => v1 = (some (.int (nI 4294967287))) ∧ w1 = WC cy a (up2 f 4 8 m0) (thR r (f 0 8) m0 (fun q => tvF (fun t => r (f 0 w) (f 3 w + t)) (r (f 0 v) (f 3 v + q)))) kn ++ Y) D vwCl A) (vGX (fun _ => False) D vwCl (WC cy a f r kn ++ Y) A) args s (rmz 6 240).cells (rmz 6 240).slots A) 6 0 0 (WC cy a (up2 f 4 8 t) (thR r (f 0 8) t (fun q => tvF (fun t => r (f 0 w) (f 3 w + t)) (r (f 0 v) (f 3 v + q)))) kn ++ Y) [some (.ref (a 0 0)), some (.int (nI w)), some (.int (nI v)), some (.int (nI i)), some (.int (nI t)), none] 25 [] := by
    intro d
    induction d with
    | zero =>
      intro t ht
      refine r_iload C dX2_through_25 rfl ?_
      refine r_aload_n C dX2_through_27 rfl ?_
      refine s_get C 0 (by decide) qf_X2_11 rfl rfl dX2_through_28 ?_
      refine r_iload_n C dX2_through_31 rfl ?_
      refine s_parts C (by first | omega | (simp [up2, *]; done) | (simp [up2, *]; omega) | (simp only [up2_eq]; omega) | (split <;> omega)) dX2_through_32 ?_
      refine p_getN (v := .int (nI (f 4 v))) hX C hE 4 (by first | omega | (simp [up2, *]; done) | (simp [up2, *]; omega) | (simp only [up2_eq]; omega) | (split <;> omega)) (by decide) qn_X2_50 rfl (congrArg (fun z => some (Value.int (nI z))) (show (up2 f 4 8 t) 4 v = f 4 v by simp [up2, exL_at, dmF_at, *])) dX2_through_33 ?_
      refine r_icN_ge (a := t) (b := (f 4 v)) (tgt := 103) C (by first | omega | (simp [up2, *]; done) | (simp [up2, *]; omega) | (simp only [up2_eq]; omega) | (split <;> omega)) (by first | omega | (simp [up2, *]; done) | (simp [up2, *]; omega) | (simp only [up2_eq]; omega) | (split <;> omega)) dX2_through_36 (by decide) (fun h36_1 => ?_) (fun h36_1 => ?_)
      · exact absurd h36_1 (by first | omega | (simp [up2, *]; done) | (simp [up2, *]; omega) | (simp only [up2_eq]; omega) | (split <;> omega))
      · skip
        refine r_aload_n C dX2_through_39 rfl ?_
        refine s_get C 0 (by decide) qf_X2_11 rfl rfl dX2_through_40 ?_
        refine r_iload_n C dX2_through_43 rfl ?_
        refine s_parts C (by first | omega | (simp [up2, *]; done) | (simp [up2, *]; omega) | (simp only [up2_eq]; omega) | (split <;> omega)) dX2_through_44 ?_
        refine r_iload C dX2_through_45 rfl ?_
        refine d_V (st := []) hX.stb C hE (C_itemAt (f := (up2 f 4 8 t)) (r := (thR r (f 0 8) t (fun q => tvF (fun t => r (f 0 w) (f 3 w + t)) (r (f 0 v) (f 3 v + q))))) (kn := kn) (i := v) (k := t) hX (by first | omega | (simp [up2, *]; done) | (simp [up2, *]; omega) | (simp only [up2_eq]; omega) | (split <;> omega)) (by first | omega | (simp [up2, *]; done) | (simp [up2, *]; omega) | (simp only [up2_eq]; omega) | (split <;> omega)) (by first | omega | (simp [up2, *]; done) | (simp [up2, *]; omega) | (simp only [up2_eq]; omega) | (split <;> omega))) pk_X1_itemAt qm_X2_65 (3 + v) 5 rfl rfl (wc_p (by first | omega | (simp [up2, *]; done) | (simp [up2, *]; omega) | (simp only [up2_eq]; omega) | (split <;> omega))) rfl rfl (Nat.le_of_ble_eq_true rfl) dX2_through_47 ⟨Nat.le_of_ble_eq_true rfl, Nat.le_of_ble_eq_true rfl⟩ ⟨Nat.le_of_ble_eq_true rfl, Nat.le_of_ble_eq_true rfl⟩ ?_
        refine r_eqi (y := r (f 0 v) (f 3 v + t)) (congrFun (thR_off (show f 0 v ≠ f 0 8 from q2_v.2.2.2.2.1)) _) ?_
        refine r_istore C dX2_through_50 (by decide) rfl ?_
        refine r_iload C dX2_through_52 rfl ?_
        refine r_aload_n C dX2_through_54 rfl ?_
        refine s_get C 0 (by decide) qf_X2_11 rfl rfl dX2_through_55 ?_
        refine r_iload_n C dX2_through_58 rfl ?_
        refine s_parts C (by first | omega | (simp [up2, *]; done) | (simp [up2, *]; omega) | (simp only [up2_eq]; omega) | (split <;> omega)) dX2_through_59 ?_
        refine p_getN (v := .int (nI (f 4 w))) hX C hE 4 (by first | omega | (simp [up2, *]; done) | (simp [up2, *]; omega) | (simp only [up2_eq]; omega) | (split <;> omega)) (by decide) qn_X2_50 rfl (congrArg (fun z => some (Value.int (nI z))) (show (up2 f 4 8 t) 4 w = f 4 w by simp [up2, exL_at, dmF_at, *])) dX2_through_60 ?_
        refine r_ic_lt (tgt := 69) C dX2_through_63 (by decide) (fun h63_2 => ?_) (fun h63_2 => ?_)
        · first
          | exfalso; first | omega | contradiction
          | skip
            have h8 : t < m0 := by
              rcases Nat.lt_or_ge t m0 with h8 | h8
              · exact h8
              · exact absurd (show r (f 0 v) (f 3 v + t) < nI (f 4 w) by assumption) (Int32.not_lt.mpr ((show t = m0 by omega) ▸ hno))
            refine r_aload_n C dX2_through_69 rfl ?_
            refine s_get C 2 (by decide) qf_X2_29 rfl rfl dX2_through_70 ?_
            refine r_iload C dX2_through_73 rfl ?_
            refine r_if_ge (tgt := 83) C dX2_through_75 (by decide) (fun h75_3 => ?_) (fun h75_3 => ?_)
            · first
              | exfalso; first | omega | contradiction
              | skip
                refine r_aload_n C dX2_through_83 rfl ?_
                refine s_get C 0 (by decide) qf_X2_11 rfl rfl dX2_through_84 ?_
                refine r_iload_n C dX2_through_87 rfl ?_
                refine s_parts C (by first | omega | (simp [up2, *]; done) | (simp [up2, *]; omega) | (simp only [up2_eq]; omega) | (split <;> omega)) dX2_through_88 ?_
                refine r_iload C dX2_through_89 rfl ?_
                have hcl := cl_nI (by omega) (by assumption) (hall t (by omega))
                refine r_eqi hcl.1 ?_
                refine d_V (st := [.ref (a 1 8)]) hX.stb C hE (C_itemAt (f := (up2 f 4 8 t)) (r := (thR r (f 0 8) t (fun q => tvF (fun t => r (f 0 w) (f 3 w + t)) (r (f 0 v) (f 3 v + q))))) (kn := kn) (i := w) (k := ((r (f 0 v) (f 3 v + t)).toNatClampNeg)) hX (by first | omega | (simp [up2, *]; done) | (simp [up2, *]; omega) | (simp only [up2_eq]; omega) | (split <;> omega)) (by first | omega | (simp [up2, *]; done) | (simp [up2, *]; omega) | (simp only [up2_eq]; omega) | (split <;> omega)) (show f 3 w + (r (f 0 v) (f 3 v + t)).toNatClampNeg < 12 by omega)) pk_X1_itemAt qm_X2_65 (3 + w) 5 rfl rfl (wc_p (by first | omega | (simp [up2, *]; done) | (simp [up2, *]; omega) | (simp only [up2_eq]; omega) | (split <;> omega))) rfl rfl (Nat.le_of_ble_eq_true rfl) dX2_through_91 ⟨Nat.le_of_ble_eq_true rfl, Nat.le_of_ble_eq_true rfl⟩ ⟨Nat.le_of_ble_eq_true rfl, Nat.le_of_ble_eq_true rfl⟩ ?_
                refine r_eqi (y := r (f 0 w) (f 3 w + (r (f 0 v) (f 3 v + t)).toNatClampNeg)) (congrFun (thR_off (show f 0 w ≠ f 0 8 from q2_w.2.2.2.2.1)) _) ?_
                refine d_Vv (st := []) hX.stb C hE (C_append (f := (up2 f 4 8 t)) (r := (thR r (f 0 8) t (fun q => tvF (fun t => r (f 0 w) (f 3 w + t)) (r (f 0 v) (f 3 v + q))))) (kn := kn) (i := 8) (x := ((r (f 0 w) (f 3 w + (r (f 0 v) (f 3 v + t)).toNatClampNeg)))) hX (by first | omega | (simp [up2, *]; done) | (simp [up2, *]; omega) | (simp only [up2_eq]; omega) | (split <;> omega)) (by first | omega | (simp [up2, *]; done) | (simp [up2, *]; omega) | (simp only [up2_eq]; omega) | (split <;> omega)) (by first | omega | (simp [up2, *]; done) | (simp [up2, *]; omega) | (simp only [up2_eq]; omega) | (split <;> omega))) pk_X1_append qm_X2_141 (3 + 8) 5 rfl rfl (wc_p (by first | omega | (simp [up2, *]; done) | (simp [up2, *]; omega) | (simp only [up2_eq]; omega) | (split <;> omega))) rfl rfl (Nat.le_of_ble_eq_true rfl) dX2_through_94 ⟨Nat.le_of_ble_eq_true rfl, Nat.le_of_ble_eq_true rfl⟩ ⟨Nat.le_of_ble_eq_true rfl, Nat.le_of_ble_eq_true rfl⟩ ?_
                refine r_iincN C dX2_through_97 rfl (by decide) rfl ?_
                refine r_goto (tgt := 25) C dX2_through_100 (by decide) ?_
                refine r_w (congrArg (fun z => WC cy a z (up2 (thR r (f 0 8) t (fun q => tvF (fun t => r (f 0 w) (f 3 w + t)) (r (f 0 v) (f 3 v + q)))) (f 0 8) (t) ((r (f 0 w) (f 3 w + (r (f 0 v) (f 3 v + t)).toNatClampNeg)))) kn ++ Y) (up2_up2 f 4 8 t (t + 1))) ?_
                refine r_w (congrArg (fun z => WC cy a (up2 f 4 8 (t + 1)) z kn ++ Y) (thR_step (by simp only [tvF]; first | rw [if_pos (by assumption)] | (rw [if_neg (Int32.not_lt.mpr (by assumption))] <;> rfl) | rw [if_pos (Int32.not_le.mp (by assumption))]))) ?_
                refine r_drop 5 ?_
                exact (Nat.not_lt_zero _ (by omega)).elim
            · first
              | exfalso; first | omega | contradiction
              | skip
                refine r_iload C dX2_through_78 rfl ?_
                refine r_goto (tgt := 94) C dX2_through_80 (by decide) ?_
                refine d_Vv (st := []) hX.stb C hE (C_append (f := (up2 f 4 8 t)) (r := (thR r (f 0 8) t (fun q => tvF (fun t => r (f 0 w) (f 3 w + t)) (r (f 0 v) (f 3 v + q))))) (kn := kn) (i := 8) (x := ((r (f 0 v) (f 3 v + t)))) hX (by first | omega | (simp [up2, *]; done) | (simp [up2, *]; omega) | (simp only [up2_eq]; omega) | (split <;> omega)) (by first | omega | (simp [up2, *]; done) | (simp [up2, *]; omega) | (simp only [up2_eq]; omega) | (split <;> omega)) (by first | omega | (simp [up2, *]; done) | (simp [up2, *]; omega) | (simp only [up2_eq]; omega) | (split <;> omega))) pk_X1_append qm_X2_141 (3 + 8) 5 rfl rfl (wc_p (by first | omega | (simp [up2, *]; done) | (simp [up2, *]; omega) | (simp only [up2_eq]; omega) | (split <;> omega))) rfl rfl (Nat.le_of_ble_eq_true rfl) dX2_through_94 ⟨Nat.le_of_ble_eq_true rfl, Nat.le_of_ble_eq_true rfl⟩ ⟨Nat.le_of_ble_eq_true rfl, Nat.le_of_ble_eq_true rfl⟩ ?_
                refine r_iincN C dX2_through_97 rfl (by decide) rfl ?_
                refine r_goto (tgt := 25) C dX2_through_100 (by decide) ?_
                refine r_w (congrArg (fun z => WC cy a z (up2 (thR r (f 0 8) t (fun q => tvF (fun t => r (f 0 w) (f 3 w + t)) (r (f 0 v) (f 3 v + q)))) (f 0 8) (t) ((r (f 0 v) (f 3 v + t)))) kn ++ Y) (up2_up2 f 4 8 t (t + 1))) ?_
                refine r_w (congrArg (fun z => WC cy a (up2 f 4 8 (t + 1)) z kn ++ Y) (thR_step (by simp only [tvF]; first | rw [if_pos (by assumption)] | (rw [if_neg (Int32.not_lt.mpr (by assumption))] <;> rfl) | rw [if_pos (Int32.not_le.mp (by assumption))]))) ?_
                refine r_drop 5 ?_
                exact (Nat.not_lt_zero _ (by omega)).elim
        · first
          | exfalso; first | omega | contradiction
          | skip
            have e8 : t = m0 := by
              rcases Nat.lt_or_ge t m0 with h8 | h8
              · exact absurd (hall t h8) (by assumption)
              · omega
            subst e8
            refine r_bipush (v := (nI 4294967287)) C dX2_through_66 (by decide) ?_
            exact r_iret C hr dX2_through_68 ⟨rfl, rfl⟩ (Nat.le_of_ble_eq_true rfl) (Nat.le_of_ble_eq_true rfl)
    | succ d ih_L25 =>
      intro t ht
      refine r_iload C dX2_through_25 rfl ?_
      refine r_aload_n C dX2_through_27 rfl ?_
      refine s_get C 0 (by decide) qf_X2_11 rfl rfl dX2_through_28 ?_
      refine r_iload_n C dX2_through_31 rfl ?_
      refine s_parts C (by first | omega | (simp [up2, *]; done) | (simp [up2, *]; omega) | (simp only [up2_eq]; omega) | (split <;> omega)) dX2_through_32 ?_
      refine p_getN (v := .int (nI (f 4 v))) hX C hE 4 (by first | omega | (simp [up2, *]; done) | (simp [up2, *]; omega) | (simp only [up2_eq]; omega) | (split <;> omega)) (by decide) qn_X2_50 rfl (congrArg (fun z => some (Value.int (nI z))) (show (up2 f 4 8 t) 4 v = f 4 v by simp [up2, exL_at, dmF_at, *])) dX2_through_33 ?_
      refine r_icN_ge (a := t) (b := (f 4 v)) (tgt := 103) C (by first | omega | (simp [up2, *]; done) | (simp [up2, *]; omega) | (simp only [up2_eq]; omega) | (split <;> omega)) (by first | omega | (simp [up2, *]; done) | (simp [up2, *]; omega) | (simp only [up2_eq]; omega) | (split <;> omega)) dX2_through_36 (by decide) (fun h36_4 => ?_) (fun h36_4 => ?_)
      · exact absurd h36_4 (by first | omega | (simp [up2, *]; done) | (simp [up2, *]; omega) | (simp only [up2_eq]; omega) | (split <;> omega))
      · skip
        refine r_aload_n C dX2_through_39 rfl ?_
        refine s_get C 0 (by decide) qf_X2_11 rfl rfl dX2_through_40 ?_
        refine r_iload_n C dX2_through_43 rfl ?_
        refine s_parts C (by first | omega | (simp [up2, *]; done) | (simp [up2, *]; omega) | (simp only [up2_eq]; omega) | (split <;> omega)) dX2_through_44 ?_
        refine r_iload C dX2_through_45 rfl ?_
        refine d_V (st := []) hX.stb C hE (C_itemAt (f := (up2 f 4 8 t)) (r := (thR r (f 0 8) t (fun q => tvF (fun t => r (f 0 w) (f 3 w + t)) (r (f 0 v) (f 3 v + q))))) (kn := kn) (i := v) (k := t) hX (by first | omega | (simp [up2, *]; done) | (simp [up2, *]; omega) | (simp only [up2_eq]; omega) | (split <;> omega)) (by first | omega | (simp [up2, *]; done) | (simp [up2, *]; omega) | (simp only [up2_eq]; omega) | (split <;> omega)) (by first | omega | (simp [up2, *]; done) | (simp [up2, *]; omega) | (simp only [up2_eq]; omega) | (split <;> omega))) pk_X1_itemAt qm_X2_65 (3 + v) 5 rfl rfl (wc_p (by first | omega | (simp [up2, *]; done) | (simp [up2, *]; omega) | (simp only [up2_eq]; omega) | (split <;> omega))) rfl rfl (Nat.le_of_ble_eq_true rfl) dX2_through_47 ⟨Nat.le_of_ble_eq_true rfl, Nat.le_of_ble_eq_true rfl⟩ ⟨Nat.le_of_ble_eq_true rfl, Nat.le_of_ble_eq_true rfl⟩ ?_
        refine r_eqi (y := r (f 0 v) (f 3 v + t)) (congrFun (thR_off (show f 0 v ≠ f 0 8 from q2_v.2.2.2.2.1)) _) ?_
        refine r_istore C dX2_through_50 (by decide) rfl ?_
        refine r_iload C dX2_through_52 rfl ?_
        refine r_aload_n C dX2_through_54 rfl ?_
        refine s_get C 0 (by decide) qf_X2_11 rfl rfl dX2_through_55 ?_
        refine r_iload_n C dX2_through_58 rfl ?_
        refine s_parts C (by first | omega | (simp [up2, *]; done) | (simp [up2, *]; omega) | (simp only [up2_eq]; omega) | (split <;> omega)) dX2_through_59 ?_
        refine p_getN (v := .int (nI (f 4 w))) hX C hE 4 (by first | omega | (simp [up2, *]; done) | (simp [up2, *]; omega) | (simp only [up2_eq]; omega) | (split <;> omega)) (by decide) qn_X2_50 rfl (congrArg (fun z => some (Value.int (nI z))) (show (up2 f 4 8 t) 4 w = f 4 w by simp [up2, exL_at, dmF_at, *])) dX2_through_60 ?_
        refine r_ic_lt (tgt := 69) C dX2_through_63 (by decide) (fun h63_5 => ?_) (fun h63_5 => ?_)
        · first
          | exfalso; first | omega | contradiction
          | skip
            have h8 : t < m0 := by
              rcases Nat.lt_or_ge t m0 with h8 | h8
              · exact h8
              · exact absurd (show r (f 0 v) (f 3 v + t) < nI (f 4 w) by assumption) (Int32.not_lt.mpr ((show t = m0 by omega) ▸ hno))
            refine r_aload_n C dX2_through_69 rfl ?_
            refine s_get C 2 (by decide) qf_X2_29 rfl rfl dX2_through_70 ?_
            refine r_iload C dX2_through_73 rfl ?_
            refine r_if_ge (tgt := 83) C dX2_through_75 (by decide) (fun h75_6 => ?_) (fun h75_6 => ?_)
            · first
              | exfalso; first | omega | contradiction
              | skip
                refine r_aload_n C dX2_through_83 rfl ?_
                refine s_get C 0 (by decide) qf_X2_11 rfl rfl dX2_through_84 ?_
                refine r_iload_n C dX2_through_87 rfl ?_
                refine s_parts C (by first | omega | (simp [up2, *]; done) | (simp [up2, *]; omega) | (simp only [up2_eq]; omega) | (split <;> omega)) dX2_through_88 ?_
                refine r_iload C dX2_through_89 rfl ?_
                have hcl := cl_nI (by omega) (by assumption) (hall t (by omega))
                refine r_eqi hcl.1 ?_
                refine d_V (st := [.ref (a 1 8)]) hX.stb C hE (C_itemAt (f := (up2 f 4 8 t)) (r := (thR r (f 0 8) t (fun q => tvF (fun t => r (f 0 w) (f 3 w + t)) (r (f 0 v) (f 3 v + q))))) (kn := kn) (i := w) (k := ((r (f 0 v) (f 3 v + t)).toNatClampNeg)) hX (by first | omega | (simp [up2, *]; done) | (simp [up2, *]; omega) | (simp only [up2_eq]; omega) | (split <;> omega)) (by first | omega | (simp [up2, *]; done) | (simp [up2, *]; omega) | (simp only [up2_eq]; omega) | (split <;> omega)) (show f 3 w + (r (f 0 v) (f 3 v + t)).toNatClampNeg < 12 by omega)) pk_X1_itemAt qm_X2_65 (3 + w) 5 rfl rfl (wc_p (by first | omega | (simp [up2, *]; done) | (simp [up2, *]; omega) | (simp only [up2_eq]; omega) | (split <;> omega))) rfl rfl (Nat.le_of_ble_eq_true rfl) dX2_through_91 ⟨Nat.le_of_ble_eq_true rfl, Nat.le_of_ble_eq_true rfl⟩ ⟨Nat.le_of_ble_eq_true rfl, Nat.le_of_ble_eq_true rfl⟩ ?_
                refine r_eqi (y := r (f 0 w) (f 3 w + (r (f 0 v) (f 3 v + t)).toNatClampNeg)) (congrFun (thR_off (show f 0 w ≠ f 0 8 from q2_w.2.2.2.2.1)) _) ?_
                refine d_Vv (st := []) hX.stb C hE (C_append (f := (up2 f 4 8 t)) (r := (thR r (f 0 8) t (fun q => tvF (fun t => r (f 0 w) (f 3 w + t)) (r (f 0 v) (f 3 v + q))))) (kn := kn) (i := 8) (x := ((r (f 0 w) (f 3 w + (r (f 0 v) (f 3 v + t)).toNatClampNeg)))) hX (by first | omega | (simp [up2, *]; done) | (simp [up2, *]; omega) | (simp only [up2_eq]; omega) | (split <;> omega)) (by first | omega | (simp [up2, *]; done) | (simp [up2, *]; omega) | (simp only [up2_eq]; omega) | (split <;> omega)) (by first | omega | (simp [up2, *]; done) | (simp [up2, *]; omega) | (simp only [up2_eq]; omega) | (split <;> omega))) pk_X1_append qm_X2_141 (3 + 8) 5 rfl rfl (wc_p (by first | omega | (simp [up2, *]; done) | (simp [up2, *]; omega) | (simp only [up2_eq]; omega) | (split <;> omega))) rfl rfl (Nat.le_of_ble_eq_true rfl) dX2_through_94 ⟨Nat.le_of_ble_eq_true rfl, Nat.le_of_ble_eq_true rfl⟩ ⟨Nat.le_of_ble_eq_true rfl, Nat.le_of_ble_eq_true rfl⟩ ?_
                refine r_iincN C dX2_through_97 rfl (by decide) rfl ?_
                refine r_goto (tgt := 25) C dX2_through_100 (by decide) ?_
                refine r_w (congrArg (fun z => WC cy a z (up2 (thR r (f 0 8) t (fun q => tvF (fun t => r (f 0 w) (f 3 w + t)) (r (f 0 v) (f 3 v + q)))) (f 0 8) (t) ((r (f 0 w) (f 3 w + (r (f 0 v) (f 3 v + t)).toNatClampNeg)))) kn ++ Y) (up2_up2 f 4 8 t (t + 1))) ?_
                refine r_w (congrArg (fun z => WC cy a (up2 f 4 8 (t + 1)) z kn ++ Y) (thR_step (by simp only [tvF]; first | rw [if_pos (by assumption)] | (rw [if_neg (Int32.not_lt.mpr (by assumption))] <;> rfl) | rw [if_pos (Int32.not_le.mp (by assumption))]))) ?_
                refine r_drop 5 ?_
                exact ih_L25 (t + 1) (by omega)
            · first
              | exfalso; first | omega | contradiction
              | skip
                refine r_iload C dX2_through_78 rfl ?_
                refine r_goto (tgt := 94) C dX2_through_80 (by decide) ?_
                refine d_Vv (st := []) hX.stb C hE (C_append (f := (up2 f 4 8 t)) (r := (thR r (f 0 8) t (fun q => tvF (fun t => r (f 0 w) (f 3 w + t)) (r (f 0 v) (f 3 v + q))))) (kn := kn) (i := 8) (x := ((r (f 0 v) (f 3 v + t)))) hX (by first | omega | (simp [up2, *]; done) | (simp [up2, *]; omega) | (simp only [up2_eq]; omega) | (split <;> omega)) (by first | omega | (simp [up2, *]; done) | (simp [up2, *]; omega) | (simp only [up2_eq]; omega) | (split <;> omega)) (by first | omega | (simp [up2, *]; done) | (simp [up2, *]; omega) | (simp only [up2_eq]; omega) | (split <;> omega))) pk_X1_append qm_X2_141 (3 + 8) 5 rfl rfl (wc_p (by first | omega | (simp [up2, *]; done) | (simp [up2, *]; omega) | (simp only [up2_eq]; omega) | (split <;> omega))) rfl rfl (Nat.le_of_ble_eq_true rfl) dX2_through_94 ⟨Nat.le_of_ble_eq_true rfl, Nat.le_of_ble_eq_true rfl⟩ ⟨Nat.le_of_ble_eq_true rfl, Nat.le_of_ble_eq_true rfl⟩ ?_
                refine r_iincN C dX2_through_97 rfl (by decide) rfl ?_
                refine r_goto (tgt := 25) C dX2_through_100 (by decide) ?_
                refine r_w (congrArg (fun z => WC cy a z (up2 (thR r (f 0 8) t (fun q => tvF (fun t => r (f 0 w) (f 3 w + t)) (r (f 0 v) (f 3 v + q)))) (f 0 8) (t) ((r (f 0 v) (f 3 v + t)))) kn ++ Y) (up2_up2 f 4 8 t (t + 1))) ?_
                refine r_w (congrArg (fun z => WC cy a (up2 f 4 8 (t + 1)) z kn ++ Y) (thR_step (by simp only [tvF]; first | rw [if_pos (by assumption)] | (rw [if_neg (Int32.not_lt.mpr (by assumption))] <;> rfl) | rw [if_pos (Int32.not_le.mp (by assumption))]))) ?_
                refine r_drop 5 ?_
                exact ih_L25 (t + 1) (by omega)
        · first
          | exfalso; first | omega | contradiction
          | skip
            have e8 : t = m0 := by
              rcases Nat.lt_or_ge t m0 with h8 | h8
              · exact absurd (hall t h8) (by assumption)
              · omega
            subst e8
            refine r_bipush (v := (nI 4294967287)) C dX2_through_66 (by decide) ?_
            exact r_iret C hr dX2_through_68 ⟨rfl, rfl⟩ (Nat.le_of_ble_eq_true rfl) (Nat.le_of_ble_eq_true rfl)
  exact L25 m0 0 (by omega)
theorem pk_X2_needWindow : PkS yX2_needWindow cX2_needWindow 1 none 1 := ⟨⟨qt_X2_needWindow, qz_X2, qc_X2_needWindow⟩, mh_X2.1, mh_X2.2, pd_6⟩
theorem dX2_window_0 : decode cX2_window 0 = .ok (.iload_n 1, 1) := dqo_27 (kb_X2_window_0 0 rfl)
theorem dX2_window_1 : decode cX2_window 1 = .ok (.invokestatic 179, 3) := dqo_184 0 179 (kb_X2_window_0 1 rfl) (kb_X2_window_0 2 rfl) (kb_X2_window_0 3 rfl)
set_option maxRecDepth 100000 in
set_option maxHeartbeats 4000000 in
theorem C_window_noK {l : Launch} {D : va_G} {cy : Nat → ClassId} {X : (Nat → Prop) → State → Heap → Prop} {a f : Nat → Nat → Nat} {r : Nat → Nat → Int32} {kn : Int32} {Y : va_W} {x : Int32} {y0 : Int32} {y1 : Int32} {y2 : Int32} (hX : EnvX X) (hl : l.stackTraces = false) (hC : CInv f) (hno : ¬ (0 ≤ x ∧ x < nI 4)) : Ce l D cy X yX2_window cX2_window 6 (some .int) (rmk 8 1 6 170) [.ref (a 0 0), .int x, .int y0, .int y1, .int y2] (WC cy a f r kn ++ Y) "java/lang/IndexOutOfBoundsException" := by
  have q3 := hC.sp
  refine Cm.of [some (.ref (a 0 0)), some (.int x), some (.int y0), some (.int y1), some (.int y2), none] pn_X2 rfl (Nat.le_of_ble_eq_true rfl) ?_
  intro p e s m args below meth c A C hE hr hnt hn
  refine r_iload_n C dX2_window_0 rfl ?_
  refine c_S (st := []) hX.stb C hE (C_needWindow_no (f := f) (r := r) (kn := kn) (x := (x)) hX hl hno) pk_X2_needWindow qm_X2_179 rfl rfl (Nat.le_of_ble_eq_true rfl) dX2_window_1 ⟨Nat.le_of_ble_eq_true rfl, Nat.le_of_ble_eq_true rfl⟩ ⟨Nat.le_of_ble_eq_true rfl, Nat.le_of_ble_eq_true rfl⟩ (fun _ _ h9 => h9.elim) (fun E9 h9 => ?_)
  subst h9
  exact r_out C hnt rfl rfl (Nat.le_of_ble_eq_true rfl) (Nat.le_of_ble_eq_true rfl)
theorem dX2_window_4 : decode cX2_window 4 = .ok (.aload_n 0, 1) := dqo_42 (kb_X2_window_0 4 rfl)
theorem dX2_window_5 : decode cX2_window 5 = .ok (.iload_n 2, 1) := dqo_28 (kb_X2_window_0 5 rfl)
theorem dX2_window_6 : decode cX2_window 6 = .ok (.invokevirtual 39, 3) := dqo_182 0 39 (kb_X2_window_0 6 rfl) (kb_X2_window_0 7 rfl) (kb_X2_window_0 8 rfl)
set_option maxRecDepth 100000 in
set_option maxHeartbeats 4000000 in
theorem C_window_noW {l : Launch} {D : va_G} {cy : Nat → ClassId} {X : (Nat → Prop) → State → Heap → Prop} {a f : Nat → Nat → Nat} {r : Nat → Nat → Int32} {kn : Int32} {Y : va_W} {k0 : Nat} {x : Int32} {y0 : Int32} {y : Int32} (hX : EnvX X) (hl : l.stackTraces = false) (hC : CInv f) (hk4 : k0 < 4) (hno : noW f x) : Ce l D cy X yX2_window cX2_window 6 (some .int) (rmk 8 1 6 170) [.ref (a 0 0), .int (nI k0), .int x, .int y0, .int y] (WC cy a f r kn ++ Y) "java/lang/IndexOutOfBoundsException" := by
  have q3 := hC.sp
  refine Cm.of [some (.ref (a 0 0)), some (.int (nI k0)), some (.int x), some (.int y0), some (.int y), none] pn_X2 rfl (Nat.le_of_ble_eq_true rfl) ?_
  intro p e s m args below meth c A C hE hr hnt hn
  refine r_iload_n C dX2_window_0 rfl ?_
  refine d_Sv (st := []) hX.stb C hE (C_needWindow_ok (f := f) (r := r) (kn := kn) (k := k0) hX (by first | omega | (simp [up2, *]; done) | (simp [up2, *]; omega) | (simp only [up2_eq]; omega) | (split <;> omega))) pk_X2_needWindow qm_X2_179 rfl rfl (Nat.le_of_ble_eq_true rfl) dX2_window_1 ⟨Nat.le_of_ble_eq_true rfl, Nat.le_of_ble_eq_true rfl⟩ ⟨Nat.le_of_ble_eq_true rfl, Nat.le_of_ble_eq_true rfl⟩ ?_
  refine r_aload_n C dX2_window_4 rfl ?_
  refine r_iload_n C dX2_window_5 rfl ?_
  refine c_V (st := []) hX.stb C hE (C_needWhere_no (f := f) (r := r) (kn := kn) (x := (x)) hX hl hno hC.h5) pk_X2_needWhere qm_X2_39 0 6 rfl rfl wc_0 rfl rfl (Nat.le_of_ble_eq_true rfl) dX2_window_6 ⟨Nat.le_of_ble_eq_true rfl, Nat.le_of_ble_eq_true rfl⟩ ⟨Nat.le_of_ble_eq_true rfl, Nat.le_of_ble_eq_true rfl⟩ (fun _ _ h9 => h9.elim) (fun E9 h9 => ?_)
  subst h9
  exact r_out C hnt rfl rfl (Nat.le_of_ble_eq_true rfl) (Nat.le_of_ble_eq_true rfl)
theorem dX2_window_9 : decode cX2_window 9 = .ok (.iconst 4, 1) := dqo_7 (kb_X2_window_0 9 rfl)
theorem dX2_window_10 : decode cX2_window 10 = .ok (.iload_n 1, 1) := dqo_27 (kb_X2_window_0 10 rfl)
theorem dX2_window_11 : decode cX2_window 11 = .ok (.iadd, 1) := dqo_96 (kb_X2_window_0 11 rfl)
theorem dX2_window_12 : decode cX2_window 12 = .ok (.istore 5, 2) := dqo_54 5 (kb_X2_window_0 12 rfl) (kb_X2_window_0 13 rfl)
theorem dX2_window_14 : decode cX2_window 14 = .ok (.aload_n 0, 1) := dqo_42 (kb_X2_window_0 14 rfl)
theorem dX2_window_15 : decode cX2_window 15 = .ok (.iload 5, 2) := dqo_21 5 (kb_X2_window_0 15 rfl) (kb_X2_window_0 16 rfl)
theorem dX2_window_17 : decode cX2_window 17 = .ok (.iload_n 2, 1) := dqo_28 (kb_X2_window_0 17 rfl)
theorem dX2_window_18 : decode cX2_window 18 = .ok (.invokevirtual 182, 3) := dqo_182 0 182 (kb_X2_window_0 18 rfl) (kb_X2_window_0 19 rfl) (kb_X2_window_0 20 rfl)
theorem dX2_window_21 : decode cX2_window 21 = .ok (.ifCond .eq 13, 3) := dqo_153 0 13 (by decide) (kb_X2_window_0 21 rfl) (kb_X2_window_0 22 rfl) (kb_X2_window_0 23 rfl)
theorem dX2_window_24 : decode cX2_window 24 = .ok (.new 147, 3) := dqo_187 0 147 (kb_X2_window_0 24 rfl) (kb_X2_window_0 25 rfl) (kb_X2_window_0 26 rfl)
theorem dX2_window_27 : decode cX2_window 27 = .ok (.dup, 1) := dqo_89 (kb_X2_window_0 27 rfl)
theorem dX2_window_28 : decode cX2_window 28 = .ok (.ldc 185, 2) := dqo_18 185 (kb_X2_window_0 28 rfl) (kb_X2_window_0 29 rfl)
theorem dX2_window_30 : decode cX2_window 30 = .ok (.invokespecial 151, 3) := dqo_183 0 151 (kb_X2_window_0 30 rfl) (kb_X2_window_0 31 rfl) (kb_X2_window_0 32 rfl)
theorem dX2_window_33 : decode cX2_window 33 = .ok (.athrow, 1) := dqo_191 (kb_X2_window_0 33 rfl)
set_option maxRecDepth 100000 in
set_option maxHeartbeats 4000000 in
theorem C_window_hold {l : Launch} {D : va_G} {cy : Nat → ClassId} {X : (Nat → Prop) → State → Heap → Prop} {a f : Nat → Nat → Nat} {r : Nat → Nat → Int32} {kn : Int32} {Y : va_W} {k0 : Nat} {w : Nat} {y0 : Int32} {y : Int32} (hX : EnvX X) (hl : l.stackTraces = false) (hC : CInv f) (hk4 : k0 < 4) (hw : w < 8) (h5w : f 5 w = 1) (hh : hol f (4 + k0) w ≠ 0) : Ce l D cy X yX2_window cX2_window 6 (some .int) (rmk 8 1 6 170) [.ref (a 0 0), .int (nI k0), .int (nI w), .int y0, .int y] (WC cy a f r kn ++ Y) "java/lang/IllegalStateException" := by
  have q3 := hC.sp
  have q1_w := hC.al hw
  have q2_w := hC.th hw h5w
  have q4_w := hC.rw (i := f 1 w) q1_w.2.1
  refine Cm.of [some (.ref (a 0 0)), some (.int (nI k0)), some (.int (nI w)), some (.int y0), some (.int y), none] pn_X2 rfl (Nat.le_of_ble_eq_true rfl) ?_
  intro p e s m args below meth c A C hE hr hnt hn
  refine r_iload_n C dX2_window_0 rfl ?_
  refine d_Sv (st := []) hX.stb C hE (C_needWindow_ok (f := f) (r := r) (kn := kn) (k := k0) hX (by first | omega | (simp [up2, *]; done) | (simp [up2, *]; omega) | (simp only [up2_eq]; omega) | (split <;> omega))) pk_X2_needWindow qm_X2_179 rfl rfl (Nat.le_of_ble_eq_true rfl) dX2_window_1 ⟨Nat.le_of_ble_eq_true rfl, Nat.le_of_ble_eq_true rfl⟩ ⟨Nat.le_of_ble_eq_true rfl, Nat.le_of_ble_eq_true rfl⟩ ?_
  refine r_aload_n C dX2_window_4 rfl ?_
  refine r_iload_n C dX2_window_5 rfl ?_
  refine d_Vv (st := []) hX.stb C hE (C_needWhere_ok (f := f) (r := r) (kn := kn) (w := w) hX (by first | omega | (simp [up2, *]; done) | (simp [up2, *]; omega) | (simp only [up2_eq]; omega) | (split <;> omega)) (by first | omega | (simp [up2, *]; done) | (simp [up2, *]; omega) | (simp only [up2_eq]; omega) | (split <;> omega))) pk_X2_needWhere qm_X2_39 0 6 rfl rfl wc_0 rfl rfl (Nat.le_of_ble_eq_true rfl) dX2_window_6 ⟨Nat.le_of_ble_eq_true rfl, Nat.le_of_ble_eq_true rfl⟩ ⟨Nat.le_of_ble_eq_true rfl, Nat.le_of_ble_eq_true rfl⟩ ?_
  refine r_iconst (v := (nI 4)) C dX2_window_9 (by decide) ?_
  refine r_iload_n C dX2_window_10 rfl ?_
  refine r_iaddN C dX2_window_11 ?_
  refine r_istore C dX2_window_12 (by decide) rfl ?_
  refine r_aload_n C dX2_window_14 rfl ?_
  refine r_iload C dX2_window_15 rfl ?_
  refine r_iload_n C dX2_window_17 rfl ?_
  refine d_V (st := []) hX.stb C hE (C_isHolder (f := f) (r := r) (kn := kn) (h := (4 + k0)) (w := w) hX (by first | omega | (simp [up2, *]; done) | (simp [up2, *]; omega) | (simp only [up2_eq]; omega) | (split <;> omega)) (by first | omega | (simp [up2, *]; done) | (simp [up2, *]; omega) | (simp only [up2_eq]; omega) | (split <;> omega)) hC.hG) pk_X2_isHolder qm_X2_182 0 6 rfl rfl wc_0 rfl rfl (Nat.le_of_ble_eq_true rfl) dX2_window_18 ⟨Nat.le_of_ble_eq_true rfl, Nat.le_of_ble_eq_true rfl⟩ ⟨Nat.le_of_ble_eq_true rfl, Nat.le_of_ble_eq_true rfl⟩ ?_
  refine r_ifN_eq (a := (hol f (4 + k0) w)) (tgt := 34) C (Nat.lt_of_le_of_lt (hol_le _ _ _) (by decide)) dX2_window_21 (by decide) (fun h21_1 => ?_) (fun h21_1 => ?_)
  · exact absurd h21_1 (by first | omega | (simp [up2, *]; done) | (simp [up2, *]; omega) | (simp only [up2_eq]; omega) | (split <;> omega))
  · skip
    exact r_throw (cls := "java/lang/IllegalStateException") (text := "a window can't be seen through at itself") (names := ["java/lang/RuntimeException", "java/lang/Exception"]) hX hl C hE hnt thr_X2_147_151 (by decide +kernel) (by decide +kernel) (by decide +kernel) dX2_window_24 dX2_window_27 dX2_window_28 dX2_window_30 dX2_window_33 (by decide) (Nat.le_of_ble_eq_true rfl) (Nat.le_of_ble_eq_true rfl) (Nat.le_of_ble_eq_true rfl) rfl rfl (Nat.le_of_ble_eq_true rfl) (Nat.le_of_ble_eq_true rfl)
theorem dX2_window_34 : decode cX2_window 34 = .ok (.aload_n 0, 1) := dqo_42 (kb_X2_window_0 34 rfl)
theorem dX2_window_35 : decode cX2_window 35 = .ok (.getfield 11, 3) := dqo_180 0 11 (kb_X2_window_0 35 rfl) (kb_X2_window_0 36 rfl) (kb_X2_window_0 37 rfl)
theorem dX2_window_38 : decode cX2_window 38 = .ok (.iload_n 2, 1) := dqo_28 (kb_X2_window_0 38 rfl)
theorem dX2_window_39 : decode cX2_window 39 = .ok (.aaload, 1) := dqo_50 (kb_X2_window_0 39 rfl)
theorem dX2_window_40 : decode cX2_window 40 = .ok (.iload_n 3, 1) := dqo_29 (kb_X2_window_0 40 rfl)
theorem dX2_window_41 : decode cX2_window 41 = .ok (.iload 4, 2) := dqo_21 4 (kb_X2_window_0 41 rfl) (kb_X2_window_0 42 rfl)
theorem dX2_window_43 : decode cX2_window 43 = .ok (.invokevirtual 75, 3) := dqo_182 0 75 (kb_X2_window_0 43 rfl) (kb_X2_window_0 44 rfl) (kb_X2_window_0 45 rfl)
theorem dX2_window_46 : decode cX2_window 46 = .ok (.ifCond .ne 6, 3) := dqo_154 0 6 (by decide) (kb_X2_window_0 46 rfl) (kb_X2_window_0 47 rfl) (kb_X2_window_0 48 rfl)
theorem dX2_window_49 : decode cX2_window 49 = .ok (.bipush (-9), 2) := dqo_16 247 (by decide) (kb_X2_window_0 49 rfl) (kb_X2_window_0 50 rfl)
theorem dX2_window_51 : decode cX2_window 51 = .ok (.ireturn, 1) := dqo_172 (kb_X2_window_0 51 rfl)
set_option maxRecDepth 100000 in
set_option maxHeartbeats 4000000 in
theorem C_window_ref {l : Launch} {D : va_G} {cy : Nat → ClassId} {X : (Nat → Prop) → State → Heap → Prop} {a f : Nat → Nat → Nat} {r : Nat → Nat → Int32} {kn : Int32} {Y : va_W} {k0 : Nat} {w : Nat} {y0 : Int32} {y : Int32} (hX : EnvX X) (hC : CInv f) (hk4 : k0 < 4) (hw : w < 8) (h5w : f 5 w = 1) (hh : hol f (4 + k0) w = 0) (hno : ¬ (0 ≤ y0 ∧ y0 ≤ y ∧ y ≤ nI (f 4 w))) : Cd l D cy X yX2_window cX2_window 6 (some .int) (rmz 6 240) [.ref (a 0 0), .int (nI k0), .int (nI w), .int y0, .int y] (WC cy a f r kn ++ Y) (some (.int (nI 4294967287))) (WC cy a f r kn ++ Y) := by
  have q3 := hC.sp
  have q1_w := hC.al hw
  have q2_w := hC.th hw h5w
  have q4_w := hC.rw (i := f 1 w) q1_w.2.1
  refine Cm.of [some (.ref (a 0 0)), some (.int (nI k0)), some (.int (nI w)), some (.int y0), some (.int y), none] pn_X2 rfl (Nat.le_of_ble_eq_true rfl) ?_
  intro p e s m args below meth c A C hE hr hnt hn
  refine r_iload_n C dX2_window_0 rfl ?_
  refine d_Sv (st := []) hX.stb C hE (C_needWindow_ok (f := f) (r := r) (kn := kn) (k := k0) hX (by first | omega | (simp [up2, *]; done) | (simp [up2, *]; omega) | (simp only [up2_eq]; omega) | (split <;> omega))) pk_X2_needWindow qm_X2_179 rfl rfl (Nat.le_of_ble_eq_true rfl) dX2_window_1 ⟨Nat.le_of_ble_eq_true rfl, Nat.le_of_ble_eq_true rfl⟩ ⟨Nat.le_of_ble_eq_true rfl, Nat.le_of_ble_eq_true rfl⟩ ?_
  refine r_aload_n C dX2_window_4 rfl ?_
  refine r_iload_n C dX2_window_5 rfl ?_
  refine d_Vv (st := []) hX.stb C hE (C_needWhere_ok (f := f) (r := r) (kn := kn) (w := w) hX (by first | omega | (simp [up2, *]; done) | (simp [up2, *]; omega) | (simp only [up2_eq]; omega) | (split <;> omega)) (by first | omega | (simp [up2, *]; done) | (simp [up2, *]; omega) | (simp only [up2_eq]; omega) | (split <;> omega))) pk_X2_needWhere qm_X2_39 0 6 rfl rfl wc_0 rfl rfl (Nat.le_of_ble_eq_true rfl) dX2_window_6 ⟨Nat.le_of_ble_eq_true rfl, Nat.le_of_ble_eq_true rfl⟩ ⟨Nat.le_of_ble_eq_true rfl, Nat.le_of_ble_eq_true rfl⟩ ?_
  refine r_iconst (v := (nI 4)) C dX2_window_9 (by decide) ?_
  refine r_iload_n C dX2_window_10 rfl ?_
  refine r_iaddN C dX2_window_11 ?_
  refine r_istore C dX2_window_12 (by decide) rfl ?_
  refine r_aload_n C dX2_window_14 rfl ?_
  refine r_iload C dX2_window_15 rfl ?_
  refine r_iload_n C dX2_window_17 rfl ?_
  refine d_V (st := []) hX.stb C hE (C_isHolder (f := f) (r := r) (kn := kn) (h := (4 + k0)) (w := w) hX (by first | omega | (simp [up2, *]; done) | (simp [up2, *]; omega) | (simp only [up2_eq]; omega) | (split <;> omega)) (by first | omega | (simp [up2, *]; done) | (simp [up2, *]; omega) | (simp only [up2_eq]; omega) | (split <;> omega)) hC.hG) pk_X2_isHolder qm_X2_182 0 6 rfl rfl wc_0 rfl rfl (Nat.le_of_ble_eq_true rfl) dX2_window_18 ⟨Nat.le_of_ble_eq_true rfl, Nat.le_of_ble_eq_true rfl⟩ ⟨Nat.le_of_ble_eq_true rfl, Nat.le_of_ble_eq_true rfl⟩ ?_
  refine r_ifN_eq (a := (hol f (4 + k0) w)) (tgt := 34) C (Nat.lt_of_le_of_lt (hol_le _ _ _) (by decide)) dX2_window_21 (by decide) (fun h21_1 => ?_) (fun h21_1 => ?_)
  · skip
    refine r_aload_n C dX2_window_34 rfl ?_
    refine s_get C 0 (by decide) qf_X2_11 rfl rfl dX2_window_35 ?_
    refine r_iload_n C dX2_window_38 rfl ?_
    refine s_parts C (by first | omega | (simp [up2, *]; done) | (simp [up2, *]; omega) | (simp only [up2_eq]; omega) | (split <;> omega)) dX2_window_39 ?_
    refine r_iload_n C dX2_window_40 rfl ?_
    refine r_iload C dX2_window_41 rfl ?_
    refine d_V (st := []) hX.stb C hE (C_isStretch0 (f := f) (r := r) (kn := kn) (i := w) (x := (y0)) (y := (y)) hX (by first | omega | (simp [up2, *]; done) | (simp [up2, *]; omega) | (simp only [up2_eq]; omega) | (split <;> omega)) hno) pk_X1_isStretch qm_X2_75 (3 + w) 5 rfl rfl (wc_p (by first | omega | (simp [up2, *]; done) | (simp [up2, *]; omega) | (simp only [up2_eq]; omega) | (split <;> omega))) rfl rfl (Nat.le_of_ble_eq_true rfl) dX2_window_43 ⟨Nat.le_of_ble_eq_true rfl, Nat.le_of_ble_eq_true rfl⟩ ⟨Nat.le_of_ble_eq_true rfl, Nat.le_of_ble_eq_true rfl⟩ ?_
    refine r_ifN_ne (a := 0) (tgt := 52) C (by first | omega | (simp [up2, *]; done) | (simp [up2, *]; omega) | (simp only [up2_eq]; omega) | (split <;> omega)) dX2_window_46 (by decide) (fun h46_2 => ?_) (fun h46_2 => ?_)
    · exact absurd h46_2 (by first | omega | (simp [up2, *]; done) | (simp [up2, *]; omega) | (simp only [up2_eq]; omega) | (split <;> omega))
    · skip
      refine r_bipush (v := (nI 4294967287)) C dX2_window_49 (by decide) ?_
      exact r_iret C hr dX2_window_51 ⟨rfl, rfl⟩ (Nat.le_of_ble_eq_true rfl) (Nat.le_of_ble_eq_true rfl)
  · exact absurd h21_1 (by first | omega | (simp [up2, *]; done) | (simp [up2, *]; omega) | (simp only [up2_eq]; omega) | (split <;> omega))
theorem pk_X1_lookAt : PkV RX1 yX1_lookAt cX1_lookAt 5 none 4 := ⟨⟨qi_X1_lookAt, qs_X1_lookAt, qz_X1, qc_X1_lookAt⟩, rfl, mh_X1.1, mh_X1.2, pd_15⟩
theorem pk_X2_dismissWindow : PkV RX2 yX2_dismissWindow cX2_dismissWindow 3 none 1 := ⟨⟨qi_X2_dismissWindow, qs_X2_dismissWindow, qz_X2, qc_X2_dismissWindow⟩, rfl, mh_X2.1, mh_X2.2, pd_6⟩
theorem dX2_window_52 : decode cX2_window 52 = .ok (.aload_n 0, 1) := dqo_42 (kb_X2_window_0 52 rfl)
theorem dX2_window_53 : decode cX2_window 53 = .ok (.iload 5, 2) := dqo_21 5 (kb_X2_window_0 53 rfl) (kb_X2_window_0 54 rfl)
theorem dX2_window_55 : decode cX2_window 55 = .ok (.invokevirtual 187, 3) := dqo_182 0 187 (kb_X2_window_0 55 rfl) (kb_X2_window_0 56 rfl) (kb_X2_window_0 57 rfl)
theorem dX2_window_58 : decode cX2_window 58 = .ok (.aload_n 0, 1) := dqo_42 (kb_X2_window_0 58 rfl)
theorem dX2_window_59 : decode cX2_window 59 = .ok (.getfield 11, 3) := dqo_180 0 11 (kb_X2_window_0 59 rfl) (kb_X2_window_0 60 rfl) (kb_X2_window_0 61 rfl)
theorem dX2_window_62 : decode cX2_window 62 = .ok (.iload 5, 2) := dqo_21 5 (kb_X2_window_0 62 rfl) (kb_X2_window_0 63 rfl)
theorem dX2_window_64 : decode cX2_window 64 = .ok (.aaload, 1) := dqo_50 (kb_X2_window_1 0 rfl)
theorem dX2_window_65 : decode cX2_window 65 = .ok (.aload_n 0, 1) := dqo_42 (kb_X2_window_1 1 rfl)
theorem dX2_window_66 : decode cX2_window 66 = .ok (.getfield 11, 3) := dqo_180 0 11 (kb_X2_window_1 2 rfl) (kb_X2_window_1 3 rfl) (kb_X2_window_1 4 rfl)
theorem dX2_window_69 : decode cX2_window 69 = .ok (.iload_n 2, 1) := dqo_28 (kb_X2_window_1 5 rfl)
theorem dX2_window_70 : decode cX2_window 70 = .ok (.aaload, 1) := dqo_50 (kb_X2_window_1 6 rfl)
theorem dX2_window_71 : decode cX2_window 71 = .ok (.iload_n 2, 1) := dqo_28 (kb_X2_window_1 7 rfl)
theorem dX2_window_72 : decode cX2_window 72 = .ok (.iload_n 3, 1) := dqo_29 (kb_X2_window_1 8 rfl)
theorem dX2_window_73 : decode cX2_window 73 = .ok (.iload 4, 2) := dqo_21 4 (kb_X2_window_1 9 rfl) (kb_X2_window_1 10 rfl)
theorem dX2_window_75 : decode cX2_window 75 = .ok (.invokevirtual 190, 3) := dqo_182 0 190 (kb_X2_window_1 11 rfl) (kb_X2_window_1 12 rfl) (kb_X2_window_1 13 rfl)
theorem dX2_window_78 : decode cX2_window 78 = .ok (.aload_n 0, 1) := dqo_42 (kb_X2_window_1 14 rfl)
theorem dX2_window_79 : decode cX2_window 79 = .ok (.getfield 11, 3) := dqo_180 0 11 (kb_X2_window_1 15 rfl) (kb_X2_window_1 16 rfl) (kb_X2_window_1 17 rfl)
theorem dX2_window_82 : decode cX2_window 82 = .ok (.iload 5, 2) := dqo_21 5 (kb_X2_window_1 18 rfl) (kb_X2_window_1 19 rfl)
theorem dX2_window_84 : decode cX2_window 84 = .ok (.aaload, 1) := dqo_50 (kb_X2_window_1 20 rfl)
theorem dX2_window_85 : decode cX2_window 85 = .ok (.getfield 50, 3) := dqo_180 0 50 (kb_X2_window_1 21 rfl) (kb_X2_window_1 22 rfl) (kb_X2_window_1 23 rfl)
theorem dX2_window_88 : decode cX2_window 88 = .ok (.ireturn, 1) := dqo_172 (kb_X2_window_1 24 rfl)
set_option maxRecDepth 100000 in
set_option maxHeartbeats 4000000 in
theorem C_window_ok {l : Launch} {D : va_G} {cy : Nat → ClassId} {X : (Nat → Prop) → State → Heap → Prop} {a f : Nat → Nat → Nat} {r : Nat → Nat → Int32} {kn : Int32} {Y : va_W} {k0 : Nat} {w : Nat} {p0 : Nat} {q0 : Nat} (hX : EnvX X) (hC : CInv f) (hk4 : k0 < 4) (hw : w < 8) (h5w : f 5 w = 1) (hh : hol f (4 + k0) w = 0) (hp : p0 ≤ q0) (hq : q0 ≤ f 4 w) : Cd l D cy X yX2_window cX2_window 6 (some .int) (rmz 6 240) [.ref (a 0 0), .int (nI k0), .int (nI w), .int (nI p0), .int (nI q0)] (WC cy a f r kn ++ Y) (some (.int (nI (q0 - p0)))) (WC cy a (up2 (up2 (up2 (up2 (up2 (up2 (dmF f (4 + k0) 8) 0 (4 + k0) (f 0 w)) 1 (4 + k0) (f 1 w)) 2 (4 + k0) w) 3 (4 + k0) (f 3 w + p0)) 4 (4 + k0) (q0 - p0)) 5 (4 + k0) 1) r kn ++ Y) := by
  have q3 := hC.sp
  have q1_w := hC.al hw
  have q2_w := hC.th hw h5w
  have q4_w := hC.rw (i := f 1 w) q1_w.2.1
  refine Cm.of [some (.ref (a 0 0)), some (.int (nI k0)), some (.int (nI w)), some (.int (nI p0)), some (.int (nI q0)), none] pn_X2 rfl (Nat.le_of_ble_eq_true rfl) ?_
  intro p e s m args below meth c A C hE hr hnt hn
  refine r_iload_n C dX2_window_0 rfl ?_
  refine d_Sv (st := []) hX.stb C hE (C_needWindow_ok (f := f) (r := r) (kn := kn) (k := k0) hX (by first | omega | (simp [up2, *]; done) | (simp [up2, *]; omega) | (simp only [up2_eq]; omega) | (split <;> omega))) pk_X2_needWindow qm_X2_179 rfl rfl (Nat.le_of_ble_eq_true rfl) dX2_window_1 ⟨Nat.le_of_ble_eq_true rfl, Nat.le_of_ble_eq_true rfl⟩ ⟨Nat.le_of_ble_eq_true rfl, Nat.le_of_ble_eq_true rfl⟩ ?_
  refine r_aload_n C dX2_window_4 rfl ?_
  refine r_iload_n C dX2_window_5 rfl ?_
  refine d_Vv (st := []) hX.stb C hE (C_needWhere_ok (f := f) (r := r) (kn := kn) (w := w) hX (by first | omega | (simp [up2, *]; done) | (simp [up2, *]; omega) | (simp only [up2_eq]; omega) | (split <;> omega)) (by first | omega | (simp [up2, *]; done) | (simp [up2, *]; omega) | (simp only [up2_eq]; omega) | (split <;> omega))) pk_X2_needWhere qm_X2_39 0 6 rfl rfl wc_0 rfl rfl (Nat.le_of_ble_eq_true rfl) dX2_window_6 ⟨Nat.le_of_ble_eq_true rfl, Nat.le_of_ble_eq_true rfl⟩ ⟨Nat.le_of_ble_eq_true rfl, Nat.le_of_ble_eq_true rfl⟩ ?_
  refine r_iconst (v := (nI 4)) C dX2_window_9 (by decide) ?_
  refine r_iload_n C dX2_window_10 rfl ?_
  refine r_iaddN C dX2_window_11 ?_
  refine r_istore C dX2_window_12 (by decide) rfl ?_
  refine r_aload_n C dX2_window_14 rfl ?_
  refine r_iload C dX2_window_15 rfl ?_
  refine r_iload_n C dX2_window_17 rfl ?_
  refine d_V (st := []) hX.stb C hE (C_isHolder (f := f) (r := r) (kn := kn) (h := (4 + k0)) (w := w) hX (by first | omega | (simp [up2, *]; done) | (simp [up2, *]; omega) | (simp only [up2_eq]; omega) | (split <;> omega)) (by first | omega | (simp [up2, *]; done) | (simp [up2, *]; omega) | (simp only [up2_eq]; omega) | (split <;> omega)) hC.hG) pk_X2_isHolder qm_X2_182 0 6 rfl rfl wc_0 rfl rfl (Nat.le_of_ble_eq_true rfl) dX2_window_18 ⟨Nat.le_of_ble_eq_true rfl, Nat.le_of_ble_eq_true rfl⟩ ⟨Nat.le_of_ble_eq_true rfl, Nat.le_of_ble_eq_true rfl⟩ ?_
  refine r_ifN_eq (a := (hol f (4 + k0) w)) (tgt := 34) C (Nat.lt_of_le_of_lt (hol_le _ _ _) (by decide)) dX2_window_21 (by decide) (fun h21_1 => ?_) (fun h21_1 => ?_)
  · skip
    refine r_aload_n C dX2_window_34 rfl ?_
    refine s_get C 0 (by decide) qf_X2_11 rfl rfl dX2_window_35 ?_
    refine r_iload_n C dX2_window_38 rfl ?_
    refine s_parts C (by first | omega | (simp [up2, *]; done) | (simp [up2, *]; omega) | (simp only [up2_eq]; omega) | (split <;> omega)) dX2_window_39 ?_
    refine r_iload_n C dX2_window_40 rfl ?_
    refine r_iload C dX2_window_41 rfl ?_
    refine d_V (st := []) hX.stb C hE (C_isStretch1 (f := f) (r := r) (kn := kn) (i := w) (p0 := p0) (q0 := q0) hX (by first | omega | (simp [up2, *]; done) | (simp [up2, *]; omega) | (simp only [up2_eq]; omega) | (split <;> omega)) (by first | omega | (simp [up2, *]; done) | (simp [up2, *]; omega) | (simp only [up2_eq]; omega) | (split <;> omega)) (by first | omega | (simp [up2, *]; done) | (simp [up2, *]; omega) | (simp only [up2_eq]; omega) | (split <;> omega)) (by first | omega | (simp [up2, *]; done) | (simp [up2, *]; omega) | (simp only [up2_eq]; omega) | (split <;> omega))) pk_X1_isStretch qm_X2_75 (3 + w) 5 rfl rfl (wc_p (by first | omega | (simp [up2, *]; done) | (simp [up2, *]; omega) | (simp only [up2_eq]; omega) | (split <;> omega))) rfl rfl (Nat.le_of_ble_eq_true rfl) dX2_window_43 ⟨Nat.le_of_ble_eq_true rfl, Nat.le_of_ble_eq_true rfl⟩ ⟨Nat.le_of_ble_eq_true rfl, Nat.le_of_ble_eq_true rfl⟩ ?_
    refine r_ifN_ne (a := 1) (tgt := 52) C (by first | omega | (simp [up2, *]; done) | (simp [up2, *]; omega) | (simp only [up2_eq]; omega) | (split <;> omega)) dX2_window_46 (by decide) (fun h46_2 => ?_) (fun h46_2 => ?_)
    · skip
      refine r_aload_n C dX2_window_52 rfl ?_
      refine r_iload C dX2_window_53 rfl ?_
      refine d_Vv (st := []) hX.stb C hE (C_dismissWindow (f := f) (r := r) (kn := kn) (i := (4 + k0)) hX (by first | omega | (simp [up2, *]; done) | (simp [up2, *]; omega) | (simp only [up2_eq]; omega) | (split <;> omega)) hC.hU hC.hG hC.h5) pk_X2_dismissWindow qm_X2_187 0 6 rfl rfl wc_0 rfl rfl (Nat.le_of_ble_eq_true rfl) dX2_window_55 ⟨Nat.le_of_ble_eq_true rfl, Nat.le_of_ble_eq_true rfl⟩ ⟨Nat.le_of_ble_eq_true rfl, Nat.le_of_ble_eq_true rfl⟩ ?_
      refine r_aload_n C dX2_window_58 rfl ?_
      refine s_get C 0 (by decide) qf_X2_11 rfl rfl dX2_window_59 ?_
      refine r_iload C dX2_window_62 rfl ?_
      refine s_parts C (by first | omega | (simp [up2, *]; done) | (simp [up2, *]; omega) | (simp only [up2_eq]; omega) | (split <;> omega)) dX2_window_64 ?_
      refine r_aload_n C dX2_window_65 rfl ?_
      refine s_get C 0 (by decide) qf_X2_11 rfl rfl dX2_window_66 ?_
      refine r_iload_n C dX2_window_69 rfl ?_
      refine s_parts C (by first | omega | (simp [up2, *]; done) | (simp [up2, *]; omega) | (simp only [up2_eq]; omega) | (split <;> omega)) dX2_window_70 ?_
      refine r_iload_n C dX2_window_71 rfl ?_
      refine r_iload_n C dX2_window_72 rfl ?_
      refine r_iload C dX2_window_73 rfl ?_
      refine d_Vv (st := []) hX.stb C hE (C_lookAt (f := (dmF f (4 + k0) 8)) (r := r) (kn := kn) (i := (4 + k0)) (j := w) (w := w) (p0 := p0) (q0 := q0) hX (by first | omega | (simp [up2, *]; done) | (simp [up2, *]; omega) | (simp only [up2_eq]; omega) | (split <;> omega)) (by first | omega | (simp [up2, *]; done) | (simp [up2, *]; omega) | (simp only [up2_eq]; omega) | (split <;> omega)) (by first | omega | (simp [up2, *]; done) | (simp [up2, *]; omega) | (simp only [up2_eq]; omega) | (split <;> omega))) pk_X1_lookAt qm_X2_190 (3 + (4 + k0)) 5 rfl rfl (wc_p (by first | omega | (simp [up2, *]; done) | (simp [up2, *]; omega) | (simp only [up2_eq]; omega) | (split <;> omega))) rfl rfl (Nat.le_of_ble_eq_true rfl) dX2_window_75 ⟨Nat.le_of_ble_eq_true rfl, Nat.le_of_ble_eq_true rfl⟩ ⟨Nat.le_of_ble_eq_true rfl, Nat.le_of_ble_eq_true rfl⟩ ?_
      refine r_aload_n C dX2_window_78 rfl ?_
      refine s_get C 0 (by decide) qf_X2_11 rfl rfl dX2_window_79 ?_
      refine r_iload C dX2_window_82 rfl ?_
      refine s_parts C (by first | omega | (simp [up2, *]; done) | (simp [up2, *]; omega) | (simp only [up2_eq]; omega) | (split <;> omega)) dX2_window_84 ?_
      refine p_getN (v := .int (nI (q0 - p0))) hX C hE 4 (by first | omega | (simp [up2, *]; done) | (simp [up2, *]; omega) | (simp only [up2_eq]; omega) | (split <;> omega)) (by decide) qn_X2_50 rfl (congrArg (fun z => some (Value.int (nI z))) (show (up2 (up2 (up2 (up2 (up2 (dmF f (4 + k0) 8) 0 (4 + k0) (f 0 w)) 1 (4 + k0) (f 1 w)) 2 (4 + k0) w) 3 (4 + k0) (f 3 w + p0)) 4 (4 + k0) (q0 - p0)) 4 (4 + k0) = q0 - p0 by simp [up2, exL_at, dmF_at, *])) dX2_window_85 ?_
      exact r_iret C hr dX2_window_88 ⟨rfl, rfl⟩ (Nat.le_of_ble_eq_true rfl) (Nat.le_of_ble_eq_true rfl)
    · exact absurd h46_2 (by first | omega | (simp [up2, *]; done) | (simp [up2, *]; omega) | (simp only [up2_eq]; omega) | (split <;> omega))
  · exact absurd h21_1 (by first | omega | (simp [up2, *]; done) | (simp [up2, *]; omega) | (simp only [up2_eq]; omega) | (split <;> omega))
theorem dX2_close_0 : decode cX2_close 0 = .ok (.iload_n 1, 1) := dqo_27 (kb_of ke_X2_close 0 rfl)
theorem dX2_close_1 : decode cX2_close 1 = .ok (.invokestatic 179, 3) := dqo_184 0 179 (kb_of ke_X2_close 1 rfl) (kb_of ke_X2_close 2 rfl) (kb_of ke_X2_close 3 rfl)
set_option maxRecDepth 100000 in
set_option maxHeartbeats 4000000 in
theorem C_close_noK {l : Launch} {D : va_G} {cy : Nat → ClassId} {X : (Nat → Prop) → State → Heap → Prop} {a f : Nat → Nat → Nat} {r : Nat → Nat → Int32} {kn : Int32} {Y : va_W} {x : Int32} (hX : EnvX X) (hl : l.stackTraces = false) (hC : CInv f) (hno : ¬ (0 ≤ x ∧ x < nI 4)) : Ce l D cy X yX2_close cX2_close 2 (some .int) (rmk 8 1 6 170) [.ref (a 0 0), .int x] (WC cy a f r kn ++ Y) "java/lang/IndexOutOfBoundsException" := by
  have q3 := hC.sp
  refine Cm.of [some (.ref (a 0 0)), some (.int x)] pn_X2 rfl (Nat.le_of_ble_eq_true rfl) ?_
  intro p e s m args below meth c A C hE hr hnt hn
  refine r_iload_n C dX2_close_0 rfl ?_
  refine c_S (st := []) hX.stb C hE (C_needWindow_no (f := f) (r := r) (kn := kn) (x := (x)) hX hl hno) pk_X2_needWindow qm_X2_179 rfl rfl (Nat.le_of_ble_eq_true rfl) dX2_close_1 ⟨Nat.le_of_ble_eq_true rfl, Nat.le_of_ble_eq_true rfl⟩ ⟨Nat.le_of_ble_eq_true rfl, Nat.le_of_ble_eq_true rfl⟩ (fun _ _ h9 => h9.elim) (fun E9 h9 => ?_)
  subst h9
  exact r_out C hnt rfl rfl (Nat.le_of_ble_eq_true rfl) (Nat.le_of_ble_eq_true rfl)
theorem dX2_close_4 : decode cX2_close 4 = .ok (.aload_n 0, 1) := dqo_42 (kb_of ke_X2_close 4 rfl)
theorem dX2_close_5 : decode cX2_close 5 = .ok (.getfield 11, 3) := dqo_180 0 11 (kb_of ke_X2_close 5 rfl) (kb_of ke_X2_close 6 rfl) (kb_of ke_X2_close 7 rfl)
theorem dX2_close_8 : decode cX2_close 8 = .ok (.iconst 4, 1) := dqo_7 (kb_of ke_X2_close 8 rfl)
theorem dX2_close_9 : decode cX2_close 9 = .ok (.iload_n 1, 1) := dqo_27 (kb_of ke_X2_close 9 rfl)
theorem dX2_close_10 : decode cX2_close 10 = .ok (.iadd, 1) := dqo_96 (kb_of ke_X2_close 10 rfl)
theorem dX2_close_11 : decode cX2_close 11 = .ok (.aaload, 1) := dqo_50 (kb_of ke_X2_close 11 rfl)
theorem dX2_close_12 : decode cX2_close 12 = .ok (.getfield 194, 3) := dqo_180 0 194 (kb_of ke_X2_close 12 rfl) (kb_of ke_X2_close 13 rfl) (kb_of ke_X2_close 14 rfl)
theorem dX2_close_15 : decode cX2_close 15 = .ok (.ifCond .ne 6, 3) := dqo_154 0 6 (by decide) (kb_of ke_X2_close 15 rfl) (kb_of ke_X2_close 16 rfl) (kb_of ke_X2_close 17 rfl)
theorem dX2_close_18 : decode cX2_close 18 = .ok (.bipush (-9), 2) := dqo_16 247 (by decide) (kb_of ke_X2_close 18 rfl) (kb_of ke_X2_close 19 rfl)
theorem dX2_close_20 : decode cX2_close 20 = .ok (.ireturn, 1) := dqo_172 (kb_of ke_X2_close 20 rfl)
set_option maxRecDepth 100000 in
set_option maxHeartbeats 4000000 in
theorem C_close_ref {l : Launch} {D : va_G} {cy : Nat → ClassId} {X : (Nat → Prop) → State → Heap → Prop} {a f : Nat → Nat → Nat} {r : Nat → Nat → Int32} {kn : Int32} {Y : va_W} {k0 : Nat} (hX : EnvX X) (hC : CInv f) (hk4 : k0 < 4) (hz : f 5 (4 + k0) = 0) : Cd l D cy X yX2_close cX2_close 2 (some .int) (rmz 6 240) [.ref (a 0 0), .int (nI k0)] (WC cy a f r kn ++ Y) (some (.int (nI 4294967287))) (WC cy a f r kn ++ Y) := by
  have q3 := hC.sp
  refine Cm.of [some (.ref (a 0 0)), some (.int (nI k0))] pn_X2 rfl (Nat.le_of_ble_eq_true rfl) ?_
  intro p e s m args below meth c A C hE hr hnt hn
  refine r_iload_n C dX2_close_0 rfl ?_
  refine d_Sv (st := []) hX.stb C hE (C_needWindow_ok (f := f) (r := r) (kn := kn) (k := k0) hX (by first | omega | (simp [up2, *]; done) | (simp [up2, *]; omega) | (simp only [up2_eq]; omega) | (split <;> omega))) pk_X2_needWindow qm_X2_179 rfl rfl (Nat.le_of_ble_eq_true rfl) dX2_close_1 ⟨Nat.le_of_ble_eq_true rfl, Nat.le_of_ble_eq_true rfl⟩ ⟨Nat.le_of_ble_eq_true rfl, Nat.le_of_ble_eq_true rfl⟩ ?_
  refine r_aload_n C dX2_close_4 rfl ?_
  refine s_get C 0 (by decide) qf_X2_11 rfl rfl dX2_close_5 ?_
  refine r_iconst (v := (nI 4)) C dX2_close_8 (by decide) ?_
  refine r_iload_n C dX2_close_9 rfl ?_
  refine r_iaddN C dX2_close_10 ?_
  refine s_parts C (by first | omega | (simp [up2, *]; done) | (simp [up2, *]; omega) | (simp only [up2_eq]; omega) | (split <;> omega)) dX2_close_11 ?_
  refine p_getN (v := .int (nI (f 5 (4 + k0)))) hX C hE 5 (by first | omega | (simp [up2, *]; done) | (simp [up2, *]; omega) | (simp only [up2_eq]; omega) | (split <;> omega)) (by decide) qn_X2_194 rfl rfl dX2_close_12 ?_
  refine r_ifN_ne (a := (f 5 (4 + k0))) (tgt := 21) C (by first | omega | (simp [up2, *]; done) | (simp [up2, *]; omega) | (simp only [up2_eq]; omega) | (split <;> omega)) dX2_close_15 (by decide) (fun h15_1 => ?_) (fun h15_1 => ?_)
  · exact absurd h15_1 (by first | omega | (simp [up2, *]; done) | (simp [up2, *]; omega) | (simp only [up2_eq]; omega) | (split <;> omega))
  · skip
    refine r_bipush (v := (nI 4294967287)) C dX2_close_18 (by decide) ?_
    exact r_iret C hr dX2_close_20 ⟨rfl, rfl⟩ (Nat.le_of_ble_eq_true rfl) (Nat.le_of_ble_eq_true rfl)
theorem pk_X2_windowsThere : PkV RX2 yX2_windowsThere cX2_windowsThere 3 (some .int) 0 := ⟨⟨qi_X2_windowsThere, qs_X2_windowsThere, qz_X2, qc_X2_windowsThere⟩, rfl, mh_X2.1, mh_X2.2, pd_10⟩
theorem dX2_close_21 : decode cX2_close 21 = .ok (.aload_n 0, 1) := dqo_42 (kb_of ke_X2_close 21 rfl)
theorem dX2_close_22 : decode cX2_close 22 = .ok (.iconst 4, 1) := dqo_7 (kb_of ke_X2_close 22 rfl)
theorem dX2_close_23 : decode cX2_close 23 = .ok (.iload_n 1, 1) := dqo_27 (kb_of ke_X2_close 23 rfl)
theorem dX2_close_24 : decode cX2_close 24 = .ok (.iadd, 1) := dqo_96 (kb_of ke_X2_close 24 rfl)
theorem dX2_close_25 : decode cX2_close 25 = .ok (.invokevirtual 187, 3) := dqo_182 0 187 (kb_of ke_X2_close 25 rfl) (kb_of ke_X2_close 26 rfl) (kb_of ke_X2_close 27 rfl)
theorem dX2_close_28 : decode cX2_close 28 = .ok (.aload_n 0, 1) := dqo_42 (kb_of ke_X2_close 28 rfl)
theorem dX2_close_29 : decode cX2_close 29 = .ok (.invokevirtual 198, 3) := dqo_182 0 198 (kb_of ke_X2_close 29 rfl) (kb_of ke_X2_close 30 rfl) (kb_of ke_X2_close 31 rfl)
theorem dX2_close_32 : decode cX2_close 32 = .ok (.ireturn, 1) := dqo_172 (kb_of ke_X2_close 32 rfl)
set_option maxRecDepth 100000 in
set_option maxHeartbeats 4000000 in
theorem C_close_ok {l : Launch} {D : va_G} {cy : Nat → ClassId} {X : (Nat → Prop) → State → Heap → Prop} {a f : Nat → Nat → Nat} {r : Nat → Nat → Int32} {kn : Int32} {Y : va_W} {k0 : Nat} (hX : EnvX X) (hC : CInv f) (hk4 : k0 < 4) (hz : f 5 (4 + k0) = 1) : Cd l D cy X yX2_close cX2_close 2 (some .int) (rmz 6 240) [.ref (a 0 0), .int (nI k0)] (WC cy a f r kn ++ Y) (some (.int (nI (smF ((dmF f (4 + k0) 8) 5) 4 4 0)))) (WC cy a (dmF f (4 + k0) 8) r kn ++ Y) := by
  have q3 := hC.sp
  refine Cm.of [some (.ref (a 0 0)), some (.int (nI k0))] pn_X2 rfl (Nat.le_of_ble_eq_true rfl) ?_
  intro p e s m args below meth c A C hE hr hnt hn
  refine r_iload_n C dX2_close_0 rfl ?_
  refine d_Sv (st := []) hX.stb C hE (C_needWindow_ok (f := f) (r := r) (kn := kn) (k := k0) hX (by first | omega | (simp [up2, *]; done) | (simp [up2, *]; omega) | (simp only [up2_eq]; omega) | (split <;> omega))) pk_X2_needWindow qm_X2_179 rfl rfl (Nat.le_of_ble_eq_true rfl) dX2_close_1 ⟨Nat.le_of_ble_eq_true rfl, Nat.le_of_ble_eq_true rfl⟩ ⟨Nat.le_of_ble_eq_true rfl, Nat.le_of_ble_eq_true rfl⟩ ?_
  refine r_aload_n C dX2_close_4 rfl ?_
  refine s_get C 0 (by decide) qf_X2_11 rfl rfl dX2_close_5 ?_
  refine r_iconst (v := (nI 4)) C dX2_close_8 (by decide) ?_
  refine r_iload_n C dX2_close_9 rfl ?_
  refine r_iaddN C dX2_close_10 ?_
  refine s_parts C (by first | omega | (simp [up2, *]; done) | (simp [up2, *]; omega) | (simp only [up2_eq]; omega) | (split <;> omega)) dX2_close_11 ?_
  refine p_getN (v := .int (nI (f 5 (4 + k0)))) hX C hE 5 (by first | omega | (simp [up2, *]; done) | (simp [up2, *]; omega) | (simp only [up2_eq]; omega) | (split <;> omega)) (by decide) qn_X2_194 rfl rfl dX2_close_12 ?_
  refine r_ifN_ne (a := (f 5 (4 + k0))) (tgt := 21) C (by first | omega | (simp [up2, *]; done) | (simp [up2, *]; omega) | (simp only [up2_eq]; omega) | (split <;> omega)) dX2_close_15 (by decide) (fun h15_1 => ?_) (fun h15_1 => ?_)
  · skip
    refine r_aload_n C dX2_close_21 rfl ?_
    refine r_iconst (v := (nI 4)) C dX2_close_22 (by decide) ?_
    refine r_iload_n C dX2_close_23 rfl ?_
    refine r_iaddN C dX2_close_24 ?_
    refine d_Vv (st := []) hX.stb C hE (C_dismissWindow (f := f) (r := r) (kn := kn) (i := (4 + k0)) hX (by first | omega | (simp [up2, *]; done) | (simp [up2, *]; omega) | (simp only [up2_eq]; omega) | (split <;> omega)) hC.hU hC.hG hC.h5) pk_X2_dismissWindow qm_X2_187 0 6 rfl rfl wc_0 rfl rfl (Nat.le_of_ble_eq_true rfl) dX2_close_25 ⟨Nat.le_of_ble_eq_true rfl, Nat.le_of_ble_eq_true rfl⟩ ⟨Nat.le_of_ble_eq_true rfl, Nat.le_of_ble_eq_true rfl⟩ ?_
    refine r_aload_n C dX2_close_28 rfl ?_
    refine d_V (st := []) hX.stb C hE (C_windowsThere (f := (dmF f (4 + k0) 8)) (r := r) (kn := kn)  hX (fun i hi => by unfold dmF; have h8 := hC.h5 i hi; (repeat' split) <;> omega)) pk_X2_windowsThere qm_X2_198 0 6 rfl rfl wc_0 rfl rfl (Nat.le_of_ble_eq_true rfl) dX2_close_29 ⟨Nat.le_of_ble_eq_true rfl, Nat.le_of_ble_eq_true rfl⟩ ⟨Nat.le_of_ble_eq_true rfl, Nat.le_of_ble_eq_true rfl⟩ ?_
    exact r_iret C hr dX2_close_32 ⟨rfl, rfl⟩ (Nat.le_of_ble_eq_true rfl) (Nat.le_of_ble_eq_true rfl)
  · exact absurd h15_1 (by first | omega | (simp [up2, *]; done) | (simp [up2, *]; omega) | (simp only [up2_eq]; omega) | (split <;> omega))
theorem dX2_ofWindow_0 : decode cX2_ofWindow 0 = .ok (.iload_n 1, 1) := dqo_27 (kb_X2_ofWindow_0 0 rfl)
theorem dX2_ofWindow_1 : decode cX2_ofWindow 1 = .ok (.invokestatic 179, 3) := dqo_184 0 179 (kb_X2_ofWindow_0 1 rfl) (kb_X2_ofWindow_0 2 rfl) (kb_X2_ofWindow_0 3 rfl)
set_option maxRecDepth 100000 in
set_option maxHeartbeats 4000000 in
theorem C_ofWindow_noK {l : Launch} {D : va_G} {cy : Nat → ClassId} {X : (Nat → Prop) → State → Heap → Prop} {a f : Nat → Nat → Nat} {r : Nat → Nat → Int32} {kn : Int32} {Y : va_W} {x : Int32} {y0 : Int32} (hX : EnvX X) (hl : l.stackTraces = false) (hC : CInv f) (hno : ¬ (0 ≤ x ∧ x < nI 4)) : Ce l D cy X yX2_ofWindow cX2_ofWindow 4 (some .int) (rmk 8 1 6 170) [.ref (a 0 0), .int x, .int y0] (WC cy a f r kn ++ Y) "java/lang/IndexOutOfBoundsException" := by
  have q3 := hC.sp
  refine Cm.of [some (.ref (a 0 0)), some (.int x), some (.int y0), none] pn_X2 rfl (Nat.le_of_ble_eq_true rfl) ?_
  intro p e s m args below meth c A C hE hr hnt hn
  refine r_iload_n C dX2_ofWindow_0 rfl ?_
  refine c_S (st := []) hX.stb C hE (C_needWindow_no (f := f) (r := r) (kn := kn) (x := (x)) hX hl hno) pk_X2_needWindow qm_X2_179 rfl rfl (Nat.le_of_ble_eq_true rfl) dX2_ofWindow_1 ⟨Nat.le_of_ble_eq_true rfl, Nat.le_of_ble_eq_true rfl⟩ ⟨Nat.le_of_ble_eq_true rfl, Nat.le_of_ble_eq_true rfl⟩ (fun _ _ h9 => h9.elim) (fun E9 h9 => ?_)
  subst h9
  exact r_out C hnt rfl rfl (Nat.le_of_ble_eq_true rfl) (Nat.le_of_ble_eq_true rfl)
theorem pk_X2_needQuestion : PkS yX2_needQuestion cX2_needQuestion 2 none 2 := ⟨⟨qt_X2_needQuestion, qz_X2, qc_X2_needQuestion⟩, mh_X2.1, mh_X2.2, pd_2⟩
theorem dX2_ofWindow_4 : decode cX2_ofWindow 4 = .ok (.iload_n 2, 1) := dqo_28 (kb_X2_ofWindow_0 4 rfl)
theorem dX2_ofWindow_5 : decode cX2_ofWindow 5 = .ok (.iconst 3, 1) := dqo_6 (kb_X2_ofWindow_0 5 rfl)
theorem dX2_ofWindow_6 : decode cX2_ofWindow 6 = .ok (.invokestatic 201, 3) := dqo_184 0 201 (kb_X2_ofWindow_0 6 rfl) (kb_X2_ofWindow_0 7 rfl) (kb_X2_ofWindow_0 8 rfl)
set_option maxRecDepth 100000 in
set_option maxHeartbeats 4000000 in
theorem C_ofWindow_noQ {l : Launch} {D : va_G} {cy : Nat → ClassId} {X : (Nat → Prop) → State → Heap → Prop} {a f : Nat → Nat → Nat} {r : Nat → Nat → Int32} {kn : Int32} {Y : va_W} {k0 : Nat} {x : Int32} (hX : EnvX X) (hl : l.stackTraces = false) (hC : CInv f) (hk4 : k0 < 4) (hno : ¬ (0 ≤ x ∧ x < nI 3)) : Ce l D cy X yX2_ofWindow cX2_ofWindow 4 (some .int) (rmk 8 1 6 170) [.ref (a 0 0), .int (nI k0), .int x] (WC cy a f r kn ++ Y) "java/lang/IllegalArgumentException" := by
  have q3 := hC.sp
  refine Cm.of [some (.ref (a 0 0)), some (.int (nI k0)), some (.int x), none] pn_X2 rfl (Nat.le_of_ble_eq_true rfl) ?_
  intro p e s m args below meth c A C hE hr hnt hn
  refine r_iload_n C dX2_ofWindow_0 rfl ?_
  refine d_Sv (st := []) hX.stb C hE (C_needWindow_ok (f := f) (r := r) (kn := kn) (k := k0) hX (by first | omega | (simp [up2, *]; done) | (simp [up2, *]; omega) | (simp only [up2_eq]; omega) | (split <;> omega))) pk_X2_needWindow qm_X2_179 rfl rfl (Nat.le_of_ble_eq_true rfl) dX2_ofWindow_1 ⟨Nat.le_of_ble_eq_true rfl, Nat.le_of_ble_eq_true rfl⟩ ⟨Nat.le_of_ble_eq_true rfl, Nat.le_of_ble_eq_true rfl⟩ ?_
  refine r_iload_n C dX2_ofWindow_4 rfl ?_
  refine r_iconst (v := (nI 3)) C dX2_ofWindow_5 (by decide) ?_
  refine c_S (st := []) hX.stb C hE (C_needQuestion_no (f := f) (r := r) (kn := kn) (x := (x)) (n := 3) hX hl hno) pk_X2_needQuestion qm_X2_201 rfl rfl (Nat.le_of_ble_eq_true rfl) dX2_ofWindow_6 ⟨Nat.le_of_ble_eq_true rfl, Nat.le_of_ble_eq_true rfl⟩ ⟨Nat.le_of_ble_eq_true rfl, Nat.le_of_ble_eq_true rfl⟩ (fun _ _ h9 => h9.elim) (fun E9 h9 => ?_)
  subst h9
  exact r_out C hnt rfl rfl (Nat.le_of_ble_eq_true rfl) (Nat.le_of_ble_eq_true rfl)
theorem dX2_ofWindow_9 : decode cX2_ofWindow 9 = .ok (.aload_n 0, 1) := dqo_42 (kb_X2_ofWindow_0 9 rfl)
theorem dX2_ofWindow_10 : decode cX2_ofWindow 10 = .ok (.getfield 11, 3) := dqo_180 0 11 (kb_X2_ofWindow_0 10 rfl) (kb_X2_ofWindow_0 11 rfl) (kb_X2_ofWindow_0 12 rfl)
theorem dX2_ofWindow_13 : decode cX2_ofWindow 13 = .ok (.iconst 4, 1) := dqo_7 (kb_X2_ofWindow_0 13 rfl)
theorem dX2_ofWindow_14 : decode cX2_ofWindow 14 = .ok (.iload_n 1, 1) := dqo_27 (kb_X2_ofWindow_0 14 rfl)
theorem dX2_ofWindow_15 : decode cX2_ofWindow 15 = .ok (.iadd, 1) := dqo_96 (kb_X2_ofWindow_0 15 rfl)
theorem dX2_ofWindow_16 : decode cX2_ofWindow 16 = .ok (.aaload, 1) := dqo_50 (kb_X2_ofWindow_0 16 rfl)
theorem dX2_ofWindow_17 : decode cX2_ofWindow 17 = .ok (.astore_n 3, 1) := dqo_78 (kb_X2_ofWindow_0 17 rfl)
theorem dX2_ofWindow_18 : decode cX2_ofWindow 18 = .ok (.aload_n 3, 1) := dqo_45 (kb_X2_ofWindow_0 18 rfl)
theorem dX2_ofWindow_19 : decode cX2_ofWindow 19 = .ok (.getfield 194, 3) := dqo_180 0 194 (kb_X2_ofWindow_0 19 rfl) (kb_X2_ofWindow_0 20 rfl) (kb_X2_ofWindow_0 21 rfl)
theorem dX2_ofWindow_22 : decode cX2_ofWindow 22 = .ok (.ifCond .ne 5, 3) := dqo_154 0 5 (by decide) (kb_X2_ofWindow_0 22 rfl) (kb_X2_ofWindow_0 23 rfl) (kb_X2_ofWindow_0 24 rfl)
theorem dX2_ofWindow_25 : decode cX2_ofWindow 25 = .ok (.iconst (-1), 1) := dqo_2 (kb_X2_ofWindow_0 25 rfl)
theorem dX2_ofWindow_26 : decode cX2_ofWindow 26 = .ok (.ireturn, 1) := dqo_172 (kb_X2_ofWindow_0 26 rfl)
set_option maxRecDepth 100000 in
set_option maxHeartbeats 4000000 in
theorem C_ofWindow_none {l : Launch} {D : va_G} {cy : Nat → ClassId} {X : (Nat → Prop) → State → Heap → Prop} {a f : Nat → Nat → Nat} {r : Nat → Nat → Int32} {kn : Int32} {Y : va_W} {k0 : Nat} {q0 : Nat} (hX : EnvX X) (hC : CInv f) (hk4 : k0 < 4) (hq : q0 < 3) (hz : f 5 (4 + k0) = 0) : Cd l D cy X yX2_ofWindow cX2_ofWindow 4 (some .int) (rmz 6 240) [.ref (a 0 0), .int (nI k0), .int (nI q0)] (WC cy a f r kn ++ Y) (some (.int (nI 4294967295))) (WC cy a f r kn ++ Y) := by
  have q3 := hC.sp
  refine Cm.of [some (.ref (a 0 0)), some (.int (nI k0)), some (.int (nI q0)), none] pn_X2 rfl (Nat.le_of_ble_eq_true rfl) ?_
  intro p e s m args below meth c A C hE hr hnt hn
  refine r_iload_n C dX2_ofWindow_0 rfl ?_
  refine d_Sv (st := []) hX.stb C hE (C_needWindow_ok (f := f) (r := r) (kn := kn) (k := k0) hX (by first | omega | (simp [up2, *]; done) | (simp [up2, *]; omega) | (simp only [up2_eq]; omega) | (split <;> omega))) pk_X2_needWindow qm_X2_179 rfl rfl (Nat.le_of_ble_eq_true rfl) dX2_ofWindow_1 ⟨Nat.le_of_ble_eq_true rfl, Nat.le_of_ble_eq_true rfl⟩ ⟨Nat.le_of_ble_eq_true rfl, Nat.le_of_ble_eq_true rfl⟩ ?_
  refine r_iload_n C dX2_ofWindow_4 rfl ?_
  refine r_iconst (v := (nI 3)) C dX2_ofWindow_5 (by decide) ?_
  refine d_Sv (st := []) hX.stb C hE (C_needQuestion_ok (f := f) (r := r) (kn := kn) (k := q0) (n := 3) hX (by first | omega | (simp [up2, *]; done) | (simp [up2, *]; omega) | (simp only [up2_eq]; omega) | (split <;> omega)) (by first | omega | (simp [up2, *]; done) | (simp [up2, *]; omega) | (simp only [up2_eq]; omega) | (split <;> omega))) pk_X2_needQuestion qm_X2_201 rfl rfl (Nat.le_of_ble_eq_true rfl) dX2_ofWindow_6 ⟨Nat.le_of_ble_eq_true rfl, Nat.le_of_ble_eq_true rfl⟩ ⟨Nat.le_of_ble_eq_true rfl, Nat.le_of_ble_eq_true rfl⟩ ?_
  refine r_aload_n C dX2_ofWindow_9 rfl ?_
  refine s_get C 0 (by decide) qf_X2_11 rfl rfl dX2_ofWindow_10 ?_
  refine r_iconst (v := (nI 4)) C dX2_ofWindow_13 (by decide) ?_
  refine r_iload_n C dX2_ofWindow_14 rfl ?_
  refine r_iaddN C dX2_ofWindow_15 ?_
  refine s_parts C (by first | omega | (simp [up2, *]; done) | (simp [up2, *]; omega) | (simp only [up2_eq]; omega) | (split <;> omega)) dX2_ofWindow_16 ?_
  refine r_astore_n C dX2_ofWindow_17 (by decide) rfl ?_
  refine r_aload_n C dX2_ofWindow_18 rfl ?_
  refine p_getN (v := .int (nI (f 5 (4 + k0)))) hX C hE 5 (by first | omega | (simp [up2, *]; done) | (simp [up2, *]; omega) | (simp only [up2_eq]; omega) | (split <;> omega)) (by decide) qn_X2_194 rfl rfl dX2_ofWindow_19 ?_
  refine r_ifN_ne (a := (f 5 (4 + k0))) (tgt := 27) C (by first | omega | (simp [up2, *]; done) | (simp [up2, *]; omega) | (simp only [up2_eq]; omega) | (split <;> omega)) dX2_ofWindow_22 (by decide) (fun h22_1 => ?_) (fun h22_1 => ?_)
  · exact absurd h22_1 (by first | omega | (simp [up2, *]; done) | (simp [up2, *]; omega) | (simp only [up2_eq]; omega) | (split <;> omega))
  · skip
    refine r_iconst (v := (nI 4294967295)) C dX2_ofWindow_25 (by decide) ?_
    exact r_iret C hr dX2_ofWindow_26 ⟨rfl, rfl⟩ (Nat.le_of_ble_eq_true rfl) (Nat.le_of_ble_eq_true rfl)
theorem dX2_ofWindow_27 : decode cX2_ofWindow 27 = .ok (.iload_n 2, 1) := dqo_28 (kb_X2_ofWindow_0 27 rfl)
theorem dX2_ofWindow_28 : decode cX2_ofWindow 28 = .ok (.lookupswitch 38 #[(0, 28), (1, 33)], 28) := by decide +kernel
theorem dX2_ofWindow_56 : decode cX2_ofWindow 56 = .ok (.aload_n 3, 1) := dqo_45 (kb_X2_ofWindow_0 56 rfl)
theorem dX2_ofWindow_57 : decode cX2_ofWindow 57 = .ok (.getfield 204, 3) := dqo_180 0 204 (kb_X2_ofWindow_0 57 rfl) (kb_X2_ofWindow_0 58 rfl) (kb_X2_ofWindow_0 59 rfl)
theorem dX2_ofWindow_60 : decode cX2_ofWindow 60 = .ok (.ireturn, 1) := dqo_172 (kb_X2_ofWindow_0 60 rfl)
set_option maxRecDepth 100000 in
set_option maxHeartbeats 4000000 in
theorem C_ofWindow_0 {l : Launch} {D : va_G} {cy : Nat → ClassId} {X : (Nat → Prop) → State → Heap → Prop} {a f : Nat → Nat → Nat} {r : Nat → Nat → Int32} {kn : Int32} {Y : va_W} {k0 : Nat} (hX : EnvX X) (hC : CInv f) (hk4 : k0 < 4) (hz : f 5 (4 + k0) = 1) : Cd l D cy X yX2_ofWindow cX2_ofWindow 4 (some .int) (rmz 6 240) [.ref (a 0 0), .int (nI k0), .int (nI 0)] (WC cy a f r kn ++ Y) (some (.int (nI (f 2 (4 + k0))))) (WC cy a f r kn ++ Y) := by
  have q3 := hC.sp
  refine Cm.of [some (.ref (a 0 0)), some (.int (nI k0)), some (.int (nI 0)), none] pn_X2 rfl (Nat.le_of_ble_eq_true rfl) ?_
  intro p e s m args below meth c A C hE hr hnt hn
  refine r_iload_n C dX2_ofWindow_0 rfl ?_
  refine d_Sv (st := []) hX.stb C hE (C_needWindow_ok (f := f) (r := r) (kn := kn) (k := k0) hX (by first | omega | (simp [up2, *]; done) | (simp [up2, *]; omega) | (simp only [up2_eq]; omega) | (split <;> omega))) pk_X2_needWindow qm_X2_179 rfl rfl (Nat.le_of_ble_eq_true rfl) dX2_ofWindow_1 ⟨Nat.le_of_ble_eq_true rfl, Nat.le_of_ble_eq_true rfl⟩ ⟨Nat.le_of_ble_eq_true rfl, Nat.le_of_ble_eq_true rfl⟩ ?_
  refine r_iload_n C dX2_ofWindow_4 rfl ?_
  refine r_iconst (v := (nI 3)) C dX2_ofWindow_5 (by decide) ?_
  refine d_Sv (st := []) hX.stb C hE (C_needQuestion_ok (f := f) (r := r) (kn := kn) (k := 0) (n := 3) hX (by first | omega | (simp [up2, *]; done) | (simp [up2, *]; omega) | (simp only [up2_eq]; omega) | (split <;> omega)) (by first | omega | (simp [up2, *]; done) | (simp [up2, *]; omega) | (simp only [up2_eq]; omega) | (split <;> omega))) pk_X2_needQuestion qm_X2_201 rfl rfl (Nat.le_of_ble_eq_true rfl) dX2_ofWindow_6 ⟨Nat.le_of_ble_eq_true rfl, Nat.le_of_ble_eq_true rfl⟩ ⟨Nat.le_of_ble_eq_true rfl, Nat.le_of_ble_eq_true rfl⟩ ?_
  refine r_aload_n C dX2_ofWindow_9 rfl ?_
  refine s_get C 0 (by decide) qf_X2_11 rfl rfl dX2_ofWindow_10 ?_
  refine r_iconst (v := (nI 4)) C dX2_ofWindow_13 (by decide) ?_
  refine r_iload_n C dX2_ofWindow_14 rfl ?_
  refine r_iaddN C dX2_ofWindow_15 ?_
  refine s_parts C (by first | omega | (simp [up2, *]; done) | (simp [up2, *]; omega) | (simp only [up2_eq]; omega) | (split <;> omega)) dX2_ofWindow_16 ?_
  refine r_astore_n C dX2_ofWindow_17 (by decide) rfl ?_
  refine r_aload_n C dX2_ofWindow_18 rfl ?_
  refine p_getN (v := .int (nI (f 5 (4 + k0)))) hX C hE 5 (by first | omega | (simp [up2, *]; done) | (simp [up2, *]; omega) | (simp only [up2_eq]; omega) | (split <;> omega)) (by decide) qn_X2_194 rfl rfl dX2_ofWindow_19 ?_
  refine r_ifN_ne (a := (f 5 (4 + k0))) (tgt := 27) C (by first | omega | (simp [up2, *]; done) | (simp [up2, *]; omega) | (simp only [up2_eq]; omega) | (split <;> omega)) dX2_ofWindow_22 (by decide) (fun h22_1 => ?_) (fun h22_1 => ?_)
  · skip
    refine r_iload_n C dX2_ofWindow_27 rfl ?_
    refine r_lookup (off := 28) (tgt := 56) C dX2_ofWindow_28 (by decide) (by decide) (by decide) ?_
    refine r_aload_n C dX2_ofWindow_56 rfl ?_
    refine p_getN (v := .int (nI (f 2 (4 + k0)))) hX C hE 2 (by first | omega | (simp [up2, *]; done) | (simp [up2, *]; omega) | (simp only [up2_eq]; omega) | (split <;> omega)) (by decide) qn_X2_204 rfl rfl dX2_ofWindow_57 ?_
    exact r_iret C hr dX2_ofWindow_60 ⟨rfl, rfl⟩ (Nat.le_of_ble_eq_true rfl) (Nat.le_of_ble_eq_true rfl)
  · exact absurd h22_1 (by first | omega | (simp [up2, *]; done) | (simp [up2, *]; omega) | (simp only [up2_eq]; omega) | (split <;> omega))
theorem dX2_ofWindow_61 : decode cX2_ofWindow 61 = .ok (.aload_n 3, 1) := dqo_45 (kb_X2_ofWindow_0 61 rfl)
theorem dX2_ofWindow_62 : decode cX2_ofWindow 62 = .ok (.getfield 207, 3) := dqo_180 0 207 (kb_X2_ofWindow_0 62 rfl) (kb_X2_ofWindow_0 63 rfl) (kb_X2_ofWindow_1 0 rfl)
theorem dX2_ofWindow_65 : decode cX2_ofWindow 65 = .ok (.ireturn, 1) := dqo_172 (kb_X2_ofWindow_1 1 rfl)
set_option maxRecDepth 100000 in
set_option maxHeartbeats 4000000 in
theorem C_ofWindow_1 {l : Launch} {D : va_G} {cy : Nat → ClassId} {X : (Nat → Prop) → State → Heap → Prop} {a f : Nat → Nat → Nat} {r : Nat → Nat → Int32} {kn : Int32} {Y : va_W} {k0 : Nat} (hX : EnvX X) (hC : CInv f) (hk4 : k0 < 4) (hz : f 5 (4 + k0) = 1) : Cd l D cy X yX2_ofWindow cX2_ofWindow 4 (some .int) (rmz 6 240) [.ref (a 0 0), .int (nI k0), .int (nI 1)] (WC cy a f r kn ++ Y) (some (.int (nI (f 1 (4 + k0))))) (WC cy a f r kn ++ Y) := by
  have q3 := hC.sp
  refine Cm.of [some (.ref (a 0 0)), some (.int (nI k0)), some (.int (nI 1)), none] pn_X2 rfl (Nat.le_of_ble_eq_true rfl) ?_
  intro p e s m args below meth c A C hE hr hnt hn
  refine r_iload_n C dX2_ofWindow_0 rfl ?_
  refine d_Sv (st := []) hX.stb C hE (C_needWindow_ok (f := f) (r := r) (kn := kn) (k := k0) hX (by first | omega | (simp [up2, *]; done) | (simp [up2, *]; omega) | (simp only [up2_eq]; omega) | (split <;> omega))) pk_X2_needWindow qm_X2_179 rfl rfl (Nat.le_of_ble_eq_true rfl) dX2_ofWindow_1 ⟨Nat.le_of_ble_eq_true rfl, Nat.le_of_ble_eq_true rfl⟩ ⟨Nat.le_of_ble_eq_true rfl, Nat.le_of_ble_eq_true rfl⟩ ?_
  refine r_iload_n C dX2_ofWindow_4 rfl ?_
  refine r_iconst (v := (nI 3)) C dX2_ofWindow_5 (by decide) ?_
  refine d_Sv (st := []) hX.stb C hE (C_needQuestion_ok (f := f) (r := r) (kn := kn) (k := 1) (n := 3) hX (by first | omega | (simp [up2, *]; done) | (simp [up2, *]; omega) | (simp only [up2_eq]; omega) | (split <;> omega)) (by first | omega | (simp [up2, *]; done) | (simp [up2, *]; omega) | (simp only [up2_eq]; omega) | (split <;> omega))) pk_X2_needQuestion qm_X2_201 rfl rfl (Nat.le_of_ble_eq_true rfl) dX2_ofWindow_6 ⟨Nat.le_of_ble_eq_true rfl, Nat.le_of_ble_eq_true rfl⟩ ⟨Nat.le_of_ble_eq_true rfl, Nat.le_of_ble_eq_true rfl⟩ ?_
  refine r_aload_n C dX2_ofWindow_9 rfl ?_
  refine s_get C 0 (by decide) qf_X2_11 rfl rfl dX2_ofWindow_10 ?_
  refine r_iconst (v := (nI 4)) C dX2_ofWindow_13 (by decide) ?_
  refine r_iload_n C dX2_ofWindow_14 rfl ?_
  refine r_iaddN C dX2_ofWindow_15 ?_
  refine s_parts C (by first | omega | (simp [up2, *]; done) | (simp [up2, *]; omega) | (simp only [up2_eq]; omega) | (split <;> omega)) dX2_ofWindow_16 ?_
  refine r_astore_n C dX2_ofWindow_17 (by decide) rfl ?_
  refine r_aload_n C dX2_ofWindow_18 rfl ?_
  refine p_getN (v := .int (nI (f 5 (4 + k0)))) hX C hE 5 (by first | omega | (simp [up2, *]; done) | (simp [up2, *]; omega) | (simp only [up2_eq]; omega) | (split <;> omega)) (by decide) qn_X2_194 rfl rfl dX2_ofWindow_19 ?_
  refine r_ifN_ne (a := (f 5 (4 + k0))) (tgt := 27) C (by first | omega | (simp [up2, *]; done) | (simp [up2, *]; omega) | (simp only [up2_eq]; omega) | (split <;> omega)) dX2_ofWindow_22 (by decide) (fun h22_1 => ?_) (fun h22_1 => ?_)
  · skip
    refine r_iload_n C dX2_ofWindow_27 rfl ?_
    refine r_lookup (off := 33) (tgt := 61) C dX2_ofWindow_28 (by decide) (by decide) (by decide) ?_
    refine r_aload_n C dX2_ofWindow_61 rfl ?_
    refine p_getN (v := .int (nI (f 1 (4 + k0)))) hX C hE 1 (by first | omega | (simp [up2, *]; done) | (simp [up2, *]; omega) | (simp only [up2_eq]; omega) | (split <;> omega)) (by decide) qn_X2_207 rfl rfl dX2_ofWindow_62 ?_
    exact r_iret C hr dX2_ofWindow_65 ⟨rfl, rfl⟩ (Nat.le_of_ble_eq_true rfl) (Nat.le_of_ble_eq_true rfl)
  · exact absurd h22_1 (by first | omega | (simp [up2, *]; done) | (simp [up2, *]; omega) | (simp only [up2_eq]; omega) | (split <;> omega))
theorem dX2_ofWindow_66 : decode cX2_ofWindow 66 = .ok (.aload_n 3, 1) := dqo_45 (kb_X2_ofWindow_1 2 rfl)
theorem dX2_ofWindow_67 : decode cX2_ofWindow 67 = .ok (.getfield 50, 3) := dqo_180 0 50 (kb_X2_ofWindow_1 3 rfl) (kb_X2_ofWindow_1 4 rfl) (kb_X2_ofWindow_1 5 rfl)
theorem dX2_ofWindow_70 : decode cX2_ofWindow 70 = .ok (.ireturn, 1) := dqo_172 (kb_X2_ofWindow_1 6 rfl)
set_option maxRecDepth 100000 in
set_option maxHeartbeats 4000000 in
theorem C_ofWindow_2 {l : Launch} {D : va_G} {cy : Nat → ClassId} {X : (Nat → Prop) → State → Heap → Prop} {a f : Nat → Nat → Nat} {r : Nat → Nat → Int32} {kn : Int32} {Y : va_W} {k0 : Nat} (hX : EnvX X) (hC : CInv f) (hk4 : k0 < 4) (hz : f 5 (4 + k0) = 1) : Cd l D cy X yX2_ofWindow cX2_ofWindow 4 (some .int) (rmz 6 240) [.ref (a 0 0), .int (nI k0), .int (nI 2)] (WC cy a f r kn ++ Y) (some (.int (nI (f 4 (4 + k0))))) (WC cy a f r kn ++ Y) := by
  have q3 := hC.sp
  refine Cm.of [some (.ref (a 0 0)), some (.int (nI k0)), some (.int (nI 2)), none] pn_X2 rfl (Nat.le_of_ble_eq_true rfl) ?_
  intro p e s m args below meth c A C hE hr hnt hn
  refine r_iload_n C dX2_ofWindow_0 rfl ?_
  refine d_Sv (st := []) hX.stb C hE (C_needWindow_ok (f := f) (r := r) (kn := kn) (k := k0) hX (by first | omega | (simp [up2, *]; done) | (simp [up2, *]; omega) | (simp only [up2_eq]; omega) | (split <;> omega))) pk_X2_needWindow qm_X2_179 rfl rfl (Nat.le_of_ble_eq_true rfl) dX2_ofWindow_1 ⟨Nat.le_of_ble_eq_true rfl, Nat.le_of_ble_eq_true rfl⟩ ⟨Nat.le_of_ble_eq_true rfl, Nat.le_of_ble_eq_true rfl⟩ ?_
  refine r_iload_n C dX2_ofWindow_4 rfl ?_
  refine r_iconst (v := (nI 3)) C dX2_ofWindow_5 (by decide) ?_
  refine d_Sv (st := []) hX.stb C hE (C_needQuestion_ok (f := f) (r := r) (kn := kn) (k := 2) (n := 3) hX (by first | omega | (simp [up2, *]; done) | (simp [up2, *]; omega) | (simp only [up2_eq]; omega) | (split <;> omega)) (by first | omega | (simp [up2, *]; done) | (simp [up2, *]; omega) | (simp only [up2_eq]; omega) | (split <;> omega))) pk_X2_needQuestion qm_X2_201 rfl rfl (Nat.le_of_ble_eq_true rfl) dX2_ofWindow_6 ⟨Nat.le_of_ble_eq_true rfl, Nat.le_of_ble_eq_true rfl⟩ ⟨Nat.le_of_ble_eq_true rfl, Nat.le_of_ble_eq_true rfl⟩ ?_
  refine r_aload_n C dX2_ofWindow_9 rfl ?_
  refine s_get C 0 (by decide) qf_X2_11 rfl rfl dX2_ofWindow_10 ?_
  refine r_iconst (v := (nI 4)) C dX2_ofWindow_13 (by decide) ?_
  refine r_iload_n C dX2_ofWindow_14 rfl ?_
  refine r_iaddN C dX2_ofWindow_15 ?_
  refine s_parts C (by first | omega | (simp [up2, *]; done) | (simp [up2, *]; omega) | (simp only [up2_eq]; omega) | (split <;> omega)) dX2_ofWindow_16 ?_
  refine r_astore_n C dX2_ofWindow_17 (by decide) rfl ?_
  refine r_aload_n C dX2_ofWindow_18 rfl ?_
  refine p_getN (v := .int (nI (f 5 (4 + k0)))) hX C hE 5 (by first | omega | (simp [up2, *]; done) | (simp [up2, *]; omega) | (simp only [up2_eq]; omega) | (split <;> omega)) (by decide) qn_X2_194 rfl rfl dX2_ofWindow_19 ?_
  refine r_ifN_ne (a := (f 5 (4 + k0))) (tgt := 27) C (by first | omega | (simp [up2, *]; done) | (simp [up2, *]; omega) | (simp only [up2_eq]; omega) | (split <;> omega)) dX2_ofWindow_22 (by decide) (fun h22_1 => ?_) (fun h22_1 => ?_)
  · skip
    refine r_iload_n C dX2_ofWindow_27 rfl ?_
    refine r_lookup (off := 38) (tgt := 66) C dX2_ofWindow_28 (by decide) (by decide) (by decide) ?_
    refine r_aload_n C dX2_ofWindow_66 rfl ?_
    refine p_getN (v := .int (nI (f 4 (4 + k0)))) hX C hE 4 (by first | omega | (simp [up2, *]; done) | (simp [up2, *]; omega) | (simp only [up2_eq]; omega) | (split <;> omega)) (by decide) qn_X2_50 rfl rfl dX2_ofWindow_67 ?_
    exact r_iret C hr dX2_ofWindow_70 ⟨rfl, rfl⟩ (Nat.le_of_ble_eq_true rfl) (Nat.le_of_ble_eq_true rfl)
  · exact absurd h22_1 (by first | omega | (simp [up2, *]; done) | (simp [up2, *]; omega) | (simp only [up2_eq]; omega) | (split <;> omega))
theorem dX2_open_0 : decode cX2_open 0 = .ok (.iload_n 1, 1) := dqo_27 (kb_of ke_X2_open 0 rfl)
theorem dX2_open_1 : decode cX2_open 1 = .ok (.invokestatic 210, 3) := dqo_184 0 210 (kb_of ke_X2_open 1 rfl) (kb_of ke_X2_open 2 rfl) (kb_of ke_X2_open 3 rfl)
set_option maxRecDepth 100000 in
set_option maxHeartbeats 4000000 in
theorem C_open_noC {l : Launch} {D : va_G} {cy : Nat → ClassId} {X : (Nat → Prop) → State → Heap → Prop} {a f : Nat → Nat → Nat} {r : Nat → Nat → Int32} {kn : Int32} {Y : va_W} {x : Int32} {y0 : Int32} {y1 : Int32} (hX : EnvX X) (hl : l.stackTraces = false) (hC : CInv f) (hno : ¬ (0 ≤ x ∧ x < nI 3)) : Ce l D cy X yX2_open cX2_open 4 (some .int) (rmk 8 1 6 170) [.ref (a 0 0), .int x, .int y0, .int y1] (WC cy a f r kn ++ Y) "java/lang/IndexOutOfBoundsException" := by
  have q3 := hC.sp
  refine Cm.of [some (.ref (a 0 0)), some (.int x), some (.int y0), some (.int y1)] pn_X2 rfl (Nat.le_of_ble_eq_true rfl) ?_
  intro p e s m args below meth c A C hE hr hnt hn
  refine r_iload_n C dX2_open_0 rfl ?_
  refine c_S (st := []) hX.stb C hE (C_needCursor_no (f := f) (r := r) (kn := kn) (x := (x)) hX hl hno) pk_X2_needCursor qm_X2_210 rfl rfl (Nat.le_of_ble_eq_true rfl) dX2_open_1 ⟨Nat.le_of_ble_eq_true rfl, Nat.le_of_ble_eq_true rfl⟩ ⟨Nat.le_of_ble_eq_true rfl, Nat.le_of_ble_eq_true rfl⟩ (fun _ _ h9 => h9.elim) (fun E9 h9 => ?_)
  subst h9
  exact r_out C hnt rfl rfl (Nat.le_of_ble_eq_true rfl) (Nat.le_of_ble_eq_true rfl)
theorem dX2_open_4 : decode cX2_open 4 = .ok (.aload_n 0, 1) := dqo_42 (kb_of ke_X2_open 4 rfl)
theorem dX2_open_5 : decode cX2_open 5 = .ok (.iload_n 2, 1) := dqo_28 (kb_of ke_X2_open 5 rfl)
theorem dX2_open_6 : decode cX2_open 6 = .ok (.invokevirtual 39, 3) := dqo_182 0 39 (kb_of ke_X2_open 6 rfl) (kb_of ke_X2_open 7 rfl) (kb_of ke_X2_open 8 rfl)
set_option maxRecDepth 100000 in
set_option maxHeartbeats 4000000 in
theorem C_open_noW {l : Launch} {D : va_G} {cy : Nat → ClassId} {X : (Nat → Prop) → State → Heap → Prop} {a f : Nat → Nat → Nat} {r : Nat → Nat → Int32} {kn : Int32} {Y : va_W} {k0 : Nat} {x : Int32} {y : Int32} (hX : EnvX X) (hl : l.stackTraces = false) (hC : CInv f) (hk3 : k0 < 3) (hno : noW f x) : Ce l D cy X yX2_open cX2_open 4 (some .int) (rmk 8 1 6 170) [.ref (a 0 0), .int (nI k0), .int x, .int y] (WC cy a f r kn ++ Y) "java/lang/IndexOutOfBoundsException" := by
  have q3 := hC.sp
  refine Cm.of [some (.ref (a 0 0)), some (.int (nI k0)), some (.int x), some (.int y)] pn_X2 rfl (Nat.le_of_ble_eq_true rfl) ?_
  intro p e s m args below meth c A C hE hr hnt hn
  refine r_iload_n C dX2_open_0 rfl ?_
  refine d_Sv (st := []) hX.stb C hE (C_needCursor_ok (f := f) (r := r) (kn := kn) (k := k0) hX (by first | omega | (simp [up2, *]; done) | (simp [up2, *]; omega) | (simp only [up2_eq]; omega) | (split <;> omega))) pk_X2_needCursor qm_X2_210 rfl rfl (Nat.le_of_ble_eq_true rfl) dX2_open_1 ⟨Nat.le_of_ble_eq_true rfl, Nat.le_of_ble_eq_true rfl⟩ ⟨Nat.le_of_ble_eq_true rfl, Nat.le_of_ble_eq_true rfl⟩ ?_
  refine r_aload_n C dX2_open_4 rfl ?_
  refine r_iload_n C dX2_open_5 rfl ?_
  refine c_V (st := []) hX.stb C hE (C_needWhere_no (f := f) (r := r) (kn := kn) (x := (x)) hX hl hno hC.h5) pk_X2_needWhere qm_X2_39 0 6 rfl rfl wc_0 rfl rfl (Nat.le_of_ble_eq_true rfl) dX2_open_6 ⟨Nat.le_of_ble_eq_true rfl, Nat.le_of_ble_eq_true rfl⟩ ⟨Nat.le_of_ble_eq_true rfl, Nat.le_of_ble_eq_true rfl⟩ (fun _ _ h9 => h9.elim) (fun E9 h9 => ?_)
  subst h9
  exact r_out C hnt rfl rfl (Nat.le_of_ble_eq_true rfl) (Nat.le_of_ble_eq_true rfl)
theorem dX2_open_9 : decode cX2_open 9 = .ok (.aload_n 0, 1) := dqo_42 (kb_of ke_X2_open 9 rfl)
theorem dX2_open_10 : decode cX2_open 10 = .ok (.getfield 11, 3) := dqo_180 0 11 (kb_of ke_X2_open 10 rfl) (kb_of ke_X2_open 11 rfl) (kb_of ke_X2_open 12 rfl)
theorem dX2_open_13 : decode cX2_open 13 = .ok (.iload_n 2, 1) := dqo_28 (kb_of ke_X2_open 13 rfl)
theorem dX2_open_14 : decode cX2_open 14 = .ok (.aaload, 1) := dqo_50 (kb_of ke_X2_open 14 rfl)
theorem dX2_open_15 : decode cX2_open 15 = .ok (.iload_n 3, 1) := dqo_29 (kb_of ke_X2_open 15 rfl)
theorem dX2_open_16 : decode cX2_open 16 = .ok (.invokevirtual 58, 3) := dqo_182 0 58 (kb_of ke_X2_open 16 rfl) (kb_of ke_X2_open 17 rfl) (kb_of ke_X2_open 18 rfl)
theorem dX2_open_19 : decode cX2_open 19 = .ok (.ifCond .ne 13, 3) := dqo_154 0 13 (by decide) (kb_of ke_X2_open 19 rfl) (kb_of ke_X2_open 20 rfl) (kb_of ke_X2_open 21 rfl)
theorem dX2_open_22 : decode cX2_open 22 = .ok (.new 213, 3) := dqo_187 0 213 (kb_of ke_X2_open 22 rfl) (kb_of ke_X2_open 23 rfl) (kb_of ke_X2_open 24 rfl)
theorem dX2_open_25 : decode cX2_open 25 = .ok (.dup, 1) := dqo_89 (kb_of ke_X2_open 25 rfl)
theorem dX2_open_26 : decode cX2_open 26 = .ok (.ldc 215, 2) := dqo_18 215 (kb_of ke_X2_open 26 rfl) (kb_of ke_X2_open 27 rfl)
theorem dX2_open_28 : decode cX2_open 28 = .ok (.invokespecial 217, 3) := dqo_183 0 217 (kb_of ke_X2_open 28 rfl) (kb_of ke_X2_open 29 rfl) (kb_of ke_X2_open 30 rfl)
theorem dX2_open_31 : decode cX2_open 31 = .ok (.athrow, 1) := dqo_191 (kb_of ke_X2_open 31 rfl)
set_option maxRecDepth 100000 in
set_option maxHeartbeats 4000000 in
theorem C_open_noP {l : Launch} {D : va_G} {cy : Nat → ClassId} {X : (Nat → Prop) → State → Heap → Prop} {a f : Nat → Nat → Nat} {r : Nat → Nat → Int32} {kn : Int32} {Y : va_W} {k0 : Nat} {w : Nat} {y : Int32} (hX : EnvX X) (hl : l.stackTraces = false) (hC : CInv f) (hk3 : k0 < 3) (hw : w < 8) (h5w : f 5 w = 1) (hno : ¬ (0 ≤ y ∧ y ≤ nI (f 4 w))) : Ce l D cy X yX2_open cX2_open 4 (some .int) (rmk 8 1 6 170) [.ref (a 0 0), .int (nI k0), .int (nI w), .int y] (WC cy a f r kn ++ Y) "java/lang/IndexOutOfBoundsException" := by
  have q3 := hC.sp
  have q1_w := hC.al hw
  have q2_w := hC.th hw h5w
  have q4_w := hC.rw (i := f 1 w) q1_w.2.1
  refine Cm.of [some (.ref (a 0 0)), some (.int (nI k0)), some (.int (nI w)), some (.int y)] pn_X2 rfl (Nat.le_of_ble_eq_true rfl) ?_
  intro p e s m args below meth c A C hE hr hnt hn
  refine r_iload_n C dX2_open_0 rfl ?_
  refine d_Sv (st := []) hX.stb C hE (C_needCursor_ok (f := f) (r := r) (kn := kn) (k := k0) hX (by first | omega | (simp [up2, *]; done) | (simp [up2, *]; omega) | (simp only [up2_eq]; omega) | (split <;> omega))) pk_X2_needCursor qm_X2_210 rfl rfl (Nat.le_of_ble_eq_true rfl) dX2_open_1 ⟨Nat.le_of_ble_eq_true rfl, Nat.le_of_ble_eq_true rfl⟩ ⟨Nat.le_of_ble_eq_true rfl, Nat.le_of_ble_eq_true rfl⟩ ?_
  refine r_aload_n C dX2_open_4 rfl ?_
  refine r_iload_n C dX2_open_5 rfl ?_
  refine d_Vv (st := []) hX.stb C hE (C_needWhere_ok (f := f) (r := r) (kn := kn) (w := w) hX (by first | omega | (simp [up2, *]; done) | (simp [up2, *]; omega) | (simp only [up2_eq]; omega) | (split <;> omega)) (by first | omega | (simp [up2, *]; done) | (simp [up2, *]; omega) | (simp only [up2_eq]; omega) | (split <;> omega))) pk_X2_needWhere qm_X2_39 0 6 rfl rfl wc_0 rfl rfl (Nat.le_of_ble_eq_true rfl) dX2_open_6 ⟨Nat.le_of_ble_eq_true rfl, Nat.le_of_ble_eq_true rfl⟩ ⟨Nat.le_of_ble_eq_true rfl, Nat.le_of_ble_eq_true rfl⟩ ?_
  refine r_aload_n C dX2_open_9 rfl ?_
  refine s_get C 0 (by decide) qf_X2_11 rfl rfl dX2_open_10 ?_
  refine r_iload_n C dX2_open_13 rfl ?_
  refine s_parts C (by first | omega | (simp [up2, *]; done) | (simp [up2, *]; omega) | (simp only [up2_eq]; omega) | (split <;> omega)) dX2_open_14 ?_
  refine r_iload_n C dX2_open_15 rfl ?_
  refine d_V (st := []) hX.stb C hE (C_isGap0 (f := f) (r := r) (kn := kn) (i := w) (x := (y)) hX (by first | omega | (simp [up2, *]; done) | (simp [up2, *]; omega) | (simp only [up2_eq]; omega) | (split <;> omega)) hno) pk_X1_isGap qm_X2_58 (3 + w) 5 rfl rfl (wc_p (by first | omega | (simp [up2, *]; done) | (simp [up2, *]; omega) | (simp only [up2_eq]; omega) | (split <;> omega))) rfl rfl (Nat.le_of_ble_eq_true rfl) dX2_open_16 ⟨Nat.le_of_ble_eq_true rfl, Nat.le_of_ble_eq_true rfl⟩ ⟨Nat.le_of_ble_eq_true rfl, Nat.le_of_ble_eq_true rfl⟩ ?_
  refine r_ifN_ne (a := 0) (tgt := 32) C (by first | omega | (simp [up2, *]; done) | (simp [up2, *]; omega) | (simp only [up2_eq]; omega) | (split <;> omega)) dX2_open_19 (by decide) (fun h19_1 => ?_) (fun h19_1 => ?_)
  · exact absurd h19_1 (by first | omega | (simp [up2, *]; done) | (simp [up2, *]; omega) | (simp only [up2_eq]; omega) | (split <;> omega))
  · skip
    exact r_throw (cls := "java/lang/IndexOutOfBoundsException") (text := "a cursor can't stand there") (names := ["java/lang/RuntimeException", "java/lang/Exception"]) hX hl C hE hnt thr_X2_213_217 (by decide +kernel) (by decide +kernel) (by decide +kernel) dX2_open_22 dX2_open_25 dX2_open_26 dX2_open_28 dX2_open_31 (by decide) (Nat.le_of_ble_eq_true rfl) (Nat.le_of_ble_eq_true rfl) (Nat.le_of_ble_eq_true rfl) rfl rfl (Nat.le_of_ble_eq_true rfl) (Nat.le_of_ble_eq_true rfl)
theorem pk_X0_beginAt : PkV RX0 yX0_beginAt cX0_beginAt 3 none 2 := ⟨⟨qi_X0_beginAt, qs_X0_beginAt, qz_X0, qc_X0_beginAt⟩, rfl, mh_X0.1, mh_X0.2, pd_2⟩
theorem dX2_open_32 : decode cX2_open 32 = .ok (.aload_n 0, 1) := dqo_42 (kb_of ke_X2_open 32 rfl)
theorem dX2_open_33 : decode cX2_open 33 = .ok (.getfield 24, 3) := dqo_180 0 24 (kb_of ke_X2_open 33 rfl) (kb_of ke_X2_open 34 rfl) (kb_of ke_X2_open 35 rfl)
theorem dX2_open_36 : decode cX2_open 36 = .ok (.iload_n 1, 1) := dqo_27 (kb_of ke_X2_open 36 rfl)
theorem dX2_open_37 : decode cX2_open 37 = .ok (.aaload, 1) := dqo_50 (kb_of ke_X2_open 37 rfl)
theorem dX2_open_38 : decode cX2_open 38 = .ok (.iload_n 2, 1) := dqo_28 (kb_of ke_X2_open 38 rfl)
theorem dX2_open_39 : decode cX2_open 39 = .ok (.iload_n 3, 1) := dqo_29 (kb_of ke_X2_open 39 rfl)
theorem dX2_open_40 : decode cX2_open 40 = .ok (.invokevirtual 218, 3) := dqo_182 0 218 (kb_of ke_X2_open 40 rfl) (kb_of ke_X2_open 41 rfl) (kb_of ke_X2_open 42 rfl)
theorem dX2_open_43 : decode cX2_open 43 = .ok (.aload_n 0, 1) := dqo_42 (kb_of ke_X2_open 43 rfl)
theorem dX2_open_44 : decode cX2_open 44 = .ok (.getfield 11, 3) := dqo_180 0 11 (kb_of ke_X2_open 44 rfl) (kb_of ke_X2_open 45 rfl) (kb_of ke_X2_open 46 rfl)
theorem dX2_open_47 : decode cX2_open 47 = .ok (.iload_n 2, 1) := dqo_28 (kb_of ke_X2_open 47 rfl)
theorem dX2_open_48 : decode cX2_open 48 = .ok (.aaload, 1) := dqo_50 (kb_of ke_X2_open 48 rfl)
theorem dX2_open_49 : decode cX2_open 49 = .ok (.getfield 50, 3) := dqo_180 0 50 (kb_of ke_X2_open 49 rfl) (kb_of ke_X2_open 50 rfl) (kb_of ke_X2_open 51 rfl)
theorem dX2_open_52 : decode cX2_open 52 = .ok (.iload_n 3, 1) := dqo_29 (kb_of ke_X2_open 52 rfl)
theorem dX2_open_53 : decode cX2_open 53 = .ok (.isub, 1) := dqo_100 (kb_of ke_X2_open 53 rfl)
theorem dX2_open_54 : decode cX2_open 54 = .ok (.ireturn, 1) := dqo_172 (kb_of ke_X2_open 54 rfl)
set_option maxRecDepth 100000 in
set_option maxHeartbeats 4000000 in
theorem C_open_ok {l : Launch} {D : va_G} {cy : Nat → ClassId} {X : (Nat → Prop) → State → Heap → Prop} {a f : Nat → Nat → Nat} {r : Nat → Nat → Int32} {kn : Int32} {Y : va_W} {k0 : Nat} {w : Nat} {p0 : Nat} (hX : EnvX X) (hC : CInv f) (hk3 : k0 < 3) (hw : w < 8) (h5w : f 5 w = 1) (hp : p0 ≤ f 4 w) : Cd l D cy X yX2_open cX2_open 4 (some .int) (rmz 6 240) [.ref (a 0 0), .int (nI k0), .int (nI w), .int (nI p0)] (WC cy a f r kn ++ Y) (some (.int (nI ((f 4 w) - p0)))) (WC cy a (up2 (up2 (up2 (up2 f 6 k0 w) 7 k0 p0) 8 k0 4294967295) 9 k0 1) r kn ++ Y) := by
  have q3 := hC.sp
  have q1_w := hC.al hw
  have q2_w := hC.th hw h5w
  have q4_w := hC.rw (i := f 1 w) q1_w.2.1
  refine Cm.of [some (.ref (a 0 0)), some (.int (nI k0)), some (.int (nI w)), some (.int (nI p0))] pn_X2 rfl (Nat.le_of_ble_eq_true rfl) ?_
  intro p e s m args below meth c A C hE hr hnt hn
  refine r_iload_n C dX2_open_0 rfl ?_
  refine d_Sv (st := []) hX.stb C hE (C_needCursor_ok (f := f) (r := r) (kn := kn) (k := k0) hX (by first | omega | (simp [up2, *]; done) | (simp [up2, *]; omega) | (simp only [up2_eq]; omega) | (split <;> omega))) pk_X2_needCursor qm_X2_210 rfl rfl (Nat.le_of_ble_eq_true rfl) dX2_open_1 ⟨Nat.le_of_ble_eq_true rfl, Nat.le_of_ble_eq_true rfl⟩ ⟨Nat.le_of_ble_eq_true rfl, Nat.le_of_ble_eq_true rfl⟩ ?_
  refine r_aload_n C dX2_open_4 rfl ?_
  refine r_iload_n C dX2_open_5 rfl ?_
  refine d_Vv (st := []) hX.stb C hE (C_needWhere_ok (f := f) (r := r) (kn := kn) (w := w) hX (by first | omega | (simp [up2, *]; done) | (simp [up2, *]; omega) | (simp only [up2_eq]; omega) | (split <;> omega)) (by first | omega | (simp [up2, *]; done) | (simp [up2, *]; omega) | (simp only [up2_eq]; omega) | (split <;> omega))) pk_X2_needWhere qm_X2_39 0 6 rfl rfl wc_0 rfl rfl (Nat.le_of_ble_eq_true rfl) dX2_open_6 ⟨Nat.le_of_ble_eq_true rfl, Nat.le_of_ble_eq_true rfl⟩ ⟨Nat.le_of_ble_eq_true rfl, Nat.le_of_ble_eq_true rfl⟩ ?_
  refine r_aload_n C dX2_open_9 rfl ?_
  refine s_get C 0 (by decide) qf_X2_11 rfl rfl dX2_open_10 ?_
  refine r_iload_n C dX2_open_13 rfl ?_
  refine s_parts C (by first | omega | (simp [up2, *]; done) | (simp [up2, *]; omega) | (simp only [up2_eq]; omega) | (split <;> omega)) dX2_open_14 ?_
  refine r_iload_n C dX2_open_15 rfl ?_
  refine d_V (st := []) hX.stb C hE (C_isGap1 (f := f) (r := r) (kn := kn) (i := w) (k := p0) hX (by first | omega | (simp [up2, *]; done) | (simp [up2, *]; omega) | (simp only [up2_eq]; omega) | (split <;> omega)) (by first | omega | (simp [up2, *]; done) | (simp [up2, *]; omega) | (simp only [up2_eq]; omega) | (split <;> omega)) (by first | omega | (simp [up2, *]; done) | (simp [up2, *]; omega) | (simp only [up2_eq]; omega) | (split <;> omega))) pk_X1_isGap qm_X2_58 (3 + w) 5 rfl rfl (wc_p (by first | omega | (simp [up2, *]; done) | (simp [up2, *]; omega) | (simp only [up2_eq]; omega) | (split <;> omega))) rfl rfl (Nat.le_of_ble_eq_true rfl) dX2_open_16 ⟨Nat.le_of_ble_eq_true rfl, Nat.le_of_ble_eq_true rfl⟩ ⟨Nat.le_of_ble_eq_true rfl, Nat.le_of_ble_eq_true rfl⟩ ?_
  refine r_ifN_ne (a := 1) (tgt := 32) C (by first | omega | (simp [up2, *]; done) | (simp [up2, *]; omega) | (simp only [up2_eq]; omega) | (split <;> omega)) dX2_open_19 (by decide) (fun h19_1 => ?_) (fun h19_1 => ?_)
  · skip
    refine r_aload_n C dX2_open_32 rfl ?_
    refine s_get C 1 (by decide) qf_X2_24 rfl rfl dX2_open_33 ?_
    refine r_iload_n C dX2_open_36 rfl ?_
    refine s_curs C (by first | omega | (simp [up2, *]; done) | (simp [up2, *]; omega) | (simp only [up2_eq]; omega) | (split <;> omega)) dX2_open_37 ?_
    refine r_iload_n C dX2_open_38 rfl ?_
    refine r_iload_n C dX2_open_39 rfl ?_
    refine d_Vv (st := []) hX.stb C hE (C_beginAt (f := f) (r := r) (kn := kn) (k := k0) (w := w) (q0 := p0) hX (by first | omega | (simp [up2, *]; done) | (simp [up2, *]; omega) | (simp only [up2_eq]; omega) | (split <;> omega))) pk_X0_beginAt qm_X2_218 (21 + k0) 4 rfl rfl (wc_u (by first | omega | (simp [up2, *]; done) | (simp [up2, *]; omega) | (simp only [up2_eq]; omega) | (split <;> omega))) rfl rfl (Nat.le_of_ble_eq_true rfl) dX2_open_40 ⟨Nat.le_of_ble_eq_true rfl, Nat.le_of_ble_eq_true rfl⟩ ⟨Nat.le_of_ble_eq_true rfl, Nat.le_of_ble_eq_true rfl⟩ ?_
    refine r_aload_n C dX2_open_43 rfl ?_
    refine s_get C 0 (by decide) qf_X2_11 rfl rfl dX2_open_44 ?_
    refine r_iload_n C dX2_open_47 rfl ?_
    refine s_parts C (by first | omega | (simp [up2, *]; done) | (simp [up2, *]; omega) | (simp only [up2_eq]; omega) | (split <;> omega)) dX2_open_48 ?_
    refine p_getN (v := .int (nI (f 4 w))) hX C hE 4 (by first | omega | (simp [up2, *]; done) | (simp [up2, *]; omega) | (simp only [up2_eq]; omega) | (split <;> omega)) (by decide) qn_X2_50 rfl rfl dX2_open_49 ?_
    refine r_iload_n C dX2_open_52 rfl ?_
    refine r_isubN C dX2_open_53 (by first | omega | (simp [up2, *]; done) | (simp [up2, *]; omega) | (simp only [up2_eq]; omega) | (split <;> omega)) ?_
    exact r_iret C hr dX2_open_54 ⟨rfl, rfl⟩ (Nat.le_of_ble_eq_true rfl) (Nat.le_of_ble_eq_true rfl)
  · exact absurd h19_1 (by first | omega | (simp [up2, *]; done) | (simp [up2, *]; omega) | (simp only [up2_eq]; omega) | (split <;> omega))
theorem dX2_shut_0 : decode cX2_shut 0 = .ok (.iload_n 1, 1) := dqo_27 (kb_of ke_X2_shut 0 rfl)
theorem dX2_shut_1 : decode cX2_shut 1 = .ok (.invokestatic 210, 3) := dqo_184 0 210 (kb_of ke_X2_shut 1 rfl) (kb_of ke_X2_shut 2 rfl) (kb_of ke_X2_shut 3 rfl)
set_option maxRecDepth 100000 in
set_option maxHeartbeats 4000000 in
theorem C_shut_noC {l : Launch} {D : va_G} {cy : Nat → ClassId} {X : (Nat → Prop) → State → Heap → Prop} {a f : Nat → Nat → Nat} {r : Nat → Nat → Int32} {kn : Int32} {Y : va_W} {x : Int32} (hX : EnvX X) (hl : l.stackTraces = false) (hC : CInv f) (hno : ¬ (0 ≤ x ∧ x < nI 3)) : Ce l D cy X yX2_shut cX2_shut 3 (some .int) (rmk 8 1 6 170) [.ref (a 0 0), .int x] (WC cy a f r kn ++ Y) "java/lang/IndexOutOfBoundsException" := by
  have q3 := hC.sp
  refine Cm.of [some (.ref (a 0 0)), some (.int x), none] pn_X2 rfl (Nat.le_of_ble_eq_true rfl) ?_
  intro p e s m args below meth c A C hE hr hnt hn
  refine r_iload_n C dX2_shut_0 rfl ?_
  refine c_S (st := []) hX.stb C hE (C_needCursor_no (f := f) (r := r) (kn := kn) (x := (x)) hX hl hno) pk_X2_needCursor qm_X2_210 rfl rfl (Nat.le_of_ble_eq_true rfl) dX2_shut_1 ⟨Nat.le_of_ble_eq_true rfl, Nat.le_of_ble_eq_true rfl⟩ ⟨Nat.le_of_ble_eq_true rfl, Nat.le_of_ble_eq_true rfl⟩ (fun _ _ h9 => h9.elim) (fun E9 h9 => ?_)
  subst h9
  exact r_out C hnt rfl rfl (Nat.le_of_ble_eq_true rfl) (Nat.le_of_ble_eq_true rfl)
theorem dX2_shut_4 : decode cX2_shut 4 = .ok (.aload_n 0, 1) := dqo_42 (kb_of ke_X2_shut 4 rfl)
theorem dX2_shut_5 : decode cX2_shut 5 = .ok (.getfield 24, 3) := dqo_180 0 24 (kb_of ke_X2_shut 5 rfl) (kb_of ke_X2_shut 6 rfl) (kb_of ke_X2_shut 7 rfl)
theorem dX2_shut_8 : decode cX2_shut 8 = .ok (.iload_n 1, 1) := dqo_27 (kb_of ke_X2_shut 8 rfl)
theorem dX2_shut_9 : decode cX2_shut 9 = .ok (.aaload, 1) := dqo_50 (kb_of ke_X2_shut 9 rfl)
theorem dX2_shut_10 : decode cX2_shut 10 = .ok (.getfield 221, 3) := dqo_180 0 221 (kb_of ke_X2_shut 10 rfl) (kb_of ke_X2_shut 11 rfl) (kb_of ke_X2_shut 12 rfl)
theorem dX2_shut_13 : decode cX2_shut 13 = .ok (.istore_n 2, 1) := dqo_61 (kb_of ke_X2_shut 13 rfl)
theorem dX2_shut_14 : decode cX2_shut 14 = .ok (.aload_n 0, 1) := dqo_42 (kb_of ke_X2_shut 14 rfl)
theorem dX2_shut_15 : decode cX2_shut 15 = .ok (.getfield 24, 3) := dqo_180 0 24 (kb_of ke_X2_shut 15 rfl) (kb_of ke_X2_shut 16 rfl) (kb_of ke_X2_shut 17 rfl)
theorem dX2_shut_18 : decode cX2_shut 18 = .ok (.iload_n 1, 1) := dqo_27 (kb_of ke_X2_shut 18 rfl)
theorem dX2_shut_19 : decode cX2_shut 19 = .ok (.aaload, 1) := dqo_50 (kb_of ke_X2_shut 19 rfl)
theorem dX2_shut_20 : decode cX2_shut 20 = .ok (.iconst 0, 1) := dqo_3 (kb_of ke_X2_shut 20 rfl)
theorem dX2_shut_21 : decode cX2_shut 21 = .ok (.putfield 221, 3) := dqo_181 0 221 (kb_of ke_X2_shut 21 rfl) (kb_of ke_X2_shut 22 rfl) (kb_of ke_X2_shut 23 rfl)
theorem dX2_shut_24 : decode cX2_shut 24 = .ok (.iload_n 2, 1) := dqo_28 (kb_of ke_X2_shut 24 rfl)
theorem dX2_shut_25 : decode cX2_shut 25 = .ok (.ifCond .eq 7, 3) := dqo_153 0 7 (by decide) (kb_of ke_X2_shut 25 rfl) (kb_of ke_X2_shut 26 rfl) (kb_of ke_X2_shut 27 rfl)
theorem dX2_shut_28 : decode cX2_shut 28 = .ok (.iconst 1, 1) := dqo_4 (kb_of ke_X2_shut 28 rfl)
theorem dX2_shut_29 : decode cX2_shut 29 = .ok (.goto 4, 3) := dqo_167 0 4 (by decide) (kb_of ke_X2_shut 29 rfl) (kb_of ke_X2_shut 30 rfl) (kb_of ke_X2_shut 31 rfl)
theorem dX2_shut_32 : decode cX2_shut 32 = .ok (.iconst 0, 1) := dqo_3 (kb_of ke_X2_shut 32 rfl)
theorem dX2_shut_33 : decode cX2_shut 33 = .ok (.ireturn, 1) := dqo_172 (kb_of ke_X2_shut 33 rfl)
set_option maxRecDepth 100000 in
set_option maxHeartbeats 4000000 in
theorem C_shut_ok {l : Launch} {D : va_G} {cy : Nat → ClassId} {X : (Nat → Prop) → State → Heap → Prop} {a f : Nat → Nat → Nat} {r : Nat → Nat → Int32} {kn : Int32} {Y : va_W} {k0 : Nat} (hX : EnvX X) (hC : CInv f) (hk3 : k0 < 3) : Cd l D cy X yX2_shut cX2_shut 3 (some .int) (rmz 6 240) [.ref (a 0 0), .int (nI k0)] (WC cy a f r kn ++ Y) (some (.int (nI (f 9 k0)))) (WC cy a (up2 f 9 k0 0) r kn ++ Y) := by
  have q3 := hC.sp
  have q5 := hC.cu hk3
  refine Cm.of [some (.ref (a 0 0)), some (.int (nI k0)), none] pn_X2 rfl (Nat.le_of_ble_eq_true rfl) ?_
  intro p e s m args below meth c A C hE hr hnt hn
  refine r_iload_n C dX2_shut_0 rfl ?_
  refine d_Sv (st := []) hX.stb C hE (C_needCursor_ok (f := f) (r := r) (kn := kn) (k := k0) hX (by first | omega | (simp [up2, *]; done) | (simp [up2, *]; omega) | (simp only [up2_eq]; omega) | (split <;> omega))) pk_X2_needCursor qm_X2_210 rfl rfl (Nat.le_of_ble_eq_true rfl) dX2_shut_1 ⟨Nat.le_of_ble_eq_true rfl, Nat.le_of_ble_eq_true rfl⟩ ⟨Nat.le_of_ble_eq_true rfl, Nat.le_of_ble_eq_true rfl⟩ ?_
  refine r_aload_n C dX2_shut_4 rfl ?_
  refine s_get C 1 (by decide) qf_X2_24 rfl rfl dX2_shut_5 ?_
  refine r_iload_n C dX2_shut_8 rfl ?_
  refine s_curs C (by first | omega | (simp [up2, *]; done) | (simp [up2, *]; omega) | (simp only [up2_eq]; omega) | (split <;> omega)) dX2_shut_9 ?_
  refine u_getN (v := .int (nI (f 9 k0))) hX C hE 3 (by first | omega | (simp [up2, *]; done) | (simp [up2, *]; omega) | (simp only [up2_eq]; omega) | (split <;> omega)) (by decide) qn_X2_221 rfl rfl dX2_shut_10 ?_
  refine r_istore_n C dX2_shut_13 (by decide) rfl ?_
  refine r_aload_n C dX2_shut_14 rfl ?_
  refine s_get C 1 (by decide) qf_X2_24 rfl rfl dX2_shut_15 ?_
  refine r_iload_n C dX2_shut_18 rfl ?_
  refine s_curs C (by first | omega | (simp [up2, *]; done) | (simp [up2, *]; omega) | (simp only [up2_eq]; omega) | (split <;> omega)) dX2_shut_19 ?_
  refine r_iconst (v := (nI 0)) C dX2_shut_20 (by decide) ?_
  refine u_putZN hX C hE (by first | omega | (simp [up2, *]; done) | (simp [up2, *]; omega) | (simp only [up2_eq]; omega) | (split <;> omega)) (by first | omega | (simp [up2, *]; done) | (simp [up2, *]; omega) | (simp only [up2_eq]; omega) | (split <;> omega)) qn_X2_221 dX2_shut_21 ?_
  refine r_iload_n C dX2_shut_24 rfl ?_
  refine r_ifN_eq (a := (f 9 k0)) (tgt := 32) C (by first | omega | (simp [up2, *]; done) | (simp [up2, *]; omega) | (simp only [up2_eq]; omega) | (split <;> omega)) dX2_shut_25 (by decide) (fun h25_1 => ?_) (fun h25_1 => ?_)
  · first
    | exfalso; first | omega | contradiction
    | skip
      refine r_iconst (v := (nI 0)) C dX2_shut_32 (by decide) ?_
      exact r_iret C hr dX2_shut_33 ⟨by first | rfl | rw [show f 9 k0 = 0 by omega] | rw [show f 9 k0 = 1 by omega], rfl⟩ (Nat.le_of_ble_eq_true rfl) (Nat.le_of_ble_eq_true rfl)
  · first
    | exfalso; first | omega | contradiction
    | skip
      refine r_iconst (v := (nI 1)) C dX2_shut_28 (by decide) ?_
      refine r_goto (tgt := 33) C dX2_shut_29 (by decide) ?_
      exact r_iret C hr dX2_shut_33 ⟨by first | rfl | rw [show f 9 k0 = 0 by omega] | rw [show f 9 k0 = 1 by omega], rfl⟩ (Nat.le_of_ble_eq_true rfl) (Nat.le_of_ble_eq_true rfl)
theorem pk_X2_needCursorThere : PkV RX2 yX2_needCursorThere cX2_needCursorThere 2 none 1 := ⟨⟨qi_X2_needCursorThere, qs_X2_needCursorThere, qz_X2, qc_X2_needCursorThere⟩, rfl, mh_X2.1, mh_X2.2, pd_6⟩
theorem dX2_next_0 : decode cX2_next 0 = .ok (.aload_n 0, 1) := dqo_42 (kb_of ke_X2_next 0 rfl)
theorem dX2_next_1 : decode cX2_next 1 = .ok (.iload_n 1, 1) := dqo_27 (kb_of ke_X2_next 1 rfl)
theorem dX2_next_2 : decode cX2_next 2 = .ok (.invokevirtual 222, 3) := dqo_182 0 222 (kb_of ke_X2_next 2 rfl) (kb_of ke_X2_next 3 rfl) (kb_of ke_X2_next 4 rfl)
set_option maxRecDepth 100000 in
set_option maxHeartbeats 4000000 in
theorem C_next_noC {l : Launch} {D : va_G} {cy : Nat → ClassId} {X : (Nat → Prop) → State → Heap → Prop} {a f : Nat → Nat → Nat} {r : Nat → Nat → Int32} {kn : Int32} {Y : va_W} {x : Int32} (hX : EnvX X) (hl : l.stackTraces = false) (hC : CInv f) (hno : ¬ (0 ≤ x ∧ x < nI 3)) : Ce l D cy X yX2_next cX2_next 2 (some .int) (rmk 8 1 6 170) [.ref (a 0 0), .int x] (WC cy a f r kn ++ Y) "java/lang/IndexOutOfBoundsException" := by
  have q3 := hC.sp
  refine Cm.of [some (.ref (a 0 0)), some (.int x)] pn_X2 rfl (Nat.le_of_ble_eq_true rfl) ?_
  intro p e s m args below meth c A C hE hr hnt hn
  refine r_aload_n C dX2_next_0 rfl ?_
  refine r_iload_n C dX2_next_1 rfl ?_
  refine c_V (st := []) hX.stb C hE (C_needCursorThere_noC (f := f) (r := r) (kn := kn) (x := (x)) hX hl hno) pk_X2_needCursorThere qm_X2_222 0 6 rfl rfl wc_0 rfl rfl (Nat.le_of_ble_eq_true rfl) dX2_next_2 ⟨Nat.le_of_ble_eq_true rfl, Nat.le_of_ble_eq_true rfl⟩ ⟨Nat.le_of_ble_eq_true rfl, Nat.le_of_ble_eq_true rfl⟩ (fun _ _ h9 => h9.elim) (fun E9 h9 => ?_)
  subst h9
  exact r_out C hnt rfl rfl (Nat.le_of_ble_eq_true rfl) (Nat.le_of_ble_eq_true rfl)
set_option maxRecDepth 100000 in
set_option maxHeartbeats 4000000 in
theorem C_next_noT {l : Launch} {D : va_G} {cy : Nat → ClassId} {X : (Nat → Prop) → State → Heap → Prop} {a f : Nat → Nat → Nat} {r : Nat → Nat → Int32} {kn : Int32} {Y : va_W} {k0 : Nat} (hX : EnvX X) (hl : l.stackTraces = false) (hC : CInv f) (hk3 : k0 < 3) (h9 : f 9 k0 = 0) : Ce l D cy X yX2_next cX2_next 2 (some .int) (rmk 8 1 6 170) [.ref (a 0 0), .int (nI k0)] (WC cy a f r kn ++ Y) "java/lang/IllegalStateException" := by
  have q3 := hC.sp
  have q5 := hC.cu hk3
  refine Cm.of [some (.ref (a 0 0)), some (.int (nI k0))] pn_X2 rfl (Nat.le_of_ble_eq_true rfl) ?_
  intro p e s m args below meth c A C hE hr hnt hn
  refine r_aload_n C dX2_next_0 rfl ?_
  refine r_iload_n C dX2_next_1 rfl ?_
  refine c_V (st := []) hX.stb C hE (C_needCursorThere_no (f := f) (r := r) (kn := kn) (k := k0) hX hl (by first | omega | (simp [up2, *]; done) | (simp [up2, *]; omega) | (simp only [up2_eq]; omega) | (split <;> omega)) (by first | omega | (simp [up2, *]; done) | (simp [up2, *]; omega) | (simp only [up2_eq]; omega) | (split <;> omega))) pk_X2_needCursorThere qm_X2_222 0 6 rfl rfl wc_0 rfl rfl (Nat.le_of_ble_eq_true rfl) dX2_next_2 ⟨Nat.le_of_ble_eq_true rfl, Nat.le_of_ble_eq_true rfl⟩ ⟨Nat.le_of_ble_eq_true rfl, Nat.le_of_ble_eq_true rfl⟩ (fun _ _ h9 => h9.elim) (fun E9 h9 => ?_)
  subst h9
  exact r_out C hnt rfl rfl (Nat.le_of_ble_eq_true rfl) (Nat.le_of_ble_eq_true rfl)
theorem pk_X0_goForth : PkV RX0 yX0_goForth cX0_goForth 2 (some .int) 1 := ⟨⟨qi_X0_goForth, qs_X0_goForth, qz_X0, qc_X0_goForth⟩, rfl, mh_X0.1, mh_X0.2, pd_12⟩
theorem dX2_next_5 : decode cX2_next 5 = .ok (.aload_n 0, 1) := dqo_42 (kb_of ke_X2_next 5 rfl)
theorem dX2_next_6 : decode cX2_next 6 = .ok (.getfield 24, 3) := dqo_180 0 24 (kb_of ke_X2_next 6 rfl) (kb_of ke_X2_next 7 rfl) (kb_of ke_X2_next 8 rfl)
theorem dX2_next_9 : decode cX2_next 9 = .ok (.iload_n 1, 1) := dqo_27 (kb_of ke_X2_next 9 rfl)
theorem dX2_next_10 : decode cX2_next 10 = .ok (.aaload, 1) := dqo_50 (kb_of ke_X2_next 10 rfl)
theorem dX2_next_11 : decode cX2_next 11 = .ok (.aload_n 0, 1) := dqo_42 (kb_of ke_X2_next 11 rfl)
theorem dX2_next_12 : decode cX2_next 12 = .ok (.getfield 11, 3) := dqo_180 0 11 (kb_of ke_X2_next 12 rfl) (kb_of ke_X2_next 13 rfl) (kb_of ke_X2_next 14 rfl)
theorem dX2_next_15 : decode cX2_next 15 = .ok (.aload_n 0, 1) := dqo_42 (kb_of ke_X2_next 15 rfl)
theorem dX2_next_16 : decode cX2_next 16 = .ok (.getfield 24, 3) := dqo_180 0 24 (kb_of ke_X2_next 16 rfl) (kb_of ke_X2_next 17 rfl) (kb_of ke_X2_next 18 rfl)
theorem dX2_next_19 : decode cX2_next 19 = .ok (.iload_n 1, 1) := dqo_27 (kb_of ke_X2_next 19 rfl)
theorem dX2_next_20 : decode cX2_next 20 = .ok (.aaload, 1) := dqo_50 (kb_of ke_X2_next 20 rfl)
theorem dX2_next_21 : decode cX2_next 21 = .ok (.getfield 225, 3) := dqo_180 0 225 (kb_of ke_X2_next 21 rfl) (kb_of ke_X2_next 22 rfl) (kb_of ke_X2_next 23 rfl)
theorem dX2_next_24 : decode cX2_next 24 = .ok (.aaload, 1) := dqo_50 (kb_of ke_X2_next 24 rfl)
theorem dX2_next_25 : decode cX2_next 25 = .ok (.invokevirtual 228, 3) := dqo_182 0 228 (kb_of ke_X2_next 25 rfl) (kb_of ke_X2_next 26 rfl) (kb_of ke_X2_next 27 rfl)
theorem dX2_next_28 : decode cX2_next 28 = .ok (.ireturn, 1) := dqo_172 (kb_of ke_X2_next 28 rfl)
set_option maxRecDepth 100000 in
set_option maxHeartbeats 4000000 in
theorem C_next_end {l : Launch} {D : va_G} {cy : Nat → ClassId} {X : (Nat → Prop) → State → Heap → Prop} {a f : Nat → Nat → Nat} {r : Nat → Nat → Int32} {kn : Int32} {Y : va_W} {k0 : Nat} (hX : EnvX X) (hC : CInv f) (hk3 : k0 < 3) (h9 : f 9 k0 = 1) (hx : f 7 k0 = f 4 (f 6 k0)) : Cd l D cy X yX2_next cX2_next 2 (some .int) (rmz 6 240) [.ref (a 0 0), .int (nI k0)] (WC cy a f r kn ++ Y) (some (.int (nI 100))) (WC cy a f r kn ++ Y) := by
  have q3 := hC.sp
  have q5 := hC.cu hk3
  have q6 := q5.2.2 h9
  have q7 := hC.th q5.1 q6.1
  refine Cm.of [some (.ref (a 0 0)), some (.int (nI k0))] pn_X2 rfl (Nat.le_of_ble_eq_true rfl) ?_
  intro p e s m args below meth c A C hE hr hnt hn
  refine r_aload_n C dX2_next_0 rfl ?_
  refine r_iload_n C dX2_next_1 rfl ?_
  refine d_Vv (st := []) hX.stb C hE (C_needCursorThere_ok (f := f) (r := r) (kn := kn) (k := k0) hX (by first | omega | (simp [up2, *]; done) | (simp [up2, *]; omega) | (simp only [up2_eq]; omega) | (split <;> omega)) (by first | omega | (simp [up2, *]; done) | (simp [up2, *]; omega) | (simp only [up2_eq]; omega) | (split <;> omega))) pk_X2_needCursorThere qm_X2_222 0 6 rfl rfl wc_0 rfl rfl (Nat.le_of_ble_eq_true rfl) dX2_next_2 ⟨Nat.le_of_ble_eq_true rfl, Nat.le_of_ble_eq_true rfl⟩ ⟨Nat.le_of_ble_eq_true rfl, Nat.le_of_ble_eq_true rfl⟩ ?_
  refine r_aload_n C dX2_next_5 rfl ?_
  refine s_get C 1 (by decide) qf_X2_24 rfl rfl dX2_next_6 ?_
  refine r_iload_n C dX2_next_9 rfl ?_
  refine s_curs C (by first | omega | (simp [up2, *]; done) | (simp [up2, *]; omega) | (simp only [up2_eq]; omega) | (split <;> omega)) dX2_next_10 ?_
  refine r_aload_n C dX2_next_11 rfl ?_
  refine s_get C 0 (by decide) qf_X2_11 rfl rfl dX2_next_12 ?_
  refine r_aload_n C dX2_next_15 rfl ?_
  refine s_get C 1 (by decide) qf_X2_24 rfl rfl dX2_next_16 ?_
  refine r_iload_n C dX2_next_19 rfl ?_
  refine s_curs C (by first | omega | (simp [up2, *]; done) | (simp [up2, *]; omega) | (simp only [up2_eq]; omega) | (split <;> omega)) dX2_next_20 ?_
  refine u_getN (v := .int (nI (f 6 k0))) hX C hE 0 (by first | omega | (simp [up2, *]; done) | (simp [up2, *]; omega) | (simp only [up2_eq]; omega) | (split <;> omega)) (by decide) qn_X2_225 rfl rfl dX2_next_21 ?_
  refine s_parts C (by first | omega | (simp [up2, *]; done) | (simp [up2, *]; omega) | (simp only [up2_eq]; omega) | (split <;> omega)) dX2_next_24 ?_
  refine d_V (st := []) hX.stb C hE (C_goForth0 (f := f) (r := r) (kn := kn) (k := k0) (i := (f 6 k0)) hX (by first | omega | (simp [up2, *]; done) | (simp [up2, *]; omega) | (simp only [up2_eq]; omega) | (split <;> omega)) (by first | omega | (simp [up2, *]; done) | (simp [up2, *]; omega) | (simp only [up2_eq]; omega) | (split <;> omega)) (by first | omega | (simp [up2, *]; done) | (simp [up2, *]; omega) | (simp only [up2_eq]; omega) | (split <;> omega)) (by first | omega | (simp [up2, *]; done) | (simp [up2, *]; omega) | (simp only [up2_eq]; omega) | (split <;> omega))) pk_X0_goForth qm_X2_228 (21 + k0) 4 rfl rfl (wc_u (by first | omega | (simp [up2, *]; done) | (simp [up2, *]; omega) | (simp only [up2_eq]; omega) | (split <;> omega))) rfl rfl (Nat.le_of_ble_eq_true rfl) dX2_next_25 ⟨Nat.le_of_ble_eq_true rfl, Nat.le_of_ble_eq_true rfl⟩ ⟨Nat.le_of_ble_eq_true rfl, Nat.le_of_ble_eq_true rfl⟩ ?_
  exact r_iret C hr dX2_next_28 ⟨rfl, rfl⟩ (Nat.le_of_ble_eq_true rfl) (Nat.le_of_ble_eq_true rfl)
set_option maxRecDepth 100000 in
set_option maxHeartbeats 4000000 in
theorem C_next_ok {l : Launch} {D : va_G} {cy : Nat → ClassId} {X : (Nat → Prop) → State → Heap → Prop} {a f : Nat → Nat → Nat} {r : Nat → Nat → Int32} {kn : Int32} {Y : va_W} {k0 : Nat} (hX : EnvX X) (hC : CInv f) (hk3 : k0 < 3) (h9 : f 9 k0 = 1) (hx : f 7 k0 < f 4 (f 6 k0)) : Cd l D cy X yX2_next cX2_next 2 (some .int) (rmz 6 240) [.ref (a 0 0), .int (nI k0)] (WC cy a f r kn ++ Y) (some (.int (r (f 0 (f 6 k0)) (f 3 (f 6 k0) + f 7 k0)))) (WC cy a (up2 (up2 f 8 k0 (f 7 k0)) 7 k0 (f 7 k0 + 1)) r kn ++ Y) := by
  have q3 := hC.sp
  have q5 := hC.cu hk3
  have q6 := q5.2.2 h9
  have q7 := hC.th q5.1 q6.1
  refine Cm.of [some (.ref (a 0 0)), some (.int (nI k0))] pn_X2 rfl (Nat.le_of_ble_eq_true rfl) ?_
  intro p e s m args below meth c A C hE hr hnt hn
  refine r_aload_n C dX2_next_0 rfl ?_
  refine r_iload_n C dX2_next_1 rfl ?_
  refine d_Vv (st := []) hX.stb C hE (C_needCursorThere_ok (f := f) (r := r) (kn := kn) (k := k0) hX (by first | omega | (simp [up2, *]; done) | (simp [up2, *]; omega) | (simp only [up2_eq]; omega) | (split <;> omega)) (by first | omega | (simp [up2, *]; done) | (simp [up2, *]; omega) | (simp only [up2_eq]; omega) | (split <;> omega))) pk_X2_needCursorThere qm_X2_222 0 6 rfl rfl wc_0 rfl rfl (Nat.le_of_ble_eq_true rfl) dX2_next_2 ⟨Nat.le_of_ble_eq_true rfl, Nat.le_of_ble_eq_true rfl⟩ ⟨Nat.le_of_ble_eq_true rfl, Nat.le_of_ble_eq_true rfl⟩ ?_
  refine r_aload_n C dX2_next_5 rfl ?_
  refine s_get C 1 (by decide) qf_X2_24 rfl rfl dX2_next_6 ?_
  refine r_iload_n C dX2_next_9 rfl ?_
  refine s_curs C (by first | omega | (simp [up2, *]; done) | (simp [up2, *]; omega) | (simp only [up2_eq]; omega) | (split <;> omega)) dX2_next_10 ?_
  refine r_aload_n C dX2_next_11 rfl ?_
  refine s_get C 0 (by decide) qf_X2_11 rfl rfl dX2_next_12 ?_
  refine r_aload_n C dX2_next_15 rfl ?_
  refine s_get C 1 (by decide) qf_X2_24 rfl rfl dX2_next_16 ?_
  refine r_iload_n C dX2_next_19 rfl ?_
  refine s_curs C (by first | omega | (simp [up2, *]; done) | (simp [up2, *]; omega) | (simp only [up2_eq]; omega) | (split <;> omega)) dX2_next_20 ?_
  refine u_getN (v := .int (nI (f 6 k0))) hX C hE 0 (by first | omega | (simp [up2, *]; done) | (simp [up2, *]; omega) | (simp only [up2_eq]; omega) | (split <;> omega)) (by decide) qn_X2_225 rfl rfl dX2_next_21 ?_
  refine s_parts C (by first | omega | (simp [up2, *]; done) | (simp [up2, *]; omega) | (simp only [up2_eq]; omega) | (split <;> omega)) dX2_next_24 ?_
  refine d_V (st := []) hX.stb C hE (C_goForth1 (f := f) (r := r) (kn := kn) (k := k0) (i := (f 6 k0)) hX (by first | omega | (simp [up2, *]; done) | (simp [up2, *]; omega) | (simp only [up2_eq]; omega) | (split <;> omega)) (by first | omega | (simp [up2, *]; done) | (simp [up2, *]; omega) | (simp only [up2_eq]; omega) | (split <;> omega)) (by first | omega | (simp [up2, *]; done) | (simp [up2, *]; omega) | (simp only [up2_eq]; omega) | (split <;> omega)) (by first | omega | (simp [up2, *]; done) | (simp [up2, *]; omega) | (simp only [up2_eq]; omega) | (split <;> omega)) (by first | omega | (simp [up2, *]; done) | (simp [up2, *]; omega) | (simp only [up2_eq]; omega) | (split <;> omega))) pk_X0_goForth qm_X2_228 (21 + k0) 4 rfl rfl (wc_u (by first | omega | (simp [up2, *]; done) | (simp [up2, *]; omega) | (simp only [up2_eq]; omega) | (split <;> omega))) rfl rfl (Nat.le_of_ble_eq_true rfl) dX2_next_25 ⟨Nat.le_of_ble_eq_true rfl, Nat.le_of_ble_eq_true rfl⟩ ⟨Nat.le_of_ble_eq_true rfl, Nat.le_of_ble_eq_true rfl⟩ ?_
  exact r_iret C hr dX2_next_28 ⟨rfl, rfl⟩ (Nat.le_of_ble_eq_true rfl) (Nat.le_of_ble_eq_true rfl)
theorem dX2_previous_0 : decode cX2_previous 0 = .ok (.aload_n 0, 1) := dqo_42 (kb_of ke_X2_previous 0 rfl)
theorem dX2_previous_1 : decode cX2_previous 1 = .ok (.iload_n 1, 1) := dqo_27 (kb_of ke_X2_previous 1 rfl)
theorem dX2_previous_2 : decode cX2_previous 2 = .ok (.invokevirtual 222, 3) := dqo_182 0 222 (kb_of ke_X2_previous 2 rfl) (kb_of ke_X2_previous 3 rfl) (kb_of ke_X2_previous 4 rfl)
set_option maxRecDepth 100000 in
set_option maxHeartbeats 4000000 in
theorem C_previous_noC {l : Launch} {D : va_G} {cy : Nat → ClassId} {X : (Nat → Prop) → State → Heap → Prop} {a f : Nat → Nat → Nat} {r : Nat → Nat → Int32} {kn : Int32} {Y : va_W} {x : Int32} (hX : EnvX X) (hl : l.stackTraces = false) (hC : CInv f) (hno : ¬ (0 ≤ x ∧ x < nI 3)) : Ce l D cy X yX2_previous cX2_previous 2 (some .int) (rmk 8 1 6 170) [.ref (a 0 0), .int x] (WC cy a f r kn ++ Y) "java/lang/IndexOutOfBoundsException" := by
  have q3 := hC.sp
  refine Cm.of [some (.ref (a 0 0)), some (.int x)] pn_X2 rfl (Nat.le_of_ble_eq_true rfl) ?_
  intro p e s m args below meth c A C hE hr hnt hn
  refine r_aload_n C dX2_previous_0 rfl ?_
  refine r_iload_n C dX2_previous_1 rfl ?_
  refine c_V (st := []) hX.stb C hE (C_needCursorThere_noC (f := f) (r := r) (kn := kn) (x := (x)) hX hl hno) pk_X2_needCursorThere qm_X2_222 0 6 rfl rfl wc_0 rfl rfl (Nat.le_of_ble_eq_true rfl) dX2_previous_2 ⟨Nat.le_of_ble_eq_true rfl, Nat.le_of_ble_eq_true rfl⟩ ⟨Nat.le_of_ble_eq_true rfl, Nat.le_of_ble_eq_true rfl⟩ (fun _ _ h9 => h9.elim) (fun E9 h9 => ?_)
  subst h9
  exact r_out C hnt rfl rfl (Nat.le_of_ble_eq_true rfl) (Nat.le_of_ble_eq_true rfl)
set_option maxRecDepth 100000 in
set_option maxHeartbeats 4000000 in
theorem C_previous_noT {l : Launch} {D : va_G} {cy : Nat → ClassId} {X : (Nat → Prop) → State → Heap → Prop} {a f : Nat → Nat → Nat} {r : Nat → Nat → Int32} {kn : Int32} {Y : va_W} {k0 : Nat} (hX : EnvX X) (hl : l.stackTraces = false) (hC : CInv f) (hk3 : k0 < 3) (h9 : f 9 k0 = 0) : Ce l D cy X yX2_previous cX2_previous 2 (some .int) (rmk 8 1 6 170) [.ref (a 0 0), .int (nI k0)] (WC cy a f r kn ++ Y) "java/lang/IllegalStateException" := by
  have q3 := hC.sp
  have q5 := hC.cu hk3
  refine Cm.of [some (.ref (a 0 0)), some (.int (nI k0))] pn_X2 rfl (Nat.le_of_ble_eq_true rfl) ?_
  intro p e s m args below meth c A C hE hr hnt hn
  refine r_aload_n C dX2_previous_0 rfl ?_
  refine r_iload_n C dX2_previous_1 rfl ?_
  refine c_V (st := []) hX.stb C hE (C_needCursorThere_no (f := f) (r := r) (kn := kn) (k := k0) hX hl (by first | omega | (simp [up2, *]; done) | (simp [up2, *]; omega) | (simp only [up2_eq]; omega) | (split <;> omega)) (by first | omega | (simp [up2, *]; done) | (simp [up2, *]; omega) | (simp only [up2_eq]; omega) | (split <;> omega))) pk_X2_needCursorThere qm_X2_222 0 6 rfl rfl wc_0 rfl rfl (Nat.le_of_ble_eq_true rfl) dX2_previous_2 ⟨Nat.le_of_ble_eq_true rfl, Nat.le_of_ble_eq_true rfl⟩ ⟨Nat.le_of_ble_eq_true rfl, Nat.le_of_ble_eq_true rfl⟩ (fun _ _ h9 => h9.elim) (fun E9 h9 => ?_)
  subst h9
  exact r_out C hnt rfl rfl (Nat.le_of_ble_eq_true rfl) (Nat.le_of_ble_eq_true rfl)
theorem pk_X0_goBack : PkV RX0 yX0_goBack cX0_goBack 2 (some .int) 1 := ⟨⟨qi_X0_goBack, qs_X0_goBack, qz_X0, qc_X0_goBack⟩, rfl, mh_X0.1, mh_X0.2, pd_12⟩
theorem dX2_previous_5 : decode cX2_previous 5 = .ok (.aload_n 0, 1) := dqo_42 (kb_of ke_X2_previous 5 rfl)
theorem dX2_previous_6 : decode cX2_previous 6 = .ok (.getfield 24, 3) := dqo_180 0 24 (kb_of ke_X2_previous 6 rfl) (kb_of ke_X2_previous 7 rfl) (kb_of ke_X2_previous 8 rfl)
theorem dX2_previous_9 : decode cX2_previous 9 = .ok (.iload_n 1, 1) := dqo_27 (kb_of ke_X2_previous 9 rfl)
theorem dX2_previous_10 : decode cX2_previous 10 = .ok (.aaload, 1) := dqo_50 (kb_of ke_X2_previous 10 rfl)
theorem dX2_previous_11 : decode cX2_previous 11 = .ok (.aload_n 0, 1) := dqo_42 (kb_of ke_X2_previous 11 rfl)
theorem dX2_previous_12 : decode cX2_previous 12 = .ok (.getfield 11, 3) := dqo_180 0 11 (kb_of ke_X2_previous 12 rfl) (kb_of ke_X2_previous 13 rfl) (kb_of ke_X2_previous 14 rfl)
theorem dX2_previous_15 : decode cX2_previous 15 = .ok (.aload_n 0, 1) := dqo_42 (kb_of ke_X2_previous 15 rfl)
theorem dX2_previous_16 : decode cX2_previous 16 = .ok (.getfield 24, 3) := dqo_180 0 24 (kb_of ke_X2_previous 16 rfl) (kb_of ke_X2_previous 17 rfl) (kb_of ke_X2_previous 18 rfl)
theorem dX2_previous_19 : decode cX2_previous 19 = .ok (.iload_n 1, 1) := dqo_27 (kb_of ke_X2_previous 19 rfl)
theorem dX2_previous_20 : decode cX2_previous 20 = .ok (.aaload, 1) := dqo_50 (kb_of ke_X2_previous 20 rfl)
theorem dX2_previous_21 : decode cX2_previous 21 = .ok (.getfield 225, 3) := dqo_180 0 225 (kb_of ke_X2_previous 21 rfl) (kb_of ke_X2_previous 22 rfl) (kb_of ke_X2_previous 23 rfl)
theorem dX2_previous_24 : decode cX2_previous 24 = .ok (.aaload, 1) := dqo_50 (kb_of ke_X2_previous 24 rfl)
theorem dX2_previous_25 : decode cX2_previous 25 = .ok (.invokevirtual 231, 3) := dqo_182 0 231 (kb_of ke_X2_previous 25 rfl) (kb_of ke_X2_previous 26 rfl) (kb_of ke_X2_previous 27 rfl)
theorem dX2_previous_28 : decode cX2_previous 28 = .ok (.ireturn, 1) := dqo_172 (kb_of ke_X2_previous 28 rfl)
set_option maxRecDepth 100000 in
set_option maxHeartbeats 4000000 in
theorem C_previous_end {l : Launch} {D : va_G} {cy : Nat → ClassId} {X : (Nat → Prop) → State → Heap → Prop} {a f : Nat → Nat → Nat} {r : Nat → Nat → Int32} {kn : Int32} {Y : va_W} {k0 : Nat} (hX : EnvX X) (hC : CInv f) (hk3 : k0 < 3) (h9 : f 9 k0 = 1) (hx : f 7 k0 = 0) : Cd l D cy X yX2_previous cX2_previous 2 (some .int) (rmz 6 240) [.ref (a 0 0), .int (nI k0)] (WC cy a f r kn ++ Y) (some (.int (nI 100))) (WC cy a f r kn ++ Y) := by
  have q3 := hC.sp
  have q5 := hC.cu hk3
  have q6 := q5.2.2 h9
  have q7 := hC.th q5.1 q6.1
  refine Cm.of [some (.ref (a 0 0)), some (.int (nI k0))] pn_X2 rfl (Nat.le_of_ble_eq_true rfl) ?_
  intro p e s m args below meth c A C hE hr hnt hn
  refine r_aload_n C dX2_previous_0 rfl ?_
  refine r_iload_n C dX2_previous_1 rfl ?_
  refine d_Vv (st := []) hX.stb C hE (C_needCursorThere_ok (f := f) (r := r) (kn := kn) (k := k0) hX (by first | omega | (simp [up2, *]; done) | (simp [up2, *]; omega) | (simp only [up2_eq]; omega) | (split <;> omega)) (by first | omega | (simp [up2, *]; done) | (simp [up2, *]; omega) | (simp only [up2_eq]; omega) | (split <;> omega))) pk_X2_needCursorThere qm_X2_222 0 6 rfl rfl wc_0 rfl rfl (Nat.le_of_ble_eq_true rfl) dX2_previous_2 ⟨Nat.le_of_ble_eq_true rfl, Nat.le_of_ble_eq_true rfl⟩ ⟨Nat.le_of_ble_eq_true rfl, Nat.le_of_ble_eq_true rfl⟩ ?_
  refine r_aload_n C dX2_previous_5 rfl ?_
  refine s_get C 1 (by decide) qf_X2_24 rfl rfl dX2_previous_6 ?_
  refine r_iload_n C dX2_previous_9 rfl ?_
  refine s_curs C (by first | omega | (simp [up2, *]; done) | (simp [up2, *]; omega) | (simp only [up2_eq]; omega) | (split <;> omega)) dX2_previous_10 ?_
  refine r_aload_n C dX2_previous_11 rfl ?_
  refine s_get C 0 (by decide) qf_X2_11 rfl rfl dX2_previous_12 ?_
  refine r_aload_n C dX2_previous_15 rfl ?_
  refine s_get C 1 (by decide) qf_X2_24 rfl rfl dX2_previous_16 ?_
  refine r_iload_n C dX2_previous_19 rfl ?_
  refine s_curs C (by first | omega | (simp [up2, *]; done) | (simp [up2, *]; omega) | (simp only [up2_eq]; omega) | (split <;> omega)) dX2_previous_20 ?_
  refine u_getN (v := .int (nI (f 6 k0))) hX C hE 0 (by first | omega | (simp [up2, *]; done) | (simp [up2, *]; omega) | (simp only [up2_eq]; omega) | (split <;> omega)) (by decide) qn_X2_225 rfl rfl dX2_previous_21 ?_
  refine s_parts C (by first | omega | (simp [up2, *]; done) | (simp [up2, *]; omega) | (simp only [up2_eq]; omega) | (split <;> omega)) dX2_previous_24 ?_
  refine d_V (st := []) hX.stb C hE (C_goBack0 (f := f) (r := r) (kn := kn) (k := k0) (i := (f 6 k0)) hX (by first | omega | (simp [up2, *]; done) | (simp [up2, *]; omega) | (simp only [up2_eq]; omega) | (split <;> omega)) (by first | omega | (simp [up2, *]; done) | (simp [up2, *]; omega) | (simp only [up2_eq]; omega) | (split <;> omega)) (by first | omega | (simp [up2, *]; done) | (simp [up2, *]; omega) | (simp only [up2_eq]; omega) | (split <;> omega))) pk_X0_goBack qm_X2_231 (21 + k0) 4 rfl rfl (wc_u (by first | omega | (simp [up2, *]; done) | (simp [up2, *]; omega) | (simp only [up2_eq]; omega) | (split <;> omega))) rfl rfl (Nat.le_of_ble_eq_true rfl) dX2_previous_25 ⟨Nat.le_of_ble_eq_true rfl, Nat.le_of_ble_eq_true rfl⟩ ⟨Nat.le_of_ble_eq_true rfl, Nat.le_of_ble_eq_true rfl⟩ ?_
  exact r_iret C hr dX2_previous_28 ⟨rfl, rfl⟩ (Nat.le_of_ble_eq_true rfl) (Nat.le_of_ble_eq_true rfl)
set_option maxRecDepth 100000 in
set_option maxHeartbeats 4000000 in
theorem C_previous_ok {l : Launch} {D : va_G} {cy : Nat → ClassId} {X : (Nat → Prop) → State → Heap → Prop} {a f : Nat → Nat → Nat} {r : Nat → Nat → Int32} {kn : Int32} {Y : va_W} {k0 : Nat} (hX : EnvX X) (hC : CInv f) (hk3 : k0 < 3) (h9 : f 9 k0 = 1) (hx : 0 < f 7 k0) : Cd l D cy X yX2_previous cX2_previous 2 (some .int) (rmz 6 240) [.ref (a 0 0), .int (nI k0)] (WC cy a f r kn ++ Y) (some (.int (r (f 0 (f 6 k0)) (f 3 (f 6 k0) + (f 7 k0 - 1))))) (WC cy a (up2 (up2 f 7 k0 (f 7 k0 - 1)) 8 k0 (f 7 k0 - 1)) r kn ++ Y) := by
  have q3 := hC.sp
  have q5 := hC.cu hk3
  have q6 := q5.2.2 h9
  have q7 := hC.th q5.1 q6.1
  refine Cm.of [some (.ref (a 0 0)), some (.int (nI k0))] pn_X2 rfl (Nat.le_of_ble_eq_true rfl) ?_
  intro p e s m args below meth c A C hE hr hnt hn
  refine r_aload_n C dX2_previous_0 rfl ?_
  refine r_iload_n C dX2_previous_1 rfl ?_
  refine d_Vv (st := []) hX.stb C hE (C_needCursorThere_ok (f := f) (r := r) (kn := kn) (k := k0) hX (by first | omega | (simp [up2, *]; done) | (simp [up2, *]; omega) | (simp only [up2_eq]; omega) | (split <;> omega)) (by first | omega | (simp [up2, *]; done) | (simp [up2, *]; omega) | (simp only [up2_eq]; omega) | (split <;> omega))) pk_X2_needCursorThere qm_X2_222 0 6 rfl rfl wc_0 rfl rfl (Nat.le_of_ble_eq_true rfl) dX2_previous_2 ⟨Nat.le_of_ble_eq_true rfl, Nat.le_of_ble_eq_true rfl⟩ ⟨Nat.le_of_ble_eq_true rfl, Nat.le_of_ble_eq_true rfl⟩ ?_
  refine r_aload_n C dX2_previous_5 rfl ?_
  refine s_get C 1 (by decide) qf_X2_24 rfl rfl dX2_previous_6 ?_
  refine r_iload_n C dX2_previous_9 rfl ?_
  refine s_curs C (by first | omega | (simp [up2, *]; done) | (simp [up2, *]; omega) | (simp only [up2_eq]; omega) | (split <;> omega)) dX2_previous_10 ?_
  refine r_aload_n C dX2_previous_11 rfl ?_
  refine s_get C 0 (by decide) qf_X2_11 rfl rfl dX2_previous_12 ?_
  refine r_aload_n C dX2_previous_15 rfl ?_
  refine s_get C 1 (by decide) qf_X2_24 rfl rfl dX2_previous_16 ?_
  refine r_iload_n C dX2_previous_19 rfl ?_
  refine s_curs C (by first | omega | (simp [up2, *]; done) | (simp [up2, *]; omega) | (simp only [up2_eq]; omega) | (split <;> omega)) dX2_previous_20 ?_
  refine u_getN (v := .int (nI (f 6 k0))) hX C hE 0 (by first | omega | (simp [up2, *]; done) | (simp [up2, *]; omega) | (simp only [up2_eq]; omega) | (split <;> omega)) (by decide) qn_X2_225 rfl rfl dX2_previous_21 ?_
  refine s_parts C (by first | omega | (simp [up2, *]; done) | (simp [up2, *]; omega) | (simp only [up2_eq]; omega) | (split <;> omega)) dX2_previous_24 ?_
  refine d_V (st := []) hX.stb C hE (C_goBack1 (f := f) (r := r) (kn := kn) (k := k0) (i := (f 6 k0)) hX (by first | omega | (simp [up2, *]; done) | (simp [up2, *]; omega) | (simp only [up2_eq]; omega) | (split <;> omega)) (by first | omega | (simp [up2, *]; done) | (simp [up2, *]; omega) | (simp only [up2_eq]; omega) | (split <;> omega)) (by first | omega | (simp [up2, *]; done) | (simp [up2, *]; omega) | (simp only [up2_eq]; omega) | (split <;> omega)) (by first | omega | (simp [up2, *]; done) | (simp [up2, *]; omega) | (simp only [up2_eq]; omega) | (split <;> omega)) (by first | omega | (simp [up2, *]; done) | (simp [up2, *]; omega) | (simp only [up2_eq]; omega) | (split <;> omega)) (by first | omega | (simp [up2, *]; done) | (simp [up2, *]; omega) | (simp only [up2_eq]; omega) | (split <;> omega))) pk_X0_goBack qm_X2_231 (21 + k0) 4 rfl rfl (wc_u (by first | omega | (simp [up2, *]; done) | (simp [up2, *]; omega) | (simp only [up2_eq]; omega) | (split <;> omega))) rfl rfl (Nat.le_of_ble_eq_true rfl) dX2_previous_25 ⟨Nat.le_of_ble_eq_true rfl, Nat.le_of_ble_eq_true rfl⟩ ⟨Nat.le_of_ble_eq_true rfl, Nat.le_of_ble_eq_true rfl⟩ ?_
  exact r_iret C hr dX2_previous_28 ⟨rfl, rfl⟩ (Nat.le_of_ble_eq_true rfl) (Nat.le_of_ble_eq_true rfl)
theorem dX2_put_0 : decode cX2_put 0 = .ok (.iload_n 1, 1) := dqo_27 (kb_of ke_X2_put 0 rfl)
theorem dX2_put_1 : decode cX2_put 1 = .ok (.invokestatic 210, 3) := dqo_184 0 210 (kb_of ke_X2_put 1 rfl) (kb_of ke_X2_put 2 rfl) (kb_of ke_X2_put 3 rfl)
set_option maxRecDepth 100000 in
set_option maxHeartbeats 4000000 in
theorem C_put_noC {l : Launch} {D : va_G} {cy : Nat → ClassId} {X : (Nat → Prop) → State → Heap → Prop} {a f : Nat → Nat → Nat} {r : Nat → Nat → Int32} {kn : Int32} {Y : va_W} {x : Int32} {y0 : Int32} (hX : EnvX X) (hl : l.stackTraces = false) (hC : CInv f) (hno : ¬ (0 ≤ x ∧ x < nI 3)) : Ce l D cy X yX2_put cX2_put 4 (some .int) (rmk 8 1 6 170) [.ref (a 0 0), .int x, .int y0] (WC cy a f r kn ++ Y) "java/lang/IndexOutOfBoundsException" := by
  have q3 := hC.sp
  refine Cm.of [some (.ref (a 0 0)), some (.int x), some (.int y0), none] pn_X2 rfl (Nat.le_of_ble_eq_true rfl) ?_
  intro p e s m args below meth c A C hE hr hnt hn
  refine r_iload_n C dX2_put_0 rfl ?_
  refine c_S (st := []) hX.stb C hE (C_needCursor_no (f := f) (r := r) (kn := kn) (x := (x)) hX hl hno) pk_X2_needCursor qm_X2_210 rfl rfl (Nat.le_of_ble_eq_true rfl) dX2_put_1 ⟨Nat.le_of_ble_eq_true rfl, Nat.le_of_ble_eq_true rfl⟩ ⟨Nat.le_of_ble_eq_true rfl, Nat.le_of_ble_eq_true rfl⟩ (fun _ _ h9 => h9.elim) (fun E9 h9 => ?_)
  subst h9
  exact r_out C hnt rfl rfl (Nat.le_of_ble_eq_true rfl) (Nat.le_of_ble_eq_true rfl)
theorem dX2_put_4 : decode cX2_put 4 = .ok (.iload_n 2, 1) := dqo_28 (kb_of ke_X2_put 4 rfl)
theorem dX2_put_5 : decode cX2_put 5 = .ok (.invokestatic 43, 3) := dqo_184 0 43 (kb_of ke_X2_put 5 rfl) (kb_of ke_X2_put 6 rfl) (kb_of ke_X2_put 7 rfl)
set_option maxRecDepth 100000 in
set_option maxHeartbeats 4000000 in
theorem C_put_noI {l : Launch} {D : va_G} {cy : Nat → ClassId} {X : (Nat → Prop) → State → Heap → Prop} {a f : Nat → Nat → Nat} {r : Nat → Nat → Int32} {kn : Int32} {Y : va_W} {k0 : Nat} {y : Int32} (hX : EnvX X) (hl : l.stackTraces = false) (hC : CInv f) (hk3 : k0 < 3) (ho : ¬ okI y) : Ce l D cy X yX2_put cX2_put 4 (some .int) (rmk 8 1 6 170) [.ref (a 0 0), .int (nI k0), .int y] (WC cy a f r kn ++ Y) "java/lang/IllegalArgumentException" := by
  have q3 := hC.sp
  have q5 := hC.cu hk3
  refine Cm.of [some (.ref (a 0 0)), some (.int (nI k0)), some (.int y), none] pn_X2 rfl (Nat.le_of_ble_eq_true rfl) ?_
  intro p e s m args below meth c A C hE hr hnt hn
  refine r_iload_n C dX2_put_0 rfl ?_
  refine d_Sv (st := []) hX.stb C hE (C_needCursor_ok (f := f) (r := r) (kn := kn) (k := k0) hX (by first | omega | (simp [up2, *]; done) | (simp [up2, *]; omega) | (simp only [up2_eq]; omega) | (split <;> omega))) pk_X2_needCursor qm_X2_210 rfl rfl (Nat.le_of_ble_eq_true rfl) dX2_put_1 ⟨Nat.le_of_ble_eq_true rfl, Nat.le_of_ble_eq_true rfl⟩ ⟨Nat.le_of_ble_eq_true rfl, Nat.le_of_ble_eq_true rfl⟩ ?_
  refine r_iload_n C dX2_put_4 rfl ?_
  refine c_S (st := []) hX.stb C hE (C_needItem_no (f := f) (r := r) (kn := kn) (x := (y)) hX hl ho) pk_X2_needItem qm_X2_43 rfl rfl (Nat.le_of_ble_eq_true rfl) dX2_put_5 ⟨Nat.le_of_ble_eq_true rfl, Nat.le_of_ble_eq_true rfl⟩ ⟨Nat.le_of_ble_eq_true rfl, Nat.le_of_ble_eq_true rfl⟩ (fun _ _ h9 => h9.elim) (fun E9 h9 => ?_)
  subst h9
  exact r_out C hnt rfl rfl (Nat.le_of_ble_eq_true rfl) (Nat.le_of_ble_eq_true rfl)
theorem dX2_put_8 : decode cX2_put 8 = .ok (.aload_n 0, 1) := dqo_42 (kb_of ke_X2_put 8 rfl)
theorem dX2_put_9 : decode cX2_put 9 = .ok (.iload_n 1, 1) := dqo_27 (kb_of ke_X2_put 9 rfl)
theorem dX2_put_10 : decode cX2_put 10 = .ok (.invokevirtual 222, 3) := dqo_182 0 222 (kb_of ke_X2_put 10 rfl) (kb_of ke_X2_put 11 rfl) (kb_of ke_X2_put 12 rfl)
set_option maxRecDepth 100000 in
set_option maxHeartbeats 4000000 in
theorem C_put_noT {l : Launch} {D : va_G} {cy : Nat → ClassId} {X : (Nat → Prop) → State → Heap → Prop} {a f : Nat → Nat → Nat} {r : Nat → Nat → Int32} {kn : Int32} {Y : va_W} {k0 : Nat} {y : Int32} (hX : EnvX X) (hl : l.stackTraces = false) (hC : CInv f) (hk3 : k0 < 3) (ho : okI y) (h9 : f 9 k0 = 0) : Ce l D cy X yX2_put cX2_put 4 (some .int) (rmk 8 1 6 170) [.ref (a 0 0), .int (nI k0), .int y] (WC cy a f r kn ++ Y) "java/lang/IllegalStateException" := by
  have q3 := hC.sp
  have q5 := hC.cu hk3
  refine Cm.of [some (.ref (a 0 0)), some (.int (nI k0)), some (.int y), none] pn_X2 rfl (Nat.le_of_ble_eq_true rfl) ?_
  intro p e s m args below meth c A C hE hr hnt hn
  refine r_iload_n C dX2_put_0 rfl ?_
  refine d_Sv (st := []) hX.stb C hE (C_needCursor_ok (f := f) (r := r) (kn := kn) (k := k0) hX (by first | omega | (simp [up2, *]; done) | (simp [up2, *]; omega) | (simp only [up2_eq]; omega) | (split <;> omega))) pk_X2_needCursor qm_X2_210 rfl rfl (Nat.le_of_ble_eq_true rfl) dX2_put_1 ⟨Nat.le_of_ble_eq_true rfl, Nat.le_of_ble_eq_true rfl⟩ ⟨Nat.le_of_ble_eq_true rfl, Nat.le_of_ble_eq_true rfl⟩ ?_
  refine r_iload_n C dX2_put_4 rfl ?_
  refine d_Sv (st := []) hX.stb C hE (C_needItem_ok (f := f) (r := r) (kn := kn) (x := (y)) hX ho) pk_X2_needItem qm_X2_43 rfl rfl (Nat.le_of_ble_eq_true rfl) dX2_put_5 ⟨Nat.le_of_ble_eq_true rfl, Nat.le_of_ble_eq_true rfl⟩ ⟨Nat.le_of_ble_eq_true rfl, Nat.le_of_ble_eq_true rfl⟩ ?_
  refine r_aload_n C dX2_put_8 rfl ?_
  refine r_iload_n C dX2_put_9 rfl ?_
  refine c_V (st := []) hX.stb C hE (C_needCursorThere_no (f := f) (r := r) (kn := kn) (k := k0) hX hl (by first | omega | (simp [up2, *]; done) | (simp [up2, *]; omega) | (simp only [up2_eq]; omega) | (split <;> omega)) (by first | omega | (simp [up2, *]; done) | (simp [up2, *]; omega) | (simp only [up2_eq]; omega) | (split <;> omega))) pk_X2_needCursorThere qm_X2_222 0 6 rfl rfl wc_0 rfl rfl (Nat.le_of_ble_eq_true rfl) dX2_put_10 ⟨Nat.le_of_ble_eq_true rfl, Nat.le_of_ble_eq_true rfl⟩ ⟨Nat.le_of_ble_eq_true rfl, Nat.le_of_ble_eq_true rfl⟩ (fun _ _ h9 => h9.elim) (fun E9 h9 => ?_)
  subst h9
  exact r_out C hnt rfl rfl (Nat.le_of_ble_eq_true rfl) (Nat.le_of_ble_eq_true rfl)
theorem dX2_replace_0 : decode cX2_replace 0 = .ok (.iload_n 1, 1) := dqo_27 (kb_of ke_X2_replace 0 rfl)
theorem dX2_replace_1 : decode cX2_replace 1 = .ok (.invokestatic 210, 3) := dqo_184 0 210 (kb_of ke_X2_replace 1 rfl) (kb_of ke_X2_replace 2 rfl) (kb_of ke_X2_replace 3 rfl)
set_option maxRecDepth 100000 in
set_option maxHeartbeats 4000000 in
theorem C_replace_noC {l : Launch} {D : va_G} {cy : Nat → ClassId} {X : (Nat → Prop) → State → Heap → Prop} {a f : Nat → Nat → Nat} {r : Nat → Nat → Int32} {kn : Int32} {Y : va_W} {x : Int32} {y0 : Int32} (hX : EnvX X) (hl : l.stackTraces = false) (hC : CInv f) (hno : ¬ (0 ≤ x ∧ x < nI 3)) : Ce l D cy X yX2_replace cX2_replace 4 (some .int) (rmk 8 1 6 170) [.ref (a 0 0), .int x, .int y0] (WC cy a f r kn ++ Y) "java/lang/IndexOutOfBoundsException" := by
  have q3 := hC.sp
  refine Cm.of [some (.ref (a 0 0)), some (.int x), some (.int y0), none] pn_X2 rfl (Nat.le_of_ble_eq_true rfl) ?_
  intro p e s m args below meth c A C hE hr hnt hn
  refine r_iload_n C dX2_replace_0 rfl ?_
  refine c_S (st := []) hX.stb C hE (C_needCursor_no (f := f) (r := r) (kn := kn) (x := (x)) hX hl hno) pk_X2_needCursor qm_X2_210 rfl rfl (Nat.le_of_ble_eq_true rfl) dX2_replace_1 ⟨Nat.le_of_ble_eq_true rfl, Nat.le_of_ble_eq_true rfl⟩ ⟨Nat.le_of_ble_eq_true rfl, Nat.le_of_ble_eq_true rfl⟩ (fun _ _ h9 => h9.elim) (fun E9 h9 => ?_)
  subst h9
  exact r_out C hnt rfl rfl (Nat.le_of_ble_eq_true rfl) (Nat.le_of_ble_eq_true rfl)
theorem dX2_replace_4 : decode cX2_replace 4 = .ok (.iload_n 2, 1) := dqo_28 (kb_of ke_X2_replace 4 rfl)
theorem dX2_replace_5 : decode cX2_replace 5 = .ok (.invokestatic 43, 3) := dqo_184 0 43 (kb_of ke_X2_replace 5 rfl) (kb_of ke_X2_replace 6 rfl) (kb_of ke_X2_replace 7 rfl)
set_option maxRecDepth 100000 in
set_option maxHeartbeats 4000000 in
theorem C_replace_noI {l : Launch} {D : va_G} {cy : Nat → ClassId} {X : (Nat → Prop) → State → Heap → Prop} {a f : Nat → Nat → Nat} {r : Nat → Nat → Int32} {kn : Int32} {Y : va_W} {k0 : Nat} {y : Int32} (hX : EnvX X) (hl : l.stackTraces = false) (hC : CInv f) (hk3 : k0 < 3) (ho : ¬ okI y) : Ce l D cy X yX2_replace cX2_replace 4 (some .int) (rmk 8 1 6 170) [.ref (a 0 0), .int (nI k0), .int y] (WC cy a f r kn ++ Y) "java/lang/IllegalArgumentException" := by
  have q3 := hC.sp
  have q5 := hC.cu hk3
  refine Cm.of [some (.ref (a 0 0)), some (.int (nI k0)), some (.int y), none] pn_X2 rfl (Nat.le_of_ble_eq_true rfl) ?_
  intro p e s m args below meth c A C hE hr hnt hn
  refine r_iload_n C dX2_replace_0 rfl ?_
  refine d_Sv (st := []) hX.stb C hE (C_needCursor_ok (f := f) (r := r) (kn := kn) (k := k0) hX (by first | omega | (simp [up2, *]; done) | (simp [up2, *]; omega) | (simp only [up2_eq]; omega) | (split <;> omega))) pk_X2_needCursor qm_X2_210 rfl rfl (Nat.le_of_ble_eq_true rfl) dX2_replace_1 ⟨Nat.le_of_ble_eq_true rfl, Nat.le_of_ble_eq_true rfl⟩ ⟨Nat.le_of_ble_eq_true rfl, Nat.le_of_ble_eq_true rfl⟩ ?_
  refine r_iload_n C dX2_replace_4 rfl ?_
  refine c_S (st := []) hX.stb C hE (C_needItem_no (f := f) (r := r) (kn := kn) (x := (y)) hX hl ho) pk_X2_needItem qm_X2_43 rfl rfl (Nat.le_of_ble_eq_true rfl) dX2_replace_5 ⟨Nat.le_of_ble_eq_true rfl, Nat.le_of_ble_eq_true rfl⟩ ⟨Nat.le_of_ble_eq_true rfl, Nat.le_of_ble_eq_true rfl⟩ (fun _ _ h9 => h9.elim) (fun E9 h9 => ?_)
  subst h9
  exact r_out C hnt rfl rfl (Nat.le_of_ble_eq_true rfl) (Nat.le_of_ble_eq_true rfl)
theorem dX2_replace_8 : decode cX2_replace 8 = .ok (.aload_n 0, 1) := dqo_42 (kb_of ke_X2_replace 8 rfl)
theorem dX2_replace_9 : decode cX2_replace 9 = .ok (.iload_n 1, 1) := dqo_27 (kb_of ke_X2_replace 9 rfl)
theorem dX2_replace_10 : decode cX2_replace 10 = .ok (.invokevirtual 222, 3) := dqo_182 0 222 (kb_of ke_X2_replace 10 rfl) (kb_of ke_X2_replace 11 rfl) (kb_of ke_X2_replace 12 rfl)
set_option maxRecDepth 100000 in
set_option maxHeartbeats 4000000 in
theorem C_replace_noT {l : Launch} {D : va_G} {cy : Nat → ClassId} {X : (Nat → Prop) → State → Heap → Prop} {a f : Nat → Nat → Nat} {r : Nat → Nat → Int32} {kn : Int32} {Y : va_W} {k0 : Nat} {y : Int32} (hX : EnvX X) (hl : l.stackTraces = false) (hC : CInv f) (hk3 : k0 < 3) (ho : okI y) (h9 : f 9 k0 = 0) : Ce l D cy X yX2_replace cX2_replace 4 (some .int) (rmk 8 1 6 170) [.ref (a 0 0), .int (nI k0), .int y] (WC cy a f r kn ++ Y) "java/lang/IllegalStateException" := by
  have q3 := hC.sp
  have q5 := hC.cu hk3
  refine Cm.of [some (.ref (a 0 0)), some (.int (nI k0)), some (.int y), none] pn_X2 rfl (Nat.le_of_ble_eq_true rfl) ?_
  intro p e s m args below meth c A C hE hr hnt hn
  refine r_iload_n C dX2_replace_0 rfl ?_
  refine d_Sv (st := []) hX.stb C hE (C_needCursor_ok (f := f) (r := r) (kn := kn) (k := k0) hX (by first | omega | (simp [up2, *]; done) | (simp [up2, *]; omega) | (simp only [up2_eq]; omega) | (split <;> omega))) pk_X2_needCursor qm_X2_210 rfl rfl (Nat.le_of_ble_eq_true rfl) dX2_replace_1 ⟨Nat.le_of_ble_eq_true rfl, Nat.le_of_ble_eq_true rfl⟩ ⟨Nat.le_of_ble_eq_true rfl, Nat.le_of_ble_eq_true rfl⟩ ?_
  refine r_iload_n C dX2_replace_4 rfl ?_
  refine d_Sv (st := []) hX.stb C hE (C_needItem_ok (f := f) (r := r) (kn := kn) (x := (y)) hX ho) pk_X2_needItem qm_X2_43 rfl rfl (Nat.le_of_ble_eq_true rfl) dX2_replace_5 ⟨Nat.le_of_ble_eq_true rfl, Nat.le_of_ble_eq_true rfl⟩ ⟨Nat.le_of_ble_eq_true rfl, Nat.le_of_ble_eq_true rfl⟩ ?_
  refine r_aload_n C dX2_replace_8 rfl ?_
  refine r_iload_n C dX2_replace_9 rfl ?_
  refine c_V (st := []) hX.stb C hE (C_needCursorThere_no (f := f) (r := r) (kn := kn) (k := k0) hX hl (by first | omega | (simp [up2, *]; done) | (simp [up2, *]; omega) | (simp only [up2_eq]; omega) | (split <;> omega)) (by first | omega | (simp [up2, *]; done) | (simp [up2, *]; omega) | (simp only [up2_eq]; omega) | (split <;> omega))) pk_X2_needCursorThere qm_X2_222 0 6 rfl rfl wc_0 rfl rfl (Nat.le_of_ble_eq_true rfl) dX2_replace_10 ⟨Nat.le_of_ble_eq_true rfl, Nat.le_of_ble_eq_true rfl⟩ ⟨Nat.le_of_ble_eq_true rfl, Nat.le_of_ble_eq_true rfl⟩ (fun _ _ h9 => h9.elim) (fun E9 h9 => ?_)
  subst h9
  exact r_out C hnt rfl rfl (Nat.le_of_ble_eq_true rfl) (Nat.le_of_ble_eq_true rfl)
theorem dX2_put_13 : decode cX2_put 13 = .ok (.aload_n 0, 1) := dqo_42 (kb_of ke_X2_put 13 rfl)
theorem dX2_put_14 : decode cX2_put 14 = .ok (.getfield 24, 3) := dqo_180 0 24 (kb_of ke_X2_put 14 rfl) (kb_of ke_X2_put 15 rfl) (kb_of ke_X2_put 16 rfl)
theorem dX2_put_17 : decode cX2_put 17 = .ok (.iload_n 1, 1) := dqo_27 (kb_of ke_X2_put 17 rfl)
theorem dX2_put_18 : decode cX2_put 18 = .ok (.aaload, 1) := dqo_50 (kb_of ke_X2_put 18 rfl)
theorem dX2_put_19 : decode cX2_put 19 = .ok (.astore_n 3, 1) := dqo_78 (kb_of ke_X2_put 19 rfl)
theorem dX2_put_20 : decode cX2_put 20 = .ok (.aload_n 0, 1) := dqo_42 (kb_of ke_X2_put 20 rfl)
theorem dX2_put_21 : decode cX2_put 21 = .ok (.aload_n 3, 1) := dqo_45 (kb_of ke_X2_put 21 rfl)
theorem dX2_put_22 : decode cX2_put 22 = .ok (.getfield 225, 3) := dqo_180 0 225 (kb_of ke_X2_put 22 rfl) (kb_of ke_X2_put 23 rfl) (kb_of ke_X2_put 24 rfl)
theorem dX2_put_25 : decode cX2_put 25 = .ok (.iconst 1, 1) := dqo_4 (kb_of ke_X2_put 25 rfl)
theorem dX2_put_26 : decode cX2_put 26 = .ok (.invokevirtual 46, 3) := dqo_182 0 46 (kb_of ke_X2_put 26 rfl) (kb_of ke_X2_put 27 rfl) (kb_of ke_X2_put 28 rfl)
set_option maxRecDepth 100000 in
set_option maxHeartbeats 4000000 in
theorem C_put_full {l : Launch} {D : va_G} {cy : Nat → ClassId} {X : (Nat → Prop) → State → Heap → Prop} {a f : Nat → Nat → Nat} {r : Nat → Nat → Int32} {kn : Int32} {Y : va_W} {k0 : Nat} {y : Int32} (hX : EnvX X) (hl : l.stackTraces = false) (hC : CInv f) (hk3 : k0 < 3) (ho : okI y) (h9 : f 9 k0 = 1) (hfull : 12 ≤ f 4 (f 1 (f 6 k0))) : Ce l D cy X yX2_put cX2_put 4 (some .int) (rmk 8 1 6 170) [.ref (a 0 0), .int (nI k0), .int y] (WC cy a f r kn ++ Y) "java/lang/IllegalStateException" := by
  have q3 := hC.sp
  have q5 := hC.cu hk3
  have q6 := q5.2.2 h9
  have q7 := hC.th q5.1 q6.1
  have q8 := hC.al q5.1
  have q9 := hC.rw (i := f 1 (f 6 k0)) q8.2.1
  refine Cm.of [some (.ref (a 0 0)), some (.int (nI k0)), some (.int y), none] pn_X2 rfl (Nat.le_of_ble_eq_true rfl) ?_
  intro p e s m args below meth c A C hE hr hnt hn
  refine r_iload_n C dX2_put_0 rfl ?_
  refine d_Sv (st := []) hX.stb C hE (C_needCursor_ok (f := f) (r := r) (kn := kn) (k := k0) hX (by first | omega | (simp [up2, *]; done) | (simp [up2, *]; omega) | (simp only [up2_eq]; omega) | (split <;> omega))) pk_X2_needCursor qm_X2_210 rfl rfl (Nat.le_of_ble_eq_true rfl) dX2_put_1 ⟨Nat.le_of_ble_eq_true rfl, Nat.le_of_ble_eq_true rfl⟩ ⟨Nat.le_of_ble_eq_true rfl, Nat.le_of_ble_eq_true rfl⟩ ?_
  refine r_iload_n C dX2_put_4 rfl ?_
  refine d_Sv (st := []) hX.stb C hE (C_needItem_ok (f := f) (r := r) (kn := kn) (x := (y)) hX ho) pk_X2_needItem qm_X2_43 rfl rfl (Nat.le_of_ble_eq_true rfl) dX2_put_5 ⟨Nat.le_of_ble_eq_true rfl, Nat.le_of_ble_eq_true rfl⟩ ⟨Nat.le_of_ble_eq_true rfl, Nat.le_of_ble_eq_true rfl⟩ ?_
  refine r_aload_n C dX2_put_8 rfl ?_
  refine r_iload_n C dX2_put_9 rfl ?_
  refine d_Vv (st := []) hX.stb C hE (C_needCursorThere_ok (f := f) (r := r) (kn := kn) (k := k0) hX (by first | omega | (simp [up2, *]; done) | (simp [up2, *]; omega) | (simp only [up2_eq]; omega) | (split <;> omega)) (by first | omega | (simp [up2, *]; done) | (simp [up2, *]; omega) | (simp only [up2_eq]; omega) | (split <;> omega))) pk_X2_needCursorThere qm_X2_222 0 6 rfl rfl wc_0 rfl rfl (Nat.le_of_ble_eq_true rfl) dX2_put_10 ⟨Nat.le_of_ble_eq_true rfl, Nat.le_of_ble_eq_true rfl⟩ ⟨Nat.le_of_ble_eq_true rfl, Nat.le_of_ble_eq_true rfl⟩ ?_
  refine r_aload_n C dX2_put_13 rfl ?_
  refine s_get C 1 (by decide) qf_X2_24 rfl rfl dX2_put_14 ?_
  refine r_iload_n C dX2_put_17 rfl ?_
  refine s_curs C (by first | omega | (simp [up2, *]; done) | (simp [up2, *]; omega) | (simp only [up2_eq]; omega) | (split <;> omega)) dX2_put_18 ?_
  refine r_astore_n C dX2_put_19 (by decide) rfl ?_
  refine r_aload_n C dX2_put_20 rfl ?_
  refine r_aload_n C dX2_put_21 rfl ?_
  refine u_getN (v := .int (nI (f 6 k0))) hX C hE 0 (by first | omega | (simp [up2, *]; done) | (simp [up2, *]; omega) | (simp only [up2_eq]; omega) | (split <;> omega)) (by decide) qn_X2_225 rfl rfl dX2_put_22 ?_
  refine r_iconst (v := (nI 1)) C dX2_put_25 (by decide) ?_
  refine c_V (st := []) hX.stb C hE (C_needRoom_no (f := f) (r := r) (kn := kn) (w := (f 6 k0)) (x := ((nI 1))) (q0 := (f 4 (f 1 (f 6 k0)) + 1)) hX hl (by first | omega | (simp [up2, *]; done) | (simp [up2, *]; omega) | (simp only [up2_eq]; omega) | (split <;> omega)) (by omega) (nI_add _ _) (by first | omega | (simp [up2, *]; done) | (simp [up2, *]; omega) | (simp only [up2_eq]; omega) | (split <;> omega)) (by first | omega | (simp [up2, *]; done) | (simp [up2, *]; omega) | (simp only [up2_eq]; omega) | (split <;> omega))) pk_X2_needRoom qm_X2_46 0 6 rfl rfl wc_0 rfl rfl (Nat.le_of_ble_eq_true rfl) dX2_put_26 ⟨Nat.le_of_ble_eq_true rfl, Nat.le_of_ble_eq_true rfl⟩ ⟨Nat.le_of_ble_eq_true rfl, Nat.le_of_ble_eq_true rfl⟩ (fun _ _ h9 => h9.elim) (fun E9 h9 => ?_)
  subst h9
  exact r_out C hnt rfl rfl (Nat.le_of_ble_eq_true rfl) (Nat.le_of_ble_eq_true rfl)
theorem dX2_put_29 : decode cX2_put 29 = .ok (.aload_n 0, 1) := dqo_42 (kb_of ke_X2_put 29 rfl)
theorem dX2_put_30 : decode cX2_put 30 = .ok (.aload_n 3, 1) := dqo_45 (kb_of ke_X2_put 30 rfl)
theorem dX2_put_31 : decode cX2_put 31 = .ok (.getfield 225, 3) := dqo_180 0 225 (kb_of ke_X2_put 31 rfl) (kb_of ke_X2_put 32 rfl) (kb_of ke_X2_put 33 rfl)
theorem dX2_put_34 : decode cX2_put 34 = .ok (.aload_n 3, 1) := dqo_45 (kb_of ke_X2_put 34 rfl)
theorem dX2_put_35 : decode cX2_put 35 = .ok (.getfield 234, 3) := dqo_180 0 234 (kb_of ke_X2_put 35 rfl) (kb_of ke_X2_put 36 rfl) (kb_of ke_X2_put 37 rfl)
theorem dX2_put_38 : decode cX2_put 38 = .ok (.iload_n 2, 1) := dqo_28 (kb_of ke_X2_put 38 rfl)
theorem dX2_put_39 : decode cX2_put 39 = .ok (.iload_n 1, 1) := dqo_27 (kb_of ke_X2_put 39 rfl)
theorem dX2_put_40 : decode cX2_put 40 = .ok (.invokevirtual 54, 3) := dqo_182 0 54 (kb_of ke_X2_put 40 rfl) (kb_of ke_X2_put 41 rfl) (kb_of ke_X2_put 42 rfl)
theorem dX2_put_43 : decode cX2_put 43 = .ok (.aload_n 3, 1) := dqo_45 (kb_of ke_X2_put 43 rfl)
theorem dX2_put_44 : decode cX2_put 44 = .ok (.dup, 1) := dqo_89 (kb_of ke_X2_put 44 rfl)
theorem dX2_put_45 : decode cX2_put 45 = .ok (.getfield 234, 3) := dqo_180 0 234 (kb_of ke_X2_put 45 rfl) (kb_of ke_X2_put 46 rfl) (kb_of ke_X2_put 47 rfl)
theorem dX2_put_48 : decode cX2_put 48 = .ok (.iconst 1, 1) := dqo_4 (kb_of ke_X2_put 48 rfl)
theorem dX2_put_49 : decode cX2_put 49 = .ok (.iadd, 1) := dqo_96 (kb_of ke_X2_put 49 rfl)
theorem dX2_put_50 : decode cX2_put 50 = .ok (.putfield 234, 3) := dqo_181 0 234 (kb_of ke_X2_put 50 rfl) (kb_of ke_X2_put 51 rfl) (kb_of ke_X2_put 52 rfl)
theorem dX2_put_53 : decode cX2_put 53 = .ok (.aload_n 3, 1) := dqo_45 (kb_of ke_X2_put 53 rfl)
theorem dX2_put_54 : decode cX2_put 54 = .ok (.iconst (-1), 1) := dqo_2 (kb_of ke_X2_put 54 rfl)
theorem dX2_put_55 : decode cX2_put 55 = .ok (.putfield 237, 3) := dqo_181 0 237 (kb_of ke_X2_put 55 rfl) (kb_of ke_X2_put 56 rfl) (kb_of ke_X2_put 57 rfl)
theorem dX2_put_58 : decode cX2_put 58 = .ok (.aload_n 3, 1) := dqo_45 (kb_of ke_X2_put 58 rfl)
theorem dX2_put_59 : decode cX2_put 59 = .ok (.getfield 234, 3) := dqo_180 0 234 (kb_of ke_X2_put 59 rfl) (kb_of ke_X2_put 60 rfl) (kb_of ke_X2_put 61 rfl)
theorem dX2_put_62 : decode cX2_put 62 = .ok (.ireturn, 1) := dqo_172 (kb_of ke_X2_put 62 rfl)
set_option maxRecDepth 100000 in
set_option maxHeartbeats 4000000 in
theorem C_put_ok {l : Launch} {D : va_G} {cy : Nat → ClassId} {X : (Nat → Prop) → State → Heap → Prop} {a f : Nat → Nat → Nat} {r : Nat → Nat → Int32} {kn : Int32} {Y : va_W} {k0 : Nat} {y : Int32} (hX : EnvX X) (hC : CInv f) (hk3 : k0 < 3) (ho : okI y) (h9 : f 9 k0 = 1) (hroom : f 4 (f 1 (f 6 k0)) < 12) : Cd l D cy X yX2_put cX2_put 4 (some .int) (rmz 6 240) [.ref (a 0 0), .int (nI k0), .int y] (WC cy a f r kn ++ Y) (some (.int (nI ((f 7 k0) + 1)))) (WC cy a (up2 (up2 (settleF (exL (up2 f 4 8 1) (f 6 k0) 1 0 8) (f 6 k0) k0) 7 k0 ((f 7 k0) + 1)) 8 k0 4294967295) (exR (up2 f 4 8 1) (up2 r (f 0 8) 0 (y)) (f 6 k0) (f 7 k0) (f 7 k0) 1) kn ++ Y) := by
  have q3 := hC.sp
  have q5 := hC.cu hk3
  have q6 := q5.2.2 h9
  have q7 := hC.th q5.1 q6.1
  have q8 := hC.al q5.1
  have q9 := hC.rw (i := f 1 (f 6 k0)) q8.2.1
  refine Cm.of [some (.ref (a 0 0)), some (.int (nI k0)), some (.int y), none] pn_X2 rfl (Nat.le_of_ble_eq_true rfl) ?_
  intro p e s m args below meth c A C hE hr hnt hn
  refine r_iload_n C dX2_put_0 rfl ?_
  refine d_Sv (st := []) hX.stb C hE (C_needCursor_ok (f := f) (r := r) (kn := kn) (k := k0) hX (by first | omega | (simp [up2, *]; done) | (simp [up2, *]; omega) | (simp only [up2_eq]; omega) | (split <;> omega))) pk_X2_needCursor qm_X2_210 rfl rfl (Nat.le_of_ble_eq_true rfl) dX2_put_1 ⟨Nat.le_of_ble_eq_true rfl, Nat.le_of_ble_eq_true rfl⟩ ⟨Nat.le_of_ble_eq_true rfl, Nat.le_of_ble_eq_true rfl⟩ ?_
  refine r_iload_n C dX2_put_4 rfl ?_
  refine d_Sv (st := []) hX.stb C hE (C_needItem_ok (f := f) (r := r) (kn := kn) (x := (y)) hX ho) pk_X2_needItem qm_X2_43 rfl rfl (Nat.le_of_ble_eq_true rfl) dX2_put_5 ⟨Nat.le_of_ble_eq_true rfl, Nat.le_of_ble_eq_true rfl⟩ ⟨Nat.le_of_ble_eq_true rfl, Nat.le_of_ble_eq_true rfl⟩ ?_
  refine r_aload_n C dX2_put_8 rfl ?_
  refine r_iload_n C dX2_put_9 rfl ?_
  refine d_Vv (st := []) hX.stb C hE (C_needCursorThere_ok (f := f) (r := r) (kn := kn) (k := k0) hX (by first | omega | (simp [up2, *]; done) | (simp [up2, *]; omega) | (simp only [up2_eq]; omega) | (split <;> omega)) (by first | omega | (simp [up2, *]; done) | (simp [up2, *]; omega) | (simp only [up2_eq]; omega) | (split <;> omega))) pk_X2_needCursorThere qm_X2_222 0 6 rfl rfl wc_0 rfl rfl (Nat.le_of_ble_eq_true rfl) dX2_put_10 ⟨Nat.le_of_ble_eq_true rfl, Nat.le_of_ble_eq_true rfl⟩ ⟨Nat.le_of_ble_eq_true rfl, Nat.le_of_ble_eq_true rfl⟩ ?_
  refine r_aload_n C dX2_put_13 rfl ?_
  refine s_get C 1 (by decide) qf_X2_24 rfl rfl dX2_put_14 ?_
  refine r_iload_n C dX2_put_17 rfl ?_
  refine s_curs C (by first | omega | (simp [up2, *]; done) | (simp [up2, *]; omega) | (simp only [up2_eq]; omega) | (split <;> omega)) dX2_put_18 ?_
  refine r_astore_n C dX2_put_19 (by decide) rfl ?_
  refine r_aload_n C dX2_put_20 rfl ?_
  refine r_aload_n C dX2_put_21 rfl ?_
  refine u_getN (v := .int (nI (f 6 k0))) hX C hE 0 (by first | omega | (simp [up2, *]; done) | (simp [up2, *]; omega) | (simp only [up2_eq]; omega) | (split <;> omega)) (by decide) qn_X2_225 rfl rfl dX2_put_22 ?_
  refine r_iconst (v := (nI 1)) C dX2_put_25 (by decide) ?_
  refine d_Vv (st := []) hX.stb C hE (C_needRoom_ok (f := f) (r := r) (kn := kn) (w := (f 6 k0)) (x := ((nI 1))) (q0 := (f 4 (f 1 (f 6 k0)) + 1)) hX (by first | omega | (simp [up2, *]; done) | (simp [up2, *]; omega) | (simp only [up2_eq]; omega) | (split <;> omega)) (by omega) (nI_add _ _) (by first | omega | (simp [up2, *]; done) | (simp [up2, *]; omega) | (simp only [up2_eq]; omega) | (split <;> omega))) pk_X2_needRoom qm_X2_46 0 6 rfl rfl wc_0 rfl rfl (Nat.le_of_ble_eq_true rfl) dX2_put_26 ⟨Nat.le_of_ble_eq_true rfl, Nat.le_of_ble_eq_true rfl⟩ ⟨Nat.le_of_ble_eq_true rfl, Nat.le_of_ble_eq_true rfl⟩ ?_
  refine r_aload_n C dX2_put_29 rfl ?_
  refine r_aload_n C dX2_put_30 rfl ?_
  refine u_getN (v := .int (nI (f 6 k0))) hX C hE 0 (by first | omega | (simp [up2, *]; done) | (simp [up2, *]; omega) | (simp only [up2_eq]; omega) | (split <;> omega)) (by decide) qn_X2_225 rfl rfl dX2_put_31 ?_
  refine r_aload_n C dX2_put_34 rfl ?_
  refine u_getN (v := .int (nI (f 7 k0))) hX C hE 1 (by first | omega | (simp [up2, *]; done) | (simp [up2, *]; omega) | (simp only [up2_eq]; omega) | (split <;> omega)) (by decide) qn_X2_234 rfl rfl dX2_put_35 ?_
  refine r_iload_n C dX2_put_38 rfl ?_
  refine r_iload_n C dX2_put_39 rfl ?_
  refine d_Vv (st := []) hX.stb C hE (C_putIn (f := f) (r := r) (kn := kn) (w := (f 6 k0)) (k := (f 7 k0)) (x := (y)) (d0 := k0) hX (by first | omega | (simp [up2, *]; done) | (simp [up2, *]; omega) | (simp only [up2_eq]; omega) | (split <;> omega)) hC.h1 hC.hG hC.hI hC.hI8 (by first | omega | (simp [up2, *]; done) | (simp [up2, *]; omega) | (simp only [up2_eq]; omega) | (split <;> omega)) (by first | omega | (simp [up2, *]; done) | (simp [up2, *]; omega) | (simp only [up2_eq]; omega) | (split <;> omega)) (by first | omega | (simp [up2, *]; done) | (simp [up2, *]; omega) | (simp only [up2_eq]; omega) | (split <;> omega)) (fun i hi h => (hC.ho12 q5.1 q6.1 i hi h).2) (by first | omega | (simp [up2, *]; done) | (simp [up2, *]; omega) | (simp only [up2_eq]; omega) | (split <;> omega)) hC.hU) pk_X2_putIn qm_X2_54 0 6 rfl rfl wc_0 rfl rfl (Nat.le_of_ble_eq_true rfl) dX2_put_40 ⟨Nat.le_of_ble_eq_true rfl, Nat.le_of_ble_eq_true rfl⟩ ⟨Nat.le_of_ble_eq_true rfl, Nat.le_of_ble_eq_true rfl⟩ ?_
  refine r_aload_n C dX2_put_43 rfl ?_
  refine r_dup C dX2_put_44 rfl ?_
  refine u_getN (v := .int (nI (f 7 k0))) hX C hE 1 (by first | omega | (simp [up2, *]; done) | (simp [up2, *]; omega) | (simp only [up2_eq]; omega) | (split <;> omega)) (by decide) qn_X2_234 rfl rfl dX2_put_45 ?_
  refine r_iconst (v := (nI 1)) C dX2_put_48 (by decide) ?_
  refine r_iaddN C dX2_put_49 ?_
  refine u_putN hX C hE 1 (by first | omega | (simp [up2, *]; done) | (simp [up2, *]; omega) | (simp only [up2_eq]; omega) | (split <;> omega)) (by decide) qn_X2_234 rfl rfl rfl dX2_put_50 ?_
  refine r_aload_n C dX2_put_53 rfl ?_
  refine r_iconst (v := (nI 4294967295)) C dX2_put_54 (by decide) ?_
  refine u_putN hX C hE 2 (by first | omega | (simp [up2, *]; done) | (simp [up2, *]; omega) | (simp only [up2_eq]; omega) | (split <;> omega)) (by decide) qn_X2_237 rfl rfl rfl dX2_put_55 ?_
  refine r_aload_n C dX2_put_58 rfl ?_
  refine u_getN (v := .int (nI ((f 7 k0) + 1))) hX C hE 1 (by first | omega | (simp [up2, *]; done) | (simp [up2, *]; omega) | (simp only [up2_eq]; omega) | (split <;> omega)) (by decide) qn_X2_234 rfl (congrArg (fun z => some (Value.int (nI z))) (show (up2 (settleF (exL (up2 f 4 8 1) (f 6 k0) 1 0 8) (f 6 k0) k0) 7 k0 ((f 7 k0) + 1)) 7 k0 = (f 7 k0) + 1 by simp [up2, exL_at, dmF_at, *])) dX2_put_59 ?_
  exact r_iret C hr dX2_put_62 ⟨rfl, rfl⟩ (Nat.le_of_ble_eq_true rfl) (Nat.le_of_ble_eq_true rfl)
theorem dX2_take_0 : decode cX2_take 0 = .ok (.aload_n 0, 1) := dqo_42 (kb_X2_take_0 0 rfl)
theorem dX2_take_1 : decode cX2_take 1 = .ok (.iload_n 1, 1) := dqo_27 (kb_X2_take_0 1 rfl)
theorem dX2_take_2 : decode cX2_take 2 = .ok (.invokevirtual 222, 3) := dqo_182 0 222 (kb_X2_take_0 2 rfl) (kb_X2_take_0 3 rfl) (kb_X2_take_0 4 rfl)
set_option maxRecDepth 100000 in
set_option maxHeartbeats 4000000 in
theorem C_take_noC {l : Launch} {D : va_G} {cy : Nat → ClassId} {X : (Nat → Prop) → State → Heap → Prop} {a f : Nat → Nat → Nat} {r : Nat → Nat → Int32} {kn : Int32} {Y : va_W} {x : Int32} (hX : EnvX X) (hl : l.stackTraces = false) (hC : CInv f) (hno : ¬ (0 ≤ x ∧ x < nI 3)) : Ce l D cy X yX2_take cX2_take 3 (some .int) (rmk 8 1 6 170) [.ref (a 0 0), .int x] (WC cy a f r kn ++ Y) "java/lang/IndexOutOfBoundsException" := by
  have q3 := hC.sp
  refine Cm.of [some (.ref (a 0 0)), some (.int x), none] pn_X2 rfl (Nat.le_of_ble_eq_true rfl) ?_
  intro p e s m args below meth c A C hE hr hnt hn
  refine r_aload_n C dX2_take_0 rfl ?_
  refine r_iload_n C dX2_take_1 rfl ?_
  refine c_V (st := []) hX.stb C hE (C_needCursorThere_noC (f := f) (r := r) (kn := kn) (x := (x)) hX hl hno) pk_X2_needCursorThere qm_X2_222 0 6 rfl rfl wc_0 rfl rfl (Nat.le_of_ble_eq_true rfl) dX2_take_2 ⟨Nat.le_of_ble_eq_true rfl, Nat.le_of_ble_eq_true rfl⟩ ⟨Nat.le_of_ble_eq_true rfl, Nat.le_of_ble_eq_true rfl⟩ (fun _ _ h9 => h9.elim) (fun E9 h9 => ?_)
  subst h9
  exact r_out C hnt rfl rfl (Nat.le_of_ble_eq_true rfl) (Nat.le_of_ble_eq_true rfl)
set_option maxRecDepth 100000 in
set_option maxHeartbeats 4000000 in
theorem C_take_noT {l : Launch} {D : va_G} {cy : Nat → ClassId} {X : (Nat → Prop) → State → Heap → Prop} {a f : Nat → Nat → Nat} {r : Nat → Nat → Int32} {kn : Int32} {Y : va_W} {k0 : Nat} (hX : EnvX X) (hl : l.stackTraces = false) (hC : CInv f) (hk3 : k0 < 3) (h9 : f 9 k0 = 0) : Ce l D cy X yX2_take cX2_take 3 (some .int) (rmk 8 1 6 170) [.ref (a 0 0), .int (nI k0)] (WC cy a f r kn ++ Y) "java/lang/IllegalStateException" := by
  have q3 := hC.sp
  have q5 := hC.cu hk3
  refine Cm.of [some (.ref (a 0 0)), some (.int (nI k0)), none] pn_X2 rfl (Nat.le_of_ble_eq_true rfl) ?_
  intro p e s m args below meth c A C hE hr hnt hn
  refine r_aload_n C dX2_take_0 rfl ?_
  refine r_iload_n C dX2_take_1 rfl ?_
  refine c_V (st := []) hX.stb C hE (C_needCursorThere_no (f := f) (r := r) (kn := kn) (k := k0) hX hl (by first | omega | (simp [up2, *]; done) | (simp [up2, *]; omega) | (simp only [up2_eq]; omega) | (split <;> omega)) (by first | omega | (simp [up2, *]; done) | (simp [up2, *]; omega) | (simp only [up2_eq]; omega) | (split <;> omega))) pk_X2_needCursorThere qm_X2_222 0 6 rfl rfl wc_0 rfl rfl (Nat.le_of_ble_eq_true rfl) dX2_take_2 ⟨Nat.le_of_ble_eq_true rfl, Nat.le_of_ble_eq_true rfl⟩ ⟨Nat.le_of_ble_eq_true rfl, Nat.le_of_ble_eq_true rfl⟩ (fun _ _ h9 => h9.elim) (fun E9 h9 => ?_)
  subst h9
  exact r_out C hnt rfl rfl (Nat.le_of_ble_eq_true rfl) (Nat.le_of_ble_eq_true rfl)
theorem dX2_take_5 : decode cX2_take 5 = .ok (.aload_n 0, 1) := dqo_42 (kb_X2_take_0 5 rfl)
theorem dX2_take_6 : decode cX2_take 6 = .ok (.getfield 24, 3) := dqo_180 0 24 (kb_X2_take_0 6 rfl) (kb_X2_take_0 7 rfl) (kb_X2_take_0 8 rfl)
theorem dX2_take_9 : decode cX2_take 9 = .ok (.iload_n 1, 1) := dqo_27 (kb_X2_take_0 9 rfl)
theorem dX2_take_10 : decode cX2_take 10 = .ok (.aaload, 1) := dqo_50 (kb_X2_take_0 10 rfl)
theorem dX2_take_11 : decode cX2_take 11 = .ok (.astore_n 2, 1) := dqo_77 (kb_X2_take_0 11 rfl)
theorem dX2_take_12 : decode cX2_take 12 = .ok (.aload_n 2, 1) := dqo_44 (kb_X2_take_0 12 rfl)
theorem dX2_take_13 : decode cX2_take 13 = .ok (.getfield 237, 3) := dqo_180 0 237 (kb_X2_take_0 13 rfl) (kb_X2_take_0 14 rfl) (kb_X2_take_0 15 rfl)
theorem dX2_take_16 : decode cX2_take 16 = .ok (.iconst (-1), 1) := dqo_2 (kb_X2_take_0 16 rfl)
theorem dX2_take_17 : decode cX2_take 17 = .ok (.if_icmp .ne 6, 3) := dqo_160 0 6 (by decide) (kb_X2_take_0 17 rfl) (kb_X2_take_0 18 rfl) (kb_X2_take_0 19 rfl)
theorem dX2_take_20 : decode cX2_take 20 = .ok (.bipush (-9), 2) := dqo_16 247 (by decide) (kb_X2_take_0 20 rfl) (kb_X2_take_0 21 rfl)
theorem dX2_take_22 : decode cX2_take 22 = .ok (.ireturn, 1) := dqo_172 (kb_X2_take_0 22 rfl)
set_option maxRecDepth 100000 in
set_option maxHeartbeats 4000000 in
theorem C_take_ref {l : Launch} {D : va_G} {cy : Nat → ClassId} {X : (Nat → Prop) → State → Heap → Prop} {a f : Nat → Nat → Nat} {r : Nat → Nat → Int32} {kn : Int32} {Y : va_W} {k0 : Nat} (hX : EnvX X) (hC : CInv f) (hk3 : k0 < 3) (h9 : f 9 k0 = 1) (hl : f 8 k0 = 4294967295) : Cd l D cy X yX2_take cX2_take 3 (some .int) (rmz 6 240) [.ref (a 0 0), .int (nI k0)] (WC cy a f r kn ++ Y) (some (.int (nI 4294967287))) (WC cy a f r kn ++ Y) := by
  have q3 := hC.sp
  have q5 := hC.cu hk3
  have q6 := q5.2.2 h9
  have q7 := hC.th q5.1 q6.1
  have q8 := hC.al q5.1
  have q9 := hC.rw (i := f 1 (f 6 k0)) q8.2.1
  refine Cm.of [some (.ref (a 0 0)), some (.int (nI k0)), none] pn_X2 rfl (Nat.le_of_ble_eq_true rfl) ?_
  intro p e s m args below meth c A C hE hr hnt hn
  refine r_aload_n C dX2_take_0 rfl ?_
  refine r_iload_n C dX2_take_1 rfl ?_
  refine d_Vv (st := []) hX.stb C hE (C_needCursorThere_ok (f := f) (r := r) (kn := kn) (k := k0) hX (by first | omega | (simp [up2, *]; done) | (simp [up2, *]; omega) | (simp only [up2_eq]; omega) | (split <;> omega)) (by first | omega | (simp [up2, *]; done) | (simp [up2, *]; omega) | (simp only [up2_eq]; omega) | (split <;> omega))) pk_X2_needCursorThere qm_X2_222 0 6 rfl rfl wc_0 rfl rfl (Nat.le_of_ble_eq_true rfl) dX2_take_2 ⟨Nat.le_of_ble_eq_true rfl, Nat.le_of_ble_eq_true rfl⟩ ⟨Nat.le_of_ble_eq_true rfl, Nat.le_of_ble_eq_true rfl⟩ ?_
  refine r_aload_n C dX2_take_5 rfl ?_
  refine s_get C 1 (by decide) qf_X2_24 rfl rfl dX2_take_6 ?_
  refine r_iload_n C dX2_take_9 rfl ?_
  refine s_curs C (by first | omega | (simp [up2, *]; done) | (simp [up2, *]; omega) | (simp only [up2_eq]; omega) | (split <;> omega)) dX2_take_10 ?_
  refine r_astore_n C dX2_take_11 (by decide) rfl ?_
  refine r_aload_n C dX2_take_12 rfl ?_
  refine u_getN (v := .int (nI (f 8 k0))) hX C hE 2 (by first | omega | (simp [up2, *]; done) | (simp [up2, *]; omega) | (simp only [up2_eq]; omega) | (split <;> omega)) (by decide) qn_X2_237 rfl rfl dX2_take_13 ?_
  refine r_iconst (v := (nI 4294967295)) C dX2_take_16 (by decide) ?_
  refine r_icN_ne (a := (f 8 k0)) (b := 4294967295) (tgt := 23) C (by omega) (by first | omega | (simp [up2, *]; done) | (simp [up2, *]; omega) | (simp only [up2_eq]; omega) | (split <;> omega)) dX2_take_17 (by decide) (fun h17_1 => ?_) (fun h17_1 => ?_)
  · exact absurd h17_1 (by first | omega | (simp [up2, *]; done) | (simp [up2, *]; omega) | (simp only [up2_eq]; omega) | (split <;> omega))
  · skip
    refine r_bipush (v := (nI 4294967287)) C dX2_take_20 (by decide) ?_
    exact r_iret C hr dX2_take_22 ⟨rfl, rfl⟩ (Nat.le_of_ble_eq_true rfl) (Nat.le_of_ble_eq_true rfl)
theorem dX2_take_23 : decode cX2_take 23 = .ok (.aload_n 0, 1) := dqo_42 (kb_X2_take_0 23 rfl)
theorem dX2_take_24 : decode cX2_take 24 = .ok (.aload_n 2, 1) := dqo_44 (kb_X2_take_0 24 rfl)
theorem dX2_take_25 : decode cX2_take 25 = .ok (.getfield 225, 3) := dqo_180 0 225 (kb_X2_take_0 25 rfl) (kb_X2_take_0 26 rfl) (kb_X2_take_0 27 rfl)
theorem dX2_take_28 : decode cX2_take 28 = .ok (.aload_n 2, 1) := dqo_44 (kb_X2_take_0 28 rfl)
theorem dX2_take_29 : decode cX2_take 29 = .ok (.getfield 237, 3) := dqo_180 0 237 (kb_X2_take_0 29 rfl) (kb_X2_take_0 30 rfl) (kb_X2_take_0 31 rfl)
theorem dX2_take_32 : decode cX2_take 32 = .ok (.aload_n 2, 1) := dqo_44 (kb_X2_take_0 32 rfl)
theorem dX2_take_33 : decode cX2_take 33 = .ok (.getfield 237, 3) := dqo_180 0 237 (kb_X2_take_0 33 rfl) (kb_X2_take_0 34 rfl) (kb_X2_take_0 35 rfl)
theorem dX2_take_36 : decode cX2_take 36 = .ok (.iconst 1, 1) := dqo_4 (kb_X2_take_0 36 rfl)
theorem dX2_take_37 : decode cX2_take 37 = .ok (.iadd, 1) := dqo_96 (kb_X2_take_0 37 rfl)
theorem dX2_take_38 : decode cX2_take 38 = .ok (.iload_n 1, 1) := dqo_27 (kb_X2_take_0 38 rfl)
theorem dX2_take_39 : decode cX2_take 39 = .ok (.invokevirtual 72, 3) := dqo_182 0 72 (kb_X2_take_0 39 rfl) (kb_X2_take_0 40 rfl) (kb_X2_take_0 41 rfl)
theorem dX2_take_42 : decode cX2_take 42 = .ok (.aload_n 2, 1) := dqo_44 (kb_X2_take_0 42 rfl)
theorem dX2_take_43 : decode cX2_take 43 = .ok (.getfield 237, 3) := dqo_180 0 237 (kb_X2_take_0 43 rfl) (kb_X2_take_0 44 rfl) (kb_X2_take_0 45 rfl)
theorem dX2_take_46 : decode cX2_take 46 = .ok (.aload_n 2, 1) := dqo_44 (kb_X2_take_0 46 rfl)
theorem dX2_take_47 : decode cX2_take 47 = .ok (.getfield 234, 3) := dqo_180 0 234 (kb_X2_take_0 47 rfl) (kb_X2_take_0 48 rfl) (kb_X2_take_0 49 rfl)
theorem dX2_take_50 : decode cX2_take 50 = .ok (.if_icmp .ge 13, 3) := dqo_162 0 13 (by decide) (kb_X2_take_0 50 rfl) (kb_X2_take_0 51 rfl) (kb_X2_take_0 52 rfl)
theorem dX2_take_53 : decode cX2_take 53 = .ok (.aload_n 2, 1) := dqo_44 (kb_X2_take_0 53 rfl)
theorem dX2_take_54 : decode cX2_take 54 = .ok (.dup, 1) := dqo_89 (kb_X2_take_0 54 rfl)
theorem dX2_take_55 : decode cX2_take 55 = .ok (.getfield 234, 3) := dqo_180 0 234 (kb_X2_take_0 55 rfl) (kb_X2_take_0 56 rfl) (kb_X2_take_0 57 rfl)
theorem dX2_take_58 : decode cX2_take 58 = .ok (.iconst 1, 1) := dqo_4 (kb_X2_take_0 58 rfl)
theorem dX2_take_59 : decode cX2_take 59 = .ok (.isub, 1) := dqo_100 (kb_X2_take_0 59 rfl)
theorem dX2_take_60 : decode cX2_take 60 = .ok (.putfield 234, 3) := dqo_181 0 234 (kb_X2_take_0 60 rfl) (kb_X2_take_0 61 rfl) (kb_X2_take_0 62 rfl)
theorem dX2_take_63 : decode cX2_take 63 = .ok (.aload_n 2, 1) := dqo_44 (kb_X2_take_0 63 rfl)
theorem dX2_take_64 : decode cX2_take 64 = .ok (.iconst (-1), 1) := dqo_2 (kb_X2_take_1 0 rfl)
theorem dX2_take_65 : decode cX2_take 65 = .ok (.putfield 237, 3) := dqo_181 0 237 (kb_X2_take_1 1 rfl) (kb_X2_take_1 2 rfl) (kb_X2_take_1 3 rfl)
theorem dX2_take_68 : decode cX2_take 68 = .ok (.aload_n 2, 1) := dqo_44 (kb_X2_take_1 4 rfl)
theorem dX2_take_69 : decode cX2_take 69 = .ok (.getfield 234, 3) := dqo_180 0 234 (kb_X2_take_1 5 rfl) (kb_X2_take_1 6 rfl) (kb_X2_take_1 7 rfl)
theorem dX2_take_72 : decode cX2_take 72 = .ok (.ireturn, 1) := dqo_172 (kb_X2_take_1 8 rfl)
set_option maxRecDepth 100000 in
set_option maxHeartbeats 4000000 in
theorem C_take_a {l : Launch} {D : va_G} {cy : Nat → ClassId} {X : (Nat → Prop) → State → Heap → Prop} {a f : Nat → Nat → Nat} {r : Nat → Nat → Int32} {kn : Int32} {Y : va_W} {k0 : Nat} (hX : EnvX X) (hC : CInv f) (hk3 : k0 < 3) (h9 : f 9 k0 = 1) (hl : f 8 k0 ≠ 4294967295) (hx : f 8 k0 < f 7 k0) : Cd l D cy X yX2_take cX2_take 3 (some .int) (rmz 6 240) [.ref (a 0 0), .int (nI k0)] (WC cy a f r kn ++ Y) (some (.int (nI ((f 7 k0) - 1)))) (WC cy a (up2 (up2 (settleF (exL (up2 f 4 8 0) (f 6 k0) 0 (((f 8 k0) + 1) - (f 8 k0)) 8) (f 6 k0) k0) 7 k0 ((f 7 k0) - 1)) 8 k0 4294967295) (exR (up2 f 4 8 0) r (f 6 k0) (f 8 k0) ((f 8 k0) + 1) 0) kn ++ Y) := by
  have q3 := hC.sp
  have q5 := hC.cu hk3
  have q6 := q5.2.2 h9
  have q7 := hC.th q5.1 q6.1
  have q8 := hC.al q5.1
  have q9 := hC.rw (i := f 1 (f 6 k0)) q8.2.1
  refine Cm.of [some (.ref (a 0 0)), some (.int (nI k0)), none] pn_X2 rfl (Nat.le_of_ble_eq_true rfl) ?_
  intro p e s m args below meth c A C hE hr hnt hn
  refine r_aload_n C dX2_take_0 rfl ?_
  refine r_iload_n C dX2_take_1 rfl ?_
  refine d_Vv (st := []) hX.stb C hE (C_needCursorThere_ok (f := f) (r := r) (kn := kn) (k := k0) hX (by first | omega | (simp [up2, *]; done) | (simp [up2, *]; omega) | (simp only [up2_eq]; omega) | (split <;> omega)) (by first | omega | (simp [up2, *]; done) | (simp [up2, *]; omega) | (simp only [up2_eq]; omega) | (split <;> omega))) pk_X2_needCursorThere qm_X2_222 0 6 rfl rfl wc_0 rfl rfl (Nat.le_of_ble_eq_true rfl) dX2_take_2 ⟨Nat.le_of_ble_eq_true rfl, Nat.le_of_ble_eq_true rfl⟩ ⟨Nat.le_of_ble_eq_true rfl, Nat.le_of_ble_eq_true rfl⟩ ?_
  refine r_aload_n C dX2_take_5 rfl ?_
  refine s_get C 1 (by decide) qf_X2_24 rfl rfl dX2_take_6 ?_
  refine r_iload_n C dX2_take_9 rfl ?_
  refine s_curs C (by first | omega | (simp [up2, *]; done) | (simp [up2, *]; omega) | (simp only [up2_eq]; omega) | (split <;> omega)) dX2_take_10 ?_
  refine r_astore_n C dX2_take_11 (by decide) rfl ?_
  refine r_aload_n C dX2_take_12 rfl ?_
  refine u_getN (v := .int (nI (f 8 k0))) hX C hE 2 (by first | omega | (simp [up2, *]; done) | (simp [up2, *]; omega) | (simp only [up2_eq]; omega) | (split <;> omega)) (by decide) qn_X2_237 rfl rfl dX2_take_13 ?_
  refine r_iconst (v := (nI 4294967295)) C dX2_take_16 (by decide) ?_
  refine r_icN_ne (a := (f 8 k0)) (b := 4294967295) (tgt := 23) C (by omega) (by first | omega | (simp [up2, *]; done) | (simp [up2, *]; omega) | (simp only [up2_eq]; omega) | (split <;> omega)) dX2_take_17 (by decide) (fun h17_1 => ?_) (fun h17_1 => ?_)
  · skip
    refine r_aload_n C dX2_take_23 rfl ?_
    refine r_aload_n C dX2_take_24 rfl ?_
    refine u_getN (v := .int (nI (f 6 k0))) hX C hE 0 (by first | omega | (simp [up2, *]; done) | (simp [up2, *]; omega) | (simp only [up2_eq]; omega) | (split <;> omega)) (by decide) qn_X2_225 rfl rfl dX2_take_25 ?_
    refine r_aload_n C dX2_take_28 rfl ?_
    refine u_getN (v := .int (nI (f 8 k0))) hX C hE 2 (by first | omega | (simp [up2, *]; done) | (simp [up2, *]; omega) | (simp only [up2_eq]; omega) | (split <;> omega)) (by decide) qn_X2_237 rfl rfl dX2_take_29 ?_
    refine r_aload_n C dX2_take_32 rfl ?_
    refine u_getN (v := .int (nI (f 8 k0))) hX C hE 2 (by first | omega | (simp [up2, *]; done) | (simp [up2, *]; omega) | (simp only [up2_eq]; omega) | (split <;> omega)) (by decide) qn_X2_237 rfl rfl dX2_take_33 ?_
    refine r_iconst (v := (nI 1)) C dX2_take_36 (by decide) ?_
    refine r_iaddN C dX2_take_37 ?_
    refine r_iload_n C dX2_take_38 rfl ?_
    refine d_Vv (st := []) hX.stb C hE (C_takeOut (f := f) (r := r) (kn := kn) (w := (f 6 k0)) (p0 := (f 8 k0)) (q0 := ((f 8 k0) + 1)) (d0 := k0) hX (by first | omega | (simp [up2, *]; done) | (simp [up2, *]; omega) | (simp only [up2_eq]; omega) | (split <;> omega)) hC.h1 hC.hG hC.hI hC.hI8 (by first | omega | (simp [up2, *]; done) | (simp [up2, *]; omega) | (simp only [up2_eq]; omega) | (split <;> omega)) (by first | omega | (simp [up2, *]; done) | (simp [up2, *]; omega) | (simp only [up2_eq]; omega) | (split <;> omega)) (by first | omega | (simp [up2, *]; done) | (simp [up2, *]; omega) | (simp only [up2_eq]; omega) | (split <;> omega)) (by first | omega | (simp [up2, *]; done) | (simp [up2, *]; omega) | (simp only [up2_eq]; omega) | (split <;> omega)) (fun i hi h => by have h6 := hC.ho12 q5.1 q6.1 i hi h; omega) (by first | omega | (simp [up2, *]; done) | (simp [up2, *]; omega) | (simp only [up2_eq]; omega) | (split <;> omega)) hC.hU) pk_X2_takeOut qm_X2_72 0 6 rfl rfl wc_0 rfl rfl (Nat.le_of_ble_eq_true rfl) dX2_take_39 ⟨Nat.le_of_ble_eq_true rfl, Nat.le_of_ble_eq_true rfl⟩ ⟨Nat.le_of_ble_eq_true rfl, Nat.le_of_ble_eq_true rfl⟩ ?_
    refine r_aload_n C dX2_take_42 rfl ?_
    refine u_getN (v := .int (nI (f 8 k0))) hX C hE 2 (by first | omega | (simp [up2, *]; done) | (simp [up2, *]; omega) | (simp only [up2_eq]; omega) | (split <;> omega)) (by decide) qn_X2_237 rfl rfl dX2_take_43 ?_
    refine r_aload_n C dX2_take_46 rfl ?_
    refine u_getN (v := .int (nI (f 7 k0))) hX C hE 1 (by first | omega | (simp [up2, *]; done) | (simp [up2, *]; omega) | (simp only [up2_eq]; omega) | (split <;> omega)) (by decide) qn_X2_234 rfl rfl dX2_take_47 ?_
    refine r_icN_ge (a := (f 8 k0)) (b := (f 7 k0)) (tgt := 63) C (by first | omega | (simp [up2, *]; done) | (simp [up2, *]; omega) | (simp only [up2_eq]; omega) | (split <;> omega)) (by first | omega | (simp [up2, *]; done) | (simp [up2, *]; omega) | (simp only [up2_eq]; omega) | (split <;> omega)) dX2_take_50 (by decide) (fun h50_2 => ?_) (fun h50_2 => ?_)
    · exact absurd h50_2 (by show ¬ _; omega)
    · skip
      refine r_aload_n C dX2_take_53 rfl ?_
      refine r_dup C dX2_take_54 rfl ?_
      refine u_getN (v := .int (nI (f 7 k0))) hX C hE 1 (by first | omega | (simp [up2, *]; done) | (simp [up2, *]; omega) | (simp only [up2_eq]; omega) | (split <;> omega)) (by decide) qn_X2_234 rfl rfl dX2_take_55 ?_
      refine r_iconst (v := (nI 1)) C dX2_take_58 (by decide) ?_
      refine r_isubN C dX2_take_59 (by first | omega | (simp [up2, *]; done) | (simp [up2, *]; omega) | (simp only [up2_eq]; omega) | (split <;> omega)) ?_
      refine u_putN hX C hE 1 (by first | omega | (simp [up2, *]; done) | (simp [up2, *]; omega) | (simp only [up2_eq]; omega) | (split <;> omega)) (by decide) qn_X2_234 rfl rfl rfl dX2_take_60 ?_
      refine r_aload_n C dX2_take_63 rfl ?_
      refine r_iconst (v := (nI 4294967295)) C dX2_take_64 (by decide) ?_
      refine u_putN hX C hE 2 (by first | omega | (simp [up2, *]; done) | (simp [up2, *]; omega) | (simp only [up2_eq]; omega) | (split <;> omega)) (by decide) qn_X2_237 rfl rfl rfl dX2_take_65 ?_
      refine r_aload_n C dX2_take_68 rfl ?_
      refine u_getN (v := .int (nI ((f 7 k0) - 1))) hX C hE 1 (by first | omega | (simp [up2, *]; done) | (simp [up2, *]; omega) | (simp only [up2_eq]; omega) | (split <;> omega)) (by decide) qn_X2_234 rfl (congrArg (fun z => some (Value.int (nI z))) (show (up2 (settleF (exL (up2 f 4 8 0) (f 6 k0) 0 (((f 8 k0) + 1) - (f 8 k0)) 8) (f 6 k0) k0) 7 k0 ((f 7 k0) - 1)) 7 k0 = (f 7 k0) - 1 by simp [up2, exL_at, dmF_at, *])) dX2_take_69 ?_
      exact r_iret C hr dX2_take_72 ⟨rfl, rfl⟩ (Nat.le_of_ble_eq_true rfl) (Nat.le_of_ble_eq_true rfl)
  · exact absurd h17_1 (by first | omega | (simp [up2, *]; done) | (simp [up2, *]; omega) | (simp only [up2_eq]; omega) | (split <;> omega))
set_option maxRecDepth 100000 in
set_option maxHeartbeats 4000000 in
theorem C_take_b {l : Launch} {D : va_G} {cy : Nat → ClassId} {X : (Nat → Prop) → State → Heap → Prop} {a f : Nat → Nat → Nat} {r : Nat → Nat → Int32} {kn : Int32} {Y : va_W} {k0 : Nat} (hX : EnvX X) (hC : CInv f) (hk3 : k0 < 3) (h9 : f 9 k0 = 1) (hl : f 8 k0 ≠ 4294967295) (hx : f 7 k0 ≤ f 8 k0) : Cd l D cy X yX2_take cX2_take 3 (some .int) (rmz 6 240) [.ref (a 0 0), .int (nI k0)] (WC cy a f r kn ++ Y) (some (.int (nI (f 7 k0)))) (WC cy a (up2 (settleF (exL (up2 f 4 8 0) (f 6 k0) 0 (((f 8 k0) + 1) - (f 8 k0)) 8) (f 6 k0) k0) 8 k0 4294967295) (exR (up2 f 4 8 0) r (f 6 k0) (f 8 k0) ((f 8 k0) + 1) 0) kn ++ Y) := by
  have q3 := hC.sp
  have q5 := hC.cu hk3
  have q6 := q5.2.2 h9
  have q7 := hC.th q5.1 q6.1
  have q8 := hC.al q5.1
  have q9 := hC.rw (i := f 1 (f 6 k0)) q8.2.1
  refine Cm.of [some (.ref (a 0 0)), some (.int (nI k0)), none] pn_X2 rfl (Nat.le_of_ble_eq_true rfl) ?_
  intro p e s m args below meth c A C hE hr hnt hn
  refine r_aload_n C dX2_take_0 rfl ?_
  refine r_iload_n C dX2_take_1 rfl ?_
  refine d_Vv (st := []) hX.stb C hE (C_needCursorThere_ok (f := f) (r := r) (kn := kn) (k := k0) hX (by first | omega | (simp [up2, *]; done) | (simp [up2, *]; omega) | (simp only [up2_eq]; omega) | (split <;> omega)) (by first | omega | (simp [up2, *]; done) | (simp [up2, *]; omega) | (simp only [up2_eq]; omega) | (split <;> omega))) pk_X2_needCursorThere qm_X2_222 0 6 rfl rfl wc_0 rfl rfl (Nat.le_of_ble_eq_true rfl) dX2_take_2 ⟨Nat.le_of_ble_eq_true rfl, Nat.le_of_ble_eq_true rfl⟩ ⟨Nat.le_of_ble_eq_true rfl, Nat.le_of_ble_eq_true rfl⟩ ?_
  refine r_aload_n C dX2_take_5 rfl ?_
  refine s_get C 1 (by decide) qf_X2_24 rfl rfl dX2_take_6 ?_
  refine r_iload_n C dX2_take_9 rfl ?_
  refine s_curs C (by first | omega | (simp [up2, *]; done) | (simp [up2, *]; omega) | (simp only [up2_eq]; omega) | (split <;> omega)) dX2_take_10 ?_
  refine r_astore_n C dX2_take_11 (by decide) rfl ?_
  refine r_aload_n C dX2_take_12 rfl ?_
  refine u_getN (v := .int (nI (f 8 k0))) hX C hE 2 (by first | omega | (simp [up2, *]; done) | (simp [up2, *]; omega) | (simp only [up2_eq]; omega) | (split <;> omega)) (by decide) qn_X2_237 rfl rfl dX2_take_13 ?_
  refine r_iconst (v := (nI 4294967295)) C dX2_take_16 (by decide) ?_
  refine r_icN_ne (a := (f 8 k0)) (b := 4294967295) (tgt := 23) C (by omega) (by first | omega | (simp [up2, *]; done) | (simp [up2, *]; omega) | (simp only [up2_eq]; omega) | (split <;> omega)) dX2_take_17 (by decide) (fun h17_1 => ?_) (fun h17_1 => ?_)
  · skip
    refine r_aload_n C dX2_take_23 rfl ?_
    refine r_aload_n C dX2_take_24 rfl ?_
    refine u_getN (v := .int (nI (f 6 k0))) hX C hE 0 (by first | omega | (simp [up2, *]; done) | (simp [up2, *]; omega) | (simp only [up2_eq]; omega) | (split <;> omega)) (by decide) qn_X2_225 rfl rfl dX2_take_25 ?_
    refine r_aload_n C dX2_take_28 rfl ?_
    refine u_getN (v := .int (nI (f 8 k0))) hX C hE 2 (by first | omega | (simp [up2, *]; done) | (simp [up2, *]; omega) | (simp only [up2_eq]; omega) | (split <;> omega)) (by decide) qn_X2_237 rfl rfl dX2_take_29 ?_
    refine r_aload_n C dX2_take_32 rfl ?_
    refine u_getN (v := .int (nI (f 8 k0))) hX C hE 2 (by first | omega | (simp [up2, *]; done) | (simp [up2, *]; omega) | (simp only [up2_eq]; omega) | (split <;> omega)) (by decide) qn_X2_237 rfl rfl dX2_take_33 ?_
    refine r_iconst (v := (nI 1)) C dX2_take_36 (by decide) ?_
    refine r_iaddN C dX2_take_37 ?_
    refine r_iload_n C dX2_take_38 rfl ?_
    refine d_Vv (st := []) hX.stb C hE (C_takeOut (f := f) (r := r) (kn := kn) (w := (f 6 k0)) (p0 := (f 8 k0)) (q0 := ((f 8 k0) + 1)) (d0 := k0) hX (by first | omega | (simp [up2, *]; done) | (simp [up2, *]; omega) | (simp only [up2_eq]; omega) | (split <;> omega)) hC.h1 hC.hG hC.hI hC.hI8 (by first | omega | (simp [up2, *]; done) | (simp [up2, *]; omega) | (simp only [up2_eq]; omega) | (split <;> omega)) (by first | omega | (simp [up2, *]; done) | (simp [up2, *]; omega) | (simp only [up2_eq]; omega) | (split <;> omega)) (by first | omega | (simp [up2, *]; done) | (simp [up2, *]; omega) | (simp only [up2_eq]; omega) | (split <;> omega)) (by first | omega | (simp [up2, *]; done) | (simp [up2, *]; omega) | (simp only [up2_eq]; omega) | (split <;> omega)) (fun i hi h => by have h6 := hC.ho12 q5.1 q6.1 i hi h; omega) (by first | omega | (simp [up2, *]; done) | (simp [up2, *]; omega) | (simp only [up2_eq]; omega) | (split <;> omega)) hC.hU) pk_X2_takeOut qm_X2_72 0 6 rfl rfl wc_0 rfl rfl (Nat.le_of_ble_eq_true rfl) dX2_take_39 ⟨Nat.le_of_ble_eq_true rfl, Nat.le_of_ble_eq_true rfl⟩ ⟨Nat.le_of_ble_eq_true rfl, Nat.le_of_ble_eq_true rfl⟩ ?_
    refine r_aload_n C dX2_take_42 rfl ?_
    refine u_getN (v := .int (nI (f 8 k0))) hX C hE 2 (by first | omega | (simp [up2, *]; done) | (simp [up2, *]; omega) | (simp only [up2_eq]; omega) | (split <;> omega)) (by decide) qn_X2_237 rfl rfl dX2_take_43 ?_
    refine r_aload_n C dX2_take_46 rfl ?_
    refine u_getN (v := .int (nI (f 7 k0))) hX C hE 1 (by first | omega | (simp [up2, *]; done) | (simp [up2, *]; omega) | (simp only [up2_eq]; omega) | (split <;> omega)) (by decide) qn_X2_234 rfl rfl dX2_take_47 ?_
    refine r_icN_ge (a := (f 8 k0)) (b := (f 7 k0)) (tgt := 63) C (by first | omega | (simp [up2, *]; done) | (simp [up2, *]; omega) | (simp only [up2_eq]; omega) | (split <;> omega)) (by first | omega | (simp [up2, *]; done) | (simp [up2, *]; omega) | (simp only [up2_eq]; omega) | (split <;> omega)) dX2_take_50 (by decide) (fun h50_2 => ?_) (fun h50_2 => ?_)
    · skip
      refine r_aload_n C dX2_take_63 rfl ?_
      refine r_iconst (v := (nI 4294967295)) C dX2_take_64 (by decide) ?_
      refine u_putN hX C hE 2 (by first | omega | (simp [up2, *]; done) | (simp [up2, *]; omega) | (simp only [up2_eq]; omega) | (split <;> omega)) (by decide) qn_X2_237 rfl rfl rfl dX2_take_65 ?_
      refine r_aload_n C dX2_take_68 rfl ?_
      refine u_getN (v := .int (nI (f 7 k0))) hX C hE 1 (by first | omega | (simp [up2, *]; done) | (simp [up2, *]; omega) | (simp only [up2_eq]; omega) | (split <;> omega)) (by decide) qn_X2_234 rfl rfl dX2_take_69 ?_
      exact r_iret C hr dX2_take_72 ⟨rfl, rfl⟩ (Nat.le_of_ble_eq_true rfl) (Nat.le_of_ble_eq_true rfl)
    · exact absurd h50_2 (by show ¬ _; omega)
  · exact absurd h17_1 (by first | omega | (simp [up2, *]; done) | (simp [up2, *]; omega) | (simp only [up2_eq]; omega) | (split <;> omega))
theorem dX2_replace_13 : decode cX2_replace 13 = .ok (.aload_n 0, 1) := dqo_42 (kb_of ke_X2_replace 13 rfl)
theorem dX2_replace_14 : decode cX2_replace 14 = .ok (.getfield 24, 3) := dqo_180 0 24 (kb_of ke_X2_replace 14 rfl) (kb_of ke_X2_replace 15 rfl) (kb_of ke_X2_replace 16 rfl)
theorem dX2_replace_17 : decode cX2_replace 17 = .ok (.iload_n 1, 1) := dqo_27 (kb_of ke_X2_replace 17 rfl)
theorem dX2_replace_18 : decode cX2_replace 18 = .ok (.aaload, 1) := dqo_50 (kb_of ke_X2_replace 18 rfl)
theorem dX2_replace_19 : decode cX2_replace 19 = .ok (.astore_n 3, 1) := dqo_78 (kb_of ke_X2_replace 19 rfl)
theorem dX2_replace_20 : decode cX2_replace 20 = .ok (.aload_n 3, 1) := dqo_45 (kb_of ke_X2_replace 20 rfl)
theorem dX2_replace_21 : decode cX2_replace 21 = .ok (.getfield 237, 3) := dqo_180 0 237 (kb_of ke_X2_replace 21 rfl) (kb_of ke_X2_replace 22 rfl) (kb_of ke_X2_replace 23 rfl)
theorem dX2_replace_24 : decode cX2_replace 24 = .ok (.iconst (-1), 1) := dqo_2 (kb_of ke_X2_replace 24 rfl)
theorem dX2_replace_25 : decode cX2_replace 25 = .ok (.if_icmp .ne 6, 3) := dqo_160 0 6 (by decide) (kb_of ke_X2_replace 25 rfl) (kb_of ke_X2_replace 26 rfl) (kb_of ke_X2_replace 27 rfl)
theorem dX2_replace_28 : decode cX2_replace 28 = .ok (.bipush (-9), 2) := dqo_16 247 (by decide) (kb_of ke_X2_replace 28 rfl) (kb_of ke_X2_replace 29 rfl)
theorem dX2_replace_30 : decode cX2_replace 30 = .ok (.ireturn, 1) := dqo_172 (kb_of ke_X2_replace 30 rfl)
set_option maxRecDepth 100000 in
set_option maxHeartbeats 4000000 in
theorem C_replace_ref {l : Launch} {D : va_G} {cy : Nat → ClassId} {X : (Nat → Prop) → State → Heap → Prop} {a f : Nat → Nat → Nat} {r : Nat → Nat → Int32} {kn : Int32} {Y : va_W} {k0 : Nat} {y : Int32} (hX : EnvX X) (hC : CInv f) (hk3 : k0 < 3) (ho : okI y) (h9 : f 9 k0 = 1) (hl : f 8 k0 = 4294967295) : Cd l D cy X yX2_replace cX2_replace 4 (some .int) (rmz 6 240) [.ref (a 0 0), .int (nI k0), .int y] (WC cy a f r kn ++ Y) (some (.int (nI 4294967287))) (WC cy a f r kn ++ Y) := by
  have q3 := hC.sp
  have q5 := hC.cu hk3
  have q6 := q5.2.2 h9
  have q7 := hC.th q5.1 q6.1
  have q8 := hC.al q5.1
  have q9 := hC.rw (i := f 1 (f 6 k0)) q8.2.1
  refine Cm.of [some (.ref (a 0 0)), some (.int (nI k0)), some (.int y), none] pn_X2 rfl (Nat.le_of_ble_eq_true rfl) ?_
  intro p e s m args below meth c A C hE hr hnt hn
  refine r_iload_n C dX2_replace_0 rfl ?_
  refine d_Sv (st := []) hX.stb C hE (C_needCursor_ok (f := f) (r := r) (kn := kn) (k := k0) hX (by first | omega | (simp [up2, *]; done) | (simp [up2, *]; omega) | (simp only [up2_eq]; omega) | (split <;> omega))) pk_X2_needCursor qm_X2_210 rfl rfl (Nat.le_of_ble_eq_true rfl) dX2_replace_1 ⟨Nat.le_of_ble_eq_true rfl, Nat.le_of_ble_eq_true rfl⟩ ⟨Nat.le_of_ble_eq_true rfl, Nat.le_of_ble_eq_true rfl⟩ ?_
  refine r_iload_n C dX2_replace_4 rfl ?_
  refine d_Sv (st := []) hX.stb C hE (C_needItem_ok (f := f) (r := r) (kn := kn) (x := (y)) hX ho) pk_X2_needItem qm_X2_43 rfl rfl (Nat.le_of_ble_eq_true rfl) dX2_replace_5 ⟨Nat.le_of_ble_eq_true rfl, Nat.le_of_ble_eq_true rfl⟩ ⟨Nat.le_of_ble_eq_true rfl, Nat.le_of_ble_eq_true rfl⟩ ?_
  refine r_aload_n C dX2_replace_8 rfl ?_
  refine r_iload_n C dX2_replace_9 rfl ?_
  refine d_Vv (st := []) hX.stb C hE (C_needCursorThere_ok (f := f) (r := r) (kn := kn) (k := k0) hX (by first | omega | (simp [up2, *]; done) | (simp [up2, *]; omega) | (simp only [up2_eq]; omega) | (split <;> omega)) (by first | omega | (simp [up2, *]; done) | (simp [up2, *]; omega) | (simp only [up2_eq]; omega) | (split <;> omega))) pk_X2_needCursorThere qm_X2_222 0 6 rfl rfl wc_0 rfl rfl (Nat.le_of_ble_eq_true rfl) dX2_replace_10 ⟨Nat.le_of_ble_eq_true rfl, Nat.le_of_ble_eq_true rfl⟩ ⟨Nat.le_of_ble_eq_true rfl, Nat.le_of_ble_eq_true rfl⟩ ?_
  refine r_aload_n C dX2_replace_13 rfl ?_
  refine s_get C 1 (by decide) qf_X2_24 rfl rfl dX2_replace_14 ?_
  refine r_iload_n C dX2_replace_17 rfl ?_
  refine s_curs C (by first | omega | (simp [up2, *]; done) | (simp [up2, *]; omega) | (simp only [up2_eq]; omega) | (split <;> omega)) dX2_replace_18 ?_
  refine r_astore_n C dX2_replace_19 (by decide) rfl ?_
  refine r_aload_n C dX2_replace_20 rfl ?_
  refine u_getN (v := .int (nI (f 8 k0))) hX C hE 2 (by first | omega | (simp [up2, *]; done) | (simp [up2, *]; omega) | (simp only [up2_eq]; omega) | (split <;> omega)) (by decide) qn_X2_237 rfl rfl dX2_replace_21 ?_
  refine r_iconst (v := (nI 4294967295)) C dX2_replace_24 (by decide) ?_
  refine r_icN_ne (a := (f 8 k0)) (b := 4294967295) (tgt := 31) C (by omega) (by first | omega | (simp [up2, *]; done) | (simp [up2, *]; omega) | (simp only [up2_eq]; omega) | (split <;> omega)) dX2_replace_25 (by decide) (fun h25_1 => ?_) (fun h25_1 => ?_)
  · exact absurd h25_1 (by first | omega | (simp [up2, *]; done) | (simp [up2, *]; omega) | (simp only [up2_eq]; omega) | (split <;> omega))
  · skip
    refine r_bipush (v := (nI 4294967287)) C dX2_replace_28 (by decide) ?_
    exact r_iret C hr dX2_replace_30 ⟨rfl, rfl⟩ (Nat.le_of_ble_eq_true rfl) (Nat.le_of_ble_eq_true rfl)
theorem dX2_replace_31 : decode cX2_replace 31 = .ok (.aload_n 0, 1) := dqo_42 (kb_of ke_X2_replace 31 rfl)
theorem dX2_replace_32 : decode cX2_replace 32 = .ok (.getfield 11, 3) := dqo_180 0 11 (kb_of ke_X2_replace 32 rfl) (kb_of ke_X2_replace 33 rfl) (kb_of ke_X2_replace 34 rfl)
theorem dX2_replace_35 : decode cX2_replace 35 = .ok (.aload_n 3, 1) := dqo_45 (kb_of ke_X2_replace 35 rfl)
theorem dX2_replace_36 : decode cX2_replace 36 = .ok (.getfield 225, 3) := dqo_180 0 225 (kb_of ke_X2_replace 36 rfl) (kb_of ke_X2_replace 37 rfl) (kb_of ke_X2_replace 38 rfl)
theorem dX2_replace_39 : decode cX2_replace 39 = .ok (.aaload, 1) := dqo_50 (kb_of ke_X2_replace 39 rfl)
theorem dX2_replace_40 : decode cX2_replace 40 = .ok (.aload_n 3, 1) := dqo_45 (kb_of ke_X2_replace 40 rfl)
theorem dX2_replace_41 : decode cX2_replace 41 = .ok (.getfield 237, 3) := dqo_180 0 237 (kb_of ke_X2_replace 41 rfl) (kb_of ke_X2_replace 42 rfl) (kb_of ke_X2_replace 43 rfl)
theorem dX2_replace_44 : decode cX2_replace 44 = .ok (.iload_n 2, 1) := dqo_28 (kb_of ke_X2_replace 44 rfl)
theorem dX2_replace_45 : decode cX2_replace 45 = .ok (.invokevirtual 69, 3) := dqo_182 0 69 (kb_of ke_X2_replace 45 rfl) (kb_of ke_X2_replace 46 rfl) (kb_of ke_X2_replace 47 rfl)
theorem dX2_replace_48 : decode cX2_replace 48 = .ok (.aload_n 3, 1) := dqo_45 (kb_of ke_X2_replace 48 rfl)
theorem dX2_replace_49 : decode cX2_replace 49 = .ok (.getfield 234, 3) := dqo_180 0 234 (kb_of ke_X2_replace 49 rfl) (kb_of ke_X2_replace 50 rfl) (kb_of ke_X2_replace 51 rfl)
theorem dX2_replace_52 : decode cX2_replace 52 = .ok (.ireturn, 1) := dqo_172 (kb_of ke_X2_replace 52 rfl)
set_option maxRecDepth 100000 in
set_option maxHeartbeats 4000000 in
theorem C_replace_ok {l : Launch} {D : va_G} {cy : Nat → ClassId} {X : (Nat → Prop) → State → Heap → Prop} {a f : Nat → Nat → Nat} {r : Nat → Nat → Int32} {kn : Int32} {Y : va_W} {k0 : Nat} {y : Int32} (hX : EnvX X) (hC : CInv f) (hk3 : k0 < 3) (ho : okI y) (h9 : f 9 k0 = 1) (hl : f 8 k0 ≠ 4294967295) : Cd l D cy X yX2_replace cX2_replace 4 (some .int) (rmz 6 240) [.ref (a 0 0), .int (nI k0), .int y] (WC cy a f r kn ++ Y) (some (.int (nI (f 7 k0)))) (WC cy a f (up2 r (f 0 (f 6 k0)) (f 3 (f 6 k0) + (f 8 k0)) (y)) kn ++ Y) := by
  have q3 := hC.sp
  have q5 := hC.cu hk3
  have q6 := q5.2.2 h9
  have q7 := hC.th q5.1 q6.1
  have q8 := hC.al q5.1
  have q9 := hC.rw (i := f 1 (f 6 k0)) q8.2.1
  refine Cm.of [some (.ref (a 0 0)), some (.int (nI k0)), some (.int y), none] pn_X2 rfl (Nat.le_of_ble_eq_true rfl) ?_
  intro p e s m args below meth c A C hE hr hnt hn
  refine r_iload_n C dX2_replace_0 rfl ?_
  refine d_Sv (st := []) hX.stb C hE (C_needCursor_ok (f := f) (r := r) (kn := kn) (k := k0) hX (by first | omega | (simp [up2, *]; done) | (simp [up2, *]; omega) | (simp only [up2_eq]; omega) | (split <;> omega))) pk_X2_needCursor qm_X2_210 rfl rfl (Nat.le_of_ble_eq_true rfl) dX2_replace_1 ⟨Nat.le_of_ble_eq_true rfl, Nat.le_of_ble_eq_true rfl⟩ ⟨Nat.le_of_ble_eq_true rfl, Nat.le_of_ble_eq_true rfl⟩ ?_
  refine r_iload_n C dX2_replace_4 rfl ?_
  refine d_Sv (st := []) hX.stb C hE (C_needItem_ok (f := f) (r := r) (kn := kn) (x := (y)) hX ho) pk_X2_needItem qm_X2_43 rfl rfl (Nat.le_of_ble_eq_true rfl) dX2_replace_5 ⟨Nat.le_of_ble_eq_true rfl, Nat.le_of_ble_eq_true rfl⟩ ⟨Nat.le_of_ble_eq_true rfl, Nat.le_of_ble_eq_true rfl⟩ ?_
  refine r_aload_n C dX2_replace_8 rfl ?_
  refine r_iload_n C dX2_replace_9 rfl ?_
  refine d_Vv (st := []) hX.stb C hE (C_needCursorThere_ok (f := f) (r := r) (kn := kn) (k := k0) hX (by first | omega | (simp [up2, *]; done) | (simp [up2, *]; omega) | (simp only [up2_eq]; omega) | (split <;> omega)) (by first | omega | (simp [up2, *]; done) | (simp [up2, *]; omega) | (simp only [up2_eq]; omega) | (split <;> omega))) pk_X2_needCursorThere qm_X2_222 0 6 rfl rfl wc_0 rfl rfl (Nat.le_of_ble_eq_true rfl) dX2_replace_10 ⟨Nat.le_of_ble_eq_true rfl, Nat.le_of_ble_eq_true rfl⟩ ⟨Nat.le_of_ble_eq_true rfl, Nat.le_of_ble_eq_true rfl⟩ ?_
  refine r_aload_n C dX2_replace_13 rfl ?_
  refine s_get C 1 (by decide) qf_X2_24 rfl rfl dX2_replace_14 ?_
  refine r_iload_n C dX2_replace_17 rfl ?_
  refine s_curs C (by first | omega | (simp [up2, *]; done) | (simp [up2, *]; omega) | (simp only [up2_eq]; omega) | (split <;> omega)) dX2_replace_18 ?_
  refine r_astore_n C dX2_replace_19 (by decide) rfl ?_
  refine r_aload_n C dX2_replace_20 rfl ?_
  refine u_getN (v := .int (nI (f 8 k0))) hX C hE 2 (by first | omega | (simp [up2, *]; done) | (simp [up2, *]; omega) | (simp only [up2_eq]; omega) | (split <;> omega)) (by decide) qn_X2_237 rfl rfl dX2_replace_21 ?_
  refine r_iconst (v := (nI 4294967295)) C dX2_replace_24 (by decide) ?_
  refine r_icN_ne (a := (f 8 k0)) (b := 4294967295) (tgt := 31) C (by omega) (by first | omega | (simp [up2, *]; done) | (simp [up2, *]; omega) | (simp only [up2_eq]; omega) | (split <;> omega)) dX2_replace_25 (by decide) (fun h25_1 => ?_) (fun h25_1 => ?_)
  · skip
    refine r_aload_n C dX2_replace_31 rfl ?_
    refine s_get C 0 (by decide) qf_X2_11 rfl rfl dX2_replace_32 ?_
    refine r_aload_n C dX2_replace_35 rfl ?_
    refine u_getN (v := .int (nI (f 6 k0))) hX C hE 0 (by first | omega | (simp [up2, *]; done) | (simp [up2, *]; omega) | (simp only [up2_eq]; omega) | (split <;> omega)) (by decide) qn_X2_225 rfl rfl dX2_replace_36 ?_
    refine s_parts C (by first | omega | (simp [up2, *]; done) | (simp [up2, *]; omega) | (simp only [up2_eq]; omega) | (split <;> omega)) dX2_replace_39 ?_
    refine r_aload_n C dX2_replace_40 rfl ?_
    refine u_getN (v := .int (nI (f 8 k0))) hX C hE 2 (by first | omega | (simp [up2, *]; done) | (simp [up2, *]; omega) | (simp only [up2_eq]; omega) | (split <;> omega)) (by decide) qn_X2_237 rfl rfl dX2_replace_41 ?_
    refine r_iload_n C dX2_replace_44 rfl ?_
    refine d_Vv (st := []) hX.stb C hE (C_putAt (f := f) (r := r) (kn := kn) (i := (f 6 k0)) (k := (f 8 k0)) (x := (y)) hX (by first | omega | (simp [up2, *]; done) | (simp [up2, *]; omega) | (simp only [up2_eq]; omega) | (split <;> omega)) (by first | omega | (simp [up2, *]; done) | (simp [up2, *]; omega) | (simp only [up2_eq]; omega) | (split <;> omega)) (by first | omega | (simp [up2, *]; done) | (simp [up2, *]; omega) | (simp only [up2_eq]; omega) | (split <;> omega))) pk_X1_putAt qm_X2_69 (3 + (f 6 k0)) 5 rfl rfl (wc_p (by first | omega | (simp [up2, *]; done) | (simp [up2, *]; omega) | (simp only [up2_eq]; omega) | (split <;> omega))) rfl rfl (Nat.le_of_ble_eq_true rfl) dX2_replace_45 ⟨Nat.le_of_ble_eq_true rfl, Nat.le_of_ble_eq_true rfl⟩ ⟨Nat.le_of_ble_eq_true rfl, Nat.le_of_ble_eq_true rfl⟩ ?_
    refine r_aload_n C dX2_replace_48 rfl ?_
    refine u_getN (v := .int (nI (f 7 k0))) hX C hE 1 (by first | omega | (simp [up2, *]; done) | (simp [up2, *]; omega) | (simp only [up2_eq]; omega) | (split <;> omega)) (by decide) qn_X2_234 rfl rfl dX2_replace_49 ?_
    exact r_iret C hr dX2_replace_52 ⟨rfl, rfl⟩ (Nat.le_of_ble_eq_true rfl) (Nat.le_of_ble_eq_true rfl)
  · exact absurd h25_1 (by first | omega | (simp [up2, *]; done) | (simp [up2, *]; omega) | (simp only [up2_eq]; omega) | (split <;> omega))
