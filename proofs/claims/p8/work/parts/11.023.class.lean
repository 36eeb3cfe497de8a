theorem dX2_settle_84 : decode cX2_settle 84 = .ok (.iload_n 3, 1) := by decide +kernel
theorem dX2_settle_85 : decode cX2_settle 85 = .ok (.if_icmp .ne 24, 3) := by decide +kernel
theorem dX2_settle_88 : decode cX2_settle 88 = .ok (.aload_n 0, 1) := by decide +kernel
theorem dX2_settle_89 : decode cX2_settle 89 = .ok (.iload 4, 2) := by decide +kernel
theorem dX2_settle_91 : decode cX2_settle 91 = .ok (.iload_n 1, 1) := by decide +kernel
theorem dX2_settle_92 : decode cX2_settle 92 = .ok (.invokevirtual 182, 3) := by decide +kernel
theorem dX2_settle_95 : decode cX2_settle 95 = .ok (.ifCond .ne 14, 3) := by decide +kernel
theorem dX2_settle_98 : decode cX2_settle 98 = .ok (.aload_n 0, 1) := by decide +kernel
theorem dX2_settle_99 : decode cX2_settle 99 = .ok (.getfield 11, 3) := by decide +kernel
theorem dX2_settle_102 : decode cX2_settle 102 = .ok (.iload 4, 2) := by decide +kernel
theorem dX2_settle_104 : decode cX2_settle 104 = .ok (.aaload, 1) := by decide +kernel
theorem dX2_settle_105 : decode cX2_settle 105 = .ok (.iconst 0, 1) := by decide +kernel
theorem dX2_settle_106 : decode cX2_settle 106 = .ok (.putfield 194, 3) := by decide +kernel
theorem dX2_settle_109 : decode cX2_settle 109 = .ok (.iinc 4 1, 3) := by decide +kernel
theorem dX2_settle_112 : decode cX2_settle 112 = .ok (.goto (-45), 3) := by decide +kernel
theorem dX2_settle_115 : decode cX2_settle 115 = .ok (.return_, 1) := by decide +kernel
set_option maxRecDepth 100000 in
set_option maxHeartbeats 4000000 in
theorem C_settle {l : Launch} {D : va_G} {cy : Nat → ClassId} {X : (Nat → Prop) → State → Heap → Prop} {a f : Nat → Nat → Nat} {r : Nat → Nat → Int32} {kn : Int32} {Y : va_W} {w : Nat} {d0 : Nat} (hX : EnvX X) (hw : w < 8) (hd : d0 < 4294967296) (h1 : ∀ i, i < 8 → f 1 i < 4) (hU : ∀ k, k < 3 → f 6 k < 8) (hG : ∀ i, i < 8 → f 2 i < 8 ∨ f 2 i = 4294967295) : Cd l D cy X yX2_settle cX2_settle 5 none (rmz 1 30) [.ref (a 0 0), .int (nI w), .int (nI d0)] (WC cy a f r kn ++ Y) none (WC cy a (settleF f w d0) r kn ++ Y) := by
  refine Cm.of [some (.ref (a 0 0)), some (.int (nI w)), some (.int (nI d0)), none, none] (by decide +kernel) rfl (Nat.le_of_ble_eq_true rfl) ?_
  intro p e s m args below meth c A C hE hr hnt hn
  refine r_aload_n C dX2_settle_0 rfl ?_
  refine s_get C 0 (by decide) qf_X2_11 rfl rfl dX2_settle_1 ?_
  refine r_iload_n C dX2_settle_4 rfl ?_
  refine s_parts C (by first | omega | (simp [up2, *]; done) | (simp [up2, *]; omega) | (simp only [up2_eq]; omega)) dX2_settle_5 ?_
  refine p_getN (v := .int (nI (f 1 w))) hX C hE 1 (by first | omega | (simp [up2, *]; done) | (simp [up2, *]; omega) | (simp only [up2_eq]; omega)) (by decide) qn_X2_207 rfl rfl dX2_settle_6 ?_
  refine r_istore_n C dX2_settle_9 (by decide) rfl ?_
  refine r_iconst (v := (nI 0)) C dX2_settle_10 (by decide) ?_
  refine r_istore C dX2_settle_11 (by decide) rfl ?_
  refine r_w (congrArg (fun z => WC cy a z r kn ++ Y) (stU_0 f w d0).symm) ?_
  have L13 : ∀ (d : Nat) (k : Nat), (hk : k + d = 3) → vC p l e (rmz 1 30) s m args below meth c D A (vx_MQ below (vG (fun v1 w1 => v1 = none ∧ w1 = WC cy a (settleF f w d0) r kn ++ Y) D vwCl A) (vGX (fun _ => False) D vwCl (WC cy a f r kn ++ Y) A) args s (rmz 1 30).cells (rmz 1 30).slots A) 5 0 0 (WC cy a (stU f w d0 k) r kn ++ Y) [some (.ref (a 0 0)), some (.int (nI w)), some (.int (nI d0)), some (.int (nI (f 1 w))), some (.int (nI k))] 13 [] := by
    intro d
    induction d with
    | zero =>
      intro k hk
      refine r_iload C dX2_settle_13 rfl ?_
      refine r_iconst (v := (nI 3)) C dX2_settle_15 (by decide) ?_
      refine r_icN_ge (a := k) (b := 3) (tgt := 64) C (by first | omega | (simp [up2, *]; done) | (simp [up2, *]; omega) | (simp only [up2_eq]; omega)) (by first | omega | (simp [up2, *]; done) | (simp [up2, *]; omega) | (simp only [up2_eq]; omega)) dX2_settle_16 (by decide) (fun h16_1 => ?_) (fun h16_1 => ?_)
      · first
        | exfalso; first | omega | contradiction
        | skip
          refine r_iconst (v := (nI 4)) C dX2_settle_64 (by decide) ?_
          refine r_istore C dX2_settle_65 (by decide) rfl ?_
          have e3 : k = 3 := by omega
          subst e3
          refine r_w (congrArg (fun z => WC cy a z r kn ++ Y) (stW_0 (stU f w d0 3) w).symm) ?_
          have L67 : ∀ (d : Nat) (k : Nat), (hk : k + d = 8) → (hk4 : 4 ≤ k) → vC p l e (rmz 1 30) s m args below meth c D A (vx_MQ below (vG (fun v1 w1 => v1 = none ∧ w1 = WC cy a (settleF f w d0) r kn ++ Y) D vwCl A) (vGX (fun _ => False) D vwCl (WC cy a f r kn ++ Y) A) args s (rmz 1 30).cells (rmz 1 30).slots A) 5 0 0 (WC cy a (stW (stU f w d0 3) w k) r kn ++ Y) [some (.ref (a 0 0)), some (.int (nI w)), some (.int (nI d0)), some (.int (nI (f 1 w))), some (.int (nI k))] 67 [] := by
            intro d
            induction d with
            | zero =>
              intro k hk hk4
              refine r_iload C dX2_settle_67 rfl ?_
              refine r_bipush (v := (nI 8)) C dX2_settle_69 (by decide) ?_
              refine r_icN_ge (a := k) (b := 8) (tgt := 115) C (by first | omega | (simp [up2, *]; done) | (simp [up2, *]; omega) | (simp only [up2_eq]; omega)) (by first | omega | (simp [up2, *]; done) | (simp [up2, *]; omega) | (simp only [up2_eq]; omega)) dX2_settle_71 (by decide) (fun h71_2 => ?_) (fun h71_2 => ?_)
              · first
                | exfalso; first | omega | contradiction
                | skip
                  have e8 : k = 8 := by omega
                  subst e8
                  exact r_vret C hr dX2_settle_115 ⟨rfl, rfl⟩ (Nat.le_of_ble_eq_true rfl) (Nat.le_of_ble_eq_true rfl)
              · first
                | exfalso; first | omega | contradiction
                | skip
                  refine r_aload_n C dX2_settle_74 rfl ?_
                  refine s_get C 0 (by decide) qf_X2_11 rfl rfl dX2_settle_75 ?_
                  refine r_iload C dX2_settle_78 rfl ?_
                  refine s_parts C (by first | omega | (simp [up2, *]; done) | (simp [up2, *]; omega) | (simp only [up2_eq]; omega)) dX2_settle_80 ?_
                  refine p_getN (v := .int (nI (f 1 k))) hX C hE 1 (by first | omega | (simp [up2, *]; done) | (simp [up2, *]; omega) | (simp only [up2_eq]; omega)) (by decide) qn_X2_207 rfl rfl dX2_settle_81 ?_
                  refine r_iload_n C dX2_settle_84 rfl ?_
                  refine r_icN_ne (a := (f 1 k)) (b := (f 1 w)) (tgt := 109) C (Nat.lt_of_lt_of_le (h1 k (by omega)) (by decide)) (Nat.lt_of_lt_of_le (h1 w (by omega)) (by decide)) dX2_settle_85 (by decide) (fun h85_3 => ?_) (fun h85_3 => ?_)
                  · first
                    | exfalso; first | omega | contradiction
                    | skip
                      refine r_iincN C dX2_settle_109 rfl (by decide) rfl ?_
                      refine r_goto (tgt := 67) C dX2_settle_112 (by decide) ?_
                      refine r_w (congrArg (fun z => WC cy a z r kn ++ Y) (stW_no (by first | exact Or.inl (by assumption) | exact Or.inr (by assumption)))) ?_
                      exact (Nat.not_lt_zero _ (by omega)).elim
                  · first
                    | exfalso; first | omega | contradiction
                    | skip
                      refine r_aload_n C dX2_settle_88 rfl ?_
                      refine r_iload C dX2_settle_89 rfl ?_
                      refine r_iload_n C dX2_settle_91 rfl ?_
                      refine d_V (st := []) hX.stb C hE (C_isHolder (f := (stW (stU f w d0 3) w k)) (r := r) (kn := kn) (h := k) (w := w) hX (by first | omega | (simp [up2, *]; done) | (simp [up2, *]; omega) | (simp only [up2_eq]; omega)) (by first | omega | (simp [up2, *]; done) | (simp [up2, *]; omega) | (simp only [up2_eq]; omega)) hG) pk_X2_isHolder qm_X2_182 0 6 rfl rfl wc_0 rfl rfl (Nat.le_of_ble_eq_true rfl) dX2_settle_92 ⟨Nat.le_of_ble_eq_true rfl, Nat.le_of_ble_eq_true rfl⟩ ⟨Nat.le_of_ble_eq_true rfl, Nat.le_of_ble_eq_true rfl⟩ ?_
                      refine r_ifN_ne (a := (hol f k w)) (tgt := 109) C (Nat.lt_of_le_of_lt (hol_le _ _ _) (by decide)) dX2_settle_95 (by decide) (fun h95_4 => ?_) (fun h95_4 => ?_)
                      · first
                        | exfalso; first | omega | contradiction
                        | skip
                          refine r_iincN C dX2_settle_109 rfl (by decide) rfl ?_
                          refine r_goto (tgt := 67) C dX2_settle_112 (by decide) ?_
                          refine r_w (congrArg (fun z => WC cy a z r kn ++ Y) (stW_no (by first | exact Or.inl (by assumption) | exact Or.inr (by assumption)))) ?_
                          exact (Nat.not_lt_zero _ (by omega)).elim
                      · first
                        | exfalso; first | omega | contradiction
                        | skip
                          refine r_aload_n C dX2_settle_98 rfl ?_
                          refine s_get C 0 (by decide) qf_X2_11 rfl rfl dX2_settle_99 ?_
                          refine r_iload C dX2_settle_102 rfl ?_
                          refine s_parts C (by first | omega | (simp [up2, *]; done) | (simp [up2, *]; omega) | (simp only [up2_eq]; omega)) dX2_settle_104 ?_
                          refine r_iconst (v := (nI 0)) C dX2_settle_105 (by decide) ?_
                          refine p_putZN hX C hE (by first | omega | (simp [up2, *]; done) | (simp [up2, *]; omega) | (simp only [up2_eq]; omega)) (by first | omega | (simp [up2, *]; done) | (simp [up2, *]; omega) | (simp only [up2_eq]; omega)) qn_X2_194 dX2_settle_106 ?_
                          refine r_iincN C dX2_settle_109 rfl (by decide) rfl ?_
                          refine r_goto (tgt := 67) C dX2_settle_112 (by decide) ?_
                          refine r_w (congrArg (fun z => WC cy a z r kn ++ Y) (stW_yes (by omega) (by assumption) (by assumption))) ?_
                          exact (Nat.not_lt_zero _ (by omega)).elim
            | succ d ih_L67 =>
              intro k hk hk4
              refine r_iload C dX2_settle_67 rfl ?_
              refine r_bipush (v := (nI 8)) C dX2_settle_69 (by decide) ?_
              refine r_icN_ge (a := k) (b := 8) (tgt := 115) C (by first | omega | (simp [up2, *]; done) | (simp [up2, *]; omega) | (simp only [up2_eq]; omega)) (by first | omega | (simp [up2, *]; done) | (simp [up2, *]; omega) | (simp only [up2_eq]; omega)) dX2_settle_71 (by decide) (fun h71_5 => ?_) (fun h71_5 => ?_)
              · first
                | exfalso; first | omega | contradiction
                | skip
                  have e8 : k = 8 := by omega
                  subst e8
                  exact r_vret C hr dX2_settle_115 ⟨rfl, rfl⟩ (Nat.le_of_ble_eq_true rfl) (Nat.le_of_ble_eq_true rfl)
              · first
                | exfalso; first | omega | contradiction
                | skip
                  refine r_aload_n C dX2_settle_74 rfl ?_
                  refine s_get C 0 (by decide) qf_X2_11 rfl rfl dX2_settle_75 ?_
                  refine r_iload C dX2_settle_78 rfl ?_
                  refine s_parts C (by first | omega | (simp [up2, *]; done) | (simp [up2, *]; omega) | (simp only [up2_eq]; omega)) dX2_settle_80 ?_
                  refine p_getN (v := .int (nI (f 1 k))) hX C hE 1 (by first | omega | (simp [up2, *]; done) | (simp [up2, *]; omega) | (simp only [up2_eq]; omega)) (by decide) qn_X2_207 rfl rfl dX2_settle_81 ?_
                  refine r_iload_n C dX2_settle_84 rfl ?_
                  refine r_icN_ne (a := (f 1 k)) (b := (f 1 w)) (tgt := 109) C (Nat.lt_of_lt_of_le (h1 k (by omega)) (by decide)) (Nat.lt_of_lt_of_le (h1 w (by omega)) (by decide)) dX2_settle_85 (by decide) (fun h85_6 => ?_) (fun h85_6 => ?_)
                  · first
                    | exfalso; first | omega | contradiction
                    | skip
                      refine r_iincN C dX2_settle_109 rfl (by decide) rfl ?_
                      refine r_goto (tgt := 67) C dX2_settle_112 (by decide) ?_
                      refine r_w (congrArg (fun z => WC cy a z r kn ++ Y) (stW_no (by first | exact Or.inl (by assumption) | exact Or.inr (by assumption)))) ?_
                      exact ih_L67 (k + 1) (by omega) (by omega)
                  · first
                    | exfalso; first | omega | contradiction
                    | skip
                      refine r_aload_n C dX2_settle_88 rfl ?_
                      refine r_iload C dX2_settle_89 rfl ?_
                      refine r_iload_n C dX2_settle_91 rfl ?_
                      refine d_V (st := []) hX.stb C hE (C_isHolder (f := (stW (stU f w d0 3) w k)) (r := r) (kn := kn) (h := k) (w := w) hX (by first | omega | (simp [up2, *]; done) | (simp [up2, *]; omega) | (simp only [up2_eq]; omega)) (by first | omega | (simp [up2, *]; done) | (simp [up2, *]; omega) | (simp only [up2_eq]; omega)) hG) pk_X2_isHolder qm_X2_182 0 6 rfl rfl wc_0 rfl rfl (Nat.le_of_ble_eq_true rfl) dX2_settle_92 ⟨Nat.le_of_ble_eq_true rfl, Nat.le_of_ble_eq_true rfl⟩ ⟨Nat.le_of_ble_eq_true rfl, Nat.le_of_ble_eq_true rfl⟩ ?_
                      refine r_ifN_ne (a := (hol f k w)) (tgt := 109) C (Nat.lt_of_le_of_lt (hol_le _ _ _) (by decide)) dX2_settle_95 (by decide) (fun h95_7 => ?_) (fun h95_7 => ?_)
                      · first
                        | exfalso; first | omega | contradiction
                        | skip
                          refine r_iincN C dX2_settle_109 rfl (by decide) rfl ?_
                          refine r_goto (tgt := 67) C dX2_settle_112 (by decide) ?_
                          refine r_w (congrArg (fun z => WC cy a z r kn ++ Y) (stW_no (by first | exact Or.inl (by assumption) | exact Or.inr (by assumption)))) ?_
                          exact ih_L67 (k + 1) (by omega) (by omega)
                      · first
                        | exfalso; first | omega | contradiction
                        | skip
                          refine r_aload_n C dX2_settle_98 rfl ?_
                          refine s_get C 0 (by decide) qf_X2_11 rfl rfl dX2_settle_99 ?_
                          refine r_iload C dX2_settle_102 rfl ?_
                          refine s_parts C (by first | omega | (simp [up2, *]; done) | (simp [up2, *]; omega) | (simp only [up2_eq]; omega)) dX2_settle_104 ?_
                          refine r_iconst (v := (nI 0)) C dX2_settle_105 (by decide) ?_
                          refine p_putZN hX C hE (by first | omega | (simp [up2, *]; done) | (simp [up2, *]; omega) | (simp only [up2_eq]; omega)) (by first | omega | (simp [up2, *]; done) | (simp [up2, *]; omega) | (simp only [up2_eq]; omega)) qn_X2_194 dX2_settle_106 ?_
                          refine r_iincN C dX2_settle_109 rfl (by decide) rfl ?_
                          refine r_goto (tgt := 67) C dX2_settle_112 (by decide) ?_
                          refine r_w (congrArg (fun z => WC cy a z r kn ++ Y) (stW_yes (by omega) (by assumption) (by assumption))) ?_
                          exact ih_L67 (k + 1) (by omega) (by omega)
          exact L67 4 4 rfl (by omega)
      · first
        | exfalso; first | omega | contradiction
        | skip
          refine r_iload C dX2_settle_19 rfl ?_
          refine r_iload_n C dX2_settle_21 rfl ?_
          refine r_icN_eq (a := k) (b := d0) (tgt := 58) C (by first | omega | (simp [up2, *]; done) | (simp [up2, *]; omega) | (simp only [up2_eq]; omega)) (by first | omega | (simp [up2, *]; done) | (simp [up2, *]; omega) | (simp only [up2_eq]; omega)) dX2_settle_22 (by decide) (fun h22_8 => ?_) (fun h22_8 => ?_)
          · first
            | exfalso; first | omega | contradiction
            | skip
              refine r_iincN C dX2_settle_58 rfl (by decide) rfl ?_
              refine r_goto (tgt := 13) C dX2_settle_61 (by decide) ?_
              refine r_w (congrArg (fun z => WC cy a z r kn ++ Y) (stU_no (by first | exact Or.inl (by assumption) | exact Or.inr (by assumption)))) ?_
              exact (Nat.not_lt_zero _ (by omega)).elim
          · first
            | exfalso; first | omega | contradiction
            | skip
              refine r_aload_n C dX2_settle_25 rfl ?_
              refine s_get C 0 (by decide) qf_X2_11 rfl rfl dX2_settle_26 ?_
              have hu6 := hU k (by omega)
              refine r_aload_n C dX2_settle_29 rfl ?_
              refine s_get C 1 (by decide) qf_X2_24 rfl rfl dX2_settle_30 ?_
              refine r_iload C dX2_settle_33 rfl ?_
              refine s_curs C (by first | omega | (simp [up2, *]; done) | (simp [up2, *]; omega) | (simp only [up2_eq]; omega)) dX2_settle_35 ?_
              refine u_getN (v := .int (nI (f 6 k))) hX C hE 0 (by first | omega | (simp [up2, *]; done) | (simp [up2, *]; omega) | (simp only [up2_eq]; omega)) (by decide) qn_X2_225 rfl rfl dX2_settle_36 ?_
              refine s_parts C (by first | omega | (simp [up2, *]; done) | (simp [up2, *]; omega) | (simp only [up2_eq]; omega)) dX2_settle_39 ?_
              refine p_getN (v := .int (nI (f 1 (f 6 k)))) hX C hE 1 (by first | omega | (simp [up2, *]; done) | (simp [up2, *]; omega) | (simp only [up2_eq]; omega)) (by decide) qn_X2_207 rfl rfl dX2_settle_40 ?_
              refine r_iload_n C dX2_settle_43 rfl ?_
              refine r_icN_ne (a := (f 1 (f 6 k))) (b := (f 1 w)) (tgt := 58) C (Nat.lt_of_lt_of_le (h1 (f 6 k) hu6) (by decide)) (Nat.lt_of_lt_of_le (h1 w (by omega)) (by decide)) dX2_settle_44 (by decide) (fun h44_9 => ?_) (fun h44_9 => ?_)
              · first
                | exfalso; first | omega | contradiction
                | skip
                  refine r_iincN C dX2_settle_58 rfl (by decide) rfl ?_
                  refine r_goto (tgt := 13) C dX2_settle_61 (by decide) ?_
                  refine r_w (congrArg (fun z => WC cy a z r kn ++ Y) (stU_no (by first | exact Or.inl (by assumption) | exact Or.inr (by assumption)))) ?_
                  exact (Nat.not_lt_zero _ (by omega)).elim
              · first
                | exfalso; first | omega | contradiction
                | skip
                  refine r_aload_n C dX2_settle_47 rfl ?_
                  refine s_get C 1 (by decide) qf_X2_24 rfl rfl dX2_settle_48 ?_
                  refine r_iload C dX2_settle_51 rfl ?_
                  refine s_curs C (by first | omega | (simp [up2, *]; done) | (simp [up2, *]; omega) | (simp only [up2_eq]; omega)) dX2_settle_53 ?_
                  refine r_iconst (v := (nI 0)) C dX2_settle_54 (by decide) ?_
                  refine u_putZN hX C hE (by first | omega | (simp [up2, *]; done) | (simp [up2, *]; omega) | (simp only [up2_eq]; omega)) (by first | omega | (simp [up2, *]; done) | (simp [up2, *]; omega) | (simp only [up2_eq]; omega)) qn_X2_221 dX2_settle_55 ?_
                  refine r_iincN C dX2_settle_58 rfl (by decide) rfl ?_
                  refine r_goto (tgt := 13) C dX2_settle_61 (by decide) ?_
                  refine r_w (congrArg (fun z => WC cy a z r kn ++ Y) (stU_yes (by assumption) (by assumption))) ?_
                  exact (Nat.not_lt_zero _ (by omega)).elim
    | succ d ih_L13 =>
      intro k hk
      refine r_iload C dX2_settle_13 rfl ?_
      refine r_iconst (v := (nI 3)) C dX2_settle_15 (by decide) ?_
      refine r_icN_ge (a := k) (b := 3) (tgt := 64) C (by first | omega | (simp [up2, *]; done) | (simp [up2, *]; omega) | (simp only [up2_eq]; omega)) (by first | omega | (simp [up2, *]; done) | (simp [up2, *]; omega) | (simp only [up2_eq]; omega)) dX2_settle_16 (by decide) (fun h16_10 => ?_) (fun h16_10 => ?_)
      · first
        | exfalso; first | omega | contradiction
        | skip
          refine r_iconst (v := (nI 4)) C dX2_settle_64 (by decide) ?_
          refine r_istore C dX2_settle_65 (by decide) rfl ?_
          have e3 : k = 3 := by omega
          subst e3
          refine r_w (congrArg (fun z => WC cy a z r kn ++ Y) (stW_0 (stU f w d0 3) w).symm) ?_
          have L67 : ∀ (d : Nat) (k : Nat), (hk : k + d = 8) → (hk4 : 4 ≤ k) → vC p l e (rmz 1 30) s m args below meth c D A (vx_MQ below (vG (fun v1 w1 => v1 = none ∧ w1 = WC cy a (settleF f w d0) r kn ++ Y) D vwCl A) (vGX (fun _ => False) D vwCl (WC cy a f r kn ++ Y) A) args s (rmz 1 30).cells (rmz 1 30).slots A) 5 0 0 (WC cy a (stW (stU f w d0 3) w k) r kn ++ Y) [some (.ref (a 0 0)), some (.int (nI w)), some (.int (nI d0)), some (.int (nI (f 1 w))), some (.int (nI k))] 67 [] := by
            intro d
            induction d with
            | zero =>
              intro k hk hk4
              refine r_iload C dX2_settle_67 rfl ?_
              refine r_bipush (v := (nI 8)) C dX2_settle_69 (by decide) ?_
              refine r_icN_ge (a := k) (b := 8) (tgt := 115) C (by first | omega | (simp [up2, *]; done) | (simp [up2, *]; omega) | (simp only [up2_eq]; omega)) (by first | omega | (simp [up2, *]; done) | (simp [up2, *]; omega) | (simp only [up2_eq]; omega)) dX2_settle_71 (by decide) (fun h71_11 => ?_) (fun h71_11 => ?_)
              · first
                | exfalso; first | omega | contradiction
                | skip
                  have e8 : k = 8 := by omega
                  subst e8
                  exact r_vret C hr dX2_settle_115 ⟨rfl, rfl⟩ (Nat.le_of_ble_eq_true rfl) (Nat.le_of_ble_eq_true rfl)
              · first
                | exfalso; first | omega | contradiction
                | skip
                  refine r_aload_n C dX2_settle_74 rfl ?_
                  refine s_get C 0 (by decide) qf_X2_11 rfl rfl dX2_settle_75 ?_
                  refine r_iload C dX2_settle_78 rfl ?_
                  refine s_parts C (by first | omega | (simp [up2, *]; done) | (simp [up2, *]; omega) | (simp only [up2_eq]; omega)) dX2_settle_80 ?_
                  refine p_getN (v := .int (nI (f 1 k))) hX C hE 1 (by first | omega | (simp [up2, *]; done) | (simp [up2, *]; omega) | (simp only [up2_eq]; omega)) (by decide) qn_X2_207 rfl rfl dX2_settle_81 ?_
                  refine r_iload_n C dX2_settle_84 rfl ?_
                  refine r_icN_ne (a := (f 1 k)) (b := (f 1 w)) (tgt := 109) C (Nat.lt_of_lt_of_le (h1 k (by omega)) (by decide)) (Nat.lt_of_lt_of_le (h1 w (by omega)) (by decide)) dX2_settle_85 (by decide) (fun h85_12 => ?_) (fun h85_12 => ?_)
                  · first
                    | exfalso; first | omega | contradiction
                    | skip
                      refine r_iincN C dX2_settle_109 rfl (by decide) rfl ?_
                      refine r_goto (tgt := 67) C dX2_settle_112 (by decide) ?_
                      refine r_w (congrArg (fun z => WC cy a z r kn ++ Y) (stW_no (by first | exact Or.inl (by assumption) | exact Or.inr (by assumption)))) ?_
                      exact (Nat.not_lt_zero _ (by omega)).elim
                  · first
                    | exfalso; first | omega | contradiction
                    | skip
                      refine r_aload_n C dX2_settle_88 rfl ?_
                      refine r_iload C dX2_settle_89 rfl ?_
                      refine r_iload_n C dX2_settle_91 rfl ?_
                      refine d_V (st := []) hX.stb C hE (C_isHolder (f := (stW (stU f w d0 3) w k)) (r := r) (kn := kn) (h := k) (w := w) hX (by first | omega | (simp [up2, *]; done) | (simp [up2, *]; omega) | (simp only [up2_eq]; omega)) (by first | omega | (simp [up2, *]; done) | (simp [up2, *]; omega) | (simp only [up2_eq]; omega)) hG) pk_X2_isHolder qm_X2_182 0 6 rfl rfl wc_0 rfl rfl (Nat.le_of_ble_eq_true rfl) dX2_settle_92 ⟨Nat.le_of_ble_eq_true rfl, Nat.le_of_ble_eq_true rfl⟩ ⟨Nat.le_of_ble_eq_true rfl, Nat.le_of_ble_eq_true rfl⟩ ?_
                      refine r_ifN_ne (a := (hol f k w)) (tgt := 109) C (Nat.lt_of_le_of_lt (hol_le _ _ _) (by decide)) dX2_settle_95 (by decide) (fun h95_13 => ?_) (fun h95_13 => ?_)
                      · first
                        | exfalso; first | omega | contradiction
                        | skip
                          refine r_iincN C dX2_settle_109 rfl (by decide) rfl ?_
                          refine r_goto (tgt := 67) C dX2_settle_112 (by decide) ?_
                          refine r_w (congrArg (fun z => WC cy a z r kn ++ Y) (stW_no (by first | exact Or.inl (by assumption) | exact Or.inr (by assumption)))) ?_
                          exact (Nat.not_lt_zero _ (by omega)).elim
                      · first
                        | exfalso; first | omega | contradiction
                        | skip
                          refine r_aload_n C dX2_settle_98 rfl ?_
                          refine s_get C 0 (by decide) qf_X2_11 rfl rfl dX2_settle_99 ?_
                          refine r_iload C dX2_settle_102 rfl ?_
                          refine s_parts C (by first | omega | (simp [up2, *]; done) | (simp [up2, *]; omega) | (simp only [up2_eq]; omega)) dX2_settle_104 ?_
                          refine r_iconst (v := (nI 0)) C dX2_settle_105 (by decide) ?_
                          refine p_putZN hX C hE (by first | omega | (simp [up2, *]; done) | (simp [up2, *]; omega) | (simp only [up2_eq]; omega)) (by first | omega | (simp [up2, *]; done) | (simp [up2, *]; omega) | (simp only [up2_eq]; omega)) qn_X2_194 dX2_settle_106 ?_
                          refine r_iincN C dX2_settle_109 rfl (by decide) rfl ?_
                          refine r_goto (tgt := 67) C dX2_settle_112 (by decide) ?_
                          refine r_w (congrArg (fun z => WC cy a z r kn ++ Y) (stW_yes (by omega) (by assumption) (by assumption))) ?_
                          exact (Nat.not_lt_zero _ (by omega)).elim
            | succ d ih_L67 =>
              intro k hk hk4
              refine r_iload C dX2_settle_67 rfl ?_
              refine r_bipush (v := (nI 8)) C dX2_settle_69 (by decide) ?_
              refine r_icN_ge (a := k) (b := 8) (tgt := 115) C (by first | omega | (simp [up2, *]; done) | (simp [up2, *]; omega) | (simp only [up2_eq]; omega)) (by first | omega | (simp [up2, *]; done) | (simp [up2, *]; omega) | (simp only [up2_eq]; omega)) dX2_settle_71 (by decide) (fun h71_14 => ?_) (fun h71_14 => ?_)
              · first
                | exfalso; first | omega | contradiction
                | skip
                  have e8 : k = 8 := by omega
                  subst e8
                  exact r_vret C hr dX2_settle_115 ⟨rfl, rfl⟩ (Nat.le_of_ble_eq_true rfl) (Nat.le_of_ble_eq_true rfl)
              · first
                | exfalso; first | omega | contradiction
                | skip
                  refine r_aload_n C dX2_settle_74 rfl ?_
                  refine s_get C 0 (by decide) qf_X2_11 rfl rfl dX2_settle_75 ?_
                  refine r_iload C dX2_settle_78 rfl ?_
                  refine s_parts C (by first | omega | (simp [up2, *]; done) | (simp [up2, *]; omega) | (simp only [up2_eq]; omega)) dX2_settle_80 ?_
                  refine p_getN (v := .int (nI (f 1 k))) hX C hE 1 (by first | omega | (simp [up2, *]; done) | (simp [up2, *]; omega) | (simp only [up2_eq]; omega)) (by decide) qn_X2_207 rfl rfl dX2_settle_81 ?_
                  refine r_iload_n C dX2_settle_84 rfl ?_
                  refine r_icN_ne (a := (f 1 k)) (b := (f 1 w)) (tgt := 109) C (Nat.lt_of_lt_of_le (h1 k (by omega)) (by decide)) (Nat.lt_of_lt_of_le (h1 w (by omega)) (by decide)) dX2_settle_85 (by decide) (fun h85_15 => ?_) (fun h85_15 => ?_)
                  · first
                    | exfalso; first | omega | contradiction
                    | skip
                      refine r_iincN C dX2_settle_109 rfl (by decide) rfl ?_
                      refine r_goto (tgt := 67) C dX2_settle_112 (by decide) ?_
                      refine r_w (congrArg (fun z => WC cy a z r kn ++ Y) (stW_no (by first | exact Or.inl (by assumption) | exact Or.inr (by assumption)))) ?_
                      exact ih_L67 (k + 1) (by omega) (by omega)
                  · first
                    | exfalso; first | omega | contradiction
                    | skip
                      refine r_aload_n C dX2_settle_88 rfl ?_
                      refine r_iload C dX2_settle_89 rfl ?_
                      refine r_iload_n C dX2_settle_91 rfl ?_
                      refine d_V (st := []) hX.stb C hE (C_isHolder (f := (stW (stU f w d0 3) w k)) (r := r) (kn := kn) (h := k) (w := w) hX (by first | omega | (simp [up2, *]; done) | (simp [up2, *]; omega) | (simp only [up2_eq]; omega)) (by first | omega | (simp [up2, *]; done) | (simp [up2, *]; omega) | (simp only [up2_eq]; omega)) hG) pk_X2_isHolder qm_X2_182 0 6 rfl rfl wc_0 rfl rfl (Nat.le_of_ble_eq_true rfl) dX2_settle_92 ⟨Nat.le_of_ble_eq_true rfl, Nat.le_of_ble_eq_true rfl⟩ ⟨Nat.le_of_ble_eq_true rfl, Nat.le_of_ble_eq_true rfl⟩ ?_
                      refine r_ifN_ne (a := (hol f k w)) (tgt := 109) C (Nat.lt_of_le_of_lt (hol_le _ _ _) (by decide)) dX2_settle_95 (by decide) (fun h95_16 => ?_) (fun h95_16 => ?_)
                      · first
                        | exfalso; first | omega | contradiction
                        | skip
                          refine r_iincN C dX2_settle_109 rfl (by decide) rfl ?_
                          refine r_goto (tgt := 67) C dX2_settle_112 (by decide) ?_
                          refine r_w (congrArg (fun z => WC cy a z r kn ++ Y) (stW_no (by first | exact Or.inl (by assumption) | exact Or.inr (by assumption)))) ?_
                          exact ih_L67 (k + 1) (by omega) (by omega)
                      · first
                        | exfalso; first | omega | contradiction
                        | skip
                          refine r_aload_n C dX2_settle_98 rfl ?_
                          refine s_get C 0 (by decide) qf_X2_11 rfl rfl dX2_settle_99 ?_
                          refine r_iload C dX2_settle_102 rfl ?_
                          refine s_parts C (by first | omega | (simp [up2, *]; done) | (simp [up2, *]; omega) | (simp only [up2_eq]; omega)) dX2_settle_104 ?_
                          refine r_iconst (v := (nI 0)) C dX2_settle_105 (by decide) ?_
                          refine p_putZN hX C hE (by first | omega | (simp [up2, *]; done) | (simp [up2, *]; omega) | (simp only [up2_eq]; omega)) (by first | omega | (simp [up2, *]; done) | (simp [up2, *]; omega) | (simp only [up2_eq]; omega)) qn_X2_194 dX2_settle_106 ?_
                          refine r_iincN C dX2_settle_109 rfl (by decide) rfl ?_
                          refine r_goto (tgt := 67) C dX2_settle_112 (by decide) ?_
                          refine r_w (congrArg (fun z => WC cy a z r kn ++ Y) (stW_yes (by omega) (by assumption) (by assumption))) ?_
                          exact ih_L67 (k + 1) (by omega) (by omega)
          exact L67 4 4 rfl (by omega)
      · first
        | exfalso; first | omega | contradiction
        | skip
          refine r_iload C dX2_settle_19 rfl ?_
          refine r_iload_n C dX2_settle_21 rfl ?_
          refine r_icN_eq (a := k) (b := d0) (tgt := 58) C (by first | omega | (simp [up2, *]; done) | (simp [up2, *]; omega) | (simp only [up2_eq]; omega)) (by first | omega | (simp [up2, *]; done) | (simp [up2, *]; omega) | (simp only [up2_eq]; omega)) dX2_settle_22 (by decide) (fun h22_17 => ?_) (fun h22_17 => ?_)
          · first
            | exfalso; first | omega | contradiction
            | skip
              refine r_iincN C dX2_settle_58 rfl (by decide) rfl ?_
              refine r_goto (tgt := 13) C dX2_settle_61 (by decide) ?_
              refine r_w (congrArg (fun z => WC cy a z r kn ++ Y) (stU_no (by first | exact Or.inl (by assumption) | exact Or.inr (by assumption)))) ?_
              exact ih_L13 (k + 1) (by omega)
          · first
            | exfalso; first | omega | contradiction
            | skip
              refine r_aload_n C dX2_settle_25 rfl ?_
              refine s_get C 0 (by decide) qf_X2_11 rfl rfl dX2_settle_26 ?_
              have hu6 := hU k (by omega)
              refine r_aload_n C dX2_settle_29 rfl ?_
              refine s_get C 1 (by decide) qf_X2_24 rfl rfl dX2_settle_30 ?_
              refine r_iload C dX2_settle_33 rfl ?_
              refine s_curs C (by first | omega | (simp [up2, *]; done) | (simp [up2, *]; omega) | (simp only [up2_eq]; omega)) dX2_settle_35 ?_
              refine u_getN (v := .int (nI (f 6 k))) hX C hE 0 (by first | omega | (simp [up2, *]; done) | (simp [up2, *]; omega) | (simp only [up2_eq]; omega)) (by decide) qn_X2_225 rfl rfl dX2_settle_36 ?_
              refine s_parts C (by first | omega | (simp [up2, *]; done) | (simp [up2, *]; omega) | (simp only [up2_eq]; omega)) dX2_settle_39 ?_
              refine p_getN (v := .int (nI (f 1 (f 6 k)))) hX C hE 1 (by first | omega | (simp [up2, *]; done) | (simp [up2, *]; omega) | (simp only [up2_eq]; omega)) (by decide) qn_X2_207 rfl rfl dX2_settle_40 ?_
              refine r_iload_n C dX2_settle_43 rfl ?_
              refine r_icN_ne (a := (f 1 (f 6 k))) (b := (f 1 w)) (tgt := 58) C (Nat.lt_of_lt_of_le (h1 (f 6 k) hu6) (by decide)) (Nat.lt_of_lt_of_le (h1 w (by omega)) (by decide)) dX2_settle_44 (by decide) (fun h44_18 => ?_) (fun h44_18 => ?_)
              · first
                | exfalso; first | omega | contradiction
                | skip
                  refine r_iincN C dX2_settle_58 rfl (by decide) rfl ?_
                  refine r_goto (tgt := 13) C dX2_settle_61 (by decide) ?_
                  refine r_w (congrArg (fun z => WC cy a z r kn ++ Y) (stU_no (by first | exact Or.inl (by assumption) | exact Or.inr (by assumption)))) ?_
                  exact ih_L13 (k + 1) (by omega)
              · first
                | exfalso; first | omega | contradiction
                | skip
                  refine r_aload_n C dX2_settle_47 rfl ?_
                  refine s_get C 1 (by decide) qf_X2_24 rfl rfl dX2_settle_48 ?_
                  refine r_iload C dX2_settle_51 rfl ?_
                  refine s_curs C (by first | omega | (simp [up2, *]; done) | (simp [up2, *]; omega) | (simp only [up2_eq]; omega)) dX2_settle_53 ?_
                  refine r_iconst (v := (nI 0)) C dX2_settle_54 (by decide) ?_
                  refine u_putZN hX C hE (by first | omega | (simp [up2, *]; done) | (simp [up2, *]; omega) | (simp only [up2_eq]; omega)) (by first | omega | (simp [up2, *]; done) | (simp [up2, *]; omega) | (simp only [up2_eq]; omega)) qn_X2_221 dX2_settle_55 ?_
                  refine r_iincN C dX2_settle_58 rfl (by decide) rfl ?_
                  refine r_goto (tgt := 13) C dX2_settle_61 (by decide) ?_
                  refine r_w (congrArg (fun z => WC cy a z r kn ++ Y) (stU_yes (by assumption) (by assumption))) ?_
                  exact ih_L13 (k + 1) (by omega)
  exact L13 3 0 rfl

