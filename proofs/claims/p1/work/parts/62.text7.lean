/-! TEXTS: mixRows -/
/-! THE ROWS IN THE DIGEST -/
def mrF (f : Nat → Nat → Nat) (r : Nat → Nat → Int32) : Nat → Nat → Int64 → Int64
  | 0, _, u => u
  | d + 1, i, u => mrF f r d (i + 1) (((mxF (fun q => r (f 0 i) (f 3 i + q)) (f 4 i) 0 (u * 31 + (nI (f 4 i)).toInt64)) * 31 + (hsF (fun q => r (f 0 i) (f 3 i + q)) (f 4 i) 0 (nI 1)).toInt64) * 31 + (nI (tlx (fun k => r (f 0 i) (f 3 i + k)) (f 4 i) + 1)).toInt64)

theorem dX2_mixRows_0 : decode cX2_mixRows 0 = .ok (.lload_n 1, 1) := dqo_31 (kb_X2_mixRows_0 0 rfl)
theorem dX2_mixRows_1 : decode cX2_mixRows 1 = .ok (.lstore_n 3, 1) := dqo_66 (kb_X2_mixRows_0 1 rfl)
theorem dX2_mixRows_2 : decode cX2_mixRows 2 = .ok (.new 168, 3) := dqo_187 0 168 (kb_X2_mixRows_0 2 rfl) (kb_X2_mixRows_0 3 rfl) (kb_X2_mixRows_0 4 rfl)
theorem dX2_mixRows_5 : decode cX2_mixRows 5 = .ok (.dup, 1) := dqo_89 (kb_X2_mixRows_0 5 rfl)
theorem dX2_mixRows_6 : decode cX2_mixRows 6 = .ok (.invokespecial 170, 3) := dqo_183 0 170 (kb_X2_mixRows_0 6 rfl) (kb_X2_mixRows_0 7 rfl) (kb_X2_mixRows_0 8 rfl)
theorem dX2_mixRows_9 : decode cX2_mixRows 9 = .ok (.astore 5, 2) := dqo_58 5 (kb_X2_mixRows_0 9 rfl) (kb_X2_mixRows_0 10 rfl)
theorem dX2_mixRows_11 : decode cX2_mixRows 11 = .ok (.iconst 0, 1) := dqo_3 (kb_X2_mixRows_0 11 rfl)
theorem dX2_mixRows_12 : decode cX2_mixRows 12 = .ok (.istore 6, 2) := dqo_54 6 (kb_X2_mixRows_0 12 rfl) (kb_X2_mixRows_0 13 rfl)
theorem dX2_mixRows_14 : decode cX2_mixRows 14 = .ok (.iload 6, 2) := dqo_21 6 (kb_X2_mixRows_0 14 rfl) (kb_X2_mixRows_0 15 rfl)
theorem dX2_mixRows_16 : decode cX2_mixRows 16 = .ok (.iconst 4, 1) := dqo_7 (kb_X2_mixRows_0 16 rfl)
theorem dX2_mixRows_17 : decode cX2_mixRows 17 = .ok (.if_icmp .ge 82, 3) := dqo_162 0 82 (by decide) (kb_X2_mixRows_0 17 rfl) (kb_X2_mixRows_0 18 rfl) (kb_X2_mixRows_0 19 rfl)
theorem dX2_mixRows_20 : decode cX2_mixRows 20 = .ok (.lload_n 3, 1) := dqo_33 (kb_X2_mixRows_0 20 rfl)
theorem dX2_mixRows_21 : decode cX2_mixRows 21 = .ok (.aload_n 0, 1) := dqo_42 (kb_X2_mixRows_0 21 rfl)
theorem dX2_mixRows_22 : decode cX2_mixRows 22 = .ok (.getfield 11, 3) := dqo_180 0 11 (kb_X2_mixRows_0 22 rfl) (kb_X2_mixRows_0 23 rfl) (kb_X2_mixRows_0 24 rfl)
theorem dX2_mixRows_25 : decode cX2_mixRows 25 = .ok (.iload 6, 2) := dqo_21 6 (kb_X2_mixRows_0 25 rfl) (kb_X2_mixRows_0 26 rfl)
theorem dX2_mixRows_27 : decode cX2_mixRows 27 = .ok (.aaload, 1) := dqo_50 (kb_X2_mixRows_0 27 rfl)
theorem dX2_mixRows_28 : decode cX2_mixRows 28 = .ok (.getfield 50, 3) := dqo_180 0 50 (kb_X2_mixRows_0 28 rfl) (kb_X2_mixRows_0 29 rfl) (kb_X2_mixRows_0 30 rfl)
theorem dX2_mixRows_31 : decode cX2_mixRows 31 = .ok (.i2l, 1) := dqo_133 (kb_X2_mixRows_0 31 rfl)
theorem dX2_mixRows_32 : decode cX2_mixRows 32 = .ok (.invokestatic 257, 3) := dqo_184 1 1 (kb_X2_mixRows_0 32 rfl) (kb_X2_mixRows_0 33 rfl) (kb_X2_mixRows_0 34 rfl)
theorem dX2_mixRows_35 : decode cX2_mixRows 35 = .ok (.lstore_n 3, 1) := dqo_66 (kb_X2_mixRows_0 35 rfl)
theorem dX2_mixRows_36 : decode cX2_mixRows 36 = .ok (.lload_n 3, 1) := dqo_33 (kb_X2_mixRows_0 36 rfl)
theorem dX2_mixRows_37 : decode cX2_mixRows 37 = .ok (.aload_n 0, 1) := dqo_42 (kb_X2_mixRows_0 37 rfl)
theorem dX2_mixRows_38 : decode cX2_mixRows 38 = .ok (.getfield 11, 3) := dqo_180 0 11 (kb_X2_mixRows_0 38 rfl) (kb_X2_mixRows_0 39 rfl) (kb_X2_mixRows_0 40 rfl)
theorem dX2_mixRows_41 : decode cX2_mixRows 41 = .ok (.iload 6, 2) := dqo_21 6 (kb_X2_mixRows_0 41 rfl) (kb_X2_mixRows_0 42 rfl)
theorem dX2_mixRows_43 : decode cX2_mixRows 43 = .ok (.aaload, 1) := dqo_50 (kb_X2_mixRows_0 43 rfl)
theorem dX2_mixRows_44 : decode cX2_mixRows 44 = .ok (.invokestatic 323, 3) := dqo_184 1 67 (kb_X2_mixRows_0 44 rfl) (kb_X2_mixRows_0 45 rfl) (kb_X2_mixRows_0 46 rfl)
theorem dX2_mixRows_47 : decode cX2_mixRows 47 = .ok (.lstore_n 3, 1) := dqo_66 (kb_X2_mixRows_0 47 rfl)
theorem dX2_mixRows_48 : decode cX2_mixRows 48 = .ok (.lload_n 3, 1) := dqo_33 (kb_X2_mixRows_0 48 rfl)
theorem dX2_mixRows_49 : decode cX2_mixRows 49 = .ok (.aload_n 0, 1) := dqo_42 (kb_X2_mixRows_0 49 rfl)
theorem dX2_mixRows_50 : decode cX2_mixRows 50 = .ok (.getfield 11, 3) := dqo_180 0 11 (kb_X2_mixRows_0 50 rfl) (kb_X2_mixRows_0 51 rfl) (kb_X2_mixRows_0 52 rfl)
theorem dX2_mixRows_53 : decode cX2_mixRows 53 = .ok (.iload 6, 2) := dqo_21 6 (kb_X2_mixRows_0 53 rfl) (kb_X2_mixRows_0 54 rfl)
theorem dX2_mixRows_55 : decode cX2_mixRows 55 = .ok (.aaload, 1) := dqo_50 (kb_X2_mixRows_0 55 rfl)
theorem dX2_mixRows_56 : decode cX2_mixRows 56 = .ok (.invokevirtual 165, 3) := dqo_182 0 165 (kb_X2_mixRows_0 56 rfl) (kb_X2_mixRows_0 57 rfl) (kb_X2_mixRows_0 58 rfl)
theorem dX2_mixRows_59 : decode cX2_mixRows 59 = .ok (.i2l, 1) := dqo_133 (kb_X2_mixRows_0 59 rfl)
theorem dX2_mixRows_60 : decode cX2_mixRows 60 = .ok (.invokestatic 257, 3) := dqo_184 1 1 (kb_X2_mixRows_0 60 rfl) (kb_X2_mixRows_0 61 rfl) (kb_X2_mixRows_0 62 rfl)
theorem dX2_mixRows_63 : decode cX2_mixRows 63 = .ok (.lstore_n 3, 1) := dqo_66 (kb_X2_mixRows_0 63 rfl)
theorem dX2_mixRows_64 : decode cX2_mixRows 64 = .ok (.aload 5, 2) := dqo_25 5 (kb_X2_mixRows_1 0 rfl) (kb_X2_mixRows_1 1 rfl)
theorem dX2_mixRows_66 : decode cX2_mixRows 66 = .ok (.iconst 0, 1) := dqo_3 (kb_X2_mixRows_1 2 rfl)
theorem dX2_mixRows_67 : decode cX2_mixRows 67 = .ok (.invokevirtual 327, 3) := dqo_182 1 71 (kb_X2_mixRows_1 3 rfl) (kb_X2_mixRows_1 4 rfl) (kb_X2_mixRows_1 5 rfl)
theorem dX2_mixRows_70 : decode cX2_mixRows 70 = .ok (.aload_n 0, 1) := dqo_42 (kb_X2_mixRows_1 6 rfl)
theorem dX2_mixRows_71 : decode cX2_mixRows 71 = .ok (.getfield 11, 3) := dqo_180 0 11 (kb_X2_mixRows_1 7 rfl) (kb_X2_mixRows_1 8 rfl) (kb_X2_mixRows_1 9 rfl)
theorem dX2_mixRows_74 : decode cX2_mixRows 74 = .ok (.iload 6, 2) := dqo_21 6 (kb_X2_mixRows_1 10 rfl) (kb_X2_mixRows_1 11 rfl)
theorem dX2_mixRows_76 : decode cX2_mixRows 76 = .ok (.aaload, 1) := dqo_50 (kb_X2_mixRows_1 12 rfl)
theorem dX2_mixRows_77 : decode cX2_mixRows 77 = .ok (.aload 5, 2) := dqo_25 5 (kb_X2_mixRows_1 13 rfl) (kb_X2_mixRows_1 14 rfl)
theorem dX2_mixRows_79 : decode cX2_mixRows 79 = .ok (.invokevirtual 171, 3) := dqo_182 0 171 (kb_X2_mixRows_1 15 rfl) (kb_X2_mixRows_1 16 rfl) (kb_X2_mixRows_1 17 rfl)
theorem dX2_mixRows_82 : decode cX2_mixRows 82 = .ok (.lload_n 3, 1) := dqo_33 (kb_X2_mixRows_1 18 rfl)
theorem dX2_mixRows_83 : decode cX2_mixRows 83 = .ok (.aload 5, 2) := dqo_25 5 (kb_X2_mixRows_1 19 rfl) (kb_X2_mixRows_1 20 rfl)
theorem dX2_mixRows_85 : decode cX2_mixRows 85 = .ok (.invokevirtual 330, 3) := dqo_182 1 74 (kb_X2_mixRows_1 21 rfl) (kb_X2_mixRows_1 22 rfl) (kb_X2_mixRows_1 23 rfl)
theorem dX2_mixRows_88 : decode cX2_mixRows 88 = .ok (.i2l, 1) := dqo_133 (kb_X2_mixRows_1 24 rfl)
theorem dX2_mixRows_89 : decode cX2_mixRows 89 = .ok (.invokestatic 257, 3) := dqo_184 1 1 (kb_X2_mixRows_1 25 rfl) (kb_X2_mixRows_1 26 rfl) (kb_X2_mixRows_1 27 rfl)
theorem dX2_mixRows_92 : decode cX2_mixRows 92 = .ok (.lstore_n 3, 1) := dqo_66 (kb_X2_mixRows_1 28 rfl)
theorem dX2_mixRows_93 : decode cX2_mixRows 93 = .ok (.iinc 6 1, 3) := dqo_132 6 1 (by decide) (kb_X2_mixRows_1 29 rfl) (kb_X2_mixRows_1 30 rfl) (kb_X2_mixRows_1 31 rfl)
theorem dX2_mixRows_96 : decode cX2_mixRows 96 = .ok (.goto (-82), 3) := dqo_167 255 174 (by decide) (kb_X2_mixRows_1 32 rfl) (kb_X2_mixRows_1 33 rfl) (kb_X2_mixRows_1 34 rfl)
theorem dX2_mixRows_99 : decode cX2_mixRows 99 = .ok (.lload_n 3, 1) := dqo_33 (kb_X2_mixRows_1 35 rfl)
theorem dX2_mixRows_100 : decode cX2_mixRows 100 = .ok (.lreturn, 1) := dqo_173 (kb_X2_mixRows_1 36 rfl)
theorem pk_J4_init_da8c8 : PkI yJ4_init_da8c8 cJ4_init_da8c8 1 0 := ⟨⟨qi_J4_init_da8c8, qz_J4, qc_J4_init_da8c8⟩, rfl, mh_J4.1, mh_J4.2, pd_40⟩
theorem pk_J4_setLength_d00df : PkV RJ4 yJ4_setLength_d00df cJ4_setLength_d00df 2 none 1 := ⟨⟨qi_J4_setLength_d00df, qs_J4_setLength_d00df, qz_J4, qc_J4_setLength_d00df⟩, rfl, mh_J4.1, mh_J4.2, pd_6⟩
theorem pk_X1_writeTo : PkV RX1 yX1_writeTo cX1_writeTo 3 none 1 := ⟨⟨qi_X1_writeTo, qs_X1_writeTo, qz_X1, qc_X1_writeTo⟩, rfl, mh_X1.1, mh_X1.2, pd_36⟩
set_option maxRecDepth 100000 in
set_option maxHeartbeats 800000 in
theorem C_mixRows {l : Launch} {D : va_G} {cy : Nat → ClassId} {X : (Nat → Prop) → State → Heap → Prop} {aK aV : Nat → Nat} {tO tT : Nat} {gO gT : Nat → Int32} {a f : Nat → Nat → Nat} {r : Nat → Nat → Int32} {kn : Int32} {E : va_W} {u : Int64} (hX : EnvS X cy aK aV tO tT gO gT) (hC : CInv f) (hR : ∀ i q, i < 4 → q < f 4 i → -99 ≤ (r (f 0 i) (f 3 i + q)).toInt ∧ (r (f 0 i) (f 3 i + q)).toInt ≤ 99) : Cm l D cy X yX2_mixRows cX2_mixRows 7 (some .long) (rmk 7 10 436 400) [.ref (a 0 0), .long u] (WC cy a f r kn ++ E) (fun v1 w1 => v1 = some (.long (mrF f r 4 0 u)) ∧ w1 = WC cy a f r kn ++ E) (fun _ => False) := by
  refine Cm.of [some (.ref (a 0 0)), some (.long u), none, none, none, none, none] pn_X2 rfl (Nat.le_of_ble_eq_true rfl) ?_
  intro p e s mI args below meth c A C hE hr hnt hn
  refine r_lload_n C dX2_mixRows_0 rfl ?_
  refine r_lstore_n C dX2_mixRows_1 (by decide) rfl ?_
  refine r_new (fs := [.null, .int (nI 0), .int (nI 0), .int (nI 0)]) C qu_J4 tyJ4 tyJ4_ok qk_X2_168 qo_J4 qz_J4 (ci := 1) rfl fs0_J4 (by first | (simp only [rmk, rmz]; omega) | (simp only [rmk, rmz]; done) | omega) (by first | (simp only [rmk, rmz]; omega) | (simp only [rmk, rmz]; done) | omega) dX2_mixRows_2 (fun q_13 => ?_)
  refine t_front ?_
  refine r_dup C dX2_mixRows_5 rfl ?_
  refine c_I (st := [.ref q_13]) hX.stb C hE (C_sbInit (U := WC cy a f r kn) (E := E) (b := q_13) hX ) pk_J4_init_da8c8 qm_X2_170 rfl rfl (Nat.le_of_ble_eq_true rfl) dX2_mixRows_6 ⟨Nat.le_of_ble_eq_true rfl, Nat.le_of_ble_eq_true rfl⟩ ⟨by first | (simp only [rmk, rmz]; omega) | (simp only [rmk, rmz]; done) | omega, by first | (simp only [rmk, rmz]; omega) | (simp only [rmk, rmz]; done) | omega⟩ (fun v9 w9 h9 => ?_) (fun _ h9 => h9.elim)
  obtain ⟨v9_14, g9_15, f_16, rfl, rfl⟩ := h9
  refine r_astore C dX2_mixRows_9 (by decide) rfl ?_
  refine r_iconst (v := (nI 0)) C dX2_mixRows_11 (by decide) ?_
  refine r_istore C dX2_mixRows_12 (by decide) rfl ?_
  have L14 : ∀ (d i v2 n2 m2 : Nat) (ml2 : Int32) (g2 : Nat → Int32) (u2 : Int64), i + d = 4 → c3 m2 → sb_Fit g2 → n2 < 300000 → mrF f r d i u2 = mrF f r 4 0 u → vC p l e (rmk 7 10 436 400) s mI args below meth c D A (vx_MQ below (vG (fun v1 w1 => v1 = some (.long (mrF f r 4 0 u)) ∧ w1 = WC cy a f r kn ++ E) D vwCl A) (vGX (fun _ => False) D vwCl (WC cy a f r kn ++ E) A) args s (rmk 7 10 436 400).cells (rmk 7 10 436 400).slots A) 7 (2 + 2 * i) (20 + 104 * i) (WC cy a f r kn ++ (SBO q_13 v2 ml2 n2 :: BYO cy v2 m2 g2 :: E)) [some (.ref (a 0 0)), none, none, some (.long u2), none, some (.ref q_13), some (.int (nI i))] 14 [] := by
    intro d
    induction d with
    | zero =>
      intro i v2 n2 m2 ml2 g2 u2 hi hc3 hf2 hn2 hF
      refine r_iload C dX2_mixRows_14 rfl ?_
      refine r_iconst (v := (nI 4)) C dX2_mixRows_16 (by decide) ?_
      refine r_icN_ge (a := i) (b := 4) (tgt := 99) C (by first | omega | (simp [up2, *]; done) | (simp [up2, *]; omega) | (simp only [up2_eq]; omega) | (split <;> omega)) (by first | omega | (simp [up2, *]; done) | (simp [up2, *]; omega) | (simp only [up2_eq]; omega) | (split <;> omega)) dX2_mixRows_17 (by decide) (fun h17_1 => ?_) (fun h17_1 => ?_)
      · skip
        refine t_perm [SBO q_13 v2 ml2 n2, BYO cy v2 m2 g2] [] [] rfl (by decide) rfl (w' := WC cy a f r kn ++ E) rfl ?_
        refine r_lload_n C dX2_mixRows_99 rfl ?_
        exact r_lret C hr dX2_mixRows_100 ⟨by rw [← hF]; rfl, rfl⟩ (by first | (simp only [rmk, rmz]; omega) | (simp only [rmk, rmz]; done) | omega) (by first | (simp only [rmk, rmz]; omega) | (simp only [rmk, rmz]; done) | omega)
      · skip
        have hi4 : i < 4 := by omega
        obtain ⟨hr0, -, -, hr3, hr4, -⟩ := hC.rw hi4
        refine r_lload_n C dX2_mixRows_20 rfl ?_
        refine r_aload_n C dX2_mixRows_21 rfl ?_
        refine s_get C 0 (by decide) qf_X2_11 rfl rfl dX2_mixRows_22 ?_
        refine r_iload C dX2_mixRows_25 rfl ?_
        refine s_parts C (by first | omega | (simp [up2, *]; done) | (simp [up2, *]; omega) | (simp only [up2_eq]; omega) | (split <;> omega)) dX2_mixRows_27 ?_
        refine p_getN (v := .int (nI (f 4 i))) hX.1.1 C hE 4 (by first | omega | (simp [up2, *]; done) | (simp [up2, *]; omega) | (simp only [up2_eq]; omega) | (split <;> omega)) (by decide) qn_X2_50 rfl rfl dX2_mixRows_28 ?_
        refine r_i2l C dX2_mixRows_31 ?_
        refine d_S (st := []) hX.1.1.stb C hE (C_mix (f := f) (r := r) (kn := kn) (u := u2) (v := (((nI (f 4 i))).toInt64)) hX.1.1 ) pk_X2_mix qm_X2_257 rfl rfl (Nat.le_of_ble_eq_true rfl) dX2_mixRows_32 ⟨Nat.le_of_ble_eq_true rfl, Nat.le_of_ble_eq_true rfl⟩ ⟨by first | (simp only [rmk, rmz]; omega) | (simp only [rmk, rmz]; done) | omega, by first | (simp only [rmk, rmz]; omega) | (simp only [rmk, rmz]; done) | omega⟩ ?_
        refine r_lstore_n C dX2_mixRows_35 (by decide) rfl ?_
        refine r_lload_n C dX2_mixRows_36 rfl ?_
        refine r_aload_n C dX2_mixRows_37 rfl ?_
        refine s_get C 0 (by decide) qf_X2_11 rfl rfl dX2_mixRows_38 ?_
        refine r_iload C dX2_mixRows_41 rfl ?_
        refine s_parts C (by first | omega | (simp [up2, *]; done) | (simp [up2, *]; omega) | (simp only [up2_eq]; omega) | (split <;> omega)) dX2_mixRows_43 ?_
        refine d_S (st := []) hX.1.1.stb C hE (C_mixItems (f := f) (r := r) (kn := kn) (i := i) (u := (u2 * 31 + (((nI (f 4 i))).toInt64))) hX.1.1 (by omega) (by omega) (by omega)) pk_X2_mixItems qm_X2_323 rfl rfl (Nat.le_of_ble_eq_true rfl) dX2_mixRows_44 ⟨Nat.le_of_ble_eq_true rfl, Nat.le_of_ble_eq_true rfl⟩ ⟨by first | (simp only [rmk, rmz]; omega) | (simp only [rmk, rmz]; done) | omega, by first | (simp only [rmk, rmz]; omega) | (simp only [rmk, rmz]; done) | omega⟩ ?_
        refine r_lstore_n C dX2_mixRows_47 (by decide) rfl ?_
        refine r_lload_n C dX2_mixRows_48 rfl ?_
        refine r_aload_n C dX2_mixRows_49 rfl ?_
        refine s_get C 0 (by decide) qf_X2_11 rfl rfl dX2_mixRows_50 ?_
        refine r_iload C dX2_mixRows_53 rfl ?_
        refine s_parts C (by first | omega | (simp [up2, *]; done) | (simp [up2, *]; omega) | (simp only [up2_eq]; omega) | (split <;> omega)) dX2_mixRows_55 ?_
        refine d_V (st := [.long (mxF (fun q => r (f 0 i) (f 3 i + q)) (f 4 i) 0 (u2 * 31 + (((nI (f 4 i))).toInt64)))]) hX.1.1.stb C hE (C_hashOfItems (f := f) (r := r) (kn := kn) (i := i) hX.1.1 (by omega) (by omega) (by omega)) pk_X1_hashOfItems qm_X2_165 (3 + i) 5 rfl rfl (wc_p (by first | omega | (simp [up2, *]; done) | (simp [up2, *]; omega) | (simp only [up2_eq]; omega) | (split <;> omega))) rfl rfl (Nat.le_of_ble_eq_true rfl) dX2_mixRows_56 ⟨Nat.le_of_ble_eq_true rfl, Nat.le_of_ble_eq_true rfl⟩ ⟨by first | (simp only [rmk, rmz]; omega) | (simp only [rmk, rmz]; done) | omega, by first | (simp only [rmk, rmz]; omega) | (simp only [rmk, rmz]; done) | omega⟩ ?_
        refine r_i2l C dX2_mixRows_59 ?_
        refine d_S (st := []) hX.1.1.stb C hE (C_mix (f := f) (r := r) (kn := kn) (u := (mxF (fun q => r (f 0 i) (f 3 i + q)) (f 4 i) 0 (u2 * 31 + (((nI (f 4 i))).toInt64)))) (v := (((hsF (fun q => r (f 0 i) (f 3 i + q)) (f 4 i) 0 (nI 1))).toInt64)) hX.1.1 ) pk_X2_mix qm_X2_257 rfl rfl (Nat.le_of_ble_eq_true rfl) dX2_mixRows_60 ⟨Nat.le_of_ble_eq_true rfl, Nat.le_of_ble_eq_true rfl⟩ ⟨by first | (simp only [rmk, rmz]; omega) | (simp only [rmk, rmz]; done) | omega, by first | (simp only [rmk, rmz]; omega) | (simp only [rmk, rmz]; done) | omega⟩ ?_
        refine r_lstore_n C dX2_mixRows_63 (by decide) rfl ?_
        refine r_aload C dX2_mixRows_64 rfl ?_
        refine r_iconst (v := (nI 0)) C dX2_mixRows_66 (by decide) ?_
        refine c_V (st := []) hX.stb C hE (C_sbSetLen0 (U := WC cy a f r kn) (E := E) (b := q_13) (v := v2) (m := m2) (n := n2) (g := g2) (ml := ml2) hX (c3_le hc3) hn2 hf2) pk_J4_setLength_d00df qm_X2_327 ((WC cy a f r kn).length + 0) 1 rfl rfl (us_g rfl) rfl rfl (Nat.le_of_ble_eq_true rfl) dX2_mixRows_67 ⟨Nat.le_of_ble_eq_true rfl, Nat.le_of_ble_eq_true rfl⟩ ⟨by first | (simp only [rmk, rmz]; omega) | (simp only [rmk, rmz]; done) | omega, by first | (simp only [rmk, rmz]; omega) | (simp only [rmk, rmz]; done) | omega⟩ (fun v9 w9 h9 => ?_) (fun _ h9 => h9.elim)
        obtain ⟨v9_2, ml9_3, g9_4, f_5, rfl, rfl⟩ := h9
        refine r_aload_n C dX2_mixRows_70 rfl ?_
        refine s_get C 0 (by decide) qf_X2_11 rfl rfl dX2_mixRows_71 ?_
        refine r_iload C dX2_mixRows_74 rfl ?_
        refine s_parts C (by first | omega | (simp [up2, *]; done) | (simp [up2, *]; omega) | (simp only [up2_eq]; omega) | (split <;> omega)) dX2_mixRows_76 ?_
        refine r_aload C dX2_mixRows_77 rfl ?_
        refine c_V (st := []) hX.stb C hE (C_writeTo (a := a) (f := f) (r := r) (kn := kn) (E := E) (i := i) (b := q_13) (v := v9_2) (m := m2) (g := g9_4) (ml := ml9_3) hX (by omega) (by omega) (by omega) (fun q hq => hR i q (by omega) hq) hc3 f_5) pk_X1_writeTo qm_X2_171 (3 + i) 5 rfl rfl (wc_p (by omega)) rfl rfl (Nat.le_of_ble_eq_true rfl) dX2_mixRows_79 ⟨Nat.le_of_ble_eq_true rfl, Nat.le_of_ble_eq_true rfl⟩ ⟨by first | (simp only [rmk, rmz]; omega) | (simp only [rmk, rmz]; done) | omega, by first | (simp only [rmk, rmz]; omega) | (simp only [rmk, rmz]; done) | omega⟩ (fun v9 w9 h9 => ?_) (fun _ h9 => h9.elim)
        obtain ⟨v9_6, m9_6, g9_6, hc9_6, hf9_6, -, rfl, rfl⟩ := h9
        refine r_lload_n C dX2_mixRows_82 rfl ?_
        refine r_aload C dX2_mixRows_83 rfl ?_
        refine c_V (st := [.long ((mxF (fun q => r (f 0 i) (f 3 i + q)) (f 4 i) 0 (u2 * 31 + (((nI (f 4 i))).toInt64))) * 31 + (((hsF (fun q => r (f 0 i) (f 3 i + q)) (f 4 i) 0 (nI 1))).toInt64))]) hX.stb C hE (C_sbLength (U := WC cy a f r kn) (E := (BYO cy v9_6 m9_6 g9_6 :: E)) (b := q_13) (v := v9_6) (n := (tlx (fun k => r (f 0 i) (f 3 i + k)) (f 4 i) + 1)) (ml := ml9_3) hX ) pk_J4_length_8abf5 qm_X2_330 ((WC cy a f r kn).length + 0) 1 rfl rfl (us_g rfl) rfl rfl (Nat.le_of_ble_eq_true rfl) dX2_mixRows_85 ⟨Nat.le_of_ble_eq_true rfl, Nat.le_of_ble_eq_true rfl⟩ ⟨by first | (simp only [rmk, rmz]; omega) | (simp only [rmk, rmz]; done) | omega, by first | (simp only [rmk, rmz]; omega) | (simp only [rmk, rmz]; done) | omega⟩ (fun v9 w9 h9 => ?_) (fun _ h9 => h9.elim)
        obtain ⟨rfl, rfl⟩ := h9
        refine r_i2l C dX2_mixRows_88 ?_
        refine d_S (st := []) hX.1.1.stb C hE (C_mix (f := f) (r := r) (kn := kn) (u := ((mxF (fun q => r (f 0 i) (f 3 i + q)) (f 4 i) 0 (u2 * 31 + (((nI (f 4 i))).toInt64))) * 31 + (((hsF (fun q => r (f 0 i) (f 3 i + q)) (f 4 i) 0 (nI 1))).toInt64))) (v := (((nI (tlx (fun k => r (f 0 i) (f 3 i + k)) (f 4 i) + 1))).toInt64)) hX.1.1 ) pk_X2_mix qm_X2_257 rfl rfl (Nat.le_of_ble_eq_true rfl) dX2_mixRows_89 ⟨Nat.le_of_ble_eq_true rfl, Nat.le_of_ble_eq_true rfl⟩ ⟨by first | (simp only [rmk, rmz]; omega) | (simp only [rmk, rmz]; done) | omega, by first | (simp only [rmk, rmz]; omega) | (simp only [rmk, rmz]; done) | omega⟩ ?_
        refine r_lstore_n C dX2_mixRows_92 (by decide) rfl ?_
        refine r_iincN C dX2_mixRows_93 rfl (by decide) rfl ?_
        refine r_goto (tgt := 14) C dX2_mixRows_96 (by decide) ?_
        exfalso
        omega
    | succ d ih =>
      intro i v2 n2 m2 ml2 g2 u2 hi hc3 hf2 hn2 hF
      refine r_iload C dX2_mixRows_14 rfl ?_
      refine r_iconst (v := (nI 4)) C dX2_mixRows_16 (by decide) ?_
      refine r_icN_ge (a := i) (b := 4) (tgt := 99) C (by first | omega | (simp [up2, *]; done) | (simp [up2, *]; omega) | (simp only [up2_eq]; omega) | (split <;> omega)) (by first | omega | (simp [up2, *]; done) | (simp [up2, *]; omega) | (simp only [up2_eq]; omega) | (split <;> omega)) dX2_mixRows_17 (by decide) (fun h17_7 => ?_) (fun h17_7 => ?_)
      · skip
        exfalso
        omega
      · skip
        have hi4 : i < 4 := by omega
        obtain ⟨hr0, -, -, hr3, hr4, -⟩ := hC.rw hi4
        refine r_lload_n C dX2_mixRows_20 rfl ?_
        refine r_aload_n C dX2_mixRows_21 rfl ?_
        refine s_get C 0 (by decide) qf_X2_11 rfl rfl dX2_mixRows_22 ?_
        refine r_iload C dX2_mixRows_25 rfl ?_
        refine s_parts C (by first | omega | (simp [up2, *]; done) | (simp [up2, *]; omega) | (simp only [up2_eq]; omega) | (split <;> omega)) dX2_mixRows_27 ?_
        refine p_getN (v := .int (nI (f 4 i))) hX.1.1 C hE 4 (by first | omega | (simp [up2, *]; done) | (simp [up2, *]; omega) | (simp only [up2_eq]; omega) | (split <;> omega)) (by decide) qn_X2_50 rfl rfl dX2_mixRows_28 ?_
        refine r_i2l C dX2_mixRows_31 ?_
        refine d_S (st := []) hX.1.1.stb C hE (C_mix (f := f) (r := r) (kn := kn) (u := u2) (v := (((nI (f 4 i))).toInt64)) hX.1.1 ) pk_X2_mix qm_X2_257 rfl rfl (Nat.le_of_ble_eq_true rfl) dX2_mixRows_32 ⟨Nat.le_of_ble_eq_true rfl, Nat.le_of_ble_eq_true rfl⟩ ⟨by first | (simp only [rmk, rmz]; omega) | (simp only [rmk, rmz]; done) | omega, by first | (simp only [rmk, rmz]; omega) | (simp only [rmk, rmz]; done) | omega⟩ ?_
        refine r_lstore_n C dX2_mixRows_35 (by decide) rfl ?_
        refine r_lload_n C dX2_mixRows_36 rfl ?_
        refine r_aload_n C dX2_mixRows_37 rfl ?_
        refine s_get C 0 (by decide) qf_X2_11 rfl rfl dX2_mixRows_38 ?_
        refine r_iload C dX2_mixRows_41 rfl ?_
        refine s_parts C (by first | omega | (simp [up2, *]; done) | (simp [up2, *]; omega) | (simp only [up2_eq]; omega) | (split <;> omega)) dX2_mixRows_43 ?_
        refine d_S (st := []) hX.1.1.stb C hE (C_mixItems (f := f) (r := r) (kn := kn) (i := i) (u := (u2 * 31 + (((nI (f 4 i))).toInt64))) hX.1.1 (by omega) (by omega) (by omega)) pk_X2_mixItems qm_X2_323 rfl rfl (Nat.le_of_ble_eq_true rfl) dX2_mixRows_44 ⟨Nat.le_of_ble_eq_true rfl, Nat.le_of_ble_eq_true rfl⟩ ⟨by first | (simp only [rmk, rmz]; omega) | (simp only [rmk, rmz]; done) | omega, by first | (simp only [rmk, rmz]; omega) | (simp only [rmk, rmz]; done) | omega⟩ ?_
        refine r_lstore_n C dX2_mixRows_47 (by decide) rfl ?_
        refine r_lload_n C dX2_mixRows_48 rfl ?_
        refine r_aload_n C dX2_mixRows_49 rfl ?_
        refine s_get C 0 (by decide) qf_X2_11 rfl rfl dX2_mixRows_50 ?_
        refine r_iload C dX2_mixRows_53 rfl ?_
        refine s_parts C (by first | omega | (simp [up2, *]; done) | (simp [up2, *]; omega) | (simp only [up2_eq]; omega) | (split <;> omega)) dX2_mixRows_55 ?_
        refine d_V (st := [.long (mxF (fun q => r (f 0 i) (f 3 i + q)) (f 4 i) 0 (u2 * 31 + (((nI (f 4 i))).toInt64)))]) hX.1.1.stb C hE (C_hashOfItems (f := f) (r := r) (kn := kn) (i := i) hX.1.1 (by omega) (by omega) (by omega)) pk_X1_hashOfItems qm_X2_165 (3 + i) 5 rfl rfl (wc_p (by first | omega | (simp [up2, *]; done) | (simp [up2, *]; omega) | (simp only [up2_eq]; omega) | (split <;> omega))) rfl rfl (Nat.le_of_ble_eq_true rfl) dX2_mixRows_56 ⟨Nat.le_of_ble_eq_true rfl, Nat.le_of_ble_eq_true rfl⟩ ⟨by first | (simp only [rmk, rmz]; omega) | (simp only [rmk, rmz]; done) | omega, by first | (simp only [rmk, rmz]; omega) | (simp only [rmk, rmz]; done) | omega⟩ ?_
        refine r_i2l C dX2_mixRows_59 ?_
        refine d_S (st := []) hX.1.1.stb C hE (C_mix (f := f) (r := r) (kn := kn) (u := (mxF (fun q => r (f 0 i) (f 3 i + q)) (f 4 i) 0 (u2 * 31 + (((nI (f 4 i))).toInt64)))) (v := (((hsF (fun q => r (f 0 i) (f 3 i + q)) (f 4 i) 0 (nI 1))).toInt64)) hX.1.1 ) pk_X2_mix qm_X2_257 rfl rfl (Nat.le_of_ble_eq_true rfl) dX2_mixRows_60 ⟨Nat.le_of_ble_eq_true rfl, Nat.le_of_ble_eq_true rfl⟩ ⟨by first | (simp only [rmk, rmz]; omega) | (simp only [rmk, rmz]; done) | omega, by first | (simp only [rmk, rmz]; omega) | (simp only [rmk, rmz]; done) | omega⟩ ?_
        refine r_lstore_n C dX2_mixRows_63 (by decide) rfl ?_
        refine r_aload C dX2_mixRows_64 rfl ?_
        refine r_iconst (v := (nI 0)) C dX2_mixRows_66 (by decide) ?_
        refine c_V (st := []) hX.stb C hE (C_sbSetLen0 (U := WC cy a f r kn) (E := E) (b := q_13) (v := v2) (m := m2) (n := n2) (g := g2) (ml := ml2) hX (c3_le hc3) hn2 hf2) pk_J4_setLength_d00df qm_X2_327 ((WC cy a f r kn).length + 0) 1 rfl rfl (us_g rfl) rfl rfl (Nat.le_of_ble_eq_true rfl) dX2_mixRows_67 ⟨Nat.le_of_ble_eq_true rfl, Nat.le_of_ble_eq_true rfl⟩ ⟨by first | (simp only [rmk, rmz]; omega) | (simp only [rmk, rmz]; done) | omega, by first | (simp only [rmk, rmz]; omega) | (simp only [rmk, rmz]; done) | omega⟩ (fun v9 w9 h9 => ?_) (fun _ h9 => h9.elim)
        obtain ⟨v9_8, ml9_9, g9_10, f_11, rfl, rfl⟩ := h9
        refine r_aload_n C dX2_mixRows_70 rfl ?_
        refine s_get C 0 (by decide) qf_X2_11 rfl rfl dX2_mixRows_71 ?_
        refine r_iload C dX2_mixRows_74 rfl ?_
        refine s_parts C (by first | omega | (simp [up2, *]; done) | (simp [up2, *]; omega) | (simp only [up2_eq]; omega) | (split <;> omega)) dX2_mixRows_76 ?_
        refine r_aload C dX2_mixRows_77 rfl ?_
        refine c_V (st := []) hX.stb C hE (C_writeTo (a := a) (f := f) (r := r) (kn := kn) (E := E) (i := i) (b := q_13) (v := v9_8) (m := m2) (g := g9_10) (ml := ml9_9) hX (by omega) (by omega) (by omega) (fun q hq => hR i q (by omega) hq) hc3 f_11) pk_X1_writeTo qm_X2_171 (3 + i) 5 rfl rfl (wc_p (by omega)) rfl rfl (Nat.le_of_ble_eq_true rfl) dX2_mixRows_79 ⟨Nat.le_of_ble_eq_true rfl, Nat.le_of_ble_eq_true rfl⟩ ⟨by first | (simp only [rmk, rmz]; omega) | (simp only [rmk, rmz]; done) | omega, by first | (simp only [rmk, rmz]; omega) | (simp only [rmk, rmz]; done) | omega⟩ (fun v9 w9 h9 => ?_) (fun _ h9 => h9.elim)
        obtain ⟨v9_12, m9_12, g9_12, hc9_12, hf9_12, -, rfl, rfl⟩ := h9
        refine r_lload_n C dX2_mixRows_82 rfl ?_
        refine r_aload C dX2_mixRows_83 rfl ?_
        refine c_V (st := [.long ((mxF (fun q => r (f 0 i) (f 3 i + q)) (f 4 i) 0 (u2 * 31 + (((nI (f 4 i))).toInt64))) * 31 + (((hsF (fun q => r (f 0 i) (f 3 i + q)) (f 4 i) 0 (nI 1))).toInt64))]) hX.stb C hE (C_sbLength (U := WC cy a f r kn) (E := (BYO cy v9_12 m9_12 g9_12 :: E)) (b := q_13) (v := v9_12) (n := (tlx (fun k => r (f 0 i) (f 3 i + k)) (f 4 i) + 1)) (ml := ml9_9) hX ) pk_J4_length_8abf5 qm_X2_330 ((WC cy a f r kn).length + 0) 1 rfl rfl (us_g rfl) rfl rfl (Nat.le_of_ble_eq_true rfl) dX2_mixRows_85 ⟨Nat.le_of_ble_eq_true rfl, Nat.le_of_ble_eq_true rfl⟩ ⟨by first | (simp only [rmk, rmz]; omega) | (simp only [rmk, rmz]; done) | omega, by first | (simp only [rmk, rmz]; omega) | (simp only [rmk, rmz]; done) | omega⟩ (fun v9 w9 h9 => ?_) (fun _ h9 => h9.elim)
        obtain ⟨rfl, rfl⟩ := h9
        refine r_i2l C dX2_mixRows_88 ?_
        refine d_S (st := []) hX.1.1.stb C hE (C_mix (f := f) (r := r) (kn := kn) (u := ((mxF (fun q => r (f 0 i) (f 3 i + q)) (f 4 i) 0 (u2 * 31 + (((nI (f 4 i))).toInt64))) * 31 + (((hsF (fun q => r (f 0 i) (f 3 i + q)) (f 4 i) 0 (nI 1))).toInt64))) (v := (((nI (tlx (fun k => r (f 0 i) (f 3 i + k)) (f 4 i) + 1))).toInt64)) hX.1.1 ) pk_X2_mix qm_X2_257 rfl rfl (Nat.le_of_ble_eq_true rfl) dX2_mixRows_89 ⟨Nat.le_of_ble_eq_true rfl, Nat.le_of_ble_eq_true rfl⟩ ⟨by first | (simp only [rmk, rmz]; omega) | (simp only [rmk, rmz]; done) | omega, by first | (simp only [rmk, rmz]; omega) | (simp only [rmk, rmz]; done) | omega⟩ ?_
        refine r_lstore_n C dX2_mixRows_92 (by decide) rfl ?_
        refine r_iincN C dX2_mixRows_93 rfl (by decide) rfl ?_
        refine r_goto (tgt := 14) C dX2_mixRows_96 (by decide) ?_
        refine r_widen (k := 2 + 2 * (i + 1)) (n := 20 + 104 * (i + 1)) (by first | (simp only [rmk, rmz]; omega) | (simp only [rmk, rmz]; done) | omega) (by first | (simp only [rmk, rmz]; omega) | (simp only [rmk, rmz]; done) | omega) ?_
        exact ih (i + 1) v9_12 (tlx (fun k => r (f 0 i) (f 3 i + k)) (f 4 i) + 1) m9_12 ml9_9 g9_12 _ (by omega) hc9_12 hf9_12.1 (by have := tlx_le (fun k => r (f 0 i) (f 3 i + k)) (f 4 i); omega) hF
  refine r_widen (k := 2 + 2 * 0) (n := 20 + 104 * 0) (by first | (simp only [rmk, rmz]; omega) | (simp only [rmk, rmz]; done) | omega) (by first | (simp only [rmk, rmz]; omega) | (simp only [rmk, rmz]; done) | omega) ?_
  refine r_drop 1 ?_
  exact L14 4 0 v9_14 0 16 (nI 0) g9_15 u rfl (Or.inl rfl) f_16 (by decide) rfl
