/-! ===== 62.text7 -/
section PT_62
/-! TEXTS: mixRows -/
/-! THE ROWS IN THE DIGEST -/
def mrF (f : Nat → Nat → Nat) (r : Nat → Nat → Int32) : Nat → Nat → Int64 → Int64
  | 0, _, u => u
  | d + 1, i, u => mrF f r d (i + 1) (((mxF (fun q => r (f 0 i) (f 3 i + q)) (f 4 i) 0 (u * 31 + (nI (f 4 i)).toInt64)) * 31 + (hsF (fun q => r (f 0 i) (f 3 i + q)) (f 4 i) 0 (nI 1)).toInt64) * 31 + (nI (tlx (fun k => r (f 0 i) (f 3 i + k)) (f 4 i) + 1)).toInt64)

theorem dX2_mixRows_0 : decode cX2_mixRows 0 = .ok (.lload_n 1, 1) := dqo_31 (kb_X2_mixRows_0 0 rfl)
theorem dX2_mixRows_1 : decode cX2_mixRows 1 = .ok (.lstore_n 3, 1) := dqo_66 (kb_X2_mixRows_0 1 rfl)
theorem dX2_mixRows_2 : decode cX2_mixRows 2 = .ok (.new 168, 3) := dqo_187 0 168 (kb_X2_mixRows_0 2 rfl) (kb_X2_mixRows_0 3 rfl) (kb_X2_mixRows_0 4 rfl)
theorem dX2_mixRows_5 : decode cX2_mixRows 5 = .ok (.dup, 1) := dqo_89 (kb_X2_mixRows_0 5 rfl)
theorem dX2_mixRows_6 : decode cX2_mixRows 6 = .ok (.invokespecial 170, 3) := dqo_183 0 170 (kb_X2_mixRows_0 6 rfl) (kb_X2_mixRows_0 7 rfl) (kb_X2_mixRows_0 8 rfl)
theorem dX2_mixRows_9 : decode cX2_mixRows 9 = .ok (.astore 5, 2) := dqo_58 5 (kb_X2_mixRows_0 9 rfl) (kb_X2_mixRows_0 10 rfl)
theorem dX2_mixRows_11 : decode cX2_mixRows 11 = .ok (.iconst 0, 1) := dqo_3 (kb_X2_mixRows_0 11 rfl)
theorem dX2_mixRows_12 : decode cX2_mixRows 12 = .ok (.istore 6, 2) := dqo_54 6 (kb_X2_mixRows_0 12 rfl) (kb_X2_mixRows_0 13 rfl)
theorem dX2_mixRows_14 : decode cX2_mixRows 14 = .ok (.iload 6, 2) := dqo_21 6 (kb_X2_mixRows_0 14 rfl) (kb_X2_mixRows_0 15 rfl)
theorem dX2_mixRows_16 : decode cX2_mixRows 16 = .ok (.iconst 4, 1) := dqo_7 (kb_X2_mixRows_0 16 rfl)
theorem dX2_mixRows_17 : decode cX2_mixRows 17 = .ok (.if_icmp .ge 82, 3) := dqo_162 0 82 (by decide) (kb_X2_mixRows_0 17 rfl) (kb_X2_mixRows_0 18 rfl) (kb_X2_mixRows_0 19 rfl)
theorem dX2_mixRows_20 : decode cX2_mixRows 20 = .ok (.lload_n 3, 1) := dqo_33 (kb_X2_mixRows_0 20 rfl)
theorem dX2_mixRows_21 : decode cX2_mixRows 21 = .ok (.aload_n 0, 1) := dqo_42 (kb_X2_mixRows_0 21 rfl)
theorem dX2_mixRows_22 : decode cX2_mixRows 22 = .ok (.getfield 11, 3) := dqo_180 0 11 (kb_X2_mixRows_0 22 rfl) (kb_X2_mixRows_0 23 rfl) (kb_X2_mixRows_0 24 rfl)
theorem dX2_mixRows_25 : decode cX2_mixRows 25 = .ok (.iload 6, 2) := dqo_21 6 (kb_X2_mixRows_0 25 rfl) (kb_X2_mixRows_0 26 rfl)
theorem dX2_mixRows_27 : decode cX2_mixRows 27 = .ok (.aaload, 1) := dqo_50 (kb_X2_mixRows_0 27 rfl)
theorem dX2_mixRows_28 : decode cX2_mixRows 28 = .ok (.getfield 50, 3) := dqo_180 0 50 (kb_X2_mixRows_0 28 rfl) (kb_X2_mixRows_0 29 rfl) (kb_X2_mixRows_0 30 rfl)
theorem dX2_mixRows_31 : decode cX2_mixRows 31 = .ok (.i2l, 1) := dqo_133 (kb_X2_mixRows_0 31 rfl)
theorem dX2_mixRows_32 : decode cX2_mixRows 32 = .ok (.invokestatic 257, 3) := dqo_184 1 1 (kb_X2_mixRows_0 32 rfl) (kb_X2_mixRows_0 33 rfl) (kb_X2_mixRows_0 34 rfl)
theorem dX2_mixRows_35 : decode cX2_mixRows 35 = .ok (.lstore_n 3, 1) := dqo_66 (kb_X2_mixRows_0 35 rfl)
theorem dX2_mixRows_36 : decode cX2_mixRows 36 = .ok (.lload_n 3, 1) := dqo_33 (kb_X2_mixRows_0 36 rfl)
theorem dX2_mixRows_37 : decode cX2_mixRows 37 = .ok (.aload_n 0, 1) := dqo_42 (kb_X2_mixRows_0 37 rfl)
theorem dX2_mixRows_38 : decode cX2_mixRows 38 = .ok (.getfield 11, 3) := dqo_180 0 11 (kb_X2_mixRows_0 38 rfl) (kb_X2_mixRows_0 39 rfl) (kb_X2_mixRows_0 40 rfl)
theorem dX2_mixRows_41 : decode cX2_mixRows 41 = .ok (.iload 6, 2) := dqo_21 6 (kb_X2_mixRows_0 41 rfl) (kb_X2_mixRows_0 42 rfl)
theorem dX2_mixRows_43 : decode cX2_mixRows 43 = .ok (.aaload, 1) := dqo_50 (kb_X2_mixRows_0 43 rfl)
theorem dX2_mixRows_44 : decode cX2_mixRows 44 = .ok (.invokestatic 323, 3) := dqo_184 1 67 (kb_X2_mixRows_0 44 rfl) (kb_X2_mixRows_0 45 rfl) (kb_X2_mixRows_0 46 rfl)
theorem dX2_mixRows_47 : decode cX2_mixRows 47 = .ok (.lstore_n 3, 1) := dqo_66 (kb_X2_mixRows_0 47 rfl)
theorem dX2_mixRows_48 : decode cX2_mixRows 48 = .ok (.lload_n 3, 1) := dqo_33 (kb_X2_mixRows_0 48 rfl)
theorem dX2_mixRows_49 : decode cX2_mixRows 49 = .ok (.aload_n 0, 1) := dqo_42 (kb_X2_mixRows_0 49 rfl)
theorem dX2_mixRows_50 : decode cX2_mixRows 50 = .ok (.getfield 11, 3) := dqo_180 0 11 (kb_X2_mixRows_0 50 rfl) (kb_X2_mixRows_0 51 rfl) (kb_X2_mixRows_0 52 rfl)
theorem dX2_mixRows_53 : decode cX2_mixRows 53 = .ok (.iload 6, 2) := dqo_21 6 (kb_X2_mixRows_0 53 rfl) (kb_X2_mixRows_0 54 rfl)
theorem dX2_mixRows_55 : decode cX2_mixRows 55 = .ok (.aaload, 1) := dqo_50 (kb_X2_mixRows_0 55 rfl)
theorem dX2_mixRows_56 : decode cX2_mixRows 56 = .ok (.invokevirtual 165, 3) := dqo_182 0 165 (kb_X2_mixRows_0 56 rfl) (kb_X2_mixRows_0 57 rfl) (kb_X2_mixRows_0 58 rfl)
theorem dX2_mixRows_59 : decode cX2_mixRows 59 = .ok (.i2l, 1) := dqo_133 (kb_X2_mixRows_0 59 rfl)
theorem dX2_mixRows_60 : decode cX2_mixRows 60 = .ok (.invokestatic 257, 3) := dqo_184 1 1 (kb_X2_mixRows_0 60 rfl) (kb_X2_mixRows_0 61 rfl) (kb_X2_mixRows_0 62 rfl)
theorem dX2_mixRows_63 : decode cX2_mixRows 63 = .ok (.lstore_n 3, 1) := dqo_66 (kb_X2_mixRows_0 63 rfl)
theorem dX2_mixRows_64 : decode cX2_mixRows 64 = .ok (.aload 5, 2) := dqo_25 5 (kb_X2_mixRows_1 0 rfl) (kb_X2_mixRows_1 1 rfl)
theorem dX2_mixRows_66 : decode cX2_mixRows 66 = .ok (.iconst 0, 1) := dqo_3 (kb_X2_mixRows_1 2 rfl)
theorem dX2_mixRows_67 : decode cX2_mixRows 67 = .ok (.invokevirtual 327, 3) := dqo_182 1 71 (kb_X2_mixRows_1 3 rfl) (kb_X2_mixRows_1 4 rfl) (kb_X2_mixRows_1 5 rfl)
theorem dX2_mixRows_70 : decode cX2_mixRows 70 = .ok (.aload_n 0, 1) := dqo_42 (kb_X2_mixRows_1 6 rfl)
theorem dX2_mixRows_71 : decode cX2_mixRows 71 = .ok (.getfield 11, 3) := dqo_180 0 11 (kb_X2_mixRows_1 7 rfl) (kb_X2_mixRows_1 8 rfl) (kb_X2_mixRows_1 9 rfl)
theorem dX2_mixRows_74 : decode cX2_mixRows 74 = .ok (.iload 6, 2) := dqo_21 6 (kb_X2_mixRows_1 10 rfl) (kb_X2_mixRows_1 11 rfl)
theorem dX2_mixRows_76 : decode cX2_mixRows 76 = .ok (.aaload, 1) := dqo_50 (kb_X2_mixRows_1 12 rfl)
theorem dX2_mixRows_77 : decode cX2_mixRows 77 = .ok (.aload 5, 2) := dqo_25 5 (kb_X2_mixRows_1 13 rfl) (kb_X2_mixRows_1 14 rfl)
theorem dX2_mixRows_79 : decode cX2_mixRows 79 = .ok (.invokevirtual 171, 3) := dqo_182 0 171 (kb_X2_mixRows_1 15 rfl) (kb_X2_mixRows_1 16 rfl) (kb_X2_mixRows_1 17 rfl)
theorem dX2_mixRows_82 : decode cX2_mixRows 82 = .ok (.lload_n 3, 1) := dqo_33 (kb_X2_mixRows_1 18 rfl)
theorem dX2_mixRows_83 : decode cX2_mixRows 83 = .ok (.aload 5, 2) := dqo_25 5 (kb_X2_mixRows_1 19 rfl) (kb_X2_mixRows_1 20 rfl)
theorem dX2_mixRows_85 : decode cX2_mixRows 85 = .ok (.invokevirtual 330, 3) := dqo_182 1 74 (kb_X2_mixRows_1 21 rfl) (kb_X2_mixRows_1 22 rfl) (kb_X2_mixRows_1 23 rfl)
theorem dX2_mixRows_88 : decode cX2_mixRows 88 = .ok (.i2l, 1) := dqo_133 (kb_X2_mixRows_1 24 rfl)
theorem dX2_mixRows_89 : decode cX2_mixRows 89 = .ok (.invokestatic 257, 3) := dqo_184 1 1 (kb_X2_mixRows_1 25 rfl) (kb_X2_mixRows_1 26 rfl) (kb_X2_mixRows_1 27 rfl)
theorem dX2_mixRows_92 : decode cX2_mixRows 92 = .ok (.lstore_n 3, 1) := dqo_66 (kb_X2_mixRows_1 28 rfl)
theorem dX2_mixRows_93 : decode cX2_mixRows 93 = .ok (.iinc 6 1, 3) := dqo_132 6 1 (by decide) (kb_X2_mixRows_1 29 rfl) (kb_X2_mixRows_1 30 rfl) (kb_X2_mixRows_1 31 rfl)
theorem dX2_mixRows_96 : decode cX2_mixRows 96 = .ok (.goto (-82), 3) := dqo_167 255 174 (by decide) (kb_X2_mixRows_1 32 rfl) (kb_X2_mixRows_1 33 rfl) (kb_X2_mixRows_1 34 rfl)
theorem dX2_mixRows_99 : decode cX2_mixRows 99 = .ok (.lload_n 3, 1) := dqo_33 (kb_X2_mixRows_1 35 rfl)
theorem dX2_mixRows_100 : decode cX2_mixRows 100 = .ok (.lreturn, 1) := dqo_173 (kb_X2_mixRows_1 36 rfl)
theorem pk_J4_init_da8c8 : PkI yJ4_init_da8c8 cJ4_init_da8c8 1 0 := ⟨⟨qi_J4_init_da8c8, qz_J4, qc_J4_init_da8c8⟩, rfl, mh_J4.1, mh_J4.2, pd_40⟩
theorem pk_J4_setLength_d00df : PkV RJ4 yJ4_setLength_d00df cJ4_setLength_d00df 2 none 1 := ⟨⟨qi_J4_setLength_d00df, qs_J4_setLength_d00df, qz_J4, qc_J4_setLength_d00df⟩, rfl, mh_J4.1, mh_J4.2, pd_6⟩
theorem pk_X1_writeTo : PkV RX1 yX1_writeTo cX1_writeTo 3 none 1 := ⟨⟨qi_X1_writeTo, qs_X1_writeTo, qz_X1, qc_X1_writeTo⟩, rfl, mh_X1.1, mh_X1.2, pd_36⟩
set_option maxRecDepth 100000 in
set_option maxHeartbeats 800000 in
theorem C_mixRows {l : Launch} {D : va_G} {cy : Nat → ClassId} {X : (Nat → Prop) → State → Heap → Prop} {aK aV : Nat → Nat} {tO tT : Nat} {gO gT : Nat → Int32} {a f : Nat → Nat → Nat} {r : Nat → Nat → Int32} {kn : Int32} {E : va_W} {u : Int64} (hX : EnvS X cy aK aV tO tT gO gT) (hC : CInv f) (hR : ∀ i q, i < 4 → q < f 4 i → -99 ≤ (r (f 0 i) (f 3 i + q)).toInt ∧ (r (f 0 i) (f 3 i + q)).toInt ≤ 99) : Cm l D cy X yX2_mixRows cX2_mixRows 7 (some .long) (rmk 7 10 436 400) [.ref (a 0 0), .long u] (WC cy a f r kn ++ E) (fun v1 w1 => v1 = some (.long (mrF f r 4 0 u)) ∧ w1 = WC cy a f r kn ++ E) (fun _ => False) := by
  refine Cm.of [some (.ref (a 0 0)), some (.long u), none, none, none, none, none] pn_X2 rfl (Nat.le_of_ble_eq_true rfl) ?_
  intro p e s mI args below meth c A C hE hr hnt hn
  refine r_lload_n C dX2_mixRows_0 rfl ?_
  refine r_lstore_n C dX2_mixRows_1 (by decide) rfl ?_
  refine r_new (fs := [.null, .int (nI 0), .int (nI 0), .int (nI 0)]) C qu_J4 tyJ4 tyJ4_ok qk_X2_168 qo_J4 qz_J4 (ci := 1) rfl fs0_J4 (by first | (simp only [rmk, rmz]; omega) | (simp only [rmk, rmz]; done) | omega) (by first | (simp only [rmk, rmz]; omega) | (simp only [rmk, rmz]; done) | omega) dX2_mixRows_2 (fun q_13 => ?_)
  refine t_front ?_
  refine r_dup C dX2_mixRows_5 rfl ?_
  refine c_I (st := [.ref q_13]) hX.stb C hE (C_sbInit (U := WC cy a f r kn) (E := E) (b := q_13) hX ) pk_J4_init_da8c8 qm_X2_170 rfl rfl (Nat.le_of_ble_eq_true rfl) dX2_mixRows_6 ⟨Nat.le_of_ble_eq_true rfl, Nat.le_of_ble_eq_true rfl⟩ ⟨by first | (simp only [rmk, rmz]; omega) | (simp only [rmk, rmz]; done) | omega, by first | (simp only [rmk, rmz]; omega) | (simp only [rmk, rmz]; done) | omega⟩ (fun v9 w9 h9 => ?_) (fun _ h9 => h9.elim)
  obtain ⟨v9_14, g9_15, f_16, rfl, rfl⟩ := h9
  refine r_astore C dX2_mixRows_9 (by decide) rfl ?_
  refine r_iconst (v := (nI 0)) C dX2_mixRows_11 (by decide) ?_
  refine r_istore C dX2_mixRows_12 (by decide) rfl ?_
  have L14 : ∀ (d i v2 n2 m2 : Nat) (ml2 : Int32) (g2 : Nat → Int32) (u2 : Int64), i + d = 4 → c3 m2 → sb_Fit g2 → n2 < 300000 → mrF f r d i u2 = mrF f r 4 0 u → vC p l e (rmk 7 10 436 400) s mI args below meth c D A (vx_MQ below (vG (fun v1 w1 => v1 = some (.long (mrF f r 4 0 u)) ∧ w1 = WC cy a f r kn ++ E) D vwCl A) (vGX (fun _ => False) D vwCl (WC cy a f r kn ++ E) A) args s (rmk 7 10 436 400).cells (rmk 7 10 436 400).slots A) 7 (2 + 2 * i) (20 + 104 * i) (WC cy a f r kn ++ (SBO q_13 v2 ml2 n2 :: BYO cy v2 m2 g2 :: E)) [some (.ref (a 0 0)), none, none, some (.long u2), none, some (.ref q_13), some (.int (nI i))] 14 [] := by
    intro d
    induction d with
    | zero =>
      intro i v2 n2 m2 ml2 g2 u2 hi hc3 hf2 hn2 hF
      refine r_iload C dX2_mixRows_14 rfl ?_
      refine r_iconst (v := (nI 4)) C dX2_mixRows_16 (by decide) ?_
      refine r_icN_ge (a := i) (b := 4) (tgt := 99) C (by first | omega | (simp [up2, *]; done) | (simp [up2, *]; omega) | (simp only [up2_eq]; omega) | (split <;> omega)) (by first | omega | (simp [up2, *]; done) | (simp [up2, *]; omega) | (simp only [up2_eq]; omega) | (split <;> omega)) dX2_mixRows_17 (by decide) (fun h17_1 => ?_) (fun h17_1 => ?_)
      · skip
        refine t_perm [SBO q_13 v2 ml2 n2, BYO cy v2 m2 g2] [] [] rfl (by decide) rfl (w' := WC cy a f r kn ++ E) rfl ?_
        refine r_lload_n C dX2_mixRows_99 rfl ?_
        exact r_lret C hr dX2_mixRows_100 ⟨by rw [← hF]; rfl, rfl⟩ (by first | (simp only [rmk, rmz]; omega) | (simp only [rmk, rmz]; done) | omega) (by first | (simp only [rmk, rmz]; omega) | (simp only [rmk, rmz]; done) | omega)
      · skip
        have hi4 : i < 4 := by omega
        obtain ⟨hr0, -, -, hr3, hr4, -⟩ := hC.rw hi4
        refine r_lload_n C dX2_mixRows_20 rfl ?_
        refine r_aload_n C dX2_mixRows_21 rfl ?_
        refine s_get C 0 (by decide) qf_X2_11 rfl rfl dX2_mixRows_22 ?_
        refine r_iload C dX2_mixRows_25 rfl ?_
        refine s_parts C (by first | omega | (simp [up2, *]; done) | (simp [up2, *]; omega) | (simp only [up2_eq]; omega) | (split <;> omega)) dX2_mixRows_27 ?_
        refine p_getN (v := .int (nI (f 4 i))) hX.1.1 C hE 4 (by first | omega | (simp [up2, *]; done) | (simp [up2, *]; omega) | (simp only [up2_eq]; omega) | (split <;> omega)) (by decide) qn_X2_50 rfl rfl dX2_mixRows_28 ?_
        refine r_i2l C dX2_mixRows_31 ?_
        refine d_S (st := []) hX.1.1.stb C hE (C_mix (f := f) (r := r) (kn := kn) (u := u2) (v := (((nI (f 4 i))).toInt64)) hX.1.1 ) pk_X2_mix qm_X2_257 rfl rfl (Nat.le_of_ble_eq_true rfl) dX2_mixRows_32 ⟨Nat.le_of_ble_eq_true rfl, Nat.le_of_ble_eq_true rfl⟩ ⟨by first | (simp only [rmk, rmz]; omega) | (simp only [rmk, rmz]; done) | omega, by first | (simp only [rmk, rmz]; omega) | (simp only [rmk, rmz]; done) | omega⟩ ?_
        refine r_lstore_n C dX2_mixRows_35 (by decide) rfl ?_
        refine r_lload_n C dX2_mixRows_36 rfl ?_
        refine r_aload_n C dX2_mixRows_37 rfl ?_
        refine s_get C 0 (by decide) qf_X2_11 rfl rfl dX2_mixRows_38 ?_
        refine r_iload C dX2_mixRows_41 rfl ?_
        refine s_parts C (by first | omega | (simp [up2, *]; done) | (simp [up2, *]; omega) | (simp only [up2_eq]; omega) | (split <;> omega)) dX2_mixRows_43 ?_
        refine d_S (st := []) hX.1.1.stb C hE (C_mixItems (f := f) (r := r) (kn := kn) (i := i) (u := (u2 * 31 + (((nI (f 4 i))).toInt64))) hX.1.1 (by omega) (by omega) (by omega)) pk_X2_mixItems qm_X2_323 rfl rfl (Nat.le_of_ble_eq_true rfl) dX2_mixRows_44 ⟨Nat.le_of_ble_eq_true rfl, Nat.le_of_ble_eq_true rfl⟩ ⟨by first | (simp only [rmk, rmz]; omega) | (simp only [rmk, rmz]; done) | omega, by first | (simp only [rmk, rmz]; omega) | (simp only [rmk, rmz]; done) | omega⟩ ?_
        refine r_lstore_n C dX2_mixRows_47 (by decide) rfl ?_
        refine r_lload_n C dX2_mixRows_48 rfl ?_
        refine r_aload_n C dX2_mixRows_49 rfl ?_
        refine s_get C 0 (by decide) qf_X2_11 rfl rfl dX2_mixRows_50 ?_
        refine r_iload C dX2_mixRows_53 rfl ?_
        refine s_parts C (by first | omega | (simp [up2, *]; done) | (simp [up2, *]; omega) | (simp only [up2_eq]; omega) | (split <;> omega)) dX2_mixRows_55 ?_
        refine d_V (st := [.long (mxF (fun q => r (f 0 i) (f 3 i + q)) (f 4 i) 0 (u2 * 31 + (((nI (f 4 i))).toInt64)))]) hX.1.1.stb C hE (C_hashOfItems (f := f) (r := r) (kn := kn) (i := i) hX.1.1 (by omega) (by omega) (by omega)) pk_X1_hashOfItems qm_X2_165 (3 + i) 5 rfl rfl (wc_p (by first | omega | (simp [up2, *]; done) | (simp [up2, *]; omega) | (simp only [up2_eq]; omega) | (split <;> omega))) rfl rfl (Nat.le_of_ble_eq_true rfl) dX2_mixRows_56 ⟨Nat.le_of_ble_eq_true rfl, Nat.le_of_ble_eq_true rfl⟩ ⟨by first | (simp only [rmk, rmz]; omega) | (simp only [rmk, rmz]; done) | omega, by first | (simp only [rmk, rmz]; omega) | (simp only [rmk, rmz]; done) | omega⟩ ?_
        refine r_i2l C dX2_mixRows_59 ?_
        refine d_S (st := []) hX.1.1.stb C hE (C_mix (f := f) (r := r) (kn := kn) (u := (mxF (fun q => r (f 0 i) (f 3 i + q)) (f 4 i) 0 (u2 * 31 + (((nI (f 4 i))).toInt64)))) (v := (((hsF (fun q => r (f 0 i) (f 3 i + q)) (f 4 i) 0 (nI 1))).toInt64)) hX.1.1 ) pk_X2_mix qm_X2_257 rfl rfl (Nat.le_of_ble_eq_true rfl) dX2_mixRows_60 ⟨Nat.le_of_ble_eq_true rfl, Nat.le_of_ble_eq_true rfl⟩ ⟨by first | (simp only [rmk, rmz]; omega) | (simp only [rmk, rmz]; done) | omega, by first | (simp only [rmk, rmz]; omega) | (simp only [rmk, rmz]; done) | omega⟩ ?_
        refine r_lstore_n C dX2_mixRows_63 (by decide) rfl ?_
        refine r_aload C dX2_mixRows_64 rfl ?_
        refine r_iconst (v := (nI 0)) C dX2_mixRows_66 (by decide) ?_
        refine c_V (st := []) hX.stb C hE (C_sbSetLen0 (U := WC cy a f r kn) (E := E) (b := q_13) (v := v2) (m := m2) (n := n2) (g := g2) (ml := ml2) hX (c3_le hc3) hn2 hf2) pk_J4_setLength_d00df qm_X2_327 ((WC cy a f r kn).length + 0) 1 rfl rfl (us_g rfl) rfl rfl (Nat.le_of_ble_eq_true rfl) dX2_mixRows_67 ⟨Nat.le_of_ble_eq_true rfl, Nat.le_of_ble_eq_true rfl⟩ ⟨by first | (simp only [rmk, rmz]; omega) | (simp only [rmk, rmz]; done) | omega, by first | (simp only [rmk, rmz]; omega) | (simp only [rmk, rmz]; done) | omega⟩ (fun v9 w9 h9 => ?_) (fun _ h9 => h9.elim)
        obtain ⟨v9_2, ml9_3, g9_4, f_5, rfl, rfl⟩ := h9
        refine r_aload_n C dX2_mixRows_70 rfl ?_
        refine s_get C 0 (by decide) qf_X2_11 rfl rfl dX2_mixRows_71 ?_
        refine r_iload C dX2_mixRows_74 rfl ?_
        refine s_parts C (by first | omega | (simp [up2, *]; done) | (simp [up2, *]; omega) | (simp only [up2_eq]; omega) | (split <;> omega)) dX2_mixRows_76 ?_
        refine r_aload C dX2_mixRows_77 rfl ?_
        refine c_V (st := []) hX.stb C hE (C_writeTo (a := a) (f := f) (r := r) (kn := kn) (E := E) (i := i) (b := q_13) (v := v9_2) (m := m2) (g := g9_4) (ml := ml9_3) hX (by omega) (by omega) (by omega) (fun q hq => hR i q (by omega) hq) hc3 f_5) pk_X1_writeTo qm_X2_171 (3 + i) 5 rfl rfl (wc_p (by omega)) rfl rfl (Nat.le_of_ble_eq_true rfl) dX2_mixRows_79 ⟨Nat.le_of_ble_eq_true rfl, Nat.le_of_ble_eq_true rfl⟩ ⟨by first | (simp only [rmk, rmz]; omega) | (simp only [rmk, rmz]; done) | omega, by first | (simp only [rmk, rmz]; omega) | (simp only [rmk, rmz]; done) | omega⟩ (fun v9 w9 h9 => ?_) (fun _ h9 => h9.elim)
        obtain ⟨v9_6, m9_6, g9_6, hc9_6, hf9_6, -, rfl, rfl⟩ := h9
        refine r_lload_n C dX2_mixRows_82 rfl ?_
        refine r_aload C dX2_mixRows_83 rfl ?_
        refine c_V (st := [.long ((mxF (fun q => r (f 0 i) (f 3 i + q)) (f 4 i) 0 (u2 * 31 + (((nI (f 4 i))).toInt64))) * 31 + (((hsF (fun q => r (f 0 i) (f 3 i + q)) (f 4 i) 0 (nI 1))).toInt64))]) hX.stb C hE (C_sbLength (U := WC cy a f r kn) (E := (BYO cy v9_6 m9_6 g9_6 :: E)) (b := q_13) (v := v9_6) (n := (tlx (fun k => r (f 0 i) (f 3 i + k)) (f 4 i) + 1)) (ml := ml9_3) hX ) pk_J4_length_8abf5 qm_X2_330 ((WC cy a f r kn).length + 0) 1 rfl rfl (us_g rfl) rfl rfl (Nat.le_of_ble_eq_true rfl) dX2_mixRows_85 ⟨Nat.le_of_ble_eq_true rfl, Nat.le_of_ble_eq_true rfl⟩ ⟨by first | (simp only [rmk, rmz]; omega) | (simp only [rmk, rmz]; done) | omega, by first | (simp only [rmk, rmz]; omega) | (simp only [rmk, rmz]; done) | omega⟩ (fun v9 w9 h9 => ?_) (fun _ h9 => h9.elim)
        obtain ⟨rfl, rfl⟩ := h9
        refine r_i2l C dX2_mixRows_88 ?_
        refine d_S (st := []) hX.1.1.stb C hE (C_mix (f := f) (r := r) (kn := kn) (u := ((mxF (fun q => r (f 0 i) (f 3 i + q)) (f 4 i) 0 (u2 * 31 + (((nI (f 4 i))).toInt64))) * 31 + (((hsF (fun q => r (f 0 i) (f 3 i + q)) (f 4 i) 0 (nI 1))).toInt64))) (v := (((nI (tlx (fun k => r (f 0 i) (f 3 i + k)) (f 4 i) + 1))).toInt64)) hX.1.1 ) pk_X2_mix qm_X2_257 rfl rfl (Nat.le_of_ble_eq_true rfl) dX2_mixRows_89 ⟨Nat.le_of_ble_eq_true rfl, Nat.le_of_ble_eq_true rfl⟩ ⟨by first | (simp only [rmk, rmz]; omega) | (simp only [rmk, rmz]; done) | omega, by first | (simp only [rmk, rmz]; omega) | (simp only [rmk, rmz]; done) | omega⟩ ?_
        refine r_lstore_n C dX2_mixRows_92 (by decide) rfl ?_
        refine r_iincN C dX2_mixRows_93 rfl (by decide) rfl ?_
        refine r_goto (tgt := 14) C dX2_mixRows_96 (by decide) ?_
        exfalso
        omega
    | succ d ih =>
      intro i v2 n2 m2 ml2 g2 u2 hi hc3 hf2 hn2 hF
      refine r_iload C dX2_mixRows_14 rfl ?_
      refine r_iconst (v := (nI 4)) C dX2_mixRows_16 (by decide) ?_
      refine r_icN_ge (a := i) (b := 4) (tgt := 99) C (by first | omega | (simp [up2, *]; done) | (simp [up2, *]; omega) | (simp only [up2_eq]; omega) | (split <;> omega)) (by first | omega | (simp [up2, *]; done) | (simp [up2, *]; omega) | (simp only [up2_eq]; omega) | (split <;> omega)) dX2_mixRows_17 (by decide) (fun h17_7 => ?_) (fun h17_7 => ?_)
      · skip
        exfalso
        omega
      · skip
        have hi4 : i < 4 := by omega
        obtain ⟨hr0, -, -, hr3, hr4, -⟩ := hC.rw hi4
        refine r_lload_n C dX2_mixRows_20 rfl ?_
        refine r_aload_n C dX2_mixRows_21 rfl ?_
        refine s_get C 0 (by decide) qf_X2_11 rfl rfl dX2_mixRows_22 ?_
        refine r_iload C dX2_mixRows_25 rfl ?_
        refine s_parts C (by first | omega | (simp [up2, *]; done) | (simp [up2, *]; omega) | (simp only [up2_eq]; omega) | (split <;> omega)) dX2_mixRows_27 ?_
        refine p_getN (v := .int (nI (f 4 i))) hX.1.1 C hE 4 (by first | omega | (simp [up2, *]; done) | (simp [up2, *]; omega) | (simp only [up2_eq]; omega) | (split <;> omega)) (by decide) qn_X2_50 rfl rfl dX2_mixRows_28 ?_
        refine r_i2l C dX2_mixRows_31 ?_
        refine d_S (st := []) hX.1.1.stb C hE (C_mix (f := f) (r := r) (kn := kn) (u := u2) (v := (((nI (f 4 i))).toInt64)) hX.1.1 ) pk_X2_mix qm_X2_257 rfl rfl (Nat.le_of_ble_eq_true rfl) dX2_mixRows_32 ⟨Nat.le_of_ble_eq_true rfl, Nat.le_of_ble_eq_true rfl⟩ ⟨by first | (simp only [rmk, rmz]; omega) | (simp only [rmk, rmz]; done) | omega, by first | (simp only [rmk, rmz]; omega) | (simp only [rmk, rmz]; done) | omega⟩ ?_
        refine r_lstore_n C dX2_mixRows_35 (by decide) rfl ?_
        refine r_lload_n C dX2_mixRows_36 rfl ?_
        refine r_aload_n C dX2_mixRows_37 rfl ?_
        refine s_get C 0 (by decide) qf_X2_11 rfl rfl dX2_mixRows_38 ?_
        refine r_iload C dX2_mixRows_41 rfl ?_
        refine s_parts C (by first | omega | (simp [up2, *]; done) | (simp [up2, *]; omega) | (simp only [up2_eq]; omega) | (split <;> omega)) dX2_mixRows_43 ?_
        refine d_S (st := []) hX.1.1.stb C hE (C_mixItems (f := f) (r := r) (kn := kn) (i := i) (u := (u2 * 31 + (((nI (f 4 i))).toInt64))) hX.1.1 (by omega) (by omega) (by omega)) pk_X2_mixItems qm_X2_323 rfl rfl (Nat.le_of_ble_eq_true rfl) dX2_mixRows_44 ⟨Nat.le_of_ble_eq_true rfl, Nat.le_of_ble_eq_true rfl⟩ ⟨by first | (simp only [rmk, rmz]; omega) | (simp only [rmk, rmz]; done) | omega, by first | (simp only [rmk, rmz]; omega) | (simp only [rmk, rmz]; done) | omega⟩ ?_
        refine r_lstore_n C dX2_mixRows_47 (by decide) rfl ?_
        refine r_lload_n C dX2_mixRows_48 rfl ?_
        refine r_aload_n C dX2_mixRows_49 rfl ?_
        refine s_get C 0 (by decide) qf_X2_11 rfl rfl dX2_mixRows_50 ?_
        refine r_iload C dX2_mixRows_53 rfl ?_
        refine s_parts C (by first | omega | (simp [up2, *]; done) | (simp [up2, *]; omega) | (simp only [up2_eq]; omega) | (split <;> omega)) dX2_mixRows_55 ?_
        refine d_V (st := [.long (mxF (fun q => r (f 0 i) (f 3 i + q)) (f 4 i) 0 (u2 * 31 + (((nI (f 4 i))).toInt64)))]) hX.1.1.stb C hE (C_hashOfItems (f := f) (r := r) (kn := kn) (i := i) hX.1.1 (by omega) (by omega) (by omega)) pk_X1_hashOfItems qm_X2_165 (3 + i) 5 rfl rfl (wc_p (by first | omega | (simp [up2, *]; done) | (simp [up2, *]; omega) | (simp only [up2_eq]; omega) | (split <;> omega))) rfl rfl (Nat.le_of_ble_eq_true rfl) dX2_mixRows_56 ⟨Nat.le_of_ble_eq_true rfl, Nat.le_of_ble_eq_true rfl⟩ ⟨by first | (simp only [rmk, rmz]; omega) | (simp only [rmk, rmz]; done) | omega, by first | (simp only [rmk, rmz]; omega) | (simp only [rmk, rmz]; done) | omega⟩ ?_
        refine r_i2l C dX2_mixRows_59 ?_
        refine d_S (st := []) hX.1.1.stb C hE (C_mix (f := f) (r := r) (kn := kn) (u := (mxF (fun q => r (f 0 i) (f 3 i + q)) (f 4 i) 0 (u2 * 31 + (((nI (f 4 i))).toInt64)))) (v := (((hsF (fun q => r (f 0 i) (f 3 i + q)) (f 4 i) 0 (nI 1))).toInt64)) hX.1.1 ) pk_X2_mix qm_X2_257 rfl rfl (Nat.le_of_ble_eq_true rfl) dX2_mixRows_60 ⟨Nat.le_of_ble_eq_true rfl, Nat.le_of_ble_eq_true rfl⟩ ⟨by first | (simp only [rmk, rmz]; omega) | (simp only [rmk, rmz]; done) | omega, by first | (simp only [rmk, rmz]; omega) | (simp only [rmk, rmz]; done) | omega⟩ ?_
        refine r_lstore_n C dX2_mixRows_63 (by decide) rfl ?_
        refine r_aload C dX2_mixRows_64 rfl ?_
        refine r_iconst (v := (nI 0)) C dX2_mixRows_66 (by decide) ?_
        refine c_V (st := []) hX.stb C hE (C_sbSetLen0 (U := WC cy a f r kn) (E := E) (b := q_13) (v := v2) (m := m2) (n := n2) (g := g2) (ml := ml2) hX (c3_le hc3) hn2 hf2) pk_J4_setLength_d00df qm_X2_327 ((WC cy a f r kn).length + 0) 1 rfl rfl (us_g rfl) rfl rfl (Nat.le_of_ble_eq_true rfl) dX2_mixRows_67 ⟨Nat.le_of_ble_eq_true rfl, Nat.le_of_ble_eq_true rfl⟩ ⟨by first | (simp only [rmk, rmz]; omega) | (simp only [rmk, rmz]; done) | omega, by first | (simp only [rmk, rmz]; omega) | (simp only [rmk, rmz]; done) | omega⟩ (fun v9 w9 h9 => ?_) (fun _ h9 => h9.elim)
        obtain ⟨v9_8, ml9_9, g9_10, f_11, rfl, rfl⟩ := h9
        refine r_aload_n C dX2_mixRows_70 rfl ?_
        refine s_get C 0 (by decide) qf_X2_11 rfl rfl dX2_mixRows_71 ?_
        refine r_iload C dX2_mixRows_74 rfl ?_
        refine s_parts C (by first | omega | (simp [up2, *]; done) | (simp [up2, *]; omega) | (simp only [up2_eq]; omega) | (split <;> omega)) dX2_mixRows_76 ?_
        refine r_aload C dX2_mixRows_77 rfl ?_
        refine c_V (st := []) hX.stb C hE (C_writeTo (a := a) (f := f) (r := r) (kn := kn) (E := E) (i := i) (b := q_13) (v := v9_8) (m := m2) (g := g9_10) (ml := ml9_9) hX (by omega) (by omega) (by omega) (fun q hq => hR i q (by omega) hq) hc3 f_11) pk_X1_writeTo qm_X2_171 (3 + i) 5 rfl rfl (wc_p (by omega)) rfl rfl (Nat.le_of_ble_eq_true rfl) dX2_mixRows_79 ⟨Nat.le_of_ble_eq_true rfl, Nat.le_of_ble_eq_true rfl⟩ ⟨by first | (simp only [rmk, rmz]; omega) | (simp only [rmk, rmz]; done) | omega, by first | (simp only [rmk, rmz]; omega) | (simp only [rmk, rmz]; done) | omega⟩ (fun v9 w9 h9 => ?_) (fun _ h9 => h9.elim)
        obtain ⟨v9_12, m9_12, g9_12, hc9_12, hf9_12, -, rfl, rfl⟩ := h9
        refine r_lload_n C dX2_mixRows_82 rfl ?_
        refine r_aload C dX2_mixRows_83 rfl ?_
        refine c_V (st := [.long ((mxF (fun q => r (f 0 i) (f 3 i + q)) (f 4 i) 0 (u2 * 31 + (((nI (f 4 i))).toInt64))) * 31 + (((hsF (fun q => r (f 0 i) (f 3 i + q)) (f 4 i) 0 (nI 1))).toInt64))]) hX.stb C hE (C_sbLength (U := WC cy a f r kn) (E := (BYO cy v9_12 m9_12 g9_12 :: E)) (b := q_13) (v := v9_12) (n := (tlx (fun k => r (f 0 i) (f 3 i + k)) (f 4 i) + 1)) (ml := ml9_9) hX ) pk_J4_length_8abf5 qm_X2_330 ((WC cy a f r kn).length + 0) 1 rfl rfl (us_g rfl) rfl rfl (Nat.le_of_ble_eq_true rfl) dX2_mixRows_85 ⟨Nat.le_of_ble_eq_true rfl, Nat.le_of_ble_eq_true rfl⟩ ⟨by first | (simp only [rmk, rmz]; omega) | (simp only [rmk, rmz]; done) | omega, by first | (simp only [rmk, rmz]; omega) | (simp only [rmk, rmz]; done) | omega⟩ (fun v9 w9 h9 => ?_) (fun _ h9 => h9.elim)
        obtain ⟨rfl, rfl⟩ := h9
        refine r_i2l C dX2_mixRows_88 ?_
        refine d_S (st := []) hX.1.1.stb C hE (C_mix (f := f) (r := r) (kn := kn) (u := ((mxF (fun q => r (f 0 i) (f 3 i + q)) (f 4 i) 0 (u2 * 31 + (((nI (f 4 i))).toInt64))) * 31 + (((hsF (fun q => r (f 0 i) (f 3 i + q)) (f 4 i) 0 (nI 1))).toInt64))) (v := (((nI (tlx (fun k => r (f 0 i) (f 3 i + k)) (f 4 i) + 1))).toInt64)) hX.1.1 ) pk_X2_mix qm_X2_257 rfl rfl (Nat.le_of_ble_eq_true rfl) dX2_mixRows_89 ⟨Nat.le_of_ble_eq_true rfl, Nat.le_of_ble_eq_true rfl⟩ ⟨by first | (simp only [rmk, rmz]; omega) | (simp only [rmk, rmz]; done) | omega, by first | (simp only [rmk, rmz]; omega) | (simp only [rmk, rmz]; done) | omega⟩ ?_
        refine r_lstore_n C dX2_mixRows_92 (by decide) rfl ?_
        refine r_iincN C dX2_mixRows_93 rfl (by decide) rfl ?_
        refine r_goto (tgt := 14) C dX2_mixRows_96 (by decide) ?_
        refine r_widen (k := 2 + 2 * (i + 1)) (n := 20 + 104 * (i + 1)) (by first | (simp only [rmk, rmz]; omega) | (simp only [rmk, rmz]; done) | omega) (by first | (simp only [rmk, rmz]; omega) | (simp only [rmk, rmz]; done) | omega) ?_
        exact ih (i + 1) v9_12 (tlx (fun k => r (f 0 i) (f 3 i + k)) (f 4 i) + 1) m9_12 ml9_9 g9_12 _ (by omega) hc9_12 hf9_12 (by have := tlx_le (fun k => r (f 0 i) (f 3 i + k)) (f 4 i); omega) hF
  refine r_widen (k := 2 + 2 * 0) (n := 20 + 104 * 0) (by first | (simp only [rmk, rmz]; omega) | (simp only [rmk, rmz]; done) | omega) (by first | (simp only [rmk, rmz]; omega) | (simp only [rmk, rmz]; done) | omega) ?_
  refine r_drop 1 ?_
  exact L14 4 0 v9_14 0 16 (nI 0) g9_15 u rfl (Or.inl rfl) f_16 (by decide) rfl
end PT_62
/-! ===== 63.text8 -/
section PT_63
/-! TEXTS: text and digest of the class -/
/-- what the house answers -/
def hhF (f : Nat → Nat → Nat) (kn : Int32) (q : Nat) : Int32 := if q = 0 then nI (smF (f 4) 4 0 0) else if q = 1 then nI (smF (f 5) 4 4 0) else if q = 2 then nI (smF (f 9) 3 0 0) else kn
theorem C_house_all {l : Launch} {D : va_G} {cy : Nat → ClassId} {X : (Nat → Prop) → State → Heap → Prop} {a f : Nat → Nat → Nat} {r : Nat → Nat → Int32} {kn : Int32} {Y : va_W} {q0 : Nat} (hX : EnvX X) (hC : CInv f) (hq : q0 < 4) : Cd l D cy X yX2_house cX2_house 2 (some .int) (rmz 6 240) [.ref (a 0 0), .int (nI q0)] (WC cy a f r kn ++ Y) (some (.int (hhF f kn q0))) (WC cy a f r kn ++ Y) := by
  obtain rfl | rfl | rfl | rfl : q0 = 0 ∨ q0 = 1 ∨ q0 = 2 ∨ q0 = 3 := by omega
  · exact C_house_0 hX hC
  · exact C_house_1 hX hC
  · exact C_house_2 hX hC
  · exact C_house_3 hX hC
/-- the place of the row j in the row i -/
def poV (f : Nat → Nat → Nat) (r : Nat → Nat → Int32) (i j : Nat) : Int32 := nI (poF (fun k => stF (fun q => r (f 0 i) (f 3 i + (k + q))) (fun q => r (f 0 j) (f 3 j + q)) (f 4 j) 0) (f 4 i + 1 - f 4 j) 0)
def mpF (f : Nat → Nat → Nat) (r : Nat → Nat → Int32) : Nat → Nat → Int64 → Int64
  | 0, _, u => u
  | d + 1, i, u => mpF f r d (i + 1) (mxF (poV f r i) 4 0 u)
def dgF (f : Nat → Nat → Nat) (r : Nat → Nat → Int32) (kn : Int32) : Int64 := mpF f r 4 0 (mcF f 3 0 (mwF f r 4 0 (mrF f r 4 0 (mxF (hhF f kn) 4 0 7807)))) * 31 + 1

theorem dX2_text_0 : decode cX2_text 0 = .ok (.iload_n 1, 1) := dqo_27 (kb_of ke_X2_text 0 rfl)
theorem dX2_text_1 : decode cX2_text 1 = .ok (.invokestatic 126, 3) := dqo_184 0 126 (kb_of ke_X2_text 1 rfl) (kb_of ke_X2_text 2 rfl) (kb_of ke_X2_text 3 rfl)
set_option maxRecDepth 100000 in
set_option maxHeartbeats 4000000 in
theorem C_text_noR {l : Launch} {D : va_G} {cy : Nat → ClassId} {X : (Nat → Prop) → State → Heap → Prop} {a f : Nat → Nat → Nat} {r : Nat → Nat → Int32} {kn : Int32} {Y : va_W} {x : Int32} (hX : EnvX X) (hl : l.stackTraces = false) (hC : CInv f) (hno : ¬ (0 ≤ x ∧ x < nI 4)) : Ce l D cy X yX2_text cX2_text 3 (some (.object "java/lang/String")) (rmk 8 1 6 170) [.ref (a 0 0), .int x] (WC cy a f r kn ++ Y) "java/lang/IndexOutOfBoundsException" := by
  refine Cm.of [some (.ref (a 0 0)), some (.int x), none] pn_X2 rfl (Nat.le_of_ble_eq_true rfl) ?_
  intro p e s m args below meth c A C hE hr hnt hn
  refine r_iload_n C dX2_text_0 rfl ?_
  refine c_S (st := []) hX.stb C hE (C_needRow_no (f := f) (r := r) (kn := kn) (x := (x)) hX hl hno) pk_X2_needRow qm_X2_126 rfl rfl (Nat.le_of_ble_eq_true rfl) dX2_text_1 ⟨Nat.le_of_ble_eq_true rfl, Nat.le_of_ble_eq_true rfl⟩ ⟨Nat.le_of_ble_eq_true rfl, Nat.le_of_ble_eq_true rfl⟩ (fun _ _ h9 => h9.elim) (fun E9 h9 => ?_)
  subst h9
  exact r_out C hnt rfl rfl (Nat.le_of_ble_eq_true rfl) (Nat.le_of_ble_eq_true rfl)
theorem dX2_text_4 : decode cX2_text 4 = .ok (.new 168, 3) := dqo_187 0 168 (kb_of ke_X2_text 4 rfl) (kb_of ke_X2_text 5 rfl) (kb_of ke_X2_text 6 rfl)
theorem dX2_text_7 : decode cX2_text 7 = .ok (.dup, 1) := dqo_89 (kb_of ke_X2_text 7 rfl)
theorem dX2_text_8 : decode cX2_text 8 = .ok (.invokespecial 170, 3) := dqo_183 0 170 (kb_of ke_X2_text 8 rfl) (kb_of ke_X2_text 9 rfl) (kb_of ke_X2_text 10 rfl)
theorem dX2_text_11 : decode cX2_text 11 = .ok (.astore_n 2, 1) := dqo_77 (kb_of ke_X2_text 11 rfl)
theorem dX2_text_12 : decode cX2_text 12 = .ok (.aload_n 0, 1) := dqo_42 (kb_of ke_X2_text 12 rfl)
theorem dX2_text_13 : decode cX2_text 13 = .ok (.getfield 11, 3) := dqo_180 0 11 (kb_of ke_X2_text 13 rfl) (kb_of ke_X2_text 14 rfl) (kb_of ke_X2_text 15 rfl)
theorem dX2_text_16 : decode cX2_text 16 = .ok (.iload_n 1, 1) := dqo_27 (kb_of ke_X2_text 16 rfl)
theorem dX2_text_17 : decode cX2_text 17 = .ok (.aaload, 1) := dqo_50 (kb_of ke_X2_text 17 rfl)
theorem dX2_text_18 : decode cX2_text 18 = .ok (.aload_n 2, 1) := dqo_44 (kb_of ke_X2_text 18 rfl)
theorem dX2_text_19 : decode cX2_text 19 = .ok (.invokevirtual 171, 3) := dqo_182 0 171 (kb_of ke_X2_text 19 rfl) (kb_of ke_X2_text 20 rfl) (kb_of ke_X2_text 21 rfl)
theorem dX2_text_22 : decode cX2_text 22 = .ok (.aload_n 2, 1) := dqo_44 (kb_of ke_X2_text 22 rfl)
theorem dX2_text_23 : decode cX2_text 23 = .ok (.invokevirtual 175, 3) := dqo_182 0 175 (kb_of ke_X2_text 23 rfl) (kb_of ke_X2_text 24 rfl) (kb_of ke_X2_text 25 rfl)
theorem dX2_text_26 : decode cX2_text 26 = .ok (.areturn, 1) := dqo_176 (kb_of ke_X2_text 26 rfl)
theorem pk_J4_toString_0e30d : PkV RJ4 yJ4_toString_0e30d cJ4_toString_0e30d 1 (some (.object "java/lang/String")) 0 := ⟨⟨qi_J4_toString_0e30d, qs_J4_toString_0e30d, qz_J4, qc_J4_toString_0e30d⟩, rfl, mh_J4.1, mh_J4.2, pd_41⟩
set_option maxRecDepth 100000 in
set_option maxHeartbeats 800000 in
theorem C_text_ok {l : Launch} {D : va_G} {cy : Nat → ClassId} {X : (Nat → Prop) → State → Heap → Prop} {aK aV : Nat → Nat} {tO tT : Nat} {gO gT : Nat → Int32} {a f : Nat → Nat → Nat} {r : Nat → Nat → Int32} {kn : Int32} {E : va_W} {i : Nat} (hX : EnvS X cy aK aV tO tT gO gT) (hC : CInv f) (hi4 : i < 4) (hR : ∀ q, q < f 4 i → -99 ≤ (r (f 0 i) (f 3 i + q)).toInt ∧ (r (f 0 i) (f 3 i + q)).toInt ≤ 99) : Cm l D cy X yX2_text cX2_text 3 (some (.object "java/lang/String")) (rmk 7 6 198 400) [.ref (a 0 0), .int (nI i)] (WC cy a f r kn ++ E) (fun v1 w1 => ∃ a9 : Nat, v1 = some (.ref a9) ∧ w1 = WC cy a f r kn ++ E) (fun _ => False) := by
  obtain ⟨hr0, -, -, hr3, hr4, -⟩ := hC.rw hi4
  refine Cm.of [some (.ref (a 0 0)), some (.int (nI i)), none] pn_X2 rfl (Nat.le_of_ble_eq_true rfl) ?_
  intro p e s mI args below meth c A C hE hr hnt hn
  refine r_iload_n C dX2_text_0 rfl ?_
  refine d_Sv (st := []) hX.1.1.stb C hE (C_needRow_ok (f := f) (r := r) (kn := kn) (k := i) hX.1.1 hi4) pk_X2_needRow qm_X2_126 rfl rfl (Nat.le_of_ble_eq_true rfl) dX2_text_1 ⟨Nat.le_of_ble_eq_true rfl, Nat.le_of_ble_eq_true rfl⟩ ⟨by first | (simp only [rmk, rmz]; omega) | (simp only [rmk, rmz]; done) | omega, by first | (simp only [rmk, rmz]; omega) | (simp only [rmk, rmz]; done) | omega⟩ ?_
  refine r_new (fs := [.null, .int (nI 0), .int (nI 0), .int (nI 0)]) C qu_J4 tyJ4 tyJ4_ok qk_X2_168 qo_J4 qz_J4 (ci := 1) rfl fs0_J4 (by first | (simp only [rmk, rmz]; omega) | (simp only [rmk, rmz]; done) | omega) (by first | (simp only [rmk, rmz]; omega) | (simp only [rmk, rmz]; done) | omega) dX2_text_4 (fun q_1 => ?_)
  refine t_front ?_
  refine r_dup C dX2_text_7 rfl ?_
  refine c_I (st := [.ref q_1]) hX.stb C hE (C_sbInit (U := WC cy a f r kn) (E := E) (b := q_1) hX ) pk_J4_init_da8c8 qm_X2_170 rfl rfl (Nat.le_of_ble_eq_true rfl) dX2_text_8 ⟨Nat.le_of_ble_eq_true rfl, Nat.le_of_ble_eq_true rfl⟩ ⟨by first | (simp only [rmk, rmz]; omega) | (simp only [rmk, rmz]; done) | omega, by first | (simp only [rmk, rmz]; omega) | (simp only [rmk, rmz]; done) | omega⟩ (fun v9 w9 h9 => ?_) (fun _ h9 => h9.elim)
  obtain ⟨v9_2, g9_3, f_4, rfl, rfl⟩ := h9
  refine r_astore_n C dX2_text_11 (by decide) rfl ?_
  refine r_aload_n C dX2_text_12 rfl ?_
  refine s_get C 0 (by decide) qf_X2_11 rfl rfl dX2_text_13 ?_
  refine r_iload_n C dX2_text_16 rfl ?_
  refine s_parts C (by first | omega | (simp [up2, *]; done) | (simp [up2, *]; omega) | (simp only [up2_eq]; omega) | (split <;> omega)) dX2_text_17 ?_
  refine r_aload_n C dX2_text_18 rfl ?_
  refine c_V (st := []) hX.stb C hE (C_writeTo (a := a) (f := f) (r := r) (kn := kn) (E := E) (i := i) (b := q_1) (v := v9_2) (m := 16) (g := g9_3) (ml := nI 0) hX (by omega) (by omega) (by omega) hR (Or.inl rfl) f_4) pk_X1_writeTo qm_X2_171 (3 + i) 5 rfl rfl (wc_p (by omega)) rfl rfl (Nat.le_of_ble_eq_true rfl) dX2_text_19 ⟨Nat.le_of_ble_eq_true rfl, Nat.le_of_ble_eq_true rfl⟩ ⟨by first | (simp only [rmk, rmz]; omega) | (simp only [rmk, rmz]; done) | omega, by first | (simp only [rmk, rmz]; omega) | (simp only [rmk, rmz]; done) | omega⟩ (fun v9 w9 h9 => ?_) (fun _ h9 => h9.elim)
  obtain ⟨v9_w, m9_w, g9_w, hc9_w, hf9_w, hsl, rfl, rfl⟩ := h9
  have htl := tlx_le (fun k => r (f 0 i) (f 3 i + k)) (f 4 i)
  refine r_aload_n C dX2_text_22 rfl ?_
  refine c_V (st := []) hX.stb C hE (C_toString (U := WC cy a f r kn) (E := E) (b := q_1) (v := v9_w) (m := m9_w) (n := (tlx (fun k => r (f 0 i) (f 3 i + k)) (f 4 i) + 1)) (g := g9_w) (ml := (nI 0)) hX (by first | exact hsl | omega) (by have := c3_le hc9_w; omega) hf9_w) pk_J4_toString_0e30d qm_X2_175 ((WC cy a f r kn).length + 0) 1 rfl rfl (us_g rfl) rfl rfl (Nat.le_of_ble_eq_true rfl) dX2_text_23 ⟨Nat.le_of_ble_eq_true rfl, Nat.le_of_ble_eq_true rfl⟩ ⟨by first | (simp only [rmk, rmz]; omega) | (simp only [rmk, rmz]; done) | omega, by first | (simp only [rmk, rmz]; omega) | (simp only [rmk, rmz]; done) | omega⟩ (fun v9 w9 h9 => ?_) (fun _ h9 => h9.elim)
  obtain ⟨a9_5, v9_6, g9_7, f_8, rfl, rfl⟩ := h9
  refine t_perm [STO a9_5 v9_6 (nI 0) (nI 0), BYO cy v9_6 (tlx (fun k => r (f 0 i) (f 3 i + k)) (f 4 i) + 1) g9_7, SBO q_1 v9_w (nI 0) (tlx (fun k => r (f 0 i) (f 3 i + k)) (f 4 i) + 1), BYO cy v9_w m9_w g9_w] [] [] rfl (by decide) rfl (w' := WC cy a f r kn ++ E) rfl ?_
  exact r_aret C hr (Or.inl ⟨_, rfl⟩) dX2_text_26 ⟨a9_5, rfl, rfl⟩ (by first | (simp only [rmk, rmz]; omega) | (simp only [rmk, rmz]; done) | omega) (by first | (simp only [rmk, rmz]; omega) | (simp only [rmk, rmz]; done) | omega)
theorem dX2_digest_0 : decode cX2_digest 0 = .ok (.ldc2_w 252, 3) := dqo_20 0 252 (kb_X2_digest_0 0 rfl) (kb_X2_digest_0 1 rfl) (kb_X2_digest_0 2 rfl)
theorem dX2_digest_3 : decode cX2_digest 3 = .ok (.lstore_n 1, 1) := dqo_64 (kb_X2_digest_0 3 rfl)
theorem dX2_digest_4 : decode cX2_digest 4 = .ok (.iconst 0, 1) := dqo_3 (kb_X2_digest_0 4 rfl)
theorem dX2_digest_5 : decode cX2_digest 5 = .ok (.istore_n 3, 1) := dqo_62 (kb_X2_digest_0 5 rfl)
theorem dX2_digest_6 : decode cX2_digest 6 = .ok (.iload_n 3, 1) := dqo_29 (kb_X2_digest_0 6 rfl)
theorem dX2_digest_7 : decode cX2_digest 7 = .ok (.iconst 4, 1) := dqo_7 (kb_X2_digest_0 7 rfl)
theorem dX2_digest_8 : decode cX2_digest 8 = .ok (.if_icmp .ge 20, 3) := dqo_162 0 20 (by decide) (kb_X2_digest_0 8 rfl) (kb_X2_digest_0 9 rfl) (kb_X2_digest_0 10 rfl)
theorem dX2_digest_11 : decode cX2_digest 11 = .ok (.lload_n 1, 1) := dqo_31 (kb_X2_digest_0 11 rfl)
theorem dX2_digest_12 : decode cX2_digest 12 = .ok (.aload_n 0, 1) := dqo_42 (kb_X2_digest_0 12 rfl)
theorem dX2_digest_13 : decode cX2_digest 13 = .ok (.iload_n 3, 1) := dqo_29 (kb_X2_digest_0 13 rfl)
theorem dX2_digest_14 : decode cX2_digest 14 = .ok (.invokevirtual 254, 3) := dqo_182 0 254 (kb_X2_digest_0 14 rfl) (kb_X2_digest_0 15 rfl) (kb_X2_digest_0 16 rfl)
theorem dX2_digest_17 : decode cX2_digest 17 = .ok (.i2l, 1) := dqo_133 (kb_X2_digest_0 17 rfl)
theorem dX2_digest_18 : decode cX2_digest 18 = .ok (.invokestatic 257, 3) := dqo_184 1 1 (kb_X2_digest_0 18 rfl) (kb_X2_digest_0 19 rfl) (kb_X2_digest_0 20 rfl)
theorem dX2_digest_21 : decode cX2_digest 21 = .ok (.lstore_n 1, 1) := dqo_64 (kb_X2_digest_0 21 rfl)
theorem dX2_digest_22 : decode cX2_digest 22 = .ok (.iinc 3 1, 3) := dqo_132 3 1 (by decide) (kb_X2_digest_0 22 rfl) (kb_X2_digest_0 23 rfl) (kb_X2_digest_0 24 rfl)
theorem dX2_digest_25 : decode cX2_digest 25 = .ok (.goto (-19), 3) := dqo_167 255 237 (by decide) (kb_X2_digest_0 25 rfl) (kb_X2_digest_0 26 rfl) (kb_X2_digest_0 27 rfl)
theorem dX2_digest_28 : decode cX2_digest 28 = .ok (.aload_n 0, 1) := dqo_42 (kb_X2_digest_0 28 rfl)
theorem dX2_digest_29 : decode cX2_digest 29 = .ok (.lload_n 1, 1) := dqo_31 (kb_X2_digest_0 29 rfl)
theorem dX2_digest_30 : decode cX2_digest 30 = .ok (.invokevirtual 261, 3) := dqo_182 1 5 (kb_X2_digest_0 30 rfl) (kb_X2_digest_0 31 rfl) (kb_X2_digest_0 32 rfl)
theorem dX2_digest_33 : decode cX2_digest 33 = .ok (.lstore_n 1, 1) := dqo_64 (kb_X2_digest_0 33 rfl)
theorem dX2_digest_34 : decode cX2_digest 34 = .ok (.aload_n 0, 1) := dqo_42 (kb_X2_digest_0 34 rfl)
theorem dX2_digest_35 : decode cX2_digest 35 = .ok (.lload_n 1, 1) := dqo_31 (kb_X2_digest_0 35 rfl)
theorem dX2_digest_36 : decode cX2_digest 36 = .ok (.invokevirtual 265, 3) := dqo_182 1 9 (kb_X2_digest_0 36 rfl) (kb_X2_digest_0 37 rfl) (kb_X2_digest_0 38 rfl)
theorem dX2_digest_39 : decode cX2_digest 39 = .ok (.lstore_n 1, 1) := dqo_64 (kb_X2_digest_0 39 rfl)
theorem dX2_digest_40 : decode cX2_digest 40 = .ok (.aload_n 0, 1) := dqo_42 (kb_X2_digest_0 40 rfl)
theorem dX2_digest_41 : decode cX2_digest 41 = .ok (.lload_n 1, 1) := dqo_31 (kb_X2_digest_0 41 rfl)
theorem dX2_digest_42 : decode cX2_digest 42 = .ok (.invokevirtual 268, 3) := dqo_182 1 12 (kb_X2_digest_0 42 rfl) (kb_X2_digest_0 43 rfl) (kb_X2_digest_0 44 rfl)
theorem dX2_digest_45 : decode cX2_digest 45 = .ok (.lstore_n 1, 1) := dqo_64 (kb_X2_digest_0 45 rfl)
theorem dX2_digest_46 : decode cX2_digest 46 = .ok (.iconst 0, 1) := dqo_3 (kb_X2_digest_0 46 rfl)
theorem dX2_digest_47 : decode cX2_digest 47 = .ok (.istore_n 3, 1) := dqo_62 (kb_X2_digest_0 47 rfl)
theorem dX2_digest_48 : decode cX2_digest 48 = .ok (.iload_n 3, 1) := dqo_29 (kb_X2_digest_0 48 rfl)
theorem dX2_digest_49 : decode cX2_digest 49 = .ok (.iconst 4, 1) := dqo_7 (kb_X2_digest_0 49 rfl)
theorem dX2_digest_50 : decode cX2_digest 50 = .ok (.if_icmp .ge 46, 3) := dqo_162 0 46 (by decide) (kb_X2_digest_0 50 rfl) (kb_X2_digest_0 51 rfl) (kb_X2_digest_0 52 rfl)
theorem dX2_digest_53 : decode cX2_digest 53 = .ok (.iconst 0, 1) := dqo_3 (kb_X2_digest_0 53 rfl)
theorem dX2_digest_54 : decode cX2_digest 54 = .ok (.istore 4, 2) := dqo_54 4 (kb_X2_digest_0 54 rfl) (kb_X2_digest_0 55 rfl)
theorem dX2_digest_56 : decode cX2_digest 56 = .ok (.iload 4, 2) := dqo_21 4 (kb_X2_digest_0 56 rfl) (kb_X2_digest_0 57 rfl)
theorem dX2_digest_58 : decode cX2_digest 58 = .ok (.iconst 4, 1) := dqo_7 (kb_X2_digest_0 58 rfl)
theorem dX2_digest_59 : decode cX2_digest 59 = .ok (.if_icmp .ge 31, 3) := dqo_162 0 31 (by decide) (kb_X2_digest_0 59 rfl) (kb_X2_digest_0 60 rfl) (kb_X2_digest_0 61 rfl)
theorem dX2_digest_62 : decode cX2_digest 62 = .ok (.lload_n 1, 1) := dqo_31 (kb_X2_digest_0 62 rfl)
theorem dX2_digest_63 : decode cX2_digest 63 = .ok (.aload_n 0, 1) := dqo_42 (kb_X2_digest_0 63 rfl)
theorem dX2_digest_64 : decode cX2_digest 64 = .ok (.getfield 11, 3) := dqo_180 0 11 (kb_X2_digest_1 0 rfl) (kb_X2_digest_1 1 rfl) (kb_X2_digest_1 2 rfl)
theorem dX2_digest_67 : decode cX2_digest 67 = .ok (.iload_n 3, 1) := dqo_29 (kb_X2_digest_1 3 rfl)
theorem dX2_digest_68 : decode cX2_digest 68 = .ok (.aaload, 1) := dqo_50 (kb_X2_digest_1 4 rfl)
theorem dX2_digest_69 : decode cX2_digest 69 = .ok (.aload_n 0, 1) := dqo_42 (kb_X2_digest_1 5 rfl)
theorem dX2_digest_70 : decode cX2_digest 70 = .ok (.getfield 11, 3) := dqo_180 0 11 (kb_X2_digest_1 6 rfl) (kb_X2_digest_1 7 rfl) (kb_X2_digest_1 8 rfl)
theorem dX2_digest_73 : decode cX2_digest 73 = .ok (.iload 4, 2) := dqo_21 4 (kb_X2_digest_1 9 rfl) (kb_X2_digest_1 10 rfl)
theorem dX2_digest_75 : decode cX2_digest 75 = .ok (.aaload, 1) := dqo_50 (kb_X2_digest_1 11 rfl)
theorem dX2_digest_76 : decode cX2_digest 76 = .ok (.invokevirtual 122, 3) := dqo_182 0 122 (kb_X2_digest_1 12 rfl) (kb_X2_digest_1 13 rfl) (kb_X2_digest_1 14 rfl)
theorem dX2_digest_79 : decode cX2_digest 79 = .ok (.i2l, 1) := dqo_133 (kb_X2_digest_1 15 rfl)
theorem dX2_digest_80 : decode cX2_digest 80 = .ok (.invokestatic 257, 3) := dqo_184 1 1 (kb_X2_digest_1 16 rfl) (kb_X2_digest_1 17 rfl) (kb_X2_digest_1 18 rfl)
theorem dX2_digest_83 : decode cX2_digest 83 = .ok (.lstore_n 1, 1) := dqo_64 (kb_X2_digest_1 19 rfl)
theorem dX2_digest_84 : decode cX2_digest 84 = .ok (.iinc 4 1, 3) := dqo_132 4 1 (by decide) (kb_X2_digest_1 20 rfl) (kb_X2_digest_1 21 rfl) (kb_X2_digest_1 22 rfl)
theorem dX2_digest_87 : decode cX2_digest 87 = .ok (.goto (-31), 3) := dqo_167 255 225 (by decide) (kb_X2_digest_1 23 rfl) (kb_X2_digest_1 24 rfl) (kb_X2_digest_1 25 rfl)
theorem dX2_digest_90 : decode cX2_digest 90 = .ok (.iinc 3 1, 3) := dqo_132 3 1 (by decide) (kb_X2_digest_1 26 rfl) (kb_X2_digest_1 27 rfl) (kb_X2_digest_1 28 rfl)
theorem dX2_digest_93 : decode cX2_digest 93 = .ok (.goto (-45), 3) := dqo_167 255 211 (by decide) (kb_X2_digest_1 29 rfl) (kb_X2_digest_1 30 rfl) (kb_X2_digest_1 31 rfl)
theorem dX2_digest_96 : decode cX2_digest 96 = .ok (.lload_n 1, 1) := dqo_31 (kb_X2_digest_1 32 rfl)
theorem dX2_digest_97 : decode cX2_digest 97 = .ok (.aload_n 0, 1) := dqo_42 (kb_X2_digest_1 33 rfl)
theorem dX2_digest_98 : decode cX2_digest 98 = .ok (.invokevirtual 271, 3) := dqo_182 1 15 (kb_X2_digest_1 34 rfl) (kb_X2_digest_1 35 rfl) (kb_X2_digest_1 36 rfl)
theorem dX2_digest_101 : decode cX2_digest 101 = .ok (.ifCond .eq 7, 3) := dqo_153 0 7 (by decide) (kb_X2_digest_1 37 rfl) (kb_X2_digest_1 38 rfl) (kb_X2_digest_1 39 rfl)
theorem dX2_digest_104 : decode cX2_digest 104 = .ok (.lconst 1, 1) := dqo_10 (kb_X2_digest_1 40 rfl)
theorem dX2_digest_105 : decode cX2_digest 105 = .ok (.goto 4, 3) := dqo_167 0 4 (by decide) (kb_X2_digest_1 41 rfl) (kb_X2_digest_1 42 rfl) (kb_X2_digest_1 43 rfl)
theorem dX2_digest_109 : decode cX2_digest 109 = .ok (.invokestatic 257, 3) := dqo_184 1 1 (kb_X2_digest_1 45 rfl) (kb_X2_digest_1 46 rfl) (kb_X2_digest_1 47 rfl)
theorem dX2_digest_112 : decode cX2_digest 112 = .ok (.lreturn, 1) := dqo_173 (kb_X2_digest_1 48 rfl)
theorem pk_X2_house : PkV RX2 yX2_house cX2_house 2 (some .int) 1 := ⟨⟨qi_X2_house, qs_X2_house, qz_X2, qc_X2_house⟩, rfl, mh_X2.1, mh_X2.2, pd_1⟩
theorem pk_X2_isSound : PkV RX2 yX2_isSound cX2_isSound 3 (some .boolean) 0 := ⟨⟨qi_X2_isSound, qs_X2_isSound, qz_X2, qc_X2_isSound⟩, rfl, mh_X2.1, mh_X2.2, pd_27⟩
theorem pk_X2_mixCursors : PkV RX2 yX2_mixCursors cX2_mixCursors 7 (some .long) 1 := ⟨⟨qi_X2_mixCursors, qs_X2_mixCursors, qz_X2, qc_X2_mixCursors⟩, rfl, mh_X2.1, mh_X2.2, pd_42⟩
theorem pk_X2_mixRows : PkV RX2 yX2_mixRows cX2_mixRows 7 (some .long) 1 := ⟨⟨qi_X2_mixRows, qs_X2_mixRows, qz_X2, qc_X2_mixRows⟩, rfl, mh_X2.1, mh_X2.2, pd_42⟩
theorem pk_X2_mixWindows : PkV RX2 yX2_mixWindows cX2_mixWindows 7 (some .long) 1 := ⟨⟨qi_X2_mixWindows, qs_X2_mixWindows, qz_X2, qc_X2_mixWindows⟩, rfl, mh_X2.1, mh_X2.2, pd_42⟩
set_option maxRecDepth 100000 in
set_option maxHeartbeats 800000 in
theorem C_digest {l : Launch} {D : va_G} {cy : Nat → ClassId} {X : (Nat → Prop) → State → Heap → Prop} {aK aV : Nat → Nat} {tO tT : Nat} {gO gT : Nat → Int32} {a f : Nat → Nat → Nat} {r : Nat → Nat → Int32} {kn : Int32} {E : va_W} (hX : EnvS X cy aK aV tO tT gO gT) (hC : CInv f) (hR : ∀ i q, i < 4 → q < f 4 i → -99 ≤ (r (f 0 i) (f 3 i + q)).toInt ∧ (r (f 0 i) (f 3 i + q)).toInt ≤ 99) : Cm l D cy X yX2_digest cX2_digest 5 (some .long) (rmk 8 10 436 450) [.ref (a 0 0)] (WC cy a f r kn ++ E) (fun v1 w1 => v1 = some (.long (dgF f r kn)) ∧ ∃ f' r', w1 = WC cy a f' r' kn ++ E ∧ Scr f r f' r') (fun _ => False) := by
  refine Cm.of [some (.ref (a 0 0)), none, none, none, none] pn_X2 rfl (Nat.le_of_ble_eq_true rfl) ?_
  intro p e s m args below meth c A C hE hr hnt hn
  have K96 : ∀ (z1 z0 : Int64), z0 = mxF (hhF f kn) 4 0 7807 → z1 = mpF f r 4 0 (mcF f 3 0 (mwF f r 4 0 (mrF f r 4 0 z0))) → vC p l e (rmk 8 10 436 450) s m args below meth c D A (vx_MQ below (vG (fun v1 w1 => v1 = some (.long (dgF f r kn)) ∧ ∃ f' r', w1 = WC cy a f' r' kn ++ E ∧ Scr f r f' r') D vwCl A) (vGX (fun _ => False) D vwCl (WC cy a f r kn ++ E) A) args s (rmk 8 10 436 450).cells (rmk 8 10 436 450).slots A) 5 10 436 (WC cy a f r kn ++ E) [some (.ref (a 0 0)), some (.long z1), none, none, none] 96 [] := by
    intro z1 z0 hz0 hz1
    subst hz1
    subst hz0
    refine r_lload_n C dX2_digest_96 rfl ?_
    refine r_aload_n C dX2_digest_97 rfl ?_
    refine c_V (st := [.long (mpF f r 4 0 (mcF f 3 0 (mwF f r 4 0 (mrF f r 4 0 (mxF (hhF f kn) 4 0 7807)))))]) hX.1.1.stb C hE (K_isSound (a := a) (f := f) (r := r) (kn := kn) hX.1.1 hC hR) pk_X2_isSound qm_X2_271 0 6 rfl rfl wc_0 rfl rfl (Nat.le_of_ble_eq_true rfl) dX2_digest_98 ⟨Nat.le_of_ble_eq_true rfl, Nat.le_of_ble_eq_true rfl⟩ ⟨Nat.le_of_ble_eq_true rfl, Nat.le_of_ble_eq_true rfl⟩ (fun v9 w9 h9 => ?_) (fun _ h9 => h9.elim)
    obtain ⟨rfl, f1, r1, rfl, hs1⟩ := h9
    refine r_ifN_eq (a := 1) (tgt := 108) C (by first | omega | (simp [up2, *]; done) | (simp [up2, *]; omega) | (simp only [up2_eq]; omega) | (split <;> omega)) dX2_digest_101 (by decide) (fun h101_1 => ?_) (fun h101_1 => ?_)
    · exact absurd h101_1 (by first | omega | (simp [up2, *]; done) | (simp [up2, *]; omega) | (simp only [up2_eq]; omega) | (split <;> omega))
    · skip
      refine r_lconst (v := 1) C dX2_digest_104 (by decide) ?_
      refine r_goto (tgt := 109) C dX2_digest_105 (by decide) ?_
      refine d_S (st := []) hX.1.1.stb C hE (C_mix (f := f1) (r := r1) (kn := kn) (u := (mpF f r 4 0 (mcF f 3 0 (mwF f r 4 0 (mrF f r 4 0 (mxF (hhF f kn) 4 0 7807)))))) (v := 1) hX.1.1 ) pk_X2_mix qm_X2_257 rfl rfl (Nat.le_of_ble_eq_true rfl) dX2_digest_109 ⟨Nat.le_of_ble_eq_true rfl, Nat.le_of_ble_eq_true rfl⟩ ⟨by first | (simp only [rmk, rmz]; omega) | (simp only [rmk, rmz]; done) | omega, by first | (simp only [rmk, rmz]; omega) | (simp only [rmk, rmz]; done) | omega⟩ ?_
      exact r_lret C hr dX2_digest_112 ⟨rfl, f1, r1, rfl, hs1⟩ (by first | (simp only [rmk, rmz]; omega) | (simp only [rmk, rmz]; done) | omega) (by first | (simp only [rmk, rmz]; omega) | (simp only [rmk, rmz]; done) | omega)
  have K28 : ∀ (z0 : Int64), z0 = mxF (hhF f kn) 4 0 7807 → vC p l e (rmk 8 10 436 450) s m args below meth c D A (vx_MQ below (vG (fun v1 w1 => v1 = some (.long (dgF f r kn)) ∧ ∃ f' r', w1 = WC cy a f' r' kn ++ E ∧ Scr f r f' r') D vwCl A) (vGX (fun _ => False) D vwCl (WC cy a f r kn ++ E) A) args s (rmk 8 10 436 450).cells (rmk 8 10 436 450).slots A) 5 0 0 (WC cy a f r kn ++ E) [some (.ref (a 0 0)), some (.long z0), none, none, none] 28 [] := by
    intro z0 hz0
    refine r_aload_n C dX2_digest_28 rfl ?_
    refine r_lload_n C dX2_digest_29 rfl ?_
    refine c_V (st := []) hX.stb C hE (C_mixRows (a := a) (f := f) (r := r) (kn := kn) (u := z0) hX hC hR) pk_X2_mixRows qm_X2_261 0 6 rfl rfl wc_0 rfl rfl (Nat.le_of_ble_eq_true rfl) dX2_digest_30 ⟨Nat.le_of_ble_eq_true rfl, Nat.le_of_ble_eq_true rfl⟩ ⟨Nat.le_of_ble_eq_true rfl, Nat.le_of_ble_eq_true rfl⟩ (fun v9 w9 h9 => ?_) (fun _ h9 => h9.elim)
    obtain ⟨rfl, rfl⟩ := h9
    refine r_widen (k := 10) (n := 436) (Nat.le_of_ble_eq_true rfl) (Nat.le_of_ble_eq_true rfl) ?_
    refine r_lstore_n C dX2_digest_33 (by decide) rfl ?_
    refine r_aload_n C dX2_digest_34 rfl ?_
    refine r_lload_n C dX2_digest_35 rfl ?_
    refine d_V (st := []) hX.1.1.stb C hE (C_mixWindows (f := f) (r := r) (kn := kn) (u := (mrF f r 4 0 z0)) hX.1.1 hC) pk_X2_mixWindows qm_X2_265 0 6 rfl rfl wc_0 rfl rfl (Nat.le_of_ble_eq_true rfl) dX2_digest_36 ⟨Nat.le_of_ble_eq_true rfl, Nat.le_of_ble_eq_true rfl⟩ ⟨by first | (simp only [rmk, rmz]; omega) | (simp only [rmk, rmz]; done) | omega, by first | (simp only [rmk, rmz]; omega) | (simp only [rmk, rmz]; done) | omega⟩ ?_
    refine r_lstore_n C dX2_digest_39 (by decide) rfl ?_
    refine r_aload_n C dX2_digest_40 rfl ?_
    refine r_lload_n C dX2_digest_41 rfl ?_
    refine d_V (st := []) hX.1.1.stb C hE (C_mixCursors (f := f) (r := r) (kn := kn) (u := (mwF f r 4 0 (mrF f r 4 0 z0))) hX.1.1 hC) pk_X2_mixCursors qm_X2_268 0 6 rfl rfl wc_0 rfl rfl (Nat.le_of_ble_eq_true rfl) dX2_digest_42 ⟨Nat.le_of_ble_eq_true rfl, Nat.le_of_ble_eq_true rfl⟩ ⟨by first | (simp only [rmk, rmz]; omega) | (simp only [rmk, rmz]; done) | omega, by first | (simp only [rmk, rmz]; omega) | (simp only [rmk, rmz]; done) | omega⟩ ?_
    refine r_lstore_n C dX2_digest_45 (by decide) rfl ?_
    refine r_iconst (v := (nI 0)) C dX2_digest_46 (by decide) ?_
    refine r_istore_n C dX2_digest_47 (by decide) rfl ?_
    have L48 : ∀ (d : Nat) (i : Nat) (z : Int64), (ht : i + d = 4) → (hF : mpF f r d i z = mpF f r 4 0 (mcF f 3 0 (mwF f r 4 0 (mrF f r 4 0 z0)))) → vC p l e (rmk 8 10 436 450) s m args below meth c D A (vx_MQ below (vG (fun v1 w1 => v1 = some (.long (dgF f r kn)) ∧ ∃ f' r', w1 = WC cy a f' r' kn ++ E ∧ Scr f r f' r') D vwCl A) (vGX (fun _ => False) D vwCl (WC cy a f r kn ++ E) A) args s (rmk 8 10 436 450).cells (rmk 8 10 436 450).slots A) 5 10 436 (WC cy a f r kn ++ E) [some (.ref (a 0 0)), some (.long z), none, some (.int (nI i)), none] 48 [] := by
      intro d
      induction d with
      | zero =>
        intro i z ht hF
        refine r_iload_n C dX2_digest_48 rfl ?_
        refine r_iconst (v := (nI 4)) C dX2_digest_49 (by decide) ?_
        refine r_icN_ge (a := i) (b := 4) (tgt := 96) C (by first | omega | (simp [up2, *]; done) | (simp [up2, *]; omega) | (simp only [up2_eq]; omega) | (split <;> omega)) (by first | omega | (simp [up2, *]; done) | (simp [up2, *]; omega) | (simp only [up2_eq]; omega) | (split <;> omega)) dX2_digest_50 (by decide) (fun h50_2 => ?_) (fun h50_2 => ?_)
        · first
          | exfalso; first | omega | contradiction
          | skip
            refine r_drop 3 ?_
            exact K96 z z0 hz0 (by first | exact hF | (exfalso; omega))
        · first
          | exfalso; first | omega | contradiction
          | skip
            refine r_iconst (v := (nI 0)) C dX2_digest_53 (by decide) ?_
            refine r_istore C dX2_digest_54 (by decide) rfl ?_
            have L56 : ∀ (d : Nat) (j : Nat) (y : Int64), (hs : j + d = 4) → (hG : mxF (poV f r i) d j y = mxF (poV f r i) 4 0 z) → vC p l e (rmk 8 10 436 450) s m args below meth c D A (vx_MQ below (vG (fun v1 w1 => v1 = some (.long (dgF f r kn)) ∧ ∃ f' r', w1 = WC cy a f' r' kn ++ E ∧ Scr f r f' r') D vwCl A) (vGX (fun _ => False) D vwCl (WC cy a f r kn ++ E) A) args s (rmk 8 10 436 450).cells (rmk 8 10 436 450).slots A) 5 10 436 (WC cy a f r kn ++ E) [some (.ref (a 0 0)), some (.long y), none, some (.int (nI i)), some (.int (nI j))] 56 [] := by
              intro d
              induction d with
              | zero =>
                intro j y hs hG
                refine r_iload C dX2_digest_56 rfl ?_
                refine r_iconst (v := (nI 4)) C dX2_digest_58 (by decide) ?_
                refine r_icN_ge (a := j) (b := 4) (tgt := 90) C (by first | omega | (simp [up2, *]; done) | (simp [up2, *]; omega) | (simp only [up2_eq]; omega) | (split <;> omega)) (by first | omega | (simp [up2, *]; done) | (simp [up2, *]; omega) | (simp only [up2_eq]; omega) | (split <;> omega)) dX2_digest_59 (by decide) (fun h59_3 => ?_) (fun h59_3 => ?_)
                · first
                  | exfalso; first | omega | contradiction
                  | skip
                    refine r_iincN C dX2_digest_90 rfl (by decide) rfl ?_
                    refine r_goto (tgt := 48) C dX2_digest_93 (by decide) ?_
                    refine r_drop 4 ?_
                    exact (Nat.not_lt_zero _ (by omega)).elim
                · first
                  | exfalso; first | omega | contradiction
                  | skip
                    obtain ⟨hr0, -, -, hr3, hr4, -⟩ := hC.rw (i := i) (by omega)
                    obtain ⟨hs0, -, -, hs3, hs4, -⟩ := hC.rw (i := j) (by omega)
                    refine r_lload_n C dX2_digest_62 rfl ?_
                    refine r_aload_n C dX2_digest_63 rfl ?_
                    refine s_get C 0 (by decide) qf_X2_11 rfl rfl dX2_digest_64 ?_
                    refine r_iload_n C dX2_digest_67 rfl ?_
                    refine s_parts C (by first | omega | (simp [up2, *]; done) | (simp [up2, *]; omega) | (simp only [up2_eq]; omega) | (split <;> omega)) dX2_digest_68 ?_
                    refine r_aload_n C dX2_digest_69 rfl ?_
                    refine s_get C 0 (by decide) qf_X2_11 rfl rfl dX2_digest_70 ?_
                    refine r_iload C dX2_digest_73 rfl ?_
                    refine s_parts C (by first | omega | (simp [up2, *]; done) | (simp [up2, *]; omega) | (simp only [up2_eq]; omega) | (split <;> omega)) dX2_digest_75 ?_
                    refine d_V (st := [.long y]) hX.1.1.stb C hE (C_placeOfAll (f := f) (r := r) (kn := kn) (i := i) (j := j) hX.1.1 (by omega) (by omega) (by omega) (by omega) (by omega) (by omega)) pk_X1_placeOfAll qm_X2_122 (3 + i) 5 rfl rfl (wc_p (by first | omega | (simp [up2, *]; done) | (simp [up2, *]; omega) | (simp only [up2_eq]; omega) | (split <;> omega))) rfl rfl (Nat.le_of_ble_eq_true rfl) dX2_digest_76 ⟨Nat.le_of_ble_eq_true rfl, Nat.le_of_ble_eq_true rfl⟩ ⟨by first | (simp only [rmk, rmz]; omega) | (simp only [rmk, rmz]; done) | omega, by first | (simp only [rmk, rmz]; omega) | (simp only [rmk, rmz]; done) | omega⟩ ?_
                    refine r_i2l C dX2_digest_79 ?_
                    refine d_S (st := []) hX.1.1.stb C hE (C_mix (f := f) (r := r) (kn := kn) (u := y) (v := (((poV f r i j)).toInt64)) hX.1.1 ) pk_X2_mix qm_X2_257 rfl rfl (Nat.le_of_ble_eq_true rfl) dX2_digest_80 ⟨Nat.le_of_ble_eq_true rfl, Nat.le_of_ble_eq_true rfl⟩ ⟨by first | (simp only [rmk, rmz]; omega) | (simp only [rmk, rmz]; done) | omega, by first | (simp only [rmk, rmz]; omega) | (simp only [rmk, rmz]; done) | omega⟩ ?_
                    refine r_lstore_n C dX2_digest_83 (by decide) rfl ?_
                    refine r_iincN C dX2_digest_84 rfl (by decide) rfl ?_
                    refine r_goto (tgt := 56) C dX2_digest_87 (by decide) ?_
                    exact (Nat.not_lt_zero _ (by omega)).elim
              | succ d ih_L56 =>
                intro j y hs hG
                refine r_iload C dX2_digest_56 rfl ?_
                refine r_iconst (v := (nI 4)) C dX2_digest_58 (by decide) ?_
                refine r_icN_ge (a := j) (b := 4) (tgt := 90) C (by first | omega | (simp [up2, *]; done) | (simp [up2, *]; omega) | (simp only [up2_eq]; omega) | (split <;> omega)) (by first | omega | (simp [up2, *]; done) | (simp [up2, *]; omega) | (simp only [up2_eq]; omega) | (split <;> omega)) dX2_digest_59 (by decide) (fun h59_4 => ?_) (fun h59_4 => ?_)
                · first
                  | exfalso; first | omega | contradiction
                  | skip
                    refine r_iincN C dX2_digest_90 rfl (by decide) rfl ?_
                    refine r_goto (tgt := 48) C dX2_digest_93 (by decide) ?_
                    refine r_drop 4 ?_
                    exact (Nat.not_lt_zero _ (by omega)).elim
                · first
                  | exfalso; first | omega | contradiction
                  | skip
                    obtain ⟨hr0, -, -, hr3, hr4, -⟩ := hC.rw (i := i) (by omega)
                    obtain ⟨hs0, -, -, hs3, hs4, -⟩ := hC.rw (i := j) (by omega)
                    refine r_lload_n C dX2_digest_62 rfl ?_
                    refine r_aload_n C dX2_digest_63 rfl ?_
                    refine s_get C 0 (by decide) qf_X2_11 rfl rfl dX2_digest_64 ?_
                    refine r_iload_n C dX2_digest_67 rfl ?_
                    refine s_parts C (by first | omega | (simp [up2, *]; done) | (simp [up2, *]; omega) | (simp only [up2_eq]; omega) | (split <;> omega)) dX2_digest_68 ?_
                    refine r_aload_n C dX2_digest_69 rfl ?_
                    refine s_get C 0 (by decide) qf_X2_11 rfl rfl dX2_digest_70 ?_
                    refine r_iload C dX2_digest_73 rfl ?_
                    refine s_parts C (by first | omega | (simp [up2, *]; done) | (simp [up2, *]; omega) | (simp only [up2_eq]; omega) | (split <;> omega)) dX2_digest_75 ?_
                    refine d_V (st := [.long y]) hX.1.1.stb C hE (C_placeOfAll (f := f) (r := r) (kn := kn) (i := i) (j := j) hX.1.1 (by omega) (by omega) (by omega) (by omega) (by omega) (by omega)) pk_X1_placeOfAll qm_X2_122 (3 + i) 5 rfl rfl (wc_p (by first | omega | (simp [up2, *]; done) | (simp [up2, *]; omega) | (simp only [up2_eq]; omega) | (split <;> omega))) rfl rfl (Nat.le_of_ble_eq_true rfl) dX2_digest_76 ⟨Nat.le_of_ble_eq_true rfl, Nat.le_of_ble_eq_true rfl⟩ ⟨by first | (simp only [rmk, rmz]; omega) | (simp only [rmk, rmz]; done) | omega, by first | (simp only [rmk, rmz]; omega) | (simp only [rmk, rmz]; done) | omega⟩ ?_
                    refine r_i2l C dX2_digest_79 ?_
                    refine d_S (st := []) hX.1.1.stb C hE (C_mix (f := f) (r := r) (kn := kn) (u := y) (v := (((poV f r i j)).toInt64)) hX.1.1 ) pk_X2_mix qm_X2_257 rfl rfl (Nat.le_of_ble_eq_true rfl) dX2_digest_80 ⟨Nat.le_of_ble_eq_true rfl, Nat.le_of_ble_eq_true rfl⟩ ⟨by first | (simp only [rmk, rmz]; omega) | (simp only [rmk, rmz]; done) | omega, by first | (simp only [rmk, rmz]; omega) | (simp only [rmk, rmz]; done) | omega⟩ ?_
                    refine r_lstore_n C dX2_digest_83 (by decide) rfl ?_
                    refine r_iincN C dX2_digest_84 rfl (by decide) rfl ?_
                    refine r_goto (tgt := 56) C dX2_digest_87 (by decide) ?_
                    exact ih_L56 (j + 1) _ (by omega) (by rw [← hG]; rfl)
            exact L56 4 0 z (by omega) rfl
      | succ d ih_L48 =>
        intro i z ht hF
        refine r_iload_n C dX2_digest_48 rfl ?_
        refine r_iconst (v := (nI 4)) C dX2_digest_49 (by decide) ?_
        refine r_icN_ge (a := i) (b := 4) (tgt := 96) C (by first | omega | (simp [up2, *]; done) | (simp [up2, *]; omega) | (simp only [up2_eq]; omega) | (split <;> omega)) (by first | omega | (simp [up2, *]; done) | (simp [up2, *]; omega) | (simp only [up2_eq]; omega) | (split <;> omega)) dX2_digest_50 (by decide) (fun h50_5 => ?_) (fun h50_5 => ?_)
        · first
          | exfalso; first | omega | contradiction
          | skip
            refine r_drop 3 ?_
            exact K96 z z0 hz0 (by first | exact hF | (exfalso; omega))
        · first
          | exfalso; first | omega | contradiction
          | skip
            refine r_iconst (v := (nI 0)) C dX2_digest_53 (by decide) ?_
            refine r_istore C dX2_digest_54 (by decide) rfl ?_
            have L56 : ∀ (d : Nat) (j : Nat) (y : Int64), (hs : j + d = 4) → (hG : mxF (poV f r i) d j y = mxF (poV f r i) 4 0 z) → vC p l e (rmk 8 10 436 450) s m args below meth c D A (vx_MQ below (vG (fun v1 w1 => v1 = some (.long (dgF f r kn)) ∧ ∃ f' r', w1 = WC cy a f' r' kn ++ E ∧ Scr f r f' r') D vwCl A) (vGX (fun _ => False) D vwCl (WC cy a f r kn ++ E) A) args s (rmk 8 10 436 450).cells (rmk 8 10 436 450).slots A) 5 10 436 (WC cy a f r kn ++ E) [some (.ref (a 0 0)), some (.long y), none, some (.int (nI i)), some (.int (nI j))] 56 [] := by
              intro d
              induction d with
              | zero =>
                intro j y hs hG
                refine r_iload C dX2_digest_56 rfl ?_
                refine r_iconst (v := (nI 4)) C dX2_digest_58 (by decide) ?_
                refine r_icN_ge (a := j) (b := 4) (tgt := 90) C (by first | omega | (simp [up2, *]; done) | (simp [up2, *]; omega) | (simp only [up2_eq]; omega) | (split <;> omega)) (by first | omega | (simp [up2, *]; done) | (simp [up2, *]; omega) | (simp only [up2_eq]; omega) | (split <;> omega)) dX2_digest_59 (by decide) (fun h59_6 => ?_) (fun h59_6 => ?_)
                · first
                  | exfalso; first | omega | contradiction
                  | skip
                    refine r_iincN C dX2_digest_90 rfl (by decide) rfl ?_
                    refine r_goto (tgt := 48) C dX2_digest_93 (by decide) ?_
                    refine r_drop 4 ?_
                    exact ih_L48 (i + 1) _ (by omega) (by rw [← hF]; exact congrArg (mpF f r _ (i + 1)) hG)
                · first
                  | exfalso; first | omega | contradiction
                  | skip
                    obtain ⟨hr0, -, -, hr3, hr4, -⟩ := hC.rw (i := i) (by omega)
                    obtain ⟨hs0, -, -, hs3, hs4, -⟩ := hC.rw (i := j) (by omega)
                    refine r_lload_n C dX2_digest_62 rfl ?_
                    refine r_aload_n C dX2_digest_63 rfl ?_
                    refine s_get C 0 (by decide) qf_X2_11 rfl rfl dX2_digest_64 ?_
                    refine r_iload_n C dX2_digest_67 rfl ?_
                    refine s_parts C (by first | omega | (simp [up2, *]; done) | (simp [up2, *]; omega) | (simp only [up2_eq]; omega) | (split <;> omega)) dX2_digest_68 ?_
                    refine r_aload_n C dX2_digest_69 rfl ?_
                    refine s_get C 0 (by decide) qf_X2_11 rfl rfl dX2_digest_70 ?_
                    refine r_iload C dX2_digest_73 rfl ?_
                    refine s_parts C (by first | omega | (simp [up2, *]; done) | (simp [up2, *]; omega) | (simp only [up2_eq]; omega) | (split <;> omega)) dX2_digest_75 ?_
                    refine d_V (st := [.long y]) hX.1.1.stb C hE (C_placeOfAll (f := f) (r := r) (kn := kn) (i := i) (j := j) hX.1.1 (by omega) (by omega) (by omega) (by omega) (by omega) (by omega)) pk_X1_placeOfAll qm_X2_122 (3 + i) 5 rfl rfl (wc_p (by first | omega | (simp [up2, *]; done) | (simp [up2, *]; omega) | (simp only [up2_eq]; omega) | (split <;> omega))) rfl rfl (Nat.le_of_ble_eq_true rfl) dX2_digest_76 ⟨Nat.le_of_ble_eq_true rfl, Nat.le_of_ble_eq_true rfl⟩ ⟨by first | (simp only [rmk, rmz]; omega) | (simp only [rmk, rmz]; done) | omega, by first | (simp only [rmk, rmz]; omega) | (simp only [rmk, rmz]; done) | omega⟩ ?_
                    refine r_i2l C dX2_digest_79 ?_
                    refine d_S (st := []) hX.1.1.stb C hE (C_mix (f := f) (r := r) (kn := kn) (u := y) (v := (((poV f r i j)).toInt64)) hX.1.1 ) pk_X2_mix qm_X2_257 rfl rfl (Nat.le_of_ble_eq_true rfl) dX2_digest_80 ⟨Nat.le_of_ble_eq_true rfl, Nat.le_of_ble_eq_true rfl⟩ ⟨by first | (simp only [rmk, rmz]; omega) | (simp only [rmk, rmz]; done) | omega, by first | (simp only [rmk, rmz]; omega) | (simp only [rmk, rmz]; done) | omega⟩ ?_
                    refine r_lstore_n C dX2_digest_83 (by decide) rfl ?_
                    refine r_iincN C dX2_digest_84 rfl (by decide) rfl ?_
                    refine r_goto (tgt := 56) C dX2_digest_87 (by decide) ?_
                    exact (Nat.not_lt_zero _ (by omega)).elim
              | succ d ih_L56 =>
                intro j y hs hG
                refine r_iload C dX2_digest_56 rfl ?_
                refine r_iconst (v := (nI 4)) C dX2_digest_58 (by decide) ?_
                refine r_icN_ge (a := j) (b := 4) (tgt := 90) C (by first | omega | (simp [up2, *]; done) | (simp [up2, *]; omega) | (simp only [up2_eq]; omega) | (split <;> omega)) (by first | omega | (simp [up2, *]; done) | (simp [up2, *]; omega) | (simp only [up2_eq]; omega) | (split <;> omega)) dX2_digest_59 (by decide) (fun h59_7 => ?_) (fun h59_7 => ?_)
                · first
                  | exfalso; first | omega | contradiction
                  | skip
                    refine r_iincN C dX2_digest_90 rfl (by decide) rfl ?_
                    refine r_goto (tgt := 48) C dX2_digest_93 (by decide) ?_
                    refine r_drop 4 ?_
                    exact ih_L48 (i + 1) _ (by omega) (by rw [← hF]; exact congrArg (mpF f r _ (i + 1)) hG)
                · first
                  | exfalso; first | omega | contradiction
                  | skip
                    obtain ⟨hr0, -, -, hr3, hr4, -⟩ := hC.rw (i := i) (by omega)
                    obtain ⟨hs0, -, -, hs3, hs4, -⟩ := hC.rw (i := j) (by omega)
                    refine r_lload_n C dX2_digest_62 rfl ?_
                    refine r_aload_n C dX2_digest_63 rfl ?_
                    refine s_get C 0 (by decide) qf_X2_11 rfl rfl dX2_digest_64 ?_
                    refine r_iload_n C dX2_digest_67 rfl ?_
                    refine s_parts C (by first | omega | (simp [up2, *]; done) | (simp [up2, *]; omega) | (simp only [up2_eq]; omega) | (split <;> omega)) dX2_digest_68 ?_
                    refine r_aload_n C dX2_digest_69 rfl ?_
                    refine s_get C 0 (by decide) qf_X2_11 rfl rfl dX2_digest_70 ?_
                    refine r_iload C dX2_digest_73 rfl ?_
                    refine s_parts C (by first | omega | (simp [up2, *]; done) | (simp [up2, *]; omega) | (simp only [up2_eq]; omega) | (split <;> omega)) dX2_digest_75 ?_
                    refine d_V (st := [.long y]) hX.1.1.stb C hE (C_placeOfAll (f := f) (r := r) (kn := kn) (i := i) (j := j) hX.1.1 (by omega) (by omega) (by omega) (by omega) (by omega) (by omega)) pk_X1_placeOfAll qm_X2_122 (3 + i) 5 rfl rfl (wc_p (by first | omega | (simp [up2, *]; done) | (simp [up2, *]; omega) | (simp only [up2_eq]; omega) | (split <;> omega))) rfl rfl (Nat.le_of_ble_eq_true rfl) dX2_digest_76 ⟨Nat.le_of_ble_eq_true rfl, Nat.le_of_ble_eq_true rfl⟩ ⟨by first | (simp only [rmk, rmz]; omega) | (simp only [rmk, rmz]; done) | omega, by first | (simp only [rmk, rmz]; omega) | (simp only [rmk, rmz]; done) | omega⟩ ?_
                    refine r_i2l C dX2_digest_79 ?_
                    refine d_S (st := []) hX.1.1.stb C hE (C_mix (f := f) (r := r) (kn := kn) (u := y) (v := (((poV f r i j)).toInt64)) hX.1.1 ) pk_X2_mix qm_X2_257 rfl rfl (Nat.le_of_ble_eq_true rfl) dX2_digest_80 ⟨Nat.le_of_ble_eq_true rfl, Nat.le_of_ble_eq_true rfl⟩ ⟨by first | (simp only [rmk, rmz]; omega) | (simp only [rmk, rmz]; done) | omega, by first | (simp only [rmk, rmz]; omega) | (simp only [rmk, rmz]; done) | omega⟩ ?_
                    refine r_lstore_n C dX2_digest_83 (by decide) rfl ?_
                    refine r_iincN C dX2_digest_84 rfl (by decide) rfl ?_
                    refine r_goto (tgt := 56) C dX2_digest_87 (by decide) ?_
                    exact ih_L56 (j + 1) _ (by omega) (by rw [← hG]; rfl)
            exact L56 4 0 z (by omega) rfl
    exact L48 4 0 _ (by omega) rfl
  refine r_ldc2 (v := 7807) C ql_X2_252 dX2_digest_0 ?_
  refine r_lstore_n C dX2_digest_3 (by decide) rfl ?_
  refine r_iconst (v := (nI 0)) C dX2_digest_4 (by decide) ?_
  refine r_istore_n C dX2_digest_5 (by decide) rfl ?_
  have L6 : ∀ (d : Nat) (t : Nat) (z : Int64), (ht : t + d = 4) → (hF : mxF (hhF f kn) d t z = mxF (hhF f kn) 4 0 7807) → vC p l e (rmk 8 10 436 450) s m args below meth c D A (vx_MQ below (vG (fun v1 w1 => v1 = some (.long (dgF f r kn)) ∧ ∃ f' r', w1 = WC cy a f' r' kn ++ E ∧ Scr f r f' r') D vwCl A) (vGX (fun _ => False) D vwCl (WC cy a f r kn ++ E) A) args s (rmk 8 10 436 450).cells (rmk 8 10 436 450).slots A) 5 0 0 (WC cy a f r kn ++ E) [some (.ref (a 0 0)), some (.long z), none, some (.int (nI t)), none] 6 [] := by
    intro d
    induction d with
    | zero =>
      intro t z ht hF
      refine r_iload_n C dX2_digest_6 rfl ?_
      refine r_iconst (v := (nI 4)) C dX2_digest_7 (by decide) ?_
      refine r_icN_ge (a := t) (b := 4) (tgt := 28) C (by first | omega | (simp [up2, *]; done) | (simp [up2, *]; omega) | (simp only [up2_eq]; omega) | (split <;> omega)) (by first | omega | (simp [up2, *]; done) | (simp [up2, *]; omega) | (simp only [up2_eq]; omega) | (split <;> omega)) dX2_digest_8 (by decide) (fun h8_8 => ?_) (fun h8_8 => ?_)
      · first
        | exfalso; first | omega | contradiction
        | skip
          skip
          refine r_drop 3 ?_
          exact K28 z (by first | exact hF | (exfalso; omega))
      · first
        | exfalso; first | omega | contradiction
        | skip
          refine r_lload_n C dX2_digest_11 rfl ?_
          refine r_aload_n C dX2_digest_12 rfl ?_
          refine r_iload_n C dX2_digest_13 rfl ?_
          refine d_V (st := [.long z]) hX.1.1.stb C hE (C_house_all (f := f) (r := r) (kn := kn) (q0 := t) hX.1.1 hC (by omega)) pk_X2_house qm_X2_254 0 6 rfl rfl wc_0 rfl rfl (Nat.le_of_ble_eq_true rfl) dX2_digest_14 ⟨Nat.le_of_ble_eq_true rfl, Nat.le_of_ble_eq_true rfl⟩ ⟨by first | (simp only [rmk, rmz]; omega) | (simp only [rmk, rmz]; done) | omega, by first | (simp only [rmk, rmz]; omega) | (simp only [rmk, rmz]; done) | omega⟩ ?_
          refine r_i2l C dX2_digest_17 ?_
          refine d_S (st := []) hX.1.1.stb C hE (C_mix (f := f) (r := r) (kn := kn) (u := z) (v := (((hhF f kn t)).toInt64)) hX.1.1 ) pk_X2_mix qm_X2_257 rfl rfl (Nat.le_of_ble_eq_true rfl) dX2_digest_18 ⟨Nat.le_of_ble_eq_true rfl, Nat.le_of_ble_eq_true rfl⟩ ⟨by first | (simp only [rmk, rmz]; omega) | (simp only [rmk, rmz]; done) | omega, by first | (simp only [rmk, rmz]; omega) | (simp only [rmk, rmz]; done) | omega⟩ ?_
          refine r_lstore_n C dX2_digest_21 (by decide) rfl ?_
          refine r_iincN C dX2_digest_22 rfl (by decide) rfl ?_
          refine r_goto (tgt := 6) C dX2_digest_25 (by decide) ?_
          exact (Nat.not_lt_zero _ (by omega)).elim
    | succ d ih_L6 =>
      intro t z ht hF
      refine r_iload_n C dX2_digest_6 rfl ?_
      refine r_iconst (v := (nI 4)) C dX2_digest_7 (by decide) ?_
      refine r_icN_ge (a := t) (b := 4) (tgt := 28) C (by first | omega | (simp [up2, *]; done) | (simp [up2, *]; omega) | (simp only [up2_eq]; omega) | (split <;> omega)) (by first | omega | (simp [up2, *]; done) | (simp [up2, *]; omega) | (simp only [up2_eq]; omega) | (split <;> omega)) dX2_digest_8 (by decide) (fun h8_9 => ?_) (fun h8_9 => ?_)
      · first
        | exfalso; first | omega | contradiction
        | skip
          skip
          refine r_drop 3 ?_
          exact K28 z (by first | exact hF | (exfalso; omega))
      · first
        | exfalso; first | omega | contradiction
        | skip
          refine r_lload_n C dX2_digest_11 rfl ?_
          refine r_aload_n C dX2_digest_12 rfl ?_
          refine r_iload_n C dX2_digest_13 rfl ?_
          refine d_V (st := [.long z]) hX.1.1.stb C hE (C_house_all (f := f) (r := r) (kn := kn) (q0 := t) hX.1.1 hC (by omega)) pk_X2_house qm_X2_254 0 6 rfl rfl wc_0 rfl rfl (Nat.le_of_ble_eq_true rfl) dX2_digest_14 ⟨Nat.le_of_ble_eq_true rfl, Nat.le_of_ble_eq_true rfl⟩ ⟨by first | (simp only [rmk, rmz]; omega) | (simp only [rmk, rmz]; done) | omega, by first | (simp only [rmk, rmz]; omega) | (simp only [rmk, rmz]; done) | omega⟩ ?_
          refine r_i2l C dX2_digest_17 ?_
          refine d_S (st := []) hX.1.1.stb C hE (C_mix (f := f) (r := r) (kn := kn) (u := z) (v := (((hhF f kn t)).toInt64)) hX.1.1 ) pk_X2_mix qm_X2_257 rfl rfl (Nat.le_of_ble_eq_true rfl) dX2_digest_18 ⟨Nat.le_of_ble_eq_true rfl, Nat.le_of_ble_eq_true rfl⟩ ⟨by first | (simp only [rmk, rmz]; omega) | (simp only [rmk, rmz]; done) | omega, by first | (simp only [rmk, rmz]; omega) | (simp only [rmk, rmz]; done) | omega⟩ ?_
          refine r_lstore_n C dX2_digest_21 (by decide) rfl ?_
          refine r_iincN C dX2_digest_22 rfl (by decide) rfl ?_
          refine r_goto (tgt := 6) C dX2_digest_25 (by decide) ?_
          exact ih_L6 (t + 1) _ (by omega) (by rw [← hF]; rfl)
  exact L6 4 0 7807 (by omega) rfl
end PT_63
/-! ===== 64.new2 -/
section PT_64
/-! ROWS FOR THE CONSTRUCTORS -/
/-- what the constructors need beside: arrays of these can be made -/
def AOAI (U : State) : Prop := (Cond.arrayOver (.array .int)).before #[] U = true
def EnvT (X : (Nat → Prop) → State → Heap → Prop) (cy : Nat → ClassId) (aK aV : Nat → Nat) (tO tT : Nat) (gO gT : Nat → Int32) : Prop := EnvS X cy aK aV tO tT gO gT ∧ ∀ (A : Nat → Prop) (U : State) (H : Heap), X A U H → va_AO RX0 U ∧ va_AO RX1 U ∧ AOAI U
theorem fs0_X0 : ∀ j, j < 4 → defaultValue (tyX0 j) = vp_V [.int (nI 0), .int (nI 0), .int (nI 0), .int (nI 0)] j := fun j hj => by
  rcases (show j = 0 ∨ j = 1 ∨ j = 2 ∨ j = 3 by omega) with rfl | rfl | rfl | rfl <;> rfl
theorem fs0_X1 : ∀ j, j < 6 → defaultValue (tyX1 j) = vp_V [.null, .int (nI 0), .int (nI 0), .int (nI 0), .int (nI 0), .int (nI 0)] j := fun j hj => by
  rcases (show j = 0 ∨ j = 1 ∨ j = 2 ∨ j = 3 ∨ j = 4 ∨ j = 5 by omega) with rfl | rfl | rfl | rfl | rfl | rfl <;> rfl
theorem fs0_X2 : ∀ j, j < 6 → defaultValue (tyX2 j) = vp_V [.null, .null, .null, .null, .null, .int (nI 0)] j := fun j hj => by
  rcases (show j = 0 ∨ j = 1 ∨ j = 2 ∨ j = 3 ∨ j = 4 ∨ j = 5 by omega) with rfl | rfl | rfl | rfl | rfl | rfl <;> rfl
theorem fs0_X3 : ∀ j, j < 2 → defaultValue (tyX3 j) = vp_V [.long 0, .null] j := fun j hj => by
  rcases (show j = 0 ∨ j = 1 by omega) with rfl | rfl <;> rfl
theorem fs0_X4 : ∀ j, j < 12 → defaultValue (tyX4 j) = vp_V [.null, .null, .null, .null, .null, .null, .null, .null, .null, .int (nI 0), .int (nI 0), .long 0] j := fun j hj => by
  rcases (show j = 0 ∨ j = 1 ∨ j = 2 ∨ j = 3 ∨ j = 4 ∨ j = 5 ∨ j = 6 ∨ j = 7 ∨ j = 8 ∨ j = 9 ∨ j = 10 ∨ j = 11 by omega) with rfl | rfl | rfl | rfl | rfl | rfl | rfl | rfl | rfl | rfl | rfl | rfl <;> rfl
theorem va_up_some {a : Nat → Nat} {k x : Nat} (f : Nat → Option Nat) (h : ∀ j, j < k → f j = some (a j)) (hx : x = a k) : ∀ j, j < k + 1 → va_up f k (some x) j = some (a j) := fun j hj => by
  unfold va_up
  by_cases e : j = k
  · rw [if_pos e, hx, e]
  · rw [if_neg e]
    exact h j (by omega)
section NEW2
variable {p : Program} {l : Launch} {e : Env} {R : Room} {s : State} {m : MethodId} {args : Array Value} {below : List Frame} {meth : Method} {c : Code} {D : va_G} {cy : Nat → ClassId} {A : Nat → Prop} {Q : State → Prop} {nL cells slots : Nat} {w U L L' : va_W} {lv : List (Option Value)} {pc : Nat} {st : List Value} {cc : ByteArray} {own : String}
/-- a new array of references -/
theorem r_newq (C : Fg p s m args meth c cc nL own D cy A) {Cn : String} (hover : va_AO Cn s) {index n : Nat} (t0 : Nat) (ht : (tysL cy)[t0]? = some (cy t0, .object Cn)) (hcl : Cond.classLink own index Cn ∈ GW) (hn : n < 1000000) (hcells : cells + 1 ≤ R.cells) (hslots : slots + n ≤ R.slots) (d : decode cc pc = .ok (.anewarray index, 3))
    (kk : ∀ q : Nat, vW p l e R s m args below meth c D vwCl A Q nL (cells + 1) (slots + n) (w ++ [(q, .inl (cy t0, n, .inr (.inr (.inr (.inr (fun _ => none))))))]) lv (pc + 3) (.ref q :: st)) : vW p l e R s m args below meth c D vwCl A Q nL cells slots w lv pc (.int (nI n) :: st) := fun H locs ls hP hD hS hl =>
  va_newq C.1 C.2.1 C.2.2.2.1 (C.2.2.2.2.1 _ hcl) hover C.2.2.2.2.2.1 hP hD hS C.2.2.2.2.2.2.2 (N' := n) (fun z => by rw [Int32.lt_iff_toInt_lt, nI_toInt (by omega)] at z; have : (0 : Int32).toInt = 0 := rfl; omega) (nI_clamp (by omega)) (by show n * 4 ≤ _; omega) hcells hslots d (fun q cA H1 hK hP hD hS => by
    obtain ⟨-, -, -, -, -, h1⟩ := (hK.2 6 (cA, .object Cn) rfl).2
    obtain ⟨-, -, -, -, -, h2⟩ := (hK.2 t0 (cy t0, .object Cn) ((List.getElem?_append_left (List.getElem?_eq_some_iff.mp ht).1).trans ht)).2
    have e : cA = cy t0 := Option.some.inj (h1.symm.trans h2)
    subst e
    exact kk q H1 locs ls hP hD hS hl)
/-- a reference laid into it -/
theorem r_astq (C : Fg p s m args meth c cc nL own D cy A) {b v n i : Nat} {cA : ClassId} {r : vw_C} {vs : List Value} {f : Nat → Option Nat} (q0 t0 qk ci : Nat) (he : w[q0]? = some (b, .inl (cA, n, .inr (.inr (.inr (.inr f)))))) (ht : (tysL cy)[t0]? = some (cA, .object r.1)) (hv : w[qk]? = some (v, .inr (ci, vs))) (hc : vwCl[ci]? = some r) (hi : i < n) (hn : n < 2147483648) (d : decode cc pc = .ok (.aastore, 1)) {w' : va_W} (hw : w.set q0 (b, .inl (cA, n, .inr (.inr (.inr (.inr (va_up f i (some v))))))) = w')
    (kk : vW p l e R s m args below meth c D vwCl A Q nL cells slots w' lv (pc + 1) st) : vW p l e R s m args below meth c D vwCl A Q nL cells slots w lv pc (.ref v :: .int (nI i) :: .ref b :: st) := fun H locs ls hP hD hS hl =>
  va_astq C.1 C.2.1 C.2.2.2.2.2.1 hP hD hS q0 t0 qk ci he ht hv hc (vp_in_nI hi hn) d (fun H1 locs1 hP hD hS => by
    rw [nI_clamp (by omega)] at hP hD
    exact kk H1 locs1 ls (hw ▸ hP) (hw ▸ hD) hS hl)
/-- what lies beyond an array's end doesn't matter -/
theorem arrV_cut {cA : ClassId} {n : Nat} {f g : Nat → Value} (h : ∀ j, j < n → f j = g j) : arrV cA n f = arrV cA n g := by
  unfold arrV
  congr 1
  congr 1
  funext j
  exact h j.1 j.2
theorem r_cell {b : Nat} {cA : ClassId} {x x' : vp_A} (q0 : Nat) (he : w[q0]? = some (b, .inl (cA, x))) (hx : vp_cell cA x = vp_cell cA x') {w' : va_W} (hw : w.set q0 (b, .inl (cA, x')) = w') (kk : vW p l e R s m args below meth c D vwCl A Q nL cells slots w' lv pc st) : vW p l e R s m args below meth c D vwCl A Q nL cells slots w lv pc st := fun H locs ls hP hD hS hl => by
  subst hw
  refine kk H locs ls (hP.set hD he ?_ (fun _ _ => rfl)) (hD.set he) hS hl
  show H[b]? = some (vp_cell cA x')
  rw [← hx]
  exact hP q0 _ he
theorem r_cellQ {b n : Nat} {cA : ClassId} {f g : Nat → Option Nat} (q0 : Nat) (he : w[q0]? = some (b, .inl (cA, n, .inr (.inr (.inr (.inr f)))))) (hf : ∀ j, j < n → f j = g j) {w' : va_W} (hw : w.set q0 (b, .inl (cA, n, .inr (.inr (.inr (.inr g))))) = w') (kk : vW p l e R s m args below meth c D vwCl A Q nL cells slots w' lv pc st) : vW p l e R s m args below meth c D vwCl A Q nL cells slots w lv pc st :=
  r_cell q0 he (by rw [vp_cell_q, vp_cell_q]; exact arrV_cut (fun j hj => congrArg va_rf (hf j hj))) hw kk
/-- the parts of a world in the other order -/
theorem t_swap (kk : vW p l e R s m args below meth c D vwCl A Q nL cells slots (L ++ U) lv pc st) : vW p l e R s m args below meth c D vwCl A Q nL cells slots (U ++ L) lv pc st := fun H locs ls hP hD hS hl =>
  kk H locs ls (va_P.swap (a := []) (b := U) (c := L) hP) (va_D.swap (a := []) (b := U) (c := L) hD) hS hl
theorem t_swap3 {B : va_W} (kk : vW p l e R s m args below meth c D vwCl A Q nL cells slots (L ++ (U ++ B)) lv pc st) : vW p l e R s m args below meth c D vwCl A Q nL cells slots (U ++ (L ++ B)) lv pc st := fun H locs ls hP hD hS hl => by
  have e1 : (([] ++ L) ++ U) ++ B = L ++ (U ++ B) := List.append_assoc L U B
  refine kk H locs ls (e1 ▸ ?_) (e1 ▸ ?_) hS hl
  · refine va_P.by hP (fun k => if k < L.length then U.length + k else if k < L.length + U.length then k - L.length else k) (fun k q hk => ?_)
    by_cases h1 : k < L.length
    · simp only [if_pos h1]
      rw [List.append_assoc, List.nil_append, List.getElem?_append_left h1] at hk
      rw [List.getElem?_append_right (by omega), show U.length + k - U.length = k by omega, List.getElem?_append_left h1]
      exact hk
    · by_cases h2 : k < L.length + U.length
      · simp only [if_neg h1, if_pos h2]
        rw [List.append_assoc, List.nil_append, List.getElem?_append_right (by omega), List.getElem?_append_left (by omega)] at hk
        rw [List.getElem?_append_left (by omega)]
        exact hk
      · simp only [if_neg h1, if_neg h2]
        rw [List.append_assoc, List.nil_append, List.getElem?_append_right (by omega), List.getElem?_append_right (by omega)] at hk
        rw [List.getElem?_append_right (by omega), List.getElem?_append_right (by omega), show k - U.length - L.length = k - L.length - U.length by omega]
        exact hk
  · refine va_D.by hD (fun k => if k < L.length then U.length + k else if k < L.length + U.length then k - L.length else k) (fun k q hk => ?_) (fun i j hi hj h => ?_)
    · by_cases h1 : k < L.length
      · simp only [if_pos h1]
        rw [List.append_assoc, List.nil_append, List.getElem?_append_left h1] at hk
        rw [List.getElem?_append_right (by omega), show U.length + k - U.length = k by omega, List.getElem?_append_left h1]
        exact hk
      · by_cases h2 : k < L.length + U.length
        · simp only [if_neg h1, if_pos h2]
          rw [List.append_assoc, List.nil_append, List.getElem?_append_right (by omega), List.getElem?_append_left (by omega)] at hk
          rw [List.getElem?_append_left (by omega)]
          exact hk
        · simp only [if_neg h1, if_neg h2]
          rw [List.append_assoc, List.nil_append, List.getElem?_append_right (by omega), List.getElem?_append_right (by omega)] at hk
          rw [List.getElem?_append_right (by omega), List.getElem?_append_right (by omega), show k - U.length - L.length = k - L.length - U.length by omega]
          exact hk
    · try simp only at h
      (repeat' split at h) <;> omega
theorem t_newI (C : Fg p s m args meth c cc nL own D cy A) (at0 : ArrayType) (ty : FieldType) (t0 : Nat) (hat : newarray.typeOf at0 = ty) (hty : ty = .int ∧ t0 = 1 ∧ at0 = .int ∨ ty = .boolean ∧ t0 = 2 ∧ at0 = .boolean ∨ ty = .byte ∧ t0 = 0 ∧ at0 = .byte) (harr2 : Cond.arrayClass ty ∈ GW) {n : Nat} (hn : n < 1000000) (hcells : cells + 1 ≤ R.cells) (hslots : slots + n ≤ R.slots) (d : decode cc pc = .ok (.newarray at0, 2))
    (kk : ∀ q : Nat, vW p l e R s m args below meth c D vwCl A Q nL (cells + 1) (slots + n) (U ++ ((q, .inl (cy t0, n, .inl (fun _ => 0))) :: L)) lv (pc + 2) (.ref q :: st)) : vW p l e R s m args below meth c D vwCl A Q nL cells slots (U ++ L) lv pc (.int (nI n) :: st) :=
  r_newT C at0 ty t0 hat hty harr2 hn _ _ (Nat.le_refl _) (Nat.le_refl _) hcells hslots d (fun q => t_front (kk q))
theorem gp_he {q0 : Nat} {x y : Nat × va_E} (he : w[q0]? = some x) : (w.set q0 y)[q0]? = some y := List.getElem?_set_self (List.getElem?_eq_some_iff.mp he).1
end NEW2
end PT_64
/-! ===== 65.new4 -/
section PT_65
/-! A NEW ARRAY OF FOUR EMPTY ARRAYS -/
/-- the array of arrays with its first i places filled, the inner ones behind it -/
def q4C (cA : ClassId) (h0 : Nat) : Nat → Cell
  | 0 => { cls := cA, slots := Array.replicate 4 .null, vm := .none }
  | i + 1 => (q4C cA h0 i).setSlot i (.ref (h0 + 1 + i))
abbrev q4I (cI : ClassId) : Cell := { cls := cI, slots := Array.replicate 0 (.int 0), vm := .none }
def q4S (S : State) (cA cI : ClassId) : Nat → State
  | 0 => S.pushCell (q4C cA S.heap.size 0)
  | i + 1 => ((q4S S cA cI i).pushCell (q4I cI)).setCell S.heap.size (q4C cA S.heap.size (i + 1))
theorem q4C_is (cA : ClassId) (h0 : Nat) : ∀ i, (q4C cA h0 i).cls = cA ∧ (q4C cA h0 i).vm = .none ∧ (q4C cA h0 i).slots.size = 4
  | 0 => ⟨rfl, rfl, by simp [q4C]⟩
  | i + 1 => by
    obtain ⟨h1, h2, h3⟩ := q4C_is cA h0 i
    exact ⟨by simp [q4C, Cell.setSlot, h1], by simp [q4C, Cell.setSlot, h2], by simp [q4C, Cell.setSlot, h3]⟩
theorem q4C_arr (cA : ClassId) (h0 : Nat) : ∀ i, q4C cA h0 i = arrV cA 4 (fun j => va_rf (if j < i then some (h0 + 1 + j) else none))
  | 0 => by
    show ({ cls := cA, slots := Array.replicate 4 .null, vm := .none } : Cell) = _
    rw [arrV_new]
    refine congrArg (arrV cA 4) (funext fun j => ?_)
    simp [va_rf]
  | i + 1 => by
    show (q4C cA h0 i).setSlot i (.ref (h0 + 1 + i)) = _
    rw [q4C_arr cA h0 i, arrV_store]
    refine congrArg (arrV cA 4) (funext fun j => ?_)
    by_cases e : j = i
    · subst e
      simp [updV, va_rf]
    · by_cases h : j < i
      · simp [updV, e, h, Nat.lt_succ_of_lt h]
      · simp [updV, e, h, show ¬ j < i + 1 by omega]
theorem q4S_is (S : State) (cA cI : ClassId) : ∀ i, (q4S S cA cI i).heap.size = S.heap.size + 1 + i ∧ (q4S S cA cI i).heap[S.heap.size]? = some (q4C cA S.heap.size i) ∧ (q4S S cA cI i).vm = S.vm ∧ (q4S S cA cI i).slotsUsed = S.slotsUsed + 4
  | 0 => ⟨by simp [q4S], by simp [q4S], rfl, by simp [q4S, q4C]⟩
  | i + 1 => by
    obtain ⟨h1, h2, h3, h4⟩ := q4S_is S cA cI i
    have hlt : S.heap.size < (q4S S cA cI i).heap.size := by omega
    have hb : ((q4S S cA cI i).pushCell (q4I cI)).heap[S.heap.size]? = some (q4C cA S.heap.size i) := by rw [State.heap_pushCell_of_lt (h := hlt)]; exact h2
    refine ⟨?_, State.heap_setCell_self hb, by simp [q4S, h3], ?_⟩
    · simp [q4S, State.setCell, h1]
      omega
    · simp [q4S, h4]
theorem q4S_top (S : State) (f : JFrame) (cA cI : ClassId) : ∀ i, q4S (S.setTop f) cA cI i = (q4S S cA cI i).setTop f
  | 0 => rfl
  | i + 1 => by simp only [q4S, q4S_top S f cA cI i, State.heap_setTop, State.pushCell_setTop, State.setCell_setTop]
theorem q4S_old (S : State) (cA cI : ClassId) {a : Addr} (ha : a < S.heap.size) : ∀ i, (q4S S cA cI i).heap[a]? = S.heap[a]?
  | 0 => State.heap_pushCell_of_lt _ _ ha
  | i + 1 => by
    have h1 := (q4S_is S cA cI i).1
    show (((q4S S cA cI i).pushCell (q4I cI)).setCell S.heap.size _).heap[a]? = _
    have hlt : a < (q4S S cA cI i).heap.size := Nat.lt_of_lt_of_le ha (by rw [h1]; omega)
    rw [State.heap_setCell_other (Nat.ne_of_gt ha), State.heap_pushCell_of_lt (h := hlt)]
    exact q4S_old S cA cI ha i
theorem q4S_in (S : State) (cA cI : ClassId) : ∀ i j, j < i → (q4S S cA cI i).heap[S.heap.size + 1 + j]? = some (q4I cI)
  | 0, _, h => absurd h (Nat.not_lt_zero _)
  | i + 1, j, h => by
    have h1 := (q4S_is S cA cI i).1
    show (((q4S S cA cI i).pushCell (q4I cI)).setCell S.heap.size _).heap[S.heap.size + 1 + j]? = _
    rw [State.heap_setCell_other (show S.heap.size ≠ S.heap.size + 1 + j by omega)]
    by_cases hj : j < i
    · have hlt : S.heap.size + 1 + j < (q4S S cA cI i).heap.size := by rw [h1]; omega
      rw [State.heap_pushCell_of_lt (h := hlt)]
      exact q4S_in S cA cI i j hj
    · obtain rfl : j = i := by omega
      rw [← h1]
      exact State.heap_pushCell_size _ _
section Q4W
variable {E : CtlPost} {e : Env} {dd : Bool} {acts : List Action} {S : State}
theorem q4_new {cX comp : ClassId} {k : Class} {type : FieldType} {len : Nat} {init : Value} (hk : S.vm.classes[cX]? = some k) (hkind : k.kind = .array comp type) (hlimit : ¬ len > e.platform.arrayLengthLimit) (hheap : ¬ len * componentBytes type > e.platform.maxHeapBytes) (hfit : fits type init = true) (hdef : init.isDefault = true) {Q : Addr → Pre} (h1 : S.heap.size < e.platform.maxCells) (h2 : S.slotsUsed + len ≤ e.platform.maxSlots) (hq : Q S.heap.size dd acts (S.pushCell { cls := cX, slots := Array.replicate len init, vm := .none })) :
    wp (Jvm.newArray cX len init) Q E e dd acts S := by
  have hfits : ∀ i v, (Array.replicate len init)[i]? = some v → S.fitsSlot cX .none i v = true := by
    intro i v hv
    simp only [Array.getElem?_replicate] at hv
    split at hv
    · cases hv
      simp [State.fitsSlot, State.slotType?, hk, hkind, hfit]
    · cases hv
  have hda : allocActs (Array.replicate len init) S.heap.size acts = acts := by
    have hall : ((Array.replicate len init).all (·.isDefault)) = true := by
      rw [Array.all_replicate]
      split <;> simp [hdef]
    unfold allocActs
    rw [if_pos hall]
  simp only [Jvm.newArray, Jvm.arrayFits, wp_bind', W.ask, W.ite, hlimit, if_false, wp_pure', W.theClass, hk, hkind, hheap, W.alloc, W.stop, Option.some.injEq, exists_eq_left', Array.size_replicate, hda]
  rw [if_neg (by omega)]
  exact ⟨h1, h2, hfits, hq⟩
theorem q4_make {cA cI cc : ClassId} {kA kI : Class} (hkA : S.vm.classes[cA]? = some kA) (hkindA : kA.kind = .array cI (.array .int)) (hkI : S.vm.classes[cI]? = some kI) (hkindI : kI.kind = .array cc .int) (hl1 : ¬ 4 > e.platform.arrayLengthLimit) (hh1 : ¬ 4 * componentBytes (.array .int) > e.platform.maxHeapBytes) (hl2 : ¬ 0 > e.platform.arrayLengthLimit) (hh2 : ¬ 0 * componentBytes .int > e.platform.maxHeapBytes)
    (hc : S.heap.size + 1 + 4 ≤ e.platform.maxCells) (hs : S.slotsUsed + 4 ≤ e.platform.maxSlots) {Q : Addr → Pre} (hq : ∀ d' acts', Q S.heap.size d' acts' (q4S S cA cI 4)) : wp (multianewarray.make cA [4, 0]) Q E e dd acts S := by
  have h40 : ¬ (4 : Int32) < 0 := by decide
  have h00 : ¬ (0 : Int32) < 0 := by decide
  have h4n : (4 : Int32).toNatClampNeg = 4 := by decide
  have h0n : (0 : Int32).toNatClampNeg = 0 := by decide
  have hfind : ([(0 : Int32)].find? (· < 0)) = none := by decide
  rw [multianewarray.make]
  simp only [wp_bind', W.ite, h40, if_false, wp_pure', W.theClass, hkA, hkindA, Option.some.injEq, exists_eq_left', h4n]
  refine q4_new hkA hkindA hl1 hh1 rfl rfl (by omega) hs ?_
  simp only [hfind]
  rw [ite_self, wp_bind', Std.Legacy.Range.forIn_eq_forIn_range']
  have hsz : ([:4] : Std.Legacy.Range).size = 4 := by simp [Std.Legacy.Range.size]
  rw [hsz]
  show wp (forIn (List.range' 0 4 1) PUnit.unit _) _ E e dd acts _
  refine wp_forIn_inv (fun rest s' => ∃ i, i ≤ 4 ∧ rest = List.range' i (4 - i) ∧ s' = q4S S cA cI i) _ _ ⟨0, Nat.zero_le _, rfl, rfl⟩ ?_ ?_
  · rintro x rest s' d' acts' Q' ⟨i, hi, hl, rfl⟩ hnext
    have hlt : i < 4 := by
      rcases Nat.lt_or_ge i 4 with h | h
      · exact h
      · rw [show 4 - i = 0 by omega] at hl
        simp at hl
    obtain ⟨rfl, hrest⟩ : x = i ∧ rest = List.range' (i + 1) (4 - (i + 1)) := by
      rw [show 4 - i = (4 - (i + 1)) + 1 by omega, List.range'_succ] at hl
      exact ⟨(List.cons.inj hl).1, (List.cons.inj hl).2⟩
    obtain ⟨f1, f2, f3, f4⟩ := q4S_is S cA cI x
    obtain ⟨o1, o2, o3⟩ := q4C_is cA S.heap.size x
    simp only [wp_bind']
    rw [multianewarray.make]
    simp only [wp_bind', W.ite, h00, if_false, wp_pure', W.theClass, f3, hkI, hkindI, Option.some.injEq, exists_eq_left', h0n]
    refine q4_new (by rw [f3]; exact hkI) hkindI hl2 hh2 rfl rfl (by rw [f1]; omega) (by rw [f4]; omega) ?_
    have hlt0 : S.heap.size < (q4S S cA cI x).heap.size := by rw [f1]; omega
    simp only [wp_bind', W.writeLoc, wp_pure']
    refine ⟨q4C cA S.heap.size x, (State.heap_pushCell_of_lt _ _ hlt0).trans f2, by rw [o2]; simp, by rw [o3]; exact hlt, ?_, hnext _ _ _ ⟨x + 1, hlt, hrest, ?_⟩⟩
    · rw [o1, o2]
      simp [State.fitsSlot, State.slotType?, f3, hkA, hkindA, fits]
    · rw [f1]
      rfl
  · rintro s' d' acts' ⟨i, hi, hl, rfl⟩
    have hi4 : i = 4 := by
      rcases Nat.lt_or_ge i 4 with h | h
      · rw [show 4 - i = (4 - (i + 1)) + 1 by omega, List.range'_succ] at hl
        cases hl
      · omega
    subst hi4
    simp only [wp_pure']
    exact hq _ _
end Q4W
theorem q4_over {args : Array Value} {U : State} (h : (Cond.arrayOver (.array .int)).before args U = true) : ∃ comp c k, U.vm.findClass (FieldType.array .int).toString = some comp ∧ U.vm.classes[c]? = some k ∧ k.kind = .array comp (.array .int) ∧ U.vm.findClass ("[" ++ (FieldType.array .int).toString) = some c := by
  unfold Cond.before at h
  simp only [Cond.holds, Cond.value, beq_iff_eq] at h
  cases hc : U.vm.findClass (FieldType.array .int).toString with
  | none => simp [hc] at h
  | some comp =>
    simp only [hc, Option.bind_some, Option.bind_eq_some_iff, Option.map_eq_some_iff] at h
    obtain ⟨c, hi, k, hk, hb⟩ := h
    obtain ⟨hlt, hp, -⟩ := Array.findIdx?_eq_some_iff_getElem.mp hi
    have hkk : U.vm.classes[c] = k := (Array.getElem?_eq_some_iff.mp hk).2
    rw [hkk] at hp
    cases hkind : k.kind with
    | array component ty =>
      rw [hkind] at hb hp
      simp at hb hp
      exact ⟨comp, c, k, rfl, hk, by rw [hkind, hp, hb.1], hb.2⟩
    | _ => rw [hkind] at hb; simp at hb
section Q4V
variable {p : Program} {l : Launch} {e : Env} {R : Room} {s : State} {m : MethodId} {args : Array Value} {below : List Frame} {meth : Method} {c : Code} {T : State} {locs : List Loc} {cells slots : Nat}
theorem q4_stand (X : Stand p l e R s m args below meth c T locs cells slots) (cA cI : ClassId) : ∀ i, Stand p l e R s m args below meth c (q4S T cA cI i) (locs ++ (List.range i).map fun j => ⟨T.heap.size, j⟩) (cells + 1 + i) (slots + 4)
  | 0 => by
    have h := X.pushed (q4C cA T.heap.size 0)
    rw [(q4C_is cA T.heap.size 0).2.2] at h
    simpa [q4S] using h
  | i + 1 => by
    have Xi := q4_stand X cA cI i
    obtain ⟨f1, f2, f3, f4⟩ := q4S_is T cA cI i
    have hlt0 : T.heap.size < (q4S T cA cI i).heap.size := by rw [f1]; omega
    have hcell : ((q4S T cA cI i).pushCell (q4I cI)).heap[T.heap.size]? = some (q4C cA T.heap.size i) := by rw [State.heap_pushCell_of_lt (h := hlt0)]; exact f2
    have h := (Xi.pushed (q4I cI)).stored hcell i (.ref (T.heap.size + 1 + i))
    have e2 : (locs ++ (List.range (i + 1)).map fun j => (⟨T.heap.size, j⟩ : Loc)) = (locs ++ (List.range i).map fun j => (⟨T.heap.size, j⟩ : Loc)) ++ [⟨T.heap.size, i⟩] := by simp [List.range_succ, List.append_assoc]
    rw [e2]
    exact h
theorem q4_step (X : Stand p l e R s m args below meth c T locs cells slots) (hexec : p.tables.exec = Jvm.exec) {own : String} {index : Nat} (hown : s.vm.findClass own = some m.cls) (hclink : (Cond.classLink own index ("[" ++ (FieldType.array .int).toString)).before args s = true) (hover : (Cond.arrayOver (.array .int)).before args s = true) (harr : (Cond.arrayClass .int).before args s = true)
    {g : JFrame} (hg : g.method = m) (hdg : decode c.code g.pc = .ok (.multianewarray index 2, 4)) {rest : List Value} (hstack : g.stack = .int 0 :: .int 4 :: rest) (hcells : cells + (1 + 4) ≤ R.cells) (hslots : slots + 4 ≤ R.slots) :
    ∃ (vm₁ : Vm) (cA cI : ClassId), s.vm.findClass ("[" ++ (FieldType.array .int).toString) = some cA ∧ s.vm.findClass (FieldType.array .int).toString = some cI ∧ (∃ kA comp, s.vm.classes[cA]? = some kA ∧ kA.kind = .array comp (.array .int)) ∧
      Stand p l e R s m args below meth c (q4S (T.setVm vm₁) cA cI 4) locs (cells + 1 + 4) (slots + 4) ∧
      ∀ target, Steps p.tables e below ((q4S (T.setVm vm₁) cA cI 4).setTop { g with pc := g.pc + 4, stack := .ref T.heap.size :: rest }) target → Steps p.tables e below (T.setTop g) target := by
  subst hg
  have hpl : e.platform.magicAccessors = ({} : Platform).magicAccessors := by rw [X.admits.platform]
  obtain ⟨comp, cA, kA, hcomp, hkA, hkindA, hnameA⟩ := q4_over hover
  obtain ⟨comp', kC, cc, hcomp', hkC, hkindC⟩ := Cond.arrayClass_spec harr
  have ecomp : comp' = comp := Option.some.inj (hcomp'.symm.trans hcomp)
  subst ecomp
  obtain ⟨c0, hfc0, hcl⟩ := Cond.classLink_spec hown hclink e.platform hpl
  cases hnameA.symm.trans hfc0
  obtain ⟨hg₁, hwarm₁, hready₁⟩ := State.classEntry (e := e) X.warmed hcl
  generalize T.vm.noted g.method.cls index (.cls cA) = vm₁ at hg₁ hwarm₁ hready₁
  have hal : s.vm.Alike vm₁ := hwarm₁.alike
  obtain ⟨kA₁, hkA₁, heA⟩ := hal.2.2 _ _ hkA
  obtain ⟨kC₁, hkC₁, heC⟩ := hal.2.2 _ _ hkC
  have hkindA₁ : kA₁.kind = .array comp' (.array .int) := by rw [heA]; exact hkindA
  have hkindC₁ : kC₁.kind = .array cc .int := by rw [heC]; exact hkindC
  have X₁ := X.noted hwarm₁
  obtain ⟨hr1, hr2⟩ := X.roomAbove hcells hslots
  have XF := q4_stand X₁ cA comp' 4
  refine ⟨vm₁, cA, comp', hnameA, hcomp, ⟨kA, comp', hkA, hkindA⟩, XF.dropFresh (fun x hx => ?_), fun target hrest => ?_⟩
  · obtain ⟨j, -, rfl⟩ := List.mem_map.mp hx
    exact X.heapGrown
  have hl1 : ¬ 4 > e.platform.arrayLengthLimit := by rw [Launch.admits_arrayLengthLimit X.admits]; omega
  have hh1 : ¬ 4 * componentBytes (.array .int) > e.platform.maxHeapBytes := by
    rw [Launch.admits_maxHeapBytes X.admits]
    show ¬ 4 * 4 > 536870912
    omega
  have hl2 : ¬ 0 > e.platform.arrayLengthLimit := Nat.not_lt_zero _
  have hh2 : ¬ 0 * componentBytes .int > e.platform.maxHeapBytes := by rw [Nat.zero_mul]; exact Nat.not_lt_zero _
  jvm_step X.here [hexec, hdg]
  simp only [multianewarray.sem, wp_bind', W.resolveClassAt_links (State.method?_setTop g X.here.top) hg₁]
  rw [W.popN, if_neg (by decide)]
  refine ⟨g, State.topJava?_setTop' (s := T.setVm vm₁) g X.here.top, [.int 4, .int 0], rest, rfl, hstack, ?_⟩
  simp only [List.mapM_cons, List.mapM_nil, wp_bind', wp_pure']
  refine q4_make (kA := kA₁) (kI := kC₁) (cI := comp') (cc := cc) hkA₁ hkindA₁ hkC₁ hkindC₁ hl1 hh1 hl2 hh2 (by show T.heap.size + 1 + _ ≤ _; omega) (by show T.slotsUsed + _ ≤ _; omega) (fun d' acts' => ?_)
  have eS : ((T.setTop g).setVm vm₁).setTop { g with stack := rest } = (T.setVm vm₁).setTop { g with stack := rest } := by
    show ((T.setVm vm₁).setTop g).setTop _ = _
    rw [State.setTop_setTop]
  rw [eS, q4S_top]
  simp only [wp_bind', W.mark, W.pushRef, State.topJava?_setTop' _ XF.here.top, Option.some.injEq, exists_eq_left', State.setTop_setTop, State.heap_setTop]
  intro acts
  simp [jvm, XF.here.top]
  exact hrest
end Q4V
section Q4R
variable {p : Program} {l : Launch} {e : Env} {R : Room} {s : State} {m : MethodId} {args : Array Value} {below : List Frame} {meth : Method} {c : Code} {D : va_G} {cy : Nat → ClassId} {A : Nat → Prop} {Q : State → Prop} {nL cells slots : Nat} {w U L : va_W} {lv : List (Option Value)} {pc : Nat} {st : List Value} {cc : ByteArray} {own : String} {X : (Nat → Prop) → State → Heap → Prop}
/-- four empty arrays of ints in a new array -/
theorem r_new4 (C : Fg p s m args meth c cc nL own D cy A) (hA5 : AOI cy s) (hover : AOAI s) {index : Nat} (hcl : Cond.classLink own index "[[I" ∈ GW) (hcells : cells + 5 ≤ R.cells) (hslots : slots + 4 ≤ R.slots) (d : decode cc pc = .ok (.multianewarray index 2, 4))
    (kk : ∀ (q : Nat) (ra : Nat → Nat), vW p l e R s m args below meth c D vwCl A Q nL (cells + 5) (slots + 4) (w ++ ((q, .inl (cy 5, 4, .inr (.inr (.inr (.inr (fun i => some (ra i))))))) :: (List.range 4).map (fun i => (ra i, .inl (cy 1, 0, .inl (fun _ => 0)))))) lv (pc + 4) (.ref q :: st)) : vW p l e R s m args below meth c D vwCl A Q nL cells slots w lv pc (.int (nI 0) :: .int (nI 4) :: st) := by
  intro H locs ls hP hD hS hl T hT Xs
  have ht := C.2.2.2.2.1
  obtain ⟨vm₁, cA, cI, fA, fI, ⟨kA, comp, hkA, hkindA⟩, X', step⟩ := q4_step Xs C.1 C.2.2.2.1 (own := own) (index := index) (ht _ hcl) hover (ht _ qa_int) (g := F0 m pc ls (.int (nI 0) :: .int (nI 4) :: st)) rfl (by rw [C.2.1]; exact d) (rest := st) rfl hcells hslots
  have e1 : cI = cy 1 := Option.some.inj (fI.symm.trans (C.2.2.2.2.2.1.2 1 (cy 1, .int) rfl).2)
  have e5 : cA = cy 5 := Option.some.inj (fA.symm.trans (C.2.2.2.2.2.1.2 5 (cy 5, .array .int) rfl).2)
  subst e1
  subst e5
  generalize hF : q4S (T.setVm vm₁) (cy 5) (cy 1) 4 = F at X' step
  have hTh : (T.setVm vm₁).heap = H := hT
  obtain ⟨f1, f2, -, -⟩ := q4S_is (T.setVm vm₁) (cy 5) (cy 1) 4
  rw [hF, hTh] at f1 f2
  have hold : ∀ x : Nat, x < H.size → F.heap[x]? = H[x]? := fun x hx => by
    have := q4S_old (T.setVm vm₁) (cy 5) (cy 1) (a := x) (by rw [hTh]; exact hx) 4
    rw [hF, hTh] at this
    exact this
  have hrow : ∀ j : Nat, j < 4 → F.heap[H.size + 1 + j]? = some (vp_cell (cy 1) (0, .inl (fun _ => 0))) := fun j hj => by
    have := q4S_in (T.setVm vm₁) (cy 5) (cy 1) 4 j hj
    rw [hF, hTh] at this
    rw [this]
    show some (q4I (cy 1)) = some (arrV (cy 1) 0 (fun _ => Value.int 0))
    rw [← arrV_new]
  have hlt : ∀ (k : Nat) (x : Nat × va_E), w[k]? = some x → x.1 < H.size := fun k x hx => (hP k x hx).lt
  have hmap : ∀ k : Nat, ((List.range 4).map (fun i => ((H.size + 1 + i, .inl (cy 1, 0, .inl (fun _ => 0))) : Nat × va_E)))[k]? = if k < 4 then some (H.size + 1 + k, .inl (cy 1, 0, .inl (fun _ => 0))) else none := fun k => by
    by_cases hk : k < 4
    · rw [if_pos hk, List.getElem?_map, List.getElem?_range hk]
      rfl
    · rw [if_neg hk]
      exact List.getElem?_eq_none (by simp; omega)
  have hP2 : va_P D vwCl (w ++ ((H.size, .inl (cy 5, 4, .inr (.inr (.inr (.inr (fun i => some (H.size + 1 + i))))))) :: (List.range 4).map (fun i => (H.size + 1 + i, .inl (cy 1, 0, .inl (fun _ => 0)))))) F.heap := by
    refine (hP.kept (fun k x hx => hold x.1 (hlt k x hx))).app (fun k x hx => ?_)
    cases k with
    | zero =>
      cases hx
      show F.heap[H.size]? = some (vp_cell (cy 5) _)
      rw [f2, q4C_arr, vp_cell_q]
      exact congrArg some (arrV_cut (fun j hj => by rw [if_pos hj]))
    | succ k =>
      rw [List.getElem?_cons_succ, hmap] at hx
      split at hx
      · rename_i hk
        cases hx
        exact hrow k hk
      · cases hx
  have hD2 : va_D A (w ++ ((H.size, .inl (cy 5, 4, .inr (.inr (.inr (.inr (fun i => some (H.size + 1 + i))))))) :: (List.range 4).map (fun i => (H.size + 1 + i, .inl (cy 1, 0, .inl (fun _ => 0)))))) := by
    have hat : ∀ (k : Nat) (x : Nat × va_E), (w ++ ((H.size, .inl (cy 5, 4, .inr (.inr (.inr (.inr (fun i => some (H.size + 1 + i))))))) :: (List.range 4).map (fun i => (H.size + 1 + i, .inl (cy 1, 0, .inl (fun _ => 0))))))[k]? = some x → (k < w.length ∧ w[k]? = some x) ∨ (w.length ≤ k ∧ x.1 = H.size + (k - w.length)) := fun k x hx => by
      by_cases hk : k < w.length
      · rw [List.getElem?_append_left hk] at hx
        exact Or.inl ⟨hk, hx⟩
      · rw [List.getElem?_append_right (by omega)] at hx
        refine Or.inr ⟨by omega, ?_⟩
        generalize k - w.length = z at hx
        cases z with
        | zero =>
          cases hx
          rfl
        | succ z =>
          rw [List.getElem?_cons_succ, hmap] at hx
          split at hx
          · cases hx
            show H.size + 1 + z = H.size + (z + 1)
            omega
          · cases hx
    refine ⟨fun i j x y hx hy hxy => ?_, fun k x hx => ?_⟩
    · rcases hat i x hx with ⟨h1, h2⟩ | ⟨h1, h2⟩ <;> rcases hat j y hy with ⟨h3, h4⟩ | ⟨h3, h4⟩
      · exact hD.1 i j x y h2 h4 hxy
      · have := hlt _ _ h2
        omega
      · have := hlt _ _ h4
        omega
      · omega
    · rcases hat k x hx with ⟨h1, h2⟩ | ⟨h1, h2⟩
      · exact hD.2 k x h2
      · exact C.2.2.2.2.2.2.2 _ (by have := hS.1; omega)
  obtain ⟨t, a1, b1⟩ := kk H.size (fun i => H.size + 1 + i) F.heap locs ls hP2 hD2 ⟨by rw [f1]; have := hS.1; omega, fun x h1 h2 => (hold x (Nat.lt_of_lt_of_le h1 hS.1)).trans (hS.2.1 x h1 h2), hS.2.2⟩ hl F rfl X'
  refine ⟨t, step t ?_, b1⟩
  have e : T.heap.size = H.size := by rw [hT]
  rw [e]
  exact a1
end Q4R
end PT_65
