/-! TEXTS: text and digest of the class -/
/-- what the house answers -/
def hhF (f : Nat → Nat → Nat) (kn : Int32) (q : Nat) : Int32 := if q = 0 then nI (smF (f 4) 4 0 0) else if q = 1 then nI (smF (f 5) 4 4 0) else if q = 2 then nI (smF (f 9) 3 0 0) else kn
theorem C_house_all {l : Launch} {D : va_G} {cy : Nat → ClassId} {X : (Nat → Prop) → State → Heap → Prop} {a f : Nat → Nat → Nat} {r : Nat → Nat → Int32} {kn : Int32} {Y : va_W} {q0 : Nat} (hX : EnvX X) (hC : CInv f) (hq : q0 < 4) : Cd l D cy X yX2_house cX2_house 2 (some .int) (rmz 6 240) [.ref (a 0 0), .int (nI q0)] (WC cy a f r kn ++ Y) (some (.int (hhF f kn q0))) (WC cy a f r kn ++ Y) := by
  obtain rfl | rfl | rfl | rfl : q0 = 0 ∨ q0 = 1 ∨ q0 = 2 ∨ q0 = 3 := by omega
  · exact C_house_0 hX hC
  · exact C_house_1 hX hC
  · exact C_house_2 hX hC
  · exact C_house_3 hX hC
/-- the place of the row j in the row i -/
def poV (f : Nat → Nat → Nat) (r : Nat → Nat → Int32) (i j : Nat) : Int32 := nI (poF (fun k => stF (fun q => r (f 0 i) (f 3 i + (k + q))) (fun q => r (f 0 j) (f 3 j + q)) (f 4 j) 0) (f 4 i + 1 - f 4 j) 0)
def mpF (f : Nat → Nat → Nat) (r : Nat → Nat → Int32) : Nat → Nat → Int64 → Int64
  | 0, _, u => u
  | d + 1, i, u => mpF f r d (i + 1) (mxF (poV f r i) 4 0 u)
def dgF (f : Nat → Nat → Nat) (r : Nat → Nat → Int32) (kn : Int32) : Int64 := mpF f r 4 0 (mcF f 3 0 (mwF f r 4 0 (mrF f r 4 0 (mxF (hhF f kn) 4 0 7807)))) * 31 + 1

theorem dX2_text_0 : decode cX2_text 0 = .ok (.iload_n 1, 1) := dqo_27 (kb_of ke_X2_text 0 rfl)
theorem dX2_text_1 : decode cX2_text 1 = .ok (.invokestatic 126, 3) := dqo_184 0 126 (kb_of ke_X2_text 1 rfl) (kb_of ke_X2_text 2 rfl) (kb_of ke_X2_text 3 rfl)
set_option maxRecDepth 100000 in
set_option maxHeartbeats 4000000 in
theorem C_text_noR {l : Launch} {D : va_G} {cy : Nat → ClassId} {X : (Nat → Prop) → State → Heap → Prop} {a f : Nat → Nat → Nat} {r : Nat → Nat → Int32} {kn : Int32} {Y : va_W} {x : Int32} (hX : EnvX X) (hl : l.stackTraces = false) (hC : CInv f) (hno : ¬ (0 ≤ x ∧ x < nI 4)) : Ce l D cy X yX2_text cX2_text 3 (some (.object "java/lang/String")) (rmk 8 1 6 170) [.ref (a 0 0), .int x] (WC cy a f r kn ++ Y) "java/lang/IndexOutOfBoundsException" := by
  refine Cm.of [some (.ref (a 0 0)), some (.int x), none] pn_X2 rfl (Nat.le_of_ble_eq_true rfl) ?_
  intro p e s m args below meth c A C hE hr hnt hn
  refine r_iload_n C dX2_text_0 rfl ?_
  refine c_S (st := []) hX.stb C hE (C_needRow_no (f := f) (r := r) (kn := kn) (x := (x)) hX hl hno) pk_X2_needRow qm_X2_126 rfl rfl (Nat.le_of_ble_eq_true rfl) dX2_text_1 ⟨Nat.le_of_ble_eq_true rfl, Nat.le_of_ble_eq_true rfl⟩ ⟨Nat.le_of_ble_eq_true rfl, Nat.le_of_ble_eq_true rfl⟩ (fun _ _ h9 => h9.elim) (fun E9 h9 => ?_)
  subst h9
  exact r_out C hnt rfl rfl (Nat.le_of_ble_eq_true rfl) (Nat.le_of_ble_eq_true rfl)
theorem dX2_text_4 : decode cX2_text 4 = .ok (.new 168, 3) := dqo_187 0 168 (kb_of ke_X2_text 4 rfl) (kb_of ke_X2_text 5 rfl) (kb_of ke_X2_text 6 rfl)
theorem dX2_text_7 : decode cX2_text 7 = .ok (.dup, 1) := dqo_89 (kb_of ke_X2_text 7 rfl)
theorem dX2_text_8 : decode cX2_text 8 = .ok (.invokespecial 170, 3) := dqo_183 0 170 (kb_of ke_X2_text 8 rfl) (kb_of ke_X2_text 9 rfl) (kb_of ke_X2_text 10 rfl)
theorem dX2_text_11 : decode cX2_text 11 = .ok (.astore_n 2, 1) := dqo_77 (kb_of ke_X2_text 11 rfl)
theorem dX2_text_12 : decode cX2_text 12 = .ok (.aload_n 0, 1) := dqo_42 (kb_of ke_X2_text 12 rfl)
theorem dX2_text_13 : decode cX2_text 13 = .ok (.getfield 11, 3) := dqo_180 0 11 (kb_of ke_X2_text 13 rfl) (kb_of ke_X2_text 14 rfl) (kb_of ke_X2_text 15 rfl)
theorem dX2_text_16 : decode cX2_text 16 = .ok (.iload_n 1, 1) := dqo_27 (kb_of ke_X2_text 16 rfl)
theorem dX2_text_17 : decode cX2_text 17 = .ok (.aaload, 1) := dqo_50 (kb_of ke_X2_text 17 rfl)
theorem dX2_text_18 : decode cX2_text 18 = .ok (.aload_n 2, 1) := dqo_44 (kb_of ke_X2_text 18 rfl)
theorem dX2_text_19 : decode cX2_text 19 = .ok (.invokevirtual 171, 3) := dqo_182 0 171 (kb_of ke_X2_text 19 rfl) (kb_of ke_X2_text 20 rfl) (kb_of ke_X2_text 21 rfl)
theorem dX2_text_22 : decode cX2_text 22 = .ok (.aload_n 2, 1) := dqo_44 (kb_of ke_X2_text 22 rfl)
theorem dX2_text_23 : decode cX2_text 23 = .ok (.invokevirtual 175, 3) := dqo_182 0 175 (kb_of ke_X2_text 23 rfl) (kb_of ke_X2_text 24 rfl) (kb_of ke_X2_text 25 rfl)
theorem dX2_text_26 : decode cX2_text 26 = .ok (.areturn, 1) := dqo_176 (kb_of ke_X2_text 26 rfl)
theorem pk_J4_toString_0e30d : PkV RJ4 yJ4_toString_0e30d cJ4_toString_0e30d 1 (some (.object "java/lang/String")) 0 := ⟨⟨qi_J4_toString_0e30d, qs_J4_toString_0e30d, qz_J4, qc_J4_toString_0e30d⟩, rfl, mh_J4.1, mh_J4.2, pd_41⟩
set_option maxRecDepth 100000 in
set_option maxHeartbeats 800000 in
theorem C_text_ok {l : Launch} {D : va_G} {cy : Nat → ClassId} {X : (Nat → Prop) → State → Heap → Prop} {aK aV : Nat → Nat} {tO tT : Nat} {gO gT : Nat → Int32} {a f : Nat → Nat → Nat} {r : Nat → Nat → Int32} {kn : Int32} {E : va_W} {i : Nat} (hX : EnvS X cy aK aV tO tT gO gT) (hC : CInv f) (hi4 : i < 4) (hR : ∀ q, q < f 4 i → -99 ≤ (r (f 0 i) (f 3 i + q)).toInt ∧ (r (f 0 i) (f 3 i + q)).toInt ≤ 99) : Cm l D cy X yX2_text cX2_text 3 (some (.object "java/lang/String")) (rmk 7 6 198 400) [.ref (a 0 0), .int (nI i)] (WC cy a f r kn ++ E) (fun v1 w1 => ∃ (a9 v9 : Nat) (g9 : Nat → Int32), TXT g9 (tlx (fun k => r (f 0 i) (f 3 i + k)) (f 4 i) + 1) (txl gO gT (fun k => r (f 0 i) (f 3 i + k)) (f 4 i)) ∧ v1 = some (.ref a9) ∧ w1 = WC cy a f r kn ++ (STO a9 v9 (nI 0) (nI 0) :: BYO cy v9 (tlx (fun k => r (f 0 i) (f 3 i + k)) (f 4 i) + 1) g9 :: E)) (fun _ => False) := by
  obtain ⟨hr0, -, -, hr3, hr4, -⟩ := hC.rw hi4
  refine Cm.of [some (.ref (a 0 0)), some (.int (nI i)), none] pn_X2 rfl (Nat.le_of_ble_eq_true rfl) ?_
  intro p e s mI args below meth c A C hE hr hnt hn
  refine r_iload_n C dX2_text_0 rfl ?_
  refine d_Sv (st := []) hX.1.1.stb C hE (C_needRow_ok (f := f) (r := r) (kn := kn) (k := i) hX.1.1 hi4) pk_X2_needRow qm_X2_126 rfl rfl (Nat.le_of_ble_eq_true rfl) dX2_text_1 ⟨Nat.le_of_ble_eq_true rfl, Nat.le_of_ble_eq_true rfl⟩ ⟨by first | (simp only [rmk, rmz]; omega) | (simp only [rmk, rmz]; done) | omega, by first | (simp only [rmk, rmz]; omega) | (simp only [rmk, rmz]; done) | omega⟩ ?_
  refine r_new (fs := [.null, .int (nI 0), .int (nI 0), .int (nI 0)]) C qu_J4 tyJ4 tyJ4_ok qk_X2_168 qo_J4 qz_J4 (ci := 1) rfl fs0_J4 (by first | (simp only [rmk, rmz]; omega) | (simp only [rmk, rmz]; done) | omega) (by first | (simp only [rmk, rmz]; omega) | (simp only [rmk, rmz]; done) | omega) dX2_text_4 (fun q_1 => ?_)
  refine t_front ?_
  refine r_dup C dX2_text_7 rfl ?_
  refine c_I (st := [.ref q_1]) hX.stb C hE (C_sbInit (U := WC cy a f r kn) (E := E) (b := q_1) hX ) pk_J4_init_da8c8 qm_X2_170 rfl rfl (Nat.le_of_ble_eq_true rfl) dX2_text_8 ⟨Nat.le_of_ble_eq_true rfl, Nat.le_of_ble_eq_true rfl⟩ ⟨by first | (simp only [rmk, rmz]; omega) | (simp only [rmk, rmz]; done) | omega, by first | (simp only [rmk, rmz]; omega) | (simp only [rmk, rmz]; done) | omega⟩ (fun v9 w9 h9 => ?_) (fun _ h9 => h9.elim)
  obtain ⟨v9_2, g9_3, f_4, rfl, rfl⟩ := h9
  refine r_astore_n C dX2_text_11 (by decide) rfl ?_
  refine r_aload_n C dX2_text_12 rfl ?_
  refine s_get C 0 (by decide) qf_X2_11 rfl rfl dX2_text_13 ?_
  refine r_iload_n C dX2_text_16 rfl ?_
  refine s_parts C (by first | omega | (simp [up2, *]; done) | (simp [up2, *]; omega) | (simp only [up2_eq]; omega) | (split <;> omega)) dX2_text_17 ?_
  refine r_aload_n C dX2_text_18 rfl ?_
  refine c_V (st := []) hX.stb C hE (C_writeTo (a := a) (f := f) (r := r) (kn := kn) (E := E) (i := i) (b := q_1) (v := v9_2) (m := 16) (g := g9_3) (ml := nI 0) hX (by omega) (by omega) (by omega) hR (Or.inl rfl) f_4) pk_X1_writeTo qm_X2_171 (3 + i) 5 rfl rfl (wc_p (by omega)) rfl rfl (Nat.le_of_ble_eq_true rfl) dX2_text_19 ⟨Nat.le_of_ble_eq_true rfl, Nat.le_of_ble_eq_true rfl⟩ ⟨by first | (simp only [rmk, rmz]; omega) | (simp only [rmk, rmz]; done) | omega, by first | (simp only [rmk, rmz]; omega) | (simp only [rmk, rmz]; done) | omega⟩ (fun v9 w9 h9 => ?_) (fun _ h9 => h9.elim)
  obtain ⟨v9_w, m9_w, g9_w, hc9_w, hf9_w, hsl, rfl, rfl⟩ := h9
  have htl := tlx_le (fun k => r (f 0 i) (f 3 i + k)) (f 4 i)
  refine r_aload_n C dX2_text_22 rfl ?_
  refine c_V (st := []) hX.stb C hE (C_toString (U := WC cy a f r kn) (E := E) (b := q_1) (v := v9_w) (m := m9_w) (n := (tlx (fun k => r (f 0 i) (f 3 i + k)) (f 4 i) + 1)) (g := g9_w) (ml := (nI 0)) hX (by first | exact hsl | omega) (by have := c3_le hc9_w; omega) hf9_w) pk_J4_toString_0e30d qm_X2_175 ((WC cy a f r kn).length + 0) 1 rfl rfl (us_g rfl) rfl rfl (Nat.le_of_ble_eq_true rfl) dX2_text_23 ⟨Nat.le_of_ble_eq_true rfl, Nat.le_of_ble_eq_true rfl⟩ ⟨by first | (simp only [rmk, rmz]; omega) | (simp only [rmk, rmz]; done) | omega, by first | (simp only [rmk, rmz]; omega) | (simp only [rmk, rmz]; done) | omega⟩ (fun v9 w9 h9 => ?_) (fun _ h9 => h9.elim)
  obtain ⟨a9_5, v9_6, g9_7, f_8, rfl, rfl⟩ := h9
  refine t_perm [STO a9_5 v9_6 (nI 0) (nI 0), BYO cy v9_6 (tlx (fun k => r (f 0 i) (f 3 i + k)) (f 4 i) + 1) g9_7, SBO q_1 v9_w (nI 0) (tlx (fun k => r (f 0 i) (f 3 i + k)) (f 4 i) + 1), BYO cy v9_w m9_w g9_w] [STO a9_5 v9_6 (nI 0) (nI 0), BYO cy v9_6 (tlx (fun k => r (f 0 i) (f 3 i + k)) (f 4 i) + 1) g9_7] [0, 1] rfl (by decide) rfl (w' := WC cy a f r kn ++ (STO a9_5 v9_6 (nI 0) (nI 0) :: BYO cy v9_6 (tlx (fun k => r (f 0 i) (f 3 i + k)) (f 4 i) + 1) g9_7 :: E)) rfl ?_
  exact r_aret C hr (Or.inl ⟨_, rfl⟩) dX2_text_26 ⟨a9_5, v9_6, g9_7, f_8, rfl, rfl⟩ (by first | (simp only [rmk, rmz]; omega) | (simp only [rmk, rmz]; done) | omega) (by first | (simp only [rmk, rmz]; omega) | (simp only [rmk, rmz]; done) | omega)
theorem dX2_digest_0 : decode cX2_digest 0 = .ok (.ldc2_w 252, 3) := dqo_20 0 252 (kb_X2_digest_0 0 rfl) (kb_X2_digest_0 1 rfl) (kb_X2_digest_0 2 rfl)
theorem dX2_digest_3 : decode cX2_digest 3 = .ok (.lstore_n 1, 1) := dqo_64 (kb_X2_digest_0 3 rfl)
theorem dX2_digest_4 : decode cX2_digest 4 = .ok (.iconst 0, 1) := dqo_3 (kb_X2_digest_0 4 rfl)
theorem dX2_digest_5 : decode cX2_digest 5 = .ok (.istore_n 3, 1) := dqo_62 (kb_X2_digest_0 5 rfl)
theorem dX2_digest_6 : decode cX2_digest 6 = .ok (.iload_n 3, 1) := dqo_29 (kb_X2_digest_0 6 rfl)
theorem dX2_digest_7 : decode cX2_digest 7 = .ok (.iconst 4, 1) := dqo_7 (kb_X2_digest_0 7 rfl)
theorem dX2_digest_8 : decode cX2_digest 8 = .ok (.if_icmp .ge 20, 3) := dqo_162 0 20 (by decide) (kb_X2_digest_0 8 rfl) (kb_X2_digest_0 9 rfl) (kb_X2_digest_0 10 rfl)
theorem dX2_digest_11 : decode cX2_digest 11 = .ok (.lload_n 1, 1) := dqo_31 (kb_X2_digest_0 11 rfl)
theorem dX2_digest_12 : decode cX2_digest 12 = .ok (.aload_n 0, 1) := dqo_42 (kb_X2_digest_0 12 rfl)
theorem dX2_digest_13 : decode cX2_digest 13 = .ok (.iload_n 3, 1) := dqo_29 (kb_X2_digest_0 13 rfl)
theorem dX2_digest_14 : decode cX2_digest 14 = .ok (.invokevirtual 254, 3) := dqo_182 0 254 (kb_X2_digest_0 14 rfl) (kb_X2_digest_0 15 rfl) (kb_X2_digest_0 16 rfl)
theorem dX2_digest_17 : decode cX2_digest 17 = .ok (.i2l, 1) := dqo_133 (kb_X2_digest_0 17 rfl)
theorem dX2_digest_18 : decode cX2_digest 18 = .ok (.invokestatic 257, 3) := dqo_184 1 1 (kb_X2_digest_0 18 rfl) (kb_X2_digest_0 19 rfl) (kb_X2_digest_0 20 rfl)
theorem dX2_digest_21 : decode cX2_digest 21 = .ok (.lstore_n 1, 1) := dqo_64 (kb_X2_digest_0 21 rfl)
theorem dX2_digest_22 : decode cX2_digest 22 = .ok (.iinc 3 1, 3) := dqo_132 3 1 (by decide) (kb_X2_digest_0 22 rfl) (kb_X2_digest_0 23 rfl) (kb_X2_digest_0 24 rfl)
theorem dX2_digest_25 : decode cX2_digest 25 = .ok (.goto (-19), 3) := dqo_167 255 237 (by decide) (kb_X2_digest_0 25 rfl) (kb_X2_digest_0 26 rfl) (kb_X2_digest_0 27 rfl)
theorem dX2_digest_28 : decode cX2_digest 28 = .ok (.aload_n 0, 1) := dqo_42 (kb_X2_digest_0 28 rfl)
theorem dX2_digest_29 : decode cX2_digest 29 = .ok (.lload_n 1, 1) := dqo_31 (kb_X2_digest_0 29 rfl)
theorem dX2_digest_30 : decode cX2_digest 30 = .ok (.invokevirtual 261, 3) := dqo_182 1 5 (kb_X2_digest_0 30 rfl) (kb_X2_digest_0 31 rfl) (kb_X2_digest_0 32 rfl)
theorem dX2_digest_33 : decode cX2_digest 33 = .ok (.lstore_n 1, 1) := dqo_64 (kb_X2_digest_0 33 rfl)
theorem dX2_digest_34 : decode cX2_digest 34 = .ok (.aload_n 0, 1) := dqo_42 (kb_X2_digest_0 34 rfl)
theorem dX2_digest_35 : decode cX2_digest 35 = .ok (.lload_n 1, 1) := dqo_31 (kb_X2_digest_0 35 rfl)
theorem dX2_digest_36 : decode cX2_digest 36 = .ok (.invokevirtual 265, 3) := dqo_182 1 9 (kb_X2_digest_0 36 rfl) (kb_X2_digest_0 37 rfl) (kb_X2_digest_0 38 rfl)
theorem dX2_digest_39 : decode cX2_digest 39 = .ok (.lstore_n 1, 1) := dqo_64 (kb_X2_digest_0 39 rfl)
theorem dX2_digest_40 : decode cX2_digest 40 = .ok (.aload_n 0, 1) := dqo_42 (kb_X2_digest_0 40 rfl)
theorem dX2_digest_41 : decode cX2_digest 41 = .ok (.lload_n 1, 1) := dqo_31 (kb_X2_digest_0 41 rfl)
theorem dX2_digest_42 : decode cX2_digest 42 = .ok (.invokevirtual 268, 3) := dqo_182 1 12 (kb_X2_digest_0 42 rfl) (kb_X2_digest_0 43 rfl) (kb_X2_digest_0 44 rfl)
theorem dX2_digest_45 : decode cX2_digest 45 = .ok (.lstore_n 1, 1) := dqo_64 (kb_X2_digest_0 45 rfl)
theorem dX2_digest_46 : decode cX2_digest 46 = .ok (.iconst 0, 1) := dqo_3 (kb_X2_digest_0 46 rfl)
theorem dX2_digest_47 : decode cX2_digest 47 = .ok (.istore_n 3, 1) := dqo_62 (kb_X2_digest_0 47 rfl)
theorem dX2_digest_48 : decode cX2_digest 48 = .ok (.iload_n 3, 1) := dqo_29 (kb_X2_digest_0 48 rfl)
theorem dX2_digest_49 : decode cX2_digest 49 = .ok (.iconst 4, 1) := dqo_7 (kb_X2_digest_0 49 rfl)
theorem dX2_digest_50 : decode cX2_digest 50 = .ok (.if_icmp .ge 46, 3) := dqo_162 0 46 (by decide) (kb_X2_digest_0 50 rfl) (kb_X2_digest_0 51 rfl) (kb_X2_digest_0 52 rfl)
theorem dX2_digest_53 : decode cX2_digest 53 = .ok (.iconst 0, 1) := dqo_3 (kb_X2_digest_0 53 rfl)
theorem dX2_digest_54 : decode cX2_digest 54 = .ok (.istore 4, 2) := dqo_54 4 (kb_X2_digest_0 54 rfl) (kb_X2_digest_0 55 rfl)
theorem dX2_digest_56 : decode cX2_digest 56 = .ok (.iload 4, 2) := dqo_21 4 (kb_X2_digest_0 56 rfl) (kb_X2_digest_0 57 rfl)
theorem dX2_digest_58 : decode cX2_digest 58 = .ok (.iconst 4, 1) := dqo_7 (kb_X2_digest_0 58 rfl)
theorem dX2_digest_59 : decode cX2_digest 59 = .ok (.if_icmp .ge 31, 3) := dqo_162 0 31 (by decide) (kb_X2_digest_0 59 rfl) (kb_X2_digest_0 60 rfl) (kb_X2_digest_0 61 rfl)
theorem dX2_digest_62 : decode cX2_digest 62 = .ok (.lload_n 1, 1) := dqo_31 (kb_X2_digest_0 62 rfl)
theorem dX2_digest_63 : decode cX2_digest 63 = .ok (.aload_n 0, 1) := dqo_42 (kb_X2_digest_0 63 rfl)
theorem dX2_digest_64 : decode cX2_digest 64 = .ok (.getfield 11, 3) := dqo_180 0 11 (kb_X2_digest_1 0 rfl) (kb_X2_digest_1 1 rfl) (kb_X2_digest_1 2 rfl)
theorem dX2_digest_67 : decode cX2_digest 67 = .ok (.iload_n 3, 1) := dqo_29 (kb_X2_digest_1 3 rfl)
theorem dX2_digest_68 : decode cX2_digest 68 = .ok (.aaload, 1) := dqo_50 (kb_X2_digest_1 4 rfl)
theorem dX2_digest_69 : decode cX2_digest 69 = .ok (.aload_n 0, 1) := dqo_42 (kb_X2_digest_1 5 rfl)
theorem dX2_digest_70 : decode cX2_digest 70 = .ok (.getfield 11, 3) := dqo_180 0 11 (kb_X2_digest_1 6 rfl) (kb_X2_digest_1 7 rfl) (kb_X2_digest_1 8 rfl)
theorem dX2_digest_73 : decode cX2_digest 73 = .ok (.iload 4, 2) := dqo_21 4 (kb_X2_digest_1 9 rfl) (kb_X2_digest_1 10 rfl)
theorem dX2_digest_75 : decode cX2_digest 75 = .ok (.aaload, 1) := dqo_50 (kb_X2_digest_1 11 rfl)
theorem dX2_digest_76 : decode cX2_digest 76 = .ok (.invokevirtual 122, 3) := dqo_182 0 122 (kb_X2_digest_1 12 rfl) (kb_X2_digest_1 13 rfl) (kb_X2_digest_1 14 rfl)
theorem dX2_digest_79 : decode cX2_digest 79 = .ok (.i2l, 1) := dqo_133 (kb_X2_digest_1 15 rfl)
theorem dX2_digest_80 : decode cX2_digest 80 = .ok (.invokestatic 257, 3) := dqo_184 1 1 (kb_X2_digest_1 16 rfl) (kb_X2_digest_1 17 rfl) (kb_X2_digest_1 18 rfl)
theorem dX2_digest_83 : decode cX2_digest 83 = .ok (.lstore_n 1, 1) := dqo_64 (kb_X2_digest_1 19 rfl)
theorem dX2_digest_84 : decode cX2_digest 84 = .ok (.iinc 4 1, 3) := dqo_132 4 1 (by decide) (kb_X2_digest_1 20 rfl) (kb_X2_digest_1 21 rfl) (kb_X2_digest_1 22 rfl)
theorem dX2_digest_87 : decode cX2_digest 87 = .ok (.goto (-31), 3) := dqo_167 255 225 (by decide) (kb_X2_digest_1 23 rfl) (kb_X2_digest_1 24 rfl) (kb_X2_digest_1 25 rfl)
theorem dX2_digest_90 : decode cX2_digest 90 = .ok (.iinc 3 1, 3) := dqo_132 3 1 (by decide) (kb_X2_digest_1 26 rfl) (kb_X2_digest_1 27 rfl) (kb_X2_digest_1 28 rfl)
theorem dX2_digest_93 : decode cX2_digest 93 = .ok (.goto (-45), 3) := dqo_167 255 211 (by decide) (kb_X2_digest_1 29 rfl) (kb_X2_digest_1 30 rfl) (kb_X2_digest_1 31 rfl)
theorem dX2_digest_96 : decode cX2_digest 96 = .ok (.lload_n 1, 1) := dqo_31 (kb_X2_digest_1 32 rfl)
theorem dX2_digest_97 : decode cX2_digest 97 = .ok (.aload_n 0, 1) := dqo_42 (kb_X2_digest_1 33 rfl)
theorem dX2_digest_98 : decode cX2_digest 98 = .ok (.invokevirtual 271, 3) := dqo_182 1 15 (kb_X2_digest_1 34 rfl) (kb_X2_digest_1 35 rfl) (kb_X2_digest_1 36 rfl)
theorem dX2_digest_101 : decode cX2_digest 101 = .ok (.ifCond .eq 7, 3) := dqo_153 0 7 (by decide) (kb_X2_digest_1 37 rfl) (kb_X2_digest_1 38 rfl) (kb_X2_digest_1 39 rfl)
theorem dX2_digest_104 : decode cX2_digest 104 = .ok (.lconst 1, 1) := dqo_10 (kb_X2_digest_1 40 rfl)
theorem dX2_digest_105 : decode cX2_digest 105 = .ok (.goto 4, 3) := dqo_167 0 4 (by decide) (kb_X2_digest_1 41 rfl) (kb_X2_digest_1 42 rfl) (kb_X2_digest_1 43 rfl)
theorem dX2_digest_109 : decode cX2_digest 109 = .ok (.invokestatic 257, 3) := dqo_184 1 1 (kb_X2_digest_1 45 rfl) (kb_X2_digest_1 46 rfl) (kb_X2_digest_1 47 rfl)
theorem dX2_digest_112 : decode cX2_digest 112 = .ok (.lreturn, 1) := dqo_173 (kb_X2_digest_1 48 rfl)
theorem pk_X2_house : PkV RX2 yX2_house cX2_house 2 (some .int) 1 := ⟨⟨qi_X2_house, qs_X2_house, qz_X2, qc_X2_house⟩, rfl, mh_X2.1, mh_X2.2, pd_1⟩
theorem pk_X2_isSound : PkV RX2 yX2_isSound cX2_isSound 3 (some .boolean) 0 := ⟨⟨qi_X2_isSound, qs_X2_isSound, qz_X2, qc_X2_isSound⟩, rfl, mh_X2.1, mh_X2.2, pd_27⟩
theorem pk_X2_mixCursors : PkV RX2 yX2_mixCursors cX2_mixCursors 7 (some .long) 1 := ⟨⟨qi_X2_mixCursors, qs_X2_mixCursors, qz_X2, qc_X2_mixCursors⟩, rfl, mh_X2.1, mh_X2.2, pd_42⟩
theorem pk_X2_mixRows : PkV RX2 yX2_mixRows cX2_mixRows 7 (some .long) 1 := ⟨⟨qi_X2_mixRows, qs_X2_mixRows, qz_X2, qc_X2_mixRows⟩, rfl, mh_X2.1, mh_X2.2, pd_42⟩
theorem pk_X2_mixWindows : PkV RX2 yX2_mixWindows cX2_mixWindows 7 (some .long) 1 := ⟨⟨qi_X2_mixWindows, qs_X2_mixWindows, qz_X2, qc_X2_mixWindows⟩, rfl, mh_X2.1, mh_X2.2, pd_42⟩
set_option maxRecDepth 100000 in
set_option maxHeartbeats 800000 in
theorem C_digest {l : Launch} {D : va_G} {cy : Nat → ClassId} {X : (Nat → Prop) → State → Heap → Prop} {aK aV : Nat → Nat} {tO tT : Nat} {gO gT : Nat → Int32} {a f : Nat → Nat → Nat} {r : Nat → Nat → Int32} {kn : Int32} {E : va_W} (hX : EnvS X cy aK aV tO tT gO gT) (hC : CInv f) (hR : ∀ i q, i < 4 → q < f 4 i → -99 ≤ (r (f 0 i) (f 3 i + q)).toInt ∧ (r (f 0 i) (f 3 i + q)).toInt ≤ 99) : Cm l D cy X yX2_digest cX2_digest 5 (some .long) (rmk 8 10 436 450) [.ref (a 0 0)] (WC cy a f r kn ++ E) (fun v1 w1 => v1 = some (.long (dgF f r kn)) ∧ ∃ f' r', w1 = WC cy a f' r' kn ++ E ∧ Scr f r f' r') (fun _ => False) := by
  refine Cm.of [some (.ref (a 0 0)), none, none, none, none] pn_X2 rfl (Nat.le_of_ble_eq_true rfl) ?_
  intro p e s m args below meth c A C hE hr hnt hn
  have K96 : ∀ (z1 z0 : Int64), z0 = mxF (hhF f kn) 4 0 7807 → z1 = mpF f r 4 0 (mcF f 3 0 (mwF f r 4 0 (mrF f r 4 0 z0))) → vC p l e (rmk 8 10 436 450) s m args below meth c D A (vx_MQ below (vG (fun v1 w1 => v1 = some (.long (dgF f r kn)) ∧ ∃ f' r', w1 = WC cy a f' r' kn ++ E ∧ Scr f r f' r') D vwCl A) (vGX (fun _ => False) D vwCl (WC cy a f r kn ++ E) A) args s (rmk 8 10 436 450).cells (rmk 8 10 436 450).slots A) 5 10 436 (WC cy a f r kn ++ E) [some (.ref (a 0 0)), some (.long z1), none, none, none] 96 [] := by
    intro z1 z0 hz0 hz1
    subst hz1
    subst hz0
    refine r_lload_n C dX2_digest_96 rfl ?_
    refine r_aload_n C dX2_digest_97 rfl ?_
    refine c_V (st := [.long (mpF f r 4 0 (mcF f 3 0 (mwF f r 4 0 (mrF f r 4 0 (mxF (hhF f kn) 4 0 7807)))))]) hX.1.1.stb C hE (K_isSound (a := a) (f := f) (r := r) (kn := kn) hX.1.1 hC hR) pk_X2_isSound qm_X2_271 0 6 rfl rfl wc_0 rfl rfl (Nat.le_of_ble_eq_true rfl) dX2_digest_98 ⟨Nat.le_of_ble_eq_true rfl, Nat.le_of_ble_eq_true rfl⟩ ⟨Nat.le_of_ble_eq_true rfl, Nat.le_of_ble_eq_true rfl⟩ (fun v9 w9 h9 => ?_) (fun _ h9 => h9.elim)
    obtain ⟨rfl, f1, r1, rfl, hs1⟩ := h9
    refine r_ifN_eq (a := 1) (tgt := 108) C (by first | omega | (simp [up2, *]; done) | (simp [up2, *]; omega) | (simp only [up2_eq]; omega) | (split <;> omega)) dX2_digest_101 (by decide) (fun h101_1 => ?_) (fun h101_1 => ?_)
    · exact absurd h101_1 (by first | omega | (simp [up2, *]; done) | (simp [up2, *]; omega) | (simp only [up2_eq]; omega) | (split <;> omega))
    · skip
      refine r_lconst (v := 1) C dX2_digest_104 (by decide) ?_
      refine r_goto (tgt := 109) C dX2_digest_105 (by decide) ?_
      refine d_S (st := []) hX.1.1.stb C hE (C_mix (f := f1) (r := r1) (kn := kn) (u := (mpF f r 4 0 (mcF f 3 0 (mwF f r 4 0 (mrF f r 4 0 (mxF (hhF f kn) 4 0 7807)))))) (v := 1) hX.1.1 ) pk_X2_mix qm_X2_257 rfl rfl (Nat.le_of_ble_eq_true rfl) dX2_digest_109 ⟨Nat.le_of_ble_eq_true rfl, Nat.le_of_ble_eq_true rfl⟩ ⟨by first | (simp only [rmk, rmz]; omega) | (simp only [rmk, rmz]; done) | omega, by first | (simp only [rmk, rmz]; omega) | (simp only [rmk, rmz]; done) | omega⟩ ?_
      exact r_lret C hr dX2_digest_112 ⟨rfl, f1, r1, rfl, hs1⟩ (by first | (simp only [rmk, rmz]; omega) | (simp only [rmk, rmz]; done) | omega) (by first | (simp only [rmk, rmz]; omega) | (simp only [rmk, rmz]; done) | omega)
  have K28 : ∀ (z0 : Int64), z0 = mxF (hhF f kn) 4 0 7807 → vC p l e (rmk 8 10 436 450) s m args below meth c D A (vx_MQ below (vG (fun v1 w1 => v1 = some (.long (dgF f r kn)) ∧ ∃ f' r', w1 = WC cy a f' r' kn ++ E ∧ Scr f r f' r') D vwCl A) (vGX (fun _ => False) D vwCl (WC cy a f r kn ++ E) A) args s (rmk 8 10 436 450).cells (rmk 8 10 436 450).slots A) 5 0 0 (WC cy a f r kn ++ E) [some (.ref (a 0 0)), some (.long z0), none, none, none] 28 [] := by
    intro z0 hz0
    refine r_aload_n C dX2_digest_28 rfl ?_
    refine r_lload_n C dX2_digest_29 rfl ?_
    refine c_V (st := []) hX.stb C hE (C_mixRows (a := a) (f := f) (r := r) (kn := kn) (u := z0) hX hC hR) pk_X2_mixRows qm_X2_261 0 6 rfl rfl wc_0 rfl rfl (Nat.le_of_ble_eq_true rfl) dX2_digest_30 ⟨Nat.le_of_ble_eq_true rfl, Nat.le_of_ble_eq_true rfl⟩ ⟨Nat.le_of_ble_eq_true rfl, Nat.le_of_ble_eq_true rfl⟩ (fun v9 w9 h9 => ?_) (fun _ h9 => h9.elim)
    obtain ⟨rfl, rfl⟩ := h9
    refine r_widen (k := 10) (n := 436) (Nat.le_of_ble_eq_true rfl) (Nat.le_of_ble_eq_true rfl) ?_
    refine r_lstore_n C dX2_digest_33 (by decide) rfl ?_
    refine r_aload_n C dX2_digest_34 rfl ?_
    refine r_lload_n C dX2_digest_35 rfl ?_
    refine d_V (st := []) hX.1.1.stb C hE (C_mixWindows (f := f) (r := r) (kn := kn) (u := (mrF f r 4 0 z0)) hX.1.1 hC) pk_X2_mixWindows qm_X2_265 0 6 rfl rfl wc_0 rfl rfl (Nat.le_of_ble_eq_true rfl) dX2_digest_36 ⟨Nat.le_of_ble_eq_true rfl, Nat.le_of_ble_eq_true rfl⟩ ⟨by first | (simp only [rmk, rmz]; omega) | (simp only [rmk, rmz]; done) | omega, by first | (simp only [rmk, rmz]; omega) | (simp only [rmk, rmz]; done) | omega⟩ ?_
    refine r_lstore_n C dX2_digest_39 (by decide) rfl ?_
    refine r_aload_n C dX2_digest_40 rfl ?_
    refine r_lload_n C dX2_digest_41 rfl ?_
    refine d_V (st := []) hX.1.1.stb C hE (C_mixCursors (f := f) (r := r) (kn := kn) (u := (mwF f r 4 0 (mrF f r 4 0 z0))) hX.1.1 hC) pk_X2_mixCursors qm_X2_268 0 6 rfl rfl wc_0 rfl rfl (Nat.le_of_ble_eq_true rfl) dX2_digest_42 ⟨Nat.le_of_ble_eq_true rfl, Nat.le_of_ble_eq_true rfl⟩ ⟨by first | (simp only [rmk, rmz]; omega) | (simp only [rmk, rmz]; done) | omega, by first | (simp only [rmk, rmz]; omega) | (simp only [rmk, rmz]; done) | omega⟩ ?_
    refine r_lstore_n C dX2_digest_45 (by decide) rfl ?_
    refine r_iconst (v := (nI 0)) C dX2_digest_46 (by decide) ?_
    refine r_istore_n C dX2_digest_47 (by decide) rfl ?_
    have L48 : ∀ (d : Nat) (i : Nat) (z : Int64), (ht : i + d = 4) → (hF : mpF f r d i z = mpF f r 4 0 (mcF f 3 0 (mwF f r 4 0 (mrF f r 4 0 z0)))) → vC p l e (rmk 8 10 436 450) s m args below meth c D A (vx_MQ below (vG (fun v1 w1 => v1 = some (.long (dgF f r kn)) ∧ ∃ f' r', w1 = WC cy a f' r' kn ++ E ∧ Scr f r f' r') D vwCl A) (vGX (fun _ => False) D vwCl (WC cy a f r kn ++ E) A) args s (rmk 8 10 436 450).cells (rmk 8 10 436 450).slots A) 5 10 436 (WC cy a f r kn ++ E) [some (.ref (a 0 0)), some (.long z), none, some (.int (nI i)), none] 48 [] := by
      intro d
      induction d with
      | zero =>
        intro i z ht hF
        refine r_iload_n C dX2_digest_48 rfl ?_
        refine r_iconst (v := (nI 4)) C dX2_digest_49 (by decide) ?_
        refine r_icN_ge (a := i) (b := 4) (tgt := 96) C (by first | omega | (simp [up2, *]; done) | (simp [up2, *]; omega) | (simp only [up2_eq]; omega) | (split <;> omega)) (by first | omega | (simp [up2, *]; done) | (simp [up2, *]; omega) | (simp only [up2_eq]; omega) | (split <;> omega)) dX2_digest_50 (by decide) (fun h50_2 => ?_) (fun h50_2 => ?_)
        · first
          | exfalso; first | omega | contradiction
          | skip
            refine r_drop 3 ?_
            exact K96 z z0 hz0 (by first | exact hF | (exfalso; omega))
        · first
          | exfalso; first | omega | contradiction
          | skip
            refine r_iconst (v := (nI 0)) C dX2_digest_53 (by decide) ?_
            refine r_istore C dX2_digest_54 (by decide) rfl ?_
            have L56 : ∀ (d : Nat) (j : Nat) (y : Int64), (hs : j + d = 4) → (hG : mxF (poV f r i) d j y = mxF (poV f r i) 4 0 z) → vC p l e (rmk 8 10 436 450) s m args below meth c D A (vx_MQ below (vG (fun v1 w1 => v1 = some (.long (dgF f r kn)) ∧ ∃ f' r', w1 = WC cy a f' r' kn ++ E ∧ Scr f r f' r') D vwCl A) (vGX (fun _ => False) D vwCl (WC cy a f r kn ++ E) A) args s (rmk 8 10 436 450).cells (rmk 8 10 436 450).slots A) 5 10 436 (WC cy a f r kn ++ E) [some (.ref (a 0 0)), some (.long y), none, some (.int (nI i)), some (.int (nI j))] 56 [] := by
              intro d
              induction d with
              | zero =>
                intro j y hs hG
                refine r_iload C dX2_digest_56 rfl ?_
                refine r_iconst (v := (nI 4)) C dX2_digest_58 (by decide) ?_
                refine r_icN_ge (a := j) (b := 4) (tgt := 90) C (by first | omega | (simp [up2, *]; done) | (simp [up2, *]; omega) | (simp only [up2_eq]; omega) | (split <;> omega)) (by first | omega | (simp [up2, *]; done) | (simp [up2, *]; omega) | (simp only [up2_eq]; omega) | (split <;> omega)) dX2_digest_59 (by decide) (fun h59_3 => ?_) (fun h59_3 => ?_)
                · first
                  | exfalso; first | omega | contradiction
                  | skip
                    refine r_iincN C dX2_digest_90 rfl (by decide) rfl ?_
                    refine r_goto (tgt := 48) C dX2_digest_93 (by decide) ?_
                    refine r_drop 4 ?_
                    exact (Nat.not_lt_zero _ (by omega)).elim
                · first
                  | exfalso; first | omega | contradiction
                  | skip
                    obtain ⟨hr0, -, -, hr3, hr4, -⟩ := hC.rw (i := i) (by omega)
                    obtain ⟨hs0, -, -, hs3, hs4, -⟩ := hC.rw (i := j) (by omega)
                    refine r_lload_n C dX2_digest_62 rfl ?_
                    refine r_aload_n C dX2_digest_63 rfl ?_
                    refine s_get C 0 (by decide) qf_X2_11 rfl rfl dX2_digest_64 ?_
                    refine r_iload_n C dX2_digest_67 rfl ?_
                    refine s_parts C (by first | omega | (simp [up2, *]; done) | (simp [up2, *]; omega) | (simp only [up2_eq]; omega) | (split <;> omega)) dX2_digest_68 ?_
                    refine r_aload_n C dX2_digest_69 rfl ?_
                    refine s_get C 0 (by decide) qf_X2_11 rfl rfl dX2_digest_70 ?_
                    refine r_iload C dX2_digest_73 rfl ?_
                    refine s_parts C (by first | omega | (simp [up2, *]; done) | (simp [up2, *]; omega) | (simp only [up2_eq]; omega) | (split <;> omega)) dX2_digest_75 ?_
                    refine d_V (st := [.long y]) hX.1.1.stb C hE (C_placeOfAll (f := f) (r := r) (kn := kn) (i := i) (j := j) hX.1.1 (by omega) (by omega) (by omega) (by omega) (by omega) (by omega)) pk_X1_placeOfAll qm_X2_122 (3 + i) 5 rfl rfl (wc_p (by first | omega | (simp [up2, *]; done) | (simp [up2, *]; omega) | (simp only [up2_eq]; omega) | (split <;> omega))) rfl rfl (Nat.le_of_ble_eq_true rfl) dX2_digest_76 ⟨Nat.le_of_ble_eq_true rfl, Nat.le_of_ble_eq_true rfl⟩ ⟨by first | (simp only [rmk, rmz]; omega) | (simp only [rmk, rmz]; done) | omega, by first | (simp only [rmk, rmz]; omega) | (simp only [rmk, rmz]; done) | omega⟩ ?_
                    refine r_i2l C dX2_digest_79 ?_
                    refine d_S (st := []) hX.1.1.stb C hE (C_mix (f := f) (r := r) (kn := kn) (u := y) (v := (((poV f r i j)).toInt64)) hX.1.1 ) pk_X2_mix qm_X2_257 rfl rfl (Nat.le_of_ble_eq_true rfl) dX2_digest_80 ⟨Nat.le_of_ble_eq_true rfl, Nat.le_of_ble_eq_true rfl⟩ ⟨by first | (simp only [rmk, rmz]; omega) | (simp only [rmk, rmz]; done) | omega, by first | (simp only [rmk, rmz]; omega) | (simp only [rmk, rmz]; done) | omega⟩ ?_
                    refine r_lstore_n C dX2_digest_83 (by decide) rfl ?_
                    refine r_iincN C dX2_digest_84 rfl (by decide) rfl ?_
                    refine r_goto (tgt := 56) C dX2_digest_87 (by decide) ?_
                    exact (Nat.not_lt_zero _ (by omega)).elim
              | succ d ih_L56 =>
                intro j y hs hG
                refine r_iload C dX2_digest_56 rfl ?_
                refine r_iconst (v := (nI 4)) C dX2_digest_58 (by decide) ?_
                refine r_icN_ge (a := j) (b := 4) (tgt := 90) C (by first | omega | (simp [up2, *]; done) | (simp [up2, *]; omega) | (simp only [up2_eq]; omega) | (split <;> omega)) (by first | omega | (simp [up2, *]; done) | (simp [up2, *]; omega) | (simp only [up2_eq]; omega) | (split <;> omega)) dX2_digest_59 (by decide) (fun h59_4 => ?_) (fun h59_4 => ?_)
                · first
                  | exfalso; first | omega | contradiction
                  | skip
                    refine r_iincN C dX2_digest_90 rfl (by decide) rfl ?_
                    refine r_goto (tgt := 48) C dX2_digest_93 (by decide) ?_
                    refine r_drop 4 ?_
                    exact (Nat.not_lt_zero _ (by omega)).elim
                · first
                  | exfalso; first | omega | contradiction
                  | skip
                    obtain ⟨hr0, -, -, hr3, hr4, -⟩ := hC.rw (i := i) (by omega)
                    obtain ⟨hs0, -, -, hs3, hs4, -⟩ := hC.rw (i := j) (by omega)
                    refine r_lload_n C dX2_digest_62 rfl ?_
                    refine r_aload_n C dX2_digest_63 rfl ?_
                    refine s_get C 0 (by decide) qf_X2_11 rfl rfl dX2_digest_64 ?_
                    refine r_iload_n C dX2_digest_67 rfl ?_
                    refine s_parts C (by first | omega | (simp [up2, *]; done) | (simp [up2, *]; omega) | (simp only [up2_eq]; omega) | (split <;> omega)) dX2_digest_68 ?_
                    refine r_aload_n C dX2_digest_69 rfl ?_
                    refine s_get C 0 (by decide) qf_X2_11 rfl rfl dX2_digest_70 ?_
                    refine r_iload C dX2_digest_73 rfl ?_
                    refine s_parts C (by first | omega | (simp [up2, *]; done) | (simp [up2, *]; omega) | (simp only [up2_eq]; omega) | (split <;> omega)) dX2_digest_75 ?_
                    refine d_V (st := [.long y]) hX.1.1.stb C hE (C_placeOfAll (f := f) (r := r) (kn := kn) (i := i) (j := j) hX.1.1 (by omega) (by omega) (by omega) (by omega) (by omega) (by omega)) pk_X1_placeOfAll qm_X2_122 (3 + i) 5 rfl rfl (wc_p (by first | omega | (simp [up2, *]; done) | (simp [up2, *]; omega) | (simp only [up2_eq]; omega) | (split <;> omega))) rfl rfl (Nat.le_of_ble_eq_true rfl) dX2_digest_76 ⟨Nat.le_of_ble_eq_true rfl, Nat.le_of_ble_eq_true rfl⟩ ⟨by first | (simp only [rmk, rmz]; omega) | (simp only [rmk, rmz]; done) | omega, by first | (simp only [rmk, rmz]; omega) | (simp only [rmk, rmz]; done) | omega⟩ ?_
                    refine r_i2l C dX2_digest_79 ?_
                    refine d_S (st := []) hX.1.1.stb C hE (C_mix (f := f) (r := r) (kn := kn) (u := y) (v := (((poV f r i j)).toInt64)) hX.1.1 ) pk_X2_mix qm_X2_257 rfl rfl (Nat.le_of_ble_eq_true rfl) dX2_digest_80 ⟨Nat.le_of_ble_eq_true rfl, Nat.le_of_ble_eq_true rfl⟩ ⟨by first | (simp only [rmk, rmz]; omega) | (simp only [rmk, rmz]; done) | omega, by first | (simp only [rmk, rmz]; omega) | (simp only [rmk, rmz]; done) | omega⟩ ?_
                    refine r_lstore_n C dX2_digest_83 (by decide) rfl ?_
                    refine r_iincN C dX2_digest_84 rfl (by decide) rfl ?_
                    refine r_goto (tgt := 56) C dX2_digest_87 (by decide) ?_
                    exact ih_L56 (j + 1) _ (by omega) (by rw [← hG]; rfl)
            exact L56 4 0 z (by omega) rfl
      | succ d ih_L48 =>
        intro i z ht hF
        refine r_iload_n C dX2_digest_48 rfl ?_
        refine r_iconst (v := (nI 4)) C dX2_digest_49 (by decide) ?_
        refine r_icN_ge (a := i) (b := 4) (tgt := 96) C (by first | omega | (simp [up2, *]; done) | (simp [up2, *]; omega) | (simp only [up2_eq]; omega) | (split <;> omega)) (by first | omega | (simp [up2, *]; done) | (simp [up2, *]; omega) | (simp only [up2_eq]; omega) | (split <;> omega)) dX2_digest_50 (by decide) (fun h50_5 => ?_) (fun h50_5 => ?_)
        · first
          | exfalso; first | omega | contradiction
          | skip
            refine r_drop 3 ?_
            exact K96 z z0 hz0 (by first | exact hF | (exfalso; omega))
        · first
          | exfalso; first | omega | contradiction
          | skip
            refine r_iconst (v := (nI 0)) C dX2_digest_53 (by decide) ?_
            refine r_istore C dX2_digest_54 (by decide) rfl ?_
            have L56 : ∀ (d : Nat) (j : Nat) (y : Int64), (hs : j + d = 4) → (hG : mxF (poV f r i) d j y = mxF (poV f r i) 4 0 z) → vC p l e (rmk 8 10 436 450) s m args below meth c D A (vx_MQ below (vG (fun v1 w1 => v1 = some (.long (dgF f r kn)) ∧ ∃ f' r', w1 = WC cy a f' r' kn ++ E ∧ Scr f r f' r') D vwCl A) (vGX (fun _ => False) D vwCl (WC cy a f r kn ++ E) A) args s (rmk 8 10 436 450).cells (rmk 8 10 436 450).slots A) 5 10 436 (WC cy a f r kn ++ E) [some (.ref (a 0 0)), some (.long y), none, some (.int (nI i)), some (.int (nI j))] 56 [] := by
              intro d
              induction d with
              | zero =>
                intro j y hs hG
                refine r_iload C dX2_digest_56 rfl ?_
                refine r_iconst (v := (nI 4)) C dX2_digest_58 (by decide) ?_
                refine r_icN_ge (a := j) (b := 4) (tgt := 90) C (by first | omega | (simp [up2, *]; done) | (simp [up2, *]; omega) | (simp only [up2_eq]; omega) | (split <;> omega)) (by first | omega | (simp [up2, *]; done) | (simp [up2, *]; omega) | (simp only [up2_eq]; omega) | (split <;> omega)) dX2_digest_59 (by decide) (fun h59_6 => ?_) (fun h59_6 => ?_)
                · first
                  | exfalso; first | omega | contradiction
                  | skip
                    refine r_iincN C dX2_digest_90 rfl (by decide) rfl ?_
                    refine r_goto (tgt := 48) C dX2_digest_93 (by decide) ?_
                    refine r_drop 4 ?_
                    exact ih_L48 (i + 1) _ (by omega) (by rw [← hF]; exact congrArg (mpF f r _ (i + 1)) hG)
                · first
                  | exfalso; first | omega | contradiction
                  | skip
                    obtain ⟨hr0, -, -, hr3, hr4, -⟩ := hC.rw (i := i) (by omega)
                    obtain ⟨hs0, -, -, hs3, hs4, -⟩ := hC.rw (i := j) (by omega)
                    refine r_lload_n C dX2_digest_62 rfl ?_
                    refine r_aload_n C dX2_digest_63 rfl ?_
                    refine s_get C 0 (by decide) qf_X2_11 rfl rfl dX2_digest_64 ?_
                    refine r_iload_n C dX2_digest_67 rfl ?_
                    refine s_parts C (by first | omega | (simp [up2, *]; done) | (simp [up2, *]; omega) | (simp only [up2_eq]; omega) | (split <;> omega)) dX2_digest_68 ?_
                    refine r_aload_n C dX2_digest_69 rfl ?_
                    refine s_get C 0 (by decide) qf_X2_11 rfl rfl dX2_digest_70 ?_
                    refine r_iload C dX2_digest_73 rfl ?_
                    refine s_parts C (by first | omega | (simp [up2, *]; done) | (simp [up2, *]; omega) | (simp only [up2_eq]; omega) | (split <;> omega)) dX2_digest_75 ?_
                    refine d_V (st := [.long y]) hX.1.1.stb C hE (C_placeOfAll (f := f) (r := r) (kn := kn) (i := i) (j := j) hX.1.1 (by omega) (by omega) (by omega) (by omega) (by omega) (by omega)) pk_X1_placeOfAll qm_X2_122 (3 + i) 5 rfl rfl (wc_p (by first | omega | (simp [up2, *]; done) | (simp [up2, *]; omega) | (simp only [up2_eq]; omega) | (split <;> omega))) rfl rfl (Nat.le_of_ble_eq_true rfl) dX2_digest_76 ⟨Nat.le_of_ble_eq_true rfl, Nat.le_of_ble_eq_true rfl⟩ ⟨by first | (simp only [rmk, rmz]; omega) | (simp only [rmk, rmz]; done) | omega, by first | (simp only [rmk, rmz]; omega) | (simp only [rmk, rmz]; done) | omega⟩ ?_
                    refine r_i2l C dX2_digest_79 ?_
                    refine d_S (st := []) hX.1.1.stb C hE (C_mix (f := f) (r := r) (kn := kn) (u := y) (v := (((poV f r i j)).toInt64)) hX.1.1 ) pk_X2_mix qm_X2_257 rfl rfl (Nat.le_of_ble_eq_true rfl) dX2_digest_80 ⟨Nat.le_of_ble_eq_true rfl, Nat.le_of_ble_eq_true rfl⟩ ⟨by first | (simp only [rmk, rmz]; omega) | (simp only [rmk, rmz]; done) | omega, by first | (simp only [rmk, rmz]; omega) | (simp only [rmk, rmz]; done) | omega⟩ ?_
                    refine r_lstore_n C dX2_digest_83 (by decide) rfl ?_
                    refine r_iincN C dX2_digest_84 rfl (by decide) rfl ?_
                    refine r_goto (tgt := 56) C dX2_digest_87 (by decide) ?_
                    exact (Nat.not_lt_zero _ (by omega)).elim
              | succ d ih_L56 =>
                intro j y hs hG
                refine r_iload C dX2_digest_56 rfl ?_
                refine r_iconst (v := (nI 4)) C dX2_digest_58 (by decide) ?_
                refine r_icN_ge (a := j) (b := 4) (tgt := 90) C (by first | omega | (simp [up2, *]; done) | (simp [up2, *]; omega) | (simp only [up2_eq]; omega) | (split <;> omega)) (by first | omega | (simp [up2, *]; done) | (simp [up2, *]; omega) | (simp only [up2_eq]; omega) | (split <;> omega)) dX2_digest_59 (by decide) (fun h59_7 => ?_) (fun h59_7 => ?_)
                · first
                  | exfalso; first | omega | contradiction
                  | skip
                    refine r_iincN C dX2_digest_90 rfl (by decide) rfl ?_
                    refine r_goto (tgt := 48) C dX2_digest_93 (by decide) ?_
                    refine r_drop 4 ?_
                    exact ih_L48 (i + 1) _ (by omega) (by rw [← hF]; exact congrArg (mpF f r _ (i + 1)) hG)
                · first
                  | exfalso; first | omega | contradiction
                  | skip
                    obtain ⟨hr0, -, -, hr3, hr4, -⟩ := hC.rw (i := i) (by omega)
                    obtain ⟨hs0, -, -, hs3, hs4, -⟩ := hC.rw (i := j) (by omega)
                    refine r_lload_n C dX2_digest_62 rfl ?_
                    refine r_aload_n C dX2_digest_63 rfl ?_
                    refine s_get C 0 (by decide) qf_X2_11 rfl rfl dX2_digest_64 ?_
                    refine r_iload_n C dX2_digest_67 rfl ?_
                    refine s_parts C (by first | omega | (simp [up2, *]; done) | (simp [up2, *]; omega) | (simp only [up2_eq]; omega) | (split <;> omega)) dX2_digest_68 ?_
                    refine r_aload_n C dX2_digest_69 rfl ?_
                    refine s_get C 0 (by decide) qf_X2_11 rfl rfl dX2_digest_70 ?_
                    refine r_iload C dX2_digest_73 rfl ?_
                    refine s_parts C (by first | omega | (simp [up2, *]; done) | (simp [up2, *]; omega) | (simp only [up2_eq]; omega) | (split <;> omega)) dX2_digest_75 ?_
                    refine d_V (st := [.long y]) hX.1.1.stb C hE (C_placeOfAll (f := f) (r := r) (kn := kn) (i := i) (j := j) hX.1.1 (by omega) (by omega) (by omega) (by omega) (by omega) (by omega)) pk_X1_placeOfAll qm_X2_122 (3 + i) 5 rfl rfl (wc_p (by first | omega | (simp [up2, *]; done) | (simp [up2, *]; omega) | (simp only [up2_eq]; omega) | (split <;> omega))) rfl rfl (Nat.le_of_ble_eq_true rfl) dX2_digest_76 ⟨Nat.le_of_ble_eq_true rfl, Nat.le_of_ble_eq_true rfl⟩ ⟨by first | (simp only [rmk, rmz]; omega) | (simp only [rmk, rmz]; done) | omega, by first | (simp only [rmk, rmz]; omega) | (simp only [rmk, rmz]; done) | omega⟩ ?_
                    refine r_i2l C dX2_digest_79 ?_
                    refine d_S (st := []) hX.1.1.stb C hE (C_mix (f := f) (r := r) (kn := kn) (u := y) (v := (((poV f r i j)).toInt64)) hX.1.1 ) pk_X2_mix qm_X2_257 rfl rfl (Nat.le_of_ble_eq_true rfl) dX2_digest_80 ⟨Nat.le_of_ble_eq_true rfl, Nat.le_of_ble_eq_true rfl⟩ ⟨by first | (simp only [rmk, rmz]; omega) | (simp only [rmk, rmz]; done) | omega, by first | (simp only [rmk, rmz]; omega) | (simp only [rmk, rmz]; done) | omega⟩ ?_
                    refine r_lstore_n C dX2_digest_83 (by decide) rfl ?_
                    refine r_iincN C dX2_digest_84 rfl (by decide) rfl ?_
                    refine r_goto (tgt := 56) C dX2_digest_87 (by decide) ?_
                    exact ih_L56 (j + 1) _ (by omega) (by rw [← hG]; rfl)
            exact L56 4 0 z (by omega) rfl
    exact L48 4 0 _ (by omega) rfl
  refine r_ldc2 (v := 7807) C ql_X2_252 dX2_digest_0 ?_
  refine r_lstore_n C dX2_digest_3 (by decide) rfl ?_
  refine r_iconst (v := (nI 0)) C dX2_digest_4 (by decide) ?_
  refine r_istore_n C dX2_digest_5 (by decide) rfl ?_
  have L6 : ∀ (d : Nat) (t : Nat) (z : Int64), (ht : t + d = 4) → (hF : mxF (hhF f kn) d t z = mxF (hhF f kn) 4 0 7807) → vC p l e (rmk 8 10 436 450) s m args below meth c D A (vx_MQ below (vG (fun v1 w1 => v1 = some (.long (dgF f r kn)) ∧ ∃ f' r', w1 = WC cy a f' r' kn ++ E ∧ Scr f r f' r') D vwCl A) (vGX (fun _ => False) D vwCl (WC cy a f r kn ++ E) A) args s (rmk 8 10 436 450).cells (rmk 8 10 436 450).slots A) 5 0 0 (WC cy a f r kn ++ E) [some (.ref (a 0 0)), some (.long z), none, some (.int (nI t)), none] 6 [] := by
    intro d
    induction d with
    | zero =>
      intro t z ht hF
      refine r_iload_n C dX2_digest_6 rfl ?_
      refine r_iconst (v := (nI 4)) C dX2_digest_7 (by decide) ?_
      refine r_icN_ge (a := t) (b := 4) (tgt := 28) C (by first | omega | (simp [up2, *]; done) | (simp [up2, *]; omega) | (simp only [up2_eq]; omega) | (split <;> omega)) (by first | omega | (simp [up2, *]; done) | (simp [up2, *]; omega) | (simp only [up2_eq]; omega) | (split <;> omega)) dX2_digest_8 (by decide) (fun h8_8 => ?_) (fun h8_8 => ?_)
      · first
        | exfalso; first | omega | contradiction
        | skip
          skip
          refine r_drop 3 ?_
          exact K28 z (by first | exact hF | (exfalso; omega))
      · first
        | exfalso; first | omega | contradiction
        | skip
          refine r_lload_n C dX2_digest_11 rfl ?_
          refine r_aload_n C dX2_digest_12 rfl ?_
          refine r_iload_n C dX2_digest_13 rfl ?_
          refine d_V (st := [.long z]) hX.1.1.stb C hE (C_house_all (f := f) (r := r) (kn := kn) (q0 := t) hX.1.1 hC (by omega)) pk_X2_house qm_X2_254 0 6 rfl rfl wc_0 rfl rfl (Nat.le_of_ble_eq_true rfl) dX2_digest_14 ⟨Nat.le_of_ble_eq_true rfl, Nat.le_of_ble_eq_true rfl⟩ ⟨by first | (simp only [rmk, rmz]; omega) | (simp only [rmk, rmz]; done) | omega, by first | (simp only [rmk, rmz]; omega) | (simp only [rmk, rmz]; done) | omega⟩ ?_
          refine r_i2l C dX2_digest_17 ?_
          refine d_S (st := []) hX.1.1.stb C hE (C_mix (f := f) (r := r) (kn := kn) (u := z) (v := (((hhF f kn t)).toInt64)) hX.1.1 ) pk_X2_mix qm_X2_257 rfl rfl (Nat.le_of_ble_eq_true rfl) dX2_digest_18 ⟨Nat.le_of_ble_eq_true rfl, Nat.le_of_ble_eq_true rfl⟩ ⟨by first | (simp only [rmk, rmz]; omega) | (simp only [rmk, rmz]; done) | omega, by first | (simp only [rmk, rmz]; omega) | (simp only [rmk, rmz]; done) | omega⟩ ?_
          refine r_lstore_n C dX2_digest_21 (by decide) rfl ?_
          refine r_iincN C dX2_digest_22 rfl (by decide) rfl ?_
          refine r_goto (tgt := 6) C dX2_digest_25 (by decide) ?_
          exact (Nat.not_lt_zero _ (by omega)).elim
    | succ d ih_L6 =>
      intro t z ht hF
      refine r_iload_n C dX2_digest_6 rfl ?_
      refine r_iconst (v := (nI 4)) C dX2_digest_7 (by decide) ?_
      refine r_icN_ge (a := t) (b := 4) (tgt := 28) C (by first | omega | (simp [up2, *]; done) | (simp [up2, *]; omega) | (simp only [up2_eq]; omega) | (split <;> omega)) (by first | omega | (simp [up2, *]; done) | (simp [up2, *]; omega) | (simp only [up2_eq]; omega) | (split <;> omega)) dX2_digest_8 (by decide) (fun h8_9 => ?_) (fun h8_9 => ?_)
      · first
        | exfalso; first | omega | contradiction
        | skip
          skip
          refine r_drop 3 ?_
          exact K28 z (by first | exact hF | (exfalso; omega))
      · first
        | exfalso; first | omega | contradiction
        | skip
          refine r_lload_n C dX2_digest_11 rfl ?_
          refine r_aload_n C dX2_digest_12 rfl ?_
          refine r_iload_n C dX2_digest_13 rfl ?_
          refine d_V (st := [.long z]) hX.1.1.stb C hE (C_house_all (f := f) (r := r) (kn := kn) (q0 := t) hX.1.1 hC (by omega)) pk_X2_house qm_X2_254 0 6 rfl rfl wc_0 rfl rfl (Nat.le_of_ble_eq_true rfl) dX2_digest_14 ⟨Nat.le_of_ble_eq_true rfl, Nat.le_of_ble_eq_true rfl⟩ ⟨by first | (simp only [rmk, rmz]; omega) | (simp only [rmk, rmz]; done) | omega, by first | (simp only [rmk, rmz]; omega) | (simp only [rmk, rmz]; done) | omega⟩ ?_
          refine r_i2l C dX2_digest_17 ?_
          refine d_S (st := []) hX.1.1.stb C hE (C_mix (f := f) (r := r) (kn := kn) (u := z) (v := (((hhF f kn t)).toInt64)) hX.1.1 ) pk_X2_mix qm_X2_257 rfl rfl (Nat.le_of_ble_eq_true rfl) dX2_digest_18 ⟨Nat.le_of_ble_eq_true rfl, Nat.le_of_ble_eq_true rfl⟩ ⟨by first | (simp only [rmk, rmz]; omega) | (simp only [rmk, rmz]; done) | omega, by first | (simp only [rmk, rmz]; omega) | (simp only [rmk, rmz]; done) | omega⟩ ?_
          refine r_lstore_n C dX2_digest_21 (by decide) rfl ?_
          refine r_iincN C dX2_digest_22 rfl (by decide) rfl ?_
          refine r_goto (tgt := 6) C dX2_digest_25 (by decide) ?_
          exact ih_L6 (t + 1) _ (by omega) (by rw [← hF]; rfl)
  exact L6 4 0 7807 (by omega) rfl
