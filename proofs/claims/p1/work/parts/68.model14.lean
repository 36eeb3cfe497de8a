/-! THE MODEL: TEXT, DIGEST -/
def mrM (hf : Nat → Nat → Nat) (hq : Nat → Nat → Int32) : Nat → Nat → Int64 → Int64
  | 0, _, u => u
  | d + 1, i, u => mrM hf hq d (i + 1) (((mxF (hq i) (hf 4 i) 0 (u * 31 + (nI (hf 4 i)).toInt64)) * 31 + (hsF (hq i) (hf 4 i) 0 (nI 1)).toInt64) * 31 + (nI (tlx (hq i) (hf 4 i) + 1)).toInt64)
def wnM (hf : Nat → Nat → Nat) (k : Nat) : Nat := if hf 5 (4 + k) = 0 then 0 else hf 4 (4 + k)
def mwM (f hf : Nat → Nat → Nat) (hq : Nat → Nat → Int32) : Nat → Nat → Int64 → Int64
  | 0, _, u => u
  | d + 1, k, u => mwM f hf hq d (k + 1) (mxF (fun q => hq (f 1 (4 + k)) (f 3 (4 + k) + q)) (wnM hf k) 0 (mxF (fun q => nI (wqM f hf k q)) 3 0 u))
def mcM (hf : Nat → Nat → Nat) : Nat → Nat → Int64 → Int64
  | 0, _, u => u
  | d + 1, k, u => mcM hf d (k + 1) (mxF (cqM hf k) 5 0 u)
def poM (f hf : Nat → Nat → Nat) (hq : Nat → Nat → Int32) (w v : Nat) : Int32 := nI (poF (fun k => stF (fun q => (cutF (fun z => hq (f 1 w) (f 3 w + z)) (hf 4 w)) (k + q)) (cutF (fun z => hq (f 1 v) (f 3 v + z)) (hf 4 v)) (hf 4 v) 0) (hf 4 w + 1 - hf 4 v) 0)
def mpM (f hf : Nat → Nat → Nat) (hq : Nat → Nat → Int32) : Nat → Nat → Int64 → Int64
  | 0, _, u => u
  | d + 1, i, u => mpM f hf hq d (i + 1) (mxF (poM f hf hq i) 4 0 u)
def dgM (f hf : Nat → Nat → Nat) (hq : Nat → Nat → Int32) (kn : Int32) : Int64 := mpM f hf hq 4 0 (mcM hf 3 0 (mwM f hf hq 4 0 (mrM hf hq 4 0 (mxF (hoM hf kn) 4 0 7807)))) * 31 + (nI 1).toInt64

theorem dX4_add__0 : decode cX4_add_ 0 = .ok (.aload_n 0, 1) := dqo_42 (kb_of ke_X4_add_ 0 rfl)
theorem dX4_add__1 : decode cX4_add_ 1 = .ok (.aload_n 0, 1) := dqo_42 (kb_of ke_X4_add_ 1 rfl)
theorem dX4_add__2 : decode cX4_add_ 2 = .ok (.getfield 211, 3) := dqo_180 0 211 (kb_of ke_X4_add_ 2 rfl) (kb_of ke_X4_add_ 3 rfl) (kb_of ke_X4_add_ 4 rfl)
theorem dX4_add__5 : decode cX4_add_ 5 = .ok (.ldc2_w 215, 3) := dqo_20 0 215 (kb_of ke_X4_add_ 5 rfl) (kb_of ke_X4_add_ 6 rfl) (kb_of ke_X4_add_ 7 rfl)
theorem dX4_add__8 : decode cX4_add_ 8 = .ok (.lmul, 1) := dqo_105 (kb_of ke_X4_add_ 8 rfl)
theorem dX4_add__9 : decode cX4_add_ 9 = .ok (.lload_n 1, 1) := dqo_31 (kb_of ke_X4_add_ 9 rfl)
theorem dX4_add__10 : decode cX4_add_ 10 = .ok (.ladd, 1) := dqo_97 (kb_of ke_X4_add_ 10 rfl)
theorem dX4_add__11 : decode cX4_add_ 11 = .ok (.putfield 211, 3) := dqo_181 0 211 (kb_of ke_X4_add_ 11 rfl) (kb_of ke_X4_add_ 12 rfl) (kb_of ke_X4_add_ 13 rfl)
theorem dX4_add__14 : decode cX4_add_ 14 = .ok (.return_, 1) := dqo_177 (kb_of ke_X4_add_ 14 rfl)
theorem D_addL {l : Launch} {D : va_G} {cy : Nat → ClassId} {X : (Nat → Prop) → State → Heap → Prop} {ba ra : Nat → Nat} {hf : Nat → Nat → Nat} {hq : Nat → Nat → Int32} {kn th : Int32} {sm : Int64} {Y : va_W} {u : Int64} (hX : EnvM X cy) : Cd l D cy X yX4_add_ cX4_add_ 3 none (rmz 0 0) [.ref (ba 9), .long u] (WM cy ba ra hf hq kn th sm ++ Y) none (WM cy ba ra hf hq kn th (sm * 31 + u) ++ Y) := by
  refine Cm.of [some (.ref (ba 9)), some (.long u), none] pn_X4 rfl (Nat.le_of_ble_eq_true rfl) ?_
  intro p e s m args below meth c A C hE hr hnt hn
  refine r_aload_n C dX4_add__0 rfl ?_
  refine r_aload_n C dX4_add__1 rfl ?_
  refine m_get (v := .long sm) C 11 (by decide) qf_X4_211 rfl rfl dX4_add__2 ?_
  refine r_ldc2 (v := 31) C ql_X4_215 dX4_add__5 ?_
  refine r_lmul C dX4_add__8 ?_
  refine r_lload_n C dX4_add__9 rfl ?_
  refine r_ladd C dX4_add__10 ?_
  refine m_putS C qf_X4_211 dX4_add__11 ?_
  exact r_vret C hr dX4_add__14 ⟨rfl, rfl⟩ (by first | (simp only [rmk, rmz]; omega) | (simp only [rmk, rmz]; done) | omega) (by first | (simp only [rmk, rmz]; omega) | (simp only [rmk, rmz]; done) | omega)
theorem dX4_text_0 : decode cX4_text 0 = .ok (.aload_n 0, 1) := dqo_42 (kb_of ke_X4_text 0 rfl)
theorem dX4_text_1 : decode cX4_text 1 = .ok (.iload_n 1, 1) := dqo_27 (kb_of ke_X4_text 1 rfl)
theorem dX4_text_2 : decode cX4_text 2 = .ok (.invokestatic 119, 3) := dqo_184 0 119 (kb_of ke_X4_text 2 rfl) (kb_of ke_X4_text 3 rfl) (kb_of ke_X4_text 4 rfl)
theorem dX4_text_5 : decode cX4_text 5 = .ok (.iconst 0, 1) := dqo_3 (kb_of ke_X4_text 5 rfl)
theorem dX4_text_6 : decode cX4_text 6 = .ok (.iconst 0, 1) := dqo_3 (kb_of ke_X4_text 6 rfl)
theorem dX4_text_7 : decode cX4_text 7 = .ok (.invokevirtual 84, 3) := dqo_182 0 84 (kb_of ke_X4_text 7 rfl) (kb_of ke_X4_text 8 rfl) (kb_of ke_X4_text 9 rfl)
theorem dX4_text_10 : decode cX4_text 10 = .ok (.ifCond .eq 8, 3) := dqo_153 0 8 (by decide) (kb_of ke_X4_text 10 rfl) (kb_of ke_X4_text 11 rfl) (kb_of ke_X4_text 12 rfl)
theorem dX4_text_13 : decode cX4_text 13 = .ok (.ldc 151, 2) := dqo_18 151 (kb_of ke_X4_text 13 rfl) (kb_of ke_X4_text 14 rfl)
theorem dX4_text_15 : decode cX4_text 15 = .ok (.goto 8, 3) := dqo_167 0 8 (by decide) (kb_of ke_X4_text 15 rfl) (kb_of ke_X4_text 16 rfl) (kb_of ke_X4_text 17 rfl)
theorem dX4_text_23 : decode cX4_text 23 = .ok (.areturn, 1) := dqo_176 (kb_of ke_X4_text 23 rfl)
set_option maxRecDepth 100000 in
theorem D_text_noR {l : Launch} {D : va_G} {cy : Nat → ClassId} {X : (Nat → Prop) → State → Heap → Prop} {aK aV : Nat → Nat} {tO tT : Nat} {gO gT : Nat → Int32} {ba ra : Nat → Nat} {hf : Nat → Nat → Nat} {hq : Nat → Nat → Int32} {kn th : Int32} {sm : Int64} {E : va_W} {x : Int32} (hX : EnvS X cy aK aV tO tT gO gT) (hno : ¬ (0 ≤ x ∧ x < nI 4)) : Cm l D cy X yX4_text cX4_text 2 (some (.object "java/lang/String")) (rmk 7 100 2200 400) [.ref (ba 9), .int x] (WM cy ba ra hf hq kn th sm ++ E) (fun v1 w1 => v1 = some (.ref (aK 1)) ∧ w1 = WM cy ba ra hf hq kn (nI 1) sm ++ E) (fun _ => False) := by
  refine Cm.of [some (.ref (ba 9)), some (.int x)] pn_X4 rfl (Nat.le_of_ble_eq_true rfl) ?_
  intro p e s m args below meth c A C hE hr hnt hn
  refine r_aload_n C dX4_text_0 rfl ?_
  refine r_iload_n C dX4_text_1 rfl ?_
  refine d_S (st := [.ref (ba 9)]) hX.1.1.stb C hE (D_isNoRow1 (ba := ba) (ra := ra) (hf := hf) (hq := hq) (kn := kn) (th := th) (sm := sm) (Y := E) (x := x) hX.1 hno) pk_X4_isNoRow qm_X4_119 rfl rfl (Nat.le_of_ble_eq_true rfl) dX4_text_2 ⟨Nat.le_of_ble_eq_true rfl, Nat.le_of_ble_eq_true rfl⟩ ⟨by first | (simp only [rmk, rmz]; omega) | (simp only [rmk, rmz]; done) | omega, by first | (simp only [rmk, rmz]; omega) | (simp only [rmk, rmz]; done) | omega⟩ ?_
  refine r_w (w' := WM cy ba ra hf hq kn th sm ++ E) rfl ?_
  refine r_iconst (v := (nI 0)) C dX4_text_5 (by decide) ?_
  refine r_iconst (v := (nI 0)) C dX4_text_6 (by decide) ?_
  refine d_V (st := []) hX.1.1.stb C hE (D_fails1 (ba := ba) (ra := ra) (hf := hf) (hq := hq) (kn := kn) (th := th) (sm := sm) (Y := E) (b0 := 0) (d0 := 0) hX.1 ) pk_X4_fails qm_X4_84 0 8 rfl rfl wm_0 rfl rfl (Nat.le_of_ble_eq_true rfl) dX4_text_7 ⟨Nat.le_of_ble_eq_true rfl, Nat.le_of_ble_eq_true rfl⟩ ⟨by first | (simp only [rmk, rmz]; omega) | (simp only [rmk, rmz]; done) | omega, by first | (simp only [rmk, rmz]; omega) | (simp only [rmk, rmz]; done) | omega⟩ ?_
  refine r_w (w' := WM cy ba ra hf hq kn (nI 1) sm ++ E) rfl ?_
  refine r_ifN_eq (a := 1) (tgt := 18) C (by first | omega | (simp [up2, *]; done) | (simp [up2, *]; omega) | (simp only [up2_eq]; omega) | (split <;> omega)) dX4_text_10 (by decide) (fun h10_1 => ?_) (fun h10_1 => ?_)
  · exact absurd h10_1 (by first | omega | (simp [up2, *]; done) | (simp [up2, *]; omega) | (simp only [up2_eq]; omega) | (split <;> omega))
  · skip
    refine j_ldcS hX C hE (i := 1) rfl dX4_text_13 ?_
    refine r_goto (tgt := 23) C dX4_text_15 (by decide) ?_
    exact r_aret C hr (Or.inl ⟨_, rfl⟩) dX4_text_23 ⟨rfl, rfl⟩ (by first | (simp only [rmk, rmz]; omega) | (simp only [rmk, rmz]; done) | omega) (by first | (simp only [rmk, rmz]; omega) | (simp only [rmk, rmz]; done) | omega)
theorem dX4_text_18 : decode cX4_text 18 = .ok (.aload_n 0, 1) := dqo_42 (kb_of ke_X4_text 18 rfl)
theorem dX4_text_19 : decode cX4_text 19 = .ok (.iload_n 1, 1) := dqo_27 (kb_of ke_X4_text 19 rfl)
theorem dX4_text_20 : decode cX4_text 20 = .ok (.invokevirtual 179, 3) := dqo_182 0 179 (kb_of ke_X4_text 20 rfl) (kb_of ke_X4_text 21 rfl) (kb_of ke_X4_text 22 rfl)
theorem pk_X4_textNow : PkV RX4 yX4_textNow cX4_textNow 7 (some (.object "java/lang/String")) 1 := ⟨⟨qi_X4_textNow, qs_X4_textNow, qz_X4, qc_X4_textNow⟩, rfl, mh_X4.1, mh_X4.2, pd_44⟩
set_option maxRecDepth 100000 in
theorem D_text_ok {l : Launch} {D : va_G} {cy : Nat → ClassId} {X : (Nat → Prop) → State → Heap → Prop} {aK aV : Nat → Nat} {tO tT : Nat} {gO gT : Nat → Int32} {ba ra : Nat → Nat} {hf : Nat → Nat → Nat} {hq : Nat → Nat → Int32} {kn th : Int32} {sm : Int64} {E : va_W} {i : Nat} (hX : EnvS X cy aK aV tO tT gO gT) (hi4 : i < 4) (h12i : hf 4 i ≤ 12) (hR : ∀ i, i < 4 → ∀ k, k < hf 4 i → -99 ≤ (hq i k).toInt ∧ (hq i k).toInt ≤ 99) : Cm l D cy X yX4_text cX4_text 2 (some (.object "java/lang/String")) (rmk 7 100 2200 400) [.ref (ba 9), .int (nI i)] (WM cy ba ra hf hq kn th sm ++ E) (fun v1 w1 => ∃ (a9 v9 : Nat) (h9 z9 : Int32) (g9 : Nat → Int32), TXT g9 (tlx (hq i) (hf 4 i) + 1) (txl gO gT (hq i) (hf 4 i)) ∧ v1 = some (.ref a9) ∧ w1 = WM cy ba ra hf hq kn (nI 0) sm ++ (STO a9 v9 h9 z9 :: BYO cy v9 (tlx (hq i) (hf 4 i) + 1) g9 :: E)) (fun _ => False) := by
  refine Cm.of [some (.ref (ba 9)), some (.int (nI i))] pn_X4 rfl (Nat.le_of_ble_eq_true rfl) ?_
  intro p e s m args below meth c A C hE hr hnt hn
  refine r_aload_n C dX4_text_0 rfl ?_
  refine r_iload_n C dX4_text_1 rfl ?_
  refine d_S (st := [.ref (ba 9)]) hX.1.1.stb C hE (D_isNoRow0 (ba := ba) (ra := ra) (hf := hf) (hq := hq) (kn := kn) (th := th) (sm := sm) (Y := E) (i := i) hX.1 hi4) pk_X4_isNoRow qm_X4_119 rfl rfl (Nat.le_of_ble_eq_true rfl) dX4_text_2 ⟨Nat.le_of_ble_eq_true rfl, Nat.le_of_ble_eq_true rfl⟩ ⟨by first | (simp only [rmk, rmz]; omega) | (simp only [rmk, rmz]; done) | omega, by first | (simp only [rmk, rmz]; omega) | (simp only [rmk, rmz]; done) | omega⟩ ?_
  refine r_w (w' := WM cy ba ra hf hq kn th sm ++ E) rfl ?_
  refine r_iconst (v := (nI 0)) C dX4_text_5 (by decide) ?_
  refine r_iconst (v := (nI 0)) C dX4_text_6 (by decide) ?_
  refine d_V (st := []) hX.1.1.stb C hE (D_fails0 (ba := ba) (ra := ra) (hf := hf) (hq := hq) (kn := kn) (th := th) (sm := sm) (Y := E)  hX.1 ) pk_X4_fails qm_X4_84 0 8 rfl rfl wm_0 rfl rfl (Nat.le_of_ble_eq_true rfl) dX4_text_7 ⟨Nat.le_of_ble_eq_true rfl, Nat.le_of_ble_eq_true rfl⟩ ⟨by first | (simp only [rmk, rmz]; omega) | (simp only [rmk, rmz]; done) | omega, by first | (simp only [rmk, rmz]; omega) | (simp only [rmk, rmz]; done) | omega⟩ ?_
  refine r_w (w' := WM cy ba ra hf hq kn (nI 0) sm ++ E) rfl ?_
  refine r_ifN_eq (a := 0) (tgt := 18) C (by first | omega | (simp [up2, *]; done) | (simp [up2, *]; omega) | (simp only [up2_eq]; omega) | (split <;> omega)) dX4_text_10 (by decide) (fun h10_1 => ?_) (fun h10_1 => ?_)
  · skip
    refine r_aload_n C dX4_text_18 rfl ?_
    refine r_iload_n C dX4_text_19 rfl ?_
    refine c_V (st := []) hX.stb C hE (D_textNow (ba := ba) (ra := ra) (hf := hf) (hq := hq) (kn := kn) (th := (nI 0)) (sm := sm) (E := E) (i := i) hX hi4 (by omega) (hR i hi4)) pk_X4_textNow qm_X4_179 0 8 rfl rfl wm_0 rfl rfl (Nat.le_of_ble_eq_true rfl) dX4_text_20 ⟨Nat.le_of_ble_eq_true rfl, Nat.le_of_ble_eq_true rfl⟩ ⟨by first | (simp only [rmk, rmz]; omega) | (simp only [rmk, rmz]; done) | omega, by first | (simp only [rmk, rmz]; omega) | (simp only [rmk, rmz]; done) | omega⟩ (fun v9 w9 h9 => ?_) (fun _ h9 => h9.elim)
    obtain ⟨a9_2, v9_2, h9_2, z9_2, g9_2, hf9_2, rfl, rfl⟩ := h9
    exact r_aret C hr (Or.inl ⟨_, rfl⟩) dX4_text_23 ⟨a9_2, v9_2, h9_2, z9_2, g9_2, hf9_2, rfl, rfl⟩ (by first | (simp only [rmk, rmz]; omega) | (simp only [rmk, rmz]; done) | omega) (by first | (simp only [rmk, rmz]; omega) | (simp only [rmk, rmz]; done) | omega)
  · exact absurd h10_1 (by first | omega | (simp [up2, *]; done) | (simp [up2, *]; omega) | (simp only [up2_eq]; omega) | (split <;> omega))
theorem dX4_digest_0 : decode cX4_digest 0 = .ok (.aload_n 0, 1) := dqo_42 (kb_X4_digest_0 0 rfl)
theorem dX4_digest_1 : decode cX4_digest 1 = .ok (.iconst 0, 1) := dqo_3 (kb_X4_digest_0 1 rfl)
theorem dX4_digest_2 : decode cX4_digest 2 = .ok (.putfield 44, 3) := dqo_181 0 44 (kb_X4_digest_0 2 rfl) (kb_X4_digest_0 3 rfl) (kb_X4_digest_0 4 rfl)
theorem dX4_digest_5 : decode cX4_digest 5 = .ok (.aload_n 0, 1) := dqo_42 (kb_X4_digest_0 5 rfl)
theorem dX4_digest_6 : decode cX4_digest 6 = .ok (.ldc2_w 217, 3) := dqo_20 0 217 (kb_X4_digest_0 6 rfl) (kb_X4_digest_0 7 rfl) (kb_X4_digest_0 8 rfl)
theorem dX4_digest_9 : decode cX4_digest 9 = .ok (.putfield 211, 3) := dqo_181 0 211 (kb_X4_digest_0 9 rfl) (kb_X4_digest_0 10 rfl) (kb_X4_digest_0 11 rfl)
theorem dX4_digest_12 : decode cX4_digest 12 = .ok (.iconst 0, 1) := dqo_3 (kb_X4_digest_0 12 rfl)
theorem dX4_digest_13 : decode cX4_digest 13 = .ok (.istore_n 1, 1) := dqo_60 (kb_X4_digest_0 13 rfl)
theorem dX4_digest_14 : decode cX4_digest 14 = .ok (.iload_n 1, 1) := dqo_27 (kb_X4_digest_0 14 rfl)
theorem dX4_digest_15 : decode cX4_digest 15 = .ok (.iconst 4, 1) := dqo_7 (kb_X4_digest_0 15 rfl)
theorem dX4_digest_16 : decode cX4_digest 16 = .ok (.if_icmp .ge 19, 3) := dqo_162 0 19 (by decide) (kb_X4_digest_0 16 rfl) (kb_X4_digest_0 17 rfl) (kb_X4_digest_0 18 rfl)
theorem dX4_digest_19 : decode cX4_digest 19 = .ok (.aload_n 0, 1) := dqo_42 (kb_X4_digest_0 19 rfl)
theorem dX4_digest_20 : decode cX4_digest 20 = .ok (.aload_n 0, 1) := dqo_42 (kb_X4_digest_0 20 rfl)
theorem dX4_digest_21 : decode cX4_digest 21 = .ok (.iload_n 1, 1) := dqo_27 (kb_X4_digest_0 21 rfl)
theorem dX4_digest_22 : decode cX4_digest 22 = .ok (.invokevirtual 205, 3) := dqo_182 0 205 (kb_X4_digest_0 22 rfl) (kb_X4_digest_0 23 rfl) (kb_X4_digest_0 24 rfl)
theorem dX4_digest_25 : decode cX4_digest 25 = .ok (.i2l, 1) := dqo_133 (kb_X4_digest_0 25 rfl)
theorem dX4_digest_26 : decode cX4_digest 26 = .ok (.invokevirtual 219, 3) := dqo_182 0 219 (kb_X4_digest_0 26 rfl) (kb_X4_digest_0 27 rfl) (kb_X4_digest_0 28 rfl)
theorem dX4_digest_29 : decode cX4_digest 29 = .ok (.iinc 1 1, 3) := dqo_132 1 1 (by decide) (kb_X4_digest_0 29 rfl) (kb_X4_digest_0 30 rfl) (kb_X4_digest_0 31 rfl)
theorem dX4_digest_32 : decode cX4_digest 32 = .ok (.goto (-18), 3) := dqo_167 255 238 (by decide) (kb_X4_digest_0 32 rfl) (kb_X4_digest_0 33 rfl) (kb_X4_digest_0 34 rfl)
theorem dX4_digest_35 : decode cX4_digest 35 = .ok (.iconst 0, 1) := dqo_3 (kb_X4_digest_0 35 rfl)
theorem dX4_digest_36 : decode cX4_digest 36 = .ok (.istore_n 1, 1) := dqo_60 (kb_X4_digest_0 36 rfl)
theorem dX4_digest_37 : decode cX4_digest 37 = .ok (.iload_n 1, 1) := dqo_27 (kb_X4_digest_0 37 rfl)
theorem dX4_digest_38 : decode cX4_digest 38 = .ok (.iconst 4, 1) := dqo_7 (kb_X4_digest_0 38 rfl)
theorem dX4_digest_39 : decode cX4_digest 39 = .ok (.if_icmp .ge 82, 3) := dqo_162 0 82 (by decide) (kb_X4_digest_0 39 rfl) (kb_X4_digest_0 40 rfl) (kb_X4_digest_0 41 rfl)
theorem dX4_digest_42 : decode cX4_digest 42 = .ok (.aload_n 0, 1) := dqo_42 (kb_X4_digest_0 42 rfl)
theorem dX4_digest_43 : decode cX4_digest 43 = .ok (.aload_n 0, 1) := dqo_42 (kb_X4_digest_0 43 rfl)
theorem dX4_digest_44 : decode cX4_digest 44 = .ok (.getfield 15, 3) := dqo_180 0 15 (kb_X4_digest_0 44 rfl) (kb_X4_digest_0 45 rfl) (kb_X4_digest_0 46 rfl)
theorem dX4_digest_47 : decode cX4_digest 47 = .ok (.iload_n 1, 1) := dqo_27 (kb_X4_digest_0 47 rfl)
theorem dX4_digest_48 : decode cX4_digest 48 = .ok (.aaload, 1) := dqo_50 (kb_X4_digest_0 48 rfl)
theorem dX4_digest_49 : decode cX4_digest 49 = .ok (.arraylength, 1) := dqo_190 (kb_X4_digest_0 49 rfl)
theorem dX4_digest_50 : decode cX4_digest 50 = .ok (.i2l, 1) := dqo_133 (kb_X4_digest_0 50 rfl)
theorem dX4_digest_51 : decode cX4_digest 51 = .ok (.invokevirtual 219, 3) := dqo_182 0 219 (kb_X4_digest_0 51 rfl) (kb_X4_digest_0 52 rfl) (kb_X4_digest_0 53 rfl)
theorem dX4_digest_54 : decode cX4_digest 54 = .ok (.aload_n 0, 1) := dqo_42 (kb_X4_digest_0 54 rfl)
theorem dX4_digest_55 : decode cX4_digest 55 = .ok (.getfield 15, 3) := dqo_180 0 15 (kb_X4_digest_0 55 rfl) (kb_X4_digest_0 56 rfl) (kb_X4_digest_0 57 rfl)
theorem dX4_digest_58 : decode cX4_digest 58 = .ok (.iload_n 1, 1) := dqo_27 (kb_X4_digest_0 58 rfl)
theorem dX4_digest_59 : decode cX4_digest 59 = .ok (.aaload, 1) := dqo_50 (kb_X4_digest_0 59 rfl)
theorem dX4_digest_60 : decode cX4_digest 60 = .ok (.astore_n 2, 1) := dqo_77 (kb_X4_digest_0 60 rfl)
theorem dX4_digest_61 : decode cX4_digest 61 = .ok (.aload_n 2, 1) := dqo_44 (kb_X4_digest_0 61 rfl)
theorem dX4_digest_62 : decode cX4_digest 62 = .ok (.arraylength, 1) := dqo_190 (kb_X4_digest_0 62 rfl)
theorem dX4_digest_63 : decode cX4_digest 63 = .ok (.istore_n 3, 1) := dqo_62 (kb_X4_digest_0 63 rfl)
theorem dX4_digest_64 : decode cX4_digest 64 = .ok (.iconst 0, 1) := dqo_3 (kb_X4_digest_1 0 rfl)
theorem dX4_digest_65 : decode cX4_digest 65 = .ok (.istore 4, 2) := dqo_54 4 (kb_X4_digest_1 1 rfl) (kb_X4_digest_1 2 rfl)
theorem dX4_digest_67 : decode cX4_digest 67 = .ok (.iload 4, 2) := dqo_21 4 (kb_X4_digest_1 3 rfl) (kb_X4_digest_1 4 rfl)
theorem dX4_digest_69 : decode cX4_digest 69 = .ok (.iload_n 3, 1) := dqo_29 (kb_X4_digest_1 5 rfl)
theorem dX4_digest_70 : decode cX4_digest 70 = .ok (.if_icmp .ge 22, 3) := dqo_162 0 22 (by decide) (kb_X4_digest_1 6 rfl) (kb_X4_digest_1 7 rfl) (kb_X4_digest_1 8 rfl)
theorem dX4_digest_73 : decode cX4_digest 73 = .ok (.aload_n 2, 1) := dqo_44 (kb_X4_digest_1 9 rfl)
theorem dX4_digest_74 : decode cX4_digest 74 = .ok (.iload 4, 2) := dqo_21 4 (kb_X4_digest_1 10 rfl) (kb_X4_digest_1 11 rfl)
theorem dX4_digest_76 : decode cX4_digest 76 = .ok (.iaload, 1) := dqo_46 (kb_X4_digest_1 12 rfl)
theorem dX4_digest_77 : decode cX4_digest 77 = .ok (.istore 5, 2) := dqo_54 5 (kb_X4_digest_1 13 rfl) (kb_X4_digest_1 14 rfl)
theorem dX4_digest_79 : decode cX4_digest 79 = .ok (.aload_n 0, 1) := dqo_42 (kb_X4_digest_1 15 rfl)
theorem dX4_digest_80 : decode cX4_digest 80 = .ok (.iload 5, 2) := dqo_21 5 (kb_X4_digest_1 16 rfl) (kb_X4_digest_1 17 rfl)
theorem dX4_digest_82 : decode cX4_digest 82 = .ok (.i2l, 1) := dqo_133 (kb_X4_digest_1 18 rfl)
theorem dX4_digest_83 : decode cX4_digest 83 = .ok (.invokevirtual 219, 3) := dqo_182 0 219 (kb_X4_digest_1 19 rfl) (kb_X4_digest_1 20 rfl) (kb_X4_digest_1 21 rfl)
theorem dX4_digest_86 : decode cX4_digest 86 = .ok (.iinc 4 1, 3) := dqo_132 4 1 (by decide) (kb_X4_digest_1 22 rfl) (kb_X4_digest_1 23 rfl) (kb_X4_digest_1 24 rfl)
theorem dX4_digest_89 : decode cX4_digest 89 = .ok (.goto (-22), 3) := dqo_167 255 234 (by decide) (kb_X4_digest_1 25 rfl) (kb_X4_digest_1 26 rfl) (kb_X4_digest_1 27 rfl)
theorem dX4_digest_92 : decode cX4_digest 92 = .ok (.aload_n 0, 1) := dqo_42 (kb_X4_digest_1 28 rfl)
theorem dX4_digest_93 : decode cX4_digest 93 = .ok (.aload_n 0, 1) := dqo_42 (kb_X4_digest_1 29 rfl)
theorem dX4_digest_94 : decode cX4_digest 94 = .ok (.iload_n 1, 1) := dqo_27 (kb_X4_digest_1 30 rfl)
theorem dX4_digest_95 : decode cX4_digest 95 = .ok (.invokevirtual 148, 3) := dqo_182 0 148 (kb_X4_digest_1 31 rfl) (kb_X4_digest_1 32 rfl) (kb_X4_digest_1 33 rfl)
theorem dX4_digest_98 : decode cX4_digest 98 = .ok (.i2l, 1) := dqo_133 (kb_X4_digest_1 34 rfl)
theorem dX4_digest_99 : decode cX4_digest 99 = .ok (.invokevirtual 219, 3) := dqo_182 0 219 (kb_X4_digest_1 35 rfl) (kb_X4_digest_1 36 rfl) (kb_X4_digest_1 37 rfl)
theorem dX4_digest_102 : decode cX4_digest 102 = .ok (.aload_n 0, 1) := dqo_42 (kb_X4_digest_1 38 rfl)
theorem dX4_digest_103 : decode cX4_digest 103 = .ok (.aload_n 0, 1) := dqo_42 (kb_X4_digest_1 39 rfl)
theorem dX4_digest_104 : decode cX4_digest 104 = .ok (.iload_n 1, 1) := dqo_27 (kb_X4_digest_1 40 rfl)
theorem dX4_digest_105 : decode cX4_digest 105 = .ok (.invokevirtual 179, 3) := dqo_182 0 179 (kb_X4_digest_1 41 rfl) (kb_X4_digest_1 42 rfl) (kb_X4_digest_1 43 rfl)
theorem dX4_digest_108 : decode cX4_digest 108 = .ok (.invokevirtual 223, 3) := dqo_182 0 223 (kb_X4_digest_1 44 rfl) (kb_X4_digest_1 45 rfl) (kb_X4_digest_1 46 rfl)
theorem dX4_digest_111 : decode cX4_digest 111 = .ok (.i2l, 1) := dqo_133 (kb_X4_digest_1 47 rfl)
theorem dX4_digest_112 : decode cX4_digest 112 = .ok (.invokevirtual 219, 3) := dqo_182 0 219 (kb_X4_digest_1 48 rfl) (kb_X4_digest_1 49 rfl) (kb_X4_digest_1 50 rfl)
theorem dX4_digest_115 : decode cX4_digest 115 = .ok (.iinc 1 1, 3) := dqo_132 1 1 (by decide) (kb_X4_digest_1 51 rfl) (kb_X4_digest_1 52 rfl) (kb_X4_digest_1 53 rfl)
theorem dX4_digest_118 : decode cX4_digest 118 = .ok (.goto (-81), 3) := dqo_167 255 175 (by decide) (kb_X4_digest_1 54 rfl) (kb_X4_digest_1 55 rfl) (kb_X4_digest_1 56 rfl)
theorem dX4_digest_121 : decode cX4_digest 121 = .ok (.iconst 0, 1) := dqo_3 (kb_X4_digest_1 57 rfl)
theorem dX4_digest_122 : decode cX4_digest 122 = .ok (.istore_n 1, 1) := dqo_60 (kb_X4_digest_1 58 rfl)
theorem dX4_digest_123 : decode cX4_digest 123 = .ok (.iload_n 1, 1) := dqo_27 (kb_X4_digest_1 59 rfl)
theorem dX4_digest_124 : decode cX4_digest 124 = .ok (.iconst 4, 1) := dqo_7 (kb_X4_digest_1 60 rfl)
theorem dX4_digest_125 : decode cX4_digest 125 = .ok (.if_icmp .ge 73, 3) := dqo_162 0 73 (by decide) (kb_X4_digest_1 61 rfl) (kb_X4_digest_1 62 rfl) (kb_X4_digest_1 63 rfl)
theorem dX4_digest_128 : decode cX4_digest 128 = .ok (.iconst 0, 1) := dqo_3 (kb_X4_digest_2 0 rfl)
theorem dX4_digest_129 : decode cX4_digest 129 = .ok (.istore_n 2, 1) := dqo_61 (kb_X4_digest_2 1 rfl)
theorem dX4_digest_130 : decode cX4_digest 130 = .ok (.iload_n 2, 1) := dqo_28 (kb_X4_digest_2 2 rfl)
theorem dX4_digest_131 : decode cX4_digest 131 = .ok (.iconst 3, 1) := dqo_6 (kb_X4_digest_2 3 rfl)
theorem dX4_digest_132 : decode cX4_digest 132 = .ok (.if_icmp .ge 20, 3) := dqo_162 0 20 (by decide) (kb_X4_digest_2 4 rfl) (kb_X4_digest_2 5 rfl) (kb_X4_digest_2 6 rfl)
theorem dX4_digest_135 : decode cX4_digest 135 = .ok (.aload_n 0, 1) := dqo_42 (kb_X4_digest_2 7 rfl)
theorem dX4_digest_136 : decode cX4_digest 136 = .ok (.aload_n 0, 1) := dqo_42 (kb_X4_digest_2 8 rfl)
theorem dX4_digest_137 : decode cX4_digest 137 = .ok (.iload_n 1, 1) := dqo_27 (kb_X4_digest_2 9 rfl)
theorem dX4_digest_138 : decode cX4_digest 138 = .ok (.iload_n 2, 1) := dqo_28 (kb_X4_digest_2 10 rfl)
theorem dX4_digest_139 : decode cX4_digest 139 = .ok (.invokevirtual 190, 3) := dqo_182 0 190 (kb_X4_digest_2 11 rfl) (kb_X4_digest_2 12 rfl) (kb_X4_digest_2 13 rfl)
theorem dX4_digest_142 : decode cX4_digest 142 = .ok (.i2l, 1) := dqo_133 (kb_X4_digest_2 14 rfl)
theorem dX4_digest_143 : decode cX4_digest 143 = .ok (.invokevirtual 219, 3) := dqo_182 0 219 (kb_X4_digest_2 15 rfl) (kb_X4_digest_2 16 rfl) (kb_X4_digest_2 17 rfl)
theorem dX4_digest_146 : decode cX4_digest 146 = .ok (.iinc 2 1, 3) := dqo_132 2 1 (by decide) (kb_X4_digest_2 18 rfl) (kb_X4_digest_2 19 rfl) (kb_X4_digest_2 20 rfl)
theorem dX4_digest_149 : decode cX4_digest 149 = .ok (.goto (-19), 3) := dqo_167 255 237 (by decide) (kb_X4_digest_2 21 rfl) (kb_X4_digest_2 22 rfl) (kb_X4_digest_2 23 rfl)
theorem dX4_digest_152 : decode cX4_digest 152 = .ok (.iconst 0, 1) := dqo_3 (kb_X4_digest_2 24 rfl)
theorem dX4_digest_153 : decode cX4_digest 153 = .ok (.istore_n 2, 1) := dqo_61 (kb_X4_digest_2 25 rfl)
theorem dX4_digest_154 : decode cX4_digest 154 = .ok (.aload_n 0, 1) := dqo_42 (kb_X4_digest_2 26 rfl)
theorem dX4_digest_155 : decode cX4_digest 155 = .ok (.getfield 18, 3) := dqo_180 0 18 (kb_X4_digest_2 27 rfl) (kb_X4_digest_2 28 rfl) (kb_X4_digest_2 29 rfl)
theorem dX4_digest_158 : decode cX4_digest 158 = .ok (.iload_n 1, 1) := dqo_27 (kb_X4_digest_2 30 rfl)
theorem dX4_digest_159 : decode cX4_digest 159 = .ok (.baload, 1) := dqo_51 (kb_X4_digest_2 31 rfl)
theorem dX4_digest_160 : decode cX4_digest 160 = .ok (.ifCond .eq 32, 3) := dqo_153 0 32 (by decide) (kb_X4_digest_2 32 rfl) (kb_X4_digest_2 33 rfl) (kb_X4_digest_2 34 rfl)
theorem dX4_digest_163 : decode cX4_digest 163 = .ok (.iload_n 2, 1) := dqo_28 (kb_X4_digest_2 35 rfl)
theorem dX4_digest_164 : decode cX4_digest 164 = .ok (.aload_n 0, 1) := dqo_42 (kb_X4_digest_2 36 rfl)
theorem dX4_digest_165 : decode cX4_digest 165 = .ok (.getfield 29, 3) := dqo_180 0 29 (kb_X4_digest_2 37 rfl) (kb_X4_digest_2 38 rfl) (kb_X4_digest_2 39 rfl)
theorem dX4_digest_168 : decode cX4_digest 168 = .ok (.iload_n 1, 1) := dqo_27 (kb_X4_digest_2 40 rfl)
theorem dX4_digest_169 : decode cX4_digest 169 = .ok (.iaload, 1) := dqo_46 (kb_X4_digest_2 41 rfl)
theorem dX4_digest_170 : decode cX4_digest 170 = .ok (.if_icmp .ge 22, 3) := dqo_162 0 22 (by decide) (kb_X4_digest_2 42 rfl) (kb_X4_digest_2 43 rfl) (kb_X4_digest_2 44 rfl)
theorem dX4_digest_173 : decode cX4_digest 173 = .ok (.aload_n 0, 1) := dqo_42 (kb_X4_digest_2 45 rfl)
theorem dX4_digest_174 : decode cX4_digest 174 = .ok (.aload_n 0, 1) := dqo_42 (kb_X4_digest_2 46 rfl)
theorem dX4_digest_175 : decode cX4_digest 175 = .ok (.iconst 4, 1) := dqo_7 (kb_X4_digest_2 47 rfl)
theorem dX4_digest_176 : decode cX4_digest 176 = .ok (.iload_n 1, 1) := dqo_27 (kb_X4_digest_2 48 rfl)
theorem dX4_digest_177 : decode cX4_digest 177 = .ok (.iadd, 1) := dqo_96 (kb_X4_digest_2 49 rfl)
theorem dX4_digest_178 : decode cX4_digest 178 = .ok (.iload_n 2, 1) := dqo_28 (kb_X4_digest_2 50 rfl)
theorem dX4_digest_179 : decode cX4_digest 179 = .ok (.invokevirtual 62, 3) := dqo_182 0 62 (kb_X4_digest_2 51 rfl) (kb_X4_digest_2 52 rfl) (kb_X4_digest_2 53 rfl)
theorem dX4_digest_182 : decode cX4_digest 182 = .ok (.i2l, 1) := dqo_133 (kb_X4_digest_2 54 rfl)
theorem dX4_digest_183 : decode cX4_digest 183 = .ok (.invokevirtual 219, 3) := dqo_182 0 219 (kb_X4_digest_2 55 rfl) (kb_X4_digest_2 56 rfl) (kb_X4_digest_2 57 rfl)
theorem dX4_digest_186 : decode cX4_digest 186 = .ok (.iinc 2 1, 3) := dqo_132 2 1 (by decide) (kb_X4_digest_2 58 rfl) (kb_X4_digest_2 59 rfl) (kb_X4_digest_2 60 rfl)
theorem dX4_digest_189 : decode cX4_digest 189 = .ok (.goto (-35), 3) := dqo_167 255 221 (by decide) (kb_X4_digest_2 61 rfl) (kb_X4_digest_2 62 rfl) (kb_X4_digest_2 63 rfl)
theorem dX4_digest_192 : decode cX4_digest 192 = .ok (.iinc 1 1, 3) := dqo_132 1 1 (by decide) (kb_X4_digest_3 0 rfl) (kb_X4_digest_3 1 rfl) (kb_X4_digest_3 2 rfl)
theorem dX4_digest_195 : decode cX4_digest 195 = .ok (.goto (-72), 3) := dqo_167 255 184 (by decide) (kb_X4_digest_3 3 rfl) (kb_X4_digest_3 4 rfl) (kb_X4_digest_3 5 rfl)
theorem dX4_digest_198 : decode cX4_digest 198 = .ok (.iconst 0, 1) := dqo_3 (kb_X4_digest_3 6 rfl)
theorem dX4_digest_199 : decode cX4_digest 199 = .ok (.istore_n 1, 1) := dqo_60 (kb_X4_digest_3 7 rfl)
theorem dX4_digest_200 : decode cX4_digest 200 = .ok (.iload_n 1, 1) := dqo_27 (kb_X4_digest_3 8 rfl)
theorem dX4_digest_201 : decode cX4_digest 201 = .ok (.iconst 3, 1) := dqo_6 (kb_X4_digest_3 9 rfl)
theorem dX4_digest_202 : decode cX4_digest 202 = .ok (.if_icmp .ge 33, 3) := dqo_162 0 33 (by decide) (kb_X4_digest_3 10 rfl) (kb_X4_digest_3 11 rfl) (kb_X4_digest_3 12 rfl)
theorem dX4_digest_205 : decode cX4_digest 205 = .ok (.iconst 0, 1) := dqo_3 (kb_X4_digest_3 13 rfl)
theorem dX4_digest_206 : decode cX4_digest 206 = .ok (.istore_n 2, 1) := dqo_61 (kb_X4_digest_3 14 rfl)
theorem dX4_digest_207 : decode cX4_digest 207 = .ok (.iload_n 2, 1) := dqo_28 (kb_X4_digest_3 15 rfl)
theorem dX4_digest_208 : decode cX4_digest 208 = .ok (.iconst 5, 1) := dqo_8 (kb_X4_digest_3 16 rfl)
theorem dX4_digest_209 : decode cX4_digest 209 = .ok (.if_icmp .ge 20, 3) := dqo_162 0 20 (by decide) (kb_X4_digest_3 17 rfl) (kb_X4_digest_3 18 rfl) (kb_X4_digest_3 19 rfl)
theorem dX4_digest_212 : decode cX4_digest 212 = .ok (.aload_n 0, 1) := dqo_42 (kb_X4_digest_3 20 rfl)
theorem dX4_digest_213 : decode cX4_digest 213 = .ok (.aload_n 0, 1) := dqo_42 (kb_X4_digest_3 21 rfl)
theorem dX4_digest_214 : decode cX4_digest 214 = .ok (.iload_n 1, 1) := dqo_27 (kb_X4_digest_3 22 rfl)
theorem dX4_digest_215 : decode cX4_digest 215 = .ok (.iload_n 2, 1) := dqo_28 (kb_X4_digest_3 23 rfl)
theorem dX4_digest_216 : decode cX4_digest 216 = .ok (.invokevirtual 199, 3) := dqo_182 0 199 (kb_X4_digest_3 24 rfl) (kb_X4_digest_3 25 rfl) (kb_X4_digest_3 26 rfl)
theorem dX4_digest_219 : decode cX4_digest 219 = .ok (.i2l, 1) := dqo_133 (kb_X4_digest_3 27 rfl)
theorem dX4_digest_220 : decode cX4_digest 220 = .ok (.invokevirtual 219, 3) := dqo_182 0 219 (kb_X4_digest_3 28 rfl) (kb_X4_digest_3 29 rfl) (kb_X4_digest_3 30 rfl)
theorem dX4_digest_223 : decode cX4_digest 223 = .ok (.iinc 2 1, 3) := dqo_132 2 1 (by decide) (kb_X4_digest_3 31 rfl) (kb_X4_digest_3 32 rfl) (kb_X4_digest_3 33 rfl)
theorem dX4_digest_226 : decode cX4_digest 226 = .ok (.goto (-19), 3) := dqo_167 255 237 (by decide) (kb_X4_digest_3 34 rfl) (kb_X4_digest_3 35 rfl) (kb_X4_digest_3 36 rfl)
theorem dX4_digest_229 : decode cX4_digest 229 = .ok (.iinc 1 1, 3) := dqo_132 1 1 (by decide) (kb_X4_digest_3 37 rfl) (kb_X4_digest_3 38 rfl) (kb_X4_digest_3 39 rfl)
theorem dX4_digest_232 : decode cX4_digest 232 = .ok (.goto (-32), 3) := dqo_167 255 224 (by decide) (kb_X4_digest_3 40 rfl) (kb_X4_digest_3 41 rfl) (kb_X4_digest_3 42 rfl)
theorem dX4_digest_235 : decode cX4_digest 235 = .ok (.iconst 0, 1) := dqo_3 (kb_X4_digest_3 43 rfl)
theorem dX4_digest_236 : decode cX4_digest 236 = .ok (.istore_n 1, 1) := dqo_60 (kb_X4_digest_3 44 rfl)
theorem dX4_digest_237 : decode cX4_digest 237 = .ok (.iload_n 1, 1) := dqo_27 (kb_X4_digest_3 45 rfl)
theorem dX4_digest_238 : decode cX4_digest 238 = .ok (.iconst 4, 1) := dqo_7 (kb_X4_digest_3 46 rfl)
theorem dX4_digest_239 : decode cX4_digest 239 = .ok (.if_icmp .ge 33, 3) := dqo_162 0 33 (by decide) (kb_X4_digest_3 47 rfl) (kb_X4_digest_3 48 rfl) (kb_X4_digest_3 49 rfl)
theorem dX4_digest_242 : decode cX4_digest 242 = .ok (.iconst 0, 1) := dqo_3 (kb_X4_digest_3 50 rfl)
theorem dX4_digest_243 : decode cX4_digest 243 = .ok (.istore_n 2, 1) := dqo_61 (kb_X4_digest_3 51 rfl)
theorem dX4_digest_244 : decode cX4_digest 244 = .ok (.iload_n 2, 1) := dqo_28 (kb_X4_digest_3 52 rfl)
theorem dX4_digest_245 : decode cX4_digest 245 = .ok (.iconst 4, 1) := dqo_7 (kb_X4_digest_3 53 rfl)
theorem dX4_digest_246 : decode cX4_digest 246 = .ok (.if_icmp .ge 20, 3) := dqo_162 0 20 (by decide) (kb_X4_digest_3 54 rfl) (kb_X4_digest_3 55 rfl) (kb_X4_digest_3 56 rfl)
theorem dX4_digest_249 : decode cX4_digest 249 = .ok (.aload_n 0, 1) := dqo_42 (kb_X4_digest_3 57 rfl)
theorem dX4_digest_250 : decode cX4_digest 250 = .ok (.aload_n 0, 1) := dqo_42 (kb_X4_digest_3 58 rfl)
theorem dX4_digest_251 : decode cX4_digest 251 = .ok (.iload_n 1, 1) := dqo_27 (kb_X4_digest_3 59 rfl)
theorem dX4_digest_252 : decode cX4_digest 252 = .ok (.iload_n 2, 1) := dqo_28 (kb_X4_digest_3 60 rfl)
theorem dX4_digest_253 : decode cX4_digest 253 = .ok (.invokevirtual 116, 3) := dqo_182 0 116 (kb_X4_digest_3 61 rfl) (kb_X4_digest_3 62 rfl) (kb_X4_digest_3 63 rfl)
theorem dX4_digest_256 : decode cX4_digest 256 = .ok (.i2l, 1) := dqo_133 (kb_X4_digest_4 0 rfl)
theorem dX4_digest_257 : decode cX4_digest 257 = .ok (.invokevirtual 219, 3) := dqo_182 0 219 (kb_X4_digest_4 1 rfl) (kb_X4_digest_4 2 rfl) (kb_X4_digest_4 3 rfl)
theorem dX4_digest_260 : decode cX4_digest 260 = .ok (.iinc 2 1, 3) := dqo_132 2 1 (by decide) (kb_X4_digest_4 4 rfl) (kb_X4_digest_4 5 rfl) (kb_X4_digest_4 6 rfl)
theorem dX4_digest_263 : decode cX4_digest 263 = .ok (.goto (-19), 3) := dqo_167 255 237 (by decide) (kb_X4_digest_4 7 rfl) (kb_X4_digest_4 8 rfl) (kb_X4_digest_4 9 rfl)
theorem dX4_digest_266 : decode cX4_digest 266 = .ok (.iinc 1 1, 3) := dqo_132 1 1 (by decide) (kb_X4_digest_4 10 rfl) (kb_X4_digest_4 11 rfl) (kb_X4_digest_4 12 rfl)
theorem dX4_digest_269 : decode cX4_digest 269 = .ok (.goto (-32), 3) := dqo_167 255 224 (by decide) (kb_X4_digest_4 13 rfl) (kb_X4_digest_4 14 rfl) (kb_X4_digest_4 15 rfl)
theorem dX4_digest_272 : decode cX4_digest 272 = .ok (.aload_n 0, 1) := dqo_42 (kb_X4_digest_4 16 rfl)
theorem dX4_digest_273 : decode cX4_digest 273 = .ok (.aload_n 0, 1) := dqo_42 (kb_X4_digest_4 17 rfl)
theorem dX4_digest_274 : decode cX4_digest 274 = .ok (.invokevirtual 208, 3) := dqo_182 0 208 (kb_X4_digest_4 18 rfl) (kb_X4_digest_4 19 rfl) (kb_X4_digest_4 20 rfl)
theorem dX4_digest_277 : decode cX4_digest 277 = .ok (.invokestatic 136, 3) := dqo_184 0 136 (kb_X4_digest_4 21 rfl) (kb_X4_digest_4 22 rfl) (kb_X4_digest_4 23 rfl)
theorem dX4_digest_280 : decode cX4_digest 280 = .ok (.i2l, 1) := dqo_133 (kb_X4_digest_4 24 rfl)
theorem dX4_digest_281 : decode cX4_digest 281 = .ok (.invokevirtual 219, 3) := dqo_182 0 219 (kb_X4_digest_4 25 rfl) (kb_X4_digest_4 26 rfl) (kb_X4_digest_4 27 rfl)
theorem dX4_digest_284 : decode cX4_digest 284 = .ok (.aload_n 0, 1) := dqo_42 (kb_X4_digest_4 28 rfl)
theorem dX4_digest_285 : decode cX4_digest 285 = .ok (.getfield 211, 3) := dqo_180 0 211 (kb_X4_digest_4 29 rfl) (kb_X4_digest_4 30 rfl) (kb_X4_digest_4 31 rfl)
theorem dX4_digest_288 : decode cX4_digest 288 = .ok (.lreturn, 1) := dqo_173 (kb_X4_digest_4 32 rfl)
theorem pk_X4_add_ : PkV RX4 yX4_add_ cX4_add_ 3 none 1 := ⟨⟨qi_X4_add_, qs_X4_add_, qz_X4, qc_X4_add_⟩, rfl, mh_X4.1, mh_X4.2, pd_45⟩
set_option maxRecDepth 100000 in
set_option maxHeartbeats 1600000 in
theorem D_digest {l : Launch} {D : va_G} {cy : Nat → ClassId} {X : (Nat → Prop) → State → Heap → Prop} {aK aV : Nat → Nat} {tO tT : Nat} {gO gT : Nat → Int32} {ba ra : Nat → Nat} {hf : Nat → Nat → Nat} {hq : Nat → Nat → Int32} {kn th : Int32} {sm : Int64} {E : va_W} {f : Nat → Nat → Nat} {r : Nat → Nat → Int32} (hX : EnvS X cy aK aV tO tT gO gT) (hC : CInv f) (hM : MR f r hf hq) (hR : ∀ i, i < 4 → ∀ k, k < hf 4 i → -99 ≤ (hq i k).toInt ∧ (hq i k).toInt ≤ 99) : Cm l D cy X yX4_digest cX4_digest 6 (some .long) (rmk 9 460 9400 500) [.ref (ba 9)] (WM cy ba ra hf hq kn th sm ++ E) (fun v1 w1 => v1 = some (.long (dgM f hf hq kn)) ∧ w1 = WM cy ba ra hf hq kn (nI 0) (dgM f hf hq kn) ++ E) (fun _ => False) := by
  refine Cm.of [some (.ref (ba 9)), none, none, none, none, none] pn_X4 rfl (Nat.le_of_ble_eq_true rfl) ?_
  intro p e s m args below meth c A C hE hr hnt hn
  have K272 : ∀ z : Int64, z = mpM f hf hq 4 0 (mcM hf 3 0 (mwM f hf hq 4 0 (mrM hf hq 4 0 (mxF (hoM hf kn) 4 0 7807)))) → vC p l e (rmk 9 460 9400 500) s m args below meth c D A (vx_MQ below (vG (fun v1 w1 => v1 = some (.long (dgM f hf hq kn)) ∧ w1 = WM cy ba ra hf hq kn (nI 0) (dgM f hf hq kn) ++ E) D vwCl A) (vGX (fun _ => False) D vwCl (WM cy ba ra hf hq kn th sm ++ E) A) args s (rmk 9 460 9400 500).cells (rmk 9 460 9400 500).slots A) 6 451 9275 (WM cy ba ra hf hq kn (nI 0) z ++ E) [some (.ref (ba 9)), none, none, none, none, none] 272 [] := by
    intro z hz
    refine r_aload_n C dX4_digest_272 rfl ?_
    refine r_aload_n C dX4_digest_273 rfl ?_
    refine d_V (st := [.ref (ba 9)]) hX.1.1.stb C hE (D_isWhole (ba := ba) (ra := ra) (hf := hf) (hq := hq) (kn := kn) (th := (nI 0)) (sm := z) (Y := E) (f := f) (r := r) hX.1 hC hM) pk_X4_isWhole qm_X4_208 0 8 rfl rfl wm_0 rfl rfl (Nat.le_of_ble_eq_true rfl) dX4_digest_274 ⟨Nat.le_of_ble_eq_true rfl, Nat.le_of_ble_eq_true rfl⟩ ⟨by first | (simp only [rmk, rmz]; omega) | (simp only [rmk, rmz]; done) | omega, by first | (simp only [rmk, rmz]; omega) | (simp only [rmk, rmz]; done) | omega⟩ ?_
    refine r_w (w' := WM cy ba ra hf hq kn (nI 0) z ++ E) rfl ?_
    refine d_S (st := [.ref (ba 9)]) hX.1.1.stb C hE (D_one (ba := ba) (ra := ra) (hf := hf) (hq := hq) (kn := kn) (th := (nI 0)) (sm := z) (Y := E) (b0 := 1) hX.1 (by omega)) pk_X4_one qm_X4_136 rfl rfl (Nat.le_of_ble_eq_true rfl) dX4_digest_277 ⟨Nat.le_of_ble_eq_true rfl, Nat.le_of_ble_eq_true rfl⟩ ⟨by first | (simp only [rmk, rmz]; omega) | (simp only [rmk, rmz]; done) | omega, by first | (simp only [rmk, rmz]; omega) | (simp only [rmk, rmz]; done) | omega⟩ ?_
    refine r_w (w' := WM cy ba ra hf hq kn (nI 0) z ++ E) rfl ?_
    refine r_i2l C dX4_digest_280 ?_
    refine d_Vv (st := []) hX.1.1.stb C hE (D_addL (ba := ba) (ra := ra) (hf := hf) (hq := hq) (kn := kn) (th := (nI 0)) (sm := z) (Y := E) (u := ((nI 1)).toInt64) hX.1 ) pk_X4_add_ qm_X4_219 0 8 rfl rfl wm_0 rfl rfl (Nat.le_of_ble_eq_true rfl) dX4_digest_281 ⟨Nat.le_of_ble_eq_true rfl, Nat.le_of_ble_eq_true rfl⟩ ⟨by first | (simp only [rmk, rmz]; omega) | (simp only [rmk, rmz]; done) | omega, by first | (simp only [rmk, rmz]; omega) | (simp only [rmk, rmz]; done) | omega⟩ ?_
    refine r_w (w' := WM cy ba ra hf hq kn (nI 0) (z * 31 + (((nI 1)).toInt64)) ++ E) rfl ?_
    refine r_aload_n C dX4_digest_284 rfl ?_
    refine m_get (v := .long (z * 31 + (((nI 1)).toInt64))) C 11 (by decide) qf_X4_211 rfl rfl dX4_digest_285 ?_
    exact r_lret C hr dX4_digest_288 ⟨by rw [hz]; rfl, by rw [hz]; rfl⟩ (by first | (simp only [rmk, rmz]; omega) | (simp only [rmk, rmz]; done) | omega) (by first | (simp only [rmk, rmz]; omega) | (simp only [rmk, rmz]; done) | omega)
  have K235 : ∀ z : Int64, z = mcM hf 3 0 (mwM f hf hq 4 0 (mrM hf hq 4 0 (mxF (hoM hf kn) 4 0 7807))) → vC p l e (rmk 9 460 9400 500) s m args below meth c D A (vx_MQ below (vG (fun v1 w1 => v1 = some (.long (dgM f hf hq kn)) ∧ w1 = WM cy ba ra hf hq kn (nI 0) (dgM f hf hq kn) ++ E) D vwCl A) (vGX (fun _ => False) D vwCl (WM cy ba ra hf hq kn th sm ++ E) A) args s (rmk 9 460 9400 500).cells (rmk 9 460 9400 500).slots A) 6 419 8891 (WM cy ba ra hf hq kn (nI 0) z ++ E) [some (.ref (ba 9)), none, none, none, none, none] 235 [] := by
    intro z hz
    refine r_iconst (v := (nI 0)) C dX4_digest_235 (by decide) ?_
    refine r_istore_n C dX4_digest_236 (by decide) rfl ?_
    have L237 : ∀ (d : Nat) (i : Nat) (y : Int64), (ht : i + d = 4) → (hF : mpM f hf hq d i y = mpM f hf hq 4 0 (mcM hf 3 0 (mwM f hf hq 4 0 (mrM hf hq 4 0 (mxF (hoM hf kn) 4 0 7807))))) → vC p l e (rmk 9 460 9400 500) s m args below meth c D A (vx_MQ below (vG (fun v1 w1 => v1 = some (.long (dgM f hf hq kn)) ∧ w1 = WM cy ba ra hf hq kn (nI 0) (dgM f hf hq kn) ++ E) D vwCl A) (vGX (fun _ => False) D vwCl (WM cy ba ra hf hq kn th sm ++ E) A) args s (rmk 9 460 9400 500).cells (rmk 9 460 9400 500).slots A) 6 (419 + 8 * i) (8891 + 96 * i) (WM cy ba ra hf hq kn (nI 0) y ++ E) [some (.ref (ba 9)), some (.int (nI i)), none, none, none, none] 237 [] := by
      intro d
      induction d with
      | zero =>
        intro i y ht hF
        refine r_iload_n C dX4_digest_237 rfl ?_
        refine r_iconst (v := (nI 4)) C dX4_digest_238 (by decide) ?_
        refine r_icN_ge (a := i) (b := 4) (tgt := 272) C (by first | omega | (simp [up2, *]; done) | (simp [up2, *]; omega) | (simp only [up2_eq]; omega) | (split <;> omega)) (by first | omega | (simp [up2, *]; done) | (simp [up2, *]; omega) | (simp only [up2_eq]; omega) | (split <;> omega)) dX4_digest_239 (by decide) (fun h239_1 => ?_) (fun h239_1 => ?_)
        · first
          | exfalso; first | omega | contradiction
          | skip
            refine r_drop 1 ?_
            refine r_widen (k := 451) (n := 9275) (by first | (simp only [rmk, rmz]; omega) | (simp only [rmk, rmz]; done) | omega) (by first | (simp only [rmk, rmz]; omega) | (simp only [rmk, rmz]; done) | omega) ?_
            exact K272 y (by first | exact hF | (exfalso; omega))
        · first
          | exfalso; first | omega | contradiction
          | skip
            refine r_iconst (v := (nI 0)) C dX4_digest_242 (by decide) ?_
            refine r_istore_n C dX4_digest_243 (by decide) rfl ?_
            have L244 : ∀ (d : Nat) (j : Nat) (x : Int64), (hs : j + d = 4) → (hG : mxF (poM f hf hq i) d j x = mxF (poM f hf hq i) 4 0 y) → vC p l e (rmk 9 460 9400 500) s m args below meth c D A (vx_MQ below (vG (fun v1 w1 => v1 = some (.long (dgM f hf hq kn)) ∧ w1 = WM cy ba ra hf hq kn (nI 0) (dgM f hf hq kn) ++ E) D vwCl A) (vGX (fun _ => False) D vwCl (WM cy ba ra hf hq kn th sm ++ E) A) args s (rmk 9 460 9400 500).cells (rmk 9 460 9400 500).slots A) 6 (419 + 8 * i + 2 * j) (8891 + 96 * i + 24 * j) (WM cy ba ra hf hq kn (nI 0) x ++ E) [some (.ref (ba 9)), some (.int (nI i)), some (.int (nI j)), none, none, none] 244 [] := by
              intro d
              induction d with
              | zero =>
                intro j x hs hG
                refine r_iload_n C dX4_digest_244 rfl ?_
                refine r_iconst (v := (nI 4)) C dX4_digest_245 (by decide) ?_
                refine r_icN_ge (a := j) (b := 4) (tgt := 266) C (by first | omega | (simp [up2, *]; done) | (simp [up2, *]; omega) | (simp only [up2_eq]; omega) | (split <;> omega)) (by first | omega | (simp [up2, *]; done) | (simp [up2, *]; omega) | (simp only [up2_eq]; omega) | (split <;> omega)) dX4_digest_246 (by decide) (fun h246_2 => ?_) (fun h246_2 => ?_)
                · first
                  | exfalso; first | omega | contradiction
                  | skip
                    refine r_iincN C dX4_digest_266 rfl (by decide) rfl ?_
                    refine r_goto (tgt := 237) C dX4_digest_269 (by decide) ?_
                    exfalso
                    omega
                · first
                  | exfalso; first | omega | contradiction
                  | skip
                    have q1 := hC.rw (i := i) (by omega)
                    have q2 := hC.rw (i := j) (by omega)
                    refine r_aload_n C dX4_digest_249 rfl ?_
                    refine r_aload_n C dX4_digest_250 rfl ?_
                    refine r_iload_n C dX4_digest_251 rfl ?_
                    refine r_iload_n C dX4_digest_252 rfl ?_
                    refine d_V (st := [.ref (ba 9)]) hX.1.1.stb C hE (D_partNow (ba := ba) (ra := ra) (hf := hf) (hq := hq) (kn := kn) (th := (nI 0)) (sm := x) (Y := E) (w := i) (v := j) (f := f) (r := r) hX.1 hC hM (by omega) (by omega) (by omega) (by omega)) pk_X4_partNow qm_X4_116 0 8 rfl rfl wm_0 rfl rfl (Nat.le_of_ble_eq_true rfl) dX4_digest_253 ⟨Nat.le_of_ble_eq_true rfl, Nat.le_of_ble_eq_true rfl⟩ ⟨by first | (simp only [rmk, rmz]; omega) | (simp only [rmk, rmz]; done) | omega, by first | (simp only [rmk, rmz]; omega) | (simp only [rmk, rmz]; done) | omega⟩ ?_
                    refine r_w (w' := WM cy ba ra hf hq kn (nI 0) x ++ E) rfl ?_
                    refine r_i2l C dX4_digest_256 ?_
                    refine d_Vv (st := []) hX.1.1.stb C hE (D_addL (ba := ba) (ra := ra) (hf := hf) (hq := hq) (kn := kn) (th := (nI 0)) (sm := x) (Y := E) (u := ((poM f hf hq i j)).toInt64) hX.1 ) pk_X4_add_ qm_X4_219 0 8 rfl rfl wm_0 rfl rfl (Nat.le_of_ble_eq_true rfl) dX4_digest_257 ⟨Nat.le_of_ble_eq_true rfl, Nat.le_of_ble_eq_true rfl⟩ ⟨by first | (simp only [rmk, rmz]; omega) | (simp only [rmk, rmz]; done) | omega, by first | (simp only [rmk, rmz]; omega) | (simp only [rmk, rmz]; done) | omega⟩ ?_
                    refine r_w (w' := WM cy ba ra hf hq kn (nI 0) (x * 31 + (((poM f hf hq i j)).toInt64)) ++ E) rfl ?_
                    refine r_iincN C dX4_digest_260 rfl (by decide) rfl ?_
                    refine r_goto (tgt := 244) C dX4_digest_263 (by decide) ?_
                    exfalso
                    omega
              | succ d ih_L244 =>
                intro j x hs hG
                refine r_iload_n C dX4_digest_244 rfl ?_
                refine r_iconst (v := (nI 4)) C dX4_digest_245 (by decide) ?_
                refine r_icN_ge (a := j) (b := 4) (tgt := 266) C (by first | omega | (simp [up2, *]; done) | (simp [up2, *]; omega) | (simp only [up2_eq]; omega) | (split <;> omega)) (by first | omega | (simp [up2, *]; done) | (simp [up2, *]; omega) | (simp only [up2_eq]; omega) | (split <;> omega)) dX4_digest_246 (by decide) (fun h246_3 => ?_) (fun h246_3 => ?_)
                · first
                  | exfalso; first | omega | contradiction
                  | skip
                    refine r_iincN C dX4_digest_266 rfl (by decide) rfl ?_
                    refine r_goto (tgt := 237) C dX4_digest_269 (by decide) ?_
                    exfalso
                    omega
                · first
                  | exfalso; first | omega | contradiction
                  | skip
                    have q1 := hC.rw (i := i) (by omega)
                    have q2 := hC.rw (i := j) (by omega)
                    refine r_aload_n C dX4_digest_249 rfl ?_
                    refine r_aload_n C dX4_digest_250 rfl ?_
                    refine r_iload_n C dX4_digest_251 rfl ?_
                    refine r_iload_n C dX4_digest_252 rfl ?_
                    refine d_V (st := [.ref (ba 9)]) hX.1.1.stb C hE (D_partNow (ba := ba) (ra := ra) (hf := hf) (hq := hq) (kn := kn) (th := (nI 0)) (sm := x) (Y := E) (w := i) (v := j) (f := f) (r := r) hX.1 hC hM (by omega) (by omega) (by omega) (by omega)) pk_X4_partNow qm_X4_116 0 8 rfl rfl wm_0 rfl rfl (Nat.le_of_ble_eq_true rfl) dX4_digest_253 ⟨Nat.le_of_ble_eq_true rfl, Nat.le_of_ble_eq_true rfl⟩ ⟨by first | (simp only [rmk, rmz]; omega) | (simp only [rmk, rmz]; done) | omega, by first | (simp only [rmk, rmz]; omega) | (simp only [rmk, rmz]; done) | omega⟩ ?_
                    refine r_w (w' := WM cy ba ra hf hq kn (nI 0) x ++ E) rfl ?_
                    refine r_i2l C dX4_digest_256 ?_
                    refine d_Vv (st := []) hX.1.1.stb C hE (D_addL (ba := ba) (ra := ra) (hf := hf) (hq := hq) (kn := kn) (th := (nI 0)) (sm := x) (Y := E) (u := ((poM f hf hq i j)).toInt64) hX.1 ) pk_X4_add_ qm_X4_219 0 8 rfl rfl wm_0 rfl rfl (Nat.le_of_ble_eq_true rfl) dX4_digest_257 ⟨Nat.le_of_ble_eq_true rfl, Nat.le_of_ble_eq_true rfl⟩ ⟨by first | (simp only [rmk, rmz]; omega) | (simp only [rmk, rmz]; done) | omega, by first | (simp only [rmk, rmz]; omega) | (simp only [rmk, rmz]; done) | omega⟩ ?_
                    refine r_w (w' := WM cy ba ra hf hq kn (nI 0) (x * 31 + (((poM f hf hq i j)).toInt64)) ++ E) rfl ?_
                    refine r_iincN C dX4_digest_260 rfl (by decide) rfl ?_
                    refine r_goto (tgt := 244) C dX4_digest_263 (by decide) ?_
                    refine r_widen (k := 419 + 8 * i + 2 * (j + 1)) (n := 8891 + 96 * i + 24 * (j + 1)) (by first | (simp only [rmk, rmz]; omega) | (simp only [rmk, rmz]; done) | omega) (by first | (simp only [rmk, rmz]; omega) | (simp only [rmk, rmz]; done) | omega) ?_
                    exact ih_L244 (j + 1) _ (by omega) (by rw [← hG]; rfl)
            refine r_widen (k := 419 + 8 * i + 2 * 0) (n := 8891 + 96 * i + 24 * 0) (by first | (simp only [rmk, rmz]; omega) | (simp only [rmk, rmz]; done) | omega) (by first | (simp only [rmk, rmz]; omega) | (simp only [rmk, rmz]; done) | omega) ?_
            exact L244 4 0 y (by omega) rfl
      | succ d ih_L237 =>
        intro i y ht hF
        refine r_iload_n C dX4_digest_237 rfl ?_
        refine r_iconst (v := (nI 4)) C dX4_digest_238 (by decide) ?_
        refine r_icN_ge (a := i) (b := 4) (tgt := 272) C (by first | omega | (simp [up2, *]; done) | (simp [up2, *]; omega) | (simp only [up2_eq]; omega) | (split <;> omega)) (by first | omega | (simp [up2, *]; done) | (simp [up2, *]; omega) | (simp only [up2_eq]; omega) | (split <;> omega)) dX4_digest_239 (by decide) (fun h239_4 => ?_) (fun h239_4 => ?_)
        · first
          | exfalso; first | omega | contradiction
          | skip
            refine r_drop 1 ?_
            refine r_widen (k := 451) (n := 9275) (by first | (simp only [rmk, rmz]; omega) | (simp only [rmk, rmz]; done) | omega) (by first | (simp only [rmk, rmz]; omega) | (simp only [rmk, rmz]; done) | omega) ?_
            exact K272 y (by first | exact hF | (exfalso; omega))
        · first
          | exfalso; first | omega | contradiction
          | skip
            refine r_iconst (v := (nI 0)) C dX4_digest_242 (by decide) ?_
            refine r_istore_n C dX4_digest_243 (by decide) rfl ?_
            have L244 : ∀ (d : Nat) (j : Nat) (x : Int64), (hs : j + d = 4) → (hG : mxF (poM f hf hq i) d j x = mxF (poM f hf hq i) 4 0 y) → vC p l e (rmk 9 460 9400 500) s m args below meth c D A (vx_MQ below (vG (fun v1 w1 => v1 = some (.long (dgM f hf hq kn)) ∧ w1 = WM cy ba ra hf hq kn (nI 0) (dgM f hf hq kn) ++ E) D vwCl A) (vGX (fun _ => False) D vwCl (WM cy ba ra hf hq kn th sm ++ E) A) args s (rmk 9 460 9400 500).cells (rmk 9 460 9400 500).slots A) 6 (419 + 8 * i + 2 * j) (8891 + 96 * i + 24 * j) (WM cy ba ra hf hq kn (nI 0) x ++ E) [some (.ref (ba 9)), some (.int (nI i)), some (.int (nI j)), none, none, none] 244 [] := by
              intro d
              induction d with
              | zero =>
                intro j x hs hG
                refine r_iload_n C dX4_digest_244 rfl ?_
                refine r_iconst (v := (nI 4)) C dX4_digest_245 (by decide) ?_
                refine r_icN_ge (a := j) (b := 4) (tgt := 266) C (by first | omega | (simp [up2, *]; done) | (simp [up2, *]; omega) | (simp only [up2_eq]; omega) | (split <;> omega)) (by first | omega | (simp [up2, *]; done) | (simp [up2, *]; omega) | (simp only [up2_eq]; omega) | (split <;> omega)) dX4_digest_246 (by decide) (fun h246_5 => ?_) (fun h246_5 => ?_)
                · first
                  | exfalso; first | omega | contradiction
                  | skip
                    refine r_iincN C dX4_digest_266 rfl (by decide) rfl ?_
                    refine r_goto (tgt := 237) C dX4_digest_269 (by decide) ?_
                    refine r_drop 2 ?_
                    refine r_widen (k := 419 + 8 * (i + 1)) (n := 8891 + 96 * (i + 1)) (by first | (simp only [rmk, rmz]; omega) | (simp only [rmk, rmz]; done) | omega) (by first | (simp only [rmk, rmz]; omega) | (simp only [rmk, rmz]; done) | omega) ?_
                    exact ih_L237 (i + 1) _ (by omega) (by rw [← hF]; exact congrArg (mpM f hf hq _ (i + 1)) hG)
                · first
                  | exfalso; first | omega | contradiction
                  | skip
                    have q1 := hC.rw (i := i) (by omega)
                    have q2 := hC.rw (i := j) (by omega)
                    refine r_aload_n C dX4_digest_249 rfl ?_
                    refine r_aload_n C dX4_digest_250 rfl ?_
                    refine r_iload_n C dX4_digest_251 rfl ?_
                    refine r_iload_n C dX4_digest_252 rfl ?_
                    refine d_V (st := [.ref (ba 9)]) hX.1.1.stb C hE (D_partNow (ba := ba) (ra := ra) (hf := hf) (hq := hq) (kn := kn) (th := (nI 0)) (sm := x) (Y := E) (w := i) (v := j) (f := f) (r := r) hX.1 hC hM (by omega) (by omega) (by omega) (by omega)) pk_X4_partNow qm_X4_116 0 8 rfl rfl wm_0 rfl rfl (Nat.le_of_ble_eq_true rfl) dX4_digest_253 ⟨Nat.le_of_ble_eq_true rfl, Nat.le_of_ble_eq_true rfl⟩ ⟨by first | (simp only [rmk, rmz]; omega) | (simp only [rmk, rmz]; done) | omega, by first | (simp only [rmk, rmz]; omega) | (simp only [rmk, rmz]; done) | omega⟩ ?_
                    refine r_w (w' := WM cy ba ra hf hq kn (nI 0) x ++ E) rfl ?_
                    refine r_i2l C dX4_digest_256 ?_
                    refine d_Vv (st := []) hX.1.1.stb C hE (D_addL (ba := ba) (ra := ra) (hf := hf) (hq := hq) (kn := kn) (th := (nI 0)) (sm := x) (Y := E) (u := ((poM f hf hq i j)).toInt64) hX.1 ) pk_X4_add_ qm_X4_219 0 8 rfl rfl wm_0 rfl rfl (Nat.le_of_ble_eq_true rfl) dX4_digest_257 ⟨Nat.le_of_ble_eq_true rfl, Nat.le_of_ble_eq_true rfl⟩ ⟨by first | (simp only [rmk, rmz]; omega) | (simp only [rmk, rmz]; done) | omega, by first | (simp only [rmk, rmz]; omega) | (simp only [rmk, rmz]; done) | omega⟩ ?_
                    refine r_w (w' := WM cy ba ra hf hq kn (nI 0) (x * 31 + (((poM f hf hq i j)).toInt64)) ++ E) rfl ?_
                    refine r_iincN C dX4_digest_260 rfl (by decide) rfl ?_
                    refine r_goto (tgt := 244) C dX4_digest_263 (by decide) ?_
                    exfalso
                    omega
              | succ d ih_L244 =>
                intro j x hs hG
                refine r_iload_n C dX4_digest_244 rfl ?_
                refine r_iconst (v := (nI 4)) C dX4_digest_245 (by decide) ?_
                refine r_icN_ge (a := j) (b := 4) (tgt := 266) C (by first | omega | (simp [up2, *]; done) | (simp [up2, *]; omega) | (simp only [up2_eq]; omega) | (split <;> omega)) (by first | omega | (simp [up2, *]; done) | (simp [up2, *]; omega) | (simp only [up2_eq]; omega) | (split <;> omega)) dX4_digest_246 (by decide) (fun h246_6 => ?_) (fun h246_6 => ?_)
                · first
                  | exfalso; first | omega | contradiction
                  | skip
                    refine r_iincN C dX4_digest_266 rfl (by decide) rfl ?_
                    refine r_goto (tgt := 237) C dX4_digest_269 (by decide) ?_
                    refine r_drop 2 ?_
                    refine r_widen (k := 419 + 8 * (i + 1)) (n := 8891 + 96 * (i + 1)) (by first | (simp only [rmk, rmz]; omega) | (simp only [rmk, rmz]; done) | omega) (by first | (simp only [rmk, rmz]; omega) | (simp only [rmk, rmz]; done) | omega) ?_
                    exact ih_L237 (i + 1) _ (by omega) (by rw [← hF]; exact congrArg (mpM f hf hq _ (i + 1)) hG)
                · first
                  | exfalso; first | omega | contradiction
                  | skip
                    have q1 := hC.rw (i := i) (by omega)
                    have q2 := hC.rw (i := j) (by omega)
                    refine r_aload_n C dX4_digest_249 rfl ?_
                    refine r_aload_n C dX4_digest_250 rfl ?_
                    refine r_iload_n C dX4_digest_251 rfl ?_
                    refine r_iload_n C dX4_digest_252 rfl ?_
                    refine d_V (st := [.ref (ba 9)]) hX.1.1.stb C hE (D_partNow (ba := ba) (ra := ra) (hf := hf) (hq := hq) (kn := kn) (th := (nI 0)) (sm := x) (Y := E) (w := i) (v := j) (f := f) (r := r) hX.1 hC hM (by omega) (by omega) (by omega) (by omega)) pk_X4_partNow qm_X4_116 0 8 rfl rfl wm_0 rfl rfl (Nat.le_of_ble_eq_true rfl) dX4_digest_253 ⟨Nat.le_of_ble_eq_true rfl, Nat.le_of_ble_eq_true rfl⟩ ⟨by first | (simp only [rmk, rmz]; omega) | (simp only [rmk, rmz]; done) | omega, by first | (simp only [rmk, rmz]; omega) | (simp only [rmk, rmz]; done) | omega⟩ ?_
                    refine r_w (w' := WM cy ba ra hf hq kn (nI 0) x ++ E) rfl ?_
                    refine r_i2l C dX4_digest_256 ?_
                    refine d_Vv (st := []) hX.1.1.stb C hE (D_addL (ba := ba) (ra := ra) (hf := hf) (hq := hq) (kn := kn) (th := (nI 0)) (sm := x) (Y := E) (u := ((poM f hf hq i j)).toInt64) hX.1 ) pk_X4_add_ qm_X4_219 0 8 rfl rfl wm_0 rfl rfl (Nat.le_of_ble_eq_true rfl) dX4_digest_257 ⟨Nat.le_of_ble_eq_true rfl, Nat.le_of_ble_eq_true rfl⟩ ⟨by first | (simp only [rmk, rmz]; omega) | (simp only [rmk, rmz]; done) | omega, by first | (simp only [rmk, rmz]; omega) | (simp only [rmk, rmz]; done) | omega⟩ ?_
                    refine r_w (w' := WM cy ba ra hf hq kn (nI 0) (x * 31 + (((poM f hf hq i j)).toInt64)) ++ E) rfl ?_
                    refine r_iincN C dX4_digest_260 rfl (by decide) rfl ?_
                    refine r_goto (tgt := 244) C dX4_digest_263 (by decide) ?_
                    refine r_widen (k := 419 + 8 * i + 2 * (j + 1)) (n := 8891 + 96 * i + 24 * (j + 1)) (by first | (simp only [rmk, rmz]; omega) | (simp only [rmk, rmz]; done) | omega) (by first | (simp only [rmk, rmz]; omega) | (simp only [rmk, rmz]; done) | omega) ?_
                    exact ih_L244 (j + 1) _ (by omega) (by rw [← hG]; rfl)
            refine r_widen (k := 419 + 8 * i + 2 * 0) (n := 8891 + 96 * i + 24 * 0) (by first | (simp only [rmk, rmz]; omega) | (simp only [rmk, rmz]; done) | omega) (by first | (simp only [rmk, rmz]; omega) | (simp only [rmk, rmz]; done) | omega) ?_
            exact L244 4 0 y (by omega) rfl
    refine r_widen (k := 419 + 8 * 0) (n := 8891 + 96 * 0) (by first | (simp only [rmk, rmz]; omega) | (simp only [rmk, rmz]; done) | omega) (by first | (simp only [rmk, rmz]; omega) | (simp only [rmk, rmz]; done) | omega) ?_
    exact L237 4 0 z (by omega) (by rw [hz])
  have K198 : ∀ z : Int64, z = mwM f hf hq 4 0 (mrM hf hq 4 0 (mxF (hoM hf kn) 4 0 7807)) → vC p l e (rmk 9 460 9400 500) s m args below meth c D A (vx_MQ below (vG (fun v1 w1 => v1 = some (.long (dgM f hf hq kn)) ∧ w1 = WM cy ba ra hf hq kn (nI 0) (dgM f hf hq kn) ++ E) D vwCl A) (vGX (fun _ => False) D vwCl (WM cy ba ra hf hq kn th sm ++ E) A) args s (rmk 9 460 9400 500).cells (rmk 9 460 9400 500).slots A) 6 404 8816 (WM cy ba ra hf hq kn (nI 0) z ++ E) [some (.ref (ba 9)), none, none, none, none, none] 198 [] := by
    intro z hz
    refine r_iconst (v := (nI 0)) C dX4_digest_198 (by decide) ?_
    refine r_istore_n C dX4_digest_199 (by decide) rfl ?_
    have L200 : ∀ (d : Nat) (k : Nat) (y : Int64), (ht : k + d = 3) → (hF : mcM hf d k y = mcM hf 3 0 (mwM f hf hq 4 0 (mrM hf hq 4 0 (mxF (hoM hf kn) 4 0 7807)))) → vC p l e (rmk 9 460 9400 500) s m args below meth c D A (vx_MQ below (vG (fun v1 w1 => v1 = some (.long (dgM f hf hq kn)) ∧ w1 = WM cy ba ra hf hq kn (nI 0) (dgM f hf hq kn) ++ E) D vwCl A) (vGX (fun _ => False) D vwCl (WM cy ba ra hf hq kn th sm ++ E) A) args s (rmk 9 460 9400 500).cells (rmk 9 460 9400 500).slots A) 6 (404 + 5 * k) (8816 + 25 * k) (WM cy ba ra hf hq kn (nI 0) y ++ E) [some (.ref (ba 9)), some (.int (nI k)), none, none, none, none] 200 [] := by
      intro d
      induction d with
      | zero =>
        intro k y ht hF
        refine r_iload_n C dX4_digest_200 rfl ?_
        refine r_iconst (v := (nI 3)) C dX4_digest_201 (by decide) ?_
        refine r_icN_ge (a := k) (b := 3) (tgt := 235) C (by first | omega | (simp [up2, *]; done) | (simp [up2, *]; omega) | (simp only [up2_eq]; omega) | (split <;> omega)) (by first | omega | (simp [up2, *]; done) | (simp [up2, *]; omega) | (simp only [up2_eq]; omega) | (split <;> omega)) dX4_digest_202 (by decide) (fun h202_7 => ?_) (fun h202_7 => ?_)
        · first
          | exfalso; first | omega | contradiction
          | skip
            refine r_drop 1 ?_
            refine r_widen (k := 419) (n := 8891) (by first | (simp only [rmk, rmz]; omega) | (simp only [rmk, rmz]; done) | omega) (by first | (simp only [rmk, rmz]; omega) | (simp only [rmk, rmz]; done) | omega) ?_
            exact K235 y (by first | exact hF | (exfalso; omega))
        · first
          | exfalso; first | omega | contradiction
          | skip
            refine r_iconst (v := (nI 0)) C dX4_digest_205 (by decide) ?_
            refine r_istore_n C dX4_digest_206 (by decide) rfl ?_
            have L207 : ∀ (d : Nat) (j : Nat) (x : Int64), (hs : j + d = 5) → (hG : mxF (cqM hf k) d j x = mxF (cqM hf k) 5 0 y) → vC p l e (rmk 9 460 9400 500) s m args below meth c D A (vx_MQ below (vG (fun v1 w1 => v1 = some (.long (dgM f hf hq kn)) ∧ w1 = WM cy ba ra hf hq kn (nI 0) (dgM f hf hq kn) ++ E) D vwCl A) (vGX (fun _ => False) D vwCl (WM cy ba ra hf hq kn th sm ++ E) A) args s (rmk 9 460 9400 500).cells (rmk 9 460 9400 500).slots A) 6 (404 + 5 * k + j) (8816 + 25 * k + 5 * j) (WM cy ba ra hf hq kn (nI 0) x ++ E) [some (.ref (ba 9)), some (.int (nI k)), some (.int (nI j)), none, none, none] 207 [] := by
              intro d
              induction d with
              | zero =>
                intro j x hs hG
                refine r_iload_n C dX4_digest_207 rfl ?_
                refine r_iconst (v := (nI 5)) C dX4_digest_208 (by decide) ?_
                refine r_icN_ge (a := j) (b := 5) (tgt := 229) C (by first | omega | (simp [up2, *]; done) | (simp [up2, *]; omega) | (simp only [up2_eq]; omega) | (split <;> omega)) (by first | omega | (simp [up2, *]; done) | (simp [up2, *]; omega) | (simp only [up2_eq]; omega) | (split <;> omega)) dX4_digest_209 (by decide) (fun h209_8 => ?_) (fun h209_8 => ?_)
                · first
                  | exfalso; first | omega | contradiction
                  | skip
                    refine r_iincN C dX4_digest_229 rfl (by decide) rfl ?_
                    refine r_goto (tgt := 200) C dX4_digest_232 (by decide) ?_
                    exfalso
                    omega
                · first
                  | exfalso; first | omega | contradiction
                  | skip
                    refine r_aload_n C dX4_digest_212 rfl ?_
                    refine r_aload_n C dX4_digest_213 rfl ?_
                    refine r_iload_n C dX4_digest_214 rfl ?_
                    refine r_iload_n C dX4_digest_215 rfl ?_
                    refine d_V (st := [.ref (ba 9)]) hX.1.1.stb C hE (D_cursorNow (ba := ba) (ra := ra) (hf := hf) (hq := hq) (kn := kn) (th := (nI 0)) (sm := x) (Y := E) (k0 := k) (q0 := j) (f := f) (r := r) hX.1 hC hM (by omega) (by omega)) pk_X4_cursorNow qm_X4_199 0 8 rfl rfl wm_0 rfl rfl (Nat.le_of_ble_eq_true rfl) dX4_digest_216 ⟨Nat.le_of_ble_eq_true rfl, Nat.le_of_ble_eq_true rfl⟩ ⟨by first | (simp only [rmk, rmz]; omega) | (simp only [rmk, rmz]; done) | omega, by first | (simp only [rmk, rmz]; omega) | (simp only [rmk, rmz]; done) | omega⟩ ?_
                    refine r_w (w' := WM cy ba ra hf hq kn (nI 0) x ++ E) rfl ?_
                    refine r_i2l C dX4_digest_219 ?_
                    refine d_Vv (st := []) hX.1.1.stb C hE (D_addL (ba := ba) (ra := ra) (hf := hf) (hq := hq) (kn := kn) (th := (nI 0)) (sm := x) (Y := E) (u := ((cqM hf k j)).toInt64) hX.1 ) pk_X4_add_ qm_X4_219 0 8 rfl rfl wm_0 rfl rfl (Nat.le_of_ble_eq_true rfl) dX4_digest_220 ⟨Nat.le_of_ble_eq_true rfl, Nat.le_of_ble_eq_true rfl⟩ ⟨by first | (simp only [rmk, rmz]; omega) | (simp only [rmk, rmz]; done) | omega, by first | (simp only [rmk, rmz]; omega) | (simp only [rmk, rmz]; done) | omega⟩ ?_
                    refine r_w (w' := WM cy ba ra hf hq kn (nI 0) (x * 31 + (((cqM hf k j)).toInt64)) ++ E) rfl ?_
                    refine r_iincN C dX4_digest_223 rfl (by decide) rfl ?_
                    refine r_goto (tgt := 207) C dX4_digest_226 (by decide) ?_
                    exfalso
                    omega
              | succ d ih_L207 =>
                intro j x hs hG
                refine r_iload_n C dX4_digest_207 rfl ?_
                refine r_iconst (v := (nI 5)) C dX4_digest_208 (by decide) ?_
                refine r_icN_ge (a := j) (b := 5) (tgt := 229) C (by first | omega | (simp [up2, *]; done) | (simp [up2, *]; omega) | (simp only [up2_eq]; omega) | (split <;> omega)) (by first | omega | (simp [up2, *]; done) | (simp [up2, *]; omega) | (simp only [up2_eq]; omega) | (split <;> omega)) dX4_digest_209 (by decide) (fun h209_9 => ?_) (fun h209_9 => ?_)
                · first
                  | exfalso; first | omega | contradiction
                  | skip
                    refine r_iincN C dX4_digest_229 rfl (by decide) rfl ?_
                    refine r_goto (tgt := 200) C dX4_digest_232 (by decide) ?_
                    exfalso
                    omega
                · first
                  | exfalso; first | omega | contradiction
                  | skip
                    refine r_aload_n C dX4_digest_212 rfl ?_
                    refine r_aload_n C dX4_digest_213 rfl ?_
                    refine r_iload_n C dX4_digest_214 rfl ?_
                    refine r_iload_n C dX4_digest_215 rfl ?_
                    refine d_V (st := [.ref (ba 9)]) hX.1.1.stb C hE (D_cursorNow (ba := ba) (ra := ra) (hf := hf) (hq := hq) (kn := kn) (th := (nI 0)) (sm := x) (Y := E) (k0 := k) (q0 := j) (f := f) (r := r) hX.1 hC hM (by omega) (by omega)) pk_X4_cursorNow qm_X4_199 0 8 rfl rfl wm_0 rfl rfl (Nat.le_of_ble_eq_true rfl) dX4_digest_216 ⟨Nat.le_of_ble_eq_true rfl, Nat.le_of_ble_eq_true rfl⟩ ⟨by first | (simp only [rmk, rmz]; omega) | (simp only [rmk, rmz]; done) | omega, by first | (simp only [rmk, rmz]; omega) | (simp only [rmk, rmz]; done) | omega⟩ ?_
                    refine r_w (w' := WM cy ba ra hf hq kn (nI 0) x ++ E) rfl ?_
                    refine r_i2l C dX4_digest_219 ?_
                    refine d_Vv (st := []) hX.1.1.stb C hE (D_addL (ba := ba) (ra := ra) (hf := hf) (hq := hq) (kn := kn) (th := (nI 0)) (sm := x) (Y := E) (u := ((cqM hf k j)).toInt64) hX.1 ) pk_X4_add_ qm_X4_219 0 8 rfl rfl wm_0 rfl rfl (Nat.le_of_ble_eq_true rfl) dX4_digest_220 ⟨Nat.le_of_ble_eq_true rfl, Nat.le_of_ble_eq_true rfl⟩ ⟨by first | (simp only [rmk, rmz]; omega) | (simp only [rmk, rmz]; done) | omega, by first | (simp only [rmk, rmz]; omega) | (simp only [rmk, rmz]; done) | omega⟩ ?_
                    refine r_w (w' := WM cy ba ra hf hq kn (nI 0) (x * 31 + (((cqM hf k j)).toInt64)) ++ E) rfl ?_
                    refine r_iincN C dX4_digest_223 rfl (by decide) rfl ?_
                    refine r_goto (tgt := 207) C dX4_digest_226 (by decide) ?_
                    refine r_widen (k := 404 + 5 * k + (j + 1)) (n := 8816 + 25 * k + 5 * (j + 1)) (by first | (simp only [rmk, rmz]; omega) | (simp only [rmk, rmz]; done) | omega) (by first | (simp only [rmk, rmz]; omega) | (simp only [rmk, rmz]; done) | omega) ?_
                    exact ih_L207 (j + 1) _ (by omega) (by rw [← hG]; rfl)
            refine r_widen (k := 404 + 5 * k + 0) (n := 8816 + 25 * k + 5 * 0) (by first | (simp only [rmk, rmz]; omega) | (simp only [rmk, rmz]; done) | omega) (by first | (simp only [rmk, rmz]; omega) | (simp only [rmk, rmz]; done) | omega) ?_
            exact L207 5 0 y (by omega) rfl
      | succ d ih_L200 =>
        intro k y ht hF
        refine r_iload_n C dX4_digest_200 rfl ?_
        refine r_iconst (v := (nI 3)) C dX4_digest_201 (by decide) ?_
        refine r_icN_ge (a := k) (b := 3) (tgt := 235) C (by first | omega | (simp [up2, *]; done) | (simp [up2, *]; omega) | (simp only [up2_eq]; omega) | (split <;> omega)) (by first | omega | (simp [up2, *]; done) | (simp [up2, *]; omega) | (simp only [up2_eq]; omega) | (split <;> omega)) dX4_digest_202 (by decide) (fun h202_10 => ?_) (fun h202_10 => ?_)
        · first
          | exfalso; first | omega | contradiction
          | skip
            refine r_drop 1 ?_
            refine r_widen (k := 419) (n := 8891) (by first | (simp only [rmk, rmz]; omega) | (simp only [rmk, rmz]; done) | omega) (by first | (simp only [rmk, rmz]; omega) | (simp only [rmk, rmz]; done) | omega) ?_
            exact K235 y (by first | exact hF | (exfalso; omega))
        · first
          | exfalso; first | omega | contradiction
          | skip
            refine r_iconst (v := (nI 0)) C dX4_digest_205 (by decide) ?_
            refine r_istore_n C dX4_digest_206 (by decide) rfl ?_
            have L207 : ∀ (d : Nat) (j : Nat) (x : Int64), (hs : j + d = 5) → (hG : mxF (cqM hf k) d j x = mxF (cqM hf k) 5 0 y) → vC p l e (rmk 9 460 9400 500) s m args below meth c D A (vx_MQ below (vG (fun v1 w1 => v1 = some (.long (dgM f hf hq kn)) ∧ w1 = WM cy ba ra hf hq kn (nI 0) (dgM f hf hq kn) ++ E) D vwCl A) (vGX (fun _ => False) D vwCl (WM cy ba ra hf hq kn th sm ++ E) A) args s (rmk 9 460 9400 500).cells (rmk 9 460 9400 500).slots A) 6 (404 + 5 * k + j) (8816 + 25 * k + 5 * j) (WM cy ba ra hf hq kn (nI 0) x ++ E) [some (.ref (ba 9)), some (.int (nI k)), some (.int (nI j)), none, none, none] 207 [] := by
              intro d
              induction d with
              | zero =>
                intro j x hs hG
                refine r_iload_n C dX4_digest_207 rfl ?_
                refine r_iconst (v := (nI 5)) C dX4_digest_208 (by decide) ?_
                refine r_icN_ge (a := j) (b := 5) (tgt := 229) C (by first | omega | (simp [up2, *]; done) | (simp [up2, *]; omega) | (simp only [up2_eq]; omega) | (split <;> omega)) (by first | omega | (simp [up2, *]; done) | (simp [up2, *]; omega) | (simp only [up2_eq]; omega) | (split <;> omega)) dX4_digest_209 (by decide) (fun h209_11 => ?_) (fun h209_11 => ?_)
                · first
                  | exfalso; first | omega | contradiction
                  | skip
                    refine r_iincN C dX4_digest_229 rfl (by decide) rfl ?_
                    refine r_goto (tgt := 200) C dX4_digest_232 (by decide) ?_
                    refine r_drop 2 ?_
                    refine r_widen (k := 404 + 5 * (k + 1)) (n := 8816 + 25 * (k + 1)) (by first | (simp only [rmk, rmz]; omega) | (simp only [rmk, rmz]; done) | omega) (by first | (simp only [rmk, rmz]; omega) | (simp only [rmk, rmz]; done) | omega) ?_
                    exact ih_L200 (k + 1) _ (by omega) (by rw [← hF]; exact congrArg (mcM hf _ (k + 1)) hG)
                · first
                  | exfalso; first | omega | contradiction
                  | skip
                    refine r_aload_n C dX4_digest_212 rfl ?_
                    refine r_aload_n C dX4_digest_213 rfl ?_
                    refine r_iload_n C dX4_digest_214 rfl ?_
                    refine r_iload_n C dX4_digest_215 rfl ?_
                    refine d_V (st := [.ref (ba 9)]) hX.1.1.stb C hE (D_cursorNow (ba := ba) (ra := ra) (hf := hf) (hq := hq) (kn := kn) (th := (nI 0)) (sm := x) (Y := E) (k0 := k) (q0 := j) (f := f) (r := r) hX.1 hC hM (by omega) (by omega)) pk_X4_cursorNow qm_X4_199 0 8 rfl rfl wm_0 rfl rfl (Nat.le_of_ble_eq_true rfl) dX4_digest_216 ⟨Nat.le_of_ble_eq_true rfl, Nat.le_of_ble_eq_true rfl⟩ ⟨by first | (simp only [rmk, rmz]; omega) | (simp only [rmk, rmz]; done) | omega, by first | (simp only [rmk, rmz]; omega) | (simp only [rmk, rmz]; done) | omega⟩ ?_
                    refine r_w (w' := WM cy ba ra hf hq kn (nI 0) x ++ E) rfl ?_
                    refine r_i2l C dX4_digest_219 ?_
                    refine d_Vv (st := []) hX.1.1.stb C hE (D_addL (ba := ba) (ra := ra) (hf := hf) (hq := hq) (kn := kn) (th := (nI 0)) (sm := x) (Y := E) (u := ((cqM hf k j)).toInt64) hX.1 ) pk_X4_add_ qm_X4_219 0 8 rfl rfl wm_0 rfl rfl (Nat.le_of_ble_eq_true rfl) dX4_digest_220 ⟨Nat.le_of_ble_eq_true rfl, Nat.le_of_ble_eq_true rfl⟩ ⟨by first | (simp only [rmk, rmz]; omega) | (simp only [rmk, rmz]; done) | omega, by first | (simp only [rmk, rmz]; omega) | (simp only [rmk, rmz]; done) | omega⟩ ?_
                    refine r_w (w' := WM cy ba ra hf hq kn (nI 0) (x * 31 + (((cqM hf k j)).toInt64)) ++ E) rfl ?_
                    refine r_iincN C dX4_digest_223 rfl (by decide) rfl ?_
                    refine r_goto (tgt := 207) C dX4_digest_226 (by decide) ?_
                    exfalso
                    omega
              | succ d ih_L207 =>
                intro j x hs hG
                refine r_iload_n C dX4_digest_207 rfl ?_
                refine r_iconst (v := (nI 5)) C dX4_digest_208 (by decide) ?_
                refine r_icN_ge (a := j) (b := 5) (tgt := 229) C (by first | omega | (simp [up2, *]; done) | (simp [up2, *]; omega) | (simp only [up2_eq]; omega) | (split <;> omega)) (by first | omega | (simp [up2, *]; done) | (simp [up2, *]; omega) | (simp only [up2_eq]; omega) | (split <;> omega)) dX4_digest_209 (by decide) (fun h209_12 => ?_) (fun h209_12 => ?_)
                · first
                  | exfalso; first | omega | contradiction
                  | skip
                    refine r_iincN C dX4_digest_229 rfl (by decide) rfl ?_
                    refine r_goto (tgt := 200) C dX4_digest_232 (by decide) ?_
                    refine r_drop 2 ?_
                    refine r_widen (k := 404 + 5 * (k + 1)) (n := 8816 + 25 * (k + 1)) (by first | (simp only [rmk, rmz]; omega) | (simp only [rmk, rmz]; done) | omega) (by first | (simp only [rmk, rmz]; omega) | (simp only [rmk, rmz]; done) | omega) ?_
                    exact ih_L200 (k + 1) _ (by omega) (by rw [← hF]; exact congrArg (mcM hf _ (k + 1)) hG)
                · first
                  | exfalso; first | omega | contradiction
                  | skip
                    refine r_aload_n C dX4_digest_212 rfl ?_
                    refine r_aload_n C dX4_digest_213 rfl ?_
                    refine r_iload_n C dX4_digest_214 rfl ?_
                    refine r_iload_n C dX4_digest_215 rfl ?_
                    refine d_V (st := [.ref (ba 9)]) hX.1.1.stb C hE (D_cursorNow (ba := ba) (ra := ra) (hf := hf) (hq := hq) (kn := kn) (th := (nI 0)) (sm := x) (Y := E) (k0 := k) (q0 := j) (f := f) (r := r) hX.1 hC hM (by omega) (by omega)) pk_X4_cursorNow qm_X4_199 0 8 rfl rfl wm_0 rfl rfl (Nat.le_of_ble_eq_true rfl) dX4_digest_216 ⟨Nat.le_of_ble_eq_true rfl, Nat.le_of_ble_eq_true rfl⟩ ⟨by first | (simp only [rmk, rmz]; omega) | (simp only [rmk, rmz]; done) | omega, by first | (simp only [rmk, rmz]; omega) | (simp only [rmk, rmz]; done) | omega⟩ ?_
                    refine r_w (w' := WM cy ba ra hf hq kn (nI 0) x ++ E) rfl ?_
                    refine r_i2l C dX4_digest_219 ?_
                    refine d_Vv (st := []) hX.1.1.stb C hE (D_addL (ba := ba) (ra := ra) (hf := hf) (hq := hq) (kn := kn) (th := (nI 0)) (sm := x) (Y := E) (u := ((cqM hf k j)).toInt64) hX.1 ) pk_X4_add_ qm_X4_219 0 8 rfl rfl wm_0 rfl rfl (Nat.le_of_ble_eq_true rfl) dX4_digest_220 ⟨Nat.le_of_ble_eq_true rfl, Nat.le_of_ble_eq_true rfl⟩ ⟨by first | (simp only [rmk, rmz]; omega) | (simp only [rmk, rmz]; done) | omega, by first | (simp only [rmk, rmz]; omega) | (simp only [rmk, rmz]; done) | omega⟩ ?_
                    refine r_w (w' := WM cy ba ra hf hq kn (nI 0) (x * 31 + (((cqM hf k j)).toInt64)) ++ E) rfl ?_
                    refine r_iincN C dX4_digest_223 rfl (by decide) rfl ?_
                    refine r_goto (tgt := 207) C dX4_digest_226 (by decide) ?_
                    refine r_widen (k := 404 + 5 * k + (j + 1)) (n := 8816 + 25 * k + 5 * (j + 1)) (by first | (simp only [rmk, rmz]; omega) | (simp only [rmk, rmz]; done) | omega) (by first | (simp only [rmk, rmz]; omega) | (simp only [rmk, rmz]; done) | omega) ?_
                    exact ih_L207 (j + 1) _ (by omega) (by rw [← hG]; rfl)
            refine r_widen (k := 404 + 5 * k + 0) (n := 8816 + 25 * k + 5 * 0) (by first | (simp only [rmk, rmz]; omega) | (simp only [rmk, rmz]; done) | omega) (by first | (simp only [rmk, rmz]; omega) | (simp only [rmk, rmz]; done) | omega) ?_
            exact L207 5 0 y (by omega) rfl
    refine r_widen (k := 404 + 5 * 0) (n := 8816 + 25 * 0) (by first | (simp only [rmk, rmz]; omega) | (simp only [rmk, rmz]; done) | omega) (by first | (simp only [rmk, rmz]; omega) | (simp only [rmk, rmz]; done) | omega) ?_
    exact L200 3 0 z (by omega) (by rw [hz])
  have K121 : ∀ z : Int64, z = mrM hf hq 4 0 (mxF (hoM hf kn) 4 0 7807) → vC p l e (rmk 9 460 9400 500) s m args below meth c D A (vx_MQ below (vG (fun v1 w1 => v1 = some (.long (dgM f hf hq kn)) ∧ w1 = WM cy ba ra hf hq kn (nI 0) (dgM f hf hq kn) ++ E) D vwCl A) (vGX (fun _ => False) D vwCl (WM cy ba ra hf hq kn th sm ++ E) A) args s (rmk 9 460 9400 500).cells (rmk 9 460 9400 500).slots A) 6 404 8816 (WM cy ba ra hf hq kn (nI 0) z ++ E) [some (.ref (ba 9)), none, none, none, none, none] 121 [] := by
    intro z hz
    refine r_iconst (v := (nI 0)) C dX4_digest_121 (by decide) ?_
    refine r_istore_n C dX4_digest_122 (by decide) rfl ?_
    have L123 : ∀ (d : Nat) (k : Nat) (y : Int64), (ht : k + d = 4) → (hF : mwM f hf hq d k y = mwM f hf hq 4 0 (mrM hf hq 4 0 (mxF (hoM hf kn) 4 0 7807))) → vC p l e (rmk 9 460 9400 500) s m args below meth c D A (vx_MQ below (vG (fun v1 w1 => v1 = some (.long (dgM f hf hq kn)) ∧ w1 = WM cy ba ra hf hq kn (nI 0) (dgM f hf hq kn) ++ E) D vwCl A) (vGX (fun _ => False) D vwCl (WM cy ba ra hf hq kn th sm ++ E) A) args s (rmk 9 460 9400 500).cells (rmk 9 460 9400 500).slots A) 6 (404) (8816) (WM cy ba ra hf hq kn (nI 0) y ++ E) [some (.ref (ba 9)), some (.int (nI k)), none, none, none, none] 123 [] := by
      intro d
      induction d with
      | zero =>
        intro k y ht hF
        refine r_iload_n C dX4_digest_123 rfl ?_
        refine r_iconst (v := (nI 4)) C dX4_digest_124 (by decide) ?_
        refine r_icN_ge (a := k) (b := 4) (tgt := 198) C (by first | omega | (simp [up2, *]; done) | (simp [up2, *]; omega) | (simp only [up2_eq]; omega) | (split <;> omega)) (by first | omega | (simp [up2, *]; done) | (simp [up2, *]; omega) | (simp only [up2_eq]; omega) | (split <;> omega)) dX4_digest_125 (by decide) (fun h125_13 => ?_) (fun h125_13 => ?_)
        · first
          | exfalso; first | omega | contradiction
          | skip
            refine r_drop 1 ?_
            refine r_widen (k := 404) (n := 8816) (by first | (simp only [rmk, rmz]; omega) | (simp only [rmk, rmz]; done) | omega) (by first | (simp only [rmk, rmz]; omega) | (simp only [rmk, rmz]; done) | omega) ?_
            exact K198 y (by first | exact hF | (exfalso; omega))
        · first
          | exfalso; first | omega | contradiction
          | skip
            have z1 := (hM.2.2.1 (4 + k) (by omega) (by omega)).1
            have z2 := hC.h5 (4 + k) (by omega)
            refine r_iconst (v := (nI 0)) C dX4_digest_128 (by decide) ?_
            refine r_istore_n C dX4_digest_129 (by decide) rfl ?_
            have L130 : ∀ (d : Nat) (j : Nat) (x : Int64), (hs : j + d = 3) → (hG : mxF (fun q => nI (wqM f hf k q)) d j x = mxF (fun q => nI (wqM f hf k q)) 3 0 y) → vC p l e (rmk 9 460 9400 500) s m args below meth c D A (vx_MQ below (vG (fun v1 w1 => v1 = some (.long (dgM f hf hq kn)) ∧ w1 = WM cy ba ra hf hq kn (nI 0) (dgM f hf hq kn) ++ E) D vwCl A) (vGX (fun _ => False) D vwCl (WM cy ba ra hf hq kn th sm ++ E) A) args s (rmk 9 460 9400 500).cells (rmk 9 460 9400 500).slots A) 6 (404) (8816) (WM cy ba ra hf hq kn (nI 0) x ++ E) [some (.ref (ba 9)), some (.int (nI k)), some (.int (nI j)), none, none, none] 130 [] := by
              intro d
              induction d with
              | zero =>
                intro j x hs hG
                refine r_iload_n C dX4_digest_130 rfl ?_
                refine r_iconst (v := (nI 3)) C dX4_digest_131 (by decide) ?_
                refine r_icN_ge (a := j) (b := 3) (tgt := 152) C (by first | omega | (simp [up2, *]; done) | (simp [up2, *]; omega) | (simp only [up2_eq]; omega) | (split <;> omega)) (by first | omega | (simp [up2, *]; done) | (simp [up2, *]; omega) | (simp only [up2_eq]; omega) | (split <;> omega)) dX4_digest_132 (by decide) (fun h132_14 => ?_) (fun h132_14 => ?_)
                · first
                  | exfalso; first | omega | contradiction
                  | skip
                    refine r_iconst (v := (nI 0)) C dX4_digest_152 (by decide) ?_
                    refine r_istore_n C dX4_digest_153 (by decide) rfl ?_
                    have L154 : ∀ (d : Nat) (q : Nat) (v : Int64), (hs2 : q + d = wnM hf k) → (hH : mxF (fun q => hq (f 1 (4 + k)) (f 3 (4 + k) + q)) d q v = mxF (fun q => hq (f 1 (4 + k)) (f 3 (4 + k) + q)) (wnM hf k) 0 (mxF (fun q => nI (wqM f hf k q)) 3 0 y)) → vC p l e (rmk 9 460 9400 500) s m args below meth c D A (vx_MQ below (vG (fun v1 w1 => v1 = some (.long (dgM f hf hq kn)) ∧ w1 = WM cy ba ra hf hq kn (nI 0) (dgM f hf hq kn) ++ E) D vwCl A) (vGX (fun _ => False) D vwCl (WM cy ba ra hf hq kn th sm ++ E) A) args s (rmk 9 460 9400 500).cells (rmk 9 460 9400 500).slots A) 6 (404) (8816) (WM cy ba ra hf hq kn (nI 0) v ++ E) [some (.ref (ba 9)), some (.int (nI k)), some (.int (nI q)), none, none, none] 154 [] := by
                      intro d
                      induction d with
                      | zero =>
                        intro q v hs2 hH
                        refine r_aload_n C dX4_digest_154 rfl ?_
                        refine m_get (v := .ref (ba 1)) C 1 (by decide) qf_X4_18 rfl rfl dX4_digest_155 ?_
                        refine r_iload_n C dX4_digest_158 rfl ?_
                        refine m_zld (i := k) (z := 4 + k) (v := hf 5 (4 + k)) C 0 (by decide) (by decide) (show k < 4 from by omega) rfl rfl dX4_digest_159 ?_
                        refine r_ifN_eq (a := (hf 5 (4 + k))) (tgt := 192) C (by first | omega | (simp [up2, *]; done) | (simp [up2, *]; omega) | (simp only [up2_eq]; omega) | (split <;> omega)) dX4_digest_160 (by decide) (fun h160_15 => ?_) (fun h160_15 => ?_)
                        · first
                          | exfalso; first | omega | contradiction
                          | skip
                            have hw0 : wnM hf k = 0 := if_pos (by omega)
                            have hH2 : v = mxF (fun q => hq (f 1 (4 + k)) (f 3 (4 + k) + q)) (wnM hf k) 0 (mxF (fun q => nI (wqM f hf k q)) 3 0 y) := by first | exact hH | (exfalso; omega)
                            refine r_iincN C dX4_digest_192 rfl (by decide) rfl ?_
                            refine r_goto (tgt := 123) C dX4_digest_195 (by decide) ?_
                            exfalso
                            omega
                        · first
                          | exfalso; first | omega | contradiction
                          | skip
                            have hw1 : wnM hf k = hf 4 (4 + k) := if_neg (by omega)
                            have z3 := hM.wh hC (w := 4 + k) (by omega) (by omega)
                            refine r_iload_n C dX4_digest_163 rfl ?_
                            refine r_aload_n C dX4_digest_164 rfl ?_
                            refine m_get (v := .ref (ba 4)) C 4 (by decide) qf_X4_29 rfl rfl dX4_digest_165 ?_
                            refine r_iload_n C dX4_digest_168 rfl ?_
                            refine m_ald (i := k) (z := 4 + k) (v := hf 4 (4 + k)) C 3 (by decide) (by decide) (show k < 4 from by omega) rfl rfl dX4_digest_169 ?_
                            refine r_icN_ge (a := q) (b := (hf 4 (4 + k))) (tgt := 192) C (by first | omega | (simp [up2, *]; done) | (simp [up2, *]; omega) | (simp only [up2_eq]; omega) | (split <;> omega)) (by first | omega | (simp [up2, *]; done) | (simp [up2, *]; omega) | (simp only [up2_eq]; omega) | (split <;> omega)) dX4_digest_170 (by decide) (fun h170_16 => ?_) (fun h170_16 => ?_)
                            · first
                              | exfalso; first | omega | contradiction
                              | skip
                                have hH2 : v = mxF (fun q => hq (f 1 (4 + k)) (f 3 (4 + k) + q)) (wnM hf k) 0 (mxF (fun q => nI (wqM f hf k q)) 3 0 y) := by first | exact hH | (exfalso; omega)
                                refine r_iincN C dX4_digest_192 rfl (by decide) rfl ?_
                                refine r_goto (tgt := 123) C dX4_digest_195 (by decide) ?_
                                exfalso
                                omega
                            · first
                              | exfalso; first | omega | contradiction
                              | skip
                                refine r_aload_n C dX4_digest_173 rfl ?_
                                refine r_aload_n C dX4_digest_174 rfl ?_
                                refine r_iconst (v := (nI 4)) C dX4_digest_175 (by decide) ?_
                                refine r_iload_n C dX4_digest_176 rfl ?_
                                refine r_iaddN C dX4_digest_177 ?_
                                refine r_iload_n C dX4_digest_178 rfl ?_
                                refine d_V (st := [.ref (ba 9)]) hX.1.1.stb C hE (D_item (ba := ba) (ra := ra) (hf := hf) (hq := hq) (kn := kn) (th := (nI 0)) (sm := v) (Y := E) (w := 4 + k) (k := q) (f := f) hX.1 hC hM.1 (by omega) (by omega) (by omega) (by omega)) pk_X4_item qm_X4_62 0 8 rfl rfl wm_0 rfl rfl (Nat.le_of_ble_eq_true rfl) dX4_digest_179 ⟨Nat.le_of_ble_eq_true rfl, Nat.le_of_ble_eq_true rfl⟩ ⟨by first | (simp only [rmk, rmz]; omega) | (simp only [rmk, rmz]; done) | omega, by first | (simp only [rmk, rmz]; omega) | (simp only [rmk, rmz]; done) | omega⟩ ?_
                                refine r_w (w' := WM cy ba ra hf hq kn (nI 0) v ++ E) rfl ?_
                                refine r_i2l C dX4_digest_182 ?_
                                refine d_Vv (st := []) hX.1.1.stb C hE (D_addL (ba := ba) (ra := ra) (hf := hf) (hq := hq) (kn := kn) (th := (nI 0)) (sm := v) (Y := E) (u := ((hq (f 1 (4 + k)) (f 3 (4 + k) + q))).toInt64) hX.1 ) pk_X4_add_ qm_X4_219 0 8 rfl rfl wm_0 rfl rfl (Nat.le_of_ble_eq_true rfl) dX4_digest_183 ⟨Nat.le_of_ble_eq_true rfl, Nat.le_of_ble_eq_true rfl⟩ ⟨by first | (simp only [rmk, rmz]; omega) | (simp only [rmk, rmz]; done) | omega, by first | (simp only [rmk, rmz]; omega) | (simp only [rmk, rmz]; done) | omega⟩ ?_
                                refine r_w (w' := WM cy ba ra hf hq kn (nI 0) (v * 31 + (((hq (f 1 (4 + k)) (f 3 (4 + k) + q))).toInt64)) ++ E) rfl ?_
                                refine r_iincN C dX4_digest_186 rfl (by decide) rfl ?_
                                refine r_goto (tgt := 154) C dX4_digest_189 (by decide) ?_
                                exfalso
                                omega
                      | succ d ih_L154 =>
                        intro q v hs2 hH
                        refine r_aload_n C dX4_digest_154 rfl ?_
                        refine m_get (v := .ref (ba 1)) C 1 (by decide) qf_X4_18 rfl rfl dX4_digest_155 ?_
                        refine r_iload_n C dX4_digest_158 rfl ?_
                        refine m_zld (i := k) (z := 4 + k) (v := hf 5 (4 + k)) C 0 (by decide) (by decide) (show k < 4 from by omega) rfl rfl dX4_digest_159 ?_
                        refine r_ifN_eq (a := (hf 5 (4 + k))) (tgt := 192) C (by first | omega | (simp [up2, *]; done) | (simp [up2, *]; omega) | (simp only [up2_eq]; omega) | (split <;> omega)) dX4_digest_160 (by decide) (fun h160_17 => ?_) (fun h160_17 => ?_)
                        · first
                          | exfalso; first | omega | contradiction
                          | skip
                            have hw0 : wnM hf k = 0 := if_pos (by omega)
                            have hH2 : v = mxF (fun q => hq (f 1 (4 + k)) (f 3 (4 + k) + q)) (wnM hf k) 0 (mxF (fun q => nI (wqM f hf k q)) 3 0 y) := by first | exact hH | (exfalso; omega)
                            refine r_iincN C dX4_digest_192 rfl (by decide) rfl ?_
                            refine r_goto (tgt := 123) C dX4_digest_195 (by decide) ?_
                            exfalso
                            omega
                        · first
                          | exfalso; first | omega | contradiction
                          | skip
                            have hw1 : wnM hf k = hf 4 (4 + k) := if_neg (by omega)
                            have z3 := hM.wh hC (w := 4 + k) (by omega) (by omega)
                            refine r_iload_n C dX4_digest_163 rfl ?_
                            refine r_aload_n C dX4_digest_164 rfl ?_
                            refine m_get (v := .ref (ba 4)) C 4 (by decide) qf_X4_29 rfl rfl dX4_digest_165 ?_
                            refine r_iload_n C dX4_digest_168 rfl ?_
                            refine m_ald (i := k) (z := 4 + k) (v := hf 4 (4 + k)) C 3 (by decide) (by decide) (show k < 4 from by omega) rfl rfl dX4_digest_169 ?_
                            refine r_icN_ge (a := q) (b := (hf 4 (4 + k))) (tgt := 192) C (by first | omega | (simp [up2, *]; done) | (simp [up2, *]; omega) | (simp only [up2_eq]; omega) | (split <;> omega)) (by first | omega | (simp [up2, *]; done) | (simp [up2, *]; omega) | (simp only [up2_eq]; omega) | (split <;> omega)) dX4_digest_170 (by decide) (fun h170_18 => ?_) (fun h170_18 => ?_)
                            · first
                              | exfalso; first | omega | contradiction
                              | skip
                                have hH2 : v = mxF (fun q => hq (f 1 (4 + k)) (f 3 (4 + k) + q)) (wnM hf k) 0 (mxF (fun q => nI (wqM f hf k q)) 3 0 y) := by first | exact hH | (exfalso; omega)
                                refine r_iincN C dX4_digest_192 rfl (by decide) rfl ?_
                                refine r_goto (tgt := 123) C dX4_digest_195 (by decide) ?_
                                exfalso
                                omega
                            · first
                              | exfalso; first | omega | contradiction
                              | skip
                                refine r_aload_n C dX4_digest_173 rfl ?_
                                refine r_aload_n C dX4_digest_174 rfl ?_
                                refine r_iconst (v := (nI 4)) C dX4_digest_175 (by decide) ?_
                                refine r_iload_n C dX4_digest_176 rfl ?_
                                refine r_iaddN C dX4_digest_177 ?_
                                refine r_iload_n C dX4_digest_178 rfl ?_
                                refine d_V (st := [.ref (ba 9)]) hX.1.1.stb C hE (D_item (ba := ba) (ra := ra) (hf := hf) (hq := hq) (kn := kn) (th := (nI 0)) (sm := v) (Y := E) (w := 4 + k) (k := q) (f := f) hX.1 hC hM.1 (by omega) (by omega) (by omega) (by omega)) pk_X4_item qm_X4_62 0 8 rfl rfl wm_0 rfl rfl (Nat.le_of_ble_eq_true rfl) dX4_digest_179 ⟨Nat.le_of_ble_eq_true rfl, Nat.le_of_ble_eq_true rfl⟩ ⟨by first | (simp only [rmk, rmz]; omega) | (simp only [rmk, rmz]; done) | omega, by first | (simp only [rmk, rmz]; omega) | (simp only [rmk, rmz]; done) | omega⟩ ?_
                                refine r_w (w' := WM cy ba ra hf hq kn (nI 0) v ++ E) rfl ?_
                                refine r_i2l C dX4_digest_182 ?_
                                refine d_Vv (st := []) hX.1.1.stb C hE (D_addL (ba := ba) (ra := ra) (hf := hf) (hq := hq) (kn := kn) (th := (nI 0)) (sm := v) (Y := E) (u := ((hq (f 1 (4 + k)) (f 3 (4 + k) + q))).toInt64) hX.1 ) pk_X4_add_ qm_X4_219 0 8 rfl rfl wm_0 rfl rfl (Nat.le_of_ble_eq_true rfl) dX4_digest_183 ⟨Nat.le_of_ble_eq_true rfl, Nat.le_of_ble_eq_true rfl⟩ ⟨by first | (simp only [rmk, rmz]; omega) | (simp only [rmk, rmz]; done) | omega, by first | (simp only [rmk, rmz]; omega) | (simp only [rmk, rmz]; done) | omega⟩ ?_
                                refine r_w (w' := WM cy ba ra hf hq kn (nI 0) (v * 31 + (((hq (f 1 (4 + k)) (f 3 (4 + k) + q))).toInt64)) ++ E) rfl ?_
                                refine r_iincN C dX4_digest_186 rfl (by decide) rfl ?_
                                refine r_goto (tgt := 154) C dX4_digest_189 (by decide) ?_
                                refine r_widen (k := 404) (n := 8816) (by first | (simp only [rmk, rmz]; omega) | (simp only [rmk, rmz]; done) | omega) (by first | (simp only [rmk, rmz]; omega) | (simp only [rmk, rmz]; done) | omega) ?_
                                exact ih_L154 (q + 1) _ (by omega) (by rw [← hH]; rfl)
                    refine r_widen (k := 404) (n := 8816) (by first | (simp only [rmk, rmz]; omega) | (simp only [rmk, rmz]; done) | omega) (by first | (simp only [rmk, rmz]; omega) | (simp only [rmk, rmz]; done) | omega) ?_
                    exact L154 (wnM hf k) 0 x (by omega) (by rw [show x = mxF (fun q => nI (wqM f hf k q)) 3 0 y by first | exact hG | (exfalso; omega)])
                · first
                  | exfalso; first | omega | contradiction
                  | skip
                    refine r_aload_n C dX4_digest_135 rfl ?_
                    refine r_aload_n C dX4_digest_136 rfl ?_
                    refine r_iload_n C dX4_digest_137 rfl ?_
                    refine r_iload_n C dX4_digest_138 rfl ?_
                    refine d_V (st := [.ref (ba 9)]) hX.1.1.stb C hE (D_windowNow (ba := ba) (ra := ra) (hf := hf) (hq := hq) (kn := kn) (th := (nI 0)) (sm := x) (Y := E) (k0 := k) (q0 := j) (f := f) (r := r) hX.1 hC hM (by omega) (by omega)) pk_X4_windowNow qm_X4_190 0 8 rfl rfl wm_0 rfl rfl (Nat.le_of_ble_eq_true rfl) dX4_digest_139 ⟨Nat.le_of_ble_eq_true rfl, Nat.le_of_ble_eq_true rfl⟩ ⟨by first | (simp only [rmk, rmz]; omega) | (simp only [rmk, rmz]; done) | omega, by first | (simp only [rmk, rmz]; omega) | (simp only [rmk, rmz]; done) | omega⟩ ?_
                    refine r_w (w' := WM cy ba ra hf hq kn (nI 0) x ++ E) rfl ?_
                    refine r_i2l C dX4_digest_142 ?_
                    refine d_Vv (st := []) hX.1.1.stb C hE (D_addL (ba := ba) (ra := ra) (hf := hf) (hq := hq) (kn := kn) (th := (nI 0)) (sm := x) (Y := E) (u := ((nI (wqM f hf k j))).toInt64) hX.1 ) pk_X4_add_ qm_X4_219 0 8 rfl rfl wm_0 rfl rfl (Nat.le_of_ble_eq_true rfl) dX4_digest_143 ⟨Nat.le_of_ble_eq_true rfl, Nat.le_of_ble_eq_true rfl⟩ ⟨by first | (simp only [rmk, rmz]; omega) | (simp only [rmk, rmz]; done) | omega, by first | (simp only [rmk, rmz]; omega) | (simp only [rmk, rmz]; done) | omega⟩ ?_
                    refine r_w (w' := WM cy ba ra hf hq kn (nI 0) (x * 31 + (((nI (wqM f hf k j))).toInt64)) ++ E) rfl ?_
                    refine r_iincN C dX4_digest_146 rfl (by decide) rfl ?_
                    refine r_goto (tgt := 130) C dX4_digest_149 (by decide) ?_
                    exfalso
                    omega
              | succ d ih_L130 =>
                intro j x hs hG
                refine r_iload_n C dX4_digest_130 rfl ?_
                refine r_iconst (v := (nI 3)) C dX4_digest_131 (by decide) ?_
                refine r_icN_ge (a := j) (b := 3) (tgt := 152) C (by first | omega | (simp [up2, *]; done) | (simp [up2, *]; omega) | (simp only [up2_eq]; omega) | (split <;> omega)) (by first | omega | (simp [up2, *]; done) | (simp [up2, *]; omega) | (simp only [up2_eq]; omega) | (split <;> omega)) dX4_digest_132 (by decide) (fun h132_19 => ?_) (fun h132_19 => ?_)
                · first
                  | exfalso; first | omega | contradiction
                  | skip
                    refine r_iconst (v := (nI 0)) C dX4_digest_152 (by decide) ?_
                    refine r_istore_n C dX4_digest_153 (by decide) rfl ?_
                    have L154 : ∀ (d : Nat) (q : Nat) (v : Int64), (hs2 : q + d = wnM hf k) → (hH : mxF (fun q => hq (f 1 (4 + k)) (f 3 (4 + k) + q)) d q v = mxF (fun q => hq (f 1 (4 + k)) (f 3 (4 + k) + q)) (wnM hf k) 0 (mxF (fun q => nI (wqM f hf k q)) 3 0 y)) → vC p l e (rmk 9 460 9400 500) s m args below meth c D A (vx_MQ below (vG (fun v1 w1 => v1 = some (.long (dgM f hf hq kn)) ∧ w1 = WM cy ba ra hf hq kn (nI 0) (dgM f hf hq kn) ++ E) D vwCl A) (vGX (fun _ => False) D vwCl (WM cy ba ra hf hq kn th sm ++ E) A) args s (rmk 9 460 9400 500).cells (rmk 9 460 9400 500).slots A) 6 (404) (8816) (WM cy ba ra hf hq kn (nI 0) v ++ E) [some (.ref (ba 9)), some (.int (nI k)), some (.int (nI q)), none, none, none] 154 [] := by
                      intro d
                      induction d with
                      | zero =>
                        intro q v hs2 hH
                        refine r_aload_n C dX4_digest_154 rfl ?_
                        refine m_get (v := .ref (ba 1)) C 1 (by decide) qf_X4_18 rfl rfl dX4_digest_155 ?_
                        refine r_iload_n C dX4_digest_158 rfl ?_
                        refine m_zld (i := k) (z := 4 + k) (v := hf 5 (4 + k)) C 0 (by decide) (by decide) (show k < 4 from by omega) rfl rfl dX4_digest_159 ?_
                        refine r_ifN_eq (a := (hf 5 (4 + k))) (tgt := 192) C (by first | omega | (simp [up2, *]; done) | (simp [up2, *]; omega) | (simp only [up2_eq]; omega) | (split <;> omega)) dX4_digest_160 (by decide) (fun h160_20 => ?_) (fun h160_20 => ?_)
                        · first
                          | exfalso; first | omega | contradiction
                          | skip
                            have hw0 : wnM hf k = 0 := if_pos (by omega)
                            have hH2 : v = mxF (fun q => hq (f 1 (4 + k)) (f 3 (4 + k) + q)) (wnM hf k) 0 (mxF (fun q => nI (wqM f hf k q)) 3 0 y) := by first | exact hH | (exfalso; omega)
                            refine r_iincN C dX4_digest_192 rfl (by decide) rfl ?_
                            refine r_goto (tgt := 123) C dX4_digest_195 (by decide) ?_
                            exfalso
                            omega
                        · first
                          | exfalso; first | omega | contradiction
                          | skip
                            have hw1 : wnM hf k = hf 4 (4 + k) := if_neg (by omega)
                            have z3 := hM.wh hC (w := 4 + k) (by omega) (by omega)
                            refine r_iload_n C dX4_digest_163 rfl ?_
                            refine r_aload_n C dX4_digest_164 rfl ?_
                            refine m_get (v := .ref (ba 4)) C 4 (by decide) qf_X4_29 rfl rfl dX4_digest_165 ?_
                            refine r_iload_n C dX4_digest_168 rfl ?_
                            refine m_ald (i := k) (z := 4 + k) (v := hf 4 (4 + k)) C 3 (by decide) (by decide) (show k < 4 from by omega) rfl rfl dX4_digest_169 ?_
                            refine r_icN_ge (a := q) (b := (hf 4 (4 + k))) (tgt := 192) C (by first | omega | (simp [up2, *]; done) | (simp [up2, *]; omega) | (simp only [up2_eq]; omega) | (split <;> omega)) (by first | omega | (simp [up2, *]; done) | (simp [up2, *]; omega) | (simp only [up2_eq]; omega) | (split <;> omega)) dX4_digest_170 (by decide) (fun h170_21 => ?_) (fun h170_21 => ?_)
                            · first
                              | exfalso; first | omega | contradiction
                              | skip
                                have hH2 : v = mxF (fun q => hq (f 1 (4 + k)) (f 3 (4 + k) + q)) (wnM hf k) 0 (mxF (fun q => nI (wqM f hf k q)) 3 0 y) := by first | exact hH | (exfalso; omega)
                                refine r_iincN C dX4_digest_192 rfl (by decide) rfl ?_
                                refine r_goto (tgt := 123) C dX4_digest_195 (by decide) ?_
                                exfalso
                                omega
                            · first
                              | exfalso; first | omega | contradiction
                              | skip
                                refine r_aload_n C dX4_digest_173 rfl ?_
                                refine r_aload_n C dX4_digest_174 rfl ?_
                                refine r_iconst (v := (nI 4)) C dX4_digest_175 (by decide) ?_
                                refine r_iload_n C dX4_digest_176 rfl ?_
                                refine r_iaddN C dX4_digest_177 ?_
                                refine r_iload_n C dX4_digest_178 rfl ?_
                                refine d_V (st := [.ref (ba 9)]) hX.1.1.stb C hE (D_item (ba := ba) (ra := ra) (hf := hf) (hq := hq) (kn := kn) (th := (nI 0)) (sm := v) (Y := E) (w := 4 + k) (k := q) (f := f) hX.1 hC hM.1 (by omega) (by omega) (by omega) (by omega)) pk_X4_item qm_X4_62 0 8 rfl rfl wm_0 rfl rfl (Nat.le_of_ble_eq_true rfl) dX4_digest_179 ⟨Nat.le_of_ble_eq_true rfl, Nat.le_of_ble_eq_true rfl⟩ ⟨by first | (simp only [rmk, rmz]; omega) | (simp only [rmk, rmz]; done) | omega, by first | (simp only [rmk, rmz]; omega) | (simp only [rmk, rmz]; done) | omega⟩ ?_
                                refine r_w (w' := WM cy ba ra hf hq kn (nI 0) v ++ E) rfl ?_
                                refine r_i2l C dX4_digest_182 ?_
                                refine d_Vv (st := []) hX.1.1.stb C hE (D_addL (ba := ba) (ra := ra) (hf := hf) (hq := hq) (kn := kn) (th := (nI 0)) (sm := v) (Y := E) (u := ((hq (f 1 (4 + k)) (f 3 (4 + k) + q))).toInt64) hX.1 ) pk_X4_add_ qm_X4_219 0 8 rfl rfl wm_0 rfl rfl (Nat.le_of_ble_eq_true rfl) dX4_digest_183 ⟨Nat.le_of_ble_eq_true rfl, Nat.le_of_ble_eq_true rfl⟩ ⟨by first | (simp only [rmk, rmz]; omega) | (simp only [rmk, rmz]; done) | omega, by first | (simp only [rmk, rmz]; omega) | (simp only [rmk, rmz]; done) | omega⟩ ?_
                                refine r_w (w' := WM cy ba ra hf hq kn (nI 0) (v * 31 + (((hq (f 1 (4 + k)) (f 3 (4 + k) + q))).toInt64)) ++ E) rfl ?_
                                refine r_iincN C dX4_digest_186 rfl (by decide) rfl ?_
                                refine r_goto (tgt := 154) C dX4_digest_189 (by decide) ?_
                                exfalso
                                omega
                      | succ d ih_L154 =>
                        intro q v hs2 hH
                        refine r_aload_n C dX4_digest_154 rfl ?_
                        refine m_get (v := .ref (ba 1)) C 1 (by decide) qf_X4_18 rfl rfl dX4_digest_155 ?_
                        refine r_iload_n C dX4_digest_158 rfl ?_
                        refine m_zld (i := k) (z := 4 + k) (v := hf 5 (4 + k)) C 0 (by decide) (by decide) (show k < 4 from by omega) rfl rfl dX4_digest_159 ?_
                        refine r_ifN_eq (a := (hf 5 (4 + k))) (tgt := 192) C (by first | omega | (simp [up2, *]; done) | (simp [up2, *]; omega) | (simp only [up2_eq]; omega) | (split <;> omega)) dX4_digest_160 (by decide) (fun h160_22 => ?_) (fun h160_22 => ?_)
                        · first
                          | exfalso; first | omega | contradiction
                          | skip
                            have hw0 : wnM hf k = 0 := if_pos (by omega)
                            have hH2 : v = mxF (fun q => hq (f 1 (4 + k)) (f 3 (4 + k) + q)) (wnM hf k) 0 (mxF (fun q => nI (wqM f hf k q)) 3 0 y) := by first | exact hH | (exfalso; omega)
                            refine r_iincN C dX4_digest_192 rfl (by decide) rfl ?_
                            refine r_goto (tgt := 123) C dX4_digest_195 (by decide) ?_
                            exfalso
                            omega
                        · first
                          | exfalso; first | omega | contradiction
                          | skip
                            have hw1 : wnM hf k = hf 4 (4 + k) := if_neg (by omega)
                            have z3 := hM.wh hC (w := 4 + k) (by omega) (by omega)
                            refine r_iload_n C dX4_digest_163 rfl ?_
                            refine r_aload_n C dX4_digest_164 rfl ?_
                            refine m_get (v := .ref (ba 4)) C 4 (by decide) qf_X4_29 rfl rfl dX4_digest_165 ?_
                            refine r_iload_n C dX4_digest_168 rfl ?_
                            refine m_ald (i := k) (z := 4 + k) (v := hf 4 (4 + k)) C 3 (by decide) (by decide) (show k < 4 from by omega) rfl rfl dX4_digest_169 ?_
                            refine r_icN_ge (a := q) (b := (hf 4 (4 + k))) (tgt := 192) C (by first | omega | (simp [up2, *]; done) | (simp [up2, *]; omega) | (simp only [up2_eq]; omega) | (split <;> omega)) (by first | omega | (simp [up2, *]; done) | (simp [up2, *]; omega) | (simp only [up2_eq]; omega) | (split <;> omega)) dX4_digest_170 (by decide) (fun h170_23 => ?_) (fun h170_23 => ?_)
                            · first
                              | exfalso; first | omega | contradiction
                              | skip
                                have hH2 : v = mxF (fun q => hq (f 1 (4 + k)) (f 3 (4 + k) + q)) (wnM hf k) 0 (mxF (fun q => nI (wqM f hf k q)) 3 0 y) := by first | exact hH | (exfalso; omega)
                                refine r_iincN C dX4_digest_192 rfl (by decide) rfl ?_
                                refine r_goto (tgt := 123) C dX4_digest_195 (by decide) ?_
                                exfalso
                                omega
                            · first
                              | exfalso; first | omega | contradiction
                              | skip
                                refine r_aload_n C dX4_digest_173 rfl ?_
                                refine r_aload_n C dX4_digest_174 rfl ?_
                                refine r_iconst (v := (nI 4)) C dX4_digest_175 (by decide) ?_
                                refine r_iload_n C dX4_digest_176 rfl ?_
                                refine r_iaddN C dX4_digest_177 ?_
                                refine r_iload_n C dX4_digest_178 rfl ?_
                                refine d_V (st := [.ref (ba 9)]) hX.1.1.stb C hE (D_item (ba := ba) (ra := ra) (hf := hf) (hq := hq) (kn := kn) (th := (nI 0)) (sm := v) (Y := E) (w := 4 + k) (k := q) (f := f) hX.1 hC hM.1 (by omega) (by omega) (by omega) (by omega)) pk_X4_item qm_X4_62 0 8 rfl rfl wm_0 rfl rfl (Nat.le_of_ble_eq_true rfl) dX4_digest_179 ⟨Nat.le_of_ble_eq_true rfl, Nat.le_of_ble_eq_true rfl⟩ ⟨by first | (simp only [rmk, rmz]; omega) | (simp only [rmk, rmz]; done) | omega, by first | (simp only [rmk, rmz]; omega) | (simp only [rmk, rmz]; done) | omega⟩ ?_
                                refine r_w (w' := WM cy ba ra hf hq kn (nI 0) v ++ E) rfl ?_
                                refine r_i2l C dX4_digest_182 ?_
                                refine d_Vv (st := []) hX.1.1.stb C hE (D_addL (ba := ba) (ra := ra) (hf := hf) (hq := hq) (kn := kn) (th := (nI 0)) (sm := v) (Y := E) (u := ((hq (f 1 (4 + k)) (f 3 (4 + k) + q))).toInt64) hX.1 ) pk_X4_add_ qm_X4_219 0 8 rfl rfl wm_0 rfl rfl (Nat.le_of_ble_eq_true rfl) dX4_digest_183 ⟨Nat.le_of_ble_eq_true rfl, Nat.le_of_ble_eq_true rfl⟩ ⟨by first | (simp only [rmk, rmz]; omega) | (simp only [rmk, rmz]; done) | omega, by first | (simp only [rmk, rmz]; omega) | (simp only [rmk, rmz]; done) | omega⟩ ?_
                                refine r_w (w' := WM cy ba ra hf hq kn (nI 0) (v * 31 + (((hq (f 1 (4 + k)) (f 3 (4 + k) + q))).toInt64)) ++ E) rfl ?_
                                refine r_iincN C dX4_digest_186 rfl (by decide) rfl ?_
                                refine r_goto (tgt := 154) C dX4_digest_189 (by decide) ?_
                                refine r_widen (k := 404) (n := 8816) (by first | (simp only [rmk, rmz]; omega) | (simp only [rmk, rmz]; done) | omega) (by first | (simp only [rmk, rmz]; omega) | (simp only [rmk, rmz]; done) | omega) ?_
                                exact ih_L154 (q + 1) _ (by omega) (by rw [← hH]; rfl)
                    refine r_widen (k := 404) (n := 8816) (by first | (simp only [rmk, rmz]; omega) | (simp only [rmk, rmz]; done) | omega) (by first | (simp only [rmk, rmz]; omega) | (simp only [rmk, rmz]; done) | omega) ?_
                    exact L154 (wnM hf k) 0 x (by omega) (by rw [show x = mxF (fun q => nI (wqM f hf k q)) 3 0 y by first | exact hG | (exfalso; omega)])
                · first
                  | exfalso; first | omega | contradiction
                  | skip
                    refine r_aload_n C dX4_digest_135 rfl ?_
                    refine r_aload_n C dX4_digest_136 rfl ?_
                    refine r_iload_n C dX4_digest_137 rfl ?_
                    refine r_iload_n C dX4_digest_138 rfl ?_
                    refine d_V (st := [.ref (ba 9)]) hX.1.1.stb C hE (D_windowNow (ba := ba) (ra := ra) (hf := hf) (hq := hq) (kn := kn) (th := (nI 0)) (sm := x) (Y := E) (k0 := k) (q0 := j) (f := f) (r := r) hX.1 hC hM (by omega) (by omega)) pk_X4_windowNow qm_X4_190 0 8 rfl rfl wm_0 rfl rfl (Nat.le_of_ble_eq_true rfl) dX4_digest_139 ⟨Nat.le_of_ble_eq_true rfl, Nat.le_of_ble_eq_true rfl⟩ ⟨by first | (simp only [rmk, rmz]; omega) | (simp only [rmk, rmz]; done) | omega, by first | (simp only [rmk, rmz]; omega) | (simp only [rmk, rmz]; done) | omega⟩ ?_
                    refine r_w (w' := WM cy ba ra hf hq kn (nI 0) x ++ E) rfl ?_
                    refine r_i2l C dX4_digest_142 ?_
                    refine d_Vv (st := []) hX.1.1.stb C hE (D_addL (ba := ba) (ra := ra) (hf := hf) (hq := hq) (kn := kn) (th := (nI 0)) (sm := x) (Y := E) (u := ((nI (wqM f hf k j))).toInt64) hX.1 ) pk_X4_add_ qm_X4_219 0 8 rfl rfl wm_0 rfl rfl (Nat.le_of_ble_eq_true rfl) dX4_digest_143 ⟨Nat.le_of_ble_eq_true rfl, Nat.le_of_ble_eq_true rfl⟩ ⟨by first | (simp only [rmk, rmz]; omega) | (simp only [rmk, rmz]; done) | omega, by first | (simp only [rmk, rmz]; omega) | (simp only [rmk, rmz]; done) | omega⟩ ?_
                    refine r_w (w' := WM cy ba ra hf hq kn (nI 0) (x * 31 + (((nI (wqM f hf k j))).toInt64)) ++ E) rfl ?_
                    refine r_iincN C dX4_digest_146 rfl (by decide) rfl ?_
                    refine r_goto (tgt := 130) C dX4_digest_149 (by decide) ?_
                    refine r_widen (k := 404) (n := 8816) (by first | (simp only [rmk, rmz]; omega) | (simp only [rmk, rmz]; done) | omega) (by first | (simp only [rmk, rmz]; omega) | (simp only [rmk, rmz]; done) | omega) ?_
                    exact ih_L130 (j + 1) _ (by omega) (by rw [← hG]; rfl)
            refine r_widen (k := 404) (n := 8816) (by first | (simp only [rmk, rmz]; omega) | (simp only [rmk, rmz]; done) | omega) (by first | (simp only [rmk, rmz]; omega) | (simp only [rmk, rmz]; done) | omega) ?_
            exact L130 3 0 y (by omega) rfl
      | succ d ih_L123 =>
        intro k y ht hF
        refine r_iload_n C dX4_digest_123 rfl ?_
        refine r_iconst (v := (nI 4)) C dX4_digest_124 (by decide) ?_
        refine r_icN_ge (a := k) (b := 4) (tgt := 198) C (by first | omega | (simp [up2, *]; done) | (simp [up2, *]; omega) | (simp only [up2_eq]; omega) | (split <;> omega)) (by first | omega | (simp [up2, *]; done) | (simp [up2, *]; omega) | (simp only [up2_eq]; omega) | (split <;> omega)) dX4_digest_125 (by decide) (fun h125_24 => ?_) (fun h125_24 => ?_)
        · first
          | exfalso; first | omega | contradiction
          | skip
            refine r_drop 1 ?_
            refine r_widen (k := 404) (n := 8816) (by first | (simp only [rmk, rmz]; omega) | (simp only [rmk, rmz]; done) | omega) (by first | (simp only [rmk, rmz]; omega) | (simp only [rmk, rmz]; done) | omega) ?_
            exact K198 y (by first | exact hF | (exfalso; omega))
        · first
          | exfalso; first | omega | contradiction
          | skip
            have z1 := (hM.2.2.1 (4 + k) (by omega) (by omega)).1
            have z2 := hC.h5 (4 + k) (by omega)
            refine r_iconst (v := (nI 0)) C dX4_digest_128 (by decide) ?_
            refine r_istore_n C dX4_digest_129 (by decide) rfl ?_
            have L130 : ∀ (d : Nat) (j : Nat) (x : Int64), (hs : j + d = 3) → (hG : mxF (fun q => nI (wqM f hf k q)) d j x = mxF (fun q => nI (wqM f hf k q)) 3 0 y) → vC p l e (rmk 9 460 9400 500) s m args below meth c D A (vx_MQ below (vG (fun v1 w1 => v1 = some (.long (dgM f hf hq kn)) ∧ w1 = WM cy ba ra hf hq kn (nI 0) (dgM f hf hq kn) ++ E) D vwCl A) (vGX (fun _ => False) D vwCl (WM cy ba ra hf hq kn th sm ++ E) A) args s (rmk 9 460 9400 500).cells (rmk 9 460 9400 500).slots A) 6 (404) (8816) (WM cy ba ra hf hq kn (nI 0) x ++ E) [some (.ref (ba 9)), some (.int (nI k)), some (.int (nI j)), none, none, none] 130 [] := by
              intro d
              induction d with
              | zero =>
                intro j x hs hG
                refine r_iload_n C dX4_digest_130 rfl ?_
                refine r_iconst (v := (nI 3)) C dX4_digest_131 (by decide) ?_
                refine r_icN_ge (a := j) (b := 3) (tgt := 152) C (by first | omega | (simp [up2, *]; done) | (simp [up2, *]; omega) | (simp only [up2_eq]; omega) | (split <;> omega)) (by first | omega | (simp [up2, *]; done) | (simp [up2, *]; omega) | (simp only [up2_eq]; omega) | (split <;> omega)) dX4_digest_132 (by decide) (fun h132_25 => ?_) (fun h132_25 => ?_)
                · first
                  | exfalso; first | omega | contradiction
                  | skip
                    refine r_iconst (v := (nI 0)) C dX4_digest_152 (by decide) ?_
                    refine r_istore_n C dX4_digest_153 (by decide) rfl ?_
                    have L154 : ∀ (d : Nat) (q : Nat) (v : Int64), (hs2 : q + d = wnM hf k) → (hH : mxF (fun q => hq (f 1 (4 + k)) (f 3 (4 + k) + q)) d q v = mxF (fun q => hq (f 1 (4 + k)) (f 3 (4 + k) + q)) (wnM hf k) 0 (mxF (fun q => nI (wqM f hf k q)) 3 0 y)) → vC p l e (rmk 9 460 9400 500) s m args below meth c D A (vx_MQ below (vG (fun v1 w1 => v1 = some (.long (dgM f hf hq kn)) ∧ w1 = WM cy ba ra hf hq kn (nI 0) (dgM f hf hq kn) ++ E) D vwCl A) (vGX (fun _ => False) D vwCl (WM cy ba ra hf hq kn th sm ++ E) A) args s (rmk 9 460 9400 500).cells (rmk 9 460 9400 500).slots A) 6 (404) (8816) (WM cy ba ra hf hq kn (nI 0) v ++ E) [some (.ref (ba 9)), some (.int (nI k)), some (.int (nI q)), none, none, none] 154 [] := by
                      intro d
                      induction d with
                      | zero =>
                        intro q v hs2 hH
                        refine r_aload_n C dX4_digest_154 rfl ?_
                        refine m_get (v := .ref (ba 1)) C 1 (by decide) qf_X4_18 rfl rfl dX4_digest_155 ?_
                        refine r_iload_n C dX4_digest_158 rfl ?_
                        refine m_zld (i := k) (z := 4 + k) (v := hf 5 (4 + k)) C 0 (by decide) (by decide) (show k < 4 from by omega) rfl rfl dX4_digest_159 ?_
                        refine r_ifN_eq (a := (hf 5 (4 + k))) (tgt := 192) C (by first | omega | (simp [up2, *]; done) | (simp [up2, *]; omega) | (simp only [up2_eq]; omega) | (split <;> omega)) dX4_digest_160 (by decide) (fun h160_26 => ?_) (fun h160_26 => ?_)
                        · first
                          | exfalso; first | omega | contradiction
                          | skip
                            have hw0 : wnM hf k = 0 := if_pos (by omega)
                            have hH2 : v = mxF (fun q => hq (f 1 (4 + k)) (f 3 (4 + k) + q)) (wnM hf k) 0 (mxF (fun q => nI (wqM f hf k q)) 3 0 y) := by first | exact hH | (exfalso; omega)
                            refine r_iincN C dX4_digest_192 rfl (by decide) rfl ?_
                            refine r_goto (tgt := 123) C dX4_digest_195 (by decide) ?_
                            refine r_drop 2 ?_
                            refine r_widen (k := 404) (n := 8816) (by first | (simp only [rmk, rmz]; omega) | (simp only [rmk, rmz]; done) | omega) (by first | (simp only [rmk, rmz]; omega) | (simp only [rmk, rmz]; done) | omega) ?_
                            exact ih_L123 (k + 1) _ (by omega) (by rw [← hF]; exact congrArg (mwM f hf hq _ (k + 1)) (by first | exact hH | exact hH2))
                        · first
                          | exfalso; first | omega | contradiction
                          | skip
                            have hw1 : wnM hf k = hf 4 (4 + k) := if_neg (by omega)
                            have z3 := hM.wh hC (w := 4 + k) (by omega) (by omega)
                            refine r_iload_n C dX4_digest_163 rfl ?_
                            refine r_aload_n C dX4_digest_164 rfl ?_
                            refine m_get (v := .ref (ba 4)) C 4 (by decide) qf_X4_29 rfl rfl dX4_digest_165 ?_
                            refine r_iload_n C dX4_digest_168 rfl ?_
                            refine m_ald (i := k) (z := 4 + k) (v := hf 4 (4 + k)) C 3 (by decide) (by decide) (show k < 4 from by omega) rfl rfl dX4_digest_169 ?_
                            refine r_icN_ge (a := q) (b := (hf 4 (4 + k))) (tgt := 192) C (by first | omega | (simp [up2, *]; done) | (simp [up2, *]; omega) | (simp only [up2_eq]; omega) | (split <;> omega)) (by first | omega | (simp [up2, *]; done) | (simp [up2, *]; omega) | (simp only [up2_eq]; omega) | (split <;> omega)) dX4_digest_170 (by decide) (fun h170_27 => ?_) (fun h170_27 => ?_)
                            · first
                              | exfalso; first | omega | contradiction
                              | skip
                                have hH2 : v = mxF (fun q => hq (f 1 (4 + k)) (f 3 (4 + k) + q)) (wnM hf k) 0 (mxF (fun q => nI (wqM f hf k q)) 3 0 y) := by first | exact hH | (exfalso; omega)
                                refine r_iincN C dX4_digest_192 rfl (by decide) rfl ?_
                                refine r_goto (tgt := 123) C dX4_digest_195 (by decide) ?_
                                refine r_drop 2 ?_
                                refine r_widen (k := 404) (n := 8816) (by first | (simp only [rmk, rmz]; omega) | (simp only [rmk, rmz]; done) | omega) (by first | (simp only [rmk, rmz]; omega) | (simp only [rmk, rmz]; done) | omega) ?_
                                exact ih_L123 (k + 1) _ (by omega) (by rw [← hF]; exact congrArg (mwM f hf hq _ (k + 1)) (by first | exact hH | exact hH2))
                            · first
                              | exfalso; first | omega | contradiction
                              | skip
                                refine r_aload_n C dX4_digest_173 rfl ?_
                                refine r_aload_n C dX4_digest_174 rfl ?_
                                refine r_iconst (v := (nI 4)) C dX4_digest_175 (by decide) ?_
                                refine r_iload_n C dX4_digest_176 rfl ?_
                                refine r_iaddN C dX4_digest_177 ?_
                                refine r_iload_n C dX4_digest_178 rfl ?_
                                refine d_V (st := [.ref (ba 9)]) hX.1.1.stb C hE (D_item (ba := ba) (ra := ra) (hf := hf) (hq := hq) (kn := kn) (th := (nI 0)) (sm := v) (Y := E) (w := 4 + k) (k := q) (f := f) hX.1 hC hM.1 (by omega) (by omega) (by omega) (by omega)) pk_X4_item qm_X4_62 0 8 rfl rfl wm_0 rfl rfl (Nat.le_of_ble_eq_true rfl) dX4_digest_179 ⟨Nat.le_of_ble_eq_true rfl, Nat.le_of_ble_eq_true rfl⟩ ⟨by first | (simp only [rmk, rmz]; omega) | (simp only [rmk, rmz]; done) | omega, by first | (simp only [rmk, rmz]; omega) | (simp only [rmk, rmz]; done) | omega⟩ ?_
                                refine r_w (w' := WM cy ba ra hf hq kn (nI 0) v ++ E) rfl ?_
                                refine r_i2l C dX4_digest_182 ?_
                                refine d_Vv (st := []) hX.1.1.stb C hE (D_addL (ba := ba) (ra := ra) (hf := hf) (hq := hq) (kn := kn) (th := (nI 0)) (sm := v) (Y := E) (u := ((hq (f 1 (4 + k)) (f 3 (4 + k) + q))).toInt64) hX.1 ) pk_X4_add_ qm_X4_219 0 8 rfl rfl wm_0 rfl rfl (Nat.le_of_ble_eq_true rfl) dX4_digest_183 ⟨Nat.le_of_ble_eq_true rfl, Nat.le_of_ble_eq_true rfl⟩ ⟨by first | (simp only [rmk, rmz]; omega) | (simp only [rmk, rmz]; done) | omega, by first | (simp only [rmk, rmz]; omega) | (simp only [rmk, rmz]; done) | omega⟩ ?_
                                refine r_w (w' := WM cy ba ra hf hq kn (nI 0) (v * 31 + (((hq (f 1 (4 + k)) (f 3 (4 + k) + q))).toInt64)) ++ E) rfl ?_
                                refine r_iincN C dX4_digest_186 rfl (by decide) rfl ?_
                                refine r_goto (tgt := 154) C dX4_digest_189 (by decide) ?_
                                exfalso
                                omega
                      | succ d ih_L154 =>
                        intro q v hs2 hH
                        refine r_aload_n C dX4_digest_154 rfl ?_
                        refine m_get (v := .ref (ba 1)) C 1 (by decide) qf_X4_18 rfl rfl dX4_digest_155 ?_
                        refine r_iload_n C dX4_digest_158 rfl ?_
                        refine m_zld (i := k) (z := 4 + k) (v := hf 5 (4 + k)) C 0 (by decide) (by decide) (show k < 4 from by omega) rfl rfl dX4_digest_159 ?_
                        refine r_ifN_eq (a := (hf 5 (4 + k))) (tgt := 192) C (by first | omega | (simp [up2, *]; done) | (simp [up2, *]; omega) | (simp only [up2_eq]; omega) | (split <;> omega)) dX4_digest_160 (by decide) (fun h160_28 => ?_) (fun h160_28 => ?_)
                        · first
                          | exfalso; first | omega | contradiction
                          | skip
                            have hw0 : wnM hf k = 0 := if_pos (by omega)
                            have hH2 : v = mxF (fun q => hq (f 1 (4 + k)) (f 3 (4 + k) + q)) (wnM hf k) 0 (mxF (fun q => nI (wqM f hf k q)) 3 0 y) := by first | exact hH | (exfalso; omega)
                            refine r_iincN C dX4_digest_192 rfl (by decide) rfl ?_
                            refine r_goto (tgt := 123) C dX4_digest_195 (by decide) ?_
                            refine r_drop 2 ?_
                            refine r_widen (k := 404) (n := 8816) (by first | (simp only [rmk, rmz]; omega) | (simp only [rmk, rmz]; done) | omega) (by first | (simp only [rmk, rmz]; omega) | (simp only [rmk, rmz]; done) | omega) ?_
                            exact ih_L123 (k + 1) _ (by omega) (by rw [← hF]; exact congrArg (mwM f hf hq _ (k + 1)) (by first | exact hH | exact hH2))
                        · first
                          | exfalso; first | omega | contradiction
                          | skip
                            have hw1 : wnM hf k = hf 4 (4 + k) := if_neg (by omega)
                            have z3 := hM.wh hC (w := 4 + k) (by omega) (by omega)
                            refine r_iload_n C dX4_digest_163 rfl ?_
                            refine r_aload_n C dX4_digest_164 rfl ?_
                            refine m_get (v := .ref (ba 4)) C 4 (by decide) qf_X4_29 rfl rfl dX4_digest_165 ?_
                            refine r_iload_n C dX4_digest_168 rfl ?_
                            refine m_ald (i := k) (z := 4 + k) (v := hf 4 (4 + k)) C 3 (by decide) (by decide) (show k < 4 from by omega) rfl rfl dX4_digest_169 ?_
                            refine r_icN_ge (a := q) (b := (hf 4 (4 + k))) (tgt := 192) C (by first | omega | (simp [up2, *]; done) | (simp [up2, *]; omega) | (simp only [up2_eq]; omega) | (split <;> omega)) (by first | omega | (simp [up2, *]; done) | (simp [up2, *]; omega) | (simp only [up2_eq]; omega) | (split <;> omega)) dX4_digest_170 (by decide) (fun h170_29 => ?_) (fun h170_29 => ?_)
                            · first
                              | exfalso; first | omega | contradiction
                              | skip
                                have hH2 : v = mxF (fun q => hq (f 1 (4 + k)) (f 3 (4 + k) + q)) (wnM hf k) 0 (mxF (fun q => nI (wqM f hf k q)) 3 0 y) := by first | exact hH | (exfalso; omega)
                                refine r_iincN C dX4_digest_192 rfl (by decide) rfl ?_
                                refine r_goto (tgt := 123) C dX4_digest_195 (by decide) ?_
                                refine r_drop 2 ?_
                                refine r_widen (k := 404) (n := 8816) (by first | (simp only [rmk, rmz]; omega) | (simp only [rmk, rmz]; done) | omega) (by first | (simp only [rmk, rmz]; omega) | (simp only [rmk, rmz]; done) | omega) ?_
                                exact ih_L123 (k + 1) _ (by omega) (by rw [← hF]; exact congrArg (mwM f hf hq _ (k + 1)) (by first | exact hH | exact hH2))
                            · first
                              | exfalso; first | omega | contradiction
                              | skip
                                refine r_aload_n C dX4_digest_173 rfl ?_
                                refine r_aload_n C dX4_digest_174 rfl ?_
                                refine r_iconst (v := (nI 4)) C dX4_digest_175 (by decide) ?_
                                refine r_iload_n C dX4_digest_176 rfl ?_
                                refine r_iaddN C dX4_digest_177 ?_
                                refine r_iload_n C dX4_digest_178 rfl ?_
                                refine d_V (st := [.ref (ba 9)]) hX.1.1.stb C hE (D_item (ba := ba) (ra := ra) (hf := hf) (hq := hq) (kn := kn) (th := (nI 0)) (sm := v) (Y := E) (w := 4 + k) (k := q) (f := f) hX.1 hC hM.1 (by omega) (by omega) (by omega) (by omega)) pk_X4_item qm_X4_62 0 8 rfl rfl wm_0 rfl rfl (Nat.le_of_ble_eq_true rfl) dX4_digest_179 ⟨Nat.le_of_ble_eq_true rfl, Nat.le_of_ble_eq_true rfl⟩ ⟨by first | (simp only [rmk, rmz]; omega) | (simp only [rmk, rmz]; done) | omega, by first | (simp only [rmk, rmz]; omega) | (simp only [rmk, rmz]; done) | omega⟩ ?_
                                refine r_w (w' := WM cy ba ra hf hq kn (nI 0) v ++ E) rfl ?_
                                refine r_i2l C dX4_digest_182 ?_
                                refine d_Vv (st := []) hX.1.1.stb C hE (D_addL (ba := ba) (ra := ra) (hf := hf) (hq := hq) (kn := kn) (th := (nI 0)) (sm := v) (Y := E) (u := ((hq (f 1 (4 + k)) (f 3 (4 + k) + q))).toInt64) hX.1 ) pk_X4_add_ qm_X4_219 0 8 rfl rfl wm_0 rfl rfl (Nat.le_of_ble_eq_true rfl) dX4_digest_183 ⟨Nat.le_of_ble_eq_true rfl, Nat.le_of_ble_eq_true rfl⟩ ⟨by first | (simp only [rmk, rmz]; omega) | (simp only [rmk, rmz]; done) | omega, by first | (simp only [rmk, rmz]; omega) | (simp only [rmk, rmz]; done) | omega⟩ ?_
                                refine r_w (w' := WM cy ba ra hf hq kn (nI 0) (v * 31 + (((hq (f 1 (4 + k)) (f 3 (4 + k) + q))).toInt64)) ++ E) rfl ?_
                                refine r_iincN C dX4_digest_186 rfl (by decide) rfl ?_
                                refine r_goto (tgt := 154) C dX4_digest_189 (by decide) ?_
                                refine r_widen (k := 404) (n := 8816) (by first | (simp only [rmk, rmz]; omega) | (simp only [rmk, rmz]; done) | omega) (by first | (simp only [rmk, rmz]; omega) | (simp only [rmk, rmz]; done) | omega) ?_
                                exact ih_L154 (q + 1) _ (by omega) (by rw [← hH]; rfl)
                    refine r_widen (k := 404) (n := 8816) (by first | (simp only [rmk, rmz]; omega) | (simp only [rmk, rmz]; done) | omega) (by first | (simp only [rmk, rmz]; omega) | (simp only [rmk, rmz]; done) | omega) ?_
                    exact L154 (wnM hf k) 0 x (by omega) (by rw [show x = mxF (fun q => nI (wqM f hf k q)) 3 0 y by first | exact hG | (exfalso; omega)])
                · first
                  | exfalso; first | omega | contradiction
                  | skip
                    refine r_aload_n C dX4_digest_135 rfl ?_
                    refine r_aload_n C dX4_digest_136 rfl ?_
                    refine r_iload_n C dX4_digest_137 rfl ?_
                    refine r_iload_n C dX4_digest_138 rfl ?_
                    refine d_V (st := [.ref (ba 9)]) hX.1.1.stb C hE (D_windowNow (ba := ba) (ra := ra) (hf := hf) (hq := hq) (kn := kn) (th := (nI 0)) (sm := x) (Y := E) (k0 := k) (q0 := j) (f := f) (r := r) hX.1 hC hM (by omega) (by omega)) pk_X4_windowNow qm_X4_190 0 8 rfl rfl wm_0 rfl rfl (Nat.le_of_ble_eq_true rfl) dX4_digest_139 ⟨Nat.le_of_ble_eq_true rfl, Nat.le_of_ble_eq_true rfl⟩ ⟨by first | (simp only [rmk, rmz]; omega) | (simp only [rmk, rmz]; done) | omega, by first | (simp only [rmk, rmz]; omega) | (simp only [rmk, rmz]; done) | omega⟩ ?_
                    refine r_w (w' := WM cy ba ra hf hq kn (nI 0) x ++ E) rfl ?_
                    refine r_i2l C dX4_digest_142 ?_
                    refine d_Vv (st := []) hX.1.1.stb C hE (D_addL (ba := ba) (ra := ra) (hf := hf) (hq := hq) (kn := kn) (th := (nI 0)) (sm := x) (Y := E) (u := ((nI (wqM f hf k j))).toInt64) hX.1 ) pk_X4_add_ qm_X4_219 0 8 rfl rfl wm_0 rfl rfl (Nat.le_of_ble_eq_true rfl) dX4_digest_143 ⟨Nat.le_of_ble_eq_true rfl, Nat.le_of_ble_eq_true rfl⟩ ⟨by first | (simp only [rmk, rmz]; omega) | (simp only [rmk, rmz]; done) | omega, by first | (simp only [rmk, rmz]; omega) | (simp only [rmk, rmz]; done) | omega⟩ ?_
                    refine r_w (w' := WM cy ba ra hf hq kn (nI 0) (x * 31 + (((nI (wqM f hf k j))).toInt64)) ++ E) rfl ?_
                    refine r_iincN C dX4_digest_146 rfl (by decide) rfl ?_
                    refine r_goto (tgt := 130) C dX4_digest_149 (by decide) ?_
                    exfalso
                    omega
              | succ d ih_L130 =>
                intro j x hs hG
                refine r_iload_n C dX4_digest_130 rfl ?_
                refine r_iconst (v := (nI 3)) C dX4_digest_131 (by decide) ?_
                refine r_icN_ge (a := j) (b := 3) (tgt := 152) C (by first | omega | (simp [up2, *]; done) | (simp [up2, *]; omega) | (simp only [up2_eq]; omega) | (split <;> omega)) (by first | omega | (simp [up2, *]; done) | (simp [up2, *]; omega) | (simp only [up2_eq]; omega) | (split <;> omega)) dX4_digest_132 (by decide) (fun h132_30 => ?_) (fun h132_30 => ?_)
                · first
                  | exfalso; first | omega | contradiction
                  | skip
                    refine r_iconst (v := (nI 0)) C dX4_digest_152 (by decide) ?_
                    refine r_istore_n C dX4_digest_153 (by decide) rfl ?_
                    have L154 : ∀ (d : Nat) (q : Nat) (v : Int64), (hs2 : q + d = wnM hf k) → (hH : mxF (fun q => hq (f 1 (4 + k)) (f 3 (4 + k) + q)) d q v = mxF (fun q => hq (f 1 (4 + k)) (f 3 (4 + k) + q)) (wnM hf k) 0 (mxF (fun q => nI (wqM f hf k q)) 3 0 y)) → vC p l e (rmk 9 460 9400 500) s m args below meth c D A (vx_MQ below (vG (fun v1 w1 => v1 = some (.long (dgM f hf hq kn)) ∧ w1 = WM cy ba ra hf hq kn (nI 0) (dgM f hf hq kn) ++ E) D vwCl A) (vGX (fun _ => False) D vwCl (WM cy ba ra hf hq kn th sm ++ E) A) args s (rmk 9 460 9400 500).cells (rmk 9 460 9400 500).slots A) 6 (404) (8816) (WM cy ba ra hf hq kn (nI 0) v ++ E) [some (.ref (ba 9)), some (.int (nI k)), some (.int (nI q)), none, none, none] 154 [] := by
                      intro d
                      induction d with
                      | zero =>
                        intro q v hs2 hH
                        refine r_aload_n C dX4_digest_154 rfl ?_
                        refine m_get (v := .ref (ba 1)) C 1 (by decide) qf_X4_18 rfl rfl dX4_digest_155 ?_
                        refine r_iload_n C dX4_digest_158 rfl ?_
                        refine m_zld (i := k) (z := 4 + k) (v := hf 5 (4 + k)) C 0 (by decide) (by decide) (show k < 4 from by omega) rfl rfl dX4_digest_159 ?_
                        refine r_ifN_eq (a := (hf 5 (4 + k))) (tgt := 192) C (by first | omega | (simp [up2, *]; done) | (simp [up2, *]; omega) | (simp only [up2_eq]; omega) | (split <;> omega)) dX4_digest_160 (by decide) (fun h160_31 => ?_) (fun h160_31 => ?_)
                        · first
                          | exfalso; first | omega | contradiction
                          | skip
                            have hw0 : wnM hf k = 0 := if_pos (by omega)
                            have hH2 : v = mxF (fun q => hq (f 1 (4 + k)) (f 3 (4 + k) + q)) (wnM hf k) 0 (mxF (fun q => nI (wqM f hf k q)) 3 0 y) := by first | exact hH | (exfalso; omega)
                            refine r_iincN C dX4_digest_192 rfl (by decide) rfl ?_
                            refine r_goto (tgt := 123) C dX4_digest_195 (by decide) ?_
                            refine r_drop 2 ?_
                            refine r_widen (k := 404) (n := 8816) (by first | (simp only [rmk, rmz]; omega) | (simp only [rmk, rmz]; done) | omega) (by first | (simp only [rmk, rmz]; omega) | (simp only [rmk, rmz]; done) | omega) ?_
                            exact ih_L123 (k + 1) _ (by omega) (by rw [← hF]; exact congrArg (mwM f hf hq _ (k + 1)) (by first | exact hH | exact hH2))
                        · first
                          | exfalso; first | omega | contradiction
                          | skip
                            have hw1 : wnM hf k = hf 4 (4 + k) := if_neg (by omega)
                            have z3 := hM.wh hC (w := 4 + k) (by omega) (by omega)
                            refine r_iload_n C dX4_digest_163 rfl ?_
                            refine r_aload_n C dX4_digest_164 rfl ?_
                            refine m_get (v := .ref (ba 4)) C 4 (by decide) qf_X4_29 rfl rfl dX4_digest_165 ?_
                            refine r_iload_n C dX4_digest_168 rfl ?_
                            refine m_ald (i := k) (z := 4 + k) (v := hf 4 (4 + k)) C 3 (by decide) (by decide) (show k < 4 from by omega) rfl rfl dX4_digest_169 ?_
                            refine r_icN_ge (a := q) (b := (hf 4 (4 + k))) (tgt := 192) C (by first | omega | (simp [up2, *]; done) | (simp [up2, *]; omega) | (simp only [up2_eq]; omega) | (split <;> omega)) (by first | omega | (simp [up2, *]; done) | (simp [up2, *]; omega) | (simp only [up2_eq]; omega) | (split <;> omega)) dX4_digest_170 (by decide) (fun h170_32 => ?_) (fun h170_32 => ?_)
                            · first
                              | exfalso; first | omega | contradiction
                              | skip
                                have hH2 : v = mxF (fun q => hq (f 1 (4 + k)) (f 3 (4 + k) + q)) (wnM hf k) 0 (mxF (fun q => nI (wqM f hf k q)) 3 0 y) := by first | exact hH | (exfalso; omega)
                                refine r_iincN C dX4_digest_192 rfl (by decide) rfl ?_
                                refine r_goto (tgt := 123) C dX4_digest_195 (by decide) ?_
                                refine r_drop 2 ?_
                                refine r_widen (k := 404) (n := 8816) (by first | (simp only [rmk, rmz]; omega) | (simp only [rmk, rmz]; done) | omega) (by first | (simp only [rmk, rmz]; omega) | (simp only [rmk, rmz]; done) | omega) ?_
                                exact ih_L123 (k + 1) _ (by omega) (by rw [← hF]; exact congrArg (mwM f hf hq _ (k + 1)) (by first | exact hH | exact hH2))
                            · first
                              | exfalso; first | omega | contradiction
                              | skip
                                refine r_aload_n C dX4_digest_173 rfl ?_
                                refine r_aload_n C dX4_digest_174 rfl ?_
                                refine r_iconst (v := (nI 4)) C dX4_digest_175 (by decide) ?_
                                refine r_iload_n C dX4_digest_176 rfl ?_
                                refine r_iaddN C dX4_digest_177 ?_
                                refine r_iload_n C dX4_digest_178 rfl ?_
                                refine d_V (st := [.ref (ba 9)]) hX.1.1.stb C hE (D_item (ba := ba) (ra := ra) (hf := hf) (hq := hq) (kn := kn) (th := (nI 0)) (sm := v) (Y := E) (w := 4 + k) (k := q) (f := f) hX.1 hC hM.1 (by omega) (by omega) (by omega) (by omega)) pk_X4_item qm_X4_62 0 8 rfl rfl wm_0 rfl rfl (Nat.le_of_ble_eq_true rfl) dX4_digest_179 ⟨Nat.le_of_ble_eq_true rfl, Nat.le_of_ble_eq_true rfl⟩ ⟨by first | (simp only [rmk, rmz]; omega) | (simp only [rmk, rmz]; done) | omega, by first | (simp only [rmk, rmz]; omega) | (simp only [rmk, rmz]; done) | omega⟩ ?_
                                refine r_w (w' := WM cy ba ra hf hq kn (nI 0) v ++ E) rfl ?_
                                refine r_i2l C dX4_digest_182 ?_
                                refine d_Vv (st := []) hX.1.1.stb C hE (D_addL (ba := ba) (ra := ra) (hf := hf) (hq := hq) (kn := kn) (th := (nI 0)) (sm := v) (Y := E) (u := ((hq (f 1 (4 + k)) (f 3 (4 + k) + q))).toInt64) hX.1 ) pk_X4_add_ qm_X4_219 0 8 rfl rfl wm_0 rfl rfl (Nat.le_of_ble_eq_true rfl) dX4_digest_183 ⟨Nat.le_of_ble_eq_true rfl, Nat.le_of_ble_eq_true rfl⟩ ⟨by first | (simp only [rmk, rmz]; omega) | (simp only [rmk, rmz]; done) | omega, by first | (simp only [rmk, rmz]; omega) | (simp only [rmk, rmz]; done) | omega⟩ ?_
                                refine r_w (w' := WM cy ba ra hf hq kn (nI 0) (v * 31 + (((hq (f 1 (4 + k)) (f 3 (4 + k) + q))).toInt64)) ++ E) rfl ?_
                                refine r_iincN C dX4_digest_186 rfl (by decide) rfl ?_
                                refine r_goto (tgt := 154) C dX4_digest_189 (by decide) ?_
                                exfalso
                                omega
                      | succ d ih_L154 =>
                        intro q v hs2 hH
                        refine r_aload_n C dX4_digest_154 rfl ?_
                        refine m_get (v := .ref (ba 1)) C 1 (by decide) qf_X4_18 rfl rfl dX4_digest_155 ?_
                        refine r_iload_n C dX4_digest_158 rfl ?_
                        refine m_zld (i := k) (z := 4 + k) (v := hf 5 (4 + k)) C 0 (by decide) (by decide) (show k < 4 from by omega) rfl rfl dX4_digest_159 ?_
                        refine r_ifN_eq (a := (hf 5 (4 + k))) (tgt := 192) C (by first | omega | (simp [up2, *]; done) | (simp [up2, *]; omega) | (simp only [up2_eq]; omega) | (split <;> omega)) dX4_digest_160 (by decide) (fun h160_33 => ?_) (fun h160_33 => ?_)
                        · first
                          | exfalso; first | omega | contradiction
                          | skip
                            have hw0 : wnM hf k = 0 := if_pos (by omega)
                            have hH2 : v = mxF (fun q => hq (f 1 (4 + k)) (f 3 (4 + k) + q)) (wnM hf k) 0 (mxF (fun q => nI (wqM f hf k q)) 3 0 y) := by first | exact hH | (exfalso; omega)
                            refine r_iincN C dX4_digest_192 rfl (by decide) rfl ?_
                            refine r_goto (tgt := 123) C dX4_digest_195 (by decide) ?_
                            refine r_drop 2 ?_
                            refine r_widen (k := 404) (n := 8816) (by first | (simp only [rmk, rmz]; omega) | (simp only [rmk, rmz]; done) | omega) (by first | (simp only [rmk, rmz]; omega) | (simp only [rmk, rmz]; done) | omega) ?_
                            exact ih_L123 (k + 1) _ (by omega) (by rw [← hF]; exact congrArg (mwM f hf hq _ (k + 1)) (by first | exact hH | exact hH2))
                        · first
                          | exfalso; first | omega | contradiction
                          | skip
                            have hw1 : wnM hf k = hf 4 (4 + k) := if_neg (by omega)
                            have z3 := hM.wh hC (w := 4 + k) (by omega) (by omega)
                            refine r_iload_n C dX4_digest_163 rfl ?_
                            refine r_aload_n C dX4_digest_164 rfl ?_
                            refine m_get (v := .ref (ba 4)) C 4 (by decide) qf_X4_29 rfl rfl dX4_digest_165 ?_
                            refine r_iload_n C dX4_digest_168 rfl ?_
                            refine m_ald (i := k) (z := 4 + k) (v := hf 4 (4 + k)) C 3 (by decide) (by decide) (show k < 4 from by omega) rfl rfl dX4_digest_169 ?_
                            refine r_icN_ge (a := q) (b := (hf 4 (4 + k))) (tgt := 192) C (by first | omega | (simp [up2, *]; done) | (simp [up2, *]; omega) | (simp only [up2_eq]; omega) | (split <;> omega)) (by first | omega | (simp [up2, *]; done) | (simp [up2, *]; omega) | (simp only [up2_eq]; omega) | (split <;> omega)) dX4_digest_170 (by decide) (fun h170_34 => ?_) (fun h170_34 => ?_)
                            · first
                              | exfalso; first | omega | contradiction
                              | skip
                                have hH2 : v = mxF (fun q => hq (f 1 (4 + k)) (f 3 (4 + k) + q)) (wnM hf k) 0 (mxF (fun q => nI (wqM f hf k q)) 3 0 y) := by first | exact hH | (exfalso; omega)
                                refine r_iincN C dX4_digest_192 rfl (by decide) rfl ?_
                                refine r_goto (tgt := 123) C dX4_digest_195 (by decide) ?_
                                refine r_drop 2 ?_
                                refine r_widen (k := 404) (n := 8816) (by first | (simp only [rmk, rmz]; omega) | (simp only [rmk, rmz]; done) | omega) (by first | (simp only [rmk, rmz]; omega) | (simp only [rmk, rmz]; done) | omega) ?_
                                exact ih_L123 (k + 1) _ (by omega) (by rw [← hF]; exact congrArg (mwM f hf hq _ (k + 1)) (by first | exact hH | exact hH2))
                            · first
                              | exfalso; first | omega | contradiction
                              | skip
                                refine r_aload_n C dX4_digest_173 rfl ?_
                                refine r_aload_n C dX4_digest_174 rfl ?_
                                refine r_iconst (v := (nI 4)) C dX4_digest_175 (by decide) ?_
                                refine r_iload_n C dX4_digest_176 rfl ?_
                                refine r_iaddN C dX4_digest_177 ?_
                                refine r_iload_n C dX4_digest_178 rfl ?_
                                refine d_V (st := [.ref (ba 9)]) hX.1.1.stb C hE (D_item (ba := ba) (ra := ra) (hf := hf) (hq := hq) (kn := kn) (th := (nI 0)) (sm := v) (Y := E) (w := 4 + k) (k := q) (f := f) hX.1 hC hM.1 (by omega) (by omega) (by omega) (by omega)) pk_X4_item qm_X4_62 0 8 rfl rfl wm_0 rfl rfl (Nat.le_of_ble_eq_true rfl) dX4_digest_179 ⟨Nat.le_of_ble_eq_true rfl, Nat.le_of_ble_eq_true rfl⟩ ⟨by first | (simp only [rmk, rmz]; omega) | (simp only [rmk, rmz]; done) | omega, by first | (simp only [rmk, rmz]; omega) | (simp only [rmk, rmz]; done) | omega⟩ ?_
                                refine r_w (w' := WM cy ba ra hf hq kn (nI 0) v ++ E) rfl ?_
                                refine r_i2l C dX4_digest_182 ?_
                                refine d_Vv (st := []) hX.1.1.stb C hE (D_addL (ba := ba) (ra := ra) (hf := hf) (hq := hq) (kn := kn) (th := (nI 0)) (sm := v) (Y := E) (u := ((hq (f 1 (4 + k)) (f 3 (4 + k) + q))).toInt64) hX.1 ) pk_X4_add_ qm_X4_219 0 8 rfl rfl wm_0 rfl rfl (Nat.le_of_ble_eq_true rfl) dX4_digest_183 ⟨Nat.le_of_ble_eq_true rfl, Nat.le_of_ble_eq_true rfl⟩ ⟨by first | (simp only [rmk, rmz]; omega) | (simp only [rmk, rmz]; done) | omega, by first | (simp only [rmk, rmz]; omega) | (simp only [rmk, rmz]; done) | omega⟩ ?_
                                refine r_w (w' := WM cy ba ra hf hq kn (nI 0) (v * 31 + (((hq (f 1 (4 + k)) (f 3 (4 + k) + q))).toInt64)) ++ E) rfl ?_
                                refine r_iincN C dX4_digest_186 rfl (by decide) rfl ?_
                                refine r_goto (tgt := 154) C dX4_digest_189 (by decide) ?_
                                refine r_widen (k := 404) (n := 8816) (by first | (simp only [rmk, rmz]; omega) | (simp only [rmk, rmz]; done) | omega) (by first | (simp only [rmk, rmz]; omega) | (simp only [rmk, rmz]; done) | omega) ?_
                                exact ih_L154 (q + 1) _ (by omega) (by rw [← hH]; rfl)
                    refine r_widen (k := 404) (n := 8816) (by first | (simp only [rmk, rmz]; omega) | (simp only [rmk, rmz]; done) | omega) (by first | (simp only [rmk, rmz]; omega) | (simp only [rmk, rmz]; done) | omega) ?_
                    exact L154 (wnM hf k) 0 x (by omega) (by rw [show x = mxF (fun q => nI (wqM f hf k q)) 3 0 y by first | exact hG | (exfalso; omega)])
                · first
                  | exfalso; first | omega | contradiction
                  | skip
                    refine r_aload_n C dX4_digest_135 rfl ?_
                    refine r_aload_n C dX4_digest_136 rfl ?_
                    refine r_iload_n C dX4_digest_137 rfl ?_
                    refine r_iload_n C dX4_digest_138 rfl ?_
                    refine d_V (st := [.ref (ba 9)]) hX.1.1.stb C hE (D_windowNow (ba := ba) (ra := ra) (hf := hf) (hq := hq) (kn := kn) (th := (nI 0)) (sm := x) (Y := E) (k0 := k) (q0 := j) (f := f) (r := r) hX.1 hC hM (by omega) (by omega)) pk_X4_windowNow qm_X4_190 0 8 rfl rfl wm_0 rfl rfl (Nat.le_of_ble_eq_true rfl) dX4_digest_139 ⟨Nat.le_of_ble_eq_true rfl, Nat.le_of_ble_eq_true rfl⟩ ⟨by first | (simp only [rmk, rmz]; omega) | (simp only [rmk, rmz]; done) | omega, by first | (simp only [rmk, rmz]; omega) | (simp only [rmk, rmz]; done) | omega⟩ ?_
                    refine r_w (w' := WM cy ba ra hf hq kn (nI 0) x ++ E) rfl ?_
                    refine r_i2l C dX4_digest_142 ?_
                    refine d_Vv (st := []) hX.1.1.stb C hE (D_addL (ba := ba) (ra := ra) (hf := hf) (hq := hq) (kn := kn) (th := (nI 0)) (sm := x) (Y := E) (u := ((nI (wqM f hf k j))).toInt64) hX.1 ) pk_X4_add_ qm_X4_219 0 8 rfl rfl wm_0 rfl rfl (Nat.le_of_ble_eq_true rfl) dX4_digest_143 ⟨Nat.le_of_ble_eq_true rfl, Nat.le_of_ble_eq_true rfl⟩ ⟨by first | (simp only [rmk, rmz]; omega) | (simp only [rmk, rmz]; done) | omega, by first | (simp only [rmk, rmz]; omega) | (simp only [rmk, rmz]; done) | omega⟩ ?_
                    refine r_w (w' := WM cy ba ra hf hq kn (nI 0) (x * 31 + (((nI (wqM f hf k j))).toInt64)) ++ E) rfl ?_
                    refine r_iincN C dX4_digest_146 rfl (by decide) rfl ?_
                    refine r_goto (tgt := 130) C dX4_digest_149 (by decide) ?_
                    refine r_widen (k := 404) (n := 8816) (by first | (simp only [rmk, rmz]; omega) | (simp only [rmk, rmz]; done) | omega) (by first | (simp only [rmk, rmz]; omega) | (simp only [rmk, rmz]; done) | omega) ?_
                    exact ih_L130 (j + 1) _ (by omega) (by rw [← hG]; rfl)
            refine r_widen (k := 404) (n := 8816) (by first | (simp only [rmk, rmz]; omega) | (simp only [rmk, rmz]; done) | omega) (by first | (simp only [rmk, rmz]; omega) | (simp only [rmk, rmz]; done) | omega) ?_
            exact L130 3 0 y (by omega) rfl
    refine r_widen (k := 404) (n := 8816) (by first | (simp only [rmk, rmz]; omega) | (simp only [rmk, rmz]; done) | omega) (by first | (simp only [rmk, rmz]; omega) | (simp only [rmk, rmz]; done) | omega) ?_
    exact L123 4 0 z (by omega) (by rw [hz])
  have K35 : ∀ z : Int64, z = mxF (hoM hf kn) 4 0 7807 → vC p l e (rmk 9 460 9400 500) s m args below meth c D A (vx_MQ below (vG (fun v1 w1 => v1 = some (.long (dgM f hf hq kn)) ∧ w1 = WM cy ba ra hf hq kn (nI 0) (dgM f hf hq kn) ++ E) D vwCl A) (vGX (fun _ => False) D vwCl (WM cy ba ra hf hq kn th sm ++ E) A) args s (rmk 9 460 9400 500).cells (rmk 9 460 9400 500).slots A) 6 4 16 (WM cy ba ra hf hq kn (nI 0) z ++ E) [some (.ref (ba 9)), none, none, none, none, none] 35 [] := by
    intro z hz
    refine r_iconst (v := (nI 0)) C dX4_digest_35 (by decide) ?_
    refine r_istore_n C dX4_digest_36 (by decide) rfl ?_
    have L37 : ∀ (d : Nat) (i : Nat) (y : Int64), (ht : i + d = 4) → (hF : mrM hf hq d i y = mrM hf hq 4 0 (mxF (hoM hf kn) 4 0 7807)) → vC p l e (rmk 9 460 9400 500) s m args below meth c D A (vx_MQ below (vG (fun v1 w1 => v1 = some (.long (dgM f hf hq kn)) ∧ w1 = WM cy ba ra hf hq kn (nI 0) (dgM f hf hq kn) ++ E) D vwCl A) (vGX (fun _ => False) D vwCl (WM cy ba ra hf hq kn th sm ++ E) A) args s (rmk 9 460 9400 500).cells (rmk 9 460 9400 500).slots A) 6 (4 + 100 * i) (16 + 2200 * i) (WM cy ba ra hf hq kn (nI 0) y ++ E) [some (.ref (ba 9)), some (.int (nI i)), none, none, none, none] 37 [] := by
      intro d
      induction d with
      | zero =>
        intro i y ht hF
        refine r_iload_n C dX4_digest_37 rfl ?_
        refine r_iconst (v := (nI 4)) C dX4_digest_38 (by decide) ?_
        refine r_icN_ge (a := i) (b := 4) (tgt := 121) C (by first | omega | (simp [up2, *]; done) | (simp [up2, *]; omega) | (simp only [up2_eq]; omega) | (split <;> omega)) (by first | omega | (simp [up2, *]; done) | (simp [up2, *]; omega) | (simp only [up2_eq]; omega) | (split <;> omega)) dX4_digest_39 (by decide) (fun h39_35 => ?_) (fun h39_35 => ?_)
        · first
          | exfalso; first | omega | contradiction
          | skip
            refine r_drop 1 ?_
            refine r_widen (k := 404) (n := 8816) (by first | (simp only [rmk, rmz]; omega) | (simp only [rmk, rmz]; done) | omega) (by first | (simp only [rmk, rmz]; omega) | (simp only [rmk, rmz]; done) | omega) ?_
            exact K121 y (by first | exact hF | (exfalso; omega))
        · first
          | exfalso; first | omega | contradiction
          | skip
            have q1 := hC.rw (i := i) (by omega)
            have q2 := (hM.2.1 i (by omega)).1
            refine r_aload_n C dX4_digest_42 rfl ?_
            refine r_aload_n C dX4_digest_43 rfl ?_
            refine m_get (v := .ref (ba 0)) C 0 (by decide) qf_X4_15 rfl rfl dX4_digest_44 ?_
            refine r_iload_n C dX4_digest_47 rfl ?_
            refine m_rows (i := i) C (by first | omega | (simp [up2, *]; done) | (simp [up2, *]; omega) | (simp only [up2_eq]; omega) | (split <;> omega)) dX4_digest_48 ?_
            refine m_rlen (i := i) (v := hf 4 i) C (by first | omega | (simp [up2, *]; done) | (simp [up2, *]; omega) | (simp only [up2_eq]; omega) | (split <;> omega)) rfl dX4_digest_49 ?_
            refine r_i2l C dX4_digest_50 ?_
            refine d_Vv (st := []) hX.1.1.stb C hE (D_addL (ba := ba) (ra := ra) (hf := hf) (hq := hq) (kn := kn) (th := (nI 0)) (sm := y) (Y := E) (u := ((nI (hf 4 i))).toInt64) hX.1 ) pk_X4_add_ qm_X4_219 0 8 rfl rfl wm_0 rfl rfl (Nat.le_of_ble_eq_true rfl) dX4_digest_51 ⟨Nat.le_of_ble_eq_true rfl, Nat.le_of_ble_eq_true rfl⟩ ⟨by first | (simp only [rmk, rmz]; omega) | (simp only [rmk, rmz]; done) | omega, by first | (simp only [rmk, rmz]; omega) | (simp only [rmk, rmz]; done) | omega⟩ ?_
            refine r_w (w' := WM cy ba ra hf hq kn (nI 0) (y * 31 + (((nI (hf 4 i))).toInt64)) ++ E) rfl ?_
            refine r_aload_n C dX4_digest_54 rfl ?_
            refine m_get (v := .ref (ba 0)) C 0 (by decide) qf_X4_15 rfl rfl dX4_digest_55 ?_
            refine r_iload_n C dX4_digest_58 rfl ?_
            refine m_rows (i := i) C (by first | omega | (simp [up2, *]; done) | (simp [up2, *]; omega) | (simp only [up2_eq]; omega) | (split <;> omega)) dX4_digest_59 ?_
            refine r_astore_n C dX4_digest_60 (by decide) rfl ?_
            refine r_aload_n C dX4_digest_61 rfl ?_
            refine m_rlen (i := i) (v := hf 4 i) C (by first | omega | (simp [up2, *]; done) | (simp [up2, *]; omega) | (simp only [up2_eq]; omega) | (split <;> omega)) rfl dX4_digest_62 ?_
            refine r_istore_n C dX4_digest_63 (by decide) rfl ?_
            refine r_iconst (v := (nI 0)) C dX4_digest_64 (by decide) ?_
            refine r_istore C dX4_digest_65 (by decide) rfl ?_
            have L67 : ∀ (d : Nat) (k : Nat) (x : Int64), (hs : k + d = hf 4 i) → (hG : mxF (hq i) d k x = mxF (hq i) (hf 4 i) 0 (y * 31 + (nI (hf 4 i)).toInt64)) → vC p l e (rmk 9 460 9400 500) s m args below meth c D A (vx_MQ below (vG (fun v1 w1 => v1 = some (.long (dgM f hf hq kn)) ∧ w1 = WM cy ba ra hf hq kn (nI 0) (dgM f hf hq kn) ++ E) D vwCl A) (vGX (fun _ => False) D vwCl (WM cy ba ra hf hq kn th sm ++ E) A) args s (rmk 9 460 9400 500).cells (rmk 9 460 9400 500).slots A) 6 (4 + 100 * i) (16 + 2200 * i) (WM cy ba ra hf hq kn (nI 0) x ++ E) [some (.ref (ba 9)), some (.int (nI i)), some (.ref (ra i)), some (.int (nI (hf 4 i))), some (.int (nI k)), none] 67 [] := by
              intro d
              induction d with
              | zero =>
                intro k x hs hG
                refine r_iload C dX4_digest_67 rfl ?_
                refine r_iload_n C dX4_digest_69 rfl ?_
                refine r_icN_ge (a := k) (b := (hf 4 i)) (tgt := 92) C (by first | omega | (simp [up2, *]; done) | (simp [up2, *]; omega) | (simp only [up2_eq]; omega) | (split <;> omega)) (by first | omega | (simp [up2, *]; done) | (simp [up2, *]; omega) | (simp only [up2_eq]; omega) | (split <;> omega)) dX4_digest_70 (by decide) (fun h70_36 => ?_) (fun h70_36 => ?_)
                · first
                  | exfalso; first | omega | contradiction
                  | skip
                    have hGx : x = mxF (hq i) (hf 4 i) 0 (y * 31 + (nI (hf 4 i)).toInt64) := by first | exact hG | (exfalso; omega)
                    subst hGx
                    refine r_aload_n C dX4_digest_92 rfl ?_
                    refine r_aload_n C dX4_digest_93 rfl ?_
                    refine r_iload_n C dX4_digest_94 rfl ?_
                    refine d_V (st := [.ref (ba 9)]) hX.1.1.stb C hE (D_hashNow (ba := ba) (ra := ra) (hf := hf) (hq := hq) (kn := kn) (th := (nI 0)) (sm := (mxF (hq i) (hf 4 i) 0 (y * 31 + (nI (hf 4 i)).toInt64))) (Y := E) (i := i) hX.1 (by omega) (by omega)) pk_X4_hashNow qm_X4_148 0 8 rfl rfl wm_0 rfl rfl (Nat.le_of_ble_eq_true rfl) dX4_digest_95 ⟨Nat.le_of_ble_eq_true rfl, Nat.le_of_ble_eq_true rfl⟩ ⟨by first | (simp only [rmk, rmz]; omega) | (simp only [rmk, rmz]; done) | omega, by first | (simp only [rmk, rmz]; omega) | (simp only [rmk, rmz]; done) | omega⟩ ?_
                    refine r_w (w' := WM cy ba ra hf hq kn (nI 0) (mxF (hq i) (hf 4 i) 0 (y * 31 + (nI (hf 4 i)).toInt64)) ++ E) rfl ?_
                    refine r_i2l C dX4_digest_98 ?_
                    refine d_Vv (st := []) hX.1.1.stb C hE (D_addL (ba := ba) (ra := ra) (hf := hf) (hq := hq) (kn := kn) (th := (nI 0)) (sm := (mxF (hq i) (hf 4 i) 0 (y * 31 + (nI (hf 4 i)).toInt64))) (Y := E) (u := ((hsF (hq i) (hf 4 i) 0 (nI 1))).toInt64) hX.1 ) pk_X4_add_ qm_X4_219 0 8 rfl rfl wm_0 rfl rfl (Nat.le_of_ble_eq_true rfl) dX4_digest_99 ⟨Nat.le_of_ble_eq_true rfl, Nat.le_of_ble_eq_true rfl⟩ ⟨by first | (simp only [rmk, rmz]; omega) | (simp only [rmk, rmz]; done) | omega, by first | (simp only [rmk, rmz]; omega) | (simp only [rmk, rmz]; done) | omega⟩ ?_
                    refine r_w (w' := WM cy ba ra hf hq kn (nI 0) ((mxF (hq i) (hf 4 i) 0 (y * 31 + (nI (hf 4 i)).toInt64)) * 31 + (((hsF (hq i) (hf 4 i) 0 (nI 1))).toInt64)) ++ E) rfl ?_
                    refine r_aload_n C dX4_digest_102 rfl ?_
                    refine r_aload_n C dX4_digest_103 rfl ?_
                    refine r_iload_n C dX4_digest_104 rfl ?_
                    refine c_V (st := [.ref (ba 9)]) hX.stb C hE (D_textNow (ba := ba) (ra := ra) (hf := hf) (hq := hq) (kn := kn) (th := (nI 0)) (sm := ((mxF (hq i) (hf 4 i) 0 (y * 31 + (nI (hf 4 i)).toInt64)) * 31 + (((hsF (hq i) (hf 4 i) 0 (nI 1))).toInt64))) (E := E) (i := i) hX (by omega) (by omega) (hR i (by omega))) pk_X4_textNow qm_X4_179 0 8 rfl rfl wm_0 rfl rfl (Nat.le_of_ble_eq_true rfl) dX4_digest_105 ⟨Nat.le_of_ble_eq_true rfl, Nat.le_of_ble_eq_true rfl⟩ ⟨by first | (simp only [rmk, rmz]; omega) | (simp only [rmk, rmz]; done) | omega, by first | (simp only [rmk, rmz]; omega) | (simp only [rmk, rmz]; done) | omega⟩ (fun v9 w9 h9 => ?_) (fun _ h9 => h9.elim)
                    obtain ⟨a9_37, v9_37, h9_37, z9_37, g9_37, hf9_37, rfl, rfl⟩ := h9
                    refine c_V (st := [.ref (ba 9)]) hX.stb C hE (C_len_W (U := WM cy ba ra hf hq kn (nI 0) ((mxF (hq i) (hf 4 i) 0 (y * 31 + (nI (hf 4 i)).toInt64)) * 31 + (((hsF (hq i) (hf 4 i) 0 (nI 1))).toInt64))) (E := E) (a := a9_37) (va := v9_37) (h := h9_37) (z := z9_37) (k := (tlx (hq i) (hf 4 i) + 1)) (gs := g9_37) hX ) pk_J0_length_8abf5 qm_X4_223 ((WM cy ba ra hf hq kn (nI 0) ((mxF (hq i) (hf 4 i) 0 (y * 31 + (nI (hf 4 i)).toInt64)) * 31 + (((hsF (hq i) (hf 4 i) 0 (nI 1))).toInt64))).length + 0) 0 rfl rfl (us_g rfl) rfl rfl (Nat.le_of_ble_eq_true rfl) dX4_digest_108 ⟨Nat.le_of_ble_eq_true rfl, Nat.le_of_ble_eq_true rfl⟩ ⟨by first | (simp only [rmk, rmz]; omega) | (simp only [rmk, rmz]; done) | omega, by first | (simp only [rmk, rmz]; omega) | (simp only [rmk, rmz]; done) | omega⟩ (fun v9 w9 h9 => ?_) (fun _ h9 => h9.elim)
                    obtain ⟨rfl, rfl⟩ := h9
                    refine t_perm [STO a9_37 v9_37 h9_37 z9_37, BYO cy v9_37 (tlx (hq i) (hf 4 i) + 1) g9_37] [] [] rfl (by decide) rfl (w' := WM cy ba ra hf hq kn (nI 0) ((mxF (hq i) (hf 4 i) 0 (y * 31 + (nI (hf 4 i)).toInt64)) * 31 + (((hsF (hq i) (hf 4 i) 0 (nI 1))).toInt64)) ++ E) rfl ?_
                    refine r_i2l C dX4_digest_111 ?_
                    refine d_Vv (st := []) hX.1.1.stb C hE (D_addL (ba := ba) (ra := ra) (hf := hf) (hq := hq) (kn := kn) (th := (nI 0)) (sm := ((mxF (hq i) (hf 4 i) 0 (y * 31 + (nI (hf 4 i)).toInt64)) * 31 + (((hsF (hq i) (hf 4 i) 0 (nI 1))).toInt64))) (Y := E) (u := ((nI (tlx (hq i) (hf 4 i) + 1))).toInt64) hX.1 ) pk_X4_add_ qm_X4_219 0 8 rfl rfl wm_0 rfl rfl (Nat.le_of_ble_eq_true rfl) dX4_digest_112 ⟨Nat.le_of_ble_eq_true rfl, Nat.le_of_ble_eq_true rfl⟩ ⟨by first | (simp only [rmk, rmz]; omega) | (simp only [rmk, rmz]; done) | omega, by first | (simp only [rmk, rmz]; omega) | (simp only [rmk, rmz]; done) | omega⟩ ?_
                    refine r_w (w' := WM cy ba ra hf hq kn (nI 0) (((mxF (hq i) (hf 4 i) 0 (y * 31 + (nI (hf 4 i)).toInt64)) * 31 + (((hsF (hq i) (hf 4 i) 0 (nI 1))).toInt64)) * 31 + (((nI (tlx (hq i) (hf 4 i) + 1))).toInt64)) ++ E) rfl ?_
                    refine r_iincN C dX4_digest_115 rfl (by decide) rfl ?_
                    refine r_goto (tgt := 37) C dX4_digest_118 (by decide) ?_
                    exfalso
                    omega
                · first
                  | exfalso; first | omega | contradiction
                  | skip
                    refine r_aload_n C dX4_digest_73 rfl ?_
                    refine r_iload C dX4_digest_74 rfl ?_
                    refine m_rld (i := i) (n := k) C (by first | omega | (simp [up2, *]; done) | (simp [up2, *]; omega) | (simp only [up2_eq]; omega) | (split <;> omega)) (by first | omega | (simp [up2, *]; done) | (simp [up2, *]; omega) | (simp only [up2_eq]; omega) | (split <;> omega)) (by first | omega | (simp [up2, *]; done) | (simp [up2, *]; omega) | (simp only [up2_eq]; omega) | (split <;> omega)) dX4_digest_76 ?_
                    refine r_istore C dX4_digest_77 (by decide) rfl ?_
                    refine r_aload_n C dX4_digest_79 rfl ?_
                    refine r_iload C dX4_digest_80 rfl ?_
                    refine r_i2l C dX4_digest_82 ?_
                    refine d_Vv (st := []) hX.1.1.stb C hE (D_addL (ba := ba) (ra := ra) (hf := hf) (hq := hq) (kn := kn) (th := (nI 0)) (sm := x) (Y := E) (u := ((hq i k)).toInt64) hX.1 ) pk_X4_add_ qm_X4_219 0 8 rfl rfl wm_0 rfl rfl (Nat.le_of_ble_eq_true rfl) dX4_digest_83 ⟨Nat.le_of_ble_eq_true rfl, Nat.le_of_ble_eq_true rfl⟩ ⟨by first | (simp only [rmk, rmz]; omega) | (simp only [rmk, rmz]; done) | omega, by first | (simp only [rmk, rmz]; omega) | (simp only [rmk, rmz]; done) | omega⟩ ?_
                    refine r_w (w' := WM cy ba ra hf hq kn (nI 0) (x * 31 + (((hq i k)).toInt64)) ++ E) rfl ?_
                    refine r_iincN C dX4_digest_86 rfl (by decide) rfl ?_
                    refine r_goto (tgt := 67) C dX4_digest_89 (by decide) ?_
                    exfalso
                    omega
              | succ d ih_L67 =>
                intro k x hs hG
                refine r_iload C dX4_digest_67 rfl ?_
                refine r_iload_n C dX4_digest_69 rfl ?_
                refine r_icN_ge (a := k) (b := (hf 4 i)) (tgt := 92) C (by first | omega | (simp [up2, *]; done) | (simp [up2, *]; omega) | (simp only [up2_eq]; omega) | (split <;> omega)) (by first | omega | (simp [up2, *]; done) | (simp [up2, *]; omega) | (simp only [up2_eq]; omega) | (split <;> omega)) dX4_digest_70 (by decide) (fun h70_38 => ?_) (fun h70_38 => ?_)
                · first
                  | exfalso; first | omega | contradiction
                  | skip
                    have hGx : x = mxF (hq i) (hf 4 i) 0 (y * 31 + (nI (hf 4 i)).toInt64) := by first | exact hG | (exfalso; omega)
                    subst hGx
                    refine r_aload_n C dX4_digest_92 rfl ?_
                    refine r_aload_n C dX4_digest_93 rfl ?_
                    refine r_iload_n C dX4_digest_94 rfl ?_
                    refine d_V (st := [.ref (ba 9)]) hX.1.1.stb C hE (D_hashNow (ba := ba) (ra := ra) (hf := hf) (hq := hq) (kn := kn) (th := (nI 0)) (sm := (mxF (hq i) (hf 4 i) 0 (y * 31 + (nI (hf 4 i)).toInt64))) (Y := E) (i := i) hX.1 (by omega) (by omega)) pk_X4_hashNow qm_X4_148 0 8 rfl rfl wm_0 rfl rfl (Nat.le_of_ble_eq_true rfl) dX4_digest_95 ⟨Nat.le_of_ble_eq_true rfl, Nat.le_of_ble_eq_true rfl⟩ ⟨by first | (simp only [rmk, rmz]; omega) | (simp only [rmk, rmz]; done) | omega, by first | (simp only [rmk, rmz]; omega) | (simp only [rmk, rmz]; done) | omega⟩ ?_
                    refine r_w (w' := WM cy ba ra hf hq kn (nI 0) (mxF (hq i) (hf 4 i) 0 (y * 31 + (nI (hf 4 i)).toInt64)) ++ E) rfl ?_
                    refine r_i2l C dX4_digest_98 ?_
                    refine d_Vv (st := []) hX.1.1.stb C hE (D_addL (ba := ba) (ra := ra) (hf := hf) (hq := hq) (kn := kn) (th := (nI 0)) (sm := (mxF (hq i) (hf 4 i) 0 (y * 31 + (nI (hf 4 i)).toInt64))) (Y := E) (u := ((hsF (hq i) (hf 4 i) 0 (nI 1))).toInt64) hX.1 ) pk_X4_add_ qm_X4_219 0 8 rfl rfl wm_0 rfl rfl (Nat.le_of_ble_eq_true rfl) dX4_digest_99 ⟨Nat.le_of_ble_eq_true rfl, Nat.le_of_ble_eq_true rfl⟩ ⟨by first | (simp only [rmk, rmz]; omega) | (simp only [rmk, rmz]; done) | omega, by first | (simp only [rmk, rmz]; omega) | (simp only [rmk, rmz]; done) | omega⟩ ?_
                    refine r_w (w' := WM cy ba ra hf hq kn (nI 0) ((mxF (hq i) (hf 4 i) 0 (y * 31 + (nI (hf 4 i)).toInt64)) * 31 + (((hsF (hq i) (hf 4 i) 0 (nI 1))).toInt64)) ++ E) rfl ?_
                    refine r_aload_n C dX4_digest_102 rfl ?_
                    refine r_aload_n C dX4_digest_103 rfl ?_
                    refine r_iload_n C dX4_digest_104 rfl ?_
                    refine c_V (st := [.ref (ba 9)]) hX.stb C hE (D_textNow (ba := ba) (ra := ra) (hf := hf) (hq := hq) (kn := kn) (th := (nI 0)) (sm := ((mxF (hq i) (hf 4 i) 0 (y * 31 + (nI (hf 4 i)).toInt64)) * 31 + (((hsF (hq i) (hf 4 i) 0 (nI 1))).toInt64))) (E := E) (i := i) hX (by omega) (by omega) (hR i (by omega))) pk_X4_textNow qm_X4_179 0 8 rfl rfl wm_0 rfl rfl (Nat.le_of_ble_eq_true rfl) dX4_digest_105 ⟨Nat.le_of_ble_eq_true rfl, Nat.le_of_ble_eq_true rfl⟩ ⟨by first | (simp only [rmk, rmz]; omega) | (simp only [rmk, rmz]; done) | omega, by first | (simp only [rmk, rmz]; omega) | (simp only [rmk, rmz]; done) | omega⟩ (fun v9 w9 h9 => ?_) (fun _ h9 => h9.elim)
                    obtain ⟨a9_39, v9_39, h9_39, z9_39, g9_39, hf9_39, rfl, rfl⟩ := h9
                    refine c_V (st := [.ref (ba 9)]) hX.stb C hE (C_len_W (U := WM cy ba ra hf hq kn (nI 0) ((mxF (hq i) (hf 4 i) 0 (y * 31 + (nI (hf 4 i)).toInt64)) * 31 + (((hsF (hq i) (hf 4 i) 0 (nI 1))).toInt64))) (E := E) (a := a9_39) (va := v9_39) (h := h9_39) (z := z9_39) (k := (tlx (hq i) (hf 4 i) + 1)) (gs := g9_39) hX ) pk_J0_length_8abf5 qm_X4_223 ((WM cy ba ra hf hq kn (nI 0) ((mxF (hq i) (hf 4 i) 0 (y * 31 + (nI (hf 4 i)).toInt64)) * 31 + (((hsF (hq i) (hf 4 i) 0 (nI 1))).toInt64))).length + 0) 0 rfl rfl (us_g rfl) rfl rfl (Nat.le_of_ble_eq_true rfl) dX4_digest_108 ⟨Nat.le_of_ble_eq_true rfl, Nat.le_of_ble_eq_true rfl⟩ ⟨by first | (simp only [rmk, rmz]; omega) | (simp only [rmk, rmz]; done) | omega, by first | (simp only [rmk, rmz]; omega) | (simp only [rmk, rmz]; done) | omega⟩ (fun v9 w9 h9 => ?_) (fun _ h9 => h9.elim)
                    obtain ⟨rfl, rfl⟩ := h9
                    refine t_perm [STO a9_39 v9_39 h9_39 z9_39, BYO cy v9_39 (tlx (hq i) (hf 4 i) + 1) g9_39] [] [] rfl (by decide) rfl (w' := WM cy ba ra hf hq kn (nI 0) ((mxF (hq i) (hf 4 i) 0 (y * 31 + (nI (hf 4 i)).toInt64)) * 31 + (((hsF (hq i) (hf 4 i) 0 (nI 1))).toInt64)) ++ E) rfl ?_
                    refine r_i2l C dX4_digest_111 ?_
                    refine d_Vv (st := []) hX.1.1.stb C hE (D_addL (ba := ba) (ra := ra) (hf := hf) (hq := hq) (kn := kn) (th := (nI 0)) (sm := ((mxF (hq i) (hf 4 i) 0 (y * 31 + (nI (hf 4 i)).toInt64)) * 31 + (((hsF (hq i) (hf 4 i) 0 (nI 1))).toInt64))) (Y := E) (u := ((nI (tlx (hq i) (hf 4 i) + 1))).toInt64) hX.1 ) pk_X4_add_ qm_X4_219 0 8 rfl rfl wm_0 rfl rfl (Nat.le_of_ble_eq_true rfl) dX4_digest_112 ⟨Nat.le_of_ble_eq_true rfl, Nat.le_of_ble_eq_true rfl⟩ ⟨by first | (simp only [rmk, rmz]; omega) | (simp only [rmk, rmz]; done) | omega, by first | (simp only [rmk, rmz]; omega) | (simp only [rmk, rmz]; done) | omega⟩ ?_
                    refine r_w (w' := WM cy ba ra hf hq kn (nI 0) (((mxF (hq i) (hf 4 i) 0 (y * 31 + (nI (hf 4 i)).toInt64)) * 31 + (((hsF (hq i) (hf 4 i) 0 (nI 1))).toInt64)) * 31 + (((nI (tlx (hq i) (hf 4 i) + 1))).toInt64)) ++ E) rfl ?_
                    refine r_iincN C dX4_digest_115 rfl (by decide) rfl ?_
                    refine r_goto (tgt := 37) C dX4_digest_118 (by decide) ?_
                    exfalso
                    omega
                · first
                  | exfalso; first | omega | contradiction
                  | skip
                    refine r_aload_n C dX4_digest_73 rfl ?_
                    refine r_iload C dX4_digest_74 rfl ?_
                    refine m_rld (i := i) (n := k) C (by first | omega | (simp [up2, *]; done) | (simp [up2, *]; omega) | (simp only [up2_eq]; omega) | (split <;> omega)) (by first | omega | (simp [up2, *]; done) | (simp [up2, *]; omega) | (simp only [up2_eq]; omega) | (split <;> omega)) (by first | omega | (simp [up2, *]; done) | (simp [up2, *]; omega) | (simp only [up2_eq]; omega) | (split <;> omega)) dX4_digest_76 ?_
                    refine r_istore C dX4_digest_77 (by decide) rfl ?_
                    refine r_aload_n C dX4_digest_79 rfl ?_
                    refine r_iload C dX4_digest_80 rfl ?_
                    refine r_i2l C dX4_digest_82 ?_
                    refine d_Vv (st := []) hX.1.1.stb C hE (D_addL (ba := ba) (ra := ra) (hf := hf) (hq := hq) (kn := kn) (th := (nI 0)) (sm := x) (Y := E) (u := ((hq i k)).toInt64) hX.1 ) pk_X4_add_ qm_X4_219 0 8 rfl rfl wm_0 rfl rfl (Nat.le_of_ble_eq_true rfl) dX4_digest_83 ⟨Nat.le_of_ble_eq_true rfl, Nat.le_of_ble_eq_true rfl⟩ ⟨by first | (simp only [rmk, rmz]; omega) | (simp only [rmk, rmz]; done) | omega, by first | (simp only [rmk, rmz]; omega) | (simp only [rmk, rmz]; done) | omega⟩ ?_
                    refine r_w (w' := WM cy ba ra hf hq kn (nI 0) (x * 31 + (((hq i k)).toInt64)) ++ E) rfl ?_
                    refine r_iincN C dX4_digest_86 rfl (by decide) rfl ?_
                    refine r_goto (tgt := 67) C dX4_digest_89 (by decide) ?_
                    refine r_drop 5 ?_
                    refine r_widen (k := 4 + 100 * i) (n := 16 + 2200 * i) (by first | (simp only [rmk, rmz]; omega) | (simp only [rmk, rmz]; done) | omega) (by first | (simp only [rmk, rmz]; omega) | (simp only [rmk, rmz]; done) | omega) ?_
                    exact ih_L67 (k + 1) _ (by omega) (by rw [← hG]; rfl)
            refine r_widen (k := 4 + 100 * i) (n := 16 + 2200 * i) (by first | (simp only [rmk, rmz]; omega) | (simp only [rmk, rmz]; done) | omega) (by first | (simp only [rmk, rmz]; omega) | (simp only [rmk, rmz]; done) | omega) ?_
            exact L67 (hf 4 i) 0 (y * 31 + (nI (hf 4 i)).toInt64) (by omega) rfl
      | succ d ih_L37 =>
        intro i y ht hF
        refine r_iload_n C dX4_digest_37 rfl ?_
        refine r_iconst (v := (nI 4)) C dX4_digest_38 (by decide) ?_
        refine r_icN_ge (a := i) (b := 4) (tgt := 121) C (by first | omega | (simp [up2, *]; done) | (simp [up2, *]; omega) | (simp only [up2_eq]; omega) | (split <;> omega)) (by first | omega | (simp [up2, *]; done) | (simp [up2, *]; omega) | (simp only [up2_eq]; omega) | (split <;> omega)) dX4_digest_39 (by decide) (fun h39_40 => ?_) (fun h39_40 => ?_)
        · first
          | exfalso; first | omega | contradiction
          | skip
            refine r_drop 1 ?_
            refine r_widen (k := 404) (n := 8816) (by first | (simp only [rmk, rmz]; omega) | (simp only [rmk, rmz]; done) | omega) (by first | (simp only [rmk, rmz]; omega) | (simp only [rmk, rmz]; done) | omega) ?_
            exact K121 y (by first | exact hF | (exfalso; omega))
        · first
          | exfalso; first | omega | contradiction
          | skip
            have q1 := hC.rw (i := i) (by omega)
            have q2 := (hM.2.1 i (by omega)).1
            refine r_aload_n C dX4_digest_42 rfl ?_
            refine r_aload_n C dX4_digest_43 rfl ?_
            refine m_get (v := .ref (ba 0)) C 0 (by decide) qf_X4_15 rfl rfl dX4_digest_44 ?_
            refine r_iload_n C dX4_digest_47 rfl ?_
            refine m_rows (i := i) C (by first | omega | (simp [up2, *]; done) | (simp [up2, *]; omega) | (simp only [up2_eq]; omega) | (split <;> omega)) dX4_digest_48 ?_
            refine m_rlen (i := i) (v := hf 4 i) C (by first | omega | (simp [up2, *]; done) | (simp [up2, *]; omega) | (simp only [up2_eq]; omega) | (split <;> omega)) rfl dX4_digest_49 ?_
            refine r_i2l C dX4_digest_50 ?_
            refine d_Vv (st := []) hX.1.1.stb C hE (D_addL (ba := ba) (ra := ra) (hf := hf) (hq := hq) (kn := kn) (th := (nI 0)) (sm := y) (Y := E) (u := ((nI (hf 4 i))).toInt64) hX.1 ) pk_X4_add_ qm_X4_219 0 8 rfl rfl wm_0 rfl rfl (Nat.le_of_ble_eq_true rfl) dX4_digest_51 ⟨Nat.le_of_ble_eq_true rfl, Nat.le_of_ble_eq_true rfl⟩ ⟨by first | (simp only [rmk, rmz]; omega) | (simp only [rmk, rmz]; done) | omega, by first | (simp only [rmk, rmz]; omega) | (simp only [rmk, rmz]; done) | omega⟩ ?_
            refine r_w (w' := WM cy ba ra hf hq kn (nI 0) (y * 31 + (((nI (hf 4 i))).toInt64)) ++ E) rfl ?_
            refine r_aload_n C dX4_digest_54 rfl ?_
            refine m_get (v := .ref (ba 0)) C 0 (by decide) qf_X4_15 rfl rfl dX4_digest_55 ?_
            refine r_iload_n C dX4_digest_58 rfl ?_
            refine m_rows (i := i) C (by first | omega | (simp [up2, *]; done) | (simp [up2, *]; omega) | (simp only [up2_eq]; omega) | (split <;> omega)) dX4_digest_59 ?_
            refine r_astore_n C dX4_digest_60 (by decide) rfl ?_
            refine r_aload_n C dX4_digest_61 rfl ?_
            refine m_rlen (i := i) (v := hf 4 i) C (by first | omega | (simp [up2, *]; done) | (simp [up2, *]; omega) | (simp only [up2_eq]; omega) | (split <;> omega)) rfl dX4_digest_62 ?_
            refine r_istore_n C dX4_digest_63 (by decide) rfl ?_
            refine r_iconst (v := (nI 0)) C dX4_digest_64 (by decide) ?_
            refine r_istore C dX4_digest_65 (by decide) rfl ?_
            have L67 : ∀ (d : Nat) (k : Nat) (x : Int64), (hs : k + d = hf 4 i) → (hG : mxF (hq i) d k x = mxF (hq i) (hf 4 i) 0 (y * 31 + (nI (hf 4 i)).toInt64)) → vC p l e (rmk 9 460 9400 500) s m args below meth c D A (vx_MQ below (vG (fun v1 w1 => v1 = some (.long (dgM f hf hq kn)) ∧ w1 = WM cy ba ra hf hq kn (nI 0) (dgM f hf hq kn) ++ E) D vwCl A) (vGX (fun _ => False) D vwCl (WM cy ba ra hf hq kn th sm ++ E) A) args s (rmk 9 460 9400 500).cells (rmk 9 460 9400 500).slots A) 6 (4 + 100 * i) (16 + 2200 * i) (WM cy ba ra hf hq kn (nI 0) x ++ E) [some (.ref (ba 9)), some (.int (nI i)), some (.ref (ra i)), some (.int (nI (hf 4 i))), some (.int (nI k)), none] 67 [] := by
              intro d
              induction d with
              | zero =>
                intro k x hs hG
                refine r_iload C dX4_digest_67 rfl ?_
                refine r_iload_n C dX4_digest_69 rfl ?_
                refine r_icN_ge (a := k) (b := (hf 4 i)) (tgt := 92) C (by first | omega | (simp [up2, *]; done) | (simp [up2, *]; omega) | (simp only [up2_eq]; omega) | (split <;> omega)) (by first | omega | (simp [up2, *]; done) | (simp [up2, *]; omega) | (simp only [up2_eq]; omega) | (split <;> omega)) dX4_digest_70 (by decide) (fun h70_41 => ?_) (fun h70_41 => ?_)
                · first
                  | exfalso; first | omega | contradiction
                  | skip
                    have hGx : x = mxF (hq i) (hf 4 i) 0 (y * 31 + (nI (hf 4 i)).toInt64) := by first | exact hG | (exfalso; omega)
                    subst hGx
                    refine r_aload_n C dX4_digest_92 rfl ?_
                    refine r_aload_n C dX4_digest_93 rfl ?_
                    refine r_iload_n C dX4_digest_94 rfl ?_
                    refine d_V (st := [.ref (ba 9)]) hX.1.1.stb C hE (D_hashNow (ba := ba) (ra := ra) (hf := hf) (hq := hq) (kn := kn) (th := (nI 0)) (sm := (mxF (hq i) (hf 4 i) 0 (y * 31 + (nI (hf 4 i)).toInt64))) (Y := E) (i := i) hX.1 (by omega) (by omega)) pk_X4_hashNow qm_X4_148 0 8 rfl rfl wm_0 rfl rfl (Nat.le_of_ble_eq_true rfl) dX4_digest_95 ⟨Nat.le_of_ble_eq_true rfl, Nat.le_of_ble_eq_true rfl⟩ ⟨by first | (simp only [rmk, rmz]; omega) | (simp only [rmk, rmz]; done) | omega, by first | (simp only [rmk, rmz]; omega) | (simp only [rmk, rmz]; done) | omega⟩ ?_
                    refine r_w (w' := WM cy ba ra hf hq kn (nI 0) (mxF (hq i) (hf 4 i) 0 (y * 31 + (nI (hf 4 i)).toInt64)) ++ E) rfl ?_
                    refine r_i2l C dX4_digest_98 ?_
                    refine d_Vv (st := []) hX.1.1.stb C hE (D_addL (ba := ba) (ra := ra) (hf := hf) (hq := hq) (kn := kn) (th := (nI 0)) (sm := (mxF (hq i) (hf 4 i) 0 (y * 31 + (nI (hf 4 i)).toInt64))) (Y := E) (u := ((hsF (hq i) (hf 4 i) 0 (nI 1))).toInt64) hX.1 ) pk_X4_add_ qm_X4_219 0 8 rfl rfl wm_0 rfl rfl (Nat.le_of_ble_eq_true rfl) dX4_digest_99 ⟨Nat.le_of_ble_eq_true rfl, Nat.le_of_ble_eq_true rfl⟩ ⟨by first | (simp only [rmk, rmz]; omega) | (simp only [rmk, rmz]; done) | omega, by first | (simp only [rmk, rmz]; omega) | (simp only [rmk, rmz]; done) | omega⟩ ?_
                    refine r_w (w' := WM cy ba ra hf hq kn (nI 0) ((mxF (hq i) (hf 4 i) 0 (y * 31 + (nI (hf 4 i)).toInt64)) * 31 + (((hsF (hq i) (hf 4 i) 0 (nI 1))).toInt64)) ++ E) rfl ?_
                    refine r_aload_n C dX4_digest_102 rfl ?_
                    refine r_aload_n C dX4_digest_103 rfl ?_
                    refine r_iload_n C dX4_digest_104 rfl ?_
                    refine c_V (st := [.ref (ba 9)]) hX.stb C hE (D_textNow (ba := ba) (ra := ra) (hf := hf) (hq := hq) (kn := kn) (th := (nI 0)) (sm := ((mxF (hq i) (hf 4 i) 0 (y * 31 + (nI (hf 4 i)).toInt64)) * 31 + (((hsF (hq i) (hf 4 i) 0 (nI 1))).toInt64))) (E := E) (i := i) hX (by omega) (by omega) (hR i (by omega))) pk_X4_textNow qm_X4_179 0 8 rfl rfl wm_0 rfl rfl (Nat.le_of_ble_eq_true rfl) dX4_digest_105 ⟨Nat.le_of_ble_eq_true rfl, Nat.le_of_ble_eq_true rfl⟩ ⟨by first | (simp only [rmk, rmz]; omega) | (simp only [rmk, rmz]; done) | omega, by first | (simp only [rmk, rmz]; omega) | (simp only [rmk, rmz]; done) | omega⟩ (fun v9 w9 h9 => ?_) (fun _ h9 => h9.elim)
                    obtain ⟨a9_42, v9_42, h9_42, z9_42, g9_42, hf9_42, rfl, rfl⟩ := h9
                    refine c_V (st := [.ref (ba 9)]) hX.stb C hE (C_len_W (U := WM cy ba ra hf hq kn (nI 0) ((mxF (hq i) (hf 4 i) 0 (y * 31 + (nI (hf 4 i)).toInt64)) * 31 + (((hsF (hq i) (hf 4 i) 0 (nI 1))).toInt64))) (E := E) (a := a9_42) (va := v9_42) (h := h9_42) (z := z9_42) (k := (tlx (hq i) (hf 4 i) + 1)) (gs := g9_42) hX ) pk_J0_length_8abf5 qm_X4_223 ((WM cy ba ra hf hq kn (nI 0) ((mxF (hq i) (hf 4 i) 0 (y * 31 + (nI (hf 4 i)).toInt64)) * 31 + (((hsF (hq i) (hf 4 i) 0 (nI 1))).toInt64))).length + 0) 0 rfl rfl (us_g rfl) rfl rfl (Nat.le_of_ble_eq_true rfl) dX4_digest_108 ⟨Nat.le_of_ble_eq_true rfl, Nat.le_of_ble_eq_true rfl⟩ ⟨by first | (simp only [rmk, rmz]; omega) | (simp only [rmk, rmz]; done) | omega, by first | (simp only [rmk, rmz]; omega) | (simp only [rmk, rmz]; done) | omega⟩ (fun v9 w9 h9 => ?_) (fun _ h9 => h9.elim)
                    obtain ⟨rfl, rfl⟩ := h9
                    refine t_perm [STO a9_42 v9_42 h9_42 z9_42, BYO cy v9_42 (tlx (hq i) (hf 4 i) + 1) g9_42] [] [] rfl (by decide) rfl (w' := WM cy ba ra hf hq kn (nI 0) ((mxF (hq i) (hf 4 i) 0 (y * 31 + (nI (hf 4 i)).toInt64)) * 31 + (((hsF (hq i) (hf 4 i) 0 (nI 1))).toInt64)) ++ E) rfl ?_
                    refine r_i2l C dX4_digest_111 ?_
                    refine d_Vv (st := []) hX.1.1.stb C hE (D_addL (ba := ba) (ra := ra) (hf := hf) (hq := hq) (kn := kn) (th := (nI 0)) (sm := ((mxF (hq i) (hf 4 i) 0 (y * 31 + (nI (hf 4 i)).toInt64)) * 31 + (((hsF (hq i) (hf 4 i) 0 (nI 1))).toInt64))) (Y := E) (u := ((nI (tlx (hq i) (hf 4 i) + 1))).toInt64) hX.1 ) pk_X4_add_ qm_X4_219 0 8 rfl rfl wm_0 rfl rfl (Nat.le_of_ble_eq_true rfl) dX4_digest_112 ⟨Nat.le_of_ble_eq_true rfl, Nat.le_of_ble_eq_true rfl⟩ ⟨by first | (simp only [rmk, rmz]; omega) | (simp only [rmk, rmz]; done) | omega, by first | (simp only [rmk, rmz]; omega) | (simp only [rmk, rmz]; done) | omega⟩ ?_
                    refine r_w (w' := WM cy ba ra hf hq kn (nI 0) (((mxF (hq i) (hf 4 i) 0 (y * 31 + (nI (hf 4 i)).toInt64)) * 31 + (((hsF (hq i) (hf 4 i) 0 (nI 1))).toInt64)) * 31 + (((nI (tlx (hq i) (hf 4 i) + 1))).toInt64)) ++ E) rfl ?_
                    refine r_iincN C dX4_digest_115 rfl (by decide) rfl ?_
                    refine r_goto (tgt := 37) C dX4_digest_118 (by decide) ?_
                    refine r_drop 2 ?_
                    refine r_drop 3 ?_
                    refine r_drop 4 ?_
                    refine r_widen (k := 4 + 100 * (i + 1)) (n := 16 + 2200 * (i + 1)) (by first | (simp only [rmk, rmz]; omega) | (simp only [rmk, rmz]; done) | omega) (by first | (simp only [rmk, rmz]; omega) | (simp only [rmk, rmz]; done) | omega) ?_
                    exact ih_L37 (i + 1) _ (by omega) (by first | exact hF2 | (rw [← hF]; rfl))
                · first
                  | exfalso; first | omega | contradiction
                  | skip
                    refine r_aload_n C dX4_digest_73 rfl ?_
                    refine r_iload C dX4_digest_74 rfl ?_
                    refine m_rld (i := i) (n := k) C (by first | omega | (simp [up2, *]; done) | (simp [up2, *]; omega) | (simp only [up2_eq]; omega) | (split <;> omega)) (by first | omega | (simp [up2, *]; done) | (simp [up2, *]; omega) | (simp only [up2_eq]; omega) | (split <;> omega)) (by first | omega | (simp [up2, *]; done) | (simp [up2, *]; omega) | (simp only [up2_eq]; omega) | (split <;> omega)) dX4_digest_76 ?_
                    refine r_istore C dX4_digest_77 (by decide) rfl ?_
                    refine r_aload_n C dX4_digest_79 rfl ?_
                    refine r_iload C dX4_digest_80 rfl ?_
                    refine r_i2l C dX4_digest_82 ?_
                    refine d_Vv (st := []) hX.1.1.stb C hE (D_addL (ba := ba) (ra := ra) (hf := hf) (hq := hq) (kn := kn) (th := (nI 0)) (sm := x) (Y := E) (u := ((hq i k)).toInt64) hX.1 ) pk_X4_add_ qm_X4_219 0 8 rfl rfl wm_0 rfl rfl (Nat.le_of_ble_eq_true rfl) dX4_digest_83 ⟨Nat.le_of_ble_eq_true rfl, Nat.le_of_ble_eq_true rfl⟩ ⟨by first | (simp only [rmk, rmz]; omega) | (simp only [rmk, rmz]; done) | omega, by first | (simp only [rmk, rmz]; omega) | (simp only [rmk, rmz]; done) | omega⟩ ?_
                    refine r_w (w' := WM cy ba ra hf hq kn (nI 0) (x * 31 + (((hq i k)).toInt64)) ++ E) rfl ?_
                    refine r_iincN C dX4_digest_86 rfl (by decide) rfl ?_
                    refine r_goto (tgt := 67) C dX4_digest_89 (by decide) ?_
                    exfalso
                    omega
              | succ d ih_L67 =>
                intro k x hs hG
                refine r_iload C dX4_digest_67 rfl ?_
                refine r_iload_n C dX4_digest_69 rfl ?_
                refine r_icN_ge (a := k) (b := (hf 4 i)) (tgt := 92) C (by first | omega | (simp [up2, *]; done) | (simp [up2, *]; omega) | (simp only [up2_eq]; omega) | (split <;> omega)) (by first | omega | (simp [up2, *]; done) | (simp [up2, *]; omega) | (simp only [up2_eq]; omega) | (split <;> omega)) dX4_digest_70 (by decide) (fun h70_43 => ?_) (fun h70_43 => ?_)
                · first
                  | exfalso; first | omega | contradiction
                  | skip
                    have hGx : x = mxF (hq i) (hf 4 i) 0 (y * 31 + (nI (hf 4 i)).toInt64) := by first | exact hG | (exfalso; omega)
                    subst hGx
                    refine r_aload_n C dX4_digest_92 rfl ?_
                    refine r_aload_n C dX4_digest_93 rfl ?_
                    refine r_iload_n C dX4_digest_94 rfl ?_
                    refine d_V (st := [.ref (ba 9)]) hX.1.1.stb C hE (D_hashNow (ba := ba) (ra := ra) (hf := hf) (hq := hq) (kn := kn) (th := (nI 0)) (sm := (mxF (hq i) (hf 4 i) 0 (y * 31 + (nI (hf 4 i)).toInt64))) (Y := E) (i := i) hX.1 (by omega) (by omega)) pk_X4_hashNow qm_X4_148 0 8 rfl rfl wm_0 rfl rfl (Nat.le_of_ble_eq_true rfl) dX4_digest_95 ⟨Nat.le_of_ble_eq_true rfl, Nat.le_of_ble_eq_true rfl⟩ ⟨by first | (simp only [rmk, rmz]; omega) | (simp only [rmk, rmz]; done) | omega, by first | (simp only [rmk, rmz]; omega) | (simp only [rmk, rmz]; done) | omega⟩ ?_
                    refine r_w (w' := WM cy ba ra hf hq kn (nI 0) (mxF (hq i) (hf 4 i) 0 (y * 31 + (nI (hf 4 i)).toInt64)) ++ E) rfl ?_
                    refine r_i2l C dX4_digest_98 ?_
                    refine d_Vv (st := []) hX.1.1.stb C hE (D_addL (ba := ba) (ra := ra) (hf := hf) (hq := hq) (kn := kn) (th := (nI 0)) (sm := (mxF (hq i) (hf 4 i) 0 (y * 31 + (nI (hf 4 i)).toInt64))) (Y := E) (u := ((hsF (hq i) (hf 4 i) 0 (nI 1))).toInt64) hX.1 ) pk_X4_add_ qm_X4_219 0 8 rfl rfl wm_0 rfl rfl (Nat.le_of_ble_eq_true rfl) dX4_digest_99 ⟨Nat.le_of_ble_eq_true rfl, Nat.le_of_ble_eq_true rfl⟩ ⟨by first | (simp only [rmk, rmz]; omega) | (simp only [rmk, rmz]; done) | omega, by first | (simp only [rmk, rmz]; omega) | (simp only [rmk, rmz]; done) | omega⟩ ?_
                    refine r_w (w' := WM cy ba ra hf hq kn (nI 0) ((mxF (hq i) (hf 4 i) 0 (y * 31 + (nI (hf 4 i)).toInt64)) * 31 + (((hsF (hq i) (hf 4 i) 0 (nI 1))).toInt64)) ++ E) rfl ?_
                    refine r_aload_n C dX4_digest_102 rfl ?_
                    refine r_aload_n C dX4_digest_103 rfl ?_
                    refine r_iload_n C dX4_digest_104 rfl ?_
                    refine c_V (st := [.ref (ba 9)]) hX.stb C hE (D_textNow (ba := ba) (ra := ra) (hf := hf) (hq := hq) (kn := kn) (th := (nI 0)) (sm := ((mxF (hq i) (hf 4 i) 0 (y * 31 + (nI (hf 4 i)).toInt64)) * 31 + (((hsF (hq i) (hf 4 i) 0 (nI 1))).toInt64))) (E := E) (i := i) hX (by omega) (by omega) (hR i (by omega))) pk_X4_textNow qm_X4_179 0 8 rfl rfl wm_0 rfl rfl (Nat.le_of_ble_eq_true rfl) dX4_digest_105 ⟨Nat.le_of_ble_eq_true rfl, Nat.le_of_ble_eq_true rfl⟩ ⟨by first | (simp only [rmk, rmz]; omega) | (simp only [rmk, rmz]; done) | omega, by first | (simp only [rmk, rmz]; omega) | (simp only [rmk, rmz]; done) | omega⟩ (fun v9 w9 h9 => ?_) (fun _ h9 => h9.elim)
                    obtain ⟨a9_44, v9_44, h9_44, z9_44, g9_44, hf9_44, rfl, rfl⟩ := h9
                    refine c_V (st := [.ref (ba 9)]) hX.stb C hE (C_len_W (U := WM cy ba ra hf hq kn (nI 0) ((mxF (hq i) (hf 4 i) 0 (y * 31 + (nI (hf 4 i)).toInt64)) * 31 + (((hsF (hq i) (hf 4 i) 0 (nI 1))).toInt64))) (E := E) (a := a9_44) (va := v9_44) (h := h9_44) (z := z9_44) (k := (tlx (hq i) (hf 4 i) + 1)) (gs := g9_44) hX ) pk_J0_length_8abf5 qm_X4_223 ((WM cy ba ra hf hq kn (nI 0) ((mxF (hq i) (hf 4 i) 0 (y * 31 + (nI (hf 4 i)).toInt64)) * 31 + (((hsF (hq i) (hf 4 i) 0 (nI 1))).toInt64))).length + 0) 0 rfl rfl (us_g rfl) rfl rfl (Nat.le_of_ble_eq_true rfl) dX4_digest_108 ⟨Nat.le_of_ble_eq_true rfl, Nat.le_of_ble_eq_true rfl⟩ ⟨by first | (simp only [rmk, rmz]; omega) | (simp only [rmk, rmz]; done) | omega, by first | (simp only [rmk, rmz]; omega) | (simp only [rmk, rmz]; done) | omega⟩ (fun v9 w9 h9 => ?_) (fun _ h9 => h9.elim)
                    obtain ⟨rfl, rfl⟩ := h9
                    refine t_perm [STO a9_44 v9_44 h9_44 z9_44, BYO cy v9_44 (tlx (hq i) (hf 4 i) + 1) g9_44] [] [] rfl (by decide) rfl (w' := WM cy ba ra hf hq kn (nI 0) ((mxF (hq i) (hf 4 i) 0 (y * 31 + (nI (hf 4 i)).toInt64)) * 31 + (((hsF (hq i) (hf 4 i) 0 (nI 1))).toInt64)) ++ E) rfl ?_
                    refine r_i2l C dX4_digest_111 ?_
                    refine d_Vv (st := []) hX.1.1.stb C hE (D_addL (ba := ba) (ra := ra) (hf := hf) (hq := hq) (kn := kn) (th := (nI 0)) (sm := ((mxF (hq i) (hf 4 i) 0 (y * 31 + (nI (hf 4 i)).toInt64)) * 31 + (((hsF (hq i) (hf 4 i) 0 (nI 1))).toInt64))) (Y := E) (u := ((nI (tlx (hq i) (hf 4 i) + 1))).toInt64) hX.1 ) pk_X4_add_ qm_X4_219 0 8 rfl rfl wm_0 rfl rfl (Nat.le_of_ble_eq_true rfl) dX4_digest_112 ⟨Nat.le_of_ble_eq_true rfl, Nat.le_of_ble_eq_true rfl⟩ ⟨by first | (simp only [rmk, rmz]; omega) | (simp only [rmk, rmz]; done) | omega, by first | (simp only [rmk, rmz]; omega) | (simp only [rmk, rmz]; done) | omega⟩ ?_
                    refine r_w (w' := WM cy ba ra hf hq kn (nI 0) (((mxF (hq i) (hf 4 i) 0 (y * 31 + (nI (hf 4 i)).toInt64)) * 31 + (((hsF (hq i) (hf 4 i) 0 (nI 1))).toInt64)) * 31 + (((nI (tlx (hq i) (hf 4 i) + 1))).toInt64)) ++ E) rfl ?_
                    refine r_iincN C dX4_digest_115 rfl (by decide) rfl ?_
                    refine r_goto (tgt := 37) C dX4_digest_118 (by decide) ?_
                    refine r_drop 2 ?_
                    refine r_drop 3 ?_
                    refine r_drop 4 ?_
                    refine r_widen (k := 4 + 100 * (i + 1)) (n := 16 + 2200 * (i + 1)) (by first | (simp only [rmk, rmz]; omega) | (simp only [rmk, rmz]; done) | omega) (by first | (simp only [rmk, rmz]; omega) | (simp only [rmk, rmz]; done) | omega) ?_
                    exact ih_L37 (i + 1) _ (by omega) (by first | exact hF2 | (rw [← hF]; rfl))
                · first
                  | exfalso; first | omega | contradiction
                  | skip
                    refine r_aload_n C dX4_digest_73 rfl ?_
                    refine r_iload C dX4_digest_74 rfl ?_
                    refine m_rld (i := i) (n := k) C (by first | omega | (simp [up2, *]; done) | (simp [up2, *]; omega) | (simp only [up2_eq]; omega) | (split <;> omega)) (by first | omega | (simp [up2, *]; done) | (simp [up2, *]; omega) | (simp only [up2_eq]; omega) | (split <;> omega)) (by first | omega | (simp [up2, *]; done) | (simp [up2, *]; omega) | (simp only [up2_eq]; omega) | (split <;> omega)) dX4_digest_76 ?_
                    refine r_istore C dX4_digest_77 (by decide) rfl ?_
                    refine r_aload_n C dX4_digest_79 rfl ?_
                    refine r_iload C dX4_digest_80 rfl ?_
                    refine r_i2l C dX4_digest_82 ?_
                    refine d_Vv (st := []) hX.1.1.stb C hE (D_addL (ba := ba) (ra := ra) (hf := hf) (hq := hq) (kn := kn) (th := (nI 0)) (sm := x) (Y := E) (u := ((hq i k)).toInt64) hX.1 ) pk_X4_add_ qm_X4_219 0 8 rfl rfl wm_0 rfl rfl (Nat.le_of_ble_eq_true rfl) dX4_digest_83 ⟨Nat.le_of_ble_eq_true rfl, Nat.le_of_ble_eq_true rfl⟩ ⟨by first | (simp only [rmk, rmz]; omega) | (simp only [rmk, rmz]; done) | omega, by first | (simp only [rmk, rmz]; omega) | (simp only [rmk, rmz]; done) | omega⟩ ?_
                    refine r_w (w' := WM cy ba ra hf hq kn (nI 0) (x * 31 + (((hq i k)).toInt64)) ++ E) rfl ?_
                    refine r_iincN C dX4_digest_86 rfl (by decide) rfl ?_
                    refine r_goto (tgt := 67) C dX4_digest_89 (by decide) ?_
                    refine r_drop 5 ?_
                    refine r_widen (k := 4 + 100 * i) (n := 16 + 2200 * i) (by first | (simp only [rmk, rmz]; omega) | (simp only [rmk, rmz]; done) | omega) (by first | (simp only [rmk, rmz]; omega) | (simp only [rmk, rmz]; done) | omega) ?_
                    exact ih_L67 (k + 1) _ (by omega) (by rw [← hG]; rfl)
            refine r_widen (k := 4 + 100 * i) (n := 16 + 2200 * i) (by first | (simp only [rmk, rmz]; omega) | (simp only [rmk, rmz]; done) | omega) (by first | (simp only [rmk, rmz]; omega) | (simp only [rmk, rmz]; done) | omega) ?_
            exact L67 (hf 4 i) 0 (y * 31 + (nI (hf 4 i)).toInt64) (by omega) rfl
    refine r_widen (k := 4 + 100 * 0) (n := 16 + 2200 * 0) (by first | (simp only [rmk, rmz]; omega) | (simp only [rmk, rmz]; done) | omega) (by first | (simp only [rmk, rmz]; omega) | (simp only [rmk, rmz]; done) | omega) ?_
    exact L37 4 0 z (by omega) (by rw [hz])
  refine r_aload_n C dX4_digest_0 rfl ?_
  refine r_iconst (v := (nI 0)) C dX4_digest_1 (by decide) ?_
  refine m_putT C qf_X4_44 dX4_digest_2 ?_
  refine r_aload_n C dX4_digest_5 rfl ?_
  refine r_ldc2 (v := 7807) C ql_X4_217 dX4_digest_6 ?_
  refine m_putS C qf_X4_211 dX4_digest_9 ?_
  refine r_iconst (v := (nI 0)) C dX4_digest_12 (by decide) ?_
  refine r_istore_n C dX4_digest_13 (by decide) rfl ?_
  have L14 : ∀ (d : Nat) (j : Nat) (x : Int64), (hs : j + d = 4) → (hF : mxF (hoM hf kn) d j x = mxF (hoM hf kn) 4 0 7807) → vC p l e (rmk 9 460 9400 500) s m args below meth c D A (vx_MQ below (vG (fun v1 w1 => v1 = some (.long (dgM f hf hq kn)) ∧ w1 = WM cy ba ra hf hq kn (nI 0) (dgM f hf hq kn) ++ E) D vwCl A) (vGX (fun _ => False) D vwCl (WM cy ba ra hf hq kn th sm ++ E) A) args s (rmk 9 460 9400 500).cells (rmk 9 460 9400 500).slots A) 6 (j) (4 * j) (WM cy ba ra hf hq kn (nI 0) x ++ E) [some (.ref (ba 9)), some (.int (nI j)), none, none, none, none] 14 [] := by
    intro d
    induction d with
    | zero =>
      intro j x hs hF
      refine r_iload_n C dX4_digest_14 rfl ?_
      refine r_iconst (v := (nI 4)) C dX4_digest_15 (by decide) ?_
      refine r_icN_ge (a := j) (b := 4) (tgt := 35) C (by first | omega | (simp [up2, *]; done) | (simp [up2, *]; omega) | (simp only [up2_eq]; omega) | (split <;> omega)) (by first | omega | (simp [up2, *]; done) | (simp [up2, *]; omega) | (simp only [up2_eq]; omega) | (split <;> omega)) dX4_digest_16 (by decide) (fun h16_45 => ?_) (fun h16_45 => ?_)
      · first
        | exfalso; first | omega | contradiction
        | skip
          refine r_drop 1 ?_
          refine r_widen (k := 4) (n := 16) (by first | (simp only [rmk, rmz]; omega) | (simp only [rmk, rmz]; done) | omega) (by first | (simp only [rmk, rmz]; omega) | (simp only [rmk, rmz]; done) | omega) ?_
          exact K35 x (by first | exact hF | (exfalso; omega))
      · first
        | exfalso; first | omega | contradiction
        | skip
          refine r_aload_n C dX4_digest_19 rfl ?_
          refine r_aload_n C dX4_digest_20 rfl ?_
          refine r_iload_n C dX4_digest_21 rfl ?_
          refine d_V (st := [.ref (ba 9)]) hX.1.1.stb C hE (D_houseNow (ba := ba) (ra := ra) (hf := hf) (hq := hq) (kn := kn) (th := (nI 0)) (sm := x) (Y := E) (q0 := j) (f := f) (r := r) hX.1 hC hM (by omega)) pk_X4_houseNow qm_X4_205 0 8 rfl rfl wm_0 rfl rfl (Nat.le_of_ble_eq_true rfl) dX4_digest_22 ⟨Nat.le_of_ble_eq_true rfl, Nat.le_of_ble_eq_true rfl⟩ ⟨by first | (simp only [rmk, rmz]; omega) | (simp only [rmk, rmz]; done) | omega, by first | (simp only [rmk, rmz]; omega) | (simp only [rmk, rmz]; done) | omega⟩ ?_
          refine r_w (w' := WM cy ba ra hf hq kn (nI 0) x ++ E) rfl ?_
          refine r_i2l C dX4_digest_25 ?_
          refine d_Vv (st := []) hX.1.1.stb C hE (D_addL (ba := ba) (ra := ra) (hf := hf) (hq := hq) (kn := kn) (th := (nI 0)) (sm := x) (Y := E) (u := ((hoM hf kn j)).toInt64) hX.1 ) pk_X4_add_ qm_X4_219 0 8 rfl rfl wm_0 rfl rfl (Nat.le_of_ble_eq_true rfl) dX4_digest_26 ⟨Nat.le_of_ble_eq_true rfl, Nat.le_of_ble_eq_true rfl⟩ ⟨by first | (simp only [rmk, rmz]; omega) | (simp only [rmk, rmz]; done) | omega, by first | (simp only [rmk, rmz]; omega) | (simp only [rmk, rmz]; done) | omega⟩ ?_
          refine r_w (w' := WM cy ba ra hf hq kn (nI 0) (x * 31 + (((hoM hf kn j)).toInt64)) ++ E) rfl ?_
          refine r_iincN C dX4_digest_29 rfl (by decide) rfl ?_
          refine r_goto (tgt := 14) C dX4_digest_32 (by decide) ?_
          exfalso
          omega
    | succ d ih_L14 =>
      intro j x hs hF
      refine r_iload_n C dX4_digest_14 rfl ?_
      refine r_iconst (v := (nI 4)) C dX4_digest_15 (by decide) ?_
      refine r_icN_ge (a := j) (b := 4) (tgt := 35) C (by first | omega | (simp [up2, *]; done) | (simp [up2, *]; omega) | (simp only [up2_eq]; omega) | (split <;> omega)) (by first | omega | (simp [up2, *]; done) | (simp [up2, *]; omega) | (simp only [up2_eq]; omega) | (split <;> omega)) dX4_digest_16 (by decide) (fun h16_46 => ?_) (fun h16_46 => ?_)
      · first
        | exfalso; first | omega | contradiction
        | skip
          refine r_drop 1 ?_
          refine r_widen (k := 4) (n := 16) (by first | (simp only [rmk, rmz]; omega) | (simp only [rmk, rmz]; done) | omega) (by first | (simp only [rmk, rmz]; omega) | (simp only [rmk, rmz]; done) | omega) ?_
          exact K35 x (by first | exact hF | (exfalso; omega))
      · first
        | exfalso; first | omega | contradiction
        | skip
          refine r_aload_n C dX4_digest_19 rfl ?_
          refine r_aload_n C dX4_digest_20 rfl ?_
          refine r_iload_n C dX4_digest_21 rfl ?_
          refine d_V (st := [.ref (ba 9)]) hX.1.1.stb C hE (D_houseNow (ba := ba) (ra := ra) (hf := hf) (hq := hq) (kn := kn) (th := (nI 0)) (sm := x) (Y := E) (q0 := j) (f := f) (r := r) hX.1 hC hM (by omega)) pk_X4_houseNow qm_X4_205 0 8 rfl rfl wm_0 rfl rfl (Nat.le_of_ble_eq_true rfl) dX4_digest_22 ⟨Nat.le_of_ble_eq_true rfl, Nat.le_of_ble_eq_true rfl⟩ ⟨by first | (simp only [rmk, rmz]; omega) | (simp only [rmk, rmz]; done) | omega, by first | (simp only [rmk, rmz]; omega) | (simp only [rmk, rmz]; done) | omega⟩ ?_
          refine r_w (w' := WM cy ba ra hf hq kn (nI 0) x ++ E) rfl ?_
          refine r_i2l C dX4_digest_25 ?_
          refine d_Vv (st := []) hX.1.1.stb C hE (D_addL (ba := ba) (ra := ra) (hf := hf) (hq := hq) (kn := kn) (th := (nI 0)) (sm := x) (Y := E) (u := ((hoM hf kn j)).toInt64) hX.1 ) pk_X4_add_ qm_X4_219 0 8 rfl rfl wm_0 rfl rfl (Nat.le_of_ble_eq_true rfl) dX4_digest_26 ⟨Nat.le_of_ble_eq_true rfl, Nat.le_of_ble_eq_true rfl⟩ ⟨by first | (simp only [rmk, rmz]; omega) | (simp only [rmk, rmz]; done) | omega, by first | (simp only [rmk, rmz]; omega) | (simp only [rmk, rmz]; done) | omega⟩ ?_
          refine r_w (w' := WM cy ba ra hf hq kn (nI 0) (x * 31 + (((hoM hf kn j)).toInt64)) ++ E) rfl ?_
          refine r_iincN C dX4_digest_29 rfl (by decide) rfl ?_
          refine r_goto (tgt := 14) C dX4_digest_32 (by decide) ?_
          refine r_widen (k := (j + 1)) (n := 4 * (j + 1)) (by first | (simp only [rmk, rmz]; omega) | (simp only [rmk, rmz]; done) | omega) (by first | (simp only [rmk, rmz]; omega) | (simp only [rmk, rmz]; done) | omega) ?_
          exact ih_L14 (j + 1) _ (by omega) (by rw [← hF]; rfl)
  refine r_widen (k := 0) (n := 4 * 0) (by first | (simp only [rmk, rmz]; omega) | (simp only [rmk, rmz]; done) | omega) (by first | (simp only [rmk, rmz]; omega) | (simp only [rmk, rmz]; done) | omega) ?_
  exact L14 4 0 7807 (by omega) rfl
