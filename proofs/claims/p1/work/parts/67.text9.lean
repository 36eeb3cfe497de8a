/-! TEXTS OF THE MODEL -/
/-- how long the first k items are, with what stands between them -/
def tjx (x : Nat → Int32) (k : Nat) : Nat := tlx x k - 1
theorem tlx_one (x : Nat → Int32) (k : Nat) : 1 ≤ tlx x k := by
  induction k with
  | zero => exact Nat.le_refl _
  | succ k ih =>
    show 1 ≤ tlx x k + _ + _
    omega
theorem tjx_0 (x : Nat → Int32) : tjx x 0 = 0 := rfl
theorem tjx_1 (x : Nat → Int32) : tjx x 1 = sz9 (x 0) := by
  show 1 + (if 0 < 0 then 2 else 0) + sz9 (x 0) - 1 = _
  rw [if_neg (by omega)]
  omega
theorem tjx_up (x : Nat → Int32) {k : Nat} (hk : 0 < k) : tjx x (k + 1) = tjx x k + 2 + sz9 (x k) := by
  have := tlx_one x k
  show tlx x k + (if 0 < k then 2 else 0) + sz9 (x k) - 1 = tlx x k - 1 + 2 + sz9 (x k)
  rw [if_pos hk]
  omega
theorem tjx_le (x : Nat → Int32) (k : Nat) : tjx x k ≤ 5 * k := by
  have := tlx_le x k
  unfold tjx
  omega
theorem tjx_le2 (x : Nat → Int32) {k : Nat} (hk : 0 < k) : tjx x k + 2 ≤ 5 * k := by
  induction k with
  | zero => omega
  | succ k ih =>
    have hz := sz9_le (x k)
    by_cases h : k = 0
    · subst h
      rw [tjx_1]
      omega
    · rw [tjx_up x (by omega)]
      have := ih (by omega)
      omega
theorem gC_le (q m : Nat) : gC q m ≤ 1 := by
  unfold gC
  split <;> omega
theorem sb_capb (q m : Nat) : q ≤ sb_cap q m ∧ (q ≤ m ∧ sb_cap q m = m ∧ gS q m = 0 ∨ m < q ∧ q ≤ 2 * m + 2 ∧ sb_cap q m = 2 * m + 2 ∧ gS q m = 2 * m + 2 ∨ 2 * m + 2 < q ∧ sb_cap q m = q ∧ gS q m = q) := by
  refine ⟨sb_cap_ge q m, ?_⟩
  unfold gS sb_cap
  by_cases h : q ≤ m
  · rw [if_pos h, if_pos h]
    exact Or.inl ⟨h, rfl, rfl⟩
  · rw [if_neg h, if_neg h]
    by_cases h2 : 2 * m + 2 < q
    · rw [if_pos h2]
      exact Or.inr (Or.inr ⟨h2, rfl, rfl⟩)
    · rw [if_neg h2]
      exact Or.inr (Or.inl ⟨by omega, by omega, rfl, rfl⟩)
/-- what an item costs: three laid behind each other into a new builder -/
theorem tx_cost {a b c : Nat} (h1 : a ≤ 53) (h2 : a ≤ b) (h3 : b ≤ a + 2) (h4 : b ≤ c) (h5 : c ≤ b + 3) :
    (a ≤ sb_cap a 16 ∧ sb_cap a 16 ≤ 53) ∧ (b ≤ sb_cap b (sb_cap a 16) ∧ sb_cap b (sb_cap a 16) ≤ 108) ∧ (c ≤ sb_cap c (sb_cap b (sb_cap a 16)) ∧ sb_cap c (sb_cap b (sb_cap a 16)) ≤ 218) ∧
      gS a 16 + gS b (sb_cap a 16) + gS c (sb_cap b (sb_cap a 16)) ≤ (if a ≤ 28 then 34 else 161) := by
  have e1 := sb_capb a 16
  have e2 := sb_capb b (sb_cap a 16)
  have e3 := sb_capb c (sb_cap b (sb_cap a 16))
  split <;> omega
/-- the slots that the first k items have cost -/
def txS (k : Nat) : Nat := if k ≤ 7 then 91 * k else 637 + 243 * (k - 7)
theorem txS_up {k L c : Nat} (hk : k < 12) (hL : L + 2 ≤ 5 * k ∨ L = 0) (hc : c ≤ L + 5) : 20 + (if L ≤ 28 then 34 else 161) + (c + 4) + txS k ≤ txS (k + 1) := by
  unfold txS
  split <;> split <;> split <;> omega
theorem txS_12 {k : Nat} (hk : k ≤ 12) : txS k ≤ 1852 := by
  unfold txS
  split <;> omega
theorem ks_3 : KSB.getD 3 [] = [chb 91] := by decide +kernel
theorem ks_4 : KSB.getD 4 [] = [chb 93] := by decide +kernel
theorem tx_ends {gO gT x g : Nat → Int32} {k n : Nat} (h : TXT g n ([] ++ KSB.getD 3 [] ++ jln gO gT x k ++ KSB.getD 4 [])) : TXT g n (txl gO gT x k) := by
  rw [ks_3, ks_4] at h
  exact h
theorem tx_ends0 {gO gT x g : Nat → Int32} {k n : Nat} (hk : k = 0) (h : TXT g n ([] ++ KSB.getD 3 [] ++ KSB.getD 1 [] ++ KSB.getD 4 [])) : TXT g n (txl gO gT x k) := by
  subst hk
  rw [ks_3, ks_4] at h
  exact h
theorem jx_up {gO gT x g : Nat → Int32} {k n : Nat} (hk : 0 < k) (h : TXT g n ([] ++ jln gO gT x k ++ KSB.getD 2 [] ++ dgl gO gT (x k))) : TXT g n (jln gO gT x (k + 1)) := by
  rw [jln_up hk]
  exact h
theorem jx_1 {gO gT x g : Nat → Int32} {n : Nat} (h : TXT g n ([] ++ KSB.getD 1 [] ++ KSB.getD 1 [] ++ dgl gO gT (x 0))) : TXT g n (jln gO gT x 1) := by
  rw [show (1 : Nat) = 0 + 1 from rfl, jln_up0 (by omega)]
  exact h

theorem dX4_textNow_0 : decode cX4_textNow 0 = .ok (.ldc 151, 2) := dqo_18 151 (kb_X4_textNow_0 0 rfl) (kb_X4_textNow_0 1 rfl)
theorem dX4_textNow_2 : decode cX4_textNow 2 = .ok (.astore_n 2, 1) := dqo_77 (kb_X4_textNow_0 2 rfl)
theorem dX4_textNow_3 : decode cX4_textNow 3 = .ok (.aload_n 0, 1) := dqo_42 (kb_X4_textNow_0 3 rfl)
theorem dX4_textNow_4 : decode cX4_textNow 4 = .ok (.getfield 15, 3) := dqo_180 0 15 (kb_X4_textNow_0 4 rfl) (kb_X4_textNow_0 5 rfl) (kb_X4_textNow_0 6 rfl)
theorem dX4_textNow_7 : decode cX4_textNow 7 = .ok (.iload_n 1, 1) := dqo_27 (kb_X4_textNow_0 7 rfl)
theorem dX4_textNow_8 : decode cX4_textNow 8 = .ok (.aaload, 1) := dqo_50 (kb_X4_textNow_0 8 rfl)
theorem dX4_textNow_9 : decode cX4_textNow 9 = .ok (.astore_n 3, 1) := dqo_78 (kb_X4_textNow_0 9 rfl)
theorem dX4_textNow_10 : decode cX4_textNow 10 = .ok (.aload_n 3, 1) := dqo_45 (kb_X4_textNow_0 10 rfl)
theorem dX4_textNow_11 : decode cX4_textNow 11 = .ok (.arraylength, 1) := dqo_190 (kb_X4_textNow_0 11 rfl)
theorem dX4_textNow_12 : decode cX4_textNow 12 = .ok (.istore 4, 2) := dqo_54 4 (kb_X4_textNow_0 12 rfl) (kb_X4_textNow_0 13 rfl)
theorem dX4_textNow_14 : decode cX4_textNow 14 = .ok (.iconst 0, 1) := dqo_3 (kb_X4_textNow_0 14 rfl)
theorem dX4_textNow_15 : decode cX4_textNow 15 = .ok (.istore 5, 2) := dqo_54 5 (kb_X4_textNow_0 15 rfl) (kb_X4_textNow_0 16 rfl)
theorem dX4_textNow_17 : decode cX4_textNow 17 = .ok (.iload 5, 2) := dqo_21 5 (kb_X4_textNow_0 17 rfl) (kb_X4_textNow_0 18 rfl)
theorem dX4_textNow_19 : decode cX4_textNow 19 = .ok (.iload 4, 2) := dqo_21 4 (kb_X4_textNow_0 19 rfl) (kb_X4_textNow_0 20 rfl)
theorem dX4_textNow_21 : decode cX4_textNow 21 = .ok (.if_icmp .ge 52, 3) := dqo_162 0 52 (by decide) (kb_X4_textNow_0 21 rfl) (kb_X4_textNow_0 22 rfl) (kb_X4_textNow_0 23 rfl)
theorem dX4_textNow_24 : decode cX4_textNow 24 = .ok (.aload_n 3, 1) := dqo_45 (kb_X4_textNow_0 24 rfl)
theorem dX4_textNow_25 : decode cX4_textNow 25 = .ok (.iload 5, 2) := dqo_21 5 (kb_X4_textNow_0 25 rfl) (kb_X4_textNow_0 26 rfl)
theorem dX4_textNow_27 : decode cX4_textNow 27 = .ok (.iaload, 1) := dqo_46 (kb_X4_textNow_0 27 rfl)
theorem dX4_textNow_28 : decode cX4_textNow 28 = .ok (.istore 6, 2) := dqo_54 6 (kb_X4_textNow_0 28 rfl) (kb_X4_textNow_0 29 rfl)
theorem dX4_textNow_30 : decode cX4_textNow 30 = .ok (.new 153, 3) := dqo_187 0 153 (kb_X4_textNow_0 30 rfl) (kb_X4_textNow_0 31 rfl) (kb_X4_textNow_0 32 rfl)
theorem dX4_textNow_33 : decode cX4_textNow 33 = .ok (.dup, 1) := dqo_89 (kb_X4_textNow_0 33 rfl)
theorem dX4_textNow_34 : decode cX4_textNow 34 = .ok (.invokespecial 155, 3) := dqo_183 0 155 (kb_X4_textNow_0 34 rfl) (kb_X4_textNow_0 35 rfl) (kb_X4_textNow_0 36 rfl)
theorem dX4_textNow_37 : decode cX4_textNow 37 = .ok (.aload_n 2, 1) := dqo_44 (kb_X4_textNow_0 37 rfl)
theorem dX4_textNow_38 : decode cX4_textNow 38 = .ok (.invokevirtual 156, 3) := dqo_182 0 156 (kb_X4_textNow_0 38 rfl) (kb_X4_textNow_0 39 rfl) (kb_X4_textNow_0 40 rfl)
theorem dX4_textNow_41 : decode cX4_textNow 41 = .ok (.aload_n 2, 1) := dqo_44 (kb_X4_textNow_0 41 rfl)
theorem dX4_textNow_42 : decode cX4_textNow 42 = .ok (.invokevirtual 160, 3) := dqo_182 0 160 (kb_X4_textNow_0 42 rfl) (kb_X4_textNow_0 43 rfl) (kb_X4_textNow_0 44 rfl)
theorem dX4_textNow_45 : decode cX4_textNow 45 = .ok (.ifCond .eq 8, 3) := dqo_153 0 8 (by decide) (kb_X4_textNow_0 45 rfl) (kb_X4_textNow_0 46 rfl) (kb_X4_textNow_0 47 rfl)
theorem dX4_textNow_48 : decode cX4_textNow 48 = .ok (.ldc 151, 2) := dqo_18 151 (kb_X4_textNow_0 48 rfl) (kb_X4_textNow_0 49 rfl)
theorem dX4_textNow_50 : decode cX4_textNow 50 = .ok (.goto 5, 3) := dqo_167 0 5 (by decide) (kb_X4_textNow_0 50 rfl) (kb_X4_textNow_0 51 rfl) (kb_X4_textNow_0 52 rfl)
theorem dX4_textNow_53 : decode cX4_textNow 53 = .ok (.ldc 166, 2) := dqo_18 166 (kb_X4_textNow_0 53 rfl) (kb_X4_textNow_0 54 rfl)
theorem dX4_textNow_55 : decode cX4_textNow 55 = .ok (.invokevirtual 156, 3) := dqo_182 0 156 (kb_X4_textNow_0 55 rfl) (kb_X4_textNow_0 56 rfl) (kb_X4_textNow_0 57 rfl)
theorem dX4_textNow_58 : decode cX4_textNow 58 = .ok (.iload 6, 2) := dqo_21 6 (kb_X4_textNow_0 58 rfl) (kb_X4_textNow_0 59 rfl)
theorem dX4_textNow_60 : decode cX4_textNow 60 = .ok (.invokevirtual 168, 3) := dqo_182 0 168 (kb_X4_textNow_0 60 rfl) (kb_X4_textNow_0 61 rfl) (kb_X4_textNow_0 62 rfl)
theorem dX4_textNow_63 : decode cX4_textNow 63 = .ok (.invokevirtual 171, 3) := dqo_182 0 171 (kb_X4_textNow_0 63 rfl) (kb_X4_textNow_1 0 rfl) (kb_X4_textNow_1 1 rfl)
theorem dX4_textNow_66 : decode cX4_textNow 66 = .ok (.astore_n 2, 1) := dqo_77 (kb_X4_textNow_1 2 rfl)
theorem dX4_textNow_67 : decode cX4_textNow 67 = .ok (.iinc 5 1, 3) := dqo_132 5 1 (by decide) (kb_X4_textNow_1 3 rfl) (kb_X4_textNow_1 4 rfl) (kb_X4_textNow_1 5 rfl)
theorem dX4_textNow_70 : decode cX4_textNow 70 = .ok (.goto (-53), 3) := dqo_167 255 203 (by decide) (kb_X4_textNow_1 6 rfl) (kb_X4_textNow_1 7 rfl) (kb_X4_textNow_1 8 rfl)
theorem dX4_textNow_73 : decode cX4_textNow 73 = .ok (.new 153, 3) := dqo_187 0 153 (kb_X4_textNow_1 9 rfl) (kb_X4_textNow_1 10 rfl) (kb_X4_textNow_1 11 rfl)
theorem dX4_textNow_76 : decode cX4_textNow 76 = .ok (.dup, 1) := dqo_89 (kb_X4_textNow_1 12 rfl)
theorem dX4_textNow_77 : decode cX4_textNow 77 = .ok (.invokespecial 155, 3) := dqo_183 0 155 (kb_X4_textNow_1 13 rfl) (kb_X4_textNow_1 14 rfl) (kb_X4_textNow_1 15 rfl)
theorem dX4_textNow_80 : decode cX4_textNow 80 = .ok (.ldc 175, 2) := dqo_18 175 (kb_X4_textNow_1 16 rfl) (kb_X4_textNow_1 17 rfl)
theorem dX4_textNow_82 : decode cX4_textNow 82 = .ok (.invokevirtual 156, 3) := dqo_182 0 156 (kb_X4_textNow_1 18 rfl) (kb_X4_textNow_1 19 rfl) (kb_X4_textNow_1 20 rfl)
theorem dX4_textNow_85 : decode cX4_textNow 85 = .ok (.aload_n 2, 1) := dqo_44 (kb_X4_textNow_1 21 rfl)
theorem dX4_textNow_86 : decode cX4_textNow 86 = .ok (.invokevirtual 156, 3) := dqo_182 0 156 (kb_X4_textNow_1 22 rfl) (kb_X4_textNow_1 23 rfl) (kb_X4_textNow_1 24 rfl)
theorem dX4_textNow_89 : decode cX4_textNow 89 = .ok (.ldc 177, 2) := dqo_18 177 (kb_X4_textNow_1 25 rfl) (kb_X4_textNow_1 26 rfl)
theorem dX4_textNow_91 : decode cX4_textNow 91 = .ok (.invokevirtual 156, 3) := dqo_182 0 156 (kb_X4_textNow_1 27 rfl) (kb_X4_textNow_1 28 rfl) (kb_X4_textNow_1 29 rfl)
theorem dX4_textNow_94 : decode cX4_textNow 94 = .ok (.invokevirtual 171, 3) := dqo_182 0 171 (kb_X4_textNow_1 30 rfl) (kb_X4_textNow_1 31 rfl) (kb_X4_textNow_1 32 rfl)
theorem dX4_textNow_97 : decode cX4_textNow 97 = .ok (.areturn, 1) := dqo_176 (kb_X4_textNow_1 33 rfl)
theorem pk_J0_isEmpty_aae02 : PkV RJ0 yJ0_isEmpty_aae02 cJ0_isEmpty_aae02 1 (some .boolean) 0 := ⟨⟨qi_J0_isEmpty_aae02, qs_J0_isEmpty_aae02, qz_J0, qc_J0_isEmpty_aae02⟩, rfl, mh_J0.1, mh_J0.2, pd_27⟩
set_option maxRecDepth 100000 in
set_option maxHeartbeats 1600000 in
theorem D_textNow {l : Launch} {D : va_G} {cy : Nat → ClassId} {X : (Nat → Prop) → State → Heap → Prop} {aK aV : Nat → Nat} {tO tT : Nat} {gO gT : Nat → Int32} {ba ra : Nat → Nat} {hf : Nat → Nat → Nat} {hq : Nat → Nat → Int32} {kn th : Int32} {sm : Int64} {E : va_W} {i : Nat} (hX : EnvS X cy aK aV tO tT gO gT) (hi4 : i < 4) (h12i : hf 4 i ≤ 12) (hR : ∀ k, k < hf 4 i → -99 ≤ (hq i k).toInt ∧ (hq i k).toInt ≤ 99) : Cm l D cy X yX4_textNow cX4_textNow 7 (some (.object "java/lang/String")) (rmk 6 100 2200 350) [.ref (ba 9), .int (nI i)] (WM cy ba ra hf hq kn th sm ++ E) (fun v1 w1 => ∃ (a9 v9 : Nat) (h9 z9 : Int32) (g9 : Nat → Int32), TXT g9 (tlx (hq i) (hf 4 i) + 1) (txl gO gT (hq i) (hf 4 i)) ∧ v1 = some (.ref a9) ∧ w1 = WM cy ba ra hf hq kn th sm ++ (STO a9 v9 h9 z9 :: BYO cy v9 (tlx (hq i) (hf 4 i) + 1) g9 :: E)) (fun _ => False) := by
  refine Cm.of [some (.ref (ba 9)), some (.int (nI i)), none, none, none, none, none] pn_X4 rfl (Nat.le_of_ble_eq_true rfl) ?_
  intro p e s m args below meth c A C hE hr hnt hn
  have hks1 : KSN.getD 1 0 = 0 := rfl
  have hks2 : KSN.getD 2 0 = 2 := rfl
  have hks3 : KSN.getD 3 0 = 1 := rfl
  have hks4 : KSN.getD 4 0 = 1 := rfl
  have hnil : tlx (hq i) 0 = 1 := rfl
  have K73 : hf 4 i = 0 → vC p l e (rmk 6 100 2200 350) s m args below meth c D A (vx_MQ below (vG (fun v1 w1 => ∃ (a9 v9 : Nat) (h9 z9 : Int32) (g9 : Nat → Int32), TXT g9 (tlx (hq i) (hf 4 i) + 1) (txl gO gT (hq i) (hf 4 i)) ∧ v1 = some (.ref a9) ∧ w1 = WM cy ba ra hf hq kn th sm ++ (STO a9 v9 h9 z9 :: BYO cy v9 (tlx (hq i) (hf 4 i) + 1) g9 :: E)) D vwCl A) (vGX (fun _ => False) D vwCl (WM cy ba ra hf hq kn th sm ++ E) A) args s (rmk 6 100 2200 350).cells (rmk 6 100 2200 350).slots A) 7 90 1852 (WM cy ba ra hf hq kn th sm ++ E) [some (.ref (ba 9)), some (.int (nI i)), some (.ref (aK 1)), some (.ref (ra i)), some (.int (nI (hf 4 i))), none, none] 73 [] := by
    intro hz
    have hlen : 0 + KSN.getD 3 0 + KSN.getD 1 0 + KSN.getD 4 0 = tlx (hq i) (hf 4 i) + 1 := by rw [hz, hnil]; omega
    have hc1 := sb_capb (0 + KSN.getD 3 0) 16
    have hc2 := sb_capb (0 + KSN.getD 3 0 + KSN.getD 1 0) (sb_cap (0 + KSN.getD 3 0) 16)
    have hc3 := sb_capb (0 + KSN.getD 3 0 + KSN.getD 1 0 + KSN.getD 4 0) (sb_cap (0 + KSN.getD 3 0 + KSN.getD 1 0) (sb_cap (0 + KSN.getD 3 0) 16))
    have hgg1 := gC_le (0 + KSN.getD 3 0) 16
    have hgg2 := gC_le (0 + KSN.getD 3 0 + KSN.getD 1 0) (sb_cap (0 + KSN.getD 3 0) 16)
    have hgg3 := gC_le (0 + KSN.getD 3 0 + KSN.getD 1 0 + KSN.getD 4 0) (sb_cap (0 + KSN.getD 3 0 + KSN.getD 1 0) (sb_cap (0 + KSN.getD 3 0) 16))
    refine r_new (fs := [.null, .int (nI 0), .int (nI 0), .int (nI 0)]) C qu_J4 tyJ4 tyJ4_ok qk_X4_153 qo_J4 qz_J4 (ci := 1) rfl fs0_J4 (by first | (simp only [rmk, rmz]; omega) | (simp only [rmk, rmz]; done) | omega) (by first | (simp only [rmk, rmz]; omega) | (simp only [rmk, rmz]; done) | omega) dX4_textNow_73 (fun q_1 => ?_)
    refine t_front ?_
    refine r_dup C dX4_textNow_76 rfl ?_
    refine c_I (st := [.ref q_1]) hX.stb C hE (C_sbInit (U := WM cy ba ra hf hq kn th sm) (E := E) (b := q_1) hX ) pk_J4_init_da8c8 qm_X4_155 rfl rfl (Nat.le_of_ble_eq_true rfl) dX4_textNow_77 ⟨Nat.le_of_ble_eq_true rfl, Nat.le_of_ble_eq_true rfl⟩ ⟨by first | (simp only [rmk, rmz]; omega) | (simp only [rmk, rmz]; done) | omega, by first | (simp only [rmk, rmz]; omega) | (simp only [rmk, rmz]; done) | omega⟩ (fun v9 w9 h9 => ?_) (fun _ h9 => h9.elim)
    obtain ⟨v9_2, g9_3, f_4, rfl, rfl⟩ := h9
    refine j_ldcS hX C hE (i := 3) rfl dX4_textNow_80 ?_
    refine c_V (st := []) hX.stb C hE (C_sbStr_K (U := WM cy ba ra hf hq kn th sm) (E := E) (b := q_1) (v := v9_2) (m := 16) (n := 0) (g := g9_3) (ml := (nI 0)) (i := 3) hX (by omega) (by omega) (TXT.nil f_4) (by first | assumption | decide)) pk_J4_append_15ec4 qm_X4_156 ((WM cy ba ra hf hq kn th sm).length + 0) 1 rfl rfl (us_g rfl) rfl rfl (Nat.le_of_ble_eq_true rfl) dX4_textNow_82 ⟨Nat.le_of_ble_eq_true rfl, Nat.le_of_ble_eq_true rfl⟩ ⟨by first | (simp only [rmk, rmz]; omega) | (simp only [rmk, rmz]; done) | omega, by first | (simp only [rmk, rmz]; omega) | (simp only [rmk, rmz]; done) | omega⟩ (fun v9 w9 h9 => ?_) (fun _ h9 => h9.elim)
    obtain ⟨v9_5, g9_6, f_7, rfl, rfl⟩ := h9
    refine r_aload_n C dX4_textNow_85 rfl ?_
    refine c_V (st := []) hX.stb C hE (C_sbStr_K (U := WM cy ba ra hf hq kn th sm) (E := E) (b := q_1) (v := v9_5) (m := (sb_cap (0 + KSN.getD 3 0) 16)) (n := (0 + KSN.getD 3 0)) (g := g9_6) (ml := (nI 0)) (i := 1) hX (by omega) (by omega) f_7 (by first | assumption | decide)) pk_J4_append_15ec4 qm_X4_156 ((WM cy ba ra hf hq kn th sm).length + 0) 1 rfl rfl (us_g rfl) rfl rfl (Nat.le_of_ble_eq_true rfl) dX4_textNow_86 ⟨Nat.le_of_ble_eq_true rfl, Nat.le_of_ble_eq_true rfl⟩ ⟨by first | (simp only [rmk, rmz]; omega) | (simp only [rmk, rmz]; done) | omega, by first | (simp only [rmk, rmz]; omega) | (simp only [rmk, rmz]; done) | omega⟩ (fun v9 w9 h9 => ?_) (fun _ h9 => h9.elim)
    obtain ⟨v9_8, g9_9, f_10, rfl, rfl⟩ := h9
    refine j_ldcS hX C hE (i := 4) rfl dX4_textNow_89 ?_
    refine c_V (st := []) hX.stb C hE (C_sbStr_K (U := WM cy ba ra hf hq kn th sm) (E := E) (b := q_1) (v := v9_8) (m := (sb_cap ((0 + KSN.getD 3 0) + KSN.getD 1 0) (sb_cap (0 + KSN.getD 3 0) 16))) (n := ((0 + KSN.getD 3 0) + KSN.getD 1 0)) (g := g9_9) (ml := (nI 0)) (i := 4) hX (by omega) (by omega) f_10 (by first | assumption | decide)) pk_J4_append_15ec4 qm_X4_156 ((WM cy ba ra hf hq kn th sm).length + 0) 1 rfl rfl (us_g rfl) rfl rfl (Nat.le_of_ble_eq_true rfl) dX4_textNow_91 ⟨Nat.le_of_ble_eq_true rfl, Nat.le_of_ble_eq_true rfl⟩ ⟨by first | (simp only [rmk, rmz]; omega) | (simp only [rmk, rmz]; done) | omega, by first | (simp only [rmk, rmz]; omega) | (simp only [rmk, rmz]; done) | omega⟩ (fun v9 w9 h9 => ?_) (fun _ h9 => h9.elim)
    obtain ⟨v9_11, g9_12, f_13, rfl, rfl⟩ := h9
    refine c_V (st := []) hX.stb C hE (C_toString (U := WM cy ba ra hf hq kn th sm) (E := E) (b := q_1) (v := v9_11) (m := (sb_cap (((0 + KSN.getD 3 0) + KSN.getD 1 0) + KSN.getD 4 0) (sb_cap ((0 + KSN.getD 3 0) + KSN.getD 1 0) (sb_cap (0 + KSN.getD 3 0) 16)))) (n := (((0 + KSN.getD 3 0) + KSN.getD 1 0) + KSN.getD 4 0)) (g := g9_12) (ml := (nI 0)) hX (by omega) (by omega) f_13) pk_J4_toString_0e30d qm_X4_171 ((WM cy ba ra hf hq kn th sm).length + 0) 1 rfl rfl (us_g rfl) rfl rfl (Nat.le_of_ble_eq_true rfl) dX4_textNow_94 ⟨Nat.le_of_ble_eq_true rfl, Nat.le_of_ble_eq_true rfl⟩ ⟨by first | (simp only [rmk, rmz]; omega) | (simp only [rmk, rmz]; done) | omega, by first | (simp only [rmk, rmz]; omega) | (simp only [rmk, rmz]; done) | omega⟩ (fun v9 w9 h9 => ?_) (fun _ h9 => h9.elim)
    obtain ⟨a9_14, v9_15, g9_16, f_17, rfl, rfl⟩ := h9
    refine t_perm [STO a9_14 v9_15 (nI 0) (nI 0), BYO cy v9_15 (((0 + KSN.getD 3 0) + KSN.getD 1 0) + KSN.getD 4 0) g9_16, SBO q_1 v9_11 (nI 0) (((0 + KSN.getD 3 0) + KSN.getD 1 0) + KSN.getD 4 0), BYO cy v9_11 (sb_cap (((0 + KSN.getD 3 0) + KSN.getD 1 0) + KSN.getD 4 0) (sb_cap ((0 + KSN.getD 3 0) + KSN.getD 1 0) (sb_cap (0 + KSN.getD 3 0) 16))) g9_12] [STO a9_14 v9_15 (nI 0) (nI 0), BYO cy v9_15 (((0 + KSN.getD 3 0) + KSN.getD 1 0) + KSN.getD 4 0) g9_16] [0, 1] rfl (by decide) rfl (w' := WM cy ba ra hf hq kn th sm ++ (STO a9_14 v9_15 (nI 0) (nI 0) :: BYO cy v9_15 (((0 + KSN.getD 3 0) + KSN.getD 1 0) + KSN.getD 4 0) g9_16 :: E)) rfl ?_
    refine r_w (w' := WM cy ba ra hf hq kn th sm ++ (STO a9_14 v9_15 (nI 0) (nI 0) :: BYO cy v9_15 (tlx (hq i) (hf 4 i) + 1) g9_16 :: E)) (by rw [hlen]) ?_
    exact r_aret C hr (Or.inl ⟨_, rfl⟩) dX4_textNow_97 ⟨a9_14, v9_15, _, _, g9_16, (by have h7 := f_17; rw [hlen] at h7; exact tx_ends0 hz h7), rfl, rfl⟩ (by first | (simp only [rmk, rmz]; omega) | (simp only [rmk, rmz]; done) | omega) (by first | (simp only [rmk, rmz]; omega) | (simp only [rmk, rmz]; done) | omega)
  have W73 : ∀ (a2 v2 L2 : Nat) (h2 z2 : Int32) (g2 : Nat → Int32), 0 < L2 → L2 = tjx (hq i) (hf 4 i) → TXT g2 L2 (jln gO gT (hq i) (hf 4 i)) → vC p l e (rmk 6 100 2200 350) s m args below meth c D A (vx_MQ below (vG (fun v1 w1 => ∃ (a9 v9 : Nat) (h9 z9 : Int32) (g9 : Nat → Int32), TXT g9 (tlx (hq i) (hf 4 i) + 1) (txl gO gT (hq i) (hf 4 i)) ∧ v1 = some (.ref a9) ∧ w1 = WM cy ba ra hf hq kn th sm ++ (STO a9 v9 h9 z9 :: BYO cy v9 (tlx (hq i) (hf 4 i) + 1) g9 :: E)) D vwCl A) (vGX (fun _ => False) D vwCl (WM cy ba ra hf hq kn th sm ++ E) A) args s (rmk 6 100 2200 350).cells (rmk 6 100 2200 350).slots A) 7 90 1852 (WM cy ba ra hf hq kn th sm ++ (STO a2 v2 h2 z2 :: BYO cy v2 L2 g2 :: E)) [some (.ref (ba 9)), some (.int (nI i)), some (.ref a2), some (.ref (ra i)), some (.int (nI (hf 4 i))), none, none] 73 [] := by
    intro a2 v2 L2 h2 z2 g2 hL0 hL hg2
    have htl := tlx_one (hq i) (hf 4 i)
    have hb5 := tjx_le (hq i) (hf 4 i)
    have hlen : 0 + KSN.getD 3 0 + L2 + KSN.getD 4 0 = tlx (hq i) (hf 4 i) + 1 := by rw [hL]; unfold tjx; omega
    have hc1 := sb_capb (0 + KSN.getD 3 0) 16
    have hc2 := sb_capb (0 + KSN.getD 3 0 + L2) (sb_cap (0 + KSN.getD 3 0) 16)
    have hc3 := sb_capb (0 + KSN.getD 3 0 + L2 + KSN.getD 4 0) (sb_cap (0 + KSN.getD 3 0 + L2) (sb_cap (0 + KSN.getD 3 0) 16))
    have hgg1 := gC_le (0 + KSN.getD 3 0) 16
    have hgg2 := gC_le (0 + KSN.getD 3 0 + L2) (sb_cap (0 + KSN.getD 3 0) 16)
    have hgg3 := gC_le (0 + KSN.getD 3 0 + L2 + KSN.getD 4 0) (sb_cap (0 + KSN.getD 3 0 + L2) (sb_cap (0 + KSN.getD 3 0) 16))
    refine r_new (fs := [.null, .int (nI 0), .int (nI 0), .int (nI 0)]) C qu_J4 tyJ4 tyJ4_ok qk_X4_153 qo_J4 qz_J4 (ci := 1) rfl fs0_J4 (by first | (simp only [rmk, rmz]; omega) | (simp only [rmk, rmz]; done) | omega) (by first | (simp only [rmk, rmz]; omega) | (simp only [rmk, rmz]; done) | omega) dX4_textNow_73 (fun q_18 => ?_)
    refine t_front ?_
    refine r_dup C dX4_textNow_76 rfl ?_
    refine c_I (st := [.ref q_18]) hX.stb C hE (C_sbInit (U := WM cy ba ra hf hq kn th sm) (E := (STO a2 v2 h2 z2 :: BYO cy v2 L2 g2 :: E)) (b := q_18) hX ) pk_J4_init_da8c8 qm_X4_155 rfl rfl (Nat.le_of_ble_eq_true rfl) dX4_textNow_77 ⟨Nat.le_of_ble_eq_true rfl, Nat.le_of_ble_eq_true rfl⟩ ⟨by first | (simp only [rmk, rmz]; omega) | (simp only [rmk, rmz]; done) | omega, by first | (simp only [rmk, rmz]; omega) | (simp only [rmk, rmz]; done) | omega⟩ (fun v9 w9 h9 => ?_) (fun _ h9 => h9.elim)
    obtain ⟨v9_19, g9_20, f_21, rfl, rfl⟩ := h9
    refine j_ldcS hX C hE (i := 3) rfl dX4_textNow_80 ?_
    refine c_V (st := []) hX.stb C hE (C_sbStr_K (U := WM cy ba ra hf hq kn th sm) (E := (STO a2 v2 h2 z2 :: BYO cy v2 L2 g2 :: E)) (b := q_18) (v := v9_19) (m := 16) (n := 0) (g := g9_20) (ml := (nI 0)) (i := 3) hX (by omega) (by omega) (TXT.nil f_21) (by first | assumption | decide)) pk_J4_append_15ec4 qm_X4_156 ((WM cy ba ra hf hq kn th sm).length + 0) 1 rfl rfl (us_g rfl) rfl rfl (Nat.le_of_ble_eq_true rfl) dX4_textNow_82 ⟨Nat.le_of_ble_eq_true rfl, Nat.le_of_ble_eq_true rfl⟩ ⟨by first | (simp only [rmk, rmz]; omega) | (simp only [rmk, rmz]; done) | omega, by first | (simp only [rmk, rmz]; omega) | (simp only [rmk, rmz]; done) | omega⟩ (fun v9 w9 h9 => ?_) (fun _ h9 => h9.elim)
    obtain ⟨v9_22, g9_23, f_24, rfl, rfl⟩ := h9
    refine r_aload_n C dX4_textNow_85 rfl ?_
    refine c_V (st := []) hX.stb C hE (C_sbStr_W (U := WM cy ba ra hf hq kn th sm) (E := E) (b := q_18) (v := v9_22) (m := (sb_cap (0 + KSN.getD 3 0) 16)) (n := (0 + KSN.getD 3 0)) (g := g9_23) (ml := (nI 0)) (a := a2) (va := v2) (h := h2) (z := z2) (k := L2) (gs := g2) hX (by omega) (by omega) f_24 (by omega) hg2) pk_J4_append_15ec4 qm_X4_156 ((WM cy ba ra hf hq kn th sm).length + 0) 1 rfl rfl (us_g rfl) rfl rfl (Nat.le_of_ble_eq_true rfl) dX4_textNow_86 ⟨Nat.le_of_ble_eq_true rfl, Nat.le_of_ble_eq_true rfl⟩ ⟨by first | (simp only [rmk, rmz]; omega) | (simp only [rmk, rmz]; done) | omega, by first | (simp only [rmk, rmz]; omega) | (simp only [rmk, rmz]; done) | omega⟩ (fun v9 w9 h9 => ?_) (fun _ h9 => h9.elim)
    obtain ⟨v9_25, g9_26, f_27, rfl, rfl⟩ := h9
    refine j_ldcS hX C hE (i := 4) rfl dX4_textNow_89 ?_
    refine c_V (st := []) hX.stb C hE (C_sbStr_K (U := WM cy ba ra hf hq kn th sm) (E := (STO a2 v2 h2 z2 :: BYO cy v2 L2 g2 :: E)) (b := q_18) (v := v9_25) (m := (sb_cap ((0 + KSN.getD 3 0) + L2) (sb_cap (0 + KSN.getD 3 0) 16))) (n := ((0 + KSN.getD 3 0) + L2)) (g := g9_26) (ml := (nI 0)) (i := 4) hX (by omega) (by omega) f_27 (by first | assumption | decide)) pk_J4_append_15ec4 qm_X4_156 ((WM cy ba ra hf hq kn th sm).length + 0) 1 rfl rfl (us_g rfl) rfl rfl (Nat.le_of_ble_eq_true rfl) dX4_textNow_91 ⟨Nat.le_of_ble_eq_true rfl, Nat.le_of_ble_eq_true rfl⟩ ⟨by first | (simp only [rmk, rmz]; omega) | (simp only [rmk, rmz]; done) | omega, by first | (simp only [rmk, rmz]; omega) | (simp only [rmk, rmz]; done) | omega⟩ (fun v9 w9 h9 => ?_) (fun _ h9 => h9.elim)
    obtain ⟨v9_28, g9_29, f_30, rfl, rfl⟩ := h9
    refine c_V (st := []) hX.stb C hE (C_toString (U := WM cy ba ra hf hq kn th sm) (E := (STO a2 v2 h2 z2 :: BYO cy v2 L2 g2 :: E)) (b := q_18) (v := v9_28) (m := (sb_cap (((0 + KSN.getD 3 0) + L2) + KSN.getD 4 0) (sb_cap ((0 + KSN.getD 3 0) + L2) (sb_cap (0 + KSN.getD 3 0) 16)))) (n := (((0 + KSN.getD 3 0) + L2) + KSN.getD 4 0)) (g := g9_29) (ml := (nI 0)) hX (by omega) (by omega) f_30) pk_J4_toString_0e30d qm_X4_171 ((WM cy ba ra hf hq kn th sm).length + 0) 1 rfl rfl (us_g rfl) rfl rfl (Nat.le_of_ble_eq_true rfl) dX4_textNow_94 ⟨Nat.le_of_ble_eq_true rfl, Nat.le_of_ble_eq_true rfl⟩ ⟨by first | (simp only [rmk, rmz]; omega) | (simp only [rmk, rmz]; done) | omega, by first | (simp only [rmk, rmz]; omega) | (simp only [rmk, rmz]; done) | omega⟩ (fun v9 w9 h9 => ?_) (fun _ h9 => h9.elim)
    obtain ⟨a9_31, v9_32, g9_33, f_34, rfl, rfl⟩ := h9
    refine t_perm [STO a9_31 v9_32 (nI 0) (nI 0), BYO cy v9_32 (((0 + KSN.getD 3 0) + L2) + KSN.getD 4 0) g9_33, SBO q_18 v9_28 (nI 0) (((0 + KSN.getD 3 0) + L2) + KSN.getD 4 0), BYO cy v9_28 (sb_cap (((0 + KSN.getD 3 0) + L2) + KSN.getD 4 0) (sb_cap ((0 + KSN.getD 3 0) + L2) (sb_cap (0 + KSN.getD 3 0) 16))) g9_29, STO a2 v2 h2 z2, BYO cy v2 L2 g2] [STO a9_31 v9_32 (nI 0) (nI 0), BYO cy v9_32 (((0 + KSN.getD 3 0) + L2) + KSN.getD 4 0) g9_33] [0, 1] rfl (by decide) rfl (w' := WM cy ba ra hf hq kn th sm ++ (STO a9_31 v9_32 (nI 0) (nI 0) :: BYO cy v9_32 (((0 + KSN.getD 3 0) + L2) + KSN.getD 4 0) g9_33 :: E)) rfl ?_
    refine r_w (w' := WM cy ba ra hf hq kn th sm ++ (STO a9_31 v9_32 (nI 0) (nI 0) :: BYO cy v9_32 (tlx (hq i) (hf 4 i) + 1) g9_33 :: E)) (by rw [hlen]) ?_
    exact r_aret C hr (Or.inl ⟨_, rfl⟩) dX4_textNow_97 ⟨a9_31, v9_32, _, _, g9_33, (by have h7 := f_34; rw [hlen] at h7; exact tx_ends h7), rfl, rfl⟩ (by first | (simp only [rmk, rmz]; omega) | (simp only [rmk, rmz]; done) | omega) (by first | (simp only [rmk, rmz]; omega) | (simp only [rmk, rmz]; done) | omega)
  have L17 : ∀ (d k a2 v2 L2 : Nat) (h2 z2 : Int32) (g2 : Nat → Int32), k + d = hf 4 i → 0 < k → 0 < L2 → L2 = tjx (hq i) k → TXT g2 L2 (jln gO gT (hq i) k) → vC p l e (rmk 6 100 2200 350) s m args below meth c D A (vx_MQ below (vG (fun v1 w1 => ∃ (a9 v9 : Nat) (h9 z9 : Int32) (g9 : Nat → Int32), TXT g9 (tlx (hq i) (hf 4 i) + 1) (txl gO gT (hq i) (hf 4 i)) ∧ v1 = some (.ref a9) ∧ w1 = WM cy ba ra hf hq kn th sm ++ (STO a9 v9 h9 z9 :: BYO cy v9 (tlx (hq i) (hf 4 i) + 1) g9 :: E)) D vwCl A) (vGX (fun _ => False) D vwCl (WM cy ba ra hf hq kn th sm ++ E) A) args s (rmk 6 100 2200 350).cells (rmk 6 100 2200 350).slots A) 7 (7 * k) (txS k) (WM cy ba ra hf hq kn th sm ++ (STO a2 v2 h2 z2 :: BYO cy v2 L2 g2 :: E)) [some (.ref (ba 9)), some (.int (nI i)), some (.ref a2), some (.ref (ra i)), some (.int (nI (hf 4 i))), some (.int (nI k)), none] 17 [] := by
    intro d
    induction d with
    | zero =>
      intro k a2 v2 L2 h2 z2 g2 hkd hk0 hL0 hL hg2
      have hb5 := tjx_le2 (hq i) hk0
      have htS := txS_12 (k := k) (by omega)
      refine r_iload C dX4_textNow_17 rfl ?_
      refine r_iload C dX4_textNow_19 rfl ?_
      refine r_icN_ge (a := k) (b := (hf 4 i)) (tgt := 73) C (by first | omega | (simp [up2, *]; done) | (simp [up2, *]; omega) | (simp only [up2_eq]; omega) | (split <;> omega)) (by first | omega | (simp [up2, *]; done) | (simp [up2, *]; omega) | (simp only [up2_eq]; omega) | (split <;> omega)) dX4_textNow_21 (by decide) (fun h21_35 => ?_) (fun h21_35 => ?_)
      · first
        | exfalso; first | omega | contradiction
        | skip
          have hkf : k = hf 4 i := by omega
          skip
          refine r_widen (k := 90) (n := 1852) (by first | (simp only [rmk, rmz]; omega) | (simp only [rmk, rmz]; done) | omega) (by first | (simp only [rmk, rmz]; omega) | (simp only [rmk, rmz]; done) | omega) ?_
          refine r_drop 5 ?_
          exact W73 a2 v2 L2 h2 z2 g2 hL0 (by rw [hL, hkf]) (hkf ▸ hg2)
      · first
        | exfalso; first | omega | contradiction
        | skip
          have hz3 := sz9_le (hq i k)
          have hzp := sz9_pos (hq i k)
          have hcs := tx_cost (a := 0 + L2) (b := 0 + L2 + KSN.getD 2 0) (c := 0 + L2 + KSN.getD 2 0 + sz9 (hq i k)) (by omega) (by omega) (by omega) (by omega) (by omega)
          have hr9 : (if 0 + L2 ≤ 28 then 34 else 161) ≤ 161 := by split <;> omega
          have hgc1 := gC_le (0 + L2) 16
          have hgc2 := gC_le (0 + L2 + KSN.getD 2 0) (sb_cap (0 + L2) 16)
          have hgc3 := gC_le (0 + L2 + KSN.getD 2 0 + sz9 (hq i k)) (sb_cap (0 + L2 + KSN.getD 2 0) (sb_cap (0 + L2) 16))
          refine r_aload_n C dX4_textNow_24 rfl ?_
          refine r_iload C dX4_textNow_25 rfl ?_
          refine m_rld (i := i) (n := k) C (by first | omega | (simp [up2, *]; done) | (simp [up2, *]; omega) | (simp only [up2_eq]; omega) | (split <;> omega)) (by first | omega | (simp [up2, *]; done) | (simp [up2, *]; omega) | (simp only [up2_eq]; omega) | (split <;> omega)) (by first | omega | (simp [up2, *]; done) | (simp [up2, *]; omega) | (simp only [up2_eq]; omega) | (split <;> omega)) dX4_textNow_27 ?_
          refine r_istore C dX4_textNow_28 (by decide) rfl ?_
          refine r_new (fs := [.null, .int (nI 0), .int (nI 0), .int (nI 0)]) C qu_J4 tyJ4 tyJ4_ok qk_X4_153 qo_J4 qz_J4 (ci := 1) rfl fs0_J4 (by first | (simp only [rmk, rmz]; omega) | (simp only [rmk, rmz]; done) | omega) (by first | (simp only [rmk, rmz]; omega) | (simp only [rmk, rmz]; done) | omega) dX4_textNow_30 (fun q_36 => ?_)
          refine t_front ?_
          refine r_dup C dX4_textNow_33 rfl ?_
          refine c_I (st := [.ref q_36]) hX.stb C hE (C_sbInit (U := WM cy ba ra hf hq kn th sm) (E := (STO a2 v2 h2 z2 :: BYO cy v2 L2 g2 :: E)) (b := q_36) hX ) pk_J4_init_da8c8 qm_X4_155 rfl rfl (Nat.le_of_ble_eq_true rfl) dX4_textNow_34 ⟨Nat.le_of_ble_eq_true rfl, Nat.le_of_ble_eq_true rfl⟩ ⟨by first | (simp only [rmk, rmz]; omega) | (simp only [rmk, rmz]; done) | omega, by first | (simp only [rmk, rmz]; omega) | (simp only [rmk, rmz]; done) | omega⟩ (fun v9 w9 h9 => ?_) (fun _ h9 => h9.elim)
          obtain ⟨v9_37, g9_38, f_39, rfl, rfl⟩ := h9
          refine r_aload_n C dX4_textNow_37 rfl ?_
          refine c_V (st := []) hX.stb C hE (C_sbStr_W (U := WM cy ba ra hf hq kn th sm) (E := E) (b := q_36) (v := v9_37) (m := 16) (n := 0) (g := g9_38) (ml := (nI 0)) (a := a2) (va := v2) (h := h2) (z := z2) (k := L2) (gs := g2) hX (by omega) (by omega) (TXT.nil f_39) (by omega) hg2) pk_J4_append_15ec4 qm_X4_156 ((WM cy ba ra hf hq kn th sm).length + 0) 1 rfl rfl (us_g rfl) rfl rfl (Nat.le_of_ble_eq_true rfl) dX4_textNow_38 ⟨Nat.le_of_ble_eq_true rfl, Nat.le_of_ble_eq_true rfl⟩ ⟨by first | (simp only [rmk, rmz]; omega) | (simp only [rmk, rmz]; done) | omega, by first | (simp only [rmk, rmz]; omega) | (simp only [rmk, rmz]; done) | omega⟩ (fun v9 w9 h9 => ?_) (fun _ h9 => h9.elim)
          obtain ⟨v9_40, g9_41, f_42, rfl, rfl⟩ := h9
          refine r_aload_n C dX4_textNow_41 rfl ?_
          refine t_perm [SBO q_36 v9_40 (nI 0) (0 + L2), BYO cy v9_40 (sb_cap (0 + L2) 16) g9_41, STO a2 v2 h2 z2, BYO cy v2 L2 g2] [STO a2 v2 h2 z2, BYO cy v2 L2 g2, SBO q_36 v9_40 (nI 0) (0 + L2), BYO cy v9_40 (sb_cap (0 + L2) 16) g9_41] [2, 3, 0, 1] rfl (by decide) rfl (w' := WM cy ba ra hf hq kn th sm ++ (STO a2 v2 h2 z2 :: BYO cy v2 L2 g2 :: SBO q_36 v9_40 (nI 0) (0 + L2) :: BYO cy v9_40 (sb_cap (0 + L2) 16) g9_41 :: E)) rfl ?_
          refine c_V (st := [.ref q_36]) hX.stb C hE (C_empty_W (U := WM cy ba ra hf hq kn th sm) (E := (SBO q_36 v9_40 (nI 0) (0 + L2) :: BYO cy v9_40 (sb_cap (0 + L2) 16) g9_41 :: E)) (a := a2) (va := v2) (h := h2) (z := z2) (k := L2) (gs := g2) hX (by first | assumption | omega | rfl) (by omega)) pk_J0_isEmpty_aae02 qm_X4_160 ((WM cy ba ra hf hq kn th sm).length + 0) 0 rfl rfl (us_g rfl) rfl rfl (Nat.le_of_ble_eq_true rfl) dX4_textNow_42 ⟨Nat.le_of_ble_eq_true rfl, Nat.le_of_ble_eq_true rfl⟩ ⟨by first | (simp only [rmk, rmz]; omega) | (simp only [rmk, rmz]; done) | omega, by first | (simp only [rmk, rmz]; omega) | (simp only [rmk, rmz]; done) | omega⟩ (fun v9 w9 h9 => ?_) (fun _ h9 => h9.elim)
          obtain ⟨rfl, rfl⟩ := h9
          refine r_ifN_eq (a := 0) (tgt := 53) C (by first | omega | (simp [up2, *]; done) | (simp [up2, *]; omega) | (simp only [up2_eq]; omega) | (split <;> omega)) dX4_textNow_45 (by decide) (fun h45_43 => ?_) (fun h45_43 => ?_)
          · skip
            refine j_ldcS hX C hE (i := 2) rfl dX4_textNow_53 ?_
            refine t_perm [STO a2 v2 h2 z2, BYO cy v2 L2 g2, SBO q_36 v9_40 (nI 0) (0 + L2), BYO cy v9_40 (sb_cap (0 + L2) 16) g9_41] [SBO q_36 v9_40 (nI 0) (0 + L2), BYO cy v9_40 (sb_cap (0 + L2) 16) g9_41, STO a2 v2 h2 z2, BYO cy v2 L2 g2] [2, 3, 0, 1] rfl (by decide) rfl (w' := WM cy ba ra hf hq kn th sm ++ (SBO q_36 v9_40 (nI 0) (0 + L2) :: BYO cy v9_40 (sb_cap (0 + L2) 16) g9_41 :: STO a2 v2 h2 z2 :: BYO cy v2 L2 g2 :: E)) rfl ?_
            refine c_V (st := []) hX.stb C hE (C_sbStr_K (U := WM cy ba ra hf hq kn th sm) (E := (STO a2 v2 h2 z2 :: BYO cy v2 L2 g2 :: E)) (b := q_36) (v := v9_40) (m := (sb_cap (0 + L2) 16)) (n := (0 + L2)) (g := g9_41) (ml := (nI 0)) (i := 2) hX (by omega) (by omega) f_42 (by first | assumption | decide)) pk_J4_append_15ec4 qm_X4_156 ((WM cy ba ra hf hq kn th sm).length + 0) 1 rfl rfl (us_g rfl) rfl rfl (Nat.le_of_ble_eq_true rfl) dX4_textNow_55 ⟨Nat.le_of_ble_eq_true rfl, Nat.le_of_ble_eq_true rfl⟩ ⟨by first | (simp only [rmk, rmz]; omega) | (simp only [rmk, rmz]; done) | omega, by first | (simp only [rmk, rmz]; omega) | (simp only [rmk, rmz]; done) | omega⟩ (fun v9 w9 h9 => ?_) (fun _ h9 => h9.elim)
            obtain ⟨v9_44, g9_45, f_46, rfl, rfl⟩ := h9
            refine r_iload C dX4_textNow_58 rfl ?_
            refine c_V (st := []) hX.stb C hE (C_sbInt (U := WM cy ba ra hf hq kn th sm) (E := (STO a2 v2 h2 z2 :: BYO cy v2 L2 g2 :: E)) (b := q_36) (v := v9_44) (m := (sb_cap ((0 + L2) + KSN.getD 2 0) (sb_cap (0 + L2) 16))) (n := ((0 + L2) + KSN.getD 2 0)) (g := g9_45) (ml := (nI 0)) (x := (hq i k)) hX (by omega) (by omega) f_46 (hR k (by omega))) pk_J4_append_bf812 qm_X4_168 ((WM cy ba ra hf hq kn th sm).length + 0) 1 rfl rfl (us_g rfl) rfl rfl (Nat.le_of_ble_eq_true rfl) dX4_textNow_60 ⟨Nat.le_of_ble_eq_true rfl, Nat.le_of_ble_eq_true rfl⟩ ⟨by first | (simp only [rmk, rmz]; omega) | (simp only [rmk, rmz]; done) | omega, by first | (simp only [rmk, rmz]; omega) | (simp only [rmk, rmz]; done) | omega⟩ (fun v9 w9 h9 => ?_) (fun _ h9 => h9.elim)
            obtain ⟨v9_47, g9_48, f_49, rfl, rfl⟩ := h9
            refine c_V (st := []) hX.stb C hE (C_toString (U := WM cy ba ra hf hq kn th sm) (E := (STO a2 v2 h2 z2 :: BYO cy v2 L2 g2 :: E)) (b := q_36) (v := v9_47) (m := (sb_cap (((0 + L2) + KSN.getD 2 0) + sz9 (hq i k)) (sb_cap ((0 + L2) + KSN.getD 2 0) (sb_cap (0 + L2) 16)))) (n := (((0 + L2) + KSN.getD 2 0) + sz9 (hq i k))) (g := g9_48) (ml := (nI 0)) hX (by omega) (by omega) f_49) pk_J4_toString_0e30d qm_X4_171 ((WM cy ba ra hf hq kn th sm).length + 0) 1 rfl rfl (us_g rfl) rfl rfl (Nat.le_of_ble_eq_true rfl) dX4_textNow_63 ⟨Nat.le_of_ble_eq_true rfl, Nat.le_of_ble_eq_true rfl⟩ ⟨by first | (simp only [rmk, rmz]; omega) | (simp only [rmk, rmz]; done) | omega, by first | (simp only [rmk, rmz]; omega) | (simp only [rmk, rmz]; done) | omega⟩ (fun v9 w9 h9 => ?_) (fun _ h9 => h9.elim)
            obtain ⟨a9_50, v9_51, g9_52, f_53, rfl, rfl⟩ := h9
            refine r_astore_n C dX4_textNow_66 (by decide) rfl ?_
            refine r_iincN C dX4_textNow_67 rfl (by decide) rfl ?_
            refine r_goto (tgt := 17) C dX4_textNow_70 (by decide) ?_
            refine t_perm [STO a9_50 v9_51 (nI 0) (nI 0), BYO cy v9_51 (((0 + L2) + KSN.getD 2 0) + sz9 (hq i k)) g9_52, SBO q_36 v9_47 (nI 0) (((0 + L2) + KSN.getD 2 0) + sz9 (hq i k)), BYO cy v9_47 (sb_cap (((0 + L2) + KSN.getD 2 0) + sz9 (hq i k)) (sb_cap ((0 + L2) + KSN.getD 2 0) (sb_cap (0 + L2) 16))) g9_48, STO a2 v2 h2 z2, BYO cy v2 L2 g2] [STO a9_50 v9_51 (nI 0) (nI 0), BYO cy v9_51 (((0 + L2) + KSN.getD 2 0) + sz9 (hq i k)) g9_52] [0, 1] rfl (by decide) rfl (w' := WM cy ba ra hf hq kn th sm ++ (STO a9_50 v9_51 (nI 0) (nI 0) :: BYO cy v9_51 (((0 + L2) + KSN.getD 2 0) + sz9 (hq i k)) g9_52 :: E)) rfl ?_
            have hLn : ((0 + L2) + KSN.getD 2 0) + sz9 (hq i k) = tjx (hq i) (k + 1) := by rw [tjx_up _ (by omega)]; omega
            refine r_widen (k := 7 * (k + 1)) (n := txS (k + 1)) (by first | (simp only [rmk, rmz]; omega) | (simp only [rmk, rmz]; done) | omega) (by have h8 := txS_up (k := k) (L := 0 + L2) (c := ((0 + L2) + KSN.getD 2 0) + sz9 (hq i k)) (by omega) (by omega) (by omega); simp only [rmk, rmz]; omega) ?_
            refine r_drop 6 ?_
            exfalso
            omega
          · exact absurd h45_43 (by first | omega | (simp [up2, *]; done) | (simp [up2, *]; omega) | (simp only [up2_eq]; omega) | (split <;> omega))
    | succ d ih =>
      intro k a2 v2 L2 h2 z2 g2 hkd hk0 hL0 hL hg2
      have hb5 := tjx_le2 (hq i) hk0
      have htS := txS_12 (k := k) (by omega)
      refine r_iload C dX4_textNow_17 rfl ?_
      refine r_iload C dX4_textNow_19 rfl ?_
      refine r_icN_ge (a := k) (b := (hf 4 i)) (tgt := 73) C (by first | omega | (simp [up2, *]; done) | (simp [up2, *]; omega) | (simp only [up2_eq]; omega) | (split <;> omega)) (by first | omega | (simp [up2, *]; done) | (simp [up2, *]; omega) | (simp only [up2_eq]; omega) | (split <;> omega)) dX4_textNow_21 (by decide) (fun h21_54 => ?_) (fun h21_54 => ?_)
      · first
        | exfalso; first | omega | contradiction
        | skip
          have hkf : k = hf 4 i := by omega
          skip
          refine r_widen (k := 90) (n := 1852) (by first | (simp only [rmk, rmz]; omega) | (simp only [rmk, rmz]; done) | omega) (by first | (simp only [rmk, rmz]; omega) | (simp only [rmk, rmz]; done) | omega) ?_
          refine r_drop 5 ?_
          exact W73 a2 v2 L2 h2 z2 g2 hL0 (by rw [hL, hkf]) (hkf ▸ hg2)
      · first
        | exfalso; first | omega | contradiction
        | skip
          have hz3 := sz9_le (hq i k)
          have hzp := sz9_pos (hq i k)
          have hcs := tx_cost (a := 0 + L2) (b := 0 + L2 + KSN.getD 2 0) (c := 0 + L2 + KSN.getD 2 0 + sz9 (hq i k)) (by omega) (by omega) (by omega) (by omega) (by omega)
          have hr9 : (if 0 + L2 ≤ 28 then 34 else 161) ≤ 161 := by split <;> omega
          have hgc1 := gC_le (0 + L2) 16
          have hgc2 := gC_le (0 + L2 + KSN.getD 2 0) (sb_cap (0 + L2) 16)
          have hgc3 := gC_le (0 + L2 + KSN.getD 2 0 + sz9 (hq i k)) (sb_cap (0 + L2 + KSN.getD 2 0) (sb_cap (0 + L2) 16))
          refine r_aload_n C dX4_textNow_24 rfl ?_
          refine r_iload C dX4_textNow_25 rfl ?_
          refine m_rld (i := i) (n := k) C (by first | omega | (simp [up2, *]; done) | (simp [up2, *]; omega) | (simp only [up2_eq]; omega) | (split <;> omega)) (by first | omega | (simp [up2, *]; done) | (simp [up2, *]; omega) | (simp only [up2_eq]; omega) | (split <;> omega)) (by first | omega | (simp [up2, *]; done) | (simp [up2, *]; omega) | (simp only [up2_eq]; omega) | (split <;> omega)) dX4_textNow_27 ?_
          refine r_istore C dX4_textNow_28 (by decide) rfl ?_
          refine r_new (fs := [.null, .int (nI 0), .int (nI 0), .int (nI 0)]) C qu_J4 tyJ4 tyJ4_ok qk_X4_153 qo_J4 qz_J4 (ci := 1) rfl fs0_J4 (by first | (simp only [rmk, rmz]; omega) | (simp only [rmk, rmz]; done) | omega) (by first | (simp only [rmk, rmz]; omega) | (simp only [rmk, rmz]; done) | omega) dX4_textNow_30 (fun q_55 => ?_)
          refine t_front ?_
          refine r_dup C dX4_textNow_33 rfl ?_
          refine c_I (st := [.ref q_55]) hX.stb C hE (C_sbInit (U := WM cy ba ra hf hq kn th sm) (E := (STO a2 v2 h2 z2 :: BYO cy v2 L2 g2 :: E)) (b := q_55) hX ) pk_J4_init_da8c8 qm_X4_155 rfl rfl (Nat.le_of_ble_eq_true rfl) dX4_textNow_34 ⟨Nat.le_of_ble_eq_true rfl, Nat.le_of_ble_eq_true rfl⟩ ⟨by first | (simp only [rmk, rmz]; omega) | (simp only [rmk, rmz]; done) | omega, by first | (simp only [rmk, rmz]; omega) | (simp only [rmk, rmz]; done) | omega⟩ (fun v9 w9 h9 => ?_) (fun _ h9 => h9.elim)
          obtain ⟨v9_56, g9_57, f_58, rfl, rfl⟩ := h9
          refine r_aload_n C dX4_textNow_37 rfl ?_
          refine c_V (st := []) hX.stb C hE (C_sbStr_W (U := WM cy ba ra hf hq kn th sm) (E := E) (b := q_55) (v := v9_56) (m := 16) (n := 0) (g := g9_57) (ml := (nI 0)) (a := a2) (va := v2) (h := h2) (z := z2) (k := L2) (gs := g2) hX (by omega) (by omega) (TXT.nil f_58) (by omega) hg2) pk_J4_append_15ec4 qm_X4_156 ((WM cy ba ra hf hq kn th sm).length + 0) 1 rfl rfl (us_g rfl) rfl rfl (Nat.le_of_ble_eq_true rfl) dX4_textNow_38 ⟨Nat.le_of_ble_eq_true rfl, Nat.le_of_ble_eq_true rfl⟩ ⟨by first | (simp only [rmk, rmz]; omega) | (simp only [rmk, rmz]; done) | omega, by first | (simp only [rmk, rmz]; omega) | (simp only [rmk, rmz]; done) | omega⟩ (fun v9 w9 h9 => ?_) (fun _ h9 => h9.elim)
          obtain ⟨v9_59, g9_60, f_61, rfl, rfl⟩ := h9
          refine r_aload_n C dX4_textNow_41 rfl ?_
          refine t_perm [SBO q_55 v9_59 (nI 0) (0 + L2), BYO cy v9_59 (sb_cap (0 + L2) 16) g9_60, STO a2 v2 h2 z2, BYO cy v2 L2 g2] [STO a2 v2 h2 z2, BYO cy v2 L2 g2, SBO q_55 v9_59 (nI 0) (0 + L2), BYO cy v9_59 (sb_cap (0 + L2) 16) g9_60] [2, 3, 0, 1] rfl (by decide) rfl (w' := WM cy ba ra hf hq kn th sm ++ (STO a2 v2 h2 z2 :: BYO cy v2 L2 g2 :: SBO q_55 v9_59 (nI 0) (0 + L2) :: BYO cy v9_59 (sb_cap (0 + L2) 16) g9_60 :: E)) rfl ?_
          refine c_V (st := [.ref q_55]) hX.stb C hE (C_empty_W (U := WM cy ba ra hf hq kn th sm) (E := (SBO q_55 v9_59 (nI 0) (0 + L2) :: BYO cy v9_59 (sb_cap (0 + L2) 16) g9_60 :: E)) (a := a2) (va := v2) (h := h2) (z := z2) (k := L2) (gs := g2) hX (by first | assumption | omega | rfl) (by omega)) pk_J0_isEmpty_aae02 qm_X4_160 ((WM cy ba ra hf hq kn th sm).length + 0) 0 rfl rfl (us_g rfl) rfl rfl (Nat.le_of_ble_eq_true rfl) dX4_textNow_42 ⟨Nat.le_of_ble_eq_true rfl, Nat.le_of_ble_eq_true rfl⟩ ⟨by first | (simp only [rmk, rmz]; omega) | (simp only [rmk, rmz]; done) | omega, by first | (simp only [rmk, rmz]; omega) | (simp only [rmk, rmz]; done) | omega⟩ (fun v9 w9 h9 => ?_) (fun _ h9 => h9.elim)
          obtain ⟨rfl, rfl⟩ := h9
          refine r_ifN_eq (a := 0) (tgt := 53) C (by first | omega | (simp [up2, *]; done) | (simp [up2, *]; omega) | (simp only [up2_eq]; omega) | (split <;> omega)) dX4_textNow_45 (by decide) (fun h45_62 => ?_) (fun h45_62 => ?_)
          · skip
            refine j_ldcS hX C hE (i := 2) rfl dX4_textNow_53 ?_
            refine t_perm [STO a2 v2 h2 z2, BYO cy v2 L2 g2, SBO q_55 v9_59 (nI 0) (0 + L2), BYO cy v9_59 (sb_cap (0 + L2) 16) g9_60] [SBO q_55 v9_59 (nI 0) (0 + L2), BYO cy v9_59 (sb_cap (0 + L2) 16) g9_60, STO a2 v2 h2 z2, BYO cy v2 L2 g2] [2, 3, 0, 1] rfl (by decide) rfl (w' := WM cy ba ra hf hq kn th sm ++ (SBO q_55 v9_59 (nI 0) (0 + L2) :: BYO cy v9_59 (sb_cap (0 + L2) 16) g9_60 :: STO a2 v2 h2 z2 :: BYO cy v2 L2 g2 :: E)) rfl ?_
            refine c_V (st := []) hX.stb C hE (C_sbStr_K (U := WM cy ba ra hf hq kn th sm) (E := (STO a2 v2 h2 z2 :: BYO cy v2 L2 g2 :: E)) (b := q_55) (v := v9_59) (m := (sb_cap (0 + L2) 16)) (n := (0 + L2)) (g := g9_60) (ml := (nI 0)) (i := 2) hX (by omega) (by omega) f_61 (by first | assumption | decide)) pk_J4_append_15ec4 qm_X4_156 ((WM cy ba ra hf hq kn th sm).length + 0) 1 rfl rfl (us_g rfl) rfl rfl (Nat.le_of_ble_eq_true rfl) dX4_textNow_55 ⟨Nat.le_of_ble_eq_true rfl, Nat.le_of_ble_eq_true rfl⟩ ⟨by first | (simp only [rmk, rmz]; omega) | (simp only [rmk, rmz]; done) | omega, by first | (simp only [rmk, rmz]; omega) | (simp only [rmk, rmz]; done) | omega⟩ (fun v9 w9 h9 => ?_) (fun _ h9 => h9.elim)
            obtain ⟨v9_63, g9_64, f_65, rfl, rfl⟩ := h9
            refine r_iload C dX4_textNow_58 rfl ?_
            refine c_V (st := []) hX.stb C hE (C_sbInt (U := WM cy ba ra hf hq kn th sm) (E := (STO a2 v2 h2 z2 :: BYO cy v2 L2 g2 :: E)) (b := q_55) (v := v9_63) (m := (sb_cap ((0 + L2) + KSN.getD 2 0) (sb_cap (0 + L2) 16))) (n := ((0 + L2) + KSN.getD 2 0)) (g := g9_64) (ml := (nI 0)) (x := (hq i k)) hX (by omega) (by omega) f_65 (hR k (by omega))) pk_J4_append_bf812 qm_X4_168 ((WM cy ba ra hf hq kn th sm).length + 0) 1 rfl rfl (us_g rfl) rfl rfl (Nat.le_of_ble_eq_true rfl) dX4_textNow_60 ⟨Nat.le_of_ble_eq_true rfl, Nat.le_of_ble_eq_true rfl⟩ ⟨by first | (simp only [rmk, rmz]; omega) | (simp only [rmk, rmz]; done) | omega, by first | (simp only [rmk, rmz]; omega) | (simp only [rmk, rmz]; done) | omega⟩ (fun v9 w9 h9 => ?_) (fun _ h9 => h9.elim)
            obtain ⟨v9_66, g9_67, f_68, rfl, rfl⟩ := h9
            refine c_V (st := []) hX.stb C hE (C_toString (U := WM cy ba ra hf hq kn th sm) (E := (STO a2 v2 h2 z2 :: BYO cy v2 L2 g2 :: E)) (b := q_55) (v := v9_66) (m := (sb_cap (((0 + L2) + KSN.getD 2 0) + sz9 (hq i k)) (sb_cap ((0 + L2) + KSN.getD 2 0) (sb_cap (0 + L2) 16)))) (n := (((0 + L2) + KSN.getD 2 0) + sz9 (hq i k))) (g := g9_67) (ml := (nI 0)) hX (by omega) (by omega) f_68) pk_J4_toString_0e30d qm_X4_171 ((WM cy ba ra hf hq kn th sm).length + 0) 1 rfl rfl (us_g rfl) rfl rfl (Nat.le_of_ble_eq_true rfl) dX4_textNow_63 ⟨Nat.le_of_ble_eq_true rfl, Nat.le_of_ble_eq_true rfl⟩ ⟨by first | (simp only [rmk, rmz]; omega) | (simp only [rmk, rmz]; done) | omega, by first | (simp only [rmk, rmz]; omega) | (simp only [rmk, rmz]; done) | omega⟩ (fun v9 w9 h9 => ?_) (fun _ h9 => h9.elim)
            obtain ⟨a9_69, v9_70, g9_71, f_72, rfl, rfl⟩ := h9
            refine r_astore_n C dX4_textNow_66 (by decide) rfl ?_
            refine r_iincN C dX4_textNow_67 rfl (by decide) rfl ?_
            refine r_goto (tgt := 17) C dX4_textNow_70 (by decide) ?_
            refine t_perm [STO a9_69 v9_70 (nI 0) (nI 0), BYO cy v9_70 (((0 + L2) + KSN.getD 2 0) + sz9 (hq i k)) g9_71, SBO q_55 v9_66 (nI 0) (((0 + L2) + KSN.getD 2 0) + sz9 (hq i k)), BYO cy v9_66 (sb_cap (((0 + L2) + KSN.getD 2 0) + sz9 (hq i k)) (sb_cap ((0 + L2) + KSN.getD 2 0) (sb_cap (0 + L2) 16))) g9_67, STO a2 v2 h2 z2, BYO cy v2 L2 g2] [STO a9_69 v9_70 (nI 0) (nI 0), BYO cy v9_70 (((0 + L2) + KSN.getD 2 0) + sz9 (hq i k)) g9_71] [0, 1] rfl (by decide) rfl (w' := WM cy ba ra hf hq kn th sm ++ (STO a9_69 v9_70 (nI 0) (nI 0) :: BYO cy v9_70 (((0 + L2) + KSN.getD 2 0) + sz9 (hq i k)) g9_71 :: E)) rfl ?_
            have hLn : ((0 + L2) + KSN.getD 2 0) + sz9 (hq i k) = tjx (hq i) (k + 1) := by rw [tjx_up _ (by omega)]; omega
            refine r_widen (k := 7 * (k + 1)) (n := txS (k + 1)) (by first | (simp only [rmk, rmz]; omega) | (simp only [rmk, rmz]; done) | omega) (by have h8 := txS_up (k := k) (L := 0 + L2) (c := ((0 + L2) + KSN.getD 2 0) + sz9 (hq i k)) (by omega) (by omega) (by omega); simp only [rmk, rmz]; omega) ?_
            refine r_drop 6 ?_
            exact ih (k + 1) a9_69 v9_70 (((0 + L2) + KSN.getD 2 0) + sz9 (hq i k)) _ _ g9_71 (by omega) (by omega) (by omega) hLn (jx_up hk0 f_72)
          · exact absurd h45_62 (by first | omega | (simp [up2, *]; done) | (simp [up2, *]; omega) | (simp only [up2_eq]; omega) | (split <;> omega))
  refine j_ldcS hX C hE (i := 1) rfl dX4_textNow_0 ?_
  refine r_astore_n C dX4_textNow_2 (by decide) rfl ?_
  refine r_aload_n C dX4_textNow_3 rfl ?_
  refine m_get (v := .ref (ba 0)) C 0 (by decide) qf_X4_15 rfl rfl dX4_textNow_4 ?_
  refine r_iload_n C dX4_textNow_7 rfl ?_
  refine m_rows (i := i) C (by first | omega | (simp [up2, *]; done) | (simp [up2, *]; omega) | (simp only [up2_eq]; omega) | (split <;> omega)) dX4_textNow_8 ?_
  refine r_astore_n C dX4_textNow_9 (by decide) rfl ?_
  refine r_aload_n C dX4_textNow_10 rfl ?_
  refine m_rlen (i := i) (v := hf 4 i) C (by first | omega | (simp [up2, *]; done) | (simp [up2, *]; omega) | (simp only [up2_eq]; omega) | (split <;> omega)) rfl dX4_textNow_11 ?_
  refine r_istore C dX4_textNow_12 (by decide) rfl ?_
  refine r_iconst (v := (nI 0)) C dX4_textNow_14 (by decide) ?_
  refine r_istore C dX4_textNow_15 (by decide) rfl ?_
  refine r_iload C dX4_textNow_17 rfl ?_
  refine r_iload C dX4_textNow_19 rfl ?_
  refine r_icN_ge (a := 0) (b := (hf 4 i)) (tgt := 73) C (by first | omega | (simp [up2, *]; done) | (simp [up2, *]; omega) | (simp only [up2_eq]; omega) | (split <;> omega)) (by first | omega | (simp [up2, *]; done) | (simp [up2, *]; omega) | (simp only [up2_eq]; omega) | (split <;> omega)) dX4_textNow_21 (by decide) (fun h21_73 => ?_) (fun h21_73 => ?_)
  · first
    | exfalso; first | omega | contradiction
    | skip
      refine r_widen (k := 90) (n := 1852) (by first | (simp only [rmk, rmz]; omega) | (simp only [rmk, rmz]; done) | omega) (by first | (simp only [rmk, rmz]; omega) | (simp only [rmk, rmz]; done) | omega) ?_
      refine r_drop 5 ?_
      exact K73 (by omega)
  · first
    | exfalso; first | omega | contradiction
    | skip
      have hz3 := sz9_le (hq i 0)
      have hzp := sz9_pos (hq i 0)
      have hcs := tx_cost (a := 0 + KSN.getD 1 0) (b := 0 + KSN.getD 1 0 + KSN.getD 1 0) (c := 0 + KSN.getD 1 0 + KSN.getD 1 0 + sz9 (hq i 0)) (by omega) (by omega) (by omega) (by omega) (by omega)
      have hr9 : (if 0 + KSN.getD 1 0 ≤ 28 then 34 else 161) ≤ 161 := by split <;> omega
      have hgc1 := gC_le (0 + KSN.getD 1 0) 16
      have hgc2 := gC_le (0 + KSN.getD 1 0 + KSN.getD 1 0) (sb_cap (0 + KSN.getD 1 0) 16)
      have hgc3 := gC_le (0 + KSN.getD 1 0 + KSN.getD 1 0 + sz9 (hq i 0)) (sb_cap (0 + KSN.getD 1 0 + KSN.getD 1 0) (sb_cap (0 + KSN.getD 1 0) 16))
      refine r_aload_n C dX4_textNow_24 rfl ?_
      refine r_iload C dX4_textNow_25 rfl ?_
      refine m_rld (i := i) (n := 0) C (by first | omega | (simp [up2, *]; done) | (simp [up2, *]; omega) | (simp only [up2_eq]; omega) | (split <;> omega)) (by first | omega | (simp [up2, *]; done) | (simp [up2, *]; omega) | (simp only [up2_eq]; omega) | (split <;> omega)) (by first | omega | (simp [up2, *]; done) | (simp [up2, *]; omega) | (simp only [up2_eq]; omega) | (split <;> omega)) dX4_textNow_27 ?_
      refine r_istore C dX4_textNow_28 (by decide) rfl ?_
      refine r_new (fs := [.null, .int (nI 0), .int (nI 0), .int (nI 0)]) C qu_J4 tyJ4 tyJ4_ok qk_X4_153 qo_J4 qz_J4 (ci := 1) rfl fs0_J4 (by first | (simp only [rmk, rmz]; omega) | (simp only [rmk, rmz]; done) | omega) (by first | (simp only [rmk, rmz]; omega) | (simp only [rmk, rmz]; done) | omega) dX4_textNow_30 (fun q_74 => ?_)
      refine t_front ?_
      refine r_dup C dX4_textNow_33 rfl ?_
      refine c_I (st := [.ref q_74]) hX.stb C hE (C_sbInit (U := WM cy ba ra hf hq kn th sm) (E := E) (b := q_74) hX ) pk_J4_init_da8c8 qm_X4_155 rfl rfl (Nat.le_of_ble_eq_true rfl) dX4_textNow_34 ⟨Nat.le_of_ble_eq_true rfl, Nat.le_of_ble_eq_true rfl⟩ ⟨by first | (simp only [rmk, rmz]; omega) | (simp only [rmk, rmz]; done) | omega, by first | (simp only [rmk, rmz]; omega) | (simp only [rmk, rmz]; done) | omega⟩ (fun v9 w9 h9 => ?_) (fun _ h9 => h9.elim)
      obtain ⟨v9_75, g9_76, f_77, rfl, rfl⟩ := h9
      refine r_aload_n C dX4_textNow_37 rfl ?_
      refine c_V (st := []) hX.stb C hE (C_sbStr_K (U := WM cy ba ra hf hq kn th sm) (E := E) (b := q_74) (v := v9_75) (m := 16) (n := 0) (g := g9_76) (ml := (nI 0)) (i := 1) hX (by omega) (by omega) (TXT.nil f_77) (by first | assumption | decide)) pk_J4_append_15ec4 qm_X4_156 ((WM cy ba ra hf hq kn th sm).length + 0) 1 rfl rfl (us_g rfl) rfl rfl (Nat.le_of_ble_eq_true rfl) dX4_textNow_38 ⟨Nat.le_of_ble_eq_true rfl, Nat.le_of_ble_eq_true rfl⟩ ⟨by first | (simp only [rmk, rmz]; omega) | (simp only [rmk, rmz]; done) | omega, by first | (simp only [rmk, rmz]; omega) | (simp only [rmk, rmz]; done) | omega⟩ (fun v9 w9 h9 => ?_) (fun _ h9 => h9.elim)
      obtain ⟨v9_78, g9_79, f_80, rfl, rfl⟩ := h9
      refine r_aload_n C dX4_textNow_41 rfl ?_
      refine c_VK (st := [.ref q_74]) hX C hE (by first | assumption | decide) (C_empty_K (w := WM cy ba ra hf hq kn th sm ++ (SBO q_74 v9_78 (nI 0) (0 + KSN.getD 1 0) :: BYO cy v9_78 (sb_cap (0 + KSN.getD 1 0) 16) g9_79 :: E)) (i := 1) hX (by first | assumption | decide) (by first | assumption | omega | rfl)) pk_J0_isEmpty_aae02 qm_X4_160 rfl rfl (Nat.le_of_ble_eq_true rfl) dX4_textNow_42 ⟨Nat.le_of_ble_eq_true rfl, Nat.le_of_ble_eq_true rfl⟩ ⟨by first | (simp only [rmk, rmz]; omega) | (simp only [rmk, rmz]; done) | omega, by first | (simp only [rmk, rmz]; omega) | (simp only [rmk, rmz]; done) | omega⟩ (fun v9 w9 h9 => ?_) (fun _ h9 => h9.elim)
      obtain ⟨rfl, rfl⟩ := h9
      refine r_ifN_eq (a := 1) (tgt := 53) C (by first | omega | (simp [up2, *]; done) | (simp [up2, *]; omega) | (simp only [up2_eq]; omega) | (split <;> omega)) dX4_textNow_45 (by decide) (fun h45_81 => ?_) (fun h45_81 => ?_)
      · exact absurd h45_81 (by first | omega | (simp [up2, *]; done) | (simp [up2, *]; omega) | (simp only [up2_eq]; omega) | (split <;> omega))
      · skip
        refine j_ldcS hX C hE (i := 1) rfl dX4_textNow_48 ?_
        refine r_goto (tgt := 55) C dX4_textNow_50 (by decide) ?_
        refine c_V (st := []) hX.stb C hE (C_sbStr_K (U := WM cy ba ra hf hq kn th sm) (E := E) (b := q_74) (v := v9_78) (m := (sb_cap (0 + KSN.getD 1 0) 16)) (n := (0 + KSN.getD 1 0)) (g := g9_79) (ml := (nI 0)) (i := 1) hX (by omega) (by omega) f_80 (by first | assumption | decide)) pk_J4_append_15ec4 qm_X4_156 ((WM cy ba ra hf hq kn th sm).length + 0) 1 rfl rfl (us_g rfl) rfl rfl (Nat.le_of_ble_eq_true rfl) dX4_textNow_55 ⟨Nat.le_of_ble_eq_true rfl, Nat.le_of_ble_eq_true rfl⟩ ⟨by first | (simp only [rmk, rmz]; omega) | (simp only [rmk, rmz]; done) | omega, by first | (simp only [rmk, rmz]; omega) | (simp only [rmk, rmz]; done) | omega⟩ (fun v9 w9 h9 => ?_) (fun _ h9 => h9.elim)
        obtain ⟨v9_82, g9_83, f_84, rfl, rfl⟩ := h9
        refine r_iload C dX4_textNow_58 rfl ?_
        refine c_V (st := []) hX.stb C hE (C_sbInt (U := WM cy ba ra hf hq kn th sm) (E := E) (b := q_74) (v := v9_82) (m := (sb_cap ((0 + KSN.getD 1 0) + KSN.getD 1 0) (sb_cap (0 + KSN.getD 1 0) 16))) (n := ((0 + KSN.getD 1 0) + KSN.getD 1 0)) (g := g9_83) (ml := (nI 0)) (x := (hq i 0)) hX (by omega) (by omega) f_84 (hR 0 (by omega))) pk_J4_append_bf812 qm_X4_168 ((WM cy ba ra hf hq kn th sm).length + 0) 1 rfl rfl (us_g rfl) rfl rfl (Nat.le_of_ble_eq_true rfl) dX4_textNow_60 ⟨Nat.le_of_ble_eq_true rfl, Nat.le_of_ble_eq_true rfl⟩ ⟨by first | (simp only [rmk, rmz]; omega) | (simp only [rmk, rmz]; done) | omega, by first | (simp only [rmk, rmz]; omega) | (simp only [rmk, rmz]; done) | omega⟩ (fun v9 w9 h9 => ?_) (fun _ h9 => h9.elim)
        obtain ⟨v9_85, g9_86, f_87, rfl, rfl⟩ := h9
        refine c_V (st := []) hX.stb C hE (C_toString (U := WM cy ba ra hf hq kn th sm) (E := E) (b := q_74) (v := v9_85) (m := (sb_cap (((0 + KSN.getD 1 0) + KSN.getD 1 0) + sz9 (hq i 0)) (sb_cap ((0 + KSN.getD 1 0) + KSN.getD 1 0) (sb_cap (0 + KSN.getD 1 0) 16)))) (n := (((0 + KSN.getD 1 0) + KSN.getD 1 0) + sz9 (hq i 0))) (g := g9_86) (ml := (nI 0)) hX (by omega) (by omega) f_87) pk_J4_toString_0e30d qm_X4_171 ((WM cy ba ra hf hq kn th sm).length + 0) 1 rfl rfl (us_g rfl) rfl rfl (Nat.le_of_ble_eq_true rfl) dX4_textNow_63 ⟨Nat.le_of_ble_eq_true rfl, Nat.le_of_ble_eq_true rfl⟩ ⟨by first | (simp only [rmk, rmz]; omega) | (simp only [rmk, rmz]; done) | omega, by first | (simp only [rmk, rmz]; omega) | (simp only [rmk, rmz]; done) | omega⟩ (fun v9 w9 h9 => ?_) (fun _ h9 => h9.elim)
        obtain ⟨a9_88, v9_89, g9_90, f_91, rfl, rfl⟩ := h9
        refine r_astore_n C dX4_textNow_66 (by decide) rfl ?_
        refine r_iincN C dX4_textNow_67 rfl (by decide) rfl ?_
        refine r_goto (tgt := 17) C dX4_textNow_70 (by decide) ?_
        refine t_perm [STO a9_88 v9_89 (nI 0) (nI 0), BYO cy v9_89 (((0 + KSN.getD 1 0) + KSN.getD 1 0) + sz9 (hq i 0)) g9_90, SBO q_74 v9_85 (nI 0) (((0 + KSN.getD 1 0) + KSN.getD 1 0) + sz9 (hq i 0)), BYO cy v9_85 (sb_cap (((0 + KSN.getD 1 0) + KSN.getD 1 0) + sz9 (hq i 0)) (sb_cap ((0 + KSN.getD 1 0) + KSN.getD 1 0) (sb_cap (0 + KSN.getD 1 0) 16))) g9_86] [STO a9_88 v9_89 (nI 0) (nI 0), BYO cy v9_89 (((0 + KSN.getD 1 0) + KSN.getD 1 0) + sz9 (hq i 0)) g9_90] [0, 1] rfl (by decide) rfl (w' := WM cy ba ra hf hq kn th sm ++ (STO a9_88 v9_89 (nI 0) (nI 0) :: BYO cy v9_89 (((0 + KSN.getD 1 0) + KSN.getD 1 0) + sz9 (hq i 0)) g9_90 :: E)) rfl ?_
        have hLn : ((0 + KSN.getD 1 0) + KSN.getD 1 0) + sz9 (hq i 0) = tjx (hq i) (1) := by rw [tjx_1]; omega
        refine r_widen (k := 7 * (1)) (n := txS (1)) (by first | (simp only [rmk, rmz]; omega) | (simp only [rmk, rmz]; done) | omega) (by have h8 := txS_up (k := 0) (L := 0 + KSN.getD 1 0) (c := ((0 + KSN.getD 1 0) + KSN.getD 1 0) + sz9 (hq i 0)) (by omega) (by omega) (by omega); have h9 : txS (0 + 1) = txS 1 := rfl; simp only [rmk, rmz]; omega) ?_
        refine r_drop 6 ?_
        exact L17 (hf 4 i - 1) 1 a9_88 v9_89 (((0 + KSN.getD 1 0) + KSN.getD 1 0) + sz9 (hq i 0)) _ _ g9_90 (by omega) (by omega) (by omega) hLn (jx_1 f_91)
