/-! TEXTS: growth, a letter -/
theorem cap_val {q m : Nat} (h : m < q) : m + (if q - m < m + 2 then m + 2 else q - m) = sb_cap q m := by
  have h0 : ¬ q ≤ m := by omega
  simp only [sb_cap, if_neg h0]
  by_cases h1 : q - m < m + 2 <;> by_cases h2 : 2 * m + 2 < q <;> simp only [h1, h2, if_true, if_false] <;> omega
theorem cap_lt {q m : Nat} (hm : m ≤ 65536) (hq : q < 268435456) : sb_cap q m < 536870912 := by
  unfold sb_cap
  split
  · omega
  · split <;> omega
def gC (q m : Nat) : Nat := if q ≤ m then 0 else 1
def gS (q m : Nat) : Nat := if q ≤ m then 0 else sb_cap q m
theorem mx_nI {a k : Nat} (ha : a < 2147483648) (hk : k < 2147483648) : (if nI a < nI k then nI k else nI a) = nI (if a < k then k else a) := by
  by_cases h : a < k
  · rw [if_pos h, if_pos (nI_lt h hk)]
  · rw [if_neg h, if_neg (nI_nlt (by omega) ha)]
theorem mn_nI {a k : Nat} (h : a ≤ k) (hk : k < 2147483648) : (if nI k < nI a then nI k else nI a) = nI a := if_neg (nI_nlt h hk)
theorem ks_lt {i : Nat} (hi : i < KSN.length) : KSN.getD i 0 < 100 := by
  have : ∀ j, j < KSN.length → KSN.getD j 0 < 100 := by decide
  exact this i hi
/-- the first n bytes are a list's -/
def TXT (g : Nat → Int32) (n : Nat) (tl : List Int32) : Prop := sb_Fit g ∧ tl.length = n ∧ ∀ q, q < n → g q = tl.getD q 0
theorem TXT.nil {g : Nat → Int32} (h : sb_Fit g) : TXT g 0 [] := ⟨h, rfl, fun q hq => absurd hq (Nat.not_lt_zero q)⟩
theorem TXT.keep {g g9 : Nat → Int32} {n : Nat} {tl : List Int32} (h : TXT g n tl) (h1 : sb_Fit g9) (h2 : ∀ q, q < n → g9 q = g q) : TXT g9 n tl := ⟨h1, h.2.1, fun q hq => (h2 q hq).trans (h.2.2 q hq)⟩
theorem TXT.cat {g g9 : Nat → Int32} {n k : Nat} {tl ts : List Int32} (h : TXT g n tl) (h1 : sb_Fit g9) (hk : ts.length = k) (h2 : ∀ q, q < n → g9 q = g q) (h3 : ∀ j, j < k → g9 (n + j) = ts.getD j 0) : TXT g9 (n + k) (tl ++ ts) := by
  obtain ⟨-, hl, hv⟩ := h
  refine ⟨h1, by rw [List.length_append, hl, hk], fun q hq => ?_⟩
  by_cases hqn : q < n
  · rw [h2 q hqn, hv q hqn, List.getD_eq_getElem?_getD, List.getD_eq_getElem?_getD, List.getElem?_append_left (by omega)]
  · obtain ⟨j, rfl⟩ : ∃ j, q = n + j := ⟨q - n, by omega⟩
    rw [h3 j (by omega), List.getD_eq_getElem?_getD, List.getD_eq_getElem?_getD, List.getElem?_append_right (by omega), hl, Nat.add_sub_cancel_left]
theorem TXT.up {g : Nat → Int32} {n : Nat} {tl : List Int32} {x : Int32} (h : TXT g n tl) : TXT (upd g n (vp_nar .byte x)) (n + 1) (tl ++ [vp_nar .byte x]) :=
  h.cat (bf_up h.1) rfl (fun q hq => if_neg (by omega)) (fun j hj => by
    obtain rfl : j = 0 := by omega
    exact if_pos rfl)
theorem TXT.dn1 {g : Nat → Int32} {ix : Nat} {tl : List Int32} {x : Int32} (hx : 1 ≤ ix) (h : TXT g (ix - 1) tl) : TXT (upd g (ix - 1) (vp_nar .byte x)) ix (tl ++ [vp_nar .byte x]) := by
  have h2 := h.up (x := x)
  rwa [show ix - 1 + 1 = ix by omega] at h2
theorem TXT.dn2 {g : Nat → Int32} {ix : Nat} {tl : List Int32} {x y : Int32} (hx : 2 ≤ ix) (h : TXT g (ix - 2) tl) : TXT (upd (upd g (ix - 1) (vp_nar .byte y)) (ix - 1 - 1) (vp_nar .byte x)) ix (tl ++ [vp_nar .byte x, vp_nar .byte y]) := by
  have h2 := h.cat (k := 2) (ts := [vp_nar .byte x, vp_nar .byte y]) (bf_up (i := ix - 1 - 1) (x := x) (bf_up (i := ix - 1) (x := y) h.1)) rfl (fun q hq => (if_neg (by omega)).trans (if_neg (by omega))) (fun j hj => by
    have : j = 0 ∨ j = 1 := by omega
    rcases this with rfl | rfl
    · exact if_pos (by omega)
    · exact (if_neg (by omega)).trans (if_pos (by omega)))
  rwa [show ix - 2 + 2 = ix by omega] at h2
theorem TXT.dn3 {g : Nat → Int32} {ix : Nat} {tl : List Int32} {x y z : Int32} (hx : 3 ≤ ix) (h : TXT g (ix - 3) tl) : TXT (upd (upd (upd g (ix - 1) (vp_nar .byte z)) (ix - 1 - 1) (vp_nar .byte y)) (ix - 1 - 1 - 1) (vp_nar .byte x)) ix (tl ++ [vp_nar .byte x, vp_nar .byte y, vp_nar .byte z]) := by
  have h2 := h.cat (k := 3) (ts := [vp_nar .byte x, vp_nar .byte y, vp_nar .byte z]) (bf_up (i := ix - 1 - 1 - 1) (x := x) (bf_up (i := ix - 1 - 1) (x := y) (bf_up (i := ix - 1) (x := z) h.1))) rfl (fun q hq => ((if_neg (by omega)).trans (if_neg (by omega))).trans (if_neg (by omega))) (fun j hj => by
    have : j = 0 ∨ j = 1 ∨ j = 2 := by omega
    rcases this with rfl | rfl | rfl
    · exact if_pos (by omega)
    · exact (if_neg (by omega)).trans (if_pos (by omega))
    · exact ((if_neg (by omega)).trans (if_neg (by omega))).trans (if_pos (by omega)))
  rwa [show ix - 3 + 3 = ix by omega] at h2
theorem TXT.cpyK {g : Nat → Int32} {dp i : Nat} {tl : List Int32} (hi : i < KSN.length) (h : TXT g dp tl) : TXT (va_cpy (fun j => (KSB.getD i []).getD j 0) g 0 dp (KSN.getD i 0)) (dp + KSN.getD i 0) (tl ++ KSB.getD i []) :=
  have hall : ∀ i, i < KSN.length → (KSB.getD i []).length = KSN.getD i 0 := by decide
  h.cat (kb_fit hi h.1) (hall i hi) (fun q hq => if_neg (by omega)) (fun j hj => (if_pos (by omega)).trans (by rw [Nat.zero_add, Nat.add_sub_cancel_left]))
theorem TXT.cpyW {g gs : Nat → Int32} {dp k : Nat} {tl ts : List Int32} (h : TXT g dp tl) (hg : TXT gs k ts) : TXT (va_cpy gs g 0 dp k) (dp + k) (tl ++ ts) :=
  h.cat (sb_fitC hg.1 h.1) hg.2.1 (fun q hq => if_neg (by omega)) (fun j hj => (if_pos (by omega)).trans (by rw [Nat.zero_add, Nat.add_sub_cancel_left]; exact hg.2.2 j hj))
theorem TXT.cut {g : Nat → Int32} {n : Nat} {tl : List Int32} (h : TXT g n tl) : TXT (va_cpy g (fun _ => 0) 0 0 n) n tl := h.keep (sb_fitC h.1 sb_fit0) (fun q hq => sb_cpy0 hq)
/-- a letter's byte -/
def chb (ch : Nat) : Int32 := vp_nar .byte ((nI ch).toInt8.toInt32)
/-- a number's signs -/
def dgP1 (gO : Nat → Int32) (k : Nat) : List Int32 := [vp_nar .byte (gO k)]
def dgP2 (gO gT : Nat → Int32) (k : Nat) : List Int32 := [vp_nar .byte (gT k), vp_nar .byte (gO k)]
def dgN1 (gO : Nat → Int32) (k : Nat) : List Int32 := [vp_nar .byte (nI 45), vp_nar .byte (gO k)]
def dgN2 (gO gT : Nat → Int32) (k : Nat) : List Int32 := [vp_nar .byte (nI 45), vp_nar .byte (gT k), vp_nar .byte (gO k)]
def dgl (gO gT : Nat → Int32) (x : Int32) : List Int32 := if x.toInt < 0 then (if x.toInt.natAbs < 10 then dgN1 gO x.toInt.natAbs else dgN2 gO gT x.toInt.natAbs) else (if x.toInt.natAbs < 10 then dgP1 gO x.toInt.toNat else dgP2 gO gT x.toInt.toNat)
theorem dJ8_newLength_cabcc_0 : decode cJ8_newLength_cabcc 0 = .ok (.iload_n 0, 1) := dqo_26 (kb_of ke_J8_newLength_cabcc 0 rfl)
theorem dJ8_newLength_cabcc_1 : decode cJ8_newLength_cabcc 1 = .ok (.iload_n 1, 1) := dqo_27 (kb_of ke_J8_newLength_cabcc 1 rfl)
theorem dJ8_newLength_cabcc_2 : decode cJ8_newLength_cabcc 2 = .ok (.iload_n 2, 1) := dqo_28 (kb_of ke_J8_newLength_cabcc 2 rfl)
theorem dJ8_newLength_cabcc_3 : decode cJ8_newLength_cabcc 3 = .ok (.invokestatic 194, 3) := dqo_184 0 194 (kb_of ke_J8_newLength_cabcc 3 rfl) (kb_of ke_J8_newLength_cabcc 4 rfl) (kb_of ke_J8_newLength_cabcc 5 rfl)
theorem dJ8_newLength_cabcc_6 : decode cJ8_newLength_cabcc 6 = .ok (.iadd, 1) := dqo_96 (kb_of ke_J8_newLength_cabcc 6 rfl)
theorem dJ8_newLength_cabcc_7 : decode cJ8_newLength_cabcc 7 = .ok (.istore_n 3, 1) := dqo_62 (kb_of ke_J8_newLength_cabcc 7 rfl)
theorem dJ8_newLength_cabcc_8 : decode cJ8_newLength_cabcc 8 = .ok (.iconst 0, 1) := dqo_3 (kb_of ke_J8_newLength_cabcc 8 rfl)
theorem dJ8_newLength_cabcc_9 : decode cJ8_newLength_cabcc 9 = .ok (.iload_n 3, 1) := dqo_29 (kb_of ke_J8_newLength_cabcc 9 rfl)
theorem dJ8_newLength_cabcc_10 : decode cJ8_newLength_cabcc 10 = .ok (.if_icmp .ge 11, 3) := dqo_162 0 11 (by decide) (kb_of ke_J8_newLength_cabcc 10 rfl) (kb_of ke_J8_newLength_cabcc 11 rfl) (kb_of ke_J8_newLength_cabcc 12 rfl)
theorem dJ8_newLength_cabcc_13 : decode cJ8_newLength_cabcc 13 = .ok (.iload_n 3, 1) := dqo_29 (kb_of ke_J8_newLength_cabcc 13 rfl)
theorem dJ8_newLength_cabcc_14 : decode cJ8_newLength_cabcc 14 = .ok (.ldc 200, 2) := dqo_18 200 (kb_of ke_J8_newLength_cabcc 14 rfl) (kb_of ke_J8_newLength_cabcc 15 rfl)
theorem dJ8_newLength_cabcc_16 : decode cJ8_newLength_cabcc 16 = .ok (.if_icmp .gt 5, 3) := dqo_163 0 5 (by decide) (kb_of ke_J8_newLength_cabcc 16 rfl) (kb_of ke_J8_newLength_cabcc 17 rfl) (kb_of ke_J8_newLength_cabcc 18 rfl)
theorem dJ8_newLength_cabcc_19 : decode cJ8_newLength_cabcc 19 = .ok (.iload_n 3, 1) := dqo_29 (kb_of ke_J8_newLength_cabcc 19 rfl)
theorem dJ8_newLength_cabcc_20 : decode cJ8_newLength_cabcc 20 = .ok (.ireturn, 1) := dqo_172 (kb_of ke_J8_newLength_cabcc 20 rfl)
set_option maxRecDepth 100000 in
set_option maxHeartbeats 400000 in
theorem C_newLength {l : Launch} {D : va_G} {cy : Nat → ClassId} {X : (Nat → Prop) → State → Heap → Prop} {aK aV : Nat → Nat} {tO tT : Nat} {gO gT : Nat → Int32} {w : va_W} {o : Nat} {a : Nat} {k : Nat} (hX : EnvS X cy aK aV tO tT gO gT) (h1 : o < 268435456) (h2 : a < 268435456) (h3 : k < 268435456) (h4 : 0 < a) : Cm l D cy X yJ8_newLength_cabcc cJ8_newLength_cabcc 4 (some .int) (rmz 1 40) [.int (nI o), .int (nI a), .int (nI k)] (w) (fun v1 w1 => v1 = some (.int (nI (o + (if a < k then k else a)))) ∧ w1 = w) (fun _ => False) := by
  refine Cm.ofF [some (.int (nI o)), some (.int (nI a)), some (.int (nI k)), none] (plainFor_of_name pn_J8) rfl (Nat.le_of_ble_eq_true rfl) ?_
  intro p e s mI args below meth c A C hE hr hnt hn
  refine r_iload_n C dJ8_newLength_cabcc_0 rfl ?_
  refine r_iload_n C dJ8_newLength_cabcc_1 rfl ?_
  refine r_iload_n C dJ8_newLength_cabcc_2 rfl ?_
  refine c_S (st := [.int (nI o)]) hX.stb C hE (C_mmax (w := w) (x := (nI a)) (y := (nI k)) ) pk_J9_max_7cf53 qm_J8_194 rfl rfl (Nat.le_of_ble_eq_true rfl) dJ8_newLength_cabcc_3 ⟨Nat.le_of_ble_eq_true rfl, Nat.le_of_ble_eq_true rfl⟩ ⟨by first | (simp only [rmk, rmz]; omega) | (simp only [rmk, rmz]; done) | omega, by first | (simp only [rmk, rmz]; omega) | (simp only [rmk, rmz]; done) | omega⟩ (fun v9 w9 h9 => ?_) (fun _ h9 => h9.elim)
  obtain ⟨rfl, rfl⟩ := h9
  refine r_eqi (y := nI (if a < k then k else a)) (mx_nI (by omega) (by omega)) ?_
  refine r_iaddN C dJ8_newLength_cabcc_6 ?_
  refine r_istore_n C dJ8_newLength_cabcc_7 (by decide) rfl ?_
  refine r_iconst (v := (nI 0)) C dJ8_newLength_cabcc_8 (by decide) ?_
  refine r_iload_n C dJ8_newLength_cabcc_9 rfl ?_
  refine r_icN_ge (a := 0) (b := (o + (if a < k then k else a))) (tgt := 21) C (by first | omega | (simp [up2, *]; done) | (simp [up2, *]; omega) | (simp only [up2_eq]; omega) | (split <;> omega)) (by first | omega | (simp [up2, *]; done) | (simp [up2, *]; omega) | (simp only [up2_eq]; omega) | (split <;> omega)) dJ8_newLength_cabcc_10 (by decide) (fun h10_1 => ?_) (fun h10_1 => ?_)
  · exact absurd h10_1 (by first | omega | (simp [up2, *]; done) | (simp [up2, *]; omega) | (simp only [up2_eq]; omega) | (split <;> omega))
  · skip
    refine r_iload_n C dJ8_newLength_cabcc_13 rfl ?_
    refine j_ldc (v := nI 2147483639) C qx_J8_200 dJ8_newLength_cabcc_14 ?_
    refine r_icN_gt (a := (o + (if a < k then k else a))) (b := 2147483639) (tgt := 21) C (by first | omega | (simp [up2, *]; done) | (simp [up2, *]; omega) | (simp only [up2_eq]; omega) | (split <;> omega)) (by first | omega | (simp [up2, *]; done) | (simp [up2, *]; omega) | (simp only [up2_eq]; omega) | (split <;> omega)) dJ8_newLength_cabcc_16 (by decide) (fun h16_2 => ?_) (fun h16_2 => ?_)
    · exact absurd h16_2 (by first | omega | (simp [up2, *]; done) | (simp [up2, *]; omega) | (simp only [up2_eq]; omega) | (split <;> omega))
    · skip
      refine r_iload_n C dJ8_newLength_cabcc_19 rfl ?_
      exact r_iret C hr dJ8_newLength_cabcc_20 ⟨rfl, rfl⟩ (by first | (simp only [rmk, rmz]; omega) | (simp only [rmk, rmz]; done) | omega) (by first | (simp only [rmk, rmz]; omega) | (simp only [rmk, rmz]; done) | omega)
theorem dJ5_newCapacity_0f7a4_0 : decode cJ5_newCapacity_0f7a4 0 = .ok (.aload_n 0, 1) := dqo_42 (kb_of ke_J5_newCapacity_0f7a4 0 rfl)
theorem dJ5_newCapacity_0f7a4_1 : decode cJ5_newCapacity_0f7a4 1 = .ok (.getfield 15, 3) := dqo_180 0 15 (kb_of ke_J5_newCapacity_0f7a4 1 rfl) (kb_of ke_J5_newCapacity_0f7a4 2 rfl) (kb_of ke_J5_newCapacity_0f7a4 3 rfl)
theorem dJ5_newCapacity_0f7a4_4 : decode cJ5_newCapacity_0f7a4 4 = .ok (.arraylength, 1) := dqo_190 (kb_of ke_J5_newCapacity_0f7a4 4 rfl)
theorem dJ5_newCapacity_0f7a4_5 : decode cJ5_newCapacity_0f7a4 5 = .ok (.istore_n 2, 1) := dqo_61 (kb_of ke_J5_newCapacity_0f7a4 5 rfl)
theorem dJ5_newCapacity_0f7a4_6 : decode cJ5_newCapacity_0f7a4 6 = .ok (.iload_n 1, 1) := dqo_27 (kb_of ke_J5_newCapacity_0f7a4 6 rfl)
theorem dJ5_newCapacity_0f7a4_7 : decode cJ5_newCapacity_0f7a4 7 = .ok (.aload_n 0, 1) := dqo_42 (kb_of ke_J5_newCapacity_0f7a4 7 rfl)
theorem dJ5_newCapacity_0f7a4_8 : decode cJ5_newCapacity_0f7a4 8 = .ok (.getfield 22, 3) := dqo_180 0 22 (kb_of ke_J5_newCapacity_0f7a4 8 rfl) (kb_of ke_J5_newCapacity_0f7a4 9 rfl) (kb_of ke_J5_newCapacity_0f7a4 10 rfl)
theorem dJ5_newCapacity_0f7a4_11 : decode cJ5_newCapacity_0f7a4 11 = .ok (.ishl, 1) := dqo_120 (kb_of ke_J5_newCapacity_0f7a4 11 rfl)
theorem dJ5_newCapacity_0f7a4_12 : decode cJ5_newCapacity_0f7a4 12 = .ok (.istore_n 3, 1) := dqo_62 (kb_of ke_J5_newCapacity_0f7a4 12 rfl)
theorem dJ5_newCapacity_0f7a4_13 : decode cJ5_newCapacity_0f7a4 13 = .ok (.iload_n 3, 1) := dqo_29 (kb_of ke_J5_newCapacity_0f7a4 13 rfl)
theorem dJ5_newCapacity_0f7a4_14 : decode cJ5_newCapacity_0f7a4 14 = .ok (.iload_n 2, 1) := dqo_28 (kb_of ke_J5_newCapacity_0f7a4 14 rfl)
theorem dJ5_newCapacity_0f7a4_15 : decode cJ5_newCapacity_0f7a4 15 = .ok (.isub, 1) := dqo_100 (kb_of ke_J5_newCapacity_0f7a4 15 rfl)
theorem dJ5_newCapacity_0f7a4_16 : decode cJ5_newCapacity_0f7a4 16 = .ok (.istore 4, 2) := dqo_54 4 (kb_of ke_J5_newCapacity_0f7a4 16 rfl) (kb_of ke_J5_newCapacity_0f7a4 17 rfl)
theorem dJ5_newCapacity_0f7a4_18 : decode cJ5_newCapacity_0f7a4 18 = .ok (.iload_n 2, 1) := dqo_28 (kb_of ke_J5_newCapacity_0f7a4 18 rfl)
theorem dJ5_newCapacity_0f7a4_19 : decode cJ5_newCapacity_0f7a4 19 = .ok (.iload 4, 2) := dqo_21 4 (kb_of ke_J5_newCapacity_0f7a4 19 rfl) (kb_of ke_J5_newCapacity_0f7a4 20 rfl)
theorem dJ5_newCapacity_0f7a4_21 : decode cJ5_newCapacity_0f7a4 21 = .ok (.iload_n 2, 1) := dqo_28 (kb_of ke_J5_newCapacity_0f7a4 21 rfl)
theorem dJ5_newCapacity_0f7a4_22 : decode cJ5_newCapacity_0f7a4 22 = .ok (.iconst 2, 1) := dqo_5 (kb_of ke_J5_newCapacity_0f7a4 22 rfl)
theorem dJ5_newCapacity_0f7a4_23 : decode cJ5_newCapacity_0f7a4 23 = .ok (.aload_n 0, 1) := dqo_42 (kb_of ke_J5_newCapacity_0f7a4 23 rfl)
theorem dJ5_newCapacity_0f7a4_24 : decode cJ5_newCapacity_0f7a4 24 = .ok (.getfield 22, 3) := dqo_180 0 22 (kb_of ke_J5_newCapacity_0f7a4 24 rfl) (kb_of ke_J5_newCapacity_0f7a4 25 rfl) (kb_of ke_J5_newCapacity_0f7a4 26 rfl)
theorem dJ5_newCapacity_0f7a4_27 : decode cJ5_newCapacity_0f7a4 27 = .ok (.ishl, 1) := dqo_120 (kb_of ke_J5_newCapacity_0f7a4 27 rfl)
theorem dJ5_newCapacity_0f7a4_28 : decode cJ5_newCapacity_0f7a4 28 = .ok (.iadd, 1) := dqo_96 (kb_of ke_J5_newCapacity_0f7a4 28 rfl)
theorem dJ5_newCapacity_0f7a4_29 : decode cJ5_newCapacity_0f7a4 29 = .ok (.invokestatic 114, 3) := dqo_184 0 114 (kb_of ke_J5_newCapacity_0f7a4 29 rfl) (kb_of ke_J5_newCapacity_0f7a4 30 rfl) (kb_of ke_J5_newCapacity_0f7a4 31 rfl)
theorem dJ5_newCapacity_0f7a4_32 : decode cJ5_newCapacity_0f7a4 32 = .ok (.istore 5, 2) := dqo_54 5 (kb_of ke_J5_newCapacity_0f7a4 32 rfl) (kb_of ke_J5_newCapacity_0f7a4 33 rfl)
theorem dJ5_newCapacity_0f7a4_34 : decode cJ5_newCapacity_0f7a4 34 = .ok (.iload 5, 2) := dqo_21 5 (kb_of ke_J5_newCapacity_0f7a4 34 rfl) (kb_of ke_J5_newCapacity_0f7a4 35 rfl)
theorem dJ5_newCapacity_0f7a4_36 : decode cJ5_newCapacity_0f7a4 36 = .ok (.ldc 39, 2) := dqo_18 39 (kb_of ke_J5_newCapacity_0f7a4 36 rfl) (kb_of ke_J5_newCapacity_0f7a4 37 rfl)
theorem dJ5_newCapacity_0f7a4_38 : decode cJ5_newCapacity_0f7a4 38 = .ok (.if_icmp .ne 13, 3) := dqo_160 0 13 (by decide) (kb_of ke_J5_newCapacity_0f7a4 38 rfl) (kb_of ke_J5_newCapacity_0f7a4 39 rfl) (kb_of ke_J5_newCapacity_0f7a4 40 rfl)
theorem dJ5_newCapacity_0f7a4_51 : decode cJ5_newCapacity_0f7a4 51 = .ok (.iload 5, 2) := dqo_21 5 (kb_of ke_J5_newCapacity_0f7a4 51 rfl) (kb_of ke_J5_newCapacity_0f7a4 52 rfl)
theorem dJ5_newCapacity_0f7a4_53 : decode cJ5_newCapacity_0f7a4 53 = .ok (.aload_n 0, 1) := dqo_42 (kb_of ke_J5_newCapacity_0f7a4 53 rfl)
theorem dJ5_newCapacity_0f7a4_54 : decode cJ5_newCapacity_0f7a4 54 = .ok (.getfield 22, 3) := dqo_180 0 22 (kb_of ke_J5_newCapacity_0f7a4 54 rfl) (kb_of ke_J5_newCapacity_0f7a4 55 rfl) (kb_of ke_J5_newCapacity_0f7a4 56 rfl)
theorem dJ5_newCapacity_0f7a4_57 : decode cJ5_newCapacity_0f7a4 57 = .ok (.ishr, 1) := dqo_122 (kb_of ke_J5_newCapacity_0f7a4 57 rfl)
theorem dJ5_newCapacity_0f7a4_58 : decode cJ5_newCapacity_0f7a4 58 = .ok (.ireturn, 1) := dqo_172 (kb_of ke_J5_newCapacity_0f7a4 58 rfl)
theorem pk_J8_newLength_cabcc : PkS yJ8_newLength_cabcc cJ8_newLength_cabcc 4 (some .int) 3 := ⟨⟨qt_J8_newLength_cabcc, qz_J8, qc_J8_newLength_cabcc⟩, mh_J8.1, mh_J8.2, pd_28⟩
set_option maxRecDepth 100000 in
set_option maxHeartbeats 400000 in
theorem C_newCapacity {l : Launch} {D : va_G} {cy : Nat → ClassId} {X : (Nat → Prop) → State → Heap → Prop} {aK aV : Nat → Nat} {tO tT : Nat} {gO gT : Nat → Int32} {U E : va_W} {b : Nat} {v : Nat} {m : Nat} {n : Nat} {g : Nat → Int32} {ml : Int32} {q : Nat} (hX : EnvS X cy aK aV tO tT gO gT) (hm : m ≤ 65536) (hq : q < 268435456) (hmq : m < q) : Cm l D cy X yJ5_newCapacity_0f7a4 cJ5_newCapacity_0f7a4 6 (some .int) (rmz 2 80) [.ref b, .int (nI q)] (U ++ (SBO b v ml n :: BYO cy v m g :: E)) (fun v1 w1 => v1 = some (.int (nI (sb_cap q m))) ∧ w1 = U ++ (SBO b v ml n :: BYO cy v m g :: E)) (fun _ => False) := by
  refine Cm.ofF [some (.ref b), some (.int (nI q)), none, none, none, none] (plainFor_of_name pn_J5) rfl (Nat.le_of_ble_eq_true rfl) ?_
  intro p e s mI args below meth c A C hE hr hnt hn
  refine r_aload_n C dJ5_newCapacity_0f7a4_0 rfl ?_
  refine t_sbg C 0 0 rfl (by decide) qf_J5_15 rfl rfl dJ5_newCapacity_0f7a4_1 ?_
  refine t_blen C 1 rfl dJ5_newCapacity_0f7a4_4 ?_
  refine r_istore_n C dJ5_newCapacity_0f7a4_5 (by decide) rfl ?_
  refine r_iload_n C dJ5_newCapacity_0f7a4_6 rfl ?_
  refine r_aload_n C dJ5_newCapacity_0f7a4_7 rfl ?_
  refine t_sbg C 0 1 rfl (by decide) qf_J5_22 rfl rfl dJ5_newCapacity_0f7a4_8 ?_
  refine t_ishl C dJ5_newCapacity_0f7a4_11 ?_
  refine r_istore_n C dJ5_newCapacity_0f7a4_12 (by decide) rfl ?_
  refine r_iload_n C dJ5_newCapacity_0f7a4_13 rfl ?_
  refine r_iload_n C dJ5_newCapacity_0f7a4_14 rfl ?_
  refine r_isubN C dJ5_newCapacity_0f7a4_15 (by first | omega | (simp [up2, *]; done) | (simp [up2, *]; omega) | (simp only [up2_eq]; omega) | (split <;> omega)) ?_
  refine r_istore C dJ5_newCapacity_0f7a4_16 (by decide) rfl ?_
  refine r_iload_n C dJ5_newCapacity_0f7a4_18 rfl ?_
  refine r_iload C dJ5_newCapacity_0f7a4_19 rfl ?_
  refine r_iload_n C dJ5_newCapacity_0f7a4_21 rfl ?_
  refine r_iconst (v := (nI 2)) C dJ5_newCapacity_0f7a4_22 (by decide) ?_
  refine r_aload_n C dJ5_newCapacity_0f7a4_23 rfl ?_
  refine t_sbg C 0 1 rfl (by decide) qf_J5_22 rfl rfl dJ5_newCapacity_0f7a4_24 ?_
  refine t_ishl C dJ5_newCapacity_0f7a4_27 ?_
  refine r_iaddN C dJ5_newCapacity_0f7a4_28 ?_
  refine c_S (st := []) hX.stb C hE (C_newLength (w := U ++ (SBO b v ml n :: BYO cy v m g :: E)) (o := m) (a := (q - m)) (k := (m + 2)) hX (by first | omega | (simp [up2, *]; done) | (simp [up2, *]; omega) | (simp only [up2_eq]; omega) | (split <;> omega)) (by first | omega | (simp [up2, *]; done) | (simp [up2, *]; omega) | (simp only [up2_eq]; omega) | (split <;> omega)) (by first | omega | (simp [up2, *]; done) | (simp [up2, *]; omega) | (simp only [up2_eq]; omega) | (split <;> omega)) (by first | omega | (simp [up2, *]; done) | (simp [up2, *]; omega) | (simp only [up2_eq]; omega) | (split <;> omega))) pk_J8_newLength_cabcc qm_J5_114 rfl rfl (Nat.le_of_ble_eq_true rfl) dJ5_newCapacity_0f7a4_29 ⟨Nat.le_of_ble_eq_true rfl, Nat.le_of_ble_eq_true rfl⟩ ⟨by first | (simp only [rmk, rmz]; omega) | (simp only [rmk, rmz]; done) | omega, by first | (simp only [rmk, rmz]; omega) | (simp only [rmk, rmz]; done) | omega⟩ (fun v9 w9 h9 => ?_) (fun _ h9 => h9.elim)
  obtain ⟨rfl, rfl⟩ := h9
  refine r_istore C dJ5_newCapacity_0f7a4_32 (by decide) rfl ?_
  refine r_iload C dJ5_newCapacity_0f7a4_34 rfl ?_
  refine j_ldc (v := nI 2147483647) C qx_J5_39 dJ5_newCapacity_0f7a4_36 ?_
  refine r_icN_ne (a := (m + (if (q - m) < (m + 2) then (m + 2) else (q - m)))) (b := 2147483647) (tgt := 51) C (by first | omega | (simp [up2, *]; done) | (simp [up2, *]; omega) | (simp only [up2_eq]; omega) | (split <;> omega)) (by first | omega | (simp [up2, *]; done) | (simp [up2, *]; omega) | (simp only [up2_eq]; omega) | (split <;> omega)) dJ5_newCapacity_0f7a4_38 (by decide) (fun h38_1 => ?_) (fun h38_1 => ?_)
  · skip
    refine r_iload C dJ5_newCapacity_0f7a4_51 rfl ?_
    refine r_aload_n C dJ5_newCapacity_0f7a4_53 rfl ?_
    refine t_sbg C 0 1 rfl (by decide) qf_J5_22 rfl rfl dJ5_newCapacity_0f7a4_54 ?_
    refine t_ishr C dJ5_newCapacity_0f7a4_57 ?_
    exact r_iret C hr dJ5_newCapacity_0f7a4_58 ⟨by rw [cap_val hmq], rfl⟩ (by first | (simp only [rmk, rmz]; omega) | (simp only [rmk, rmz]; done) | omega) (by first | (simp only [rmk, rmz]; omega) | (simp only [rmk, rmz]; done) | omega)
  · exact absurd h38_1 (by first | omega | (simp [up2, *]; done) | (simp [up2, *]; omega) | (simp only [up2_eq]; omega) | (split <;> omega))
theorem dJ7_copyOf_9075b_0 : decode cJ7_copyOf_9075b 0 = .ok (.iload_n 1, 1) := dqo_27 (kb_of ke_J7_copyOf_9075b 0 rfl)
theorem dJ7_copyOf_9075b_1 : decode cJ7_copyOf_9075b 1 = .ok (.aload_n 0, 1) := dqo_42 (kb_of ke_J7_copyOf_9075b 1 rfl)
theorem dJ7_copyOf_9075b_2 : decode cJ7_copyOf_9075b 2 = .ok (.arraylength, 1) := dqo_190 (kb_of ke_J7_copyOf_9075b 2 rfl)
theorem dJ7_copyOf_9075b_3 : decode cJ7_copyOf_9075b 3 = .ok (.if_icmp .ne 11, 3) := dqo_160 0 11 (by decide) (kb_of ke_J7_copyOf_9075b 3 rfl) (kb_of ke_J7_copyOf_9075b 4 rfl) (kb_of ke_J7_copyOf_9075b 5 rfl)
theorem dJ7_copyOf_9075b_14 : decode cJ7_copyOf_9075b 14 = .ok (.iload_n 1, 1) := dqo_27 (kb_of ke_J7_copyOf_9075b 14 rfl)
theorem dJ7_copyOf_9075b_15 : decode cJ7_copyOf_9075b 15 = .ok (.newarray .byte, 2) := dqo_188_8 (kb_of ke_J7_copyOf_9075b 15 rfl) (kb_of ke_J7_copyOf_9075b 16 rfl)
theorem dJ7_copyOf_9075b_17 : decode cJ7_copyOf_9075b 17 = .ok (.astore_n 2, 1) := dqo_77 (kb_of ke_J7_copyOf_9075b 17 rfl)
theorem dJ7_copyOf_9075b_18 : decode cJ7_copyOf_9075b 18 = .ok (.aload_n 0, 1) := dqo_42 (kb_of ke_J7_copyOf_9075b 18 rfl)
theorem dJ7_copyOf_9075b_19 : decode cJ7_copyOf_9075b 19 = .ok (.iconst 0, 1) := dqo_3 (kb_of ke_J7_copyOf_9075b 19 rfl)
theorem dJ7_copyOf_9075b_20 : decode cJ7_copyOf_9075b 20 = .ok (.aload_n 2, 1) := dqo_44 (kb_of ke_J7_copyOf_9075b 20 rfl)
theorem dJ7_copyOf_9075b_21 : decode cJ7_copyOf_9075b 21 = .ok (.iconst 0, 1) := dqo_3 (kb_of ke_J7_copyOf_9075b 21 rfl)
theorem dJ7_copyOf_9075b_22 : decode cJ7_copyOf_9075b 22 = .ok (.aload_n 0, 1) := dqo_42 (kb_of ke_J7_copyOf_9075b 22 rfl)
theorem dJ7_copyOf_9075b_23 : decode cJ7_copyOf_9075b 23 = .ok (.arraylength, 1) := dqo_190 (kb_of ke_J7_copyOf_9075b 23 rfl)
theorem dJ7_copyOf_9075b_24 : decode cJ7_copyOf_9075b 24 = .ok (.iload_n 1, 1) := dqo_27 (kb_of ke_J7_copyOf_9075b 24 rfl)
theorem dJ7_copyOf_9075b_25 : decode cJ7_copyOf_9075b 25 = .ok (.invokestatic 304, 3) := dqo_184 1 48 (kb_of ke_J7_copyOf_9075b 25 rfl) (kb_of ke_J7_copyOf_9075b 26 rfl) (kb_of ke_J7_copyOf_9075b 27 rfl)
theorem dJ7_copyOf_9075b_28 : decode cJ7_copyOf_9075b 28 = .ok (.invokestatic 150, 3) := dqo_184 0 150 (kb_of ke_J7_copyOf_9075b 28 rfl) (kb_of ke_J7_copyOf_9075b 29 rfl) (kb_of ke_J7_copyOf_9075b 30 rfl)
theorem dJ7_copyOf_9075b_31 : decode cJ7_copyOf_9075b 31 = .ok (.aload_n 2, 1) := dqo_44 (kb_of ke_J7_copyOf_9075b 31 rfl)
theorem dJ7_copyOf_9075b_32 : decode cJ7_copyOf_9075b 32 = .ok (.areturn, 1) := dqo_176 (kb_of ke_J7_copyOf_9075b 32 rfl)
set_option maxRecDepth 100000 in
set_option maxHeartbeats 400000 in
theorem C_copyOf {l : Launch} {D : va_G} {cy : Nat → ClassId} {X : (Nat → Prop) → State → Heap → Prop} {aK aV : Nat → Nat} {tO tT : Nat} {gO gT : Nat → Int32} {U E : va_W} {v : Nat} {m : Nat} {g : Nat → Int32} {q : Nat} (hX : EnvS X cy aK aV tO tT gO gT) (hmq : m < q) (hq : q < 1000000) (hf : sb_Fit g) : Cm l D cy X yJ7_copyOf_9075b cJ7_copyOf_9075b 3 (some (.array .byte)) (rmk 1 1 q 40) [.ref v, .int (nI q)] (U ++ (BYO cy v m g :: E)) (fun v1 w1 => ∃ v9 : Nat, ∃ g9 : Nat → Int32, (sb_Fit g9 ∧ ∀ j, j < m → g9 j = g j) ∧ v1 = some (.ref v9) ∧ w1 = U ++ (BYO cy v9 q g9 :: BYO cy v m g :: E)) (fun _ => False) := by
  refine Cm.ofF [some (.ref v), some (.int (nI q)), none] (plainFor_of_name pn_J7) rfl (Nat.le_of_ble_eq_true rfl) ?_
  intro p e s mI args below meth c A C hE hr hnt hn
  refine r_iload_n C dJ7_copyOf_9075b_0 rfl ?_
  refine r_aload_n C dJ7_copyOf_9075b_1 rfl ?_
  refine t_blen C 0 rfl dJ7_copyOf_9075b_2 ?_
  refine r_icN_ne (a := q) (b := m) (tgt := 14) C (by first | omega | (simp [up2, *]; done) | (simp [up2, *]; omega) | (simp only [up2_eq]; omega) | (split <;> omega)) (by first | omega | (simp [up2, *]; done) | (simp [up2, *]; omega) | (simp only [up2_eq]; omega) | (split <;> omega)) dJ7_copyOf_9075b_3 (by decide) (fun h3_1 => ?_) (fun h3_1 => ?_)
  · skip
    refine r_iload_n C dJ7_copyOf_9075b_14 rfl ?_
    refine t_newB C qa_byte (by first | omega | (simp [up2, *]; done) | (simp [up2, *]; omega) | (simp only [up2_eq]; omega) | (split <;> omega)) (by first | (simp only [rmk, rmz]; omega) | (simp only [rmk, rmz]; done) | omega) (by first | (simp only [rmk, rmz]; omega) | (simp only [rmk, rmz]; done) | omega) dJ7_copyOf_9075b_15 (fun q_2 => ?_)
    refine r_astore_n C dJ7_copyOf_9075b_17 (by decide) rfl ?_
    refine r_aload_n C dJ7_copyOf_9075b_18 rfl ?_
    refine r_iconst (v := (nI 0)) C dJ7_copyOf_9075b_19 (by decide) ?_
    refine r_aload_n C dJ7_copyOf_9075b_20 rfl ?_
    refine r_iconst (v := (nI 0)) C dJ7_copyOf_9075b_21 (by decide) ?_
    refine r_aload_n C dJ7_copyOf_9075b_22 rfl ?_
    refine t_blen C 1 rfl dJ7_copyOf_9075b_23 ?_
    refine r_iload_n C dJ7_copyOf_9075b_24 rfl ?_
    refine c_S (st := [.int (nI 0), .ref q_2, .int (nI 0), .ref v]) hX.stb C hE (C_mmin (w := U ++ (BYO cy q_2 q (fun _ => 0) :: BYO cy v m g :: E)) (x := (nI m)) (y := (nI q)) ) pk_J9_min_7cf53 qm_J7_304 rfl rfl (Nat.le_of_ble_eq_true rfl) dJ7_copyOf_9075b_25 ⟨Nat.le_of_ble_eq_true rfl, Nat.le_of_ble_eq_true rfl⟩ ⟨by first | (simp only [rmk, rmz]; omega) | (simp only [rmk, rmz]; done) | omega, by first | (simp only [rmk, rmz]; omega) | (simp only [rmk, rmz]; done) | omega⟩ (fun v9 w9 h9 => ?_) (fun _ h9 => h9.elim)
    obtain ⟨rfl, rfl⟩ := h9
    refine r_eqi (y := nI m) (mn_nI (by omega) (by omega)) ?_
    refine t_bcp (st := []) (sp := 0) (dp := 0) (n := m) C 1 0 qm_J7_150 rfl rfl hf (by first | omega | (simp [up2, *]; done) | (simp [up2, *]; omega) | (simp only [up2_eq]; omega) | (split <;> omega)) (by first | omega | (simp [up2, *]; done) | (simp [up2, *]; omega) | (simp only [up2_eq]; omega) | (split <;> omega)) (by first | omega | (simp [up2, *]; done) | (simp [up2, *]; omega) | (simp only [up2_eq]; omega) | (split <;> omega)) (by first | omega | (simp [up2, *]; done) | (simp [up2, *]; omega) | (simp only [up2_eq]; omega) | (split <;> omega)) (Nat.le_of_ble_eq_true rfl) (Nat.le_of_ble_eq_true rfl) dJ7_copyOf_9075b_28 (L' := (BYO cy q_2 q (va_cpy g (fun _ => 0) 0 0 m) :: BYO cy v m g :: E)) rfl ?_
    refine r_aload_n C dJ7_copyOf_9075b_31 rfl ?_
    exact r_aret C hr (Or.inr ⟨_, rfl⟩) dJ7_copyOf_9075b_32 ⟨q_2, _, ⟨sb_fitC hf sb_fit0, fun j hj => sb_cpy0 hj⟩, rfl, rfl⟩ (by first | (simp only [rmk, rmz]; omega) | (simp only [rmk, rmz]; done) | omega) (by first | (simp only [rmk, rmz]; omega) | (simp only [rmk, rmz]; done) | omega)
  · exact absurd h3_1 (by first | omega | (simp [up2, *]; done) | (simp [up2, *]; omega) | (simp only [up2_eq]; omega) | (split <;> omega))
theorem dJ5_ensureCapacityInternal_d00df_0 : decode cJ5_ensureCapacityInternal_d00df 0 = .ok (.aload_n 0, 1) := dqo_42 (kb_of ke_J5_ensureCapacityInternal_d00df 0 rfl)
theorem dJ5_ensureCapacityInternal_d00df_1 : decode cJ5_ensureCapacityInternal_d00df 1 = .ok (.getfield 15, 3) := dqo_180 0 15 (kb_of ke_J5_ensureCapacityInternal_d00df 1 rfl) (kb_of ke_J5_ensureCapacityInternal_d00df 2 rfl) (kb_of ke_J5_ensureCapacityInternal_d00df 3 rfl)
theorem dJ5_ensureCapacityInternal_d00df_4 : decode cJ5_ensureCapacityInternal_d00df 4 = .ok (.arraylength, 1) := dqo_190 (kb_of ke_J5_ensureCapacityInternal_d00df 4 rfl)
theorem dJ5_ensureCapacityInternal_d00df_5 : decode cJ5_ensureCapacityInternal_d00df 5 = .ok (.aload_n 0, 1) := dqo_42 (kb_of ke_J5_ensureCapacityInternal_d00df 5 rfl)
theorem dJ5_ensureCapacityInternal_d00df_6 : decode cJ5_ensureCapacityInternal_d00df 6 = .ok (.getfield 22, 3) := dqo_180 0 22 (kb_of ke_J5_ensureCapacityInternal_d00df 6 rfl) (kb_of ke_J5_ensureCapacityInternal_d00df 7 rfl) (kb_of ke_J5_ensureCapacityInternal_d00df 8 rfl)
theorem dJ5_ensureCapacityInternal_d00df_9 : decode cJ5_ensureCapacityInternal_d00df 9 = .ok (.ishr, 1) := dqo_122 (kb_of ke_J5_ensureCapacityInternal_d00df 9 rfl)
theorem dJ5_ensureCapacityInternal_d00df_10 : decode cJ5_ensureCapacityInternal_d00df 10 = .ok (.istore_n 2, 1) := dqo_61 (kb_of ke_J5_ensureCapacityInternal_d00df 10 rfl)
theorem dJ5_ensureCapacityInternal_d00df_11 : decode cJ5_ensureCapacityInternal_d00df 11 = .ok (.iload_n 1, 1) := dqo_27 (kb_of ke_J5_ensureCapacityInternal_d00df 11 rfl)
theorem dJ5_ensureCapacityInternal_d00df_12 : decode cJ5_ensureCapacityInternal_d00df 12 = .ok (.iload_n 2, 1) := dqo_28 (kb_of ke_J5_ensureCapacityInternal_d00df 12 rfl)
theorem dJ5_ensureCapacityInternal_d00df_13 : decode cJ5_ensureCapacityInternal_d00df 13 = .ok (.isub, 1) := dqo_100 (kb_of ke_J5_ensureCapacityInternal_d00df 13 rfl)
theorem dJ5_ensureCapacityInternal_d00df_14 : decode cJ5_ensureCapacityInternal_d00df 14 = .ok (.ifCond .le 24, 3) := dqo_158 0 24 (by decide) (kb_of ke_J5_ensureCapacityInternal_d00df 14 rfl) (kb_of ke_J5_ensureCapacityInternal_d00df 15 rfl) (kb_of ke_J5_ensureCapacityInternal_d00df 16 rfl)
theorem dJ5_ensureCapacityInternal_d00df_17 : decode cJ5_ensureCapacityInternal_d00df 17 = .ok (.aload_n 0, 1) := dqo_42 (kb_of ke_J5_ensureCapacityInternal_d00df 17 rfl)
theorem dJ5_ensureCapacityInternal_d00df_18 : decode cJ5_ensureCapacityInternal_d00df 18 = .ok (.aload_n 0, 1) := dqo_42 (kb_of ke_J5_ensureCapacityInternal_d00df 18 rfl)
theorem dJ5_ensureCapacityInternal_d00df_19 : decode cJ5_ensureCapacityInternal_d00df 19 = .ok (.getfield 15, 3) := dqo_180 0 15 (kb_of ke_J5_ensureCapacityInternal_d00df 19 rfl) (kb_of ke_J5_ensureCapacityInternal_d00df 20 rfl) (kb_of ke_J5_ensureCapacityInternal_d00df 21 rfl)
theorem dJ5_ensureCapacityInternal_d00df_22 : decode cJ5_ensureCapacityInternal_d00df 22 = .ok (.aload_n 0, 1) := dqo_42 (kb_of ke_J5_ensureCapacityInternal_d00df 22 rfl)
theorem dJ5_ensureCapacityInternal_d00df_23 : decode cJ5_ensureCapacityInternal_d00df 23 = .ok (.iload_n 1, 1) := dqo_27 (kb_of ke_J5_ensureCapacityInternal_d00df 23 rfl)
theorem dJ5_ensureCapacityInternal_d00df_24 : decode cJ5_ensureCapacityInternal_d00df 24 = .ok (.invokevirtual 104, 3) := dqo_182 0 104 (kb_of ke_J5_ensureCapacityInternal_d00df 24 rfl) (kb_of ke_J5_ensureCapacityInternal_d00df 25 rfl) (kb_of ke_J5_ensureCapacityInternal_d00df 26 rfl)
theorem dJ5_ensureCapacityInternal_d00df_27 : decode cJ5_ensureCapacityInternal_d00df 27 = .ok (.aload_n 0, 1) := dqo_42 (kb_of ke_J5_ensureCapacityInternal_d00df 27 rfl)
theorem dJ5_ensureCapacityInternal_d00df_28 : decode cJ5_ensureCapacityInternal_d00df 28 = .ok (.getfield 22, 3) := dqo_180 0 22 (kb_of ke_J5_ensureCapacityInternal_d00df 28 rfl) (kb_of ke_J5_ensureCapacityInternal_d00df 29 rfl) (kb_of ke_J5_ensureCapacityInternal_d00df 30 rfl)
theorem dJ5_ensureCapacityInternal_d00df_31 : decode cJ5_ensureCapacityInternal_d00df 31 = .ok (.ishl, 1) := dqo_120 (kb_of ke_J5_ensureCapacityInternal_d00df 31 rfl)
theorem dJ5_ensureCapacityInternal_d00df_32 : decode cJ5_ensureCapacityInternal_d00df 32 = .ok (.invokestatic 108, 3) := dqo_184 0 108 (kb_of ke_J5_ensureCapacityInternal_d00df 32 rfl) (kb_of ke_J5_ensureCapacityInternal_d00df 33 rfl) (kb_of ke_J5_ensureCapacityInternal_d00df 34 rfl)
theorem dJ5_ensureCapacityInternal_d00df_35 : decode cJ5_ensureCapacityInternal_d00df 35 = .ok (.putfield 15, 3) := dqo_181 0 15 (kb_of ke_J5_ensureCapacityInternal_d00df 35 rfl) (kb_of ke_J5_ensureCapacityInternal_d00df 36 rfl) (kb_of ke_J5_ensureCapacityInternal_d00df 37 rfl)
theorem dJ5_ensureCapacityInternal_d00df_38 : decode cJ5_ensureCapacityInternal_d00df 38 = .ok (.return_, 1) := dqo_177 (kb_of ke_J5_ensureCapacityInternal_d00df 38 rfl)
theorem pk_J5_newCapacity_0f7a4 : PkU yJ5_newCapacity_0f7a4 cJ5_newCapacity_0f7a4 6 (some .int) 1 := ⟨⟨qe_J5_newCapacity_0f7a4, qi_J5_newCapacity_0f7a4, qc_J5_newCapacity_0f7a4⟩, Or.inr qr_J5_newCapacity_0f7a4, by decide +kernel⟩
theorem pk_J7_copyOf_9075b : PkS yJ7_copyOf_9075b cJ7_copyOf_9075b 3 (some (.array .byte)) 2 := ⟨⟨qt_J7_copyOf_9075b, qz_J7, qc_J7_copyOf_9075b⟩, mh_J7.1, mh_J7.2, pd_29⟩
set_option maxRecDepth 100000 in
set_option maxHeartbeats 400000 in
theorem C_ensure {l : Launch} {D : va_G} {cy : Nat → ClassId} {X : (Nat → Prop) → State → Heap → Prop} {aK aV : Nat → Nat} {tO tT : Nat} {gO gT : Nat → Int32} {U E : va_W} {b : Nat} {v : Nat} {m : Nat} {n : Nat} {g : Nat → Int32} {ml : Int32} {q : Nat} (hX : EnvS X cy aK aV tO tT gO gT) (hm : m ≤ 65536) (hq : q < 300000) (hf : sb_Fit g) : Cm l D cy X yJ5_ensureCapacityInternal_d00df cJ5_ensureCapacityInternal_d00df 3 none (rmk 3 (gC q m) (gS q m) 120) [.ref b, .int (nI q)] (U ++ (SBO b v ml n :: BYO cy v m g :: E)) (fun v1 w1 => ∃ v9 : Nat, ∃ g9 : Nat → Int32, (sb_Fit g9 ∧ ∀ j, j < m → g9 j = g j) ∧ v1 = none ∧ w1 = U ++ (SBO b v9 ml n :: BYO cy v9 (sb_cap q m) g9 :: E)) (fun _ => False) := by
  refine Cm.ofF [some (.ref b), some (.int (nI q)), none] (plainFor_of_name pn_J5) rfl (Nat.le_of_ble_eq_true rfl) ?_
  intro p e s mI args below meth c A C hE hr hnt hn
  refine r_aload_n C dJ5_ensureCapacityInternal_d00df_0 rfl ?_
  refine t_sbg C 0 0 rfl (by decide) qf_J5_15 rfl rfl dJ5_ensureCapacityInternal_d00df_1 ?_
  refine t_blen C 1 rfl dJ5_ensureCapacityInternal_d00df_4 ?_
  refine r_aload_n C dJ5_ensureCapacityInternal_d00df_5 rfl ?_
  refine t_sbg C 0 1 rfl (by decide) qf_J5_22 rfl rfl dJ5_ensureCapacityInternal_d00df_6 ?_
  refine t_ishr C dJ5_ensureCapacityInternal_d00df_9 ?_
  refine r_istore_n C dJ5_ensureCapacityInternal_d00df_10 (by decide) rfl ?_
  refine r_iload_n C dJ5_ensureCapacityInternal_d00df_11 rfl ?_
  refine r_iload_n C dJ5_ensureCapacityInternal_d00df_12 rfl ?_
  refine r_isub C dJ5_ensureCapacityInternal_d00df_13 ?_
  refine r_if_le (tgt := 38) C dJ5_ensureCapacityInternal_d00df_14 (by decide) (fun h14_1 => ?_) (fun h14_1 => ?_)
  · skip
    have hqm : q ≤ m := by
      rw [Int32.le_iff_toInt_le, pk_sub_toInt (by omega) (by omega)] at h14_1
      have h8 : (0 : Int32).toInt = 0 := rfl
      omega
    exact r_vret C hr dJ5_ensureCapacityInternal_d00df_38 ⟨v, g, ⟨hf, fun _ _ => rfl⟩, rfl, by rw [show sb_cap q m = m from if_pos hqm]⟩ (by first | (simp only [rmk, rmz]; omega) | (simp only [rmk, rmz]; done) | omega) (by first | (simp only [rmk, rmz]; omega) | (simp only [rmk, rmz]; done) | omega)
  · skip
    have hqm : m < q := by
      rw [Int32.le_iff_toInt_le, pk_sub_toInt (by omega) (by omega)] at h14_1
      have h8 : (0 : Int32).toInt = 0 := rfl
      omega
    have hC : gC q m = 1 := if_neg (by omega)
    have hS : gS q m = sb_cap q m := if_neg (by omega)
    have hcg := sb_cap_ge q m
    refine r_aload_n C dJ5_ensureCapacityInternal_d00df_17 rfl ?_
    refine r_aload_n C dJ5_ensureCapacityInternal_d00df_18 rfl ?_
    refine t_sbg C 0 0 rfl (by decide) qf_J5_15 rfl rfl dJ5_ensureCapacityInternal_d00df_19 ?_
    refine r_aload_n C dJ5_ensureCapacityInternal_d00df_22 rfl ?_
    refine r_iload_n C dJ5_ensureCapacityInternal_d00df_23 rfl ?_
    refine c_U (st := [.ref v, .ref b]) hX C hE (C_newCapacity (U := U) (E := E) (b := b) (v := v) (m := m) (n := n) (g := g) (ml := ml) (q := q) hX (by first | omega | (simp [up2, *]; done) | (simp [up2, *]; omega) | (simp only [up2_eq]; omega) | (split <;> omega)) (by first | omega | (simp [up2, *]; done) | (simp [up2, *]; omega) | (simp only [up2_eq]; omega) | (split <;> omega)) (by first | omega | (simp [up2, *]; done) | (simp [up2, *]; omega) | (simp only [up2_eq]; omega) | (split <;> omega))) pk_J5_newCapacity_0f7a4 qm_J5_104 (U.length + 0) (us_g rfl) rfl rfl (Nat.le_of_ble_eq_true rfl) dJ5_ensureCapacityInternal_d00df_24 ⟨Nat.le_of_ble_eq_true rfl, Nat.le_of_ble_eq_true rfl⟩ ⟨by first | (simp only [rmk, rmz]; omega) | (simp only [rmk, rmz]; done) | omega, by first | (simp only [rmk, rmz]; omega) | (simp only [rmk, rmz]; done) | omega⟩ (fun v9 w9 h9 => ?_) (fun _ h9 => h9.elim)
    obtain ⟨rfl, rfl⟩ := h9
    refine r_aload_n C dJ5_ensureCapacityInternal_d00df_27 rfl ?_
    refine t_sbg C 0 1 rfl (by decide) qf_J5_22 rfl rfl dJ5_ensureCapacityInternal_d00df_28 ?_
    refine t_ishl C dJ5_ensureCapacityInternal_d00df_31 ?_
    refine t_perm [SBO b v ml n, BYO cy v m g] [BYO cy v m g, SBO b v ml n] [1, 0] rfl (by decide) rfl (w' := U ++ (BYO cy v m g :: SBO b v ml n :: E)) rfl ?_
    refine c_S (st := [.ref b]) hX.stb C hE (C_copyOf (U := U) (E := (SBO b v ml n :: E)) (v := v) (m := m) (g := g) (q := (sb_cap q m)) hX (by omega) (by have := cap_lt hm (show q < 268435456 by omega); unfold sb_cap; split; omega; split <;> omega) hf) pk_J7_copyOf_9075b qm_J5_108 rfl rfl (Nat.le_of_ble_eq_true rfl) dJ5_ensureCapacityInternal_d00df_32 ⟨Nat.le_of_ble_eq_true rfl, Nat.le_of_ble_eq_true rfl⟩ ⟨by first | (simp only [rmk, rmz]; omega) | (simp only [rmk, rmz]; done) | omega, by first | (simp only [rmk, rmz]; omega) | (simp only [rmk, rmz]; done) | omega⟩ (fun v9 w9 h9 => ?_) (fun _ h9 => h9.elim)
    obtain ⟨v9_2, g9_3, f_4, rfl, rfl⟩ := h9
    refine t_sbp (ty := .array .byte) C 2 0 rfl (by decide) rfl qf_J5_15 rfl rfl rfl rfl rfl dJ5_ensureCapacityInternal_d00df_35 (L' := (BYO cy v9_2 (sb_cap q m) g9_3 :: BYO cy v m g :: SBO b v9_2 ml n :: E)) rfl ?_
    refine t_perm [BYO cy v9_2 (sb_cap q m) g9_3, BYO cy v m g, SBO b v9_2 ml n] [SBO b v9_2 ml n, BYO cy v9_2 (sb_cap q m) g9_3] [2, 0] rfl (by decide) rfl (w' := U ++ (SBO b v9_2 ml n :: BYO cy v9_2 (sb_cap q m) g9_3 :: E)) rfl ?_
    exact r_vret C hr dJ5_ensureCapacityInternal_d00df_38 ⟨v9_2, g9_3, f_4, rfl, rfl⟩ (by first | (simp only [rmk, rmz]; omega) | (simp only [rmk, rmz]; done) | omega) (by first | (simp only [rmk, rmz]; omega) | (simp only [rmk, rmz]; done) | omega)
theorem dJ5_isLatin1_aae02_0 : decode cJ5_isLatin1_aae02 0 = .ok (.getstatic 18, 3) := dqo_178 0 18 (kb_of ke_J5_isLatin1_aae02 0 rfl) (kb_of ke_J5_isLatin1_aae02 1 rfl) (kb_of ke_J5_isLatin1_aae02 2 rfl)
theorem dJ5_isLatin1_aae02_3 : decode cJ5_isLatin1_aae02 3 = .ok (.ifCond .eq 14, 3) := dqo_153 0 14 (by decide) (kb_of ke_J5_isLatin1_aae02 3 rfl) (kb_of ke_J5_isLatin1_aae02 4 rfl) (kb_of ke_J5_isLatin1_aae02 5 rfl)
theorem dJ5_isLatin1_aae02_6 : decode cJ5_isLatin1_aae02 6 = .ok (.aload_n 0, 1) := dqo_42 (kb_of ke_J5_isLatin1_aae02 6 rfl)
theorem dJ5_isLatin1_aae02_7 : decode cJ5_isLatin1_aae02 7 = .ok (.getfield 22, 3) := dqo_180 0 22 (kb_of ke_J5_isLatin1_aae02 7 rfl) (kb_of ke_J5_isLatin1_aae02 8 rfl) (kb_of ke_J5_isLatin1_aae02 9 rfl)
theorem dJ5_isLatin1_aae02_10 : decode cJ5_isLatin1_aae02 10 = .ok (.ifCond .ne 7, 3) := dqo_154 0 7 (by decide) (kb_of ke_J5_isLatin1_aae02 10 rfl) (kb_of ke_J5_isLatin1_aae02 11 rfl) (kb_of ke_J5_isLatin1_aae02 12 rfl)
theorem dJ5_isLatin1_aae02_13 : decode cJ5_isLatin1_aae02 13 = .ok (.iconst 1, 1) := dqo_4 (kb_of ke_J5_isLatin1_aae02 13 rfl)
theorem dJ5_isLatin1_aae02_14 : decode cJ5_isLatin1_aae02 14 = .ok (.goto 4, 3) := dqo_167 0 4 (by decide) (kb_of ke_J5_isLatin1_aae02 14 rfl) (kb_of ke_J5_isLatin1_aae02 15 rfl) (kb_of ke_J5_isLatin1_aae02 16 rfl)
theorem dJ5_isLatin1_aae02_18 : decode cJ5_isLatin1_aae02 18 = .ok (.ireturn, 1) := dqo_172 (kb_of ke_J5_isLatin1_aae02 18 rfl)
set_option maxRecDepth 100000 in
set_option maxHeartbeats 400000 in
theorem C_isLatin1 {l : Launch} {D : va_G} {cy : Nat → ClassId} {X : (Nat → Prop) → State → Heap → Prop} {aK aV : Nat → Nat} {tO tT : Nat} {gO gT : Nat → Int32} {U E : va_W} {b : Nat} {v : Nat} {n : Nat} {ml : Int32} (hX : EnvS X cy aK aV tO tT gO gT)  : Cm l D cy X yJ5_isLatin1_aae02 cJ5_isLatin1_aae02 1 (some .boolean) (rmz 0 0) [.ref b] (U ++ (SBO b v ml n :: E)) (fun v1 w1 => v1 = some (.int (nI 1)) ∧ w1 = U ++ (SBO b v ml n :: E)) (fun _ => False) := by
  refine Cm.ofF [some (.ref b)] (plainFor_of_name pn_J5) rfl (Nat.le_of_ble_eq_true rfl) ?_
  intro p e s mI args below meth c A C hE hr hnt hn
  refine j_cs hX C hE qf_J5_18 dJ5_isLatin1_aae02_0 ?_
  refine r_ifN_eq (a := 1) (tgt := 17) C (by first | omega | (simp [up2, *]; done) | (simp [up2, *]; omega) | (simp only [up2_eq]; omega) | (split <;> omega)) dJ5_isLatin1_aae02_3 (by decide) (fun h3_1 => ?_) (fun h3_1 => ?_)
  · exact absurd h3_1 (by first | omega | (simp [up2, *]; done) | (simp [up2, *]; omega) | (simp only [up2_eq]; omega) | (split <;> omega))
  · skip
    refine r_aload_n C dJ5_isLatin1_aae02_6 rfl ?_
    refine t_sbg C 0 1 rfl (by decide) qf_J5_22 rfl rfl dJ5_isLatin1_aae02_7 ?_
    refine r_ifN_ne (a := 0) (tgt := 17) C (by first | omega | (simp [up2, *]; done) | (simp [up2, *]; omega) | (simp only [up2_eq]; omega) | (split <;> omega)) dJ5_isLatin1_aae02_10 (by decide) (fun h10_2 => ?_) (fun h10_2 => ?_)
    · exact absurd h10_2 (by first | omega | (simp [up2, *]; done) | (simp [up2, *]; omega) | (simp only [up2_eq]; omega) | (split <;> omega))
    · skip
      refine r_iconst (v := (nI 1)) C dJ5_isLatin1_aae02_13 (by decide) ?_
      refine r_goto (tgt := 18) C dJ5_isLatin1_aae02_14 (by decide) ?_
      exact r_zret C hr (by first | omega | (simp [up2, *]; done) | (simp [up2, *]; omega) | (simp only [up2_eq]; omega) | (split <;> omega)) dJ5_isLatin1_aae02_18 ⟨rfl, rfl⟩ (by first | (simp only [rmk, rmz]; omega) | (simp only [rmk, rmz]; done) | omega) (by first | (simp only [rmk, rmz]; omega) | (simp only [rmk, rmz]; done) | omega)
theorem dJ1_canEncode_fc78d_0 : decode cJ1_canEncode_fc78d 0 = .ok (.iload_n 0, 1) := dqo_26 (kb_of ke_J1_canEncode_fc78d 0 rfl)
theorem dJ1_canEncode_fc78d_1 : decode cJ1_canEncode_fc78d 1 = .ok (.sipush 255, 3) := dqo_17 0 255 (by decide) (kb_of ke_J1_canEncode_fc78d 1 rfl) (kb_of ke_J1_canEncode_fc78d 2 rfl) (kb_of ke_J1_canEncode_fc78d 3 rfl)
theorem dJ1_canEncode_fc78d_4 : decode cJ1_canEncode_fc78d 4 = .ok (.if_icmp .gt 7, 3) := dqo_163 0 7 (by decide) (kb_of ke_J1_canEncode_fc78d 4 rfl) (kb_of ke_J1_canEncode_fc78d 5 rfl) (kb_of ke_J1_canEncode_fc78d 6 rfl)
theorem dJ1_canEncode_fc78d_7 : decode cJ1_canEncode_fc78d 7 = .ok (.iconst 1, 1) := dqo_4 (kb_of ke_J1_canEncode_fc78d 7 rfl)
theorem dJ1_canEncode_fc78d_8 : decode cJ1_canEncode_fc78d 8 = .ok (.goto 4, 3) := dqo_167 0 4 (by decide) (kb_of ke_J1_canEncode_fc78d 8 rfl) (kb_of ke_J1_canEncode_fc78d 9 rfl) (kb_of ke_J1_canEncode_fc78d 10 rfl)
theorem dJ1_canEncode_fc78d_12 : decode cJ1_canEncode_fc78d 12 = .ok (.ireturn, 1) := dqo_172 (kb_of ke_J1_canEncode_fc78d 12 rfl)
set_option maxRecDepth 100000 in
set_option maxHeartbeats 400000 in
theorem C_canEncode {l : Launch} {D : va_G} {cy : Nat → ClassId} {X : (Nat → Prop) → State → Heap → Prop} {w : va_W} {ch : Nat}  (hch : ch < 256) : Cm l D cy X yJ1_canEncode_fc78d cJ1_canEncode_fc78d 1 (some .boolean) (rmz 0 0) [.int (nI ch)] (w) (fun v1 w1 => v1 = some (.int (nI 1)) ∧ w1 = w) (fun _ => False) := by
  refine Cm.ofF [some (.int (nI ch))] (plainFor_of_name pn_J1) rfl (Nat.le_of_ble_eq_true rfl) ?_
  intro p e s mI args below meth c A C hE hr hnt hn
  refine r_iload_n C dJ1_canEncode_fc78d_0 rfl ?_
  refine r_sipush (v := (nI 255)) C dJ1_canEncode_fc78d_1 (by decide) ?_
  refine r_icN_gt (a := ch) (b := 255) (tgt := 11) C (by first | omega | (simp [up2, *]; done) | (simp [up2, *]; omega) | (simp only [up2_eq]; omega) | (split <;> omega)) (by first | omega | (simp [up2, *]; done) | (simp [up2, *]; omega) | (simp only [up2_eq]; omega) | (split <;> omega)) dJ1_canEncode_fc78d_4 (by decide) (fun h4_1 => ?_) (fun h4_1 => ?_)
  · exact absurd h4_1 (by first | omega | (simp [up2, *]; done) | (simp [up2, *]; omega) | (simp only [up2_eq]; omega) | (split <;> omega))
  · skip
    refine r_iconst (v := (nI 1)) C dJ1_canEncode_fc78d_7 (by decide) ?_
    refine r_goto (tgt := 12) C dJ1_canEncode_fc78d_8 (by decide) ?_
    exact r_zret C hr (by first | omega | (simp [up2, *]; done) | (simp [up2, *]; omega) | (simp only [up2_eq]; omega) | (split <;> omega)) dJ1_canEncode_fc78d_12 ⟨rfl, rfl⟩ (by first | (simp only [rmk, rmz]; omega) | (simp only [rmk, rmz]; done) | omega) (by first | (simp only [rmk, rmz]; omega) | (simp only [rmk, rmz]; done) | omega)
theorem dJ5_append_3fe6f_0 : decode cJ5_append_3fe6f 0 = .ok (.aload_n 0, 1) := dqo_42 (kb_J5_append_3fe6f_0 0 rfl)
theorem dJ5_append_3fe6f_1 : decode cJ5_append_3fe6f 1 = .ok (.aload_n 0, 1) := dqo_42 (kb_J5_append_3fe6f_0 1 rfl)
theorem dJ5_append_3fe6f_2 : decode cJ5_append_3fe6f 2 = .ok (.getfield 79, 3) := dqo_180 0 79 (kb_J5_append_3fe6f_0 2 rfl) (kb_J5_append_3fe6f_0 3 rfl) (kb_J5_append_3fe6f_0 4 rfl)
theorem dJ5_append_3fe6f_5 : decode cJ5_append_3fe6f 5 = .ok (.iconst 1, 1) := dqo_4 (kb_J5_append_3fe6f_0 5 rfl)
theorem dJ5_append_3fe6f_6 : decode cJ5_append_3fe6f 6 = .ok (.iadd, 1) := dqo_96 (kb_J5_append_3fe6f_0 6 rfl)
theorem dJ5_append_3fe6f_7 : decode cJ5_append_3fe6f 7 = .ok (.invokevirtual 100, 3) := dqo_182 0 100 (kb_J5_append_3fe6f_0 7 rfl) (kb_J5_append_3fe6f_0 8 rfl) (kb_J5_append_3fe6f_0 9 rfl)
theorem dJ5_append_3fe6f_10 : decode cJ5_append_3fe6f 10 = .ok (.aload_n 0, 1) := dqo_42 (kb_J5_append_3fe6f_0 10 rfl)
theorem dJ5_append_3fe6f_11 : decode cJ5_append_3fe6f 11 = .ok (.invokevirtual 83, 3) := dqo_182 0 83 (kb_J5_append_3fe6f_0 11 rfl) (kb_J5_append_3fe6f_0 12 rfl) (kb_J5_append_3fe6f_0 13 rfl)
theorem dJ5_append_3fe6f_14 : decode cJ5_append_3fe6f 14 = .ok (.ifCond .eq 31, 3) := dqo_153 0 31 (by decide) (kb_J5_append_3fe6f_0 14 rfl) (kb_J5_append_3fe6f_0 15 rfl) (kb_J5_append_3fe6f_0 16 rfl)
theorem dJ5_append_3fe6f_17 : decode cJ5_append_3fe6f 17 = .ok (.iload_n 1, 1) := dqo_27 (kb_J5_append_3fe6f_0 17 rfl)
theorem dJ5_append_3fe6f_18 : decode cJ5_append_3fe6f 18 = .ok (.invokestatic 191, 3) := dqo_184 0 191 (kb_J5_append_3fe6f_0 18 rfl) (kb_J5_append_3fe6f_0 19 rfl) (kb_J5_append_3fe6f_0 20 rfl)
theorem dJ5_append_3fe6f_21 : decode cJ5_append_3fe6f 21 = .ok (.ifCond .eq 24, 3) := dqo_153 0 24 (by decide) (kb_J5_append_3fe6f_0 21 rfl) (kb_J5_append_3fe6f_0 22 rfl) (kb_J5_append_3fe6f_0 23 rfl)
theorem dJ5_append_3fe6f_24 : decode cJ5_append_3fe6f 24 = .ok (.aload_n 0, 1) := dqo_42 (kb_J5_append_3fe6f_0 24 rfl)
theorem dJ5_append_3fe6f_25 : decode cJ5_append_3fe6f 25 = .ok (.getfield 15, 3) := dqo_180 0 15 (kb_J5_append_3fe6f_0 25 rfl) (kb_J5_append_3fe6f_0 26 rfl) (kb_J5_append_3fe6f_0 27 rfl)
theorem dJ5_append_3fe6f_28 : decode cJ5_append_3fe6f 28 = .ok (.aload_n 0, 1) := dqo_42 (kb_J5_append_3fe6f_0 28 rfl)
theorem dJ5_append_3fe6f_29 : decode cJ5_append_3fe6f 29 = .ok (.dup, 1) := dqo_89 (kb_J5_append_3fe6f_0 29 rfl)
theorem dJ5_append_3fe6f_30 : decode cJ5_append_3fe6f 30 = .ok (.getfield 79, 3) := dqo_180 0 79 (kb_J5_append_3fe6f_0 30 rfl) (kb_J5_append_3fe6f_0 31 rfl) (kb_J5_append_3fe6f_0 32 rfl)
theorem dJ5_append_3fe6f_33 : decode cJ5_append_3fe6f 33 = .ok (.dup_x1, 1) := dqo_90 (kb_J5_append_3fe6f_0 33 rfl)
theorem dJ5_append_3fe6f_34 : decode cJ5_append_3fe6f 34 = .ok (.iconst 1, 1) := dqo_4 (kb_J5_append_3fe6f_0 34 rfl)
theorem dJ5_append_3fe6f_35 : decode cJ5_append_3fe6f 35 = .ok (.iadd, 1) := dqo_96 (kb_J5_append_3fe6f_0 35 rfl)
theorem dJ5_append_3fe6f_36 : decode cJ5_append_3fe6f 36 = .ok (.putfield 79, 3) := dqo_181 0 79 (kb_J5_append_3fe6f_0 36 rfl) (kb_J5_append_3fe6f_0 37 rfl) (kb_J5_append_3fe6f_0 38 rfl)
theorem dJ5_append_3fe6f_39 : decode cJ5_append_3fe6f 39 = .ok (.iload_n 1, 1) := dqo_27 (kb_J5_append_3fe6f_0 39 rfl)
theorem dJ5_append_3fe6f_40 : decode cJ5_append_3fe6f 40 = .ok (.i2b, 1) := dqo_145 (kb_J5_append_3fe6f_0 40 rfl)
theorem dJ5_append_3fe6f_41 : decode cJ5_append_3fe6f 41 = .ok (.bastore, 1) := dqo_84 (kb_J5_append_3fe6f_0 41 rfl)
theorem dJ5_append_3fe6f_42 : decode cJ5_append_3fe6f 42 = .ok (.goto 33, 3) := dqo_167 0 33 (by decide) (kb_J5_append_3fe6f_0 42 rfl) (kb_J5_append_3fe6f_0 43 rfl) (kb_J5_append_3fe6f_0 44 rfl)
theorem dJ5_append_3fe6f_75 : decode cJ5_append_3fe6f 75 = .ok (.aload_n 0, 1) := dqo_42 (kb_J5_append_3fe6f_1 11 rfl)
theorem dJ5_append_3fe6f_76 : decode cJ5_append_3fe6f 76 = .ok (.areturn, 1) := dqo_176 (kb_J5_append_3fe6f_1 12 rfl)
theorem pk_J1_canEncode_fc78d : PkS yJ1_canEncode_fc78d cJ1_canEncode_fc78d 1 (some .boolean) 1 := ⟨⟨qt_J1_canEncode_fc78d, qz_J1, qc_J1_canEncode_fc78d⟩, mh_J1.1, mh_J1.2, pd_30⟩
theorem pk_J5_ensureCapacityInternal_d00df : PkU yJ5_ensureCapacityInternal_d00df cJ5_ensureCapacityInternal_d00df 3 none 1 := ⟨⟨qe_J5_ensureCapacityInternal_d00df, qi_J5_ensureCapacityInternal_d00df, qc_J5_ensureCapacityInternal_d00df⟩, Or.inr qr_J5_ensureCapacityInternal_d00df, by decide +kernel⟩
theorem pk_J5_isLatin1_aae02 : PkU yJ5_isLatin1_aae02 cJ5_isLatin1_aae02 1 (some .boolean) 0 := ⟨⟨qe_J5_isLatin1_aae02, qi_J5_isLatin1_aae02, qc_J5_isLatin1_aae02⟩, Or.inl qs_J5_isLatin1_aae02, by decide +kernel⟩
set_option maxRecDepth 100000 in
set_option maxHeartbeats 400000 in
theorem C_asbChar {l : Launch} {D : va_G} {cy : Nat → ClassId} {X : (Nat → Prop) → State → Heap → Prop} {aK aV : Nat → Nat} {tO tT : Nat} {gO gT : Nat → Int32} {U E : va_W} {b : Nat} {v : Nat} {m : Nat} {n : Nat} {g : Nat → Int32} {ml : Int32} {tl : List Int32} {ch : Nat} (hX : EnvS X cy aK aV tO tT gO gT) (hm : m ≤ 65536) (hnm : n ≤ m) (hf : TXT g n tl) (hch : ch < 256) : Cm l D cy X yJ5_append_3fe6f cJ5_append_3fe6f 2 (some (.object "java/lang/AbstractStringBuilder")) (rmk 4 (gC (n + 1) m) (gS (n + 1) m) 160) [.ref b, .int (nI ch)] (U ++ (SBO b v ml n :: BYO cy v m g :: E)) (fun v1 w1 => ∃ v9 : Nat, ∃ g9 : Nat → Int32, (TXT g9 (n + 1) (tl ++ [chb ch])) ∧ v1 = some (.ref b) ∧ w1 = U ++ (SBO b v9 ml (n + 1) :: BYO cy v9 (sb_cap (n + 1) m) g9 :: E)) (fun _ => False) := by
  refine Cm.ofF [some (.ref b), some (.int (nI ch))] (plainFor_of_name pn_J5) rfl (Nat.le_of_ble_eq_true rfl) ?_
  intro p e s mI args below meth c A C hE hr hnt hn
  refine r_aload_n C dJ5_append_3fe6f_0 rfl ?_
  refine r_aload_n C dJ5_append_3fe6f_1 rfl ?_
  refine t_sbg C 0 3 rfl (by decide) qf_J5_79 rfl rfl dJ5_append_3fe6f_2 ?_
  refine r_iconst (v := (nI 1)) C dJ5_append_3fe6f_5 (by decide) ?_
  refine r_iaddN C dJ5_append_3fe6f_6 ?_
  refine c_U (st := []) hX C hE (C_ensure (U := U) (E := E) (b := b) (v := v) (m := m) (n := n) (g := g) (ml := ml) (q := (n + 1)) hX (by first | omega | (simp [up2, *]; done) | (simp [up2, *]; omega) | (simp only [up2_eq]; omega) | (split <;> omega)) (by first | omega | (simp [up2, *]; done) | (simp [up2, *]; omega) | (simp only [up2_eq]; omega) | (split <;> omega)) hf.1) pk_J5_ensureCapacityInternal_d00df qm_J5_100 (U.length + 0) (us_g rfl) rfl rfl (Nat.le_of_ble_eq_true rfl) dJ5_append_3fe6f_7 ⟨Nat.le_of_ble_eq_true rfl, Nat.le_of_ble_eq_true rfl⟩ ⟨by first | (simp only [rmk, rmz]; omega) | (simp only [rmk, rmz]; done) | omega, by first | (simp only [rmk, rmz]; omega) | (simp only [rmk, rmz]; done) | omega⟩ (fun v9 w9 h9 => ?_) (fun _ h9 => h9.elim)
  obtain ⟨v9_1, g9_2, f_3, rfl, rfl⟩ := h9
  have hcg := sb_cap_ge (n + 1) m
  have hcl := cap_lt (q := n + 1) hm (by omega)
  refine r_aload_n C dJ5_append_3fe6f_10 rfl ?_
  refine c_U (st := []) hX C hE (C_isLatin1 (U := U) (E := (BYO cy v9_1 (sb_cap (n + 1) m) g9_2 :: E)) (b := b) (v := v9_1) (n := n) (ml := ml) hX ) pk_J5_isLatin1_aae02 qm_J5_83 (U.length + 0) (us_g rfl) rfl rfl (Nat.le_of_ble_eq_true rfl) dJ5_append_3fe6f_11 ⟨Nat.le_of_ble_eq_true rfl, Nat.le_of_ble_eq_true rfl⟩ ⟨by first | (simp only [rmk, rmz]; omega) | (simp only [rmk, rmz]; done) | omega, by first | (simp only [rmk, rmz]; omega) | (simp only [rmk, rmz]; done) | omega⟩ (fun v9 w9 h9 => ?_) (fun _ h9 => h9.elim)
  obtain ⟨rfl, rfl⟩ := h9
  refine r_ifN_eq (a := 1) (tgt := 45) C (by first | omega | (simp [up2, *]; done) | (simp [up2, *]; omega) | (simp only [up2_eq]; omega) | (split <;> omega)) dJ5_append_3fe6f_14 (by decide) (fun h14_4 => ?_) (fun h14_4 => ?_)
  · exact absurd h14_4 (by first | omega | (simp [up2, *]; done) | (simp [up2, *]; omega) | (simp only [up2_eq]; omega) | (split <;> omega))
  · skip
    refine r_iload_n C dJ5_append_3fe6f_17 rfl ?_
    refine c_S (st := []) hX.stb C hE (C_canEncode (w := U ++ (SBO b v9_1 ml n :: BYO cy v9_1 (sb_cap (n + 1) m) g9_2 :: E)) (ch := ch) (by first | omega | (simp [up2, *]; done) | (simp [up2, *]; omega) | (simp only [up2_eq]; omega) | (split <;> omega))) pk_J1_canEncode_fc78d qm_J5_191 rfl rfl (Nat.le_of_ble_eq_true rfl) dJ5_append_3fe6f_18 ⟨Nat.le_of_ble_eq_true rfl, Nat.le_of_ble_eq_true rfl⟩ ⟨by first | (simp only [rmk, rmz]; omega) | (simp only [rmk, rmz]; done) | omega, by first | (simp only [rmk, rmz]; omega) | (simp only [rmk, rmz]; done) | omega⟩ (fun v9 w9 h9 => ?_) (fun _ h9 => h9.elim)
    obtain ⟨rfl, rfl⟩ := h9
    refine r_ifN_eq (a := 1) (tgt := 45) C (by first | omega | (simp [up2, *]; done) | (simp [up2, *]; omega) | (simp only [up2_eq]; omega) | (split <;> omega)) dJ5_append_3fe6f_21 (by decide) (fun h21_5 => ?_) (fun h21_5 => ?_)
    · exact absurd h21_5 (by first | omega | (simp [up2, *]; done) | (simp [up2, *]; omega) | (simp only [up2_eq]; omega) | (split <;> omega))
    · skip
      refine r_aload_n C dJ5_append_3fe6f_24 rfl ?_
      refine t_sbg C 0 0 rfl (by decide) qf_J5_15 rfl rfl dJ5_append_3fe6f_25 ?_
      refine r_aload_n C dJ5_append_3fe6f_28 rfl ?_
      refine r_dup C dJ5_append_3fe6f_29 rfl ?_
      refine t_sbg C 0 3 rfl (by decide) qf_J5_79 rfl rfl dJ5_append_3fe6f_30 ?_
      refine r_dup_x1 C dJ5_append_3fe6f_33 rfl rfl ?_
      refine r_iconst (v := (nI 1)) C dJ5_append_3fe6f_34 (by decide) ?_
      refine r_iaddN C dJ5_append_3fe6f_35 ?_
      refine t_sbp (ty := .int) C 0 3 rfl (by decide) rfl qf_J5_79 rfl rfl rfl rfl rfl dJ5_append_3fe6f_36 (L' := (SBO b v9_1 ml (n + 1) :: BYO cy v9_1 (sb_cap (n + 1) m) g9_2 :: E)) rfl ?_
      refine r_iload_n C dJ5_append_3fe6f_39 rfl ?_
      refine r_i2b C dJ5_append_3fe6f_40 ?_
      refine t_bst C 1 rfl (by first | omega | (simp [up2, *]; done) | (simp [up2, *]; omega) | (simp only [up2_eq]; omega) | (split <;> omega)) (by first | omega | (simp [up2, *]; done) | (simp [up2, *]; omega) | (simp only [up2_eq]; omega) | (split <;> omega)) dJ5_append_3fe6f_41 rfl ?_
      refine r_goto (tgt := 75) C dJ5_append_3fe6f_42 (by decide) ?_
      refine r_aload_n C dJ5_append_3fe6f_75 rfl ?_
      exact r_aret C hr (Or.inl ⟨_, rfl⟩) dJ5_append_3fe6f_76 ⟨v9_1, _, TXT.up (hf.keep f_3.1 (fun q hq => f_3.2 q (by omega))), rfl, rfl⟩ (by first | (simp only [rmk, rmz]; omega) | (simp only [rmk, rmz]; done) | omega) (by first | (simp only [rmk, rmz]; omega) | (simp only [rmk, rmz]; done) | omega)
theorem dJ4_append_cf468_0 : decode cJ4_append_cf468 0 = .ok (.aload_n 0, 1) := dqo_42 (kb_of ke_J4_append_cf468 0 rfl)
theorem dJ4_append_cf468_1 : decode cJ4_append_cf468 1 = .ok (.iload_n 1, 1) := dqo_27 (kb_of ke_J4_append_cf468 1 rfl)
theorem dJ4_append_cf468_2 : decode cJ4_append_cf468 2 = .ok (.invokespecial 50, 3) := dqo_183 0 50 (kb_of ke_J4_append_cf468 2 rfl) (kb_of ke_J4_append_cf468 3 rfl) (kb_of ke_J4_append_cf468 4 rfl)
theorem dJ4_append_cf468_5 : decode cJ4_append_cf468 5 = .ok (.pop, 1) := dqo_87 (kb_of ke_J4_append_cf468 5 rfl)
theorem dJ4_append_cf468_6 : decode cJ4_append_cf468 6 = .ok (.aload_n 0, 1) := dqo_42 (kb_of ke_J4_append_cf468 6 rfl)
theorem dJ4_append_cf468_7 : decode cJ4_append_cf468 7 = .ok (.areturn, 1) := dqo_176 (kb_of ke_J4_append_cf468 7 rfl)
theorem pkS_J5_append_3fe6f : PkSU yJ5_append_3fe6f cJ5_append_3fe6f 2 (some (.object "java/lang/AbstractStringBuilder")) 1 := ⟨⟨qe_J5_append_3fe6f, qi_J5_append_3fe6f, qc_J5_append_3fe6f⟩, by decide +kernel⟩
set_option maxRecDepth 100000 in
set_option maxHeartbeats 400000 in
theorem C_sbChar {l : Launch} {D : va_G} {cy : Nat → ClassId} {X : (Nat → Prop) → State → Heap → Prop} {aK aV : Nat → Nat} {tO tT : Nat} {gO gT : Nat → Int32} {U E : va_W} {b : Nat} {v : Nat} {m : Nat} {n : Nat} {g : Nat → Int32} {ml : Int32} {tl : List Int32} {ch : Nat} (hX : EnvS X cy aK aV tO tT gO gT) (hm : m ≤ 65536) (hnm : n ≤ m) (hf : TXT g n tl) (hch : ch < 256) : Cm l D cy X yJ4_append_cf468 cJ4_append_cf468 2 (some (.object "java/lang/StringBuilder")) (rmk 5 (gC (n + 1) m) (gS (n + 1) m) 200) [.ref b, .int (nI ch)] (U ++ (SBO b v ml n :: BYO cy v m g :: E)) (fun v1 w1 => ∃ v9 : Nat, ∃ g9 : Nat → Int32, (TXT g9 (n + 1) (tl ++ [chb ch])) ∧ v1 = some (.ref b) ∧ w1 = U ++ (SBO b v9 ml (n + 1) :: BYO cy v9 (sb_cap (n + 1) m) g9 :: E)) (fun _ => False) := by
  refine Cm.ofF [some (.ref b), some (.int (nI ch))] (plainFor_of_name pn_J4) rfl (Nat.le_of_ble_eq_true rfl) ?_
  intro p e s mI args below meth c A C hE hr hnt hn
  refine r_aload_n C dJ4_append_cf468_0 rfl ?_
  refine r_iload_n C dJ4_append_cf468_1 rfl ?_
  refine c_SU (st := []) hX C hE (C_asbChar (U := U) (E := E) (b := b) (v := v) (m := m) (n := n) (g := g) (ml := ml) (ch := ch) hX (by first | omega | (simp [up2, *]; done) | (simp [up2, *]; omega) | (simp only [up2_eq]; omega) | (split <;> omega)) (by first | omega | (simp [up2, *]; done) | (simp [up2, *]; omega) | (simp only [up2_eq]; omega) | (split <;> omega)) hf (by first | omega | (simp [up2, *]; done) | (simp [up2, *]; omega) | (simp only [up2_eq]; omega) | (split <;> omega))) pkS_J5_append_3fe6f qm_J4_50 (U.length + 0) (us_g rfl) rfl rfl (Nat.le_of_ble_eq_true rfl) dJ4_append_cf468_2 ⟨Nat.le_of_ble_eq_true rfl, Nat.le_of_ble_eq_true rfl⟩ ⟨by first | (simp only [rmk, rmz]; omega) | (simp only [rmk, rmz]; done) | omega, by first | (simp only [rmk, rmz]; omega) | (simp only [rmk, rmz]; done) | omega⟩ (fun v9 w9 h9 => ?_) (fun _ h9 => h9.elim)
  obtain ⟨v9_1, g9_2, f_3, rfl, rfl⟩ := h9
  refine r_pop C dJ4_append_cf468_5 rfl ?_
  refine r_aload_n C dJ4_append_cf468_6 rfl ?_
  exact r_aret C hr (Or.inl ⟨_, rfl⟩) dJ4_append_cf468_7 ⟨v9_1, g9_2, f_3, rfl, rfl⟩ (by first | (simp only [rmk, rmz]; omega) | (simp only [rmk, rmz]; done) | omega) (by first | (simp only [rmk, rmz]; omega) | (simp only [rmk, rmz]; done) | omega)
