/-! what the model's calls compute -/
/-- 1 of what is no item -/
noncomputable def niF (y : Int32) : Nat := if y < nI 4294967197 then 1 else if nI 99 < y then 1 else 0
theorem niF_ok {y : Int32} (h : okI y) : niF y = 0 := by
  unfold niF
  rw [if_neg h.1, if_neg h.2]
theorem niF_no {y : Int32} (h : ¬ okI y) : niF y = 1 := by
  unfold niF
  split
  · rfl
  · split
    · rfl
    · exact absurd ⟨by assumption, by assumption⟩ h
theorem niF_le (y : Int32) : niF y ≤ 1 := by
  unfold niF
  split
  · omega
  · split <;> omega
def fuF (n : Nat) : Nat := if n = 12 then 1 else 0
theorem fuF_le (n : Nat) : fuF n ≤ 1 := by
  unfold fuF
  split <;> omega
/-- the remainder twice -/
theorem mm_val {x : Int32} {n : Nat} (h0 : 0 < n) (hn : n < 1000000) : (x - x / nI n * nI n) + nI n - ((x - x / nI n * nI n) + nI n) / nI n * nI n = nI (shN x n) := by
  have hnI : (nI n).toInt = (n : Int) := nI_toInt (by omega)
  have hrt := rem_toInt x (nI n)
  rw [hnI] at hrt
  obtain ⟨t, ht⟩ : ∃ t, t = x - x / nI n * nI n := ⟨_, rfl⟩
  rw [← ht] at hrt ⊢
  have hfm := fm_mod (show (0 : Int) < n by omega) hrt
  have hb := tmod_bounds (a := x.toInt) (show (0 : Int) < n by omega)
  rw [← hrt] at hb
  have hz : (t + nI n).toInt = t.toInt + n := by
    rw [Int32.toInt_add, hnI]
    exact Int.bmod_eq_of_le (by omega) (by omega)
  have hr2 := rem_toInt (t + nI n) (nI n)
  rw [hnI, hz] at hr2
  refine fm_val h0 (by omega) ?_
  rw [hr2, Int.tmod_eq_emod_of_nonneg (by omega), hfm, Int.add_emod_right]
  split
  · have : t.toInt % (n : Int) = (t.toInt + n) % (n : Int) := (Int.add_emod_right _ _).symm
    rw [this]
    exact Int.emod_eq_of_lt (by omega) (by omega)
  · exact Int.emod_eq_of_lt (by omega) (by omega)
/-- one more behind the first c -/
def lgF (A : Nat → Int32) (c : Nat) (x : Int32) : Nat → Int32 := upd (cutF A c) c x
/-- those of d items from k on of which P tells b, behind the c of A: how many, and they -/
def siA (P : Int32 → Nat) (b : Nat) (g : Nat → Int32) : Nat → Nat → Nat → (Nat → Int32) → (Nat → Int32)
  | 0, _, _, A => A
  | d + 1, k, c, A => if P (g k) = b then siA P b g d (k + 1) (c + 1) (lgF A c (g k)) else siA P b g d (k + 1) c A
/-- the first k of g by v, the others as they are -/
def thT (v : Nat → Int32) (g : Nat → Int32) (k : Nat) : Nat → Int32 := fun j => if j < k then v j else g j
theorem thT_0 (v g : Nat → Int32) : thT v g 0 = g := by
  funext j
  unfold thT
  rw [if_neg (by omega)]
theorem thT_up {v g : Nat → Int32} {k : Nat} {x : Int32} (h : x = v k) : upd (thT v g k) k x = thT v g (k + 1) := by
  subst h
  funext j
  unfold upd thT
  by_cases hj : j = k
  · subst hj
    rw [if_pos rfl, if_pos (by omega)]
  · rw [if_neg hj]
    by_cases h1 : j < k
    · rw [if_pos h1, if_pos (by omega)]
    · rw [if_neg h1, if_neg (by omega)]
theorem thT_at {v g : Nat → Int32} {k : Nat} : thT v g k k = g k := if_neg (by omega)
theorem thT_hi {v g : Nat → Int32} {k j : Nat} (h : k ≤ j) : thT v g k j = g j := if_neg (by omega)
/-- the item at e of A at the place n, those from there on one up -/
def insA (A : Nat → Int32) (e n : Nat) : Nat → Int32 := fun q => if q = n then A e else if n < q ∧ q ≤ e then A (q - 1) else A q
theorem insA_0 (A : Nat → Int32) (e : Nat) : insA A e e = A := by
  funext q
  unfold insA
  by_cases h : q = e
  · rw [if_pos h, h]
  · rw [if_neg h, if_neg (by omega)]
theorem insA_me {A : Nat → Int32} {e n : Nat} : insA A e n n = A e := if_pos rfl
theorem insA_lo {A : Nat → Int32} {e n q : Nat} (h : q < n) : insA A e n q = A q := by
  unfold insA
  rw [if_neg (by omega), if_neg (by omega)]
theorem insA_step {A : Nat → Int32} {e n : Nat} (h : n + 1 ≤ e) : upd (upd (insA A e (n + 1)) (n + 1) (A n)) n (A e) = insA A e n := by
  funext q
  unfold upd insA
  by_cases h1 : q = n
  · rw [if_pos h1, if_pos h1]
  · rw [if_neg h1, if_neg h1]
    by_cases h2 : q = n + 1
    · rw [if_pos h2, if_pos (by omega), h2]
      rfl
    · rw [if_neg h2, if_neg h2]
      by_cases h3 : n + 1 < q ∧ q ≤ e
      · rw [if_pos h3, if_pos (by omega)]
      · rw [if_neg h3, if_neg (by omega)]
/-- 1 if x has to stand ahead of y -/
def ahF (b : Nat) (x y : Int32) : Nat := if rkF b x < rkF b y then 1 else 0
theorem ahF_le (b : Nat) (x y : Int32) : ahF b x y ≤ 1 := by
  unfold ahF
  split <;> omega
/-- the item at e laid in; then the next d ones -/
def soA (b : Nat) : Nat → Nat → (Nat → Int32) → (Nat → Int32)
  | 0, _, A => A
  | d + 1, e, A => soA b d (e + 1) (insA A e (inP A b (A e) e))
theorem soA_ib {b : Nat} {A : Nat → Int32} (hA : ∀ j, IB (A j)) (e n : Nat) : ∀ j, IB (insA A e n j) := fun j => by
  unfold insA
  split
  · exact hA _
  · split
    · exact hA _
    · exact hA _
theorem neg_lt {x y : Int32} (hx : IB x) (hy : IB y) : -x < -y ↔ y < x := by
  have e : ∀ z : Int32, IB z → (-z).toInt = -z.toInt := fun z hz => by
    rw [Int32.toInt_neg]
    have h1 := hz.1
    have h2 := hz.2
    exact Int.bmod_eq_of_le (by omega) (by omega)
  rw [Int32.lt_iff_toInt_lt, Int32.lt_iff_toInt_lt, e x hx, e y hy]
  omega
theorem sh_lt {x y : Int32} : nI (shN x 10) < nI (shN y 10) ↔ shN x 10 < shN y 10 := by
  have h1 := shN_lt x (n := 10) (by decide)
  have h2 := shN_lt y (n := 10) (by decide)
  rw [Int32.lt_iff_toInt_lt, nI_toInt (by omega), nI_toInt (by omega)]
  omega
section MRF
variable {f hf : Nat → Nat → Nat} {r hq : Nat → Nat → Int32}
theorem MR.h5M (hM : MR f r hf hq) (hC : CInv f) : ∀ w, 4 ≤ w → w < 8 → hf 5 w = f 5 w ∧ f 5 w ≤ 1 := fun w a b => ⟨(hM.2.2.1 w a b).1, hC.h5 w b⟩
theorem CInv.h4M (hC : CInv f) : ∀ w, w < 4 → f 5 w = 1 := fun _ a => (hC.rw a).2.2.2.2.2
theorem MR.h9a (hM : MR f r hf hq) (hC : CInv f) : ∀ k, k < 3 → hf 9 k ≤ 1 := fun k a => by
  rw [(hM.2.2.2 k a).1]
  exact (hC.cu a).2.1
theorem MR.h6a (hM : MR f r hf hq) : ∀ k, k < 3 → hf 6 k < 8 := fun k a => (hM.2.2.2 k a).2.1
theorem MR.hU (hM : MR f r hf hq) (hC : CInv f) : ∀ k, k < 3 → hf 9 k ≠ 0 → hf 6 k < 8 ∧ f 5 (hf 6 k) = 1 := fun k a h => by
  have h1 := hM.2.2.2 k a
  have h2 := hC.cu a
  rw [h1.1] at h
  have h3 := h2.2.2 (by omega)
  have h4 := h1.2.2 (by omega)
  rw [h4.1]
  exact ⟨h2.1, h3.1⟩
theorem MR.ho (hM : MR f r hf hq) (hC : CInv f) {w x : Nat} (hw : w < 8) (h5w : f 5 w = 1) (hx : x < 8) (hh : hol f x w ≠ 0) : f 4 w ≤ hf 4 x ∧ hf 4 x = f 4 x ∧ f 4 x ≤ 12 := by
  have h1 := hC.ho hw h5w hh
  have h2 := hM.wh hC hx h1.2.1
  have h3 := hC.th hx h1.2.1
  omega
theorem MR.cu (hM : MR f r hf hq) (hC : CInv f) {k : Nat} (hk : k < 3) : hf 9 k = f 9 k ∧ f 9 k ≤ 1 ∧ hf 6 k < 8 ∧ (f 9 k = 1 → hf 6 k = f 6 k ∧ hf 7 k = f 7 k ∧ hf 8 k = f 8 k ∧ f 6 k < 8 ∧ f 5 (f 6 k) = 1 ∧ f 7 k ≤ f 4 (f 6 k) ∧ (f 8 k = 4294967295 ∨ f 8 k < f 4 (f 6 k))) := by
  have h1 := hM.2.2.2 k hk
  have h2 := hC.cu hk
  refine ⟨h1.1, h2.2.1, h1.2.1, fun h => ?_⟩
  have h3 := h1.2.2 h
  have h4 := h2.2.2 h
  exact ⟨h3.1, h3.2.1, h3.2.2, h2.1, h4.1, h4.2.1, h4.2.2⟩
end MRF
