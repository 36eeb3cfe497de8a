/-! THE MODEL AGAINST THE CLASS'S NUMBERS -/
/-- windows that are there: the same grounds; where they begin in their grounds -/
def MG (f hf : Nat → Nat → Nat) : Prop := ∀ w, 4 ≤ w → w < 8 → f 5 w = 1 → hf 2 w = f 2 w ∧ f 3 w = f 3 (f 2 w) + hf 3 w
theorem MG.same {f hf hf' : Nat → Nat → Nat} (h2 : ∀ i, hf' 2 i = hf 2 i) (h3 : ∀ i, hf' 3 i = hf 3 i) (h : MG f hf) : MG f hf' := fun w a b d => by
  rw [h2, h3]
  exact h w a b d
/-- the model's state is the class's -/
def MR (f : Nat → Nat → Nat) (r : Nat → Nat → Int32) (hf : Nat → Nat → Nat) (hq : Nat → Nat → Int32) : Prop :=
  MG f hf ∧ (∀ i, i < 4 → hf 4 i = f 4 i ∧ ∀ k, k < f 4 i → hq i k = r i k) ∧
  (∀ w, 4 ≤ w → w < 8 → hf 5 w = f 5 w ∧ hf 2 w < 8 ∧ (f 5 w = 1 → hf 4 w = f 4 w)) ∧
  (∀ k, k < 3 → hf 9 k = f 9 k ∧ hf 6 k < 8 ∧ (f 9 k = 1 → hf 6 k = f 6 k ∧ hf 7 k = f 7 k ∧ hf 8 k = f 8 k))
theorem chN_up {f : Nat → Nat → Nat} : ∀ (n w : Nat), chN f n w → chN f (n + 1) w
  | 0, _, h => h.elim
  | n + 1, w, h => by
    rcases h with h | ⟨a, b, d⟩
    · exact Or.inl h
    · exact Or.inr ⟨a, b, chN_up n _ d⟩
/-- what a where that is there looks like in the model -/
theorem MR.wh {f : Nat → Nat → Nat} {r : Nat → Nat → Int32} {hf : Nat → Nat → Nat} {hq : Nat → Nat → Int32} (hM : MR f r hf hq) (hC : CInv f) {w : Nat} (hw : w < 8) (h5 : f 5 w = 1) : hf 4 w = f 4 w ∧ hf 4 (f 1 w) = f 4 (f 1 w) ∧ f 1 w < 4 ∧ f 3 w + f 4 w ≤ f 4 (f 1 w) ∧ f 4 (f 1 w) ≤ 12 ∧ f 0 w = f 1 w ∧ (4 ≤ w → hf 5 w = 1) := by
  have h1 := hC.th hw h5
  have h2 := hC.al hw
  have h3 := hM.2.1 (f 1 w) h2.2.1
  refine ⟨?_, h3.1, h2.2.1, h1.1, h1.2.1, h2.2.2.1, fun h4 => (hM.2.2.1 w h4 hw).1.trans h5⟩
  by_cases h4 : w < 4
  · exact (hM.2.1 w h4).1
  · exact (hM.2.2.1 w (by omega) hw).2.2 h5
theorem MR.it {f : Nat → Nat → Nat} {r : Nat → Nat → Int32} {hf : Nat → Nat → Nat} {hq : Nat → Nat → Int32} (hM : MR f r hf hq) (hC : CInv f) {w k : Nat} (hw : w < 8) (h5 : f 5 w = 1) (hk : k < f 4 w) : hq (f 1 w) (f 3 w + k) = r (f 0 w) (f 3 w + k) := by
  have h1 := hM.wh hC hw h5
  rw [h1.2.2.2.2.2.1]
  exact (hM.2.1 (f 1 w) h1.2.2.1).2 _ (by omega)
/-- the first n of F, 0 behind them -/
def cutF (F : Nat → Int32) (n : Nat) : Nat → Int32 := fun j => if j < n then F j else 0
theorem cutF_0 (F : Nat → Int32) : cutF F 0 = fun _ => 0 := by
  funext j
  unfold cutF
  rw [if_neg (by omega)]
theorem cutF_up {F : Nat → Int32} {k : Nat} {x : Int32} (h : F k = x) : upd (cutF F k) k x = cutF F (k + 1) := by
  funext j
  unfold upd cutF
  by_cases hj : j = k
  · subst hj
    rw [if_pos rfl, if_pos (by omega), h]
  · rw [if_neg hj]
    by_cases h1 : j < k
    · rw [if_pos h1, if_pos (by omega)]
    · rw [if_neg h1, if_neg (by omega)]
theorem cutF_at {F : Nat → Int32} {n k : Nat} (h : k < n) : cutF F n k = F k := if_pos h
/-- n places, of which those have got their item whose number σ is below k -/
def scA (σ : Nat → Nat) (G : Nat → Int32) (n k : Nat) : Nat → Int32 := fun j => if j < n ∧ σ j < k then G (σ j) else 0
theorem scA_0 (σ : Nat → Nat) (G : Nat → Int32) (n : Nat) : scA σ G n 0 = fun _ => 0 := by
  funext j
  unfold scA
  rw [if_neg (by omega)]
theorem scA_up {σ : Nat → Nat} {G : Nat → Int32} {n k t : Nat} {x : Int32} (ht : t < n) (hs : σ t = k) (hi : ∀ j, j < n → σ j = k → j = t) (h : G k = x) : upd (scA σ G n k) t x = scA σ G n (k + 1) := by
  funext j
  unfold upd scA
  by_cases hj : j = t
  · subst hj
    rw [if_pos rfl, if_pos ⟨ht, by omega⟩, hs, h]
  · rw [if_neg hj]
    by_cases h1 : j < n ∧ σ j < k
    · rw [if_pos h1, if_pos ⟨h1.1, by omega⟩]
    · rw [if_neg h1, if_neg (fun h2 => hj (hi j h2.1 (by omega)))]
theorem scA_end {σ : Nat → Nat} {G : Nat → Int32} {n : Nat} (h : ∀ j, j < n → σ j < n) : scA σ G n n = cutF (fun j => G (σ j)) n := by
  funext j
  unfold scA cutF
  by_cases h1 : j < n
  · rw [if_pos ⟨h1, h j h1⟩, if_pos h1]
  · rw [if_neg (fun h2 => h1 h2.1), if_neg h1]
/-- items g come to the row i, from place b on, n of them -/
def wrR (hq : Nat → Nat → Int32) (i b n : Nat) (g : Nat → Int32) : Nat → Nat → Int32 := fun j k => if j = i ∧ b ≤ k ∧ k < b + n then g (k - b) else hq j k
theorem wrR_0 (hq : Nat → Nat → Int32) (i b : Nat) (g : Nat → Int32) : wrR hq i b 0 g = hq := by
  funext j k
  unfold wrR
  rw [if_neg (by omega)]
theorem wrR_up {hq : Nat → Nat → Int32} {i b n : Nat} {g : Nat → Int32} {x : Int32} (h : g n = x) : up2 (wrR hq i b n g) i (b + n) x = wrR hq i b (n + 1) g := by
  funext j k
  unfold up2 wrR
  by_cases h1 : j = i ∧ k = b + n
  · rw [if_pos h1, if_pos ⟨h1.1, by omega, by omega⟩, h1.2, Nat.add_sub_cancel_left, h]
  · rw [if_neg h1]
    by_cases h2 : j = i ∧ b ≤ k ∧ k < b + n
    · rw [if_pos h2, if_pos ⟨h2.1, h2.2.1, by omega⟩]
    · rw [if_neg h2, if_neg (fun h3 => h2 ⟨h3.1, h3.2.1, by have := fun e => h1 ⟨h3.1, e⟩; omega⟩)]
/-- cursors below k of the row of w are gone, but d; the cursors that are there alone count -/
def chO (f hf : Nat → Nat → Nat) (w d k : Nat) : Nat → Nat → Nat := fun fl i => if fl = 9 ∧ i < k ∧ i ≠ d ∧ hf 9 i ≠ 0 ∧ f 1 (hf 6 i) = f 1 w then 0 else hf fl i
theorem chO_0 (f hf : Nat → Nat → Nat) (w d : Nat) : chO f hf w d 0 = hf := by
  funext fl i
  unfold chO
  rw [if_neg (by omega)]
theorem chO_yes {f hf : Nat → Nat → Nat} {w d k : Nat} (h1 : k ≠ d) (h3 : hf 9 k ≠ 0) (h2 : f 1 (hf 6 k) = f 1 w) : up2 (chO f hf w d k) 9 k 0 = chO f hf w d (k + 1) := by
  funext fl i
  unfold up2 chO
  by_cases h : fl = 9 ∧ i = k
  · obtain ⟨rfl, rfl⟩ := h
    rw [if_pos ⟨rfl, rfl⟩, if_pos ⟨rfl, by omega, h1, h3, h2⟩]
  · rw [if_neg h]
    by_cases h4 : fl = 9 ∧ i < k ∧ i ≠ d ∧ hf 9 i ≠ 0 ∧ f 1 (hf 6 i) = f 1 w
    · rw [if_pos h4, if_pos ⟨h4.1, by omega, h4.2.2⟩]
    · rw [if_neg h4, if_neg (fun h5 => h4 ⟨h5.1, by have := fun e => h ⟨h5.1, e⟩; omega, h5.2.2⟩)]
theorem chO_no {f hf : Nat → Nat → Nat} {w d k : Nat} (h1 : k = d ∨ hf 9 k = 0 ∨ f 1 (hf 6 k) ≠ f 1 w) : chO f hf w d k = chO f hf w d (k + 1) := by
  funext fl i
  unfold chO
  by_cases h4 : fl = 9 ∧ i < k ∧ i ≠ d ∧ hf 9 i ≠ 0 ∧ f 1 (hf 6 i) = f 1 w
  · rw [if_pos h4, if_pos ⟨h4.1, by omega, h4.2.2⟩]
  · rw [if_neg h4, if_neg (fun h5 => h4 ⟨h5.1, by
      have : i ≠ k := fun e => by
        subst e
        rcases h1 with h1 | h1 | h1
        · exact h5.2.2.1 h1
        · exact h5.2.2.2.1 h1
        · exact h1 h5.2.2.2.2
      omega, h5.2.2⟩)]
/-- which windows go -/
def goF (f hf : Nat → Nat → Nat) (w k : Nat) : Nat := if hf 5 (4 + k) ≠ 0 ∧ f 1 (4 + k) = f 1 w ∧ hol f (4 + k) w = 0 then 1 else 0
theorem goF_le (f hf : Nat → Nat → Nat) (w k : Nat) : goF f hf w k ≤ 1 := by
  unfold goF
  split <;> omega
/-- windows below k that go are gone -/
def chT (f hf : Nat → Nat → Nat) (w k : Nat) : Nat → Nat → Nat := fun fl i => if fl = 5 ∧ 4 ≤ i ∧ i < 4 + k ∧ goF f hf w (i - 4) ≠ 0 then 0 else hf fl i
theorem chT_0 (f hf : Nat → Nat → Nat) (w : Nat) : chT f hf w 0 = hf := by
  funext fl i
  unfold chT
  rw [if_neg (by omega)]
theorem chT_yes {f hf : Nat → Nat → Nat} {w k : Nat} (h : goF f hf w k ≠ 0) : up2 (chT f hf w k) 5 (4 + k) 0 = chT f hf w (k + 1) := by
  funext fl i
  unfold up2 chT
  by_cases h1 : fl = 5 ∧ i = 4 + k
  · obtain ⟨rfl, rfl⟩ := h1
    rw [if_pos ⟨rfl, rfl⟩, if_pos ⟨rfl, by omega, by omega, by rw [Nat.add_sub_cancel_left]; exact h⟩]
  · rw [if_neg h1]
    by_cases h4 : fl = 5 ∧ 4 ≤ i ∧ i < 4 + k ∧ goF f hf w (i - 4) ≠ 0
    · rw [if_pos h4, if_pos ⟨h4.1, h4.2.1, by omega, h4.2.2.2⟩]
    · rw [if_neg h4, if_neg (fun h5 => h4 ⟨h5.1, h5.2.1, by have := fun e => h1 ⟨h5.1, e⟩; omega, h5.2.2.2⟩)]
theorem chT_no {f hf : Nat → Nat → Nat} {w k : Nat} (h : goF f hf w k = 0) : chT f hf w k = chT f hf w (k + 1) := by
  funext fl i
  unfold chT
  by_cases h4 : fl = 5 ∧ 4 ≤ i ∧ i < 4 + k ∧ goF f hf w (i - 4) ≠ 0
  · rw [if_pos h4, if_pos ⟨h4.1, h4.2.1, by omega, h4.2.2.2⟩]
  · rw [if_neg h4, if_neg (fun h5 => h4 ⟨h5.1, h5.2.1, by
      have : i ≠ 4 + k := fun e => by
        subst e
        rw [Nat.add_sub_cancel_left] at h5
        exact h5.2.2.2 h
      omega, h5.2.2.2⟩)]
/-- what is done by 'changed' -/
def chM (f hf : Nat → Nat → Nat) (w d : Nat) : Nat → Nat → Nat := chT f (chO f hf w d 3) w 4
/-- the holders of w have c more, g less -/
def lyM (f hf : Nat → Nat → Nat) (w c g : Nat) : Nat → Nat → Nat := fun fl i => if fl = 4 ∧ 4 ≤ i ∧ i < 8 ∧ hol f i w ≠ 0 then hf 4 i + c - g else hf fl i
/-- the row w of 'lay' -/
def layF (g h : Nat → Int32) (at0 c o n : Nat) : Nat → Int32 := cutF (fun k => if k < at0 then g k else if k < at0 + c then h (k - at0) else g (k - c + o)) n
theorem le_pred {n : Nat} {y : Int32} (hn : n ≤ 12) : y ≤ nI n - nI 1 ↔ y < nI n := by
  have e1 : (nI n).toInt = (n : Int) := nI_toInt (by omega)
  have e2 : (nI n - nI 1).toInt = (n : Int) - 1 := by
    have e3 : (nI n - nI 1).toInt = ((nI n).toInt - (nI 1).toInt).bmod (2 ^ 32) := Int32.toInt_sub _ _
    rw [e3, e1, show (nI 1).toInt = 1 from rfl]
    exact Int.bmod_eq_of_le (by omega) (by omega)
  rw [Int32.le_iff_toInt_le, Int32.lt_iff_toInt_lt, e1, e2]
  omega
theorem noW_cases {f hf : Nat → Nat → Nat} {x : Int32} (h5 : ∀ w, 4 ≤ w → w < 8 → hf 5 w = f 5 w ∧ f 5 w ≤ 1) (h4 : ∀ w, w < 4 → f 5 w = 1) (hno : noW f x) : ¬ (nI 0 ≤ x ∧ x ≤ nI 7) ∨ ∃ w, 4 ≤ w ∧ w < 8 ∧ x = nI w ∧ hf 5 w = 0 := by
  by_cases h : nI 0 ≤ x ∧ x ≤ nI 7
  · right
    obtain ⟨h1, h2⟩ := h
    rw [Int32.le_iff_toInt_le] at h1 h2
    rw [show (nI 0).toInt = 0 from rfl] at h1
    rw [show (nI 7).toInt = 7 from rfl] at h2
    have hx : x = nI x.toInt.toNat := by
      rw [← Int32.toInt_inj, nI_toInt (by omega)]
      omega
    have hlt : x.toInt.toNat < 8 := by omega
    have hn : ¬ f 5 x.toInt.toNat = 1 := fun e => hno ⟨_, hlt, hx, e⟩
    have h4' : 4 ≤ x.toInt.toNat := by
      rcases Nat.lt_or_ge x.toInt.toNat 4 with a | a
      · exact absurd (h4 _ a) hn
      · exact a
    have := h5 _ h4' hlt
    exact ⟨_, h4', hlt, hx, by omega⟩
  · exact Or.inl h
theorem chN_step {f : Nat → Nat → Nat} {n w : Nat} (h : chN f (n + 1) w) (h4 : 4 ≤ w) : w < 8 ∧ f 5 w = 1 ∧ chN f n (f 2 w) := by
  rcases h with h | h
  · omega
  · exact h
theorem hlC_row {f : Nat → Nat → Nat} (hC : CInv f) {h w d : Nat} (hw : w < 4) (hne : h ≠ w) (hd : 1 ≤ d) : hlC (f 2) h d w = 0 := by
  obtain ⟨d, rfl⟩ : ∃ d', d = d' + 1 := ⟨d - 1, by omega⟩
  unfold hlC
  rw [if_neg (by omega), if_neg (fun e => hne e.symm), (hC.rw hw).2.2.1]
  cases d with
  | zero => rfl
  | succ d =>
    unfold hlC
    rw [if_pos rfl]
theorem hlC_self {g : Nat → Nat} {h d : Nat} (hw : h < 8) (hd : 1 ≤ d) : hlC g h d h = 1 := by
  obtain ⟨d, rfl⟩ : ∃ d', d = d' + 1 := ⟨d - 1, by omega⟩
  unfold hlC
  rw [if_neg (by omega), if_pos rfl]
theorem hlC_step {g : Nat → Nat} {h w d : Nat} (hw : w < 8) (hne : h ≠ w) (hd : 1 ≤ d) : hlC g h d w = hlC g h (d - 1) (g w) := by
  obtain ⟨d, rfl⟩ : ∃ d', d = d' + 1 := ⟨d - 1, by omega⟩
  conv => lhs; unfold hlC
  rw [if_neg (by omega), if_neg (fun e => hne e.symm)]
  rfl
