/-! holders, one step at a time; what 'lay', 'gone' and 'goneWithAll' leave -/
theorem hol_step {f : Nat → Nat → Nat} (h : CInv f) {i x : Nat} (h4 : 4 ≤ x) (hx : x < 8) (h5 : f 5 x = 1) : hol f i x = if i = x then 1 else hol f i (f 2 x) := by
  have h1 := h.wi h4 hx h5
  have h2 := (chN_step h1.2.2.2.2.2 h4).2.2
  split
  · subst_vars
    exact hol_self hx
  · rename_i hne
    unfold hol
    rw [hlC_step hx hne (by decide)]
    exact hl_more h 4 7 8 (f 2 x) h1.1 h2 (by decide) (by decide)
theorem ch_hol {f : Nat → Nat → Nat} {x : Nat} (h4 : 4 ≤ x) (h : CInv f) : ∀ (d n y : Nat), y < 8 → chN f n y → hlC (f 2) x d y ≠ 0 → chN f n x
  | 0, _, _, _, _, hh => absurd rfl hh
  | d + 1, 0, _, _, hc, _ => hc.elim
  | d + 1, n + 1, y, hy, hc, hh => by
    by_cases e : x = y
    · subst e
      exact hc
    · rw [hlC_step hy e (by omega)] at hh
      by_cases hy4 : y < 4
      · exfalso
        rw [(h.rw hy4).2.2.1, hl_none] at hh
        exact hh rfl
      · obtain ⟨h1, h2, h3⟩ := chN_step hc (by omega)
        exact chN_up n x (ch_hol h4 h d n (f 2 y) (h.wi (by omega) hy h2).1 h3 hh)
theorem hol_acyc {f : Nat → Nat → Nat} (h : CInv f) {x : Nat} (h4 : 4 ≤ x) (hx : x < 8) (h5 : f 5 x = 1) : hol f x (f 2 x) = 0 := by
  rcases Nat.eq_zero_or_pos (hol f x (f 2 x)) with h0 | h0
  · exact h0
  · exfalso
    have hn : ∀ n, ¬ chN f n x := fun n => by
      induction n with
      | zero => exact id
      | succ n ih =>
        intro hc
        obtain ⟨h1, h2, h3⟩ := chN_step hc h4
        exact ih (ch_hol h4 h 8 n (f 2 x) (h.wi h4 hx h2).1 h3 (by unfold hol at h0; omega))
    exact hn 5 (h.ch hx h5)
/-- the holders of w that are none of x have c more, o less -/
def lyT (f hf : Nat → Nat → Nat) (w x c o : Nat) : Nat → Nat → Nat := fun fl i => if fl = 4 ∧ 4 ≤ i ∧ i < 8 ∧ hol f i w ≠ 0 ∧ hol f i x = 0 then hf 4 i + c - o else hf fl i
theorem lyT_0 (f hf : Nat → Nat → Nat) (w c o : Nat) : lyT f hf w w c o = hf := by
  funext fl i
  unfold lyT
  rw [if_neg (fun h => h.2.2.2.1 h.2.2.2.2)]
theorem lyT_at {f hf : Nat → Nat → Nat} {w x c o : Nat} (hx : x < 8) : lyT f hf w x c o 4 x = hf 4 x := by
  unfold lyT
  rw [if_neg (fun h => by have := hol_self (f := f) hx; omega)]
theorem lyT_step {f hf : Nat → Nat → Nat} {w x c o : Nat} (h : CInv f) (h4 : 4 ≤ x) (hx : x < 8) (h5 : f 5 x = 1) (hh : hol f x w ≠ 0) : up2 (lyT f hf w x c o) 4 x (hf 4 x + c - o) = lyT f hf w (f 2 x) c o := by
  have hs := fun i => hol_step h (i := i) h4 hx h5
  have ha := hol_acyc h h4 hx h5
  funext fl i
  unfold up2 lyT
  by_cases e : fl = 4 ∧ i = x
  · obtain ⟨rfl, rfl⟩ := e
    rw [if_pos ⟨rfl, rfl⟩, if_pos ⟨rfl, h4, hx, hh, ha⟩]
  · rw [if_neg e]
    by_cases e2 : fl = 4 ∧ 4 ≤ i ∧ i < 8 ∧ hol f i w ≠ 0 ∧ hol f i x = 0
    · rw [if_pos e2, if_pos]
      refine ⟨e2.1, e2.2.1, e2.2.2.1, e2.2.2.2.1, ?_⟩
      have := hs i
      rw [if_neg (fun q => e ⟨e2.1, q⟩)] at this
      omega
    · rw [if_neg e2, if_neg]
      intro e3
      refine e2 ⟨e3.1, e3.2.1, e3.2.2.1, e3.2.2.2.1, ?_⟩
      rw [hs i, if_neg (fun q => e ⟨e3.1, q⟩)]
      exact e3.2.2.2.2
theorem lyT_end {f hf : Nat → Nat → Nat} {w x c o : Nat} (h : CInv f) (hx : x < 4) : lyT f hf w x c o = lyM f hf w c o := by
  funext fl i
  unfold lyT lyM
  by_cases e : fl = 4 ∧ 4 ≤ i ∧ i < 8 ∧ hol f i w ≠ 0
  · rw [if_pos e, if_pos ⟨e.1, e.2.1, e.2.2.1, e.2.2.2, by
      rcases Nat.eq_zero_or_pos (hol f i x) with q | q
      · exact q
      · have := (hol_rowf h (j := i) hx).mp (by omega)
        omega⟩]
  · rw [if_neg e, if_neg (fun e2 => e ⟨e2.1, e2.2.1, e2.2.2.1, e2.2.2.2.1⟩)]
/-- the next holder up -/
theorem hol_next {f : Nat → Nat → Nat} (h : CInv f) {x w : Nat} (hw : w < 8) (h5w : f 5 w = 1) (h4 : 4 ≤ x) (hh : hol f x w ≠ 0) : hol f (f 2 x) w ≠ 0 := h.hu h4 hw h5w hh
theorem layF_up {g h : Nat → Int32} {a c o n k : Nat} {x : Int32} (hx : (if k < a then g k else if k < a + c then h (k - a) else g (k - c + o)) = x) : upd (layF g h a c o k) k x = layF g h a c o (k + 1) := cutF_up hx
theorem layF_0 (g h : Nat → Int32) (a c o : Nat) : layF g h a c o 0 = fun _ => 0 := cutF_0 _
/-- cursors over g are gone, of the first k -/
theorem up2_same {f : Nat → Nat → Nat} {k i : Nat} : up2 f k i (f k i) = f := by
  funext a b
  unfold up2
  by_cases h : a = k ∧ b = i
  · rw [if_pos h, h.1, h.2]
  · rw [if_neg h]
theorem dcF_le {f : Nat → Nat → Nat} {w k i : Nat} (h : f 9 i ≤ 1) : dcF f w k 9 i ≤ 1 := by
  unfold dcF
  split <;> omega
/-- windows below 4 + k that have g as a holder are gone, but g; and the cursors over them -/
def gaF (f hf : Nat → Nat → Nat) (g k : Nat) : Nat → Nat → Nat := fun fl i => if fl = 5 ∧ 4 ≤ i ∧ i < 4 + k ∧ i ≠ g ∧ hf 5 i ≠ 0 ∧ hol f g i ≠ 0 then 0 else if fl = 9 ∧ i < 3 ∧ 4 ≤ hf 6 i ∧ hf 6 i < 4 + k ∧ hf 6 i ≠ g ∧ hf 5 (hf 6 i) ≠ 0 ∧ hol f g (hf 6 i) ≠ 0 then 0 else hf fl i
theorem gaF_0 (f hf : Nat → Nat → Nat) (g : Nat) : gaF f hf g 0 = hf := by
  funext fl i
  unfold gaF
  rw [if_neg (by omega), if_neg (by omega)]
theorem gaF_at {f hf : Nat → Nat → Nat} {g k : Nat} : gaF f hf g k 5 (4 + k) = hf 5 (4 + k) := by
  unfold gaF
  rw [if_neg (by omega), if_neg (by omega)]
theorem gaF_9 {f hf : Nat → Nat → Nat} {g k i : Nat} (h : hf 9 i ≤ 1) : gaF f hf g k 9 i ≤ 1 := by
  unfold gaF
  split
  · omega
  · split <;> omega
theorem gaF_no {f hf : Nat → Nat → Nat} {g k : Nat} (h : 4 + k = g ∨ hf 5 (4 + k) = 0 ∨ hol f g (4 + k) = 0) : gaF f hf g k = gaF f hf g (k + 1) := by
  funext fl i
  unfold gaF
  have e1 : (fl = 5 ∧ 4 ≤ i ∧ i < 4 + k ∧ i ≠ g ∧ hf 5 i ≠ 0 ∧ hol f g i ≠ 0) ↔ (fl = 5 ∧ 4 ≤ i ∧ i < 4 + (k + 1) ∧ i ≠ g ∧ hf 5 i ≠ 0 ∧ hol f g i ≠ 0) := by
    by_cases hi : i = 4 + k
    · subst hi
      constructor
      · intro a; omega
      · rintro ⟨_, _, _, a, b, d⟩
        rcases h with h | h | h
        · exact absurd h a
        · exact absurd h b
        · exact absurd h d
    · constructor
      · rintro ⟨a, b, d, z⟩
        exact ⟨a, b, by omega, z⟩
      · rintro ⟨a, b, d, z⟩
        exact ⟨a, b, by omega, z⟩
  have e2 : (fl = 9 ∧ i < 3 ∧ 4 ≤ hf 6 i ∧ hf 6 i < 4 + k ∧ hf 6 i ≠ g ∧ hf 5 (hf 6 i) ≠ 0 ∧ hol f g (hf 6 i) ≠ 0) ↔ (fl = 9 ∧ i < 3 ∧ 4 ≤ hf 6 i ∧ hf 6 i < 4 + (k + 1) ∧ hf 6 i ≠ g ∧ hf 5 (hf 6 i) ≠ 0 ∧ hol f g (hf 6 i) ≠ 0) := by
    by_cases hi : hf 6 i = 4 + k
    · rw [hi]
      constructor
      · intro a; omega
      · rintro ⟨_, _, _, _, a, b, d⟩
        rcases h with h | h | h
        · exact absurd h a
        · exact absurd h b
        · exact absurd h d
    · constructor
      · rintro ⟨a, b, d, e, z⟩
        exact ⟨a, b, d, by omega, z⟩
      · rintro ⟨a, b, d, e, z⟩
        exact ⟨a, b, d, by omega, z⟩
  simp only [e1, e2]
theorem gaF_v9 (f hf : Nat → Nat → Nat) (g k i : Nat) : gaF f hf g k 9 i = if i < 3 ∧ 4 ≤ hf 6 i ∧ hf 6 i < 4 + k ∧ hf 6 i ≠ g ∧ hf 5 (hf 6 i) ≠ 0 ∧ hol f g (hf 6 i) ≠ 0 then 0 else hf 9 i := by
  simp only [gaF, show ¬ (9 = 5) by decide, false_and, if_false, true_and]
theorem gaF_v5 (f hf : Nat → Nat → Nat) (g k i : Nat) : gaF f hf g k 5 i = if 4 ≤ i ∧ i < 4 + k ∧ i ≠ g ∧ hf 5 i ≠ 0 ∧ hol f g i ≠ 0 then 0 else hf 5 i := by
  simp only [gaF, show ¬ (5 = 9) by decide, false_and, if_false, true_and]
theorem gaF_vo {f hf : Nat → Nat → Nat} {g k fl i : Nat} (h5 : fl ≠ 5) (h9 : fl ≠ 9) : gaF f hf g k fl i = hf fl i := by
  simp only [gaF, h5, h9, false_and, if_false]
theorem gaF_yes {f hf : Nat → Nat → Nat} {g k : Nat} (h1 : 4 + k ≠ g) (h2 : hf 5 (4 + k) ≠ 0) (h3 : hol f g (4 + k) ≠ 0) : dcF (up2 (gaF f hf g k) 5 (4 + k) 0) (4 + k) 3 = gaF f hf g (k + 1) := by
  funext fl i
  have e6 : ∀ i, up2 (gaF f hf g k) 5 (4 + k) 0 6 i = hf 6 i := fun _ => rfl
  unfold dcF
  rw [e6]
  by_cases h9 : fl = 9
  · subst h9
    rw [up2_k _ _ _ _ (by decide), gaF_v9, gaF_v9]
    by_cases hi : i < 3 ∧ hf 6 i = 4 + k
    · rw [if_pos ⟨rfl, hi⟩, if_pos]
      exact ⟨hi.1, by omega, by omega, by omega, by rw [hi.2]; exact h2, by rw [hi.2]; exact h3⟩
    · rw [if_neg (fun z => hi z.2)]
      by_cases z : i < 3 ∧ 4 ≤ hf 6 i ∧ hf 6 i < 4 + k ∧ hf 6 i ≠ g ∧ hf 5 (hf 6 i) ≠ 0 ∧ hol f g (hf 6 i) ≠ 0
      · rw [if_pos z, if_pos ⟨z.1, z.2.1, by omega, z.2.2.2⟩]
      · rw [if_neg z, if_neg (fun q => z ⟨q.1, q.2.1, by have := fun e => hi ⟨q.1, e⟩; omega, q.2.2.2⟩)]
  · rw [if_neg (fun z => h9 z.1)]
    by_cases h5 : fl = 5
    · subst h5
      rw [gaF_v5]
      by_cases hi : i = 4 + k
      · subst hi
        rw [up2_eq, if_pos ⟨by omega, by omega, h1, h2, h3⟩]
      · rw [up2_i _ _ _ _ hi, gaF_v5]
        by_cases z : 4 ≤ i ∧ i < 4 + k ∧ i ≠ g ∧ hf 5 i ≠ 0 ∧ hol f g i ≠ 0
        · rw [if_pos z, if_pos ⟨z.1, by omega, z.2.2⟩]
        · rw [if_neg z, if_neg (fun q => z ⟨q.1, by omega, q.2.2⟩)]
    · rw [up2_k _ _ _ _ h5, gaF_vo h5 h9, gaF_vo h5 h9]
/-- which go, as an array -/
def gcF (f hf : Nat → Nat → Nat) (w k : Nat) : Nat → Int32 := fun j => nI (if j < k then goF f hf w j else 0)
theorem gcF_0 (f hf : Nat → Nat → Nat) (w : Nat) : gcF f hf w 0 = fun _ => 0 := by
  funext j
  unfold gcF
  rw [if_neg (by omega)]
  rfl
theorem gcF_up {f hf : Nat → Nat → Nat} {w k v : Nat} (h : goF f hf w k = v) : upd (gcF f hf w k) k (nI v) = gcF f hf w (k + 1) := by
  funext j
  unfold upd gcF
  by_cases hj : j = k
  · subst hj
    rw [if_pos rfl, if_pos (by omega), h]
  · rw [if_neg hj]
    by_cases h1 : j < k
    · rw [if_pos h1, if_pos (by omega)]
    · rw [if_neg h1, if_neg (by omega)]
theorem gcF_at {f hf : Nat → Nat → Nat} {w k n : Nat} (h : k < n) : gcF f hf w n k = nI (goF f hf w k) := by
  unfold gcF
  rw [if_pos h]
theorem go1 {f hf : Nat → Nat → Nat} {w k : Nat} (h1 : hf 5 (4 + k) ≠ 0) (h2 : f 1 (4 + k) = f 1 w) (h3 : hol f (4 + k) w = 0) : goF f hf w k = 1 := if_pos ⟨h1, h2, h3⟩
theorem go0 {f hf : Nat → Nat → Nat} {w k : Nat} (h : hf 5 (4 + k) = 0 ∨ f 1 (4 + k) ≠ f 1 w ∨ hol f (4 + k) w ≠ 0) : goF f hf w k = 0 := if_neg (fun z => by
  rcases h with h | h | h
  · exact z.1 h
  · exact h z.2.1
  · exact h z.2.2)
