/-! THE MODEL'S STATE STAYS THE CLASS'S -/
theorem chM_5 (f hf : Nat → Nat → Nat) (w d i : Nat) : chM f hf w d 5 i = if 4 ≤ i ∧ i < 8 ∧ hf 5 i ≠ 0 ∧ f 1 i = f 1 w ∧ hol f i w = 0 then 0 else hf 5 i := by
  have e5 : chO f hf w d 3 5 i = hf 5 i := if_neg (fun z => absurd z.1 (by decide))
  have e : chM f hf w d 5 i = if 5 = 5 ∧ 4 ≤ i ∧ i < 4 + 4 ∧ goF f (chO f hf w d 3) w (i - 4) ≠ 0 then 0 else chO f hf w d 3 5 i := rfl
  rw [e, e5]
  by_cases h : 4 ≤ i ∧ i < 8
  · have hg : goF f (chO f hf w d 3) w (i - 4) = if hf 5 i ≠ 0 ∧ f 1 i = f 1 w ∧ hol f i w = 0 then 1 else 0 := by
      unfold goF
      rw [show 4 + (i - 4) = i by omega, e5]
    by_cases hq : hf 5 i ≠ 0 ∧ f 1 i = f 1 w ∧ hol f i w = 0
    · have h1 : goF f (chO f hf w d 3) w (i - 4) ≠ 0 := by
        rw [hg, if_pos hq]
        decide
      rw [if_pos ⟨rfl, h.1, by omega, h1⟩, if_pos ⟨h.1, h.2, hq⟩]
    · have h1 : goF f (chO f hf w d 3) w (i - 4) = 0 := by rw [hg, if_neg hq]
      rw [if_neg (fun z => z.2.2.2 h1), if_neg (fun z => hq z.2.2)]
  · rw [if_neg (fun z => h ⟨z.2.1, by have := z.2.2.1; omega⟩), if_neg (fun z => h ⟨z.1, z.2.1⟩)]
theorem chM_9 (f hf : Nat → Nat → Nat) (w d k : Nat) : chM f hf w d 9 k = if k < 3 ∧ k ≠ d ∧ hf 9 k ≠ 0 ∧ f 1 (hf 6 k) = f 1 w then 0 else hf 9 k := by
  show (if 9 = 9 ∧ k < 3 ∧ k ≠ d ∧ hf 9 k ≠ 0 ∧ f 1 (hf 6 k) = f 1 w then 0 else hf 9 k) = _
  simp only [true_and]
theorem chM_o (f hf : Nat → Nat → Nat) (w d i : Nat) {fl : Nat} (h5 : fl ≠ 5) (h9 : fl ≠ 9) : chM f hf w d fl i = hf fl i := by
  unfold chM chT chO
  rw [if_neg (fun z => h5 z.1), if_neg (fun z => h9 z.1)]
theorem seF_5 (f : Nat → Nat → Nat) (w d i : Nat) : settleF f w d 5 i = if 4 ≤ i ∧ i < 8 ∧ f 1 i = f 1 w ∧ hol f i w = 0 then 0 else f 5 i := by
  show (if 5 = 5 ∧ 4 ≤ i ∧ i < 8 ∧ f 1 i = f 1 w ∧ hol f i w = 0 then 0 else f 5 i) = _
  simp only [true_and]
theorem seF_9 (f : Nat → Nat → Nat) (w d k : Nat) : settleF f w d 9 k = if k < 3 ∧ k ≠ d ∧ f 1 (f 6 k) = f 1 w then 0 else f 9 k := by
  show (if 9 = 9 ∧ k < 3 ∧ k ≠ d ∧ f 1 (f 6 k) = f 1 w then 0 else f 9 k) = _
  simp only [true_and]
theorem lyM_4 (f HF : Nat → Nat → Nat) (w c g i : Nat) : lyM f HF w c g 4 i = if 4 ≤ i ∧ i < 8 ∧ hol f i w ≠ 0 then HF 4 i + c - g else HF 4 i := by
  show (if 4 = 4 ∧ 4 ≤ i ∧ i < 8 ∧ hol f i w ≠ 0 then HF 4 i + c - g else HF 4 i) = _
  simp only [true_and]
theorem lyM_o (f HF : Nat → Nat → Nat) (w c g i : Nat) {fl : Nat} (h : fl ≠ 4) : lyM f HF w c g fl i = HF fl i := by
  unfold lyM
  rw [if_neg (fun z => h z.1)]
theorem cpy2_me {r : Nat → Nat → Int32} {j0 sp j1 dp n k : Nat} : cpy2 r j0 sp j1 dp n j1 k = if dp ≤ k ∧ k < dp + n then r j0 (sp + (k - dp)) else r j1 k := if_pos rfl
section MK
variable {f hf F HF : Nat → Nat → Nat} {r r1 hq R HQ : Nat → Nat → Int32}
/-- the general form; G is a window that may be new -/
theorem MR_byG {G : Nat} (hM : MR f r hf hq) (e5 : ∀ w, 4 ≤ w → w < 8 → HF 5 w = F 5 w)
    (eG : ∀ w, 4 ≤ w → w < 8 → w ≠ G → (F 5 w = 1 → f 5 w = 1) ∧ F 2 w = f 2 w ∧ F 3 w = f 3 w ∧ HF 2 w = hf 2 w ∧ HF 3 w = hf 3 w ∧ (F 5 w = 1 → F 3 (f 2 w) = f 3 (f 2 w)) ∧ (F 5 w = 1 → HF 4 w = F 4 w))
    (new : 4 ≤ G → G < 8 → HF 2 G < 8 ∧ (F 5 G = 1 → HF 2 G = F 2 G ∧ F 3 G = F 3 (F 2 G) + HF 3 G ∧ HF 4 G = F 4 G))
    (er : ∀ i, i < 4 → HF 4 i = F 4 i ∧ ∀ k, k < F 4 i → HQ i k = R i k)
    (e9 : ∀ k, k < 3 → HF 9 k = F 9 k ∧ (F 9 k = 1 → f 9 k = 1))
    (e6 : ∀ k, k < 3 → F 6 k = f 6 k ∧ F 7 k = f 7 k ∧ F 8 k = f 8 k ∧ HF 6 k = hf 6 k ∧ HF 7 k = hf 7 k ∧ HF 8 k = hf 8 k) : MR F R HF HQ := by
  refine ⟨fun w h4 hw h5 => ?_, er, fun w h4 hw => ⟨e5 w h4 hw, ?_, fun h5 => ?_⟩, fun k hk => ⟨(e9 k hk).1, ?_, fun h => ?_⟩⟩
  · by_cases e : w = G
    · subst e
      have h := (new h4 hw).2 h5
      exact ⟨h.1, h.2.1⟩
    · have a := eG w h4 hw e
      have h := hM.1 w h4 hw (a.1 h5)
      rw [a.2.2.2.1, a.2.1, a.2.2.1, a.2.2.2.2.1, a.2.2.2.2.2.1 h5]
      exact h
  · by_cases e : w = G
    · subst e
      exact (new h4 hw).1
    · rw [(eG w h4 hw e).2.2.2.1]
      exact (hM.2.2.1 w h4 hw).2.1
  · by_cases e : w = G
    · subst e
      exact ((new h4 hw).2 h5).2.2
    · exact (eG w h4 hw e).2.2.2.2.2.2 h5
  · rw [(e6 k hk).2.2.2.1]
    exact (hM.2.2.2 k hk).2.1
  · have a := (hM.2.2.2 k hk).2.2 ((e9 k hk).2 h)
    have b := e6 k hk
    exact ⟨by rw [b.2.2.2.1, b.1]; exact a.1, by rw [b.2.2.2.2.1, b.2.1]; exact a.2.1, by rw [b.2.2.2.2.2, b.2.2.1]; exact a.2.2⟩
theorem MR_by (hM : MR f r hf hq) (e5 : ∀ w, 4 ≤ w → w < 8 → HF 5 w = F 5 w ∧ (F 5 w = 1 → f 5 w = 1)) (e2 : ∀ i, F 2 i = f 2 i ∧ F 3 i = f 3 i ∧ HF 2 i = hf 2 i ∧ HF 3 i = hf 3 i)
    (e4 : ∀ w, 4 ≤ w → w < 8 → F 5 w = 1 → HF 4 w = F 4 w) (er : ∀ i, i < 4 → HF 4 i = F 4 i ∧ ∀ k, k < F 4 i → HQ i k = R i k)
    (e9 : ∀ k, k < 3 → HF 9 k = F 9 k ∧ (F 9 k = 1 → f 9 k = 1))
    (e6 : ∀ k, k < 3 → F 6 k = f 6 k ∧ F 7 k = f 7 k ∧ F 8 k = f 8 k ∧ HF 6 k = hf 6 k ∧ HF 7 k = hf 7 k ∧ HF 8 k = hf 8 k) : MR F R HF HQ :=
  MR_byG (G := 0) hM (fun w a b => (e5 w a b).1) (fun w a b _ => ⟨(e5 w a b).2, (e2 w).1, (e2 w).2.1, (e2 w).2.2.1, (e2 w).2.2.2, fun _ => (e2 (f 2 w)).2.1, e4 w a b⟩) (fun h => absurd h (by decide)) er e9 e6
theorem ch5 (hM : MR f r hf hq) {w d x : Nat} (h4 : 4 ≤ x) (hx : x < 8) : chM f hf w d 5 x = settleF f w d 5 x ∧ (settleF f w d 5 x = 1 → f 5 x = 1) := by
  rw [chM_5, seF_5, (hM.2.2.1 x h4 hx).1]
  by_cases h : f 1 x = f 1 w ∧ hol f x w = 0
  · have h1 : 4 ≤ x ∧ x < 8 ∧ f 1 x = f 1 w ∧ hol f x w = 0 := ⟨h4, hx, h⟩
    rw [if_pos h1]
    refine ⟨?_, fun z => absurd z (by decide)⟩
    split
    · rfl
    · rename_i h2
      rcases Nat.eq_zero_or_pos (f 5 x) with h5 | h5
      · exact h5
      · exact absurd ⟨h4, hx, by omega, h⟩ h2
  · have h1 : ¬ (4 ≤ x ∧ x < 8 ∧ f 1 x = f 1 w ∧ hol f x w = 0) := fun z => h z.2.2
    have h2 : ¬ (4 ≤ x ∧ x < 8 ∧ f 5 x ≠ 0 ∧ f 1 x = f 1 w ∧ hol f x w = 0) := fun z => h z.2.2.2
    rw [if_neg h1, if_neg h2]
    exact ⟨rfl, id⟩
theorem ch9 (hC : CInv f) (hM : MR f r hf hq) {w d k : Nat} (hk : k < 3) : chM f hf w d 9 k = settleF f w d 9 k ∧ (settleF f w d 9 k = 1 → f 9 k = 1) := by
  rw [chM_9, seF_9, (hM.2.2.2 k hk).1]
  have hle := (hC.cu hk).2.1
  by_cases h9 : f 9 k = 0
  · have h2 : ¬ (k < 3 ∧ k ≠ d ∧ f 9 k ≠ 0 ∧ f 1 (hf 6 k) = f 1 w) := fun z => z.2.2.1 h9
    rw [if_neg h2]
    split
    · exact ⟨h9, fun z => absurd z (by decide)⟩
    · exact ⟨rfl, id⟩
  · have e6 := ((hM.2.2.2 k hk).2.2 (by omega)).1
    rw [e6]
    by_cases h : k ≠ d ∧ f 1 (f 6 k) = f 1 w
    · have h1 : k < 3 ∧ k ≠ d ∧ f 9 k ≠ 0 ∧ f 1 (f 6 k) = f 1 w := ⟨hk, h.1, h9, h.2⟩
      have h2 : k < 3 ∧ k ≠ d ∧ f 1 (f 6 k) = f 1 w := ⟨hk, h⟩
      rw [if_pos h1, if_pos h2]
      exact ⟨rfl, fun z => absurd z (by decide)⟩
    · have h1 : ¬ (k < 3 ∧ k ≠ d ∧ f 9 k ≠ 0 ∧ f 1 (f 6 k) = f 1 w) := fun z => h ⟨z.2.1, z.2.2.2⟩
      have h2 : ¬ (k < 3 ∧ k ≠ d ∧ f 1 (f 6 k) = f 1 w) := fun z => h z.2
      rw [if_neg h1, if_neg h2]
      exact ⟨rfl, id⟩
theorem exR_is {w c p q n : Nat} (h8 : f 1 w ≠ 8) : exR (up2 f 4 8 c) r1 w p q n = cpy2 (cpy2 r1 (f 0 (f 1 w)) (f 3 w + q) (f 0 (f 1 w)) (f 3 w + p + n) (f 4 (f 1 w) - (f 3 w + q))) (f 0 8) 0 (f 0 (f 1 w)) (f 3 w + p) n := by
  show cpy2 (cpy2 r1 (f 0 (f 1 w)) (f 3 w + q) (f 0 (f 1 w)) (f 3 w + p + n) (up2 f 4 8 c 4 (f 1 w) - (f 3 w + q))) (f 0 8) 0 (f 0 (f 1 w)) (f 3 w + p) n = _
  rw [up2_i _ _ _ _ h8]
/-- c items come into w in the place of the stretch from p to q -/
theorem MR_lay {w c c2 g g2 p p2 q n d : Nat} {ins : Nat → Int32} (hC : CInv f) (hM : MR f r hf hq) (hw : w < 8) (h5w : f 5 w = 1) (hpq : p ≤ q) (hqw : q ≤ f 4 w) (hg : g = q - p) (hg2 : g2 = q - p) (hc2 : c2 = c) (hp2 : p2 = p) (hn : n = f 4 (f 1 w) - (q - p) + c) (hr1 : ∀ i, i < 4 → r1 i = r i) (hins : ∀ j, j < c → ins j = r1 (f 0 8) j) :
    MR (settleF (exL (up2 f 4 8 c) w c g 8) w d) (exR (up2 f 4 8 c) r1 w p q c) (lyM f (up2 (chM f hf w d) 4 (f 1 w) n) w c2 g2) (upR hq (f 1 w) (layF (hq (f 1 w)) ins (f 3 w + p2) c2 g2 n)) := by
  subst hg
  subst hg2
  subst hc2
  subst hp2
  have hal := hC.al hw
  have hth := hC.th hw h5w
  have hrw := hC.rw hal.2.1
  have hsp := hC.sp
  have hhr := hC.hr hw h5w
  have h4 : ∀ i, settleF (exL (up2 f 4 8 c2) w c2 (q - p2) 8) w d 4 i = if i < 8 ∧ hol f i w ≠ 0 then f 4 i + c2 - (q - p2) else if i = 8 then c2 else f 4 i := chg_4 f w c2 (q - p2) d
  refine MR_by hM (fun x h4x hx => ?_) (fun i => ⟨rfl, rfl, ?_, ?_⟩) (fun x h4x hx h5 => ?_) (fun i hi => ?_) (fun k hk => ?_) (fun k hk => ⟨rfl, rfl, rfl, ?_, ?_, ?_⟩)
  · rw [lyM_o _ _ _ _ _ _ (by decide), up2_k _ _ _ _ (by decide)]
    exact ch5 hM h4x hx
  · rw [lyM_o _ _ _ _ _ _ (by decide), up2_k _ _ _ _ (by decide), chM_o _ _ _ _ _ (by decide) (by decide)]
  · rw [lyM_o _ _ _ _ _ _ (by decide), up2_k _ _ _ _ (by decide), chM_o _ _ _ _ _ (by decide) (by decide)]
  · have h51 : f 5 x = 1 := (ch5 hM (w := w) (d := d) h4x hx).2 h5
    have e := (hM.2.2.1 x h4x hx).2.2 h51
    have hx1 : x ≠ f 1 w := by omega
    rw [lyM_4, h4, up2_i _ _ _ _ hx1, chM_o _ _ _ _ _ (by decide) (by decide), e]
    by_cases hh : hol f x w ≠ 0
    · have a1 : 4 ≤ x ∧ x < 8 ∧ hol f x w ≠ 0 := ⟨h4x, hx, hh⟩
      have a2 : x < 8 ∧ hol f x w ≠ 0 := ⟨hx, hh⟩
      rw [if_pos a1, if_pos a2]
    · have a1 : ¬ (4 ≤ x ∧ x < 8 ∧ hol f x w ≠ 0) := fun z => hh z.2.2
      have a2 : ¬ (x < 8 ∧ hol f x w ≠ 0) := fun z => hh z.2
      rw [if_neg a1, if_neg a2, if_neg (show ¬ x = 8 by omega)]
  · have a1 : ¬ (4 ≤ i ∧ i < 8 ∧ hol f i w ≠ 0) := fun z => absurd z.1 (by omega)
    rw [lyM_4, if_neg a1, h4]
    by_cases hi1 : i = f 1 w
    · subst hi1
      have a2 : f 1 w < 8 ∧ hol f (f 1 w) w ≠ 0 := ⟨by omega, hhr⟩
      rw [if_pos a2, up2_eq]
      refine ⟨by omega, fun k hk => ?_⟩
      have hrow := (hM.2.1 (f 1 w) hal.2.1).2
      rw [upR_me, exR_is (show f 1 w ≠ 8 by omega), hrw.1, hsp.1, cpy2_me]
      have hkn : k < n := by omega
      show (if k < n then (if k < f 3 w + p2 then hq (f 1 w) k else if k < f 3 w + p2 + c2 then ins (k - (f 3 w + p2)) else hq (f 1 w) (k - c2 + (q - p2))) else 0) = _
      rw [if_pos hkn]
      by_cases b1 : k < f 3 w + p2
      · rw [if_pos b1, if_neg (fun z : f 3 w + p2 ≤ k ∧ k < f 3 w + p2 + c2 => absurd z.1 (by omega)), cpy2_me, if_neg (fun z : f 3 w + p2 + c2 ≤ k ∧ k < f 3 w + p2 + c2 + (f 4 (f 1 w) - (f 3 w + q)) => absurd z.1 (by omega)), hr1 _ hal.2.1]
        exact hrow k (by omega)
      · rw [if_neg b1]
        by_cases b2 : k < f 3 w + p2 + c2
        · have b3 : f 3 w + p2 ≤ k ∧ k < f 3 w + p2 + c2 := ⟨by omega, b2⟩
          rw [if_pos b2, if_pos b3, cpy2_off (show 4 ≠ f 1 w by omega), Nat.zero_add, hins _ (by omega), hsp.1]
        · have b3 : ¬ (f 3 w + p2 ≤ k ∧ k < f 3 w + p2 + c2) := fun z => b2 z.2
          have b4 : f 3 w + p2 + c2 ≤ k ∧ k < f 3 w + p2 + c2 + (f 4 (f 1 w) - (f 3 w + q)) := ⟨by omega, by omega⟩
          rw [if_neg b2, if_neg b3, cpy2_me, if_pos b4, hr1 _ hal.2.1, show f 3 w + q + (k - (f 3 w + p2 + c2)) = k - c2 + (q - p2) by omega]
          exact hrow _ (by omega)
    · have h0 : ¬ (i < 8 ∧ hol f i w ≠ 0) := fun z => hi1 ((hC.rw hi).2.1.symm.trans (hC.ho hw h5w z.2).2.2.1)
      rw [if_neg h0, if_neg (show ¬ i = 8 by omega), up2_i _ _ _ _ hi1, chM_o _ _ _ _ _ (by decide) (by decide)]
      refine ⟨(hM.2.1 i hi).1, fun k hk => ?_⟩
      rw [upR_ne hi1, exR_is (show f 1 w ≠ 8 by omega), hrw.1, cpy2_off hi1, cpy2_off hi1, hr1 i hi]
      exact (hM.2.1 i hi).2 k hk
  · rw [lyM_o _ _ _ _ _ _ (by decide), up2_k _ _ _ _ (by decide)]
    exact ch9 hC hM hk
  · rw [lyM_o _ _ _ _ _ _ (by decide), up2_k _ _ _ _ (by decide), chM_o _ _ _ _ _ (by decide) (by decide)]
  · rw [lyM_o _ _ _ _ _ _ (by decide), up2_k _ _ _ _ (by decide), chM_o _ _ _ _ _ (by decide) (by decide)]
  · rw [lyM_o _ _ _ _ _ _ (by decide), up2_k _ _ _ _ (by decide), chM_o _ _ _ _ _ (by decide) (by decide)]
/-- a row that the spare part gives anew -/
theorem MR_bec {i c n d : Nat} {G : Nat → Int32} (hC : CInv f) (hM : MR f r hf hq) (hi : i < 4) (hn : n = c) (hr1 : ∀ j, j < 4 → r1 j = r j) (hG : ∀ k, k < c → G k = r1 (f 0 8) k) :
    MR (settleF (up2 (up2 f 4 8 c) 4 i c) i d) (cpy2 r1 (f 0 8) (f 3 8) (f 0 i) (f 3 i) c) (up2 (chM f hf i d) 4 i n) (upR hq i G) := by
  subst hn
  have hsp := hC.sp
  have hri := hC.rw hi
  have h5 := hri.2.2.2.2.2
  have h4 : ∀ j, j ≠ i → j < 8 → settleF (up2 (up2 f 4 8 n) 4 i n) i d 4 j = f 4 j := fun j hj hj8 => by
    show up2 (up2 f 4 8 n) 4 i n 4 j = f 4 j
    rw [up2_i _ _ _ _ hj, up2_i _ _ _ _ (by omega)]
  have h4i : settleF (up2 (up2 f 4 8 n) 4 i n) i d 4 i = n := by
    show up2 (up2 f 4 8 n) 4 i n 4 i = n
    rw [up2_eq]
  refine MR_by hM (fun x h4x hx => ?_) (fun j => ⟨rfl, rfl, ?_, ?_⟩) (fun x h4x hx h5 => ?_) (fun j hj => ?_) (fun k hk => ?_) (fun k hk => ⟨rfl, rfl, rfl, ?_, ?_, ?_⟩)
  · rw [up2_k _ _ _ _ (by decide)]
    exact ch5 hM h4x hx
  · rw [up2_k _ _ _ _ (by decide), chM_o _ _ _ _ _ (by decide) (by decide)]
  · rw [up2_k _ _ _ _ (by decide), chM_o _ _ _ _ _ (by decide) (by decide)]
  · have h51 : f 5 x = 1 := (ch5 hM (w := i) (d := d) h4x hx).2 h5
    rw [h4 x (by omega) hx, up2_i _ _ _ _ (by omega), chM_o _ _ _ _ _ (by decide) (by decide)]
    exact (hM.2.2.1 x h4x hx).2.2 h51
  · by_cases e : j = i
    · subst e
      rw [h4i, up2_eq]
      refine ⟨rfl, fun k hk => ?_⟩
      rw [upR_me, hri.1, hri.2.2.2.1, cpy2_me, if_pos (⟨by omega, by omega⟩ : 0 ≤ k ∧ k < 0 + n), hsp.2.1, hG k hk, Nat.zero_add, Nat.sub_zero]
    · rw [h4 j e (by omega), up2_i _ _ _ _ e, chM_o _ _ _ _ _ (by decide) (by decide)]
      refine ⟨(hM.2.1 j hj).1, fun k hk => ?_⟩
      rw [upR_ne e, hri.1, cpy2_off e, hr1 j hj]
      exact (hM.2.1 j hj).2 k hk
  · rw [up2_k _ _ _ _ (by decide)]
    exact ch9 hC hM hk
  · rw [up2_k _ _ _ _ (by decide), chM_o _ _ _ _ _ (by decide) (by decide)]
  · rw [up2_k _ _ _ _ (by decide), chM_o _ _ _ _ _ (by decide) (by decide)]
  · rw [up2_k _ _ _ _ (by decide), chM_o _ _ _ _ _ (by decide) (by decide)]
/-- the items alone change, and the spare part's length -/
theorem MR_itm (hM : MR f r hf hq) (e : ∀ fl i, fl ≠ 4 ∨ i < 8 → F fl i = f fl i) (hI : ∀ i k, i < 4 → k < f 4 i → HQ i k = R i k) : MR F R hf HQ := by
  have a : ∀ fl i, fl ≠ 4 → F fl i = f fl i := fun fl i h => e fl i (Or.inl h)
  refine MR_by hM (fun x h4x hx => ?_) (fun i => ⟨a 2 i (by decide), a 3 i (by decide), rfl, rfl⟩) (fun x h4x hx h5 => ?_) (fun i hi => ?_) (fun k hk => ?_) (fun k hk => ⟨a 6 k (by decide), a 7 k (by decide), a 8 k (by decide), rfl, rfl, rfl⟩)
  · rw [a 5 x (by decide)]
    exact ⟨(hM.2.2.1 x h4x hx).1, id⟩
  · rw [a 5 x (by decide)] at h5
    rw [e 4 x (Or.inr hx)]
    exact (hM.2.2.1 x h4x hx).2.2 h5
  · rw [e 4 i (Or.inr (by omega))]
    exact ⟨(hM.2.1 i hi).1, fun k hk => hI i k hi hk⟩
  · rw [a 9 k (by decide)]
    exact ⟨(hM.2.2.2 k hk).1, id⟩
theorem MR_itm8 {c : Nat} (hM : MR f r hf hq) (hI : ∀ i k, i < 4 → k < f 4 i → HQ i k = R i k) : MR (up2 f 4 8 c) R hf HQ :=
  MR_itm hM (fun fl i h => by
    rcases h with h | h
    · exact up2_k _ _ _ _ h
    · exact up2_i _ _ _ _ (by omega)) hI
/-- they change, and the row is settled -/
theorem MR_itmS {w d : Nat} (hC : CInv f) (hM : MR f r hf hq) (hI : ∀ i k, i < 4 → k < f 4 i → HQ i k = R i k) : MR (settleF f w d) R (chM f hf w d) HQ := by
  refine MR_by hM (fun x h4x hx => ch5 hM h4x hx) (fun i => ⟨rfl, rfl, chM_o _ _ _ _ _ (by decide) (by decide), chM_o _ _ _ _ _ (by decide) (by decide)⟩) (fun x h4x hx h5 => ?_) (fun i hi => ?_) (fun k hk => ch9 hC hM hk) (fun k hk => ⟨rfl, rfl, rfl, chM_o _ _ _ _ _ (by decide) (by decide), chM_o _ _ _ _ _ (by decide) (by decide), chM_o _ _ _ _ _ (by decide) (by decide)⟩)
  · rw [chM_o _ _ _ _ _ (by decide) (by decide)]
    exact (hM.2.2.1 x h4x hx).2.2 ((ch5 hM h4x hx).2 h5)
  · rw [chM_o _ _ _ _ _ (by decide) (by decide)]
    exact ⟨(hM.2.1 i hi).1, fun k hk => hI i k hi hk⟩
theorem MR_itmS8 {w d c : Nat} (hC : CInv f) (hM : MR f r hf hq) (hI : ∀ i k, i < 4 → k < f 4 i → HQ i k = R i k) : MR (settleF (up2 f 4 8 c) w d) R (chM f hf w d) HQ :=
  MR_itm (f := settleF f w d) (MR_itmS hC hM hI) (fun fl i h => by
    rcases h with h | h
    · by_cases h5 : fl = 5
      · subst h5
        rfl
      · by_cases h9 : fl = 9
        · subst h9
          rfl
        · unfold settleF stW stU
          rw [if_neg (fun z => h5 z.1), if_neg (fun z => h9 z.1), if_neg (fun z => h5 z.1), if_neg (fun z => h9 z.1)]
          exact up2_k _ _ _ _ h
    · by_cases h5 : fl = 5
      · subst h5
        rfl
      · by_cases h9 : fl = 9
        · subst h9
          rfl
        · unfold settleF stW stU
          rw [if_neg (fun z => h5 z.1), if_neg (fun z => h9 z.1), if_neg (fun z => h5 z.1), if_neg (fun z => h9 z.1)]
          exact up2_i _ _ _ _ (by omega)) (fun i k hi hk => (MR_itmS (w := w) (d := d) hC hM hI).2.1 i hi |>.2 k hk)
/-- a stretch of a where gets other items -/
theorem itm_str {w n : Nat} {g : Nat → Int32} (hC : CInv f) (hM : MR f r hf hq) (hw : w < 8) (h5w : f 5 w = 1) (hn : n = f 4 w) (hR : ∀ j, j < 4 → j ≠ f 1 w → R j = r j) (hin : ∀ t, t < f 4 w → R (f 1 w) (f 3 w + t) = g t) (hout : ∀ k, k < f 3 w ∨ f 3 w + f 4 w ≤ k → R (f 1 w) k = r (f 1 w) k) : ∀ i k, i < 4 → k < f 4 i → wrR hq (f 1 w) (f 3 w) n g i k = R i k := by
  subst hn
  intro i k hi hk
  unfold wrR
  by_cases e : i = f 1 w
  · subst e
    by_cases b : f 3 w ≤ k ∧ k < f 3 w + f 4 w
    · have c : f 1 w = f 1 w ∧ f 3 w ≤ k ∧ k < f 3 w + f 4 w := ⟨rfl, b⟩
      rw [if_pos c, ← hin (k - f 3 w) (by omega), show f 3 w + (k - f 3 w) = k by omega]
    · have c : ¬ (f 1 w = f 1 w ∧ f 3 w ≤ k ∧ k < f 3 w + f 4 w) := fun z => b z.2
      rw [if_neg c, hout k (by omega)]
      exact (hM.2.1 _ hi).2 k hk
  · have c : ¬ (i = f 1 w ∧ f 3 w ≤ k ∧ k < f 3 w + f 4 w) := fun z => e z.1
    rw [if_neg c, hR i hi e]
    exact (hM.2.1 i hi).2 k hk
/-- one cursor changes -/
theorem MR_cur {k0 : Nat} (hM : MR f r hf hq) (e : ∀ fl i, fl < 6 ∨ i ≠ k0 → F fl i = f fl i) (e' : ∀ fl i, fl < 6 ∨ i ≠ k0 → HF fl i = hf fl i) (h9 : HF 9 k0 = F 9 k0) (h6 : HF 6 k0 < 8) (hd : F 9 k0 = 1 → HF 6 k0 = F 6 k0 ∧ HF 7 k0 = F 7 k0 ∧ HF 8 k0 = F 8 k0) : MR F r HF hq := by
  have a : ∀ fl i, fl < 6 → F fl i = f fl i := fun fl i h => e fl i (Or.inl h)
  have b : ∀ fl i, fl < 6 → HF fl i = hf fl i := fun fl i h => e' fl i (Or.inl h)
  refine ⟨fun w h4 hw h5 => ?_, fun i hi => ?_, fun w h4 hw => ?_, fun k hk => ?_⟩
  · rw [a 5 w (by decide)] at h5
    rw [b 2 w (by decide), b 3 w (by decide), a 2 w (by decide), a 3 w (by decide), a 3 _ (by decide)]
    exact hM.1 w h4 hw h5
  · rw [a 4 i (by decide), b 4 i (by decide)]
    exact hM.2.1 i hi
  · rw [a 5 w (by decide), b 5 w (by decide), b 2 w (by decide), a 4 w (by decide), b 4 w (by decide)]
    exact hM.2.2.1 w h4 hw
  · by_cases ek : k = k0
    · subst ek
      exact ⟨h9, h6, hd⟩
    · rw [e 9 k (Or.inr ek), e' 9 k (Or.inr ek), e' 6 k (Or.inr ek), e 6 k (Or.inr ek), e 7 k (Or.inr ek), e' 7 k (Or.inr ek), e 8 k (Or.inr ek), e' 8 k (Or.inr ek)]
      exact hM.2.2.2 k hk
end MK
