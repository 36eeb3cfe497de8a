/-! ===== 70.mkeep -/
section PT_70
/-! THE MODEL'S STATE STAYS THE CLASS'S -/
theorem chM_5 (f hf : Nat → Nat → Nat) (w d i : Nat) : chM f hf w d 5 i = if 4 ≤ i ∧ i < 8 ∧ hf 5 i ≠ 0 ∧ f 1 i = f 1 w ∧ hol f i w = 0 then 0 else hf 5 i := by
  have e5 : chO f hf w d 3 5 i = hf 5 i := if_neg (fun z => absurd z.1 (by decide))
  have e : chM f hf w d 5 i = if 5 = 5 ∧ 4 ≤ i ∧ i < 4 + 4 ∧ goF f (chO f hf w d 3) w (i - 4) ≠ 0 then 0 else chO f hf w d 3 5 i := rfl
  rw [e, e5]
  by_cases h : 4 ≤ i ∧ i < 8
  · have hg : goF f (chO f hf w d 3) w (i - 4) = if hf 5 i ≠ 0 ∧ f 1 i = f 1 w ∧ hol f i w = 0 then 1 else 0 := by
      unfold goF
      rw [show 4 + (i - 4) = i by omega, e5]
    by_cases hq : hf 5 i ≠ 0 ∧ f 1 i = f 1 w ∧ hol f i w = 0
    · have h1 : goF f (chO f hf w d 3) w (i - 4) ≠ 0 := by
        rw [hg, if_pos hq]
        decide
      rw [if_pos ⟨rfl, h.1, by omega, h1⟩, if_pos ⟨h.1, h.2, hq⟩]
    · have h1 : goF f (chO f hf w d 3) w (i - 4) = 0 := by rw [hg, if_neg hq]
      rw [if_neg (fun z => z.2.2.2 h1), if_neg (fun z => hq z.2.2)]
  · rw [if_neg (fun z => h ⟨z.2.1, by have := z.2.2.1; omega⟩), if_neg (fun z => h ⟨z.1, z.2.1⟩)]
theorem chM_9 (f hf : Nat → Nat → Nat) (w d k : Nat) : chM f hf w d 9 k = if k < 3 ∧ k ≠ d ∧ hf 9 k ≠ 0 ∧ f 1 (hf 6 k) = f 1 w then 0 else hf 9 k := by
  show (if 9 = 9 ∧ k < 3 ∧ k ≠ d ∧ hf 9 k ≠ 0 ∧ f 1 (hf 6 k) = f 1 w then 0 else hf 9 k) = _
  simp only [true_and]
theorem chM_o (f hf : Nat → Nat → Nat) (w d i : Nat) {fl : Nat} (h5 : fl ≠ 5) (h9 : fl ≠ 9) : chM f hf w d fl i = hf fl i := by
  unfold chM chT chO
  rw [if_neg (fun z => h5 z.1), if_neg (fun z => h9 z.1)]
theorem seF_5 (f : Nat → Nat → Nat) (w d i : Nat) : settleF f w d 5 i = if 4 ≤ i ∧ i < 8 ∧ f 1 i = f 1 w ∧ hol f i w = 0 then 0 else f 5 i := by
  show (if 5 = 5 ∧ 4 ≤ i ∧ i < 8 ∧ f 1 i = f 1 w ∧ hol f i w = 0 then 0 else f 5 i) = _
  simp only [true_and]
theorem seF_9 (f : Nat → Nat → Nat) (w d k : Nat) : settleF f w d 9 k = if k < 3 ∧ k ≠ d ∧ f 1 (f 6 k) = f 1 w then 0 else f 9 k := by
  show (if 9 = 9 ∧ k < 3 ∧ k ≠ d ∧ f 1 (f 6 k) = f 1 w then 0 else f 9 k) = _
  simp only [true_and]
theorem lyM_4 (f HF : Nat → Nat → Nat) (w c g i : Nat) : lyM f HF w c g 4 i = if 4 ≤ i ∧ i < 8 ∧ hol f i w ≠ 0 then HF 4 i + c - g else HF 4 i := by
  show (if 4 = 4 ∧ 4 ≤ i ∧ i < 8 ∧ hol f i w ≠ 0 then HF 4 i + c - g else HF 4 i) = _
  simp only [true_and]
theorem lyM_o (f HF : Nat → Nat → Nat) (w c g i : Nat) {fl : Nat} (h : fl ≠ 4) : lyM f HF w c g fl i = HF fl i := by
  unfold lyM
  rw [if_neg (fun z => h z.1)]
theorem cpy2_me {r : Nat → Nat → Int32} {j0 sp j1 dp n k : Nat} : cpy2 r j0 sp j1 dp n j1 k = if dp ≤ k ∧ k < dp + n then r j0 (sp + (k - dp)) else r j1 k := if_pos rfl
section MK
variable {f hf F HF : Nat → Nat → Nat} {r r1 hq R HQ : Nat → Nat → Int32}
/-- the general form; G is a window that may be new -/
theorem MR_byG {G : Nat} (hM : MR f r hf hq) (e5 : ∀ w, 4 ≤ w → w < 8 → HF 5 w = F 5 w)
    (eG : ∀ w, 4 ≤ w → w < 8 → w ≠ G → (F 5 w = 1 → f 5 w = 1) ∧ F 2 w = f 2 w ∧ F 3 w = f 3 w ∧ HF 2 w = hf 2 w ∧ HF 3 w = hf 3 w ∧ (F 5 w = 1 → F 3 (f 2 w) = f 3 (f 2 w)) ∧ (F 5 w = 1 → HF 4 w = F 4 w))
    (new : 4 ≤ G → G < 8 → HF 2 G < 8 ∧ (F 5 G = 1 → HF 2 G = F 2 G ∧ F 3 G = F 3 (F 2 G) + HF 3 G ∧ HF 4 G = F 4 G))
    (er : ∀ i, i < 4 → HF 4 i = F 4 i ∧ ∀ k, k < F 4 i → HQ i k = R i k)
    (e9 : ∀ k, k < 3 → HF 9 k = F 9 k ∧ (F 9 k = 1 → f 9 k = 1))
    (e6 : ∀ k, k < 3 → F 6 k = f 6 k ∧ F 7 k = f 7 k ∧ F 8 k = f 8 k ∧ HF 6 k = hf 6 k ∧ HF 7 k = hf 7 k ∧ HF 8 k = hf 8 k) : MR F R HF HQ := by
  refine ⟨fun w h4 hw h5 => ?_, er, fun w h4 hw => ⟨e5 w h4 hw, ?_, fun h5 => ?_⟩, fun k hk => ⟨(e9 k hk).1, ?_, fun h => ?_⟩⟩
  · by_cases e : w = G
    · subst e
      have h := (new h4 hw).2 h5
      exact ⟨h.1, h.2.1⟩
    · have a := eG w h4 hw e
      have h := hM.1 w h4 hw (a.1 h5)
      rw [a.2.2.2.1, a.2.1, a.2.2.1, a.2.2.2.2.1, a.2.2.2.2.2.1 h5]
      exact h
  · by_cases e : w = G
    · subst e
      exact (new h4 hw).1
    · rw [(eG w h4 hw e).2.2.2.1]
      exact (hM.2.2.1 w h4 hw).2.1
  · by_cases e : w = G
    · subst e
      exact ((new h4 hw).2 h5).2.2
    · exact (eG w h4 hw e).2.2.2.2.2.2 h5
  · rw [(e6 k hk).2.2.2.1]
    exact (hM.2.2.2 k hk).2.1
  · have a := (hM.2.2.2 k hk).2.2 ((e9 k hk).2 h)
    have b := e6 k hk
    exact ⟨by rw [b.2.2.2.1, b.1]; exact a.1, by rw [b.2.2.2.2.1, b.2.1]; exact a.2.1, by rw [b.2.2.2.2.2, b.2.2.1]; exact a.2.2⟩
theorem MR_by (hM : MR f r hf hq) (e5 : ∀ w, 4 ≤ w → w < 8 → HF 5 w = F 5 w ∧ (F 5 w = 1 → f 5 w = 1)) (e2 : ∀ i, F 2 i = f 2 i ∧ F 3 i = f 3 i ∧ HF 2 i = hf 2 i ∧ HF 3 i = hf 3 i)
    (e4 : ∀ w, 4 ≤ w → w < 8 → F 5 w = 1 → HF 4 w = F 4 w) (er : ∀ i, i < 4 → HF 4 i = F 4 i ∧ ∀ k, k < F 4 i → HQ i k = R i k)
    (e9 : ∀ k, k < 3 → HF 9 k = F 9 k ∧ (F 9 k = 1 → f 9 k = 1))
    (e6 : ∀ k, k < 3 → F 6 k = f 6 k ∧ F 7 k = f 7 k ∧ F 8 k = f 8 k ∧ HF 6 k = hf 6 k ∧ HF 7 k = hf 7 k ∧ HF 8 k = hf 8 k) : MR F R HF HQ :=
  MR_byG (G := 0) hM (fun w a b => (e5 w a b).1) (fun w a b _ => ⟨(e5 w a b).2, (e2 w).1, (e2 w).2.1, (e2 w).2.2.1, (e2 w).2.2.2, fun _ => (e2 (f 2 w)).2.1, e4 w a b⟩) (fun h => absurd h (by decide)) er e9 e6
theorem ch5 (hM : MR f r hf hq) {w d x : Nat} (h4 : 4 ≤ x) (hx : x < 8) : chM f hf w d 5 x = settleF f w d 5 x ∧ (settleF f w d 5 x = 1 → f 5 x = 1) := by
  rw [chM_5, seF_5, (hM.2.2.1 x h4 hx).1]
  by_cases h : f 1 x = f 1 w ∧ hol f x w = 0
  · have h1 : 4 ≤ x ∧ x < 8 ∧ f 1 x = f 1 w ∧ hol f x w = 0 := ⟨h4, hx, h⟩
    rw [if_pos h1]
    refine ⟨?_, fun z => absurd z (by decide)⟩
    split
    · rfl
    · rename_i h2
      rcases Nat.eq_zero_or_pos (f 5 x) with h5 | h5
      · exact h5
      · exact absurd ⟨h4, hx, by omega, h⟩ h2
  · have h1 : ¬ (4 ≤ x ∧ x < 8 ∧ f 1 x = f 1 w ∧ hol f x w = 0) := fun z => h z.2.2
    have h2 : ¬ (4 ≤ x ∧ x < 8 ∧ f 5 x ≠ 0 ∧ f 1 x = f 1 w ∧ hol f x w = 0) := fun z => h z.2.2.2
    rw [if_neg h1, if_neg h2]
    exact ⟨rfl, id⟩
theorem ch9 (hC : CInv f) (hM : MR f r hf hq) {w d k : Nat} (hk : k < 3) : chM f hf w d 9 k = settleF f w d 9 k ∧ (settleF f w d 9 k = 1 → f 9 k = 1) := by
  rw [chM_9, seF_9, (hM.2.2.2 k hk).1]
  have hle := (hC.cu hk).2.1
  by_cases h9 : f 9 k = 0
  · have h2 : ¬ (k < 3 ∧ k ≠ d ∧ f 9 k ≠ 0 ∧ f 1 (hf 6 k) = f 1 w) := fun z => z.2.2.1 h9
    rw [if_neg h2]
    split
    · exact ⟨h9, fun z => absurd z (by decide)⟩
    · exact ⟨rfl, id⟩
  · have e6 := ((hM.2.2.2 k hk).2.2 (by omega)).1
    rw [e6]
    by_cases h : k ≠ d ∧ f 1 (f 6 k) = f 1 w
    · have h1 : k < 3 ∧ k ≠ d ∧ f 9 k ≠ 0 ∧ f 1 (f 6 k) = f 1 w := ⟨hk, h.1, h9, h.2⟩
      have h2 : k < 3 ∧ k ≠ d ∧ f 1 (f 6 k) = f 1 w := ⟨hk, h⟩
      rw [if_pos h1, if_pos h2]
      exact ⟨rfl, fun z => absurd z (by decide)⟩
    · have h1 : ¬ (k < 3 ∧ k ≠ d ∧ f 9 k ≠ 0 ∧ f 1 (f 6 k) = f 1 w) := fun z => h ⟨z.2.1, z.2.2.2⟩
      have h2 : ¬ (k < 3 ∧ k ≠ d ∧ f 1 (f 6 k) = f 1 w) := fun z => h z.2
      rw [if_neg h1, if_neg h2]
      exact ⟨rfl, id⟩
theorem exR_is {w c p q n : Nat} (h8 : f 1 w ≠ 8) : exR (up2 f 4 8 c) r1 w p q n = cpy2 (cpy2 r1 (f 0 (f 1 w)) (f 3 w + q) (f 0 (f 1 w)) (f 3 w + p + n) (f 4 (f 1 w) - (f 3 w + q))) (f 0 8) 0 (f 0 (f 1 w)) (f 3 w + p) n := by
  show cpy2 (cpy2 r1 (f 0 (f 1 w)) (f 3 w + q) (f 0 (f 1 w)) (f 3 w + p + n) (up2 f 4 8 c 4 (f 1 w) - (f 3 w + q))) (f 0 8) 0 (f 0 (f 1 w)) (f 3 w + p) n = _
  rw [up2_i _ _ _ _ h8]
/-- c items come into w in the place of the stretch from p to q -/
theorem MR_lay {w c c2 g g2 p p2 q n d : Nat} {ins : Nat → Int32} (hC : CInv f) (hM : MR f r hf hq) (hw : w < 8) (h5w : f 5 w = 1) (hpq : p ≤ q) (hqw : q ≤ f 4 w) (hg : g = q - p) (hg2 : g2 = q - p) (hc2 : c2 = c) (hp2 : p2 = p) (hn : n = f 4 (f 1 w) - (q - p) + c) (hr1 : ∀ i, i < 4 → r1 i = r i) (hins : ∀ j, j < c → ins j = r1 (f 0 8) j) :
    MR (settleF (exL (up2 f 4 8 c) w c g 8) w d) (exR (up2 f 4 8 c) r1 w p q c) (lyM f (up2 (chM f hf w d) 4 (f 1 w) n) w c2 g2) (upR hq (f 1 w) (layF (hq (f 1 w)) ins (f 3 w + p2) c2 g2 n)) := by
  subst hg
  subst hg2
  subst hc2
  subst hp2
  have hal := hC.al hw
  have hth := hC.th hw h5w
  have hrw := hC.rw hal.2.1
  have hsp := hC.sp
  have hhr := hC.hr hw h5w
  have h4 : ∀ i, settleF (exL (up2 f 4 8 c2) w c2 (q - p2) 8) w d 4 i = if i < 8 ∧ hol f i w ≠ 0 then f 4 i + c2 - (q - p2) else if i = 8 then c2 else f 4 i := chg_4 f w c2 (q - p2) d
  refine MR_by hM (fun x h4x hx => ?_) (fun i => ⟨rfl, rfl, ?_, ?_⟩) (fun x h4x hx h5 => ?_) (fun i hi => ?_) (fun k hk => ?_) (fun k hk => ⟨rfl, rfl, rfl, ?_, ?_, ?_⟩)
  · rw [lyM_o _ _ _ _ _ _ (by decide), up2_k _ _ _ _ (by decide)]
    exact ch5 hM h4x hx
  · rw [lyM_o _ _ _ _ _ _ (by decide), up2_k _ _ _ _ (by decide), chM_o _ _ _ _ _ (by decide) (by decide)]
  · rw [lyM_o _ _ _ _ _ _ (by decide), up2_k _ _ _ _ (by decide), chM_o _ _ _ _ _ (by decide) (by decide)]
  · have h51 : f 5 x = 1 := (ch5 hM (w := w) (d := d) h4x hx).2 h5
    have e := (hM.2.2.1 x h4x hx).2.2 h51
    have hx1 : x ≠ f 1 w := by omega
    rw [lyM_4, h4, up2_i _ _ _ _ hx1, chM_o _ _ _ _ _ (by decide) (by decide), e]
    by_cases hh : hol f x w ≠ 0
    · have a1 : 4 ≤ x ∧ x < 8 ∧ hol f x w ≠ 0 := ⟨h4x, hx, hh⟩
      have a2 : x < 8 ∧ hol f x w ≠ 0 := ⟨hx, hh⟩
      rw [if_pos a1, if_pos a2]
    · have a1 : ¬ (4 ≤ x ∧ x < 8 ∧ hol f x w ≠ 0) := fun z => hh z.2.2
      have a2 : ¬ (x < 8 ∧ hol f x w ≠ 0) := fun z => hh z.2
      rw [if_neg a1, if_neg a2, if_neg (show ¬ x = 8 by omega)]
  · have a1 : ¬ (4 ≤ i ∧ i < 8 ∧ hol f i w ≠ 0) := fun z => absurd z.1 (by omega)
    rw [lyM_4, if_neg a1, h4]
    by_cases hi1 : i = f 1 w
    · subst hi1
      have a2 : f 1 w < 8 ∧ hol f (f 1 w) w ≠ 0 := ⟨by omega, hhr⟩
      rw [if_pos a2, up2_eq]
      refine ⟨by omega, fun k hk => ?_⟩
      have hrow := (hM.2.1 (f 1 w) hal.2.1).2
      rw [upR_me, exR_is (show f 1 w ≠ 8 by omega), hrw.1, hsp.1, cpy2_me]
      have hkn : k < n := by omega
      show (if k < n then (if k < f 3 w + p2 then hq (f 1 w) k else if k < f 3 w + p2 + c2 then ins (k - (f 3 w + p2)) else hq (f 1 w) (k - c2 + (q - p2))) else 0) = _
      rw [if_pos hkn]
      by_cases b1 : k < f 3 w + p2
      · rw [if_pos b1, if_neg (fun z : f 3 w + p2 ≤ k ∧ k < f 3 w + p2 + c2 => absurd z.1 (by omega)), cpy2_me, if_neg (fun z : f 3 w + p2 + c2 ≤ k ∧ k < f 3 w + p2 + c2 + (f 4 (f 1 w) - (f 3 w + q)) => absurd z.1 (by omega)), hr1 _ hal.2.1]
        exact hrow k (by omega)
      · rw [if_neg b1]
        by_cases b2 : k < f 3 w + p2 + c2
        · have b3 : f 3 w + p2 ≤ k ∧ k < f 3 w + p2 + c2 := ⟨by omega, b2⟩
          rw [if_pos b2, if_pos b3, cpy2_off (show 4 ≠ f 1 w by omega), Nat.zero_add, hins _ (by omega), hsp.1]
        · have b3 : ¬ (f 3 w + p2 ≤ k ∧ k < f 3 w + p2 + c2) := fun z => b2 z.2
          have b4 : f 3 w + p2 + c2 ≤ k ∧ k < f 3 w + p2 + c2 + (f 4 (f 1 w) - (f 3 w + q)) := ⟨by omega, by omega⟩
          rw [if_neg b2, if_neg b3, cpy2_me, if_pos b4, hr1 _ hal.2.1, show f 3 w + q + (k - (f 3 w + p2 + c2)) = k - c2 + (q - p2) by omega]
          exact hrow _ (by omega)
    · have h0 : ¬ (i < 8 ∧ hol f i w ≠ 0) := fun z => hi1 ((hC.rw hi).2.1.symm.trans (hC.ho hw h5w z.2).2.2.1)
      rw [if_neg h0, if_neg (show ¬ i = 8 by omega), up2_i _ _ _ _ hi1, chM_o _ _ _ _ _ (by decide) (by decide)]
      refine ⟨(hM.2.1 i hi).1, fun k hk => ?_⟩
      rw [upR_ne hi1, exR_is (show f 1 w ≠ 8 by omega), hrw.1, cpy2_off hi1, cpy2_off hi1, hr1 i hi]
      exact (hM.2.1 i hi).2 k hk
  · rw [lyM_o _ _ _ _ _ _ (by decide), up2_k _ _ _ _ (by decide)]
    exact ch9 hC hM hk
  · rw [lyM_o _ _ _ _ _ _ (by decide), up2_k _ _ _ _ (by decide), chM_o _ _ _ _ _ (by decide) (by decide)]
  · rw [lyM_o _ _ _ _ _ _ (by decide), up2_k _ _ _ _ (by decide), chM_o _ _ _ _ _ (by decide) (by decide)]
  · rw [lyM_o _ _ _ _ _ _ (by decide), up2_k _ _ _ _ (by decide), chM_o _ _ _ _ _ (by decide) (by decide)]
/-- a row that the spare part gives anew -/
theorem MR_bec {i c n d : Nat} {G : Nat → Int32} (hC : CInv f) (hM : MR f r hf hq) (hi : i < 4) (hn : n = c) (hr1 : ∀ j, j < 4 → r1 j = r j) (hG : ∀ k, k < c → G k = r1 (f 0 8) k) :
    MR (settleF (up2 (up2 f 4 8 c) 4 i c) i d) (cpy2 r1 (f 0 8) (f 3 8) (f 0 i) (f 3 i) c) (up2 (chM f hf i d) 4 i n) (upR hq i G) := by
  subst hn
  have hsp := hC.sp
  have hri := hC.rw hi
  have h5 := hri.2.2.2.2.2
  have h4 : ∀ j, j ≠ i → j < 8 → settleF (up2 (up2 f 4 8 n) 4 i n) i d 4 j = f 4 j := fun j hj hj8 => by
    show up2 (up2 f 4 8 n) 4 i n 4 j = f 4 j
    rw [up2_i _ _ _ _ hj, up2_i _ _ _ _ (by omega)]
  have h4i : settleF (up2 (up2 f 4 8 n) 4 i n) i d 4 i = n := by
    show up2 (up2 f 4 8 n) 4 i n 4 i = n
    rw [up2_eq]
  refine MR_by hM (fun x h4x hx => ?_) (fun j => ⟨rfl, rfl, ?_, ?_⟩) (fun x h4x hx h5 => ?_) (fun j hj => ?_) (fun k hk => ?_) (fun k hk => ⟨rfl, rfl, rfl, ?_, ?_, ?_⟩)
  · rw [up2_k _ _ _ _ (by decide)]
    exact ch5 hM h4x hx
  · rw [up2_k _ _ _ _ (by decide), chM_o _ _ _ _ _ (by decide) (by decide)]
  · rw [up2_k _ _ _ _ (by decide), chM_o _ _ _ _ _ (by decide) (by decide)]
  · have h51 : f 5 x = 1 := (ch5 hM (w := i) (d := d) h4x hx).2 h5
    rw [h4 x (by omega) hx, up2_i _ _ _ _ (by omega), chM_o _ _ _ _ _ (by decide) (by decide)]
    exact (hM.2.2.1 x h4x hx).2.2 h51
  · by_cases e : j = i
    · subst e
      rw [h4i, up2_eq]
      refine ⟨rfl, fun k hk => ?_⟩
      rw [upR_me, hri.1, hri.2.2.2.1, cpy2_me, if_pos (⟨by omega, by omega⟩ : 0 ≤ k ∧ k < 0 + n), hsp.2.1, hG k hk, Nat.zero_add, Nat.sub_zero]
    · rw [h4 j e (by omega), up2_i _ _ _ _ e, chM_o _ _ _ _ _ (by decide) (by decide)]
      refine ⟨(hM.2.1 j hj).1, fun k hk => ?_⟩
      rw [upR_ne e, hri.1, cpy2_off e, hr1 j hj]
      exact (hM.2.1 j hj).2 k hk
  · rw [up2_k _ _ _ _ (by decide)]
    exact ch9 hC hM hk
  · rw [up2_k _ _ _ _ (by decide), chM_o _ _ _ _ _ (by decide) (by decide)]
  · rw [up2_k _ _ _ _ (by decide), chM_o _ _ _ _ _ (by decide) (by decide)]
  · rw [up2_k _ _ _ _ (by decide), chM_o _ _ _ _ _ (by decide) (by decide)]
/-- the items alone change, and the spare part's length -/
theorem MR_itm (hM : MR f r hf hq) (e : ∀ fl i, fl ≠ 4 ∨ i < 8 → F fl i = f fl i) (hI : ∀ i k, i < 4 → k < f 4 i → HQ i k = R i k) : MR F R hf HQ := by
  have a : ∀ fl i, fl ≠ 4 → F fl i = f fl i := fun fl i h => e fl i (Or.inl h)
  refine MR_by hM (fun x h4x hx => ?_) (fun i => ⟨a 2 i (by decide), a 3 i (by decide), rfl, rfl⟩) (fun x h4x hx h5 => ?_) (fun i hi => ?_) (fun k hk => ?_) (fun k hk => ⟨a 6 k (by decide), a 7 k (by decide), a 8 k (by decide), rfl, rfl, rfl⟩)
  · rw [a 5 x (by decide)]
    exact ⟨(hM.2.2.1 x h4x hx).1, id⟩
  · rw [a 5 x (by decide)] at h5
    rw [e 4 x (Or.inr hx)]
    exact (hM.2.2.1 x h4x hx).2.2 h5
  · rw [e 4 i (Or.inr (by omega))]
    exact ⟨(hM.2.1 i hi).1, fun k hk => hI i k hi hk⟩
  · rw [a 9 k (by decide)]
    exact ⟨(hM.2.2.2 k hk).1, id⟩
theorem MR_itm8 {c : Nat} (hM : MR f r hf hq) (hI : ∀ i k, i < 4 → k < f 4 i → HQ i k = R i k) : MR (up2 f 4 8 c) R hf HQ :=
  MR_itm hM (fun fl i h => by
    rcases h with h | h
    · exact up2_k _ _ _ _ h
    · exact up2_i _ _ _ _ (by omega)) hI
/-- they change, and the row is settled -/
theorem MR_itmS {w d : Nat} (hC : CInv f) (hM : MR f r hf hq) (hI : ∀ i k, i < 4 → k < f 4 i → HQ i k = R i k) : MR (settleF f w d) R (chM f hf w d) HQ := by
  refine MR_by hM (fun x h4x hx => ch5 hM h4x hx) (fun i => ⟨rfl, rfl, chM_o _ _ _ _ _ (by decide) (by decide), chM_o _ _ _ _ _ (by decide) (by decide)⟩) (fun x h4x hx h5 => ?_) (fun i hi => ?_) (fun k hk => ch9 hC hM hk) (fun k hk => ⟨rfl, rfl, rfl, chM_o _ _ _ _ _ (by decide) (by decide), chM_o _ _ _ _ _ (by decide) (by decide), chM_o _ _ _ _ _ (by decide) (by decide)⟩)
  · rw [chM_o _ _ _ _ _ (by decide) (by decide)]
    exact (hM.2.2.1 x h4x hx).2.2 ((ch5 hM h4x hx).2 h5)
  · rw [chM_o _ _ _ _ _ (by decide) (by decide)]
    exact ⟨(hM.2.1 i hi).1, fun k hk => hI i k hi hk⟩
theorem MR_itmS8 {w d c : Nat} (hC : CInv f) (hM : MR f r hf hq) (hI : ∀ i k, i < 4 → k < f 4 i → HQ i k = R i k) : MR (settleF (up2 f 4 8 c) w d) R (chM f hf w d) HQ :=
  MR_itm (f := settleF f w d) (MR_itmS hC hM hI) (fun fl i h => by
    rcases h with h | h
    · by_cases h5 : fl = 5
      · subst h5
        rfl
      · by_cases h9 : fl = 9
        · subst h9
          rfl
        · unfold settleF stW stU
          rw [if_neg (fun z => h5 z.1), if_neg (fun z => h9 z.1), if_neg (fun z => h5 z.1), if_neg (fun z => h9 z.1)]
          exact up2_k _ _ _ _ h
    · by_cases h5 : fl = 5
      · subst h5
        rfl
      · by_cases h9 : fl = 9
        · subst h9
          rfl
        · unfold settleF stW stU
          rw [if_neg (fun z => h5 z.1), if_neg (fun z => h9 z.1), if_neg (fun z => h5 z.1), if_neg (fun z => h9 z.1)]
          exact up2_i _ _ _ _ (by omega)) (fun i k hi hk => (MR_itmS (w := w) (d := d) hC hM hI).2.1 i hi |>.2 k hk)
/-- a stretch of a where gets other items -/
theorem itm_str {w n : Nat} {g : Nat → Int32} (hC : CInv f) (hM : MR f r hf hq) (hw : w < 8) (h5w : f 5 w = 1) (hn : n = f 4 w) (hR : ∀ j, j < 4 → j ≠ f 1 w → R j = r j) (hin : ∀ t, t < f 4 w → R (f 1 w) (f 3 w + t) = g t) (hout : ∀ k, k < f 3 w ∨ f 3 w + f 4 w ≤ k → R (f 1 w) k = r (f 1 w) k) : ∀ i k, i < 4 → k < f 4 i → wrR hq (f 1 w) (f 3 w) n g i k = R i k := by
  subst hn
  intro i k hi hk
  unfold wrR
  by_cases e : i = f 1 w
  · subst e
    by_cases b : f 3 w ≤ k ∧ k < f 3 w + f 4 w
    · have c : f 1 w = f 1 w ∧ f 3 w ≤ k ∧ k < f 3 w + f 4 w := ⟨rfl, b⟩
      rw [if_pos c, ← hin (k - f 3 w) (by omega), show f 3 w + (k - f 3 w) = k by omega]
    · have c : ¬ (f 1 w = f 1 w ∧ f 3 w ≤ k ∧ k < f 3 w + f 4 w) := fun z => b z.2
      rw [if_neg c, hout k (by omega)]
      exact (hM.2.1 _ hi).2 k hk
  · have c : ¬ (i = f 1 w ∧ f 3 w ≤ k ∧ k < f 3 w + f 4 w) := fun z => e z.1
    rw [if_neg c, hR i hi e]
    exact (hM.2.1 i hi).2 k hk
/-- one cursor changes -/
theorem MR_cur {k0 : Nat} (hM : MR f r hf hq) (e : ∀ fl i, fl < 6 ∨ i ≠ k0 → F fl i = f fl i) (e' : ∀ fl i, fl < 6 ∨ i ≠ k0 → HF fl i = hf fl i) (h9 : HF 9 k0 = F 9 k0) (h6 : HF 6 k0 < 8) (hd : F 9 k0 = 1 → HF 6 k0 = F 6 k0 ∧ HF 7 k0 = F 7 k0 ∧ HF 8 k0 = F 8 k0) : MR F r HF hq := by
  have a : ∀ fl i, fl < 6 → F fl i = f fl i := fun fl i h => e fl i (Or.inl h)
  have b : ∀ fl i, fl < 6 → HF fl i = hf fl i := fun fl i h => e' fl i (Or.inl h)
  refine ⟨fun w h4 hw h5 => ?_, fun i hi => ?_, fun w h4 hw => ?_, fun k hk => ?_⟩
  · rw [a 5 w (by decide)] at h5
    rw [b 2 w (by decide), b 3 w (by decide), a 2 w (by decide), a 3 w (by decide), a 3 _ (by decide)]
    exact hM.1 w h4 hw h5
  · rw [a 4 i (by decide), b 4 i (by decide)]
    exact hM.2.1 i hi
  · rw [a 5 w (by decide), b 5 w (by decide), b 2 w (by decide), a 4 w (by decide), b 4 w (by decide)]
    exact hM.2.2.1 w h4 hw
  · by_cases ek : k = k0
    · subst ek
      exact ⟨h9, h6, hd⟩
    · rw [e 9 k (Or.inr ek), e' 9 k (Or.inr ek), e' 6 k (Or.inr ek), e 6 k (Or.inr ek), e 7 k (Or.inr ek), e' 7 k (Or.inr ek), e 8 k (Or.inr ek), e' 8 k (Or.inr ek)]
      exact hM.2.2.2 k hk
end MK
end PT_70
/-! ===== 71.mkeep2 -/
section PT_71
/-! ORDERS, SIEVES AND WINDOWS AGAINST THE MODEL'S -/
theorem inP_same {g h : Nat → Int32} {b : Nat} {x : Int32} : ∀ e, (∀ q, q < e → g q = h q) → inP g b x e = inP h b x e
  | 0, _ => rfl
  | e + 1, a => by
    show (if rkF b (g e) ≤ rkF b x then e + 1 else inP g b x e) = (if rkF b (h e) ≤ rkF b x then e + 1 else inP h b x e)
    rw [a e (by omega), inP_same e (fun q hq => a q (by omega))]
theorem in1_me {r : Nat → Nat → Int32} {j lo b e k : Nat} : in1 r j lo b e j k = if k = lo + inP (fun q => r j (lo + q)) b (r j (lo + e)) e then r j (lo + e) else if lo + inP (fun q => r j (lo + q)) b (r j (lo + e)) e < k ∧ k ≤ lo + e then r j (k - 1) else r j k := by
  show (if j = j ∧ k = lo + inP (fun q => r j (lo + q)) b (r j (lo + e)) e then r j (lo + e) else if j = j ∧ lo + inP (fun q => r j (lo + q)) b (r j (lo + e)) e < k ∧ k ≤ lo + e then r j (k - 1) else r j k) = _
  simp only [true_and]
theorem in1_ne {r : Nat → Nat → Int32} {j j' lo b e : Nat} (h : j' ≠ j) : in1 r j lo b e j' = r j' := by
  funext k
  show (if j' = j ∧ k = lo + inP (fun q => r j (lo + q)) b (r j (lo + e)) e then r j (lo + e) else if j' = j ∧ lo + inP (fun q => r j (lo + q)) b (r j (lo + e)) e < k ∧ k ≤ lo + e then r j (k - 1) else r j' k) = _
  rw [if_neg (fun z => h z.1), if_neg (fun z => h z.1)]
/-- the class's order is the model's -/
theorem so_lk {j lo b n : Nat} : ∀ (d e : Nat) (r : Nat → Nat → Int32) (A : Nat → Int32), (d = 0 ∨ e + d ≤ n) → (∀ t, t < n → r j (lo + t) = A t) →
    (∀ t, t < n → srF j lo b d e r j (lo + t) = soA b d e A t) ∧ (∀ j', j' ≠ j → srF j lo b d e r j' = r j') ∧ ∀ k, k < lo ∨ lo + n ≤ k → srF j lo b d e r j k = r j k
  | 0, _, _, _, _, hA => ⟨hA, fun _ _ => rfl, fun _ _ => rfl⟩
  | d + 1, e, r, A, he, hA => by
    have hen : e < n := by omega
    have hp : inP (fun q => r j (lo + q)) b (r j (lo + e)) e = inP A b (A e) e := by
      rw [hA e hen]
      exact inP_same e (fun q hq => hA q (by omega))
    have hpe := inP_le A b (A e) e
    obtain ⟨h1, h2, h3⟩ := so_lk (n := n) (b := b) d (e + 1) (in1 r j lo b e) (insA A e (inP A b (A e) e)) (by omega) (fun t ht => by
      rw [in1_me, hp]
      show _ = if t = inP A b (A e) e then A e else if inP A b (A e) e < t ∧ t ≤ e then A (t - 1) else A t
      by_cases e1 : t = inP A b (A e) e
      · rw [if_pos (show lo + t = lo + inP A b (A e) e by omega), if_pos e1, hA e hen]
      · rw [if_neg (show ¬ lo + t = lo + inP A b (A e) e by omega), if_neg e1]
        by_cases e2 : inP A b (A e) e < t ∧ t ≤ e
        · rw [if_pos (by omega), if_pos e2, show lo + t - 1 = lo + (t - 1) by omega]
          exact hA _ (by omega)
        · rw [if_neg (by omega), if_neg e2]
          exact hA t ht)
    refine ⟨h1, fun j' hj => (h2 j' hj).trans (in1_ne hj), fun k hk => (h3 k hk).trans ?_⟩
    rw [in1_me, hp]
    exact (if_neg (by omega)).trans (if_neg (by omega))
/-- the class's sieve is the model's -/
theorem siC_same {P P' : Int32 → Nat} {b : Nat} {g g' : Nat → Int32} (hP : ∀ x, P x = P' x) : ∀ d k c, (∀ q, k ≤ q → q < k + d → g q = g' q) → siC P b g d k c = siC P' b g' d k c
  | 0, _, _, _ => rfl
  | d + 1, k, c, h => by
    show (if P (g k) = b then siC P b g d (k + 1) (c + 1) else siC P b g d (k + 1) c) = (if P' (g' k) = b then siC P' b g' d (k + 1) (c + 1) else siC P' b g' d (k + 1) c)
    rw [hP, h k (by omega) (by omega), siC_same hP d (k + 1) (c + 1) (fun q a e => h q (by omega) (by omega)), siC_same hP d (k + 1) c (fun q a e => h q (by omega) (by omega))]
theorem siR_ne {P : Int32 → Nat} {b : Nat} {g : Nat → Int32} {js j : Nat} (hj : j ≠ js) : ∀ d k c (r : Nat → Nat → Int32), siR P b g js d k c r j = r j
  | 0, _, _, _ => rfl
  | d + 1, k, c, r => by
    show (if P (g k) = b then siR P b g js d (k + 1) (c + 1) (up2 r js c (g k)) else siR P b g js d (k + 1) c r) j = r j
    split
    · rw [siR_ne hj d (k + 1) (c + 1)]
      funext q
      exact up2_k _ _ _ _ hj
    · exact siR_ne hj d (k + 1) c r
theorem si_lk {P P' : Int32 → Nat} {b : Nat} {g g' : Nat → Int32} {js : Nat} (hP : ∀ x, P x = P' x) : ∀ d k c (r : Nat → Nat → Int32) (A : Nat → Int32), (∀ q, k ≤ q → q < k + d → g q = g' q) → (∀ t, t < c → r js t = A t) → ∀ t, t < siC P b g d k c → siR P b g js d k c r js t = siA P' b g' d k c A t
  | 0, _, _, _, _, _, hA => hA
  | d + 1, k, c, r, A, h, hA => by
    have hk := h k (by omega) (by omega)
    intro t ht
    show (if P (g k) = b then siR P b g js d (k + 1) (c + 1) (up2 r js c (g k)) else siR P b g js d (k + 1) c r) js t = (if P' (g' k) = b then siA P' b g' d (k + 1) (c + 1) (lgF A c (g' k)) else siA P' b g' d (k + 1) c A) t
    have ht' : t < (if P (g k) = b then siC P b g d (k + 1) (c + 1) else siC P b g d (k + 1) c) := ht
    rw [← hP, ← hk]
    by_cases hb : P (g k) = b
    · rw [if_pos hb] at ht' ⊢
      rw [if_pos hb]
      refine si_lk hP d (k + 1) (c + 1) _ _ (fun q a e => h q (by omega) (by omega)) (fun z hz => ?_) t ht'
      show (if js = js ∧ z = c then g k else r js z) = (if z = c then g k else if z < c then A z else 0)
      by_cases ez : z = c
      · rw [if_pos ⟨rfl, ez⟩, if_pos ez]
      · rw [if_neg (fun y => ez y.2), if_neg ez, if_pos (show z < c by omega)]
        exact hA z (by omega)
    · rw [if_neg hb] at ht' ⊢
      rw [if_neg hb]
      exact si_lk hP d (k + 1) c r A (fun q a e => h q (by omega) (by omega)) hA t ht'
theorem fpF_same {g h : Nat → Int32} {x : Int32} : ∀ d k, (∀ q, k ≤ q → q < k + d → g q = h q) → fpF g x d k = fpF h x d k
  | 0, _, _ => rfl
  | d + 1, k, a => by
    show (if g k = x then k else fpF g x d (k + 1)) = (if h k = x then k else fpF h x d (k + 1))
    rw [a k (by omega) (by omega), fpF_same d (k + 1) (fun q b c => a q (by omega) (by omega))]
section WK
variable {f hf M : Nat → Nat → Nat} {r hq : Nat → Nat → Int32}
theorem MR.fp (hC : CInv f) (hM : MR f r hf hq) {i : Nat} (hi : i < 4) (x : Int32) : fpF (fun q => r (f 0 i) (f 3 i + q)) x (f 4 i) 0 = fpF (hq i) x (hf 4 i) 0 := by
  have h := hC.rw hi
  rw [(hM.2.1 i hi).1]
  refine fpF_same _ _ (fun q _ b => ?_)
  show r (f 0 i) (f 3 i + q) = hq i q
  rw [h.1, h.2.2.2.1, Nat.zero_add]
  exact ((hM.2.1 i hi).2 q (by omega)).symm
theorem MR.hs (hC : CInv f) (hM : MR f r hf hq) {j : Nat} (hj : j < 4) (x : Int32) : hsP r f j x = hqP hq (hf 4 j) j x := by
  unfold hsP hqP
  rw [hM.fp hC hj]
theorem MR.rg (hC : CInv f) (hM : MR f r hf hq) {i : Nat} (hi : i < 4) : ∀ q, 0 ≤ q → q < 0 + f 4 i → (fun q => r (f 0 i) (f 3 i + q)) q = hq i q := fun q _ b => by
  have h := hC.rw hi
  show r (f 0 i) (f 3 i + q) = hq i q
  rw [h.1, h.2.2.2.1, Nat.zero_add]
  exact ((hM.2.1 i hi).2 q (by omega)).symm
theorem MR.sc (hC : CInv f) (hM : MR f r hf hq) {i j : Nat} (b : Nat) (hi : i < 4) (hj : j < 4) : siC (hqP hq (hf 4 j) j) b (hq i) (hf 4 i) 0 0 = siC (hsP r f j) b (fun q => r (f 0 i) (f 3 i + q)) (f 4 i) 0 0 := by
  rw [(hM.2.1 i hi).1]
  exact (siC_same (fun x => hM.hs hC hj x) _ _ _ (hM.rg hC hi)).symm
theorem MR.ib (hC : CInv f) (hM : MR f r hf hq) (hB : RB r) {w : Nat} (hw : w < 8) (h5w : f 5 w = 1) : ∀ j, IB (cutF (fun z => hq (f 1 w) (f 3 w + z)) (hf 4 w) j) := fun j => by
  have e := hM.wh hC hw h5w
  unfold cutF
  split
  · rename_i h
    show IB (hq (f 1 w) (f 3 w + j))
    rw [hM.it hC hw h5w (by omega)]
    exact hB _ _
  · exact ⟨by decide, by decide⟩
theorem MR.ct (hC : CInv f) (hM : MR f r hf hq) {w k : Nat} (hw : w < 8) (h5w : f 5 w = 1) (hk : k < f 4 w) : cutF (fun z => hq (f 1 w) (f 3 w + z)) (hf 4 w) k = r (f 0 w) (f 3 w + k) := by
  have e := hM.wh hC hw h5w
  rw [cutF_at (show k < hf 4 w by omega)]
  exact hM.it hC hw h5w hk
theorem MR.hb (hC : CInv f) (hM : MR f r hf hq) (hB : RB r) : ∀ i, i < 4 → ∀ k, k < hf 4 i → -99 ≤ (hq i k).toInt ∧ (hq i k).toInt ≤ 99 := fun i hi k hk => by
  have e := hM.2.1 i hi
  rw [e.2 k (by omega)]
  exact hB i k
/-- windows that go -/
theorem gwM_5 (hM : MR f r hf hq) {g x : Nat} (hg4 : 4 ≤ g) (hg : g < 8) (h5g : f 5 g = 1) (h4 : 4 ≤ x) (hx : x < 8) : dcF (up2 (gaF f hf g 4) 5 g 0) g 3 5 x = dmF f g 8 5 x := by
  show up2 (gaF f hf g 4) 5 g 0 5 x = _
  rw [dmF_5]
  by_cases e : x = g
  · subst e
    rw [up2_eq, if_pos ⟨h4, hx, by omega, by rw [hol_self hx]; decide⟩]
  · rw [up2_i _ _ _ _ e, gaF_v5, (hM.2.2.1 x h4 hx).1]
    by_cases h : f 5 x ≠ 0 ∧ hol f g x ≠ 0
    · rw [if_pos ⟨h4, by omega, e, h⟩, if_pos ⟨h4, hx, h⟩]
    · rw [if_neg (fun z => h ⟨z.2.2.2.1, z.2.2.2.2⟩), if_neg (fun z => h z.2.2)]
theorem gwM_9 (hC : CInv f) (hM : MR f r hf hq) {g k : Nat} (hg4 : 4 ≤ g) (hg : g < 8) (h5g : f 5 g = 1) (hk : k < 3) : dcF (up2 (gaF f hf g 4) 5 g 0) g 3 9 k = dmF f g 8 9 k := by
  show (if 9 = 9 ∧ k < 3 ∧ up2 (gaF f hf g 4) 5 g 0 6 k = g then 0 else up2 (gaF f hf g 4) 5 g 0 9 k) = _
  rw [up2_k _ _ _ _ (by decide), up2_k _ _ _ _ (by decide), gaF_vo (by decide) (by decide), gaF_v9, dmF_9, (hM.2.2.2 k hk).1]
  have hc := hC.cu hk
  by_cases h9 : f 9 k = 0
  · rw [h9]
    (repeat' split) <;> rfl
  · have e6 := ((hM.2.2.2 k hk).2.2 (by omega)).1
    rw [e6]
    by_cases e : f 6 k = g
    · rw [if_pos ⟨rfl, hk, e⟩, e, if_pos ⟨hk, hg4, hg, by omega, by rw [hol_self hg]; decide⟩]
    · rw [if_neg (fun z => e z.2.2)]
      by_cases h4 : 4 ≤ f 6 k
      · rw [(hM.2.2.1 (f 6 k) h4 hc.1).1]
        by_cases h : f 5 (f 6 k) ≠ 0 ∧ hol f g (f 6 k) ≠ 0
        · rw [if_pos ⟨hk, h4, by omega, e, h⟩, if_pos ⟨hk, h4, hc.1, h⟩]
        · rw [if_neg (fun z => h ⟨z.2.2.2.2.1, z.2.2.2.2.2⟩), if_neg (fun z => h ⟨z.2.2.2.1, z.2.2.2.2⟩)]
      · rw [if_neg (fun z => h4 z.2.1), if_neg (fun z => h4 z.2.1)]
theorem gwM_o {g fl i : Nat} (h5 : fl ≠ 5) (h9 : fl ≠ 9) : dcF (up2 (gaF f hf g 4) 5 g 0) g 3 fl i = hf fl i := by
  unfold dcF
  rw [if_neg (fun z => h9 z.1), up2_k _ _ _ _ h5, gaF_vo h5 h9]
theorem dmF_le1 {g i : Nat} (h : dmF f g 8 5 i = 1) : f 5 i = 1 := by
  rw [dmF_5] at h
  split at h
  · exact absurd h (by decide)
  · exact h
theorem dmF_le9 {g i : Nat} (h : dmF f g 8 9 i = 1) : f 9 i = 1 := by
  rw [dmF_9] at h
  split at h
  · exact absurd h (by decide)
  · exact h
theorem MR_close (hC : CInv f) (hM : MR f r hf hq) {g : Nat} (hg4 : 4 ≤ g) (hg : g < 8) (h5g : f 5 g = 1) : MR (dmF f g 8) r (dcF (up2 (gaF f hf g 4) 5 g 0) g 3) hq := by
  refine MR_by hM (fun x h4x hx => ⟨gwM_5 hM hg4 hg h5g h4x hx, dmF_le1⟩) (fun i => ⟨dmF_o _ _ _ _ (by decide) (by decide), dmF_o _ _ _ _ (by decide) (by decide), gwM_o (by decide) (by decide), gwM_o (by decide) (by decide)⟩) (fun x h4x hx h5 => ?_) (fun i hi => ?_) (fun k hk => ⟨gwM_9 hC hM hg4 hg h5g hk, dmF_le9⟩)
    (fun k hk => ⟨dmF_o _ _ _ _ (by decide) (by decide), dmF_o _ _ _ _ (by decide) (by decide), dmF_o _ _ _ _ (by decide) (by decide), gwM_o (by decide) (by decide), gwM_o (by decide) (by decide), gwM_o (by decide) (by decide)⟩)
  · rw [gwM_o (by decide) (by decide), dmF_o _ _ _ _ (by decide) (by decide)]
    exact (hM.2.2.1 x h4x hx).2.2 (dmF_le1 h5)
  · rw [gwM_o (by decide) (by decide), dmF_o _ _ _ _ (by decide) (by decide)]
    exact hM.2.1 i hi
/-- a window that is laid over w -/
theorem MR_win {g w p q : Nat} (hC : CInv f) (hM : MR f r hf hq) (hg4 : 4 ≤ g) (hg : g < 8) (hw : w < 8) (h5w : f 5 w = 1) (hh : hol f g w = 0) (a5 : ∀ x, 4 ≤ x → x < 8 → x ≠ g → M 5 x = dmF f g 8 5 x) (a9 : ∀ k, k < 3 → M 9 k = dmF f g 8 9 k) (ao : ∀ fl i, fl ≠ 5 → fl ≠ 9 → M fl i = hf fl i) :
    MR (up2 (up2 (up2 (up2 (up2 (up2 (dmF f g 8) 0 g (f 0 w)) 1 g (f 1 w)) 2 g w) 3 g (f 3 w + p)) 4 g (q - p)) 5 g 1) r (up2 (up2 (up2 (up2 M 5 g 1) 2 g w) 3 g p) 4 g (q - p)) hq := by
  have hwg := hol_me hw hh
  have u : ∀ fl x, x ≠ g → up2 (up2 (up2 (up2 (up2 (up2 (dmF f g 8) 0 g (f 0 w)) 1 g (f 1 w)) 2 g w) 3 g (f 3 w + p)) 4 g (q - p)) 5 g 1 fl x = dmF f g 8 fl x := fun fl x hx => by
    rw [up2_i _ _ _ _ hx, up2_i _ _ _ _ hx, up2_i _ _ _ _ hx, up2_i _ _ _ _ hx, up2_i _ _ _ _ hx, up2_i _ _ _ _ hx]
  have v : ∀ fl x, x ≠ g → up2 (up2 (up2 (up2 M 5 g 1) 2 g w) 3 g p) 4 g (q - p) fl x = M fl x := fun fl x hx => by
    rw [up2_i _ _ _ _ hx, up2_i _ _ _ _ hx, up2_i _ _ _ _ hx, up2_i _ _ _ _ hx]
  have u6 : ∀ fl x, 5 < fl → up2 (up2 (up2 (up2 (up2 (up2 (dmF f g 8) 0 g (f 0 w)) 1 g (f 1 w)) 2 g w) 3 g (f 3 w + p)) 4 g (q - p)) 5 g 1 fl x = dmF f g 8 fl x := fun fl x hx => by
    rw [up2_k _ _ _ _ (by omega), up2_k _ _ _ _ (by omega), up2_k _ _ _ _ (by omega), up2_k _ _ _ _ (by omega), up2_k _ _ _ _ (by omega), up2_k _ _ _ _ (by omega)]
  have v6 : ∀ fl x, 5 < fl → up2 (up2 (up2 (up2 M 5 g 1) 2 g w) 3 g p) 4 g (q - p) fl x = M fl x := fun fl x hx => by
    rw [up2_k _ _ _ _ (by omega), up2_k _ _ _ _ (by omega), up2_k _ _ _ _ (by omega), up2_k _ _ _ _ (by omega)]
  refine MR_byG (G := g) hM (fun x h4x hx => ?_) (fun x h4x hx hxg => ?_) (fun _ _ => ?_) (fun i hi => ?_) (fun k hk => ?_) (fun k hk => ?_)
  · by_cases e : x = g
    · subst e
      rw [up2_k _ _ _ _ (show 5 ≠ 4 by decide), up2_k _ _ _ _ (show 5 ≠ 3 by decide), up2_k _ _ _ _ (show 5 ≠ 2 by decide), up2_eq, up2_eq]
    · rw [u 5 x e, v 5 x e]
      exact a5 x h4x hx e
  · refine ⟨fun z => dmF_le1 ((u 5 x hxg).symm.trans z), (u 2 x hxg).trans (dmF_o _ _ _ _ (by decide) (by decide)), (u 3 x hxg).trans (dmF_o _ _ _ _ (by decide) (by decide)), (v 2 x hxg).trans (ao _ _ (by decide) (by decide)), (v 3 x hxg).trans (ao _ _ (by decide) (by decide)), fun z => ?_, fun z => ?_⟩
    · have z1 := (u 5 x hxg).symm.trans z
      have z2 := dmF_t hC hg4 hx z1
      have z3 := hC.hd h4x hx z2.1 z2.2
      have z4 := hC.wi h4x hx z2.1
      exact (u 3 _ (hol_me z4.1 z3.2)).trans (dmF_o _ _ _ _ (by decide) (by decide))
    · have z1 := dmF_le1 ((u 5 x hxg).symm.trans z)
      rw [u 4 x hxg, v 4 x hxg, ao _ _ (by decide) (by decide), dmF_o _ _ _ _ (by decide) (by decide)]
      exact (hM.2.2.1 x h4x hx).2.2 z1
  · have b2 : up2 (up2 (up2 (up2 M 5 g 1) 2 g w) 3 g p) 4 g (q - p) 2 g = w := by
      rw [up2_k _ _ _ _ (show 2 ≠ 4 by decide), up2_k _ _ _ _ (show 2 ≠ 3 by decide), up2_eq]
    have b3 : up2 (up2 (up2 (up2 M 5 g 1) 2 g w) 3 g p) 4 g (q - p) 3 g = p := by
      rw [up2_k _ _ _ _ (show 3 ≠ 4 by decide), up2_eq]
    have c2 : up2 (up2 (up2 (up2 (up2 (up2 (dmF f g 8) 0 g (f 0 w)) 1 g (f 1 w)) 2 g w) 3 g (f 3 w + p)) 4 g (q - p)) 5 g 1 2 g = w := by
      rw [up2_k _ _ _ _ (show 2 ≠ 5 by decide), up2_k _ _ _ _ (show 2 ≠ 4 by decide), up2_k _ _ _ _ (show 2 ≠ 3 by decide), up2_eq]
    have c3 : up2 (up2 (up2 (up2 (up2 (up2 (dmF f g 8) 0 g (f 0 w)) 1 g (f 1 w)) 2 g w) 3 g (f 3 w + p)) 4 g (q - p)) 5 g 1 3 g = f 3 w + p := by
      rw [up2_k _ _ _ _ (show 3 ≠ 5 by decide), up2_k _ _ _ _ (show 3 ≠ 4 by decide), up2_eq]
    have c4 : up2 (up2 (up2 (up2 (up2 (up2 (dmF f g 8) 0 g (f 0 w)) 1 g (f 1 w)) 2 g w) 3 g (f 3 w + p)) 4 g (q - p)) 5 g 1 4 g = q - p := by
      rw [up2_k _ _ _ _ (show 4 ≠ 5 by decide), up2_eq]
    rw [b2, b3, c2, c3, c4, up2_eq, u 3 w hwg, dmF_o _ _ _ _ (by decide) (by decide)]
    exact ⟨hw, fun _ => ⟨rfl, rfl, by rw [up2_eq]⟩⟩
  · have hig : i ≠ g := by omega
    rw [u 4 i hig, v 4 i hig, ao _ _ (by decide) (by decide), dmF_o _ _ _ _ (by decide) (by decide)]
    exact hM.2.1 i hi
  · rw [u6 9 k (by decide), v6 9 k (by decide)]
    exact ⟨a9 k hk, dmF_le9⟩
  · rw [u6 6 k (by decide), u6 7 k (by decide), u6 8 k (by decide), v6 6 k (by decide), v6 7 k (by decide), v6 8 k (by decide)]
    exact ⟨dmF_o _ _ _ _ (by decide) (by decide), dmF_o _ _ _ _ (by decide) (by decide), dmF_o _ _ _ _ (by decide) (by decide), ao _ _ (by decide) (by decide), ao _ _ (by decide) (by decide), ao _ _ (by decide) (by decide)⟩
theorem MR_winn {g w p q : Nat} (hC : CInv f) (hM : MR f r hf hq) (hg4 : 4 ≤ g) (hg : g < 8) (hw : w < 8) (h5w : f 5 w = 1) (hh : hol f g w = 0) (hz : f 5 g = 0) :
    MR (up2 (up2 (up2 (up2 (up2 (up2 (dmF f g 8) 0 g (f 0 w)) 1 g (f 1 w)) 2 g w) 3 g (f 3 w + p)) 4 g (q - p)) 5 g 1) r (up2 (up2 (up2 (up2 hf 5 g 1) 2 g w) 3 g p) 4 g (q - p)) hq := by
  refine MR_win hC hM hg4 hg hw h5w hh (fun x h4x hx hxg => ?_) (fun k hk => ?_) (fun _ _ _ _ => rfl)
  · rw [dmF_5, if_neg (fun z => by
      have := hC.ho z.2.1 (by have := hC.h5 x hx; omega) z.2.2.2
      omega)]
    exact (hM.2.2.1 x h4x hx).1
  · rw [dmF_9, if_neg (fun z => by
      have h1 := hC.h5 (f 6 k) z.2.2.1
      have := hC.ho z.2.2.1 (by omega) z.2.2.2.2
      omega)]
    exact (hM.2.2.2 k hk).1
theorem MR_winy {g w p q : Nat} (hC : CInv f) (hM : MR f r hf hq) (hg4 : 4 ≤ g) (hg : g < 8) (hw : w < 8) (h5w : f 5 w = 1) (hh : hol f g w = 0) (hz : f 5 g = 1) :
    MR (up2 (up2 (up2 (up2 (up2 (up2 (dmF f g 8) 0 g (f 0 w)) 1 g (f 1 w)) 2 g w) 3 g (f 3 w + p)) 4 g (q - p)) 5 g 1) r (up2 (up2 (up2 (up2 (dcF (up2 (gaF f hf g 4) 5 g 0) g 3) 5 g 1) 2 g w) 3 g p) 4 g (q - p)) hq :=
  MR_win hC hM hg4 hg hw h5w hh (fun x h4x hx _ => gwM_5 hM hg4 hg hz h4x hx) (fun k hk => gwM_9 hC hM hg4 hg hz hk) (fun _ _ a b => gwM_o a b)
end WK
end PT_71
/-! ===== 72.pair -/
section PT_72
/-! THE CLASS'S CALL BESIDE THE MODEL'S -/
theorem w_dec (f : Nat → Nat → Nat) (x : Int32) : noW f x ∨ ∃ w, w < 8 ∧ f 5 w = 1 ∧ x = nI w := by
  by_cases h : ∃ w, w < 8 ∧ x = nI w ∧ f 5 w = 1
  · obtain ⟨w, a, b, d⟩ := h
    exact Or.inr ⟨w, a, d, b⟩
  · exact Or.inl h
theorem n_dec {n : Nat} (hn : n < 2147483648) (x : Int32) : ¬ (0 ≤ x ∧ x < nI n) ∨ ∃ j, j < n ∧ x = nI j := by
  by_cases h : 0 ≤ x ∧ x < nI n
  · exact Or.inr (in_of hn h)
  · exact Or.inl h
theorem l_dec {n : Nat} (hn : n < 2147483647) (x : Int32) : ¬ (0 ≤ x ∧ x ≤ nI n) ∨ ∃ j, j ≤ n ∧ x = nI j := by
  by_cases h : 0 ≤ x ∧ x ≤ nI n
  · have h2 : 0 ≤ x ∧ x < nI (n + 1) := by
      refine ⟨h.1, ?_⟩
      have h3 := h.2
      rw [Int32.le_iff_toInt_le, nI_toInt (by omega)] at h3
      rw [Int32.lt_iff_toInt_lt, nI_toInt (by omega)]
      omega
    obtain ⟨j, hj, e⟩ := in_of (by omega) h2
    exact Or.inr ⟨j, by omega, e⟩
  · exact Or.inl h
theorem s_dec {n : Nat} (hn : n < 2147483647) (x y : Int32) : ¬ (0 ≤ x ∧ x ≤ y ∧ y ≤ nI n) ∨ ∃ p q, p ≤ q ∧ q ≤ n ∧ x = nI p ∧ y = nI q := by
  by_cases h : 0 ≤ x ∧ x ≤ y ∧ y ≤ nI n
  · obtain ⟨h1, h2, h3⟩ := h
    have hx : 0 ≤ x ∧ x ≤ nI n := ⟨h1, Int32.le_trans h2 h3⟩
    have hy : 0 ≤ y ∧ y ≤ nI n := ⟨Int32.le_trans h1 h2, h3⟩
    rcases l_dec hn x with g | ⟨p, hp, rfl⟩
    · exact absurd hx g
    · rcases l_dec hn y with g | ⟨q, hq, rfl⟩
      · exact absurd hy g
      · refine Or.inr ⟨p, q, ?_, hq, rfl, rfl⟩
        rw [Int32.le_iff_toInt_le, nI_toInt (by omega), nI_toInt (by omega)] at h2
        omega
  · exact Or.inl h
/-- the class's call throws where the model notes it; or both answer alike and go on alike -/
def PR (l : Launch) (D : va_G) (cy : Nat → ClassId) (X : (Nat → Prop) → State → Heap → Prop) (a : Nat → Nat → Nat) (ba ra : Nat → Nat) (f : Nat → Nat → Nat) (r : Nat → Nat → Int32) (hf : Nat → Nat → Nat) (hq : Nat → Nat → Int32) (kn th : Int32) (sm : Int64)
    (y2 : MethodName) (c2 : ByteArray) (m2 : Nat) (r2 : Option FieldType) (y4 : MethodName) (c4 : ByteArray) (m4 : Nat) (r4 : Option FieldType) (R4 : Room) (xs : List Value) (tab : List (String × Nat)) : Prop :=
  (∃ (E : String) (k : Nat), (E, k) ∈ tab ∧ (∀ Y : va_W, Ce l D cy X y2 c2 m2 r2 (rmk 8 1 6 170) (.ref (a 0 0) :: xs) (WC cy a f r kn ++ Y) E) ∧
      ∀ Y : va_W, Cd l D cy X y4 c4 m4 r4 R4 (.ref (ba 9) :: xs) (WM cy ba ra hf hq kn th sm ++ Y) (some (.int (nI 0))) (WM cy ba ra hf hq kn (nI k) sm ++ Y)) ∨
  ∃ (f' : Nat → Nat → Nat) (r' : Nat → Nat → Int32) (hf' : Nat → Nat → Nat) (hq' : Nat → Nat → Int32) (n : Int32), CInv f' ∧ RB r' ∧ MR f' r' hf' hq' ∧
    (∀ Y : va_W, Cd l D cy X y2 c2 m2 r2 (rmz 6 240) (.ref (a 0 0) :: xs) (WC cy a f r kn ++ Y) (some (.int n)) (WC cy a f' r' kn ++ Y)) ∧
    ∀ Y : va_W, Cm l D cy X y4 c4 m4 r4 R4 (.ref (ba 9) :: xs) (WM cy ba ra hf hq kn th sm ++ Y) (fun v1 w1 => ∃ ra9 : Nat → Nat, v1 = some (.int n) ∧ w1 = WM cy ba ra9 hf' hq' kn (nI 0) sm ++ Y) (fun _ => False)
theorem Cm.wide {l : Launch} {D : va_G} {cy : Nat → ClassId} {X : (Nat → Prop) → State → Heap → Prop} {y : MethodName} {cc : ByteArray} {maxL : Nat} {ret : Option FieldType} {rm rm' : Room} {av : List Value} {w : va_W} {post : Option Value → va_W → Prop} {px : String → Prop} (h : Cm l D cy X y cc maxL ret rm av w post px) (hr : rm.frames ≤ rm'.frames ∧ rm.cells ≤ rm'.cells ∧ rm.slots ≤ rm'.slots ∧ rm.locals ≤ rm'.locals) : Cm l D cy X y cc maxL ret rm' av w post px := by
  intro sz p e ha hc hk s m args below hf happ hP hK
  obtain ⟨r1, r2, r3, r4⟩ := hr
  have happ2 : (headSpec (Cond.code y cc maxL ret :: GW) rm).appliesLoose y e.platform s = true := by
    rw [Spec.appliesLoose_iff hf] at happ ⊢
    obtain ⟨a1, a2, a3, a4, a5, a6, a7, a8⟩ := happ
    refine ⟨a1, a2, a3, a4, a5, a6, ?_, a8⟩
    change s.hasRoom _ rm' = true at a7
    show s.hasRoom _ rm = true
    simp only [State.hasRoom, Bool.and_eq_true, decide_eq_true_eq] at a7 ⊢
    obtain ⟨⟨⟨⟨b0, b1, b2, b3, b4, b5⟩, b6⟩, b7⟩, b8⟩ := a7
    exact ⟨⟨⟨⟨by omega, by omega, by omega, by omega, by omega, b5⟩, by omega⟩, by omega⟩, b8⟩
  obtain ⟨n, o, h1, h2, h3, h4⟩ := h sz p e ha hc hk s m args below hf happ2 hP hK
  refine ⟨n, o, h1, h2, h3, ?_⟩
  rcases h4 with ⟨q, L, hF, hL⟩ | ⟨q, hq, E, ce, L, t1, t2, t3, t4, t5, t6, t7⟩
  · exact Or.inl ⟨q, L, ⟨hF.1, hF.2.1, hF.2.2.mono r2 r3⟩, hL⟩
  · exact Or.inr ⟨q, hq, E, ce, L, t1, t2, t3, t4, t5, t6.mono r2 r3, t7⟩
section PRS
variable {l : Launch} {D : va_G} {cy : Nat → ClassId} {X : (Nat → Prop) → State → Heap → Prop} {a : Nat → Nat → Nat} {ba ra : Nat → Nat} {f : Nat → Nat → Nat} {r : Nat → Nat → Int32} {hf : Nat → Nat → Nat} {hq : Nat → Nat → Int32} {kn th : Int32} {sm : Int64}
variable {y2 : MethodName} {c2 : ByteArray} {m2 : Nat} {r2 : Option FieldType} {y4 : MethodName} {c4 : ByteArray} {m4 : Nat} {r4 : Option FieldType} {R4 : Room} {xs : List Value} {tab : List (String × Nat)}
theorem PR.ex {E : String} {k : Nat} (h1 : ∀ Y : va_W, Ce l D cy X y2 c2 m2 r2 (rmk 8 1 6 170) (.ref (a 0 0) :: xs) (WC cy a f r kn ++ Y) E)
    (h2 : ∀ Y : va_W, Cd l D cy X y4 c4 m4 r4 R4 (.ref (ba 9) :: xs) (WM cy ba ra hf hq kn th sm ++ Y) (some (.int (nI 0))) (WM cy ba ra hf hq kn (nI k) sm ++ Y)) (h : (E, k) ∈ tab) : PR l D cy X a ba ra f r hf hq kn th sm y2 c2 m2 r2 y4 c4 m4 r4 R4 xs tab := Or.inl ⟨E, k, h, h1, h2⟩
theorem PR.ok {f' : Nat → Nat → Nat} {r' : Nat → Nat → Int32} {hf' : Nat → Nat → Nat} {hq' : Nat → Nat → Int32} {n n2 : Int32}
    (h1 : ∀ Y : va_W, Cd l D cy X y2 c2 m2 r2 (rmz 6 240) (.ref (a 0 0) :: xs) (WC cy a f r kn ++ Y) (some (.int n)) (WC cy a f' r' kn ++ Y))
    (h2 : ∀ Y : va_W, Cd l D cy X y4 c4 m4 r4 R4 (.ref (ba 9) :: xs) (WM cy ba ra hf hq kn th sm ++ Y) (some (.int n2)) (WM cy ba ra hf' hq' kn (nI 0) sm ++ Y))
    (hC : CInv f') (hB : RB r') (hM : MR f' r' hf' hq') (e : n2 = n) : PR l D cy X a ba ra f r hf hq kn th sm y2 c2 m2 r2 y4 c4 m4 r4 R4 xs tab :=
  Or.inr ⟨f', r', hf', hq', n, hC, hB, hM, h1, fun Y => (h2 Y).imp (fun v w1 h => ⟨ra, e ▸ h.1, h.2⟩)⟩
theorem PR.okR {f' : Nat → Nat → Nat} {r' : Nat → Nat → Int32} {hf' : Nat → Nat → Nat} {hq' : Nat → Nat → Int32} {n n2 : Int32}
    (h1 : ∀ Y : va_W, Cd l D cy X y2 c2 m2 r2 (rmz 6 240) (.ref (a 0 0) :: xs) (WC cy a f r kn ++ Y) (some (.int n)) (WC cy a f' r' kn ++ Y))
    (h2 : ∀ Y : va_W, Cm l D cy X y4 c4 m4 r4 R4 (.ref (ba 9) :: xs) (WM cy ba ra hf hq kn th sm ++ Y) (fun v1 w1 => ∃ ra9 : Nat → Nat, v1 = some (.int n2) ∧ w1 = WM cy ba ra9 hf' hq' kn (nI 0) sm ++ Y) (fun _ => False))
    (hC : CInv f') (hB : RB r') (hM : MR f' r' hf' hq') (e : n2 = n) : PR l D cy X a ba ra f r hf hq kn th sm y2 c2 m2 r2 y4 c4 m4 r4 R4 xs tab :=
  Or.inr ⟨f', r', hf', hq', n, hC, hB, hM, h1, fun Y => e ▸ h2 Y⟩
end PRS
section PQ
variable {f hf F HF : Nat → Nat → Nat} {r r1 hq R HQ : Nat → Nat → Int32}
theorem set5 {F : Nat → Nat → Nat} {w d : Nat} (hw : w < 8) : settleF F w d 5 w = F 5 w := by
  rw [seF_5, if_neg (fun z => by
    have := z.2.2.2
    rw [hol_self hw] at this
    cases this)]
theorem set4 {F : Nat → Nat → Nat} {w d i : Nat} : settleF F w d 4 i = F 4 i := rfl
theorem ch_ans {w d : Nat} (hC : CInv (settleF F w d)) (hM : MR (settleF F w d) R HF HQ) (hw : w < 8) (h5 : F 5 w = 1) : HF 4 w = F 4 w := (hM.wh hC hw ((set5 hw).trans h5)).1
theorem MR_up {q : Nat} {j j2 : Nat} {y : Int32} (hM : MR f r hf hq) (e : j2 = j) : MR f (up2 r j2 q y) hf (up2 hq j q y) := by
  subst e
  refine MR_itm hM (fun _ _ _ => rfl) (fun i k hi hk => ?_)
  unfold up2
  split
  · rfl
  · exact (hM.2.1 i hi).2 k hk
theorem up2_x {α : Type} {F : Nat → Nat → α} {k i k' i' : Nat} {v : α} (h : k' ≠ k ∨ i' ≠ i) : up2 F k i v k' i' = F k' i' := by
  rcases h with h | h
  · exact up2_k _ _ _ _ h
  · exact up2_i _ _ _ _ h
theorem up2_row {j k : Nat} {y : Int32} {i : Nat} (h : i ≠ j) : up2 r j k y i = r i := funext fun q => up2_k _ _ _ _ h
theorem cpy_row {j0 sp j1 dp n i : Nat} (h : i ≠ j1) : cpy2 r j0 sp j1 dp n i = r i := funext fun q => cpy2_off h
theorem ch4 {w d i : Nat} : chM f hf w d 4 i = hf 4 i := chM_o _ _ _ _ _ (by decide) (by decide)
theorem stF_same {g h g' h' : Nat → Int32} : ∀ d k, (∀ q, k ≤ q → q < k + d → g q = g' q ∧ h q = h' q) → stF g h d k = stF g' h' d k
  | 0, _, _ => rfl
  | d + 1, k, a => by
    show (if g k = h k then stF g h d (k + 1) else 0) = (if g' k = h' k then stF g' h' d (k + 1) else 0)
    have b := a k (by omega) (by omega)
    rw [b.1, b.2, stF_same d (k + 1) (fun q x y => a q (by omega) (by omega))]
theorem poF_same {s s' : Nat → Nat} : ∀ d k, (∀ q, k ≤ q → q < k + d → s q = s' q) → poF s d k = poF s' d k
  | 0, _, _ => rfl
  | d + 1, k, a => by
    show (if s k = 0 then poF s d (k + 1) else k) = (if s' k = 0 then poF s' d (k + 1) else k)
    rw [a k (by omega) (by omega), poF_same d (k + 1) (fun q x y => a q (by omega) (by omega))]
theorem liF_same {g g' : Nat → Int32} {x : Int32} : ∀ d k z, (∀ q, k ≤ q → q < k + d → g q = g' q) → liF g x d k z = liF g' x d k z
  | 0, _, _, _ => rfl
  | d + 1, k, z, a => by
    show (if g k = x then liF g x d (k + 1) k else liF g x d (k + 1) z) = (if g' k = x then liF g' x d (k + 1) k else liF g' x d (k + 1) z)
    rw [a k (by omega) (by omega), liF_same d (k + 1) k (fun q x y => a q (by omega) (by omega)), liF_same d (k + 1) z (fun q x y => a q (by omega) (by omega))]
theorem hoF_same {g g' : Nat → Int32} {x : Int32} : ∀ d k z, (∀ q, k ≤ q → q < k + d → g q = g' q) → hoF g x d k z = hoF g' x d k z
  | 0, _, _, _ => rfl
  | d + 1, k, z, a => by
    show (if g k = x then hoF g x d (k + 1) (z + 1) else hoF g x d (k + 1) z) = (if g' k = x then hoF g' x d (k + 1) (z + 1) else hoF g' x d (k + 1) z)
    rw [a k (by omega) (by omega), hoF_same d (k + 1) (z + 1) (fun q x y => a q (by omega) (by omega)), hoF_same d (k + 1) z (fun q x y => a q (by omega) (by omega))]
theorem leF_same {b : Nat} {g g' : Nat → Int32} : ∀ d k z, (∀ q, k ≤ q → q < k + d → g q = g' q) → leF b g d k z = leF b g' d k z
  | 0, _, _, _ => rfl
  | d + 1, k, z, a => by
    show (if b = 0 then leF b g d (k + 1) (if g k < z then g k else z) else leF b g d (k + 1) (if z < g k then g k else z)) = (if b = 0 then leF b g' d (k + 1) (if g' k < z then g' k else z) else leF b g' d (k + 1) (if z < g' k then g' k else z))
    rw [a k (by omega) (by omega), leF_same d (k + 1) (if g' k < z then g' k else z) (fun q x y => a q (by omega) (by omega)), leF_same d (k + 1) (if z < g' k then g' k else z) (fun q x y => a q (by omega) (by omega))]
/-- the first against itself changes nothing -/
theorem leF_0 {b n : Nat} {g : Nat → Int32} (hn : 0 < n) : leF b g n 0 (g 0) = leF b g (n - 1) 1 (g 0) := by
  obtain ⟨d, rfl⟩ : ∃ d, n = d + 1 := ⟨n - 1, by omega⟩
  show (if b = 0 then leF b g d (0 + 1) (if g 0 < g 0 then g 0 else g 0) else leF b g d (0 + 1) (if g 0 < g 0 then g 0 else g 0)) = leF b g d 1 (g 0)
  rw [ite_self]
  split <;> rfl
theorem apF_same {P P' : Int32 → Nat} {g g' : Nat → Int32} (hP : ∀ x, P x = P' x) : ∀ d k, (∀ q, k ≤ q → q < k + d → g q = g' q) → apF P g d k = apF P' g' d k
  | 0, _, _ => rfl
  | d + 1, k, a => by
    show (if P (g k) = 0 then apF P g d (k + 1) else 0) = (if P' (g' k) = 0 then apF P' g' d (k + 1) else 0)
    rw [hP, a k (by omega) (by omega), apF_same hP d (k + 1) (fun q x y => a q (by omega) (by omega))]
theorem smF_same {v v' : Nat → Nat} : ∀ d k z, (∀ q, k ≤ q → q < k + d → v q = v' q) → smF v d k z = smF v' d k z
  | 0, _, _, _ => rfl
  | d + 1, k, z, a => by
    show smF v d (k + 1) (z + v k) = smF v' d (k + 1) (z + v' k)
    rw [a k (by omega) (by omega), smF_same d (k + 1) _ (fun q x y => a q (by omega) (by omega))]
/-- how a row's or window's items read in the model -/
theorem MR.rw0 (hC : CInv f) (hM : MR f r hf hq) {i k : Nat} (hi : i < 4) (hk : k < f 4 i) : hq i k = r (f 0 i) (f 3 i + k) := by
  have q := hC.rw hi
  rw [(hM.2.1 i hi).2 k hk, q.1, q.2.2.2.1, Nat.zero_add]
theorem MR.h4 (hM : MR f r hf hq) {i : Nat} (hi : i < 4) : hf 4 i = f 4 i := (hM.2.1 i hi).1
/-- all below, or a first one that is not -/
theorem first_or (P : Nat → Prop) : ∀ n, (∀ q, q < n → P q) ∨ ∃ m, m < n ∧ (∀ q, q < m → P q) ∧ ¬ P m
  | 0 => Or.inl (fun _ h => absurd h (Nat.not_lt_zero _))
  | n + 1 => by
    rcases first_or P n with h | ⟨m, h1, h2, h3⟩
    · by_cases hp : P n
      · refine Or.inl (fun q hq => ?_)
        rcases Nat.lt_or_ge q n with h4 | h4
        · exact h q h4
        · exact (show q = n by omega) ▸ hp
      · exact Or.inr ⟨n, by omega, h, hp⟩
    · exact Or.inr ⟨m, by omega, h2, h3⟩
end PQ
end PT_72
/-! ===== 73.pair2 -/
section PT_73
/-! THE CLASS'S CALL BESIDE THE MODEL'S, FIRST -/
theorem P_add {l : Launch} {D : va_G} {cy : Nat → ClassId} {X : (Nat → Prop) → State → Heap → Prop} {a : Nat → Nat → Nat} {ba ra : Nat → Nat} {f : Nat → Nat → Nat} {r : Nat → Nat → Int32} {hf : Nat → Nat → Nat} {hq : Nat → Nat → Int32} {kn th : Int32} {sm : Int64} (hX : EnvM X cy) (hl : l.stackTraces = false) (hC : CInv f) (hB : RB r) (hM : MR f r hf hq) (x0 x1 : Int32) : PR l D cy X a ba ra f r hf hq kn th sm yX2_add cX2_add 3 (some .int) yX4_add cX4_add 3 (some .int) (rmk 9 4 48 420) [.int x0, .int x1] [("java/lang/IndexOutOfBoundsException", 1), ("java/lang/IllegalArgumentException", 2), ("java/lang/IllegalStateException", 3)] := by
  rcases w_dec f x0 with hno | ⟨w, hw, h5w, rfl⟩
  · exact PR.ex (fun _ => C_add_noW hX.1 hl hC hno) (fun _ => D_add_noW hX hC hM hno) (by simp)
  have W := hM.wh hC hw h5w
  by_cases ho : okI x1
  · rcases Nat.lt_or_ge (f 4 (f 1 w)) 12 with hroom | hfull
    · have c1 : CInv (settleF (exL (up2 f 4 8 1) w 1 0 8) w 4294967295) := chF_keep hC hw h5w (by omega) (Nat.zero_le _) (by omega) rfl
      have m1 := MR_lay (d := 4294967295) (c := 1) (g := 0) (p := f 4 w) (q := f 4 w) (r1 := up2 r (f 0 8) 0 x1) (ins := upd (fun _ => 0) 0 x1) hC hM hw h5w (Nat.le_refl _) (Nat.le_refl _) (Nat.sub_self _).symm (g2 := 0) (Nat.sub_self _).symm rfl W.1 (n := chM f hf w 4294967295 4 (f 1 w) - 0 + 1) (by rw [ch4]; omega) (fun i hi => up2_row (by have := hC.sp; omega)) (fun j hj => by
        obtain rfl : j = 0 := by omega
        rw [up2_eq]
        rfl)
      refine PR.okR (fun _ => C_add_ok hX.1 hC hw h5w ho hroom) (fun _ => D_add_ok hX hC hM hw h5w ho hroom) ?_ ?_ ?_ ?_
      · exact c1
      · exact (hB.up (IB.ok ho)).ex _ _ _ _
      · exact m1
      · exact congrArg nI ((ch_ans (F := exL (up2 f 4 8 1) w 1 0 8) c1 m1 hw h5w).trans set4.symm)
    · exact PR.ex (fun _ => C_add_full hX.1 hl hC hw h5w ho hfull) (fun _ => D_add_full hX hC hM hw h5w ho hfull) (by simp)
  · exact PR.ex (fun _ => C_add_noI hX.1 hl hC hw h5w ho) (fun _ => D_add_noI hX hC hM hw h5w ho) (by simp)
theorem P_insert {l : Launch} {D : va_G} {cy : Nat → ClassId} {X : (Nat → Prop) → State → Heap → Prop} {a : Nat → Nat → Nat} {ba ra : Nat → Nat} {f : Nat → Nat → Nat} {r : Nat → Nat → Int32} {hf : Nat → Nat → Nat} {hq : Nat → Nat → Int32} {kn th : Int32} {sm : Int64} (hX : EnvM X cy) (hl : l.stackTraces = false) (hC : CInv f) (hB : RB r) (hM : MR f r hf hq) (x0 x1 x2 : Int32) : PR l D cy X a ba ra f r hf hq kn th sm yX2_insert cX2_insert 4 (some .int) yX4_insert cX4_insert 4 (some .int) (rmk 9 4 48 420) [.int x0, .int x1, .int x2] [("java/lang/IndexOutOfBoundsException", 1), ("java/lang/IllegalArgumentException", 2), ("java/lang/IllegalStateException", 3)] := by
  rcases w_dec f x0 with hno | ⟨w, hw, h5w, rfl⟩
  · exact PR.ex (fun _ => C_insert_noW hX.1 hl hC hno) (fun _ => D_insert_noW hX hC hM hno) (by simp)
  have W := hM.wh hC hw h5w
  by_cases ho : okI x2
  · rcases Nat.lt_or_ge (f 4 (f 1 w)) 12 with hroom | hfull
    · rcases l_dec (n := f 4 w) (by omega) x1 with hno | ⟨k0, hk, rfl⟩
      · refine PR.ok (fun _ => C_insert_ref hX.1 hC hw h5w ho hroom hno) (fun _ => D_insert_ref hX hC hM hw h5w ho hroom hno) ?_ ?_ ?_ ?_
        · exact hC
        · exact hB
        · exact hM
        · rfl
      have c1 : CInv (settleF (exL (up2 f 4 8 1) w 1 0 8) w 4294967295) := chF_keep hC hw h5w (by omega) (Nat.zero_le _) (by omega) rfl
      have m1 := MR_lay (d := 4294967295) (c := 1) (g := 0) (p := k0) (q := k0) (r1 := up2 r (f 0 8) 0 x2) (ins := upd (fun _ => 0) 0 x2) hC hM hw h5w (Nat.le_refl _) hk (Nat.sub_self _).symm (g2 := 0) (Nat.sub_self _).symm rfl rfl (n := chM f hf w 4294967295 4 (f 1 w) - 0 + 1) (by rw [ch4]; omega) (fun i hi => up2_row (by have := hC.sp; omega)) (fun j hj => by
        obtain rfl : j = 0 := by omega
        rw [up2_eq]
        rfl)
      refine PR.okR (fun _ => C_insert_ok hX.1 hC hw h5w ho hroom hk) (fun _ => D_insert_ok hX hC hM hw h5w ho hroom hk) ?_ ?_ ?_ ?_
      · exact c1
      · exact (hB.up (IB.ok ho)).ex _ _ _ _
      · exact m1
      · exact congrArg nI (ch_ans c1 m1 hw h5w)
    · exact PR.ex (fun _ => C_insert_full hX.1 hl hC hw h5w ho hfull) (fun _ => D_insert_full hX hC hM hw h5w ho hfull) (by simp)
  · exact PR.ex (fun _ => C_insert_noI hX.1 hl hC hw h5w ho) (fun _ => D_insert_noI hX hC hM hw h5w ho) (by simp)
theorem P_set {l : Launch} {D : va_G} {cy : Nat → ClassId} {X : (Nat → Prop) → State → Heap → Prop} {a : Nat → Nat → Nat} {ba ra : Nat → Nat} {f : Nat → Nat → Nat} {r : Nat → Nat → Int32} {hf : Nat → Nat → Nat} {hq : Nat → Nat → Int32} {kn th : Int32} {sm : Int64} (hX : EnvM X cy) (hl : l.stackTraces = false) (hC : CInv f) (hB : RB r) (hM : MR f r hf hq) (x0 x1 x2 : Int32) : PR l D cy X a ba ra f r hf hq kn th sm yX2_set cX2_set 5 (some .int) yX4_set cX4_set 5 (some .int) (rmk 9 4 48 420) [.int x0, .int x1, .int x2] [("java/lang/IndexOutOfBoundsException", 1), ("java/lang/IllegalArgumentException", 2)] := by
  rcases w_dec f x0 with hno | ⟨w, hw, h5w, rfl⟩
  · exact PR.ex (fun _ => C_set_noW hX.1 hl hC hno) (fun _ => D_set_noW hX hC hM hno) (by simp)
  have W := hM.wh hC hw h5w
  rcases n_dec (n := f 4 w) (by omega) x1 with hno | ⟨k0, hk, rfl⟩
  · exact PR.ex (fun _ => C_set_noP hX.1 hl hC hw h5w hno) (fun _ => D_set_noP hX hC hM hw h5w hno) (by simp)
  by_cases ho : okI x2
  · refine PR.ok (fun _ => C_set_ok hX.1 hC hw h5w hk ho) (fun _ => D_set_ok hX hC hM hw h5w hk ho) ?_ ?_ ?_ ?_
    · exact hC
    · exact hB.up (IB.ok ho)
    · exact MR_up hM W.2.2.2.2.2.1
    · exact hM.it hC hw h5w hk
  · exact PR.ex (fun _ => C_set_noI hX.1 hl hC hw h5w hk ho) (fun _ => D_set_noI hX hC hM hw h5w hk ho) (by simp)
theorem P_remove {l : Launch} {D : va_G} {cy : Nat → ClassId} {X : (Nat → Prop) → State → Heap → Prop} {a : Nat → Nat → Nat} {ba ra : Nat → Nat} {f : Nat → Nat → Nat} {r : Nat → Nat → Int32} {hf : Nat → Nat → Nat} {hq : Nat → Nat → Int32} {kn th : Int32} {sm : Int64} (hX : EnvM X cy) (hl : l.stackTraces = false) (hC : CInv f) (hB : RB r) (hM : MR f r hf hq) (x0 x1 : Int32) : PR l D cy X a ba ra f r hf hq kn th sm yX2_remove cX2_remove 4 (some .int) yX4_remove cX4_remove 4 (some .int) (rmk 9 4 48 420) [.int x0, .int x1] [("java/lang/IndexOutOfBoundsException", 1)] := by
  rcases w_dec f x0 with hno | ⟨w, hw, h5w, rfl⟩
  · exact PR.ex (fun _ => C_remove_noW hX.1 hl hC hno) (fun _ => D_remove_noW hX hC hM hno) (by simp)
  have W := hM.wh hC hw h5w
  rcases n_dec (n := f 4 w) (by omega) x1 with hno | ⟨k0, hk, rfl⟩
  · exact PR.ex (fun _ => C_remove_noP hX.1 hl hC hw h5w hno) (fun _ => D_remove_noP hX hC hM hw h5w hno) (by simp)
  refine PR.okR (fun _ => C_remove_ok hX.1 hC hw h5w hk) (fun _ => D_remove_ok hX hC hM hw h5w hk) ?_ ?_ ?_ ?_
  · exact chF_keep hC hw h5w (by omega) (by omega) (by omega) rfl
  · exact hB.ex _ _ _ _
  · exact MR_lay (p := k0) (q := k0 + 1) (c := 0) hC hM hw h5w (by omega) (by omega) rfl (by omega) rfl rfl (by rw [ch4]; omega) (fun _ _ => rfl) (fun j hj => absurd hj (Nat.not_lt_zero _))
  · exact hM.it hC hw h5w hk
theorem P_clear {l : Launch} {D : va_G} {cy : Nat → ClassId} {X : (Nat → Prop) → State → Heap → Prop} {a : Nat → Nat → Nat} {ba ra : Nat → Nat} {f : Nat → Nat → Nat} {r : Nat → Nat → Int32} {hf : Nat → Nat → Nat} {hq : Nat → Nat → Int32} {kn th : Int32} {sm : Int64} (hX : EnvM X cy) (hl : l.stackTraces = false) (hC : CInv f) (hB : RB r) (hM : MR f r hf hq) (x0 : Int32) : PR l D cy X a ba ra f r hf hq kn th sm yX2_clear cX2_clear 3 (some .int) yX4_clear cX4_clear 3 (some .int) (rmk 9 4 48 420) [.int x0] [("java/lang/IndexOutOfBoundsException", 1)] := by
  rcases w_dec f x0 with hno | ⟨w, hw, h5w, rfl⟩
  · exact PR.ex (fun _ => C_clear_noW hX.1 hl hC hno) (fun _ => D_clear_noW hX hC hM hno) (by simp)
  have W := hM.wh hC hw h5w
  rcases Nat.eq_zero_or_pos (f 4 w) with hz | hz
  · refine PR.ok (fun _ => C_clear_0 hX.1 hC hw h5w hz) (fun _ => D_clear_0 hX hC hM hw h5w hz) ?_ ?_ ?_ ?_
    · exact hC
    · exact hB
    · exact hM
    · rw [hz]
  refine PR.okR (fun _ => C_clear_ok hX.1 hC hw h5w hz) (fun _ => D_clear_ok hX hC hM hw h5w hz) ?_ ?_ ?_ ?_
  · exact chF_keep hC hw h5w (by omega) (by omega) (by omega) rfl
  · exact hB.ex _ _ _ _
  · exact MR_lay (p := 0) (q := f 4 w) (c := 0) hC hM hw h5w (by omega) (by omega) rfl W.1 rfl rfl (by rw [ch4]; omega) (fun _ _ => rfl) (fun j hj => absurd hj (Nat.not_lt_zero _))
  · exact congrArg nI W.1
theorem P_splice {l : Launch} {D : va_G} {cy : Nat → ClassId} {X : (Nat → Prop) → State → Heap → Prop} {a : Nat → Nat → Nat} {ba ra : Nat → Nat} {f : Nat → Nat → Nat} {r : Nat → Nat → Int32} {hf : Nat → Nat → Nat} {hq : Nat → Nat → Int32} {kn th : Int32} {sm : Int64} (hX : EnvM X cy) (hl : l.stackTraces = false) (hC : CInv f) (hB : RB r) (hM : MR f r hf hq) (x0 x1 x2 x3 : Int32) : PR l D cy X a ba ra f r hf hq kn th sm yX2_splice cX2_splice 7 (some .int) yX4_splice cX4_splice 6 (some .int) (rmk 9 4 48 420) [.int x0, .int x1, .int x2, .int x3] [("java/lang/IndexOutOfBoundsException", 1), ("java/lang/IllegalStateException", 2)] := by
  rcases w_dec f x0 with hno | ⟨w, hw, h5w, rfl⟩
  · exact PR.ex (fun _ => C_splice_noW hX.1 hl hC hno) (fun _ => D_splice_noW hX hC hM hno) (by simp)
  have W := hM.wh hC hw h5w
  rcases w_dec f x3 with hno | ⟨v, hv, h5v, rfl⟩
  · exact PR.ex (fun _ => C_splice_noW2 hX.1 hl hC hw h5w hno) (fun _ => D_splice_noW2 hX hC hM hw h5w hno) (by simp)
  have V := hM.wh hC hv h5v
  rcases s_dec (n := f 4 w) (by omega) x1 x2 with hno | ⟨p0, q0, hp, hqb, rfl, rfl⟩
  · refine PR.ok (fun _ => C_splice_ref hX.1 hC hw h5w hv h5v hno) (fun _ => D_splice_ref hX hC hM hw h5w hv h5v hno) ?_ ?_ ?_ ?_
    · exact hC
    · exact hB
    · exact hM
    · rfl
  rcases Nat.lt_or_ge 12 (f 4 (f 1 w) + f 4 v - (q0 - p0)) with hfull | hfit
  · exact PR.ex (fun _ => C_splice_full hX.1 hl hC hw h5w hv h5v hp hqb hfull) (fun _ => D_splice_full hX hC hM hw h5w hv h5v hp hqb hfull) (by simp)
  by_cases hz0 : q0 = p0 ∧ f 4 v = 0
  · refine PR.ok (fun _ => C_splice_0 hX.1 hC hw h5w hv h5v hp hqb hz0) (fun _ => D_splice_0 hX hC hM hw h5w hv h5v hp hqb hz0) ?_ ?_ ?_ ?_
    · exact hC
    · exact hB
    · exact hM
    · exact congrArg nI W.1
  have hz : p0 < q0 ∨ 0 < f 4 v := by omega
  have c1 : CInv (settleF (exL (up2 f 4 8 (f 4 v)) w (f 4 v) (q0 - p0) 8) w 4294967295) := chF_keep hC hw h5w (by omega) (by omega) (by omega) rfl
  have m1 := MR_lay (d := 4294967295) (c := f 4 v) (g := q0 - p0) (p := p0) (q := q0) (r1 := cpy2 r (f 0 v) (f 3 v) (f 0 8) (f 3 8) (f 4 v)) (ins := cutF (fun z => hq (f 1 v) (f 3 v + z)) (hf 4 v)) hC hM hw h5w hp hqb rfl (g2 := q0 - p0) rfl (c2 := hf 4 v) V.1 (p2 := p0) rfl (n := chM f hf w 4294967295 4 (f 1 w) - (q0 - p0) + hf 4 v) (by rw [ch4]; omega) (fun i hi => cpy_row (by have := hC.sp; omega)) (fun j hj => by
    have sp := hC.sp
    rw [MR.ct hC hM hv h5v hj, cpy2_me, if_pos (by omega), show j - f 3 8 = j by omega])
  refine PR.okR (fun _ => C_splice_ok hX.1 hC hw h5w hv h5v hp hqb hfit hz) (fun _ => D_splice_ok hX hC hM hw h5w hv h5v hp hqb hfit hz) ?_ ?_ ?_ ?_
  · rw [up2_eq]
    exact c1
  · exact (hB.cpy _ _ _ _ _).ex _ _ _ _
  · rw [up2_eq]
    exact m1
  · rw [up2_eq]
    exact congrArg nI (ch_ans c1 m1 hw h5w)
theorem P_rotate {l : Launch} {D : va_G} {cy : Nat → ClassId} {X : (Nat → Prop) → State → Heap → Prop} {a : Nat → Nat → Nat} {ba ra : Nat → Nat} {f : Nat → Nat → Nat} {r : Nat → Nat → Int32} {hf : Nat → Nat → Nat} {hq : Nat → Nat → Int32} {kn th : Int32} {sm : Int64} (hX : EnvM X cy) (hl : l.stackTraces = false) (hC : CInv f) (hB : RB r) (hM : MR f r hf hq) (x0 x1 : Int32) : PR l D cy X a ba ra f r hf hq kn th sm yX2_rotate cX2_rotate 3 (some .int) yX4_rotate cX4_rotate 6 (some .int) (rmk 9 4 48 420) [.int x0, .int x1] [("java/lang/IndexOutOfBoundsException", 1), ("java/lang/IllegalArgumentException", 2)] := by
  rcases w_dec f x0 with hno | ⟨w, hw, h5w, rfl⟩
  · exact PR.ex (fun _ => C_rotate_noW hX.1 hl hC hno) (fun _ => D_rotate_noW hX hC hM hno) (by simp)
  have W := hM.wh hC hw h5w
  have sp := hC.sp
  have hh : ∀ {R HQ : Nat → Nat → Int32}, (∀ i k, i < 4 → k < f 4 i → HQ i k = R i k) → 0 < f 4 w → HQ (f 1 w) (f 3 w) = R (f 0 w) (f 3 w) := fun h h0 => by
    rw [W.2.2.2.2.2.1]
    exact h _ _ W.2.2.1 (by omega)
  by_cases ho : okI x1
  · rcases Nat.eq_zero_or_pos (f 4 w) with hz | hz
    · refine PR.ok (fun _ => C_rotate_0 hX.1 hC hw h5w ho hz) (fun _ => D_rotate_0 hX hC hM hw h5w ho hz) ?_ ?_ ?_ ?_
      · exact hC
      · exact hB
      · rw [W.1, hz, wrR_0]
        exact hM
      · rw [if_pos hz]
    have hI : ∀ i k, i < 4 → k < f 4 i → wrR hq (f 1 w) (f 3 w) (hf 4 w) (scA (rotN (hf 4 w) (shN x1 (hf 4 w))) (cutF (fun z => hq (f 1 w) (f 3 w + z)) (hf 4 w)) (hf 4 w) (hf 4 w)) i k = (scS (cpy2 r (f 0 w) (f 3 w) (f 0 8) (f 3 8) (f 4 w)) (f 0 w) (f 3 w) (f 4 w) (rotN (f 4 w) (shN x1 (f 4 w))) (fun q => r (f 0 w) (f 3 w + q))) i k := itm_str hC hM hw h5w W.1 (fun j hj hne => funext fun q => (scS_off (by omega)).trans (cpy2_off (by omega))) (fun t ht => by
      refine (show (scS (cpy2 r (f 0 w) (f 3 w) (f 0 8) (f 3 8) (f 4 w)) (f 0 w) (f 3 w) (f 4 w) (rotN (f 4 w) (shN x1 (f 4 w))) (fun q => r (f 0 w) (f 3 w + q))) (f 1 w) (f 3 w + t) = (scS (cpy2 r (f 0 w) (f 3 w) (f 0 8) (f 3 8) (f 4 w)) (f 0 w) (f 3 w) (f 4 w) (rotN (f 4 w) (shN x1 (f 4 w))) (fun q => r (f 0 w) (f 3 w + q))) (f 0 w) (f 3 w + t) by rw [W.2.2.2.2.2.1]).trans ?_
      rw [scS_at ht, scA_end (fun j _ => rotN_lt (by omega)), cutF_at (by omega)]
      exact ((MR.ct hC hM hw h5w (k := rotN (hf 4 w) (shN x1 (hf 4 w)) t) (by rw [W.1]; exact rotN_lt hz)).trans (by rw [W.1])).symm) (fun k hk => (by rw [← W.2.2.2.2.2.1]; exact (if_neg (fun z => by omega)).trans (cpy2_off (by omega))))
    refine PR.ok (fun _ => C_rotate_ok hX.1 hC hw h5w ho hz) (fun _ => D_rotate_ok hX hC hM hw h5w ho hz) ?_ ?_ ?_ ?_
    · exact spF_keep hC (by omega)
    · exact (hB.cpy _ _ _ _ _).sc _ _ _ _ (fun q => hB _ _)
    · exact MR_itm8 hM hI
    · rw [up2_i _ _ _ _ (show w ≠ 8 by omega), if_neg (by omega)]
      exact hh hI hz
  · exact PR.ex (fun _ => C_rotate_noB hX.1 hl hC hw h5w ho) (fun _ => D_rotate_noB hX hC hM hw h5w ho) (by simp)
theorem P_reverse {l : Launch} {D : va_G} {cy : Nat → ClassId} {X : (Nat → Prop) → State → Heap → Prop} {a : Nat → Nat → Nat} {ba ra : Nat → Nat} {f : Nat → Nat → Nat} {r : Nat → Nat → Int32} {hf : Nat → Nat → Nat} {hq : Nat → Nat → Int32} {kn th : Int32} {sm : Int64} (hX : EnvM X cy) (hl : l.stackTraces = false) (hC : CInv f) (hB : RB r) (hM : MR f r hf hq) (x0 : Int32) : PR l D cy X a ba ra f r hf hq kn th sm yX2_reverse cX2_reverse 2 (some .int) yX4_reverse cX4_reverse 2 (some .int) (rmk 9 4 48 420) [.int x0] [("java/lang/IndexOutOfBoundsException", 1)] := by
  rcases w_dec f x0 with hno | ⟨w, hw, h5w, rfl⟩
  · exact PR.ex (fun _ => C_reverse_noW hX.1 hl hC hno) (fun _ => D_reverse_noW hX hC hM hno) (by simp)
  have W := hM.wh hC hw h5w
  have hh : ∀ {R HQ : Nat → Nat → Int32}, (∀ i k, i < 4 → k < f 4 i → HQ i k = R i k) → 0 < f 4 w → HQ (f 1 w) (f 3 w) = R (f 0 w) (f 3 w) := fun h h0 => by
    rw [W.2.2.2.2.2.1]
    exact h _ _ W.2.2.1 (by omega)
  rcases Nat.eq_zero_or_pos (f 4 w) with hz | hz
  · refine PR.ok (fun _ => C_reverse_0 hX.1 hC hw h5w hz) (fun _ => D_reverse_0 hX hC hM hw h5w hz) ?_ ?_ ?_ ?_
    · exact hC
    · exact hB
    · rw [W.1, hz, wrR_0]
      exact hM
    · rw [if_pos hz]
  have hI : ∀ i k, i < 4 → k < f 4 i → wrR hq (f 1 w) (f 3 w) (hf 4 w) (cutF (fun z => (cutF (fun z => hq (f 1 w) (f 3 w + z)) (hf 4 w)) (hf 4 w - 1 - z)) (hf 4 w)) i k = (revS r (f 0 w) (f 3 w + 0) (f 3 w + f 4 w)) i k := itm_str hC hM hw h5w W.1 (fun j hj hne => funext fun q => if_neg (fun z => by omega)) (fun t ht => by
    refine (show (revS r (f 0 w) (f 3 w + 0) (f 3 w + f 4 w)) (f 1 w) (f 3 w + t) = (revS r (f 0 w) (f 3 w + 0) (f 3 w + f 4 w)) (f 0 w) (f 3 w + t) by rw [W.2.2.2.2.2.1]).trans ?_
    refine (if_pos ⟨rfl, by omega, by omega⟩).trans ?_
    rw [cutF_at (by omega)]
    refine Eq.trans ?_ (MR.ct hC hM hw h5w (k := hf 4 w - 1 - t) (by omega)).symm
    exact congrArg (r (f 0 w)) (by omega)) (fun k hk => (by rw [← W.2.2.2.2.2.1]; exact if_neg (fun z => by omega)))
  refine PR.ok (fun _ => C_reverse_ok hX.1 hC hw h5w hz) (fun _ => D_reverse_ok hX hC hM hw h5w hz) ?_ ?_ ?_ ?_
  · exact hC
  · exact hB.rev _ _ _
  · exact MR_itm hM (fun _ _ _ => rfl) hI
  · rw [if_neg (by omega)]
    exact hh hI hz
theorem P_swap {l : Launch} {D : va_G} {cy : Nat → ClassId} {X : (Nat → Prop) → State → Heap → Prop} {a : Nat → Nat → Nat} {ba ra : Nat → Nat} {f : Nat → Nat → Nat} {r : Nat → Nat → Int32} {hf : Nat → Nat → Nat} {hq : Nat → Nat → Int32} {kn th : Int32} {sm : Int64} (hX : EnvM X cy) (hl : l.stackTraces = false) (hC : CInv f) (hB : RB r) (hM : MR f r hf hq) (x0 x1 x2 : Int32) : PR l D cy X a ba ra f r hf hq kn th sm yX2_swap cX2_swap 4 (some .int) yX4_swap cX4_swap 6 (some .int) (rmk 9 4 48 420) [.int x0, .int x1, .int x2] [("java/lang/IndexOutOfBoundsException", 1)] := by
  rcases w_dec f x0 with hno | ⟨w, hw, h5w, rfl⟩
  · exact PR.ex (fun _ => C_swap_noW hX.1 hl hC hno) (fun _ => D_swap_noW hX hC hM hno) (by simp)
  have W := hM.wh hC hw h5w
  rcases n_dec (n := f 4 w) (by omega) x1 with hno | ⟨k0, hk, rfl⟩
  · exact PR.ex (fun _ => C_swap_no1 hX.1 hl hC hw h5w hno) (fun _ => D_swap_no1 hX hC hM hw h5w hno) (by simp)
  rcases n_dec (n := f 4 w) (by omega) x2 with hno | ⟨k1, hk1, rfl⟩
  · exact PR.ex (fun _ => C_swap_no2 hX.1 hl hC hw h5w hk hno) (fun _ => D_swap_no2 hX hC hM hw h5w hk hno) (by simp)
  have e0 := hM.it hC hw h5w hk
  have e1 := hM.it hC hw h5w hk1
  refine PR.ok (fun _ => C_swap_ok hX.1 hC hw h5w hk hk1) (fun _ => D_swap_ok hX hC hM hw h5w hk hk1) ?_ ?_ ?_ ?_
  · exact hC
  · exact hB.xc _ _ _
  · rw [e0, e1]
    exact MR_up (MR_up hM W.2.2.2.2.2.1) W.2.2.2.2.2.1
  · rw [e1]
    unfold exch2
    by_cases e : k0 = k1
    · subst e
      rw [up2_eq]
    · rw [up2_i _ _ _ _ (by omega), up2_eq]
end PT_73
/-! ===== 74.pair3 -/
section PT_74
/-! THE CLASS'S CALL BESIDE THE MODEL'S, SECOND -/
theorem P_riffle {l : Launch} {D : va_G} {cy : Nat → ClassId} {X : (Nat → Prop) → State → Heap → Prop} {a : Nat → Nat → Nat} {ba ra : Nat → Nat} {f : Nat → Nat → Nat} {r : Nat → Nat → Int32} {hf : Nat → Nat → Nat} {hq : Nat → Nat → Int32} {kn th : Int32} {sm : Int64} (hX : EnvM X cy) (hl : l.stackTraces = false) (hC : CInv f) (hB : RB r) (hM : MR f r hf hq) (x0 : Int32) : PR l D cy X a ba ra f r hf hq kn th sm yX2_riffle cX2_riffle 2 (some .int) yX4_riffle cX4_riffle 5 (some .int) (rmk 9 4 48 420) [.int x0] [("java/lang/IndexOutOfBoundsException", 1)] := by
  rcases w_dec f x0 with hno | ⟨w, hw, h5w, rfl⟩
  · exact PR.ex (fun _ => C_riffle_noW hX.1 hl hC hno) (fun _ => D_riffle_noW hX hC hM hno) (by simp)
  have W := hM.wh hC hw h5w
  have sp := hC.sp
  rcases Nat.lt_or_ge 1 (f 4 w) with hz | hz
  · have hI : ∀ i k, i < 4 → k < f 4 i → wrR hq (f 1 w) (f 3 w) (hf 4 w) (cutF (fun t => (cutF (fun z => hq (f 1 w) (f 3 w + z)) (hf 4 w)) (layN (hf 4 w) t)) (hf 4 w)) i k = (scS (cpy2 r (f 0 w) (f 3 w) (f 0 8) (f 3 8) (f 4 w)) (f 0 w) (f 3 w) (f 4 w) (fun t => t) (fun q => r (f 0 w) (f 3 w + layN (f 4 w) q))) i k := itm_str hC hM hw h5w W.1 (fun j hj hne => funext fun q => (scS_off (by omega)).trans (cpy2_off (by omega))) (fun t ht => by
    refine (show (scS (cpy2 r (f 0 w) (f 3 w) (f 0 8) (f 3 8) (f 4 w)) (f 0 w) (f 3 w) (f 4 w) (fun t => t) (fun q => r (f 0 w) (f 3 w + layN (f 4 w) q))) (f 1 w) (f 3 w + t) = (scS (cpy2 r (f 0 w) (f 3 w) (f 0 8) (f 3 8) (f 4 w)) (f 0 w) (f 3 w) (f 4 w) (fun t => t) (fun q => r (f 0 w) (f 3 w + layN (f 4 w) q))) (f 0 w) (f 3 w + t) by rw [W.2.2.2.2.2.1]).trans ?_
    rw [scS_at ht, cutF_at (by omega)]
    exact ((MR.ct hC hM hw h5w (k := layN (hf 4 w) t) (by rw [W.1]; exact layN_lt ht)).trans (by rw [W.1])).symm) (fun k hk => (by rw [← W.2.2.2.2.2.1]; exact (if_neg (fun z => by omega)).trans (cpy2_off (by omega))))
    refine PR.ok (fun _ => C_riffle_ok hX.1 hC hw h5w hz) (fun _ => D_riffle_ok hX hC hM hw h5w hz) ?_ ?_ ?_ ?_
    · exact seF_keep hC hw h5w (by omega)
    · exact (hB.cpy _ _ _ _ _).sc _ _ _ _ (fun q => hB _ _)
    · exact MR_itmS8 hC hM hI
    · rw [up2_i _ _ _ _ (show w ≠ 8 by omega), W.1]
  · have hI : ∀ i k, i < 4 → k < f 4 i → wrR hq (f 1 w) (f 3 w) (hf 4 w) (cutF (fun t => (cutF (fun z => hq (f 1 w) (f 3 w + z)) (hf 4 w)) (layN (hf 4 w) t)) (hf 4 w)) i k = (r) i k := itm_str hC hM hw h5w W.1 (fun j hj hne => rfl) (fun t ht => by
      obtain rfl : t = 0 := by omega
      rw [cutF_at (by omega), show layN (hf 4 w) 0 = 0 from rfl, MR.ct hC hM hw h5w ht, W.2.2.2.2.2.1]) (fun k hk => rfl)
    refine PR.ok (fun _ => C_riffle_1 hX.1 hC hw h5w hz) (fun _ => D_riffle_1 hX hC hM hw h5w hz) ?_ ?_ ?_ ?_
    · exact hC
    · exact hB
    · exact MR_itm hM (fun _ _ _ => rfl) hI
    · exact congrArg nI W.1
theorem P_unriffle {l : Launch} {D : va_G} {cy : Nat → ClassId} {X : (Nat → Prop) → State → Heap → Prop} {a : Nat → Nat → Nat} {ba ra : Nat → Nat} {f : Nat → Nat → Nat} {r : Nat → Nat → Int32} {hf : Nat → Nat → Nat} {hq : Nat → Nat → Int32} {kn th : Int32} {sm : Int64} (hX : EnvM X cy) (hl : l.stackTraces = false) (hC : CInv f) (hB : RB r) (hM : MR f r hf hq) (x0 : Int32) : PR l D cy X a ba ra f r hf hq kn th sm yX2_unriffle cX2_unriffle 2 (some .int) yX4_unriffle cX4_unriffle 5 (some .int) (rmk 9 4 48 420) [.int x0] [("java/lang/IndexOutOfBoundsException", 1)] := by
  rcases w_dec f x0 with hno | ⟨w, hw, h5w, rfl⟩
  · exact PR.ex (fun _ => C_unriffle_noW hX.1 hl hC hno) (fun _ => D_unriffle_noW hX hC hM hno) (by simp)
  have W := hM.wh hC hw h5w
  have sp := hC.sp
  rcases Nat.lt_or_ge 1 (f 4 w) with hz | hz
  · have hI : ∀ i k, i < 4 → k < f 4 i → wrR hq (f 1 w) (f 3 w) (hf 4 w) (scA (unlN (hf 4 w)) (cutF (fun z => hq (f 1 w) (f 3 w + z)) (hf 4 w)) (hf 4 w) (hf 4 w)) i k = (scS (cpy2 r (f 0 w) (f 3 w) (f 0 8) (f 3 8) (f 4 w)) (f 0 w) (f 3 w) (f 4 w) (unlN (f 4 w)) (fun q => r (f 0 w) (f 3 w + q))) i k := itm_str hC hM hw h5w W.1 (fun j hj hne => funext fun q => (scS_off (by omega)).trans (cpy2_off (by omega))) (fun t ht => by
      refine (show (scS (cpy2 r (f 0 w) (f 3 w) (f 0 8) (f 3 8) (f 4 w)) (f 0 w) (f 3 w) (f 4 w) (unlN (f 4 w)) (fun q => r (f 0 w) (f 3 w + q))) (f 1 w) (f 3 w + t) = (scS (cpy2 r (f 0 w) (f 3 w) (f 0 8) (f 3 8) (f 4 w)) (f 0 w) (f 3 w) (f 4 w) (unlN (f 4 w)) (fun q => r (f 0 w) (f 3 w + q))) (f 0 w) (f 3 w + t) by rw [W.2.2.2.2.2.1]).trans ?_
      rw [scS_at ht, scA_end (fun j hj => unlN_lt hj), cutF_at (by omega)]
      exact ((MR.ct hC hM hw h5w (k := unlN (hf 4 w) t) (by rw [W.1]; exact unlN_lt ht)).trans (by rw [W.1])).symm) (fun k hk => (by rw [← W.2.2.2.2.2.1]; exact (if_neg (fun z => by omega)).trans (cpy2_off (by omega))))
    refine PR.ok (fun _ => C_unriffle_ok hX.1 hC hw h5w hz) (fun _ => D_unriffle_ok hX hC hM hw h5w hz) ?_ ?_ ?_ ?_
    · exact seF_keep hC hw h5w (by omega)
    · exact (hB.cpy _ _ _ _ _).sc _ _ _ _ (fun q => hB _ _)
    · exact MR_itmS8 hC hM hI
    · rw [up2_i _ _ _ _ (show w ≠ 8 by omega), W.1]
  · have hI : ∀ i k, i < 4 → k < f 4 i → wrR hq (f 1 w) (f 3 w) (hf 4 w) (scA (unlN (hf 4 w)) (cutF (fun z => hq (f 1 w) (f 3 w + z)) (hf 4 w)) (hf 4 w) (hf 4 w)) i k = (r) i k := itm_str hC hM hw h5w W.1 (fun j hj hne => rfl) (fun t ht => by
      obtain rfl : t = 0 := by omega
      rw [scA_end (fun j hj => unlN_lt hj), cutF_at (by omega), show unlN (hf 4 w) 0 = 0 by unfold unlN; rw [if_pos (by omega)], MR.ct hC hM hw h5w ht, W.2.2.2.2.2.1]) (fun k hk => rfl)
    refine PR.ok (fun _ => C_unriffle_1 hX.1 hC hw h5w hz) (fun _ => D_unriffle_1 hX hC hM hw h5w hz) ?_ ?_ ?_ ?_
    · exact hC
    · exact hB
    · exact MR_itm hM (fun _ _ _ => rfl) hI
    · exact congrArg nI W.1
theorem P_sort {l : Launch} {D : va_G} {cy : Nat → ClassId} {X : (Nat → Prop) → State → Heap → Prop} {a : Nat → Nat → Nat} {ba ra : Nat → Nat} {f : Nat → Nat → Nat} {r : Nat → Nat → Int32} {hf : Nat → Nat → Nat} {hq : Nat → Nat → Int32} {kn th : Int32} {sm : Int64} (hX : EnvM X cy) (hl : l.stackTraces = false) (hC : CInv f) (hB : RB r) (hM : MR f r hf hq) (x0 : Int32) : PR l D cy X a ba ra f r hf hq kn th sm yX2_sort cX2_sort 2 (some .int) yX4_sort cX4_sort 2 (some .int) (rmk 9 4 48 420) [.int x0] [("java/lang/IndexOutOfBoundsException", 1)] := by
  rcases w_dec f x0 with hno | ⟨w, hw, h5w, rfl⟩
  · exact PR.ex (fun _ => C_sort_noW hX.1 hl hC hno) (fun _ => D_sort_noW hX hC hM hno) (by simp)
  have W := hM.wh hC hw h5w
  have hh : ∀ {R HQ : Nat → Nat → Int32}, (∀ i k, i < 4 → k < f 4 i → HQ i k = R i k) → 0 < f 4 w → HQ (f 1 w) (f 3 w) = R (f 0 w) (f 3 w) := fun h h0 => by
    rw [W.2.2.2.2.2.1]
    exact h _ _ W.2.2.1 (by omega)
  have hA0 := MR.ib hC hM hB hw h5w
  have so := so_lk (j := f 0 w) (lo := f 3 w) (b := 3) (n := f 4 w) (f 4 w - 1) 1 r (cutF (fun z => hq (f 1 w) (f 3 w + z)) (hf 4 w)) (by omega) (fun t ht => (MR.ct hC hM hw h5w ht).symm)
  have hI : ∀ i k, i < 4 → k < f 4 i → wrR hq (f 1 w) (f 3 w) (hf 4 w) (soA 3 (hf 4 w - 1) 1 (cutF (fun z => hq (f 1 w) (f 3 w + z)) (hf 4 w))) i k = (srF (f 0 w) (f 3 w) 3 (f 4 w - 1) 1 r) i k := itm_str hC hM hw h5w W.1 (fun j hj hne => so.2.1 j (by omega)) (fun t ht => by
    refine (show (srF (f 0 w) (f 3 w) 3 (f 4 w - 1) 1 r) (f 1 w) (f 3 w + t) = (srF (f 0 w) (f 3 w) 3 (f 4 w - 1) 1 r) (f 0 w) (f 3 w + t) by rw [W.2.2.2.2.2.1]).trans ?_
    rw [so.1 t ht, W.1]) (fun k hk => by
    rw [← W.2.2.2.2.2.1]
    exact so.2.2 k hk)
  rcases Nat.eq_zero_or_pos (f 4 w) with hz | hz
  · refine PR.ok (fun _ => C_sort_ok hX.1 hC hw h5w) (fun _ => D_sort_0 hX hC hM hw h5w hA0 hz) ?_ ?_ ?_ ?_
    · exact soF_keep hC hw h5w
    · exact RB.sr _ _ _ _ _ hB
    · exact MR_itmS hC hM hI
    · rw [if_pos hz]
  refine PR.ok (fun _ => C_sort_ok hX.1 hC hw h5w) (fun _ => D_sort_ok hX hC hM hw h5w hA0 hz) ?_ ?_ ?_ ?_
  · exact soF_keep hC hw h5w
  · exact RB.sr _ _ _ _ _ hB
  · exact MR_itmS hC hM hI
  · rw [if_neg (by omega)]
    exact hh hI hz
theorem P_sortBy {l : Launch} {D : va_G} {cy : Nat → ClassId} {X : (Nat → Prop) → State → Heap → Prop} {a : Nat → Nat → Nat} {ba ra : Nat → Nat} {f : Nat → Nat → Nat} {r : Nat → Nat → Int32} {hf : Nat → Nat → Nat} {hq : Nat → Nat → Int32} {kn th : Int32} {sm : Int64} (hX : EnvM X cy) (hl : l.stackTraces = false) (hC : CInv f) (hB : RB r) (hM : MR f r hf hq) (x0 x1 : Int32) : PR l D cy X a ba ra f r hf hq kn th sm yX2_sortBy cX2_sortBy 3 (some .int) yX4_sortBy cX4_sortBy 3 (some .int) (rmk 9 4 48 420) [.int x0, .int x1] [("java/lang/IndexOutOfBoundsException", 1), ("java/lang/IllegalArgumentException", 2)] := by
  rcases w_dec f x0 with hno | ⟨w, hw, h5w, rfl⟩
  · exact PR.ex (fun _ => C_sortBy_noW hX.1 hl hC hno) (fun _ => D_sortBy_noW hX hC hM hno) (by simp)
  have W := hM.wh hC hw h5w
  have hh : ∀ {R HQ : Nat → Nat → Int32}, (∀ i k, i < 4 → k < f 4 i → HQ i k = R i k) → 0 < f 4 w → HQ (f 1 w) (f 3 w) = R (f 0 w) (f 3 w) := fun h h0 => by
    rw [W.2.2.2.2.2.1]
    exact h _ _ W.2.2.1 (by omega)
  have hA0 := MR.ib hC hM hB hw h5w
  rcases l_dec (n := 2) (by omega) x1 with hno | ⟨b0, hb, rfl⟩
  · exact PR.ex (fun _ => C_sortBy_noB hX.1 hl hC hw h5w hno) (fun _ => D_sortBy_noB hX hC hM hw h5w hno) (by simp)
  have so := so_lk (j := f 0 w) (lo := f 3 w) (b := b0) (n := f 4 w) (f 4 w - 1) 1 r (cutF (fun z => hq (f 1 w) (f 3 w + z)) (hf 4 w)) (by omega) (fun t ht => (MR.ct hC hM hw h5w ht).symm)
  have hI : ∀ i k, i < 4 → k < f 4 i → wrR hq (f 1 w) (f 3 w) (hf 4 w) (soA b0 (hf 4 w - 1) 1 (cutF (fun z => hq (f 1 w) (f 3 w + z)) (hf 4 w))) i k = (srF (f 0 w) (f 3 w) b0 (f 4 w - 1) 1 r) i k := itm_str hC hM hw h5w W.1 (fun j hj hne => so.2.1 j (by omega)) (fun t ht => by
    refine (show (srF (f 0 w) (f 3 w) b0 (f 4 w - 1) 1 r) (f 1 w) (f 3 w + t) = (srF (f 0 w) (f 3 w) b0 (f 4 w - 1) 1 r) (f 0 w) (f 3 w + t) by rw [W.2.2.2.2.2.1]).trans ?_
    rw [so.1 t ht, W.1]) (fun k hk => by
    rw [← W.2.2.2.2.2.1]
    exact so.2.2 k hk)
  rcases Nat.eq_zero_or_pos (f 4 w) with hz | hz
  · refine PR.ok (fun _ => C_sortBy_ok hX.1 hC hw h5w hb) (fun _ => D_sortBy_0 hX hC hM hw h5w hb hA0 hz) ?_ ?_ ?_ ?_
    · exact soF_keep hC hw h5w
    · exact RB.sr _ _ _ _ _ hB
    · exact MR_itmS hC hM hI
    · rw [if_pos hz]
  refine PR.ok (fun _ => C_sortBy_ok hX.1 hC hw h5w hb) (fun _ => D_sortBy_ok hX hC hM hw h5w hb hA0 hz) ?_ ?_ ?_ ?_
  · exact soF_keep hC hw h5w
  · exact RB.sr _ _ _ _ _ hB
  · exact MR_itmS hC hM hI
  · rw [if_neg (by omega)]
    exact hh hI hz
theorem P_get {l : Launch} {D : va_G} {cy : Nat → ClassId} {X : (Nat → Prop) → State → Heap → Prop} {a : Nat → Nat → Nat} {ba ra : Nat → Nat} {f : Nat → Nat → Nat} {r : Nat → Nat → Int32} {hf : Nat → Nat → Nat} {hq : Nat → Nat → Int32} {kn th : Int32} {sm : Int64} (hX : EnvM X cy) (hl : l.stackTraces = false) (hC : CInv f) (hB : RB r) (hM : MR f r hf hq) (x0 x1 : Int32) : PR l D cy X a ba ra f r hf hq kn th sm yX2_get cX2_get 3 (some .int) yX4_get cX4_get 3 (some .int) (rmk 9 4 48 420) [.int x0, .int x1] [("java/lang/IndexOutOfBoundsException", 1)] := by
  rcases w_dec f x0 with hno | ⟨w, hw, h5w, rfl⟩
  · exact PR.ex (fun _ => C_get_noW hX.1 hl hC hno) (fun _ => D_get_noW hX hC hM hno) (by simp)
  rcases n_dec (n := f 4 w) (by have := (hM.wh hC hw h5w); omega) x1 with hno | ⟨k0, hk, rfl⟩
  · exact PR.ex (fun _ => C_get_noP hX.1 hl hC hw h5w hno) (fun _ => D_get_noP hX hC hM hw h5w hno) (by simp)
  refine PR.ok (fun _ => C_get_ok hX.1 hC hw h5w hk) (fun _ => D_get_ok hX hC hM hw h5w hk) ?_ ?_ ?_ ?_
  · exact hC
  · exact hB
  · exact hM
  · exact hM.it hC hw h5w hk
theorem P_size {l : Launch} {D : va_G} {cy : Nat → ClassId} {X : (Nat → Prop) → State → Heap → Prop} {a : Nat → Nat → Nat} {ba ra : Nat → Nat} {f : Nat → Nat → Nat} {r : Nat → Nat → Int32} {hf : Nat → Nat → Nat} {hq : Nat → Nat → Int32} {kn th : Int32} {sm : Int64} (hX : EnvM X cy) (hl : l.stackTraces = false) (hC : CInv f) (hB : RB r) (hM : MR f r hf hq) (x0 : Int32) : PR l D cy X a ba ra f r hf hq kn th sm yX2_size cX2_size 2 (some .int) yX4_size cX4_size 2 (some .int) (rmk 9 4 48 420) [.int x0] [("java/lang/IndexOutOfBoundsException", 1)] := by
  rcases w_dec f x0 with hno | ⟨w, hw, h5w, rfl⟩
  · exact PR.ex (fun _ => C_size_noW hX.1 hl hC hno) (fun _ => D_size_noW hX hC hM hno) (by simp)
  refine PR.ok (fun _ => C_size_ok hX.1 hC hw h5w) (fun _ => D_size_ok hX hC hM hw h5w) ?_ ?_ ?_ ?_
  · exact hC
  · exact hB
  · exact hM
  · exact congrArg nI (hM.wh hC hw h5w).1
theorem P_partAt {l : Launch} {D : va_G} {cy : Nat → ClassId} {X : (Nat → Prop) → State → Heap → Prop} {a : Nat → Nat → Nat} {ba ra : Nat → Nat} {f : Nat → Nat → Nat} {r : Nat → Nat → Int32} {hf : Nat → Nat → Nat} {hq : Nat → Nat → Int32} {kn th : Int32} {sm : Int64} (hX : EnvM X cy) (hl : l.stackTraces = false) (hC : CInv f) (hB : RB r) (hM : MR f r hf hq) (x0 x1 : Int32) : PR l D cy X a ba ra f r hf hq kn th sm yX2_partAt cX2_partAt 3 (some .int) yX4_partAt cX4_partAt 3 (some .int) (rmk 9 4 48 420) [.int x0, .int x1] [("java/lang/IndexOutOfBoundsException", 1)] := by
  rcases w_dec f x0 with hno | ⟨w, hw, h5w, rfl⟩
  · exact PR.ex (fun _ => C_partAt_noW hX.1 hl hC hno) (fun _ => D_partAt_noW hX hC hM hno) (by simp)
  have W := hM.wh hC hw h5w
  rcases w_dec f x1 with hno | ⟨v, hv, h5v, rfl⟩
  · exact PR.ex (fun _ => C_partAt_noW2 hX.1 hl hC hw h5w hno) (fun _ => D_partAt_noW2 hX hC hM hw h5w hno) (by simp)
  have V := hM.wh hC hv h5v
  refine PR.ok (fun _ => C_partAt_ok hX.1 hC hw h5w hv h5v) (fun _ => D_partAt_ok hX hC hM hw h5w hv h5v) ?_ ?_ ?_ ?_
  · exact hC
  · exact hB
  · exact hM
  · rw [W.1, V.1, ← W.1, ← V.1]
    refine congrArg nI (poF_same _ _ (fun k _ hk => stF_same _ _ (fun q _ hqk => ⟨?_, ?_⟩)))
    · exact MR.ct hC hM hw h5w (by omega)
    · exact MR.ct hC hM hv h5v (by omega)
theorem P_fill {l : Launch} {D : va_G} {cy : Nat → ClassId} {X : (Nat → Prop) → State → Heap → Prop} {a : Nat → Nat → Nat} {ba ra : Nat → Nat} {f : Nat → Nat → Nat} {r : Nat → Nat → Int32} {hf : Nat → Nat → Nat} {hq : Nat → Nat → Int32} {kn th : Int32} {sm : Int64} (hX : EnvM X cy) (hl : l.stackTraces = false) (hC : CInv f) (hB : RB r) (hM : MR f r hf hq) (x0 x1 : Int32) : PR l D cy X a ba ra f r hf hq kn th sm yX2_fill cX2_fill 4 (some .int) yX4_fill cX4_fill 4 (some .int) (rmk 9 4 48 420) [.int x0, .int x1] [("java/lang/IndexOutOfBoundsException", 1), ("java/lang/IllegalArgumentException", 2)] := by
  rcases n_dec (n := 4) (by omega) x0 with hno | ⟨i, hi4, rfl⟩
  · exact PR.ex (fun _ => C_fill_noR hX.1 hl hC hno) (fun _ => D_fill_noR hX hC hM hno) (by simp)
  have q := hC.rw hi4
  have hw : i < 8 := by omega
  have W := hM.wh hC hw q.2.2.2.2.2
  by_cases ho : okI x1
  · have hI := itm_str (R := flR r (f 0 i) (f 3 i) (f 4 i) x1) (g := fun _ => x1) hC hM hw q.2.2.2.2.2 W.1 (fun j hj hne => funext fun k => if_neg (fun z => by omega)) (fun t ht => by
      rw [← W.2.2.2.2.2.1]
      exact if_pos ⟨rfl, by omega, by omega⟩) (fun k hk => by
      rw [← W.2.2.2.2.2.1]
      exact if_neg (fun z => by omega))
    rw [q.2.1, q.2.2.2.1] at hI
    refine PR.ok (fun _ => C_fill_ok hX.1 hC hi4 ho) (fun _ => D_fill_ok hX hC hM hi4 ho) ?_ ?_ ?_ ?_
    · exact hC
    · exact hB.fl _ _ _ (IB.ok ho)
    · exact MR_itm hM (fun _ _ _ => rfl) (by rw [q.2.2.2.1]; exact hI)
    · exact congrArg nI W.1
  · exact PR.ex (fun _ => C_fill_noI hX.1 hl hC hi4 ho) (fun _ => D_fill_noI hX hC hM hi4 ho) (by simp)
theorem P_removeItem {l : Launch} {D : va_G} {cy : Nat → ClassId} {X : (Nat → Prop) → State → Heap → Prop} {a : Nat → Nat → Nat} {ba ra : Nat → Nat} {f : Nat → Nat → Nat} {r : Nat → Nat → Int32} {hf : Nat → Nat → Nat} {hq : Nat → Nat → Int32} {kn th : Int32} {sm : Int64} (hX : EnvM X cy) (hl : l.stackTraces = false) (hC : CInv f) (hB : RB r) (hM : MR f r hf hq) (x0 x1 : Int32) : PR l D cy X a ba ra f r hf hq kn th sm yX2_removeItem cX2_removeItem 4 (some .int) yX4_removeItem cX4_removeItem 4 (some .int) (rmk 9 4 48 420) [.int x0, .int x1] [("java/lang/IndexOutOfBoundsException", 1)] := by
  rcases n_dec (n := 4) (by omega) x0 with hno | ⟨i, hi4, rfl⟩
  · exact PR.ex (fun _ => C_removeItem_noR hX.1 hl hC hno) (fun _ => D_removeItem_noR hX hC hM hno) (by simp)
  have q := hC.rw hi4
  have hw : i < 8 := by omega
  have h5w := q.2.2.2.2.2
  have W := hM.wh hC hw h5w
  have e := hM.fp hC hi4 x1
  by_cases hz : fpF (fun q => r (f 0 i) (f 3 i + q)) x1 (f 4 i) 0 = 4294967295
  · refine PR.ok (fun _ => C_removeItem_0 hX.1 hC hi4 hz) (fun _ => D_removeItem_0 hX hC hM hi4 (e.symm.trans hz)) ?_ ?_ ?_ ?_
    · exact hC
    · exact hB
    · exact hM
    · rfl
  have hk : fpF (fun q => r (f 0 i) (f 3 i + q)) x1 (f 4 i) 0 < f 4 i := by
    rcases fpF_or (fun q => r (f 0 i) (f 3 i + q)) x1 (f 4 i) 0 with h | h
    · exact absurd h hz
    · omega
  refine PR.okR (fun _ => C_removeItem_ok hX.1 hC hi4 hz) (fun _ => D_removeItem_ok hX hC hM hi4 (by omega)) ?_ ?_ ?_ ?_
  · exact chF_keep hC hw h5w (by omega) (by omega) (by rw [q.2.1]; omega) rfl
  · exact hB.ex _ _ _ _
  · exact MR_lay (p := fpF (fun q => r (f 0 i) (f 3 i + q)) x1 (f 4 i) 0) (q := fpF (fun q => r (f 0 i) (f 3 i + q)) x1 (f 4 i) 0 + 1) (c := 0) hC hM hw h5w (by omega) (by omega) rfl (by omega) rfl e.symm (by rw [ch4]; omega) (fun _ _ => rfl) (fun j hj => absurd hj (Nat.not_lt_zero _))
  · rfl
theorem P_addAll {l : Launch} {D : va_G} {cy : Nat → ClassId} {X : (Nat → Prop) → State → Heap → Prop} {a : Nat → Nat → Nat} {ba ra : Nat → Nat} {f : Nat → Nat → Nat} {r : Nat → Nat → Int32} {hf : Nat → Nat → Nat} {hq : Nat → Nat → Int32} {kn th : Int32} {sm : Int64} (hX : EnvM X cy) (hl : l.stackTraces = false) (hC : CInv f) (hB : RB r) (hM : MR f r hf hq) (x0 x1 x2 : Int32) : PR l D cy X a ba ra f r hf hq kn th sm yX2_addAll cX2_addAll 5 (some .int) yX4_addAll cX4_addAll 5 (some .int) (rmk 9 4 48 420) [.int x0, .int x1, .int x2] [("java/lang/IndexOutOfBoundsException", 1), ("java/lang/IllegalStateException", 2)] := by
  rcases n_dec (n := 4) (by omega) x0 with hno | ⟨i, hi4, rfl⟩
  · exact PR.ex (fun _ => C_addAll_noR hX.1 hl hC hno) (fun _ => D_addAll_noR hX hC hM hno) (by simp)
  have q := hC.rw hi4
  have hw : i < 8 := by omega
  have h5w := q.2.2.2.2.2
  have W := hM.wh hC hw h5w
  rcases n_dec (n := 4) (by omega) x2 with hno | ⟨j, hj4, rfl⟩
  · exact PR.ex (fun _ => C_addAll_noR2 hX.1 hl hC hi4 hno) (fun _ => D_addAll_noR2 hX hC hM hi4 hno) (by simp)
  have q2 := hC.rw hj4
  have hv : j < 8 := by omega
  have h5v := q2.2.2.2.2.2
  have V := hM.wh hC hv h5v
  rcases Nat.lt_or_ge 12 (f 4 (f 1 i) + f 4 j) with hfull | hfit
  · have hfull2 : 12 < f 4 i + f 4 j := by
      have h := hfull
      rw [q.2.1] at h
      exact h
    exact PR.ex (fun _ => C_addAll_full hX.1 hl hC hi4 hj4 hfull) (fun _ => D_addAll_full hX hC hM hi4 hj4 hfull2) (by simp)
  have hfit2 : f 4 i + f 4 j ≤ 12 := by
    have h := hfit
    rw [q.2.1] at h
    exact h
  rcases Nat.eq_zero_or_pos (f 4 j) with hz | hz
  · refine PR.ok (fun _ => C_addAll_0 hX.1 hC hi4 hj4 hz) (fun _ => D_addAll_0 hX hC hM hi4 hj4 hfit2 hz) ?_ ?_ ?_ ?_
    · exact hC
    · exact hB
    · exact hM
    · exact congrArg nI W.1
  rcases l_dec (n := f 4 i) (by omega) x1 with hno | ⟨k0, hk, rfl⟩
  · refine PR.ok (fun _ => C_addAll_ref hX.1 hC hi4 hj4 hz hfit hno) (fun _ => D_addAll_ref hX hC hM hi4 hj4 hfit2 hz hno) ?_ ?_ ?_ ?_
    · exact hC
    · exact hB
    · exact hM
    · rfl
  have c1 : CInv (settleF (exL (up2 f 4 8 (f 4 j)) i (f 4 j) (k0 - k0) 8) i 4294967295) := chF_keep hC hw h5w (by omega) (by omega) (by omega) rfl
  have m1 := MR_lay (d := 4294967295) (c := f 4 j) (g := k0 - k0) (p := k0) (q := k0) (r1 := cpy2 r (f 0 j) (f 3 j) (f 0 8) (f 3 8) (f 4 j)) (ins := cutF (fun z => hq (f 1 j) (f 3 j + z)) (hf 4 j)) hC hM hw h5w (Nat.le_refl _) hk rfl (g2 := 0) (Nat.sub_self _).symm (c2 := hf 4 j) V.1 (p2 := k0) rfl (n := chM f hf i 4294967295 4 (f 1 i) - 0 + hf 4 j) (by rw [ch4]; omega) (fun i hi => cpy_row (by have := hC.sp; omega)) (fun t ht => by
    have sp := hC.sp
    rw [MR.ct hC hM hv h5v ht, cpy2_me, if_pos (by omega), show t - f 3 8 = t by omega])
  refine PR.okR (fun _ => C_addAll_ok hX.1 hC hi4 hj4 hz hfit hk) (fun _ => D_addAll_ok hX hC hM hi4 hj4 hfit2 hz hk) ?_ ?_ ?_ ?_
  · rw [up2_eq]
    exact c1
  · exact (hB.cpy _ _ _ _ _).ex _ _ _ _
  · rw [up2_eq]
    exact m1
  · rw [up2_eq]
    exact congrArg nI (ch_ans c1 m1 hw h5w)
end PT_74
/-! ===== 75.pair4 -/
section PT_75
/-! THE CLASS'S CALL BESIDE THE MODEL'S, THIRD -/
theorem P_removeAll {l : Launch} {D : va_G} {cy : Nat → ClassId} {X : (Nat → Prop) → State → Heap → Prop} {a : Nat → Nat → Nat} {ba ra : Nat → Nat} {f : Nat → Nat → Nat} {r : Nat → Nat → Int32} {hf : Nat → Nat → Nat} {hq : Nat → Nat → Int32} {kn th : Int32} {sm : Int64} (hX : EnvM X cy) (hl : l.stackTraces = false) (hC : CInv f) (hB : RB r) (hM : MR f r hf hq) (x0 x1 : Int32) : PR l D cy X a ba ra f r hf hq kn th sm yX2_removeAll cX2_removeAll 3 (some .int) yX4_removeAll cX4_removeAll 3 (some .int) (rmk 9 20 190 420) [.int x0, .int x1] [("java/lang/IndexOutOfBoundsException", 1)] := by
  rcases n_dec (n := 4) (by omega) x0 with hno | ⟨i, hi4, rfl⟩
  · exact PR.ex (fun _ => C_removeAll_noR hX.1 hl hC hno) (fun _ => (D_removeAll_noR hX hC hM hno).wide (by decide)) (by simp)
  have q := hC.rw hi4
  rcases n_dec (n := 4) (by omega) x1 with hno | ⟨j, hj4, rfl⟩
  · exact PR.ex (fun _ => C_removeAll_noR2 hX.1 hl hC hi4 hno) (fun _ => (D_removeAll_noR2 hX hC hM hi4 hno).wide (by decide)) (by simp)
  have sp := hC.sp
  have hs := MR.sc hC hM 0 hi4 hj4
  have hle := siC_le (hsP r f j) 0 (fun q => r (f 0 i) (f 3 i + q)) (f 4 i) 0 0
  refine PR.okR (fun _ => C_removeAll_ok hX.1 hC hi4 hj4) (fun _ => D_removeAll_ok hX hC hM hi4 hj4) ?_ ?_ ?_ ?_
  · exact becF_keep hC hi4 (by omega)
  · exact (RB.si (fun q => hB _ _) _ _ _ hB).cpy _ _ _ _ _
  · exact MR_bec hC hM hi4 hs (fun t ht => siR_ne (by omega) _ _ _ _) (fun k hk => by
      rw [hM.h4 hi4]
      exact (si_lk (fun x => hM.hs hC hj4 x) _ _ _ _ _ (hM.rg hC hi4) (fun t ht => absurd ht (Nat.not_lt_zero _)) k hk).symm)
  · rw [hs, hM.h4 hi4]
theorem P_retainAll {l : Launch} {D : va_G} {cy : Nat → ClassId} {X : (Nat → Prop) → State → Heap → Prop} {a : Nat → Nat → Nat} {ba ra : Nat → Nat} {f : Nat → Nat → Nat} {r : Nat → Nat → Int32} {hf : Nat → Nat → Nat} {hq : Nat → Nat → Int32} {kn th : Int32} {sm : Int64} (hX : EnvM X cy) (hl : l.stackTraces = false) (hC : CInv f) (hB : RB r) (hM : MR f r hf hq) (x0 x1 : Int32) : PR l D cy X a ba ra f r hf hq kn th sm yX2_retainAll cX2_retainAll 3 (some .int) yX4_retainAll cX4_retainAll 3 (some .int) (rmk 9 20 190 420) [.int x0, .int x1] [("java/lang/IndexOutOfBoundsException", 1)] := by
  rcases n_dec (n := 4) (by omega) x0 with hno | ⟨i, hi4, rfl⟩
  · exact PR.ex (fun _ => C_retainAll_noR hX.1 hl hC hno) (fun _ => (D_retainAll_noR hX hC hM hno).wide (by decide)) (by simp)
  have q := hC.rw hi4
  rcases n_dec (n := 4) (by omega) x1 with hno | ⟨j, hj4, rfl⟩
  · exact PR.ex (fun _ => C_retainAll_noR2 hX.1 hl hC hi4 hno) (fun _ => (D_retainAll_noR2 hX hC hM hi4 hno).wide (by decide)) (by simp)
  have sp := hC.sp
  have hs := MR.sc hC hM 1 hi4 hj4
  have hle := siC_le (hsP r f j) 1 (fun q => r (f 0 i) (f 3 i + q)) (f 4 i) 0 0
  refine PR.okR (fun _ => C_retainAll_ok hX.1 hC hi4 hj4) (fun _ => D_retainAll_ok hX hC hM hi4 hj4) ?_ ?_ ?_ ?_
  · exact becF_keep hC hi4 (by omega)
  · exact (RB.si (fun q => hB _ _) _ _ _ hB).cpy _ _ _ _ _
  · exact MR_bec hC hM hi4 hs (fun t ht => siR_ne (by omega) _ _ _ _) (fun k hk => by
      rw [hM.h4 hi4]
      exact (si_lk (fun x => hM.hs hC hj4 x) _ _ _ _ _ (hM.rg hC hi4) (fun t ht => absurd ht (Nat.not_lt_zero _)) k hk).symm)
  · rw [hs, hM.h4 hi4]
theorem P_copy {l : Launch} {D : va_G} {cy : Nat → ClassId} {X : (Nat → Prop) → State → Heap → Prop} {a : Nat → Nat → Nat} {ba ra : Nat → Nat} {f : Nat → Nat → Nat} {r : Nat → Nat → Int32} {hf : Nat → Nat → Nat} {hq : Nat → Nat → Int32} {kn th : Int32} {sm : Int64} (hX : EnvM X cy) (hl : l.stackTraces = false) (hC : CInv f) (hB : RB r) (hM : MR f r hf hq) (x0 x1 : Int32) : PR l D cy X a ba ra f r hf hq kn th sm yX2_copy cX2_copy 3 (some .int) yX4_copy cX4_copy 3 (some .int) (rmk 9 4 48 420) [.int x0, .int x1] [("java/lang/IndexOutOfBoundsException", 1)] := by
  rcases w_dec f x0 with hno | ⟨w, hw, h5w, rfl⟩
  · exact PR.ex (fun _ => C_copy_noW hX.1 hl hC hno) (fun _ => D_copy_noW hX hC hM hno) (by simp)
  have W := hM.wh hC hw h5w
  rcases n_dec (n := 4) (by omega) x1 with hno | ⟨i, hi4, rfl⟩
  · exact PR.ex (fun _ => C_copy_noR hX.1 hl hC hw h5w hno) (fun _ => D_copy_noR hX hC hM hw h5w hno) (by simp)
  have sp := hC.sp
  refine PR.okR (fun _ => C_copy_ok hX.1 hC hw h5w hi4) (fun _ => D_copy_ok hX hC hM hw h5w hi4) ?_ ?_ ?_ ?_
  · rw [up2_eq]
    exact becF_keep hC hi4 (by omega)
  · exact (hB.cpy _ _ _ _ _).cpy _ _ _ _ _
  · rw [up2_eq]
    exact MR_bec hC hM hi4 W.1 (fun t ht => cpy_row (by omega)) (fun k hk => by
      rw [MR.ct hC hM hw h5w hk, cpy2_me, if_pos (by omega), show k - f 3 8 = k by omega])
  · rw [up2_eq, W.1]
theorem P_places {l : Launch} {D : va_G} {cy : Nat → ClassId} {X : (Nat → Prop) → State → Heap → Prop} {a : Nat → Nat → Nat} {ba ra : Nat → Nat} {f : Nat → Nat → Nat} {r : Nat → Nat → Int32} {hf : Nat → Nat → Nat} {hq : Nat → Nat → Int32} {kn th : Int32} {sm : Int64} (hX : EnvM X cy) (hl : l.stackTraces = false) (hC : CInv f) (hB : RB r) (hM : MR f r hf hq) (x0 x1 : Int32) : PR l D cy X a ba ra f r hf hq kn th sm yX2_places cX2_places 4 (some .int) yX4_places cX4_places 5 (some .int) (rmk 9 4 48 420) [.int x0, .int x1] [("java/lang/IndexOutOfBoundsException", 1), ("java/lang/IllegalArgumentException", 2)] := by
  rcases n_dec (n := 4) (by omega) x0 with hno | ⟨i, hi4, rfl⟩
  · exact PR.ex (fun _ => C_places_noR hX.1 hl hC hno) (fun _ => D_places_noR hX hC hM hno) (by simp)
  rcases l_dec (n := 12) (by omega) x1 with hno | ⟨k0, hk, rfl⟩
  · exact PR.ex (fun _ => C_places_noM hX.1 hl hC hi4 hno) (fun _ => D_places_noM hX hC hM hi4 hno) (by simp)
  have sp := hC.sp
  refine PR.okR (fun _ => C_places_ok hX.1 hC hi4 hk) (fun _ => D_places_ok hX hC hM hi4 hk) ?_ ?_ ?_ ?_
  · exact becF_keep hC hi4 hk
  · exact (hB.pl _ hk).cpy _ _ _ _ _
  · exact MR_bec hC hM hi4 rfl (fun t ht => funext fun k => if_neg (fun z => by omega)) (fun k hkk => by
      rw [cutF_at hkk]
      exact (if_pos ⟨rfl, hkk⟩).symm)
  · rfl
theorem P_through {l : Launch} {D : va_G} {cy : Nat → ClassId} {X : (Nat → Prop) → State → Heap → Prop} {a : Nat → Nat → Nat} {ba ra : Nat → Nat} {f : Nat → Nat → Nat} {r : Nat → Nat → Int32} {hf : Nat → Nat → Nat} {hq : Nat → Nat → Int32} {kn th : Int32} {sm : Int64} (hX : EnvM X cy) (hl : l.stackTraces = false) (hC : CInv f) (hB : RB r) (hM : MR f r hf hq) (x0 x1 x2 : Int32) : PR l D cy X a ba ra f r hf hq kn th sm yX2_through cX2_through 6 (some .int) yX4_through cX4_through 7 (some .int) (rmk 9 4 48 420) [.int x0, .int x1, .int x2] [("java/lang/IndexOutOfBoundsException", 1)] := by
  rcases w_dec f x0 with hno | ⟨w, hw, h5w, rfl⟩
  · exact PR.ex (fun _ => C_through_noW hX.1 hl hC hno) (fun _ => D_through_noW hX hC hM hno) (by simp)
  have W := hM.wh hC hw h5w
  rcases w_dec f x1 with hno | ⟨v, hv, h5v, rfl⟩
  · exact PR.ex (fun _ => C_through_noW2 hX.1 hl hC hw h5w hno) (fun _ => D_through_noW2 hX hC hM hw h5w hno) (by simp)
  have V := hM.wh hC hv h5v
  rcases n_dec (n := 4) (by omega) x2 with hno | ⟨i, hi4, rfl⟩
  · exact PR.ex (fun _ => C_through_noR hX.1 hl hC hw h5w hv h5v hno) (fun _ => D_through_noR hX hC hM hw h5w hv h5v hno) (by simp)
  have sp := hC.sp
  rcases first_or (fun q => r (f 0 v) (f 3 v + q) < nI (f 4 w)) (f 4 v) with hall | ⟨m0, hm, hall, hno9⟩
  · refine PR.okR (fun _ => C_through_ok hX.1 hC hw h5w hv h5v hi4 hall) (fun _ => D_through_ok hX hC hM hw h5w hv h5v hi4 (fun q hqv => by rw [MR.ct hC hM hv h5v (k := q) (by omega), W.1]; exact hall q (by omega))) ?_ ?_ ?_ ?_
    · exact becF_keep hC hi4 (by omega)
    · exact (hB.th _ _ (fun q => tvF_ib (fun t => hB _ _) (hB _ _))).cpy _ _ _ _ _
    · exact MR_bec hC hM hi4 V.1 (fun t ht => funext fun k => if_neg (fun z => by omega)) (fun k hk => by
        have hlt := hall k hk
        refine (if_pos (show k < hf 4 v by omega)).trans ?_
        refine Eq.trans ?_ (if_pos ⟨rfl, hk⟩).symm
        show tvF _ _ = tvF _ _
        rw [MR.ct hC hM hv h5v hk]
        unfold tvF
        by_cases hn : r (f 0 v) (f 3 v + k) < 0
        · rw [if_pos hn, if_pos hn]
        · rw [if_neg hn, if_neg hn, MR.ct hC hM hw h5w (cl_nI (by omega) (Int32.not_lt.mp hn) hlt).2])
    · exact congrArg nI V.1
  have hno : nI (f 4 w) ≤ r (f 0 v) (f 3 v + m0) := Int32.not_lt.mp hno9
  refine PR.ok (fun _ => C_through_ref hX.1 hC hw h5w hv h5v hi4 hm hall hno) (fun _ => D_through_ref hX hC hM hw h5w hv h5v hi4 (show m0 < hf 4 v by omega) (fun q hqv => by rw [MR.ct hC hM hv h5v (k := q) (by omega), W.1]; exact hall q hqv) (by rw [MR.ct hC hM hv h5v hm, W.1]; exact hno)) ?_ ?_ ?_ ?_
  · exact spF_keep hC (by omega)
  · exact hB.th _ _ (fun q => tvF_ib (fun t => hB _ _) (hB _ _))
  · exact MR_itm8 hM (fun i k hi hk => ((hM.2.1 i hi).2 k hk).trans (if_neg (fun z => by omega)).symm)
  · rfl
theorem P_indexOf {l : Launch} {D : va_G} {cy : Nat → ClassId} {X : (Nat → Prop) → State → Heap → Prop} {a : Nat → Nat → Nat} {ba ra : Nat → Nat} {f : Nat → Nat → Nat} {r : Nat → Nat → Int32} {hf : Nat → Nat → Nat} {hq : Nat → Nat → Int32} {kn th : Int32} {sm : Int64} (hX : EnvM X cy) (hl : l.stackTraces = false) (hC : CInv f) (hB : RB r) (hM : MR f r hf hq) (x0 x1 : Int32) : PR l D cy X a ba ra f r hf hq kn th sm yX2_indexOf cX2_indexOf 3 (some .int) yX4_indexOf cX4_indexOf 3 (some .int) (rmk 9 4 48 420) [.int x0, .int x1] [("java/lang/IndexOutOfBoundsException", 1)] := by
  rcases n_dec (n := 4) (by omega) x0 with hno | ⟨i, hi4, rfl⟩
  · exact PR.ex (fun _ => C_indexOf_noR hX.1 hl hC hno) (fun _ => D_indexOf_noR hX hC hM hno) (by simp)
  have q := hC.rw hi4
  refine PR.ok (fun _ => C_indexOf_ok hX.1 hC hi4) (fun _ => D_indexOf_ok hX hC hM hi4) ?_ ?_ ?_ ?_
  · exact hC
  · exact hB
  · exact hM
  · rw [hM.fp hC hi4]
theorem P_lastIndexOf {l : Launch} {D : va_G} {cy : Nat → ClassId} {X : (Nat → Prop) → State → Heap → Prop} {a : Nat → Nat → Nat} {ba ra : Nat → Nat} {f : Nat → Nat → Nat} {r : Nat → Nat → Int32} {hf : Nat → Nat → Nat} {hq : Nat → Nat → Int32} {kn th : Int32} {sm : Int64} (hX : EnvM X cy) (hl : l.stackTraces = false) (hC : CInv f) (hB : RB r) (hM : MR f r hf hq) (x0 x1 : Int32) : PR l D cy X a ba ra f r hf hq kn th sm yX2_lastIndexOf cX2_lastIndexOf 5 (some .int) yX4_lastIndexOf cX4_lastIndexOf 3 (some .int) (rmk 9 4 48 420) [.int x0, .int x1] [("java/lang/IndexOutOfBoundsException", 1)] := by
  rcases n_dec (n := 4) (by omega) x0 with hno | ⟨i, hi4, rfl⟩
  · exact PR.ex (fun _ => C_lastIndexOf_noR hX.1 hl hC hno) (fun _ => D_lastIndexOf_noR hX hC hM hno) (by simp)
  have q := hC.rw hi4
  refine PR.ok (fun _ => C_lastIndexOf_ok hX.1 hC hi4) (fun _ => D_lastIndexOf_ok hX hC hM hi4) ?_ ?_ ?_ ?_
  · exact hC
  · exact hB
  · exact hM
  · rw [hM.h4 hi4]
    exact congrArg nI (liF_same _ _ _ (fun q a b => (hM.rg hC hi4 q a b).symm))
theorem P_contains {l : Launch} {D : va_G} {cy : Nat → ClassId} {X : (Nat → Prop) → State → Heap → Prop} {a : Nat → Nat → Nat} {ba ra : Nat → Nat} {f : Nat → Nat → Nat} {r : Nat → Nat → Int32} {hf : Nat → Nat → Nat} {hq : Nat → Nat → Int32} {kn th : Int32} {sm : Int64} (hX : EnvM X cy) (hl : l.stackTraces = false) (hC : CInv f) (hB : RB r) (hM : MR f r hf hq) (x0 x1 : Int32) : PR l D cy X a ba ra f r hf hq kn th sm yX2_contains cX2_contains 3 (some .boolean) yX4_contains cX4_contains 3 (some .boolean) (rmk 9 4 48 420) [.int x0, .int x1] [("java/lang/IndexOutOfBoundsException", 1)] := by
  rcases n_dec (n := 4) (by omega) x0 with hno | ⟨i, hi4, rfl⟩
  · exact PR.ex (fun _ => C_contains_noR hX.1 hl hC hno) (fun _ => D_contains_noR hX hC hM hno) (by simp)
  have q := hC.rw hi4
  refine PR.ok (fun _ => C_contains_ok hX.1 hC hi4) (fun _ => D_contains_ok hX hC hM hi4) ?_ ?_ ?_ ?_
  · exact hC
  · exact hB
  · exact hM
  · rw [← hM.hs hC hi4]
    rfl
theorem P_howOften {l : Launch} {D : va_G} {cy : Nat → ClassId} {X : (Nat → Prop) → State → Heap → Prop} {a : Nat → Nat → Nat} {ba ra : Nat → Nat} {f : Nat → Nat → Nat} {r : Nat → Nat → Int32} {hf : Nat → Nat → Nat} {hq : Nat → Nat → Int32} {kn th : Int32} {sm : Int64} (hX : EnvM X cy) (hl : l.stackTraces = false) (hC : CInv f) (hB : RB r) (hM : MR f r hf hq) (x0 x1 : Int32) : PR l D cy X a ba ra f r hf hq kn th sm yX2_howOften cX2_howOften 5 (some .int) yX4_howOften cX4_howOften 8 (some .int) (rmk 9 4 48 420) [.int x0, .int x1] [("java/lang/IndexOutOfBoundsException", 1)] := by
  rcases n_dec (n := 4) (by omega) x0 with hno | ⟨i, hi4, rfl⟩
  · exact PR.ex (fun _ => C_howOften_noR hX.1 hl hC hno) (fun _ => D_howOften_noR hX hC hM hno) (by simp)
  have q := hC.rw hi4
  refine PR.ok (fun _ => C_howOften_ok hX.1 hC hi4) (fun _ => D_howOften_ok hX hC hM hi4) ?_ ?_ ?_ ?_
  · exact hC
  · exact hB
  · exact hM
  · rw [hM.h4 hi4]
    exact congrArg nI (hoF_same _ _ _ (fun q a b => (hM.rg hC hi4 q a b).symm))
theorem P_least {l : Launch} {D : va_G} {cy : Nat → ClassId} {X : (Nat → Prop) → State → Heap → Prop} {a : Nat → Nat → Nat} {ba ra : Nat → Nat} {f : Nat → Nat → Nat} {r : Nat → Nat → Int32} {hf : Nat → Nat → Nat} {hq : Nat → Nat → Int32} {kn th : Int32} {sm : Int64} (hX : EnvM X cy) (hl : l.stackTraces = false) (hC : CInv f) (hB : RB r) (hM : MR f r hf hq) (x0 : Int32) {b0 : Nat} (hb : b0 ≤ 1) : PR l D cy X a ba ra f r hf hq kn th sm yX2_least cX2_least 6 (some .int) yX4_least cX4_least 8 (some .int) (rmk 9 4 48 420) [.int x0, .int (nI b0)] [("java/lang/IndexOutOfBoundsException", 1), ("java/lang/IllegalStateException", 2)] := by
  rcases n_dec (n := 4) (by omega) x0 with hno | ⟨i, hi4, rfl⟩
  · exact PR.ex (fun _ => C_least_noR hX.1 hl hC hno) (fun _ => D_least_noR hX hC hM hno) (by simp)
  rcases Nat.eq_zero_or_pos (f 4 i) with hz | hz
  · exact PR.ex (fun _ => C_least_0 hX.1 hl hC hi4 hz) (fun _ => D_least_0 hX hC hM hi4 hz) (by simp)
  refine PR.ok (fun _ => C_least_ok hX.1 hC hi4 hz hb) (fun _ => D_least_ok hX hC hM hi4 hz hb) ?_ ?_ ?_ ?_
  · exact hC
  · exact hB
  · exact hM
  · rw [hM.h4 hi4, leF_0 hz]
    have e0 := hM.rw0 hC hi4 hz
    rw [e0, Nat.add_zero]
    exact leF_same _ _ _ (fun q a b => (hM.rg hC hi4 q (by omega) (by omega)).symm)
theorem P_areApart {l : Launch} {D : va_G} {cy : Nat → ClassId} {X : (Nat → Prop) → State → Heap → Prop} {a : Nat → Nat → Nat} {ba ra : Nat → Nat} {f : Nat → Nat → Nat} {r : Nat → Nat → Int32} {hf : Nat → Nat → Nat} {hq : Nat → Nat → Int32} {kn th : Int32} {sm : Int64} (hX : EnvM X cy) (hl : l.stackTraces = false) (hC : CInv f) (hB : RB r) (hM : MR f r hf hq) (x0 x1 : Int32) : PR l D cy X a ba ra f r hf hq kn th sm yX2_areApart cX2_areApart 4 (some .boolean) yX4_areApart cX4_areApart 8 (some .boolean) (rmk 9 4 48 420) [.int x0, .int x1] [("java/lang/IndexOutOfBoundsException", 1)] := by
  rcases n_dec (n := 4) (by omega) x0 with hno | ⟨i, hi4, rfl⟩
  · exact PR.ex (fun _ => C_areApart_noR hX.1 hl hC hno) (fun _ => D_areApart_noR hX hC hM hno) (by simp)
  rcases n_dec (n := 4) (by omega) x1 with hno | ⟨j, hj4, rfl⟩
  · exact PR.ex (fun _ => C_areApart_noR2 hX.1 hl hC hi4 hno) (fun _ => D_areApart_noR2 hX hC hM hi4 hno) (by simp)
  refine PR.ok (fun _ => C_areApart_ok hX.1 hC hi4 hj4) (fun _ => D_areApart_ok hX hC hM hi4 hj4) ?_ ?_ ?_ ?_
  · exact hC
  · exact hB
  · exact hM
  · rw [hM.h4 hi4]
    exact congrArg nI (apF_same (fun x => (hM.hs hC hj4 x).symm) _ _ (fun q a b => (hM.rg hC hi4 q a b).symm))
theorem P_areSame {l : Launch} {D : va_G} {cy : Nat → ClassId} {X : (Nat → Prop) → State → Heap → Prop} {a : Nat → Nat → Nat} {ba ra : Nat → Nat} {f : Nat → Nat → Nat} {r : Nat → Nat → Int32} {hf : Nat → Nat → Nat} {hq : Nat → Nat → Int32} {kn th : Int32} {sm : Int64} (hX : EnvM X cy) (hl : l.stackTraces = false) (hC : CInv f) (hB : RB r) (hM : MR f r hf hq) (x0 x1 : Int32) : PR l D cy X a ba ra f r hf hq kn th sm yX2_areSame cX2_areSame 3 (some .boolean) yX4_areSame cX4_areSame 3 (some .boolean) (rmk 9 4 48 420) [.int x0, .int x1] [("java/lang/IndexOutOfBoundsException", 1)] := by
  rcases n_dec (n := 4) (by omega) x0 with hno | ⟨i, hi4, rfl⟩
  · exact PR.ex (fun _ => C_areSame_noR hX.1 hl hC hno) (fun _ => D_areSame_noR hX hC hM hno) (by simp)
  rcases n_dec (n := 4) (by omega) x1 with hno | ⟨j, hj4, rfl⟩
  · exact PR.ex (fun _ => C_areSame_noR2 hX.1 hl hC hi4 hno) (fun _ => D_areSame_noR2 hX hC hM hi4 hno) (by simp)
  have qi := hC.rw hi4
  have qj := hC.rw hj4
  have e1 := hM.h4 hi4
  have e2 := hM.h4 hj4
  refine PR.ok (fun _ => C_areSame_ok hX.1 hC hi4 hj4) (fun _ => D_areSame_ok hX hC hM hi4 hj4) ?_ ?_ ?_ ?_
  · exact hC
  · exact hB
  · exact hM
  · by_cases e : f 4 i = f 4 j
    · have es : stF (fun q => (cutF (fun z => hq (f 1 i) (f 3 i + z)) (hf 4 i)) (0 + q)) (cutF (fun z => hq (f 1 j) (f 3 j + z)) (hf 4 j)) (hf 4 j) 0 = stF (fun q => r (f 0 i) (f 3 i + (0 + q))) (fun q => r (f 0 j) (f 3 j + q)) (f 4 j) 0 := by
        refine (stF_same (g' := fun q => r (f 0 i) (f 3 i + (0 + q))) (h' := fun q => r (f 0 j) (f 3 j + q)) _ _ (fun t _ htk => ⟨?_, ?_⟩)).trans (by rw [e2])
        · exact MR.ct hC hM (by omega) qi.2.2.2.2.2 (by omega)
        · exact MR.ct hC hM (by omega) qj.2.2.2.2.2 (by omega)
      have ep : poF (fun k => stF (fun q => (cutF (fun z => hq (f 1 i) (f 3 i + z)) (hf 4 i)) (k + q)) (cutF (fun z => hq (f 1 j) (f 3 j + z)) (hf 4 j)) (hf 4 j) 0) 1 0 = if stF (fun q => r (f 0 i) (f 3 i + (0 + q))) (fun q => r (f 0 j) (f 3 j + q)) (f 4 j) 0 = 0 then 4294967295 else 0 := by
        rw [← es]
        rfl
      rw [show hf 4 i + 1 - hf 4 j = 1 by omega, ep]
      by_cases hz : stF (fun q => r (f 0 i) (f 3 i + (0 + q))) (fun q => r (f 0 j) (f 3 j + q)) (f 4 j) 0 = 0
      · rw [if_pos hz, if_neg (fun z => absurd z.2 (by decide)), if_neg (fun z => z.2 hz)]
      · rw [if_neg hz, if_pos ⟨by omega, rfl⟩, if_pos ⟨e, hz⟩]
    · rw [if_neg (fun z => e (by omega)), if_neg (fun z => e z.1)]
theorem P_hash {l : Launch} {D : va_G} {cy : Nat → ClassId} {X : (Nat → Prop) → State → Heap → Prop} {a : Nat → Nat → Nat} {ba ra : Nat → Nat} {f : Nat → Nat → Nat} {r : Nat → Nat → Int32} {hf : Nat → Nat → Nat} {hq : Nat → Nat → Int32} {kn th : Int32} {sm : Int64} (hX : EnvM X cy) (hl : l.stackTraces = false) (hC : CInv f) (hB : RB r) (hM : MR f r hf hq) (x0 : Int32) : PR l D cy X a ba ra f r hf hq kn th sm yX2_hash cX2_hash 2 (some .int) yX4_hash cX4_hash 2 (some .int) (rmk 9 4 48 420) [.int x0] [("java/lang/IndexOutOfBoundsException", 1)] := by
  rcases n_dec (n := 4) (by omega) x0 with hno | ⟨i, hi4, rfl⟩
  · exact PR.ex (fun _ => C_hash_noR hX.1 hl hC hno) (fun _ => D_hash_noR hX hC hM hno) (by simp)
  have q := hC.rw hi4
  refine PR.ok (fun _ => C_hash_ok hX.1 hC hi4) (fun _ => D_hash_ok hX hC hM hi4) ?_ ?_ ?_ ?_
  · exact hC
  · exact hB
  · exact hM
  · rw [hM.h4 hi4]
    exact hsF_same _ _ _ (fun q a b => (hM.rg hC hi4 q a b).symm)
theorem P_inArray {l : Launch} {D : va_G} {cy : Nat → ClassId} {X : (Nat → Prop) → State → Heap → Prop} {a : Nat → Nat → Nat} {ba ra : Nat → Nat} {f : Nat → Nat → Nat} {r : Nat → Nat → Int32} {hf : Nat → Nat → Nat} {hq : Nat → Nat → Int32} {kn th : Int32} {sm : Int64} (hX : EnvM X cy) (hl : l.stackTraces = false) (hC : CInv f) (hB : RB r) (hM : MR f r hf hq) (x0 x1 : Int32) : PR l D cy X a ba ra f r hf hq kn th sm yX2_inArray cX2_inArray 3 (some .int) yX4_inArray cX4_inArray 3 (some .int) (rmk 9 4 48 420) [.int x0, .int x1] [("java/lang/IndexOutOfBoundsException", 1)] := by
  rcases n_dec (n := 4) (by omega) x0 with hno | ⟨i, hi4, rfl⟩
  · exact PR.ex (fun _ => C_inArray_noR hX.1 hl hC hno) (fun _ => D_inArray_noR hX hC hM hno) (by simp)
  have q := hC.rw hi4
  rcases n_dec (n := f 4 i) (by omega) x1 with hno | ⟨k0, hk, rfl⟩
  · exact PR.ex (fun _ => C_inArray_noP hX.1 hl hC hi4 hno) (fun _ => D_inArray_noP hX hC hM hi4 hno) (by simp)
  refine PR.ok (fun _ => C_inArray_ok hX.1 hC hi4 hk) (fun _ => D_inArray_ok hX hC hM hi4 hk) ?_ ?_ ?_ ?_
  · exact hC
  · exact hB
  · exact hM
  · exact hM.rw0 hC hi4 hk
end PT_75
/-! ===== 76.pair5 -/
section PT_76
/-! THE CLASS'S CALL BESIDE THE MODEL'S, FOURTH -/
theorem P_window {l : Launch} {D : va_G} {cy : Nat → ClassId} {X : (Nat → Prop) → State → Heap → Prop} {a : Nat → Nat → Nat} {ba ra : Nat → Nat} {f : Nat → Nat → Nat} {r : Nat → Nat → Int32} {hf : Nat → Nat → Nat} {hq : Nat → Nat → Int32} {kn th : Int32} {sm : Int64} (hX : EnvM X cy) (hl : l.stackTraces = false) (hC : CInv f) (hB : RB r) (hM : MR f r hf hq) (x0 x1 x2 x3 : Int32) : PR l D cy X a ba ra f r hf hq kn th sm yX2_window cX2_window 6 (some .int) yX4_window cX4_window 6 (some .int) (rmk 9 4 48 420) [.int x0, .int x1, .int x2, .int x3] [("java/lang/IndexOutOfBoundsException", 1), ("java/lang/IllegalStateException", 2)] := by
  rcases n_dec (n := 4) (by omega) x0 with hno | ⟨k0, hk4, rfl⟩
  · exact PR.ex (fun _ => C_window_noK hX.1 hl hC hno) (fun _ => D_window_noK hX hC hM hno) (by simp)
  rcases w_dec f x1 with hno | ⟨w, hw, h5w, rfl⟩
  · exact PR.ex (fun _ => C_window_noW hX.1 hl hC hk4 hno) (fun _ => D_window_noW hX hC hM hk4 hno) (by simp)
  have W := hM.wh hC hw h5w
  by_cases hh : hol f (4 + k0) w = 0
  · rcases s_dec (n := f 4 w) (by omega) x2 x3 with hno | ⟨p0, q0, hp, hqb, rfl, rfl⟩
    · refine PR.ok (fun _ => C_window_ref hX.1 hC hk4 hw h5w hh hno) (fun _ => D_window_ref hX hC hM hk4 hw h5w hh hno) ?_ ?_ ?_ ?_
      · exact hC
      · exact hB
      · exact hM
      · rfl
    have c1 := wnF_keep hC (show 4 ≤ 4 + k0 by omega) (by omega) hw h5w hh hp hqb
    rcases (show f 5 (4 + k0) = 0 ∨ f 5 (4 + k0) = 1 by have := hC.h5 (4 + k0) (by omega); omega) with hz | hz
    · refine PR.ok (fun _ => C_window_ok hX.1 hC hk4 hw h5w hh hp hqb) (fun _ => D_window_okn hX hC hM hk4 hw h5w hh hp hqb hz) ?_ ?_ ?_ ?_
      · exact c1
      · exact hB
      · exact MR_winn hC hM (by omega) (by omega) hw h5w hh hz
      · rfl
    · refine PR.ok (fun _ => C_window_ok hX.1 hC hk4 hw h5w hh hp hqb) (fun _ => D_window_oky hX hC hM hk4 hw h5w hh hp hqb hz) ?_ ?_ ?_ ?_
      · exact c1
      · exact hB
      · exact MR_winy hC hM (by omega) (by omega) hw h5w hh hz
      · rfl
  · exact PR.ex (fun _ => C_window_hold hX.1 hl hC hk4 hw h5w hh) (fun _ => D_window_hold hX hC hM hk4 hw h5w hh) (by simp)
theorem P_close {l : Launch} {D : va_G} {cy : Nat → ClassId} {X : (Nat → Prop) → State → Heap → Prop} {a : Nat → Nat → Nat} {ba ra : Nat → Nat} {f : Nat → Nat → Nat} {r : Nat → Nat → Int32} {hf : Nat → Nat → Nat} {hq : Nat → Nat → Int32} {kn th : Int32} {sm : Int64} (hX : EnvM X cy) (hl : l.stackTraces = false) (hC : CInv f) (hB : RB r) (hM : MR f r hf hq) (x0 : Int32) : PR l D cy X a ba ra f r hf hq kn th sm yX2_close cX2_close 2 (some .int) yX4_close cX4_close 2 (some .int) (rmk 9 4 48 420) [.int x0] [("java/lang/IndexOutOfBoundsException", 1)] := by
  rcases n_dec (n := 4) (by omega) x0 with hno | ⟨k0, hk4, rfl⟩
  · exact PR.ex (fun _ => C_close_noK hX.1 hl hC hno) (fun _ => D_close_noK hX hC hM hno) (by simp)
  rcases (show f 5 (4 + k0) = 0 ∨ f 5 (4 + k0) = 1 by have := hC.h5 (4 + k0) (by omega); omega) with hz | hz
  · refine PR.ok (fun _ => C_close_ref hX.1 hC hk4 hz) (fun _ => D_close_ref hX hC hM hk4 hz) ?_ ?_ ?_ ?_
    · exact hC
    · exact hB
    · exact hM
    · rfl
  have m1 := MR_close hC hM (show 4 ≤ 4 + k0 by omega) (by omega) hz
  refine PR.ok (fun _ => C_close_ok hX.1 hC hk4 hz) (fun _ => D_close_ok hX hC hM hk4 hz) ?_ ?_ ?_ ?_
  · exact dmF_keep hC (by omega) (by omega)
  · exact hB
  · exact m1
  · exact congrArg nI (smF_same _ _ _ (fun q a b => (m1.2.2.1 q a (by omega)).1))
theorem P_ofWindow {l : Launch} {D : va_G} {cy : Nat → ClassId} {X : (Nat → Prop) → State → Heap → Prop} {a : Nat → Nat → Nat} {ba ra : Nat → Nat} {f : Nat → Nat → Nat} {r : Nat → Nat → Int32} {hf : Nat → Nat → Nat} {hq : Nat → Nat → Int32} {kn th : Int32} {sm : Int64} (hX : EnvM X cy) (hl : l.stackTraces = false) (hC : CInv f) (hB : RB r) (hM : MR f r hf hq) (x0 x1 : Int32) : PR l D cy X a ba ra f r hf hq kn th sm yX2_ofWindow cX2_ofWindow 4 (some .int) yX4_ofWindow cX4_ofWindow 3 (some .int) (rmk 9 4 48 420) [.int x0, .int x1] [("java/lang/IndexOutOfBoundsException", 1), ("java/lang/IllegalArgumentException", 2)] := by
  rcases n_dec (n := 4) (by omega) x0 with hno | ⟨k0, hk4, rfl⟩
  · exact PR.ex (fun _ => C_ofWindow_noK hX.1 hl hC hno) (fun _ => D_ofWindow_noK hX hC hM hno) (by simp)
  rcases n_dec (n := 3) (by omega) x1 with hno | ⟨q0, hqb, rfl⟩
  · exact PR.ex (fun _ => C_ofWindow_noQ hX.1 hl hC hk4 hno) (fun _ => D_ofWindow_noQ hX hC hM hk4 hno) (by simp)
  refine PR.ok (fun _ => C_ofWindow_all hX.1 hC hk4 hqb) (fun _ => D_ofWindow_ok hX hC hM hk4 hqb) ?_ ?_ ?_ ?_
  · exact hC
  · exact hB
  · exact hM
  · have e := hM.2.2.1 (4 + k0) (by omega) (by omega)
    have a := hC.h5 (4 + k0) (by omega)
    unfold wqM wqF
    rw [e.1]
    by_cases h5 : f 5 (4 + k0) = 0
    · rw [if_pos h5, if_pos h5]
    · have g1 := hM.1 (4 + k0) (by omega) (by omega) (by omega)
      rw [if_neg h5, if_neg h5, e.2.2 (by omega), g1.1]
      (repeat' split) <;> rfl
theorem P_open {l : Launch} {D : va_G} {cy : Nat → ClassId} {X : (Nat → Prop) → State → Heap → Prop} {a : Nat → Nat → Nat} {ba ra : Nat → Nat} {f : Nat → Nat → Nat} {r : Nat → Nat → Int32} {hf : Nat → Nat → Nat} {hq : Nat → Nat → Int32} {kn th : Int32} {sm : Int64} (hX : EnvM X cy) (hl : l.stackTraces = false) (hC : CInv f) (hB : RB r) (hM : MR f r hf hq) (x0 x1 x2 : Int32) : PR l D cy X a ba ra f r hf hq kn th sm yX2_open cX2_open 4 (some .int) yX4_open cX4_open 4 (some .int) (rmk 9 4 48 420) [.int x0, .int x1, .int x2] [("java/lang/IndexOutOfBoundsException", 1)] := by
  rcases n_dec (n := 3) (by omega) x0 with hno | ⟨k0, hk3, rfl⟩
  · exact PR.ex (fun _ => C_open_noC hX.1 hl hC hno) (fun _ => D_open_noC hX hC hM hno) (by simp)
  rcases w_dec f x1 with hno | ⟨w, hw, h5w, rfl⟩
  · exact PR.ex (fun _ => C_open_noW hX.1 hl hC hk3 hno) (fun _ => D_open_noW hX hC hM hk3 hno) (by simp)
  have W := hM.wh hC hw h5w
  rcases l_dec (n := f 4 w) (by omega) x2 with hno | ⟨p0, hp, rfl⟩
  · exact PR.ex (fun _ => C_open_noP hX.1 hl hC hk3 hw h5w hno) (fun _ => D_open_noP hX hC hM hk3 hw h5w hno) (by simp)
  refine PR.ok (fun _ => C_open_ok hX.1 hC hk3 hw h5w hp) (fun _ => D_open_ok hX hC hM hk3 hw h5w hp) ?_ ?_ ?_ ?_
  · exact opF_keep hC hw h5w hp
  · exact hB
  · refine MR_cur (k0 := k0) hM (fun fl i h => ?_) (fun fl i h => ?_) ?_ ?_ (fun _ => ⟨?_, ?_, ?_⟩)
    · simp only [up2]
      rw [if_neg (by omega), if_neg (by omega), if_neg (by omega), if_neg (by omega)]
    · simp only [up2]
      rw [if_neg (by omega), if_neg (by omega), if_neg (by omega), if_neg (by omega)]
    · simp [up2]
    · simpa [up2] using hw
    · simp [up2]
    · simp [up2]
    · simp [up2]
  · rw [W.1]
theorem P_shut {l : Launch} {D : va_G} {cy : Nat → ClassId} {X : (Nat → Prop) → State → Heap → Prop} {a : Nat → Nat → Nat} {ba ra : Nat → Nat} {f : Nat → Nat → Nat} {r : Nat → Nat → Int32} {hf : Nat → Nat → Nat} {hq : Nat → Nat → Int32} {kn th : Int32} {sm : Int64} (hX : EnvM X cy) (hl : l.stackTraces = false) (hC : CInv f) (hB : RB r) (hM : MR f r hf hq) (x0 : Int32) : PR l D cy X a ba ra f r hf hq kn th sm yX2_shut cX2_shut 3 (some .int) yX4_shut cX4_shut 3 (some .int) (rmk 9 4 48 420) [.int x0] [("java/lang/IndexOutOfBoundsException", 1)] := by
  rcases n_dec (n := 3) (by omega) x0 with hno | ⟨k0, hk3, rfl⟩
  · exact PR.ex (fun _ => C_shut_noC hX.1 hl hC hno) (fun _ => D_shut_noC hX hC hM hno) (by simp)
  refine PR.ok (fun _ => C_shut_ok hX.1 hC hk3) (fun _ => D_shut_ok hX hC hM hk3) ?_ ?_ ?_ ?_
  · exact shF_keep hC hk3
  · exact hB
  · refine MR_cur (k0 := k0) hM (fun fl i h => ?_) (fun fl i h => ?_) ?_ ?_ (fun z => ?_)
    · simp only [up2]
      rw [if_neg (by omega)]
    · simp only [up2]
      rw [if_neg (by omega)]
    · rw [up2_eq, up2_eq]
    · exact (hM.2.2.2 k0 hk3).2.1
    · rw [up2_eq] at z
      cases z
  · exact congrArg nI (hM.2.2.2 k0 hk3).1
theorem P_next {l : Launch} {D : va_G} {cy : Nat → ClassId} {X : (Nat → Prop) → State → Heap → Prop} {a : Nat → Nat → Nat} {ba ra : Nat → Nat} {f : Nat → Nat → Nat} {r : Nat → Nat → Int32} {hf : Nat → Nat → Nat} {hq : Nat → Nat → Int32} {kn th : Int32} {sm : Int64} (hX : EnvM X cy) (hl : l.stackTraces = false) (hC : CInv f) (hB : RB r) (hM : MR f r hf hq) (x0 : Int32) : PR l D cy X a ba ra f r hf hq kn th sm yX2_next cX2_next 2 (some .int) yX4_next cX4_next 2 (some .int) (rmk 9 4 48 420) [.int x0] [("java/lang/IndexOutOfBoundsException", 1), ("java/lang/IllegalStateException", 2)] := by
  rcases n_dec (n := 3) (by omega) x0 with hno | ⟨k0, hk3, rfl⟩
  · exact PR.ex (fun _ => C_next_noC hX.1 hl hC hno) (fun _ => D_next_noC hX hC hM hno) (by simp)
  rcases (show f 9 k0 = 0 ∨ f 9 k0 = 1 by have := (hC.cu hk3).2.1; omega) with h9 | h9
  · exact PR.ex (fun _ => C_next_noT hX.1 hl hC hk3 h9) (fun _ => D_next_noT hX hC hM hk3 h9) (by simp)
  have c := (hC.cu hk3).2.2 h9
  have m := (hM.2.2.2 k0 hk3).2.2 h9
  have m9 := (hM.2.2.2 k0 hk3).1
  have m6 := (hM.2.2.2 k0 hk3).2.1
  have hw := (hC.cu hk3).1
  have W := hM.wh hC hw c.1
  rcases Nat.lt_or_ge (f 7 k0) (f 4 (f 6 k0)) with hx | hx0
  · refine PR.ok (fun _ => C_next_ok hX.1 hC hk3 h9 hx) (fun _ => D_next_ok hX hC hM hk3 h9 hx) ?_ ?_ ?_ ?_
    · exact nxF_keep hC hk3 h9 hx
    · exact hB
    · refine MR_cur (k0 := k0) hM (fun fl i h => ?_) (fun fl i h => ?_) ?_ ?_ (fun _ => ⟨?_, ?_, ?_⟩)
      · simp only [up2]
        rw [if_neg (by omega), if_neg (by omega)]
      · simp only [up2]
        rw [if_neg (by omega), if_neg (by omega)]
      · simpa [up2] using m9
      · simpa [up2] using m6
      · simpa [up2] using m.1
      · simp [up2, m.2.1]
      · simp [up2, m.2.1]
    · rw [m.1, m.2.1]
      exact hM.it hC hw c.1 hx
  have hx : f 7 k0 = f 4 (f 6 k0) := by omega
  refine PR.ok (fun _ => C_next_end hX.1 hC hk3 h9 hx) (fun _ => D_next_end hX hC hM hk3 h9 hx) ?_ ?_ ?_ ?_
  · exact hC
  · exact hB
  · exact hM
  · rfl
theorem P_previous {l : Launch} {D : va_G} {cy : Nat → ClassId} {X : (Nat → Prop) → State → Heap → Prop} {a : Nat → Nat → Nat} {ba ra : Nat → Nat} {f : Nat → Nat → Nat} {r : Nat → Nat → Int32} {hf : Nat → Nat → Nat} {hq : Nat → Nat → Int32} {kn th : Int32} {sm : Int64} (hX : EnvM X cy) (hl : l.stackTraces = false) (hC : CInv f) (hB : RB r) (hM : MR f r hf hq) (x0 : Int32) : PR l D cy X a ba ra f r hf hq kn th sm yX2_previous cX2_previous 2 (some .int) yX4_previous cX4_previous 2 (some .int) (rmk 9 4 48 420) [.int x0] [("java/lang/IndexOutOfBoundsException", 1), ("java/lang/IllegalStateException", 2)] := by
  rcases n_dec (n := 3) (by omega) x0 with hno | ⟨k0, hk3, rfl⟩
  · exact PR.ex (fun _ => C_previous_noC hX.1 hl hC hno) (fun _ => D_previous_noC hX hC hM hno) (by simp)
  rcases (show f 9 k0 = 0 ∨ f 9 k0 = 1 by have := (hC.cu hk3).2.1; omega) with h9 | h9
  · exact PR.ex (fun _ => C_previous_noT hX.1 hl hC hk3 h9) (fun _ => D_previous_noT hX hC hM hk3 h9) (by simp)
  have c := (hC.cu hk3).2.2 h9
  have m := (hM.2.2.2 k0 hk3).2.2 h9
  have m9 := (hM.2.2.2 k0 hk3).1
  have m6 := (hM.2.2.2 k0 hk3).2.1
  have hw := (hC.cu hk3).1
  have W := hM.wh hC hw c.1
  rcases Nat.eq_zero_or_pos (f 7 k0) with hx | hx
  · refine PR.ok (fun _ => C_previous_end hX.1 hC hk3 h9 hx) (fun _ => D_previous_end hX hC hM hk3 h9 hx) ?_ ?_ ?_ ?_
    · exact hC
    · exact hB
    · exact hM
    · rfl
  refine PR.ok (fun _ => C_previous_ok hX.1 hC hk3 h9 hx) (fun _ => D_previous_ok hX hC hM hk3 h9 hx) ?_ ?_ ?_ ?_
  · exact pvF_keep hC hk3 h9 hx
  · exact hB
  · refine MR_cur (k0 := k0) hM (fun fl i h => ?_) (fun fl i h => ?_) ?_ ?_ (fun _ => ⟨?_, ?_, ?_⟩)
    · simp only [up2]
      rw [if_neg (by omega), if_neg (by omega)]
    · simp only [up2]
      rw [if_neg (by omega), if_neg (by omega)]
    · simpa [up2] using m9
    · simpa [up2] using m6
    · simpa [up2] using m.1
    · simp [up2, m.2.1]
    · simp [up2, m.2.1]
  · rw [m.1, m.2.1]
    exact hM.it hC hw c.1 (by omega)
end PT_76
/-! ===== 77.pair6 -/
section PT_77
/-! THE CLASS'S CALL BESIDE THE MODEL'S, FIFTH -/
theorem P_put {l : Launch} {D : va_G} {cy : Nat → ClassId} {X : (Nat → Prop) → State → Heap → Prop} {a : Nat → Nat → Nat} {ba ra : Nat → Nat} {f : Nat → Nat → Nat} {r : Nat → Nat → Int32} {hf : Nat → Nat → Nat} {hq : Nat → Nat → Int32} {kn th : Int32} {sm : Int64} (hX : EnvM X cy) (hl : l.stackTraces = false) (hC : CInv f) (hB : RB r) (hM : MR f r hf hq) (x0 x1 : Int32) : PR l D cy X a ba ra f r hf hq kn th sm yX2_put cX2_put 4 (some .int) yX4_put_ cX4_put_ 3 (some .int) (rmk 9 4 48 420) [.int x0, .int x1] [("java/lang/IndexOutOfBoundsException", 1), ("java/lang/IllegalArgumentException", 2), ("java/lang/IllegalStateException", 3)] := by
  rcases n_dec (n := 3) (by omega) x0 with hno | ⟨k0, hk3, rfl⟩
  · exact PR.ex (fun _ => C_put_noC hX.1 hl hC hno) (fun _ => D_put_noC hX hC hM hno) (by simp)
  by_cases ho : okI x1
  · rcases (show f 9 k0 = 0 ∨ f 9 k0 = 1 by have := (hC.cu hk3).2.1; omega) with h9 | h9
    · exact PR.ex (fun _ => C_put_noT hX.1 hl hC hk3 ho h9) (fun _ => D_put_noT hX hC hM hk3 ho h9) (by simp)
    have c := (hC.cu hk3).2.2 h9
    have m := (hM.2.2.2 k0 hk3).2.2 h9
    have m9 := (hM.2.2.2 k0 hk3).1
    have m6 := (hM.2.2.2 k0 hk3).2.1
    have hw := (hC.cu hk3).1
    have W := hM.wh hC hw c.1
    rcases Nat.lt_or_ge (f 4 (f 1 (f 6 k0))) 12 with hroom | hfull
    · have m1 := MR_lay (d := k0) (c := 1) (g := 0) (p := f 7 k0) (q := f 7 k0) (r1 := up2 r (f 0 8) 0 x1) (ins := upd (fun _ => 0) 0 x1) hC hM hw c.1 (Nat.le_refl _) c.2.1 (Nat.sub_self _).symm (g2 := 0) (Nat.sub_self _).symm rfl m.2.1 (n := chM f hf (f 6 k0) k0 4 (f 1 (f 6 k0)) - 0 + 1) (by rw [ch4]; omega) (fun i hi => up2_row (by have := hC.sp; omega)) (fun j hj => by
        obtain rfl : j = 0 := by omega
        rw [up2_eq]
        rfl)
      refine PR.okR (fun _ => C_put_ok hX.1 hC hk3 ho h9 hroom) (fun _ => D_put_ok hX hC hM hk3 ho h9 hroom) ?_ ?_ ?_ ?_
      · exact crF_keep hC hk3 h9 (by omega) (by omega) (by omega) (by omega) (Or.inl rfl)
      · exact (hB.up (IB.ok ho)).ex _ _ _ _
      · rw [m.1]
        refine MR_cur (k0 := k0) m1 (fun fl i h => ?_) (fun fl i h => ?_) ?_ ?_ (fun _ => ⟨?_, ?_, ?_⟩)
        · rw [up2_x (by omega), up2_x (by omega)]
        · rw [up2_x (by omega), up2_x (by omega)]
        · exact (m1.2.2.2 k0 hk3).1
        · exact (m1.2.2.2 k0 hk3).2.1
        · exact m.1
        · exact ((up2_x (Or.inl (by decide))).trans (up2_eq _ _ _ _)).trans (Eq.trans (by rw [m.2.1]) ((up2_x (Or.inl (by decide))).trans (up2_eq _ _ _ _)).symm)
        · rw [up2_eq, up2_eq]
      · rw [m.2.1]
    · exact PR.ex (fun _ => C_put_full hX.1 hl hC hk3 ho h9 hfull) (fun _ => D_put_full hX hC hM hk3 ho h9 hfull) (by simp)
  · exact PR.ex (fun _ => C_put_noI hX.1 hl hC hk3 ho) (fun _ => D_put_noI hX hC hM hk3 ho) (by simp)
theorem P_take {l : Launch} {D : va_G} {cy : Nat → ClassId} {X : (Nat → Prop) → State → Heap → Prop} {a : Nat → Nat → Nat} {ba ra : Nat → Nat} {f : Nat → Nat → Nat} {r : Nat → Nat → Int32} {hf : Nat → Nat → Nat} {hq : Nat → Nat → Int32} {kn th : Int32} {sm : Int64} (hX : EnvM X cy) (hl : l.stackTraces = false) (hC : CInv f) (hB : RB r) (hM : MR f r hf hq) (x0 : Int32) : PR l D cy X a ba ra f r hf hq kn th sm yX2_take cX2_take 3 (some .int) yX4_take cX4_take 2 (some .int) (rmk 9 4 48 420) [.int x0] [("java/lang/IndexOutOfBoundsException", 1), ("java/lang/IllegalStateException", 2)] := by
  rcases n_dec (n := 3) (by omega) x0 with hno | ⟨k0, hk3, rfl⟩
  · exact PR.ex (fun _ => C_take_noC hX.1 hl hC hno) (fun _ => D_take_noC hX hC hM hno) (by simp)
  rcases (show f 9 k0 = 0 ∨ f 9 k0 = 1 by have := (hC.cu hk3).2.1; omega) with h9 | h9
  · exact PR.ex (fun _ => C_take_noT hX.1 hl hC hk3 h9) (fun _ => D_take_noT hX hC hM hk3 h9) (by simp)
  have c := (hC.cu hk3).2.2 h9
  have m := (hM.2.2.2 k0 hk3).2.2 h9
  have m9 := (hM.2.2.2 k0 hk3).1
  have m6 := (hM.2.2.2 k0 hk3).2.1
  have hw := (hC.cu hk3).1
  have W := hM.wh hC hw c.1
  by_cases hl9 : f 8 k0 = 4294967295
  · refine PR.ok (fun _ => C_take_ref hX.1 hC hk3 h9 hl9) (fun _ => D_take_ref hX hC hM hk3 h9 hl9) ?_ ?_ ?_ ?_
    · exact hC
    · exact hB
    · exact hM
    · rfl
  have hlt : f 8 k0 < f 4 (f 6 k0) := by omega
  have m1 := MR_lay (d := k0) (c := 0) (g := f 8 k0 + 1 - f 8 k0) (p := f 8 k0) (q := f 8 k0 + 1) (r1 := r) (ins := fun _ => 0) hC hM hw c.1 (by omega) (by omega) rfl (g2 := 1) (by omega) (c2 := 0) rfl (p2 := hf 8 k0) m.2.2 (n := chM f hf (f 6 k0) k0 4 (f 1 (f 6 k0)) - 1 + 0) (by rw [ch4]; omega) (fun _ _ => rfl) (fun j hj => absurd hj (Nat.not_lt_zero _))
  rcases Nat.lt_or_ge (f 8 k0) (f 7 k0) with hx | hx
  · refine PR.okR (fun _ => C_take_a hX.1 hC hk3 h9 hl9 hx) (fun _ => D_take_a hX hC hM hk3 h9 hl9 hx) ?_ ?_ ?_ ?_
    · exact crF_keep hC hk3 h9 (by omega) (by omega) (by omega) (by omega) (Or.inl rfl)
    · exact hB.ex _ _ _ _
    · rw [m.1]
      refine MR_cur (k0 := k0) m1 (fun fl i h => ?_) (fun fl i h => ?_) ?_ ?_ (fun _ => ⟨?_, ?_, ?_⟩)
      · rw [up2_x (by omega), up2_x (by omega)]
      · rw [up2_x (by omega), up2_x (by omega)]
      · exact (m1.2.2.2 k0 hk3).1
      · exact (m1.2.2.2 k0 hk3).2.1
      · exact m.1
      · exact ((up2_x (Or.inl (by decide))).trans (up2_eq _ _ _ _)).trans (Eq.trans (by rw [m.2.1]) ((up2_x (Or.inl (by decide))).trans (up2_eq _ _ _ _)).symm)
      · rw [up2_eq, up2_eq]
    · rw [m.2.1]
  refine PR.okR (fun _ => C_take_b hX.1 hC hk3 h9 hl9 hx) (fun _ => D_take_b hX hC hM hk3 h9 hl9 hx) ?_ ?_ ?_ ?_
  · exact tbF_keep hC hk3 h9 (by omega) hl9 hx
  · exact hB.ex _ _ _ _
  · rw [m.1]
    refine MR_cur (k0 := k0) m1 (fun fl i h => ?_) (fun fl i h => ?_) ?_ ?_ (fun _ => ⟨?_, ?_, ?_⟩)
    · rw [up2_x (by omega)]
    · rw [up2_x (by omega), up2_x (by omega)]
    · exact (m1.2.2.2 k0 hk3).1
    · exact (m1.2.2.2 k0 hk3).2.1
    · exact m.1
    · exact ((up2_x (Or.inl (by decide))).trans (up2_eq _ _ _ _)).trans (Eq.trans m.2.1 (up2_x (Or.inl (by decide))).symm)
    · rw [up2_eq, up2_eq]
  · exact congrArg nI m.2.1
theorem P_replace {l : Launch} {D : va_G} {cy : Nat → ClassId} {X : (Nat → Prop) → State → Heap → Prop} {a : Nat → Nat → Nat} {ba ra : Nat → Nat} {f : Nat → Nat → Nat} {r : Nat → Nat → Int32} {hf : Nat → Nat → Nat} {hq : Nat → Nat → Int32} {kn th : Int32} {sm : Int64} (hX : EnvM X cy) (hl : l.stackTraces = false) (hC : CInv f) (hB : RB r) (hM : MR f r hf hq) (x0 x1 : Int32) : PR l D cy X a ba ra f r hf hq kn th sm yX2_replace cX2_replace 4 (some .int) yX4_replace cX4_replace 3 (some .int) (rmk 9 4 48 420) [.int x0, .int x1] [("java/lang/IndexOutOfBoundsException", 1), ("java/lang/IllegalArgumentException", 2), ("java/lang/IllegalStateException", 3)] := by
  rcases n_dec (n := 3) (by omega) x0 with hno | ⟨k0, hk3, rfl⟩
  · exact PR.ex (fun _ => C_replace_noC hX.1 hl hC hno) (fun _ => D_replace_noC hX hC hM hno) (by simp)
  by_cases ho : okI x1
  · rcases (show f 9 k0 = 0 ∨ f 9 k0 = 1 by have := (hC.cu hk3).2.1; omega) with h9 | h9
    · exact PR.ex (fun _ => C_replace_noT hX.1 hl hC hk3 ho h9) (fun _ => D_replace_noT hX hC hM hk3 ho h9) (by simp)
    have c := (hC.cu hk3).2.2 h9
    have m := (hM.2.2.2 k0 hk3).2.2 h9
    have m9 := (hM.2.2.2 k0 hk3).1
    have m6 := (hM.2.2.2 k0 hk3).2.1
    have hw := (hC.cu hk3).1
    have W := hM.wh hC hw c.1
    by_cases hl9 : f 8 k0 = 4294967295
    · refine PR.ok (fun _ => C_replace_ref hX.1 hC hk3 ho h9 hl9) (fun _ => D_replace_ref hX hC hM hk3 ho h9 hl9) ?_ ?_ ?_ ?_
      · exact hC
      · exact hB
      · exact hM
      · rfl
    refine PR.ok (fun _ => C_replace_ok hX.1 hC hk3 ho h9 hl9) (fun _ => D_replace_ok hX hC hM hk3 ho h9 hl9) ?_ ?_ ?_ ?_
    · exact hC
    · exact hB.up (IB.ok ho)
    · rw [m.1, m.2.2]
      exact MR_up hM W.2.2.2.2.2.1
    · rw [m.2.1]
  · exact PR.ex (fun _ => C_replace_noI hX.1 hl hC hk3 ho) (fun _ => D_replace_noI hX hC hM hk3 ho) (by simp)
theorem P_ofCursor {l : Launch} {D : va_G} {cy : Nat → ClassId} {X : (Nat → Prop) → State → Heap → Prop} {a : Nat → Nat → Nat} {ba ra : Nat → Nat} {f : Nat → Nat → Nat} {r : Nat → Nat → Int32} {hf : Nat → Nat → Nat} {hq : Nat → Nat → Int32} {kn th : Int32} {sm : Int64} (hX : EnvM X cy) (hl : l.stackTraces = false) (hC : CInv f) (hB : RB r) (hM : MR f r hf hq) (x0 x1 : Int32) : PR l D cy X a ba ra f r hf hq kn th sm yX2_ofCursor cX2_ofCursor 4 (some .int) yX4_ofCursor cX4_ofCursor 3 (some .int) (rmk 9 4 48 420) [.int x0, .int x1] [("java/lang/IndexOutOfBoundsException", 1), ("java/lang/IllegalArgumentException", 2)] := by
  rcases n_dec (n := 3) (by omega) x0 with hno | ⟨k0, hk3, rfl⟩
  · exact PR.ex (fun _ => C_ofCursor_noC hX.1 hl hC hno) (fun _ => D_ofCursor_noC hX hC hM hno) (by simp)
  rcases n_dec (n := 5) (by omega) x1 with hno | ⟨q0, hqb, rfl⟩
  · exact PR.ex (fun _ => C_ofCursor_noQ hX.1 hl hC hk3 hno) (fun _ => D_ofCursor_noQ hX hC hM hk3 hno) (by simp)
  refine PR.ok (fun _ => C_ofCursor_all hX.1 hC hk3 hqb) (fun _ => D_ofCursor_ok hX hC hM hk3 hqb) ?_ ?_ ?_ ?_
  · exact hC
  · exact hB
  · exact hM
  · have m9 := (hM.2.2.2 k0 hk3).1
    unfold cqM cqF
    rw [m9]
    by_cases h9 : f 9 k0 = 0
    · rw [if_pos h9, if_pos h9]
    · have h91 : f 9 k0 = 1 := by have := (hC.cu hk3).2.1; omega
      have m := (hM.2.2.2 k0 hk3).2.2 h91
      have c := (hC.cu hk3).2.2 h91
      have W := hM.wh hC (hC.cu hk3).1 c.1
      rw [if_neg h9, if_neg h9, m.1, m.2.1, W.1]
theorem P_house {l : Launch} {D : va_G} {cy : Nat → ClassId} {X : (Nat → Prop) → State → Heap → Prop} {a : Nat → Nat → Nat} {ba ra : Nat → Nat} {f : Nat → Nat → Nat} {r : Nat → Nat → Int32} {hf : Nat → Nat → Nat} {hq : Nat → Nat → Int32} {kn th : Int32} {sm : Int64} (hX : EnvM X cy) (hl : l.stackTraces = false) (hC : CInv f) (hB : RB r) (hM : MR f r hf hq) (x0 : Int32) : PR l D cy X a ba ra f r hf hq kn th sm yX2_house cX2_house 2 (some .int) yX4_house cX4_house 2 (some .int) (rmk 9 4 48 420) [.int x0] [("java/lang/IllegalArgumentException", 1)] := by
  rcases n_dec (n := 4) (by omega) x0 with hno | ⟨q0, hqb, rfl⟩
  · exact PR.ex (fun _ => C_house_noQ hX.1 hl hC hno) (fun _ => D_house_noQ hX hC hM hno) (by simp)
  refine PR.ok (fun _ => C_house_all hX.1 hC hqb) (fun _ => D_house_ok hX hC hM hqb) ?_ ?_ ?_ ?_
  · exact hC
  · exact hB
  · exact hM
  · unfold hoM hhF
    rw [smF_same (v := hf 4) (v' := f 4) 4 0 0 (fun q a b => (hM.2.1 q (by omega)).1), smF_same (v := hf 5) (v' := f 5) 4 4 0 (fun q a b => (hM.2.2.1 q a (by omega)).1), smF_same (v := hf 9) (v' := f 9) 3 0 0 (fun q a b => (hM.2.2.2 q (by omega)).1)]
end PT_77
/-! ===== 78.law0 -/
section PT_78
/-! THE LAW'S OWN ROWS -/
/-- the contract of a method with an exception table -/
def CmH (l : Launch) (D : va_G) (cy : Nat → ClassId) (X : (Nat → Prop) → State → Heap → Prop) (y : MethodName) (bytes : ByteArray) (maxL : Nat) (ret : Option FieldType) (hh : List (Nat × Nat × Nat × Nat)) (rm : Room) (av : List Value) (w : va_W) (post : Option Value → va_W → Prop) (px : String → Prop) : Prop :=
  Ct l y (Cond.codeWith y bytes maxL ret hh :: GW) rm D vwCl (tysL cy) X av w post px
def PkH (y : MethodName) (bytes : ByteArray) (maxL : Nat) (ret : Option FieldType) (hh : List (Nat × Nat × Nat × Nat)) (n : Nat) : Prop :=
  (Cond.static y ∈ GW ∧ Cond.initialized y.cls ∈ GW ∧ Cond.codeWith y bytes maxL ret hh ∈ GW) ∧ y.cls ≠ "java/lang/invoke/MethodHandle" ∧ y.cls ≠ "java/lang/invoke/VarHandle" ∧ (parseMethodDescriptor y.desc).map (fun d => d.parameters.length) = some n
theorem CmH.of {l : Launch} {D : va_G} {cy : Nat → ClassId} {X : (Nat → Prop) → State → Heap → Prop} {y : MethodName} {cc : ByteArray} {maxL : Nat} {ret : Option FieldType} {hh : List (Nat × Nat × Nat × Nat)} {rm : Room} {av : List Value} {w : va_W} {post : Option Value → va_W → Prop} {px : String → Prop} (lv : List (Option Value))
    (hy : plainName y.cls = true) (hlv : lvl 0 lv = lv_args 0 av) (hlen : (lg_sl av).length ≤ maxL)
    (body : ∀ (p : Program) (e : Env) (s : State) (m : MethodId) (args : Array Value) (below : List Frame) (meth : Method) (c : Code) (A : Nat → Prop), Fg p s m args meth c cc maxL y.cls D cy A → X A s s.heap → meth.sig.returnType = ret → c.exceptionTable.toList = tableOf hh →
      vW p l e rm s m args below meth c D vwCl A (vx_MQ below (vG post D vwCl A) (vGX px D vwCl w A) args s rm.cells rm.slots A) maxL 0 0 w lv 0 []) : CmH l D cy X y cc maxL ret hh rm av w post px := by
  intro sz
  refine vx_ofWH (cc := cc) (maxL := maxL) (ret := ret) (hh := hh) hy rfl ?_
  intro p e s m args below meth c s₁ B hml hv
  obtain ⟨rfl, hsz, hP, hK, hD0, hX⟩ := hv
  subst hsz
  have hts := atoms_spec (ws := Cond.codeWith y cc maxL ret hh :: GW) B.pre
  have hnt := vx_table (x := y) B (hts _ List.mem_cons_self)
  have hown : s.vm.findClass y.cls = some m.cls := findClass_of_methodNamed B.named
  have hD : va_D (va_A w s.heap.size) w := hD0.self
  rw [lg_entry_eq]
  exact body p e s m av.toArray below meth c (va_A w s.heap.size) ⟨B.exec, B.bytes, hml, hown, fun w hw => hts w (List.mem_cons_of_mem _ hw), hK, B.notSynchronized, fun q h => Or.inr h⟩ hX B.returns hnt s.heap [] _ hP hD va_S.rf (lvh.of (lv_entry av hlen) hlv)
/-- no such exception is one of the others -/
def NCL : List (String × String) := [("java/lang/IllegalArgumentException", "java/lang/IndexOutOfBoundsException"), ("java/lang/IllegalStateException", "java/lang/IndexOutOfBoundsException"), ("java/lang/IllegalStateException", "java/lang/IllegalArgumentException")]
def EnvN (X : (Nat → Prop) → State → Heap → Prop) : Prop := ∀ q ∈ NCL, ∀ (A : Nat → Prop) (U : State) (H : Heap), X A U H → va_Nc q.1 q.2 U
section LAWR
variable {p : Program} {l : Launch} {e : Env} {R : Room} {s : State} {m : MethodId} {args : Array Value} {below : List Frame} {meth : Method} {c : Code} {D : va_G} {cy : Nat → ClassId} {A : Nat → Prop} {Q : State → Prop} {nL cells slots : Nat} {w : va_W} {lv : List (Option Value)} {pc : Nat} {st : List Value} {cc : ByteArray} {own : String} {X : (Nat → Prop) → State → Heap → Prop}
variable {y : MethodName} {bytes : ByteArray} {maxL index n : Nat} {ret : Option FieldType} {hh : List (Nat × Nat × Nat × Nat)} {rm : Room} {As st0 : List Value} {post : Option Value → va_W → Prop} {px : String → Prop}
theorem c_SH (hX : Stb X) (C : Fg p s m args meth c cc nL own D cy A) (hE : X A s s.heap) (ct : CmH l D cy X y bytes maxL ret hh rm As w post px) (pk : PkH y bytes maxL ret hh n) (qm : Cond.methodLink own index y ∈ GW)
    (hn : As.length = n) (hstack : st0 = As.reverse ++ st) (hcat : (st.map fun v => v.category).sum ≤ 8)
    (d : decode cc pc = .ok (.invokestatic index, 3)) (hR : rm.frames + 1 ≤ R.frames ∧ 8 + (maxL + 11) + rm.locals ≤ R.locals) (hf : cells + rm.cells ≤ R.cells ∧ slots + rm.slots ≤ R.slots)
    (kk : ∀ (v : Option Value) (w' : va_W), post v w' → vW p l e R s m args below meth c D vwCl A Q nL (cells + rm.cells) (slots + rm.slots) w' lv (pc + 3) (v.toList ++ st))
    (kx : ∀ E : String, px E → vX p l e R s m args below meth c D vwCl A Q nL (cells + rm.cells) (slots + rm.slots) w lv pc st E) : vW p l e R s m args below meth c D vwCl A Q nL cells slots w lv pc st0 := by
  obtain ⟨⟨q1, q2, q3⟩, hd⟩ := pk
  have hG : GoodIn GW (va_wsS own index y (Cond.codeWith y bytes maxL ret hh :: GW)) := gw_good (fun _ h => h) (fun w h => by
    simp only [va_wsS, List.cons_append, List.nil_append, List.mem_cons] at h
    rcases h with h | h | h | h | h
    · exact h ▸ qm
    · exact h ▸ q1
    · exact h ▸ q2
    · exact h ▸ q3
    · exact h)
  have hcw := vx_cwSW (R := R) (rm := rm) n C.2.2.2.2.1 hG rfl rfl rfl hd hR
  exact r_run C (fun H locs ls hP hD hS hl => vx_runSX (As := As) (rest := st) (g := F0 m pc ls st0) ⟨C.1, C.2.1, C.2.2.1, C.2.2.2.1, C.2.2.2.2.1⟩ (ct H.size) hcw ⟨vPre_blind hX _ _ _, fun U hU hW => ⟨rfl, vPre_at hX C hE hP hD hS U hU hW⟩⟩ rfl hn hl.1 hstack (lv_room hcat) d hf) kk kx
theorem r_catch {name E : String} (C : Fg p s m args meth c cc nL own D cy A) (pre : List ExceptionTableEntry) (x : ExceptionTableEntry) (suf : List ExceptionTableEntry) (hsplit : c.exceptionTable.toList = pre ++ x :: suf)
    (hpass : ∀ z ∈ pre, covers z pc = false ∨ (z.catchType ≠ 0 ∧ ∃ nm : String, (Cond.classLink own z.catchType nm).before args s = true ∧ va_Nc E nm s)) (hx : covers x pc = true) (h0 : x.catchType ≠ 0)
    (hlink : (Cond.classLink own x.catchType name).before args s = true) (hcast : (Cond.castable E name).before args s = true)
    (kk : ∀ q : Nat, vW p l e R s m args below meth c D vwCl A Q nL cells slots w lv x.handlerPc [.ref q]) : vX p l e R s m args below meth c D vwCl A Q nL cells slots w lv pc st E := fun H locs ls q ce hP hD hS hl h3 h4 h5 =>
  vx_catch C.2.2.2.1 pre x suf hsplit hpass hx h0 hlink hcast h3 h4 h5 (kk q H locs ls hP hD hS hl)
/-- the script -/
theorem r_sld (C : Fg p s m args meth c cc nL own D cy A) {b L k : Nat} {xs : Nat → Int32} (hx : va_X b L xs s s.heap) (hbl : b < s.heap.size) (hbA : ¬ A b) (hk : k < L) (hL : L < 2147483648) (d : decode cc pc = .ok (.iaload, 1))
    (kk : vW p l e R s m args below meth c D vwCl A Q nL cells slots w lv (pc + 1) (.int (xs k) :: st)) : vW p l e R s m args below meth c D vwCl A Q nL cells slots w lv pc (.int (nI k) :: .ref b :: st) := fun H locs ls hP hD hS hl =>
  va_sld C.1 C.2.1 hx hbl hbA hS (vp_in_nI hk hL) d (by
    rw [nI_clamp (by omega)]
    exact kk H locs ls hP hD hS hl)
theorem r_slen (C : Fg p s m args meth c cc nL own D cy A) {b L : Nat} {xs : Nat → Int32} (hx : va_X b L xs s s.heap) (hbl : b < s.heap.size) (hbA : ¬ A b) (d : decode cc pc = .ok (.arraylength, 1))
    (kk : vW p l e R s m args below meth c D vwCl A Q nL cells slots w lv (pc + 1) (.int (nI L) :: st)) : vW p l e R s m args below meth c D vwCl A Q nL cells slots w lv pc (.ref b :: st) := fun H locs ls hP hD hS hl =>
  va_slen C.1 C.2.1 hx hbl hbA hS d (kk H locs ls hP hD hS hl)
end LAWR
/-- the law's own object -/
abbrev OUTo (o : Nat) (n : Int64) (v : Value) : Nat × va_E := (o, .inr (7, [.long n, v]))
/-- what a call leaves for the model's -/
def PN (l : Launch) (D : va_G) (cy : Nat → ClassId) (X : (Nat → Prop) → State → Heap → Prop) (ba ra : Nat → Nat) (hf : Nat → Nat → Nat) (hq : Nat → Nat → Int32) (kn th : Int32) (sm : Int64)
    (y4 : MethodName) (c4 : ByteArray) (m4 : Nat) (r4 : Option FieldType) (R4 : Room) (xs : List Value) (cv : Int32 → Int64) (f' : Nat → Nat → Nat) (r' : Nat → Nat → Int32) (k : Nat) (n1 : Int64) : Prop :=
  ∃ (hf' : Nat → Nat → Nat) (hq' : Nat → Nat → Int32) (n : Int32), CInv f' ∧ RB r' ∧ MR f' r' hf' hq' ∧ (k = 0 → n1 = cv n) ∧ k < 4 ∧
    ∀ Y : va_W, Cm l D cy X y4 c4 m4 r4 R4 (.ref (ba 9) :: xs) (WM cy ba ra hf hq kn th sm ++ Y) (fun v1 w1 => ∃ ra9 : Nat → Nat, v1 = some (.int n) ∧ w1 = WM cy ba ra9 hf' hq' kn (nI k) sm ++ Y) (fun _ => False)
def cvI (n : Int32) : Int64 := n.toInt64
def cvZ (n : Int32) : Int64 := if n = 0 then 0 else 1
theorem PR.two {l : Launch} {D : va_G} {cy : Nat → ClassId} {X : (Nat → Prop) → State → Heap → Prop} {a : Nat → Nat → Nat} {ba ra : Nat → Nat} {f : Nat → Nat → Nat} {r : Nat → Nat → Int32} {hf : Nat → Nat → Nat} {hq : Nat → Nat → Int32} {kn th : Int32} {sm : Int64}
    {y2 : MethodName} {c2 : ByteArray} {m2 : Nat} {r2 : Option FieldType} {y4 : MethodName} {c4 : ByteArray} {m4 : Nat} {r4 : Option FieldType} {R4 : Room} {xs : List Value} {tab : List (String × Nat)} (cv : Int32 → Int64) (ht : ∀ q ∈ tab, q.2 ≠ 0 ∧ q.2 < 4) (hC : CInv f) (hB : RB r) (hM : MR f r hf hq)
    (h : PR l D cy X a ba ra f r hf hq kn th sm y2 c2 m2 r2 y4 c4 m4 r4 R4 xs tab) :
    (∃ (E : String) (k : Nat), (E, k) ∈ tab ∧ (∀ Y : va_W, Ce l D cy X y2 c2 m2 r2 (rmk 8 1 6 170) (.ref (a 0 0) :: xs) (WC cy a f r kn ++ Y) E) ∧ ∀ n1, PN l D cy X ba ra hf hq kn th sm y4 c4 m4 r4 R4 xs cv f r k n1) ∨
    ∃ (f' : Nat → Nat → Nat) (r' : Nat → Nat → Int32) (n : Int32), (∀ Y : va_W, Cd l D cy X y2 c2 m2 r2 (rmz 6 240) (.ref (a 0 0) :: xs) (WC cy a f r kn ++ Y) (some (.int n)) (WC cy a f' r' kn ++ Y)) ∧ PN l D cy X ba ra hf hq kn th sm y4 c4 m4 r4 R4 xs cv f' r' 0 (cv n) := by
  rcases h with ⟨E, k, hm, h1, h2⟩ | ⟨f', r', hf', hq', n, hC', hB', hM', h1, h2⟩
  · exact Or.inl ⟨E, k, hm, h1, fun n1 => ⟨hf, hq, nI 0, hC, hB, hM, fun h0 => absurd h0 (ht _ hm).1, (ht _ hm).2, fun Y => (h2 Y).imp (fun v w1 h => ⟨ra, h.1, h.2⟩)⟩⟩
  · exact Or.inr ⟨f', r', n, h1, hf', hq', n, hC', hB', hM', fun _ => rfl, by decide, h2⟩
/-- class and model agree -/
def JW (cy : Nat → ClassId) (a : Nat → Nat → Nat) (ba : Nat → Nat) (o : Nat) (w : va_W) : Prop :=
  ∃ (f : Nat → Nat → Nat) (r : Nat → Nat → Int32) (hf : Nat → Nat → Nat) (hq : Nat → Nat → Int32) (kn : Int32) (ra : Nat → Nat) (th : Int32) (sm n : Int64) (v : Value), CInv f ∧ RB r ∧ MR f r hf hq ∧ w = WC cy a f r kn ++ (WM cy ba ra hf hq kn th sm ++ [OUTo o n v])
theorem outo_at {cy : Nat → ClassId} {a f : Nat → Nat → Nat} {r : Nat → Nat → Int32} {ba ra : Nat → Nat} {hf : Nat → Nat → Nat} {hq : Nat → Nat → Int32} {kn k2 th : Int32} {sm : Int64} {q : Nat × va_E} : (WC cy a f r kn ++ (WM cy ba ra hf hq k2 th sm ++ [q]))[38]? = some q := by
  rw [List.getElem?_append_right (by rw [wc_len]; omega), wc_len, List.getElem?_append_right (by rw [wm_len]; omega), wm_len]
  rfl
theorem outo_set {cy : Nat → ClassId} {a f : Nat → Nat → Nat} {r : Nat → Nat → Int32} {ba ra : Nat → Nat} {hf : Nat → Nat → Nat} {hq : Nat → Nat → Int32} {kn k2 th : Int32} {sm : Int64} {q q' : Nat × va_E} : (WC cy a f r kn ++ (WM cy ba ra hf hq k2 th sm ++ [q])).set 38 q' = WC cy a f r kn ++ (WM cy ba ra hf hq k2 th sm ++ [q']) := by
  rw [List.set_append_right _ _ (by rw [wc_len]; omega), wc_len, List.set_append_right _ _ (by rw [wm_len]; omega), wm_len]
  rfl

theorem qca_IOB : Cond.castable "java/lang/IndexOutOfBoundsException" "java/lang/IndexOutOfBoundsException" ∈ NWL := List.mem_filter.mpr ⟨(gm_3 180 rfl), rfl⟩
theorem qca_IAE : Cond.castable "java/lang/IllegalArgumentException" "java/lang/IllegalArgumentException" ∈ NWL := List.mem_filter.mpr ⟨(gm_1 217 rfl), rfl⟩
theorem qca_ISE : Cond.castable "java/lang/IllegalStateException" "java/lang/IllegalStateException" ∈ NWL := List.mem_filter.mpr ⟨(gm_4 2 rfl), rfl⟩
end PT_78
/-! ===== 785.code -/
section PT_785
def KN_0 : List Nat := [187, 0, 8, 89, 183, 0, 170, 76, 187, 0, 171, 89, 183, 0, 173, 77, 187, 0, 14, 89, 183, 0, 174, 78, 3, 54, 4, 21, 4, 42, 190, 8, 100, 163, 8, 53, 42, 21, 4, 46, 16, 63, 126, 170, 0, 0, 8, 37, 0, 0, 0, 0, 0, 0, 0, 48, 0, 0, 0, 209, 0, 0, 0, 249]
def KN_1 : List Nat := [0, 0, 1, 45, 0, 0, 1, 97, 0, 0, 1, 137, 0, 0, 1, 165, 0, 0, 1, 229, 0, 0, 2, 13, 0, 0, 2, 41, 0, 0, 2, 93, 0, 0, 2, 121, 0, 0, 2, 149, 0, 0, 2, 177, 0, 0, 2, 217, 0, 0, 3, 1, 0, 0, 3, 29, 0, 0, 3, 69, 0, 0, 3, 109]
def KN_2 : List Nat := [0, 0, 3, 149, 0, 0, 3, 201, 0, 0, 3, 241, 0, 0, 4, 25, 0, 0, 4, 65, 0, 0, 4, 105, 0, 0, 4, 157, 0, 0, 4, 197, 0, 0, 4, 237, 0, 0, 5, 21, 0, 0, 5, 61, 0, 0, 5, 117, 0, 0, 5, 157, 0, 0, 5, 197, 0, 0, 5, 225, 0, 0, 5, 253]
def KN_3 : List Nat := [0, 0, 6, 37, 0, 0, 6, 101, 0, 0, 6, 129, 0, 0, 6, 169, 0, 0, 6, 221, 0, 0, 6, 249, 0, 0, 7, 21, 0, 0, 7, 49, 0, 0, 7, 89, 0, 0, 7, 117, 0, 0, 7, 157, 0, 0, 7, 197, 0, 0, 7, 254, 0, 0, 8, 11, 0, 0, 8, 24, 43, 42, 21, 4]
def KN_4 : List Nat := [4, 96, 46, 42, 21, 4, 5, 96, 46, 45, 184, 0, 175, 54, 5, 44, 42, 21, 4, 4, 96, 46, 42, 21, 4, 5, 96, 46, 182, 0, 180, 54, 6, 167, 7, 47, 43, 42, 21, 4, 4, 96, 46, 42, 21, 4, 5, 96, 46, 42, 21, 4, 6, 96, 46, 45, 184, 0, 181, 54, 5, 44, 42, 21]
def KN_5 : List Nat := [4, 4, 96, 46, 42, 21, 4, 5, 96, 46, 42, 21, 4, 6, 96, 46, 182, 0, 184, 54, 6, 167, 6, 251, 43, 42, 21, 4, 4, 96, 46, 42, 21, 4, 5, 96, 46, 42, 21, 4, 6, 96, 46, 45, 184, 0, 185, 54, 5, 44, 42, 21, 4, 4, 96, 46, 42, 21, 4, 5, 96, 46, 42, 21]
def KN_6 : List Nat := [4, 6, 96, 46, 182, 0, 187, 54, 6, 167, 6, 199, 43, 42, 21, 4, 4, 96, 46, 42, 21, 4, 5, 96, 46, 45, 184, 0, 188, 54, 5, 44, 42, 21, 4, 4, 96, 46, 42, 21, 4, 5, 96, 46, 182, 0, 190, 54, 6, 167, 6, 159, 43, 42, 21, 4, 4, 96, 46, 45, 184, 0, 191, 54]
def KN_7 : List Nat := [5, 44, 42, 21, 4, 4, 96, 46, 182, 0, 194, 54, 6, 167, 6, 131, 43, 42, 21, 4, 4, 96, 46, 42, 21, 4, 5, 96, 46, 42, 21, 4, 6, 96, 46, 42, 21, 4, 7, 96, 46, 45, 184, 0, 195, 54, 5, 44, 42, 21, 4, 4, 96, 46, 42, 21, 4, 5, 96, 46, 42, 21, 4, 6]
def KN_8 : List Nat := [96, 46, 42, 21, 4, 7, 96, 46, 182, 0, 198, 54, 6, 167, 6, 67, 43, 42, 21, 4, 4, 96, 46, 42, 21, 4, 5, 96, 46, 45, 184, 0, 199, 54, 5, 44, 42, 21, 4, 4, 96, 46, 42, 21, 4, 5, 96, 46, 182, 0, 201, 54, 6, 167, 6, 27, 43, 42, 21, 4, 4, 96, 46, 45]
def KN_9 : List Nat := [184, 0, 202, 54, 5, 44, 42, 21, 4, 4, 96, 46, 182, 0, 204, 54, 6, 167, 5, 255, 43, 42, 21, 4, 4, 96, 46, 42, 21, 4, 5, 96, 46, 42, 21, 4, 6, 96, 46, 45, 184, 0, 205, 54, 5, 44, 42, 21, 4, 4, 96, 46, 42, 21, 4, 5, 96, 46, 42, 21, 4, 6, 96, 46]
def KN_10 : List Nat := [182, 0, 207, 54, 6, 167, 5, 203, 43, 42, 21, 4, 4, 96, 46, 45, 184, 0, 208, 54, 5, 44, 42, 21, 4, 4, 96, 46, 182, 0, 210, 54, 6, 167, 5, 175, 43, 42, 21, 4, 4, 96, 46, 45, 184, 0, 211, 54, 5, 44, 42, 21, 4, 4, 96, 46, 182, 0, 213, 54, 6, 167, 5, 147]
def KN_11 : List Nat := [43, 42, 21, 4, 4, 96, 46, 45, 184, 0, 214, 54, 5, 44, 42, 21, 4, 4, 96, 46, 182, 0, 216, 54, 6, 167, 5, 119, 43, 42, 21, 4, 4, 96, 46, 42, 21, 4, 5, 96, 46, 45, 184, 0, 217, 54, 5, 44, 42, 21, 4, 4, 96, 46, 42, 21, 4, 5, 96, 46, 182, 0, 219, 54]
def KN_12 : List Nat := [6, 167, 5, 79, 43, 42, 21, 4, 4, 96, 46, 42, 21, 4, 5, 96, 46, 45, 184, 0, 220, 54, 5, 44, 42, 21, 4, 4, 96, 46, 42, 21, 4, 5, 96, 46, 182, 0, 222, 54, 6, 167, 5, 39, 43, 42, 21, 4, 4, 96, 46, 45, 184, 0, 223, 54, 5, 44, 42, 21, 4, 4, 96, 46]
def KN_13 : List Nat := [182, 0, 225, 54, 6, 167, 5, 11, 43, 42, 21, 4, 4, 96, 46, 42, 21, 4, 5, 96, 46, 45, 184, 0, 226, 54, 5, 44, 42, 21, 4, 4, 96, 46, 42, 21, 4, 5, 96, 46, 182, 0, 228, 54, 6, 167, 4, 227, 43, 42, 21, 4, 4, 96, 46, 42, 21, 4, 5, 96, 46, 45, 184, 0]
def KN_14 : List Nat := [229, 54, 5, 44, 42, 21, 4, 4, 96, 46, 42, 21, 4, 5, 96, 46, 182, 0, 231, 54, 6, 167, 4, 187, 43, 42, 21, 4, 4, 96, 46, 42, 21, 4, 5, 96, 46, 45, 184, 0, 232, 54, 5, 44, 42, 21, 4, 4, 96, 46, 42, 21, 4, 5, 96, 46, 182, 0, 234, 54, 6, 167, 4, 147]
def KN_15 : List Nat := [43, 42, 21, 4, 4, 96, 46, 42, 21, 4, 5, 96, 46, 42, 21, 4, 6, 96, 46, 45, 184, 0, 235, 54, 5, 44, 42, 21, 4, 4, 96, 46, 42, 21, 4, 5, 96, 46, 42, 21, 4, 6, 96, 46, 182, 0, 237, 54, 6, 167, 4, 95, 43, 42, 21, 4, 4, 96, 46, 42, 21, 4, 5, 96]
def KN_16 : List Nat := [46, 45, 184, 0, 238, 54, 5, 44, 42, 21, 4, 4, 96, 46, 42, 21, 4, 5, 96, 46, 182, 0, 240, 54, 6, 167, 4, 55, 43, 42, 21, 4, 4, 96, 46, 42, 21, 4, 5, 96, 46, 45, 184, 0, 241, 54, 5, 44, 42, 21, 4, 4, 96, 46, 42, 21, 4, 5, 96, 46, 182, 0, 243, 54]
def KN_17 : List Nat := [6, 167, 4, 15, 43, 42, 21, 4, 4, 96, 46, 42, 21, 4, 5, 96, 46, 45, 184, 0, 244, 54, 5, 44, 42, 21, 4, 4, 96, 46, 42, 21, 4, 5, 96, 46, 182, 0, 246, 54, 6, 167, 3, 231, 43, 42, 21, 4, 4, 96, 46, 42, 21, 4, 5, 96, 46, 45, 184, 0, 247, 54, 5, 44]
def KN_18 : List Nat := [42, 21, 4, 4, 96, 46, 42, 21, 4, 5, 96, 46, 182, 0, 249, 54, 6, 167, 3, 191, 43, 42, 21, 4, 4, 96, 46, 42, 21, 4, 5, 96, 46, 42, 21, 4, 6, 96, 46, 45, 184, 0, 250, 54, 5, 44, 42, 21, 4, 4, 96, 46, 42, 21, 4, 5, 96, 46, 42, 21, 4, 6, 96, 46]
def KN_19 : List Nat := [182, 0, 252, 54, 6, 167, 3, 139, 43, 42, 21, 4, 4, 96, 46, 42, 21, 4, 5, 96, 46, 45, 184, 0, 253, 54, 5, 44, 42, 21, 4, 4, 96, 46, 42, 21, 4, 5, 96, 46, 182, 0, 255, 54, 6, 167, 3, 99, 43, 42, 21, 4, 4, 96, 46, 42, 21, 4, 5, 96, 46, 45, 184, 1]
def KN_20 : List Nat := [0, 54, 5, 44, 42, 21, 4, 4, 96, 46, 42, 21, 4, 5, 96, 46, 182, 1, 2, 54, 6, 167, 3, 59, 43, 42, 21, 4, 4, 96, 46, 42, 21, 4, 5, 96, 46, 45, 184, 1, 3, 54, 5, 44, 42, 21, 4, 4, 96, 46, 42, 21, 4, 5, 96, 46, 182, 1, 5, 54, 6, 167, 3, 19]
def KN_21 : List Nat := [43, 42, 21, 4, 4, 96, 46, 42, 21, 4, 5, 96, 46, 45, 184, 1, 6, 54, 5, 44, 42, 21, 4, 4, 96, 46, 42, 21, 4, 5, 96, 46, 182, 1, 8, 54, 6, 167, 2, 235, 43, 42, 21, 4, 4, 96, 46, 42, 21, 4, 5, 96, 46, 153, 0, 7, 4, 167, 0, 4, 3, 45, 184, 1]
def KN_22 : List Nat := [9, 54, 5, 44, 42, 21, 4, 4, 96, 46, 42, 21, 4, 5, 96, 46, 153, 0, 7, 4, 167, 0, 4, 3, 182, 1, 12, 54, 6, 167, 2, 179, 43, 42, 21, 4, 4, 96, 46, 42, 21, 4, 5, 96, 46, 45, 184, 1, 13, 54, 5, 44, 42, 21, 4, 4, 96, 46, 42, 21, 4, 5, 96, 46]
def KN_23 : List Nat := [182, 1, 15, 54, 6, 167, 2, 139, 43, 42, 21, 4, 4, 96, 46, 42, 21, 4, 5, 96, 46, 45, 184, 1, 16, 54, 5, 44, 42, 21, 4, 4, 96, 46, 42, 21, 4, 5, 96, 46, 182, 1, 18, 54, 6, 167, 2, 99, 43, 42, 21, 4, 4, 96, 46, 45, 184, 1, 19, 54, 5, 44, 42, 21]
def KN_24 : List Nat := [4, 4, 96, 46, 182, 1, 21, 54, 6, 167, 2, 71, 43, 42, 21, 4, 4, 96, 46, 45, 184, 1, 22, 54, 5, 44, 42, 21, 4, 4, 96, 46, 182, 1, 24, 58, 6, 167, 2, 43, 43, 42, 21, 4, 4, 96, 46, 42, 21, 4, 5, 96, 46, 45, 184, 1, 25, 54, 5, 44, 42, 21, 4, 4]
def KN_25 : List Nat := [96, 46, 42, 21, 4, 5, 96, 46, 182, 1, 27, 54, 6, 167, 2, 3, 43, 42, 21, 4, 4, 96, 46, 42, 21, 4, 5, 96, 46, 42, 21, 4, 6, 96, 46, 42, 21, 4, 7, 96, 46, 45, 184, 1, 28, 54, 5, 44, 42, 21, 4, 4, 96, 46, 42, 21, 4, 5, 96, 46, 42, 21, 4, 6]
def KN_26 : List Nat := [96, 46, 42, 21, 4, 7, 96, 46, 182, 1, 30, 54, 6, 167, 1, 195, 43, 42, 21, 4, 4, 96, 46, 45, 184, 1, 31, 54, 5, 44, 42, 21, 4, 4, 96, 46, 182, 1, 33, 54, 6, 167, 1, 167, 43, 42, 21, 4, 4, 96, 46, 42, 21, 4, 5, 96, 46, 45, 184, 1, 34, 54, 5, 44]
def KN_27 : List Nat := [42, 21, 4, 4, 96, 46, 42, 21, 4, 5, 96, 46, 182, 1, 36, 54, 6, 167, 1, 127, 43, 42, 21, 4, 4, 96, 46, 42, 21, 4, 5, 96, 46, 42, 21, 4, 6, 96, 46, 45, 184, 1, 37, 54, 5, 44, 42, 21, 4, 4, 96, 46, 42, 21, 4, 5, 96, 46, 42, 21, 4, 6, 96, 46]
def KN_28 : List Nat := [182, 1, 39, 54, 6, 167, 1, 75, 43, 42, 21, 4, 4, 96, 46, 45, 184, 1, 40, 54, 5, 44, 42, 21, 4, 4, 96, 46, 182, 1, 42, 54, 6, 167, 1, 47, 43, 42, 21, 4, 4, 96, 46, 45, 184, 1, 43, 54, 5, 44, 42, 21, 4, 4, 96, 46, 182, 1, 45, 54, 6, 167, 1, 19]
def KN_29 : List Nat := [43, 42, 21, 4, 4, 96, 46, 45, 184, 1, 46, 54, 5, 44, 42, 21, 4, 4, 96, 46, 182, 1, 48, 54, 6, 167, 0, 247, 43, 42, 21, 4, 4, 96, 46, 42, 21, 4, 5, 96, 46, 45, 184, 1, 49, 54, 5, 44, 42, 21, 4, 4, 96, 46, 42, 21, 4, 5, 96, 46, 182, 1, 51, 54]
def KN_30 : List Nat := [6, 167, 0, 207, 43, 42, 21, 4, 4, 96, 46, 45, 184, 1, 52, 54, 5, 44, 42, 21, 4, 4, 96, 46, 182, 1, 54, 54, 6, 167, 0, 179, 43, 42, 21, 4, 4, 96, 46, 42, 21, 4, 5, 96, 46, 45, 184, 1, 55, 54, 5, 44, 42, 21, 4, 4, 96, 46, 42, 21, 4, 5, 96, 46]
def KN_31 : List Nat := [182, 1, 57, 54, 6, 167, 0, 139, 43, 42, 21, 4, 4, 96, 46, 42, 21, 4, 5, 96, 46, 45, 184, 1, 58, 54, 5, 44, 42, 21, 4, 4, 96, 46, 42, 21, 4, 5, 96, 46, 182, 1, 60, 54, 6, 167, 0, 99, 43, 42, 21, 4, 4, 96, 46, 45, 184, 1, 61, 54, 5, 44, 42, 21]
def KN_32 : List Nat := [4, 4, 96, 46, 182, 1, 63, 54, 6, 44, 182, 1, 64, 21, 5, 159, 0, 5, 3, 172, 21, 5, 154, 0, 16, 45, 180, 0, 13, 21, 6, 133, 148, 153, 0, 5, 3, 172, 167, 0, 42, 43, 182, 1, 68, 87, 44, 182, 1, 71, 87, 167, 0, 29, 43, 182, 1, 72, 87, 44, 182, 1, 76, 87]
def KNR : List Nat := [167, 0, 16, 43, 182, 1, 77, 88, 44, 182, 1, 81, 88, 167, 0, 3, 132, 4, 5, 167, 247, 200, 4, 172]
def KNS : List (List Nat) := [KN_0, KN_1, KN_2, KN_3, KN_4, KN_5, KN_6, KN_7, KN_8, KN_9, KN_10, KN_11, KN_12, KN_13, KN_14, KN_15, KN_16, KN_17, KN_18, KN_19, KN_20, KN_21, KN_22, KN_23, KN_24, KN_25, KN_26, KN_27, KN_28, KN_29, KN_30, KN_31, KN_32]
set_option maxRecDepth 100000 in
theorem kn_eq : cL_law.data.toList.map UInt8.toNat = KNS.flatten ++ KNR := by decide +kernel
theorem kn_64 : ∀ K ∈ KNS, K.length = 64 := by decide +kernel
theorem kb_0 (r : Nat) {b : Nat} (h : KN_0[r]? = some b) : cb cL_law (64 * 0 + r) = some b := by
  unfold cb
  rw [kn_eq, fl64 kn_64 0 r (by
    have := (List.getElem?_eq_some_iff.mp h).1
    exact this) KN_0 rfl]
  exact h
theorem kb_1 (r : Nat) {b : Nat} (h : KN_1[r]? = some b) : cb cL_law (64 * 1 + r) = some b := by
  unfold cb
  rw [kn_eq, fl64 kn_64 1 r (by
    have := (List.getElem?_eq_some_iff.mp h).1
    exact this) KN_1 rfl]
  exact h
theorem kb_2 (r : Nat) {b : Nat} (h : KN_2[r]? = some b) : cb cL_law (64 * 2 + r) = some b := by
  unfold cb
  rw [kn_eq, fl64 kn_64 2 r (by
    have := (List.getElem?_eq_some_iff.mp h).1
    exact this) KN_2 rfl]
  exact h
theorem kb_3 (r : Nat) {b : Nat} (h : KN_3[r]? = some b) : cb cL_law (64 * 3 + r) = some b := by
  unfold cb
  rw [kn_eq, fl64 kn_64 3 r (by
    have := (List.getElem?_eq_some_iff.mp h).1
    exact this) KN_3 rfl]
  exact h
theorem kb_4 (r : Nat) {b : Nat} (h : KN_4[r]? = some b) : cb cL_law (64 * 4 + r) = some b := by
  unfold cb
  rw [kn_eq, fl64 kn_64 4 r (by
    have := (List.getElem?_eq_some_iff.mp h).1
    exact this) KN_4 rfl]
  exact h
theorem kb_5 (r : Nat) {b : Nat} (h : KN_5[r]? = some b) : cb cL_law (64 * 5 + r) = some b := by
  unfold cb
  rw [kn_eq, fl64 kn_64 5 r (by
    have := (List.getElem?_eq_some_iff.mp h).1
    exact this) KN_5 rfl]
  exact h
theorem kb_6 (r : Nat) {b : Nat} (h : KN_6[r]? = some b) : cb cL_law (64 * 6 + r) = some b := by
  unfold cb
  rw [kn_eq, fl64 kn_64 6 r (by
    have := (List.getElem?_eq_some_iff.mp h).1
    exact this) KN_6 rfl]
  exact h
theorem kb_7 (r : Nat) {b : Nat} (h : KN_7[r]? = some b) : cb cL_law (64 * 7 + r) = some b := by
  unfold cb
  rw [kn_eq, fl64 kn_64 7 r (by
    have := (List.getElem?_eq_some_iff.mp h).1
    exact this) KN_7 rfl]
  exact h
theorem kb_8 (r : Nat) {b : Nat} (h : KN_8[r]? = some b) : cb cL_law (64 * 8 + r) = some b := by
  unfold cb
  rw [kn_eq, fl64 kn_64 8 r (by
    have := (List.getElem?_eq_some_iff.mp h).1
    exact this) KN_8 rfl]
  exact h
theorem kb_9 (r : Nat) {b : Nat} (h : KN_9[r]? = some b) : cb cL_law (64 * 9 + r) = some b := by
  unfold cb
  rw [kn_eq, fl64 kn_64 9 r (by
    have := (List.getElem?_eq_some_iff.mp h).1
    exact this) KN_9 rfl]
  exact h
theorem kb_10 (r : Nat) {b : Nat} (h : KN_10[r]? = some b) : cb cL_law (64 * 10 + r) = some b := by
  unfold cb
  rw [kn_eq, fl64 kn_64 10 r (by
    have := (List.getElem?_eq_some_iff.mp h).1
    exact this) KN_10 rfl]
  exact h
theorem kb_11 (r : Nat) {b : Nat} (h : KN_11[r]? = some b) : cb cL_law (64 * 11 + r) = some b := by
  unfold cb
  rw [kn_eq, fl64 kn_64 11 r (by
    have := (List.getElem?_eq_some_iff.mp h).1
    exact this) KN_11 rfl]
  exact h
theorem kb_12 (r : Nat) {b : Nat} (h : KN_12[r]? = some b) : cb cL_law (64 * 12 + r) = some b := by
  unfold cb
  rw [kn_eq, fl64 kn_64 12 r (by
    have := (List.getElem?_eq_some_iff.mp h).1
    exact this) KN_12 rfl]
  exact h
theorem kb_13 (r : Nat) {b : Nat} (h : KN_13[r]? = some b) : cb cL_law (64 * 13 + r) = some b := by
  unfold cb
  rw [kn_eq, fl64 kn_64 13 r (by
    have := (List.getElem?_eq_some_iff.mp h).1
    exact this) KN_13 rfl]
  exact h
theorem kb_14 (r : Nat) {b : Nat} (h : KN_14[r]? = some b) : cb cL_law (64 * 14 + r) = some b := by
  unfold cb
  rw [kn_eq, fl64 kn_64 14 r (by
    have := (List.getElem?_eq_some_iff.mp h).1
    exact this) KN_14 rfl]
  exact h
theorem kb_15 (r : Nat) {b : Nat} (h : KN_15[r]? = some b) : cb cL_law (64 * 15 + r) = some b := by
  unfold cb
  rw [kn_eq, fl64 kn_64 15 r (by
    have := (List.getElem?_eq_some_iff.mp h).1
    exact this) KN_15 rfl]
  exact h
theorem kb_16 (r : Nat) {b : Nat} (h : KN_16[r]? = some b) : cb cL_law (64 * 16 + r) = some b := by
  unfold cb
  rw [kn_eq, fl64 kn_64 16 r (by
    have := (List.getElem?_eq_some_iff.mp h).1
    exact this) KN_16 rfl]
  exact h
theorem kb_17 (r : Nat) {b : Nat} (h : KN_17[r]? = some b) : cb cL_law (64 * 17 + r) = some b := by
  unfold cb
  rw [kn_eq, fl64 kn_64 17 r (by
    have := (List.getElem?_eq_some_iff.mp h).1
    exact this) KN_17 rfl]
  exact h
theorem kb_18 (r : Nat) {b : Nat} (h : KN_18[r]? = some b) : cb cL_law (64 * 18 + r) = some b := by
  unfold cb
  rw [kn_eq, fl64 kn_64 18 r (by
    have := (List.getElem?_eq_some_iff.mp h).1
    exact this) KN_18 rfl]
  exact h
theorem kb_19 (r : Nat) {b : Nat} (h : KN_19[r]? = some b) : cb cL_law (64 * 19 + r) = some b := by
  unfold cb
  rw [kn_eq, fl64 kn_64 19 r (by
    have := (List.getElem?_eq_some_iff.mp h).1
    exact this) KN_19 rfl]
  exact h
theorem kb_20 (r : Nat) {b : Nat} (h : KN_20[r]? = some b) : cb cL_law (64 * 20 + r) = some b := by
  unfold cb
  rw [kn_eq, fl64 kn_64 20 r (by
    have := (List.getElem?_eq_some_iff.mp h).1
    exact this) KN_20 rfl]
  exact h
theorem kb_21 (r : Nat) {b : Nat} (h : KN_21[r]? = some b) : cb cL_law (64 * 21 + r) = some b := by
  unfold cb
  rw [kn_eq, fl64 kn_64 21 r (by
    have := (List.getElem?_eq_some_iff.mp h).1
    exact this) KN_21 rfl]
  exact h
theorem kb_22 (r : Nat) {b : Nat} (h : KN_22[r]? = some b) : cb cL_law (64 * 22 + r) = some b := by
  unfold cb
  rw [kn_eq, fl64 kn_64 22 r (by
    have := (List.getElem?_eq_some_iff.mp h).1
    exact this) KN_22 rfl]
  exact h
theorem kb_23 (r : Nat) {b : Nat} (h : KN_23[r]? = some b) : cb cL_law (64 * 23 + r) = some b := by
  unfold cb
  rw [kn_eq, fl64 kn_64 23 r (by
    have := (List.getElem?_eq_some_iff.mp h).1
    exact this) KN_23 rfl]
  exact h
theorem kb_24 (r : Nat) {b : Nat} (h : KN_24[r]? = some b) : cb cL_law (64 * 24 + r) = some b := by
  unfold cb
  rw [kn_eq, fl64 kn_64 24 r (by
    have := (List.getElem?_eq_some_iff.mp h).1
    exact this) KN_24 rfl]
  exact h
theorem kb_25 (r : Nat) {b : Nat} (h : KN_25[r]? = some b) : cb cL_law (64 * 25 + r) = some b := by
  unfold cb
  rw [kn_eq, fl64 kn_64 25 r (by
    have := (List.getElem?_eq_some_iff.mp h).1
    exact this) KN_25 rfl]
  exact h
theorem kb_26 (r : Nat) {b : Nat} (h : KN_26[r]? = some b) : cb cL_law (64 * 26 + r) = some b := by
  unfold cb
  rw [kn_eq, fl64 kn_64 26 r (by
    have := (List.getElem?_eq_some_iff.mp h).1
    exact this) KN_26 rfl]
  exact h
theorem kb_27 (r : Nat) {b : Nat} (h : KN_27[r]? = some b) : cb cL_law (64 * 27 + r) = some b := by
  unfold cb
  rw [kn_eq, fl64 kn_64 27 r (by
    have := (List.getElem?_eq_some_iff.mp h).1
    exact this) KN_27 rfl]
  exact h
theorem kb_28 (r : Nat) {b : Nat} (h : KN_28[r]? = some b) : cb cL_law (64 * 28 + r) = some b := by
  unfold cb
  rw [kn_eq, fl64 kn_64 28 r (by
    have := (List.getElem?_eq_some_iff.mp h).1
    exact this) KN_28 rfl]
  exact h
theorem kb_29 (r : Nat) {b : Nat} (h : KN_29[r]? = some b) : cb cL_law (64 * 29 + r) = some b := by
  unfold cb
  rw [kn_eq, fl64 kn_64 29 r (by
    have := (List.getElem?_eq_some_iff.mp h).1
    exact this) KN_29 rfl]
  exact h
theorem kb_30 (r : Nat) {b : Nat} (h : KN_30[r]? = some b) : cb cL_law (64 * 30 + r) = some b := by
  unfold cb
  rw [kn_eq, fl64 kn_64 30 r (by
    have := (List.getElem?_eq_some_iff.mp h).1
    exact this) KN_30 rfl]
  exact h
theorem kb_31 (r : Nat) {b : Nat} (h : KN_31[r]? = some b) : cb cL_law (64 * 31 + r) = some b := by
  unfold cb
  rw [kn_eq, fl64 kn_64 31 r (by
    have := (List.getElem?_eq_some_iff.mp h).1
    exact this) KN_31 rfl]
  exact h
theorem kb_32 (r : Nat) {b : Nat} (h : KN_32[r]? = some b) : cb cL_law (64 * 32 + r) = some b := by
  unfold cb
  rw [kn_eq, fl64 kn_64 32 r (by
    have := (List.getElem?_eq_some_iff.mp h).1
    exact this) KN_32 rfl]
  exact h
end PT_785
