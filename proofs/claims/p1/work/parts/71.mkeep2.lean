/-! ORDERS, SIEVES AND WINDOWS AGAINST THE MODEL'S -/
theorem inP_same {g h : Nat → Int32} {b : Nat} {x : Int32} : ∀ e, (∀ q, q < e → g q = h q) → inP g b x e = inP h b x e
  | 0, _ => rfl
  | e + 1, a => by
    show (if rkF b (g e) ≤ rkF b x then e + 1 else inP g b x e) = (if rkF b (h e) ≤ rkF b x then e + 1 else inP h b x e)
    rw [a e (by omega), inP_same e (fun q hq => a q (by omega))]
theorem in1_me {r : Nat → Nat → Int32} {j lo b e k : Nat} : in1 r j lo b e j k = if k = lo + inP (fun q => r j (lo + q)) b (r j (lo + e)) e then r j (lo + e) else if lo + inP (fun q => r j (lo + q)) b (r j (lo + e)) e < k ∧ k ≤ lo + e then r j (k - 1) else r j k := by
  show (if j = j ∧ k = lo + inP (fun q => r j (lo + q)) b (r j (lo + e)) e then r j (lo + e) else if j = j ∧ lo + inP (fun q => r j (lo + q)) b (r j (lo + e)) e < k ∧ k ≤ lo + e then r j (k - 1) else r j k) = _
  simp only [true_and]
theorem in1_ne {r : Nat → Nat → Int32} {j j' lo b e : Nat} (h : j' ≠ j) : in1 r j lo b e j' = r j' := by
  funext k
  show (if j' = j ∧ k = lo + inP (fun q => r j (lo + q)) b (r j (lo + e)) e then r j (lo + e) else if j' = j ∧ lo + inP (fun q => r j (lo + q)) b (r j (lo + e)) e < k ∧ k ≤ lo + e then r j (k - 1) else r j' k) = _
  rw [if_neg (fun z => h z.1), if_neg (fun z => h z.1)]
/-- the class's order is the model's -/
theorem so_lk {j lo b n : Nat} : ∀ (d e : Nat) (r : Nat → Nat → Int32) (A : Nat → Int32), (d = 0 ∨ e + d ≤ n) → (∀ t, t < n → r j (lo + t) = A t) →
    (∀ t, t < n → srF j lo b d e r j (lo + t) = soA b d e A t) ∧ (∀ j', j' ≠ j → srF j lo b d e r j' = r j') ∧ ∀ k, k < lo ∨ lo + n ≤ k → srF j lo b d e r j k = r j k
  | 0, _, _, _, _, hA => ⟨hA, fun _ _ => rfl, fun _ _ => rfl⟩
  | d + 1, e, r, A, he, hA => by
    have hen : e < n := by omega
    have hp : inP (fun q => r j (lo + q)) b (r j (lo + e)) e = inP A b (A e) e := by
      rw [hA e hen]
      exact inP_same e (fun q hq => hA q (by omega))
    have hpe := inP_le A b (A e) e
    obtain ⟨h1, h2, h3⟩ := so_lk (n := n) (b := b) d (e + 1) (in1 r j lo b e) (insA A e (inP A b (A e) e)) (by omega) (fun t ht => by
      rw [in1_me, hp]
      show _ = if t = inP A b (A e) e then A e else if inP A b (A e) e < t ∧ t ≤ e then A (t - 1) else A t
      by_cases e1 : t = inP A b (A e) e
      · rw [if_pos (show lo + t = lo + inP A b (A e) e by omega), if_pos e1, hA e hen]
      · rw [if_neg (show ¬ lo + t = lo + inP A b (A e) e by omega), if_neg e1]
        by_cases e2 : inP A b (A e) e < t ∧ t ≤ e
        · rw [if_pos (by omega), if_pos e2, show lo + t - 1 = lo + (t - 1) by omega]
          exact hA _ (by omega)
        · rw [if_neg (by omega), if_neg e2]
          exact hA t ht)
    refine ⟨h1, fun j' hj => (h2 j' hj).trans (in1_ne hj), fun k hk => (h3 k hk).trans ?_⟩
    rw [in1_me, hp]
    exact (if_neg (by omega)).trans (if_neg (by omega))
/-- the class's sieve is the model's -/
theorem siC_same {P P' : Int32 → Nat} {b : Nat} {g g' : Nat → Int32} (hP : ∀ x, P x = P' x) : ∀ d k c, (∀ q, k ≤ q → q < k + d → g q = g' q) → siC P b g d k c = siC P' b g' d k c
  | 0, _, _, _ => rfl
  | d + 1, k, c, h => by
    show (if P (g k) = b then siC P b g d (k + 1) (c + 1) else siC P b g d (k + 1) c) = (if P' (g' k) = b then siC P' b g' d (k + 1) (c + 1) else siC P' b g' d (k + 1) c)
    rw [hP, h k (by omega) (by omega), siC_same hP d (k + 1) (c + 1) (fun q a e => h q (by omega) (by omega)), siC_same hP d (k + 1) c (fun q a e => h q (by omega) (by omega))]
theorem siR_ne {P : Int32 → Nat} {b : Nat} {g : Nat → Int32} {js j : Nat} (hj : j ≠ js) : ∀ d k c (r : Nat → Nat → Int32), siR P b g js d k c r j = r j
  | 0, _, _, _ => rfl
  | d + 1, k, c, r => by
    show (if P (g k) = b then siR P b g js d (k + 1) (c + 1) (up2 r js c (g k)) else siR P b g js d (k + 1) c r) j = r j
    split
    · rw [siR_ne hj d (k + 1) (c + 1)]
      funext q
      exact up2_k _ _ _ _ hj
    · exact siR_ne hj d (k + 1) c r
theorem si_lk {P P' : Int32 → Nat} {b : Nat} {g g' : Nat → Int32} {js : Nat} (hP : ∀ x, P x = P' x) : ∀ d k c (r : Nat → Nat → Int32) (A : Nat → Int32), (∀ q, k ≤ q → q < k + d → g q = g' q) → (∀ t, t < c → r js t = A t) → ∀ t, t < siC P b g d k c → siR P b g js d k c r js t = siA P' b g' d k c A t
  | 0, _, _, _, _, _, hA => hA
  | d + 1, k, c, r, A, h, hA => by
    have hk := h k (by omega) (by omega)
    intro t ht
    show (if P (g k) = b then siR P b g js d (k + 1) (c + 1) (up2 r js c (g k)) else siR P b g js d (k + 1) c r) js t = (if P' (g' k) = b then siA P' b g' d (k + 1) (c + 1) (lgF A c (g' k)) else siA P' b g' d (k + 1) c A) t
    have ht' : t < (if P (g k) = b then siC P b g d (k + 1) (c + 1) else siC P b g d (k + 1) c) := ht
    rw [← hP, ← hk]
    by_cases hb : P (g k) = b
    · rw [if_pos hb] at ht' ⊢
      rw [if_pos hb]
      refine si_lk hP d (k + 1) (c + 1) _ _ (fun q a e => h q (by omega) (by omega)) (fun z hz => ?_) t ht'
      show (if js = js ∧ z = c then g k else r js z) = (if z = c then g k else if z < c then A z else 0)
      by_cases ez : z = c
      · rw [if_pos ⟨rfl, ez⟩, if_pos ez]
      · rw [if_neg (fun y => ez y.2), if_neg ez, if_pos (show z < c by omega)]
        exact hA z (by omega)
    · rw [if_neg hb] at ht' ⊢
      rw [if_neg hb]
      exact si_lk hP d (k + 1) c r A (fun q a e => h q (by omega) (by omega)) hA t ht'
theorem fpF_same {g h : Nat → Int32} {x : Int32} : ∀ d k, (∀ q, k ≤ q → q < k + d → g q = h q) → fpF g x d k = fpF h x d k
  | 0, _, _ => rfl
  | d + 1, k, a => by
    show (if g k = x then k else fpF g x d (k + 1)) = (if h k = x then k else fpF h x d (k + 1))
    rw [a k (by omega) (by omega), fpF_same d (k + 1) (fun q b c => a q (by omega) (by omega))]
section WK
variable {f hf M : Nat → Nat → Nat} {r hq : Nat → Nat → Int32}
theorem MR.fp (hC : CInv f) (hM : MR f r hf hq) {i : Nat} (hi : i < 4) (x : Int32) : fpF (fun q => r (f 0 i) (f 3 i + q)) x (f 4 i) 0 = fpF (hq i) x (hf 4 i) 0 := by
  have h := hC.rw hi
  rw [(hM.2.1 i hi).1]
  refine fpF_same _ _ (fun q _ b => ?_)
  show r (f 0 i) (f 3 i + q) = hq i q
  rw [h.1, h.2.2.2.1, Nat.zero_add]
  exact ((hM.2.1 i hi).2 q (by omega)).symm
theorem MR.hs (hC : CInv f) (hM : MR f r hf hq) {j : Nat} (hj : j < 4) (x : Int32) : hsP r f j x = hqP hq (hf 4 j) j x := by
  unfold hsP hqP
  rw [hM.fp hC hj]
theorem MR.rg (hC : CInv f) (hM : MR f r hf hq) {i : Nat} (hi : i < 4) : ∀ q, 0 ≤ q → q < 0 + f 4 i → (fun q => r (f 0 i) (f 3 i + q)) q = hq i q := fun q _ b => by
  have h := hC.rw hi
  show r (f 0 i) (f 3 i + q) = hq i q
  rw [h.1, h.2.2.2.1, Nat.zero_add]
  exact ((hM.2.1 i hi).2 q (by omega)).symm
theorem MR.sc (hC : CInv f) (hM : MR f r hf hq) {i j : Nat} (b : Nat) (hi : i < 4) (hj : j < 4) : siC (hqP hq (hf 4 j) j) b (hq i) (hf 4 i) 0 0 = siC (hsP r f j) b (fun q => r (f 0 i) (f 3 i + q)) (f 4 i) 0 0 := by
  rw [(hM.2.1 i hi).1]
  exact (siC_same (fun x => hM.hs hC hj x) _ _ _ (hM.rg hC hi)).symm
theorem MR.ib (hC : CInv f) (hM : MR f r hf hq) (hB : RB r) {w : Nat} (hw : w < 8) (h5w : f 5 w = 1) : ∀ j, IB (cutF (fun z => hq (f 1 w) (f 3 w + z)) (hf 4 w) j) := fun j => by
  have e := hM.wh hC hw h5w
  unfold cutF
  split
  · rename_i h
    show IB (hq (f 1 w) (f 3 w + j))
    rw [hM.it hC hw h5w (by omega)]
    exact hB _ _
  · exact ⟨by decide, by decide⟩
theorem MR.ct (hC : CInv f) (hM : MR f r hf hq) {w k : Nat} (hw : w < 8) (h5w : f 5 w = 1) (hk : k < f 4 w) : cutF (fun z => hq (f 1 w) (f 3 w + z)) (hf 4 w) k = r (f 0 w) (f 3 w + k) := by
  have e := hM.wh hC hw h5w
  rw [cutF_at (show k < hf 4 w by omega)]
  exact hM.it hC hw h5w hk
theorem MR.hb (hC : CInv f) (hM : MR f r hf hq) (hB : RB r) : ∀ i, i < 4 → ∀ k, k < hf 4 i → -99 ≤ (hq i k).toInt ∧ (hq i k).toInt ≤ 99 := fun i hi k hk => by
  have e := hM.2.1 i hi
  rw [e.2 k (by omega)]
  exact hB i k
/-- windows that go -/
theorem gwM_5 (hM : MR f r hf hq) {g x : Nat} (hg4 : 4 ≤ g) (hg : g < 8) (h5g : f 5 g = 1) (h4 : 4 ≤ x) (hx : x < 8) : dcF (up2 (gaF f hf g 4) 5 g 0) g 3 5 x = dmF f g 8 5 x := by
  show up2 (gaF f hf g 4) 5 g 0 5 x = _
  rw [dmF_5]
  by_cases e : x = g
  · subst e
    rw [up2_eq, if_pos ⟨h4, hx, by omega, by rw [hol_self hx]; decide⟩]
  · rw [up2_i _ _ _ _ e, gaF_v5, (hM.2.2.1 x h4 hx).1]
    by_cases h : f 5 x ≠ 0 ∧ hol f g x ≠ 0
    · rw [if_pos ⟨h4, by omega, e, h⟩, if_pos ⟨h4, hx, h⟩]
    · rw [if_neg (fun z => h ⟨z.2.2.2.1, z.2.2.2.2⟩), if_neg (fun z => h z.2.2)]
theorem gwM_9 (hC : CInv f) (hM : MR f r hf hq) {g k : Nat} (hg4 : 4 ≤ g) (hg : g < 8) (h5g : f 5 g = 1) (hk : k < 3) : dcF (up2 (gaF f hf g 4) 5 g 0) g 3 9 k = dmF f g 8 9 k := by
  show (if 9 = 9 ∧ k < 3 ∧ up2 (gaF f hf g 4) 5 g 0 6 k = g then 0 else up2 (gaF f hf g 4) 5 g 0 9 k) = _
  rw [up2_k _ _ _ _ (by decide), up2_k _ _ _ _ (by decide), gaF_vo (by decide) (by decide), gaF_v9, dmF_9, (hM.2.2.2 k hk).1]
  have hc := hC.cu hk
  by_cases h9 : f 9 k = 0
  · rw [h9]
    (repeat' split) <;> rfl
  · have e6 := ((hM.2.2.2 k hk).2.2 (by omega)).1
    rw [e6]
    by_cases e : f 6 k = g
    · rw [if_pos ⟨rfl, hk, e⟩, e, if_pos ⟨hk, hg4, hg, by omega, by rw [hol_self hg]; decide⟩]
    · rw [if_neg (fun z => e z.2.2)]
      by_cases h4 : 4 ≤ f 6 k
      · rw [(hM.2.2.1 (f 6 k) h4 hc.1).1]
        by_cases h : f 5 (f 6 k) ≠ 0 ∧ hol f g (f 6 k) ≠ 0
        · rw [if_pos ⟨hk, h4, by omega, e, h⟩, if_pos ⟨hk, h4, hc.1, h⟩]
        · rw [if_neg (fun z => h ⟨z.2.2.2.2.1, z.2.2.2.2.2⟩), if_neg (fun z => h ⟨z.2.2.2.1, z.2.2.2.2⟩)]
      · rw [if_neg (fun z => h4 z.2.1), if_neg (fun z => h4 z.2.1)]
theorem gwM_o {g fl i : Nat} (h5 : fl ≠ 5) (h9 : fl ≠ 9) : dcF (up2 (gaF f hf g 4) 5 g 0) g 3 fl i = hf fl i := by
  unfold dcF
  rw [if_neg (fun z => h9 z.1), up2_k _ _ _ _ h5, gaF_vo h5 h9]
theorem dmF_le1 {g i : Nat} (h : dmF f g 8 5 i = 1) : f 5 i = 1 := by
  rw [dmF_5] at h
  split at h
  · exact absurd h (by decide)
  · exact h
theorem dmF_le9 {g i : Nat} (h : dmF f g 8 9 i = 1) : f 9 i = 1 := by
  rw [dmF_9] at h
  split at h
  · exact absurd h (by decide)
  · exact h
theorem MR_close (hC : CInv f) (hM : MR f r hf hq) {g : Nat} (hg4 : 4 ≤ g) (hg : g < 8) (h5g : f 5 g = 1) : MR (dmF f g 8) r (dcF (up2 (gaF f hf g 4) 5 g 0) g 3) hq := by
  refine MR_by hM (fun x h4x hx => ⟨gwM_5 hM hg4 hg h5g h4x hx, dmF_le1⟩) (fun i => ⟨dmF_o _ _ _ _ (by decide) (by decide), dmF_o _ _ _ _ (by decide) (by decide), gwM_o (by decide) (by decide), gwM_o (by decide) (by decide)⟩) (fun x h4x hx h5 => ?_) (fun i hi => ?_) (fun k hk => ⟨gwM_9 hC hM hg4 hg h5g hk, dmF_le9⟩)
    (fun k hk => ⟨dmF_o _ _ _ _ (by decide) (by decide), dmF_o _ _ _ _ (by decide) (by decide), dmF_o _ _ _ _ (by decide) (by decide), gwM_o (by decide) (by decide), gwM_o (by decide) (by decide), gwM_o (by decide) (by decide)⟩)
  · rw [gwM_o (by decide) (by decide), dmF_o _ _ _ _ (by decide) (by decide)]
    exact (hM.2.2.1 x h4x hx).2.2 (dmF_le1 h5)
  · rw [gwM_o (by decide) (by decide), dmF_o _ _ _ _ (by decide) (by decide)]
    exact hM.2.1 i hi
/-- a window that is laid over w -/
theorem MR_win {g w p q : Nat} (hC : CInv f) (hM : MR f r hf hq) (hg4 : 4 ≤ g) (hg : g < 8) (hw : w < 8) (h5w : f 5 w = 1) (hh : hol f g w = 0) (a5 : ∀ x, 4 ≤ x → x < 8 → x ≠ g → M 5 x = dmF f g 8 5 x) (a9 : ∀ k, k < 3 → M 9 k = dmF f g 8 9 k) (ao : ∀ fl i, fl ≠ 5 → fl ≠ 9 → M fl i = hf fl i) :
    MR (up2 (up2 (up2 (up2 (up2 (up2 (dmF f g 8) 0 g (f 0 w)) 1 g (f 1 w)) 2 g w) 3 g (f 3 w + p)) 4 g (q - p)) 5 g 1) r (up2 (up2 (up2 (up2 M 5 g 1) 2 g w) 3 g p) 4 g (q - p)) hq := by
  have hwg := hol_me hw hh
  have u : ∀ fl x, x ≠ g → up2 (up2 (up2 (up2 (up2 (up2 (dmF f g 8) 0 g (f 0 w)) 1 g (f 1 w)) 2 g w) 3 g (f 3 w + p)) 4 g (q - p)) 5 g 1 fl x = dmF f g 8 fl x := fun fl x hx => by
    rw [up2_i _ _ _ _ hx, up2_i _ _ _ _ hx, up2_i _ _ _ _ hx, up2_i _ _ _ _ hx, up2_i _ _ _ _ hx, up2_i _ _ _ _ hx]
  have v : ∀ fl x, x ≠ g → up2 (up2 (up2 (up2 M 5 g 1) 2 g w) 3 g p) 4 g (q - p) fl x = M fl x := fun fl x hx => by
    rw [up2_i _ _ _ _ hx, up2_i _ _ _ _ hx, up2_i _ _ _ _ hx, up2_i _ _ _ _ hx]
  have u6 : ∀ fl x, 5 < fl → up2 (up2 (up2 (up2 (up2 (up2 (dmF f g 8) 0 g (f 0 w)) 1 g (f 1 w)) 2 g w) 3 g (f 3 w + p)) 4 g (q - p)) 5 g 1 fl x = dmF f g 8 fl x := fun fl x hx => by
    rw [up2_k _ _ _ _ (by omega), up2_k _ _ _ _ (by omega), up2_k _ _ _ _ (by omega), up2_k _ _ _ _ (by omega), up2_k _ _ _ _ (by omega), up2_k _ _ _ _ (by omega)]
  have v6 : ∀ fl x, 5 < fl → up2 (up2 (up2 (up2 M 5 g 1) 2 g w) 3 g p) 4 g (q - p) fl x = M fl x := fun fl x hx => by
    rw [up2_k _ _ _ _ (by omega), up2_k _ _ _ _ (by omega), up2_k _ _ _ _ (by omega), up2_k _ _ _ _ (by omega)]
  refine MR_byG (G := g) hM (fun x h4x hx => ?_) (fun x h4x hx hxg => ?_) (fun _ _ => ?_) (fun i hi => ?_) (fun k hk => ?_) (fun k hk => ?_)
  · by_cases e : x = g
    · subst e
      rw [up2_k _ _ _ _ (show 5 ≠ 4 by decide), up2_k _ _ _ _ (show 5 ≠ 3 by decide), up2_k _ _ _ _ (show 5 ≠ 2 by decide), up2_eq, up2_eq]
    · rw [u 5 x e, v 5 x e]
      exact a5 x h4x hx e
  · refine ⟨fun z => dmF_le1 ((u 5 x hxg).symm.trans z), (u 2 x hxg).trans (dmF_o _ _ _ _ (by decide) (by decide)), (u 3 x hxg).trans (dmF_o _ _ _ _ (by decide) (by decide)), (v 2 x hxg).trans (ao _ _ (by decide) (by decide)), (v 3 x hxg).trans (ao _ _ (by decide) (by decide)), fun z => ?_, fun z => ?_⟩
    · have z1 := (u 5 x hxg).symm.trans z
      have z2 := dmF_t hC hg4 hx z1
      have z3 := hC.hd h4x hx z2.1 z2.2
      have z4 := hC.wi h4x hx z2.1
      exact (u 3 _ (hol_me z4.1 z3.2)).trans (dmF_o _ _ _ _ (by decide) (by decide))
    · have z1 := dmF_le1 ((u 5 x hxg).symm.trans z)
      rw [u 4 x hxg, v 4 x hxg, ao _ _ (by decide) (by decide), dmF_o _ _ _ _ (by decide) (by decide)]
      exact (hM.2.2.1 x h4x hx).2.2 z1
  · have b2 : up2 (up2 (up2 (up2 M 5 g 1) 2 g w) 3 g p) 4 g (q - p) 2 g = w := by
      rw [up2_k _ _ _ _ (show 2 ≠ 4 by decide), up2_k _ _ _ _ (show 2 ≠ 3 by decide), up2_eq]
    have b3 : up2 (up2 (up2 (up2 M 5 g 1) 2 g w) 3 g p) 4 g (q - p) 3 g = p := by
      rw [up2_k _ _ _ _ (show 3 ≠ 4 by decide), up2_eq]
    have c2 : up2 (up2 (up2 (up2 (up2 (up2 (dmF f g 8) 0 g (f 0 w)) 1 g (f 1 w)) 2 g w) 3 g (f 3 w + p)) 4 g (q - p)) 5 g 1 2 g = w := by
      rw [up2_k _ _ _ _ (show 2 ≠ 5 by decide), up2_k _ _ _ _ (show 2 ≠ 4 by decide), up2_k _ _ _ _ (show 2 ≠ 3 by decide), up2_eq]
    have c3 : up2 (up2 (up2 (up2 (up2 (up2 (dmF f g 8) 0 g (f 0 w)) 1 g (f 1 w)) 2 g w) 3 g (f 3 w + p)) 4 g (q - p)) 5 g 1 3 g = f 3 w + p := by
      rw [up2_k _ _ _ _ (show 3 ≠ 5 by decide), up2_k _ _ _ _ (show 3 ≠ 4 by decide), up2_eq]
    have c4 : up2 (up2 (up2 (up2 (up2 (up2 (dmF f g 8) 0 g (f 0 w)) 1 g (f 1 w)) 2 g w) 3 g (f 3 w + p)) 4 g (q - p)) 5 g 1 4 g = q - p := by
      rw [up2_k _ _ _ _ (show 4 ≠ 5 by decide), up2_eq]
    rw [b2, b3, c2, c3, c4, up2_eq, u 3 w hwg, dmF_o _ _ _ _ (by decide) (by decide)]
    exact ⟨hw, fun _ => ⟨rfl, rfl, by rw [up2_eq]⟩⟩
  · have hig : i ≠ g := by omega
    rw [u 4 i hig, v 4 i hig, ao _ _ (by decide) (by decide), dmF_o _ _ _ _ (by decide) (by decide)]
    exact hM.2.1 i hi
  · rw [u6 9 k (by decide), v6 9 k (by decide)]
    exact ⟨a9 k hk, dmF_le9⟩
  · rw [u6 6 k (by decide), u6 7 k (by decide), u6 8 k (by decide), v6 6 k (by decide), v6 7 k (by decide), v6 8 k (by decide)]
    exact ⟨dmF_o _ _ _ _ (by decide) (by decide), dmF_o _ _ _ _ (by decide) (by decide), dmF_o _ _ _ _ (by decide) (by decide), ao _ _ (by decide) (by decide), ao _ _ (by decide) (by decide), ao _ _ (by decide) (by decide)⟩
theorem MR_winn {g w p q : Nat} (hC : CInv f) (hM : MR f r hf hq) (hg4 : 4 ≤ g) (hg : g < 8) (hw : w < 8) (h5w : f 5 w = 1) (hh : hol f g w = 0) (hz : f 5 g = 0) :
    MR (up2 (up2 (up2 (up2 (up2 (up2 (dmF f g 8) 0 g (f 0 w)) 1 g (f 1 w)) 2 g w) 3 g (f 3 w + p)) 4 g (q - p)) 5 g 1) r (up2 (up2 (up2 (up2 hf 5 g 1) 2 g w) 3 g p) 4 g (q - p)) hq := by
  refine MR_win hC hM hg4 hg hw h5w hh (fun x h4x hx hxg => ?_) (fun k hk => ?_) (fun _ _ _ _ => rfl)
  · rw [dmF_5, if_neg (fun z => by
      have := hC.ho z.2.1 (by have := hC.h5 x hx; omega) z.2.2.2
      omega)]
    exact (hM.2.2.1 x h4x hx).1
  · rw [dmF_9, if_neg (fun z => by
      have h1 := hC.h5 (f 6 k) z.2.2.1
      have := hC.ho z.2.2.1 (by omega) z.2.2.2.2
      omega)]
    exact (hM.2.2.2 k hk).1
theorem MR_winy {g w p q : Nat} (hC : CInv f) (hM : MR f r hf hq) (hg4 : 4 ≤ g) (hg : g < 8) (hw : w < 8) (h5w : f 5 w = 1) (hh : hol f g w = 0) (hz : f 5 g = 1) :
    MR (up2 (up2 (up2 (up2 (up2 (up2 (dmF f g 8) 0 g (f 0 w)) 1 g (f 1 w)) 2 g w) 3 g (f 3 w + p)) 4 g (q - p)) 5 g 1) r (up2 (up2 (up2 (up2 (dcF (up2 (gaF f hf g 4) 5 g 0) g 3) 5 g 1) 2 g w) 3 g p) 4 g (q - p)) hq :=
  MR_win hC hM hg4 hg hw h5w hh (fun x h4x hx _ => gwM_5 hM hg4 hg hz h4x hx) (fun k hk => gwM_9 hC hM hg4 hg hz hk) (fun _ _ a b => gwM_o a b)
end WK
