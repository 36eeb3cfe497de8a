/-! WHAT THE CLASS'S OWN HELPERS COMPUTE -/
section EQI
variable {p : Program} {l : Launch} {e : Env} {R : Room} {s : State} {m : MethodId} {args : Array Value} {below : List Frame} {meth : Method} {c : Code} {D : va_G} {cl : List vw_C} {A : Nat → Prop} {Q : State → Prop} {nL cells slots : Nat} {w : va_W} {lv : List (Option Value)} {pc : Nat} {st : List Value}
theorem r_eqi {x y : Int32} (h : x = y) (kk : vW p l e R s m args below meth c D cl A Q nL cells slots w lv pc (.int y :: st)) : vW p l e R s m args below meth c D cl A Q nL cells slots w lv pc (.int x :: st) := h ▸ kk
end EQI
theorem nI_adj {a b c : Nat} (h : c ≤ a + b) : nI a + (nI b - nI c) = nI (a + b - c) := by
  rw [← pk_sub h, ← nI_add]
  apply Int32.toBitVec_inj.mp
  simp only [Int32.toBitVec_add, Int32.toBitVec_sub]
  rw [BitVec.sub_eq_add_neg, BitVec.sub_eq_add_neg, BitVec.add_assoc]
def okI (x : Int32) : Prop := ¬ x < nI 4294967197 ∧ ¬ nI 99 < x
/-- 1 if h is met on the way from w along the grounds g, in d steps -/
def hlC (g : Nat → Nat) (h : Nat) : Nat → Nat → Nat
  | 0, _ => 0
  | d + 1, w => if w = 4294967295 then 0 else if w = h then 1 else hlC g h d (g w)
def hol (f : Nat → Nat → Nat) (h w : Nat) : Nat := hlC (f 2) h 8 w
theorem hlC_le (g : Nat → Nat) (h : Nat) : ∀ d w, hlC g h d w ≤ 1
  | 0, _ => Nat.zero_le 1
  | d + 1, w => by
    unfold hlC
    split
    · exact Nat.zero_le 1
    · split
      · exact Nat.le_refl 1
      · exact hlC_le g h d (g w)
theorem hol_le (f : Nat → Nat → Nat) (h w : Nat) : hol f h w ≤ 1 := hlC_le _ _ _ _
/-- cursors below k of the row of w are gone, but d -/
def stU (f : Nat → Nat → Nat) (w d k : Nat) : Nat → Nat → Nat := fun fl i => if fl = 9 ∧ i < k ∧ i ≠ d ∧ f 1 (f 6 i) = f 1 w then 0 else f fl i
theorem stU_0 (f : Nat → Nat → Nat) (w d : Nat) : stU f w d 0 = f := by
  funext fl i
  unfold stU
  rw [if_neg (by omega)]
theorem stU_yes {f : Nat → Nat → Nat} {w d k : Nat} (h : k ≠ d) (h2 : f 1 (f 6 k) = f 1 w) : up2 (stU f w d k) 9 k 0 = stU f w d (k + 1) := by
  funext fl i
  by_cases hi : i = k
  · subst hi
    simp +decide only [up2, stU, and_true, true_and, false_and, if_false, not_true_eq_false, and_false]
    repeat' split
    all_goals first | rfl | (exfalso; omega)
  · simp +decide only [up2, stU, and_true, true_and, false_and, if_false, not_true_eq_false, and_false]
    repeat' split
    all_goals first | rfl | (exfalso; omega)
theorem stU_no {f : Nat → Nat → Nat} {w d k : Nat} (h : k = d ∨ f 1 (f 6 k) ≠ f 1 w) : stU f w d k = stU f w d (k + 1) := by
  funext fl i
  by_cases hi : i = k
  · subst hi
    simp +decide only [stU, and_true, true_and, false_and, if_false, not_true_eq_false, and_false]
    repeat' split
    all_goals first | rfl | (exfalso; omega)
  · simp +decide only [stU, and_true, true_and, false_and, if_false, not_true_eq_false, and_false]
    repeat' split
    all_goals first | rfl | (exfalso; omega)
/-- windows below k of the row of w are gone, but its holders -/
def stW (f : Nat → Nat → Nat) (w k : Nat) : Nat → Nat → Nat := fun fl i => if fl = 5 ∧ 4 ≤ i ∧ i < k ∧ f 1 i = f 1 w ∧ hol f i w = 0 then 0 else f fl i
theorem stW_0 (f : Nat → Nat → Nat) (w : Nat) : stW f w 4 = f := by
  funext fl i
  unfold stW
  rw [if_neg (by omega)]
theorem stW_yes {f : Nat → Nat → Nat} {w k : Nat} (h4 : 4 ≤ k) (h : f 1 k = f 1 w) (h2 : hol f k w = 0) : up2 (stW f w k) 5 k 0 = stW f w (k + 1) := by
  funext fl i
  by_cases hi : i = k
  · subst hi
    simp +decide only [up2, stW, and_true, true_and, false_and, if_false, not_true_eq_false, and_false]
    repeat' split
    all_goals first | rfl | (exfalso; omega)
  · simp +decide only [up2, stW, and_true, true_and, false_and, if_false, not_true_eq_false, and_false]
    repeat' split
    all_goals first | rfl | (exfalso; omega)
theorem stW_no {f : Nat → Nat → Nat} {w k : Nat} (h : f 1 k ≠ f 1 w ∨ hol f k w ≠ 0) : stW f w k = stW f w (k + 1) := by
  funext fl i
  by_cases hi : i = k
  · subst hi
    simp +decide only [stW, and_true, true_and, false_and, if_false, not_true_eq_false, and_false]
    repeat' split
    all_goals first | rfl | (exfalso; omega)
  · simp +decide only [stW, and_true, true_and, false_and, if_false, not_true_eq_false, and_false]
    repeat' split
    all_goals first | rfl | (exfalso; omega)
def settleF (f : Nat → Nat → Nat) (w d : Nat) : Nat → Nat → Nat := stW (stU f w d 3) w 8
/-- holders below k of w have c more, g less -/
def exL (f : Nat → Nat → Nat) (w c g k : Nat) : Nat → Nat → Nat := fun fl i => if fl = 4 ∧ i < k ∧ hol f i w ≠ 0 then f 4 i + c - g else f fl i
theorem exL_0 (f : Nat → Nat → Nat) (w c g : Nat) : exL f w c g 0 = f := by
  funext fl i
  unfold exL
  rw [if_neg (by omega)]
theorem exL_yes {f : Nat → Nat → Nat} {w c g k : Nat} (h : hol f k w ≠ 0) : up2 (exL f w c g k) 4 k (f 4 k + c - g) = exL f w c g (k + 1) := by
  funext fl i
  by_cases hi : i = k
  · subst hi
    simp +decide only [up2, exL, and_true, true_and, false_and, if_false, not_true_eq_false, and_false]
    repeat' split
    all_goals first | rfl | (exfalso; omega)
  · simp +decide only [up2, exL, and_true, true_and, false_and, if_false, not_true_eq_false, and_false]
    repeat' split
    all_goals first | rfl | (exfalso; omega)
theorem exL_no {f : Nat → Nat → Nat} {w c g k : Nat} (h : hol f k w = 0) : exL f w c g k = exL f w c g (k + 1) := by
  funext fl i
  by_cases hi : i = k
  · subst hi
    simp +decide only [exL, and_true, true_and, false_and, if_false, not_true_eq_false, and_false]
    repeat' split
    all_goals first | rfl | (exfalso; omega)
  · simp +decide only [exL, and_true, true_and, false_and, if_false, not_true_eq_false, and_false]
    repeat' split
    all_goals first | rfl | (exfalso; omega)
theorem exL_at {f : Nat → Nat → Nat} {w c g k : Nat} : exL f w c g k 4 k = f 4 k := by
  unfold exL
  rw [if_neg (by omega)]
/-- the items of the row behind an exchange -/
def exR (f : Nat → Nat → Nat) (r : Nat → Nat → Int32) (w p q c : Nat) : Nat → Nat → Int32 := cpy2 (cpy2 r (f 0 (f 1 w)) (f 3 w + q) (f 0 (f 1 w)) (f 3 w + p + c) (f 4 (f 1 w) - (f 3 w + q))) (f 0 8) 0 (f 0 (f 1 w)) (f 3 w + p) c
/-- cursors over w are gone -/
def dcF (f : Nat → Nat → Nat) (w k : Nat) : Nat → Nat → Nat := fun fl i => if fl = 9 ∧ i < k ∧ f 6 i = w then 0 else f fl i
theorem dcF_0 (f : Nat → Nat → Nat) (w : Nat) : dcF f w 0 = f := by
  funext fl i
  unfold dcF
  rw [if_neg (by omega)]
theorem dcF_yes {f : Nat → Nat → Nat} {w k : Nat} (h : f 6 k = w) : up2 (dcF f w k) 9 k 0 = dcF f w (k + 1) := by
  funext fl i
  by_cases hi : i = k
  · subst hi
    simp +decide only [up2, dcF, and_true, true_and, false_and, if_false, not_true_eq_false, and_false]
    repeat' split
    all_goals first | rfl | (exfalso; omega)
  · simp +decide only [up2, dcF, and_true, true_and, false_and, if_false, not_true_eq_false, and_false]
    repeat' split
    all_goals first | rfl | (exfalso; omega)
theorem dcF_no {f : Nat → Nat → Nat} {w k : Nat} (h : f 6 k ≠ w) : dcF f w k = dcF f w (k + 1) := by
  funext fl i
  by_cases hi : i = k
  · subst hi
    simp +decide only [dcF, and_true, true_and, false_and, if_false, not_true_eq_false, and_false]
    repeat' split
    all_goals first | rfl | (exfalso; omega)
  · simp +decide only [dcF, and_true, true_and, false_and, if_false, not_true_eq_false, and_false]
    repeat' split
    all_goals first | rfl | (exfalso; omega)
/-- windows below k that have g as a holder are gone, and the cursors over them -/
def dmF (f : Nat → Nat → Nat) (g k : Nat) : Nat → Nat → Nat := fun fl i => if fl = 5 ∧ 4 ≤ i ∧ i < k ∧ f 5 i ≠ 0 ∧ hol f g i ≠ 0 then 0 else if fl = 9 ∧ i < 3 ∧ 4 ≤ f 6 i ∧ f 6 i < k ∧ f 5 (f 6 i) ≠ 0 ∧ hol f g (f 6 i) ≠ 0 then 0 else f fl i
theorem dmF_0 (f : Nat → Nat → Nat) (g : Nat) : dmF f g 4 = f := by
  funext fl i
  unfold dmF
  rw [if_neg (by omega), if_neg (by omega)]
theorem dmF_yes {f : Nat → Nat → Nat} {g k : Nat} (h4 : 4 ≤ k) (h : f 5 k ≠ 0) (h2 : hol f g k ≠ 0) : dcF (up2 (dmF f g k) 5 k 0) k 3 = dmF f g (k + 1) := by
  funext fl i
  by_cases hf5 : fl = 5
  · subst hf5
    by_cases hi : i = k
    · subst hi
      simp +decide only [dcF, up2, dmF, and_true, true_and, false_and, if_false, not_true_eq_false, and_false]
      repeat' split
      all_goals first | rfl | (exfalso; omega) | (exfalso; simp_all; done)
    · simp +decide only [dcF, up2, dmF, and_true, true_and, false_and, if_false, not_true_eq_false, and_false]
      repeat' split
      all_goals first | rfl | (exfalso; omega)
  · by_cases hi : f 6 i = k
    · subst hi
      simp +decide only [dcF, up2, dmF, and_true, true_and, false_and, if_false, not_true_eq_false, and_false]
      repeat' split
      all_goals first | rfl | (exfalso; omega)
    · simp +decide only [dcF, up2, dmF, and_true, true_and, false_and, if_false, not_true_eq_false, and_false]
      repeat' split
      all_goals first | rfl | (exfalso; omega)
theorem dmF_no {f : Nat → Nat → Nat} {g k : Nat} (h : f 5 k = 0 ∨ hol f g k = 0) : dmF f g k = dmF f g (k + 1) := by
  funext fl i
  by_cases hi : i = k
  · subst hi
    by_cases hj : f 6 i = i
    · simp +decide only [dmF, hj, and_true, true_and, false_and, if_false, not_true_eq_false, and_false]
      repeat' split
      all_goals first | rfl | (exfalso; omega)
    · simp +decide only [dmF, and_true, true_and, false_and, if_false, not_true_eq_false, and_false]
      repeat' split
      all_goals first | rfl | (exfalso; omega)
  · by_cases hj : f 6 i = k
    · subst hj
      simp +decide only [dmF, and_true, true_and, false_and, if_false, not_true_eq_false, and_false]
      repeat' split
      all_goals first | rfl | (exfalso; omega)
    · simp +decide only [dmF, and_true, true_and, false_and, if_false, not_true_eq_false, and_false]
      repeat' split
      all_goals first | rfl | (exfalso; omega)
theorem dmF_at {f : Nat → Nat → Nat} {g k : Nat} : dmF f g k 5 k = f 5 k := by
  unfold dmF
  rw [if_neg (by omega), if_neg (by omega)]
def smF (v : Nat → Nat) : Nat → Nat → Nat → Nat
  | 0, _, z => z
  | d + 1, k, z => smF v d (k + 1) (z + v k)
theorem up2_up2 {α : Type} (f : Nat → Nat → α) (k i : Nat) (v v' : α) : up2 (up2 f k i v) k i v' = up2 f k i v' := by
  funext k' i'
  simp only [up2]
  split <;> rfl
/-- how many of d items from k on are kept (those of which P tells b), and where they lie in the array js -/
def siC (P : Int32 → Nat) (b : Nat) (g : Nat → Int32) : Nat → Nat → Nat → Nat
  | 0, _, c => c
  | d + 1, k, c => if P (g k) = b then siC P b g d (k + 1) (c + 1) else siC P b g d (k + 1) c
def siR (P : Int32 → Nat) (b : Nat) (g : Nat → Int32) (js : Nat) : Nat → Nat → Nat → (Nat → Nat → Int32) → (Nat → Nat → Int32)
  | 0, _, _, r => r
  | d + 1, k, c, r => if P (g k) = b then siR P b g js d (k + 1) (c + 1) (up2 r js c (g k)) else siR P b g js d (k + 1) c r
theorem siC_le (P : Int32 → Nat) (b : Nat) (g : Nat → Int32) : ∀ d k c, c ≤ siC P b g d k c ∧ siC P b g d k c ≤ c + d
  | 0, _, c => by simp [siC]
  | d + 1, k, c => by
    unfold siC
    split
    · have := siC_le P b g d (k + 1) (c + 1)
      omega
    · have := siC_le P b g d (k + 1) c
      omega
def hsP (r : Nat → Nat → Int32) (f : Nat → Nat → Nat) (j : Nat) (x : Int32) : Nat := if fpF (fun q => r (f 0 j) (f 3 j + q)) x (f 4 j) 0 = 4294967295 then 0 else 1
theorem up2_off {r r0 : Nat → Nat → Int32} {js c : Nat} {x : Int32} (h : ∀ j, j ≠ js → r j = r0 j) : ∀ j, j ≠ js → up2 r js c x j = r0 j := fun j hj => by
  rw [← h j hj]
  funext q
  simp [up2, hj]
