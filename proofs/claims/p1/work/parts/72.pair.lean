/-! THE CLASS'S CALL BESIDE THE MODEL'S -/
theorem w_dec (f : Nat → Nat → Nat) (x : Int32) : noW f x ∨ ∃ w, w < 8 ∧ f 5 w = 1 ∧ x = nI w := by
  by_cases h : ∃ w, w < 8 ∧ x = nI w ∧ f 5 w = 1
  · obtain ⟨w, a, b, d⟩ := h
    exact Or.inr ⟨w, a, d, b⟩
  · exact Or.inl h
theorem n_dec {n : Nat} (hn : n < 2147483648) (x : Int32) : ¬ (0 ≤ x ∧ x < nI n) ∨ ∃ j, j < n ∧ x = nI j := by
  by_cases h : 0 ≤ x ∧ x < nI n
  · exact Or.inr (in_of hn h)
  · exact Or.inl h
theorem l_dec {n : Nat} (hn : n < 2147483647) (x : Int32) : ¬ (0 ≤ x ∧ x ≤ nI n) ∨ ∃ j, j ≤ n ∧ x = nI j := by
  by_cases h : 0 ≤ x ∧ x ≤ nI n
  · have h2 : 0 ≤ x ∧ x < nI (n + 1) := by
      refine ⟨h.1, ?_⟩
      have h3 := h.2
      rw [Int32.le_iff_toInt_le, nI_toInt (by omega)] at h3
      rw [Int32.lt_iff_toInt_lt, nI_toInt (by omega)]
      omega
    obtain ⟨j, hj, e⟩ := in_of (by omega) h2
    exact Or.inr ⟨j, by omega, e⟩
  · exact Or.inl h
theorem s_dec {n : Nat} (hn : n < 2147483647) (x y : Int32) : ¬ (0 ≤ x ∧ x ≤ y ∧ y ≤ nI n) ∨ ∃ p q, p ≤ q ∧ q ≤ n ∧ x = nI p ∧ y = nI q := by
  by_cases h : 0 ≤ x ∧ x ≤ y ∧ y ≤ nI n
  · obtain ⟨h1, h2, h3⟩ := h
    have hx : 0 ≤ x ∧ x ≤ nI n := ⟨h1, Int32.le_trans h2 h3⟩
    have hy : 0 ≤ y ∧ y ≤ nI n := ⟨Int32.le_trans h1 h2, h3⟩
    rcases l_dec hn x with g | ⟨p, hp, rfl⟩
    · exact absurd hx g
    · rcases l_dec hn y with g | ⟨q, hq, rfl⟩
      · exact absurd hy g
      · refine Or.inr ⟨p, q, ?_, hq, rfl, rfl⟩
        rw [Int32.le_iff_toInt_le, nI_toInt (by omega), nI_toInt (by omega)] at h2
        omega
  · exact Or.inl h
/-- the class's call throws where the model notes it; or both answer alike and go on alike -/
def PR (l : Launch) (D : va_G) (cy : Nat → ClassId) (X : (Nat → Prop) → State → Heap → Prop) (a : Nat → Nat → Nat) (ba ra : Nat → Nat) (f : Nat → Nat → Nat) (r : Nat → Nat → Int32) (hf : Nat → Nat → Nat) (hq : Nat → Nat → Int32) (kn th : Int32) (sm : Int64)
    (y2 : MethodName) (c2 : ByteArray) (m2 : Nat) (r2 : Option FieldType) (y4 : MethodName) (c4 : ByteArray) (m4 : Nat) (r4 : Option FieldType) (R4 : Room) (xs : List Value) (tab : List (String × Nat)) : Prop :=
  (∃ (E : String) (k : Nat), (E, k) ∈ tab ∧ (∀ Y : va_W, Ce l D cy X y2 c2 m2 r2 (rmk 8 1 6 170) (.ref (a 0 0) :: xs) (WC cy a f r kn ++ Y) E) ∧
      ∀ Y : va_W, Cd l D cy X y4 c4 m4 r4 R4 (.ref (ba 9) :: xs) (WM cy ba ra hf hq kn th sm ++ Y) (some (.int (nI 0))) (WM cy ba ra hf hq kn (nI k) sm ++ Y)) ∨
  ∃ (f' : Nat → Nat → Nat) (r' : Nat → Nat → Int32) (hf' : Nat → Nat → Nat) (hq' : Nat → Nat → Int32) (n : Int32), CInv f' ∧ RB r' ∧ MR f' r' hf' hq' ∧
    (∀ Y : va_W, Cd l D cy X y2 c2 m2 r2 (rmz 6 240) (.ref (a 0 0) :: xs) (WC cy a f r kn ++ Y) (some (.int n)) (WC cy a f' r' kn ++ Y)) ∧
    ∀ Y : va_W, Cm l D cy X y4 c4 m4 r4 R4 (.ref (ba 9) :: xs) (WM cy ba ra hf hq kn th sm ++ Y) (fun v1 w1 => ∃ ra9 : Nat → Nat, v1 = some (.int n) ∧ w1 = WM cy ba ra9 hf' hq' kn (nI 0) sm ++ Y) (fun _ => False)
theorem Cm.wide {l : Launch} {D : va_G} {cy : Nat → ClassId} {X : (Nat → Prop) → State → Heap → Prop} {y : MethodName} {cc : ByteArray} {maxL : Nat} {ret : Option FieldType} {rm rm' : Room} {av : List Value} {w : va_W} {post : Option Value → va_W → Prop} {px : String → Prop} (h : Cm l D cy X y cc maxL ret rm av w post px) (hr : rm.frames ≤ rm'.frames ∧ rm.cells ≤ rm'.cells ∧ rm.slots ≤ rm'.slots ∧ rm.locals ≤ rm'.locals) : Cm l D cy X y cc maxL ret rm' av w post px := by
  intro sz p e ha hc hk s m args below hf happ hP hK
  obtain ⟨r1, r2, r3, r4⟩ := hr
  have happ2 : (headSpec (Cond.code y cc maxL ret :: GW) rm).appliesLoose y e.platform s = true := by
    rw [Spec.appliesLoose_iff hf] at happ ⊢
    obtain ⟨a1, a2, a3, a4, a5, a6, a7, a8⟩ := happ
    refine ⟨a1, a2, a3, a4, a5, a6, ?_, a8⟩
    change s.hasRoom _ rm' = true at a7
    show s.hasRoom _ rm = true
    simp only [State.hasRoom, Bool.and_eq_true, decide_eq_true_eq] at a7 ⊢
    obtain ⟨⟨⟨⟨b0, b1, b2, b3, b4, b5⟩, b6⟩, b7⟩, b8⟩ := a7
    exact ⟨⟨⟨⟨by omega, by omega, by omega, by omega, by omega, b5⟩, by omega⟩, by omega⟩, b8⟩
  obtain ⟨n, o, h1, h2, h3, h4⟩ := h sz p e ha hc hk s m args below hf happ2 hP hK
  refine ⟨n, o, h1, h2, h3, ?_⟩
  rcases h4 with ⟨q, L, hF, hL⟩ | ⟨q, hq, E, ce, L, t1, t2, t3, t4, t5, t6, t7⟩
  · exact Or.inl ⟨q, L, ⟨hF.1, hF.2.1, hF.2.2.mono r2 r3⟩, hL⟩
  · exact Or.inr ⟨q, hq, E, ce, L, t1, t2, t3, t4, t5, t6.mono r2 r3, t7⟩
section PRS
variable {l : Launch} {D : va_G} {cy : Nat → ClassId} {X : (Nat → Prop) → State → Heap → Prop} {a : Nat → Nat → Nat} {ba ra : Nat → Nat} {f : Nat → Nat → Nat} {r : Nat → Nat → Int32} {hf : Nat → Nat → Nat} {hq : Nat → Nat → Int32} {kn th : Int32} {sm : Int64}
variable {y2 : MethodName} {c2 : ByteArray} {m2 : Nat} {r2 : Option FieldType} {y4 : MethodName} {c4 : ByteArray} {m4 : Nat} {r4 : Option FieldType} {R4 : Room} {xs : List Value} {tab : List (String × Nat)}
theorem PR.ex {E : String} {k : Nat} (h1 : ∀ Y : va_W, Ce l D cy X y2 c2 m2 r2 (rmk 8 1 6 170) (.ref (a 0 0) :: xs) (WC cy a f r kn ++ Y) E)
    (h2 : ∀ Y : va_W, Cd l D cy X y4 c4 m4 r4 R4 (.ref (ba 9) :: xs) (WM cy ba ra hf hq kn th sm ++ Y) (some (.int (nI 0))) (WM cy ba ra hf hq kn (nI k) sm ++ Y)) (h : (E, k) ∈ tab) : PR l D cy X a ba ra f r hf hq kn th sm y2 c2 m2 r2 y4 c4 m4 r4 R4 xs tab := Or.inl ⟨E, k, h, h1, h2⟩
theorem PR.ok {f' : Nat → Nat → Nat} {r' : Nat → Nat → Int32} {hf' : Nat → Nat → Nat} {hq' : Nat → Nat → Int32} {n n2 : Int32}
    (h1 : ∀ Y : va_W, Cd l D cy X y2 c2 m2 r2 (rmz 6 240) (.ref (a 0 0) :: xs) (WC cy a f r kn ++ Y) (some (.int n)) (WC cy a f' r' kn ++ Y))
    (h2 : ∀ Y : va_W, Cd l D cy X y4 c4 m4 r4 R4 (.ref (ba 9) :: xs) (WM cy ba ra hf hq kn th sm ++ Y) (some (.int n2)) (WM cy ba ra hf' hq' kn (nI 0) sm ++ Y))
    (hC : CInv f') (hB : RB r') (hM : MR f' r' hf' hq') (e : n2 = n) : PR l D cy X a ba ra f r hf hq kn th sm y2 c2 m2 r2 y4 c4 m4 r4 R4 xs tab :=
  Or.inr ⟨f', r', hf', hq', n, hC, hB, hM, h1, fun Y => (h2 Y).imp (fun v w1 h => ⟨ra, e ▸ h.1, h.2⟩)⟩
theorem PR.okR {f' : Nat → Nat → Nat} {r' : Nat → Nat → Int32} {hf' : Nat → Nat → Nat} {hq' : Nat → Nat → Int32} {n n2 : Int32}
    (h1 : ∀ Y : va_W, Cd l D cy X y2 c2 m2 r2 (rmz 6 240) (.ref (a 0 0) :: xs) (WC cy a f r kn ++ Y) (some (.int n)) (WC cy a f' r' kn ++ Y))
    (h2 : ∀ Y : va_W, Cm l D cy X y4 c4 m4 r4 R4 (.ref (ba 9) :: xs) (WM cy ba ra hf hq kn th sm ++ Y) (fun v1 w1 => ∃ ra9 : Nat → Nat, v1 = some (.int n2) ∧ w1 = WM cy ba ra9 hf' hq' kn (nI 0) sm ++ Y) (fun _ => False))
    (hC : CInv f') (hB : RB r') (hM : MR f' r' hf' hq') (e : n2 = n) : PR l D cy X a ba ra f r hf hq kn th sm y2 c2 m2 r2 y4 c4 m4 r4 R4 xs tab :=
  Or.inr ⟨f', r', hf', hq', n, hC, hB, hM, h1, fun Y => e ▸ h2 Y⟩
end PRS
section PQ
variable {f hf F HF : Nat → Nat → Nat} {r r1 hq R HQ : Nat → Nat → Int32}
theorem set5 {F : Nat → Nat → Nat} {w d : Nat} (hw : w < 8) : settleF F w d 5 w = F 5 w := by
  rw [seF_5, if_neg (fun z => by
    have := z.2.2.2
    rw [hol_self hw] at this
    cases this)]
theorem set4 {F : Nat → Nat → Nat} {w d i : Nat} : settleF F w d 4 i = F 4 i := rfl
theorem ch_ans {w d : Nat} (hC : CInv (settleF F w d)) (hM : MR (settleF F w d) R HF HQ) (hw : w < 8) (h5 : F 5 w = 1) : HF 4 w = F 4 w := (hM.wh hC hw ((set5 hw).trans h5)).1
theorem MR_up {q : Nat} {j j2 : Nat} {y : Int32} (hM : MR f r hf hq) (e : j2 = j) : MR f (up2 r j2 q y) hf (up2 hq j q y) := by
  subst e
  refine MR_itm hM (fun _ _ _ => rfl) (fun i k hi hk => ?_)
  unfold up2
  split
  · rfl
  · exact (hM.2.1 i hi).2 k hk
theorem up2_x {α : Type} {F : Nat → Nat → α} {k i k' i' : Nat} {v : α} (h : k' ≠ k ∨ i' ≠ i) : up2 F k i v k' i' = F k' i' := by
  rcases h with h | h
  · exact up2_k _ _ _ _ h
  · exact up2_i _ _ _ _ h
theorem up2_row {j k : Nat} {y : Int32} {i : Nat} (h : i ≠ j) : up2 r j k y i = r i := funext fun q => up2_k _ _ _ _ h
theorem cpy_row {j0 sp j1 dp n i : Nat} (h : i ≠ j1) : cpy2 r j0 sp j1 dp n i = r i := funext fun q => cpy2_off h
theorem ch4 {w d i : Nat} : chM f hf w d 4 i = hf 4 i := chM_o _ _ _ _ _ (by decide) (by decide)
theorem stF_same {g h g' h' : Nat → Int32} : ∀ d k, (∀ q, k ≤ q → q < k + d → g q = g' q ∧ h q = h' q) → stF g h d k = stF g' h' d k
  | 0, _, _ => rfl
  | d + 1, k, a => by
    show (if g k = h k then stF g h d (k + 1) else 0) = (if g' k = h' k then stF g' h' d (k + 1) else 0)
    have b := a k (by omega) (by omega)
    rw [b.1, b.2, stF_same d (k + 1) (fun q x y => a q (by omega) (by omega))]
theorem poF_same {s s' : Nat → Nat} : ∀ d k, (∀ q, k ≤ q → q < k + d → s q = s' q) → poF s d k = poF s' d k
  | 0, _, _ => rfl
  | d + 1, k, a => by
    show (if s k = 0 then poF s d (k + 1) else k) = (if s' k = 0 then poF s' d (k + 1) else k)
    rw [a k (by omega) (by omega), poF_same d (k + 1) (fun q x y => a q (by omega) (by omega))]
theorem liF_same {g g' : Nat → Int32} {x : Int32} : ∀ d k z, (∀ q, k ≤ q → q < k + d → g q = g' q) → liF g x d k z = liF g' x d k z
  | 0, _, _, _ => rfl
  | d + 1, k, z, a => by
    show (if g k = x then liF g x d (k + 1) k else liF g x d (k + 1) z) = (if g' k = x then liF g' x d (k + 1) k else liF g' x d (k + 1) z)
    rw [a k (by omega) (by omega), liF_same d (k + 1) k (fun q x y => a q (by omega) (by omega)), liF_same d (k + 1) z (fun q x y => a q (by omega) (by omega))]
theorem hoF_same {g g' : Nat → Int32} {x : Int32} : ∀ d k z, (∀ q, k ≤ q → q < k + d → g q = g' q) → hoF g x d k z = hoF g' x d k z
  | 0, _, _, _ => rfl
  | d + 1, k, z, a => by
    show (if g k = x then hoF g x d (k + 1) (z + 1) else hoF g x d (k + 1) z) = (if g' k = x then hoF g' x d (k + 1) (z + 1) else hoF g' x d (k + 1) z)
    rw [a k (by omega) (by omega), hoF_same d (k + 1) (z + 1) (fun q x y => a q (by omega) (by omega)), hoF_same d (k + 1) z (fun q x y => a q (by omega) (by omega))]
theorem leF_same {b : Nat} {g g' : Nat → Int32} : ∀ d k z, (∀ q, k ≤ q → q < k + d → g q = g' q) → leF b g d k z = leF b g' d k z
  | 0, _, _, _ => rfl
  | d + 1, k, z, a => by
    show (if b = 0 then leF b g d (k + 1) (if g k < z then g k else z) else leF b g d (k + 1) (if z < g k then g k else z)) = (if b = 0 then leF b g' d (k + 1) (if g' k < z then g' k else z) else leF b g' d (k + 1) (if z < g' k then g' k else z))
    rw [a k (by omega) (by omega), leF_same d (k + 1) (if g' k < z then g' k else z) (fun q x y => a q (by omega) (by omega)), leF_same d (k + 1) (if z < g' k then g' k else z) (fun q x y => a q (by omega) (by omega))]
/-- the first against itself changes nothing -/
theorem leF_0 {b n : Nat} {g : Nat → Int32} (hn : 0 < n) : leF b g n 0 (g 0) = leF b g (n - 1) 1 (g 0) := by
  obtain ⟨d, rfl⟩ : ∃ d, n = d + 1 := ⟨n - 1, by omega⟩
  show (if b = 0 then leF b g d (0 + 1) (if g 0 < g 0 then g 0 else g 0) else leF b g d (0 + 1) (if g 0 < g 0 then g 0 else g 0)) = leF b g d 1 (g 0)
  rw [ite_self]
  split <;> rfl
theorem apF_same {P P' : Int32 → Nat} {g g' : Nat → Int32} (hP : ∀ x, P x = P' x) : ∀ d k, (∀ q, k ≤ q → q < k + d → g q = g' q) → apF P g d k = apF P' g' d k
  | 0, _, _ => rfl
  | d + 1, k, a => by
    show (if P (g k) = 0 then apF P g d (k + 1) else 0) = (if P' (g' k) = 0 then apF P' g' d (k + 1) else 0)
    rw [hP, a k (by omega) (by omega), apF_same hP d (k + 1) (fun q x y => a q (by omega) (by omega))]
theorem smF_same {v v' : Nat → Nat} : ∀ d k z, (∀ q, k ≤ q → q < k + d → v q = v' q) → smF v d k z = smF v' d k z
  | 0, _, _, _ => rfl
  | d + 1, k, z, a => by
    show smF v d (k + 1) (z + v k) = smF v' d (k + 1) (z + v' k)
    rw [a k (by omega) (by omega), smF_same d (k + 1) _ (fun q x y => a q (by omega) (by omega))]
/-- how a row's or window's items read in the model -/
theorem MR.rw0 (hC : CInv f) (hM : MR f r hf hq) {i k : Nat} (hi : i < 4) (hk : k < f 4 i) : hq i k = r (f 0 i) (f 3 i + k) := by
  have q := hC.rw hi
  rw [(hM.2.1 i hi).2 k hk, q.1, q.2.2.2.1, Nat.zero_add]
theorem MR.h4 (hM : MR f r hf hq) {i : Nat} (hi : i < 4) : hf 4 i = f 4 i := (hM.2.1 i hi).1
/-- all below, or a first one that is not -/
theorem first_or (P : Nat → Prop) : ∀ n, (∀ q, q < n → P q) ∨ ∃ m, m < n ∧ (∀ q, q < m → P q) ∧ ¬ P m
  | 0 => Or.inl (fun _ h => absurd h (Nat.not_lt_zero _))
  | n + 1 => by
    rcases first_or P n with h | ⟨m, h1, h2, h3⟩
    · by_cases hp : P n
      · refine Or.inl (fun q hq => ?_)
        rcases Nat.lt_or_ge q n with h4 | h4
        · exact h q h4
        · exact (show q = n by omega) ▸ hp
      · exact Or.inr ⟨n, by omega, h, hp⟩
    · exact Or.inr ⟨m, by omega, h2, h3⟩
end PQ

