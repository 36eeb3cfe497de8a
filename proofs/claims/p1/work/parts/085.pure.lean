/-! WHAT THE PARTS' METHODS COMPUTE, in plain words -/
/-- the first place from k on, of d places, at which g is x; -1 without -/
def fpF (g : Nat → Int32) (x : Int32) : Nat → Nat → Nat
  | 0, _ => 4294967295
  | d + 1, k => if g k = x then k else fpF g x d (k + 1)
/-- 1 if g and h agree at d places from k on (h from 0 .. of its own) -/
def stF (g h : Nat → Int32) : Nat → Nat → Nat
  | 0, _ => 1
  | d + 1, k => if g k = h k then stF g h d (k + 1) else 0
theorem stF_le (g h : Nat → Int32) : ∀ d k, stF g h d k ≤ 1
  | 0, _ => Nat.le_refl 1
  | d + 1, k => by
    unfold stF
    split
    · exact stF_le g h d (k + 1)
    · exact Nat.zero_le 1
/-- the first of d places from k on at which s tells 1; -1 without -/
def poF (s : Nat → Nat) : Nat → Nat → Nat
  | 0, _ => 4294967295
  | d + 1, k => if s k = 0 then poF s d (k + 1) else k
def hsF (g : Nat → Int32) : Nat → Nat → Int32 → Int32
  | 0, _, h => h
  | d + 1, k, h => hsF g d (k + 1) (nI 31 * h + g k)
theorem fpF_or (g : Nat → Int32) (x : Int32) : ∀ d k, fpF g x d k = 4294967295 ∨ (k ≤ fpF g x d k ∧ fpF g x d k < k + d)
  | 0, k => Or.inl rfl
  | d + 1, k => by
    unfold fpF
    split
    · right
      omega
    · rcases fpF_or g x d (k + 1) with h | h
      · exact Or.inl h
      · right
        omega
theorem fpF_b {g : Nat → Int32} {x : Int32} {d k : Nat} (h : k + d ≤ 12) : fpF g x d k < 4294967296 := by
  rcases fpF_or g x d k with h1 | h1 <;> omega
theorem poF_or (s : Nat → Nat) : ∀ d k, poF s d k = 4294967295 ∨ (k ≤ poF s d k ∧ poF s d k < k + d)
  | 0, k => Or.inl rfl
  | d + 1, k => by
    unfold poF
    split
    · rcases poF_or s d (k + 1) with h | h
      · exact Or.inl h
      · right
        omega
    · right
      omega
theorem poF_b {s : Nat → Nat} {d k : Nat} (h : k + d ≤ 13) : poF s d k < 4294967296 := by
  rcases poF_or s d k with h1 | h1 <;> omega
def exch2 (r : Nat → Nat → Int32) (j k1 k2 : Nat) : Nat → Nat → Int32 := up2 (up2 r j k1 (r j k2)) j k2 (r j k1)
/-- the stretch from lo up to hi of the array j turned -/
def revS (r : Nat → Nat → Int32) (j lo hi : Nat) : Nat → Nat → Int32 := fun j' k => if j' = j ∧ lo ≤ k ∧ k < hi then r j (lo + hi - 1 - k) else r j' k
def revT (r : Nat → Nat → Int32) (j lo hi t : Nat) : Nat → Nat → Int32 := fun j' k => if j' = j ∧ ((lo ≤ k ∧ k < lo + t) ∨ (hi ≤ k + t ∧ k < hi)) then r j (lo + hi - 1 - k) else r j' k
theorem revT_0 (r : Nat → Nat → Int32) (j lo hi : Nat) : revT r j lo hi 0 = r := by
  funext j' k
  unfold revT
  rw [if_neg (by omega)]
theorem revT_step {r : Nat → Nat → Int32} {j lo hi t e1 e2 : Nat} (h1 : e1 = lo + t) (h2 : e2 + 1 + t = hi) (h : e1 < e2) : exch2 (revT r j lo hi t) j e1 e2 = revT r j lo hi (t + 1) := by
  subst h1
  funext j' k
  by_cases hj : j' = j
  · subst hj
    simp only [exch2, up2, revT, true_and]
    repeat' split
    all_goals first | rfl | (exfalso; omega) | (congr 1; omega)
  · simp [exch2, up2, revT, hj]
theorem revT_end {r : Nat → Nat → Int32} {j lo hi t : Nat} (h : hi ≤ lo + t + 1 + t) (ht : lo + t ≤ hi ∨ t = 0) : revT r j lo hi t = revS r j lo hi := by
  funext j' k
  unfold revT revS
  by_cases hj : j' = j
  · subst hj
    by_cases hc : lo ≤ k ∧ k < hi
    · rw [if_pos (c := _ ∧ lo ≤ k ∧ k < hi) ⟨rfl, hc⟩]
      by_cases hd : (lo ≤ k ∧ k < lo + t) ∨ (hi ≤ k + t ∧ k < hi)
      · rw [if_pos ⟨rfl, hd⟩]
      · rw [if_neg (fun q => hd q.2)]
        congr 1
        omega
    · rw [if_neg (c := _ ∧ lo ≤ k ∧ k < hi) (fun q => hc q.2)]
      by_cases hd : (lo ≤ k ∧ k < lo + t) ∨ (hi ≤ k + t ∧ k < hi)
      · rcases ht with ht | ht
        · omega
        · omega
      · rw [if_neg (fun q => hd q.2)]
  · rw [if_neg (fun q => hj q.1), if_neg (fun q => hj q.1)]
/-- of n places from lo on of the array j, those with src below k hold g of src -/
def scT (r : Nat → Nat → Int32) (j lo n : Nat) (src : Nat → Nat) (g : Nat → Int32) (k : Nat) : Nat → Nat → Int32 := fun j' q => if j' = j ∧ lo ≤ q ∧ q < lo + n ∧ src (q - lo) < k then g (src (q - lo)) else r j' q
def scS (r : Nat → Nat → Int32) (j lo n : Nat) (src : Nat → Nat) (g : Nat → Int32) : Nat → Nat → Int32 := fun j' q => if j' = j ∧ lo ≤ q ∧ q < lo + n then g (src (q - lo)) else r j' q
theorem scT_0 (r : Nat → Nat → Int32) (j lo n : Nat) (src : Nat → Nat) (g : Nat → Int32) : scT r j lo n src g 0 = r := by
  funext j' q
  unfold scT
  rw [if_neg (by omega)]
theorem scT_step {r : Nat → Nat → Int32} {j lo n k e : Nat} {src : Nat → Nat} {g : Nat → Int32} {x : Int32} (dk : Nat) (he : e = lo + dk) (hd : dk < n) (hs : src dk = k) (hinj : ∀ t, t < n → src t = k → t = dk) (hx : x = g k) : up2 (scT r j lo n src g k) j e x = scT r j lo n src g (k + 1) := by
  subst he
  subst hx
  funext j' q
  by_cases hj : j' = j
  · subst hj
    by_cases hq : q = lo + dk
    · subst hq
      have e1 : lo + dk - lo = dk := by omega
      have e2 : src (lo + dk - lo) = k := by rw [e1, hs]
      simp only [up2, scT, true_and]
      repeat' split
      all_goals first | rfl | (rw [e2]; done) | (exfalso; omega) | (exfalso; simp_all; done)
    · simp only [up2, scT, true_and]
      by_cases hc : lo ≤ q ∧ q < lo + n ∧ src (q - lo) < k
      · repeat' split
        all_goals first | rfl | (exfalso; omega)
      · have hne : ¬ (lo ≤ q ∧ q < lo + n ∧ src (q - lo) < k + 1) := by
          rintro ⟨z1, z2, z3⟩
          have h5 : src (q - lo) = k := by
            rcases Nat.lt_or_ge (src (q - lo)) k with h6 | h6
            · exact absurd ⟨z1, z2, h6⟩ hc
            · omega
          have := hinj (q - lo) (by omega) h5
          omega
        repeat' split
        all_goals first | rfl | (exfalso; omega)
  · simp [up2, scT, hj]
theorem scT_end {r : Nat → Nat → Int32} {j lo n k : Nat} {src : Nat → Nat} {g : Nat → Int32} (hk : n ≤ k) (hs : ∀ t, t < n → src t < n) : scT r j lo n src g k = scS r j lo n src g := by
  funext j' q
  unfold scT scS
  by_cases hc : j' = j ∧ lo ≤ q ∧ q < lo + n
  · rw [if_pos hc, if_pos ⟨hc.1, hc.2.1, hc.2.2, by have := hs (q - lo) (by omega); omega⟩]
  · rw [if_neg hc, if_neg (fun z => hc ⟨z.1, z.2.1, z.2.2.1⟩)]
theorem scT_off {r : Nat → Nat → Int32} {j lo n k j' q : Nat} {src : Nat → Nat} {g : Nat → Int32} (h : j' ≠ j) : scT r j lo n src g k j' q = r j' q := by simp [scT, h]
theorem cpy2_at {r : Nat → Nat → Int32} {j0 sp j1 dp n k : Nat} (h : k < n) : cpy2 r j0 sp j1 dp n j1 (dp + k) = r j0 (sp + k) := by
  unfold cpy2
  rw [if_pos rfl, if_pos (by omega), show dp + k - dp = k by omega]
theorem cpy2_off {r : Nat → Nat → Int32} {j0 sp j1 dp n j q : Nat} (h : j ≠ j1) : cpy2 r j0 sp j1 dp n j q = r j q := by
  unfold cpy2
  rw [if_neg h]
/-- where the halves' items go, and where they come from -/
def layN (n t : Nat) : Nat := if t % 2 = 0 then t / 2 else (n + 1) / 2 + t / 2
def unlN (n t : Nat) : Nat := if t < (n + 1) / 2 then 2 * t else 2 * (t - (n + 1) / 2) + 1
theorem layN_lt {n t : Nat} (h : t < n) : layN n t < n := by
  unfold layN
  split <;> omega
theorem unlN_lt {n t : Nat} (h : t < n) : unlN n t < n := by
  unfold unlN
  split <;> omega
theorem unl_lay {n t : Nat} (h : t < n) : unlN n (layN n t) = t := by
  unfold unlN layN
  split <;> split <;> omega
theorem lay_unl {n t : Nat} (h : t < n) : layN n (unlN n t) = t := by
  unfold unlN layN
  split <;> split <;> omega
/-- how far a number turns n places -/
def shN (b : Int32) (n : Nat) : Nat := (b.toInt % (n : Int)).toNat
def rotN (n s t : Nat) : Nat := (t + (n - s)) % n
theorem shN_lt (b : Int32) {n : Nat} (h : 0 < n) : shN b n < n := by
  unfold shN
  have h1 := Int.emod_lt_of_pos b.toInt (show (0 : Int) < n by omega)
  have h2 := Int.emod_nonneg b.toInt (show (n : Int) ≠ 0 by omega)
  omega
theorem md_small {x n : Nat} (h : x < n) : x % n = x := Nat.mod_eq_of_lt h
theorem md_big {x n : Nat} (h : n ≤ x) (h2 : x < n + n) : x % n = x - n := by
  rw [Nat.mod_eq_sub_mod h, Nat.mod_eq_of_lt (by omega)]
theorem rot_to {n s t : Nat} (hs : s < n) (ht : t < n) : rotN n s ((t + s) % n) = t := by
  unfold rotN
  rcases Nat.lt_or_ge (t + s) n with h | h
  · rw [md_small h, md_big (by omega) (by omega)]
    omega
  · rw [md_big h (by omega), md_small (by omega)]
    omega
theorem rot_inj {n s t k : Nat} (hs : s < n) (ht : t < n) (h : rotN n s t = k) : t = (k + s) % n := by
  subst h
  unfold rotN
  rcases Nat.lt_or_ge (t + (n - s)) n with h | h
  · rw [md_small h, md_big (by omega) (by omega)]
    omega
  · rw [md_big h (by omega), md_small (by omega)]
    omega
theorem rotN_lt {n s t : Nat} (h : 0 < n) : rotN n s t < n := Nat.mod_lt _ h
/-- by what the items are ordered -/
def rkF (b : Nat) (x : Int32) : Int32 := if b = 0 then -x else if b = 1 then nI (shN x 10) else if b = 2 then (if x < 0 then nI 0 else nI 1) else x
def inP (g : Nat → Int32) (b : Nat) (x : Int32) : Nat → Nat
  | 0 => 0
  | p + 1 => if rkF b (g p) ≤ rkF b x then p + 1 else inP g b x p
/-- the places behind p, up to e, hold what was one ahead -/
def shf (r : Nat → Nat → Int32) (j lo e p : Nat) : Nat → Nat → Int32 := fun j' q => if j' = j ∧ lo + p < q ∧ q ≤ lo + e then r j (q - 1) else r j' q
theorem shf_0 (r : Nat → Nat → Int32) (j lo e : Nat) : shf r j lo e e = r := by
  funext j' q
  unfold shf
  rw [if_neg (by omega)]
theorem shf_step {r : Nat → Nat → Int32} {j lo e p : Nat} (hp : p + 1 ≤ e) : up2 (shf r j lo e (p + 1)) j (lo + (p + 1)) (shf r j lo e (p + 1) j (lo + p)) = shf r j lo e p := by
  funext j' q
  by_cases hj : j' = j
  · subst hj
    simp only [up2, shf, true_and]
    repeat' split
    all_goals first | rfl | (exfalso; omega) | (congr 1; omega)
  · simp [up2, shf, hj]
theorem shf_lo {r : Nat → Nat → Int32} {j lo e p q : Nat} (h : q ≤ lo + p) : shf r j lo e p j q = r j q := by
  unfold shf
  rw [if_neg (by omega)]
/-- the item at e laid in among those ahead of it; then the next d ones -/
def in1 (r : Nat → Nat → Int32) (j lo b e : Nat) : Nat → Nat → Int32 := up2 (shf r j lo e (inP (fun q => r j (lo + q)) b (r j (lo + e)) e)) j (lo + inP (fun q => r j (lo + q)) b (r j (lo + e)) e) (r j (lo + e))
def srF (j lo b : Nat) : Nat → Nat → (Nat → Nat → Int32) → (Nat → Nat → Int32)
  | 0, _, r => r
  | d + 1, e, r => srF j lo b d (e + 1) (in1 r j lo b e)
theorem in1_of {r : Nat → Nat → Int32} {j lo b e p : Nat} (h : inP (fun q => r j (lo + q)) b (r j (lo + e)) e = p) : up2 (shf r j lo e p) j (lo + p) (r j (lo + e)) = in1 r j lo b e := by
  subst h
  rfl
theorem scb_val {r : Nat → Nat → Int32} {j0 sp j1 dp n k q : Nat} {src : Nat → Nat} {g : Nat → Int32} (hne : j1 ≠ j0) (hq : q < n) : scT (cpy2 r j0 sp j1 dp n) j0 sp n src g k j1 (dp + q) = r j0 (sp + q) := by
  rw [scT_off hne, cpy2_at hq]
theorem shN_add {x : Int32} {k n : Nat} (hk : k < 1000) (h0 : 0 < n) (h1 : -1000 ≤ x.toInt) (h2 : x.toInt ≤ 1000) : shN (nI k + x) n = (k + shN x n) % n := by
  have e1 : (nI k + x).toInt = (k : Int) + x.toInt := by
    rw [Int32.toInt_add, nI_toInt (by omega)]
    exact Int.bmod_eq_of_le (by omega) (by omega)
  unfold shN
  rw [e1]
  have h3 := Int.emod_nonneg x.toInt (show (n : Int) ≠ 0 by omega)
  have e2 : (((k + (x.toInt % (n : Int)).toNat) % n : Nat) : Int) = ((k : Int) + x.toInt) % (n : Int) := by
    rw [Int.natCast_emod, Int.natCast_add, Int.toNat_of_nonneg h3, Int.add_emod_emod]
  have h4 := Int.emod_nonneg ((k : Int) + x.toInt) (show (n : Int) ≠ 0 by omega)
  omega
