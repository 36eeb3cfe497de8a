/-! WHAT THE CALLS ON ROWS COMPUTE -/
def flR (r : Nat → Nat → Int32) (j lo n : Nat) (x : Int32) : Nat → Nat → Int32 := fun j' q => if j' = j ∧ lo ≤ q ∧ q < lo + n then x else r j' q
theorem flR_0 (r : Nat → Nat → Int32) (j lo : Nat) (x : Int32) : flR r j lo 0 x = r := by
  funext j' q
  unfold flR
  rw [if_neg (by omega)]
theorem flR_step {r : Nat → Nat → Int32} {j lo n : Nat} {x : Int32} : up2 (flR r j lo n x) j (lo + n) x = flR r j lo (n + 1) x := by
  funext j' q
  simp +decide only [up2, flR, and_true, true_and, false_and, if_false]
  repeat' split
  all_goals first | rfl | (exfalso; omega)
/-- the last of d places from k on at which g is x; acc without -/
def liF (g : Nat → Int32) (x : Int32) : Nat → Nat → Nat → Nat
  | 0, _, acc => acc
  | d + 1, k, acc => if g k = x then liF g x d (k + 1) k else liF g x d (k + 1) acc
def hoF (g : Nat → Int32) (x : Int32) : Nat → Nat → Nat → Nat
  | 0, _, z => z
  | d + 1, k, z => if g k = x then hoF g x d (k + 1) (z + 1) else hoF g x d (k + 1) z
def leF (b : Nat) (g : Nat → Int32) : Nat → Nat → Int32 → Int32
  | 0, _, z => z
  | d + 1, k, z => if b = 0 then leF b g d (k + 1) (if g k < z then g k else z) else leF b g d (k + 1) (if z < g k then g k else z)
def apF (P : Int32 → Nat) (g : Nat → Int32) : Nat → Nat → Nat
  | 0, _ => 1
  | d + 1, k => if P (g k) = 0 then apF P g d (k + 1) else 0
/-- the numbers 0, 1, .. at n places of the array js -/
def plR (r : Nat → Nat → Int32) (js n : Nat) : Nat → Nat → Int32 := fun j q => if j = js ∧ q < n then nI q else r j q
theorem plR_0 (r : Nat → Nat → Int32) (js : Nat) : plR r js 0 = r := by
  funext j q
  unfold plR
  rw [if_neg (by omega)]
theorem plR_step {r : Nat → Nat → Int32} {js n : Nat} : up2 (plR r js n) js n (nI n) = plR r js (n + 1) := by
  funext j q
  by_cases hq : q = n
  · subst hq
    simp +decide only [up2, plR, and_true, true_and, false_and, if_false]
    repeat' split
    all_goals first | rfl | (exfalso; omega)
  · simp +decide only [up2, plR, and_true, true_and, false_and, if_false]
    repeat' split
    all_goals first | rfl | (exfalso; omega)
/-- n items of the array js: v of each place -/
def thR (r : Nat → Nat → Int32) (js n : Nat) (v : Nat → Int32) : Nat → Nat → Int32 := fun j q => if j = js ∧ q < n then v q else r j q
theorem thR_0 (r : Nat → Nat → Int32) (js : Nat) (v : Nat → Int32) : thR r js 0 v = r := by
  funext j q
  unfold thR
  rw [if_neg (by omega)]
theorem thR_step {r : Nat → Nat → Int32} {js n : Nat} {v : Nat → Int32} {x : Int32} (hx : x = v n) : up2 (thR r js n v) js n x = thR r js (n + 1) v := by
  subst hx
  funext j q
  by_cases hq : q = n
  · subst hq
    simp +decide only [up2, thR, and_true, true_and, false_and, if_false]
    repeat' split
    all_goals first | rfl | (exfalso; omega)
  · simp +decide only [up2, thR, and_true, true_and, false_and, if_false]
    repeat' split
    all_goals first | rfl | (exfalso; omega)
theorem thR_off {r : Nat → Nat → Int32} {js n j : Nat} {v : Nat → Int32} (h : j ≠ js) : thR r js n v j = r j := by
  funext q
  simp [thR, h]
/-- the item at the place that x names, itself below 0 -/
def tvF (h : Nat → Int32) (x : Int32) : Int32 := if x < 0 then x else h x.toNatClampNeg
theorem cl_nI {x : Int32} {n : Nat} (hn : n < 2147483648) (h0 : 0 ≤ x) (h1 : x < nI n) : x = nI x.toNatClampNeg ∧ x.toNatClampNeg < n := by
  rcases pk_ix x hn with h | h | ⟨j, hj, e⟩
  · exact absurd h0 (Int32.not_le.mpr h)
  · exact absurd h1 (Int32.not_lt.mpr h)
  · rw [e, nI_clamp (by omega)]
    exact ⟨rfl, hj⟩
