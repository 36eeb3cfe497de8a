theorem wrR_up0 {hq : Nat → Nat → Int32} {i n : Nat} {g : Nat → Int32} {x : Int32} (h : g n = x) : up2 (wrR hq i 0 n g) i n x = wrR hq i 0 (n + 1) g := by
  have e := wrR_up (hq := hq) (i := i) (b := 0) h
  rw [Nat.zero_add] at e
  exact e
theorem upR_me {α : Type} {f : Nat → α} {i : Nat} {v : α} : upR f i v i = v := if_pos rfl
theorem upR_ne {α : Type} {f : Nat → α} {i j : Nat} {v : α} (h : j ≠ i) : upR f i v j = f j := if_neg h
/-- whether the row j has x -/
def hqP (hq : Nat → Nat → Int32) (n j : Nat) (x : Int32) : Nat := if fpF (hq j) x n 0 = 4294967295 then 0 else 1
theorem fp_step0 {G : Nat → Int32} {y : Int32} {d k z : Nat} (h : G k ≠ y) : (if z = 4294967295 then fpF G y d (k + 1) else z) = (if z = 4294967295 then fpF G y (d + 1) k else z) := by
  conv => rhs; unfold fpF
  rw [if_neg h]
theorem fp_step1 {G : Nat → Int32} {y : Int32} {d k z : Nat} (h : G k = y) (hz : z = 4294967295) (hk : k ≠ 4294967295) : (if k = 4294967295 then fpF G y d (k + 1) else k) = (if z = 4294967295 then fpF G y (d + 1) k else z) := by
  conv => rhs; unfold fpF
  rw [if_neg hk, if_pos hz, if_pos h]
theorem fp_step2 {G : Nat → Int32} {y : Int32} {d k z : Nat} (hz : z ≠ 4294967295) : (if z = 4294967295 then fpF G y d (k + 1) else z) = (if z = 4294967295 then fpF G y (d + 1) k else z) := by
  rw [if_neg hz, if_neg hz]
theorem fp_end {G : Nat → Int32} {y : Int32} {k z : Nat} : (if z = 4294967295 then fpF G y 0 k else z) = z := by
  split
  · subst_vars
    rfl
  · rfl
theorem li_yes {G : Nat → Int32} {y : Int32} {d k z : Nat} (h : G k = y) : liF G y d (k + 1) k = liF G y (d + 1) k z := by
  conv => rhs; unfold liF
  rw [if_pos h]
theorem li_no {G : Nat → Int32} {y : Int32} {d k z : Nat} (h : G k ≠ y) : liF G y d (k + 1) z = liF G y (d + 1) k z := by
  conv => rhs; unfold liF
  rw [if_neg h]
theorem ho_yes {G : Nat → Int32} {y : Int32} {d k z : Nat} (h : G k = y) : hoF G y d (k + 1) (z + 1) = hoF G y (d + 1) k z := by
  conv => rhs; unfold hoF
  rw [if_pos h]
theorem ho_no {G : Nat → Int32} {y : Int32} {d k z : Nat} (h : G k ≠ y) : hoF G y d (k + 1) (z + 0) = hoF G y (d + 1) k z := by
  conv => rhs; unfold hoF
  rw [if_neg h]
  rfl
theorem st_yes {G H : Nat → Int32} {d t z : Nat} (h : G t = H t) : (if z = 0 then 0 else stF G H d (t + 1)) = (if z = 0 then 0 else stF G H (d + 1) t) := by
  conv => rhs; unfold stF
  rw [if_pos h]
theorem st_no {G H : Nat → Int32} {d t z : Nat} (h : G t ≠ H t) : (if (0 : Nat) = 0 then 0 else stF G H d (t + 1)) = (if z = 0 then 0 else stF G H (d + 1) t) := by
  conv => rhs; unfold stF
  rw [if_neg h, if_pos rfl]
  split <;> rfl
theorem ap_yes {P : Int32 → Nat} {G : Nat → Int32} {d k z : Nat} (h : P (G k) = 0) : (if z = 0 then 0 else apF P G d (k + 1)) = (if z = 0 then 0 else apF P G (d + 1) k) := by
  conv => rhs; unfold apF
  rw [if_pos h]
theorem ap_no {P : Int32 → Nat} {G : Nat → Int32} {d k z : Nat} (h : P (G k) ≠ 0) : (if (0 : Nat) = 0 then 0 else apF P G d (k + 1)) = (if z = 0 then 0 else apF P G (d + 1) k) := by
  conv => rhs; unfold apF
  rw [if_neg h, if_pos rfl]
  split <;> rfl
theorem si_yes {P : Int32 → Nat} {b : Nat} {G : Nat → Int32} {d k c : Nat} (h : P (G k) = b) : siC P b G d (k + 1) (c + 1) = siC P b G (d + 1) k c := by
  conv => rhs; unfold siC
  rw [if_pos h]
theorem si_no {P : Int32 → Nat} {b : Nat} {G : Nat → Int32} {d k c : Nat} (h : P (G k) ≠ b) : siC P b G d (k + 1) c = siC P b G (d + 1) k c := by
  conv => rhs; unfold siC
  rw [if_neg h]
theorem sa_yes {P : Int32 → Nat} {b : Nat} {G : Nat → Int32} {d k c : Nat} {A : Nat → Int32} (h : P (G k) = b) : siA P b G d (k + 1) (c + 1) (lgF A c (G k)) = siA P b G (d + 1) k c A := by
  conv => rhs; unfold siA
  rw [if_pos h]
theorem sa_no {P : Int32 → Nat} {b : Nat} {G : Nat → Int32} {d k c : Nat} {A : Nat → Int32} (h : P (G k) ≠ b) : siA P b G d (k + 1) c A = siA P b G (d + 1) k c A := by
  conv => rhs; unfold siA
  rw [if_neg h]
theorem le_0 {G : Nat → Int32} {d k : Nat} {z : Int32} : leF 0 G d (k + 1) (if G k < z then G k else z) = leF 0 G (d + 1) k z := rfl
theorem le_1 {b : Nat} {G : Nat → Int32} {d k : Nat} {z : Int32} (hb : b ≠ 0) : leF b G d (k + 1) (if z < G k then G k else z) = leF b G (d + 1) k z := by
  conv => rhs; unfold leF
  rw [if_neg hb]
