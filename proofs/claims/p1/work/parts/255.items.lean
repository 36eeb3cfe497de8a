/-! ALL ITEMS ARE FROM -99 TO 99 -/
def IB (x : Int32) : Prop := -99 ≤ x.toInt ∧ x.toInt ≤ 99
def RB (r : Nat → Nat → Int32) : Prop := ∀ j q, IB (r j q)
theorem RB.up {r : Nat → Nat → Int32} (h : RB r) {j q : Nat} {x : Int32} (hx : IB x) : RB (up2 r j q x) := fun j' q' => by
  unfold up2
  split
  · exact hx
  · exact h j' q'
theorem RB.cpy {r : Nat → Nat → Int32} (h : RB r) (j0 sp j1 dp n : Nat) : RB (cpy2 r j0 sp j1 dp n) := fun j' q' => by
  unfold cpy2
  split
  · split
    · exact h _ _
    · exact h _ _
  · exact h _ _
theorem RB.rev {r : Nat → Nat → Int32} (h : RB r) (j lo hi : Nat) : RB (revS r j lo hi) := fun j' q' => by
  unfold revS
  split
  · exact h _ _
  · exact h _ _
theorem RB.sc {r : Nat → Nat → Int32} (h : RB r) (j lo n : Nat) (src : Nat → Nat) {g : Nat → Int32} (hg : ∀ q, IB (g q)) : RB (scS r j lo n src g) := fun j' q' => by
  unfold scS
  split
  · exact hg _
  · exact h _ _
theorem RB.in1 {r : Nat → Nat → Int32} (h : RB r) (j lo b e : Nat) : RB (in1 r j lo b e) := by
  refine RB.up (fun j' q' => ?_) (h _ _)
  unfold shf
  split
  · exact h _ _
  · exact h _ _
theorem RB.sr (j lo b : Nat) : ∀ (d e : Nat) {r : Nat → Nat → Int32}, RB r → RB (srF j lo b d e r)
  | 0, e, r, h => h
  | d + 1, e, r, h => RB.sr j lo b d (e + 1) (h.in1 j lo b e)
theorem RB.ex {f : Nat → Nat → Nat} {r : Nat → Nat → Int32} (h : RB r) (w p q c : Nat) : RB (exR f r w p q c) := (h.cpy _ _ _ _ _).cpy _ _ _ _ _
theorem RB.fl {r : Nat → Nat → Int32} (h : RB r) (j lo n : Nat) {x : Int32} (hx : IB x) : RB (flR r j lo n x) := fun j' q' => by
  unfold flR
  split
  · exact hx
  · exact h _ _
theorem RB.th {r : Nat → Nat → Int32} (h : RB r) (j n : Nat) {v : Nat → Int32} (hv : ∀ q, IB (v q)) : RB (thR r j n v) := fun j' q' => by
  unfold thR
  split
  · exact hv _
  · exact h _ _
theorem tvF_ib {g : Nat → Int32} {x : Int32} (hg : ∀ q, IB (g q)) (hx : IB x) : IB (tvF g x) := by
  unfold tvF
  split
  · exact hx
  · exact hg _
theorem IB.ok {x : Int32} (h : okI x) : IB x := by
  have h1 := Int32.not_lt.mp h.1
  have h2 := Int32.not_lt.mp h.2
  rw [Int32.le_iff_toInt_le] at h1 h2
  have e1 : (nI 4294967197).toInt = -99 := by decide +kernel
  have e2 : (nI 99).toInt = 99 := by decide +kernel
  exact ⟨by omega, by omega⟩
theorem IB.nat {n : Nat} (h : n ≤ 99) : IB (nI n) := by
  have e : (nI n).toInt = (n : Int) := nI_toInt (by omega)
  exact ⟨by omega, by omega⟩
theorem RB.pl {r : Nat → Nat → Int32} (h : RB r) (j : Nat) {n : Nat} (hn : n ≤ 12) : RB (plR r j n) := fun j' q' => by
  unfold plR
  split
  · exact IB.nat (by omega)
  · exact h _ _
theorem RB.xc {r : Nat → Nat → Int32} (h : RB r) (j k1 k2 : Nat) : RB (exch2 r j k1 k2) := (h.up (h _ _)).up (h _ _)
theorem RB.si {P : Int32 → Nat} {b js : Nat} {g : Nat → Int32} (hg : ∀ q, IB (g q)) : ∀ (d k c : Nat) {r : Nat → Nat → Int32}, RB r → RB (siR P b g js d k c r)
  | 0, k, c, r, h => h
  | d + 1, k, c, r, h => by
    unfold siR
    split
    · exact RB.si hg d (k + 1) (c + 1) (h.up (hg k))
    · exact RB.si hg d (k + 1) c h
