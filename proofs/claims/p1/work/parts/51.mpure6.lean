theorem gwd5_ {f hf : Nat → Nat → Nat} {g w : Nat} (h : hf 5 w ≤ 1) : dcF (up2 (gaF f hf g 4) 5 g 0) g 3 5 w ≤ 1 := by
  show up2 (gaF f hf g 4) 5 g 0 5 w ≤ 1
  by_cases e : w = g
  · rw [e, up2_eq]
    omega
  · rw [up2_i _ _ _ _ e, gaF_v5]
    split <;> omega
/-- 1 of a cursor that is not there -/
def shM (n : Nat) : Nat := if n = 0 then 1 else 0
theorem shM_le (n : Nat) : shM n ≤ 1 := by
  unfold shM
  split <;> omega
/-- what a window answers, what a cursor answers, what the house answers -/
def wqM (f hf : Nat → Nat → Nat) (k q : Nat) : Nat := if hf 5 (4 + k) = 0 then 4294967295 else if q = 0 then hf 2 (4 + k) else if q = 1 then f 1 (4 + k) else hf 4 (4 + k)
def cqM (hf : Nat → Nat → Nat) (k q : Nat) : Int32 := if hf 9 k = 0 then nI 4294967295 else if q = 0 then nI (hf 6 k) else if q = 1 then nI (hf 7 k) else if q = 2 then nI (hf 7 k) - nI 1 else if q = 3 then nI (if hf 7 k < hf 4 (hf 6 k) then 1 else 0) else nI (if 0 < hf 7 k then 1 else 0)
def hoM (hf : Nat → Nat → Nat) (kn : Int32) (q : Nat) : Int32 := if q = 0 then nI (smF (hf 4) 4 0 0) else if q = 1 then nI (smF (hf 5) 4 4 0) else if q = 2 then nI (smF (hf 9) 3 0 0) else kn
theorem MR.wn {f hf : Nat → Nat → Nat} {r hq : Nat → Nat → Int32} (hM : MR f r hf hq) (hC : CInv f) {w : Nat} (h4 : 4 ≤ w) (hw : w < 8) (h5 : f 5 w = 1) : hf 2 w = f 2 w ∧ hf 2 w < 8 ∧ hf 3 w + hf 4 w ≤ hf 4 (hf 2 w) ∧ hf 4 (hf 2 w) ≤ 12 := by
  have h1 := hM.1 w h4 hw h5
  have h2 := hC.wi h4 hw h5
  have h3 := hM.wh hC hw h5
  have h4' := hM.wh hC h2.1 h2.2.1
  have h5' := hC.th h2.1 h2.2.1
  rw [h1.1]
  omega
