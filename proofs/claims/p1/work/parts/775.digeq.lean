/-! BOTH DIGESTS ARE ONE NUMBER -/
section DGE
variable {f hf : Nat → Nat → Nat} {r hq : Nat → Nat → Int32} {kn : Int32}
theorem mxF_same {g g' : Nat → Int32} : ∀ d k u, (∀ q, k ≤ q → q < k + d → g q = g' q) → mxF g d k u = mxF g' d k u
  | 0, _, _, _ => rfl
  | d + 1, k, u, a => by
    show mxF g d (k + 1) (u * 31 + (g k).toInt64) = mxF g' d (k + 1) (u * 31 + (g' k).toInt64)
    rw [a k (by omega) (by omega), mxF_same d (k + 1) _ (fun q x y => a q (by omega) (by omega))]
theorem tlx_same {x y : Nat → Int32} : ∀ n, (∀ q, q < n → x q = y q) → tlx x n = tlx y n
  | 0, _ => rfl
  | n + 1, a => by
    show tlx x n + (if 0 < n then 2 else 0) + sz9 (x n) = tlx y n + (if 0 < n then 2 else 0) + sz9 (y n)
    rw [a n (by omega), tlx_same n (fun q h => a q (by omega))]
theorem wq_eq (hC : CInv f) (hM : MR f r hf hq) {k q : Nat} (hk : k < 4) : nI (wqM f hf k q) = wqF f k q := by
  have e := hM.2.2.1 (4 + k) (by omega) (by omega)
  have a := hC.h5 (4 + k) (by omega)
  unfold wqM wqF
  rw [e.1]
  by_cases h5 : f 5 (4 + k) = 0
  · rw [if_pos h5, if_pos h5]
  · have g1 := hM.1 (4 + k) (by omega) (by omega) (by omega)
    rw [if_neg h5, if_neg h5, e.2.2 (by omega), g1.1]
    (repeat' split) <;> rfl
theorem cq_eq (hC : CInv f) (hM : MR f r hf hq) {k q : Nat} (hk : k < 3) : cqM hf k q = cqF f k q := by
  have m9 := (hM.2.2.2 k hk).1
  unfold cqM cqF
  rw [m9]
  by_cases h9 : f 9 k = 0
  · rw [if_pos h9, if_pos h9]
  · have h91 : f 9 k = 1 := by have := (hC.cu hk).2.1; omega
    have m := (hM.2.2.2 k hk).2.2 h91
    have c := (hC.cu hk).2.2 h91
    have W := hM.wh hC (hC.cu hk).1 c.1
    rw [if_neg h9, if_neg h9, m.1, m.2.1, W.1]
theorem ho_eq (hM : MR f r hf hq) (q : Nat) : hoM hf kn q = hhF f kn q := by
  unfold hoM hhF
  rw [smF_same (v := hf 4) (v' := f 4) 4 0 0 (fun q a b => (hM.2.1 q (by omega)).1), smF_same (v := hf 5) (v' := f 5) 4 4 0 (fun q a b => (hM.2.2.1 q a (by omega)).1), smF_same (v := hf 9) (v' := f 9) 3 0 0 (fun q a b => (hM.2.2.2 q (by omega)).1)]
theorem mr_eq (hC : CInv f) (hM : MR f r hf hq) : ∀ d i u, i + d ≤ 4 → mrM hf hq d i u = mrF f r d i u
  | 0, _, _, _ => rfl
  | d + 1, i, u, h => by
    have hi : i < 4 := by omega
    have e4 := hM.h4 hi
    have e : ∀ q, 0 ≤ q → q < 0 + f 4 i → hq i q = (fun q => r (f 0 i) (f 3 i + q)) q := fun q a b => (hM.rg hC hi q a b).symm
    show mrM hf hq d (i + 1) (((mxF (hq i) (hf 4 i) 0 (u * 31 + (nI (hf 4 i)).toInt64)) * 31 + (hsF (hq i) (hf 4 i) 0 (nI 1)).toInt64) * 31 + (nI (tlx (hq i) (hf 4 i) + 1)).toInt64) = mrF f r d (i + 1) _
    rw [mr_eq hC hM d (i + 1) _ (by omega), e4, mxF_same _ _ _ e, hsF_same _ _ _ e, tlx_same _ (fun q h => e q (Nat.zero_le _) (by omega))]
theorem mw_eq (hC : CInv f) (hM : MR f r hf hq) : ∀ d k u, k + d ≤ 4 → mwM f hf hq d k u = mwF f r d k u
  | 0, _, _, _ => rfl
  | d + 1, k, u, h => by
    have hk : k < 4 := by omega
    have e := hM.2.2.1 (4 + k) (by omega) (by omega)
    have a := hC.h5 (4 + k) (by omega)
    show mwM f hf hq d (k + 1) (mxF (fun q => hq (f 1 (4 + k)) (f 3 (4 + k) + q)) (wnM hf k) 0 (mxF (fun q => nI (wqM f hf k q)) 3 0 u)) = mwF f r d (k + 1) (if f 5 (4 + k) = 0 then mxF (wqF f k) 3 0 u else mxF (fun q => r (f 0 (4 + k)) (f 3 (4 + k) + q)) (f 4 (4 + k)) 0 (mxF (wqF f k) 3 0 u))
    rw [mw_eq hC hM d (k + 1) _ (by omega), mxF_same (g := fun q => nI (wqM f hf k q)) (g' := wqF f k) 3 0 u (fun q _ _ => wq_eq hC hM hk)]
    unfold wnM
    rw [e.1]
    by_cases h5 : f 5 (4 + k) = 0
    · rw [if_pos h5, if_pos h5]
      rfl
    · rw [if_neg h5, if_neg h5, e.2.2 (by omega), mxF_same (g := fun q => hq (f 1 (4 + k)) (f 3 (4 + k) + q)) (g' := fun q => r (f 0 (4 + k)) (f 3 (4 + k) + q)) _ _ _ (fun q _ hq' => hM.it hC (by omega) (by omega) (by omega))]
theorem mc_eq (hC : CInv f) (hM : MR f r hf hq) : ∀ d k u, k + d ≤ 3 → mcM hf d k u = mcF f d k u
  | 0, _, _, _ => rfl
  | d + 1, k, u, h => by
    show mcM hf d (k + 1) (mxF (cqM hf k) 5 0 u) = mcF f d (k + 1) (mxF (cqF f k) 5 0 u)
    rw [mc_eq hC hM d (k + 1) _ (by omega), mxF_same (g := cqM hf k) (g' := cqF f k) 5 0 u (fun q _ _ => cq_eq hC hM (by omega))]
theorem po_eq (hC : CInv f) (hM : MR f r hf hq) {i j : Nat} (hi : i < 4) (hj : j < 4) : poM f hf hq i j = poV f r i j := by
  have q1 := hC.rw hi
  have q2 := hC.rw hj
  unfold poM poV
  rw [show hf 4 i + 1 - hf 4 j = f 4 i + 1 - f 4 j by rw [hM.h4 hi, hM.h4 hj]]
  refine congrArg nI (poF_same _ _ (fun k _ hk => ?_))
  refine (stF_same (g' := fun q => r (f 0 i) (f 3 i + (k + q))) (h' := fun q => r (f 0 j) (f 3 j + q)) _ _ (fun q _ hqk => ⟨?_, ?_⟩)).trans (by rw [hM.h4 hj])
  · exact MR.ct hC hM (by omega) q1.2.2.2.2.2 (by have := hM.h4 hj; omega)
  · exact MR.ct hC hM (by omega) q2.2.2.2.2.2 (by have := hM.h4 hj; omega)
theorem mp_eq (hC : CInv f) (hM : MR f r hf hq) : ∀ d i u, i + d ≤ 4 → mpM f hf hq d i u = mpF f r d i u
  | 0, _, _, _ => rfl
  | d + 1, i, u, h => by
    show mpM f hf hq d (i + 1) (mxF (poM f hf hq i) 4 0 u) = mpF f r d (i + 1) (mxF (poV f r i) 4 0 u)
    rw [mp_eq hC hM d (i + 1) _ (by omega), mxF_same (g := poM f hf hq i) (g' := poV f r i) 4 0 u (fun q _ hq' => po_eq hC hM (by omega) (by omega))]
theorem dg_eq (hC : CInv f) (hM : MR f r hf hq) : dgM f hf hq kn = dgF f r kn := by
  unfold dgM dgF
  rw [mxF_same (g := hoM hf kn) (g' := hhF f kn) 4 0 7807 (fun q _ _ => ho_eq hM q), mr_eq hC hM 4 0 _ (by omega), mw_eq hC hM 4 0 _ (by omega), mc_eq hC hM 3 0 _ (by omega), mp_eq hC hM 4 0 _ (by omega)]
  rfl
end DGE
