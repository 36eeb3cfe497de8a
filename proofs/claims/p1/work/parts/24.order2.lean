theorem up_mono {S : Nat → Int} {e : Nat} (hs : ∀ q, q + 1 < e → S q ≤ S (q + 1)) : ∀ d q, q + d < e → S q ≤ S (q + d)
  | 0, q, _ => Int.le_refl _
  | d + 1, q, h => Int.le_trans (up_mono hs d q (by omega)) (hs (q + d) (by omega))
theorem rk0_le {x y : Int32} (hx : -99 ≤ x.toInt ∧ x.toInt ≤ 99) (hy : -99 ≤ y.toInt ∧ y.toInt ≤ 99) : rkF 0 x ≤ rkF 0 y ↔ y.toInt ≤ x.toInt := by
  have e1 : (-x).toInt = -x.toInt := by
    rw [Int32.toInt_neg]
    exact Int.bmod_eq_of_le (by omega) (by omega)
  have e2 : (-y).toInt = -y.toInt := by
    rw [Int32.toInt_neg]
    exact Int.bmod_eq_of_le (by omega) (by omega)
  show -x ≤ -y ↔ _
  rw [Int32.le_iff_toInt_le, e1, e2]
  omega
theorem rk3_le {x y : Int32} : rkF 3 x ≤ rkF 3 y ↔ x.toInt ≤ y.toInt := Int32.le_iff_toInt_le
theorem in1_bd {r : Nat → Nat → Int32} {j lo b e n : Nat} (he : e < n) (hb : ∀ q, q < n → -99 ≤ (r j (lo + q)).toInt ∧ (r j (lo + q)).toInt ≤ 99) : ∀ q, q < n → -99 ≤ (in1 r j lo b e j (lo + q)).toInt ∧ (in1 r j lo b e j (lo + q)).toInt ≤ 99 := by
  intro q hq
  generalize hp : inP (fun q => r j (lo + q)) b (r j (lo + e)) e = p
  rcases Nat.lt_trichotomy q p with h | h | h
  · rw [in1_lt hp h]
    exact hb q hq
  · subst h
    rw [in1_eq hp]
    exact hb e he
  · by_cases g : q ≤ e
    · rw [in1_gt hp h g]
      exact hb (q - 1) (by omega)
    · rw [in1_far (by omega)]
      exact hb q hq
theorem sr_mir (jA loA jB loB : Nat) : ∀ (d e : Nat) (rA rB : Nat → Nat → Int32), (∀ q, q < e → (rA jA (loA + q)).toInt = (rB jB (loB + (e - 1 - q))).toInt) → (∀ q, q + 1 < e → (rB jB (loB + q)).toInt ≤ (rB jB (loB + (q + 1))).toInt) → (∀ q, e ≤ q → q < e + d → rA jA (loA + q) = rB jB (loB + q)) → (∀ q, q < e + d → -99 ≤ (rA jA (loA + q)).toInt ∧ (rA jA (loA + q)).toInt ≤ 99) → (∀ q, q < e + d → -99 ≤ (rB jB (loB + q)).toInt ∧ (rB jB (loB + q)).toInt ≤ 99) → ∀ q, q < e + d → (srF jA loA 0 d e rA jA (loA + q)).toInt = (srF jB loB 3 d e rB jB (loB + (e + d - 1 - q))).toInt
  | 0, e, rA, rB, h, _, _, _, _ => fun q hq => h q hq
  | d + 1, e, rA, rB, h, hup, hrest, bA, bB => by
    have hx : rA jA (loA + e) = rB jB (loB + e) := hrest e (Nat.le_refl e) (by omega)
    have lA := inP_le (fun q => rA jA (loA + q)) 0 (rA jA (loA + e)) e
    have gA := inP_ge (fun q => rA jA (loA + q)) 0 (rA jA (loA + e)) e
    have tA := inP_at (fun q => rA jA (loA + q)) 0 (rA jA (loA + e)) e
    have lB := inP_le (fun q => rB jB (loB + q)) 3 (rB jB (loB + e)) e
    have gB := inP_ge (fun q => rB jB (loB + q)) 3 (rB jB (loB + e)) e
    have tB := inP_at (fun q => rB jB (loB + q)) 3 (rB jB (loB + e)) e
    generalize hA : inP (fun q => rA jA (loA + q)) 0 (rA jA (loA + e)) e = p' at lA gA tA
    generalize hB : inP (fun q => rB jB (loB + q)) 3 (rB jB (loB + e)) e = p at lB gB tB
    have a1 : ∀ q, q < p → (rB jB (loB + q)).toInt ≤ (rB jB (loB + e)).toInt := fun q hq => by
      have h1 := rk3_le.mp (tB (by omega))
      have h2 := up_mono (S := fun q => (rB jB (loB + q)).toInt) hup (p - 1 - q) q (by omega)
      rw [show q + (p - 1 - q) = p - 1 by omega] at h2
      exact Int.le_trans h2 h1
    have a2 : ∀ q, p ≤ q → q < e → (rB jB (loB + e)).toInt < (rB jB (loB + q)).toInt := fun q h1 h2 => by
      have h3 := gB q h1 h2
      exact Int.not_le.mp (fun z => h3 (rk3_le.mpr z))
    have b1 : ∀ q, q < p' → (rB jB (loB + e)).toInt ≤ (rA jA (loA + q)).toInt := fun q hq => by
      have h1 := (rk0_le (bA (p' - 1) (by omega)) (bA e (by omega))).mp (tA (by omega))
      have h2 := up_mono (S := fun q => (rB jB (loB + q)).toInt) hup (p' - 1 - q) (e - 1 - (p' - 1)) (by omega)
      have h3 := h (p' - 1) (by omega)
      have h4 := h q (by omega)
      rw [show e - 1 - (p' - 1) + (p' - 1 - q) = e - 1 - q by omega] at h2
      rw [hx] at h1
      have h2' : (rB jB (loB + (e - 1 - (p' - 1)))).toInt ≤ (rB jB (loB + (e - 1 - q))).toInt := h2
      omega
    have b2 : ∀ q, p' ≤ q → q < e → (rA jA (loA + q)).toInt < (rB jB (loB + e)).toInt := fun q h1 h2 => by
      have h3 := gA q h1 h2
      rw [← hx]
      exact Int.not_le.mp (fun z => h3 ((rk0_le (bA q (by omega)) (bA e (by omega))).mpr z))
    intro q hq
    have hc := ins_core (S := fun q => (rB jB (loB + q)).toInt) (T := fun q => (rA jA (loA + q)).toInt) (S' := fun q => (in1 rB jB loB 3 e jB (loB + q)).toInt) (T' := fun q => (in1 rA jA loA 0 e jA (loA + q)).toInt) (x := (rB jB (loB + e)).toInt) h lB lA a1 a2 b1 b2 (fun k hk => congrArg Int32.toInt (in1_lt hB hk)) (congrArg Int32.toInt (in1_eq hB)) (fun k h1 h2 => congrArg Int32.toInt (in1_gt hB h1 h2)) (fun k hk => congrArg Int32.toInt (in1_lt hA hk)) (congrArg Int32.toInt ((in1_eq hA).trans hx)) (fun k h1 h2 => congrArg Int32.toInt (in1_gt hA h1 h2))
    have hu := ins_up (S := fun q => (rB jB (loB + q)).toInt) (S' := fun q => (in1 rB jB loB 3 e jB (loB + q)).toInt) (x := (rB jB (loB + e)).toInt) hup lB a1 a2 (fun k hk => congrArg Int32.toInt (in1_lt hB hk)) (congrArg Int32.toInt (in1_eq hB)) (fun k h1 h2 => congrArg Int32.toInt (in1_gt hB h1 h2))
    have hh := sr_mir jA loA jB loB d (e + 1) (in1 rA jA loA 0 e) (in1 rB jB loB 3 e) (fun q hq => (hc q hq).trans (by rw [show e + 1 - 1 - q = e - q by omega])) hu (fun q h1 h2 => (in1_far (by omega)).trans ((hrest q (by omega) (by omega)).trans (in1_far (by omega)).symm)) (fun q hq => in1_bd (n := e + 1 + d) (by omega) (fun q hq => bA q (by omega)) q hq) (fun q hq => in1_bd (n := e + 1 + d) (by omega) (fun q hq => bB q (by omega)) q hq) q (by omega)
    rw [show e + (d + 1) - 1 - q = e + 1 + d - 1 - q by omega]
    exact hh
