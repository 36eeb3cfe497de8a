theorem dL_law_43 : decode cL_law 43 = .ok (.tableswitch 2085 0 48 #[209, 249, 301, 353, 393, 421, 485, 525, 582, 634, 662, 690, 718, 758, 798, 826, 866, 906, 946, 998, 1038, 1078, 1118, 1158, 1210, 1250, 1290, 1330, 1370, 1426, 1466, 1506, 1534, 1562, 1602, 1666, 1694, 1734, 1786, 1814, 1842, 1870, 1910, 1938, 1978, 2018, 2046, 2059, 2072], 209) := by decide +kernel
theorem dL_law_2128 : decode cL_law 2128 = .ok (.iinc 4 5, 3) := by decide +kernel
theorem dL_law_2131 : decode cL_law 2131 = .ok (.goto (-2104), 3) := by decide +kernel
theorem dL_law_2134 : decode cL_law 2134 = .ok (.iconst 1, 1) := by decide +kernel
theorem dL_law_2135 : decode cL_law 2135 = .ok (.ireturn, 1) := by decide +kernel
theorem and63 (x : Int32) : 0 ≤ (x &&& 63).toInt ∧ (x &&& 63).toInt ≤ 63 := by
  have h : (x &&& 63).toBitVec = x.toBitVec &&& 63#32 := rfl
  have h1 : (x &&& 63).toBitVec.toNat ≤ 63 := by
    rw [h, BitVec.toNat_and]
    exact Nat.and_le_right
  have h2 : (x &&& 63).toInt = ((x &&& 63).toBitVec.toNat : Int) := by
    show (x &&& 63).toBitVec.toInt = _
    rw [BitVec.toInt_eq_toNat_of_lt (by omega)]
  omega
theorem sub5 {L i : Nat} (hL : L ≤ 2560) (hi : i ≤ 2560) : nI L - nI 5 < nI i ↔ L < i + 5 := by
  have e1 : (nI L).toInt = (L : Int) := nI_toInt (by omega)
  have e2 : (nI L - nI 5).toInt = (L : Int) - 5 := by
    have e3 : (nI L - nI 5).toInt = ((nI L).toInt - (nI 5).toInt).bmod (2 ^ 32) := Int32.toInt_sub _ _
    rw [e3, e1, show (nI 5).toInt = 5 from rfl]
    exact Int.bmod_eq_of_le (by omega) (by omega)
  rw [Int32.lt_iff_toInt_lt, e2, nI_toInt (by omega)]
  omega
