def KN_0 : List Nat := [187, 0, 8, 89, 183, 0, 170, 76, 187, 0, 171, 89, 183, 0, 173, 77, 187, 0, 14, 89, 183, 0, 174, 78, 3, 54, 4, 21, 4, 42, 190, 8, 100, 163, 8, 54, 42, 21, 4, 46, 16, 63, 126, 170, 0, 0, 8, 38, 0, 0, 0, 0, 0, 0, 0, 48, 0, 0, 0, 209, 0, 0, 0, 249]
def KN_1 : List Nat := [0, 0, 1, 45, 0, 0, 1, 97, 0, 0, 1, 137, 0, 0, 1, 165, 0, 0, 1, 229, 0, 0, 2, 13, 0, 0, 2, 41, 0, 0, 2, 93, 0, 0, 2, 121, 0, 0, 2, 149, 0, 0, 2, 177, 0, 0, 2, 217, 0, 0, 3, 1, 0, 0, 3, 29, 0, 0, 3, 69, 0, 0, 3, 109]
def KN_2 : List Nat := [0, 0, 3, 149, 0, 0, 3, 201, 0, 0, 3, 241, 0, 0, 4, 25, 0, 0, 4, 65, 0, 0, 4, 105, 0, 0, 4, 157, 0, 0, 4, 197, 0, 0, 4, 237, 0, 0, 5, 21, 0, 0, 5, 61, 0, 0, 5, 117, 0, 0, 5, 157, 0, 0, 5, 197, 0, 0, 5, 225, 0, 0, 6, 27]
def KN_3 : List Nat := [0, 0, 6, 67, 0, 0, 6, 131, 0, 0, 6, 159, 0, 0, 6, 199, 0, 0, 6, 251, 0, 0, 7, 23, 0, 0, 7, 51, 0, 0, 7, 79, 0, 0, 7, 119, 0, 0, 7, 147, 0, 0, 7, 187, 0, 0, 7, 227, 0, 0, 7, 255, 0, 0, 8, 12, 0, 0, 8, 25, 43, 42, 21, 4]
def KN_4 : List Nat := [4, 96, 46, 42, 21, 4, 5, 96, 46, 45, 184, 0, 175, 54, 5, 44, 42, 21, 4, 4, 96, 46, 42, 21, 4, 5, 96, 46, 182, 0, 180, 54, 6, 167, 7, 48, 43, 42, 21, 4, 4, 96, 46, 42, 21, 4, 5, 96, 46, 42, 21, 4, 6, 96, 46, 45, 184, 0, 181, 54, 5, 44, 42, 21]
def KN_5 : List Nat := [4, 4, 96, 46, 42, 21, 4, 5, 96, 46, 42, 21, 4, 6, 96, 46, 182, 0, 184, 54, 6, 167, 6, 252, 43, 42, 21, 4, 4, 96, 46, 42, 21, 4, 5, 96, 46, 42, 21, 4, 6, 96, 46, 45, 184, 0, 185, 54, 5, 44, 42, 21, 4, 4, 96, 46, 42, 21, 4, 5, 96, 46, 42, 21]
def KN_6 : List Nat := [4, 6, 96, 46, 182, 0, 187, 54, 6, 167, 6, 200, 43, 42, 21, 4, 4, 96, 46, 42, 21, 4, 5, 96, 46, 45, 184, 0, 188, 54, 5, 44, 42, 21, 4, 4, 96, 46, 42, 21, 4, 5, 96, 46, 182, 0, 190, 54, 6, 167, 6, 160, 43, 42, 21, 4, 4, 96, 46, 45, 184, 0, 191, 54]
def KN_7 : List Nat := [5, 44, 42, 21, 4, 4, 96, 46, 182, 0, 194, 54, 6, 167, 6, 132, 43, 42, 21, 4, 4, 96, 46, 42, 21, 4, 5, 96, 46, 42, 21, 4, 6, 96, 46, 42, 21, 4, 7, 96, 46, 45, 184, 0, 195, 54, 5, 44, 42, 21, 4, 4, 96, 46, 42, 21, 4, 5, 96, 46, 42, 21, 4, 6]
def KN_8 : List Nat := [96, 46, 42, 21, 4, 7, 96, 46, 182, 0, 198, 54, 6, 167, 6, 68, 43, 42, 21, 4, 4, 96, 46, 42, 21, 4, 5, 96, 46, 45, 184, 0, 199, 54, 5, 44, 42, 21, 4, 4, 96, 46, 42, 21, 4, 5, 96, 46, 182, 0, 201, 54, 6, 167, 6, 28, 43, 42, 21, 4, 4, 96, 46, 45]
def KN_9 : List Nat := [184, 0, 202, 54, 5, 44, 42, 21, 4, 4, 96, 46, 182, 0, 204, 54, 6, 167, 6, 0, 43, 42, 21, 4, 4, 96, 46, 42, 21, 4, 5, 96, 46, 42, 21, 4, 6, 96, 46, 45, 184, 0, 205, 54, 5, 44, 42, 21, 4, 4, 96, 46, 42, 21, 4, 5, 96, 46, 42, 21, 4, 6, 96, 46]
def KN_10 : List Nat := [182, 0, 207, 54, 6, 167, 5, 204, 43, 42, 21, 4, 4, 96, 46, 45, 184, 0, 208, 54, 5, 44, 42, 21, 4, 4, 96, 46, 182, 0, 210, 54, 6, 167, 5, 176, 43, 42, 21, 4, 4, 96, 46, 45, 184, 0, 211, 54, 5, 44, 42, 21, 4, 4, 96, 46, 182, 0, 213, 54, 6, 167, 5, 148]
def KN_11 : List Nat := [43, 42, 21, 4, 4, 96, 46, 45, 184, 0, 214, 54, 5, 44, 42, 21, 4, 4, 96, 46, 182, 0, 216, 54, 6, 167, 5, 120, 43, 42, 21, 4, 4, 96, 46, 42, 21, 4, 5, 96, 46, 45, 184, 0, 217, 54, 5, 44, 42, 21, 4, 4, 96, 46, 42, 21, 4, 5, 96, 46, 182, 0, 219, 54]
def KN_12 : List Nat := [6, 167, 5, 80, 43, 42, 21, 4, 4, 96, 46, 42, 21, 4, 5, 96, 46, 45, 184, 0, 220, 54, 5, 44, 42, 21, 4, 4, 96, 46, 42, 21, 4, 5, 96, 46, 182, 0, 222, 54, 6, 167, 5, 40, 43, 42, 21, 4, 4, 96, 46, 45, 184, 0, 223, 54, 5, 44, 42, 21, 4, 4, 96, 46]
def KN_13 : List Nat := [182, 0, 225, 54, 6, 167, 5, 12, 43, 42, 21, 4, 4, 96, 46, 42, 21, 4, 5, 96, 46, 45, 184, 0, 226, 54, 5, 44, 42, 21, 4, 4, 96, 46, 42, 21, 4, 5, 96, 46, 182, 0, 228, 54, 6, 167, 4, 228, 43, 42, 21, 4, 4, 96, 46, 42, 21, 4, 5, 96, 46, 45, 184, 0]
def KN_14 : List Nat := [229, 54, 5, 44, 42, 21, 4, 4, 96, 46, 42, 21, 4, 5, 96, 46, 182, 0, 231, 54, 6, 167, 4, 188, 43, 42, 21, 4, 4, 96, 46, 42, 21, 4, 5, 96, 46, 45, 184, 0, 232, 54, 5, 44, 42, 21, 4, 4, 96, 46, 42, 21, 4, 5, 96, 46, 182, 0, 234, 54, 6, 167, 4, 148]
def KN_15 : List Nat := [43, 42, 21, 4, 4, 96, 46, 42, 21, 4, 5, 96, 46, 42, 21, 4, 6, 96, 46, 45, 184, 0, 235, 54, 5, 44, 42, 21, 4, 4, 96, 46, 42, 21, 4, 5, 96, 46, 42, 21, 4, 6, 96, 46, 182, 0, 237, 54, 6, 167, 4, 96, 43, 42, 21, 4, 4, 96, 46, 42, 21, 4, 5, 96]
def KN_16 : List Nat := [46, 45, 184, 0, 238, 54, 5, 44, 42, 21, 4, 4, 96, 46, 42, 21, 4, 5, 96, 46, 182, 0, 240, 54, 6, 167, 4, 56, 43, 42, 21, 4, 4, 96, 46, 42, 21, 4, 5, 96, 46, 45, 184, 0, 241, 54, 5, 44, 42, 21, 4, 4, 96, 46, 42, 21, 4, 5, 96, 46, 182, 0, 243, 54]
def KN_17 : List Nat := [6, 167, 4, 16, 43, 42, 21, 4, 4, 96, 46, 42, 21, 4, 5, 96, 46, 45, 184, 0, 244, 54, 5, 44, 42, 21, 4, 4, 96, 46, 42, 21, 4, 5, 96, 46, 182, 0, 246, 54, 6, 167, 3, 232, 43, 42, 21, 4, 4, 96, 46, 42, 21, 4, 5, 96, 46, 45, 184, 0, 247, 54, 5, 44]
def KN_18 : List Nat := [42, 21, 4, 4, 96, 46, 42, 21, 4, 5, 96, 46, 182, 0, 249, 54, 6, 167, 3, 192, 43, 42, 21, 4, 4, 96, 46, 42, 21, 4, 5, 96, 46, 42, 21, 4, 6, 96, 46, 45, 184, 0, 250, 54, 5, 44, 42, 21, 4, 4, 96, 46, 42, 21, 4, 5, 96, 46, 42, 21, 4, 6, 96, 46]
def KN_19 : List Nat := [182, 0, 252, 54, 6, 167, 3, 140, 43, 42, 21, 4, 4, 96, 46, 42, 21, 4, 5, 96, 46, 45, 184, 0, 253, 54, 5, 44, 42, 21, 4, 4, 96, 46, 42, 21, 4, 5, 96, 46, 182, 0, 255, 54, 6, 167, 3, 100, 43, 42, 21, 4, 4, 96, 46, 42, 21, 4, 5, 96, 46, 45, 184, 1]
def KN_20 : List Nat := [0, 54, 5, 44, 42, 21, 4, 4, 96, 46, 42, 21, 4, 5, 96, 46, 182, 1, 2, 54, 6, 167, 3, 60, 43, 42, 21, 4, 4, 96, 46, 42, 21, 4, 5, 96, 46, 45, 184, 1, 3, 54, 5, 44, 42, 21, 4, 4, 96, 46, 42, 21, 4, 5, 96, 46, 182, 1, 5, 54, 6, 167, 3, 20]
def KN_21 : List Nat := [43, 42, 21, 4, 4, 96, 46, 42, 21, 4, 5, 96, 46, 45, 184, 1, 6, 54, 5, 44, 42, 21, 4, 4, 96, 46, 42, 21, 4, 5, 96, 46, 182, 1, 8, 54, 6, 167, 2, 236, 43, 42, 21, 4, 4, 96, 46, 42, 21, 4, 5, 96, 46, 153, 0, 7, 4, 167, 0, 4, 3, 45, 184, 1]
def KN_22 : List Nat := [9, 54, 5, 44, 42, 21, 4, 4, 96, 46, 42, 21, 4, 5, 96, 46, 153, 0, 7, 4, 167, 0, 4, 3, 182, 1, 12, 54, 6, 167, 2, 180, 43, 42, 21, 4, 4, 96, 46, 42, 21, 4, 5, 96, 46, 45, 184, 1, 13, 54, 5, 44, 42, 21, 4, 4, 96, 46, 42, 21, 4, 5, 96, 46]
def KN_23 : List Nat := [182, 1, 15, 54, 6, 167, 2, 140, 43, 42, 21, 4, 4, 96, 46, 42, 21, 4, 5, 96, 46, 45, 184, 1, 16, 54, 5, 44, 42, 21, 4, 4, 96, 46, 42, 21, 4, 5, 96, 46, 182, 1, 18, 54, 6, 167, 2, 100, 43, 42, 21, 4, 4, 96, 46, 45, 184, 1, 19, 54, 5, 44, 42, 21]
def KN_24 : List Nat := [4, 4, 96, 46, 182, 1, 21, 54, 6, 167, 2, 72, 43, 42, 21, 4, 4, 96, 46, 45, 184, 1, 22, 54, 5, 44, 42, 21, 4, 4, 96, 46, 182, 1, 24, 58, 6, 44, 182, 1, 25, 21, 5, 159, 0, 5, 3, 172, 21, 5, 154, 0, 17, 45, 180, 0, 127, 25, 6, 182, 1, 29, 154, 0]
def KN_25 : List Nat := [5, 3, 172, 167, 2, 14, 43, 42, 21, 4, 4, 96, 46, 42, 21, 4, 5, 96, 46, 45, 184, 1, 35, 54, 5, 44, 42, 21, 4, 4, 96, 46, 42, 21, 4, 5, 96, 46, 182, 1, 37, 54, 6, 167, 1, 230, 43, 42, 21, 4, 4, 96, 46, 42, 21, 4, 5, 96, 46, 42, 21, 4, 6, 96]
def KN_26 : List Nat := [46, 42, 21, 4, 7, 96, 46, 45, 184, 1, 38, 54, 5, 44, 42, 21, 4, 4, 96, 46, 42, 21, 4, 5, 96, 46, 42, 21, 4, 6, 96, 46, 42, 21, 4, 7, 96, 46, 182, 1, 40, 54, 6, 167, 1, 166, 43, 42, 21, 4, 4, 96, 46, 45, 184, 1, 41, 54, 5, 44, 42, 21, 4, 4]
def KN_27 : List Nat := [96, 46, 182, 1, 43, 54, 6, 167, 1, 138, 43, 42, 21, 4, 4, 96, 46, 42, 21, 4, 5, 96, 46, 45, 184, 1, 44, 54, 5, 44, 42, 21, 4, 4, 96, 46, 42, 21, 4, 5, 96, 46, 182, 1, 46, 54, 6, 167, 1, 98, 43, 42, 21, 4, 4, 96, 46, 42, 21, 4, 5, 96, 46, 42]
def KN_28 : List Nat := [21, 4, 6, 96, 46, 45, 184, 1, 47, 54, 5, 44, 42, 21, 4, 4, 96, 46, 42, 21, 4, 5, 96, 46, 42, 21, 4, 6, 96, 46, 182, 1, 49, 54, 6, 167, 1, 46, 43, 42, 21, 4, 4, 96, 46, 45, 184, 1, 50, 54, 5, 44, 42, 21, 4, 4, 96, 46, 182, 1, 52, 54, 6, 167]
def KN_29 : List Nat := [1, 18, 43, 42, 21, 4, 4, 96, 46, 45, 184, 1, 53, 54, 5, 44, 42, 21, 4, 4, 96, 46, 182, 1, 55, 54, 6, 167, 0, 246, 43, 42, 21, 4, 4, 96, 46, 45, 184, 1, 56, 54, 5, 44, 42, 21, 4, 4, 96, 46, 182, 1, 58, 54, 6, 167, 0, 218, 43, 42, 21, 4, 4, 96]
def KN_30 : List Nat := [46, 42, 21, 4, 5, 96, 46, 45, 184, 1, 59, 54, 5, 44, 42, 21, 4, 4, 96, 46, 42, 21, 4, 5, 96, 46, 182, 1, 61, 54, 6, 167, 0, 178, 43, 42, 21, 4, 4, 96, 46, 45, 184, 1, 62, 54, 5, 44, 42, 21, 4, 4, 96, 46, 182, 1, 64, 54, 6, 167, 0, 150, 43, 42]
def KN_31 : List Nat := [21, 4, 4, 96, 46, 42, 21, 4, 5, 96, 46, 45, 184, 1, 65, 54, 5, 44, 42, 21, 4, 4, 96, 46, 42, 21, 4, 5, 96, 46, 182, 1, 67, 54, 6, 167, 0, 110, 43, 42, 21, 4, 4, 96, 46, 42, 21, 4, 5, 96, 46, 45, 184, 1, 68, 54, 5, 44, 42, 21, 4, 4, 96, 46]
def KN_32 : List Nat := [42, 21, 4, 5, 96, 46, 182, 1, 70, 54, 6, 167, 0, 70, 43, 42, 21, 4, 4, 96, 46, 45, 184, 1, 71, 54, 5, 44, 42, 21, 4, 4, 96, 46, 182, 1, 73, 54, 6, 167, 0, 42, 43, 182, 1, 74, 87, 44, 182, 1, 77, 87, 167, 0, 29, 43, 182, 1, 78, 87, 44, 182, 1, 82]
def KNR : List Nat := [87, 167, 0, 16, 43, 182, 1, 83, 88, 44, 182, 1, 87, 88, 167, 0, 3, 132, 4, 5, 167, 247, 199, 4, 172]
def KNS : List (List Nat) := [KN_0, KN_1, KN_2, KN_3, KN_4, KN_5, KN_6, KN_7, KN_8, KN_9, KN_10, KN_11, KN_12, KN_13, KN_14, KN_15, KN_16, KN_17, KN_18, KN_19, KN_20, KN_21, KN_22, KN_23, KN_24, KN_25, KN_26, KN_27, KN_28, KN_29, KN_30, KN_31, KN_32]
set_option maxRecDepth 100000 in
theorem kn_eq : cL_law.data.toList.map UInt8.toNat = KNS.flatten ++ KNR := by decide +kernel
theorem kn_64 : ∀ K ∈ KNS, K.length = 64 := by decide +kernel
theorem kb_0 (r : Nat) {b : Nat} (h : KN_0[r]? = some b) : cb cL_law (64 * 0 + r) = some b := by
  unfold cb
  rw [kn_eq, fl64 kn_64 0 r (by
    have := (List.getElem?_eq_some_iff.mp h).1
    exact this) KN_0 rfl]
  exact h
theorem kb_1 (r : Nat) {b : Nat} (h : KN_1[r]? = some b) : cb cL_law (64 * 1 + r) = some b := by
  unfold cb
  rw [kn_eq, fl64 kn_64 1 r (by
    have := (List.getElem?_eq_some_iff.mp h).1
    exact this) KN_1 rfl]
  exact h
theorem kb_2 (r : Nat) {b : Nat} (h : KN_2[r]? = some b) : cb cL_law (64 * 2 + r) = some b := by
  unfold cb
  rw [kn_eq, fl64 kn_64 2 r (by
    have := (List.getElem?_eq_some_iff.mp h).1
    exact this) KN_2 rfl]
  exact h
theorem kb_3 (r : Nat) {b : Nat} (h : KN_3[r]? = some b) : cb cL_law (64 * 3 + r) = some b := by
  unfold cb
  rw [kn_eq, fl64 kn_64 3 r (by
    have := (List.getElem?_eq_some_iff.mp h).1
    exact this) KN_3 rfl]
  exact h
theorem kb_4 (r : Nat) {b : Nat} (h : KN_4[r]? = some b) : cb cL_law (64 * 4 + r) = some b := by
  unfold cb
  rw [kn_eq, fl64 kn_64 4 r (by
    have := (List.getElem?_eq_some_iff.mp h).1
    exact this) KN_4 rfl]
  exact h
theorem kb_5 (r : Nat) {b : Nat} (h : KN_5[r]? = some b) : cb cL_law (64 * 5 + r) = some b := by
  unfold cb
  rw [kn_eq, fl64 kn_64 5 r (by
    have := (List.getElem?_eq_some_iff.mp h).1
    exact this) KN_5 rfl]
  exact h
theorem kb_6 (r : Nat) {b : Nat} (h : KN_6[r]? = some b) : cb cL_law (64 * 6 + r) = some b := by
  unfold cb
  rw [kn_eq, fl64 kn_64 6 r (by
    have := (List.getElem?_eq_some_iff.mp h).1
    exact this) KN_6 rfl]
  exact h
theorem kb_7 (r : Nat) {b : Nat} (h : KN_7[r]? = some b) : cb cL_law (64 * 7 + r) = some b := by
  unfold cb
  rw [kn_eq, fl64 kn_64 7 r (by
    have := (List.getElem?_eq_some_iff.mp h).1
    exact this) KN_7 rfl]
  exact h
theorem kb_8 (r : Nat) {b : Nat} (h : KN_8[r]? = some b) : cb cL_law (64 * 8 + r) = some b := by
  unfold cb
  rw [kn_eq, fl64 kn_64 8 r (by
    have := (List.getElem?_eq_some_iff.mp h).1
    exact this) KN_8 rfl]
  exact h
theorem kb_9 (r : Nat) {b : Nat} (h : KN_9[r]? = some b) : cb cL_law (64 * 9 + r) = some b := by
  unfold cb
  rw [kn_eq, fl64 kn_64 9 r (by
    have := (List.getElem?_eq_some_iff.mp h).1
    exact this) KN_9 rfl]
  exact h
theorem kb_10 (r : Nat) {b : Nat} (h : KN_10[r]? = some b) : cb cL_law (64 * 10 + r) = some b := by
  unfold cb
  rw [kn_eq, fl64 kn_64 10 r (by
    have := (List.getElem?_eq_some_iff.mp h).1
    exact this) KN_10 rfl]
  exact h
theorem kb_11 (r : Nat) {b : Nat} (h : KN_11[r]? = some b) : cb cL_law (64 * 11 + r) = some b := by
  unfold cb
  rw [kn_eq, fl64 kn_64 11 r (by
    have := (List.getElem?_eq_some_iff.mp h).1
    exact this) KN_11 rfl]
  exact h
theorem kb_12 (r : Nat) {b : Nat} (h : KN_12[r]? = some b) : cb cL_law (64 * 12 + r) = some b := by
  unfold cb
  rw [kn_eq, fl64 kn_64 12 r (by
    have := (List.getElem?_eq_some_iff.mp h).1
    exact this) KN_12 rfl]
  exact h
theorem kb_13 (r : Nat) {b : Nat} (h : KN_13[r]? = some b) : cb cL_law (64 * 13 + r) = some b := by
  unfold cb
  rw [kn_eq, fl64 kn_64 13 r (by
    have := (List.getElem?_eq_some_iff.mp h).1
    exact this) KN_13 rfl]
  exact h
theorem kb_14 (r : Nat) {b : Nat} (h : KN_14[r]? = some b) : cb cL_law (64 * 14 + r) = some b := by
  unfold cb
  rw [kn_eq, fl64 kn_64 14 r (by
    have := (List.getElem?_eq_some_iff.mp h).1
    exact this) KN_14 rfl]
  exact h
theorem kb_15 (r : Nat) {b : Nat} (h : KN_15[r]? = some b) : cb cL_law (64 * 15 + r) = some b := by
  unfold cb
  rw [kn_eq, fl64 kn_64 15 r (by
    have := (List.getElem?_eq_some_iff.mp h).1
    exact this) KN_15 rfl]
  exact h
theorem kb_16 (r : Nat) {b : Nat} (h : KN_16[r]? = some b) : cb cL_law (64 * 16 + r) = some b := by
  unfold cb
  rw [kn_eq, fl64 kn_64 16 r (by
    have := (List.getElem?_eq_some_iff.mp h).1
    exact this) KN_16 rfl]
  exact h
theorem kb_17 (r : Nat) {b : Nat} (h : KN_17[r]? = some b) : cb cL_law (64 * 17 + r) = some b := by
  unfold cb
  rw [kn_eq, fl64 kn_64 17 r (by
    have := (List.getElem?_eq_some_iff.mp h).1
    exact this) KN_17 rfl]
  exact h
theorem kb_18 (r : Nat) {b : Nat} (h : KN_18[r]? = some b) : cb cL_law (64 * 18 + r) = some b := by
  unfold cb
  rw [kn_eq, fl64 kn_64 18 r (by
    have := (List.getElem?_eq_some_iff.mp h).1
    exact this) KN_18 rfl]
  exact h
theorem kb_19 (r : Nat) {b : Nat} (h : KN_19[r]? = some b) : cb cL_law (64 * 19 + r) = some b := by
  unfold cb
  rw [kn_eq, fl64 kn_64 19 r (by
    have := (List.getElem?_eq_some_iff.mp h).1
    exact this) KN_19 rfl]
  exact h
theorem kb_20 (r : Nat) {b : Nat} (h : KN_20[r]? = some b) : cb cL_law (64 * 20 + r) = some b := by
  unfold cb
  rw [kn_eq, fl64 kn_64 20 r (by
    have := (List.getElem?_eq_some_iff.mp h).1
    exact this) KN_20 rfl]
  exact h
theorem kb_21 (r : Nat) {b : Nat} (h : KN_21[r]? = some b) : cb cL_law (64 * 21 + r) = some b := by
  unfold cb
  rw [kn_eq, fl64 kn_64 21 r (by
    have := (List.getElem?_eq_some_iff.mp h).1
    exact this) KN_21 rfl]
  exact h
theorem kb_22 (r : Nat) {b : Nat} (h : KN_22[r]? = some b) : cb cL_law (64 * 22 + r) = some b := by
  unfold cb
  rw [kn_eq, fl64 kn_64 22 r (by
    have := (List.getElem?_eq_some_iff.mp h).1
    exact this) KN_22 rfl]
  exact h
theorem kb_23 (r : Nat) {b : Nat} (h : KN_23[r]? = some b) : cb cL_law (64 * 23 + r) = some b := by
  unfold cb
  rw [kn_eq, fl64 kn_64 23 r (by
    have := (List.getElem?_eq_some_iff.mp h).1
    exact this) KN_23 rfl]
  exact h
theorem kb_24 (r : Nat) {b : Nat} (h : KN_24[r]? = some b) : cb cL_law (64 * 24 + r) = some b := by
  unfold cb
  rw [kn_eq, fl64 kn_64 24 r (by
    have := (List.getElem?_eq_some_iff.mp h).1
    exact this) KN_24 rfl]
  exact h
theorem kb_25 (r : Nat) {b : Nat} (h : KN_25[r]? = some b) : cb cL_law (64 * 25 + r) = some b := by
  unfold cb
  rw [kn_eq, fl64 kn_64 25 r (by
    have := (List.getElem?_eq_some_iff.mp h).1
    exact this) KN_25 rfl]
  exact h
theorem kb_26 (r : Nat) {b : Nat} (h : KN_26[r]? = some b) : cb cL_law (64 * 26 + r) = some b := by
  unfold cb
  rw [kn_eq, fl64 kn_64 26 r (by
    have := (List.getElem?_eq_some_iff.mp h).1
    exact this) KN_26 rfl]
  exact h
theorem kb_27 (r : Nat) {b : Nat} (h : KN_27[r]? = some b) : cb cL_law (64 * 27 + r) = some b := by
  unfold cb
  rw [kn_eq, fl64 kn_64 27 r (by
    have := (List.getElem?_eq_some_iff.mp h).1
    exact this) KN_27 rfl]
  exact h
theorem kb_28 (r : Nat) {b : Nat} (h : KN_28[r]? = some b) : cb cL_law (64 * 28 + r) = some b := by
  unfold cb
  rw [kn_eq, fl64 kn_64 28 r (by
    have := (List.getElem?_eq_some_iff.mp h).1
    exact this) KN_28 rfl]
  exact h
theorem kb_29 (r : Nat) {b : Nat} (h : KN_29[r]? = some b) : cb cL_law (64 * 29 + r) = some b := by
  unfold cb
  rw [kn_eq, fl64 kn_64 29 r (by
    have := (List.getElem?_eq_some_iff.mp h).1
    exact this) KN_29 rfl]
  exact h
theorem kb_30 (r : Nat) {b : Nat} (h : KN_30[r]? = some b) : cb cL_law (64 * 30 + r) = some b := by
  unfold cb
  rw [kn_eq, fl64 kn_64 30 r (by
    have := (List.getElem?_eq_some_iff.mp h).1
    exact this) KN_30 rfl]
  exact h
theorem kb_31 (r : Nat) {b : Nat} (h : KN_31[r]? = some b) : cb cL_law (64 * 31 + r) = some b := by
  unfold cb
  rw [kn_eq, fl64 kn_64 31 r (by
    have := (List.getElem?_eq_some_iff.mp h).1
    exact this) KN_31 rfl]
  exact h
theorem kb_32 (r : Nat) {b : Nat} (h : KN_32[r]? = some b) : cb cL_law (64 * 32 + r) = some b := by
  unfold cb
  rw [kn_eq, fl64 kn_64 32 r (by
    have := (List.getElem?_eq_some_iff.mp h).1
    exact this) KN_32 rfl]
  exact h
