def KN_0 : List Nat := [187, 0, 8, 89, 183, 0, 170, 76, 187, 0, 171, 89, 183, 0, 173, 77, 187, 0, 14, 89, 183, 0, 174, 78, 3, 54, 4, 21, 4, 42, 190, 8, 100, 163, 8, 53, 42, 21, 4, 46, 16, 63, 126, 170, 0, 0, 8, 37, 0, 0, 0, 0, 0, 0, 0, 48, 0, 0, 0, 209, 0, 0, 0, 249]
def KN_1 : List Nat := [0, 0, 1, 45, 0, 0, 1, 97, 0, 0, 1, 137, 0, 0, 1, 165, 0, 0, 1, 229, 0, 0, 2, 13, 0, 0, 2, 41, 0, 0, 2, 93, 0, 0, 2, 121, 0, 0, 2, 149, 0, 0, 2, 177, 0, 0, 2, 246, 0, 0, 3, 30, 0, 0, 3, 58, 0, 0, 3, 98, 0, 0, 3, 138]
def KN_2 : List Nat := [0, 0, 3, 178, 0, 0, 3, 230, 0, 0, 4, 14, 0, 0, 4, 54, 0, 0, 4, 94, 0, 0, 4, 134, 0, 0, 4, 186, 0, 0, 4, 226, 0, 0, 5, 10, 0, 0, 5, 50, 0, 0, 5, 90, 0, 0, 5, 146, 0, 0, 5, 186, 0, 0, 5, 226, 0, 0, 5, 254, 0, 0, 6, 26]
def KN_3 : List Nat := [0, 0, 6, 66, 0, 0, 6, 130, 0, 0, 6, 158, 0, 0, 6, 198, 0, 0, 6, 250, 0, 0, 7, 22, 0, 0, 7, 50, 0, 0, 7, 78, 0, 0, 7, 118, 0, 0, 7, 146, 0, 0, 7, 186, 0, 0, 7, 226, 0, 0, 7, 254, 0, 0, 8, 11, 0, 0, 8, 24, 43, 42, 21, 4]
def KN_4 : List Nat := [4, 96, 46, 42, 21, 4, 5, 96, 46, 45, 184, 0, 175, 54, 5, 44, 42, 21, 4, 4, 96, 46, 42, 21, 4, 5, 96, 46, 182, 0, 180, 54, 6, 167, 7, 47, 43, 42, 21, 4, 4, 96, 46, 42, 21, 4, 5, 96, 46, 42, 21, 4, 6, 96, 46, 45, 184, 0, 181, 54, 5, 44, 42, 21]
def KN_5 : List Nat := [4, 4, 96, 46, 42, 21, 4, 5, 96, 46, 42, 21, 4, 6, 96, 46, 182, 0, 184, 54, 6, 167, 6, 251, 43, 42, 21, 4, 4, 96, 46, 42, 21, 4, 5, 96, 46, 42, 21, 4, 6, 96, 46, 45, 184, 0, 185, 54, 5, 44, 42, 21, 4, 4, 96, 46, 42, 21, 4, 5, 96, 46, 42, 21]
def KN_6 : List Nat := [4, 6, 96, 46, 182, 0, 187, 54, 6, 167, 6, 199, 43, 42, 21, 4, 4, 96, 46, 42, 21, 4, 5, 96, 46, 45, 184, 0, 188, 54, 5, 44, 42, 21, 4, 4, 96, 46, 42, 21, 4, 5, 96, 46, 182, 0, 190, 54, 6, 167, 6, 159, 43, 42, 21, 4, 4, 96, 46, 45, 184, 0, 191, 54]
def KN_7 : List Nat := [5, 44, 42, 21, 4, 4, 96, 46, 182, 0, 194, 54, 6, 167, 6, 131, 43, 42, 21, 4, 4, 96, 46, 42, 21, 4, 5, 96, 46, 42, 21, 4, 6, 96, 46, 42, 21, 4, 7, 96, 46, 45, 184, 0, 195, 54, 5, 44, 42, 21, 4, 4, 96, 46, 42, 21, 4, 5, 96, 46, 42, 21, 4, 6]
def KN_8 : List Nat := [96, 46, 42, 21, 4, 7, 96, 46, 182, 0, 198, 54, 6, 167, 6, 67, 43, 42, 21, 4, 4, 96, 46, 42, 21, 4, 5, 96, 46, 45, 184, 0, 199, 54, 5, 44, 42, 21, 4, 4, 96, 46, 42, 21, 4, 5, 96, 46, 182, 0, 201, 54, 6, 167, 6, 27, 43, 42, 21, 4, 4, 96, 46, 45]
def KN_9 : List Nat := [184, 0, 202, 54, 5, 44, 42, 21, 4, 4, 96, 46, 182, 0, 204, 54, 6, 167, 5, 255, 43, 42, 21, 4, 4, 96, 46, 42, 21, 4, 5, 96, 46, 42, 21, 4, 6, 96, 46, 45, 184, 0, 205, 54, 5, 44, 42, 21, 4, 4, 96, 46, 42, 21, 4, 5, 96, 46, 42, 21, 4, 6, 96, 46]
def KN_10 : List Nat := [182, 0, 207, 54, 6, 167, 5, 203, 43, 42, 21, 4, 4, 96, 46, 45, 184, 0, 208, 54, 5, 44, 42, 21, 4, 4, 96, 46, 182, 0, 210, 54, 6, 167, 5, 175, 43, 42, 21, 4, 4, 96, 46, 45, 184, 0, 211, 54, 5, 44, 42, 21, 4, 4, 96, 46, 182, 0, 213, 54, 6, 167, 5, 147]
def KN_11 : List Nat := [43, 42, 21, 4, 4, 96, 46, 45, 184, 0, 214, 54, 5, 44, 42, 21, 4, 4, 96, 46, 182, 0, 216, 54, 6, 167, 5, 119, 43, 42, 21, 4, 4, 96, 46, 42, 21, 4, 5, 96, 46, 45, 184, 0, 217, 54, 5, 44, 42, 21, 4, 4, 96, 46, 42, 21, 4, 5, 96, 46, 182, 0, 219, 54]
def KN_12 : List Nat := [6, 44, 182, 0, 220, 21, 5, 159, 0, 5, 3, 172, 21, 5, 154, 0, 16, 45, 180, 0, 13, 21, 6, 133, 148, 153, 0, 5, 3, 172, 167, 5, 50, 43, 42, 21, 4, 4, 96, 46, 42, 21, 4, 5, 96, 46, 45, 184, 0, 224, 54, 5, 44, 42, 21, 4, 4, 96, 46, 42, 21, 4, 5, 96]
def KN_13 : List Nat := [46, 182, 0, 226, 54, 6, 167, 5, 10, 43, 42, 21, 4, 4, 96, 46, 45, 184, 0, 227, 54, 5, 44, 42, 21, 4, 4, 96, 46, 182, 0, 229, 54, 6, 167, 4, 238, 43, 42, 21, 4, 4, 96, 46, 42, 21, 4, 5, 96, 46, 45, 184, 0, 230, 54, 5, 44, 42, 21, 4, 4, 96, 46, 42]
def KN_14 : List Nat := [21, 4, 5, 96, 46, 182, 0, 232, 54, 6, 167, 4, 198, 43, 42, 21, 4, 4, 96, 46, 42, 21, 4, 5, 96, 46, 45, 184, 0, 233, 54, 5, 44, 42, 21, 4, 4, 96, 46, 42, 21, 4, 5, 96, 46, 182, 0, 235, 54, 6, 167, 4, 158, 43, 42, 21, 4, 4, 96, 46, 42, 21, 4, 5]
def KN_15 : List Nat := [96, 46, 45, 184, 0, 236, 54, 5, 44, 42, 21, 4, 4, 96, 46, 42, 21, 4, 5, 96, 46, 182, 0, 238, 54, 6, 167, 4, 118, 43, 42, 21, 4, 4, 96, 46, 42, 21, 4, 5, 96, 46, 42, 21, 4, 6, 96, 46, 45, 184, 0, 239, 54, 5, 44, 42, 21, 4, 4, 96, 46, 42, 21, 4]
def KN_16 : List Nat := [5, 96, 46, 42, 21, 4, 6, 96, 46, 182, 0, 241, 54, 6, 167, 4, 66, 43, 42, 21, 4, 4, 96, 46, 42, 21, 4, 5, 96, 46, 45, 184, 0, 242, 54, 5, 44, 42, 21, 4, 4, 96, 46, 42, 21, 4, 5, 96, 46, 182, 0, 244, 54, 6, 167, 4, 26, 43, 42, 21, 4, 4, 96, 46]
def KN_17 : List Nat := [42, 21, 4, 5, 96, 46, 45, 184, 0, 245, 54, 5, 44, 42, 21, 4, 4, 96, 46, 42, 21, 4, 5, 96, 46, 182, 0, 247, 54, 6, 167, 3, 242, 43, 42, 21, 4, 4, 96, 46, 42, 21, 4, 5, 96, 46, 45, 184, 0, 248, 54, 5, 44, 42, 21, 4, 4, 96, 46, 42, 21, 4, 5, 96]
def KN_18 : List Nat := [46, 182, 0, 250, 54, 6, 167, 3, 202, 43, 42, 21, 4, 4, 96, 46, 42, 21, 4, 5, 96, 46, 45, 184, 0, 251, 54, 5, 44, 42, 21, 4, 4, 96, 46, 42, 21, 4, 5, 96, 46, 182, 0, 253, 54, 6, 167, 3, 162, 43, 42, 21, 4, 4, 96, 46, 42, 21, 4, 5, 96, 46, 42, 21]
def KN_19 : List Nat := [4, 6, 96, 46, 45, 184, 0, 254, 54, 5, 44, 42, 21, 4, 4, 96, 46, 42, 21, 4, 5, 96, 46, 42, 21, 4, 6, 96, 46, 182, 1, 0, 54, 6, 167, 3, 110, 43, 42, 21, 4, 4, 96, 46, 42, 21, 4, 5, 96, 46, 45, 184, 1, 1, 54, 5, 44, 42, 21, 4, 4, 96, 46, 42]
def KN_20 : List Nat := [21, 4, 5, 96, 46, 182, 1, 3, 54, 6, 167, 3, 70, 43, 42, 21, 4, 4, 96, 46, 42, 21, 4, 5, 96, 46, 45, 184, 1, 4, 54, 5, 44, 42, 21, 4, 4, 96, 46, 42, 21, 4, 5, 96, 46, 182, 1, 6, 54, 6, 167, 3, 30, 43, 42, 21, 4, 4, 96, 46, 42, 21, 4, 5]
def KN_21 : List Nat := [96, 46, 45, 184, 1, 7, 54, 5, 44, 42, 21, 4, 4, 96, 46, 42, 21, 4, 5, 96, 46, 182, 1, 9, 54, 6, 167, 2, 246, 43, 42, 21, 4, 4, 96, 46, 42, 21, 4, 5, 96, 46, 45, 184, 1, 10, 54, 5, 44, 42, 21, 4, 4, 96, 46, 42, 21, 4, 5, 96, 46, 182, 1, 12]
def KN_22 : List Nat := [54, 6, 167, 2, 206, 43, 42, 21, 4, 4, 96, 46, 42, 21, 4, 5, 96, 46, 153, 0, 7, 4, 167, 0, 4, 3, 45, 184, 1, 13, 54, 5, 44, 42, 21, 4, 4, 96, 46, 42, 21, 4, 5, 96, 46, 153, 0, 7, 4, 167, 0, 4, 3, 182, 1, 16, 54, 6, 167, 2, 150, 43, 42, 21]
def KN_23 : List Nat := [4, 4, 96, 46, 42, 21, 4, 5, 96, 46, 45, 184, 1, 17, 54, 5, 44, 42, 21, 4, 4, 96, 46, 42, 21, 4, 5, 96, 46, 182, 1, 19, 54, 6, 167, 2, 110, 43, 42, 21, 4, 4, 96, 46, 42, 21, 4, 5, 96, 46, 45, 184, 1, 20, 54, 5, 44, 42, 21, 4, 4, 96, 46, 42]
def KN_24 : List Nat := [21, 4, 5, 96, 46, 182, 1, 22, 54, 6, 167, 2, 70, 43, 42, 21, 4, 4, 96, 46, 45, 184, 1, 23, 54, 5, 44, 42, 21, 4, 4, 96, 46, 182, 1, 25, 54, 6, 167, 2, 42, 43, 42, 21, 4, 4, 96, 46, 45, 184, 1, 26, 54, 5, 44, 42, 21, 4, 4, 96, 46, 182, 1, 28]
def KN_25 : List Nat := [58, 6, 167, 2, 14, 43, 42, 21, 4, 4, 96, 46, 42, 21, 4, 5, 96, 46, 45, 184, 1, 29, 54, 5, 44, 42, 21, 4, 4, 96, 46, 42, 21, 4, 5, 96, 46, 182, 1, 31, 54, 6, 167, 1, 230, 43, 42, 21, 4, 4, 96, 46, 42, 21, 4, 5, 96, 46, 42, 21, 4, 6, 96, 46]
def KN_26 : List Nat := [42, 21, 4, 7, 96, 46, 45, 184, 1, 32, 54, 5, 44, 42, 21, 4, 4, 96, 46, 42, 21, 4, 5, 96, 46, 42, 21, 4, 6, 96, 46, 42, 21, 4, 7, 96, 46, 182, 1, 34, 54, 6, 167, 1, 166, 43, 42, 21, 4, 4, 96, 46, 45, 184, 1, 35, 54, 5, 44, 42, 21, 4, 4, 96]
def KN_27 : List Nat := [46, 182, 1, 37, 54, 6, 167, 1, 138, 43, 42, 21, 4, 4, 96, 46, 42, 21, 4, 5, 96, 46, 45, 184, 1, 38, 54, 5, 44, 42, 21, 4, 4, 96, 46, 42, 21, 4, 5, 96, 46, 182, 1, 40, 54, 6, 167, 1, 98, 43, 42, 21, 4, 4, 96, 46, 42, 21, 4, 5, 96, 46, 42, 21]
def KN_28 : List Nat := [4, 6, 96, 46, 45, 184, 1, 41, 54, 5, 44, 42, 21, 4, 4, 96, 46, 42, 21, 4, 5, 96, 46, 42, 21, 4, 6, 96, 46, 182, 1, 43, 54, 6, 167, 1, 46, 43, 42, 21, 4, 4, 96, 46, 45, 184, 1, 44, 54, 5, 44, 42, 21, 4, 4, 96, 46, 182, 1, 46, 54, 6, 167, 1]
def KN_29 : List Nat := [18, 43, 42, 21, 4, 4, 96, 46, 45, 184, 1, 47, 54, 5, 44, 42, 21, 4, 4, 96, 46, 182, 1, 49, 54, 6, 167, 0, 246, 43, 42, 21, 4, 4, 96, 46, 45, 184, 1, 50, 54, 5, 44, 42, 21, 4, 4, 96, 46, 182, 1, 52, 54, 6, 167, 0, 218, 43, 42, 21, 4, 4, 96, 46]
def KN_30 : List Nat := [42, 21, 4, 5, 96, 46, 45, 184, 1, 53, 54, 5, 44, 42, 21, 4, 4, 96, 46, 42, 21, 4, 5, 96, 46, 182, 1, 55, 54, 6, 167, 0, 178, 43, 42, 21, 4, 4, 96, 46, 45, 184, 1, 56, 54, 5, 44, 42, 21, 4, 4, 96, 46, 182, 1, 58, 54, 6, 167, 0, 150, 43, 42, 21]
def KN_31 : List Nat := [4, 4, 96, 46, 42, 21, 4, 5, 96, 46, 45, 184, 1, 59, 54, 5, 44, 42, 21, 4, 4, 96, 46, 42, 21, 4, 5, 96, 46, 182, 1, 61, 54, 6, 167, 0, 110, 43, 42, 21, 4, 4, 96, 46, 42, 21, 4, 5, 96, 46, 45, 184, 1, 62, 54, 5, 44, 42, 21, 4, 4, 96, 46, 42]
def KN_32 : List Nat := [21, 4, 5, 96, 46, 182, 1, 64, 54, 6, 167, 0, 70, 43, 42, 21, 4, 4, 96, 46, 45, 184, 1, 65, 54, 5, 44, 42, 21, 4, 4, 96, 46, 182, 1, 67, 54, 6, 167, 0, 42, 43, 182, 1, 68, 87, 44, 182, 1, 71, 87, 167, 0, 29, 43, 182, 1, 72, 87, 44, 182, 1, 76, 87]
def KNR : List Nat := [167, 0, 16, 43, 182, 1, 77, 88, 44, 182, 1, 81, 88, 167, 0, 3, 132, 4, 5, 167, 247, 200, 4, 172]
def KNS : List (List Nat) := [KN_0, KN_1, KN_2, KN_3, KN_4, KN_5, KN_6, KN_7, KN_8, KN_9, KN_10, KN_11, KN_12, KN_13, KN_14, KN_15, KN_16, KN_17, KN_18, KN_19, KN_20, KN_21, KN_22, KN_23, KN_24, KN_25, KN_26, KN_27, KN_28, KN_29, KN_30, KN_31, KN_32]
set_option maxRecDepth 100000 in
theorem kn_eq : cL_law.data.toList.map UInt8.toNat = KNS.flatten ++ KNR := by decide +kernel
theorem kn_64 : ∀ K ∈ KNS, K.length = 64 := by decide +kernel
theorem kb_0 (r : Nat) {b : Nat} (h : KN_0[r]? = some b) : cb cL_law (64 * 0 + r) = some b := by
  unfold cb
  rw [kn_eq, fl64 kn_64 0 r (by
    have := (List.getElem?_eq_some_iff.mp h).1
    exact this) KN_0 rfl]
  exact h
theorem kb_1 (r : Nat) {b : Nat} (h : KN_1[r]? = some b) : cb cL_law (64 * 1 + r) = some b := by
  unfold cb
  rw [kn_eq, fl64 kn_64 1 r (by
    have := (List.getElem?_eq_some_iff.mp h).1
    exact this) KN_1 rfl]
  exact h
theorem kb_2 (r : Nat) {b : Nat} (h : KN_2[r]? = some b) : cb cL_law (64 * 2 + r) = some b := by
  unfold cb
  rw [kn_eq, fl64 kn_64 2 r (by
    have := (List.getElem?_eq_some_iff.mp h).1
    exact this) KN_2 rfl]
  exact h
theorem kb_3 (r : Nat) {b : Nat} (h : KN_3[r]? = some b) : cb cL_law (64 * 3 + r) = some b := by
  unfold cb
  rw [kn_eq, fl64 kn_64 3 r (by
    have := (List.getElem?_eq_some_iff.mp h).1
    exact this) KN_3 rfl]
  exact h
theorem kb_4 (r : Nat) {b : Nat} (h : KN_4[r]? = some b) : cb cL_law (64 * 4 + r) = some b := by
  unfold cb
  rw [kn_eq, fl64 kn_64 4 r (by
    have := (List.getElem?_eq_some_iff.mp h).1
    exact this) KN_4 rfl]
  exact h
theorem kb_5 (r : Nat) {b : Nat} (h : KN_5[r]? = some b) : cb cL_law (64 * 5 + r) = some b := by
  unfold cb
  rw [kn_eq, fl64 kn_64 5 r (by
    have := (List.getElem?_eq_some_iff.mp h).1
    exact this) KN_5 rfl]
  exact h
theorem kb_6 (r : Nat) {b : Nat} (h : KN_6[r]? = some b) : cb cL_law (64 * 6 + r) = some b := by
  unfold cb
  rw [kn_eq, fl64 kn_64 6 r (by
    have := (List.getElem?_eq_some_iff.mp h).1
    exact this) KN_6 rfl]
  exact h
theorem kb_7 (r : Nat) {b : Nat} (h : KN_7[r]? = some b) : cb cL_law (64 * 7 + r) = some b := by
  unfold cb
  rw [kn_eq, fl64 kn_64 7 r (by
    have := (List.getElem?_eq_some_iff.mp h).1
    exact this) KN_7 rfl]
  exact h
theorem kb_8 (r : Nat) {b : Nat} (h : KN_8[r]? = some b) : cb cL_law (64 * 8 + r) = some b := by
  unfold cb
  rw [kn_eq, fl64 kn_64 8 r (by
    have := (List.getElem?_eq_some_iff.mp h).1
    exact this) KN_8 rfl]
  exact h
theorem kb_9 (r : Nat) {b : Nat} (h : KN_9[r]? = some b) : cb cL_law (64 * 9 + r) = some b := by
  unfold cb
  rw [kn_eq, fl64 kn_64 9 r (by
    have := (List.getElem?_eq_some_iff.mp h).1
    exact this) KN_9 rfl]
  exact h
theorem kb_10 (r : Nat) {b : Nat} (h : KN_10[r]? = some b) : cb cL_law (64 * 10 + r) = some b := by
  unfold cb
  rw [kn_eq, fl64 kn_64 10 r (by
    have := (List.getElem?_eq_some_iff.mp h).1
    exact this) KN_10 rfl]
  exact h
theorem kb_11 (r : Nat) {b : Nat} (h : KN_11[r]? = some b) : cb cL_law (64 * 11 + r) = some b := by
  unfold cb
  rw [kn_eq, fl64 kn_64 11 r (by
    have := (List.getElem?_eq_some_iff.mp h).1
    exact this) KN_11 rfl]
  exact h
theorem kb_12 (r : Nat) {b : Nat} (h : KN_12[r]? = some b) : cb cL_law (64 * 12 + r) = some b := by
  unfold cb
  rw [kn_eq, fl64 kn_64 12 r (by
    have := (List.getElem?_eq_some_iff.mp h).1
    exact this) KN_12 rfl]
  exact h
theorem kb_13 (r : Nat) {b : Nat} (h : KN_13[r]? = some b) : cb cL_law (64 * 13 + r) = some b := by
  unfold cb
  rw [kn_eq, fl64 kn_64 13 r (by
    have := (List.getElem?_eq_some_iff.mp h).1
    exact this) KN_13 rfl]
  exact h
theorem kb_14 (r : Nat) {b : Nat} (h : KN_14[r]? = some b) : cb cL_law (64 * 14 + r) = some b := by
  unfold cb
  rw [kn_eq, fl64 kn_64 14 r (by
    have := (List.getElem?_eq_some_iff.mp h).1
    exact this) KN_14 rfl]
  exact h
theorem kb_15 (r : Nat) {b : Nat} (h : KN_15[r]? = some b) : cb cL_law (64 * 15 + r) = some b := by
  unfold cb
  rw [kn_eq, fl64 kn_64 15 r (by
    have := (List.getElem?_eq_some_iff.mp h).1
    exact this) KN_15 rfl]
  exact h
theorem kb_16 (r : Nat) {b : Nat} (h : KN_16[r]? = some b) : cb cL_law (64 * 16 + r) = some b := by
  unfold cb
  rw [kn_eq, fl64 kn_64 16 r (by
    have := (List.getElem?_eq_some_iff.mp h).1
    exact this) KN_16 rfl]
  exact h
theorem kb_17 (r : Nat) {b : Nat} (h : KN_17[r]? = some b) : cb cL_law (64 * 17 + r) = some b := by
  unfold cb
  rw [kn_eq, fl64 kn_64 17 r (by
    have := (List.getElem?_eq_some_iff.mp h).1
    exact this) KN_17 rfl]
  exact h
theorem kb_18 (r : Nat) {b : Nat} (h : KN_18[r]? = some b) : cb cL_law (64 * 18 + r) = some b := by
  unfold cb
  rw [kn_eq, fl64 kn_64 18 r (by
    have := (List.getElem?_eq_some_iff.mp h).1
    exact this) KN_18 rfl]
  exact h
theorem kb_19 (r : Nat) {b : Nat} (h : KN_19[r]? = some b) : cb cL_law (64 * 19 + r) = some b := by
  unfold cb
  rw [kn_eq, fl64 kn_64 19 r (by
    have := (List.getElem?_eq_some_iff.mp h).1
    exact this) KN_19 rfl]
  exact h
theorem kb_20 (r : Nat) {b : Nat} (h : KN_20[r]? = some b) : cb cL_law (64 * 20 + r) = some b := by
  unfold cb
  rw [kn_eq, fl64 kn_64 20 r (by
    have := (List.getElem?_eq_some_iff.mp h).1
    exact this) KN_20 rfl]
  exact h
theorem kb_21 (r : Nat) {b : Nat} (h : KN_21[r]? = some b) : cb cL_law (64 * 21 + r) = some b := by
  unfold cb
  rw [kn_eq, fl64 kn_64 21 r (by
    have := (List.getElem?_eq_some_iff.mp h).1
    exact this) KN_21 rfl]
  exact h
theorem kb_22 (r : Nat) {b : Nat} (h : KN_22[r]? = some b) : cb cL_law (64 * 22 + r) = some b := by
  unfold cb
  rw [kn_eq, fl64 kn_64 22 r (by
    have := (List.getElem?_eq_some_iff.mp h).1
    exact this) KN_22 rfl]
  exact h
theorem kb_23 (r : Nat) {b : Nat} (h : KN_23[r]? = some b) : cb cL_law (64 * 23 + r) = some b := by
  unfold cb
  rw [kn_eq, fl64 kn_64 23 r (by
    have := (List.getElem?_eq_some_iff.mp h).1
    exact this) KN_23 rfl]
  exact h
theorem kb_24 (r : Nat) {b : Nat} (h : KN_24[r]? = some b) : cb cL_law (64 * 24 + r) = some b := by
  unfold cb
  rw [kn_eq, fl64 kn_64 24 r (by
    have := (List.getElem?_eq_some_iff.mp h).1
    exact this) KN_24 rfl]
  exact h
theorem kb_25 (r : Nat) {b : Nat} (h : KN_25[r]? = some b) : cb cL_law (64 * 25 + r) = some b := by
  unfold cb
  rw [kn_eq, fl64 kn_64 25 r (by
    have := (List.getElem?_eq_some_iff.mp h).1
    exact this) KN_25 rfl]
  exact h
theorem kb_26 (r : Nat) {b : Nat} (h : KN_26[r]? = some b) : cb cL_law (64 * 26 + r) = some b := by
  unfold cb
  rw [kn_eq, fl64 kn_64 26 r (by
    have := (List.getElem?_eq_some_iff.mp h).1
    exact this) KN_26 rfl]
  exact h
theorem kb_27 (r : Nat) {b : Nat} (h : KN_27[r]? = some b) : cb cL_law (64 * 27 + r) = some b := by
  unfold cb
  rw [kn_eq, fl64 kn_64 27 r (by
    have := (List.getElem?_eq_some_iff.mp h).1
    exact this) KN_27 rfl]
  exact h
theorem kb_28 (r : Nat) {b : Nat} (h : KN_28[r]? = some b) : cb cL_law (64 * 28 + r) = some b := by
  unfold cb
  rw [kn_eq, fl64 kn_64 28 r (by
    have := (List.getElem?_eq_some_iff.mp h).1
    exact this) KN_28 rfl]
  exact h
theorem kb_29 (r : Nat) {b : Nat} (h : KN_29[r]? = some b) : cb cL_law (64 * 29 + r) = some b := by
  unfold cb
  rw [kn_eq, fl64 kn_64 29 r (by
    have := (List.getElem?_eq_some_iff.mp h).1
    exact this) KN_29 rfl]
  exact h
theorem kb_30 (r : Nat) {b : Nat} (h : KN_30[r]? = some b) : cb cL_law (64 * 30 + r) = some b := by
  unfold cb
  rw [kn_eq, fl64 kn_64 30 r (by
    have := (List.getElem?_eq_some_iff.mp h).1
    exact this) KN_30 rfl]
  exact h
theorem kb_31 (r : Nat) {b : Nat} (h : KN_31[r]? = some b) : cb cL_law (64 * 31 + r) = some b := by
  unfold cb
  rw [kn_eq, fl64 kn_64 31 r (by
    have := (List.getElem?_eq_some_iff.mp h).1
    exact this) KN_31 rfl]
  exact h
theorem kb_32 (r : Nat) {b : Nat} (h : KN_32[r]? = some b) : cb cL_law (64 * 32 + r) = some b := by
  unfold cb
  rw [kn_eq, fl64 kn_64 32 r (by
    have := (List.getElem?_eq_some_iff.mp h).1
    exact this) KN_32 rfl]
  exact h
