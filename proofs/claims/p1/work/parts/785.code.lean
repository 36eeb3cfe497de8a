def KN_0 : List Nat := [187, 0, 8, 89, 183, 0, 170, 76, 187, 0, 171, 89, 183, 0, 173, 77, 187, 0, 14, 89, 183, 0, 174, 78, 3, 54, 4, 21, 4, 42, 190, 8, 100, 163, 13, 101, 42, 21, 4, 46, 16, 63, 126, 170, 0, 0, 13, 85, 0, 0, 0, 0, 0, 0, 0, 48, 0, 0, 0, 209, 0, 0, 1, 22]
def KN_1 : List Nat := [0, 0, 1, 103, 0, 0, 1, 184, 0, 0, 1, 253, 0, 0, 2, 54, 0, 0, 2, 147, 0, 0, 2, 216, 0, 0, 3, 17, 0, 0, 3, 98, 0, 0, 3, 155, 0, 0, 3, 212, 0, 0, 4, 13, 0, 0, 4, 82, 0, 0, 4, 151, 0, 0, 4, 208, 0, 0, 5, 21, 0, 0, 5, 90]
def KN_2 : List Nat := [0, 0, 5, 159, 0, 0, 5, 240, 0, 0, 6, 53, 0, 0, 6, 122, 0, 0, 6, 191, 0, 0, 7, 4, 0, 0, 7, 85, 0, 0, 7, 154, 0, 0, 7, 223, 0, 0, 8, 43, 0, 0, 8, 112, 0, 0, 8, 197, 0, 0, 9, 17, 0, 0, 9, 93, 0, 0, 9, 150, 0, 0, 9, 208]
def KN_3 : List Nat := [0, 0, 10, 21, 0, 0, 10, 114, 0, 0, 10, 171, 0, 0, 10, 240, 0, 0, 11, 65, 0, 0, 11, 122, 0, 0, 11, 179, 0, 0, 11, 236, 0, 0, 12, 49, 0, 0, 12, 106, 0, 0, 12, 175, 0, 0, 12, 244, 0, 0, 13, 45, 0, 0, 13, 58, 0, 0, 13, 71, 43, 42, 21, 4]
def KN_4 : List Nat := [4, 96, 46, 42, 21, 4, 5, 96, 46, 45, 184, 0, 175, 54, 5, 44, 42, 21, 4, 4, 96, 46, 42, 21, 4, 5, 96, 46, 182, 0, 180, 54, 6, 44, 182, 0, 181, 21, 5, 159, 0, 5, 3, 172, 21, 5, 154, 0, 16, 45, 180, 0, 13, 21, 6, 133, 148, 153, 0, 5, 3, 172, 167, 12]
def KN_5 : List Nat := [66, 43, 42, 21, 4, 4, 96, 46, 42, 21, 4, 5, 96, 46, 42, 21, 4, 6, 96, 46, 45, 184, 0, 185, 54, 5, 44, 42, 21, 4, 4, 96, 46, 42, 21, 4, 5, 96, 46, 42, 21, 4, 6, 96, 46, 182, 0, 188, 54, 6, 44, 182, 0, 181, 21, 5, 159, 0, 5, 3, 172, 21, 5, 154]
def KN_6 : List Nat := [0, 16, 45, 180, 0, 13, 21, 6, 133, 148, 153, 0, 5, 3, 172, 167, 11, 241, 43, 42, 21, 4, 4, 96, 46, 42, 21, 4, 5, 96, 46, 42, 21, 4, 6, 96, 46, 45, 184, 0, 189, 54, 5, 44, 42, 21, 4, 4, 96, 46, 42, 21, 4, 5, 96, 46, 42, 21, 4, 6, 96, 46, 182, 0]
def KN_7 : List Nat := [191, 54, 6, 44, 182, 0, 181, 21, 5, 159, 0, 5, 3, 172, 21, 5, 154, 0, 16, 45, 180, 0, 13, 21, 6, 133, 148, 153, 0, 5, 3, 172, 167, 11, 160, 43, 42, 21, 4, 4, 96, 46, 42, 21, 4, 5, 96, 46, 45, 184, 0, 192, 54, 5, 44, 42, 21, 4, 4, 96, 46, 42, 21, 4]
def KN_8 : List Nat := [5, 96, 46, 182, 0, 194, 54, 6, 44, 182, 0, 181, 21, 5, 159, 0, 5, 3, 172, 21, 5, 154, 0, 16, 45, 180, 0, 13, 21, 6, 133, 148, 153, 0, 5, 3, 172, 167, 11, 91, 43, 42, 21, 4, 4, 96, 46, 45, 184, 0, 195, 54, 5, 44, 42, 21, 4, 4, 96, 46, 182, 0, 198, 54]
def KN_9 : List Nat := [6, 44, 182, 0, 181, 21, 5, 159, 0, 5, 3, 172, 21, 5, 154, 0, 16, 45, 180, 0, 13, 21, 6, 133, 148, 153, 0, 5, 3, 172, 167, 11, 34, 43, 42, 21, 4, 4, 96, 46, 42, 21, 4, 5, 96, 46, 42, 21, 4, 6, 96, 46, 42, 21, 4, 7, 96, 46, 45, 184, 0, 199, 54, 5]
def KN_10 : List Nat := [44, 42, 21, 4, 4, 96, 46, 42, 21, 4, 5, 96, 46, 42, 21, 4, 6, 96, 46, 42, 21, 4, 7, 96, 46, 182, 0, 202, 54, 6, 44, 182, 0, 181, 21, 5, 159, 0, 5, 3, 172, 21, 5, 154, 0, 16, 45, 180, 0, 13, 21, 6, 133, 148, 153, 0, 5, 3, 172, 167, 10, 197, 43, 42]
def KN_11 : List Nat := [21, 4, 4, 96, 46, 42, 21, 4, 5, 96, 46, 45, 184, 0, 203, 54, 5, 44, 42, 21, 4, 4, 96, 46, 42, 21, 4, 5, 96, 46, 182, 0, 205, 54, 6, 44, 182, 0, 181, 21, 5, 159, 0, 5, 3, 172, 21, 5, 154, 0, 16, 45, 180, 0, 13, 21, 6, 133, 148, 153, 0, 5, 3, 172]
def KN_12 : List Nat := [167, 10, 128, 43, 42, 21, 4, 4, 96, 46, 45, 184, 0, 206, 54, 5, 44, 42, 21, 4, 4, 96, 46, 182, 0, 208, 54, 6, 44, 182, 0, 181, 21, 5, 159, 0, 5, 3, 172, 21, 5, 154, 0, 16, 45, 180, 0, 13, 21, 6, 133, 148, 153, 0, 5, 3, 172, 167, 10, 71, 43, 42, 21, 4]
def KN_13 : List Nat := [4, 96, 46, 42, 21, 4, 5, 96, 46, 42, 21, 4, 6, 96, 46, 45, 184, 0, 209, 54, 5, 44, 42, 21, 4, 4, 96, 46, 42, 21, 4, 5, 96, 46, 42, 21, 4, 6, 96, 46, 182, 0, 211, 54, 6, 44, 182, 0, 181, 21, 5, 159, 0, 5, 3, 172, 21, 5, 154, 0, 16, 45, 180, 0]
def KN_14 : List Nat := [13, 21, 6, 133, 148, 153, 0, 5, 3, 172, 167, 9, 246, 43, 42, 21, 4, 4, 96, 46, 45, 184, 0, 212, 54, 5, 44, 42, 21, 4, 4, 96, 46, 182, 0, 214, 54, 6, 44, 182, 0, 181, 21, 5, 159, 0, 5, 3, 172, 21, 5, 154, 0, 16, 45, 180, 0, 13, 21, 6, 133, 148, 153, 0]
def KN_15 : List Nat := [5, 3, 172, 167, 9, 189, 43, 42, 21, 4, 4, 96, 46, 45, 184, 0, 215, 54, 5, 44, 42, 21, 4, 4, 96, 46, 182, 0, 217, 54, 6, 44, 182, 0, 181, 21, 5, 159, 0, 5, 3, 172, 21, 5, 154, 0, 16, 45, 180, 0, 13, 21, 6, 133, 148, 153, 0, 5, 3, 172, 167, 9, 132, 43]
def KN_16 : List Nat := [42, 21, 4, 4, 96, 46, 45, 184, 0, 218, 54, 5, 44, 42, 21, 4, 4, 96, 46, 182, 0, 220, 54, 6, 44, 182, 0, 181, 21, 5, 159, 0, 5, 3, 172, 21, 5, 154, 0, 16, 45, 180, 0, 13, 21, 6, 133, 148, 153, 0, 5, 3, 172, 167, 9, 75, 43, 42, 21, 4, 4, 96, 46, 42]
def KN_17 : List Nat := [21, 4, 5, 96, 46, 45, 184, 0, 221, 54, 5, 44, 42, 21, 4, 4, 96, 46, 42, 21, 4, 5, 96, 46, 182, 0, 223, 54, 6, 44, 182, 0, 181, 21, 5, 159, 0, 5, 3, 172, 21, 5, 154, 0, 16, 45, 180, 0, 13, 21, 6, 133, 148, 153, 0, 5, 3, 172, 167, 9, 6, 43, 42, 21]
def KN_18 : List Nat := [4, 4, 96, 46, 42, 21, 4, 5, 96, 46, 45, 184, 0, 224, 54, 5, 44, 42, 21, 4, 4, 96, 46, 42, 21, 4, 5, 96, 46, 182, 0, 226, 54, 6, 44, 182, 0, 181, 21, 5, 159, 0, 5, 3, 172, 21, 5, 154, 0, 16, 45, 180, 0, 13, 21, 6, 133, 148, 153, 0, 5, 3, 172, 167]
def KN_19 : List Nat := [8, 193, 43, 42, 21, 4, 4, 96, 46, 45, 184, 0, 227, 54, 5, 44, 42, 21, 4, 4, 96, 46, 182, 0, 229, 54, 6, 44, 182, 0, 181, 21, 5, 159, 0, 5, 3, 172, 21, 5, 154, 0, 16, 45, 180, 0, 13, 21, 6, 133, 148, 153, 0, 5, 3, 172, 167, 8, 136, 43, 42, 21, 4, 4]
def KN_20 : List Nat := [96, 46, 42, 21, 4, 5, 96, 46, 45, 184, 0, 230, 54, 5, 44, 42, 21, 4, 4, 96, 46, 42, 21, 4, 5, 96, 46, 182, 0, 232, 54, 6, 44, 182, 0, 181, 21, 5, 159, 0, 5, 3, 172, 21, 5, 154, 0, 16, 45, 180, 0, 13, 21, 6, 133, 148, 153, 0, 5, 3, 172, 167, 8, 67]
def KN_21 : List Nat := [43, 42, 21, 4, 4, 96, 46, 42, 21, 4, 5, 96, 46, 45, 184, 0, 233, 54, 5, 44, 42, 21, 4, 4, 96, 46, 42, 21, 4, 5, 96, 46, 182, 0, 235, 54, 6, 44, 182, 0, 181, 21, 5, 159, 0, 5, 3, 172, 21, 5, 154, 0, 16, 45, 180, 0, 13, 21, 6, 133, 148, 153, 0, 5]
def KN_22 : List Nat := [3, 172, 167, 7, 254, 43, 42, 21, 4, 4, 96, 46, 42, 21, 4, 5, 96, 46, 45, 184, 0, 236, 54, 5, 44, 42, 21, 4, 4, 96, 46, 42, 21, 4, 5, 96, 46, 182, 0, 238, 54, 6, 44, 182, 0, 181, 21, 5, 159, 0, 5, 3, 172, 21, 5, 154, 0, 16, 45, 180, 0, 13, 21, 6]
def KN_23 : List Nat := [133, 148, 153, 0, 5, 3, 172, 167, 7, 185, 43, 42, 21, 4, 4, 96, 46, 42, 21, 4, 5, 96, 46, 42, 21, 4, 6, 96, 46, 45, 184, 0, 239, 54, 5, 44, 42, 21, 4, 4, 96, 46, 42, 21, 4, 5, 96, 46, 42, 21, 4, 6, 96, 46, 182, 0, 241, 54, 6, 44, 182, 0, 181, 21]
def KN_24 : List Nat := [5, 159, 0, 5, 3, 172, 21, 5, 154, 0, 16, 45, 180, 0, 13, 21, 6, 133, 148, 153, 0, 5, 3, 172, 167, 7, 104, 43, 42, 21, 4, 4, 96, 46, 42, 21, 4, 5, 96, 46, 45, 184, 0, 242, 54, 5, 44, 42, 21, 4, 4, 96, 46, 42, 21, 4, 5, 96, 46, 182, 0, 244, 54, 6]
def KN_25 : List Nat := [44, 182, 0, 181, 21, 5, 159, 0, 5, 3, 172, 21, 5, 154, 0, 16, 45, 180, 0, 13, 21, 6, 133, 148, 153, 0, 5, 3, 172, 167, 7, 35, 43, 42, 21, 4, 4, 96, 46, 42, 21, 4, 5, 96, 46, 45, 184, 0, 245, 54, 5, 44, 42, 21, 4, 4, 96, 46, 42, 21, 4, 5, 96, 46]
def KN_26 : List Nat := [182, 0, 247, 54, 6, 44, 182, 0, 181, 21, 5, 159, 0, 5, 3, 172, 21, 5, 154, 0, 16, 45, 180, 0, 13, 21, 6, 133, 148, 153, 0, 5, 3, 172, 167, 6, 222, 43, 42, 21, 4, 4, 96, 46, 42, 21, 4, 5, 96, 46, 45, 184, 0, 248, 54, 5, 44, 42, 21, 4, 4, 96, 46, 42]
def KN_27 : List Nat := [21, 4, 5, 96, 46, 182, 0, 250, 54, 6, 44, 182, 0, 181, 21, 5, 159, 0, 5, 3, 172, 21, 5, 154, 0, 16, 45, 180, 0, 13, 21, 6, 133, 148, 153, 0, 5, 3, 172, 167, 6, 153, 43, 42, 21, 4, 4, 96, 46, 42, 21, 4, 5, 96, 46, 45, 184, 0, 251, 54, 5, 44, 42, 21]
def KN_28 : List Nat := [4, 4, 96, 46, 42, 21, 4, 5, 96, 46, 182, 0, 253, 54, 6, 44, 182, 0, 181, 21, 5, 159, 0, 5, 3, 172, 21, 5, 154, 0, 16, 45, 180, 0, 13, 21, 6, 133, 148, 153, 0, 5, 3, 172, 167, 6, 84, 43, 42, 21, 4, 4, 96, 46, 42, 21, 4, 5, 96, 46, 42, 21, 4, 6]
def KN_29 : List Nat := [96, 46, 45, 184, 0, 254, 54, 5, 44, 42, 21, 4, 4, 96, 46, 42, 21, 4, 5, 96, 46, 42, 21, 4, 6, 96, 46, 182, 1, 0, 54, 6, 44, 182, 0, 181, 21, 5, 159, 0, 5, 3, 172, 21, 5, 154, 0, 16, 45, 180, 0, 13, 21, 6, 133, 148, 153, 0, 5, 3, 172, 167, 6, 3]
def KN_30 : List Nat := [43, 42, 21, 4, 4, 96, 46, 42, 21, 4, 5, 96, 46, 45, 184, 1, 1, 54, 5, 44, 42, 21, 4, 4, 96, 46, 42, 21, 4, 5, 96, 46, 182, 1, 3, 54, 6, 44, 182, 0, 181, 21, 5, 159, 0, 5, 3, 172, 21, 5, 154, 0, 16, 45, 180, 0, 13, 21, 6, 133, 148, 153, 0, 5]
def KN_31 : List Nat := [3, 172, 167, 5, 190, 43, 42, 21, 4, 4, 96, 46, 42, 21, 4, 5, 96, 46, 45, 184, 1, 4, 54, 5, 44, 42, 21, 4, 4, 96, 46, 42, 21, 4, 5, 96, 46, 182, 1, 6, 54, 6, 44, 182, 0, 181, 21, 5, 159, 0, 5, 3, 172, 21, 5, 154, 0, 16, 45, 180, 0, 13, 21, 6]
def KN_32 : List Nat := [133, 148, 153, 0, 5, 3, 172, 167, 5, 121, 43, 42, 21, 4, 4, 96, 46, 42, 21, 4, 5, 96, 46, 45, 184, 1, 7, 54, 5, 44, 42, 21, 4, 4, 96, 46, 42, 21, 4, 5, 96, 46, 182, 1, 9, 54, 6, 44, 182, 0, 181, 21, 5, 159, 0, 5, 3, 172, 21, 5, 154, 0, 23, 45]
def KN_33 : List Nat := [180, 0, 13, 21, 6, 153, 0, 7, 10, 167, 0, 4, 9, 148, 153, 0, 5, 3, 172, 167, 5, 45, 43, 42, 21, 4, 4, 96, 46, 42, 21, 4, 5, 96, 46, 45, 184, 1, 10, 54, 5, 44, 42, 21, 4, 4, 96, 46, 42, 21, 4, 5, 96, 46, 182, 1, 12, 54, 6, 44, 182, 0, 181, 21]
def KN_34 : List Nat := [5, 159, 0, 5, 3, 172, 21, 5, 154, 0, 16, 45, 180, 0, 13, 21, 6, 133, 148, 153, 0, 5, 3, 172, 167, 4, 232, 43, 42, 21, 4, 4, 96, 46, 42, 21, 4, 5, 96, 46, 153, 0, 7, 4, 167, 0, 4, 3, 45, 184, 1, 13, 54, 5, 44, 42, 21, 4, 4, 96, 46, 42, 21, 4]
def KN_35 : List Nat := [5, 96, 46, 153, 0, 7, 4, 167, 0, 4, 3, 182, 1, 16, 54, 6, 44, 182, 0, 181, 21, 5, 159, 0, 5, 3, 172, 21, 5, 154, 0, 16, 45, 180, 0, 13, 21, 6, 133, 148, 153, 0, 5, 3, 172, 167, 4, 147, 43, 42, 21, 4, 4, 96, 46, 42, 21, 4, 5, 96, 46, 45, 184, 1]
def KN_36 : List Nat := [17, 54, 5, 44, 42, 21, 4, 4, 96, 46, 42, 21, 4, 5, 96, 46, 182, 1, 19, 54, 6, 44, 182, 0, 181, 21, 5, 159, 0, 5, 3, 172, 21, 5, 154, 0, 23, 45, 180, 0, 13, 21, 6, 153, 0, 7, 10, 167, 0, 4, 9, 148, 153, 0, 5, 3, 172, 167, 4, 71, 43, 42, 21, 4]
def KN_37 : List Nat := [4, 96, 46, 42, 21, 4, 5, 96, 46, 45, 184, 1, 20, 54, 5, 44, 42, 21, 4, 4, 96, 46, 42, 21, 4, 5, 96, 46, 182, 1, 22, 54, 6, 44, 182, 0, 181, 21, 5, 159, 0, 5, 3, 172, 21, 5, 154, 0, 23, 45, 180, 0, 13, 21, 6, 153, 0, 7, 10, 167, 0, 4, 9, 148]
def KN_38 : List Nat := [153, 0, 5, 3, 172, 167, 3, 251, 43, 42, 21, 4, 4, 96, 46, 45, 184, 1, 23, 54, 5, 44, 42, 21, 4, 4, 96, 46, 182, 1, 25, 54, 6, 44, 182, 0, 181, 21, 5, 159, 0, 5, 3, 172, 21, 5, 154, 0, 16, 45, 180, 0, 13, 21, 6, 133, 148, 153, 0, 5, 3, 172, 167, 3]
def KN_39 : List Nat := [194, 43, 42, 21, 4, 4, 96, 46, 45, 184, 1, 26, 54, 5, 44, 42, 21, 4, 4, 96, 46, 182, 1, 28, 58, 6, 44, 182, 0, 181, 21, 5, 159, 0, 5, 3, 172, 21, 5, 154, 0, 17, 45, 180, 0, 127, 25, 6, 182, 1, 29, 154, 0, 5, 3, 172, 167, 3, 136, 43, 42, 21, 4, 4]
def KN_40 : List Nat := [96, 46, 42, 21, 4, 5, 96, 46, 45, 184, 1, 35, 54, 5, 44, 42, 21, 4, 4, 96, 46, 42, 21, 4, 5, 96, 46, 182, 1, 37, 54, 6, 44, 182, 0, 181, 21, 5, 159, 0, 5, 3, 172, 21, 5, 154, 0, 16, 45, 180, 0, 13, 21, 6, 133, 148, 153, 0, 5, 3, 172, 167, 3, 67]
def KN_41 : List Nat := [43, 42, 21, 4, 4, 96, 46, 42, 21, 4, 5, 96, 46, 42, 21, 4, 6, 96, 46, 42, 21, 4, 7, 96, 46, 45, 184, 1, 38, 54, 5, 44, 42, 21, 4, 4, 96, 46, 42, 21, 4, 5, 96, 46, 42, 21, 4, 6, 96, 46, 42, 21, 4, 7, 96, 46, 182, 1, 40, 54, 6, 44, 182, 0]
def KN_42 : List Nat := [181, 21, 5, 159, 0, 5, 3, 172, 21, 5, 154, 0, 16, 45, 180, 0, 13, 21, 6, 133, 148, 153, 0, 5, 3, 172, 167, 2, 230, 43, 42, 21, 4, 4, 96, 46, 45, 184, 1, 41, 54, 5, 44, 42, 21, 4, 4, 96, 46, 182, 1, 43, 54, 6, 44, 182, 0, 181, 21, 5, 159, 0, 5, 3]
def KN_43 : List Nat := [172, 21, 5, 154, 0, 16, 45, 180, 0, 13, 21, 6, 133, 148, 153, 0, 5, 3, 172, 167, 2, 173, 43, 42, 21, 4, 4, 96, 46, 42, 21, 4, 5, 96, 46, 45, 184, 1, 44, 54, 5, 44, 42, 21, 4, 4, 96, 46, 42, 21, 4, 5, 96, 46, 182, 1, 46, 54, 6, 44, 182, 0, 181, 21]
def KN_44 : List Nat := [5, 159, 0, 5, 3, 172, 21, 5, 154, 0, 16, 45, 180, 0, 13, 21, 6, 133, 148, 153, 0, 5, 3, 172, 167, 2, 104, 43, 42, 21, 4, 4, 96, 46, 42, 21, 4, 5, 96, 46, 42, 21, 4, 6, 96, 46, 45, 184, 1, 47, 54, 5, 44, 42, 21, 4, 4, 96, 46, 42, 21, 4, 5, 96]
def KN_45 : List Nat := [46, 42, 21, 4, 6, 96, 46, 182, 1, 49, 54, 6, 44, 182, 0, 181, 21, 5, 159, 0, 5, 3, 172, 21, 5, 154, 0, 16, 45, 180, 0, 13, 21, 6, 133, 148, 153, 0, 5, 3, 172, 167, 2, 23, 43, 42, 21, 4, 4, 96, 46, 45, 184, 1, 50, 54, 5, 44, 42, 21, 4, 4, 96, 46]
def KN_46 : List Nat := [182, 1, 52, 54, 6, 44, 182, 0, 181, 21, 5, 159, 0, 5, 3, 172, 21, 5, 154, 0, 16, 45, 180, 0, 13, 21, 6, 133, 148, 153, 0, 5, 3, 172, 167, 1, 222, 43, 42, 21, 4, 4, 96, 46, 45, 184, 1, 53, 54, 5, 44, 42, 21, 4, 4, 96, 46, 182, 1, 55, 54, 6, 44, 182]
def KN_47 : List Nat := [0, 181, 21, 5, 159, 0, 5, 3, 172, 21, 5, 154, 0, 16, 45, 180, 0, 13, 21, 6, 133, 148, 153, 0, 5, 3, 172, 167, 1, 165, 43, 42, 21, 4, 4, 96, 46, 45, 184, 1, 56, 54, 5, 44, 42, 21, 4, 4, 96, 46, 182, 1, 58, 54, 6, 44, 182, 0, 181, 21, 5, 159, 0, 5]
def KN_48 : List Nat := [3, 172, 21, 5, 154, 0, 16, 45, 180, 0, 13, 21, 6, 133, 148, 153, 0, 5, 3, 172, 167, 1, 108, 43, 42, 21, 4, 4, 96, 46, 42, 21, 4, 5, 96, 46, 45, 184, 1, 59, 54, 5, 44, 42, 21, 4, 4, 96, 46, 42, 21, 4, 5, 96, 46, 182, 1, 61, 54, 6, 44, 182, 0, 181]
def KN_49 : List Nat := [21, 5, 159, 0, 5, 3, 172, 21, 5, 154, 0, 16, 45, 180, 0, 13, 21, 6, 133, 148, 153, 0, 5, 3, 172, 167, 1, 39, 43, 42, 21, 4, 4, 96, 46, 45, 184, 1, 62, 54, 5, 44, 42, 21, 4, 4, 96, 46, 182, 1, 64, 54, 6, 44, 182, 0, 181, 21, 5, 159, 0, 5, 3, 172]
def KN_50 : List Nat := [21, 5, 154, 0, 16, 45, 180, 0, 13, 21, 6, 133, 148, 153, 0, 5, 3, 172, 167, 0, 238, 43, 42, 21, 4, 4, 96, 46, 42, 21, 4, 5, 96, 46, 45, 184, 1, 65, 54, 5, 44, 42, 21, 4, 4, 96, 46, 42, 21, 4, 5, 96, 46, 182, 1, 67, 54, 6, 44, 182, 0, 181, 21, 5]
def KN_51 : List Nat := [159, 0, 5, 3, 172, 21, 5, 154, 0, 16, 45, 180, 0, 13, 21, 6, 133, 148, 153, 0, 5, 3, 172, 167, 0, 169, 43, 42, 21, 4, 4, 96, 46, 42, 21, 4, 5, 96, 46, 45, 184, 1, 68, 54, 5, 44, 42, 21, 4, 4, 96, 46, 42, 21, 4, 5, 96, 46, 182, 1, 70, 54, 6, 44]
def KN_52 : List Nat := [182, 0, 181, 21, 5, 159, 0, 5, 3, 172, 21, 5, 154, 0, 16, 45, 180, 0, 13, 21, 6, 133, 148, 153, 0, 5, 3, 172, 167, 0, 100, 43, 42, 21, 4, 4, 96, 46, 45, 184, 1, 71, 54, 5, 44, 42, 21, 4, 4, 96, 46, 182, 1, 73, 54, 6, 44, 182, 0, 181, 21, 5, 159, 0]
def KN_53 : List Nat := [5, 3, 172, 21, 5, 154, 0, 16, 45, 180, 0, 13, 21, 6, 133, 148, 153, 0, 5, 3, 172, 167, 0, 43, 43, 182, 1, 74, 44, 182, 1, 77, 159, 0, 32, 3, 172, 43, 182, 1, 78, 44, 182, 1, 82, 159, 0, 19, 3, 172, 43, 182, 1, 83, 44, 182, 1, 87, 148, 153, 0, 5, 3, 172]
def KNR : List Nat := [132, 4, 5, 167, 242, 152, 4, 172]
def KNS : List (List Nat) := [KN_0, KN_1, KN_2, KN_3, KN_4, KN_5, KN_6, KN_7, KN_8, KN_9, KN_10, KN_11, KN_12, KN_13, KN_14, KN_15, KN_16, KN_17, KN_18, KN_19, KN_20, KN_21, KN_22, KN_23, KN_24, KN_25, KN_26, KN_27, KN_28, KN_29, KN_30, KN_31, KN_32, KN_33, KN_34, KN_35, KN_36, KN_37, KN_38, KN_39, KN_40, KN_41, KN_42, KN_43, KN_44, KN_45, KN_46, KN_47, KN_48, KN_49, KN_50, KN_51, KN_52, KN_53]
set_option maxRecDepth 100000 in
theorem kn_eq : cL_law.data.toList.map UInt8.toNat = KNS.flatten ++ KNR := by decide +kernel
theorem kn_64 : ∀ K ∈ KNS, K.length = 64 := by decide +kernel
theorem kb_0 (r : Nat) {b : Nat} (h : KN_0[r]? = some b) : cb cL_law (64 * 0 + r) = some b := by
  unfold cb
  rw [kn_eq, fl64 kn_64 0 r (by
    have := (List.getElem?_eq_some_iff.mp h).1
    exact this) KN_0 rfl]
  exact h
theorem kb_1 (r : Nat) {b : Nat} (h : KN_1[r]? = some b) : cb cL_law (64 * 1 + r) = some b := by
  unfold cb
  rw [kn_eq, fl64 kn_64 1 r (by
    have := (List.getElem?_eq_some_iff.mp h).1
    exact this) KN_1 rfl]
  exact h
theorem kb_2 (r : Nat) {b : Nat} (h : KN_2[r]? = some b) : cb cL_law (64 * 2 + r) = some b := by
  unfold cb
  rw [kn_eq, fl64 kn_64 2 r (by
    have := (List.getElem?_eq_some_iff.mp h).1
    exact this) KN_2 rfl]
  exact h
theorem kb_3 (r : Nat) {b : Nat} (h : KN_3[r]? = some b) : cb cL_law (64 * 3 + r) = some b := by
  unfold cb
  rw [kn_eq, fl64 kn_64 3 r (by
    have := (List.getElem?_eq_some_iff.mp h).1
    exact this) KN_3 rfl]
  exact h
theorem kb_4 (r : Nat) {b : Nat} (h : KN_4[r]? = some b) : cb cL_law (64 * 4 + r) = some b := by
  unfold cb
  rw [kn_eq, fl64 kn_64 4 r (by
    have := (List.getElem?_eq_some_iff.mp h).1
    exact this) KN_4 rfl]
  exact h
theorem kb_5 (r : Nat) {b : Nat} (h : KN_5[r]? = some b) : cb cL_law (64 * 5 + r) = some b := by
  unfold cb
  rw [kn_eq, fl64 kn_64 5 r (by
    have := (List.getElem?_eq_some_iff.mp h).1
    exact this) KN_5 rfl]
  exact h
theorem kb_6 (r : Nat) {b : Nat} (h : KN_6[r]? = some b) : cb cL_law (64 * 6 + r) = some b := by
  unfold cb
  rw [kn_eq, fl64 kn_64 6 r (by
    have := (List.getElem?_eq_some_iff.mp h).1
    exact this) KN_6 rfl]
  exact h
theorem kb_7 (r : Nat) {b : Nat} (h : KN_7[r]? = some b) : cb cL_law (64 * 7 + r) = some b := by
  unfold cb
  rw [kn_eq, fl64 kn_64 7 r (by
    have := (List.getElem?_eq_some_iff.mp h).1
    exact this) KN_7 rfl]
  exact h
theorem kb_8 (r : Nat) {b : Nat} (h : KN_8[r]? = some b) : cb cL_law (64 * 8 + r) = some b := by
  unfold cb
  rw [kn_eq, fl64 kn_64 8 r (by
    have := (List.getElem?_eq_some_iff.mp h).1
    exact this) KN_8 rfl]
  exact h
theorem kb_9 (r : Nat) {b : Nat} (h : KN_9[r]? = some b) : cb cL_law (64 * 9 + r) = some b := by
  unfold cb
  rw [kn_eq, fl64 kn_64 9 r (by
    have := (List.getElem?_eq_some_iff.mp h).1
    exact this) KN_9 rfl]
  exact h
theorem kb_10 (r : Nat) {b : Nat} (h : KN_10[r]? = some b) : cb cL_law (64 * 10 + r) = some b := by
  unfold cb
  rw [kn_eq, fl64 kn_64 10 r (by
    have := (List.getElem?_eq_some_iff.mp h).1
    exact this) KN_10 rfl]
  exact h
theorem kb_11 (r : Nat) {b : Nat} (h : KN_11[r]? = some b) : cb cL_law (64 * 11 + r) = some b := by
  unfold cb
  rw [kn_eq, fl64 kn_64 11 r (by
    have := (List.getElem?_eq_some_iff.mp h).1
    exact this) KN_11 rfl]
  exact h
theorem kb_12 (r : Nat) {b : Nat} (h : KN_12[r]? = some b) : cb cL_law (64 * 12 + r) = some b := by
  unfold cb
  rw [kn_eq, fl64 kn_64 12 r (by
    have := (List.getElem?_eq_some_iff.mp h).1
    exact this) KN_12 rfl]
  exact h
theorem kb_13 (r : Nat) {b : Nat} (h : KN_13[r]? = some b) : cb cL_law (64 * 13 + r) = some b := by
  unfold cb
  rw [kn_eq, fl64 kn_64 13 r (by
    have := (List.getElem?_eq_some_iff.mp h).1
    exact this) KN_13 rfl]
  exact h
theorem kb_14 (r : Nat) {b : Nat} (h : KN_14[r]? = some b) : cb cL_law (64 * 14 + r) = some b := by
  unfold cb
  rw [kn_eq, fl64 kn_64 14 r (by
    have := (List.getElem?_eq_some_iff.mp h).1
    exact this) KN_14 rfl]
  exact h
theorem kb_15 (r : Nat) {b : Nat} (h : KN_15[r]? = some b) : cb cL_law (64 * 15 + r) = some b := by
  unfold cb
  rw [kn_eq, fl64 kn_64 15 r (by
    have := (List.getElem?_eq_some_iff.mp h).1
    exact this) KN_15 rfl]
  exact h
theorem kb_16 (r : Nat) {b : Nat} (h : KN_16[r]? = some b) : cb cL_law (64 * 16 + r) = some b := by
  unfold cb
  rw [kn_eq, fl64 kn_64 16 r (by
    have := (List.getElem?_eq_some_iff.mp h).1
    exact this) KN_16 rfl]
  exact h
theorem kb_17 (r : Nat) {b : Nat} (h : KN_17[r]? = some b) : cb cL_law (64 * 17 + r) = some b := by
  unfold cb
  rw [kn_eq, fl64 kn_64 17 r (by
    have := (List.getElem?_eq_some_iff.mp h).1
    exact this) KN_17 rfl]
  exact h
theorem kb_18 (r : Nat) {b : Nat} (h : KN_18[r]? = some b) : cb cL_law (64 * 18 + r) = some b := by
  unfold cb
  rw [kn_eq, fl64 kn_64 18 r (by
    have := (List.getElem?_eq_some_iff.mp h).1
    exact this) KN_18 rfl]
  exact h
theorem kb_19 (r : Nat) {b : Nat} (h : KN_19[r]? = some b) : cb cL_law (64 * 19 + r) = some b := by
  unfold cb
  rw [kn_eq, fl64 kn_64 19 r (by
    have := (List.getElem?_eq_some_iff.mp h).1
    exact this) KN_19 rfl]
  exact h
theorem kb_20 (r : Nat) {b : Nat} (h : KN_20[r]? = some b) : cb cL_law (64 * 20 + r) = some b := by
  unfold cb
  rw [kn_eq, fl64 kn_64 20 r (by
    have := (List.getElem?_eq_some_iff.mp h).1
    exact this) KN_20 rfl]
  exact h
theorem kb_21 (r : Nat) {b : Nat} (h : KN_21[r]? = some b) : cb cL_law (64 * 21 + r) = some b := by
  unfold cb
  rw [kn_eq, fl64 kn_64 21 r (by
    have := (List.getElem?_eq_some_iff.mp h).1
    exact this) KN_21 rfl]
  exact h
theorem kb_22 (r : Nat) {b : Nat} (h : KN_22[r]? = some b) : cb cL_law (64 * 22 + r) = some b := by
  unfold cb
  rw [kn_eq, fl64 kn_64 22 r (by
    have := (List.getElem?_eq_some_iff.mp h).1
    exact this) KN_22 rfl]
  exact h
theorem kb_23 (r : Nat) {b : Nat} (h : KN_23[r]? = some b) : cb cL_law (64 * 23 + r) = some b := by
  unfold cb
  rw [kn_eq, fl64 kn_64 23 r (by
    have := (List.getElem?_eq_some_iff.mp h).1
    exact this) KN_23 rfl]
  exact h
theorem kb_24 (r : Nat) {b : Nat} (h : KN_24[r]? = some b) : cb cL_law (64 * 24 + r) = some b := by
  unfold cb
  rw [kn_eq, fl64 kn_64 24 r (by
    have := (List.getElem?_eq_some_iff.mp h).1
    exact this) KN_24 rfl]
  exact h
theorem kb_25 (r : Nat) {b : Nat} (h : KN_25[r]? = some b) : cb cL_law (64 * 25 + r) = some b := by
  unfold cb
  rw [kn_eq, fl64 kn_64 25 r (by
    have := (List.getElem?_eq_some_iff.mp h).1
    exact this) KN_25 rfl]
  exact h
theorem kb_26 (r : Nat) {b : Nat} (h : KN_26[r]? = some b) : cb cL_law (64 * 26 + r) = some b := by
  unfold cb
  rw [kn_eq, fl64 kn_64 26 r (by
    have := (List.getElem?_eq_some_iff.mp h).1
    exact this) KN_26 rfl]
  exact h
theorem kb_27 (r : Nat) {b : Nat} (h : KN_27[r]? = some b) : cb cL_law (64 * 27 + r) = some b := by
  unfold cb
  rw [kn_eq, fl64 kn_64 27 r (by
    have := (List.getElem?_eq_some_iff.mp h).1
    exact this) KN_27 rfl]
  exact h
theorem kb_28 (r : Nat) {b : Nat} (h : KN_28[r]? = some b) : cb cL_law (64 * 28 + r) = some b := by
  unfold cb
  rw [kn_eq, fl64 kn_64 28 r (by
    have := (List.getElem?_eq_some_iff.mp h).1
    exact this) KN_28 rfl]
  exact h
theorem kb_29 (r : Nat) {b : Nat} (h : KN_29[r]? = some b) : cb cL_law (64 * 29 + r) = some b := by
  unfold cb
  rw [kn_eq, fl64 kn_64 29 r (by
    have := (List.getElem?_eq_some_iff.mp h).1
    exact this) KN_29 rfl]
  exact h
theorem kb_30 (r : Nat) {b : Nat} (h : KN_30[r]? = some b) : cb cL_law (64 * 30 + r) = some b := by
  unfold cb
  rw [kn_eq, fl64 kn_64 30 r (by
    have := (List.getElem?_eq_some_iff.mp h).1
    exact this) KN_30 rfl]
  exact h
theorem kb_31 (r : Nat) {b : Nat} (h : KN_31[r]? = some b) : cb cL_law (64 * 31 + r) = some b := by
  unfold cb
  rw [kn_eq, fl64 kn_64 31 r (by
    have := (List.getElem?_eq_some_iff.mp h).1
    exact this) KN_31 rfl]
  exact h
theorem kb_32 (r : Nat) {b : Nat} (h : KN_32[r]? = some b) : cb cL_law (64 * 32 + r) = some b := by
  unfold cb
  rw [kn_eq, fl64 kn_64 32 r (by
    have := (List.getElem?_eq_some_iff.mp h).1
    exact this) KN_32 rfl]
  exact h
theorem kb_33 (r : Nat) {b : Nat} (h : KN_33[r]? = some b) : cb cL_law (64 * 33 + r) = some b := by
  unfold cb
  rw [kn_eq, fl64 kn_64 33 r (by
    have := (List.getElem?_eq_some_iff.mp h).1
    exact this) KN_33 rfl]
  exact h
theorem kb_34 (r : Nat) {b : Nat} (h : KN_34[r]? = some b) : cb cL_law (64 * 34 + r) = some b := by
  unfold cb
  rw [kn_eq, fl64 kn_64 34 r (by
    have := (List.getElem?_eq_some_iff.mp h).1
    exact this) KN_34 rfl]
  exact h
theorem kb_35 (r : Nat) {b : Nat} (h : KN_35[r]? = some b) : cb cL_law (64 * 35 + r) = some b := by
  unfold cb
  rw [kn_eq, fl64 kn_64 35 r (by
    have := (List.getElem?_eq_some_iff.mp h).1
    exact this) KN_35 rfl]
  exact h
theorem kb_36 (r : Nat) {b : Nat} (h : KN_36[r]? = some b) : cb cL_law (64 * 36 + r) = some b := by
  unfold cb
  rw [kn_eq, fl64 kn_64 36 r (by
    have := (List.getElem?_eq_some_iff.mp h).1
    exact this) KN_36 rfl]
  exact h
theorem kb_37 (r : Nat) {b : Nat} (h : KN_37[r]? = some b) : cb cL_law (64 * 37 + r) = some b := by
  unfold cb
  rw [kn_eq, fl64 kn_64 37 r (by
    have := (List.getElem?_eq_some_iff.mp h).1
    exact this) KN_37 rfl]
  exact h
theorem kb_38 (r : Nat) {b : Nat} (h : KN_38[r]? = some b) : cb cL_law (64 * 38 + r) = some b := by
  unfold cb
  rw [kn_eq, fl64 kn_64 38 r (by
    have := (List.getElem?_eq_some_iff.mp h).1
    exact this) KN_38 rfl]
  exact h
theorem kb_39 (r : Nat) {b : Nat} (h : KN_39[r]? = some b) : cb cL_law (64 * 39 + r) = some b := by
  unfold cb
  rw [kn_eq, fl64 kn_64 39 r (by
    have := (List.getElem?_eq_some_iff.mp h).1
    exact this) KN_39 rfl]
  exact h
theorem kb_40 (r : Nat) {b : Nat} (h : KN_40[r]? = some b) : cb cL_law (64 * 40 + r) = some b := by
  unfold cb
  rw [kn_eq, fl64 kn_64 40 r (by
    have := (List.getElem?_eq_some_iff.mp h).1
    exact this) KN_40 rfl]
  exact h
theorem kb_41 (r : Nat) {b : Nat} (h : KN_41[r]? = some b) : cb cL_law (64 * 41 + r) = some b := by
  unfold cb
  rw [kn_eq, fl64 kn_64 41 r (by
    have := (List.getElem?_eq_some_iff.mp h).1
    exact this) KN_41 rfl]
  exact h
theorem kb_42 (r : Nat) {b : Nat} (h : KN_42[r]? = some b) : cb cL_law (64 * 42 + r) = some b := by
  unfold cb
  rw [kn_eq, fl64 kn_64 42 r (by
    have := (List.getElem?_eq_some_iff.mp h).1
    exact this) KN_42 rfl]
  exact h
theorem kb_43 (r : Nat) {b : Nat} (h : KN_43[r]? = some b) : cb cL_law (64 * 43 + r) = some b := by
  unfold cb
  rw [kn_eq, fl64 kn_64 43 r (by
    have := (List.getElem?_eq_some_iff.mp h).1
    exact this) KN_43 rfl]
  exact h
theorem kb_44 (r : Nat) {b : Nat} (h : KN_44[r]? = some b) : cb cL_law (64 * 44 + r) = some b := by
  unfold cb
  rw [kn_eq, fl64 kn_64 44 r (by
    have := (List.getElem?_eq_some_iff.mp h).1
    exact this) KN_44 rfl]
  exact h
theorem kb_45 (r : Nat) {b : Nat} (h : KN_45[r]? = some b) : cb cL_law (64 * 45 + r) = some b := by
  unfold cb
  rw [kn_eq, fl64 kn_64 45 r (by
    have := (List.getElem?_eq_some_iff.mp h).1
    exact this) KN_45 rfl]
  exact h
theorem kb_46 (r : Nat) {b : Nat} (h : KN_46[r]? = some b) : cb cL_law (64 * 46 + r) = some b := by
  unfold cb
  rw [kn_eq, fl64 kn_64 46 r (by
    have := (List.getElem?_eq_some_iff.mp h).1
    exact this) KN_46 rfl]
  exact h
theorem kb_47 (r : Nat) {b : Nat} (h : KN_47[r]? = some b) : cb cL_law (64 * 47 + r) = some b := by
  unfold cb
  rw [kn_eq, fl64 kn_64 47 r (by
    have := (List.getElem?_eq_some_iff.mp h).1
    exact this) KN_47 rfl]
  exact h
theorem kb_48 (r : Nat) {b : Nat} (h : KN_48[r]? = some b) : cb cL_law (64 * 48 + r) = some b := by
  unfold cb
  rw [kn_eq, fl64 kn_64 48 r (by
    have := (List.getElem?_eq_some_iff.mp h).1
    exact this) KN_48 rfl]
  exact h
theorem kb_49 (r : Nat) {b : Nat} (h : KN_49[r]? = some b) : cb cL_law (64 * 49 + r) = some b := by
  unfold cb
  rw [kn_eq, fl64 kn_64 49 r (by
    have := (List.getElem?_eq_some_iff.mp h).1
    exact this) KN_49 rfl]
  exact h
theorem kb_50 (r : Nat) {b : Nat} (h : KN_50[r]? = some b) : cb cL_law (64 * 50 + r) = some b := by
  unfold cb
  rw [kn_eq, fl64 kn_64 50 r (by
    have := (List.getElem?_eq_some_iff.mp h).1
    exact this) KN_50 rfl]
  exact h
theorem kb_51 (r : Nat) {b : Nat} (h : KN_51[r]? = some b) : cb cL_law (64 * 51 + r) = some b := by
  unfold cb
  rw [kn_eq, fl64 kn_64 51 r (by
    have := (List.getElem?_eq_some_iff.mp h).1
    exact this) KN_51 rfl]
  exact h
theorem kb_52 (r : Nat) {b : Nat} (h : KN_52[r]? = some b) : cb cL_law (64 * 52 + r) = some b := by
  unfold cb
  rw [kn_eq, fl64 kn_64 52 r (by
    have := (List.getElem?_eq_some_iff.mp h).1
    exact this) KN_52 rfl]
  exact h
theorem kb_53 (r : Nat) {b : Nat} (h : KN_53[r]? = some b) : cb cL_law (64 * 53 + r) = some b := by
  unfold cb
  rw [kn_eq, fl64 kn_64 53 r (by
    have := (List.getElem?_eq_some_iff.mp h).1
    exact this) KN_53 rfl]
  exact h
