/-! THE BYTES OF THE METHODS, IN LISTS -/
def KB_J0_coder_7d493 : List Nat := [178, 0, 38, 153, 0, 10, 42, 180, 0, 15, 167, 0, 4, 4, 172]
theorem ke_J0_coder_7d493 : cJ0_coder_7d493.data.toList.map UInt8.toNat = KB_J0_coder_7d493 := by decide +kernel
def KB_J0_getBytes_840e7 : List Nat := [42, 182, 1, 79, 29, 160, 0, 23, 42, 180, 0, 9, 3, 43, 28, 29, 120, 42, 180, 0, 9, 190, 184, 0, 212, 167, 0, 18, 42, 180, 0, 9, 3, 43, 28, 42, 180, 0, 9, 190, 184, 0, 106, 177]
theorem ke_J0_getBytes_840e7 : cJ0_getBytes_840e7.data.toList.map UInt8.toNat = KB_J0_getBytes_840e7 := by decide +kernel
def KB_J0_init_81219 : List Nat := [42, 43, 1, 183, 1, 233, 177]
theorem ke_J0_init_81219 : cJ0_init_81219.data.toList.map UInt8.toNat = KB_J0_init_81219 := by decide +kernel
def KB_J0_init_db425_0 : List Nat := [42, 183, 0, 1, 43, 182, 2, 40, 78, 43, 182, 2, 37, 54, 4, 43, 182, 4, 23, 153, 0, 22, 42, 3, 181, 0, 15, 42, 45, 3, 21, 4, 184, 0, 54, 181, 0, 9, 167, 0, 59, 178, 0, 38, 153, 0, 35, 43, 180, 4, 24, 153, 0, 28, 42, 45, 3, 21, 4, 184, 4, 27, 181, 0]
def KB_J0_init_db425_1 : List Nat := [9, 42, 42, 180, 0, 9, 21, 4, 184, 0, 47, 181, 0, 15, 177, 42, 4, 181, 0, 15, 42, 45, 3, 21, 4, 4, 120, 184, 0, 54, 181, 0, 9, 177]
def KS_J0_init_db425 : List (List Nat) := [KB_J0_init_db425_0]
theorem ke_J0_init_db425 : cJ0_init_db425.data.toList.map UInt8.toNat = KS_J0_init_db425.flatten ++ KB_J0_init_db425_1 := by decide +kernel
theorem kn_J0_init_db425 : ∀ K ∈ KS_J0_init_db425, K.length = 64 := by decide +kernel
theorem kb_J0_init_db425_0 (r : Nat) {b : Nat} (h : KB_J0_init_db425_0[r]? = some b) : cb cJ0_init_db425 (64 * 0 + r) = some b := kc_of ke_J0_init_db425 kn_J0_init_db425 0 r KB_J0_init_db425_0 rfl h
theorem kb_J0_init_db425_1 (r : Nat) {b : Nat} (h : KB_J0_init_db425_1[r]? = some b) : cb cJ0_init_db425 (64 * 1 + r) = some b := kr_of ke_J0_init_db425 kn_J0_init_db425 1 r rfl h
def KB_J0_isEmpty_aae02 : List Nat := [42, 180, 0, 9, 190, 154, 0, 7, 4, 167, 0, 4, 3, 172]
theorem ke_J0_isEmpty_aae02 : cJ0_isEmpty_aae02.data.toList.map UInt8.toNat = KB_J0_isEmpty_aae02 := by decide +kernel
def KB_J0_length_8abf5 : List Nat := [42, 180, 0, 9, 190, 42, 182, 1, 79, 122, 172]
theorem ke_J0_length_8abf5 : cJ0_length_8abf5.data.toList.map UInt8.toNat = KB_J0_length_8abf5 := by decide +kernel
def KB_J1_canEncode_fc78d : List Nat := [26, 17, 0, 255, 163, 0, 7, 4, 167, 0, 4, 3, 172]
theorem ke_J1_canEncode_fc78d : cJ1_canEncode_fc78d.data.toList.map UInt8.toNat = KB_J1_canEncode_fc78d := by decide +kernel
def KB_J4_append_15ec4 : List Nat := [42, 43, 183, 0, 29, 87, 42, 176]
theorem ke_J4_append_15ec4 : cJ4_append_15ec4.data.toList.map UInt8.toNat = KB_J4_append_15ec4 := by decide +kernel
def KB_J4_append_bf812 : List Nat := [42, 27, 183, 0, 53, 87, 42, 176]
theorem ke_J4_append_bf812 : cJ4_append_bf812.data.toList.map UInt8.toNat = KB_J4_append_bf812 := by decide +kernel
def KB_J4_append_cf468 : List Nat := [42, 27, 183, 0, 50, 87, 42, 176]
theorem ke_J4_append_cf468 : cJ4_append_cf468.data.toList.map UInt8.toNat = KB_J4_append_cf468 := by decide +kernel
def KB_J4_init_da8c8 : List Nat := [42, 16, 16, 183, 0, 1, 177]
theorem ke_J4_init_da8c8 : cJ4_init_da8c8.data.toList.map UInt8.toNat = KB_J4_init_da8c8 := by decide +kernel
def KB_J4_length_8abf5 : List Nat := [42, 183, 1, 87, 172]
theorem ke_J4_length_8abf5 : cJ4_length_8abf5.data.toList.map UInt8.toNat = KB_J4_length_8abf5 := by decide +kernel
def KB_J4_setLength_d00df : List Nat := [42, 27, 183, 1, 77, 177]
theorem ke_J4_setLength_d00df : cJ4_setLength_d00df.data.toList.map UInt8.toNat = KB_J4_setLength_d00df := by decide +kernel
def KB_J4_toString_0e30d : List Nat := [187, 0, 18, 89, 42, 183, 0, 137, 176]
theorem ke_J4_toString_0e30d : cJ4_toString_0e30d.data.toList.map UInt8.toNat = KB_J4_toString_0e30d := by decide +kernel
def KB_J5_append_3fe6f_0 : List Nat := [42, 42, 180, 0, 79, 4, 96, 182, 0, 100, 42, 182, 0, 83, 153, 0, 31, 27, 184, 0, 191, 153, 0, 24, 42, 180, 0, 15, 42, 89, 180, 0, 79, 90, 4, 96, 181, 0, 79, 27, 145, 84, 167, 0, 33, 42, 182, 0, 83, 153, 0, 7, 42, 182, 0, 195, 42, 180, 0, 15, 42, 89, 180, 0]
def KB_J5_append_3fe6f_1 : List Nat := [79, 90, 4, 96, 181, 0, 79, 27, 184, 0, 197, 42, 176]
def KS_J5_append_3fe6f : List (List Nat) := [KB_J5_append_3fe6f_0]
theorem ke_J5_append_3fe6f : cJ5_append_3fe6f.data.toList.map UInt8.toNat = KS_J5_append_3fe6f.flatten ++ KB_J5_append_3fe6f_1 := by decide +kernel
theorem kn_J5_append_3fe6f : ∀ K ∈ KS_J5_append_3fe6f, K.length = 64 := by decide +kernel
theorem kb_J5_append_3fe6f_0 (r : Nat) {b : Nat} (h : KB_J5_append_3fe6f_0[r]? = some b) : cb cJ5_append_3fe6f (64 * 0 + r) = some b := kc_of ke_J5_append_3fe6f kn_J5_append_3fe6f 0 r KB_J5_append_3fe6f_0 rfl h
theorem kb_J5_append_3fe6f_1 (r : Nat) {b : Nat} (h : KB_J5_append_3fe6f_1[r]? = some b) : cb cJ5_append_3fe6f (64 * 1 + r) = some b := kr_of ke_J5_append_3fe6f kn_J5_append_3fe6f 1 r rfl h
def KB_J5_append_c97b9 : List Nat := [42, 180, 0, 79, 61, 28, 27, 184, 0, 245, 96, 62, 42, 29, 182, 0, 100, 42, 182, 0, 83, 153, 0, 16, 27, 29, 42, 180, 0, 15, 184, 0, 248, 87, 167, 0, 14, 27, 28, 29, 42, 180, 0, 15, 184, 0, 251, 87, 42, 29, 181, 0, 79, 42, 176]
theorem ke_J5_append_c97b9 : cJ5_append_c97b9.data.toList.map UInt8.toNat = KB_J5_append_c97b9 := by decide +kernel
def KB_J5_append_cf1ce : List Nat := [43, 199, 0, 8, 42, 182, 0, 204, 176, 43, 182, 0, 32, 61, 42, 42, 180, 0, 79, 28, 96, 182, 0, 100, 42, 42, 180, 0, 79, 43, 182, 0, 208, 42, 89, 180, 0, 79, 28, 96, 181, 0, 79, 42, 176]
theorem ke_J5_append_cf1ce : cJ5_append_cf1ce.data.toList.map UInt8.toNat = KB_J5_append_cf1ce := by decide +kernel
def KB_J5_ensureCapacityInternal_d00df : List Nat := [42, 180, 0, 15, 190, 42, 180, 0, 22, 122, 61, 27, 28, 100, 158, 0, 24, 42, 42, 180, 0, 15, 42, 27, 182, 0, 104, 42, 180, 0, 22, 120, 184, 0, 108, 181, 0, 15, 177]
theorem ke_J5_ensureCapacityInternal_d00df : cJ5_ensureCapacityInternal_d00df.data.toList.map UInt8.toNat = KB_J5_ensureCapacityInternal_d00df := by decide +kernel
def KB_J5_getValue_6d5f1 : List Nat := [42, 180, 0, 15, 176]
theorem ke_J5_getValue_6d5f1 : cJ5_getValue_6d5f1.data.toList.map UInt8.toNat = KB_J5_getValue_6d5f1 := by decide +kernel
def KB_J5_inflateIfNeededFor_a7421 : List Nat := [178, 0, 18, 153, 0, 18, 42, 180, 0, 22, 43, 182, 0, 40, 159, 0, 7, 42, 182, 0, 195, 177]
theorem ke_J5_inflateIfNeededFor_a7421 : cJ5_inflateIfNeededFor_a7421.data.toList.map UInt8.toNat = KB_J5_inflateIfNeededFor_a7421 := by decide +kernel
def KB_J5_init_d00df : List Nat := [42, 183, 0, 3, 178, 0, 18, 153, 0, 18, 42, 27, 188, 8, 181, 0, 15, 42, 3, 181, 0, 22, 167, 0, 16, 42, 27, 184, 0, 26, 181, 0, 15, 42, 4, 181, 0, 22, 177]
theorem ke_J5_init_d00df : cJ5_init_d00df.data.toList.map UInt8.toNat = KB_J5_init_d00df := by decide +kernel
def KB_J5_isLatin1_aae02 : List Nat := [178, 0, 18, 153, 0, 14, 42, 180, 0, 22, 154, 0, 7, 4, 167, 0, 4, 3, 172]
theorem ke_J5_isLatin1_aae02 : cJ5_isLatin1_aae02.data.toList.map UInt8.toNat = KB_J5_isLatin1_aae02 := by decide +kernel
def KB_J5_length_8abf5 : List Nat := [42, 180, 0, 79, 172]
theorem ke_J5_length_8abf5 : cJ5_length_8abf5.data.toList.map UInt8.toNat = KB_J5_length_8abf5 := by decide +kernel
def KB_J5_newCapacity_0f7a4 : List Nat := [42, 180, 0, 15, 190, 61, 27, 42, 180, 0, 22, 120, 62, 29, 28, 100, 54, 4, 28, 21, 4, 28, 5, 42, 180, 0, 22, 120, 96, 184, 0, 114, 54, 5, 21, 5, 18, 39, 160, 0, 13, 187, 0, 120, 89, 18, 122, 183, 0, 124, 191, 21, 5, 42, 180, 0, 22, 122, 172]
theorem ke_J5_newCapacity_0f7a4 : cJ5_newCapacity_0f7a4.data.toList.map UInt8.toNat = KB_J5_newCapacity_0f7a4 := by decide +kernel
def KB_J5_putStringAt_47b60 : List Nat := [42, 44, 182, 1, 141, 44, 42, 180, 0, 15, 27, 42, 180, 0, 22, 182, 1, 143, 177]
theorem ke_J5_putStringAt_47b60 : cJ5_putStringAt_47b60.data.toList.map UInt8.toNat = KB_J5_putStringAt_47b60 := by decide +kernel
def KB_J5_setLength_d00df_0 : List Nat := [27, 156, 0, 12, 187, 0, 129, 89, 27, 183, 0, 131, 191, 42, 27, 182, 0, 100, 42, 180, 0, 79, 27, 162, 0, 40, 42, 182, 0, 83, 153, 0, 18, 42, 180, 0, 15, 42, 180, 0, 79, 27, 184, 0, 133, 167, 0, 31, 42, 180, 0, 15, 42, 180, 0, 79, 27, 184, 0, 137, 167, 0, 16, 42]
def KB_J5_setLength_d00df_1 : List Nat := [180, 0, 79, 27, 164, 0, 8, 42, 4, 181, 0, 73, 42, 27, 181, 0, 79, 177]
def KS_J5_setLength_d00df : List (List Nat) := [KB_J5_setLength_d00df_0]
theorem ke_J5_setLength_d00df : cJ5_setLength_d00df.data.toList.map UInt8.toNat = KS_J5_setLength_d00df.flatten ++ KB_J5_setLength_d00df_1 := by decide +kernel
theorem kn_J5_setLength_d00df : ∀ K ∈ KS_J5_setLength_d00df, K.length = 64 := by decide +kernel
theorem kb_J5_setLength_d00df_0 (r : Nat) {b : Nat} (h : KB_J5_setLength_d00df_0[r]? = some b) : cb cJ5_setLength_d00df (64 * 0 + r) = some b := kc_of ke_J5_setLength_d00df kn_J5_setLength_d00df 0 r KB_J5_setLength_d00df_0 rfl h
theorem kb_J5_setLength_d00df_1 (r : Nat) {b : Nat} (h : KB_J5_setLength_d00df_1[r]? = some b) : cb cJ5_setLength_d00df (64 * 1 + r) = some b := kr_of ke_J5_setLength_d00df kn_J5_setLength_d00df 1 r rfl h
def KB_J6_getChars_ba4f3_0 : List Nat := [27, 54, 5, 26, 156, 0, 7, 4, 167, 0, 4, 3, 54, 6, 21, 6, 154, 0, 6, 26, 116, 59, 26, 16, 156, 163, 0, 47, 26, 16, 100, 108, 62, 29, 16, 100, 104, 26, 100, 54, 4, 29, 59, 44, 132, 5, 255, 21, 5, 178, 0, 83, 21, 4, 51, 84, 44, 132, 5, 255, 21, 5, 178, 0]
def KB_J6_getChars_ba4f3_1 : List Nat := [87, 21, 4, 51, 84, 167, 255, 209, 44, 132, 5, 255, 21, 5, 178, 0, 83, 26, 116, 51, 84, 26, 16, 247, 162, 0, 16, 44, 132, 5, 255, 21, 5, 178, 0, 87, 26, 116, 51, 84, 21, 6, 153, 0, 12, 44, 132, 5, 255, 21, 5, 16, 45, 84, 21, 5, 172]
def KS_J6_getChars_ba4f3 : List (List Nat) := [KB_J6_getChars_ba4f3_0]
theorem ke_J6_getChars_ba4f3 : cJ6_getChars_ba4f3.data.toList.map UInt8.toNat = KS_J6_getChars_ba4f3.flatten ++ KB_J6_getChars_ba4f3_1 := by decide +kernel
theorem kn_J6_getChars_ba4f3 : ∀ K ∈ KS_J6_getChars_ba4f3, K.length = 64 := by decide +kernel
theorem kb_J6_getChars_ba4f3_0 (r : Nat) {b : Nat} (h : KB_J6_getChars_ba4f3_0[r]? = some b) : cb cJ6_getChars_ba4f3 (64 * 0 + r) = some b := kc_of ke_J6_getChars_ba4f3 kn_J6_getChars_ba4f3 0 r KB_J6_getChars_ba4f3_0 rfl h
theorem kb_J6_getChars_ba4f3_1 (r : Nat) {b : Nat} (h : KB_J6_getChars_ba4f3_1[r]? = some b) : cb cJ6_getChars_ba4f3 (64 * 1 + r) = some b := kr_of ke_J6_getChars_ba4f3 kn_J6_getChars_ba4f3 1 r rfl h
def KB_J6_stringSize_0f7a4 : List Nat := [4, 60, 26, 155, 0, 8, 3, 60, 26, 116, 59, 16, 246, 61, 4, 62, 29, 16, 10, 162, 0, 23, 26, 28, 164, 0, 7, 29, 27, 96, 172, 16, 10, 28, 104, 61, 132, 3, 1, 167, 255, 233, 16, 10, 27, 96, 172]
theorem ke_J6_stringSize_0f7a4 : cJ6_stringSize_0f7a4.data.toList.map UInt8.toNat = KB_J6_stringSize_0f7a4 := by decide +kernel
def KB_J7_checkLength_df160 : List Nat := [27, 26, 162, 0, 35, 187, 0, 43, 89, 187, 0, 45, 89, 183, 0, 47, 26, 182, 0, 54, 19, 1, 81, 182, 0, 50, 27, 182, 0, 54, 182, 0, 61, 183, 0, 65, 191, 177]
theorem ke_J7_checkLength_df160 : cJ7_checkLength_df160.data.toList.map UInt8.toNat = KB_J7_checkLength_df160 := by decide +kernel
def KB_J7_copyOfRangeByte_39247 : List Nat := [27, 28, 184, 1, 87, 28, 27, 100, 62, 29, 188, 8, 58, 4, 42, 27, 25, 4, 3, 42, 190, 27, 100, 29, 184, 1, 48, 184, 0, 150, 25, 4, 176]
theorem ke_J7_copyOfRangeByte_39247 : cJ7_copyOfRangeByte_39247.data.toList.map UInt8.toNat = KB_J7_copyOfRangeByte_39247 := by decide +kernel
def KB_J7_copyOfRange_39247 : List Nat := [27, 154, 0, 9, 28, 42, 190, 159, 0, 10, 42, 27, 28, 184, 1, 83, 176, 42, 182, 1, 54, 192, 1, 55, 176]
theorem ke_J7_copyOfRange_39247 : cJ7_copyOfRange_39247.data.toList.map UInt8.toNat = KB_J7_copyOfRange_39247 := by decide +kernel
def KB_J7_copyOf_9075b : List Nat := [27, 42, 190, 160, 0, 11, 42, 182, 1, 54, 192, 1, 55, 176, 27, 188, 8, 77, 42, 3, 44, 3, 42, 190, 27, 184, 1, 48, 184, 0, 150, 44, 176]
theorem ke_J7_copyOf_9075b : cJ7_copyOf_9075b.data.toList.map UInt8.toNat = KB_J7_copyOf_9075b := by decide +kernel
def KB_J8_newLength_cabcc : List Nat := [26, 27, 28, 184, 0, 194, 96, 62, 3, 29, 162, 0, 11, 29, 18, 200, 163, 0, 5, 29, 172, 26, 27, 184, 0, 201, 172]
theorem ke_J8_newLength_cabcc : cJ8_newLength_cabcc.data.toList.map UInt8.toNat = KB_J8_newLength_cabcc := by decide +kernel
def KB_J9_floorMod_7cf53 : List Nat := [26, 27, 112, 61, 26, 27, 130, 156, 0, 11, 28, 153, 0, 7, 28, 27, 96, 172, 28, 172]
theorem ke_J9_floorMod_7cf53 : cJ9_floorMod_7cf53.data.toList.map UInt8.toNat = KB_J9_floorMod_7cf53 := by decide +kernel
def KB_J9_max_7cf53 : List Nat := [26, 27, 161, 0, 7, 26, 167, 0, 4, 27, 172]
theorem ke_J9_max_7cf53 : cJ9_max_7cf53.data.toList.map UInt8.toNat = KB_J9_max_7cf53 := by decide +kernel
def KB_J9_min_7cf53 : List Nat := [26, 27, 163, 0, 7, 26, 167, 0, 4, 27, 172]
theorem ke_J9_min_7cf53 : cJ9_min_7cf53.data.toList.map UInt8.toNat = KB_J9_min_7cf53 := by decide +kernel
def KB_L_add : List Nat := [45, 42, 27, 28, 182, 0, 7, 133, 181, 0, 13, 167, 0, 15, 58, 4, 4, 172, 58, 4, 5, 172, 58, 4, 6, 172, 3, 172]
theorem ke_L_add : cL_add.data.toList.map UInt8.toNat = KB_L_add := by decide +kernel
def KB_L_addAll : List Nat := [25, 4, 42, 27, 28, 29, 182, 0, 79, 133, 181, 0, 13, 167, 0, 11, 58, 5, 4, 172, 58, 5, 5, 172, 3, 172]
theorem ke_L_addAll : cL_addAll.data.toList.map UInt8.toNat = KB_L_addAll := by decide +kernel
def KB_L_areApart : List Nat := [45, 42, 27, 28, 182, 0, 114, 153, 0, 7, 10, 167, 0, 4, 9, 181, 0, 13, 167, 0, 7, 58, 4, 4, 172, 3, 172]
theorem ke_L_areApart : cL_areApart.data.toList.map UInt8.toNat = KB_L_areApart := by decide +kernel
def KB_L_areSame : List Nat := [45, 42, 27, 28, 182, 0, 117, 153, 0, 7, 10, 167, 0, 4, 9, 181, 0, 13, 167, 0, 7, 58, 4, 4, 172, 3, 172]
theorem ke_L_areSame : cL_areSame.data.toList.map UInt8.toNat = KB_L_areSame := by decide +kernel
def KB_L_clear : List Nat := [44, 42, 27, 182, 0, 35, 133, 181, 0, 13, 167, 0, 6, 78, 4, 172, 3, 172]
theorem ke_L_clear : cL_clear.data.toList.map UInt8.toNat = KB_L_clear := by decide +kernel
def KB_L_close : List Nat := [44, 42, 27, 182, 0, 137, 133, 181, 0, 13, 167, 0, 6, 78, 4, 172, 3, 172]
theorem ke_L_close : cL_close.data.toList.map UInt8.toNat = KB_L_close := by decide +kernel
def KB_L_contains : List Nat := [45, 42, 27, 28, 182, 0, 103, 153, 0, 7, 10, 167, 0, 4, 9, 181, 0, 13, 167, 0, 7, 58, 4, 4, 172, 3, 172]
theorem ke_L_contains : cL_contains.data.toList.map UInt8.toNat = KB_L_contains := by decide +kernel
def KB_L_copy : List Nat := [45, 42, 27, 28, 182, 0, 88, 133, 181, 0, 13, 167, 0, 7, 58, 4, 4, 172, 3, 172]
theorem ke_L_copy : cL_copy.data.toList.map UInt8.toNat = KB_L_copy := by decide +kernel
def KB_L_fill : List Nat := [45, 42, 27, 28, 182, 0, 73, 133, 181, 0, 13, 167, 0, 11, 58, 4, 4, 172, 58, 4, 5, 172, 3, 172]
theorem ke_L_fill : cL_fill.data.toList.map UInt8.toNat = KB_L_fill := by decide +kernel
def KB_L_get : List Nat := [45, 42, 27, 28, 182, 0, 64, 133, 181, 0, 13, 167, 0, 7, 58, 4, 4, 172, 3, 172]
theorem ke_L_get : cL_get.data.toList.map UInt8.toNat = KB_L_get := by decide +kernel
def KB_L_hash : List Nat := [44, 42, 27, 182, 0, 120, 133, 181, 0, 13, 167, 0, 6, 78, 4, 172, 3, 172]
theorem ke_L_hash : cL_hash.data.toList.map UInt8.toNat = KB_L_hash := by decide +kernel
def KB_L_house : List Nat := [44, 42, 27, 182, 0, 167, 133, 181, 0, 13, 167, 0, 6, 78, 4, 172, 3, 172]
theorem ke_L_house : cL_house.data.toList.map UInt8.toNat = KB_L_house := by decide +kernel
def KB_L_howOften : List Nat := [45, 42, 27, 28, 182, 0, 107, 133, 181, 0, 13, 167, 0, 7, 58, 4, 4, 172, 3, 172]
theorem ke_L_howOften : cL_howOften.data.toList.map UInt8.toNat = KB_L_howOften := by decide +kernel
def KB_L_inArray : List Nat := [45, 42, 27, 28, 182, 0, 131, 133, 181, 0, 13, 167, 0, 7, 58, 4, 4, 172, 3, 172]
theorem ke_L_inArray : cL_inArray.data.toList.map UInt8.toNat = KB_L_inArray := by decide +kernel
def KB_L_indexOf : List Nat := [45, 42, 27, 28, 182, 0, 97, 133, 181, 0, 13, 167, 0, 7, 58, 4, 4, 172, 3, 172]
theorem ke_L_indexOf : cL_indexOf.data.toList.map UInt8.toNat = KB_L_indexOf := by decide +kernel
def KB_L_insert : List Nat := [25, 4, 42, 27, 28, 29, 182, 0, 25, 133, 181, 0, 13, 167, 0, 15, 58, 5, 4, 172, 58, 5, 5, 172, 58, 5, 6, 172, 3, 172]
theorem ke_L_insert : cL_insert.data.toList.map UInt8.toNat = KB_L_insert := by decide +kernel
def KB_L_lastIndexOf : List Nat := [45, 42, 27, 28, 182, 0, 100, 133, 181, 0, 13, 167, 0, 7, 58, 4, 4, 172, 3, 172]
theorem ke_L_lastIndexOf : cL_lastIndexOf.data.toList.map UInt8.toNat = KB_L_lastIndexOf := by decide +kernel
def KB_L_least : List Nat := [45, 42, 27, 28, 182, 0, 110, 133, 181, 0, 13, 167, 0, 11, 58, 4, 4, 172, 58, 4, 5, 172, 3, 172]
theorem ke_L_least : cL_least.data.toList.map UInt8.toNat = KB_L_least := by decide +kernel
def KB_L_next : List Nat := [44, 42, 27, 182, 0, 149, 133, 181, 0, 13, 167, 0, 9, 78, 4, 172, 78, 5, 172, 3, 172]
theorem ke_L_next : cL_next.data.toList.map UInt8.toNat = KB_L_next := by decide +kernel
def KB_L_ofCursor : List Nat := [45, 42, 27, 28, 182, 0, 164, 133, 181, 0, 13, 167, 0, 11, 58, 4, 4, 172, 58, 4, 5, 172, 3, 172]
theorem ke_L_ofCursor : cL_ofCursor.data.toList.map UInt8.toNat = KB_L_ofCursor := by decide +kernel
def KB_L_ofWindow : List Nat := [45, 42, 27, 28, 182, 0, 140, 133, 181, 0, 13, 167, 0, 11, 58, 4, 4, 172, 58, 4, 5, 172, 3, 172]
theorem ke_L_ofWindow : cL_ofWindow.data.toList.map UInt8.toNat = KB_L_ofWindow := by decide +kernel
def KB_L_open : List Nat := [25, 4, 42, 27, 28, 29, 182, 0, 143, 133, 181, 0, 13, 167, 0, 7, 58, 5, 4, 172, 3, 172]
theorem ke_L_open : cL_open.data.toList.map UInt8.toNat = KB_L_open := by decide +kernel
def KB_L_partAt : List Nat := [45, 42, 27, 28, 182, 0, 70, 133, 181, 0, 13, 167, 0, 7, 58, 4, 4, 172, 3, 172]
theorem ke_L_partAt : cL_partAt.data.toList.map UInt8.toNat = KB_L_partAt := by decide +kernel
def KB_L_places : List Nat := [45, 42, 27, 28, 182, 0, 91, 133, 181, 0, 13, 167, 0, 11, 58, 4, 4, 172, 58, 4, 5, 172, 3, 172]
theorem ke_L_places : cL_places.data.toList.map UInt8.toNat = KB_L_places := by decide +kernel
def KB_L_previous : List Nat := [44, 42, 27, 182, 0, 152, 133, 181, 0, 13, 167, 0, 9, 78, 4, 172, 78, 5, 172, 3, 172]
theorem ke_L_previous : cL_previous.data.toList.map UInt8.toNat = KB_L_previous := by decide +kernel
def KB_L_put : List Nat := [45, 42, 27, 28, 182, 0, 155, 133, 181, 0, 13, 167, 0, 15, 58, 4, 4, 172, 58, 4, 5, 172, 58, 4, 6, 172, 3, 172]
theorem ke_L_put : cL_put.data.toList.map UInt8.toNat = KB_L_put := by decide +kernel
def KB_L_remove : List Nat := [45, 42, 27, 28, 182, 0, 32, 133, 181, 0, 13, 167, 0, 7, 58, 4, 4, 172, 3, 172]
theorem ke_L_remove : cL_remove.data.toList.map UInt8.toNat = KB_L_remove := by decide +kernel
def KB_L_removeAll : List Nat := [45, 42, 27, 28, 182, 0, 82, 133, 181, 0, 13, 167, 0, 7, 58, 4, 4, 172, 3, 172]
theorem ke_L_removeAll : cL_removeAll.data.toList.map UInt8.toNat = KB_L_removeAll := by decide +kernel
def KB_L_removeItem : List Nat := [45, 42, 27, 28, 182, 0, 76, 133, 181, 0, 13, 167, 0, 7, 58, 4, 4, 172, 3, 172]
theorem ke_L_removeItem : cL_removeItem.data.toList.map UInt8.toNat = KB_L_removeItem := by decide +kernel
def KB_L_replace : List Nat := [45, 42, 27, 28, 182, 0, 161, 133, 181, 0, 13, 167, 0, 15, 58, 4, 4, 172, 58, 4, 5, 172, 58, 4, 6, 172, 3, 172]
theorem ke_L_replace : cL_replace.data.toList.map UInt8.toNat = KB_L_replace := by decide +kernel
def KB_L_retainAll : List Nat := [45, 42, 27, 28, 182, 0, 85, 133, 181, 0, 13, 167, 0, 7, 58, 4, 4, 172, 3, 172]
theorem ke_L_retainAll : cL_retainAll.data.toList.map UInt8.toNat = KB_L_retainAll := by decide +kernel
def KB_L_reverse : List Nat := [44, 42, 27, 182, 0, 46, 133, 181, 0, 13, 167, 0, 6, 78, 4, 172, 3, 172]
theorem ke_L_reverse : cL_reverse.data.toList.map UInt8.toNat = KB_L_reverse := by decide +kernel
def KB_L_riffle : List Nat := [44, 42, 27, 182, 0, 52, 133, 181, 0, 13, 167, 0, 6, 78, 4, 172, 3, 172]
theorem ke_L_riffle : cL_riffle.data.toList.map UInt8.toNat = KB_L_riffle := by decide +kernel
def KB_L_rotate : List Nat := [45, 42, 27, 28, 182, 0, 43, 133, 181, 0, 13, 167, 0, 11, 58, 4, 4, 172, 58, 4, 5, 172, 3, 172]
theorem ke_L_rotate : cL_rotate.data.toList.map UInt8.toNat = KB_L_rotate := by decide +kernel
def KB_L_set : List Nat := [25, 4, 42, 27, 28, 29, 182, 0, 29, 133, 181, 0, 13, 167, 0, 11, 58, 5, 4, 172, 58, 5, 5, 172, 3, 172]
theorem ke_L_set : cL_set.data.toList.map UInt8.toNat = KB_L_set := by decide +kernel
def KB_L_shut : List Nat := [44, 42, 27, 182, 0, 146, 133, 181, 0, 13, 167, 0, 6, 78, 4, 172, 3, 172]
theorem ke_L_shut : cL_shut.data.toList.map UInt8.toNat = KB_L_shut := by decide +kernel
def KB_L_size : List Nat := [44, 42, 27, 182, 0, 67, 133, 181, 0, 13, 167, 0, 6, 78, 4, 172, 3, 172]
theorem ke_L_size : cL_size.data.toList.map UInt8.toNat = KB_L_size := by decide +kernel
def KB_L_sort : List Nat := [44, 42, 27, 182, 0, 58, 133, 181, 0, 13, 167, 0, 6, 78, 4, 172, 3, 172]
theorem ke_L_sort : cL_sort.data.toList.map UInt8.toNat = KB_L_sort := by decide +kernel
def KB_L_sortBy : List Nat := [45, 42, 27, 28, 182, 0, 61, 133, 181, 0, 13, 167, 0, 11, 58, 4, 4, 172, 58, 4, 5, 172, 3, 172]
theorem ke_L_sortBy : cL_sortBy.data.toList.map UInt8.toNat = KB_L_sortBy := by decide +kernel
def KB_L_splice : List Nat := [25, 5, 42, 27, 28, 29, 21, 4, 182, 0, 39, 133, 181, 0, 13, 167, 0, 11, 58, 6, 4, 172, 58, 6, 5, 172, 3, 172]
theorem ke_L_splice : cL_splice.data.toList.map UInt8.toNat = KB_L_splice := by decide +kernel
def KB_L_swap : List Nat := [25, 4, 42, 27, 28, 29, 182, 0, 49, 133, 181, 0, 13, 167, 0, 7, 58, 5, 4, 172, 3, 172]
theorem ke_L_swap : cL_swap.data.toList.map UInt8.toNat = KB_L_swap := by decide +kernel
def KB_L_take : List Nat := [44, 42, 27, 182, 0, 158, 133, 181, 0, 13, 167, 0, 9, 78, 4, 172, 78, 5, 172, 3, 172]
theorem ke_L_take : cL_take.data.toList.map UInt8.toNat = KB_L_take := by decide +kernel
def KB_L_text : List Nat := [44, 42, 27, 182, 0, 123, 181, 0, 127, 167, 0, 6, 78, 4, 172, 3, 172]
theorem ke_L_text : cL_text.data.toList.map UInt8.toNat = KB_L_text := by decide +kernel
def KB_L_through : List Nat := [25, 4, 42, 27, 28, 29, 182, 0, 94, 133, 181, 0, 13, 167, 0, 7, 58, 5, 4, 172, 3, 172]
theorem ke_L_through : cL_through.data.toList.map UInt8.toNat = KB_L_through := by decide +kernel
def KB_L_unriffle : List Nat := [44, 42, 27, 182, 0, 55, 133, 181, 0, 13, 167, 0, 6, 78, 4, 172, 3, 172]
theorem ke_L_unriffle : cL_unriffle.data.toList.map UInt8.toNat = KB_L_unriffle := by decide +kernel
def KB_L_window : List Nat := [25, 5, 42, 27, 28, 29, 21, 4, 182, 0, 134, 133, 181, 0, 13, 167, 0, 11, 58, 6, 4, 172, 58, 6, 5, 172, 3, 172]
theorem ke_L_window : cL_window.data.toList.map UInt8.toNat = KB_L_window := by decide +kernel
def KB_X0_beginAt : List Nat := [42, 27, 181, 0, 15, 42, 28, 181, 0, 18, 42, 2, 181, 0, 9, 42, 4, 181, 0, 21, 177]
theorem ke_X0_beginAt : cX0_beginAt.data.toList.map UInt8.toNat = KB_X0_beginAt := by decide +kernel
def KB_X0_goBack : List Nat := [42, 180, 0, 18, 157, 0, 6, 16, 100, 172, 42, 89, 180, 0, 18, 4, 100, 181, 0, 18, 42, 42, 180, 0, 18, 181, 0, 9, 43, 42, 180, 0, 9, 182, 0, 30, 172]
theorem ke_X0_goBack : cX0_goBack.data.toList.map UInt8.toNat = KB_X0_goBack := by decide +kernel
def KB_X0_goForth : List Nat := [42, 180, 0, 18, 43, 180, 0, 25, 161, 0, 6, 16, 100, 172, 42, 42, 180, 0, 18, 181, 0, 9, 42, 89, 180, 0, 18, 4, 96, 181, 0, 18, 43, 42, 180, 0, 9, 182, 0, 30, 172]
theorem ke_X0_goForth : cX0_goForth.data.toList.map UInt8.toNat = KB_X0_goForth := by decide +kernel
def KB_X0_init : List Nat := [42, 183, 0, 3, 42, 2, 181, 0, 9, 177]
theorem ke_X0_init : cX0_init.data.toList.map UInt8.toNat = KB_X0_init := by decide +kernel
def KB_X1_append : List Nat := [42, 180, 0, 29, 16, 12, 162, 0, 23, 42, 180, 0, 15, 42, 180, 0, 29, 27, 79, 42, 89, 180, 0, 29, 4, 96, 181, 0, 29, 177]
theorem ke_X1_append : cX1_append.data.toList.map UInt8.toNat = KB_X1_append := by decide +kernel
def KB_X1_arrange_0 : List Nat := [4, 61, 28, 42, 180, 0, 29, 162, 0, 70, 42, 28, 182, 0, 32, 62, 28, 54, 4, 21, 4, 158, 0, 43, 27, 42, 21, 4, 4, 100, 182, 0, 32, 184, 0, 59, 27, 29, 184, 0, 59, 164, 0, 23, 42, 21, 4, 42, 21, 4, 4, 100, 182, 0, 32, 182, 0, 42, 132, 4, 255, 167, 255, 214]
def KB_X1_arrange_1 : List Nat := [42, 21, 4, 29, 182, 0, 42, 132, 2, 1, 167, 255, 184, 177]
def KS_X1_arrange : List (List Nat) := [KB_X1_arrange_0]
theorem ke_X1_arrange : cX1_arrange.data.toList.map UInt8.toNat = KS_X1_arrange.flatten ++ KB_X1_arrange_1 := by decide +kernel
theorem kn_X1_arrange : ∀ K ∈ KS_X1_arrange, K.length = 64 := by decide +kernel
theorem kb_X1_arrange_0 (r : Nat) {b : Nat} (h : KB_X1_arrange_0[r]? = some b) : cb cX1_arrange (64 * 0 + r) = some b := kc_of ke_X1_arrange kn_X1_arrange 0 r KB_X1_arrange_0 rfl h
theorem kb_X1_arrange_1 (r : Nat) {b : Nat} (h : KB_X1_arrange_1[r]? = some b) : cb cX1_arrange (64 * 1 + r) = some b := kr_of ke_X1_arrange kn_X1_arrange 1 r rfl h
def KB_X1_becomeLike : List Nat := [42, 43, 180, 0, 29, 181, 0, 29, 43, 180, 0, 15, 43, 180, 0, 26, 42, 180, 0, 15, 42, 180, 0, 26, 42, 180, 0, 29, 184, 0, 36, 177]
theorem ke_X1_becomeLike : cX1_becomeLike.data.toList.map UInt8.toNat = KB_X1_becomeLike := by decide +kernel
def KB_X1_drawHalvesApart : List Nat := [43, 42, 182, 0, 49, 42, 180, 0, 29, 4, 96, 5, 108, 61, 3, 62, 29, 42, 180, 0, 29, 162, 0, 39, 29, 5, 112, 154, 0, 9, 29, 5, 108, 167, 0, 8, 28, 29, 5, 108, 96, 54, 4, 42, 21, 4, 43, 29, 182, 0, 32, 182, 0, 42, 132, 3, 1, 167, 255, 215, 177]
theorem ke_X1_drawHalvesApart : cX1_drawHalvesApart.data.toList.map UInt8.toNat = KB_X1_drawHalvesApart := by decide +kernel
def KB_X1_exchangeTwo : List Nat := [42, 27, 182, 0, 32, 62, 42, 27, 42, 28, 182, 0, 32, 182, 0, 42, 42, 28, 29, 182, 0, 42, 177]
theorem ke_X1_exchangeTwo : cX1_exchangeTwo.data.toList.map UInt8.toNat = KB_X1_exchangeTwo := by decide +kernel
def KB_X1_firstItem : List Nat := [42, 180, 0, 29, 154, 0, 8, 16, 100, 167, 0, 8, 42, 3, 182, 0, 32, 172]
theorem ke_X1_firstItem : cX1_firstItem.data.toList.map UInt8.toNat = KB_X1_firstItem := by decide +kernel
def KB_X1_firstPlaceOf : List Nat := [3, 61, 28, 42, 180, 0, 29, 162, 0, 20, 42, 28, 182, 0, 32, 27, 160, 0, 5, 28, 172, 132, 2, 1, 167, 255, 234, 2, 172]
theorem ke_X1_firstPlaceOf : cX1_firstPlaceOf.data.toList.map UInt8.toNat = KB_X1_firstPlaceOf := by decide +kernel
def KB_X1_has : List Nat := [42, 27, 182, 0, 62, 2, 159, 0, 7, 4, 167, 0, 4, 3, 172]
theorem ke_X1_has : cX1_has.data.toList.map UInt8.toNat = KB_X1_has := by decide +kernel
def KB_X1_hashOfItems : List Nat := [4, 60, 3, 61, 28, 42, 180, 0, 29, 162, 0, 20, 16, 31, 27, 104, 42, 28, 182, 0, 32, 96, 60, 132, 2, 1, 167, 255, 234, 27, 172]
theorem ke_X1_hashOfItems : cX1_hashOfItems.data.toList.map UInt8.toNat = KB_X1_hashOfItems := by decide +kernel
def KB_X1_init : List Nat := [42, 183, 0, 3, 42, 27, 181, 0, 9, 42, 44, 181, 0, 15, 42, 29, 181, 0, 19, 42, 2, 181, 0, 23, 177]
theorem ke_X1_init : cX1_init.data.toList.map UInt8.toNat = KB_X1_init := by decide +kernel
def KB_X1_isGap : List Nat := [27, 155, 0, 15, 27, 42, 180, 0, 29, 163, 0, 7, 4, 167, 0, 4, 3, 172]
theorem ke_X1_isGap : cX1_isGap.data.toList.map UInt8.toNat = KB_X1_isGap := by decide +kernel
def KB_X1_isLike : List Nat := [42, 180, 0, 29, 43, 180, 0, 29, 160, 0, 16, 42, 3, 43, 182, 0, 65, 153, 0, 7, 4, 167, 0, 4, 3, 172]
theorem ke_X1_isLike : cX1_isLike.data.toList.map UInt8.toNat = KB_X1_isLike := by decide +kernel
def KB_X1_isStretch : List Nat := [27, 155, 0, 20, 27, 28, 163, 0, 15, 28, 42, 180, 0, 29, 163, 0, 7, 4, 167, 0, 4, 3, 172]
theorem ke_X1_isStretch : cX1_isStretch.data.toList.map UInt8.toNat = KB_X1_isStretch := by decide +kernel
def KB_X1_itemAt : List Nat := [42, 180, 0, 15, 42, 180, 0, 26, 27, 96, 46, 172]
theorem ke_X1_itemAt : cX1_itemAt.data.toList.map UInt8.toNat = KB_X1_itemAt := by decide +kernel
def KB_X1_layHalvesTogether : List Nat := [43, 42, 182, 0, 49, 42, 180, 0, 29, 4, 96, 5, 108, 61, 3, 62, 29, 42, 180, 0, 29, 162, 0, 39, 29, 5, 112, 154, 0, 9, 29, 5, 108, 167, 0, 8, 28, 29, 5, 108, 96, 54, 4, 42, 29, 43, 21, 4, 182, 0, 32, 182, 0, 42, 132, 3, 1, 167, 255, 215, 177]
theorem ke_X1_layHalvesTogether : cX1_layHalvesTogether.data.toList.map UInt8.toNat = KB_X1_layHalvesTogether := by decide +kernel
def KB_X1_lookAt : List Nat := [42, 43, 180, 0, 15, 181, 0, 15, 42, 43, 180, 0, 9, 181, 0, 9, 42, 28, 181, 0, 23, 42, 43, 180, 0, 26, 29, 96, 181, 0, 26, 42, 21, 4, 29, 100, 181, 0, 29, 42, 4, 181, 0, 19, 177]
theorem ke_X1_lookAt : cX1_lookAt.data.toList.map UInt8.toNat = KB_X1_lookAt := by decide +kernel
def KB_X1_moveUp : List Nat := [42, 180, 0, 29, 154, 0, 4, 177, 44, 42, 182, 0, 49, 3, 62, 29, 42, 180, 0, 29, 162, 0, 28, 42, 29, 27, 96, 42, 180, 0, 29, 184, 0, 53, 44, 29, 182, 0, 32, 182, 0, 42, 132, 3, 1, 167, 255, 226, 177]
theorem ke_X1_moveUp : cX1_moveUp.data.toList.map UInt8.toNat = KB_X1_moveUp := by decide +kernel
def KB_X1_placeOfAll : List Nat := [3, 61, 28, 43, 180, 0, 29, 96, 42, 180, 0, 29, 163, 0, 20, 42, 28, 43, 182, 0, 65, 153, 0, 5, 28, 172, 132, 2, 1, 167, 255, 229, 2, 172]
theorem ke_X1_placeOfAll : cX1_placeOfAll.data.toList.map UInt8.toNat = KB_X1_placeOfAll := by decide +kernel
def KB_X1_putAt : List Nat := [42, 180, 0, 15, 42, 180, 0, 26, 27, 96, 28, 79, 177]
theorem ke_X1_putAt : cX1_putAt.data.toList.map UInt8.toNat = KB_X1_putAt := by decide +kernel
def KB_X1_rank : List Nat := [26, 170, 0, 0, 0, 0, 0, 47, 0, 0, 0, 0, 0, 0, 0, 2, 0, 0, 0, 27, 0, 0, 0, 30, 0, 0, 0, 37, 27, 116, 172, 27, 16, 10, 184, 0, 53, 172, 27, 156, 0, 7, 3, 167, 0, 4, 4, 172, 27, 172]
theorem ke_X1_rank : cX1_rank.data.toList.map UInt8.toNat = KB_X1_rank := by decide +kernel
def KB_X1_standsAt : List Nat := [3, 62, 29, 44, 180, 0, 29, 162, 0, 26, 42, 27, 29, 96, 182, 0, 32, 44, 29, 182, 0, 32, 159, 0, 5, 3, 172, 132, 3, 1, 167, 255, 228, 4, 172]
theorem ke_X1_standsAt : cX1_standsAt.data.toList.map UInt8.toNat = KB_X1_standsAt := by decide +kernel
def KB_X1_turn : List Nat := [28, 4, 100, 62, 27, 54, 4, 21, 4, 29, 162, 0, 19, 42, 21, 4, 29, 182, 0, 46, 132, 3, 255, 132, 4, 1, 167, 255, 237, 177]
theorem ke_X1_turn : cX1_turn.data.toList.map UInt8.toNat = KB_X1_turn := by decide +kernel
def KB_X1_writeTo : List Nat := [43, 16, 91, 182, 0, 69, 87, 3, 61, 28, 42, 180, 0, 29, 162, 0, 30, 28, 158, 0, 10, 43, 18, 75, 182, 0, 77, 87, 43, 42, 28, 182, 0, 32, 182, 0, 80, 87, 132, 2, 1, 167, 255, 224, 43, 16, 93, 182, 0, 69, 87, 177]
theorem ke_X1_writeTo : cX1_writeTo.data.toList.map UInt8.toNat = KB_X1_writeTo := by decide +kernel
def KB_X2_add : List Nat := [42, 27, 182, 0, 39, 28, 184, 0, 43, 42, 27, 4, 182, 0, 46, 42, 27, 42, 180, 0, 11, 27, 50, 180, 0, 50, 28, 2, 182, 0, 54, 42, 180, 0, 11, 27, 50, 180, 0, 50, 172]
theorem ke_X2_add : cX2_add.data.toList.map UInt8.toNat = KB_X2_add := by decide +kernel
def KB_X2_addAll_0 : List Nat := [27, 184, 0, 126, 29, 184, 0, 126, 42, 180, 0, 11, 29, 50, 180, 0, 50, 54, 4, 42, 27, 21, 4, 182, 0, 46, 21, 4, 154, 0, 13, 42, 180, 0, 11, 27, 50, 180, 0, 50, 172, 42, 180, 0, 11, 27, 50, 28, 182, 0, 58, 154, 0, 6, 16, 247, 172, 42, 180, 0, 29, 42, 180, 0]
def KB_X2_addAll_1 : List Nat := [11, 29, 50, 182, 0, 79, 42, 27, 28, 28, 182, 0, 83, 42, 27, 2, 182, 0, 87, 42, 180, 0, 11, 27, 50, 180, 0, 50, 172]
def KS_X2_addAll : List (List Nat) := [KB_X2_addAll_0]
theorem ke_X2_addAll : cX2_addAll.data.toList.map UInt8.toNat = KS_X2_addAll.flatten ++ KB_X2_addAll_1 := by decide +kernel
theorem kn_X2_addAll : ∀ K ∈ KS_X2_addAll, K.length = 64 := by decide +kernel
theorem kb_X2_addAll_0 (r : Nat) {b : Nat} (h : KB_X2_addAll_0[r]? = some b) : cb cX2_addAll (64 * 0 + r) = some b := kc_of ke_X2_addAll kn_X2_addAll 0 r KB_X2_addAll_0 rfl h
theorem kb_X2_addAll_1 (r : Nat) {b : Nat} (h : KB_X2_addAll_1[r]? = some b) : cb cX2_addAll (64 * 1 + r) = some b := kr_of ke_X2_addAll kn_X2_addAll 1 r rfl h
def KB_X2_areApart : List Nat := [27, 184, 0, 126, 28, 184, 0, 126, 3, 62, 29, 42, 180, 0, 11, 27, 50, 180, 0, 50, 162, 0, 33, 42, 180, 0, 11, 28, 50, 42, 180, 0, 11, 27, 50, 29, 182, 0, 65, 182, 0, 144, 153, 0, 5, 3, 172, 132, 3, 1, 167, 255, 216, 4, 172]
theorem ke_X2_areApart : cX2_areApart.data.toList.map UInt8.toNat = KB_X2_areApart := by decide +kernel
def KB_X2_areSame : List Nat := [27, 184, 0, 126, 28, 184, 0, 126, 42, 180, 0, 11, 27, 50, 42, 180, 0, 11, 28, 50, 182, 0, 161, 172]
theorem ke_X2_areSame : cX2_areSame.data.toList.map UInt8.toNat = KB_X2_areSame := by decide +kernel
def KB_X2_becomeSpare : List Nat := [42, 180, 0, 11, 27, 50, 42, 180, 0, 29, 182, 0, 79, 42, 27, 2, 182, 0, 87, 42, 180, 0, 11, 27, 50, 180, 0, 50, 172]
theorem ke_X2_becomeSpare : cX2_becomeSpare.data.toList.map UInt8.toNat = KB_X2_becomeSpare := by decide +kernel
def KB_X2_clear : List Nat := [42, 27, 182, 0, 39, 42, 180, 0, 11, 27, 50, 180, 0, 50, 61, 28, 158, 0, 11, 42, 27, 3, 28, 2, 182, 0, 72, 28, 172]
theorem ke_X2_clear : cX2_clear.data.toList.map UInt8.toNat = KB_X2_clear := by decide +kernel
def KB_X2_close : List Nat := [27, 184, 0, 179, 42, 180, 0, 11, 7, 27, 96, 50, 180, 0, 194, 154, 0, 6, 16, 247, 172, 42, 7, 27, 96, 182, 0, 187, 42, 182, 0, 198, 172]
theorem ke_X2_close : cX2_close.data.toList.map UInt8.toNat = KB_X2_close := by decide +kernel
def KB_X2_contains : List Nat := [27, 184, 0, 126, 42, 180, 0, 11, 27, 50, 28, 182, 0, 144, 172]
theorem ke_X2_contains : cX2_contains.data.toList.map UInt8.toNat = KB_X2_contains := by decide +kernel
def KB_X2_copy : List Nat := [42, 27, 182, 0, 39, 28, 184, 0, 126, 42, 180, 0, 29, 42, 180, 0, 11, 27, 50, 182, 0, 79, 42, 28, 182, 0, 136, 172]
theorem ke_X2_copy : cX2_copy.data.toList.map UInt8.toNat = KB_X2_copy := by decide +kernel
def KB_X2_cursorsThere : List Nat := [3, 60, 3, 61, 28, 6, 162, 0, 29, 27, 42, 180, 0, 24, 28, 50, 180, 0, 221, 153, 0, 7, 4, 167, 0, 4, 3, 96, 60, 132, 2, 1, 167, 255, 228, 27, 172]
theorem ke_X2_cursorsThere : cX2_cursorsThere.data.toList.map UInt8.toNat = KB_X2_cursorsThere := by decide +kernel
def KB_X2_digest_0 : List Nat := [20, 0, 252, 64, 3, 62, 29, 7, 162, 0, 20, 31, 42, 29, 182, 0, 254, 133, 184, 1, 1, 64, 132, 3, 1, 167, 255, 237, 42, 31, 182, 1, 5, 64, 42, 31, 182, 1, 9, 64, 42, 31, 182, 1, 12, 64, 3, 62, 29, 7, 162, 0, 46, 3, 54, 4, 21, 4, 7, 162, 0, 31, 31, 42]
def KB_X2_digest_1 : List Nat := [180, 0, 11, 29, 50, 42, 180, 0, 11, 21, 4, 50, 182, 0, 122, 133, 184, 1, 1, 64, 132, 4, 1, 167, 255, 225, 132, 3, 1, 167, 255, 211, 31, 42, 182, 1, 15, 153, 0, 7, 10, 167, 0, 4, 9, 184, 1, 1, 173]
def KS_X2_digest : List (List Nat) := [KB_X2_digest_0]
theorem ke_X2_digest : cX2_digest.data.toList.map UInt8.toNat = KS_X2_digest.flatten ++ KB_X2_digest_1 := by decide +kernel
theorem kn_X2_digest : ∀ K ∈ KS_X2_digest, K.length = 64 := by decide +kernel
theorem kb_X2_digest_0 (r : Nat) {b : Nat} (h : KB_X2_digest_0[r]? = some b) : cb cX2_digest (64 * 0 + r) = some b := kc_of ke_X2_digest kn_X2_digest 0 r KB_X2_digest_0 rfl h
theorem kb_X2_digest_1 (r : Nat) {b : Nat} (h : KB_X2_digest_1[r]? = some b) : cb cX2_digest (64 * 1 + r) = some b := kr_of ke_X2_digest kn_X2_digest 1 r rfl h
def KB_X2_dismissCursorsOver : List Nat := [3, 61, 28, 6, 162, 0, 32, 42, 180, 0, 24, 28, 50, 180, 0, 225, 27, 160, 0, 13, 42, 180, 0, 24, 28, 50, 3, 181, 0, 221, 132, 2, 1, 167, 255, 225, 177]
theorem ke_X2_dismissCursorsOver : cX2_dismissCursorsOver.data.toList.map UInt8.toNat = KB_X2_dismissCursorsOver := by decide +kernel
def KB_X2_dismissWindow : List Nat := [7, 61, 28, 16, 8, 162, 0, 45, 42, 180, 0, 11, 28, 50, 180, 0, 194, 153, 0, 27, 42, 27, 28, 182, 0, 182, 153, 0, 18, 42, 180, 0, 11, 28, 50, 3, 181, 0, 194, 42, 28, 182, 1, 49, 132, 2, 1, 167, 255, 211, 177]
theorem ke_X2_dismissWindow : cX2_dismissWindow.data.toList.map UInt8.toNat = KB_X2_dismissWindow := by decide +kernel
def KB_X2_exchangeForSpare_0 : List Nat := [42, 180, 0, 11, 42, 180, 0, 11, 27, 50, 180, 0, 207, 50, 58, 4, 42, 180, 0, 11, 27, 50, 180, 1, 40, 28, 96, 54, 5, 42, 180, 0, 11, 27, 50, 180, 1, 40, 29, 96, 54, 6, 42, 180, 0, 29, 180, 0, 50, 54, 7, 25, 4, 180, 0, 18, 21, 6, 25, 4, 180, 0, 18, 21]
def KB_X2_exchangeForSpare_1 : List Nat := [5, 21, 7, 96, 25, 4, 180, 0, 50, 21, 6, 100, 184, 1, 43, 42, 180, 0, 29, 180, 0, 18, 3, 25, 4, 180, 0, 18, 21, 5, 21, 7, 184, 1, 43, 3, 54, 8, 21, 8, 16, 8, 162, 0, 40, 42, 21, 8, 27, 182, 0, 182, 153, 0, 24, 42, 180, 0, 11, 21, 8, 50, 89, 180]
def KB_X2_exchangeForSpare_2 : List Nat := [0, 50, 21, 7, 29, 28, 100, 100, 96, 181, 0, 50, 132, 8, 1, 167, 255, 215, 177]
def KS_X2_exchangeForSpare : List (List Nat) := [KB_X2_exchangeForSpare_0, KB_X2_exchangeForSpare_1]
theorem ke_X2_exchangeForSpare : cX2_exchangeForSpare.data.toList.map UInt8.toNat = KS_X2_exchangeForSpare.flatten ++ KB_X2_exchangeForSpare_2 := by decide +kernel
theorem kn_X2_exchangeForSpare : ∀ K ∈ KS_X2_exchangeForSpare, K.length = 64 := by decide +kernel
theorem kb_X2_exchangeForSpare_0 (r : Nat) {b : Nat} (h : KB_X2_exchangeForSpare_0[r]? = some b) : cb cX2_exchangeForSpare (64 * 0 + r) = some b := kc_of ke_X2_exchangeForSpare kn_X2_exchangeForSpare 0 r KB_X2_exchangeForSpare_0 rfl h
theorem kb_X2_exchangeForSpare_1 (r : Nat) {b : Nat} (h : KB_X2_exchangeForSpare_1[r]? = some b) : cb cX2_exchangeForSpare (64 * 1 + r) = some b := kc_of ke_X2_exchangeForSpare kn_X2_exchangeForSpare 1 r KB_X2_exchangeForSpare_1 rfl h
theorem kb_X2_exchangeForSpare_2 (r : Nat) {b : Nat} (h : KB_X2_exchangeForSpare_2[r]? = some b) : cb cX2_exchangeForSpare (64 * 2 + r) = some b := kr_of ke_X2_exchangeForSpare kn_X2_exchangeForSpare 2 r rfl h
def KB_X2_fill : List Nat := [27, 184, 0, 126, 28, 184, 0, 43, 3, 62, 29, 42, 180, 0, 11, 27, 50, 180, 0, 50, 162, 0, 20, 42, 180, 0, 11, 27, 50, 29, 28, 182, 0, 69, 132, 3, 1, 167, 255, 229, 42, 180, 0, 11, 27, 50, 180, 0, 50, 172]
theorem ke_X2_fill : cX2_fill.data.toList.map UInt8.toNat = KB_X2_fill := by decide +kernel
def KB_X2_get : List Nat := [42, 27, 28, 182, 0, 62, 42, 180, 0, 11, 27, 50, 28, 182, 0, 65, 172]
theorem ke_X2_get : cX2_get.data.toList.map UInt8.toNat = KB_X2_get := by decide +kernel
def KB_X2_hash : List Nat := [27, 184, 0, 126, 42, 180, 0, 11, 27, 50, 182, 0, 165, 172]
theorem ke_X2_hash : cX2_hash.data.toList.map UInt8.toNat = KB_X2_hash := by decide +kernel
def KB_X2_house : List Nat := [27, 7, 184, 0, 201, 27, 170, 0, 0, 0, 0, 41, 0, 0, 0, 0, 0, 0, 0, 2, 0, 0, 0, 26, 0, 0, 0, 31, 0, 0, 0, 36, 42, 182, 0, 240, 172, 42, 182, 0, 198, 172, 42, 182, 0, 243, 172, 42, 180, 0, 246, 172]
theorem ke_X2_house : cX2_house.data.toList.map UInt8.toNat = KB_X2_house := by decide +kernel
def KB_X2_howOften : List Nat := [27, 184, 0, 126, 3, 62, 3, 54, 4, 21, 4, 42, 180, 0, 11, 27, 50, 180, 0, 50, 162, 0, 27, 42, 180, 0, 11, 27, 50, 21, 4, 182, 0, 65, 28, 160, 0, 6, 132, 3, 1, 132, 4, 1, 167, 255, 221, 29, 172]
theorem ke_X2_howOften : cX2_howOften.data.toList.map UInt8.toNat = KB_X2_howOften := by decide +kernel
def KB_X2_inArray : List Nat := [27, 184, 0, 126, 42, 27, 28, 182, 0, 62, 42, 180, 0, 11, 27, 50, 28, 182, 0, 65, 172]
theorem ke_X2_inArray : cX2_inArray.data.toList.map UInt8.toNat = KB_X2_inArray := by decide +kernel
def KB_X2_indexOf : List Nat := [27, 184, 0, 126, 42, 180, 0, 11, 27, 50, 28, 182, 0, 129, 172]
theorem ke_X2_indexOf : cX2_indexOf.data.toList.map UInt8.toNat = KB_X2_indexOf := by decide +kernel
def KB_X2_init_0 : List Nat := [42, 183, 0, 3, 42, 16, 8, 189, 0, 9, 181, 0, 11, 3, 60, 27, 7, 162, 0, 28, 42, 180, 0, 11, 27, 187, 0, 9, 89, 27, 16, 12, 188, 10, 4, 183, 0, 15, 83, 132, 1, 1, 167, 255, 229, 7, 60, 27, 16, 8, 162, 0, 33, 42, 180, 0, 11, 27, 187, 0, 9, 89, 3, 42]
def KB_X2_init_1 : List Nat := [180, 0, 11, 3, 50, 180, 0, 18, 3, 183, 0, 15, 83, 132, 1, 1, 167, 255, 223, 42, 6, 189, 0, 22, 181, 0, 24, 3, 60, 27, 6, 162, 0, 22, 42, 180, 0, 24, 27, 187, 0, 22, 89, 183, 0, 28, 83, 132, 1, 1, 167, 255, 235, 42, 187, 0, 9, 89, 2, 16, 12, 188, 10, 4]
def KB_X2_init_2 : List Nat := [183, 0, 15, 181, 0, 29, 42, 187, 0, 9, 89, 2, 16, 12, 188, 10, 4, 183, 0, 15, 181, 0, 33, 42, 187, 0, 9, 89, 2, 16, 12, 188, 10, 4, 183, 0, 15, 181, 0, 36, 177]
def KS_X2_init : List (List Nat) := [KB_X2_init_0, KB_X2_init_1]
theorem ke_X2_init : cX2_init.data.toList.map UInt8.toNat = KS_X2_init.flatten ++ KB_X2_init_2 := by decide +kernel
theorem kn_X2_init : ∀ K ∈ KS_X2_init, K.length = 64 := by decide +kernel
theorem kb_X2_init_0 (r : Nat) {b : Nat} (h : KB_X2_init_0[r]? = some b) : cb cX2_init (64 * 0 + r) = some b := kc_of ke_X2_init kn_X2_init 0 r KB_X2_init_0 rfl h
theorem kb_X2_init_1 (r : Nat) {b : Nat} (h : KB_X2_init_1[r]? = some b) : cb cX2_init (64 * 1 + r) = some b := kc_of ke_X2_init kn_X2_init 1 r KB_X2_init_1 rfl h
theorem kb_X2_init_2 (r : Nat) {b : Nat} (h : KB_X2_init_2[r]? = some b) : cb cX2_init (64 * 2 + r) = some b := kr_of ke_X2_init kn_X2_init 2 r rfl h
def KB_X2_insert : List Nat := [42, 27, 182, 0, 39, 29, 184, 0, 43, 42, 27, 4, 182, 0, 46, 42, 180, 0, 11, 27, 50, 28, 182, 0, 58, 154, 0, 6, 16, 247, 172, 42, 27, 28, 29, 2, 182, 0, 54, 42, 180, 0, 11, 27, 50, 180, 0, 50, 172]
theorem ke_X2_insert : cX2_insert.data.toList.map UInt8.toNat = KB_X2_insert := by decide +kernel
def KB_X2_isBelow : List Nat := [26, 155, 0, 12, 26, 27, 162, 0, 7, 4, 167, 0, 4, 3, 172]
theorem ke_X2_isBelow : cX2_isBelow.data.toList.map UInt8.toNat = KB_X2_isBelow := by decide +kernel
def KB_X2_isHolder : List Nat := [28, 62, 3, 54, 4, 21, 4, 16, 8, 162, 0, 31, 29, 2, 159, 0, 26, 29, 27, 160, 0, 5, 4, 172, 42, 180, 0, 11, 29, 50, 180, 0, 204, 62, 132, 4, 1, 167, 255, 224, 3, 172]
theorem ke_X2_isHolder : cX2_isHolder.data.toList.map UInt8.toNat = KB_X2_isHolder := by decide +kernel
def KB_X2_isMoveSound_0 : List Nat := [43, 180, 0, 50, 62, 29, 154, 0, 7, 3, 167, 0, 6, 28, 29, 112, 54, 4, 42, 180, 0, 33, 43, 182, 0, 79, 42, 180, 0, 33, 28, 42, 180, 0, 29, 182, 0, 97, 42, 180, 0, 36, 43, 182, 0, 79, 42, 180, 0, 36, 3, 29, 182, 0, 105, 42, 180, 0, 36, 3, 21, 4, 182, 0]
def KB_X2_isMoveSound_1 : List Nat := [105, 42, 180, 0, 36, 21, 4, 29, 182, 0, 105, 42, 180, 0, 33, 42, 180, 0, 36, 182, 0, 161, 172]
def KS_X2_isMoveSound : List (List Nat) := [KB_X2_isMoveSound_0]
theorem ke_X2_isMoveSound : cX2_isMoveSound.data.toList.map UInt8.toNat = KS_X2_isMoveSound.flatten ++ KB_X2_isMoveSound_1 := by decide +kernel
theorem kn_X2_isMoveSound : ∀ K ∈ KS_X2_isMoveSound, K.length = 64 := by decide +kernel
theorem kb_X2_isMoveSound_0 (r : Nat) {b : Nat} (h : KB_X2_isMoveSound_0[r]? = some b) : cb cX2_isMoveSound (64 * 0 + r) = some b := kc_of ke_X2_isMoveSound kn_X2_isMoveSound 0 r KB_X2_isMoveSound_0 rfl h
theorem kb_X2_isMoveSound_1 (r : Nat) {b : Nat} (h : KB_X2_isMoveSound_1[r]? = some b) : cb cX2_isMoveSound (64 * 1 + r) = some b := kr_of ke_X2_isMoveSound kn_X2_isMoveSound 1 r rfl h
def KB_X2_isOrderSound : List Nat := [42, 180, 0, 33, 43, 182, 0, 79, 42, 180, 0, 33, 3, 182, 0, 117, 42, 180, 0, 36, 43, 182, 0, 79, 42, 180, 0, 36, 6, 182, 0, 117, 42, 180, 0, 36, 3, 43, 180, 0, 50, 182, 0, 105, 42, 180, 0, 33, 42, 180, 0, 36, 182, 0, 161, 172]
theorem ke_X2_isOrderSound : cX2_isOrderSound.data.toList.map UInt8.toNat = KB_X2_isOrderSound := by decide +kernel
def KB_X2_isRiffleSound : List Nat := [42, 180, 0, 33, 43, 182, 0, 79, 42, 180, 0, 33, 42, 180, 0, 29, 182, 0, 111, 42, 180, 0, 33, 42, 180, 0, 29, 182, 0, 114, 42, 180, 0, 33, 43, 182, 0, 161, 172]
theorem ke_X2_isRiffleSound : cX2_isRiffleSound.data.toList.map UInt8.toNat = KB_X2_isRiffleSound := by decide +kernel
def KB_X2_isRowSound : List Nat := [42, 43, 4, 182, 1, 52, 153, 0, 49, 42, 43, 5, 182, 1, 52, 153, 0, 40, 42, 43, 8, 182, 1, 52, 153, 0, 31, 42, 43, 182, 1, 56, 153, 0, 23, 42, 43, 182, 1, 59, 153, 0, 15, 42, 43, 182, 1, 62, 153, 0, 7, 4, 167, 0, 4, 3, 172]
theorem ke_X2_isRowSound : cX2_isRowSound.data.toList.map UInt8.toNat = KB_X2_isRowSound := by decide +kernel
def KB_X2_isSound_0 : List Nat := [3, 60, 27, 7, 162, 0, 24, 42, 42, 180, 0, 11, 27, 50, 182, 0, 249, 154, 0, 5, 3, 172, 132, 1, 1, 167, 255, 233, 7, 60, 27, 16, 8, 162, 0, 42, 42, 180, 0, 11, 27, 50, 77, 44, 180, 0, 194, 153, 0, 22, 42, 180, 0, 11, 44, 180, 0, 204, 50, 44, 182, 0, 122, 2]
def KB_X2_isSound_1 : List Nat := [160, 0, 5, 3, 172, 132, 1, 1, 167, 255, 214, 4, 172]
def KS_X2_isSound : List (List Nat) := [KB_X2_isSound_0]
theorem ke_X2_isSound : cX2_isSound.data.toList.map UInt8.toNat = KS_X2_isSound.flatten ++ KB_X2_isSound_1 := by decide +kernel
theorem kn_X2_isSound : ∀ K ∈ KS_X2_isSound, K.length = 64 := by decide +kernel
theorem kb_X2_isSound_0 (r : Nat) {b : Nat} (h : KB_X2_isSound_0[r]? = some b) : cb cX2_isSound (64 * 0 + r) = some b := kc_of ke_X2_isSound kn_X2_isSound 0 r KB_X2_isSound_0 rfl h
theorem kb_X2_isSound_1 (r : Nat) {b : Nat} (h : KB_X2_isSound_1[r]? = some b) : cb cX2_isSound (64 * 1 + r) = some b := kr_of ke_X2_isSound kn_X2_isSound 1 r rfl h
def KB_X2_isTurnSound : List Nat := [42, 180, 0, 33, 43, 182, 0, 79, 42, 180, 0, 33, 3, 43, 180, 0, 50, 182, 0, 105, 42, 180, 0, 33, 3, 43, 180, 0, 50, 182, 0, 105, 42, 180, 0, 33, 43, 182, 0, 161, 153, 0, 21, 42, 180, 0, 33, 182, 0, 165, 43, 182, 0, 165, 160, 0, 7, 4, 167, 0, 4, 3, 172]
theorem ke_X2_isTurnSound : cX2_isTurnSound.data.toList.map UInt8.toNat = KB_X2_isTurnSound := by decide +kernel
def KB_X2_itemsOfRows : List Nat := [3, 60, 3, 61, 28, 7, 162, 0, 21, 27, 42, 180, 0, 11, 28, 50, 180, 0, 50, 96, 60, 132, 2, 1, 167, 255, 236, 27, 172]
theorem ke_X2_itemsOfRows : cX2_itemsOfRows.data.toList.map UInt8.toNat = KB_X2_itemsOfRows := by decide +kernel
def KB_X2_knock : List Nat := [42, 89, 180, 0, 246, 4, 96, 181, 0, 246, 42, 180, 0, 246, 172]
theorem ke_X2_knock : cX2_knock.data.toList.map UInt8.toNat = KB_X2_knock := by decide +kernel
def KB_X2_lastIndexOf : List Nat := [27, 184, 0, 126, 2, 62, 3, 54, 4, 21, 4, 42, 180, 0, 11, 27, 50, 180, 0, 50, 162, 0, 27, 42, 180, 0, 11, 27, 50, 21, 4, 182, 0, 65, 28, 160, 0, 6, 21, 4, 62, 132, 4, 1, 167, 255, 221, 29, 172]
theorem ke_X2_lastIndexOf : cX2_lastIndexOf.data.toList.map UInt8.toNat = KB_X2_lastIndexOf := by decide +kernel
def KB_X2_least_0 : List Nat := [27, 184, 0, 126, 42, 180, 0, 11, 27, 50, 180, 0, 50, 154, 0, 13, 187, 0, 147, 89, 18, 149, 183, 0, 151, 191, 42, 180, 0, 11, 27, 50, 3, 182, 0, 65, 62, 4, 54, 4, 21, 4, 42, 180, 0, 11, 27, 50, 180, 0, 50, 162, 0, 42, 42, 180, 0, 11, 27, 50, 21, 4, 182, 0]
def KB_X2_least_1 : List Nat := [65, 54, 5, 28, 153, 0, 12, 29, 21, 5, 184, 0, 152, 167, 0, 9, 29, 21, 5, 184, 0, 158, 62, 132, 4, 1, 167, 255, 206, 29, 172]
def KS_X2_least : List (List Nat) := [KB_X2_least_0]
theorem ke_X2_least : cX2_least.data.toList.map UInt8.toNat = KS_X2_least.flatten ++ KB_X2_least_1 := by decide +kernel
theorem kn_X2_least : ∀ K ∈ KS_X2_least, K.length = 64 := by decide +kernel
theorem kb_X2_least_0 (r : Nat) {b : Nat} (h : KB_X2_least_0[r]? = some b) : cb cX2_least (64 * 0 + r) = some b := kc_of ke_X2_least kn_X2_least 0 r KB_X2_least_0 rfl h
theorem kb_X2_least_1 (r : Nat) {b : Nat} (h : KB_X2_least_1[r]? = some b) : cb cX2_least (64 * 1 + r) = some b := kr_of ke_X2_least kn_X2_least 1 r rfl h
def KB_X2_mix : List Nat := [30, 20, 1, 65, 105, 32, 97, 173]
theorem ke_X2_mix : cX2_mix.data.toList.map UInt8.toNat = KB_X2_mix := by decide +kernel
def KB_X2_mixCursors : List Nat := [31, 66, 3, 54, 5, 21, 5, 6, 162, 0, 38, 3, 54, 6, 21, 6, 8, 162, 0, 23, 33, 42, 21, 5, 21, 6, 182, 1, 79, 133, 184, 1, 1, 66, 132, 6, 1, 167, 255, 233, 132, 5, 1, 167, 255, 218, 33, 173]
theorem ke_X2_mixCursors : cX2_mixCursors.data.toList.map UInt8.toNat = KB_X2_mixCursors := by decide +kernel
def KB_X2_mixItems : List Nat := [30, 66, 3, 54, 5, 21, 5, 44, 180, 0, 50, 162, 0, 21, 33, 44, 21, 5, 182, 0, 65, 133, 184, 1, 1, 66, 132, 5, 1, 167, 255, 232, 33, 173]
theorem ke_X2_mixItems : cX2_mixItems.data.toList.map UInt8.toNat = KB_X2_mixItems := by decide +kernel
def KB_X2_mixRows_0 : List Nat := [31, 66, 187, 0, 168, 89, 183, 0, 170, 58, 5, 3, 54, 6, 21, 6, 7, 162, 0, 82, 33, 42, 180, 0, 11, 21, 6, 50, 180, 0, 50, 133, 184, 1, 1, 66, 33, 42, 180, 0, 11, 21, 6, 50, 184, 1, 67, 66, 33, 42, 180, 0, 11, 21, 6, 50, 182, 0, 165, 133, 184, 1, 1, 66]
def KB_X2_mixRows_1 : List Nat := [25, 5, 3, 182, 1, 71, 42, 180, 0, 11, 21, 6, 50, 25, 5, 182, 0, 171, 33, 25, 5, 182, 1, 74, 133, 184, 1, 1, 66, 132, 6, 1, 167, 255, 174, 33, 173]
def KS_X2_mixRows : List (List Nat) := [KB_X2_mixRows_0]
theorem ke_X2_mixRows : cX2_mixRows.data.toList.map UInt8.toNat = KS_X2_mixRows.flatten ++ KB_X2_mixRows_1 := by decide +kernel
theorem kn_X2_mixRows : ∀ K ∈ KS_X2_mixRows, K.length = 64 := by decide +kernel
theorem kb_X2_mixRows_0 (r : Nat) {b : Nat} (h : KB_X2_mixRows_0[r]? = some b) : cb cX2_mixRows (64 * 0 + r) = some b := kc_of ke_X2_mixRows kn_X2_mixRows 0 r KB_X2_mixRows_0 rfl h
theorem kb_X2_mixRows_1 (r : Nat) {b : Nat} (h : KB_X2_mixRows_1[r]? = some b) : cb cX2_mixRows (64 * 1 + r) = some b := kr_of ke_X2_mixRows kn_X2_mixRows 1 r rfl h
def KB_X2_mixWindows_0 : List Nat := [31, 66, 3, 54, 5, 21, 5, 7, 162, 0, 67, 3, 54, 6, 21, 6, 6, 162, 0, 23, 33, 42, 21, 5, 21, 6, 182, 1, 76, 133, 184, 1, 1, 66, 132, 6, 1, 167, 255, 233, 42, 180, 0, 11, 7, 21, 5, 96, 50, 180, 0, 194, 153, 0, 17, 33, 42, 180, 0, 11, 7, 21, 5, 96]
def KB_X2_mixWindows_1 : List Nat := [50, 184, 1, 67, 66, 132, 5, 1, 167, 255, 189, 33, 173]
def KS_X2_mixWindows : List (List Nat) := [KB_X2_mixWindows_0]
theorem ke_X2_mixWindows : cX2_mixWindows.data.toList.map UInt8.toNat = KS_X2_mixWindows.flatten ++ KB_X2_mixWindows_1 := by decide +kernel
theorem kn_X2_mixWindows : ∀ K ∈ KS_X2_mixWindows, K.length = 64 := by decide +kernel
theorem kb_X2_mixWindows_0 (r : Nat) {b : Nat} (h : KB_X2_mixWindows_0[r]? = some b) : cb cX2_mixWindows (64 * 0 + r) = some b := kc_of ke_X2_mixWindows kn_X2_mixWindows 0 r KB_X2_mixWindows_0 rfl h
theorem kb_X2_mixWindows_1 (r : Nat) {b : Nat} (h : KB_X2_mixWindows_1[r]? = some b) : cb cX2_mixWindows (64 * 1 + r) = some b := kr_of ke_X2_mixWindows kn_X2_mixWindows 1 r rfl h
def KB_X2_needCursor : List Nat := [26, 6, 184, 1, 19, 154, 0, 14, 187, 0, 213, 89, 19, 1, 26, 183, 0, 217, 191, 177]
theorem ke_X2_needCursor : cX2_needCursor.data.toList.map UInt8.toNat = KB_X2_needCursor := by decide +kernel
def KB_X2_needCursorThere : List Nat := [27, 184, 0, 210, 42, 180, 0, 24, 27, 50, 180, 0, 221, 154, 0, 14, 187, 0, 147, 89, 19, 1, 38, 183, 0, 151, 191, 177]
theorem ke_X2_needCursorThere : cX2_needCursorThere.data.toList.map UInt8.toNat = KB_X2_needCursorThere := by decide +kernel
def KB_X2_needItem : List Nat := [26, 16, 157, 161, 0, 9, 26, 16, 99, 164, 0, 14, 187, 0, 90, 89, 19, 1, 28, 183, 0, 94, 191, 177]
theorem ke_X2_needItem : cX2_needItem.data.toList.map UInt8.toNat = KB_X2_needItem := by decide +kernel
def KB_X2_needPlace : List Nat := [42, 27, 182, 0, 39, 28, 42, 180, 0, 11, 27, 50, 180, 0, 50, 184, 1, 19, 154, 0, 14, 187, 0, 213, 89, 19, 1, 34, 183, 0, 217, 191, 177]
theorem ke_X2_needPlace : cX2_needPlace.data.toList.map UInt8.toNat = KB_X2_needPlace := by decide +kernel
def KB_X2_needQuestion : List Nat := [26, 27, 184, 1, 19, 154, 0, 14, 187, 0, 90, 89, 19, 1, 30, 183, 0, 94, 191, 177]
theorem ke_X2_needQuestion : cX2_needQuestion.data.toList.map UInt8.toNat = KB_X2_needQuestion := by decide +kernel
def KB_X2_needRoom : List Nat := [42, 180, 0, 11, 42, 180, 0, 11, 27, 50, 180, 0, 207, 50, 180, 0, 50, 28, 96, 16, 12, 164, 0, 14, 187, 0, 147, 89, 19, 1, 36, 183, 0, 151, 191, 177]
theorem ke_X2_needRoom : cX2_needRoom.data.toList.map UInt8.toNat = KB_X2_needRoom := by decide +kernel
def KB_X2_needRow : List Nat := [26, 7, 184, 1, 19, 154, 0, 14, 187, 0, 213, 89, 19, 1, 22, 183, 0, 217, 191, 177]
theorem ke_X2_needRow : cX2_needRow.data.toList.map UInt8.toNat = KB_X2_needRow := by decide +kernel
def KB_X2_needWhere : List Nat := [27, 16, 8, 184, 1, 19, 153, 0, 15, 42, 180, 0, 11, 27, 50, 180, 0, 194, 154, 0, 14, 187, 0, 213, 89, 19, 1, 32, 183, 0, 217, 191, 177]
theorem ke_X2_needWhere : cX2_needWhere.data.toList.map UInt8.toNat = KB_X2_needWhere := by decide +kernel
def KB_X2_needWindow : List Nat := [26, 7, 184, 1, 19, 154, 0, 14, 187, 0, 213, 89, 19, 1, 24, 183, 0, 217, 191, 177]
theorem ke_X2_needWindow : cX2_needWindow.data.toList.map UInt8.toNat = KB_X2_needWindow := by decide +kernel
def KB_X2_next : List Nat := [42, 27, 182, 0, 222, 42, 180, 0, 24, 27, 50, 42, 180, 0, 11, 42, 180, 0, 24, 27, 50, 180, 0, 225, 50, 182, 0, 228, 172]
theorem ke_X2_next : cX2_next.data.toList.map UInt8.toNat = KB_X2_next := by decide +kernel
def KB_X2_ofCursor_0 : List Nat := [27, 184, 0, 210, 28, 8, 184, 0, 201, 42, 180, 0, 24, 27, 50, 78, 45, 180, 0, 221, 154, 0, 5, 2, 172, 28, 170, 0, 0, 0, 0, 72, 0, 0, 0, 0, 0, 0, 0, 3, 0, 0, 0, 30, 0, 0, 0, 35, 0, 0, 0, 40, 0, 0, 0, 47, 45, 180, 0, 225, 172, 45, 180, 0]
def KB_X2_ofCursor_1 : List Nat := [234, 172, 45, 180, 0, 234, 4, 100, 172, 45, 180, 0, 234, 42, 180, 0, 11, 45, 180, 0, 225, 50, 180, 0, 50, 162, 0, 7, 4, 167, 0, 4, 3, 172, 45, 180, 0, 234, 158, 0, 7, 4, 167, 0, 4, 3, 172]
def KS_X2_ofCursor : List (List Nat) := [KB_X2_ofCursor_0]
theorem ke_X2_ofCursor : cX2_ofCursor.data.toList.map UInt8.toNat = KS_X2_ofCursor.flatten ++ KB_X2_ofCursor_1 := by decide +kernel
theorem kn_X2_ofCursor : ∀ K ∈ KS_X2_ofCursor, K.length = 64 := by decide +kernel
theorem kb_X2_ofCursor_0 (r : Nat) {b : Nat} (h : KB_X2_ofCursor_0[r]? = some b) : cb cX2_ofCursor (64 * 0 + r) = some b := kc_of ke_X2_ofCursor kn_X2_ofCursor 0 r KB_X2_ofCursor_0 rfl h
theorem kb_X2_ofCursor_1 (r : Nat) {b : Nat} (h : KB_X2_ofCursor_1[r]? = some b) : cb cX2_ofCursor (64 * 1 + r) = some b := kr_of ke_X2_ofCursor kn_X2_ofCursor 1 r rfl h
def KB_X2_ofWindow_0 : List Nat := [27, 184, 0, 179, 28, 6, 184, 0, 201, 42, 180, 0, 11, 7, 27, 96, 50, 78, 45, 180, 0, 194, 154, 0, 5, 2, 172, 28, 171, 0, 0, 0, 0, 0, 0, 38, 0, 0, 0, 2, 0, 0, 0, 0, 0, 0, 0, 28, 0, 0, 0, 1, 0, 0, 0, 33, 45, 180, 0, 204, 172, 45, 180, 0]
def KB_X2_ofWindow_1 : List Nat := [207, 172, 45, 180, 0, 50, 172]
def KS_X2_ofWindow : List (List Nat) := [KB_X2_ofWindow_0]
theorem ke_X2_ofWindow : cX2_ofWindow.data.toList.map UInt8.toNat = KS_X2_ofWindow.flatten ++ KB_X2_ofWindow_1 := by decide +kernel
theorem kn_X2_ofWindow : ∀ K ∈ KS_X2_ofWindow, K.length = 64 := by decide +kernel
theorem kb_X2_ofWindow_0 (r : Nat) {b : Nat} (h : KB_X2_ofWindow_0[r]? = some b) : cb cX2_ofWindow (64 * 0 + r) = some b := kc_of ke_X2_ofWindow kn_X2_ofWindow 0 r KB_X2_ofWindow_0 rfl h
theorem kb_X2_ofWindow_1 (r : Nat) {b : Nat} (h : KB_X2_ofWindow_1[r]? = some b) : cb cX2_ofWindow (64 * 1 + r) = some b := kr_of ke_X2_ofWindow kn_X2_ofWindow 1 r rfl h
def KB_X2_open : List Nat := [27, 184, 0, 210, 42, 28, 182, 0, 39, 42, 180, 0, 11, 28, 50, 29, 182, 0, 58, 154, 0, 13, 187, 0, 213, 89, 18, 215, 183, 0, 217, 191, 42, 180, 0, 24, 27, 50, 28, 29, 182, 0, 218, 42, 180, 0, 11, 28, 50, 180, 0, 50, 29, 100, 172]
theorem ke_X2_open : cX2_open.data.toList.map UInt8.toNat = KB_X2_open := by decide +kernel
def KB_X2_partAt : List Nat := [42, 27, 182, 0, 39, 42, 28, 182, 0, 39, 42, 180, 0, 11, 27, 50, 42, 180, 0, 11, 28, 50, 182, 0, 122, 172]
theorem ke_X2_partAt : cX2_partAt.data.toList.map UInt8.toNat = KB_X2_partAt := by decide +kernel
def KB_X2_places : List Nat := [27, 184, 0, 126, 28, 155, 0, 9, 28, 16, 12, 164, 0, 13, 187, 0, 90, 89, 18, 139, 183, 0, 94, 191, 42, 180, 0, 29, 3, 181, 0, 50, 3, 62, 29, 28, 162, 0, 17, 42, 180, 0, 29, 29, 182, 0, 141, 132, 3, 1, 167, 255, 240, 42, 27, 182, 0, 136, 172]
theorem ke_X2_places : cX2_places.data.toList.map UInt8.toNat = KB_X2_places := by decide +kernel
def KB_X2_previous : List Nat := [42, 27, 182, 0, 222, 42, 180, 0, 24, 27, 50, 42, 180, 0, 11, 42, 180, 0, 24, 27, 50, 180, 0, 225, 50, 182, 0, 231, 172]
theorem ke_X2_previous : cX2_previous.data.toList.map UInt8.toNat = KB_X2_previous := by decide +kernel
def KB_X2_put : List Nat := [27, 184, 0, 210, 28, 184, 0, 43, 42, 27, 182, 0, 222, 42, 180, 0, 24, 27, 50, 78, 42, 45, 180, 0, 225, 4, 182, 0, 46, 42, 45, 180, 0, 225, 45, 180, 0, 234, 28, 27, 182, 0, 54, 45, 89, 180, 0, 234, 4, 96, 181, 0, 234, 45, 2, 181, 0, 237, 45, 180, 0, 234, 172]
theorem ke_X2_put : cX2_put.data.toList.map UInt8.toNat = KB_X2_put := by decide +kernel
def KB_X2_putIn : List Nat := [42, 180, 0, 29, 3, 181, 0, 50, 42, 180, 0, 29, 29, 182, 0, 141, 42, 27, 28, 28, 182, 0, 83, 42, 27, 21, 4, 182, 0, 87, 177]
theorem ke_X2_putIn : cX2_putIn.data.toList.map UInt8.toNat = KB_X2_putIn := by decide +kernel
def KB_X2_remove : List Nat := [42, 27, 28, 182, 0, 62, 42, 180, 0, 11, 27, 50, 28, 182, 0, 65, 62, 42, 27, 28, 28, 4, 96, 2, 182, 0, 72, 29, 172]
theorem ke_X2_remove : cX2_remove.data.toList.map UInt8.toNat = KB_X2_remove := by decide +kernel
def KB_X2_removeAll : List Nat := [27, 184, 0, 126, 28, 184, 0, 126, 42, 27, 28, 3, 182, 0, 132, 172]
theorem ke_X2_removeAll : cX2_removeAll.data.toList.map UInt8.toNat = KB_X2_removeAll := by decide +kernel
def KB_X2_removeItem : List Nat := [27, 184, 0, 126, 42, 180, 0, 11, 27, 50, 28, 182, 0, 129, 62, 29, 2, 160, 0, 5, 3, 172, 42, 27, 29, 29, 4, 96, 2, 182, 0, 72, 4, 172]
theorem ke_X2_removeItem : cX2_removeItem.data.toList.map UInt8.toNat = KB_X2_removeItem := by decide +kernel
def KB_X2_replace : List Nat := [27, 184, 0, 210, 28, 184, 0, 43, 42, 27, 182, 0, 222, 42, 180, 0, 24, 27, 50, 78, 45, 180, 0, 237, 2, 160, 0, 6, 16, 247, 172, 42, 180, 0, 11, 45, 180, 0, 225, 50, 45, 180, 0, 237, 28, 182, 0, 69, 45, 180, 0, 234, 172]
theorem ke_X2_replace : cX2_replace.data.toList.map UInt8.toNat = KB_X2_replace := by decide +kernel
def KB_X2_retainAll : List Nat := [27, 184, 0, 126, 28, 184, 0, 126, 42, 27, 28, 4, 182, 0, 132, 172]
theorem ke_X2_retainAll : cX2_retainAll.data.toList.map UInt8.toNat = KB_X2_retainAll := by decide +kernel
def KB_X2_reverse : List Nat := [42, 27, 182, 0, 39, 42, 180, 0, 11, 27, 50, 3, 42, 180, 0, 11, 27, 50, 180, 0, 50, 182, 0, 105, 42, 180, 0, 11, 27, 50, 182, 0, 101, 172]
theorem ke_X2_reverse : cX2_reverse.data.toList.map UInt8.toNat = KB_X2_reverse := by decide +kernel
def KB_X2_riffle : List Nat := [42, 27, 182, 0, 39, 42, 180, 0, 11, 27, 50, 180, 0, 50, 4, 164, 0, 22, 42, 180, 0, 11, 27, 50, 42, 180, 0, 29, 182, 0, 111, 42, 27, 2, 182, 0, 87, 42, 180, 0, 11, 27, 50, 180, 0, 50, 172]
theorem ke_X2_riffle : cX2_riffle.data.toList.map UInt8.toNat = KB_X2_riffle := by decide +kernel
def KB_X2_rotate : List Nat := [42, 27, 182, 0, 39, 28, 16, 157, 161, 0, 9, 28, 16, 99, 164, 0, 13, 187, 0, 90, 89, 18, 92, 183, 0, 94, 191, 42, 180, 0, 11, 27, 50, 28, 42, 180, 0, 29, 182, 0, 97, 42, 180, 0, 11, 27, 50, 182, 0, 101, 172]
theorem ke_X2_rotate : cX2_rotate.data.toList.map UInt8.toNat = KB_X2_rotate := by decide +kernel
def KB_X2_set : List Nat := [42, 27, 28, 182, 0, 62, 29, 184, 0, 43, 42, 180, 0, 11, 27, 50, 28, 182, 0, 65, 54, 4, 42, 180, 0, 11, 27, 50, 28, 29, 182, 0, 69, 21, 4, 172]
theorem ke_X2_set : cX2_set.data.toList.map UInt8.toNat = KB_X2_set := by decide +kernel
def KB_X2_settle_0 : List Nat := [42, 180, 0, 11, 27, 50, 180, 0, 207, 62, 3, 54, 4, 21, 4, 6, 162, 0, 48, 21, 4, 28, 159, 0, 36, 42, 180, 0, 11, 42, 180, 0, 24, 21, 4, 50, 180, 0, 225, 50, 180, 0, 207, 29, 160, 0, 14, 42, 180, 0, 24, 21, 4, 50, 3, 181, 0, 221, 132, 4, 1, 167, 255, 208]
def KB_X2_settle_1 : List Nat := [7, 54, 4, 21, 4, 16, 8, 162, 0, 44, 42, 180, 0, 11, 21, 4, 50, 180, 0, 207, 29, 160, 0, 24, 42, 21, 4, 27, 182, 0, 182, 154, 0, 14, 42, 180, 0, 11, 21, 4, 50, 3, 181, 0, 194, 132, 4, 1, 167, 255, 211, 177]
def KS_X2_settle : List (List Nat) := [KB_X2_settle_0]
theorem ke_X2_settle : cX2_settle.data.toList.map UInt8.toNat = KS_X2_settle.flatten ++ KB_X2_settle_1 := by decide +kernel
theorem kn_X2_settle : ∀ K ∈ KS_X2_settle, K.length = 64 := by decide +kernel
theorem kb_X2_settle_0 (r : Nat) {b : Nat} (h : KB_X2_settle_0[r]? = some b) : cb cX2_settle (64 * 0 + r) = some b := kc_of ke_X2_settle kn_X2_settle 0 r KB_X2_settle_0 rfl h
theorem kb_X2_settle_1 (r : Nat) {b : Nat} (h : KB_X2_settle_1[r]? = some b) : cb cX2_settle (64 * 1 + r) = some b := kr_of ke_X2_settle kn_X2_settle 1 r rfl h
def KB_X2_shut : List Nat := [27, 184, 0, 210, 42, 180, 0, 24, 27, 50, 180, 0, 221, 61, 42, 180, 0, 24, 27, 50, 3, 181, 0, 221, 28, 153, 0, 7, 4, 167, 0, 4, 3, 172]
theorem ke_X2_shut : cX2_shut.data.toList.map UInt8.toNat = KB_X2_shut := by decide +kernel
def KB_X2_sift_0 : List Nat := [42, 180, 0, 11, 27, 50, 180, 0, 50, 54, 4, 42, 180, 0, 29, 3, 181, 0, 50, 3, 54, 5, 21, 5, 21, 4, 162, 0, 46, 42, 180, 0, 11, 27, 50, 21, 5, 182, 0, 65, 54, 6, 42, 180, 0, 11, 28, 50, 21, 6, 182, 0, 144, 29, 160, 0, 12, 42, 180, 0, 29, 21, 6, 182]
def KB_X2_sift_1 : List Nat := [0, 141, 132, 5, 1, 167, 255, 209, 21, 4, 42, 27, 182, 0, 136, 100, 172]
def KS_X2_sift : List (List Nat) := [KB_X2_sift_0]
theorem ke_X2_sift : cX2_sift.data.toList.map UInt8.toNat = KS_X2_sift.flatten ++ KB_X2_sift_1 := by decide +kernel
theorem kn_X2_sift : ∀ K ∈ KS_X2_sift, K.length = 64 := by decide +kernel
theorem kb_X2_sift_0 (r : Nat) {b : Nat} (h : KB_X2_sift_0[r]? = some b) : cb cX2_sift (64 * 0 + r) = some b := kc_of ke_X2_sift kn_X2_sift 0 r KB_X2_sift_0 rfl h
theorem kb_X2_sift_1 (r : Nat) {b : Nat} (h : KB_X2_sift_1[r]? = some b) : cb cX2_sift (64 * 1 + r) = some b := kr_of ke_X2_sift kn_X2_sift 1 r rfl h
def KB_X2_size : List Nat := [42, 27, 182, 0, 39, 42, 180, 0, 11, 27, 50, 180, 0, 50, 172]
theorem ke_X2_size : cX2_size.data.toList.map UInt8.toNat = KB_X2_size := by decide +kernel
def KB_X2_sort : List Nat := [42, 27, 182, 0, 39, 42, 180, 0, 11, 27, 50, 6, 182, 0, 117, 42, 27, 2, 182, 0, 87, 42, 180, 0, 11, 27, 50, 182, 0, 101, 172]
theorem ke_X2_sort : cX2_sort.data.toList.map UInt8.toNat = KB_X2_sort := by decide +kernel
def KB_X2_sortBy : List Nat := [42, 27, 182, 0, 39, 28, 155, 0, 8, 28, 5, 164, 0, 13, 187, 0, 90, 89, 18, 120, 183, 0, 94, 191, 42, 180, 0, 11, 27, 50, 28, 182, 0, 117, 42, 27, 2, 182, 0, 87, 42, 180, 0, 11, 27, 50, 182, 0, 101, 172]
theorem ke_X2_sortBy : cX2_sortBy.data.toList.map UInt8.toNat = KB_X2_sortBy := by decide +kernel
def KB_X2_splice_0 : List Nat := [42, 27, 182, 0, 39, 42, 21, 4, 182, 0, 39, 42, 180, 0, 11, 27, 50, 28, 29, 182, 0, 75, 154, 0, 6, 16, 247, 172, 29, 28, 100, 54, 5, 42, 180, 0, 11, 21, 4, 50, 180, 0, 50, 54, 6, 42, 27, 21, 6, 21, 5, 100, 182, 0, 46, 21, 5, 157, 0, 8, 21, 6, 158, 0]
def KB_X2_splice_1 : List Nat := [30, 42, 180, 0, 29, 42, 180, 0, 11, 21, 4, 50, 182, 0, 79, 42, 27, 28, 29, 182, 0, 83, 42, 27, 2, 182, 0, 87, 42, 180, 0, 11, 27, 50, 180, 0, 50, 172]
def KS_X2_splice : List (List Nat) := [KB_X2_splice_0]
theorem ke_X2_splice : cX2_splice.data.toList.map UInt8.toNat = KS_X2_splice.flatten ++ KB_X2_splice_1 := by decide +kernel
theorem kn_X2_splice : ∀ K ∈ KS_X2_splice, K.length = 64 := by decide +kernel
theorem kb_X2_splice_0 (r : Nat) {b : Nat} (h : KB_X2_splice_0[r]? = some b) : cb cX2_splice (64 * 0 + r) = some b := kc_of ke_X2_splice kn_X2_splice 0 r KB_X2_splice_0 rfl h
theorem kb_X2_splice_1 (r : Nat) {b : Nat} (h : KB_X2_splice_1[r]? = some b) : cb cX2_splice (64 * 1 + r) = some b := kr_of ke_X2_splice kn_X2_splice 1 r rfl h
def KB_X2_swap : List Nat := [42, 27, 28, 182, 0, 62, 42, 27, 29, 182, 0, 62, 42, 180, 0, 11, 27, 50, 28, 29, 182, 0, 108, 42, 180, 0, 11, 27, 50, 28, 182, 0, 65, 172]
theorem ke_X2_swap : cX2_swap.data.toList.map UInt8.toNat = KB_X2_swap := by decide +kernel
def KB_X2_take_0 : List Nat := [42, 27, 182, 0, 222, 42, 180, 0, 24, 27, 50, 77, 44, 180, 0, 237, 2, 160, 0, 6, 16, 247, 172, 42, 44, 180, 0, 225, 44, 180, 0, 237, 44, 180, 0, 237, 4, 96, 27, 182, 0, 72, 44, 180, 0, 237, 44, 180, 0, 234, 162, 0, 13, 44, 89, 180, 0, 234, 4, 100, 181, 0, 234, 44]
def KB_X2_take_1 : List Nat := [2, 181, 0, 237, 44, 180, 0, 234, 172]
def KS_X2_take : List (List Nat) := [KB_X2_take_0]
theorem ke_X2_take : cX2_take.data.toList.map UInt8.toNat = KS_X2_take.flatten ++ KB_X2_take_1 := by decide +kernel
theorem kn_X2_take : ∀ K ∈ KS_X2_take, K.length = 64 := by decide +kernel
theorem kb_X2_take_0 (r : Nat) {b : Nat} (h : KB_X2_take_0[r]? = some b) : cb cX2_take (64 * 0 + r) = some b := kc_of ke_X2_take kn_X2_take 0 r KB_X2_take_0 rfl h
theorem kb_X2_take_1 (r : Nat) {b : Nat} (h : KB_X2_take_1[r]? = some b) : cb cX2_take (64 * 1 + r) = some b := kr_of ke_X2_take kn_X2_take 1 r rfl h
def KB_X2_takeOut : List Nat := [42, 180, 0, 29, 3, 181, 0, 50, 42, 27, 28, 29, 182, 0, 83, 42, 27, 21, 4, 182, 0, 87, 177]
theorem ke_X2_takeOut : cX2_takeOut.data.toList.map UInt8.toNat = KB_X2_takeOut := by decide +kernel
def KB_X2_text : List Nat := [27, 184, 0, 126, 187, 0, 168, 89, 183, 0, 170, 77, 42, 180, 0, 11, 27, 50, 44, 182, 0, 171, 44, 182, 0, 175, 176]
theorem ke_X2_text : cX2_text.data.toList.map UInt8.toNat = KB_X2_text := by decide +kernel
def KB_X2_through_0 : List Nat := [42, 27, 182, 0, 39, 42, 28, 182, 0, 39, 29, 184, 0, 126, 42, 180, 0, 29, 3, 181, 0, 50, 3, 54, 4, 21, 4, 42, 180, 0, 11, 28, 50, 180, 0, 50, 162, 0, 67, 42, 180, 0, 11, 28, 50, 21, 4, 182, 0, 65, 54, 5, 21, 5, 42, 180, 0, 11, 27, 50, 180, 0, 50, 161]
def KB_X2_through_1 : List Nat := [0, 6, 16, 247, 172, 42, 180, 0, 29, 21, 5, 156, 0, 8, 21, 5, 167, 0, 14, 42, 180, 0, 11, 27, 50, 21, 5, 182, 0, 65, 182, 0, 141, 132, 4, 1, 167, 255, 181, 42, 29, 182, 0, 136, 172]
def KS_X2_through : List (List Nat) := [KB_X2_through_0]
theorem ke_X2_through : cX2_through.data.toList.map UInt8.toNat = KS_X2_through.flatten ++ KB_X2_through_1 := by decide +kernel
theorem kn_X2_through : ∀ K ∈ KS_X2_through, K.length = 64 := by decide +kernel
theorem kb_X2_through_0 (r : Nat) {b : Nat} (h : KB_X2_through_0[r]? = some b) : cb cX2_through (64 * 0 + r) = some b := kc_of ke_X2_through kn_X2_through 0 r KB_X2_through_0 rfl h
theorem kb_X2_through_1 (r : Nat) {b : Nat} (h : KB_X2_through_1[r]? = some b) : cb cX2_through (64 * 1 + r) = some b := kr_of ke_X2_through kn_X2_through 1 r rfl h
def KB_X2_unriffle : List Nat := [42, 27, 182, 0, 39, 42, 180, 0, 11, 27, 50, 180, 0, 50, 4, 164, 0, 22, 42, 180, 0, 11, 27, 50, 42, 180, 0, 29, 182, 0, 114, 42, 27, 2, 182, 0, 87, 42, 180, 0, 11, 27, 50, 180, 0, 50, 172]
theorem ke_X2_unriffle : cX2_unriffle.data.toList.map UInt8.toNat = KB_X2_unriffle := by decide +kernel
def KB_X2_window_0 : List Nat := [27, 184, 0, 179, 42, 28, 182, 0, 39, 7, 27, 96, 54, 5, 42, 21, 5, 28, 182, 0, 182, 153, 0, 13, 187, 0, 147, 89, 18, 185, 183, 0, 151, 191, 42, 180, 0, 11, 28, 50, 29, 21, 4, 182, 0, 75, 154, 0, 6, 16, 247, 172, 42, 21, 5, 182, 0, 187, 42, 180, 0, 11, 21, 5]
def KB_X2_window_1 : List Nat := [50, 42, 180, 0, 11, 28, 50, 28, 29, 21, 4, 182, 0, 190, 42, 180, 0, 11, 21, 5, 50, 180, 0, 50, 172]
def KS_X2_window : List (List Nat) := [KB_X2_window_0]
theorem ke_X2_window : cX2_window.data.toList.map UInt8.toNat = KS_X2_window.flatten ++ KB_X2_window_1 := by decide +kernel
theorem kn_X2_window : ∀ K ∈ KS_X2_window, K.length = 64 := by decide +kernel
theorem kb_X2_window_0 (r : Nat) {b : Nat} (h : KB_X2_window_0[r]? = some b) : cb cX2_window (64 * 0 + r) = some b := kc_of ke_X2_window kn_X2_window 0 r KB_X2_window_0 rfl h
theorem kb_X2_window_1 (r : Nat) {b : Nat} (h : KB_X2_window_1[r]? = some b) : cb cX2_window (64 * 1 + r) = some b := kr_of ke_X2_window kn_X2_window 1 r rfl h
def KB_X2_windowsThere : List Nat := [3, 60, 7, 61, 28, 16, 8, 162, 0, 29, 27, 42, 180, 0, 11, 28, 50, 180, 0, 194, 153, 0, 7, 4, 167, 0, 4, 3, 96, 60, 132, 2, 1, 167, 255, 227, 27, 172]
theorem ke_X2_windowsThere : cX2_windowsThere.data.toList.map UInt8.toNat = KB_X2_windowsThere := by decide +kernel
def KB_X3_init : List Nat := [42, 183, 0, 1, 177]
theorem ke_X3_init : cX3_init.data.toList.map UInt8.toNat = KB_X3_init := by decide +kernel
def KB_X4_add_0 : List Nat := [42, 42, 27, 182, 0, 55, 28, 184, 0, 78, 42, 27, 182, 0, 55, 154, 0, 15, 42, 27, 182, 0, 81, 153, 0, 7, 4, 167, 0, 4, 3, 182, 0, 84, 153, 0, 5, 3, 172, 42, 27, 2, 182, 0, 74, 42, 27, 42, 27, 182, 0, 59, 3, 4, 188, 10, 89, 3, 28, 79, 182, 0, 88, 42]
def KB_X4_add_1 : List Nat := [27, 182, 0, 59, 172]
def KS_X4_add : List (List Nat) := [KB_X4_add_0]
theorem ke_X4_add : cX4_add.data.toList.map UInt8.toNat = KS_X4_add.flatten ++ KB_X4_add_1 := by decide +kernel
theorem kn_X4_add : ∀ K ∈ KS_X4_add, K.length = 64 := by decide +kernel
theorem kb_X4_add_0 (r : Nat) {b : Nat} (h : KB_X4_add_0[r]? = some b) : cb cX4_add (64 * 0 + r) = some b := kc_of ke_X4_add kn_X4_add 0 r KB_X4_add_0 rfl h
theorem kb_X4_add_1 (r : Nat) {b : Nat} (h : KB_X4_add_1[r]? = some b) : cb cX4_add (64 * 1 + r) = some b := kr_of ke_X4_add kn_X4_add 1 r rfl h
def KB_X4_addAll_0 : List Nat := [42, 27, 184, 0, 119, 154, 0, 10, 29, 184, 0, 119, 153, 0, 7, 4, 167, 0, 4, 3, 3, 3, 182, 0, 84, 153, 0, 5, 3, 172, 42, 29, 182, 0, 95, 58, 4, 42, 3, 42, 180, 0, 15, 27, 50, 190, 25, 4, 190, 96, 16, 12, 164, 0, 7, 4, 167, 0, 4, 3, 3, 182, 0, 84]
def KB_X4_addAll_1 : List Nat := [153, 0, 5, 3, 172, 25, 4, 190, 154, 0, 11, 42, 180, 0, 15, 27, 50, 190, 172, 28, 3, 42, 180, 0, 15, 27, 50, 190, 184, 0, 1, 154, 0, 6, 16, 247, 172, 42, 27, 2, 182, 0, 74, 42, 27, 28, 3, 25, 4, 182, 0, 88, 42, 180, 0, 15, 27, 50, 190, 172]
def KS_X4_addAll : List (List Nat) := [KB_X4_addAll_0]
theorem ke_X4_addAll : cX4_addAll.data.toList.map UInt8.toNat = KS_X4_addAll.flatten ++ KB_X4_addAll_1 := by decide +kernel
theorem kn_X4_addAll : ∀ K ∈ KS_X4_addAll, K.length = 64 := by decide +kernel
theorem kb_X4_addAll_0 (r : Nat) {b : Nat} (h : KB_X4_addAll_0[r]? = some b) : cb cX4_addAll (64 * 0 + r) = some b := kc_of ke_X4_addAll kn_X4_addAll 0 r KB_X4_addAll_0 rfl h
theorem kb_X4_addAll_1 (r : Nat) {b : Nat} (h : KB_X4_addAll_1[r]? = some b) : cb cX4_addAll (64 * 1 + r) = some b := kr_of ke_X4_addAll kn_X4_addAll 1 r rfl h
def KB_X4_add_ : List Nat := [42, 42, 180, 0, 211, 20, 0, 215, 105, 31, 97, 181, 0, 211, 177]
theorem ke_X4_add_ : cX4_add_.data.toList.map UInt8.toNat = KB_X4_add_ := by decide +kernel
def KB_X4_areApart_0 : List Nat := [42, 27, 184, 0, 119, 154, 0, 10, 28, 184, 0, 119, 153, 0, 7, 4, 167, 0, 4, 3, 3, 3, 182, 0, 84, 153, 0, 5, 3, 172, 4, 62, 42, 180, 0, 15, 27, 50, 58, 4, 25, 4, 190, 54, 5, 3, 54, 6, 21, 6, 21, 5, 162, 0, 36, 25, 4, 21, 6, 46, 54, 7, 29, 42]
def KB_X4_areApart_1 : List Nat := [28, 21, 7, 3, 182, 0, 122, 2, 160, 0, 7, 4, 167, 0, 4, 3, 126, 62, 132, 6, 1, 167, 255, 219, 29, 172]
def KS_X4_areApart : List (List Nat) := [KB_X4_areApart_0]
theorem ke_X4_areApart : cX4_areApart.data.toList.map UInt8.toNat = KS_X4_areApart.flatten ++ KB_X4_areApart_1 := by decide +kernel
theorem kn_X4_areApart : ∀ K ∈ KS_X4_areApart, K.length = 64 := by decide +kernel
theorem kb_X4_areApart_0 (r : Nat) {b : Nat} (h : KB_X4_areApart_0[r]? = some b) : cb cX4_areApart (64 * 0 + r) = some b := kc_of ke_X4_areApart kn_X4_areApart 0 r KB_X4_areApart_0 rfl h
theorem kb_X4_areApart_1 (r : Nat) {b : Nat} (h : KB_X4_areApart_1[r]? = some b) : cb cX4_areApart (64 * 1 + r) = some b := kr_of ke_X4_areApart kn_X4_areApart 1 r rfl h
def KB_X4_areSame : List Nat := [42, 27, 184, 0, 119, 154, 0, 10, 28, 184, 0, 119, 153, 0, 7, 4, 167, 0, 4, 3, 3, 3, 182, 0, 84, 154, 0, 33, 42, 180, 0, 15, 27, 50, 190, 42, 180, 0, 15, 28, 50, 190, 160, 0, 16, 42, 27, 28, 182, 0, 116, 154, 0, 7, 4, 167, 0, 4, 3, 172]
theorem ke_X4_areSame : cX4_areSame.data.toList.map UInt8.toNat = KB_X4_areSame := by decide +kernel
def KB_X4_become : List Nat := [42, 27, 2, 182, 0, 74, 42, 180, 0, 15, 27, 44, 83, 177]
theorem ke_X4_become : cX4_become.data.toList.map UInt8.toNat = KB_X4_become := by decide +kernel
def KB_X4_begin : List Nat := [27, 7, 162, 0, 7, 3, 167, 0, 24, 42, 180, 0, 26, 27, 7, 100, 46, 42, 42, 180, 0, 22, 27, 7, 100, 46, 182, 0, 52, 96, 172]
theorem ke_X4_begin : cX4_begin.data.toList.map UInt8.toNat = KB_X4_begin := by decide +kernel
def KB_X4_changed_0 : List Nat := [42, 27, 182, 0, 48, 62, 3, 54, 4, 21, 4, 6, 162, 0, 48, 21, 4, 28, 159, 0, 36, 42, 180, 0, 32, 21, 4, 51, 153, 0, 26, 42, 42, 180, 0, 35, 21, 4, 46, 182, 0, 48, 29, 160, 0, 11, 42, 180, 0, 32, 21, 4, 3, 84, 132, 4, 1, 167, 255, 208, 7, 188, 4, 58]
def KB_X4_changed_1 : List Nat := [4, 3, 54, 5, 21, 5, 7, 162, 0, 53, 25, 4, 21, 5, 42, 180, 0, 18, 21, 5, 51, 153, 0, 31, 42, 7, 21, 5, 96, 182, 0, 48, 29, 160, 0, 19, 42, 7, 21, 5, 96, 27, 182, 0, 66, 154, 0, 7, 4, 167, 0, 4, 3, 84, 132, 5, 1, 167, 255, 203, 3, 54, 5, 21]
def KB_X4_changed_2 : List Nat := [5, 7, 162, 0, 25, 25, 4, 21, 5, 51, 153, 0, 11, 42, 180, 0, 18, 21, 5, 3, 84, 132, 5, 1, 167, 255, 231, 177]
def KS_X4_changed : List (List Nat) := [KB_X4_changed_0, KB_X4_changed_1]
theorem ke_X4_changed : cX4_changed.data.toList.map UInt8.toNat = KS_X4_changed.flatten ++ KB_X4_changed_2 := by decide +kernel
theorem kn_X4_changed : ∀ K ∈ KS_X4_changed, K.length = 64 := by decide +kernel
theorem kb_X4_changed_0 (r : Nat) {b : Nat} (h : KB_X4_changed_0[r]? = some b) : cb cX4_changed (64 * 0 + r) = some b := kc_of ke_X4_changed kn_X4_changed 0 r KB_X4_changed_0 rfl h
theorem kb_X4_changed_1 (r : Nat) {b : Nat} (h : KB_X4_changed_1[r]? = some b) : cb cX4_changed (64 * 1 + r) = some b := kc_of ke_X4_changed kn_X4_changed 1 r KB_X4_changed_1 rfl h
theorem kb_X4_changed_2 (r : Nat) {b : Nat} (h : KB_X4_changed_2[r]? = some b) : cb cX4_changed (64 * 2 + r) = some b := kr_of ke_X4_changed kn_X4_changed 2 r rfl h
def KB_X4_clear : List Nat := [42, 42, 27, 182, 0, 55, 3, 3, 182, 0, 84, 153, 0, 5, 3, 172, 42, 27, 182, 0, 59, 61, 28, 154, 0, 5, 3, 172, 42, 27, 2, 182, 0, 74, 42, 27, 3, 28, 3, 188, 10, 182, 0, 88, 28, 172]
theorem ke_X4_clear : cX4_clear.data.toList.map UInt8.toNat = KB_X4_clear := by decide +kernel
def KB_X4_close : List Nat := [42, 27, 3, 6, 184, 0, 1, 154, 0, 7, 4, 167, 0, 4, 3, 3, 3, 182, 0, 84, 153, 0, 5, 3, 172, 42, 180, 0, 18, 27, 51, 154, 0, 6, 16, 247, 172, 42, 27, 182, 0, 183, 42, 182, 0, 186, 172]
theorem ke_X4_close : cX4_close.data.toList.map UInt8.toNat = KB_X4_close := by decide +kernel
def KB_X4_contains : List Nat := [42, 27, 184, 0, 119, 3, 3, 182, 0, 84, 154, 0, 18, 42, 27, 28, 3, 182, 0, 122, 2, 159, 0, 7, 4, 167, 0, 4, 3, 172]
theorem ke_X4_contains : cX4_contains.data.toList.map UInt8.toNat = KB_X4_contains := by decide +kernel
def KB_X4_copy : List Nat := [42, 42, 27, 182, 0, 55, 154, 0, 10, 28, 184, 0, 119, 153, 0, 7, 4, 167, 0, 4, 3, 3, 3, 182, 0, 84, 153, 0, 5, 3, 172, 42, 28, 42, 27, 182, 0, 95, 182, 0, 130, 42, 180, 0, 15, 28, 50, 190, 172]
theorem ke_X4_copy : cX4_copy.data.toList.map UInt8.toNat = KB_X4_copy := by decide +kernel
def KB_X4_cursorNow_0 : List Nat := [42, 180, 0, 32, 27, 51, 154, 0, 5, 2, 172, 8, 188, 10, 89, 3, 42, 180, 0, 35, 27, 46, 79, 89, 4, 42, 180, 0, 38, 27, 46, 79, 89, 5, 42, 180, 0, 38, 27, 46, 4, 100, 79, 89, 6, 42, 180, 0, 38, 27, 46, 42, 42, 180, 0, 35, 27, 46, 182, 0, 59, 162, 0, 7]
def KB_X4_cursorNow_1 : List Nat := [4, 167, 0, 4, 3, 184, 0, 136, 79, 89, 7, 42, 180, 0, 38, 27, 46, 158, 0, 7, 4, 167, 0, 4, 3, 184, 0, 136, 79, 78, 45, 28, 46, 172]
def KS_X4_cursorNow : List (List Nat) := [KB_X4_cursorNow_0]
theorem ke_X4_cursorNow : cX4_cursorNow.data.toList.map UInt8.toNat = KS_X4_cursorNow.flatten ++ KB_X4_cursorNow_1 := by decide +kernel
theorem kn_X4_cursorNow : ∀ K ∈ KS_X4_cursorNow, K.length = 64 := by decide +kernel
theorem kb_X4_cursorNow_0 (r : Nat) {b : Nat} (h : KB_X4_cursorNow_0[r]? = some b) : cb cX4_cursorNow (64 * 0 + r) = some b := kc_of ke_X4_cursorNow kn_X4_cursorNow 0 r KB_X4_cursorNow_0 rfl h
theorem kb_X4_cursorNow_1 (r : Nat) {b : Nat} (h : KB_X4_cursorNow_1[r]? = some b) : cb cX4_cursorNow (64 * 1 + r) = some b := kr_of ke_X4_cursorNow kn_X4_cursorNow 1 r rfl h
def KB_X4_digest_0 : List Nat := [42, 3, 181, 0, 44, 42, 20, 0, 217, 181, 0, 211, 3, 60, 27, 7, 162, 0, 19, 42, 42, 27, 182, 0, 205, 133, 182, 0, 219, 132, 1, 1, 167, 255, 238, 3, 60, 27, 7, 162, 0, 82, 42, 42, 180, 0, 15, 27, 50, 190, 133, 182, 0, 219, 42, 180, 0, 15, 27, 50, 77, 44, 190, 62]
def KB_X4_digest_1 : List Nat := [3, 54, 4, 21, 4, 29, 162, 0, 22, 44, 21, 4, 46, 54, 5, 42, 21, 5, 133, 182, 0, 219, 132, 4, 1, 167, 255, 234, 42, 42, 27, 182, 0, 148, 133, 182, 0, 219, 42, 42, 27, 182, 0, 179, 182, 0, 223, 133, 182, 0, 219, 132, 1, 1, 167, 255, 175, 3, 60, 27, 7, 162, 0, 73]
def KB_X4_digest_2 : List Nat := [3, 61, 28, 6, 162, 0, 20, 42, 42, 27, 28, 182, 0, 190, 133, 182, 0, 219, 132, 2, 1, 167, 255, 237, 3, 61, 42, 180, 0, 18, 27, 51, 153, 0, 32, 28, 42, 180, 0, 29, 27, 46, 162, 0, 22, 42, 42, 7, 27, 96, 28, 182, 0, 62, 133, 182, 0, 219, 132, 2, 1, 167, 255, 221]
def KB_X4_digest_3 : List Nat := [132, 1, 1, 167, 255, 184, 3, 60, 27, 6, 162, 0, 33, 3, 61, 28, 8, 162, 0, 20, 42, 42, 27, 28, 182, 0, 199, 133, 182, 0, 219, 132, 2, 1, 167, 255, 237, 132, 1, 1, 167, 255, 224, 3, 60, 27, 7, 162, 0, 33, 3, 61, 28, 7, 162, 0, 20, 42, 42, 27, 28, 182, 0, 116]
def KB_X4_digest_4 : List Nat := [133, 182, 0, 219, 132, 2, 1, 167, 255, 237, 132, 1, 1, 167, 255, 224, 42, 42, 182, 0, 208, 184, 0, 136, 133, 182, 0, 219, 42, 180, 0, 211, 173]
def KS_X4_digest : List (List Nat) := [KB_X4_digest_0, KB_X4_digest_1, KB_X4_digest_2, KB_X4_digest_3]
theorem ke_X4_digest : cX4_digest.data.toList.map UInt8.toNat = KS_X4_digest.flatten ++ KB_X4_digest_4 := by decide +kernel
theorem kn_X4_digest : ∀ K ∈ KS_X4_digest, K.length = 64 := by decide +kernel
theorem kb_X4_digest_0 (r : Nat) {b : Nat} (h : KB_X4_digest_0[r]? = some b) : cb cX4_digest (64 * 0 + r) = some b := kc_of ke_X4_digest kn_X4_digest 0 r KB_X4_digest_0 rfl h
theorem kb_X4_digest_1 (r : Nat) {b : Nat} (h : KB_X4_digest_1[r]? = some b) : cb cX4_digest (64 * 1 + r) = some b := kc_of ke_X4_digest kn_X4_digest 1 r KB_X4_digest_1 rfl h
theorem kb_X4_digest_2 (r : Nat) {b : Nat} (h : KB_X4_digest_2[r]? = some b) : cb cX4_digest (64 * 2 + r) = some b := kc_of ke_X4_digest kn_X4_digest 2 r KB_X4_digest_2 rfl h
theorem kb_X4_digest_3 (r : Nat) {b : Nat} (h : KB_X4_digest_3[r]? = some b) : cb cX4_digest (64 * 3 + r) = some b := kc_of ke_X4_digest kn_X4_digest 3 r KB_X4_digest_3 rfl h
theorem kb_X4_digest_4 (r : Nat) {b : Nat} (h : KB_X4_digest_4[r]? = some b) : cb cX4_digest (64 * 4 + r) = some b := kr_of ke_X4_digest kn_X4_digest 4 r rfl h
def KB_X4_fails : List Nat := [42, 27, 153, 0, 7, 4, 167, 0, 20, 28, 153, 0, 7, 5, 167, 0, 12, 29, 153, 0, 7, 6, 167, 0, 4, 3, 181, 0, 44, 42, 180, 0, 44, 158, 0, 7, 4, 167, 0, 4, 3, 172]
theorem ke_X4_fails : cX4_fails.data.toList.map UInt8.toNat = KB_X4_fails := by decide +kernel
def KB_X4_fill : List Nat := [42, 27, 184, 0, 119, 28, 184, 0, 78, 3, 182, 0, 84, 153, 0, 5, 3, 172, 3, 62, 29, 42, 180, 0, 15, 27, 50, 190, 162, 0, 18, 42, 180, 0, 15, 27, 50, 29, 28, 79, 132, 3, 1, 167, 255, 233, 42, 180, 0, 15, 27, 50, 190, 172]
theorem ke_X4_fill : cX4_fill.data.toList.map UInt8.toNat = KB_X4_fill := by decide +kernel
def KB_X4_find : List Nat := [2, 54, 4, 3, 54, 5, 21, 5, 42, 180, 0, 15, 27, 50, 190, 162, 0, 36, 42, 180, 0, 15, 27, 50, 21, 5, 46, 28, 160, 0, 17, 21, 4, 2, 159, 0, 7, 29, 153, 0, 7, 21, 5, 54, 4, 132, 5, 1, 167, 255, 214, 21, 4, 172]
theorem ke_X4_find : cX4_find.data.toList.map UInt8.toNat = KB_X4_find := by decide +kernel
def KB_X4_firstOf : List Nat := [42, 27, 182, 0, 59, 154, 0, 8, 16, 100, 167, 0, 9, 42, 27, 3, 182, 0, 62, 172]
theorem ke_X4_firstOf : cX4_firstOf.data.toList.map UInt8.toNat = KB_X4_firstOf := by decide +kernel
def KB_X4_get : List Nat := [42, 42, 27, 28, 182, 0, 92, 3, 3, 182, 0, 84, 153, 0, 7, 3, 167, 0, 9, 42, 27, 28, 182, 0, 62, 172]
theorem ke_X4_get : cX4_get.data.toList.map UInt8.toNat = KB_X4_get := by decide +kernel
def KB_X4_gone : List Nat := [42, 180, 0, 18, 27, 3, 84, 3, 61, 28, 6, 162, 0, 35, 42, 180, 0, 32, 28, 92, 51, 42, 180, 0, 35, 28, 46, 7, 27, 96, 159, 0, 7, 4, 167, 0, 4, 3, 126, 84, 132, 2, 1, 167, 255, 222, 177]
theorem ke_X4_gone : cX4_gone.data.toList.map UInt8.toNat = KB_X4_gone := by decide +kernel
def KB_X4_goneWithAll : List Nat := [3, 61, 28, 7, 162, 0, 41, 42, 180, 0, 18, 28, 51, 153, 0, 26, 28, 27, 159, 0, 21, 42, 7, 27, 96, 7, 28, 96, 182, 0, 66, 153, 0, 8, 42, 28, 182, 0, 70, 132, 2, 1, 167, 255, 216, 42, 27, 182, 0, 70, 177]
theorem ke_X4_goneWithAll : cX4_goneWithAll.data.toList.map UInt8.toNat = KB_X4_goneWithAll := by decide +kernel
def KB_X4_hash : List Nat := [42, 27, 184, 0, 119, 3, 3, 182, 0, 84, 153, 0, 7, 3, 167, 0, 8, 42, 27, 182, 0, 148, 172]
theorem ke_X4_hash : cX4_hash.data.toList.map UInt8.toNat = KB_X4_hash := by decide +kernel
def KB_X4_hashNow : List Nat := [4, 61, 42, 180, 0, 15, 27, 50, 78, 45, 190, 54, 4, 3, 54, 5, 21, 5, 21, 4, 162, 0, 23, 45, 21, 5, 46, 54, 6, 16, 31, 28, 104, 21, 6, 96, 61, 132, 5, 1, 167, 255, 232, 28, 172]
theorem ke_X4_hashNow : cX4_hashNow.data.toList.map UInt8.toNat = KB_X4_hashNow := by decide +kernel
def KB_X4_house : List Nat := [42, 27, 3, 6, 184, 0, 1, 154, 0, 7, 4, 167, 0, 4, 3, 3, 3, 182, 0, 84, 153, 0, 7, 3, 167, 0, 8, 42, 27, 182, 0, 205, 172]
theorem ke_X4_house : cX4_house.data.toList.map UInt8.toNat = KB_X4_house := by decide +kernel
def KB_X4_houseNow_0 : List Nat := [3, 61, 42, 180, 0, 15, 78, 45, 190, 54, 4, 3, 54, 5, 21, 5, 21, 4, 162, 0, 21, 45, 21, 5, 50, 58, 6, 28, 25, 6, 190, 96, 61, 132, 5, 1, 167, 255, 234, 3, 62, 42, 180, 0, 32, 58, 4, 25, 4, 190, 54, 5, 3, 54, 6, 21, 6, 21, 5, 162, 0, 24, 25, 4]
def KB_X4_houseNow_1 : List Nat := [21, 6, 51, 54, 7, 29, 21, 7, 184, 0, 136, 96, 62, 132, 6, 1, 167, 255, 231, 7, 188, 10, 89, 3, 28, 79, 89, 4, 42, 182, 0, 186, 79, 89, 5, 29, 79, 89, 6, 42, 180, 0, 202, 79, 58, 4, 25, 4, 27, 46, 172]
def KS_X4_houseNow : List (List Nat) := [KB_X4_houseNow_0]
theorem ke_X4_houseNow : cX4_houseNow.data.toList.map UInt8.toNat = KS_X4_houseNow.flatten ++ KB_X4_houseNow_1 := by decide +kernel
theorem kn_X4_houseNow : ∀ K ∈ KS_X4_houseNow, K.length = 64 := by decide +kernel
theorem kb_X4_houseNow_0 (r : Nat) {b : Nat} (h : KB_X4_houseNow_0[r]? = some b) : cb cX4_houseNow (64 * 0 + r) = some b := kc_of ke_X4_houseNow kn_X4_houseNow 0 r KB_X4_houseNow_0 rfl h
theorem kb_X4_houseNow_1 (r : Nat) {b : Nat} (h : KB_X4_houseNow_1[r]? = some b) : cb cX4_houseNow (64 * 1 + r) = some b := kr_of ke_X4_houseNow kn_X4_houseNow 1 r rfl h
def KB_X4_howOften_0 : List Nat := [42, 27, 184, 0, 119, 3, 3, 182, 0, 84, 153, 0, 5, 3, 172, 3, 62, 42, 180, 0, 15, 27, 50, 58, 4, 25, 4, 190, 54, 5, 3, 54, 6, 21, 6, 21, 5, 162, 0, 33, 25, 4, 21, 6, 46, 54, 7, 29, 21, 7, 28, 160, 0, 7, 4, 167, 0, 4, 3, 184, 0, 136, 96, 62]
def KB_X4_howOften_1 : List Nat := [132, 6, 1, 167, 255, 222, 29, 172]
def KS_X4_howOften : List (List Nat) := [KB_X4_howOften_0]
theorem ke_X4_howOften : cX4_howOften.data.toList.map UInt8.toNat = KS_X4_howOften.flatten ++ KB_X4_howOften_1 := by decide +kernel
theorem kn_X4_howOften : ∀ K ∈ KS_X4_howOften, K.length = 64 := by decide +kernel
theorem kb_X4_howOften_0 (r : Nat) {b : Nat} (h : KB_X4_howOften_0[r]? = some b) : cb cX4_howOften (64 * 0 + r) = some b := kc_of ke_X4_howOften kn_X4_howOften 0 r KB_X4_howOften_0 rfl h
theorem kb_X4_howOften_1 (r : Nat) {b : Nat} (h : KB_X4_howOften_1[r]? = some b) : cb cX4_howOften (64 * 1 + r) = some b := kr_of ke_X4_howOften kn_X4_howOften 1 r rfl h
def KB_X4_inArray : List Nat := [42, 27, 184, 0, 119, 154, 0, 12, 42, 27, 28, 182, 0, 92, 153, 0, 7, 4, 167, 0, 4, 3, 3, 3, 182, 0, 84, 153, 0, 7, 3, 167, 0, 11, 42, 180, 0, 15, 27, 50, 28, 46, 172]
theorem ke_X4_inArray : cX4_inArray.data.toList.map UInt8.toNat = KB_X4_inArray := by decide +kernel
def KB_X4_indexOf : List Nat := [42, 27, 184, 0, 119, 3, 3, 182, 0, 84, 153, 0, 7, 3, 167, 0, 10, 42, 27, 28, 3, 182, 0, 122, 172]
theorem ke_X4_indexOf : cX4_indexOf.data.toList.map UInt8.toNat = KB_X4_indexOf := by decide +kernel
def KB_X4_init_0 : List Nat := [42, 183, 0, 7, 42, 7, 3, 197, 0, 13, 2, 181, 0, 15, 42, 7, 188, 4, 181, 0, 18, 42, 7, 188, 10, 181, 0, 22, 42, 7, 188, 10, 181, 0, 26, 42, 7, 188, 10, 181, 0, 29, 42, 6, 188, 4, 181, 0, 32, 42, 6, 188, 10, 181, 0, 35, 42, 6, 188, 10, 181, 0, 38, 42]
def KB_X4_init_1 : List Nat := [6, 188, 10, 181, 0, 41, 177]
def KS_X4_init : List (List Nat) := [KB_X4_init_0]
theorem ke_X4_init : cX4_init.data.toList.map UInt8.toNat = KS_X4_init.flatten ++ KB_X4_init_1 := by decide +kernel
theorem kn_X4_init : ∀ K ∈ KS_X4_init, K.length = 64 := by decide +kernel
theorem kb_X4_init_0 (r : Nat) {b : Nat} (h : KB_X4_init_0[r]? = some b) : cb cX4_init (64 * 0 + r) = some b := kc_of ke_X4_init kn_X4_init 0 r KB_X4_init_0 rfl h
theorem kb_X4_init_1 (r : Nat) {b : Nat} (h : KB_X4_init_1[r]? = some b) : cb cX4_init (64 * 1 + r) = some b := kr_of ke_X4_init kn_X4_init 1 r rfl h
def KB_X4_insert_0 : List Nat := [42, 42, 27, 182, 0, 55, 29, 184, 0, 78, 42, 27, 182, 0, 55, 154, 0, 15, 42, 27, 182, 0, 81, 153, 0, 7, 4, 167, 0, 4, 3, 182, 0, 84, 153, 0, 5, 3, 172, 28, 3, 42, 27, 182, 0, 59, 184, 0, 1, 154, 0, 6, 16, 247, 172, 42, 27, 2, 182, 0, 74, 42, 27, 28]
def KB_X4_insert_1 : List Nat := [3, 4, 188, 10, 89, 3, 29, 79, 182, 0, 88, 42, 27, 182, 0, 59, 172]
def KS_X4_insert : List (List Nat) := [KB_X4_insert_0]
theorem ke_X4_insert : cX4_insert.data.toList.map UInt8.toNat = KS_X4_insert.flatten ++ KB_X4_insert_1 := by decide +kernel
theorem kn_X4_insert : ∀ K ∈ KS_X4_insert, K.length = 64 := by decide +kernel
theorem kb_X4_insert_0 (r : Nat) {b : Nat} (h : KB_X4_insert_0[r]? = some b) : cb cX4_insert (64 * 0 + r) = some b := kc_of ke_X4_insert kn_X4_insert 0 r KB_X4_insert_0 rfl h
theorem kb_X4_insert_1 (r : Nat) {b : Nat} (h : KB_X4_insert_1[r]? = some b) : cb cX4_insert (64 * 1 + r) = some b := kr_of ke_X4_insert kn_X4_insert 1 r rfl h
def KB_X4_isAhead_0 : List Nat := [26, 154, 0, 14, 27, 28, 164, 0, 7, 4, 167, 0, 4, 3, 172, 26, 4, 160, 0, 32, 27, 16, 10, 112, 16, 10, 96, 16, 10, 112, 28, 16, 10, 112, 16, 10, 96, 16, 10, 112, 162, 0, 7, 4, 167, 0, 4, 3, 172, 26, 5, 160, 0, 19, 27, 156, 0, 11, 28, 155, 0, 7, 4, 167]
def KB_X4_isAhead_1 : List Nat := [0, 17, 3, 167, 0, 13, 27, 28, 162, 0, 7, 4, 167, 0, 4, 3, 172]
def KS_X4_isAhead : List (List Nat) := [KB_X4_isAhead_0]
theorem ke_X4_isAhead : cX4_isAhead.data.toList.map UInt8.toNat = KS_X4_isAhead.flatten ++ KB_X4_isAhead_1 := by decide +kernel
theorem kn_X4_isAhead : ∀ K ∈ KS_X4_isAhead, K.length = 64 := by decide +kernel
theorem kb_X4_isAhead_0 (r : Nat) {b : Nat} (h : KB_X4_isAhead_0[r]? = some b) : cb cX4_isAhead (64 * 0 + r) = some b := kc_of ke_X4_isAhead kn_X4_isAhead 0 r KB_X4_isAhead_0 rfl h
theorem kb_X4_isAhead_1 (r : Nat) {b : Nat} (h : KB_X4_isAhead_1[r]? = some b) : cb cX4_isAhead (64 * 1 + r) = some b := kr_of ke_X4_isAhead kn_X4_isAhead 1 r rfl h
def KB_X4_isFull : List Nat := [42, 180, 0, 15, 42, 27, 182, 0, 48, 50, 190, 16, 12, 160, 0, 7, 4, 167, 0, 4, 3, 172]
theorem ke_X4_isFull : cX4_isFull.data.toList.map UInt8.toNat = KB_X4_isFull := by decide +kernel
def KB_X4_isHolder : List Nat := [27, 28, 159, 0, 24, 28, 6, 164, 0, 23, 42, 27, 42, 180, 0, 22, 28, 7, 100, 46, 182, 0, 66, 153, 0, 7, 4, 167, 0, 4, 3, 172]
theorem ke_X4_isHolder : cX4_isHolder.data.toList.map UInt8.toNat = KB_X4_isHolder := by decide +kernel
def KB_X4_isIn : List Nat := [26, 27, 161, 0, 12, 26, 28, 163, 0, 7, 4, 167, 0, 4, 3, 172]
theorem ke_X4_isIn : cX4_isIn.data.toList.map UInt8.toNat = KB_X4_isIn := by decide +kernel
def KB_X4_isNoCursor : List Nat := [26, 3, 5, 184, 0, 1, 154, 0, 7, 4, 167, 0, 4, 3, 172]
theorem ke_X4_isNoCursor : cX4_isNoCursor.data.toList.map UInt8.toNat = KB_X4_isNoCursor := by decide +kernel
def KB_X4_isNoItem : List Nat := [26, 16, 157, 16, 99, 184, 0, 1, 154, 0, 7, 4, 167, 0, 4, 3, 172]
theorem ke_X4_isNoItem : cX4_isNoItem.data.toList.map UInt8.toNat = KB_X4_isNoItem := by decide +kernel
def KB_X4_isNoPlace : List Nat := [42, 27, 182, 0, 55, 154, 0, 18, 28, 3, 42, 27, 182, 0, 59, 4, 100, 184, 0, 1, 154, 0, 7, 4, 167, 0, 4, 3, 172]
theorem ke_X4_isNoPlace : cX4_isNoPlace.data.toList.map UInt8.toNat = KB_X4_isNoPlace := by decide +kernel
def KB_X4_isNoRow : List Nat := [26, 3, 6, 184, 0, 1, 154, 0, 7, 4, 167, 0, 4, 3, 172]
theorem ke_X4_isNoRow : cX4_isNoRow.data.toList.map UInt8.toNat = KB_X4_isNoRow := by decide +kernel
def KB_X4_isNoWhere : List Nat := [27, 3, 16, 7, 184, 0, 1, 153, 0, 19, 27, 6, 164, 0, 18, 42, 180, 0, 18, 27, 7, 100, 51, 154, 0, 7, 4, 167, 0, 4, 3, 172]
theorem ke_X4_isNoWhere : cX4_isNoWhere.data.toList.map UInt8.toNat = KB_X4_isNoWhere := by decide +kernel
def KB_X4_isShut : List Nat := [27, 184, 0, 193, 154, 0, 16, 42, 180, 0, 32, 27, 51, 154, 0, 7, 4, 167, 0, 4, 3, 172]
theorem ke_X4_isShut : cX4_isShut.data.toList.map UInt8.toNat = KB_X4_isShut := by decide +kernel
def KB_X4_isSound : List Nat := [42, 3, 181, 0, 44, 42, 182, 0, 208, 172]
theorem ke_X4_isSound : cX4_isSound.data.toList.map UInt8.toNat = KB_X4_isSound := by decide +kernel
def KB_X4_isWhole_0 : List Nat := [4, 60, 3, 61, 28, 7, 162, 0, 70, 27, 42, 180, 0, 18, 28, 51, 153, 0, 47, 42, 180, 0, 26, 28, 46, 155, 0, 42, 42, 180, 0, 29, 28, 46, 155, 0, 33, 42, 180, 0, 26, 28, 46, 42, 180, 0, 29, 28, 46, 96, 42, 42, 180, 0, 22, 28, 46, 182, 0, 59, 163, 0, 7, 4]
def KB_X4_isWhole_1 : List Nat := [167, 0, 4, 3, 126, 60, 132, 2, 1, 167, 255, 187, 27, 172]
def KS_X4_isWhole : List (List Nat) := [KB_X4_isWhole_0]
theorem ke_X4_isWhole : cX4_isWhole.data.toList.map UInt8.toNat = KS_X4_isWhole.flatten ++ KB_X4_isWhole_1 := by decide +kernel
theorem kn_X4_isWhole : ∀ K ∈ KS_X4_isWhole, K.length = 64 := by decide +kernel
theorem kb_X4_isWhole_0 (r : Nat) {b : Nat} (h : KB_X4_isWhole_0[r]? = some b) : cb cX4_isWhole (64 * 0 + r) = some b := kc_of ke_X4_isWhole kn_X4_isWhole 0 r KB_X4_isWhole_0 rfl h
theorem kb_X4_isWhole_1 (r : Nat) {b : Nat} (h : KB_X4_isWhole_1[r]? = some b) : cb cX4_isWhole (64 * 1 + r) = some b := kr_of ke_X4_isWhole kn_X4_isWhole 1 r rfl h
def KB_X4_item : List Nat := [42, 180, 0, 15, 42, 27, 182, 0, 48, 50, 42, 27, 182, 0, 52, 28, 96, 46, 172]
theorem ke_X4_item : cX4_item.data.toList.map UInt8.toNat = KB_X4_item := by decide +kernel
def KB_X4_items : List Nat := [42, 27, 182, 0, 59, 188, 10, 77, 3, 62, 29, 44, 190, 162, 0, 18, 44, 29, 42, 27, 29, 182, 0, 62, 79, 132, 3, 1, 167, 255, 238, 44, 176]
theorem ke_X4_items : cX4_items.data.toList.map UInt8.toNat = KB_X4_items := by decide +kernel
def KB_X4_kept_0 : List Nat := [42, 180, 0, 15, 27, 50, 58, 4, 3, 188, 10, 58, 5, 25, 4, 58, 6, 25, 6, 190, 54, 7, 3, 54, 8, 21, 8, 21, 7, 162, 0, 46, 25, 6, 21, 8, 46, 54, 9, 42, 28, 21, 9, 3, 182, 0, 122, 2, 159, 0, 7, 4, 167, 0, 4, 3, 29, 160, 0, 12, 25, 5, 21, 9]
def KB_X4_kept_1 : List Nat := [184, 0, 126, 58, 5, 132, 8, 1, 167, 255, 209, 42, 27, 25, 5, 182, 0, 130, 25, 4, 190, 25, 5, 190, 100, 172]
def KS_X4_kept : List (List Nat) := [KB_X4_kept_0]
theorem ke_X4_kept : cX4_kept.data.toList.map UInt8.toNat = KS_X4_kept.flatten ++ KB_X4_kept_1 := by decide +kernel
theorem kn_X4_kept : ∀ K ∈ KS_X4_kept, K.length = 64 := by decide +kernel
theorem kb_X4_kept_0 (r : Nat) {b : Nat} (h : KB_X4_kept_0[r]? = some b) : cb cX4_kept (64 * 0 + r) = some b := kc_of ke_X4_kept kn_X4_kept 0 r KB_X4_kept_0 rfl h
theorem kb_X4_kept_1 (r : Nat) {b : Nat} (h : KB_X4_kept_1[r]? = some b) : cb cX4_kept (64 * 1 + r) = some b := kr_of ke_X4_kept kn_X4_kept 1 r rfl h
def KB_X4_knock : List Nat := [42, 3, 181, 0, 44, 42, 89, 180, 0, 202, 4, 96, 181, 0, 202, 42, 180, 0, 202, 172]
theorem ke_X4_knock : cX4_knock.data.toList.map UInt8.toNat = KB_X4_knock := by decide +kernel
def KB_X4_lastIndexOf : List Nat := [42, 27, 184, 0, 119, 3, 3, 182, 0, 84, 153, 0, 7, 3, 167, 0, 10, 42, 27, 28, 4, 182, 0, 122, 172]
theorem ke_X4_lastIndexOf : cX4_lastIndexOf.data.toList.map UInt8.toNat = KB_X4_lastIndexOf := by decide +kernel
def KB_X4_lay_0 : List Nat := [42, 27, 182, 0, 48, 54, 5, 42, 27, 182, 0, 52, 28, 96, 54, 6, 42, 180, 0, 15, 21, 5, 50, 58, 7, 25, 7, 190, 29, 100, 25, 4, 190, 96, 188, 10, 58, 8, 3, 54, 9, 21, 9, 25, 8, 190, 162, 0, 62, 25, 8, 21, 9, 21, 9, 21, 6, 162, 0, 11, 25, 7, 21, 9]
def KB_X4_lay_1 : List Nat := [46, 167, 0, 36, 21, 9, 21, 6, 25, 4, 190, 96, 162, 0, 14, 25, 4, 21, 9, 21, 6, 100, 46, 167, 0, 14, 25, 7, 21, 9, 25, 4, 190, 100, 29, 96, 46, 79, 132, 9, 1, 167, 255, 192, 42, 180, 0, 15, 21, 5, 25, 8, 83, 27, 54, 9, 21, 9, 6, 164, 0, 34, 42, 180]
def KB_X4_lay_2 : List Nat := [0, 29, 21, 9, 7, 100, 92, 46, 25, 4, 190, 29, 100, 96, 79, 42, 180, 0, 22, 21, 9, 7, 100, 46, 54, 9, 167, 255, 222, 177]
def KS_X4_lay : List (List Nat) := [KB_X4_lay_0, KB_X4_lay_1]
theorem ke_X4_lay : cX4_lay.data.toList.map UInt8.toNat = KS_X4_lay.flatten ++ KB_X4_lay_2 := by decide +kernel
theorem kn_X4_lay : ∀ K ∈ KS_X4_lay, K.length = 64 := by decide +kernel
theorem kb_X4_lay_0 (r : Nat) {b : Nat} (h : KB_X4_lay_0[r]? = some b) : cb cX4_lay (64 * 0 + r) = some b := kc_of ke_X4_lay kn_X4_lay 0 r KB_X4_lay_0 rfl h
theorem kb_X4_lay_1 (r : Nat) {b : Nat} (h : KB_X4_lay_1[r]? = some b) : cb cX4_lay (64 * 1 + r) = some b := kc_of ke_X4_lay kn_X4_lay 1 r KB_X4_lay_1 rfl h
theorem kb_X4_lay_2 (r : Nat) {b : Nat} (h : KB_X4_lay_2[r]? = some b) : cb cX4_lay (64 * 2 + r) = some b := kr_of ke_X4_lay kn_X4_lay 2 r rfl h
def KB_X4_least_0 : List Nat := [42, 27, 184, 0, 119, 27, 184, 0, 119, 154, 0, 17, 42, 180, 0, 15, 27, 50, 190, 154, 0, 7, 4, 167, 0, 4, 3, 3, 182, 0, 84, 153, 0, 5, 3, 172, 42, 180, 0, 15, 27, 50, 3, 46, 62, 42, 180, 0, 15, 27, 50, 58, 4, 25, 4, 190, 54, 5, 3, 54, 6, 21, 6, 21]
def KB_X4_least_1 : List Nat := [5, 162, 0, 36, 25, 4, 21, 6, 46, 54, 7, 28, 153, 0, 12, 29, 21, 7, 184, 0, 140, 167, 0, 9, 29, 21, 7, 184, 0, 145, 62, 132, 6, 1, 167, 255, 219, 29, 172]
def KS_X4_least : List (List Nat) := [KB_X4_least_0]
theorem ke_X4_least : cX4_least.data.toList.map UInt8.toNat = KS_X4_least.flatten ++ KB_X4_least_1 := by decide +kernel
theorem kn_X4_least : ∀ K ∈ KS_X4_least, K.length = 64 := by decide +kernel
theorem kb_X4_least_0 (r : Nat) {b : Nat} (h : KB_X4_least_0[r]? = some b) : cb cX4_least (64 * 0 + r) = some b := kc_of ke_X4_least kn_X4_least 0 r KB_X4_least_0 rfl h
theorem kb_X4_least_1 (r : Nat) {b : Nat} (h : KB_X4_least_1[r]? = some b) : cb cX4_least (64 * 1 + r) = some b := kr_of ke_X4_least kn_X4_least 1 r rfl h
def KB_X4_longer : List Nat := [42, 190, 4, 96, 188, 10, 77, 3, 62, 29, 42, 190, 162, 0, 15, 44, 29, 42, 29, 46, 79, 132, 3, 1, 167, 255, 241, 44, 42, 190, 27, 79, 44, 176]
theorem ke_X4_longer : cX4_longer.data.toList.map UInt8.toNat = KB_X4_longer := by decide +kernel
def KB_X4_next_0 : List Nat := [42, 27, 184, 0, 193, 42, 27, 182, 0, 196, 3, 182, 0, 84, 153, 0, 5, 3, 172, 42, 180, 0, 38, 27, 46, 42, 42, 180, 0, 35, 27, 46, 182, 0, 59, 160, 0, 6, 16, 100, 172, 42, 180, 0, 41, 27, 42, 180, 0, 38, 27, 46, 79, 42, 180, 0, 38, 27, 92, 46, 4, 96, 79, 42]
def KB_X4_next_1 : List Nat := [42, 180, 0, 35, 27, 46, 42, 180, 0, 41, 27, 46, 182, 0, 62, 172]
def KS_X4_next : List (List Nat) := [KB_X4_next_0]
theorem ke_X4_next : cX4_next.data.toList.map UInt8.toNat = KS_X4_next.flatten ++ KB_X4_next_1 := by decide +kernel
theorem kn_X4_next : ∀ K ∈ KS_X4_next, K.length = 64 := by decide +kernel
theorem kb_X4_next_0 (r : Nat) {b : Nat} (h : KB_X4_next_0[r]? = some b) : cb cX4_next (64 * 0 + r) = some b := kc_of ke_X4_next kn_X4_next 0 r KB_X4_next_0 rfl h
theorem kb_X4_next_1 (r : Nat) {b : Nat} (h : KB_X4_next_1[r]? = some b) : cb cX4_next (64 * 1 + r) = some b := kr_of ke_X4_next kn_X4_next 1 r rfl h
def KB_X4_ofCursor : List Nat := [42, 27, 184, 0, 193, 28, 3, 7, 184, 0, 1, 154, 0, 7, 4, 167, 0, 4, 3, 3, 182, 0, 84, 153, 0, 7, 3, 167, 0, 9, 42, 27, 28, 182, 0, 199, 172]
theorem ke_X4_ofCursor : cX4_ofCursor.data.toList.map UInt8.toNat = KB_X4_ofCursor := by decide +kernel
def KB_X4_ofWindow : List Nat := [42, 27, 3, 6, 184, 0, 1, 154, 0, 7, 4, 167, 0, 4, 3, 28, 3, 5, 184, 0, 1, 154, 0, 7, 4, 167, 0, 4, 3, 3, 182, 0, 84, 153, 0, 7, 3, 167, 0, 9, 42, 27, 28, 182, 0, 190, 172]
theorem ke_X4_ofWindow : cX4_ofWindow.data.toList.map UInt8.toNat = KB_X4_ofWindow := by decide +kernel
def KB_X4_one : List Nat := [26, 153, 0, 7, 4, 167, 0, 4, 3, 172]
theorem ke_X4_one : cX4_one.data.toList.map UInt8.toNat = KB_X4_one := by decide +kernel
def KB_X4_open_0 : List Nat := [42, 27, 184, 0, 193, 154, 0, 24, 42, 28, 182, 0, 55, 154, 0, 16, 29, 3, 42, 28, 182, 0, 59, 184, 0, 1, 154, 0, 7, 4, 167, 0, 4, 3, 3, 3, 182, 0, 84, 153, 0, 5, 3, 172, 42, 180, 0, 32, 27, 4, 84, 42, 180, 0, 35, 27, 28, 79, 42, 180, 0, 38, 27, 29]
def KB_X4_open_1 : List Nat := [79, 42, 180, 0, 41, 27, 2, 79, 42, 28, 182, 0, 59, 29, 100, 172]
def KS_X4_open : List (List Nat) := [KB_X4_open_0]
theorem ke_X4_open : cX4_open.data.toList.map UInt8.toNat = KS_X4_open.flatten ++ KB_X4_open_1 := by decide +kernel
theorem kn_X4_open : ∀ K ∈ KS_X4_open, K.length = 64 := by decide +kernel
theorem kb_X4_open_0 (r : Nat) {b : Nat} (h : KB_X4_open_0[r]? = some b) : cb cX4_open (64 * 0 + r) = some b := kc_of ke_X4_open kn_X4_open 0 r KB_X4_open_0 rfl h
theorem kb_X4_open_1 (r : Nat) {b : Nat} (h : KB_X4_open_1[r]? = some b) : cb cX4_open (64 * 1 + r) = some b := kr_of ke_X4_open kn_X4_open 1 r rfl h
def KB_X4_partAt : List Nat := [42, 42, 27, 182, 0, 55, 154, 0, 11, 42, 28, 182, 0, 55, 153, 0, 7, 4, 167, 0, 4, 3, 3, 3, 182, 0, 84, 153, 0, 7, 3, 167, 0, 9, 42, 27, 28, 182, 0, 116, 172]
theorem ke_X4_partAt : cX4_partAt.data.toList.map UInt8.toNat = KB_X4_partAt := by decide +kernel
def KB_X4_partNow_0 : List Nat := [42, 27, 182, 0, 95, 78, 42, 28, 182, 0, 95, 58, 4, 3, 54, 5, 21, 5, 25, 4, 190, 96, 45, 190, 163, 0, 62, 4, 54, 6, 3, 54, 7, 21, 7, 25, 4, 190, 162, 0, 34, 21, 6, 45, 21, 5, 21, 7, 96, 46, 25, 4, 21, 7, 46, 160, 0, 7, 4, 167, 0, 4, 3, 126]
def KB_X4_partNow_1 : List Nat := [54, 6, 132, 7, 1, 167, 255, 220, 21, 6, 153, 0, 6, 21, 5, 172, 132, 5, 1, 167, 255, 189, 2, 172]
def KS_X4_partNow : List (List Nat) := [KB_X4_partNow_0]
theorem ke_X4_partNow : cX4_partNow.data.toList.map UInt8.toNat = KS_X4_partNow.flatten ++ KB_X4_partNow_1 := by decide +kernel
theorem kn_X4_partNow : ∀ K ∈ KS_X4_partNow, K.length = 64 := by decide +kernel
theorem kb_X4_partNow_0 (r : Nat) {b : Nat} (h : KB_X4_partNow_0[r]? = some b) : cb cX4_partNow (64 * 0 + r) = some b := kc_of ke_X4_partNow kn_X4_partNow 0 r KB_X4_partNow_0 rfl h
theorem kb_X4_partNow_1 (r : Nat) {b : Nat} (h : KB_X4_partNow_1[r]? = some b) : cb cX4_partNow (64 * 1 + r) = some b := kr_of ke_X4_partNow kn_X4_partNow 1 r rfl h
def KB_X4_places : List Nat := [42, 27, 184, 0, 119, 28, 3, 16, 12, 184, 0, 1, 154, 0, 7, 4, 167, 0, 4, 3, 3, 182, 0, 84, 153, 0, 5, 3, 172, 28, 188, 10, 78, 3, 54, 4, 21, 4, 28, 162, 0, 15, 45, 21, 4, 21, 4, 79, 132, 4, 1, 167, 255, 241, 42, 27, 45, 182, 0, 130, 28, 172]
theorem ke_X4_places : cX4_places.data.toList.map UInt8.toNat = KB_X4_places := by decide +kernel
def KB_X4_previous_0 : List Nat := [42, 27, 184, 0, 193, 42, 27, 182, 0, 196, 3, 182, 0, 84, 153, 0, 5, 3, 172, 42, 180, 0, 38, 27, 46, 154, 0, 6, 16, 100, 172, 42, 180, 0, 38, 27, 92, 46, 4, 100, 79, 42, 180, 0, 41, 27, 42, 180, 0, 38, 27, 46, 79, 42, 42, 180, 0, 35, 27, 46, 42, 180, 0, 41]
def KB_X4_previous_1 : List Nat := [27, 46, 182, 0, 62, 172]
def KS_X4_previous : List (List Nat) := [KB_X4_previous_0]
theorem ke_X4_previous : cX4_previous.data.toList.map UInt8.toNat = KS_X4_previous.flatten ++ KB_X4_previous_1 := by decide +kernel
theorem kn_X4_previous : ∀ K ∈ KS_X4_previous, K.length = 64 := by decide +kernel
theorem kb_X4_previous_0 (r : Nat) {b : Nat} (h : KB_X4_previous_0[r]? = some b) : cb cX4_previous (64 * 0 + r) = some b := kc_of ke_X4_previous kn_X4_previous 0 r KB_X4_previous_0 rfl h
theorem kb_X4_previous_1 (r : Nat) {b : Nat} (h : KB_X4_previous_1[r]? = some b) : cb cX4_previous (64 * 1 + r) = some b := kr_of ke_X4_previous kn_X4_previous 1 r rfl h
def KB_X4_put : List Nat := [3, 62, 29, 44, 190, 162, 0, 30, 42, 180, 0, 15, 42, 27, 182, 0, 48, 50, 42, 27, 182, 0, 52, 29, 96, 44, 29, 46, 79, 132, 3, 1, 167, 255, 226, 177]
theorem ke_X4_put : cX4_put.data.toList.map UInt8.toNat = KB_X4_put := by decide +kernel
def KB_X4_put__0 : List Nat := [42, 27, 184, 0, 193, 28, 184, 0, 78, 42, 27, 182, 0, 196, 154, 0, 23, 27, 184, 0, 193, 154, 0, 20, 42, 42, 180, 0, 35, 27, 46, 182, 0, 81, 153, 0, 7, 4, 167, 0, 4, 3, 182, 0, 84, 153, 0, 5, 3, 172, 42, 42, 180, 0, 35, 27, 46, 27, 182, 0, 74, 42, 42, 180]
def KB_X4_put__1 : List Nat := [0, 35, 27, 46, 42, 180, 0, 38, 27, 46, 3, 4, 188, 10, 89, 3, 28, 79, 182, 0, 88, 42, 180, 0, 38, 27, 92, 46, 4, 96, 79, 42, 180, 0, 41, 27, 2, 79, 42, 180, 0, 38, 27, 46, 172]
def KS_X4_put_ : List (List Nat) := [KB_X4_put__0]
theorem ke_X4_put_ : cX4_put_.data.toList.map UInt8.toNat = KS_X4_put_.flatten ++ KB_X4_put__1 := by decide +kernel
theorem kn_X4_put_ : ∀ K ∈ KS_X4_put_, K.length = 64 := by decide +kernel
theorem kb_X4_put__0 (r : Nat) {b : Nat} (h : KB_X4_put__0[r]? = some b) : cb cX4_put_ (64 * 0 + r) = some b := kc_of ke_X4_put_ kn_X4_put_ 0 r KB_X4_put__0 rfl h
theorem kb_X4_put__1 (r : Nat) {b : Nat} (h : KB_X4_put__1[r]? = some b) : cb cX4_put_ (64 * 1 + r) = some b := kr_of ke_X4_put_ kn_X4_put_ 1 r rfl h
def KB_X4_remove : List Nat := [42, 42, 27, 28, 182, 0, 92, 3, 3, 182, 0, 84, 153, 0, 5, 3, 172, 42, 27, 28, 182, 0, 62, 62, 42, 27, 2, 182, 0, 74, 42, 27, 28, 4, 3, 188, 10, 182, 0, 88, 29, 172]
theorem ke_X4_remove : cX4_remove.data.toList.map UInt8.toNat = KB_X4_remove := by decide +kernel
def KB_X4_removeAll : List Nat := [42, 27, 184, 0, 119, 154, 0, 10, 28, 184, 0, 119, 153, 0, 7, 4, 167, 0, 4, 3, 3, 3, 182, 0, 84, 153, 0, 7, 3, 167, 0, 10, 42, 27, 28, 3, 182, 0, 133, 172]
theorem ke_X4_removeAll : cX4_removeAll.data.toList.map UInt8.toNat = KB_X4_removeAll := by decide +kernel
def KB_X4_removeItem : List Nat := [42, 27, 184, 0, 119, 3, 3, 182, 0, 84, 153, 0, 5, 3, 172, 42, 27, 28, 3, 182, 0, 122, 62, 29, 2, 160, 0, 5, 3, 172, 42, 27, 2, 182, 0, 74, 42, 27, 29, 4, 3, 188, 10, 182, 0, 88, 4, 172]
theorem ke_X4_removeItem : cX4_removeItem.data.toList.map UInt8.toNat = KB_X4_removeItem := by decide +kernel
def KB_X4_replace_0 : List Nat := [42, 27, 184, 0, 193, 28, 184, 0, 78, 42, 27, 182, 0, 196, 182, 0, 84, 153, 0, 5, 3, 172, 42, 180, 0, 41, 27, 46, 2, 160, 0, 6, 16, 247, 172, 42, 180, 0, 15, 42, 42, 180, 0, 35, 27, 46, 182, 0, 48, 50, 42, 42, 180, 0, 35, 27, 46, 182, 0, 52, 42, 180, 0, 41]
def KB_X4_replace_1 : List Nat := [27, 46, 96, 28, 79, 42, 180, 0, 38, 27, 46, 172]
def KS_X4_replace : List (List Nat) := [KB_X4_replace_0]
theorem ke_X4_replace : cX4_replace.data.toList.map UInt8.toNat = KS_X4_replace.flatten ++ KB_X4_replace_1 := by decide +kernel
theorem kn_X4_replace : ∀ K ∈ KS_X4_replace, K.length = 64 := by decide +kernel
theorem kb_X4_replace_0 (r : Nat) {b : Nat} (h : KB_X4_replace_0[r]? = some b) : cb cX4_replace (64 * 0 + r) = some b := kc_of ke_X4_replace kn_X4_replace 0 r KB_X4_replace_0 rfl h
theorem kb_X4_replace_1 (r : Nat) {b : Nat} (h : KB_X4_replace_1[r]? = some b) : cb cX4_replace (64 * 1 + r) = some b := kr_of ke_X4_replace kn_X4_replace 1 r rfl h
def KB_X4_retainAll : List Nat := [42, 27, 184, 0, 119, 154, 0, 10, 28, 184, 0, 119, 153, 0, 7, 4, 167, 0, 4, 3, 3, 3, 182, 0, 84, 153, 0, 7, 3, 167, 0, 10, 42, 27, 28, 4, 182, 0, 133, 172]
theorem ke_X4_retainAll : cX4_retainAll.data.toList.map UInt8.toNat = KB_X4_retainAll := by decide +kernel
def KB_X4_reverse : List Nat := [42, 42, 27, 182, 0, 55, 3, 3, 182, 0, 84, 153, 0, 5, 3, 172, 42, 27, 42, 27, 182, 0, 95, 184, 0, 106, 182, 0, 99, 42, 27, 182, 0, 103, 172]
theorem ke_X4_reverse : cX4_reverse.data.toList.map UInt8.toNat = KB_X4_reverse := by decide +kernel
def KB_X4_riffle_0 : List Nat := [42, 42, 27, 182, 0, 55, 3, 3, 182, 0, 84, 153, 0, 5, 3, 172, 42, 27, 182, 0, 95, 77, 44, 190, 188, 10, 78, 3, 54, 4, 21, 4, 44, 190, 162, 0, 40, 45, 21, 4, 44, 21, 4, 5, 112, 154, 0, 10, 21, 4, 5, 108, 167, 0, 14, 44, 190, 4, 96, 5, 108, 21, 4, 5]
def KB_X4_riffle_1 : List Nat := [108, 96, 46, 79, 132, 4, 1, 167, 255, 215, 44, 190, 4, 164, 0, 9, 42, 27, 2, 182, 0, 74, 42, 27, 45, 182, 0, 99, 44, 190, 172]
def KS_X4_riffle : List (List Nat) := [KB_X4_riffle_0]
theorem ke_X4_riffle : cX4_riffle.data.toList.map UInt8.toNat = KS_X4_riffle.flatten ++ KB_X4_riffle_1 := by decide +kernel
theorem kn_X4_riffle : ∀ K ∈ KS_X4_riffle, K.length = 64 := by decide +kernel
theorem kb_X4_riffle_0 (r : Nat) {b : Nat} (h : KB_X4_riffle_0[r]? = some b) : cb cX4_riffle (64 * 0 + r) = some b := kc_of ke_X4_riffle kn_X4_riffle 0 r KB_X4_riffle_0 rfl h
theorem kb_X4_riffle_1 (r : Nat) {b : Nat} (h : KB_X4_riffle_1[r]? = some b) : cb cX4_riffle (64 * 1 + r) = some b := kr_of ke_X4_riffle kn_X4_riffle 1 r rfl h
def KB_X4_rotate_0 : List Nat := [42, 42, 27, 182, 0, 55, 28, 184, 0, 78, 3, 182, 0, 84, 153, 0, 5, 3, 172, 42, 27, 182, 0, 95, 78, 45, 190, 188, 10, 58, 4, 3, 54, 5, 21, 5, 45, 190, 162, 0, 29, 25, 4, 21, 5, 28, 96, 45, 190, 112, 45, 190, 96, 45, 190, 112, 45, 21, 5, 46, 79, 132, 5, 1]
def KB_X4_rotate_1 : List Nat := [167, 255, 226, 42, 27, 25, 4, 182, 0, 99, 42, 27, 182, 0, 103, 172]
def KS_X4_rotate : List (List Nat) := [KB_X4_rotate_0]
theorem ke_X4_rotate : cX4_rotate.data.toList.map UInt8.toNat = KS_X4_rotate.flatten ++ KB_X4_rotate_1 := by decide +kernel
theorem kn_X4_rotate : ∀ K ∈ KS_X4_rotate, K.length = 64 := by decide +kernel
theorem kb_X4_rotate_0 (r : Nat) {b : Nat} (h : KB_X4_rotate_0[r]? = some b) : cb cX4_rotate (64 * 0 + r) = some b := kc_of ke_X4_rotate kn_X4_rotate 0 r KB_X4_rotate_0 rfl h
theorem kb_X4_rotate_1 (r : Nat) {b : Nat} (h : KB_X4_rotate_1[r]? = some b) : cb cX4_rotate (64 * 1 + r) = some b := kr_of ke_X4_rotate kn_X4_rotate 1 r rfl h
def KB_X4_rowOf : List Nat := [27, 7, 162, 0, 7, 27, 167, 0, 15, 42, 42, 180, 0, 22, 27, 7, 100, 46, 182, 0, 48, 172]
theorem ke_X4_rowOf : cX4_rowOf.data.toList.map UInt8.toNat = KB_X4_rowOf := by decide +kernel
def KB_X4_set : List Nat := [42, 42, 27, 28, 182, 0, 92, 29, 184, 0, 78, 3, 182, 0, 84, 153, 0, 5, 3, 172, 42, 27, 28, 182, 0, 62, 54, 4, 42, 180, 0, 15, 42, 27, 182, 0, 48, 50, 42, 27, 182, 0, 52, 28, 96, 29, 79, 21, 4, 172]
theorem ke_X4_set : cX4_set.data.toList.map UInt8.toNat = KB_X4_set := by decide +kernel
def KB_X4_shut : List Nat := [42, 27, 184, 0, 193, 3, 3, 182, 0, 84, 153, 0, 5, 3, 172, 42, 180, 0, 32, 27, 51, 184, 0, 136, 61, 42, 180, 0, 32, 27, 3, 84, 28, 172]
theorem ke_X4_shut : cX4_shut.data.toList.map UInt8.toNat = KB_X4_shut := by decide +kernel
def KB_X4_size : List Nat := [42, 42, 27, 182, 0, 55, 3, 3, 182, 0, 84, 153, 0, 7, 3, 167, 0, 8, 42, 27, 182, 0, 59, 172]
theorem ke_X4_size : cX4_size.data.toList.map UInt8.toNat = KB_X4_size := by decide +kernel
def KB_X4_sizeOf : List Nat := [27, 7, 162, 0, 13, 42, 180, 0, 15, 27, 50, 190, 167, 0, 11, 42, 180, 0, 29, 27, 7, 100, 46, 172]
theorem ke_X4_sizeOf : cX4_sizeOf.data.toList.map UInt8.toNat = KB_X4_sizeOf := by decide +kernel
def KB_X4_sort : List Nat := [42, 42, 27, 182, 0, 55, 3, 3, 182, 0, 84, 153, 0, 7, 3, 167, 0, 9, 42, 27, 6, 182, 0, 113, 172]
theorem ke_X4_sort : cX4_sort.data.toList.map UInt8.toNat = KB_X4_sort := by decide +kernel
def KB_X4_sortBy : List Nat := [42, 42, 27, 182, 0, 55, 28, 3, 5, 184, 0, 1, 154, 0, 7, 4, 167, 0, 4, 3, 3, 182, 0, 84, 153, 0, 7, 3, 167, 0, 9, 42, 27, 28, 182, 0, 113, 172]
theorem ke_X4_sortBy : cX4_sortBy.data.toList.map UInt8.toNat = KB_X4_sortBy := by decide +kernel
def KB_X4_sorted_0 : List Nat := [42, 27, 182, 0, 95, 78, 4, 54, 4, 21, 4, 45, 190, 162, 0, 65, 21, 4, 54, 5, 21, 5, 158, 0, 50, 28, 45, 21, 5, 46, 45, 21, 5, 4, 100, 46, 184, 0, 110, 153, 0, 33, 45, 21, 5, 46, 54, 6, 45, 21, 5, 45, 21, 5, 4, 100, 46, 79, 45, 21, 5, 4, 100, 21]
def KB_X4_sorted_1 : List Nat := [6, 79, 132, 5, 255, 167, 255, 207, 132, 4, 1, 167, 255, 190, 42, 27, 2, 182, 0, 74, 42, 27, 45, 182, 0, 99, 42, 27, 182, 0, 103, 172]
def KS_X4_sorted : List (List Nat) := [KB_X4_sorted_0]
theorem ke_X4_sorted : cX4_sorted.data.toList.map UInt8.toNat = KS_X4_sorted.flatten ++ KB_X4_sorted_1 := by decide +kernel
theorem kn_X4_sorted : ∀ K ∈ KS_X4_sorted, K.length = 64 := by decide +kernel
theorem kb_X4_sorted_0 (r : Nat) {b : Nat} (h : KB_X4_sorted_0[r]? = some b) : cb cX4_sorted (64 * 0 + r) = some b := kc_of ke_X4_sorted kn_X4_sorted 0 r KB_X4_sorted_0 rfl h
theorem kb_X4_sorted_1 (r : Nat) {b : Nat} (h : KB_X4_sorted_1[r]? = some b) : cb cX4_sorted (64 * 1 + r) = some b := kr_of ke_X4_sorted kn_X4_sorted 1 r rfl h
def KB_X4_splice_0 : List Nat := [42, 42, 27, 182, 0, 55, 154, 0, 12, 42, 21, 4, 182, 0, 55, 153, 0, 7, 4, 167, 0, 4, 3, 3, 3, 182, 0, 84, 153, 0, 5, 3, 172, 28, 155, 0, 17, 28, 29, 163, 0, 12, 29, 42, 27, 182, 0, 59, 164, 0, 6, 16, 247, 172, 42, 21, 4, 182, 0, 95, 58, 5, 42, 3]
def KB_X4_splice_1 : List Nat := [42, 180, 0, 15, 42, 27, 182, 0, 48, 50, 190, 29, 28, 100, 100, 25, 5, 190, 96, 16, 12, 164, 0, 7, 4, 167, 0, 4, 3, 3, 182, 0, 84, 153, 0, 5, 3, 172, 29, 28, 160, 0, 15, 25, 5, 190, 154, 0, 9, 42, 27, 182, 0, 59, 172, 42, 27, 2, 182, 0, 74, 42, 27, 28]
def KB_X4_splice_2 : List Nat := [29, 28, 100, 25, 5, 182, 0, 88, 42, 27, 182, 0, 59, 172]
def KS_X4_splice : List (List Nat) := [KB_X4_splice_0, KB_X4_splice_1]
theorem ke_X4_splice : cX4_splice.data.toList.map UInt8.toNat = KS_X4_splice.flatten ++ KB_X4_splice_2 := by decide +kernel
theorem kn_X4_splice : ∀ K ∈ KS_X4_splice, K.length = 64 := by decide +kernel
theorem kb_X4_splice_0 (r : Nat) {b : Nat} (h : KB_X4_splice_0[r]? = some b) : cb cX4_splice (64 * 0 + r) = some b := kc_of ke_X4_splice kn_X4_splice 0 r KB_X4_splice_0 rfl h
theorem kb_X4_splice_1 (r : Nat) {b : Nat} (h : KB_X4_splice_1[r]? = some b) : cb cX4_splice (64 * 1 + r) = some b := kc_of ke_X4_splice kn_X4_splice 1 r KB_X4_splice_1 rfl h
theorem kb_X4_splice_2 (r : Nat) {b : Nat} (h : KB_X4_splice_2[r]? = some b) : cb cX4_splice (64 * 2 + r) = some b := kr_of ke_X4_splice kn_X4_splice 2 r rfl h
def KB_X4_swap_0 : List Nat := [42, 42, 27, 28, 182, 0, 92, 154, 0, 12, 42, 27, 29, 182, 0, 92, 153, 0, 7, 4, 167, 0, 4, 3, 3, 3, 182, 0, 84, 153, 0, 5, 3, 172, 42, 27, 28, 182, 0, 62, 54, 4, 42, 27, 29, 182, 0, 62, 54, 5, 42, 180, 0, 15, 42, 27, 182, 0, 48, 50, 42, 27, 182, 0]
def KB_X4_swap_1 : List Nat := [52, 28, 96, 21, 5, 79, 42, 180, 0, 15, 42, 27, 182, 0, 48, 50, 42, 27, 182, 0, 52, 29, 96, 21, 4, 79, 21, 5, 172]
def KS_X4_swap : List (List Nat) := [KB_X4_swap_0]
theorem ke_X4_swap : cX4_swap.data.toList.map UInt8.toNat = KS_X4_swap.flatten ++ KB_X4_swap_1 := by decide +kernel
theorem kn_X4_swap : ∀ K ∈ KS_X4_swap, K.length = 64 := by decide +kernel
theorem kb_X4_swap_0 (r : Nat) {b : Nat} (h : KB_X4_swap_0[r]? = some b) : cb cX4_swap (64 * 0 + r) = some b := kc_of ke_X4_swap kn_X4_swap 0 r KB_X4_swap_0 rfl h
theorem kb_X4_swap_1 (r : Nat) {b : Nat} (h : KB_X4_swap_1[r]? = some b) : cb cX4_swap (64 * 1 + r) = some b := kr_of ke_X4_swap kn_X4_swap 1 r rfl h
def KB_X4_take_0 : List Nat := [42, 27, 184, 0, 193, 42, 27, 182, 0, 196, 3, 182, 0, 84, 153, 0, 5, 3, 172, 42, 180, 0, 41, 27, 46, 2, 160, 0, 6, 16, 247, 172, 42, 42, 180, 0, 35, 27, 46, 27, 182, 0, 74, 42, 42, 180, 0, 35, 27, 46, 42, 180, 0, 41, 27, 46, 4, 3, 188, 10, 182, 0, 88, 42]
def KB_X4_take_1 : List Nat := [180, 0, 38, 27, 92, 46, 42, 180, 0, 41, 27, 46, 42, 180, 0, 38, 27, 46, 162, 0, 7, 4, 167, 0, 4, 3, 184, 0, 136, 100, 79, 42, 180, 0, 41, 27, 2, 79, 42, 180, 0, 38, 27, 46, 172]
def KS_X4_take : List (List Nat) := [KB_X4_take_0]
theorem ke_X4_take : cX4_take.data.toList.map UInt8.toNat = KS_X4_take.flatten ++ KB_X4_take_1 := by decide +kernel
theorem kn_X4_take : ∀ K ∈ KS_X4_take, K.length = 64 := by decide +kernel
theorem kb_X4_take_0 (r : Nat) {b : Nat} (h : KB_X4_take_0[r]? = some b) : cb cX4_take (64 * 0 + r) = some b := kc_of ke_X4_take kn_X4_take 0 r KB_X4_take_0 rfl h
theorem kb_X4_take_1 (r : Nat) {b : Nat} (h : KB_X4_take_1[r]? = some b) : cb cX4_take (64 * 1 + r) = some b := kr_of ke_X4_take kn_X4_take 1 r rfl h
def KB_X4_text : List Nat := [42, 27, 184, 0, 119, 3, 3, 182, 0, 84, 153, 0, 8, 18, 151, 167, 0, 8, 42, 27, 182, 0, 179, 176]
theorem ke_X4_text : cX4_text.data.toList.map UInt8.toNat = KB_X4_text := by decide +kernel
def KB_X4_textNow_0 : List Nat := [18, 151, 77, 42, 180, 0, 15, 27, 50, 78, 45, 190, 54, 4, 3, 54, 5, 21, 5, 21, 4, 162, 0, 52, 45, 21, 5, 46, 54, 6, 187, 0, 153, 89, 183, 0, 155, 44, 182, 0, 156, 44, 182, 0, 160, 153, 0, 8, 18, 151, 167, 0, 5, 18, 166, 182, 0, 156, 21, 6, 182, 0, 168, 182]
def KB_X4_textNow_1 : List Nat := [0, 171, 77, 132, 5, 1, 167, 255, 203, 187, 0, 153, 89, 183, 0, 155, 18, 175, 182, 0, 156, 44, 182, 0, 156, 18, 177, 182, 0, 156, 182, 0, 171, 176]
def KS_X4_textNow : List (List Nat) := [KB_X4_textNow_0]
theorem ke_X4_textNow : cX4_textNow.data.toList.map UInt8.toNat = KS_X4_textNow.flatten ++ KB_X4_textNow_1 := by decide +kernel
theorem kn_X4_textNow : ∀ K ∈ KS_X4_textNow, K.length = 64 := by decide +kernel
theorem kb_X4_textNow_0 (r : Nat) {b : Nat} (h : KB_X4_textNow_0[r]? = some b) : cb cX4_textNow (64 * 0 + r) = some b := kc_of ke_X4_textNow kn_X4_textNow 0 r KB_X4_textNow_0 rfl h
theorem kb_X4_textNow_1 (r : Nat) {b : Nat} (h : KB_X4_textNow_1[r]? = some b) : cb cX4_textNow (64 * 1 + r) = some b := kr_of ke_X4_textNow kn_X4_textNow 1 r rfl h
def KB_X4_through_0 : List Nat := [42, 42, 27, 182, 0, 55, 154, 0, 18, 42, 28, 182, 0, 55, 154, 0, 10, 29, 184, 0, 119, 153, 0, 7, 4, 167, 0, 4, 3, 3, 3, 182, 0, 84, 153, 0, 5, 3, 172, 42, 27, 182, 0, 95, 58, 4, 42, 28, 182, 0, 95, 58, 5, 3, 54, 6, 21, 6, 25, 5, 190, 162, 0, 52]
def KB_X4_through_1 : List Nat := [25, 5, 21, 6, 46, 25, 4, 190, 161, 0, 6, 16, 247, 172, 25, 5, 21, 6, 25, 5, 21, 6, 46, 156, 0, 11, 25, 5, 21, 6, 46, 167, 0, 11, 25, 4, 25, 5, 21, 6, 46, 46, 79, 132, 6, 1, 167, 255, 202, 42, 29, 25, 5, 182, 0, 130, 25, 5, 190, 172]
def KS_X4_through : List (List Nat) := [KB_X4_through_0]
theorem ke_X4_through : cX4_through.data.toList.map UInt8.toNat = KS_X4_through.flatten ++ KB_X4_through_1 := by decide +kernel
theorem kn_X4_through : ∀ K ∈ KS_X4_through, K.length = 64 := by decide +kernel
theorem kb_X4_through_0 (r : Nat) {b : Nat} (h : KB_X4_through_0[r]? = some b) : cb cX4_through (64 * 0 + r) = some b := kc_of ke_X4_through kn_X4_through 0 r KB_X4_through_0 rfl h
theorem kb_X4_through_1 (r : Nat) {b : Nat} (h : KB_X4_through_1[r]? = some b) : cb cX4_through (64 * 1 + r) = some b := kr_of ke_X4_through kn_X4_through 1 r rfl h
def KB_X4_thrown : List Nat := [42, 180, 0, 44, 172]
theorem ke_X4_thrown : cX4_thrown.data.toList.map UInt8.toNat = KB_X4_thrown := by decide +kernel
def KB_X4_turned : List Nat := [42, 190, 188, 10, 76, 3, 61, 28, 43, 190, 162, 0, 20, 43, 28, 42, 43, 190, 4, 100, 28, 100, 46, 79, 132, 2, 1, 167, 255, 236, 43, 176]
theorem ke_X4_turned : cX4_turned.data.toList.map UInt8.toNat = KB_X4_turned := by decide +kernel
def KB_X4_unriffle_0 : List Nat := [42, 42, 27, 182, 0, 55, 3, 3, 182, 0, 84, 153, 0, 5, 3, 172, 42, 27, 182, 0, 95, 77, 44, 190, 188, 10, 78, 3, 54, 4, 21, 4, 44, 190, 162, 0, 40, 45, 21, 4, 5, 112, 154, 0, 10, 21, 4, 5, 108, 167, 0, 14, 44, 190, 4, 96, 5, 108, 21, 4, 5, 108, 96, 44]
def KB_X4_unriffle_1 : List Nat := [21, 4, 46, 79, 132, 4, 1, 167, 255, 215, 44, 190, 4, 164, 0, 9, 42, 27, 2, 182, 0, 74, 42, 27, 45, 182, 0, 99, 44, 190, 172]
def KS_X4_unriffle : List (List Nat) := [KB_X4_unriffle_0]
theorem ke_X4_unriffle : cX4_unriffle.data.toList.map UInt8.toNat = KS_X4_unriffle.flatten ++ KB_X4_unriffle_1 := by decide +kernel
theorem kn_X4_unriffle : ∀ K ∈ KS_X4_unriffle, K.length = 64 := by decide +kernel
theorem kb_X4_unriffle_0 (r : Nat) {b : Nat} (h : KB_X4_unriffle_0[r]? = some b) : cb cX4_unriffle (64 * 0 + r) = some b := kc_of ke_X4_unriffle kn_X4_unriffle 0 r KB_X4_unriffle_0 rfl h
theorem kb_X4_unriffle_1 (r : Nat) {b : Nat} (h : KB_X4_unriffle_1[r]? = some b) : cb cX4_unriffle (64 * 1 + r) = some b := kr_of ke_X4_unriffle kn_X4_unriffle 1 r rfl h
def KB_X4_window_0 : List Nat := [27, 3, 6, 184, 0, 1, 153, 0, 11, 42, 28, 182, 0, 55, 153, 0, 7, 4, 167, 0, 4, 3, 54, 5, 42, 21, 5, 21, 5, 154, 0, 18, 42, 7, 27, 96, 28, 182, 0, 66, 153, 0, 7, 4, 167, 0, 4, 3, 3, 182, 0, 84, 153, 0, 5, 3, 172, 29, 155, 0, 19, 29, 21, 4]
def KB_X4_window_1 : List Nat := [163, 0, 13, 21, 4, 42, 28, 182, 0, 59, 164, 0, 6, 16, 247, 172, 42, 180, 0, 18, 27, 51, 153, 0, 8, 42, 27, 182, 0, 183, 42, 180, 0, 18, 27, 4, 84, 42, 180, 0, 22, 27, 28, 79, 42, 180, 0, 26, 27, 29, 79, 42, 180, 0, 29, 27, 21, 4, 29, 100, 79, 21, 4, 29]
def KB_X4_window_2 : List Nat := [100, 172]
def KS_X4_window : List (List Nat) := [KB_X4_window_0, KB_X4_window_1]
theorem ke_X4_window : cX4_window.data.toList.map UInt8.toNat = KS_X4_window.flatten ++ KB_X4_window_2 := by decide +kernel
theorem kn_X4_window : ∀ K ∈ KS_X4_window, K.length = 64 := by decide +kernel
theorem kb_X4_window_0 (r : Nat) {b : Nat} (h : KB_X4_window_0[r]? = some b) : cb cX4_window (64 * 0 + r) = some b := kc_of ke_X4_window kn_X4_window 0 r KB_X4_window_0 rfl h
theorem kb_X4_window_1 (r : Nat) {b : Nat} (h : KB_X4_window_1[r]? = some b) : cb cX4_window (64 * 1 + r) = some b := kc_of ke_X4_window kn_X4_window 1 r KB_X4_window_1 rfl h
theorem kb_X4_window_2 (r : Nat) {b : Nat} (h : KB_X4_window_2[r]? = some b) : cb cX4_window (64 * 2 + r) = some b := kr_of ke_X4_window kn_X4_window 2 r rfl h
def KB_X4_windowNow : List Nat := [42, 180, 0, 18, 27, 51, 154, 0, 7, 2, 167, 0, 37, 28, 154, 0, 12, 42, 180, 0, 22, 27, 46, 167, 0, 24, 28, 4, 160, 0, 13, 42, 7, 27, 96, 182, 0, 48, 167, 0, 9, 42, 180, 0, 29, 27, 46, 172]
theorem ke_X4_windowNow : cX4_windowNow.data.toList.map UInt8.toNat = KB_X4_windowNow := by decide +kernel
def KB_X4_windows : List Nat := [3, 60, 42, 180, 0, 18, 77, 44, 190, 62, 3, 54, 4, 21, 4, 29, 162, 0, 23, 44, 21, 4, 51, 54, 5, 27, 21, 5, 184, 0, 136, 96, 60, 132, 4, 1, 167, 255, 233, 27, 172]
theorem ke_X4_windows : cX4_windows.data.toList.map UInt8.toNat = KB_X4_windows := by decide +kernel
theorem pn_J0 : plainName RJ0 = true := by decide +kernel
theorem pn_J1 : plainName RJ1 = true := by decide +kernel
theorem pn_J4 : plainName RJ4 = true := by decide +kernel
theorem pn_J5 : plainName RJ5 = true := by decide +kernel
theorem pn_J6 : plainName RJ6 = true := by decide +kernel
theorem pn_J7 : plainName RJ7 = true := by decide +kernel
theorem pn_J8 : plainName RJ8 = true := by decide +kernel
theorem pn_L : plainName RL = true := by decide +kernel
theorem pn_X0 : plainName RX0 = true := by decide +kernel
theorem pn_X1 : plainName RX1 = true := by decide +kernel
theorem pn_X2 : plainName RX2 = true := by decide +kernel
theorem pn_X3 : plainName RX3 = true := by decide +kernel
theorem pn_X4 : plainName RX4 = true := by decide +kernel
theorem mh_J0 : RJ0 ≠ "java/lang/invoke/MethodHandle" ∧ RJ0 ≠ "java/lang/invoke/VarHandle" := by decide +kernel
theorem mh_J1 : RJ1 ≠ "java/lang/invoke/MethodHandle" ∧ RJ1 ≠ "java/lang/invoke/VarHandle" := by decide +kernel
theorem mh_J4 : RJ4 ≠ "java/lang/invoke/MethodHandle" ∧ RJ4 ≠ "java/lang/invoke/VarHandle" := by decide +kernel
theorem mh_J5 : RJ5 ≠ "java/lang/invoke/MethodHandle" ∧ RJ5 ≠ "java/lang/invoke/VarHandle" := by decide +kernel
theorem mh_J6 : RJ6 ≠ "java/lang/invoke/MethodHandle" ∧ RJ6 ≠ "java/lang/invoke/VarHandle" := by decide +kernel
theorem mh_J7 : RJ7 ≠ "java/lang/invoke/MethodHandle" ∧ RJ7 ≠ "java/lang/invoke/VarHandle" := by decide +kernel
theorem mh_J8 : RJ8 ≠ "java/lang/invoke/MethodHandle" ∧ RJ8 ≠ "java/lang/invoke/VarHandle" := by decide +kernel
theorem mh_J9 : RJ9 ≠ "java/lang/invoke/MethodHandle" ∧ RJ9 ≠ "java/lang/invoke/VarHandle" := by decide +kernel
theorem mh_L : RL ≠ "java/lang/invoke/MethodHandle" ∧ RL ≠ "java/lang/invoke/VarHandle" := by decide +kernel
theorem mh_X0 : RX0 ≠ "java/lang/invoke/MethodHandle" ∧ RX0 ≠ "java/lang/invoke/VarHandle" := by decide +kernel
theorem mh_X1 : RX1 ≠ "java/lang/invoke/MethodHandle" ∧ RX1 ≠ "java/lang/invoke/VarHandle" := by decide +kernel
theorem mh_X2 : RX2 ≠ "java/lang/invoke/MethodHandle" ∧ RX2 ≠ "java/lang/invoke/VarHandle" := by decide +kernel
theorem mh_X3 : RX3 ≠ "java/lang/invoke/MethodHandle" ∧ RX3 ≠ "java/lang/invoke/VarHandle" := by decide +kernel
theorem mh_X4 : RX4 ≠ "java/lang/invoke/MethodHandle" ∧ RX4 ≠ "java/lang/invoke/VarHandle" := by decide +kernel
theorem pd_0 : (parseMethodDescriptor "(II)I").map (fun d => d.parameters.length) = some 2 := by decide +kernel
theorem pd_1 : (parseMethodDescriptor "(I)I").map (fun d => d.parameters.length) = some 1 := by decide +kernel
theorem pd_2 : (parseMethodDescriptor "(II)V").map (fun d => d.parameters.length) = some 2 := by decide +kernel
theorem pd_3 : (parseMethodDescriptor "(ILSplicemonoid$Part;)Z").map (fun d => d.parameters.length) = some 2 := by decide +kernel
theorem pd_4 : (parseMethodDescriptor "(LSplicemonoid$Part;)V").map (fun d => d.parameters.length) = some 1 := by decide +kernel
theorem pd_5 : (parseMethodDescriptor "(II)Z").map (fun d => d.parameters.length) = some 2 := by decide +kernel
theorem pd_6 : (parseMethodDescriptor "(I)V").map (fun d => d.parameters.length) = some 1 := by decide +kernel
theorem pd_7 : (parseMethodDescriptor "(III)V").map (fun d => d.parameters.length) = some 3 := by decide +kernel
theorem pd_8 : (parseMethodDescriptor "(I)Z").map (fun d => d.parameters.length) = some 1 := by decide +kernel
theorem pd_9 : (parseMethodDescriptor "(IIII)V").map (fun d => d.parameters.length) = some 4 := by decide +kernel
theorem pd_10 : (parseMethodDescriptor "()I").map (fun d => d.parameters.length) = some 0 := by decide +kernel
theorem pd_11 : (parseMethodDescriptor "(ILSplicemonoid$Part;)V").map (fun d => d.parameters.length) = some 2 := by decide +kernel
theorem pd_12 : (parseMethodDescriptor "(LSplicemonoid$Part;)I").map (fun d => d.parameters.length) = some 1 := by decide +kernel
theorem pd_13 : (parseMethodDescriptor "(IIZ)I").map (fun d => d.parameters.length) = some 3 := by decide +kernel
theorem pd_14 : (parseMethodDescriptor "(LSplicemonoid$Part;)Z").map (fun d => d.parameters.length) = some 1 := by decide +kernel
theorem pd_15 : (parseMethodDescriptor "(LSplicemonoid$Part;III)V").map (fun d => d.parameters.length) = some 4 := by decide +kernel
theorem pd_16 : (parseMethodDescriptor "(JJ)J").map (fun d => d.parameters.length) = some 2 := by decide +kernel
theorem pd_17 : (parseMethodDescriptor "(JLSplicemonoid$Part;)J").map (fun d => d.parameters.length) = some 2 := by decide +kernel
theorem pd_18 : (parseMethodDescriptor "(LSplicemonoid$Part;I)Z").map (fun d => d.parameters.length) = some 2 := by decide +kernel
theorem pd_19 : (parseMethodDescriptor "(III)Z").map (fun d => d.parameters.length) = some 3 := by decide +kernel
theorem pd_20 : (parseMethodDescriptor "(ZZZ)Z").map (fun d => d.parameters.length) = some 3 := by decide +kernel
theorem pd_21 : (parseMethodDescriptor "(III[I)V").map (fun d => d.parameters.length) = some 4 := by decide +kernel
theorem pd_22 : (parseMethodDescriptor "(I)[I").map (fun d => d.parameters.length) = some 1 := by decide +kernel
theorem pd_23 : (parseMethodDescriptor "(I[I)V").map (fun d => d.parameters.length) = some 2 := by decide +kernel
theorem pd_24 : (parseMethodDescriptor "([I)[I").map (fun d => d.parameters.length) = some 1 := by decide +kernel
theorem pd_25 : (parseMethodDescriptor "([II)[I").map (fun d => d.parameters.length) = some 2 := by decide +kernel
theorem pd_26 : (parseMethodDescriptor "(Z)I").map (fun d => d.parameters.length) = some 1 := by decide +kernel
theorem pd_27 : (parseMethodDescriptor "()Z").map (fun d => d.parameters.length) = some 0 := by decide +kernel
theorem pd_28 : (parseMethodDescriptor "(III)I").map (fun d => d.parameters.length) = some 3 := by decide +kernel
theorem pd_29 : (parseMethodDescriptor "([BI)[B").map (fun d => d.parameters.length) = some 2 := by decide +kernel
theorem pd_30 : (parseMethodDescriptor "(C)Z").map (fun d => d.parameters.length) = some 1 := by decide +kernel
theorem pd_31 : (parseMethodDescriptor "()B").map (fun d => d.parameters.length) = some 0 := by decide +kernel
theorem pd_32 : (parseMethodDescriptor "([BIB)V").map (fun d => d.parameters.length) = some 3 := by decide +kernel
theorem pd_33 : (parseMethodDescriptor "(II[B)I").map (fun d => d.parameters.length) = some 3 := by decide +kernel
theorem pd_34 : (parseMethodDescriptor "([BII)[B").map (fun d => d.parameters.length) = some 3 := by decide +kernel
theorem pd_35 : (parseMethodDescriptor "(Ljava/lang/AbstractStringBuilder;Ljava/lang/Void;)V").map (fun d => d.parameters.length) = some 2 := by decide +kernel
theorem pd_36 : (parseMethodDescriptor "(Ljava/lang/StringBuilder;)V").map (fun d => d.parameters.length) = some 1 := by decide +kernel
theorem pd_37 : (parseMethodDescriptor "(Ljava/lang/String;)Ljava/lang/StringBuilder;").map (fun d => d.parameters.length) = some 1 := by decide +kernel
theorem pd_38 : (parseMethodDescriptor "(I)Ljava/lang/StringBuilder;").map (fun d => d.parameters.length) = some 1 := by decide +kernel
theorem pd_39 : (parseMethodDescriptor "(C)Ljava/lang/StringBuilder;").map (fun d => d.parameters.length) = some 1 := by decide +kernel
theorem pd_40 : (parseMethodDescriptor "()V").map (fun d => d.parameters.length) = some 0 := by decide +kernel
theorem pd_41 : (parseMethodDescriptor "()Ljava/lang/String;").map (fun d => d.parameters.length) = some 0 := by decide +kernel
theorem pd_42 : (parseMethodDescriptor "(J)J").map (fun d => d.parameters.length) = some 1 := by decide +kernel
theorem pd_43 : (parseMethodDescriptor "(I[IZ)V").map (fun d => d.parameters.length) = some 3 := by decide +kernel
theorem pd_44 : (parseMethodDescriptor "(I)Ljava/lang/String;").map (fun d => d.parameters.length) = some 1 := by decide +kernel
theorem pd_45 : (parseMethodDescriptor "(J)V").map (fun d => d.parameters.length) = some 1 := by decide +kernel
theorem pd_46 : (parseMethodDescriptor "(LSplicemonoid;IILSplicemonoidLaw$Out;)I").map (fun d => d.parameters.length) = some 4 := by decide +kernel
theorem pd_47 : (parseMethodDescriptor "(LSplicemonoid;IIILSplicemonoidLaw$Out;)I").map (fun d => d.parameters.length) = some 5 := by decide +kernel
theorem pd_48 : (parseMethodDescriptor "(LSplicemonoid;ILSplicemonoidLaw$Out;)I").map (fun d => d.parameters.length) = some 3 := by decide +kernel
theorem pd_49 : (parseMethodDescriptor "(LSplicemonoid;IIIILSplicemonoidLaw$Out;)I").map (fun d => d.parameters.length) = some 6 := by decide +kernel
theorem pd_50 : (parseMethodDescriptor "(IIII)I").map (fun d => d.parameters.length) = some 4 := by decide +kernel
theorem pd_51 : (parseMethodDescriptor "(LSplicemonoid;IZLSplicemonoidLaw$Out;)I").map (fun d => d.parameters.length) = some 4 := by decide +kernel
theorem pd_52 : (parseMethodDescriptor "(IZ)I").map (fun d => d.parameters.length) = some 2 := by decide +kernel
theorem pd_53 : (parseMethodDescriptor "()J").map (fun d => d.parameters.length) = some 0 := by decide +kernel
