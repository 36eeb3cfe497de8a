/-! the tables' good words, all that a method of these classes may need: one list for every method -/
def GW : List Cond := lw_tbl.filter goodWord
theorem gw_t {w : Cond} (i : Nat) (h : tables_1[i]? = some w) (g : goodWord w = true) : w ∈ GW := List.mem_filter.mpr ⟨List.mem_append_right _ (List.mem_of_getElem? h), g⟩
theorem gw_p {w : Cond} (i : Nat) (h : (k2_sels lw_privs)[i]? = some w) (g : goodWord w = true) : w ∈ GW := List.mem_filter.mpr ⟨List.mem_append_left _ (List.mem_of_getElem? h), g⟩
theorem gw_good {big : List Cond} (hb : ∀ w ∈ GW, w ∈ big) {ws : List Cond} (h : ∀ w ∈ ws, w ∈ GW) : GoodIn big ws := fun w hw => ⟨hb w (h w hw), good_of_word (List.mem_filter.mp (h w hw)).2⟩

theorem gw_1 {w : Cond} (i : Nat) (h : tables_1_1[i]? = some w) (g : goodWord w = true) : w ∈ GW := List.mem_filter.mpr ⟨List.mem_append_right _ (gm_1 i h), g⟩
theorem gw_2 {w : Cond} (i : Nat) (h : tables_1_2[i]? = some w) (g : goodWord w = true) : w ∈ GW := List.mem_filter.mpr ⟨List.mem_append_right _ (gm_2 i h), g⟩
theorem gw_3 {w : Cond} (i : Nat) (h : tables_1_3[i]? = some w) (g : goodWord w = true) : w ∈ GW := List.mem_filter.mpr ⟨List.mem_append_right _ (gm_3 i h), g⟩
theorem gw_4 {w : Cond} (i : Nat) (h : tables_1_4[i]? = some w) (g : goodWord w = true) : w ∈ GW := List.mem_filter.mpr ⟨List.mem_append_right _ (gm_4 i h), g⟩
theorem gw_5 {w : Cond} (i : Nat) (h : tables_1_5[i]? = some w) (g : goodWord w = true) : w ∈ GW := List.mem_filter.mpr ⟨List.mem_append_right _ (gm_5 i h), g⟩
theorem gw_6 {w : Cond} (i : Nat) (h : tables_1_6[i]? = some w) (g : goodWord w = true) : w ∈ GW := List.mem_filter.mpr ⟨List.mem_append_right _ (gm_6 i h), g⟩
theorem gw_7 {w : Cond} (i : Nat) (h : tables_1_7[i]? = some w) (g : goodWord w = true) : w ∈ GW := List.mem_filter.mpr ⟨List.mem_append_right _ (gm_7 i h), g⟩
theorem qz_L : Cond.initialized RL ∈ GW := gw_1 0 rfl rfl
theorem qz_X2 : Cond.initialized RX2 ∈ GW := gw_1 1 rfl rfl
theorem qz_X1 : Cond.initialized RX1 ∈ GW := gw_1 2 rfl rfl
theorem qz_X0 : Cond.initialized RX0 ∈ GW := gw_1 3 rfl rfl
theorem qz_X4 : Cond.initialized RX4 ∈ GW := gw_1 4 rfl rfl
theorem qz_X3 : Cond.initialized RX3 ∈ GW := gw_1 5 rfl rfl
theorem qz_java_lang_Throwable : Cond.initialized "java/lang/Throwable" ∈ GW := gw_1 6 rfl rfl
theorem qz_java_lang_Exception : Cond.initialized "java/lang/Exception" ∈ GW := gw_1 7 rfl rfl
theorem qz_java_lang_RuntimeException : Cond.initialized "java/lang/RuntimeException" ∈ GW := gw_1 8 rfl rfl
theorem qz_java_lang_IndexOutOfBoundsException : Cond.initialized "java/lang/IndexOutOfBoundsException" ∈ GW := gw_1 9 rfl rfl
theorem qz_java_lang_IllegalArgumentException : Cond.initialized "java/lang/IllegalArgumentException" ∈ GW := gw_1 10 rfl rfl
theorem qz_java_lang_IllegalStateException : Cond.initialized "java/lang/IllegalStateException" ∈ GW := gw_1 11 rfl rfl
theorem qz_J10 : Cond.initialized RJ10 ∈ GW := gw_1 12 rfl rfl
theorem qz_J9 : Cond.initialized RJ9 ∈ GW := gw_1 13 rfl rfl
theorem qz_J5 : Cond.initialized RJ5 ∈ GW := gw_1 14 rfl rfl
theorem qz_J4 : Cond.initialized RJ4 ∈ GW := gw_1 15 rfl rfl
theorem qz_J0 : Cond.initialized RJ0 ∈ GW := gw_1 16 rfl rfl
theorem qz_J2 : Cond.initialized RJ2 ∈ GW := gw_1 17 rfl rfl
theorem qz_J8 : Cond.initialized RJ8 ∈ GW := gw_1 18 rfl rfl
theorem qz_J7 : Cond.initialized RJ7 ∈ GW := gw_1 19 rfl rfl
theorem qz_J1 : Cond.initialized RJ1 ∈ GW := gw_1 20 rfl rfl
theorem qz_J3 : Cond.initialized RJ3 ∈ GW := gw_1 21 rfl rfl
theorem qz_J6 : Cond.initialized RJ6 ∈ GW := gw_1 22 rfl rfl
theorem qz_Jx7c733 : Cond.initialized RJx7c733 ∈ GW := gw_1 23 rfl rfl
theorem qz_Jx00060 : Cond.initialized RJx00060 ∈ GW := gw_1 24 rfl rfl
theorem qk_L_8 : Cond.classLink RL 8 "Splicemonoid" ∈ GW := gw_1 25 rfl rfl
theorem qo_X2 : Cond.instantiable RX2 6 ∈ GW := gw_1 26 rfl rfl
theorem qm_L_170 : Cond.methodLink RL 170 yX2_init ∈ GW := gw_1 27 rfl rfl
theorem qi_X2_init : Cond.instanceMethod yX2_init ∈ GW := gw_1 28 rfl rfl
theorem qc_X2_init : Cond.code yX2_init cX2_init 2 none ∈ GW := gw_1 29 rfl rfl
theorem qm_X2_3 : Cond.methodLink RX2 3 objectInit ∈ GW := gw_1 30 rfl rfl
theorem qi_objectInit : Cond.instanceMethod objectInit ∈ GW := gw_1 31 rfl rfl
theorem qc_objectInit : Cond.code objectInit ⟨#[0xb1]⟩ 1 none ∈ GW := gw_1 32 rfl rfl
theorem qk_X2_9 : Cond.classLink RX2 9 "Splicemonoid$Part" ∈ GW := gw_1 33 rfl rfl
theorem qo_X1 : Cond.instantiable RX1 6 ∈ GW := gw_1 35 rfl rfl
theorem qm_X2_15 : Cond.methodLink RX2 15 yX1_init ∈ GW := gw_1 36 rfl rfl
theorem qi_X1_init : Cond.instanceMethod yX1_init ∈ GW := gw_1 37 rfl rfl
theorem qc_X1_init : Cond.code yX1_init cX1_init 4 none ∈ GW := gw_1 38 rfl rfl
theorem qm_X1_3 : Cond.methodLink RX1 3 objectInit ∈ GW := gw_1 39 rfl rfl
theorem qf_X1_15 : Cond.fieldLink RX1 15 "Splicemonoid$Part" "items" "[I" ∈ GW := gw_1 40 rfl rfl
theorem qf_X1_9 : Cond.fieldLink RX1 9 "Splicemonoid$Part" "row" "I" ∈ GW := gw_1 42 rfl rfl
theorem qf_X1_23 : Cond.fieldLink RX1 23 "Splicemonoid$Part" "ground" "I" ∈ GW := gw_1 44 rfl rfl
theorem qf_X1_26 : Cond.fieldLink RX1 26 "Splicemonoid$Part" "start" "I" ∈ GW := gw_1 46 rfl rfl
theorem qf_X1_29 : Cond.fieldLink RX1 29 "Splicemonoid$Part" "length" "I" ∈ GW := gw_1 49 rfl rfl
theorem qf_X1_19 : Cond.fieldLink RX1 19 "Splicemonoid$Part" "isThere" "Z" ∈ GW := gw_1 51 rfl rfl
theorem qa_int : Cond.arrayClass .int ∈ GW := gw_1 66 rfl rfl
theorem qk_X2_22 : Cond.classLink RX2 22 "Splicemonoid$Cursor" ∈ GW := gw_1 67 rfl rfl
theorem qo_X0 : Cond.instantiable RX0 4 ∈ GW := gw_1 69 rfl rfl
theorem qm_X2_28 : Cond.methodLink RX2 28 yX0_init ∈ GW := gw_1 70 rfl rfl
theorem qi_X0_init : Cond.instanceMethod yX0_init ∈ GW := gw_1 71 rfl rfl
theorem qc_X0_init : Cond.code yX0_init cX0_init 1 none ∈ GW := gw_1 72 rfl rfl
theorem qm_X0_3 : Cond.methodLink RX0 3 objectInit ∈ GW := gw_1 73 rfl rfl
