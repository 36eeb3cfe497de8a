theorem qn_clone : Cond.castable "[B" "java/lang/Cloneable" ∈ NWL := List.mem_filter.mpr ⟨(gm_2 154 rfl), rfl⟩
theorem qk_B : Cond.classLink RJ7 311 "[B" ∈ GW := gw_2 155 rfl rfl
theorem qe_J5_isLatin1_aae02 : Cond.sameMethod yJ5_isLatin1_aae02.cls yJ5_isLatin1_aae02.cls yJ5_isLatin1_aae02.name yJ5_isLatin1_aae02.desc ∈ GW := gw_2 162 rfl rfl
theorem qs_J5_isLatin1_aae02 : Cond.selects RJ4 yJ5_isLatin1_aae02 yJ5_isLatin1_aae02 ∈ GW := gw_2 163 rfl rfl
