theorem qn_X2_225 : Cond.fieldLinkNest RX2 225 RX0 "where" "I" "Splicemonoid" ∈ NWL := List.mem_filter.mpr ⟨(gm_1 75 rfl), rfl⟩
theorem qn_X2_234 : Cond.fieldLinkNest RX2 234 RX0 "index" "I" "Splicemonoid" ∈ NWL := List.mem_filter.mpr ⟨(gm_1 77 rfl), rfl⟩
theorem qn_X2_237 : Cond.fieldLinkNest RX2 237 RX0 "last" "I" "Splicemonoid" ∈ NWL := List.mem_filter.mpr ⟨(gm_1 79 rfl), rfl⟩
theorem qn_X2_221 : Cond.fieldLinkNest RX2 221 RX0 "isThere" "Z" "Splicemonoid" ∈ NWL := List.mem_filter.mpr ⟨(gm_1 81 rfl), rfl⟩
theorem qn_L_13 : Cond.fieldLinkNest RL 13 RX3 "n" "J" "SplicemonoidLaw" ∈ NWL := List.mem_filter.mpr ⟨(gm_3 210 rfl), rfl⟩
