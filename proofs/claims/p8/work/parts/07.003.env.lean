theorem qn_X2_207 : Cond.fieldLinkNest RX2 207 RX1 "row" "I" "Splicemonoid" ∈ NWL := List.mem_filter.mpr ⟨(gm_1 43 rfl), rfl⟩
theorem qn_X2_204 : Cond.fieldLinkNest RX2 204 RX1 "ground" "I" "Splicemonoid" ∈ NWL := List.mem_filter.mpr ⟨(gm_1 45 rfl), rfl⟩
theorem qn_X2_296 : Cond.fieldLinkNest RX2 296 RX1 "start" "I" "Splicemonoid" ∈ NWL := List.mem_filter.mpr ⟨(gm_1 47 rfl), rfl⟩
theorem qn_X2_50 : Cond.fieldLinkNest RX2 50 RX1 "length" "I" "Splicemonoid" ∈ NWL := List.mem_filter.mpr ⟨(gm_1 48 rfl), rfl⟩
theorem qn_X0_25 : Cond.fieldLinkNest RX0 25 RX1 "length" "I" "Splicemonoid" ∈ NWL := List.mem_filter.mpr ⟨(gm_1 50 rfl), rfl⟩
theorem qn_X2_194 : Cond.fieldLinkNest RX2 194 RX1 "isThere" "Z" "Splicemonoid" ∈ NWL := List.mem_filter.mpr ⟨(gm_1 52 rfl), rfl⟩
