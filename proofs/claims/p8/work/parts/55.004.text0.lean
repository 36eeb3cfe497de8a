theorem qr_J5_putStringAt_47b60 : Cond.privateMethod yJ5_putStringAt_47b60 ∈ PVL := List.mem_filter.mpr ⟨(gm_2 201 rfl), rfl⟩
theorem qr_J5_inflateIfNeededFor_a7421 : Cond.privateMethod yJ5_inflateIfNeededFor_a7421 ∈ PVL := List.mem_filter.mpr ⟨(gm_2 205 rfl), rfl⟩
theorem qr_J5_inflate_da8c8 : Cond.privateMethod yJ5_inflate_da8c8 ∈ PVL := List.mem_filter.mpr ⟨(gm_2 210 rfl), rfl⟩
theorem qe_J5_getValue_6d5f1 : Cond.sameMethod yJ5_getValue_6d5f1.cls yJ5_getValue_6d5f1.cls yJ5_getValue_6d5f1.name yJ5_getValue_6d5f1.desc ∈ GW := gw_3 34 rfl rfl
