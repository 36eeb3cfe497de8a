theorem qr_J5_appendNull_278bc : Cond.privateMethod yJ5_appendNull_278bc ∈ PVL := List.mem_filter.mpr ⟨(gm_2 124 rfl), rfl⟩
theorem qr_J5_ensureCapacityInternal_d00df : Cond.privateMethod yJ5_ensureCapacityInternal_d00df ∈ PVL := List.mem_filter.mpr ⟨(gm_2 128 rfl), rfl⟩
theorem qr_J5_newCapacity_0f7a4 : Cond.privateMethod yJ5_newCapacity_0f7a4 ∈ PVL := List.mem_filter.mpr ⟨(gm_2 132 rfl), rfl⟩
theorem qm_clone : Cond.methodLink RJ7 310 ⟨"[B", "clone", "()Ljava/lang/Object;"⟩ ∈ GW := gw_2 149 rfl rfl
