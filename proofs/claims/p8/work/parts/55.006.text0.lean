theorem qe_J5_append_cf1ce : Cond.sameMethod yJ5_append_cf1ce.cls yJ5_append_cf1ce.cls yJ5_append_cf1ce.name yJ5_append_cf1ce.desc ∈ GW := gw_7 116 rfl rfl
theorem qe_J5_appendNull_278bc : Cond.sameMethod yJ5_appendNull_278bc.cls yJ5_appendNull_278bc.cls yJ5_appendNull_278bc.name yJ5_appendNull_278bc.desc ∈ GW := gw_7 117 rfl rfl
theorem qe_J5_ensureCapacityInternal_d00df : Cond.sameMethod yJ5_ensureCapacityInternal_d00df.cls yJ5_ensureCapacityInternal_d00df.cls yJ5_ensureCapacityInternal_d00df.name yJ5_ensureCapacityInternal_d00df.desc ∈ GW := gw_7 118 rfl rfl
