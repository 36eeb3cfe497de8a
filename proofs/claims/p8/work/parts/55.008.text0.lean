theorem qe_J5_inflate_da8c8 : Cond.sameMethod yJ5_inflate_da8c8.cls yJ5_inflate_da8c8.cls yJ5_inflate_da8c8.name yJ5_inflate_da8c8.desc ∈ GW := gw_7 122 rfl rfl
theorem qe_J5_append_c97b9 : Cond.sameMethod yJ5_append_c97b9.cls yJ5_append_c97b9.cls yJ5_append_c97b9.name yJ5_append_c97b9.desc ∈ GW := gw_7 123 rfl rfl
theorem qe_J5_append_3fe6f : Cond.sameMethod yJ5_append_3fe6f.cls yJ5_append_3fe6f.cls yJ5_append_3fe6f.name yJ5_append_3fe6f.desc ∈ GW := gw_7 124 rfl rfl
/-! texts: a builder, its bytes, a String -/
abbrev SBO (b v : Nat) (ml : Int32) (n : Nat) : Nat × va_E := (b, .inr (1, [.ref v, .int (nI 0), .int ml, .int (nI n)]))
