theorem pk_J9_floorMod : PkS yJ9_floorMod_7cf53 cJ9_floorMod_7cf53 3 (some .int) 2 := ⟨⟨qt_J9_floorMod_7cf53, qz_J9, qc_J9_floorMod_7cf53⟩, by decide +kernel⟩
