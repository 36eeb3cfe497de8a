theorem pk_X2_isHolder : PkV RX2 yX2_isHolder cX2_isHolder 5 (some .boolean) 2 := ⟨⟨qi_X2_isHolder, qs_X2_isHolder, qz_X2, qc_X2_isHolder⟩, by decide +kernel⟩
