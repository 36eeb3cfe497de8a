theorem pk_X2_needCursor : PkS yX2_needCursor cX2_needCursor 1 none 1 := ⟨⟨qt_X2_needCursor, qz_X2, qc_X2_needCursor⟩, by decide +kernel⟩
theorem dX2_needCursorThere_0 : decode cX2_needCursorThere 0 = .ok (.iload_n 1, 1) := by decide +kernel
theorem dX2_needCursorThere_1 : decode cX2_needCursorThere 1 = .ok (.invokestatic 210, 3) := by decide +kernel
theorem dX2_needCursorThere_4 : decode cX2_needCursorThere 4 = .ok (.aload_n 0, 1) := by decide +kernel
theorem dX2_needCursorThere_5 : decode cX2_needCursorThere 5 = .ok (.getfield 24, 3) := by decide +kernel
theorem dX2_needCursorThere_8 : decode cX2_needCursorThere 8 = .ok (.iload_n 1, 1) := by decide +kernel
theorem dX2_needCursorThere_9 : decode cX2_needCursorThere 9 = .ok (.aaload, 1) := by decide +kernel
theorem dX2_needCursorThere_10 : decode cX2_needCursorThere 10 = .ok (.getfield 221, 3) := by decide +kernel
theorem dX2_needCursorThere_13 : decode cX2_needCursorThere 13 = .ok (.ifCond .ne 14, 3) := by decide +kernel
theorem dX2_needCursorThere_16 : decode cX2_needCursorThere 16 = .ok (.new 147, 3) := by decide +kernel
theorem dX2_needCursorThere_19 : decode cX2_needCursorThere 19 = .ok (.dup, 1) := by decide +kernel
theorem dX2_needCursorThere_20 : decode cX2_needCursorThere 20 = .ok (.ldc_w 294, 3) := by decide +kernel
