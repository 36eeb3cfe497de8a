theorem dX1_drawHalvesApart_0 : decode cX1_drawHalvesApart 0 = .ok (.aload_n 1, 1) := by decide +kernel
theorem dX1_drawHalvesApart_1 : decode cX1_drawHalvesApart 1 = .ok (.aload_n 0, 1) := by decide +kernel
theorem dX1_drawHalvesApart_2 : decode cX1_drawHalvesApart 2 = .ok (.invokevirtual 49, 3) := by decide +kernel
theorem dX1_drawHalvesApart_5 : decode cX1_drawHalvesApart 5 = .ok (.aload_n 0, 1) := by decide +kernel
theorem dX1_drawHalvesApart_6 : decode cX1_drawHalvesApart 6 = .ok (.getfield 29, 3) := by decide +kernel
theorem dX1_drawHalvesApart_9 : decode cX1_drawHalvesApart 9 = .ok (.iconst 1, 1) := by decide +kernel
theorem dX1_drawHalvesApart_10 : decode cX1_drawHalvesApart 10 = .ok (.iadd, 1) := by decide +kernel
theorem dX1_drawHalvesApart_11 : decode cX1_drawHalvesApart 11 = .ok (.iconst 2, 1) := by decide +kernel
theorem dX1_drawHalvesApart_12 : decode cX1_drawHalvesApart 12 = .ok (.idiv, 1) := by decide +kernel
theorem dX1_drawHalvesApart_13 : decode cX1_drawHalvesApart 13 = .ok (.istore_n 2, 1) := by decide +kernel
theorem dX1_drawHalvesApart_14 : decode cX1_drawHalvesApart 14 = .ok (.iconst 0, 1) := by decide +kernel
theorem dX1_drawHalvesApart_15 : decode cX1_drawHalvesApart 15 = .ok (.istore_n 3, 1) := by decide +kernel
theorem dX1_drawHalvesApart_16 : decode cX1_drawHalvesApart 16 = .ok (.iload_n 3, 1) := by decide +kernel
theorem dX1_drawHalvesApart_17 : decode cX1_drawHalvesApart 17 = .ok (.aload_n 0, 1) := by decide +kernel
theorem dX1_drawHalvesApart_18 : decode cX1_drawHalvesApart 18 = .ok (.getfield 29, 3) := by decide +kernel
theorem dX1_drawHalvesApart_21 : decode cX1_drawHalvesApart 21 = .ok (.if_icmp .ge 39, 3) := by decide +kernel
theorem dX1_drawHalvesApart_24 : decode cX1_drawHalvesApart 24 = .ok (.iload_n 3, 1) := by decide +kernel
theorem dX1_drawHalvesApart_25 : decode cX1_drawHalvesApart 25 = .ok (.iconst 2, 1) := by decide +kernel
