theorem dX1_layHalvesTogether_0 : decode cX1_layHalvesTogether 0 = .ok (.aload_n 1, 1) := by decide +kernel
theorem dX1_layHalvesTogether_1 : decode cX1_layHalvesTogether 1 = .ok (.aload_n 0, 1) := by decide +kernel
theorem dX1_layHalvesTogether_2 : decode cX1_layHalvesTogether 2 = .ok (.invokevirtual 49, 3) := by decide +kernel
theorem dX1_layHalvesTogether_5 : decode cX1_layHalvesTogether 5 = .ok (.aload_n 0, 1) := by decide +kernel
theorem dX1_layHalvesTogether_6 : decode cX1_layHalvesTogether 6 = .ok (.getfield 29, 3) := by decide +kernel
theorem dX1_layHalvesTogether_9 : decode cX1_layHalvesTogether 9 = .ok (.iconst 1, 1) := by decide +kernel
theorem dX1_layHalvesTogether_10 : decode cX1_layHalvesTogether 10 = .ok (.iadd, 1) := by decide +kernel
theorem dX1_layHalvesTogether_11 : decode cX1_layHalvesTogether 11 = .ok (.iconst 2, 1) := by decide +kernel
theorem dX1_layHalvesTogether_12 : decode cX1_layHalvesTogether 12 = .ok (.idiv, 1) := by decide +kernel
theorem dX1_layHalvesTogether_13 : decode cX1_layHalvesTogether 13 = .ok (.istore_n 2, 1) := by decide +kernel
theorem dX1_layHalvesTogether_14 : decode cX1_layHalvesTogether 14 = .ok (.iconst 0, 1) := by decide +kernel
theorem dX1_layHalvesTogether_15 : decode cX1_layHalvesTogether 15 = .ok (.istore_n 3, 1) := by decide +kernel
theorem dX1_layHalvesTogether_16 : decode cX1_layHalvesTogether 16 = .ok (.iload_n 3, 1) := by decide +kernel
theorem dX1_layHalvesTogether_17 : decode cX1_layHalvesTogether 17 = .ok (.aload_n 0, 1) := by decide +kernel
theorem dX1_layHalvesTogether_18 : decode cX1_layHalvesTogether 18 = .ok (.getfield 29, 3) := by decide +kernel
theorem dX1_layHalvesTogether_21 : decode cX1_layHalvesTogether 21 = .ok (.if_icmp .ge 39, 3) := by decide +kernel
theorem dX1_layHalvesTogether_24 : decode cX1_layHalvesTogether 24 = .ok (.iload_n 3, 1) := by decide +kernel
theorem dX1_layHalvesTogether_25 : decode cX1_layHalvesTogether 25 = .ok (.iconst 2, 1) := by decide +kernel
theorem dX1_layHalvesTogether_26 : decode cX1_layHalvesTogether 26 = .ok (.irem, 1) := by decide +kernel
theorem dX1_layHalvesTogether_27 : decode cX1_layHalvesTogether 27 = .ok (.ifCond .ne 9, 3) := by decide +kernel
theorem dX1_layHalvesTogether_30 : decode cX1_layHalvesTogether 30 = .ok (.iload_n 3, 1) := by decide +kernel
theorem dX1_layHalvesTogether_31 : decode cX1_layHalvesTogether 31 = .ok (.iconst 2, 1) := by decide +kernel
