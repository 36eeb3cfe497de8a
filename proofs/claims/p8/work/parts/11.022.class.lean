theorem dX2_settle_44 : decode cX2_settle 44 = .ok (.if_icmp .ne 14, 3) := by decide +kernel
theorem dX2_settle_47 : decode cX2_settle 47 = .ok (.aload_n 0, 1) := by decide +kernel
theorem dX2_settle_48 : decode cX2_settle 48 = .ok (.getfield 24, 3) := by decide +kernel
theorem dX2_settle_51 : decode cX2_settle 51 = .ok (.iload 4, 2) := by decide +kernel
theorem dX2_settle_53 : decode cX2_settle 53 = .ok (.aaload, 1) := by decide +kernel
theorem dX2_settle_54 : decode cX2_settle 54 = .ok (.iconst 0, 1) := by decide +kernel
theorem dX2_settle_55 : decode cX2_settle 55 = .ok (.putfield 221, 3) := by decide +kernel
theorem dX2_settle_58 : decode cX2_settle 58 = .ok (.iinc 4 1, 3) := by decide +kernel
theorem dX2_settle_61 : decode cX2_settle 61 = .ok (.goto (-48), 3) := by decide +kernel
theorem dX2_settle_64 : decode cX2_settle 64 = .ok (.iconst 4, 1) := by decide +kernel
theorem dX2_settle_65 : decode cX2_settle 65 = .ok (.istore 4, 2) := by decide +kernel
theorem dX2_settle_67 : decode cX2_settle 67 = .ok (.iload 4, 2) := by decide +kernel
theorem dX2_settle_69 : decode cX2_settle 69 = .ok (.bipush 8, 2) := by decide +kernel
theorem dX2_settle_71 : decode cX2_settle 71 = .ok (.if_icmp .ge 44, 3) := by decide +kernel
theorem dX2_settle_74 : decode cX2_settle 74 = .ok (.aload_n 0, 1) := by decide +kernel
theorem dX2_settle_75 : decode cX2_settle 75 = .ok (.getfield 11, 3) := by decide +kernel
theorem dX2_settle_78 : decode cX2_settle 78 = .ok (.iload 4, 2) := by decide +kernel
theorem dX2_settle_80 : decode cX2_settle 80 = .ok (.aaload, 1) := by decide +kernel
theorem dX2_settle_81 : decode cX2_settle 81 = .ok (.getfield 207, 3) := by decide +kernel
