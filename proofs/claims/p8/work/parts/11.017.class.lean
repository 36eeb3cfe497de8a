theorem dX2_isHolder_0 : decode cX2_isHolder 0 = .ok (.iload_n 2, 1) := by decide +kernel
theorem dX2_isHolder_1 : decode cX2_isHolder 1 = .ok (.istore_n 3, 1) := by decide +kernel
theorem dX2_isHolder_2 : decode cX2_isHolder 2 = .ok (.iconst 0, 1) := by decide +kernel
theorem dX2_isHolder_3 : decode cX2_isHolder 3 = .ok (.istore 4, 2) := by decide +kernel
theorem dX2_isHolder_5 : decode cX2_isHolder 5 = .ok (.iload 4, 2) := by decide +kernel
theorem dX2_isHolder_7 : decode cX2_isHolder 7 = .ok (.bipush 8, 2) := by decide +kernel
theorem dX2_isHolder_9 : decode cX2_isHolder 9 = .ok (.if_icmp .ge 31, 3) := by decide +kernel
theorem dX2_isHolder_12 : decode cX2_isHolder 12 = .ok (.iload_n 3, 1) := by decide +kernel
theorem dX2_isHolder_13 : decode cX2_isHolder 13 = .ok (.iconst (-1), 1) := by decide +kernel
theorem dX2_isHolder_14 : decode cX2_isHolder 14 = .ok (.if_icmp .eq 26, 3) := by decide +kernel
