theorem thr_X2_147_151 : thr_ok RX2 147 151 "java/lang/IllegalStateException" ["java/lang/RuntimeException", "java/lang/Exception"] = true := by decide +kernel
theorem dX2_needRoom_0 : decode cX2_needRoom 0 = .ok (.aload_n 0, 1) := by decide +kernel
theorem dX2_needRoom_1 : decode cX2_needRoom 1 = .ok (.getfield 11, 3) := by decide +kernel
theorem dX2_needRoom_4 : decode cX2_needRoom 4 = .ok (.aload_n 0, 1) := by decide +kernel
theorem dX2_needRoom_5 : decode cX2_needRoom 5 = .ok (.getfield 11, 3) := by decide +kernel
theorem dX2_needRoom_8 : decode cX2_needRoom 8 = .ok (.iload_n 1, 1) := by decide +kernel
theorem dX2_needRoom_9 : decode cX2_needRoom 9 = .ok (.aaload, 1) := by decide +kernel
theorem dX2_needRoom_10 : decode cX2_needRoom 10 = .ok (.getfield 207, 3) := by decide +kernel
theorem dX2_needRoom_13 : decode cX2_needRoom 13 = .ok (.aaload, 1) := by decide +kernel
theorem dX2_needRoom_14 : decode cX2_needRoom 14 = .ok (.getfield 50, 3) := by decide +kernel
theorem dX2_needRoom_17 : decode cX2_needRoom 17 = .ok (.iload_n 2, 1) := by decide +kernel
theorem dX2_needRoom_18 : decode cX2_needRoom 18 = .ok (.iadd, 1) := by decide +kernel
theorem dX2_needRoom_19 : decode cX2_needRoom 19 = .ok (.bipush 12, 2) := by decide +kernel
theorem dX2_needRoom_21 : decode cX2_needRoom 21 = .ok (.if_icmp .le 14, 3) := by decide +kernel
theorem dX2_needRoom_24 : decode cX2_needRoom 24 = .ok (.new 147, 3) := by decide +kernel
theorem dX2_needRoom_27 : decode cX2_needRoom 27 = .ok (.dup, 1) := by decide +kernel
