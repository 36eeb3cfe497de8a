theorem dX4_init_7 : decode cX4_init 7 = .ok (.multianewarray 13 2, 4) := by decide +kernel
