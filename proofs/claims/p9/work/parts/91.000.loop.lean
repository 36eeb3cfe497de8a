/-! THE LAW'S LOOP -/
theorem dL_law_27 : decode cL_law 27 = .ok (.iload 4, 2) := dqo_21 4 (kb_0 27 rfl) (kb_0 28 rfl)
theorem dL_law_29 : decode cL_law 29 = .ok (.aload_n 0, 1) := dqo_42 (kb_0 29 rfl)
theorem dL_law_30 : decode cL_law 30 = .ok (.arraylength, 1) := by decide +kernel
theorem dL_law_31 : decode cL_law 31 = .ok (.iconst 5, 1) := dqo_8 (kb_0 31 rfl)
theorem dL_law_32 : decode cL_law 32 = .ok (.isub, 1) := by decide +kernel
theorem dL_law_33 : decode cL_law 33 = .ok (.if_icmp .gt 2101, 3) := by decide +kernel
theorem dL_law_36 : decode cL_law 36 = .ok (.aload_n 0, 1) := dqo_42 (kb_0 36 rfl)
theorem dL_law_37 : decode cL_law 37 = .ok (.iload 4, 2) := dqo_21 4 (kb_0 37 rfl) (kb_0 38 rfl)
theorem dL_law_39 : decode cL_law 39 = .ok (.iaload, 1) := dqo_46 (kb_0 39 rfl)
theorem dL_law_40 : decode cL_law 40 = .ok (.bipush 63, 2) := by decide +kernel
theorem dL_law_42 : decode cL_law 42 = .ok (.iand, 1) := by decide +kernel
