theorem nwk_on {w : Cond} (h : nwk w = true) : w.onTables = true := by
  cases w <;> first | rfl | (simp [nwk] at h)
theorem pvk_on {w : Cond} (h : pvk w = true) : w.onTables = true := by
  cases w <;> first | rfl | (simp [pvk] at h)
