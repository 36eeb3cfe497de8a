theorem chO_at {f hf : Nat → Nat → Nat} {w d k : Nat} : chO f hf w d k 9 k = hf 9 k := by
  unfold chO
  rw [if_neg (by omega)]
theorem chO_le {f hf : Nat → Nat → Nat} {w d k i : Nat} (h : hf 9 i ≤ 1) : chO f hf w d k 9 i ≤ 1 := by
  unfold chO
  split <;> omega
theorem lyT_step2 {f hf : Nat → Nat → Nat} {w x c o z : Nat} (h : CInv f) (h4 : 4 ≤ x) (hx : x < 8) (h5 : f 5 x = 1) (hh : hol f x w ≠ 0) (e : hf 4 x = z) : up2 (lyT f hf w x c o) 4 x (z + c - o) = lyT f hf w (f 2 x) c o := by
  subst e
  exact lyT_step h h4 hx h5 hh
