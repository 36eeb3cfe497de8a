/-! THE CLASS'S CALL BESIDE THE MODEL'S, SECOND -/
theorem P_riffle {l : Launch} {D : va_G} {cy : Nat → ClassId} {X : (Nat → Prop) → State → Heap → Prop} {a : Nat → Nat → Nat} {ba ra : Nat → Nat} {f : Nat → Nat → Nat} {r : Nat → Nat → Int32} {hf : Nat → Nat → Nat} {hq : Nat → Nat → Int32} {kn th : Int32} {sm : Int64} (hX : EnvM X cy) (hl : l.stackTraces = false) (hC : CInv f) (hB : RB r) (hM : MR f r hf hq) (x0 : Int32) : PR l D cy X a ba ra f r hf hq kn th sm yX2_riffle cX2_riffle 2 (some .int) yX4_riffle cX4_riffle 5 (some .int) (rmk 9 4 48 420) [.int x0] [("java/lang/IndexOutOfBoundsException", 1)] := by
  rcases w_dec f x0 with hno | ⟨w, hw, h5w, rfl⟩
  · exact PR.ex (fun _ => C_riffle_noW hX.1 hl hC hno) (fun _ => D_riffle_noW hX hC hM hno) (by simp)
  have W := hM.wh hC hw h5w
  have sp := hC.sp
  rcases Nat.lt_or_ge 1 (f 4 w) with hz | hz
  · have hI : ∀ i k, i < 4 → k < f 4 i → wrR hq (f 1 w) (f 3 w) (hf 4 w) (cutF (fun t => (cutF (fun z => hq (f 1 w) (f 3 w + z)) (hf 4 w)) (layN (hf 4 w) t)) (hf 4 w)) i k = (scS (cpy2 r (f 0 w) (f 3 w) (f 0 8) (f 3 8) (f 4 w)) (f 0 w) (f 3 w) (f 4 w) (fun t => t) (fun q => r (f 0 w) (f 3 w + layN (f 4 w) q))) i k := itm_str hC hM hw h5w W.1 (fun j hj hne => funext fun q => (scS_off (by omega)).trans (cpy2_off (by omega))) (fun t ht => by
    refine (show (scS (cpy2 r (f 0 w) (f 3 w) (f 0 8) (f 3 8) (f 4 w)) (f 0 w) (f 3 w) (f 4 w) (fun t => t) (fun q => r (f 0 w) (f 3 w + layN (f 4 w) q))) (f 1 w) (f 3 w + t) = (scS (cpy2 r (f 0 w) (f 3 w) (f 0 8) (f 3 8) (f 4 w)) (f 0 w) (f 3 w) (f 4 w) (fun t => t) (fun q => r (f 0 w) (f 3 w + layN (f 4 w) q))) (f 0 w) (f 3 w + t) by rw [W.2.2.2.2.2.1]).trans ?_
    rw [scS_at ht, cutF_at (by omega)]
    exact ((MR.ct hC hM hw h5w (k := layN (hf 4 w) t) (by rw [W.1]; exact layN_lt ht)).trans (by rw [W.1])).symm) (fun k hk => (by rw [← W.2.2.2.2.2.1]; exact (if_neg (fun z => by omega)).trans (cpy2_off (by omega))))
    refine PR.ok (fun _ => C_riffle_ok hX.1 hC hw h5w hz) (fun _ => D_riffle_ok hX hC hM hw h5w hz) ?_ ?_ ?_ ?_
    · exact seF_keep hC hw h5w (by omega)
    · exact (hB.cpy _ _ _ _ _).sc _ _ _ _ (fun q => hB _ _)
    · exact MR_itmS8 hC hM hI
    · rw [up2_i _ _ _ _ (show w ≠ 8 by omega), W.1]
  · have hI : ∀ i k, i < 4 → k < f 4 i → wrR hq (f 1 w) (f 3 w) (hf 4 w) (cutF (fun t => (cutF (fun z => hq (f 1 w) (f 3 w + z)) (hf 4 w)) (layN (hf 4 w) t)) (hf 4 w)) i k = (r) i k := itm_str hC hM hw h5w W.1 (fun j hj hne => rfl) (fun t ht => by
      obtain rfl : t = 0 := by omega
      rw [cutF_at (by omega), show layN (hf 4 w) 0 = 0 from rfl, MR.ct hC hM hw h5w ht, W.2.2.2.2.2.1]) (fun k hk => rfl)
    refine PR.ok (fun _ => C_riffle_1 hX.1 hC hw h5w hz) (fun _ => D_riffle_1 hX hC hM hw h5w hz) ?_ ?_ ?_ ?_
    · exact hC
    · exact hB
    · exact MR_itm hM (fun _ _ _ => rfl) hI
    · exact congrArg nI W.1
theorem P_unriffle {l : Launch} {D : va_G} {cy : Nat → ClassId} {X : (Nat → Prop) → State → Heap → Prop} {a : Nat → Nat → Nat} {ba ra : Nat → Nat} {f : Nat → Nat → Nat} {r : Nat → Nat → Int32} {hf : Nat → Nat → Nat} {hq : Nat → Nat → Int32} {kn th : Int32} {sm : Int64} (hX : EnvM X cy) (hl : l.stackTraces = false) (hC : CInv f) (hB : RB r) (hM : MR f r hf hq) (x0 : Int32) : PR l D cy X a ba ra f r hf hq kn th sm yX2_unriffle cX2_unriffle 2 (some .int) yX4_unriffle cX4_unriffle 5 (some .int) (rmk 9 4 48 420) [.int x0] [("java/lang/IndexOutOfBoundsException", 1)] := by
  rcases w_dec f x0 with hno | ⟨w, hw, h5w, rfl⟩
  · exact PR.ex (fun _ => C_unriffle_noW hX.1 hl hC hno) (fun _ => D_unriffle_noW hX hC hM hno) (by simp)
  have W := hM.wh hC hw h5w
  have sp := hC.sp
  rcases Nat.lt_or_ge 1 (f 4 w) with hz | hz
  · have hI : ∀ i k, i < 4 → k < f 4 i → wrR hq (f 1 w) (f 3 w) (hf 4 w) (scA (unlN (hf 4 w)) (cutF (fun z => hq (f 1 w) (f 3 w + z)) (hf 4 w)) (hf 4 w) (hf 4 w)) i k = (scS (cpy2 r (f 0 w) (f 3 w) (f 0 8) (f 3 8) (f 4 w)) (f 0 w) (f 3 w) (f 4 w) (unlN (f 4 w)) (fun q => r (f 0 w) (f 3 w + q))) i k := itm_str hC hM hw h5w W.1 (fun j hj hne => funext fun q => (scS_off (by omega)).trans (cpy2_off (by omega))) (fun t ht => by
      refine (show (scS (cpy2 r (f 0 w) (f 3 w) (f 0 8) (f 3 8) (f 4 w)) (f 0 w) (f 3 w) (f 4 w) (unlN (f 4 w)) (fun q => r (f 0 w) (f 3 w + q))) (f 1 w) (f 3 w + t) = (scS (cpy2 r (f 0 w) (f 3 w) (f 0 8) (f 3 8) (f 4 w)) (f 0 w) (f 3 w) (f 4 w) (unlN (f 4 w)) (fun q => r (f 0 w) (f 3 w + q))) (f 0 w) (f 3 w + t) by rw [W.2.2.2.2.2.1]).trans ?_
      rw [scS_at ht, scA_end (fun j hj => unlN_lt hj), cutF_at (by omega)]
      exact ((MR.ct hC hM hw h5w (k := unlN (hf 4 w) t) (by rw [W.1]; exact unlN_lt ht)).trans (by rw [W.1])).symm) (fun k hk => (by rw [← W.2.2.2.2.2.1]; exact (if_neg (fun z => by omega)).trans (cpy2_off (by omega))))
    refine PR.ok (fun _ => C_unriffle_ok hX.1 hC hw h5w hz) (fun _ => D_unriffle_ok hX hC hM hw h5w hz) ?_ ?_ ?_ ?_
    · exact seF_keep hC hw h5w (by omega)
    · exact (hB.cpy _ _ _ _ _).sc _ _ _ _ (fun q => hB _ _)
    · exact MR_itmS8 hC hM hI
    · rw [up2_i _ _ _ _ (show w ≠ 8 by omega), W.1]
  · have hI : ∀ i k, i < 4 → k < f 4 i → wrR hq (f 1 w) (f 3 w) (hf 4 w) (scA (unlN (hf 4 w)) (cutF (fun z => hq (f 1 w) (f 3 w + z)) (hf 4 w)) (hf 4 w) (hf 4 w)) i k = (r) i k := itm_str hC hM hw h5w W.1 (fun j hj hne => rfl) (fun t ht => by
      obtain rfl : t = 0 := by omega
      rw [scA_end (fun j hj => unlN_lt hj), cutF_at (by omega), show unlN (hf 4 w) 0 = 0 by unfold unlN; rw [if_pos (by omega)], MR.ct hC hM hw h5w ht, W.2.2.2.2.2.1]) (fun k hk => rfl)
    refine PR.ok (fun _ => C_unriffle_1 hX.1 hC hw h5w hz) (fun _ => D_unriffle_1 hX hC hM hw h5w hz) ?_ ?_ ?_ ?_
    · exact hC
    · exact hB
    · exact MR_itm hM (fun _ _ _ => rfl) hI
    · exact congrArg nI W.1
theorem P_sort {l : Launch} {D : va_G} {cy : Nat → ClassId} {X : (Nat → Prop) → State → Heap → Prop} {a : Nat → Nat → Nat} {ba ra : Nat → Nat} {f : Nat → Nat → Nat} {r : Nat → Nat → Int32} {hf : Nat → Nat → Nat} {hq : Nat → Nat → Int32} {kn th : Int32} {sm : Int64} (hX : EnvM X cy) (hl : l.stackTraces = false) (hC : CInv f) (hB : RB r) (hM : MR f r hf hq) (x0 : Int32) : PR l D cy X a ba ra f r hf hq kn th sm yX2_sort cX2_sort 2 (some .int) yX4_sort cX4_sort 2 (some .int) (rmk 9 4 48 420) [.int x0] [("java/lang/IndexOutOfBoundsException", 1)] := by
  rcases w_dec f x0 with hno | ⟨w, hw, h5w, rfl⟩
  · exact PR.ex (fun _ => C_sort_noW hX.1 hl hC hno) (fun _ => D_sort_noW hX hC hM hno) (by simp)
  have W := hM.wh hC hw h5w
  have hh : ∀ {R HQ : Nat → Nat → Int32}, (∀ i k, i < 4 → k < f 4 i → HQ i k = R i k) → 0 < f 4 w → HQ (f 1 w) (f 3 w) = R (f 0 w) (f 3 w) := fun h h0 => by
    rw [W.2.2.2.2.2.1]
    exact h _ _ W.2.2.1 (by omega)
  have hA0 := MR.ib hC hM hB hw h5w
  have so := so_lk (j := f 0 w) (lo := f 3 w) (b := 3) (n := f 4 w) (f 4 w - 1) 1 r (cutF (fun z => hq (f 1 w) (f 3 w + z)) (hf 4 w)) (by omega) (fun t ht => (MR.ct hC hM hw h5w ht).symm)
  have hI : ∀ i k, i < 4 → k < f 4 i → wrR hq (f 1 w) (f 3 w) (hf 4 w) (soA 3 (hf 4 w - 1) 1 (cutF (fun z => hq (f 1 w) (f 3 w + z)) (hf 4 w))) i k = (srF (f 0 w) (f 3 w) 3 (f 4 w - 1) 1 r) i k := itm_str hC hM hw h5w W.1 (fun j hj hne => so.2.1 j (by omega)) (fun t ht => by
    refine (show (srF (f 0 w) (f 3 w) 3 (f 4 w - 1) 1 r) (f 1 w) (f 3 w + t) = (srF (f 0 w) (f 3 w) 3 (f 4 w - 1) 1 r) (f 0 w) (f 3 w + t) by rw [W.2.2.2.2.2.1]).trans ?_
    rw [so.1 t ht, W.1]) (fun k hk => by
    rw [← W.2.2.2.2.2.1]
    exact so.2.2 k hk)
  rcases Nat.eq_zero_or_pos (f 4 w) with hz | hz
  · refine PR.ok (fun _ => C_sort_ok hX.1 hC hw h5w) (fun _ => D_sort_0 hX hC hM hw h5w hA0 hz) ?_ ?_ ?_ ?_
    · exact soF_keep hC hw h5w
    · exact RB.sr _ _ _ _ _ hB
    · exact MR_itmS hC hM hI
    · rw [if_pos hz]
  refine PR.ok (fun _ => C_sort_ok hX.1 hC hw h5w) (fun _ => D_sort_ok hX hC hM hw h5w hA0 hz) ?_ ?_ ?_ ?_
  · exact soF_keep hC hw h5w
  · exact RB.sr _ _ _ _ _ hB
  · exact MR_itmS hC hM hI
  · rw [if_neg (by omega)]
    exact hh hI hz
theorem P_sortBy {l : Launch} {D : va_G} {cy : Nat → ClassId} {X : (Nat → Prop) → State → Heap → Prop} {a : Nat → Nat → Nat} {ba ra : Nat → Nat} {f : Nat → Nat → Nat} {r : Nat → Nat → Int32} {hf : Nat → Nat → Nat} {hq : Nat → Nat → Int32} {kn th : Int32} {sm : Int64} (hX : EnvM X cy) (hl : l.stackTraces = false) (hC : CInv f) (hB : RB r) (hM : MR f r hf hq) (x0 x1 : Int32) : PR l D cy X a ba ra f r hf hq kn th sm yX2_sortBy cX2_sortBy 3 (some .int) yX4_sortBy cX4_sortBy 3 (some .int) (rmk 9 4 48 420) [.int x0, .int x1] [("java/lang/IndexOutOfBoundsException", 1), ("java/lang/IllegalArgumentException", 2)] := by
  rcases w_dec f x0 with hno | ⟨w, hw, h5w, rfl⟩
  · exact PR.ex (fun _ => C_sortBy_noW hX.1 hl hC hno) (fun _ => D_sortBy_noW hX hC hM hno) (by simp)
  have W := hM.wh hC hw h5w
  have hh : ∀ {R HQ : Nat → Nat → Int32}, (∀ i k, i < 4 → k < f 4 i → HQ i k = R i k) → 0 < f 4 w → HQ (f 1 w) (f 3 w) = R (f 0 w) (f 3 w) := fun h h0 => by
    rw [W.2.2.2.2.2.1]
    exact h _ _ W.2.2.1 (by omega)
  have hA0 := MR.ib hC hM hB hw h5w
  rcases l_dec (n := 2) (by omega) x1 with hno | ⟨b0, hb, rfl⟩
  · exact PR.ex (fun _ => C_sortBy_noB hX.1 hl hC hw h5w hno) (fun _ => D_sortBy_noB hX hC hM hw h5w hno) (by simp)
  have so := so_lk (j := f 0 w) (lo := f 3 w) (b := b0) (n := f 4 w) (f 4 w - 1) 1 r (cutF (fun z => hq (f 1 w) (f 3 w + z)) (hf 4 w)) (by omega) (fun t ht => (MR.ct hC hM hw h5w ht).symm)
  have hI : ∀ i k, i < 4 → k < f 4 i → wrR hq (f 1 w) (f 3 w) (hf 4 w) (soA b0 (hf 4 w - 1) 1 (cutF (fun z => hq (f 1 w) (f 3 w + z)) (hf 4 w))) i k = (srF (f 0 w) (f 3 w) b0 (f 4 w - 1) 1 r) i k := itm_str hC hM hw h5w W.1 (fun j hj hne => so.2.1 j (by omega)) (fun t ht => by
    refine (show (srF (f 0 w) (f 3 w) b0 (f 4 w - 1) 1 r) (f 1 w) (f 3 w + t) = (srF (f 0 w) (f 3 w) b0 (f 4 w - 1) 1 r) (f 0 w) (f 3 w + t) by rw [W.2.2.2.2.2.1]).trans ?_
    rw [so.1 t ht, W.1]) (fun k hk => by
    rw [← W.2.2.2.2.2.1]
    exact so.2.2 k hk)
  rcases Nat.eq_zero_or_pos (f 4 w) with hz | hz
  · refine PR.ok (fun _ => C_sortBy_ok hX.1 hC hw h5w hb) (fun _ => D_sortBy_0 hX hC hM hw h5w hb hA0 hz) ?_ ?_ ?_ ?_
    · exact soF_keep hC hw h5w
    · exact RB.sr _ _ _ _ _ hB
    · exact MR_itmS hC hM hI
    · rw [if_pos hz]
  refine PR.ok (fun _ => C_sortBy_ok hX.1 hC hw h5w hb) (fun _ => D_sortBy_ok hX hC hM hw h5w hb hA0 hz) ?_ ?_ ?_ ?_
  · exact soF_keep hC hw h5w
  · exact RB.sr _ _ _ _ _ hB
  · exact MR_itmS hC hM hI
  · rw [if_neg (by omega)]
    exact hh hI hz
theorem P_get {l : Launch} {D : va_G} {cy : Nat → ClassId} {X : (Nat → Prop) → State → Heap → Prop} {a : Nat → Nat → Nat} {ba ra : Nat → Nat} {f : Nat → Nat → Nat} {r : Nat → Nat → Int32} {hf : Nat → Nat → Nat} {hq : Nat → Nat → Int32} {kn th : Int32} {sm : Int64} (hX : EnvM X cy) (hl : l.stackTraces = false) (hC : CInv f) (hB : RB r) (hM : MR f r hf hq) (x0 x1 : Int32) : PR l D cy X a ba ra f r hf hq kn th sm yX2_get cX2_get 3 (some .int) yX4_get cX4_get 3 (some .int) (rmk 9 4 48 420) [.int x0, .int x1] [("java/lang/IndexOutOfBoundsException", 1)] := by
  rcases w_dec f x0 with hno | ⟨w, hw, h5w, rfl⟩
  · exact PR.ex (fun _ => C_get_noW hX.1 hl hC hno) (fun _ => D_get_noW hX hC hM hno) (by simp)
  rcases n_dec (n := f 4 w) (by have := (hM.wh hC hw h5w); omega) x1 with hno | ⟨k0, hk, rfl⟩
  · exact PR.ex (fun _ => C_get_noP hX.1 hl hC hw h5w hno) (fun _ => D_get_noP hX hC hM hw h5w hno) (by simp)
  refine PR.ok (fun _ => C_get_ok hX.1 hC hw h5w hk) (fun _ => D_get_ok hX hC hM hw h5w hk) ?_ ?_ ?_ ?_
  · exact hC
  · exact hB
  · exact hM
  · exact hM.it hC hw h5w hk
theorem P_size {l : Launch} {D : va_G} {cy : Nat → ClassId} {X : (Nat → Prop) → State → Heap → Prop} {a : Nat → Nat → Nat} {ba ra : Nat → Nat} {f : Nat → Nat → Nat} {r : Nat → Nat → Int32} {hf : Nat → Nat → Nat} {hq : Nat → Nat → Int32} {kn th : Int32} {sm : Int64} (hX : EnvM X cy) (hl : l.stackTraces = false) (hC : CInv f) (hB : RB r) (hM : MR f r hf hq) (x0 : Int32) : PR l D cy X a ba ra f r hf hq kn th sm yX2_size cX2_size 2 (some .int) yX4_size cX4_size 2 (some .int) (rmk 9 4 48 420) [.int x0] [("java/lang/IndexOutOfBoundsException", 1)] := by
  rcases w_dec f x0 with hno | ⟨w, hw, h5w, rfl⟩
  · exact PR.ex (fun _ => C_size_noW hX.1 hl hC hno) (fun _ => D_size_noW hX hC hM hno) (by simp)
  refine PR.ok (fun _ => C_size_ok hX.1 hC hw h5w) (fun _ => D_size_ok hX hC hM hw h5w) ?_ ?_ ?_ ?_
  · exact hC
  · exact hB
  · exact hM
  · exact congrArg nI (hM.wh hC hw h5w).1
theorem P_partAt {l : Launch} {D : va_G} {cy : Nat → ClassId} {X : (Nat → Prop) → State → Heap → Prop} {a : Nat → Nat → Nat} {ba ra : Nat → Nat} {f : Nat → Nat → Nat} {r : Nat → Nat → Int32} {hf : Nat → Nat → Nat} {hq : Nat → Nat → Int32} {kn th : Int32} {sm : Int64} (hX : EnvM X cy) (hl : l.stackTraces = false) (hC : CInv f) (hB : RB r) (hM : MR f r hf hq) (x0 x1 : Int32) : PR l D cy X a ba ra f r hf hq kn th sm yX2_partAt cX2_partAt 3 (some .int) yX4_partAt cX4_partAt 3 (some .int) (rmk 9 4 48 420) [.int x0, .int x1] [("java/lang/IndexOutOfBoundsException", 1)] := by
  rcases w_dec f x0 with hno | ⟨w, hw, h5w, rfl⟩
  · exact PR.ex (fun _ => C_partAt_noW hX.1 hl hC hno) (fun _ => D_partAt_noW hX hC hM hno) (by simp)
  have W := hM.wh hC hw h5w
  rcases w_dec f x1 with hno | ⟨v, hv, h5v, rfl⟩
  · exact PR.ex (fun _ => C_partAt_noW2 hX.1 hl hC hw h5w hno) (fun _ => D_partAt_noW2 hX hC hM hw h5w hno) (by simp)
  have V := hM.wh hC hv h5v
  refine PR.ok (fun _ => C_partAt_ok hX.1 hC hw h5w hv h5v) (fun _ => D_partAt_ok hX hC hM hw h5w hv h5v) ?_ ?_ ?_ ?_
  · exact hC
  · exact hB
  · exact hM
  · rw [W.1, V.1, ← W.1, ← V.1]
    refine congrArg nI (poF_same _ _ (fun k _ hk => stF_same _ _ (fun q _ hqk => ⟨?_, ?_⟩)))
    · exact MR.ct hC hM hw h5w (by omega)
    · exact MR.ct hC hM hv h5v (by omega)
theorem P_fill {l : Launch} {D : va_G} {cy : Nat → ClassId} {X : (Nat → Prop) → State → Heap → Prop} {a : Nat → Nat → Nat} {ba ra : Nat → Nat} {f : Nat → Nat → Nat} {r : Nat → Nat → Int32} {hf : Nat → Nat → Nat} {hq : Nat → Nat → Int32} {kn th : Int32} {sm : Int64} (hX : EnvM X cy) (hl : l.stackTraces = false) (hC : CInv f) (hB : RB r) (hM : MR f r hf hq) (x0 x1 : Int32) : PR l D cy X a ba ra f r hf hq kn th sm yX2_fill cX2_fill 4 (some .int) yX4_fill cX4_fill 4 (some .int) (rmk 9 4 48 420) [.int x0, .int x1] [("java/lang/IndexOutOfBoundsException", 1), ("java/lang/IllegalArgumentException", 2)] := by
  rcases n_dec (n := 4) (by omega) x0 with hno | ⟨i, hi4, rfl⟩
  · exact PR.ex (fun _ => C_fill_noR hX.1 hl hC hno) (fun _ => D_fill_noR hX hC hM hno) (by simp)
  have q := hC.rw hi4
  have hw : i < 8 := by omega
  have W := hM.wh hC hw q.2.2.2.2.2
  by_cases ho : okI x1
  · have hI := itm_str (R := flR r (f 0 i) (f 3 i) (f 4 i) x1) (g := fun _ => x1) hC hM hw q.2.2.2.2.2 W.1 (fun j hj hne => funext fun k => if_neg (fun z => by omega)) (fun t ht => by
      rw [← W.2.2.2.2.2.1]
      exact if_pos ⟨rfl, by omega, by omega⟩) (fun k hk => by
      rw [← W.2.2.2.2.2.1]
      exact if_neg (fun z => by omega))
    rw [q.2.1, q.2.2.2.1] at hI
    refine PR.ok (fun _ => C_fill_ok hX.1 hC hi4 ho) (fun _ => D_fill_ok hX hC hM hi4 ho) ?_ ?_ ?_ ?_
    · exact hC
    · exact hB.fl _ _ _ (IB.ok ho)
    · exact MR_itm hM (fun _ _ _ => rfl) (by rw [q.2.2.2.1]; exact hI)
    · exact congrArg nI W.1
  · exact PR.ex (fun _ => C_fill_noI hX.1 hl hC hi4 ho) (fun _ => D_fill_noI hX hC hM hi4 ho) (by simp)
theorem P_removeItem {l : Launch} {D : va_G} {cy : Nat → ClassId} {X : (Nat → Prop) → State → Heap → Prop} {a : Nat → Nat → Nat} {ba ra : Nat → Nat} {f : Nat → Nat → Nat} {r : Nat → Nat → Int32} {hf : Nat → Nat → Nat} {hq : Nat → Nat → Int32} {kn th : Int32} {sm : Int64} (hX : EnvM X cy) (hl : l.stackTraces = false) (hC : CInv f) (hB : RB r) (hM : MR f r hf hq) (x0 x1 : Int32) : PR l D cy X a ba ra f r hf hq kn th sm yX2_removeItem cX2_removeItem 4 (some .int) yX4_removeItem cX4_removeItem 4 (some .int) (rmk 9 4 48 420) [.int x0, .int x1] [("java/lang/IndexOutOfBoundsException", 1)] := by
  rcases n_dec (n := 4) (by omega) x0 with hno | ⟨i, hi4, rfl⟩
  · exact PR.ex (fun _ => C_removeItem_noR hX.1 hl hC hno) (fun _ => D_removeItem_noR hX hC hM hno) (by simp)
  have q := hC.rw hi4
  have hw : i < 8 := by omega
  have h5w := q.2.2.2.2.2
  have W := hM.wh hC hw h5w
  have e := hM.fp hC hi4 x1
  by_cases hz : fpF (fun q => r (f 0 i) (f 3 i + q)) x1 (f 4 i) 0 = 4294967295
  · refine PR.ok (fun _ => C_removeItem_0 hX.1 hC hi4 hz) (fun _ => D_removeItem_0 hX hC hM hi4 (e.symm.trans hz)) ?_ ?_ ?_ ?_
    · exact hC
    · exact hB
    · exact hM
    · rfl
  have hk : fpF (fun q => r (f 0 i) (f 3 i + q)) x1 (f 4 i) 0 < f 4 i := by
    rcases fpF_or (fun q => r (f 0 i) (f 3 i + q)) x1 (f 4 i) 0 with h | h
    · exact absurd h hz
    · omega
  refine PR.okR (fun _ => C_removeItem_ok hX.1 hC hi4 hz) (fun _ => D_removeItem_ok hX hC hM hi4 (by omega)) ?_ ?_ ?_ ?_
  · exact chF_keep hC hw h5w (by omega) (by omega) (by rw [q.2.1]; omega) rfl
  · exact hB.ex _ _ _ _
  · exact MR_lay (p := fpF (fun q => r (f 0 i) (f 3 i + q)) x1 (f 4 i) 0) (q := fpF (fun q => r (f 0 i) (f 3 i + q)) x1 (f 4 i) 0 + 1) (c := 0) hC hM hw h5w (by omega) (by omega) rfl (by omega) rfl e.symm (by rw [ch4]; omega) (fun _ _ => rfl) (fun j hj => absurd hj (Nat.not_lt_zero _))
  · rfl
theorem P_addAll {l : Launch} {D : va_G} {cy : Nat → ClassId} {X : (Nat → Prop) → State → Heap → Prop} {a : Nat → Nat → Nat} {ba ra : Nat → Nat} {f : Nat → Nat → Nat} {r : Nat → Nat → Int32} {hf : Nat → Nat → Nat} {hq : Nat → Nat → Int32} {kn th : Int32} {sm : Int64} (hX : EnvM X cy) (hl : l.stackTraces = false) (hC : CInv f) (hB : RB r) (hM : MR f r hf hq) (x0 x1 x2 : Int32) : PR l D cy X a ba ra f r hf hq kn th sm yX2_addAll cX2_addAll 5 (some .int) yX4_addAll cX4_addAll 5 (some .int) (rmk 9 4 48 420) [.int x0, .int x1, .int x2] [("java/lang/IndexOutOfBoundsException", 1), ("java/lang/IllegalStateException", 2)] := by
  rcases n_dec (n := 4) (by omega) x0 with hno | ⟨i, hi4, rfl⟩
  · exact PR.ex (fun _ => C_addAll_noR hX.1 hl hC hno) (fun _ => D_addAll_noR hX hC hM hno) (by simp)
  have q := hC.rw hi4
  have hw : i < 8 := by omega
  have h5w := q.2.2.2.2.2
  have W := hM.wh hC hw h5w
  rcases n_dec (n := 4) (by omega) x2 with hno | ⟨j, hj4, rfl⟩
  · exact PR.ex (fun _ => C_addAll_noR2 hX.1 hl hC hi4 hno) (fun _ => D_addAll_noR2 hX hC hM hi4 hno) (by simp)
  have q2 := hC.rw hj4
  have hv : j < 8 := by omega
  have h5v := q2.2.2.2.2.2
  have V := hM.wh hC hv h5v
  rcases Nat.lt_or_ge 12 (f 4 (f 1 i) + f 4 j) with hfull | hfit
  · have hfull2 : 12 < f 4 i + f 4 j := by
      have h := hfull
      rw [q.2.1] at h
      exact h
    exact PR.ex (fun _ => C_addAll_full hX.1 hl hC hi4 hj4 hfull) (fun _ => D_addAll_full hX hC hM hi4 hj4 hfull2) (by simp)
  have hfit2 : f 4 i + f 4 j ≤ 12 := by
    have h := hfit
    rw [q.2.1] at h
    exact h
  rcases Nat.eq_zero_or_pos (f 4 j) with hz | hz
  · refine PR.ok (fun _ => C_addAll_0 hX.1 hC hi4 hj4 hz) (fun _ => D_addAll_0 hX hC hM hi4 hj4 hfit2 hz) ?_ ?_ ?_ ?_
    · exact hC
    · exact hB
    · exact hM
    · exact congrArg nI W.1
  rcases l_dec (n := f 4 i) (by omega) x1 with hno | ⟨k0, hk, rfl⟩
  · refine PR.ok (fun _ => C_addAll_ref hX.1 hC hi4 hj4 hz hfit hno) (fun _ => D_addAll_ref hX hC hM hi4 hj4 hfit2 hz hno) ?_ ?_ ?_ ?_
    · exact hC
    · exact hB
    · exact hM
    · rfl
  have c1 : CInv (settleF (exL (up2 f 4 8 (f 4 j)) i (f 4 j) (k0 - k0) 8) i 4294967295) := chF_keep hC hw h5w (by omega) (by omega) (by omega) rfl
  have m1 := MR_lay (d := 4294967295) (c := f 4 j) (g := k0 - k0) (p := k0) (q := k0) (r1 := cpy2 r (f 0 j) (f 3 j) (f 0 8) (f 3 8) (f 4 j)) (ins := cutF (fun z => hq (f 1 j) (f 3 j + z)) (hf 4 j)) hC hM hw h5w (Nat.le_refl _) hk rfl (g2 := 0) (Nat.sub_self _).symm (c2 := hf 4 j) V.1 (p2 := k0) rfl (n := chM f hf i 4294967295 4 (f 1 i) - 0 + hf 4 j) (by rw [ch4]; omega) (fun i hi => cpy_row (by have := hC.sp; omega)) (fun t ht => by
    have sp := hC.sp
    rw [MR.ct hC hM hv h5v ht, cpy2_me, if_pos (by omega), show t - f 3 8 = t by omega])
  refine PR.okR (fun _ => C_addAll_ok hX.1 hC hi4 hj4 hz hfit hk) (fun _ => D_addAll_ok hX hC hM hi4 hj4 hfit2 hz hk) ?_ ?_ ?_ ?_
  · rw [up2_eq]
    exact c1
  · exact (hB.cpy _ _ _ _ _).ex _ _ _ _
  · rw [up2_eq]
    exact m1
  · rw [up2_eq]
    exact congrArg nI (ch_ans c1 m1 hw h5w)
