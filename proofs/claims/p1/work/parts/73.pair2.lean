/-! THE CLASS'S CALL BESIDE THE MODEL'S, FIRST -/
theorem P_add {l : Launch} {D : va_G} {cy : Nat → ClassId} {X : (Nat → Prop) → State → Heap → Prop} {a : Nat → Nat → Nat} {ba ra : Nat → Nat} {f : Nat → Nat → Nat} {r : Nat → Nat → Int32} {hf : Nat → Nat → Nat} {hq : Nat → Nat → Int32} {kn th : Int32} {sm : Int64} (hX : EnvM X cy) (hl : l.stackTraces = false) (hC : CInv f) (hB : RB r) (hM : MR f r hf hq) (x0 x1 : Int32) : PR l D cy X a ba ra f r hf hq kn th sm yX2_add cX2_add 3 (some .int) yX4_add cX4_add 3 (some .int) (rmk 9 4 48 420) [.int x0, .int x1] [("java/lang/IndexOutOfBoundsException", 1), ("java/lang/IllegalArgumentException", 2), ("java/lang/IllegalStateException", 3)] := by
  rcases w_dec f x0 with hno | ⟨w, hw, h5w, rfl⟩
  · exact PR.ex (fun _ => C_add_noW hX.1 hl hC hno) (fun _ => D_add_noW hX hC hM hno) (by simp)
  have W := hM.wh hC hw h5w
  by_cases ho : okI x1
  · rcases Nat.lt_or_ge (f 4 (f 1 w)) 12 with hroom | hfull
    · have c1 : CInv (settleF (exL (up2 f 4 8 1) w 1 0 8) w 4294967295) := chF_keep hC hw h5w (by omega) (Nat.zero_le _) (by omega) rfl
      have m1 := MR_lay (d := 4294967295) (c := 1) (g := 0) (p := f 4 w) (q := f 4 w) (r1 := up2 r (f 0 8) 0 x1) (ins := upd (fun _ => 0) 0 x1) hC hM hw h5w (Nat.le_refl _) (Nat.le_refl _) (Nat.sub_self _).symm (g2 := 0) (Nat.sub_self _).symm rfl W.1 (n := chM f hf w 4294967295 4 (f 1 w) - 0 + 1) (by rw [ch4]; omega) (fun i hi => up2_row (by have := hC.sp; omega)) (fun j hj => by
        obtain rfl : j = 0 := by omega
        rw [up2_eq]
        rfl)
      refine PR.okR (fun _ => C_add_ok hX.1 hC hw h5w ho hroom) (fun _ => D_add_ok hX hC hM hw h5w ho hroom) ?_ ?_ ?_ ?_
      · exact c1
      · exact (hB.up (IB.ok ho)).ex _ _ _ _
      · exact m1
      · exact congrArg nI ((ch_ans (F := exL (up2 f 4 8 1) w 1 0 8) c1 m1 hw h5w).trans set4.symm)
    · exact PR.ex (fun _ => C_add_full hX.1 hl hC hw h5w ho hfull) (fun _ => D_add_full hX hC hM hw h5w ho hfull) (by simp)
  · exact PR.ex (fun _ => C_add_noI hX.1 hl hC hw h5w ho) (fun _ => D_add_noI hX hC hM hw h5w ho) (by simp)
theorem P_insert {l : Launch} {D : va_G} {cy : Nat → ClassId} {X : (Nat → Prop) → State → Heap → Prop} {a : Nat → Nat → Nat} {ba ra : Nat → Nat} {f : Nat → Nat → Nat} {r : Nat → Nat → Int32} {hf : Nat → Nat → Nat} {hq : Nat → Nat → Int32} {kn th : Int32} {sm : Int64} (hX : EnvM X cy) (hl : l.stackTraces = false) (hC : CInv f) (hB : RB r) (hM : MR f r hf hq) (x0 x1 x2 : Int32) : PR l D cy X a ba ra f r hf hq kn th sm yX2_insert cX2_insert 4 (some .int) yX4_insert cX4_insert 4 (some .int) (rmk 9 4 48 420) [.int x0, .int x1, .int x2] [("java/lang/IndexOutOfBoundsException", 1), ("java/lang/IllegalArgumentException", 2), ("java/lang/IllegalStateException", 3)] := by
  rcases w_dec f x0 with hno | ⟨w, hw, h5w, rfl⟩
  · exact PR.ex (fun _ => C_insert_noW hX.1 hl hC hno) (fun _ => D_insert_noW hX hC hM hno) (by simp)
  have W := hM.wh hC hw h5w
  by_cases ho : okI x2
  · rcases Nat.lt_or_ge (f 4 (f 1 w)) 12 with hroom | hfull
    · rcases l_dec (n := f 4 w) (by omega) x1 with hno | ⟨k0, hk, rfl⟩
      · refine PR.ok (fun _ => C_insert_ref hX.1 hC hw h5w ho hroom hno) (fun _ => D_insert_ref hX hC hM hw h5w ho hroom hno) ?_ ?_ ?_ ?_
        · exact hC
        · exact hB
        · exact hM
        · rfl
      have c1 : CInv (settleF (exL (up2 f 4 8 1) w 1 0 8) w 4294967295) := chF_keep hC hw h5w (by omega) (Nat.zero_le _) (by omega) rfl
      have m1 := MR_lay (d := 4294967295) (c := 1) (g := 0) (p := k0) (q := k0) (r1 := up2 r (f 0 8) 0 x2) (ins := upd (fun _ => 0) 0 x2) hC hM hw h5w (Nat.le_refl _) hk (Nat.sub_self _).symm (g2 := 0) (Nat.sub_self _).symm rfl rfl (n := chM f hf w 4294967295 4 (f 1 w) - 0 + 1) (by rw [ch4]; omega) (fun i hi => up2_row (by have := hC.sp; omega)) (fun j hj => by
        obtain rfl : j = 0 := by omega
        rw [up2_eq]
        rfl)
      refine PR.okR (fun _ => C_insert_ok hX.1 hC hw h5w ho hroom hk) (fun _ => D_insert_ok hX hC hM hw h5w ho hroom hk) ?_ ?_ ?_ ?_
      · exact c1
      · exact (hB.up (IB.ok ho)).ex _ _ _ _
      · exact m1
      · exact congrArg nI (ch_ans c1 m1 hw h5w)
    · exact PR.ex (fun _ => C_insert_full hX.1 hl hC hw h5w ho hfull) (fun _ => D_insert_full hX hC hM hw h5w ho hfull) (by simp)
  · exact PR.ex (fun _ => C_insert_noI hX.1 hl hC hw h5w ho) (fun _ => D_insert_noI hX hC hM hw h5w ho) (by simp)
theorem P_set {l : Launch} {D : va_G} {cy : Nat → ClassId} {X : (Nat → Prop) → State → Heap → Prop} {a : Nat → Nat → Nat} {ba ra : Nat → Nat} {f : Nat → Nat → Nat} {r : Nat → Nat → Int32} {hf : Nat → Nat → Nat} {hq : Nat → Nat → Int32} {kn th : Int32} {sm : Int64} (hX : EnvM X cy) (hl : l.stackTraces = false) (hC : CInv f) (hB : RB r) (hM : MR f r hf hq) (x0 x1 x2 : Int32) : PR l D cy X a ba ra f r hf hq kn th sm yX2_set cX2_set 5 (some .int) yX4_set cX4_set 5 (some .int) (rmk 9 4 48 420) [.int x0, .int x1, .int x2] [("java/lang/IndexOutOfBoundsException", 1), ("java/lang/IllegalArgumentException", 2)] := by
  rcases w_dec f x0 with hno | ⟨w, hw, h5w, rfl⟩
  · exact PR.ex (fun _ => C_set_noW hX.1 hl hC hno) (fun _ => D_set_noW hX hC hM hno) (by simp)
  have W := hM.wh hC hw h5w
  rcases n_dec (n := f 4 w) (by omega) x1 with hno | ⟨k0, hk, rfl⟩
  · exact PR.ex (fun _ => C_set_noP hX.1 hl hC hw h5w hno) (fun _ => D_set_noP hX hC hM hw h5w hno) (by simp)
  by_cases ho : okI x2
  · refine PR.ok (fun _ => C_set_ok hX.1 hC hw h5w hk ho) (fun _ => D_set_ok hX hC hM hw h5w hk ho) ?_ ?_ ?_ ?_
    · exact hC
    · exact hB.up (IB.ok ho)
    · exact MR_up hM W.2.2.2.2.2.1
    · exact hM.it hC hw h5w hk
  · exact PR.ex (fun _ => C_set_noI hX.1 hl hC hw h5w hk ho) (fun _ => D_set_noI hX hC hM hw h5w hk ho) (by simp)
theorem P_remove {l : Launch} {D : va_G} {cy : Nat → ClassId} {X : (Nat → Prop) → State → Heap → Prop} {a : Nat → Nat → Nat} {ba ra : Nat → Nat} {f : Nat → Nat → Nat} {r : Nat → Nat → Int32} {hf : Nat → Nat → Nat} {hq : Nat → Nat → Int32} {kn th : Int32} {sm : Int64} (hX : EnvM X cy) (hl : l.stackTraces = false) (hC : CInv f) (hB : RB r) (hM : MR f r hf hq) (x0 x1 : Int32) : PR l D cy X a ba ra f r hf hq kn th sm yX2_remove cX2_remove 4 (some .int) yX4_remove cX4_remove 4 (some .int) (rmk 9 4 48 420) [.int x0, .int x1] [("java/lang/IndexOutOfBoundsException", 1)] := by
  rcases w_dec f x0 with hno | ⟨w, hw, h5w, rfl⟩
  · exact PR.ex (fun _ => C_remove_noW hX.1 hl hC hno) (fun _ => D_remove_noW hX hC hM hno) (by simp)
  have W := hM.wh hC hw h5w
  rcases n_dec (n := f 4 w) (by omega) x1 with hno | ⟨k0, hk, rfl⟩
  · exact PR.ex (fun _ => C_remove_noP hX.1 hl hC hw h5w hno) (fun _ => D_remove_noP hX hC hM hw h5w hno) (by simp)
  refine PR.okR (fun _ => C_remove_ok hX.1 hC hw h5w hk) (fun _ => D_remove_ok hX hC hM hw h5w hk) ?_ ?_ ?_ ?_
  · exact chF_keep hC hw h5w (by omega) (by omega) (by omega) rfl
  · exact hB.ex _ _ _ _
  · exact MR_lay (p := k0) (q := k0 + 1) (c := 0) hC hM hw h5w (by omega) (by omega) rfl (by omega) rfl rfl (by rw [ch4]; omega) (fun _ _ => rfl) (fun j hj => absurd hj (Nat.not_lt_zero _))
  · exact hM.it hC hw h5w hk
theorem P_clear {l : Launch} {D : va_G} {cy : Nat → ClassId} {X : (Nat → Prop) → State → Heap → Prop} {a : Nat → Nat → Nat} {ba ra : Nat → Nat} {f : Nat → Nat → Nat} {r : Nat → Nat → Int32} {hf : Nat → Nat → Nat} {hq : Nat → Nat → Int32} {kn th : Int32} {sm : Int64} (hX : EnvM X cy) (hl : l.stackTraces = false) (hC : CInv f) (hB : RB r) (hM : MR f r hf hq) (x0 : Int32) : PR l D cy X a ba ra f r hf hq kn th sm yX2_clear cX2_clear 3 (some .int) yX4_clear cX4_clear 3 (some .int) (rmk 9 4 48 420) [.int x0] [("java/lang/IndexOutOfBoundsException", 1)] := by
  rcases w_dec f x0 with hno | ⟨w, hw, h5w, rfl⟩
  · exact PR.ex (fun _ => C_clear_noW hX.1 hl hC hno) (fun _ => D_clear_noW hX hC hM hno) (by simp)
  have W := hM.wh hC hw h5w
  rcases Nat.eq_zero_or_pos (f 4 w) with hz | hz
  · refine PR.ok (fun _ => C_clear_0 hX.1 hC hw h5w hz) (fun _ => D_clear_0 hX hC hM hw h5w hz) ?_ ?_ ?_ ?_
    · exact hC
    · exact hB
    · exact hM
    · rw [hz]
  refine PR.okR (fun _ => C_clear_ok hX.1 hC hw h5w hz) (fun _ => D_clear_ok hX hC hM hw h5w hz) ?_ ?_ ?_ ?_
  · exact chF_keep hC hw h5w (by omega) (by omega) (by omega) rfl
  · exact hB.ex _ _ _ _
  · exact MR_lay (p := 0) (q := f 4 w) (c := 0) hC hM hw h5w (by omega) (by omega) rfl W.1 rfl rfl (by rw [ch4]; omega) (fun _ _ => rfl) (fun j hj => absurd hj (Nat.not_lt_zero _))
  · exact congrArg nI W.1
theorem P_splice {l : Launch} {D : va_G} {cy : Nat → ClassId} {X : (Nat → Prop) → State → Heap → Prop} {a : Nat → Nat → Nat} {ba ra : Nat → Nat} {f : Nat → Nat → Nat} {r : Nat → Nat → Int32} {hf : Nat → Nat → Nat} {hq : Nat → Nat → Int32} {kn th : Int32} {sm : Int64} (hX : EnvM X cy) (hl : l.stackTraces = false) (hC : CInv f) (hB : RB r) (hM : MR f r hf hq) (x0 x1 x2 x3 : Int32) : PR l D cy X a ba ra f r hf hq kn th sm yX2_splice cX2_splice 7 (some .int) yX4_splice cX4_splice 6 (some .int) (rmk 9 4 48 420) [.int x0, .int x1, .int x2, .int x3] [("java/lang/IndexOutOfBoundsException", 1), ("java/lang/IllegalStateException", 2)] := by
  rcases w_dec f x0 with hno | ⟨w, hw, h5w, rfl⟩
  · exact PR.ex (fun _ => C_splice_noW hX.1 hl hC hno) (fun _ => D_splice_noW hX hC hM hno) (by simp)
  have W := hM.wh hC hw h5w
  rcases w_dec f x3 with hno | ⟨v, hv, h5v, rfl⟩
  · exact PR.ex (fun _ => C_splice_noW2 hX.1 hl hC hw h5w hno) (fun _ => D_splice_noW2 hX hC hM hw h5w hno) (by simp)
  have V := hM.wh hC hv h5v
  rcases s_dec (n := f 4 w) (by omega) x1 x2 with hno | ⟨p0, q0, hp, hqb, rfl, rfl⟩
  · refine PR.ok (fun _ => C_splice_ref hX.1 hC hw h5w hv h5v hno) (fun _ => D_splice_ref hX hC hM hw h5w hv h5v hno) ?_ ?_ ?_ ?_
    · exact hC
    · exact hB
    · exact hM
    · rfl
  rcases Nat.lt_or_ge 12 (f 4 (f 1 w) + f 4 v - (q0 - p0)) with hfull | hfit
  · exact PR.ex (fun _ => C_splice_full hX.1 hl hC hw h5w hv h5v hp hqb hfull) (fun _ => D_splice_full hX hC hM hw h5w hv h5v hp hqb hfull) (by simp)
  by_cases hz0 : q0 = p0 ∧ f 4 v = 0
  · refine PR.ok (fun _ => C_splice_0 hX.1 hC hw h5w hv h5v hp hqb hz0) (fun _ => D_splice_0 hX hC hM hw h5w hv h5v hp hqb hz0) ?_ ?_ ?_ ?_
    · exact hC
    · exact hB
    · exact hM
    · exact congrArg nI W.1
  have hz : p0 < q0 ∨ 0 < f 4 v := by omega
  have c1 : CInv (settleF (exL (up2 f 4 8 (f 4 v)) w (f 4 v) (q0 - p0) 8) w 4294967295) := chF_keep hC hw h5w (by omega) (by omega) (by omega) rfl
  have m1 := MR_lay (d := 4294967295) (c := f 4 v) (g := q0 - p0) (p := p0) (q := q0) (r1 := cpy2 r (f 0 v) (f 3 v) (f 0 8) (f 3 8) (f 4 v)) (ins := cutF (fun z => hq (f 1 v) (f 3 v + z)) (hf 4 v)) hC hM hw h5w hp hqb rfl (g2 := q0 - p0) rfl (c2 := hf 4 v) V.1 (p2 := p0) rfl (n := chM f hf w 4294967295 4 (f 1 w) - (q0 - p0) + hf 4 v) (by rw [ch4]; omega) (fun i hi => cpy_row (by have := hC.sp; omega)) (fun j hj => by
    have sp := hC.sp
    rw [MR.ct hC hM hv h5v hj, cpy2_me, if_pos (by omega), show j - f 3 8 = j by omega])
  refine PR.okR (fun _ => C_splice_ok hX.1 hC hw h5w hv h5v hp hqb hfit hz) (fun _ => D_splice_ok hX hC hM hw h5w hv h5v hp hqb hfit hz) ?_ ?_ ?_ ?_
  · rw [up2_eq]
    exact c1
  · exact (hB.cpy _ _ _ _ _).ex _ _ _ _
  · rw [up2_eq]
    exact m1
  · rw [up2_eq]
    exact congrArg nI (ch_ans c1 m1 hw h5w)
theorem P_rotate {l : Launch} {D : va_G} {cy : Nat → ClassId} {X : (Nat → Prop) → State → Heap → Prop} {a : Nat → Nat → Nat} {ba ra : Nat → Nat} {f : Nat → Nat → Nat} {r : Nat → Nat → Int32} {hf : Nat → Nat → Nat} {hq : Nat → Nat → Int32} {kn th : Int32} {sm : Int64} (hX : EnvM X cy) (hl : l.stackTraces = false) (hC : CInv f) (hB : RB r) (hM : MR f r hf hq) (x0 x1 : Int32) : PR l D cy X a ba ra f r hf hq kn th sm yX2_rotate cX2_rotate 3 (some .int) yX4_rotate cX4_rotate 6 (some .int) (rmk 9 4 48 420) [.int x0, .int x1] [("java/lang/IndexOutOfBoundsException", 1), ("java/lang/IllegalArgumentException", 2)] := by
  rcases w_dec f x0 with hno | ⟨w, hw, h5w, rfl⟩
  · exact PR.ex (fun _ => C_rotate_noW hX.1 hl hC hno) (fun _ => D_rotate_noW hX hC hM hno) (by simp)
  have W := hM.wh hC hw h5w
  have sp := hC.sp
  have hh : ∀ {R HQ : Nat → Nat → Int32}, (∀ i k, i < 4 → k < f 4 i → HQ i k = R i k) → 0 < f 4 w → HQ (f 1 w) (f 3 w) = R (f 0 w) (f 3 w) := fun h h0 => by
    rw [W.2.2.2.2.2.1]
    exact h _ _ W.2.2.1 (by omega)
  by_cases ho : okI x1
  · rcases Nat.eq_zero_or_pos (f 4 w) with hz | hz
    · refine PR.ok (fun _ => C_rotate_0 hX.1 hC hw h5w ho hz) (fun _ => D_rotate_0 hX hC hM hw h5w ho hz) ?_ ?_ ?_ ?_
      · exact hC
      · exact hB
      · rw [W.1, hz, wrR_0]
        exact hM
      · rw [if_pos hz]
    have hI : ∀ i k, i < 4 → k < f 4 i → wrR hq (f 1 w) (f 3 w) (hf 4 w) (scA (rotN (hf 4 w) (shN x1 (hf 4 w))) (cutF (fun z => hq (f 1 w) (f 3 w + z)) (hf 4 w)) (hf 4 w) (hf 4 w)) i k = (scS (cpy2 r (f 0 w) (f 3 w) (f 0 8) (f 3 8) (f 4 w)) (f 0 w) (f 3 w) (f 4 w) (rotN (f 4 w) (shN x1 (f 4 w))) (fun q => r (f 0 w) (f 3 w + q))) i k := itm_str hC hM hw h5w W.1 (fun j hj hne => funext fun q => (scS_off (by omega)).trans (cpy2_off (by omega))) (fun t ht => by
      refine (show (scS (cpy2 r (f 0 w) (f 3 w) (f 0 8) (f 3 8) (f 4 w)) (f 0 w) (f 3 w) (f 4 w) (rotN (f 4 w) (shN x1 (f 4 w))) (fun q => r (f 0 w) (f 3 w + q))) (f 1 w) (f 3 w + t) = (scS (cpy2 r (f 0 w) (f 3 w) (f 0 8) (f 3 8) (f 4 w)) (f 0 w) (f 3 w) (f 4 w) (rotN (f 4 w) (shN x1 (f 4 w))) (fun q => r (f 0 w) (f 3 w + q))) (f 0 w) (f 3 w + t) by rw [W.2.2.2.2.2.1]).trans ?_
      rw [scS_at ht, scA_end (fun j _ => rotN_lt (by omega)), cutF_at (by omega)]
      exact ((MR.ct hC hM hw h5w (k := rotN (hf 4 w) (shN x1 (hf 4 w)) t) (by rw [W.1]; exact rotN_lt hz)).trans (by rw [W.1])).symm) (fun k hk => (by rw [← W.2.2.2.2.2.1]; exact (if_neg (fun z => by omega)).trans (cpy2_off (by omega))))
    refine PR.ok (fun _ => C_rotate_ok hX.1 hC hw h5w ho hz) (fun _ => D_rotate_ok hX hC hM hw h5w ho hz) ?_ ?_ ?_ ?_
    · exact spF_keep hC (by omega)
    · exact (hB.cpy _ _ _ _ _).sc _ _ _ _ (fun q => hB _ _)
    · exact MR_itm8 hM hI
    · rw [up2_i _ _ _ _ (show w ≠ 8 by omega), if_neg (by omega)]
      exact hh hI hz
  · exact PR.ex (fun _ => C_rotate_noB hX.1 hl hC hw h5w ho) (fun _ => D_rotate_noB hX hC hM hw h5w ho) (by simp)
theorem P_reverse {l : Launch} {D : va_G} {cy : Nat → ClassId} {X : (Nat → Prop) → State → Heap → Prop} {a : Nat → Nat → Nat} {ba ra : Nat → Nat} {f : Nat → Nat → Nat} {r : Nat → Nat → Int32} {hf : Nat → Nat → Nat} {hq : Nat → Nat → Int32} {kn th : Int32} {sm : Int64} (hX : EnvM X cy) (hl : l.stackTraces = false) (hC : CInv f) (hB : RB r) (hM : MR f r hf hq) (x0 : Int32) : PR l D cy X a ba ra f r hf hq kn th sm yX2_reverse cX2_reverse 2 (some .int) yX4_reverse cX4_reverse 2 (some .int) (rmk 9 4 48 420) [.int x0] [("java/lang/IndexOutOfBoundsException", 1)] := by
  rcases w_dec f x0 with hno | ⟨w, hw, h5w, rfl⟩
  · exact PR.ex (fun _ => C_reverse_noW hX.1 hl hC hno) (fun _ => D_reverse_noW hX hC hM hno) (by simp)
  have W := hM.wh hC hw h5w
  have hh : ∀ {R HQ : Nat → Nat → Int32}, (∀ i k, i < 4 → k < f 4 i → HQ i k = R i k) → 0 < f 4 w → HQ (f 1 w) (f 3 w) = R (f 0 w) (f 3 w) := fun h h0 => by
    rw [W.2.2.2.2.2.1]
    exact h _ _ W.2.2.1 (by omega)
  rcases Nat.eq_zero_or_pos (f 4 w) with hz | hz
  · refine PR.ok (fun _ => C_reverse_0 hX.1 hC hw h5w hz) (fun _ => D_reverse_0 hX hC hM hw h5w hz) ?_ ?_ ?_ ?_
    · exact hC
    · exact hB
    · rw [W.1, hz, wrR_0]
      exact hM
    · rw [if_pos hz]
  have hI : ∀ i k, i < 4 → k < f 4 i → wrR hq (f 1 w) (f 3 w) (hf 4 w) (cutF (fun z => (cutF (fun z => hq (f 1 w) (f 3 w + z)) (hf 4 w)) (hf 4 w - 1 - z)) (hf 4 w)) i k = (revS r (f 0 w) (f 3 w + 0) (f 3 w + f 4 w)) i k := itm_str hC hM hw h5w W.1 (fun j hj hne => funext fun q => if_neg (fun z => by omega)) (fun t ht => by
    refine (show (revS r (f 0 w) (f 3 w + 0) (f 3 w + f 4 w)) (f 1 w) (f 3 w + t) = (revS r (f 0 w) (f 3 w + 0) (f 3 w + f 4 w)) (f 0 w) (f 3 w + t) by rw [W.2.2.2.2.2.1]).trans ?_
    refine (if_pos ⟨rfl, by omega, by omega⟩).trans ?_
    rw [cutF_at (by omega)]
    refine Eq.trans ?_ (MR.ct hC hM hw h5w (k := hf 4 w - 1 - t) (by omega)).symm
    exact congrArg (r (f 0 w)) (by omega)) (fun k hk => (by rw [← W.2.2.2.2.2.1]; exact if_neg (fun z => by omega)))
  refine PR.ok (fun _ => C_reverse_ok hX.1 hC hw h5w hz) (fun _ => D_reverse_ok hX hC hM hw h5w hz) ?_ ?_ ?_ ?_
  · exact hC
  · exact hB.rev _ _ _
  · exact MR_itm hM (fun _ _ _ => rfl) hI
  · rw [if_neg (by omega)]
    exact hh hI hz
theorem P_swap {l : Launch} {D : va_G} {cy : Nat → ClassId} {X : (Nat → Prop) → State → Heap → Prop} {a : Nat → Nat → Nat} {ba ra : Nat → Nat} {f : Nat → Nat → Nat} {r : Nat → Nat → Int32} {hf : Nat → Nat → Nat} {hq : Nat → Nat → Int32} {kn th : Int32} {sm : Int64} (hX : EnvM X cy) (hl : l.stackTraces = false) (hC : CInv f) (hB : RB r) (hM : MR f r hf hq) (x0 x1 x2 : Int32) : PR l D cy X a ba ra f r hf hq kn th sm yX2_swap cX2_swap 4 (some .int) yX4_swap cX4_swap 6 (some .int) (rmk 9 4 48 420) [.int x0, .int x1, .int x2] [("java/lang/IndexOutOfBoundsException", 1)] := by
  rcases w_dec f x0 with hno | ⟨w, hw, h5w, rfl⟩
  · exact PR.ex (fun _ => C_swap_noW hX.1 hl hC hno) (fun _ => D_swap_noW hX hC hM hno) (by simp)
  have W := hM.wh hC hw h5w
  rcases n_dec (n := f 4 w) (by omega) x1 with hno | ⟨k0, hk, rfl⟩
  · exact PR.ex (fun _ => C_swap_no1 hX.1 hl hC hw h5w hno) (fun _ => D_swap_no1 hX hC hM hw h5w hno) (by simp)
  rcases n_dec (n := f 4 w) (by omega) x2 with hno | ⟨k1, hk1, rfl⟩
  · exact PR.ex (fun _ => C_swap_no2 hX.1 hl hC hw h5w hk hno) (fun _ => D_swap_no2 hX hC hM hw h5w hk hno) (by simp)
  have e0 := hM.it hC hw h5w hk
  have e1 := hM.it hC hw h5w hk1
  refine PR.ok (fun _ => C_swap_ok hX.1 hC hw h5w hk hk1) (fun _ => D_swap_ok hX hC hM hw h5w hk hk1) ?_ ?_ ?_ ?_
  · exact hC
  · exact hB.xc _ _ _
  · rw [e0, e1]
    exact MR_up (MR_up hM W.2.2.2.2.2.1) W.2.2.2.2.2.1
  · rw [e1]
    unfold exch2
    by_cases e : k0 = k1
    · subst e
      rw [up2_eq]
    · rw [up2_i _ _ _ _ (by omega), up2_eq]
