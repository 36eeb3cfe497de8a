/-! THE CLASS'S CALL BESIDE THE MODEL'S, THIRD -/
theorem P_removeAll {l : Launch} {D : va_G} {cy : Nat → ClassId} {X : (Nat → Prop) → State → Heap → Prop} {a : Nat → Nat → Nat} {ba ra : Nat → Nat} {f : Nat → Nat → Nat} {r : Nat → Nat → Int32} {hf : Nat → Nat → Nat} {hq : Nat → Nat → Int32} {kn th : Int32} {sm : Int64} (hX : EnvM X cy) (hl : l.stackTraces = false) (hC : CInv f) (hB : RB r) (hM : MR f r hf hq) (x0 x1 : Int32) : PR l D cy X a ba ra f r hf hq kn th sm yX2_removeAll cX2_removeAll 3 (some .int) yX4_removeAll cX4_removeAll 3 (some .int) (rmk 9 20 190 420) [.int x0, .int x1] [("java/lang/IndexOutOfBoundsException", 1)] := by
  rcases n_dec (n := 4) (by omega) x0 with hno | ⟨i, hi4, rfl⟩
  · exact PR.ex (fun _ => C_removeAll_noR hX.1 hl hC hno) (fun _ => (D_removeAll_noR hX hC hM hno).wide (by decide)) (by simp)
  have q := hC.rw hi4
  rcases n_dec (n := 4) (by omega) x1 with hno | ⟨j, hj4, rfl⟩
  · exact PR.ex (fun _ => C_removeAll_noR2 hX.1 hl hC hi4 hno) (fun _ => (D_removeAll_noR2 hX hC hM hi4 hno).wide (by decide)) (by simp)
  have sp := hC.sp
  have hs := MR.sc hC hM 0 hi4 hj4
  have hle := siC_le (hsP r f j) 0 (fun q => r (f 0 i) (f 3 i + q)) (f 4 i) 0 0
  refine PR.okR (fun _ => C_removeAll_ok hX.1 hC hi4 hj4) (fun _ => D_removeAll_ok hX hC hM hi4 hj4) ?_ ?_ ?_ ?_
  · exact becF_keep hC hi4 (by omega)
  · exact (RB.si (fun q => hB _ _) _ _ _ hB).cpy _ _ _ _ _
  · exact MR_bec hC hM hi4 hs (fun t ht => siR_ne (by omega) _ _ _ _) (fun k hk => by
      rw [hM.h4 hi4]
      exact (si_lk (fun x => hM.hs hC hj4 x) _ _ _ _ _ (hM.rg hC hi4) (fun t ht => absurd ht (Nat.not_lt_zero _)) k hk).symm)
  · rw [hs, hM.h4 hi4]
theorem P_retainAll {l : Launch} {D : va_G} {cy : Nat → ClassId} {X : (Nat → Prop) → State → Heap → Prop} {a : Nat → Nat → Nat} {ba ra : Nat → Nat} {f : Nat → Nat → Nat} {r : Nat → Nat → Int32} {hf : Nat → Nat → Nat} {hq : Nat → Nat → Int32} {kn th : Int32} {sm : Int64} (hX : EnvM X cy) (hl : l.stackTraces = false) (hC : CInv f) (hB : RB r) (hM : MR f r hf hq) (x0 x1 : Int32) : PR l D cy X a ba ra f r hf hq kn th sm yX2_retainAll cX2_retainAll 3 (some .int) yX4_retainAll cX4_retainAll 3 (some .int) (rmk 9 20 190 420) [.int x0, .int x1] [("java/lang/IndexOutOfBoundsException", 1)] := by
  rcases n_dec (n := 4) (by omega) x0 with hno | ⟨i, hi4, rfl⟩
  · exact PR.ex (fun _ => C_retainAll_noR hX.1 hl hC hno) (fun _ => (D_retainAll_noR hX hC hM hno).wide (by decide)) (by simp)
  have q := hC.rw hi4
  rcases n_dec (n := 4) (by omega) x1 with hno | ⟨j, hj4, rfl⟩
  · exact PR.ex (fun _ => C_retainAll_noR2 hX.1 hl hC hi4 hno) (fun _ => (D_retainAll_noR2 hX hC hM hi4 hno).wide (by decide)) (by simp)
  have sp := hC.sp
  have hs := MR.sc hC hM 1 hi4 hj4
  have hle := siC_le (hsP r f j) 1 (fun q => r (f 0 i) (f 3 i + q)) (f 4 i) 0 0
  refine PR.okR (fun _ => C_retainAll_ok hX.1 hC hi4 hj4) (fun _ => D_retainAll_ok hX hC hM hi4 hj4) ?_ ?_ ?_ ?_
  · exact becF_keep hC hi4 (by omega)
  · exact (RB.si (fun q => hB _ _) _ _ _ hB).cpy _ _ _ _ _
  · exact MR_bec hC hM hi4 hs (fun t ht => siR_ne (by omega) _ _ _ _) (fun k hk => by
      rw [hM.h4 hi4]
      exact (si_lk (fun x => hM.hs hC hj4 x) _ _ _ _ _ (hM.rg hC hi4) (fun t ht => absurd ht (Nat.not_lt_zero _)) k hk).symm)
  · rw [hs, hM.h4 hi4]
theorem P_copy {l : Launch} {D : va_G} {cy : Nat → ClassId} {X : (Nat → Prop) → State → Heap → Prop} {a : Nat → Nat → Nat} {ba ra : Nat → Nat} {f : Nat → Nat → Nat} {r : Nat → Nat → Int32} {hf : Nat → Nat → Nat} {hq : Nat → Nat → Int32} {kn th : Int32} {sm : Int64} (hX : EnvM X cy) (hl : l.stackTraces = false) (hC : CInv f) (hB : RB r) (hM : MR f r hf hq) (x0 x1 : Int32) : PR l D cy X a ba ra f r hf hq kn th sm yX2_copy cX2_copy 3 (some .int) yX4_copy cX4_copy 3 (some .int) (rmk 9 4 48 420) [.int x0, .int x1] [("java/lang/IndexOutOfBoundsException", 1)] := by
  rcases w_dec f x0 with hno | ⟨w, hw, h5w, rfl⟩
  · exact PR.ex (fun _ => C_copy_noW hX.1 hl hC hno) (fun _ => D_copy_noW hX hC hM hno) (by simp)
  have W := hM.wh hC hw h5w
  rcases n_dec (n := 4) (by omega) x1 with hno | ⟨i, hi4, rfl⟩
  · exact PR.ex (fun _ => C_copy_noR hX.1 hl hC hw h5w hno) (fun _ => D_copy_noR hX hC hM hw h5w hno) (by simp)
  have sp := hC.sp
  refine PR.okR (fun _ => C_copy_ok hX.1 hC hw h5w hi4) (fun _ => D_copy_ok hX hC hM hw h5w hi4) ?_ ?_ ?_ ?_
  · rw [up2_eq]
    exact becF_keep hC hi4 (by omega)
  · exact (hB.cpy _ _ _ _ _).cpy _ _ _ _ _
  · rw [up2_eq]
    exact MR_bec hC hM hi4 W.1 (fun t ht => cpy_row (by omega)) (fun k hk => by
      rw [MR.ct hC hM hw h5w hk, cpy2_me, if_pos (by omega), show k - f 3 8 = k by omega])
  · rw [up2_eq, W.1]
theorem P_places {l : Launch} {D : va_G} {cy : Nat → ClassId} {X : (Nat → Prop) → State → Heap → Prop} {a : Nat → Nat → Nat} {ba ra : Nat → Nat} {f : Nat → Nat → Nat} {r : Nat → Nat → Int32} {hf : Nat → Nat → Nat} {hq : Nat → Nat → Int32} {kn th : Int32} {sm : Int64} (hX : EnvM X cy) (hl : l.stackTraces = false) (hC : CInv f) (hB : RB r) (hM : MR f r hf hq) (x0 x1 : Int32) : PR l D cy X a ba ra f r hf hq kn th sm yX2_places cX2_places 4 (some .int) yX4_places cX4_places 5 (some .int) (rmk 9 4 48 420) [.int x0, .int x1] [("java/lang/IndexOutOfBoundsException", 1), ("java/lang/IllegalArgumentException", 2)] := by
  rcases n_dec (n := 4) (by omega) x0 with hno | ⟨i, hi4, rfl⟩
  · exact PR.ex (fun _ => C_places_noR hX.1 hl hC hno) (fun _ => D_places_noR hX hC hM hno) (by simp)
  rcases l_dec (n := 12) (by omega) x1 with hno | ⟨k0, hk, rfl⟩
  · exact PR.ex (fun _ => C_places_noM hX.1 hl hC hi4 hno) (fun _ => D_places_noM hX hC hM hi4 hno) (by simp)
  have sp := hC.sp
  refine PR.okR (fun _ => C_places_ok hX.1 hC hi4 hk) (fun _ => D_places_ok hX hC hM hi4 hk) ?_ ?_ ?_ ?_
  · exact becF_keep hC hi4 hk
  · exact (hB.pl _ hk).cpy _ _ _ _ _
  · exact MR_bec hC hM hi4 rfl (fun t ht => funext fun k => if_neg (fun z => by omega)) (fun k hkk => by
      rw [cutF_at hkk]
      exact (if_pos ⟨rfl, hkk⟩).symm)
  · rfl
theorem P_through {l : Launch} {D : va_G} {cy : Nat → ClassId} {X : (Nat → Prop) → State → Heap → Prop} {a : Nat → Nat → Nat} {ba ra : Nat → Nat} {f : Nat → Nat → Nat} {r : Nat → Nat → Int32} {hf : Nat → Nat → Nat} {hq : Nat → Nat → Int32} {kn th : Int32} {sm : Int64} (hX : EnvM X cy) (hl : l.stackTraces = false) (hC : CInv f) (hB : RB r) (hM : MR f r hf hq) (x0 x1 x2 : Int32) : PR l D cy X a ba ra f r hf hq kn th sm yX2_through cX2_through 6 (some .int) yX4_through cX4_through 7 (some .int) (rmk 9 4 48 420) [.int x0, .int x1, .int x2] [("java/lang/IndexOutOfBoundsException", 1)] := by
  rcases w_dec f x0 with hno | ⟨w, hw, h5w, rfl⟩
  · exact PR.ex (fun _ => C_through_noW hX.1 hl hC hno) (fun _ => D_through_noW hX hC hM hno) (by simp)
  have W := hM.wh hC hw h5w
  rcases w_dec f x1 with hno | ⟨v, hv, h5v, rfl⟩
  · exact PR.ex (fun _ => C_through_noW2 hX.1 hl hC hw h5w hno) (fun _ => D_through_noW2 hX hC hM hw h5w hno) (by simp)
  have V := hM.wh hC hv h5v
  rcases n_dec (n := 4) (by omega) x2 with hno | ⟨i, hi4, rfl⟩
  · exact PR.ex (fun _ => C_through_noR hX.1 hl hC hw h5w hv h5v hno) (fun _ => D_through_noR hX hC hM hw h5w hv h5v hno) (by simp)
  have sp := hC.sp
  rcases first_or (fun q => r (f 0 v) (f 3 v + q) < nI (f 4 w)) (f 4 v) with hall | ⟨m0, hm, hall, hno9⟩
  · refine PR.okR (fun _ => C_through_ok hX.1 hC hw h5w hv h5v hi4 hall) (fun _ => D_through_ok hX hC hM hw h5w hv h5v hi4 (fun q hqv => by rw [MR.ct hC hM hv h5v (k := q) (by omega), W.1]; exact hall q (by omega))) ?_ ?_ ?_ ?_
    · exact becF_keep hC hi4 (by omega)
    · exact (hB.th _ _ (fun q => tvF_ib (fun t => hB _ _) (hB _ _))).cpy _ _ _ _ _
    · exact MR_bec hC hM hi4 V.1 (fun t ht => funext fun k => if_neg (fun z => by omega)) (fun k hk => by
        have hlt := hall k hk
        refine (if_pos (show k < hf 4 v by omega)).trans ?_
        refine Eq.trans ?_ (if_pos ⟨rfl, hk⟩).symm
        show tvF _ _ = tvF _ _
        rw [MR.ct hC hM hv h5v hk]
        unfold tvF
        by_cases hn : r (f 0 v) (f 3 v + k) < 0
        · rw [if_pos hn, if_pos hn]
        · rw [if_neg hn, if_neg hn, MR.ct hC hM hw h5w (cl_nI (by omega) (Int32.not_lt.mp hn) hlt).2])
    · exact congrArg nI V.1
  have hno : nI (f 4 w) ≤ r (f 0 v) (f 3 v + m0) := Int32.not_lt.mp hno9
  refine PR.ok (fun _ => C_through_ref hX.1 hC hw h5w hv h5v hi4 hm hall hno) (fun _ => D_through_ref hX hC hM hw h5w hv h5v hi4 (show m0 < hf 4 v by omega) (fun q hqv => by rw [MR.ct hC hM hv h5v (k := q) (by omega), W.1]; exact hall q hqv) (by rw [MR.ct hC hM hv h5v hm, W.1]; exact hno)) ?_ ?_ ?_ ?_
  · exact spF_keep hC (by omega)
  · exact hB.th _ _ (fun q => tvF_ib (fun t => hB _ _) (hB _ _))
  · exact MR_itm8 hM (fun i k hi hk => ((hM.2.1 i hi).2 k hk).trans (if_neg (fun z => by omega)).symm)
  · rfl
theorem P_indexOf {l : Launch} {D : va_G} {cy : Nat → ClassId} {X : (Nat → Prop) → State → Heap → Prop} {a : Nat → Nat → Nat} {ba ra : Nat → Nat} {f : Nat → Nat → Nat} {r : Nat → Nat → Int32} {hf : Nat → Nat → Nat} {hq : Nat → Nat → Int32} {kn th : Int32} {sm : Int64} (hX : EnvM X cy) (hl : l.stackTraces = false) (hC : CInv f) (hB : RB r) (hM : MR f r hf hq) (x0 x1 : Int32) : PR l D cy X a ba ra f r hf hq kn th sm yX2_indexOf cX2_indexOf 3 (some .int) yX4_indexOf cX4_indexOf 3 (some .int) (rmk 9 4 48 420) [.int x0, .int x1] [("java/lang/IndexOutOfBoundsException", 1)] := by
  rcases n_dec (n := 4) (by omega) x0 with hno | ⟨i, hi4, rfl⟩
  · exact PR.ex (fun _ => C_indexOf_noR hX.1 hl hC hno) (fun _ => D_indexOf_noR hX hC hM hno) (by simp)
  have q := hC.rw hi4
  refine PR.ok (fun _ => C_indexOf_ok hX.1 hC hi4) (fun _ => D_indexOf_ok hX hC hM hi4) ?_ ?_ ?_ ?_
  · exact hC
  · exact hB
  · exact hM
  · rw [hM.fp hC hi4]
theorem P_lastIndexOf {l : Launch} {D : va_G} {cy : Nat → ClassId} {X : (Nat → Prop) → State → Heap → Prop} {a : Nat → Nat → Nat} {ba ra : Nat → Nat} {f : Nat → Nat → Nat} {r : Nat → Nat → Int32} {hf : Nat → Nat → Nat} {hq : Nat → Nat → Int32} {kn th : Int32} {sm : Int64} (hX : EnvM X cy) (hl : l.stackTraces = false) (hC : CInv f) (hB : RB r) (hM : MR f r hf hq) (x0 x1 : Int32) : PR l D cy X a ba ra f r hf hq kn th sm yX2_lastIndexOf cX2_lastIndexOf 5 (some .int) yX4_lastIndexOf cX4_lastIndexOf 3 (some .int) (rmk 9 4 48 420) [.int x0, .int x1] [("java/lang/IndexOutOfBoundsException", 1)] := by
  rcases n_dec (n := 4) (by omega) x0 with hno | ⟨i, hi4, rfl⟩
  · exact PR.ex (fun _ => C_lastIndexOf_noR hX.1 hl hC hno) (fun _ => D_lastIndexOf_noR hX hC hM hno) (by simp)
  have q := hC.rw hi4
  refine PR.ok (fun _ => C_lastIndexOf_ok hX.1 hC hi4) (fun _ => D_lastIndexOf_ok hX hC hM hi4) ?_ ?_ ?_ ?_
  · exact hC
  · exact hB
  · exact hM
  · rw [hM.h4 hi4]
    exact congrArg nI (liF_same _ _ _ (fun q a b => (hM.rg hC hi4 q a b).symm))
theorem P_contains {l : Launch} {D : va_G} {cy : Nat → ClassId} {X : (Nat → Prop) → State → Heap → Prop} {a : Nat → Nat → Nat} {ba ra : Nat → Nat} {f : Nat → Nat → Nat} {r : Nat → Nat → Int32} {hf : Nat → Nat → Nat} {hq : Nat → Nat → Int32} {kn th : Int32} {sm : Int64} (hX : EnvM X cy) (hl : l.stackTraces = false) (hC : CInv f) (hB : RB r) (hM : MR f r hf hq) (x0 x1 : Int32) : PR l D cy X a ba ra f r hf hq kn th sm yX2_contains cX2_contains 3 (some .boolean) yX4_contains cX4_contains 3 (some .boolean) (rmk 9 4 48 420) [.int x0, .int x1] [("java/lang/IndexOutOfBoundsException", 1)] := by
  rcases n_dec (n := 4) (by omega) x0 with hno | ⟨i, hi4, rfl⟩
  · exact PR.ex (fun _ => C_contains_noR hX.1 hl hC hno) (fun _ => D_contains_noR hX hC hM hno) (by simp)
  have q := hC.rw hi4
  refine PR.ok (fun _ => C_contains_ok hX.1 hC hi4) (fun _ => D_contains_ok hX hC hM hi4) ?_ ?_ ?_ ?_
  · exact hC
  · exact hB
  · exact hM
  · rw [← hM.hs hC hi4]
    rfl
theorem P_howOften {l : Launch} {D : va_G} {cy : Nat → ClassId} {X : (Nat → Prop) → State → Heap → Prop} {a : Nat → Nat → Nat} {ba ra : Nat → Nat} {f : Nat → Nat → Nat} {r : Nat → Nat → Int32} {hf : Nat → Nat → Nat} {hq : Nat → Nat → Int32} {kn th : Int32} {sm : Int64} (hX : EnvM X cy) (hl : l.stackTraces = false) (hC : CInv f) (hB : RB r) (hM : MR f r hf hq) (x0 x1 : Int32) : PR l D cy X a ba ra f r hf hq kn th sm yX2_howOften cX2_howOften 5 (some .int) yX4_howOften cX4_howOften 8 (some .int) (rmk 9 4 48 420) [.int x0, .int x1] [("java/lang/IndexOutOfBoundsException", 1)] := by
  rcases n_dec (n := 4) (by omega) x0 with hno | ⟨i, hi4, rfl⟩
  · exact PR.ex (fun _ => C_howOften_noR hX.1 hl hC hno) (fun _ => D_howOften_noR hX hC hM hno) (by simp)
  have q := hC.rw hi4
  refine PR.ok (fun _ => C_howOften_ok hX.1 hC hi4) (fun _ => D_howOften_ok hX hC hM hi4) ?_ ?_ ?_ ?_
  · exact hC
  · exact hB
  · exact hM
  · rw [hM.h4 hi4]
    exact congrArg nI (hoF_same _ _ _ (fun q a b => (hM.rg hC hi4 q a b).symm))
theorem P_least {l : Launch} {D : va_G} {cy : Nat → ClassId} {X : (Nat → Prop) → State → Heap → Prop} {a : Nat → Nat → Nat} {ba ra : Nat → Nat} {f : Nat → Nat → Nat} {r : Nat → Nat → Int32} {hf : Nat → Nat → Nat} {hq : Nat → Nat → Int32} {kn th : Int32} {sm : Int64} (hX : EnvM X cy) (hl : l.stackTraces = false) (hC : CInv f) (hB : RB r) (hM : MR f r hf hq) (x0 : Int32) {b0 : Nat} (hb : b0 ≤ 1) : PR l D cy X a ba ra f r hf hq kn th sm yX2_least cX2_least 6 (some .int) yX4_least cX4_least 8 (some .int) (rmk 9 4 48 420) [.int x0, .int (nI b0)] [("java/lang/IndexOutOfBoundsException", 1), ("java/lang/IllegalStateException", 2)] := by
  rcases n_dec (n := 4) (by omega) x0 with hno | ⟨i, hi4, rfl⟩
  · exact PR.ex (fun _ => C_least_noR hX.1 hl hC hno) (fun _ => D_least_noR hX hC hM hno) (by simp)
  rcases Nat.eq_zero_or_pos (f 4 i) with hz | hz
  · exact PR.ex (fun _ => C_least_0 hX.1 hl hC hi4 hz) (fun _ => D_least_0 hX hC hM hi4 hz) (by simp)
  refine PR.ok (fun _ => C_least_ok hX.1 hC hi4 hz hb) (fun _ => D_least_ok hX hC hM hi4 hz hb) ?_ ?_ ?_ ?_
  · exact hC
  · exact hB
  · exact hM
  · rw [hM.h4 hi4, leF_0 hz]
    have e0 := hM.rw0 hC hi4 hz
    rw [e0, Nat.add_zero]
    exact leF_same _ _ _ (fun q a b => (hM.rg hC hi4 q (by omega) (by omega)).symm)
theorem P_areApart {l : Launch} {D : va_G} {cy : Nat → ClassId} {X : (Nat → Prop) → State → Heap → Prop} {a : Nat → Nat → Nat} {ba ra : Nat → Nat} {f : Nat → Nat → Nat} {r : Nat → Nat → Int32} {hf : Nat → Nat → Nat} {hq : Nat → Nat → Int32} {kn th : Int32} {sm : Int64} (hX : EnvM X cy) (hl : l.stackTraces = false) (hC : CInv f) (hB : RB r) (hM : MR f r hf hq) (x0 x1 : Int32) : PR l D cy X a ba ra f r hf hq kn th sm yX2_areApart cX2_areApart 4 (some .boolean) yX4_areApart cX4_areApart 8 (some .boolean) (rmk 9 4 48 420) [.int x0, .int x1] [("java/lang/IndexOutOfBoundsException", 1)] := by
  rcases n_dec (n := 4) (by omega) x0 with hno | ⟨i, hi4, rfl⟩
  · exact PR.ex (fun _ => C_areApart_noR hX.1 hl hC hno) (fun _ => D_areApart_noR hX hC hM hno) (by simp)
  rcases n_dec (n := 4) (by omega) x1 with hno | ⟨j, hj4, rfl⟩
  · exact PR.ex (fun _ => C_areApart_noR2 hX.1 hl hC hi4 hno) (fun _ => D_areApart_noR2 hX hC hM hi4 hno) (by simp)
  refine PR.ok (fun _ => C_areApart_ok hX.1 hC hi4 hj4) (fun _ => D_areApart_ok hX hC hM hi4 hj4) ?_ ?_ ?_ ?_
  · exact hC
  · exact hB
  · exact hM
  · rw [hM.h4 hi4]
    exact congrArg nI (apF_same (fun x => (hM.hs hC hj4 x).symm) _ _ (fun q a b => (hM.rg hC hi4 q a b).symm))
theorem P_areSame {l : Launch} {D : va_G} {cy : Nat → ClassId} {X : (Nat → Prop) → State → Heap → Prop} {a : Nat → Nat → Nat} {ba ra : Nat → Nat} {f : Nat → Nat → Nat} {r : Nat → Nat → Int32} {hf : Nat → Nat → Nat} {hq : Nat → Nat → Int32} {kn th : Int32} {sm : Int64} (hX : EnvM X cy) (hl : l.stackTraces = false) (hC : CInv f) (hB : RB r) (hM : MR f r hf hq) (x0 x1 : Int32) : PR l D cy X a ba ra f r hf hq kn th sm yX2_areSame cX2_areSame 3 (some .boolean) yX4_areSame cX4_areSame 3 (some .boolean) (rmk 9 4 48 420) [.int x0, .int x1] [("java/lang/IndexOutOfBoundsException", 1)] := by
  rcases n_dec (n := 4) (by omega) x0 with hno | ⟨i, hi4, rfl⟩
  · exact PR.ex (fun _ => C_areSame_noR hX.1 hl hC hno) (fun _ => D_areSame_noR hX hC hM hno) (by simp)
  rcases n_dec (n := 4) (by omega) x1 with hno | ⟨j, hj4, rfl⟩
  · exact PR.ex (fun _ => C_areSame_noR2 hX.1 hl hC hi4 hno) (fun _ => D_areSame_noR2 hX hC hM hi4 hno) (by simp)
  have qi := hC.rw hi4
  have qj := hC.rw hj4
  have e1 := hM.h4 hi4
  have e2 := hM.h4 hj4
  refine PR.ok (fun _ => C_areSame_ok hX.1 hC hi4 hj4) (fun _ => D_areSame_ok hX hC hM hi4 hj4) ?_ ?_ ?_ ?_
  · exact hC
  · exact hB
  · exact hM
  · by_cases e : f 4 i = f 4 j
    · have es : stF (fun q => (cutF (fun z => hq (f 1 i) (f 3 i + z)) (hf 4 i)) (0 + q)) (cutF (fun z => hq (f 1 j) (f 3 j + z)) (hf 4 j)) (hf 4 j) 0 = stF (fun q => r (f 0 i) (f 3 i + (0 + q))) (fun q => r (f 0 j) (f 3 j + q)) (f 4 j) 0 := by
        refine (stF_same (g' := fun q => r (f 0 i) (f 3 i + (0 + q))) (h' := fun q => r (f 0 j) (f 3 j + q)) _ _ (fun t _ htk => ⟨?_, ?_⟩)).trans (by rw [e2])
        · exact MR.ct hC hM (by omega) qi.2.2.2.2.2 (by omega)
        · exact MR.ct hC hM (by omega) qj.2.2.2.2.2 (by omega)
      have ep : poF (fun k => stF (fun q => (cutF (fun z => hq (f 1 i) (f 3 i + z)) (hf 4 i)) (k + q)) (cutF (fun z => hq (f 1 j) (f 3 j + z)) (hf 4 j)) (hf 4 j) 0) 1 0 = if stF (fun q => r (f 0 i) (f 3 i + (0 + q))) (fun q => r (f 0 j) (f 3 j + q)) (f 4 j) 0 = 0 then 4294967295 else 0 := by
        rw [← es]
        rfl
      rw [show hf 4 i + 1 - hf 4 j = 1 by omega, ep]
      by_cases hz : stF (fun q => r (f 0 i) (f 3 i + (0 + q))) (fun q => r (f 0 j) (f 3 j + q)) (f 4 j) 0 = 0
      · rw [if_pos hz, if_neg (fun z => absurd z.2 (by decide)), if_neg (fun z => z.2 hz)]
      · rw [if_neg hz, if_pos ⟨by omega, rfl⟩, if_pos ⟨e, hz⟩]
    · rw [if_neg (fun z => e (by omega)), if_neg (fun z => e z.1)]
theorem P_hash {l : Launch} {D : va_G} {cy : Nat → ClassId} {X : (Nat → Prop) → State → Heap → Prop} {a : Nat → Nat → Nat} {ba ra : Nat → Nat} {f : Nat → Nat → Nat} {r : Nat → Nat → Int32} {hf : Nat → Nat → Nat} {hq : Nat → Nat → Int32} {kn th : Int32} {sm : Int64} (hX : EnvM X cy) (hl : l.stackTraces = false) (hC : CInv f) (hB : RB r) (hM : MR f r hf hq) (x0 : Int32) : PR l D cy X a ba ra f r hf hq kn th sm yX2_hash cX2_hash 2 (some .int) yX4_hash cX4_hash 2 (some .int) (rmk 9 4 48 420) [.int x0] [("java/lang/IndexOutOfBoundsException", 1)] := by
  rcases n_dec (n := 4) (by omega) x0 with hno | ⟨i, hi4, rfl⟩
  · exact PR.ex (fun _ => C_hash_noR hX.1 hl hC hno) (fun _ => D_hash_noR hX hC hM hno) (by simp)
  have q := hC.rw hi4
  refine PR.ok (fun _ => C_hash_ok hX.1 hC hi4) (fun _ => D_hash_ok hX hC hM hi4) ?_ ?_ ?_ ?_
  · exact hC
  · exact hB
  · exact hM
  · rw [hM.h4 hi4]
    exact hsF_same _ _ _ (fun q a b => (hM.rg hC hi4 q a b).symm)
theorem P_inArray {l : Launch} {D : va_G} {cy : Nat → ClassId} {X : (Nat → Prop) → State → Heap → Prop} {a : Nat → Nat → Nat} {ba ra : Nat → Nat} {f : Nat → Nat → Nat} {r : Nat → Nat → Int32} {hf : Nat → Nat → Nat} {hq : Nat → Nat → Int32} {kn th : Int32} {sm : Int64} (hX : EnvM X cy) (hl : l.stackTraces = false) (hC : CInv f) (hB : RB r) (hM : MR f r hf hq) (x0 x1 : Int32) : PR l D cy X a ba ra f r hf hq kn th sm yX2_inArray cX2_inArray 3 (some .int) yX4_inArray cX4_inArray 3 (some .int) (rmk 9 4 48 420) [.int x0, .int x1] [("java/lang/IndexOutOfBoundsException", 1)] := by
  rcases n_dec (n := 4) (by omega) x0 with hno | ⟨i, hi4, rfl⟩
  · exact PR.ex (fun _ => C_inArray_noR hX.1 hl hC hno) (fun _ => D_inArray_noR hX hC hM hno) (by simp)
  have q := hC.rw hi4
  rcases n_dec (n := f 4 i) (by omega) x1 with hno | ⟨k0, hk, rfl⟩
  · exact PR.ex (fun _ => C_inArray_noP hX.1 hl hC hi4 hno) (fun _ => D_inArray_noP hX hC hM hi4 hno) (by simp)
  refine PR.ok (fun _ => C_inArray_ok hX.1 hC hi4 hk) (fun _ => D_inArray_ok hX hC hM hi4 hk) ?_ ?_ ?_ ?_
  · exact hC
  · exact hB
  · exact hM
  · exact hM.rw0 hC hi4 hk
