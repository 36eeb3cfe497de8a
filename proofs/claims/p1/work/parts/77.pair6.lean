/-! THE CLASS'S CALL BESIDE THE MODEL'S, FIFTH -/
theorem P_put {l : Launch} {D : va_G} {cy : Nat → ClassId} {X : (Nat → Prop) → State → Heap → Prop} {a : Nat → Nat → Nat} {ba ra : Nat → Nat} {f : Nat → Nat → Nat} {r : Nat → Nat → Int32} {hf : Nat → Nat → Nat} {hq : Nat → Nat → Int32} {kn th : Int32} {sm : Int64} (hX : EnvM X cy) (hl : l.stackTraces = false) (hC : CInv f) (hB : RB r) (hM : MR f r hf hq) (x0 x1 : Int32) : PR l D cy X a ba ra f r hf hq kn th sm yX2_put cX2_put 4 (some .int) yX4_put_ cX4_put_ 3 (some .int) (rmk 9 4 48 420) [.int x0, .int x1] [("java/lang/IndexOutOfBoundsException", 1), ("java/lang/IllegalArgumentException", 2), ("java/lang/IllegalStateException", 3)] := by
  rcases n_dec (n := 3) (by omega) x0 with hno | ⟨k0, hk3, rfl⟩
  · exact PR.ex (fun _ => C_put_noC hX.1 hl hC hno) (fun _ => D_put_noC hX hC hM hno) (by simp)
  by_cases ho : okI x1
  · rcases (show f 9 k0 = 0 ∨ f 9 k0 = 1 by have := (hC.cu hk3).2.1; omega) with h9 | h9
    · exact PR.ex (fun _ => C_put_noT hX.1 hl hC hk3 ho h9) (fun _ => D_put_noT hX hC hM hk3 ho h9) (by simp)
    have c := (hC.cu hk3).2.2 h9
    have m := (hM.2.2.2 k0 hk3).2.2 h9
    have m9 := (hM.2.2.2 k0 hk3).1
    have m6 := (hM.2.2.2 k0 hk3).2.1
    have hw := (hC.cu hk3).1
    have W := hM.wh hC hw c.1
    rcases Nat.lt_or_ge (f 4 (f 1 (f 6 k0))) 12 with hroom | hfull
    · have m1 := MR_lay (d := k0) (c := 1) (g := 0) (p := f 7 k0) (q := f 7 k0) (r1 := up2 r (f 0 8) 0 x1) (ins := upd (fun _ => 0) 0 x1) hC hM hw c.1 (Nat.le_refl _) c.2.1 (Nat.sub_self _).symm (g2 := 0) (Nat.sub_self _).symm rfl m.2.1 (n := chM f hf (f 6 k0) k0 4 (f 1 (f 6 k0)) - 0 + 1) (by rw [ch4]; omega) (fun i hi => up2_row (by have := hC.sp; omega)) (fun j hj => by
        obtain rfl : j = 0 := by omega
        rw [up2_eq]
        rfl)
      refine PR.okR (fun _ => C_put_ok hX.1 hC hk3 ho h9 hroom) (fun _ => D_put_ok hX hC hM hk3 ho h9 hroom) ?_ ?_ ?_ ?_
      · exact crF_keep hC hk3 h9 (by omega) (by omega) (by omega) (by omega) (Or.inl rfl)
      · exact (hB.up (IB.ok ho)).ex _ _ _ _
      · rw [m.1]
        refine MR_cur (k0 := k0) m1 (fun fl i h => ?_) (fun fl i h => ?_) ?_ ?_ (fun _ => ⟨?_, ?_, ?_⟩)
        · rw [up2_x (by omega), up2_x (by omega)]
        · rw [up2_x (by omega), up2_x (by omega)]
        · exact (m1.2.2.2 k0 hk3).1
        · exact (m1.2.2.2 k0 hk3).2.1
        · exact m.1
        · exact ((up2_x (Or.inl (by decide))).trans (up2_eq _ _ _ _)).trans (Eq.trans (by rw [m.2.1]) ((up2_x (Or.inl (by decide))).trans (up2_eq _ _ _ _)).symm)
        · rw [up2_eq, up2_eq]
      · rw [m.2.1]
    · exact PR.ex (fun _ => C_put_full hX.1 hl hC hk3 ho h9 hfull) (fun _ => D_put_full hX hC hM hk3 ho h9 hfull) (by simp)
  · exact PR.ex (fun _ => C_put_noI hX.1 hl hC hk3 ho) (fun _ => D_put_noI hX hC hM hk3 ho) (by simp)
theorem P_take {l : Launch} {D : va_G} {cy : Nat → ClassId} {X : (Nat → Prop) → State → Heap → Prop} {a : Nat → Nat → Nat} {ba ra : Nat → Nat} {f : Nat → Nat → Nat} {r : Nat → Nat → Int32} {hf : Nat → Nat → Nat} {hq : Nat → Nat → Int32} {kn th : Int32} {sm : Int64} (hX : EnvM X cy) (hl : l.stackTraces = false) (hC : CInv f) (hB : RB r) (hM : MR f r hf hq) (x0 : Int32) : PR l D cy X a ba ra f r hf hq kn th sm yX2_take cX2_take 3 (some .int) yX4_take cX4_take 2 (some .int) (rmk 9 4 48 420) [.int x0] [("java/lang/IndexOutOfBoundsException", 1), ("java/lang/IllegalStateException", 2)] := by
  rcases n_dec (n := 3) (by omega) x0 with hno | ⟨k0, hk3, rfl⟩
  · exact PR.ex (fun _ => C_take_noC hX.1 hl hC hno) (fun _ => D_take_noC hX hC hM hno) (by simp)
  rcases (show f 9 k0 = 0 ∨ f 9 k0 = 1 by have := (hC.cu hk3).2.1; omega) with h9 | h9
  · exact PR.ex (fun _ => C_take_noT hX.1 hl hC hk3 h9) (fun _ => D_take_noT hX hC hM hk3 h9) (by simp)
  have c := (hC.cu hk3).2.2 h9
  have m := (hM.2.2.2 k0 hk3).2.2 h9
  have m9 := (hM.2.2.2 k0 hk3).1
  have m6 := (hM.2.2.2 k0 hk3).2.1
  have hw := (hC.cu hk3).1
  have W := hM.wh hC hw c.1
  by_cases hl9 : f 8 k0 = 4294967295
  · refine PR.ok (fun _ => C_take_ref hX.1 hC hk3 h9 hl9) (fun _ => D_take_ref hX hC hM hk3 h9 hl9) ?_ ?_ ?_ ?_
    · exact hC
    · exact hB
    · exact hM
    · rfl
  have hlt : f 8 k0 < f 4 (f 6 k0) := by omega
  have m1 := MR_lay (d := k0) (c := 0) (g := f 8 k0 + 1 - f 8 k0) (p := f 8 k0) (q := f 8 k0 + 1) (r1 := r) (ins := fun _ => 0) hC hM hw c.1 (by omega) (by omega) rfl (g2 := 1) (by omega) (c2 := 0) rfl (p2 := hf 8 k0) m.2.2 (n := chM f hf (f 6 k0) k0 4 (f 1 (f 6 k0)) - 1 + 0) (by rw [ch4]; omega) (fun _ _ => rfl) (fun j hj => absurd hj (Nat.not_lt_zero _))
  rcases Nat.lt_or_ge (f 8 k0) (f 7 k0) with hx | hx
  · refine PR.okR (fun _ => C_take_a hX.1 hC hk3 h9 hl9 hx) (fun _ => D_take_a hX hC hM hk3 h9 hl9 hx) ?_ ?_ ?_ ?_
    · exact crF_keep hC hk3 h9 (by omega) (by omega) (by omega) (by omega) (Or.inl rfl)
    · exact hB.ex _ _ _ _
    · rw [m.1]
      refine MR_cur (k0 := k0) m1 (fun fl i h => ?_) (fun fl i h => ?_) ?_ ?_ (fun _ => ⟨?_, ?_, ?_⟩)
      · rw [up2_x (by omega), up2_x (by omega)]
      · rw [up2_x (by omega), up2_x (by omega)]
      · exact (m1.2.2.2 k0 hk3).1
      · exact (m1.2.2.2 k0 hk3).2.1
      · exact m.1
      · exact ((up2_x (Or.inl (by decide))).trans (up2_eq _ _ _ _)).trans (Eq.trans (by rw [m.2.1]) ((up2_x (Or.inl (by decide))).trans (up2_eq _ _ _ _)).symm)
      · rw [up2_eq, up2_eq]
    · rw [m.2.1]
  refine PR.okR (fun _ => C_take_b hX.1 hC hk3 h9 hl9 hx) (fun _ => D_take_b hX hC hM hk3 h9 hl9 hx) ?_ ?_ ?_ ?_
  · exact tbF_keep hC hk3 h9 (by omega) hl9 hx
  · exact hB.ex _ _ _ _
  · rw [m.1]
    refine MR_cur (k0 := k0) m1 (fun fl i h => ?_) (fun fl i h => ?_) ?_ ?_ (fun _ => ⟨?_, ?_, ?_⟩)
    · rw [up2_x (by omega)]
    · rw [up2_x (by omega), up2_x (by omega)]
    · exact (m1.2.2.2 k0 hk3).1
    · exact (m1.2.2.2 k0 hk3).2.1
    · exact m.1
    · exact ((up2_x (Or.inl (by decide))).trans (up2_eq _ _ _ _)).trans (Eq.trans m.2.1 (up2_x (Or.inl (by decide))).symm)
    · rw [up2_eq, up2_eq]
  · exact congrArg nI m.2.1
theorem P_replace {l : Launch} {D : va_G} {cy : Nat → ClassId} {X : (Nat → Prop) → State → Heap → Prop} {a : Nat → Nat → Nat} {ba ra : Nat → Nat} {f : Nat → Nat → Nat} {r : Nat → Nat → Int32} {hf : Nat → Nat → Nat} {hq : Nat → Nat → Int32} {kn th : Int32} {sm : Int64} (hX : EnvM X cy) (hl : l.stackTraces = false) (hC : CInv f) (hB : RB r) (hM : MR f r hf hq) (x0 x1 : Int32) : PR l D cy X a ba ra f r hf hq kn th sm yX2_replace cX2_replace 4 (some .int) yX4_replace cX4_replace 3 (some .int) (rmk 9 4 48 420) [.int x0, .int x1] [("java/lang/IndexOutOfBoundsException", 1), ("java/lang/IllegalArgumentException", 2), ("java/lang/IllegalStateException", 3)] := by
  rcases n_dec (n := 3) (by omega) x0 with hno | ⟨k0, hk3, rfl⟩
  · exact PR.ex (fun _ => C_replace_noC hX.1 hl hC hno) (fun _ => D_replace_noC hX hC hM hno) (by simp)
  by_cases ho : okI x1
  · rcases (show f 9 k0 = 0 ∨ f 9 k0 = 1 by have := (hC.cu hk3).2.1; omega) with h9 | h9
    · exact PR.ex (fun _ => C_replace_noT hX.1 hl hC hk3 ho h9) (fun _ => D_replace_noT hX hC hM hk3 ho h9) (by simp)
    have c := (hC.cu hk3).2.2 h9
    have m := (hM.2.2.2 k0 hk3).2.2 h9
    have m9 := (hM.2.2.2 k0 hk3).1
    have m6 := (hM.2.2.2 k0 hk3).2.1
    have hw := (hC.cu hk3).1
    have W := hM.wh hC hw c.1
    by_cases hl9 : f 8 k0 = 4294967295
    · refine PR.ok (fun _ => C_replace_ref hX.1 hC hk3 ho h9 hl9) (fun _ => D_replace_ref hX hC hM hk3 ho h9 hl9) ?_ ?_ ?_ ?_
      · exact hC
      · exact hB
      · exact hM
      · rfl
    refine PR.ok (fun _ => C_replace_ok hX.1 hC hk3 ho h9 hl9) (fun _ => D_replace_ok hX hC hM hk3 ho h9 hl9) ?_ ?_ ?_ ?_
    · exact hC
    · exact hB.up (IB.ok ho)
    · rw [m.1, m.2.2]
      exact MR_up hM W.2.2.2.2.2.1
    · rw [m.2.1]
  · exact PR.ex (fun _ => C_replace_noI hX.1 hl hC hk3 ho) (fun _ => D_replace_noI hX hC hM hk3 ho) (by simp)
theorem P_ofCursor {l : Launch} {D : va_G} {cy : Nat → ClassId} {X : (Nat → Prop) → State → Heap → Prop} {a : Nat → Nat → Nat} {ba ra : Nat → Nat} {f : Nat → Nat → Nat} {r : Nat → Nat → Int32} {hf : Nat → Nat → Nat} {hq : Nat → Nat → Int32} {kn th : Int32} {sm : Int64} (hX : EnvM X cy) (hl : l.stackTraces = false) (hC : CInv f) (hB : RB r) (hM : MR f r hf hq) (x0 x1 : Int32) : PR l D cy X a ba ra f r hf hq kn th sm yX2_ofCursor cX2_ofCursor 4 (some .int) yX4_ofCursor cX4_ofCursor 3 (some .int) (rmk 9 4 48 420) [.int x0, .int x1] [("java/lang/IndexOutOfBoundsException", 1), ("java/lang/IllegalArgumentException", 2)] := by
  rcases n_dec (n := 3) (by omega) x0 with hno | ⟨k0, hk3, rfl⟩
  · exact PR.ex (fun _ => C_ofCursor_noC hX.1 hl hC hno) (fun _ => D_ofCursor_noC hX hC hM hno) (by simp)
  rcases n_dec (n := 5) (by omega) x1 with hno | ⟨q0, hqb, rfl⟩
  · exact PR.ex (fun _ => C_ofCursor_noQ hX.1 hl hC hk3 hno) (fun _ => D_ofCursor_noQ hX hC hM hk3 hno) (by simp)
  refine PR.ok (fun _ => C_ofCursor_all hX.1 hC hk3 hqb) (fun _ => D_ofCursor_ok hX hC hM hk3 hqb) ?_ ?_ ?_ ?_
  · exact hC
  · exact hB
  · exact hM
  · have m9 := (hM.2.2.2 k0 hk3).1
    unfold cqM cqF
    rw [m9]
    by_cases h9 : f 9 k0 = 0
    · rw [if_pos h9, if_pos h9]
    · have h91 : f 9 k0 = 1 := by have := (hC.cu hk3).2.1; omega
      have m := (hM.2.2.2 k0 hk3).2.2 h91
      have c := (hC.cu hk3).2.2 h91
      have W := hM.wh hC (hC.cu hk3).1 c.1
      rw [if_neg h9, if_neg h9, m.1, m.2.1, W.1]
theorem P_house {l : Launch} {D : va_G} {cy : Nat → ClassId} {X : (Nat → Prop) → State → Heap → Prop} {a : Nat → Nat → Nat} {ba ra : Nat → Nat} {f : Nat → Nat → Nat} {r : Nat → Nat → Int32} {hf : Nat → Nat → Nat} {hq : Nat → Nat → Int32} {kn th : Int32} {sm : Int64} (hX : EnvM X cy) (hl : l.stackTraces = false) (hC : CInv f) (hB : RB r) (hM : MR f r hf hq) (x0 : Int32) : PR l D cy X a ba ra f r hf hq kn th sm yX2_house cX2_house 2 (some .int) yX4_house cX4_house 2 (some .int) (rmk 9 4 48 420) [.int x0] [("java/lang/IllegalArgumentException", 1)] := by
  rcases n_dec (n := 4) (by omega) x0 with hno | ⟨q0, hqb, rfl⟩
  · exact PR.ex (fun _ => C_house_noQ hX.1 hl hC hno) (fun _ => D_house_noQ hX hC hM hno) (by simp)
  refine PR.ok (fun _ => C_house_all hX.1 hC hqb) (fun _ => D_house_ok hX hC hM hqb) ?_ ?_ ?_ ?_
  · exact hC
  · exact hB
  · exact hM
  · unfold hoM hhF
    rw [smF_same (v := hf 4) (v' := f 4) 4 0 0 (fun q a b => (hM.2.1 q (by omega)).1), smF_same (v := hf 5) (v' := f 5) 4 4 0 (fun q a b => (hM.2.2.1 q a (by omega)).1), smF_same (v := hf 9) (v' := f 9) 3 0 0 (fun q a b => (hM.2.2.2 q (by omega)).1)]
