/-! THE CLASS'S CALL BESIDE THE MODEL'S, FOURTH -/
theorem P_window {l : Launch} {D : va_G} {cy : Nat → ClassId} {X : (Nat → Prop) → State → Heap → Prop} {a : Nat → Nat → Nat} {ba ra : Nat → Nat} {f : Nat → Nat → Nat} {r : Nat → Nat → Int32} {hf : Nat → Nat → Nat} {hq : Nat → Nat → Int32} {kn th : Int32} {sm : Int64} (hX : EnvM X cy) (hl : l.stackTraces = false) (hC : CInv f) (hB : RB r) (hM : MR f r hf hq) (x0 x1 x2 x3 : Int32) : PR l D cy X a ba ra f r hf hq kn th sm yX2_window cX2_window 6 (some .int) yX4_window cX4_window 6 (some .int) (rmk 9 4 48 420) [.int x0, .int x1, .int x2, .int x3] [("java/lang/IndexOutOfBoundsException", 1), ("java/lang/IllegalStateException", 2)] := by
  rcases n_dec (n := 4) (by omega) x0 with hno | ⟨k0, hk4, rfl⟩
  · exact PR.ex (fun _ => C_window_noK hX.1 hl hC hno) (fun _ => D_window_noK hX hC hM hno) (by simp)
  rcases w_dec f x1 with hno | ⟨w, hw, h5w, rfl⟩
  · exact PR.ex (fun _ => C_window_noW hX.1 hl hC hk4 hno) (fun _ => D_window_noW hX hC hM hk4 hno) (by simp)
  have W := hM.wh hC hw h5w
  by_cases hh : hol f (4 + k0) w = 0
  · rcases s_dec (n := f 4 w) (by omega) x2 x3 with hno | ⟨p0, q0, hp, hqb, rfl, rfl⟩
    · refine PR.ok (fun _ => C_window_ref hX.1 hC hk4 hw h5w hh hno) (fun _ => D_window_ref hX hC hM hk4 hw h5w hh hno) ?_ ?_ ?_ ?_
      · exact hC
      · exact hB
      · exact hM
      · rfl
    have c1 := wnF_keep hC (show 4 ≤ 4 + k0 by omega) (by omega) hw h5w hh hp hqb
    rcases (show f 5 (4 + k0) = 0 ∨ f 5 (4 + k0) = 1 by have := hC.h5 (4 + k0) (by omega); omega) with hz | hz
    · refine PR.ok (fun _ => C_window_ok hX.1 hC hk4 hw h5w hh hp hqb) (fun _ => D_window_okn hX hC hM hk4 hw h5w hh hp hqb hz) ?_ ?_ ?_ ?_
      · exact c1
      · exact hB
      · exact MR_winn hC hM (by omega) (by omega) hw h5w hh hz
      · rfl
    · refine PR.ok (fun _ => C_window_ok hX.1 hC hk4 hw h5w hh hp hqb) (fun _ => D_window_oky hX hC hM hk4 hw h5w hh hp hqb hz) ?_ ?_ ?_ ?_
      · exact c1
      · exact hB
      · exact MR_winy hC hM (by omega) (by omega) hw h5w hh hz
      · rfl
  · exact PR.ex (fun _ => C_window_hold hX.1 hl hC hk4 hw h5w hh) (fun _ => D_window_hold hX hC hM hk4 hw h5w hh) (by simp)
theorem P_close {l : Launch} {D : va_G} {cy : Nat → ClassId} {X : (Nat → Prop) → State → Heap → Prop} {a : Nat → Nat → Nat} {ba ra : Nat → Nat} {f : Nat → Nat → Nat} {r : Nat → Nat → Int32} {hf : Nat → Nat → Nat} {hq : Nat → Nat → Int32} {kn th : Int32} {sm : Int64} (hX : EnvM X cy) (hl : l.stackTraces = false) (hC : CInv f) (hB : RB r) (hM : MR f r hf hq) (x0 : Int32) : PR l D cy X a ba ra f r hf hq kn th sm yX2_close cX2_close 2 (some .int) yX4_close cX4_close 2 (some .int) (rmk 9 4 48 420) [.int x0] [("java/lang/IndexOutOfBoundsException", 1)] := by
  rcases n_dec (n := 4) (by omega) x0 with hno | ⟨k0, hk4, rfl⟩
  · exact PR.ex (fun _ => C_close_noK hX.1 hl hC hno) (fun _ => D_close_noK hX hC hM hno) (by simp)
  rcases (show f 5 (4 + k0) = 0 ∨ f 5 (4 + k0) = 1 by have := hC.h5 (4 + k0) (by omega); omega) with hz | hz
  · refine PR.ok (fun _ => C_close_ref hX.1 hC hk4 hz) (fun _ => D_close_ref hX hC hM hk4 hz) ?_ ?_ ?_ ?_
    · exact hC
    · exact hB
    · exact hM
    · rfl
  have m1 := MR_close hC hM (show 4 ≤ 4 + k0 by omega) (by omega) hz
  refine PR.ok (fun _ => C_close_ok hX.1 hC hk4 hz) (fun _ => D_close_ok hX hC hM hk4 hz) ?_ ?_ ?_ ?_
  · exact dmF_keep hC (by omega) (by omega)
  · exact hB
  · exact m1
  · exact congrArg nI (smF_same _ _ _ (fun q a b => (m1.2.2.1 q a (by omega)).1))
theorem P_ofWindow {l : Launch} {D : va_G} {cy : Nat → ClassId} {X : (Nat → Prop) → State → Heap → Prop} {a : Nat → Nat → Nat} {ba ra : Nat → Nat} {f : Nat → Nat → Nat} {r : Nat → Nat → Int32} {hf : Nat → Nat → Nat} {hq : Nat → Nat → Int32} {kn th : Int32} {sm : Int64} (hX : EnvM X cy) (hl : l.stackTraces = false) (hC : CInv f) (hB : RB r) (hM : MR f r hf hq) (x0 x1 : Int32) : PR l D cy X a ba ra f r hf hq kn th sm yX2_ofWindow cX2_ofWindow 4 (some .int) yX4_ofWindow cX4_ofWindow 3 (some .int) (rmk 9 4 48 420) [.int x0, .int x1] [("java/lang/IndexOutOfBoundsException", 1), ("java/lang/IllegalArgumentException", 2)] := by
  rcases n_dec (n := 4) (by omega) x0 with hno | ⟨k0, hk4, rfl⟩
  · exact PR.ex (fun _ => C_ofWindow_noK hX.1 hl hC hno) (fun _ => D_ofWindow_noK hX hC hM hno) (by simp)
  rcases n_dec (n := 3) (by omega) x1 with hno | ⟨q0, hqb, rfl⟩
  · exact PR.ex (fun _ => C_ofWindow_noQ hX.1 hl hC hk4 hno) (fun _ => D_ofWindow_noQ hX hC hM hk4 hno) (by simp)
  refine PR.ok (fun _ => C_ofWindow_all hX.1 hC hk4 hqb) (fun _ => D_ofWindow_ok hX hC hM hk4 hqb) ?_ ?_ ?_ ?_
  · exact hC
  · exact hB
  · exact hM
  · have e := hM.2.2.1 (4 + k0) (by omega) (by omega)
    have a := hC.h5 (4 + k0) (by omega)
    unfold wqM wqF
    rw [e.1]
    by_cases h5 : f 5 (4 + k0) = 0
    · rw [if_pos h5, if_pos h5]
    · have g1 := hM.1 (4 + k0) (by omega) (by omega) (by omega)
      rw [if_neg h5, if_neg h5, e.2.2 (by omega), g1.1]
      (repeat' split) <;> rfl
theorem P_open {l : Launch} {D : va_G} {cy : Nat → ClassId} {X : (Nat → Prop) → State → Heap → Prop} {a : Nat → Nat → Nat} {ba ra : Nat → Nat} {f : Nat → Nat → Nat} {r : Nat → Nat → Int32} {hf : Nat → Nat → Nat} {hq : Nat → Nat → Int32} {kn th : Int32} {sm : Int64} (hX : EnvM X cy) (hl : l.stackTraces = false) (hC : CInv f) (hB : RB r) (hM : MR f r hf hq) (x0 x1 x2 : Int32) : PR l D cy X a ba ra f r hf hq kn th sm yX2_open cX2_open 4 (some .int) yX4_open cX4_open 4 (some .int) (rmk 9 4 48 420) [.int x0, .int x1, .int x2] [("java/lang/IndexOutOfBoundsException", 1)] := by
  rcases n_dec (n := 3) (by omega) x0 with hno | ⟨k0, hk3, rfl⟩
  · exact PR.ex (fun _ => C_open_noC hX.1 hl hC hno) (fun _ => D_open_noC hX hC hM hno) (by simp)
  rcases w_dec f x1 with hno | ⟨w, hw, h5w, rfl⟩
  · exact PR.ex (fun _ => C_open_noW hX.1 hl hC hk3 hno) (fun _ => D_open_noW hX hC hM hk3 hno) (by simp)
  have W := hM.wh hC hw h5w
  rcases l_dec (n := f 4 w) (by omega) x2 with hno | ⟨p0, hp, rfl⟩
  · exact PR.ex (fun _ => C_open_noP hX.1 hl hC hk3 hw h5w hno) (fun _ => D_open_noP hX hC hM hk3 hw h5w hno) (by simp)
  refine PR.ok (fun _ => C_open_ok hX.1 hC hk3 hw h5w hp) (fun _ => D_open_ok hX hC hM hk3 hw h5w hp) ?_ ?_ ?_ ?_
  · exact opF_keep hC hw h5w hp
  · exact hB
  · refine MR_cur (k0 := k0) hM (fun fl i h => ?_) (fun fl i h => ?_) ?_ ?_ (fun _ => ⟨?_, ?_, ?_⟩)
    · simp only [up2]
      rw [if_neg (by omega), if_neg (by omega), if_neg (by omega), if_neg (by omega)]
    · simp only [up2]
      rw [if_neg (by omega), if_neg (by omega), if_neg (by omega), if_neg (by omega)]
    · simp [up2]
    · simpa [up2] using hw
    · simp [up2]
    · simp [up2]
    · simp [up2]
  · rw [W.1]
theorem P_shut {l : Launch} {D : va_G} {cy : Nat → ClassId} {X : (Nat → Prop) → State → Heap → Prop} {a : Nat → Nat → Nat} {ba ra : Nat → Nat} {f : Nat → Nat → Nat} {r : Nat → Nat → Int32} {hf : Nat → Nat → Nat} {hq : Nat → Nat → Int32} {kn th : Int32} {sm : Int64} (hX : EnvM X cy) (hl : l.stackTraces = false) (hC : CInv f) (hB : RB r) (hM : MR f r hf hq) (x0 : Int32) : PR l D cy X a ba ra f r hf hq kn th sm yX2_shut cX2_shut 3 (some .int) yX4_shut cX4_shut 3 (some .int) (rmk 9 4 48 420) [.int x0] [("java/lang/IndexOutOfBoundsException", 1)] := by
  rcases n_dec (n := 3) (by omega) x0 with hno | ⟨k0, hk3, rfl⟩
  · exact PR.ex (fun _ => C_shut_noC hX.1 hl hC hno) (fun _ => D_shut_noC hX hC hM hno) (by simp)
  refine PR.ok (fun _ => C_shut_ok hX.1 hC hk3) (fun _ => D_shut_ok hX hC hM hk3) ?_ ?_ ?_ ?_
  · exact shF_keep hC hk3
  · exact hB
  · refine MR_cur (k0 := k0) hM (fun fl i h => ?_) (fun fl i h => ?_) ?_ ?_ (fun z => ?_)
    · simp only [up2]
      rw [if_neg (by omega)]
    · simp only [up2]
      rw [if_neg (by omega)]
    · rw [up2_eq, up2_eq]
    · exact (hM.2.2.2 k0 hk3).2.1
    · rw [up2_eq] at z
      cases z
  · exact congrArg nI (hM.2.2.2 k0 hk3).1
theorem P_next {l : Launch} {D : va_G} {cy : Nat → ClassId} {X : (Nat → Prop) → State → Heap → Prop} {a : Nat → Nat → Nat} {ba ra : Nat → Nat} {f : Nat → Nat → Nat} {r : Nat → Nat → Int32} {hf : Nat → Nat → Nat} {hq : Nat → Nat → Int32} {kn th : Int32} {sm : Int64} (hX : EnvM X cy) (hl : l.stackTraces = false) (hC : CInv f) (hB : RB r) (hM : MR f r hf hq) (x0 : Int32) : PR l D cy X a ba ra f r hf hq kn th sm yX2_next cX2_next 2 (some .int) yX4_next cX4_next 2 (some .int) (rmk 9 4 48 420) [.int x0] [("java/lang/IndexOutOfBoundsException", 1), ("java/lang/IllegalStateException", 2)] := by
  rcases n_dec (n := 3) (by omega) x0 with hno | ⟨k0, hk3, rfl⟩
  · exact PR.ex (fun _ => C_next_noC hX.1 hl hC hno) (fun _ => D_next_noC hX hC hM hno) (by simp)
  rcases (show f 9 k0 = 0 ∨ f 9 k0 = 1 by have := (hC.cu hk3).2.1; omega) with h9 | h9
  · exact PR.ex (fun _ => C_next_noT hX.1 hl hC hk3 h9) (fun _ => D_next_noT hX hC hM hk3 h9) (by simp)
  have c := (hC.cu hk3).2.2 h9
  have m := (hM.2.2.2 k0 hk3).2.2 h9
  have m9 := (hM.2.2.2 k0 hk3).1
  have m6 := (hM.2.2.2 k0 hk3).2.1
  have hw := (hC.cu hk3).1
  have W := hM.wh hC hw c.1
  rcases Nat.lt_or_ge (f 7 k0) (f 4 (f 6 k0)) with hx | hx0
  · refine PR.ok (fun _ => C_next_ok hX.1 hC hk3 h9 hx) (fun _ => D_next_ok hX hC hM hk3 h9 hx) ?_ ?_ ?_ ?_
    · exact nxF_keep hC hk3 h9 hx
    · exact hB
    · refine MR_cur (k0 := k0) hM (fun fl i h => ?_) (fun fl i h => ?_) ?_ ?_ (fun _ => ⟨?_, ?_, ?_⟩)
      · simp only [up2]
        rw [if_neg (by omega), if_neg (by omega)]
      · simp only [up2]
        rw [if_neg (by omega), if_neg (by omega)]
      · simpa [up2] using m9
      · simpa [up2] using m6
      · simpa [up2] using m.1
      · simp [up2, m.2.1]
      · simp [up2, m.2.1]
    · rw [m.1, m.2.1]
      exact hM.it hC hw c.1 hx
  have hx : f 7 k0 = f 4 (f 6 k0) := by omega
  refine PR.ok (fun _ => C_next_end hX.1 hC hk3 h9 hx) (fun _ => D_next_end hX hC hM hk3 h9 hx) ?_ ?_ ?_ ?_
  · exact hC
  · exact hB
  · exact hM
  · rfl
theorem P_previous {l : Launch} {D : va_G} {cy : Nat → ClassId} {X : (Nat → Prop) → State → Heap → Prop} {a : Nat → Nat → Nat} {ba ra : Nat → Nat} {f : Nat → Nat → Nat} {r : Nat → Nat → Int32} {hf : Nat → Nat → Nat} {hq : Nat → Nat → Int32} {kn th : Int32} {sm : Int64} (hX : EnvM X cy) (hl : l.stackTraces = false) (hC : CInv f) (hB : RB r) (hM : MR f r hf hq) (x0 : Int32) : PR l D cy X a ba ra f r hf hq kn th sm yX2_previous cX2_previous 2 (some .int) yX4_previous cX4_previous 2 (some .int) (rmk 9 4 48 420) [.int x0] [("java/lang/IndexOutOfBoundsException", 1), ("java/lang/IllegalStateException", 2)] := by
  rcases n_dec (n := 3) (by omega) x0 with hno | ⟨k0, hk3, rfl⟩
  · exact PR.ex (fun _ => C_previous_noC hX.1 hl hC hno) (fun _ => D_previous_noC hX hC hM hno) (by simp)
  rcases (show f 9 k0 = 0 ∨ f 9 k0 = 1 by have := (hC.cu hk3).2.1; omega) with h9 | h9
  · exact PR.ex (fun _ => C_previous_noT hX.1 hl hC hk3 h9) (fun _ => D_previous_noT hX hC hM hk3 h9) (by simp)
  have c := (hC.cu hk3).2.2 h9
  have m := (hM.2.2.2 k0 hk3).2.2 h9
  have m9 := (hM.2.2.2 k0 hk3).1
  have m6 := (hM.2.2.2 k0 hk3).2.1
  have hw := (hC.cu hk3).1
  have W := hM.wh hC hw c.1
  rcases Nat.eq_zero_or_pos (f 7 k0) with hx | hx
  · refine PR.ok (fun _ => C_previous_end hX.1 hC hk3 h9 hx) (fun _ => D_previous_end hX hC hM hk3 h9 hx) ?_ ?_ ?_ ?_
    · exact hC
    · exact hB
    · exact hM
    · rfl
  refine PR.ok (fun _ => C_previous_ok hX.1 hC hk3 h9 hx) (fun _ => D_previous_ok hX hC hM hk3 h9 hx) ?_ ?_ ?_ ?_
  · exact pvF_keep hC hk3 h9 hx
  · exact hB
  · refine MR_cur (k0 := k0) hM (fun fl i h => ?_) (fun fl i h => ?_) ?_ ?_ (fun _ => ⟨?_, ?_, ?_⟩)
    · simp only [up2]
      rw [if_neg (by omega), if_neg (by omega)]
    · simp only [up2]
      rw [if_neg (by omega), if_neg (by omega)]
    · simpa [up2] using m9
    · simpa [up2] using m6
    · simpa [up2] using m.1
    · simp [up2, m.2.1]
    · simp [up2, m.2.1]
  · rw [m.1, m.2.1]
    exact hM.it hC hw c.1 (by omega)
