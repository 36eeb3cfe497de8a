/-! CONTRACTS of the model: sorting -/
theorem dX4_isAhead_0 : decode cX4_isAhead 0 = .ok (.iload_n 0, 1) := dqo_26 (kb_X4_isAhead_0 0 rfl)
theorem dX4_isAhead_1 : decode cX4_isAhead 1 = .ok (.ifCond .ne 14, 3) := dqo_154 0 14 (by decide) (kb_X4_isAhead_0 1 rfl) (kb_X4_isAhead_0 2 rfl) (kb_X4_isAhead_0 3 rfl)
theorem dX4_isAhead_4 : decode cX4_isAhead 4 = .ok (.iload_n 1, 1) := dqo_27 (kb_X4_isAhead_0 4 rfl)
theorem dX4_isAhead_5 : decode cX4_isAhead 5 = .ok (.iload_n 2, 1) := dqo_28 (kb_X4_isAhead_0 5 rfl)
theorem dX4_isAhead_6 : decode cX4_isAhead 6 = .ok (.if_icmp .le 7, 3) := dqo_164 0 7 (by decide) (kb_X4_isAhead_0 6 rfl) (kb_X4_isAhead_0 7 rfl) (kb_X4_isAhead_0 8 rfl)
theorem dX4_isAhead_9 : decode cX4_isAhead 9 = .ok (.iconst 1, 1) := dqo_4 (kb_X4_isAhead_0 9 rfl)
theorem dX4_isAhead_10 : decode cX4_isAhead 10 = .ok (.goto 4, 3) := dqo_167 0 4 (by decide) (kb_X4_isAhead_0 10 rfl) (kb_X4_isAhead_0 11 rfl) (kb_X4_isAhead_0 12 rfl)
theorem dX4_isAhead_13 : decode cX4_isAhead 13 = .ok (.iconst 0, 1) := dqo_3 (kb_X4_isAhead_0 13 rfl)
theorem dX4_isAhead_14 : decode cX4_isAhead 14 = .ok (.ireturn, 1) := dqo_172 (kb_X4_isAhead_0 14 rfl)
set_option maxRecDepth 100000 in
set_option maxHeartbeats 4000000 in
theorem D_isAhead0 {l : Launch} {D : va_G} {cy : Nat → ClassId} {X : (Nat → Prop) → State → Heap → Prop} {ba ra : Nat → Nat} {hf : Nat → Nat → Nat} {hq : Nat → Nat → Int32} {kn th : Int32} {sm : Int64} {Y : va_W} {x : Int32} {y : Int32} (hX : EnvM X cy) (hx : IB x) (hy : IB y) : Cd l D cy X yX4_isAhead cX4_isAhead 3 (some .boolean) (rmz 0 0) [.int (nI 0), .int x, .int y] (WM cy ba ra hf hq kn th sm ++ Y) (some (.int (nI (ahF 0 x y)))) (WM cy ba ra hf hq kn th sm ++ Y) := by
  refine Cm.of [some (.int (nI 0)), some (.int x), some (.int y)] pn_X4 rfl (Nat.le_of_ble_eq_true rfl) ?_
  intro p e s m args below meth c A C hE hr hnt hn
  refine r_iload_n C dX4_isAhead_0 rfl ?_
  refine r_ifN_ne (a := 0) (tgt := 15) C (by first | omega | (simp [up2, *]; done) | (simp [up2, *]; omega) | (simp only [up2_eq]; omega) | (split <;> omega)) dX4_isAhead_1 (by decide) (fun h1_1 => ?_) (fun h1_1 => ?_)
  · exact absurd h1_1 (by first | omega | (simp [up2, *]; done) | (simp [up2, *]; omega) | (simp only [up2_eq]; omega) | (split <;> omega))
  · skip
    refine r_iload_n C dX4_isAhead_4 rfl ?_
    refine r_iload_n C dX4_isAhead_5 rfl ?_
    refine r_ic_le (tgt := 13) C dX4_isAhead_6 (by decide) (fun h6_2 => ?_) (fun h6_2 => ?_)
    · first
      | exfalso; first | omega | contradiction
      | skip
        refine r_iconst (v := (nI 0)) C dX4_isAhead_13 (by decide) ?_
        exact r_zret C hr (by first | omega | (simp [up2, *]; done) | (simp [up2, *]; omega) | (simp only [up2_eq]; omega) | (split <;> omega)) dX4_isAhead_14 ⟨by rw [ah_0 hx hy]; first | rw [if_pos (by first | assumption | exact Int32.not_le.mp (by assumption) | exact Int32.not_lt.mp (by assumption) | exact Nat.not_le.mp (by assumption))] | rw [if_neg (Int32.not_lt.mpr (by assumption))], rfl⟩ (Nat.le_of_ble_eq_true rfl) (Nat.le_of_ble_eq_true rfl)
    · first
      | exfalso; first | omega | contradiction
      | skip
        refine r_iconst (v := (nI 1)) C dX4_isAhead_9 (by decide) ?_
        refine r_goto (tgt := 14) C dX4_isAhead_10 (by decide) ?_
        exact r_zret C hr (by first | omega | (simp [up2, *]; done) | (simp [up2, *]; omega) | (simp only [up2_eq]; omega) | (split <;> omega)) dX4_isAhead_14 ⟨by rw [ah_0 hx hy]; first | rw [if_pos (by first | assumption | exact Int32.not_le.mp (by assumption) | exact Int32.not_lt.mp (by assumption) | exact Nat.not_le.mp (by assumption))] | rw [if_neg (Int32.not_lt.mpr (by assumption))], rfl⟩ (Nat.le_of_ble_eq_true rfl) (Nat.le_of_ble_eq_true rfl)
theorem dX4_isAhead_15 : decode cX4_isAhead 15 = .ok (.iload_n 0, 1) := dqo_26 (kb_X4_isAhead_0 15 rfl)
theorem dX4_isAhead_16 : decode cX4_isAhead 16 = .ok (.iconst 1, 1) := dqo_4 (kb_X4_isAhead_0 16 rfl)
theorem dX4_isAhead_17 : decode cX4_isAhead 17 = .ok (.if_icmp .ne 32, 3) := dqo_160 0 32 (by decide) (kb_X4_isAhead_0 17 rfl) (kb_X4_isAhead_0 18 rfl) (kb_X4_isAhead_0 19 rfl)
theorem dX4_isAhead_20 : decode cX4_isAhead 20 = .ok (.iload_n 1, 1) := dqo_27 (kb_X4_isAhead_0 20 rfl)
theorem dX4_isAhead_21 : decode cX4_isAhead 21 = .ok (.bipush 10, 2) := dqo_16 10 (by decide) (kb_X4_isAhead_0 21 rfl) (kb_X4_isAhead_0 22 rfl)
theorem dX4_isAhead_23 : decode cX4_isAhead 23 = .ok (.irem, 1) := dqo_112 (kb_X4_isAhead_0 23 rfl)
theorem dX4_isAhead_24 : decode cX4_isAhead 24 = .ok (.bipush 10, 2) := dqo_16 10 (by decide) (kb_X4_isAhead_0 24 rfl) (kb_X4_isAhead_0 25 rfl)
theorem dX4_isAhead_26 : decode cX4_isAhead 26 = .ok (.iadd, 1) := dqo_96 (kb_X4_isAhead_0 26 rfl)
theorem dX4_isAhead_27 : decode cX4_isAhead 27 = .ok (.bipush 10, 2) := dqo_16 10 (by decide) (kb_X4_isAhead_0 27 rfl) (kb_X4_isAhead_0 28 rfl)
theorem dX4_isAhead_29 : decode cX4_isAhead 29 = .ok (.irem, 1) := dqo_112 (kb_X4_isAhead_0 29 rfl)
theorem dX4_isAhead_30 : decode cX4_isAhead 30 = .ok (.iload_n 2, 1) := dqo_28 (kb_X4_isAhead_0 30 rfl)
theorem dX4_isAhead_31 : decode cX4_isAhead 31 = .ok (.bipush 10, 2) := dqo_16 10 (by decide) (kb_X4_isAhead_0 31 rfl) (kb_X4_isAhead_0 32 rfl)
theorem dX4_isAhead_33 : decode cX4_isAhead 33 = .ok (.irem, 1) := dqo_112 (kb_X4_isAhead_0 33 rfl)
theorem dX4_isAhead_34 : decode cX4_isAhead 34 = .ok (.bipush 10, 2) := dqo_16 10 (by decide) (kb_X4_isAhead_0 34 rfl) (kb_X4_isAhead_0 35 rfl)
theorem dX4_isAhead_36 : decode cX4_isAhead 36 = .ok (.iadd, 1) := dqo_96 (kb_X4_isAhead_0 36 rfl)
theorem dX4_isAhead_37 : decode cX4_isAhead 37 = .ok (.bipush 10, 2) := dqo_16 10 (by decide) (kb_X4_isAhead_0 37 rfl) (kb_X4_isAhead_0 38 rfl)
theorem dX4_isAhead_39 : decode cX4_isAhead 39 = .ok (.irem, 1) := dqo_112 (kb_X4_isAhead_0 39 rfl)
theorem dX4_isAhead_40 : decode cX4_isAhead 40 = .ok (.if_icmp .ge 7, 3) := dqo_162 0 7 (by decide) (kb_X4_isAhead_0 40 rfl) (kb_X4_isAhead_0 41 rfl) (kb_X4_isAhead_0 42 rfl)
theorem dX4_isAhead_43 : decode cX4_isAhead 43 = .ok (.iconst 1, 1) := dqo_4 (kb_X4_isAhead_0 43 rfl)
theorem dX4_isAhead_44 : decode cX4_isAhead 44 = .ok (.goto 4, 3) := dqo_167 0 4 (by decide) (kb_X4_isAhead_0 44 rfl) (kb_X4_isAhead_0 45 rfl) (kb_X4_isAhead_0 46 rfl)
theorem dX4_isAhead_47 : decode cX4_isAhead 47 = .ok (.iconst 0, 1) := dqo_3 (kb_X4_isAhead_0 47 rfl)
theorem dX4_isAhead_48 : decode cX4_isAhead 48 = .ok (.ireturn, 1) := dqo_172 (kb_X4_isAhead_0 48 rfl)
set_option maxRecDepth 100000 in
set_option maxHeartbeats 4000000 in
theorem D_isAhead1 {l : Launch} {D : va_G} {cy : Nat → ClassId} {X : (Nat → Prop) → State → Heap → Prop} {ba ra : Nat → Nat} {hf : Nat → Nat → Nat} {hq : Nat → Nat → Int32} {kn th : Int32} {sm : Int64} {Y : va_W} {x : Int32} {y : Int32} (hX : EnvM X cy) (hx : IB x) (hy : IB y) : Cd l D cy X yX4_isAhead cX4_isAhead 3 (some .boolean) (rmz 0 0) [.int (nI 1), .int x, .int y] (WM cy ba ra hf hq kn th sm ++ Y) (some (.int (nI (ahF 1 x y)))) (WM cy ba ra hf hq kn th sm ++ Y) := by
  refine Cm.of [some (.int (nI 1)), some (.int x), some (.int y)] pn_X4 rfl (Nat.le_of_ble_eq_true rfl) ?_
  intro p e s m args below meth c A C hE hr hnt hn
  refine r_iload_n C dX4_isAhead_0 rfl ?_
  refine r_ifN_ne (a := 1) (tgt := 15) C (by first | omega | (simp [up2, *]; done) | (simp [up2, *]; omega) | (simp only [up2_eq]; omega) | (split <;> omega)) dX4_isAhead_1 (by decide) (fun h1_1 => ?_) (fun h1_1 => ?_)
  · skip
    refine r_iload_n C dX4_isAhead_15 rfl ?_
    refine r_iconst (v := (nI 1)) C dX4_isAhead_16 (by decide) ?_
    refine r_icN_ne (a := 1) (b := 1) (tgt := 49) C (by first | omega | (simp [up2, *]; done) | (simp [up2, *]; omega) | (simp only [up2_eq]; omega) | (split <;> omega)) (by first | omega | (simp [up2, *]; done) | (simp [up2, *]; omega) | (simp only [up2_eq]; omega) | (split <;> omega)) dX4_isAhead_17 (by decide) (fun h17_2 => ?_) (fun h17_2 => ?_)
    · exact absurd h17_2 (by first | omega | (simp [up2, *]; done) | (simp [up2, *]; omega) | (simp only [up2_eq]; omega) | (split <;> omega))
    · skip
      refine r_iload_n C dX4_isAhead_20 rfl ?_
      refine r_bipush (v := (nI 10)) C dX4_isAhead_21 (by decide) ?_
      refine r_irem C dX4_isAhead_23 (by decide) ?_
      refine r_bipush (v := (nI 10)) C dX4_isAhead_24 (by decide) ?_
      refine r_iadd C dX4_isAhead_26 ?_
      refine r_bipush (v := (nI 10)) C dX4_isAhead_27 (by decide) ?_
      refine r_irem C dX4_isAhead_29 (by decide) ?_
      refine r_eqi (mm_val (x := x) (n := 10) (by decide) (by decide)) ?_
      refine r_iload_n C dX4_isAhead_30 rfl ?_
      refine r_bipush (v := (nI 10)) C dX4_isAhead_31 (by decide) ?_
      refine r_irem C dX4_isAhead_33 (by decide) ?_
      refine r_bipush (v := (nI 10)) C dX4_isAhead_34 (by decide) ?_
      refine r_iadd C dX4_isAhead_36 ?_
      refine r_bipush (v := (nI 10)) C dX4_isAhead_37 (by decide) ?_
      refine r_irem C dX4_isAhead_39 (by decide) ?_
      refine r_eqi (mm_val (x := y) (n := 10) (by decide) (by decide)) ?_
      refine r_icN_ge (a := (shN x 10)) (b := (shN y 10)) (tgt := 47) C (Nat.lt_trans (shN_lt x (by decide)) (by decide)) (Nat.lt_trans (shN_lt y (by decide)) (by decide)) dX4_isAhead_40 (by decide) (fun h40_3 => ?_) (fun h40_3 => ?_)
      · first
        | exfalso; first | omega | contradiction
        | skip
          refine r_iconst (v := (nI 0)) C dX4_isAhead_47 (by decide) ?_
          exact r_zret C hr (by first | omega | (simp [up2, *]; done) | (simp [up2, *]; omega) | (simp only [up2_eq]; omega) | (split <;> omega)) dX4_isAhead_48 ⟨by rw [ah_1]; first | rw [if_pos (by first | assumption | exact Int32.not_le.mp (by assumption) | exact Int32.not_lt.mp (by assumption) | exact Nat.not_le.mp (by assumption))] | rw [if_neg (Nat.not_lt.mpr (by assumption))], rfl⟩ (Nat.le_of_ble_eq_true rfl) (Nat.le_of_ble_eq_true rfl)
      · first
        | exfalso; first | omega | contradiction
        | skip
          refine r_iconst (v := (nI 1)) C dX4_isAhead_43 (by decide) ?_
          refine r_goto (tgt := 48) C dX4_isAhead_44 (by decide) ?_
          exact r_zret C hr (by first | omega | (simp [up2, *]; done) | (simp [up2, *]; omega) | (simp only [up2_eq]; omega) | (split <;> omega)) dX4_isAhead_48 ⟨by rw [ah_1]; first | rw [if_pos (by first | assumption | exact Int32.not_le.mp (by assumption) | exact Int32.not_lt.mp (by assumption) | exact Nat.not_le.mp (by assumption))] | rw [if_neg (Nat.not_lt.mpr (by assumption))], rfl⟩ (Nat.le_of_ble_eq_true rfl) (Nat.le_of_ble_eq_true rfl)
  · exact absurd h1_1 (by first | omega | (simp [up2, *]; done) | (simp [up2, *]; omega) | (simp only [up2_eq]; omega) | (split <;> omega))
theorem dX4_isAhead_49 : decode cX4_isAhead 49 = .ok (.iload_n 0, 1) := dqo_26 (kb_X4_isAhead_0 49 rfl)
theorem dX4_isAhead_50 : decode cX4_isAhead 50 = .ok (.iconst 2, 1) := dqo_5 (kb_X4_isAhead_0 50 rfl)
theorem dX4_isAhead_51 : decode cX4_isAhead 51 = .ok (.if_icmp .ne 19, 3) := dqo_160 0 19 (by decide) (kb_X4_isAhead_0 51 rfl) (kb_X4_isAhead_0 52 rfl) (kb_X4_isAhead_0 53 rfl)
theorem dX4_isAhead_54 : decode cX4_isAhead 54 = .ok (.iload_n 1, 1) := dqo_27 (kb_X4_isAhead_0 54 rfl)
theorem dX4_isAhead_55 : decode cX4_isAhead 55 = .ok (.ifCond .ge 11, 3) := dqo_156 0 11 (by decide) (kb_X4_isAhead_0 55 rfl) (kb_X4_isAhead_0 56 rfl) (kb_X4_isAhead_0 57 rfl)
theorem dX4_isAhead_58 : decode cX4_isAhead 58 = .ok (.iload_n 2, 1) := dqo_28 (kb_X4_isAhead_0 58 rfl)
theorem dX4_isAhead_59 : decode cX4_isAhead 59 = .ok (.ifCond .lt 7, 3) := dqo_155 0 7 (by decide) (kb_X4_isAhead_0 59 rfl) (kb_X4_isAhead_0 60 rfl) (kb_X4_isAhead_0 61 rfl)
theorem dX4_isAhead_62 : decode cX4_isAhead 62 = .ok (.iconst 1, 1) := dqo_4 (kb_X4_isAhead_0 62 rfl)
theorem dX4_isAhead_63 : decode cX4_isAhead 63 = .ok (.goto 17, 3) := dqo_167 0 17 (by decide) (kb_X4_isAhead_0 63 rfl) (kb_X4_isAhead_1 0 rfl) (kb_X4_isAhead_1 1 rfl)
theorem dX4_isAhead_66 : decode cX4_isAhead 66 = .ok (.iconst 0, 1) := dqo_3 (kb_X4_isAhead_1 2 rfl)
theorem dX4_isAhead_67 : decode cX4_isAhead 67 = .ok (.goto 13, 3) := dqo_167 0 13 (by decide) (kb_X4_isAhead_1 3 rfl) (kb_X4_isAhead_1 4 rfl) (kb_X4_isAhead_1 5 rfl)
theorem dX4_isAhead_80 : decode cX4_isAhead 80 = .ok (.ireturn, 1) := dqo_172 (kb_X4_isAhead_1 16 rfl)
set_option maxRecDepth 100000 in
set_option maxHeartbeats 4000000 in
theorem D_isAhead2 {l : Launch} {D : va_G} {cy : Nat → ClassId} {X : (Nat → Prop) → State → Heap → Prop} {ba ra : Nat → Nat} {hf : Nat → Nat → Nat} {hq : Nat → Nat → Int32} {kn th : Int32} {sm : Int64} {Y : va_W} {x : Int32} {y : Int32} (hX : EnvM X cy) (hx : IB x) (hy : IB y) : Cd l D cy X yX4_isAhead cX4_isAhead 3 (some .boolean) (rmz 0 0) [.int (nI 2), .int x, .int y] (WM cy ba ra hf hq kn th sm ++ Y) (some (.int (nI (ahF 2 x y)))) (WM cy ba ra hf hq kn th sm ++ Y) := by
  refine Cm.of [some (.int (nI 2)), some (.int x), some (.int y)] pn_X4 rfl (Nat.le_of_ble_eq_true rfl) ?_
  intro p e s m args below meth c A C hE hr hnt hn
  refine r_iload_n C dX4_isAhead_0 rfl ?_
  refine r_ifN_ne (a := 2) (tgt := 15) C (by first | omega | (simp [up2, *]; done) | (simp [up2, *]; omega) | (simp only [up2_eq]; omega) | (split <;> omega)) dX4_isAhead_1 (by decide) (fun h1_1 => ?_) (fun h1_1 => ?_)
  · skip
    refine r_iload_n C dX4_isAhead_15 rfl ?_
    refine r_iconst (v := (nI 1)) C dX4_isAhead_16 (by decide) ?_
    refine r_icN_ne (a := 2) (b := 1) (tgt := 49) C (by first | omega | (simp [up2, *]; done) | (simp [up2, *]; omega) | (simp only [up2_eq]; omega) | (split <;> omega)) (by first | omega | (simp [up2, *]; done) | (simp [up2, *]; omega) | (simp only [up2_eq]; omega) | (split <;> omega)) dX4_isAhead_17 (by decide) (fun h17_2 => ?_) (fun h17_2 => ?_)
    · skip
      refine r_iload_n C dX4_isAhead_49 rfl ?_
      refine r_iconst (v := (nI 2)) C dX4_isAhead_50 (by decide) ?_
      refine r_icN_ne (a := 2) (b := 2) (tgt := 70) C (by first | omega | (simp [up2, *]; done) | (simp [up2, *]; omega) | (simp only [up2_eq]; omega) | (split <;> omega)) (by first | omega | (simp [up2, *]; done) | (simp [up2, *]; omega) | (simp only [up2_eq]; omega) | (split <;> omega)) dX4_isAhead_51 (by decide) (fun h51_3 => ?_) (fun h51_3 => ?_)
      · exact absurd h51_3 (by first | omega | (simp [up2, *]; done) | (simp [up2, *]; omega) | (simp only [up2_eq]; omega) | (split <;> omega))
      · skip
        refine r_iload_n C dX4_isAhead_54 rfl ?_
        refine r_if_ge (tgt := 66) C dX4_isAhead_55 (by decide) (fun h55_4 => ?_) (fun h55_4 => ?_)
        · first
          | exfalso; first | omega | contradiction
          | skip
            refine r_iconst (v := (nI 0)) C dX4_isAhead_66 (by decide) ?_
            refine r_goto (tgt := 80) C dX4_isAhead_67 (by decide) ?_
            exact r_zret C hr (by first | omega | (simp [up2, *]; done) | (simp [up2, *]; omega) | (simp only [up2_eq]; omega) | (split <;> omega)) dX4_isAhead_80 ⟨by rw [ah_2]; first | rw [if_pos ⟨(by first | assumption | exact Int32.not_le.mp (by assumption) | exact Int32.not_lt.mp (by assumption) | exact Nat.not_le.mp (by assumption)), (by first | assumption | exact Int32.not_le.mp (by assumption) | exact Int32.not_lt.mp (by assumption) | exact Nat.not_le.mp (by assumption))⟩] | rw [if_neg (fun z => absurd z.1 (Int32.not_lt.mpr (by assumption)))] | rw [if_neg (fun z => absurd z.2 (Int32.not_le.mpr (by assumption)))], rfl⟩ (Nat.le_of_ble_eq_true rfl) (Nat.le_of_ble_eq_true rfl)
        · first
          | exfalso; first | omega | contradiction
          | skip
            refine r_iload_n C dX4_isAhead_58 rfl ?_
            refine r_if_lt (tgt := 66) C dX4_isAhead_59 (by decide) (fun h59_5 => ?_) (fun h59_5 => ?_)
            · first
              | exfalso; first | omega | contradiction
              | skip
                refine r_iconst (v := (nI 0)) C dX4_isAhead_66 (by decide) ?_
                refine r_goto (tgt := 80) C dX4_isAhead_67 (by decide) ?_
                exact r_zret C hr (by first | omega | (simp [up2, *]; done) | (simp [up2, *]; omega) | (simp only [up2_eq]; omega) | (split <;> omega)) dX4_isAhead_80 ⟨by rw [ah_2]; first | rw [if_pos ⟨(by first | assumption | exact Int32.not_le.mp (by assumption) | exact Int32.not_lt.mp (by assumption) | exact Nat.not_le.mp (by assumption)), (by first | assumption | exact Int32.not_le.mp (by assumption) | exact Int32.not_lt.mp (by assumption) | exact Nat.not_le.mp (by assumption))⟩] | rw [if_neg (fun z => absurd z.1 (Int32.not_lt.mpr (by assumption)))] | rw [if_neg (fun z => absurd z.2 (Int32.not_le.mpr (by assumption)))], rfl⟩ (Nat.le_of_ble_eq_true rfl) (Nat.le_of_ble_eq_true rfl)
            · first
              | exfalso; first | omega | contradiction
              | skip
                refine r_iconst (v := (nI 1)) C dX4_isAhead_62 (by decide) ?_
                refine r_goto (tgt := 80) C dX4_isAhead_63 (by decide) ?_
                exact r_zret C hr (by first | omega | (simp [up2, *]; done) | (simp [up2, *]; omega) | (simp only [up2_eq]; omega) | (split <;> omega)) dX4_isAhead_80 ⟨by rw [ah_2]; first | rw [if_pos ⟨(by first | assumption | exact Int32.not_le.mp (by assumption) | exact Int32.not_lt.mp (by assumption) | exact Nat.not_le.mp (by assumption)), (by first | assumption | exact Int32.not_le.mp (by assumption) | exact Int32.not_lt.mp (by assumption) | exact Nat.not_le.mp (by assumption))⟩] | rw [if_neg (fun z => absurd z.1 (Int32.not_lt.mpr (by assumption)))] | rw [if_neg (fun z => absurd z.2 (Int32.not_le.mpr (by assumption)))], rfl⟩ (Nat.le_of_ble_eq_true rfl) (Nat.le_of_ble_eq_true rfl)
    · exact absurd h17_2 (by first | omega | (simp [up2, *]; done) | (simp [up2, *]; omega) | (simp only [up2_eq]; omega) | (split <;> omega))
  · exact absurd h1_1 (by first | omega | (simp [up2, *]; done) | (simp [up2, *]; omega) | (simp only [up2_eq]; omega) | (split <;> omega))
theorem dX4_isAhead_70 : decode cX4_isAhead 70 = .ok (.iload_n 1, 1) := dqo_27 (kb_X4_isAhead_1 6 rfl)
theorem dX4_isAhead_71 : decode cX4_isAhead 71 = .ok (.iload_n 2, 1) := dqo_28 (kb_X4_isAhead_1 7 rfl)
theorem dX4_isAhead_72 : decode cX4_isAhead 72 = .ok (.if_icmp .ge 7, 3) := dqo_162 0 7 (by decide) (kb_X4_isAhead_1 8 rfl) (kb_X4_isAhead_1 9 rfl) (kb_X4_isAhead_1 10 rfl)
theorem dX4_isAhead_75 : decode cX4_isAhead 75 = .ok (.iconst 1, 1) := dqo_4 (kb_X4_isAhead_1 11 rfl)
theorem dX4_isAhead_76 : decode cX4_isAhead 76 = .ok (.goto 4, 3) := dqo_167 0 4 (by decide) (kb_X4_isAhead_1 12 rfl) (kb_X4_isAhead_1 13 rfl) (kb_X4_isAhead_1 14 rfl)
theorem dX4_isAhead_79 : decode cX4_isAhead 79 = .ok (.iconst 0, 1) := dqo_3 (kb_X4_isAhead_1 15 rfl)
set_option maxRecDepth 100000 in
set_option maxHeartbeats 4000000 in
theorem D_isAhead3 {l : Launch} {D : va_G} {cy : Nat → ClassId} {X : (Nat → Prop) → State → Heap → Prop} {ba ra : Nat → Nat} {hf : Nat → Nat → Nat} {hq : Nat → Nat → Int32} {kn th : Int32} {sm : Int64} {Y : va_W} {x : Int32} {y : Int32} (hX : EnvM X cy) (hx : IB x) (hy : IB y) : Cd l D cy X yX4_isAhead cX4_isAhead 3 (some .boolean) (rmz 0 0) [.int (nI 3), .int x, .int y] (WM cy ba ra hf hq kn th sm ++ Y) (some (.int (nI (ahF 3 x y)))) (WM cy ba ra hf hq kn th sm ++ Y) := by
  refine Cm.of [some (.int (nI 3)), some (.int x), some (.int y)] pn_X4 rfl (Nat.le_of_ble_eq_true rfl) ?_
  intro p e s m args below meth c A C hE hr hnt hn
  refine r_iload_n C dX4_isAhead_0 rfl ?_
  refine r_ifN_ne (a := 3) (tgt := 15) C (by first | omega | (simp [up2, *]; done) | (simp [up2, *]; omega) | (simp only [up2_eq]; omega) | (split <;> omega)) dX4_isAhead_1 (by decide) (fun h1_1 => ?_) (fun h1_1 => ?_)
  · skip
    refine r_iload_n C dX4_isAhead_15 rfl ?_
    refine r_iconst (v := (nI 1)) C dX4_isAhead_16 (by decide) ?_
    refine r_icN_ne (a := 3) (b := 1) (tgt := 49) C (by first | omega | (simp [up2, *]; done) | (simp [up2, *]; omega) | (simp only [up2_eq]; omega) | (split <;> omega)) (by first | omega | (simp [up2, *]; done) | (simp [up2, *]; omega) | (simp only [up2_eq]; omega) | (split <;> omega)) dX4_isAhead_17 (by decide) (fun h17_2 => ?_) (fun h17_2 => ?_)
    · skip
      refine r_iload_n C dX4_isAhead_49 rfl ?_
      refine r_iconst (v := (nI 2)) C dX4_isAhead_50 (by decide) ?_
      refine r_icN_ne (a := 3) (b := 2) (tgt := 70) C (by first | omega | (simp [up2, *]; done) | (simp [up2, *]; omega) | (simp only [up2_eq]; omega) | (split <;> omega)) (by first | omega | (simp [up2, *]; done) | (simp [up2, *]; omega) | (simp only [up2_eq]; omega) | (split <;> omega)) dX4_isAhead_51 (by decide) (fun h51_3 => ?_) (fun h51_3 => ?_)
      · skip
        refine r_iload_n C dX4_isAhead_70 rfl ?_
        refine r_iload_n C dX4_isAhead_71 rfl ?_
        refine r_ic_ge (tgt := 79) C dX4_isAhead_72 (by decide) (fun h72_4 => ?_) (fun h72_4 => ?_)
        · first
          | exfalso; first | omega | contradiction
          | skip
            refine r_iconst (v := (nI 0)) C dX4_isAhead_79 (by decide) ?_
            exact r_zret C hr (by first | omega | (simp [up2, *]; done) | (simp [up2, *]; omega) | (simp only [up2_eq]; omega) | (split <;> omega)) dX4_isAhead_80 ⟨by rw [ah_3]; first | rw [if_pos (by first | assumption | exact Int32.not_le.mp (by assumption) | exact Int32.not_lt.mp (by assumption) | exact Nat.not_le.mp (by assumption))] | rw [if_neg (Int32.not_lt.mpr (by assumption))], rfl⟩ (Nat.le_of_ble_eq_true rfl) (Nat.le_of_ble_eq_true rfl)
        · first
          | exfalso; first | omega | contradiction
          | skip
            refine r_iconst (v := (nI 1)) C dX4_isAhead_75 (by decide) ?_
            refine r_goto (tgt := 80) C dX4_isAhead_76 (by decide) ?_
            exact r_zret C hr (by first | omega | (simp [up2, *]; done) | (simp [up2, *]; omega) | (simp only [up2_eq]; omega) | (split <;> omega)) dX4_isAhead_80 ⟨by rw [ah_3]; first | rw [if_pos (by first | assumption | exact Int32.not_le.mp (by assumption) | exact Int32.not_lt.mp (by assumption) | exact Nat.not_le.mp (by assumption))] | rw [if_neg (Int32.not_lt.mpr (by assumption))], rfl⟩ (Nat.le_of_ble_eq_true rfl) (Nat.le_of_ble_eq_true rfl)
      · exact absurd h51_3 (by first | omega | (simp [up2, *]; done) | (simp [up2, *]; omega) | (simp only [up2_eq]; omega) | (split <;> omega))
    · exact absurd h17_2 (by first | omega | (simp [up2, *]; done) | (simp [up2, *]; omega) | (simp only [up2_eq]; omega) | (split <;> omega))
  · exact absurd h1_1 (by first | omega | (simp [up2, *]; done) | (simp [up2, *]; omega) | (simp only [up2_eq]; omega) | (split <;> omega))
theorem D_isAhead {l : Launch} {D : va_G} {cy : Nat → ClassId} {X : (Nat → Prop) → State → Heap → Prop} {ba ra : Nat → Nat} {hf : Nat → Nat → Nat} {hq : Nat → Nat → Int32} {kn th : Int32} {sm : Int64} {Y : va_W} {b : Nat} {x y : Int32} (hX : EnvM X cy) (hb : b ≤ 3) (hx : IB x) (hy : IB y) : Cd l D cy X yX4_isAhead cX4_isAhead 3 (some .boolean) (rmz 0 0) [.int (nI b), .int x, .int y] (WM cy ba ra hf hq kn th sm ++ Y) (some (.int (nI (ahF b x y)))) (WM cy ba ra hf hq kn th sm ++ Y) := by
  rcases (show b = 0 ∨ b = 1 ∨ b = 2 ∨ b = 3 by omega) with rfl | rfl | rfl | rfl
  · exact D_isAhead0 hX hx hy
  · exact D_isAhead1 hX hx hy
  · exact D_isAhead2 hX hx hy
  · exact D_isAhead3 hX hx hy
theorem pk_X4_isAhead : PkS yX4_isAhead cX4_isAhead 3 (some .boolean) 3 := ⟨⟨qt_X4_isAhead, qz_X4, qc_X4_isAhead⟩, mh_X4.1, mh_X4.2, pd_19⟩
theorem dX4_sorted_0 : decode cX4_sorted 0 = .ok (.aload_n 0, 1) := dqo_42 (kb_X4_sorted_0 0 rfl)
theorem dX4_sorted_1 : decode cX4_sorted 1 = .ok (.iload_n 1, 1) := dqo_27 (kb_X4_sorted_0 1 rfl)
theorem dX4_sorted_2 : decode cX4_sorted 2 = .ok (.invokevirtual 95, 3) := dqo_182 0 95 (kb_X4_sorted_0 2 rfl) (kb_X4_sorted_0 3 rfl) (kb_X4_sorted_0 4 rfl)
theorem dX4_sorted_5 : decode cX4_sorted 5 = .ok (.astore_n 3, 1) := dqo_78 (kb_X4_sorted_0 5 rfl)
theorem dX4_sorted_6 : decode cX4_sorted 6 = .ok (.iconst 1, 1) := dqo_4 (kb_X4_sorted_0 6 rfl)
theorem dX4_sorted_7 : decode cX4_sorted 7 = .ok (.istore 4, 2) := dqo_54 4 (kb_X4_sorted_0 7 rfl) (kb_X4_sorted_0 8 rfl)
theorem dX4_sorted_9 : decode cX4_sorted 9 = .ok (.iload 4, 2) := dqo_21 4 (kb_X4_sorted_0 9 rfl) (kb_X4_sorted_0 10 rfl)
theorem dX4_sorted_11 : decode cX4_sorted 11 = .ok (.aload_n 3, 1) := dqo_45 (kb_X4_sorted_0 11 rfl)
theorem dX4_sorted_12 : decode cX4_sorted 12 = .ok (.arraylength, 1) := dqo_190 (kb_X4_sorted_0 12 rfl)
theorem dX4_sorted_13 : decode cX4_sorted 13 = .ok (.if_icmp .ge 65, 3) := dqo_162 0 65 (by decide) (kb_X4_sorted_0 13 rfl) (kb_X4_sorted_0 14 rfl) (kb_X4_sorted_0 15 rfl)
theorem dX4_sorted_16 : decode cX4_sorted 16 = .ok (.iload 4, 2) := dqo_21 4 (kb_X4_sorted_0 16 rfl) (kb_X4_sorted_0 17 rfl)
theorem dX4_sorted_18 : decode cX4_sorted 18 = .ok (.istore 5, 2) := dqo_54 5 (kb_X4_sorted_0 18 rfl) (kb_X4_sorted_0 19 rfl)
theorem dX4_sorted_20 : decode cX4_sorted 20 = .ok (.iload 5, 2) := dqo_21 5 (kb_X4_sorted_0 20 rfl) (kb_X4_sorted_0 21 rfl)
theorem dX4_sorted_22 : decode cX4_sorted 22 = .ok (.ifCond .le 50, 3) := dqo_158 0 50 (by decide) (kb_X4_sorted_0 22 rfl) (kb_X4_sorted_0 23 rfl) (kb_X4_sorted_0 24 rfl)
theorem dX4_sorted_25 : decode cX4_sorted 25 = .ok (.iload_n 2, 1) := dqo_28 (kb_X4_sorted_0 25 rfl)
theorem dX4_sorted_26 : decode cX4_sorted 26 = .ok (.aload_n 3, 1) := dqo_45 (kb_X4_sorted_0 26 rfl)
theorem dX4_sorted_27 : decode cX4_sorted 27 = .ok (.iload 5, 2) := dqo_21 5 (kb_X4_sorted_0 27 rfl) (kb_X4_sorted_0 28 rfl)
theorem dX4_sorted_29 : decode cX4_sorted 29 = .ok (.iaload, 1) := dqo_46 (kb_X4_sorted_0 29 rfl)
theorem dX4_sorted_30 : decode cX4_sorted 30 = .ok (.aload_n 3, 1) := dqo_45 (kb_X4_sorted_0 30 rfl)
theorem dX4_sorted_31 : decode cX4_sorted 31 = .ok (.iload 5, 2) := dqo_21 5 (kb_X4_sorted_0 31 rfl) (kb_X4_sorted_0 32 rfl)
theorem dX4_sorted_33 : decode cX4_sorted 33 = .ok (.iconst 1, 1) := dqo_4 (kb_X4_sorted_0 33 rfl)
theorem dX4_sorted_34 : decode cX4_sorted 34 = .ok (.isub, 1) := dqo_100 (kb_X4_sorted_0 34 rfl)
theorem dX4_sorted_35 : decode cX4_sorted 35 = .ok (.iaload, 1) := dqo_46 (kb_X4_sorted_0 35 rfl)
theorem dX4_sorted_36 : decode cX4_sorted 36 = .ok (.invokestatic 110, 3) := dqo_184 0 110 (kb_X4_sorted_0 36 rfl) (kb_X4_sorted_0 37 rfl) (kb_X4_sorted_0 38 rfl)
theorem dX4_sorted_39 : decode cX4_sorted 39 = .ok (.ifCond .eq 33, 3) := dqo_153 0 33 (by decide) (kb_X4_sorted_0 39 rfl) (kb_X4_sorted_0 40 rfl) (kb_X4_sorted_0 41 rfl)
theorem dX4_sorted_42 : decode cX4_sorted 42 = .ok (.aload_n 3, 1) := dqo_45 (kb_X4_sorted_0 42 rfl)
theorem dX4_sorted_43 : decode cX4_sorted 43 = .ok (.iload 5, 2) := dqo_21 5 (kb_X4_sorted_0 43 rfl) (kb_X4_sorted_0 44 rfl)
theorem dX4_sorted_45 : decode cX4_sorted 45 = .ok (.iaload, 1) := dqo_46 (kb_X4_sorted_0 45 rfl)
theorem dX4_sorted_46 : decode cX4_sorted 46 = .ok (.istore 6, 2) := dqo_54 6 (kb_X4_sorted_0 46 rfl) (kb_X4_sorted_0 47 rfl)
theorem dX4_sorted_48 : decode cX4_sorted 48 = .ok (.aload_n 3, 1) := dqo_45 (kb_X4_sorted_0 48 rfl)
theorem dX4_sorted_49 : decode cX4_sorted 49 = .ok (.iload 5, 2) := dqo_21 5 (kb_X4_sorted_0 49 rfl) (kb_X4_sorted_0 50 rfl)
theorem dX4_sorted_51 : decode cX4_sorted 51 = .ok (.aload_n 3, 1) := dqo_45 (kb_X4_sorted_0 51 rfl)
theorem dX4_sorted_52 : decode cX4_sorted 52 = .ok (.iload 5, 2) := dqo_21 5 (kb_X4_sorted_0 52 rfl) (kb_X4_sorted_0 53 rfl)
theorem dX4_sorted_54 : decode cX4_sorted 54 = .ok (.iconst 1, 1) := dqo_4 (kb_X4_sorted_0 54 rfl)
theorem dX4_sorted_55 : decode cX4_sorted 55 = .ok (.isub, 1) := dqo_100 (kb_X4_sorted_0 55 rfl)
theorem dX4_sorted_56 : decode cX4_sorted 56 = .ok (.iaload, 1) := dqo_46 (kb_X4_sorted_0 56 rfl)
theorem dX4_sorted_57 : decode cX4_sorted 57 = .ok (.iastore, 1) := dqo_79 (kb_X4_sorted_0 57 rfl)
theorem dX4_sorted_58 : decode cX4_sorted 58 = .ok (.aload_n 3, 1) := dqo_45 (kb_X4_sorted_0 58 rfl)
theorem dX4_sorted_59 : decode cX4_sorted 59 = .ok (.iload 5, 2) := dqo_21 5 (kb_X4_sorted_0 59 rfl) (kb_X4_sorted_0 60 rfl)
theorem dX4_sorted_61 : decode cX4_sorted 61 = .ok (.iconst 1, 1) := dqo_4 (kb_X4_sorted_0 61 rfl)
theorem dX4_sorted_62 : decode cX4_sorted 62 = .ok (.isub, 1) := dqo_100 (kb_X4_sorted_0 62 rfl)
theorem dX4_sorted_63 : decode cX4_sorted 63 = .ok (.iload 6, 2) := dqo_21 6 (kb_X4_sorted_0 63 rfl) (kb_X4_sorted_1 0 rfl)
theorem dX4_sorted_65 : decode cX4_sorted 65 = .ok (.iastore, 1) := dqo_79 (kb_X4_sorted_1 1 rfl)
theorem dX4_sorted_66 : decode cX4_sorted 66 = .ok (.iinc 5 (-1), 3) := dqo_132 5 255 (by decide) (kb_X4_sorted_1 2 rfl) (kb_X4_sorted_1 3 rfl) (kb_X4_sorted_1 4 rfl)
theorem dX4_sorted_69 : decode cX4_sorted 69 = .ok (.goto (-49), 3) := dqo_167 255 207 (by decide) (kb_X4_sorted_1 5 rfl) (kb_X4_sorted_1 6 rfl) (kb_X4_sorted_1 7 rfl)
theorem dX4_sorted_72 : decode cX4_sorted 72 = .ok (.iinc 4 1, 3) := dqo_132 4 1 (by decide) (kb_X4_sorted_1 8 rfl) (kb_X4_sorted_1 9 rfl) (kb_X4_sorted_1 10 rfl)
theorem dX4_sorted_75 : decode cX4_sorted 75 = .ok (.goto (-66), 3) := dqo_167 255 190 (by decide) (kb_X4_sorted_1 11 rfl) (kb_X4_sorted_1 12 rfl) (kb_X4_sorted_1 13 rfl)
theorem dX4_sorted_78 : decode cX4_sorted 78 = .ok (.aload_n 0, 1) := dqo_42 (kb_X4_sorted_1 14 rfl)
theorem dX4_sorted_79 : decode cX4_sorted 79 = .ok (.iload_n 1, 1) := dqo_27 (kb_X4_sorted_1 15 rfl)
theorem dX4_sorted_80 : decode cX4_sorted 80 = .ok (.iconst (-1), 1) := dqo_2 (kb_X4_sorted_1 16 rfl)
theorem dX4_sorted_81 : decode cX4_sorted 81 = .ok (.invokevirtual 74, 3) := dqo_182 0 74 (kb_X4_sorted_1 17 rfl) (kb_X4_sorted_1 18 rfl) (kb_X4_sorted_1 19 rfl)
theorem dX4_sorted_84 : decode cX4_sorted 84 = .ok (.aload_n 0, 1) := dqo_42 (kb_X4_sorted_1 20 rfl)
theorem dX4_sorted_85 : decode cX4_sorted 85 = .ok (.iload_n 1, 1) := dqo_27 (kb_X4_sorted_1 21 rfl)
theorem dX4_sorted_86 : decode cX4_sorted 86 = .ok (.aload_n 3, 1) := dqo_45 (kb_X4_sorted_1 22 rfl)
theorem dX4_sorted_87 : decode cX4_sorted 87 = .ok (.invokevirtual 99, 3) := dqo_182 0 99 (kb_X4_sorted_1 23 rfl) (kb_X4_sorted_1 24 rfl) (kb_X4_sorted_1 25 rfl)
theorem dX4_sorted_90 : decode cX4_sorted 90 = .ok (.aload_n 0, 1) := dqo_42 (kb_X4_sorted_1 26 rfl)
theorem dX4_sorted_91 : decode cX4_sorted 91 = .ok (.iload_n 1, 1) := dqo_27 (kb_X4_sorted_1 27 rfl)
theorem dX4_sorted_92 : decode cX4_sorted 92 = .ok (.invokevirtual 103, 3) := dqo_182 0 103 (kb_X4_sorted_1 28 rfl) (kb_X4_sorted_1 29 rfl) (kb_X4_sorted_1 30 rfl)
theorem dX4_sorted_95 : decode cX4_sorted 95 = .ok (.ireturn, 1) := dqo_172 (kb_X4_sorted_1 31 rfl)
set_option maxRecDepth 100000 in
set_option maxHeartbeats 4000000 in
theorem D_sorted_ok {l : Launch} {D : va_G} {cy : Nat → ClassId} {X : (Nat → Prop) → State → Heap → Prop} {ba ra : Nat → Nat} {hf : Nat → Nat → Nat} {hq : Nat → Nat → Int32} {kn th : Int32} {sm : Int64} {Y : va_W} {f : Nat → Nat → Nat} {r : Nat → Nat → Int32} {w : Nat} {b : Nat} (hX : EnvM X cy) (hC : CInv f) (hM : MR f r hf hq) (hw : w < 8) (h5w : f 5 w = 1) (hb : b ≤ 3) (hA0 : ∀ j, IB (cutF (fun z => hq (f 1 w) (f 3 w + z)) (hf 4 w) j)) (hz : 0 < f 4 w) : Cd l D cy X yX4_sorted cX4_sorted 7 (some .int) (rmk 8 3 36 390) [.ref (ba 9), .int (nI w), .int (nI b)] (WM cy ba ra hf hq kn th sm ++ Y) (some (.int ((wrR hq (f 1 w) (f 3 w) (hf 4 w) (soA b (hf 4 w - 1) 1 (cutF (fun z => hq (f 1 w) (f 3 w + z)) (hf 4 w)))) (f 1 w) (f 3 w)))) (WM cy ba ra (chM f hf w 4294967295) (wrR hq (f 1 w) (f 3 w) (hf 4 w) (soA b (hf 4 w - 1) 1 (cutF (fun z => hq (f 1 w) (f 3 w + z)) (hf 4 w)))) kn th sm ++ Y) := by
  have hG := hM.1
  have h5M := hM.h5M hC
  have h4M := hC.h4M
  have h9a := hM.h9a hC
  have h6a := hM.h6a
  have hU := hM.hU hC
  have qw := hM.wh hC hw h5w
  refine Cm.of [some (.ref (ba 9)), some (.int (nI w)), some (.int (nI b)), none, none, none, none] pn_X4 rfl (Nat.le_of_ble_eq_true rfl) ?_
  intro p e s m args below meth c A C hE hr hnt hn
  refine r_aload_n C dX4_sorted_0 rfl ?_
  refine r_iload_n C dX4_sorted_1 rfl ?_
  refine e_V (st := []) hX.1.stb C hE (D_items (ba := ba) (ra := ra) (hf := hf) (hq := hq) (kn := kn) (th := th) (sm := sm) (Y := Y) (f := f) (w := w) hX hC (MG.same (fun _ => rfl) (fun _ => rfl) hG) (by first | omega | (simp [up2, *]; done) | (simp [up2, *]; omega) | (simp only [up2_eq]; omega) | (split <;> omega)) (by first | omega | (simp [up2, *]; done) | (simp [up2, *]; omega) | (simp only [up2_eq]; omega) | (split <;> omega)) (by first | omega | (simp [up2, *]; done) | (simp [up2, *]; omega) | (simp only [up2_eq]; omega) | (split <;> omega)) (by first | omega | (simp [up2, *]; done) | (simp [up2, *]; omega) | (simp only [up2_eq]; omega) | (split <;> omega))) pk_X4_items qm_X4_95 0 8 rfl rfl wm_0 rfl rfl (Nat.le_of_ble_eq_true rfl) dX4_sorted_2 ⟨(Nat.le_of_ble_eq_true rfl), (Nat.le_of_ble_eq_true rfl)⟩ ⟨(Nat.le_of_ble_eq_true rfl), (Nat.le_of_ble_eq_true rfl)⟩ (fun b_1 => ?_)
  refine r_w (w' := WM cy ba ra hf hq kn th sm ++ (Y ++ [(b_1, .inl (cy 1, hf 4 w, .inl (cutF (fun z => hq (f 1 w) (f 3 w + z)) (hf 4 w))))])) (by simp only [List.append_assoc, List.cons_append, List.nil_append]) ?_
  refine r_st (st' := [.ref b_1]) rfl ?_
  refine r_astore_n C dX4_sorted_5 (by decide) rfl ?_
  refine r_iconst (v := (nI 1)) C dX4_sorted_6 (by decide) ?_
  refine r_istore C dX4_sorted_7 (by decide) rfl ?_
  have L9 : ∀ (d : Nat) (e0 : Nat) (A0 : Nat → Int32), (he : hf 4 w ≤ e0 + d ∧ (d = 0 ∨ e0 + d = hf 4 w)) → (he1 : 1 ≤ e0 ∧ e0 ≤ 12) → (hF : soA b d e0 A0 = soA b (hf 4 w - 1) 1 (cutF (fun z => hq (f 1 w) (f 3 w + z)) (hf 4 w))) → (hA : ∀ j, IB (A0 j)) → vC p l e (rmk 8 3 36 390) s m args below meth c D A (vx_MQ below (vG (fun v1 w1 => v1 = (some (.int ((wrR hq (f 1 w) (f 3 w) (hf 4 w) (soA b (hf 4 w - 1) 1 (cutF (fun z => hq (f 1 w) (f 3 w + z)) (hf 4 w)))) (f 1 w) (f 3 w)))) ∧ w1 = WM cy ba ra (chM f hf w 4294967295) (wrR hq (f 1 w) (f 3 w) (hf 4 w) (soA b (hf 4 w - 1) 1 (cutF (fun z => hq (f 1 w) (f 3 w + z)) (hf 4 w)))) kn th sm ++ Y) D vwCl A) (vGX (fun _ => False) D vwCl (WM cy ba ra hf hq kn th sm ++ Y) A) args s (rmk 8 3 36 390).cells (rmk 8 3 36 390).slots A) 7 1 12 (WM cy ba ra hf hq kn th sm ++ (Y ++ [(b_1, .inl (cy 1, hf 4 w, .inl A0))])) [some (.ref (ba 9)), some (.int (nI w)), some (.int (nI b)), some (.ref b_1), some (.int (nI e0)), none, none] 9 [] := by
    intro d
    induction d with
    | zero =>
      intro e0 A0 he he1 hF hA
      refine r_iload C dX4_sorted_9 rfl ?_
      refine r_aload_n C dX4_sorted_11 rfl ?_
      refine x_len C (t0 := 1) 0 rfl rfl dX4_sorted_12 ?_
      refine r_icN_ge (a := e0) (b := (hf 4 w)) (tgt := 78) C (by first | omega | (simp [up2, *]; done) | (simp [up2, *]; omega) | (simp only [up2_eq]; omega) | (split <;> omega)) (by first | omega | (simp [up2, *]; done) | (simp [up2, *]; omega) | (simp only [up2_eq]; omega) | (split <;> omega)) dX4_sorted_13 (by decide) (fun h13_2 => ?_) (fun h13_2 => ?_)
      · first
        | exfalso; first | omega | contradiction
        | skip
          refine r_w (w' := WM cy ba ra hf hq kn th sm ++ (Y ++ [(b_1, .inl (cy 1, hf 4 w, .inl (soA b (hf 4 w - 1) 1 (cutF (fun z => hq (f 1 w) (f 3 w + z)) (hf 4 w)))))])) (by rw [← hF, show soA b 0 e0 A0 = A0 from rfl]) ?_
          refine r_aload_n C dX4_sorted_78 rfl ?_
          refine r_iload_n C dX4_sorted_79 rfl ?_
          refine r_iconst (v := (nI 4294967295)) C dX4_sorted_80 (by decide) ?_
          refine d_Vv (st := []) hX.1.stb C hE (D_changed (ba := ba) (ra := ra) (hf := hf) (hq := hq) (kn := kn) (th := th) (sm := sm) (f := f) (w := w) (d0 := 4294967295) hX hC (MG.same (fun _ => rfl) (fun _ => rfl) hG) (by first | omega | (simp [up2, *]; done) | (simp [up2, *]; omega) | (simp only [up2_eq]; omega) | (split <;> omega)) (by first | omega | (simp [up2, *]; done) | (simp [up2, *]; omega) | (simp only [up2_eq]; omega) | (split <;> omega)) (by first | omega | (simp [up2, *]; done) | (simp [up2, *]; omega) | (simp only [up2_eq]; omega) | (split <;> omega)) h5M h9a hU) pk_X4_changed qm_X4_74 0 8 rfl rfl wm_0 rfl rfl (Nat.le_of_ble_eq_true rfl) dX4_sorted_81 ⟨(Nat.le_of_ble_eq_true rfl), (Nat.le_of_ble_eq_true rfl)⟩ ⟨(Nat.le_of_ble_eq_true rfl), (Nat.le_of_ble_eq_true rfl)⟩ ?_
          refine r_w (w' := WM cy ba ra (chM f hf w 4294967295) hq kn th sm ++ (Y ++ [(b_1, .inl (cy 1, hf 4 w, .inl (soA b (hf 4 w - 1) 1 (cutF (fun z => hq (f 1 w) (f 3 w + z)) (hf 4 w)))))])) rfl ?_
          refine r_aload_n C dX4_sorted_84 rfl ?_
          refine r_iload_n C dX4_sorted_85 rfl ?_
          refine r_aload_n C dX4_sorted_86 rfl ?_
          refine d_Vv (st := []) hX.1.stb C hE (D_put (ba := ba) (ra := ra) (hf := (chM f hf w 4294967295)) (hq := hq) (kn := kn) (th := th) (sm := sm) (f := f) (w := w) (b0 := b_1) (n0 := (hf 4 w)) (g0 := (soA b (hf 4 w - 1) 1 (cutF (fun z => hq (f 1 w) (f 3 w + z)) (hf 4 w)))) (j0 := (Y.length + 0)) hX hC (MG.same (fun _ => rfl) (fun _ => rfl) hG) (by first | omega | (simp [up2, *]; done) | (simp [up2, *]; omega) | (simp only [up2_eq]; omega) | (split <;> omega)) (by first | omega | (simp [up2, *]; done) | (simp [up2, *]; omega) | (simp only [up2_eq]; omega) | (split <;> omega)) (show f 3 w + (hf 4 w) ≤ (hf 4 (f 1 w)) from (by first | omega | (simp [up2, *]; done) | (simp [up2, *]; omega) | (simp only [up2_eq]; omega) | (split <;> omega))) (show (hf 4 (f 1 w)) ≤ 12 from (by first | omega | (simp [up2, *]; done) | (simp [up2, *]; omega) | (simp only [up2_eq]; omega) | (split <;> omega))) ((ya_x 0).trans rfl)) pk_X4_put qm_X4_99 0 8 rfl rfl wm_0 rfl rfl (Nat.le_of_ble_eq_true rfl) dX4_sorted_87 ⟨(Nat.le_of_ble_eq_true rfl), (Nat.le_of_ble_eq_true rfl)⟩ ⟨(Nat.le_of_ble_eq_true rfl), (Nat.le_of_ble_eq_true rfl)⟩ ?_
          refine r_w (w' := WM cy ba ra (chM f hf w 4294967295) (wrR hq (f 1 w) (f 3 w) (hf 4 w) (soA b (hf 4 w - 1) 1 (cutF (fun z => hq (f 1 w) (f 3 w + z)) (hf 4 w)))) kn th sm ++ (Y ++ [(b_1, .inl (cy 1, hf 4 w, .inl (soA b (hf 4 w - 1) 1 (cutF (fun z => hq (f 1 w) (f 3 w + z)) (hf 4 w)))))])) rfl ?_
          refine r_aload_n C dX4_sorted_90 rfl ?_
          refine r_iload_n C dX4_sorted_91 rfl ?_
          refine d_V (st := []) hX.1.stb C hE (D_firstOf1 (ba := ba) (ra := ra) (hf := (chM f hf w 4294967295)) (hq := (wrR hq (f 1 w) (f 3 w) (hf 4 w) (soA b (hf 4 w - 1) 1 (cutF (fun z => hq (f 1 w) (f 3 w + z)) (hf 4 w))))) (kn := kn) (th := th) (sm := sm) (f := f) (w := w) hX hC (MG.same (fun _ => rfl) (fun _ => rfl) hG) (by first | omega | (simp [up2, *]; done) | (simp [up2, *]; omega) | (simp only [up2_eq]; omega) | (split <;> omega)) (by first | omega | (simp [up2, *]; done) | (simp [up2, *]; omega) | (simp only [up2_eq]; omega) | (split <;> omega)) (show f 3 w + (hf 4 w) ≤ (hf 4 (f 1 w)) from (by first | omega | (simp [up2, *]; done) | (simp [up2, *]; omega) | (simp only [up2_eq]; omega) | (split <;> omega))) (show (hf 4 (f 1 w)) ≤ 12 from (by first | omega | (simp [up2, *]; done) | (simp [up2, *]; omega) | (simp only [up2_eq]; omega) | (split <;> omega))) (show 0 < (hf 4 w) from (by first | omega | (simp [up2, *]; done) | (simp [up2, *]; omega) | (simp only [up2_eq]; omega) | (split <;> omega)))) pk_X4_firstOf qm_X4_103 0 8 rfl rfl wm_0 rfl rfl (Nat.le_of_ble_eq_true rfl) dX4_sorted_92 ⟨(Nat.le_of_ble_eq_true rfl), (Nat.le_of_ble_eq_true rfl)⟩ ⟨(Nat.le_of_ble_eq_true rfl), (Nat.le_of_ble_eq_true rfl)⟩ ?_
          refine r_w (w' := WM cy ba ra (chM f hf w 4294967295) (wrR hq (f 1 w) (f 3 w) (hf 4 w) (soA b (hf 4 w - 1) 1 (cutF (fun z => hq (f 1 w) (f 3 w + z)) (hf 4 w)))) kn th sm ++ (Y ++ [(b_1, .inl (cy 1, hf 4 w, .inl (soA b (hf 4 w - 1) 1 (cutF (fun z => hq (f 1 w) (f 3 w + z)) (hf 4 w)))))])) rfl ?_
          refine r_pre ?_
          exact r_iret C hr dX4_sorted_95 ⟨rfl, rfl⟩ (Nat.le_of_ble_eq_true rfl) (Nat.le_of_ble_eq_true rfl)
      · first
        | exfalso; first | omega | contradiction
        | skip
          refine r_iload C dX4_sorted_16 rfl ?_
          refine r_istore C dX4_sorted_18 (by decide) rfl ?_
          refine r_w (w' := WM cy ba ra hf hq kn th sm ++ (Y ++ [(b_1, .inl (cy 1, hf 4 w, .inl (insA A0 e0 e0)))])) (by rw [insA_0]) ?_
          have L20 : ∀ (d : Nat) , (hd9 : d ≤ e0) → (hG9 : inP A0 b (A0 e0) d = inP A0 b (A0 e0) e0) → vC p l e (rmk 8 3 36 390) s m args below meth c D A (vx_MQ below (vG (fun v1 w1 => v1 = (some (.int ((wrR hq (f 1 w) (f 3 w) (hf 4 w) (soA b (hf 4 w - 1) 1 (cutF (fun z => hq (f 1 w) (f 3 w + z)) (hf 4 w)))) (f 1 w) (f 3 w)))) ∧ w1 = WM cy ba ra (chM f hf w 4294967295) (wrR hq (f 1 w) (f 3 w) (hf 4 w) (soA b (hf 4 w - 1) 1 (cutF (fun z => hq (f 1 w) (f 3 w + z)) (hf 4 w)))) kn th sm ++ Y) D vwCl A) (vGX (fun _ => False) D vwCl (WM cy ba ra hf hq kn th sm ++ Y) A) args s (rmk 8 3 36 390).cells (rmk 8 3 36 390).slots A) 7 1 12 (WM cy ba ra hf hq kn th sm ++ (Y ++ [(b_1, .inl (cy 1, hf 4 w, .inl (insA A0 e0 d)))])) [some (.ref (ba 9)), some (.int (nI w)), some (.int (nI b)), some (.ref b_1), some (.int (nI e0)), some (.int (nI d)), none] 20 [] := by
            intro d
            induction d with
            | zero =>
              intro  hd9 hG9
              refine r_iload C dX4_sorted_20 rfl ?_
              refine r_ifN_le (a := 0) (tgt := 72) C (by first | omega | (simp [up2, *]; done) | (simp [up2, *]; omega) | (simp only [up2_eq]; omega) | (split <;> omega)) dX4_sorted_22 (by decide) (fun h22_3 => ?_) (fun h22_3 => ?_)
              · skip
                have e9 : inP A0 b (A0 e0) e0 = 0 := by rw [← hG9]; first | rfl | (simp only [inP]; rw [if_pos (Int32.not_lt.mp h7)])
                refine r_w (w' := WM cy ba ra hf hq kn th sm ++ (Y ++ [(b_1, .inl (cy 1, hf 4 w, .inl (insA A0 e0 (inP A0 b (A0 e0) e0))))])) (by rw [e9]) ?_
                refine r_iincN C dX4_sorted_72 rfl (by decide) rfl ?_
                refine r_goto (tgt := 9) C dX4_sorted_75 (by decide) ?_
                refine r_drop 5 ?_
                exact (Nat.not_lt_zero _ (by omega)).elim
              · exact absurd h22_3 (by first | omega | (simp [up2, *]; done) | (simp [up2, *]; omega) | (simp only [up2_eq]; omega) | (split <;> omega))
            | succ d ih_L20 =>
              intro  hd9 hG9
              refine r_iload C dX4_sorted_20 rfl ?_
              refine r_ifN_le (a := (d + 1)) (tgt := 72) C (by first | omega | (simp [up2, *]; done) | (simp [up2, *]; omega) | (simp only [up2_eq]; omega) | (split <;> omega)) dX4_sorted_22 (by decide) (fun h22_4 => ?_) (fun h22_4 => ?_)
              · first
                | exfalso; first | omega | contradiction
                | skip
                  have e9 : inP A0 b (A0 e0) e0 = d + 1 := by rw [← hG9]; first | rfl | (simp only [inP]; rw [if_pos (Int32.not_lt.mp h7)])
                  refine r_w (w' := WM cy ba ra hf hq kn th sm ++ (Y ++ [(b_1, .inl (cy 1, hf 4 w, .inl (insA A0 e0 (inP A0 b (A0 e0) e0))))])) (by rw [e9]) ?_
                  refine r_iincN C dX4_sorted_72 rfl (by decide) rfl ?_
                  refine r_goto (tgt := 9) C dX4_sorted_75 (by decide) ?_
                  refine r_drop 5 ?_
                  exact (Nat.not_lt_zero _ (by omega)).elim
              · first
                | exfalso; first | omega | contradiction
                | skip
                  refine r_iload_n C dX4_sorted_25 rfl ?_
                  refine r_aload_n C dX4_sorted_26 rfl ?_
                  refine r_iload C dX4_sorted_27 rfl ?_
                  refine x_ald C (i := d + 1) (f := insA A0 e0 (d + 1)) 0 rfl (by first | omega | (simp [up2, *]; done) | (simp [up2, *]; omega) | (simp only [up2_eq]; omega) | (split <;> omega)) (by first | omega | (simp [up2, *]; done) | (simp [up2, *]; omega) | (simp only [up2_eq]; omega) | (split <;> omega)) dX4_sorted_29 ?_
                  refine r_eqi (show (insA A0 e0 (d + 1)) (d + 1) = (A0 e0) from insA_me) ?_
                  refine r_aload_n C dX4_sorted_30 rfl ?_
                  refine r_iload C dX4_sorted_31 rfl ?_
                  refine r_iconst (v := (nI 1)) C dX4_sorted_33 (by decide) ?_
                  refine r_isubN C dX4_sorted_34 (by first | omega | (simp [up2, *]; done) | (simp [up2, *]; omega) | (simp only [up2_eq]; omega) | (split <;> omega)) ?_
                  refine x_ald C (i := d) (f := insA A0 e0 (d + 1)) 0 rfl (by first | omega | (simp [up2, *]; done) | (simp [up2, *]; omega) | (simp only [up2_eq]; omega) | (split <;> omega)) (by first | omega | (simp [up2, *]; done) | (simp [up2, *]; omega) | (simp only [up2_eq]; omega) | (split <;> omega)) dX4_sorted_35 ?_
                  refine r_eqi (show (insA A0 e0 (d + 1)) d = (A0 (d)) from (insA_lo (by omega))) ?_
                  refine d_S (st := []) hX.1.stb C hE (D_isAhead (ba := ba) (ra := ra) (hf := hf) (hq := hq) (kn := kn) (th := th) (sm := sm) (b := b) (x := ((A0 e0))) (y := ((A0 (d)))) hX (by first | omega | (simp [up2, *]; done) | (simp [up2, *]; omega) | (simp only [up2_eq]; omega) | (split <;> omega)) (hA _) (hA _)) pk_X4_isAhead qm_X4_110 rfl rfl (Nat.le_of_ble_eq_true rfl) dX4_sorted_36 ⟨(Nat.le_of_ble_eq_true rfl), (Nat.le_of_ble_eq_true rfl)⟩ ⟨(Nat.le_of_ble_eq_true rfl), (Nat.le_of_ble_eq_true rfl)⟩ ?_
                  refine r_w (w' := WM cy ba ra hf hq kn th sm ++ (Y ++ [(b_1, .inl (cy 1, hf 4 w, .inl (insA A0 e0 (d + 1))))])) rfl ?_
                  refine r_ifN_eq (a := (ahF b ((A0 e0)) ((A0 (d))))) (tgt := 72) C (Nat.lt_of_le_of_lt (ahF_le _ _ _) (by decide)) dX4_sorted_39 (by decide) (fun h39_5 => ?_) (fun h39_5 => ?_)
                  · first
                    | exfalso; first | omega | contradiction
                    | skip
                      have h7 : ¬ rkF b (A0 e0) < rkF b (A0 (d)) := fun z => by unfold ahF at h39_5; rw [if_pos z] at h39_5; exact absurd h39_5 (by decide)
                      have e9 : inP A0 b (A0 e0) e0 = d + 1 := by rw [← hG9]; first | rfl | (simp only [inP]; rw [if_pos (Int32.not_lt.mp h7)])
                      refine r_w (w' := WM cy ba ra hf hq kn th sm ++ (Y ++ [(b_1, .inl (cy 1, hf 4 w, .inl (insA A0 e0 (inP A0 b (A0 e0) e0))))])) (by rw [e9]) ?_
                      refine r_iincN C dX4_sorted_72 rfl (by decide) rfl ?_
                      refine r_goto (tgt := 9) C dX4_sorted_75 (by decide) ?_
                      refine r_drop 5 ?_
                      exact (Nat.not_lt_zero _ (by omega)).elim
                  · first
                    | exfalso; first | omega | contradiction
                    | skip
                      have h7 : rkF b (A0 e0) < rkF b (A0 (d)) := by
                        unfold ahF at h39_5
                        split at h39_5
                        · assumption
                        · exact absurd rfl h39_5
                      refine r_aload_n C dX4_sorted_42 rfl ?_
                      refine r_iload C dX4_sorted_43 rfl ?_
                      refine x_ald C (i := d + 1) (f := insA A0 e0 (d + 1)) 0 rfl (by first | omega | (simp [up2, *]; done) | (simp [up2, *]; omega) | (simp only [up2_eq]; omega) | (split <;> omega)) (by first | omega | (simp [up2, *]; done) | (simp [up2, *]; omega) | (simp only [up2_eq]; omega) | (split <;> omega)) dX4_sorted_45 ?_
                      refine r_eqi (show (insA A0 e0 (d + 1)) (d + 1) = (A0 e0) from insA_me) ?_
                      refine r_istore C dX4_sorted_46 (by decide) rfl ?_
                      refine r_aload_n C dX4_sorted_48 rfl ?_
                      refine r_iload C dX4_sorted_49 rfl ?_
                      refine r_aload_n C dX4_sorted_51 rfl ?_
                      refine r_iload C dX4_sorted_52 rfl ?_
                      refine r_iconst (v := (nI 1)) C dX4_sorted_54 (by decide) ?_
                      refine r_isubN C dX4_sorted_55 (by first | omega | (simp [up2, *]; done) | (simp [up2, *]; omega) | (simp only [up2_eq]; omega) | (split <;> omega)) ?_
                      refine x_ald C (i := d) (f := insA A0 e0 (d + 1)) 0 rfl (by first | omega | (simp [up2, *]; done) | (simp [up2, *]; omega) | (simp only [up2_eq]; omega) | (split <;> omega)) (by first | omega | (simp [up2, *]; done) | (simp [up2, *]; omega) | (simp only [up2_eq]; omega) | (split <;> omega)) dX4_sorted_56 ?_
                      refine r_eqi (show (insA A0 e0 (d + 1)) d = (A0 (d)) from (insA_lo (by omega))) ?_
                      refine x_ast C (i := d + 1) (f := insA A0 e0 (d + 1)) (E' := [(b_1, .inl (cy 1, hf 4 w, .inl (upd (insA A0 e0 (d + 1)) (d + 1) (A0 (d)))))]) 0 rfl (by first | omega | (simp [up2, *]; done) | (simp [up2, *]; omega) | (simp only [up2_eq]; omega) | (split <;> omega)) (by first | omega | (simp [up2, *]; done) | (simp [up2, *]; omega) | (simp only [up2_eq]; omega) | (split <;> omega)) rfl dX4_sorted_57 ?_
                      refine r_aload_n C dX4_sorted_58 rfl ?_
                      refine r_iload C dX4_sorted_59 rfl ?_
                      refine r_iconst (v := (nI 1)) C dX4_sorted_61 (by decide) ?_
                      refine r_isubN C dX4_sorted_62 (by first | omega | (simp [up2, *]; done) | (simp [up2, *]; omega) | (simp only [up2_eq]; omega) | (split <;> omega)) ?_
                      refine r_iload C dX4_sorted_63 rfl ?_
                      refine x_ast C (i := d) (f := upd (insA A0 e0 (d + 1)) (d + 1) (A0 (d))) (E' := [(b_1, .inl (cy 1, hf 4 w, .inl (upd (upd (insA A0 e0 (d + 1)) (d + 1) (A0 (d))) d (A0 e0))))]) 0 rfl (by first | omega | (simp [up2, *]; done) | (simp [up2, *]; omega) | (simp only [up2_eq]; omega) | (split <;> omega)) (by first | omega | (simp [up2, *]; done) | (simp [up2, *]; omega) | (simp only [up2_eq]; omega) | (split <;> omega)) rfl dX4_sorted_65 ?_
                      refine r_idecP C dX4_sorted_66 rfl (by first | omega | (simp [up2, *]; done) | (simp [up2, *]; omega) | (simp only [up2_eq]; omega) | (split <;> omega)) (by decide) rfl ?_
                      refine r_goto (tgt := 20) C dX4_sorted_69 (by decide) ?_
                      refine r_w (w' := WM cy ba ra hf hq kn th sm ++ (Y ++ [(b_1, .inl (cy 1, hf 4 w, .inl (insA A0 e0 d)))])) (by rw [insA_step (by omega)]) ?_
                      refine r_drop 6 ?_
                      exact ih_L20  (by omega) (by rw [← hG9]; simp only [inP]; rw [if_neg (Int32.not_le.mpr h7)])
          exact L20 e0 (Nat.le_refl _) rfl
    | succ d ih_L9 =>
      intro e0 A0 he he1 hF hA
      refine r_iload C dX4_sorted_9 rfl ?_
      refine r_aload_n C dX4_sorted_11 rfl ?_
      refine x_len C (t0 := 1) 0 rfl rfl dX4_sorted_12 ?_
      refine r_icN_ge (a := e0) (b := (hf 4 w)) (tgt := 78) C (by first | omega | (simp [up2, *]; done) | (simp [up2, *]; omega) | (simp only [up2_eq]; omega) | (split <;> omega)) (by first | omega | (simp [up2, *]; done) | (simp [up2, *]; omega) | (simp only [up2_eq]; omega) | (split <;> omega)) dX4_sorted_13 (by decide) (fun h13_6 => ?_) (fun h13_6 => ?_)
      · first
        | exfalso; first | omega | contradiction
        | skip
          refine r_w (w' := WM cy ba ra hf hq kn th sm ++ (Y ++ [(b_1, .inl (cy 1, hf 4 w, .inl (soA b (hf 4 w - 1) 1 (cutF (fun z => hq (f 1 w) (f 3 w + z)) (hf 4 w)))))])) (by rw [← hF, show soA b 0 e0 A0 = A0 from rfl]) ?_
          refine r_aload_n C dX4_sorted_78 rfl ?_
          refine r_iload_n C dX4_sorted_79 rfl ?_
          refine r_iconst (v := (nI 4294967295)) C dX4_sorted_80 (by decide) ?_
          refine d_Vv (st := []) hX.1.stb C hE (D_changed (ba := ba) (ra := ra) (hf := hf) (hq := hq) (kn := kn) (th := th) (sm := sm) (f := f) (w := w) (d0 := 4294967295) hX hC (MG.same (fun _ => rfl) (fun _ => rfl) hG) (by first | omega | (simp [up2, *]; done) | (simp [up2, *]; omega) | (simp only [up2_eq]; omega) | (split <;> omega)) (by first | omega | (simp [up2, *]; done) | (simp [up2, *]; omega) | (simp only [up2_eq]; omega) | (split <;> omega)) (by first | omega | (simp [up2, *]; done) | (simp [up2, *]; omega) | (simp only [up2_eq]; omega) | (split <;> omega)) h5M h9a hU) pk_X4_changed qm_X4_74 0 8 rfl rfl wm_0 rfl rfl (Nat.le_of_ble_eq_true rfl) dX4_sorted_81 ⟨(Nat.le_of_ble_eq_true rfl), (Nat.le_of_ble_eq_true rfl)⟩ ⟨(Nat.le_of_ble_eq_true rfl), (Nat.le_of_ble_eq_true rfl)⟩ ?_
          refine r_w (w' := WM cy ba ra (chM f hf w 4294967295) hq kn th sm ++ (Y ++ [(b_1, .inl (cy 1, hf 4 w, .inl (soA b (hf 4 w - 1) 1 (cutF (fun z => hq (f 1 w) (f 3 w + z)) (hf 4 w)))))])) rfl ?_
          refine r_aload_n C dX4_sorted_84 rfl ?_
          refine r_iload_n C dX4_sorted_85 rfl ?_
          refine r_aload_n C dX4_sorted_86 rfl ?_
          refine d_Vv (st := []) hX.1.stb C hE (D_put (ba := ba) (ra := ra) (hf := (chM f hf w 4294967295)) (hq := hq) (kn := kn) (th := th) (sm := sm) (f := f) (w := w) (b0 := b_1) (n0 := (hf 4 w)) (g0 := (soA b (hf 4 w - 1) 1 (cutF (fun z => hq (f 1 w) (f 3 w + z)) (hf 4 w)))) (j0 := (Y.length + 0)) hX hC (MG.same (fun _ => rfl) (fun _ => rfl) hG) (by first | omega | (simp [up2, *]; done) | (simp [up2, *]; omega) | (simp only [up2_eq]; omega) | (split <;> omega)) (by first | omega | (simp [up2, *]; done) | (simp [up2, *]; omega) | (simp only [up2_eq]; omega) | (split <;> omega)) (show f 3 w + (hf 4 w) ≤ (hf 4 (f 1 w)) from (by first | omega | (simp [up2, *]; done) | (simp [up2, *]; omega) | (simp only [up2_eq]; omega) | (split <;> omega))) (show (hf 4 (f 1 w)) ≤ 12 from (by first | omega | (simp [up2, *]; done) | (simp [up2, *]; omega) | (simp only [up2_eq]; omega) | (split <;> omega))) ((ya_x 0).trans rfl)) pk_X4_put qm_X4_99 0 8 rfl rfl wm_0 rfl rfl (Nat.le_of_ble_eq_true rfl) dX4_sorted_87 ⟨(Nat.le_of_ble_eq_true rfl), (Nat.le_of_ble_eq_true rfl)⟩ ⟨(Nat.le_of_ble_eq_true rfl), (Nat.le_of_ble_eq_true rfl)⟩ ?_
          refine r_w (w' := WM cy ba ra (chM f hf w 4294967295) (wrR hq (f 1 w) (f 3 w) (hf 4 w) (soA b (hf 4 w - 1) 1 (cutF (fun z => hq (f 1 w) (f 3 w + z)) (hf 4 w)))) kn th sm ++ (Y ++ [(b_1, .inl (cy 1, hf 4 w, .inl (soA b (hf 4 w - 1) 1 (cutF (fun z => hq (f 1 w) (f 3 w + z)) (hf 4 w)))))])) rfl ?_
          refine r_aload_n C dX4_sorted_90 rfl ?_
          refine r_iload_n C dX4_sorted_91 rfl ?_
          refine d_V (st := []) hX.1.stb C hE (D_firstOf1 (ba := ba) (ra := ra) (hf := (chM f hf w 4294967295)) (hq := (wrR hq (f 1 w) (f 3 w) (hf 4 w) (soA b (hf 4 w - 1) 1 (cutF (fun z => hq (f 1 w) (f 3 w + z)) (hf 4 w))))) (kn := kn) (th := th) (sm := sm) (f := f) (w := w) hX hC (MG.same (fun _ => rfl) (fun _ => rfl) hG) (by first | omega | (simp [up2, *]; done) | (simp [up2, *]; omega) | (simp only [up2_eq]; omega) | (split <;> omega)) (by first | omega | (simp [up2, *]; done) | (simp [up2, *]; omega) | (simp only [up2_eq]; omega) | (split <;> omega)) (show f 3 w + (hf 4 w) ≤ (hf 4 (f 1 w)) from (by first | omega | (simp [up2, *]; done) | (simp [up2, *]; omega) | (simp only [up2_eq]; omega) | (split <;> omega))) (show (hf 4 (f 1 w)) ≤ 12 from (by first | omega | (simp [up2, *]; done) | (simp [up2, *]; omega) | (simp only [up2_eq]; omega) | (split <;> omega))) (show 0 < (hf 4 w) from (by first | omega | (simp [up2, *]; done) | (simp [up2, *]; omega) | (simp only [up2_eq]; omega) | (split <;> omega)))) pk_X4_firstOf qm_X4_103 0 8 rfl rfl wm_0 rfl rfl (Nat.le_of_ble_eq_true rfl) dX4_sorted_92 ⟨(Nat.le_of_ble_eq_true rfl), (Nat.le_of_ble_eq_true rfl)⟩ ⟨(Nat.le_of_ble_eq_true rfl), (Nat.le_of_ble_eq_true rfl)⟩ ?_
          refine r_w (w' := WM cy ba ra (chM f hf w 4294967295) (wrR hq (f 1 w) (f 3 w) (hf 4 w) (soA b (hf 4 w - 1) 1 (cutF (fun z => hq (f 1 w) (f 3 w + z)) (hf 4 w)))) kn th sm ++ (Y ++ [(b_1, .inl (cy 1, hf 4 w, .inl (soA b (hf 4 w - 1) 1 (cutF (fun z => hq (f 1 w) (f 3 w + z)) (hf 4 w)))))])) rfl ?_
          refine r_pre ?_
          exact r_iret C hr dX4_sorted_95 ⟨rfl, rfl⟩ (Nat.le_of_ble_eq_true rfl) (Nat.le_of_ble_eq_true rfl)
      · first
        | exfalso; first | omega | contradiction
        | skip
          refine r_iload C dX4_sorted_16 rfl ?_
          refine r_istore C dX4_sorted_18 (by decide) rfl ?_
          refine r_w (w' := WM cy ba ra hf hq kn th sm ++ (Y ++ [(b_1, .inl (cy 1, hf 4 w, .inl (insA A0 e0 e0)))])) (by rw [insA_0]) ?_
          have L20 : ∀ (d : Nat) , (hd9 : d ≤ e0) → (hG9 : inP A0 b (A0 e0) d = inP A0 b (A0 e0) e0) → vC p l e (rmk 8 3 36 390) s m args below meth c D A (vx_MQ below (vG (fun v1 w1 => v1 = (some (.int ((wrR hq (f 1 w) (f 3 w) (hf 4 w) (soA b (hf 4 w - 1) 1 (cutF (fun z => hq (f 1 w) (f 3 w + z)) (hf 4 w)))) (f 1 w) (f 3 w)))) ∧ w1 = WM cy ba ra (chM f hf w 4294967295) (wrR hq (f 1 w) (f 3 w) (hf 4 w) (soA b (hf 4 w - 1) 1 (cutF (fun z => hq (f 1 w) (f 3 w + z)) (hf 4 w)))) kn th sm ++ Y) D vwCl A) (vGX (fun _ => False) D vwCl (WM cy ba ra hf hq kn th sm ++ Y) A) args s (rmk 8 3 36 390).cells (rmk 8 3 36 390).slots A) 7 1 12 (WM cy ba ra hf hq kn th sm ++ (Y ++ [(b_1, .inl (cy 1, hf 4 w, .inl (insA A0 e0 d)))])) [some (.ref (ba 9)), some (.int (nI w)), some (.int (nI b)), some (.ref b_1), some (.int (nI e0)), some (.int (nI d)), none] 20 [] := by
            intro d
            induction d with
            | zero =>
              intro  hd9 hG9
              refine r_iload C dX4_sorted_20 rfl ?_
              refine r_ifN_le (a := 0) (tgt := 72) C (by first | omega | (simp [up2, *]; done) | (simp [up2, *]; omega) | (simp only [up2_eq]; omega) | (split <;> omega)) dX4_sorted_22 (by decide) (fun h22_7 => ?_) (fun h22_7 => ?_)
              · skip
                have e9 : inP A0 b (A0 e0) e0 = 0 := by rw [← hG9]; first | rfl | (simp only [inP]; rw [if_pos (Int32.not_lt.mp h7)])
                refine r_w (w' := WM cy ba ra hf hq kn th sm ++ (Y ++ [(b_1, .inl (cy 1, hf 4 w, .inl (insA A0 e0 (inP A0 b (A0 e0) e0))))])) (by rw [e9]) ?_
                refine r_iincN C dX4_sorted_72 rfl (by decide) rfl ?_
                refine r_goto (tgt := 9) C dX4_sorted_75 (by decide) ?_
                refine r_drop 5 ?_
                exact ih_L9 (e0 + 1) (insA A0 e0 (inP A0 b (A0 e0) e0)) (by first | omega | (simp [up2, *]; done) | (simp [up2, *]; omega) | (simp only [up2_eq]; omega) | (split <;> omega)) (by first | omega | (simp [up2, *]; done) | (simp [up2, *]; omega) | (simp only [up2_eq]; omega) | (split <;> omega)) (by rw [← hF]; rfl) (soA_ib (b := b) hA _ _)
              · exact absurd h22_7 (by first | omega | (simp [up2, *]; done) | (simp [up2, *]; omega) | (simp only [up2_eq]; omega) | (split <;> omega))
            | succ d ih_L20 =>
              intro  hd9 hG9
              refine r_iload C dX4_sorted_20 rfl ?_
              refine r_ifN_le (a := (d + 1)) (tgt := 72) C (by first | omega | (simp [up2, *]; done) | (simp [up2, *]; omega) | (simp only [up2_eq]; omega) | (split <;> omega)) dX4_sorted_22 (by decide) (fun h22_8 => ?_) (fun h22_8 => ?_)
              · first
                | exfalso; first | omega | contradiction
                | skip
                  have e9 : inP A0 b (A0 e0) e0 = d + 1 := by rw [← hG9]; first | rfl | (simp only [inP]; rw [if_pos (Int32.not_lt.mp h7)])
                  refine r_w (w' := WM cy ba ra hf hq kn th sm ++ (Y ++ [(b_1, .inl (cy 1, hf 4 w, .inl (insA A0 e0 (inP A0 b (A0 e0) e0))))])) (by rw [e9]) ?_
                  refine r_iincN C dX4_sorted_72 rfl (by decide) rfl ?_
                  refine r_goto (tgt := 9) C dX4_sorted_75 (by decide) ?_
                  refine r_drop 5 ?_
                  exact ih_L9 (e0 + 1) (insA A0 e0 (inP A0 b (A0 e0) e0)) (by first | omega | (simp [up2, *]; done) | (simp [up2, *]; omega) | (simp only [up2_eq]; omega) | (split <;> omega)) (by first | omega | (simp [up2, *]; done) | (simp [up2, *]; omega) | (simp only [up2_eq]; omega) | (split <;> omega)) (by rw [← hF]; rfl) (soA_ib (b := b) hA _ _)
              · first
                | exfalso; first | omega | contradiction
                | skip
                  refine r_iload_n C dX4_sorted_25 rfl ?_
                  refine r_aload_n C dX4_sorted_26 rfl ?_
                  refine r_iload C dX4_sorted_27 rfl ?_
                  refine x_ald C (i := d + 1) (f := insA A0 e0 (d + 1)) 0 rfl (by first | omega | (simp [up2, *]; done) | (simp [up2, *]; omega) | (simp only [up2_eq]; omega) | (split <;> omega)) (by first | omega | (simp [up2, *]; done) | (simp [up2, *]; omega) | (simp only [up2_eq]; omega) | (split <;> omega)) dX4_sorted_29 ?_
                  refine r_eqi (show (insA A0 e0 (d + 1)) (d + 1) = (A0 e0) from insA_me) ?_
                  refine r_aload_n C dX4_sorted_30 rfl ?_
                  refine r_iload C dX4_sorted_31 rfl ?_
                  refine r_iconst (v := (nI 1)) C dX4_sorted_33 (by decide) ?_
                  refine r_isubN C dX4_sorted_34 (by first | omega | (simp [up2, *]; done) | (simp [up2, *]; omega) | (simp only [up2_eq]; omega) | (split <;> omega)) ?_
                  refine x_ald C (i := d) (f := insA A0 e0 (d + 1)) 0 rfl (by first | omega | (simp [up2, *]; done) | (simp [up2, *]; omega) | (simp only [up2_eq]; omega) | (split <;> omega)) (by first | omega | (simp [up2, *]; done) | (simp [up2, *]; omega) | (simp only [up2_eq]; omega) | (split <;> omega)) dX4_sorted_35 ?_
                  refine r_eqi (show (insA A0 e0 (d + 1)) d = (A0 (d)) from (insA_lo (by omega))) ?_
                  refine d_S (st := []) hX.1.stb C hE (D_isAhead (ba := ba) (ra := ra) (hf := hf) (hq := hq) (kn := kn) (th := th) (sm := sm) (b := b) (x := ((A0 e0))) (y := ((A0 (d)))) hX (by first | omega | (simp [up2, *]; done) | (simp [up2, *]; omega) | (simp only [up2_eq]; omega) | (split <;> omega)) (hA _) (hA _)) pk_X4_isAhead qm_X4_110 rfl rfl (Nat.le_of_ble_eq_true rfl) dX4_sorted_36 ⟨(Nat.le_of_ble_eq_true rfl), (Nat.le_of_ble_eq_true rfl)⟩ ⟨(Nat.le_of_ble_eq_true rfl), (Nat.le_of_ble_eq_true rfl)⟩ ?_
                  refine r_w (w' := WM cy ba ra hf hq kn th sm ++ (Y ++ [(b_1, .inl (cy 1, hf 4 w, .inl (insA A0 e0 (d + 1))))])) rfl ?_
                  refine r_ifN_eq (a := (ahF b ((A0 e0)) ((A0 (d))))) (tgt := 72) C (Nat.lt_of_le_of_lt (ahF_le _ _ _) (by decide)) dX4_sorted_39 (by decide) (fun h39_9 => ?_) (fun h39_9 => ?_)
                  · first
                    | exfalso; first | omega | contradiction
                    | skip
                      have h7 : ¬ rkF b (A0 e0) < rkF b (A0 (d)) := fun z => by unfold ahF at h39_9; rw [if_pos z] at h39_9; exact absurd h39_9 (by decide)
                      have e9 : inP A0 b (A0 e0) e0 = d + 1 := by rw [← hG9]; first | rfl | (simp only [inP]; rw [if_pos (Int32.not_lt.mp h7)])
                      refine r_w (w' := WM cy ba ra hf hq kn th sm ++ (Y ++ [(b_1, .inl (cy 1, hf 4 w, .inl (insA A0 e0 (inP A0 b (A0 e0) e0))))])) (by rw [e9]) ?_
                      refine r_iincN C dX4_sorted_72 rfl (by decide) rfl ?_
                      refine r_goto (tgt := 9) C dX4_sorted_75 (by decide) ?_
                      refine r_drop 5 ?_
                      exact ih_L9 (e0 + 1) (insA A0 e0 (inP A0 b (A0 e0) e0)) (by first | omega | (simp [up2, *]; done) | (simp [up2, *]; omega) | (simp only [up2_eq]; omega) | (split <;> omega)) (by first | omega | (simp [up2, *]; done) | (simp [up2, *]; omega) | (simp only [up2_eq]; omega) | (split <;> omega)) (by rw [← hF]; rfl) (soA_ib (b := b) hA _ _)
                  · first
                    | exfalso; first | omega | contradiction
                    | skip
                      have h7 : rkF b (A0 e0) < rkF b (A0 (d)) := by
                        unfold ahF at h39_9
                        split at h39_9
                        · assumption
                        · exact absurd rfl h39_9
                      refine r_aload_n C dX4_sorted_42 rfl ?_
                      refine r_iload C dX4_sorted_43 rfl ?_
                      refine x_ald C (i := d + 1) (f := insA A0 e0 (d + 1)) 0 rfl (by first | omega | (simp [up2, *]; done) | (simp [up2, *]; omega) | (simp only [up2_eq]; omega) | (split <;> omega)) (by first | omega | (simp [up2, *]; done) | (simp [up2, *]; omega) | (simp only [up2_eq]; omega) | (split <;> omega)) dX4_sorted_45 ?_
                      refine r_eqi (show (insA A0 e0 (d + 1)) (d + 1) = (A0 e0) from insA_me) ?_
                      refine r_istore C dX4_sorted_46 (by decide) rfl ?_
                      refine r_aload_n C dX4_sorted_48 rfl ?_
                      refine r_iload C dX4_sorted_49 rfl ?_
                      refine r_aload_n C dX4_sorted_51 rfl ?_
                      refine r_iload C dX4_sorted_52 rfl ?_
                      refine r_iconst (v := (nI 1)) C dX4_sorted_54 (by decide) ?_
                      refine r_isubN C dX4_sorted_55 (by first | omega | (simp [up2, *]; done) | (simp [up2, *]; omega) | (simp only [up2_eq]; omega) | (split <;> omega)) ?_
                      refine x_ald C (i := d) (f := insA A0 e0 (d + 1)) 0 rfl (by first | omega | (simp [up2, *]; done) | (simp [up2, *]; omega) | (simp only [up2_eq]; omega) | (split <;> omega)) (by first | omega | (simp [up2, *]; done) | (simp [up2, *]; omega) | (simp only [up2_eq]; omega) | (split <;> omega)) dX4_sorted_56 ?_
                      refine r_eqi (show (insA A0 e0 (d + 1)) d = (A0 (d)) from (insA_lo (by omega))) ?_
                      refine x_ast C (i := d + 1) (f := insA A0 e0 (d + 1)) (E' := [(b_1, .inl (cy 1, hf 4 w, .inl (upd (insA A0 e0 (d + 1)) (d + 1) (A0 (d)))))]) 0 rfl (by first | omega | (simp [up2, *]; done) | (simp [up2, *]; omega) | (simp only [up2_eq]; omega) | (split <;> omega)) (by first | omega | (simp [up2, *]; done) | (simp [up2, *]; omega) | (simp only [up2_eq]; omega) | (split <;> omega)) rfl dX4_sorted_57 ?_
                      refine r_aload_n C dX4_sorted_58 rfl ?_
                      refine r_iload C dX4_sorted_59 rfl ?_
                      refine r_iconst (v := (nI 1)) C dX4_sorted_61 (by decide) ?_
                      refine r_isubN C dX4_sorted_62 (by first | omega | (simp [up2, *]; done) | (simp [up2, *]; omega) | (simp only [up2_eq]; omega) | (split <;> omega)) ?_
                      refine r_iload C dX4_sorted_63 rfl ?_
                      refine x_ast C (i := d) (f := upd (insA A0 e0 (d + 1)) (d + 1) (A0 (d))) (E' := [(b_1, .inl (cy 1, hf 4 w, .inl (upd (upd (insA A0 e0 (d + 1)) (d + 1) (A0 (d))) d (A0 e0))))]) 0 rfl (by first | omega | (simp [up2, *]; done) | (simp [up2, *]; omega) | (simp only [up2_eq]; omega) | (split <;> omega)) (by first | omega | (simp [up2, *]; done) | (simp [up2, *]; omega) | (simp only [up2_eq]; omega) | (split <;> omega)) rfl dX4_sorted_65 ?_
                      refine r_idecP C dX4_sorted_66 rfl (by first | omega | (simp [up2, *]; done) | (simp [up2, *]; omega) | (simp only [up2_eq]; omega) | (split <;> omega)) (by decide) rfl ?_
                      refine r_goto (tgt := 20) C dX4_sorted_69 (by decide) ?_
                      refine r_w (w' := WM cy ba ra hf hq kn th sm ++ (Y ++ [(b_1, .inl (cy 1, hf 4 w, .inl (insA A0 e0 d)))])) (by rw [insA_step (by omega)]) ?_
                      refine r_drop 6 ?_
                      exact ih_L20  (by omega) (by rw [← hG9]; simp only [inP]; rw [if_neg (Int32.not_le.mpr h7)])
          exact L20 e0 (Nat.le_refl _) rfl
  exact L9 (hf 4 w - 1) 1 (cutF (fun z => hq (f 1 w) (f 3 w + z)) (hf 4 w)) (by omega) (by omega) rfl hA0
set_option maxRecDepth 100000 in
set_option maxHeartbeats 4000000 in
theorem D_sorted_0 {l : Launch} {D : va_G} {cy : Nat → ClassId} {X : (Nat → Prop) → State → Heap → Prop} {ba ra : Nat → Nat} {hf : Nat → Nat → Nat} {hq : Nat → Nat → Int32} {kn th : Int32} {sm : Int64} {Y : va_W} {f : Nat → Nat → Nat} {r : Nat → Nat → Int32} {w : Nat} {b : Nat} (hX : EnvM X cy) (hC : CInv f) (hM : MR f r hf hq) (hw : w < 8) (h5w : f 5 w = 1) (hb : b ≤ 3) (hA0 : ∀ j, IB (cutF (fun z => hq (f 1 w) (f 3 w + z)) (hf 4 w) j)) (hz : f 4 w = 0) : Cd l D cy X yX4_sorted cX4_sorted 7 (some .int) (rmk 8 3 36 390) [.ref (ba 9), .int (nI w), .int (nI b)] (WM cy ba ra hf hq kn th sm ++ Y) (some (.int (nI 100))) (WM cy ba ra (chM f hf w 4294967295) (wrR hq (f 1 w) (f 3 w) (hf 4 w) (soA b (hf 4 w - 1) 1 (cutF (fun z => hq (f 1 w) (f 3 w + z)) (hf 4 w)))) kn th sm ++ Y) := by
  have hG := hM.1
  have h5M := hM.h5M hC
  have h4M := hC.h4M
  have h9a := hM.h9a hC
  have h6a := hM.h6a
  have hU := hM.hU hC
  have qw := hM.wh hC hw h5w
  refine Cm.of [some (.ref (ba 9)), some (.int (nI w)), some (.int (nI b)), none, none, none, none] pn_X4 rfl (Nat.le_of_ble_eq_true rfl) ?_
  intro p e s m args below meth c A C hE hr hnt hn
  refine r_aload_n C dX4_sorted_0 rfl ?_
  refine r_iload_n C dX4_sorted_1 rfl ?_
  refine e_V (st := []) hX.1.stb C hE (D_items (ba := ba) (ra := ra) (hf := hf) (hq := hq) (kn := kn) (th := th) (sm := sm) (Y := Y) (f := f) (w := w) hX hC (MG.same (fun _ => rfl) (fun _ => rfl) hG) (by first | omega | (simp [up2, *]; done) | (simp [up2, *]; omega) | (simp only [up2_eq]; omega) | (split <;> omega)) (by first | omega | (simp [up2, *]; done) | (simp [up2, *]; omega) | (simp only [up2_eq]; omega) | (split <;> omega)) (by first | omega | (simp [up2, *]; done) | (simp [up2, *]; omega) | (simp only [up2_eq]; omega) | (split <;> omega)) (by first | omega | (simp [up2, *]; done) | (simp [up2, *]; omega) | (simp only [up2_eq]; omega) | (split <;> omega))) pk_X4_items qm_X4_95 0 8 rfl rfl wm_0 rfl rfl (Nat.le_of_ble_eq_true rfl) dX4_sorted_2 ⟨(Nat.le_of_ble_eq_true rfl), (Nat.le_of_ble_eq_true rfl)⟩ ⟨(Nat.le_of_ble_eq_true rfl), (Nat.le_of_ble_eq_true rfl)⟩ (fun b_1 => ?_)
  refine r_w (w' := WM cy ba ra hf hq kn th sm ++ (Y ++ [(b_1, .inl (cy 1, hf 4 w, .inl (cutF (fun z => hq (f 1 w) (f 3 w + z)) (hf 4 w))))])) (by simp only [List.append_assoc, List.cons_append, List.nil_append]) ?_
  refine r_st (st' := [.ref b_1]) rfl ?_
  refine r_astore_n C dX4_sorted_5 (by decide) rfl ?_
  refine r_iconst (v := (nI 1)) C dX4_sorted_6 (by decide) ?_
  refine r_istore C dX4_sorted_7 (by decide) rfl ?_
  have L9 : ∀ (d : Nat) (e0 : Nat) (A0 : Nat → Int32), (he : hf 4 w ≤ e0 + d ∧ (d = 0 ∨ e0 + d = hf 4 w)) → (he1 : 1 ≤ e0 ∧ e0 ≤ 12) → (hF : soA b d e0 A0 = soA b (hf 4 w - 1) 1 (cutF (fun z => hq (f 1 w) (f 3 w + z)) (hf 4 w))) → (hA : ∀ j, IB (A0 j)) → vC p l e (rmk 8 3 36 390) s m args below meth c D A (vx_MQ below (vG (fun v1 w1 => v1 = (some (.int (nI 100))) ∧ w1 = WM cy ba ra (chM f hf w 4294967295) (wrR hq (f 1 w) (f 3 w) (hf 4 w) (soA b (hf 4 w - 1) 1 (cutF (fun z => hq (f 1 w) (f 3 w + z)) (hf 4 w)))) kn th sm ++ Y) D vwCl A) (vGX (fun _ => False) D vwCl (WM cy ba ra hf hq kn th sm ++ Y) A) args s (rmk 8 3 36 390).cells (rmk 8 3 36 390).slots A) 7 1 12 (WM cy ba ra hf hq kn th sm ++ (Y ++ [(b_1, .inl (cy 1, hf 4 w, .inl A0))])) [some (.ref (ba 9)), some (.int (nI w)), some (.int (nI b)), some (.ref b_1), some (.int (nI e0)), none, none] 9 [] := by
    intro d
    induction d with
    | zero =>
      intro e0 A0 he he1 hF hA
      refine r_iload C dX4_sorted_9 rfl ?_
      refine r_aload_n C dX4_sorted_11 rfl ?_
      refine x_len C (t0 := 1) 0 rfl rfl dX4_sorted_12 ?_
      refine r_icN_ge (a := e0) (b := (hf 4 w)) (tgt := 78) C (by first | omega | (simp [up2, *]; done) | (simp [up2, *]; omega) | (simp only [up2_eq]; omega) | (split <;> omega)) (by first | omega | (simp [up2, *]; done) | (simp [up2, *]; omega) | (simp only [up2_eq]; omega) | (split <;> omega)) dX4_sorted_13 (by decide) (fun h13_2 => ?_) (fun h13_2 => ?_)
      · first
        | exfalso; first | omega | contradiction
        | skip
          refine r_w (w' := WM cy ba ra hf hq kn th sm ++ (Y ++ [(b_1, .inl (cy 1, hf 4 w, .inl (soA b (hf 4 w - 1) 1 (cutF (fun z => hq (f 1 w) (f 3 w + z)) (hf 4 w)))))])) (by rw [← hF, show soA b 0 e0 A0 = A0 from rfl]) ?_
          refine r_aload_n C dX4_sorted_78 rfl ?_
          refine r_iload_n C dX4_sorted_79 rfl ?_
          refine r_iconst (v := (nI 4294967295)) C dX4_sorted_80 (by decide) ?_
          refine d_Vv (st := []) hX.1.stb C hE (D_changed (ba := ba) (ra := ra) (hf := hf) (hq := hq) (kn := kn) (th := th) (sm := sm) (f := f) (w := w) (d0 := 4294967295) hX hC (MG.same (fun _ => rfl) (fun _ => rfl) hG) (by first | omega | (simp [up2, *]; done) | (simp [up2, *]; omega) | (simp only [up2_eq]; omega) | (split <;> omega)) (by first | omega | (simp [up2, *]; done) | (simp [up2, *]; omega) | (simp only [up2_eq]; omega) | (split <;> omega)) (by first | omega | (simp [up2, *]; done) | (simp [up2, *]; omega) | (simp only [up2_eq]; omega) | (split <;> omega)) h5M h9a hU) pk_X4_changed qm_X4_74 0 8 rfl rfl wm_0 rfl rfl (Nat.le_of_ble_eq_true rfl) dX4_sorted_81 ⟨(Nat.le_of_ble_eq_true rfl), (Nat.le_of_ble_eq_true rfl)⟩ ⟨(Nat.le_of_ble_eq_true rfl), (Nat.le_of_ble_eq_true rfl)⟩ ?_
          refine r_w (w' := WM cy ba ra (chM f hf w 4294967295) hq kn th sm ++ (Y ++ [(b_1, .inl (cy 1, hf 4 w, .inl (soA b (hf 4 w - 1) 1 (cutF (fun z => hq (f 1 w) (f 3 w + z)) (hf 4 w)))))])) rfl ?_
          refine r_aload_n C dX4_sorted_84 rfl ?_
          refine r_iload_n C dX4_sorted_85 rfl ?_
          refine r_aload_n C dX4_sorted_86 rfl ?_
          refine d_Vv (st := []) hX.1.stb C hE (D_put (ba := ba) (ra := ra) (hf := (chM f hf w 4294967295)) (hq := hq) (kn := kn) (th := th) (sm := sm) (f := f) (w := w) (b0 := b_1) (n0 := (hf 4 w)) (g0 := (soA b (hf 4 w - 1) 1 (cutF (fun z => hq (f 1 w) (f 3 w + z)) (hf 4 w)))) (j0 := (Y.length + 0)) hX hC (MG.same (fun _ => rfl) (fun _ => rfl) hG) (by first | omega | (simp [up2, *]; done) | (simp [up2, *]; omega) | (simp only [up2_eq]; omega) | (split <;> omega)) (by first | omega | (simp [up2, *]; done) | (simp [up2, *]; omega) | (simp only [up2_eq]; omega) | (split <;> omega)) (show f 3 w + (hf 4 w) ≤ (hf 4 (f 1 w)) from (by first | omega | (simp [up2, *]; done) | (simp [up2, *]; omega) | (simp only [up2_eq]; omega) | (split <;> omega))) (show (hf 4 (f 1 w)) ≤ 12 from (by first | omega | (simp [up2, *]; done) | (simp [up2, *]; omega) | (simp only [up2_eq]; omega) | (split <;> omega))) ((ya_x 0).trans rfl)) pk_X4_put qm_X4_99 0 8 rfl rfl wm_0 rfl rfl (Nat.le_of_ble_eq_true rfl) dX4_sorted_87 ⟨(Nat.le_of_ble_eq_true rfl), (Nat.le_of_ble_eq_true rfl)⟩ ⟨(Nat.le_of_ble_eq_true rfl), (Nat.le_of_ble_eq_true rfl)⟩ ?_
          refine r_w (w' := WM cy ba ra (chM f hf w 4294967295) (wrR hq (f 1 w) (f 3 w) (hf 4 w) (soA b (hf 4 w - 1) 1 (cutF (fun z => hq (f 1 w) (f 3 w + z)) (hf 4 w)))) kn th sm ++ (Y ++ [(b_1, .inl (cy 1, hf 4 w, .inl (soA b (hf 4 w - 1) 1 (cutF (fun z => hq (f 1 w) (f 3 w + z)) (hf 4 w)))))])) rfl ?_
          refine r_aload_n C dX4_sorted_90 rfl ?_
          refine r_iload_n C dX4_sorted_91 rfl ?_
          refine d_V (st := []) hX.1.stb C hE (D_firstOf0 (ba := ba) (ra := ra) (hf := (chM f hf w 4294967295)) (hq := (wrR hq (f 1 w) (f 3 w) (hf 4 w) (soA b (hf 4 w - 1) 1 (cutF (fun z => hq (f 1 w) (f 3 w + z)) (hf 4 w))))) (kn := kn) (th := th) (sm := sm) (w := w) hX (by first | omega | (simp [up2, *]; done) | (simp [up2, *]; omega) | (simp only [up2_eq]; omega) | (split <;> omega)) (show (hf 4 w) = 0 from (by first | omega | (simp [up2, *]; done) | (simp [up2, *]; omega) | (simp only [up2_eq]; omega) | (split <;> omega)))) pk_X4_firstOf qm_X4_103 0 8 rfl rfl wm_0 rfl rfl (Nat.le_of_ble_eq_true rfl) dX4_sorted_92 ⟨(Nat.le_of_ble_eq_true rfl), (Nat.le_of_ble_eq_true rfl)⟩ ⟨(Nat.le_of_ble_eq_true rfl), (Nat.le_of_ble_eq_true rfl)⟩ ?_
          refine r_w (w' := WM cy ba ra (chM f hf w 4294967295) (wrR hq (f 1 w) (f 3 w) (hf 4 w) (soA b (hf 4 w - 1) 1 (cutF (fun z => hq (f 1 w) (f 3 w + z)) (hf 4 w)))) kn th sm ++ (Y ++ [(b_1, .inl (cy 1, hf 4 w, .inl (soA b (hf 4 w - 1) 1 (cutF (fun z => hq (f 1 w) (f 3 w + z)) (hf 4 w)))))])) rfl ?_
          refine r_pre ?_
          exact r_iret C hr dX4_sorted_95 ⟨rfl, rfl⟩ (Nat.le_of_ble_eq_true rfl) (Nat.le_of_ble_eq_true rfl)
      · first
        | exfalso; first | omega | contradiction
        | skip
          refine r_iload C dX4_sorted_16 rfl ?_
          refine r_istore C dX4_sorted_18 (by decide) rfl ?_
          refine r_w (w' := WM cy ba ra hf hq kn th sm ++ (Y ++ [(b_1, .inl (cy 1, hf 4 w, .inl (insA A0 e0 e0)))])) (by rw [insA_0]) ?_
          have L20 : ∀ (d : Nat) , (hd9 : d ≤ e0) → (hG9 : inP A0 b (A0 e0) d = inP A0 b (A0 e0) e0) → vC p l e (rmk 8 3 36 390) s m args below meth c D A (vx_MQ below (vG (fun v1 w1 => v1 = (some (.int (nI 100))) ∧ w1 = WM cy ba ra (chM f hf w 4294967295) (wrR hq (f 1 w) (f 3 w) (hf 4 w) (soA b (hf 4 w - 1) 1 (cutF (fun z => hq (f 1 w) (f 3 w + z)) (hf 4 w)))) kn th sm ++ Y) D vwCl A) (vGX (fun _ => False) D vwCl (WM cy ba ra hf hq kn th sm ++ Y) A) args s (rmk 8 3 36 390).cells (rmk 8 3 36 390).slots A) 7 1 12 (WM cy ba ra hf hq kn th sm ++ (Y ++ [(b_1, .inl (cy 1, hf 4 w, .inl (insA A0 e0 d)))])) [some (.ref (ba 9)), some (.int (nI w)), some (.int (nI b)), some (.ref b_1), some (.int (nI e0)), some (.int (nI d)), none] 20 [] := by
            intro d
            induction d with
            | zero =>
              intro  hd9 hG9
              refine r_iload C dX4_sorted_20 rfl ?_
              refine r_ifN_le (a := 0) (tgt := 72) C (by first | omega | (simp [up2, *]; done) | (simp [up2, *]; omega) | (simp only [up2_eq]; omega) | (split <;> omega)) dX4_sorted_22 (by decide) (fun h22_3 => ?_) (fun h22_3 => ?_)
              · skip
                have e9 : inP A0 b (A0 e0) e0 = 0 := by rw [← hG9]; first | rfl | (simp only [inP]; rw [if_pos (Int32.not_lt.mp h7)])
                refine r_w (w' := WM cy ba ra hf hq kn th sm ++ (Y ++ [(b_1, .inl (cy 1, hf 4 w, .inl (insA A0 e0 (inP A0 b (A0 e0) e0))))])) (by rw [e9]) ?_
                refine r_iincN C dX4_sorted_72 rfl (by decide) rfl ?_
                refine r_goto (tgt := 9) C dX4_sorted_75 (by decide) ?_
                refine r_drop 5 ?_
                exact (Nat.not_lt_zero _ (by omega)).elim
              · exact absurd h22_3 (by first | omega | (simp [up2, *]; done) | (simp [up2, *]; omega) | (simp only [up2_eq]; omega) | (split <;> omega))
            | succ d ih_L20 =>
              intro  hd9 hG9
              refine r_iload C dX4_sorted_20 rfl ?_
              refine r_ifN_le (a := (d + 1)) (tgt := 72) C (by first | omega | (simp [up2, *]; done) | (simp [up2, *]; omega) | (simp only [up2_eq]; omega) | (split <;> omega)) dX4_sorted_22 (by decide) (fun h22_4 => ?_) (fun h22_4 => ?_)
              · first
                | exfalso; first | omega | contradiction
                | skip
                  have e9 : inP A0 b (A0 e0) e0 = d + 1 := by rw [← hG9]; first | rfl | (simp only [inP]; rw [if_pos (Int32.not_lt.mp h7)])
                  refine r_w (w' := WM cy ba ra hf hq kn th sm ++ (Y ++ [(b_1, .inl (cy 1, hf 4 w, .inl (insA A0 e0 (inP A0 b (A0 e0) e0))))])) (by rw [e9]) ?_
                  refine r_iincN C dX4_sorted_72 rfl (by decide) rfl ?_
                  refine r_goto (tgt := 9) C dX4_sorted_75 (by decide) ?_
                  refine r_drop 5 ?_
                  exact (Nat.not_lt_zero _ (by omega)).elim
              · first
                | exfalso; first | omega | contradiction
                | skip
                  refine r_iload_n C dX4_sorted_25 rfl ?_
                  refine r_aload_n C dX4_sorted_26 rfl ?_
                  refine r_iload C dX4_sorted_27 rfl ?_
                  refine x_ald C (i := d + 1) (f := insA A0 e0 (d + 1)) 0 rfl (by first | omega | (simp [up2, *]; done) | (simp [up2, *]; omega) | (simp only [up2_eq]; omega) | (split <;> omega)) (by first | omega | (simp [up2, *]; done) | (simp [up2, *]; omega) | (simp only [up2_eq]; omega) | (split <;> omega)) dX4_sorted_29 ?_
                  refine r_eqi (show (insA A0 e0 (d + 1)) (d + 1) = (A0 e0) from insA_me) ?_
                  refine r_aload_n C dX4_sorted_30 rfl ?_
                  refine r_iload C dX4_sorted_31 rfl ?_
                  refine r_iconst (v := (nI 1)) C dX4_sorted_33 (by decide) ?_
                  refine r_isubN C dX4_sorted_34 (by first | omega | (simp [up2, *]; done) | (simp [up2, *]; omega) | (simp only [up2_eq]; omega) | (split <;> omega)) ?_
                  refine x_ald C (i := d) (f := insA A0 e0 (d + 1)) 0 rfl (by first | omega | (simp [up2, *]; done) | (simp [up2, *]; omega) | (simp only [up2_eq]; omega) | (split <;> omega)) (by first | omega | (simp [up2, *]; done) | (simp [up2, *]; omega) | (simp only [up2_eq]; omega) | (split <;> omega)) dX4_sorted_35 ?_
                  refine r_eqi (show (insA A0 e0 (d + 1)) d = (A0 (d)) from (insA_lo (by omega))) ?_
                  refine d_S (st := []) hX.1.stb C hE (D_isAhead (ba := ba) (ra := ra) (hf := hf) (hq := hq) (kn := kn) (th := th) (sm := sm) (b := b) (x := ((A0 e0))) (y := ((A0 (d)))) hX (by first | omega | (simp [up2, *]; done) | (simp [up2, *]; omega) | (simp only [up2_eq]; omega) | (split <;> omega)) (hA _) (hA _)) pk_X4_isAhead qm_X4_110 rfl rfl (Nat.le_of_ble_eq_true rfl) dX4_sorted_36 ⟨(Nat.le_of_ble_eq_true rfl), (Nat.le_of_ble_eq_true rfl)⟩ ⟨(Nat.le_of_ble_eq_true rfl), (Nat.le_of_ble_eq_true rfl)⟩ ?_
                  refine r_w (w' := WM cy ba ra hf hq kn th sm ++ (Y ++ [(b_1, .inl (cy 1, hf 4 w, .inl (insA A0 e0 (d + 1))))])) rfl ?_
                  refine r_ifN_eq (a := (ahF b ((A0 e0)) ((A0 (d))))) (tgt := 72) C (Nat.lt_of_le_of_lt (ahF_le _ _ _) (by decide)) dX4_sorted_39 (by decide) (fun h39_5 => ?_) (fun h39_5 => ?_)
                  · first
                    | exfalso; first | omega | contradiction
                    | skip
                      have h7 : ¬ rkF b (A0 e0) < rkF b (A0 (d)) := fun z => by unfold ahF at h39_5; rw [if_pos z] at h39_5; exact absurd h39_5 (by decide)
                      have e9 : inP A0 b (A0 e0) e0 = d + 1 := by rw [← hG9]; first | rfl | (simp only [inP]; rw [if_pos (Int32.not_lt.mp h7)])
                      refine r_w (w' := WM cy ba ra hf hq kn th sm ++ (Y ++ [(b_1, .inl (cy 1, hf 4 w, .inl (insA A0 e0 (inP A0 b (A0 e0) e0))))])) (by rw [e9]) ?_
                      refine r_iincN C dX4_sorted_72 rfl (by decide) rfl ?_
                      refine r_goto (tgt := 9) C dX4_sorted_75 (by decide) ?_
                      refine r_drop 5 ?_
                      exact (Nat.not_lt_zero _ (by omega)).elim
                  · first
                    | exfalso; first | omega | contradiction
                    | skip
                      have h7 : rkF b (A0 e0) < rkF b (A0 (d)) := by
                        unfold ahF at h39_5
                        split at h39_5
                        · assumption
                        · exact absurd rfl h39_5
                      refine r_aload_n C dX4_sorted_42 rfl ?_
                      refine r_iload C dX4_sorted_43 rfl ?_
                      refine x_ald C (i := d + 1) (f := insA A0 e0 (d + 1)) 0 rfl (by first | omega | (simp [up2, *]; done) | (simp [up2, *]; omega) | (simp only [up2_eq]; omega) | (split <;> omega)) (by first | omega | (simp [up2, *]; done) | (simp [up2, *]; omega) | (simp only [up2_eq]; omega) | (split <;> omega)) dX4_sorted_45 ?_
                      refine r_eqi (show (insA A0 e0 (d + 1)) (d + 1) = (A0 e0) from insA_me) ?_
                      refine r_istore C dX4_sorted_46 (by decide) rfl ?_
                      refine r_aload_n C dX4_sorted_48 rfl ?_
                      refine r_iload C dX4_sorted_49 rfl ?_
                      refine r_aload_n C dX4_sorted_51 rfl ?_
                      refine r_iload C dX4_sorted_52 rfl ?_
                      refine r_iconst (v := (nI 1)) C dX4_sorted_54 (by decide) ?_
                      refine r_isubN C dX4_sorted_55 (by first | omega | (simp [up2, *]; done) | (simp [up2, *]; omega) | (simp only [up2_eq]; omega) | (split <;> omega)) ?_
                      refine x_ald C (i := d) (f := insA A0 e0 (d + 1)) 0 rfl (by first | omega | (simp [up2, *]; done) | (simp [up2, *]; omega) | (simp only [up2_eq]; omega) | (split <;> omega)) (by first | omega | (simp [up2, *]; done) | (simp [up2, *]; omega) | (simp only [up2_eq]; omega) | (split <;> omega)) dX4_sorted_56 ?_
                      refine r_eqi (show (insA A0 e0 (d + 1)) d = (A0 (d)) from (insA_lo (by omega))) ?_
                      refine x_ast C (i := d + 1) (f := insA A0 e0 (d + 1)) (E' := [(b_1, .inl (cy 1, hf 4 w, .inl (upd (insA A0 e0 (d + 1)) (d + 1) (A0 (d)))))]) 0 rfl (by first | omega | (simp [up2, *]; done) | (simp [up2, *]; omega) | (simp only [up2_eq]; omega) | (split <;> omega)) (by first | omega | (simp [up2, *]; done) | (simp [up2, *]; omega) | (simp only [up2_eq]; omega) | (split <;> omega)) rfl dX4_sorted_57 ?_
                      refine r_aload_n C dX4_sorted_58 rfl ?_
                      refine r_iload C dX4_sorted_59 rfl ?_
                      refine r_iconst (v := (nI 1)) C dX4_sorted_61 (by decide) ?_
                      refine r_isubN C dX4_sorted_62 (by first | omega | (simp [up2, *]; done) | (simp [up2, *]; omega) | (simp only [up2_eq]; omega) | (split <;> omega)) ?_
                      refine r_iload C dX4_sorted_63 rfl ?_
                      refine x_ast C (i := d) (f := upd (insA A0 e0 (d + 1)) (d + 1) (A0 (d))) (E' := [(b_1, .inl (cy 1, hf 4 w, .inl (upd (upd (insA A0 e0 (d + 1)) (d + 1) (A0 (d))) d (A0 e0))))]) 0 rfl (by first | omega | (simp [up2, *]; done) | (simp [up2, *]; omega) | (simp only [up2_eq]; omega) | (split <;> omega)) (by first | omega | (simp [up2, *]; done) | (simp [up2, *]; omega) | (simp only [up2_eq]; omega) | (split <;> omega)) rfl dX4_sorted_65 ?_
                      refine r_idecP C dX4_sorted_66 rfl (by first | omega | (simp [up2, *]; done) | (simp [up2, *]; omega) | (simp only [up2_eq]; omega) | (split <;> omega)) (by decide) rfl ?_
                      refine r_goto (tgt := 20) C dX4_sorted_69 (by decide) ?_
                      refine r_w (w' := WM cy ba ra hf hq kn th sm ++ (Y ++ [(b_1, .inl (cy 1, hf 4 w, .inl (insA A0 e0 d)))])) (by rw [insA_step (by omega)]) ?_
                      refine r_drop 6 ?_
                      exact ih_L20  (by omega) (by rw [← hG9]; simp only [inP]; rw [if_neg (Int32.not_le.mpr h7)])
          exact L20 e0 (Nat.le_refl _) rfl
    | succ d ih_L9 =>
      intro e0 A0 he he1 hF hA
      refine r_iload C dX4_sorted_9 rfl ?_
      refine r_aload_n C dX4_sorted_11 rfl ?_
      refine x_len C (t0 := 1) 0 rfl rfl dX4_sorted_12 ?_
      refine r_icN_ge (a := e0) (b := (hf 4 w)) (tgt := 78) C (by first | omega | (simp [up2, *]; done) | (simp [up2, *]; omega) | (simp only [up2_eq]; omega) | (split <;> omega)) (by first | omega | (simp [up2, *]; done) | (simp [up2, *]; omega) | (simp only [up2_eq]; omega) | (split <;> omega)) dX4_sorted_13 (by decide) (fun h13_6 => ?_) (fun h13_6 => ?_)
      · first
        | exfalso; first | omega | contradiction
        | skip
          refine r_w (w' := WM cy ba ra hf hq kn th sm ++ (Y ++ [(b_1, .inl (cy 1, hf 4 w, .inl (soA b (hf 4 w - 1) 1 (cutF (fun z => hq (f 1 w) (f 3 w + z)) (hf 4 w)))))])) (by rw [← hF, show soA b 0 e0 A0 = A0 from rfl]) ?_
          refine r_aload_n C dX4_sorted_78 rfl ?_
          refine r_iload_n C dX4_sorted_79 rfl ?_
          refine r_iconst (v := (nI 4294967295)) C dX4_sorted_80 (by decide) ?_
          refine d_Vv (st := []) hX.1.stb C hE (D_changed (ba := ba) (ra := ra) (hf := hf) (hq := hq) (kn := kn) (th := th) (sm := sm) (f := f) (w := w) (d0 := 4294967295) hX hC (MG.same (fun _ => rfl) (fun _ => rfl) hG) (by first | omega | (simp [up2, *]; done) | (simp [up2, *]; omega) | (simp only [up2_eq]; omega) | (split <;> omega)) (by first | omega | (simp [up2, *]; done) | (simp [up2, *]; omega) | (simp only [up2_eq]; omega) | (split <;> omega)) (by first | omega | (simp [up2, *]; done) | (simp [up2, *]; omega) | (simp only [up2_eq]; omega) | (split <;> omega)) h5M h9a hU) pk_X4_changed qm_X4_74 0 8 rfl rfl wm_0 rfl rfl (Nat.le_of_ble_eq_true rfl) dX4_sorted_81 ⟨(Nat.le_of_ble_eq_true rfl), (Nat.le_of_ble_eq_true rfl)⟩ ⟨(Nat.le_of_ble_eq_true rfl), (Nat.le_of_ble_eq_true rfl)⟩ ?_
          refine r_w (w' := WM cy ba ra (chM f hf w 4294967295) hq kn th sm ++ (Y ++ [(b_1, .inl (cy 1, hf 4 w, .inl (soA b (hf 4 w - 1) 1 (cutF (fun z => hq (f 1 w) (f 3 w + z)) (hf 4 w)))))])) rfl ?_
          refine r_aload_n C dX4_sorted_84 rfl ?_
          refine r_iload_n C dX4_sorted_85 rfl ?_
          refine r_aload_n C dX4_sorted_86 rfl ?_
          refine d_Vv (st := []) hX.1.stb C hE (D_put (ba := ba) (ra := ra) (hf := (chM f hf w 4294967295)) (hq := hq) (kn := kn) (th := th) (sm := sm) (f := f) (w := w) (b0 := b_1) (n0 := (hf 4 w)) (g0 := (soA b (hf 4 w - 1) 1 (cutF (fun z => hq (f 1 w) (f 3 w + z)) (hf 4 w)))) (j0 := (Y.length + 0)) hX hC (MG.same (fun _ => rfl) (fun _ => rfl) hG) (by first | omega | (simp [up2, *]; done) | (simp [up2, *]; omega) | (simp only [up2_eq]; omega) | (split <;> omega)) (by first | omega | (simp [up2, *]; done) | (simp [up2, *]; omega) | (simp only [up2_eq]; omega) | (split <;> omega)) (show f 3 w + (hf 4 w) ≤ (hf 4 (f 1 w)) from (by first | omega | (simp [up2, *]; done) | (simp [up2, *]; omega) | (simp only [up2_eq]; omega) | (split <;> omega))) (show (hf 4 (f 1 w)) ≤ 12 from (by first | omega | (simp [up2, *]; done) | (simp [up2, *]; omega) | (simp only [up2_eq]; omega) | (split <;> omega))) ((ya_x 0).trans rfl)) pk_X4_put qm_X4_99 0 8 rfl rfl wm_0 rfl rfl (Nat.le_of_ble_eq_true rfl) dX4_sorted_87 ⟨(Nat.le_of_ble_eq_true rfl), (Nat.le_of_ble_eq_true rfl)⟩ ⟨(Nat.le_of_ble_eq_true rfl), (Nat.le_of_ble_eq_true rfl)⟩ ?_
          refine r_w (w' := WM cy ba ra (chM f hf w 4294967295) (wrR hq (f 1 w) (f 3 w) (hf 4 w) (soA b (hf 4 w - 1) 1 (cutF (fun z => hq (f 1 w) (f 3 w + z)) (hf 4 w)))) kn th sm ++ (Y ++ [(b_1, .inl (cy 1, hf 4 w, .inl (soA b (hf 4 w - 1) 1 (cutF (fun z => hq (f 1 w) (f 3 w + z)) (hf 4 w)))))])) rfl ?_
          refine r_aload_n C dX4_sorted_90 rfl ?_
          refine r_iload_n C dX4_sorted_91 rfl ?_
          refine d_V (st := []) hX.1.stb C hE (D_firstOf0 (ba := ba) (ra := ra) (hf := (chM f hf w 4294967295)) (hq := (wrR hq (f 1 w) (f 3 w) (hf 4 w) (soA b (hf 4 w - 1) 1 (cutF (fun z => hq (f 1 w) (f 3 w + z)) (hf 4 w))))) (kn := kn) (th := th) (sm := sm) (w := w) hX (by first | omega | (simp [up2, *]; done) | (simp [up2, *]; omega) | (simp only [up2_eq]; omega) | (split <;> omega)) (show (hf 4 w) = 0 from (by first | omega | (simp [up2, *]; done) | (simp [up2, *]; omega) | (simp only [up2_eq]; omega) | (split <;> omega)))) pk_X4_firstOf qm_X4_103 0 8 rfl rfl wm_0 rfl rfl (Nat.le_of_ble_eq_true rfl) dX4_sorted_92 ⟨(Nat.le_of_ble_eq_true rfl), (Nat.le_of_ble_eq_true rfl)⟩ ⟨(Nat.le_of_ble_eq_true rfl), (Nat.le_of_ble_eq_true rfl)⟩ ?_
          refine r_w (w' := WM cy ba ra (chM f hf w 4294967295) (wrR hq (f 1 w) (f 3 w) (hf 4 w) (soA b (hf 4 w - 1) 1 (cutF (fun z => hq (f 1 w) (f 3 w + z)) (hf 4 w)))) kn th sm ++ (Y ++ [(b_1, .inl (cy 1, hf 4 w, .inl (soA b (hf 4 w - 1) 1 (cutF (fun z => hq (f 1 w) (f 3 w + z)) (hf 4 w)))))])) rfl ?_
          refine r_pre ?_
          exact r_iret C hr dX4_sorted_95 ⟨rfl, rfl⟩ (Nat.le_of_ble_eq_true rfl) (Nat.le_of_ble_eq_true rfl)
      · first
        | exfalso; first | omega | contradiction
        | skip
          refine r_iload C dX4_sorted_16 rfl ?_
          refine r_istore C dX4_sorted_18 (by decide) rfl ?_
          refine r_w (w' := WM cy ba ra hf hq kn th sm ++ (Y ++ [(b_1, .inl (cy 1, hf 4 w, .inl (insA A0 e0 e0)))])) (by rw [insA_0]) ?_
          have L20 : ∀ (d : Nat) , (hd9 : d ≤ e0) → (hG9 : inP A0 b (A0 e0) d = inP A0 b (A0 e0) e0) → vC p l e (rmk 8 3 36 390) s m args below meth c D A (vx_MQ below (vG (fun v1 w1 => v1 = (some (.int (nI 100))) ∧ w1 = WM cy ba ra (chM f hf w 4294967295) (wrR hq (f 1 w) (f 3 w) (hf 4 w) (soA b (hf 4 w - 1) 1 (cutF (fun z => hq (f 1 w) (f 3 w + z)) (hf 4 w)))) kn th sm ++ Y) D vwCl A) (vGX (fun _ => False) D vwCl (WM cy ba ra hf hq kn th sm ++ Y) A) args s (rmk 8 3 36 390).cells (rmk 8 3 36 390).slots A) 7 1 12 (WM cy ba ra hf hq kn th sm ++ (Y ++ [(b_1, .inl (cy 1, hf 4 w, .inl (insA A0 e0 d)))])) [some (.ref (ba 9)), some (.int (nI w)), some (.int (nI b)), some (.ref b_1), some (.int (nI e0)), some (.int (nI d)), none] 20 [] := by
            intro d
            induction d with
            | zero =>
              intro  hd9 hG9
              refine r_iload C dX4_sorted_20 rfl ?_
              refine r_ifN_le (a := 0) (tgt := 72) C (by first | omega | (simp [up2, *]; done) | (simp [up2, *]; omega) | (simp only [up2_eq]; omega) | (split <;> omega)) dX4_sorted_22 (by decide) (fun h22_7 => ?_) (fun h22_7 => ?_)
              · skip
                have e9 : inP A0 b (A0 e0) e0 = 0 := by rw [← hG9]; first | rfl | (simp only [inP]; rw [if_pos (Int32.not_lt.mp h7)])
                refine r_w (w' := WM cy ba ra hf hq kn th sm ++ (Y ++ [(b_1, .inl (cy 1, hf 4 w, .inl (insA A0 e0 (inP A0 b (A0 e0) e0))))])) (by rw [e9]) ?_
                refine r_iincN C dX4_sorted_72 rfl (by decide) rfl ?_
                refine r_goto (tgt := 9) C dX4_sorted_75 (by decide) ?_
                refine r_drop 5 ?_
                exact ih_L9 (e0 + 1) (insA A0 e0 (inP A0 b (A0 e0) e0)) (by first | omega | (simp [up2, *]; done) | (simp [up2, *]; omega) | (simp only [up2_eq]; omega) | (split <;> omega)) (by first | omega | (simp [up2, *]; done) | (simp [up2, *]; omega) | (simp only [up2_eq]; omega) | (split <;> omega)) (by rw [← hF]; rfl) (soA_ib (b := b) hA _ _)
              · exact absurd h22_7 (by first | omega | (simp [up2, *]; done) | (simp [up2, *]; omega) | (simp only [up2_eq]; omega) | (split <;> omega))
            | succ d ih_L20 =>
              intro  hd9 hG9
              refine r_iload C dX4_sorted_20 rfl ?_
              refine r_ifN_le (a := (d + 1)) (tgt := 72) C (by first | omega | (simp [up2, *]; done) | (simp [up2, *]; omega) | (simp only [up2_eq]; omega) | (split <;> omega)) dX4_sorted_22 (by decide) (fun h22_8 => ?_) (fun h22_8 => ?_)
              · first
                | exfalso; first | omega | contradiction
                | skip
                  have e9 : inP A0 b (A0 e0) e0 = d + 1 := by rw [← hG9]; first | rfl | (simp only [inP]; rw [if_pos (Int32.not_lt.mp h7)])
                  refine r_w (w' := WM cy ba ra hf hq kn th sm ++ (Y ++ [(b_1, .inl (cy 1, hf 4 w, .inl (insA A0 e0 (inP A0 b (A0 e0) e0))))])) (by rw [e9]) ?_
                  refine r_iincN C dX4_sorted_72 rfl (by decide) rfl ?_
                  refine r_goto (tgt := 9) C dX4_sorted_75 (by decide) ?_
                  refine r_drop 5 ?_
                  exact ih_L9 (e0 + 1) (insA A0 e0 (inP A0 b (A0 e0) e0)) (by first | omega | (simp [up2, *]; done) | (simp [up2, *]; omega) | (simp only [up2_eq]; omega) | (split <;> omega)) (by first | omega | (simp [up2, *]; done) | (simp [up2, *]; omega) | (simp only [up2_eq]; omega) | (split <;> omega)) (by rw [← hF]; rfl) (soA_ib (b := b) hA _ _)
              · first
                | exfalso; first | omega | contradiction
                | skip
                  refine r_iload_n C dX4_sorted_25 rfl ?_
                  refine r_aload_n C dX4_sorted_26 rfl ?_
                  refine r_iload C dX4_sorted_27 rfl ?_
                  refine x_ald C (i := d + 1) (f := insA A0 e0 (d + 1)) 0 rfl (by first | omega | (simp [up2, *]; done) | (simp [up2, *]; omega) | (simp only [up2_eq]; omega) | (split <;> omega)) (by first | omega | (simp [up2, *]; done) | (simp [up2, *]; omega) | (simp only [up2_eq]; omega) | (split <;> omega)) dX4_sorted_29 ?_
                  refine r_eqi (show (insA A0 e0 (d + 1)) (d + 1) = (A0 e0) from insA_me) ?_
                  refine r_aload_n C dX4_sorted_30 rfl ?_
                  refine r_iload C dX4_sorted_31 rfl ?_
                  refine r_iconst (v := (nI 1)) C dX4_sorted_33 (by decide) ?_
                  refine r_isubN C dX4_sorted_34 (by first | omega | (simp [up2, *]; done) | (simp [up2, *]; omega) | (simp only [up2_eq]; omega) | (split <;> omega)) ?_
                  refine x_ald C (i := d) (f := insA A0 e0 (d + 1)) 0 rfl (by first | omega | (simp [up2, *]; done) | (simp [up2, *]; omega) | (simp only [up2_eq]; omega) | (split <;> omega)) (by first | omega | (simp [up2, *]; done) | (simp [up2, *]; omega) | (simp only [up2_eq]; omega) | (split <;> omega)) dX4_sorted_35 ?_
                  refine r_eqi (show (insA A0 e0 (d + 1)) d = (A0 (d)) from (insA_lo (by omega))) ?_
                  refine d_S (st := []) hX.1.stb C hE (D_isAhead (ba := ba) (ra := ra) (hf := hf) (hq := hq) (kn := kn) (th := th) (sm := sm) (b := b) (x := ((A0 e0))) (y := ((A0 (d)))) hX (by first | omega | (simp [up2, *]; done) | (simp [up2, *]; omega) | (simp only [up2_eq]; omega) | (split <;> omega)) (hA _) (hA _)) pk_X4_isAhead qm_X4_110 rfl rfl (Nat.le_of_ble_eq_true rfl) dX4_sorted_36 ⟨(Nat.le_of_ble_eq_true rfl), (Nat.le_of_ble_eq_true rfl)⟩ ⟨(Nat.le_of_ble_eq_true rfl), (Nat.le_of_ble_eq_true rfl)⟩ ?_
                  refine r_w (w' := WM cy ba ra hf hq kn th sm ++ (Y ++ [(b_1, .inl (cy 1, hf 4 w, .inl (insA A0 e0 (d + 1))))])) rfl ?_
                  refine r_ifN_eq (a := (ahF b ((A0 e0)) ((A0 (d))))) (tgt := 72) C (Nat.lt_of_le_of_lt (ahF_le _ _ _) (by decide)) dX4_sorted_39 (by decide) (fun h39_9 => ?_) (fun h39_9 => ?_)
                  · first
                    | exfalso; first | omega | contradiction
                    | skip
                      have h7 : ¬ rkF b (A0 e0) < rkF b (A0 (d)) := fun z => by unfold ahF at h39_9; rw [if_pos z] at h39_9; exact absurd h39_9 (by decide)
                      have e9 : inP A0 b (A0 e0) e0 = d + 1 := by rw [← hG9]; first | rfl | (simp only [inP]; rw [if_pos (Int32.not_lt.mp h7)])
                      refine r_w (w' := WM cy ba ra hf hq kn th sm ++ (Y ++ [(b_1, .inl (cy 1, hf 4 w, .inl (insA A0 e0 (inP A0 b (A0 e0) e0))))])) (by rw [e9]) ?_
                      refine r_iincN C dX4_sorted_72 rfl (by decide) rfl ?_
                      refine r_goto (tgt := 9) C dX4_sorted_75 (by decide) ?_
                      refine r_drop 5 ?_
                      exact ih_L9 (e0 + 1) (insA A0 e0 (inP A0 b (A0 e0) e0)) (by first | omega | (simp [up2, *]; done) | (simp [up2, *]; omega) | (simp only [up2_eq]; omega) | (split <;> omega)) (by first | omega | (simp [up2, *]; done) | (simp [up2, *]; omega) | (simp only [up2_eq]; omega) | (split <;> omega)) (by rw [← hF]; rfl) (soA_ib (b := b) hA _ _)
                  · first
                    | exfalso; first | omega | contradiction
                    | skip
                      have h7 : rkF b (A0 e0) < rkF b (A0 (d)) := by
                        unfold ahF at h39_9
                        split at h39_9
                        · assumption
                        · exact absurd rfl h39_9
                      refine r_aload_n C dX4_sorted_42 rfl ?_
                      refine r_iload C dX4_sorted_43 rfl ?_
                      refine x_ald C (i := d + 1) (f := insA A0 e0 (d + 1)) 0 rfl (by first | omega | (simp [up2, *]; done) | (simp [up2, *]; omega) | (simp only [up2_eq]; omega) | (split <;> omega)) (by first | omega | (simp [up2, *]; done) | (simp [up2, *]; omega) | (simp only [up2_eq]; omega) | (split <;> omega)) dX4_sorted_45 ?_
                      refine r_eqi (show (insA A0 e0 (d + 1)) (d + 1) = (A0 e0) from insA_me) ?_
                      refine r_istore C dX4_sorted_46 (by decide) rfl ?_
                      refine r_aload_n C dX4_sorted_48 rfl ?_
                      refine r_iload C dX4_sorted_49 rfl ?_
                      refine r_aload_n C dX4_sorted_51 rfl ?_
                      refine r_iload C dX4_sorted_52 rfl ?_
                      refine r_iconst (v := (nI 1)) C dX4_sorted_54 (by decide) ?_
                      refine r_isubN C dX4_sorted_55 (by first | omega | (simp [up2, *]; done) | (simp [up2, *]; omega) | (simp only [up2_eq]; omega) | (split <;> omega)) ?_
                      refine x_ald C (i := d) (f := insA A0 e0 (d + 1)) 0 rfl (by first | omega | (simp [up2, *]; done) | (simp [up2, *]; omega) | (simp only [up2_eq]; omega) | (split <;> omega)) (by first | omega | (simp [up2, *]; done) | (simp [up2, *]; omega) | (simp only [up2_eq]; omega) | (split <;> omega)) dX4_sorted_56 ?_
                      refine r_eqi (show (insA A0 e0 (d + 1)) d = (A0 (d)) from (insA_lo (by omega))) ?_
                      refine x_ast C (i := d + 1) (f := insA A0 e0 (d + 1)) (E' := [(b_1, .inl (cy 1, hf 4 w, .inl (upd (insA A0 e0 (d + 1)) (d + 1) (A0 (d)))))]) 0 rfl (by first | omega | (simp [up2, *]; done) | (simp [up2, *]; omega) | (simp only [up2_eq]; omega) | (split <;> omega)) (by first | omega | (simp [up2, *]; done) | (simp [up2, *]; omega) | (simp only [up2_eq]; omega) | (split <;> omega)) rfl dX4_sorted_57 ?_
                      refine r_aload_n C dX4_sorted_58 rfl ?_
                      refine r_iload C dX4_sorted_59 rfl ?_
                      refine r_iconst (v := (nI 1)) C dX4_sorted_61 (by decide) ?_
                      refine r_isubN C dX4_sorted_62 (by first | omega | (simp [up2, *]; done) | (simp [up2, *]; omega) | (simp only [up2_eq]; omega) | (split <;> omega)) ?_
                      refine r_iload C dX4_sorted_63 rfl ?_
                      refine x_ast C (i := d) (f := upd (insA A0 e0 (d + 1)) (d + 1) (A0 (d))) (E' := [(b_1, .inl (cy 1, hf 4 w, .inl (upd (upd (insA A0 e0 (d + 1)) (d + 1) (A0 (d))) d (A0 e0))))]) 0 rfl (by first | omega | (simp [up2, *]; done) | (simp [up2, *]; omega) | (simp only [up2_eq]; omega) | (split <;> omega)) (by first | omega | (simp [up2, *]; done) | (simp [up2, *]; omega) | (simp only [up2_eq]; omega) | (split <;> omega)) rfl dX4_sorted_65 ?_
                      refine r_idecP C dX4_sorted_66 rfl (by first | omega | (simp [up2, *]; done) | (simp [up2, *]; omega) | (simp only [up2_eq]; omega) | (split <;> omega)) (by decide) rfl ?_
                      refine r_goto (tgt := 20) C dX4_sorted_69 (by decide) ?_
                      refine r_w (w' := WM cy ba ra hf hq kn th sm ++ (Y ++ [(b_1, .inl (cy 1, hf 4 w, .inl (insA A0 e0 d)))])) (by rw [insA_step (by omega)]) ?_
                      refine r_drop 6 ?_
                      exact ih_L20  (by omega) (by rw [← hG9]; simp only [inP]; rw [if_neg (Int32.not_le.mpr h7)])
          exact L20 e0 (Nat.le_refl _) rfl
  exact L9 (hf 4 w - 1) 1 (cutF (fun z => hq (f 1 w) (f 3 w + z)) (hf 4 w)) (by omega) (by omega) rfl hA0
