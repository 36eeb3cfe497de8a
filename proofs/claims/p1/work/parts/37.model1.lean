/-! CONTRACTS of the model: small things, the row of a where -/
theorem dX4_isIn_0 : decode cX4_isIn 0 = .ok (.iload_n 0, 1) := dqo_26 (kb_of ke_X4_isIn 0 rfl)
theorem dX4_isIn_1 : decode cX4_isIn 1 = .ok (.iload_n 1, 1) := dqo_27 (kb_of ke_X4_isIn 1 rfl)
theorem dX4_isIn_2 : decode cX4_isIn 2 = .ok (.if_icmp .lt 12, 3) := dqo_161 0 12 (by decide) (kb_of ke_X4_isIn 2 rfl) (kb_of ke_X4_isIn 3 rfl) (kb_of ke_X4_isIn 4 rfl)
theorem dX4_isIn_5 : decode cX4_isIn 5 = .ok (.iload_n 0, 1) := dqo_26 (kb_of ke_X4_isIn 5 rfl)
theorem dX4_isIn_6 : decode cX4_isIn 6 = .ok (.iload_n 2, 1) := dqo_28 (kb_of ke_X4_isIn 6 rfl)
theorem dX4_isIn_7 : decode cX4_isIn 7 = .ok (.if_icmp .gt 7, 3) := dqo_163 0 7 (by decide) (kb_of ke_X4_isIn 7 rfl) (kb_of ke_X4_isIn 8 rfl) (kb_of ke_X4_isIn 9 rfl)
theorem dX4_isIn_10 : decode cX4_isIn 10 = .ok (.iconst 1, 1) := dqo_4 (kb_of ke_X4_isIn 10 rfl)
theorem dX4_isIn_11 : decode cX4_isIn 11 = .ok (.goto 4, 3) := dqo_167 0 4 (by decide) (kb_of ke_X4_isIn 11 rfl) (kb_of ke_X4_isIn 12 rfl) (kb_of ke_X4_isIn 13 rfl)
theorem dX4_isIn_15 : decode cX4_isIn 15 = .ok (.ireturn, 1) := dqo_172 (kb_of ke_X4_isIn 15 rfl)
set_option maxRecDepth 100000 in
set_option maxHeartbeats 4000000 in
theorem D_isIn1 {l : Launch} {D : va_G} {cy : Nat → ClassId} {X : (Nat → Prop) → State → Heap → Prop} {ba ra : Nat → Nat} {hf : Nat → Nat → Nat} {hq : Nat → Nat → Int32} {kn th : Int32} {sm : Int64} {Y : va_W} {x : Int32} {y : Int32} {z : Int32} (hX : EnvM X cy) (h1 : y ≤ x) (h2 : x ≤ z) : Cd l D cy X yX4_isIn cX4_isIn 3 (some .boolean) (rmz 0 0) [.int x, .int y, .int z] (WM cy ba ra hf hq kn th sm ++ Y) (some (.int (nI 1))) (WM cy ba ra hf hq kn th sm ++ Y) := by
  refine Cm.of [some (.int x), some (.int y), some (.int z)] pn_X4 rfl (Nat.le_of_ble_eq_true rfl) ?_
  intro p e s m args below meth c A C hE hr hnt hn
  refine r_iload_n C dX4_isIn_0 rfl ?_
  refine r_iload_n C dX4_isIn_1 rfl ?_
  refine r_ic_lt (tgt := 14) C dX4_isIn_2 (by decide) (fun h2_1 => ?_) (fun h2_1 => ?_)
  · exact absurd h2_1 (Int32.not_lt.mpr h1)
  · skip
    refine r_iload_n C dX4_isIn_5 rfl ?_
    refine r_iload_n C dX4_isIn_6 rfl ?_
    refine r_ic_gt (tgt := 14) C dX4_isIn_7 (by decide) (fun h7_2 => ?_) (fun h7_2 => ?_)
    · exact absurd h7_2 (Int32.not_lt.mpr h2)
    · skip
      refine r_iconst (v := (nI 1)) C dX4_isIn_10 (by decide) ?_
      refine r_goto (tgt := 15) C dX4_isIn_11 (by decide) ?_
      exact r_zret C hr (by first | omega | (simp [up2, *]; done) | (simp [up2, *]; omega) | (simp only [up2_eq]; omega) | (split <;> omega)) dX4_isIn_15 ⟨rfl, rfl⟩ (Nat.le_of_ble_eq_true rfl) (Nat.le_of_ble_eq_true rfl)
theorem dX4_isIn_14 : decode cX4_isIn 14 = .ok (.iconst 0, 1) := dqo_3 (kb_of ke_X4_isIn 14 rfl)
set_option maxRecDepth 100000 in
set_option maxHeartbeats 4000000 in
theorem D_isIn0 {l : Launch} {D : va_G} {cy : Nat → ClassId} {X : (Nat → Prop) → State → Heap → Prop} {ba ra : Nat → Nat} {hf : Nat → Nat → Nat} {hq : Nat → Nat → Int32} {kn th : Int32} {sm : Int64} {Y : va_W} {x : Int32} {y : Int32} {z : Int32} (hX : EnvM X cy) (hno : ¬ (y ≤ x ∧ x ≤ z)) : Cd l D cy X yX4_isIn cX4_isIn 3 (some .boolean) (rmz 0 0) [.int x, .int y, .int z] (WM cy ba ra hf hq kn th sm ++ Y) (some (.int (nI 0))) (WM cy ba ra hf hq kn th sm ++ Y) := by
  refine Cm.of [some (.int x), some (.int y), some (.int z)] pn_X4 rfl (Nat.le_of_ble_eq_true rfl) ?_
  intro p e s m args below meth c A C hE hr hnt hn
  refine r_iload_n C dX4_isIn_0 rfl ?_
  refine r_iload_n C dX4_isIn_1 rfl ?_
  refine r_ic_lt (tgt := 14) C dX4_isIn_2 (by decide) (fun h2_1 => ?_) (fun h2_1 => ?_)
  · first
    | exfalso; first | omega | contradiction
    | skip
      refine r_iconst (v := (nI 0)) C dX4_isIn_14 (by decide) ?_
      exact r_zret C hr (by first | omega | (simp [up2, *]; done) | (simp [up2, *]; omega) | (simp only [up2_eq]; omega) | (split <;> omega)) dX4_isIn_15 ⟨rfl, rfl⟩ (Nat.le_of_ble_eq_true rfl) (Nat.le_of_ble_eq_true rfl)
  · first
    | exfalso; first | omega | contradiction
    | skip
      refine r_iload_n C dX4_isIn_5 rfl ?_
      refine r_iload_n C dX4_isIn_6 rfl ?_
      refine r_ic_gt (tgt := 14) C dX4_isIn_7 (by decide) (fun h7_2 => ?_) (fun h7_2 => ?_)
      · skip
        refine r_iconst (v := (nI 0)) C dX4_isIn_14 (by decide) ?_
        exact r_zret C hr (by first | omega | (simp [up2, *]; done) | (simp [up2, *]; omega) | (simp only [up2_eq]; omega) | (split <;> omega)) dX4_isIn_15 ⟨rfl, rfl⟩ (Nat.le_of_ble_eq_true rfl) (Nat.le_of_ble_eq_true rfl)
      · exact absurd ⟨Int32.not_lt.mp (by assumption), by first | assumption | exact Int32.not_lt.mp (by assumption)⟩ hno
set_option maxRecDepth 100000 in
set_option maxHeartbeats 4000000 in
theorem D_isInN {l : Launch} {D : va_G} {cy : Nat → ClassId} {X : (Nat → Prop) → State → Heap → Prop} {ba ra : Nat → Nat} {hf : Nat → Nat → Nat} {hq : Nat → Nat → Int32} {kn th : Int32} {sm : Int64} {Y : va_W} {a0 : Nat} {b0 : Nat} {d0 : Nat} (hX : EnvM X cy) (h1 : b0 ≤ a0) (h2 : a0 ≤ d0) (h3 : d0 < 2147483648) : Cd l D cy X yX4_isIn cX4_isIn 3 (some .boolean) (rmz 0 0) [.int (nI a0), .int (nI b0), .int (nI d0)] (WM cy ba ra hf hq kn th sm ++ Y) (some (.int (nI 1))) (WM cy ba ra hf hq kn th sm ++ Y) := by
  refine Cm.of [some (.int (nI a0)), some (.int (nI b0)), some (.int (nI d0))] pn_X4 rfl (Nat.le_of_ble_eq_true rfl) ?_
  intro p e s m args below meth c A C hE hr hnt hn
  refine r_iload_n C dX4_isIn_0 rfl ?_
  refine r_iload_n C dX4_isIn_1 rfl ?_
  refine r_icN_lt (a := a0) (b := b0) (tgt := 14) C (by first | omega | (simp [up2, *]; done) | (simp [up2, *]; omega) | (simp only [up2_eq]; omega) | (split <;> omega)) (by first | omega | (simp [up2, *]; done) | (simp [up2, *]; omega) | (simp only [up2_eq]; omega) | (split <;> omega)) dX4_isIn_2 (by decide) (fun h2_1 => ?_) (fun h2_1 => ?_)
  · first
    | exfalso; first | omega | contradiction
    | skip
      refine r_iconst (v := (nI 0)) C dX4_isIn_14 (by decide) ?_
      exact r_zret C hr (by first | omega | (simp [up2, *]; done) | (simp [up2, *]; omega) | (simp only [up2_eq]; omega) | (split <;> omega)) dX4_isIn_15 ⟨rfl, rfl⟩ (Nat.le_of_ble_eq_true rfl) (Nat.le_of_ble_eq_true rfl)
  · first
    | exfalso; first | omega | contradiction
    | skip
      refine r_iload_n C dX4_isIn_5 rfl ?_
      refine r_iload_n C dX4_isIn_6 rfl ?_
      refine r_icN_gt (a := a0) (b := d0) (tgt := 14) C (by first | omega | (simp [up2, *]; done) | (simp [up2, *]; omega) | (simp only [up2_eq]; omega) | (split <;> omega)) (by first | omega | (simp [up2, *]; done) | (simp [up2, *]; omega) | (simp only [up2_eq]; omega) | (split <;> omega)) dX4_isIn_7 (by decide) (fun h7_2 => ?_) (fun h7_2 => ?_)
      · first
        | exfalso; first | omega | contradiction
        | skip
          refine r_iconst (v := (nI 0)) C dX4_isIn_14 (by decide) ?_
          exact r_zret C hr (by first | omega | (simp [up2, *]; done) | (simp [up2, *]; omega) | (simp only [up2_eq]; omega) | (split <;> omega)) dX4_isIn_15 ⟨rfl, rfl⟩ (Nat.le_of_ble_eq_true rfl) (Nat.le_of_ble_eq_true rfl)
      · first
        | exfalso; first | omega | contradiction
        | skip
          refine r_iconst (v := (nI 1)) C dX4_isIn_10 (by decide) ?_
          refine r_goto (tgt := 15) C dX4_isIn_11 (by decide) ?_
          exact r_zret C hr (by first | omega | (simp [up2, *]; done) | (simp [up2, *]; omega) | (simp only [up2_eq]; omega) | (split <;> omega)) dX4_isIn_15 ⟨rfl, rfl⟩ (Nat.le_of_ble_eq_true rfl) (Nat.le_of_ble_eq_true rfl)
theorem dX4_one_0 : decode cX4_one 0 = .ok (.iload_n 0, 1) := dqo_26 (kb_of ke_X4_one 0 rfl)
theorem dX4_one_1 : decode cX4_one 1 = .ok (.ifCond .eq 7, 3) := dqo_153 0 7 (by decide) (kb_of ke_X4_one 1 rfl) (kb_of ke_X4_one 2 rfl) (kb_of ke_X4_one 3 rfl)
theorem dX4_one_4 : decode cX4_one 4 = .ok (.iconst 1, 1) := dqo_4 (kb_of ke_X4_one 4 rfl)
theorem dX4_one_5 : decode cX4_one 5 = .ok (.goto 4, 3) := dqo_167 0 4 (by decide) (kb_of ke_X4_one 5 rfl) (kb_of ke_X4_one 6 rfl) (kb_of ke_X4_one 7 rfl)
theorem dX4_one_8 : decode cX4_one 8 = .ok (.iconst 0, 1) := dqo_3 (kb_of ke_X4_one 8 rfl)
theorem dX4_one_9 : decode cX4_one 9 = .ok (.ireturn, 1) := dqo_172 (kb_of ke_X4_one 9 rfl)
set_option maxRecDepth 100000 in
set_option maxHeartbeats 4000000 in
theorem D_one {l : Launch} {D : va_G} {cy : Nat → ClassId} {X : (Nat → Prop) → State → Heap → Prop} {ba ra : Nat → Nat} {hf : Nat → Nat → Nat} {hq : Nat → Nat → Int32} {kn th : Int32} {sm : Int64} {Y : va_W} {b0 : Nat} (hX : EnvM X cy) (hb : b0 ≤ 1) : Cd l D cy X yX4_one cX4_one 1 (some .int) (rmz 0 0) [.int (nI b0)] (WM cy ba ra hf hq kn th sm ++ Y) (some (.int (nI b0))) (WM cy ba ra hf hq kn th sm ++ Y) := by
  refine Cm.of [some (.int (nI b0))] pn_X4 rfl (Nat.le_of_ble_eq_true rfl) ?_
  intro p e s m args below meth c A C hE hr hnt hn
  refine r_iload_n C dX4_one_0 rfl ?_
  refine r_ifN_eq (a := b0) (tgt := 8) C (by first | omega | (simp [up2, *]; done) | (simp [up2, *]; omega) | (simp only [up2_eq]; omega) | (split <;> omega)) dX4_one_1 (by decide) (fun h1_1 => ?_) (fun h1_1 => ?_)
  · first
    | exfalso; first | omega | contradiction
    | skip
      refine r_iconst (v := (nI 0)) C dX4_one_8 (by decide) ?_
      exact r_iret C hr dX4_one_9 ⟨by first | rw [show b0 = 0 by omega] | rw [show b0 = 1 by omega], rfl⟩ (Nat.le_of_ble_eq_true rfl) (Nat.le_of_ble_eq_true rfl)
  · first
    | exfalso; first | omega | contradiction
    | skip
      refine r_iconst (v := (nI 1)) C dX4_one_4 (by decide) ?_
      refine r_goto (tgt := 9) C dX4_one_5 (by decide) ?_
      exact r_iret C hr dX4_one_9 ⟨by first | rw [show b0 = 0 by omega] | rw [show b0 = 1 by omega], rfl⟩ (Nat.le_of_ble_eq_true rfl) (Nat.le_of_ble_eq_true rfl)
theorem pk_X4_isIn : PkS yX4_isIn cX4_isIn 3 (some .boolean) 3 := ⟨⟨qt_X4_isIn, qz_X4, qc_X4_isIn⟩, mh_X4.1, mh_X4.2, pd_19⟩
theorem dX4_isNoItem_0 : decode cX4_isNoItem 0 = .ok (.iload_n 0, 1) := dqo_26 (kb_of ke_X4_isNoItem 0 rfl)
theorem dX4_isNoItem_1 : decode cX4_isNoItem 1 = .ok (.bipush (-99), 2) := dqo_16 157 (by decide) (kb_of ke_X4_isNoItem 1 rfl) (kb_of ke_X4_isNoItem 2 rfl)
theorem dX4_isNoItem_3 : decode cX4_isNoItem 3 = .ok (.bipush 99, 2) := dqo_16 99 (by decide) (kb_of ke_X4_isNoItem 3 rfl) (kb_of ke_X4_isNoItem 4 rfl)
theorem dX4_isNoItem_5 : decode cX4_isNoItem 5 = .ok (.invokestatic 1, 3) := dqo_184 0 1 (kb_of ke_X4_isNoItem 5 rfl) (kb_of ke_X4_isNoItem 6 rfl) (kb_of ke_X4_isNoItem 7 rfl)
theorem dX4_isNoItem_8 : decode cX4_isNoItem 8 = .ok (.ifCond .ne 7, 3) := dqo_154 0 7 (by decide) (kb_of ke_X4_isNoItem 8 rfl) (kb_of ke_X4_isNoItem 9 rfl) (kb_of ke_X4_isNoItem 10 rfl)
theorem dX4_isNoItem_15 : decode cX4_isNoItem 15 = .ok (.iconst 0, 1) := dqo_3 (kb_of ke_X4_isNoItem 15 rfl)
theorem dX4_isNoItem_16 : decode cX4_isNoItem 16 = .ok (.ireturn, 1) := dqo_172 (kb_of ke_X4_isNoItem 16 rfl)
set_option maxRecDepth 100000 in
set_option maxHeartbeats 4000000 in
theorem D_isNoItem0 {l : Launch} {D : va_G} {cy : Nat → ClassId} {X : (Nat → Prop) → State → Heap → Prop} {ba ra : Nat → Nat} {hf : Nat → Nat → Nat} {hq : Nat → Nat → Int32} {kn th : Int32} {sm : Int64} {Y : va_W} {y : Int32} (hX : EnvM X cy) (ho : okI y) : Cd l D cy X yX4_isNoItem cX4_isNoItem 1 (some .boolean) (rmz 1 30) [.int y] (WM cy ba ra hf hq kn th sm ++ Y) (some (.int (nI 0))) (WM cy ba ra hf hq kn th sm ++ Y) := by
  refine Cm.of [some (.int y)] pn_X4 rfl (Nat.le_of_ble_eq_true rfl) ?_
  intro p e s m args below meth c A C hE hr hnt hn
  refine r_iload_n C dX4_isNoItem_0 rfl ?_
  refine r_bipush (v := (nI 4294967197)) C dX4_isNoItem_1 (by decide) ?_
  refine r_bipush (v := (nI 99)) C dX4_isNoItem_3 (by decide) ?_
  refine d_S (st := []) hX.1.stb C hE (D_isIn1 (ba := ba) (ra := ra) (hf := hf) (hq := hq) (kn := kn) (th := th) (sm := sm) (Y := Y) (x := (y)) (y := ((nI 4294967197))) (z := ((nI 99))) hX (Int32.not_lt.mp ho.1) (Int32.not_lt.mp ho.2)) pk_X4_isIn qm_X4_1 rfl rfl (Nat.le_of_ble_eq_true rfl) dX4_isNoItem_5 ⟨(Nat.le_of_ble_eq_true rfl), (Nat.le_of_ble_eq_true rfl)⟩ ⟨(Nat.le_of_ble_eq_true rfl), (Nat.le_of_ble_eq_true rfl)⟩ ?_
  refine r_w (w' := WM cy ba ra hf hq kn th sm ++ Y) rfl ?_
  refine r_ifN_ne (a := 1) (tgt := 15) C (by first | omega | (simp [up2, *]; done) | (simp [up2, *]; omega) | (simp only [up2_eq]; omega) | (split <;> omega)) dX4_isNoItem_8 (by decide) (fun h8_1 => ?_) (fun h8_1 => ?_)
  · skip
    refine r_iconst (v := (nI 0)) C dX4_isNoItem_15 (by decide) ?_
    exact r_zret C hr (by first | omega | (simp [up2, *]; done) | (simp [up2, *]; omega) | (simp only [up2_eq]; omega) | (split <;> omega)) dX4_isNoItem_16 ⟨rfl, rfl⟩ (Nat.le_of_ble_eq_true rfl) (Nat.le_of_ble_eq_true rfl)
  · exact absurd h8_1 (by first | omega | (simp [up2, *]; done) | (simp [up2, *]; omega) | (simp only [up2_eq]; omega) | (split <;> omega))
theorem dX4_isNoItem_11 : decode cX4_isNoItem 11 = .ok (.iconst 1, 1) := dqo_4 (kb_of ke_X4_isNoItem 11 rfl)
theorem dX4_isNoItem_12 : decode cX4_isNoItem 12 = .ok (.goto 4, 3) := dqo_167 0 4 (by decide) (kb_of ke_X4_isNoItem 12 rfl) (kb_of ke_X4_isNoItem 13 rfl) (kb_of ke_X4_isNoItem 14 rfl)
set_option maxRecDepth 100000 in
set_option maxHeartbeats 4000000 in
theorem D_isNoItem1 {l : Launch} {D : va_G} {cy : Nat → ClassId} {X : (Nat → Prop) → State → Heap → Prop} {ba ra : Nat → Nat} {hf : Nat → Nat → Nat} {hq : Nat → Nat → Int32} {kn th : Int32} {sm : Int64} {Y : va_W} {y : Int32} (hX : EnvM X cy) (ho : ¬ okI y) : Cd l D cy X yX4_isNoItem cX4_isNoItem 1 (some .boolean) (rmz 1 30) [.int y] (WM cy ba ra hf hq kn th sm ++ Y) (some (.int (nI 1))) (WM cy ba ra hf hq kn th sm ++ Y) := by
  refine Cm.of [some (.int y)] pn_X4 rfl (Nat.le_of_ble_eq_true rfl) ?_
  intro p e s m args below meth c A C hE hr hnt hn
  refine r_iload_n C dX4_isNoItem_0 rfl ?_
  refine r_bipush (v := (nI 4294967197)) C dX4_isNoItem_1 (by decide) ?_
  refine r_bipush (v := (nI 99)) C dX4_isNoItem_3 (by decide) ?_
  refine d_S (st := []) hX.1.stb C hE (D_isIn0 (ba := ba) (ra := ra) (hf := hf) (hq := hq) (kn := kn) (th := th) (sm := sm) (Y := Y) (x := (y)) (y := ((nI 4294967197))) (z := ((nI 99))) hX (fun z => ho ⟨Int32.not_lt.mpr z.1, Int32.not_lt.mpr z.2⟩)) pk_X4_isIn qm_X4_1 rfl rfl (Nat.le_of_ble_eq_true rfl) dX4_isNoItem_5 ⟨(Nat.le_of_ble_eq_true rfl), (Nat.le_of_ble_eq_true rfl)⟩ ⟨(Nat.le_of_ble_eq_true rfl), (Nat.le_of_ble_eq_true rfl)⟩ ?_
  refine r_w (w' := WM cy ba ra hf hq kn th sm ++ Y) rfl ?_
  refine r_ifN_ne (a := 0) (tgt := 15) C (by first | omega | (simp [up2, *]; done) | (simp [up2, *]; omega) | (simp only [up2_eq]; omega) | (split <;> omega)) dX4_isNoItem_8 (by decide) (fun h8_1 => ?_) (fun h8_1 => ?_)
  · exact absurd h8_1 (by first | omega | (simp [up2, *]; done) | (simp [up2, *]; omega) | (simp only [up2_eq]; omega) | (split <;> omega))
  · skip
    refine r_iconst (v := (nI 1)) C dX4_isNoItem_11 (by decide) ?_
    refine r_goto (tgt := 16) C dX4_isNoItem_12 (by decide) ?_
    exact r_zret C hr (by first | omega | (simp [up2, *]; done) | (simp [up2, *]; omega) | (simp only [up2_eq]; omega) | (split <;> omega)) dX4_isNoItem_16 ⟨rfl, rfl⟩ (Nat.le_of_ble_eq_true rfl) (Nat.le_of_ble_eq_true rfl)
theorem dX4_isNoRow_0 : decode cX4_isNoRow 0 = .ok (.iload_n 0, 1) := dqo_26 (kb_of ke_X4_isNoRow 0 rfl)
theorem dX4_isNoRow_1 : decode cX4_isNoRow 1 = .ok (.iconst 0, 1) := dqo_3 (kb_of ke_X4_isNoRow 1 rfl)
theorem dX4_isNoRow_2 : decode cX4_isNoRow 2 = .ok (.iconst 3, 1) := dqo_6 (kb_of ke_X4_isNoRow 2 rfl)
theorem dX4_isNoRow_3 : decode cX4_isNoRow 3 = .ok (.invokestatic 1, 3) := dqo_184 0 1 (kb_of ke_X4_isNoRow 3 rfl) (kb_of ke_X4_isNoRow 4 rfl) (kb_of ke_X4_isNoRow 5 rfl)
theorem dX4_isNoRow_6 : decode cX4_isNoRow 6 = .ok (.ifCond .ne 7, 3) := dqo_154 0 7 (by decide) (kb_of ke_X4_isNoRow 6 rfl) (kb_of ke_X4_isNoRow 7 rfl) (kb_of ke_X4_isNoRow 8 rfl)
theorem dX4_isNoRow_13 : decode cX4_isNoRow 13 = .ok (.iconst 0, 1) := dqo_3 (kb_of ke_X4_isNoRow 13 rfl)
theorem dX4_isNoRow_14 : decode cX4_isNoRow 14 = .ok (.ireturn, 1) := dqo_172 (kb_of ke_X4_isNoRow 14 rfl)
set_option maxRecDepth 100000 in
set_option maxHeartbeats 4000000 in
theorem D_isNoRow0 {l : Launch} {D : va_G} {cy : Nat → ClassId} {X : (Nat → Prop) → State → Heap → Prop} {ba ra : Nat → Nat} {hf : Nat → Nat → Nat} {hq : Nat → Nat → Int32} {kn th : Int32} {sm : Int64} {Y : va_W} {i : Nat} (hX : EnvM X cy) (hi : i < 4) : Cd l D cy X yX4_isNoRow cX4_isNoRow 1 (some .boolean) (rmz 1 30) [.int (nI i)] (WM cy ba ra hf hq kn th sm ++ Y) (some (.int (nI 0))) (WM cy ba ra hf hq kn th sm ++ Y) := by
  refine Cm.of [some (.int (nI i))] pn_X4 rfl (Nat.le_of_ble_eq_true rfl) ?_
  intro p e s m args below meth c A C hE hr hnt hn
  refine r_iload_n C dX4_isNoRow_0 rfl ?_
  refine r_iconst (v := (nI 0)) C dX4_isNoRow_1 (by decide) ?_
  refine r_iconst (v := (nI 3)) C dX4_isNoRow_2 (by decide) ?_
  refine d_S (st := []) hX.1.stb C hE (D_isInN (ba := ba) (ra := ra) (hf := hf) (hq := hq) (kn := kn) (th := th) (sm := sm) (Y := Y) (a0 := i) (b0 := 0) (d0 := 3) hX (by first | omega | (simp [up2, *]; done) | (simp [up2, *]; omega) | (simp only [up2_eq]; omega) | (split <;> omega)) (by first | omega | (simp [up2, *]; done) | (simp [up2, *]; omega) | (simp only [up2_eq]; omega) | (split <;> omega)) (by first | omega | (simp [up2, *]; done) | (simp [up2, *]; omega) | (simp only [up2_eq]; omega) | (split <;> omega))) pk_X4_isIn qm_X4_1 rfl rfl (Nat.le_of_ble_eq_true rfl) dX4_isNoRow_3 ⟨(Nat.le_of_ble_eq_true rfl), (Nat.le_of_ble_eq_true rfl)⟩ ⟨(Nat.le_of_ble_eq_true rfl), (Nat.le_of_ble_eq_true rfl)⟩ ?_
  refine r_w (w' := WM cy ba ra hf hq kn th sm ++ Y) rfl ?_
  refine r_ifN_ne (a := 1) (tgt := 13) C (by first | omega | (simp [up2, *]; done) | (simp [up2, *]; omega) | (simp only [up2_eq]; omega) | (split <;> omega)) dX4_isNoRow_6 (by decide) (fun h6_1 => ?_) (fun h6_1 => ?_)
  · skip
    refine r_iconst (v := (nI 0)) C dX4_isNoRow_13 (by decide) ?_
    exact r_zret C hr (by first | omega | (simp [up2, *]; done) | (simp [up2, *]; omega) | (simp only [up2_eq]; omega) | (split <;> omega)) dX4_isNoRow_14 ⟨rfl, rfl⟩ (Nat.le_of_ble_eq_true rfl) (Nat.le_of_ble_eq_true rfl)
  · exact absurd h6_1 (by first | omega | (simp [up2, *]; done) | (simp [up2, *]; omega) | (simp only [up2_eq]; omega) | (split <;> omega))
theorem dX4_isNoRow_9 : decode cX4_isNoRow 9 = .ok (.iconst 1, 1) := dqo_4 (kb_of ke_X4_isNoRow 9 rfl)
theorem dX4_isNoRow_10 : decode cX4_isNoRow 10 = .ok (.goto 4, 3) := dqo_167 0 4 (by decide) (kb_of ke_X4_isNoRow 10 rfl) (kb_of ke_X4_isNoRow 11 rfl) (kb_of ke_X4_isNoRow 12 rfl)
set_option maxRecDepth 100000 in
set_option maxHeartbeats 4000000 in
theorem D_isNoRow1 {l : Launch} {D : va_G} {cy : Nat → ClassId} {X : (Nat → Prop) → State → Heap → Prop} {ba ra : Nat → Nat} {hf : Nat → Nat → Nat} {hq : Nat → Nat → Int32} {kn th : Int32} {sm : Int64} {Y : va_W} {x : Int32} (hX : EnvM X cy) (hno : ¬ (0 ≤ x ∧ x < nI 4)) : Cd l D cy X yX4_isNoRow cX4_isNoRow 1 (some .boolean) (rmz 1 30) [.int x] (WM cy ba ra hf hq kn th sm ++ Y) (some (.int (nI 1))) (WM cy ba ra hf hq kn th sm ++ Y) := by
  refine Cm.of [some (.int x)] pn_X4 rfl (Nat.le_of_ble_eq_true rfl) ?_
  intro p e s m args below meth c A C hE hr hnt hn
  refine r_iload_n C dX4_isNoRow_0 rfl ?_
  refine r_iconst (v := (nI 0)) C dX4_isNoRow_1 (by decide) ?_
  refine r_iconst (v := (nI 3)) C dX4_isNoRow_2 (by decide) ?_
  refine d_S (st := []) hX.1.stb C hE (D_isIn0 (ba := ba) (ra := ra) (hf := hf) (hq := hq) (kn := kn) (th := th) (sm := sm) (Y := Y) (x := (x)) (y := ((nI 0))) (z := ((nI 3))) hX (fun z => hno ⟨z.1, Int32.lt_of_le_of_lt z.2 (by decide)⟩)) pk_X4_isIn qm_X4_1 rfl rfl (Nat.le_of_ble_eq_true rfl) dX4_isNoRow_3 ⟨(Nat.le_of_ble_eq_true rfl), (Nat.le_of_ble_eq_true rfl)⟩ ⟨(Nat.le_of_ble_eq_true rfl), (Nat.le_of_ble_eq_true rfl)⟩ ?_
  refine r_w (w' := WM cy ba ra hf hq kn th sm ++ Y) rfl ?_
  refine r_ifN_ne (a := 0) (tgt := 13) C (by first | omega | (simp [up2, *]; done) | (simp [up2, *]; omega) | (simp only [up2_eq]; omega) | (split <;> omega)) dX4_isNoRow_6 (by decide) (fun h6_1 => ?_) (fun h6_1 => ?_)
  · exact absurd h6_1 (by first | omega | (simp [up2, *]; done) | (simp [up2, *]; omega) | (simp only [up2_eq]; omega) | (split <;> omega))
  · skip
    refine r_iconst (v := (nI 1)) C dX4_isNoRow_9 (by decide) ?_
    refine r_goto (tgt := 14) C dX4_isNoRow_10 (by decide) ?_
    exact r_zret C hr (by first | omega | (simp [up2, *]; done) | (simp [up2, *]; omega) | (simp only [up2_eq]; omega) | (split <;> omega)) dX4_isNoRow_14 ⟨rfl, rfl⟩ (Nat.le_of_ble_eq_true rfl) (Nat.le_of_ble_eq_true rfl)
theorem dX4_isNoCursor_0 : decode cX4_isNoCursor 0 = .ok (.iload_n 0, 1) := dqo_26 (kb_of ke_X4_isNoCursor 0 rfl)
theorem dX4_isNoCursor_1 : decode cX4_isNoCursor 1 = .ok (.iconst 0, 1) := dqo_3 (kb_of ke_X4_isNoCursor 1 rfl)
theorem dX4_isNoCursor_2 : decode cX4_isNoCursor 2 = .ok (.iconst 2, 1) := dqo_5 (kb_of ke_X4_isNoCursor 2 rfl)
theorem dX4_isNoCursor_3 : decode cX4_isNoCursor 3 = .ok (.invokestatic 1, 3) := dqo_184 0 1 (kb_of ke_X4_isNoCursor 3 rfl) (kb_of ke_X4_isNoCursor 4 rfl) (kb_of ke_X4_isNoCursor 5 rfl)
theorem dX4_isNoCursor_6 : decode cX4_isNoCursor 6 = .ok (.ifCond .ne 7, 3) := dqo_154 0 7 (by decide) (kb_of ke_X4_isNoCursor 6 rfl) (kb_of ke_X4_isNoCursor 7 rfl) (kb_of ke_X4_isNoCursor 8 rfl)
theorem dX4_isNoCursor_13 : decode cX4_isNoCursor 13 = .ok (.iconst 0, 1) := dqo_3 (kb_of ke_X4_isNoCursor 13 rfl)
theorem dX4_isNoCursor_14 : decode cX4_isNoCursor 14 = .ok (.ireturn, 1) := dqo_172 (kb_of ke_X4_isNoCursor 14 rfl)
set_option maxRecDepth 100000 in
set_option maxHeartbeats 4000000 in
theorem D_isNoCursor0 {l : Launch} {D : va_G} {cy : Nat → ClassId} {X : (Nat → Prop) → State → Heap → Prop} {ba ra : Nat → Nat} {hf : Nat → Nat → Nat} {hq : Nat → Nat → Int32} {kn th : Int32} {sm : Int64} {Y : va_W} {i : Nat} (hX : EnvM X cy) (hi : i < 3) : Cd l D cy X yX4_isNoCursor cX4_isNoCursor 1 (some .boolean) (rmz 1 30) [.int (nI i)] (WM cy ba ra hf hq kn th sm ++ Y) (some (.int (nI 0))) (WM cy ba ra hf hq kn th sm ++ Y) := by
  refine Cm.of [some (.int (nI i))] pn_X4 rfl (Nat.le_of_ble_eq_true rfl) ?_
  intro p e s m args below meth c A C hE hr hnt hn
  refine r_iload_n C dX4_isNoCursor_0 rfl ?_
  refine r_iconst (v := (nI 0)) C dX4_isNoCursor_1 (by decide) ?_
  refine r_iconst (v := (nI 2)) C dX4_isNoCursor_2 (by decide) ?_
  refine d_S (st := []) hX.1.stb C hE (D_isInN (ba := ba) (ra := ra) (hf := hf) (hq := hq) (kn := kn) (th := th) (sm := sm) (Y := Y) (a0 := i) (b0 := 0) (d0 := 2) hX (by first | omega | (simp [up2, *]; done) | (simp [up2, *]; omega) | (simp only [up2_eq]; omega) | (split <;> omega)) (by first | omega | (simp [up2, *]; done) | (simp [up2, *]; omega) | (simp only [up2_eq]; omega) | (split <;> omega)) (by first | omega | (simp [up2, *]; done) | (simp [up2, *]; omega) | (simp only [up2_eq]; omega) | (split <;> omega))) pk_X4_isIn qm_X4_1 rfl rfl (Nat.le_of_ble_eq_true rfl) dX4_isNoCursor_3 ⟨(Nat.le_of_ble_eq_true rfl), (Nat.le_of_ble_eq_true rfl)⟩ ⟨(Nat.le_of_ble_eq_true rfl), (Nat.le_of_ble_eq_true rfl)⟩ ?_
  refine r_w (w' := WM cy ba ra hf hq kn th sm ++ Y) rfl ?_
  refine r_ifN_ne (a := 1) (tgt := 13) C (by first | omega | (simp [up2, *]; done) | (simp [up2, *]; omega) | (simp only [up2_eq]; omega) | (split <;> omega)) dX4_isNoCursor_6 (by decide) (fun h6_1 => ?_) (fun h6_1 => ?_)
  · skip
    refine r_iconst (v := (nI 0)) C dX4_isNoCursor_13 (by decide) ?_
    exact r_zret C hr (by first | omega | (simp [up2, *]; done) | (simp [up2, *]; omega) | (simp only [up2_eq]; omega) | (split <;> omega)) dX4_isNoCursor_14 ⟨rfl, rfl⟩ (Nat.le_of_ble_eq_true rfl) (Nat.le_of_ble_eq_true rfl)
  · exact absurd h6_1 (by first | omega | (simp [up2, *]; done) | (simp [up2, *]; omega) | (simp only [up2_eq]; omega) | (split <;> omega))
theorem dX4_isNoCursor_9 : decode cX4_isNoCursor 9 = .ok (.iconst 1, 1) := dqo_4 (kb_of ke_X4_isNoCursor 9 rfl)
theorem dX4_isNoCursor_10 : decode cX4_isNoCursor 10 = .ok (.goto 4, 3) := dqo_167 0 4 (by decide) (kb_of ke_X4_isNoCursor 10 rfl) (kb_of ke_X4_isNoCursor 11 rfl) (kb_of ke_X4_isNoCursor 12 rfl)
set_option maxRecDepth 100000 in
set_option maxHeartbeats 4000000 in
theorem D_isNoCursor1 {l : Launch} {D : va_G} {cy : Nat → ClassId} {X : (Nat → Prop) → State → Heap → Prop} {ba ra : Nat → Nat} {hf : Nat → Nat → Nat} {hq : Nat → Nat → Int32} {kn th : Int32} {sm : Int64} {Y : va_W} {x : Int32} (hX : EnvM X cy) (hno : ¬ (0 ≤ x ∧ x < nI 3)) : Cd l D cy X yX4_isNoCursor cX4_isNoCursor 1 (some .boolean) (rmz 1 30) [.int x] (WM cy ba ra hf hq kn th sm ++ Y) (some (.int (nI 1))) (WM cy ba ra hf hq kn th sm ++ Y) := by
  refine Cm.of [some (.int x)] pn_X4 rfl (Nat.le_of_ble_eq_true rfl) ?_
  intro p e s m args below meth c A C hE hr hnt hn
  refine r_iload_n C dX4_isNoCursor_0 rfl ?_
  refine r_iconst (v := (nI 0)) C dX4_isNoCursor_1 (by decide) ?_
  refine r_iconst (v := (nI 2)) C dX4_isNoCursor_2 (by decide) ?_
  refine d_S (st := []) hX.1.stb C hE (D_isIn0 (ba := ba) (ra := ra) (hf := hf) (hq := hq) (kn := kn) (th := th) (sm := sm) (Y := Y) (x := (x)) (y := ((nI 0))) (z := ((nI 2))) hX (fun z => hno ⟨z.1, Int32.lt_of_le_of_lt z.2 (by decide)⟩)) pk_X4_isIn qm_X4_1 rfl rfl (Nat.le_of_ble_eq_true rfl) dX4_isNoCursor_3 ⟨(Nat.le_of_ble_eq_true rfl), (Nat.le_of_ble_eq_true rfl)⟩ ⟨(Nat.le_of_ble_eq_true rfl), (Nat.le_of_ble_eq_true rfl)⟩ ?_
  refine r_w (w' := WM cy ba ra hf hq kn th sm ++ Y) rfl ?_
  refine r_ifN_ne (a := 0) (tgt := 13) C (by first | omega | (simp [up2, *]; done) | (simp [up2, *]; omega) | (simp only [up2_eq]; omega) | (split <;> omega)) dX4_isNoCursor_6 (by decide) (fun h6_1 => ?_) (fun h6_1 => ?_)
  · exact absurd h6_1 (by first | omega | (simp [up2, *]; done) | (simp [up2, *]; omega) | (simp only [up2_eq]; omega) | (split <;> omega))
  · skip
    refine r_iconst (v := (nI 1)) C dX4_isNoCursor_9 (by decide) ?_
    refine r_goto (tgt := 14) C dX4_isNoCursor_10 (by decide) ?_
    exact r_zret C hr (by first | omega | (simp [up2, *]; done) | (simp [up2, *]; omega) | (simp only [up2_eq]; omega) | (split <;> omega)) dX4_isNoCursor_14 ⟨rfl, rfl⟩ (Nat.le_of_ble_eq_true rfl) (Nat.le_of_ble_eq_true rfl)
theorem dX4_fails_0 : decode cX4_fails 0 = .ok (.aload_n 0, 1) := dqo_42 (kb_of ke_X4_fails 0 rfl)
theorem dX4_fails_1 : decode cX4_fails 1 = .ok (.iload_n 1, 1) := dqo_27 (kb_of ke_X4_fails 1 rfl)
theorem dX4_fails_2 : decode cX4_fails 2 = .ok (.ifCond .eq 7, 3) := dqo_153 0 7 (by decide) (kb_of ke_X4_fails 2 rfl) (kb_of ke_X4_fails 3 rfl) (kb_of ke_X4_fails 4 rfl)
theorem dX4_fails_5 : decode cX4_fails 5 = .ok (.iconst 1, 1) := dqo_4 (kb_of ke_X4_fails 5 rfl)
theorem dX4_fails_6 : decode cX4_fails 6 = .ok (.goto 20, 3) := dqo_167 0 20 (by decide) (kb_of ke_X4_fails 6 rfl) (kb_of ke_X4_fails 7 rfl) (kb_of ke_X4_fails 8 rfl)
theorem dX4_fails_26 : decode cX4_fails 26 = .ok (.putfield 44, 3) := dqo_181 0 44 (kb_of ke_X4_fails 26 rfl) (kb_of ke_X4_fails 27 rfl) (kb_of ke_X4_fails 28 rfl)
theorem dX4_fails_29 : decode cX4_fails 29 = .ok (.aload_n 0, 1) := dqo_42 (kb_of ke_X4_fails 29 rfl)
theorem dX4_fails_30 : decode cX4_fails 30 = .ok (.getfield 44, 3) := dqo_180 0 44 (kb_of ke_X4_fails 30 rfl) (kb_of ke_X4_fails 31 rfl) (kb_of ke_X4_fails 32 rfl)
theorem dX4_fails_33 : decode cX4_fails 33 = .ok (.ifCond .le 7, 3) := dqo_158 0 7 (by decide) (kb_of ke_X4_fails 33 rfl) (kb_of ke_X4_fails 34 rfl) (kb_of ke_X4_fails 35 rfl)
theorem dX4_fails_36 : decode cX4_fails 36 = .ok (.iconst 1, 1) := dqo_4 (kb_of ke_X4_fails 36 rfl)
theorem dX4_fails_37 : decode cX4_fails 37 = .ok (.goto 4, 3) := dqo_167 0 4 (by decide) (kb_of ke_X4_fails 37 rfl) (kb_of ke_X4_fails 38 rfl) (kb_of ke_X4_fails 39 rfl)
theorem dX4_fails_41 : decode cX4_fails 41 = .ok (.ireturn, 1) := dqo_172 (kb_of ke_X4_fails 41 rfl)
set_option maxRecDepth 100000 in
set_option maxHeartbeats 4000000 in
theorem D_fails1 {l : Launch} {D : va_G} {cy : Nat → ClassId} {X : (Nat → Prop) → State → Heap → Prop} {ba ra : Nat → Nat} {hf : Nat → Nat → Nat} {hq : Nat → Nat → Int32} {kn th : Int32} {sm : Int64} {Y : va_W} {b0 : Nat} {d0 : Nat} (hX : EnvM X cy)  : Cd l D cy X yX4_fails cX4_fails 4 (some .boolean) (rmz 0 0) [.ref (ba 9), .int (nI 1), .int (nI b0), .int (nI d0)] (WM cy ba ra hf hq kn th sm ++ Y) (some (.int (nI 1))) (WM cy ba ra hf hq kn (nI 1) sm ++ Y) := by
  refine Cm.of [some (.ref (ba 9)), some (.int (nI 1)), some (.int (nI b0)), some (.int (nI d0))] pn_X4 rfl (Nat.le_of_ble_eq_true rfl) ?_
  intro p e s m args below meth c A C hE hr hnt hn
  refine r_aload_n C dX4_fails_0 rfl ?_
  refine r_iload_n C dX4_fails_1 rfl ?_
  refine r_ifN_eq (a := 1) (tgt := 9) C (by first | omega | (simp [up2, *]; done) | (simp [up2, *]; omega) | (simp only [up2_eq]; omega) | (split <;> omega)) dX4_fails_2 (by decide) (fun h2_1 => ?_) (fun h2_1 => ?_)
  · exact absurd h2_1 (by first | omega | (simp [up2, *]; done) | (simp [up2, *]; omega) | (simp only [up2_eq]; omega) | (split <;> omega))
  · skip
    refine r_iconst (v := (nI 1)) C dX4_fails_5 (by decide) ?_
    refine r_goto (tgt := 26) C dX4_fails_6 (by decide) ?_
    refine m_putT C qf_X4_44 dX4_fails_26 ?_
    refine r_aload_n C dX4_fails_29 rfl ?_
    refine m_get (v := .int (nI 1)) C 10 (by decide) qf_X4_44 rfl rfl dX4_fails_30 ?_
    refine r_ifN_le (a := 1) (tgt := 40) C (by first | omega | (simp [up2, *]; done) | (simp [up2, *]; omega) | (simp only [up2_eq]; omega) | (split <;> omega)) dX4_fails_33 (by decide) (fun h33_2 => ?_) (fun h33_2 => ?_)
    · exact absurd h33_2 (by first | omega | (simp [up2, *]; done) | (simp [up2, *]; omega) | (simp only [up2_eq]; omega) | (split <;> omega))
    · skip
      refine r_iconst (v := (nI 1)) C dX4_fails_36 (by decide) ?_
      refine r_goto (tgt := 41) C dX4_fails_37 (by decide) ?_
      exact r_zret C hr (by first | omega | (simp [up2, *]; done) | (simp [up2, *]; omega) | (simp only [up2_eq]; omega) | (split <;> omega)) dX4_fails_41 ⟨rfl, rfl⟩ (Nat.le_of_ble_eq_true rfl) (Nat.le_of_ble_eq_true rfl)
theorem dX4_fails_9 : decode cX4_fails 9 = .ok (.iload_n 2, 1) := dqo_28 (kb_of ke_X4_fails 9 rfl)
theorem dX4_fails_10 : decode cX4_fails 10 = .ok (.ifCond .eq 7, 3) := dqo_153 0 7 (by decide) (kb_of ke_X4_fails 10 rfl) (kb_of ke_X4_fails 11 rfl) (kb_of ke_X4_fails 12 rfl)
theorem dX4_fails_13 : decode cX4_fails 13 = .ok (.iconst 2, 1) := dqo_5 (kb_of ke_X4_fails 13 rfl)
theorem dX4_fails_14 : decode cX4_fails 14 = .ok (.goto 12, 3) := dqo_167 0 12 (by decide) (kb_of ke_X4_fails 14 rfl) (kb_of ke_X4_fails 15 rfl) (kb_of ke_X4_fails 16 rfl)
set_option maxRecDepth 100000 in
set_option maxHeartbeats 4000000 in
theorem D_fails2 {l : Launch} {D : va_G} {cy : Nat → ClassId} {X : (Nat → Prop) → State → Heap → Prop} {ba ra : Nat → Nat} {hf : Nat → Nat → Nat} {hq : Nat → Nat → Int32} {kn th : Int32} {sm : Int64} {Y : va_W} {d0 : Nat} (hX : EnvM X cy)  : Cd l D cy X yX4_fails cX4_fails 4 (some .boolean) (rmz 0 0) [.ref (ba 9), .int (nI 0), .int (nI 1), .int (nI d0)] (WM cy ba ra hf hq kn th sm ++ Y) (some (.int (nI 1))) (WM cy ba ra hf hq kn (nI 2) sm ++ Y) := by
  refine Cm.of [some (.ref (ba 9)), some (.int (nI 0)), some (.int (nI 1)), some (.int (nI d0))] pn_X4 rfl (Nat.le_of_ble_eq_true rfl) ?_
  intro p e s m args below meth c A C hE hr hnt hn
  refine r_aload_n C dX4_fails_0 rfl ?_
  refine r_iload_n C dX4_fails_1 rfl ?_
  refine r_ifN_eq (a := 0) (tgt := 9) C (by first | omega | (simp [up2, *]; done) | (simp [up2, *]; omega) | (simp only [up2_eq]; omega) | (split <;> omega)) dX4_fails_2 (by decide) (fun h2_1 => ?_) (fun h2_1 => ?_)
  · skip
    refine r_iload_n C dX4_fails_9 rfl ?_
    refine r_ifN_eq (a := 1) (tgt := 17) C (by first | omega | (simp [up2, *]; done) | (simp [up2, *]; omega) | (simp only [up2_eq]; omega) | (split <;> omega)) dX4_fails_10 (by decide) (fun h10_2 => ?_) (fun h10_2 => ?_)
    · exact absurd h10_2 (by first | omega | (simp [up2, *]; done) | (simp [up2, *]; omega) | (simp only [up2_eq]; omega) | (split <;> omega))
    · skip
      refine r_iconst (v := (nI 2)) C dX4_fails_13 (by decide) ?_
      refine r_goto (tgt := 26) C dX4_fails_14 (by decide) ?_
      refine m_putT C qf_X4_44 dX4_fails_26 ?_
      refine r_aload_n C dX4_fails_29 rfl ?_
      refine m_get (v := .int (nI 2)) C 10 (by decide) qf_X4_44 rfl rfl dX4_fails_30 ?_
      refine r_ifN_le (a := 2) (tgt := 40) C (by first | omega | (simp [up2, *]; done) | (simp [up2, *]; omega) | (simp only [up2_eq]; omega) | (split <;> omega)) dX4_fails_33 (by decide) (fun h33_3 => ?_) (fun h33_3 => ?_)
      · exact absurd h33_3 (by first | omega | (simp [up2, *]; done) | (simp [up2, *]; omega) | (simp only [up2_eq]; omega) | (split <;> omega))
      · skip
        refine r_iconst (v := (nI 1)) C dX4_fails_36 (by decide) ?_
        refine r_goto (tgt := 41) C dX4_fails_37 (by decide) ?_
        exact r_zret C hr (by first | omega | (simp [up2, *]; done) | (simp [up2, *]; omega) | (simp only [up2_eq]; omega) | (split <;> omega)) dX4_fails_41 ⟨rfl, rfl⟩ (Nat.le_of_ble_eq_true rfl) (Nat.le_of_ble_eq_true rfl)
  · exact absurd h2_1 (by first | omega | (simp [up2, *]; done) | (simp [up2, *]; omega) | (simp only [up2_eq]; omega) | (split <;> omega))
theorem dX4_fails_17 : decode cX4_fails 17 = .ok (.iload_n 3, 1) := dqo_29 (kb_of ke_X4_fails 17 rfl)
theorem dX4_fails_18 : decode cX4_fails 18 = .ok (.ifCond .eq 7, 3) := dqo_153 0 7 (by decide) (kb_of ke_X4_fails 18 rfl) (kb_of ke_X4_fails 19 rfl) (kb_of ke_X4_fails 20 rfl)
theorem dX4_fails_21 : decode cX4_fails 21 = .ok (.iconst 3, 1) := dqo_6 (kb_of ke_X4_fails 21 rfl)
theorem dX4_fails_22 : decode cX4_fails 22 = .ok (.goto 4, 3) := dqo_167 0 4 (by decide) (kb_of ke_X4_fails 22 rfl) (kb_of ke_X4_fails 23 rfl) (kb_of ke_X4_fails 24 rfl)
set_option maxRecDepth 100000 in
set_option maxHeartbeats 4000000 in
theorem D_fails3 {l : Launch} {D : va_G} {cy : Nat → ClassId} {X : (Nat → Prop) → State → Heap → Prop} {ba ra : Nat → Nat} {hf : Nat → Nat → Nat} {hq : Nat → Nat → Int32} {kn th : Int32} {sm : Int64} {Y : va_W}  (hX : EnvM X cy)  : Cd l D cy X yX4_fails cX4_fails 4 (some .boolean) (rmz 0 0) [.ref (ba 9), .int (nI 0), .int (nI 0), .int (nI 1)] (WM cy ba ra hf hq kn th sm ++ Y) (some (.int (nI 1))) (WM cy ba ra hf hq kn (nI 3) sm ++ Y) := by
  refine Cm.of [some (.ref (ba 9)), some (.int (nI 0)), some (.int (nI 0)), some (.int (nI 1))] pn_X4 rfl (Nat.le_of_ble_eq_true rfl) ?_
  intro p e s m args below meth c A C hE hr hnt hn
  refine r_aload_n C dX4_fails_0 rfl ?_
  refine r_iload_n C dX4_fails_1 rfl ?_
  refine r_ifN_eq (a := 0) (tgt := 9) C (by first | omega | (simp [up2, *]; done) | (simp [up2, *]; omega) | (simp only [up2_eq]; omega) | (split <;> omega)) dX4_fails_2 (by decide) (fun h2_1 => ?_) (fun h2_1 => ?_)
  · skip
    refine r_iload_n C dX4_fails_9 rfl ?_
    refine r_ifN_eq (a := 0) (tgt := 17) C (by first | omega | (simp [up2, *]; done) | (simp [up2, *]; omega) | (simp only [up2_eq]; omega) | (split <;> omega)) dX4_fails_10 (by decide) (fun h10_2 => ?_) (fun h10_2 => ?_)
    · skip
      refine r_iload_n C dX4_fails_17 rfl ?_
      refine r_ifN_eq (a := 1) (tgt := 25) C (by first | omega | (simp [up2, *]; done) | (simp [up2, *]; omega) | (simp only [up2_eq]; omega) | (split <;> omega)) dX4_fails_18 (by decide) (fun h18_3 => ?_) (fun h18_3 => ?_)
      · exact absurd h18_3 (by first | omega | (simp [up2, *]; done) | (simp [up2, *]; omega) | (simp only [up2_eq]; omega) | (split <;> omega))
      · skip
        refine r_iconst (v := (nI 3)) C dX4_fails_21 (by decide) ?_
        refine r_goto (tgt := 26) C dX4_fails_22 (by decide) ?_
        refine m_putT C qf_X4_44 dX4_fails_26 ?_
        refine r_aload_n C dX4_fails_29 rfl ?_
        refine m_get (v := .int (nI 3)) C 10 (by decide) qf_X4_44 rfl rfl dX4_fails_30 ?_
        refine r_ifN_le (a := 3) (tgt := 40) C (by first | omega | (simp [up2, *]; done) | (simp [up2, *]; omega) | (simp only [up2_eq]; omega) | (split <;> omega)) dX4_fails_33 (by decide) (fun h33_4 => ?_) (fun h33_4 => ?_)
        · exact absurd h33_4 (by first | omega | (simp [up2, *]; done) | (simp [up2, *]; omega) | (simp only [up2_eq]; omega) | (split <;> omega))
        · skip
          refine r_iconst (v := (nI 1)) C dX4_fails_36 (by decide) ?_
          refine r_goto (tgt := 41) C dX4_fails_37 (by decide) ?_
          exact r_zret C hr (by first | omega | (simp [up2, *]; done) | (simp [up2, *]; omega) | (simp only [up2_eq]; omega) | (split <;> omega)) dX4_fails_41 ⟨rfl, rfl⟩ (Nat.le_of_ble_eq_true rfl) (Nat.le_of_ble_eq_true rfl)
    · exact absurd h10_2 (by first | omega | (simp [up2, *]; done) | (simp [up2, *]; omega) | (simp only [up2_eq]; omega) | (split <;> omega))
  · exact absurd h2_1 (by first | omega | (simp [up2, *]; done) | (simp [up2, *]; omega) | (simp only [up2_eq]; omega) | (split <;> omega))
theorem dX4_fails_25 : decode cX4_fails 25 = .ok (.iconst 0, 1) := dqo_3 (kb_of ke_X4_fails 25 rfl)
theorem dX4_fails_40 : decode cX4_fails 40 = .ok (.iconst 0, 1) := dqo_3 (kb_of ke_X4_fails 40 rfl)
set_option maxRecDepth 100000 in
set_option maxHeartbeats 4000000 in
theorem D_fails0 {l : Launch} {D : va_G} {cy : Nat → ClassId} {X : (Nat → Prop) → State → Heap → Prop} {ba ra : Nat → Nat} {hf : Nat → Nat → Nat} {hq : Nat → Nat → Int32} {kn th : Int32} {sm : Int64} {Y : va_W}  (hX : EnvM X cy)  : Cd l D cy X yX4_fails cX4_fails 4 (some .boolean) (rmz 0 0) [.ref (ba 9), .int (nI 0), .int (nI 0), .int (nI 0)] (WM cy ba ra hf hq kn th sm ++ Y) (some (.int (nI 0))) (WM cy ba ra hf hq kn (nI 0) sm ++ Y) := by
  refine Cm.of [some (.ref (ba 9)), some (.int (nI 0)), some (.int (nI 0)), some (.int (nI 0))] pn_X4 rfl (Nat.le_of_ble_eq_true rfl) ?_
  intro p e s m args below meth c A C hE hr hnt hn
  refine r_aload_n C dX4_fails_0 rfl ?_
  refine r_iload_n C dX4_fails_1 rfl ?_
  refine r_ifN_eq (a := 0) (tgt := 9) C (by first | omega | (simp [up2, *]; done) | (simp [up2, *]; omega) | (simp only [up2_eq]; omega) | (split <;> omega)) dX4_fails_2 (by decide) (fun h2_1 => ?_) (fun h2_1 => ?_)
  · skip
    refine r_iload_n C dX4_fails_9 rfl ?_
    refine r_ifN_eq (a := 0) (tgt := 17) C (by first | omega | (simp [up2, *]; done) | (simp [up2, *]; omega) | (simp only [up2_eq]; omega) | (split <;> omega)) dX4_fails_10 (by decide) (fun h10_2 => ?_) (fun h10_2 => ?_)
    · skip
      refine r_iload_n C dX4_fails_17 rfl ?_
      refine r_ifN_eq (a := 0) (tgt := 25) C (by first | omega | (simp [up2, *]; done) | (simp [up2, *]; omega) | (simp only [up2_eq]; omega) | (split <;> omega)) dX4_fails_18 (by decide) (fun h18_3 => ?_) (fun h18_3 => ?_)
      · skip
        refine r_iconst (v := (nI 0)) C dX4_fails_25 (by decide) ?_
        refine m_putT C qf_X4_44 dX4_fails_26 ?_
        refine r_aload_n C dX4_fails_29 rfl ?_
        refine m_get (v := .int (nI 0)) C 10 (by decide) qf_X4_44 rfl rfl dX4_fails_30 ?_
        refine r_ifN_le (a := 0) (tgt := 40) C (by first | omega | (simp [up2, *]; done) | (simp [up2, *]; omega) | (simp only [up2_eq]; omega) | (split <;> omega)) dX4_fails_33 (by decide) (fun h33_4 => ?_) (fun h33_4 => ?_)
        · skip
          refine r_iconst (v := (nI 0)) C dX4_fails_40 (by decide) ?_
          exact r_zret C hr (by first | omega | (simp [up2, *]; done) | (simp [up2, *]; omega) | (simp only [up2_eq]; omega) | (split <;> omega)) dX4_fails_41 ⟨rfl, rfl⟩ (Nat.le_of_ble_eq_true rfl) (Nat.le_of_ble_eq_true rfl)
        · exact absurd h33_4 (by first | omega | (simp [up2, *]; done) | (simp [up2, *]; omega) | (simp only [up2_eq]; omega) | (split <;> omega))
      · exact absurd h18_3 (by first | omega | (simp [up2, *]; done) | (simp [up2, *]; omega) | (simp only [up2_eq]; omega) | (split <;> omega))
    · exact absurd h10_2 (by first | omega | (simp [up2, *]; done) | (simp [up2, *]; omega) | (simp only [up2_eq]; omega) | (split <;> omega))
  · exact absurd h2_1 (by first | omega | (simp [up2, *]; done) | (simp [up2, *]; omega) | (simp only [up2_eq]; omega) | (split <;> omega))
theorem dX4_isNoWhere_0 : decode cX4_isNoWhere 0 = .ok (.iload_n 1, 1) := dqo_27 (kb_of ke_X4_isNoWhere 0 rfl)
theorem dX4_isNoWhere_1 : decode cX4_isNoWhere 1 = .ok (.iconst 0, 1) := dqo_3 (kb_of ke_X4_isNoWhere 1 rfl)
theorem dX4_isNoWhere_2 : decode cX4_isNoWhere 2 = .ok (.bipush 7, 2) := dqo_16 7 (by decide) (kb_of ke_X4_isNoWhere 2 rfl) (kb_of ke_X4_isNoWhere 3 rfl)
theorem dX4_isNoWhere_4 : decode cX4_isNoWhere 4 = .ok (.invokestatic 1, 3) := dqo_184 0 1 (kb_of ke_X4_isNoWhere 4 rfl) (kb_of ke_X4_isNoWhere 5 rfl) (kb_of ke_X4_isNoWhere 6 rfl)
theorem dX4_isNoWhere_7 : decode cX4_isNoWhere 7 = .ok (.ifCond .eq 19, 3) := dqo_153 0 19 (by decide) (kb_of ke_X4_isNoWhere 7 rfl) (kb_of ke_X4_isNoWhere 8 rfl) (kb_of ke_X4_isNoWhere 9 rfl)
theorem dX4_isNoWhere_10 : decode cX4_isNoWhere 10 = .ok (.iload_n 1, 1) := dqo_27 (kb_of ke_X4_isNoWhere 10 rfl)
theorem dX4_isNoWhere_11 : decode cX4_isNoWhere 11 = .ok (.iconst 3, 1) := dqo_6 (kb_of ke_X4_isNoWhere 11 rfl)
theorem dX4_isNoWhere_12 : decode cX4_isNoWhere 12 = .ok (.if_icmp .le 18, 3) := dqo_164 0 18 (by decide) (kb_of ke_X4_isNoWhere 12 rfl) (kb_of ke_X4_isNoWhere 13 rfl) (kb_of ke_X4_isNoWhere 14 rfl)
theorem dX4_isNoWhere_15 : decode cX4_isNoWhere 15 = .ok (.aload_n 0, 1) := dqo_42 (kb_of ke_X4_isNoWhere 15 rfl)
theorem dX4_isNoWhere_16 : decode cX4_isNoWhere 16 = .ok (.getfield 18, 3) := dqo_180 0 18 (kb_of ke_X4_isNoWhere 16 rfl) (kb_of ke_X4_isNoWhere 17 rfl) (kb_of ke_X4_isNoWhere 18 rfl)
theorem dX4_isNoWhere_19 : decode cX4_isNoWhere 19 = .ok (.iload_n 1, 1) := dqo_27 (kb_of ke_X4_isNoWhere 19 rfl)
theorem dX4_isNoWhere_20 : decode cX4_isNoWhere 20 = .ok (.iconst 4, 1) := dqo_7 (kb_of ke_X4_isNoWhere 20 rfl)
theorem dX4_isNoWhere_21 : decode cX4_isNoWhere 21 = .ok (.isub, 1) := dqo_100 (kb_of ke_X4_isNoWhere 21 rfl)
theorem dX4_isNoWhere_22 : decode cX4_isNoWhere 22 = .ok (.baload, 1) := dqo_51 (kb_of ke_X4_isNoWhere 22 rfl)
theorem dX4_isNoWhere_23 : decode cX4_isNoWhere 23 = .ok (.ifCond .ne 7, 3) := dqo_154 0 7 (by decide) (kb_of ke_X4_isNoWhere 23 rfl) (kb_of ke_X4_isNoWhere 24 rfl) (kb_of ke_X4_isNoWhere 25 rfl)
theorem dX4_isNoWhere_30 : decode cX4_isNoWhere 30 = .ok (.iconst 0, 1) := dqo_3 (kb_of ke_X4_isNoWhere 30 rfl)
theorem dX4_isNoWhere_31 : decode cX4_isNoWhere 31 = .ok (.ireturn, 1) := dqo_172 (kb_of ke_X4_isNoWhere 31 rfl)
set_option maxRecDepth 100000 in
set_option maxHeartbeats 4000000 in
theorem D_isNoWhere0 {l : Launch} {D : va_G} {cy : Nat → ClassId} {X : (Nat → Prop) → State → Heap → Prop} {ba ra : Nat → Nat} {hf : Nat → Nat → Nat} {hq : Nat → Nat → Int32} {kn th : Int32} {sm : Int64} {Y : va_W} {w : Nat} (hX : EnvM X cy) (hw : w < 8) (h5w : 4 ≤ w → hf 5 w = 1) : Cd l D cy X yX4_isNoWhere cX4_isNoWhere 2 (some .boolean) (rmz 1 30) [.ref (ba 9), .int (nI w)] (WM cy ba ra hf hq kn th sm ++ Y) (some (.int (nI 0))) (WM cy ba ra hf hq kn th sm ++ Y) := by
  refine Cm.of [some (.ref (ba 9)), some (.int (nI w))] pn_X4 rfl (Nat.le_of_ble_eq_true rfl) ?_
  intro p e s m args below meth c A C hE hr hnt hn
  refine r_iload_n C dX4_isNoWhere_0 rfl ?_
  refine r_iconst (v := (nI 0)) C dX4_isNoWhere_1 (by decide) ?_
  refine r_bipush (v := (nI 7)) C dX4_isNoWhere_2 (by decide) ?_
  refine d_S (st := []) hX.1.stb C hE (D_isInN (ba := ba) (ra := ra) (hf := hf) (hq := hq) (kn := kn) (th := th) (sm := sm) (Y := Y) (a0 := w) (b0 := 0) (d0 := 7) hX (by first | omega | (simp [up2, *]; done) | (simp [up2, *]; omega) | (simp only [up2_eq]; omega) | (split <;> omega)) (by first | omega | (simp [up2, *]; done) | (simp [up2, *]; omega) | (simp only [up2_eq]; omega) | (split <;> omega)) (by first | omega | (simp [up2, *]; done) | (simp [up2, *]; omega) | (simp only [up2_eq]; omega) | (split <;> omega))) pk_X4_isIn qm_X4_1 rfl rfl (Nat.le_of_ble_eq_true rfl) dX4_isNoWhere_4 ⟨(Nat.le_of_ble_eq_true rfl), (Nat.le_of_ble_eq_true rfl)⟩ ⟨(Nat.le_of_ble_eq_true rfl), (Nat.le_of_ble_eq_true rfl)⟩ ?_
  refine r_w (w' := WM cy ba ra hf hq kn th sm ++ Y) rfl ?_
  refine r_ifN_eq (a := 1) (tgt := 26) C (by first | omega | (simp [up2, *]; done) | (simp [up2, *]; omega) | (simp only [up2_eq]; omega) | (split <;> omega)) dX4_isNoWhere_7 (by decide) (fun h7_1 => ?_) (fun h7_1 => ?_)
  · exact absurd h7_1 (by first | omega | (simp [up2, *]; done) | (simp [up2, *]; omega) | (simp only [up2_eq]; omega) | (split <;> omega))
  · skip
    refine r_iload_n C dX4_isNoWhere_10 rfl ?_
    refine r_iconst (v := (nI 3)) C dX4_isNoWhere_11 (by decide) ?_
    refine r_icN_le (a := w) (b := 3) (tgt := 30) C (by first | omega | (simp [up2, *]; done) | (simp [up2, *]; omega) | (simp only [up2_eq]; omega) | (split <;> omega)) (by first | omega | (simp [up2, *]; done) | (simp [up2, *]; omega) | (simp only [up2_eq]; omega) | (split <;> omega)) dX4_isNoWhere_12 (by decide) (fun h12_2 => ?_) (fun h12_2 => ?_)
    · first
      | exfalso; first | omega | contradiction
      | skip
        refine r_iconst (v := (nI 0)) C dX4_isNoWhere_30 (by decide) ?_
        exact r_zret C hr (by first | omega | (simp [up2, *]; done) | (simp [up2, *]; omega) | (simp only [up2_eq]; omega) | (split <;> omega)) dX4_isNoWhere_31 ⟨rfl, rfl⟩ (Nat.le_of_ble_eq_true rfl) (Nat.le_of_ble_eq_true rfl)
    · first
      | exfalso; first | omega | contradiction
      | skip
        have q1 := h5w (by omega)
        refine r_aload_n C dX4_isNoWhere_15 rfl ?_
        refine m_get (v := .ref (ba 1)) C 1 (by decide) qf_X4_18 rfl rfl dX4_isNoWhere_16 ?_
        refine r_iload_n C dX4_isNoWhere_19 rfl ?_
        refine r_iconst (v := (nI 4)) C dX4_isNoWhere_20 (by decide) ?_
        refine r_isubN C dX4_isNoWhere_21 (by first | omega | (simp [up2, *]; done) | (simp [up2, *]; omega) | (simp only [up2_eq]; omega) | (split <;> omega)) ?_
        refine m_zld (i := w - 4) (z := w) (v := hf 5 w) C 0 (by decide) (by decide) (show w - 4 < 4 from (by first | omega | (simp [up2, *]; done) | (simp [up2, *]; omega) | (simp only [up2_eq]; omega) | (split <;> omega))) (show 4 + (w - 4) = w from (by omega)) rfl dX4_isNoWhere_22 ?_
        refine r_ifN_ne (a := (hf 5 w)) (tgt := 30) C (by omega) dX4_isNoWhere_23 (by decide) (fun h23_3 => ?_) (fun h23_3 => ?_)
        · skip
          refine r_iconst (v := (nI 0)) C dX4_isNoWhere_30 (by decide) ?_
          exact r_zret C hr (by first | omega | (simp [up2, *]; done) | (simp [up2, *]; omega) | (simp only [up2_eq]; omega) | (split <;> omega)) dX4_isNoWhere_31 ⟨rfl, rfl⟩ (Nat.le_of_ble_eq_true rfl) (Nat.le_of_ble_eq_true rfl)
        · exact absurd h23_3 (by first | omega | (simp [up2, *]; done) | (simp [up2, *]; omega) | (simp only [up2_eq]; omega) | (split <;> omega))
theorem dX4_isNoWhere_26 : decode cX4_isNoWhere 26 = .ok (.iconst 1, 1) := dqo_4 (kb_of ke_X4_isNoWhere 26 rfl)
theorem dX4_isNoWhere_27 : decode cX4_isNoWhere 27 = .ok (.goto 4, 3) := dqo_167 0 4 (by decide) (kb_of ke_X4_isNoWhere 27 rfl) (kb_of ke_X4_isNoWhere 28 rfl) (kb_of ke_X4_isNoWhere 29 rfl)
set_option maxRecDepth 100000 in
set_option maxHeartbeats 4000000 in
theorem D_isNoWhereA {l : Launch} {D : va_G} {cy : Nat → ClassId} {X : (Nat → Prop) → State → Heap → Prop} {ba ra : Nat → Nat} {hf : Nat → Nat → Nat} {hq : Nat → Nat → Int32} {kn th : Int32} {sm : Int64} {Y : va_W} {x : Int32} (hX : EnvM X cy) (hno : ¬ (nI 0 ≤ x ∧ x ≤ nI 7)) : Cd l D cy X yX4_isNoWhere cX4_isNoWhere 2 (some .boolean) (rmz 1 30) [.ref (ba 9), .int x] (WM cy ba ra hf hq kn th sm ++ Y) (some (.int (nI 1))) (WM cy ba ra hf hq kn th sm ++ Y) := by
  refine Cm.of [some (.ref (ba 9)), some (.int x)] pn_X4 rfl (Nat.le_of_ble_eq_true rfl) ?_
  intro p e s m args below meth c A C hE hr hnt hn
  refine r_iload_n C dX4_isNoWhere_0 rfl ?_
  refine r_iconst (v := (nI 0)) C dX4_isNoWhere_1 (by decide) ?_
  refine r_bipush (v := (nI 7)) C dX4_isNoWhere_2 (by decide) ?_
  refine d_S (st := []) hX.1.stb C hE (D_isIn0 (ba := ba) (ra := ra) (hf := hf) (hq := hq) (kn := kn) (th := th) (sm := sm) (Y := Y) (x := (x)) (y := ((nI 0))) (z := ((nI 7))) hX hno) pk_X4_isIn qm_X4_1 rfl rfl (Nat.le_of_ble_eq_true rfl) dX4_isNoWhere_4 ⟨(Nat.le_of_ble_eq_true rfl), (Nat.le_of_ble_eq_true rfl)⟩ ⟨(Nat.le_of_ble_eq_true rfl), (Nat.le_of_ble_eq_true rfl)⟩ ?_
  refine r_w (w' := WM cy ba ra hf hq kn th sm ++ Y) rfl ?_
  refine r_ifN_eq (a := 0) (tgt := 26) C (by first | omega | (simp [up2, *]; done) | (simp [up2, *]; omega) | (simp only [up2_eq]; omega) | (split <;> omega)) dX4_isNoWhere_7 (by decide) (fun h7_1 => ?_) (fun h7_1 => ?_)
  · skip
    refine r_iconst (v := (nI 1)) C dX4_isNoWhere_26 (by decide) ?_
    refine r_goto (tgt := 31) C dX4_isNoWhere_27 (by decide) ?_
    exact r_zret C hr (by first | omega | (simp [up2, *]; done) | (simp [up2, *]; omega) | (simp only [up2_eq]; omega) | (split <;> omega)) dX4_isNoWhere_31 ⟨rfl, rfl⟩ (Nat.le_of_ble_eq_true rfl) (Nat.le_of_ble_eq_true rfl)
  · exact absurd h7_1 (by first | omega | (simp [up2, *]; done) | (simp [up2, *]; omega) | (simp only [up2_eq]; omega) | (split <;> omega))
set_option maxRecDepth 100000 in
set_option maxHeartbeats 4000000 in
theorem D_isNoWhereB {l : Launch} {D : va_G} {cy : Nat → ClassId} {X : (Nat → Prop) → State → Heap → Prop} {ba ra : Nat → Nat} {hf : Nat → Nat → Nat} {hq : Nat → Nat → Int32} {kn th : Int32} {sm : Int64} {Y : va_W} {w : Nat} (hX : EnvM X cy) (hw : w < 8) (h4w : 4 ≤ w) (h5w : hf 5 w = 0) : Cd l D cy X yX4_isNoWhere cX4_isNoWhere 2 (some .boolean) (rmz 1 30) [.ref (ba 9), .int (nI w)] (WM cy ba ra hf hq kn th sm ++ Y) (some (.int (nI 1))) (WM cy ba ra hf hq kn th sm ++ Y) := by
  refine Cm.of [some (.ref (ba 9)), some (.int (nI w))] pn_X4 rfl (Nat.le_of_ble_eq_true rfl) ?_
  intro p e s m args below meth c A C hE hr hnt hn
  refine r_iload_n C dX4_isNoWhere_0 rfl ?_
  refine r_iconst (v := (nI 0)) C dX4_isNoWhere_1 (by decide) ?_
  refine r_bipush (v := (nI 7)) C dX4_isNoWhere_2 (by decide) ?_
  refine d_S (st := []) hX.1.stb C hE (D_isInN (ba := ba) (ra := ra) (hf := hf) (hq := hq) (kn := kn) (th := th) (sm := sm) (Y := Y) (a0 := w) (b0 := 0) (d0 := 7) hX (by first | omega | (simp [up2, *]; done) | (simp [up2, *]; omega) | (simp only [up2_eq]; omega) | (split <;> omega)) (by first | omega | (simp [up2, *]; done) | (simp [up2, *]; omega) | (simp only [up2_eq]; omega) | (split <;> omega)) (by first | omega | (simp [up2, *]; done) | (simp [up2, *]; omega) | (simp only [up2_eq]; omega) | (split <;> omega))) pk_X4_isIn qm_X4_1 rfl rfl (Nat.le_of_ble_eq_true rfl) dX4_isNoWhere_4 ⟨(Nat.le_of_ble_eq_true rfl), (Nat.le_of_ble_eq_true rfl)⟩ ⟨(Nat.le_of_ble_eq_true rfl), (Nat.le_of_ble_eq_true rfl)⟩ ?_
  refine r_w (w' := WM cy ba ra hf hq kn th sm ++ Y) rfl ?_
  refine r_ifN_eq (a := 1) (tgt := 26) C (by first | omega | (simp [up2, *]; done) | (simp [up2, *]; omega) | (simp only [up2_eq]; omega) | (split <;> omega)) dX4_isNoWhere_7 (by decide) (fun h7_1 => ?_) (fun h7_1 => ?_)
  · exact absurd h7_1 (by first | omega | (simp [up2, *]; done) | (simp [up2, *]; omega) | (simp only [up2_eq]; omega) | (split <;> omega))
  · skip
    refine r_iload_n C dX4_isNoWhere_10 rfl ?_
    refine r_iconst (v := (nI 3)) C dX4_isNoWhere_11 (by decide) ?_
    refine r_icN_le (a := w) (b := 3) (tgt := 30) C (by first | omega | (simp [up2, *]; done) | (simp [up2, *]; omega) | (simp only [up2_eq]; omega) | (split <;> omega)) (by first | omega | (simp [up2, *]; done) | (simp [up2, *]; omega) | (simp only [up2_eq]; omega) | (split <;> omega)) dX4_isNoWhere_12 (by decide) (fun h12_2 => ?_) (fun h12_2 => ?_)
    · first
      | exfalso; first | omega | contradiction
      | skip
        refine r_iconst (v := (nI 0)) C dX4_isNoWhere_30 (by decide) ?_
        exact r_zret C hr (by first | omega | (simp [up2, *]; done) | (simp [up2, *]; omega) | (simp only [up2_eq]; omega) | (split <;> omega)) dX4_isNoWhere_31 ⟨rfl, rfl⟩ (Nat.le_of_ble_eq_true rfl) (Nat.le_of_ble_eq_true rfl)
    · first
      | exfalso; first | omega | contradiction
      | skip
        refine r_aload_n C dX4_isNoWhere_15 rfl ?_
        refine m_get (v := .ref (ba 1)) C 1 (by decide) qf_X4_18 rfl rfl dX4_isNoWhere_16 ?_
        refine r_iload_n C dX4_isNoWhere_19 rfl ?_
        refine r_iconst (v := (nI 4)) C dX4_isNoWhere_20 (by decide) ?_
        refine r_isubN C dX4_isNoWhere_21 (by first | omega | (simp [up2, *]; done) | (simp [up2, *]; omega) | (simp only [up2_eq]; omega) | (split <;> omega)) ?_
        refine m_zld (i := w - 4) (z := w) (v := hf 5 w) C 0 (by decide) (by decide) (show w - 4 < 4 from (by first | omega | (simp [up2, *]; done) | (simp [up2, *]; omega) | (simp only [up2_eq]; omega) | (split <;> omega))) (show 4 + (w - 4) = w from (by omega)) rfl dX4_isNoWhere_22 ?_
        refine r_ifN_ne (a := (hf 5 w)) (tgt := 30) C (by omega) dX4_isNoWhere_23 (by decide) (fun h23_3 => ?_) (fun h23_3 => ?_)
        · exact absurd h23_3 (by first | omega | (simp [up2, *]; done) | (simp [up2, *]; omega) | (simp only [up2_eq]; omega) | (split <;> omega))
        · skip
          refine r_iconst (v := (nI 1)) C dX4_isNoWhere_26 (by decide) ?_
          refine r_goto (tgt := 31) C dX4_isNoWhere_27 (by decide) ?_
          exact r_zret C hr (by first | omega | (simp [up2, *]; done) | (simp [up2, *]; omega) | (simp only [up2_eq]; omega) | (split <;> omega)) dX4_isNoWhere_31 ⟨rfl, rfl⟩ (Nat.le_of_ble_eq_true rfl) (Nat.le_of_ble_eq_true rfl)
theorem D_isNoWhere1 {l : Launch} {D : va_G} {cy : Nat → ClassId} {X : (Nat → Prop) → State → Heap → Prop} {ba ra : Nat → Nat} {hf : Nat → Nat → Nat} {hq : Nat → Nat → Int32} {kn th : Int32} {sm : Int64} {Y : va_W} {f : Nat → Nat → Nat} {x : Int32} (hX : EnvM X cy) (h5M : ∀ w, 4 ≤ w → w < 8 → hf 5 w = f 5 w ∧ f 5 w ≤ 1) (h4M : ∀ w, w < 4 → f 5 w = 1) (hno : noW f x) : Cd l D cy X yX4_isNoWhere cX4_isNoWhere 2 (some .boolean) (rmz 1 30) [.ref (ba 9), .int x] (WM cy ba ra hf hq kn th sm ++ Y) (some (.int (nI 1))) (WM cy ba ra hf hq kn th sm ++ Y) := by
  rcases noW_cases h5M h4M hno with h | ⟨w, h4, h8, rfl, h5⟩
  · exact D_isNoWhereA hX h
  · exact D_isNoWhereB hX h8 h4 h5
theorem dX4_rowOf_0 : decode cX4_rowOf 0 = .ok (.iload_n 1, 1) := dqo_27 (kb_of ke_X4_rowOf 0 rfl)
theorem dX4_rowOf_1 : decode cX4_rowOf 1 = .ok (.iconst 4, 1) := dqo_7 (kb_of ke_X4_rowOf 1 rfl)
theorem dX4_rowOf_2 : decode cX4_rowOf 2 = .ok (.if_icmp .ge 7, 3) := dqo_162 0 7 (by decide) (kb_of ke_X4_rowOf 2 rfl) (kb_of ke_X4_rowOf 3 rfl) (kb_of ke_X4_rowOf 4 rfl)
theorem dX4_rowOf_5 : decode cX4_rowOf 5 = .ok (.iload_n 1, 1) := dqo_27 (kb_of ke_X4_rowOf 5 rfl)
theorem dX4_rowOf_6 : decode cX4_rowOf 6 = .ok (.goto 15, 3) := dqo_167 0 15 (by decide) (kb_of ke_X4_rowOf 6 rfl) (kb_of ke_X4_rowOf 7 rfl) (kb_of ke_X4_rowOf 8 rfl)
theorem dX4_rowOf_21 : decode cX4_rowOf 21 = .ok (.ireturn, 1) := dqo_172 (kb_of ke_X4_rowOf 21 rfl)
set_option maxRecDepth 100000 in
set_option maxHeartbeats 4000000 in
theorem D_rowOf_1 {l : Launch} {D : va_G} {cy : Nat → ClassId} {X : (Nat → Prop) → State → Heap → Prop} {ba ra : Nat → Nat} {hf : Nat → Nat → Nat} {hq : Nat → Nat → Int32} {kn th : Int32} {sm : Int64} {Y : va_W} {f : Nat → Nat → Nat} {w : Nat} (hX : EnvM X cy) (hC : CInv f) (hG : MG f hf) (hw : w < 8) (hch : chN f 1 w) : Cd l D cy X yX4_rowOf cX4_rowOf 2 (some .int) (rmz 0 0) [.ref (ba 9), .int (nI w)] (WM cy ba ra hf hq kn th sm ++ Y) (some (.int (nI (f 1 w)))) (WM cy ba ra hf hq kn th sm ++ Y) := by
  refine Cm.of [some (.ref (ba 9)), some (.int (nI w))] pn_X4 rfl (Nat.le_of_ble_eq_true rfl) ?_
  intro p e s m args below meth c A C hE hr hnt hn
  refine r_iload_n C dX4_rowOf_0 rfl ?_
  refine r_iconst (v := (nI 4)) C dX4_rowOf_1 (by decide) ?_
  refine r_icN_ge (a := w) (b := 4) (tgt := 9) C (by first | omega | (simp [up2, *]; done) | (simp [up2, *]; omega) | (simp only [up2_eq]; omega) | (split <;> omega)) (by first | omega | (simp [up2, *]; done) | (simp [up2, *]; omega) | (simp only [up2_eq]; omega) | (split <;> omega)) dX4_rowOf_2 (by decide) (fun h2_1 => ?_) (fun h2_1 => ?_)
  · exact absurd (chN_step hch h2_1).2.2 id
  · skip
    refine r_iload_n C dX4_rowOf_5 rfl ?_
    refine r_goto (tgt := 21) C dX4_rowOf_6 (by decide) ?_
    exact r_iret C hr dX4_rowOf_21 ⟨by first | exact congrArg (fun z => some (Value.int (nI z))) ((hC.rw (by omega)).2.1.symm) | exact congrArg (fun z => some (Value.int (nI z))) (q3.2.2.1.symm), rfl⟩ (Nat.le_of_ble_eq_true rfl) (Nat.le_of_ble_eq_true rfl)
theorem dX4_begin_0 : decode cX4_begin 0 = .ok (.iload_n 1, 1) := dqo_27 (kb_of ke_X4_begin 0 rfl)
theorem dX4_begin_1 : decode cX4_begin 1 = .ok (.iconst 4, 1) := dqo_7 (kb_of ke_X4_begin 1 rfl)
theorem dX4_begin_2 : decode cX4_begin 2 = .ok (.if_icmp .ge 7, 3) := dqo_162 0 7 (by decide) (kb_of ke_X4_begin 2 rfl) (kb_of ke_X4_begin 3 rfl) (kb_of ke_X4_begin 4 rfl)
theorem dX4_begin_5 : decode cX4_begin 5 = .ok (.iconst 0, 1) := dqo_3 (kb_of ke_X4_begin 5 rfl)
theorem dX4_begin_6 : decode cX4_begin 6 = .ok (.goto 24, 3) := dqo_167 0 24 (by decide) (kb_of ke_X4_begin 6 rfl) (kb_of ke_X4_begin 7 rfl) (kb_of ke_X4_begin 8 rfl)
theorem dX4_begin_30 : decode cX4_begin 30 = .ok (.ireturn, 1) := dqo_172 (kb_of ke_X4_begin 30 rfl)
set_option maxRecDepth 100000 in
set_option maxHeartbeats 4000000 in
theorem D_begin_1 {l : Launch} {D : va_G} {cy : Nat → ClassId} {X : (Nat → Prop) → State → Heap → Prop} {ba ra : Nat → Nat} {hf : Nat → Nat → Nat} {hq : Nat → Nat → Int32} {kn th : Int32} {sm : Int64} {Y : va_W} {f : Nat → Nat → Nat} {w : Nat} (hX : EnvM X cy) (hC : CInv f) (hG : MG f hf) (hw : w < 8) (hch : chN f 1 w) : Cd l D cy X yX4_begin cX4_begin 2 (some .int) (rmz 0 0) [.ref (ba 9), .int (nI w)] (WM cy ba ra hf hq kn th sm ++ Y) (some (.int (nI (f 3 w)))) (WM cy ba ra hf hq kn th sm ++ Y) := by
  refine Cm.of [some (.ref (ba 9)), some (.int (nI w))] pn_X4 rfl (Nat.le_of_ble_eq_true rfl) ?_
  intro p e s m args below meth c A C hE hr hnt hn
  refine r_iload_n C dX4_begin_0 rfl ?_
  refine r_iconst (v := (nI 4)) C dX4_begin_1 (by decide) ?_
  refine r_icN_ge (a := w) (b := 4) (tgt := 9) C (by first | omega | (simp [up2, *]; done) | (simp [up2, *]; omega) | (simp only [up2_eq]; omega) | (split <;> omega)) (by first | omega | (simp [up2, *]; done) | (simp [up2, *]; omega) | (simp only [up2_eq]; omega) | (split <;> omega)) dX4_begin_2 (by decide) (fun h2_1 => ?_) (fun h2_1 => ?_)
  · exact absurd (chN_step hch h2_1).2.2 id
  · skip
    refine r_iconst (v := (nI 0)) C dX4_begin_5 (by decide) ?_
    refine r_goto (tgt := 30) C dX4_begin_6 (by decide) ?_
    exact r_iret C hr dX4_begin_30 ⟨by first | exact congrArg (fun z => some (Value.int (nI z))) ((hC.rw (by omega)).2.2.2.1.symm) | exact congrArg (fun z => some (Value.int (nI z))) ((by omega)), rfl⟩ (Nat.le_of_ble_eq_true rfl) (Nat.le_of_ble_eq_true rfl)
theorem dX4_isHolder_0 : decode cX4_isHolder 0 = .ok (.iload_n 1, 1) := dqo_27 (kb_of ke_X4_isHolder 0 rfl)
theorem dX4_isHolder_1 : decode cX4_isHolder 1 = .ok (.iload_n 2, 1) := dqo_28 (kb_of ke_X4_isHolder 1 rfl)
theorem dX4_isHolder_2 : decode cX4_isHolder 2 = .ok (.if_icmp .eq 24, 3) := dqo_159 0 24 (by decide) (kb_of ke_X4_isHolder 2 rfl) (kb_of ke_X4_isHolder 3 rfl) (kb_of ke_X4_isHolder 4 rfl)
theorem dX4_isHolder_5 : decode cX4_isHolder 5 = .ok (.iload_n 2, 1) := dqo_28 (kb_of ke_X4_isHolder 5 rfl)
theorem dX4_isHolder_6 : decode cX4_isHolder 6 = .ok (.iconst 3, 1) := dqo_6 (kb_of ke_X4_isHolder 6 rfl)
theorem dX4_isHolder_7 : decode cX4_isHolder 7 = .ok (.if_icmp .le 23, 3) := dqo_164 0 23 (by decide) (kb_of ke_X4_isHolder 7 rfl) (kb_of ke_X4_isHolder 8 rfl) (kb_of ke_X4_isHolder 9 rfl)
theorem dX4_isHolder_26 : decode cX4_isHolder 26 = .ok (.iconst 1, 1) := dqo_4 (kb_of ke_X4_isHolder 26 rfl)
theorem dX4_isHolder_27 : decode cX4_isHolder 27 = .ok (.goto 4, 3) := dqo_167 0 4 (by decide) (kb_of ke_X4_isHolder 27 rfl) (kb_of ke_X4_isHolder 28 rfl) (kb_of ke_X4_isHolder 29 rfl)
theorem dX4_isHolder_30 : decode cX4_isHolder 30 = .ok (.iconst 0, 1) := dqo_3 (kb_of ke_X4_isHolder 30 rfl)
theorem dX4_isHolder_31 : decode cX4_isHolder 31 = .ok (.ireturn, 1) := dqo_172 (kb_of ke_X4_isHolder 31 rfl)
set_option maxRecDepth 100000 in
set_option maxHeartbeats 4000000 in
theorem D_isHolder_1 {l : Launch} {D : va_G} {cy : Nat → ClassId} {X : (Nat → Prop) → State → Heap → Prop} {ba ra : Nat → Nat} {hf : Nat → Nat → Nat} {hq : Nat → Nat → Int32} {kn th : Int32} {sm : Int64} {Y : va_W} {f : Nat → Nat → Nat} {h0 : Nat} {w : Nat} {d0 : Nat} (hX : EnvM X cy) (hC : CInv f) (hG : MG f hf) (hh : h0 < 8) (hw : w < 8) (hch : chN f 1 w) (hd : 1 ≤ d0) : Cd l D cy X yX4_isHolder cX4_isHolder 3 (some .boolean) (rmz 0 0) [.ref (ba 9), .int (nI h0), .int (nI w)] (WM cy ba ra hf hq kn th sm ++ Y) (some (.int (nI (hlC (f 2) h0 d0 w)))) (WM cy ba ra hf hq kn th sm ++ Y) := by
  refine Cm.of [some (.ref (ba 9)), some (.int (nI h0)), some (.int (nI w))] pn_X4 rfl (Nat.le_of_ble_eq_true rfl) ?_
  intro p e s m args below meth c A C hE hr hnt hn
  refine r_iload_n C dX4_isHolder_0 rfl ?_
  refine r_iload_n C dX4_isHolder_1 rfl ?_
  refine r_icN_eq (a := h0) (b := w) (tgt := 26) C (by first | omega | (simp [up2, *]; done) | (simp [up2, *]; omega) | (simp only [up2_eq]; omega) | (split <;> omega)) (by first | omega | (simp [up2, *]; done) | (simp [up2, *]; omega) | (simp only [up2_eq]; omega) | (split <;> omega)) dX4_isHolder_2 (by decide) (fun h2_1 => ?_) (fun h2_1 => ?_)
  · first
    | exfalso; first | omega | contradiction
    | skip
      refine r_iconst (v := (nI 1)) C dX4_isHolder_26 (by decide) ?_
      refine r_goto (tgt := 31) C dX4_isHolder_27 (by decide) ?_
      exact r_zret C hr (by first | omega | (simp [up2, *]; done) | (simp [up2, *]; omega) | (simp only [up2_eq]; omega) | (split <;> omega)) dX4_isHolder_31 ⟨congrArg (fun z => some (Value.int (nI z))) (by first | (subst_vars; exact (hlC_self hh (by omega)).symm) | exact (hlC_row hC (by omega) (by omega) (by omega)).symm | (rw [hlC_step hw (by omega) (by omega)]; have q8 := hlC_le (f 2) h0 (d0 - 1) (f 2 w); omega)), rfl⟩ (Nat.le_of_ble_eq_true rfl) (Nat.le_of_ble_eq_true rfl)
  · first
    | exfalso; first | omega | contradiction
    | skip
      refine r_iload_n C dX4_isHolder_5 rfl ?_
      refine r_iconst (v := (nI 3)) C dX4_isHolder_6 (by decide) ?_
      refine r_icN_le (a := w) (b := 3) (tgt := 30) C (by first | omega | (simp [up2, *]; done) | (simp [up2, *]; omega) | (simp only [up2_eq]; omega) | (split <;> omega)) (by first | omega | (simp [up2, *]; done) | (simp [up2, *]; omega) | (simp only [up2_eq]; omega) | (split <;> omega)) dX4_isHolder_7 (by decide) (fun h7_2 => ?_) (fun h7_2 => ?_)
      · skip
        refine r_iconst (v := (nI 0)) C dX4_isHolder_30 (by decide) ?_
        exact r_zret C hr (by first | omega | (simp [up2, *]; done) | (simp [up2, *]; omega) | (simp only [up2_eq]; omega) | (split <;> omega)) dX4_isHolder_31 ⟨congrArg (fun z => some (Value.int (nI z))) (by first | (subst_vars; exact (hlC_self hh (by omega)).symm) | exact (hlC_row hC (by omega) (by omega) (by omega)).symm | (rw [hlC_step hw (by omega) (by omega)]; have q8 := hlC_le (f 2) h0 (d0 - 1) (f 2 w); omega)), rfl⟩ (Nat.le_of_ble_eq_true rfl) (Nat.le_of_ble_eq_true rfl)
      · exact absurd (chN_step hch (by omega)).2.2 id
theorem pk_X4_rowOf : PkV RX4 yX4_rowOf cX4_rowOf 2 (some .int) 1 := ⟨⟨qi_X4_rowOf, qs_X4_rowOf, qz_X4, qc_X4_rowOf⟩, rfl, mh_X4.1, mh_X4.2, pd_1⟩
theorem dX4_rowOf_9 : decode cX4_rowOf 9 = .ok (.aload_n 0, 1) := dqo_42 (kb_of ke_X4_rowOf 9 rfl)
theorem dX4_rowOf_10 : decode cX4_rowOf 10 = .ok (.aload_n 0, 1) := dqo_42 (kb_of ke_X4_rowOf 10 rfl)
theorem dX4_rowOf_11 : decode cX4_rowOf 11 = .ok (.getfield 22, 3) := dqo_180 0 22 (kb_of ke_X4_rowOf 11 rfl) (kb_of ke_X4_rowOf 12 rfl) (kb_of ke_X4_rowOf 13 rfl)
theorem dX4_rowOf_14 : decode cX4_rowOf 14 = .ok (.iload_n 1, 1) := dqo_27 (kb_of ke_X4_rowOf 14 rfl)
theorem dX4_rowOf_15 : decode cX4_rowOf 15 = .ok (.iconst 4, 1) := dqo_7 (kb_of ke_X4_rowOf 15 rfl)
theorem dX4_rowOf_16 : decode cX4_rowOf 16 = .ok (.isub, 1) := dqo_100 (kb_of ke_X4_rowOf 16 rfl)
theorem dX4_rowOf_17 : decode cX4_rowOf 17 = .ok (.iaload, 1) := dqo_46 (kb_of ke_X4_rowOf 17 rfl)
theorem dX4_rowOf_18 : decode cX4_rowOf 18 = .ok (.invokevirtual 48, 3) := dqo_182 0 48 (kb_of ke_X4_rowOf 18 rfl) (kb_of ke_X4_rowOf 19 rfl) (kb_of ke_X4_rowOf 20 rfl)
set_option maxRecDepth 100000 in
set_option maxHeartbeats 4000000 in
theorem D_rowOf_2 {l : Launch} {D : va_G} {cy : Nat → ClassId} {X : (Nat → Prop) → State → Heap → Prop} {ba ra : Nat → Nat} {hf : Nat → Nat → Nat} {hq : Nat → Nat → Int32} {kn th : Int32} {sm : Int64} {Y : va_W} {f : Nat → Nat → Nat} {w : Nat} (hX : EnvM X cy) (hC : CInv f) (hG : MG f hf) (hw : w < 8) (hch : chN f 2 w) : Cd l D cy X yX4_rowOf cX4_rowOf 2 (some .int) (rmz 1 30) [.ref (ba 9), .int (nI w)] (WM cy ba ra hf hq kn th sm ++ Y) (some (.int (nI (f 1 w)))) (WM cy ba ra hf hq kn th sm ++ Y) := by
  refine Cm.of [some (.ref (ba 9)), some (.int (nI w))] pn_X4 rfl (Nat.le_of_ble_eq_true rfl) ?_
  intro p e s m args below meth c A C hE hr hnt hn
  refine r_iload_n C dX4_rowOf_0 rfl ?_
  refine r_iconst (v := (nI 4)) C dX4_rowOf_1 (by decide) ?_
  refine r_icN_ge (a := w) (b := 4) (tgt := 9) C (by first | omega | (simp [up2, *]; done) | (simp [up2, *]; omega) | (simp only [up2_eq]; omega) | (split <;> omega)) (by first | omega | (simp [up2, *]; done) | (simp [up2, *]; omega) | (simp only [up2_eq]; omega) | (split <;> omega)) dX4_rowOf_2 (by decide) (fun h2_1 => ?_) (fun h2_1 => ?_)
  · first
    | exfalso; first | omega | contradiction
    | skip
      have q1 := chN_step hch (by omega)
      have q2 := hG w (by omega) hw q1.2.1
      have q3 := hC.wi (by omega) hw q1.2.1
      refine r_aload_n C dX4_rowOf_9 rfl ?_
      refine r_aload_n C dX4_rowOf_10 rfl ?_
      refine m_get (v := .ref (ba 2)) C 2 (by decide) qf_X4_22 rfl rfl dX4_rowOf_11 ?_
      refine r_iload_n C dX4_rowOf_14 rfl ?_
      refine r_iconst (v := (nI 4)) C dX4_rowOf_15 (by decide) ?_
      refine r_isubN C dX4_rowOf_16 (by first | omega | (simp [up2, *]; done) | (simp [up2, *]; omega) | (simp only [up2_eq]; omega) | (split <;> omega)) ?_
      refine m_ald (i := w - 4) (z := w) (v := hf 2 w) C 1 (by decide) (by decide) (show w - 4 < 4 from (by first | omega | (simp [up2, *]; done) | (simp [up2, *]; omega) | (simp only [up2_eq]; omega) | (split <;> omega))) (show 4 + (w - 4) = w from (by omega)) rfl dX4_rowOf_17 ?_
      refine r_eqi (congrArg nI q2.1) ?_
      refine d_V (st := []) hX.1.stb C hE (D_rowOf_1 (ba := ba) (ra := ra) (hf := hf) (hq := hq) (kn := kn) (th := th) (sm := sm) (Y := Y) (f := f) (w := (f 2 w)) hX hC (MG.same (fun _ => rfl) (fun _ => rfl) hG) q3.1 q1.2.2) pk_X4_rowOf qm_X4_48 0 8 rfl rfl wm_0 rfl rfl (Nat.le_of_ble_eq_true rfl) dX4_rowOf_18 ⟨(Nat.le_of_ble_eq_true rfl), (Nat.le_of_ble_eq_true rfl)⟩ ⟨(Nat.le_of_ble_eq_true rfl), (Nat.le_of_ble_eq_true rfl)⟩ ?_
      refine r_w (w' := WM cy ba ra hf hq kn th sm ++ Y) rfl ?_
      exact r_iret C hr dX4_rowOf_21 ⟨by first | exact congrArg (fun z => some (Value.int (nI z))) ((hC.rw (by omega)).2.1.symm) | exact congrArg (fun z => some (Value.int (nI z))) (q3.2.2.1.symm), rfl⟩ (Nat.le_of_ble_eq_true rfl) (Nat.le_of_ble_eq_true rfl)
  · first
    | exfalso; first | omega | contradiction
    | skip
      refine r_iload_n C dX4_rowOf_5 rfl ?_
      refine r_goto (tgt := 21) C dX4_rowOf_6 (by decide) ?_
      exact r_iret C hr dX4_rowOf_21 ⟨by first | exact congrArg (fun z => some (Value.int (nI z))) ((hC.rw (by omega)).2.1.symm) | exact congrArg (fun z => some (Value.int (nI z))) (q3.2.2.1.symm), rfl⟩ (Nat.le_of_ble_eq_true rfl) (Nat.le_of_ble_eq_true rfl)
theorem pk_X4_begin : PkV RX4 yX4_begin cX4_begin 2 (some .int) 1 := ⟨⟨qi_X4_begin, qs_X4_begin, qz_X4, qc_X4_begin⟩, rfl, mh_X4.1, mh_X4.2, pd_1⟩
theorem dX4_begin_9 : decode cX4_begin 9 = .ok (.aload_n 0, 1) := dqo_42 (kb_of ke_X4_begin 9 rfl)
theorem dX4_begin_10 : decode cX4_begin 10 = .ok (.getfield 26, 3) := dqo_180 0 26 (kb_of ke_X4_begin 10 rfl) (kb_of ke_X4_begin 11 rfl) (kb_of ke_X4_begin 12 rfl)
theorem dX4_begin_13 : decode cX4_begin 13 = .ok (.iload_n 1, 1) := dqo_27 (kb_of ke_X4_begin 13 rfl)
theorem dX4_begin_14 : decode cX4_begin 14 = .ok (.iconst 4, 1) := dqo_7 (kb_of ke_X4_begin 14 rfl)
theorem dX4_begin_15 : decode cX4_begin 15 = .ok (.isub, 1) := dqo_100 (kb_of ke_X4_begin 15 rfl)
theorem dX4_begin_16 : decode cX4_begin 16 = .ok (.iaload, 1) := dqo_46 (kb_of ke_X4_begin 16 rfl)
theorem dX4_begin_17 : decode cX4_begin 17 = .ok (.aload_n 0, 1) := dqo_42 (kb_of ke_X4_begin 17 rfl)
theorem dX4_begin_18 : decode cX4_begin 18 = .ok (.aload_n 0, 1) := dqo_42 (kb_of ke_X4_begin 18 rfl)
theorem dX4_begin_19 : decode cX4_begin 19 = .ok (.getfield 22, 3) := dqo_180 0 22 (kb_of ke_X4_begin 19 rfl) (kb_of ke_X4_begin 20 rfl) (kb_of ke_X4_begin 21 rfl)
theorem dX4_begin_22 : decode cX4_begin 22 = .ok (.iload_n 1, 1) := dqo_27 (kb_of ke_X4_begin 22 rfl)
theorem dX4_begin_23 : decode cX4_begin 23 = .ok (.iconst 4, 1) := dqo_7 (kb_of ke_X4_begin 23 rfl)
theorem dX4_begin_24 : decode cX4_begin 24 = .ok (.isub, 1) := dqo_100 (kb_of ke_X4_begin 24 rfl)
theorem dX4_begin_25 : decode cX4_begin 25 = .ok (.iaload, 1) := dqo_46 (kb_of ke_X4_begin 25 rfl)
theorem dX4_begin_26 : decode cX4_begin 26 = .ok (.invokevirtual 52, 3) := dqo_182 0 52 (kb_of ke_X4_begin 26 rfl) (kb_of ke_X4_begin 27 rfl) (kb_of ke_X4_begin 28 rfl)
theorem dX4_begin_29 : decode cX4_begin 29 = .ok (.iadd, 1) := dqo_96 (kb_of ke_X4_begin 29 rfl)
set_option maxRecDepth 100000 in
set_option maxHeartbeats 4000000 in
theorem D_begin_2 {l : Launch} {D : va_G} {cy : Nat → ClassId} {X : (Nat → Prop) → State → Heap → Prop} {ba ra : Nat → Nat} {hf : Nat → Nat → Nat} {hq : Nat → Nat → Int32} {kn th : Int32} {sm : Int64} {Y : va_W} {f : Nat → Nat → Nat} {w : Nat} (hX : EnvM X cy) (hC : CInv f) (hG : MG f hf) (hw : w < 8) (hch : chN f 2 w) : Cd l D cy X yX4_begin cX4_begin 2 (some .int) (rmz 1 30) [.ref (ba 9), .int (nI w)] (WM cy ba ra hf hq kn th sm ++ Y) (some (.int (nI (f 3 w)))) (WM cy ba ra hf hq kn th sm ++ Y) := by
  refine Cm.of [some (.ref (ba 9)), some (.int (nI w))] pn_X4 rfl (Nat.le_of_ble_eq_true rfl) ?_
  intro p e s m args below meth c A C hE hr hnt hn
  refine r_iload_n C dX4_begin_0 rfl ?_
  refine r_iconst (v := (nI 4)) C dX4_begin_1 (by decide) ?_
  refine r_icN_ge (a := w) (b := 4) (tgt := 9) C (by first | omega | (simp [up2, *]; done) | (simp [up2, *]; omega) | (simp only [up2_eq]; omega) | (split <;> omega)) (by first | omega | (simp [up2, *]; done) | (simp [up2, *]; omega) | (simp only [up2_eq]; omega) | (split <;> omega)) dX4_begin_2 (by decide) (fun h2_1 => ?_) (fun h2_1 => ?_)
  · first
    | exfalso; first | omega | contradiction
    | skip
      have q1 := chN_step hch (by omega)
      have q2 := hG w (by omega) hw q1.2.1
      have q3 := hC.wi (by omega) hw q1.2.1
      refine r_aload_n C dX4_begin_9 rfl ?_
      refine m_get (v := .ref (ba 3)) C 3 (by decide) qf_X4_26 rfl rfl dX4_begin_10 ?_
      refine r_iload_n C dX4_begin_13 rfl ?_
      refine r_iconst (v := (nI 4)) C dX4_begin_14 (by decide) ?_
      refine r_isubN C dX4_begin_15 (by first | omega | (simp [up2, *]; done) | (simp [up2, *]; omega) | (simp only [up2_eq]; omega) | (split <;> omega)) ?_
      refine m_ald (i := w - 4) (z := w) (v := hf 3 w) C 2 (by decide) (by decide) (show w - 4 < 4 from (by first | omega | (simp [up2, *]; done) | (simp [up2, *]; omega) | (simp only [up2_eq]; omega) | (split <;> omega))) (show 4 + (w - 4) = w from (by omega)) rfl dX4_begin_16 ?_
      refine r_aload_n C dX4_begin_17 rfl ?_
      refine r_aload_n C dX4_begin_18 rfl ?_
      refine m_get (v := .ref (ba 2)) C 2 (by decide) qf_X4_22 rfl rfl dX4_begin_19 ?_
      refine r_iload_n C dX4_begin_22 rfl ?_
      refine r_iconst (v := (nI 4)) C dX4_begin_23 (by decide) ?_
      refine r_isubN C dX4_begin_24 (by first | omega | (simp [up2, *]; done) | (simp [up2, *]; omega) | (simp only [up2_eq]; omega) | (split <;> omega)) ?_
      refine m_ald (i := w - 4) (z := w) (v := hf 2 w) C 1 (by decide) (by decide) (show w - 4 < 4 from (by first | omega | (simp [up2, *]; done) | (simp [up2, *]; omega) | (simp only [up2_eq]; omega) | (split <;> omega))) (show 4 + (w - 4) = w from (by omega)) rfl dX4_begin_25 ?_
      refine r_eqi (congrArg nI q2.1) ?_
      refine d_V (st := [.int (nI (hf 3 w))]) hX.1.stb C hE (D_begin_1 (ba := ba) (ra := ra) (hf := hf) (hq := hq) (kn := kn) (th := th) (sm := sm) (Y := Y) (f := f) (w := (f 2 w)) hX hC (MG.same (fun _ => rfl) (fun _ => rfl) hG) q3.1 q1.2.2) pk_X4_begin qm_X4_52 0 8 rfl rfl wm_0 rfl rfl (Nat.le_of_ble_eq_true rfl) dX4_begin_26 ⟨(Nat.le_of_ble_eq_true rfl), (Nat.le_of_ble_eq_true rfl)⟩ ⟨(Nat.le_of_ble_eq_true rfl), (Nat.le_of_ble_eq_true rfl)⟩ ?_
      refine r_w (w' := WM cy ba ra hf hq kn th sm ++ Y) rfl ?_
      refine r_iaddN C dX4_begin_29 ?_
      exact r_iret C hr dX4_begin_30 ⟨by first | exact congrArg (fun z => some (Value.int (nI z))) ((hC.rw (by omega)).2.2.2.1.symm) | exact congrArg (fun z => some (Value.int (nI z))) ((by omega)), rfl⟩ (Nat.le_of_ble_eq_true rfl) (Nat.le_of_ble_eq_true rfl)
  · first
    | exfalso; first | omega | contradiction
    | skip
      refine r_iconst (v := (nI 0)) C dX4_begin_5 (by decide) ?_
      refine r_goto (tgt := 30) C dX4_begin_6 (by decide) ?_
      exact r_iret C hr dX4_begin_30 ⟨by first | exact congrArg (fun z => some (Value.int (nI z))) ((hC.rw (by omega)).2.2.2.1.symm) | exact congrArg (fun z => some (Value.int (nI z))) ((by omega)), rfl⟩ (Nat.le_of_ble_eq_true rfl) (Nat.le_of_ble_eq_true rfl)
theorem pk_X4_isHolder : PkV RX4 yX4_isHolder cX4_isHolder 3 (some .boolean) 2 := ⟨⟨qi_X4_isHolder, qs_X4_isHolder, qz_X4, qc_X4_isHolder⟩, rfl, mh_X4.1, mh_X4.2, pd_5⟩
theorem dX4_isHolder_10 : decode cX4_isHolder 10 = .ok (.aload_n 0, 1) := dqo_42 (kb_of ke_X4_isHolder 10 rfl)
theorem dX4_isHolder_11 : decode cX4_isHolder 11 = .ok (.iload_n 1, 1) := dqo_27 (kb_of ke_X4_isHolder 11 rfl)
theorem dX4_isHolder_12 : decode cX4_isHolder 12 = .ok (.aload_n 0, 1) := dqo_42 (kb_of ke_X4_isHolder 12 rfl)
theorem dX4_isHolder_13 : decode cX4_isHolder 13 = .ok (.getfield 22, 3) := dqo_180 0 22 (kb_of ke_X4_isHolder 13 rfl) (kb_of ke_X4_isHolder 14 rfl) (kb_of ke_X4_isHolder 15 rfl)
theorem dX4_isHolder_16 : decode cX4_isHolder 16 = .ok (.iload_n 2, 1) := dqo_28 (kb_of ke_X4_isHolder 16 rfl)
theorem dX4_isHolder_17 : decode cX4_isHolder 17 = .ok (.iconst 4, 1) := dqo_7 (kb_of ke_X4_isHolder 17 rfl)
theorem dX4_isHolder_18 : decode cX4_isHolder 18 = .ok (.isub, 1) := dqo_100 (kb_of ke_X4_isHolder 18 rfl)
theorem dX4_isHolder_19 : decode cX4_isHolder 19 = .ok (.iaload, 1) := dqo_46 (kb_of ke_X4_isHolder 19 rfl)
theorem dX4_isHolder_20 : decode cX4_isHolder 20 = .ok (.invokevirtual 66, 3) := dqo_182 0 66 (kb_of ke_X4_isHolder 20 rfl) (kb_of ke_X4_isHolder 21 rfl) (kb_of ke_X4_isHolder 22 rfl)
theorem dX4_isHolder_23 : decode cX4_isHolder 23 = .ok (.ifCond .eq 7, 3) := dqo_153 0 7 (by decide) (kb_of ke_X4_isHolder 23 rfl) (kb_of ke_X4_isHolder 24 rfl) (kb_of ke_X4_isHolder 25 rfl)
set_option maxRecDepth 100000 in
set_option maxHeartbeats 4000000 in
theorem D_isHolder_2 {l : Launch} {D : va_G} {cy : Nat → ClassId} {X : (Nat → Prop) → State → Heap → Prop} {ba ra : Nat → Nat} {hf : Nat → Nat → Nat} {hq : Nat → Nat → Int32} {kn th : Int32} {sm : Int64} {Y : va_W} {f : Nat → Nat → Nat} {h0 : Nat} {w : Nat} {d0 : Nat} (hX : EnvM X cy) (hC : CInv f) (hG : MG f hf) (hh : h0 < 8) (hw : w < 8) (hch : chN f 2 w) (hd : 2 ≤ d0) : Cd l D cy X yX4_isHolder cX4_isHolder 3 (some .boolean) (rmz 1 30) [.ref (ba 9), .int (nI h0), .int (nI w)] (WM cy ba ra hf hq kn th sm ++ Y) (some (.int (nI (hlC (f 2) h0 d0 w)))) (WM cy ba ra hf hq kn th sm ++ Y) := by
  refine Cm.of [some (.ref (ba 9)), some (.int (nI h0)), some (.int (nI w))] pn_X4 rfl (Nat.le_of_ble_eq_true rfl) ?_
  intro p e s m args below meth c A C hE hr hnt hn
  refine r_iload_n C dX4_isHolder_0 rfl ?_
  refine r_iload_n C dX4_isHolder_1 rfl ?_
  refine r_icN_eq (a := h0) (b := w) (tgt := 26) C (by first | omega | (simp [up2, *]; done) | (simp [up2, *]; omega) | (simp only [up2_eq]; omega) | (split <;> omega)) (by first | omega | (simp [up2, *]; done) | (simp [up2, *]; omega) | (simp only [up2_eq]; omega) | (split <;> omega)) dX4_isHolder_2 (by decide) (fun h2_1 => ?_) (fun h2_1 => ?_)
  · first
    | exfalso; first | omega | contradiction
    | skip
      refine r_iconst (v := (nI 1)) C dX4_isHolder_26 (by decide) ?_
      refine r_goto (tgt := 31) C dX4_isHolder_27 (by decide) ?_
      exact r_zret C hr (by first | omega | (simp [up2, *]; done) | (simp [up2, *]; omega) | (simp only [up2_eq]; omega) | (split <;> omega)) dX4_isHolder_31 ⟨congrArg (fun z => some (Value.int (nI z))) (by first | (subst_vars; exact (hlC_self hh (by omega)).symm) | exact (hlC_row hC (by omega) (by omega) (by omega)).symm | (rw [hlC_step hw (by omega) (by omega)]; have q8 := hlC_le (f 2) h0 (d0 - 1) (f 2 w); omega)), rfl⟩ (Nat.le_of_ble_eq_true rfl) (Nat.le_of_ble_eq_true rfl)
  · first
    | exfalso; first | omega | contradiction
    | skip
      refine r_iload_n C dX4_isHolder_5 rfl ?_
      refine r_iconst (v := (nI 3)) C dX4_isHolder_6 (by decide) ?_
      refine r_icN_le (a := w) (b := 3) (tgt := 30) C (by first | omega | (simp [up2, *]; done) | (simp [up2, *]; omega) | (simp only [up2_eq]; omega) | (split <;> omega)) (by first | omega | (simp [up2, *]; done) | (simp [up2, *]; omega) | (simp only [up2_eq]; omega) | (split <;> omega)) dX4_isHolder_7 (by decide) (fun h7_2 => ?_) (fun h7_2 => ?_)
      · first
        | exfalso; first | omega | contradiction
        | skip
          refine r_iconst (v := (nI 0)) C dX4_isHolder_30 (by decide) ?_
          exact r_zret C hr (by first | omega | (simp [up2, *]; done) | (simp [up2, *]; omega) | (simp only [up2_eq]; omega) | (split <;> omega)) dX4_isHolder_31 ⟨congrArg (fun z => some (Value.int (nI z))) (by first | (subst_vars; exact (hlC_self hh (by omega)).symm) | exact (hlC_row hC (by omega) (by omega) (by omega)).symm | (rw [hlC_step hw (by omega) (by omega)]; have q8 := hlC_le (f 2) h0 (d0 - 1) (f 2 w); omega)), rfl⟩ (Nat.le_of_ble_eq_true rfl) (Nat.le_of_ble_eq_true rfl)
      · first
        | exfalso; first | omega | contradiction
        | skip
          have q1 := chN_step hch (by omega)
          have q2 := hG w (by omega) hw q1.2.1
          have q3 := hC.wi (by omega) hw q1.2.1
          refine r_aload_n C dX4_isHolder_10 rfl ?_
          refine r_iload_n C dX4_isHolder_11 rfl ?_
          refine r_aload_n C dX4_isHolder_12 rfl ?_
          refine m_get (v := .ref (ba 2)) C 2 (by decide) qf_X4_22 rfl rfl dX4_isHolder_13 ?_
          refine r_iload_n C dX4_isHolder_16 rfl ?_
          refine r_iconst (v := (nI 4)) C dX4_isHolder_17 (by decide) ?_
          refine r_isubN C dX4_isHolder_18 (by first | omega | (simp [up2, *]; done) | (simp [up2, *]; omega) | (simp only [up2_eq]; omega) | (split <;> omega)) ?_
          refine m_ald (i := w - 4) (z := w) (v := hf 2 w) C 1 (by decide) (by decide) (show w - 4 < 4 from (by first | omega | (simp [up2, *]; done) | (simp [up2, *]; omega) | (simp only [up2_eq]; omega) | (split <;> omega))) (show 4 + (w - 4) = w from (by omega)) rfl dX4_isHolder_19 ?_
          refine r_eqi (congrArg nI q2.1) ?_
          refine d_V (st := []) hX.1.stb C hE (D_isHolder_1 (ba := ba) (ra := ra) (hf := hf) (hq := hq) (kn := kn) (th := th) (sm := sm) (Y := Y) (f := f) (h0 := h0) (w := (f 2 w)) (d0 := (d0 - 1)) hX hC (MG.same (fun _ => rfl) (fun _ => rfl) hG) hh q3.1 q1.2.2 (by omega)) pk_X4_isHolder qm_X4_66 0 8 rfl rfl wm_0 rfl rfl (Nat.le_of_ble_eq_true rfl) dX4_isHolder_20 ⟨(Nat.le_of_ble_eq_true rfl), (Nat.le_of_ble_eq_true rfl)⟩ ⟨(Nat.le_of_ble_eq_true rfl), (Nat.le_of_ble_eq_true rfl)⟩ ?_
          refine r_w (w' := WM cy ba ra hf hq kn th sm ++ Y) rfl ?_
          refine r_ifN_eq (a := (hlC (f 2) h0 (d0 - 1) (f 2 w))) (tgt := 30) C (Nat.lt_of_le_of_lt (hlC_le _ _ _ _) (by decide)) dX4_isHolder_23 (by decide) (fun h23_3 => ?_) (fun h23_3 => ?_)
          · first
            | exfalso; first | omega | contradiction
            | skip
              refine r_iconst (v := (nI 0)) C dX4_isHolder_30 (by decide) ?_
              exact r_zret C hr (by first | omega | (simp [up2, *]; done) | (simp [up2, *]; omega) | (simp only [up2_eq]; omega) | (split <;> omega)) dX4_isHolder_31 ⟨congrArg (fun z => some (Value.int (nI z))) (by first | (subst_vars; exact (hlC_self hh (by omega)).symm) | exact (hlC_row hC (by omega) (by omega) (by omega)).symm | (rw [hlC_step hw (by omega) (by omega)]; have q8 := hlC_le (f 2) h0 (d0 - 1) (f 2 w); omega)), rfl⟩ (Nat.le_of_ble_eq_true rfl) (Nat.le_of_ble_eq_true rfl)
          · first
            | exfalso; first | omega | contradiction
            | skip
              refine r_iconst (v := (nI 1)) C dX4_isHolder_26 (by decide) ?_
              refine r_goto (tgt := 31) C dX4_isHolder_27 (by decide) ?_
              exact r_zret C hr (by first | omega | (simp [up2, *]; done) | (simp [up2, *]; omega) | (simp only [up2_eq]; omega) | (split <;> omega)) dX4_isHolder_31 ⟨congrArg (fun z => some (Value.int (nI z))) (by first | (subst_vars; exact (hlC_self hh (by omega)).symm) | exact (hlC_row hC (by omega) (by omega) (by omega)).symm | (rw [hlC_step hw (by omega) (by omega)]; have q8 := hlC_le (f 2) h0 (d0 - 1) (f 2 w); omega)), rfl⟩ (Nat.le_of_ble_eq_true rfl) (Nat.le_of_ble_eq_true rfl)
set_option maxRecDepth 100000 in
set_option maxHeartbeats 4000000 in
theorem D_rowOf_3 {l : Launch} {D : va_G} {cy : Nat → ClassId} {X : (Nat → Prop) → State → Heap → Prop} {ba ra : Nat → Nat} {hf : Nat → Nat → Nat} {hq : Nat → Nat → Int32} {kn th : Int32} {sm : Int64} {Y : va_W} {f : Nat → Nat → Nat} {w : Nat} (hX : EnvM X cy) (hC : CInv f) (hG : MG f hf) (hw : w < 8) (hch : chN f 3 w) : Cd l D cy X yX4_rowOf cX4_rowOf 2 (some .int) (rmz 2 60) [.ref (ba 9), .int (nI w)] (WM cy ba ra hf hq kn th sm ++ Y) (some (.int (nI (f 1 w)))) (WM cy ba ra hf hq kn th sm ++ Y) := by
  refine Cm.of [some (.ref (ba 9)), some (.int (nI w))] pn_X4 rfl (Nat.le_of_ble_eq_true rfl) ?_
  intro p e s m args below meth c A C hE hr hnt hn
  refine r_iload_n C dX4_rowOf_0 rfl ?_
  refine r_iconst (v := (nI 4)) C dX4_rowOf_1 (by decide) ?_
  refine r_icN_ge (a := w) (b := 4) (tgt := 9) C (by first | omega | (simp [up2, *]; done) | (simp [up2, *]; omega) | (simp only [up2_eq]; omega) | (split <;> omega)) (by first | omega | (simp [up2, *]; done) | (simp [up2, *]; omega) | (simp only [up2_eq]; omega) | (split <;> omega)) dX4_rowOf_2 (by decide) (fun h2_1 => ?_) (fun h2_1 => ?_)
  · first
    | exfalso; first | omega | contradiction
    | skip
      have q1 := chN_step hch (by omega)
      have q2 := hG w (by omega) hw q1.2.1
      have q3 := hC.wi (by omega) hw q1.2.1
      refine r_aload_n C dX4_rowOf_9 rfl ?_
      refine r_aload_n C dX4_rowOf_10 rfl ?_
      refine m_get (v := .ref (ba 2)) C 2 (by decide) qf_X4_22 rfl rfl dX4_rowOf_11 ?_
      refine r_iload_n C dX4_rowOf_14 rfl ?_
      refine r_iconst (v := (nI 4)) C dX4_rowOf_15 (by decide) ?_
      refine r_isubN C dX4_rowOf_16 (by first | omega | (simp [up2, *]; done) | (simp [up2, *]; omega) | (simp only [up2_eq]; omega) | (split <;> omega)) ?_
      refine m_ald (i := w - 4) (z := w) (v := hf 2 w) C 1 (by decide) (by decide) (show w - 4 < 4 from (by first | omega | (simp [up2, *]; done) | (simp [up2, *]; omega) | (simp only [up2_eq]; omega) | (split <;> omega))) (show 4 + (w - 4) = w from (by omega)) rfl dX4_rowOf_17 ?_
      refine r_eqi (congrArg nI q2.1) ?_
      refine d_V (st := []) hX.1.stb C hE (D_rowOf_2 (ba := ba) (ra := ra) (hf := hf) (hq := hq) (kn := kn) (th := th) (sm := sm) (Y := Y) (f := f) (w := (f 2 w)) hX hC (MG.same (fun _ => rfl) (fun _ => rfl) hG) q3.1 q1.2.2) pk_X4_rowOf qm_X4_48 0 8 rfl rfl wm_0 rfl rfl (Nat.le_of_ble_eq_true rfl) dX4_rowOf_18 ⟨(Nat.le_of_ble_eq_true rfl), (Nat.le_of_ble_eq_true rfl)⟩ ⟨(Nat.le_of_ble_eq_true rfl), (Nat.le_of_ble_eq_true rfl)⟩ ?_
      refine r_w (w' := WM cy ba ra hf hq kn th sm ++ Y) rfl ?_
      exact r_iret C hr dX4_rowOf_21 ⟨by first | exact congrArg (fun z => some (Value.int (nI z))) ((hC.rw (by omega)).2.1.symm) | exact congrArg (fun z => some (Value.int (nI z))) (q3.2.2.1.symm), rfl⟩ (Nat.le_of_ble_eq_true rfl) (Nat.le_of_ble_eq_true rfl)
  · first
    | exfalso; first | omega | contradiction
    | skip
      refine r_iload_n C dX4_rowOf_5 rfl ?_
      refine r_goto (tgt := 21) C dX4_rowOf_6 (by decide) ?_
      exact r_iret C hr dX4_rowOf_21 ⟨by first | exact congrArg (fun z => some (Value.int (nI z))) ((hC.rw (by omega)).2.1.symm) | exact congrArg (fun z => some (Value.int (nI z))) (q3.2.2.1.symm), rfl⟩ (Nat.le_of_ble_eq_true rfl) (Nat.le_of_ble_eq_true rfl)
set_option maxRecDepth 100000 in
set_option maxHeartbeats 4000000 in
theorem D_begin_3 {l : Launch} {D : va_G} {cy : Nat → ClassId} {X : (Nat → Prop) → State → Heap → Prop} {ba ra : Nat → Nat} {hf : Nat → Nat → Nat} {hq : Nat → Nat → Int32} {kn th : Int32} {sm : Int64} {Y : va_W} {f : Nat → Nat → Nat} {w : Nat} (hX : EnvM X cy) (hC : CInv f) (hG : MG f hf) (hw : w < 8) (hch : chN f 3 w) : Cd l D cy X yX4_begin cX4_begin 2 (some .int) (rmz 2 60) [.ref (ba 9), .int (nI w)] (WM cy ba ra hf hq kn th sm ++ Y) (some (.int (nI (f 3 w)))) (WM cy ba ra hf hq kn th sm ++ Y) := by
  refine Cm.of [some (.ref (ba 9)), some (.int (nI w))] pn_X4 rfl (Nat.le_of_ble_eq_true rfl) ?_
  intro p e s m args below meth c A C hE hr hnt hn
  refine r_iload_n C dX4_begin_0 rfl ?_
  refine r_iconst (v := (nI 4)) C dX4_begin_1 (by decide) ?_
  refine r_icN_ge (a := w) (b := 4) (tgt := 9) C (by first | omega | (simp [up2, *]; done) | (simp [up2, *]; omega) | (simp only [up2_eq]; omega) | (split <;> omega)) (by first | omega | (simp [up2, *]; done) | (simp [up2, *]; omega) | (simp only [up2_eq]; omega) | (split <;> omega)) dX4_begin_2 (by decide) (fun h2_1 => ?_) (fun h2_1 => ?_)
  · first
    | exfalso; first | omega | contradiction
    | skip
      have q1 := chN_step hch (by omega)
      have q2 := hG w (by omega) hw q1.2.1
      have q3 := hC.wi (by omega) hw q1.2.1
      refine r_aload_n C dX4_begin_9 rfl ?_
      refine m_get (v := .ref (ba 3)) C 3 (by decide) qf_X4_26 rfl rfl dX4_begin_10 ?_
      refine r_iload_n C dX4_begin_13 rfl ?_
      refine r_iconst (v := (nI 4)) C dX4_begin_14 (by decide) ?_
      refine r_isubN C dX4_begin_15 (by first | omega | (simp [up2, *]; done) | (simp [up2, *]; omega) | (simp only [up2_eq]; omega) | (split <;> omega)) ?_
      refine m_ald (i := w - 4) (z := w) (v := hf 3 w) C 2 (by decide) (by decide) (show w - 4 < 4 from (by first | omega | (simp [up2, *]; done) | (simp [up2, *]; omega) | (simp only [up2_eq]; omega) | (split <;> omega))) (show 4 + (w - 4) = w from (by omega)) rfl dX4_begin_16 ?_
      refine r_aload_n C dX4_begin_17 rfl ?_
      refine r_aload_n C dX4_begin_18 rfl ?_
      refine m_get (v := .ref (ba 2)) C 2 (by decide) qf_X4_22 rfl rfl dX4_begin_19 ?_
      refine r_iload_n C dX4_begin_22 rfl ?_
      refine r_iconst (v := (nI 4)) C dX4_begin_23 (by decide) ?_
      refine r_isubN C dX4_begin_24 (by first | omega | (simp [up2, *]; done) | (simp [up2, *]; omega) | (simp only [up2_eq]; omega) | (split <;> omega)) ?_
      refine m_ald (i := w - 4) (z := w) (v := hf 2 w) C 1 (by decide) (by decide) (show w - 4 < 4 from (by first | omega | (simp [up2, *]; done) | (simp [up2, *]; omega) | (simp only [up2_eq]; omega) | (split <;> omega))) (show 4 + (w - 4) = w from (by omega)) rfl dX4_begin_25 ?_
      refine r_eqi (congrArg nI q2.1) ?_
      refine d_V (st := [.int (nI (hf 3 w))]) hX.1.stb C hE (D_begin_2 (ba := ba) (ra := ra) (hf := hf) (hq := hq) (kn := kn) (th := th) (sm := sm) (Y := Y) (f := f) (w := (f 2 w)) hX hC (MG.same (fun _ => rfl) (fun _ => rfl) hG) q3.1 q1.2.2) pk_X4_begin qm_X4_52 0 8 rfl rfl wm_0 rfl rfl (Nat.le_of_ble_eq_true rfl) dX4_begin_26 ⟨(Nat.le_of_ble_eq_true rfl), (Nat.le_of_ble_eq_true rfl)⟩ ⟨(Nat.le_of_ble_eq_true rfl), (Nat.le_of_ble_eq_true rfl)⟩ ?_
      refine r_w (w' := WM cy ba ra hf hq kn th sm ++ Y) rfl ?_
      refine r_iaddN C dX4_begin_29 ?_
      exact r_iret C hr dX4_begin_30 ⟨by first | exact congrArg (fun z => some (Value.int (nI z))) ((hC.rw (by omega)).2.2.2.1.symm) | exact congrArg (fun z => some (Value.int (nI z))) ((by omega)), rfl⟩ (Nat.le_of_ble_eq_true rfl) (Nat.le_of_ble_eq_true rfl)
  · first
    | exfalso; first | omega | contradiction
    | skip
      refine r_iconst (v := (nI 0)) C dX4_begin_5 (by decide) ?_
      refine r_goto (tgt := 30) C dX4_begin_6 (by decide) ?_
      exact r_iret C hr dX4_begin_30 ⟨by first | exact congrArg (fun z => some (Value.int (nI z))) ((hC.rw (by omega)).2.2.2.1.symm) | exact congrArg (fun z => some (Value.int (nI z))) ((by omega)), rfl⟩ (Nat.le_of_ble_eq_true rfl) (Nat.le_of_ble_eq_true rfl)
set_option maxRecDepth 100000 in
set_option maxHeartbeats 4000000 in
theorem D_isHolder_3 {l : Launch} {D : va_G} {cy : Nat → ClassId} {X : (Nat → Prop) → State → Heap → Prop} {ba ra : Nat → Nat} {hf : Nat → Nat → Nat} {hq : Nat → Nat → Int32} {kn th : Int32} {sm : Int64} {Y : va_W} {f : Nat → Nat → Nat} {h0 : Nat} {w : Nat} {d0 : Nat} (hX : EnvM X cy) (hC : CInv f) (hG : MG f hf) (hh : h0 < 8) (hw : w < 8) (hch : chN f 3 w) (hd : 3 ≤ d0) : Cd l D cy X yX4_isHolder cX4_isHolder 3 (some .boolean) (rmz 2 60) [.ref (ba 9), .int (nI h0), .int (nI w)] (WM cy ba ra hf hq kn th sm ++ Y) (some (.int (nI (hlC (f 2) h0 d0 w)))) (WM cy ba ra hf hq kn th sm ++ Y) := by
  refine Cm.of [some (.ref (ba 9)), some (.int (nI h0)), some (.int (nI w))] pn_X4 rfl (Nat.le_of_ble_eq_true rfl) ?_
  intro p e s m args below meth c A C hE hr hnt hn
  refine r_iload_n C dX4_isHolder_0 rfl ?_
  refine r_iload_n C dX4_isHolder_1 rfl ?_
  refine r_icN_eq (a := h0) (b := w) (tgt := 26) C (by first | omega | (simp [up2, *]; done) | (simp [up2, *]; omega) | (simp only [up2_eq]; omega) | (split <;> omega)) (by first | omega | (simp [up2, *]; done) | (simp [up2, *]; omega) | (simp only [up2_eq]; omega) | (split <;> omega)) dX4_isHolder_2 (by decide) (fun h2_1 => ?_) (fun h2_1 => ?_)
  · first
    | exfalso; first | omega | contradiction
    | skip
      refine r_iconst (v := (nI 1)) C dX4_isHolder_26 (by decide) ?_
      refine r_goto (tgt := 31) C dX4_isHolder_27 (by decide) ?_
      exact r_zret C hr (by first | omega | (simp [up2, *]; done) | (simp [up2, *]; omega) | (simp only [up2_eq]; omega) | (split <;> omega)) dX4_isHolder_31 ⟨congrArg (fun z => some (Value.int (nI z))) (by first | (subst_vars; exact (hlC_self hh (by omega)).symm) | exact (hlC_row hC (by omega) (by omega) (by omega)).symm | (rw [hlC_step hw (by omega) (by omega)]; have q8 := hlC_le (f 2) h0 (d0 - 1) (f 2 w); omega)), rfl⟩ (Nat.le_of_ble_eq_true rfl) (Nat.le_of_ble_eq_true rfl)
  · first
    | exfalso; first | omega | contradiction
    | skip
      refine r_iload_n C dX4_isHolder_5 rfl ?_
      refine r_iconst (v := (nI 3)) C dX4_isHolder_6 (by decide) ?_
      refine r_icN_le (a := w) (b := 3) (tgt := 30) C (by first | omega | (simp [up2, *]; done) | (simp [up2, *]; omega) | (simp only [up2_eq]; omega) | (split <;> omega)) (by first | omega | (simp [up2, *]; done) | (simp [up2, *]; omega) | (simp only [up2_eq]; omega) | (split <;> omega)) dX4_isHolder_7 (by decide) (fun h7_2 => ?_) (fun h7_2 => ?_)
      · first
        | exfalso; first | omega | contradiction
        | skip
          refine r_iconst (v := (nI 0)) C dX4_isHolder_30 (by decide) ?_
          exact r_zret C hr (by first | omega | (simp [up2, *]; done) | (simp [up2, *]; omega) | (simp only [up2_eq]; omega) | (split <;> omega)) dX4_isHolder_31 ⟨congrArg (fun z => some (Value.int (nI z))) (by first | (subst_vars; exact (hlC_self hh (by omega)).symm) | exact (hlC_row hC (by omega) (by omega) (by omega)).symm | (rw [hlC_step hw (by omega) (by omega)]; have q8 := hlC_le (f 2) h0 (d0 - 1) (f 2 w); omega)), rfl⟩ (Nat.le_of_ble_eq_true rfl) (Nat.le_of_ble_eq_true rfl)
      · first
        | exfalso; first | omega | contradiction
        | skip
          have q1 := chN_step hch (by omega)
          have q2 := hG w (by omega) hw q1.2.1
          have q3 := hC.wi (by omega) hw q1.2.1
          refine r_aload_n C dX4_isHolder_10 rfl ?_
          refine r_iload_n C dX4_isHolder_11 rfl ?_
          refine r_aload_n C dX4_isHolder_12 rfl ?_
          refine m_get (v := .ref (ba 2)) C 2 (by decide) qf_X4_22 rfl rfl dX4_isHolder_13 ?_
          refine r_iload_n C dX4_isHolder_16 rfl ?_
          refine r_iconst (v := (nI 4)) C dX4_isHolder_17 (by decide) ?_
          refine r_isubN C dX4_isHolder_18 (by first | omega | (simp [up2, *]; done) | (simp [up2, *]; omega) | (simp only [up2_eq]; omega) | (split <;> omega)) ?_
          refine m_ald (i := w - 4) (z := w) (v := hf 2 w) C 1 (by decide) (by decide) (show w - 4 < 4 from (by first | omega | (simp [up2, *]; done) | (simp [up2, *]; omega) | (simp only [up2_eq]; omega) | (split <;> omega))) (show 4 + (w - 4) = w from (by omega)) rfl dX4_isHolder_19 ?_
          refine r_eqi (congrArg nI q2.1) ?_
          refine d_V (st := []) hX.1.stb C hE (D_isHolder_2 (ba := ba) (ra := ra) (hf := hf) (hq := hq) (kn := kn) (th := th) (sm := sm) (Y := Y) (f := f) (h0 := h0) (w := (f 2 w)) (d0 := (d0 - 1)) hX hC (MG.same (fun _ => rfl) (fun _ => rfl) hG) hh q3.1 q1.2.2 (by omega)) pk_X4_isHolder qm_X4_66 0 8 rfl rfl wm_0 rfl rfl (Nat.le_of_ble_eq_true rfl) dX4_isHolder_20 ⟨(Nat.le_of_ble_eq_true rfl), (Nat.le_of_ble_eq_true rfl)⟩ ⟨(Nat.le_of_ble_eq_true rfl), (Nat.le_of_ble_eq_true rfl)⟩ ?_
          refine r_w (w' := WM cy ba ra hf hq kn th sm ++ Y) rfl ?_
          refine r_ifN_eq (a := (hlC (f 2) h0 (d0 - 1) (f 2 w))) (tgt := 30) C (Nat.lt_of_le_of_lt (hlC_le _ _ _ _) (by decide)) dX4_isHolder_23 (by decide) (fun h23_3 => ?_) (fun h23_3 => ?_)
          · first
            | exfalso; first | omega | contradiction
            | skip
              refine r_iconst (v := (nI 0)) C dX4_isHolder_30 (by decide) ?_
              exact r_zret C hr (by first | omega | (simp [up2, *]; done) | (simp [up2, *]; omega) | (simp only [up2_eq]; omega) | (split <;> omega)) dX4_isHolder_31 ⟨congrArg (fun z => some (Value.int (nI z))) (by first | (subst_vars; exact (hlC_self hh (by omega)).symm) | exact (hlC_row hC (by omega) (by omega) (by omega)).symm | (rw [hlC_step hw (by omega) (by omega)]; have q8 := hlC_le (f 2) h0 (d0 - 1) (f 2 w); omega)), rfl⟩ (Nat.le_of_ble_eq_true rfl) (Nat.le_of_ble_eq_true rfl)
          · first
            | exfalso; first | omega | contradiction
            | skip
              refine r_iconst (v := (nI 1)) C dX4_isHolder_26 (by decide) ?_
              refine r_goto (tgt := 31) C dX4_isHolder_27 (by decide) ?_
              exact r_zret C hr (by first | omega | (simp [up2, *]; done) | (simp [up2, *]; omega) | (simp only [up2_eq]; omega) | (split <;> omega)) dX4_isHolder_31 ⟨congrArg (fun z => some (Value.int (nI z))) (by first | (subst_vars; exact (hlC_self hh (by omega)).symm) | exact (hlC_row hC (by omega) (by omega) (by omega)).symm | (rw [hlC_step hw (by omega) (by omega)]; have q8 := hlC_le (f 2) h0 (d0 - 1) (f 2 w); omega)), rfl⟩ (Nat.le_of_ble_eq_true rfl) (Nat.le_of_ble_eq_true rfl)
set_option maxRecDepth 100000 in
set_option maxHeartbeats 4000000 in
theorem D_rowOf_4 {l : Launch} {D : va_G} {cy : Nat → ClassId} {X : (Nat → Prop) → State → Heap → Prop} {ba ra : Nat → Nat} {hf : Nat → Nat → Nat} {hq : Nat → Nat → Int32} {kn th : Int32} {sm : Int64} {Y : va_W} {f : Nat → Nat → Nat} {w : Nat} (hX : EnvM X cy) (hC : CInv f) (hG : MG f hf) (hw : w < 8) (hch : chN f 4 w) : Cd l D cy X yX4_rowOf cX4_rowOf 2 (some .int) (rmz 3 90) [.ref (ba 9), .int (nI w)] (WM cy ba ra hf hq kn th sm ++ Y) (some (.int (nI (f 1 w)))) (WM cy ba ra hf hq kn th sm ++ Y) := by
  refine Cm.of [some (.ref (ba 9)), some (.int (nI w))] pn_X4 rfl (Nat.le_of_ble_eq_true rfl) ?_
  intro p e s m args below meth c A C hE hr hnt hn
  refine r_iload_n C dX4_rowOf_0 rfl ?_
  refine r_iconst (v := (nI 4)) C dX4_rowOf_1 (by decide) ?_
  refine r_icN_ge (a := w) (b := 4) (tgt := 9) C (by first | omega | (simp [up2, *]; done) | (simp [up2, *]; omega) | (simp only [up2_eq]; omega) | (split <;> omega)) (by first | omega | (simp [up2, *]; done) | (simp [up2, *]; omega) | (simp only [up2_eq]; omega) | (split <;> omega)) dX4_rowOf_2 (by decide) (fun h2_1 => ?_) (fun h2_1 => ?_)
  · first
    | exfalso; first | omega | contradiction
    | skip
      have q1 := chN_step hch (by omega)
      have q2 := hG w (by omega) hw q1.2.1
      have q3 := hC.wi (by omega) hw q1.2.1
      refine r_aload_n C dX4_rowOf_9 rfl ?_
      refine r_aload_n C dX4_rowOf_10 rfl ?_
      refine m_get (v := .ref (ba 2)) C 2 (by decide) qf_X4_22 rfl rfl dX4_rowOf_11 ?_
      refine r_iload_n C dX4_rowOf_14 rfl ?_
      refine r_iconst (v := (nI 4)) C dX4_rowOf_15 (by decide) ?_
      refine r_isubN C dX4_rowOf_16 (by first | omega | (simp [up2, *]; done) | (simp [up2, *]; omega) | (simp only [up2_eq]; omega) | (split <;> omega)) ?_
      refine m_ald (i := w - 4) (z := w) (v := hf 2 w) C 1 (by decide) (by decide) (show w - 4 < 4 from (by first | omega | (simp [up2, *]; done) | (simp [up2, *]; omega) | (simp only [up2_eq]; omega) | (split <;> omega))) (show 4 + (w - 4) = w from (by omega)) rfl dX4_rowOf_17 ?_
      refine r_eqi (congrArg nI q2.1) ?_
      refine d_V (st := []) hX.1.stb C hE (D_rowOf_3 (ba := ba) (ra := ra) (hf := hf) (hq := hq) (kn := kn) (th := th) (sm := sm) (Y := Y) (f := f) (w := (f 2 w)) hX hC (MG.same (fun _ => rfl) (fun _ => rfl) hG) q3.1 q1.2.2) pk_X4_rowOf qm_X4_48 0 8 rfl rfl wm_0 rfl rfl (Nat.le_of_ble_eq_true rfl) dX4_rowOf_18 ⟨(Nat.le_of_ble_eq_true rfl), (Nat.le_of_ble_eq_true rfl)⟩ ⟨(Nat.le_of_ble_eq_true rfl), (Nat.le_of_ble_eq_true rfl)⟩ ?_
      refine r_w (w' := WM cy ba ra hf hq kn th sm ++ Y) rfl ?_
      exact r_iret C hr dX4_rowOf_21 ⟨by first | exact congrArg (fun z => some (Value.int (nI z))) ((hC.rw (by omega)).2.1.symm) | exact congrArg (fun z => some (Value.int (nI z))) (q3.2.2.1.symm), rfl⟩ (Nat.le_of_ble_eq_true rfl) (Nat.le_of_ble_eq_true rfl)
  · first
    | exfalso; first | omega | contradiction
    | skip
      refine r_iload_n C dX4_rowOf_5 rfl ?_
      refine r_goto (tgt := 21) C dX4_rowOf_6 (by decide) ?_
      exact r_iret C hr dX4_rowOf_21 ⟨by first | exact congrArg (fun z => some (Value.int (nI z))) ((hC.rw (by omega)).2.1.symm) | exact congrArg (fun z => some (Value.int (nI z))) (q3.2.2.1.symm), rfl⟩ (Nat.le_of_ble_eq_true rfl) (Nat.le_of_ble_eq_true rfl)
set_option maxRecDepth 100000 in
set_option maxHeartbeats 4000000 in
theorem D_begin_4 {l : Launch} {D : va_G} {cy : Nat → ClassId} {X : (Nat → Prop) → State → Heap → Prop} {ba ra : Nat → Nat} {hf : Nat → Nat → Nat} {hq : Nat → Nat → Int32} {kn th : Int32} {sm : Int64} {Y : va_W} {f : Nat → Nat → Nat} {w : Nat} (hX : EnvM X cy) (hC : CInv f) (hG : MG f hf) (hw : w < 8) (hch : chN f 4 w) : Cd l D cy X yX4_begin cX4_begin 2 (some .int) (rmz 3 90) [.ref (ba 9), .int (nI w)] (WM cy ba ra hf hq kn th sm ++ Y) (some (.int (nI (f 3 w)))) (WM cy ba ra hf hq kn th sm ++ Y) := by
  refine Cm.of [some (.ref (ba 9)), some (.int (nI w))] pn_X4 rfl (Nat.le_of_ble_eq_true rfl) ?_
  intro p e s m args below meth c A C hE hr hnt hn
  refine r_iload_n C dX4_begin_0 rfl ?_
  refine r_iconst (v := (nI 4)) C dX4_begin_1 (by decide) ?_
  refine r_icN_ge (a := w) (b := 4) (tgt := 9) C (by first | omega | (simp [up2, *]; done) | (simp [up2, *]; omega) | (simp only [up2_eq]; omega) | (split <;> omega)) (by first | omega | (simp [up2, *]; done) | (simp [up2, *]; omega) | (simp only [up2_eq]; omega) | (split <;> omega)) dX4_begin_2 (by decide) (fun h2_1 => ?_) (fun h2_1 => ?_)
  · first
    | exfalso; first | omega | contradiction
    | skip
      have q1 := chN_step hch (by omega)
      have q2 := hG w (by omega) hw q1.2.1
      have q3 := hC.wi (by omega) hw q1.2.1
      refine r_aload_n C dX4_begin_9 rfl ?_
      refine m_get (v := .ref (ba 3)) C 3 (by decide) qf_X4_26 rfl rfl dX4_begin_10 ?_
      refine r_iload_n C dX4_begin_13 rfl ?_
      refine r_iconst (v := (nI 4)) C dX4_begin_14 (by decide) ?_
      refine r_isubN C dX4_begin_15 (by first | omega | (simp [up2, *]; done) | (simp [up2, *]; omega) | (simp only [up2_eq]; omega) | (split <;> omega)) ?_
      refine m_ald (i := w - 4) (z := w) (v := hf 3 w) C 2 (by decide) (by decide) (show w - 4 < 4 from (by first | omega | (simp [up2, *]; done) | (simp [up2, *]; omega) | (simp only [up2_eq]; omega) | (split <;> omega))) (show 4 + (w - 4) = w from (by omega)) rfl dX4_begin_16 ?_
      refine r_aload_n C dX4_begin_17 rfl ?_
      refine r_aload_n C dX4_begin_18 rfl ?_
      refine m_get (v := .ref (ba 2)) C 2 (by decide) qf_X4_22 rfl rfl dX4_begin_19 ?_
      refine r_iload_n C dX4_begin_22 rfl ?_
      refine r_iconst (v := (nI 4)) C dX4_begin_23 (by decide) ?_
      refine r_isubN C dX4_begin_24 (by first | omega | (simp [up2, *]; done) | (simp [up2, *]; omega) | (simp only [up2_eq]; omega) | (split <;> omega)) ?_
      refine m_ald (i := w - 4) (z := w) (v := hf 2 w) C 1 (by decide) (by decide) (show w - 4 < 4 from (by first | omega | (simp [up2, *]; done) | (simp [up2, *]; omega) | (simp only [up2_eq]; omega) | (split <;> omega))) (show 4 + (w - 4) = w from (by omega)) rfl dX4_begin_25 ?_
      refine r_eqi (congrArg nI q2.1) ?_
      refine d_V (st := [.int (nI (hf 3 w))]) hX.1.stb C hE (D_begin_3 (ba := ba) (ra := ra) (hf := hf) (hq := hq) (kn := kn) (th := th) (sm := sm) (Y := Y) (f := f) (w := (f 2 w)) hX hC (MG.same (fun _ => rfl) (fun _ => rfl) hG) q3.1 q1.2.2) pk_X4_begin qm_X4_52 0 8 rfl rfl wm_0 rfl rfl (Nat.le_of_ble_eq_true rfl) dX4_begin_26 ⟨(Nat.le_of_ble_eq_true rfl), (Nat.le_of_ble_eq_true rfl)⟩ ⟨(Nat.le_of_ble_eq_true rfl), (Nat.le_of_ble_eq_true rfl)⟩ ?_
      refine r_w (w' := WM cy ba ra hf hq kn th sm ++ Y) rfl ?_
      refine r_iaddN C dX4_begin_29 ?_
      exact r_iret C hr dX4_begin_30 ⟨by first | exact congrArg (fun z => some (Value.int (nI z))) ((hC.rw (by omega)).2.2.2.1.symm) | exact congrArg (fun z => some (Value.int (nI z))) ((by omega)), rfl⟩ (Nat.le_of_ble_eq_true rfl) (Nat.le_of_ble_eq_true rfl)
  · first
    | exfalso; first | omega | contradiction
    | skip
      refine r_iconst (v := (nI 0)) C dX4_begin_5 (by decide) ?_
      refine r_goto (tgt := 30) C dX4_begin_6 (by decide) ?_
      exact r_iret C hr dX4_begin_30 ⟨by first | exact congrArg (fun z => some (Value.int (nI z))) ((hC.rw (by omega)).2.2.2.1.symm) | exact congrArg (fun z => some (Value.int (nI z))) ((by omega)), rfl⟩ (Nat.le_of_ble_eq_true rfl) (Nat.le_of_ble_eq_true rfl)
set_option maxRecDepth 100000 in
set_option maxHeartbeats 4000000 in
theorem D_isHolder_4 {l : Launch} {D : va_G} {cy : Nat → ClassId} {X : (Nat → Prop) → State → Heap → Prop} {ba ra : Nat → Nat} {hf : Nat → Nat → Nat} {hq : Nat → Nat → Int32} {kn th : Int32} {sm : Int64} {Y : va_W} {f : Nat → Nat → Nat} {h0 : Nat} {w : Nat} {d0 : Nat} (hX : EnvM X cy) (hC : CInv f) (hG : MG f hf) (hh : h0 < 8) (hw : w < 8) (hch : chN f 4 w) (hd : 4 ≤ d0) : Cd l D cy X yX4_isHolder cX4_isHolder 3 (some .boolean) (rmz 3 90) [.ref (ba 9), .int (nI h0), .int (nI w)] (WM cy ba ra hf hq kn th sm ++ Y) (some (.int (nI (hlC (f 2) h0 d0 w)))) (WM cy ba ra hf hq kn th sm ++ Y) := by
  refine Cm.of [some (.ref (ba 9)), some (.int (nI h0)), some (.int (nI w))] pn_X4 rfl (Nat.le_of_ble_eq_true rfl) ?_
  intro p e s m args below meth c A C hE hr hnt hn
  refine r_iload_n C dX4_isHolder_0 rfl ?_
  refine r_iload_n C dX4_isHolder_1 rfl ?_
  refine r_icN_eq (a := h0) (b := w) (tgt := 26) C (by first | omega | (simp [up2, *]; done) | (simp [up2, *]; omega) | (simp only [up2_eq]; omega) | (split <;> omega)) (by first | omega | (simp [up2, *]; done) | (simp [up2, *]; omega) | (simp only [up2_eq]; omega) | (split <;> omega)) dX4_isHolder_2 (by decide) (fun h2_1 => ?_) (fun h2_1 => ?_)
  · first
    | exfalso; first | omega | contradiction
    | skip
      refine r_iconst (v := (nI 1)) C dX4_isHolder_26 (by decide) ?_
      refine r_goto (tgt := 31) C dX4_isHolder_27 (by decide) ?_
      exact r_zret C hr (by first | omega | (simp [up2, *]; done) | (simp [up2, *]; omega) | (simp only [up2_eq]; omega) | (split <;> omega)) dX4_isHolder_31 ⟨congrArg (fun z => some (Value.int (nI z))) (by first | (subst_vars; exact (hlC_self hh (by omega)).symm) | exact (hlC_row hC (by omega) (by omega) (by omega)).symm | (rw [hlC_step hw (by omega) (by omega)]; have q8 := hlC_le (f 2) h0 (d0 - 1) (f 2 w); omega)), rfl⟩ (Nat.le_of_ble_eq_true rfl) (Nat.le_of_ble_eq_true rfl)
  · first
    | exfalso; first | omega | contradiction
    | skip
      refine r_iload_n C dX4_isHolder_5 rfl ?_
      refine r_iconst (v := (nI 3)) C dX4_isHolder_6 (by decide) ?_
      refine r_icN_le (a := w) (b := 3) (tgt := 30) C (by first | omega | (simp [up2, *]; done) | (simp [up2, *]; omega) | (simp only [up2_eq]; omega) | (split <;> omega)) (by first | omega | (simp [up2, *]; done) | (simp [up2, *]; omega) | (simp only [up2_eq]; omega) | (split <;> omega)) dX4_isHolder_7 (by decide) (fun h7_2 => ?_) (fun h7_2 => ?_)
      · first
        | exfalso; first | omega | contradiction
        | skip
          refine r_iconst (v := (nI 0)) C dX4_isHolder_30 (by decide) ?_
          exact r_zret C hr (by first | omega | (simp [up2, *]; done) | (simp [up2, *]; omega) | (simp only [up2_eq]; omega) | (split <;> omega)) dX4_isHolder_31 ⟨congrArg (fun z => some (Value.int (nI z))) (by first | (subst_vars; exact (hlC_self hh (by omega)).symm) | exact (hlC_row hC (by omega) (by omega) (by omega)).symm | (rw [hlC_step hw (by omega) (by omega)]; have q8 := hlC_le (f 2) h0 (d0 - 1) (f 2 w); omega)), rfl⟩ (Nat.le_of_ble_eq_true rfl) (Nat.le_of_ble_eq_true rfl)
      · first
        | exfalso; first | omega | contradiction
        | skip
          have q1 := chN_step hch (by omega)
          have q2 := hG w (by omega) hw q1.2.1
          have q3 := hC.wi (by omega) hw q1.2.1
          refine r_aload_n C dX4_isHolder_10 rfl ?_
          refine r_iload_n C dX4_isHolder_11 rfl ?_
          refine r_aload_n C dX4_isHolder_12 rfl ?_
          refine m_get (v := .ref (ba 2)) C 2 (by decide) qf_X4_22 rfl rfl dX4_isHolder_13 ?_
          refine r_iload_n C dX4_isHolder_16 rfl ?_
          refine r_iconst (v := (nI 4)) C dX4_isHolder_17 (by decide) ?_
          refine r_isubN C dX4_isHolder_18 (by first | omega | (simp [up2, *]; done) | (simp [up2, *]; omega) | (simp only [up2_eq]; omega) | (split <;> omega)) ?_
          refine m_ald (i := w - 4) (z := w) (v := hf 2 w) C 1 (by decide) (by decide) (show w - 4 < 4 from (by first | omega | (simp [up2, *]; done) | (simp [up2, *]; omega) | (simp only [up2_eq]; omega) | (split <;> omega))) (show 4 + (w - 4) = w from (by omega)) rfl dX4_isHolder_19 ?_
          refine r_eqi (congrArg nI q2.1) ?_
          refine d_V (st := []) hX.1.stb C hE (D_isHolder_3 (ba := ba) (ra := ra) (hf := hf) (hq := hq) (kn := kn) (th := th) (sm := sm) (Y := Y) (f := f) (h0 := h0) (w := (f 2 w)) (d0 := (d0 - 1)) hX hC (MG.same (fun _ => rfl) (fun _ => rfl) hG) hh q3.1 q1.2.2 (by omega)) pk_X4_isHolder qm_X4_66 0 8 rfl rfl wm_0 rfl rfl (Nat.le_of_ble_eq_true rfl) dX4_isHolder_20 ⟨(Nat.le_of_ble_eq_true rfl), (Nat.le_of_ble_eq_true rfl)⟩ ⟨(Nat.le_of_ble_eq_true rfl), (Nat.le_of_ble_eq_true rfl)⟩ ?_
          refine r_w (w' := WM cy ba ra hf hq kn th sm ++ Y) rfl ?_
          refine r_ifN_eq (a := (hlC (f 2) h0 (d0 - 1) (f 2 w))) (tgt := 30) C (Nat.lt_of_le_of_lt (hlC_le _ _ _ _) (by decide)) dX4_isHolder_23 (by decide) (fun h23_3 => ?_) (fun h23_3 => ?_)
          · first
            | exfalso; first | omega | contradiction
            | skip
              refine r_iconst (v := (nI 0)) C dX4_isHolder_30 (by decide) ?_
              exact r_zret C hr (by first | omega | (simp [up2, *]; done) | (simp [up2, *]; omega) | (simp only [up2_eq]; omega) | (split <;> omega)) dX4_isHolder_31 ⟨congrArg (fun z => some (Value.int (nI z))) (by first | (subst_vars; exact (hlC_self hh (by omega)).symm) | exact (hlC_row hC (by omega) (by omega) (by omega)).symm | (rw [hlC_step hw (by omega) (by omega)]; have q8 := hlC_le (f 2) h0 (d0 - 1) (f 2 w); omega)), rfl⟩ (Nat.le_of_ble_eq_true rfl) (Nat.le_of_ble_eq_true rfl)
          · first
            | exfalso; first | omega | contradiction
            | skip
              refine r_iconst (v := (nI 1)) C dX4_isHolder_26 (by decide) ?_
              refine r_goto (tgt := 31) C dX4_isHolder_27 (by decide) ?_
              exact r_zret C hr (by first | omega | (simp [up2, *]; done) | (simp [up2, *]; omega) | (simp only [up2_eq]; omega) | (split <;> omega)) dX4_isHolder_31 ⟨congrArg (fun z => some (Value.int (nI z))) (by first | (subst_vars; exact (hlC_self hh (by omega)).symm) | exact (hlC_row hC (by omega) (by omega) (by omega)).symm | (rw [hlC_step hw (by omega) (by omega)]; have q8 := hlC_le (f 2) h0 (d0 - 1) (f 2 w); omega)), rfl⟩ (Nat.le_of_ble_eq_true rfl) (Nat.le_of_ble_eq_true rfl)
set_option maxRecDepth 100000 in
set_option maxHeartbeats 4000000 in
theorem D_rowOf_5 {l : Launch} {D : va_G} {cy : Nat → ClassId} {X : (Nat → Prop) → State → Heap → Prop} {ba ra : Nat → Nat} {hf : Nat → Nat → Nat} {hq : Nat → Nat → Int32} {kn th : Int32} {sm : Int64} {Y : va_W} {f : Nat → Nat → Nat} {w : Nat} (hX : EnvM X cy) (hC : CInv f) (hG : MG f hf) (hw : w < 8) (hch : chN f 5 w) : Cd l D cy X yX4_rowOf cX4_rowOf 2 (some .int) (rmz 4 120) [.ref (ba 9), .int (nI w)] (WM cy ba ra hf hq kn th sm ++ Y) (some (.int (nI (f 1 w)))) (WM cy ba ra hf hq kn th sm ++ Y) := by
  refine Cm.of [some (.ref (ba 9)), some (.int (nI w))] pn_X4 rfl (Nat.le_of_ble_eq_true rfl) ?_
  intro p e s m args below meth c A C hE hr hnt hn
  refine r_iload_n C dX4_rowOf_0 rfl ?_
  refine r_iconst (v := (nI 4)) C dX4_rowOf_1 (by decide) ?_
  refine r_icN_ge (a := w) (b := 4) (tgt := 9) C (by first | omega | (simp [up2, *]; done) | (simp [up2, *]; omega) | (simp only [up2_eq]; omega) | (split <;> omega)) (by first | omega | (simp [up2, *]; done) | (simp [up2, *]; omega) | (simp only [up2_eq]; omega) | (split <;> omega)) dX4_rowOf_2 (by decide) (fun h2_1 => ?_) (fun h2_1 => ?_)
  · first
    | exfalso; first | omega | contradiction
    | skip
      have q1 := chN_step hch (by omega)
      have q2 := hG w (by omega) hw q1.2.1
      have q3 := hC.wi (by omega) hw q1.2.1
      refine r_aload_n C dX4_rowOf_9 rfl ?_
      refine r_aload_n C dX4_rowOf_10 rfl ?_
      refine m_get (v := .ref (ba 2)) C 2 (by decide) qf_X4_22 rfl rfl dX4_rowOf_11 ?_
      refine r_iload_n C dX4_rowOf_14 rfl ?_
      refine r_iconst (v := (nI 4)) C dX4_rowOf_15 (by decide) ?_
      refine r_isubN C dX4_rowOf_16 (by first | omega | (simp [up2, *]; done) | (simp [up2, *]; omega) | (simp only [up2_eq]; omega) | (split <;> omega)) ?_
      refine m_ald (i := w - 4) (z := w) (v := hf 2 w) C 1 (by decide) (by decide) (show w - 4 < 4 from (by first | omega | (simp [up2, *]; done) | (simp [up2, *]; omega) | (simp only [up2_eq]; omega) | (split <;> omega))) (show 4 + (w - 4) = w from (by omega)) rfl dX4_rowOf_17 ?_
      refine r_eqi (congrArg nI q2.1) ?_
      refine d_V (st := []) hX.1.stb C hE (D_rowOf_4 (ba := ba) (ra := ra) (hf := hf) (hq := hq) (kn := kn) (th := th) (sm := sm) (Y := Y) (f := f) (w := (f 2 w)) hX hC (MG.same (fun _ => rfl) (fun _ => rfl) hG) q3.1 q1.2.2) pk_X4_rowOf qm_X4_48 0 8 rfl rfl wm_0 rfl rfl (Nat.le_of_ble_eq_true rfl) dX4_rowOf_18 ⟨(Nat.le_of_ble_eq_true rfl), (Nat.le_of_ble_eq_true rfl)⟩ ⟨(Nat.le_of_ble_eq_true rfl), (Nat.le_of_ble_eq_true rfl)⟩ ?_
      refine r_w (w' := WM cy ba ra hf hq kn th sm ++ Y) rfl ?_
      exact r_iret C hr dX4_rowOf_21 ⟨by first | exact congrArg (fun z => some (Value.int (nI z))) ((hC.rw (by omega)).2.1.symm) | exact congrArg (fun z => some (Value.int (nI z))) (q3.2.2.1.symm), rfl⟩ (Nat.le_of_ble_eq_true rfl) (Nat.le_of_ble_eq_true rfl)
  · first
    | exfalso; first | omega | contradiction
    | skip
      refine r_iload_n C dX4_rowOf_5 rfl ?_
      refine r_goto (tgt := 21) C dX4_rowOf_6 (by decide) ?_
      exact r_iret C hr dX4_rowOf_21 ⟨by first | exact congrArg (fun z => some (Value.int (nI z))) ((hC.rw (by omega)).2.1.symm) | exact congrArg (fun z => some (Value.int (nI z))) (q3.2.2.1.symm), rfl⟩ (Nat.le_of_ble_eq_true rfl) (Nat.le_of_ble_eq_true rfl)
set_option maxRecDepth 100000 in
set_option maxHeartbeats 4000000 in
theorem D_begin_5 {l : Launch} {D : va_G} {cy : Nat → ClassId} {X : (Nat → Prop) → State → Heap → Prop} {ba ra : Nat → Nat} {hf : Nat → Nat → Nat} {hq : Nat → Nat → Int32} {kn th : Int32} {sm : Int64} {Y : va_W} {f : Nat → Nat → Nat} {w : Nat} (hX : EnvM X cy) (hC : CInv f) (hG : MG f hf) (hw : w < 8) (hch : chN f 5 w) : Cd l D cy X yX4_begin cX4_begin 2 (some .int) (rmz 4 120) [.ref (ba 9), .int (nI w)] (WM cy ba ra hf hq kn th sm ++ Y) (some (.int (nI (f 3 w)))) (WM cy ba ra hf hq kn th sm ++ Y) := by
  refine Cm.of [some (.ref (ba 9)), some (.int (nI w))] pn_X4 rfl (Nat.le_of_ble_eq_true rfl) ?_
  intro p e s m args below meth c A C hE hr hnt hn
  refine r_iload_n C dX4_begin_0 rfl ?_
  refine r_iconst (v := (nI 4)) C dX4_begin_1 (by decide) ?_
  refine r_icN_ge (a := w) (b := 4) (tgt := 9) C (by first | omega | (simp [up2, *]; done) | (simp [up2, *]; omega) | (simp only [up2_eq]; omega) | (split <;> omega)) (by first | omega | (simp [up2, *]; done) | (simp [up2, *]; omega) | (simp only [up2_eq]; omega) | (split <;> omega)) dX4_begin_2 (by decide) (fun h2_1 => ?_) (fun h2_1 => ?_)
  · first
    | exfalso; first | omega | contradiction
    | skip
      have q1 := chN_step hch (by omega)
      have q2 := hG w (by omega) hw q1.2.1
      have q3 := hC.wi (by omega) hw q1.2.1
      refine r_aload_n C dX4_begin_9 rfl ?_
      refine m_get (v := .ref (ba 3)) C 3 (by decide) qf_X4_26 rfl rfl dX4_begin_10 ?_
      refine r_iload_n C dX4_begin_13 rfl ?_
      refine r_iconst (v := (nI 4)) C dX4_begin_14 (by decide) ?_
      refine r_isubN C dX4_begin_15 (by first | omega | (simp [up2, *]; done) | (simp [up2, *]; omega) | (simp only [up2_eq]; omega) | (split <;> omega)) ?_
      refine m_ald (i := w - 4) (z := w) (v := hf 3 w) C 2 (by decide) (by decide) (show w - 4 < 4 from (by first | omega | (simp [up2, *]; done) | (simp [up2, *]; omega) | (simp only [up2_eq]; omega) | (split <;> omega))) (show 4 + (w - 4) = w from (by omega)) rfl dX4_begin_16 ?_
      refine r_aload_n C dX4_begin_17 rfl ?_
      refine r_aload_n C dX4_begin_18 rfl ?_
      refine m_get (v := .ref (ba 2)) C 2 (by decide) qf_X4_22 rfl rfl dX4_begin_19 ?_
      refine r_iload_n C dX4_begin_22 rfl ?_
      refine r_iconst (v := (nI 4)) C dX4_begin_23 (by decide) ?_
      refine r_isubN C dX4_begin_24 (by first | omega | (simp [up2, *]; done) | (simp [up2, *]; omega) | (simp only [up2_eq]; omega) | (split <;> omega)) ?_
      refine m_ald (i := w - 4) (z := w) (v := hf 2 w) C 1 (by decide) (by decide) (show w - 4 < 4 from (by first | omega | (simp [up2, *]; done) | (simp [up2, *]; omega) | (simp only [up2_eq]; omega) | (split <;> omega))) (show 4 + (w - 4) = w from (by omega)) rfl dX4_begin_25 ?_
      refine r_eqi (congrArg nI q2.1) ?_
      refine d_V (st := [.int (nI (hf 3 w))]) hX.1.stb C hE (D_begin_4 (ba := ba) (ra := ra) (hf := hf) (hq := hq) (kn := kn) (th := th) (sm := sm) (Y := Y) (f := f) (w := (f 2 w)) hX hC (MG.same (fun _ => rfl) (fun _ => rfl) hG) q3.1 q1.2.2) pk_X4_begin qm_X4_52 0 8 rfl rfl wm_0 rfl rfl (Nat.le_of_ble_eq_true rfl) dX4_begin_26 ⟨(Nat.le_of_ble_eq_true rfl), (Nat.le_of_ble_eq_true rfl)⟩ ⟨(Nat.le_of_ble_eq_true rfl), (Nat.le_of_ble_eq_true rfl)⟩ ?_
      refine r_w (w' := WM cy ba ra hf hq kn th sm ++ Y) rfl ?_
      refine r_iaddN C dX4_begin_29 ?_
      exact r_iret C hr dX4_begin_30 ⟨by first | exact congrArg (fun z => some (Value.int (nI z))) ((hC.rw (by omega)).2.2.2.1.symm) | exact congrArg (fun z => some (Value.int (nI z))) ((by omega)), rfl⟩ (Nat.le_of_ble_eq_true rfl) (Nat.le_of_ble_eq_true rfl)
  · first
    | exfalso; first | omega | contradiction
    | skip
      refine r_iconst (v := (nI 0)) C dX4_begin_5 (by decide) ?_
      refine r_goto (tgt := 30) C dX4_begin_6 (by decide) ?_
      exact r_iret C hr dX4_begin_30 ⟨by first | exact congrArg (fun z => some (Value.int (nI z))) ((hC.rw (by omega)).2.2.2.1.symm) | exact congrArg (fun z => some (Value.int (nI z))) ((by omega)), rfl⟩ (Nat.le_of_ble_eq_true rfl) (Nat.le_of_ble_eq_true rfl)
set_option maxRecDepth 100000 in
set_option maxHeartbeats 4000000 in
theorem D_isHolder_5 {l : Launch} {D : va_G} {cy : Nat → ClassId} {X : (Nat → Prop) → State → Heap → Prop} {ba ra : Nat → Nat} {hf : Nat → Nat → Nat} {hq : Nat → Nat → Int32} {kn th : Int32} {sm : Int64} {Y : va_W} {f : Nat → Nat → Nat} {h0 : Nat} {w : Nat} {d0 : Nat} (hX : EnvM X cy) (hC : CInv f) (hG : MG f hf) (hh : h0 < 8) (hw : w < 8) (hch : chN f 5 w) (hd : 5 ≤ d0) : Cd l D cy X yX4_isHolder cX4_isHolder 3 (some .boolean) (rmz 4 120) [.ref (ba 9), .int (nI h0), .int (nI w)] (WM cy ba ra hf hq kn th sm ++ Y) (some (.int (nI (hlC (f 2) h0 d0 w)))) (WM cy ba ra hf hq kn th sm ++ Y) := by
  refine Cm.of [some (.ref (ba 9)), some (.int (nI h0)), some (.int (nI w))] pn_X4 rfl (Nat.le_of_ble_eq_true rfl) ?_
  intro p e s m args below meth c A C hE hr hnt hn
  refine r_iload_n C dX4_isHolder_0 rfl ?_
  refine r_iload_n C dX4_isHolder_1 rfl ?_
  refine r_icN_eq (a := h0) (b := w) (tgt := 26) C (by first | omega | (simp [up2, *]; done) | (simp [up2, *]; omega) | (simp only [up2_eq]; omega) | (split <;> omega)) (by first | omega | (simp [up2, *]; done) | (simp [up2, *]; omega) | (simp only [up2_eq]; omega) | (split <;> omega)) dX4_isHolder_2 (by decide) (fun h2_1 => ?_) (fun h2_1 => ?_)
  · first
    | exfalso; first | omega | contradiction
    | skip
      refine r_iconst (v := (nI 1)) C dX4_isHolder_26 (by decide) ?_
      refine r_goto (tgt := 31) C dX4_isHolder_27 (by decide) ?_
      exact r_zret C hr (by first | omega | (simp [up2, *]; done) | (simp [up2, *]; omega) | (simp only [up2_eq]; omega) | (split <;> omega)) dX4_isHolder_31 ⟨congrArg (fun z => some (Value.int (nI z))) (by first | (subst_vars; exact (hlC_self hh (by omega)).symm) | exact (hlC_row hC (by omega) (by omega) (by omega)).symm | (rw [hlC_step hw (by omega) (by omega)]; have q8 := hlC_le (f 2) h0 (d0 - 1) (f 2 w); omega)), rfl⟩ (Nat.le_of_ble_eq_true rfl) (Nat.le_of_ble_eq_true rfl)
  · first
    | exfalso; first | omega | contradiction
    | skip
      refine r_iload_n C dX4_isHolder_5 rfl ?_
      refine r_iconst (v := (nI 3)) C dX4_isHolder_6 (by decide) ?_
      refine r_icN_le (a := w) (b := 3) (tgt := 30) C (by first | omega | (simp [up2, *]; done) | (simp [up2, *]; omega) | (simp only [up2_eq]; omega) | (split <;> omega)) (by first | omega | (simp [up2, *]; done) | (simp [up2, *]; omega) | (simp only [up2_eq]; omega) | (split <;> omega)) dX4_isHolder_7 (by decide) (fun h7_2 => ?_) (fun h7_2 => ?_)
      · first
        | exfalso; first | omega | contradiction
        | skip
          refine r_iconst (v := (nI 0)) C dX4_isHolder_30 (by decide) ?_
          exact r_zret C hr (by first | omega | (simp [up2, *]; done) | (simp [up2, *]; omega) | (simp only [up2_eq]; omega) | (split <;> omega)) dX4_isHolder_31 ⟨congrArg (fun z => some (Value.int (nI z))) (by first | (subst_vars; exact (hlC_self hh (by omega)).symm) | exact (hlC_row hC (by omega) (by omega) (by omega)).symm | (rw [hlC_step hw (by omega) (by omega)]; have q8 := hlC_le (f 2) h0 (d0 - 1) (f 2 w); omega)), rfl⟩ (Nat.le_of_ble_eq_true rfl) (Nat.le_of_ble_eq_true rfl)
      · first
        | exfalso; first | omega | contradiction
        | skip
          have q1 := chN_step hch (by omega)
          have q2 := hG w (by omega) hw q1.2.1
          have q3 := hC.wi (by omega) hw q1.2.1
          refine r_aload_n C dX4_isHolder_10 rfl ?_
          refine r_iload_n C dX4_isHolder_11 rfl ?_
          refine r_aload_n C dX4_isHolder_12 rfl ?_
          refine m_get (v := .ref (ba 2)) C 2 (by decide) qf_X4_22 rfl rfl dX4_isHolder_13 ?_
          refine r_iload_n C dX4_isHolder_16 rfl ?_
          refine r_iconst (v := (nI 4)) C dX4_isHolder_17 (by decide) ?_
          refine r_isubN C dX4_isHolder_18 (by first | omega | (simp [up2, *]; done) | (simp [up2, *]; omega) | (simp only [up2_eq]; omega) | (split <;> omega)) ?_
          refine m_ald (i := w - 4) (z := w) (v := hf 2 w) C 1 (by decide) (by decide) (show w - 4 < 4 from (by first | omega | (simp [up2, *]; done) | (simp [up2, *]; omega) | (simp only [up2_eq]; omega) | (split <;> omega))) (show 4 + (w - 4) = w from (by omega)) rfl dX4_isHolder_19 ?_
          refine r_eqi (congrArg nI q2.1) ?_
          refine d_V (st := []) hX.1.stb C hE (D_isHolder_4 (ba := ba) (ra := ra) (hf := hf) (hq := hq) (kn := kn) (th := th) (sm := sm) (Y := Y) (f := f) (h0 := h0) (w := (f 2 w)) (d0 := (d0 - 1)) hX hC (MG.same (fun _ => rfl) (fun _ => rfl) hG) hh q3.1 q1.2.2 (by omega)) pk_X4_isHolder qm_X4_66 0 8 rfl rfl wm_0 rfl rfl (Nat.le_of_ble_eq_true rfl) dX4_isHolder_20 ⟨(Nat.le_of_ble_eq_true rfl), (Nat.le_of_ble_eq_true rfl)⟩ ⟨(Nat.le_of_ble_eq_true rfl), (Nat.le_of_ble_eq_true rfl)⟩ ?_
          refine r_w (w' := WM cy ba ra hf hq kn th sm ++ Y) rfl ?_
          refine r_ifN_eq (a := (hlC (f 2) h0 (d0 - 1) (f 2 w))) (tgt := 30) C (Nat.lt_of_le_of_lt (hlC_le _ _ _ _) (by decide)) dX4_isHolder_23 (by decide) (fun h23_3 => ?_) (fun h23_3 => ?_)
          · first
            | exfalso; first | omega | contradiction
            | skip
              refine r_iconst (v := (nI 0)) C dX4_isHolder_30 (by decide) ?_
              exact r_zret C hr (by first | omega | (simp [up2, *]; done) | (simp [up2, *]; omega) | (simp only [up2_eq]; omega) | (split <;> omega)) dX4_isHolder_31 ⟨congrArg (fun z => some (Value.int (nI z))) (by first | (subst_vars; exact (hlC_self hh (by omega)).symm) | exact (hlC_row hC (by omega) (by omega) (by omega)).symm | (rw [hlC_step hw (by omega) (by omega)]; have q8 := hlC_le (f 2) h0 (d0 - 1) (f 2 w); omega)), rfl⟩ (Nat.le_of_ble_eq_true rfl) (Nat.le_of_ble_eq_true rfl)
          · first
            | exfalso; first | omega | contradiction
            | skip
              refine r_iconst (v := (nI 1)) C dX4_isHolder_26 (by decide) ?_
              refine r_goto (tgt := 31) C dX4_isHolder_27 (by decide) ?_
              exact r_zret C hr (by first | omega | (simp [up2, *]; done) | (simp [up2, *]; omega) | (simp only [up2_eq]; omega) | (split <;> omega)) dX4_isHolder_31 ⟨congrArg (fun z => some (Value.int (nI z))) (by first | (subst_vars; exact (hlC_self hh (by omega)).symm) | exact (hlC_row hC (by omega) (by omega) (by omega)).symm | (rw [hlC_step hw (by omega) (by omega)]; have q8 := hlC_le (f 2) h0 (d0 - 1) (f 2 w); omega)), rfl⟩ (Nat.le_of_ble_eq_true rfl) (Nat.le_of_ble_eq_true rfl)
theorem D_rowOf {l : Launch} {D : va_G} {cy : Nat → ClassId} {X : (Nat → Prop) → State → Heap → Prop} {ba ra : Nat → Nat} {hf : Nat → Nat → Nat} {hq : Nat → Nat → Int32} {kn th : Int32} {sm : Int64} {Y : va_W} {f : Nat → Nat → Nat} {w : Nat} (hX : EnvM X cy) (hC : CInv f) (hG : MG f hf) (hw : w < 8) (h5w : f 5 w = 1) : Cd l D cy X yX4_rowOf cX4_rowOf 2 (some .int) (rmz 4 120) [.ref (ba 9), .int (nI w)] (WM cy ba ra hf hq kn th sm ++ Y) (some (.int (nI (f 1 w)))) (WM cy ba ra hf hq kn th sm ++ Y) := D_rowOf_5 hX hC hG hw (hC.ch hw h5w)
theorem D_begin {l : Launch} {D : va_G} {cy : Nat → ClassId} {X : (Nat → Prop) → State → Heap → Prop} {ba ra : Nat → Nat} {hf : Nat → Nat → Nat} {hq : Nat → Nat → Int32} {kn th : Int32} {sm : Int64} {Y : va_W} {f : Nat → Nat → Nat} {w : Nat} (hX : EnvM X cy) (hC : CInv f) (hG : MG f hf) (hw : w < 8) (h5w : f 5 w = 1) : Cd l D cy X yX4_begin cX4_begin 2 (some .int) (rmz 4 120) [.ref (ba 9), .int (nI w)] (WM cy ba ra hf hq kn th sm ++ Y) (some (.int (nI (f 3 w)))) (WM cy ba ra hf hq kn th sm ++ Y) := D_begin_5 hX hC hG hw (hC.ch hw h5w)
theorem D_isHolder {l : Launch} {D : va_G} {cy : Nat → ClassId} {X : (Nat → Prop) → State → Heap → Prop} {ba ra : Nat → Nat} {hf : Nat → Nat → Nat} {hq : Nat → Nat → Int32} {kn th : Int32} {sm : Int64} {Y : va_W} {f : Nat → Nat → Nat} {h0 w : Nat} (hX : EnvM X cy) (hC : CInv f) (hG : MG f hf) (hh : h0 < 8) (hw : w < 8) (h5w : f 5 w = 1) : Cd l D cy X yX4_isHolder cX4_isHolder 3 (some .boolean) (rmz 4 120) [.ref (ba 9), .int (nI h0), .int (nI w)] (WM cy ba ra hf hq kn th sm ++ Y) (some (.int (nI (hol f h0 w)))) (WM cy ba ra hf hq kn th sm ++ Y) := D_isHolder_5 hX hC hG hh hw (hC.ch hw h5w) (by decide)
