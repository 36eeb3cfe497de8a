/-! CONTRACTS of the model: cursors -/
theorem pk_X4_isNoCursor : PkS yX4_isNoCursor cX4_isNoCursor 1 (some .boolean) 1 := ⟨⟨qt_X4_isNoCursor, qz_X4, qc_X4_isNoCursor⟩, mh_X4.1, mh_X4.2, pd_8⟩
theorem dX4_open_0 : decode cX4_open 0 = .ok (.aload_n 0, 1) := dqo_42 (kb_X4_open_0 0 rfl)
theorem dX4_open_1 : decode cX4_open 1 = .ok (.iload_n 1, 1) := dqo_27 (kb_X4_open_0 1 rfl)
theorem dX4_open_2 : decode cX4_open 2 = .ok (.invokestatic 193, 3) := dqo_184 0 193 (kb_X4_open_0 2 rfl) (kb_X4_open_0 3 rfl) (kb_X4_open_0 4 rfl)
theorem dX4_open_5 : decode cX4_open 5 = .ok (.ifCond .ne 24, 3) := dqo_154 0 24 (by decide) (kb_X4_open_0 5 rfl) (kb_X4_open_0 6 rfl) (kb_X4_open_0 7 rfl)
theorem dX4_open_29 : decode cX4_open 29 = .ok (.iconst 1, 1) := dqo_4 (kb_X4_open_0 29 rfl)
theorem dX4_open_30 : decode cX4_open 30 = .ok (.goto 4, 3) := dqo_167 0 4 (by decide) (kb_X4_open_0 30 rfl) (kb_X4_open_0 31 rfl) (kb_X4_open_0 32 rfl)
theorem dX4_open_34 : decode cX4_open 34 = .ok (.iconst 0, 1) := dqo_3 (kb_X4_open_0 34 rfl)
theorem dX4_open_35 : decode cX4_open 35 = .ok (.iconst 0, 1) := dqo_3 (kb_X4_open_0 35 rfl)
theorem dX4_open_36 : decode cX4_open 36 = .ok (.invokevirtual 84, 3) := dqo_182 0 84 (kb_X4_open_0 36 rfl) (kb_X4_open_0 37 rfl) (kb_X4_open_0 38 rfl)
theorem dX4_open_39 : decode cX4_open 39 = .ok (.ifCond .eq 5, 3) := dqo_153 0 5 (by decide) (kb_X4_open_0 39 rfl) (kb_X4_open_0 40 rfl) (kb_X4_open_0 41 rfl)
theorem dX4_open_42 : decode cX4_open 42 = .ok (.iconst 0, 1) := dqo_3 (kb_X4_open_0 42 rfl)
theorem dX4_open_43 : decode cX4_open 43 = .ok (.ireturn, 1) := dqo_172 (kb_X4_open_0 43 rfl)
set_option maxRecDepth 100000 in
set_option maxHeartbeats 4000000 in
theorem D_open_noC {l : Launch} {D : va_G} {cy : Nat → ClassId} {X : (Nat → Prop) → State → Heap → Prop} {ba ra : Nat → Nat} {hf : Nat → Nat → Nat} {hq : Nat → Nat → Int32} {kn th : Int32} {sm : Int64} {Y : va_W} {f : Nat → Nat → Nat} {r : Nat → Nat → Int32} {x : Int32} {y0 : Int32} {y1 : Int32} (hX : EnvM X cy) (hC : CInv f) (hM : MR f r hf hq) (hno : ¬ (0 ≤ x ∧ x < nI 3)) : Cd l D cy X yX4_open cX4_open 4 (some .int) (rmk 9 4 48 420) [.ref (ba 9), .int x, .int y0, .int y1] (WM cy ba ra hf hq kn th sm ++ Y) (some (.int (nI 0))) (WM cy ba ra hf hq kn (nI 1) sm ++ Y) := by
  have hG := hM.1
  have h5M := hM.h5M hC
  have h4M := hC.h4M
  have h9a := hM.h9a hC
  have h6a := hM.h6a
  have hU := hM.hU hC
  refine Cm.of [some (.ref (ba 9)), some (.int x), some (.int y0), some (.int y1)] pn_X4 rfl (Nat.le_of_ble_eq_true rfl) ?_
  intro p e s m args below meth c A C hE hr hnt hn
  refine r_aload_n C dX4_open_0 rfl ?_
  refine r_iload_n C dX4_open_1 rfl ?_
  refine d_S (st := [.ref (ba 9)]) hX.1.stb C hE (D_isNoCursor1 (ba := ba) (ra := ra) (hf := hf) (hq := hq) (kn := kn) (th := th) (sm := sm) (Y := Y) (x := (x)) hX hno) pk_X4_isNoCursor qm_X4_193 rfl rfl (Nat.le_of_ble_eq_true rfl) dX4_open_2 ⟨(Nat.le_of_ble_eq_true rfl), (Nat.le_of_ble_eq_true rfl)⟩ ⟨(Nat.le_of_ble_eq_true rfl), (Nat.le_of_ble_eq_true rfl)⟩ ?_
  refine r_w (w' := WM cy ba ra hf hq kn th sm ++ Y) rfl ?_
  refine r_ifN_ne (a := 1) (tgt := 29) C (by first | omega | (simp [up2, *]; done) | (simp [up2, *]; omega) | (simp only [up2_eq]; omega) | (split <;> omega)) dX4_open_5 (by decide) (fun h5_1 => ?_) (fun h5_1 => ?_)
  · skip
    refine r_iconst (v := (nI 1)) C dX4_open_29 (by decide) ?_
    refine r_goto (tgt := 34) C dX4_open_30 (by decide) ?_
    refine r_iconst (v := (nI 0)) C dX4_open_34 (by decide) ?_
    refine r_iconst (v := (nI 0)) C dX4_open_35 (by decide) ?_
    refine d_V (st := []) hX.1.stb C hE (D_fails1 (ba := ba) (ra := ra) (hf := hf) (hq := hq) (kn := kn) (th := th) (sm := sm) (Y := Y) (b0 := 0) (d0 := 0) hX ) pk_X4_fails qm_X4_84 0 8 rfl rfl wm_0 rfl rfl (Nat.le_of_ble_eq_true rfl) dX4_open_36 ⟨(Nat.le_of_ble_eq_true rfl), (Nat.le_of_ble_eq_true rfl)⟩ ⟨(Nat.le_of_ble_eq_true rfl), (Nat.le_of_ble_eq_true rfl)⟩ ?_
    refine r_w (w' := WM cy ba ra hf hq kn (nI 1) sm ++ Y) rfl ?_
    refine r_ifN_eq (a := 1) (tgt := 44) C (by first | omega | (simp [up2, *]; done) | (simp [up2, *]; omega) | (simp only [up2_eq]; omega) | (split <;> omega)) dX4_open_39 (by decide) (fun h39_2 => ?_) (fun h39_2 => ?_)
    · exact absurd h39_2 (by first | omega | (simp [up2, *]; done) | (simp [up2, *]; omega) | (simp only [up2_eq]; omega) | (split <;> omega))
    · skip
      refine r_iconst (v := (nI 0)) C dX4_open_42 (by decide) ?_
      exact r_iret C hr dX4_open_43 ⟨rfl, rfl⟩ (Nat.le_of_ble_eq_true rfl) (Nat.le_of_ble_eq_true rfl)
  · exact absurd h5_1 (by first | omega | (simp [up2, *]; done) | (simp [up2, *]; omega) | (simp only [up2_eq]; omega) | (split <;> omega))
theorem dX4_open_8 : decode cX4_open 8 = .ok (.aload_n 0, 1) := dqo_42 (kb_X4_open_0 8 rfl)
theorem dX4_open_9 : decode cX4_open 9 = .ok (.iload_n 2, 1) := dqo_28 (kb_X4_open_0 9 rfl)
theorem dX4_open_10 : decode cX4_open 10 = .ok (.invokevirtual 55, 3) := dqo_182 0 55 (kb_X4_open_0 10 rfl) (kb_X4_open_0 11 rfl) (kb_X4_open_0 12 rfl)
theorem dX4_open_13 : decode cX4_open 13 = .ok (.ifCond .ne 16, 3) := dqo_154 0 16 (by decide) (kb_X4_open_0 13 rfl) (kb_X4_open_0 14 rfl) (kb_X4_open_0 15 rfl)
set_option maxRecDepth 100000 in
set_option maxHeartbeats 4000000 in
theorem D_open_noW {l : Launch} {D : va_G} {cy : Nat → ClassId} {X : (Nat → Prop) → State → Heap → Prop} {ba ra : Nat → Nat} {hf : Nat → Nat → Nat} {hq : Nat → Nat → Int32} {kn th : Int32} {sm : Int64} {Y : va_W} {f : Nat → Nat → Nat} {r : Nat → Nat → Int32} {k0 : Nat} {x : Int32} {y : Int32} (hX : EnvM X cy) (hC : CInv f) (hM : MR f r hf hq) (hk3 : k0 < 3) (hno : noW f x) : Cd l D cy X yX4_open cX4_open 4 (some .int) (rmk 9 4 48 420) [.ref (ba 9), .int (nI k0), .int x, .int y] (WM cy ba ra hf hq kn th sm ++ Y) (some (.int (nI 0))) (WM cy ba ra hf hq kn (nI 1) sm ++ Y) := by
  have hG := hM.1
  have h5M := hM.h5M hC
  have h4M := hC.h4M
  have h9a := hM.h9a hC
  have h6a := hM.h6a
  have hU := hM.hU hC
  refine Cm.of [some (.ref (ba 9)), some (.int (nI k0)), some (.int x), some (.int y)] pn_X4 rfl (Nat.le_of_ble_eq_true rfl) ?_
  intro p e s m args below meth c A C hE hr hnt hn
  refine r_aload_n C dX4_open_0 rfl ?_
  refine r_iload_n C dX4_open_1 rfl ?_
  refine d_S (st := [.ref (ba 9)]) hX.1.stb C hE (D_isNoCursor0 (ba := ba) (ra := ra) (hf := hf) (hq := hq) (kn := kn) (th := th) (sm := sm) (Y := Y) (i := k0) hX (by first | omega | (simp [up2, *]; done) | (simp [up2, *]; omega) | (simp only [up2_eq]; omega) | (split <;> omega))) pk_X4_isNoCursor qm_X4_193 rfl rfl (Nat.le_of_ble_eq_true rfl) dX4_open_2 ⟨(Nat.le_of_ble_eq_true rfl), (Nat.le_of_ble_eq_true rfl)⟩ ⟨(Nat.le_of_ble_eq_true rfl), (Nat.le_of_ble_eq_true rfl)⟩ ?_
  refine r_w (w' := WM cy ba ra hf hq kn th sm ++ Y) rfl ?_
  refine r_ifN_ne (a := 0) (tgt := 29) C (by first | omega | (simp [up2, *]; done) | (simp [up2, *]; omega) | (simp only [up2_eq]; omega) | (split <;> omega)) dX4_open_5 (by decide) (fun h5_1 => ?_) (fun h5_1 => ?_)
  · exact absurd h5_1 (by first | omega | (simp [up2, *]; done) | (simp [up2, *]; omega) | (simp only [up2_eq]; omega) | (split <;> omega))
  · skip
    refine r_aload_n C dX4_open_8 rfl ?_
    refine r_iload_n C dX4_open_9 rfl ?_
    refine d_V (st := [.ref (ba 9)]) hX.1.stb C hE (D_isNoWhere1 (ba := ba) (ra := ra) (hf := hf) (hq := hq) (kn := kn) (th := th) (sm := sm) (Y := Y) (f := f) (x := (x)) hX h5M h4M hno) pk_X4_isNoWhere qm_X4_55 0 8 rfl rfl wm_0 rfl rfl (Nat.le_of_ble_eq_true rfl) dX4_open_10 ⟨(Nat.le_of_ble_eq_true rfl), (Nat.le_of_ble_eq_true rfl)⟩ ⟨(Nat.le_of_ble_eq_true rfl), (Nat.le_of_ble_eq_true rfl)⟩ ?_
    refine r_w (w' := WM cy ba ra hf hq kn th sm ++ Y) rfl ?_
    refine r_ifN_ne (a := 1) (tgt := 29) C (by first | omega | (simp [up2, *]; done) | (simp [up2, *]; omega) | (simp only [up2_eq]; omega) | (split <;> omega)) dX4_open_13 (by decide) (fun h13_2 => ?_) (fun h13_2 => ?_)
    · skip
      refine r_iconst (v := (nI 1)) C dX4_open_29 (by decide) ?_
      refine r_goto (tgt := 34) C dX4_open_30 (by decide) ?_
      refine r_iconst (v := (nI 0)) C dX4_open_34 (by decide) ?_
      refine r_iconst (v := (nI 0)) C dX4_open_35 (by decide) ?_
      refine d_V (st := []) hX.1.stb C hE (D_fails1 (ba := ba) (ra := ra) (hf := hf) (hq := hq) (kn := kn) (th := th) (sm := sm) (Y := Y) (b0 := 0) (d0 := 0) hX ) pk_X4_fails qm_X4_84 0 8 rfl rfl wm_0 rfl rfl (Nat.le_of_ble_eq_true rfl) dX4_open_36 ⟨(Nat.le_of_ble_eq_true rfl), (Nat.le_of_ble_eq_true rfl)⟩ ⟨(Nat.le_of_ble_eq_true rfl), (Nat.le_of_ble_eq_true rfl)⟩ ?_
      refine r_w (w' := WM cy ba ra hf hq kn (nI 1) sm ++ Y) rfl ?_
      refine r_ifN_eq (a := 1) (tgt := 44) C (by first | omega | (simp [up2, *]; done) | (simp [up2, *]; omega) | (simp only [up2_eq]; omega) | (split <;> omega)) dX4_open_39 (by decide) (fun h39_3 => ?_) (fun h39_3 => ?_)
      · exact absurd h39_3 (by first | omega | (simp [up2, *]; done) | (simp [up2, *]; omega) | (simp only [up2_eq]; omega) | (split <;> omega))
      · skip
        refine r_iconst (v := (nI 0)) C dX4_open_42 (by decide) ?_
        exact r_iret C hr dX4_open_43 ⟨rfl, rfl⟩ (Nat.le_of_ble_eq_true rfl) (Nat.le_of_ble_eq_true rfl)
    · exact absurd h13_2 (by first | omega | (simp [up2, *]; done) | (simp [up2, *]; omega) | (simp only [up2_eq]; omega) | (split <;> omega))
theorem dX4_open_16 : decode cX4_open 16 = .ok (.iload_n 3, 1) := dqo_29 (kb_X4_open_0 16 rfl)
theorem dX4_open_17 : decode cX4_open 17 = .ok (.iconst 0, 1) := dqo_3 (kb_X4_open_0 17 rfl)
theorem dX4_open_18 : decode cX4_open 18 = .ok (.aload_n 0, 1) := dqo_42 (kb_X4_open_0 18 rfl)
theorem dX4_open_19 : decode cX4_open 19 = .ok (.iload_n 2, 1) := dqo_28 (kb_X4_open_0 19 rfl)
theorem dX4_open_20 : decode cX4_open 20 = .ok (.invokevirtual 59, 3) := dqo_182 0 59 (kb_X4_open_0 20 rfl) (kb_X4_open_0 21 rfl) (kb_X4_open_0 22 rfl)
theorem dX4_open_23 : decode cX4_open 23 = .ok (.invokestatic 1, 3) := dqo_184 0 1 (kb_X4_open_0 23 rfl) (kb_X4_open_0 24 rfl) (kb_X4_open_0 25 rfl)
theorem dX4_open_26 : decode cX4_open 26 = .ok (.ifCond .ne 7, 3) := dqo_154 0 7 (by decide) (kb_X4_open_0 26 rfl) (kb_X4_open_0 27 rfl) (kb_X4_open_0 28 rfl)
set_option maxRecDepth 100000 in
set_option maxHeartbeats 4000000 in
theorem D_open_noP {l : Launch} {D : va_G} {cy : Nat → ClassId} {X : (Nat → Prop) → State → Heap → Prop} {ba ra : Nat → Nat} {hf : Nat → Nat → Nat} {hq : Nat → Nat → Int32} {kn th : Int32} {sm : Int64} {Y : va_W} {f : Nat → Nat → Nat} {r : Nat → Nat → Int32} {k0 : Nat} {w : Nat} {y : Int32} (hX : EnvM X cy) (hC : CInv f) (hM : MR f r hf hq) (hk3 : k0 < 3) (hw : w < 8) (h5w : f 5 w = 1) (hno : ¬ (0 ≤ y ∧ y ≤ nI (f 4 w))) : Cd l D cy X yX4_open cX4_open 4 (some .int) (rmk 9 4 48 420) [.ref (ba 9), .int (nI k0), .int (nI w), .int y] (WM cy ba ra hf hq kn th sm ++ Y) (some (.int (nI 0))) (WM cy ba ra hf hq kn (nI 1) sm ++ Y) := by
  have hG := hM.1
  have h5M := hM.h5M hC
  have h4M := hC.h4M
  have h9a := hM.h9a hC
  have h6a := hM.h6a
  have hU := hM.hU hC
  have qw := hM.wh hC hw h5w
  refine Cm.of [some (.ref (ba 9)), some (.int (nI k0)), some (.int (nI w)), some (.int y)] pn_X4 rfl (Nat.le_of_ble_eq_true rfl) ?_
  intro p e s m args below meth c A C hE hr hnt hn
  refine r_aload_n C dX4_open_0 rfl ?_
  refine r_iload_n C dX4_open_1 rfl ?_
  refine d_S (st := [.ref (ba 9)]) hX.1.stb C hE (D_isNoCursor0 (ba := ba) (ra := ra) (hf := hf) (hq := hq) (kn := kn) (th := th) (sm := sm) (Y := Y) (i := k0) hX (by first | omega | (simp [up2, *]; done) | (simp [up2, *]; omega) | (simp only [up2_eq]; omega) | (split <;> omega))) pk_X4_isNoCursor qm_X4_193 rfl rfl (Nat.le_of_ble_eq_true rfl) dX4_open_2 ⟨(Nat.le_of_ble_eq_true rfl), (Nat.le_of_ble_eq_true rfl)⟩ ⟨(Nat.le_of_ble_eq_true rfl), (Nat.le_of_ble_eq_true rfl)⟩ ?_
  refine r_w (w' := WM cy ba ra hf hq kn th sm ++ Y) rfl ?_
  refine r_ifN_ne (a := 0) (tgt := 29) C (by first | omega | (simp [up2, *]; done) | (simp [up2, *]; omega) | (simp only [up2_eq]; omega) | (split <;> omega)) dX4_open_5 (by decide) (fun h5_1 => ?_) (fun h5_1 => ?_)
  · exact absurd h5_1 (by first | omega | (simp [up2, *]; done) | (simp [up2, *]; omega) | (simp only [up2_eq]; omega) | (split <;> omega))
  · skip
    refine r_aload_n C dX4_open_8 rfl ?_
    refine r_iload_n C dX4_open_9 rfl ?_
    refine d_V (st := [.ref (ba 9)]) hX.1.stb C hE (D_isNoWhere0 (ba := ba) (ra := ra) (hf := hf) (hq := hq) (kn := kn) (th := th) (sm := sm) (Y := Y) (w := w) hX (by first | omega | (simp [up2, *]; done) | (simp [up2, *]; omega) | (simp only [up2_eq]; omega) | (split <;> omega)) (by first | omega | (simp [up2, *]; done) | (simp [up2, *]; omega) | (simp only [up2_eq]; omega) | (split <;> omega))) pk_X4_isNoWhere qm_X4_55 0 8 rfl rfl wm_0 rfl rfl (Nat.le_of_ble_eq_true rfl) dX4_open_10 ⟨(Nat.le_of_ble_eq_true rfl), (Nat.le_of_ble_eq_true rfl)⟩ ⟨(Nat.le_of_ble_eq_true rfl), (Nat.le_of_ble_eq_true rfl)⟩ ?_
    refine r_w (w' := WM cy ba ra hf hq kn th sm ++ Y) rfl ?_
    refine r_ifN_ne (a := 0) (tgt := 29) C (by first | omega | (simp [up2, *]; done) | (simp [up2, *]; omega) | (simp only [up2_eq]; omega) | (split <;> omega)) dX4_open_13 (by decide) (fun h13_2 => ?_) (fun h13_2 => ?_)
    · exact absurd h13_2 (by first | omega | (simp [up2, *]; done) | (simp [up2, *]; omega) | (simp only [up2_eq]; omega) | (split <;> omega))
    · skip
      refine r_iload_n C dX4_open_16 rfl ?_
      refine r_iconst (v := (nI 0)) C dX4_open_17 (by decide) ?_
      refine r_aload_n C dX4_open_18 rfl ?_
      refine r_iload_n C dX4_open_19 rfl ?_
      refine d_V (st := [.int (nI 0), .int y, .ref (ba 9)]) hX.1.stb C hE (D_sizeOf (ba := ba) (ra := ra) (hf := hf) (hq := hq) (kn := kn) (th := th) (sm := sm) (Y := Y) (w := w) hX (by first | omega | (simp [up2, *]; done) | (simp [up2, *]; omega) | (simp only [up2_eq]; omega) | (split <;> omega))) pk_X4_sizeOf qm_X4_59 0 8 rfl rfl wm_0 rfl rfl (Nat.le_of_ble_eq_true rfl) dX4_open_20 ⟨(Nat.le_of_ble_eq_true rfl), (Nat.le_of_ble_eq_true rfl)⟩ ⟨(Nat.le_of_ble_eq_true rfl), (Nat.le_of_ble_eq_true rfl)⟩ ?_
      refine r_w (w' := WM cy ba ra hf hq kn th sm ++ Y) rfl ?_
      refine d_S (st := [.ref (ba 9)]) hX.1.stb C hE (D_isIn0 (ba := ba) (ra := ra) (hf := hf) (hq := hq) (kn := kn) (th := th) (sm := sm) (Y := Y) (x := (y)) (y := ((nI 0))) (z := ((nI (hf 4 w)))) hX (by rw [qw.1]; exact hno)) pk_X4_isIn qm_X4_1 rfl rfl (Nat.le_of_ble_eq_true rfl) dX4_open_23 ⟨(Nat.le_of_ble_eq_true rfl), (Nat.le_of_ble_eq_true rfl)⟩ ⟨(Nat.le_of_ble_eq_true rfl), (Nat.le_of_ble_eq_true rfl)⟩ ?_
      refine r_w (w' := WM cy ba ra hf hq kn th sm ++ Y) rfl ?_
      refine r_ifN_ne (a := 0) (tgt := 33) C (by first | omega | (simp [up2, *]; done) | (simp [up2, *]; omega) | (simp only [up2_eq]; omega) | (split <;> omega)) dX4_open_26 (by decide) (fun h26_3 => ?_) (fun h26_3 => ?_)
      · exact absurd h26_3 (by first | omega | (simp [up2, *]; done) | (simp [up2, *]; omega) | (simp only [up2_eq]; omega) | (split <;> omega))
      · skip
        refine r_iconst (v := (nI 1)) C dX4_open_29 (by decide) ?_
        refine r_goto (tgt := 34) C dX4_open_30 (by decide) ?_
        refine r_iconst (v := (nI 0)) C dX4_open_34 (by decide) ?_
        refine r_iconst (v := (nI 0)) C dX4_open_35 (by decide) ?_
        refine d_V (st := []) hX.1.stb C hE (D_fails1 (ba := ba) (ra := ra) (hf := hf) (hq := hq) (kn := kn) (th := th) (sm := sm) (Y := Y) (b0 := 0) (d0 := 0) hX ) pk_X4_fails qm_X4_84 0 8 rfl rfl wm_0 rfl rfl (Nat.le_of_ble_eq_true rfl) dX4_open_36 ⟨(Nat.le_of_ble_eq_true rfl), (Nat.le_of_ble_eq_true rfl)⟩ ⟨(Nat.le_of_ble_eq_true rfl), (Nat.le_of_ble_eq_true rfl)⟩ ?_
        refine r_w (w' := WM cy ba ra hf hq kn (nI 1) sm ++ Y) rfl ?_
        refine r_ifN_eq (a := 1) (tgt := 44) C (by first | omega | (simp [up2, *]; done) | (simp [up2, *]; omega) | (simp only [up2_eq]; omega) | (split <;> omega)) dX4_open_39 (by decide) (fun h39_4 => ?_) (fun h39_4 => ?_)
        · exact absurd h39_4 (by first | omega | (simp [up2, *]; done) | (simp [up2, *]; omega) | (simp only [up2_eq]; omega) | (split <;> omega))
        · skip
          refine r_iconst (v := (nI 0)) C dX4_open_42 (by decide) ?_
          exact r_iret C hr dX4_open_43 ⟨rfl, rfl⟩ (Nat.le_of_ble_eq_true rfl) (Nat.le_of_ble_eq_true rfl)
theorem dX4_open_33 : decode cX4_open 33 = .ok (.iconst 0, 1) := dqo_3 (kb_X4_open_0 33 rfl)
theorem dX4_open_44 : decode cX4_open 44 = .ok (.aload_n 0, 1) := dqo_42 (kb_X4_open_0 44 rfl)
theorem dX4_open_45 : decode cX4_open 45 = .ok (.getfield 32, 3) := dqo_180 0 32 (kb_X4_open_0 45 rfl) (kb_X4_open_0 46 rfl) (kb_X4_open_0 47 rfl)
theorem dX4_open_48 : decode cX4_open 48 = .ok (.iload_n 1, 1) := dqo_27 (kb_X4_open_0 48 rfl)
theorem dX4_open_49 : decode cX4_open 49 = .ok (.iconst 1, 1) := dqo_4 (kb_X4_open_0 49 rfl)
theorem dX4_open_50 : decode cX4_open 50 = .ok (.bastore, 1) := dqo_84 (kb_X4_open_0 50 rfl)
theorem dX4_open_51 : decode cX4_open 51 = .ok (.aload_n 0, 1) := dqo_42 (kb_X4_open_0 51 rfl)
theorem dX4_open_52 : decode cX4_open 52 = .ok (.getfield 35, 3) := dqo_180 0 35 (kb_X4_open_0 52 rfl) (kb_X4_open_0 53 rfl) (kb_X4_open_0 54 rfl)
theorem dX4_open_55 : decode cX4_open 55 = .ok (.iload_n 1, 1) := dqo_27 (kb_X4_open_0 55 rfl)
theorem dX4_open_56 : decode cX4_open 56 = .ok (.iload_n 2, 1) := dqo_28 (kb_X4_open_0 56 rfl)
theorem dX4_open_57 : decode cX4_open 57 = .ok (.iastore, 1) := dqo_79 (kb_X4_open_0 57 rfl)
theorem dX4_open_58 : decode cX4_open 58 = .ok (.aload_n 0, 1) := dqo_42 (kb_X4_open_0 58 rfl)
theorem dX4_open_59 : decode cX4_open 59 = .ok (.getfield 38, 3) := dqo_180 0 38 (kb_X4_open_0 59 rfl) (kb_X4_open_0 60 rfl) (kb_X4_open_0 61 rfl)
theorem dX4_open_62 : decode cX4_open 62 = .ok (.iload_n 1, 1) := dqo_27 (kb_X4_open_0 62 rfl)
theorem dX4_open_63 : decode cX4_open 63 = .ok (.iload_n 3, 1) := dqo_29 (kb_X4_open_0 63 rfl)
theorem dX4_open_64 : decode cX4_open 64 = .ok (.iastore, 1) := dqo_79 (kb_X4_open_1 0 rfl)
theorem dX4_open_65 : decode cX4_open 65 = .ok (.aload_n 0, 1) := dqo_42 (kb_X4_open_1 1 rfl)
theorem dX4_open_66 : decode cX4_open 66 = .ok (.getfield 41, 3) := dqo_180 0 41 (kb_X4_open_1 2 rfl) (kb_X4_open_1 3 rfl) (kb_X4_open_1 4 rfl)
theorem dX4_open_69 : decode cX4_open 69 = .ok (.iload_n 1, 1) := dqo_27 (kb_X4_open_1 5 rfl)
theorem dX4_open_70 : decode cX4_open 70 = .ok (.iconst (-1), 1) := dqo_2 (kb_X4_open_1 6 rfl)
theorem dX4_open_71 : decode cX4_open 71 = .ok (.iastore, 1) := dqo_79 (kb_X4_open_1 7 rfl)
theorem dX4_open_72 : decode cX4_open 72 = .ok (.aload_n 0, 1) := dqo_42 (kb_X4_open_1 8 rfl)
theorem dX4_open_73 : decode cX4_open 73 = .ok (.iload_n 2, 1) := dqo_28 (kb_X4_open_1 9 rfl)
theorem dX4_open_74 : decode cX4_open 74 = .ok (.invokevirtual 59, 3) := dqo_182 0 59 (kb_X4_open_1 10 rfl) (kb_X4_open_1 11 rfl) (kb_X4_open_1 12 rfl)
theorem dX4_open_77 : decode cX4_open 77 = .ok (.iload_n 3, 1) := dqo_29 (kb_X4_open_1 13 rfl)
theorem dX4_open_78 : decode cX4_open 78 = .ok (.isub, 1) := dqo_100 (kb_X4_open_1 14 rfl)
theorem dX4_open_79 : decode cX4_open 79 = .ok (.ireturn, 1) := dqo_172 (kb_X4_open_1 15 rfl)
set_option maxRecDepth 100000 in
set_option maxHeartbeats 4000000 in
theorem D_open_ok {l : Launch} {D : va_G} {cy : Nat → ClassId} {X : (Nat → Prop) → State → Heap → Prop} {ba ra : Nat → Nat} {hf : Nat → Nat → Nat} {hq : Nat → Nat → Int32} {kn th : Int32} {sm : Int64} {Y : va_W} {f : Nat → Nat → Nat} {r : Nat → Nat → Int32} {k0 : Nat} {w : Nat} {p0 : Nat} (hX : EnvM X cy) (hC : CInv f) (hM : MR f r hf hq) (hk3 : k0 < 3) (hw : w < 8) (h5w : f 5 w = 1) (hp : p0 ≤ f 4 w) : Cd l D cy X yX4_open cX4_open 4 (some .int) (rmk 9 4 48 420) [.ref (ba 9), .int (nI k0), .int (nI w), .int (nI p0)] (WM cy ba ra hf hq kn th sm ++ Y) (some (.int (nI ((hf 4 w) - p0)))) (WM cy ba ra (up2 (up2 (up2 (up2 hf 9 k0 1) 6 k0 w) 7 k0 p0) 8 k0 4294967295) hq kn (nI 0) sm ++ Y) := by
  have hG := hM.1
  have h5M := hM.h5M hC
  have h4M := hC.h4M
  have h9a := hM.h9a hC
  have h6a := hM.h6a
  have hU := hM.hU hC
  have qw := hM.wh hC hw h5w
  refine Cm.of [some (.ref (ba 9)), some (.int (nI k0)), some (.int (nI w)), some (.int (nI p0))] pn_X4 rfl (Nat.le_of_ble_eq_true rfl) ?_
  intro p e s m args below meth c A C hE hr hnt hn
  refine r_aload_n C dX4_open_0 rfl ?_
  refine r_iload_n C dX4_open_1 rfl ?_
  refine d_S (st := [.ref (ba 9)]) hX.1.stb C hE (D_isNoCursor0 (ba := ba) (ra := ra) (hf := hf) (hq := hq) (kn := kn) (th := th) (sm := sm) (Y := Y) (i := k0) hX (by first | omega | (simp [up2, *]; done) | (simp [up2, *]; omega) | (simp only [up2_eq]; omega) | (split <;> omega))) pk_X4_isNoCursor qm_X4_193 rfl rfl (Nat.le_of_ble_eq_true rfl) dX4_open_2 ⟨(Nat.le_of_ble_eq_true rfl), (Nat.le_of_ble_eq_true rfl)⟩ ⟨(Nat.le_of_ble_eq_true rfl), (Nat.le_of_ble_eq_true rfl)⟩ ?_
  refine r_w (w' := WM cy ba ra hf hq kn th sm ++ Y) rfl ?_
  refine r_ifN_ne (a := 0) (tgt := 29) C (by first | omega | (simp [up2, *]; done) | (simp [up2, *]; omega) | (simp only [up2_eq]; omega) | (split <;> omega)) dX4_open_5 (by decide) (fun h5_1 => ?_) (fun h5_1 => ?_)
  · exact absurd h5_1 (by first | omega | (simp [up2, *]; done) | (simp [up2, *]; omega) | (simp only [up2_eq]; omega) | (split <;> omega))
  · skip
    refine r_aload_n C dX4_open_8 rfl ?_
    refine r_iload_n C dX4_open_9 rfl ?_
    refine d_V (st := [.ref (ba 9)]) hX.1.stb C hE (D_isNoWhere0 (ba := ba) (ra := ra) (hf := hf) (hq := hq) (kn := kn) (th := th) (sm := sm) (Y := Y) (w := w) hX (by first | omega | (simp [up2, *]; done) | (simp [up2, *]; omega) | (simp only [up2_eq]; omega) | (split <;> omega)) (by first | omega | (simp [up2, *]; done) | (simp [up2, *]; omega) | (simp only [up2_eq]; omega) | (split <;> omega))) pk_X4_isNoWhere qm_X4_55 0 8 rfl rfl wm_0 rfl rfl (Nat.le_of_ble_eq_true rfl) dX4_open_10 ⟨(Nat.le_of_ble_eq_true rfl), (Nat.le_of_ble_eq_true rfl)⟩ ⟨(Nat.le_of_ble_eq_true rfl), (Nat.le_of_ble_eq_true rfl)⟩ ?_
    refine r_w (w' := WM cy ba ra hf hq kn th sm ++ Y) rfl ?_
    refine r_ifN_ne (a := 0) (tgt := 29) C (by first | omega | (simp [up2, *]; done) | (simp [up2, *]; omega) | (simp only [up2_eq]; omega) | (split <;> omega)) dX4_open_13 (by decide) (fun h13_2 => ?_) (fun h13_2 => ?_)
    · exact absurd h13_2 (by first | omega | (simp [up2, *]; done) | (simp [up2, *]; omega) | (simp only [up2_eq]; omega) | (split <;> omega))
    · skip
      refine r_iload_n C dX4_open_16 rfl ?_
      refine r_iconst (v := (nI 0)) C dX4_open_17 (by decide) ?_
      refine r_aload_n C dX4_open_18 rfl ?_
      refine r_iload_n C dX4_open_19 rfl ?_
      refine d_V (st := [.int (nI 0), .int (nI p0), .ref (ba 9)]) hX.1.stb C hE (D_sizeOf (ba := ba) (ra := ra) (hf := hf) (hq := hq) (kn := kn) (th := th) (sm := sm) (Y := Y) (w := w) hX (by first | omega | (simp [up2, *]; done) | (simp [up2, *]; omega) | (simp only [up2_eq]; omega) | (split <;> omega))) pk_X4_sizeOf qm_X4_59 0 8 rfl rfl wm_0 rfl rfl (Nat.le_of_ble_eq_true rfl) dX4_open_20 ⟨(Nat.le_of_ble_eq_true rfl), (Nat.le_of_ble_eq_true rfl)⟩ ⟨(Nat.le_of_ble_eq_true rfl), (Nat.le_of_ble_eq_true rfl)⟩ ?_
      refine r_w (w' := WM cy ba ra hf hq kn th sm ++ Y) rfl ?_
      refine d_S (st := [.ref (ba 9)]) hX.1.stb C hE (D_isInN (ba := ba) (ra := ra) (hf := hf) (hq := hq) (kn := kn) (th := th) (sm := sm) (Y := Y) (a0 := p0) (b0 := 0) (d0 := (hf 4 w)) hX (by first | omega | (simp [up2, *]; done) | (simp [up2, *]; omega) | (simp only [up2_eq]; omega) | (split <;> omega)) (by first | omega | (simp [up2, *]; done) | (simp [up2, *]; omega) | (simp only [up2_eq]; omega) | (split <;> omega)) (by first | omega | (simp [up2, *]; done) | (simp [up2, *]; omega) | (simp only [up2_eq]; omega) | (split <;> omega))) pk_X4_isIn qm_X4_1 rfl rfl (Nat.le_of_ble_eq_true rfl) dX4_open_23 ⟨(Nat.le_of_ble_eq_true rfl), (Nat.le_of_ble_eq_true rfl)⟩ ⟨(Nat.le_of_ble_eq_true rfl), (Nat.le_of_ble_eq_true rfl)⟩ ?_
      refine r_w (w' := WM cy ba ra hf hq kn th sm ++ Y) rfl ?_
      refine r_ifN_ne (a := 1) (tgt := 33) C (by first | omega | (simp [up2, *]; done) | (simp [up2, *]; omega) | (simp only [up2_eq]; omega) | (split <;> omega)) dX4_open_26 (by decide) (fun h26_3 => ?_) (fun h26_3 => ?_)
      · skip
        refine r_iconst (v := (nI 0)) C dX4_open_33 (by decide) ?_
        refine r_iconst (v := (nI 0)) C dX4_open_34 (by decide) ?_
        refine r_iconst (v := (nI 0)) C dX4_open_35 (by decide) ?_
        refine d_V (st := []) hX.1.stb C hE (D_fails0 (ba := ba) (ra := ra) (hf := hf) (hq := hq) (kn := kn) (th := th) (sm := sm) (Y := Y)  hX ) pk_X4_fails qm_X4_84 0 8 rfl rfl wm_0 rfl rfl (Nat.le_of_ble_eq_true rfl) dX4_open_36 ⟨(Nat.le_of_ble_eq_true rfl), (Nat.le_of_ble_eq_true rfl)⟩ ⟨(Nat.le_of_ble_eq_true rfl), (Nat.le_of_ble_eq_true rfl)⟩ ?_
        refine r_w (w' := WM cy ba ra hf hq kn (nI 0) sm ++ Y) rfl ?_
        refine r_ifN_eq (a := 0) (tgt := 44) C (by first | omega | (simp [up2, *]; done) | (simp [up2, *]; omega) | (simp only [up2_eq]; omega) | (split <;> omega)) dX4_open_39 (by decide) (fun h39_4 => ?_) (fun h39_4 => ?_)
        · skip
          refine r_aload_n C dX4_open_44 rfl ?_
          refine m_get (v := .ref (ba 5)) C 5 (by decide) qf_X4_32 rfl rfl dX4_open_45 ?_
          refine r_iload_n C dX4_open_48 rfl ?_
          refine r_iconst (v := (nI 1)) C dX4_open_49 (by decide) ?_
          refine m_zst (i := k0) (z := k0) (v := 1) C 4 (by decide) (by decide) (show k0 < 3 from (by first | omega | (simp [up2, *]; done) | (simp [up2, *]; omega) | (simp only [up2_eq]; omega) | (split <;> omega))) (show 0 + k0 = k0 from (by omega)) (by first | omega | (simp [up2, *]; done) | (simp [up2, *]; omega) | (simp only [up2_eq]; omega) | (split <;> omega)) dX4_open_50 ?_
          refine r_w (w' := WM cy ba ra (up2 hf 9 k0 1) hq kn (nI 0) sm ++ Y) rfl ?_
          refine r_aload_n C dX4_open_51 rfl ?_
          refine m_get (v := .ref (ba 6)) C 6 (by decide) qf_X4_35 rfl rfl dX4_open_52 ?_
          refine r_iload_n C dX4_open_55 rfl ?_
          refine r_iload_n C dX4_open_56 rfl ?_
          refine m_ast (i := k0) (z := k0) (v := w) C 5 (by decide) (by decide) (show k0 < 3 from (by first | omega | (simp [up2, *]; done) | (simp [up2, *]; omega) | (simp only [up2_eq]; omega) | (split <;> omega))) (show 0 + k0 = k0 from (by omega)) dX4_open_57 ?_
          refine r_w (w' := WM cy ba ra (up2 (up2 hf 9 k0 1) 6 k0 w) hq kn (nI 0) sm ++ Y) rfl ?_
          refine r_aload_n C dX4_open_58 rfl ?_
          refine m_get (v := .ref (ba 7)) C 7 (by decide) qf_X4_38 rfl rfl dX4_open_59 ?_
          refine r_iload_n C dX4_open_62 rfl ?_
          refine r_iload_n C dX4_open_63 rfl ?_
          refine m_ast (i := k0) (z := k0) (v := p0) C 6 (by decide) (by decide) (show k0 < 3 from (by first | omega | (simp [up2, *]; done) | (simp [up2, *]; omega) | (simp only [up2_eq]; omega) | (split <;> omega))) (show 0 + k0 = k0 from (by omega)) dX4_open_64 ?_
          refine r_w (w' := WM cy ba ra (up2 (up2 (up2 hf 9 k0 1) 6 k0 w) 7 k0 p0) hq kn (nI 0) sm ++ Y) rfl ?_
          refine r_aload_n C dX4_open_65 rfl ?_
          refine m_get (v := .ref (ba 8)) C 8 (by decide) qf_X4_41 rfl rfl dX4_open_66 ?_
          refine r_iload_n C dX4_open_69 rfl ?_
          refine r_iconst (v := (nI 4294967295)) C dX4_open_70 (by decide) ?_
          refine m_ast (i := k0) (z := k0) (v := 4294967295) C 7 (by decide) (by decide) (show k0 < 3 from (by first | omega | (simp [up2, *]; done) | (simp [up2, *]; omega) | (simp only [up2_eq]; omega) | (split <;> omega))) (show 0 + k0 = k0 from (by omega)) dX4_open_71 ?_
          refine r_w (w' := WM cy ba ra (up2 (up2 (up2 (up2 hf 9 k0 1) 6 k0 w) 7 k0 p0) 8 k0 4294967295) hq kn (nI 0) sm ++ Y) rfl ?_
          refine r_aload_n C dX4_open_72 rfl ?_
          refine r_iload_n C dX4_open_73 rfl ?_
          refine d_V (st := []) hX.1.stb C hE (D_sizeOf (ba := ba) (ra := ra) (hf := (up2 (up2 (up2 (up2 hf 9 k0 1) 6 k0 w) 7 k0 p0) 8 k0 4294967295)) (hq := hq) (kn := kn) (th := (nI 0)) (sm := sm) (Y := Y) (w := w) hX (by first | omega | (simp [up2, *]; done) | (simp [up2, *]; omega) | (simp only [up2_eq]; omega) | (split <;> omega))) pk_X4_sizeOf qm_X4_59 0 8 rfl rfl wm_0 rfl rfl (Nat.le_of_ble_eq_true rfl) dX4_open_74 ⟨(Nat.le_of_ble_eq_true rfl), (Nat.le_of_ble_eq_true rfl)⟩ ⟨(Nat.le_of_ble_eq_true rfl), (Nat.le_of_ble_eq_true rfl)⟩ ?_
          refine r_w (w' := WM cy ba ra (up2 (up2 (up2 (up2 hf 9 k0 1) 6 k0 w) 7 k0 p0) 8 k0 4294967295) hq kn (nI 0) sm ++ Y) rfl ?_
          refine r_iload_n C dX4_open_77 rfl ?_
          refine r_isubN C dX4_open_78 (by first | omega | (simp [up2, *]; done) | (simp [up2, *]; omega) | (simp only [up2_eq]; omega) | (split <;> omega)) ?_
          exact r_iret C hr dX4_open_79 ⟨rfl, rfl⟩ (Nat.le_of_ble_eq_true rfl) (Nat.le_of_ble_eq_true rfl)
        · exact absurd h39_4 (by first | omega | (simp [up2, *]; done) | (simp [up2, *]; omega) | (simp only [up2_eq]; omega) | (split <;> omega))
      · exact absurd h26_3 (by first | omega | (simp [up2, *]; done) | (simp [up2, *]; omega) | (simp only [up2_eq]; omega) | (split <;> omega))
theorem dX4_shut_0 : decode cX4_shut 0 = .ok (.aload_n 0, 1) := dqo_42 (kb_of ke_X4_shut 0 rfl)
theorem dX4_shut_1 : decode cX4_shut 1 = .ok (.iload_n 1, 1) := dqo_27 (kb_of ke_X4_shut 1 rfl)
theorem dX4_shut_2 : decode cX4_shut 2 = .ok (.invokestatic 193, 3) := dqo_184 0 193 (kb_of ke_X4_shut 2 rfl) (kb_of ke_X4_shut 3 rfl) (kb_of ke_X4_shut 4 rfl)
theorem dX4_shut_5 : decode cX4_shut 5 = .ok (.iconst 0, 1) := dqo_3 (kb_of ke_X4_shut 5 rfl)
theorem dX4_shut_6 : decode cX4_shut 6 = .ok (.iconst 0, 1) := dqo_3 (kb_of ke_X4_shut 6 rfl)
theorem dX4_shut_7 : decode cX4_shut 7 = .ok (.invokevirtual 84, 3) := dqo_182 0 84 (kb_of ke_X4_shut 7 rfl) (kb_of ke_X4_shut 8 rfl) (kb_of ke_X4_shut 9 rfl)
theorem dX4_shut_10 : decode cX4_shut 10 = .ok (.ifCond .eq 5, 3) := dqo_153 0 5 (by decide) (kb_of ke_X4_shut 10 rfl) (kb_of ke_X4_shut 11 rfl) (kb_of ke_X4_shut 12 rfl)
theorem dX4_shut_13 : decode cX4_shut 13 = .ok (.iconst 0, 1) := dqo_3 (kb_of ke_X4_shut 13 rfl)
theorem dX4_shut_14 : decode cX4_shut 14 = .ok (.ireturn, 1) := dqo_172 (kb_of ke_X4_shut 14 rfl)
set_option maxRecDepth 100000 in
set_option maxHeartbeats 4000000 in
theorem D_shut_noC {l : Launch} {D : va_G} {cy : Nat → ClassId} {X : (Nat → Prop) → State → Heap → Prop} {ba ra : Nat → Nat} {hf : Nat → Nat → Nat} {hq : Nat → Nat → Int32} {kn th : Int32} {sm : Int64} {Y : va_W} {f : Nat → Nat → Nat} {r : Nat → Nat → Int32} {x : Int32} (hX : EnvM X cy) (hC : CInv f) (hM : MR f r hf hq) (hno : ¬ (0 ≤ x ∧ x < nI 3)) : Cd l D cy X yX4_shut cX4_shut 3 (some .int) (rmk 9 4 48 420) [.ref (ba 9), .int x] (WM cy ba ra hf hq kn th sm ++ Y) (some (.int (nI 0))) (WM cy ba ra hf hq kn (nI 1) sm ++ Y) := by
  have hG := hM.1
  have h5M := hM.h5M hC
  have h4M := hC.h4M
  have h9a := hM.h9a hC
  have h6a := hM.h6a
  have hU := hM.hU hC
  refine Cm.of [some (.ref (ba 9)), some (.int x), none] pn_X4 rfl (Nat.le_of_ble_eq_true rfl) ?_
  intro p e s m args below meth c A C hE hr hnt hn
  refine r_aload_n C dX4_shut_0 rfl ?_
  refine r_iload_n C dX4_shut_1 rfl ?_
  refine d_S (st := [.ref (ba 9)]) hX.1.stb C hE (D_isNoCursor1 (ba := ba) (ra := ra) (hf := hf) (hq := hq) (kn := kn) (th := th) (sm := sm) (Y := Y) (x := (x)) hX hno) pk_X4_isNoCursor qm_X4_193 rfl rfl (Nat.le_of_ble_eq_true rfl) dX4_shut_2 ⟨(Nat.le_of_ble_eq_true rfl), (Nat.le_of_ble_eq_true rfl)⟩ ⟨(Nat.le_of_ble_eq_true rfl), (Nat.le_of_ble_eq_true rfl)⟩ ?_
  refine r_w (w' := WM cy ba ra hf hq kn th sm ++ Y) rfl ?_
  refine r_iconst (v := (nI 0)) C dX4_shut_5 (by decide) ?_
  refine r_iconst (v := (nI 0)) C dX4_shut_6 (by decide) ?_
  refine d_V (st := []) hX.1.stb C hE (D_fails1 (ba := ba) (ra := ra) (hf := hf) (hq := hq) (kn := kn) (th := th) (sm := sm) (Y := Y) (b0 := 0) (d0 := 0) hX ) pk_X4_fails qm_X4_84 0 8 rfl rfl wm_0 rfl rfl (Nat.le_of_ble_eq_true rfl) dX4_shut_7 ⟨(Nat.le_of_ble_eq_true rfl), (Nat.le_of_ble_eq_true rfl)⟩ ⟨(Nat.le_of_ble_eq_true rfl), (Nat.le_of_ble_eq_true rfl)⟩ ?_
  refine r_w (w' := WM cy ba ra hf hq kn (nI 1) sm ++ Y) rfl ?_
  refine r_ifN_eq (a := 1) (tgt := 15) C (by first | omega | (simp [up2, *]; done) | (simp [up2, *]; omega) | (simp only [up2_eq]; omega) | (split <;> omega)) dX4_shut_10 (by decide) (fun h10_1 => ?_) (fun h10_1 => ?_)
  · exact absurd h10_1 (by first | omega | (simp [up2, *]; done) | (simp [up2, *]; omega) | (simp only [up2_eq]; omega) | (split <;> omega))
  · skip
    refine r_iconst (v := (nI 0)) C dX4_shut_13 (by decide) ?_
    exact r_iret C hr dX4_shut_14 ⟨rfl, rfl⟩ (Nat.le_of_ble_eq_true rfl) (Nat.le_of_ble_eq_true rfl)
theorem dX4_shut_15 : decode cX4_shut 15 = .ok (.aload_n 0, 1) := dqo_42 (kb_of ke_X4_shut 15 rfl)
theorem dX4_shut_16 : decode cX4_shut 16 = .ok (.getfield 32, 3) := dqo_180 0 32 (kb_of ke_X4_shut 16 rfl) (kb_of ke_X4_shut 17 rfl) (kb_of ke_X4_shut 18 rfl)
theorem dX4_shut_19 : decode cX4_shut 19 = .ok (.iload_n 1, 1) := dqo_27 (kb_of ke_X4_shut 19 rfl)
theorem dX4_shut_20 : decode cX4_shut 20 = .ok (.baload, 1) := dqo_51 (kb_of ke_X4_shut 20 rfl)
theorem dX4_shut_21 : decode cX4_shut 21 = .ok (.invokestatic 136, 3) := dqo_184 0 136 (kb_of ke_X4_shut 21 rfl) (kb_of ke_X4_shut 22 rfl) (kb_of ke_X4_shut 23 rfl)
theorem dX4_shut_24 : decode cX4_shut 24 = .ok (.istore_n 2, 1) := dqo_61 (kb_of ke_X4_shut 24 rfl)
theorem dX4_shut_25 : decode cX4_shut 25 = .ok (.aload_n 0, 1) := dqo_42 (kb_of ke_X4_shut 25 rfl)
theorem dX4_shut_26 : decode cX4_shut 26 = .ok (.getfield 32, 3) := dqo_180 0 32 (kb_of ke_X4_shut 26 rfl) (kb_of ke_X4_shut 27 rfl) (kb_of ke_X4_shut 28 rfl)
theorem dX4_shut_29 : decode cX4_shut 29 = .ok (.iload_n 1, 1) := dqo_27 (kb_of ke_X4_shut 29 rfl)
theorem dX4_shut_30 : decode cX4_shut 30 = .ok (.iconst 0, 1) := dqo_3 (kb_of ke_X4_shut 30 rfl)
theorem dX4_shut_31 : decode cX4_shut 31 = .ok (.bastore, 1) := dqo_84 (kb_of ke_X4_shut 31 rfl)
theorem dX4_shut_32 : decode cX4_shut 32 = .ok (.iload_n 2, 1) := dqo_28 (kb_of ke_X4_shut 32 rfl)
theorem dX4_shut_33 : decode cX4_shut 33 = .ok (.ireturn, 1) := dqo_172 (kb_of ke_X4_shut 33 rfl)
set_option maxRecDepth 100000 in
set_option maxHeartbeats 4000000 in
theorem D_shut_ok {l : Launch} {D : va_G} {cy : Nat → ClassId} {X : (Nat → Prop) → State → Heap → Prop} {ba ra : Nat → Nat} {hf : Nat → Nat → Nat} {hq : Nat → Nat → Int32} {kn th : Int32} {sm : Int64} {Y : va_W} {f : Nat → Nat → Nat} {r : Nat → Nat → Int32} {k0 : Nat} (hX : EnvM X cy) (hC : CInv f) (hM : MR f r hf hq) (hk3 : k0 < 3) : Cd l D cy X yX4_shut cX4_shut 3 (some .int) (rmk 9 4 48 420) [.ref (ba 9), .int (nI k0)] (WM cy ba ra hf hq kn th sm ++ Y) (some (.int (nI (hf 9 k0)))) (WM cy ba ra (up2 hf 9 k0 0) hq kn (nI 0) sm ++ Y) := by
  have hG := hM.1
  have h5M := hM.h5M hC
  have h4M := hC.h4M
  have h9a := hM.h9a hC
  have h6a := hM.h6a
  have hU := hM.hU hC
  have qu := hM.cu hC hk3
  refine Cm.of [some (.ref (ba 9)), some (.int (nI k0)), none] pn_X4 rfl (Nat.le_of_ble_eq_true rfl) ?_
  intro p e s m args below meth c A C hE hr hnt hn
  refine r_aload_n C dX4_shut_0 rfl ?_
  refine r_iload_n C dX4_shut_1 rfl ?_
  refine d_S (st := [.ref (ba 9)]) hX.1.stb C hE (D_isNoCursor0 (ba := ba) (ra := ra) (hf := hf) (hq := hq) (kn := kn) (th := th) (sm := sm) (Y := Y) (i := k0) hX (by first | omega | (simp [up2, *]; done) | (simp [up2, *]; omega) | (simp only [up2_eq]; omega) | (split <;> omega))) pk_X4_isNoCursor qm_X4_193 rfl rfl (Nat.le_of_ble_eq_true rfl) dX4_shut_2 ⟨(Nat.le_of_ble_eq_true rfl), (Nat.le_of_ble_eq_true rfl)⟩ ⟨(Nat.le_of_ble_eq_true rfl), (Nat.le_of_ble_eq_true rfl)⟩ ?_
  refine r_w (w' := WM cy ba ra hf hq kn th sm ++ Y) rfl ?_
  refine r_iconst (v := (nI 0)) C dX4_shut_5 (by decide) ?_
  refine r_iconst (v := (nI 0)) C dX4_shut_6 (by decide) ?_
  refine d_V (st := []) hX.1.stb C hE (D_fails0 (ba := ba) (ra := ra) (hf := hf) (hq := hq) (kn := kn) (th := th) (sm := sm) (Y := Y)  hX ) pk_X4_fails qm_X4_84 0 8 rfl rfl wm_0 rfl rfl (Nat.le_of_ble_eq_true rfl) dX4_shut_7 ⟨(Nat.le_of_ble_eq_true rfl), (Nat.le_of_ble_eq_true rfl)⟩ ⟨(Nat.le_of_ble_eq_true rfl), (Nat.le_of_ble_eq_true rfl)⟩ ?_
  refine r_w (w' := WM cy ba ra hf hq kn (nI 0) sm ++ Y) rfl ?_
  refine r_ifN_eq (a := 0) (tgt := 15) C (by first | omega | (simp [up2, *]; done) | (simp [up2, *]; omega) | (simp only [up2_eq]; omega) | (split <;> omega)) dX4_shut_10 (by decide) (fun h10_1 => ?_) (fun h10_1 => ?_)
  · skip
    refine r_aload_n C dX4_shut_15 rfl ?_
    refine m_get (v := .ref (ba 5)) C 5 (by decide) qf_X4_32 rfl rfl dX4_shut_16 ?_
    refine r_iload_n C dX4_shut_19 rfl ?_
    refine m_zld (i := k0) (z := k0) (v := hf 9 k0) C 4 (by decide) (by decide) (show k0 < 3 from (by first | omega | (simp [up2, *]; done) | (simp [up2, *]; omega) | (simp only [up2_eq]; omega) | (split <;> omega))) (show 0 + k0 = k0 from (by omega)) rfl dX4_shut_20 ?_
    refine d_S (st := []) hX.1.stb C hE (D_one (ba := ba) (ra := ra) (hf := hf) (hq := hq) (kn := kn) (th := (nI 0)) (sm := sm) (Y := Y) (b0 := (hf 9 k0)) hX (by first | omega | (simp [up2, *]; done) | (simp [up2, *]; omega) | (simp only [up2_eq]; omega) | (split <;> omega))) pk_X4_one qm_X4_136 rfl rfl (Nat.le_of_ble_eq_true rfl) dX4_shut_21 ⟨(Nat.le_of_ble_eq_true rfl), (Nat.le_of_ble_eq_true rfl)⟩ ⟨(Nat.le_of_ble_eq_true rfl), (Nat.le_of_ble_eq_true rfl)⟩ ?_
    refine r_w (w' := WM cy ba ra hf hq kn (nI 0) sm ++ Y) rfl ?_
    refine r_istore_n C dX4_shut_24 (by decide) rfl ?_
    refine r_aload_n C dX4_shut_25 rfl ?_
    refine m_get (v := .ref (ba 5)) C 5 (by decide) qf_X4_32 rfl rfl dX4_shut_26 ?_
    refine r_iload_n C dX4_shut_29 rfl ?_
    refine r_iconst (v := (nI 0)) C dX4_shut_30 (by decide) ?_
    refine m_zst (i := k0) (z := k0) (v := 0) C 4 (by decide) (by decide) (show k0 < 3 from (by first | omega | (simp [up2, *]; done) | (simp [up2, *]; omega) | (simp only [up2_eq]; omega) | (split <;> omega))) (show 0 + k0 = k0 from (by omega)) (by first | omega | (simp [up2, *]; done) | (simp [up2, *]; omega) | (simp only [up2_eq]; omega) | (split <;> omega)) dX4_shut_31 ?_
    refine r_w (w' := WM cy ba ra (up2 hf 9 k0 0) hq kn (nI 0) sm ++ Y) rfl ?_
    refine r_iload_n C dX4_shut_32 rfl ?_
    exact r_iret C hr dX4_shut_33 ⟨rfl, rfl⟩ (Nat.le_of_ble_eq_true rfl) (Nat.le_of_ble_eq_true rfl)
  · exact absurd h10_1 (by first | omega | (simp [up2, *]; done) | (simp [up2, *]; omega) | (simp only [up2_eq]; omega) | (split <;> omega))
theorem dX4_isShut_0 : decode cX4_isShut 0 = .ok (.iload_n 1, 1) := dqo_27 (kb_of ke_X4_isShut 0 rfl)
theorem dX4_isShut_1 : decode cX4_isShut 1 = .ok (.invokestatic 193, 3) := dqo_184 0 193 (kb_of ke_X4_isShut 1 rfl) (kb_of ke_X4_isShut 2 rfl) (kb_of ke_X4_isShut 3 rfl)
theorem dX4_isShut_4 : decode cX4_isShut 4 = .ok (.ifCond .ne 16, 3) := dqo_154 0 16 (by decide) (kb_of ke_X4_isShut 4 rfl) (kb_of ke_X4_isShut 5 rfl) (kb_of ke_X4_isShut 6 rfl)
theorem dX4_isShut_20 : decode cX4_isShut 20 = .ok (.iconst 0, 1) := dqo_3 (kb_of ke_X4_isShut 20 rfl)
theorem dX4_isShut_21 : decode cX4_isShut 21 = .ok (.ireturn, 1) := dqo_172 (kb_of ke_X4_isShut 21 rfl)
set_option maxRecDepth 100000 in
set_option maxHeartbeats 4000000 in
theorem D_isShutC {l : Launch} {D : va_G} {cy : Nat → ClassId} {X : (Nat → Prop) → State → Heap → Prop} {ba ra : Nat → Nat} {hf : Nat → Nat → Nat} {hq : Nat → Nat → Int32} {kn th : Int32} {sm : Int64} {Y : va_W} {x : Int32} (hX : EnvM X cy) (hno : ¬ (0 ≤ x ∧ x < nI 3)) : Cd l D cy X yX4_isShut cX4_isShut 2 (some .boolean) (rmz 2 60) [.ref (ba 9), .int x] (WM cy ba ra hf hq kn th sm ++ Y) (some (.int (nI 0))) (WM cy ba ra hf hq kn th sm ++ Y) := by
  refine Cm.of [some (.ref (ba 9)), some (.int x)] pn_X4 rfl (Nat.le_of_ble_eq_true rfl) ?_
  intro p e s m args below meth c A C hE hr hnt hn
  refine r_iload_n C dX4_isShut_0 rfl ?_
  refine d_S (st := []) hX.1.stb C hE (D_isNoCursor1 (ba := ba) (ra := ra) (hf := hf) (hq := hq) (kn := kn) (th := th) (sm := sm) (Y := Y) (x := (x)) hX hno) pk_X4_isNoCursor qm_X4_193 rfl rfl (Nat.le_of_ble_eq_true rfl) dX4_isShut_1 ⟨(Nat.le_of_ble_eq_true rfl), (Nat.le_of_ble_eq_true rfl)⟩ ⟨(Nat.le_of_ble_eq_true rfl), (Nat.le_of_ble_eq_true rfl)⟩ ?_
  refine r_w (w' := WM cy ba ra hf hq kn th sm ++ Y) rfl ?_
  refine r_ifN_ne (a := 1) (tgt := 20) C (by first | omega | (simp [up2, *]; done) | (simp [up2, *]; omega) | (simp only [up2_eq]; omega) | (split <;> omega)) dX4_isShut_4 (by decide) (fun h4_1 => ?_) (fun h4_1 => ?_)
  · skip
    refine r_iconst (v := (nI 0)) C dX4_isShut_20 (by decide) ?_
    exact r_zret C hr (by first | omega | (simp [up2, *]; done) | (simp [up2, *]; omega) | (simp only [up2_eq]; omega) | (split <;> omega)) dX4_isShut_21 ⟨rfl, rfl⟩ (Nat.le_of_ble_eq_true rfl) (Nat.le_of_ble_eq_true rfl)
  · exact absurd h4_1 (by first | omega | (simp [up2, *]; done) | (simp [up2, *]; omega) | (simp only [up2_eq]; omega) | (split <;> omega))
theorem dX4_isShut_7 : decode cX4_isShut 7 = .ok (.aload_n 0, 1) := dqo_42 (kb_of ke_X4_isShut 7 rfl)
theorem dX4_isShut_8 : decode cX4_isShut 8 = .ok (.getfield 32, 3) := dqo_180 0 32 (kb_of ke_X4_isShut 8 rfl) (kb_of ke_X4_isShut 9 rfl) (kb_of ke_X4_isShut 10 rfl)
theorem dX4_isShut_11 : decode cX4_isShut 11 = .ok (.iload_n 1, 1) := dqo_27 (kb_of ke_X4_isShut 11 rfl)
theorem dX4_isShut_12 : decode cX4_isShut 12 = .ok (.baload, 1) := dqo_51 (kb_of ke_X4_isShut 12 rfl)
theorem dX4_isShut_13 : decode cX4_isShut 13 = .ok (.ifCond .ne 7, 3) := dqo_154 0 7 (by decide) (kb_of ke_X4_isShut 13 rfl) (kb_of ke_X4_isShut 14 rfl) (kb_of ke_X4_isShut 15 rfl)
theorem dX4_isShut_16 : decode cX4_isShut 16 = .ok (.iconst 1, 1) := dqo_4 (kb_of ke_X4_isShut 16 rfl)
theorem dX4_isShut_17 : decode cX4_isShut 17 = .ok (.goto 4, 3) := dqo_167 0 4 (by decide) (kb_of ke_X4_isShut 17 rfl) (kb_of ke_X4_isShut 18 rfl) (kb_of ke_X4_isShut 19 rfl)
set_option maxRecDepth 100000 in
set_option maxHeartbeats 4000000 in
theorem D_isShutX {l : Launch} {D : va_G} {cy : Nat → ClassId} {X : (Nat → Prop) → State → Heap → Prop} {ba ra : Nat → Nat} {hf : Nat → Nat → Nat} {hq : Nat → Nat → Int32} {kn th : Int32} {sm : Int64} {Y : va_W} {k0 : Nat} (hX : EnvM X cy) (hk3 : k0 < 3) (h9b : hf 9 k0 ≤ 1) : Cd l D cy X yX4_isShut cX4_isShut 2 (some .boolean) (rmz 2 60) [.ref (ba 9), .int (nI k0)] (WM cy ba ra hf hq kn th sm ++ Y) (some (.int (nI (shM (hf 9 k0))))) (WM cy ba ra hf hq kn th sm ++ Y) := by
  refine Cm.of [some (.ref (ba 9)), some (.int (nI k0))] pn_X4 rfl (Nat.le_of_ble_eq_true rfl) ?_
  intro p e s m args below meth c A C hE hr hnt hn
  refine r_iload_n C dX4_isShut_0 rfl ?_
  refine d_S (st := []) hX.1.stb C hE (D_isNoCursor0 (ba := ba) (ra := ra) (hf := hf) (hq := hq) (kn := kn) (th := th) (sm := sm) (Y := Y) (i := k0) hX (by first | omega | (simp [up2, *]; done) | (simp [up2, *]; omega) | (simp only [up2_eq]; omega) | (split <;> omega))) pk_X4_isNoCursor qm_X4_193 rfl rfl (Nat.le_of_ble_eq_true rfl) dX4_isShut_1 ⟨(Nat.le_of_ble_eq_true rfl), (Nat.le_of_ble_eq_true rfl)⟩ ⟨(Nat.le_of_ble_eq_true rfl), (Nat.le_of_ble_eq_true rfl)⟩ ?_
  refine r_w (w' := WM cy ba ra hf hq kn th sm ++ Y) rfl ?_
  refine r_ifN_ne (a := 0) (tgt := 20) C (by first | omega | (simp [up2, *]; done) | (simp [up2, *]; omega) | (simp only [up2_eq]; omega) | (split <;> omega)) dX4_isShut_4 (by decide) (fun h4_1 => ?_) (fun h4_1 => ?_)
  · exact absurd h4_1 (by first | omega | (simp [up2, *]; done) | (simp [up2, *]; omega) | (simp only [up2_eq]; omega) | (split <;> omega))
  · skip
    refine r_aload_n C dX4_isShut_7 rfl ?_
    refine m_get (v := .ref (ba 5)) C 5 (by decide) qf_X4_32 rfl rfl dX4_isShut_8 ?_
    refine r_iload_n C dX4_isShut_11 rfl ?_
    refine m_zld (i := k0) (z := k0) (v := hf 9 k0) C 4 (by decide) (by decide) (show k0 < 3 from (by first | omega | (simp [up2, *]; done) | (simp [up2, *]; omega) | (simp only [up2_eq]; omega) | (split <;> omega))) (show 0 + k0 = k0 from (by omega)) rfl dX4_isShut_12 ?_
    refine r_ifN_ne (a := (hf 9 k0)) (tgt := 20) C (by first | omega | (simp [up2, *]; done) | (simp [up2, *]; omega) | (simp only [up2_eq]; omega) | (split <;> omega)) dX4_isShut_13 (by decide) (fun h13_2 => ?_) (fun h13_2 => ?_)
    · first
      | exfalso; first | omega | contradiction
      | skip
        refine r_iconst (v := (nI 0)) C dX4_isShut_20 (by decide) ?_
        exact r_zret C hr (by first | omega | (simp [up2, *]; done) | (simp [up2, *]; omega) | (simp only [up2_eq]; omega) | (split <;> omega)) dX4_isShut_21 ⟨by unfold shM; first | rw [if_pos (by assumption)] | rw [if_neg (by assumption)], rfl⟩ (Nat.le_of_ble_eq_true rfl) (Nat.le_of_ble_eq_true rfl)
    · first
      | exfalso; first | omega | contradiction
      | skip
        refine r_iconst (v := (nI 1)) C dX4_isShut_16 (by decide) ?_
        refine r_goto (tgt := 21) C dX4_isShut_17 (by decide) ?_
        exact r_zret C hr (by first | omega | (simp [up2, *]; done) | (simp [up2, *]; omega) | (simp only [up2_eq]; omega) | (split <;> omega)) dX4_isShut_21 ⟨by unfold shM; first | rw [if_pos (by assumption)] | rw [if_neg (by assumption)], rfl⟩ (Nat.le_of_ble_eq_true rfl) (Nat.le_of_ble_eq_true rfl)
set_option maxRecDepth 100000 in
set_option maxHeartbeats 4000000 in
theorem D_isShut0 {l : Launch} {D : va_G} {cy : Nat → ClassId} {X : (Nat → Prop) → State → Heap → Prop} {ba ra : Nat → Nat} {hf : Nat → Nat → Nat} {hq : Nat → Nat → Int32} {kn th : Int32} {sm : Int64} {Y : va_W} {k0 : Nat} (hX : EnvM X cy) (hk3 : k0 < 3) (h9b : hf 9 k0 = 1) : Cd l D cy X yX4_isShut cX4_isShut 2 (some .boolean) (rmz 2 60) [.ref (ba 9), .int (nI k0)] (WM cy ba ra hf hq kn th sm ++ Y) (some (.int (nI 0))) (WM cy ba ra hf hq kn th sm ++ Y) := by
  refine Cm.of [some (.ref (ba 9)), some (.int (nI k0))] pn_X4 rfl (Nat.le_of_ble_eq_true rfl) ?_
  intro p e s m args below meth c A C hE hr hnt hn
  refine r_iload_n C dX4_isShut_0 rfl ?_
  refine d_S (st := []) hX.1.stb C hE (D_isNoCursor0 (ba := ba) (ra := ra) (hf := hf) (hq := hq) (kn := kn) (th := th) (sm := sm) (Y := Y) (i := k0) hX (by first | omega | (simp [up2, *]; done) | (simp [up2, *]; omega) | (simp only [up2_eq]; omega) | (split <;> omega))) pk_X4_isNoCursor qm_X4_193 rfl rfl (Nat.le_of_ble_eq_true rfl) dX4_isShut_1 ⟨(Nat.le_of_ble_eq_true rfl), (Nat.le_of_ble_eq_true rfl)⟩ ⟨(Nat.le_of_ble_eq_true rfl), (Nat.le_of_ble_eq_true rfl)⟩ ?_
  refine r_w (w' := WM cy ba ra hf hq kn th sm ++ Y) rfl ?_
  refine r_ifN_ne (a := 0) (tgt := 20) C (by first | omega | (simp [up2, *]; done) | (simp [up2, *]; omega) | (simp only [up2_eq]; omega) | (split <;> omega)) dX4_isShut_4 (by decide) (fun h4_1 => ?_) (fun h4_1 => ?_)
  · exact absurd h4_1 (by first | omega | (simp [up2, *]; done) | (simp [up2, *]; omega) | (simp only [up2_eq]; omega) | (split <;> omega))
  · skip
    refine r_aload_n C dX4_isShut_7 rfl ?_
    refine m_get (v := .ref (ba 5)) C 5 (by decide) qf_X4_32 rfl rfl dX4_isShut_8 ?_
    refine r_iload_n C dX4_isShut_11 rfl ?_
    refine m_zld (i := k0) (z := k0) (v := hf 9 k0) C 4 (by decide) (by decide) (show k0 < 3 from (by first | omega | (simp [up2, *]; done) | (simp [up2, *]; omega) | (simp only [up2_eq]; omega) | (split <;> omega))) (show 0 + k0 = k0 from (by omega)) rfl dX4_isShut_12 ?_
    refine r_ifN_ne (a := (hf 9 k0)) (tgt := 20) C (by first | omega | (simp [up2, *]; done) | (simp [up2, *]; omega) | (simp only [up2_eq]; omega) | (split <;> omega)) dX4_isShut_13 (by decide) (fun h13_2 => ?_) (fun h13_2 => ?_)
    · skip
      refine r_iconst (v := (nI 0)) C dX4_isShut_20 (by decide) ?_
      exact r_zret C hr (by first | omega | (simp [up2, *]; done) | (simp [up2, *]; omega) | (simp only [up2_eq]; omega) | (split <;> omega)) dX4_isShut_21 ⟨rfl, rfl⟩ (Nat.le_of_ble_eq_true rfl) (Nat.le_of_ble_eq_true rfl)
    · exact absurd h13_2 (by first | omega | (simp [up2, *]; done) | (simp [up2, *]; omega) | (simp only [up2_eq]; omega) | (split <;> omega))
set_option maxRecDepth 100000 in
set_option maxHeartbeats 4000000 in
theorem D_isShut1 {l : Launch} {D : va_G} {cy : Nat → ClassId} {X : (Nat → Prop) → State → Heap → Prop} {ba ra : Nat → Nat} {hf : Nat → Nat → Nat} {hq : Nat → Nat → Int32} {kn th : Int32} {sm : Int64} {Y : va_W} {k0 : Nat} (hX : EnvM X cy) (hk3 : k0 < 3) (h9b : hf 9 k0 = 0) : Cd l D cy X yX4_isShut cX4_isShut 2 (some .boolean) (rmz 2 60) [.ref (ba 9), .int (nI k0)] (WM cy ba ra hf hq kn th sm ++ Y) (some (.int (nI 1))) (WM cy ba ra hf hq kn th sm ++ Y) := by
  refine Cm.of [some (.ref (ba 9)), some (.int (nI k0))] pn_X4 rfl (Nat.le_of_ble_eq_true rfl) ?_
  intro p e s m args below meth c A C hE hr hnt hn
  refine r_iload_n C dX4_isShut_0 rfl ?_
  refine d_S (st := []) hX.1.stb C hE (D_isNoCursor0 (ba := ba) (ra := ra) (hf := hf) (hq := hq) (kn := kn) (th := th) (sm := sm) (Y := Y) (i := k0) hX (by first | omega | (simp [up2, *]; done) | (simp [up2, *]; omega) | (simp only [up2_eq]; omega) | (split <;> omega))) pk_X4_isNoCursor qm_X4_193 rfl rfl (Nat.le_of_ble_eq_true rfl) dX4_isShut_1 ⟨(Nat.le_of_ble_eq_true rfl), (Nat.le_of_ble_eq_true rfl)⟩ ⟨(Nat.le_of_ble_eq_true rfl), (Nat.le_of_ble_eq_true rfl)⟩ ?_
  refine r_w (w' := WM cy ba ra hf hq kn th sm ++ Y) rfl ?_
  refine r_ifN_ne (a := 0) (tgt := 20) C (by first | omega | (simp [up2, *]; done) | (simp [up2, *]; omega) | (simp only [up2_eq]; omega) | (split <;> omega)) dX4_isShut_4 (by decide) (fun h4_1 => ?_) (fun h4_1 => ?_)
  · exact absurd h4_1 (by first | omega | (simp [up2, *]; done) | (simp [up2, *]; omega) | (simp only [up2_eq]; omega) | (split <;> omega))
  · skip
    refine r_aload_n C dX4_isShut_7 rfl ?_
    refine m_get (v := .ref (ba 5)) C 5 (by decide) qf_X4_32 rfl rfl dX4_isShut_8 ?_
    refine r_iload_n C dX4_isShut_11 rfl ?_
    refine m_zld (i := k0) (z := k0) (v := hf 9 k0) C 4 (by decide) (by decide) (show k0 < 3 from (by first | omega | (simp [up2, *]; done) | (simp [up2, *]; omega) | (simp only [up2_eq]; omega) | (split <;> omega))) (show 0 + k0 = k0 from (by omega)) rfl dX4_isShut_12 ?_
    refine r_ifN_ne (a := (hf 9 k0)) (tgt := 20) C (by first | omega | (simp [up2, *]; done) | (simp [up2, *]; omega) | (simp only [up2_eq]; omega) | (split <;> omega)) dX4_isShut_13 (by decide) (fun h13_2 => ?_) (fun h13_2 => ?_)
    · exact absurd h13_2 (by first | omega | (simp [up2, *]; done) | (simp [up2, *]; omega) | (simp only [up2_eq]; omega) | (split <;> omega))
    · skip
      refine r_iconst (v := (nI 1)) C dX4_isShut_16 (by decide) ?_
      refine r_goto (tgt := 21) C dX4_isShut_17 (by decide) ?_
      exact r_zret C hr (by first | omega | (simp [up2, *]; done) | (simp [up2, *]; omega) | (simp only [up2_eq]; omega) | (split <;> omega)) dX4_isShut_21 ⟨rfl, rfl⟩ (Nat.le_of_ble_eq_true rfl) (Nat.le_of_ble_eq_true rfl)
theorem pk_X4_isShut : PkV RX4 yX4_isShut cX4_isShut 2 (some .boolean) 1 := ⟨⟨qi_X4_isShut, qs_X4_isShut, qz_X4, qc_X4_isShut⟩, rfl, mh_X4.1, mh_X4.2, pd_8⟩
theorem dX4_next_0 : decode cX4_next 0 = .ok (.aload_n 0, 1) := dqo_42 (kb_X4_next_0 0 rfl)
theorem dX4_next_1 : decode cX4_next 1 = .ok (.iload_n 1, 1) := dqo_27 (kb_X4_next_0 1 rfl)
theorem dX4_next_2 : decode cX4_next 2 = .ok (.invokestatic 193, 3) := dqo_184 0 193 (kb_X4_next_0 2 rfl) (kb_X4_next_0 3 rfl) (kb_X4_next_0 4 rfl)
theorem dX4_next_5 : decode cX4_next 5 = .ok (.aload_n 0, 1) := dqo_42 (kb_X4_next_0 5 rfl)
theorem dX4_next_6 : decode cX4_next 6 = .ok (.iload_n 1, 1) := dqo_27 (kb_X4_next_0 6 rfl)
theorem dX4_next_7 : decode cX4_next 7 = .ok (.invokevirtual 196, 3) := dqo_182 0 196 (kb_X4_next_0 7 rfl) (kb_X4_next_0 8 rfl) (kb_X4_next_0 9 rfl)
theorem dX4_next_10 : decode cX4_next 10 = .ok (.iconst 0, 1) := dqo_3 (kb_X4_next_0 10 rfl)
theorem dX4_next_11 : decode cX4_next 11 = .ok (.invokevirtual 84, 3) := dqo_182 0 84 (kb_X4_next_0 11 rfl) (kb_X4_next_0 12 rfl) (kb_X4_next_0 13 rfl)
theorem dX4_next_14 : decode cX4_next 14 = .ok (.ifCond .eq 5, 3) := dqo_153 0 5 (by decide) (kb_X4_next_0 14 rfl) (kb_X4_next_0 15 rfl) (kb_X4_next_0 16 rfl)
theorem dX4_next_17 : decode cX4_next 17 = .ok (.iconst 0, 1) := dqo_3 (kb_X4_next_0 17 rfl)
theorem dX4_next_18 : decode cX4_next 18 = .ok (.ireturn, 1) := dqo_172 (kb_X4_next_0 18 rfl)
set_option maxRecDepth 100000 in
set_option maxHeartbeats 4000000 in
theorem D_next_noC {l : Launch} {D : va_G} {cy : Nat → ClassId} {X : (Nat → Prop) → State → Heap → Prop} {ba ra : Nat → Nat} {hf : Nat → Nat → Nat} {hq : Nat → Nat → Int32} {kn th : Int32} {sm : Int64} {Y : va_W} {f : Nat → Nat → Nat} {r : Nat → Nat → Int32} {x : Int32} (hX : EnvM X cy) (hC : CInv f) (hM : MR f r hf hq) (hno : ¬ (0 ≤ x ∧ x < nI 3)) : Cd l D cy X yX4_next cX4_next 2 (some .int) (rmk 9 4 48 420) [.ref (ba 9), .int x] (WM cy ba ra hf hq kn th sm ++ Y) (some (.int (nI 0))) (WM cy ba ra hf hq kn (nI 1) sm ++ Y) := by
  have hG := hM.1
  have h5M := hM.h5M hC
  have h4M := hC.h4M
  have h9a := hM.h9a hC
  have h6a := hM.h6a
  have hU := hM.hU hC
  refine Cm.of [some (.ref (ba 9)), some (.int x)] pn_X4 rfl (Nat.le_of_ble_eq_true rfl) ?_
  intro p e s m args below meth c A C hE hr hnt hn
  refine r_aload_n C dX4_next_0 rfl ?_
  refine r_iload_n C dX4_next_1 rfl ?_
  refine d_S (st := [.ref (ba 9)]) hX.1.stb C hE (D_isNoCursor1 (ba := ba) (ra := ra) (hf := hf) (hq := hq) (kn := kn) (th := th) (sm := sm) (Y := Y) (x := (x)) hX hno) pk_X4_isNoCursor qm_X4_193 rfl rfl (Nat.le_of_ble_eq_true rfl) dX4_next_2 ⟨(Nat.le_of_ble_eq_true rfl), (Nat.le_of_ble_eq_true rfl)⟩ ⟨(Nat.le_of_ble_eq_true rfl), (Nat.le_of_ble_eq_true rfl)⟩ ?_
  refine r_w (w' := WM cy ba ra hf hq kn th sm ++ Y) rfl ?_
  refine r_aload_n C dX4_next_5 rfl ?_
  refine r_iload_n C dX4_next_6 rfl ?_
  refine d_V (st := [.int (nI 1), .ref (ba 9)]) hX.1.stb C hE (D_isShutC (ba := ba) (ra := ra) (hf := hf) (hq := hq) (kn := kn) (th := th) (sm := sm) (Y := Y) (x := (x)) hX hno) pk_X4_isShut qm_X4_196 0 8 rfl rfl wm_0 rfl rfl (Nat.le_of_ble_eq_true rfl) dX4_next_7 ⟨(Nat.le_of_ble_eq_true rfl), (Nat.le_of_ble_eq_true rfl)⟩ ⟨(Nat.le_of_ble_eq_true rfl), (Nat.le_of_ble_eq_true rfl)⟩ ?_
  refine r_w (w' := WM cy ba ra hf hq kn th sm ++ Y) rfl ?_
  refine r_iconst (v := (nI 0)) C dX4_next_10 (by decide) ?_
  refine d_V (st := []) hX.1.stb C hE (D_fails1 (ba := ba) (ra := ra) (hf := hf) (hq := hq) (kn := kn) (th := th) (sm := sm) (Y := Y) (b0 := 0) (d0 := 0) hX ) pk_X4_fails qm_X4_84 0 8 rfl rfl wm_0 rfl rfl (Nat.le_of_ble_eq_true rfl) dX4_next_11 ⟨(Nat.le_of_ble_eq_true rfl), (Nat.le_of_ble_eq_true rfl)⟩ ⟨(Nat.le_of_ble_eq_true rfl), (Nat.le_of_ble_eq_true rfl)⟩ ?_
  refine r_w (w' := WM cy ba ra hf hq kn (nI 1) sm ++ Y) rfl ?_
  refine r_ifN_eq (a := 1) (tgt := 19) C (by first | omega | (simp [up2, *]; done) | (simp [up2, *]; omega) | (simp only [up2_eq]; omega) | (split <;> omega)) dX4_next_14 (by decide) (fun h14_1 => ?_) (fun h14_1 => ?_)
  · exact absurd h14_1 (by first | omega | (simp [up2, *]; done) | (simp [up2, *]; omega) | (simp only [up2_eq]; omega) | (split <;> omega))
  · skip
    refine r_iconst (v := (nI 0)) C dX4_next_17 (by decide) ?_
    exact r_iret C hr dX4_next_18 ⟨rfl, rfl⟩ (Nat.le_of_ble_eq_true rfl) (Nat.le_of_ble_eq_true rfl)
set_option maxRecDepth 100000 in
set_option maxHeartbeats 4000000 in
theorem D_next_noT {l : Launch} {D : va_G} {cy : Nat → ClassId} {X : (Nat → Prop) → State → Heap → Prop} {ba ra : Nat → Nat} {hf : Nat → Nat → Nat} {hq : Nat → Nat → Int32} {kn th : Int32} {sm : Int64} {Y : va_W} {f : Nat → Nat → Nat} {r : Nat → Nat → Int32} {k0 : Nat} (hX : EnvM X cy) (hC : CInv f) (hM : MR f r hf hq) (hk3 : k0 < 3) (h9 : f 9 k0 = 0) : Cd l D cy X yX4_next cX4_next 2 (some .int) (rmk 9 4 48 420) [.ref (ba 9), .int (nI k0)] (WM cy ba ra hf hq kn th sm ++ Y) (some (.int (nI 0))) (WM cy ba ra hf hq kn (nI 2) sm ++ Y) := by
  have hG := hM.1
  have h5M := hM.h5M hC
  have h4M := hC.h4M
  have h9a := hM.h9a hC
  have h6a := hM.h6a
  have hU := hM.hU hC
  have qu := hM.cu hC hk3
  refine Cm.of [some (.ref (ba 9)), some (.int (nI k0))] pn_X4 rfl (Nat.le_of_ble_eq_true rfl) ?_
  intro p e s m args below meth c A C hE hr hnt hn
  refine r_aload_n C dX4_next_0 rfl ?_
  refine r_iload_n C dX4_next_1 rfl ?_
  refine d_S (st := [.ref (ba 9)]) hX.1.stb C hE (D_isNoCursor0 (ba := ba) (ra := ra) (hf := hf) (hq := hq) (kn := kn) (th := th) (sm := sm) (Y := Y) (i := k0) hX (by first | omega | (simp [up2, *]; done) | (simp [up2, *]; omega) | (simp only [up2_eq]; omega) | (split <;> omega))) pk_X4_isNoCursor qm_X4_193 rfl rfl (Nat.le_of_ble_eq_true rfl) dX4_next_2 ⟨(Nat.le_of_ble_eq_true rfl), (Nat.le_of_ble_eq_true rfl)⟩ ⟨(Nat.le_of_ble_eq_true rfl), (Nat.le_of_ble_eq_true rfl)⟩ ?_
  refine r_w (w' := WM cy ba ra hf hq kn th sm ++ Y) rfl ?_
  refine r_aload_n C dX4_next_5 rfl ?_
  refine r_iload_n C dX4_next_6 rfl ?_
  refine d_V (st := [.int (nI 0), .ref (ba 9)]) hX.1.stb C hE (D_isShut1 (ba := ba) (ra := ra) (hf := hf) (hq := hq) (kn := kn) (th := th) (sm := sm) (Y := Y) (k0 := k0) hX (by first | omega | (simp [up2, *]; done) | (simp [up2, *]; omega) | (simp only [up2_eq]; omega) | (split <;> omega)) (by first | omega | (simp [up2, *]; done) | (simp [up2, *]; omega) | (simp only [up2_eq]; omega) | (split <;> omega))) pk_X4_isShut qm_X4_196 0 8 rfl rfl wm_0 rfl rfl (Nat.le_of_ble_eq_true rfl) dX4_next_7 ⟨(Nat.le_of_ble_eq_true rfl), (Nat.le_of_ble_eq_true rfl)⟩ ⟨(Nat.le_of_ble_eq_true rfl), (Nat.le_of_ble_eq_true rfl)⟩ ?_
  refine r_w (w' := WM cy ba ra hf hq kn th sm ++ Y) rfl ?_
  refine r_iconst (v := (nI 0)) C dX4_next_10 (by decide) ?_
  refine d_V (st := []) hX.1.stb C hE (D_fails2 (ba := ba) (ra := ra) (hf := hf) (hq := hq) (kn := kn) (th := th) (sm := sm) (Y := Y) (d0 := 0) hX ) pk_X4_fails qm_X4_84 0 8 rfl rfl wm_0 rfl rfl (Nat.le_of_ble_eq_true rfl) dX4_next_11 ⟨(Nat.le_of_ble_eq_true rfl), (Nat.le_of_ble_eq_true rfl)⟩ ⟨(Nat.le_of_ble_eq_true rfl), (Nat.le_of_ble_eq_true rfl)⟩ ?_
  refine r_w (w' := WM cy ba ra hf hq kn (nI 2) sm ++ Y) rfl ?_
  refine r_ifN_eq (a := 1) (tgt := 19) C (by first | omega | (simp [up2, *]; done) | (simp [up2, *]; omega) | (simp only [up2_eq]; omega) | (split <;> omega)) dX4_next_14 (by decide) (fun h14_1 => ?_) (fun h14_1 => ?_)
  · exact absurd h14_1 (by first | omega | (simp [up2, *]; done) | (simp [up2, *]; omega) | (simp only [up2_eq]; omega) | (split <;> omega))
  · skip
    refine r_iconst (v := (nI 0)) C dX4_next_17 (by decide) ?_
    exact r_iret C hr dX4_next_18 ⟨rfl, rfl⟩ (Nat.le_of_ble_eq_true rfl) (Nat.le_of_ble_eq_true rfl)
theorem dX4_previous_0 : decode cX4_previous 0 = .ok (.aload_n 0, 1) := dqo_42 (kb_X4_previous_0 0 rfl)
theorem dX4_previous_1 : decode cX4_previous 1 = .ok (.iload_n 1, 1) := dqo_27 (kb_X4_previous_0 1 rfl)
theorem dX4_previous_2 : decode cX4_previous 2 = .ok (.invokestatic 193, 3) := dqo_184 0 193 (kb_X4_previous_0 2 rfl) (kb_X4_previous_0 3 rfl) (kb_X4_previous_0 4 rfl)
theorem dX4_previous_5 : decode cX4_previous 5 = .ok (.aload_n 0, 1) := dqo_42 (kb_X4_previous_0 5 rfl)
theorem dX4_previous_6 : decode cX4_previous 6 = .ok (.iload_n 1, 1) := dqo_27 (kb_X4_previous_0 6 rfl)
theorem dX4_previous_7 : decode cX4_previous 7 = .ok (.invokevirtual 196, 3) := dqo_182 0 196 (kb_X4_previous_0 7 rfl) (kb_X4_previous_0 8 rfl) (kb_X4_previous_0 9 rfl)
theorem dX4_previous_10 : decode cX4_previous 10 = .ok (.iconst 0, 1) := dqo_3 (kb_X4_previous_0 10 rfl)
theorem dX4_previous_11 : decode cX4_previous 11 = .ok (.invokevirtual 84, 3) := dqo_182 0 84 (kb_X4_previous_0 11 rfl) (kb_X4_previous_0 12 rfl) (kb_X4_previous_0 13 rfl)
theorem dX4_previous_14 : decode cX4_previous 14 = .ok (.ifCond .eq 5, 3) := dqo_153 0 5 (by decide) (kb_X4_previous_0 14 rfl) (kb_X4_previous_0 15 rfl) (kb_X4_previous_0 16 rfl)
theorem dX4_previous_17 : decode cX4_previous 17 = .ok (.iconst 0, 1) := dqo_3 (kb_X4_previous_0 17 rfl)
theorem dX4_previous_18 : decode cX4_previous 18 = .ok (.ireturn, 1) := dqo_172 (kb_X4_previous_0 18 rfl)
set_option maxRecDepth 100000 in
set_option maxHeartbeats 4000000 in
theorem D_previous_noC {l : Launch} {D : va_G} {cy : Nat → ClassId} {X : (Nat → Prop) → State → Heap → Prop} {ba ra : Nat → Nat} {hf : Nat → Nat → Nat} {hq : Nat → Nat → Int32} {kn th : Int32} {sm : Int64} {Y : va_W} {f : Nat → Nat → Nat} {r : Nat → Nat → Int32} {x : Int32} (hX : EnvM X cy) (hC : CInv f) (hM : MR f r hf hq) (hno : ¬ (0 ≤ x ∧ x < nI 3)) : Cd l D cy X yX4_previous cX4_previous 2 (some .int) (rmk 9 4 48 420) [.ref (ba 9), .int x] (WM cy ba ra hf hq kn th sm ++ Y) (some (.int (nI 0))) (WM cy ba ra hf hq kn (nI 1) sm ++ Y) := by
  have hG := hM.1
  have h5M := hM.h5M hC
  have h4M := hC.h4M
  have h9a := hM.h9a hC
  have h6a := hM.h6a
  have hU := hM.hU hC
  refine Cm.of [some (.ref (ba 9)), some (.int x)] pn_X4 rfl (Nat.le_of_ble_eq_true rfl) ?_
  intro p e s m args below meth c A C hE hr hnt hn
  refine r_aload_n C dX4_previous_0 rfl ?_
  refine r_iload_n C dX4_previous_1 rfl ?_
  refine d_S (st := [.ref (ba 9)]) hX.1.stb C hE (D_isNoCursor1 (ba := ba) (ra := ra) (hf := hf) (hq := hq) (kn := kn) (th := th) (sm := sm) (Y := Y) (x := (x)) hX hno) pk_X4_isNoCursor qm_X4_193 rfl rfl (Nat.le_of_ble_eq_true rfl) dX4_previous_2 ⟨(Nat.le_of_ble_eq_true rfl), (Nat.le_of_ble_eq_true rfl)⟩ ⟨(Nat.le_of_ble_eq_true rfl), (Nat.le_of_ble_eq_true rfl)⟩ ?_
  refine r_w (w' := WM cy ba ra hf hq kn th sm ++ Y) rfl ?_
  refine r_aload_n C dX4_previous_5 rfl ?_
  refine r_iload_n C dX4_previous_6 rfl ?_
  refine d_V (st := [.int (nI 1), .ref (ba 9)]) hX.1.stb C hE (D_isShutC (ba := ba) (ra := ra) (hf := hf) (hq := hq) (kn := kn) (th := th) (sm := sm) (Y := Y) (x := (x)) hX hno) pk_X4_isShut qm_X4_196 0 8 rfl rfl wm_0 rfl rfl (Nat.le_of_ble_eq_true rfl) dX4_previous_7 ⟨(Nat.le_of_ble_eq_true rfl), (Nat.le_of_ble_eq_true rfl)⟩ ⟨(Nat.le_of_ble_eq_true rfl), (Nat.le_of_ble_eq_true rfl)⟩ ?_
  refine r_w (w' := WM cy ba ra hf hq kn th sm ++ Y) rfl ?_
  refine r_iconst (v := (nI 0)) C dX4_previous_10 (by decide) ?_
  refine d_V (st := []) hX.1.stb C hE (D_fails1 (ba := ba) (ra := ra) (hf := hf) (hq := hq) (kn := kn) (th := th) (sm := sm) (Y := Y) (b0 := 0) (d0 := 0) hX ) pk_X4_fails qm_X4_84 0 8 rfl rfl wm_0 rfl rfl (Nat.le_of_ble_eq_true rfl) dX4_previous_11 ⟨(Nat.le_of_ble_eq_true rfl), (Nat.le_of_ble_eq_true rfl)⟩ ⟨(Nat.le_of_ble_eq_true rfl), (Nat.le_of_ble_eq_true rfl)⟩ ?_
  refine r_w (w' := WM cy ba ra hf hq kn (nI 1) sm ++ Y) rfl ?_
  refine r_ifN_eq (a := 1) (tgt := 19) C (by first | omega | (simp [up2, *]; done) | (simp [up2, *]; omega) | (simp only [up2_eq]; omega) | (split <;> omega)) dX4_previous_14 (by decide) (fun h14_1 => ?_) (fun h14_1 => ?_)
  · exact absurd h14_1 (by first | omega | (simp [up2, *]; done) | (simp [up2, *]; omega) | (simp only [up2_eq]; omega) | (split <;> omega))
  · skip
    refine r_iconst (v := (nI 0)) C dX4_previous_17 (by decide) ?_
    exact r_iret C hr dX4_previous_18 ⟨rfl, rfl⟩ (Nat.le_of_ble_eq_true rfl) (Nat.le_of_ble_eq_true rfl)
set_option maxRecDepth 100000 in
set_option maxHeartbeats 4000000 in
theorem D_previous_noT {l : Launch} {D : va_G} {cy : Nat → ClassId} {X : (Nat → Prop) → State → Heap → Prop} {ba ra : Nat → Nat} {hf : Nat → Nat → Nat} {hq : Nat → Nat → Int32} {kn th : Int32} {sm : Int64} {Y : va_W} {f : Nat → Nat → Nat} {r : Nat → Nat → Int32} {k0 : Nat} (hX : EnvM X cy) (hC : CInv f) (hM : MR f r hf hq) (hk3 : k0 < 3) (h9 : f 9 k0 = 0) : Cd l D cy X yX4_previous cX4_previous 2 (some .int) (rmk 9 4 48 420) [.ref (ba 9), .int (nI k0)] (WM cy ba ra hf hq kn th sm ++ Y) (some (.int (nI 0))) (WM cy ba ra hf hq kn (nI 2) sm ++ Y) := by
  have hG := hM.1
  have h5M := hM.h5M hC
  have h4M := hC.h4M
  have h9a := hM.h9a hC
  have h6a := hM.h6a
  have hU := hM.hU hC
  have qu := hM.cu hC hk3
  refine Cm.of [some (.ref (ba 9)), some (.int (nI k0))] pn_X4 rfl (Nat.le_of_ble_eq_true rfl) ?_
  intro p e s m args below meth c A C hE hr hnt hn
  refine r_aload_n C dX4_previous_0 rfl ?_
  refine r_iload_n C dX4_previous_1 rfl ?_
  refine d_S (st := [.ref (ba 9)]) hX.1.stb C hE (D_isNoCursor0 (ba := ba) (ra := ra) (hf := hf) (hq := hq) (kn := kn) (th := th) (sm := sm) (Y := Y) (i := k0) hX (by first | omega | (simp [up2, *]; done) | (simp [up2, *]; omega) | (simp only [up2_eq]; omega) | (split <;> omega))) pk_X4_isNoCursor qm_X4_193 rfl rfl (Nat.le_of_ble_eq_true rfl) dX4_previous_2 ⟨(Nat.le_of_ble_eq_true rfl), (Nat.le_of_ble_eq_true rfl)⟩ ⟨(Nat.le_of_ble_eq_true rfl), (Nat.le_of_ble_eq_true rfl)⟩ ?_
  refine r_w (w' := WM cy ba ra hf hq kn th sm ++ Y) rfl ?_
  refine r_aload_n C dX4_previous_5 rfl ?_
  refine r_iload_n C dX4_previous_6 rfl ?_
  refine d_V (st := [.int (nI 0), .ref (ba 9)]) hX.1.stb C hE (D_isShut1 (ba := ba) (ra := ra) (hf := hf) (hq := hq) (kn := kn) (th := th) (sm := sm) (Y := Y) (k0 := k0) hX (by first | omega | (simp [up2, *]; done) | (simp [up2, *]; omega) | (simp only [up2_eq]; omega) | (split <;> omega)) (by first | omega | (simp [up2, *]; done) | (simp [up2, *]; omega) | (simp only [up2_eq]; omega) | (split <;> omega))) pk_X4_isShut qm_X4_196 0 8 rfl rfl wm_0 rfl rfl (Nat.le_of_ble_eq_true rfl) dX4_previous_7 ⟨(Nat.le_of_ble_eq_true rfl), (Nat.le_of_ble_eq_true rfl)⟩ ⟨(Nat.le_of_ble_eq_true rfl), (Nat.le_of_ble_eq_true rfl)⟩ ?_
  refine r_w (w' := WM cy ba ra hf hq kn th sm ++ Y) rfl ?_
  refine r_iconst (v := (nI 0)) C dX4_previous_10 (by decide) ?_
  refine d_V (st := []) hX.1.stb C hE (D_fails2 (ba := ba) (ra := ra) (hf := hf) (hq := hq) (kn := kn) (th := th) (sm := sm) (Y := Y) (d0 := 0) hX ) pk_X4_fails qm_X4_84 0 8 rfl rfl wm_0 rfl rfl (Nat.le_of_ble_eq_true rfl) dX4_previous_11 ⟨(Nat.le_of_ble_eq_true rfl), (Nat.le_of_ble_eq_true rfl)⟩ ⟨(Nat.le_of_ble_eq_true rfl), (Nat.le_of_ble_eq_true rfl)⟩ ?_
  refine r_w (w' := WM cy ba ra hf hq kn (nI 2) sm ++ Y) rfl ?_
  refine r_ifN_eq (a := 1) (tgt := 19) C (by first | omega | (simp [up2, *]; done) | (simp [up2, *]; omega) | (simp only [up2_eq]; omega) | (split <;> omega)) dX4_previous_14 (by decide) (fun h14_1 => ?_) (fun h14_1 => ?_)
  · exact absurd h14_1 (by first | omega | (simp [up2, *]; done) | (simp [up2, *]; omega) | (simp only [up2_eq]; omega) | (split <;> omega))
  · skip
    refine r_iconst (v := (nI 0)) C dX4_previous_17 (by decide) ?_
    exact r_iret C hr dX4_previous_18 ⟨rfl, rfl⟩ (Nat.le_of_ble_eq_true rfl) (Nat.le_of_ble_eq_true rfl)
theorem dX4_take_0 : decode cX4_take 0 = .ok (.aload_n 0, 1) := dqo_42 (kb_X4_take_0 0 rfl)
theorem dX4_take_1 : decode cX4_take 1 = .ok (.iload_n 1, 1) := dqo_27 (kb_X4_take_0 1 rfl)
theorem dX4_take_2 : decode cX4_take 2 = .ok (.invokestatic 193, 3) := dqo_184 0 193 (kb_X4_take_0 2 rfl) (kb_X4_take_0 3 rfl) (kb_X4_take_0 4 rfl)
theorem dX4_take_5 : decode cX4_take 5 = .ok (.aload_n 0, 1) := dqo_42 (kb_X4_take_0 5 rfl)
theorem dX4_take_6 : decode cX4_take 6 = .ok (.iload_n 1, 1) := dqo_27 (kb_X4_take_0 6 rfl)
theorem dX4_take_7 : decode cX4_take 7 = .ok (.invokevirtual 196, 3) := dqo_182 0 196 (kb_X4_take_0 7 rfl) (kb_X4_take_0 8 rfl) (kb_X4_take_0 9 rfl)
theorem dX4_take_10 : decode cX4_take 10 = .ok (.iconst 0, 1) := dqo_3 (kb_X4_take_0 10 rfl)
theorem dX4_take_11 : decode cX4_take 11 = .ok (.invokevirtual 84, 3) := dqo_182 0 84 (kb_X4_take_0 11 rfl) (kb_X4_take_0 12 rfl) (kb_X4_take_0 13 rfl)
theorem dX4_take_14 : decode cX4_take 14 = .ok (.ifCond .eq 5, 3) := dqo_153 0 5 (by decide) (kb_X4_take_0 14 rfl) (kb_X4_take_0 15 rfl) (kb_X4_take_0 16 rfl)
theorem dX4_take_17 : decode cX4_take 17 = .ok (.iconst 0, 1) := dqo_3 (kb_X4_take_0 17 rfl)
theorem dX4_take_18 : decode cX4_take 18 = .ok (.ireturn, 1) := dqo_172 (kb_X4_take_0 18 rfl)
set_option maxRecDepth 100000 in
set_option maxHeartbeats 4000000 in
theorem D_take_noC {l : Launch} {D : va_G} {cy : Nat → ClassId} {X : (Nat → Prop) → State → Heap → Prop} {ba ra : Nat → Nat} {hf : Nat → Nat → Nat} {hq : Nat → Nat → Int32} {kn th : Int32} {sm : Int64} {Y : va_W} {f : Nat → Nat → Nat} {r : Nat → Nat → Int32} {x : Int32} (hX : EnvM X cy) (hC : CInv f) (hM : MR f r hf hq) (hno : ¬ (0 ≤ x ∧ x < nI 3)) : Cd l D cy X yX4_take cX4_take 2 (some .int) (rmk 9 4 48 420) [.ref (ba 9), .int x] (WM cy ba ra hf hq kn th sm ++ Y) (some (.int (nI 0))) (WM cy ba ra hf hq kn (nI 1) sm ++ Y) := by
  have hG := hM.1
  have h5M := hM.h5M hC
  have h4M := hC.h4M
  have h9a := hM.h9a hC
  have h6a := hM.h6a
  have hU := hM.hU hC
  refine Cm.of [some (.ref (ba 9)), some (.int x)] pn_X4 rfl (Nat.le_of_ble_eq_true rfl) ?_
  intro p e s m args below meth c A C hE hr hnt hn
  refine r_aload_n C dX4_take_0 rfl ?_
  refine r_iload_n C dX4_take_1 rfl ?_
  refine d_S (st := [.ref (ba 9)]) hX.1.stb C hE (D_isNoCursor1 (ba := ba) (ra := ra) (hf := hf) (hq := hq) (kn := kn) (th := th) (sm := sm) (Y := Y) (x := (x)) hX hno) pk_X4_isNoCursor qm_X4_193 rfl rfl (Nat.le_of_ble_eq_true rfl) dX4_take_2 ⟨(Nat.le_of_ble_eq_true rfl), (Nat.le_of_ble_eq_true rfl)⟩ ⟨(Nat.le_of_ble_eq_true rfl), (Nat.le_of_ble_eq_true rfl)⟩ ?_
  refine r_w (w' := WM cy ba ra hf hq kn th sm ++ Y) rfl ?_
  refine r_aload_n C dX4_take_5 rfl ?_
  refine r_iload_n C dX4_take_6 rfl ?_
  refine d_V (st := [.int (nI 1), .ref (ba 9)]) hX.1.stb C hE (D_isShutC (ba := ba) (ra := ra) (hf := hf) (hq := hq) (kn := kn) (th := th) (sm := sm) (Y := Y) (x := (x)) hX hno) pk_X4_isShut qm_X4_196 0 8 rfl rfl wm_0 rfl rfl (Nat.le_of_ble_eq_true rfl) dX4_take_7 ⟨(Nat.le_of_ble_eq_true rfl), (Nat.le_of_ble_eq_true rfl)⟩ ⟨(Nat.le_of_ble_eq_true rfl), (Nat.le_of_ble_eq_true rfl)⟩ ?_
  refine r_w (w' := WM cy ba ra hf hq kn th sm ++ Y) rfl ?_
  refine r_iconst (v := (nI 0)) C dX4_take_10 (by decide) ?_
  refine d_V (st := []) hX.1.stb C hE (D_fails1 (ba := ba) (ra := ra) (hf := hf) (hq := hq) (kn := kn) (th := th) (sm := sm) (Y := Y) (b0 := 0) (d0 := 0) hX ) pk_X4_fails qm_X4_84 0 8 rfl rfl wm_0 rfl rfl (Nat.le_of_ble_eq_true rfl) dX4_take_11 ⟨(Nat.le_of_ble_eq_true rfl), (Nat.le_of_ble_eq_true rfl)⟩ ⟨(Nat.le_of_ble_eq_true rfl), (Nat.le_of_ble_eq_true rfl)⟩ ?_
  refine r_w (w' := WM cy ba ra hf hq kn (nI 1) sm ++ Y) rfl ?_
  refine r_ifN_eq (a := 1) (tgt := 19) C (by first | omega | (simp [up2, *]; done) | (simp [up2, *]; omega) | (simp only [up2_eq]; omega) | (split <;> omega)) dX4_take_14 (by decide) (fun h14_1 => ?_) (fun h14_1 => ?_)
  · exact absurd h14_1 (by first | omega | (simp [up2, *]; done) | (simp [up2, *]; omega) | (simp only [up2_eq]; omega) | (split <;> omega))
  · skip
    refine r_iconst (v := (nI 0)) C dX4_take_17 (by decide) ?_
    exact r_iret C hr dX4_take_18 ⟨rfl, rfl⟩ (Nat.le_of_ble_eq_true rfl) (Nat.le_of_ble_eq_true rfl)
set_option maxRecDepth 100000 in
set_option maxHeartbeats 4000000 in
theorem D_take_noT {l : Launch} {D : va_G} {cy : Nat → ClassId} {X : (Nat → Prop) → State → Heap → Prop} {ba ra : Nat → Nat} {hf : Nat → Nat → Nat} {hq : Nat → Nat → Int32} {kn th : Int32} {sm : Int64} {Y : va_W} {f : Nat → Nat → Nat} {r : Nat → Nat → Int32} {k0 : Nat} (hX : EnvM X cy) (hC : CInv f) (hM : MR f r hf hq) (hk3 : k0 < 3) (h9 : f 9 k0 = 0) : Cd l D cy X yX4_take cX4_take 2 (some .int) (rmk 9 4 48 420) [.ref (ba 9), .int (nI k0)] (WM cy ba ra hf hq kn th sm ++ Y) (some (.int (nI 0))) (WM cy ba ra hf hq kn (nI 2) sm ++ Y) := by
  have hG := hM.1
  have h5M := hM.h5M hC
  have h4M := hC.h4M
  have h9a := hM.h9a hC
  have h6a := hM.h6a
  have hU := hM.hU hC
  have qu := hM.cu hC hk3
  refine Cm.of [some (.ref (ba 9)), some (.int (nI k0))] pn_X4 rfl (Nat.le_of_ble_eq_true rfl) ?_
  intro p e s m args below meth c A C hE hr hnt hn
  refine r_aload_n C dX4_take_0 rfl ?_
  refine r_iload_n C dX4_take_1 rfl ?_
  refine d_S (st := [.ref (ba 9)]) hX.1.stb C hE (D_isNoCursor0 (ba := ba) (ra := ra) (hf := hf) (hq := hq) (kn := kn) (th := th) (sm := sm) (Y := Y) (i := k0) hX (by first | omega | (simp [up2, *]; done) | (simp [up2, *]; omega) | (simp only [up2_eq]; omega) | (split <;> omega))) pk_X4_isNoCursor qm_X4_193 rfl rfl (Nat.le_of_ble_eq_true rfl) dX4_take_2 ⟨(Nat.le_of_ble_eq_true rfl), (Nat.le_of_ble_eq_true rfl)⟩ ⟨(Nat.le_of_ble_eq_true rfl), (Nat.le_of_ble_eq_true rfl)⟩ ?_
  refine r_w (w' := WM cy ba ra hf hq kn th sm ++ Y) rfl ?_
  refine r_aload_n C dX4_take_5 rfl ?_
  refine r_iload_n C dX4_take_6 rfl ?_
  refine d_V (st := [.int (nI 0), .ref (ba 9)]) hX.1.stb C hE (D_isShut1 (ba := ba) (ra := ra) (hf := hf) (hq := hq) (kn := kn) (th := th) (sm := sm) (Y := Y) (k0 := k0) hX (by first | omega | (simp [up2, *]; done) | (simp [up2, *]; omega) | (simp only [up2_eq]; omega) | (split <;> omega)) (by first | omega | (simp [up2, *]; done) | (simp [up2, *]; omega) | (simp only [up2_eq]; omega) | (split <;> omega))) pk_X4_isShut qm_X4_196 0 8 rfl rfl wm_0 rfl rfl (Nat.le_of_ble_eq_true rfl) dX4_take_7 ⟨(Nat.le_of_ble_eq_true rfl), (Nat.le_of_ble_eq_true rfl)⟩ ⟨(Nat.le_of_ble_eq_true rfl), (Nat.le_of_ble_eq_true rfl)⟩ ?_
  refine r_w (w' := WM cy ba ra hf hq kn th sm ++ Y) rfl ?_
  refine r_iconst (v := (nI 0)) C dX4_take_10 (by decide) ?_
  refine d_V (st := []) hX.1.stb C hE (D_fails2 (ba := ba) (ra := ra) (hf := hf) (hq := hq) (kn := kn) (th := th) (sm := sm) (Y := Y) (d0 := 0) hX ) pk_X4_fails qm_X4_84 0 8 rfl rfl wm_0 rfl rfl (Nat.le_of_ble_eq_true rfl) dX4_take_11 ⟨(Nat.le_of_ble_eq_true rfl), (Nat.le_of_ble_eq_true rfl)⟩ ⟨(Nat.le_of_ble_eq_true rfl), (Nat.le_of_ble_eq_true rfl)⟩ ?_
  refine r_w (w' := WM cy ba ra hf hq kn (nI 2) sm ++ Y) rfl ?_
  refine r_ifN_eq (a := 1) (tgt := 19) C (by first | omega | (simp [up2, *]; done) | (simp [up2, *]; omega) | (simp only [up2_eq]; omega) | (split <;> omega)) dX4_take_14 (by decide) (fun h14_1 => ?_) (fun h14_1 => ?_)
  · exact absurd h14_1 (by first | omega | (simp [up2, *]; done) | (simp [up2, *]; omega) | (simp only [up2_eq]; omega) | (split <;> omega))
  · skip
    refine r_iconst (v := (nI 0)) C dX4_take_17 (by decide) ?_
    exact r_iret C hr dX4_take_18 ⟨rfl, rfl⟩ (Nat.le_of_ble_eq_true rfl) (Nat.le_of_ble_eq_true rfl)
theorem dX4_next_19 : decode cX4_next 19 = .ok (.aload_n 0, 1) := dqo_42 (kb_X4_next_0 19 rfl)
theorem dX4_next_20 : decode cX4_next 20 = .ok (.getfield 38, 3) := dqo_180 0 38 (kb_X4_next_0 20 rfl) (kb_X4_next_0 21 rfl) (kb_X4_next_0 22 rfl)
theorem dX4_next_23 : decode cX4_next 23 = .ok (.iload_n 1, 1) := dqo_27 (kb_X4_next_0 23 rfl)
theorem dX4_next_24 : decode cX4_next 24 = .ok (.iaload, 1) := dqo_46 (kb_X4_next_0 24 rfl)
theorem dX4_next_25 : decode cX4_next 25 = .ok (.aload_n 0, 1) := dqo_42 (kb_X4_next_0 25 rfl)
theorem dX4_next_26 : decode cX4_next 26 = .ok (.aload_n 0, 1) := dqo_42 (kb_X4_next_0 26 rfl)
theorem dX4_next_27 : decode cX4_next 27 = .ok (.getfield 35, 3) := dqo_180 0 35 (kb_X4_next_0 27 rfl) (kb_X4_next_0 28 rfl) (kb_X4_next_0 29 rfl)
theorem dX4_next_30 : decode cX4_next 30 = .ok (.iload_n 1, 1) := dqo_27 (kb_X4_next_0 30 rfl)
theorem dX4_next_31 : decode cX4_next 31 = .ok (.iaload, 1) := dqo_46 (kb_X4_next_0 31 rfl)
theorem dX4_next_32 : decode cX4_next 32 = .ok (.invokevirtual 59, 3) := dqo_182 0 59 (kb_X4_next_0 32 rfl) (kb_X4_next_0 33 rfl) (kb_X4_next_0 34 rfl)
theorem dX4_next_35 : decode cX4_next 35 = .ok (.if_icmp .ne 6, 3) := dqo_160 0 6 (by decide) (kb_X4_next_0 35 rfl) (kb_X4_next_0 36 rfl) (kb_X4_next_0 37 rfl)
theorem dX4_next_38 : decode cX4_next 38 = .ok (.bipush 100, 2) := dqo_16 100 (by decide) (kb_X4_next_0 38 rfl) (kb_X4_next_0 39 rfl)
theorem dX4_next_40 : decode cX4_next 40 = .ok (.ireturn, 1) := dqo_172 (kb_X4_next_0 40 rfl)
set_option maxRecDepth 100000 in
set_option maxHeartbeats 4000000 in
theorem D_next_end {l : Launch} {D : va_G} {cy : Nat → ClassId} {X : (Nat → Prop) → State → Heap → Prop} {ba ra : Nat → Nat} {hf : Nat → Nat → Nat} {hq : Nat → Nat → Int32} {kn th : Int32} {sm : Int64} {Y : va_W} {f : Nat → Nat → Nat} {r : Nat → Nat → Int32} {k0 : Nat} (hX : EnvM X cy) (hC : CInv f) (hM : MR f r hf hq) (hk3 : k0 < 3) (h9 : f 9 k0 = 1) (hx : f 7 k0 = f 4 (f 6 k0)) : Cd l D cy X yX4_next cX4_next 2 (some .int) (rmk 9 4 48 420) [.ref (ba 9), .int (nI k0)] (WM cy ba ra hf hq kn th sm ++ Y) (some (.int (nI 100))) (WM cy ba ra hf hq kn (nI 0) sm ++ Y) := by
  have hG := hM.1
  have h5M := hM.h5M hC
  have h4M := hC.h4M
  have h9a := hM.h9a hC
  have h6a := hM.h6a
  have hU := hM.hU hC
  have qu := hM.cu hC hk3
  have qo := qu.2.2.2 h9
  have hou : hf 6 k0 < 8 := qu.2.2.1
  have h5u : f 5 (hf 6 k0) = 1 := by rw [qo.1]; exact qo.2.2.2.2.1
  have e6 : f 4 (hf 6 k0) = f 4 (f 6 k0) := by rw [qo.1]
  have wu := hM.wh hC hou h5u
  refine Cm.of [some (.ref (ba 9)), some (.int (nI k0))] pn_X4 rfl (Nat.le_of_ble_eq_true rfl) ?_
  intro p e s m args below meth c A C hE hr hnt hn
  refine r_aload_n C dX4_next_0 rfl ?_
  refine r_iload_n C dX4_next_1 rfl ?_
  refine d_S (st := [.ref (ba 9)]) hX.1.stb C hE (D_isNoCursor0 (ba := ba) (ra := ra) (hf := hf) (hq := hq) (kn := kn) (th := th) (sm := sm) (Y := Y) (i := k0) hX (by first | omega | (simp [up2, *]; done) | (simp [up2, *]; omega) | (simp only [up2_eq]; omega) | (split <;> omega))) pk_X4_isNoCursor qm_X4_193 rfl rfl (Nat.le_of_ble_eq_true rfl) dX4_next_2 ⟨(Nat.le_of_ble_eq_true rfl), (Nat.le_of_ble_eq_true rfl)⟩ ⟨(Nat.le_of_ble_eq_true rfl), (Nat.le_of_ble_eq_true rfl)⟩ ?_
  refine r_w (w' := WM cy ba ra hf hq kn th sm ++ Y) rfl ?_
  refine r_aload_n C dX4_next_5 rfl ?_
  refine r_iload_n C dX4_next_6 rfl ?_
  refine d_V (st := [.int (nI 0), .ref (ba 9)]) hX.1.stb C hE (D_isShut0 (ba := ba) (ra := ra) (hf := hf) (hq := hq) (kn := kn) (th := th) (sm := sm) (Y := Y) (k0 := k0) hX (by first | omega | (simp [up2, *]; done) | (simp [up2, *]; omega) | (simp only [up2_eq]; omega) | (split <;> omega)) (by first | omega | (simp [up2, *]; done) | (simp [up2, *]; omega) | (simp only [up2_eq]; omega) | (split <;> omega))) pk_X4_isShut qm_X4_196 0 8 rfl rfl wm_0 rfl rfl (Nat.le_of_ble_eq_true rfl) dX4_next_7 ⟨(Nat.le_of_ble_eq_true rfl), (Nat.le_of_ble_eq_true rfl)⟩ ⟨(Nat.le_of_ble_eq_true rfl), (Nat.le_of_ble_eq_true rfl)⟩ ?_
  refine r_w (w' := WM cy ba ra hf hq kn th sm ++ Y) rfl ?_
  refine r_iconst (v := (nI 0)) C dX4_next_10 (by decide) ?_
  refine d_V (st := []) hX.1.stb C hE (D_fails0 (ba := ba) (ra := ra) (hf := hf) (hq := hq) (kn := kn) (th := th) (sm := sm) (Y := Y)  hX ) pk_X4_fails qm_X4_84 0 8 rfl rfl wm_0 rfl rfl (Nat.le_of_ble_eq_true rfl) dX4_next_11 ⟨(Nat.le_of_ble_eq_true rfl), (Nat.le_of_ble_eq_true rfl)⟩ ⟨(Nat.le_of_ble_eq_true rfl), (Nat.le_of_ble_eq_true rfl)⟩ ?_
  refine r_w (w' := WM cy ba ra hf hq kn (nI 0) sm ++ Y) rfl ?_
  refine r_ifN_eq (a := 0) (tgt := 19) C (by first | omega | (simp [up2, *]; done) | (simp [up2, *]; omega) | (simp only [up2_eq]; omega) | (split <;> omega)) dX4_next_14 (by decide) (fun h14_1 => ?_) (fun h14_1 => ?_)
  · skip
    refine r_aload_n C dX4_next_19 rfl ?_
    refine m_get (v := .ref (ba 7)) C 7 (by decide) qf_X4_38 rfl rfl dX4_next_20 ?_
    refine r_iload_n C dX4_next_23 rfl ?_
    refine m_ald (i := k0) (z := k0) (v := hf 7 k0) C 6 (by decide) (by decide) (show k0 < 3 from (by first | omega | (simp [up2, *]; done) | (simp [up2, *]; omega) | (simp only [up2_eq]; omega) | (split <;> omega))) (show 0 + k0 = k0 from (by omega)) rfl dX4_next_24 ?_
    refine r_aload_n C dX4_next_25 rfl ?_
    refine r_aload_n C dX4_next_26 rfl ?_
    refine m_get (v := .ref (ba 6)) C 6 (by decide) qf_X4_35 rfl rfl dX4_next_27 ?_
    refine r_iload_n C dX4_next_30 rfl ?_
    refine m_ald (i := k0) (z := k0) (v := hf 6 k0) C 5 (by decide) (by decide) (show k0 < 3 from (by first | omega | (simp [up2, *]; done) | (simp [up2, *]; omega) | (simp only [up2_eq]; omega) | (split <;> omega))) (show 0 + k0 = k0 from (by omega)) rfl dX4_next_31 ?_
    refine d_V (st := [.int (nI (hf 7 k0))]) hX.1.stb C hE (D_sizeOf (ba := ba) (ra := ra) (hf := hf) (hq := hq) (kn := kn) (th := (nI 0)) (sm := sm) (Y := Y) (w := (hf 6 k0)) hX hou) pk_X4_sizeOf qm_X4_59 0 8 rfl rfl wm_0 rfl rfl (Nat.le_of_ble_eq_true rfl) dX4_next_32 ⟨(Nat.le_of_ble_eq_true rfl), (Nat.le_of_ble_eq_true rfl)⟩ ⟨(Nat.le_of_ble_eq_true rfl), (Nat.le_of_ble_eq_true rfl)⟩ ?_
    refine r_w (w' := WM cy ba ra hf hq kn (nI 0) sm ++ Y) rfl ?_
    refine r_icN_ne (a := (hf 7 k0)) (b := (hf 4 (hf 6 k0))) (tgt := 41) C (by first | omega | (simp [up2, *]; done) | (simp [up2, *]; omega) | (simp only [up2_eq]; omega) | (split <;> omega)) (by first | omega | (simp [up2, *]; done) | (simp [up2, *]; omega) | (simp only [up2_eq]; omega) | (split <;> omega)) dX4_next_35 (by decide) (fun h35_2 => ?_) (fun h35_2 => ?_)
    · exact absurd h35_2 (by first | omega | (simp [up2, *]; done) | (simp [up2, *]; omega) | (simp only [up2_eq]; omega) | (split <;> omega))
    · skip
      refine r_bipush (v := (nI 100)) C dX4_next_38 (by decide) ?_
      exact r_iret C hr dX4_next_40 ⟨rfl, rfl⟩ (Nat.le_of_ble_eq_true rfl) (Nat.le_of_ble_eq_true rfl)
  · exact absurd h14_1 (by first | omega | (simp [up2, *]; done) | (simp [up2, *]; omega) | (simp only [up2_eq]; omega) | (split <;> omega))
theorem dX4_next_41 : decode cX4_next 41 = .ok (.aload_n 0, 1) := dqo_42 (kb_X4_next_0 41 rfl)
theorem dX4_next_42 : decode cX4_next 42 = .ok (.getfield 41, 3) := dqo_180 0 41 (kb_X4_next_0 42 rfl) (kb_X4_next_0 43 rfl) (kb_X4_next_0 44 rfl)
theorem dX4_next_45 : decode cX4_next 45 = .ok (.iload_n 1, 1) := dqo_27 (kb_X4_next_0 45 rfl)
theorem dX4_next_46 : decode cX4_next 46 = .ok (.aload_n 0, 1) := dqo_42 (kb_X4_next_0 46 rfl)
theorem dX4_next_47 : decode cX4_next 47 = .ok (.getfield 38, 3) := dqo_180 0 38 (kb_X4_next_0 47 rfl) (kb_X4_next_0 48 rfl) (kb_X4_next_0 49 rfl)
theorem dX4_next_50 : decode cX4_next 50 = .ok (.iload_n 1, 1) := dqo_27 (kb_X4_next_0 50 rfl)
theorem dX4_next_51 : decode cX4_next 51 = .ok (.iaload, 1) := dqo_46 (kb_X4_next_0 51 rfl)
theorem dX4_next_52 : decode cX4_next 52 = .ok (.iastore, 1) := dqo_79 (kb_X4_next_0 52 rfl)
theorem dX4_next_53 : decode cX4_next 53 = .ok (.aload_n 0, 1) := dqo_42 (kb_X4_next_0 53 rfl)
theorem dX4_next_54 : decode cX4_next 54 = .ok (.getfield 38, 3) := dqo_180 0 38 (kb_X4_next_0 54 rfl) (kb_X4_next_0 55 rfl) (kb_X4_next_0 56 rfl)
theorem dX4_next_57 : decode cX4_next 57 = .ok (.iload_n 1, 1) := dqo_27 (kb_X4_next_0 57 rfl)
theorem dX4_next_58 : decode cX4_next 58 = .ok (.dup2, 1) := dqo_92 (kb_X4_next_0 58 rfl)
theorem dX4_next_59 : decode cX4_next 59 = .ok (.iaload, 1) := dqo_46 (kb_X4_next_0 59 rfl)
theorem dX4_next_60 : decode cX4_next 60 = .ok (.iconst 1, 1) := dqo_4 (kb_X4_next_0 60 rfl)
theorem dX4_next_61 : decode cX4_next 61 = .ok (.iadd, 1) := dqo_96 (kb_X4_next_0 61 rfl)
theorem dX4_next_62 : decode cX4_next 62 = .ok (.iastore, 1) := dqo_79 (kb_X4_next_0 62 rfl)
theorem dX4_next_63 : decode cX4_next 63 = .ok (.aload_n 0, 1) := dqo_42 (kb_X4_next_0 63 rfl)
theorem dX4_next_64 : decode cX4_next 64 = .ok (.aload_n 0, 1) := dqo_42 (kb_X4_next_1 0 rfl)
theorem dX4_next_65 : decode cX4_next 65 = .ok (.getfield 35, 3) := dqo_180 0 35 (kb_X4_next_1 1 rfl) (kb_X4_next_1 2 rfl) (kb_X4_next_1 3 rfl)
theorem dX4_next_68 : decode cX4_next 68 = .ok (.iload_n 1, 1) := dqo_27 (kb_X4_next_1 4 rfl)
theorem dX4_next_69 : decode cX4_next 69 = .ok (.iaload, 1) := dqo_46 (kb_X4_next_1 5 rfl)
theorem dX4_next_70 : decode cX4_next 70 = .ok (.aload_n 0, 1) := dqo_42 (kb_X4_next_1 6 rfl)
theorem dX4_next_71 : decode cX4_next 71 = .ok (.getfield 41, 3) := dqo_180 0 41 (kb_X4_next_1 7 rfl) (kb_X4_next_1 8 rfl) (kb_X4_next_1 9 rfl)
theorem dX4_next_74 : decode cX4_next 74 = .ok (.iload_n 1, 1) := dqo_27 (kb_X4_next_1 10 rfl)
theorem dX4_next_75 : decode cX4_next 75 = .ok (.iaload, 1) := dqo_46 (kb_X4_next_1 11 rfl)
theorem dX4_next_76 : decode cX4_next 76 = .ok (.invokevirtual 62, 3) := dqo_182 0 62 (kb_X4_next_1 12 rfl) (kb_X4_next_1 13 rfl) (kb_X4_next_1 14 rfl)
theorem dX4_next_79 : decode cX4_next 79 = .ok (.ireturn, 1) := dqo_172 (kb_X4_next_1 15 rfl)
set_option maxRecDepth 100000 in
set_option maxHeartbeats 4000000 in
theorem D_next_ok {l : Launch} {D : va_G} {cy : Nat → ClassId} {X : (Nat → Prop) → State → Heap → Prop} {ba ra : Nat → Nat} {hf : Nat → Nat → Nat} {hq : Nat → Nat → Int32} {kn th : Int32} {sm : Int64} {Y : va_W} {f : Nat → Nat → Nat} {r : Nat → Nat → Int32} {k0 : Nat} (hX : EnvM X cy) (hC : CInv f) (hM : MR f r hf hq) (hk3 : k0 < 3) (h9 : f 9 k0 = 1) (hx : f 7 k0 < f 4 (f 6 k0)) : Cd l D cy X yX4_next cX4_next 2 (some .int) (rmk 9 4 48 420) [.ref (ba 9), .int (nI k0)] (WM cy ba ra hf hq kn th sm ++ Y) (some (.int (hq (f 1 (hf 6 k0)) (f 3 (hf 6 k0) + (hf 7 k0))))) (WM cy ba ra (up2 (up2 hf 8 k0 (hf 7 k0)) 7 k0 ((hf 7 k0) + 1)) hq kn (nI 0) sm ++ Y) := by
  have hG := hM.1
  have h5M := hM.h5M hC
  have h4M := hC.h4M
  have h9a := hM.h9a hC
  have h6a := hM.h6a
  have hU := hM.hU hC
  have qu := hM.cu hC hk3
  have qo := qu.2.2.2 h9
  have hou : hf 6 k0 < 8 := qu.2.2.1
  have h5u : f 5 (hf 6 k0) = 1 := by rw [qo.1]; exact qo.2.2.2.2.1
  have e6 : f 4 (hf 6 k0) = f 4 (f 6 k0) := by rw [qo.1]
  have wu := hM.wh hC hou h5u
  refine Cm.of [some (.ref (ba 9)), some (.int (nI k0))] pn_X4 rfl (Nat.le_of_ble_eq_true rfl) ?_
  intro p e s m args below meth c A C hE hr hnt hn
  refine r_aload_n C dX4_next_0 rfl ?_
  refine r_iload_n C dX4_next_1 rfl ?_
  refine d_S (st := [.ref (ba 9)]) hX.1.stb C hE (D_isNoCursor0 (ba := ba) (ra := ra) (hf := hf) (hq := hq) (kn := kn) (th := th) (sm := sm) (Y := Y) (i := k0) hX (by first | omega | (simp [up2, *]; done) | (simp [up2, *]; omega) | (simp only [up2_eq]; omega) | (split <;> omega))) pk_X4_isNoCursor qm_X4_193 rfl rfl (Nat.le_of_ble_eq_true rfl) dX4_next_2 ⟨(Nat.le_of_ble_eq_true rfl), (Nat.le_of_ble_eq_true rfl)⟩ ⟨(Nat.le_of_ble_eq_true rfl), (Nat.le_of_ble_eq_true rfl)⟩ ?_
  refine r_w (w' := WM cy ba ra hf hq kn th sm ++ Y) rfl ?_
  refine r_aload_n C dX4_next_5 rfl ?_
  refine r_iload_n C dX4_next_6 rfl ?_
  refine d_V (st := [.int (nI 0), .ref (ba 9)]) hX.1.stb C hE (D_isShut0 (ba := ba) (ra := ra) (hf := hf) (hq := hq) (kn := kn) (th := th) (sm := sm) (Y := Y) (k0 := k0) hX (by first | omega | (simp [up2, *]; done) | (simp [up2, *]; omega) | (simp only [up2_eq]; omega) | (split <;> omega)) (by first | omega | (simp [up2, *]; done) | (simp [up2, *]; omega) | (simp only [up2_eq]; omega) | (split <;> omega))) pk_X4_isShut qm_X4_196 0 8 rfl rfl wm_0 rfl rfl (Nat.le_of_ble_eq_true rfl) dX4_next_7 ⟨(Nat.le_of_ble_eq_true rfl), (Nat.le_of_ble_eq_true rfl)⟩ ⟨(Nat.le_of_ble_eq_true rfl), (Nat.le_of_ble_eq_true rfl)⟩ ?_
  refine r_w (w' := WM cy ba ra hf hq kn th sm ++ Y) rfl ?_
  refine r_iconst (v := (nI 0)) C dX4_next_10 (by decide) ?_
  refine d_V (st := []) hX.1.stb C hE (D_fails0 (ba := ba) (ra := ra) (hf := hf) (hq := hq) (kn := kn) (th := th) (sm := sm) (Y := Y)  hX ) pk_X4_fails qm_X4_84 0 8 rfl rfl wm_0 rfl rfl (Nat.le_of_ble_eq_true rfl) dX4_next_11 ⟨(Nat.le_of_ble_eq_true rfl), (Nat.le_of_ble_eq_true rfl)⟩ ⟨(Nat.le_of_ble_eq_true rfl), (Nat.le_of_ble_eq_true rfl)⟩ ?_
  refine r_w (w' := WM cy ba ra hf hq kn (nI 0) sm ++ Y) rfl ?_
  refine r_ifN_eq (a := 0) (tgt := 19) C (by first | omega | (simp [up2, *]; done) | (simp [up2, *]; omega) | (simp only [up2_eq]; omega) | (split <;> omega)) dX4_next_14 (by decide) (fun h14_1 => ?_) (fun h14_1 => ?_)
  · skip
    refine r_aload_n C dX4_next_19 rfl ?_
    refine m_get (v := .ref (ba 7)) C 7 (by decide) qf_X4_38 rfl rfl dX4_next_20 ?_
    refine r_iload_n C dX4_next_23 rfl ?_
    refine m_ald (i := k0) (z := k0) (v := hf 7 k0) C 6 (by decide) (by decide) (show k0 < 3 from (by first | omega | (simp [up2, *]; done) | (simp [up2, *]; omega) | (simp only [up2_eq]; omega) | (split <;> omega))) (show 0 + k0 = k0 from (by omega)) rfl dX4_next_24 ?_
    refine r_aload_n C dX4_next_25 rfl ?_
    refine r_aload_n C dX4_next_26 rfl ?_
    refine m_get (v := .ref (ba 6)) C 6 (by decide) qf_X4_35 rfl rfl dX4_next_27 ?_
    refine r_iload_n C dX4_next_30 rfl ?_
    refine m_ald (i := k0) (z := k0) (v := hf 6 k0) C 5 (by decide) (by decide) (show k0 < 3 from (by first | omega | (simp [up2, *]; done) | (simp [up2, *]; omega) | (simp only [up2_eq]; omega) | (split <;> omega))) (show 0 + k0 = k0 from (by omega)) rfl dX4_next_31 ?_
    refine d_V (st := [.int (nI (hf 7 k0))]) hX.1.stb C hE (D_sizeOf (ba := ba) (ra := ra) (hf := hf) (hq := hq) (kn := kn) (th := (nI 0)) (sm := sm) (Y := Y) (w := (hf 6 k0)) hX hou) pk_X4_sizeOf qm_X4_59 0 8 rfl rfl wm_0 rfl rfl (Nat.le_of_ble_eq_true rfl) dX4_next_32 ⟨(Nat.le_of_ble_eq_true rfl), (Nat.le_of_ble_eq_true rfl)⟩ ⟨(Nat.le_of_ble_eq_true rfl), (Nat.le_of_ble_eq_true rfl)⟩ ?_
    refine r_w (w' := WM cy ba ra hf hq kn (nI 0) sm ++ Y) rfl ?_
    refine r_icN_ne (a := (hf 7 k0)) (b := (hf 4 (hf 6 k0))) (tgt := 41) C (by first | omega | (simp [up2, *]; done) | (simp [up2, *]; omega) | (simp only [up2_eq]; omega) | (split <;> omega)) (by first | omega | (simp [up2, *]; done) | (simp [up2, *]; omega) | (simp only [up2_eq]; omega) | (split <;> omega)) dX4_next_35 (by decide) (fun h35_2 => ?_) (fun h35_2 => ?_)
    · skip
      refine r_aload_n C dX4_next_41 rfl ?_
      refine m_get (v := .ref (ba 8)) C 8 (by decide) qf_X4_41 rfl rfl dX4_next_42 ?_
      refine r_iload_n C dX4_next_45 rfl ?_
      refine r_aload_n C dX4_next_46 rfl ?_
      refine m_get (v := .ref (ba 7)) C 7 (by decide) qf_X4_38 rfl rfl dX4_next_47 ?_
      refine r_iload_n C dX4_next_50 rfl ?_
      refine m_ald (i := k0) (z := k0) (v := hf 7 k0) C 6 (by decide) (by decide) (show k0 < 3 from (by first | omega | (simp [up2, *]; done) | (simp [up2, *]; omega) | (simp only [up2_eq]; omega) | (split <;> omega))) (show 0 + k0 = k0 from (by omega)) rfl dX4_next_51 ?_
      refine m_ast (i := k0) (z := k0) (v := hf 7 k0) C 7 (by decide) (by decide) (show k0 < 3 from (by first | omega | (simp [up2, *]; done) | (simp [up2, *]; omega) | (simp only [up2_eq]; omega) | (split <;> omega))) (show 0 + k0 = k0 from (by omega)) dX4_next_52 ?_
      refine r_w (w' := WM cy ba ra (up2 hf 8 k0 (hf 7 k0)) hq kn (nI 0) sm ++ Y) rfl ?_
      refine r_aload_n C dX4_next_53 rfl ?_
      refine m_get (v := .ref (ba 7)) C 7 (by decide) qf_X4_38 rfl rfl dX4_next_54 ?_
      refine r_iload_n C dX4_next_57 rfl ?_
      refine r_dup2 C dX4_next_58 rfl rfl ?_
      refine m_ald (i := k0) (z := k0) (v := hf 7 k0) C 6 (by decide) (by decide) (show k0 < 3 from (by first | omega | (simp [up2, *]; done) | (simp [up2, *]; omega) | (simp only [up2_eq]; omega) | (split <;> omega))) (show 0 + k0 = k0 from (by omega)) rfl dX4_next_59 ?_
      refine r_iconst (v := (nI 1)) C dX4_next_60 (by decide) ?_
      refine r_iaddN C dX4_next_61 ?_
      refine m_ast (i := k0) (z := k0) (v := (hf 7 k0) + 1) C 6 (by decide) (by decide) (show k0 < 3 from (by first | omega | (simp [up2, *]; done) | (simp [up2, *]; omega) | (simp only [up2_eq]; omega) | (split <;> omega))) (show 0 + k0 = k0 from (by omega)) dX4_next_62 ?_
      refine r_w (w' := WM cy ba ra (up2 (up2 hf 8 k0 (hf 7 k0)) 7 k0 ((hf 7 k0) + 1)) hq kn (nI 0) sm ++ Y) rfl ?_
      refine r_aload_n C dX4_next_63 rfl ?_
      refine r_aload_n C dX4_next_64 rfl ?_
      refine m_get (v := .ref (ba 6)) C 6 (by decide) qf_X4_35 rfl rfl dX4_next_65 ?_
      refine r_iload_n C dX4_next_68 rfl ?_
      refine m_ald (i := k0) (z := k0) (v := hf 6 k0) C 5 (by decide) (by decide) (show k0 < 3 from (by first | omega | (simp [up2, *]; done) | (simp [up2, *]; omega) | (simp only [up2_eq]; omega) | (split <;> omega))) (show 0 + k0 = k0 from (by omega)) rfl dX4_next_69 ?_
      refine r_aload_n C dX4_next_70 rfl ?_
      refine m_get (v := .ref (ba 8)) C 8 (by decide) qf_X4_41 rfl rfl dX4_next_71 ?_
      refine r_iload_n C dX4_next_74 rfl ?_
      refine m_ald (i := k0) (z := k0) (v := hf 7 k0) C 7 (by decide) (by decide) (show k0 < 3 from (by first | omega | (simp [up2, *]; done) | (simp [up2, *]; omega) | (simp only [up2_eq]; omega) | (split <;> omega))) (show 0 + k0 = k0 from (by omega)) (show (up2 hf 8 k0 (hf 7 k0)) 8 k0 = hf 7 k0 by simp [up2, *]) dX4_next_75 ?_
      refine d_V (st := []) hX.1.stb C hE (D_item (ba := ba) (ra := ra) (hf := (up2 (up2 hf 8 k0 (hf 7 k0)) 7 k0 ((hf 7 k0) + 1))) (hq := hq) (kn := kn) (th := (nI 0)) (sm := sm) (Y := Y) (f := f) (w := (hf 6 k0)) (k := (hf 7 k0)) hX hC (MG.same (fun _ => rfl) (fun _ => rfl) hG) hou h5u (show f 3 (hf 6 k0) + (hf 7 k0) < (hf 4 (f 1 (hf 6 k0))) from (by first | omega | (simp [up2, *]; done) | (simp [up2, *]; omega) | (simp only [up2_eq]; omega) | (split <;> omega))) (show (hf 4 (f 1 (hf 6 k0))) ≤ 12 from (by first | omega | (simp [up2, *]; done) | (simp [up2, *]; omega) | (simp only [up2_eq]; omega) | (split <;> omega)))) pk_X4_item qm_X4_62 0 8 rfl rfl wm_0 rfl rfl (Nat.le_of_ble_eq_true rfl) dX4_next_76 ⟨(Nat.le_of_ble_eq_true rfl), (Nat.le_of_ble_eq_true rfl)⟩ ⟨(Nat.le_of_ble_eq_true rfl), (Nat.le_of_ble_eq_true rfl)⟩ ?_
      refine r_w (w' := WM cy ba ra (up2 (up2 hf 8 k0 (hf 7 k0)) 7 k0 ((hf 7 k0) + 1)) hq kn (nI 0) sm ++ Y) rfl ?_
      exact r_iret C hr dX4_next_79 ⟨rfl, rfl⟩ (Nat.le_of_ble_eq_true rfl) (Nat.le_of_ble_eq_true rfl)
    · exact absurd h35_2 (by first | omega | (simp [up2, *]; done) | (simp [up2, *]; omega) | (simp only [up2_eq]; omega) | (split <;> omega))
  · exact absurd h14_1 (by first | omega | (simp [up2, *]; done) | (simp [up2, *]; omega) | (simp only [up2_eq]; omega) | (split <;> omega))
theorem dX4_previous_19 : decode cX4_previous 19 = .ok (.aload_n 0, 1) := dqo_42 (kb_X4_previous_0 19 rfl)
theorem dX4_previous_20 : decode cX4_previous 20 = .ok (.getfield 38, 3) := dqo_180 0 38 (kb_X4_previous_0 20 rfl) (kb_X4_previous_0 21 rfl) (kb_X4_previous_0 22 rfl)
theorem dX4_previous_23 : decode cX4_previous 23 = .ok (.iload_n 1, 1) := dqo_27 (kb_X4_previous_0 23 rfl)
theorem dX4_previous_24 : decode cX4_previous 24 = .ok (.iaload, 1) := dqo_46 (kb_X4_previous_0 24 rfl)
theorem dX4_previous_25 : decode cX4_previous 25 = .ok (.ifCond .ne 6, 3) := dqo_154 0 6 (by decide) (kb_X4_previous_0 25 rfl) (kb_X4_previous_0 26 rfl) (kb_X4_previous_0 27 rfl)
theorem dX4_previous_28 : decode cX4_previous 28 = .ok (.bipush 100, 2) := dqo_16 100 (by decide) (kb_X4_previous_0 28 rfl) (kb_X4_previous_0 29 rfl)
theorem dX4_previous_30 : decode cX4_previous 30 = .ok (.ireturn, 1) := dqo_172 (kb_X4_previous_0 30 rfl)
set_option maxRecDepth 100000 in
set_option maxHeartbeats 4000000 in
theorem D_previous_end {l : Launch} {D : va_G} {cy : Nat → ClassId} {X : (Nat → Prop) → State → Heap → Prop} {ba ra : Nat → Nat} {hf : Nat → Nat → Nat} {hq : Nat → Nat → Int32} {kn th : Int32} {sm : Int64} {Y : va_W} {f : Nat → Nat → Nat} {r : Nat → Nat → Int32} {k0 : Nat} (hX : EnvM X cy) (hC : CInv f) (hM : MR f r hf hq) (hk3 : k0 < 3) (h9 : f 9 k0 = 1) (hx : f 7 k0 = 0) : Cd l D cy X yX4_previous cX4_previous 2 (some .int) (rmk 9 4 48 420) [.ref (ba 9), .int (nI k0)] (WM cy ba ra hf hq kn th sm ++ Y) (some (.int (nI 100))) (WM cy ba ra hf hq kn (nI 0) sm ++ Y) := by
  have hG := hM.1
  have h5M := hM.h5M hC
  have h4M := hC.h4M
  have h9a := hM.h9a hC
  have h6a := hM.h6a
  have hU := hM.hU hC
  have qu := hM.cu hC hk3
  have qo := qu.2.2.2 h9
  have hou : hf 6 k0 < 8 := qu.2.2.1
  have h5u : f 5 (hf 6 k0) = 1 := by rw [qo.1]; exact qo.2.2.2.2.1
  have e6 : f 4 (hf 6 k0) = f 4 (f 6 k0) := by rw [qo.1]
  have wu := hM.wh hC hou h5u
  refine Cm.of [some (.ref (ba 9)), some (.int (nI k0))] pn_X4 rfl (Nat.le_of_ble_eq_true rfl) ?_
  intro p e s m args below meth c A C hE hr hnt hn
  refine r_aload_n C dX4_previous_0 rfl ?_
  refine r_iload_n C dX4_previous_1 rfl ?_
  refine d_S (st := [.ref (ba 9)]) hX.1.stb C hE (D_isNoCursor0 (ba := ba) (ra := ra) (hf := hf) (hq := hq) (kn := kn) (th := th) (sm := sm) (Y := Y) (i := k0) hX (by first | omega | (simp [up2, *]; done) | (simp [up2, *]; omega) | (simp only [up2_eq]; omega) | (split <;> omega))) pk_X4_isNoCursor qm_X4_193 rfl rfl (Nat.le_of_ble_eq_true rfl) dX4_previous_2 ⟨(Nat.le_of_ble_eq_true rfl), (Nat.le_of_ble_eq_true rfl)⟩ ⟨(Nat.le_of_ble_eq_true rfl), (Nat.le_of_ble_eq_true rfl)⟩ ?_
  refine r_w (w' := WM cy ba ra hf hq kn th sm ++ Y) rfl ?_
  refine r_aload_n C dX4_previous_5 rfl ?_
  refine r_iload_n C dX4_previous_6 rfl ?_
  refine d_V (st := [.int (nI 0), .ref (ba 9)]) hX.1.stb C hE (D_isShut0 (ba := ba) (ra := ra) (hf := hf) (hq := hq) (kn := kn) (th := th) (sm := sm) (Y := Y) (k0 := k0) hX (by first | omega | (simp [up2, *]; done) | (simp [up2, *]; omega) | (simp only [up2_eq]; omega) | (split <;> omega)) (by first | omega | (simp [up2, *]; done) | (simp [up2, *]; omega) | (simp only [up2_eq]; omega) | (split <;> omega))) pk_X4_isShut qm_X4_196 0 8 rfl rfl wm_0 rfl rfl (Nat.le_of_ble_eq_true rfl) dX4_previous_7 ⟨(Nat.le_of_ble_eq_true rfl), (Nat.le_of_ble_eq_true rfl)⟩ ⟨(Nat.le_of_ble_eq_true rfl), (Nat.le_of_ble_eq_true rfl)⟩ ?_
  refine r_w (w' := WM cy ba ra hf hq kn th sm ++ Y) rfl ?_
  refine r_iconst (v := (nI 0)) C dX4_previous_10 (by decide) ?_
  refine d_V (st := []) hX.1.stb C hE (D_fails0 (ba := ba) (ra := ra) (hf := hf) (hq := hq) (kn := kn) (th := th) (sm := sm) (Y := Y)  hX ) pk_X4_fails qm_X4_84 0 8 rfl rfl wm_0 rfl rfl (Nat.le_of_ble_eq_true rfl) dX4_previous_11 ⟨(Nat.le_of_ble_eq_true rfl), (Nat.le_of_ble_eq_true rfl)⟩ ⟨(Nat.le_of_ble_eq_true rfl), (Nat.le_of_ble_eq_true rfl)⟩ ?_
  refine r_w (w' := WM cy ba ra hf hq kn (nI 0) sm ++ Y) rfl ?_
  refine r_ifN_eq (a := 0) (tgt := 19) C (by first | omega | (simp [up2, *]; done) | (simp [up2, *]; omega) | (simp only [up2_eq]; omega) | (split <;> omega)) dX4_previous_14 (by decide) (fun h14_1 => ?_) (fun h14_1 => ?_)
  · skip
    refine r_aload_n C dX4_previous_19 rfl ?_
    refine m_get (v := .ref (ba 7)) C 7 (by decide) qf_X4_38 rfl rfl dX4_previous_20 ?_
    refine r_iload_n C dX4_previous_23 rfl ?_
    refine m_ald (i := k0) (z := k0) (v := hf 7 k0) C 6 (by decide) (by decide) (show k0 < 3 from (by first | omega | (simp [up2, *]; done) | (simp [up2, *]; omega) | (simp only [up2_eq]; omega) | (split <;> omega))) (show 0 + k0 = k0 from (by omega)) rfl dX4_previous_24 ?_
    refine r_ifN_ne (a := (hf 7 k0)) (tgt := 31) C (by first | omega | (simp [up2, *]; done) | (simp [up2, *]; omega) | (simp only [up2_eq]; omega) | (split <;> omega)) dX4_previous_25 (by decide) (fun h25_2 => ?_) (fun h25_2 => ?_)
    · exact absurd h25_2 (by first | omega | (simp [up2, *]; done) | (simp [up2, *]; omega) | (simp only [up2_eq]; omega) | (split <;> omega))
    · skip
      refine r_bipush (v := (nI 100)) C dX4_previous_28 (by decide) ?_
      exact r_iret C hr dX4_previous_30 ⟨rfl, rfl⟩ (Nat.le_of_ble_eq_true rfl) (Nat.le_of_ble_eq_true rfl)
  · exact absurd h14_1 (by first | omega | (simp [up2, *]; done) | (simp [up2, *]; omega) | (simp only [up2_eq]; omega) | (split <;> omega))
theorem dX4_previous_31 : decode cX4_previous 31 = .ok (.aload_n 0, 1) := dqo_42 (kb_X4_previous_0 31 rfl)
theorem dX4_previous_32 : decode cX4_previous 32 = .ok (.getfield 38, 3) := dqo_180 0 38 (kb_X4_previous_0 32 rfl) (kb_X4_previous_0 33 rfl) (kb_X4_previous_0 34 rfl)
theorem dX4_previous_35 : decode cX4_previous 35 = .ok (.iload_n 1, 1) := dqo_27 (kb_X4_previous_0 35 rfl)
theorem dX4_previous_36 : decode cX4_previous 36 = .ok (.dup2, 1) := dqo_92 (kb_X4_previous_0 36 rfl)
theorem dX4_previous_37 : decode cX4_previous 37 = .ok (.iaload, 1) := dqo_46 (kb_X4_previous_0 37 rfl)
theorem dX4_previous_38 : decode cX4_previous 38 = .ok (.iconst 1, 1) := dqo_4 (kb_X4_previous_0 38 rfl)
theorem dX4_previous_39 : decode cX4_previous 39 = .ok (.isub, 1) := dqo_100 (kb_X4_previous_0 39 rfl)
theorem dX4_previous_40 : decode cX4_previous 40 = .ok (.iastore, 1) := dqo_79 (kb_X4_previous_0 40 rfl)
theorem dX4_previous_41 : decode cX4_previous 41 = .ok (.aload_n 0, 1) := dqo_42 (kb_X4_previous_0 41 rfl)
theorem dX4_previous_42 : decode cX4_previous 42 = .ok (.getfield 41, 3) := dqo_180 0 41 (kb_X4_previous_0 42 rfl) (kb_X4_previous_0 43 rfl) (kb_X4_previous_0 44 rfl)
theorem dX4_previous_45 : decode cX4_previous 45 = .ok (.iload_n 1, 1) := dqo_27 (kb_X4_previous_0 45 rfl)
theorem dX4_previous_46 : decode cX4_previous 46 = .ok (.aload_n 0, 1) := dqo_42 (kb_X4_previous_0 46 rfl)
theorem dX4_previous_47 : decode cX4_previous 47 = .ok (.getfield 38, 3) := dqo_180 0 38 (kb_X4_previous_0 47 rfl) (kb_X4_previous_0 48 rfl) (kb_X4_previous_0 49 rfl)
theorem dX4_previous_50 : decode cX4_previous 50 = .ok (.iload_n 1, 1) := dqo_27 (kb_X4_previous_0 50 rfl)
theorem dX4_previous_51 : decode cX4_previous 51 = .ok (.iaload, 1) := dqo_46 (kb_X4_previous_0 51 rfl)
theorem dX4_previous_52 : decode cX4_previous 52 = .ok (.iastore, 1) := dqo_79 (kb_X4_previous_0 52 rfl)
theorem dX4_previous_53 : decode cX4_previous 53 = .ok (.aload_n 0, 1) := dqo_42 (kb_X4_previous_0 53 rfl)
theorem dX4_previous_54 : decode cX4_previous 54 = .ok (.aload_n 0, 1) := dqo_42 (kb_X4_previous_0 54 rfl)
theorem dX4_previous_55 : decode cX4_previous 55 = .ok (.getfield 35, 3) := dqo_180 0 35 (kb_X4_previous_0 55 rfl) (kb_X4_previous_0 56 rfl) (kb_X4_previous_0 57 rfl)
theorem dX4_previous_58 : decode cX4_previous 58 = .ok (.iload_n 1, 1) := dqo_27 (kb_X4_previous_0 58 rfl)
theorem dX4_previous_59 : decode cX4_previous 59 = .ok (.iaload, 1) := dqo_46 (kb_X4_previous_0 59 rfl)
theorem dX4_previous_60 : decode cX4_previous 60 = .ok (.aload_n 0, 1) := dqo_42 (kb_X4_previous_0 60 rfl)
theorem dX4_previous_61 : decode cX4_previous 61 = .ok (.getfield 41, 3) := dqo_180 0 41 (kb_X4_previous_0 61 rfl) (kb_X4_previous_0 62 rfl) (kb_X4_previous_0 63 rfl)
theorem dX4_previous_64 : decode cX4_previous 64 = .ok (.iload_n 1, 1) := dqo_27 (kb_X4_previous_1 0 rfl)
theorem dX4_previous_65 : decode cX4_previous 65 = .ok (.iaload, 1) := dqo_46 (kb_X4_previous_1 1 rfl)
theorem dX4_previous_66 : decode cX4_previous 66 = .ok (.invokevirtual 62, 3) := dqo_182 0 62 (kb_X4_previous_1 2 rfl) (kb_X4_previous_1 3 rfl) (kb_X4_previous_1 4 rfl)
theorem dX4_previous_69 : decode cX4_previous 69 = .ok (.ireturn, 1) := dqo_172 (kb_X4_previous_1 5 rfl)
set_option maxRecDepth 100000 in
set_option maxHeartbeats 4000000 in
theorem D_previous_ok {l : Launch} {D : va_G} {cy : Nat → ClassId} {X : (Nat → Prop) → State → Heap → Prop} {ba ra : Nat → Nat} {hf : Nat → Nat → Nat} {hq : Nat → Nat → Int32} {kn th : Int32} {sm : Int64} {Y : va_W} {f : Nat → Nat → Nat} {r : Nat → Nat → Int32} {k0 : Nat} (hX : EnvM X cy) (hC : CInv f) (hM : MR f r hf hq) (hk3 : k0 < 3) (h9 : f 9 k0 = 1) (hx : 0 < f 7 k0) : Cd l D cy X yX4_previous cX4_previous 2 (some .int) (rmk 9 4 48 420) [.ref (ba 9), .int (nI k0)] (WM cy ba ra hf hq kn th sm ++ Y) (some (.int (hq (f 1 (hf 6 k0)) (f 3 (hf 6 k0) + ((hf 7 k0) - 1))))) (WM cy ba ra (up2 (up2 hf 7 k0 ((hf 7 k0) - 1)) 8 k0 ((hf 7 k0) - 1)) hq kn (nI 0) sm ++ Y) := by
  have hG := hM.1
  have h5M := hM.h5M hC
  have h4M := hC.h4M
  have h9a := hM.h9a hC
  have h6a := hM.h6a
  have hU := hM.hU hC
  have qu := hM.cu hC hk3
  have qo := qu.2.2.2 h9
  have hou : hf 6 k0 < 8 := qu.2.2.1
  have h5u : f 5 (hf 6 k0) = 1 := by rw [qo.1]; exact qo.2.2.2.2.1
  have e6 : f 4 (hf 6 k0) = f 4 (f 6 k0) := by rw [qo.1]
  have wu := hM.wh hC hou h5u
  refine Cm.of [some (.ref (ba 9)), some (.int (nI k0))] pn_X4 rfl (Nat.le_of_ble_eq_true rfl) ?_
  intro p e s m args below meth c A C hE hr hnt hn
  refine r_aload_n C dX4_previous_0 rfl ?_
  refine r_iload_n C dX4_previous_1 rfl ?_
  refine d_S (st := [.ref (ba 9)]) hX.1.stb C hE (D_isNoCursor0 (ba := ba) (ra := ra) (hf := hf) (hq := hq) (kn := kn) (th := th) (sm := sm) (Y := Y) (i := k0) hX (by first | omega | (simp [up2, *]; done) | (simp [up2, *]; omega) | (simp only [up2_eq]; omega) | (split <;> omega))) pk_X4_isNoCursor qm_X4_193 rfl rfl (Nat.le_of_ble_eq_true rfl) dX4_previous_2 ⟨(Nat.le_of_ble_eq_true rfl), (Nat.le_of_ble_eq_true rfl)⟩ ⟨(Nat.le_of_ble_eq_true rfl), (Nat.le_of_ble_eq_true rfl)⟩ ?_
  refine r_w (w' := WM cy ba ra hf hq kn th sm ++ Y) rfl ?_
  refine r_aload_n C dX4_previous_5 rfl ?_
  refine r_iload_n C dX4_previous_6 rfl ?_
  refine d_V (st := [.int (nI 0), .ref (ba 9)]) hX.1.stb C hE (D_isShut0 (ba := ba) (ra := ra) (hf := hf) (hq := hq) (kn := kn) (th := th) (sm := sm) (Y := Y) (k0 := k0) hX (by first | omega | (simp [up2, *]; done) | (simp [up2, *]; omega) | (simp only [up2_eq]; omega) | (split <;> omega)) (by first | omega | (simp [up2, *]; done) | (simp [up2, *]; omega) | (simp only [up2_eq]; omega) | (split <;> omega))) pk_X4_isShut qm_X4_196 0 8 rfl rfl wm_0 rfl rfl (Nat.le_of_ble_eq_true rfl) dX4_previous_7 ⟨(Nat.le_of_ble_eq_true rfl), (Nat.le_of_ble_eq_true rfl)⟩ ⟨(Nat.le_of_ble_eq_true rfl), (Nat.le_of_ble_eq_true rfl)⟩ ?_
  refine r_w (w' := WM cy ba ra hf hq kn th sm ++ Y) rfl ?_
  refine r_iconst (v := (nI 0)) C dX4_previous_10 (by decide) ?_
  refine d_V (st := []) hX.1.stb C hE (D_fails0 (ba := ba) (ra := ra) (hf := hf) (hq := hq) (kn := kn) (th := th) (sm := sm) (Y := Y)  hX ) pk_X4_fails qm_X4_84 0 8 rfl rfl wm_0 rfl rfl (Nat.le_of_ble_eq_true rfl) dX4_previous_11 ⟨(Nat.le_of_ble_eq_true rfl), (Nat.le_of_ble_eq_true rfl)⟩ ⟨(Nat.le_of_ble_eq_true rfl), (Nat.le_of_ble_eq_true rfl)⟩ ?_
  refine r_w (w' := WM cy ba ra hf hq kn (nI 0) sm ++ Y) rfl ?_
  refine r_ifN_eq (a := 0) (tgt := 19) C (by first | omega | (simp [up2, *]; done) | (simp [up2, *]; omega) | (simp only [up2_eq]; omega) | (split <;> omega)) dX4_previous_14 (by decide) (fun h14_1 => ?_) (fun h14_1 => ?_)
  · skip
    refine r_aload_n C dX4_previous_19 rfl ?_
    refine m_get (v := .ref (ba 7)) C 7 (by decide) qf_X4_38 rfl rfl dX4_previous_20 ?_
    refine r_iload_n C dX4_previous_23 rfl ?_
    refine m_ald (i := k0) (z := k0) (v := hf 7 k0) C 6 (by decide) (by decide) (show k0 < 3 from (by first | omega | (simp [up2, *]; done) | (simp [up2, *]; omega) | (simp only [up2_eq]; omega) | (split <;> omega))) (show 0 + k0 = k0 from (by omega)) rfl dX4_previous_24 ?_
    refine r_ifN_ne (a := (hf 7 k0)) (tgt := 31) C (by first | omega | (simp [up2, *]; done) | (simp [up2, *]; omega) | (simp only [up2_eq]; omega) | (split <;> omega)) dX4_previous_25 (by decide) (fun h25_2 => ?_) (fun h25_2 => ?_)
    · skip
      refine r_aload_n C dX4_previous_31 rfl ?_
      refine m_get (v := .ref (ba 7)) C 7 (by decide) qf_X4_38 rfl rfl dX4_previous_32 ?_
      refine r_iload_n C dX4_previous_35 rfl ?_
      refine r_dup2 C dX4_previous_36 rfl rfl ?_
      refine m_ald (i := k0) (z := k0) (v := hf 7 k0) C 6 (by decide) (by decide) (show k0 < 3 from (by first | omega | (simp [up2, *]; done) | (simp [up2, *]; omega) | (simp only [up2_eq]; omega) | (split <;> omega))) (show 0 + k0 = k0 from (by omega)) rfl dX4_previous_37 ?_
      refine r_iconst (v := (nI 1)) C dX4_previous_38 (by decide) ?_
      refine r_isubN C dX4_previous_39 (by first | omega | (simp [up2, *]; done) | (simp [up2, *]; omega) | (simp only [up2_eq]; omega) | (split <;> omega)) ?_
      refine m_ast (i := k0) (z := k0) (v := (hf 7 k0) - 1) C 6 (by decide) (by decide) (show k0 < 3 from (by first | omega | (simp [up2, *]; done) | (simp [up2, *]; omega) | (simp only [up2_eq]; omega) | (split <;> omega))) (show 0 + k0 = k0 from (by omega)) dX4_previous_40 ?_
      refine r_w (w' := WM cy ba ra (up2 hf 7 k0 ((hf 7 k0) - 1)) hq kn (nI 0) sm ++ Y) rfl ?_
      refine r_aload_n C dX4_previous_41 rfl ?_
      refine m_get (v := .ref (ba 8)) C 8 (by decide) qf_X4_41 rfl rfl dX4_previous_42 ?_
      refine r_iload_n C dX4_previous_45 rfl ?_
      refine r_aload_n C dX4_previous_46 rfl ?_
      refine m_get (v := .ref (ba 7)) C 7 (by decide) qf_X4_38 rfl rfl dX4_previous_47 ?_
      refine r_iload_n C dX4_previous_50 rfl ?_
      refine m_ald (i := k0) (z := k0) (v := (hf 7 k0) - 1) C 6 (by decide) (by decide) (show k0 < 3 from (by first | omega | (simp [up2, *]; done) | (simp [up2, *]; omega) | (simp only [up2_eq]; omega) | (split <;> omega))) (show 0 + k0 = k0 from (by omega)) (show (up2 hf 7 k0 ((hf 7 k0) - 1)) 7 k0 = (hf 7 k0) - 1 by simp [up2, *]) dX4_previous_51 ?_
      refine m_ast (i := k0) (z := k0) (v := (hf 7 k0) - 1) C 7 (by decide) (by decide) (show k0 < 3 from (by first | omega | (simp [up2, *]; done) | (simp [up2, *]; omega) | (simp only [up2_eq]; omega) | (split <;> omega))) (show 0 + k0 = k0 from (by omega)) dX4_previous_52 ?_
      refine r_w (w' := WM cy ba ra (up2 (up2 hf 7 k0 ((hf 7 k0) - 1)) 8 k0 ((hf 7 k0) - 1)) hq kn (nI 0) sm ++ Y) rfl ?_
      refine r_aload_n C dX4_previous_53 rfl ?_
      refine r_aload_n C dX4_previous_54 rfl ?_
      refine m_get (v := .ref (ba 6)) C 6 (by decide) qf_X4_35 rfl rfl dX4_previous_55 ?_
      refine r_iload_n C dX4_previous_58 rfl ?_
      refine m_ald (i := k0) (z := k0) (v := hf 6 k0) C 5 (by decide) (by decide) (show k0 < 3 from (by first | omega | (simp [up2, *]; done) | (simp [up2, *]; omega) | (simp only [up2_eq]; omega) | (split <;> omega))) (show 0 + k0 = k0 from (by omega)) rfl dX4_previous_59 ?_
      refine r_aload_n C dX4_previous_60 rfl ?_
      refine m_get (v := .ref (ba 8)) C 8 (by decide) qf_X4_41 rfl rfl dX4_previous_61 ?_
      refine r_iload_n C dX4_previous_64 rfl ?_
      refine m_ald (i := k0) (z := k0) (v := (hf 7 k0) - 1) C 7 (by decide) (by decide) (show k0 < 3 from (by first | omega | (simp [up2, *]; done) | (simp [up2, *]; omega) | (simp only [up2_eq]; omega) | (split <;> omega))) (show 0 + k0 = k0 from (by omega)) (show (up2 (up2 hf 7 k0 ((hf 7 k0) - 1)) 8 k0 ((hf 7 k0) - 1)) 8 k0 = (hf 7 k0) - 1 by simp [up2, *]) dX4_previous_65 ?_
      refine d_V (st := []) hX.1.stb C hE (D_item (ba := ba) (ra := ra) (hf := (up2 (up2 hf 7 k0 ((hf 7 k0) - 1)) 8 k0 ((hf 7 k0) - 1))) (hq := hq) (kn := kn) (th := (nI 0)) (sm := sm) (Y := Y) (f := f) (w := (hf 6 k0)) (k := ((hf 7 k0) - 1)) hX hC (MG.same (fun _ => rfl) (fun _ => rfl) hG) hou h5u (show f 3 (hf 6 k0) + ((hf 7 k0) - 1) < (hf 4 (f 1 (hf 6 k0))) from (by first | omega | (simp [up2, *]; done) | (simp [up2, *]; omega) | (simp only [up2_eq]; omega) | (split <;> omega))) (show (hf 4 (f 1 (hf 6 k0))) ≤ 12 from (by first | omega | (simp [up2, *]; done) | (simp [up2, *]; omega) | (simp only [up2_eq]; omega) | (split <;> omega)))) pk_X4_item qm_X4_62 0 8 rfl rfl wm_0 rfl rfl (Nat.le_of_ble_eq_true rfl) dX4_previous_66 ⟨(Nat.le_of_ble_eq_true rfl), (Nat.le_of_ble_eq_true rfl)⟩ ⟨(Nat.le_of_ble_eq_true rfl), (Nat.le_of_ble_eq_true rfl)⟩ ?_
      refine r_w (w' := WM cy ba ra (up2 (up2 hf 7 k0 ((hf 7 k0) - 1)) 8 k0 ((hf 7 k0) - 1)) hq kn (nI 0) sm ++ Y) rfl ?_
      exact r_iret C hr dX4_previous_69 ⟨rfl, rfl⟩ (Nat.le_of_ble_eq_true rfl) (Nat.le_of_ble_eq_true rfl)
    · exact absurd h25_2 (by first | omega | (simp [up2, *]; done) | (simp [up2, *]; omega) | (simp only [up2_eq]; omega) | (split <;> omega))
  · exact absurd h14_1 (by first | omega | (simp [up2, *]; done) | (simp [up2, *]; omega) | (simp only [up2_eq]; omega) | (split <;> omega))
theorem dX4_put__0 : decode cX4_put_ 0 = .ok (.aload_n 0, 1) := dqo_42 (kb_X4_put__0 0 rfl)
theorem dX4_put__1 : decode cX4_put_ 1 = .ok (.iload_n 1, 1) := dqo_27 (kb_X4_put__0 1 rfl)
theorem dX4_put__2 : decode cX4_put_ 2 = .ok (.invokestatic 193, 3) := dqo_184 0 193 (kb_X4_put__0 2 rfl) (kb_X4_put__0 3 rfl) (kb_X4_put__0 4 rfl)
theorem dX4_put__5 : decode cX4_put_ 5 = .ok (.iload_n 2, 1) := dqo_28 (kb_X4_put__0 5 rfl)
theorem dX4_put__6 : decode cX4_put_ 6 = .ok (.invokestatic 78, 3) := dqo_184 0 78 (kb_X4_put__0 6 rfl) (kb_X4_put__0 7 rfl) (kb_X4_put__0 8 rfl)
theorem dX4_put__9 : decode cX4_put_ 9 = .ok (.aload_n 0, 1) := dqo_42 (kb_X4_put__0 9 rfl)
theorem dX4_put__10 : decode cX4_put_ 10 = .ok (.iload_n 1, 1) := dqo_27 (kb_X4_put__0 10 rfl)
theorem dX4_put__11 : decode cX4_put_ 11 = .ok (.invokevirtual 196, 3) := dqo_182 0 196 (kb_X4_put__0 11 rfl) (kb_X4_put__0 12 rfl) (kb_X4_put__0 13 rfl)
theorem dX4_put__14 : decode cX4_put_ 14 = .ok (.ifCond .ne 23, 3) := dqo_154 0 23 (by decide) (kb_X4_put__0 14 rfl) (kb_X4_put__0 15 rfl) (kb_X4_put__0 16 rfl)
theorem dX4_put__17 : decode cX4_put_ 17 = .ok (.iload_n 1, 1) := dqo_27 (kb_X4_put__0 17 rfl)
theorem dX4_put__18 : decode cX4_put_ 18 = .ok (.invokestatic 193, 3) := dqo_184 0 193 (kb_X4_put__0 18 rfl) (kb_X4_put__0 19 rfl) (kb_X4_put__0 20 rfl)
theorem dX4_put__21 : decode cX4_put_ 21 = .ok (.ifCond .ne 20, 3) := dqo_154 0 20 (by decide) (kb_X4_put__0 21 rfl) (kb_X4_put__0 22 rfl) (kb_X4_put__0 23 rfl)
theorem dX4_put__41 : decode cX4_put_ 41 = .ok (.iconst 0, 1) := dqo_3 (kb_X4_put__0 41 rfl)
theorem dX4_put__42 : decode cX4_put_ 42 = .ok (.invokevirtual 84, 3) := dqo_182 0 84 (kb_X4_put__0 42 rfl) (kb_X4_put__0 43 rfl) (kb_X4_put__0 44 rfl)
theorem dX4_put__45 : decode cX4_put_ 45 = .ok (.ifCond .eq 5, 3) := dqo_153 0 5 (by decide) (kb_X4_put__0 45 rfl) (kb_X4_put__0 46 rfl) (kb_X4_put__0 47 rfl)
theorem dX4_put__48 : decode cX4_put_ 48 = .ok (.iconst 0, 1) := dqo_3 (kb_X4_put__0 48 rfl)
theorem dX4_put__49 : decode cX4_put_ 49 = .ok (.ireturn, 1) := dqo_172 (kb_X4_put__0 49 rfl)
set_option maxRecDepth 100000 in
set_option maxHeartbeats 4000000 in
theorem D_put_noC {l : Launch} {D : va_G} {cy : Nat → ClassId} {X : (Nat → Prop) → State → Heap → Prop} {ba ra : Nat → Nat} {hf : Nat → Nat → Nat} {hq : Nat → Nat → Int32} {kn th : Int32} {sm : Int64} {Y : va_W} {f : Nat → Nat → Nat} {r : Nat → Nat → Int32} {x : Int32} {y : Int32} (hX : EnvM X cy) (hC : CInv f) (hM : MR f r hf hq) (hno : ¬ (0 ≤ x ∧ x < nI 3)) : Cd l D cy X yX4_put_ cX4_put_ 3 (some .int) (rmk 9 4 48 420) [.ref (ba 9), .int x, .int y] (WM cy ba ra hf hq kn th sm ++ Y) (some (.int (nI 0))) (WM cy ba ra hf hq kn (nI 1) sm ++ Y) := by
  have hG := hM.1
  have h5M := hM.h5M hC
  have h4M := hC.h4M
  have h9a := hM.h9a hC
  have h6a := hM.h6a
  have hU := hM.hU hC
  refine Cm.of [some (.ref (ba 9)), some (.int x), some (.int y)] pn_X4 rfl (Nat.le_of_ble_eq_true rfl) ?_
  intro p e s m args below meth c A C hE hr hnt hn
  refine r_aload_n C dX4_put__0 rfl ?_
  refine r_iload_n C dX4_put__1 rfl ?_
  refine d_S (st := [.ref (ba 9)]) hX.1.stb C hE (D_isNoCursor1 (ba := ba) (ra := ra) (hf := hf) (hq := hq) (kn := kn) (th := th) (sm := sm) (Y := Y) (x := (x)) hX hno) pk_X4_isNoCursor qm_X4_193 rfl rfl (Nat.le_of_ble_eq_true rfl) dX4_put__2 ⟨(Nat.le_of_ble_eq_true rfl), (Nat.le_of_ble_eq_true rfl)⟩ ⟨(Nat.le_of_ble_eq_true rfl), (Nat.le_of_ble_eq_true rfl)⟩ ?_
  refine r_w (w' := WM cy ba ra hf hq kn th sm ++ Y) rfl ?_
  refine r_iload_n C dX4_put__5 rfl ?_
  refine d_S (st := [.int (nI 1), .ref (ba 9)]) hX.1.stb C hE (D_isNoItemX (ba := ba) (ra := ra) (hf := hf) (hq := hq) (kn := kn) (th := th) (sm := sm) (Y := Y) (y := (y)) hX ) pk_X4_isNoItem qm_X4_78 rfl rfl (Nat.le_of_ble_eq_true rfl) dX4_put__6 ⟨(Nat.le_of_ble_eq_true rfl), (Nat.le_of_ble_eq_true rfl)⟩ ⟨(Nat.le_of_ble_eq_true rfl), (Nat.le_of_ble_eq_true rfl)⟩ ?_
  refine r_w (w' := WM cy ba ra hf hq kn th sm ++ Y) rfl ?_
  refine r_aload_n C dX4_put__9 rfl ?_
  refine r_iload_n C dX4_put__10 rfl ?_
  refine d_V (st := [.int (nI (niF (y))), .int (nI 1), .ref (ba 9)]) hX.1.stb C hE (D_isShutC (ba := ba) (ra := ra) (hf := hf) (hq := hq) (kn := kn) (th := th) (sm := sm) (Y := Y) (x := (x)) hX hno) pk_X4_isShut qm_X4_196 0 8 rfl rfl wm_0 rfl rfl (Nat.le_of_ble_eq_true rfl) dX4_put__11 ⟨(Nat.le_of_ble_eq_true rfl), (Nat.le_of_ble_eq_true rfl)⟩ ⟨(Nat.le_of_ble_eq_true rfl), (Nat.le_of_ble_eq_true rfl)⟩ ?_
  refine r_w (w' := WM cy ba ra hf hq kn th sm ++ Y) rfl ?_
  refine r_ifN_ne (a := 0) (tgt := 37) C (by first | omega | (simp [up2, *]; done) | (simp [up2, *]; omega) | (simp only [up2_eq]; omega) | (split <;> omega)) dX4_put__14 (by decide) (fun h14_1 => ?_) (fun h14_1 => ?_)
  · exact absurd h14_1 (by first | omega | (simp [up2, *]; done) | (simp [up2, *]; omega) | (simp only [up2_eq]; omega) | (split <;> omega))
  · skip
    refine r_iload_n C dX4_put__17 rfl ?_
    refine d_S (st := [.int (nI (niF (y))), .int (nI 1), .ref (ba 9)]) hX.1.stb C hE (D_isNoCursor1 (ba := ba) (ra := ra) (hf := hf) (hq := hq) (kn := kn) (th := th) (sm := sm) (Y := Y) (x := (x)) hX hno) pk_X4_isNoCursor qm_X4_193 rfl rfl (Nat.le_of_ble_eq_true rfl) dX4_put__18 ⟨(Nat.le_of_ble_eq_true rfl), (Nat.le_of_ble_eq_true rfl)⟩ ⟨(Nat.le_of_ble_eq_true rfl), (Nat.le_of_ble_eq_true rfl)⟩ ?_
    refine r_w (w' := WM cy ba ra hf hq kn th sm ++ Y) rfl ?_
    refine r_ifN_ne (a := 1) (tgt := 41) C (by first | omega | (simp [up2, *]; done) | (simp [up2, *]; omega) | (simp only [up2_eq]; omega) | (split <;> omega)) dX4_put__21 (by decide) (fun h21_2 => ?_) (fun h21_2 => ?_)
    · skip
      refine r_iconst (v := (nI 0)) C dX4_put__41 (by decide) ?_
      refine d_V (st := []) hX.1.stb C hE (D_fails1 (ba := ba) (ra := ra) (hf := hf) (hq := hq) (kn := kn) (th := th) (sm := sm) (Y := Y) (b0 := (niF (y))) (d0 := 0) hX ) pk_X4_fails qm_X4_84 0 8 rfl rfl wm_0 rfl rfl (Nat.le_of_ble_eq_true rfl) dX4_put__42 ⟨(Nat.le_of_ble_eq_true rfl), (Nat.le_of_ble_eq_true rfl)⟩ ⟨(Nat.le_of_ble_eq_true rfl), (Nat.le_of_ble_eq_true rfl)⟩ ?_
      refine r_w (w' := WM cy ba ra hf hq kn (nI 1) sm ++ Y) rfl ?_
      refine r_ifN_eq (a := 1) (tgt := 50) C (by first | omega | (simp [up2, *]; done) | (simp [up2, *]; omega) | (simp only [up2_eq]; omega) | (split <;> omega)) dX4_put__45 (by decide) (fun h45_3 => ?_) (fun h45_3 => ?_)
      · exact absurd h45_3 (by first | omega | (simp [up2, *]; done) | (simp [up2, *]; omega) | (simp only [up2_eq]; omega) | (split <;> omega))
      · skip
        refine r_iconst (v := (nI 0)) C dX4_put__48 (by decide) ?_
        exact r_iret C hr dX4_put__49 ⟨rfl, rfl⟩ (Nat.le_of_ble_eq_true rfl) (Nat.le_of_ble_eq_true rfl)
    · exact absurd h21_2 (by first | omega | (simp [up2, *]; done) | (simp [up2, *]; omega) | (simp only [up2_eq]; omega) | (split <;> omega))
theorem dX4_put__37 : decode cX4_put_ 37 = .ok (.iconst 1, 1) := dqo_4 (kb_X4_put__0 37 rfl)
theorem dX4_put__38 : decode cX4_put_ 38 = .ok (.goto 4, 3) := dqo_167 0 4 (by decide) (kb_X4_put__0 38 rfl) (kb_X4_put__0 39 rfl) (kb_X4_put__0 40 rfl)
set_option maxRecDepth 100000 in
set_option maxHeartbeats 4000000 in
theorem D_put_noT {l : Launch} {D : va_G} {cy : Nat → ClassId} {X : (Nat → Prop) → State → Heap → Prop} {ba ra : Nat → Nat} {hf : Nat → Nat → Nat} {hq : Nat → Nat → Int32} {kn th : Int32} {sm : Int64} {Y : va_W} {f : Nat → Nat → Nat} {r : Nat → Nat → Int32} {k0 : Nat} {y : Int32} (hX : EnvM X cy) (hC : CInv f) (hM : MR f r hf hq) (hk3 : k0 < 3) (ho : okI y) (h9 : f 9 k0 = 0) : Cd l D cy X yX4_put_ cX4_put_ 3 (some .int) (rmk 9 4 48 420) [.ref (ba 9), .int (nI k0), .int y] (WM cy ba ra hf hq kn th sm ++ Y) (some (.int (nI 0))) (WM cy ba ra hf hq kn (nI 3) sm ++ Y) := by
  have hG := hM.1
  have h5M := hM.h5M hC
  have h4M := hC.h4M
  have h9a := hM.h9a hC
  have h6a := hM.h6a
  have hU := hM.hU hC
  have qu := hM.cu hC hk3
  refine Cm.of [some (.ref (ba 9)), some (.int (nI k0)), some (.int y)] pn_X4 rfl (Nat.le_of_ble_eq_true rfl) ?_
  intro p e s m args below meth c A C hE hr hnt hn
  refine r_aload_n C dX4_put__0 rfl ?_
  refine r_iload_n C dX4_put__1 rfl ?_
  refine d_S (st := [.ref (ba 9)]) hX.1.stb C hE (D_isNoCursor0 (ba := ba) (ra := ra) (hf := hf) (hq := hq) (kn := kn) (th := th) (sm := sm) (Y := Y) (i := k0) hX (by first | omega | (simp [up2, *]; done) | (simp [up2, *]; omega) | (simp only [up2_eq]; omega) | (split <;> omega))) pk_X4_isNoCursor qm_X4_193 rfl rfl (Nat.le_of_ble_eq_true rfl) dX4_put__2 ⟨(Nat.le_of_ble_eq_true rfl), (Nat.le_of_ble_eq_true rfl)⟩ ⟨(Nat.le_of_ble_eq_true rfl), (Nat.le_of_ble_eq_true rfl)⟩ ?_
  refine r_w (w' := WM cy ba ra hf hq kn th sm ++ Y) rfl ?_
  refine r_iload_n C dX4_put__5 rfl ?_
  refine d_S (st := [.int (nI 0), .ref (ba 9)]) hX.1.stb C hE (D_isNoItem0 (ba := ba) (ra := ra) (hf := hf) (hq := hq) (kn := kn) (th := th) (sm := sm) (Y := Y) (y := (y)) hX ho) pk_X4_isNoItem qm_X4_78 rfl rfl (Nat.le_of_ble_eq_true rfl) dX4_put__6 ⟨(Nat.le_of_ble_eq_true rfl), (Nat.le_of_ble_eq_true rfl)⟩ ⟨(Nat.le_of_ble_eq_true rfl), (Nat.le_of_ble_eq_true rfl)⟩ ?_
  refine r_w (w' := WM cy ba ra hf hq kn th sm ++ Y) rfl ?_
  refine r_aload_n C dX4_put__9 rfl ?_
  refine r_iload_n C dX4_put__10 rfl ?_
  refine d_V (st := [.int (nI 0), .int (nI 0), .ref (ba 9)]) hX.1.stb C hE (D_isShut1 (ba := ba) (ra := ra) (hf := hf) (hq := hq) (kn := kn) (th := th) (sm := sm) (Y := Y) (k0 := k0) hX (by first | omega | (simp [up2, *]; done) | (simp [up2, *]; omega) | (simp only [up2_eq]; omega) | (split <;> omega)) (by first | omega | (simp [up2, *]; done) | (simp [up2, *]; omega) | (simp only [up2_eq]; omega) | (split <;> omega))) pk_X4_isShut qm_X4_196 0 8 rfl rfl wm_0 rfl rfl (Nat.le_of_ble_eq_true rfl) dX4_put__11 ⟨(Nat.le_of_ble_eq_true rfl), (Nat.le_of_ble_eq_true rfl)⟩ ⟨(Nat.le_of_ble_eq_true rfl), (Nat.le_of_ble_eq_true rfl)⟩ ?_
  refine r_w (w' := WM cy ba ra hf hq kn th sm ++ Y) rfl ?_
  refine r_ifN_ne (a := 1) (tgt := 37) C (by first | omega | (simp [up2, *]; done) | (simp [up2, *]; omega) | (simp only [up2_eq]; omega) | (split <;> omega)) dX4_put__14 (by decide) (fun h14_1 => ?_) (fun h14_1 => ?_)
  · skip
    refine r_iconst (v := (nI 1)) C dX4_put__37 (by decide) ?_
    refine r_goto (tgt := 42) C dX4_put__38 (by decide) ?_
    refine d_V (st := []) hX.1.stb C hE (D_fails3 (ba := ba) (ra := ra) (hf := hf) (hq := hq) (kn := kn) (th := th) (sm := sm) (Y := Y)  hX ) pk_X4_fails qm_X4_84 0 8 rfl rfl wm_0 rfl rfl (Nat.le_of_ble_eq_true rfl) dX4_put__42 ⟨(Nat.le_of_ble_eq_true rfl), (Nat.le_of_ble_eq_true rfl)⟩ ⟨(Nat.le_of_ble_eq_true rfl), (Nat.le_of_ble_eq_true rfl)⟩ ?_
    refine r_w (w' := WM cy ba ra hf hq kn (nI 3) sm ++ Y) rfl ?_
    refine r_ifN_eq (a := 1) (tgt := 50) C (by first | omega | (simp [up2, *]; done) | (simp [up2, *]; omega) | (simp only [up2_eq]; omega) | (split <;> omega)) dX4_put__45 (by decide) (fun h45_2 => ?_) (fun h45_2 => ?_)
    · exact absurd h45_2 (by first | omega | (simp [up2, *]; done) | (simp [up2, *]; omega) | (simp only [up2_eq]; omega) | (split <;> omega))
    · skip
      refine r_iconst (v := (nI 0)) C dX4_put__48 (by decide) ?_
      exact r_iret C hr dX4_put__49 ⟨rfl, rfl⟩ (Nat.le_of_ble_eq_true rfl) (Nat.le_of_ble_eq_true rfl)
  · exact absurd h14_1 (by first | omega | (simp [up2, *]; done) | (simp [up2, *]; omega) | (simp only [up2_eq]; omega) | (split <;> omega))
theorem dX4_replace_0 : decode cX4_replace 0 = .ok (.aload_n 0, 1) := dqo_42 (kb_X4_replace_0 0 rfl)
theorem dX4_replace_1 : decode cX4_replace 1 = .ok (.iload_n 1, 1) := dqo_27 (kb_X4_replace_0 1 rfl)
theorem dX4_replace_2 : decode cX4_replace 2 = .ok (.invokestatic 193, 3) := dqo_184 0 193 (kb_X4_replace_0 2 rfl) (kb_X4_replace_0 3 rfl) (kb_X4_replace_0 4 rfl)
theorem dX4_replace_5 : decode cX4_replace 5 = .ok (.iload_n 2, 1) := dqo_28 (kb_X4_replace_0 5 rfl)
theorem dX4_replace_6 : decode cX4_replace 6 = .ok (.invokestatic 78, 3) := dqo_184 0 78 (kb_X4_replace_0 6 rfl) (kb_X4_replace_0 7 rfl) (kb_X4_replace_0 8 rfl)
theorem dX4_replace_9 : decode cX4_replace 9 = .ok (.aload_n 0, 1) := dqo_42 (kb_X4_replace_0 9 rfl)
theorem dX4_replace_10 : decode cX4_replace 10 = .ok (.iload_n 1, 1) := dqo_27 (kb_X4_replace_0 10 rfl)
theorem dX4_replace_11 : decode cX4_replace 11 = .ok (.invokevirtual 196, 3) := dqo_182 0 196 (kb_X4_replace_0 11 rfl) (kb_X4_replace_0 12 rfl) (kb_X4_replace_0 13 rfl)
theorem dX4_replace_14 : decode cX4_replace 14 = .ok (.invokevirtual 84, 3) := dqo_182 0 84 (kb_X4_replace_0 14 rfl) (kb_X4_replace_0 15 rfl) (kb_X4_replace_0 16 rfl)
theorem dX4_replace_17 : decode cX4_replace 17 = .ok (.ifCond .eq 5, 3) := dqo_153 0 5 (by decide) (kb_X4_replace_0 17 rfl) (kb_X4_replace_0 18 rfl) (kb_X4_replace_0 19 rfl)
theorem dX4_replace_20 : decode cX4_replace 20 = .ok (.iconst 0, 1) := dqo_3 (kb_X4_replace_0 20 rfl)
theorem dX4_replace_21 : decode cX4_replace 21 = .ok (.ireturn, 1) := dqo_172 (kb_X4_replace_0 21 rfl)
set_option maxRecDepth 100000 in
set_option maxHeartbeats 4000000 in
theorem D_replace_noC {l : Launch} {D : va_G} {cy : Nat → ClassId} {X : (Nat → Prop) → State → Heap → Prop} {ba ra : Nat → Nat} {hf : Nat → Nat → Nat} {hq : Nat → Nat → Int32} {kn th : Int32} {sm : Int64} {Y : va_W} {f : Nat → Nat → Nat} {r : Nat → Nat → Int32} {x : Int32} {y : Int32} (hX : EnvM X cy) (hC : CInv f) (hM : MR f r hf hq) (hno : ¬ (0 ≤ x ∧ x < nI 3)) : Cd l D cy X yX4_replace cX4_replace 3 (some .int) (rmk 9 4 48 420) [.ref (ba 9), .int x, .int y] (WM cy ba ra hf hq kn th sm ++ Y) (some (.int (nI 0))) (WM cy ba ra hf hq kn (nI 1) sm ++ Y) := by
  have hG := hM.1
  have h5M := hM.h5M hC
  have h4M := hC.h4M
  have h9a := hM.h9a hC
  have h6a := hM.h6a
  have hU := hM.hU hC
  refine Cm.of [some (.ref (ba 9)), some (.int x), some (.int y)] pn_X4 rfl (Nat.le_of_ble_eq_true rfl) ?_
  intro p e s m args below meth c A C hE hr hnt hn
  refine r_aload_n C dX4_replace_0 rfl ?_
  refine r_iload_n C dX4_replace_1 rfl ?_
  refine d_S (st := [.ref (ba 9)]) hX.1.stb C hE (D_isNoCursor1 (ba := ba) (ra := ra) (hf := hf) (hq := hq) (kn := kn) (th := th) (sm := sm) (Y := Y) (x := (x)) hX hno) pk_X4_isNoCursor qm_X4_193 rfl rfl (Nat.le_of_ble_eq_true rfl) dX4_replace_2 ⟨(Nat.le_of_ble_eq_true rfl), (Nat.le_of_ble_eq_true rfl)⟩ ⟨(Nat.le_of_ble_eq_true rfl), (Nat.le_of_ble_eq_true rfl)⟩ ?_
  refine r_w (w' := WM cy ba ra hf hq kn th sm ++ Y) rfl ?_
  refine r_iload_n C dX4_replace_5 rfl ?_
  refine d_S (st := [.int (nI 1), .ref (ba 9)]) hX.1.stb C hE (D_isNoItemX (ba := ba) (ra := ra) (hf := hf) (hq := hq) (kn := kn) (th := th) (sm := sm) (Y := Y) (y := (y)) hX ) pk_X4_isNoItem qm_X4_78 rfl rfl (Nat.le_of_ble_eq_true rfl) dX4_replace_6 ⟨(Nat.le_of_ble_eq_true rfl), (Nat.le_of_ble_eq_true rfl)⟩ ⟨(Nat.le_of_ble_eq_true rfl), (Nat.le_of_ble_eq_true rfl)⟩ ?_
  refine r_w (w' := WM cy ba ra hf hq kn th sm ++ Y) rfl ?_
  refine r_aload_n C dX4_replace_9 rfl ?_
  refine r_iload_n C dX4_replace_10 rfl ?_
  refine d_V (st := [.int (nI (niF (y))), .int (nI 1), .ref (ba 9)]) hX.1.stb C hE (D_isShutC (ba := ba) (ra := ra) (hf := hf) (hq := hq) (kn := kn) (th := th) (sm := sm) (Y := Y) (x := (x)) hX hno) pk_X4_isShut qm_X4_196 0 8 rfl rfl wm_0 rfl rfl (Nat.le_of_ble_eq_true rfl) dX4_replace_11 ⟨(Nat.le_of_ble_eq_true rfl), (Nat.le_of_ble_eq_true rfl)⟩ ⟨(Nat.le_of_ble_eq_true rfl), (Nat.le_of_ble_eq_true rfl)⟩ ?_
  refine r_w (w' := WM cy ba ra hf hq kn th sm ++ Y) rfl ?_
  refine d_V (st := []) hX.1.stb C hE (D_fails1 (ba := ba) (ra := ra) (hf := hf) (hq := hq) (kn := kn) (th := th) (sm := sm) (Y := Y) (b0 := (niF (y))) (d0 := 0) hX ) pk_X4_fails qm_X4_84 0 8 rfl rfl wm_0 rfl rfl (Nat.le_of_ble_eq_true rfl) dX4_replace_14 ⟨(Nat.le_of_ble_eq_true rfl), (Nat.le_of_ble_eq_true rfl)⟩ ⟨(Nat.le_of_ble_eq_true rfl), (Nat.le_of_ble_eq_true rfl)⟩ ?_
  refine r_w (w' := WM cy ba ra hf hq kn (nI 1) sm ++ Y) rfl ?_
  refine r_ifN_eq (a := 1) (tgt := 22) C (by first | omega | (simp [up2, *]; done) | (simp [up2, *]; omega) | (simp only [up2_eq]; omega) | (split <;> omega)) dX4_replace_17 (by decide) (fun h17_1 => ?_) (fun h17_1 => ?_)
  · exact absurd h17_1 (by first | omega | (simp [up2, *]; done) | (simp [up2, *]; omega) | (simp only [up2_eq]; omega) | (split <;> omega))
  · skip
    refine r_iconst (v := (nI 0)) C dX4_replace_20 (by decide) ?_
    exact r_iret C hr dX4_replace_21 ⟨rfl, rfl⟩ (Nat.le_of_ble_eq_true rfl) (Nat.le_of_ble_eq_true rfl)
set_option maxRecDepth 100000 in
set_option maxHeartbeats 4000000 in
theorem D_replace_noT {l : Launch} {D : va_G} {cy : Nat → ClassId} {X : (Nat → Prop) → State → Heap → Prop} {ba ra : Nat → Nat} {hf : Nat → Nat → Nat} {hq : Nat → Nat → Int32} {kn th : Int32} {sm : Int64} {Y : va_W} {f : Nat → Nat → Nat} {r : Nat → Nat → Int32} {k0 : Nat} {y : Int32} (hX : EnvM X cy) (hC : CInv f) (hM : MR f r hf hq) (hk3 : k0 < 3) (ho : okI y) (h9 : f 9 k0 = 0) : Cd l D cy X yX4_replace cX4_replace 3 (some .int) (rmk 9 4 48 420) [.ref (ba 9), .int (nI k0), .int y] (WM cy ba ra hf hq kn th sm ++ Y) (some (.int (nI 0))) (WM cy ba ra hf hq kn (nI 3) sm ++ Y) := by
  have hG := hM.1
  have h5M := hM.h5M hC
  have h4M := hC.h4M
  have h9a := hM.h9a hC
  have h6a := hM.h6a
  have hU := hM.hU hC
  have qu := hM.cu hC hk3
  refine Cm.of [some (.ref (ba 9)), some (.int (nI k0)), some (.int y)] pn_X4 rfl (Nat.le_of_ble_eq_true rfl) ?_
  intro p e s m args below meth c A C hE hr hnt hn
  refine r_aload_n C dX4_replace_0 rfl ?_
  refine r_iload_n C dX4_replace_1 rfl ?_
  refine d_S (st := [.ref (ba 9)]) hX.1.stb C hE (D_isNoCursor0 (ba := ba) (ra := ra) (hf := hf) (hq := hq) (kn := kn) (th := th) (sm := sm) (Y := Y) (i := k0) hX (by first | omega | (simp [up2, *]; done) | (simp [up2, *]; omega) | (simp only [up2_eq]; omega) | (split <;> omega))) pk_X4_isNoCursor qm_X4_193 rfl rfl (Nat.le_of_ble_eq_true rfl) dX4_replace_2 ⟨(Nat.le_of_ble_eq_true rfl), (Nat.le_of_ble_eq_true rfl)⟩ ⟨(Nat.le_of_ble_eq_true rfl), (Nat.le_of_ble_eq_true rfl)⟩ ?_
  refine r_w (w' := WM cy ba ra hf hq kn th sm ++ Y) rfl ?_
  refine r_iload_n C dX4_replace_5 rfl ?_
  refine d_S (st := [.int (nI 0), .ref (ba 9)]) hX.1.stb C hE (D_isNoItem0 (ba := ba) (ra := ra) (hf := hf) (hq := hq) (kn := kn) (th := th) (sm := sm) (Y := Y) (y := (y)) hX ho) pk_X4_isNoItem qm_X4_78 rfl rfl (Nat.le_of_ble_eq_true rfl) dX4_replace_6 ⟨(Nat.le_of_ble_eq_true rfl), (Nat.le_of_ble_eq_true rfl)⟩ ⟨(Nat.le_of_ble_eq_true rfl), (Nat.le_of_ble_eq_true rfl)⟩ ?_
  refine r_w (w' := WM cy ba ra hf hq kn th sm ++ Y) rfl ?_
  refine r_aload_n C dX4_replace_9 rfl ?_
  refine r_iload_n C dX4_replace_10 rfl ?_
  refine d_V (st := [.int (nI 0), .int (nI 0), .ref (ba 9)]) hX.1.stb C hE (D_isShut1 (ba := ba) (ra := ra) (hf := hf) (hq := hq) (kn := kn) (th := th) (sm := sm) (Y := Y) (k0 := k0) hX (by first | omega | (simp [up2, *]; done) | (simp [up2, *]; omega) | (simp only [up2_eq]; omega) | (split <;> omega)) (by first | omega | (simp [up2, *]; done) | (simp [up2, *]; omega) | (simp only [up2_eq]; omega) | (split <;> omega))) pk_X4_isShut qm_X4_196 0 8 rfl rfl wm_0 rfl rfl (Nat.le_of_ble_eq_true rfl) dX4_replace_11 ⟨(Nat.le_of_ble_eq_true rfl), (Nat.le_of_ble_eq_true rfl)⟩ ⟨(Nat.le_of_ble_eq_true rfl), (Nat.le_of_ble_eq_true rfl)⟩ ?_
  refine r_w (w' := WM cy ba ra hf hq kn th sm ++ Y) rfl ?_
  refine d_V (st := []) hX.1.stb C hE (D_fails3 (ba := ba) (ra := ra) (hf := hf) (hq := hq) (kn := kn) (th := th) (sm := sm) (Y := Y)  hX ) pk_X4_fails qm_X4_84 0 8 rfl rfl wm_0 rfl rfl (Nat.le_of_ble_eq_true rfl) dX4_replace_14 ⟨(Nat.le_of_ble_eq_true rfl), (Nat.le_of_ble_eq_true rfl)⟩ ⟨(Nat.le_of_ble_eq_true rfl), (Nat.le_of_ble_eq_true rfl)⟩ ?_
  refine r_w (w' := WM cy ba ra hf hq kn (nI 3) sm ++ Y) rfl ?_
  refine r_ifN_eq (a := 1) (tgt := 22) C (by first | omega | (simp [up2, *]; done) | (simp [up2, *]; omega) | (simp only [up2_eq]; omega) | (split <;> omega)) dX4_replace_17 (by decide) (fun h17_1 => ?_) (fun h17_1 => ?_)
  · exact absurd h17_1 (by first | omega | (simp [up2, *]; done) | (simp [up2, *]; omega) | (simp only [up2_eq]; omega) | (split <;> omega))
  · skip
    refine r_iconst (v := (nI 0)) C dX4_replace_20 (by decide) ?_
    exact r_iret C hr dX4_replace_21 ⟨rfl, rfl⟩ (Nat.le_of_ble_eq_true rfl) (Nat.le_of_ble_eq_true rfl)
theorem dX4_put__24 : decode cX4_put_ 24 = .ok (.aload_n 0, 1) := dqo_42 (kb_X4_put__0 24 rfl)
theorem dX4_put__25 : decode cX4_put_ 25 = .ok (.aload_n 0, 1) := dqo_42 (kb_X4_put__0 25 rfl)
theorem dX4_put__26 : decode cX4_put_ 26 = .ok (.getfield 35, 3) := dqo_180 0 35 (kb_X4_put__0 26 rfl) (kb_X4_put__0 27 rfl) (kb_X4_put__0 28 rfl)
theorem dX4_put__29 : decode cX4_put_ 29 = .ok (.iload_n 1, 1) := dqo_27 (kb_X4_put__0 29 rfl)
theorem dX4_put__30 : decode cX4_put_ 30 = .ok (.iaload, 1) := dqo_46 (kb_X4_put__0 30 rfl)
theorem dX4_put__31 : decode cX4_put_ 31 = .ok (.invokevirtual 81, 3) := dqo_182 0 81 (kb_X4_put__0 31 rfl) (kb_X4_put__0 32 rfl) (kb_X4_put__0 33 rfl)
theorem dX4_put__34 : decode cX4_put_ 34 = .ok (.ifCond .eq 7, 3) := dqo_153 0 7 (by decide) (kb_X4_put__0 34 rfl) (kb_X4_put__0 35 rfl) (kb_X4_put__0 36 rfl)
set_option maxRecDepth 100000 in
set_option maxHeartbeats 4000000 in
theorem D_put_noI {l : Launch} {D : va_G} {cy : Nat → ClassId} {X : (Nat → Prop) → State → Heap → Prop} {ba ra : Nat → Nat} {hf : Nat → Nat → Nat} {hq : Nat → Nat → Int32} {kn th : Int32} {sm : Int64} {Y : va_W} {f : Nat → Nat → Nat} {r : Nat → Nat → Int32} {k0 : Nat} {y : Int32} (hX : EnvM X cy) (hC : CInv f) (hM : MR f r hf hq) (hk3 : k0 < 3) (ho : ¬ okI y) : Cd l D cy X yX4_put_ cX4_put_ 3 (some .int) (rmk 9 4 48 420) [.ref (ba 9), .int (nI k0), .int y] (WM cy ba ra hf hq kn th sm ++ Y) (some (.int (nI 0))) (WM cy ba ra hf hq kn (nI 2) sm ++ Y) := by
  have hG := hM.1
  have h5M := hM.h5M hC
  have h4M := hC.h4M
  have h9a := hM.h9a hC
  have h6a := hM.h6a
  have hU := hM.hU hC
  have qu := hM.cu hC hk3
  refine Cm.of [some (.ref (ba 9)), some (.int (nI k0)), some (.int y)] pn_X4 rfl (Nat.le_of_ble_eq_true rfl) ?_
  intro p e s m args below meth c A C hE hr hnt hn
  refine r_aload_n C dX4_put__0 rfl ?_
  refine r_iload_n C dX4_put__1 rfl ?_
  refine d_S (st := [.ref (ba 9)]) hX.1.stb C hE (D_isNoCursor0 (ba := ba) (ra := ra) (hf := hf) (hq := hq) (kn := kn) (th := th) (sm := sm) (Y := Y) (i := k0) hX (by first | omega | (simp [up2, *]; done) | (simp [up2, *]; omega) | (simp only [up2_eq]; omega) | (split <;> omega))) pk_X4_isNoCursor qm_X4_193 rfl rfl (Nat.le_of_ble_eq_true rfl) dX4_put__2 ⟨(Nat.le_of_ble_eq_true rfl), (Nat.le_of_ble_eq_true rfl)⟩ ⟨(Nat.le_of_ble_eq_true rfl), (Nat.le_of_ble_eq_true rfl)⟩ ?_
  refine r_w (w' := WM cy ba ra hf hq kn th sm ++ Y) rfl ?_
  refine r_iload_n C dX4_put__5 rfl ?_
  refine d_S (st := [.int (nI 0), .ref (ba 9)]) hX.1.stb C hE (D_isNoItem1 (ba := ba) (ra := ra) (hf := hf) (hq := hq) (kn := kn) (th := th) (sm := sm) (Y := Y) (y := (y)) hX ho) pk_X4_isNoItem qm_X4_78 rfl rfl (Nat.le_of_ble_eq_true rfl) dX4_put__6 ⟨(Nat.le_of_ble_eq_true rfl), (Nat.le_of_ble_eq_true rfl)⟩ ⟨(Nat.le_of_ble_eq_true rfl), (Nat.le_of_ble_eq_true rfl)⟩ ?_
  refine r_w (w' := WM cy ba ra hf hq kn th sm ++ Y) rfl ?_
  refine r_aload_n C dX4_put__9 rfl ?_
  refine r_iload_n C dX4_put__10 rfl ?_
  refine d_V (st := [.int (nI 1), .int (nI 0), .ref (ba 9)]) hX.1.stb C hE (D_isShutX (ba := ba) (ra := ra) (hf := hf) (hq := hq) (kn := kn) (th := th) (sm := sm) (Y := Y) (k0 := k0) hX (by first | omega | (simp [up2, *]; done) | (simp [up2, *]; omega) | (simp only [up2_eq]; omega) | (split <;> omega)) (by first | omega | (simp [up2, *]; done) | (simp [up2, *]; omega) | (simp only [up2_eq]; omega) | (split <;> omega))) pk_X4_isShut qm_X4_196 0 8 rfl rfl wm_0 rfl rfl (Nat.le_of_ble_eq_true rfl) dX4_put__11 ⟨(Nat.le_of_ble_eq_true rfl), (Nat.le_of_ble_eq_true rfl)⟩ ⟨(Nat.le_of_ble_eq_true rfl), (Nat.le_of_ble_eq_true rfl)⟩ ?_
  refine r_w (w' := WM cy ba ra hf hq kn th sm ++ Y) rfl ?_
  refine r_ifN_ne (a := (shM (hf 9 k0))) (tgt := 37) C (Nat.lt_of_le_of_lt (shM_le _) (by decide)) dX4_put__14 (by decide) (fun h14_1 => ?_) (fun h14_1 => ?_)
  · first
    | exfalso; first | omega | contradiction
    | skip
      refine r_iconst (v := (nI 1)) C dX4_put__37 (by decide) ?_
      refine r_goto (tgt := 42) C dX4_put__38 (by decide) ?_
      refine d_V (st := []) hX.1.stb C hE (D_fails2 (ba := ba) (ra := ra) (hf := hf) (hq := hq) (kn := kn) (th := th) (sm := sm) (Y := Y) (d0 := 1) hX ) pk_X4_fails qm_X4_84 0 8 rfl rfl wm_0 rfl rfl (Nat.le_of_ble_eq_true rfl) dX4_put__42 ⟨(Nat.le_of_ble_eq_true rfl), (Nat.le_of_ble_eq_true rfl)⟩ ⟨(Nat.le_of_ble_eq_true rfl), (Nat.le_of_ble_eq_true rfl)⟩ ?_
      refine r_w (w' := WM cy ba ra hf hq kn (nI 2) sm ++ Y) rfl ?_
      refine r_ifN_eq (a := 1) (tgt := 50) C (by first | omega | (simp [up2, *]; done) | (simp [up2, *]; omega) | (simp only [up2_eq]; omega) | (split <;> omega)) dX4_put__45 (by decide) (fun h45_2 => ?_) (fun h45_2 => ?_)
      · exact absurd h45_2 (by first | omega | (simp [up2, *]; done) | (simp [up2, *]; omega) | (simp only [up2_eq]; omega) | (split <;> omega))
      · skip
        refine r_iconst (v := (nI 0)) C dX4_put__48 (by decide) ?_
        exact r_iret C hr dX4_put__49 ⟨rfl, rfl⟩ (Nat.le_of_ble_eq_true rfl) (Nat.le_of_ble_eq_true rfl)
  · first
    | exfalso; first | omega | contradiction
    | skip
      refine r_iload_n C dX4_put__17 rfl ?_
      refine d_S (st := [.int (nI 1), .int (nI 0), .ref (ba 9)]) hX.1.stb C hE (D_isNoCursor0 (ba := ba) (ra := ra) (hf := hf) (hq := hq) (kn := kn) (th := th) (sm := sm) (Y := Y) (i := k0) hX (by first | omega | (simp [up2, *]; done) | (simp [up2, *]; omega) | (simp only [up2_eq]; omega) | (split <;> omega))) pk_X4_isNoCursor qm_X4_193 rfl rfl (Nat.le_of_ble_eq_true rfl) dX4_put__18 ⟨(Nat.le_of_ble_eq_true rfl), (Nat.le_of_ble_eq_true rfl)⟩ ⟨(Nat.le_of_ble_eq_true rfl), (Nat.le_of_ble_eq_true rfl)⟩ ?_
      refine r_w (w' := WM cy ba ra hf hq kn th sm ++ Y) rfl ?_
      refine r_ifN_ne (a := 0) (tgt := 41) C (by first | omega | (simp [up2, *]; done) | (simp [up2, *]; omega) | (simp only [up2_eq]; omega) | (split <;> omega)) dX4_put__21 (by decide) (fun h21_3 => ?_) (fun h21_3 => ?_)
      · exact absurd h21_3 (by first | omega | (simp [up2, *]; done) | (simp [up2, *]; omega) | (simp only [up2_eq]; omega) | (split <;> omega))
      · skip
        have h9 : f 9 k0 = 1 := by
          have h8 : shM (hf 9 k0) = 0 := by assumption
          unfold shM at h8
          split at h8
          · exact absurd h8 (by decide)
          · omega
        have qo := qu.2.2.2 h9
        have hou : hf 6 k0 < 8 := qu.2.2.1
        have h5u : f 5 (hf 6 k0) = 1 := by rw [qo.1]; exact qo.2.2.2.2.1
        have e6 : f 4 (hf 6 k0) = f 4 (f 6 k0) := by rw [qo.1]
        have wu := hM.wh hC hou h5u
        refine r_aload_n C dX4_put__24 rfl ?_
        refine r_aload_n C dX4_put__25 rfl ?_
        refine m_get (v := .ref (ba 6)) C 6 (by decide) qf_X4_35 rfl rfl dX4_put__26 ?_
        refine r_iload_n C dX4_put__29 rfl ?_
        refine m_ald (i := k0) (z := k0) (v := hf 6 k0) C 5 (by decide) (by decide) (show k0 < 3 from (by first | omega | (simp [up2, *]; done) | (simp [up2, *]; omega) | (simp only [up2_eq]; omega) | (split <;> omega))) (show 0 + k0 = k0 from (by omega)) rfl dX4_put__30 ?_
        refine d_V (st := [.int (nI 1), .int (nI 0), .ref (ba 9)]) hX.1.stb C hE (D_isFullX (ba := ba) (ra := ra) (hf := hf) (hq := hq) (kn := kn) (th := th) (sm := sm) (Y := Y) (f := f) (w := (hf 6 k0)) hX hC (MG.same (fun _ => rfl) (fun _ => rfl) hG) hou h5u (by first | omega | (simp [up2, *]; done) | (simp [up2, *]; omega) | (simp only [up2_eq]; omega) | (split <;> omega))) pk_X4_isFull qm_X4_81 0 8 rfl rfl wm_0 rfl rfl (Nat.le_of_ble_eq_true rfl) dX4_put__31 ⟨(Nat.le_of_ble_eq_true rfl), (Nat.le_of_ble_eq_true rfl)⟩ ⟨(Nat.le_of_ble_eq_true rfl), (Nat.le_of_ble_eq_true rfl)⟩ ?_
        refine r_w (w' := WM cy ba ra hf hq kn th sm ++ Y) rfl ?_
        refine r_ifN_eq (a := (fuF (hf 4 (f 1 (hf 6 k0))))) (tgt := 41) C (Nat.lt_of_le_of_lt (fuF_le _) (by decide)) dX4_put__34 (by decide) (fun h34_4 => ?_) (fun h34_4 => ?_)
        · first
          | exfalso; first | omega | contradiction
          | skip
            refine r_iconst (v := (nI 0)) C dX4_put__41 (by decide) ?_
            refine d_V (st := []) hX.1.stb C hE (D_fails2 (ba := ba) (ra := ra) (hf := hf) (hq := hq) (kn := kn) (th := th) (sm := sm) (Y := Y) (d0 := 0) hX ) pk_X4_fails qm_X4_84 0 8 rfl rfl wm_0 rfl rfl (Nat.le_of_ble_eq_true rfl) dX4_put__42 ⟨(Nat.le_of_ble_eq_true rfl), (Nat.le_of_ble_eq_true rfl)⟩ ⟨(Nat.le_of_ble_eq_true rfl), (Nat.le_of_ble_eq_true rfl)⟩ ?_
            refine r_w (w' := WM cy ba ra hf hq kn (nI 2) sm ++ Y) rfl ?_
            refine r_ifN_eq (a := 1) (tgt := 50) C (by first | omega | (simp [up2, *]; done) | (simp [up2, *]; omega) | (simp only [up2_eq]; omega) | (split <;> omega)) dX4_put__45 (by decide) (fun h45_5 => ?_) (fun h45_5 => ?_)
            · exact absurd h45_5 (by first | omega | (simp [up2, *]; done) | (simp [up2, *]; omega) | (simp only [up2_eq]; omega) | (split <;> omega))
            · skip
              refine r_iconst (v := (nI 0)) C dX4_put__48 (by decide) ?_
              exact r_iret C hr dX4_put__49 ⟨rfl, rfl⟩ (Nat.le_of_ble_eq_true rfl) (Nat.le_of_ble_eq_true rfl)
        · first
          | exfalso; first | omega | contradiction
          | skip
            refine r_iconst (v := (nI 1)) C dX4_put__37 (by decide) ?_
            refine r_goto (tgt := 42) C dX4_put__38 (by decide) ?_
            refine d_V (st := []) hX.1.stb C hE (D_fails2 (ba := ba) (ra := ra) (hf := hf) (hq := hq) (kn := kn) (th := th) (sm := sm) (Y := Y) (d0 := 1) hX ) pk_X4_fails qm_X4_84 0 8 rfl rfl wm_0 rfl rfl (Nat.le_of_ble_eq_true rfl) dX4_put__42 ⟨(Nat.le_of_ble_eq_true rfl), (Nat.le_of_ble_eq_true rfl)⟩ ⟨(Nat.le_of_ble_eq_true rfl), (Nat.le_of_ble_eq_true rfl)⟩ ?_
            refine r_w (w' := WM cy ba ra hf hq kn (nI 2) sm ++ Y) rfl ?_
            refine r_ifN_eq (a := 1) (tgt := 50) C (by first | omega | (simp [up2, *]; done) | (simp [up2, *]; omega) | (simp only [up2_eq]; omega) | (split <;> omega)) dX4_put__45 (by decide) (fun h45_6 => ?_) (fun h45_6 => ?_)
            · exact absurd h45_6 (by first | omega | (simp [up2, *]; done) | (simp [up2, *]; omega) | (simp only [up2_eq]; omega) | (split <;> omega))
            · skip
              refine r_iconst (v := (nI 0)) C dX4_put__48 (by decide) ?_
              exact r_iret C hr dX4_put__49 ⟨rfl, rfl⟩ (Nat.le_of_ble_eq_true rfl) (Nat.le_of_ble_eq_true rfl)
set_option maxRecDepth 100000 in
set_option maxHeartbeats 4000000 in
theorem D_replace_noI {l : Launch} {D : va_G} {cy : Nat → ClassId} {X : (Nat → Prop) → State → Heap → Prop} {ba ra : Nat → Nat} {hf : Nat → Nat → Nat} {hq : Nat → Nat → Int32} {kn th : Int32} {sm : Int64} {Y : va_W} {f : Nat → Nat → Nat} {r : Nat → Nat → Int32} {k0 : Nat} {y : Int32} (hX : EnvM X cy) (hC : CInv f) (hM : MR f r hf hq) (hk3 : k0 < 3) (ho : ¬ okI y) : Cd l D cy X yX4_replace cX4_replace 3 (some .int) (rmk 9 4 48 420) [.ref (ba 9), .int (nI k0), .int y] (WM cy ba ra hf hq kn th sm ++ Y) (some (.int (nI 0))) (WM cy ba ra hf hq kn (nI 2) sm ++ Y) := by
  have hG := hM.1
  have h5M := hM.h5M hC
  have h4M := hC.h4M
  have h9a := hM.h9a hC
  have h6a := hM.h6a
  have hU := hM.hU hC
  have qu := hM.cu hC hk3
  refine Cm.of [some (.ref (ba 9)), some (.int (nI k0)), some (.int y)] pn_X4 rfl (Nat.le_of_ble_eq_true rfl) ?_
  intro p e s m args below meth c A C hE hr hnt hn
  refine r_aload_n C dX4_replace_0 rfl ?_
  refine r_iload_n C dX4_replace_1 rfl ?_
  refine d_S (st := [.ref (ba 9)]) hX.1.stb C hE (D_isNoCursor0 (ba := ba) (ra := ra) (hf := hf) (hq := hq) (kn := kn) (th := th) (sm := sm) (Y := Y) (i := k0) hX (by first | omega | (simp [up2, *]; done) | (simp [up2, *]; omega) | (simp only [up2_eq]; omega) | (split <;> omega))) pk_X4_isNoCursor qm_X4_193 rfl rfl (Nat.le_of_ble_eq_true rfl) dX4_replace_2 ⟨(Nat.le_of_ble_eq_true rfl), (Nat.le_of_ble_eq_true rfl)⟩ ⟨(Nat.le_of_ble_eq_true rfl), (Nat.le_of_ble_eq_true rfl)⟩ ?_
  refine r_w (w' := WM cy ba ra hf hq kn th sm ++ Y) rfl ?_
  refine r_iload_n C dX4_replace_5 rfl ?_
  refine d_S (st := [.int (nI 0), .ref (ba 9)]) hX.1.stb C hE (D_isNoItem1 (ba := ba) (ra := ra) (hf := hf) (hq := hq) (kn := kn) (th := th) (sm := sm) (Y := Y) (y := (y)) hX ho) pk_X4_isNoItem qm_X4_78 rfl rfl (Nat.le_of_ble_eq_true rfl) dX4_replace_6 ⟨(Nat.le_of_ble_eq_true rfl), (Nat.le_of_ble_eq_true rfl)⟩ ⟨(Nat.le_of_ble_eq_true rfl), (Nat.le_of_ble_eq_true rfl)⟩ ?_
  refine r_w (w' := WM cy ba ra hf hq kn th sm ++ Y) rfl ?_
  refine r_aload_n C dX4_replace_9 rfl ?_
  refine r_iload_n C dX4_replace_10 rfl ?_
  refine d_V (st := [.int (nI 1), .int (nI 0), .ref (ba 9)]) hX.1.stb C hE (D_isShutX (ba := ba) (ra := ra) (hf := hf) (hq := hq) (kn := kn) (th := th) (sm := sm) (Y := Y) (k0 := k0) hX (by first | omega | (simp [up2, *]; done) | (simp [up2, *]; omega) | (simp only [up2_eq]; omega) | (split <;> omega)) (by first | omega | (simp [up2, *]; done) | (simp [up2, *]; omega) | (simp only [up2_eq]; omega) | (split <;> omega))) pk_X4_isShut qm_X4_196 0 8 rfl rfl wm_0 rfl rfl (Nat.le_of_ble_eq_true rfl) dX4_replace_11 ⟨(Nat.le_of_ble_eq_true rfl), (Nat.le_of_ble_eq_true rfl)⟩ ⟨(Nat.le_of_ble_eq_true rfl), (Nat.le_of_ble_eq_true rfl)⟩ ?_
  refine r_w (w' := WM cy ba ra hf hq kn th sm ++ Y) rfl ?_
  refine d_V (st := []) hX.1.stb C hE (D_fails2 (ba := ba) (ra := ra) (hf := hf) (hq := hq) (kn := kn) (th := th) (sm := sm) (Y := Y) (d0 := (shM (hf 9 k0))) hX ) pk_X4_fails qm_X4_84 0 8 rfl rfl wm_0 rfl rfl (Nat.le_of_ble_eq_true rfl) dX4_replace_14 ⟨(Nat.le_of_ble_eq_true rfl), (Nat.le_of_ble_eq_true rfl)⟩ ⟨(Nat.le_of_ble_eq_true rfl), (Nat.le_of_ble_eq_true rfl)⟩ ?_
  refine r_w (w' := WM cy ba ra hf hq kn (nI 2) sm ++ Y) rfl ?_
  refine r_ifN_eq (a := 1) (tgt := 22) C (by first | omega | (simp [up2, *]; done) | (simp [up2, *]; omega) | (simp only [up2_eq]; omega) | (split <;> omega)) dX4_replace_17 (by decide) (fun h17_1 => ?_) (fun h17_1 => ?_)
  · exact absurd h17_1 (by first | omega | (simp [up2, *]; done) | (simp [up2, *]; omega) | (simp only [up2_eq]; omega) | (split <;> omega))
  · skip
    refine r_iconst (v := (nI 0)) C dX4_replace_20 (by decide) ?_
    exact r_iret C hr dX4_replace_21 ⟨rfl, rfl⟩ (Nat.le_of_ble_eq_true rfl) (Nat.le_of_ble_eq_true rfl)
set_option maxRecDepth 100000 in
set_option maxHeartbeats 4000000 in
theorem D_put_full {l : Launch} {D : va_G} {cy : Nat → ClassId} {X : (Nat → Prop) → State → Heap → Prop} {ba ra : Nat → Nat} {hf : Nat → Nat → Nat} {hq : Nat → Nat → Int32} {kn th : Int32} {sm : Int64} {Y : va_W} {f : Nat → Nat → Nat} {r : Nat → Nat → Int32} {k0 : Nat} {y : Int32} (hX : EnvM X cy) (hC : CInv f) (hM : MR f r hf hq) (hk3 : k0 < 3) (ho : okI y) (h9 : f 9 k0 = 1) (hfull : 12 ≤ f 4 (f 1 (f 6 k0))) : Cd l D cy X yX4_put_ cX4_put_ 3 (some .int) (rmk 9 4 48 420) [.ref (ba 9), .int (nI k0), .int y] (WM cy ba ra hf hq kn th sm ++ Y) (some (.int (nI 0))) (WM cy ba ra hf hq kn (nI 3) sm ++ Y) := by
  have hG := hM.1
  have h5M := hM.h5M hC
  have h4M := hC.h4M
  have h9a := hM.h9a hC
  have h6a := hM.h6a
  have hU := hM.hU hC
  have qu := hM.cu hC hk3
  have qo := qu.2.2.2 h9
  have hou : hf 6 k0 < 8 := qu.2.2.1
  have h5u : f 5 (hf 6 k0) = 1 := by rw [qo.1]; exact qo.2.2.2.2.1
  have e6 : f 4 (hf 6 k0) = f 4 (f 6 k0) := by rw [qo.1]
  have wu := hM.wh hC hou h5u
  have e1 : f 4 (f 1 (hf 6 k0)) = f 4 (f 1 (f 6 k0)) := by rw [qo.1]
  refine Cm.of [some (.ref (ba 9)), some (.int (nI k0)), some (.int y)] pn_X4 rfl (Nat.le_of_ble_eq_true rfl) ?_
  intro p e s m args below meth c A C hE hr hnt hn
  refine r_aload_n C dX4_put__0 rfl ?_
  refine r_iload_n C dX4_put__1 rfl ?_
  refine d_S (st := [.ref (ba 9)]) hX.1.stb C hE (D_isNoCursor0 (ba := ba) (ra := ra) (hf := hf) (hq := hq) (kn := kn) (th := th) (sm := sm) (Y := Y) (i := k0) hX (by first | omega | (simp [up2, *]; done) | (simp [up2, *]; omega) | (simp only [up2_eq]; omega) | (split <;> omega))) pk_X4_isNoCursor qm_X4_193 rfl rfl (Nat.le_of_ble_eq_true rfl) dX4_put__2 ⟨(Nat.le_of_ble_eq_true rfl), (Nat.le_of_ble_eq_true rfl)⟩ ⟨(Nat.le_of_ble_eq_true rfl), (Nat.le_of_ble_eq_true rfl)⟩ ?_
  refine r_w (w' := WM cy ba ra hf hq kn th sm ++ Y) rfl ?_
  refine r_iload_n C dX4_put__5 rfl ?_
  refine d_S (st := [.int (nI 0), .ref (ba 9)]) hX.1.stb C hE (D_isNoItem0 (ba := ba) (ra := ra) (hf := hf) (hq := hq) (kn := kn) (th := th) (sm := sm) (Y := Y) (y := (y)) hX ho) pk_X4_isNoItem qm_X4_78 rfl rfl (Nat.le_of_ble_eq_true rfl) dX4_put__6 ⟨(Nat.le_of_ble_eq_true rfl), (Nat.le_of_ble_eq_true rfl)⟩ ⟨(Nat.le_of_ble_eq_true rfl), (Nat.le_of_ble_eq_true rfl)⟩ ?_
  refine r_w (w' := WM cy ba ra hf hq kn th sm ++ Y) rfl ?_
  refine r_aload_n C dX4_put__9 rfl ?_
  refine r_iload_n C dX4_put__10 rfl ?_
  refine d_V (st := [.int (nI 0), .int (nI 0), .ref (ba 9)]) hX.1.stb C hE (D_isShut0 (ba := ba) (ra := ra) (hf := hf) (hq := hq) (kn := kn) (th := th) (sm := sm) (Y := Y) (k0 := k0) hX (by first | omega | (simp [up2, *]; done) | (simp [up2, *]; omega) | (simp only [up2_eq]; omega) | (split <;> omega)) (by first | omega | (simp [up2, *]; done) | (simp [up2, *]; omega) | (simp only [up2_eq]; omega) | (split <;> omega))) pk_X4_isShut qm_X4_196 0 8 rfl rfl wm_0 rfl rfl (Nat.le_of_ble_eq_true rfl) dX4_put__11 ⟨(Nat.le_of_ble_eq_true rfl), (Nat.le_of_ble_eq_true rfl)⟩ ⟨(Nat.le_of_ble_eq_true rfl), (Nat.le_of_ble_eq_true rfl)⟩ ?_
  refine r_w (w' := WM cy ba ra hf hq kn th sm ++ Y) rfl ?_
  refine r_ifN_ne (a := 0) (tgt := 37) C (by first | omega | (simp [up2, *]; done) | (simp [up2, *]; omega) | (simp only [up2_eq]; omega) | (split <;> omega)) dX4_put__14 (by decide) (fun h14_1 => ?_) (fun h14_1 => ?_)
  · exact absurd h14_1 (by first | omega | (simp [up2, *]; done) | (simp [up2, *]; omega) | (simp only [up2_eq]; omega) | (split <;> omega))
  · skip
    refine r_iload_n C dX4_put__17 rfl ?_
    refine d_S (st := [.int (nI 0), .int (nI 0), .ref (ba 9)]) hX.1.stb C hE (D_isNoCursor0 (ba := ba) (ra := ra) (hf := hf) (hq := hq) (kn := kn) (th := th) (sm := sm) (Y := Y) (i := k0) hX (by first | omega | (simp [up2, *]; done) | (simp [up2, *]; omega) | (simp only [up2_eq]; omega) | (split <;> omega))) pk_X4_isNoCursor qm_X4_193 rfl rfl (Nat.le_of_ble_eq_true rfl) dX4_put__18 ⟨(Nat.le_of_ble_eq_true rfl), (Nat.le_of_ble_eq_true rfl)⟩ ⟨(Nat.le_of_ble_eq_true rfl), (Nat.le_of_ble_eq_true rfl)⟩ ?_
    refine r_w (w' := WM cy ba ra hf hq kn th sm ++ Y) rfl ?_
    refine r_ifN_ne (a := 0) (tgt := 41) C (by first | omega | (simp [up2, *]; done) | (simp [up2, *]; omega) | (simp only [up2_eq]; omega) | (split <;> omega)) dX4_put__21 (by decide) (fun h21_2 => ?_) (fun h21_2 => ?_)
    · exact absurd h21_2 (by first | omega | (simp [up2, *]; done) | (simp [up2, *]; omega) | (simp only [up2_eq]; omega) | (split <;> omega))
    · skip
      refine r_aload_n C dX4_put__24 rfl ?_
      refine r_aload_n C dX4_put__25 rfl ?_
      refine m_get (v := .ref (ba 6)) C 6 (by decide) qf_X4_35 rfl rfl dX4_put__26 ?_
      refine r_iload_n C dX4_put__29 rfl ?_
      refine m_ald (i := k0) (z := k0) (v := hf 6 k0) C 5 (by decide) (by decide) (show k0 < 3 from (by first | omega | (simp [up2, *]; done) | (simp [up2, *]; omega) | (simp only [up2_eq]; omega) | (split <;> omega))) (show 0 + k0 = k0 from (by omega)) rfl dX4_put__30 ?_
      refine d_V (st := [.int (nI 0), .int (nI 0), .ref (ba 9)]) hX.1.stb C hE (D_isFull1 (ba := ba) (ra := ra) (hf := hf) (hq := hq) (kn := kn) (th := th) (sm := sm) (Y := Y) (f := f) (w := (hf 6 k0)) hX hC (MG.same (fun _ => rfl) (fun _ => rfl) hG) hou h5u (by first | omega | (simp [up2, *]; done) | (simp [up2, *]; omega) | (simp only [up2_eq]; omega) | (split <;> omega))) pk_X4_isFull qm_X4_81 0 8 rfl rfl wm_0 rfl rfl (Nat.le_of_ble_eq_true rfl) dX4_put__31 ⟨(Nat.le_of_ble_eq_true rfl), (Nat.le_of_ble_eq_true rfl)⟩ ⟨(Nat.le_of_ble_eq_true rfl), (Nat.le_of_ble_eq_true rfl)⟩ ?_
      refine r_w (w' := WM cy ba ra hf hq kn th sm ++ Y) rfl ?_
      refine r_ifN_eq (a := 1) (tgt := 41) C (by first | omega | (simp [up2, *]; done) | (simp [up2, *]; omega) | (simp only [up2_eq]; omega) | (split <;> omega)) dX4_put__34 (by decide) (fun h34_3 => ?_) (fun h34_3 => ?_)
      · exact absurd h34_3 (by first | omega | (simp [up2, *]; done) | (simp [up2, *]; omega) | (simp only [up2_eq]; omega) | (split <;> omega))
      · skip
        refine r_iconst (v := (nI 1)) C dX4_put__37 (by decide) ?_
        refine r_goto (tgt := 42) C dX4_put__38 (by decide) ?_
        refine d_V (st := []) hX.1.stb C hE (D_fails3 (ba := ba) (ra := ra) (hf := hf) (hq := hq) (kn := kn) (th := th) (sm := sm) (Y := Y)  hX ) pk_X4_fails qm_X4_84 0 8 rfl rfl wm_0 rfl rfl (Nat.le_of_ble_eq_true rfl) dX4_put__42 ⟨(Nat.le_of_ble_eq_true rfl), (Nat.le_of_ble_eq_true rfl)⟩ ⟨(Nat.le_of_ble_eq_true rfl), (Nat.le_of_ble_eq_true rfl)⟩ ?_
        refine r_w (w' := WM cy ba ra hf hq kn (nI 3) sm ++ Y) rfl ?_
        refine r_ifN_eq (a := 1) (tgt := 50) C (by first | omega | (simp [up2, *]; done) | (simp [up2, *]; omega) | (simp only [up2_eq]; omega) | (split <;> omega)) dX4_put__45 (by decide) (fun h45_4 => ?_) (fun h45_4 => ?_)
        · exact absurd h45_4 (by first | omega | (simp [up2, *]; done) | (simp [up2, *]; omega) | (simp only [up2_eq]; omega) | (split <;> omega))
        · skip
          refine r_iconst (v := (nI 0)) C dX4_put__48 (by decide) ?_
          exact r_iret C hr dX4_put__49 ⟨rfl, rfl⟩ (Nat.le_of_ble_eq_true rfl) (Nat.le_of_ble_eq_true rfl)
theorem dX4_put__50 : decode cX4_put_ 50 = .ok (.aload_n 0, 1) := dqo_42 (kb_X4_put__0 50 rfl)
theorem dX4_put__51 : decode cX4_put_ 51 = .ok (.aload_n 0, 1) := dqo_42 (kb_X4_put__0 51 rfl)
theorem dX4_put__52 : decode cX4_put_ 52 = .ok (.getfield 35, 3) := dqo_180 0 35 (kb_X4_put__0 52 rfl) (kb_X4_put__0 53 rfl) (kb_X4_put__0 54 rfl)
theorem dX4_put__55 : decode cX4_put_ 55 = .ok (.iload_n 1, 1) := dqo_27 (kb_X4_put__0 55 rfl)
theorem dX4_put__56 : decode cX4_put_ 56 = .ok (.iaload, 1) := dqo_46 (kb_X4_put__0 56 rfl)
theorem dX4_put__57 : decode cX4_put_ 57 = .ok (.iload_n 1, 1) := dqo_27 (kb_X4_put__0 57 rfl)
theorem dX4_put__58 : decode cX4_put_ 58 = .ok (.invokevirtual 74, 3) := dqo_182 0 74 (kb_X4_put__0 58 rfl) (kb_X4_put__0 59 rfl) (kb_X4_put__0 60 rfl)
theorem dX4_put__61 : decode cX4_put_ 61 = .ok (.aload_n 0, 1) := dqo_42 (kb_X4_put__0 61 rfl)
theorem dX4_put__62 : decode cX4_put_ 62 = .ok (.aload_n 0, 1) := dqo_42 (kb_X4_put__0 62 rfl)
theorem dX4_put__63 : decode cX4_put_ 63 = .ok (.getfield 35, 3) := dqo_180 0 35 (kb_X4_put__0 63 rfl) (kb_X4_put__1 0 rfl) (kb_X4_put__1 1 rfl)
theorem dX4_put__66 : decode cX4_put_ 66 = .ok (.iload_n 1, 1) := dqo_27 (kb_X4_put__1 2 rfl)
theorem dX4_put__67 : decode cX4_put_ 67 = .ok (.iaload, 1) := dqo_46 (kb_X4_put__1 3 rfl)
theorem dX4_put__68 : decode cX4_put_ 68 = .ok (.aload_n 0, 1) := dqo_42 (kb_X4_put__1 4 rfl)
theorem dX4_put__69 : decode cX4_put_ 69 = .ok (.getfield 38, 3) := dqo_180 0 38 (kb_X4_put__1 5 rfl) (kb_X4_put__1 6 rfl) (kb_X4_put__1 7 rfl)
theorem dX4_put__72 : decode cX4_put_ 72 = .ok (.iload_n 1, 1) := dqo_27 (kb_X4_put__1 8 rfl)
theorem dX4_put__73 : decode cX4_put_ 73 = .ok (.iaload, 1) := dqo_46 (kb_X4_put__1 9 rfl)
theorem dX4_put__74 : decode cX4_put_ 74 = .ok (.iconst 0, 1) := dqo_3 (kb_X4_put__1 10 rfl)
theorem dX4_put__75 : decode cX4_put_ 75 = .ok (.iconst 1, 1) := dqo_4 (kb_X4_put__1 11 rfl)
theorem dX4_put__76 : decode cX4_put_ 76 = .ok (.newarray .int, 2) := dqo_188_10 (kb_X4_put__1 12 rfl) (kb_X4_put__1 13 rfl)
theorem dX4_put__78 : decode cX4_put_ 78 = .ok (.dup, 1) := dqo_89 (kb_X4_put__1 14 rfl)
theorem dX4_put__79 : decode cX4_put_ 79 = .ok (.iconst 0, 1) := dqo_3 (kb_X4_put__1 15 rfl)
theorem dX4_put__80 : decode cX4_put_ 80 = .ok (.iload_n 2, 1) := dqo_28 (kb_X4_put__1 16 rfl)
theorem dX4_put__81 : decode cX4_put_ 81 = .ok (.iastore, 1) := dqo_79 (kb_X4_put__1 17 rfl)
theorem dX4_put__82 : decode cX4_put_ 82 = .ok (.invokevirtual 88, 3) := dqo_182 0 88 (kb_X4_put__1 18 rfl) (kb_X4_put__1 19 rfl) (kb_X4_put__1 20 rfl)
theorem dX4_put__85 : decode cX4_put_ 85 = .ok (.aload_n 0, 1) := dqo_42 (kb_X4_put__1 21 rfl)
theorem dX4_put__86 : decode cX4_put_ 86 = .ok (.getfield 38, 3) := dqo_180 0 38 (kb_X4_put__1 22 rfl) (kb_X4_put__1 23 rfl) (kb_X4_put__1 24 rfl)
theorem dX4_put__89 : decode cX4_put_ 89 = .ok (.iload_n 1, 1) := dqo_27 (kb_X4_put__1 25 rfl)
theorem dX4_put__90 : decode cX4_put_ 90 = .ok (.dup2, 1) := dqo_92 (kb_X4_put__1 26 rfl)
theorem dX4_put__91 : decode cX4_put_ 91 = .ok (.iaload, 1) := dqo_46 (kb_X4_put__1 27 rfl)
theorem dX4_put__92 : decode cX4_put_ 92 = .ok (.iconst 1, 1) := dqo_4 (kb_X4_put__1 28 rfl)
theorem dX4_put__93 : decode cX4_put_ 93 = .ok (.iadd, 1) := dqo_96 (kb_X4_put__1 29 rfl)
theorem dX4_put__94 : decode cX4_put_ 94 = .ok (.iastore, 1) := dqo_79 (kb_X4_put__1 30 rfl)
theorem dX4_put__95 : decode cX4_put_ 95 = .ok (.aload_n 0, 1) := dqo_42 (kb_X4_put__1 31 rfl)
theorem dX4_put__96 : decode cX4_put_ 96 = .ok (.getfield 41, 3) := dqo_180 0 41 (kb_X4_put__1 32 rfl) (kb_X4_put__1 33 rfl) (kb_X4_put__1 34 rfl)
theorem dX4_put__99 : decode cX4_put_ 99 = .ok (.iload_n 1, 1) := dqo_27 (kb_X4_put__1 35 rfl)
theorem dX4_put__100 : decode cX4_put_ 100 = .ok (.iconst (-1), 1) := dqo_2 (kb_X4_put__1 36 rfl)
theorem dX4_put__101 : decode cX4_put_ 101 = .ok (.iastore, 1) := dqo_79 (kb_X4_put__1 37 rfl)
theorem dX4_put__102 : decode cX4_put_ 102 = .ok (.aload_n 0, 1) := dqo_42 (kb_X4_put__1 38 rfl)
theorem dX4_put__103 : decode cX4_put_ 103 = .ok (.getfield 38, 3) := dqo_180 0 38 (kb_X4_put__1 39 rfl) (kb_X4_put__1 40 rfl) (kb_X4_put__1 41 rfl)
theorem dX4_put__106 : decode cX4_put_ 106 = .ok (.iload_n 1, 1) := dqo_27 (kb_X4_put__1 42 rfl)
theorem dX4_put__107 : decode cX4_put_ 107 = .ok (.iaload, 1) := dqo_46 (kb_X4_put__1 43 rfl)
theorem dX4_put__108 : decode cX4_put_ 108 = .ok (.ireturn, 1) := dqo_172 (kb_X4_put__1 44 rfl)
set_option maxRecDepth 100000 in
set_option maxHeartbeats 4000000 in
theorem D_put_ok {l : Launch} {D : va_G} {cy : Nat → ClassId} {X : (Nat → Prop) → State → Heap → Prop} {ba ra : Nat → Nat} {hf : Nat → Nat → Nat} {hq : Nat → Nat → Int32} {kn th : Int32} {sm : Int64} {Y : va_W} {f : Nat → Nat → Nat} {r : Nat → Nat → Int32} {k0 : Nat} {y : Int32} (hX : EnvM X cy) (hC : CInv f) (hM : MR f r hf hq) (hk3 : k0 < 3) (ho : okI y) (h9 : f 9 k0 = 1) (hroom : f 4 (f 1 (f 6 k0)) < 12) : Cm l D cy X yX4_put_ cX4_put_ 3 (some .int) (rmk 9 4 48 420) [.ref (ba 9), .int (nI k0), .int y] (WM cy ba ra hf hq kn th sm ++ Y) (fun v1 w1 => ∃ ra9 : Nat → Nat, v1 = some (.int (nI ((hf 7 k0) + 1))) ∧ w1 = WM cy ba ra9 (up2 (up2 (lyM f (up2 (chM f hf (hf 6 k0) k0) 4 (f 1 (hf 6 k0)) ((chM f hf (hf 6 k0) k0) 4 (f 1 (hf 6 k0)) - 0 + 1)) (hf 6 k0) 1 0) 7 k0 ((hf 7 k0) + 1)) 8 k0 4294967295) (upR hq (f 1 (hf 6 k0)) (layF (hq (f 1 (hf 6 k0))) (upd (fun _ => 0) 0 y) (f 3 (hf 6 k0) + (hf 7 k0)) 1 0 ((chM f hf (hf 6 k0) k0) 4 (f 1 (hf 6 k0)) - 0 + 1))) kn (nI 0) sm ++ Y) (fun _ => False) := by
  have hG := hM.1
  have h5M := hM.h5M hC
  have h4M := hC.h4M
  have h9a := hM.h9a hC
  have h6a := hM.h6a
  have hU := hM.hU hC
  have qu := hM.cu hC hk3
  have qo := qu.2.2.2 h9
  have hou : hf 6 k0 < 8 := qu.2.2.1
  have h5u : f 5 (hf 6 k0) = 1 := by rw [qo.1]; exact qo.2.2.2.2.1
  have e6 : f 4 (hf 6 k0) = f 4 (f 6 k0) := by rw [qo.1]
  have wu := hM.wh hC hou h5u
  have e1 : f 4 (f 1 (hf 6 k0)) = f 4 (f 1 (f 6 k0)) := by rw [qo.1]
  refine Cm.of [some (.ref (ba 9)), some (.int (nI k0)), some (.int y)] pn_X4 rfl (Nat.le_of_ble_eq_true rfl) ?_
  intro p e s m args below meth c A C hE hr hnt hn
  refine r_aload_n C dX4_put__0 rfl ?_
  refine r_iload_n C dX4_put__1 rfl ?_
  refine d_S (st := [.ref (ba 9)]) hX.1.stb C hE (D_isNoCursor0 (ba := ba) (ra := ra) (hf := hf) (hq := hq) (kn := kn) (th := th) (sm := sm) (Y := Y) (i := k0) hX (by first | omega | (simp [up2, *]; done) | (simp [up2, *]; omega) | (simp only [up2_eq]; omega) | (split <;> omega))) pk_X4_isNoCursor qm_X4_193 rfl rfl (Nat.le_of_ble_eq_true rfl) dX4_put__2 ⟨(Nat.le_of_ble_eq_true rfl), (Nat.le_of_ble_eq_true rfl)⟩ ⟨(Nat.le_of_ble_eq_true rfl), (Nat.le_of_ble_eq_true rfl)⟩ ?_
  refine r_w (w' := WM cy ba ra hf hq kn th sm ++ Y) rfl ?_
  refine r_iload_n C dX4_put__5 rfl ?_
  refine d_S (st := [.int (nI 0), .ref (ba 9)]) hX.1.stb C hE (D_isNoItem0 (ba := ba) (ra := ra) (hf := hf) (hq := hq) (kn := kn) (th := th) (sm := sm) (Y := Y) (y := (y)) hX ho) pk_X4_isNoItem qm_X4_78 rfl rfl (Nat.le_of_ble_eq_true rfl) dX4_put__6 ⟨(Nat.le_of_ble_eq_true rfl), (Nat.le_of_ble_eq_true rfl)⟩ ⟨(Nat.le_of_ble_eq_true rfl), (Nat.le_of_ble_eq_true rfl)⟩ ?_
  refine r_w (w' := WM cy ba ra hf hq kn th sm ++ Y) rfl ?_
  refine r_aload_n C dX4_put__9 rfl ?_
  refine r_iload_n C dX4_put__10 rfl ?_
  refine d_V (st := [.int (nI 0), .int (nI 0), .ref (ba 9)]) hX.1.stb C hE (D_isShut0 (ba := ba) (ra := ra) (hf := hf) (hq := hq) (kn := kn) (th := th) (sm := sm) (Y := Y) (k0 := k0) hX (by first | omega | (simp [up2, *]; done) | (simp [up2, *]; omega) | (simp only [up2_eq]; omega) | (split <;> omega)) (by first | omega | (simp [up2, *]; done) | (simp [up2, *]; omega) | (simp only [up2_eq]; omega) | (split <;> omega))) pk_X4_isShut qm_X4_196 0 8 rfl rfl wm_0 rfl rfl (Nat.le_of_ble_eq_true rfl) dX4_put__11 ⟨(Nat.le_of_ble_eq_true rfl), (Nat.le_of_ble_eq_true rfl)⟩ ⟨(Nat.le_of_ble_eq_true rfl), (Nat.le_of_ble_eq_true rfl)⟩ ?_
  refine r_w (w' := WM cy ba ra hf hq kn th sm ++ Y) rfl ?_
  refine r_ifN_ne (a := 0) (tgt := 37) C (by first | omega | (simp [up2, *]; done) | (simp [up2, *]; omega) | (simp only [up2_eq]; omega) | (split <;> omega)) dX4_put__14 (by decide) (fun h14_1 => ?_) (fun h14_1 => ?_)
  · exact absurd h14_1 (by first | omega | (simp [up2, *]; done) | (simp [up2, *]; omega) | (simp only [up2_eq]; omega) | (split <;> omega))
  · skip
    refine r_iload_n C dX4_put__17 rfl ?_
    refine d_S (st := [.int (nI 0), .int (nI 0), .ref (ba 9)]) hX.1.stb C hE (D_isNoCursor0 (ba := ba) (ra := ra) (hf := hf) (hq := hq) (kn := kn) (th := th) (sm := sm) (Y := Y) (i := k0) hX (by first | omega | (simp [up2, *]; done) | (simp [up2, *]; omega) | (simp only [up2_eq]; omega) | (split <;> omega))) pk_X4_isNoCursor qm_X4_193 rfl rfl (Nat.le_of_ble_eq_true rfl) dX4_put__18 ⟨(Nat.le_of_ble_eq_true rfl), (Nat.le_of_ble_eq_true rfl)⟩ ⟨(Nat.le_of_ble_eq_true rfl), (Nat.le_of_ble_eq_true rfl)⟩ ?_
    refine r_w (w' := WM cy ba ra hf hq kn th sm ++ Y) rfl ?_
    refine r_ifN_ne (a := 0) (tgt := 41) C (by first | omega | (simp [up2, *]; done) | (simp [up2, *]; omega) | (simp only [up2_eq]; omega) | (split <;> omega)) dX4_put__21 (by decide) (fun h21_2 => ?_) (fun h21_2 => ?_)
    · exact absurd h21_2 (by first | omega | (simp [up2, *]; done) | (simp [up2, *]; omega) | (simp only [up2_eq]; omega) | (split <;> omega))
    · skip
      refine r_aload_n C dX4_put__24 rfl ?_
      refine r_aload_n C dX4_put__25 rfl ?_
      refine m_get (v := .ref (ba 6)) C 6 (by decide) qf_X4_35 rfl rfl dX4_put__26 ?_
      refine r_iload_n C dX4_put__29 rfl ?_
      refine m_ald (i := k0) (z := k0) (v := hf 6 k0) C 5 (by decide) (by decide) (show k0 < 3 from (by first | omega | (simp [up2, *]; done) | (simp [up2, *]; omega) | (simp only [up2_eq]; omega) | (split <;> omega))) (show 0 + k0 = k0 from (by omega)) rfl dX4_put__30 ?_
      refine d_V (st := [.int (nI 0), .int (nI 0), .ref (ba 9)]) hX.1.stb C hE (D_isFull0 (ba := ba) (ra := ra) (hf := hf) (hq := hq) (kn := kn) (th := th) (sm := sm) (Y := Y) (f := f) (w := (hf 6 k0)) hX hC (MG.same (fun _ => rfl) (fun _ => rfl) hG) hou h5u (by first | omega | (simp [up2, *]; done) | (simp [up2, *]; omega) | (simp only [up2_eq]; omega) | (split <;> omega))) pk_X4_isFull qm_X4_81 0 8 rfl rfl wm_0 rfl rfl (Nat.le_of_ble_eq_true rfl) dX4_put__31 ⟨(Nat.le_of_ble_eq_true rfl), (Nat.le_of_ble_eq_true rfl)⟩ ⟨(Nat.le_of_ble_eq_true rfl), (Nat.le_of_ble_eq_true rfl)⟩ ?_
      refine r_w (w' := WM cy ba ra hf hq kn th sm ++ Y) rfl ?_
      refine r_ifN_eq (a := 0) (tgt := 41) C (by first | omega | (simp [up2, *]; done) | (simp [up2, *]; omega) | (simp only [up2_eq]; omega) | (split <;> omega)) dX4_put__34 (by decide) (fun h34_3 => ?_) (fun h34_3 => ?_)
      · skip
        refine r_iconst (v := (nI 0)) C dX4_put__41 (by decide) ?_
        refine d_V (st := []) hX.1.stb C hE (D_fails0 (ba := ba) (ra := ra) (hf := hf) (hq := hq) (kn := kn) (th := th) (sm := sm) (Y := Y)  hX ) pk_X4_fails qm_X4_84 0 8 rfl rfl wm_0 rfl rfl (Nat.le_of_ble_eq_true rfl) dX4_put__42 ⟨(Nat.le_of_ble_eq_true rfl), (Nat.le_of_ble_eq_true rfl)⟩ ⟨(Nat.le_of_ble_eq_true rfl), (Nat.le_of_ble_eq_true rfl)⟩ ?_
        refine r_w (w' := WM cy ba ra hf hq kn (nI 0) sm ++ Y) rfl ?_
        refine r_ifN_eq (a := 0) (tgt := 50) C (by first | omega | (simp [up2, *]; done) | (simp [up2, *]; omega) | (simp only [up2_eq]; omega) | (split <;> omega)) dX4_put__45 (by decide) (fun h45_4 => ?_) (fun h45_4 => ?_)
        · skip
          refine r_aload_n C dX4_put__50 rfl ?_
          refine r_aload_n C dX4_put__51 rfl ?_
          refine m_get (v := .ref (ba 6)) C 6 (by decide) qf_X4_35 rfl rfl dX4_put__52 ?_
          refine r_iload_n C dX4_put__55 rfl ?_
          refine m_ald (i := k0) (z := k0) (v := hf 6 k0) C 5 (by decide) (by decide) (show k0 < 3 from (by first | omega | (simp [up2, *]; done) | (simp [up2, *]; omega) | (simp only [up2_eq]; omega) | (split <;> omega))) (show 0 + k0 = k0 from (by omega)) rfl dX4_put__56 ?_
          refine r_iload_n C dX4_put__57 rfl ?_
          refine d_Vv (st := []) hX.1.stb C hE (D_changed (ba := ba) (ra := ra) (hf := hf) (hq := hq) (kn := kn) (th := (nI 0)) (sm := sm) (Y := Y) (f := f) (w := (hf 6 k0)) (d0 := k0) hX hC (MG.same (fun _ => rfl) (fun _ => rfl) hG) hou h5u (by first | omega | (simp [up2, *]; done) | (simp [up2, *]; omega) | (simp only [up2_eq]; omega) | (split <;> omega)) h5M h9a hU) pk_X4_changed qm_X4_74 0 8 rfl rfl wm_0 rfl rfl (Nat.le_of_ble_eq_true rfl) dX4_put__58 ⟨(Nat.le_of_ble_eq_true rfl), (Nat.le_of_ble_eq_true rfl)⟩ ⟨(Nat.le_of_ble_eq_true rfl), (Nat.le_of_ble_eq_true rfl)⟩ ?_
          refine r_w (w' := WM cy ba ra (chM f hf (hf 6 k0) k0) hq kn (nI 0) sm ++ Y) rfl ?_
          refine r_aload_n C dX4_put__61 rfl ?_
          refine r_aload_n C dX4_put__62 rfl ?_
          refine m_get (v := .ref (ba 6)) C 6 (by decide) qf_X4_35 rfl rfl dX4_put__63 ?_
          refine r_iload_n C dX4_put__66 rfl ?_
          refine m_ald (i := k0) (z := k0) (v := hf 6 k0) C 5 (by decide) (by decide) (show k0 < 3 from (by first | omega | (simp [up2, *]; done) | (simp [up2, *]; omega) | (simp only [up2_eq]; omega) | (split <;> omega))) (show 0 + k0 = k0 from (by omega)) rfl dX4_put__67 ?_
          refine r_aload_n C dX4_put__68 rfl ?_
          refine m_get (v := .ref (ba 7)) C 7 (by decide) qf_X4_38 rfl rfl dX4_put__69 ?_
          refine r_iload_n C dX4_put__72 rfl ?_
          refine m_ald (i := k0) (z := k0) (v := hf 7 k0) C 6 (by decide) (by decide) (show k0 < 3 from (by first | omega | (simp [up2, *]; done) | (simp [up2, *]; omega) | (simp only [up2_eq]; omega) | (split <;> omega))) (show 0 + k0 = k0 from (by omega)) rfl dX4_put__73 ?_
          refine r_iconst (v := (nI 0)) C dX4_put__74 (by decide) ?_
          refine r_iconst (v := (nI 1)) C dX4_put__75 (by decide) ?_
          refine r_newT C .int .int 1 rfl (by simp) qa_int (n := 1) (show 1 < 1000000 from Nat.lt_of_le_of_lt (show 1 ≤ 1 from by first | omega | (simp [up2, *]; done) | (simp [up2, *]; omega) | (simp only [up2_eq]; omega) | (split <;> omega)) (by decide)) (2) (5) (Nat.le_of_ble_eq_true rfl) (Nat.add_le_add (Nat.le_refl _) (show 1 ≤ 1 from by first | omega | (simp [up2, *]; done) | (simp [up2, *]; omega) | (simp only [up2_eq]; omega) | (split <;> omega))) (Nat.le_of_ble_eq_true rfl) (Nat.le_of_ble_eq_true rfl) dX4_put__76 (fun b_5 => ?_)
          refine r_w (w' := WM cy ba ra (chM f hf (hf 6 k0) k0) hq kn (nI 0) sm ++ (Y ++ [(b_5, .inl (cy 1, 1, .inl (fun _ => 0)))])) (by simp only [List.append_assoc, List.cons_append, List.nil_append]) ?_
          refine r_dup C dX4_put__78 rfl ?_
          refine r_iconst (v := (nI 0)) C dX4_put__79 (by decide) ?_
          refine r_iload_n C dX4_put__80 rfl ?_
          refine x_ast C (i := 0) (f := fun _ => 0) (E' := [(b_5, .inl (cy 1, 1, .inl (upd (fun _ => 0) 0 y)))]) 0 rfl (by first | omega | (simp [up2, *]; done) | (simp [up2, *]; omega) | (simp only [up2_eq]; omega) | (split <;> omega)) (by first | omega | (simp [up2, *]; done) | (simp [up2, *]; omega) | (simp only [up2_eq]; omega) | (split <;> omega)) rfl dX4_put__81 ?_
          refine e_V (st := []) hX.1.stb C hE (D_lay (ba := ba) (ra := ra) (hf := (chM f hf (hf 6 k0) k0)) (hq := hq) (kn := kn) (th := (nI 0)) (sm := sm) (f := f) (w := (hf 6 k0)) (p0 := (hf 7 k0)) (o0 := 0) (b0 := b_5) (n0 := 1) (g0 := (upd (fun _ => 0) 0 y)) (j0 := (Y.length + 0)) hX hC (MG.same (fun _ => rfl) (fun _ => rfl) hG) hou h5u (show f 3 (hf 6 k0) + (hf 7 k0) + 0 ≤ (hf 4 (f 1 (hf 6 k0))) from (by first | omega | (simp [up2, *]; done) | (simp [up2, *]; omega) | (simp only [up2_eq]; omega) | (split <;> omega))) (show (hf 4 (f 1 (hf 6 k0))) ≤ 12 from (by first | omega | (simp [up2, *]; done) | (simp [up2, *]; omega) | (simp only [up2_eq]; omega) | (split <;> omega))) (show (hf 4 (f 1 (hf 6 k0))) - 0 + 1 ≤ 12 from (by first | omega | (simp [up2, *]; done) | (simp [up2, *]; omega) | (simp only [up2_eq]; omega) | (split <;> omega))) (fun x hx hh => (show 0 ≤ hf 4 x + 1 from by have h8 := hM.ho hC hou h5u hx hh; omega)) ((ya_x 0).trans rfl)) pk_X4_lay qm_X4_88 0 8 rfl rfl wm_0 rfl rfl (Nat.le_of_ble_eq_true rfl) dX4_put__82 ⟨(Nat.le_of_ble_eq_true rfl), (Nat.le_of_ble_eq_true rfl)⟩ ⟨(Nat.le_of_ble_eq_true rfl), (Nat.le_of_ble_eq_true rfl)⟩ (fun ra_6 => ?_)
          refine r_w (w' := WM cy ba ra_6 (lyM f (up2 (chM f hf (hf 6 k0) k0) 4 (f 1 (hf 6 k0)) ((chM f hf (hf 6 k0) k0) 4 (f 1 (hf 6 k0)) - 0 + 1)) (hf 6 k0) 1 0) (upR hq (f 1 (hf 6 k0)) (layF (hq (f 1 (hf 6 k0))) (upd (fun _ => 0) 0 y) (f 3 (hf 6 k0) + (hf 7 k0)) 1 0 ((chM f hf (hf 6 k0) k0) 4 (f 1 (hf 6 k0)) - 0 + 1))) kn (nI 0) sm ++ (Y ++ [(b_5, .inl (cy 1, 1, .inl (upd (fun _ => 0) 0 y)))])) rfl ?_
          refine r_st (st' := []) rfl ?_
          refine r_aload_n C dX4_put__85 rfl ?_
          refine m_get (v := .ref (ba 7)) C 7 (by decide) qf_X4_38 rfl rfl dX4_put__86 ?_
          refine r_iload_n C dX4_put__89 rfl ?_
          refine r_dup2 C dX4_put__90 rfl rfl ?_
          refine m_ald (i := k0) (z := k0) (v := hf 7 k0) C 6 (by decide) (by decide) (show k0 < 3 from (by first | omega | (simp [up2, *]; done) | (simp [up2, *]; omega) | (simp only [up2_eq]; omega) | (split <;> omega))) (show 0 + k0 = k0 from (by omega)) rfl dX4_put__91 ?_
          refine r_iconst (v := (nI 1)) C dX4_put__92 (by decide) ?_
          refine r_iaddN C dX4_put__93 ?_
          refine m_ast (i := k0) (z := k0) (v := (hf 7 k0) + 1) C 6 (by decide) (by decide) (show k0 < 3 from (by first | omega | (simp [up2, *]; done) | (simp [up2, *]; omega) | (simp only [up2_eq]; omega) | (split <;> omega))) (show 0 + k0 = k0 from (by omega)) dX4_put__94 ?_
          refine r_w (w' := WM cy ba ra_6 (up2 (lyM f (up2 (chM f hf (hf 6 k0) k0) 4 (f 1 (hf 6 k0)) ((chM f hf (hf 6 k0) k0) 4 (f 1 (hf 6 k0)) - 0 + 1)) (hf 6 k0) 1 0) 7 k0 ((hf 7 k0) + 1)) (upR hq (f 1 (hf 6 k0)) (layF (hq (f 1 (hf 6 k0))) (upd (fun _ => 0) 0 y) (f 3 (hf 6 k0) + (hf 7 k0)) 1 0 ((chM f hf (hf 6 k0) k0) 4 (f 1 (hf 6 k0)) - 0 + 1))) kn (nI 0) sm ++ (Y ++ [(b_5, .inl (cy 1, 1, .inl (upd (fun _ => 0) 0 y)))])) rfl ?_
          refine r_aload_n C dX4_put__95 rfl ?_
          refine m_get (v := .ref (ba 8)) C 8 (by decide) qf_X4_41 rfl rfl dX4_put__96 ?_
          refine r_iload_n C dX4_put__99 rfl ?_
          refine r_iconst (v := (nI 4294967295)) C dX4_put__100 (by decide) ?_
          refine m_ast (i := k0) (z := k0) (v := 4294967295) C 7 (by decide) (by decide) (show k0 < 3 from (by first | omega | (simp [up2, *]; done) | (simp [up2, *]; omega) | (simp only [up2_eq]; omega) | (split <;> omega))) (show 0 + k0 = k0 from (by omega)) dX4_put__101 ?_
          refine r_w (w' := WM cy ba ra_6 (up2 (up2 (lyM f (up2 (chM f hf (hf 6 k0) k0) 4 (f 1 (hf 6 k0)) ((chM f hf (hf 6 k0) k0) 4 (f 1 (hf 6 k0)) - 0 + 1)) (hf 6 k0) 1 0) 7 k0 ((hf 7 k0) + 1)) 8 k0 4294967295) (upR hq (f 1 (hf 6 k0)) (layF (hq (f 1 (hf 6 k0))) (upd (fun _ => 0) 0 y) (f 3 (hf 6 k0) + (hf 7 k0)) 1 0 ((chM f hf (hf 6 k0) k0) 4 (f 1 (hf 6 k0)) - 0 + 1))) kn (nI 0) sm ++ (Y ++ [(b_5, .inl (cy 1, 1, .inl (upd (fun _ => 0) 0 y)))])) rfl ?_
          refine r_aload_n C dX4_put__102 rfl ?_
          refine m_get (v := .ref (ba 7)) C 7 (by decide) qf_X4_38 rfl rfl dX4_put__103 ?_
          refine r_iload_n C dX4_put__106 rfl ?_
          refine m_ald (i := k0) (z := k0) (v := (hf 7 k0) + 1) C 6 (by decide) (by decide) (show k0 < 3 from (by first | omega | (simp [up2, *]; done) | (simp [up2, *]; omega) | (simp only [up2_eq]; omega) | (split <;> omega))) (show 0 + k0 = k0 from (by omega)) (show (up2 (lyM f (up2 (chM f hf (hf 6 k0) k0) 4 (f 1 (hf 6 k0)) ((chM f hf (hf 6 k0) k0) 4 (f 1 (hf 6 k0)) - 0 + 1)) (hf 6 k0) 1 0) 7 k0 ((hf 7 k0) + 1)) 7 k0 = (hf 7 k0) + 1 by simp [up2, *]) dX4_put__107 ?_
          refine r_pre ?_
          exact r_iret C hr dX4_put__108 ⟨_, rfl, rfl⟩ (Nat.le_of_ble_eq_true rfl) (Nat.le_of_ble_eq_true rfl)
        · exact absurd h45_4 (by first | omega | (simp [up2, *]; done) | (simp [up2, *]; omega) | (simp only [up2_eq]; omega) | (split <;> omega))
      · exact absurd h34_3 (by first | omega | (simp [up2, *]; done) | (simp [up2, *]; omega) | (simp only [up2_eq]; omega) | (split <;> omega))
theorem dX4_take_19 : decode cX4_take 19 = .ok (.aload_n 0, 1) := dqo_42 (kb_X4_take_0 19 rfl)
theorem dX4_take_20 : decode cX4_take 20 = .ok (.getfield 41, 3) := dqo_180 0 41 (kb_X4_take_0 20 rfl) (kb_X4_take_0 21 rfl) (kb_X4_take_0 22 rfl)
theorem dX4_take_23 : decode cX4_take 23 = .ok (.iload_n 1, 1) := dqo_27 (kb_X4_take_0 23 rfl)
theorem dX4_take_24 : decode cX4_take 24 = .ok (.iaload, 1) := dqo_46 (kb_X4_take_0 24 rfl)
theorem dX4_take_25 : decode cX4_take 25 = .ok (.iconst (-1), 1) := dqo_2 (kb_X4_take_0 25 rfl)
theorem dX4_take_26 : decode cX4_take 26 = .ok (.if_icmp .ne 6, 3) := dqo_160 0 6 (by decide) (kb_X4_take_0 26 rfl) (kb_X4_take_0 27 rfl) (kb_X4_take_0 28 rfl)
theorem dX4_take_29 : decode cX4_take 29 = .ok (.bipush (-9), 2) := dqo_16 247 (by decide) (kb_X4_take_0 29 rfl) (kb_X4_take_0 30 rfl)
theorem dX4_take_31 : decode cX4_take 31 = .ok (.ireturn, 1) := dqo_172 (kb_X4_take_0 31 rfl)
set_option maxRecDepth 100000 in
set_option maxHeartbeats 4000000 in
theorem D_take_ref {l : Launch} {D : va_G} {cy : Nat → ClassId} {X : (Nat → Prop) → State → Heap → Prop} {ba ra : Nat → Nat} {hf : Nat → Nat → Nat} {hq : Nat → Nat → Int32} {kn th : Int32} {sm : Int64} {Y : va_W} {f : Nat → Nat → Nat} {r : Nat → Nat → Int32} {k0 : Nat} (hX : EnvM X cy) (hC : CInv f) (hM : MR f r hf hq) (hk3 : k0 < 3) (h9 : f 9 k0 = 1) (hl : f 8 k0 = 4294967295) : Cd l D cy X yX4_take cX4_take 2 (some .int) (rmk 9 4 48 420) [.ref (ba 9), .int (nI k0)] (WM cy ba ra hf hq kn th sm ++ Y) (some (.int (nI 4294967287))) (WM cy ba ra hf hq kn (nI 0) sm ++ Y) := by
  have hG := hM.1
  have h5M := hM.h5M hC
  have h4M := hC.h4M
  have h9a := hM.h9a hC
  have h6a := hM.h6a
  have hU := hM.hU hC
  have qu := hM.cu hC hk3
  have qo := qu.2.2.2 h9
  have hou : hf 6 k0 < 8 := qu.2.2.1
  have h5u : f 5 (hf 6 k0) = 1 := by rw [qo.1]; exact qo.2.2.2.2.1
  have e6 : f 4 (hf 6 k0) = f 4 (f 6 k0) := by rw [qo.1]
  have wu := hM.wh hC hou h5u
  refine Cm.of [some (.ref (ba 9)), some (.int (nI k0))] pn_X4 rfl (Nat.le_of_ble_eq_true rfl) ?_
  intro p e s m args below meth c A C hE hr hnt hn
  refine r_aload_n C dX4_take_0 rfl ?_
  refine r_iload_n C dX4_take_1 rfl ?_
  refine d_S (st := [.ref (ba 9)]) hX.1.stb C hE (D_isNoCursor0 (ba := ba) (ra := ra) (hf := hf) (hq := hq) (kn := kn) (th := th) (sm := sm) (Y := Y) (i := k0) hX (by first | omega | (simp [up2, *]; done) | (simp [up2, *]; omega) | (simp only [up2_eq]; omega) | (split <;> omega))) pk_X4_isNoCursor qm_X4_193 rfl rfl (Nat.le_of_ble_eq_true rfl) dX4_take_2 ⟨(Nat.le_of_ble_eq_true rfl), (Nat.le_of_ble_eq_true rfl)⟩ ⟨(Nat.le_of_ble_eq_true rfl), (Nat.le_of_ble_eq_true rfl)⟩ ?_
  refine r_w (w' := WM cy ba ra hf hq kn th sm ++ Y) rfl ?_
  refine r_aload_n C dX4_take_5 rfl ?_
  refine r_iload_n C dX4_take_6 rfl ?_
  refine d_V (st := [.int (nI 0), .ref (ba 9)]) hX.1.stb C hE (D_isShut0 (ba := ba) (ra := ra) (hf := hf) (hq := hq) (kn := kn) (th := th) (sm := sm) (Y := Y) (k0 := k0) hX (by first | omega | (simp [up2, *]; done) | (simp [up2, *]; omega) | (simp only [up2_eq]; omega) | (split <;> omega)) (by first | omega | (simp [up2, *]; done) | (simp [up2, *]; omega) | (simp only [up2_eq]; omega) | (split <;> omega))) pk_X4_isShut qm_X4_196 0 8 rfl rfl wm_0 rfl rfl (Nat.le_of_ble_eq_true rfl) dX4_take_7 ⟨(Nat.le_of_ble_eq_true rfl), (Nat.le_of_ble_eq_true rfl)⟩ ⟨(Nat.le_of_ble_eq_true rfl), (Nat.le_of_ble_eq_true rfl)⟩ ?_
  refine r_w (w' := WM cy ba ra hf hq kn th sm ++ Y) rfl ?_
  refine r_iconst (v := (nI 0)) C dX4_take_10 (by decide) ?_
  refine d_V (st := []) hX.1.stb C hE (D_fails0 (ba := ba) (ra := ra) (hf := hf) (hq := hq) (kn := kn) (th := th) (sm := sm) (Y := Y)  hX ) pk_X4_fails qm_X4_84 0 8 rfl rfl wm_0 rfl rfl (Nat.le_of_ble_eq_true rfl) dX4_take_11 ⟨(Nat.le_of_ble_eq_true rfl), (Nat.le_of_ble_eq_true rfl)⟩ ⟨(Nat.le_of_ble_eq_true rfl), (Nat.le_of_ble_eq_true rfl)⟩ ?_
  refine r_w (w' := WM cy ba ra hf hq kn (nI 0) sm ++ Y) rfl ?_
  refine r_ifN_eq (a := 0) (tgt := 19) C (by first | omega | (simp [up2, *]; done) | (simp [up2, *]; omega) | (simp only [up2_eq]; omega) | (split <;> omega)) dX4_take_14 (by decide) (fun h14_1 => ?_) (fun h14_1 => ?_)
  · skip
    refine r_aload_n C dX4_take_19 rfl ?_
    refine m_get (v := .ref (ba 8)) C 8 (by decide) qf_X4_41 rfl rfl dX4_take_20 ?_
    refine r_iload_n C dX4_take_23 rfl ?_
    refine m_ald (i := k0) (z := k0) (v := hf 8 k0) C 7 (by decide) (by decide) (show k0 < 3 from (by first | omega | (simp [up2, *]; done) | (simp [up2, *]; omega) | (simp only [up2_eq]; omega) | (split <;> omega))) (show 0 + k0 = k0 from (by omega)) rfl dX4_take_24 ?_
    refine r_iconst (v := (nI 4294967295)) C dX4_take_25 (by decide) ?_
    refine r_icN_ne (a := (hf 8 k0)) (b := 4294967295) (tgt := 32) C (by first | omega | (simp [up2, *]; done) | (simp [up2, *]; omega) | (simp only [up2_eq]; omega) | (split <;> omega)) (by first | omega | (simp [up2, *]; done) | (simp [up2, *]; omega) | (simp only [up2_eq]; omega) | (split <;> omega)) dX4_take_26 (by decide) (fun h26_2 => ?_) (fun h26_2 => ?_)
    · exact absurd h26_2 (by first | omega | (simp [up2, *]; done) | (simp [up2, *]; omega) | (simp only [up2_eq]; omega) | (split <;> omega))
    · skip
      refine r_bipush (v := (nI 4294967287)) C dX4_take_29 (by decide) ?_
      exact r_iret C hr dX4_take_31 ⟨rfl, rfl⟩ (Nat.le_of_ble_eq_true rfl) (Nat.le_of_ble_eq_true rfl)
  · exact absurd h14_1 (by first | omega | (simp [up2, *]; done) | (simp [up2, *]; omega) | (simp only [up2_eq]; omega) | (split <;> omega))
theorem dX4_take_32 : decode cX4_take 32 = .ok (.aload_n 0, 1) := dqo_42 (kb_X4_take_0 32 rfl)
theorem dX4_take_33 : decode cX4_take 33 = .ok (.aload_n 0, 1) := dqo_42 (kb_X4_take_0 33 rfl)
theorem dX4_take_34 : decode cX4_take 34 = .ok (.getfield 35, 3) := dqo_180 0 35 (kb_X4_take_0 34 rfl) (kb_X4_take_0 35 rfl) (kb_X4_take_0 36 rfl)
theorem dX4_take_37 : decode cX4_take 37 = .ok (.iload_n 1, 1) := dqo_27 (kb_X4_take_0 37 rfl)
theorem dX4_take_38 : decode cX4_take 38 = .ok (.iaload, 1) := dqo_46 (kb_X4_take_0 38 rfl)
theorem dX4_take_39 : decode cX4_take 39 = .ok (.iload_n 1, 1) := dqo_27 (kb_X4_take_0 39 rfl)
theorem dX4_take_40 : decode cX4_take 40 = .ok (.invokevirtual 74, 3) := dqo_182 0 74 (kb_X4_take_0 40 rfl) (kb_X4_take_0 41 rfl) (kb_X4_take_0 42 rfl)
theorem dX4_take_43 : decode cX4_take 43 = .ok (.aload_n 0, 1) := dqo_42 (kb_X4_take_0 43 rfl)
theorem dX4_take_44 : decode cX4_take 44 = .ok (.aload_n 0, 1) := dqo_42 (kb_X4_take_0 44 rfl)
theorem dX4_take_45 : decode cX4_take 45 = .ok (.getfield 35, 3) := dqo_180 0 35 (kb_X4_take_0 45 rfl) (kb_X4_take_0 46 rfl) (kb_X4_take_0 47 rfl)
theorem dX4_take_48 : decode cX4_take 48 = .ok (.iload_n 1, 1) := dqo_27 (kb_X4_take_0 48 rfl)
theorem dX4_take_49 : decode cX4_take 49 = .ok (.iaload, 1) := dqo_46 (kb_X4_take_0 49 rfl)
theorem dX4_take_50 : decode cX4_take 50 = .ok (.aload_n 0, 1) := dqo_42 (kb_X4_take_0 50 rfl)
theorem dX4_take_51 : decode cX4_take 51 = .ok (.getfield 41, 3) := dqo_180 0 41 (kb_X4_take_0 51 rfl) (kb_X4_take_0 52 rfl) (kb_X4_take_0 53 rfl)
theorem dX4_take_54 : decode cX4_take 54 = .ok (.iload_n 1, 1) := dqo_27 (kb_X4_take_0 54 rfl)
theorem dX4_take_55 : decode cX4_take 55 = .ok (.iaload, 1) := dqo_46 (kb_X4_take_0 55 rfl)
theorem dX4_take_56 : decode cX4_take 56 = .ok (.iconst 1, 1) := dqo_4 (kb_X4_take_0 56 rfl)
theorem dX4_take_57 : decode cX4_take 57 = .ok (.iconst 0, 1) := dqo_3 (kb_X4_take_0 57 rfl)
theorem dX4_take_58 : decode cX4_take 58 = .ok (.newarray .int, 2) := dqo_188_10 (kb_X4_take_0 58 rfl) (kb_X4_take_0 59 rfl)
theorem dX4_take_60 : decode cX4_take 60 = .ok (.invokevirtual 88, 3) := dqo_182 0 88 (kb_X4_take_0 60 rfl) (kb_X4_take_0 61 rfl) (kb_X4_take_0 62 rfl)
theorem dX4_take_63 : decode cX4_take 63 = .ok (.aload_n 0, 1) := dqo_42 (kb_X4_take_0 63 rfl)
theorem dX4_take_64 : decode cX4_take 64 = .ok (.getfield 38, 3) := dqo_180 0 38 (kb_X4_take_1 0 rfl) (kb_X4_take_1 1 rfl) (kb_X4_take_1 2 rfl)
theorem dX4_take_67 : decode cX4_take 67 = .ok (.iload_n 1, 1) := dqo_27 (kb_X4_take_1 3 rfl)
theorem dX4_take_68 : decode cX4_take 68 = .ok (.dup2, 1) := dqo_92 (kb_X4_take_1 4 rfl)
theorem dX4_take_69 : decode cX4_take 69 = .ok (.iaload, 1) := dqo_46 (kb_X4_take_1 5 rfl)
theorem dX4_take_70 : decode cX4_take 70 = .ok (.aload_n 0, 1) := dqo_42 (kb_X4_take_1 6 rfl)
theorem dX4_take_71 : decode cX4_take 71 = .ok (.getfield 41, 3) := dqo_180 0 41 (kb_X4_take_1 7 rfl) (kb_X4_take_1 8 rfl) (kb_X4_take_1 9 rfl)
theorem dX4_take_74 : decode cX4_take 74 = .ok (.iload_n 1, 1) := dqo_27 (kb_X4_take_1 10 rfl)
theorem dX4_take_75 : decode cX4_take 75 = .ok (.iaload, 1) := dqo_46 (kb_X4_take_1 11 rfl)
theorem dX4_take_76 : decode cX4_take 76 = .ok (.aload_n 0, 1) := dqo_42 (kb_X4_take_1 12 rfl)
theorem dX4_take_77 : decode cX4_take 77 = .ok (.getfield 38, 3) := dqo_180 0 38 (kb_X4_take_1 13 rfl) (kb_X4_take_1 14 rfl) (kb_X4_take_1 15 rfl)
theorem dX4_take_80 : decode cX4_take 80 = .ok (.iload_n 1, 1) := dqo_27 (kb_X4_take_1 16 rfl)
theorem dX4_take_81 : decode cX4_take 81 = .ok (.iaload, 1) := dqo_46 (kb_X4_take_1 17 rfl)
theorem dX4_take_82 : decode cX4_take 82 = .ok (.if_icmp .ge 7, 3) := dqo_162 0 7 (by decide) (kb_X4_take_1 18 rfl) (kb_X4_take_1 19 rfl) (kb_X4_take_1 20 rfl)
theorem dX4_take_85 : decode cX4_take 85 = .ok (.iconst 1, 1) := dqo_4 (kb_X4_take_1 21 rfl)
theorem dX4_take_86 : decode cX4_take 86 = .ok (.goto 4, 3) := dqo_167 0 4 (by decide) (kb_X4_take_1 22 rfl) (kb_X4_take_1 23 rfl) (kb_X4_take_1 24 rfl)
theorem dX4_take_90 : decode cX4_take 90 = .ok (.invokestatic 136, 3) := dqo_184 0 136 (kb_X4_take_1 26 rfl) (kb_X4_take_1 27 rfl) (kb_X4_take_1 28 rfl)
theorem dX4_take_93 : decode cX4_take 93 = .ok (.isub, 1) := dqo_100 (kb_X4_take_1 29 rfl)
theorem dX4_take_94 : decode cX4_take 94 = .ok (.iastore, 1) := dqo_79 (kb_X4_take_1 30 rfl)
theorem dX4_take_95 : decode cX4_take 95 = .ok (.aload_n 0, 1) := dqo_42 (kb_X4_take_1 31 rfl)
theorem dX4_take_96 : decode cX4_take 96 = .ok (.getfield 41, 3) := dqo_180 0 41 (kb_X4_take_1 32 rfl) (kb_X4_take_1 33 rfl) (kb_X4_take_1 34 rfl)
theorem dX4_take_99 : decode cX4_take 99 = .ok (.iload_n 1, 1) := dqo_27 (kb_X4_take_1 35 rfl)
theorem dX4_take_100 : decode cX4_take 100 = .ok (.iconst (-1), 1) := dqo_2 (kb_X4_take_1 36 rfl)
theorem dX4_take_101 : decode cX4_take 101 = .ok (.iastore, 1) := dqo_79 (kb_X4_take_1 37 rfl)
theorem dX4_take_102 : decode cX4_take 102 = .ok (.aload_n 0, 1) := dqo_42 (kb_X4_take_1 38 rfl)
theorem dX4_take_103 : decode cX4_take 103 = .ok (.getfield 38, 3) := dqo_180 0 38 (kb_X4_take_1 39 rfl) (kb_X4_take_1 40 rfl) (kb_X4_take_1 41 rfl)
theorem dX4_take_106 : decode cX4_take 106 = .ok (.iload_n 1, 1) := dqo_27 (kb_X4_take_1 42 rfl)
theorem dX4_take_107 : decode cX4_take 107 = .ok (.iaload, 1) := dqo_46 (kb_X4_take_1 43 rfl)
theorem dX4_take_108 : decode cX4_take 108 = .ok (.ireturn, 1) := dqo_172 (kb_X4_take_1 44 rfl)
set_option maxRecDepth 100000 in
set_option maxHeartbeats 4000000 in
theorem D_take_a {l : Launch} {D : va_G} {cy : Nat → ClassId} {X : (Nat → Prop) → State → Heap → Prop} {ba ra : Nat → Nat} {hf : Nat → Nat → Nat} {hq : Nat → Nat → Int32} {kn th : Int32} {sm : Int64} {Y : va_W} {f : Nat → Nat → Nat} {r : Nat → Nat → Int32} {k0 : Nat} (hX : EnvM X cy) (hC : CInv f) (hM : MR f r hf hq) (hk3 : k0 < 3) (h9 : f 9 k0 = 1) (hl : f 8 k0 ≠ 4294967295) (hx : f 8 k0 < f 7 k0) : Cm l D cy X yX4_take cX4_take 2 (some .int) (rmk 9 4 48 420) [.ref (ba 9), .int (nI k0)] (WM cy ba ra hf hq kn th sm ++ Y) (fun v1 w1 => ∃ ra9 : Nat → Nat, v1 = some (.int (nI ((hf 7 k0) - 1))) ∧ w1 = WM cy ba ra9 (up2 (up2 (lyM f (up2 (chM f hf (hf 6 k0) k0) 4 (f 1 (hf 6 k0)) ((chM f hf (hf 6 k0) k0) 4 (f 1 (hf 6 k0)) - 1 + 0)) (hf 6 k0) 0 1) 7 k0 ((hf 7 k0) - 1)) 8 k0 4294967295) (upR hq (f 1 (hf 6 k0)) (layF (hq (f 1 (hf 6 k0))) (fun _ => 0) (f 3 (hf 6 k0) + (hf 8 k0)) 0 1 ((chM f hf (hf 6 k0) k0) 4 (f 1 (hf 6 k0)) - 1 + 0))) kn (nI 0) sm ++ Y) (fun _ => False) := by
  have hG := hM.1
  have h5M := hM.h5M hC
  have h4M := hC.h4M
  have h9a := hM.h9a hC
  have h6a := hM.h6a
  have hU := hM.hU hC
  have qu := hM.cu hC hk3
  have qo := qu.2.2.2 h9
  have hou : hf 6 k0 < 8 := qu.2.2.1
  have h5u : f 5 (hf 6 k0) = 1 := by rw [qo.1]; exact qo.2.2.2.2.1
  have e6 : f 4 (hf 6 k0) = f 4 (f 6 k0) := by rw [qo.1]
  have wu := hM.wh hC hou h5u
  have e1 : f 4 (f 1 (hf 6 k0)) = f 4 (f 1 (f 6 k0)) := by rw [qo.1]
  refine Cm.of [some (.ref (ba 9)), some (.int (nI k0))] pn_X4 rfl (Nat.le_of_ble_eq_true rfl) ?_
  intro p e s m args below meth c A C hE hr hnt hn
  refine r_aload_n C dX4_take_0 rfl ?_
  refine r_iload_n C dX4_take_1 rfl ?_
  refine d_S (st := [.ref (ba 9)]) hX.1.stb C hE (D_isNoCursor0 (ba := ba) (ra := ra) (hf := hf) (hq := hq) (kn := kn) (th := th) (sm := sm) (Y := Y) (i := k0) hX (by first | omega | (simp [up2, *]; done) | (simp [up2, *]; omega) | (simp only [up2_eq]; omega) | (split <;> omega))) pk_X4_isNoCursor qm_X4_193 rfl rfl (Nat.le_of_ble_eq_true rfl) dX4_take_2 ⟨(Nat.le_of_ble_eq_true rfl), (Nat.le_of_ble_eq_true rfl)⟩ ⟨(Nat.le_of_ble_eq_true rfl), (Nat.le_of_ble_eq_true rfl)⟩ ?_
  refine r_w (w' := WM cy ba ra hf hq kn th sm ++ Y) rfl ?_
  refine r_aload_n C dX4_take_5 rfl ?_
  refine r_iload_n C dX4_take_6 rfl ?_
  refine d_V (st := [.int (nI 0), .ref (ba 9)]) hX.1.stb C hE (D_isShut0 (ba := ba) (ra := ra) (hf := hf) (hq := hq) (kn := kn) (th := th) (sm := sm) (Y := Y) (k0 := k0) hX (by first | omega | (simp [up2, *]; done) | (simp [up2, *]; omega) | (simp only [up2_eq]; omega) | (split <;> omega)) (by first | omega | (simp [up2, *]; done) | (simp [up2, *]; omega) | (simp only [up2_eq]; omega) | (split <;> omega))) pk_X4_isShut qm_X4_196 0 8 rfl rfl wm_0 rfl rfl (Nat.le_of_ble_eq_true rfl) dX4_take_7 ⟨(Nat.le_of_ble_eq_true rfl), (Nat.le_of_ble_eq_true rfl)⟩ ⟨(Nat.le_of_ble_eq_true rfl), (Nat.le_of_ble_eq_true rfl)⟩ ?_
  refine r_w (w' := WM cy ba ra hf hq kn th sm ++ Y) rfl ?_
  refine r_iconst (v := (nI 0)) C dX4_take_10 (by decide) ?_
  refine d_V (st := []) hX.1.stb C hE (D_fails0 (ba := ba) (ra := ra) (hf := hf) (hq := hq) (kn := kn) (th := th) (sm := sm) (Y := Y)  hX ) pk_X4_fails qm_X4_84 0 8 rfl rfl wm_0 rfl rfl (Nat.le_of_ble_eq_true rfl) dX4_take_11 ⟨(Nat.le_of_ble_eq_true rfl), (Nat.le_of_ble_eq_true rfl)⟩ ⟨(Nat.le_of_ble_eq_true rfl), (Nat.le_of_ble_eq_true rfl)⟩ ?_
  refine r_w (w' := WM cy ba ra hf hq kn (nI 0) sm ++ Y) rfl ?_
  refine r_ifN_eq (a := 0) (tgt := 19) C (by first | omega | (simp [up2, *]; done) | (simp [up2, *]; omega) | (simp only [up2_eq]; omega) | (split <;> omega)) dX4_take_14 (by decide) (fun h14_1 => ?_) (fun h14_1 => ?_)
  · skip
    refine r_aload_n C dX4_take_19 rfl ?_
    refine m_get (v := .ref (ba 8)) C 8 (by decide) qf_X4_41 rfl rfl dX4_take_20 ?_
    refine r_iload_n C dX4_take_23 rfl ?_
    refine m_ald (i := k0) (z := k0) (v := hf 8 k0) C 7 (by decide) (by decide) (show k0 < 3 from (by first | omega | (simp [up2, *]; done) | (simp [up2, *]; omega) | (simp only [up2_eq]; omega) | (split <;> omega))) (show 0 + k0 = k0 from (by omega)) rfl dX4_take_24 ?_
    refine r_iconst (v := (nI 4294967295)) C dX4_take_25 (by decide) ?_
    refine r_icN_ne (a := (hf 8 k0)) (b := 4294967295) (tgt := 32) C (by first | omega | (simp [up2, *]; done) | (simp [up2, *]; omega) | (simp only [up2_eq]; omega) | (split <;> omega)) (by first | omega | (simp [up2, *]; done) | (simp [up2, *]; omega) | (simp only [up2_eq]; omega) | (split <;> omega)) dX4_take_26 (by decide) (fun h26_2 => ?_) (fun h26_2 => ?_)
    · skip
      refine r_aload_n C dX4_take_32 rfl ?_
      refine r_aload_n C dX4_take_33 rfl ?_
      refine m_get (v := .ref (ba 6)) C 6 (by decide) qf_X4_35 rfl rfl dX4_take_34 ?_
      refine r_iload_n C dX4_take_37 rfl ?_
      refine m_ald (i := k0) (z := k0) (v := hf 6 k0) C 5 (by decide) (by decide) (show k0 < 3 from (by first | omega | (simp [up2, *]; done) | (simp [up2, *]; omega) | (simp only [up2_eq]; omega) | (split <;> omega))) (show 0 + k0 = k0 from (by omega)) rfl dX4_take_38 ?_
      refine r_iload_n C dX4_take_39 rfl ?_
      refine d_Vv (st := []) hX.1.stb C hE (D_changed (ba := ba) (ra := ra) (hf := hf) (hq := hq) (kn := kn) (th := (nI 0)) (sm := sm) (Y := Y) (f := f) (w := (hf 6 k0)) (d0 := k0) hX hC (MG.same (fun _ => rfl) (fun _ => rfl) hG) hou h5u (by first | omega | (simp [up2, *]; done) | (simp [up2, *]; omega) | (simp only [up2_eq]; omega) | (split <;> omega)) h5M h9a hU) pk_X4_changed qm_X4_74 0 8 rfl rfl wm_0 rfl rfl (Nat.le_of_ble_eq_true rfl) dX4_take_40 ⟨(Nat.le_of_ble_eq_true rfl), (Nat.le_of_ble_eq_true rfl)⟩ ⟨(Nat.le_of_ble_eq_true rfl), (Nat.le_of_ble_eq_true rfl)⟩ ?_
      refine r_w (w' := WM cy ba ra (chM f hf (hf 6 k0) k0) hq kn (nI 0) sm ++ Y) rfl ?_
      refine r_aload_n C dX4_take_43 rfl ?_
      refine r_aload_n C dX4_take_44 rfl ?_
      refine m_get (v := .ref (ba 6)) C 6 (by decide) qf_X4_35 rfl rfl dX4_take_45 ?_
      refine r_iload_n C dX4_take_48 rfl ?_
      refine m_ald (i := k0) (z := k0) (v := hf 6 k0) C 5 (by decide) (by decide) (show k0 < 3 from (by first | omega | (simp [up2, *]; done) | (simp [up2, *]; omega) | (simp only [up2_eq]; omega) | (split <;> omega))) (show 0 + k0 = k0 from (by omega)) rfl dX4_take_49 ?_
      refine r_aload_n C dX4_take_50 rfl ?_
      refine m_get (v := .ref (ba 8)) C 8 (by decide) qf_X4_41 rfl rfl dX4_take_51 ?_
      refine r_iload_n C dX4_take_54 rfl ?_
      refine m_ald (i := k0) (z := k0) (v := hf 8 k0) C 7 (by decide) (by decide) (show k0 < 3 from (by first | omega | (simp [up2, *]; done) | (simp [up2, *]; omega) | (simp only [up2_eq]; omega) | (split <;> omega))) (show 0 + k0 = k0 from (by omega)) rfl dX4_take_55 ?_
      refine r_iconst (v := (nI 1)) C dX4_take_56 (by decide) ?_
      refine r_iconst (v := (nI 0)) C dX4_take_57 (by decide) ?_
      refine r_newT C .int .int 1 rfl (by simp) qa_int (n := 0) (show 0 < 1000000 from Nat.lt_of_le_of_lt (show 0 ≤ 0 from by first | omega | (simp [up2, *]; done) | (simp [up2, *]; omega) | (simp only [up2_eq]; omega) | (split <;> omega)) (by decide)) (2) (4) (Nat.le_of_ble_eq_true rfl) (Nat.add_le_add (Nat.le_refl _) (show 0 ≤ 0 from by first | omega | (simp [up2, *]; done) | (simp [up2, *]; omega) | (simp only [up2_eq]; omega) | (split <;> omega))) (Nat.le_of_ble_eq_true rfl) (Nat.le_of_ble_eq_true rfl) dX4_take_58 (fun b_3 => ?_)
      refine r_w (w' := WM cy ba ra (chM f hf (hf 6 k0) k0) hq kn (nI 0) sm ++ (Y ++ [(b_3, .inl (cy 1, 0, .inl (fun _ => 0)))])) (by simp only [List.append_assoc, List.cons_append, List.nil_append]) ?_
      refine e_V (st := []) hX.1.stb C hE (D_lay (ba := ba) (ra := ra) (hf := (chM f hf (hf 6 k0) k0)) (hq := hq) (kn := kn) (th := (nI 0)) (sm := sm) (f := f) (w := (hf 6 k0)) (p0 := (hf 8 k0)) (o0 := 1) (b0 := b_3) (n0 := 0) (g0 := (fun _ => 0)) (j0 := (Y.length + 0)) hX hC (MG.same (fun _ => rfl) (fun _ => rfl) hG) hou h5u (show f 3 (hf 6 k0) + (hf 8 k0) + 1 ≤ (hf 4 (f 1 (hf 6 k0))) from (by first | omega | (simp [up2, *]; done) | (simp [up2, *]; omega) | (simp only [up2_eq]; omega) | (split <;> omega))) (show (hf 4 (f 1 (hf 6 k0))) ≤ 12 from (by first | omega | (simp [up2, *]; done) | (simp [up2, *]; omega) | (simp only [up2_eq]; omega) | (split <;> omega))) (show (hf 4 (f 1 (hf 6 k0))) - 1 + 0 ≤ 12 from (by first | omega | (simp [up2, *]; done) | (simp [up2, *]; omega) | (simp only [up2_eq]; omega) | (split <;> omega))) (fun x hx hh => (show 1 ≤ hf 4 x + 0 from by have h8 := hM.ho hC hou h5u hx hh; omega)) ((ya_x 0).trans rfl)) pk_X4_lay qm_X4_88 0 8 rfl rfl wm_0 rfl rfl (Nat.le_of_ble_eq_true rfl) dX4_take_60 ⟨(Nat.le_of_ble_eq_true rfl), (Nat.le_of_ble_eq_true rfl)⟩ ⟨(Nat.le_of_ble_eq_true rfl), (Nat.le_of_ble_eq_true rfl)⟩ (fun ra_4 => ?_)
      refine r_w (w' := WM cy ba ra_4 (lyM f (up2 (chM f hf (hf 6 k0) k0) 4 (f 1 (hf 6 k0)) ((chM f hf (hf 6 k0) k0) 4 (f 1 (hf 6 k0)) - 1 + 0)) (hf 6 k0) 0 1) (upR hq (f 1 (hf 6 k0)) (layF (hq (f 1 (hf 6 k0))) (fun _ => 0) (f 3 (hf 6 k0) + (hf 8 k0)) 0 1 ((chM f hf (hf 6 k0) k0) 4 (f 1 (hf 6 k0)) - 1 + 0))) kn (nI 0) sm ++ (Y ++ [(b_3, .inl (cy 1, 0, .inl (fun _ => 0)))])) rfl ?_
      refine r_st (st' := []) rfl ?_
      refine r_aload_n C dX4_take_63 rfl ?_
      refine m_get (v := .ref (ba 7)) C 7 (by decide) qf_X4_38 rfl rfl dX4_take_64 ?_
      refine r_iload_n C dX4_take_67 rfl ?_
      refine r_dup2 C dX4_take_68 rfl rfl ?_
      refine m_ald (i := k0) (z := k0) (v := hf 7 k0) C 6 (by decide) (by decide) (show k0 < 3 from (by first | omega | (simp [up2, *]; done) | (simp [up2, *]; omega) | (simp only [up2_eq]; omega) | (split <;> omega))) (show 0 + k0 = k0 from (by omega)) rfl dX4_take_69 ?_
      refine r_aload_n C dX4_take_70 rfl ?_
      refine m_get (v := .ref (ba 8)) C 8 (by decide) qf_X4_41 rfl rfl dX4_take_71 ?_
      refine r_iload_n C dX4_take_74 rfl ?_
      refine m_ald (i := k0) (z := k0) (v := hf 8 k0) C 7 (by decide) (by decide) (show k0 < 3 from (by first | omega | (simp [up2, *]; done) | (simp [up2, *]; omega) | (simp only [up2_eq]; omega) | (split <;> omega))) (show 0 + k0 = k0 from (by omega)) rfl dX4_take_75 ?_
      refine r_aload_n C dX4_take_76 rfl ?_
      refine m_get (v := .ref (ba 7)) C 7 (by decide) qf_X4_38 rfl rfl dX4_take_77 ?_
      refine r_iload_n C dX4_take_80 rfl ?_
      refine m_ald (i := k0) (z := k0) (v := hf 7 k0) C 6 (by decide) (by decide) (show k0 < 3 from (by first | omega | (simp [up2, *]; done) | (simp [up2, *]; omega) | (simp only [up2_eq]; omega) | (split <;> omega))) (show 0 + k0 = k0 from (by omega)) rfl dX4_take_81 ?_
      refine r_icN_ge (a := (hf 8 k0)) (b := (hf 7 k0)) (tgt := 89) C (by first | omega | (simp [up2, *]; done) | (simp [up2, *]; omega) | (simp only [up2_eq]; omega) | (split <;> omega)) (by first | omega | (simp [up2, *]; done) | (simp [up2, *]; omega) | (simp only [up2_eq]; omega) | (split <;> omega)) dX4_take_82 (by decide) (fun h82_5 => ?_) (fun h82_5 => ?_)
      · exact absurd h82_5 (by first | omega | (simp [up2, *]; done) | (simp [up2, *]; omega) | (simp only [up2_eq]; omega) | (split <;> omega))
      · skip
        refine r_iconst (v := (nI 1)) C dX4_take_85 (by decide) ?_
        refine r_goto (tgt := 90) C dX4_take_86 (by decide) ?_
        refine d_S (st := [.int (nI (hf 7 k0)), .int (nI k0), .ref (ba 7)]) hX.1.stb C hE (D_one (ba := ba) (ra := ra_4) (hf := (lyM f (up2 (chM f hf (hf 6 k0) k0) 4 (f 1 (hf 6 k0)) ((chM f hf (hf 6 k0) k0) 4 (f 1 (hf 6 k0)) - 1 + 0)) (hf 6 k0) 0 1)) (hq := (upR hq (f 1 (hf 6 k0)) (layF (hq (f 1 (hf 6 k0))) (fun _ => 0) (f 3 (hf 6 k0) + (hf 8 k0)) 0 1 ((chM f hf (hf 6 k0) k0) 4 (f 1 (hf 6 k0)) - 1 + 0)))) (kn := kn) (th := (nI 0)) (sm := sm) (b0 := 1) hX (by first | omega | (simp [up2, *]; done) | (simp [up2, *]; omega) | (simp only [up2_eq]; omega) | (split <;> omega))) pk_X4_one qm_X4_136 rfl rfl (Nat.le_of_ble_eq_true rfl) dX4_take_90 ⟨(Nat.le_of_ble_eq_true rfl), (Nat.le_of_ble_eq_true rfl)⟩ ⟨(Nat.le_of_ble_eq_true rfl), (Nat.le_of_ble_eq_true rfl)⟩ ?_
        refine r_w (w' := WM cy ba ra_4 (lyM f (up2 (chM f hf (hf 6 k0) k0) 4 (f 1 (hf 6 k0)) ((chM f hf (hf 6 k0) k0) 4 (f 1 (hf 6 k0)) - 1 + 0)) (hf 6 k0) 0 1) (upR hq (f 1 (hf 6 k0)) (layF (hq (f 1 (hf 6 k0))) (fun _ => 0) (f 3 (hf 6 k0) + (hf 8 k0)) 0 1 ((chM f hf (hf 6 k0) k0) 4 (f 1 (hf 6 k0)) - 1 + 0))) kn (nI 0) sm ++ (Y ++ [(b_3, .inl (cy 1, 0, .inl (fun _ => 0)))])) rfl ?_
        refine r_isubN C dX4_take_93 (by first | omega | (simp [up2, *]; done) | (simp [up2, *]; omega) | (simp only [up2_eq]; omega) | (split <;> omega)) ?_
        refine m_ast (i := k0) (z := k0) (v := (hf 7 k0) - 1) C 6 (by decide) (by decide) (show k0 < 3 from (by first | omega | (simp [up2, *]; done) | (simp [up2, *]; omega) | (simp only [up2_eq]; omega) | (split <;> omega))) (show 0 + k0 = k0 from (by omega)) dX4_take_94 ?_
        refine r_w (w' := WM cy ba ra_4 (up2 (lyM f (up2 (chM f hf (hf 6 k0) k0) 4 (f 1 (hf 6 k0)) ((chM f hf (hf 6 k0) k0) 4 (f 1 (hf 6 k0)) - 1 + 0)) (hf 6 k0) 0 1) 7 k0 ((hf 7 k0) - 1)) (upR hq (f 1 (hf 6 k0)) (layF (hq (f 1 (hf 6 k0))) (fun _ => 0) (f 3 (hf 6 k0) + (hf 8 k0)) 0 1 ((chM f hf (hf 6 k0) k0) 4 (f 1 (hf 6 k0)) - 1 + 0))) kn (nI 0) sm ++ (Y ++ [(b_3, .inl (cy 1, 0, .inl (fun _ => 0)))])) rfl ?_
        refine r_aload_n C dX4_take_95 rfl ?_
        refine m_get (v := .ref (ba 8)) C 8 (by decide) qf_X4_41 rfl rfl dX4_take_96 ?_
        refine r_iload_n C dX4_take_99 rfl ?_
        refine r_iconst (v := (nI 4294967295)) C dX4_take_100 (by decide) ?_
        refine m_ast (i := k0) (z := k0) (v := 4294967295) C 7 (by decide) (by decide) (show k0 < 3 from (by first | omega | (simp [up2, *]; done) | (simp [up2, *]; omega) | (simp only [up2_eq]; omega) | (split <;> omega))) (show 0 + k0 = k0 from (by omega)) dX4_take_101 ?_
        refine r_w (w' := WM cy ba ra_4 (up2 (up2 (lyM f (up2 (chM f hf (hf 6 k0) k0) 4 (f 1 (hf 6 k0)) ((chM f hf (hf 6 k0) k0) 4 (f 1 (hf 6 k0)) - 1 + 0)) (hf 6 k0) 0 1) 7 k0 ((hf 7 k0) - 1)) 8 k0 4294967295) (upR hq (f 1 (hf 6 k0)) (layF (hq (f 1 (hf 6 k0))) (fun _ => 0) (f 3 (hf 6 k0) + (hf 8 k0)) 0 1 ((chM f hf (hf 6 k0) k0) 4 (f 1 (hf 6 k0)) - 1 + 0))) kn (nI 0) sm ++ (Y ++ [(b_3, .inl (cy 1, 0, .inl (fun _ => 0)))])) rfl ?_
        refine r_aload_n C dX4_take_102 rfl ?_
        refine m_get (v := .ref (ba 7)) C 7 (by decide) qf_X4_38 rfl rfl dX4_take_103 ?_
        refine r_iload_n C dX4_take_106 rfl ?_
        refine m_ald (i := k0) (z := k0) (v := (hf 7 k0) - 1) C 6 (by decide) (by decide) (show k0 < 3 from (by first | omega | (simp [up2, *]; done) | (simp [up2, *]; omega) | (simp only [up2_eq]; omega) | (split <;> omega))) (show 0 + k0 = k0 from (by omega)) (show (up2 (lyM f (up2 (chM f hf (hf 6 k0) k0) 4 (f 1 (hf 6 k0)) ((chM f hf (hf 6 k0) k0) 4 (f 1 (hf 6 k0)) - 1 + 0)) (hf 6 k0) 0 1) 7 k0 ((hf 7 k0) - 1)) 7 k0 = (hf 7 k0) - 1 by simp [up2, *]) dX4_take_107 ?_
        refine r_pre ?_
        exact r_iret C hr dX4_take_108 ⟨_, rfl, rfl⟩ (Nat.le_of_ble_eq_true rfl) (Nat.le_of_ble_eq_true rfl)
    · exact absurd h26_2 (by first | omega | (simp [up2, *]; done) | (simp [up2, *]; omega) | (simp only [up2_eq]; omega) | (split <;> omega))
  · exact absurd h14_1 (by first | omega | (simp [up2, *]; done) | (simp [up2, *]; omega) | (simp only [up2_eq]; omega) | (split <;> omega))
theorem dX4_take_89 : decode cX4_take 89 = .ok (.iconst 0, 1) := dqo_3 (kb_X4_take_1 25 rfl)
set_option maxRecDepth 100000 in
set_option maxHeartbeats 4000000 in
theorem D_take_b {l : Launch} {D : va_G} {cy : Nat → ClassId} {X : (Nat → Prop) → State → Heap → Prop} {ba ra : Nat → Nat} {hf : Nat → Nat → Nat} {hq : Nat → Nat → Int32} {kn th : Int32} {sm : Int64} {Y : va_W} {f : Nat → Nat → Nat} {r : Nat → Nat → Int32} {k0 : Nat} (hX : EnvM X cy) (hC : CInv f) (hM : MR f r hf hq) (hk3 : k0 < 3) (h9 : f 9 k0 = 1) (hl : f 8 k0 ≠ 4294967295) (hx : f 7 k0 ≤ f 8 k0) : Cm l D cy X yX4_take cX4_take 2 (some .int) (rmk 9 4 48 420) [.ref (ba 9), .int (nI k0)] (WM cy ba ra hf hq kn th sm ++ Y) (fun v1 w1 => ∃ ra9 : Nat → Nat, v1 = some (.int (nI ((hf 7 k0) - 0))) ∧ w1 = WM cy ba ra9 (up2 (up2 (lyM f (up2 (chM f hf (hf 6 k0) k0) 4 (f 1 (hf 6 k0)) ((chM f hf (hf 6 k0) k0) 4 (f 1 (hf 6 k0)) - 1 + 0)) (hf 6 k0) 0 1) 7 k0 ((hf 7 k0) - 0)) 8 k0 4294967295) (upR hq (f 1 (hf 6 k0)) (layF (hq (f 1 (hf 6 k0))) (fun _ => 0) (f 3 (hf 6 k0) + (hf 8 k0)) 0 1 ((chM f hf (hf 6 k0) k0) 4 (f 1 (hf 6 k0)) - 1 + 0))) kn (nI 0) sm ++ Y) (fun _ => False) := by
  have hG := hM.1
  have h5M := hM.h5M hC
  have h4M := hC.h4M
  have h9a := hM.h9a hC
  have h6a := hM.h6a
  have hU := hM.hU hC
  have qu := hM.cu hC hk3
  have qo := qu.2.2.2 h9
  have hou : hf 6 k0 < 8 := qu.2.2.1
  have h5u : f 5 (hf 6 k0) = 1 := by rw [qo.1]; exact qo.2.2.2.2.1
  have e6 : f 4 (hf 6 k0) = f 4 (f 6 k0) := by rw [qo.1]
  have wu := hM.wh hC hou h5u
  have e1 : f 4 (f 1 (hf 6 k0)) = f 4 (f 1 (f 6 k0)) := by rw [qo.1]
  refine Cm.of [some (.ref (ba 9)), some (.int (nI k0))] pn_X4 rfl (Nat.le_of_ble_eq_true rfl) ?_
  intro p e s m args below meth c A C hE hr hnt hn
  refine r_aload_n C dX4_take_0 rfl ?_
  refine r_iload_n C dX4_take_1 rfl ?_
  refine d_S (st := [.ref (ba 9)]) hX.1.stb C hE (D_isNoCursor0 (ba := ba) (ra := ra) (hf := hf) (hq := hq) (kn := kn) (th := th) (sm := sm) (Y := Y) (i := k0) hX (by first | omega | (simp [up2, *]; done) | (simp [up2, *]; omega) | (simp only [up2_eq]; omega) | (split <;> omega))) pk_X4_isNoCursor qm_X4_193 rfl rfl (Nat.le_of_ble_eq_true rfl) dX4_take_2 ⟨(Nat.le_of_ble_eq_true rfl), (Nat.le_of_ble_eq_true rfl)⟩ ⟨(Nat.le_of_ble_eq_true rfl), (Nat.le_of_ble_eq_true rfl)⟩ ?_
  refine r_w (w' := WM cy ba ra hf hq kn th sm ++ Y) rfl ?_
  refine r_aload_n C dX4_take_5 rfl ?_
  refine r_iload_n C dX4_take_6 rfl ?_
  refine d_V (st := [.int (nI 0), .ref (ba 9)]) hX.1.stb C hE (D_isShut0 (ba := ba) (ra := ra) (hf := hf) (hq := hq) (kn := kn) (th := th) (sm := sm) (Y := Y) (k0 := k0) hX (by first | omega | (simp [up2, *]; done) | (simp [up2, *]; omega) | (simp only [up2_eq]; omega) | (split <;> omega)) (by first | omega | (simp [up2, *]; done) | (simp [up2, *]; omega) | (simp only [up2_eq]; omega) | (split <;> omega))) pk_X4_isShut qm_X4_196 0 8 rfl rfl wm_0 rfl rfl (Nat.le_of_ble_eq_true rfl) dX4_take_7 ⟨(Nat.le_of_ble_eq_true rfl), (Nat.le_of_ble_eq_true rfl)⟩ ⟨(Nat.le_of_ble_eq_true rfl), (Nat.le_of_ble_eq_true rfl)⟩ ?_
  refine r_w (w' := WM cy ba ra hf hq kn th sm ++ Y) rfl ?_
  refine r_iconst (v := (nI 0)) C dX4_take_10 (by decide) ?_
  refine d_V (st := []) hX.1.stb C hE (D_fails0 (ba := ba) (ra := ra) (hf := hf) (hq := hq) (kn := kn) (th := th) (sm := sm) (Y := Y)  hX ) pk_X4_fails qm_X4_84 0 8 rfl rfl wm_0 rfl rfl (Nat.le_of_ble_eq_true rfl) dX4_take_11 ⟨(Nat.le_of_ble_eq_true rfl), (Nat.le_of_ble_eq_true rfl)⟩ ⟨(Nat.le_of_ble_eq_true rfl), (Nat.le_of_ble_eq_true rfl)⟩ ?_
  refine r_w (w' := WM cy ba ra hf hq kn (nI 0) sm ++ Y) rfl ?_
  refine r_ifN_eq (a := 0) (tgt := 19) C (by first | omega | (simp [up2, *]; done) | (simp [up2, *]; omega) | (simp only [up2_eq]; omega) | (split <;> omega)) dX4_take_14 (by decide) (fun h14_1 => ?_) (fun h14_1 => ?_)
  · skip
    refine r_aload_n C dX4_take_19 rfl ?_
    refine m_get (v := .ref (ba 8)) C 8 (by decide) qf_X4_41 rfl rfl dX4_take_20 ?_
    refine r_iload_n C dX4_take_23 rfl ?_
    refine m_ald (i := k0) (z := k0) (v := hf 8 k0) C 7 (by decide) (by decide) (show k0 < 3 from (by first | omega | (simp [up2, *]; done) | (simp [up2, *]; omega) | (simp only [up2_eq]; omega) | (split <;> omega))) (show 0 + k0 = k0 from (by omega)) rfl dX4_take_24 ?_
    refine r_iconst (v := (nI 4294967295)) C dX4_take_25 (by decide) ?_
    refine r_icN_ne (a := (hf 8 k0)) (b := 4294967295) (tgt := 32) C (by first | omega | (simp [up2, *]; done) | (simp [up2, *]; omega) | (simp only [up2_eq]; omega) | (split <;> omega)) (by first | omega | (simp [up2, *]; done) | (simp [up2, *]; omega) | (simp only [up2_eq]; omega) | (split <;> omega)) dX4_take_26 (by decide) (fun h26_2 => ?_) (fun h26_2 => ?_)
    · skip
      refine r_aload_n C dX4_take_32 rfl ?_
      refine r_aload_n C dX4_take_33 rfl ?_
      refine m_get (v := .ref (ba 6)) C 6 (by decide) qf_X4_35 rfl rfl dX4_take_34 ?_
      refine r_iload_n C dX4_take_37 rfl ?_
      refine m_ald (i := k0) (z := k0) (v := hf 6 k0) C 5 (by decide) (by decide) (show k0 < 3 from (by first | omega | (simp [up2, *]; done) | (simp [up2, *]; omega) | (simp only [up2_eq]; omega) | (split <;> omega))) (show 0 + k0 = k0 from (by omega)) rfl dX4_take_38 ?_
      refine r_iload_n C dX4_take_39 rfl ?_
      refine d_Vv (st := []) hX.1.stb C hE (D_changed (ba := ba) (ra := ra) (hf := hf) (hq := hq) (kn := kn) (th := (nI 0)) (sm := sm) (Y := Y) (f := f) (w := (hf 6 k0)) (d0 := k0) hX hC (MG.same (fun _ => rfl) (fun _ => rfl) hG) hou h5u (by first | omega | (simp [up2, *]; done) | (simp [up2, *]; omega) | (simp only [up2_eq]; omega) | (split <;> omega)) h5M h9a hU) pk_X4_changed qm_X4_74 0 8 rfl rfl wm_0 rfl rfl (Nat.le_of_ble_eq_true rfl) dX4_take_40 ⟨(Nat.le_of_ble_eq_true rfl), (Nat.le_of_ble_eq_true rfl)⟩ ⟨(Nat.le_of_ble_eq_true rfl), (Nat.le_of_ble_eq_true rfl)⟩ ?_
      refine r_w (w' := WM cy ba ra (chM f hf (hf 6 k0) k0) hq kn (nI 0) sm ++ Y) rfl ?_
      refine r_aload_n C dX4_take_43 rfl ?_
      refine r_aload_n C dX4_take_44 rfl ?_
      refine m_get (v := .ref (ba 6)) C 6 (by decide) qf_X4_35 rfl rfl dX4_take_45 ?_
      refine r_iload_n C dX4_take_48 rfl ?_
      refine m_ald (i := k0) (z := k0) (v := hf 6 k0) C 5 (by decide) (by decide) (show k0 < 3 from (by first | omega | (simp [up2, *]; done) | (simp [up2, *]; omega) | (simp only [up2_eq]; omega) | (split <;> omega))) (show 0 + k0 = k0 from (by omega)) rfl dX4_take_49 ?_
      refine r_aload_n C dX4_take_50 rfl ?_
      refine m_get (v := .ref (ba 8)) C 8 (by decide) qf_X4_41 rfl rfl dX4_take_51 ?_
      refine r_iload_n C dX4_take_54 rfl ?_
      refine m_ald (i := k0) (z := k0) (v := hf 8 k0) C 7 (by decide) (by decide) (show k0 < 3 from (by first | omega | (simp [up2, *]; done) | (simp [up2, *]; omega) | (simp only [up2_eq]; omega) | (split <;> omega))) (show 0 + k0 = k0 from (by omega)) rfl dX4_take_55 ?_
      refine r_iconst (v := (nI 1)) C dX4_take_56 (by decide) ?_
      refine r_iconst (v := (nI 0)) C dX4_take_57 (by decide) ?_
      refine r_newT C .int .int 1 rfl (by simp) qa_int (n := 0) (show 0 < 1000000 from Nat.lt_of_le_of_lt (show 0 ≤ 0 from by first | omega | (simp [up2, *]; done) | (simp [up2, *]; omega) | (simp only [up2_eq]; omega) | (split <;> omega)) (by decide)) (2) (4) (Nat.le_of_ble_eq_true rfl) (Nat.add_le_add (Nat.le_refl _) (show 0 ≤ 0 from by first | omega | (simp [up2, *]; done) | (simp [up2, *]; omega) | (simp only [up2_eq]; omega) | (split <;> omega))) (Nat.le_of_ble_eq_true rfl) (Nat.le_of_ble_eq_true rfl) dX4_take_58 (fun b_3 => ?_)
      refine r_w (w' := WM cy ba ra (chM f hf (hf 6 k0) k0) hq kn (nI 0) sm ++ (Y ++ [(b_3, .inl (cy 1, 0, .inl (fun _ => 0)))])) (by simp only [List.append_assoc, List.cons_append, List.nil_append]) ?_
      refine e_V (st := []) hX.1.stb C hE (D_lay (ba := ba) (ra := ra) (hf := (chM f hf (hf 6 k0) k0)) (hq := hq) (kn := kn) (th := (nI 0)) (sm := sm) (f := f) (w := (hf 6 k0)) (p0 := (hf 8 k0)) (o0 := 1) (b0 := b_3) (n0 := 0) (g0 := (fun _ => 0)) (j0 := (Y.length + 0)) hX hC (MG.same (fun _ => rfl) (fun _ => rfl) hG) hou h5u (show f 3 (hf 6 k0) + (hf 8 k0) + 1 ≤ (hf 4 (f 1 (hf 6 k0))) from (by first | omega | (simp [up2, *]; done) | (simp [up2, *]; omega) | (simp only [up2_eq]; omega) | (split <;> omega))) (show (hf 4 (f 1 (hf 6 k0))) ≤ 12 from (by first | omega | (simp [up2, *]; done) | (simp [up2, *]; omega) | (simp only [up2_eq]; omega) | (split <;> omega))) (show (hf 4 (f 1 (hf 6 k0))) - 1 + 0 ≤ 12 from (by first | omega | (simp [up2, *]; done) | (simp [up2, *]; omega) | (simp only [up2_eq]; omega) | (split <;> omega))) (fun x hx hh => (show 1 ≤ hf 4 x + 0 from by have h8 := hM.ho hC hou h5u hx hh; omega)) ((ya_x 0).trans rfl)) pk_X4_lay qm_X4_88 0 8 rfl rfl wm_0 rfl rfl (Nat.le_of_ble_eq_true rfl) dX4_take_60 ⟨(Nat.le_of_ble_eq_true rfl), (Nat.le_of_ble_eq_true rfl)⟩ ⟨(Nat.le_of_ble_eq_true rfl), (Nat.le_of_ble_eq_true rfl)⟩ (fun ra_4 => ?_)
      refine r_w (w' := WM cy ba ra_4 (lyM f (up2 (chM f hf (hf 6 k0) k0) 4 (f 1 (hf 6 k0)) ((chM f hf (hf 6 k0) k0) 4 (f 1 (hf 6 k0)) - 1 + 0)) (hf 6 k0) 0 1) (upR hq (f 1 (hf 6 k0)) (layF (hq (f 1 (hf 6 k0))) (fun _ => 0) (f 3 (hf 6 k0) + (hf 8 k0)) 0 1 ((chM f hf (hf 6 k0) k0) 4 (f 1 (hf 6 k0)) - 1 + 0))) kn (nI 0) sm ++ (Y ++ [(b_3, .inl (cy 1, 0, .inl (fun _ => 0)))])) rfl ?_
      refine r_st (st' := []) rfl ?_
      refine r_aload_n C dX4_take_63 rfl ?_
      refine m_get (v := .ref (ba 7)) C 7 (by decide) qf_X4_38 rfl rfl dX4_take_64 ?_
      refine r_iload_n C dX4_take_67 rfl ?_
      refine r_dup2 C dX4_take_68 rfl rfl ?_
      refine m_ald (i := k0) (z := k0) (v := hf 7 k0) C 6 (by decide) (by decide) (show k0 < 3 from (by first | omega | (simp [up2, *]; done) | (simp [up2, *]; omega) | (simp only [up2_eq]; omega) | (split <;> omega))) (show 0 + k0 = k0 from (by omega)) rfl dX4_take_69 ?_
      refine r_aload_n C dX4_take_70 rfl ?_
      refine m_get (v := .ref (ba 8)) C 8 (by decide) qf_X4_41 rfl rfl dX4_take_71 ?_
      refine r_iload_n C dX4_take_74 rfl ?_
      refine m_ald (i := k0) (z := k0) (v := hf 8 k0) C 7 (by decide) (by decide) (show k0 < 3 from (by first | omega | (simp [up2, *]; done) | (simp [up2, *]; omega) | (simp only [up2_eq]; omega) | (split <;> omega))) (show 0 + k0 = k0 from (by omega)) rfl dX4_take_75 ?_
      refine r_aload_n C dX4_take_76 rfl ?_
      refine m_get (v := .ref (ba 7)) C 7 (by decide) qf_X4_38 rfl rfl dX4_take_77 ?_
      refine r_iload_n C dX4_take_80 rfl ?_
      refine m_ald (i := k0) (z := k0) (v := hf 7 k0) C 6 (by decide) (by decide) (show k0 < 3 from (by first | omega | (simp [up2, *]; done) | (simp [up2, *]; omega) | (simp only [up2_eq]; omega) | (split <;> omega))) (show 0 + k0 = k0 from (by omega)) rfl dX4_take_81 ?_
      refine r_icN_ge (a := (hf 8 k0)) (b := (hf 7 k0)) (tgt := 89) C (by first | omega | (simp [up2, *]; done) | (simp [up2, *]; omega) | (simp only [up2_eq]; omega) | (split <;> omega)) (by first | omega | (simp [up2, *]; done) | (simp [up2, *]; omega) | (simp only [up2_eq]; omega) | (split <;> omega)) dX4_take_82 (by decide) (fun h82_5 => ?_) (fun h82_5 => ?_)
      · skip
        refine r_iconst (v := (nI 0)) C dX4_take_89 (by decide) ?_
        refine d_S (st := [.int (nI (hf 7 k0)), .int (nI k0), .ref (ba 7)]) hX.1.stb C hE (D_one (ba := ba) (ra := ra_4) (hf := (lyM f (up2 (chM f hf (hf 6 k0) k0) 4 (f 1 (hf 6 k0)) ((chM f hf (hf 6 k0) k0) 4 (f 1 (hf 6 k0)) - 1 + 0)) (hf 6 k0) 0 1)) (hq := (upR hq (f 1 (hf 6 k0)) (layF (hq (f 1 (hf 6 k0))) (fun _ => 0) (f 3 (hf 6 k0) + (hf 8 k0)) 0 1 ((chM f hf (hf 6 k0) k0) 4 (f 1 (hf 6 k0)) - 1 + 0)))) (kn := kn) (th := (nI 0)) (sm := sm) (b0 := 0) hX (by first | omega | (simp [up2, *]; done) | (simp [up2, *]; omega) | (simp only [up2_eq]; omega) | (split <;> omega))) pk_X4_one qm_X4_136 rfl rfl (Nat.le_of_ble_eq_true rfl) dX4_take_90 ⟨(Nat.le_of_ble_eq_true rfl), (Nat.le_of_ble_eq_true rfl)⟩ ⟨(Nat.le_of_ble_eq_true rfl), (Nat.le_of_ble_eq_true rfl)⟩ ?_
        refine r_w (w' := WM cy ba ra_4 (lyM f (up2 (chM f hf (hf 6 k0) k0) 4 (f 1 (hf 6 k0)) ((chM f hf (hf 6 k0) k0) 4 (f 1 (hf 6 k0)) - 1 + 0)) (hf 6 k0) 0 1) (upR hq (f 1 (hf 6 k0)) (layF (hq (f 1 (hf 6 k0))) (fun _ => 0) (f 3 (hf 6 k0) + (hf 8 k0)) 0 1 ((chM f hf (hf 6 k0) k0) 4 (f 1 (hf 6 k0)) - 1 + 0))) kn (nI 0) sm ++ (Y ++ [(b_3, .inl (cy 1, 0, .inl (fun _ => 0)))])) rfl ?_
        refine r_isubN C dX4_take_93 (by first | omega | (simp [up2, *]; done) | (simp [up2, *]; omega) | (simp only [up2_eq]; omega) | (split <;> omega)) ?_
        refine m_ast (i := k0) (z := k0) (v := (hf 7 k0) - 0) C 6 (by decide) (by decide) (show k0 < 3 from (by first | omega | (simp [up2, *]; done) | (simp [up2, *]; omega) | (simp only [up2_eq]; omega) | (split <;> omega))) (show 0 + k0 = k0 from (by omega)) dX4_take_94 ?_
        refine r_w (w' := WM cy ba ra_4 (up2 (lyM f (up2 (chM f hf (hf 6 k0) k0) 4 (f 1 (hf 6 k0)) ((chM f hf (hf 6 k0) k0) 4 (f 1 (hf 6 k0)) - 1 + 0)) (hf 6 k0) 0 1) 7 k0 ((hf 7 k0) - 0)) (upR hq (f 1 (hf 6 k0)) (layF (hq (f 1 (hf 6 k0))) (fun _ => 0) (f 3 (hf 6 k0) + (hf 8 k0)) 0 1 ((chM f hf (hf 6 k0) k0) 4 (f 1 (hf 6 k0)) - 1 + 0))) kn (nI 0) sm ++ (Y ++ [(b_3, .inl (cy 1, 0, .inl (fun _ => 0)))])) rfl ?_
        refine r_aload_n C dX4_take_95 rfl ?_
        refine m_get (v := .ref (ba 8)) C 8 (by decide) qf_X4_41 rfl rfl dX4_take_96 ?_
        refine r_iload_n C dX4_take_99 rfl ?_
        refine r_iconst (v := (nI 4294967295)) C dX4_take_100 (by decide) ?_
        refine m_ast (i := k0) (z := k0) (v := 4294967295) C 7 (by decide) (by decide) (show k0 < 3 from (by first | omega | (simp [up2, *]; done) | (simp [up2, *]; omega) | (simp only [up2_eq]; omega) | (split <;> omega))) (show 0 + k0 = k0 from (by omega)) dX4_take_101 ?_
        refine r_w (w' := WM cy ba ra_4 (up2 (up2 (lyM f (up2 (chM f hf (hf 6 k0) k0) 4 (f 1 (hf 6 k0)) ((chM f hf (hf 6 k0) k0) 4 (f 1 (hf 6 k0)) - 1 + 0)) (hf 6 k0) 0 1) 7 k0 ((hf 7 k0) - 0)) 8 k0 4294967295) (upR hq (f 1 (hf 6 k0)) (layF (hq (f 1 (hf 6 k0))) (fun _ => 0) (f 3 (hf 6 k0) + (hf 8 k0)) 0 1 ((chM f hf (hf 6 k0) k0) 4 (f 1 (hf 6 k0)) - 1 + 0))) kn (nI 0) sm ++ (Y ++ [(b_3, .inl (cy 1, 0, .inl (fun _ => 0)))])) rfl ?_
        refine r_aload_n C dX4_take_102 rfl ?_
        refine m_get (v := .ref (ba 7)) C 7 (by decide) qf_X4_38 rfl rfl dX4_take_103 ?_
        refine r_iload_n C dX4_take_106 rfl ?_
        refine m_ald (i := k0) (z := k0) (v := (hf 7 k0) - 0) C 6 (by decide) (by decide) (show k0 < 3 from (by first | omega | (simp [up2, *]; done) | (simp [up2, *]; omega) | (simp only [up2_eq]; omega) | (split <;> omega))) (show 0 + k0 = k0 from (by omega)) (show (up2 (lyM f (up2 (chM f hf (hf 6 k0) k0) 4 (f 1 (hf 6 k0)) ((chM f hf (hf 6 k0) k0) 4 (f 1 (hf 6 k0)) - 1 + 0)) (hf 6 k0) 0 1) 7 k0 ((hf 7 k0) - 0)) 7 k0 = (hf 7 k0) - 0 by simp [up2, *]) dX4_take_107 ?_
        refine r_pre ?_
        exact r_iret C hr dX4_take_108 ⟨_, rfl, rfl⟩ (Nat.le_of_ble_eq_true rfl) (Nat.le_of_ble_eq_true rfl)
      · exact absurd h82_5 (by first | omega | (simp [up2, *]; done) | (simp [up2, *]; omega) | (simp only [up2_eq]; omega) | (split <;> omega))
    · exact absurd h26_2 (by first | omega | (simp [up2, *]; done) | (simp [up2, *]; omega) | (simp only [up2_eq]; omega) | (split <;> omega))
  · exact absurd h14_1 (by first | omega | (simp [up2, *]; done) | (simp [up2, *]; omega) | (simp only [up2_eq]; omega) | (split <;> omega))
theorem dX4_replace_22 : decode cX4_replace 22 = .ok (.aload_n 0, 1) := dqo_42 (kb_X4_replace_0 22 rfl)
theorem dX4_replace_23 : decode cX4_replace 23 = .ok (.getfield 41, 3) := dqo_180 0 41 (kb_X4_replace_0 23 rfl) (kb_X4_replace_0 24 rfl) (kb_X4_replace_0 25 rfl)
theorem dX4_replace_26 : decode cX4_replace 26 = .ok (.iload_n 1, 1) := dqo_27 (kb_X4_replace_0 26 rfl)
theorem dX4_replace_27 : decode cX4_replace 27 = .ok (.iaload, 1) := dqo_46 (kb_X4_replace_0 27 rfl)
theorem dX4_replace_28 : decode cX4_replace 28 = .ok (.iconst (-1), 1) := dqo_2 (kb_X4_replace_0 28 rfl)
theorem dX4_replace_29 : decode cX4_replace 29 = .ok (.if_icmp .ne 6, 3) := dqo_160 0 6 (by decide) (kb_X4_replace_0 29 rfl) (kb_X4_replace_0 30 rfl) (kb_X4_replace_0 31 rfl)
theorem dX4_replace_32 : decode cX4_replace 32 = .ok (.bipush (-9), 2) := dqo_16 247 (by decide) (kb_X4_replace_0 32 rfl) (kb_X4_replace_0 33 rfl)
theorem dX4_replace_34 : decode cX4_replace 34 = .ok (.ireturn, 1) := dqo_172 (kb_X4_replace_0 34 rfl)
set_option maxRecDepth 100000 in
set_option maxHeartbeats 4000000 in
theorem D_replace_ref {l : Launch} {D : va_G} {cy : Nat → ClassId} {X : (Nat → Prop) → State → Heap → Prop} {ba ra : Nat → Nat} {hf : Nat → Nat → Nat} {hq : Nat → Nat → Int32} {kn th : Int32} {sm : Int64} {Y : va_W} {f : Nat → Nat → Nat} {r : Nat → Nat → Int32} {k0 : Nat} {y : Int32} (hX : EnvM X cy) (hC : CInv f) (hM : MR f r hf hq) (hk3 : k0 < 3) (ho : okI y) (h9 : f 9 k0 = 1) (hl : f 8 k0 = 4294967295) : Cd l D cy X yX4_replace cX4_replace 3 (some .int) (rmk 9 4 48 420) [.ref (ba 9), .int (nI k0), .int y] (WM cy ba ra hf hq kn th sm ++ Y) (some (.int (nI 4294967287))) (WM cy ba ra hf hq kn (nI 0) sm ++ Y) := by
  have hG := hM.1
  have h5M := hM.h5M hC
  have h4M := hC.h4M
  have h9a := hM.h9a hC
  have h6a := hM.h6a
  have hU := hM.hU hC
  have qu := hM.cu hC hk3
  have qo := qu.2.2.2 h9
  have hou : hf 6 k0 < 8 := qu.2.2.1
  have h5u : f 5 (hf 6 k0) = 1 := by rw [qo.1]; exact qo.2.2.2.2.1
  have e6 : f 4 (hf 6 k0) = f 4 (f 6 k0) := by rw [qo.1]
  have wu := hM.wh hC hou h5u
  refine Cm.of [some (.ref (ba 9)), some (.int (nI k0)), some (.int y)] pn_X4 rfl (Nat.le_of_ble_eq_true rfl) ?_
  intro p e s m args below meth c A C hE hr hnt hn
  refine r_aload_n C dX4_replace_0 rfl ?_
  refine r_iload_n C dX4_replace_1 rfl ?_
  refine d_S (st := [.ref (ba 9)]) hX.1.stb C hE (D_isNoCursor0 (ba := ba) (ra := ra) (hf := hf) (hq := hq) (kn := kn) (th := th) (sm := sm) (Y := Y) (i := k0) hX (by first | omega | (simp [up2, *]; done) | (simp [up2, *]; omega) | (simp only [up2_eq]; omega) | (split <;> omega))) pk_X4_isNoCursor qm_X4_193 rfl rfl (Nat.le_of_ble_eq_true rfl) dX4_replace_2 ⟨(Nat.le_of_ble_eq_true rfl), (Nat.le_of_ble_eq_true rfl)⟩ ⟨(Nat.le_of_ble_eq_true rfl), (Nat.le_of_ble_eq_true rfl)⟩ ?_
  refine r_w (w' := WM cy ba ra hf hq kn th sm ++ Y) rfl ?_
  refine r_iload_n C dX4_replace_5 rfl ?_
  refine d_S (st := [.int (nI 0), .ref (ba 9)]) hX.1.stb C hE (D_isNoItem0 (ba := ba) (ra := ra) (hf := hf) (hq := hq) (kn := kn) (th := th) (sm := sm) (Y := Y) (y := (y)) hX ho) pk_X4_isNoItem qm_X4_78 rfl rfl (Nat.le_of_ble_eq_true rfl) dX4_replace_6 ⟨(Nat.le_of_ble_eq_true rfl), (Nat.le_of_ble_eq_true rfl)⟩ ⟨(Nat.le_of_ble_eq_true rfl), (Nat.le_of_ble_eq_true rfl)⟩ ?_
  refine r_w (w' := WM cy ba ra hf hq kn th sm ++ Y) rfl ?_
  refine r_aload_n C dX4_replace_9 rfl ?_
  refine r_iload_n C dX4_replace_10 rfl ?_
  refine d_V (st := [.int (nI 0), .int (nI 0), .ref (ba 9)]) hX.1.stb C hE (D_isShut0 (ba := ba) (ra := ra) (hf := hf) (hq := hq) (kn := kn) (th := th) (sm := sm) (Y := Y) (k0 := k0) hX (by first | omega | (simp [up2, *]; done) | (simp [up2, *]; omega) | (simp only [up2_eq]; omega) | (split <;> omega)) (by first | omega | (simp [up2, *]; done) | (simp [up2, *]; omega) | (simp only [up2_eq]; omega) | (split <;> omega))) pk_X4_isShut qm_X4_196 0 8 rfl rfl wm_0 rfl rfl (Nat.le_of_ble_eq_true rfl) dX4_replace_11 ⟨(Nat.le_of_ble_eq_true rfl), (Nat.le_of_ble_eq_true rfl)⟩ ⟨(Nat.le_of_ble_eq_true rfl), (Nat.le_of_ble_eq_true rfl)⟩ ?_
  refine r_w (w' := WM cy ba ra hf hq kn th sm ++ Y) rfl ?_
  refine d_V (st := []) hX.1.stb C hE (D_fails0 (ba := ba) (ra := ra) (hf := hf) (hq := hq) (kn := kn) (th := th) (sm := sm) (Y := Y)  hX ) pk_X4_fails qm_X4_84 0 8 rfl rfl wm_0 rfl rfl (Nat.le_of_ble_eq_true rfl) dX4_replace_14 ⟨(Nat.le_of_ble_eq_true rfl), (Nat.le_of_ble_eq_true rfl)⟩ ⟨(Nat.le_of_ble_eq_true rfl), (Nat.le_of_ble_eq_true rfl)⟩ ?_
  refine r_w (w' := WM cy ba ra hf hq kn (nI 0) sm ++ Y) rfl ?_
  refine r_ifN_eq (a := 0) (tgt := 22) C (by first | omega | (simp [up2, *]; done) | (simp [up2, *]; omega) | (simp only [up2_eq]; omega) | (split <;> omega)) dX4_replace_17 (by decide) (fun h17_1 => ?_) (fun h17_1 => ?_)
  · skip
    refine r_aload_n C dX4_replace_22 rfl ?_
    refine m_get (v := .ref (ba 8)) C 8 (by decide) qf_X4_41 rfl rfl dX4_replace_23 ?_
    refine r_iload_n C dX4_replace_26 rfl ?_
    refine m_ald (i := k0) (z := k0) (v := hf 8 k0) C 7 (by decide) (by decide) (show k0 < 3 from (by first | omega | (simp [up2, *]; done) | (simp [up2, *]; omega) | (simp only [up2_eq]; omega) | (split <;> omega))) (show 0 + k0 = k0 from (by omega)) rfl dX4_replace_27 ?_
    refine r_iconst (v := (nI 4294967295)) C dX4_replace_28 (by decide) ?_
    refine r_icN_ne (a := (hf 8 k0)) (b := 4294967295) (tgt := 35) C (by first | omega | (simp [up2, *]; done) | (simp [up2, *]; omega) | (simp only [up2_eq]; omega) | (split <;> omega)) (by first | omega | (simp [up2, *]; done) | (simp [up2, *]; omega) | (simp only [up2_eq]; omega) | (split <;> omega)) dX4_replace_29 (by decide) (fun h29_2 => ?_) (fun h29_2 => ?_)
    · exact absurd h29_2 (by first | omega | (simp [up2, *]; done) | (simp [up2, *]; omega) | (simp only [up2_eq]; omega) | (split <;> omega))
    · skip
      refine r_bipush (v := (nI 4294967287)) C dX4_replace_32 (by decide) ?_
      exact r_iret C hr dX4_replace_34 ⟨rfl, rfl⟩ (Nat.le_of_ble_eq_true rfl) (Nat.le_of_ble_eq_true rfl)
  · exact absurd h17_1 (by first | omega | (simp [up2, *]; done) | (simp [up2, *]; omega) | (simp only [up2_eq]; omega) | (split <;> omega))
theorem dX4_replace_35 : decode cX4_replace 35 = .ok (.aload_n 0, 1) := dqo_42 (kb_X4_replace_0 35 rfl)
theorem dX4_replace_36 : decode cX4_replace 36 = .ok (.getfield 15, 3) := dqo_180 0 15 (kb_X4_replace_0 36 rfl) (kb_X4_replace_0 37 rfl) (kb_X4_replace_0 38 rfl)
theorem dX4_replace_39 : decode cX4_replace 39 = .ok (.aload_n 0, 1) := dqo_42 (kb_X4_replace_0 39 rfl)
theorem dX4_replace_40 : decode cX4_replace 40 = .ok (.aload_n 0, 1) := dqo_42 (kb_X4_replace_0 40 rfl)
theorem dX4_replace_41 : decode cX4_replace 41 = .ok (.getfield 35, 3) := dqo_180 0 35 (kb_X4_replace_0 41 rfl) (kb_X4_replace_0 42 rfl) (kb_X4_replace_0 43 rfl)
theorem dX4_replace_44 : decode cX4_replace 44 = .ok (.iload_n 1, 1) := dqo_27 (kb_X4_replace_0 44 rfl)
theorem dX4_replace_45 : decode cX4_replace 45 = .ok (.iaload, 1) := dqo_46 (kb_X4_replace_0 45 rfl)
theorem dX4_replace_46 : decode cX4_replace 46 = .ok (.invokevirtual 48, 3) := dqo_182 0 48 (kb_X4_replace_0 46 rfl) (kb_X4_replace_0 47 rfl) (kb_X4_replace_0 48 rfl)
theorem dX4_replace_49 : decode cX4_replace 49 = .ok (.aaload, 1) := dqo_50 (kb_X4_replace_0 49 rfl)
theorem dX4_replace_50 : decode cX4_replace 50 = .ok (.aload_n 0, 1) := dqo_42 (kb_X4_replace_0 50 rfl)
theorem dX4_replace_51 : decode cX4_replace 51 = .ok (.aload_n 0, 1) := dqo_42 (kb_X4_replace_0 51 rfl)
theorem dX4_replace_52 : decode cX4_replace 52 = .ok (.getfield 35, 3) := dqo_180 0 35 (kb_X4_replace_0 52 rfl) (kb_X4_replace_0 53 rfl) (kb_X4_replace_0 54 rfl)
theorem dX4_replace_55 : decode cX4_replace 55 = .ok (.iload_n 1, 1) := dqo_27 (kb_X4_replace_0 55 rfl)
theorem dX4_replace_56 : decode cX4_replace 56 = .ok (.iaload, 1) := dqo_46 (kb_X4_replace_0 56 rfl)
theorem dX4_replace_57 : decode cX4_replace 57 = .ok (.invokevirtual 52, 3) := dqo_182 0 52 (kb_X4_replace_0 57 rfl) (kb_X4_replace_0 58 rfl) (kb_X4_replace_0 59 rfl)
theorem dX4_replace_60 : decode cX4_replace 60 = .ok (.aload_n 0, 1) := dqo_42 (kb_X4_replace_0 60 rfl)
theorem dX4_replace_61 : decode cX4_replace 61 = .ok (.getfield 41, 3) := dqo_180 0 41 (kb_X4_replace_0 61 rfl) (kb_X4_replace_0 62 rfl) (kb_X4_replace_0 63 rfl)
theorem dX4_replace_64 : decode cX4_replace 64 = .ok (.iload_n 1, 1) := dqo_27 (kb_X4_replace_1 0 rfl)
theorem dX4_replace_65 : decode cX4_replace 65 = .ok (.iaload, 1) := dqo_46 (kb_X4_replace_1 1 rfl)
theorem dX4_replace_66 : decode cX4_replace 66 = .ok (.iadd, 1) := dqo_96 (kb_X4_replace_1 2 rfl)
theorem dX4_replace_67 : decode cX4_replace 67 = .ok (.iload_n 2, 1) := dqo_28 (kb_X4_replace_1 3 rfl)
theorem dX4_replace_68 : decode cX4_replace 68 = .ok (.iastore, 1) := dqo_79 (kb_X4_replace_1 4 rfl)
theorem dX4_replace_69 : decode cX4_replace 69 = .ok (.aload_n 0, 1) := dqo_42 (kb_X4_replace_1 5 rfl)
theorem dX4_replace_70 : decode cX4_replace 70 = .ok (.getfield 38, 3) := dqo_180 0 38 (kb_X4_replace_1 6 rfl) (kb_X4_replace_1 7 rfl) (kb_X4_replace_1 8 rfl)
theorem dX4_replace_73 : decode cX4_replace 73 = .ok (.iload_n 1, 1) := dqo_27 (kb_X4_replace_1 9 rfl)
theorem dX4_replace_74 : decode cX4_replace 74 = .ok (.iaload, 1) := dqo_46 (kb_X4_replace_1 10 rfl)
theorem dX4_replace_75 : decode cX4_replace 75 = .ok (.ireturn, 1) := dqo_172 (kb_X4_replace_1 11 rfl)
set_option maxRecDepth 100000 in
set_option maxHeartbeats 4000000 in
theorem D_replace_ok {l : Launch} {D : va_G} {cy : Nat → ClassId} {X : (Nat → Prop) → State → Heap → Prop} {ba ra : Nat → Nat} {hf : Nat → Nat → Nat} {hq : Nat → Nat → Int32} {kn th : Int32} {sm : Int64} {Y : va_W} {f : Nat → Nat → Nat} {r : Nat → Nat → Int32} {k0 : Nat} {y : Int32} (hX : EnvM X cy) (hC : CInv f) (hM : MR f r hf hq) (hk3 : k0 < 3) (ho : okI y) (h9 : f 9 k0 = 1) (hl : f 8 k0 ≠ 4294967295) : Cd l D cy X yX4_replace cX4_replace 3 (some .int) (rmk 9 4 48 420) [.ref (ba 9), .int (nI k0), .int y] (WM cy ba ra hf hq kn th sm ++ Y) (some (.int (nI (hf 7 k0)))) (WM cy ba ra hf (up2 hq (f 1 (hf 6 k0)) ((f 3 (hf 6 k0)) + (hf 8 k0)) y) kn (nI 0) sm ++ Y) := by
  have hG := hM.1
  have h5M := hM.h5M hC
  have h4M := hC.h4M
  have h9a := hM.h9a hC
  have h6a := hM.h6a
  have hU := hM.hU hC
  have qu := hM.cu hC hk3
  have qo := qu.2.2.2 h9
  have hou : hf 6 k0 < 8 := qu.2.2.1
  have h5u : f 5 (hf 6 k0) = 1 := by rw [qo.1]; exact qo.2.2.2.2.1
  have e6 : f 4 (hf 6 k0) = f 4 (f 6 k0) := by rw [qo.1]
  have wu := hM.wh hC hou h5u
  have e1 : f 4 (f 1 (hf 6 k0)) = f 4 (f 1 (f 6 k0)) := by rw [qo.1]
  refine Cm.of [some (.ref (ba 9)), some (.int (nI k0)), some (.int y)] pn_X4 rfl (Nat.le_of_ble_eq_true rfl) ?_
  intro p e s m args below meth c A C hE hr hnt hn
  refine r_aload_n C dX4_replace_0 rfl ?_
  refine r_iload_n C dX4_replace_1 rfl ?_
  refine d_S (st := [.ref (ba 9)]) hX.1.stb C hE (D_isNoCursor0 (ba := ba) (ra := ra) (hf := hf) (hq := hq) (kn := kn) (th := th) (sm := sm) (Y := Y) (i := k0) hX (by first | omega | (simp [up2, *]; done) | (simp [up2, *]; omega) | (simp only [up2_eq]; omega) | (split <;> omega))) pk_X4_isNoCursor qm_X4_193 rfl rfl (Nat.le_of_ble_eq_true rfl) dX4_replace_2 ⟨(Nat.le_of_ble_eq_true rfl), (Nat.le_of_ble_eq_true rfl)⟩ ⟨(Nat.le_of_ble_eq_true rfl), (Nat.le_of_ble_eq_true rfl)⟩ ?_
  refine r_w (w' := WM cy ba ra hf hq kn th sm ++ Y) rfl ?_
  refine r_iload_n C dX4_replace_5 rfl ?_
  refine d_S (st := [.int (nI 0), .ref (ba 9)]) hX.1.stb C hE (D_isNoItem0 (ba := ba) (ra := ra) (hf := hf) (hq := hq) (kn := kn) (th := th) (sm := sm) (Y := Y) (y := (y)) hX ho) pk_X4_isNoItem qm_X4_78 rfl rfl (Nat.le_of_ble_eq_true rfl) dX4_replace_6 ⟨(Nat.le_of_ble_eq_true rfl), (Nat.le_of_ble_eq_true rfl)⟩ ⟨(Nat.le_of_ble_eq_true rfl), (Nat.le_of_ble_eq_true rfl)⟩ ?_
  refine r_w (w' := WM cy ba ra hf hq kn th sm ++ Y) rfl ?_
  refine r_aload_n C dX4_replace_9 rfl ?_
  refine r_iload_n C dX4_replace_10 rfl ?_
  refine d_V (st := [.int (nI 0), .int (nI 0), .ref (ba 9)]) hX.1.stb C hE (D_isShut0 (ba := ba) (ra := ra) (hf := hf) (hq := hq) (kn := kn) (th := th) (sm := sm) (Y := Y) (k0 := k0) hX (by first | omega | (simp [up2, *]; done) | (simp [up2, *]; omega) | (simp only [up2_eq]; omega) | (split <;> omega)) (by first | omega | (simp [up2, *]; done) | (simp [up2, *]; omega) | (simp only [up2_eq]; omega) | (split <;> omega))) pk_X4_isShut qm_X4_196 0 8 rfl rfl wm_0 rfl rfl (Nat.le_of_ble_eq_true rfl) dX4_replace_11 ⟨(Nat.le_of_ble_eq_true rfl), (Nat.le_of_ble_eq_true rfl)⟩ ⟨(Nat.le_of_ble_eq_true rfl), (Nat.le_of_ble_eq_true rfl)⟩ ?_
  refine r_w (w' := WM cy ba ra hf hq kn th sm ++ Y) rfl ?_
  refine d_V (st := []) hX.1.stb C hE (D_fails0 (ba := ba) (ra := ra) (hf := hf) (hq := hq) (kn := kn) (th := th) (sm := sm) (Y := Y)  hX ) pk_X4_fails qm_X4_84 0 8 rfl rfl wm_0 rfl rfl (Nat.le_of_ble_eq_true rfl) dX4_replace_14 ⟨(Nat.le_of_ble_eq_true rfl), (Nat.le_of_ble_eq_true rfl)⟩ ⟨(Nat.le_of_ble_eq_true rfl), (Nat.le_of_ble_eq_true rfl)⟩ ?_
  refine r_w (w' := WM cy ba ra hf hq kn (nI 0) sm ++ Y) rfl ?_
  refine r_ifN_eq (a := 0) (tgt := 22) C (by first | omega | (simp [up2, *]; done) | (simp [up2, *]; omega) | (simp only [up2_eq]; omega) | (split <;> omega)) dX4_replace_17 (by decide) (fun h17_1 => ?_) (fun h17_1 => ?_)
  · skip
    refine r_aload_n C dX4_replace_22 rfl ?_
    refine m_get (v := .ref (ba 8)) C 8 (by decide) qf_X4_41 rfl rfl dX4_replace_23 ?_
    refine r_iload_n C dX4_replace_26 rfl ?_
    refine m_ald (i := k0) (z := k0) (v := hf 8 k0) C 7 (by decide) (by decide) (show k0 < 3 from (by first | omega | (simp [up2, *]; done) | (simp [up2, *]; omega) | (simp only [up2_eq]; omega) | (split <;> omega))) (show 0 + k0 = k0 from (by omega)) rfl dX4_replace_27 ?_
    refine r_iconst (v := (nI 4294967295)) C dX4_replace_28 (by decide) ?_
    refine r_icN_ne (a := (hf 8 k0)) (b := 4294967295) (tgt := 35) C (by first | omega | (simp [up2, *]; done) | (simp [up2, *]; omega) | (simp only [up2_eq]; omega) | (split <;> omega)) (by first | omega | (simp [up2, *]; done) | (simp [up2, *]; omega) | (simp only [up2_eq]; omega) | (split <;> omega)) dX4_replace_29 (by decide) (fun h29_2 => ?_) (fun h29_2 => ?_)
    · skip
      refine r_aload_n C dX4_replace_35 rfl ?_
      refine m_get (v := .ref (ba 0)) C 0 (by decide) qf_X4_15 rfl rfl dX4_replace_36 ?_
      refine r_aload_n C dX4_replace_39 rfl ?_
      refine r_aload_n C dX4_replace_40 rfl ?_
      refine m_get (v := .ref (ba 6)) C 6 (by decide) qf_X4_35 rfl rfl dX4_replace_41 ?_
      refine r_iload_n C dX4_replace_44 rfl ?_
      refine m_ald (i := k0) (z := k0) (v := hf 6 k0) C 5 (by decide) (by decide) (show k0 < 3 from (by first | omega | (simp [up2, *]; done) | (simp [up2, *]; omega) | (simp only [up2_eq]; omega) | (split <;> omega))) (show 0 + k0 = k0 from (by omega)) rfl dX4_replace_45 ?_
      refine d_V (st := [.ref (ba 0)]) hX.1.stb C hE (D_rowOf (ba := ba) (ra := ra) (hf := hf) (hq := hq) (kn := kn) (th := (nI 0)) (sm := sm) (Y := Y) (f := f) (w := (hf 6 k0)) hX hC (MG.same (fun _ => rfl) (fun _ => rfl) hG) hou h5u) pk_X4_rowOf qm_X4_48 0 8 rfl rfl wm_0 rfl rfl (Nat.le_of_ble_eq_true rfl) dX4_replace_46 ⟨(Nat.le_of_ble_eq_true rfl), (Nat.le_of_ble_eq_true rfl)⟩ ⟨(Nat.le_of_ble_eq_true rfl), (Nat.le_of_ble_eq_true rfl)⟩ ?_
      refine r_w (w' := WM cy ba ra hf hq kn (nI 0) sm ++ Y) rfl ?_
      refine m_rows (i := f 1 (hf 6 k0)) C (by first | omega | (simp [up2, *]; done) | (simp [up2, *]; omega) | (simp only [up2_eq]; omega) | (split <;> omega)) dX4_replace_49 ?_
      refine r_aload_n C dX4_replace_50 rfl ?_
      refine r_aload_n C dX4_replace_51 rfl ?_
      refine m_get (v := .ref (ba 6)) C 6 (by decide) qf_X4_35 rfl rfl dX4_replace_52 ?_
      refine r_iload_n C dX4_replace_55 rfl ?_
      refine m_ald (i := k0) (z := k0) (v := hf 6 k0) C 5 (by decide) (by decide) (show k0 < 3 from (by first | omega | (simp [up2, *]; done) | (simp [up2, *]; omega) | (simp only [up2_eq]; omega) | (split <;> omega))) (show 0 + k0 = k0 from (by omega)) rfl dX4_replace_56 ?_
      refine d_V (st := [.ref (ra (f 1 (hf 6 k0)))]) hX.1.stb C hE (D_begin (ba := ba) (ra := ra) (hf := hf) (hq := hq) (kn := kn) (th := (nI 0)) (sm := sm) (Y := Y) (f := f) (w := (hf 6 k0)) hX hC (MG.same (fun _ => rfl) (fun _ => rfl) hG) hou h5u) pk_X4_begin qm_X4_52 0 8 rfl rfl wm_0 rfl rfl (Nat.le_of_ble_eq_true rfl) dX4_replace_57 ⟨(Nat.le_of_ble_eq_true rfl), (Nat.le_of_ble_eq_true rfl)⟩ ⟨(Nat.le_of_ble_eq_true rfl), (Nat.le_of_ble_eq_true rfl)⟩ ?_
      refine r_w (w' := WM cy ba ra hf hq kn (nI 0) sm ++ Y) rfl ?_
      refine r_aload_n C dX4_replace_60 rfl ?_
      refine m_get (v := .ref (ba 8)) C 8 (by decide) qf_X4_41 rfl rfl dX4_replace_61 ?_
      refine r_iload_n C dX4_replace_64 rfl ?_
      refine m_ald (i := k0) (z := k0) (v := hf 8 k0) C 7 (by decide) (by decide) (show k0 < 3 from (by first | omega | (simp [up2, *]; done) | (simp [up2, *]; omega) | (simp only [up2_eq]; omega) | (split <;> omega))) (show 0 + k0 = k0 from (by omega)) rfl dX4_replace_65 ?_
      refine r_iaddN C dX4_replace_66 ?_
      refine r_iload_n C dX4_replace_67 rfl ?_
      refine m_rst (i := f 1 (hf 6 k0)) (n := (f 3 (hf 6 k0)) + (hf 8 k0)) (x := y) C (by first | omega | (simp [up2, *]; done) | (simp [up2, *]; omega) | (simp only [up2_eq]; omega) | (split <;> omega)) (by first | omega | (simp [up2, *]; done) | (simp [up2, *]; omega) | (simp only [up2_eq]; omega) | (split <;> omega)) (by first | omega | (simp [up2, *]; done) | (simp [up2, *]; omega) | (simp only [up2_eq]; omega) | (split <;> omega)) dX4_replace_68 ?_
      refine r_aload_n C dX4_replace_69 rfl ?_
      refine m_get (v := .ref (ba 7)) C 7 (by decide) qf_X4_38 rfl rfl dX4_replace_70 ?_
      refine r_iload_n C dX4_replace_73 rfl ?_
      refine m_ald (i := k0) (z := k0) (v := hf 7 k0) C 6 (by decide) (by decide) (show k0 < 3 from (by first | omega | (simp [up2, *]; done) | (simp [up2, *]; omega) | (simp only [up2_eq]; omega) | (split <;> omega))) (show 0 + k0 = k0 from (by omega)) rfl dX4_replace_74 ?_
      exact r_iret C hr dX4_replace_75 ⟨rfl, rfl⟩ (Nat.le_of_ble_eq_true rfl) (Nat.le_of_ble_eq_true rfl)
    · exact absurd h29_2 (by first | omega | (simp [up2, *]; done) | (simp [up2, *]; omega) | (simp only [up2_eq]; omega) | (split <;> omega))
  · exact absurd h17_1 (by first | omega | (simp [up2, *]; done) | (simp [up2, *]; omega) | (simp only [up2_eq]; omega) | (split <;> omega))
