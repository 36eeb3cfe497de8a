/-! CONTRACTS of the model: its calls on rows -/
theorem dX4_partAt_0 : decode cX4_partAt 0 = .ok (.aload_n 0, 1) := dqo_42 (kb_of ke_X4_partAt 0 rfl)
theorem dX4_partAt_1 : decode cX4_partAt 1 = .ok (.aload_n 0, 1) := dqo_42 (kb_of ke_X4_partAt 1 rfl)
theorem dX4_partAt_2 : decode cX4_partAt 2 = .ok (.iload_n 1, 1) := dqo_27 (kb_of ke_X4_partAt 2 rfl)
theorem dX4_partAt_3 : decode cX4_partAt 3 = .ok (.invokevirtual 55, 3) := dqo_182 0 55 (kb_of ke_X4_partAt 3 rfl) (kb_of ke_X4_partAt 4 rfl) (kb_of ke_X4_partAt 5 rfl)
theorem dX4_partAt_6 : decode cX4_partAt 6 = .ok (.ifCond .ne 11, 3) := dqo_154 0 11 (by decide) (kb_of ke_X4_partAt 6 rfl) (kb_of ke_X4_partAt 7 rfl) (kb_of ke_X4_partAt 8 rfl)
theorem dX4_partAt_17 : decode cX4_partAt 17 = .ok (.iconst 1, 1) := dqo_4 (kb_of ke_X4_partAt 17 rfl)
theorem dX4_partAt_18 : decode cX4_partAt 18 = .ok (.goto 4, 3) := dqo_167 0 4 (by decide) (kb_of ke_X4_partAt 18 rfl) (kb_of ke_X4_partAt 19 rfl) (kb_of ke_X4_partAt 20 rfl)
theorem dX4_partAt_22 : decode cX4_partAt 22 = .ok (.iconst 0, 1) := dqo_3 (kb_of ke_X4_partAt 22 rfl)
theorem dX4_partAt_23 : decode cX4_partAt 23 = .ok (.iconst 0, 1) := dqo_3 (kb_of ke_X4_partAt 23 rfl)
theorem dX4_partAt_24 : decode cX4_partAt 24 = .ok (.invokevirtual 84, 3) := dqo_182 0 84 (kb_of ke_X4_partAt 24 rfl) (kb_of ke_X4_partAt 25 rfl) (kb_of ke_X4_partAt 26 rfl)
theorem dX4_partAt_27 : decode cX4_partAt 27 = .ok (.ifCond .eq 7, 3) := dqo_153 0 7 (by decide) (kb_of ke_X4_partAt 27 rfl) (kb_of ke_X4_partAt 28 rfl) (kb_of ke_X4_partAt 29 rfl)
theorem dX4_partAt_30 : decode cX4_partAt 30 = .ok (.iconst 0, 1) := dqo_3 (kb_of ke_X4_partAt 30 rfl)
theorem dX4_partAt_31 : decode cX4_partAt 31 = .ok (.goto 9, 3) := dqo_167 0 9 (by decide) (kb_of ke_X4_partAt 31 rfl) (kb_of ke_X4_partAt 32 rfl) (kb_of ke_X4_partAt 33 rfl)
theorem dX4_partAt_40 : decode cX4_partAt 40 = .ok (.ireturn, 1) := dqo_172 (kb_of ke_X4_partAt 40 rfl)
set_option maxRecDepth 100000 in
set_option maxHeartbeats 4000000 in
theorem D_partAt_noW {l : Launch} {D : va_G} {cy : Nat → ClassId} {X : (Nat → Prop) → State → Heap → Prop} {ba ra : Nat → Nat} {hf : Nat → Nat → Nat} {hq : Nat → Nat → Int32} {kn th : Int32} {sm : Int64} {Y : va_W} {f : Nat → Nat → Nat} {r : Nat → Nat → Int32} {x : Int32} {y0 : Int32} (hX : EnvM X cy) (hC : CInv f) (hM : MR f r hf hq) (hno : noW f x) : Cd l D cy X yX4_partAt cX4_partAt 3 (some .int) (rmk 9 4 48 420) [.ref (ba 9), .int x, .int y0] (WM cy ba ra hf hq kn th sm ++ Y) (some (.int (nI 0))) (WM cy ba ra hf hq kn (nI 1) sm ++ Y) := by
  have hG := hM.1
  have h5M := hM.h5M hC
  have h4M := hC.h4M
  have h9a := hM.h9a hC
  have h6a := hM.h6a
  have hU := hM.hU hC
  refine Cm.of [some (.ref (ba 9)), some (.int x), some (.int y0)] pn_X4 rfl (Nat.le_of_ble_eq_true rfl) ?_
  intro p e s m args below meth c A C hE hr hnt hn
  refine r_aload_n C dX4_partAt_0 rfl ?_
  refine r_aload_n C dX4_partAt_1 rfl ?_
  refine r_iload_n C dX4_partAt_2 rfl ?_
  refine d_V (st := [.ref (ba 9)]) hX.1.stb C hE (D_isNoWhere1 (ba := ba) (ra := ra) (hf := hf) (hq := hq) (kn := kn) (th := th) (sm := sm) (Y := Y) (f := f) (x := (x)) hX h5M h4M hno) pk_X4_isNoWhere qm_X4_55 0 8 rfl rfl wm_0 rfl rfl (Nat.le_of_ble_eq_true rfl) dX4_partAt_3 ⟨(Nat.le_of_ble_eq_true rfl), (Nat.le_of_ble_eq_true rfl)⟩ ⟨(Nat.le_of_ble_eq_true rfl), (Nat.le_of_ble_eq_true rfl)⟩ ?_
  refine r_w (w' := WM cy ba ra hf hq kn th sm ++ Y) rfl ?_
  refine r_ifN_ne (a := 1) (tgt := 17) C (by first | omega | (simp [up2, *]; done) | (simp [up2, *]; omega) | (simp only [up2_eq]; omega) | (split <;> omega)) dX4_partAt_6 (by decide) (fun h6_1 => ?_) (fun h6_1 => ?_)
  · skip
    refine r_iconst (v := (nI 1)) C dX4_partAt_17 (by decide) ?_
    refine r_goto (tgt := 22) C dX4_partAt_18 (by decide) ?_
    refine r_iconst (v := (nI 0)) C dX4_partAt_22 (by decide) ?_
    refine r_iconst (v := (nI 0)) C dX4_partAt_23 (by decide) ?_
    refine d_V (st := []) hX.1.stb C hE (D_fails1 (ba := ba) (ra := ra) (hf := hf) (hq := hq) (kn := kn) (th := th) (sm := sm) (Y := Y) (b0 := 0) (d0 := 0) hX ) pk_X4_fails qm_X4_84 0 8 rfl rfl wm_0 rfl rfl (Nat.le_of_ble_eq_true rfl) dX4_partAt_24 ⟨(Nat.le_of_ble_eq_true rfl), (Nat.le_of_ble_eq_true rfl)⟩ ⟨(Nat.le_of_ble_eq_true rfl), (Nat.le_of_ble_eq_true rfl)⟩ ?_
    refine r_w (w' := WM cy ba ra hf hq kn (nI 1) sm ++ Y) rfl ?_
    refine r_ifN_eq (a := 1) (tgt := 34) C (by first | omega | (simp [up2, *]; done) | (simp [up2, *]; omega) | (simp only [up2_eq]; omega) | (split <;> omega)) dX4_partAt_27 (by decide) (fun h27_2 => ?_) (fun h27_2 => ?_)
    · exact absurd h27_2 (by first | omega | (simp [up2, *]; done) | (simp [up2, *]; omega) | (simp only [up2_eq]; omega) | (split <;> omega))
    · skip
      refine r_iconst (v := (nI 0)) C dX4_partAt_30 (by decide) ?_
      refine r_goto (tgt := 40) C dX4_partAt_31 (by decide) ?_
      exact r_iret C hr dX4_partAt_40 ⟨rfl, rfl⟩ (Nat.le_of_ble_eq_true rfl) (Nat.le_of_ble_eq_true rfl)
  · exact absurd h6_1 (by first | omega | (simp [up2, *]; done) | (simp [up2, *]; omega) | (simp only [up2_eq]; omega) | (split <;> omega))
theorem dX4_partAt_9 : decode cX4_partAt 9 = .ok (.aload_n 0, 1) := dqo_42 (kb_of ke_X4_partAt 9 rfl)
theorem dX4_partAt_10 : decode cX4_partAt 10 = .ok (.iload_n 2, 1) := dqo_28 (kb_of ke_X4_partAt 10 rfl)
theorem dX4_partAt_11 : decode cX4_partAt 11 = .ok (.invokevirtual 55, 3) := dqo_182 0 55 (kb_of ke_X4_partAt 11 rfl) (kb_of ke_X4_partAt 12 rfl) (kb_of ke_X4_partAt 13 rfl)
theorem dX4_partAt_14 : decode cX4_partAt 14 = .ok (.ifCond .eq 7, 3) := dqo_153 0 7 (by decide) (kb_of ke_X4_partAt 14 rfl) (kb_of ke_X4_partAt 15 rfl) (kb_of ke_X4_partAt 16 rfl)
set_option maxRecDepth 100000 in
set_option maxHeartbeats 4000000 in
theorem D_partAt_noW2 {l : Launch} {D : va_G} {cy : Nat → ClassId} {X : (Nat → Prop) → State → Heap → Prop} {ba ra : Nat → Nat} {hf : Nat → Nat → Nat} {hq : Nat → Nat → Int32} {kn th : Int32} {sm : Int64} {Y : va_W} {f : Nat → Nat → Nat} {r : Nat → Nat → Int32} {w : Nat} {x : Int32} (hX : EnvM X cy) (hC : CInv f) (hM : MR f r hf hq) (hw : w < 8) (h5w : f 5 w = 1) (hno : noW f x) : Cd l D cy X yX4_partAt cX4_partAt 3 (some .int) (rmk 9 4 48 420) [.ref (ba 9), .int (nI w), .int x] (WM cy ba ra hf hq kn th sm ++ Y) (some (.int (nI 0))) (WM cy ba ra hf hq kn (nI 1) sm ++ Y) := by
  have hG := hM.1
  have h5M := hM.h5M hC
  have h4M := hC.h4M
  have h9a := hM.h9a hC
  have h6a := hM.h6a
  have hU := hM.hU hC
  have qw := hM.wh hC hw h5w
  refine Cm.of [some (.ref (ba 9)), some (.int (nI w)), some (.int x)] pn_X4 rfl (Nat.le_of_ble_eq_true rfl) ?_
  intro p e s m args below meth c A C hE hr hnt hn
  refine r_aload_n C dX4_partAt_0 rfl ?_
  refine r_aload_n C dX4_partAt_1 rfl ?_
  refine r_iload_n C dX4_partAt_2 rfl ?_
  refine d_V (st := [.ref (ba 9)]) hX.1.stb C hE (D_isNoWhere0 (ba := ba) (ra := ra) (hf := hf) (hq := hq) (kn := kn) (th := th) (sm := sm) (Y := Y) (w := w) hX (by first | omega | (simp [up2, *]; done) | (simp [up2, *]; omega) | (simp only [up2_eq]; omega) | (split <;> omega)) (by first | omega | (simp [up2, *]; done) | (simp [up2, *]; omega) | (simp only [up2_eq]; omega) | (split <;> omega))) pk_X4_isNoWhere qm_X4_55 0 8 rfl rfl wm_0 rfl rfl (Nat.le_of_ble_eq_true rfl) dX4_partAt_3 ⟨(Nat.le_of_ble_eq_true rfl), (Nat.le_of_ble_eq_true rfl)⟩ ⟨(Nat.le_of_ble_eq_true rfl), (Nat.le_of_ble_eq_true rfl)⟩ ?_
  refine r_w (w' := WM cy ba ra hf hq kn th sm ++ Y) rfl ?_
  refine r_ifN_ne (a := 0) (tgt := 17) C (by first | omega | (simp [up2, *]; done) | (simp [up2, *]; omega) | (simp only [up2_eq]; omega) | (split <;> omega)) dX4_partAt_6 (by decide) (fun h6_1 => ?_) (fun h6_1 => ?_)
  · exact absurd h6_1 (by first | omega | (simp [up2, *]; done) | (simp [up2, *]; omega) | (simp only [up2_eq]; omega) | (split <;> omega))
  · skip
    refine r_aload_n C dX4_partAt_9 rfl ?_
    refine r_iload_n C dX4_partAt_10 rfl ?_
    refine d_V (st := [.ref (ba 9)]) hX.1.stb C hE (D_isNoWhere1 (ba := ba) (ra := ra) (hf := hf) (hq := hq) (kn := kn) (th := th) (sm := sm) (Y := Y) (f := f) (x := (x)) hX h5M h4M hno) pk_X4_isNoWhere qm_X4_55 0 8 rfl rfl wm_0 rfl rfl (Nat.le_of_ble_eq_true rfl) dX4_partAt_11 ⟨(Nat.le_of_ble_eq_true rfl), (Nat.le_of_ble_eq_true rfl)⟩ ⟨(Nat.le_of_ble_eq_true rfl), (Nat.le_of_ble_eq_true rfl)⟩ ?_
    refine r_w (w' := WM cy ba ra hf hq kn th sm ++ Y) rfl ?_
    refine r_ifN_eq (a := 1) (tgt := 21) C (by first | omega | (simp [up2, *]; done) | (simp [up2, *]; omega) | (simp only [up2_eq]; omega) | (split <;> omega)) dX4_partAt_14 (by decide) (fun h14_2 => ?_) (fun h14_2 => ?_)
    · exact absurd h14_2 (by first | omega | (simp [up2, *]; done) | (simp [up2, *]; omega) | (simp only [up2_eq]; omega) | (split <;> omega))
    · skip
      refine r_iconst (v := (nI 1)) C dX4_partAt_17 (by decide) ?_
      refine r_goto (tgt := 22) C dX4_partAt_18 (by decide) ?_
      refine r_iconst (v := (nI 0)) C dX4_partAt_22 (by decide) ?_
      refine r_iconst (v := (nI 0)) C dX4_partAt_23 (by decide) ?_
      refine d_V (st := []) hX.1.stb C hE (D_fails1 (ba := ba) (ra := ra) (hf := hf) (hq := hq) (kn := kn) (th := th) (sm := sm) (Y := Y) (b0 := 0) (d0 := 0) hX ) pk_X4_fails qm_X4_84 0 8 rfl rfl wm_0 rfl rfl (Nat.le_of_ble_eq_true rfl) dX4_partAt_24 ⟨(Nat.le_of_ble_eq_true rfl), (Nat.le_of_ble_eq_true rfl)⟩ ⟨(Nat.le_of_ble_eq_true rfl), (Nat.le_of_ble_eq_true rfl)⟩ ?_
      refine r_w (w' := WM cy ba ra hf hq kn (nI 1) sm ++ Y) rfl ?_
      refine r_ifN_eq (a := 1) (tgt := 34) C (by first | omega | (simp [up2, *]; done) | (simp [up2, *]; omega) | (simp only [up2_eq]; omega) | (split <;> omega)) dX4_partAt_27 (by decide) (fun h27_3 => ?_) (fun h27_3 => ?_)
      · exact absurd h27_3 (by first | omega | (simp [up2, *]; done) | (simp [up2, *]; omega) | (simp only [up2_eq]; omega) | (split <;> omega))
      · skip
        refine r_iconst (v := (nI 0)) C dX4_partAt_30 (by decide) ?_
        refine r_goto (tgt := 40) C dX4_partAt_31 (by decide) ?_
        exact r_iret C hr dX4_partAt_40 ⟨rfl, rfl⟩ (Nat.le_of_ble_eq_true rfl) (Nat.le_of_ble_eq_true rfl)
theorem pk_X4_partNow : PkV RX4 yX4_partNow cX4_partNow 8 (some .int) 2 := ⟨⟨qi_X4_partNow, qs_X4_partNow, qz_X4, qc_X4_partNow⟩, rfl, mh_X4.1, mh_X4.2, pd_0⟩
theorem dX4_partAt_21 : decode cX4_partAt 21 = .ok (.iconst 0, 1) := dqo_3 (kb_of ke_X4_partAt 21 rfl)
theorem dX4_partAt_34 : decode cX4_partAt 34 = .ok (.aload_n 0, 1) := dqo_42 (kb_of ke_X4_partAt 34 rfl)
theorem dX4_partAt_35 : decode cX4_partAt 35 = .ok (.iload_n 1, 1) := dqo_27 (kb_of ke_X4_partAt 35 rfl)
theorem dX4_partAt_36 : decode cX4_partAt 36 = .ok (.iload_n 2, 1) := dqo_28 (kb_of ke_X4_partAt 36 rfl)
theorem dX4_partAt_37 : decode cX4_partAt 37 = .ok (.invokevirtual 116, 3) := dqo_182 0 116 (kb_of ke_X4_partAt 37 rfl) (kb_of ke_X4_partAt 38 rfl) (kb_of ke_X4_partAt 39 rfl)
set_option maxRecDepth 100000 in
set_option maxHeartbeats 4000000 in
theorem D_partAt_ok {l : Launch} {D : va_G} {cy : Nat → ClassId} {X : (Nat → Prop) → State → Heap → Prop} {ba ra : Nat → Nat} {hf : Nat → Nat → Nat} {hq : Nat → Nat → Int32} {kn th : Int32} {sm : Int64} {Y : va_W} {f : Nat → Nat → Nat} {r : Nat → Nat → Int32} {w : Nat} {v : Nat} (hX : EnvM X cy) (hC : CInv f) (hM : MR f r hf hq) (hw : w < 8) (h5w : f 5 w = 1) (hv : v < 8) (h5v : f 5 v = 1) : Cd l D cy X yX4_partAt cX4_partAt 3 (some .int) (rmk 9 4 48 420) [.ref (ba 9), .int (nI w), .int (nI v)] (WM cy ba ra hf hq kn th sm ++ Y) (some (.int (nI (poF (fun k => stF (fun q => (cutF (fun z => hq (f 1 w) (f 3 w + z)) (hf 4 w)) (k + q)) (cutF (fun z => hq (f 1 v) (f 3 v + z)) (hf 4 v)) (hf 4 v) 0) (hf 4 w + 1 - hf 4 v) 0)))) (WM cy ba ra hf hq kn (nI 0) sm ++ Y) := by
  have hG := hM.1
  have h5M := hM.h5M hC
  have h4M := hC.h4M
  have h9a := hM.h9a hC
  have h6a := hM.h6a
  have hU := hM.hU hC
  have qw := hM.wh hC hw h5w
  have qv := hM.wh hC hv h5v
  refine Cm.of [some (.ref (ba 9)), some (.int (nI w)), some (.int (nI v))] pn_X4 rfl (Nat.le_of_ble_eq_true rfl) ?_
  intro p e s m args below meth c A C hE hr hnt hn
  refine r_aload_n C dX4_partAt_0 rfl ?_
  refine r_aload_n C dX4_partAt_1 rfl ?_
  refine r_iload_n C dX4_partAt_2 rfl ?_
  refine d_V (st := [.ref (ba 9)]) hX.1.stb C hE (D_isNoWhere0 (ba := ba) (ra := ra) (hf := hf) (hq := hq) (kn := kn) (th := th) (sm := sm) (Y := Y) (w := w) hX (by first | omega | (simp [up2, *]; done) | (simp [up2, *]; omega) | (simp only [up2_eq]; omega) | (split <;> omega)) (by first | omega | (simp [up2, *]; done) | (simp [up2, *]; omega) | (simp only [up2_eq]; omega) | (split <;> omega))) pk_X4_isNoWhere qm_X4_55 0 8 rfl rfl wm_0 rfl rfl (Nat.le_of_ble_eq_true rfl) dX4_partAt_3 ⟨(Nat.le_of_ble_eq_true rfl), (Nat.le_of_ble_eq_true rfl)⟩ ⟨(Nat.le_of_ble_eq_true rfl), (Nat.le_of_ble_eq_true rfl)⟩ ?_
  refine r_w (w' := WM cy ba ra hf hq kn th sm ++ Y) rfl ?_
  refine r_ifN_ne (a := 0) (tgt := 17) C (by first | omega | (simp [up2, *]; done) | (simp [up2, *]; omega) | (simp only [up2_eq]; omega) | (split <;> omega)) dX4_partAt_6 (by decide) (fun h6_1 => ?_) (fun h6_1 => ?_)
  · exact absurd h6_1 (by first | omega | (simp [up2, *]; done) | (simp [up2, *]; omega) | (simp only [up2_eq]; omega) | (split <;> omega))
  · skip
    refine r_aload_n C dX4_partAt_9 rfl ?_
    refine r_iload_n C dX4_partAt_10 rfl ?_
    refine d_V (st := [.ref (ba 9)]) hX.1.stb C hE (D_isNoWhere0 (ba := ba) (ra := ra) (hf := hf) (hq := hq) (kn := kn) (th := th) (sm := sm) (Y := Y) (w := v) hX (by first | omega | (simp [up2, *]; done) | (simp [up2, *]; omega) | (simp only [up2_eq]; omega) | (split <;> omega)) (by first | omega | (simp [up2, *]; done) | (simp [up2, *]; omega) | (simp only [up2_eq]; omega) | (split <;> omega))) pk_X4_isNoWhere qm_X4_55 0 8 rfl rfl wm_0 rfl rfl (Nat.le_of_ble_eq_true rfl) dX4_partAt_11 ⟨(Nat.le_of_ble_eq_true rfl), (Nat.le_of_ble_eq_true rfl)⟩ ⟨(Nat.le_of_ble_eq_true rfl), (Nat.le_of_ble_eq_true rfl)⟩ ?_
    refine r_w (w' := WM cy ba ra hf hq kn th sm ++ Y) rfl ?_
    refine r_ifN_eq (a := 0) (tgt := 21) C (by first | omega | (simp [up2, *]; done) | (simp [up2, *]; omega) | (simp only [up2_eq]; omega) | (split <;> omega)) dX4_partAt_14 (by decide) (fun h14_2 => ?_) (fun h14_2 => ?_)
    · skip
      refine r_iconst (v := (nI 0)) C dX4_partAt_21 (by decide) ?_
      refine r_iconst (v := (nI 0)) C dX4_partAt_22 (by decide) ?_
      refine r_iconst (v := (nI 0)) C dX4_partAt_23 (by decide) ?_
      refine d_V (st := []) hX.1.stb C hE (D_fails0 (ba := ba) (ra := ra) (hf := hf) (hq := hq) (kn := kn) (th := th) (sm := sm) (Y := Y)  hX ) pk_X4_fails qm_X4_84 0 8 rfl rfl wm_0 rfl rfl (Nat.le_of_ble_eq_true rfl) dX4_partAt_24 ⟨(Nat.le_of_ble_eq_true rfl), (Nat.le_of_ble_eq_true rfl)⟩ ⟨(Nat.le_of_ble_eq_true rfl), (Nat.le_of_ble_eq_true rfl)⟩ ?_
      refine r_w (w' := WM cy ba ra hf hq kn (nI 0) sm ++ Y) rfl ?_
      refine r_ifN_eq (a := 0) (tgt := 34) C (by first | omega | (simp [up2, *]; done) | (simp [up2, *]; omega) | (simp only [up2_eq]; omega) | (split <;> omega)) dX4_partAt_27 (by decide) (fun h27_3 => ?_) (fun h27_3 => ?_)
      · skip
        refine r_aload_n C dX4_partAt_34 rfl ?_
        refine r_iload_n C dX4_partAt_35 rfl ?_
        refine r_iload_n C dX4_partAt_36 rfl ?_
        refine d_V (st := []) hX.1.stb C hE (D_partNow (ba := ba) (ra := ra) (hf := hf) (hq := hq) (kn := kn) (th := (nI 0)) (sm := sm) (Y := Y) (f := f) (w := w) (v := v) hX hC hM (by first | omega | (simp [up2, *]; done) | (simp [up2, *]; omega) | (simp only [up2_eq]; omega) | (split <;> omega)) (by first | omega | (simp [up2, *]; done) | (simp [up2, *]; omega) | (simp only [up2_eq]; omega) | (split <;> omega)) hv h5v) pk_X4_partNow qm_X4_116 0 8 rfl rfl wm_0 rfl rfl (Nat.le_of_ble_eq_true rfl) dX4_partAt_37 ⟨(Nat.le_of_ble_eq_true rfl), (Nat.le_of_ble_eq_true rfl)⟩ ⟨(Nat.le_of_ble_eq_true rfl), (Nat.le_of_ble_eq_true rfl)⟩ ?_
        refine r_w (w' := WM cy ba ra hf hq kn (nI 0) sm ++ Y) rfl ?_
        exact r_iret C hr dX4_partAt_40 ⟨rfl, rfl⟩ (Nat.le_of_ble_eq_true rfl) (Nat.le_of_ble_eq_true rfl)
      · exact absurd h27_3 (by first | omega | (simp [up2, *]; done) | (simp [up2, *]; omega) | (simp only [up2_eq]; omega) | (split <;> omega))
    · exact absurd h14_2 (by first | omega | (simp [up2, *]; done) | (simp [up2, *]; omega) | (simp only [up2_eq]; omega) | (split <;> omega))
theorem dX4_find_0 : decode cX4_find 0 = .ok (.iconst (-1), 1) := dqo_2 (kb_of ke_X4_find 0 rfl)
theorem dX4_find_1 : decode cX4_find 1 = .ok (.istore 4, 2) := dqo_54 4 (kb_of ke_X4_find 1 rfl) (kb_of ke_X4_find 2 rfl)
theorem dX4_find_3 : decode cX4_find 3 = .ok (.iconst 0, 1) := dqo_3 (kb_of ke_X4_find 3 rfl)
theorem dX4_find_4 : decode cX4_find 4 = .ok (.istore 5, 2) := dqo_54 5 (kb_of ke_X4_find 4 rfl) (kb_of ke_X4_find 5 rfl)
theorem dX4_find_6 : decode cX4_find 6 = .ok (.iload 5, 2) := dqo_21 5 (kb_of ke_X4_find 6 rfl) (kb_of ke_X4_find 7 rfl)
theorem dX4_find_8 : decode cX4_find 8 = .ok (.aload_n 0, 1) := dqo_42 (kb_of ke_X4_find 8 rfl)
theorem dX4_find_9 : decode cX4_find 9 = .ok (.getfield 15, 3) := dqo_180 0 15 (kb_of ke_X4_find 9 rfl) (kb_of ke_X4_find 10 rfl) (kb_of ke_X4_find 11 rfl)
theorem dX4_find_12 : decode cX4_find 12 = .ok (.iload_n 1, 1) := dqo_27 (kb_of ke_X4_find 12 rfl)
theorem dX4_find_13 : decode cX4_find 13 = .ok (.aaload, 1) := dqo_50 (kb_of ke_X4_find 13 rfl)
theorem dX4_find_14 : decode cX4_find 14 = .ok (.arraylength, 1) := dqo_190 (kb_of ke_X4_find 14 rfl)
theorem dX4_find_15 : decode cX4_find 15 = .ok (.if_icmp .ge 36, 3) := dqo_162 0 36 (by decide) (kb_of ke_X4_find 15 rfl) (kb_of ke_X4_find 16 rfl) (kb_of ke_X4_find 17 rfl)
theorem dX4_find_18 : decode cX4_find 18 = .ok (.aload_n 0, 1) := dqo_42 (kb_of ke_X4_find 18 rfl)
theorem dX4_find_19 : decode cX4_find 19 = .ok (.getfield 15, 3) := dqo_180 0 15 (kb_of ke_X4_find 19 rfl) (kb_of ke_X4_find 20 rfl) (kb_of ke_X4_find 21 rfl)
theorem dX4_find_22 : decode cX4_find 22 = .ok (.iload_n 1, 1) := dqo_27 (kb_of ke_X4_find 22 rfl)
theorem dX4_find_23 : decode cX4_find 23 = .ok (.aaload, 1) := dqo_50 (kb_of ke_X4_find 23 rfl)
theorem dX4_find_24 : decode cX4_find 24 = .ok (.iload 5, 2) := dqo_21 5 (kb_of ke_X4_find 24 rfl) (kb_of ke_X4_find 25 rfl)
theorem dX4_find_26 : decode cX4_find 26 = .ok (.iaload, 1) := dqo_46 (kb_of ke_X4_find 26 rfl)
theorem dX4_find_27 : decode cX4_find 27 = .ok (.iload_n 2, 1) := dqo_28 (kb_of ke_X4_find 27 rfl)
theorem dX4_find_28 : decode cX4_find 28 = .ok (.if_icmp .ne 17, 3) := dqo_160 0 17 (by decide) (kb_of ke_X4_find 28 rfl) (kb_of ke_X4_find 29 rfl) (kb_of ke_X4_find 30 rfl)
theorem dX4_find_31 : decode cX4_find 31 = .ok (.iload 4, 2) := dqo_21 4 (kb_of ke_X4_find 31 rfl) (kb_of ke_X4_find 32 rfl)
theorem dX4_find_33 : decode cX4_find 33 = .ok (.iconst (-1), 1) := dqo_2 (kb_of ke_X4_find 33 rfl)
theorem dX4_find_34 : decode cX4_find 34 = .ok (.if_icmp .eq 7, 3) := dqo_159 0 7 (by decide) (kb_of ke_X4_find 34 rfl) (kb_of ke_X4_find 35 rfl) (kb_of ke_X4_find 36 rfl)
theorem dX4_find_37 : decode cX4_find 37 = .ok (.iload_n 3, 1) := dqo_29 (kb_of ke_X4_find 37 rfl)
theorem dX4_find_38 : decode cX4_find 38 = .ok (.ifCond .eq 7, 3) := dqo_153 0 7 (by decide) (kb_of ke_X4_find 38 rfl) (kb_of ke_X4_find 39 rfl) (kb_of ke_X4_find 40 rfl)
theorem dX4_find_41 : decode cX4_find 41 = .ok (.iload 5, 2) := dqo_21 5 (kb_of ke_X4_find 41 rfl) (kb_of ke_X4_find 42 rfl)
theorem dX4_find_43 : decode cX4_find 43 = .ok (.istore 4, 2) := dqo_54 4 (kb_of ke_X4_find 43 rfl) (kb_of ke_X4_find 44 rfl)
theorem dX4_find_45 : decode cX4_find 45 = .ok (.iinc 5 1, 3) := dqo_132 5 1 (by decide) (kb_of ke_X4_find 45 rfl) (kb_of ke_X4_find 46 rfl) (kb_of ke_X4_find 47 rfl)
theorem dX4_find_48 : decode cX4_find 48 = .ok (.goto (-42), 3) := dqo_167 255 214 (by decide) (kb_of ke_X4_find 48 rfl) (kb_of ke_X4_find 49 rfl) (kb_of ke_X4_find 50 rfl)
theorem dX4_find_51 : decode cX4_find 51 = .ok (.iload 4, 2) := dqo_21 4 (kb_of ke_X4_find 51 rfl) (kb_of ke_X4_find 52 rfl)
theorem dX4_find_53 : decode cX4_find 53 = .ok (.ireturn, 1) := dqo_172 (kb_of ke_X4_find 53 rfl)
set_option maxRecDepth 100000 in
set_option maxHeartbeats 4000000 in
theorem D_find0 {l : Launch} {D : va_G} {cy : Nat → ClassId} {X : (Nat → Prop) → State → Heap → Prop} {ba ra : Nat → Nat} {hf : Nat → Nat → Nat} {hq : Nat → Nat → Int32} {kn th : Int32} {sm : Int64} {Y : va_W} {i : Nat} {y : Int32} (hX : EnvM X cy) (hi4 : i < 4) (h12i : hf 4 i ≤ 12) : Cd l D cy X yX4_find cX4_find 6 (some .int) (rmz 0 0) [.ref (ba 9), .int (nI i), .int y, .int (nI 0)] (WM cy ba ra hf hq kn th sm ++ Y) (some (.int (nI (fpF (hq i) y (hf 4 i) 0)))) (WM cy ba ra hf hq kn th sm ++ Y) := by
  refine Cm.of [some (.ref (ba 9)), some (.int (nI i)), some (.int y), some (.int (nI 0)), none, none] pn_X4 rfl (Nat.le_of_ble_eq_true rfl) ?_
  intro p e s m args below meth c A C hE hr hnt hn
  refine r_iconst (v := (nI 4294967295)) C dX4_find_0 (by decide) ?_
  refine r_istore C dX4_find_1 (by decide) rfl ?_
  refine r_iconst (v := (nI 0)) C dX4_find_3 (by decide) ?_
  refine r_istore C dX4_find_4 (by decide) rfl ?_
  have L6 : ∀ (d : Nat) (k : Nat) (z : Nat), (hk : k + d = hf 4 i) → (hz : z = 4294967295 ∨ z < 12) → (hF : (if z = 4294967295 then fpF (hq i) y d k else z) = fpF (hq i) y (hf 4 i) 0) → vC p l e (rmz 0 0) s m args below meth c D A (vx_MQ below (vG (fun v1 w1 => v1 = (some (.int (nI (fpF (hq i) y (hf 4 i) 0)))) ∧ w1 = WM cy ba ra hf hq kn th sm ++ Y) D vwCl A) (vGX (fun _ => False) D vwCl (WM cy ba ra hf hq kn th sm ++ Y) A) args s (rmz 0 0).cells (rmz 0 0).slots A) 6 0 0 (WM cy ba ra hf hq kn th sm ++ Y) [some (.ref (ba 9)), some (.int (nI i)), some (.int y), some (.int (nI 0)), some (.int (nI z)), some (.int (nI k))] 6 [] := by
    intro d
    induction d with
    | zero =>
      intro k z hk hz hF
      refine r_iload C dX4_find_6 rfl ?_
      refine r_aload_n C dX4_find_8 rfl ?_
      refine m_get (v := .ref (ba 0)) C 0 (by decide) qf_X4_15 rfl rfl dX4_find_9 ?_
      refine r_iload_n C dX4_find_12 rfl ?_
      refine m_rows (i := i) C (by first | omega | (simp [up2, *]; done) | (simp [up2, *]; omega) | (simp only [up2_eq]; omega) | (split <;> omega)) dX4_find_13 ?_
      refine m_rlen (i := i) (v := hf 4 i) C (by first | omega | (simp [up2, *]; done) | (simp [up2, *]; omega) | (simp only [up2_eq]; omega) | (split <;> omega)) rfl dX4_find_14 ?_
      refine r_icN_ge (a := k) (b := (hf 4 i)) (tgt := 51) C (by first | omega | (simp [up2, *]; done) | (simp [up2, *]; omega) | (simp only [up2_eq]; omega) | (split <;> omega)) (by first | omega | (simp [up2, *]; done) | (simp [up2, *]; omega) | (simp only [up2_eq]; omega) | (split <;> omega)) dX4_find_15 (by decide) (fun h15_1 => ?_) (fun h15_1 => ?_)
      · first
        | exfalso; first | omega | contradiction
        | skip
          refine r_iload C dX4_find_51 rfl ?_
          exact r_iret C hr dX4_find_53 ⟨congrArg (fun q => some (Value.int (nI q))) (by rw [← hF]; exact fp_end.symm), rfl⟩ (Nat.le_of_ble_eq_true rfl) (Nat.le_of_ble_eq_true rfl)
      · first
        | exfalso; first | omega | contradiction
        | skip
          refine r_aload_n C dX4_find_18 rfl ?_
          refine m_get (v := .ref (ba 0)) C 0 (by decide) qf_X4_15 rfl rfl dX4_find_19 ?_
          refine r_iload_n C dX4_find_22 rfl ?_
          refine m_rows (i := i) C (by first | omega | (simp [up2, *]; done) | (simp [up2, *]; omega) | (simp only [up2_eq]; omega) | (split <;> omega)) dX4_find_23 ?_
          refine r_iload C dX4_find_24 rfl ?_
          refine m_rld (i := i) (n := k) C (by first | omega | (simp [up2, *]; done) | (simp [up2, *]; omega) | (simp only [up2_eq]; omega) | (split <;> omega)) (by first | omega | (simp [up2, *]; done) | (simp [up2, *]; omega) | (simp only [up2_eq]; omega) | (split <;> omega)) (by first | omega | (simp [up2, *]; done) | (simp [up2, *]; omega) | (simp only [up2_eq]; omega) | (split <;> omega)) dX4_find_26 ?_
          refine r_iload_n C dX4_find_27 rfl ?_
          refine r_ic_ne (tgt := 45) C dX4_find_28 (by decide) (fun h28_2 => ?_) (fun h28_2 => ?_)
          · first
            | exfalso; first | omega | contradiction
            | skip
              refine r_iincN C dX4_find_45 rfl (by decide) rfl ?_
              refine r_goto (tgt := 6) C dX4_find_48 (by decide) ?_
              exact (Nat.not_lt_zero _ (by omega)).elim
          · first
            | exfalso; first | omega | contradiction
            | skip
              refine r_iload C dX4_find_31 rfl ?_
              refine r_iconst (v := (nI 4294967295)) C dX4_find_33 (by decide) ?_
              refine r_icN_eq (a := z) (b := 4294967295) (tgt := 41) C (by first | omega | (simp [up2, *]; done) | (simp [up2, *]; omega) | (simp only [up2_eq]; omega) | (split <;> omega)) (by first | omega | (simp [up2, *]; done) | (simp [up2, *]; omega) | (simp only [up2_eq]; omega) | (split <;> omega)) dX4_find_34 (by decide) (fun h34_3 => ?_) (fun h34_3 => ?_)
              · first
                | exfalso; first | omega | contradiction
                | skip
                  refine r_iload C dX4_find_41 rfl ?_
                  refine r_istore C dX4_find_43 (by decide) rfl ?_
                  refine r_iincN C dX4_find_45 rfl (by decide) rfl ?_
                  refine r_goto (tgt := 6) C dX4_find_48 (by decide) ?_
                  exact (Nat.not_lt_zero _ (by omega)).elim
              · first
                | exfalso; first | omega | contradiction
                | skip
                  refine r_iload_n C dX4_find_37 rfl ?_
                  refine r_ifN_eq (a := 0) (tgt := 45) C (by first | omega | (simp [up2, *]; done) | (simp [up2, *]; omega) | (simp only [up2_eq]; omega) | (split <;> omega)) dX4_find_38 (by decide) (fun h38_4 => ?_) (fun h38_4 => ?_)
                  · skip
                    refine r_iincN C dX4_find_45 rfl (by decide) rfl ?_
                    refine r_goto (tgt := 6) C dX4_find_48 (by decide) ?_
                    exact (Nat.not_lt_zero _ (by omega)).elim
                  · exact absurd h38_4 (by first | omega | (simp [up2, *]; done) | (simp [up2, *]; omega) | (simp only [up2_eq]; omega) | (split <;> omega))
    | succ d ih_L6 =>
      intro k z hk hz hF
      refine r_iload C dX4_find_6 rfl ?_
      refine r_aload_n C dX4_find_8 rfl ?_
      refine m_get (v := .ref (ba 0)) C 0 (by decide) qf_X4_15 rfl rfl dX4_find_9 ?_
      refine r_iload_n C dX4_find_12 rfl ?_
      refine m_rows (i := i) C (by first | omega | (simp [up2, *]; done) | (simp [up2, *]; omega) | (simp only [up2_eq]; omega) | (split <;> omega)) dX4_find_13 ?_
      refine m_rlen (i := i) (v := hf 4 i) C (by first | omega | (simp [up2, *]; done) | (simp [up2, *]; omega) | (simp only [up2_eq]; omega) | (split <;> omega)) rfl dX4_find_14 ?_
      refine r_icN_ge (a := k) (b := (hf 4 i)) (tgt := 51) C (by first | omega | (simp [up2, *]; done) | (simp [up2, *]; omega) | (simp only [up2_eq]; omega) | (split <;> omega)) (by first | omega | (simp [up2, *]; done) | (simp [up2, *]; omega) | (simp only [up2_eq]; omega) | (split <;> omega)) dX4_find_15 (by decide) (fun h15_5 => ?_) (fun h15_5 => ?_)
      · first
        | exfalso; first | omega | contradiction
        | skip
          refine r_iload C dX4_find_51 rfl ?_
          exact r_iret C hr dX4_find_53 ⟨congrArg (fun q => some (Value.int (nI q))) (by rw [← hF]; exact fp_end.symm), rfl⟩ (Nat.le_of_ble_eq_true rfl) (Nat.le_of_ble_eq_true rfl)
      · first
        | exfalso; first | omega | contradiction
        | skip
          refine r_aload_n C dX4_find_18 rfl ?_
          refine m_get (v := .ref (ba 0)) C 0 (by decide) qf_X4_15 rfl rfl dX4_find_19 ?_
          refine r_iload_n C dX4_find_22 rfl ?_
          refine m_rows (i := i) C (by first | omega | (simp [up2, *]; done) | (simp [up2, *]; omega) | (simp only [up2_eq]; omega) | (split <;> omega)) dX4_find_23 ?_
          refine r_iload C dX4_find_24 rfl ?_
          refine m_rld (i := i) (n := k) C (by first | omega | (simp [up2, *]; done) | (simp [up2, *]; omega) | (simp only [up2_eq]; omega) | (split <;> omega)) (by first | omega | (simp [up2, *]; done) | (simp [up2, *]; omega) | (simp only [up2_eq]; omega) | (split <;> omega)) (by first | omega | (simp [up2, *]; done) | (simp [up2, *]; omega) | (simp only [up2_eq]; omega) | (split <;> omega)) dX4_find_26 ?_
          refine r_iload_n C dX4_find_27 rfl ?_
          refine r_ic_ne (tgt := 45) C dX4_find_28 (by decide) (fun h28_6 => ?_) (fun h28_6 => ?_)
          · first
            | exfalso; first | omega | contradiction
            | skip
              refine r_iincN C dX4_find_45 rfl (by decide) rfl ?_
              refine r_goto (tgt := 6) C dX4_find_48 (by decide) ?_
              exact ih_L6 (k + 1) z (by first | omega | (simp [up2, *]; done) | (simp [up2, *]; omega) | (simp only [up2_eq]; omega) | (split <;> omega)) (by omega) (by rw [← hF]; first | exact fp_step0 (by assumption) | exact fp_step2 (by assumption))
          · first
            | exfalso; first | omega | contradiction
            | skip
              refine r_iload C dX4_find_31 rfl ?_
              refine r_iconst (v := (nI 4294967295)) C dX4_find_33 (by decide) ?_
              refine r_icN_eq (a := z) (b := 4294967295) (tgt := 41) C (by first | omega | (simp [up2, *]; done) | (simp [up2, *]; omega) | (simp only [up2_eq]; omega) | (split <;> omega)) (by first | omega | (simp [up2, *]; done) | (simp [up2, *]; omega) | (simp only [up2_eq]; omega) | (split <;> omega)) dX4_find_34 (by decide) (fun h34_7 => ?_) (fun h34_7 => ?_)
              · first
                | exfalso; first | omega | contradiction
                | skip
                  refine r_iload C dX4_find_41 rfl ?_
                  refine r_istore C dX4_find_43 (by decide) rfl ?_
                  refine r_iincN C dX4_find_45 rfl (by decide) rfl ?_
                  refine r_goto (tgt := 6) C dX4_find_48 (by decide) ?_
                  exact ih_L6 (k + 1) k (by first | omega | (simp [up2, *]; done) | (simp [up2, *]; omega) | (simp only [up2_eq]; omega) | (split <;> omega)) (by omega) (by rw [← hF]; exact fp_step1 (by assumption) (by assumption) (by omega))
              · first
                | exfalso; first | omega | contradiction
                | skip
                  refine r_iload_n C dX4_find_37 rfl ?_
                  refine r_ifN_eq (a := 0) (tgt := 45) C (by first | omega | (simp [up2, *]; done) | (simp [up2, *]; omega) | (simp only [up2_eq]; omega) | (split <;> omega)) dX4_find_38 (by decide) (fun h38_8 => ?_) (fun h38_8 => ?_)
                  · skip
                    refine r_iincN C dX4_find_45 rfl (by decide) rfl ?_
                    refine r_goto (tgt := 6) C dX4_find_48 (by decide) ?_
                    exact ih_L6 (k + 1) z (by first | omega | (simp [up2, *]; done) | (simp [up2, *]; omega) | (simp only [up2_eq]; omega) | (split <;> omega)) (by omega) (by rw [← hF]; first | exact fp_step0 (by assumption) | exact fp_step2 (by assumption))
                  · exact absurd h38_8 (by first | omega | (simp [up2, *]; done) | (simp [up2, *]; omega) | (simp only [up2_eq]; omega) | (split <;> omega))
  exact L6 (hf 4 i) 0 4294967295 (by first | omega | (simp [up2, *]; done) | (simp [up2, *]; omega) | (simp only [up2_eq]; omega) | (split <;> omega)) (Or.inl rfl) (if_pos rfl)
set_option maxRecDepth 100000 in
set_option maxHeartbeats 4000000 in
theorem D_find1 {l : Launch} {D : va_G} {cy : Nat → ClassId} {X : (Nat → Prop) → State → Heap → Prop} {ba ra : Nat → Nat} {hf : Nat → Nat → Nat} {hq : Nat → Nat → Int32} {kn th : Int32} {sm : Int64} {Y : va_W} {i : Nat} {y : Int32} (hX : EnvM X cy) (hi4 : i < 4) (h12i : hf 4 i ≤ 12) : Cd l D cy X yX4_find cX4_find 6 (some .int) (rmz 0 0) [.ref (ba 9), .int (nI i), .int y, .int (nI 1)] (WM cy ba ra hf hq kn th sm ++ Y) (some (.int (nI (liF (hq i) y (hf 4 i) 0 4294967295)))) (WM cy ba ra hf hq kn th sm ++ Y) := by
  refine Cm.of [some (.ref (ba 9)), some (.int (nI i)), some (.int y), some (.int (nI 1)), none, none] pn_X4 rfl (Nat.le_of_ble_eq_true rfl) ?_
  intro p e s m args below meth c A C hE hr hnt hn
  refine r_iconst (v := (nI 4294967295)) C dX4_find_0 (by decide) ?_
  refine r_istore C dX4_find_1 (by decide) rfl ?_
  refine r_iconst (v := (nI 0)) C dX4_find_3 (by decide) ?_
  refine r_istore C dX4_find_4 (by decide) rfl ?_
  have L6 : ∀ (d : Nat) (k : Nat) (z : Nat), (hk : k + d = hf 4 i) → (hz : z = 4294967295 ∨ z < 12) → (hF : liF (hq i) y d k z = liF (hq i) y (hf 4 i) 0 4294967295) → vC p l e (rmz 0 0) s m args below meth c D A (vx_MQ below (vG (fun v1 w1 => v1 = (some (.int (nI (liF (hq i) y (hf 4 i) 0 4294967295)))) ∧ w1 = WM cy ba ra hf hq kn th sm ++ Y) D vwCl A) (vGX (fun _ => False) D vwCl (WM cy ba ra hf hq kn th sm ++ Y) A) args s (rmz 0 0).cells (rmz 0 0).slots A) 6 0 0 (WM cy ba ra hf hq kn th sm ++ Y) [some (.ref (ba 9)), some (.int (nI i)), some (.int y), some (.int (nI 1)), some (.int (nI z)), some (.int (nI k))] 6 [] := by
    intro d
    induction d with
    | zero =>
      intro k z hk hz hF
      refine r_iload C dX4_find_6 rfl ?_
      refine r_aload_n C dX4_find_8 rfl ?_
      refine m_get (v := .ref (ba 0)) C 0 (by decide) qf_X4_15 rfl rfl dX4_find_9 ?_
      refine r_iload_n C dX4_find_12 rfl ?_
      refine m_rows (i := i) C (by first | omega | (simp [up2, *]; done) | (simp [up2, *]; omega) | (simp only [up2_eq]; omega) | (split <;> omega)) dX4_find_13 ?_
      refine m_rlen (i := i) (v := hf 4 i) C (by first | omega | (simp [up2, *]; done) | (simp [up2, *]; omega) | (simp only [up2_eq]; omega) | (split <;> omega)) rfl dX4_find_14 ?_
      refine r_icN_ge (a := k) (b := (hf 4 i)) (tgt := 51) C (by first | omega | (simp [up2, *]; done) | (simp [up2, *]; omega) | (simp only [up2_eq]; omega) | (split <;> omega)) (by first | omega | (simp [up2, *]; done) | (simp [up2, *]; omega) | (simp only [up2_eq]; omega) | (split <;> omega)) dX4_find_15 (by decide) (fun h15_1 => ?_) (fun h15_1 => ?_)
      · first
        | exfalso; first | omega | contradiction
        | skip
          refine r_iload C dX4_find_51 rfl ?_
          exact r_iret C hr dX4_find_53 ⟨congrArg (fun q => some (Value.int (nI q))) (by rw [← hF]; rfl), rfl⟩ (Nat.le_of_ble_eq_true rfl) (Nat.le_of_ble_eq_true rfl)
      · first
        | exfalso; first | omega | contradiction
        | skip
          refine r_aload_n C dX4_find_18 rfl ?_
          refine m_get (v := .ref (ba 0)) C 0 (by decide) qf_X4_15 rfl rfl dX4_find_19 ?_
          refine r_iload_n C dX4_find_22 rfl ?_
          refine m_rows (i := i) C (by first | omega | (simp [up2, *]; done) | (simp [up2, *]; omega) | (simp only [up2_eq]; omega) | (split <;> omega)) dX4_find_23 ?_
          refine r_iload C dX4_find_24 rfl ?_
          refine m_rld (i := i) (n := k) C (by first | omega | (simp [up2, *]; done) | (simp [up2, *]; omega) | (simp only [up2_eq]; omega) | (split <;> omega)) (by first | omega | (simp [up2, *]; done) | (simp [up2, *]; omega) | (simp only [up2_eq]; omega) | (split <;> omega)) (by first | omega | (simp [up2, *]; done) | (simp [up2, *]; omega) | (simp only [up2_eq]; omega) | (split <;> omega)) dX4_find_26 ?_
          refine r_iload_n C dX4_find_27 rfl ?_
          refine r_ic_ne (tgt := 45) C dX4_find_28 (by decide) (fun h28_2 => ?_) (fun h28_2 => ?_)
          · first
            | exfalso; first | omega | contradiction
            | skip
              refine r_iincN C dX4_find_45 rfl (by decide) rfl ?_
              refine r_goto (tgt := 6) C dX4_find_48 (by decide) ?_
              exact (Nat.not_lt_zero _ (by omega)).elim
          · first
            | exfalso; first | omega | contradiction
            | skip
              refine r_iload C dX4_find_31 rfl ?_
              refine r_iconst (v := (nI 4294967295)) C dX4_find_33 (by decide) ?_
              refine r_icN_eq (a := z) (b := 4294967295) (tgt := 41) C (by first | omega | (simp [up2, *]; done) | (simp [up2, *]; omega) | (simp only [up2_eq]; omega) | (split <;> omega)) (by first | omega | (simp [up2, *]; done) | (simp [up2, *]; omega) | (simp only [up2_eq]; omega) | (split <;> omega)) dX4_find_34 (by decide) (fun h34_3 => ?_) (fun h34_3 => ?_)
              · first
                | exfalso; first | omega | contradiction
                | skip
                  refine r_iload C dX4_find_41 rfl ?_
                  refine r_istore C dX4_find_43 (by decide) rfl ?_
                  refine r_iincN C dX4_find_45 rfl (by decide) rfl ?_
                  refine r_goto (tgt := 6) C dX4_find_48 (by decide) ?_
                  exact (Nat.not_lt_zero _ (by omega)).elim
              · first
                | exfalso; first | omega | contradiction
                | skip
                  refine r_iload_n C dX4_find_37 rfl ?_
                  refine r_ifN_eq (a := 1) (tgt := 45) C (by first | omega | (simp [up2, *]; done) | (simp [up2, *]; omega) | (simp only [up2_eq]; omega) | (split <;> omega)) dX4_find_38 (by decide) (fun h38_4 => ?_) (fun h38_4 => ?_)
                  · exact absurd h38_4 (by first | omega | (simp [up2, *]; done) | (simp [up2, *]; omega) | (simp only [up2_eq]; omega) | (split <;> omega))
                  · skip
                    refine r_iload C dX4_find_41 rfl ?_
                    refine r_istore C dX4_find_43 (by decide) rfl ?_
                    refine r_iincN C dX4_find_45 rfl (by decide) rfl ?_
                    refine r_goto (tgt := 6) C dX4_find_48 (by decide) ?_
                    exact (Nat.not_lt_zero _ (by omega)).elim
    | succ d ih_L6 =>
      intro k z hk hz hF
      refine r_iload C dX4_find_6 rfl ?_
      refine r_aload_n C dX4_find_8 rfl ?_
      refine m_get (v := .ref (ba 0)) C 0 (by decide) qf_X4_15 rfl rfl dX4_find_9 ?_
      refine r_iload_n C dX4_find_12 rfl ?_
      refine m_rows (i := i) C (by first | omega | (simp [up2, *]; done) | (simp [up2, *]; omega) | (simp only [up2_eq]; omega) | (split <;> omega)) dX4_find_13 ?_
      refine m_rlen (i := i) (v := hf 4 i) C (by first | omega | (simp [up2, *]; done) | (simp [up2, *]; omega) | (simp only [up2_eq]; omega) | (split <;> omega)) rfl dX4_find_14 ?_
      refine r_icN_ge (a := k) (b := (hf 4 i)) (tgt := 51) C (by first | omega | (simp [up2, *]; done) | (simp [up2, *]; omega) | (simp only [up2_eq]; omega) | (split <;> omega)) (by first | omega | (simp [up2, *]; done) | (simp [up2, *]; omega) | (simp only [up2_eq]; omega) | (split <;> omega)) dX4_find_15 (by decide) (fun h15_5 => ?_) (fun h15_5 => ?_)
      · first
        | exfalso; first | omega | contradiction
        | skip
          refine r_iload C dX4_find_51 rfl ?_
          exact r_iret C hr dX4_find_53 ⟨congrArg (fun q => some (Value.int (nI q))) (by rw [← hF]; rfl), rfl⟩ (Nat.le_of_ble_eq_true rfl) (Nat.le_of_ble_eq_true rfl)
      · first
        | exfalso; first | omega | contradiction
        | skip
          refine r_aload_n C dX4_find_18 rfl ?_
          refine m_get (v := .ref (ba 0)) C 0 (by decide) qf_X4_15 rfl rfl dX4_find_19 ?_
          refine r_iload_n C dX4_find_22 rfl ?_
          refine m_rows (i := i) C (by first | omega | (simp [up2, *]; done) | (simp [up2, *]; omega) | (simp only [up2_eq]; omega) | (split <;> omega)) dX4_find_23 ?_
          refine r_iload C dX4_find_24 rfl ?_
          refine m_rld (i := i) (n := k) C (by first | omega | (simp [up2, *]; done) | (simp [up2, *]; omega) | (simp only [up2_eq]; omega) | (split <;> omega)) (by first | omega | (simp [up2, *]; done) | (simp [up2, *]; omega) | (simp only [up2_eq]; omega) | (split <;> omega)) (by first | omega | (simp [up2, *]; done) | (simp [up2, *]; omega) | (simp only [up2_eq]; omega) | (split <;> omega)) dX4_find_26 ?_
          refine r_iload_n C dX4_find_27 rfl ?_
          refine r_ic_ne (tgt := 45) C dX4_find_28 (by decide) (fun h28_6 => ?_) (fun h28_6 => ?_)
          · first
            | exfalso; first | omega | contradiction
            | skip
              refine r_iincN C dX4_find_45 rfl (by decide) rfl ?_
              refine r_goto (tgt := 6) C dX4_find_48 (by decide) ?_
              exact ih_L6 (k + 1) z (by first | omega | (simp [up2, *]; done) | (simp [up2, *]; omega) | (simp only [up2_eq]; omega) | (split <;> omega)) (by omega) (by rw [← hF]; exact li_no (by assumption))
          · first
            | exfalso; first | omega | contradiction
            | skip
              refine r_iload C dX4_find_31 rfl ?_
              refine r_iconst (v := (nI 4294967295)) C dX4_find_33 (by decide) ?_
              refine r_icN_eq (a := z) (b := 4294967295) (tgt := 41) C (by first | omega | (simp [up2, *]; done) | (simp [up2, *]; omega) | (simp only [up2_eq]; omega) | (split <;> omega)) (by first | omega | (simp [up2, *]; done) | (simp [up2, *]; omega) | (simp only [up2_eq]; omega) | (split <;> omega)) dX4_find_34 (by decide) (fun h34_7 => ?_) (fun h34_7 => ?_)
              · first
                | exfalso; first | omega | contradiction
                | skip
                  refine r_iload C dX4_find_41 rfl ?_
                  refine r_istore C dX4_find_43 (by decide) rfl ?_
                  refine r_iincN C dX4_find_45 rfl (by decide) rfl ?_
                  refine r_goto (tgt := 6) C dX4_find_48 (by decide) ?_
                  exact ih_L6 (k + 1) k (by first | omega | (simp [up2, *]; done) | (simp [up2, *]; omega) | (simp only [up2_eq]; omega) | (split <;> omega)) (by omega) (by rw [← hF]; exact li_yes (by assumption))
              · first
                | exfalso; first | omega | contradiction
                | skip
                  refine r_iload_n C dX4_find_37 rfl ?_
                  refine r_ifN_eq (a := 1) (tgt := 45) C (by first | omega | (simp [up2, *]; done) | (simp [up2, *]; omega) | (simp only [up2_eq]; omega) | (split <;> omega)) dX4_find_38 (by decide) (fun h38_8 => ?_) (fun h38_8 => ?_)
                  · exact absurd h38_8 (by first | omega | (simp [up2, *]; done) | (simp [up2, *]; omega) | (simp only [up2_eq]; omega) | (split <;> omega))
                  · skip
                    refine r_iload C dX4_find_41 rfl ?_
                    refine r_istore C dX4_find_43 (by decide) rfl ?_
                    refine r_iincN C dX4_find_45 rfl (by decide) rfl ?_
                    refine r_goto (tgt := 6) C dX4_find_48 (by decide) ?_
                    exact ih_L6 (k + 1) k (by first | omega | (simp [up2, *]; done) | (simp [up2, *]; omega) | (simp only [up2_eq]; omega) | (split <;> omega)) (by omega) (by rw [← hF]; exact li_yes (by assumption))
  exact L6 (hf 4 i) 0 4294967295 (by first | omega | (simp [up2, *]; done) | (simp [up2, *]; omega) | (simp only [up2_eq]; omega) | (split <;> omega)) (Or.inl rfl) rfl
theorem pk_X4_isNoRow : PkS yX4_isNoRow cX4_isNoRow 1 (some .boolean) 1 := ⟨⟨qt_X4_isNoRow, qz_X4, qc_X4_isNoRow⟩, mh_X4.1, mh_X4.2, pd_8⟩
theorem dX4_fill_0 : decode cX4_fill 0 = .ok (.aload_n 0, 1) := dqo_42 (kb_of ke_X4_fill 0 rfl)
theorem dX4_fill_1 : decode cX4_fill 1 = .ok (.iload_n 1, 1) := dqo_27 (kb_of ke_X4_fill 1 rfl)
theorem dX4_fill_2 : decode cX4_fill 2 = .ok (.invokestatic 119, 3) := dqo_184 0 119 (kb_of ke_X4_fill 2 rfl) (kb_of ke_X4_fill 3 rfl) (kb_of ke_X4_fill 4 rfl)
theorem dX4_fill_5 : decode cX4_fill 5 = .ok (.iload_n 2, 1) := dqo_28 (kb_of ke_X4_fill 5 rfl)
theorem dX4_fill_6 : decode cX4_fill 6 = .ok (.invokestatic 78, 3) := dqo_184 0 78 (kb_of ke_X4_fill 6 rfl) (kb_of ke_X4_fill 7 rfl) (kb_of ke_X4_fill 8 rfl)
theorem dX4_fill_9 : decode cX4_fill 9 = .ok (.iconst 0, 1) := dqo_3 (kb_of ke_X4_fill 9 rfl)
theorem dX4_fill_10 : decode cX4_fill 10 = .ok (.invokevirtual 84, 3) := dqo_182 0 84 (kb_of ke_X4_fill 10 rfl) (kb_of ke_X4_fill 11 rfl) (kb_of ke_X4_fill 12 rfl)
theorem dX4_fill_13 : decode cX4_fill 13 = .ok (.ifCond .eq 5, 3) := dqo_153 0 5 (by decide) (kb_of ke_X4_fill 13 rfl) (kb_of ke_X4_fill 14 rfl) (kb_of ke_X4_fill 15 rfl)
theorem dX4_fill_16 : decode cX4_fill 16 = .ok (.iconst 0, 1) := dqo_3 (kb_of ke_X4_fill 16 rfl)
theorem dX4_fill_17 : decode cX4_fill 17 = .ok (.ireturn, 1) := dqo_172 (kb_of ke_X4_fill 17 rfl)
set_option maxRecDepth 100000 in
set_option maxHeartbeats 4000000 in
theorem D_fill_noR {l : Launch} {D : va_G} {cy : Nat → ClassId} {X : (Nat → Prop) → State → Heap → Prop} {ba ra : Nat → Nat} {hf : Nat → Nat → Nat} {hq : Nat → Nat → Int32} {kn th : Int32} {sm : Int64} {Y : va_W} {f : Nat → Nat → Nat} {r : Nat → Nat → Int32} {x : Int32} {y : Int32} (hX : EnvM X cy) (hC : CInv f) (hM : MR f r hf hq) (hno : ¬ (0 ≤ x ∧ x < nI 4)) : Cd l D cy X yX4_fill cX4_fill 4 (some .int) (rmk 9 4 48 420) [.ref (ba 9), .int x, .int y] (WM cy ba ra hf hq kn th sm ++ Y) (some (.int (nI 0))) (WM cy ba ra hf hq kn (nI 1) sm ++ Y) := by
  have hG := hM.1
  have h5M := hM.h5M hC
  have h4M := hC.h4M
  have h9a := hM.h9a hC
  have h6a := hM.h6a
  have hU := hM.hU hC
  refine Cm.of [some (.ref (ba 9)), some (.int x), some (.int y), none] pn_X4 rfl (Nat.le_of_ble_eq_true rfl) ?_
  intro p e s m args below meth c A C hE hr hnt hn
  refine r_aload_n C dX4_fill_0 rfl ?_
  refine r_iload_n C dX4_fill_1 rfl ?_
  refine d_S (st := [.ref (ba 9)]) hX.1.stb C hE (D_isNoRow1 (ba := ba) (ra := ra) (hf := hf) (hq := hq) (kn := kn) (th := th) (sm := sm) (Y := Y) (x := (x)) hX hno) pk_X4_isNoRow qm_X4_119 rfl rfl (Nat.le_of_ble_eq_true rfl) dX4_fill_2 ⟨(Nat.le_of_ble_eq_true rfl), (Nat.le_of_ble_eq_true rfl)⟩ ⟨(Nat.le_of_ble_eq_true rfl), (Nat.le_of_ble_eq_true rfl)⟩ ?_
  refine r_w (w' := WM cy ba ra hf hq kn th sm ++ Y) rfl ?_
  refine r_iload_n C dX4_fill_5 rfl ?_
  refine d_S (st := [.int (nI 1), .ref (ba 9)]) hX.1.stb C hE (D_isNoItemX (ba := ba) (ra := ra) (hf := hf) (hq := hq) (kn := kn) (th := th) (sm := sm) (Y := Y) (y := (y)) hX ) pk_X4_isNoItem qm_X4_78 rfl rfl (Nat.le_of_ble_eq_true rfl) dX4_fill_6 ⟨(Nat.le_of_ble_eq_true rfl), (Nat.le_of_ble_eq_true rfl)⟩ ⟨(Nat.le_of_ble_eq_true rfl), (Nat.le_of_ble_eq_true rfl)⟩ ?_
  refine r_w (w' := WM cy ba ra hf hq kn th sm ++ Y) rfl ?_
  refine r_iconst (v := (nI 0)) C dX4_fill_9 (by decide) ?_
  refine d_V (st := []) hX.1.stb C hE (D_fails1 (ba := ba) (ra := ra) (hf := hf) (hq := hq) (kn := kn) (th := th) (sm := sm) (Y := Y) (b0 := (niF (y))) (d0 := 0) hX ) pk_X4_fails qm_X4_84 0 8 rfl rfl wm_0 rfl rfl (Nat.le_of_ble_eq_true rfl) dX4_fill_10 ⟨(Nat.le_of_ble_eq_true rfl), (Nat.le_of_ble_eq_true rfl)⟩ ⟨(Nat.le_of_ble_eq_true rfl), (Nat.le_of_ble_eq_true rfl)⟩ ?_
  refine r_w (w' := WM cy ba ra hf hq kn (nI 1) sm ++ Y) rfl ?_
  refine r_ifN_eq (a := 1) (tgt := 18) C (by first | omega | (simp [up2, *]; done) | (simp [up2, *]; omega) | (simp only [up2_eq]; omega) | (split <;> omega)) dX4_fill_13 (by decide) (fun h13_1 => ?_) (fun h13_1 => ?_)
  · exact absurd h13_1 (by first | omega | (simp [up2, *]; done) | (simp [up2, *]; omega) | (simp only [up2_eq]; omega) | (split <;> omega))
  · skip
    refine r_iconst (v := (nI 0)) C dX4_fill_16 (by decide) ?_
    exact r_iret C hr dX4_fill_17 ⟨rfl, rfl⟩ (Nat.le_of_ble_eq_true rfl) (Nat.le_of_ble_eq_true rfl)
set_option maxRecDepth 100000 in
set_option maxHeartbeats 4000000 in
theorem D_fill_noI {l : Launch} {D : va_G} {cy : Nat → ClassId} {X : (Nat → Prop) → State → Heap → Prop} {ba ra : Nat → Nat} {hf : Nat → Nat → Nat} {hq : Nat → Nat → Int32} {kn th : Int32} {sm : Int64} {Y : va_W} {f : Nat → Nat → Nat} {r : Nat → Nat → Int32} {i : Nat} {y : Int32} (hX : EnvM X cy) (hC : CInv f) (hM : MR f r hf hq) (hi4 : i < 4) (ho : ¬ okI y) : Cd l D cy X yX4_fill cX4_fill 4 (some .int) (rmk 9 4 48 420) [.ref (ba 9), .int (nI i), .int y] (WM cy ba ra hf hq kn th sm ++ Y) (some (.int (nI 0))) (WM cy ba ra hf hq kn (nI 2) sm ++ Y) := by
  have hG := hM.1
  have h5M := hM.h5M hC
  have h4M := hC.h4M
  have h9a := hM.h9a hC
  have h6a := hM.h6a
  have hU := hM.hU hC
  have qi := hC.rw hi4
  have pi := (hM.2.1 i hi4).1
  have ei : hf 4 (f 1 i) = hf 4 i := by rw [qi.2.1]
  have wi := hM.wh hC (w := i) (by omega) qi.2.2.2.2.2
  refine Cm.of [some (.ref (ba 9)), some (.int (nI i)), some (.int y), none] pn_X4 rfl (Nat.le_of_ble_eq_true rfl) ?_
  intro p e s m args below meth c A C hE hr hnt hn
  refine r_aload_n C dX4_fill_0 rfl ?_
  refine r_iload_n C dX4_fill_1 rfl ?_
  refine d_S (st := [.ref (ba 9)]) hX.1.stb C hE (D_isNoRow0 (ba := ba) (ra := ra) (hf := hf) (hq := hq) (kn := kn) (th := th) (sm := sm) (Y := Y) (i := i) hX (by first | omega | (simp [up2, *]; done) | (simp [up2, *]; omega) | (simp only [up2_eq]; omega) | (split <;> omega))) pk_X4_isNoRow qm_X4_119 rfl rfl (Nat.le_of_ble_eq_true rfl) dX4_fill_2 ⟨(Nat.le_of_ble_eq_true rfl), (Nat.le_of_ble_eq_true rfl)⟩ ⟨(Nat.le_of_ble_eq_true rfl), (Nat.le_of_ble_eq_true rfl)⟩ ?_
  refine r_w (w' := WM cy ba ra hf hq kn th sm ++ Y) rfl ?_
  refine r_iload_n C dX4_fill_5 rfl ?_
  refine d_S (st := [.int (nI 0), .ref (ba 9)]) hX.1.stb C hE (D_isNoItem1 (ba := ba) (ra := ra) (hf := hf) (hq := hq) (kn := kn) (th := th) (sm := sm) (Y := Y) (y := (y)) hX ho) pk_X4_isNoItem qm_X4_78 rfl rfl (Nat.le_of_ble_eq_true rfl) dX4_fill_6 ⟨(Nat.le_of_ble_eq_true rfl), (Nat.le_of_ble_eq_true rfl)⟩ ⟨(Nat.le_of_ble_eq_true rfl), (Nat.le_of_ble_eq_true rfl)⟩ ?_
  refine r_w (w' := WM cy ba ra hf hq kn th sm ++ Y) rfl ?_
  refine r_iconst (v := (nI 0)) C dX4_fill_9 (by decide) ?_
  refine d_V (st := []) hX.1.stb C hE (D_fails2 (ba := ba) (ra := ra) (hf := hf) (hq := hq) (kn := kn) (th := th) (sm := sm) (Y := Y) (d0 := 0) hX ) pk_X4_fails qm_X4_84 0 8 rfl rfl wm_0 rfl rfl (Nat.le_of_ble_eq_true rfl) dX4_fill_10 ⟨(Nat.le_of_ble_eq_true rfl), (Nat.le_of_ble_eq_true rfl)⟩ ⟨(Nat.le_of_ble_eq_true rfl), (Nat.le_of_ble_eq_true rfl)⟩ ?_
  refine r_w (w' := WM cy ba ra hf hq kn (nI 2) sm ++ Y) rfl ?_
  refine r_ifN_eq (a := 1) (tgt := 18) C (by first | omega | (simp [up2, *]; done) | (simp [up2, *]; omega) | (simp only [up2_eq]; omega) | (split <;> omega)) dX4_fill_13 (by decide) (fun h13_1 => ?_) (fun h13_1 => ?_)
  · exact absurd h13_1 (by first | omega | (simp [up2, *]; done) | (simp [up2, *]; omega) | (simp only [up2_eq]; omega) | (split <;> omega))
  · skip
    refine r_iconst (v := (nI 0)) C dX4_fill_16 (by decide) ?_
    exact r_iret C hr dX4_fill_17 ⟨rfl, rfl⟩ (Nat.le_of_ble_eq_true rfl) (Nat.le_of_ble_eq_true rfl)
theorem dX4_fill_18 : decode cX4_fill 18 = .ok (.iconst 0, 1) := dqo_3 (kb_of ke_X4_fill 18 rfl)
theorem dX4_fill_19 : decode cX4_fill 19 = .ok (.istore_n 3, 1) := dqo_62 (kb_of ke_X4_fill 19 rfl)
theorem dX4_fill_20 : decode cX4_fill 20 = .ok (.iload_n 3, 1) := dqo_29 (kb_of ke_X4_fill 20 rfl)
theorem dX4_fill_21 : decode cX4_fill 21 = .ok (.aload_n 0, 1) := dqo_42 (kb_of ke_X4_fill 21 rfl)
theorem dX4_fill_22 : decode cX4_fill 22 = .ok (.getfield 15, 3) := dqo_180 0 15 (kb_of ke_X4_fill 22 rfl) (kb_of ke_X4_fill 23 rfl) (kb_of ke_X4_fill 24 rfl)
theorem dX4_fill_25 : decode cX4_fill 25 = .ok (.iload_n 1, 1) := dqo_27 (kb_of ke_X4_fill 25 rfl)
theorem dX4_fill_26 : decode cX4_fill 26 = .ok (.aaload, 1) := dqo_50 (kb_of ke_X4_fill 26 rfl)
theorem dX4_fill_27 : decode cX4_fill 27 = .ok (.arraylength, 1) := dqo_190 (kb_of ke_X4_fill 27 rfl)
theorem dX4_fill_28 : decode cX4_fill 28 = .ok (.if_icmp .ge 18, 3) := dqo_162 0 18 (by decide) (kb_of ke_X4_fill 28 rfl) (kb_of ke_X4_fill 29 rfl) (kb_of ke_X4_fill 30 rfl)
theorem dX4_fill_31 : decode cX4_fill 31 = .ok (.aload_n 0, 1) := dqo_42 (kb_of ke_X4_fill 31 rfl)
theorem dX4_fill_32 : decode cX4_fill 32 = .ok (.getfield 15, 3) := dqo_180 0 15 (kb_of ke_X4_fill 32 rfl) (kb_of ke_X4_fill 33 rfl) (kb_of ke_X4_fill 34 rfl)
theorem dX4_fill_35 : decode cX4_fill 35 = .ok (.iload_n 1, 1) := dqo_27 (kb_of ke_X4_fill 35 rfl)
theorem dX4_fill_36 : decode cX4_fill 36 = .ok (.aaload, 1) := dqo_50 (kb_of ke_X4_fill 36 rfl)
theorem dX4_fill_37 : decode cX4_fill 37 = .ok (.iload_n 3, 1) := dqo_29 (kb_of ke_X4_fill 37 rfl)
theorem dX4_fill_38 : decode cX4_fill 38 = .ok (.iload_n 2, 1) := dqo_28 (kb_of ke_X4_fill 38 rfl)
theorem dX4_fill_39 : decode cX4_fill 39 = .ok (.iastore, 1) := dqo_79 (kb_of ke_X4_fill 39 rfl)
theorem dX4_fill_40 : decode cX4_fill 40 = .ok (.iinc 3 1, 3) := dqo_132 3 1 (by decide) (kb_of ke_X4_fill 40 rfl) (kb_of ke_X4_fill 41 rfl) (kb_of ke_X4_fill 42 rfl)
theorem dX4_fill_43 : decode cX4_fill 43 = .ok (.goto (-23), 3) := dqo_167 255 233 (by decide) (kb_of ke_X4_fill 43 rfl) (kb_of ke_X4_fill 44 rfl) (kb_of ke_X4_fill 45 rfl)
theorem dX4_fill_46 : decode cX4_fill 46 = .ok (.aload_n 0, 1) := dqo_42 (kb_of ke_X4_fill 46 rfl)
theorem dX4_fill_47 : decode cX4_fill 47 = .ok (.getfield 15, 3) := dqo_180 0 15 (kb_of ke_X4_fill 47 rfl) (kb_of ke_X4_fill 48 rfl) (kb_of ke_X4_fill 49 rfl)
theorem dX4_fill_50 : decode cX4_fill 50 = .ok (.iload_n 1, 1) := dqo_27 (kb_of ke_X4_fill 50 rfl)
theorem dX4_fill_51 : decode cX4_fill 51 = .ok (.aaload, 1) := dqo_50 (kb_of ke_X4_fill 51 rfl)
theorem dX4_fill_52 : decode cX4_fill 52 = .ok (.arraylength, 1) := dqo_190 (kb_of ke_X4_fill 52 rfl)
theorem dX4_fill_53 : decode cX4_fill 53 = .ok (.ireturn, 1) := dqo_172 (kb_of ke_X4_fill 53 rfl)
set_option maxRecDepth 100000 in
set_option maxHeartbeats 4000000 in
theorem D_fill_ok {l : Launch} {D : va_G} {cy : Nat → ClassId} {X : (Nat → Prop) → State → Heap → Prop} {ba ra : Nat → Nat} {hf : Nat → Nat → Nat} {hq : Nat → Nat → Int32} {kn th : Int32} {sm : Int64} {Y : va_W} {f : Nat → Nat → Nat} {r : Nat → Nat → Int32} {i : Nat} {y : Int32} (hX : EnvM X cy) (hC : CInv f) (hM : MR f r hf hq) (hi4 : i < 4) (ho : okI y) : Cd l D cy X yX4_fill cX4_fill 4 (some .int) (rmk 9 4 48 420) [.ref (ba 9), .int (nI i), .int y] (WM cy ba ra hf hq kn th sm ++ Y) (some (.int (nI (hf 4 i)))) (WM cy ba ra hf (wrR hq i 0 (hf 4 i) (fun _ => y)) kn (nI 0) sm ++ Y) := by
  have hG := hM.1
  have h5M := hM.h5M hC
  have h4M := hC.h4M
  have h9a := hM.h9a hC
  have h6a := hM.h6a
  have hU := hM.hU hC
  have qi := hC.rw hi4
  have pi := (hM.2.1 i hi4).1
  have ei : hf 4 (f 1 i) = hf 4 i := by rw [qi.2.1]
  have wi := hM.wh hC (w := i) (by omega) qi.2.2.2.2.2
  refine Cm.of [some (.ref (ba 9)), some (.int (nI i)), some (.int y), none] pn_X4 rfl (Nat.le_of_ble_eq_true rfl) ?_
  intro p e s m args below meth c A C hE hr hnt hn
  refine r_aload_n C dX4_fill_0 rfl ?_
  refine r_iload_n C dX4_fill_1 rfl ?_
  refine d_S (st := [.ref (ba 9)]) hX.1.stb C hE (D_isNoRow0 (ba := ba) (ra := ra) (hf := hf) (hq := hq) (kn := kn) (th := th) (sm := sm) (Y := Y) (i := i) hX (by first | omega | (simp [up2, *]; done) | (simp [up2, *]; omega) | (simp only [up2_eq]; omega) | (split <;> omega))) pk_X4_isNoRow qm_X4_119 rfl rfl (Nat.le_of_ble_eq_true rfl) dX4_fill_2 ⟨(Nat.le_of_ble_eq_true rfl), (Nat.le_of_ble_eq_true rfl)⟩ ⟨(Nat.le_of_ble_eq_true rfl), (Nat.le_of_ble_eq_true rfl)⟩ ?_
  refine r_w (w' := WM cy ba ra hf hq kn th sm ++ Y) rfl ?_
  refine r_iload_n C dX4_fill_5 rfl ?_
  refine d_S (st := [.int (nI 0), .ref (ba 9)]) hX.1.stb C hE (D_isNoItem0 (ba := ba) (ra := ra) (hf := hf) (hq := hq) (kn := kn) (th := th) (sm := sm) (Y := Y) (y := (y)) hX ho) pk_X4_isNoItem qm_X4_78 rfl rfl (Nat.le_of_ble_eq_true rfl) dX4_fill_6 ⟨(Nat.le_of_ble_eq_true rfl), (Nat.le_of_ble_eq_true rfl)⟩ ⟨(Nat.le_of_ble_eq_true rfl), (Nat.le_of_ble_eq_true rfl)⟩ ?_
  refine r_w (w' := WM cy ba ra hf hq kn th sm ++ Y) rfl ?_
  refine r_iconst (v := (nI 0)) C dX4_fill_9 (by decide) ?_
  refine d_V (st := []) hX.1.stb C hE (D_fails0 (ba := ba) (ra := ra) (hf := hf) (hq := hq) (kn := kn) (th := th) (sm := sm) (Y := Y)  hX ) pk_X4_fails qm_X4_84 0 8 rfl rfl wm_0 rfl rfl (Nat.le_of_ble_eq_true rfl) dX4_fill_10 ⟨(Nat.le_of_ble_eq_true rfl), (Nat.le_of_ble_eq_true rfl)⟩ ⟨(Nat.le_of_ble_eq_true rfl), (Nat.le_of_ble_eq_true rfl)⟩ ?_
  refine r_w (w' := WM cy ba ra hf hq kn (nI 0) sm ++ Y) rfl ?_
  refine r_ifN_eq (a := 0) (tgt := 18) C (by first | omega | (simp [up2, *]; done) | (simp [up2, *]; omega) | (simp only [up2_eq]; omega) | (split <;> omega)) dX4_fill_13 (by decide) (fun h13_1 => ?_) (fun h13_1 => ?_)
  · skip
    refine r_iconst (v := (nI 0)) C dX4_fill_18 (by decide) ?_
    refine r_istore_n C dX4_fill_19 (by decide) rfl ?_
    refine r_w (w' := WM cy ba ra hf (wrR hq i 0 0 (fun _ => y)) kn (nI 0) sm ++ Y) (by rw [wrR_0]) ?_
    have L20 : ∀ (d : Nat) (k : Nat), (hk : k + d = hf 4 i) → vC p l e (rmk 9 4 48 420) s m args below meth c D A (vx_MQ below (vG (fun v1 w1 => v1 = (some (.int (nI (hf 4 i)))) ∧ w1 = WM cy ba ra hf (wrR hq i 0 (hf 4 i) (fun _ => y)) kn (nI 0) sm ++ Y) D vwCl A) (vGX (fun _ => False) D vwCl (WM cy ba ra hf hq kn th sm ++ Y) A) args s (rmk 9 4 48 420).cells (rmk 9 4 48 420).slots A) 4 0 0 (WM cy ba ra hf (wrR hq i 0 k (fun _ => y)) kn (nI 0) sm ++ Y) [some (.ref (ba 9)), some (.int (nI i)), some (.int y), some (.int (nI k))] 20 [] := by
      intro d
      induction d with
      | zero =>
        intro k hk
        refine r_iload_n C dX4_fill_20 rfl ?_
        refine r_aload_n C dX4_fill_21 rfl ?_
        refine m_get (v := .ref (ba 0)) C 0 (by decide) qf_X4_15 rfl rfl dX4_fill_22 ?_
        refine r_iload_n C dX4_fill_25 rfl ?_
        refine m_rows (i := i) C (by first | omega | (simp [up2, *]; done) | (simp [up2, *]; omega) | (simp only [up2_eq]; omega) | (split <;> omega)) dX4_fill_26 ?_
        refine m_rlen (i := i) (v := hf 4 i) C (by first | omega | (simp [up2, *]; done) | (simp [up2, *]; omega) | (simp only [up2_eq]; omega) | (split <;> omega)) rfl dX4_fill_27 ?_
        refine r_icN_ge (a := k) (b := (hf 4 i)) (tgt := 46) C (by first | omega | (simp [up2, *]; done) | (simp [up2, *]; omega) | (simp only [up2_eq]; omega) | (split <;> omega)) (by first | omega | (simp [up2, *]; done) | (simp [up2, *]; omega) | (simp only [up2_eq]; omega) | (split <;> omega)) dX4_fill_28 (by decide) (fun h28_2 => ?_) (fun h28_2 => ?_)
        · first
          | exfalso; first | omega | contradiction
          | skip
            have e9 : hf 4 i = k := by omega
            refine r_w (w' := WM cy ba ra hf (wrR hq i 0 (hf 4 i) (fun _ => y)) kn (nI 0) sm ++ Y) (by rw [e9]) ?_
            refine r_aload_n C dX4_fill_46 rfl ?_
            refine m_get (v := .ref (ba 0)) C 0 (by decide) qf_X4_15 rfl rfl dX4_fill_47 ?_
            refine r_iload_n C dX4_fill_50 rfl ?_
            refine m_rows (i := i) C (by first | omega | (simp [up2, *]; done) | (simp [up2, *]; omega) | (simp only [up2_eq]; omega) | (split <;> omega)) dX4_fill_51 ?_
            refine m_rlen (i := i) (v := hf 4 i) C (by first | omega | (simp [up2, *]; done) | (simp [up2, *]; omega) | (simp only [up2_eq]; omega) | (split <;> omega)) rfl dX4_fill_52 ?_
            exact r_iret C hr dX4_fill_53 ⟨rfl, rfl⟩ (Nat.le_of_ble_eq_true rfl) (Nat.le_of_ble_eq_true rfl)
        · first
          | exfalso; first | omega | contradiction
          | skip
            refine r_aload_n C dX4_fill_31 rfl ?_
            refine m_get (v := .ref (ba 0)) C 0 (by decide) qf_X4_15 rfl rfl dX4_fill_32 ?_
            refine r_iload_n C dX4_fill_35 rfl ?_
            refine m_rows (i := i) C (by first | omega | (simp [up2, *]; done) | (simp [up2, *]; omega) | (simp only [up2_eq]; omega) | (split <;> omega)) dX4_fill_36 ?_
            refine r_iload_n C dX4_fill_37 rfl ?_
            refine r_iload_n C dX4_fill_38 rfl ?_
            refine m_rst (i := i) (n := k) (x := y) C (by first | omega | (simp [up2, *]; done) | (simp [up2, *]; omega) | (simp only [up2_eq]; omega) | (split <;> omega)) (by first | omega | (simp [up2, *]; done) | (simp [up2, *]; omega) | (simp only [up2_eq]; omega) | (split <;> omega)) (by first | omega | (simp [up2, *]; done) | (simp [up2, *]; omega) | (simp only [up2_eq]; omega) | (split <;> omega)) dX4_fill_39 ?_
            refine r_iincN C dX4_fill_40 rfl (by decide) rfl ?_
            refine r_goto (tgt := 20) C dX4_fill_43 (by decide) ?_
            refine r_w (w' := WM cy ba ra hf (wrR hq i 0 (k + 1) (fun _ => y)) kn (nI 0) sm ++ Y) (by rw [wrR_up0 (g := fun _ => y) rfl]) ?_
            exact (Nat.not_lt_zero _ (by omega)).elim
      | succ d ih_L20 =>
        intro k hk
        refine r_iload_n C dX4_fill_20 rfl ?_
        refine r_aload_n C dX4_fill_21 rfl ?_
        refine m_get (v := .ref (ba 0)) C 0 (by decide) qf_X4_15 rfl rfl dX4_fill_22 ?_
        refine r_iload_n C dX4_fill_25 rfl ?_
        refine m_rows (i := i) C (by first | omega | (simp [up2, *]; done) | (simp [up2, *]; omega) | (simp only [up2_eq]; omega) | (split <;> omega)) dX4_fill_26 ?_
        refine m_rlen (i := i) (v := hf 4 i) C (by first | omega | (simp [up2, *]; done) | (simp [up2, *]; omega) | (simp only [up2_eq]; omega) | (split <;> omega)) rfl dX4_fill_27 ?_
        refine r_icN_ge (a := k) (b := (hf 4 i)) (tgt := 46) C (by first | omega | (simp [up2, *]; done) | (simp [up2, *]; omega) | (simp only [up2_eq]; omega) | (split <;> omega)) (by first | omega | (simp [up2, *]; done) | (simp [up2, *]; omega) | (simp only [up2_eq]; omega) | (split <;> omega)) dX4_fill_28 (by decide) (fun h28_3 => ?_) (fun h28_3 => ?_)
        · first
          | exfalso; first | omega | contradiction
          | skip
            have e9 : hf 4 i = k := by omega
            refine r_w (w' := WM cy ba ra hf (wrR hq i 0 (hf 4 i) (fun _ => y)) kn (nI 0) sm ++ Y) (by rw [e9]) ?_
            refine r_aload_n C dX4_fill_46 rfl ?_
            refine m_get (v := .ref (ba 0)) C 0 (by decide) qf_X4_15 rfl rfl dX4_fill_47 ?_
            refine r_iload_n C dX4_fill_50 rfl ?_
            refine m_rows (i := i) C (by first | omega | (simp [up2, *]; done) | (simp [up2, *]; omega) | (simp only [up2_eq]; omega) | (split <;> omega)) dX4_fill_51 ?_
            refine m_rlen (i := i) (v := hf 4 i) C (by first | omega | (simp [up2, *]; done) | (simp [up2, *]; omega) | (simp only [up2_eq]; omega) | (split <;> omega)) rfl dX4_fill_52 ?_
            exact r_iret C hr dX4_fill_53 ⟨rfl, rfl⟩ (Nat.le_of_ble_eq_true rfl) (Nat.le_of_ble_eq_true rfl)
        · first
          | exfalso; first | omega | contradiction
          | skip
            refine r_aload_n C dX4_fill_31 rfl ?_
            refine m_get (v := .ref (ba 0)) C 0 (by decide) qf_X4_15 rfl rfl dX4_fill_32 ?_
            refine r_iload_n C dX4_fill_35 rfl ?_
            refine m_rows (i := i) C (by first | omega | (simp [up2, *]; done) | (simp [up2, *]; omega) | (simp only [up2_eq]; omega) | (split <;> omega)) dX4_fill_36 ?_
            refine r_iload_n C dX4_fill_37 rfl ?_
            refine r_iload_n C dX4_fill_38 rfl ?_
            refine m_rst (i := i) (n := k) (x := y) C (by first | omega | (simp [up2, *]; done) | (simp [up2, *]; omega) | (simp only [up2_eq]; omega) | (split <;> omega)) (by first | omega | (simp [up2, *]; done) | (simp [up2, *]; omega) | (simp only [up2_eq]; omega) | (split <;> omega)) (by first | omega | (simp [up2, *]; done) | (simp [up2, *]; omega) | (simp only [up2_eq]; omega) | (split <;> omega)) dX4_fill_39 ?_
            refine r_iincN C dX4_fill_40 rfl (by decide) rfl ?_
            refine r_goto (tgt := 20) C dX4_fill_43 (by decide) ?_
            refine r_w (w' := WM cy ba ra hf (wrR hq i 0 (k + 1) (fun _ => y)) kn (nI 0) sm ++ Y) (by rw [wrR_up0 (g := fun _ => y) rfl]) ?_
            exact ih_L20 (k + 1) (by first | omega | (simp [up2, *]; done) | (simp [up2, *]; omega) | (simp only [up2_eq]; omega) | (split <;> omega))
    exact L20 (hf 4 i) 0 (by first | omega | (simp [up2, *]; done) | (simp [up2, *]; omega) | (simp only [up2_eq]; omega) | (split <;> omega))
  · exact absurd h13_1 (by first | omega | (simp [up2, *]; done) | (simp [up2, *]; omega) | (simp only [up2_eq]; omega) | (split <;> omega))
theorem dX4_removeItem_0 : decode cX4_removeItem 0 = .ok (.aload_n 0, 1) := dqo_42 (kb_of ke_X4_removeItem 0 rfl)
theorem dX4_removeItem_1 : decode cX4_removeItem 1 = .ok (.iload_n 1, 1) := dqo_27 (kb_of ke_X4_removeItem 1 rfl)
theorem dX4_removeItem_2 : decode cX4_removeItem 2 = .ok (.invokestatic 119, 3) := dqo_184 0 119 (kb_of ke_X4_removeItem 2 rfl) (kb_of ke_X4_removeItem 3 rfl) (kb_of ke_X4_removeItem 4 rfl)
theorem dX4_removeItem_5 : decode cX4_removeItem 5 = .ok (.iconst 0, 1) := dqo_3 (kb_of ke_X4_removeItem 5 rfl)
theorem dX4_removeItem_6 : decode cX4_removeItem 6 = .ok (.iconst 0, 1) := dqo_3 (kb_of ke_X4_removeItem 6 rfl)
theorem dX4_removeItem_7 : decode cX4_removeItem 7 = .ok (.invokevirtual 84, 3) := dqo_182 0 84 (kb_of ke_X4_removeItem 7 rfl) (kb_of ke_X4_removeItem 8 rfl) (kb_of ke_X4_removeItem 9 rfl)
theorem dX4_removeItem_10 : decode cX4_removeItem 10 = .ok (.ifCond .eq 5, 3) := dqo_153 0 5 (by decide) (kb_of ke_X4_removeItem 10 rfl) (kb_of ke_X4_removeItem 11 rfl) (kb_of ke_X4_removeItem 12 rfl)
theorem dX4_removeItem_13 : decode cX4_removeItem 13 = .ok (.iconst 0, 1) := dqo_3 (kb_of ke_X4_removeItem 13 rfl)
theorem dX4_removeItem_14 : decode cX4_removeItem 14 = .ok (.ireturn, 1) := dqo_172 (kb_of ke_X4_removeItem 14 rfl)
set_option maxRecDepth 100000 in
set_option maxHeartbeats 4000000 in
theorem D_removeItem_noR {l : Launch} {D : va_G} {cy : Nat → ClassId} {X : (Nat → Prop) → State → Heap → Prop} {ba ra : Nat → Nat} {hf : Nat → Nat → Nat} {hq : Nat → Nat → Int32} {kn th : Int32} {sm : Int64} {Y : va_W} {f : Nat → Nat → Nat} {r : Nat → Nat → Int32} {x : Int32} {y : Int32} (hX : EnvM X cy) (hC : CInv f) (hM : MR f r hf hq) (hno : ¬ (0 ≤ x ∧ x < nI 4)) : Cd l D cy X yX4_removeItem cX4_removeItem 4 (some .int) (rmk 9 4 48 420) [.ref (ba 9), .int x, .int y] (WM cy ba ra hf hq kn th sm ++ Y) (some (.int (nI 0))) (WM cy ba ra hf hq kn (nI 1) sm ++ Y) := by
  have hG := hM.1
  have h5M := hM.h5M hC
  have h4M := hC.h4M
  have h9a := hM.h9a hC
  have h6a := hM.h6a
  have hU := hM.hU hC
  refine Cm.of [some (.ref (ba 9)), some (.int x), some (.int y), none] pn_X4 rfl (Nat.le_of_ble_eq_true rfl) ?_
  intro p e s m args below meth c A C hE hr hnt hn
  refine r_aload_n C dX4_removeItem_0 rfl ?_
  refine r_iload_n C dX4_removeItem_1 rfl ?_
  refine d_S (st := [.ref (ba 9)]) hX.1.stb C hE (D_isNoRow1 (ba := ba) (ra := ra) (hf := hf) (hq := hq) (kn := kn) (th := th) (sm := sm) (Y := Y) (x := (x)) hX hno) pk_X4_isNoRow qm_X4_119 rfl rfl (Nat.le_of_ble_eq_true rfl) dX4_removeItem_2 ⟨(Nat.le_of_ble_eq_true rfl), (Nat.le_of_ble_eq_true rfl)⟩ ⟨(Nat.le_of_ble_eq_true rfl), (Nat.le_of_ble_eq_true rfl)⟩ ?_
  refine r_w (w' := WM cy ba ra hf hq kn th sm ++ Y) rfl ?_
  refine r_iconst (v := (nI 0)) C dX4_removeItem_5 (by decide) ?_
  refine r_iconst (v := (nI 0)) C dX4_removeItem_6 (by decide) ?_
  refine d_V (st := []) hX.1.stb C hE (D_fails1 (ba := ba) (ra := ra) (hf := hf) (hq := hq) (kn := kn) (th := th) (sm := sm) (Y := Y) (b0 := 0) (d0 := 0) hX ) pk_X4_fails qm_X4_84 0 8 rfl rfl wm_0 rfl rfl (Nat.le_of_ble_eq_true rfl) dX4_removeItem_7 ⟨(Nat.le_of_ble_eq_true rfl), (Nat.le_of_ble_eq_true rfl)⟩ ⟨(Nat.le_of_ble_eq_true rfl), (Nat.le_of_ble_eq_true rfl)⟩ ?_
  refine r_w (w' := WM cy ba ra hf hq kn (nI 1) sm ++ Y) rfl ?_
  refine r_ifN_eq (a := 1) (tgt := 15) C (by first | omega | (simp [up2, *]; done) | (simp [up2, *]; omega) | (simp only [up2_eq]; omega) | (split <;> omega)) dX4_removeItem_10 (by decide) (fun h10_1 => ?_) (fun h10_1 => ?_)
  · exact absurd h10_1 (by first | omega | (simp [up2, *]; done) | (simp [up2, *]; omega) | (simp only [up2_eq]; omega) | (split <;> omega))
  · skip
    refine r_iconst (v := (nI 0)) C dX4_removeItem_13 (by decide) ?_
    exact r_iret C hr dX4_removeItem_14 ⟨rfl, rfl⟩ (Nat.le_of_ble_eq_true rfl) (Nat.le_of_ble_eq_true rfl)
theorem pk_X4_find : PkV RX4 yX4_find cX4_find 6 (some .int) 3 := ⟨⟨qi_X4_find, qs_X4_find, qz_X4, qc_X4_find⟩, rfl, mh_X4.1, mh_X4.2, pd_13⟩
theorem dX4_removeItem_15 : decode cX4_removeItem 15 = .ok (.aload_n 0, 1) := dqo_42 (kb_of ke_X4_removeItem 15 rfl)
theorem dX4_removeItem_16 : decode cX4_removeItem 16 = .ok (.iload_n 1, 1) := dqo_27 (kb_of ke_X4_removeItem 16 rfl)
theorem dX4_removeItem_17 : decode cX4_removeItem 17 = .ok (.iload_n 2, 1) := dqo_28 (kb_of ke_X4_removeItem 17 rfl)
theorem dX4_removeItem_18 : decode cX4_removeItem 18 = .ok (.iconst 0, 1) := dqo_3 (kb_of ke_X4_removeItem 18 rfl)
theorem dX4_removeItem_19 : decode cX4_removeItem 19 = .ok (.invokevirtual 122, 3) := dqo_182 0 122 (kb_of ke_X4_removeItem 19 rfl) (kb_of ke_X4_removeItem 20 rfl) (kb_of ke_X4_removeItem 21 rfl)
theorem dX4_removeItem_22 : decode cX4_removeItem 22 = .ok (.istore_n 3, 1) := dqo_62 (kb_of ke_X4_removeItem 22 rfl)
theorem dX4_removeItem_23 : decode cX4_removeItem 23 = .ok (.iload_n 3, 1) := dqo_29 (kb_of ke_X4_removeItem 23 rfl)
theorem dX4_removeItem_24 : decode cX4_removeItem 24 = .ok (.iconst (-1), 1) := dqo_2 (kb_of ke_X4_removeItem 24 rfl)
theorem dX4_removeItem_25 : decode cX4_removeItem 25 = .ok (.if_icmp .ne 5, 3) := dqo_160 0 5 (by decide) (kb_of ke_X4_removeItem 25 rfl) (kb_of ke_X4_removeItem 26 rfl) (kb_of ke_X4_removeItem 27 rfl)
theorem dX4_removeItem_28 : decode cX4_removeItem 28 = .ok (.iconst 0, 1) := dqo_3 (kb_of ke_X4_removeItem 28 rfl)
theorem dX4_removeItem_29 : decode cX4_removeItem 29 = .ok (.ireturn, 1) := dqo_172 (kb_of ke_X4_removeItem 29 rfl)
set_option maxRecDepth 100000 in
set_option maxHeartbeats 4000000 in
theorem D_removeItem_0 {l : Launch} {D : va_G} {cy : Nat → ClassId} {X : (Nat → Prop) → State → Heap → Prop} {ba ra : Nat → Nat} {hf : Nat → Nat → Nat} {hq : Nat → Nat → Int32} {kn th : Int32} {sm : Int64} {Y : va_W} {f : Nat → Nat → Nat} {r : Nat → Nat → Int32} {i : Nat} {y : Int32} (hX : EnvM X cy) (hC : CInv f) (hM : MR f r hf hq) (hi4 : i < 4) (hz : fpF (hq i) y (hf 4 i) 0 = 4294967295) : Cd l D cy X yX4_removeItem cX4_removeItem 4 (some .int) (rmk 9 4 48 420) [.ref (ba 9), .int (nI i), .int y] (WM cy ba ra hf hq kn th sm ++ Y) (some (.int (nI 0))) (WM cy ba ra hf hq kn (nI 0) sm ++ Y) := by
  have hG := hM.1
  have h5M := hM.h5M hC
  have h4M := hC.h4M
  have h9a := hM.h9a hC
  have h6a := hM.h6a
  have hU := hM.hU hC
  have qi := hC.rw hi4
  have pi := (hM.2.1 i hi4).1
  have ei : hf 4 (f 1 i) = hf 4 i := by rw [qi.2.1]
  have wi := hM.wh hC (w := i) (by omega) qi.2.2.2.2.2
  refine Cm.of [some (.ref (ba 9)), some (.int (nI i)), some (.int y), none] pn_X4 rfl (Nat.le_of_ble_eq_true rfl) ?_
  intro p e s m args below meth c A C hE hr hnt hn
  refine r_aload_n C dX4_removeItem_0 rfl ?_
  refine r_iload_n C dX4_removeItem_1 rfl ?_
  refine d_S (st := [.ref (ba 9)]) hX.1.stb C hE (D_isNoRow0 (ba := ba) (ra := ra) (hf := hf) (hq := hq) (kn := kn) (th := th) (sm := sm) (Y := Y) (i := i) hX (by first | omega | (simp [up2, *]; done) | (simp [up2, *]; omega) | (simp only [up2_eq]; omega) | (split <;> omega))) pk_X4_isNoRow qm_X4_119 rfl rfl (Nat.le_of_ble_eq_true rfl) dX4_removeItem_2 ⟨(Nat.le_of_ble_eq_true rfl), (Nat.le_of_ble_eq_true rfl)⟩ ⟨(Nat.le_of_ble_eq_true rfl), (Nat.le_of_ble_eq_true rfl)⟩ ?_
  refine r_w (w' := WM cy ba ra hf hq kn th sm ++ Y) rfl ?_
  refine r_iconst (v := (nI 0)) C dX4_removeItem_5 (by decide) ?_
  refine r_iconst (v := (nI 0)) C dX4_removeItem_6 (by decide) ?_
  refine d_V (st := []) hX.1.stb C hE (D_fails0 (ba := ba) (ra := ra) (hf := hf) (hq := hq) (kn := kn) (th := th) (sm := sm) (Y := Y)  hX ) pk_X4_fails qm_X4_84 0 8 rfl rfl wm_0 rfl rfl (Nat.le_of_ble_eq_true rfl) dX4_removeItem_7 ⟨(Nat.le_of_ble_eq_true rfl), (Nat.le_of_ble_eq_true rfl)⟩ ⟨(Nat.le_of_ble_eq_true rfl), (Nat.le_of_ble_eq_true rfl)⟩ ?_
  refine r_w (w' := WM cy ba ra hf hq kn (nI 0) sm ++ Y) rfl ?_
  refine r_ifN_eq (a := 0) (tgt := 15) C (by first | omega | (simp [up2, *]; done) | (simp [up2, *]; omega) | (simp only [up2_eq]; omega) | (split <;> omega)) dX4_removeItem_10 (by decide) (fun h10_1 => ?_) (fun h10_1 => ?_)
  · skip
    refine r_aload_n C dX4_removeItem_15 rfl ?_
    refine r_iload_n C dX4_removeItem_16 rfl ?_
    refine r_iload_n C dX4_removeItem_17 rfl ?_
    refine r_iconst (v := (nI 0)) C dX4_removeItem_18 (by decide) ?_
    refine d_V (st := []) hX.1.stb C hE (D_find0 (ba := ba) (ra := ra) (hf := hf) (hq := hq) (kn := kn) (th := (nI 0)) (sm := sm) (Y := Y) (i := i) (y := (y)) hX (by first | omega | (simp [up2, *]; done) | (simp [up2, *]; omega) | (simp only [up2_eq]; omega) | (split <;> omega)) (by first | omega | (simp [up2, *]; done) | (simp [up2, *]; omega) | (simp only [up2_eq]; omega) | (split <;> omega))) pk_X4_find qm_X4_122 0 8 rfl rfl wm_0 rfl rfl (Nat.le_of_ble_eq_true rfl) dX4_removeItem_19 ⟨(Nat.le_of_ble_eq_true rfl), (Nat.le_of_ble_eq_true rfl)⟩ ⟨(Nat.le_of_ble_eq_true rfl), (Nat.le_of_ble_eq_true rfl)⟩ ?_
    refine r_w (w' := WM cy ba ra hf hq kn (nI 0) sm ++ Y) rfl ?_
    refine r_istore_n C dX4_removeItem_22 (by decide) rfl ?_
    refine r_iload_n C dX4_removeItem_23 rfl ?_
    refine r_iconst (v := (nI 4294967295)) C dX4_removeItem_24 (by decide) ?_
    refine r_icN_ne (a := (fpF (hq i) (y) (hf 4 i) 0)) (b := 4294967295) (tgt := 30) C (by have h8 := fpF_or (hq i) y (hf 4 i) 0; omega) (by first | omega | (simp [up2, *]; done) | (simp [up2, *]; omega) | (simp only [up2_eq]; omega) | (split <;> omega)) dX4_removeItem_25 (by decide) (fun h25_2 => ?_) (fun h25_2 => ?_)
    · exact absurd h25_2 (by first | omega | (simp [up2, *]; done) | (simp [up2, *]; omega) | (simp only [up2_eq]; omega) | (split <;> omega))
    · skip
      refine r_iconst (v := (nI 0)) C dX4_removeItem_28 (by decide) ?_
      exact r_iret C hr dX4_removeItem_29 ⟨rfl, rfl⟩ (Nat.le_of_ble_eq_true rfl) (Nat.le_of_ble_eq_true rfl)
  · exact absurd h10_1 (by first | omega | (simp [up2, *]; done) | (simp [up2, *]; omega) | (simp only [up2_eq]; omega) | (split <;> omega))
theorem dX4_removeItem_30 : decode cX4_removeItem 30 = .ok (.aload_n 0, 1) := dqo_42 (kb_of ke_X4_removeItem 30 rfl)
theorem dX4_removeItem_31 : decode cX4_removeItem 31 = .ok (.iload_n 1, 1) := dqo_27 (kb_of ke_X4_removeItem 31 rfl)
theorem dX4_removeItem_32 : decode cX4_removeItem 32 = .ok (.iconst (-1), 1) := dqo_2 (kb_of ke_X4_removeItem 32 rfl)
theorem dX4_removeItem_33 : decode cX4_removeItem 33 = .ok (.invokevirtual 74, 3) := dqo_182 0 74 (kb_of ke_X4_removeItem 33 rfl) (kb_of ke_X4_removeItem 34 rfl) (kb_of ke_X4_removeItem 35 rfl)
theorem dX4_removeItem_36 : decode cX4_removeItem 36 = .ok (.aload_n 0, 1) := dqo_42 (kb_of ke_X4_removeItem 36 rfl)
theorem dX4_removeItem_37 : decode cX4_removeItem 37 = .ok (.iload_n 1, 1) := dqo_27 (kb_of ke_X4_removeItem 37 rfl)
theorem dX4_removeItem_38 : decode cX4_removeItem 38 = .ok (.iload_n 3, 1) := dqo_29 (kb_of ke_X4_removeItem 38 rfl)
theorem dX4_removeItem_39 : decode cX4_removeItem 39 = .ok (.iconst 1, 1) := dqo_4 (kb_of ke_X4_removeItem 39 rfl)
theorem dX4_removeItem_40 : decode cX4_removeItem 40 = .ok (.iconst 0, 1) := dqo_3 (kb_of ke_X4_removeItem 40 rfl)
theorem dX4_removeItem_41 : decode cX4_removeItem 41 = .ok (.newarray .int, 2) := dqo_188_10 (kb_of ke_X4_removeItem 41 rfl) (kb_of ke_X4_removeItem 42 rfl)
theorem dX4_removeItem_43 : decode cX4_removeItem 43 = .ok (.invokevirtual 88, 3) := dqo_182 0 88 (kb_of ke_X4_removeItem 43 rfl) (kb_of ke_X4_removeItem 44 rfl) (kb_of ke_X4_removeItem 45 rfl)
theorem dX4_removeItem_46 : decode cX4_removeItem 46 = .ok (.iconst 1, 1) := dqo_4 (kb_of ke_X4_removeItem 46 rfl)
theorem dX4_removeItem_47 : decode cX4_removeItem 47 = .ok (.ireturn, 1) := dqo_172 (kb_of ke_X4_removeItem 47 rfl)
set_option maxRecDepth 100000 in
set_option maxHeartbeats 4000000 in
theorem D_removeItem_ok {l : Launch} {D : va_G} {cy : Nat → ClassId} {X : (Nat → Prop) → State → Heap → Prop} {ba ra : Nat → Nat} {hf : Nat → Nat → Nat} {hq : Nat → Nat → Int32} {kn th : Int32} {sm : Int64} {Y : va_W} {f : Nat → Nat → Nat} {r : Nat → Nat → Int32} {i : Nat} {y : Int32} (hX : EnvM X cy) (hC : CInv f) (hM : MR f r hf hq) (hi4 : i < 4) (hz : fpF (hq i) y (hf 4 i) 0 < hf 4 i) : Cm l D cy X yX4_removeItem cX4_removeItem 4 (some .int) (rmk 9 4 48 420) [.ref (ba 9), .int (nI i), .int y] (WM cy ba ra hf hq kn th sm ++ Y) (fun v1 w1 => ∃ ra9 : Nat → Nat, v1 = some (.int (nI 1)) ∧ w1 = WM cy ba ra9 (lyM f (up2 (chM f hf i 4294967295) 4 (f 1 i) ((chM f hf i 4294967295) 4 (f 1 i) - 1 + 0)) i 0 1) (upR hq (f 1 i) (layF (hq (f 1 i)) (fun _ => 0) (f 3 i + (fpF (hq i) (y) (hf 4 i) 0)) 0 1 ((chM f hf i 4294967295) 4 (f 1 i) - 1 + 0))) kn (nI 0) sm ++ Y) (fun _ => False) := by
  have hG := hM.1
  have h5M := hM.h5M hC
  have h4M := hC.h4M
  have h9a := hM.h9a hC
  have h6a := hM.h6a
  have hU := hM.hU hC
  have qi := hC.rw hi4
  have pi := (hM.2.1 i hi4).1
  have ei : hf 4 (f 1 i) = hf 4 i := by rw [qi.2.1]
  have wi := hM.wh hC (w := i) (by omega) qi.2.2.2.2.2
  refine Cm.of [some (.ref (ba 9)), some (.int (nI i)), some (.int y), none] pn_X4 rfl (Nat.le_of_ble_eq_true rfl) ?_
  intro p e s m args below meth c A C hE hr hnt hn
  refine r_aload_n C dX4_removeItem_0 rfl ?_
  refine r_iload_n C dX4_removeItem_1 rfl ?_
  refine d_S (st := [.ref (ba 9)]) hX.1.stb C hE (D_isNoRow0 (ba := ba) (ra := ra) (hf := hf) (hq := hq) (kn := kn) (th := th) (sm := sm) (Y := Y) (i := i) hX (by first | omega | (simp [up2, *]; done) | (simp [up2, *]; omega) | (simp only [up2_eq]; omega) | (split <;> omega))) pk_X4_isNoRow qm_X4_119 rfl rfl (Nat.le_of_ble_eq_true rfl) dX4_removeItem_2 ⟨(Nat.le_of_ble_eq_true rfl), (Nat.le_of_ble_eq_true rfl)⟩ ⟨(Nat.le_of_ble_eq_true rfl), (Nat.le_of_ble_eq_true rfl)⟩ ?_
  refine r_w (w' := WM cy ba ra hf hq kn th sm ++ Y) rfl ?_
  refine r_iconst (v := (nI 0)) C dX4_removeItem_5 (by decide) ?_
  refine r_iconst (v := (nI 0)) C dX4_removeItem_6 (by decide) ?_
  refine d_V (st := []) hX.1.stb C hE (D_fails0 (ba := ba) (ra := ra) (hf := hf) (hq := hq) (kn := kn) (th := th) (sm := sm) (Y := Y)  hX ) pk_X4_fails qm_X4_84 0 8 rfl rfl wm_0 rfl rfl (Nat.le_of_ble_eq_true rfl) dX4_removeItem_7 ⟨(Nat.le_of_ble_eq_true rfl), (Nat.le_of_ble_eq_true rfl)⟩ ⟨(Nat.le_of_ble_eq_true rfl), (Nat.le_of_ble_eq_true rfl)⟩ ?_
  refine r_w (w' := WM cy ba ra hf hq kn (nI 0) sm ++ Y) rfl ?_
  refine r_ifN_eq (a := 0) (tgt := 15) C (by first | omega | (simp [up2, *]; done) | (simp [up2, *]; omega) | (simp only [up2_eq]; omega) | (split <;> omega)) dX4_removeItem_10 (by decide) (fun h10_1 => ?_) (fun h10_1 => ?_)
  · skip
    refine r_aload_n C dX4_removeItem_15 rfl ?_
    refine r_iload_n C dX4_removeItem_16 rfl ?_
    refine r_iload_n C dX4_removeItem_17 rfl ?_
    refine r_iconst (v := (nI 0)) C dX4_removeItem_18 (by decide) ?_
    refine d_V (st := []) hX.1.stb C hE (D_find0 (ba := ba) (ra := ra) (hf := hf) (hq := hq) (kn := kn) (th := (nI 0)) (sm := sm) (Y := Y) (i := i) (y := (y)) hX (by first | omega | (simp [up2, *]; done) | (simp [up2, *]; omega) | (simp only [up2_eq]; omega) | (split <;> omega)) (by first | omega | (simp [up2, *]; done) | (simp [up2, *]; omega) | (simp only [up2_eq]; omega) | (split <;> omega))) pk_X4_find qm_X4_122 0 8 rfl rfl wm_0 rfl rfl (Nat.le_of_ble_eq_true rfl) dX4_removeItem_19 ⟨(Nat.le_of_ble_eq_true rfl), (Nat.le_of_ble_eq_true rfl)⟩ ⟨(Nat.le_of_ble_eq_true rfl), (Nat.le_of_ble_eq_true rfl)⟩ ?_
    refine r_w (w' := WM cy ba ra hf hq kn (nI 0) sm ++ Y) rfl ?_
    refine r_istore_n C dX4_removeItem_22 (by decide) rfl ?_
    refine r_iload_n C dX4_removeItem_23 rfl ?_
    refine r_iconst (v := (nI 4294967295)) C dX4_removeItem_24 (by decide) ?_
    refine r_icN_ne (a := (fpF (hq i) (y) (hf 4 i) 0)) (b := 4294967295) (tgt := 30) C (by have h8 := fpF_or (hq i) y (hf 4 i) 0; omega) (by first | omega | (simp [up2, *]; done) | (simp [up2, *]; omega) | (simp only [up2_eq]; omega) | (split <;> omega)) dX4_removeItem_25 (by decide) (fun h25_2 => ?_) (fun h25_2 => ?_)
    · skip
      refine r_aload_n C dX4_removeItem_30 rfl ?_
      refine r_iload_n C dX4_removeItem_31 rfl ?_
      refine r_iconst (v := (nI 4294967295)) C dX4_removeItem_32 (by decide) ?_
      refine d_Vv (st := []) hX.1.stb C hE (D_changed (ba := ba) (ra := ra) (hf := hf) (hq := hq) (kn := kn) (th := (nI 0)) (sm := sm) (Y := Y) (f := f) (w := i) (d0 := 4294967295) hX hC (MG.same (fun _ => rfl) (fun _ => rfl) hG) (by first | omega | (simp [up2, *]; done) | (simp [up2, *]; omega) | (simp only [up2_eq]; omega) | (split <;> omega)) qi.2.2.2.2.2 (by first | omega | (simp [up2, *]; done) | (simp [up2, *]; omega) | (simp only [up2_eq]; omega) | (split <;> omega)) h5M h9a hU) pk_X4_changed qm_X4_74 0 8 rfl rfl wm_0 rfl rfl (Nat.le_of_ble_eq_true rfl) dX4_removeItem_33 ⟨(Nat.le_of_ble_eq_true rfl), (Nat.le_of_ble_eq_true rfl)⟩ ⟨(Nat.le_of_ble_eq_true rfl), (Nat.le_of_ble_eq_true rfl)⟩ ?_
      refine r_w (w' := WM cy ba ra (chM f hf i 4294967295) hq kn (nI 0) sm ++ Y) rfl ?_
      refine r_aload_n C dX4_removeItem_36 rfl ?_
      refine r_iload_n C dX4_removeItem_37 rfl ?_
      refine r_iload_n C dX4_removeItem_38 rfl ?_
      refine r_iconst (v := (nI 1)) C dX4_removeItem_39 (by decide) ?_
      refine r_iconst (v := (nI 0)) C dX4_removeItem_40 (by decide) ?_
      refine r_newT C .int .int 1 rfl (by simp) qa_int (n := 0) (show 0 < 1000000 from Nat.lt_of_le_of_lt (show 0 ≤ 0 from by first | omega | (simp [up2, *]; done) | (simp [up2, *]; omega) | (simp only [up2_eq]; omega) | (split <;> omega)) (by decide)) (2) (4) (Nat.le_of_ble_eq_true rfl) (Nat.add_le_add (Nat.le_refl _) (show 0 ≤ 0 from by first | omega | (simp [up2, *]; done) | (simp [up2, *]; omega) | (simp only [up2_eq]; omega) | (split <;> omega))) (Nat.le_of_ble_eq_true rfl) (Nat.le_of_ble_eq_true rfl) dX4_removeItem_41 (fun b_3 => ?_)
      refine r_w (w' := WM cy ba ra (chM f hf i 4294967295) hq kn (nI 0) sm ++ (Y ++ [(b_3, .inl (cy 1, 0, .inl (fun _ => 0)))])) (by simp only [List.append_assoc, List.cons_append, List.nil_append]) ?_
      refine e_V (st := []) hX.1.stb C hE (D_lay (ba := ba) (ra := ra) (hf := (chM f hf i 4294967295)) (hq := hq) (kn := kn) (th := (nI 0)) (sm := sm) (f := f) (w := i) (p0 := (fpF (hq i) (y) (hf 4 i) 0)) (o0 := 1) (b0 := b_3) (n0 := 0) (g0 := (fun _ => 0)) (j0 := (Y.length + 0)) hX hC (MG.same (fun _ => rfl) (fun _ => rfl) hG) (by first | omega | (simp [up2, *]; done) | (simp [up2, *]; omega) | (simp only [up2_eq]; omega) | (split <;> omega)) qi.2.2.2.2.2 (show f 3 i + (fpF (hq i) (y) (hf 4 i) 0) + 1 ≤ (hf 4 (f 1 i)) from (by first | omega | (simp [up2, *]; done) | (simp [up2, *]; omega) | (simp only [up2_eq]; omega) | (split <;> omega))) (show (hf 4 (f 1 i)) ≤ 12 from (by first | omega | (simp [up2, *]; done) | (simp [up2, *]; omega) | (simp only [up2_eq]; omega) | (split <;> omega))) (show (hf 4 (f 1 i)) - 1 + 0 ≤ 12 from (by first | omega | (simp [up2, *]; done) | (simp [up2, *]; omega) | (simp only [up2_eq]; omega) | (split <;> omega))) (fun x hx hh => (show 1 ≤ hf 4 x + 0 from by have h8 := hM.ho hC (by omega) qi.2.2.2.2.2 hx hh; omega)) ((ya_x 0).trans rfl)) pk_X4_lay qm_X4_88 0 8 rfl rfl wm_0 rfl rfl (Nat.le_of_ble_eq_true rfl) dX4_removeItem_43 ⟨(Nat.le_of_ble_eq_true rfl), (Nat.le_of_ble_eq_true rfl)⟩ ⟨(Nat.le_of_ble_eq_true rfl), (Nat.le_of_ble_eq_true rfl)⟩ (fun ra_4 => ?_)
      refine r_w (w' := WM cy ba ra_4 (lyM f (up2 (chM f hf i 4294967295) 4 (f 1 i) ((chM f hf i 4294967295) 4 (f 1 i) - 1 + 0)) i 0 1) (upR hq (f 1 i) (layF (hq (f 1 i)) (fun _ => 0) (f 3 i + (fpF (hq i) (y) (hf 4 i) 0)) 0 1 ((chM f hf i 4294967295) 4 (f 1 i) - 1 + 0))) kn (nI 0) sm ++ (Y ++ [(b_3, .inl (cy 1, 0, .inl (fun _ => 0)))])) rfl ?_
      refine r_st (st' := []) rfl ?_
      refine r_iconst (v := (nI 1)) C dX4_removeItem_46 (by decide) ?_
      refine r_pre ?_
      exact r_iret C hr dX4_removeItem_47 ⟨_, rfl, rfl⟩ (Nat.le_of_ble_eq_true rfl) (Nat.le_of_ble_eq_true rfl)
    · exact absurd h25_2 (by first | omega | (simp [up2, *]; done) | (simp [up2, *]; omega) | (simp only [up2_eq]; omega) | (split <;> omega))
  · exact absurd h10_1 (by first | omega | (simp [up2, *]; done) | (simp [up2, *]; omega) | (simp only [up2_eq]; omega) | (split <;> omega))
theorem dX4_addAll_0 : decode cX4_addAll 0 = .ok (.aload_n 0, 1) := dqo_42 (kb_X4_addAll_0 0 rfl)
theorem dX4_addAll_1 : decode cX4_addAll 1 = .ok (.iload_n 1, 1) := dqo_27 (kb_X4_addAll_0 1 rfl)
theorem dX4_addAll_2 : decode cX4_addAll 2 = .ok (.invokestatic 119, 3) := dqo_184 0 119 (kb_X4_addAll_0 2 rfl) (kb_X4_addAll_0 3 rfl) (kb_X4_addAll_0 4 rfl)
theorem dX4_addAll_5 : decode cX4_addAll 5 = .ok (.ifCond .ne 10, 3) := dqo_154 0 10 (by decide) (kb_X4_addAll_0 5 rfl) (kb_X4_addAll_0 6 rfl) (kb_X4_addAll_0 7 rfl)
theorem dX4_addAll_15 : decode cX4_addAll 15 = .ok (.iconst 1, 1) := dqo_4 (kb_X4_addAll_0 15 rfl)
theorem dX4_addAll_16 : decode cX4_addAll 16 = .ok (.goto 4, 3) := dqo_167 0 4 (by decide) (kb_X4_addAll_0 16 rfl) (kb_X4_addAll_0 17 rfl) (kb_X4_addAll_0 18 rfl)
theorem dX4_addAll_20 : decode cX4_addAll 20 = .ok (.iconst 0, 1) := dqo_3 (kb_X4_addAll_0 20 rfl)
theorem dX4_addAll_21 : decode cX4_addAll 21 = .ok (.iconst 0, 1) := dqo_3 (kb_X4_addAll_0 21 rfl)
theorem dX4_addAll_22 : decode cX4_addAll 22 = .ok (.invokevirtual 84, 3) := dqo_182 0 84 (kb_X4_addAll_0 22 rfl) (kb_X4_addAll_0 23 rfl) (kb_X4_addAll_0 24 rfl)
theorem dX4_addAll_25 : decode cX4_addAll 25 = .ok (.ifCond .eq 5, 3) := dqo_153 0 5 (by decide) (kb_X4_addAll_0 25 rfl) (kb_X4_addAll_0 26 rfl) (kb_X4_addAll_0 27 rfl)
theorem dX4_addAll_28 : decode cX4_addAll 28 = .ok (.iconst 0, 1) := dqo_3 (kb_X4_addAll_0 28 rfl)
theorem dX4_addAll_29 : decode cX4_addAll 29 = .ok (.ireturn, 1) := dqo_172 (kb_X4_addAll_0 29 rfl)
set_option maxRecDepth 100000 in
set_option maxHeartbeats 4000000 in
theorem D_addAll_noR {l : Launch} {D : va_G} {cy : Nat → ClassId} {X : (Nat → Prop) → State → Heap → Prop} {ba ra : Nat → Nat} {hf : Nat → Nat → Nat} {hq : Nat → Nat → Int32} {kn th : Int32} {sm : Int64} {Y : va_W} {f : Nat → Nat → Nat} {r : Nat → Nat → Int32} {x : Int32} {y0 : Int32} {y1 : Int32} (hX : EnvM X cy) (hC : CInv f) (hM : MR f r hf hq) (hno : ¬ (0 ≤ x ∧ x < nI 4)) : Cd l D cy X yX4_addAll cX4_addAll 5 (some .int) (rmk 9 4 48 420) [.ref (ba 9), .int x, .int y0, .int y1] (WM cy ba ra hf hq kn th sm ++ Y) (some (.int (nI 0))) (WM cy ba ra hf hq kn (nI 1) sm ++ Y) := by
  have hG := hM.1
  have h5M := hM.h5M hC
  have h4M := hC.h4M
  have h9a := hM.h9a hC
  have h6a := hM.h6a
  have hU := hM.hU hC
  refine Cm.of [some (.ref (ba 9)), some (.int x), some (.int y0), some (.int y1), none] pn_X4 rfl (Nat.le_of_ble_eq_true rfl) ?_
  intro p e s m args below meth c A C hE hr hnt hn
  refine r_aload_n C dX4_addAll_0 rfl ?_
  refine r_iload_n C dX4_addAll_1 rfl ?_
  refine d_S (st := [.ref (ba 9)]) hX.1.stb C hE (D_isNoRow1 (ba := ba) (ra := ra) (hf := hf) (hq := hq) (kn := kn) (th := th) (sm := sm) (Y := Y) (x := (x)) hX hno) pk_X4_isNoRow qm_X4_119 rfl rfl (Nat.le_of_ble_eq_true rfl) dX4_addAll_2 ⟨(Nat.le_of_ble_eq_true rfl), (Nat.le_of_ble_eq_true rfl)⟩ ⟨(Nat.le_of_ble_eq_true rfl), (Nat.le_of_ble_eq_true rfl)⟩ ?_
  refine r_w (w' := WM cy ba ra hf hq kn th sm ++ Y) rfl ?_
  refine r_ifN_ne (a := 1) (tgt := 15) C (by first | omega | (simp [up2, *]; done) | (simp [up2, *]; omega) | (simp only [up2_eq]; omega) | (split <;> omega)) dX4_addAll_5 (by decide) (fun h5_1 => ?_) (fun h5_1 => ?_)
  · skip
    refine r_iconst (v := (nI 1)) C dX4_addAll_15 (by decide) ?_
    refine r_goto (tgt := 20) C dX4_addAll_16 (by decide) ?_
    refine r_iconst (v := (nI 0)) C dX4_addAll_20 (by decide) ?_
    refine r_iconst (v := (nI 0)) C dX4_addAll_21 (by decide) ?_
    refine d_V (st := []) hX.1.stb C hE (D_fails1 (ba := ba) (ra := ra) (hf := hf) (hq := hq) (kn := kn) (th := th) (sm := sm) (Y := Y) (b0 := 0) (d0 := 0) hX ) pk_X4_fails qm_X4_84 0 8 rfl rfl wm_0 rfl rfl (Nat.le_of_ble_eq_true rfl) dX4_addAll_22 ⟨(Nat.le_of_ble_eq_true rfl), (Nat.le_of_ble_eq_true rfl)⟩ ⟨(Nat.le_of_ble_eq_true rfl), (Nat.le_of_ble_eq_true rfl)⟩ ?_
    refine r_w (w' := WM cy ba ra hf hq kn (nI 1) sm ++ Y) rfl ?_
    refine r_ifN_eq (a := 1) (tgt := 30) C (by first | omega | (simp [up2, *]; done) | (simp [up2, *]; omega) | (simp only [up2_eq]; omega) | (split <;> omega)) dX4_addAll_25 (by decide) (fun h25_2 => ?_) (fun h25_2 => ?_)
    · exact absurd h25_2 (by first | omega | (simp [up2, *]; done) | (simp [up2, *]; omega) | (simp only [up2_eq]; omega) | (split <;> omega))
    · skip
      refine r_iconst (v := (nI 0)) C dX4_addAll_28 (by decide) ?_
      exact r_iret C hr dX4_addAll_29 ⟨rfl, rfl⟩ (Nat.le_of_ble_eq_true rfl) (Nat.le_of_ble_eq_true rfl)
  · exact absurd h5_1 (by first | omega | (simp [up2, *]; done) | (simp [up2, *]; omega) | (simp only [up2_eq]; omega) | (split <;> omega))
theorem dX4_addAll_8 : decode cX4_addAll 8 = .ok (.iload_n 3, 1) := dqo_29 (kb_X4_addAll_0 8 rfl)
theorem dX4_addAll_9 : decode cX4_addAll 9 = .ok (.invokestatic 119, 3) := dqo_184 0 119 (kb_X4_addAll_0 9 rfl) (kb_X4_addAll_0 10 rfl) (kb_X4_addAll_0 11 rfl)
theorem dX4_addAll_12 : decode cX4_addAll 12 = .ok (.ifCond .eq 7, 3) := dqo_153 0 7 (by decide) (kb_X4_addAll_0 12 rfl) (kb_X4_addAll_0 13 rfl) (kb_X4_addAll_0 14 rfl)
set_option maxRecDepth 100000 in
set_option maxHeartbeats 4000000 in
theorem D_addAll_noR2 {l : Launch} {D : va_G} {cy : Nat → ClassId} {X : (Nat → Prop) → State → Heap → Prop} {ba ra : Nat → Nat} {hf : Nat → Nat → Nat} {hq : Nat → Nat → Int32} {kn th : Int32} {sm : Int64} {Y : va_W} {f : Nat → Nat → Nat} {r : Nat → Nat → Int32} {i : Nat} {y0 : Int32} {x : Int32} (hX : EnvM X cy) (hC : CInv f) (hM : MR f r hf hq) (hi4 : i < 4) (hno : ¬ (0 ≤ x ∧ x < nI 4)) : Cd l D cy X yX4_addAll cX4_addAll 5 (some .int) (rmk 9 4 48 420) [.ref (ba 9), .int (nI i), .int y0, .int x] (WM cy ba ra hf hq kn th sm ++ Y) (some (.int (nI 0))) (WM cy ba ra hf hq kn (nI 1) sm ++ Y) := by
  have hG := hM.1
  have h5M := hM.h5M hC
  have h4M := hC.h4M
  have h9a := hM.h9a hC
  have h6a := hM.h6a
  have hU := hM.hU hC
  have qi := hC.rw hi4
  have pi := (hM.2.1 i hi4).1
  have ei : hf 4 (f 1 i) = hf 4 i := by rw [qi.2.1]
  have wi := hM.wh hC (w := i) (by omega) qi.2.2.2.2.2
  refine Cm.of [some (.ref (ba 9)), some (.int (nI i)), some (.int y0), some (.int x), none] pn_X4 rfl (Nat.le_of_ble_eq_true rfl) ?_
  intro p e s m args below meth c A C hE hr hnt hn
  refine r_aload_n C dX4_addAll_0 rfl ?_
  refine r_iload_n C dX4_addAll_1 rfl ?_
  refine d_S (st := [.ref (ba 9)]) hX.1.stb C hE (D_isNoRow0 (ba := ba) (ra := ra) (hf := hf) (hq := hq) (kn := kn) (th := th) (sm := sm) (Y := Y) (i := i) hX (by first | omega | (simp [up2, *]; done) | (simp [up2, *]; omega) | (simp only [up2_eq]; omega) | (split <;> omega))) pk_X4_isNoRow qm_X4_119 rfl rfl (Nat.le_of_ble_eq_true rfl) dX4_addAll_2 ⟨(Nat.le_of_ble_eq_true rfl), (Nat.le_of_ble_eq_true rfl)⟩ ⟨(Nat.le_of_ble_eq_true rfl), (Nat.le_of_ble_eq_true rfl)⟩ ?_
  refine r_w (w' := WM cy ba ra hf hq kn th sm ++ Y) rfl ?_
  refine r_ifN_ne (a := 0) (tgt := 15) C (by first | omega | (simp [up2, *]; done) | (simp [up2, *]; omega) | (simp only [up2_eq]; omega) | (split <;> omega)) dX4_addAll_5 (by decide) (fun h5_1 => ?_) (fun h5_1 => ?_)
  · exact absurd h5_1 (by first | omega | (simp [up2, *]; done) | (simp [up2, *]; omega) | (simp only [up2_eq]; omega) | (split <;> omega))
  · skip
    refine r_iload_n C dX4_addAll_8 rfl ?_
    refine d_S (st := [.ref (ba 9)]) hX.1.stb C hE (D_isNoRow1 (ba := ba) (ra := ra) (hf := hf) (hq := hq) (kn := kn) (th := th) (sm := sm) (Y := Y) (x := (x)) hX hno) pk_X4_isNoRow qm_X4_119 rfl rfl (Nat.le_of_ble_eq_true rfl) dX4_addAll_9 ⟨(Nat.le_of_ble_eq_true rfl), (Nat.le_of_ble_eq_true rfl)⟩ ⟨(Nat.le_of_ble_eq_true rfl), (Nat.le_of_ble_eq_true rfl)⟩ ?_
    refine r_w (w' := WM cy ba ra hf hq kn th sm ++ Y) rfl ?_
    refine r_ifN_eq (a := 1) (tgt := 19) C (by first | omega | (simp [up2, *]; done) | (simp [up2, *]; omega) | (simp only [up2_eq]; omega) | (split <;> omega)) dX4_addAll_12 (by decide) (fun h12_2 => ?_) (fun h12_2 => ?_)
    · exact absurd h12_2 (by first | omega | (simp [up2, *]; done) | (simp [up2, *]; omega) | (simp only [up2_eq]; omega) | (split <;> omega))
    · skip
      refine r_iconst (v := (nI 1)) C dX4_addAll_15 (by decide) ?_
      refine r_goto (tgt := 20) C dX4_addAll_16 (by decide) ?_
      refine r_iconst (v := (nI 0)) C dX4_addAll_20 (by decide) ?_
      refine r_iconst (v := (nI 0)) C dX4_addAll_21 (by decide) ?_
      refine d_V (st := []) hX.1.stb C hE (D_fails1 (ba := ba) (ra := ra) (hf := hf) (hq := hq) (kn := kn) (th := th) (sm := sm) (Y := Y) (b0 := 0) (d0 := 0) hX ) pk_X4_fails qm_X4_84 0 8 rfl rfl wm_0 rfl rfl (Nat.le_of_ble_eq_true rfl) dX4_addAll_22 ⟨(Nat.le_of_ble_eq_true rfl), (Nat.le_of_ble_eq_true rfl)⟩ ⟨(Nat.le_of_ble_eq_true rfl), (Nat.le_of_ble_eq_true rfl)⟩ ?_
      refine r_w (w' := WM cy ba ra hf hq kn (nI 1) sm ++ Y) rfl ?_
      refine r_ifN_eq (a := 1) (tgt := 30) C (by first | omega | (simp [up2, *]; done) | (simp [up2, *]; omega) | (simp only [up2_eq]; omega) | (split <;> omega)) dX4_addAll_25 (by decide) (fun h25_3 => ?_) (fun h25_3 => ?_)
      · exact absurd h25_3 (by first | omega | (simp [up2, *]; done) | (simp [up2, *]; omega) | (simp only [up2_eq]; omega) | (split <;> omega))
      · skip
        refine r_iconst (v := (nI 0)) C dX4_addAll_28 (by decide) ?_
        exact r_iret C hr dX4_addAll_29 ⟨rfl, rfl⟩ (Nat.le_of_ble_eq_true rfl) (Nat.le_of_ble_eq_true rfl)
theorem dX4_addAll_19 : decode cX4_addAll 19 = .ok (.iconst 0, 1) := dqo_3 (kb_X4_addAll_0 19 rfl)
theorem dX4_addAll_30 : decode cX4_addAll 30 = .ok (.aload_n 0, 1) := dqo_42 (kb_X4_addAll_0 30 rfl)
theorem dX4_addAll_31 : decode cX4_addAll 31 = .ok (.iload_n 3, 1) := dqo_29 (kb_X4_addAll_0 31 rfl)
theorem dX4_addAll_32 : decode cX4_addAll 32 = .ok (.invokevirtual 95, 3) := dqo_182 0 95 (kb_X4_addAll_0 32 rfl) (kb_X4_addAll_0 33 rfl) (kb_X4_addAll_0 34 rfl)
theorem dX4_addAll_35 : decode cX4_addAll 35 = .ok (.astore 4, 2) := dqo_58 4 (kb_X4_addAll_0 35 rfl) (kb_X4_addAll_0 36 rfl)
theorem dX4_addAll_37 : decode cX4_addAll 37 = .ok (.aload_n 0, 1) := dqo_42 (kb_X4_addAll_0 37 rfl)
theorem dX4_addAll_38 : decode cX4_addAll 38 = .ok (.iconst 0, 1) := dqo_3 (kb_X4_addAll_0 38 rfl)
theorem dX4_addAll_39 : decode cX4_addAll 39 = .ok (.aload_n 0, 1) := dqo_42 (kb_X4_addAll_0 39 rfl)
theorem dX4_addAll_40 : decode cX4_addAll 40 = .ok (.getfield 15, 3) := dqo_180 0 15 (kb_X4_addAll_0 40 rfl) (kb_X4_addAll_0 41 rfl) (kb_X4_addAll_0 42 rfl)
theorem dX4_addAll_43 : decode cX4_addAll 43 = .ok (.iload_n 1, 1) := dqo_27 (kb_X4_addAll_0 43 rfl)
theorem dX4_addAll_44 : decode cX4_addAll 44 = .ok (.aaload, 1) := dqo_50 (kb_X4_addAll_0 44 rfl)
theorem dX4_addAll_45 : decode cX4_addAll 45 = .ok (.arraylength, 1) := dqo_190 (kb_X4_addAll_0 45 rfl)
theorem dX4_addAll_46 : decode cX4_addAll 46 = .ok (.aload 4, 2) := dqo_25 4 (kb_X4_addAll_0 46 rfl) (kb_X4_addAll_0 47 rfl)
theorem dX4_addAll_48 : decode cX4_addAll 48 = .ok (.arraylength, 1) := dqo_190 (kb_X4_addAll_0 48 rfl)
theorem dX4_addAll_49 : decode cX4_addAll 49 = .ok (.iadd, 1) := dqo_96 (kb_X4_addAll_0 49 rfl)
theorem dX4_addAll_50 : decode cX4_addAll 50 = .ok (.bipush 12, 2) := dqo_16 12 (by decide) (kb_X4_addAll_0 50 rfl) (kb_X4_addAll_0 51 rfl)
theorem dX4_addAll_52 : decode cX4_addAll 52 = .ok (.if_icmp .le 7, 3) := dqo_164 0 7 (by decide) (kb_X4_addAll_0 52 rfl) (kb_X4_addAll_0 53 rfl) (kb_X4_addAll_0 54 rfl)
theorem dX4_addAll_55 : decode cX4_addAll 55 = .ok (.iconst 1, 1) := dqo_4 (kb_X4_addAll_0 55 rfl)
theorem dX4_addAll_56 : decode cX4_addAll 56 = .ok (.goto 4, 3) := dqo_167 0 4 (by decide) (kb_X4_addAll_0 56 rfl) (kb_X4_addAll_0 57 rfl) (kb_X4_addAll_0 58 rfl)
theorem dX4_addAll_60 : decode cX4_addAll 60 = .ok (.iconst 0, 1) := dqo_3 (kb_X4_addAll_0 60 rfl)
theorem dX4_addAll_61 : decode cX4_addAll 61 = .ok (.invokevirtual 84, 3) := dqo_182 0 84 (kb_X4_addAll_0 61 rfl) (kb_X4_addAll_0 62 rfl) (kb_X4_addAll_0 63 rfl)
theorem dX4_addAll_64 : decode cX4_addAll 64 = .ok (.ifCond .eq 5, 3) := dqo_153 0 5 (by decide) (kb_X4_addAll_1 0 rfl) (kb_X4_addAll_1 1 rfl) (kb_X4_addAll_1 2 rfl)
theorem dX4_addAll_67 : decode cX4_addAll 67 = .ok (.iconst 0, 1) := dqo_3 (kb_X4_addAll_1 3 rfl)
theorem dX4_addAll_68 : decode cX4_addAll 68 = .ok (.ireturn, 1) := dqo_172 (kb_X4_addAll_1 4 rfl)
set_option maxRecDepth 100000 in
set_option maxHeartbeats 4000000 in
theorem D_addAll_full {l : Launch} {D : va_G} {cy : Nat → ClassId} {X : (Nat → Prop) → State → Heap → Prop} {ba ra : Nat → Nat} {hf : Nat → Nat → Nat} {hq : Nat → Nat → Int32} {kn th : Int32} {sm : Int64} {Y : va_W} {f : Nat → Nat → Nat} {r : Nat → Nat → Int32} {i : Nat} {y0 : Int32} {j : Nat} (hX : EnvM X cy) (hC : CInv f) (hM : MR f r hf hq) (hi4 : i < 4) (hj4 : j < 4) (hfull : 12 < f 4 i + f 4 j) : Cd l D cy X yX4_addAll cX4_addAll 5 (some .int) (rmk 9 4 48 420) [.ref (ba 9), .int (nI i), .int y0, .int (nI j)] (WM cy ba ra hf hq kn th sm ++ Y) (some (.int (nI 0))) (WM cy ba ra hf hq kn (nI 2) sm ++ Y) := by
  have hG := hM.1
  have h5M := hM.h5M hC
  have h4M := hC.h4M
  have h9a := hM.h9a hC
  have h6a := hM.h6a
  have hU := hM.hU hC
  have qi := hC.rw hi4
  have pi := (hM.2.1 i hi4).1
  have ei : hf 4 (f 1 i) = hf 4 i := by rw [qi.2.1]
  have wi := hM.wh hC (w := i) (by omega) qi.2.2.2.2.2
  have qj := hC.rw hj4
  have pj := (hM.2.1 j hj4).1
  have ej : hf 4 (f 1 j) = hf 4 j := by rw [qj.2.1]
  have wj := hM.wh hC (w := j) (by omega) qj.2.2.2.2.2
  refine Cm.of [some (.ref (ba 9)), some (.int (nI i)), some (.int y0), some (.int (nI j)), none] pn_X4 rfl (Nat.le_of_ble_eq_true rfl) ?_
  intro p e s m args below meth c A C hE hr hnt hn
  refine r_aload_n C dX4_addAll_0 rfl ?_
  refine r_iload_n C dX4_addAll_1 rfl ?_
  refine d_S (st := [.ref (ba 9)]) hX.1.stb C hE (D_isNoRow0 (ba := ba) (ra := ra) (hf := hf) (hq := hq) (kn := kn) (th := th) (sm := sm) (Y := Y) (i := i) hX (by first | omega | (simp [up2, *]; done) | (simp [up2, *]; omega) | (simp only [up2_eq]; omega) | (split <;> omega))) pk_X4_isNoRow qm_X4_119 rfl rfl (Nat.le_of_ble_eq_true rfl) dX4_addAll_2 ⟨(Nat.le_of_ble_eq_true rfl), (Nat.le_of_ble_eq_true rfl)⟩ ⟨(Nat.le_of_ble_eq_true rfl), (Nat.le_of_ble_eq_true rfl)⟩ ?_
  refine r_w (w' := WM cy ba ra hf hq kn th sm ++ Y) rfl ?_
  refine r_ifN_ne (a := 0) (tgt := 15) C (by first | omega | (simp [up2, *]; done) | (simp [up2, *]; omega) | (simp only [up2_eq]; omega) | (split <;> omega)) dX4_addAll_5 (by decide) (fun h5_1 => ?_) (fun h5_1 => ?_)
  · exact absurd h5_1 (by first | omega | (simp [up2, *]; done) | (simp [up2, *]; omega) | (simp only [up2_eq]; omega) | (split <;> omega))
  · skip
    refine r_iload_n C dX4_addAll_8 rfl ?_
    refine d_S (st := [.ref (ba 9)]) hX.1.stb C hE (D_isNoRow0 (ba := ba) (ra := ra) (hf := hf) (hq := hq) (kn := kn) (th := th) (sm := sm) (Y := Y) (i := j) hX (by first | omega | (simp [up2, *]; done) | (simp [up2, *]; omega) | (simp only [up2_eq]; omega) | (split <;> omega))) pk_X4_isNoRow qm_X4_119 rfl rfl (Nat.le_of_ble_eq_true rfl) dX4_addAll_9 ⟨(Nat.le_of_ble_eq_true rfl), (Nat.le_of_ble_eq_true rfl)⟩ ⟨(Nat.le_of_ble_eq_true rfl), (Nat.le_of_ble_eq_true rfl)⟩ ?_
    refine r_w (w' := WM cy ba ra hf hq kn th sm ++ Y) rfl ?_
    refine r_ifN_eq (a := 0) (tgt := 19) C (by first | omega | (simp [up2, *]; done) | (simp [up2, *]; omega) | (simp only [up2_eq]; omega) | (split <;> omega)) dX4_addAll_12 (by decide) (fun h12_2 => ?_) (fun h12_2 => ?_)
    · skip
      refine r_iconst (v := (nI 0)) C dX4_addAll_19 (by decide) ?_
      refine r_iconst (v := (nI 0)) C dX4_addAll_20 (by decide) ?_
      refine r_iconst (v := (nI 0)) C dX4_addAll_21 (by decide) ?_
      refine d_V (st := []) hX.1.stb C hE (D_fails0 (ba := ba) (ra := ra) (hf := hf) (hq := hq) (kn := kn) (th := th) (sm := sm) (Y := Y)  hX ) pk_X4_fails qm_X4_84 0 8 rfl rfl wm_0 rfl rfl (Nat.le_of_ble_eq_true rfl) dX4_addAll_22 ⟨(Nat.le_of_ble_eq_true rfl), (Nat.le_of_ble_eq_true rfl)⟩ ⟨(Nat.le_of_ble_eq_true rfl), (Nat.le_of_ble_eq_true rfl)⟩ ?_
      refine r_w (w' := WM cy ba ra hf hq kn (nI 0) sm ++ Y) rfl ?_
      refine r_ifN_eq (a := 0) (tgt := 30) C (by first | omega | (simp [up2, *]; done) | (simp [up2, *]; omega) | (simp only [up2_eq]; omega) | (split <;> omega)) dX4_addAll_25 (by decide) (fun h25_3 => ?_) (fun h25_3 => ?_)
      · skip
        refine r_aload_n C dX4_addAll_30 rfl ?_
        refine r_iload_n C dX4_addAll_31 rfl ?_
        refine e_V (st := []) hX.1.stb C hE (D_items (ba := ba) (ra := ra) (hf := hf) (hq := hq) (kn := kn) (th := (nI 0)) (sm := sm) (Y := Y) (f := f) (w := j) hX hC (MG.same (fun _ => rfl) (fun _ => rfl) hG) (by first | omega | (simp [up2, *]; done) | (simp [up2, *]; omega) | (simp only [up2_eq]; omega) | (split <;> omega)) qj.2.2.2.2.2 (by first | omega | (simp [up2, *]; done) | (simp [up2, *]; omega) | (simp only [up2_eq]; omega) | (split <;> omega)) (by first | omega | (simp [up2, *]; done) | (simp [up2, *]; omega) | (simp only [up2_eq]; omega) | (split <;> omega))) pk_X4_items qm_X4_95 0 8 rfl rfl wm_0 rfl rfl (Nat.le_of_ble_eq_true rfl) dX4_addAll_32 ⟨(Nat.le_of_ble_eq_true rfl), (Nat.le_of_ble_eq_true rfl)⟩ ⟨(Nat.le_of_ble_eq_true rfl), (Nat.le_of_ble_eq_true rfl)⟩ (fun b_4 => ?_)
        refine r_w (w' := WM cy ba ra hf hq kn (nI 0) sm ++ (Y ++ [(b_4, .inl (cy 1, hf 4 j, .inl (cutF (fun z => hq (f 1 j) (f 3 j + z)) (hf 4 j))))])) (by simp only [List.append_assoc, List.cons_append, List.nil_append]) ?_
        refine r_st (st' := [.ref b_4]) rfl ?_
        refine r_astore C dX4_addAll_35 (by decide) rfl ?_
        refine r_aload_n C dX4_addAll_37 rfl ?_
        refine r_iconst (v := (nI 0)) C dX4_addAll_38 (by decide) ?_
        refine r_aload_n C dX4_addAll_39 rfl ?_
        refine m_get (v := .ref (ba 0)) C 0 (by decide) qf_X4_15 rfl rfl dX4_addAll_40 ?_
        refine r_iload_n C dX4_addAll_43 rfl ?_
        refine m_rows (i := i) C (by first | omega | (simp [up2, *]; done) | (simp [up2, *]; omega) | (simp only [up2_eq]; omega) | (split <;> omega)) dX4_addAll_44 ?_
        refine m_rlen (i := i) (v := hf 4 i) C (by first | omega | (simp [up2, *]; done) | (simp [up2, *]; omega) | (simp only [up2_eq]; omega) | (split <;> omega)) rfl dX4_addAll_45 ?_
        refine r_aload C dX4_addAll_46 rfl ?_
        refine x_len C (t0 := 1) 0 rfl rfl dX4_addAll_48 ?_
        refine r_iaddN C dX4_addAll_49 ?_
        refine r_bipush (v := (nI 12)) C dX4_addAll_50 (by decide) ?_
        refine r_icN_le (a := ((hf 4 i) + (hf 4 j))) (b := 12) (tgt := 59) C (by first | omega | (simp [up2, *]; done) | (simp [up2, *]; omega) | (simp only [up2_eq]; omega) | (split <;> omega)) (by first | omega | (simp [up2, *]; done) | (simp [up2, *]; omega) | (simp only [up2_eq]; omega) | (split <;> omega)) dX4_addAll_52 (by decide) (fun h52_5 => ?_) (fun h52_5 => ?_)
        · exact absurd h52_5 (by first | omega | (simp [up2, *]; done) | (simp [up2, *]; omega) | (simp only [up2_eq]; omega) | (split <;> omega))
        · skip
          refine r_iconst (v := (nI 1)) C dX4_addAll_55 (by decide) ?_
          refine r_goto (tgt := 60) C dX4_addAll_56 (by decide) ?_
          refine r_iconst (v := (nI 0)) C dX4_addAll_60 (by decide) ?_
          refine d_V (st := []) hX.1.stb C hE (D_fails2 (ba := ba) (ra := ra) (hf := hf) (hq := hq) (kn := kn) (th := (nI 0)) (sm := sm) (d0 := 0) hX ) pk_X4_fails qm_X4_84 0 8 rfl rfl wm_0 rfl rfl (Nat.le_of_ble_eq_true rfl) dX4_addAll_61 ⟨(Nat.le_of_ble_eq_true rfl), (Nat.le_of_ble_eq_true rfl)⟩ ⟨(Nat.le_of_ble_eq_true rfl), (Nat.le_of_ble_eq_true rfl)⟩ ?_
          refine r_w (w' := WM cy ba ra hf hq kn (nI 2) sm ++ (Y ++ [(b_4, .inl (cy 1, hf 4 j, .inl (cutF (fun z => hq (f 1 j) (f 3 j + z)) (hf 4 j))))])) rfl ?_
          refine r_ifN_eq (a := 1) (tgt := 69) C (by first | omega | (simp [up2, *]; done) | (simp [up2, *]; omega) | (simp only [up2_eq]; omega) | (split <;> omega)) dX4_addAll_64 (by decide) (fun h64_6 => ?_) (fun h64_6 => ?_)
          · exact absurd h64_6 (by first | omega | (simp [up2, *]; done) | (simp [up2, *]; omega) | (simp only [up2_eq]; omega) | (split <;> omega))
          · skip
            refine r_iconst (v := (nI 0)) C dX4_addAll_67 (by decide) ?_
            refine r_pre ?_
            exact r_iret C hr dX4_addAll_68 ⟨rfl, rfl⟩ (Nat.le_of_ble_eq_true rfl) (Nat.le_of_ble_eq_true rfl)
      · exact absurd h25_3 (by first | omega | (simp [up2, *]; done) | (simp [up2, *]; omega) | (simp only [up2_eq]; omega) | (split <;> omega))
    · exact absurd h12_2 (by first | omega | (simp [up2, *]; done) | (simp [up2, *]; omega) | (simp only [up2_eq]; omega) | (split <;> omega))
theorem dX4_addAll_59 : decode cX4_addAll 59 = .ok (.iconst 0, 1) := dqo_3 (kb_X4_addAll_0 59 rfl)
theorem dX4_addAll_69 : decode cX4_addAll 69 = .ok (.aload 4, 2) := dqo_25 4 (kb_X4_addAll_1 5 rfl) (kb_X4_addAll_1 6 rfl)
theorem dX4_addAll_71 : decode cX4_addAll 71 = .ok (.arraylength, 1) := dqo_190 (kb_X4_addAll_1 7 rfl)
theorem dX4_addAll_72 : decode cX4_addAll 72 = .ok (.ifCond .ne 11, 3) := dqo_154 0 11 (by decide) (kb_X4_addAll_1 8 rfl) (kb_X4_addAll_1 9 rfl) (kb_X4_addAll_1 10 rfl)
theorem dX4_addAll_75 : decode cX4_addAll 75 = .ok (.aload_n 0, 1) := dqo_42 (kb_X4_addAll_1 11 rfl)
theorem dX4_addAll_76 : decode cX4_addAll 76 = .ok (.getfield 15, 3) := dqo_180 0 15 (kb_X4_addAll_1 12 rfl) (kb_X4_addAll_1 13 rfl) (kb_X4_addAll_1 14 rfl)
theorem dX4_addAll_79 : decode cX4_addAll 79 = .ok (.iload_n 1, 1) := dqo_27 (kb_X4_addAll_1 15 rfl)
theorem dX4_addAll_80 : decode cX4_addAll 80 = .ok (.aaload, 1) := dqo_50 (kb_X4_addAll_1 16 rfl)
theorem dX4_addAll_81 : decode cX4_addAll 81 = .ok (.arraylength, 1) := dqo_190 (kb_X4_addAll_1 17 rfl)
theorem dX4_addAll_82 : decode cX4_addAll 82 = .ok (.ireturn, 1) := dqo_172 (kb_X4_addAll_1 18 rfl)
set_option maxRecDepth 100000 in
set_option maxHeartbeats 4000000 in
theorem D_addAll_0 {l : Launch} {D : va_G} {cy : Nat → ClassId} {X : (Nat → Prop) → State → Heap → Prop} {ba ra : Nat → Nat} {hf : Nat → Nat → Nat} {hq : Nat → Nat → Int32} {kn th : Int32} {sm : Int64} {Y : va_W} {f : Nat → Nat → Nat} {r : Nat → Nat → Int32} {i : Nat} {y0 : Int32} {j : Nat} (hX : EnvM X cy) (hC : CInv f) (hM : MR f r hf hq) (hi4 : i < 4) (hj4 : j < 4) (hfit : f 4 i + f 4 j ≤ 12) (hz : f 4 j = 0) : Cd l D cy X yX4_addAll cX4_addAll 5 (some .int) (rmk 9 4 48 420) [.ref (ba 9), .int (nI i), .int y0, .int (nI j)] (WM cy ba ra hf hq kn th sm ++ Y) (some (.int (nI (hf 4 i)))) (WM cy ba ra hf hq kn (nI 0) sm ++ Y) := by
  have hG := hM.1
  have h5M := hM.h5M hC
  have h4M := hC.h4M
  have h9a := hM.h9a hC
  have h6a := hM.h6a
  have hU := hM.hU hC
  have qi := hC.rw hi4
  have pi := (hM.2.1 i hi4).1
  have ei : hf 4 (f 1 i) = hf 4 i := by rw [qi.2.1]
  have wi := hM.wh hC (w := i) (by omega) qi.2.2.2.2.2
  have qj := hC.rw hj4
  have pj := (hM.2.1 j hj4).1
  have ej : hf 4 (f 1 j) = hf 4 j := by rw [qj.2.1]
  have wj := hM.wh hC (w := j) (by omega) qj.2.2.2.2.2
  refine Cm.of [some (.ref (ba 9)), some (.int (nI i)), some (.int y0), some (.int (nI j)), none] pn_X4 rfl (Nat.le_of_ble_eq_true rfl) ?_
  intro p e s m args below meth c A C hE hr hnt hn
  refine r_aload_n C dX4_addAll_0 rfl ?_
  refine r_iload_n C dX4_addAll_1 rfl ?_
  refine d_S (st := [.ref (ba 9)]) hX.1.stb C hE (D_isNoRow0 (ba := ba) (ra := ra) (hf := hf) (hq := hq) (kn := kn) (th := th) (sm := sm) (Y := Y) (i := i) hX (by first | omega | (simp [up2, *]; done) | (simp [up2, *]; omega) | (simp only [up2_eq]; omega) | (split <;> omega))) pk_X4_isNoRow qm_X4_119 rfl rfl (Nat.le_of_ble_eq_true rfl) dX4_addAll_2 ⟨(Nat.le_of_ble_eq_true rfl), (Nat.le_of_ble_eq_true rfl)⟩ ⟨(Nat.le_of_ble_eq_true rfl), (Nat.le_of_ble_eq_true rfl)⟩ ?_
  refine r_w (w' := WM cy ba ra hf hq kn th sm ++ Y) rfl ?_
  refine r_ifN_ne (a := 0) (tgt := 15) C (by first | omega | (simp [up2, *]; done) | (simp [up2, *]; omega) | (simp only [up2_eq]; omega) | (split <;> omega)) dX4_addAll_5 (by decide) (fun h5_1 => ?_) (fun h5_1 => ?_)
  · exact absurd h5_1 (by first | omega | (simp [up2, *]; done) | (simp [up2, *]; omega) | (simp only [up2_eq]; omega) | (split <;> omega))
  · skip
    refine r_iload_n C dX4_addAll_8 rfl ?_
    refine d_S (st := [.ref (ba 9)]) hX.1.stb C hE (D_isNoRow0 (ba := ba) (ra := ra) (hf := hf) (hq := hq) (kn := kn) (th := th) (sm := sm) (Y := Y) (i := j) hX (by first | omega | (simp [up2, *]; done) | (simp [up2, *]; omega) | (simp only [up2_eq]; omega) | (split <;> omega))) pk_X4_isNoRow qm_X4_119 rfl rfl (Nat.le_of_ble_eq_true rfl) dX4_addAll_9 ⟨(Nat.le_of_ble_eq_true rfl), (Nat.le_of_ble_eq_true rfl)⟩ ⟨(Nat.le_of_ble_eq_true rfl), (Nat.le_of_ble_eq_true rfl)⟩ ?_
    refine r_w (w' := WM cy ba ra hf hq kn th sm ++ Y) rfl ?_
    refine r_ifN_eq (a := 0) (tgt := 19) C (by first | omega | (simp [up2, *]; done) | (simp [up2, *]; omega) | (simp only [up2_eq]; omega) | (split <;> omega)) dX4_addAll_12 (by decide) (fun h12_2 => ?_) (fun h12_2 => ?_)
    · skip
      refine r_iconst (v := (nI 0)) C dX4_addAll_19 (by decide) ?_
      refine r_iconst (v := (nI 0)) C dX4_addAll_20 (by decide) ?_
      refine r_iconst (v := (nI 0)) C dX4_addAll_21 (by decide) ?_
      refine d_V (st := []) hX.1.stb C hE (D_fails0 (ba := ba) (ra := ra) (hf := hf) (hq := hq) (kn := kn) (th := th) (sm := sm) (Y := Y)  hX ) pk_X4_fails qm_X4_84 0 8 rfl rfl wm_0 rfl rfl (Nat.le_of_ble_eq_true rfl) dX4_addAll_22 ⟨(Nat.le_of_ble_eq_true rfl), (Nat.le_of_ble_eq_true rfl)⟩ ⟨(Nat.le_of_ble_eq_true rfl), (Nat.le_of_ble_eq_true rfl)⟩ ?_
      refine r_w (w' := WM cy ba ra hf hq kn (nI 0) sm ++ Y) rfl ?_
      refine r_ifN_eq (a := 0) (tgt := 30) C (by first | omega | (simp [up2, *]; done) | (simp [up2, *]; omega) | (simp only [up2_eq]; omega) | (split <;> omega)) dX4_addAll_25 (by decide) (fun h25_3 => ?_) (fun h25_3 => ?_)
      · skip
        refine r_aload_n C dX4_addAll_30 rfl ?_
        refine r_iload_n C dX4_addAll_31 rfl ?_
        refine e_V (st := []) hX.1.stb C hE (D_items (ba := ba) (ra := ra) (hf := hf) (hq := hq) (kn := kn) (th := (nI 0)) (sm := sm) (Y := Y) (f := f) (w := j) hX hC (MG.same (fun _ => rfl) (fun _ => rfl) hG) (by first | omega | (simp [up2, *]; done) | (simp [up2, *]; omega) | (simp only [up2_eq]; omega) | (split <;> omega)) qj.2.2.2.2.2 (by first | omega | (simp [up2, *]; done) | (simp [up2, *]; omega) | (simp only [up2_eq]; omega) | (split <;> omega)) (by first | omega | (simp [up2, *]; done) | (simp [up2, *]; omega) | (simp only [up2_eq]; omega) | (split <;> omega))) pk_X4_items qm_X4_95 0 8 rfl rfl wm_0 rfl rfl (Nat.le_of_ble_eq_true rfl) dX4_addAll_32 ⟨(Nat.le_of_ble_eq_true rfl), (Nat.le_of_ble_eq_true rfl)⟩ ⟨(Nat.le_of_ble_eq_true rfl), (Nat.le_of_ble_eq_true rfl)⟩ (fun b_4 => ?_)
        refine r_w (w' := WM cy ba ra hf hq kn (nI 0) sm ++ (Y ++ [(b_4, .inl (cy 1, hf 4 j, .inl (cutF (fun z => hq (f 1 j) (f 3 j + z)) (hf 4 j))))])) (by simp only [List.append_assoc, List.cons_append, List.nil_append]) ?_
        refine r_st (st' := [.ref b_4]) rfl ?_
        refine r_astore C dX4_addAll_35 (by decide) rfl ?_
        refine r_aload_n C dX4_addAll_37 rfl ?_
        refine r_iconst (v := (nI 0)) C dX4_addAll_38 (by decide) ?_
        refine r_aload_n C dX4_addAll_39 rfl ?_
        refine m_get (v := .ref (ba 0)) C 0 (by decide) qf_X4_15 rfl rfl dX4_addAll_40 ?_
        refine r_iload_n C dX4_addAll_43 rfl ?_
        refine m_rows (i := i) C (by first | omega | (simp [up2, *]; done) | (simp [up2, *]; omega) | (simp only [up2_eq]; omega) | (split <;> omega)) dX4_addAll_44 ?_
        refine m_rlen (i := i) (v := hf 4 i) C (by first | omega | (simp [up2, *]; done) | (simp [up2, *]; omega) | (simp only [up2_eq]; omega) | (split <;> omega)) rfl dX4_addAll_45 ?_
        refine r_aload C dX4_addAll_46 rfl ?_
        refine x_len C (t0 := 1) 0 rfl rfl dX4_addAll_48 ?_
        refine r_iaddN C dX4_addAll_49 ?_
        refine r_bipush (v := (nI 12)) C dX4_addAll_50 (by decide) ?_
        refine r_icN_le (a := ((hf 4 i) + (hf 4 j))) (b := 12) (tgt := 59) C (by first | omega | (simp [up2, *]; done) | (simp [up2, *]; omega) | (simp only [up2_eq]; omega) | (split <;> omega)) (by first | omega | (simp [up2, *]; done) | (simp [up2, *]; omega) | (simp only [up2_eq]; omega) | (split <;> omega)) dX4_addAll_52 (by decide) (fun h52_5 => ?_) (fun h52_5 => ?_)
        · skip
          refine r_iconst (v := (nI 0)) C dX4_addAll_59 (by decide) ?_
          refine r_iconst (v := (nI 0)) C dX4_addAll_60 (by decide) ?_
          refine d_V (st := []) hX.1.stb C hE (D_fails0 (ba := ba) (ra := ra) (hf := hf) (hq := hq) (kn := kn) (th := (nI 0)) (sm := sm)  hX ) pk_X4_fails qm_X4_84 0 8 rfl rfl wm_0 rfl rfl (Nat.le_of_ble_eq_true rfl) dX4_addAll_61 ⟨(Nat.le_of_ble_eq_true rfl), (Nat.le_of_ble_eq_true rfl)⟩ ⟨(Nat.le_of_ble_eq_true rfl), (Nat.le_of_ble_eq_true rfl)⟩ ?_
          refine r_w (w' := WM cy ba ra hf hq kn (nI 0) sm ++ (Y ++ [(b_4, .inl (cy 1, hf 4 j, .inl (cutF (fun z => hq (f 1 j) (f 3 j + z)) (hf 4 j))))])) rfl ?_
          refine r_ifN_eq (a := 0) (tgt := 69) C (by first | omega | (simp [up2, *]; done) | (simp [up2, *]; omega) | (simp only [up2_eq]; omega) | (split <;> omega)) dX4_addAll_64 (by decide) (fun h64_6 => ?_) (fun h64_6 => ?_)
          · skip
            refine r_aload C dX4_addAll_69 rfl ?_
            refine x_len C (t0 := 1) 0 rfl rfl dX4_addAll_71 ?_
            refine r_ifN_ne (a := (hf 4 j)) (tgt := 83) C (by first | omega | (simp [up2, *]; done) | (simp [up2, *]; omega) | (simp only [up2_eq]; omega) | (split <;> omega)) dX4_addAll_72 (by decide) (fun h72_7 => ?_) (fun h72_7 => ?_)
            · exact absurd h72_7 (by first | omega | (simp [up2, *]; done) | (simp [up2, *]; omega) | (simp only [up2_eq]; omega) | (split <;> omega))
            · skip
              refine r_aload_n C dX4_addAll_75 rfl ?_
              refine m_get (v := .ref (ba 0)) C 0 (by decide) qf_X4_15 rfl rfl dX4_addAll_76 ?_
              refine r_iload_n C dX4_addAll_79 rfl ?_
              refine m_rows (i := i) C (by first | omega | (simp [up2, *]; done) | (simp [up2, *]; omega) | (simp only [up2_eq]; omega) | (split <;> omega)) dX4_addAll_80 ?_
              refine m_rlen (i := i) (v := hf 4 i) C (by first | omega | (simp [up2, *]; done) | (simp [up2, *]; omega) | (simp only [up2_eq]; omega) | (split <;> omega)) rfl dX4_addAll_81 ?_
              refine r_pre ?_
              exact r_iret C hr dX4_addAll_82 ⟨rfl, rfl⟩ (Nat.le_of_ble_eq_true rfl) (Nat.le_of_ble_eq_true rfl)
          · exact absurd h64_6 (by first | omega | (simp [up2, *]; done) | (simp [up2, *]; omega) | (simp only [up2_eq]; omega) | (split <;> omega))
        · exact absurd h52_5 (by first | omega | (simp [up2, *]; done) | (simp [up2, *]; omega) | (simp only [up2_eq]; omega) | (split <;> omega))
      · exact absurd h25_3 (by first | omega | (simp [up2, *]; done) | (simp [up2, *]; omega) | (simp only [up2_eq]; omega) | (split <;> omega))
    · exact absurd h12_2 (by first | omega | (simp [up2, *]; done) | (simp [up2, *]; omega) | (simp only [up2_eq]; omega) | (split <;> omega))
theorem dX4_addAll_83 : decode cX4_addAll 83 = .ok (.iload_n 2, 1) := dqo_28 (kb_X4_addAll_1 19 rfl)
theorem dX4_addAll_84 : decode cX4_addAll 84 = .ok (.iconst 0, 1) := dqo_3 (kb_X4_addAll_1 20 rfl)
theorem dX4_addAll_85 : decode cX4_addAll 85 = .ok (.aload_n 0, 1) := dqo_42 (kb_X4_addAll_1 21 rfl)
theorem dX4_addAll_86 : decode cX4_addAll 86 = .ok (.getfield 15, 3) := dqo_180 0 15 (kb_X4_addAll_1 22 rfl) (kb_X4_addAll_1 23 rfl) (kb_X4_addAll_1 24 rfl)
theorem dX4_addAll_89 : decode cX4_addAll 89 = .ok (.iload_n 1, 1) := dqo_27 (kb_X4_addAll_1 25 rfl)
theorem dX4_addAll_90 : decode cX4_addAll 90 = .ok (.aaload, 1) := dqo_50 (kb_X4_addAll_1 26 rfl)
theorem dX4_addAll_91 : decode cX4_addAll 91 = .ok (.arraylength, 1) := dqo_190 (kb_X4_addAll_1 27 rfl)
theorem dX4_addAll_92 : decode cX4_addAll 92 = .ok (.invokestatic 1, 3) := dqo_184 0 1 (kb_X4_addAll_1 28 rfl) (kb_X4_addAll_1 29 rfl) (kb_X4_addAll_1 30 rfl)
theorem dX4_addAll_95 : decode cX4_addAll 95 = .ok (.ifCond .ne 6, 3) := dqo_154 0 6 (by decide) (kb_X4_addAll_1 31 rfl) (kb_X4_addAll_1 32 rfl) (kb_X4_addAll_1 33 rfl)
theorem dX4_addAll_98 : decode cX4_addAll 98 = .ok (.bipush (-9), 2) := dqo_16 247 (by decide) (kb_X4_addAll_1 34 rfl) (kb_X4_addAll_1 35 rfl)
theorem dX4_addAll_100 : decode cX4_addAll 100 = .ok (.ireturn, 1) := dqo_172 (kb_X4_addAll_1 36 rfl)
set_option maxRecDepth 100000 in
set_option maxHeartbeats 4000000 in
theorem D_addAll_ref {l : Launch} {D : va_G} {cy : Nat → ClassId} {X : (Nat → Prop) → State → Heap → Prop} {ba ra : Nat → Nat} {hf : Nat → Nat → Nat} {hq : Nat → Nat → Int32} {kn th : Int32} {sm : Int64} {Y : va_W} {f : Nat → Nat → Nat} {r : Nat → Nat → Int32} {i : Nat} {y0 : Int32} {j : Nat} (hX : EnvM X cy) (hC : CInv f) (hM : MR f r hf hq) (hi4 : i < 4) (hj4 : j < 4) (hfit : f 4 i + f 4 j ≤ 12) (hz : 0 < f 4 j) (hno : ¬ (0 ≤ y0 ∧ y0 ≤ nI (f 4 i))) : Cd l D cy X yX4_addAll cX4_addAll 5 (some .int) (rmk 9 4 48 420) [.ref (ba 9), .int (nI i), .int y0, .int (nI j)] (WM cy ba ra hf hq kn th sm ++ Y) (some (.int (nI 4294967287))) (WM cy ba ra hf hq kn (nI 0) sm ++ Y) := by
  have hG := hM.1
  have h5M := hM.h5M hC
  have h4M := hC.h4M
  have h9a := hM.h9a hC
  have h6a := hM.h6a
  have hU := hM.hU hC
  have qi := hC.rw hi4
  have pi := (hM.2.1 i hi4).1
  have ei : hf 4 (f 1 i) = hf 4 i := by rw [qi.2.1]
  have wi := hM.wh hC (w := i) (by omega) qi.2.2.2.2.2
  have qj := hC.rw hj4
  have pj := (hM.2.1 j hj4).1
  have ej : hf 4 (f 1 j) = hf 4 j := by rw [qj.2.1]
  have wj := hM.wh hC (w := j) (by omega) qj.2.2.2.2.2
  refine Cm.of [some (.ref (ba 9)), some (.int (nI i)), some (.int y0), some (.int (nI j)), none] pn_X4 rfl (Nat.le_of_ble_eq_true rfl) ?_
  intro p e s m args below meth c A C hE hr hnt hn
  refine r_aload_n C dX4_addAll_0 rfl ?_
  refine r_iload_n C dX4_addAll_1 rfl ?_
  refine d_S (st := [.ref (ba 9)]) hX.1.stb C hE (D_isNoRow0 (ba := ba) (ra := ra) (hf := hf) (hq := hq) (kn := kn) (th := th) (sm := sm) (Y := Y) (i := i) hX (by first | omega | (simp [up2, *]; done) | (simp [up2, *]; omega) | (simp only [up2_eq]; omega) | (split <;> omega))) pk_X4_isNoRow qm_X4_119 rfl rfl (Nat.le_of_ble_eq_true rfl) dX4_addAll_2 ⟨(Nat.le_of_ble_eq_true rfl), (Nat.le_of_ble_eq_true rfl)⟩ ⟨(Nat.le_of_ble_eq_true rfl), (Nat.le_of_ble_eq_true rfl)⟩ ?_
  refine r_w (w' := WM cy ba ra hf hq kn th sm ++ Y) rfl ?_
  refine r_ifN_ne (a := 0) (tgt := 15) C (by first | omega | (simp [up2, *]; done) | (simp [up2, *]; omega) | (simp only [up2_eq]; omega) | (split <;> omega)) dX4_addAll_5 (by decide) (fun h5_1 => ?_) (fun h5_1 => ?_)
  · exact absurd h5_1 (by first | omega | (simp [up2, *]; done) | (simp [up2, *]; omega) | (simp only [up2_eq]; omega) | (split <;> omega))
  · skip
    refine r_iload_n C dX4_addAll_8 rfl ?_
    refine d_S (st := [.ref (ba 9)]) hX.1.stb C hE (D_isNoRow0 (ba := ba) (ra := ra) (hf := hf) (hq := hq) (kn := kn) (th := th) (sm := sm) (Y := Y) (i := j) hX (by first | omega | (simp [up2, *]; done) | (simp [up2, *]; omega) | (simp only [up2_eq]; omega) | (split <;> omega))) pk_X4_isNoRow qm_X4_119 rfl rfl (Nat.le_of_ble_eq_true rfl) dX4_addAll_9 ⟨(Nat.le_of_ble_eq_true rfl), (Nat.le_of_ble_eq_true rfl)⟩ ⟨(Nat.le_of_ble_eq_true rfl), (Nat.le_of_ble_eq_true rfl)⟩ ?_
    refine r_w (w' := WM cy ba ra hf hq kn th sm ++ Y) rfl ?_
    refine r_ifN_eq (a := 0) (tgt := 19) C (by first | omega | (simp [up2, *]; done) | (simp [up2, *]; omega) | (simp only [up2_eq]; omega) | (split <;> omega)) dX4_addAll_12 (by decide) (fun h12_2 => ?_) (fun h12_2 => ?_)
    · skip
      refine r_iconst (v := (nI 0)) C dX4_addAll_19 (by decide) ?_
      refine r_iconst (v := (nI 0)) C dX4_addAll_20 (by decide) ?_
      refine r_iconst (v := (nI 0)) C dX4_addAll_21 (by decide) ?_
      refine d_V (st := []) hX.1.stb C hE (D_fails0 (ba := ba) (ra := ra) (hf := hf) (hq := hq) (kn := kn) (th := th) (sm := sm) (Y := Y)  hX ) pk_X4_fails qm_X4_84 0 8 rfl rfl wm_0 rfl rfl (Nat.le_of_ble_eq_true rfl) dX4_addAll_22 ⟨(Nat.le_of_ble_eq_true rfl), (Nat.le_of_ble_eq_true rfl)⟩ ⟨(Nat.le_of_ble_eq_true rfl), (Nat.le_of_ble_eq_true rfl)⟩ ?_
      refine r_w (w' := WM cy ba ra hf hq kn (nI 0) sm ++ Y) rfl ?_
      refine r_ifN_eq (a := 0) (tgt := 30) C (by first | omega | (simp [up2, *]; done) | (simp [up2, *]; omega) | (simp only [up2_eq]; omega) | (split <;> omega)) dX4_addAll_25 (by decide) (fun h25_3 => ?_) (fun h25_3 => ?_)
      · skip
        refine r_aload_n C dX4_addAll_30 rfl ?_
        refine r_iload_n C dX4_addAll_31 rfl ?_
        refine e_V (st := []) hX.1.stb C hE (D_items (ba := ba) (ra := ra) (hf := hf) (hq := hq) (kn := kn) (th := (nI 0)) (sm := sm) (Y := Y) (f := f) (w := j) hX hC (MG.same (fun _ => rfl) (fun _ => rfl) hG) (by first | omega | (simp [up2, *]; done) | (simp [up2, *]; omega) | (simp only [up2_eq]; omega) | (split <;> omega)) qj.2.2.2.2.2 (by first | omega | (simp [up2, *]; done) | (simp [up2, *]; omega) | (simp only [up2_eq]; omega) | (split <;> omega)) (by first | omega | (simp [up2, *]; done) | (simp [up2, *]; omega) | (simp only [up2_eq]; omega) | (split <;> omega))) pk_X4_items qm_X4_95 0 8 rfl rfl wm_0 rfl rfl (Nat.le_of_ble_eq_true rfl) dX4_addAll_32 ⟨(Nat.le_of_ble_eq_true rfl), (Nat.le_of_ble_eq_true rfl)⟩ ⟨(Nat.le_of_ble_eq_true rfl), (Nat.le_of_ble_eq_true rfl)⟩ (fun b_4 => ?_)
        refine r_w (w' := WM cy ba ra hf hq kn (nI 0) sm ++ (Y ++ [(b_4, .inl (cy 1, hf 4 j, .inl (cutF (fun z => hq (f 1 j) (f 3 j + z)) (hf 4 j))))])) (by simp only [List.append_assoc, List.cons_append, List.nil_append]) ?_
        refine r_st (st' := [.ref b_4]) rfl ?_
        refine r_astore C dX4_addAll_35 (by decide) rfl ?_
        refine r_aload_n C dX4_addAll_37 rfl ?_
        refine r_iconst (v := (nI 0)) C dX4_addAll_38 (by decide) ?_
        refine r_aload_n C dX4_addAll_39 rfl ?_
        refine m_get (v := .ref (ba 0)) C 0 (by decide) qf_X4_15 rfl rfl dX4_addAll_40 ?_
        refine r_iload_n C dX4_addAll_43 rfl ?_
        refine m_rows (i := i) C (by first | omega | (simp [up2, *]; done) | (simp [up2, *]; omega) | (simp only [up2_eq]; omega) | (split <;> omega)) dX4_addAll_44 ?_
        refine m_rlen (i := i) (v := hf 4 i) C (by first | omega | (simp [up2, *]; done) | (simp [up2, *]; omega) | (simp only [up2_eq]; omega) | (split <;> omega)) rfl dX4_addAll_45 ?_
        refine r_aload C dX4_addAll_46 rfl ?_
        refine x_len C (t0 := 1) 0 rfl rfl dX4_addAll_48 ?_
        refine r_iaddN C dX4_addAll_49 ?_
        refine r_bipush (v := (nI 12)) C dX4_addAll_50 (by decide) ?_
        refine r_icN_le (a := ((hf 4 i) + (hf 4 j))) (b := 12) (tgt := 59) C (by first | omega | (simp [up2, *]; done) | (simp [up2, *]; omega) | (simp only [up2_eq]; omega) | (split <;> omega)) (by first | omega | (simp [up2, *]; done) | (simp [up2, *]; omega) | (simp only [up2_eq]; omega) | (split <;> omega)) dX4_addAll_52 (by decide) (fun h52_5 => ?_) (fun h52_5 => ?_)
        · skip
          refine r_iconst (v := (nI 0)) C dX4_addAll_59 (by decide) ?_
          refine r_iconst (v := (nI 0)) C dX4_addAll_60 (by decide) ?_
          refine d_V (st := []) hX.1.stb C hE (D_fails0 (ba := ba) (ra := ra) (hf := hf) (hq := hq) (kn := kn) (th := (nI 0)) (sm := sm)  hX ) pk_X4_fails qm_X4_84 0 8 rfl rfl wm_0 rfl rfl (Nat.le_of_ble_eq_true rfl) dX4_addAll_61 ⟨(Nat.le_of_ble_eq_true rfl), (Nat.le_of_ble_eq_true rfl)⟩ ⟨(Nat.le_of_ble_eq_true rfl), (Nat.le_of_ble_eq_true rfl)⟩ ?_
          refine r_w (w' := WM cy ba ra hf hq kn (nI 0) sm ++ (Y ++ [(b_4, .inl (cy 1, hf 4 j, .inl (cutF (fun z => hq (f 1 j) (f 3 j + z)) (hf 4 j))))])) rfl ?_
          refine r_ifN_eq (a := 0) (tgt := 69) C (by first | omega | (simp [up2, *]; done) | (simp [up2, *]; omega) | (simp only [up2_eq]; omega) | (split <;> omega)) dX4_addAll_64 (by decide) (fun h64_6 => ?_) (fun h64_6 => ?_)
          · skip
            refine r_aload C dX4_addAll_69 rfl ?_
            refine x_len C (t0 := 1) 0 rfl rfl dX4_addAll_71 ?_
            refine r_ifN_ne (a := (hf 4 j)) (tgt := 83) C (by first | omega | (simp [up2, *]; done) | (simp [up2, *]; omega) | (simp only [up2_eq]; omega) | (split <;> omega)) dX4_addAll_72 (by decide) (fun h72_7 => ?_) (fun h72_7 => ?_)
            · skip
              refine r_iload_n C dX4_addAll_83 rfl ?_
              refine r_iconst (v := (nI 0)) C dX4_addAll_84 (by decide) ?_
              refine r_aload_n C dX4_addAll_85 rfl ?_
              refine m_get (v := .ref (ba 0)) C 0 (by decide) qf_X4_15 rfl rfl dX4_addAll_86 ?_
              refine r_iload_n C dX4_addAll_89 rfl ?_
              refine m_rows (i := i) C (by first | omega | (simp [up2, *]; done) | (simp [up2, *]; omega) | (simp only [up2_eq]; omega) | (split <;> omega)) dX4_addAll_90 ?_
              refine m_rlen (i := i) (v := hf 4 i) C (by first | omega | (simp [up2, *]; done) | (simp [up2, *]; omega) | (simp only [up2_eq]; omega) | (split <;> omega)) rfl dX4_addAll_91 ?_
              refine d_S (st := []) hX.1.stb C hE (D_isIn0 (ba := ba) (ra := ra) (hf := hf) (hq := hq) (kn := kn) (th := (nI 0)) (sm := sm) (x := (y0)) (y := ((nI 0))) (z := ((nI (hf 4 i)))) hX (by rw [pi]; exact hno)) pk_X4_isIn qm_X4_1 rfl rfl (Nat.le_of_ble_eq_true rfl) dX4_addAll_92 ⟨(Nat.le_of_ble_eq_true rfl), (Nat.le_of_ble_eq_true rfl)⟩ ⟨(Nat.le_of_ble_eq_true rfl), (Nat.le_of_ble_eq_true rfl)⟩ ?_
              refine r_w (w' := WM cy ba ra hf hq kn (nI 0) sm ++ (Y ++ [(b_4, .inl (cy 1, hf 4 j, .inl (cutF (fun z => hq (f 1 j) (f 3 j + z)) (hf 4 j))))])) rfl ?_
              refine r_ifN_ne (a := 0) (tgt := 101) C (by first | omega | (simp [up2, *]; done) | (simp [up2, *]; omega) | (simp only [up2_eq]; omega) | (split <;> omega)) dX4_addAll_95 (by decide) (fun h95_8 => ?_) (fun h95_8 => ?_)
              · exact absurd h95_8 (by first | omega | (simp [up2, *]; done) | (simp [up2, *]; omega) | (simp only [up2_eq]; omega) | (split <;> omega))
              · skip
                refine r_bipush (v := (nI 4294967287)) C dX4_addAll_98 (by decide) ?_
                refine r_pre ?_
                exact r_iret C hr dX4_addAll_100 ⟨rfl, rfl⟩ (Nat.le_of_ble_eq_true rfl) (Nat.le_of_ble_eq_true rfl)
            · exact absurd h72_7 (by first | omega | (simp [up2, *]; done) | (simp [up2, *]; omega) | (simp only [up2_eq]; omega) | (split <;> omega))
          · exact absurd h64_6 (by first | omega | (simp [up2, *]; done) | (simp [up2, *]; omega) | (simp only [up2_eq]; omega) | (split <;> omega))
        · exact absurd h52_5 (by first | omega | (simp [up2, *]; done) | (simp [up2, *]; omega) | (simp only [up2_eq]; omega) | (split <;> omega))
      · exact absurd h25_3 (by first | omega | (simp [up2, *]; done) | (simp [up2, *]; omega) | (simp only [up2_eq]; omega) | (split <;> omega))
    · exact absurd h12_2 (by first | omega | (simp [up2, *]; done) | (simp [up2, *]; omega) | (simp only [up2_eq]; omega) | (split <;> omega))
theorem dX4_addAll_101 : decode cX4_addAll 101 = .ok (.aload_n 0, 1) := dqo_42 (kb_X4_addAll_1 37 rfl)
theorem dX4_addAll_102 : decode cX4_addAll 102 = .ok (.iload_n 1, 1) := dqo_27 (kb_X4_addAll_1 38 rfl)
theorem dX4_addAll_103 : decode cX4_addAll 103 = .ok (.iconst (-1), 1) := dqo_2 (kb_X4_addAll_1 39 rfl)
theorem dX4_addAll_104 : decode cX4_addAll 104 = .ok (.invokevirtual 74, 3) := dqo_182 0 74 (kb_X4_addAll_1 40 rfl) (kb_X4_addAll_1 41 rfl) (kb_X4_addAll_1 42 rfl)
theorem dX4_addAll_107 : decode cX4_addAll 107 = .ok (.aload_n 0, 1) := dqo_42 (kb_X4_addAll_1 43 rfl)
theorem dX4_addAll_108 : decode cX4_addAll 108 = .ok (.iload_n 1, 1) := dqo_27 (kb_X4_addAll_1 44 rfl)
theorem dX4_addAll_109 : decode cX4_addAll 109 = .ok (.iload_n 2, 1) := dqo_28 (kb_X4_addAll_1 45 rfl)
theorem dX4_addAll_110 : decode cX4_addAll 110 = .ok (.iconst 0, 1) := dqo_3 (kb_X4_addAll_1 46 rfl)
theorem dX4_addAll_111 : decode cX4_addAll 111 = .ok (.aload 4, 2) := dqo_25 4 (kb_X4_addAll_1 47 rfl) (kb_X4_addAll_1 48 rfl)
theorem dX4_addAll_113 : decode cX4_addAll 113 = .ok (.invokevirtual 88, 3) := dqo_182 0 88 (kb_X4_addAll_1 49 rfl) (kb_X4_addAll_1 50 rfl) (kb_X4_addAll_1 51 rfl)
theorem dX4_addAll_116 : decode cX4_addAll 116 = .ok (.aload_n 0, 1) := dqo_42 (kb_X4_addAll_1 52 rfl)
theorem dX4_addAll_117 : decode cX4_addAll 117 = .ok (.getfield 15, 3) := dqo_180 0 15 (kb_X4_addAll_1 53 rfl) (kb_X4_addAll_1 54 rfl) (kb_X4_addAll_1 55 rfl)
theorem dX4_addAll_120 : decode cX4_addAll 120 = .ok (.iload_n 1, 1) := dqo_27 (kb_X4_addAll_1 56 rfl)
theorem dX4_addAll_121 : decode cX4_addAll 121 = .ok (.aaload, 1) := dqo_50 (kb_X4_addAll_1 57 rfl)
theorem dX4_addAll_122 : decode cX4_addAll 122 = .ok (.arraylength, 1) := dqo_190 (kb_X4_addAll_1 58 rfl)
theorem dX4_addAll_123 : decode cX4_addAll 123 = .ok (.ireturn, 1) := dqo_172 (kb_X4_addAll_1 59 rfl)
set_option maxRecDepth 100000 in
set_option maxHeartbeats 4000000 in
theorem D_addAll_ok {l : Launch} {D : va_G} {cy : Nat → ClassId} {X : (Nat → Prop) → State → Heap → Prop} {ba ra : Nat → Nat} {hf : Nat → Nat → Nat} {hq : Nat → Nat → Int32} {kn th : Int32} {sm : Int64} {Y : va_W} {f : Nat → Nat → Nat} {r : Nat → Nat → Int32} {i : Nat} {k0 : Nat} {j : Nat} (hX : EnvM X cy) (hC : CInv f) (hM : MR f r hf hq) (hi4 : i < 4) (hj4 : j < 4) (hfit : f 4 i + f 4 j ≤ 12) (hz : 0 < f 4 j) (hk : k0 ≤ f 4 i) : Cm l D cy X yX4_addAll cX4_addAll 5 (some .int) (rmk 9 4 48 420) [.ref (ba 9), .int (nI i), .int (nI k0), .int (nI j)] (WM cy ba ra hf hq kn th sm ++ Y) (fun v1 w1 => ∃ ra9 : Nat → Nat, v1 = some (.int (nI ((lyM f (up2 (chM f hf i 4294967295) 4 (f 1 i) ((chM f hf i 4294967295) 4 (f 1 i) - 0 + (hf 4 j))) i (hf 4 j) 0) 4 i))) ∧ w1 = WM cy ba ra9 (lyM f (up2 (chM f hf i 4294967295) 4 (f 1 i) ((chM f hf i 4294967295) 4 (f 1 i) - 0 + (hf 4 j))) i (hf 4 j) 0) (upR hq (f 1 i) (layF (hq (f 1 i)) (cutF (fun z => hq (f 1 j) (f 3 j + z)) (hf 4 j)) (f 3 i + k0) (hf 4 j) 0 ((chM f hf i 4294967295) 4 (f 1 i) - 0 + (hf 4 j)))) kn (nI 0) sm ++ Y) (fun _ => False) := by
  have hG := hM.1
  have h5M := hM.h5M hC
  have h4M := hC.h4M
  have h9a := hM.h9a hC
  have h6a := hM.h6a
  have hU := hM.hU hC
  have qi := hC.rw hi4
  have pi := (hM.2.1 i hi4).1
  have ei : hf 4 (f 1 i) = hf 4 i := by rw [qi.2.1]
  have wi := hM.wh hC (w := i) (by omega) qi.2.2.2.2.2
  have qj := hC.rw hj4
  have pj := (hM.2.1 j hj4).1
  have ej : hf 4 (f 1 j) = hf 4 j := by rw [qj.2.1]
  have wj := hM.wh hC (w := j) (by omega) qj.2.2.2.2.2
  refine Cm.of [some (.ref (ba 9)), some (.int (nI i)), some (.int (nI k0)), some (.int (nI j)), none] pn_X4 rfl (Nat.le_of_ble_eq_true rfl) ?_
  intro p e s m args below meth c A C hE hr hnt hn
  refine r_aload_n C dX4_addAll_0 rfl ?_
  refine r_iload_n C dX4_addAll_1 rfl ?_
  refine d_S (st := [.ref (ba 9)]) hX.1.stb C hE (D_isNoRow0 (ba := ba) (ra := ra) (hf := hf) (hq := hq) (kn := kn) (th := th) (sm := sm) (Y := Y) (i := i) hX (by first | omega | (simp [up2, *]; done) | (simp [up2, *]; omega) | (simp only [up2_eq]; omega) | (split <;> omega))) pk_X4_isNoRow qm_X4_119 rfl rfl (Nat.le_of_ble_eq_true rfl) dX4_addAll_2 ⟨(Nat.le_of_ble_eq_true rfl), (Nat.le_of_ble_eq_true rfl)⟩ ⟨(Nat.le_of_ble_eq_true rfl), (Nat.le_of_ble_eq_true rfl)⟩ ?_
  refine r_w (w' := WM cy ba ra hf hq kn th sm ++ Y) rfl ?_
  refine r_ifN_ne (a := 0) (tgt := 15) C (by first | omega | (simp [up2, *]; done) | (simp [up2, *]; omega) | (simp only [up2_eq]; omega) | (split <;> omega)) dX4_addAll_5 (by decide) (fun h5_1 => ?_) (fun h5_1 => ?_)
  · exact absurd h5_1 (by first | omega | (simp [up2, *]; done) | (simp [up2, *]; omega) | (simp only [up2_eq]; omega) | (split <;> omega))
  · skip
    refine r_iload_n C dX4_addAll_8 rfl ?_
    refine d_S (st := [.ref (ba 9)]) hX.1.stb C hE (D_isNoRow0 (ba := ba) (ra := ra) (hf := hf) (hq := hq) (kn := kn) (th := th) (sm := sm) (Y := Y) (i := j) hX (by first | omega | (simp [up2, *]; done) | (simp [up2, *]; omega) | (simp only [up2_eq]; omega) | (split <;> omega))) pk_X4_isNoRow qm_X4_119 rfl rfl (Nat.le_of_ble_eq_true rfl) dX4_addAll_9 ⟨(Nat.le_of_ble_eq_true rfl), (Nat.le_of_ble_eq_true rfl)⟩ ⟨(Nat.le_of_ble_eq_true rfl), (Nat.le_of_ble_eq_true rfl)⟩ ?_
    refine r_w (w' := WM cy ba ra hf hq kn th sm ++ Y) rfl ?_
    refine r_ifN_eq (a := 0) (tgt := 19) C (by first | omega | (simp [up2, *]; done) | (simp [up2, *]; omega) | (simp only [up2_eq]; omega) | (split <;> omega)) dX4_addAll_12 (by decide) (fun h12_2 => ?_) (fun h12_2 => ?_)
    · skip
      refine r_iconst (v := (nI 0)) C dX4_addAll_19 (by decide) ?_
      refine r_iconst (v := (nI 0)) C dX4_addAll_20 (by decide) ?_
      refine r_iconst (v := (nI 0)) C dX4_addAll_21 (by decide) ?_
      refine d_V (st := []) hX.1.stb C hE (D_fails0 (ba := ba) (ra := ra) (hf := hf) (hq := hq) (kn := kn) (th := th) (sm := sm) (Y := Y)  hX ) pk_X4_fails qm_X4_84 0 8 rfl rfl wm_0 rfl rfl (Nat.le_of_ble_eq_true rfl) dX4_addAll_22 ⟨(Nat.le_of_ble_eq_true rfl), (Nat.le_of_ble_eq_true rfl)⟩ ⟨(Nat.le_of_ble_eq_true rfl), (Nat.le_of_ble_eq_true rfl)⟩ ?_
      refine r_w (w' := WM cy ba ra hf hq kn (nI 0) sm ++ Y) rfl ?_
      refine r_ifN_eq (a := 0) (tgt := 30) C (by first | omega | (simp [up2, *]; done) | (simp [up2, *]; omega) | (simp only [up2_eq]; omega) | (split <;> omega)) dX4_addAll_25 (by decide) (fun h25_3 => ?_) (fun h25_3 => ?_)
      · skip
        refine r_aload_n C dX4_addAll_30 rfl ?_
        refine r_iload_n C dX4_addAll_31 rfl ?_
        refine e_V (st := []) hX.1.stb C hE (D_items (ba := ba) (ra := ra) (hf := hf) (hq := hq) (kn := kn) (th := (nI 0)) (sm := sm) (Y := Y) (f := f) (w := j) hX hC (MG.same (fun _ => rfl) (fun _ => rfl) hG) (by first | omega | (simp [up2, *]; done) | (simp [up2, *]; omega) | (simp only [up2_eq]; omega) | (split <;> omega)) qj.2.2.2.2.2 (by first | omega | (simp [up2, *]; done) | (simp [up2, *]; omega) | (simp only [up2_eq]; omega) | (split <;> omega)) (by first | omega | (simp [up2, *]; done) | (simp [up2, *]; omega) | (simp only [up2_eq]; omega) | (split <;> omega))) pk_X4_items qm_X4_95 0 8 rfl rfl wm_0 rfl rfl (Nat.le_of_ble_eq_true rfl) dX4_addAll_32 ⟨(Nat.le_of_ble_eq_true rfl), (Nat.le_of_ble_eq_true rfl)⟩ ⟨(Nat.le_of_ble_eq_true rfl), (Nat.le_of_ble_eq_true rfl)⟩ (fun b_4 => ?_)
        refine r_w (w' := WM cy ba ra hf hq kn (nI 0) sm ++ (Y ++ [(b_4, .inl (cy 1, hf 4 j, .inl (cutF (fun z => hq (f 1 j) (f 3 j + z)) (hf 4 j))))])) (by simp only [List.append_assoc, List.cons_append, List.nil_append]) ?_
        refine r_st (st' := [.ref b_4]) rfl ?_
        refine r_astore C dX4_addAll_35 (by decide) rfl ?_
        refine r_aload_n C dX4_addAll_37 rfl ?_
        refine r_iconst (v := (nI 0)) C dX4_addAll_38 (by decide) ?_
        refine r_aload_n C dX4_addAll_39 rfl ?_
        refine m_get (v := .ref (ba 0)) C 0 (by decide) qf_X4_15 rfl rfl dX4_addAll_40 ?_
        refine r_iload_n C dX4_addAll_43 rfl ?_
        refine m_rows (i := i) C (by first | omega | (simp [up2, *]; done) | (simp [up2, *]; omega) | (simp only [up2_eq]; omega) | (split <;> omega)) dX4_addAll_44 ?_
        refine m_rlen (i := i) (v := hf 4 i) C (by first | omega | (simp [up2, *]; done) | (simp [up2, *]; omega) | (simp only [up2_eq]; omega) | (split <;> omega)) rfl dX4_addAll_45 ?_
        refine r_aload C dX4_addAll_46 rfl ?_
        refine x_len C (t0 := 1) 0 rfl rfl dX4_addAll_48 ?_
        refine r_iaddN C dX4_addAll_49 ?_
        refine r_bipush (v := (nI 12)) C dX4_addAll_50 (by decide) ?_
        refine r_icN_le (a := ((hf 4 i) + (hf 4 j))) (b := 12) (tgt := 59) C (by first | omega | (simp [up2, *]; done) | (simp [up2, *]; omega) | (simp only [up2_eq]; omega) | (split <;> omega)) (by first | omega | (simp [up2, *]; done) | (simp [up2, *]; omega) | (simp only [up2_eq]; omega) | (split <;> omega)) dX4_addAll_52 (by decide) (fun h52_5 => ?_) (fun h52_5 => ?_)
        · skip
          refine r_iconst (v := (nI 0)) C dX4_addAll_59 (by decide) ?_
          refine r_iconst (v := (nI 0)) C dX4_addAll_60 (by decide) ?_
          refine d_V (st := []) hX.1.stb C hE (D_fails0 (ba := ba) (ra := ra) (hf := hf) (hq := hq) (kn := kn) (th := (nI 0)) (sm := sm)  hX ) pk_X4_fails qm_X4_84 0 8 rfl rfl wm_0 rfl rfl (Nat.le_of_ble_eq_true rfl) dX4_addAll_61 ⟨(Nat.le_of_ble_eq_true rfl), (Nat.le_of_ble_eq_true rfl)⟩ ⟨(Nat.le_of_ble_eq_true rfl), (Nat.le_of_ble_eq_true rfl)⟩ ?_
          refine r_w (w' := WM cy ba ra hf hq kn (nI 0) sm ++ (Y ++ [(b_4, .inl (cy 1, hf 4 j, .inl (cutF (fun z => hq (f 1 j) (f 3 j + z)) (hf 4 j))))])) rfl ?_
          refine r_ifN_eq (a := 0) (tgt := 69) C (by first | omega | (simp [up2, *]; done) | (simp [up2, *]; omega) | (simp only [up2_eq]; omega) | (split <;> omega)) dX4_addAll_64 (by decide) (fun h64_6 => ?_) (fun h64_6 => ?_)
          · skip
            refine r_aload C dX4_addAll_69 rfl ?_
            refine x_len C (t0 := 1) 0 rfl rfl dX4_addAll_71 ?_
            refine r_ifN_ne (a := (hf 4 j)) (tgt := 83) C (by first | omega | (simp [up2, *]; done) | (simp [up2, *]; omega) | (simp only [up2_eq]; omega) | (split <;> omega)) dX4_addAll_72 (by decide) (fun h72_7 => ?_) (fun h72_7 => ?_)
            · skip
              refine r_iload_n C dX4_addAll_83 rfl ?_
              refine r_iconst (v := (nI 0)) C dX4_addAll_84 (by decide) ?_
              refine r_aload_n C dX4_addAll_85 rfl ?_
              refine m_get (v := .ref (ba 0)) C 0 (by decide) qf_X4_15 rfl rfl dX4_addAll_86 ?_
              refine r_iload_n C dX4_addAll_89 rfl ?_
              refine m_rows (i := i) C (by first | omega | (simp [up2, *]; done) | (simp [up2, *]; omega) | (simp only [up2_eq]; omega) | (split <;> omega)) dX4_addAll_90 ?_
              refine m_rlen (i := i) (v := hf 4 i) C (by first | omega | (simp [up2, *]; done) | (simp [up2, *]; omega) | (simp only [up2_eq]; omega) | (split <;> omega)) rfl dX4_addAll_91 ?_
              refine d_S (st := []) hX.1.stb C hE (D_isInN (ba := ba) (ra := ra) (hf := hf) (hq := hq) (kn := kn) (th := (nI 0)) (sm := sm) (a0 := k0) (b0 := 0) (d0 := (hf 4 i)) hX (by first | omega | (simp [up2, *]; done) | (simp [up2, *]; omega) | (simp only [up2_eq]; omega) | (split <;> omega)) (by first | omega | (simp [up2, *]; done) | (simp [up2, *]; omega) | (simp only [up2_eq]; omega) | (split <;> omega)) (by first | omega | (simp [up2, *]; done) | (simp [up2, *]; omega) | (simp only [up2_eq]; omega) | (split <;> omega))) pk_X4_isIn qm_X4_1 rfl rfl (Nat.le_of_ble_eq_true rfl) dX4_addAll_92 ⟨(Nat.le_of_ble_eq_true rfl), (Nat.le_of_ble_eq_true rfl)⟩ ⟨(Nat.le_of_ble_eq_true rfl), (Nat.le_of_ble_eq_true rfl)⟩ ?_
              refine r_w (w' := WM cy ba ra hf hq kn (nI 0) sm ++ (Y ++ [(b_4, .inl (cy 1, hf 4 j, .inl (cutF (fun z => hq (f 1 j) (f 3 j + z)) (hf 4 j))))])) rfl ?_
              refine r_ifN_ne (a := 1) (tgt := 101) C (by first | omega | (simp [up2, *]; done) | (simp [up2, *]; omega) | (simp only [up2_eq]; omega) | (split <;> omega)) dX4_addAll_95 (by decide) (fun h95_8 => ?_) (fun h95_8 => ?_)
              · skip
                refine r_aload_n C dX4_addAll_101 rfl ?_
                refine r_iload_n C dX4_addAll_102 rfl ?_
                refine r_iconst (v := (nI 4294967295)) C dX4_addAll_103 (by decide) ?_
                refine d_Vv (st := []) hX.1.stb C hE (D_changed (ba := ba) (ra := ra) (hf := hf) (hq := hq) (kn := kn) (th := (nI 0)) (sm := sm) (f := f) (w := i) (d0 := 4294967295) hX hC (MG.same (fun _ => rfl) (fun _ => rfl) hG) (by first | omega | (simp [up2, *]; done) | (simp [up2, *]; omega) | (simp only [up2_eq]; omega) | (split <;> omega)) qi.2.2.2.2.2 (by first | omega | (simp [up2, *]; done) | (simp [up2, *]; omega) | (simp only [up2_eq]; omega) | (split <;> omega)) h5M h9a hU) pk_X4_changed qm_X4_74 0 8 rfl rfl wm_0 rfl rfl (Nat.le_of_ble_eq_true rfl) dX4_addAll_104 ⟨(Nat.le_of_ble_eq_true rfl), (Nat.le_of_ble_eq_true rfl)⟩ ⟨(Nat.le_of_ble_eq_true rfl), (Nat.le_of_ble_eq_true rfl)⟩ ?_
                refine r_w (w' := WM cy ba ra (chM f hf i 4294967295) hq kn (nI 0) sm ++ (Y ++ [(b_4, .inl (cy 1, hf 4 j, .inl (cutF (fun z => hq (f 1 j) (f 3 j + z)) (hf 4 j))))])) rfl ?_
                refine r_aload_n C dX4_addAll_107 rfl ?_
                refine r_iload_n C dX4_addAll_108 rfl ?_
                refine r_iload_n C dX4_addAll_109 rfl ?_
                refine r_iconst (v := (nI 0)) C dX4_addAll_110 (by decide) ?_
                refine r_aload C dX4_addAll_111 rfl ?_
                refine e_V (st := []) hX.1.stb C hE (D_lay (ba := ba) (ra := ra) (hf := (chM f hf i 4294967295)) (hq := hq) (kn := kn) (th := (nI 0)) (sm := sm) (f := f) (w := i) (p0 := k0) (o0 := 0) (b0 := b_4) (n0 := (hf 4 j)) (g0 := (cutF (fun z => hq (f 1 j) (f 3 j + z)) (hf 4 j))) (j0 := (Y.length + 0)) hX hC (MG.same (fun _ => rfl) (fun _ => rfl) hG) (by first | omega | (simp [up2, *]; done) | (simp [up2, *]; omega) | (simp only [up2_eq]; omega) | (split <;> omega)) qi.2.2.2.2.2 (show f 3 i + k0 + 0 ≤ (hf 4 (f 1 i)) from (by first | omega | (simp [up2, *]; done) | (simp [up2, *]; omega) | (simp only [up2_eq]; omega) | (split <;> omega))) (show (hf 4 (f 1 i)) ≤ 12 from (by first | omega | (simp [up2, *]; done) | (simp [up2, *]; omega) | (simp only [up2_eq]; omega) | (split <;> omega))) (show (hf 4 (f 1 i)) - 0 + (hf 4 j) ≤ 12 from (by first | omega | (simp [up2, *]; done) | (simp [up2, *]; omega) | (simp only [up2_eq]; omega) | (split <;> omega))) (fun x hx hh => (show 0 ≤ hf 4 x + (hf 4 j) from by have h8 := hM.ho hC (by omega) qi.2.2.2.2.2 hx hh; omega)) ((ya_x 0).trans rfl)) pk_X4_lay qm_X4_88 0 8 rfl rfl wm_0 rfl rfl (Nat.le_of_ble_eq_true rfl) dX4_addAll_113 ⟨(Nat.le_of_ble_eq_true rfl), (Nat.le_of_ble_eq_true rfl)⟩ ⟨(Nat.le_of_ble_eq_true rfl), (Nat.le_of_ble_eq_true rfl)⟩ (fun ra_9 => ?_)
                refine r_w (w' := WM cy ba ra_9 (lyM f (up2 (chM f hf i 4294967295) 4 (f 1 i) ((chM f hf i 4294967295) 4 (f 1 i) - 0 + (hf 4 j))) i (hf 4 j) 0) (upR hq (f 1 i) (layF (hq (f 1 i)) (cutF (fun z => hq (f 1 j) (f 3 j + z)) (hf 4 j)) (f 3 i + k0) (hf 4 j) 0 ((chM f hf i 4294967295) 4 (f 1 i) - 0 + (hf 4 j)))) kn (nI 0) sm ++ (Y ++ [(b_4, .inl (cy 1, hf 4 j, .inl (cutF (fun z => hq (f 1 j) (f 3 j + z)) (hf 4 j))))])) rfl ?_
                refine r_st (st' := []) rfl ?_
                refine r_aload_n C dX4_addAll_116 rfl ?_
                refine m_get (v := .ref (ba 0)) C 0 (by decide) qf_X4_15 rfl rfl dX4_addAll_117 ?_
                refine r_iload_n C dX4_addAll_120 rfl ?_
                refine m_rows (i := i) C (by first | omega | (simp [up2, *]; done) | (simp [up2, *]; omega) | (simp only [up2_eq]; omega) | (split <;> omega)) dX4_addAll_121 ?_
                refine m_rlen (i := i) (v := (lyM f (up2 (chM f hf i 4294967295) 4 (f 1 i) ((chM f hf i 4294967295) 4 (f 1 i) - 0 + (hf 4 j))) i (hf 4 j) 0) 4 i) C (by first | omega | (simp [up2, *]; done) | (simp [up2, *]; omega) | (simp only [up2_eq]; omega) | (split <;> omega)) rfl dX4_addAll_122 ?_
                refine r_pre ?_
                exact r_iret C hr dX4_addAll_123 ⟨_, rfl, rfl⟩ (Nat.le_of_ble_eq_true rfl) (Nat.le_of_ble_eq_true rfl)
              · exact absurd h95_8 (by first | omega | (simp [up2, *]; done) | (simp [up2, *]; omega) | (simp only [up2_eq]; omega) | (split <;> omega))
            · exact absurd h72_7 (by first | omega | (simp [up2, *]; done) | (simp [up2, *]; omega) | (simp only [up2_eq]; omega) | (split <;> omega))
          · exact absurd h64_6 (by first | omega | (simp [up2, *]; done) | (simp [up2, *]; omega) | (simp only [up2_eq]; omega) | (split <;> omega))
        · exact absurd h52_5 (by first | omega | (simp [up2, *]; done) | (simp [up2, *]; omega) | (simp only [up2_eq]; omega) | (split <;> omega))
      · exact absurd h25_3 (by first | omega | (simp [up2, *]; done) | (simp [up2, *]; omega) | (simp only [up2_eq]; omega) | (split <;> omega))
    · exact absurd h12_2 (by first | omega | (simp [up2, *]; done) | (simp [up2, *]; omega) | (simp only [up2_eq]; omega) | (split <;> omega))
theorem dX4_copy_0 : decode cX4_copy 0 = .ok (.aload_n 0, 1) := dqo_42 (kb_of ke_X4_copy 0 rfl)
theorem dX4_copy_1 : decode cX4_copy 1 = .ok (.aload_n 0, 1) := dqo_42 (kb_of ke_X4_copy 1 rfl)
theorem dX4_copy_2 : decode cX4_copy 2 = .ok (.iload_n 1, 1) := dqo_27 (kb_of ke_X4_copy 2 rfl)
theorem dX4_copy_3 : decode cX4_copy 3 = .ok (.invokevirtual 55, 3) := dqo_182 0 55 (kb_of ke_X4_copy 3 rfl) (kb_of ke_X4_copy 4 rfl) (kb_of ke_X4_copy 5 rfl)
theorem dX4_copy_6 : decode cX4_copy 6 = .ok (.ifCond .ne 10, 3) := dqo_154 0 10 (by decide) (kb_of ke_X4_copy 6 rfl) (kb_of ke_X4_copy 7 rfl) (kb_of ke_X4_copy 8 rfl)
theorem dX4_copy_16 : decode cX4_copy 16 = .ok (.iconst 1, 1) := dqo_4 (kb_of ke_X4_copy 16 rfl)
theorem dX4_copy_17 : decode cX4_copy 17 = .ok (.goto 4, 3) := dqo_167 0 4 (by decide) (kb_of ke_X4_copy 17 rfl) (kb_of ke_X4_copy 18 rfl) (kb_of ke_X4_copy 19 rfl)
theorem dX4_copy_21 : decode cX4_copy 21 = .ok (.iconst 0, 1) := dqo_3 (kb_of ke_X4_copy 21 rfl)
theorem dX4_copy_22 : decode cX4_copy 22 = .ok (.iconst 0, 1) := dqo_3 (kb_of ke_X4_copy 22 rfl)
theorem dX4_copy_23 : decode cX4_copy 23 = .ok (.invokevirtual 84, 3) := dqo_182 0 84 (kb_of ke_X4_copy 23 rfl) (kb_of ke_X4_copy 24 rfl) (kb_of ke_X4_copy 25 rfl)
theorem dX4_copy_26 : decode cX4_copy 26 = .ok (.ifCond .eq 5, 3) := dqo_153 0 5 (by decide) (kb_of ke_X4_copy 26 rfl) (kb_of ke_X4_copy 27 rfl) (kb_of ke_X4_copy 28 rfl)
theorem dX4_copy_29 : decode cX4_copy 29 = .ok (.iconst 0, 1) := dqo_3 (kb_of ke_X4_copy 29 rfl)
theorem dX4_copy_30 : decode cX4_copy 30 = .ok (.ireturn, 1) := dqo_172 (kb_of ke_X4_copy 30 rfl)
set_option maxRecDepth 100000 in
set_option maxHeartbeats 4000000 in
theorem D_copy_noW {l : Launch} {D : va_G} {cy : Nat → ClassId} {X : (Nat → Prop) → State → Heap → Prop} {ba ra : Nat → Nat} {hf : Nat → Nat → Nat} {hq : Nat → Nat → Int32} {kn th : Int32} {sm : Int64} {Y : va_W} {f : Nat → Nat → Nat} {r : Nat → Nat → Int32} {x : Int32} {y0 : Int32} (hX : EnvM X cy) (hC : CInv f) (hM : MR f r hf hq) (hno : noW f x) : Cd l D cy X yX4_copy cX4_copy 3 (some .int) (rmk 9 4 48 420) [.ref (ba 9), .int x, .int y0] (WM cy ba ra hf hq kn th sm ++ Y) (some (.int (nI 0))) (WM cy ba ra hf hq kn (nI 1) sm ++ Y) := by
  have hG := hM.1
  have h5M := hM.h5M hC
  have h4M := hC.h4M
  have h9a := hM.h9a hC
  have h6a := hM.h6a
  have hU := hM.hU hC
  refine Cm.of [some (.ref (ba 9)), some (.int x), some (.int y0)] pn_X4 rfl (Nat.le_of_ble_eq_true rfl) ?_
  intro p e s m args below meth c A C hE hr hnt hn
  refine r_aload_n C dX4_copy_0 rfl ?_
  refine r_aload_n C dX4_copy_1 rfl ?_
  refine r_iload_n C dX4_copy_2 rfl ?_
  refine d_V (st := [.ref (ba 9)]) hX.1.stb C hE (D_isNoWhere1 (ba := ba) (ra := ra) (hf := hf) (hq := hq) (kn := kn) (th := th) (sm := sm) (Y := Y) (f := f) (x := (x)) hX h5M h4M hno) pk_X4_isNoWhere qm_X4_55 0 8 rfl rfl wm_0 rfl rfl (Nat.le_of_ble_eq_true rfl) dX4_copy_3 ⟨(Nat.le_of_ble_eq_true rfl), (Nat.le_of_ble_eq_true rfl)⟩ ⟨(Nat.le_of_ble_eq_true rfl), (Nat.le_of_ble_eq_true rfl)⟩ ?_
  refine r_w (w' := WM cy ba ra hf hq kn th sm ++ Y) rfl ?_
  refine r_ifN_ne (a := 1) (tgt := 16) C (by first | omega | (simp [up2, *]; done) | (simp [up2, *]; omega) | (simp only [up2_eq]; omega) | (split <;> omega)) dX4_copy_6 (by decide) (fun h6_1 => ?_) (fun h6_1 => ?_)
  · skip
    refine r_iconst (v := (nI 1)) C dX4_copy_16 (by decide) ?_
    refine r_goto (tgt := 21) C dX4_copy_17 (by decide) ?_
    refine r_iconst (v := (nI 0)) C dX4_copy_21 (by decide) ?_
    refine r_iconst (v := (nI 0)) C dX4_copy_22 (by decide) ?_
    refine d_V (st := []) hX.1.stb C hE (D_fails1 (ba := ba) (ra := ra) (hf := hf) (hq := hq) (kn := kn) (th := th) (sm := sm) (Y := Y) (b0 := 0) (d0 := 0) hX ) pk_X4_fails qm_X4_84 0 8 rfl rfl wm_0 rfl rfl (Nat.le_of_ble_eq_true rfl) dX4_copy_23 ⟨(Nat.le_of_ble_eq_true rfl), (Nat.le_of_ble_eq_true rfl)⟩ ⟨(Nat.le_of_ble_eq_true rfl), (Nat.le_of_ble_eq_true rfl)⟩ ?_
    refine r_w (w' := WM cy ba ra hf hq kn (nI 1) sm ++ Y) rfl ?_
    refine r_ifN_eq (a := 1) (tgt := 31) C (by first | omega | (simp [up2, *]; done) | (simp [up2, *]; omega) | (simp only [up2_eq]; omega) | (split <;> omega)) dX4_copy_26 (by decide) (fun h26_2 => ?_) (fun h26_2 => ?_)
    · exact absurd h26_2 (by first | omega | (simp [up2, *]; done) | (simp [up2, *]; omega) | (simp only [up2_eq]; omega) | (split <;> omega))
    · skip
      refine r_iconst (v := (nI 0)) C dX4_copy_29 (by decide) ?_
      exact r_iret C hr dX4_copy_30 ⟨rfl, rfl⟩ (Nat.le_of_ble_eq_true rfl) (Nat.le_of_ble_eq_true rfl)
  · exact absurd h6_1 (by first | omega | (simp [up2, *]; done) | (simp [up2, *]; omega) | (simp only [up2_eq]; omega) | (split <;> omega))
theorem dX4_copy_9 : decode cX4_copy 9 = .ok (.iload_n 2, 1) := dqo_28 (kb_of ke_X4_copy 9 rfl)
theorem dX4_copy_10 : decode cX4_copy 10 = .ok (.invokestatic 119, 3) := dqo_184 0 119 (kb_of ke_X4_copy 10 rfl) (kb_of ke_X4_copy 11 rfl) (kb_of ke_X4_copy 12 rfl)
theorem dX4_copy_13 : decode cX4_copy 13 = .ok (.ifCond .eq 7, 3) := dqo_153 0 7 (by decide) (kb_of ke_X4_copy 13 rfl) (kb_of ke_X4_copy 14 rfl) (kb_of ke_X4_copy 15 rfl)
set_option maxRecDepth 100000 in
set_option maxHeartbeats 4000000 in
theorem D_copy_noR {l : Launch} {D : va_G} {cy : Nat → ClassId} {X : (Nat → Prop) → State → Heap → Prop} {ba ra : Nat → Nat} {hf : Nat → Nat → Nat} {hq : Nat → Nat → Int32} {kn th : Int32} {sm : Int64} {Y : va_W} {f : Nat → Nat → Nat} {r : Nat → Nat → Int32} {w : Nat} {x : Int32} (hX : EnvM X cy) (hC : CInv f) (hM : MR f r hf hq) (hw : w < 8) (h5w : f 5 w = 1) (hno : ¬ (0 ≤ x ∧ x < nI 4)) : Cd l D cy X yX4_copy cX4_copy 3 (some .int) (rmk 9 4 48 420) [.ref (ba 9), .int (nI w), .int x] (WM cy ba ra hf hq kn th sm ++ Y) (some (.int (nI 0))) (WM cy ba ra hf hq kn (nI 1) sm ++ Y) := by
  have hG := hM.1
  have h5M := hM.h5M hC
  have h4M := hC.h4M
  have h9a := hM.h9a hC
  have h6a := hM.h6a
  have hU := hM.hU hC
  have qw := hM.wh hC hw h5w
  refine Cm.of [some (.ref (ba 9)), some (.int (nI w)), some (.int x)] pn_X4 rfl (Nat.le_of_ble_eq_true rfl) ?_
  intro p e s m args below meth c A C hE hr hnt hn
  refine r_aload_n C dX4_copy_0 rfl ?_
  refine r_aload_n C dX4_copy_1 rfl ?_
  refine r_iload_n C dX4_copy_2 rfl ?_
  refine d_V (st := [.ref (ba 9)]) hX.1.stb C hE (D_isNoWhere0 (ba := ba) (ra := ra) (hf := hf) (hq := hq) (kn := kn) (th := th) (sm := sm) (Y := Y) (w := w) hX (by first | omega | (simp [up2, *]; done) | (simp [up2, *]; omega) | (simp only [up2_eq]; omega) | (split <;> omega)) (by first | omega | (simp [up2, *]; done) | (simp [up2, *]; omega) | (simp only [up2_eq]; omega) | (split <;> omega))) pk_X4_isNoWhere qm_X4_55 0 8 rfl rfl wm_0 rfl rfl (Nat.le_of_ble_eq_true rfl) dX4_copy_3 ⟨(Nat.le_of_ble_eq_true rfl), (Nat.le_of_ble_eq_true rfl)⟩ ⟨(Nat.le_of_ble_eq_true rfl), (Nat.le_of_ble_eq_true rfl)⟩ ?_
  refine r_w (w' := WM cy ba ra hf hq kn th sm ++ Y) rfl ?_
  refine r_ifN_ne (a := 0) (tgt := 16) C (by first | omega | (simp [up2, *]; done) | (simp [up2, *]; omega) | (simp only [up2_eq]; omega) | (split <;> omega)) dX4_copy_6 (by decide) (fun h6_1 => ?_) (fun h6_1 => ?_)
  · exact absurd h6_1 (by first | omega | (simp [up2, *]; done) | (simp [up2, *]; omega) | (simp only [up2_eq]; omega) | (split <;> omega))
  · skip
    refine r_iload_n C dX4_copy_9 rfl ?_
    refine d_S (st := [.ref (ba 9)]) hX.1.stb C hE (D_isNoRow1 (ba := ba) (ra := ra) (hf := hf) (hq := hq) (kn := kn) (th := th) (sm := sm) (Y := Y) (x := (x)) hX hno) pk_X4_isNoRow qm_X4_119 rfl rfl (Nat.le_of_ble_eq_true rfl) dX4_copy_10 ⟨(Nat.le_of_ble_eq_true rfl), (Nat.le_of_ble_eq_true rfl)⟩ ⟨(Nat.le_of_ble_eq_true rfl), (Nat.le_of_ble_eq_true rfl)⟩ ?_
    refine r_w (w' := WM cy ba ra hf hq kn th sm ++ Y) rfl ?_
    refine r_ifN_eq (a := 1) (tgt := 20) C (by first | omega | (simp [up2, *]; done) | (simp [up2, *]; omega) | (simp only [up2_eq]; omega) | (split <;> omega)) dX4_copy_13 (by decide) (fun h13_2 => ?_) (fun h13_2 => ?_)
    · exact absurd h13_2 (by first | omega | (simp [up2, *]; done) | (simp [up2, *]; omega) | (simp only [up2_eq]; omega) | (split <;> omega))
    · skip
      refine r_iconst (v := (nI 1)) C dX4_copy_16 (by decide) ?_
      refine r_goto (tgt := 21) C dX4_copy_17 (by decide) ?_
      refine r_iconst (v := (nI 0)) C dX4_copy_21 (by decide) ?_
      refine r_iconst (v := (nI 0)) C dX4_copy_22 (by decide) ?_
      refine d_V (st := []) hX.1.stb C hE (D_fails1 (ba := ba) (ra := ra) (hf := hf) (hq := hq) (kn := kn) (th := th) (sm := sm) (Y := Y) (b0 := 0) (d0 := 0) hX ) pk_X4_fails qm_X4_84 0 8 rfl rfl wm_0 rfl rfl (Nat.le_of_ble_eq_true rfl) dX4_copy_23 ⟨(Nat.le_of_ble_eq_true rfl), (Nat.le_of_ble_eq_true rfl)⟩ ⟨(Nat.le_of_ble_eq_true rfl), (Nat.le_of_ble_eq_true rfl)⟩ ?_
      refine r_w (w' := WM cy ba ra hf hq kn (nI 1) sm ++ Y) rfl ?_
      refine r_ifN_eq (a := 1) (tgt := 31) C (by first | omega | (simp [up2, *]; done) | (simp [up2, *]; omega) | (simp only [up2_eq]; omega) | (split <;> omega)) dX4_copy_26 (by decide) (fun h26_3 => ?_) (fun h26_3 => ?_)
      · exact absurd h26_3 (by first | omega | (simp [up2, *]; done) | (simp [up2, *]; omega) | (simp only [up2_eq]; omega) | (split <;> omega))
      · skip
        refine r_iconst (v := (nI 0)) C dX4_copy_29 (by decide) ?_
        exact r_iret C hr dX4_copy_30 ⟨rfl, rfl⟩ (Nat.le_of_ble_eq_true rfl) (Nat.le_of_ble_eq_true rfl)
theorem pk_X4_become : PkV RX4 yX4_become cX4_become 3 none 2 := ⟨⟨qi_X4_become, qs_X4_become, qz_X4, qc_X4_become⟩, rfl, mh_X4.1, mh_X4.2, pd_23⟩
theorem dX4_copy_20 : decode cX4_copy 20 = .ok (.iconst 0, 1) := dqo_3 (kb_of ke_X4_copy 20 rfl)
theorem dX4_copy_31 : decode cX4_copy 31 = .ok (.aload_n 0, 1) := dqo_42 (kb_of ke_X4_copy 31 rfl)
theorem dX4_copy_32 : decode cX4_copy 32 = .ok (.iload_n 2, 1) := dqo_28 (kb_of ke_X4_copy 32 rfl)
theorem dX4_copy_33 : decode cX4_copy 33 = .ok (.aload_n 0, 1) := dqo_42 (kb_of ke_X4_copy 33 rfl)
theorem dX4_copy_34 : decode cX4_copy 34 = .ok (.iload_n 1, 1) := dqo_27 (kb_of ke_X4_copy 34 rfl)
theorem dX4_copy_35 : decode cX4_copy 35 = .ok (.invokevirtual 95, 3) := dqo_182 0 95 (kb_of ke_X4_copy 35 rfl) (kb_of ke_X4_copy 36 rfl) (kb_of ke_X4_copy 37 rfl)
theorem dX4_copy_38 : decode cX4_copy 38 = .ok (.invokevirtual 130, 3) := dqo_182 0 130 (kb_of ke_X4_copy 38 rfl) (kb_of ke_X4_copy 39 rfl) (kb_of ke_X4_copy 40 rfl)
theorem dX4_copy_41 : decode cX4_copy 41 = .ok (.aload_n 0, 1) := dqo_42 (kb_of ke_X4_copy 41 rfl)
theorem dX4_copy_42 : decode cX4_copy 42 = .ok (.getfield 15, 3) := dqo_180 0 15 (kb_of ke_X4_copy 42 rfl) (kb_of ke_X4_copy 43 rfl) (kb_of ke_X4_copy 44 rfl)
theorem dX4_copy_45 : decode cX4_copy 45 = .ok (.iload_n 2, 1) := dqo_28 (kb_of ke_X4_copy 45 rfl)
theorem dX4_copy_46 : decode cX4_copy 46 = .ok (.aaload, 1) := dqo_50 (kb_of ke_X4_copy 46 rfl)
theorem dX4_copy_47 : decode cX4_copy 47 = .ok (.arraylength, 1) := dqo_190 (kb_of ke_X4_copy 47 rfl)
theorem dX4_copy_48 : decode cX4_copy 48 = .ok (.ireturn, 1) := dqo_172 (kb_of ke_X4_copy 48 rfl)
set_option maxRecDepth 100000 in
set_option maxHeartbeats 4000000 in
theorem D_copy_ok {l : Launch} {D : va_G} {cy : Nat → ClassId} {X : (Nat → Prop) → State → Heap → Prop} {ba ra : Nat → Nat} {hf : Nat → Nat → Nat} {hq : Nat → Nat → Int32} {kn th : Int32} {sm : Int64} {Y : va_W} {f : Nat → Nat → Nat} {r : Nat → Nat → Int32} {w : Nat} {i : Nat} (hX : EnvM X cy) (hC : CInv f) (hM : MR f r hf hq) (hw : w < 8) (h5w : f 5 w = 1) (hi4 : i < 4) : Cm l D cy X yX4_copy cX4_copy 3 (some .int) (rmk 9 4 48 420) [.ref (ba 9), .int (nI w), .int (nI i)] (WM cy ba ra hf hq kn th sm ++ Y) (fun v1 w1 => ∃ ra9 : Nat → Nat, v1 = some (.int (nI (hf 4 w))) ∧ w1 = WM cy ba ra9 (up2 (chM f hf i 4294967295) 4 i (hf 4 w)) (upR hq i (cutF (fun z => hq (f 1 w) (f 3 w + z)) (hf 4 w))) kn (nI 0) sm ++ Y) (fun _ => False) := by
  have hG := hM.1
  have h5M := hM.h5M hC
  have h4M := hC.h4M
  have h9a := hM.h9a hC
  have h6a := hM.h6a
  have hU := hM.hU hC
  have qw := hM.wh hC hw h5w
  have qi := hC.rw hi4
  have pi := (hM.2.1 i hi4).1
  have ei : hf 4 (f 1 i) = hf 4 i := by rw [qi.2.1]
  have wi := hM.wh hC (w := i) (by omega) qi.2.2.2.2.2
  refine Cm.of [some (.ref (ba 9)), some (.int (nI w)), some (.int (nI i))] pn_X4 rfl (Nat.le_of_ble_eq_true rfl) ?_
  intro p e s m args below meth c A C hE hr hnt hn
  refine r_aload_n C dX4_copy_0 rfl ?_
  refine r_aload_n C dX4_copy_1 rfl ?_
  refine r_iload_n C dX4_copy_2 rfl ?_
  refine d_V (st := [.ref (ba 9)]) hX.1.stb C hE (D_isNoWhere0 (ba := ba) (ra := ra) (hf := hf) (hq := hq) (kn := kn) (th := th) (sm := sm) (Y := Y) (w := w) hX (by first | omega | (simp [up2, *]; done) | (simp [up2, *]; omega) | (simp only [up2_eq]; omega) | (split <;> omega)) (by first | omega | (simp [up2, *]; done) | (simp [up2, *]; omega) | (simp only [up2_eq]; omega) | (split <;> omega))) pk_X4_isNoWhere qm_X4_55 0 8 rfl rfl wm_0 rfl rfl (Nat.le_of_ble_eq_true rfl) dX4_copy_3 ⟨(Nat.le_of_ble_eq_true rfl), (Nat.le_of_ble_eq_true rfl)⟩ ⟨(Nat.le_of_ble_eq_true rfl), (Nat.le_of_ble_eq_true rfl)⟩ ?_
  refine r_w (w' := WM cy ba ra hf hq kn th sm ++ Y) rfl ?_
  refine r_ifN_ne (a := 0) (tgt := 16) C (by first | omega | (simp [up2, *]; done) | (simp [up2, *]; omega) | (simp only [up2_eq]; omega) | (split <;> omega)) dX4_copy_6 (by decide) (fun h6_1 => ?_) (fun h6_1 => ?_)
  · exact absurd h6_1 (by first | omega | (simp [up2, *]; done) | (simp [up2, *]; omega) | (simp only [up2_eq]; omega) | (split <;> omega))
  · skip
    refine r_iload_n C dX4_copy_9 rfl ?_
    refine d_S (st := [.ref (ba 9)]) hX.1.stb C hE (D_isNoRow0 (ba := ba) (ra := ra) (hf := hf) (hq := hq) (kn := kn) (th := th) (sm := sm) (Y := Y) (i := i) hX (by first | omega | (simp [up2, *]; done) | (simp [up2, *]; omega) | (simp only [up2_eq]; omega) | (split <;> omega))) pk_X4_isNoRow qm_X4_119 rfl rfl (Nat.le_of_ble_eq_true rfl) dX4_copy_10 ⟨(Nat.le_of_ble_eq_true rfl), (Nat.le_of_ble_eq_true rfl)⟩ ⟨(Nat.le_of_ble_eq_true rfl), (Nat.le_of_ble_eq_true rfl)⟩ ?_
    refine r_w (w' := WM cy ba ra hf hq kn th sm ++ Y) rfl ?_
    refine r_ifN_eq (a := 0) (tgt := 20) C (by first | omega | (simp [up2, *]; done) | (simp [up2, *]; omega) | (simp only [up2_eq]; omega) | (split <;> omega)) dX4_copy_13 (by decide) (fun h13_2 => ?_) (fun h13_2 => ?_)
    · skip
      refine r_iconst (v := (nI 0)) C dX4_copy_20 (by decide) ?_
      refine r_iconst (v := (nI 0)) C dX4_copy_21 (by decide) ?_
      refine r_iconst (v := (nI 0)) C dX4_copy_22 (by decide) ?_
      refine d_V (st := []) hX.1.stb C hE (D_fails0 (ba := ba) (ra := ra) (hf := hf) (hq := hq) (kn := kn) (th := th) (sm := sm) (Y := Y)  hX ) pk_X4_fails qm_X4_84 0 8 rfl rfl wm_0 rfl rfl (Nat.le_of_ble_eq_true rfl) dX4_copy_23 ⟨(Nat.le_of_ble_eq_true rfl), (Nat.le_of_ble_eq_true rfl)⟩ ⟨(Nat.le_of_ble_eq_true rfl), (Nat.le_of_ble_eq_true rfl)⟩ ?_
      refine r_w (w' := WM cy ba ra hf hq kn (nI 0) sm ++ Y) rfl ?_
      refine r_ifN_eq (a := 0) (tgt := 31) C (by first | omega | (simp [up2, *]; done) | (simp [up2, *]; omega) | (simp only [up2_eq]; omega) | (split <;> omega)) dX4_copy_26 (by decide) (fun h26_3 => ?_) (fun h26_3 => ?_)
      · skip
        refine r_aload_n C dX4_copy_31 rfl ?_
        refine r_iload_n C dX4_copy_32 rfl ?_
        refine r_aload_n C dX4_copy_33 rfl ?_
        refine r_iload_n C dX4_copy_34 rfl ?_
        refine e_V (st := [.int (nI i), .ref (ba 9)]) hX.1.stb C hE (D_items (ba := ba) (ra := ra) (hf := hf) (hq := hq) (kn := kn) (th := (nI 0)) (sm := sm) (Y := Y) (f := f) (w := w) hX hC (MG.same (fun _ => rfl) (fun _ => rfl) hG) (by first | omega | (simp [up2, *]; done) | (simp [up2, *]; omega) | (simp only [up2_eq]; omega) | (split <;> omega)) (by first | omega | (simp [up2, *]; done) | (simp [up2, *]; omega) | (simp only [up2_eq]; omega) | (split <;> omega)) (by first | omega | (simp [up2, *]; done) | (simp [up2, *]; omega) | (simp only [up2_eq]; omega) | (split <;> omega)) (by first | omega | (simp [up2, *]; done) | (simp [up2, *]; omega) | (simp only [up2_eq]; omega) | (split <;> omega))) pk_X4_items qm_X4_95 0 8 rfl rfl wm_0 rfl rfl (Nat.le_of_ble_eq_true rfl) dX4_copy_35 ⟨(Nat.le_of_ble_eq_true rfl), (Nat.le_of_ble_eq_true rfl)⟩ ⟨(Nat.le_of_ble_eq_true rfl), (Nat.le_of_ble_eq_true rfl)⟩ (fun b_4 => ?_)
        refine r_w (w' := WM cy ba ra hf hq kn (nI 0) sm ++ (Y ++ [(b_4, .inl (cy 1, hf 4 w, .inl (cutF (fun z => hq (f 1 w) (f 3 w + z)) (hf 4 w))))])) (by simp only [List.append_assoc, List.cons_append, List.nil_append]) ?_
        refine r_st (st' := [.ref b_4, .int (nI i), .ref (ba 9)]) rfl ?_
        refine d_Vv (st := []) hX.1.stb C hE (D_become (ba := ba) (ra := ra) (hf := hf) (hq := hq) (kn := kn) (th := (nI 0)) (sm := sm) (Y := Y) (f := f) (i := i) (b0 := b_4) (n0 := (hf 4 w)) (g0 := (cutF (fun z => hq (f 1 w) (f 3 w + z)) (hf 4 w))) hX hC (MG.same (fun _ => rfl) (fun _ => rfl) hG) (by first | omega | (simp [up2, *]; done) | (simp [up2, *]; omega) | (simp only [up2_eq]; omega) | (split <;> omega)) h5M h9a hU) pk_X4_become qm_X4_130 0 8 rfl rfl wm_0 rfl rfl (Nat.le_of_ble_eq_true rfl) dX4_copy_38 ⟨(Nat.le_of_ble_eq_true rfl), (Nat.le_of_ble_eq_true rfl)⟩ ⟨(Nat.le_of_ble_eq_true rfl), (Nat.le_of_ble_eq_true rfl)⟩ ?_
        refine r_w (w' := WM cy ba (upR ra i b_4) (up2 (chM f hf i 4294967295) 4 i (hf 4 w)) (upR hq i (cutF (fun z => hq (f 1 w) (f 3 w + z)) (hf 4 w))) kn (nI 0) sm ++ (Y ++ [(ra i, .inl (cy 1, hf 4 i, .inl (hq i)))])) rfl ?_
        refine r_aload_n C dX4_copy_41 rfl ?_
        refine m_get (v := .ref (ba 0)) C 0 (by decide) qf_X4_15 rfl rfl dX4_copy_42 ?_
        refine r_iload_n C dX4_copy_45 rfl ?_
        refine m_rows (i := i) C (by first | omega | (simp [up2, *]; done) | (simp [up2, *]; omega) | (simp only [up2_eq]; omega) | (split <;> omega)) dX4_copy_46 ?_
        refine m_rlen (i := i) (v := hf 4 w) C (by first | omega | (simp [up2, *]; done) | (simp [up2, *]; omega) | (simp only [up2_eq]; omega) | (split <;> omega)) (show (up2 (chM f hf i 4294967295) 4 i (hf 4 w)) 4 i = hf 4 w by simp [up2, *]) dX4_copy_47 ?_
        refine r_pre ?_
        exact r_iret C hr dX4_copy_48 ⟨_, rfl, rfl⟩ (Nat.le_of_ble_eq_true rfl) (Nat.le_of_ble_eq_true rfl)
      · exact absurd h26_3 (by first | omega | (simp [up2, *]; done) | (simp [up2, *]; omega) | (simp only [up2_eq]; omega) | (split <;> omega))
    · exact absurd h13_2 (by first | omega | (simp [up2, *]; done) | (simp [up2, *]; omega) | (simp only [up2_eq]; omega) | (split <;> omega))
