/-! CONTRACTS of the model: its calls on wheres -/
theorem dX4_size_0 : decode cX4_size 0 = .ok (.aload_n 0, 1) := dqo_42 (kb_of ke_X4_size 0 rfl)
theorem dX4_size_1 : decode cX4_size 1 = .ok (.aload_n 0, 1) := dqo_42 (kb_of ke_X4_size 1 rfl)
theorem dX4_size_2 : decode cX4_size 2 = .ok (.iload_n 1, 1) := dqo_27 (kb_of ke_X4_size 2 rfl)
theorem dX4_size_3 : decode cX4_size 3 = .ok (.invokevirtual 55, 3) := dqo_182 0 55 (kb_of ke_X4_size 3 rfl) (kb_of ke_X4_size 4 rfl) (kb_of ke_X4_size 5 rfl)
theorem dX4_size_6 : decode cX4_size 6 = .ok (.iconst 0, 1) := dqo_3 (kb_of ke_X4_size 6 rfl)
theorem dX4_size_7 : decode cX4_size 7 = .ok (.iconst 0, 1) := dqo_3 (kb_of ke_X4_size 7 rfl)
theorem dX4_size_8 : decode cX4_size 8 = .ok (.invokevirtual 84, 3) := dqo_182 0 84 (kb_of ke_X4_size 8 rfl) (kb_of ke_X4_size 9 rfl) (kb_of ke_X4_size 10 rfl)
theorem dX4_size_11 : decode cX4_size 11 = .ok (.ifCond .eq 7, 3) := dqo_153 0 7 (by decide) (kb_of ke_X4_size 11 rfl) (kb_of ke_X4_size 12 rfl) (kb_of ke_X4_size 13 rfl)
theorem dX4_size_14 : decode cX4_size 14 = .ok (.iconst 0, 1) := dqo_3 (kb_of ke_X4_size 14 rfl)
theorem dX4_size_15 : decode cX4_size 15 = .ok (.goto 8, 3) := dqo_167 0 8 (by decide) (kb_of ke_X4_size 15 rfl) (kb_of ke_X4_size 16 rfl) (kb_of ke_X4_size 17 rfl)
theorem dX4_size_23 : decode cX4_size 23 = .ok (.ireturn, 1) := dqo_172 (kb_of ke_X4_size 23 rfl)
set_option maxRecDepth 100000 in
set_option maxHeartbeats 4000000 in
theorem D_size_noW {l : Launch} {D : va_G} {cy : Nat → ClassId} {X : (Nat → Prop) → State → Heap → Prop} {ba ra : Nat → Nat} {hf : Nat → Nat → Nat} {hq : Nat → Nat → Int32} {kn th : Int32} {sm : Int64} {Y : va_W} {f : Nat → Nat → Nat} {r : Nat → Nat → Int32} {x : Int32} (hX : EnvM X cy) (hC : CInv f) (hM : MR f r hf hq) (hno : noW f x) : Cd l D cy X yX4_size cX4_size 2 (some .int) (rmk 9 4 48 420) [.ref (ba 9), .int x] (WM cy ba ra hf hq kn th sm ++ Y) (some (.int (nI 0))) (WM cy ba ra hf hq kn (nI 1) sm ++ Y) := by
  have hG := hM.1
  have h5M := hM.h5M hC
  have h4M := hC.h4M
  have h9a := hM.h9a hC
  have h6a := hM.h6a
  have hU := hM.hU hC
  refine Cm.of [some (.ref (ba 9)), some (.int x)] pn_X4 rfl (Nat.le_of_ble_eq_true rfl) ?_
  intro p e s m args below meth c A C hE hr hnt hn
  refine r_aload_n C dX4_size_0 rfl ?_
  refine r_aload_n C dX4_size_1 rfl ?_
  refine r_iload_n C dX4_size_2 rfl ?_
  refine d_V (st := [.ref (ba 9)]) hX.1.stb C hE (D_isNoWhere1 (ba := ba) (ra := ra) (hf := hf) (hq := hq) (kn := kn) (th := th) (sm := sm) (Y := Y) (f := f) (x := (x)) hX h5M h4M hno) pk_X4_isNoWhere qm_X4_55 0 8 rfl rfl wm_0 rfl rfl (Nat.le_of_ble_eq_true rfl) dX4_size_3 ⟨(Nat.le_of_ble_eq_true rfl), (Nat.le_of_ble_eq_true rfl)⟩ ⟨(Nat.le_of_ble_eq_true rfl), (Nat.le_of_ble_eq_true rfl)⟩ ?_
  refine r_w (w' := WM cy ba ra hf hq kn th sm ++ Y) rfl ?_
  refine r_iconst (v := (nI 0)) C dX4_size_6 (by decide) ?_
  refine r_iconst (v := (nI 0)) C dX4_size_7 (by decide) ?_
  refine d_V (st := []) hX.1.stb C hE (D_fails1 (ba := ba) (ra := ra) (hf := hf) (hq := hq) (kn := kn) (th := th) (sm := sm) (Y := Y) (b0 := 0) (d0 := 0) hX ) pk_X4_fails qm_X4_84 0 8 rfl rfl wm_0 rfl rfl (Nat.le_of_ble_eq_true rfl) dX4_size_8 ⟨(Nat.le_of_ble_eq_true rfl), (Nat.le_of_ble_eq_true rfl)⟩ ⟨(Nat.le_of_ble_eq_true rfl), (Nat.le_of_ble_eq_true rfl)⟩ ?_
  refine r_w (w' := WM cy ba ra hf hq kn (nI 1) sm ++ Y) rfl ?_
  refine r_ifN_eq (a := 1) (tgt := 18) C (by first | omega | (simp [up2, *]; done) | (simp [up2, *]; omega) | (simp only [up2_eq]; omega) | (split <;> omega)) dX4_size_11 (by decide) (fun h11_1 => ?_) (fun h11_1 => ?_)
  · exact absurd h11_1 (by first | omega | (simp [up2, *]; done) | (simp [up2, *]; omega) | (simp only [up2_eq]; omega) | (split <;> omega))
  · skip
    refine r_iconst (v := (nI 0)) C dX4_size_14 (by decide) ?_
    refine r_goto (tgt := 23) C dX4_size_15 (by decide) ?_
    exact r_iret C hr dX4_size_23 ⟨rfl, rfl⟩ (Nat.le_of_ble_eq_true rfl) (Nat.le_of_ble_eq_true rfl)
theorem dX4_size_18 : decode cX4_size 18 = .ok (.aload_n 0, 1) := dqo_42 (kb_of ke_X4_size 18 rfl)
theorem dX4_size_19 : decode cX4_size 19 = .ok (.iload_n 1, 1) := dqo_27 (kb_of ke_X4_size 19 rfl)
theorem dX4_size_20 : decode cX4_size 20 = .ok (.invokevirtual 59, 3) := dqo_182 0 59 (kb_of ke_X4_size 20 rfl) (kb_of ke_X4_size 21 rfl) (kb_of ke_X4_size 22 rfl)
set_option maxRecDepth 100000 in
set_option maxHeartbeats 4000000 in
theorem D_size_ok {l : Launch} {D : va_G} {cy : Nat → ClassId} {X : (Nat → Prop) → State → Heap → Prop} {ba ra : Nat → Nat} {hf : Nat → Nat → Nat} {hq : Nat → Nat → Int32} {kn th : Int32} {sm : Int64} {Y : va_W} {f : Nat → Nat → Nat} {r : Nat → Nat → Int32} {w : Nat} (hX : EnvM X cy) (hC : CInv f) (hM : MR f r hf hq) (hw : w < 8) (h5w : f 5 w = 1) : Cd l D cy X yX4_size cX4_size 2 (some .int) (rmk 9 4 48 420) [.ref (ba 9), .int (nI w)] (WM cy ba ra hf hq kn th sm ++ Y) (some (.int (nI (hf 4 w)))) (WM cy ba ra hf hq kn (nI 0) sm ++ Y) := by
  have hG := hM.1
  have h5M := hM.h5M hC
  have h4M := hC.h4M
  have h9a := hM.h9a hC
  have h6a := hM.h6a
  have hU := hM.hU hC
  have qw := hM.wh hC hw h5w
  refine Cm.of [some (.ref (ba 9)), some (.int (nI w))] pn_X4 rfl (Nat.le_of_ble_eq_true rfl) ?_
  intro p e s m args below meth c A C hE hr hnt hn
  refine r_aload_n C dX4_size_0 rfl ?_
  refine r_aload_n C dX4_size_1 rfl ?_
  refine r_iload_n C dX4_size_2 rfl ?_
  refine d_V (st := [.ref (ba 9)]) hX.1.stb C hE (D_isNoWhere0 (ba := ba) (ra := ra) (hf := hf) (hq := hq) (kn := kn) (th := th) (sm := sm) (Y := Y) (w := w) hX (by first | omega | (simp [up2, *]; done) | (simp [up2, *]; omega) | (simp only [up2_eq]; omega) | (split <;> omega)) (by first | omega | (simp [up2, *]; done) | (simp [up2, *]; omega) | (simp only [up2_eq]; omega) | (split <;> omega))) pk_X4_isNoWhere qm_X4_55 0 8 rfl rfl wm_0 rfl rfl (Nat.le_of_ble_eq_true rfl) dX4_size_3 ⟨(Nat.le_of_ble_eq_true rfl), (Nat.le_of_ble_eq_true rfl)⟩ ⟨(Nat.le_of_ble_eq_true rfl), (Nat.le_of_ble_eq_true rfl)⟩ ?_
  refine r_w (w' := WM cy ba ra hf hq kn th sm ++ Y) rfl ?_
  refine r_iconst (v := (nI 0)) C dX4_size_6 (by decide) ?_
  refine r_iconst (v := (nI 0)) C dX4_size_7 (by decide) ?_
  refine d_V (st := []) hX.1.stb C hE (D_fails0 (ba := ba) (ra := ra) (hf := hf) (hq := hq) (kn := kn) (th := th) (sm := sm) (Y := Y)  hX ) pk_X4_fails qm_X4_84 0 8 rfl rfl wm_0 rfl rfl (Nat.le_of_ble_eq_true rfl) dX4_size_8 ⟨(Nat.le_of_ble_eq_true rfl), (Nat.le_of_ble_eq_true rfl)⟩ ⟨(Nat.le_of_ble_eq_true rfl), (Nat.le_of_ble_eq_true rfl)⟩ ?_
  refine r_w (w' := WM cy ba ra hf hq kn (nI 0) sm ++ Y) rfl ?_
  refine r_ifN_eq (a := 0) (tgt := 18) C (by first | omega | (simp [up2, *]; done) | (simp [up2, *]; omega) | (simp only [up2_eq]; omega) | (split <;> omega)) dX4_size_11 (by decide) (fun h11_1 => ?_) (fun h11_1 => ?_)
  · skip
    refine r_aload_n C dX4_size_18 rfl ?_
    refine r_iload_n C dX4_size_19 rfl ?_
    refine d_V (st := []) hX.1.stb C hE (D_sizeOf (ba := ba) (ra := ra) (hf := hf) (hq := hq) (kn := kn) (th := (nI 0)) (sm := sm) (Y := Y) (w := w) hX (by first | omega | (simp [up2, *]; done) | (simp [up2, *]; omega) | (simp only [up2_eq]; omega) | (split <;> omega))) pk_X4_sizeOf qm_X4_59 0 8 rfl rfl wm_0 rfl rfl (Nat.le_of_ble_eq_true rfl) dX4_size_20 ⟨(Nat.le_of_ble_eq_true rfl), (Nat.le_of_ble_eq_true rfl)⟩ ⟨(Nat.le_of_ble_eq_true rfl), (Nat.le_of_ble_eq_true rfl)⟩ ?_
    refine r_w (w' := WM cy ba ra hf hq kn (nI 0) sm ++ Y) rfl ?_
    exact r_iret C hr dX4_size_23 ⟨rfl, rfl⟩ (Nat.le_of_ble_eq_true rfl) (Nat.le_of_ble_eq_true rfl)
  · exact absurd h11_1 (by first | omega | (simp [up2, *]; done) | (simp [up2, *]; omega) | (simp only [up2_eq]; omega) | (split <;> omega))
theorem dX4_rotate_0 : decode cX4_rotate 0 = .ok (.aload_n 0, 1) := dqo_42 (kb_X4_rotate_0 0 rfl)
theorem dX4_rotate_1 : decode cX4_rotate 1 = .ok (.aload_n 0, 1) := dqo_42 (kb_X4_rotate_0 1 rfl)
theorem dX4_rotate_2 : decode cX4_rotate 2 = .ok (.iload_n 1, 1) := dqo_27 (kb_X4_rotate_0 2 rfl)
theorem dX4_rotate_3 : decode cX4_rotate 3 = .ok (.invokevirtual 55, 3) := dqo_182 0 55 (kb_X4_rotate_0 3 rfl) (kb_X4_rotate_0 4 rfl) (kb_X4_rotate_0 5 rfl)
theorem dX4_rotate_6 : decode cX4_rotate 6 = .ok (.iload_n 2, 1) := dqo_28 (kb_X4_rotate_0 6 rfl)
theorem dX4_rotate_7 : decode cX4_rotate 7 = .ok (.invokestatic 78, 3) := dqo_184 0 78 (kb_X4_rotate_0 7 rfl) (kb_X4_rotate_0 8 rfl) (kb_X4_rotate_0 9 rfl)
theorem dX4_rotate_10 : decode cX4_rotate 10 = .ok (.iconst 0, 1) := dqo_3 (kb_X4_rotate_0 10 rfl)
theorem dX4_rotate_11 : decode cX4_rotate 11 = .ok (.invokevirtual 84, 3) := dqo_182 0 84 (kb_X4_rotate_0 11 rfl) (kb_X4_rotate_0 12 rfl) (kb_X4_rotate_0 13 rfl)
theorem dX4_rotate_14 : decode cX4_rotate 14 = .ok (.ifCond .eq 5, 3) := dqo_153 0 5 (by decide) (kb_X4_rotate_0 14 rfl) (kb_X4_rotate_0 15 rfl) (kb_X4_rotate_0 16 rfl)
theorem dX4_rotate_17 : decode cX4_rotate 17 = .ok (.iconst 0, 1) := dqo_3 (kb_X4_rotate_0 17 rfl)
theorem dX4_rotate_18 : decode cX4_rotate 18 = .ok (.ireturn, 1) := dqo_172 (kb_X4_rotate_0 18 rfl)
set_option maxRecDepth 100000 in
set_option maxHeartbeats 4000000 in
theorem D_rotate_noW {l : Launch} {D : va_G} {cy : Nat → ClassId} {X : (Nat → Prop) → State → Heap → Prop} {ba ra : Nat → Nat} {hf : Nat → Nat → Nat} {hq : Nat → Nat → Int32} {kn th : Int32} {sm : Int64} {Y : va_W} {f : Nat → Nat → Nat} {r : Nat → Nat → Int32} {x : Int32} {y0 : Int32} (hX : EnvM X cy) (hC : CInv f) (hM : MR f r hf hq) (hno : noW f x) : Cd l D cy X yX4_rotate cX4_rotate 6 (some .int) (rmk 9 4 48 420) [.ref (ba 9), .int x, .int y0] (WM cy ba ra hf hq kn th sm ++ Y) (some (.int (nI 0))) (WM cy ba ra hf hq kn (nI 1) sm ++ Y) := by
  have hG := hM.1
  have h5M := hM.h5M hC
  have h4M := hC.h4M
  have h9a := hM.h9a hC
  have h6a := hM.h6a
  have hU := hM.hU hC
  refine Cm.of [some (.ref (ba 9)), some (.int x), some (.int y0), none, none, none] pn_X4 rfl (Nat.le_of_ble_eq_true rfl) ?_
  intro p e s m args below meth c A C hE hr hnt hn
  refine r_aload_n C dX4_rotate_0 rfl ?_
  refine r_aload_n C dX4_rotate_1 rfl ?_
  refine r_iload_n C dX4_rotate_2 rfl ?_
  refine d_V (st := [.ref (ba 9)]) hX.1.stb C hE (D_isNoWhere1 (ba := ba) (ra := ra) (hf := hf) (hq := hq) (kn := kn) (th := th) (sm := sm) (Y := Y) (f := f) (x := (x)) hX h5M h4M hno) pk_X4_isNoWhere qm_X4_55 0 8 rfl rfl wm_0 rfl rfl (Nat.le_of_ble_eq_true rfl) dX4_rotate_3 ⟨(Nat.le_of_ble_eq_true rfl), (Nat.le_of_ble_eq_true rfl)⟩ ⟨(Nat.le_of_ble_eq_true rfl), (Nat.le_of_ble_eq_true rfl)⟩ ?_
  refine r_w (w' := WM cy ba ra hf hq kn th sm ++ Y) rfl ?_
  refine r_iload_n C dX4_rotate_6 rfl ?_
  refine d_S (st := [.int (nI 1), .ref (ba 9)]) hX.1.stb C hE (D_isNoItemX (ba := ba) (ra := ra) (hf := hf) (hq := hq) (kn := kn) (th := th) (sm := sm) (Y := Y) (y := (y0)) hX ) pk_X4_isNoItem qm_X4_78 rfl rfl (Nat.le_of_ble_eq_true rfl) dX4_rotate_7 ⟨(Nat.le_of_ble_eq_true rfl), (Nat.le_of_ble_eq_true rfl)⟩ ⟨(Nat.le_of_ble_eq_true rfl), (Nat.le_of_ble_eq_true rfl)⟩ ?_
  refine r_w (w' := WM cy ba ra hf hq kn th sm ++ Y) rfl ?_
  refine r_iconst (v := (nI 0)) C dX4_rotate_10 (by decide) ?_
  refine d_V (st := []) hX.1.stb C hE (D_fails1 (ba := ba) (ra := ra) (hf := hf) (hq := hq) (kn := kn) (th := th) (sm := sm) (Y := Y) (b0 := (niF (y0))) (d0 := 0) hX ) pk_X4_fails qm_X4_84 0 8 rfl rfl wm_0 rfl rfl (Nat.le_of_ble_eq_true rfl) dX4_rotate_11 ⟨(Nat.le_of_ble_eq_true rfl), (Nat.le_of_ble_eq_true rfl)⟩ ⟨(Nat.le_of_ble_eq_true rfl), (Nat.le_of_ble_eq_true rfl)⟩ ?_
  refine r_w (w' := WM cy ba ra hf hq kn (nI 1) sm ++ Y) rfl ?_
  refine r_ifN_eq (a := 1) (tgt := 19) C (by first | omega | (simp [up2, *]; done) | (simp [up2, *]; omega) | (simp only [up2_eq]; omega) | (split <;> omega)) dX4_rotate_14 (by decide) (fun h14_1 => ?_) (fun h14_1 => ?_)
  · exact absurd h14_1 (by first | omega | (simp [up2, *]; done) | (simp [up2, *]; omega) | (simp only [up2_eq]; omega) | (split <;> omega))
  · skip
    refine r_iconst (v := (nI 0)) C dX4_rotate_17 (by decide) ?_
    exact r_iret C hr dX4_rotate_18 ⟨rfl, rfl⟩ (Nat.le_of_ble_eq_true rfl) (Nat.le_of_ble_eq_true rfl)
set_option maxRecDepth 100000 in
set_option maxHeartbeats 4000000 in
theorem D_rotate_noB {l : Launch} {D : va_G} {cy : Nat → ClassId} {X : (Nat → Prop) → State → Heap → Prop} {ba ra : Nat → Nat} {hf : Nat → Nat → Nat} {hq : Nat → Nat → Int32} {kn th : Int32} {sm : Int64} {Y : va_W} {f : Nat → Nat → Nat} {r : Nat → Nat → Int32} {w : Nat} {y : Int32} (hX : EnvM X cy) (hC : CInv f) (hM : MR f r hf hq) (hw : w < 8) (h5w : f 5 w = 1) (ho : ¬ okI y) : Cd l D cy X yX4_rotate cX4_rotate 6 (some .int) (rmk 9 4 48 420) [.ref (ba 9), .int (nI w), .int y] (WM cy ba ra hf hq kn th sm ++ Y) (some (.int (nI 0))) (WM cy ba ra hf hq kn (nI 2) sm ++ Y) := by
  have hG := hM.1
  have h5M := hM.h5M hC
  have h4M := hC.h4M
  have h9a := hM.h9a hC
  have h6a := hM.h6a
  have hU := hM.hU hC
  have qw := hM.wh hC hw h5w
  refine Cm.of [some (.ref (ba 9)), some (.int (nI w)), some (.int y), none, none, none] pn_X4 rfl (Nat.le_of_ble_eq_true rfl) ?_
  intro p e s m args below meth c A C hE hr hnt hn
  refine r_aload_n C dX4_rotate_0 rfl ?_
  refine r_aload_n C dX4_rotate_1 rfl ?_
  refine r_iload_n C dX4_rotate_2 rfl ?_
  refine d_V (st := [.ref (ba 9)]) hX.1.stb C hE (D_isNoWhere0 (ba := ba) (ra := ra) (hf := hf) (hq := hq) (kn := kn) (th := th) (sm := sm) (Y := Y) (w := w) hX (by first | omega | (simp [up2, *]; done) | (simp [up2, *]; omega) | (simp only [up2_eq]; omega) | (split <;> omega)) (by first | omega | (simp [up2, *]; done) | (simp [up2, *]; omega) | (simp only [up2_eq]; omega) | (split <;> omega))) pk_X4_isNoWhere qm_X4_55 0 8 rfl rfl wm_0 rfl rfl (Nat.le_of_ble_eq_true rfl) dX4_rotate_3 ⟨(Nat.le_of_ble_eq_true rfl), (Nat.le_of_ble_eq_true rfl)⟩ ⟨(Nat.le_of_ble_eq_true rfl), (Nat.le_of_ble_eq_true rfl)⟩ ?_
  refine r_w (w' := WM cy ba ra hf hq kn th sm ++ Y) rfl ?_
  refine r_iload_n C dX4_rotate_6 rfl ?_
  refine d_S (st := [.int (nI 0), .ref (ba 9)]) hX.1.stb C hE (D_isNoItem1 (ba := ba) (ra := ra) (hf := hf) (hq := hq) (kn := kn) (th := th) (sm := sm) (Y := Y) (y := (y)) hX ho) pk_X4_isNoItem qm_X4_78 rfl rfl (Nat.le_of_ble_eq_true rfl) dX4_rotate_7 ⟨(Nat.le_of_ble_eq_true rfl), (Nat.le_of_ble_eq_true rfl)⟩ ⟨(Nat.le_of_ble_eq_true rfl), (Nat.le_of_ble_eq_true rfl)⟩ ?_
  refine r_w (w' := WM cy ba ra hf hq kn th sm ++ Y) rfl ?_
  refine r_iconst (v := (nI 0)) C dX4_rotate_10 (by decide) ?_
  refine d_V (st := []) hX.1.stb C hE (D_fails2 (ba := ba) (ra := ra) (hf := hf) (hq := hq) (kn := kn) (th := th) (sm := sm) (Y := Y) (d0 := 0) hX ) pk_X4_fails qm_X4_84 0 8 rfl rfl wm_0 rfl rfl (Nat.le_of_ble_eq_true rfl) dX4_rotate_11 ⟨(Nat.le_of_ble_eq_true rfl), (Nat.le_of_ble_eq_true rfl)⟩ ⟨(Nat.le_of_ble_eq_true rfl), (Nat.le_of_ble_eq_true rfl)⟩ ?_
  refine r_w (w' := WM cy ba ra hf hq kn (nI 2) sm ++ Y) rfl ?_
  refine r_ifN_eq (a := 1) (tgt := 19) C (by first | omega | (simp [up2, *]; done) | (simp [up2, *]; omega) | (simp only [up2_eq]; omega) | (split <;> omega)) dX4_rotate_14 (by decide) (fun h14_1 => ?_) (fun h14_1 => ?_)
  · exact absurd h14_1 (by first | omega | (simp [up2, *]; done) | (simp [up2, *]; omega) | (simp only [up2_eq]; omega) | (split <;> omega))
  · skip
    refine r_iconst (v := (nI 0)) C dX4_rotate_17 (by decide) ?_
    exact r_iret C hr dX4_rotate_18 ⟨rfl, rfl⟩ (Nat.le_of_ble_eq_true rfl) (Nat.le_of_ble_eq_true rfl)
theorem pk_X4_firstOf : PkV RX4 yX4_firstOf cX4_firstOf 2 (some .int) 1 := ⟨⟨qi_X4_firstOf, qs_X4_firstOf, qz_X4, qc_X4_firstOf⟩, rfl, mh_X4.1, mh_X4.2, pd_1⟩
theorem pk_X4_put : PkV RX4 yX4_put cX4_put 4 none 2 := ⟨⟨qi_X4_put, qs_X4_put, qz_X4, qc_X4_put⟩, rfl, mh_X4.1, mh_X4.2, pd_23⟩
theorem dX4_rotate_19 : decode cX4_rotate 19 = .ok (.aload_n 0, 1) := dqo_42 (kb_X4_rotate_0 19 rfl)
theorem dX4_rotate_20 : decode cX4_rotate 20 = .ok (.iload_n 1, 1) := dqo_27 (kb_X4_rotate_0 20 rfl)
theorem dX4_rotate_21 : decode cX4_rotate 21 = .ok (.invokevirtual 95, 3) := dqo_182 0 95 (kb_X4_rotate_0 21 rfl) (kb_X4_rotate_0 22 rfl) (kb_X4_rotate_0 23 rfl)
theorem dX4_rotate_24 : decode cX4_rotate 24 = .ok (.astore_n 3, 1) := dqo_78 (kb_X4_rotate_0 24 rfl)
theorem dX4_rotate_25 : decode cX4_rotate 25 = .ok (.aload_n 3, 1) := dqo_45 (kb_X4_rotate_0 25 rfl)
theorem dX4_rotate_26 : decode cX4_rotate 26 = .ok (.arraylength, 1) := dqo_190 (kb_X4_rotate_0 26 rfl)
theorem dX4_rotate_27 : decode cX4_rotate 27 = .ok (.newarray .int, 2) := dqo_188_10 (kb_X4_rotate_0 27 rfl) (kb_X4_rotate_0 28 rfl)
theorem dX4_rotate_29 : decode cX4_rotate 29 = .ok (.astore 4, 2) := dqo_58 4 (kb_X4_rotate_0 29 rfl) (kb_X4_rotate_0 30 rfl)
theorem dX4_rotate_31 : decode cX4_rotate 31 = .ok (.iconst 0, 1) := dqo_3 (kb_X4_rotate_0 31 rfl)
theorem dX4_rotate_32 : decode cX4_rotate 32 = .ok (.istore 5, 2) := dqo_54 5 (kb_X4_rotate_0 32 rfl) (kb_X4_rotate_0 33 rfl)
theorem dX4_rotate_34 : decode cX4_rotate 34 = .ok (.iload 5, 2) := dqo_21 5 (kb_X4_rotate_0 34 rfl) (kb_X4_rotate_0 35 rfl)
theorem dX4_rotate_36 : decode cX4_rotate 36 = .ok (.aload_n 3, 1) := dqo_45 (kb_X4_rotate_0 36 rfl)
theorem dX4_rotate_37 : decode cX4_rotate 37 = .ok (.arraylength, 1) := dqo_190 (kb_X4_rotate_0 37 rfl)
theorem dX4_rotate_38 : decode cX4_rotate 38 = .ok (.if_icmp .ge 29, 3) := dqo_162 0 29 (by decide) (kb_X4_rotate_0 38 rfl) (kb_X4_rotate_0 39 rfl) (kb_X4_rotate_0 40 rfl)
theorem dX4_rotate_41 : decode cX4_rotate 41 = .ok (.aload 4, 2) := dqo_25 4 (kb_X4_rotate_0 41 rfl) (kb_X4_rotate_0 42 rfl)
theorem dX4_rotate_43 : decode cX4_rotate 43 = .ok (.iload 5, 2) := dqo_21 5 (kb_X4_rotate_0 43 rfl) (kb_X4_rotate_0 44 rfl)
theorem dX4_rotate_45 : decode cX4_rotate 45 = .ok (.iload_n 2, 1) := dqo_28 (kb_X4_rotate_0 45 rfl)
theorem dX4_rotate_46 : decode cX4_rotate 46 = .ok (.iadd, 1) := dqo_96 (kb_X4_rotate_0 46 rfl)
theorem dX4_rotate_47 : decode cX4_rotate 47 = .ok (.aload_n 3, 1) := dqo_45 (kb_X4_rotate_0 47 rfl)
theorem dX4_rotate_48 : decode cX4_rotate 48 = .ok (.arraylength, 1) := dqo_190 (kb_X4_rotate_0 48 rfl)
theorem dX4_rotate_49 : decode cX4_rotate 49 = .ok (.irem, 1) := dqo_112 (kb_X4_rotate_0 49 rfl)
theorem dX4_rotate_50 : decode cX4_rotate 50 = .ok (.aload_n 3, 1) := dqo_45 (kb_X4_rotate_0 50 rfl)
theorem dX4_rotate_51 : decode cX4_rotate 51 = .ok (.arraylength, 1) := dqo_190 (kb_X4_rotate_0 51 rfl)
theorem dX4_rotate_52 : decode cX4_rotate 52 = .ok (.iadd, 1) := dqo_96 (kb_X4_rotate_0 52 rfl)
theorem dX4_rotate_53 : decode cX4_rotate 53 = .ok (.aload_n 3, 1) := dqo_45 (kb_X4_rotate_0 53 rfl)
theorem dX4_rotate_54 : decode cX4_rotate 54 = .ok (.arraylength, 1) := dqo_190 (kb_X4_rotate_0 54 rfl)
theorem dX4_rotate_55 : decode cX4_rotate 55 = .ok (.irem, 1) := dqo_112 (kb_X4_rotate_0 55 rfl)
theorem dX4_rotate_56 : decode cX4_rotate 56 = .ok (.aload_n 3, 1) := dqo_45 (kb_X4_rotate_0 56 rfl)
theorem dX4_rotate_57 : decode cX4_rotate 57 = .ok (.iload 5, 2) := dqo_21 5 (kb_X4_rotate_0 57 rfl) (kb_X4_rotate_0 58 rfl)
theorem dX4_rotate_59 : decode cX4_rotate 59 = .ok (.iaload, 1) := dqo_46 (kb_X4_rotate_0 59 rfl)
theorem dX4_rotate_60 : decode cX4_rotate 60 = .ok (.iastore, 1) := dqo_79 (kb_X4_rotate_0 60 rfl)
theorem dX4_rotate_61 : decode cX4_rotate 61 = .ok (.iinc 5 1, 3) := dqo_132 5 1 (by decide) (kb_X4_rotate_0 61 rfl) (kb_X4_rotate_0 62 rfl) (kb_X4_rotate_0 63 rfl)
theorem dX4_rotate_64 : decode cX4_rotate 64 = .ok (.goto (-30), 3) := dqo_167 255 226 (by decide) (kb_X4_rotate_1 0 rfl) (kb_X4_rotate_1 1 rfl) (kb_X4_rotate_1 2 rfl)
theorem dX4_rotate_67 : decode cX4_rotate 67 = .ok (.aload_n 0, 1) := dqo_42 (kb_X4_rotate_1 3 rfl)
theorem dX4_rotate_68 : decode cX4_rotate 68 = .ok (.iload_n 1, 1) := dqo_27 (kb_X4_rotate_1 4 rfl)
theorem dX4_rotate_69 : decode cX4_rotate 69 = .ok (.aload 4, 2) := dqo_25 4 (kb_X4_rotate_1 5 rfl) (kb_X4_rotate_1 6 rfl)
theorem dX4_rotate_71 : decode cX4_rotate 71 = .ok (.invokevirtual 99, 3) := dqo_182 0 99 (kb_X4_rotate_1 7 rfl) (kb_X4_rotate_1 8 rfl) (kb_X4_rotate_1 9 rfl)
theorem dX4_rotate_74 : decode cX4_rotate 74 = .ok (.aload_n 0, 1) := dqo_42 (kb_X4_rotate_1 10 rfl)
theorem dX4_rotate_75 : decode cX4_rotate 75 = .ok (.iload_n 1, 1) := dqo_27 (kb_X4_rotate_1 11 rfl)
theorem dX4_rotate_76 : decode cX4_rotate 76 = .ok (.invokevirtual 103, 3) := dqo_182 0 103 (kb_X4_rotate_1 12 rfl) (kb_X4_rotate_1 13 rfl) (kb_X4_rotate_1 14 rfl)
theorem dX4_rotate_79 : decode cX4_rotate 79 = .ok (.ireturn, 1) := dqo_172 (kb_X4_rotate_1 15 rfl)
set_option maxRecDepth 100000 in
set_option maxHeartbeats 4000000 in
theorem D_rotate_ok {l : Launch} {D : va_G} {cy : Nat → ClassId} {X : (Nat → Prop) → State → Heap → Prop} {ba ra : Nat → Nat} {hf : Nat → Nat → Nat} {hq : Nat → Nat → Int32} {kn th : Int32} {sm : Int64} {Y : va_W} {f : Nat → Nat → Nat} {r : Nat → Nat → Int32} {w : Nat} {y : Int32} (hX : EnvM X cy) (hC : CInv f) (hM : MR f r hf hq) (hw : w < 8) (h5w : f 5 w = 1) (ho : okI y) (hz : 0 < f 4 w) : Cd l D cy X yX4_rotate cX4_rotate 6 (some .int) (rmk 9 4 48 420) [.ref (ba 9), .int (nI w), .int y] (WM cy ba ra hf hq kn th sm ++ Y) (some (.int ((wrR hq (f 1 w) (f 3 w) (hf 4 w) (scA (rotN (hf 4 w) (shN y (hf 4 w))) (cutF (fun z => hq (f 1 w) (f 3 w + z)) (hf 4 w)) (hf 4 w) (hf 4 w))) (f 1 w) (f 3 w)))) (WM cy ba ra hf (wrR hq (f 1 w) (f 3 w) (hf 4 w) (scA (rotN (hf 4 w) (shN y (hf 4 w))) (cutF (fun z => hq (f 1 w) (f 3 w + z)) (hf 4 w)) (hf 4 w) (hf 4 w))) kn (nI 0) sm ++ Y) := by
  have hG := hM.1
  have h5M := hM.h5M hC
  have h4M := hC.h4M
  have h9a := hM.h9a hC
  have h6a := hM.h6a
  have hU := hM.hU hC
  have qw := hM.wh hC hw h5w
  have q5 := okI_b ho
  refine Cm.of [some (.ref (ba 9)), some (.int (nI w)), some (.int y), none, none, none] pn_X4 rfl (Nat.le_of_ble_eq_true rfl) ?_
  intro p e s m args below meth c A C hE hr hnt hn
  refine r_aload_n C dX4_rotate_0 rfl ?_
  refine r_aload_n C dX4_rotate_1 rfl ?_
  refine r_iload_n C dX4_rotate_2 rfl ?_
  refine d_V (st := [.ref (ba 9)]) hX.1.stb C hE (D_isNoWhere0 (ba := ba) (ra := ra) (hf := hf) (hq := hq) (kn := kn) (th := th) (sm := sm) (Y := Y) (w := w) hX (by first | omega | (simp [up2, *]; done) | (simp [up2, *]; omega) | (simp only [up2_eq]; omega) | (split <;> omega)) (by first | omega | (simp [up2, *]; done) | (simp [up2, *]; omega) | (simp only [up2_eq]; omega) | (split <;> omega))) pk_X4_isNoWhere qm_X4_55 0 8 rfl rfl wm_0 rfl rfl (Nat.le_of_ble_eq_true rfl) dX4_rotate_3 ⟨(Nat.le_of_ble_eq_true rfl), (Nat.le_of_ble_eq_true rfl)⟩ ⟨(Nat.le_of_ble_eq_true rfl), (Nat.le_of_ble_eq_true rfl)⟩ ?_
  refine r_w (w' := WM cy ba ra hf hq kn th sm ++ Y) rfl ?_
  refine r_iload_n C dX4_rotate_6 rfl ?_
  refine d_S (st := [.int (nI 0), .ref (ba 9)]) hX.1.stb C hE (D_isNoItem0 (ba := ba) (ra := ra) (hf := hf) (hq := hq) (kn := kn) (th := th) (sm := sm) (Y := Y) (y := (y)) hX ho) pk_X4_isNoItem qm_X4_78 rfl rfl (Nat.le_of_ble_eq_true rfl) dX4_rotate_7 ⟨(Nat.le_of_ble_eq_true rfl), (Nat.le_of_ble_eq_true rfl)⟩ ⟨(Nat.le_of_ble_eq_true rfl), (Nat.le_of_ble_eq_true rfl)⟩ ?_
  refine r_w (w' := WM cy ba ra hf hq kn th sm ++ Y) rfl ?_
  refine r_iconst (v := (nI 0)) C dX4_rotate_10 (by decide) ?_
  refine d_V (st := []) hX.1.stb C hE (D_fails0 (ba := ba) (ra := ra) (hf := hf) (hq := hq) (kn := kn) (th := th) (sm := sm) (Y := Y)  hX ) pk_X4_fails qm_X4_84 0 8 rfl rfl wm_0 rfl rfl (Nat.le_of_ble_eq_true rfl) dX4_rotate_11 ⟨(Nat.le_of_ble_eq_true rfl), (Nat.le_of_ble_eq_true rfl)⟩ ⟨(Nat.le_of_ble_eq_true rfl), (Nat.le_of_ble_eq_true rfl)⟩ ?_
  refine r_w (w' := WM cy ba ra hf hq kn (nI 0) sm ++ Y) rfl ?_
  refine r_ifN_eq (a := 0) (tgt := 19) C (by first | omega | (simp [up2, *]; done) | (simp [up2, *]; omega) | (simp only [up2_eq]; omega) | (split <;> omega)) dX4_rotate_14 (by decide) (fun h14_1 => ?_) (fun h14_1 => ?_)
  · skip
    refine r_aload_n C dX4_rotate_19 rfl ?_
    refine r_iload_n C dX4_rotate_20 rfl ?_
    refine e_V (st := []) hX.1.stb C hE (D_items (ba := ba) (ra := ra) (hf := hf) (hq := hq) (kn := kn) (th := (nI 0)) (sm := sm) (Y := Y) (f := f) (w := w) hX hC (MG.same (fun _ => rfl) (fun _ => rfl) hG) (by first | omega | (simp [up2, *]; done) | (simp [up2, *]; omega) | (simp only [up2_eq]; omega) | (split <;> omega)) (by first | omega | (simp [up2, *]; done) | (simp [up2, *]; omega) | (simp only [up2_eq]; omega) | (split <;> omega)) (by first | omega | (simp [up2, *]; done) | (simp [up2, *]; omega) | (simp only [up2_eq]; omega) | (split <;> omega)) (by first | omega | (simp [up2, *]; done) | (simp [up2, *]; omega) | (simp only [up2_eq]; omega) | (split <;> omega))) pk_X4_items qm_X4_95 0 8 rfl rfl wm_0 rfl rfl (Nat.le_of_ble_eq_true rfl) dX4_rotate_21 ⟨(Nat.le_of_ble_eq_true rfl), (Nat.le_of_ble_eq_true rfl)⟩ ⟨(Nat.le_of_ble_eq_true rfl), (Nat.le_of_ble_eq_true rfl)⟩ (fun b_2 => ?_)
    refine r_w (w' := WM cy ba ra hf hq kn (nI 0) sm ++ (Y ++ [(b_2, .inl (cy 1, hf 4 w, .inl (cutF (fun z => hq (f 1 w) (f 3 w + z)) (hf 4 w))))])) (by simp only [List.append_assoc, List.cons_append, List.nil_append]) ?_
    refine r_st (st' := [.ref b_2]) rfl ?_
    refine r_astore_n C dX4_rotate_24 (by decide) rfl ?_
    refine r_aload_n C dX4_rotate_25 rfl ?_
    refine x_len C (t0 := 1) 0 rfl rfl dX4_rotate_26 ?_
    refine r_newT C .int .int 1 rfl (by simp) qa_int (n := hf 4 w) (show hf 4 w < 1000000 from Nat.lt_of_le_of_lt (show hf 4 w ≤ 12 from by first | omega | (simp [up2, *]; done) | (simp [up2, *]; omega) | (simp only [up2_eq]; omega) | (split <;> omega)) (by decide)) (2) (24) (Nat.le_of_ble_eq_true rfl) (Nat.add_le_add (Nat.le_refl _) (show hf 4 w ≤ 12 from by first | omega | (simp [up2, *]; done) | (simp [up2, *]; omega) | (simp only [up2_eq]; omega) | (split <;> omega))) (Nat.le_of_ble_eq_true rfl) (Nat.le_of_ble_eq_true rfl) dX4_rotate_27 (fun b_3 => ?_)
    refine r_w (w' := WM cy ba ra hf hq kn (nI 0) sm ++ (Y ++ [(b_2, .inl (cy 1, hf 4 w, .inl (cutF (fun z => hq (f 1 w) (f 3 w + z)) (hf 4 w)))), (b_3, .inl (cy 1, hf 4 w, .inl (fun _ => 0)))])) (by simp only [List.append_assoc, List.cons_append, List.nil_append]) ?_
    refine r_astore C dX4_rotate_29 (by decide) rfl ?_
    refine r_iconst (v := (nI 0)) C dX4_rotate_31 (by decide) ?_
    refine r_istore C dX4_rotate_32 (by decide) rfl ?_
    refine r_w (w' := WM cy ba ra hf hq kn (nI 0) sm ++ (Y ++ [(b_2, .inl (cy 1, hf 4 w, .inl (cutF (fun z => hq (f 1 w) (f 3 w + z)) (hf 4 w)))), (b_3, .inl (cy 1, hf 4 w, .inl (scA (rotN (hf 4 w) (shN y (hf 4 w))) (cutF (fun z => hq (f 1 w) (f 3 w + z)) (hf 4 w)) (hf 4 w) 0)))])) (by rw [scA_0]) ?_
    have L34 : ∀ (d : Nat) (k : Nat), (hk : k + d = hf 4 w) → vC p l e (rmk 9 4 48 420) s m args below meth c D A (vx_MQ below (vG (fun v1 w1 => v1 = (some (.int ((wrR hq (f 1 w) (f 3 w) (hf 4 w) (scA (rotN (hf 4 w) (shN y (hf 4 w))) (cutF (fun z => hq (f 1 w) (f 3 w + z)) (hf 4 w)) (hf 4 w) (hf 4 w))) (f 1 w) (f 3 w)))) ∧ w1 = WM cy ba ra hf (wrR hq (f 1 w) (f 3 w) (hf 4 w) (scA (rotN (hf 4 w) (shN y (hf 4 w))) (cutF (fun z => hq (f 1 w) (f 3 w + z)) (hf 4 w)) (hf 4 w) (hf 4 w))) kn (nI 0) sm ++ Y) D vwCl A) (vGX (fun _ => False) D vwCl (WM cy ba ra hf hq kn th sm ++ Y) A) args s (rmk 9 4 48 420).cells (rmk 9 4 48 420).slots A) 6 2 24 (WM cy ba ra hf hq kn (nI 0) sm ++ (Y ++ [(b_2, .inl (cy 1, hf 4 w, .inl (cutF (fun z => hq (f 1 w) (f 3 w + z)) (hf 4 w)))), (b_3, .inl (cy 1, hf 4 w, .inl (scA (rotN (hf 4 w) (shN y (hf 4 w))) (cutF (fun z => hq (f 1 w) (f 3 w + z)) (hf 4 w)) (hf 4 w) k)))])) [some (.ref (ba 9)), some (.int (nI w)), some (.int y), some (.ref b_2), some (.ref b_3), some (.int (nI k))] 34 [] := by
      intro d
      induction d with
      | zero =>
        intro k hk
        refine r_iload C dX4_rotate_34 rfl ?_
        refine r_aload_n C dX4_rotate_36 rfl ?_
        refine x_len C (t0 := 1) 0 rfl rfl dX4_rotate_37 ?_
        refine r_icN_ge (a := k) (b := (hf 4 w)) (tgt := 67) C (by first | omega | (simp [up2, *]; done) | (simp [up2, *]; omega) | (simp only [up2_eq]; omega) | (split <;> omega)) (by first | omega | (simp [up2, *]; done) | (simp [up2, *]; omega) | (simp only [up2_eq]; omega) | (split <;> omega)) dX4_rotate_38 (by decide) (fun h38_4 => ?_) (fun h38_4 => ?_)
        · first
          | exfalso; first | omega | contradiction
          | skip
            have e9 : k = hf 4 w := by omega
            subst e9
            refine r_aload_n C dX4_rotate_67 rfl ?_
            refine r_iload_n C dX4_rotate_68 rfl ?_
            refine r_aload C dX4_rotate_69 rfl ?_
            refine d_Vv (st := []) hX.1.stb C hE (D_put (ba := ba) (ra := ra) (hf := hf) (hq := hq) (kn := kn) (th := (nI 0)) (sm := sm) (f := f) (w := w) (b0 := b_3) (n0 := (hf 4 w)) (g0 := (scA (rotN (hf 4 w) (shN y (hf 4 w))) (cutF (fun z => hq (f 1 w) (f 3 w + z)) (hf 4 w)) (hf 4 w) (hf 4 w))) (j0 := (Y.length + 1)) hX hC (MG.same (fun _ => rfl) (fun _ => rfl) hG) (by first | omega | (simp [up2, *]; done) | (simp [up2, *]; omega) | (simp only [up2_eq]; omega) | (split <;> omega)) (by first | omega | (simp [up2, *]; done) | (simp [up2, *]; omega) | (simp only [up2_eq]; omega) | (split <;> omega)) (by first | omega | (simp [up2, *]; done) | (simp [up2, *]; omega) | (simp only [up2_eq]; omega) | (split <;> omega)) (by first | omega | (simp [up2, *]; done) | (simp [up2, *]; omega) | (simp only [up2_eq]; omega) | (split <;> omega)) ((ya_x 1).trans rfl)) pk_X4_put qm_X4_99 0 8 rfl rfl wm_0 rfl rfl (Nat.le_of_ble_eq_true rfl) dX4_rotate_71 ⟨(Nat.le_of_ble_eq_true rfl), (Nat.le_of_ble_eq_true rfl)⟩ ⟨(Nat.le_of_ble_eq_true rfl), (Nat.le_of_ble_eq_true rfl)⟩ ?_
            refine r_w (w' := WM cy ba ra hf (wrR hq (f 1 w) (f 3 w) (hf 4 w) (scA (rotN (hf 4 w) (shN y (hf 4 w))) (cutF (fun z => hq (f 1 w) (f 3 w + z)) (hf 4 w)) (hf 4 w) (hf 4 w))) kn (nI 0) sm ++ (Y ++ [(b_2, .inl (cy 1, hf 4 w, .inl (cutF (fun z => hq (f 1 w) (f 3 w + z)) (hf 4 w)))), (b_3, .inl (cy 1, hf 4 w, .inl (scA (rotN (hf 4 w) (shN y (hf 4 w))) (cutF (fun z => hq (f 1 w) (f 3 w + z)) (hf 4 w)) (hf 4 w) (hf 4 w))))])) rfl ?_
            refine r_aload_n C dX4_rotate_74 rfl ?_
            refine r_iload_n C dX4_rotate_75 rfl ?_
            refine d_V (st := []) hX.1.stb C hE (D_firstOf1 (ba := ba) (ra := ra) (hf := hf) (hq := (wrR hq (f 1 w) (f 3 w) (hf 4 w) (scA (rotN (hf 4 w) (shN y (hf 4 w))) (cutF (fun z => hq (f 1 w) (f 3 w + z)) (hf 4 w)) (hf 4 w) (hf 4 w)))) (kn := kn) (th := (nI 0)) (sm := sm) (f := f) (w := w) hX hC (MG.same (fun _ => rfl) (fun _ => rfl) hG) (by first | omega | (simp [up2, *]; done) | (simp [up2, *]; omega) | (simp only [up2_eq]; omega) | (split <;> omega)) (by first | omega | (simp [up2, *]; done) | (simp [up2, *]; omega) | (simp only [up2_eq]; omega) | (split <;> omega)) (by first | omega | (simp [up2, *]; done) | (simp [up2, *]; omega) | (simp only [up2_eq]; omega) | (split <;> omega)) (by first | omega | (simp [up2, *]; done) | (simp [up2, *]; omega) | (simp only [up2_eq]; omega) | (split <;> omega)) (by first | omega | (simp [up2, *]; done) | (simp [up2, *]; omega) | (simp only [up2_eq]; omega) | (split <;> omega))) pk_X4_firstOf qm_X4_103 0 8 rfl rfl wm_0 rfl rfl (Nat.le_of_ble_eq_true rfl) dX4_rotate_76 ⟨(Nat.le_of_ble_eq_true rfl), (Nat.le_of_ble_eq_true rfl)⟩ ⟨(Nat.le_of_ble_eq_true rfl), (Nat.le_of_ble_eq_true rfl)⟩ ?_
            refine r_w (w' := WM cy ba ra hf (wrR hq (f 1 w) (f 3 w) (hf 4 w) (scA (rotN (hf 4 w) (shN y (hf 4 w))) (cutF (fun z => hq (f 1 w) (f 3 w + z)) (hf 4 w)) (hf 4 w) (hf 4 w))) kn (nI 0) sm ++ (Y ++ [(b_2, .inl (cy 1, hf 4 w, .inl (cutF (fun z => hq (f 1 w) (f 3 w + z)) (hf 4 w)))), (b_3, .inl (cy 1, hf 4 w, .inl (scA (rotN (hf 4 w) (shN y (hf 4 w))) (cutF (fun z => hq (f 1 w) (f 3 w + z)) (hf 4 w)) (hf 4 w) (hf 4 w))))])) rfl ?_
            refine r_pre ?_
            exact r_iret C hr dX4_rotate_79 ⟨rfl, rfl⟩ (Nat.le_of_ble_eq_true rfl) (Nat.le_of_ble_eq_true rfl)
        · first
          | exfalso; first | omega | contradiction
          | skip
            refine r_aload C dX4_rotate_41 rfl ?_
            refine r_iload C dX4_rotate_43 rfl ?_
            refine r_iload_n C dX4_rotate_45 rfl ?_
            refine r_iadd C dX4_rotate_46 ?_
            refine r_aload_n C dX4_rotate_47 rfl ?_
            refine x_len C (t0 := 1) 0 rfl rfl dX4_rotate_48 ?_
            refine r_irem C dX4_rotate_49 (nI_ne0 (by omega) (by omega)) ?_
            refine r_aload_n C dX4_rotate_50 rfl ?_
            refine x_len C (t0 := 1) 0 rfl rfl dX4_rotate_51 ?_
            refine r_iadd C dX4_rotate_52 ?_
            refine r_aload_n C dX4_rotate_53 rfl ?_
            refine x_len C (t0 := 1) 0 rfl rfl dX4_rotate_54 ?_
            refine r_irem C dX4_rotate_55 (nI_ne0 (by omega) (by omega)) ?_
            refine r_eqi (mm_val (x := nI k + y) (n := hf 4 w) (by omega) (by omega)) ?_
            refine r_aload_n C dX4_rotate_56 rfl ?_
            refine r_iload C dX4_rotate_57 rfl ?_
            refine x_ald C (i := k) (f := cutF (fun z => hq (f 1 w) (f 3 w + z)) (hf 4 w)) 0 rfl (by first | omega | (simp [up2, *]; done) | (simp [up2, *]; omega) | (simp only [up2_eq]; omega) | (split <;> omega)) (by first | omega | (simp [up2, *]; done) | (simp [up2, *]; omega) | (simp only [up2_eq]; omega) | (split <;> omega)) dX4_rotate_59 ?_
            refine r_st (st' := [.int ((cutF (fun z => hq (f 1 w) (f 3 w + z)) (hf 4 w)) k), .int (nI ((k + shN y (hf 4 w)) % hf 4 w)), .ref b_3]) (by rw [shN_add (by omega) (by omega) q5.1 q5.2]) ?_
            refine x_ast C (i := (k + shN y (hf 4 w)) % hf 4 w) (f := scA (rotN (hf 4 w) (shN y (hf 4 w))) (cutF (fun z => hq (f 1 w) (f 3 w + z)) (hf 4 w)) (hf 4 w) k) (E' := [(b_2, .inl (cy 1, hf 4 w, .inl (cutF (fun z => hq (f 1 w) (f 3 w + z)) (hf 4 w)))), (b_3, .inl (cy 1, hf 4 w, .inl (upd (scA (rotN (hf 4 w) (shN y (hf 4 w))) (cutF (fun z => hq (f 1 w) (f 3 w + z)) (hf 4 w)) (hf 4 w) k) ((k + shN y (hf 4 w)) % hf 4 w) ((cutF (fun z => hq (f 1 w) (f 3 w + z)) (hf 4 w)) k))))]) 1 rfl (Nat.mod_lt _ (by omega)) (by first | omega | (simp [up2, *]; done) | (simp [up2, *]; omega) | (simp only [up2_eq]; omega) | (split <;> omega)) rfl dX4_rotate_60 ?_
            refine r_iincN C dX4_rotate_61 rfl (by decide) rfl ?_
            refine r_goto (tgt := 34) C dX4_rotate_64 (by decide) ?_
            refine r_w (w' := WM cy ba ra hf hq kn (nI 0) sm ++ (Y ++ [(b_2, .inl (cy 1, hf 4 w, .inl (cutF (fun z => hq (f 1 w) (f 3 w + z)) (hf 4 w)))), (b_3, .inl (cy 1, hf 4 w, .inl (scA (rotN (hf 4 w) (shN y (hf 4 w))) (cutF (fun z => hq (f 1 w) (f 3 w + z)) (hf 4 w)) (hf 4 w) (k + 1))))])) (by rw [scA_up (σ := rotN (hf 4 w) (shN y (hf 4 w))) (G := (cutF (fun z => hq (f 1 w) (f 3 w + z)) (hf 4 w))) (Nat.mod_lt _ (by omega)) (rot_to (shN_lt y (by omega)) (by omega)) (fun j hj e => rot_inj (shN_lt y (by omega)) hj e) rfl]) ?_
            exact (Nat.not_lt_zero _ (by omega)).elim
      | succ d ih_L34 =>
        intro k hk
        refine r_iload C dX4_rotate_34 rfl ?_
        refine r_aload_n C dX4_rotate_36 rfl ?_
        refine x_len C (t0 := 1) 0 rfl rfl dX4_rotate_37 ?_
        refine r_icN_ge (a := k) (b := (hf 4 w)) (tgt := 67) C (by first | omega | (simp [up2, *]; done) | (simp [up2, *]; omega) | (simp only [up2_eq]; omega) | (split <;> omega)) (by first | omega | (simp [up2, *]; done) | (simp [up2, *]; omega) | (simp only [up2_eq]; omega) | (split <;> omega)) dX4_rotate_38 (by decide) (fun h38_5 => ?_) (fun h38_5 => ?_)
        · first
          | exfalso; first | omega | contradiction
          | skip
            have e9 : k = hf 4 w := by omega
            subst e9
            refine r_aload_n C dX4_rotate_67 rfl ?_
            refine r_iload_n C dX4_rotate_68 rfl ?_
            refine r_aload C dX4_rotate_69 rfl ?_
            refine d_Vv (st := []) hX.1.stb C hE (D_put (ba := ba) (ra := ra) (hf := hf) (hq := hq) (kn := kn) (th := (nI 0)) (sm := sm) (f := f) (w := w) (b0 := b_3) (n0 := (hf 4 w)) (g0 := (scA (rotN (hf 4 w) (shN y (hf 4 w))) (cutF (fun z => hq (f 1 w) (f 3 w + z)) (hf 4 w)) (hf 4 w) (hf 4 w))) (j0 := (Y.length + 1)) hX hC (MG.same (fun _ => rfl) (fun _ => rfl) hG) (by first | omega | (simp [up2, *]; done) | (simp [up2, *]; omega) | (simp only [up2_eq]; omega) | (split <;> omega)) (by first | omega | (simp [up2, *]; done) | (simp [up2, *]; omega) | (simp only [up2_eq]; omega) | (split <;> omega)) (by first | omega | (simp [up2, *]; done) | (simp [up2, *]; omega) | (simp only [up2_eq]; omega) | (split <;> omega)) (by first | omega | (simp [up2, *]; done) | (simp [up2, *]; omega) | (simp only [up2_eq]; omega) | (split <;> omega)) ((ya_x 1).trans rfl)) pk_X4_put qm_X4_99 0 8 rfl rfl wm_0 rfl rfl (Nat.le_of_ble_eq_true rfl) dX4_rotate_71 ⟨(Nat.le_of_ble_eq_true rfl), (Nat.le_of_ble_eq_true rfl)⟩ ⟨(Nat.le_of_ble_eq_true rfl), (Nat.le_of_ble_eq_true rfl)⟩ ?_
            refine r_w (w' := WM cy ba ra hf (wrR hq (f 1 w) (f 3 w) (hf 4 w) (scA (rotN (hf 4 w) (shN y (hf 4 w))) (cutF (fun z => hq (f 1 w) (f 3 w + z)) (hf 4 w)) (hf 4 w) (hf 4 w))) kn (nI 0) sm ++ (Y ++ [(b_2, .inl (cy 1, hf 4 w, .inl (cutF (fun z => hq (f 1 w) (f 3 w + z)) (hf 4 w)))), (b_3, .inl (cy 1, hf 4 w, .inl (scA (rotN (hf 4 w) (shN y (hf 4 w))) (cutF (fun z => hq (f 1 w) (f 3 w + z)) (hf 4 w)) (hf 4 w) (hf 4 w))))])) rfl ?_
            refine r_aload_n C dX4_rotate_74 rfl ?_
            refine r_iload_n C dX4_rotate_75 rfl ?_
            refine d_V (st := []) hX.1.stb C hE (D_firstOf1 (ba := ba) (ra := ra) (hf := hf) (hq := (wrR hq (f 1 w) (f 3 w) (hf 4 w) (scA (rotN (hf 4 w) (shN y (hf 4 w))) (cutF (fun z => hq (f 1 w) (f 3 w + z)) (hf 4 w)) (hf 4 w) (hf 4 w)))) (kn := kn) (th := (nI 0)) (sm := sm) (f := f) (w := w) hX hC (MG.same (fun _ => rfl) (fun _ => rfl) hG) (by first | omega | (simp [up2, *]; done) | (simp [up2, *]; omega) | (simp only [up2_eq]; omega) | (split <;> omega)) (by first | omega | (simp [up2, *]; done) | (simp [up2, *]; omega) | (simp only [up2_eq]; omega) | (split <;> omega)) (by first | omega | (simp [up2, *]; done) | (simp [up2, *]; omega) | (simp only [up2_eq]; omega) | (split <;> omega)) (by first | omega | (simp [up2, *]; done) | (simp [up2, *]; omega) | (simp only [up2_eq]; omega) | (split <;> omega)) (by first | omega | (simp [up2, *]; done) | (simp [up2, *]; omega) | (simp only [up2_eq]; omega) | (split <;> omega))) pk_X4_firstOf qm_X4_103 0 8 rfl rfl wm_0 rfl rfl (Nat.le_of_ble_eq_true rfl) dX4_rotate_76 ⟨(Nat.le_of_ble_eq_true rfl), (Nat.le_of_ble_eq_true rfl)⟩ ⟨(Nat.le_of_ble_eq_true rfl), (Nat.le_of_ble_eq_true rfl)⟩ ?_
            refine r_w (w' := WM cy ba ra hf (wrR hq (f 1 w) (f 3 w) (hf 4 w) (scA (rotN (hf 4 w) (shN y (hf 4 w))) (cutF (fun z => hq (f 1 w) (f 3 w + z)) (hf 4 w)) (hf 4 w) (hf 4 w))) kn (nI 0) sm ++ (Y ++ [(b_2, .inl (cy 1, hf 4 w, .inl (cutF (fun z => hq (f 1 w) (f 3 w + z)) (hf 4 w)))), (b_3, .inl (cy 1, hf 4 w, .inl (scA (rotN (hf 4 w) (shN y (hf 4 w))) (cutF (fun z => hq (f 1 w) (f 3 w + z)) (hf 4 w)) (hf 4 w) (hf 4 w))))])) rfl ?_
            refine r_pre ?_
            exact r_iret C hr dX4_rotate_79 ⟨rfl, rfl⟩ (Nat.le_of_ble_eq_true rfl) (Nat.le_of_ble_eq_true rfl)
        · first
          | exfalso; first | omega | contradiction
          | skip
            refine r_aload C dX4_rotate_41 rfl ?_
            refine r_iload C dX4_rotate_43 rfl ?_
            refine r_iload_n C dX4_rotate_45 rfl ?_
            refine r_iadd C dX4_rotate_46 ?_
            refine r_aload_n C dX4_rotate_47 rfl ?_
            refine x_len C (t0 := 1) 0 rfl rfl dX4_rotate_48 ?_
            refine r_irem C dX4_rotate_49 (nI_ne0 (by omega) (by omega)) ?_
            refine r_aload_n C dX4_rotate_50 rfl ?_
            refine x_len C (t0 := 1) 0 rfl rfl dX4_rotate_51 ?_
            refine r_iadd C dX4_rotate_52 ?_
            refine r_aload_n C dX4_rotate_53 rfl ?_
            refine x_len C (t0 := 1) 0 rfl rfl dX4_rotate_54 ?_
            refine r_irem C dX4_rotate_55 (nI_ne0 (by omega) (by omega)) ?_
            refine r_eqi (mm_val (x := nI k + y) (n := hf 4 w) (by omega) (by omega)) ?_
            refine r_aload_n C dX4_rotate_56 rfl ?_
            refine r_iload C dX4_rotate_57 rfl ?_
            refine x_ald C (i := k) (f := cutF (fun z => hq (f 1 w) (f 3 w + z)) (hf 4 w)) 0 rfl (by first | omega | (simp [up2, *]; done) | (simp [up2, *]; omega) | (simp only [up2_eq]; omega) | (split <;> omega)) (by first | omega | (simp [up2, *]; done) | (simp [up2, *]; omega) | (simp only [up2_eq]; omega) | (split <;> omega)) dX4_rotate_59 ?_
            refine r_st (st' := [.int ((cutF (fun z => hq (f 1 w) (f 3 w + z)) (hf 4 w)) k), .int (nI ((k + shN y (hf 4 w)) % hf 4 w)), .ref b_3]) (by rw [shN_add (by omega) (by omega) q5.1 q5.2]) ?_
            refine x_ast C (i := (k + shN y (hf 4 w)) % hf 4 w) (f := scA (rotN (hf 4 w) (shN y (hf 4 w))) (cutF (fun z => hq (f 1 w) (f 3 w + z)) (hf 4 w)) (hf 4 w) k) (E' := [(b_2, .inl (cy 1, hf 4 w, .inl (cutF (fun z => hq (f 1 w) (f 3 w + z)) (hf 4 w)))), (b_3, .inl (cy 1, hf 4 w, .inl (upd (scA (rotN (hf 4 w) (shN y (hf 4 w))) (cutF (fun z => hq (f 1 w) (f 3 w + z)) (hf 4 w)) (hf 4 w) k) ((k + shN y (hf 4 w)) % hf 4 w) ((cutF (fun z => hq (f 1 w) (f 3 w + z)) (hf 4 w)) k))))]) 1 rfl (Nat.mod_lt _ (by omega)) (by first | omega | (simp [up2, *]; done) | (simp [up2, *]; omega) | (simp only [up2_eq]; omega) | (split <;> omega)) rfl dX4_rotate_60 ?_
            refine r_iincN C dX4_rotate_61 rfl (by decide) rfl ?_
            refine r_goto (tgt := 34) C dX4_rotate_64 (by decide) ?_
            refine r_w (w' := WM cy ba ra hf hq kn (nI 0) sm ++ (Y ++ [(b_2, .inl (cy 1, hf 4 w, .inl (cutF (fun z => hq (f 1 w) (f 3 w + z)) (hf 4 w)))), (b_3, .inl (cy 1, hf 4 w, .inl (scA (rotN (hf 4 w) (shN y (hf 4 w))) (cutF (fun z => hq (f 1 w) (f 3 w + z)) (hf 4 w)) (hf 4 w) (k + 1))))])) (by rw [scA_up (σ := rotN (hf 4 w) (shN y (hf 4 w))) (G := (cutF (fun z => hq (f 1 w) (f 3 w + z)) (hf 4 w))) (Nat.mod_lt _ (by omega)) (rot_to (shN_lt y (by omega)) (by omega)) (fun j hj e => rot_inj (shN_lt y (by omega)) hj e) rfl]) ?_
            exact ih_L34 (k + 1) (by first | omega | (simp [up2, *]; done) | (simp [up2, *]; omega) | (simp only [up2_eq]; omega) | (split <;> omega))
    exact L34 (hf 4 w) 0 (by first | omega | (simp [up2, *]; done) | (simp [up2, *]; omega) | (simp only [up2_eq]; omega) | (split <;> omega))
  · exact absurd h14_1 (by first | omega | (simp [up2, *]; done) | (simp [up2, *]; omega) | (simp only [up2_eq]; omega) | (split <;> omega))
set_option maxRecDepth 100000 in
set_option maxHeartbeats 4000000 in
theorem D_rotate_0 {l : Launch} {D : va_G} {cy : Nat → ClassId} {X : (Nat → Prop) → State → Heap → Prop} {ba ra : Nat → Nat} {hf : Nat → Nat → Nat} {hq : Nat → Nat → Int32} {kn th : Int32} {sm : Int64} {Y : va_W} {f : Nat → Nat → Nat} {r : Nat → Nat → Int32} {w : Nat} {y : Int32} (hX : EnvM X cy) (hC : CInv f) (hM : MR f r hf hq) (hw : w < 8) (h5w : f 5 w = 1) (ho : okI y) (hz : f 4 w = 0) : Cd l D cy X yX4_rotate cX4_rotate 6 (some .int) (rmk 9 4 48 420) [.ref (ba 9), .int (nI w), .int y] (WM cy ba ra hf hq kn th sm ++ Y) (some (.int (nI 100))) (WM cy ba ra hf (wrR hq (f 1 w) (f 3 w) (hf 4 w) (fun _ => 0)) kn (nI 0) sm ++ Y) := by
  have hG := hM.1
  have h5M := hM.h5M hC
  have h4M := hC.h4M
  have h9a := hM.h9a hC
  have h6a := hM.h6a
  have hU := hM.hU hC
  have qw := hM.wh hC hw h5w
  have q5 := okI_b ho
  refine Cm.of [some (.ref (ba 9)), some (.int (nI w)), some (.int y), none, none, none] pn_X4 rfl (Nat.le_of_ble_eq_true rfl) ?_
  intro p e s m args below meth c A C hE hr hnt hn
  refine r_aload_n C dX4_rotate_0 rfl ?_
  refine r_aload_n C dX4_rotate_1 rfl ?_
  refine r_iload_n C dX4_rotate_2 rfl ?_
  refine d_V (st := [.ref (ba 9)]) hX.1.stb C hE (D_isNoWhere0 (ba := ba) (ra := ra) (hf := hf) (hq := hq) (kn := kn) (th := th) (sm := sm) (Y := Y) (w := w) hX (by first | omega | (simp [up2, *]; done) | (simp [up2, *]; omega) | (simp only [up2_eq]; omega) | (split <;> omega)) (by first | omega | (simp [up2, *]; done) | (simp [up2, *]; omega) | (simp only [up2_eq]; omega) | (split <;> omega))) pk_X4_isNoWhere qm_X4_55 0 8 rfl rfl wm_0 rfl rfl (Nat.le_of_ble_eq_true rfl) dX4_rotate_3 ⟨(Nat.le_of_ble_eq_true rfl), (Nat.le_of_ble_eq_true rfl)⟩ ⟨(Nat.le_of_ble_eq_true rfl), (Nat.le_of_ble_eq_true rfl)⟩ ?_
  refine r_w (w' := WM cy ba ra hf hq kn th sm ++ Y) rfl ?_
  refine r_iload_n C dX4_rotate_6 rfl ?_
  refine d_S (st := [.int (nI 0), .ref (ba 9)]) hX.1.stb C hE (D_isNoItem0 (ba := ba) (ra := ra) (hf := hf) (hq := hq) (kn := kn) (th := th) (sm := sm) (Y := Y) (y := (y)) hX ho) pk_X4_isNoItem qm_X4_78 rfl rfl (Nat.le_of_ble_eq_true rfl) dX4_rotate_7 ⟨(Nat.le_of_ble_eq_true rfl), (Nat.le_of_ble_eq_true rfl)⟩ ⟨(Nat.le_of_ble_eq_true rfl), (Nat.le_of_ble_eq_true rfl)⟩ ?_
  refine r_w (w' := WM cy ba ra hf hq kn th sm ++ Y) rfl ?_
  refine r_iconst (v := (nI 0)) C dX4_rotate_10 (by decide) ?_
  refine d_V (st := []) hX.1.stb C hE (D_fails0 (ba := ba) (ra := ra) (hf := hf) (hq := hq) (kn := kn) (th := th) (sm := sm) (Y := Y)  hX ) pk_X4_fails qm_X4_84 0 8 rfl rfl wm_0 rfl rfl (Nat.le_of_ble_eq_true rfl) dX4_rotate_11 ⟨(Nat.le_of_ble_eq_true rfl), (Nat.le_of_ble_eq_true rfl)⟩ ⟨(Nat.le_of_ble_eq_true rfl), (Nat.le_of_ble_eq_true rfl)⟩ ?_
  refine r_w (w' := WM cy ba ra hf hq kn (nI 0) sm ++ Y) rfl ?_
  refine r_ifN_eq (a := 0) (tgt := 19) C (by first | omega | (simp [up2, *]; done) | (simp [up2, *]; omega) | (simp only [up2_eq]; omega) | (split <;> omega)) dX4_rotate_14 (by decide) (fun h14_1 => ?_) (fun h14_1 => ?_)
  · skip
    refine r_aload_n C dX4_rotate_19 rfl ?_
    refine r_iload_n C dX4_rotate_20 rfl ?_
    refine e_V (st := []) hX.1.stb C hE (D_items (ba := ba) (ra := ra) (hf := hf) (hq := hq) (kn := kn) (th := (nI 0)) (sm := sm) (Y := Y) (f := f) (w := w) hX hC (MG.same (fun _ => rfl) (fun _ => rfl) hG) (by first | omega | (simp [up2, *]; done) | (simp [up2, *]; omega) | (simp only [up2_eq]; omega) | (split <;> omega)) (by first | omega | (simp [up2, *]; done) | (simp [up2, *]; omega) | (simp only [up2_eq]; omega) | (split <;> omega)) (by first | omega | (simp [up2, *]; done) | (simp [up2, *]; omega) | (simp only [up2_eq]; omega) | (split <;> omega)) (by first | omega | (simp [up2, *]; done) | (simp [up2, *]; omega) | (simp only [up2_eq]; omega) | (split <;> omega))) pk_X4_items qm_X4_95 0 8 rfl rfl wm_0 rfl rfl (Nat.le_of_ble_eq_true rfl) dX4_rotate_21 ⟨(Nat.le_of_ble_eq_true rfl), (Nat.le_of_ble_eq_true rfl)⟩ ⟨(Nat.le_of_ble_eq_true rfl), (Nat.le_of_ble_eq_true rfl)⟩ (fun b_2 => ?_)
    refine r_w (w' := WM cy ba ra hf hq kn (nI 0) sm ++ (Y ++ [(b_2, .inl (cy 1, hf 4 w, .inl (cutF (fun z => hq (f 1 w) (f 3 w + z)) (hf 4 w))))])) (by simp only [List.append_assoc, List.cons_append, List.nil_append]) ?_
    refine r_st (st' := [.ref b_2]) rfl ?_
    refine r_astore_n C dX4_rotate_24 (by decide) rfl ?_
    refine r_aload_n C dX4_rotate_25 rfl ?_
    refine x_len C (t0 := 1) 0 rfl rfl dX4_rotate_26 ?_
    refine r_newT C .int .int 1 rfl (by simp) qa_int (n := hf 4 w) (show hf 4 w < 1000000 from Nat.lt_of_le_of_lt (show hf 4 w ≤ 12 from by first | omega | (simp [up2, *]; done) | (simp [up2, *]; omega) | (simp only [up2_eq]; omega) | (split <;> omega)) (by decide)) (2) (24) (Nat.le_of_ble_eq_true rfl) (Nat.add_le_add (Nat.le_refl _) (show hf 4 w ≤ 12 from by first | omega | (simp [up2, *]; done) | (simp [up2, *]; omega) | (simp only [up2_eq]; omega) | (split <;> omega))) (Nat.le_of_ble_eq_true rfl) (Nat.le_of_ble_eq_true rfl) dX4_rotate_27 (fun b_3 => ?_)
    refine r_w (w' := WM cy ba ra hf hq kn (nI 0) sm ++ (Y ++ [(b_2, .inl (cy 1, hf 4 w, .inl (cutF (fun z => hq (f 1 w) (f 3 w + z)) (hf 4 w)))), (b_3, .inl (cy 1, hf 4 w, .inl (fun _ => 0)))])) (by simp only [List.append_assoc, List.cons_append, List.nil_append]) ?_
    refine r_astore C dX4_rotate_29 (by decide) rfl ?_
    refine r_iconst (v := (nI 0)) C dX4_rotate_31 (by decide) ?_
    refine r_istore C dX4_rotate_32 (by decide) rfl ?_
    refine r_iload C dX4_rotate_34 rfl ?_
    refine r_aload_n C dX4_rotate_36 rfl ?_
    refine x_len C (t0 := 1) 0 rfl rfl dX4_rotate_37 ?_
    refine r_icN_ge (a := 0) (b := (hf 4 w)) (tgt := 67) C (by first | omega | (simp [up2, *]; done) | (simp [up2, *]; omega) | (simp only [up2_eq]; omega) | (split <;> omega)) (by first | omega | (simp [up2, *]; done) | (simp [up2, *]; omega) | (simp only [up2_eq]; omega) | (split <;> omega)) dX4_rotate_38 (by decide) (fun h38_4 => ?_) (fun h38_4 => ?_)
    · skip
      refine r_aload_n C dX4_rotate_67 rfl ?_
      refine r_iload_n C dX4_rotate_68 rfl ?_
      refine r_aload C dX4_rotate_69 rfl ?_
      refine d_Vv (st := []) hX.1.stb C hE (D_put (ba := ba) (ra := ra) (hf := hf) (hq := hq) (kn := kn) (th := (nI 0)) (sm := sm) (f := f) (w := w) (b0 := b_3) (n0 := (hf 4 w)) (g0 := (fun _ => 0)) (j0 := (Y.length + 1)) hX hC (MG.same (fun _ => rfl) (fun _ => rfl) hG) (by first | omega | (simp [up2, *]; done) | (simp [up2, *]; omega) | (simp only [up2_eq]; omega) | (split <;> omega)) (by first | omega | (simp [up2, *]; done) | (simp [up2, *]; omega) | (simp only [up2_eq]; omega) | (split <;> omega)) (by first | omega | (simp [up2, *]; done) | (simp [up2, *]; omega) | (simp only [up2_eq]; omega) | (split <;> omega)) (by first | omega | (simp [up2, *]; done) | (simp [up2, *]; omega) | (simp only [up2_eq]; omega) | (split <;> omega)) ((ya_x 1).trans rfl)) pk_X4_put qm_X4_99 0 8 rfl rfl wm_0 rfl rfl (Nat.le_of_ble_eq_true rfl) dX4_rotate_71 ⟨(Nat.le_of_ble_eq_true rfl), (Nat.le_of_ble_eq_true rfl)⟩ ⟨(Nat.le_of_ble_eq_true rfl), (Nat.le_of_ble_eq_true rfl)⟩ ?_
      refine r_w (w' := WM cy ba ra hf (wrR hq (f 1 w) (f 3 w) (hf 4 w) (fun _ => 0)) kn (nI 0) sm ++ (Y ++ [(b_2, .inl (cy 1, hf 4 w, .inl (cutF (fun z => hq (f 1 w) (f 3 w + z)) (hf 4 w)))), (b_3, .inl (cy 1, hf 4 w, .inl (fun _ => 0)))])) rfl ?_
      refine r_aload_n C dX4_rotate_74 rfl ?_
      refine r_iload_n C dX4_rotate_75 rfl ?_
      refine d_V (st := []) hX.1.stb C hE (D_firstOf0 (ba := ba) (ra := ra) (hf := hf) (hq := (wrR hq (f 1 w) (f 3 w) (hf 4 w) (fun _ => 0))) (kn := kn) (th := (nI 0)) (sm := sm) (w := w) hX (by first | omega | (simp [up2, *]; done) | (simp [up2, *]; omega) | (simp only [up2_eq]; omega) | (split <;> omega)) (by first | omega | (simp [up2, *]; done) | (simp [up2, *]; omega) | (simp only [up2_eq]; omega) | (split <;> omega))) pk_X4_firstOf qm_X4_103 0 8 rfl rfl wm_0 rfl rfl (Nat.le_of_ble_eq_true rfl) dX4_rotate_76 ⟨(Nat.le_of_ble_eq_true rfl), (Nat.le_of_ble_eq_true rfl)⟩ ⟨(Nat.le_of_ble_eq_true rfl), (Nat.le_of_ble_eq_true rfl)⟩ ?_
      refine r_w (w' := WM cy ba ra hf (wrR hq (f 1 w) (f 3 w) (hf 4 w) (fun _ => 0)) kn (nI 0) sm ++ (Y ++ [(b_2, .inl (cy 1, hf 4 w, .inl (cutF (fun z => hq (f 1 w) (f 3 w + z)) (hf 4 w)))), (b_3, .inl (cy 1, hf 4 w, .inl (fun _ => 0)))])) rfl ?_
      refine r_pre ?_
      exact r_iret C hr dX4_rotate_79 ⟨rfl, rfl⟩ (Nat.le_of_ble_eq_true rfl) (Nat.le_of_ble_eq_true rfl)
    · exact absurd h38_4 (by first | omega | (simp [up2, *]; done) | (simp [up2, *]; omega) | (simp only [up2_eq]; omega) | (split <;> omega))
  · exact absurd h14_1 (by first | omega | (simp [up2, *]; done) | (simp [up2, *]; omega) | (simp only [up2_eq]; omega) | (split <;> omega))
theorem dX4_reverse_0 : decode cX4_reverse 0 = .ok (.aload_n 0, 1) := dqo_42 (kb_of ke_X4_reverse 0 rfl)
theorem dX4_reverse_1 : decode cX4_reverse 1 = .ok (.aload_n 0, 1) := dqo_42 (kb_of ke_X4_reverse 1 rfl)
theorem dX4_reverse_2 : decode cX4_reverse 2 = .ok (.iload_n 1, 1) := dqo_27 (kb_of ke_X4_reverse 2 rfl)
theorem dX4_reverse_3 : decode cX4_reverse 3 = .ok (.invokevirtual 55, 3) := dqo_182 0 55 (kb_of ke_X4_reverse 3 rfl) (kb_of ke_X4_reverse 4 rfl) (kb_of ke_X4_reverse 5 rfl)
theorem dX4_reverse_6 : decode cX4_reverse 6 = .ok (.iconst 0, 1) := dqo_3 (kb_of ke_X4_reverse 6 rfl)
theorem dX4_reverse_7 : decode cX4_reverse 7 = .ok (.iconst 0, 1) := dqo_3 (kb_of ke_X4_reverse 7 rfl)
theorem dX4_reverse_8 : decode cX4_reverse 8 = .ok (.invokevirtual 84, 3) := dqo_182 0 84 (kb_of ke_X4_reverse 8 rfl) (kb_of ke_X4_reverse 9 rfl) (kb_of ke_X4_reverse 10 rfl)
theorem dX4_reverse_11 : decode cX4_reverse 11 = .ok (.ifCond .eq 5, 3) := dqo_153 0 5 (by decide) (kb_of ke_X4_reverse 11 rfl) (kb_of ke_X4_reverse 12 rfl) (kb_of ke_X4_reverse 13 rfl)
theorem dX4_reverse_14 : decode cX4_reverse 14 = .ok (.iconst 0, 1) := dqo_3 (kb_of ke_X4_reverse 14 rfl)
theorem dX4_reverse_15 : decode cX4_reverse 15 = .ok (.ireturn, 1) := dqo_172 (kb_of ke_X4_reverse 15 rfl)
set_option maxRecDepth 100000 in
set_option maxHeartbeats 4000000 in
theorem D_reverse_noW {l : Launch} {D : va_G} {cy : Nat → ClassId} {X : (Nat → Prop) → State → Heap → Prop} {ba ra : Nat → Nat} {hf : Nat → Nat → Nat} {hq : Nat → Nat → Int32} {kn th : Int32} {sm : Int64} {Y : va_W} {f : Nat → Nat → Nat} {r : Nat → Nat → Int32} {x : Int32} (hX : EnvM X cy) (hC : CInv f) (hM : MR f r hf hq) (hno : noW f x) : Cd l D cy X yX4_reverse cX4_reverse 2 (some .int) (rmk 9 4 48 420) [.ref (ba 9), .int x] (WM cy ba ra hf hq kn th sm ++ Y) (some (.int (nI 0))) (WM cy ba ra hf hq kn (nI 1) sm ++ Y) := by
  have hG := hM.1
  have h5M := hM.h5M hC
  have h4M := hC.h4M
  have h9a := hM.h9a hC
  have h6a := hM.h6a
  have hU := hM.hU hC
  refine Cm.of [some (.ref (ba 9)), some (.int x)] pn_X4 rfl (Nat.le_of_ble_eq_true rfl) ?_
  intro p e s m args below meth c A C hE hr hnt hn
  refine r_aload_n C dX4_reverse_0 rfl ?_
  refine r_aload_n C dX4_reverse_1 rfl ?_
  refine r_iload_n C dX4_reverse_2 rfl ?_
  refine d_V (st := [.ref (ba 9)]) hX.1.stb C hE (D_isNoWhere1 (ba := ba) (ra := ra) (hf := hf) (hq := hq) (kn := kn) (th := th) (sm := sm) (Y := Y) (f := f) (x := (x)) hX h5M h4M hno) pk_X4_isNoWhere qm_X4_55 0 8 rfl rfl wm_0 rfl rfl (Nat.le_of_ble_eq_true rfl) dX4_reverse_3 ⟨(Nat.le_of_ble_eq_true rfl), (Nat.le_of_ble_eq_true rfl)⟩ ⟨(Nat.le_of_ble_eq_true rfl), (Nat.le_of_ble_eq_true rfl)⟩ ?_
  refine r_w (w' := WM cy ba ra hf hq kn th sm ++ Y) rfl ?_
  refine r_iconst (v := (nI 0)) C dX4_reverse_6 (by decide) ?_
  refine r_iconst (v := (nI 0)) C dX4_reverse_7 (by decide) ?_
  refine d_V (st := []) hX.1.stb C hE (D_fails1 (ba := ba) (ra := ra) (hf := hf) (hq := hq) (kn := kn) (th := th) (sm := sm) (Y := Y) (b0 := 0) (d0 := 0) hX ) pk_X4_fails qm_X4_84 0 8 rfl rfl wm_0 rfl rfl (Nat.le_of_ble_eq_true rfl) dX4_reverse_8 ⟨(Nat.le_of_ble_eq_true rfl), (Nat.le_of_ble_eq_true rfl)⟩ ⟨(Nat.le_of_ble_eq_true rfl), (Nat.le_of_ble_eq_true rfl)⟩ ?_
  refine r_w (w' := WM cy ba ra hf hq kn (nI 1) sm ++ Y) rfl ?_
  refine r_ifN_eq (a := 1) (tgt := 16) C (by first | omega | (simp [up2, *]; done) | (simp [up2, *]; omega) | (simp only [up2_eq]; omega) | (split <;> omega)) dX4_reverse_11 (by decide) (fun h11_1 => ?_) (fun h11_1 => ?_)
  · exact absurd h11_1 (by first | omega | (simp [up2, *]; done) | (simp [up2, *]; omega) | (simp only [up2_eq]; omega) | (split <;> omega))
  · skip
    refine r_iconst (v := (nI 0)) C dX4_reverse_14 (by decide) ?_
    exact r_iret C hr dX4_reverse_15 ⟨rfl, rfl⟩ (Nat.le_of_ble_eq_true rfl) (Nat.le_of_ble_eq_true rfl)
theorem dX4_turned_0 : decode cX4_turned 0 = .ok (.aload_n 0, 1) := dqo_42 (kb_of ke_X4_turned 0 rfl)
theorem dX4_turned_1 : decode cX4_turned 1 = .ok (.arraylength, 1) := dqo_190 (kb_of ke_X4_turned 1 rfl)
theorem dX4_turned_2 : decode cX4_turned 2 = .ok (.newarray .int, 2) := dqo_188_10 (kb_of ke_X4_turned 2 rfl) (kb_of ke_X4_turned 3 rfl)
theorem dX4_turned_4 : decode cX4_turned 4 = .ok (.astore_n 1, 1) := dqo_76 (kb_of ke_X4_turned 4 rfl)
theorem dX4_turned_5 : decode cX4_turned 5 = .ok (.iconst 0, 1) := dqo_3 (kb_of ke_X4_turned 5 rfl)
theorem dX4_turned_6 : decode cX4_turned 6 = .ok (.istore_n 2, 1) := dqo_61 (kb_of ke_X4_turned 6 rfl)
theorem dX4_turned_7 : decode cX4_turned 7 = .ok (.iload_n 2, 1) := dqo_28 (kb_of ke_X4_turned 7 rfl)
theorem dX4_turned_8 : decode cX4_turned 8 = .ok (.aload_n 1, 1) := dqo_43 (kb_of ke_X4_turned 8 rfl)
theorem dX4_turned_9 : decode cX4_turned 9 = .ok (.arraylength, 1) := dqo_190 (kb_of ke_X4_turned 9 rfl)
theorem dX4_turned_10 : decode cX4_turned 10 = .ok (.if_icmp .ge 20, 3) := dqo_162 0 20 (by decide) (kb_of ke_X4_turned 10 rfl) (kb_of ke_X4_turned 11 rfl) (kb_of ke_X4_turned 12 rfl)
theorem dX4_turned_13 : decode cX4_turned 13 = .ok (.aload_n 1, 1) := dqo_43 (kb_of ke_X4_turned 13 rfl)
theorem dX4_turned_14 : decode cX4_turned 14 = .ok (.iload_n 2, 1) := dqo_28 (kb_of ke_X4_turned 14 rfl)
theorem dX4_turned_15 : decode cX4_turned 15 = .ok (.aload_n 0, 1) := dqo_42 (kb_of ke_X4_turned 15 rfl)
theorem dX4_turned_16 : decode cX4_turned 16 = .ok (.aload_n 1, 1) := dqo_43 (kb_of ke_X4_turned 16 rfl)
theorem dX4_turned_17 : decode cX4_turned 17 = .ok (.arraylength, 1) := dqo_190 (kb_of ke_X4_turned 17 rfl)
theorem dX4_turned_18 : decode cX4_turned 18 = .ok (.iconst 1, 1) := dqo_4 (kb_of ke_X4_turned 18 rfl)
theorem dX4_turned_19 : decode cX4_turned 19 = .ok (.isub, 1) := dqo_100 (kb_of ke_X4_turned 19 rfl)
theorem dX4_turned_20 : decode cX4_turned 20 = .ok (.iload_n 2, 1) := dqo_28 (kb_of ke_X4_turned 20 rfl)
theorem dX4_turned_21 : decode cX4_turned 21 = .ok (.isub, 1) := dqo_100 (kb_of ke_X4_turned 21 rfl)
theorem dX4_turned_22 : decode cX4_turned 22 = .ok (.iaload, 1) := dqo_46 (kb_of ke_X4_turned 22 rfl)
theorem dX4_turned_23 : decode cX4_turned 23 = .ok (.iastore, 1) := dqo_79 (kb_of ke_X4_turned 23 rfl)
theorem dX4_turned_24 : decode cX4_turned 24 = .ok (.iinc 2 1, 3) := dqo_132 2 1 (by decide) (kb_of ke_X4_turned 24 rfl) (kb_of ke_X4_turned 25 rfl) (kb_of ke_X4_turned 26 rfl)
theorem dX4_turned_27 : decode cX4_turned 27 = .ok (.goto (-20), 3) := dqo_167 255 236 (by decide) (kb_of ke_X4_turned 27 rfl) (kb_of ke_X4_turned 28 rfl) (kb_of ke_X4_turned 29 rfl)
theorem dX4_turned_30 : decode cX4_turned 30 = .ok (.aload_n 1, 1) := dqo_43 (kb_of ke_X4_turned 30 rfl)
theorem dX4_turned_31 : decode cX4_turned 31 = .ok (.areturn, 1) := dqo_176 (kb_of ke_X4_turned 31 rfl)
set_option maxRecDepth 100000 in
set_option maxHeartbeats 4000000 in
theorem D_turned {l : Launch} {D : va_G} {cy : Nat → ClassId} {X : (Nat → Prop) → State → Heap → Prop} {ba ra : Nat → Nat} {hf : Nat → Nat → Nat} {hq : Nat → Nat → Int32} {kn th : Int32} {sm : Int64} {Y : va_W} {b0 : Nat} {n0 : Nat} {g0 : Nat → Int32} {j0 : Nat} (hX : EnvM X cy) (hn12 : n0 ≤ 12) (hy : Y[j0]? = some (b0, .inl (cy 1, n0, .inl g0))) : Cm l D cy X yX4_turned cX4_turned 3 (some (.array .int)) (rmk 0 1 12 0) [.ref b0] (WM cy ba ra hf hq kn th sm ++ Y) (fun v1 w1 => ∃ b9 : Nat, v1 = some (.ref b9) ∧ w1 = WM cy ba ra hf hq kn th sm ++ (Y ++ [(b9, .inl (cy 1, n0, .inl (cutF (fun z => g0 (n0 - 1 - z)) n0)))])) (fun _ => False) := by
  refine Cm.of [some (.ref b0), none, none] pn_X4 rfl (Nat.le_of_ble_eq_true rfl) ?_
  intro p e s m args below meth c A C hE hr hnt hn
  refine r_aload_n C dX4_turned_0 rfl ?_
  refine y_len C j0 hy dX4_turned_1 ?_
  refine r_newT C .int .int 1 rfl (by simp) qa_int (n := n0) (show n0 < 1000000 from Nat.lt_of_le_of_lt (show n0 ≤ 12 from by first | omega | (simp [up2, *]; done) | (simp [up2, *]; omega) | (simp only [up2_eq]; omega) | (split <;> omega)) (by decide)) (1) (12) (Nat.le_of_ble_eq_true rfl) (Nat.add_le_add (Nat.le_refl _) (show n0 ≤ 12 from by first | omega | (simp [up2, *]; done) | (simp [up2, *]; omega) | (simp only [up2_eq]; omega) | (split <;> omega))) (Nat.le_of_ble_eq_true rfl) (Nat.le_of_ble_eq_true rfl) dX4_turned_2 (fun b_1 => ?_)
  refine r_w (w' := WM cy ba ra hf hq kn th sm ++ (Y ++ [(b_1, .inl (cy 1, n0, .inl (fun _ => 0)))])) (by simp only [List.append_assoc, List.cons_append, List.nil_append]) ?_
  refine r_astore_n C dX4_turned_4 (by decide) rfl ?_
  refine r_iconst (v := (nI 0)) C dX4_turned_5 (by decide) ?_
  refine r_istore_n C dX4_turned_6 (by decide) rfl ?_
  refine r_w (w' := WM cy ba ra hf hq kn th sm ++ (Y ++ [(b_1, .inl (cy 1, n0, .inl (cutF (fun z => g0 (n0 - 1 - z)) 0)))])) (by rw [cutF_0]) ?_
  have L7 : ∀ (d : Nat) (k : Nat), (hk : k + d = n0) → vC p l e (rmk 0 1 12 0) s m args below meth c D A (vx_MQ below (vG (fun v1 w1 => ∃ b9 : Nat, v1 = some (.ref b9) ∧ w1 = WM cy ba ra hf hq kn th sm ++ (Y ++ [(b9, .inl (cy 1, n0, .inl (cutF (fun z => g0 (n0 - 1 - z)) n0)))])) D vwCl A) (vGX (fun _ => False) D vwCl (WM cy ba ra hf hq kn th sm ++ Y) A) args s (rmk 0 1 12 0).cells (rmk 0 1 12 0).slots A) 3 1 12 (WM cy ba ra hf hq kn th sm ++ (Y ++ [(b_1, .inl (cy 1, n0, .inl (cutF (fun z => g0 (n0 - 1 - z)) k)))])) [some (.ref b0), some (.ref b_1), some (.int (nI k))] 7 [] := by
    intro d
    induction d with
    | zero =>
      intro k hk
      refine r_iload_n C dX4_turned_7 rfl ?_
      refine r_aload_n C dX4_turned_8 rfl ?_
      refine x_len C (t0 := 1) 0 rfl rfl dX4_turned_9 ?_
      refine r_icN_ge (a := k) (b := n0) (tgt := 30) C (by first | omega | (simp [up2, *]; done) | (simp [up2, *]; omega) | (simp only [up2_eq]; omega) | (split <;> omega)) (by first | omega | (simp [up2, *]; done) | (simp [up2, *]; omega) | (simp only [up2_eq]; omega) | (split <;> omega)) dX4_turned_10 (by decide) (fun h10_2 => ?_) (fun h10_2 => ?_)
      · first
        | exfalso; first | omega | contradiction
        | skip
          have e9 : k = n0 := by omega
          refine r_w (w' := WM cy ba ra hf hq kn th sm ++ (Y ++ [(b_1, .inl (cy 1, n0, .inl (cutF (fun z => g0 (n0 - 1 - z)) n0)))])) (by rw [e9]) ?_
          refine r_aload_n C dX4_turned_30 rfl ?_
          exact r_aret C hr (Or.inr ⟨_, rfl⟩) dX4_turned_31 ⟨_, rfl, rfl⟩ (Nat.le_of_ble_eq_true rfl) (Nat.le_of_ble_eq_true rfl)
      · first
        | exfalso; first | omega | contradiction
        | skip
          refine r_aload_n C dX4_turned_13 rfl ?_
          refine r_iload_n C dX4_turned_14 rfl ?_
          refine r_aload_n C dX4_turned_15 rfl ?_
          refine r_aload_n C dX4_turned_16 rfl ?_
          refine x_len C (t0 := 1) 0 rfl rfl dX4_turned_17 ?_
          refine r_iconst (v := (nI 1)) C dX4_turned_18 (by decide) ?_
          refine r_isubN C dX4_turned_19 (by first | omega | (simp [up2, *]; done) | (simp [up2, *]; omega) | (simp only [up2_eq]; omega) | (split <;> omega)) ?_
          refine r_iload_n C dX4_turned_20 rfl ?_
          refine r_isubN C dX4_turned_21 (by first | omega | (simp [up2, *]; done) | (simp [up2, *]; omega) | (simp only [up2_eq]; omega) | (split <;> omega)) ?_
          refine y_ald C (i := (n0 - 1) - k) (f := g0) j0 (ya_l hy) (by first | omega | (simp [up2, *]; done) | (simp [up2, *]; omega) | (simp only [up2_eq]; omega) | (split <;> omega)) (by first | omega | (simp [up2, *]; done) | (simp [up2, *]; omega) | (simp only [up2_eq]; omega) | (split <;> omega)) dX4_turned_22 ?_
          refine x_ast C (i := k) (f := cutF (fun z => g0 (n0 - 1 - z)) k) (E' := [(b_1, .inl (cy 1, n0, .inl (upd (cutF (fun z => g0 (n0 - 1 - z)) k) k (g0 ((n0 - 1) - k)))))]) 0 rfl (by first | omega | (simp [up2, *]; done) | (simp [up2, *]; omega) | (simp only [up2_eq]; omega) | (split <;> omega)) (by first | omega | (simp [up2, *]; done) | (simp [up2, *]; omega) | (simp only [up2_eq]; omega) | (split <;> omega)) rfl dX4_turned_23 ?_
          refine r_iincN C dX4_turned_24 rfl (by decide) rfl ?_
          refine r_goto (tgt := 7) C dX4_turned_27 (by decide) ?_
          refine r_w (w' := WM cy ba ra hf hq kn th sm ++ (Y ++ [(b_1, .inl (cy 1, n0, .inl (cutF (fun z => g0 (n0 - 1 - z)) (k + 1))))])) (by rw [cutF_up (F := fun z => g0 (n0 - 1 - z)) (by rfl)]) ?_
          exact (Nat.not_lt_zero _ (by omega)).elim
    | succ d ih_L7 =>
      intro k hk
      refine r_iload_n C dX4_turned_7 rfl ?_
      refine r_aload_n C dX4_turned_8 rfl ?_
      refine x_len C (t0 := 1) 0 rfl rfl dX4_turned_9 ?_
      refine r_icN_ge (a := k) (b := n0) (tgt := 30) C (by first | omega | (simp [up2, *]; done) | (simp [up2, *]; omega) | (simp only [up2_eq]; omega) | (split <;> omega)) (by first | omega | (simp [up2, *]; done) | (simp [up2, *]; omega) | (simp only [up2_eq]; omega) | (split <;> omega)) dX4_turned_10 (by decide) (fun h10_3 => ?_) (fun h10_3 => ?_)
      · first
        | exfalso; first | omega | contradiction
        | skip
          have e9 : k = n0 := by omega
          refine r_w (w' := WM cy ba ra hf hq kn th sm ++ (Y ++ [(b_1, .inl (cy 1, n0, .inl (cutF (fun z => g0 (n0 - 1 - z)) n0)))])) (by rw [e9]) ?_
          refine r_aload_n C dX4_turned_30 rfl ?_
          exact r_aret C hr (Or.inr ⟨_, rfl⟩) dX4_turned_31 ⟨_, rfl, rfl⟩ (Nat.le_of_ble_eq_true rfl) (Nat.le_of_ble_eq_true rfl)
      · first
        | exfalso; first | omega | contradiction
        | skip
          refine r_aload_n C dX4_turned_13 rfl ?_
          refine r_iload_n C dX4_turned_14 rfl ?_
          refine r_aload_n C dX4_turned_15 rfl ?_
          refine r_aload_n C dX4_turned_16 rfl ?_
          refine x_len C (t0 := 1) 0 rfl rfl dX4_turned_17 ?_
          refine r_iconst (v := (nI 1)) C dX4_turned_18 (by decide) ?_
          refine r_isubN C dX4_turned_19 (by first | omega | (simp [up2, *]; done) | (simp [up2, *]; omega) | (simp only [up2_eq]; omega) | (split <;> omega)) ?_
          refine r_iload_n C dX4_turned_20 rfl ?_
          refine r_isubN C dX4_turned_21 (by first | omega | (simp [up2, *]; done) | (simp [up2, *]; omega) | (simp only [up2_eq]; omega) | (split <;> omega)) ?_
          refine y_ald C (i := (n0 - 1) - k) (f := g0) j0 (ya_l hy) (by first | omega | (simp [up2, *]; done) | (simp [up2, *]; omega) | (simp only [up2_eq]; omega) | (split <;> omega)) (by first | omega | (simp [up2, *]; done) | (simp [up2, *]; omega) | (simp only [up2_eq]; omega) | (split <;> omega)) dX4_turned_22 ?_
          refine x_ast C (i := k) (f := cutF (fun z => g0 (n0 - 1 - z)) k) (E' := [(b_1, .inl (cy 1, n0, .inl (upd (cutF (fun z => g0 (n0 - 1 - z)) k) k (g0 ((n0 - 1) - k)))))]) 0 rfl (by first | omega | (simp [up2, *]; done) | (simp [up2, *]; omega) | (simp only [up2_eq]; omega) | (split <;> omega)) (by first | omega | (simp [up2, *]; done) | (simp [up2, *]; omega) | (simp only [up2_eq]; omega) | (split <;> omega)) rfl dX4_turned_23 ?_
          refine r_iincN C dX4_turned_24 rfl (by decide) rfl ?_
          refine r_goto (tgt := 7) C dX4_turned_27 (by decide) ?_
          refine r_w (w' := WM cy ba ra hf hq kn th sm ++ (Y ++ [(b_1, .inl (cy 1, n0, .inl (cutF (fun z => g0 (n0 - 1 - z)) (k + 1))))])) (by rw [cutF_up (F := fun z => g0 (n0 - 1 - z)) (by rfl)]) ?_
          exact ih_L7 (k + 1) (by first | omega | (simp [up2, *]; done) | (simp [up2, *]; omega) | (simp only [up2_eq]; omega) | (split <;> omega))
  exact L7 n0 0 (by first | omega | (simp [up2, *]; done) | (simp [up2, *]; omega) | (simp only [up2_eq]; omega) | (split <;> omega))
theorem pk_X4_turned : PkS yX4_turned cX4_turned 3 (some (.array .int)) 1 := ⟨⟨qt_X4_turned, qz_X4, qc_X4_turned⟩, mh_X4.1, mh_X4.2, pd_24⟩
theorem dX4_reverse_16 : decode cX4_reverse 16 = .ok (.aload_n 0, 1) := dqo_42 (kb_of ke_X4_reverse 16 rfl)
theorem dX4_reverse_17 : decode cX4_reverse 17 = .ok (.iload_n 1, 1) := dqo_27 (kb_of ke_X4_reverse 17 rfl)
theorem dX4_reverse_18 : decode cX4_reverse 18 = .ok (.aload_n 0, 1) := dqo_42 (kb_of ke_X4_reverse 18 rfl)
theorem dX4_reverse_19 : decode cX4_reverse 19 = .ok (.iload_n 1, 1) := dqo_27 (kb_of ke_X4_reverse 19 rfl)
theorem dX4_reverse_20 : decode cX4_reverse 20 = .ok (.invokevirtual 95, 3) := dqo_182 0 95 (kb_of ke_X4_reverse 20 rfl) (kb_of ke_X4_reverse 21 rfl) (kb_of ke_X4_reverse 22 rfl)
theorem dX4_reverse_23 : decode cX4_reverse 23 = .ok (.invokestatic 106, 3) := dqo_184 0 106 (kb_of ke_X4_reverse 23 rfl) (kb_of ke_X4_reverse 24 rfl) (kb_of ke_X4_reverse 25 rfl)
theorem dX4_reverse_26 : decode cX4_reverse 26 = .ok (.invokevirtual 99, 3) := dqo_182 0 99 (kb_of ke_X4_reverse 26 rfl) (kb_of ke_X4_reverse 27 rfl) (kb_of ke_X4_reverse 28 rfl)
theorem dX4_reverse_29 : decode cX4_reverse 29 = .ok (.aload_n 0, 1) := dqo_42 (kb_of ke_X4_reverse 29 rfl)
theorem dX4_reverse_30 : decode cX4_reverse 30 = .ok (.iload_n 1, 1) := dqo_27 (kb_of ke_X4_reverse 30 rfl)
theorem dX4_reverse_31 : decode cX4_reverse 31 = .ok (.invokevirtual 103, 3) := dqo_182 0 103 (kb_of ke_X4_reverse 31 rfl) (kb_of ke_X4_reverse 32 rfl) (kb_of ke_X4_reverse 33 rfl)
theorem dX4_reverse_34 : decode cX4_reverse 34 = .ok (.ireturn, 1) := dqo_172 (kb_of ke_X4_reverse 34 rfl)
set_option maxRecDepth 100000 in
set_option maxHeartbeats 4000000 in
theorem D_reverse_ok {l : Launch} {D : va_G} {cy : Nat → ClassId} {X : (Nat → Prop) → State → Heap → Prop} {ba ra : Nat → Nat} {hf : Nat → Nat → Nat} {hq : Nat → Nat → Int32} {kn th : Int32} {sm : Int64} {Y : va_W} {f : Nat → Nat → Nat} {r : Nat → Nat → Int32} {w : Nat} (hX : EnvM X cy) (hC : CInv f) (hM : MR f r hf hq) (hw : w < 8) (h5w : f 5 w = 1) (hz : 0 < f 4 w) : Cd l D cy X yX4_reverse cX4_reverse 2 (some .int) (rmk 9 4 48 420) [.ref (ba 9), .int (nI w)] (WM cy ba ra hf hq kn th sm ++ Y) (some (.int ((wrR hq (f 1 w) (f 3 w) (hf 4 w) (cutF (fun z => (cutF (fun z => hq (f 1 w) (f 3 w + z)) (hf 4 w)) ((hf 4 w) - 1 - z)) (hf 4 w))) (f 1 w) (f 3 w)))) (WM cy ba ra hf (wrR hq (f 1 w) (f 3 w) (hf 4 w) (cutF (fun z => (cutF (fun z => hq (f 1 w) (f 3 w + z)) (hf 4 w)) ((hf 4 w) - 1 - z)) (hf 4 w))) kn (nI 0) sm ++ Y) := by
  have hG := hM.1
  have h5M := hM.h5M hC
  have h4M := hC.h4M
  have h9a := hM.h9a hC
  have h6a := hM.h6a
  have hU := hM.hU hC
  have qw := hM.wh hC hw h5w
  refine Cm.of [some (.ref (ba 9)), some (.int (nI w))] pn_X4 rfl (Nat.le_of_ble_eq_true rfl) ?_
  intro p e s m args below meth c A C hE hr hnt hn
  refine r_aload_n C dX4_reverse_0 rfl ?_
  refine r_aload_n C dX4_reverse_1 rfl ?_
  refine r_iload_n C dX4_reverse_2 rfl ?_
  refine d_V (st := [.ref (ba 9)]) hX.1.stb C hE (D_isNoWhere0 (ba := ba) (ra := ra) (hf := hf) (hq := hq) (kn := kn) (th := th) (sm := sm) (Y := Y) (w := w) hX (by first | omega | (simp [up2, *]; done) | (simp [up2, *]; omega) | (simp only [up2_eq]; omega) | (split <;> omega)) (by first | omega | (simp [up2, *]; done) | (simp [up2, *]; omega) | (simp only [up2_eq]; omega) | (split <;> omega))) pk_X4_isNoWhere qm_X4_55 0 8 rfl rfl wm_0 rfl rfl (Nat.le_of_ble_eq_true rfl) dX4_reverse_3 ⟨(Nat.le_of_ble_eq_true rfl), (Nat.le_of_ble_eq_true rfl)⟩ ⟨(Nat.le_of_ble_eq_true rfl), (Nat.le_of_ble_eq_true rfl)⟩ ?_
  refine r_w (w' := WM cy ba ra hf hq kn th sm ++ Y) rfl ?_
  refine r_iconst (v := (nI 0)) C dX4_reverse_6 (by decide) ?_
  refine r_iconst (v := (nI 0)) C dX4_reverse_7 (by decide) ?_
  refine d_V (st := []) hX.1.stb C hE (D_fails0 (ba := ba) (ra := ra) (hf := hf) (hq := hq) (kn := kn) (th := th) (sm := sm) (Y := Y)  hX ) pk_X4_fails qm_X4_84 0 8 rfl rfl wm_0 rfl rfl (Nat.le_of_ble_eq_true rfl) dX4_reverse_8 ⟨(Nat.le_of_ble_eq_true rfl), (Nat.le_of_ble_eq_true rfl)⟩ ⟨(Nat.le_of_ble_eq_true rfl), (Nat.le_of_ble_eq_true rfl)⟩ ?_
  refine r_w (w' := WM cy ba ra hf hq kn (nI 0) sm ++ Y) rfl ?_
  refine r_ifN_eq (a := 0) (tgt := 16) C (by first | omega | (simp [up2, *]; done) | (simp [up2, *]; omega) | (simp only [up2_eq]; omega) | (split <;> omega)) dX4_reverse_11 (by decide) (fun h11_1 => ?_) (fun h11_1 => ?_)
  · skip
    refine r_aload_n C dX4_reverse_16 rfl ?_
    refine r_iload_n C dX4_reverse_17 rfl ?_
    refine r_aload_n C dX4_reverse_18 rfl ?_
    refine r_iload_n C dX4_reverse_19 rfl ?_
    refine e_V (st := [.int (nI w), .ref (ba 9)]) hX.1.stb C hE (D_items (ba := ba) (ra := ra) (hf := hf) (hq := hq) (kn := kn) (th := (nI 0)) (sm := sm) (Y := Y) (f := f) (w := w) hX hC (MG.same (fun _ => rfl) (fun _ => rfl) hG) (by first | omega | (simp [up2, *]; done) | (simp [up2, *]; omega) | (simp only [up2_eq]; omega) | (split <;> omega)) (by first | omega | (simp [up2, *]; done) | (simp [up2, *]; omega) | (simp only [up2_eq]; omega) | (split <;> omega)) (by first | omega | (simp [up2, *]; done) | (simp [up2, *]; omega) | (simp only [up2_eq]; omega) | (split <;> omega)) (by first | omega | (simp [up2, *]; done) | (simp [up2, *]; omega) | (simp only [up2_eq]; omega) | (split <;> omega))) pk_X4_items qm_X4_95 0 8 rfl rfl wm_0 rfl rfl (Nat.le_of_ble_eq_true rfl) dX4_reverse_20 ⟨(Nat.le_of_ble_eq_true rfl), (Nat.le_of_ble_eq_true rfl)⟩ ⟨(Nat.le_of_ble_eq_true rfl), (Nat.le_of_ble_eq_true rfl)⟩ (fun b_2 => ?_)
    refine r_w (w' := WM cy ba ra hf hq kn (nI 0) sm ++ (Y ++ [(b_2, .inl (cy 1, hf 4 w, .inl (cutF (fun z => hq (f 1 w) (f 3 w + z)) (hf 4 w))))])) (by simp only [List.append_assoc, List.cons_append, List.nil_append]) ?_
    refine r_st (st' := [.ref b_2, .int (nI w), .ref (ba 9)]) rfl ?_
    refine e_S (st := [.int (nI w), .ref (ba 9)]) hX.1.stb C hE (D_turned (ba := ba) (ra := ra) (hf := hf) (hq := hq) (kn := kn) (th := (nI 0)) (sm := sm) (b0 := b_2) (n0 := (hf 4 w)) (g0 := (cutF (fun z => hq (f 1 w) (f 3 w + z)) (hf 4 w))) (j0 := (Y.length + 0)) hX (by first | omega | (simp [up2, *]; done) | (simp [up2, *]; omega) | (simp only [up2_eq]; omega) | (split <;> omega)) ((ya_x 0).trans rfl)) pk_X4_turned qm_X4_106 rfl rfl (Nat.le_of_ble_eq_true rfl) dX4_reverse_23 ⟨(Nat.le_of_ble_eq_true rfl), (Nat.le_of_ble_eq_true rfl)⟩ ⟨(Nat.le_of_ble_eq_true rfl), (Nat.le_of_ble_eq_true rfl)⟩ (fun b_3 => ?_)
    refine r_w (w' := WM cy ba ra hf hq kn (nI 0) sm ++ (Y ++ [(b_2, .inl (cy 1, hf 4 w, .inl (cutF (fun z => hq (f 1 w) (f 3 w + z)) (hf 4 w)))), (b_3, .inl (cy 1, hf 4 w, .inl (cutF (fun z => (cutF (fun z => hq (f 1 w) (f 3 w + z)) (hf 4 w)) ((hf 4 w) - 1 - z)) (hf 4 w))))])) (by simp only [List.append_assoc, List.cons_append, List.nil_append]) ?_
    refine r_st (st' := [.ref b_3, .int (nI w), .ref (ba 9)]) rfl ?_
    refine d_Vv (st := []) hX.1.stb C hE (D_put (ba := ba) (ra := ra) (hf := hf) (hq := hq) (kn := kn) (th := (nI 0)) (sm := sm) (f := f) (w := w) (b0 := b_3) (n0 := (hf 4 w)) (g0 := (cutF (fun z => (cutF (fun z => hq (f 1 w) (f 3 w + z)) (hf 4 w)) ((hf 4 w) - 1 - z)) (hf 4 w))) (j0 := (Y.length + 1)) hX hC (MG.same (fun _ => rfl) (fun _ => rfl) hG) (by first | omega | (simp [up2, *]; done) | (simp [up2, *]; omega) | (simp only [up2_eq]; omega) | (split <;> omega)) (by first | omega | (simp [up2, *]; done) | (simp [up2, *]; omega) | (simp only [up2_eq]; omega) | (split <;> omega)) (by first | omega | (simp [up2, *]; done) | (simp [up2, *]; omega) | (simp only [up2_eq]; omega) | (split <;> omega)) (by first | omega | (simp [up2, *]; done) | (simp [up2, *]; omega) | (simp only [up2_eq]; omega) | (split <;> omega)) ((ya_x 1).trans rfl)) pk_X4_put qm_X4_99 0 8 rfl rfl wm_0 rfl rfl (Nat.le_of_ble_eq_true rfl) dX4_reverse_26 ⟨(Nat.le_of_ble_eq_true rfl), (Nat.le_of_ble_eq_true rfl)⟩ ⟨(Nat.le_of_ble_eq_true rfl), (Nat.le_of_ble_eq_true rfl)⟩ ?_
    refine r_w (w' := WM cy ba ra hf (wrR hq (f 1 w) (f 3 w) (hf 4 w) (cutF (fun z => (cutF (fun z => hq (f 1 w) (f 3 w + z)) (hf 4 w)) ((hf 4 w) - 1 - z)) (hf 4 w))) kn (nI 0) sm ++ (Y ++ [(b_2, .inl (cy 1, hf 4 w, .inl (cutF (fun z => hq (f 1 w) (f 3 w + z)) (hf 4 w)))), (b_3, .inl (cy 1, hf 4 w, .inl (cutF (fun z => (cutF (fun z => hq (f 1 w) (f 3 w + z)) (hf 4 w)) ((hf 4 w) - 1 - z)) (hf 4 w))))])) rfl ?_
    refine r_aload_n C dX4_reverse_29 rfl ?_
    refine r_iload_n C dX4_reverse_30 rfl ?_
    refine d_V (st := []) hX.1.stb C hE (D_firstOf1 (ba := ba) (ra := ra) (hf := hf) (hq := (wrR hq (f 1 w) (f 3 w) (hf 4 w) (cutF (fun z => (cutF (fun z => hq (f 1 w) (f 3 w + z)) (hf 4 w)) ((hf 4 w) - 1 - z)) (hf 4 w)))) (kn := kn) (th := (nI 0)) (sm := sm) (f := f) (w := w) hX hC (MG.same (fun _ => rfl) (fun _ => rfl) hG) (by first | omega | (simp [up2, *]; done) | (simp [up2, *]; omega) | (simp only [up2_eq]; omega) | (split <;> omega)) (by first | omega | (simp [up2, *]; done) | (simp [up2, *]; omega) | (simp only [up2_eq]; omega) | (split <;> omega)) (by first | omega | (simp [up2, *]; done) | (simp [up2, *]; omega) | (simp only [up2_eq]; omega) | (split <;> omega)) (by first | omega | (simp [up2, *]; done) | (simp [up2, *]; omega) | (simp only [up2_eq]; omega) | (split <;> omega)) (by first | omega | (simp [up2, *]; done) | (simp [up2, *]; omega) | (simp only [up2_eq]; omega) | (split <;> omega))) pk_X4_firstOf qm_X4_103 0 8 rfl rfl wm_0 rfl rfl (Nat.le_of_ble_eq_true rfl) dX4_reverse_31 ⟨(Nat.le_of_ble_eq_true rfl), (Nat.le_of_ble_eq_true rfl)⟩ ⟨(Nat.le_of_ble_eq_true rfl), (Nat.le_of_ble_eq_true rfl)⟩ ?_
    refine r_w (w' := WM cy ba ra hf (wrR hq (f 1 w) (f 3 w) (hf 4 w) (cutF (fun z => (cutF (fun z => hq (f 1 w) (f 3 w + z)) (hf 4 w)) ((hf 4 w) - 1 - z)) (hf 4 w))) kn (nI 0) sm ++ (Y ++ [(b_2, .inl (cy 1, hf 4 w, .inl (cutF (fun z => hq (f 1 w) (f 3 w + z)) (hf 4 w)))), (b_3, .inl (cy 1, hf 4 w, .inl (cutF (fun z => (cutF (fun z => hq (f 1 w) (f 3 w + z)) (hf 4 w)) ((hf 4 w) - 1 - z)) (hf 4 w))))])) rfl ?_
    refine r_pre ?_
    exact r_iret C hr dX4_reverse_34 ⟨rfl, rfl⟩ (Nat.le_of_ble_eq_true rfl) (Nat.le_of_ble_eq_true rfl)
  · exact absurd h11_1 (by first | omega | (simp [up2, *]; done) | (simp [up2, *]; omega) | (simp only [up2_eq]; omega) | (split <;> omega))
set_option maxRecDepth 100000 in
set_option maxHeartbeats 4000000 in
theorem D_reverse_0 {l : Launch} {D : va_G} {cy : Nat → ClassId} {X : (Nat → Prop) → State → Heap → Prop} {ba ra : Nat → Nat} {hf : Nat → Nat → Nat} {hq : Nat → Nat → Int32} {kn th : Int32} {sm : Int64} {Y : va_W} {f : Nat → Nat → Nat} {r : Nat → Nat → Int32} {w : Nat} (hX : EnvM X cy) (hC : CInv f) (hM : MR f r hf hq) (hw : w < 8) (h5w : f 5 w = 1) (hz : f 4 w = 0) : Cd l D cy X yX4_reverse cX4_reverse 2 (some .int) (rmk 9 4 48 420) [.ref (ba 9), .int (nI w)] (WM cy ba ra hf hq kn th sm ++ Y) (some (.int (nI 100))) (WM cy ba ra hf (wrR hq (f 1 w) (f 3 w) (hf 4 w) (cutF (fun z => (cutF (fun z => hq (f 1 w) (f 3 w + z)) (hf 4 w)) ((hf 4 w) - 1 - z)) (hf 4 w))) kn (nI 0) sm ++ Y) := by
  have hG := hM.1
  have h5M := hM.h5M hC
  have h4M := hC.h4M
  have h9a := hM.h9a hC
  have h6a := hM.h6a
  have hU := hM.hU hC
  have qw := hM.wh hC hw h5w
  refine Cm.of [some (.ref (ba 9)), some (.int (nI w))] pn_X4 rfl (Nat.le_of_ble_eq_true rfl) ?_
  intro p e s m args below meth c A C hE hr hnt hn
  refine r_aload_n C dX4_reverse_0 rfl ?_
  refine r_aload_n C dX4_reverse_1 rfl ?_
  refine r_iload_n C dX4_reverse_2 rfl ?_
  refine d_V (st := [.ref (ba 9)]) hX.1.stb C hE (D_isNoWhere0 (ba := ba) (ra := ra) (hf := hf) (hq := hq) (kn := kn) (th := th) (sm := sm) (Y := Y) (w := w) hX (by first | omega | (simp [up2, *]; done) | (simp [up2, *]; omega) | (simp only [up2_eq]; omega) | (split <;> omega)) (by first | omega | (simp [up2, *]; done) | (simp [up2, *]; omega) | (simp only [up2_eq]; omega) | (split <;> omega))) pk_X4_isNoWhere qm_X4_55 0 8 rfl rfl wm_0 rfl rfl (Nat.le_of_ble_eq_true rfl) dX4_reverse_3 ⟨(Nat.le_of_ble_eq_true rfl), (Nat.le_of_ble_eq_true rfl)⟩ ⟨(Nat.le_of_ble_eq_true rfl), (Nat.le_of_ble_eq_true rfl)⟩ ?_
  refine r_w (w' := WM cy ba ra hf hq kn th sm ++ Y) rfl ?_
  refine r_iconst (v := (nI 0)) C dX4_reverse_6 (by decide) ?_
  refine r_iconst (v := (nI 0)) C dX4_reverse_7 (by decide) ?_
  refine d_V (st := []) hX.1.stb C hE (D_fails0 (ba := ba) (ra := ra) (hf := hf) (hq := hq) (kn := kn) (th := th) (sm := sm) (Y := Y)  hX ) pk_X4_fails qm_X4_84 0 8 rfl rfl wm_0 rfl rfl (Nat.le_of_ble_eq_true rfl) dX4_reverse_8 ⟨(Nat.le_of_ble_eq_true rfl), (Nat.le_of_ble_eq_true rfl)⟩ ⟨(Nat.le_of_ble_eq_true rfl), (Nat.le_of_ble_eq_true rfl)⟩ ?_
  refine r_w (w' := WM cy ba ra hf hq kn (nI 0) sm ++ Y) rfl ?_
  refine r_ifN_eq (a := 0) (tgt := 16) C (by first | omega | (simp [up2, *]; done) | (simp [up2, *]; omega) | (simp only [up2_eq]; omega) | (split <;> omega)) dX4_reverse_11 (by decide) (fun h11_1 => ?_) (fun h11_1 => ?_)
  · skip
    refine r_aload_n C dX4_reverse_16 rfl ?_
    refine r_iload_n C dX4_reverse_17 rfl ?_
    refine r_aload_n C dX4_reverse_18 rfl ?_
    refine r_iload_n C dX4_reverse_19 rfl ?_
    refine e_V (st := [.int (nI w), .ref (ba 9)]) hX.1.stb C hE (D_items (ba := ba) (ra := ra) (hf := hf) (hq := hq) (kn := kn) (th := (nI 0)) (sm := sm) (Y := Y) (f := f) (w := w) hX hC (MG.same (fun _ => rfl) (fun _ => rfl) hG) (by first | omega | (simp [up2, *]; done) | (simp [up2, *]; omega) | (simp only [up2_eq]; omega) | (split <;> omega)) (by first | omega | (simp [up2, *]; done) | (simp [up2, *]; omega) | (simp only [up2_eq]; omega) | (split <;> omega)) (by first | omega | (simp [up2, *]; done) | (simp [up2, *]; omega) | (simp only [up2_eq]; omega) | (split <;> omega)) (by first | omega | (simp [up2, *]; done) | (simp [up2, *]; omega) | (simp only [up2_eq]; omega) | (split <;> omega))) pk_X4_items qm_X4_95 0 8 rfl rfl wm_0 rfl rfl (Nat.le_of_ble_eq_true rfl) dX4_reverse_20 ⟨(Nat.le_of_ble_eq_true rfl), (Nat.le_of_ble_eq_true rfl)⟩ ⟨(Nat.le_of_ble_eq_true rfl), (Nat.le_of_ble_eq_true rfl)⟩ (fun b_2 => ?_)
    refine r_w (w' := WM cy ba ra hf hq kn (nI 0) sm ++ (Y ++ [(b_2, .inl (cy 1, hf 4 w, .inl (cutF (fun z => hq (f 1 w) (f 3 w + z)) (hf 4 w))))])) (by simp only [List.append_assoc, List.cons_append, List.nil_append]) ?_
    refine r_st (st' := [.ref b_2, .int (nI w), .ref (ba 9)]) rfl ?_
    refine e_S (st := [.int (nI w), .ref (ba 9)]) hX.1.stb C hE (D_turned (ba := ba) (ra := ra) (hf := hf) (hq := hq) (kn := kn) (th := (nI 0)) (sm := sm) (b0 := b_2) (n0 := (hf 4 w)) (g0 := (cutF (fun z => hq (f 1 w) (f 3 w + z)) (hf 4 w))) (j0 := (Y.length + 0)) hX (by first | omega | (simp [up2, *]; done) | (simp [up2, *]; omega) | (simp only [up2_eq]; omega) | (split <;> omega)) ((ya_x 0).trans rfl)) pk_X4_turned qm_X4_106 rfl rfl (Nat.le_of_ble_eq_true rfl) dX4_reverse_23 ⟨(Nat.le_of_ble_eq_true rfl), (Nat.le_of_ble_eq_true rfl)⟩ ⟨(Nat.le_of_ble_eq_true rfl), (Nat.le_of_ble_eq_true rfl)⟩ (fun b_3 => ?_)
    refine r_w (w' := WM cy ba ra hf hq kn (nI 0) sm ++ (Y ++ [(b_2, .inl (cy 1, hf 4 w, .inl (cutF (fun z => hq (f 1 w) (f 3 w + z)) (hf 4 w)))), (b_3, .inl (cy 1, hf 4 w, .inl (cutF (fun z => (cutF (fun z => hq (f 1 w) (f 3 w + z)) (hf 4 w)) ((hf 4 w) - 1 - z)) (hf 4 w))))])) (by simp only [List.append_assoc, List.cons_append, List.nil_append]) ?_
    refine r_st (st' := [.ref b_3, .int (nI w), .ref (ba 9)]) rfl ?_
    refine d_Vv (st := []) hX.1.stb C hE (D_put (ba := ba) (ra := ra) (hf := hf) (hq := hq) (kn := kn) (th := (nI 0)) (sm := sm) (f := f) (w := w) (b0 := b_3) (n0 := (hf 4 w)) (g0 := (cutF (fun z => (cutF (fun z => hq (f 1 w) (f 3 w + z)) (hf 4 w)) ((hf 4 w) - 1 - z)) (hf 4 w))) (j0 := (Y.length + 1)) hX hC (MG.same (fun _ => rfl) (fun _ => rfl) hG) (by first | omega | (simp [up2, *]; done) | (simp [up2, *]; omega) | (simp only [up2_eq]; omega) | (split <;> omega)) (by first | omega | (simp [up2, *]; done) | (simp [up2, *]; omega) | (simp only [up2_eq]; omega) | (split <;> omega)) (by first | omega | (simp [up2, *]; done) | (simp [up2, *]; omega) | (simp only [up2_eq]; omega) | (split <;> omega)) (by first | omega | (simp [up2, *]; done) | (simp [up2, *]; omega) | (simp only [up2_eq]; omega) | (split <;> omega)) ((ya_x 1).trans rfl)) pk_X4_put qm_X4_99 0 8 rfl rfl wm_0 rfl rfl (Nat.le_of_ble_eq_true rfl) dX4_reverse_26 ⟨(Nat.le_of_ble_eq_true rfl), (Nat.le_of_ble_eq_true rfl)⟩ ⟨(Nat.le_of_ble_eq_true rfl), (Nat.le_of_ble_eq_true rfl)⟩ ?_
    refine r_w (w' := WM cy ba ra hf (wrR hq (f 1 w) (f 3 w) (hf 4 w) (cutF (fun z => (cutF (fun z => hq (f 1 w) (f 3 w + z)) (hf 4 w)) ((hf 4 w) - 1 - z)) (hf 4 w))) kn (nI 0) sm ++ (Y ++ [(b_2, .inl (cy 1, hf 4 w, .inl (cutF (fun z => hq (f 1 w) (f 3 w + z)) (hf 4 w)))), (b_3, .inl (cy 1, hf 4 w, .inl (cutF (fun z => (cutF (fun z => hq (f 1 w) (f 3 w + z)) (hf 4 w)) ((hf 4 w) - 1 - z)) (hf 4 w))))])) rfl ?_
    refine r_aload_n C dX4_reverse_29 rfl ?_
    refine r_iload_n C dX4_reverse_30 rfl ?_
    refine d_V (st := []) hX.1.stb C hE (D_firstOf0 (ba := ba) (ra := ra) (hf := hf) (hq := (wrR hq (f 1 w) (f 3 w) (hf 4 w) (cutF (fun z => (cutF (fun z => hq (f 1 w) (f 3 w + z)) (hf 4 w)) ((hf 4 w) - 1 - z)) (hf 4 w)))) (kn := kn) (th := (nI 0)) (sm := sm) (w := w) hX (by first | omega | (simp [up2, *]; done) | (simp [up2, *]; omega) | (simp only [up2_eq]; omega) | (split <;> omega)) (by first | omega | (simp [up2, *]; done) | (simp [up2, *]; omega) | (simp only [up2_eq]; omega) | (split <;> omega))) pk_X4_firstOf qm_X4_103 0 8 rfl rfl wm_0 rfl rfl (Nat.le_of_ble_eq_true rfl) dX4_reverse_31 ⟨(Nat.le_of_ble_eq_true rfl), (Nat.le_of_ble_eq_true rfl)⟩ ⟨(Nat.le_of_ble_eq_true rfl), (Nat.le_of_ble_eq_true rfl)⟩ ?_
    refine r_w (w' := WM cy ba ra hf (wrR hq (f 1 w) (f 3 w) (hf 4 w) (cutF (fun z => (cutF (fun z => hq (f 1 w) (f 3 w + z)) (hf 4 w)) ((hf 4 w) - 1 - z)) (hf 4 w))) kn (nI 0) sm ++ (Y ++ [(b_2, .inl (cy 1, hf 4 w, .inl (cutF (fun z => hq (f 1 w) (f 3 w + z)) (hf 4 w)))), (b_3, .inl (cy 1, hf 4 w, .inl (cutF (fun z => (cutF (fun z => hq (f 1 w) (f 3 w + z)) (hf 4 w)) ((hf 4 w) - 1 - z)) (hf 4 w))))])) rfl ?_
    refine r_pre ?_
    exact r_iret C hr dX4_reverse_34 ⟨rfl, rfl⟩ (Nat.le_of_ble_eq_true rfl) (Nat.le_of_ble_eq_true rfl)
  · exact absurd h11_1 (by first | omega | (simp [up2, *]; done) | (simp [up2, *]; omega) | (simp only [up2_eq]; omega) | (split <;> omega))
theorem dX4_swap_0 : decode cX4_swap 0 = .ok (.aload_n 0, 1) := dqo_42 (kb_X4_swap_0 0 rfl)
theorem dX4_swap_1 : decode cX4_swap 1 = .ok (.aload_n 0, 1) := dqo_42 (kb_X4_swap_0 1 rfl)
theorem dX4_swap_2 : decode cX4_swap 2 = .ok (.iload_n 1, 1) := dqo_27 (kb_X4_swap_0 2 rfl)
theorem dX4_swap_3 : decode cX4_swap 3 = .ok (.iload_n 2, 1) := dqo_28 (kb_X4_swap_0 3 rfl)
theorem dX4_swap_4 : decode cX4_swap 4 = .ok (.invokevirtual 92, 3) := dqo_182 0 92 (kb_X4_swap_0 4 rfl) (kb_X4_swap_0 5 rfl) (kb_X4_swap_0 6 rfl)
theorem dX4_swap_7 : decode cX4_swap 7 = .ok (.ifCond .ne 12, 3) := dqo_154 0 12 (by decide) (kb_X4_swap_0 7 rfl) (kb_X4_swap_0 8 rfl) (kb_X4_swap_0 9 rfl)
theorem dX4_swap_19 : decode cX4_swap 19 = .ok (.iconst 1, 1) := dqo_4 (kb_X4_swap_0 19 rfl)
theorem dX4_swap_20 : decode cX4_swap 20 = .ok (.goto 4, 3) := dqo_167 0 4 (by decide) (kb_X4_swap_0 20 rfl) (kb_X4_swap_0 21 rfl) (kb_X4_swap_0 22 rfl)
theorem dX4_swap_24 : decode cX4_swap 24 = .ok (.iconst 0, 1) := dqo_3 (kb_X4_swap_0 24 rfl)
theorem dX4_swap_25 : decode cX4_swap 25 = .ok (.iconst 0, 1) := dqo_3 (kb_X4_swap_0 25 rfl)
theorem dX4_swap_26 : decode cX4_swap 26 = .ok (.invokevirtual 84, 3) := dqo_182 0 84 (kb_X4_swap_0 26 rfl) (kb_X4_swap_0 27 rfl) (kb_X4_swap_0 28 rfl)
theorem dX4_swap_29 : decode cX4_swap 29 = .ok (.ifCond .eq 5, 3) := dqo_153 0 5 (by decide) (kb_X4_swap_0 29 rfl) (kb_X4_swap_0 30 rfl) (kb_X4_swap_0 31 rfl)
theorem dX4_swap_32 : decode cX4_swap 32 = .ok (.iconst 0, 1) := dqo_3 (kb_X4_swap_0 32 rfl)
theorem dX4_swap_33 : decode cX4_swap 33 = .ok (.ireturn, 1) := dqo_172 (kb_X4_swap_0 33 rfl)
set_option maxRecDepth 100000 in
set_option maxHeartbeats 4000000 in
theorem D_swap_noW {l : Launch} {D : va_G} {cy : Nat → ClassId} {X : (Nat → Prop) → State → Heap → Prop} {ba ra : Nat → Nat} {hf : Nat → Nat → Nat} {hq : Nat → Nat → Int32} {kn th : Int32} {sm : Int64} {Y : va_W} {f : Nat → Nat → Nat} {r : Nat → Nat → Int32} {x : Int32} {y0 : Int32} {y1 : Int32} (hX : EnvM X cy) (hC : CInv f) (hM : MR f r hf hq) (hno : noW f x) : Cd l D cy X yX4_swap cX4_swap 6 (some .int) (rmk 9 4 48 420) [.ref (ba 9), .int x, .int y0, .int y1] (WM cy ba ra hf hq kn th sm ++ Y) (some (.int (nI 0))) (WM cy ba ra hf hq kn (nI 1) sm ++ Y) := by
  have hG := hM.1
  have h5M := hM.h5M hC
  have h4M := hC.h4M
  have h9a := hM.h9a hC
  have h6a := hM.h6a
  have hU := hM.hU hC
  refine Cm.of [some (.ref (ba 9)), some (.int x), some (.int y0), some (.int y1), none, none] pn_X4 rfl (Nat.le_of_ble_eq_true rfl) ?_
  intro p e s m args below meth c A C hE hr hnt hn
  refine r_aload_n C dX4_swap_0 rfl ?_
  refine r_aload_n C dX4_swap_1 rfl ?_
  refine r_iload_n C dX4_swap_2 rfl ?_
  refine r_iload_n C dX4_swap_3 rfl ?_
  refine d_V (st := [.ref (ba 9)]) hX.1.stb C hE (D_isNoPlace1w (ba := ba) (ra := ra) (hf := hf) (hq := hq) (kn := kn) (th := th) (sm := sm) (Y := Y) (f := f) (x := (x)) (y := (y0)) hX h5M h4M hno) pk_X4_isNoPlace qm_X4_92 0 8 rfl rfl wm_0 rfl rfl (Nat.le_of_ble_eq_true rfl) dX4_swap_4 ⟨(Nat.le_of_ble_eq_true rfl), (Nat.le_of_ble_eq_true rfl)⟩ ⟨(Nat.le_of_ble_eq_true rfl), (Nat.le_of_ble_eq_true rfl)⟩ ?_
  refine r_w (w' := WM cy ba ra hf hq kn th sm ++ Y) rfl ?_
  refine r_ifN_ne (a := 1) (tgt := 19) C (by first | omega | (simp [up2, *]; done) | (simp [up2, *]; omega) | (simp only [up2_eq]; omega) | (split <;> omega)) dX4_swap_7 (by decide) (fun h7_1 => ?_) (fun h7_1 => ?_)
  · skip
    refine r_iconst (v := (nI 1)) C dX4_swap_19 (by decide) ?_
    refine r_goto (tgt := 24) C dX4_swap_20 (by decide) ?_
    refine r_iconst (v := (nI 0)) C dX4_swap_24 (by decide) ?_
    refine r_iconst (v := (nI 0)) C dX4_swap_25 (by decide) ?_
    refine d_V (st := []) hX.1.stb C hE (D_fails1 (ba := ba) (ra := ra) (hf := hf) (hq := hq) (kn := kn) (th := th) (sm := sm) (Y := Y) (b0 := 0) (d0 := 0) hX ) pk_X4_fails qm_X4_84 0 8 rfl rfl wm_0 rfl rfl (Nat.le_of_ble_eq_true rfl) dX4_swap_26 ⟨(Nat.le_of_ble_eq_true rfl), (Nat.le_of_ble_eq_true rfl)⟩ ⟨(Nat.le_of_ble_eq_true rfl), (Nat.le_of_ble_eq_true rfl)⟩ ?_
    refine r_w (w' := WM cy ba ra hf hq kn (nI 1) sm ++ Y) rfl ?_
    refine r_ifN_eq (a := 1) (tgt := 34) C (by first | omega | (simp [up2, *]; done) | (simp [up2, *]; omega) | (simp only [up2_eq]; omega) | (split <;> omega)) dX4_swap_29 (by decide) (fun h29_2 => ?_) (fun h29_2 => ?_)
    · exact absurd h29_2 (by first | omega | (simp [up2, *]; done) | (simp [up2, *]; omega) | (simp only [up2_eq]; omega) | (split <;> omega))
    · skip
      refine r_iconst (v := (nI 0)) C dX4_swap_32 (by decide) ?_
      exact r_iret C hr dX4_swap_33 ⟨rfl, rfl⟩ (Nat.le_of_ble_eq_true rfl) (Nat.le_of_ble_eq_true rfl)
  · exact absurd h7_1 (by first | omega | (simp [up2, *]; done) | (simp [up2, *]; omega) | (simp only [up2_eq]; omega) | (split <;> omega))
set_option maxRecDepth 100000 in
set_option maxHeartbeats 4000000 in
theorem D_swap_no1 {l : Launch} {D : va_G} {cy : Nat → ClassId} {X : (Nat → Prop) → State → Heap → Prop} {ba ra : Nat → Nat} {hf : Nat → Nat → Nat} {hq : Nat → Nat → Int32} {kn th : Int32} {sm : Int64} {Y : va_W} {f : Nat → Nat → Nat} {r : Nat → Nat → Int32} {w : Nat} {y0 : Int32} {y1 : Int32} (hX : EnvM X cy) (hC : CInv f) (hM : MR f r hf hq) (hw : w < 8) (h5w : f 5 w = 1) (hno : ¬ (0 ≤ y0 ∧ y0 < nI (f 4 w))) : Cd l D cy X yX4_swap cX4_swap 6 (some .int) (rmk 9 4 48 420) [.ref (ba 9), .int (nI w), .int y0, .int y1] (WM cy ba ra hf hq kn th sm ++ Y) (some (.int (nI 0))) (WM cy ba ra hf hq kn (nI 1) sm ++ Y) := by
  have hG := hM.1
  have h5M := hM.h5M hC
  have h4M := hC.h4M
  have h9a := hM.h9a hC
  have h6a := hM.h6a
  have hU := hM.hU hC
  have qw := hM.wh hC hw h5w
  refine Cm.of [some (.ref (ba 9)), some (.int (nI w)), some (.int y0), some (.int y1), none, none] pn_X4 rfl (Nat.le_of_ble_eq_true rfl) ?_
  intro p e s m args below meth c A C hE hr hnt hn
  refine r_aload_n C dX4_swap_0 rfl ?_
  refine r_aload_n C dX4_swap_1 rfl ?_
  refine r_iload_n C dX4_swap_2 rfl ?_
  refine r_iload_n C dX4_swap_3 rfl ?_
  refine d_V (st := [.ref (ba 9)]) hX.1.stb C hE (D_isNoPlace1 (ba := ba) (ra := ra) (hf := hf) (hq := hq) (kn := kn) (th := th) (sm := sm) (Y := Y) (w := w) (y := (y0)) hX (by first | omega | (simp [up2, *]; done) | (simp [up2, *]; omega) | (simp only [up2_eq]; omega) | (split <;> omega)) (by first | omega | (simp [up2, *]; done) | (simp [up2, *]; omega) | (simp only [up2_eq]; omega) | (split <;> omega)) (by first | omega | (simp [up2, *]; done) | (simp [up2, *]; omega) | (simp only [up2_eq]; omega) | (split <;> omega)) (by rw [qw.1]; exact hno)) pk_X4_isNoPlace qm_X4_92 0 8 rfl rfl wm_0 rfl rfl (Nat.le_of_ble_eq_true rfl) dX4_swap_4 ⟨(Nat.le_of_ble_eq_true rfl), (Nat.le_of_ble_eq_true rfl)⟩ ⟨(Nat.le_of_ble_eq_true rfl), (Nat.le_of_ble_eq_true rfl)⟩ ?_
  refine r_w (w' := WM cy ba ra hf hq kn th sm ++ Y) rfl ?_
  refine r_ifN_ne (a := 1) (tgt := 19) C (by first | omega | (simp [up2, *]; done) | (simp [up2, *]; omega) | (simp only [up2_eq]; omega) | (split <;> omega)) dX4_swap_7 (by decide) (fun h7_1 => ?_) (fun h7_1 => ?_)
  · skip
    refine r_iconst (v := (nI 1)) C dX4_swap_19 (by decide) ?_
    refine r_goto (tgt := 24) C dX4_swap_20 (by decide) ?_
    refine r_iconst (v := (nI 0)) C dX4_swap_24 (by decide) ?_
    refine r_iconst (v := (nI 0)) C dX4_swap_25 (by decide) ?_
    refine d_V (st := []) hX.1.stb C hE (D_fails1 (ba := ba) (ra := ra) (hf := hf) (hq := hq) (kn := kn) (th := th) (sm := sm) (Y := Y) (b0 := 0) (d0 := 0) hX ) pk_X4_fails qm_X4_84 0 8 rfl rfl wm_0 rfl rfl (Nat.le_of_ble_eq_true rfl) dX4_swap_26 ⟨(Nat.le_of_ble_eq_true rfl), (Nat.le_of_ble_eq_true rfl)⟩ ⟨(Nat.le_of_ble_eq_true rfl), (Nat.le_of_ble_eq_true rfl)⟩ ?_
    refine r_w (w' := WM cy ba ra hf hq kn (nI 1) sm ++ Y) rfl ?_
    refine r_ifN_eq (a := 1) (tgt := 34) C (by first | omega | (simp [up2, *]; done) | (simp [up2, *]; omega) | (simp only [up2_eq]; omega) | (split <;> omega)) dX4_swap_29 (by decide) (fun h29_2 => ?_) (fun h29_2 => ?_)
    · exact absurd h29_2 (by first | omega | (simp [up2, *]; done) | (simp [up2, *]; omega) | (simp only [up2_eq]; omega) | (split <;> omega))
    · skip
      refine r_iconst (v := (nI 0)) C dX4_swap_32 (by decide) ?_
      exact r_iret C hr dX4_swap_33 ⟨rfl, rfl⟩ (Nat.le_of_ble_eq_true rfl) (Nat.le_of_ble_eq_true rfl)
  · exact absurd h7_1 (by first | omega | (simp [up2, *]; done) | (simp [up2, *]; omega) | (simp only [up2_eq]; omega) | (split <;> omega))
theorem dX4_swap_10 : decode cX4_swap 10 = .ok (.aload_n 0, 1) := dqo_42 (kb_X4_swap_0 10 rfl)
theorem dX4_swap_11 : decode cX4_swap 11 = .ok (.iload_n 1, 1) := dqo_27 (kb_X4_swap_0 11 rfl)
theorem dX4_swap_12 : decode cX4_swap 12 = .ok (.iload_n 3, 1) := dqo_29 (kb_X4_swap_0 12 rfl)
theorem dX4_swap_13 : decode cX4_swap 13 = .ok (.invokevirtual 92, 3) := dqo_182 0 92 (kb_X4_swap_0 13 rfl) (kb_X4_swap_0 14 rfl) (kb_X4_swap_0 15 rfl)
theorem dX4_swap_16 : decode cX4_swap 16 = .ok (.ifCond .eq 7, 3) := dqo_153 0 7 (by decide) (kb_X4_swap_0 16 rfl) (kb_X4_swap_0 17 rfl) (kb_X4_swap_0 18 rfl)
set_option maxRecDepth 100000 in
set_option maxHeartbeats 4000000 in
theorem D_swap_no2 {l : Launch} {D : va_G} {cy : Nat → ClassId} {X : (Nat → Prop) → State → Heap → Prop} {ba ra : Nat → Nat} {hf : Nat → Nat → Nat} {hq : Nat → Nat → Int32} {kn th : Int32} {sm : Int64} {Y : va_W} {f : Nat → Nat → Nat} {r : Nat → Nat → Int32} {w : Nat} {k0 : Nat} {y0 : Int32} (hX : EnvM X cy) (hC : CInv f) (hM : MR f r hf hq) (hw : w < 8) (h5w : f 5 w = 1) (hk : k0 < f 4 w) (hno : ¬ (0 ≤ y0 ∧ y0 < nI (f 4 w))) : Cd l D cy X yX4_swap cX4_swap 6 (some .int) (rmk 9 4 48 420) [.ref (ba 9), .int (nI w), .int (nI k0), .int y0] (WM cy ba ra hf hq kn th sm ++ Y) (some (.int (nI 0))) (WM cy ba ra hf hq kn (nI 1) sm ++ Y) := by
  have hG := hM.1
  have h5M := hM.h5M hC
  have h4M := hC.h4M
  have h9a := hM.h9a hC
  have h6a := hM.h6a
  have hU := hM.hU hC
  have qw := hM.wh hC hw h5w
  refine Cm.of [some (.ref (ba 9)), some (.int (nI w)), some (.int (nI k0)), some (.int y0), none, none] pn_X4 rfl (Nat.le_of_ble_eq_true rfl) ?_
  intro p e s m args below meth c A C hE hr hnt hn
  refine r_aload_n C dX4_swap_0 rfl ?_
  refine r_aload_n C dX4_swap_1 rfl ?_
  refine r_iload_n C dX4_swap_2 rfl ?_
  refine r_iload_n C dX4_swap_3 rfl ?_
  refine d_V (st := [.ref (ba 9)]) hX.1.stb C hE (D_isNoPlace0 (ba := ba) (ra := ra) (hf := hf) (hq := hq) (kn := kn) (th := th) (sm := sm) (Y := Y) (w := w) (k := k0) hX (by first | omega | (simp [up2, *]; done) | (simp [up2, *]; omega) | (simp only [up2_eq]; omega) | (split <;> omega)) (by first | omega | (simp [up2, *]; done) | (simp [up2, *]; omega) | (simp only [up2_eq]; omega) | (split <;> omega)) (by first | omega | (simp [up2, *]; done) | (simp [up2, *]; omega) | (simp only [up2_eq]; omega) | (split <;> omega)) (by first | omega | (simp [up2, *]; done) | (simp [up2, *]; omega) | (simp only [up2_eq]; omega) | (split <;> omega))) pk_X4_isNoPlace qm_X4_92 0 8 rfl rfl wm_0 rfl rfl (Nat.le_of_ble_eq_true rfl) dX4_swap_4 ⟨(Nat.le_of_ble_eq_true rfl), (Nat.le_of_ble_eq_true rfl)⟩ ⟨(Nat.le_of_ble_eq_true rfl), (Nat.le_of_ble_eq_true rfl)⟩ ?_
  refine r_w (w' := WM cy ba ra hf hq kn th sm ++ Y) rfl ?_
  refine r_ifN_ne (a := 0) (tgt := 19) C (by first | omega | (simp [up2, *]; done) | (simp [up2, *]; omega) | (simp only [up2_eq]; omega) | (split <;> omega)) dX4_swap_7 (by decide) (fun h7_1 => ?_) (fun h7_1 => ?_)
  · exact absurd h7_1 (by first | omega | (simp [up2, *]; done) | (simp [up2, *]; omega) | (simp only [up2_eq]; omega) | (split <;> omega))
  · skip
    refine r_aload_n C dX4_swap_10 rfl ?_
    refine r_iload_n C dX4_swap_11 rfl ?_
    refine r_iload_n C dX4_swap_12 rfl ?_
    refine d_V (st := [.ref (ba 9)]) hX.1.stb C hE (D_isNoPlace1 (ba := ba) (ra := ra) (hf := hf) (hq := hq) (kn := kn) (th := th) (sm := sm) (Y := Y) (w := w) (y := (y0)) hX (by first | omega | (simp [up2, *]; done) | (simp [up2, *]; omega) | (simp only [up2_eq]; omega) | (split <;> omega)) (by first | omega | (simp [up2, *]; done) | (simp [up2, *]; omega) | (simp only [up2_eq]; omega) | (split <;> omega)) (by first | omega | (simp [up2, *]; done) | (simp [up2, *]; omega) | (simp only [up2_eq]; omega) | (split <;> omega)) (by rw [qw.1]; exact hno)) pk_X4_isNoPlace qm_X4_92 0 8 rfl rfl wm_0 rfl rfl (Nat.le_of_ble_eq_true rfl) dX4_swap_13 ⟨(Nat.le_of_ble_eq_true rfl), (Nat.le_of_ble_eq_true rfl)⟩ ⟨(Nat.le_of_ble_eq_true rfl), (Nat.le_of_ble_eq_true rfl)⟩ ?_
    refine r_w (w' := WM cy ba ra hf hq kn th sm ++ Y) rfl ?_
    refine r_ifN_eq (a := 1) (tgt := 23) C (by first | omega | (simp [up2, *]; done) | (simp [up2, *]; omega) | (simp only [up2_eq]; omega) | (split <;> omega)) dX4_swap_16 (by decide) (fun h16_2 => ?_) (fun h16_2 => ?_)
    · exact absurd h16_2 (by first | omega | (simp [up2, *]; done) | (simp [up2, *]; omega) | (simp only [up2_eq]; omega) | (split <;> omega))
    · skip
      refine r_iconst (v := (nI 1)) C dX4_swap_19 (by decide) ?_
      refine r_goto (tgt := 24) C dX4_swap_20 (by decide) ?_
      refine r_iconst (v := (nI 0)) C dX4_swap_24 (by decide) ?_
      refine r_iconst (v := (nI 0)) C dX4_swap_25 (by decide) ?_
      refine d_V (st := []) hX.1.stb C hE (D_fails1 (ba := ba) (ra := ra) (hf := hf) (hq := hq) (kn := kn) (th := th) (sm := sm) (Y := Y) (b0 := 0) (d0 := 0) hX ) pk_X4_fails qm_X4_84 0 8 rfl rfl wm_0 rfl rfl (Nat.le_of_ble_eq_true rfl) dX4_swap_26 ⟨(Nat.le_of_ble_eq_true rfl), (Nat.le_of_ble_eq_true rfl)⟩ ⟨(Nat.le_of_ble_eq_true rfl), (Nat.le_of_ble_eq_true rfl)⟩ ?_
      refine r_w (w' := WM cy ba ra hf hq kn (nI 1) sm ++ Y) rfl ?_
      refine r_ifN_eq (a := 1) (tgt := 34) C (by first | omega | (simp [up2, *]; done) | (simp [up2, *]; omega) | (simp only [up2_eq]; omega) | (split <;> omega)) dX4_swap_29 (by decide) (fun h29_3 => ?_) (fun h29_3 => ?_)
      · exact absurd h29_3 (by first | omega | (simp [up2, *]; done) | (simp [up2, *]; omega) | (simp only [up2_eq]; omega) | (split <;> omega))
      · skip
        refine r_iconst (v := (nI 0)) C dX4_swap_32 (by decide) ?_
        exact r_iret C hr dX4_swap_33 ⟨rfl, rfl⟩ (Nat.le_of_ble_eq_true rfl) (Nat.le_of_ble_eq_true rfl)
theorem dX4_swap_23 : decode cX4_swap 23 = .ok (.iconst 0, 1) := dqo_3 (kb_X4_swap_0 23 rfl)
theorem dX4_swap_34 : decode cX4_swap 34 = .ok (.aload_n 0, 1) := dqo_42 (kb_X4_swap_0 34 rfl)
theorem dX4_swap_35 : decode cX4_swap 35 = .ok (.iload_n 1, 1) := dqo_27 (kb_X4_swap_0 35 rfl)
theorem dX4_swap_36 : decode cX4_swap 36 = .ok (.iload_n 2, 1) := dqo_28 (kb_X4_swap_0 36 rfl)
theorem dX4_swap_37 : decode cX4_swap 37 = .ok (.invokevirtual 62, 3) := dqo_182 0 62 (kb_X4_swap_0 37 rfl) (kb_X4_swap_0 38 rfl) (kb_X4_swap_0 39 rfl)
theorem dX4_swap_40 : decode cX4_swap 40 = .ok (.istore 4, 2) := dqo_54 4 (kb_X4_swap_0 40 rfl) (kb_X4_swap_0 41 rfl)
theorem dX4_swap_42 : decode cX4_swap 42 = .ok (.aload_n 0, 1) := dqo_42 (kb_X4_swap_0 42 rfl)
theorem dX4_swap_43 : decode cX4_swap 43 = .ok (.iload_n 1, 1) := dqo_27 (kb_X4_swap_0 43 rfl)
theorem dX4_swap_44 : decode cX4_swap 44 = .ok (.iload_n 3, 1) := dqo_29 (kb_X4_swap_0 44 rfl)
theorem dX4_swap_45 : decode cX4_swap 45 = .ok (.invokevirtual 62, 3) := dqo_182 0 62 (kb_X4_swap_0 45 rfl) (kb_X4_swap_0 46 rfl) (kb_X4_swap_0 47 rfl)
theorem dX4_swap_48 : decode cX4_swap 48 = .ok (.istore 5, 2) := dqo_54 5 (kb_X4_swap_0 48 rfl) (kb_X4_swap_0 49 rfl)
theorem dX4_swap_50 : decode cX4_swap 50 = .ok (.aload_n 0, 1) := dqo_42 (kb_X4_swap_0 50 rfl)
theorem dX4_swap_51 : decode cX4_swap 51 = .ok (.getfield 15, 3) := dqo_180 0 15 (kb_X4_swap_0 51 rfl) (kb_X4_swap_0 52 rfl) (kb_X4_swap_0 53 rfl)
theorem dX4_swap_54 : decode cX4_swap 54 = .ok (.aload_n 0, 1) := dqo_42 (kb_X4_swap_0 54 rfl)
theorem dX4_swap_55 : decode cX4_swap 55 = .ok (.iload_n 1, 1) := dqo_27 (kb_X4_swap_0 55 rfl)
theorem dX4_swap_56 : decode cX4_swap 56 = .ok (.invokevirtual 48, 3) := dqo_182 0 48 (kb_X4_swap_0 56 rfl) (kb_X4_swap_0 57 rfl) (kb_X4_swap_0 58 rfl)
theorem dX4_swap_59 : decode cX4_swap 59 = .ok (.aaload, 1) := dqo_50 (kb_X4_swap_0 59 rfl)
theorem dX4_swap_60 : decode cX4_swap 60 = .ok (.aload_n 0, 1) := dqo_42 (kb_X4_swap_0 60 rfl)
theorem dX4_swap_61 : decode cX4_swap 61 = .ok (.iload_n 1, 1) := dqo_27 (kb_X4_swap_0 61 rfl)
theorem dX4_swap_62 : decode cX4_swap 62 = .ok (.invokevirtual 52, 3) := dqo_182 0 52 (kb_X4_swap_0 62 rfl) (kb_X4_swap_0 63 rfl) (kb_X4_swap_1 0 rfl)
theorem dX4_swap_65 : decode cX4_swap 65 = .ok (.iload_n 2, 1) := dqo_28 (kb_X4_swap_1 1 rfl)
theorem dX4_swap_66 : decode cX4_swap 66 = .ok (.iadd, 1) := dqo_96 (kb_X4_swap_1 2 rfl)
theorem dX4_swap_67 : decode cX4_swap 67 = .ok (.iload 5, 2) := dqo_21 5 (kb_X4_swap_1 3 rfl) (kb_X4_swap_1 4 rfl)
theorem dX4_swap_69 : decode cX4_swap 69 = .ok (.iastore, 1) := dqo_79 (kb_X4_swap_1 5 rfl)
theorem dX4_swap_70 : decode cX4_swap 70 = .ok (.aload_n 0, 1) := dqo_42 (kb_X4_swap_1 6 rfl)
theorem dX4_swap_71 : decode cX4_swap 71 = .ok (.getfield 15, 3) := dqo_180 0 15 (kb_X4_swap_1 7 rfl) (kb_X4_swap_1 8 rfl) (kb_X4_swap_1 9 rfl)
theorem dX4_swap_74 : decode cX4_swap 74 = .ok (.aload_n 0, 1) := dqo_42 (kb_X4_swap_1 10 rfl)
theorem dX4_swap_75 : decode cX4_swap 75 = .ok (.iload_n 1, 1) := dqo_27 (kb_X4_swap_1 11 rfl)
theorem dX4_swap_76 : decode cX4_swap 76 = .ok (.invokevirtual 48, 3) := dqo_182 0 48 (kb_X4_swap_1 12 rfl) (kb_X4_swap_1 13 rfl) (kb_X4_swap_1 14 rfl)
theorem dX4_swap_79 : decode cX4_swap 79 = .ok (.aaload, 1) := dqo_50 (kb_X4_swap_1 15 rfl)
theorem dX4_swap_80 : decode cX4_swap 80 = .ok (.aload_n 0, 1) := dqo_42 (kb_X4_swap_1 16 rfl)
theorem dX4_swap_81 : decode cX4_swap 81 = .ok (.iload_n 1, 1) := dqo_27 (kb_X4_swap_1 17 rfl)
theorem dX4_swap_82 : decode cX4_swap 82 = .ok (.invokevirtual 52, 3) := dqo_182 0 52 (kb_X4_swap_1 18 rfl) (kb_X4_swap_1 19 rfl) (kb_X4_swap_1 20 rfl)
theorem dX4_swap_85 : decode cX4_swap 85 = .ok (.iload_n 3, 1) := dqo_29 (kb_X4_swap_1 21 rfl)
theorem dX4_swap_86 : decode cX4_swap 86 = .ok (.iadd, 1) := dqo_96 (kb_X4_swap_1 22 rfl)
theorem dX4_swap_87 : decode cX4_swap 87 = .ok (.iload 4, 2) := dqo_21 4 (kb_X4_swap_1 23 rfl) (kb_X4_swap_1 24 rfl)
theorem dX4_swap_89 : decode cX4_swap 89 = .ok (.iastore, 1) := dqo_79 (kb_X4_swap_1 25 rfl)
theorem dX4_swap_90 : decode cX4_swap 90 = .ok (.iload 5, 2) := dqo_21 5 (kb_X4_swap_1 26 rfl) (kb_X4_swap_1 27 rfl)
theorem dX4_swap_92 : decode cX4_swap 92 = .ok (.ireturn, 1) := dqo_172 (kb_X4_swap_1 28 rfl)
set_option maxRecDepth 100000 in
set_option maxHeartbeats 4000000 in
theorem D_swap_ok {l : Launch} {D : va_G} {cy : Nat → ClassId} {X : (Nat → Prop) → State → Heap → Prop} {ba ra : Nat → Nat} {hf : Nat → Nat → Nat} {hq : Nat → Nat → Int32} {kn th : Int32} {sm : Int64} {Y : va_W} {f : Nat → Nat → Nat} {r : Nat → Nat → Int32} {w : Nat} {k0 : Nat} {k1 : Nat} (hX : EnvM X cy) (hC : CInv f) (hM : MR f r hf hq) (hw : w < 8) (h5w : f 5 w = 1) (hk : k0 < f 4 w) (hk1 : k1 < f 4 w) : Cd l D cy X yX4_swap cX4_swap 6 (some .int) (rmk 9 4 48 420) [.ref (ba 9), .int (nI w), .int (nI k0), .int (nI k1)] (WM cy ba ra hf hq kn th sm ++ Y) (some (.int (hq (f 1 w) (f 3 w + k1)))) (WM cy ba ra hf (up2 (up2 hq (f 1 w) ((f 3 w) + k0) (hq (f 1 w) (f 3 w + k1))) (f 1 w) ((f 3 w) + k1) (hq (f 1 w) (f 3 w + k0))) kn (nI 0) sm ++ Y) := by
  have hG := hM.1
  have h5M := hM.h5M hC
  have h4M := hC.h4M
  have h9a := hM.h9a hC
  have h6a := hM.h6a
  have hU := hM.hU hC
  have qw := hM.wh hC hw h5w
  refine Cm.of [some (.ref (ba 9)), some (.int (nI w)), some (.int (nI k0)), some (.int (nI k1)), none, none] pn_X4 rfl (Nat.le_of_ble_eq_true rfl) ?_
  intro p e s m args below meth c A C hE hr hnt hn
  refine r_aload_n C dX4_swap_0 rfl ?_
  refine r_aload_n C dX4_swap_1 rfl ?_
  refine r_iload_n C dX4_swap_2 rfl ?_
  refine r_iload_n C dX4_swap_3 rfl ?_
  refine d_V (st := [.ref (ba 9)]) hX.1.stb C hE (D_isNoPlace0 (ba := ba) (ra := ra) (hf := hf) (hq := hq) (kn := kn) (th := th) (sm := sm) (Y := Y) (w := w) (k := k0) hX (by first | omega | (simp [up2, *]; done) | (simp [up2, *]; omega) | (simp only [up2_eq]; omega) | (split <;> omega)) (by first | omega | (simp [up2, *]; done) | (simp [up2, *]; omega) | (simp only [up2_eq]; omega) | (split <;> omega)) (by first | omega | (simp [up2, *]; done) | (simp [up2, *]; omega) | (simp only [up2_eq]; omega) | (split <;> omega)) (by first | omega | (simp [up2, *]; done) | (simp [up2, *]; omega) | (simp only [up2_eq]; omega) | (split <;> omega))) pk_X4_isNoPlace qm_X4_92 0 8 rfl rfl wm_0 rfl rfl (Nat.le_of_ble_eq_true rfl) dX4_swap_4 ⟨(Nat.le_of_ble_eq_true rfl), (Nat.le_of_ble_eq_true rfl)⟩ ⟨(Nat.le_of_ble_eq_true rfl), (Nat.le_of_ble_eq_true rfl)⟩ ?_
  refine r_w (w' := WM cy ba ra hf hq kn th sm ++ Y) rfl ?_
  refine r_ifN_ne (a := 0) (tgt := 19) C (by first | omega | (simp [up2, *]; done) | (simp [up2, *]; omega) | (simp only [up2_eq]; omega) | (split <;> omega)) dX4_swap_7 (by decide) (fun h7_1 => ?_) (fun h7_1 => ?_)
  · exact absurd h7_1 (by first | omega | (simp [up2, *]; done) | (simp [up2, *]; omega) | (simp only [up2_eq]; omega) | (split <;> omega))
  · skip
    refine r_aload_n C dX4_swap_10 rfl ?_
    refine r_iload_n C dX4_swap_11 rfl ?_
    refine r_iload_n C dX4_swap_12 rfl ?_
    refine d_V (st := [.ref (ba 9)]) hX.1.stb C hE (D_isNoPlace0 (ba := ba) (ra := ra) (hf := hf) (hq := hq) (kn := kn) (th := th) (sm := sm) (Y := Y) (w := w) (k := k1) hX (by first | omega | (simp [up2, *]; done) | (simp [up2, *]; omega) | (simp only [up2_eq]; omega) | (split <;> omega)) (by first | omega | (simp [up2, *]; done) | (simp [up2, *]; omega) | (simp only [up2_eq]; omega) | (split <;> omega)) (by first | omega | (simp [up2, *]; done) | (simp [up2, *]; omega) | (simp only [up2_eq]; omega) | (split <;> omega)) (by first | omega | (simp [up2, *]; done) | (simp [up2, *]; omega) | (simp only [up2_eq]; omega) | (split <;> omega))) pk_X4_isNoPlace qm_X4_92 0 8 rfl rfl wm_0 rfl rfl (Nat.le_of_ble_eq_true rfl) dX4_swap_13 ⟨(Nat.le_of_ble_eq_true rfl), (Nat.le_of_ble_eq_true rfl)⟩ ⟨(Nat.le_of_ble_eq_true rfl), (Nat.le_of_ble_eq_true rfl)⟩ ?_
    refine r_w (w' := WM cy ba ra hf hq kn th sm ++ Y) rfl ?_
    refine r_ifN_eq (a := 0) (tgt := 23) C (by first | omega | (simp [up2, *]; done) | (simp [up2, *]; omega) | (simp only [up2_eq]; omega) | (split <;> omega)) dX4_swap_16 (by decide) (fun h16_2 => ?_) (fun h16_2 => ?_)
    · skip
      refine r_iconst (v := (nI 0)) C dX4_swap_23 (by decide) ?_
      refine r_iconst (v := (nI 0)) C dX4_swap_24 (by decide) ?_
      refine r_iconst (v := (nI 0)) C dX4_swap_25 (by decide) ?_
      refine d_V (st := []) hX.1.stb C hE (D_fails0 (ba := ba) (ra := ra) (hf := hf) (hq := hq) (kn := kn) (th := th) (sm := sm) (Y := Y)  hX ) pk_X4_fails qm_X4_84 0 8 rfl rfl wm_0 rfl rfl (Nat.le_of_ble_eq_true rfl) dX4_swap_26 ⟨(Nat.le_of_ble_eq_true rfl), (Nat.le_of_ble_eq_true rfl)⟩ ⟨(Nat.le_of_ble_eq_true rfl), (Nat.le_of_ble_eq_true rfl)⟩ ?_
      refine r_w (w' := WM cy ba ra hf hq kn (nI 0) sm ++ Y) rfl ?_
      refine r_ifN_eq (a := 0) (tgt := 34) C (by first | omega | (simp [up2, *]; done) | (simp [up2, *]; omega) | (simp only [up2_eq]; omega) | (split <;> omega)) dX4_swap_29 (by decide) (fun h29_3 => ?_) (fun h29_3 => ?_)
      · skip
        refine r_aload_n C dX4_swap_34 rfl ?_
        refine r_iload_n C dX4_swap_35 rfl ?_
        refine r_iload_n C dX4_swap_36 rfl ?_
        refine d_V (st := []) hX.1.stb C hE (D_item (ba := ba) (ra := ra) (hf := hf) (hq := hq) (kn := kn) (th := (nI 0)) (sm := sm) (Y := Y) (f := f) (w := w) (k := k0) hX hC (MG.same (fun _ => rfl) (fun _ => rfl) hG) (by first | omega | (simp [up2, *]; done) | (simp [up2, *]; omega) | (simp only [up2_eq]; omega) | (split <;> omega)) (by first | omega | (simp [up2, *]; done) | (simp [up2, *]; omega) | (simp only [up2_eq]; omega) | (split <;> omega)) (by first | omega | (simp [up2, *]; done) | (simp [up2, *]; omega) | (simp only [up2_eq]; omega) | (split <;> omega)) (by first | omega | (simp [up2, *]; done) | (simp [up2, *]; omega) | (simp only [up2_eq]; omega) | (split <;> omega))) pk_X4_item qm_X4_62 0 8 rfl rfl wm_0 rfl rfl (Nat.le_of_ble_eq_true rfl) dX4_swap_37 ⟨(Nat.le_of_ble_eq_true rfl), (Nat.le_of_ble_eq_true rfl)⟩ ⟨(Nat.le_of_ble_eq_true rfl), (Nat.le_of_ble_eq_true rfl)⟩ ?_
        refine r_w (w' := WM cy ba ra hf hq kn (nI 0) sm ++ Y) rfl ?_
        refine r_istore C dX4_swap_40 (by decide) rfl ?_
        refine r_aload_n C dX4_swap_42 rfl ?_
        refine r_iload_n C dX4_swap_43 rfl ?_
        refine r_iload_n C dX4_swap_44 rfl ?_
        refine d_V (st := []) hX.1.stb C hE (D_item (ba := ba) (ra := ra) (hf := hf) (hq := hq) (kn := kn) (th := (nI 0)) (sm := sm) (Y := Y) (f := f) (w := w) (k := k1) hX hC (MG.same (fun _ => rfl) (fun _ => rfl) hG) (by first | omega | (simp [up2, *]; done) | (simp [up2, *]; omega) | (simp only [up2_eq]; omega) | (split <;> omega)) (by first | omega | (simp [up2, *]; done) | (simp [up2, *]; omega) | (simp only [up2_eq]; omega) | (split <;> omega)) (by first | omega | (simp [up2, *]; done) | (simp [up2, *]; omega) | (simp only [up2_eq]; omega) | (split <;> omega)) (by first | omega | (simp [up2, *]; done) | (simp [up2, *]; omega) | (simp only [up2_eq]; omega) | (split <;> omega))) pk_X4_item qm_X4_62 0 8 rfl rfl wm_0 rfl rfl (Nat.le_of_ble_eq_true rfl) dX4_swap_45 ⟨(Nat.le_of_ble_eq_true rfl), (Nat.le_of_ble_eq_true rfl)⟩ ⟨(Nat.le_of_ble_eq_true rfl), (Nat.le_of_ble_eq_true rfl)⟩ ?_
        refine r_w (w' := WM cy ba ra hf hq kn (nI 0) sm ++ Y) rfl ?_
        refine r_istore C dX4_swap_48 (by decide) rfl ?_
        refine r_aload_n C dX4_swap_50 rfl ?_
        refine m_get (v := .ref (ba 0)) C 0 (by decide) qf_X4_15 rfl rfl dX4_swap_51 ?_
        refine r_aload_n C dX4_swap_54 rfl ?_
        refine r_iload_n C dX4_swap_55 rfl ?_
        refine d_V (st := [.ref (ba 0)]) hX.1.stb C hE (D_rowOf (ba := ba) (ra := ra) (hf := hf) (hq := hq) (kn := kn) (th := (nI 0)) (sm := sm) (Y := Y) (f := f) (w := w) hX hC (MG.same (fun _ => rfl) (fun _ => rfl) hG) (by first | omega | (simp [up2, *]; done) | (simp [up2, *]; omega) | (simp only [up2_eq]; omega) | (split <;> omega)) (by first | omega | (simp [up2, *]; done) | (simp [up2, *]; omega) | (simp only [up2_eq]; omega) | (split <;> omega))) pk_X4_rowOf qm_X4_48 0 8 rfl rfl wm_0 rfl rfl (Nat.le_of_ble_eq_true rfl) dX4_swap_56 ⟨(Nat.le_of_ble_eq_true rfl), (Nat.le_of_ble_eq_true rfl)⟩ ⟨(Nat.le_of_ble_eq_true rfl), (Nat.le_of_ble_eq_true rfl)⟩ ?_
        refine r_w (w' := WM cy ba ra hf hq kn (nI 0) sm ++ Y) rfl ?_
        refine m_rows (i := f 1 w) C (by first | omega | (simp [up2, *]; done) | (simp [up2, *]; omega) | (simp only [up2_eq]; omega) | (split <;> omega)) dX4_swap_59 ?_
        refine r_aload_n C dX4_swap_60 rfl ?_
        refine r_iload_n C dX4_swap_61 rfl ?_
        refine d_V (st := [.ref (ra (f 1 w))]) hX.1.stb C hE (D_begin (ba := ba) (ra := ra) (hf := hf) (hq := hq) (kn := kn) (th := (nI 0)) (sm := sm) (Y := Y) (f := f) (w := w) hX hC (MG.same (fun _ => rfl) (fun _ => rfl) hG) (by first | omega | (simp [up2, *]; done) | (simp [up2, *]; omega) | (simp only [up2_eq]; omega) | (split <;> omega)) (by first | omega | (simp [up2, *]; done) | (simp [up2, *]; omega) | (simp only [up2_eq]; omega) | (split <;> omega))) pk_X4_begin qm_X4_52 0 8 rfl rfl wm_0 rfl rfl (Nat.le_of_ble_eq_true rfl) dX4_swap_62 ⟨(Nat.le_of_ble_eq_true rfl), (Nat.le_of_ble_eq_true rfl)⟩ ⟨(Nat.le_of_ble_eq_true rfl), (Nat.le_of_ble_eq_true rfl)⟩ ?_
        refine r_w (w' := WM cy ba ra hf hq kn (nI 0) sm ++ Y) rfl ?_
        refine r_iload_n C dX4_swap_65 rfl ?_
        refine r_iaddN C dX4_swap_66 ?_
        refine r_iload C dX4_swap_67 rfl ?_
        refine m_rst (i := f 1 w) (n := (f 3 w) + k0) (x := (hq (f 1 w) (f 3 w + k1))) C (by first | omega | (simp [up2, *]; done) | (simp [up2, *]; omega) | (simp only [up2_eq]; omega) | (split <;> omega)) (by first | omega | (simp [up2, *]; done) | (simp [up2, *]; omega) | (simp only [up2_eq]; omega) | (split <;> omega)) (by first | omega | (simp [up2, *]; done) | (simp [up2, *]; omega) | (simp only [up2_eq]; omega) | (split <;> omega)) dX4_swap_69 ?_
        refine r_aload_n C dX4_swap_70 rfl ?_
        refine m_get (v := .ref (ba 0)) C 0 (by decide) qf_X4_15 rfl rfl dX4_swap_71 ?_
        refine r_aload_n C dX4_swap_74 rfl ?_
        refine r_iload_n C dX4_swap_75 rfl ?_
        refine d_V (st := [.ref (ba 0)]) hX.1.stb C hE (D_rowOf (ba := ba) (ra := ra) (hf := hf) (hq := (up2 hq (f 1 w) ((f 3 w) + k0) (hq (f 1 w) (f 3 w + k1)))) (kn := kn) (th := (nI 0)) (sm := sm) (Y := Y) (f := f) (w := w) hX hC (MG.same (fun _ => rfl) (fun _ => rfl) hG) (by first | omega | (simp [up2, *]; done) | (simp [up2, *]; omega) | (simp only [up2_eq]; omega) | (split <;> omega)) (by first | omega | (simp [up2, *]; done) | (simp [up2, *]; omega) | (simp only [up2_eq]; omega) | (split <;> omega))) pk_X4_rowOf qm_X4_48 0 8 rfl rfl wm_0 rfl rfl (Nat.le_of_ble_eq_true rfl) dX4_swap_76 ⟨(Nat.le_of_ble_eq_true rfl), (Nat.le_of_ble_eq_true rfl)⟩ ⟨(Nat.le_of_ble_eq_true rfl), (Nat.le_of_ble_eq_true rfl)⟩ ?_
        refine r_w (w' := WM cy ba ra hf (up2 hq (f 1 w) ((f 3 w) + k0) (hq (f 1 w) (f 3 w + k1))) kn (nI 0) sm ++ Y) rfl ?_
        refine m_rows (i := f 1 w) C (by first | omega | (simp [up2, *]; done) | (simp [up2, *]; omega) | (simp only [up2_eq]; omega) | (split <;> omega)) dX4_swap_79 ?_
        refine r_aload_n C dX4_swap_80 rfl ?_
        refine r_iload_n C dX4_swap_81 rfl ?_
        refine d_V (st := [.ref (ra (f 1 w))]) hX.1.stb C hE (D_begin (ba := ba) (ra := ra) (hf := hf) (hq := (up2 hq (f 1 w) ((f 3 w) + k0) (hq (f 1 w) (f 3 w + k1)))) (kn := kn) (th := (nI 0)) (sm := sm) (Y := Y) (f := f) (w := w) hX hC (MG.same (fun _ => rfl) (fun _ => rfl) hG) (by first | omega | (simp [up2, *]; done) | (simp [up2, *]; omega) | (simp only [up2_eq]; omega) | (split <;> omega)) (by first | omega | (simp [up2, *]; done) | (simp [up2, *]; omega) | (simp only [up2_eq]; omega) | (split <;> omega))) pk_X4_begin qm_X4_52 0 8 rfl rfl wm_0 rfl rfl (Nat.le_of_ble_eq_true rfl) dX4_swap_82 ⟨(Nat.le_of_ble_eq_true rfl), (Nat.le_of_ble_eq_true rfl)⟩ ⟨(Nat.le_of_ble_eq_true rfl), (Nat.le_of_ble_eq_true rfl)⟩ ?_
        refine r_w (w' := WM cy ba ra hf (up2 hq (f 1 w) ((f 3 w) + k0) (hq (f 1 w) (f 3 w + k1))) kn (nI 0) sm ++ Y) rfl ?_
        refine r_iload_n C dX4_swap_85 rfl ?_
        refine r_iaddN C dX4_swap_86 ?_
        refine r_iload C dX4_swap_87 rfl ?_
        refine m_rst (i := f 1 w) (n := (f 3 w) + k1) (x := (hq (f 1 w) (f 3 w + k0))) C (by first | omega | (simp [up2, *]; done) | (simp [up2, *]; omega) | (simp only [up2_eq]; omega) | (split <;> omega)) (by first | omega | (simp [up2, *]; done) | (simp [up2, *]; omega) | (simp only [up2_eq]; omega) | (split <;> omega)) (by first | omega | (simp [up2, *]; done) | (simp [up2, *]; omega) | (simp only [up2_eq]; omega) | (split <;> omega)) dX4_swap_89 ?_
        refine r_iload C dX4_swap_90 rfl ?_
        exact r_iret C hr dX4_swap_92 ⟨rfl, rfl⟩ (Nat.le_of_ble_eq_true rfl) (Nat.le_of_ble_eq_true rfl)
      · exact absurd h29_3 (by first | omega | (simp [up2, *]; done) | (simp [up2, *]; omega) | (simp only [up2_eq]; omega) | (split <;> omega))
    · exact absurd h16_2 (by first | omega | (simp [up2, *]; done) | (simp [up2, *]; omega) | (simp only [up2_eq]; omega) | (split <;> omega))
theorem dX4_riffle_0 : decode cX4_riffle 0 = .ok (.aload_n 0, 1) := dqo_42 (kb_X4_riffle_0 0 rfl)
theorem dX4_riffle_1 : decode cX4_riffle 1 = .ok (.aload_n 0, 1) := dqo_42 (kb_X4_riffle_0 1 rfl)
theorem dX4_riffle_2 : decode cX4_riffle 2 = .ok (.iload_n 1, 1) := dqo_27 (kb_X4_riffle_0 2 rfl)
theorem dX4_riffle_3 : decode cX4_riffle 3 = .ok (.invokevirtual 55, 3) := dqo_182 0 55 (kb_X4_riffle_0 3 rfl) (kb_X4_riffle_0 4 rfl) (kb_X4_riffle_0 5 rfl)
theorem dX4_riffle_6 : decode cX4_riffle 6 = .ok (.iconst 0, 1) := dqo_3 (kb_X4_riffle_0 6 rfl)
theorem dX4_riffle_7 : decode cX4_riffle 7 = .ok (.iconst 0, 1) := dqo_3 (kb_X4_riffle_0 7 rfl)
theorem dX4_riffle_8 : decode cX4_riffle 8 = .ok (.invokevirtual 84, 3) := dqo_182 0 84 (kb_X4_riffle_0 8 rfl) (kb_X4_riffle_0 9 rfl) (kb_X4_riffle_0 10 rfl)
theorem dX4_riffle_11 : decode cX4_riffle 11 = .ok (.ifCond .eq 5, 3) := dqo_153 0 5 (by decide) (kb_X4_riffle_0 11 rfl) (kb_X4_riffle_0 12 rfl) (kb_X4_riffle_0 13 rfl)
theorem dX4_riffle_14 : decode cX4_riffle 14 = .ok (.iconst 0, 1) := dqo_3 (kb_X4_riffle_0 14 rfl)
theorem dX4_riffle_15 : decode cX4_riffle 15 = .ok (.ireturn, 1) := dqo_172 (kb_X4_riffle_0 15 rfl)
set_option maxRecDepth 100000 in
set_option maxHeartbeats 4000000 in
theorem D_riffle_noW {l : Launch} {D : va_G} {cy : Nat → ClassId} {X : (Nat → Prop) → State → Heap → Prop} {ba ra : Nat → Nat} {hf : Nat → Nat → Nat} {hq : Nat → Nat → Int32} {kn th : Int32} {sm : Int64} {Y : va_W} {f : Nat → Nat → Nat} {r : Nat → Nat → Int32} {x : Int32} (hX : EnvM X cy) (hC : CInv f) (hM : MR f r hf hq) (hno : noW f x) : Cd l D cy X yX4_riffle cX4_riffle 5 (some .int) (rmk 9 4 48 420) [.ref (ba 9), .int x] (WM cy ba ra hf hq kn th sm ++ Y) (some (.int (nI 0))) (WM cy ba ra hf hq kn (nI 1) sm ++ Y) := by
  have hG := hM.1
  have h5M := hM.h5M hC
  have h4M := hC.h4M
  have h9a := hM.h9a hC
  have h6a := hM.h6a
  have hU := hM.hU hC
  refine Cm.of [some (.ref (ba 9)), some (.int x), none, none, none] pn_X4 rfl (Nat.le_of_ble_eq_true rfl) ?_
  intro p e s m args below meth c A C hE hr hnt hn
  refine r_aload_n C dX4_riffle_0 rfl ?_
  refine r_aload_n C dX4_riffle_1 rfl ?_
  refine r_iload_n C dX4_riffle_2 rfl ?_
  refine d_V (st := [.ref (ba 9)]) hX.1.stb C hE (D_isNoWhere1 (ba := ba) (ra := ra) (hf := hf) (hq := hq) (kn := kn) (th := th) (sm := sm) (Y := Y) (f := f) (x := (x)) hX h5M h4M hno) pk_X4_isNoWhere qm_X4_55 0 8 rfl rfl wm_0 rfl rfl (Nat.le_of_ble_eq_true rfl) dX4_riffle_3 ⟨(Nat.le_of_ble_eq_true rfl), (Nat.le_of_ble_eq_true rfl)⟩ ⟨(Nat.le_of_ble_eq_true rfl), (Nat.le_of_ble_eq_true rfl)⟩ ?_
  refine r_w (w' := WM cy ba ra hf hq kn th sm ++ Y) rfl ?_
  refine r_iconst (v := (nI 0)) C dX4_riffle_6 (by decide) ?_
  refine r_iconst (v := (nI 0)) C dX4_riffle_7 (by decide) ?_
  refine d_V (st := []) hX.1.stb C hE (D_fails1 (ba := ba) (ra := ra) (hf := hf) (hq := hq) (kn := kn) (th := th) (sm := sm) (Y := Y) (b0 := 0) (d0 := 0) hX ) pk_X4_fails qm_X4_84 0 8 rfl rfl wm_0 rfl rfl (Nat.le_of_ble_eq_true rfl) dX4_riffle_8 ⟨(Nat.le_of_ble_eq_true rfl), (Nat.le_of_ble_eq_true rfl)⟩ ⟨(Nat.le_of_ble_eq_true rfl), (Nat.le_of_ble_eq_true rfl)⟩ ?_
  refine r_w (w' := WM cy ba ra hf hq kn (nI 1) sm ++ Y) rfl ?_
  refine r_ifN_eq (a := 1) (tgt := 16) C (by first | omega | (simp [up2, *]; done) | (simp [up2, *]; omega) | (simp only [up2_eq]; omega) | (split <;> omega)) dX4_riffle_11 (by decide) (fun h11_1 => ?_) (fun h11_1 => ?_)
  · exact absurd h11_1 (by first | omega | (simp [up2, *]; done) | (simp [up2, *]; omega) | (simp only [up2_eq]; omega) | (split <;> omega))
  · skip
    refine r_iconst (v := (nI 0)) C dX4_riffle_14 (by decide) ?_
    exact r_iret C hr dX4_riffle_15 ⟨rfl, rfl⟩ (Nat.le_of_ble_eq_true rfl) (Nat.le_of_ble_eq_true rfl)
theorem dX4_riffle_16 : decode cX4_riffle 16 = .ok (.aload_n 0, 1) := dqo_42 (kb_X4_riffle_0 16 rfl)
theorem dX4_riffle_17 : decode cX4_riffle 17 = .ok (.iload_n 1, 1) := dqo_27 (kb_X4_riffle_0 17 rfl)
theorem dX4_riffle_18 : decode cX4_riffle 18 = .ok (.invokevirtual 95, 3) := dqo_182 0 95 (kb_X4_riffle_0 18 rfl) (kb_X4_riffle_0 19 rfl) (kb_X4_riffle_0 20 rfl)
theorem dX4_riffle_21 : decode cX4_riffle 21 = .ok (.astore_n 2, 1) := dqo_77 (kb_X4_riffle_0 21 rfl)
theorem dX4_riffle_22 : decode cX4_riffle 22 = .ok (.aload_n 2, 1) := dqo_44 (kb_X4_riffle_0 22 rfl)
theorem dX4_riffle_23 : decode cX4_riffle 23 = .ok (.arraylength, 1) := dqo_190 (kb_X4_riffle_0 23 rfl)
theorem dX4_riffle_24 : decode cX4_riffle 24 = .ok (.newarray .int, 2) := dqo_188_10 (kb_X4_riffle_0 24 rfl) (kb_X4_riffle_0 25 rfl)
theorem dX4_riffle_26 : decode cX4_riffle 26 = .ok (.astore_n 3, 1) := dqo_78 (kb_X4_riffle_0 26 rfl)
theorem dX4_riffle_27 : decode cX4_riffle 27 = .ok (.iconst 0, 1) := dqo_3 (kb_X4_riffle_0 27 rfl)
theorem dX4_riffle_28 : decode cX4_riffle 28 = .ok (.istore 4, 2) := dqo_54 4 (kb_X4_riffle_0 28 rfl) (kb_X4_riffle_0 29 rfl)
theorem dX4_riffle_30 : decode cX4_riffle 30 = .ok (.iload 4, 2) := dqo_21 4 (kb_X4_riffle_0 30 rfl) (kb_X4_riffle_0 31 rfl)
theorem dX4_riffle_32 : decode cX4_riffle 32 = .ok (.aload_n 2, 1) := dqo_44 (kb_X4_riffle_0 32 rfl)
theorem dX4_riffle_33 : decode cX4_riffle 33 = .ok (.arraylength, 1) := dqo_190 (kb_X4_riffle_0 33 rfl)
theorem dX4_riffle_34 : decode cX4_riffle 34 = .ok (.if_icmp .ge 40, 3) := dqo_162 0 40 (by decide) (kb_X4_riffle_0 34 rfl) (kb_X4_riffle_0 35 rfl) (kb_X4_riffle_0 36 rfl)
theorem dX4_riffle_37 : decode cX4_riffle 37 = .ok (.aload_n 3, 1) := dqo_45 (kb_X4_riffle_0 37 rfl)
theorem dX4_riffle_38 : decode cX4_riffle 38 = .ok (.iload 4, 2) := dqo_21 4 (kb_X4_riffle_0 38 rfl) (kb_X4_riffle_0 39 rfl)
theorem dX4_riffle_40 : decode cX4_riffle 40 = .ok (.aload_n 2, 1) := dqo_44 (kb_X4_riffle_0 40 rfl)
theorem dX4_riffle_41 : decode cX4_riffle 41 = .ok (.iload 4, 2) := dqo_21 4 (kb_X4_riffle_0 41 rfl) (kb_X4_riffle_0 42 rfl)
theorem dX4_riffle_43 : decode cX4_riffle 43 = .ok (.iconst 2, 1) := dqo_5 (kb_X4_riffle_0 43 rfl)
theorem dX4_riffle_44 : decode cX4_riffle 44 = .ok (.irem, 1) := dqo_112 (kb_X4_riffle_0 44 rfl)
theorem dX4_riffle_45 : decode cX4_riffle 45 = .ok (.ifCond .ne 10, 3) := dqo_154 0 10 (by decide) (kb_X4_riffle_0 45 rfl) (kb_X4_riffle_0 46 rfl) (kb_X4_riffle_0 47 rfl)
theorem dX4_riffle_48 : decode cX4_riffle 48 = .ok (.iload 4, 2) := dqo_21 4 (kb_X4_riffle_0 48 rfl) (kb_X4_riffle_0 49 rfl)
theorem dX4_riffle_50 : decode cX4_riffle 50 = .ok (.iconst 2, 1) := dqo_5 (kb_X4_riffle_0 50 rfl)
theorem dX4_riffle_51 : decode cX4_riffle 51 = .ok (.idiv, 1) := dqo_108 (kb_X4_riffle_0 51 rfl)
theorem dX4_riffle_52 : decode cX4_riffle 52 = .ok (.goto 14, 3) := dqo_167 0 14 (by decide) (kb_X4_riffle_0 52 rfl) (kb_X4_riffle_0 53 rfl) (kb_X4_riffle_0 54 rfl)
theorem dX4_riffle_55 : decode cX4_riffle 55 = .ok (.aload_n 2, 1) := dqo_44 (kb_X4_riffle_0 55 rfl)
theorem dX4_riffle_56 : decode cX4_riffle 56 = .ok (.arraylength, 1) := dqo_190 (kb_X4_riffle_0 56 rfl)
theorem dX4_riffle_57 : decode cX4_riffle 57 = .ok (.iconst 1, 1) := dqo_4 (kb_X4_riffle_0 57 rfl)
theorem dX4_riffle_58 : decode cX4_riffle 58 = .ok (.iadd, 1) := dqo_96 (kb_X4_riffle_0 58 rfl)
theorem dX4_riffle_59 : decode cX4_riffle 59 = .ok (.iconst 2, 1) := dqo_5 (kb_X4_riffle_0 59 rfl)
theorem dX4_riffle_60 : decode cX4_riffle 60 = .ok (.idiv, 1) := dqo_108 (kb_X4_riffle_0 60 rfl)
theorem dX4_riffle_61 : decode cX4_riffle 61 = .ok (.iload 4, 2) := dqo_21 4 (kb_X4_riffle_0 61 rfl) (kb_X4_riffle_0 62 rfl)
theorem dX4_riffle_63 : decode cX4_riffle 63 = .ok (.iconst 2, 1) := dqo_5 (kb_X4_riffle_0 63 rfl)
theorem dX4_riffle_64 : decode cX4_riffle 64 = .ok (.idiv, 1) := dqo_108 (kb_X4_riffle_1 0 rfl)
theorem dX4_riffle_65 : decode cX4_riffle 65 = .ok (.iadd, 1) := dqo_96 (kb_X4_riffle_1 1 rfl)
theorem dX4_riffle_66 : decode cX4_riffle 66 = .ok (.iaload, 1) := dqo_46 (kb_X4_riffle_1 2 rfl)
theorem dX4_riffle_67 : decode cX4_riffle 67 = .ok (.iastore, 1) := dqo_79 (kb_X4_riffle_1 3 rfl)
theorem dX4_riffle_68 : decode cX4_riffle 68 = .ok (.iinc 4 1, 3) := dqo_132 4 1 (by decide) (kb_X4_riffle_1 4 rfl) (kb_X4_riffle_1 5 rfl) (kb_X4_riffle_1 6 rfl)
theorem dX4_riffle_71 : decode cX4_riffle 71 = .ok (.goto (-41), 3) := dqo_167 255 215 (by decide) (kb_X4_riffle_1 7 rfl) (kb_X4_riffle_1 8 rfl) (kb_X4_riffle_1 9 rfl)
theorem dX4_riffle_74 : decode cX4_riffle 74 = .ok (.aload_n 2, 1) := dqo_44 (kb_X4_riffle_1 10 rfl)
theorem dX4_riffle_75 : decode cX4_riffle 75 = .ok (.arraylength, 1) := dqo_190 (kb_X4_riffle_1 11 rfl)
theorem dX4_riffle_76 : decode cX4_riffle 76 = .ok (.iconst 1, 1) := dqo_4 (kb_X4_riffle_1 12 rfl)
theorem dX4_riffle_77 : decode cX4_riffle 77 = .ok (.if_icmp .le 9, 3) := dqo_164 0 9 (by decide) (kb_X4_riffle_1 13 rfl) (kb_X4_riffle_1 14 rfl) (kb_X4_riffle_1 15 rfl)
theorem dX4_riffle_86 : decode cX4_riffle 86 = .ok (.aload_n 0, 1) := dqo_42 (kb_X4_riffle_1 22 rfl)
theorem dX4_riffle_87 : decode cX4_riffle 87 = .ok (.iload_n 1, 1) := dqo_27 (kb_X4_riffle_1 23 rfl)
theorem dX4_riffle_88 : decode cX4_riffle 88 = .ok (.aload_n 3, 1) := dqo_45 (kb_X4_riffle_1 24 rfl)
theorem dX4_riffle_89 : decode cX4_riffle 89 = .ok (.invokevirtual 99, 3) := dqo_182 0 99 (kb_X4_riffle_1 25 rfl) (kb_X4_riffle_1 26 rfl) (kb_X4_riffle_1 27 rfl)
theorem dX4_riffle_92 : decode cX4_riffle 92 = .ok (.aload_n 2, 1) := dqo_44 (kb_X4_riffle_1 28 rfl)
theorem dX4_riffle_93 : decode cX4_riffle 93 = .ok (.arraylength, 1) := dqo_190 (kb_X4_riffle_1 29 rfl)
theorem dX4_riffle_94 : decode cX4_riffle 94 = .ok (.ireturn, 1) := dqo_172 (kb_X4_riffle_1 30 rfl)
set_option maxRecDepth 100000 in
set_option maxHeartbeats 4000000 in
theorem D_riffle_1 {l : Launch} {D : va_G} {cy : Nat → ClassId} {X : (Nat → Prop) → State → Heap → Prop} {ba ra : Nat → Nat} {hf : Nat → Nat → Nat} {hq : Nat → Nat → Int32} {kn th : Int32} {sm : Int64} {Y : va_W} {f : Nat → Nat → Nat} {r : Nat → Nat → Int32} {w : Nat} (hX : EnvM X cy) (hC : CInv f) (hM : MR f r hf hq) (hw : w < 8) (h5w : f 5 w = 1) (hz : f 4 w ≤ 1) : Cd l D cy X yX4_riffle cX4_riffle 5 (some .int) (rmk 9 4 48 420) [.ref (ba 9), .int (nI w)] (WM cy ba ra hf hq kn th sm ++ Y) (some (.int (nI (hf 4 w)))) (WM cy ba ra hf (wrR hq (f 1 w) (f 3 w) (hf 4 w) (cutF (fun t => (cutF (fun z => hq (f 1 w) (f 3 w + z)) (hf 4 w)) (layN (hf 4 w) t)) (hf 4 w))) kn (nI 0) sm ++ Y) := by
  have hG := hM.1
  have h5M := hM.h5M hC
  have h4M := hC.h4M
  have h9a := hM.h9a hC
  have h6a := hM.h6a
  have hU := hM.hU hC
  have qw := hM.wh hC hw h5w
  refine Cm.of [some (.ref (ba 9)), some (.int (nI w)), none, none, none] pn_X4 rfl (Nat.le_of_ble_eq_true rfl) ?_
  intro p e s m args below meth c A C hE hr hnt hn
  refine r_aload_n C dX4_riffle_0 rfl ?_
  refine r_aload_n C dX4_riffle_1 rfl ?_
  refine r_iload_n C dX4_riffle_2 rfl ?_
  refine d_V (st := [.ref (ba 9)]) hX.1.stb C hE (D_isNoWhere0 (ba := ba) (ra := ra) (hf := hf) (hq := hq) (kn := kn) (th := th) (sm := sm) (Y := Y) (w := w) hX (by first | omega | (simp [up2, *]; done) | (simp [up2, *]; omega) | (simp only [up2_eq]; omega) | (split <;> omega)) (by first | omega | (simp [up2, *]; done) | (simp [up2, *]; omega) | (simp only [up2_eq]; omega) | (split <;> omega))) pk_X4_isNoWhere qm_X4_55 0 8 rfl rfl wm_0 rfl rfl (Nat.le_of_ble_eq_true rfl) dX4_riffle_3 ⟨(Nat.le_of_ble_eq_true rfl), (Nat.le_of_ble_eq_true rfl)⟩ ⟨(Nat.le_of_ble_eq_true rfl), (Nat.le_of_ble_eq_true rfl)⟩ ?_
  refine r_w (w' := WM cy ba ra hf hq kn th sm ++ Y) rfl ?_
  refine r_iconst (v := (nI 0)) C dX4_riffle_6 (by decide) ?_
  refine r_iconst (v := (nI 0)) C dX4_riffle_7 (by decide) ?_
  refine d_V (st := []) hX.1.stb C hE (D_fails0 (ba := ba) (ra := ra) (hf := hf) (hq := hq) (kn := kn) (th := th) (sm := sm) (Y := Y)  hX ) pk_X4_fails qm_X4_84 0 8 rfl rfl wm_0 rfl rfl (Nat.le_of_ble_eq_true rfl) dX4_riffle_8 ⟨(Nat.le_of_ble_eq_true rfl), (Nat.le_of_ble_eq_true rfl)⟩ ⟨(Nat.le_of_ble_eq_true rfl), (Nat.le_of_ble_eq_true rfl)⟩ ?_
  refine r_w (w' := WM cy ba ra hf hq kn (nI 0) sm ++ Y) rfl ?_
  refine r_ifN_eq (a := 0) (tgt := 16) C (by first | omega | (simp [up2, *]; done) | (simp [up2, *]; omega) | (simp only [up2_eq]; omega) | (split <;> omega)) dX4_riffle_11 (by decide) (fun h11_1 => ?_) (fun h11_1 => ?_)
  · skip
    refine r_aload_n C dX4_riffle_16 rfl ?_
    refine r_iload_n C dX4_riffle_17 rfl ?_
    refine e_V (st := []) hX.1.stb C hE (D_items (ba := ba) (ra := ra) (hf := hf) (hq := hq) (kn := kn) (th := (nI 0)) (sm := sm) (Y := Y) (f := f) (w := w) hX hC (MG.same (fun _ => rfl) (fun _ => rfl) hG) (by first | omega | (simp [up2, *]; done) | (simp [up2, *]; omega) | (simp only [up2_eq]; omega) | (split <;> omega)) (by first | omega | (simp [up2, *]; done) | (simp [up2, *]; omega) | (simp only [up2_eq]; omega) | (split <;> omega)) (by first | omega | (simp [up2, *]; done) | (simp [up2, *]; omega) | (simp only [up2_eq]; omega) | (split <;> omega)) (by first | omega | (simp [up2, *]; done) | (simp [up2, *]; omega) | (simp only [up2_eq]; omega) | (split <;> omega))) pk_X4_items qm_X4_95 0 8 rfl rfl wm_0 rfl rfl (Nat.le_of_ble_eq_true rfl) dX4_riffle_18 ⟨(Nat.le_of_ble_eq_true rfl), (Nat.le_of_ble_eq_true rfl)⟩ ⟨(Nat.le_of_ble_eq_true rfl), (Nat.le_of_ble_eq_true rfl)⟩ (fun b_2 => ?_)
    refine r_w (w' := WM cy ba ra hf hq kn (nI 0) sm ++ (Y ++ [(b_2, .inl (cy 1, hf 4 w, .inl (cutF (fun z => hq (f 1 w) (f 3 w + z)) (hf 4 w))))])) (by simp only [List.append_assoc, List.cons_append, List.nil_append]) ?_
    refine r_st (st' := [.ref b_2]) rfl ?_
    refine r_astore_n C dX4_riffle_21 (by decide) rfl ?_
    refine r_aload_n C dX4_riffle_22 rfl ?_
    refine x_len C (t0 := 1) 0 rfl rfl dX4_riffle_23 ?_
    refine r_newT C .int .int 1 rfl (by simp) qa_int (n := hf 4 w) (show hf 4 w < 1000000 from Nat.lt_of_le_of_lt (show hf 4 w ≤ 12 from by first | omega | (simp [up2, *]; done) | (simp [up2, *]; omega) | (simp only [up2_eq]; omega) | (split <;> omega)) (by decide)) (2) (24) (Nat.le_of_ble_eq_true rfl) (Nat.add_le_add (Nat.le_refl _) (show hf 4 w ≤ 12 from by first | omega | (simp [up2, *]; done) | (simp [up2, *]; omega) | (simp only [up2_eq]; omega) | (split <;> omega))) (Nat.le_of_ble_eq_true rfl) (Nat.le_of_ble_eq_true rfl) dX4_riffle_24 (fun b_3 => ?_)
    refine r_w (w' := WM cy ba ra hf hq kn (nI 0) sm ++ (Y ++ [(b_2, .inl (cy 1, hf 4 w, .inl (cutF (fun z => hq (f 1 w) (f 3 w + z)) (hf 4 w)))), (b_3, .inl (cy 1, hf 4 w, .inl (fun _ => 0)))])) (by simp only [List.append_assoc, List.cons_append, List.nil_append]) ?_
    refine r_astore_n C dX4_riffle_26 (by decide) rfl ?_
    refine r_iconst (v := (nI 0)) C dX4_riffle_27 (by decide) ?_
    refine r_istore C dX4_riffle_28 (by decide) rfl ?_
    refine r_w (w' := WM cy ba ra hf hq kn (nI 0) sm ++ (Y ++ [(b_2, .inl (cy 1, hf 4 w, .inl (cutF (fun z => hq (f 1 w) (f 3 w + z)) (hf 4 w)))), (b_3, .inl (cy 1, hf 4 w, .inl (cutF (fun t => (cutF (fun z => hq (f 1 w) (f 3 w + z)) (hf 4 w)) (layN (hf 4 w) t)) 0)))])) (by rw [cutF_0]) ?_
    have L30 : ∀ (d : Nat) (k : Nat), (hk : k + d = hf 4 w) → vC p l e (rmk 9 4 48 420) s m args below meth c D A (vx_MQ below (vG (fun v1 w1 => v1 = (some (.int (nI (hf 4 w)))) ∧ w1 = WM cy ba ra hf (wrR hq (f 1 w) (f 3 w) (hf 4 w) (cutF (fun t => (cutF (fun z => hq (f 1 w) (f 3 w + z)) (hf 4 w)) (layN (hf 4 w) t)) (hf 4 w))) kn (nI 0) sm ++ Y) D vwCl A) (vGX (fun _ => False) D vwCl (WM cy ba ra hf hq kn th sm ++ Y) A) args s (rmk 9 4 48 420).cells (rmk 9 4 48 420).slots A) 5 2 24 (WM cy ba ra hf hq kn (nI 0) sm ++ (Y ++ [(b_2, .inl (cy 1, hf 4 w, .inl (cutF (fun z => hq (f 1 w) (f 3 w + z)) (hf 4 w)))), (b_3, .inl (cy 1, hf 4 w, .inl (cutF (fun t => (cutF (fun z => hq (f 1 w) (f 3 w + z)) (hf 4 w)) (layN (hf 4 w) t)) k)))])) [some (.ref (ba 9)), some (.int (nI w)), some (.ref b_2), some (.ref b_3), some (.int (nI k))] 30 [] := by
      intro d
      induction d with
      | zero =>
        intro k hk
        refine r_iload C dX4_riffle_30 rfl ?_
        refine r_aload_n C dX4_riffle_32 rfl ?_
        refine x_len C (t0 := 1) 0 rfl rfl dX4_riffle_33 ?_
        refine r_icN_ge (a := k) (b := (hf 4 w)) (tgt := 74) C (by first | omega | (simp [up2, *]; done) | (simp [up2, *]; omega) | (simp only [up2_eq]; omega) | (split <;> omega)) (by first | omega | (simp [up2, *]; done) | (simp [up2, *]; omega) | (simp only [up2_eq]; omega) | (split <;> omega)) dX4_riffle_34 (by decide) (fun h34_4 => ?_) (fun h34_4 => ?_)
        · first
          | exfalso; first | omega | contradiction
          | skip
            have e9 : k = hf 4 w := by omega
            subst e9
            refine r_aload_n C dX4_riffle_74 rfl ?_
            refine x_len C (t0 := 1) 0 rfl rfl dX4_riffle_75 ?_
            refine r_iconst (v := (nI 1)) C dX4_riffle_76 (by decide) ?_
            refine r_icN_le (a := (hf 4 w)) (b := 1) (tgt := 86) C (by first | omega | (simp [up2, *]; done) | (simp [up2, *]; omega) | (simp only [up2_eq]; omega) | (split <;> omega)) (by first | omega | (simp [up2, *]; done) | (simp [up2, *]; omega) | (simp only [up2_eq]; omega) | (split <;> omega)) dX4_riffle_77 (by decide) (fun h77_5 => ?_) (fun h77_5 => ?_)
            · skip
              refine r_aload_n C dX4_riffle_86 rfl ?_
              refine r_iload_n C dX4_riffle_87 rfl ?_
              refine r_aload_n C dX4_riffle_88 rfl ?_
              refine d_Vv (st := []) hX.1.stb C hE (D_put (ba := ba) (ra := ra) (hf := hf) (hq := hq) (kn := kn) (th := (nI 0)) (sm := sm) (f := f) (w := w) (b0 := b_3) (n0 := (hf 4 w)) (g0 := (cutF (fun t => (cutF (fun z => hq (f 1 w) (f 3 w + z)) (hf 4 w)) (layN (hf 4 w) t)) (hf 4 w))) (j0 := (Y.length + 1)) hX hC (MG.same (fun _ => rfl) (fun _ => rfl) hG) (by first | omega | (simp [up2, *]; done) | (simp [up2, *]; omega) | (simp only [up2_eq]; omega) | (split <;> omega)) (by first | omega | (simp [up2, *]; done) | (simp [up2, *]; omega) | (simp only [up2_eq]; omega) | (split <;> omega)) (by first | omega | (simp [up2, *]; done) | (simp [up2, *]; omega) | (simp only [up2_eq]; omega) | (split <;> omega)) (by first | omega | (simp [up2, *]; done) | (simp [up2, *]; omega) | (simp only [up2_eq]; omega) | (split <;> omega)) ((ya_x 1).trans rfl)) pk_X4_put qm_X4_99 0 8 rfl rfl wm_0 rfl rfl (Nat.le_of_ble_eq_true rfl) dX4_riffle_89 ⟨(Nat.le_of_ble_eq_true rfl), (Nat.le_of_ble_eq_true rfl)⟩ ⟨(Nat.le_of_ble_eq_true rfl), (Nat.le_of_ble_eq_true rfl)⟩ ?_
              refine r_w (w' := WM cy ba ra hf (wrR hq (f 1 w) (f 3 w) (hf 4 w) (cutF (fun t => (cutF (fun z => hq (f 1 w) (f 3 w + z)) (hf 4 w)) (layN (hf 4 w) t)) (hf 4 w))) kn (nI 0) sm ++ (Y ++ [(b_2, .inl (cy 1, hf 4 w, .inl (cutF (fun z => hq (f 1 w) (f 3 w + z)) (hf 4 w)))), (b_3, .inl (cy 1, hf 4 w, .inl (cutF (fun t => (cutF (fun z => hq (f 1 w) (f 3 w + z)) (hf 4 w)) (layN (hf 4 w) t)) (hf 4 w))))])) rfl ?_
              refine r_aload_n C dX4_riffle_92 rfl ?_
              refine x_len C (t0 := 1) 0 rfl rfl dX4_riffle_93 ?_
              refine r_pre ?_
              exact r_iret C hr dX4_riffle_94 ⟨rfl, rfl⟩ (Nat.le_of_ble_eq_true rfl) (Nat.le_of_ble_eq_true rfl)
            · exact absurd h77_5 (by first | omega | (simp [up2, *]; done) | (simp [up2, *]; omega) | (simp only [up2_eq]; omega) | (split <;> omega))
        · first
          | exfalso; first | omega | contradiction
          | skip
            refine r_aload_n C dX4_riffle_37 rfl ?_
            refine r_iload C dX4_riffle_38 rfl ?_
            refine r_aload_n C dX4_riffle_40 rfl ?_
            refine r_iload C dX4_riffle_41 rfl ?_
            refine r_iconst (v := (nI 2)) C dX4_riffle_43 (by decide) ?_
            refine r_iremN C dX4_riffle_44 (by first | omega | (simp [up2, *]; done) | (simp [up2, *]; omega) | (simp only [up2_eq]; omega) | (split <;> omega)) (by first | omega | (simp [up2, *]; done) | (simp [up2, *]; omega) | (simp only [up2_eq]; omega) | (split <;> omega)) (by first | omega | (simp [up2, *]; done) | (simp [up2, *]; omega) | (simp only [up2_eq]; omega) | (split <;> omega)) ?_
            refine r_ifN_ne (a := (k % 2)) (tgt := 55) C (by first | omega | (simp [up2, *]; done) | (simp [up2, *]; omega) | (simp only [up2_eq]; omega) | (split <;> omega)) dX4_riffle_45 (by decide) (fun h45_6 => ?_) (fun h45_6 => ?_)
            · first
              | exfalso; first | omega | contradiction
              | skip
                refine r_aload_n C dX4_riffle_55 rfl ?_
                refine x_len C (t0 := 1) 0 rfl rfl dX4_riffle_56 ?_
                refine r_iconst (v := (nI 1)) C dX4_riffle_57 (by decide) ?_
                refine r_iaddN C dX4_riffle_58 ?_
                refine r_iconst (v := (nI 2)) C dX4_riffle_59 (by decide) ?_
                refine r_idivN C dX4_riffle_60 (by first | omega | (simp [up2, *]; done) | (simp [up2, *]; omega) | (simp only [up2_eq]; omega) | (split <;> omega)) (by first | omega | (simp [up2, *]; done) | (simp [up2, *]; omega) | (simp only [up2_eq]; omega) | (split <;> omega)) (by first | omega | (simp [up2, *]; done) | (simp [up2, *]; omega) | (simp only [up2_eq]; omega) | (split <;> omega)) ?_
                refine r_iload C dX4_riffle_61 rfl ?_
                refine r_iconst (v := (nI 2)) C dX4_riffle_63 (by decide) ?_
                refine r_idivN C dX4_riffle_64 (by first | omega | (simp [up2, *]; done) | (simp [up2, *]; omega) | (simp only [up2_eq]; omega) | (split <;> omega)) (by first | omega | (simp [up2, *]; done) | (simp [up2, *]; omega) | (simp only [up2_eq]; omega) | (split <;> omega)) (by first | omega | (simp [up2, *]; done) | (simp [up2, *]; omega) | (simp only [up2_eq]; omega) | (split <;> omega)) ?_
                refine r_iaddN C dX4_riffle_65 ?_
                refine x_ald C (i := (((hf 4 w) + 1) / 2) + (k / 2)) (f := cutF (fun z => hq (f 1 w) (f 3 w + z)) (hf 4 w)) 0 rfl (by first | omega | (simp [up2, *]; done) | (simp [up2, *]; omega) | (simp only [up2_eq]; omega) | (split <;> omega)) (by first | omega | (simp [up2, *]; done) | (simp [up2, *]; omega) | (simp only [up2_eq]; omega) | (split <;> omega)) dX4_riffle_66 ?_
                refine x_ast C (i := k) (f := cutF (fun t => (cutF (fun z => hq (f 1 w) (f 3 w + z)) (hf 4 w)) (layN (hf 4 w) t)) k) (E' := [(b_2, .inl (cy 1, hf 4 w, .inl (cutF (fun z => hq (f 1 w) (f 3 w + z)) (hf 4 w)))), (b_3, .inl (cy 1, hf 4 w, .inl (upd (cutF (fun t => (cutF (fun z => hq (f 1 w) (f 3 w + z)) (hf 4 w)) (layN (hf 4 w) t)) k) k ((cutF (fun z => hq (f 1 w) (f 3 w + z)) (hf 4 w)) ((((hf 4 w) + 1) / 2) + (k / 2))))))]) 1 rfl (by first | omega | (simp [up2, *]; done) | (simp [up2, *]; omega) | (simp only [up2_eq]; omega) | (split <;> omega)) (by first | omega | (simp [up2, *]; done) | (simp [up2, *]; omega) | (simp only [up2_eq]; omega) | (split <;> omega)) rfl dX4_riffle_67 ?_
                refine r_iincN C dX4_riffle_68 rfl (by decide) rfl ?_
                refine r_goto (tgt := 30) C dX4_riffle_71 (by decide) ?_
                refine r_w (w' := WM cy ba ra hf hq kn (nI 0) sm ++ (Y ++ [(b_2, .inl (cy 1, hf 4 w, .inl (cutF (fun z => hq (f 1 w) (f 3 w + z)) (hf 4 w)))), (b_3, .inl (cy 1, hf 4 w, .inl (cutF (fun t => (cutF (fun z => hq (f 1 w) (f 3 w + z)) (hf 4 w)) (layN (hf 4 w) t)) (k + 1))))])) (by rw [cutF_up (F := fun t => (cutF (fun z => hq (f 1 w) (f 3 w + z)) (hf 4 w)) (layN (hf 4 w) t)) (k := k) (x := ((cutF (fun z => hq (f 1 w) (f 3 w + z)) (hf 4 w)) ((((hf 4 w) + 1) / 2) + (k / 2)))) (by unfold layN; first | rw [if_pos (by assumption)] | rw [if_neg (by assumption)])]) ?_
                exact (Nat.not_lt_zero _ (by omega)).elim
            · first
              | exfalso; first | omega | contradiction
              | skip
                refine r_iload C dX4_riffle_48 rfl ?_
                refine r_iconst (v := (nI 2)) C dX4_riffle_50 (by decide) ?_
                refine r_idivN C dX4_riffle_51 (by first | omega | (simp [up2, *]; done) | (simp [up2, *]; omega) | (simp only [up2_eq]; omega) | (split <;> omega)) (by first | omega | (simp [up2, *]; done) | (simp [up2, *]; omega) | (simp only [up2_eq]; omega) | (split <;> omega)) (by first | omega | (simp [up2, *]; done) | (simp [up2, *]; omega) | (simp only [up2_eq]; omega) | (split <;> omega)) ?_
                refine r_goto (tgt := 66) C dX4_riffle_52 (by decide) ?_
                refine x_ald C (i := k / 2) (f := cutF (fun z => hq (f 1 w) (f 3 w + z)) (hf 4 w)) 0 rfl (by first | omega | (simp [up2, *]; done) | (simp [up2, *]; omega) | (simp only [up2_eq]; omega) | (split <;> omega)) (by first | omega | (simp [up2, *]; done) | (simp [up2, *]; omega) | (simp only [up2_eq]; omega) | (split <;> omega)) dX4_riffle_66 ?_
                refine x_ast C (i := k) (f := cutF (fun t => (cutF (fun z => hq (f 1 w) (f 3 w + z)) (hf 4 w)) (layN (hf 4 w) t)) k) (E' := [(b_2, .inl (cy 1, hf 4 w, .inl (cutF (fun z => hq (f 1 w) (f 3 w + z)) (hf 4 w)))), (b_3, .inl (cy 1, hf 4 w, .inl (upd (cutF (fun t => (cutF (fun z => hq (f 1 w) (f 3 w + z)) (hf 4 w)) (layN (hf 4 w) t)) k) k ((cutF (fun z => hq (f 1 w) (f 3 w + z)) (hf 4 w)) (k / 2)))))]) 1 rfl (by first | omega | (simp [up2, *]; done) | (simp [up2, *]; omega) | (simp only [up2_eq]; omega) | (split <;> omega)) (by first | omega | (simp [up2, *]; done) | (simp [up2, *]; omega) | (simp only [up2_eq]; omega) | (split <;> omega)) rfl dX4_riffle_67 ?_
                refine r_iincN C dX4_riffle_68 rfl (by decide) rfl ?_
                refine r_goto (tgt := 30) C dX4_riffle_71 (by decide) ?_
                refine r_w (w' := WM cy ba ra hf hq kn (nI 0) sm ++ (Y ++ [(b_2, .inl (cy 1, hf 4 w, .inl (cutF (fun z => hq (f 1 w) (f 3 w + z)) (hf 4 w)))), (b_3, .inl (cy 1, hf 4 w, .inl (cutF (fun t => (cutF (fun z => hq (f 1 w) (f 3 w + z)) (hf 4 w)) (layN (hf 4 w) t)) (k + 1))))])) (by rw [cutF_up (F := fun t => (cutF (fun z => hq (f 1 w) (f 3 w + z)) (hf 4 w)) (layN (hf 4 w) t)) (k := k) (x := ((cutF (fun z => hq (f 1 w) (f 3 w + z)) (hf 4 w)) (k / 2))) (by unfold layN; first | rw [if_pos (by assumption)] | rw [if_neg (by assumption)])]) ?_
                exact (Nat.not_lt_zero _ (by omega)).elim
      | succ d ih_L30 =>
        intro k hk
        refine r_iload C dX4_riffle_30 rfl ?_
        refine r_aload_n C dX4_riffle_32 rfl ?_
        refine x_len C (t0 := 1) 0 rfl rfl dX4_riffle_33 ?_
        refine r_icN_ge (a := k) (b := (hf 4 w)) (tgt := 74) C (by first | omega | (simp [up2, *]; done) | (simp [up2, *]; omega) | (simp only [up2_eq]; omega) | (split <;> omega)) (by first | omega | (simp [up2, *]; done) | (simp [up2, *]; omega) | (simp only [up2_eq]; omega) | (split <;> omega)) dX4_riffle_34 (by decide) (fun h34_7 => ?_) (fun h34_7 => ?_)
        · first
          | exfalso; first | omega | contradiction
          | skip
            have e9 : k = hf 4 w := by omega
            subst e9
            refine r_aload_n C dX4_riffle_74 rfl ?_
            refine x_len C (t0 := 1) 0 rfl rfl dX4_riffle_75 ?_
            refine r_iconst (v := (nI 1)) C dX4_riffle_76 (by decide) ?_
            refine r_icN_le (a := (hf 4 w)) (b := 1) (tgt := 86) C (by first | omega | (simp [up2, *]; done) | (simp [up2, *]; omega) | (simp only [up2_eq]; omega) | (split <;> omega)) (by first | omega | (simp [up2, *]; done) | (simp [up2, *]; omega) | (simp only [up2_eq]; omega) | (split <;> omega)) dX4_riffle_77 (by decide) (fun h77_8 => ?_) (fun h77_8 => ?_)
            · skip
              refine r_aload_n C dX4_riffle_86 rfl ?_
              refine r_iload_n C dX4_riffle_87 rfl ?_
              refine r_aload_n C dX4_riffle_88 rfl ?_
              refine d_Vv (st := []) hX.1.stb C hE (D_put (ba := ba) (ra := ra) (hf := hf) (hq := hq) (kn := kn) (th := (nI 0)) (sm := sm) (f := f) (w := w) (b0 := b_3) (n0 := (hf 4 w)) (g0 := (cutF (fun t => (cutF (fun z => hq (f 1 w) (f 3 w + z)) (hf 4 w)) (layN (hf 4 w) t)) (hf 4 w))) (j0 := (Y.length + 1)) hX hC (MG.same (fun _ => rfl) (fun _ => rfl) hG) (by first | omega | (simp [up2, *]; done) | (simp [up2, *]; omega) | (simp only [up2_eq]; omega) | (split <;> omega)) (by first | omega | (simp [up2, *]; done) | (simp [up2, *]; omega) | (simp only [up2_eq]; omega) | (split <;> omega)) (by first | omega | (simp [up2, *]; done) | (simp [up2, *]; omega) | (simp only [up2_eq]; omega) | (split <;> omega)) (by first | omega | (simp [up2, *]; done) | (simp [up2, *]; omega) | (simp only [up2_eq]; omega) | (split <;> omega)) ((ya_x 1).trans rfl)) pk_X4_put qm_X4_99 0 8 rfl rfl wm_0 rfl rfl (Nat.le_of_ble_eq_true rfl) dX4_riffle_89 ⟨(Nat.le_of_ble_eq_true rfl), (Nat.le_of_ble_eq_true rfl)⟩ ⟨(Nat.le_of_ble_eq_true rfl), (Nat.le_of_ble_eq_true rfl)⟩ ?_
              refine r_w (w' := WM cy ba ra hf (wrR hq (f 1 w) (f 3 w) (hf 4 w) (cutF (fun t => (cutF (fun z => hq (f 1 w) (f 3 w + z)) (hf 4 w)) (layN (hf 4 w) t)) (hf 4 w))) kn (nI 0) sm ++ (Y ++ [(b_2, .inl (cy 1, hf 4 w, .inl (cutF (fun z => hq (f 1 w) (f 3 w + z)) (hf 4 w)))), (b_3, .inl (cy 1, hf 4 w, .inl (cutF (fun t => (cutF (fun z => hq (f 1 w) (f 3 w + z)) (hf 4 w)) (layN (hf 4 w) t)) (hf 4 w))))])) rfl ?_
              refine r_aload_n C dX4_riffle_92 rfl ?_
              refine x_len C (t0 := 1) 0 rfl rfl dX4_riffle_93 ?_
              refine r_pre ?_
              exact r_iret C hr dX4_riffle_94 ⟨rfl, rfl⟩ (Nat.le_of_ble_eq_true rfl) (Nat.le_of_ble_eq_true rfl)
            · exact absurd h77_8 (by first | omega | (simp [up2, *]; done) | (simp [up2, *]; omega) | (simp only [up2_eq]; omega) | (split <;> omega))
        · first
          | exfalso; first | omega | contradiction
          | skip
            refine r_aload_n C dX4_riffle_37 rfl ?_
            refine r_iload C dX4_riffle_38 rfl ?_
            refine r_aload_n C dX4_riffle_40 rfl ?_
            refine r_iload C dX4_riffle_41 rfl ?_
            refine r_iconst (v := (nI 2)) C dX4_riffle_43 (by decide) ?_
            refine r_iremN C dX4_riffle_44 (by first | omega | (simp [up2, *]; done) | (simp [up2, *]; omega) | (simp only [up2_eq]; omega) | (split <;> omega)) (by first | omega | (simp [up2, *]; done) | (simp [up2, *]; omega) | (simp only [up2_eq]; omega) | (split <;> omega)) (by first | omega | (simp [up2, *]; done) | (simp [up2, *]; omega) | (simp only [up2_eq]; omega) | (split <;> omega)) ?_
            refine r_ifN_ne (a := (k % 2)) (tgt := 55) C (by first | omega | (simp [up2, *]; done) | (simp [up2, *]; omega) | (simp only [up2_eq]; omega) | (split <;> omega)) dX4_riffle_45 (by decide) (fun h45_9 => ?_) (fun h45_9 => ?_)
            · first
              | exfalso; first | omega | contradiction
              | skip
                refine r_aload_n C dX4_riffle_55 rfl ?_
                refine x_len C (t0 := 1) 0 rfl rfl dX4_riffle_56 ?_
                refine r_iconst (v := (nI 1)) C dX4_riffle_57 (by decide) ?_
                refine r_iaddN C dX4_riffle_58 ?_
                refine r_iconst (v := (nI 2)) C dX4_riffle_59 (by decide) ?_
                refine r_idivN C dX4_riffle_60 (by first | omega | (simp [up2, *]; done) | (simp [up2, *]; omega) | (simp only [up2_eq]; omega) | (split <;> omega)) (by first | omega | (simp [up2, *]; done) | (simp [up2, *]; omega) | (simp only [up2_eq]; omega) | (split <;> omega)) (by first | omega | (simp [up2, *]; done) | (simp [up2, *]; omega) | (simp only [up2_eq]; omega) | (split <;> omega)) ?_
                refine r_iload C dX4_riffle_61 rfl ?_
                refine r_iconst (v := (nI 2)) C dX4_riffle_63 (by decide) ?_
                refine r_idivN C dX4_riffle_64 (by first | omega | (simp [up2, *]; done) | (simp [up2, *]; omega) | (simp only [up2_eq]; omega) | (split <;> omega)) (by first | omega | (simp [up2, *]; done) | (simp [up2, *]; omega) | (simp only [up2_eq]; omega) | (split <;> omega)) (by first | omega | (simp [up2, *]; done) | (simp [up2, *]; omega) | (simp only [up2_eq]; omega) | (split <;> omega)) ?_
                refine r_iaddN C dX4_riffle_65 ?_
                refine x_ald C (i := (((hf 4 w) + 1) / 2) + (k / 2)) (f := cutF (fun z => hq (f 1 w) (f 3 w + z)) (hf 4 w)) 0 rfl (by first | omega | (simp [up2, *]; done) | (simp [up2, *]; omega) | (simp only [up2_eq]; omega) | (split <;> omega)) (by first | omega | (simp [up2, *]; done) | (simp [up2, *]; omega) | (simp only [up2_eq]; omega) | (split <;> omega)) dX4_riffle_66 ?_
                refine x_ast C (i := k) (f := cutF (fun t => (cutF (fun z => hq (f 1 w) (f 3 w + z)) (hf 4 w)) (layN (hf 4 w) t)) k) (E' := [(b_2, .inl (cy 1, hf 4 w, .inl (cutF (fun z => hq (f 1 w) (f 3 w + z)) (hf 4 w)))), (b_3, .inl (cy 1, hf 4 w, .inl (upd (cutF (fun t => (cutF (fun z => hq (f 1 w) (f 3 w + z)) (hf 4 w)) (layN (hf 4 w) t)) k) k ((cutF (fun z => hq (f 1 w) (f 3 w + z)) (hf 4 w)) ((((hf 4 w) + 1) / 2) + (k / 2))))))]) 1 rfl (by first | omega | (simp [up2, *]; done) | (simp [up2, *]; omega) | (simp only [up2_eq]; omega) | (split <;> omega)) (by first | omega | (simp [up2, *]; done) | (simp [up2, *]; omega) | (simp only [up2_eq]; omega) | (split <;> omega)) rfl dX4_riffle_67 ?_
                refine r_iincN C dX4_riffle_68 rfl (by decide) rfl ?_
                refine r_goto (tgt := 30) C dX4_riffle_71 (by decide) ?_
                refine r_w (w' := WM cy ba ra hf hq kn (nI 0) sm ++ (Y ++ [(b_2, .inl (cy 1, hf 4 w, .inl (cutF (fun z => hq (f 1 w) (f 3 w + z)) (hf 4 w)))), (b_3, .inl (cy 1, hf 4 w, .inl (cutF (fun t => (cutF (fun z => hq (f 1 w) (f 3 w + z)) (hf 4 w)) (layN (hf 4 w) t)) (k + 1))))])) (by rw [cutF_up (F := fun t => (cutF (fun z => hq (f 1 w) (f 3 w + z)) (hf 4 w)) (layN (hf 4 w) t)) (k := k) (x := ((cutF (fun z => hq (f 1 w) (f 3 w + z)) (hf 4 w)) ((((hf 4 w) + 1) / 2) + (k / 2)))) (by unfold layN; first | rw [if_pos (by assumption)] | rw [if_neg (by assumption)])]) ?_
                exact ih_L30 (k + 1) (by first | omega | (simp [up2, *]; done) | (simp [up2, *]; omega) | (simp only [up2_eq]; omega) | (split <;> omega))
            · first
              | exfalso; first | omega | contradiction
              | skip
                refine r_iload C dX4_riffle_48 rfl ?_
                refine r_iconst (v := (nI 2)) C dX4_riffle_50 (by decide) ?_
                refine r_idivN C dX4_riffle_51 (by first | omega | (simp [up2, *]; done) | (simp [up2, *]; omega) | (simp only [up2_eq]; omega) | (split <;> omega)) (by first | omega | (simp [up2, *]; done) | (simp [up2, *]; omega) | (simp only [up2_eq]; omega) | (split <;> omega)) (by first | omega | (simp [up2, *]; done) | (simp [up2, *]; omega) | (simp only [up2_eq]; omega) | (split <;> omega)) ?_
                refine r_goto (tgt := 66) C dX4_riffle_52 (by decide) ?_
                refine x_ald C (i := k / 2) (f := cutF (fun z => hq (f 1 w) (f 3 w + z)) (hf 4 w)) 0 rfl (by first | omega | (simp [up2, *]; done) | (simp [up2, *]; omega) | (simp only [up2_eq]; omega) | (split <;> omega)) (by first | omega | (simp [up2, *]; done) | (simp [up2, *]; omega) | (simp only [up2_eq]; omega) | (split <;> omega)) dX4_riffle_66 ?_
                refine x_ast C (i := k) (f := cutF (fun t => (cutF (fun z => hq (f 1 w) (f 3 w + z)) (hf 4 w)) (layN (hf 4 w) t)) k) (E' := [(b_2, .inl (cy 1, hf 4 w, .inl (cutF (fun z => hq (f 1 w) (f 3 w + z)) (hf 4 w)))), (b_3, .inl (cy 1, hf 4 w, .inl (upd (cutF (fun t => (cutF (fun z => hq (f 1 w) (f 3 w + z)) (hf 4 w)) (layN (hf 4 w) t)) k) k ((cutF (fun z => hq (f 1 w) (f 3 w + z)) (hf 4 w)) (k / 2)))))]) 1 rfl (by first | omega | (simp [up2, *]; done) | (simp [up2, *]; omega) | (simp only [up2_eq]; omega) | (split <;> omega)) (by first | omega | (simp [up2, *]; done) | (simp [up2, *]; omega) | (simp only [up2_eq]; omega) | (split <;> omega)) rfl dX4_riffle_67 ?_
                refine r_iincN C dX4_riffle_68 rfl (by decide) rfl ?_
                refine r_goto (tgt := 30) C dX4_riffle_71 (by decide) ?_
                refine r_w (w' := WM cy ba ra hf hq kn (nI 0) sm ++ (Y ++ [(b_2, .inl (cy 1, hf 4 w, .inl (cutF (fun z => hq (f 1 w) (f 3 w + z)) (hf 4 w)))), (b_3, .inl (cy 1, hf 4 w, .inl (cutF (fun t => (cutF (fun z => hq (f 1 w) (f 3 w + z)) (hf 4 w)) (layN (hf 4 w) t)) (k + 1))))])) (by rw [cutF_up (F := fun t => (cutF (fun z => hq (f 1 w) (f 3 w + z)) (hf 4 w)) (layN (hf 4 w) t)) (k := k) (x := ((cutF (fun z => hq (f 1 w) (f 3 w + z)) (hf 4 w)) (k / 2))) (by unfold layN; first | rw [if_pos (by assumption)] | rw [if_neg (by assumption)])]) ?_
                exact ih_L30 (k + 1) (by first | omega | (simp [up2, *]; done) | (simp [up2, *]; omega) | (simp only [up2_eq]; omega) | (split <;> omega))
    exact L30 (hf 4 w) 0 (by first | omega | (simp [up2, *]; done) | (simp [up2, *]; omega) | (simp only [up2_eq]; omega) | (split <;> omega))
  · exact absurd h11_1 (by first | omega | (simp [up2, *]; done) | (simp [up2, *]; omega) | (simp only [up2_eq]; omega) | (split <;> omega))
theorem dX4_riffle_80 : decode cX4_riffle 80 = .ok (.aload_n 0, 1) := dqo_42 (kb_X4_riffle_1 16 rfl)
theorem dX4_riffle_81 : decode cX4_riffle 81 = .ok (.iload_n 1, 1) := dqo_27 (kb_X4_riffle_1 17 rfl)
theorem dX4_riffle_82 : decode cX4_riffle 82 = .ok (.iconst (-1), 1) := dqo_2 (kb_X4_riffle_1 18 rfl)
theorem dX4_riffle_83 : decode cX4_riffle 83 = .ok (.invokevirtual 74, 3) := dqo_182 0 74 (kb_X4_riffle_1 19 rfl) (kb_X4_riffle_1 20 rfl) (kb_X4_riffle_1 21 rfl)
set_option maxRecDepth 100000 in
set_option maxHeartbeats 4000000 in
theorem D_riffle_ok {l : Launch} {D : va_G} {cy : Nat → ClassId} {X : (Nat → Prop) → State → Heap → Prop} {ba ra : Nat → Nat} {hf : Nat → Nat → Nat} {hq : Nat → Nat → Int32} {kn th : Int32} {sm : Int64} {Y : va_W} {f : Nat → Nat → Nat} {r : Nat → Nat → Int32} {w : Nat} (hX : EnvM X cy) (hC : CInv f) (hM : MR f r hf hq) (hw : w < 8) (h5w : f 5 w = 1) (hz : 1 < f 4 w) : Cd l D cy X yX4_riffle cX4_riffle 5 (some .int) (rmk 9 4 48 420) [.ref (ba 9), .int (nI w)] (WM cy ba ra hf hq kn th sm ++ Y) (some (.int (nI (hf 4 w)))) (WM cy ba ra (chM f hf w 4294967295) (wrR hq (f 1 w) (f 3 w) (hf 4 w) (cutF (fun t => (cutF (fun z => hq (f 1 w) (f 3 w + z)) (hf 4 w)) (layN (hf 4 w) t)) (hf 4 w))) kn (nI 0) sm ++ Y) := by
  have hG := hM.1
  have h5M := hM.h5M hC
  have h4M := hC.h4M
  have h9a := hM.h9a hC
  have h6a := hM.h6a
  have hU := hM.hU hC
  have qw := hM.wh hC hw h5w
  refine Cm.of [some (.ref (ba 9)), some (.int (nI w)), none, none, none] pn_X4 rfl (Nat.le_of_ble_eq_true rfl) ?_
  intro p e s m args below meth c A C hE hr hnt hn
  refine r_aload_n C dX4_riffle_0 rfl ?_
  refine r_aload_n C dX4_riffle_1 rfl ?_
  refine r_iload_n C dX4_riffle_2 rfl ?_
  refine d_V (st := [.ref (ba 9)]) hX.1.stb C hE (D_isNoWhere0 (ba := ba) (ra := ra) (hf := hf) (hq := hq) (kn := kn) (th := th) (sm := sm) (Y := Y) (w := w) hX (by first | omega | (simp [up2, *]; done) | (simp [up2, *]; omega) | (simp only [up2_eq]; omega) | (split <;> omega)) (by first | omega | (simp [up2, *]; done) | (simp [up2, *]; omega) | (simp only [up2_eq]; omega) | (split <;> omega))) pk_X4_isNoWhere qm_X4_55 0 8 rfl rfl wm_0 rfl rfl (Nat.le_of_ble_eq_true rfl) dX4_riffle_3 ⟨(Nat.le_of_ble_eq_true rfl), (Nat.le_of_ble_eq_true rfl)⟩ ⟨(Nat.le_of_ble_eq_true rfl), (Nat.le_of_ble_eq_true rfl)⟩ ?_
  refine r_w (w' := WM cy ba ra hf hq kn th sm ++ Y) rfl ?_
  refine r_iconst (v := (nI 0)) C dX4_riffle_6 (by decide) ?_
  refine r_iconst (v := (nI 0)) C dX4_riffle_7 (by decide) ?_
  refine d_V (st := []) hX.1.stb C hE (D_fails0 (ba := ba) (ra := ra) (hf := hf) (hq := hq) (kn := kn) (th := th) (sm := sm) (Y := Y)  hX ) pk_X4_fails qm_X4_84 0 8 rfl rfl wm_0 rfl rfl (Nat.le_of_ble_eq_true rfl) dX4_riffle_8 ⟨(Nat.le_of_ble_eq_true rfl), (Nat.le_of_ble_eq_true rfl)⟩ ⟨(Nat.le_of_ble_eq_true rfl), (Nat.le_of_ble_eq_true rfl)⟩ ?_
  refine r_w (w' := WM cy ba ra hf hq kn (nI 0) sm ++ Y) rfl ?_
  refine r_ifN_eq (a := 0) (tgt := 16) C (by first | omega | (simp [up2, *]; done) | (simp [up2, *]; omega) | (simp only [up2_eq]; omega) | (split <;> omega)) dX4_riffle_11 (by decide) (fun h11_1 => ?_) (fun h11_1 => ?_)
  · skip
    refine r_aload_n C dX4_riffle_16 rfl ?_
    refine r_iload_n C dX4_riffle_17 rfl ?_
    refine e_V (st := []) hX.1.stb C hE (D_items (ba := ba) (ra := ra) (hf := hf) (hq := hq) (kn := kn) (th := (nI 0)) (sm := sm) (Y := Y) (f := f) (w := w) hX hC (MG.same (fun _ => rfl) (fun _ => rfl) hG) (by first | omega | (simp [up2, *]; done) | (simp [up2, *]; omega) | (simp only [up2_eq]; omega) | (split <;> omega)) (by first | omega | (simp [up2, *]; done) | (simp [up2, *]; omega) | (simp only [up2_eq]; omega) | (split <;> omega)) (by first | omega | (simp [up2, *]; done) | (simp [up2, *]; omega) | (simp only [up2_eq]; omega) | (split <;> omega)) (by first | omega | (simp [up2, *]; done) | (simp [up2, *]; omega) | (simp only [up2_eq]; omega) | (split <;> omega))) pk_X4_items qm_X4_95 0 8 rfl rfl wm_0 rfl rfl (Nat.le_of_ble_eq_true rfl) dX4_riffle_18 ⟨(Nat.le_of_ble_eq_true rfl), (Nat.le_of_ble_eq_true rfl)⟩ ⟨(Nat.le_of_ble_eq_true rfl), (Nat.le_of_ble_eq_true rfl)⟩ (fun b_2 => ?_)
    refine r_w (w' := WM cy ba ra hf hq kn (nI 0) sm ++ (Y ++ [(b_2, .inl (cy 1, hf 4 w, .inl (cutF (fun z => hq (f 1 w) (f 3 w + z)) (hf 4 w))))])) (by simp only [List.append_assoc, List.cons_append, List.nil_append]) ?_
    refine r_st (st' := [.ref b_2]) rfl ?_
    refine r_astore_n C dX4_riffle_21 (by decide) rfl ?_
    refine r_aload_n C dX4_riffle_22 rfl ?_
    refine x_len C (t0 := 1) 0 rfl rfl dX4_riffle_23 ?_
    refine r_newT C .int .int 1 rfl (by simp) qa_int (n := hf 4 w) (show hf 4 w < 1000000 from Nat.lt_of_le_of_lt (show hf 4 w ≤ 12 from by first | omega | (simp [up2, *]; done) | (simp [up2, *]; omega) | (simp only [up2_eq]; omega) | (split <;> omega)) (by decide)) (2) (24) (Nat.le_of_ble_eq_true rfl) (Nat.add_le_add (Nat.le_refl _) (show hf 4 w ≤ 12 from by first | omega | (simp [up2, *]; done) | (simp [up2, *]; omega) | (simp only [up2_eq]; omega) | (split <;> omega))) (Nat.le_of_ble_eq_true rfl) (Nat.le_of_ble_eq_true rfl) dX4_riffle_24 (fun b_3 => ?_)
    refine r_w (w' := WM cy ba ra hf hq kn (nI 0) sm ++ (Y ++ [(b_2, .inl (cy 1, hf 4 w, .inl (cutF (fun z => hq (f 1 w) (f 3 w + z)) (hf 4 w)))), (b_3, .inl (cy 1, hf 4 w, .inl (fun _ => 0)))])) (by simp only [List.append_assoc, List.cons_append, List.nil_append]) ?_
    refine r_astore_n C dX4_riffle_26 (by decide) rfl ?_
    refine r_iconst (v := (nI 0)) C dX4_riffle_27 (by decide) ?_
    refine r_istore C dX4_riffle_28 (by decide) rfl ?_
    refine r_w (w' := WM cy ba ra hf hq kn (nI 0) sm ++ (Y ++ [(b_2, .inl (cy 1, hf 4 w, .inl (cutF (fun z => hq (f 1 w) (f 3 w + z)) (hf 4 w)))), (b_3, .inl (cy 1, hf 4 w, .inl (cutF (fun t => (cutF (fun z => hq (f 1 w) (f 3 w + z)) (hf 4 w)) (layN (hf 4 w) t)) 0)))])) (by rw [cutF_0]) ?_
    have L30 : ∀ (d : Nat) (k : Nat), (hk : k + d = hf 4 w) → vC p l e (rmk 9 4 48 420) s m args below meth c D A (vx_MQ below (vG (fun v1 w1 => v1 = (some (.int (nI (hf 4 w)))) ∧ w1 = WM cy ba ra (chM f hf w 4294967295) (wrR hq (f 1 w) (f 3 w) (hf 4 w) (cutF (fun t => (cutF (fun z => hq (f 1 w) (f 3 w + z)) (hf 4 w)) (layN (hf 4 w) t)) (hf 4 w))) kn (nI 0) sm ++ Y) D vwCl A) (vGX (fun _ => False) D vwCl (WM cy ba ra hf hq kn th sm ++ Y) A) args s (rmk 9 4 48 420).cells (rmk 9 4 48 420).slots A) 5 2 24 (WM cy ba ra hf hq kn (nI 0) sm ++ (Y ++ [(b_2, .inl (cy 1, hf 4 w, .inl (cutF (fun z => hq (f 1 w) (f 3 w + z)) (hf 4 w)))), (b_3, .inl (cy 1, hf 4 w, .inl (cutF (fun t => (cutF (fun z => hq (f 1 w) (f 3 w + z)) (hf 4 w)) (layN (hf 4 w) t)) k)))])) [some (.ref (ba 9)), some (.int (nI w)), some (.ref b_2), some (.ref b_3), some (.int (nI k))] 30 [] := by
      intro d
      induction d with
      | zero =>
        intro k hk
        refine r_iload C dX4_riffle_30 rfl ?_
        refine r_aload_n C dX4_riffle_32 rfl ?_
        refine x_len C (t0 := 1) 0 rfl rfl dX4_riffle_33 ?_
        refine r_icN_ge (a := k) (b := (hf 4 w)) (tgt := 74) C (by first | omega | (simp [up2, *]; done) | (simp [up2, *]; omega) | (simp only [up2_eq]; omega) | (split <;> omega)) (by first | omega | (simp [up2, *]; done) | (simp [up2, *]; omega) | (simp only [up2_eq]; omega) | (split <;> omega)) dX4_riffle_34 (by decide) (fun h34_4 => ?_) (fun h34_4 => ?_)
        · first
          | exfalso; first | omega | contradiction
          | skip
            have e9 : k = hf 4 w := by omega
            subst e9
            refine r_aload_n C dX4_riffle_74 rfl ?_
            refine x_len C (t0 := 1) 0 rfl rfl dX4_riffle_75 ?_
            refine r_iconst (v := (nI 1)) C dX4_riffle_76 (by decide) ?_
            refine r_icN_le (a := (hf 4 w)) (b := 1) (tgt := 86) C (by first | omega | (simp [up2, *]; done) | (simp [up2, *]; omega) | (simp only [up2_eq]; omega) | (split <;> omega)) (by first | omega | (simp [up2, *]; done) | (simp [up2, *]; omega) | (simp only [up2_eq]; omega) | (split <;> omega)) dX4_riffle_77 (by decide) (fun h77_5 => ?_) (fun h77_5 => ?_)
            · exact absurd h77_5 (by first | omega | (simp [up2, *]; done) | (simp [up2, *]; omega) | (simp only [up2_eq]; omega) | (split <;> omega))
            · skip
              refine r_aload_n C dX4_riffle_80 rfl ?_
              refine r_iload_n C dX4_riffle_81 rfl ?_
              refine r_iconst (v := (nI 4294967295)) C dX4_riffle_82 (by decide) ?_
              refine d_Vv (st := []) hX.1.stb C hE (D_changed (ba := ba) (ra := ra) (hf := hf) (hq := hq) (kn := kn) (th := (nI 0)) (sm := sm) (f := f) (w := w) (d0 := 4294967295) hX hC (MG.same (fun _ => rfl) (fun _ => rfl) hG) (by first | omega | (simp [up2, *]; done) | (simp [up2, *]; omega) | (simp only [up2_eq]; omega) | (split <;> omega)) (by first | omega | (simp [up2, *]; done) | (simp [up2, *]; omega) | (simp only [up2_eq]; omega) | (split <;> omega)) (by first | omega | (simp [up2, *]; done) | (simp [up2, *]; omega) | (simp only [up2_eq]; omega) | (split <;> omega)) h5M h9a hU) pk_X4_changed qm_X4_74 0 8 rfl rfl wm_0 rfl rfl (Nat.le_of_ble_eq_true rfl) dX4_riffle_83 ⟨(Nat.le_of_ble_eq_true rfl), (Nat.le_of_ble_eq_true rfl)⟩ ⟨(Nat.le_of_ble_eq_true rfl), (Nat.le_of_ble_eq_true rfl)⟩ ?_
              refine r_w (w' := WM cy ba ra (chM f hf w 4294967295) hq kn (nI 0) sm ++ (Y ++ [(b_2, .inl (cy 1, hf 4 w, .inl (cutF (fun z => hq (f 1 w) (f 3 w + z)) (hf 4 w)))), (b_3, .inl (cy 1, hf 4 w, .inl (cutF (fun t => (cutF (fun z => hq (f 1 w) (f 3 w + z)) (hf 4 w)) (layN (hf 4 w) t)) (hf 4 w))))])) rfl ?_
              refine r_aload_n C dX4_riffle_86 rfl ?_
              refine r_iload_n C dX4_riffle_87 rfl ?_
              refine r_aload_n C dX4_riffle_88 rfl ?_
              refine d_Vv (st := []) hX.1.stb C hE (D_put (ba := ba) (ra := ra) (hf := (chM f hf w 4294967295)) (hq := hq) (kn := kn) (th := (nI 0)) (sm := sm) (f := f) (w := w) (b0 := b_3) (n0 := (hf 4 w)) (g0 := (cutF (fun t => (cutF (fun z => hq (f 1 w) (f 3 w + z)) (hf 4 w)) (layN (hf 4 w) t)) (hf 4 w))) (j0 := (Y.length + 1)) hX hC (MG.same (fun _ => rfl) (fun _ => rfl) hG) (by first | omega | (simp [up2, *]; done) | (simp [up2, *]; omega) | (simp only [up2_eq]; omega) | (split <;> omega)) (by first | omega | (simp [up2, *]; done) | (simp [up2, *]; omega) | (simp only [up2_eq]; omega) | (split <;> omega)) (show f 3 w + (hf 4 w) ≤ (hf 4 (f 1 w)) from (by first | omega | (simp [up2, *]; done) | (simp [up2, *]; omega) | (simp only [up2_eq]; omega) | (split <;> omega))) (show (hf 4 (f 1 w)) ≤ 12 from (by first | omega | (simp [up2, *]; done) | (simp [up2, *]; omega) | (simp only [up2_eq]; omega) | (split <;> omega))) ((ya_x 1).trans rfl)) pk_X4_put qm_X4_99 0 8 rfl rfl wm_0 rfl rfl (Nat.le_of_ble_eq_true rfl) dX4_riffle_89 ⟨(Nat.le_of_ble_eq_true rfl), (Nat.le_of_ble_eq_true rfl)⟩ ⟨(Nat.le_of_ble_eq_true rfl), (Nat.le_of_ble_eq_true rfl)⟩ ?_
              refine r_w (w' := WM cy ba ra (chM f hf w 4294967295) (wrR hq (f 1 w) (f 3 w) (hf 4 w) (cutF (fun t => (cutF (fun z => hq (f 1 w) (f 3 w + z)) (hf 4 w)) (layN (hf 4 w) t)) (hf 4 w))) kn (nI 0) sm ++ (Y ++ [(b_2, .inl (cy 1, hf 4 w, .inl (cutF (fun z => hq (f 1 w) (f 3 w + z)) (hf 4 w)))), (b_3, .inl (cy 1, hf 4 w, .inl (cutF (fun t => (cutF (fun z => hq (f 1 w) (f 3 w + z)) (hf 4 w)) (layN (hf 4 w) t)) (hf 4 w))))])) rfl ?_
              refine r_aload_n C dX4_riffle_92 rfl ?_
              refine x_len C (t0 := 1) 0 rfl rfl dX4_riffle_93 ?_
              refine r_pre ?_
              exact r_iret C hr dX4_riffle_94 ⟨rfl, rfl⟩ (Nat.le_of_ble_eq_true rfl) (Nat.le_of_ble_eq_true rfl)
        · first
          | exfalso; first | omega | contradiction
          | skip
            refine r_aload_n C dX4_riffle_37 rfl ?_
            refine r_iload C dX4_riffle_38 rfl ?_
            refine r_aload_n C dX4_riffle_40 rfl ?_
            refine r_iload C dX4_riffle_41 rfl ?_
            refine r_iconst (v := (nI 2)) C dX4_riffle_43 (by decide) ?_
            refine r_iremN C dX4_riffle_44 (by first | omega | (simp [up2, *]; done) | (simp [up2, *]; omega) | (simp only [up2_eq]; omega) | (split <;> omega)) (by first | omega | (simp [up2, *]; done) | (simp [up2, *]; omega) | (simp only [up2_eq]; omega) | (split <;> omega)) (by first | omega | (simp [up2, *]; done) | (simp [up2, *]; omega) | (simp only [up2_eq]; omega) | (split <;> omega)) ?_
            refine r_ifN_ne (a := (k % 2)) (tgt := 55) C (by first | omega | (simp [up2, *]; done) | (simp [up2, *]; omega) | (simp only [up2_eq]; omega) | (split <;> omega)) dX4_riffle_45 (by decide) (fun h45_6 => ?_) (fun h45_6 => ?_)
            · first
              | exfalso; first | omega | contradiction
              | skip
                refine r_aload_n C dX4_riffle_55 rfl ?_
                refine x_len C (t0 := 1) 0 rfl rfl dX4_riffle_56 ?_
                refine r_iconst (v := (nI 1)) C dX4_riffle_57 (by decide) ?_
                refine r_iaddN C dX4_riffle_58 ?_
                refine r_iconst (v := (nI 2)) C dX4_riffle_59 (by decide) ?_
                refine r_idivN C dX4_riffle_60 (by first | omega | (simp [up2, *]; done) | (simp [up2, *]; omega) | (simp only [up2_eq]; omega) | (split <;> omega)) (by first | omega | (simp [up2, *]; done) | (simp [up2, *]; omega) | (simp only [up2_eq]; omega) | (split <;> omega)) (by first | omega | (simp [up2, *]; done) | (simp [up2, *]; omega) | (simp only [up2_eq]; omega) | (split <;> omega)) ?_
                refine r_iload C dX4_riffle_61 rfl ?_
                refine r_iconst (v := (nI 2)) C dX4_riffle_63 (by decide) ?_
                refine r_idivN C dX4_riffle_64 (by first | omega | (simp [up2, *]; done) | (simp [up2, *]; omega) | (simp only [up2_eq]; omega) | (split <;> omega)) (by first | omega | (simp [up2, *]; done) | (simp [up2, *]; omega) | (simp only [up2_eq]; omega) | (split <;> omega)) (by first | omega | (simp [up2, *]; done) | (simp [up2, *]; omega) | (simp only [up2_eq]; omega) | (split <;> omega)) ?_
                refine r_iaddN C dX4_riffle_65 ?_
                refine x_ald C (i := (((hf 4 w) + 1) / 2) + (k / 2)) (f := cutF (fun z => hq (f 1 w) (f 3 w + z)) (hf 4 w)) 0 rfl (by first | omega | (simp [up2, *]; done) | (simp [up2, *]; omega) | (simp only [up2_eq]; omega) | (split <;> omega)) (by first | omega | (simp [up2, *]; done) | (simp [up2, *]; omega) | (simp only [up2_eq]; omega) | (split <;> omega)) dX4_riffle_66 ?_
                refine x_ast C (i := k) (f := cutF (fun t => (cutF (fun z => hq (f 1 w) (f 3 w + z)) (hf 4 w)) (layN (hf 4 w) t)) k) (E' := [(b_2, .inl (cy 1, hf 4 w, .inl (cutF (fun z => hq (f 1 w) (f 3 w + z)) (hf 4 w)))), (b_3, .inl (cy 1, hf 4 w, .inl (upd (cutF (fun t => (cutF (fun z => hq (f 1 w) (f 3 w + z)) (hf 4 w)) (layN (hf 4 w) t)) k) k ((cutF (fun z => hq (f 1 w) (f 3 w + z)) (hf 4 w)) ((((hf 4 w) + 1) / 2) + (k / 2))))))]) 1 rfl (by first | omega | (simp [up2, *]; done) | (simp [up2, *]; omega) | (simp only [up2_eq]; omega) | (split <;> omega)) (by first | omega | (simp [up2, *]; done) | (simp [up2, *]; omega) | (simp only [up2_eq]; omega) | (split <;> omega)) rfl dX4_riffle_67 ?_
                refine r_iincN C dX4_riffle_68 rfl (by decide) rfl ?_
                refine r_goto (tgt := 30) C dX4_riffle_71 (by decide) ?_
                refine r_w (w' := WM cy ba ra hf hq kn (nI 0) sm ++ (Y ++ [(b_2, .inl (cy 1, hf 4 w, .inl (cutF (fun z => hq (f 1 w) (f 3 w + z)) (hf 4 w)))), (b_3, .inl (cy 1, hf 4 w, .inl (cutF (fun t => (cutF (fun z => hq (f 1 w) (f 3 w + z)) (hf 4 w)) (layN (hf 4 w) t)) (k + 1))))])) (by rw [cutF_up (F := fun t => (cutF (fun z => hq (f 1 w) (f 3 w + z)) (hf 4 w)) (layN (hf 4 w) t)) (k := k) (x := ((cutF (fun z => hq (f 1 w) (f 3 w + z)) (hf 4 w)) ((((hf 4 w) + 1) / 2) + (k / 2)))) (by unfold layN; first | rw [if_pos (by assumption)] | rw [if_neg (by assumption)])]) ?_
                exact (Nat.not_lt_zero _ (by omega)).elim
            · first
              | exfalso; first | omega | contradiction
              | skip
                refine r_iload C dX4_riffle_48 rfl ?_
                refine r_iconst (v := (nI 2)) C dX4_riffle_50 (by decide) ?_
                refine r_idivN C dX4_riffle_51 (by first | omega | (simp [up2, *]; done) | (simp [up2, *]; omega) | (simp only [up2_eq]; omega) | (split <;> omega)) (by first | omega | (simp [up2, *]; done) | (simp [up2, *]; omega) | (simp only [up2_eq]; omega) | (split <;> omega)) (by first | omega | (simp [up2, *]; done) | (simp [up2, *]; omega) | (simp only [up2_eq]; omega) | (split <;> omega)) ?_
                refine r_goto (tgt := 66) C dX4_riffle_52 (by decide) ?_
                refine x_ald C (i := k / 2) (f := cutF (fun z => hq (f 1 w) (f 3 w + z)) (hf 4 w)) 0 rfl (by first | omega | (simp [up2, *]; done) | (simp [up2, *]; omega) | (simp only [up2_eq]; omega) | (split <;> omega)) (by first | omega | (simp [up2, *]; done) | (simp [up2, *]; omega) | (simp only [up2_eq]; omega) | (split <;> omega)) dX4_riffle_66 ?_
                refine x_ast C (i := k) (f := cutF (fun t => (cutF (fun z => hq (f 1 w) (f 3 w + z)) (hf 4 w)) (layN (hf 4 w) t)) k) (E' := [(b_2, .inl (cy 1, hf 4 w, .inl (cutF (fun z => hq (f 1 w) (f 3 w + z)) (hf 4 w)))), (b_3, .inl (cy 1, hf 4 w, .inl (upd (cutF (fun t => (cutF (fun z => hq (f 1 w) (f 3 w + z)) (hf 4 w)) (layN (hf 4 w) t)) k) k ((cutF (fun z => hq (f 1 w) (f 3 w + z)) (hf 4 w)) (k / 2)))))]) 1 rfl (by first | omega | (simp [up2, *]; done) | (simp [up2, *]; omega) | (simp only [up2_eq]; omega) | (split <;> omega)) (by first | omega | (simp [up2, *]; done) | (simp [up2, *]; omega) | (simp only [up2_eq]; omega) | (split <;> omega)) rfl dX4_riffle_67 ?_
                refine r_iincN C dX4_riffle_68 rfl (by decide) rfl ?_
                refine r_goto (tgt := 30) C dX4_riffle_71 (by decide) ?_
                refine r_w (w' := WM cy ba ra hf hq kn (nI 0) sm ++ (Y ++ [(b_2, .inl (cy 1, hf 4 w, .inl (cutF (fun z => hq (f 1 w) (f 3 w + z)) (hf 4 w)))), (b_3, .inl (cy 1, hf 4 w, .inl (cutF (fun t => (cutF (fun z => hq (f 1 w) (f 3 w + z)) (hf 4 w)) (layN (hf 4 w) t)) (k + 1))))])) (by rw [cutF_up (F := fun t => (cutF (fun z => hq (f 1 w) (f 3 w + z)) (hf 4 w)) (layN (hf 4 w) t)) (k := k) (x := ((cutF (fun z => hq (f 1 w) (f 3 w + z)) (hf 4 w)) (k / 2))) (by unfold layN; first | rw [if_pos (by assumption)] | rw [if_neg (by assumption)])]) ?_
                exact (Nat.not_lt_zero _ (by omega)).elim
      | succ d ih_L30 =>
        intro k hk
        refine r_iload C dX4_riffle_30 rfl ?_
        refine r_aload_n C dX4_riffle_32 rfl ?_
        refine x_len C (t0 := 1) 0 rfl rfl dX4_riffle_33 ?_
        refine r_icN_ge (a := k) (b := (hf 4 w)) (tgt := 74) C (by first | omega | (simp [up2, *]; done) | (simp [up2, *]; omega) | (simp only [up2_eq]; omega) | (split <;> omega)) (by first | omega | (simp [up2, *]; done) | (simp [up2, *]; omega) | (simp only [up2_eq]; omega) | (split <;> omega)) dX4_riffle_34 (by decide) (fun h34_7 => ?_) (fun h34_7 => ?_)
        · first
          | exfalso; first | omega | contradiction
          | skip
            have e9 : k = hf 4 w := by omega
            subst e9
            refine r_aload_n C dX4_riffle_74 rfl ?_
            refine x_len C (t0 := 1) 0 rfl rfl dX4_riffle_75 ?_
            refine r_iconst (v := (nI 1)) C dX4_riffle_76 (by decide) ?_
            refine r_icN_le (a := (hf 4 w)) (b := 1) (tgt := 86) C (by first | omega | (simp [up2, *]; done) | (simp [up2, *]; omega) | (simp only [up2_eq]; omega) | (split <;> omega)) (by first | omega | (simp [up2, *]; done) | (simp [up2, *]; omega) | (simp only [up2_eq]; omega) | (split <;> omega)) dX4_riffle_77 (by decide) (fun h77_8 => ?_) (fun h77_8 => ?_)
            · exact absurd h77_8 (by first | omega | (simp [up2, *]; done) | (simp [up2, *]; omega) | (simp only [up2_eq]; omega) | (split <;> omega))
            · skip
              refine r_aload_n C dX4_riffle_80 rfl ?_
              refine r_iload_n C dX4_riffle_81 rfl ?_
              refine r_iconst (v := (nI 4294967295)) C dX4_riffle_82 (by decide) ?_
              refine d_Vv (st := []) hX.1.stb C hE (D_changed (ba := ba) (ra := ra) (hf := hf) (hq := hq) (kn := kn) (th := (nI 0)) (sm := sm) (f := f) (w := w) (d0 := 4294967295) hX hC (MG.same (fun _ => rfl) (fun _ => rfl) hG) (by first | omega | (simp [up2, *]; done) | (simp [up2, *]; omega) | (simp only [up2_eq]; omega) | (split <;> omega)) (by first | omega | (simp [up2, *]; done) | (simp [up2, *]; omega) | (simp only [up2_eq]; omega) | (split <;> omega)) (by first | omega | (simp [up2, *]; done) | (simp [up2, *]; omega) | (simp only [up2_eq]; omega) | (split <;> omega)) h5M h9a hU) pk_X4_changed qm_X4_74 0 8 rfl rfl wm_0 rfl rfl (Nat.le_of_ble_eq_true rfl) dX4_riffle_83 ⟨(Nat.le_of_ble_eq_true rfl), (Nat.le_of_ble_eq_true rfl)⟩ ⟨(Nat.le_of_ble_eq_true rfl), (Nat.le_of_ble_eq_true rfl)⟩ ?_
              refine r_w (w' := WM cy ba ra (chM f hf w 4294967295) hq kn (nI 0) sm ++ (Y ++ [(b_2, .inl (cy 1, hf 4 w, .inl (cutF (fun z => hq (f 1 w) (f 3 w + z)) (hf 4 w)))), (b_3, .inl (cy 1, hf 4 w, .inl (cutF (fun t => (cutF (fun z => hq (f 1 w) (f 3 w + z)) (hf 4 w)) (layN (hf 4 w) t)) (hf 4 w))))])) rfl ?_
              refine r_aload_n C dX4_riffle_86 rfl ?_
              refine r_iload_n C dX4_riffle_87 rfl ?_
              refine r_aload_n C dX4_riffle_88 rfl ?_
              refine d_Vv (st := []) hX.1.stb C hE (D_put (ba := ba) (ra := ra) (hf := (chM f hf w 4294967295)) (hq := hq) (kn := kn) (th := (nI 0)) (sm := sm) (f := f) (w := w) (b0 := b_3) (n0 := (hf 4 w)) (g0 := (cutF (fun t => (cutF (fun z => hq (f 1 w) (f 3 w + z)) (hf 4 w)) (layN (hf 4 w) t)) (hf 4 w))) (j0 := (Y.length + 1)) hX hC (MG.same (fun _ => rfl) (fun _ => rfl) hG) (by first | omega | (simp [up2, *]; done) | (simp [up2, *]; omega) | (simp only [up2_eq]; omega) | (split <;> omega)) (by first | omega | (simp [up2, *]; done) | (simp [up2, *]; omega) | (simp only [up2_eq]; omega) | (split <;> omega)) (show f 3 w + (hf 4 w) ≤ (hf 4 (f 1 w)) from (by first | omega | (simp [up2, *]; done) | (simp [up2, *]; omega) | (simp only [up2_eq]; omega) | (split <;> omega))) (show (hf 4 (f 1 w)) ≤ 12 from (by first | omega | (simp [up2, *]; done) | (simp [up2, *]; omega) | (simp only [up2_eq]; omega) | (split <;> omega))) ((ya_x 1).trans rfl)) pk_X4_put qm_X4_99 0 8 rfl rfl wm_0 rfl rfl (Nat.le_of_ble_eq_true rfl) dX4_riffle_89 ⟨(Nat.le_of_ble_eq_true rfl), (Nat.le_of_ble_eq_true rfl)⟩ ⟨(Nat.le_of_ble_eq_true rfl), (Nat.le_of_ble_eq_true rfl)⟩ ?_
              refine r_w (w' := WM cy ba ra (chM f hf w 4294967295) (wrR hq (f 1 w) (f 3 w) (hf 4 w) (cutF (fun t => (cutF (fun z => hq (f 1 w) (f 3 w + z)) (hf 4 w)) (layN (hf 4 w) t)) (hf 4 w))) kn (nI 0) sm ++ (Y ++ [(b_2, .inl (cy 1, hf 4 w, .inl (cutF (fun z => hq (f 1 w) (f 3 w + z)) (hf 4 w)))), (b_3, .inl (cy 1, hf 4 w, .inl (cutF (fun t => (cutF (fun z => hq (f 1 w) (f 3 w + z)) (hf 4 w)) (layN (hf 4 w) t)) (hf 4 w))))])) rfl ?_
              refine r_aload_n C dX4_riffle_92 rfl ?_
              refine x_len C (t0 := 1) 0 rfl rfl dX4_riffle_93 ?_
              refine r_pre ?_
              exact r_iret C hr dX4_riffle_94 ⟨rfl, rfl⟩ (Nat.le_of_ble_eq_true rfl) (Nat.le_of_ble_eq_true rfl)
        · first
          | exfalso; first | omega | contradiction
          | skip
            refine r_aload_n C dX4_riffle_37 rfl ?_
            refine r_iload C dX4_riffle_38 rfl ?_
            refine r_aload_n C dX4_riffle_40 rfl ?_
            refine r_iload C dX4_riffle_41 rfl ?_
            refine r_iconst (v := (nI 2)) C dX4_riffle_43 (by decide) ?_
            refine r_iremN C dX4_riffle_44 (by first | omega | (simp [up2, *]; done) | (simp [up2, *]; omega) | (simp only [up2_eq]; omega) | (split <;> omega)) (by first | omega | (simp [up2, *]; done) | (simp [up2, *]; omega) | (simp only [up2_eq]; omega) | (split <;> omega)) (by first | omega | (simp [up2, *]; done) | (simp [up2, *]; omega) | (simp only [up2_eq]; omega) | (split <;> omega)) ?_
            refine r_ifN_ne (a := (k % 2)) (tgt := 55) C (by first | omega | (simp [up2, *]; done) | (simp [up2, *]; omega) | (simp only [up2_eq]; omega) | (split <;> omega)) dX4_riffle_45 (by decide) (fun h45_9 => ?_) (fun h45_9 => ?_)
            · first
              | exfalso; first | omega | contradiction
              | skip
                refine r_aload_n C dX4_riffle_55 rfl ?_
                refine x_len C (t0 := 1) 0 rfl rfl dX4_riffle_56 ?_
                refine r_iconst (v := (nI 1)) C dX4_riffle_57 (by decide) ?_
                refine r_iaddN C dX4_riffle_58 ?_
                refine r_iconst (v := (nI 2)) C dX4_riffle_59 (by decide) ?_
                refine r_idivN C dX4_riffle_60 (by first | omega | (simp [up2, *]; done) | (simp [up2, *]; omega) | (simp only [up2_eq]; omega) | (split <;> omega)) (by first | omega | (simp [up2, *]; done) | (simp [up2, *]; omega) | (simp only [up2_eq]; omega) | (split <;> omega)) (by first | omega | (simp [up2, *]; done) | (simp [up2, *]; omega) | (simp only [up2_eq]; omega) | (split <;> omega)) ?_
                refine r_iload C dX4_riffle_61 rfl ?_
                refine r_iconst (v := (nI 2)) C dX4_riffle_63 (by decide) ?_
                refine r_idivN C dX4_riffle_64 (by first | omega | (simp [up2, *]; done) | (simp [up2, *]; omega) | (simp only [up2_eq]; omega) | (split <;> omega)) (by first | omega | (simp [up2, *]; done) | (simp [up2, *]; omega) | (simp only [up2_eq]; omega) | (split <;> omega)) (by first | omega | (simp [up2, *]; done) | (simp [up2, *]; omega) | (simp only [up2_eq]; omega) | (split <;> omega)) ?_
                refine r_iaddN C dX4_riffle_65 ?_
                refine x_ald C (i := (((hf 4 w) + 1) / 2) + (k / 2)) (f := cutF (fun z => hq (f 1 w) (f 3 w + z)) (hf 4 w)) 0 rfl (by first | omega | (simp [up2, *]; done) | (simp [up2, *]; omega) | (simp only [up2_eq]; omega) | (split <;> omega)) (by first | omega | (simp [up2, *]; done) | (simp [up2, *]; omega) | (simp only [up2_eq]; omega) | (split <;> omega)) dX4_riffle_66 ?_
                refine x_ast C (i := k) (f := cutF (fun t => (cutF (fun z => hq (f 1 w) (f 3 w + z)) (hf 4 w)) (layN (hf 4 w) t)) k) (E' := [(b_2, .inl (cy 1, hf 4 w, .inl (cutF (fun z => hq (f 1 w) (f 3 w + z)) (hf 4 w)))), (b_3, .inl (cy 1, hf 4 w, .inl (upd (cutF (fun t => (cutF (fun z => hq (f 1 w) (f 3 w + z)) (hf 4 w)) (layN (hf 4 w) t)) k) k ((cutF (fun z => hq (f 1 w) (f 3 w + z)) (hf 4 w)) ((((hf 4 w) + 1) / 2) + (k / 2))))))]) 1 rfl (by first | omega | (simp [up2, *]; done) | (simp [up2, *]; omega) | (simp only [up2_eq]; omega) | (split <;> omega)) (by first | omega | (simp [up2, *]; done) | (simp [up2, *]; omega) | (simp only [up2_eq]; omega) | (split <;> omega)) rfl dX4_riffle_67 ?_
                refine r_iincN C dX4_riffle_68 rfl (by decide) rfl ?_
                refine r_goto (tgt := 30) C dX4_riffle_71 (by decide) ?_
                refine r_w (w' := WM cy ba ra hf hq kn (nI 0) sm ++ (Y ++ [(b_2, .inl (cy 1, hf 4 w, .inl (cutF (fun z => hq (f 1 w) (f 3 w + z)) (hf 4 w)))), (b_3, .inl (cy 1, hf 4 w, .inl (cutF (fun t => (cutF (fun z => hq (f 1 w) (f 3 w + z)) (hf 4 w)) (layN (hf 4 w) t)) (k + 1))))])) (by rw [cutF_up (F := fun t => (cutF (fun z => hq (f 1 w) (f 3 w + z)) (hf 4 w)) (layN (hf 4 w) t)) (k := k) (x := ((cutF (fun z => hq (f 1 w) (f 3 w + z)) (hf 4 w)) ((((hf 4 w) + 1) / 2) + (k / 2)))) (by unfold layN; first | rw [if_pos (by assumption)] | rw [if_neg (by assumption)])]) ?_
                exact ih_L30 (k + 1) (by first | omega | (simp [up2, *]; done) | (simp [up2, *]; omega) | (simp only [up2_eq]; omega) | (split <;> omega))
            · first
              | exfalso; first | omega | contradiction
              | skip
                refine r_iload C dX4_riffle_48 rfl ?_
                refine r_iconst (v := (nI 2)) C dX4_riffle_50 (by decide) ?_
                refine r_idivN C dX4_riffle_51 (by first | omega | (simp [up2, *]; done) | (simp [up2, *]; omega) | (simp only [up2_eq]; omega) | (split <;> omega)) (by first | omega | (simp [up2, *]; done) | (simp [up2, *]; omega) | (simp only [up2_eq]; omega) | (split <;> omega)) (by first | omega | (simp [up2, *]; done) | (simp [up2, *]; omega) | (simp only [up2_eq]; omega) | (split <;> omega)) ?_
                refine r_goto (tgt := 66) C dX4_riffle_52 (by decide) ?_
                refine x_ald C (i := k / 2) (f := cutF (fun z => hq (f 1 w) (f 3 w + z)) (hf 4 w)) 0 rfl (by first | omega | (simp [up2, *]; done) | (simp [up2, *]; omega) | (simp only [up2_eq]; omega) | (split <;> omega)) (by first | omega | (simp [up2, *]; done) | (simp [up2, *]; omega) | (simp only [up2_eq]; omega) | (split <;> omega)) dX4_riffle_66 ?_
                refine x_ast C (i := k) (f := cutF (fun t => (cutF (fun z => hq (f 1 w) (f 3 w + z)) (hf 4 w)) (layN (hf 4 w) t)) k) (E' := [(b_2, .inl (cy 1, hf 4 w, .inl (cutF (fun z => hq (f 1 w) (f 3 w + z)) (hf 4 w)))), (b_3, .inl (cy 1, hf 4 w, .inl (upd (cutF (fun t => (cutF (fun z => hq (f 1 w) (f 3 w + z)) (hf 4 w)) (layN (hf 4 w) t)) k) k ((cutF (fun z => hq (f 1 w) (f 3 w + z)) (hf 4 w)) (k / 2)))))]) 1 rfl (by first | omega | (simp [up2, *]; done) | (simp [up2, *]; omega) | (simp only [up2_eq]; omega) | (split <;> omega)) (by first | omega | (simp [up2, *]; done) | (simp [up2, *]; omega) | (simp only [up2_eq]; omega) | (split <;> omega)) rfl dX4_riffle_67 ?_
                refine r_iincN C dX4_riffle_68 rfl (by decide) rfl ?_
                refine r_goto (tgt := 30) C dX4_riffle_71 (by decide) ?_
                refine r_w (w' := WM cy ba ra hf hq kn (nI 0) sm ++ (Y ++ [(b_2, .inl (cy 1, hf 4 w, .inl (cutF (fun z => hq (f 1 w) (f 3 w + z)) (hf 4 w)))), (b_3, .inl (cy 1, hf 4 w, .inl (cutF (fun t => (cutF (fun z => hq (f 1 w) (f 3 w + z)) (hf 4 w)) (layN (hf 4 w) t)) (k + 1))))])) (by rw [cutF_up (F := fun t => (cutF (fun z => hq (f 1 w) (f 3 w + z)) (hf 4 w)) (layN (hf 4 w) t)) (k := k) (x := ((cutF (fun z => hq (f 1 w) (f 3 w + z)) (hf 4 w)) (k / 2))) (by unfold layN; first | rw [if_pos (by assumption)] | rw [if_neg (by assumption)])]) ?_
                exact ih_L30 (k + 1) (by first | omega | (simp [up2, *]; done) | (simp [up2, *]; omega) | (simp only [up2_eq]; omega) | (split <;> omega))
    exact L30 (hf 4 w) 0 (by first | omega | (simp [up2, *]; done) | (simp [up2, *]; omega) | (simp only [up2_eq]; omega) | (split <;> omega))
  · exact absurd h11_1 (by first | omega | (simp [up2, *]; done) | (simp [up2, *]; omega) | (simp only [up2_eq]; omega) | (split <;> omega))
theorem dX4_unriffle_0 : decode cX4_unriffle 0 = .ok (.aload_n 0, 1) := dqo_42 (kb_X4_unriffle_0 0 rfl)
theorem dX4_unriffle_1 : decode cX4_unriffle 1 = .ok (.aload_n 0, 1) := dqo_42 (kb_X4_unriffle_0 1 rfl)
theorem dX4_unriffle_2 : decode cX4_unriffle 2 = .ok (.iload_n 1, 1) := dqo_27 (kb_X4_unriffle_0 2 rfl)
theorem dX4_unriffle_3 : decode cX4_unriffle 3 = .ok (.invokevirtual 55, 3) := dqo_182 0 55 (kb_X4_unriffle_0 3 rfl) (kb_X4_unriffle_0 4 rfl) (kb_X4_unriffle_0 5 rfl)
theorem dX4_unriffle_6 : decode cX4_unriffle 6 = .ok (.iconst 0, 1) := dqo_3 (kb_X4_unriffle_0 6 rfl)
theorem dX4_unriffle_7 : decode cX4_unriffle 7 = .ok (.iconst 0, 1) := dqo_3 (kb_X4_unriffle_0 7 rfl)
theorem dX4_unriffle_8 : decode cX4_unriffle 8 = .ok (.invokevirtual 84, 3) := dqo_182 0 84 (kb_X4_unriffle_0 8 rfl) (kb_X4_unriffle_0 9 rfl) (kb_X4_unriffle_0 10 rfl)
theorem dX4_unriffle_11 : decode cX4_unriffle 11 = .ok (.ifCond .eq 5, 3) := dqo_153 0 5 (by decide) (kb_X4_unriffle_0 11 rfl) (kb_X4_unriffle_0 12 rfl) (kb_X4_unriffle_0 13 rfl)
theorem dX4_unriffle_14 : decode cX4_unriffle 14 = .ok (.iconst 0, 1) := dqo_3 (kb_X4_unriffle_0 14 rfl)
theorem dX4_unriffle_15 : decode cX4_unriffle 15 = .ok (.ireturn, 1) := dqo_172 (kb_X4_unriffle_0 15 rfl)
set_option maxRecDepth 100000 in
set_option maxHeartbeats 4000000 in
theorem D_unriffle_noW {l : Launch} {D : va_G} {cy : Nat → ClassId} {X : (Nat → Prop) → State → Heap → Prop} {ba ra : Nat → Nat} {hf : Nat → Nat → Nat} {hq : Nat → Nat → Int32} {kn th : Int32} {sm : Int64} {Y : va_W} {f : Nat → Nat → Nat} {r : Nat → Nat → Int32} {x : Int32} (hX : EnvM X cy) (hC : CInv f) (hM : MR f r hf hq) (hno : noW f x) : Cd l D cy X yX4_unriffle cX4_unriffle 5 (some .int) (rmk 9 4 48 420) [.ref (ba 9), .int x] (WM cy ba ra hf hq kn th sm ++ Y) (some (.int (nI 0))) (WM cy ba ra hf hq kn (nI 1) sm ++ Y) := by
  have hG := hM.1
  have h5M := hM.h5M hC
  have h4M := hC.h4M
  have h9a := hM.h9a hC
  have h6a := hM.h6a
  have hU := hM.hU hC
  refine Cm.of [some (.ref (ba 9)), some (.int x), none, none, none] pn_X4 rfl (Nat.le_of_ble_eq_true rfl) ?_
  intro p e s m args below meth c A C hE hr hnt hn
  refine r_aload_n C dX4_unriffle_0 rfl ?_
  refine r_aload_n C dX4_unriffle_1 rfl ?_
  refine r_iload_n C dX4_unriffle_2 rfl ?_
  refine d_V (st := [.ref (ba 9)]) hX.1.stb C hE (D_isNoWhere1 (ba := ba) (ra := ra) (hf := hf) (hq := hq) (kn := kn) (th := th) (sm := sm) (Y := Y) (f := f) (x := (x)) hX h5M h4M hno) pk_X4_isNoWhere qm_X4_55 0 8 rfl rfl wm_0 rfl rfl (Nat.le_of_ble_eq_true rfl) dX4_unriffle_3 ⟨(Nat.le_of_ble_eq_true rfl), (Nat.le_of_ble_eq_true rfl)⟩ ⟨(Nat.le_of_ble_eq_true rfl), (Nat.le_of_ble_eq_true rfl)⟩ ?_
  refine r_w (w' := WM cy ba ra hf hq kn th sm ++ Y) rfl ?_
  refine r_iconst (v := (nI 0)) C dX4_unriffle_6 (by decide) ?_
  refine r_iconst (v := (nI 0)) C dX4_unriffle_7 (by decide) ?_
  refine d_V (st := []) hX.1.stb C hE (D_fails1 (ba := ba) (ra := ra) (hf := hf) (hq := hq) (kn := kn) (th := th) (sm := sm) (Y := Y) (b0 := 0) (d0 := 0) hX ) pk_X4_fails qm_X4_84 0 8 rfl rfl wm_0 rfl rfl (Nat.le_of_ble_eq_true rfl) dX4_unriffle_8 ⟨(Nat.le_of_ble_eq_true rfl), (Nat.le_of_ble_eq_true rfl)⟩ ⟨(Nat.le_of_ble_eq_true rfl), (Nat.le_of_ble_eq_true rfl)⟩ ?_
  refine r_w (w' := WM cy ba ra hf hq kn (nI 1) sm ++ Y) rfl ?_
  refine r_ifN_eq (a := 1) (tgt := 16) C (by first | omega | (simp [up2, *]; done) | (simp [up2, *]; omega) | (simp only [up2_eq]; omega) | (split <;> omega)) dX4_unriffle_11 (by decide) (fun h11_1 => ?_) (fun h11_1 => ?_)
  · exact absurd h11_1 (by first | omega | (simp [up2, *]; done) | (simp [up2, *]; omega) | (simp only [up2_eq]; omega) | (split <;> omega))
  · skip
    refine r_iconst (v := (nI 0)) C dX4_unriffle_14 (by decide) ?_
    exact r_iret C hr dX4_unriffle_15 ⟨rfl, rfl⟩ (Nat.le_of_ble_eq_true rfl) (Nat.le_of_ble_eq_true rfl)
theorem dX4_unriffle_16 : decode cX4_unriffle 16 = .ok (.aload_n 0, 1) := dqo_42 (kb_X4_unriffle_0 16 rfl)
theorem dX4_unriffle_17 : decode cX4_unriffle 17 = .ok (.iload_n 1, 1) := dqo_27 (kb_X4_unriffle_0 17 rfl)
theorem dX4_unriffle_18 : decode cX4_unriffle 18 = .ok (.invokevirtual 95, 3) := dqo_182 0 95 (kb_X4_unriffle_0 18 rfl) (kb_X4_unriffle_0 19 rfl) (kb_X4_unriffle_0 20 rfl)
theorem dX4_unriffle_21 : decode cX4_unriffle 21 = .ok (.astore_n 2, 1) := dqo_77 (kb_X4_unriffle_0 21 rfl)
theorem dX4_unriffle_22 : decode cX4_unriffle 22 = .ok (.aload_n 2, 1) := dqo_44 (kb_X4_unriffle_0 22 rfl)
theorem dX4_unriffle_23 : decode cX4_unriffle 23 = .ok (.arraylength, 1) := dqo_190 (kb_X4_unriffle_0 23 rfl)
theorem dX4_unriffle_24 : decode cX4_unriffle 24 = .ok (.newarray .int, 2) := dqo_188_10 (kb_X4_unriffle_0 24 rfl) (kb_X4_unriffle_0 25 rfl)
theorem dX4_unriffle_26 : decode cX4_unriffle 26 = .ok (.astore_n 3, 1) := dqo_78 (kb_X4_unriffle_0 26 rfl)
theorem dX4_unriffle_27 : decode cX4_unriffle 27 = .ok (.iconst 0, 1) := dqo_3 (kb_X4_unriffle_0 27 rfl)
theorem dX4_unriffle_28 : decode cX4_unriffle 28 = .ok (.istore 4, 2) := dqo_54 4 (kb_X4_unriffle_0 28 rfl) (kb_X4_unriffle_0 29 rfl)
theorem dX4_unriffle_30 : decode cX4_unriffle 30 = .ok (.iload 4, 2) := dqo_21 4 (kb_X4_unriffle_0 30 rfl) (kb_X4_unriffle_0 31 rfl)
theorem dX4_unriffle_32 : decode cX4_unriffle 32 = .ok (.aload_n 2, 1) := dqo_44 (kb_X4_unriffle_0 32 rfl)
theorem dX4_unriffle_33 : decode cX4_unriffle 33 = .ok (.arraylength, 1) := dqo_190 (kb_X4_unriffle_0 33 rfl)
theorem dX4_unriffle_34 : decode cX4_unriffle 34 = .ok (.if_icmp .ge 40, 3) := dqo_162 0 40 (by decide) (kb_X4_unriffle_0 34 rfl) (kb_X4_unriffle_0 35 rfl) (kb_X4_unriffle_0 36 rfl)
theorem dX4_unriffle_37 : decode cX4_unriffle 37 = .ok (.aload_n 3, 1) := dqo_45 (kb_X4_unriffle_0 37 rfl)
theorem dX4_unriffle_38 : decode cX4_unriffle 38 = .ok (.iload 4, 2) := dqo_21 4 (kb_X4_unriffle_0 38 rfl) (kb_X4_unriffle_0 39 rfl)
theorem dX4_unriffle_40 : decode cX4_unriffle 40 = .ok (.iconst 2, 1) := dqo_5 (kb_X4_unriffle_0 40 rfl)
theorem dX4_unriffle_41 : decode cX4_unriffle 41 = .ok (.irem, 1) := dqo_112 (kb_X4_unriffle_0 41 rfl)
theorem dX4_unriffle_42 : decode cX4_unriffle 42 = .ok (.ifCond .ne 10, 3) := dqo_154 0 10 (by decide) (kb_X4_unriffle_0 42 rfl) (kb_X4_unriffle_0 43 rfl) (kb_X4_unriffle_0 44 rfl)
theorem dX4_unriffle_45 : decode cX4_unriffle 45 = .ok (.iload 4, 2) := dqo_21 4 (kb_X4_unriffle_0 45 rfl) (kb_X4_unriffle_0 46 rfl)
theorem dX4_unriffle_47 : decode cX4_unriffle 47 = .ok (.iconst 2, 1) := dqo_5 (kb_X4_unriffle_0 47 rfl)
theorem dX4_unriffle_48 : decode cX4_unriffle 48 = .ok (.idiv, 1) := dqo_108 (kb_X4_unriffle_0 48 rfl)
theorem dX4_unriffle_49 : decode cX4_unriffle 49 = .ok (.goto 14, 3) := dqo_167 0 14 (by decide) (kb_X4_unriffle_0 49 rfl) (kb_X4_unriffle_0 50 rfl) (kb_X4_unriffle_0 51 rfl)
theorem dX4_unriffle_52 : decode cX4_unriffle 52 = .ok (.aload_n 2, 1) := dqo_44 (kb_X4_unriffle_0 52 rfl)
theorem dX4_unriffle_53 : decode cX4_unriffle 53 = .ok (.arraylength, 1) := dqo_190 (kb_X4_unriffle_0 53 rfl)
theorem dX4_unriffle_54 : decode cX4_unriffle 54 = .ok (.iconst 1, 1) := dqo_4 (kb_X4_unriffle_0 54 rfl)
theorem dX4_unriffle_55 : decode cX4_unriffle 55 = .ok (.iadd, 1) := dqo_96 (kb_X4_unriffle_0 55 rfl)
theorem dX4_unriffle_56 : decode cX4_unriffle 56 = .ok (.iconst 2, 1) := dqo_5 (kb_X4_unriffle_0 56 rfl)
theorem dX4_unriffle_57 : decode cX4_unriffle 57 = .ok (.idiv, 1) := dqo_108 (kb_X4_unriffle_0 57 rfl)
theorem dX4_unriffle_58 : decode cX4_unriffle 58 = .ok (.iload 4, 2) := dqo_21 4 (kb_X4_unriffle_0 58 rfl) (kb_X4_unriffle_0 59 rfl)
theorem dX4_unriffle_60 : decode cX4_unriffle 60 = .ok (.iconst 2, 1) := dqo_5 (kb_X4_unriffle_0 60 rfl)
theorem dX4_unriffle_61 : decode cX4_unriffle 61 = .ok (.idiv, 1) := dqo_108 (kb_X4_unriffle_0 61 rfl)
theorem dX4_unriffle_62 : decode cX4_unriffle 62 = .ok (.iadd, 1) := dqo_96 (kb_X4_unriffle_0 62 rfl)
theorem dX4_unriffle_63 : decode cX4_unriffle 63 = .ok (.aload_n 2, 1) := dqo_44 (kb_X4_unriffle_0 63 rfl)
theorem dX4_unriffle_64 : decode cX4_unriffle 64 = .ok (.iload 4, 2) := dqo_21 4 (kb_X4_unriffle_1 0 rfl) (kb_X4_unriffle_1 1 rfl)
theorem dX4_unriffle_66 : decode cX4_unriffle 66 = .ok (.iaload, 1) := dqo_46 (kb_X4_unriffle_1 2 rfl)
theorem dX4_unriffle_67 : decode cX4_unriffle 67 = .ok (.iastore, 1) := dqo_79 (kb_X4_unriffle_1 3 rfl)
theorem dX4_unriffle_68 : decode cX4_unriffle 68 = .ok (.iinc 4 1, 3) := dqo_132 4 1 (by decide) (kb_X4_unriffle_1 4 rfl) (kb_X4_unriffle_1 5 rfl) (kb_X4_unriffle_1 6 rfl)
theorem dX4_unriffle_71 : decode cX4_unriffle 71 = .ok (.goto (-41), 3) := dqo_167 255 215 (by decide) (kb_X4_unriffle_1 7 rfl) (kb_X4_unriffle_1 8 rfl) (kb_X4_unriffle_1 9 rfl)
theorem dX4_unriffle_74 : decode cX4_unriffle 74 = .ok (.aload_n 2, 1) := dqo_44 (kb_X4_unriffle_1 10 rfl)
theorem dX4_unriffle_75 : decode cX4_unriffle 75 = .ok (.arraylength, 1) := dqo_190 (kb_X4_unriffle_1 11 rfl)
theorem dX4_unriffle_76 : decode cX4_unriffle 76 = .ok (.iconst 1, 1) := dqo_4 (kb_X4_unriffle_1 12 rfl)
theorem dX4_unriffle_77 : decode cX4_unriffle 77 = .ok (.if_icmp .le 9, 3) := dqo_164 0 9 (by decide) (kb_X4_unriffle_1 13 rfl) (kb_X4_unriffle_1 14 rfl) (kb_X4_unriffle_1 15 rfl)
theorem dX4_unriffle_86 : decode cX4_unriffle 86 = .ok (.aload_n 0, 1) := dqo_42 (kb_X4_unriffle_1 22 rfl)
theorem dX4_unriffle_87 : decode cX4_unriffle 87 = .ok (.iload_n 1, 1) := dqo_27 (kb_X4_unriffle_1 23 rfl)
theorem dX4_unriffle_88 : decode cX4_unriffle 88 = .ok (.aload_n 3, 1) := dqo_45 (kb_X4_unriffle_1 24 rfl)
theorem dX4_unriffle_89 : decode cX4_unriffle 89 = .ok (.invokevirtual 99, 3) := dqo_182 0 99 (kb_X4_unriffle_1 25 rfl) (kb_X4_unriffle_1 26 rfl) (kb_X4_unriffle_1 27 rfl)
theorem dX4_unriffle_92 : decode cX4_unriffle 92 = .ok (.aload_n 2, 1) := dqo_44 (kb_X4_unriffle_1 28 rfl)
theorem dX4_unriffle_93 : decode cX4_unriffle 93 = .ok (.arraylength, 1) := dqo_190 (kb_X4_unriffle_1 29 rfl)
theorem dX4_unriffle_94 : decode cX4_unriffle 94 = .ok (.ireturn, 1) := dqo_172 (kb_X4_unriffle_1 30 rfl)
set_option maxRecDepth 100000 in
set_option maxHeartbeats 4000000 in
theorem D_unriffle_1 {l : Launch} {D : va_G} {cy : Nat → ClassId} {X : (Nat → Prop) → State → Heap → Prop} {ba ra : Nat → Nat} {hf : Nat → Nat → Nat} {hq : Nat → Nat → Int32} {kn th : Int32} {sm : Int64} {Y : va_W} {f : Nat → Nat → Nat} {r : Nat → Nat → Int32} {w : Nat} (hX : EnvM X cy) (hC : CInv f) (hM : MR f r hf hq) (hw : w < 8) (h5w : f 5 w = 1) (hz : f 4 w ≤ 1) : Cd l D cy X yX4_unriffle cX4_unriffle 5 (some .int) (rmk 9 4 48 420) [.ref (ba 9), .int (nI w)] (WM cy ba ra hf hq kn th sm ++ Y) (some (.int (nI (hf 4 w)))) (WM cy ba ra hf (wrR hq (f 1 w) (f 3 w) (hf 4 w) (scA (unlN (hf 4 w)) (cutF (fun z => hq (f 1 w) (f 3 w + z)) (hf 4 w)) (hf 4 w) (hf 4 w))) kn (nI 0) sm ++ Y) := by
  have hG := hM.1
  have h5M := hM.h5M hC
  have h4M := hC.h4M
  have h9a := hM.h9a hC
  have h6a := hM.h6a
  have hU := hM.hU hC
  have qw := hM.wh hC hw h5w
  refine Cm.of [some (.ref (ba 9)), some (.int (nI w)), none, none, none] pn_X4 rfl (Nat.le_of_ble_eq_true rfl) ?_
  intro p e s m args below meth c A C hE hr hnt hn
  refine r_aload_n C dX4_unriffle_0 rfl ?_
  refine r_aload_n C dX4_unriffle_1 rfl ?_
  refine r_iload_n C dX4_unriffle_2 rfl ?_
  refine d_V (st := [.ref (ba 9)]) hX.1.stb C hE (D_isNoWhere0 (ba := ba) (ra := ra) (hf := hf) (hq := hq) (kn := kn) (th := th) (sm := sm) (Y := Y) (w := w) hX (by first | omega | (simp [up2, *]; done) | (simp [up2, *]; omega) | (simp only [up2_eq]; omega) | (split <;> omega)) (by first | omega | (simp [up2, *]; done) | (simp [up2, *]; omega) | (simp only [up2_eq]; omega) | (split <;> omega))) pk_X4_isNoWhere qm_X4_55 0 8 rfl rfl wm_0 rfl rfl (Nat.le_of_ble_eq_true rfl) dX4_unriffle_3 ⟨(Nat.le_of_ble_eq_true rfl), (Nat.le_of_ble_eq_true rfl)⟩ ⟨(Nat.le_of_ble_eq_true rfl), (Nat.le_of_ble_eq_true rfl)⟩ ?_
  refine r_w (w' := WM cy ba ra hf hq kn th sm ++ Y) rfl ?_
  refine r_iconst (v := (nI 0)) C dX4_unriffle_6 (by decide) ?_
  refine r_iconst (v := (nI 0)) C dX4_unriffle_7 (by decide) ?_
  refine d_V (st := []) hX.1.stb C hE (D_fails0 (ba := ba) (ra := ra) (hf := hf) (hq := hq) (kn := kn) (th := th) (sm := sm) (Y := Y)  hX ) pk_X4_fails qm_X4_84 0 8 rfl rfl wm_0 rfl rfl (Nat.le_of_ble_eq_true rfl) dX4_unriffle_8 ⟨(Nat.le_of_ble_eq_true rfl), (Nat.le_of_ble_eq_true rfl)⟩ ⟨(Nat.le_of_ble_eq_true rfl), (Nat.le_of_ble_eq_true rfl)⟩ ?_
  refine r_w (w' := WM cy ba ra hf hq kn (nI 0) sm ++ Y) rfl ?_
  refine r_ifN_eq (a := 0) (tgt := 16) C (by first | omega | (simp [up2, *]; done) | (simp [up2, *]; omega) | (simp only [up2_eq]; omega) | (split <;> omega)) dX4_unriffle_11 (by decide) (fun h11_1 => ?_) (fun h11_1 => ?_)
  · skip
    refine r_aload_n C dX4_unriffle_16 rfl ?_
    refine r_iload_n C dX4_unriffle_17 rfl ?_
    refine e_V (st := []) hX.1.stb C hE (D_items (ba := ba) (ra := ra) (hf := hf) (hq := hq) (kn := kn) (th := (nI 0)) (sm := sm) (Y := Y) (f := f) (w := w) hX hC (MG.same (fun _ => rfl) (fun _ => rfl) hG) (by first | omega | (simp [up2, *]; done) | (simp [up2, *]; omega) | (simp only [up2_eq]; omega) | (split <;> omega)) (by first | omega | (simp [up2, *]; done) | (simp [up2, *]; omega) | (simp only [up2_eq]; omega) | (split <;> omega)) (by first | omega | (simp [up2, *]; done) | (simp [up2, *]; omega) | (simp only [up2_eq]; omega) | (split <;> omega)) (by first | omega | (simp [up2, *]; done) | (simp [up2, *]; omega) | (simp only [up2_eq]; omega) | (split <;> omega))) pk_X4_items qm_X4_95 0 8 rfl rfl wm_0 rfl rfl (Nat.le_of_ble_eq_true rfl) dX4_unriffle_18 ⟨(Nat.le_of_ble_eq_true rfl), (Nat.le_of_ble_eq_true rfl)⟩ ⟨(Nat.le_of_ble_eq_true rfl), (Nat.le_of_ble_eq_true rfl)⟩ (fun b_2 => ?_)
    refine r_w (w' := WM cy ba ra hf hq kn (nI 0) sm ++ (Y ++ [(b_2, .inl (cy 1, hf 4 w, .inl (cutF (fun z => hq (f 1 w) (f 3 w + z)) (hf 4 w))))])) (by simp only [List.append_assoc, List.cons_append, List.nil_append]) ?_
    refine r_st (st' := [.ref b_2]) rfl ?_
    refine r_astore_n C dX4_unriffle_21 (by decide) rfl ?_
    refine r_aload_n C dX4_unriffle_22 rfl ?_
    refine x_len C (t0 := 1) 0 rfl rfl dX4_unriffle_23 ?_
    refine r_newT C .int .int 1 rfl (by simp) qa_int (n := hf 4 w) (show hf 4 w < 1000000 from Nat.lt_of_le_of_lt (show hf 4 w ≤ 12 from by first | omega | (simp [up2, *]; done) | (simp [up2, *]; omega) | (simp only [up2_eq]; omega) | (split <;> omega)) (by decide)) (2) (24) (Nat.le_of_ble_eq_true rfl) (Nat.add_le_add (Nat.le_refl _) (show hf 4 w ≤ 12 from by first | omega | (simp [up2, *]; done) | (simp [up2, *]; omega) | (simp only [up2_eq]; omega) | (split <;> omega))) (Nat.le_of_ble_eq_true rfl) (Nat.le_of_ble_eq_true rfl) dX4_unriffle_24 (fun b_3 => ?_)
    refine r_w (w' := WM cy ba ra hf hq kn (nI 0) sm ++ (Y ++ [(b_2, .inl (cy 1, hf 4 w, .inl (cutF (fun z => hq (f 1 w) (f 3 w + z)) (hf 4 w)))), (b_3, .inl (cy 1, hf 4 w, .inl (fun _ => 0)))])) (by simp only [List.append_assoc, List.cons_append, List.nil_append]) ?_
    refine r_astore_n C dX4_unriffle_26 (by decide) rfl ?_
    refine r_iconst (v := (nI 0)) C dX4_unriffle_27 (by decide) ?_
    refine r_istore C dX4_unriffle_28 (by decide) rfl ?_
    refine r_w (w' := WM cy ba ra hf hq kn (nI 0) sm ++ (Y ++ [(b_2, .inl (cy 1, hf 4 w, .inl (cutF (fun z => hq (f 1 w) (f 3 w + z)) (hf 4 w)))), (b_3, .inl (cy 1, hf 4 w, .inl (scA (unlN (hf 4 w)) (cutF (fun z => hq (f 1 w) (f 3 w + z)) (hf 4 w)) (hf 4 w) 0)))])) (by rw [scA_0]) ?_
    have L30 : ∀ (d : Nat) (k : Nat), (hk : k + d = hf 4 w) → vC p l e (rmk 9 4 48 420) s m args below meth c D A (vx_MQ below (vG (fun v1 w1 => v1 = (some (.int (nI (hf 4 w)))) ∧ w1 = WM cy ba ra hf (wrR hq (f 1 w) (f 3 w) (hf 4 w) (scA (unlN (hf 4 w)) (cutF (fun z => hq (f 1 w) (f 3 w + z)) (hf 4 w)) (hf 4 w) (hf 4 w))) kn (nI 0) sm ++ Y) D vwCl A) (vGX (fun _ => False) D vwCl (WM cy ba ra hf hq kn th sm ++ Y) A) args s (rmk 9 4 48 420).cells (rmk 9 4 48 420).slots A) 5 2 24 (WM cy ba ra hf hq kn (nI 0) sm ++ (Y ++ [(b_2, .inl (cy 1, hf 4 w, .inl (cutF (fun z => hq (f 1 w) (f 3 w + z)) (hf 4 w)))), (b_3, .inl (cy 1, hf 4 w, .inl (scA (unlN (hf 4 w)) (cutF (fun z => hq (f 1 w) (f 3 w + z)) (hf 4 w)) (hf 4 w) k)))])) [some (.ref (ba 9)), some (.int (nI w)), some (.ref b_2), some (.ref b_3), some (.int (nI k))] 30 [] := by
      intro d
      induction d with
      | zero =>
        intro k hk
        refine r_iload C dX4_unriffle_30 rfl ?_
        refine r_aload_n C dX4_unriffle_32 rfl ?_
        refine x_len C (t0 := 1) 0 rfl rfl dX4_unriffle_33 ?_
        refine r_icN_ge (a := k) (b := (hf 4 w)) (tgt := 74) C (by first | omega | (simp [up2, *]; done) | (simp [up2, *]; omega) | (simp only [up2_eq]; omega) | (split <;> omega)) (by first | omega | (simp [up2, *]; done) | (simp [up2, *]; omega) | (simp only [up2_eq]; omega) | (split <;> omega)) dX4_unriffle_34 (by decide) (fun h34_4 => ?_) (fun h34_4 => ?_)
        · first
          | exfalso; first | omega | contradiction
          | skip
            have e9 : k = hf 4 w := by omega
            subst e9
            refine r_aload_n C dX4_unriffle_74 rfl ?_
            refine x_len C (t0 := 1) 0 rfl rfl dX4_unriffle_75 ?_
            refine r_iconst (v := (nI 1)) C dX4_unriffle_76 (by decide) ?_
            refine r_icN_le (a := (hf 4 w)) (b := 1) (tgt := 86) C (by first | omega | (simp [up2, *]; done) | (simp [up2, *]; omega) | (simp only [up2_eq]; omega) | (split <;> omega)) (by first | omega | (simp [up2, *]; done) | (simp [up2, *]; omega) | (simp only [up2_eq]; omega) | (split <;> omega)) dX4_unriffle_77 (by decide) (fun h77_5 => ?_) (fun h77_5 => ?_)
            · skip
              refine r_aload_n C dX4_unriffle_86 rfl ?_
              refine r_iload_n C dX4_unriffle_87 rfl ?_
              refine r_aload_n C dX4_unriffle_88 rfl ?_
              refine d_Vv (st := []) hX.1.stb C hE (D_put (ba := ba) (ra := ra) (hf := hf) (hq := hq) (kn := kn) (th := (nI 0)) (sm := sm) (f := f) (w := w) (b0 := b_3) (n0 := (hf 4 w)) (g0 := (scA (unlN (hf 4 w)) (cutF (fun z => hq (f 1 w) (f 3 w + z)) (hf 4 w)) (hf 4 w) (hf 4 w))) (j0 := (Y.length + 1)) hX hC (MG.same (fun _ => rfl) (fun _ => rfl) hG) (by first | omega | (simp [up2, *]; done) | (simp [up2, *]; omega) | (simp only [up2_eq]; omega) | (split <;> omega)) (by first | omega | (simp [up2, *]; done) | (simp [up2, *]; omega) | (simp only [up2_eq]; omega) | (split <;> omega)) (by first | omega | (simp [up2, *]; done) | (simp [up2, *]; omega) | (simp only [up2_eq]; omega) | (split <;> omega)) (by first | omega | (simp [up2, *]; done) | (simp [up2, *]; omega) | (simp only [up2_eq]; omega) | (split <;> omega)) ((ya_x 1).trans rfl)) pk_X4_put qm_X4_99 0 8 rfl rfl wm_0 rfl rfl (Nat.le_of_ble_eq_true rfl) dX4_unriffle_89 ⟨(Nat.le_of_ble_eq_true rfl), (Nat.le_of_ble_eq_true rfl)⟩ ⟨(Nat.le_of_ble_eq_true rfl), (Nat.le_of_ble_eq_true rfl)⟩ ?_
              refine r_w (w' := WM cy ba ra hf (wrR hq (f 1 w) (f 3 w) (hf 4 w) (scA (unlN (hf 4 w)) (cutF (fun z => hq (f 1 w) (f 3 w + z)) (hf 4 w)) (hf 4 w) (hf 4 w))) kn (nI 0) sm ++ (Y ++ [(b_2, .inl (cy 1, hf 4 w, .inl (cutF (fun z => hq (f 1 w) (f 3 w + z)) (hf 4 w)))), (b_3, .inl (cy 1, hf 4 w, .inl (scA (unlN (hf 4 w)) (cutF (fun z => hq (f 1 w) (f 3 w + z)) (hf 4 w)) (hf 4 w) (hf 4 w))))])) rfl ?_
              refine r_aload_n C dX4_unriffle_92 rfl ?_
              refine x_len C (t0 := 1) 0 rfl rfl dX4_unriffle_93 ?_
              refine r_pre ?_
              exact r_iret C hr dX4_unriffle_94 ⟨rfl, rfl⟩ (Nat.le_of_ble_eq_true rfl) (Nat.le_of_ble_eq_true rfl)
            · exact absurd h77_5 (by first | omega | (simp [up2, *]; done) | (simp [up2, *]; omega) | (simp only [up2_eq]; omega) | (split <;> omega))
        · first
          | exfalso; first | omega | contradiction
          | skip
            refine r_aload_n C dX4_unriffle_37 rfl ?_
            refine r_iload C dX4_unriffle_38 rfl ?_
            refine r_iconst (v := (nI 2)) C dX4_unriffle_40 (by decide) ?_
            refine r_iremN C dX4_unriffle_41 (by first | omega | (simp [up2, *]; done) | (simp [up2, *]; omega) | (simp only [up2_eq]; omega) | (split <;> omega)) (by first | omega | (simp [up2, *]; done) | (simp [up2, *]; omega) | (simp only [up2_eq]; omega) | (split <;> omega)) (by first | omega | (simp [up2, *]; done) | (simp [up2, *]; omega) | (simp only [up2_eq]; omega) | (split <;> omega)) ?_
            refine r_ifN_ne (a := (k % 2)) (tgt := 52) C (by first | omega | (simp [up2, *]; done) | (simp [up2, *]; omega) | (simp only [up2_eq]; omega) | (split <;> omega)) dX4_unriffle_42 (by decide) (fun h42_6 => ?_) (fun h42_6 => ?_)
            · first
              | exfalso; first | omega | contradiction
              | skip
                refine r_aload_n C dX4_unriffle_52 rfl ?_
                refine x_len C (t0 := 1) 0 rfl rfl dX4_unriffle_53 ?_
                refine r_iconst (v := (nI 1)) C dX4_unriffle_54 (by decide) ?_
                refine r_iaddN C dX4_unriffle_55 ?_
                refine r_iconst (v := (nI 2)) C dX4_unriffle_56 (by decide) ?_
                refine r_idivN C dX4_unriffle_57 (by first | omega | (simp [up2, *]; done) | (simp [up2, *]; omega) | (simp only [up2_eq]; omega) | (split <;> omega)) (by first | omega | (simp [up2, *]; done) | (simp [up2, *]; omega) | (simp only [up2_eq]; omega) | (split <;> omega)) (by first | omega | (simp [up2, *]; done) | (simp [up2, *]; omega) | (simp only [up2_eq]; omega) | (split <;> omega)) ?_
                refine r_iload C dX4_unriffle_58 rfl ?_
                refine r_iconst (v := (nI 2)) C dX4_unriffle_60 (by decide) ?_
                refine r_idivN C dX4_unriffle_61 (by first | omega | (simp [up2, *]; done) | (simp [up2, *]; omega) | (simp only [up2_eq]; omega) | (split <;> omega)) (by first | omega | (simp [up2, *]; done) | (simp [up2, *]; omega) | (simp only [up2_eq]; omega) | (split <;> omega)) (by first | omega | (simp [up2, *]; done) | (simp [up2, *]; omega) | (simp only [up2_eq]; omega) | (split <;> omega)) ?_
                refine r_iaddN C dX4_unriffle_62 ?_
                refine r_aload_n C dX4_unriffle_63 rfl ?_
                refine r_iload C dX4_unriffle_64 rfl ?_
                refine x_ald C (i := k) (f := cutF (fun z => hq (f 1 w) (f 3 w + z)) (hf 4 w)) 0 rfl (by first | omega | (simp [up2, *]; done) | (simp [up2, *]; omega) | (simp only [up2_eq]; omega) | (split <;> omega)) (by first | omega | (simp [up2, *]; done) | (simp [up2, *]; omega) | (simp only [up2_eq]; omega) | (split <;> omega)) dX4_unriffle_66 ?_
                refine x_ast C (i := (((hf 4 w) + 1) / 2) + (k / 2)) (f := scA (unlN (hf 4 w)) (cutF (fun z => hq (f 1 w) (f 3 w + z)) (hf 4 w)) (hf 4 w) k) (E' := [(b_2, .inl (cy 1, hf 4 w, .inl (cutF (fun z => hq (f 1 w) (f 3 w + z)) (hf 4 w)))), (b_3, .inl (cy 1, hf 4 w, .inl (upd (scA (unlN (hf 4 w)) (cutF (fun z => hq (f 1 w) (f 3 w + z)) (hf 4 w)) (hf 4 w) k) ((((hf 4 w) + 1) / 2) + (k / 2)) ((cutF (fun z => hq (f 1 w) (f 3 w + z)) (hf 4 w)) k))))]) 1 rfl (by first | omega | (simp [up2, *]; done) | (simp [up2, *]; omega) | (simp only [up2_eq]; omega) | (split <;> omega)) (by first | omega | (simp [up2, *]; done) | (simp [up2, *]; omega) | (simp only [up2_eq]; omega) | (split <;> omega)) rfl dX4_unriffle_67 ?_
                refine r_iincN C dX4_unriffle_68 rfl (by decide) rfl ?_
                refine r_goto (tgt := 30) C dX4_unriffle_71 (by decide) ?_
                refine r_w (w' := WM cy ba ra hf hq kn (nI 0) sm ++ (Y ++ [(b_2, .inl (cy 1, hf 4 w, .inl (cutF (fun z => hq (f 1 w) (f 3 w + z)) (hf 4 w)))), (b_3, .inl (cy 1, hf 4 w, .inl (scA (unlN (hf 4 w)) (cutF (fun z => hq (f 1 w) (f 3 w + z)) (hf 4 w)) (hf 4 w) (k + 1))))])) (by rw [scA_up (σ := unlN (hf 4 w)) (G := (cutF (fun z => hq (f 1 w) (f 3 w + z)) (hf 4 w))) (t := ((((hf 4 w) + 1) / 2) + (k / 2))) (k := k) (x := ((cutF (fun z => hq (f 1 w) (f 3 w + z)) (hf 4 w)) k)) (by have h8 := layN_lt (n := hf 4 w) (t := k) (by omega); unfold layN at h8; (first | rw [if_pos (by assumption)] at h8 | rw [if_neg (by assumption)] at h8); exact h8) (by have h8 := unl_lay (n := hf 4 w) (t := k) (by omega); unfold layN at h8; (first | rw [if_pos (by assumption)] at h8 | rw [if_neg (by assumption)] at h8); exact h8) (fun j hj e => by have h8 := lay_unl (n := hf 4 w) (t := j) hj; rw [e] at h8; unfold layN at h8; (first | rw [if_pos (by assumption)] at h8 | rw [if_neg (by assumption)] at h8); exact h8.symm) rfl]) ?_
                exact (Nat.not_lt_zero _ (by omega)).elim
            · first
              | exfalso; first | omega | contradiction
              | skip
                refine r_iload C dX4_unriffle_45 rfl ?_
                refine r_iconst (v := (nI 2)) C dX4_unriffle_47 (by decide) ?_
                refine r_idivN C dX4_unriffle_48 (by first | omega | (simp [up2, *]; done) | (simp [up2, *]; omega) | (simp only [up2_eq]; omega) | (split <;> omega)) (by first | omega | (simp [up2, *]; done) | (simp [up2, *]; omega) | (simp only [up2_eq]; omega) | (split <;> omega)) (by first | omega | (simp [up2, *]; done) | (simp [up2, *]; omega) | (simp only [up2_eq]; omega) | (split <;> omega)) ?_
                refine r_goto (tgt := 63) C dX4_unriffle_49 (by decide) ?_
                refine r_aload_n C dX4_unriffle_63 rfl ?_
                refine r_iload C dX4_unriffle_64 rfl ?_
                refine x_ald C (i := k) (f := cutF (fun z => hq (f 1 w) (f 3 w + z)) (hf 4 w)) 0 rfl (by first | omega | (simp [up2, *]; done) | (simp [up2, *]; omega) | (simp only [up2_eq]; omega) | (split <;> omega)) (by first | omega | (simp [up2, *]; done) | (simp [up2, *]; omega) | (simp only [up2_eq]; omega) | (split <;> omega)) dX4_unriffle_66 ?_
                refine x_ast C (i := k / 2) (f := scA (unlN (hf 4 w)) (cutF (fun z => hq (f 1 w) (f 3 w + z)) (hf 4 w)) (hf 4 w) k) (E' := [(b_2, .inl (cy 1, hf 4 w, .inl (cutF (fun z => hq (f 1 w) (f 3 w + z)) (hf 4 w)))), (b_3, .inl (cy 1, hf 4 w, .inl (upd (scA (unlN (hf 4 w)) (cutF (fun z => hq (f 1 w) (f 3 w + z)) (hf 4 w)) (hf 4 w) k) (k / 2) ((cutF (fun z => hq (f 1 w) (f 3 w + z)) (hf 4 w)) k))))]) 1 rfl (by first | omega | (simp [up2, *]; done) | (simp [up2, *]; omega) | (simp only [up2_eq]; omega) | (split <;> omega)) (by first | omega | (simp [up2, *]; done) | (simp [up2, *]; omega) | (simp only [up2_eq]; omega) | (split <;> omega)) rfl dX4_unriffle_67 ?_
                refine r_iincN C dX4_unriffle_68 rfl (by decide) rfl ?_
                refine r_goto (tgt := 30) C dX4_unriffle_71 (by decide) ?_
                refine r_w (w' := WM cy ba ra hf hq kn (nI 0) sm ++ (Y ++ [(b_2, .inl (cy 1, hf 4 w, .inl (cutF (fun z => hq (f 1 w) (f 3 w + z)) (hf 4 w)))), (b_3, .inl (cy 1, hf 4 w, .inl (scA (unlN (hf 4 w)) (cutF (fun z => hq (f 1 w) (f 3 w + z)) (hf 4 w)) (hf 4 w) (k + 1))))])) (by rw [scA_up (σ := unlN (hf 4 w)) (G := (cutF (fun z => hq (f 1 w) (f 3 w + z)) (hf 4 w))) (t := (k / 2)) (k := k) (x := ((cutF (fun z => hq (f 1 w) (f 3 w + z)) (hf 4 w)) k)) (by have h8 := layN_lt (n := hf 4 w) (t := k) (by omega); unfold layN at h8; (first | rw [if_pos (by assumption)] at h8 | rw [if_neg (by assumption)] at h8); exact h8) (by have h8 := unl_lay (n := hf 4 w) (t := k) (by omega); unfold layN at h8; (first | rw [if_pos (by assumption)] at h8 | rw [if_neg (by assumption)] at h8); exact h8) (fun j hj e => by have h8 := lay_unl (n := hf 4 w) (t := j) hj; rw [e] at h8; unfold layN at h8; (first | rw [if_pos (by assumption)] at h8 | rw [if_neg (by assumption)] at h8); exact h8.symm) rfl]) ?_
                exact (Nat.not_lt_zero _ (by omega)).elim
      | succ d ih_L30 =>
        intro k hk
        refine r_iload C dX4_unriffle_30 rfl ?_
        refine r_aload_n C dX4_unriffle_32 rfl ?_
        refine x_len C (t0 := 1) 0 rfl rfl dX4_unriffle_33 ?_
        refine r_icN_ge (a := k) (b := (hf 4 w)) (tgt := 74) C (by first | omega | (simp [up2, *]; done) | (simp [up2, *]; omega) | (simp only [up2_eq]; omega) | (split <;> omega)) (by first | omega | (simp [up2, *]; done) | (simp [up2, *]; omega) | (simp only [up2_eq]; omega) | (split <;> omega)) dX4_unriffle_34 (by decide) (fun h34_7 => ?_) (fun h34_7 => ?_)
        · first
          | exfalso; first | omega | contradiction
          | skip
            have e9 : k = hf 4 w := by omega
            subst e9
            refine r_aload_n C dX4_unriffle_74 rfl ?_
            refine x_len C (t0 := 1) 0 rfl rfl dX4_unriffle_75 ?_
            refine r_iconst (v := (nI 1)) C dX4_unriffle_76 (by decide) ?_
            refine r_icN_le (a := (hf 4 w)) (b := 1) (tgt := 86) C (by first | omega | (simp [up2, *]; done) | (simp [up2, *]; omega) | (simp only [up2_eq]; omega) | (split <;> omega)) (by first | omega | (simp [up2, *]; done) | (simp [up2, *]; omega) | (simp only [up2_eq]; omega) | (split <;> omega)) dX4_unriffle_77 (by decide) (fun h77_8 => ?_) (fun h77_8 => ?_)
            · skip
              refine r_aload_n C dX4_unriffle_86 rfl ?_
              refine r_iload_n C dX4_unriffle_87 rfl ?_
              refine r_aload_n C dX4_unriffle_88 rfl ?_
              refine d_Vv (st := []) hX.1.stb C hE (D_put (ba := ba) (ra := ra) (hf := hf) (hq := hq) (kn := kn) (th := (nI 0)) (sm := sm) (f := f) (w := w) (b0 := b_3) (n0 := (hf 4 w)) (g0 := (scA (unlN (hf 4 w)) (cutF (fun z => hq (f 1 w) (f 3 w + z)) (hf 4 w)) (hf 4 w) (hf 4 w))) (j0 := (Y.length + 1)) hX hC (MG.same (fun _ => rfl) (fun _ => rfl) hG) (by first | omega | (simp [up2, *]; done) | (simp [up2, *]; omega) | (simp only [up2_eq]; omega) | (split <;> omega)) (by first | omega | (simp [up2, *]; done) | (simp [up2, *]; omega) | (simp only [up2_eq]; omega) | (split <;> omega)) (by first | omega | (simp [up2, *]; done) | (simp [up2, *]; omega) | (simp only [up2_eq]; omega) | (split <;> omega)) (by first | omega | (simp [up2, *]; done) | (simp [up2, *]; omega) | (simp only [up2_eq]; omega) | (split <;> omega)) ((ya_x 1).trans rfl)) pk_X4_put qm_X4_99 0 8 rfl rfl wm_0 rfl rfl (Nat.le_of_ble_eq_true rfl) dX4_unriffle_89 ⟨(Nat.le_of_ble_eq_true rfl), (Nat.le_of_ble_eq_true rfl)⟩ ⟨(Nat.le_of_ble_eq_true rfl), (Nat.le_of_ble_eq_true rfl)⟩ ?_
              refine r_w (w' := WM cy ba ra hf (wrR hq (f 1 w) (f 3 w) (hf 4 w) (scA (unlN (hf 4 w)) (cutF (fun z => hq (f 1 w) (f 3 w + z)) (hf 4 w)) (hf 4 w) (hf 4 w))) kn (nI 0) sm ++ (Y ++ [(b_2, .inl (cy 1, hf 4 w, .inl (cutF (fun z => hq (f 1 w) (f 3 w + z)) (hf 4 w)))), (b_3, .inl (cy 1, hf 4 w, .inl (scA (unlN (hf 4 w)) (cutF (fun z => hq (f 1 w) (f 3 w + z)) (hf 4 w)) (hf 4 w) (hf 4 w))))])) rfl ?_
              refine r_aload_n C dX4_unriffle_92 rfl ?_
              refine x_len C (t0 := 1) 0 rfl rfl dX4_unriffle_93 ?_
              refine r_pre ?_
              exact r_iret C hr dX4_unriffle_94 ⟨rfl, rfl⟩ (Nat.le_of_ble_eq_true rfl) (Nat.le_of_ble_eq_true rfl)
            · exact absurd h77_8 (by first | omega | (simp [up2, *]; done) | (simp [up2, *]; omega) | (simp only [up2_eq]; omega) | (split <;> omega))
        · first
          | exfalso; first | omega | contradiction
          | skip
            refine r_aload_n C dX4_unriffle_37 rfl ?_
            refine r_iload C dX4_unriffle_38 rfl ?_
            refine r_iconst (v := (nI 2)) C dX4_unriffle_40 (by decide) ?_
            refine r_iremN C dX4_unriffle_41 (by first | omega | (simp [up2, *]; done) | (simp [up2, *]; omega) | (simp only [up2_eq]; omega) | (split <;> omega)) (by first | omega | (simp [up2, *]; done) | (simp [up2, *]; omega) | (simp only [up2_eq]; omega) | (split <;> omega)) (by first | omega | (simp [up2, *]; done) | (simp [up2, *]; omega) | (simp only [up2_eq]; omega) | (split <;> omega)) ?_
            refine r_ifN_ne (a := (k % 2)) (tgt := 52) C (by first | omega | (simp [up2, *]; done) | (simp [up2, *]; omega) | (simp only [up2_eq]; omega) | (split <;> omega)) dX4_unriffle_42 (by decide) (fun h42_9 => ?_) (fun h42_9 => ?_)
            · first
              | exfalso; first | omega | contradiction
              | skip
                refine r_aload_n C dX4_unriffle_52 rfl ?_
                refine x_len C (t0 := 1) 0 rfl rfl dX4_unriffle_53 ?_
                refine r_iconst (v := (nI 1)) C dX4_unriffle_54 (by decide) ?_
                refine r_iaddN C dX4_unriffle_55 ?_
                refine r_iconst (v := (nI 2)) C dX4_unriffle_56 (by decide) ?_
                refine r_idivN C dX4_unriffle_57 (by first | omega | (simp [up2, *]; done) | (simp [up2, *]; omega) | (simp only [up2_eq]; omega) | (split <;> omega)) (by first | omega | (simp [up2, *]; done) | (simp [up2, *]; omega) | (simp only [up2_eq]; omega) | (split <;> omega)) (by first | omega | (simp [up2, *]; done) | (simp [up2, *]; omega) | (simp only [up2_eq]; omega) | (split <;> omega)) ?_
                refine r_iload C dX4_unriffle_58 rfl ?_
                refine r_iconst (v := (nI 2)) C dX4_unriffle_60 (by decide) ?_
                refine r_idivN C dX4_unriffle_61 (by first | omega | (simp [up2, *]; done) | (simp [up2, *]; omega) | (simp only [up2_eq]; omega) | (split <;> omega)) (by first | omega | (simp [up2, *]; done) | (simp [up2, *]; omega) | (simp only [up2_eq]; omega) | (split <;> omega)) (by first | omega | (simp [up2, *]; done) | (simp [up2, *]; omega) | (simp only [up2_eq]; omega) | (split <;> omega)) ?_
                refine r_iaddN C dX4_unriffle_62 ?_
                refine r_aload_n C dX4_unriffle_63 rfl ?_
                refine r_iload C dX4_unriffle_64 rfl ?_
                refine x_ald C (i := k) (f := cutF (fun z => hq (f 1 w) (f 3 w + z)) (hf 4 w)) 0 rfl (by first | omega | (simp [up2, *]; done) | (simp [up2, *]; omega) | (simp only [up2_eq]; omega) | (split <;> omega)) (by first | omega | (simp [up2, *]; done) | (simp [up2, *]; omega) | (simp only [up2_eq]; omega) | (split <;> omega)) dX4_unriffle_66 ?_
                refine x_ast C (i := (((hf 4 w) + 1) / 2) + (k / 2)) (f := scA (unlN (hf 4 w)) (cutF (fun z => hq (f 1 w) (f 3 w + z)) (hf 4 w)) (hf 4 w) k) (E' := [(b_2, .inl (cy 1, hf 4 w, .inl (cutF (fun z => hq (f 1 w) (f 3 w + z)) (hf 4 w)))), (b_3, .inl (cy 1, hf 4 w, .inl (upd (scA (unlN (hf 4 w)) (cutF (fun z => hq (f 1 w) (f 3 w + z)) (hf 4 w)) (hf 4 w) k) ((((hf 4 w) + 1) / 2) + (k / 2)) ((cutF (fun z => hq (f 1 w) (f 3 w + z)) (hf 4 w)) k))))]) 1 rfl (by first | omega | (simp [up2, *]; done) | (simp [up2, *]; omega) | (simp only [up2_eq]; omega) | (split <;> omega)) (by first | omega | (simp [up2, *]; done) | (simp [up2, *]; omega) | (simp only [up2_eq]; omega) | (split <;> omega)) rfl dX4_unriffle_67 ?_
                refine r_iincN C dX4_unriffle_68 rfl (by decide) rfl ?_
                refine r_goto (tgt := 30) C dX4_unriffle_71 (by decide) ?_
                refine r_w (w' := WM cy ba ra hf hq kn (nI 0) sm ++ (Y ++ [(b_2, .inl (cy 1, hf 4 w, .inl (cutF (fun z => hq (f 1 w) (f 3 w + z)) (hf 4 w)))), (b_3, .inl (cy 1, hf 4 w, .inl (scA (unlN (hf 4 w)) (cutF (fun z => hq (f 1 w) (f 3 w + z)) (hf 4 w)) (hf 4 w) (k + 1))))])) (by rw [scA_up (σ := unlN (hf 4 w)) (G := (cutF (fun z => hq (f 1 w) (f 3 w + z)) (hf 4 w))) (t := ((((hf 4 w) + 1) / 2) + (k / 2))) (k := k) (x := ((cutF (fun z => hq (f 1 w) (f 3 w + z)) (hf 4 w)) k)) (by have h8 := layN_lt (n := hf 4 w) (t := k) (by omega); unfold layN at h8; (first | rw [if_pos (by assumption)] at h8 | rw [if_neg (by assumption)] at h8); exact h8) (by have h8 := unl_lay (n := hf 4 w) (t := k) (by omega); unfold layN at h8; (first | rw [if_pos (by assumption)] at h8 | rw [if_neg (by assumption)] at h8); exact h8) (fun j hj e => by have h8 := lay_unl (n := hf 4 w) (t := j) hj; rw [e] at h8; unfold layN at h8; (first | rw [if_pos (by assumption)] at h8 | rw [if_neg (by assumption)] at h8); exact h8.symm) rfl]) ?_
                exact ih_L30 (k + 1) (by first | omega | (simp [up2, *]; done) | (simp [up2, *]; omega) | (simp only [up2_eq]; omega) | (split <;> omega))
            · first
              | exfalso; first | omega | contradiction
              | skip
                refine r_iload C dX4_unriffle_45 rfl ?_
                refine r_iconst (v := (nI 2)) C dX4_unriffle_47 (by decide) ?_
                refine r_idivN C dX4_unriffle_48 (by first | omega | (simp [up2, *]; done) | (simp [up2, *]; omega) | (simp only [up2_eq]; omega) | (split <;> omega)) (by first | omega | (simp [up2, *]; done) | (simp [up2, *]; omega) | (simp only [up2_eq]; omega) | (split <;> omega)) (by first | omega | (simp [up2, *]; done) | (simp [up2, *]; omega) | (simp only [up2_eq]; omega) | (split <;> omega)) ?_
                refine r_goto (tgt := 63) C dX4_unriffle_49 (by decide) ?_
                refine r_aload_n C dX4_unriffle_63 rfl ?_
                refine r_iload C dX4_unriffle_64 rfl ?_
                refine x_ald C (i := k) (f := cutF (fun z => hq (f 1 w) (f 3 w + z)) (hf 4 w)) 0 rfl (by first | omega | (simp [up2, *]; done) | (simp [up2, *]; omega) | (simp only [up2_eq]; omega) | (split <;> omega)) (by first | omega | (simp [up2, *]; done) | (simp [up2, *]; omega) | (simp only [up2_eq]; omega) | (split <;> omega)) dX4_unriffle_66 ?_
                refine x_ast C (i := k / 2) (f := scA (unlN (hf 4 w)) (cutF (fun z => hq (f 1 w) (f 3 w + z)) (hf 4 w)) (hf 4 w) k) (E' := [(b_2, .inl (cy 1, hf 4 w, .inl (cutF (fun z => hq (f 1 w) (f 3 w + z)) (hf 4 w)))), (b_3, .inl (cy 1, hf 4 w, .inl (upd (scA (unlN (hf 4 w)) (cutF (fun z => hq (f 1 w) (f 3 w + z)) (hf 4 w)) (hf 4 w) k) (k / 2) ((cutF (fun z => hq (f 1 w) (f 3 w + z)) (hf 4 w)) k))))]) 1 rfl (by first | omega | (simp [up2, *]; done) | (simp [up2, *]; omega) | (simp only [up2_eq]; omega) | (split <;> omega)) (by first | omega | (simp [up2, *]; done) | (simp [up2, *]; omega) | (simp only [up2_eq]; omega) | (split <;> omega)) rfl dX4_unriffle_67 ?_
                refine r_iincN C dX4_unriffle_68 rfl (by decide) rfl ?_
                refine r_goto (tgt := 30) C dX4_unriffle_71 (by decide) ?_
                refine r_w (w' := WM cy ba ra hf hq kn (nI 0) sm ++ (Y ++ [(b_2, .inl (cy 1, hf 4 w, .inl (cutF (fun z => hq (f 1 w) (f 3 w + z)) (hf 4 w)))), (b_3, .inl (cy 1, hf 4 w, .inl (scA (unlN (hf 4 w)) (cutF (fun z => hq (f 1 w) (f 3 w + z)) (hf 4 w)) (hf 4 w) (k + 1))))])) (by rw [scA_up (σ := unlN (hf 4 w)) (G := (cutF (fun z => hq (f 1 w) (f 3 w + z)) (hf 4 w))) (t := (k / 2)) (k := k) (x := ((cutF (fun z => hq (f 1 w) (f 3 w + z)) (hf 4 w)) k)) (by have h8 := layN_lt (n := hf 4 w) (t := k) (by omega); unfold layN at h8; (first | rw [if_pos (by assumption)] at h8 | rw [if_neg (by assumption)] at h8); exact h8) (by have h8 := unl_lay (n := hf 4 w) (t := k) (by omega); unfold layN at h8; (first | rw [if_pos (by assumption)] at h8 | rw [if_neg (by assumption)] at h8); exact h8) (fun j hj e => by have h8 := lay_unl (n := hf 4 w) (t := j) hj; rw [e] at h8; unfold layN at h8; (first | rw [if_pos (by assumption)] at h8 | rw [if_neg (by assumption)] at h8); exact h8.symm) rfl]) ?_
                exact ih_L30 (k + 1) (by first | omega | (simp [up2, *]; done) | (simp [up2, *]; omega) | (simp only [up2_eq]; omega) | (split <;> omega))
    exact L30 (hf 4 w) 0 (by first | omega | (simp [up2, *]; done) | (simp [up2, *]; omega) | (simp only [up2_eq]; omega) | (split <;> omega))
  · exact absurd h11_1 (by first | omega | (simp [up2, *]; done) | (simp [up2, *]; omega) | (simp only [up2_eq]; omega) | (split <;> omega))
theorem dX4_unriffle_80 : decode cX4_unriffle 80 = .ok (.aload_n 0, 1) := dqo_42 (kb_X4_unriffle_1 16 rfl)
theorem dX4_unriffle_81 : decode cX4_unriffle 81 = .ok (.iload_n 1, 1) := dqo_27 (kb_X4_unriffle_1 17 rfl)
theorem dX4_unriffle_82 : decode cX4_unriffle 82 = .ok (.iconst (-1), 1) := dqo_2 (kb_X4_unriffle_1 18 rfl)
theorem dX4_unriffle_83 : decode cX4_unriffle 83 = .ok (.invokevirtual 74, 3) := dqo_182 0 74 (kb_X4_unriffle_1 19 rfl) (kb_X4_unriffle_1 20 rfl) (kb_X4_unriffle_1 21 rfl)
set_option maxRecDepth 100000 in
set_option maxHeartbeats 4000000 in
theorem D_unriffle_ok {l : Launch} {D : va_G} {cy : Nat → ClassId} {X : (Nat → Prop) → State → Heap → Prop} {ba ra : Nat → Nat} {hf : Nat → Nat → Nat} {hq : Nat → Nat → Int32} {kn th : Int32} {sm : Int64} {Y : va_W} {f : Nat → Nat → Nat} {r : Nat → Nat → Int32} {w : Nat} (hX : EnvM X cy) (hC : CInv f) (hM : MR f r hf hq) (hw : w < 8) (h5w : f 5 w = 1) (hz : 1 < f 4 w) : Cd l D cy X yX4_unriffle cX4_unriffle 5 (some .int) (rmk 9 4 48 420) [.ref (ba 9), .int (nI w)] (WM cy ba ra hf hq kn th sm ++ Y) (some (.int (nI (hf 4 w)))) (WM cy ba ra (chM f hf w 4294967295) (wrR hq (f 1 w) (f 3 w) (hf 4 w) (scA (unlN (hf 4 w)) (cutF (fun z => hq (f 1 w) (f 3 w + z)) (hf 4 w)) (hf 4 w) (hf 4 w))) kn (nI 0) sm ++ Y) := by
  have hG := hM.1
  have h5M := hM.h5M hC
  have h4M := hC.h4M
  have h9a := hM.h9a hC
  have h6a := hM.h6a
  have hU := hM.hU hC
  have qw := hM.wh hC hw h5w
  refine Cm.of [some (.ref (ba 9)), some (.int (nI w)), none, none, none] pn_X4 rfl (Nat.le_of_ble_eq_true rfl) ?_
  intro p e s m args below meth c A C hE hr hnt hn
  refine r_aload_n C dX4_unriffle_0 rfl ?_
  refine r_aload_n C dX4_unriffle_1 rfl ?_
  refine r_iload_n C dX4_unriffle_2 rfl ?_
  refine d_V (st := [.ref (ba 9)]) hX.1.stb C hE (D_isNoWhere0 (ba := ba) (ra := ra) (hf := hf) (hq := hq) (kn := kn) (th := th) (sm := sm) (Y := Y) (w := w) hX (by first | omega | (simp [up2, *]; done) | (simp [up2, *]; omega) | (simp only [up2_eq]; omega) | (split <;> omega)) (by first | omega | (simp [up2, *]; done) | (simp [up2, *]; omega) | (simp only [up2_eq]; omega) | (split <;> omega))) pk_X4_isNoWhere qm_X4_55 0 8 rfl rfl wm_0 rfl rfl (Nat.le_of_ble_eq_true rfl) dX4_unriffle_3 ⟨(Nat.le_of_ble_eq_true rfl), (Nat.le_of_ble_eq_true rfl)⟩ ⟨(Nat.le_of_ble_eq_true rfl), (Nat.le_of_ble_eq_true rfl)⟩ ?_
  refine r_w (w' := WM cy ba ra hf hq kn th sm ++ Y) rfl ?_
  refine r_iconst (v := (nI 0)) C dX4_unriffle_6 (by decide) ?_
  refine r_iconst (v := (nI 0)) C dX4_unriffle_7 (by decide) ?_
  refine d_V (st := []) hX.1.stb C hE (D_fails0 (ba := ba) (ra := ra) (hf := hf) (hq := hq) (kn := kn) (th := th) (sm := sm) (Y := Y)  hX ) pk_X4_fails qm_X4_84 0 8 rfl rfl wm_0 rfl rfl (Nat.le_of_ble_eq_true rfl) dX4_unriffle_8 ⟨(Nat.le_of_ble_eq_true rfl), (Nat.le_of_ble_eq_true rfl)⟩ ⟨(Nat.le_of_ble_eq_true rfl), (Nat.le_of_ble_eq_true rfl)⟩ ?_
  refine r_w (w' := WM cy ba ra hf hq kn (nI 0) sm ++ Y) rfl ?_
  refine r_ifN_eq (a := 0) (tgt := 16) C (by first | omega | (simp [up2, *]; done) | (simp [up2, *]; omega) | (simp only [up2_eq]; omega) | (split <;> omega)) dX4_unriffle_11 (by decide) (fun h11_1 => ?_) (fun h11_1 => ?_)
  · skip
    refine r_aload_n C dX4_unriffle_16 rfl ?_
    refine r_iload_n C dX4_unriffle_17 rfl ?_
    refine e_V (st := []) hX.1.stb C hE (D_items (ba := ba) (ra := ra) (hf := hf) (hq := hq) (kn := kn) (th := (nI 0)) (sm := sm) (Y := Y) (f := f) (w := w) hX hC (MG.same (fun _ => rfl) (fun _ => rfl) hG) (by first | omega | (simp [up2, *]; done) | (simp [up2, *]; omega) | (simp only [up2_eq]; omega) | (split <;> omega)) (by first | omega | (simp [up2, *]; done) | (simp [up2, *]; omega) | (simp only [up2_eq]; omega) | (split <;> omega)) (by first | omega | (simp [up2, *]; done) | (simp [up2, *]; omega) | (simp only [up2_eq]; omega) | (split <;> omega)) (by first | omega | (simp [up2, *]; done) | (simp [up2, *]; omega) | (simp only [up2_eq]; omega) | (split <;> omega))) pk_X4_items qm_X4_95 0 8 rfl rfl wm_0 rfl rfl (Nat.le_of_ble_eq_true rfl) dX4_unriffle_18 ⟨(Nat.le_of_ble_eq_true rfl), (Nat.le_of_ble_eq_true rfl)⟩ ⟨(Nat.le_of_ble_eq_true rfl), (Nat.le_of_ble_eq_true rfl)⟩ (fun b_2 => ?_)
    refine r_w (w' := WM cy ba ra hf hq kn (nI 0) sm ++ (Y ++ [(b_2, .inl (cy 1, hf 4 w, .inl (cutF (fun z => hq (f 1 w) (f 3 w + z)) (hf 4 w))))])) (by simp only [List.append_assoc, List.cons_append, List.nil_append]) ?_
    refine r_st (st' := [.ref b_2]) rfl ?_
    refine r_astore_n C dX4_unriffle_21 (by decide) rfl ?_
    refine r_aload_n C dX4_unriffle_22 rfl ?_
    refine x_len C (t0 := 1) 0 rfl rfl dX4_unriffle_23 ?_
    refine r_newT C .int .int 1 rfl (by simp) qa_int (n := hf 4 w) (show hf 4 w < 1000000 from Nat.lt_of_le_of_lt (show hf 4 w ≤ 12 from by first | omega | (simp [up2, *]; done) | (simp [up2, *]; omega) | (simp only [up2_eq]; omega) | (split <;> omega)) (by decide)) (2) (24) (Nat.le_of_ble_eq_true rfl) (Nat.add_le_add (Nat.le_refl _) (show hf 4 w ≤ 12 from by first | omega | (simp [up2, *]; done) | (simp [up2, *]; omega) | (simp only [up2_eq]; omega) | (split <;> omega))) (Nat.le_of_ble_eq_true rfl) (Nat.le_of_ble_eq_true rfl) dX4_unriffle_24 (fun b_3 => ?_)
    refine r_w (w' := WM cy ba ra hf hq kn (nI 0) sm ++ (Y ++ [(b_2, .inl (cy 1, hf 4 w, .inl (cutF (fun z => hq (f 1 w) (f 3 w + z)) (hf 4 w)))), (b_3, .inl (cy 1, hf 4 w, .inl (fun _ => 0)))])) (by simp only [List.append_assoc, List.cons_append, List.nil_append]) ?_
    refine r_astore_n C dX4_unriffle_26 (by decide) rfl ?_
    refine r_iconst (v := (nI 0)) C dX4_unriffle_27 (by decide) ?_
    refine r_istore C dX4_unriffle_28 (by decide) rfl ?_
    refine r_w (w' := WM cy ba ra hf hq kn (nI 0) sm ++ (Y ++ [(b_2, .inl (cy 1, hf 4 w, .inl (cutF (fun z => hq (f 1 w) (f 3 w + z)) (hf 4 w)))), (b_3, .inl (cy 1, hf 4 w, .inl (scA (unlN (hf 4 w)) (cutF (fun z => hq (f 1 w) (f 3 w + z)) (hf 4 w)) (hf 4 w) 0)))])) (by rw [scA_0]) ?_
    have L30 : ∀ (d : Nat) (k : Nat), (hk : k + d = hf 4 w) → vC p l e (rmk 9 4 48 420) s m args below meth c D A (vx_MQ below (vG (fun v1 w1 => v1 = (some (.int (nI (hf 4 w)))) ∧ w1 = WM cy ba ra (chM f hf w 4294967295) (wrR hq (f 1 w) (f 3 w) (hf 4 w) (scA (unlN (hf 4 w)) (cutF (fun z => hq (f 1 w) (f 3 w + z)) (hf 4 w)) (hf 4 w) (hf 4 w))) kn (nI 0) sm ++ Y) D vwCl A) (vGX (fun _ => False) D vwCl (WM cy ba ra hf hq kn th sm ++ Y) A) args s (rmk 9 4 48 420).cells (rmk 9 4 48 420).slots A) 5 2 24 (WM cy ba ra hf hq kn (nI 0) sm ++ (Y ++ [(b_2, .inl (cy 1, hf 4 w, .inl (cutF (fun z => hq (f 1 w) (f 3 w + z)) (hf 4 w)))), (b_3, .inl (cy 1, hf 4 w, .inl (scA (unlN (hf 4 w)) (cutF (fun z => hq (f 1 w) (f 3 w + z)) (hf 4 w)) (hf 4 w) k)))])) [some (.ref (ba 9)), some (.int (nI w)), some (.ref b_2), some (.ref b_3), some (.int (nI k))] 30 [] := by
      intro d
      induction d with
      | zero =>
        intro k hk
        refine r_iload C dX4_unriffle_30 rfl ?_
        refine r_aload_n C dX4_unriffle_32 rfl ?_
        refine x_len C (t0 := 1) 0 rfl rfl dX4_unriffle_33 ?_
        refine r_icN_ge (a := k) (b := (hf 4 w)) (tgt := 74) C (by first | omega | (simp [up2, *]; done) | (simp [up2, *]; omega) | (simp only [up2_eq]; omega) | (split <;> omega)) (by first | omega | (simp [up2, *]; done) | (simp [up2, *]; omega) | (simp only [up2_eq]; omega) | (split <;> omega)) dX4_unriffle_34 (by decide) (fun h34_4 => ?_) (fun h34_4 => ?_)
        · first
          | exfalso; first | omega | contradiction
          | skip
            have e9 : k = hf 4 w := by omega
            subst e9
            refine r_aload_n C dX4_unriffle_74 rfl ?_
            refine x_len C (t0 := 1) 0 rfl rfl dX4_unriffle_75 ?_
            refine r_iconst (v := (nI 1)) C dX4_unriffle_76 (by decide) ?_
            refine r_icN_le (a := (hf 4 w)) (b := 1) (tgt := 86) C (by first | omega | (simp [up2, *]; done) | (simp [up2, *]; omega) | (simp only [up2_eq]; omega) | (split <;> omega)) (by first | omega | (simp [up2, *]; done) | (simp [up2, *]; omega) | (simp only [up2_eq]; omega) | (split <;> omega)) dX4_unriffle_77 (by decide) (fun h77_5 => ?_) (fun h77_5 => ?_)
            · exact absurd h77_5 (by first | omega | (simp [up2, *]; done) | (simp [up2, *]; omega) | (simp only [up2_eq]; omega) | (split <;> omega))
            · skip
              refine r_aload_n C dX4_unriffle_80 rfl ?_
              refine r_iload_n C dX4_unriffle_81 rfl ?_
              refine r_iconst (v := (nI 4294967295)) C dX4_unriffle_82 (by decide) ?_
              refine d_Vv (st := []) hX.1.stb C hE (D_changed (ba := ba) (ra := ra) (hf := hf) (hq := hq) (kn := kn) (th := (nI 0)) (sm := sm) (f := f) (w := w) (d0 := 4294967295) hX hC (MG.same (fun _ => rfl) (fun _ => rfl) hG) (by first | omega | (simp [up2, *]; done) | (simp [up2, *]; omega) | (simp only [up2_eq]; omega) | (split <;> omega)) (by first | omega | (simp [up2, *]; done) | (simp [up2, *]; omega) | (simp only [up2_eq]; omega) | (split <;> omega)) (by first | omega | (simp [up2, *]; done) | (simp [up2, *]; omega) | (simp only [up2_eq]; omega) | (split <;> omega)) h5M h9a hU) pk_X4_changed qm_X4_74 0 8 rfl rfl wm_0 rfl rfl (Nat.le_of_ble_eq_true rfl) dX4_unriffle_83 ⟨(Nat.le_of_ble_eq_true rfl), (Nat.le_of_ble_eq_true rfl)⟩ ⟨(Nat.le_of_ble_eq_true rfl), (Nat.le_of_ble_eq_true rfl)⟩ ?_
              refine r_w (w' := WM cy ba ra (chM f hf w 4294967295) hq kn (nI 0) sm ++ (Y ++ [(b_2, .inl (cy 1, hf 4 w, .inl (cutF (fun z => hq (f 1 w) (f 3 w + z)) (hf 4 w)))), (b_3, .inl (cy 1, hf 4 w, .inl (scA (unlN (hf 4 w)) (cutF (fun z => hq (f 1 w) (f 3 w + z)) (hf 4 w)) (hf 4 w) (hf 4 w))))])) rfl ?_
              refine r_aload_n C dX4_unriffle_86 rfl ?_
              refine r_iload_n C dX4_unriffle_87 rfl ?_
              refine r_aload_n C dX4_unriffle_88 rfl ?_
              refine d_Vv (st := []) hX.1.stb C hE (D_put (ba := ba) (ra := ra) (hf := (chM f hf w 4294967295)) (hq := hq) (kn := kn) (th := (nI 0)) (sm := sm) (f := f) (w := w) (b0 := b_3) (n0 := (hf 4 w)) (g0 := (scA (unlN (hf 4 w)) (cutF (fun z => hq (f 1 w) (f 3 w + z)) (hf 4 w)) (hf 4 w) (hf 4 w))) (j0 := (Y.length + 1)) hX hC (MG.same (fun _ => rfl) (fun _ => rfl) hG) (by first | omega | (simp [up2, *]; done) | (simp [up2, *]; omega) | (simp only [up2_eq]; omega) | (split <;> omega)) (by first | omega | (simp [up2, *]; done) | (simp [up2, *]; omega) | (simp only [up2_eq]; omega) | (split <;> omega)) (show f 3 w + (hf 4 w) ≤ (hf 4 (f 1 w)) from (by first | omega | (simp [up2, *]; done) | (simp [up2, *]; omega) | (simp only [up2_eq]; omega) | (split <;> omega))) (show (hf 4 (f 1 w)) ≤ 12 from (by first | omega | (simp [up2, *]; done) | (simp [up2, *]; omega) | (simp only [up2_eq]; omega) | (split <;> omega))) ((ya_x 1).trans rfl)) pk_X4_put qm_X4_99 0 8 rfl rfl wm_0 rfl rfl (Nat.le_of_ble_eq_true rfl) dX4_unriffle_89 ⟨(Nat.le_of_ble_eq_true rfl), (Nat.le_of_ble_eq_true rfl)⟩ ⟨(Nat.le_of_ble_eq_true rfl), (Nat.le_of_ble_eq_true rfl)⟩ ?_
              refine r_w (w' := WM cy ba ra (chM f hf w 4294967295) (wrR hq (f 1 w) (f 3 w) (hf 4 w) (scA (unlN (hf 4 w)) (cutF (fun z => hq (f 1 w) (f 3 w + z)) (hf 4 w)) (hf 4 w) (hf 4 w))) kn (nI 0) sm ++ (Y ++ [(b_2, .inl (cy 1, hf 4 w, .inl (cutF (fun z => hq (f 1 w) (f 3 w + z)) (hf 4 w)))), (b_3, .inl (cy 1, hf 4 w, .inl (scA (unlN (hf 4 w)) (cutF (fun z => hq (f 1 w) (f 3 w + z)) (hf 4 w)) (hf 4 w) (hf 4 w))))])) rfl ?_
              refine r_aload_n C dX4_unriffle_92 rfl ?_
              refine x_len C (t0 := 1) 0 rfl rfl dX4_unriffle_93 ?_
              refine r_pre ?_
              exact r_iret C hr dX4_unriffle_94 ⟨rfl, rfl⟩ (Nat.le_of_ble_eq_true rfl) (Nat.le_of_ble_eq_true rfl)
        · first
          | exfalso; first | omega | contradiction
          | skip
            refine r_aload_n C dX4_unriffle_37 rfl ?_
            refine r_iload C dX4_unriffle_38 rfl ?_
            refine r_iconst (v := (nI 2)) C dX4_unriffle_40 (by decide) ?_
            refine r_iremN C dX4_unriffle_41 (by first | omega | (simp [up2, *]; done) | (simp [up2, *]; omega) | (simp only [up2_eq]; omega) | (split <;> omega)) (by first | omega | (simp [up2, *]; done) | (simp [up2, *]; omega) | (simp only [up2_eq]; omega) | (split <;> omega)) (by first | omega | (simp [up2, *]; done) | (simp [up2, *]; omega) | (simp only [up2_eq]; omega) | (split <;> omega)) ?_
            refine r_ifN_ne (a := (k % 2)) (tgt := 52) C (by first | omega | (simp [up2, *]; done) | (simp [up2, *]; omega) | (simp only [up2_eq]; omega) | (split <;> omega)) dX4_unriffle_42 (by decide) (fun h42_6 => ?_) (fun h42_6 => ?_)
            · first
              | exfalso; first | omega | contradiction
              | skip
                refine r_aload_n C dX4_unriffle_52 rfl ?_
                refine x_len C (t0 := 1) 0 rfl rfl dX4_unriffle_53 ?_
                refine r_iconst (v := (nI 1)) C dX4_unriffle_54 (by decide) ?_
                refine r_iaddN C dX4_unriffle_55 ?_
                refine r_iconst (v := (nI 2)) C dX4_unriffle_56 (by decide) ?_
                refine r_idivN C dX4_unriffle_57 (by first | omega | (simp [up2, *]; done) | (simp [up2, *]; omega) | (simp only [up2_eq]; omega) | (split <;> omega)) (by first | omega | (simp [up2, *]; done) | (simp [up2, *]; omega) | (simp only [up2_eq]; omega) | (split <;> omega)) (by first | omega | (simp [up2, *]; done) | (simp [up2, *]; omega) | (simp only [up2_eq]; omega) | (split <;> omega)) ?_
                refine r_iload C dX4_unriffle_58 rfl ?_
                refine r_iconst (v := (nI 2)) C dX4_unriffle_60 (by decide) ?_
                refine r_idivN C dX4_unriffle_61 (by first | omega | (simp [up2, *]; done) | (simp [up2, *]; omega) | (simp only [up2_eq]; omega) | (split <;> omega)) (by first | omega | (simp [up2, *]; done) | (simp [up2, *]; omega) | (simp only [up2_eq]; omega) | (split <;> omega)) (by first | omega | (simp [up2, *]; done) | (simp [up2, *]; omega) | (simp only [up2_eq]; omega) | (split <;> omega)) ?_
                refine r_iaddN C dX4_unriffle_62 ?_
                refine r_aload_n C dX4_unriffle_63 rfl ?_
                refine r_iload C dX4_unriffle_64 rfl ?_
                refine x_ald C (i := k) (f := cutF (fun z => hq (f 1 w) (f 3 w + z)) (hf 4 w)) 0 rfl (by first | omega | (simp [up2, *]; done) | (simp [up2, *]; omega) | (simp only [up2_eq]; omega) | (split <;> omega)) (by first | omega | (simp [up2, *]; done) | (simp [up2, *]; omega) | (simp only [up2_eq]; omega) | (split <;> omega)) dX4_unriffle_66 ?_
                refine x_ast C (i := (((hf 4 w) + 1) / 2) + (k / 2)) (f := scA (unlN (hf 4 w)) (cutF (fun z => hq (f 1 w) (f 3 w + z)) (hf 4 w)) (hf 4 w) k) (E' := [(b_2, .inl (cy 1, hf 4 w, .inl (cutF (fun z => hq (f 1 w) (f 3 w + z)) (hf 4 w)))), (b_3, .inl (cy 1, hf 4 w, .inl (upd (scA (unlN (hf 4 w)) (cutF (fun z => hq (f 1 w) (f 3 w + z)) (hf 4 w)) (hf 4 w) k) ((((hf 4 w) + 1) / 2) + (k / 2)) ((cutF (fun z => hq (f 1 w) (f 3 w + z)) (hf 4 w)) k))))]) 1 rfl (by first | omega | (simp [up2, *]; done) | (simp [up2, *]; omega) | (simp only [up2_eq]; omega) | (split <;> omega)) (by first | omega | (simp [up2, *]; done) | (simp [up2, *]; omega) | (simp only [up2_eq]; omega) | (split <;> omega)) rfl dX4_unriffle_67 ?_
                refine r_iincN C dX4_unriffle_68 rfl (by decide) rfl ?_
                refine r_goto (tgt := 30) C dX4_unriffle_71 (by decide) ?_
                refine r_w (w' := WM cy ba ra hf hq kn (nI 0) sm ++ (Y ++ [(b_2, .inl (cy 1, hf 4 w, .inl (cutF (fun z => hq (f 1 w) (f 3 w + z)) (hf 4 w)))), (b_3, .inl (cy 1, hf 4 w, .inl (scA (unlN (hf 4 w)) (cutF (fun z => hq (f 1 w) (f 3 w + z)) (hf 4 w)) (hf 4 w) (k + 1))))])) (by rw [scA_up (σ := unlN (hf 4 w)) (G := (cutF (fun z => hq (f 1 w) (f 3 w + z)) (hf 4 w))) (t := ((((hf 4 w) + 1) / 2) + (k / 2))) (k := k) (x := ((cutF (fun z => hq (f 1 w) (f 3 w + z)) (hf 4 w)) k)) (by have h8 := layN_lt (n := hf 4 w) (t := k) (by omega); unfold layN at h8; (first | rw [if_pos (by assumption)] at h8 | rw [if_neg (by assumption)] at h8); exact h8) (by have h8 := unl_lay (n := hf 4 w) (t := k) (by omega); unfold layN at h8; (first | rw [if_pos (by assumption)] at h8 | rw [if_neg (by assumption)] at h8); exact h8) (fun j hj e => by have h8 := lay_unl (n := hf 4 w) (t := j) hj; rw [e] at h8; unfold layN at h8; (first | rw [if_pos (by assumption)] at h8 | rw [if_neg (by assumption)] at h8); exact h8.symm) rfl]) ?_
                exact (Nat.not_lt_zero _ (by omega)).elim
            · first
              | exfalso; first | omega | contradiction
              | skip
                refine r_iload C dX4_unriffle_45 rfl ?_
                refine r_iconst (v := (nI 2)) C dX4_unriffle_47 (by decide) ?_
                refine r_idivN C dX4_unriffle_48 (by first | omega | (simp [up2, *]; done) | (simp [up2, *]; omega) | (simp only [up2_eq]; omega) | (split <;> omega)) (by first | omega | (simp [up2, *]; done) | (simp [up2, *]; omega) | (simp only [up2_eq]; omega) | (split <;> omega)) (by first | omega | (simp [up2, *]; done) | (simp [up2, *]; omega) | (simp only [up2_eq]; omega) | (split <;> omega)) ?_
                refine r_goto (tgt := 63) C dX4_unriffle_49 (by decide) ?_
                refine r_aload_n C dX4_unriffle_63 rfl ?_
                refine r_iload C dX4_unriffle_64 rfl ?_
                refine x_ald C (i := k) (f := cutF (fun z => hq (f 1 w) (f 3 w + z)) (hf 4 w)) 0 rfl (by first | omega | (simp [up2, *]; done) | (simp [up2, *]; omega) | (simp only [up2_eq]; omega) | (split <;> omega)) (by first | omega | (simp [up2, *]; done) | (simp [up2, *]; omega) | (simp only [up2_eq]; omega) | (split <;> omega)) dX4_unriffle_66 ?_
                refine x_ast C (i := k / 2) (f := scA (unlN (hf 4 w)) (cutF (fun z => hq (f 1 w) (f 3 w + z)) (hf 4 w)) (hf 4 w) k) (E' := [(b_2, .inl (cy 1, hf 4 w, .inl (cutF (fun z => hq (f 1 w) (f 3 w + z)) (hf 4 w)))), (b_3, .inl (cy 1, hf 4 w, .inl (upd (scA (unlN (hf 4 w)) (cutF (fun z => hq (f 1 w) (f 3 w + z)) (hf 4 w)) (hf 4 w) k) (k / 2) ((cutF (fun z => hq (f 1 w) (f 3 w + z)) (hf 4 w)) k))))]) 1 rfl (by first | omega | (simp [up2, *]; done) | (simp [up2, *]; omega) | (simp only [up2_eq]; omega) | (split <;> omega)) (by first | omega | (simp [up2, *]; done) | (simp [up2, *]; omega) | (simp only [up2_eq]; omega) | (split <;> omega)) rfl dX4_unriffle_67 ?_
                refine r_iincN C dX4_unriffle_68 rfl (by decide) rfl ?_
                refine r_goto (tgt := 30) C dX4_unriffle_71 (by decide) ?_
                refine r_w (w' := WM cy ba ra hf hq kn (nI 0) sm ++ (Y ++ [(b_2, .inl (cy 1, hf 4 w, .inl (cutF (fun z => hq (f 1 w) (f 3 w + z)) (hf 4 w)))), (b_3, .inl (cy 1, hf 4 w, .inl (scA (unlN (hf 4 w)) (cutF (fun z => hq (f 1 w) (f 3 w + z)) (hf 4 w)) (hf 4 w) (k + 1))))])) (by rw [scA_up (σ := unlN (hf 4 w)) (G := (cutF (fun z => hq (f 1 w) (f 3 w + z)) (hf 4 w))) (t := (k / 2)) (k := k) (x := ((cutF (fun z => hq (f 1 w) (f 3 w + z)) (hf 4 w)) k)) (by have h8 := layN_lt (n := hf 4 w) (t := k) (by omega); unfold layN at h8; (first | rw [if_pos (by assumption)] at h8 | rw [if_neg (by assumption)] at h8); exact h8) (by have h8 := unl_lay (n := hf 4 w) (t := k) (by omega); unfold layN at h8; (first | rw [if_pos (by assumption)] at h8 | rw [if_neg (by assumption)] at h8); exact h8) (fun j hj e => by have h8 := lay_unl (n := hf 4 w) (t := j) hj; rw [e] at h8; unfold layN at h8; (first | rw [if_pos (by assumption)] at h8 | rw [if_neg (by assumption)] at h8); exact h8.symm) rfl]) ?_
                exact (Nat.not_lt_zero _ (by omega)).elim
      | succ d ih_L30 =>
        intro k hk
        refine r_iload C dX4_unriffle_30 rfl ?_
        refine r_aload_n C dX4_unriffle_32 rfl ?_
        refine x_len C (t0 := 1) 0 rfl rfl dX4_unriffle_33 ?_
        refine r_icN_ge (a := k) (b := (hf 4 w)) (tgt := 74) C (by first | omega | (simp [up2, *]; done) | (simp [up2, *]; omega) | (simp only [up2_eq]; omega) | (split <;> omega)) (by first | omega | (simp [up2, *]; done) | (simp [up2, *]; omega) | (simp only [up2_eq]; omega) | (split <;> omega)) dX4_unriffle_34 (by decide) (fun h34_7 => ?_) (fun h34_7 => ?_)
        · first
          | exfalso; first | omega | contradiction
          | skip
            have e9 : k = hf 4 w := by omega
            subst e9
            refine r_aload_n C dX4_unriffle_74 rfl ?_
            refine x_len C (t0 := 1) 0 rfl rfl dX4_unriffle_75 ?_
            refine r_iconst (v := (nI 1)) C dX4_unriffle_76 (by decide) ?_
            refine r_icN_le (a := (hf 4 w)) (b := 1) (tgt := 86) C (by first | omega | (simp [up2, *]; done) | (simp [up2, *]; omega) | (simp only [up2_eq]; omega) | (split <;> omega)) (by first | omega | (simp [up2, *]; done) | (simp [up2, *]; omega) | (simp only [up2_eq]; omega) | (split <;> omega)) dX4_unriffle_77 (by decide) (fun h77_8 => ?_) (fun h77_8 => ?_)
            · exact absurd h77_8 (by first | omega | (simp [up2, *]; done) | (simp [up2, *]; omega) | (simp only [up2_eq]; omega) | (split <;> omega))
            · skip
              refine r_aload_n C dX4_unriffle_80 rfl ?_
              refine r_iload_n C dX4_unriffle_81 rfl ?_
              refine r_iconst (v := (nI 4294967295)) C dX4_unriffle_82 (by decide) ?_
              refine d_Vv (st := []) hX.1.stb C hE (D_changed (ba := ba) (ra := ra) (hf := hf) (hq := hq) (kn := kn) (th := (nI 0)) (sm := sm) (f := f) (w := w) (d0 := 4294967295) hX hC (MG.same (fun _ => rfl) (fun _ => rfl) hG) (by first | omega | (simp [up2, *]; done) | (simp [up2, *]; omega) | (simp only [up2_eq]; omega) | (split <;> omega)) (by first | omega | (simp [up2, *]; done) | (simp [up2, *]; omega) | (simp only [up2_eq]; omega) | (split <;> omega)) (by first | omega | (simp [up2, *]; done) | (simp [up2, *]; omega) | (simp only [up2_eq]; omega) | (split <;> omega)) h5M h9a hU) pk_X4_changed qm_X4_74 0 8 rfl rfl wm_0 rfl rfl (Nat.le_of_ble_eq_true rfl) dX4_unriffle_83 ⟨(Nat.le_of_ble_eq_true rfl), (Nat.le_of_ble_eq_true rfl)⟩ ⟨(Nat.le_of_ble_eq_true rfl), (Nat.le_of_ble_eq_true rfl)⟩ ?_
              refine r_w (w' := WM cy ba ra (chM f hf w 4294967295) hq kn (nI 0) sm ++ (Y ++ [(b_2, .inl (cy 1, hf 4 w, .inl (cutF (fun z => hq (f 1 w) (f 3 w + z)) (hf 4 w)))), (b_3, .inl (cy 1, hf 4 w, .inl (scA (unlN (hf 4 w)) (cutF (fun z => hq (f 1 w) (f 3 w + z)) (hf 4 w)) (hf 4 w) (hf 4 w))))])) rfl ?_
              refine r_aload_n C dX4_unriffle_86 rfl ?_
              refine r_iload_n C dX4_unriffle_87 rfl ?_
              refine r_aload_n C dX4_unriffle_88 rfl ?_
              refine d_Vv (st := []) hX.1.stb C hE (D_put (ba := ba) (ra := ra) (hf := (chM f hf w 4294967295)) (hq := hq) (kn := kn) (th := (nI 0)) (sm := sm) (f := f) (w := w) (b0 := b_3) (n0 := (hf 4 w)) (g0 := (scA (unlN (hf 4 w)) (cutF (fun z => hq (f 1 w) (f 3 w + z)) (hf 4 w)) (hf 4 w) (hf 4 w))) (j0 := (Y.length + 1)) hX hC (MG.same (fun _ => rfl) (fun _ => rfl) hG) (by first | omega | (simp [up2, *]; done) | (simp [up2, *]; omega) | (simp only [up2_eq]; omega) | (split <;> omega)) (by first | omega | (simp [up2, *]; done) | (simp [up2, *]; omega) | (simp only [up2_eq]; omega) | (split <;> omega)) (show f 3 w + (hf 4 w) ≤ (hf 4 (f 1 w)) from (by first | omega | (simp [up2, *]; done) | (simp [up2, *]; omega) | (simp only [up2_eq]; omega) | (split <;> omega))) (show (hf 4 (f 1 w)) ≤ 12 from (by first | omega | (simp [up2, *]; done) | (simp [up2, *]; omega) | (simp only [up2_eq]; omega) | (split <;> omega))) ((ya_x 1).trans rfl)) pk_X4_put qm_X4_99 0 8 rfl rfl wm_0 rfl rfl (Nat.le_of_ble_eq_true rfl) dX4_unriffle_89 ⟨(Nat.le_of_ble_eq_true rfl), (Nat.le_of_ble_eq_true rfl)⟩ ⟨(Nat.le_of_ble_eq_true rfl), (Nat.le_of_ble_eq_true rfl)⟩ ?_
              refine r_w (w' := WM cy ba ra (chM f hf w 4294967295) (wrR hq (f 1 w) (f 3 w) (hf 4 w) (scA (unlN (hf 4 w)) (cutF (fun z => hq (f 1 w) (f 3 w + z)) (hf 4 w)) (hf 4 w) (hf 4 w))) kn (nI 0) sm ++ (Y ++ [(b_2, .inl (cy 1, hf 4 w, .inl (cutF (fun z => hq (f 1 w) (f 3 w + z)) (hf 4 w)))), (b_3, .inl (cy 1, hf 4 w, .inl (scA (unlN (hf 4 w)) (cutF (fun z => hq (f 1 w) (f 3 w + z)) (hf 4 w)) (hf 4 w) (hf 4 w))))])) rfl ?_
              refine r_aload_n C dX4_unriffle_92 rfl ?_
              refine x_len C (t0 := 1) 0 rfl rfl dX4_unriffle_93 ?_
              refine r_pre ?_
              exact r_iret C hr dX4_unriffle_94 ⟨rfl, rfl⟩ (Nat.le_of_ble_eq_true rfl) (Nat.le_of_ble_eq_true rfl)
        · first
          | exfalso; first | omega | contradiction
          | skip
            refine r_aload_n C dX4_unriffle_37 rfl ?_
            refine r_iload C dX4_unriffle_38 rfl ?_
            refine r_iconst (v := (nI 2)) C dX4_unriffle_40 (by decide) ?_
            refine r_iremN C dX4_unriffle_41 (by first | omega | (simp [up2, *]; done) | (simp [up2, *]; omega) | (simp only [up2_eq]; omega) | (split <;> omega)) (by first | omega | (simp [up2, *]; done) | (simp [up2, *]; omega) | (simp only [up2_eq]; omega) | (split <;> omega)) (by first | omega | (simp [up2, *]; done) | (simp [up2, *]; omega) | (simp only [up2_eq]; omega) | (split <;> omega)) ?_
            refine r_ifN_ne (a := (k % 2)) (tgt := 52) C (by first | omega | (simp [up2, *]; done) | (simp [up2, *]; omega) | (simp only [up2_eq]; omega) | (split <;> omega)) dX4_unriffle_42 (by decide) (fun h42_9 => ?_) (fun h42_9 => ?_)
            · first
              | exfalso; first | omega | contradiction
              | skip
                refine r_aload_n C dX4_unriffle_52 rfl ?_
                refine x_len C (t0 := 1) 0 rfl rfl dX4_unriffle_53 ?_
                refine r_iconst (v := (nI 1)) C dX4_unriffle_54 (by decide) ?_
                refine r_iaddN C dX4_unriffle_55 ?_
                refine r_iconst (v := (nI 2)) C dX4_unriffle_56 (by decide) ?_
                refine r_idivN C dX4_unriffle_57 (by first | omega | (simp [up2, *]; done) | (simp [up2, *]; omega) | (simp only [up2_eq]; omega) | (split <;> omega)) (by first | omega | (simp [up2, *]; done) | (simp [up2, *]; omega) | (simp only [up2_eq]; omega) | (split <;> omega)) (by first | omega | (simp [up2, *]; done) | (simp [up2, *]; omega) | (simp only [up2_eq]; omega) | (split <;> omega)) ?_
                refine r_iload C dX4_unriffle_58 rfl ?_
                refine r_iconst (v := (nI 2)) C dX4_unriffle_60 (by decide) ?_
                refine r_idivN C dX4_unriffle_61 (by first | omega | (simp [up2, *]; done) | (simp [up2, *]; omega) | (simp only [up2_eq]; omega) | (split <;> omega)) (by first | omega | (simp [up2, *]; done) | (simp [up2, *]; omega) | (simp only [up2_eq]; omega) | (split <;> omega)) (by first | omega | (simp [up2, *]; done) | (simp [up2, *]; omega) | (simp only [up2_eq]; omega) | (split <;> omega)) ?_
                refine r_iaddN C dX4_unriffle_62 ?_
                refine r_aload_n C dX4_unriffle_63 rfl ?_
                refine r_iload C dX4_unriffle_64 rfl ?_
                refine x_ald C (i := k) (f := cutF (fun z => hq (f 1 w) (f 3 w + z)) (hf 4 w)) 0 rfl (by first | omega | (simp [up2, *]; done) | (simp [up2, *]; omega) | (simp only [up2_eq]; omega) | (split <;> omega)) (by first | omega | (simp [up2, *]; done) | (simp [up2, *]; omega) | (simp only [up2_eq]; omega) | (split <;> omega)) dX4_unriffle_66 ?_
                refine x_ast C (i := (((hf 4 w) + 1) / 2) + (k / 2)) (f := scA (unlN (hf 4 w)) (cutF (fun z => hq (f 1 w) (f 3 w + z)) (hf 4 w)) (hf 4 w) k) (E' := [(b_2, .inl (cy 1, hf 4 w, .inl (cutF (fun z => hq (f 1 w) (f 3 w + z)) (hf 4 w)))), (b_3, .inl (cy 1, hf 4 w, .inl (upd (scA (unlN (hf 4 w)) (cutF (fun z => hq (f 1 w) (f 3 w + z)) (hf 4 w)) (hf 4 w) k) ((((hf 4 w) + 1) / 2) + (k / 2)) ((cutF (fun z => hq (f 1 w) (f 3 w + z)) (hf 4 w)) k))))]) 1 rfl (by first | omega | (simp [up2, *]; done) | (simp [up2, *]; omega) | (simp only [up2_eq]; omega) | (split <;> omega)) (by first | omega | (simp [up2, *]; done) | (simp [up2, *]; omega) | (simp only [up2_eq]; omega) | (split <;> omega)) rfl dX4_unriffle_67 ?_
                refine r_iincN C dX4_unriffle_68 rfl (by decide) rfl ?_
                refine r_goto (tgt := 30) C dX4_unriffle_71 (by decide) ?_
                refine r_w (w' := WM cy ba ra hf hq kn (nI 0) sm ++ (Y ++ [(b_2, .inl (cy 1, hf 4 w, .inl (cutF (fun z => hq (f 1 w) (f 3 w + z)) (hf 4 w)))), (b_3, .inl (cy 1, hf 4 w, .inl (scA (unlN (hf 4 w)) (cutF (fun z => hq (f 1 w) (f 3 w + z)) (hf 4 w)) (hf 4 w) (k + 1))))])) (by rw [scA_up (σ := unlN (hf 4 w)) (G := (cutF (fun z => hq (f 1 w) (f 3 w + z)) (hf 4 w))) (t := ((((hf 4 w) + 1) / 2) + (k / 2))) (k := k) (x := ((cutF (fun z => hq (f 1 w) (f 3 w + z)) (hf 4 w)) k)) (by have h8 := layN_lt (n := hf 4 w) (t := k) (by omega); unfold layN at h8; (first | rw [if_pos (by assumption)] at h8 | rw [if_neg (by assumption)] at h8); exact h8) (by have h8 := unl_lay (n := hf 4 w) (t := k) (by omega); unfold layN at h8; (first | rw [if_pos (by assumption)] at h8 | rw [if_neg (by assumption)] at h8); exact h8) (fun j hj e => by have h8 := lay_unl (n := hf 4 w) (t := j) hj; rw [e] at h8; unfold layN at h8; (first | rw [if_pos (by assumption)] at h8 | rw [if_neg (by assumption)] at h8); exact h8.symm) rfl]) ?_
                exact ih_L30 (k + 1) (by first | omega | (simp [up2, *]; done) | (simp [up2, *]; omega) | (simp only [up2_eq]; omega) | (split <;> omega))
            · first
              | exfalso; first | omega | contradiction
              | skip
                refine r_iload C dX4_unriffle_45 rfl ?_
                refine r_iconst (v := (nI 2)) C dX4_unriffle_47 (by decide) ?_
                refine r_idivN C dX4_unriffle_48 (by first | omega | (simp [up2, *]; done) | (simp [up2, *]; omega) | (simp only [up2_eq]; omega) | (split <;> omega)) (by first | omega | (simp [up2, *]; done) | (simp [up2, *]; omega) | (simp only [up2_eq]; omega) | (split <;> omega)) (by first | omega | (simp [up2, *]; done) | (simp [up2, *]; omega) | (simp only [up2_eq]; omega) | (split <;> omega)) ?_
                refine r_goto (tgt := 63) C dX4_unriffle_49 (by decide) ?_
                refine r_aload_n C dX4_unriffle_63 rfl ?_
                refine r_iload C dX4_unriffle_64 rfl ?_
                refine x_ald C (i := k) (f := cutF (fun z => hq (f 1 w) (f 3 w + z)) (hf 4 w)) 0 rfl (by first | omega | (simp [up2, *]; done) | (simp [up2, *]; omega) | (simp only [up2_eq]; omega) | (split <;> omega)) (by first | omega | (simp [up2, *]; done) | (simp [up2, *]; omega) | (simp only [up2_eq]; omega) | (split <;> omega)) dX4_unriffle_66 ?_
                refine x_ast C (i := k / 2) (f := scA (unlN (hf 4 w)) (cutF (fun z => hq (f 1 w) (f 3 w + z)) (hf 4 w)) (hf 4 w) k) (E' := [(b_2, .inl (cy 1, hf 4 w, .inl (cutF (fun z => hq (f 1 w) (f 3 w + z)) (hf 4 w)))), (b_3, .inl (cy 1, hf 4 w, .inl (upd (scA (unlN (hf 4 w)) (cutF (fun z => hq (f 1 w) (f 3 w + z)) (hf 4 w)) (hf 4 w) k) (k / 2) ((cutF (fun z => hq (f 1 w) (f 3 w + z)) (hf 4 w)) k))))]) 1 rfl (by first | omega | (simp [up2, *]; done) | (simp [up2, *]; omega) | (simp only [up2_eq]; omega) | (split <;> omega)) (by first | omega | (simp [up2, *]; done) | (simp [up2, *]; omega) | (simp only [up2_eq]; omega) | (split <;> omega)) rfl dX4_unriffle_67 ?_
                refine r_iincN C dX4_unriffle_68 rfl (by decide) rfl ?_
                refine r_goto (tgt := 30) C dX4_unriffle_71 (by decide) ?_
                refine r_w (w' := WM cy ba ra hf hq kn (nI 0) sm ++ (Y ++ [(b_2, .inl (cy 1, hf 4 w, .inl (cutF (fun z => hq (f 1 w) (f 3 w + z)) (hf 4 w)))), (b_3, .inl (cy 1, hf 4 w, .inl (scA (unlN (hf 4 w)) (cutF (fun z => hq (f 1 w) (f 3 w + z)) (hf 4 w)) (hf 4 w) (k + 1))))])) (by rw [scA_up (σ := unlN (hf 4 w)) (G := (cutF (fun z => hq (f 1 w) (f 3 w + z)) (hf 4 w))) (t := (k / 2)) (k := k) (x := ((cutF (fun z => hq (f 1 w) (f 3 w + z)) (hf 4 w)) k)) (by have h8 := layN_lt (n := hf 4 w) (t := k) (by omega); unfold layN at h8; (first | rw [if_pos (by assumption)] at h8 | rw [if_neg (by assumption)] at h8); exact h8) (by have h8 := unl_lay (n := hf 4 w) (t := k) (by omega); unfold layN at h8; (first | rw [if_pos (by assumption)] at h8 | rw [if_neg (by assumption)] at h8); exact h8) (fun j hj e => by have h8 := lay_unl (n := hf 4 w) (t := j) hj; rw [e] at h8; unfold layN at h8; (first | rw [if_pos (by assumption)] at h8 | rw [if_neg (by assumption)] at h8); exact h8.symm) rfl]) ?_
                exact ih_L30 (k + 1) (by first | omega | (simp [up2, *]; done) | (simp [up2, *]; omega) | (simp only [up2_eq]; omega) | (split <;> omega))
    exact L30 (hf 4 w) 0 (by first | omega | (simp [up2, *]; done) | (simp [up2, *]; omega) | (simp only [up2_eq]; omega) | (split <;> omega))
  · exact absurd h11_1 (by first | omega | (simp [up2, *]; done) | (simp [up2, *]; omega) | (simp only [up2_eq]; omega) | (split <;> omega))
