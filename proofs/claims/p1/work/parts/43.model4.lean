/-! CONTRACTS of the model: its calls -/
set_option maxRecDepth 100000 in
set_option maxHeartbeats 4000000 in
theorem D_isNoItem_a {l : Launch} {D : va_G} {cy : Nat → ClassId} {X : (Nat → Prop) → State → Heap → Prop} {ba ra : Nat → Nat} {hf : Nat → Nat → Nat} {hq : Nat → Nat → Int32} {kn th : Int32} {sm : Int64} {Y : va_W} {y : Int32} (hX : EnvM X cy) (ho : okI y) : Cd l D cy X yX4_isNoItem cX4_isNoItem 1 (some .boolean) (rmz 1 30) [.int y] (WM cy ba ra hf hq kn th sm ++ Y) (some (.int (nI (niF y)))) (WM cy ba ra hf hq kn th sm ++ Y) := by
  refine Cm.of [some (.int y)] pn_X4 rfl (Nat.le_of_ble_eq_true rfl) ?_
  intro p e s m args below meth c A C hE hr hnt hn
  refine r_iload_n C dX4_isNoItem_0 rfl ?_
  refine r_bipush (v := (nI 4294967197)) C dX4_isNoItem_1 (by decide) ?_
  refine r_bipush (v := (nI 99)) C dX4_isNoItem_3 (by decide) ?_
  refine d_S (st := []) hX.1.stb C hE (D_isIn1 (ba := ba) (ra := ra) (hf := hf) (hq := hq) (kn := kn) (th := th) (sm := sm) (Y := Y) (x := (y)) (y := ((nI 4294967197))) (z := ((nI 99))) hX (Int32.not_lt.mp ho.1) (Int32.not_lt.mp ho.2)) pk_X4_isIn qm_X4_1 rfl rfl (Nat.le_of_ble_eq_true rfl) dX4_isNoItem_5 ⟨(Nat.le_of_ble_eq_true rfl), (Nat.le_of_ble_eq_true rfl)⟩ ⟨(Nat.le_of_ble_eq_true rfl), (Nat.le_of_ble_eq_true rfl)⟩ ?_
  refine r_w (w' := WM cy ba ra hf hq kn th sm ++ Y) rfl ?_
  refine r_ifN_ne (a := 1) (tgt := 15) C (by omega) dX4_isNoItem_8 (by decide) (fun h8_1 => ?_) (fun h8_1 => ?_)
  · skip
    refine r_iconst (v := (nI 0)) C dX4_isNoItem_15 (by decide) ?_
    exact r_zret C hr (by omega) dX4_isNoItem_16 ⟨by rw [niF_ok ho], rfl⟩ (Nat.le_of_ble_eq_true rfl) (Nat.le_of_ble_eq_true rfl)
  · exact absurd h8_1 (by omega)
set_option maxRecDepth 100000 in
set_option maxHeartbeats 4000000 in
theorem D_isNoItem_b {l : Launch} {D : va_G} {cy : Nat → ClassId} {X : (Nat → Prop) → State → Heap → Prop} {ba ra : Nat → Nat} {hf : Nat → Nat → Nat} {hq : Nat → Nat → Int32} {kn th : Int32} {sm : Int64} {Y : va_W} {y : Int32} (hX : EnvM X cy) (ho : ¬ okI y) : Cd l D cy X yX4_isNoItem cX4_isNoItem 1 (some .boolean) (rmz 1 30) [.int y] (WM cy ba ra hf hq kn th sm ++ Y) (some (.int (nI (niF y)))) (WM cy ba ra hf hq kn th sm ++ Y) := by
  refine Cm.of [some (.int y)] pn_X4 rfl (Nat.le_of_ble_eq_true rfl) ?_
  intro p e s m args below meth c A C hE hr hnt hn
  refine r_iload_n C dX4_isNoItem_0 rfl ?_
  refine r_bipush (v := (nI 4294967197)) C dX4_isNoItem_1 (by decide) ?_
  refine r_bipush (v := (nI 99)) C dX4_isNoItem_3 (by decide) ?_
  refine d_S (st := []) hX.1.stb C hE (D_isIn0 (ba := ba) (ra := ra) (hf := hf) (hq := hq) (kn := kn) (th := th) (sm := sm) (Y := Y) (x := (y)) (y := ((nI 4294967197))) (z := ((nI 99))) hX (fun z => ho ⟨Int32.not_lt.mpr z.1, Int32.not_lt.mpr z.2⟩)) pk_X4_isIn qm_X4_1 rfl rfl (Nat.le_of_ble_eq_true rfl) dX4_isNoItem_5 ⟨(Nat.le_of_ble_eq_true rfl), (Nat.le_of_ble_eq_true rfl)⟩ ⟨(Nat.le_of_ble_eq_true rfl), (Nat.le_of_ble_eq_true rfl)⟩ ?_
  refine r_w (w' := WM cy ba ra hf hq kn th sm ++ Y) rfl ?_
  refine r_ifN_ne (a := 0) (tgt := 15) C (by omega) dX4_isNoItem_8 (by decide) (fun h8_1 => ?_) (fun h8_1 => ?_)
  · exact absurd h8_1 (by omega)
  · skip
    refine r_iconst (v := (nI 1)) C dX4_isNoItem_11 (by decide) ?_
    refine r_goto (tgt := 16) C dX4_isNoItem_12 (by decide) ?_
    exact r_zret C hr (by omega) dX4_isNoItem_16 ⟨by rw [niF_no ho], rfl⟩ (Nat.le_of_ble_eq_true rfl) (Nat.le_of_ble_eq_true rfl)
theorem D_isNoItemX {l : Launch} {D : va_G} {cy : Nat → ClassId} {X : (Nat → Prop) → State → Heap → Prop} {ba ra : Nat → Nat} {hf : Nat → Nat → Nat} {hq : Nat → Nat → Int32} {kn th : Int32} {sm : Int64} {Y : va_W} {y : Int32} (hX : EnvM X cy) : Cd l D cy X yX4_isNoItem cX4_isNoItem 1 (some .boolean) (rmz 1 30) [.int y] (WM cy ba ra hf hq kn th sm ++ Y) (some (.int (nI (niF y)))) (WM cy ba ra hf hq kn th sm ++ Y) := by
  by_cases h : okI y
  · exact D_isNoItem_a hX h
  · exact D_isNoItem_b hX h
theorem D_isFullX {l : Launch} {D : va_G} {cy : Nat → ClassId} {X : (Nat → Prop) → State → Heap → Prop} {ba ra : Nat → Nat} {hf : Nat → Nat → Nat} {hq : Nat → Nat → Int32} {kn th : Int32} {sm : Int64} {Y : va_W} {f : Nat → Nat → Nat} {w : Nat} (hX : EnvM X cy) (hC : CInv f) (hG : MG f hf) (hw : w < 8) (h5w : f 5 w = 1) (h12 : hf 4 (f 1 w) ≤ 12) : Cd l D cy X yX4_isFull cX4_isFull 2 (some .boolean) (rmz 5 160) [.ref (ba 9), .int (nI w)] (WM cy ba ra hf hq kn th sm ++ Y) (some (.int (nI (fuF (hf 4 (f 1 w)))))) (WM cy ba ra hf hq kn th sm ++ Y) := by
  by_cases h : hf 4 (f 1 w) = 12
  · rw [show fuF (hf 4 (f 1 w)) = 1 from if_pos h]
    exact D_isFull1 hX hC hG hw h5w h
  · rw [show fuF (hf 4 (f 1 w)) = 0 from if_neg h]
    exact D_isFull0 hX hC hG hw h5w (by omega)
theorem pk_X4_fails : PkV RX4 yX4_fails cX4_fails 4 (some .boolean) 3 := ⟨⟨qi_X4_fails, qs_X4_fails, qz_X4, qc_X4_fails⟩, rfl, mh_X4.1, mh_X4.2, pd_20⟩
theorem pk_X4_isNoItem : PkS yX4_isNoItem cX4_isNoItem 1 (some .boolean) 1 := ⟨⟨qt_X4_isNoItem, qz_X4, qc_X4_isNoItem⟩, mh_X4.1, mh_X4.2, pd_8⟩
theorem dX4_add_0 : decode cX4_add 0 = .ok (.aload_n 0, 1) := dqo_42 (kb_X4_add_0 0 rfl)
theorem dX4_add_1 : decode cX4_add 1 = .ok (.aload_n 0, 1) := dqo_42 (kb_X4_add_0 1 rfl)
theorem dX4_add_2 : decode cX4_add 2 = .ok (.iload_n 1, 1) := dqo_27 (kb_X4_add_0 2 rfl)
theorem dX4_add_3 : decode cX4_add 3 = .ok (.invokevirtual 55, 3) := dqo_182 0 55 (kb_X4_add_0 3 rfl) (kb_X4_add_0 4 rfl) (kb_X4_add_0 5 rfl)
theorem dX4_add_6 : decode cX4_add 6 = .ok (.iload_n 2, 1) := dqo_28 (kb_X4_add_0 6 rfl)
theorem dX4_add_7 : decode cX4_add 7 = .ok (.invokestatic 78, 3) := dqo_184 0 78 (kb_X4_add_0 7 rfl) (kb_X4_add_0 8 rfl) (kb_X4_add_0 9 rfl)
theorem dX4_add_10 : decode cX4_add 10 = .ok (.aload_n 0, 1) := dqo_42 (kb_X4_add_0 10 rfl)
theorem dX4_add_11 : decode cX4_add 11 = .ok (.iload_n 1, 1) := dqo_27 (kb_X4_add_0 11 rfl)
theorem dX4_add_12 : decode cX4_add 12 = .ok (.invokevirtual 55, 3) := dqo_182 0 55 (kb_X4_add_0 12 rfl) (kb_X4_add_0 13 rfl) (kb_X4_add_0 14 rfl)
theorem dX4_add_15 : decode cX4_add 15 = .ok (.ifCond .ne 15, 3) := dqo_154 0 15 (by decide) (kb_X4_add_0 15 rfl) (kb_X4_add_0 16 rfl) (kb_X4_add_0 17 rfl)
theorem dX4_add_30 : decode cX4_add 30 = .ok (.iconst 0, 1) := dqo_3 (kb_X4_add_0 30 rfl)
theorem dX4_add_31 : decode cX4_add 31 = .ok (.invokevirtual 84, 3) := dqo_182 0 84 (kb_X4_add_0 31 rfl) (kb_X4_add_0 32 rfl) (kb_X4_add_0 33 rfl)
theorem dX4_add_34 : decode cX4_add 34 = .ok (.ifCond .eq 5, 3) := dqo_153 0 5 (by decide) (kb_X4_add_0 34 rfl) (kb_X4_add_0 35 rfl) (kb_X4_add_0 36 rfl)
theorem dX4_add_37 : decode cX4_add 37 = .ok (.iconst 0, 1) := dqo_3 (kb_X4_add_0 37 rfl)
theorem dX4_add_38 : decode cX4_add 38 = .ok (.ireturn, 1) := dqo_172 (kb_X4_add_0 38 rfl)
set_option maxRecDepth 100000 in
set_option maxHeartbeats 4000000 in
theorem D_add_noW {l : Launch} {D : va_G} {cy : Nat → ClassId} {X : (Nat → Prop) → State → Heap → Prop} {ba ra : Nat → Nat} {hf : Nat → Nat → Nat} {hq : Nat → Nat → Int32} {kn th : Int32} {sm : Int64} {Y : va_W} {f : Nat → Nat → Nat} {r : Nat → Nat → Int32} {x : Int32} {y : Int32} (hX : EnvM X cy) (hC : CInv f) (hM : MR f r hf hq) (hno : noW f x) : Cd l D cy X yX4_add cX4_add 3 (some .int) (rmk 9 4 48 420) [.ref (ba 9), .int x, .int y] (WM cy ba ra hf hq kn th sm ++ Y) (some (.int (nI 0))) (WM cy ba ra hf hq kn (nI 1) sm ++ Y) := by
  have hG := hM.1
  have h5M := hM.h5M hC
  have h4M := hC.h4M
  have h9a := hM.h9a hC
  have h6a := hM.h6a
  have hU := hM.hU hC
  refine Cm.of [some (.ref (ba 9)), some (.int x), some (.int y)] pn_X4 rfl (Nat.le_of_ble_eq_true rfl) ?_
  intro p e s m args below meth c A C hE hr hnt hn
  refine r_aload_n C dX4_add_0 rfl ?_
  refine r_aload_n C dX4_add_1 rfl ?_
  refine r_iload_n C dX4_add_2 rfl ?_
  refine d_V (st := [.ref (ba 9)]) hX.1.stb C hE (D_isNoWhere1 (ba := ba) (ra := ra) (hf := hf) (hq := hq) (kn := kn) (th := th) (sm := sm) (Y := Y) (f := f) (x := (x)) hX h5M h4M hno) pk_X4_isNoWhere qm_X4_55 0 8 rfl rfl wm_0 rfl rfl (Nat.le_of_ble_eq_true rfl) dX4_add_3 ⟨(Nat.le_of_ble_eq_true rfl), (Nat.le_of_ble_eq_true rfl)⟩ ⟨(Nat.le_of_ble_eq_true rfl), (Nat.le_of_ble_eq_true rfl)⟩ ?_
  refine r_w (w' := WM cy ba ra hf hq kn th sm ++ Y) rfl ?_
  refine r_iload_n C dX4_add_6 rfl ?_
  refine d_S (st := [.int (nI 1), .ref (ba 9)]) hX.1.stb C hE (D_isNoItemX (ba := ba) (ra := ra) (hf := hf) (hq := hq) (kn := kn) (th := th) (sm := sm) (Y := Y) (y := (y)) hX ) pk_X4_isNoItem qm_X4_78 rfl rfl (Nat.le_of_ble_eq_true rfl) dX4_add_7 ⟨(Nat.le_of_ble_eq_true rfl), (Nat.le_of_ble_eq_true rfl)⟩ ⟨(Nat.le_of_ble_eq_true rfl), (Nat.le_of_ble_eq_true rfl)⟩ ?_
  refine r_w (w' := WM cy ba ra hf hq kn th sm ++ Y) rfl ?_
  refine r_aload_n C dX4_add_10 rfl ?_
  refine r_iload_n C dX4_add_11 rfl ?_
  refine d_V (st := [.int (nI (niF (y))), .int (nI 1), .ref (ba 9)]) hX.1.stb C hE (D_isNoWhere1 (ba := ba) (ra := ra) (hf := hf) (hq := hq) (kn := kn) (th := th) (sm := sm) (Y := Y) (f := f) (x := (x)) hX h5M h4M hno) pk_X4_isNoWhere qm_X4_55 0 8 rfl rfl wm_0 rfl rfl (Nat.le_of_ble_eq_true rfl) dX4_add_12 ⟨(Nat.le_of_ble_eq_true rfl), (Nat.le_of_ble_eq_true rfl)⟩ ⟨(Nat.le_of_ble_eq_true rfl), (Nat.le_of_ble_eq_true rfl)⟩ ?_
  refine r_w (w' := WM cy ba ra hf hq kn th sm ++ Y) rfl ?_
  refine r_ifN_ne (a := 1) (tgt := 30) C (by omega) dX4_add_15 (by decide) (fun h15_1 => ?_) (fun h15_1 => ?_)
  · skip
    refine r_iconst (v := (nI 0)) C dX4_add_30 (by decide) ?_
    refine d_V (st := []) hX.1.stb C hE (D_fails1 (ba := ba) (ra := ra) (hf := hf) (hq := hq) (kn := kn) (th := th) (sm := sm) (Y := Y) (b0 := (niF (y))) (d0 := 0) hX ) pk_X4_fails qm_X4_84 0 8 rfl rfl wm_0 rfl rfl (Nat.le_of_ble_eq_true rfl) dX4_add_31 ⟨(Nat.le_of_ble_eq_true rfl), (Nat.le_of_ble_eq_true rfl)⟩ ⟨(Nat.le_of_ble_eq_true rfl), (Nat.le_of_ble_eq_true rfl)⟩ ?_
    refine r_w (w' := WM cy ba ra hf hq kn (nI 1) sm ++ Y) rfl ?_
    refine r_ifN_eq (a := 1) (tgt := 39) C (by omega) dX4_add_34 (by decide) (fun h34_2 => ?_) (fun h34_2 => ?_)
    · exact absurd h34_2 (by omega)
    · skip
      refine r_iconst (v := (nI 0)) C dX4_add_37 (by decide) ?_
      exact r_iret C hr dX4_add_38 ⟨rfl, rfl⟩ (Nat.le_of_ble_eq_true rfl) (Nat.le_of_ble_eq_true rfl)
  · exact absurd h15_1 (by omega)
theorem pk_X4_isFull : PkV RX4 yX4_isFull cX4_isFull 2 (some .boolean) 1 := ⟨⟨qi_X4_isFull, qs_X4_isFull, qz_X4, qc_X4_isFull⟩, rfl, mh_X4.1, mh_X4.2, pd_8⟩
theorem dX4_add_18 : decode cX4_add 18 = .ok (.aload_n 0, 1) := dqo_42 (kb_X4_add_0 18 rfl)
theorem dX4_add_19 : decode cX4_add 19 = .ok (.iload_n 1, 1) := dqo_27 (kb_X4_add_0 19 rfl)
theorem dX4_add_20 : decode cX4_add 20 = .ok (.invokevirtual 81, 3) := dqo_182 0 81 (kb_X4_add_0 20 rfl) (kb_X4_add_0 21 rfl) (kb_X4_add_0 22 rfl)
theorem dX4_add_23 : decode cX4_add 23 = .ok (.ifCond .eq 7, 3) := dqo_153 0 7 (by decide) (kb_X4_add_0 23 rfl) (kb_X4_add_0 24 rfl) (kb_X4_add_0 25 rfl)
theorem dX4_add_26 : decode cX4_add 26 = .ok (.iconst 1, 1) := dqo_4 (kb_X4_add_0 26 rfl)
theorem dX4_add_27 : decode cX4_add 27 = .ok (.goto 4, 3) := dqo_167 0 4 (by decide) (kb_X4_add_0 27 rfl) (kb_X4_add_0 28 rfl) (kb_X4_add_0 29 rfl)
set_option maxRecDepth 100000 in
set_option maxHeartbeats 4000000 in
theorem D_add_noI {l : Launch} {D : va_G} {cy : Nat → ClassId} {X : (Nat → Prop) → State → Heap → Prop} {ba ra : Nat → Nat} {hf : Nat → Nat → Nat} {hq : Nat → Nat → Int32} {kn th : Int32} {sm : Int64} {Y : va_W} {f : Nat → Nat → Nat} {r : Nat → Nat → Int32} {w : Nat} {y : Int32} (hX : EnvM X cy) (hC : CInv f) (hM : MR f r hf hq) (hw : w < 8) (h5w : f 5 w = 1) (ho : ¬ okI y) : Cd l D cy X yX4_add cX4_add 3 (some .int) (rmk 9 4 48 420) [.ref (ba 9), .int (nI w), .int y] (WM cy ba ra hf hq kn th sm ++ Y) (some (.int (nI 0))) (WM cy ba ra hf hq kn (nI 2) sm ++ Y) := by
  have hG := hM.1
  have h5M := hM.h5M hC
  have h4M := hC.h4M
  have h9a := hM.h9a hC
  have h6a := hM.h6a
  have hU := hM.hU hC
  have qw := hM.wh hC hw h5w
  refine Cm.of [some (.ref (ba 9)), some (.int (nI w)), some (.int y)] pn_X4 rfl (Nat.le_of_ble_eq_true rfl) ?_
  intro p e s m args below meth c A C hE hr hnt hn
  refine r_aload_n C dX4_add_0 rfl ?_
  refine r_aload_n C dX4_add_1 rfl ?_
  refine r_iload_n C dX4_add_2 rfl ?_
  refine d_V (st := [.ref (ba 9)]) hX.1.stb C hE (D_isNoWhere0 (ba := ba) (ra := ra) (hf := hf) (hq := hq) (kn := kn) (th := th) (sm := sm) (Y := Y) (w := w) hX (by omega) (by omega)) pk_X4_isNoWhere qm_X4_55 0 8 rfl rfl wm_0 rfl rfl (Nat.le_of_ble_eq_true rfl) dX4_add_3 ⟨(Nat.le_of_ble_eq_true rfl), (Nat.le_of_ble_eq_true rfl)⟩ ⟨(Nat.le_of_ble_eq_true rfl), (Nat.le_of_ble_eq_true rfl)⟩ ?_
  refine r_w (w' := WM cy ba ra hf hq kn th sm ++ Y) rfl ?_
  refine r_iload_n C dX4_add_6 rfl ?_
  refine d_S (st := [.int (nI 0), .ref (ba 9)]) hX.1.stb C hE (D_isNoItem1 (ba := ba) (ra := ra) (hf := hf) (hq := hq) (kn := kn) (th := th) (sm := sm) (Y := Y) (y := (y)) hX ho) pk_X4_isNoItem qm_X4_78 rfl rfl (Nat.le_of_ble_eq_true rfl) dX4_add_7 ⟨(Nat.le_of_ble_eq_true rfl), (Nat.le_of_ble_eq_true rfl)⟩ ⟨(Nat.le_of_ble_eq_true rfl), (Nat.le_of_ble_eq_true rfl)⟩ ?_
  refine r_w (w' := WM cy ba ra hf hq kn th sm ++ Y) rfl ?_
  refine r_aload_n C dX4_add_10 rfl ?_
  refine r_iload_n C dX4_add_11 rfl ?_
  refine d_V (st := [.int (nI 1), .int (nI 0), .ref (ba 9)]) hX.1.stb C hE (D_isNoWhere0 (ba := ba) (ra := ra) (hf := hf) (hq := hq) (kn := kn) (th := th) (sm := sm) (Y := Y) (w := w) hX (by omega) (by omega)) pk_X4_isNoWhere qm_X4_55 0 8 rfl rfl wm_0 rfl rfl (Nat.le_of_ble_eq_true rfl) dX4_add_12 ⟨(Nat.le_of_ble_eq_true rfl), (Nat.le_of_ble_eq_true rfl)⟩ ⟨(Nat.le_of_ble_eq_true rfl), (Nat.le_of_ble_eq_true rfl)⟩ ?_
  refine r_w (w' := WM cy ba ra hf hq kn th sm ++ Y) rfl ?_
  refine r_ifN_ne (a := 0) (tgt := 30) C (by omega) dX4_add_15 (by decide) (fun h15_1 => ?_) (fun h15_1 => ?_)
  · exact absurd h15_1 (by omega)
  · skip
    refine r_aload_n C dX4_add_18 rfl ?_
    refine r_iload_n C dX4_add_19 rfl ?_
    refine d_V (st := [.int (nI 1), .int (nI 0), .ref (ba 9)]) hX.1.stb C hE (D_isFullX (ba := ba) (ra := ra) (hf := hf) (hq := hq) (kn := kn) (th := th) (sm := sm) (Y := Y) (f := f) (w := w) hX hC (MG.same (fun _ => rfl) (fun _ => rfl) hG) (by omega) (by omega) (by omega)) pk_X4_isFull qm_X4_81 0 8 rfl rfl wm_0 rfl rfl (Nat.le_of_ble_eq_true rfl) dX4_add_20 ⟨(Nat.le_of_ble_eq_true rfl), (Nat.le_of_ble_eq_true rfl)⟩ ⟨(Nat.le_of_ble_eq_true rfl), (Nat.le_of_ble_eq_true rfl)⟩ ?_
    refine r_w (w' := WM cy ba ra hf hq kn th sm ++ Y) rfl ?_
    refine r_ifN_eq (a := (fuF (hf 4 (f 1 w)))) (tgt := 30) C (Nat.lt_of_le_of_lt (fuF_le _) (by decide)) dX4_add_23 (by decide) (fun h23_2 => ?_) (fun h23_2 => ?_)
    · first
      | fail
      | skip
        refine r_iconst (v := (nI 0)) C dX4_add_30 (by decide) ?_
        refine d_V (st := []) hX.1.stb C hE (D_fails2 (ba := ba) (ra := ra) (hf := hf) (hq := hq) (kn := kn) (th := th) (sm := sm) (Y := Y) (d0 := 0) hX ) pk_X4_fails qm_X4_84 0 8 rfl rfl wm_0 rfl rfl (Nat.le_of_ble_eq_true rfl) dX4_add_31 ⟨(Nat.le_of_ble_eq_true rfl), (Nat.le_of_ble_eq_true rfl)⟩ ⟨(Nat.le_of_ble_eq_true rfl), (Nat.le_of_ble_eq_true rfl)⟩ ?_
        refine r_w (w' := WM cy ba ra hf hq kn (nI 2) sm ++ Y) rfl ?_
        refine r_ifN_eq (a := 1) (tgt := 39) C (by omega) dX4_add_34 (by decide) (fun h34_3 => ?_) (fun h34_3 => ?_)
        · exact absurd h34_3 (by omega)
        · skip
          refine r_iconst (v := (nI 0)) C dX4_add_37 (by decide) ?_
          exact r_iret C hr dX4_add_38 ⟨rfl, rfl⟩ (Nat.le_of_ble_eq_true rfl) (Nat.le_of_ble_eq_true rfl)
    · first
      | fail
      | skip
        refine r_iconst (v := (nI 1)) C dX4_add_26 (by decide) ?_
        refine r_goto (tgt := 31) C dX4_add_27 (by decide) ?_
        refine d_V (st := []) hX.1.stb C hE (D_fails2 (ba := ba) (ra := ra) (hf := hf) (hq := hq) (kn := kn) (th := th) (sm := sm) (Y := Y) (d0 := 1) hX ) pk_X4_fails qm_X4_84 0 8 rfl rfl wm_0 rfl rfl (Nat.le_of_ble_eq_true rfl) dX4_add_31 ⟨(Nat.le_of_ble_eq_true rfl), (Nat.le_of_ble_eq_true rfl)⟩ ⟨(Nat.le_of_ble_eq_true rfl), (Nat.le_of_ble_eq_true rfl)⟩ ?_
        refine r_w (w' := WM cy ba ra hf hq kn (nI 2) sm ++ Y) rfl ?_
        refine r_ifN_eq (a := 1) (tgt := 39) C (by omega) dX4_add_34 (by decide) (fun h34_4 => ?_) (fun h34_4 => ?_)
        · exact absurd h34_4 (by omega)
        · skip
          refine r_iconst (v := (nI 0)) C dX4_add_37 (by decide) ?_
          exact r_iret C hr dX4_add_38 ⟨rfl, rfl⟩ (Nat.le_of_ble_eq_true rfl) (Nat.le_of_ble_eq_true rfl)
set_option maxRecDepth 100000 in
set_option maxHeartbeats 4000000 in
theorem D_add_full {l : Launch} {D : va_G} {cy : Nat → ClassId} {X : (Nat → Prop) → State → Heap → Prop} {ba ra : Nat → Nat} {hf : Nat → Nat → Nat} {hq : Nat → Nat → Int32} {kn th : Int32} {sm : Int64} {Y : va_W} {f : Nat → Nat → Nat} {r : Nat → Nat → Int32} {w : Nat} {y : Int32} (hX : EnvM X cy) (hC : CInv f) (hM : MR f r hf hq) (hw : w < 8) (h5w : f 5 w = 1) (ho : okI y) (hfull : 12 ≤ f 4 (f 1 w)) : Cd l D cy X yX4_add cX4_add 3 (some .int) (rmk 9 4 48 420) [.ref (ba 9), .int (nI w), .int y] (WM cy ba ra hf hq kn th sm ++ Y) (some (.int (nI 0))) (WM cy ba ra hf hq kn (nI 3) sm ++ Y) := by
  have hG := hM.1
  have h5M := hM.h5M hC
  have h4M := hC.h4M
  have h9a := hM.h9a hC
  have h6a := hM.h6a
  have hU := hM.hU hC
  have qw := hM.wh hC hw h5w
  refine Cm.of [some (.ref (ba 9)), some (.int (nI w)), some (.int y)] pn_X4 rfl (Nat.le_of_ble_eq_true rfl) ?_
  intro p e s m args below meth c A C hE hr hnt hn
  refine r_aload_n C dX4_add_0 rfl ?_
  refine r_aload_n C dX4_add_1 rfl ?_
  refine r_iload_n C dX4_add_2 rfl ?_
  refine d_V (st := [.ref (ba 9)]) hX.1.stb C hE (D_isNoWhere0 (ba := ba) (ra := ra) (hf := hf) (hq := hq) (kn := kn) (th := th) (sm := sm) (Y := Y) (w := w) hX (by omega) (by omega)) pk_X4_isNoWhere qm_X4_55 0 8 rfl rfl wm_0 rfl rfl (Nat.le_of_ble_eq_true rfl) dX4_add_3 ⟨(Nat.le_of_ble_eq_true rfl), (Nat.le_of_ble_eq_true rfl)⟩ ⟨(Nat.le_of_ble_eq_true rfl), (Nat.le_of_ble_eq_true rfl)⟩ ?_
  refine r_w (w' := WM cy ba ra hf hq kn th sm ++ Y) rfl ?_
  refine r_iload_n C dX4_add_6 rfl ?_
  refine d_S (st := [.int (nI 0), .ref (ba 9)]) hX.1.stb C hE (D_isNoItem0 (ba := ba) (ra := ra) (hf := hf) (hq := hq) (kn := kn) (th := th) (sm := sm) (Y := Y) (y := (y)) hX ho) pk_X4_isNoItem qm_X4_78 rfl rfl (Nat.le_of_ble_eq_true rfl) dX4_add_7 ⟨(Nat.le_of_ble_eq_true rfl), (Nat.le_of_ble_eq_true rfl)⟩ ⟨(Nat.le_of_ble_eq_true rfl), (Nat.le_of_ble_eq_true rfl)⟩ ?_
  refine r_w (w' := WM cy ba ra hf hq kn th sm ++ Y) rfl ?_
  refine r_aload_n C dX4_add_10 rfl ?_
  refine r_iload_n C dX4_add_11 rfl ?_
  refine d_V (st := [.int (nI 0), .int (nI 0), .ref (ba 9)]) hX.1.stb C hE (D_isNoWhere0 (ba := ba) (ra := ra) (hf := hf) (hq := hq) (kn := kn) (th := th) (sm := sm) (Y := Y) (w := w) hX (by omega) (by omega)) pk_X4_isNoWhere qm_X4_55 0 8 rfl rfl wm_0 rfl rfl (Nat.le_of_ble_eq_true rfl) dX4_add_12 ⟨(Nat.le_of_ble_eq_true rfl), (Nat.le_of_ble_eq_true rfl)⟩ ⟨(Nat.le_of_ble_eq_true rfl), (Nat.le_of_ble_eq_true rfl)⟩ ?_
  refine r_w (w' := WM cy ba ra hf hq kn th sm ++ Y) rfl ?_
  refine r_ifN_ne (a := 0) (tgt := 30) C (by omega) dX4_add_15 (by decide) (fun h15_1 => ?_) (fun h15_1 => ?_)
  · exact absurd h15_1 (by omega)
  · skip
    refine r_aload_n C dX4_add_18 rfl ?_
    refine r_iload_n C dX4_add_19 rfl ?_
    refine d_V (st := [.int (nI 0), .int (nI 0), .ref (ba 9)]) hX.1.stb C hE (D_isFull1 (ba := ba) (ra := ra) (hf := hf) (hq := hq) (kn := kn) (th := th) (sm := sm) (Y := Y) (f := f) (w := w) hX hC (MG.same (fun _ => rfl) (fun _ => rfl) hG) (by omega) (by omega) (by omega)) pk_X4_isFull qm_X4_81 0 8 rfl rfl wm_0 rfl rfl (Nat.le_of_ble_eq_true rfl) dX4_add_20 ⟨(Nat.le_of_ble_eq_true rfl), (Nat.le_of_ble_eq_true rfl)⟩ ⟨(Nat.le_of_ble_eq_true rfl), (Nat.le_of_ble_eq_true rfl)⟩ ?_
    refine r_w (w' := WM cy ba ra hf hq kn th sm ++ Y) rfl ?_
    refine r_ifN_eq (a := 1) (tgt := 30) C (by omega) dX4_add_23 (by decide) (fun h23_2 => ?_) (fun h23_2 => ?_)
    · exact absurd h23_2 (by omega)
    · skip
      refine r_iconst (v := (nI 1)) C dX4_add_26 (by decide) ?_
      refine r_goto (tgt := 31) C dX4_add_27 (by decide) ?_
      refine d_V (st := []) hX.1.stb C hE (D_fails3 (ba := ba) (ra := ra) (hf := hf) (hq := hq) (kn := kn) (th := th) (sm := sm) (Y := Y)  hX ) pk_X4_fails qm_X4_84 0 8 rfl rfl wm_0 rfl rfl (Nat.le_of_ble_eq_true rfl) dX4_add_31 ⟨(Nat.le_of_ble_eq_true rfl), (Nat.le_of_ble_eq_true rfl)⟩ ⟨(Nat.le_of_ble_eq_true rfl), (Nat.le_of_ble_eq_true rfl)⟩ ?_
      refine r_w (w' := WM cy ba ra hf hq kn (nI 3) sm ++ Y) rfl ?_
      refine r_ifN_eq (a := 1) (tgt := 39) C (by omega) dX4_add_34 (by decide) (fun h34_3 => ?_) (fun h34_3 => ?_)
      · exact absurd h34_3 (by omega)
      · skip
        refine r_iconst (v := (nI 0)) C dX4_add_37 (by decide) ?_
        exact r_iret C hr dX4_add_38 ⟨rfl, rfl⟩ (Nat.le_of_ble_eq_true rfl) (Nat.le_of_ble_eq_true rfl)
theorem dX4_insert_0 : decode cX4_insert 0 = .ok (.aload_n 0, 1) := dqo_42 (kb_X4_insert_0 0 rfl)
theorem dX4_insert_1 : decode cX4_insert 1 = .ok (.aload_n 0, 1) := dqo_42 (kb_X4_insert_0 1 rfl)
theorem dX4_insert_2 : decode cX4_insert 2 = .ok (.iload_n 1, 1) := dqo_27 (kb_X4_insert_0 2 rfl)
theorem dX4_insert_3 : decode cX4_insert 3 = .ok (.invokevirtual 55, 3) := dqo_182 0 55 (kb_X4_insert_0 3 rfl) (kb_X4_insert_0 4 rfl) (kb_X4_insert_0 5 rfl)
theorem dX4_insert_6 : decode cX4_insert 6 = .ok (.iload_n 3, 1) := dqo_29 (kb_X4_insert_0 6 rfl)
theorem dX4_insert_7 : decode cX4_insert 7 = .ok (.invokestatic 78, 3) := dqo_184 0 78 (kb_X4_insert_0 7 rfl) (kb_X4_insert_0 8 rfl) (kb_X4_insert_0 9 rfl)
theorem dX4_insert_10 : decode cX4_insert 10 = .ok (.aload_n 0, 1) := dqo_42 (kb_X4_insert_0 10 rfl)
theorem dX4_insert_11 : decode cX4_insert 11 = .ok (.iload_n 1, 1) := dqo_27 (kb_X4_insert_0 11 rfl)
theorem dX4_insert_12 : decode cX4_insert 12 = .ok (.invokevirtual 55, 3) := dqo_182 0 55 (kb_X4_insert_0 12 rfl) (kb_X4_insert_0 13 rfl) (kb_X4_insert_0 14 rfl)
theorem dX4_insert_15 : decode cX4_insert 15 = .ok (.ifCond .ne 15, 3) := dqo_154 0 15 (by decide) (kb_X4_insert_0 15 rfl) (kb_X4_insert_0 16 rfl) (kb_X4_insert_0 17 rfl)
theorem dX4_insert_30 : decode cX4_insert 30 = .ok (.iconst 0, 1) := dqo_3 (kb_X4_insert_0 30 rfl)
theorem dX4_insert_31 : decode cX4_insert 31 = .ok (.invokevirtual 84, 3) := dqo_182 0 84 (kb_X4_insert_0 31 rfl) (kb_X4_insert_0 32 rfl) (kb_X4_insert_0 33 rfl)
theorem dX4_insert_34 : decode cX4_insert 34 = .ok (.ifCond .eq 5, 3) := dqo_153 0 5 (by decide) (kb_X4_insert_0 34 rfl) (kb_X4_insert_0 35 rfl) (kb_X4_insert_0 36 rfl)
theorem dX4_insert_37 : decode cX4_insert 37 = .ok (.iconst 0, 1) := dqo_3 (kb_X4_insert_0 37 rfl)
theorem dX4_insert_38 : decode cX4_insert 38 = .ok (.ireturn, 1) := dqo_172 (kb_X4_insert_0 38 rfl)
set_option maxRecDepth 100000 in
set_option maxHeartbeats 4000000 in
theorem D_insert_noW {l : Launch} {D : va_G} {cy : Nat → ClassId} {X : (Nat → Prop) → State → Heap → Prop} {ba ra : Nat → Nat} {hf : Nat → Nat → Nat} {hq : Nat → Nat → Int32} {kn th : Int32} {sm : Int64} {Y : va_W} {f : Nat → Nat → Nat} {r : Nat → Nat → Int32} {x : Int32} {y0 : Int32} {y : Int32} (hX : EnvM X cy) (hC : CInv f) (hM : MR f r hf hq) (hno : noW f x) : Cd l D cy X yX4_insert cX4_insert 4 (some .int) (rmk 9 4 48 420) [.ref (ba 9), .int x, .int y0, .int y] (WM cy ba ra hf hq kn th sm ++ Y) (some (.int (nI 0))) (WM cy ba ra hf hq kn (nI 1) sm ++ Y) := by
  have hG := hM.1
  have h5M := hM.h5M hC
  have h4M := hC.h4M
  have h9a := hM.h9a hC
  have h6a := hM.h6a
  have hU := hM.hU hC
  refine Cm.of [some (.ref (ba 9)), some (.int x), some (.int y0), some (.int y)] pn_X4 rfl (Nat.le_of_ble_eq_true rfl) ?_
  intro p e s m args below meth c A C hE hr hnt hn
  refine r_aload_n C dX4_insert_0 rfl ?_
  refine r_aload_n C dX4_insert_1 rfl ?_
  refine r_iload_n C dX4_insert_2 rfl ?_
  refine d_V (st := [.ref (ba 9)]) hX.1.stb C hE (D_isNoWhere1 (ba := ba) (ra := ra) (hf := hf) (hq := hq) (kn := kn) (th := th) (sm := sm) (Y := Y) (f := f) (x := (x)) hX h5M h4M hno) pk_X4_isNoWhere qm_X4_55 0 8 rfl rfl wm_0 rfl rfl (Nat.le_of_ble_eq_true rfl) dX4_insert_3 ⟨(Nat.le_of_ble_eq_true rfl), (Nat.le_of_ble_eq_true rfl)⟩ ⟨(Nat.le_of_ble_eq_true rfl), (Nat.le_of_ble_eq_true rfl)⟩ ?_
  refine r_w (w' := WM cy ba ra hf hq kn th sm ++ Y) rfl ?_
  refine r_iload_n C dX4_insert_6 rfl ?_
  refine d_S (st := [.int (nI 1), .ref (ba 9)]) hX.1.stb C hE (D_isNoItemX (ba := ba) (ra := ra) (hf := hf) (hq := hq) (kn := kn) (th := th) (sm := sm) (Y := Y) (y := (y)) hX ) pk_X4_isNoItem qm_X4_78 rfl rfl (Nat.le_of_ble_eq_true rfl) dX4_insert_7 ⟨(Nat.le_of_ble_eq_true rfl), (Nat.le_of_ble_eq_true rfl)⟩ ⟨(Nat.le_of_ble_eq_true rfl), (Nat.le_of_ble_eq_true rfl)⟩ ?_
  refine r_w (w' := WM cy ba ra hf hq kn th sm ++ Y) rfl ?_
  refine r_aload_n C dX4_insert_10 rfl ?_
  refine r_iload_n C dX4_insert_11 rfl ?_
  refine d_V (st := [.int (nI (niF (y))), .int (nI 1), .ref (ba 9)]) hX.1.stb C hE (D_isNoWhere1 (ba := ba) (ra := ra) (hf := hf) (hq := hq) (kn := kn) (th := th) (sm := sm) (Y := Y) (f := f) (x := (x)) hX h5M h4M hno) pk_X4_isNoWhere qm_X4_55 0 8 rfl rfl wm_0 rfl rfl (Nat.le_of_ble_eq_true rfl) dX4_insert_12 ⟨(Nat.le_of_ble_eq_true rfl), (Nat.le_of_ble_eq_true rfl)⟩ ⟨(Nat.le_of_ble_eq_true rfl), (Nat.le_of_ble_eq_true rfl)⟩ ?_
  refine r_w (w' := WM cy ba ra hf hq kn th sm ++ Y) rfl ?_
  refine r_ifN_ne (a := 1) (tgt := 30) C (by omega) dX4_insert_15 (by decide) (fun h15_1 => ?_) (fun h15_1 => ?_)
  · skip
    refine r_iconst (v := (nI 0)) C dX4_insert_30 (by decide) ?_
    refine d_V (st := []) hX.1.stb C hE (D_fails1 (ba := ba) (ra := ra) (hf := hf) (hq := hq) (kn := kn) (th := th) (sm := sm) (Y := Y) (b0 := (niF (y))) (d0 := 0) hX ) pk_X4_fails qm_X4_84 0 8 rfl rfl wm_0 rfl rfl (Nat.le_of_ble_eq_true rfl) dX4_insert_31 ⟨(Nat.le_of_ble_eq_true rfl), (Nat.le_of_ble_eq_true rfl)⟩ ⟨(Nat.le_of_ble_eq_true rfl), (Nat.le_of_ble_eq_true rfl)⟩ ?_
    refine r_w (w' := WM cy ba ra hf hq kn (nI 1) sm ++ Y) rfl ?_
    refine r_ifN_eq (a := 1) (tgt := 39) C (by omega) dX4_insert_34 (by decide) (fun h34_2 => ?_) (fun h34_2 => ?_)
    · exact absurd h34_2 (by omega)
    · skip
      refine r_iconst (v := (nI 0)) C dX4_insert_37 (by decide) ?_
      exact r_iret C hr dX4_insert_38 ⟨rfl, rfl⟩ (Nat.le_of_ble_eq_true rfl) (Nat.le_of_ble_eq_true rfl)
  · exact absurd h15_1 (by omega)
theorem dX4_insert_18 : decode cX4_insert 18 = .ok (.aload_n 0, 1) := dqo_42 (kb_X4_insert_0 18 rfl)
theorem dX4_insert_19 : decode cX4_insert 19 = .ok (.iload_n 1, 1) := dqo_27 (kb_X4_insert_0 19 rfl)
theorem dX4_insert_20 : decode cX4_insert 20 = .ok (.invokevirtual 81, 3) := dqo_182 0 81 (kb_X4_insert_0 20 rfl) (kb_X4_insert_0 21 rfl) (kb_X4_insert_0 22 rfl)
theorem dX4_insert_23 : decode cX4_insert 23 = .ok (.ifCond .eq 7, 3) := dqo_153 0 7 (by decide) (kb_X4_insert_0 23 rfl) (kb_X4_insert_0 24 rfl) (kb_X4_insert_0 25 rfl)
theorem dX4_insert_26 : decode cX4_insert 26 = .ok (.iconst 1, 1) := dqo_4 (kb_X4_insert_0 26 rfl)
theorem dX4_insert_27 : decode cX4_insert 27 = .ok (.goto 4, 3) := dqo_167 0 4 (by decide) (kb_X4_insert_0 27 rfl) (kb_X4_insert_0 28 rfl) (kb_X4_insert_0 29 rfl)
set_option maxRecDepth 100000 in
set_option maxHeartbeats 4000000 in
theorem D_insert_noI {l : Launch} {D : va_G} {cy : Nat → ClassId} {X : (Nat → Prop) → State → Heap → Prop} {ba ra : Nat → Nat} {hf : Nat → Nat → Nat} {hq : Nat → Nat → Int32} {kn th : Int32} {sm : Int64} {Y : va_W} {f : Nat → Nat → Nat} {r : Nat → Nat → Int32} {w : Nat} {y0 : Int32} {y : Int32} (hX : EnvM X cy) (hC : CInv f) (hM : MR f r hf hq) (hw : w < 8) (h5w : f 5 w = 1) (ho : ¬ okI y) : Cd l D cy X yX4_insert cX4_insert 4 (some .int) (rmk 9 4 48 420) [.ref (ba 9), .int (nI w), .int y0, .int y] (WM cy ba ra hf hq kn th sm ++ Y) (some (.int (nI 0))) (WM cy ba ra hf hq kn (nI 2) sm ++ Y) := by
  have hG := hM.1
  have h5M := hM.h5M hC
  have h4M := hC.h4M
  have h9a := hM.h9a hC
  have h6a := hM.h6a
  have hU := hM.hU hC
  have qw := hM.wh hC hw h5w
  refine Cm.of [some (.ref (ba 9)), some (.int (nI w)), some (.int y0), some (.int y)] pn_X4 rfl (Nat.le_of_ble_eq_true rfl) ?_
  intro p e s m args below meth c A C hE hr hnt hn
  refine r_aload_n C dX4_insert_0 rfl ?_
  refine r_aload_n C dX4_insert_1 rfl ?_
  refine r_iload_n C dX4_insert_2 rfl ?_
  refine d_V (st := [.ref (ba 9)]) hX.1.stb C hE (D_isNoWhere0 (ba := ba) (ra := ra) (hf := hf) (hq := hq) (kn := kn) (th := th) (sm := sm) (Y := Y) (w := w) hX (by omega) (by omega)) pk_X4_isNoWhere qm_X4_55 0 8 rfl rfl wm_0 rfl rfl (Nat.le_of_ble_eq_true rfl) dX4_insert_3 ⟨(Nat.le_of_ble_eq_true rfl), (Nat.le_of_ble_eq_true rfl)⟩ ⟨(Nat.le_of_ble_eq_true rfl), (Nat.le_of_ble_eq_true rfl)⟩ ?_
  refine r_w (w' := WM cy ba ra hf hq kn th sm ++ Y) rfl ?_
  refine r_iload_n C dX4_insert_6 rfl ?_
  refine d_S (st := [.int (nI 0), .ref (ba 9)]) hX.1.stb C hE (D_isNoItem1 (ba := ba) (ra := ra) (hf := hf) (hq := hq) (kn := kn) (th := th) (sm := sm) (Y := Y) (y := (y)) hX ho) pk_X4_isNoItem qm_X4_78 rfl rfl (Nat.le_of_ble_eq_true rfl) dX4_insert_7 ⟨(Nat.le_of_ble_eq_true rfl), (Nat.le_of_ble_eq_true rfl)⟩ ⟨(Nat.le_of_ble_eq_true rfl), (Nat.le_of_ble_eq_true rfl)⟩ ?_
  refine r_w (w' := WM cy ba ra hf hq kn th sm ++ Y) rfl ?_
  refine r_aload_n C dX4_insert_10 rfl ?_
  refine r_iload_n C dX4_insert_11 rfl ?_
  refine d_V (st := [.int (nI 1), .int (nI 0), .ref (ba 9)]) hX.1.stb C hE (D_isNoWhere0 (ba := ba) (ra := ra) (hf := hf) (hq := hq) (kn := kn) (th := th) (sm := sm) (Y := Y) (w := w) hX (by omega) (by omega)) pk_X4_isNoWhere qm_X4_55 0 8 rfl rfl wm_0 rfl rfl (Nat.le_of_ble_eq_true rfl) dX4_insert_12 ⟨(Nat.le_of_ble_eq_true rfl), (Nat.le_of_ble_eq_true rfl)⟩ ⟨(Nat.le_of_ble_eq_true rfl), (Nat.le_of_ble_eq_true rfl)⟩ ?_
  refine r_w (w' := WM cy ba ra hf hq kn th sm ++ Y) rfl ?_
  refine r_ifN_ne (a := 0) (tgt := 30) C (by omega) dX4_insert_15 (by decide) (fun h15_1 => ?_) (fun h15_1 => ?_)
  · exact absurd h15_1 (by omega)
  · skip
    refine r_aload_n C dX4_insert_18 rfl ?_
    refine r_iload_n C dX4_insert_19 rfl ?_
    refine d_V (st := [.int (nI 1), .int (nI 0), .ref (ba 9)]) hX.1.stb C hE (D_isFullX (ba := ba) (ra := ra) (hf := hf) (hq := hq) (kn := kn) (th := th) (sm := sm) (Y := Y) (f := f) (w := w) hX hC (MG.same (fun _ => rfl) (fun _ => rfl) hG) (by omega) (by omega) (by omega)) pk_X4_isFull qm_X4_81 0 8 rfl rfl wm_0 rfl rfl (Nat.le_of_ble_eq_true rfl) dX4_insert_20 ⟨(Nat.le_of_ble_eq_true rfl), (Nat.le_of_ble_eq_true rfl)⟩ ⟨(Nat.le_of_ble_eq_true rfl), (Nat.le_of_ble_eq_true rfl)⟩ ?_
    refine r_w (w' := WM cy ba ra hf hq kn th sm ++ Y) rfl ?_
    refine r_ifN_eq (a := (fuF (hf 4 (f 1 w)))) (tgt := 30) C (Nat.lt_of_le_of_lt (fuF_le _) (by decide)) dX4_insert_23 (by decide) (fun h23_2 => ?_) (fun h23_2 => ?_)
    · first
      | fail
      | skip
        refine r_iconst (v := (nI 0)) C dX4_insert_30 (by decide) ?_
        refine d_V (st := []) hX.1.stb C hE (D_fails2 (ba := ba) (ra := ra) (hf := hf) (hq := hq) (kn := kn) (th := th) (sm := sm) (Y := Y) (d0 := 0) hX ) pk_X4_fails qm_X4_84 0 8 rfl rfl wm_0 rfl rfl (Nat.le_of_ble_eq_true rfl) dX4_insert_31 ⟨(Nat.le_of_ble_eq_true rfl), (Nat.le_of_ble_eq_true rfl)⟩ ⟨(Nat.le_of_ble_eq_true rfl), (Nat.le_of_ble_eq_true rfl)⟩ ?_
        refine r_w (w' := WM cy ba ra hf hq kn (nI 2) sm ++ Y) rfl ?_
        refine r_ifN_eq (a := 1) (tgt := 39) C (by omega) dX4_insert_34 (by decide) (fun h34_3 => ?_) (fun h34_3 => ?_)
        · exact absurd h34_3 (by omega)
        · skip
          refine r_iconst (v := (nI 0)) C dX4_insert_37 (by decide) ?_
          exact r_iret C hr dX4_insert_38 ⟨rfl, rfl⟩ (Nat.le_of_ble_eq_true rfl) (Nat.le_of_ble_eq_true rfl)
    · first
      | fail
      | skip
        refine r_iconst (v := (nI 1)) C dX4_insert_26 (by decide) ?_
        refine r_goto (tgt := 31) C dX4_insert_27 (by decide) ?_
        refine d_V (st := []) hX.1.stb C hE (D_fails2 (ba := ba) (ra := ra) (hf := hf) (hq := hq) (kn := kn) (th := th) (sm := sm) (Y := Y) (d0 := 1) hX ) pk_X4_fails qm_X4_84 0 8 rfl rfl wm_0 rfl rfl (Nat.le_of_ble_eq_true rfl) dX4_insert_31 ⟨(Nat.le_of_ble_eq_true rfl), (Nat.le_of_ble_eq_true rfl)⟩ ⟨(Nat.le_of_ble_eq_true rfl), (Nat.le_of_ble_eq_true rfl)⟩ ?_
        refine r_w (w' := WM cy ba ra hf hq kn (nI 2) sm ++ Y) rfl ?_
        refine r_ifN_eq (a := 1) (tgt := 39) C (by omega) dX4_insert_34 (by decide) (fun h34_4 => ?_) (fun h34_4 => ?_)
        · exact absurd h34_4 (by omega)
        · skip
          refine r_iconst (v := (nI 0)) C dX4_insert_37 (by decide) ?_
          exact r_iret C hr dX4_insert_38 ⟨rfl, rfl⟩ (Nat.le_of_ble_eq_true rfl) (Nat.le_of_ble_eq_true rfl)
set_option maxRecDepth 100000 in
set_option maxHeartbeats 4000000 in
theorem D_insert_full {l : Launch} {D : va_G} {cy : Nat → ClassId} {X : (Nat → Prop) → State → Heap → Prop} {ba ra : Nat → Nat} {hf : Nat → Nat → Nat} {hq : Nat → Nat → Int32} {kn th : Int32} {sm : Int64} {Y : va_W} {f : Nat → Nat → Nat} {r : Nat → Nat → Int32} {w : Nat} {y0 : Int32} {y : Int32} (hX : EnvM X cy) (hC : CInv f) (hM : MR f r hf hq) (hw : w < 8) (h5w : f 5 w = 1) (ho : okI y) (hfull : 12 ≤ f 4 (f 1 w)) : Cd l D cy X yX4_insert cX4_insert 4 (some .int) (rmk 9 4 48 420) [.ref (ba 9), .int (nI w), .int y0, .int y] (WM cy ba ra hf hq kn th sm ++ Y) (some (.int (nI 0))) (WM cy ba ra hf hq kn (nI 3) sm ++ Y) := by
  have hG := hM.1
  have h5M := hM.h5M hC
  have h4M := hC.h4M
  have h9a := hM.h9a hC
  have h6a := hM.h6a
  have hU := hM.hU hC
  have qw := hM.wh hC hw h5w
  refine Cm.of [some (.ref (ba 9)), some (.int (nI w)), some (.int y0), some (.int y)] pn_X4 rfl (Nat.le_of_ble_eq_true rfl) ?_
  intro p e s m args below meth c A C hE hr hnt hn
  refine r_aload_n C dX4_insert_0 rfl ?_
  refine r_aload_n C dX4_insert_1 rfl ?_
  refine r_iload_n C dX4_insert_2 rfl ?_
  refine d_V (st := [.ref (ba 9)]) hX.1.stb C hE (D_isNoWhere0 (ba := ba) (ra := ra) (hf := hf) (hq := hq) (kn := kn) (th := th) (sm := sm) (Y := Y) (w := w) hX (by omega) (by omega)) pk_X4_isNoWhere qm_X4_55 0 8 rfl rfl wm_0 rfl rfl (Nat.le_of_ble_eq_true rfl) dX4_insert_3 ⟨(Nat.le_of_ble_eq_true rfl), (Nat.le_of_ble_eq_true rfl)⟩ ⟨(Nat.le_of_ble_eq_true rfl), (Nat.le_of_ble_eq_true rfl)⟩ ?_
  refine r_w (w' := WM cy ba ra hf hq kn th sm ++ Y) rfl ?_
  refine r_iload_n C dX4_insert_6 rfl ?_
  refine d_S (st := [.int (nI 0), .ref (ba 9)]) hX.1.stb C hE (D_isNoItem0 (ba := ba) (ra := ra) (hf := hf) (hq := hq) (kn := kn) (th := th) (sm := sm) (Y := Y) (y := (y)) hX ho) pk_X4_isNoItem qm_X4_78 rfl rfl (Nat.le_of_ble_eq_true rfl) dX4_insert_7 ⟨(Nat.le_of_ble_eq_true rfl), (Nat.le_of_ble_eq_true rfl)⟩ ⟨(Nat.le_of_ble_eq_true rfl), (Nat.le_of_ble_eq_true rfl)⟩ ?_
  refine r_w (w' := WM cy ba ra hf hq kn th sm ++ Y) rfl ?_
  refine r_aload_n C dX4_insert_10 rfl ?_
  refine r_iload_n C dX4_insert_11 rfl ?_
  refine d_V (st := [.int (nI 0), .int (nI 0), .ref (ba 9)]) hX.1.stb C hE (D_isNoWhere0 (ba := ba) (ra := ra) (hf := hf) (hq := hq) (kn := kn) (th := th) (sm := sm) (Y := Y) (w := w) hX (by omega) (by omega)) pk_X4_isNoWhere qm_X4_55 0 8 rfl rfl wm_0 rfl rfl (Nat.le_of_ble_eq_true rfl) dX4_insert_12 ⟨(Nat.le_of_ble_eq_true rfl), (Nat.le_of_ble_eq_true rfl)⟩ ⟨(Nat.le_of_ble_eq_true rfl), (Nat.le_of_ble_eq_true rfl)⟩ ?_
  refine r_w (w' := WM cy ba ra hf hq kn th sm ++ Y) rfl ?_
  refine r_ifN_ne (a := 0) (tgt := 30) C (by omega) dX4_insert_15 (by decide) (fun h15_1 => ?_) (fun h15_1 => ?_)
  · exact absurd h15_1 (by omega)
  · skip
    refine r_aload_n C dX4_insert_18 rfl ?_
    refine r_iload_n C dX4_insert_19 rfl ?_
    refine d_V (st := [.int (nI 0), .int (nI 0), .ref (ba 9)]) hX.1.stb C hE (D_isFull1 (ba := ba) (ra := ra) (hf := hf) (hq := hq) (kn := kn) (th := th) (sm := sm) (Y := Y) (f := f) (w := w) hX hC (MG.same (fun _ => rfl) (fun _ => rfl) hG) (by omega) (by omega) (by omega)) pk_X4_isFull qm_X4_81 0 8 rfl rfl wm_0 rfl rfl (Nat.le_of_ble_eq_true rfl) dX4_insert_20 ⟨(Nat.le_of_ble_eq_true rfl), (Nat.le_of_ble_eq_true rfl)⟩ ⟨(Nat.le_of_ble_eq_true rfl), (Nat.le_of_ble_eq_true rfl)⟩ ?_
    refine r_w (w' := WM cy ba ra hf hq kn th sm ++ Y) rfl ?_
    refine r_ifN_eq (a := 1) (tgt := 30) C (by omega) dX4_insert_23 (by decide) (fun h23_2 => ?_) (fun h23_2 => ?_)
    · exact absurd h23_2 (by omega)
    · skip
      refine r_iconst (v := (nI 1)) C dX4_insert_26 (by decide) ?_
      refine r_goto (tgt := 31) C dX4_insert_27 (by decide) ?_
      refine d_V (st := []) hX.1.stb C hE (D_fails3 (ba := ba) (ra := ra) (hf := hf) (hq := hq) (kn := kn) (th := th) (sm := sm) (Y := Y)  hX ) pk_X4_fails qm_X4_84 0 8 rfl rfl wm_0 rfl rfl (Nat.le_of_ble_eq_true rfl) dX4_insert_31 ⟨(Nat.le_of_ble_eq_true rfl), (Nat.le_of_ble_eq_true rfl)⟩ ⟨(Nat.le_of_ble_eq_true rfl), (Nat.le_of_ble_eq_true rfl)⟩ ?_
      refine r_w (w' := WM cy ba ra hf hq kn (nI 3) sm ++ Y) rfl ?_
      refine r_ifN_eq (a := 1) (tgt := 39) C (by omega) dX4_insert_34 (by decide) (fun h34_3 => ?_) (fun h34_3 => ?_)
      · exact absurd h34_3 (by omega)
      · skip
        refine r_iconst (v := (nI 0)) C dX4_insert_37 (by decide) ?_
        exact r_iret C hr dX4_insert_38 ⟨rfl, rfl⟩ (Nat.le_of_ble_eq_true rfl) (Nat.le_of_ble_eq_true rfl)
theorem pk_X4_lay : PkV RX4 yX4_lay cX4_lay 10 none 4 := ⟨⟨qi_X4_lay, qs_X4_lay, qz_X4, qc_X4_lay⟩, rfl, mh_X4.1, mh_X4.2, pd_21⟩
theorem dX4_add_39 : decode cX4_add 39 = .ok (.aload_n 0, 1) := dqo_42 (kb_X4_add_0 39 rfl)
theorem dX4_add_40 : decode cX4_add 40 = .ok (.iload_n 1, 1) := dqo_27 (kb_X4_add_0 40 rfl)
theorem dX4_add_41 : decode cX4_add 41 = .ok (.iconst (-1), 1) := dqo_2 (kb_X4_add_0 41 rfl)
theorem dX4_add_42 : decode cX4_add 42 = .ok (.invokevirtual 74, 3) := dqo_182 0 74 (kb_X4_add_0 42 rfl) (kb_X4_add_0 43 rfl) (kb_X4_add_0 44 rfl)
theorem dX4_add_45 : decode cX4_add 45 = .ok (.aload_n 0, 1) := dqo_42 (kb_X4_add_0 45 rfl)
theorem dX4_add_46 : decode cX4_add 46 = .ok (.iload_n 1, 1) := dqo_27 (kb_X4_add_0 46 rfl)
theorem dX4_add_47 : decode cX4_add 47 = .ok (.aload_n 0, 1) := dqo_42 (kb_X4_add_0 47 rfl)
theorem dX4_add_48 : decode cX4_add 48 = .ok (.iload_n 1, 1) := dqo_27 (kb_X4_add_0 48 rfl)
theorem dX4_add_49 : decode cX4_add 49 = .ok (.invokevirtual 59, 3) := dqo_182 0 59 (kb_X4_add_0 49 rfl) (kb_X4_add_0 50 rfl) (kb_X4_add_0 51 rfl)
theorem dX4_add_52 : decode cX4_add 52 = .ok (.iconst 0, 1) := dqo_3 (kb_X4_add_0 52 rfl)
theorem dX4_add_53 : decode cX4_add 53 = .ok (.iconst 1, 1) := dqo_4 (kb_X4_add_0 53 rfl)
theorem dX4_add_54 : decode cX4_add 54 = .ok (.newarray .int, 2) := dqo_188_10 (kb_X4_add_0 54 rfl) (kb_X4_add_0 55 rfl)
theorem dX4_add_56 : decode cX4_add 56 = .ok (.dup, 1) := dqo_89 (kb_X4_add_0 56 rfl)
theorem dX4_add_57 : decode cX4_add 57 = .ok (.iconst 0, 1) := dqo_3 (kb_X4_add_0 57 rfl)
theorem dX4_add_58 : decode cX4_add 58 = .ok (.iload_n 2, 1) := dqo_28 (kb_X4_add_0 58 rfl)
theorem dX4_add_59 : decode cX4_add 59 = .ok (.iastore, 1) := dqo_79 (kb_X4_add_0 59 rfl)
theorem dX4_add_60 : decode cX4_add 60 = .ok (.invokevirtual 88, 3) := dqo_182 0 88 (kb_X4_add_0 60 rfl) (kb_X4_add_0 61 rfl) (kb_X4_add_0 62 rfl)
theorem dX4_add_63 : decode cX4_add 63 = .ok (.aload_n 0, 1) := dqo_42 (kb_X4_add_0 63 rfl)
theorem dX4_add_64 : decode cX4_add 64 = .ok (.iload_n 1, 1) := dqo_27 (kb_X4_add_1 0 rfl)
theorem dX4_add_65 : decode cX4_add 65 = .ok (.invokevirtual 59, 3) := dqo_182 0 59 (kb_X4_add_1 1 rfl) (kb_X4_add_1 2 rfl) (kb_X4_add_1 3 rfl)
theorem dX4_add_68 : decode cX4_add 68 = .ok (.ireturn, 1) := dqo_172 (kb_X4_add_1 4 rfl)
set_option maxRecDepth 100000 in
set_option maxHeartbeats 4000000 in
theorem D_add_ok {l : Launch} {D : va_G} {cy : Nat → ClassId} {X : (Nat → Prop) → State → Heap → Prop} {ba ra : Nat → Nat} {hf : Nat → Nat → Nat} {hq : Nat → Nat → Int32} {kn th : Int32} {sm : Int64} {Y : va_W} {f : Nat → Nat → Nat} {r : Nat → Nat → Int32} {w : Nat} {y : Int32} (hX : EnvM X cy) (hC : CInv f) (hM : MR f r hf hq) (hw : w < 8) (h5w : f 5 w = 1) (ho : okI y) (hroom : f 4 (f 1 w) < 12) : Cm l D cy X yX4_add cX4_add 3 (some .int) (rmk 9 4 48 420) [.ref (ba 9), .int (nI w), .int y] (WM cy ba ra hf hq kn th sm ++ Y) (fun v1 w1 => ∃ ra9 : Nat → Nat, v1 = some (.int (nI ((lyM f (up2 (chM f hf w 4294967295) 4 (f 1 w) ((chM f hf w 4294967295) 4 (f 1 w) - 0 + 1)) w 1 0) 4 w))) ∧ w1 = WM cy ba ra9 (lyM f (up2 (chM f hf w 4294967295) 4 (f 1 w) ((chM f hf w 4294967295) 4 (f 1 w) - 0 + 1)) w 1 0) (upR hq (f 1 w) (layF (hq (f 1 w)) (upd (fun _ => 0) 0 y) (f 3 w + (hf 4 w)) 1 0 ((chM f hf w 4294967295) 4 (f 1 w) - 0 + 1))) kn (nI 0) sm ++ Y) (fun _ => False) := by
  have hG := hM.1
  have h5M := hM.h5M hC
  have h4M := hC.h4M
  have h9a := hM.h9a hC
  have h6a := hM.h6a
  have hU := hM.hU hC
  have qw := hM.wh hC hw h5w
  refine Cm.of [some (.ref (ba 9)), some (.int (nI w)), some (.int y)] pn_X4 rfl (Nat.le_of_ble_eq_true rfl) ?_
  intro p e s m args below meth c A C hE hr hnt hn
  refine r_aload_n C dX4_add_0 rfl ?_
  refine r_aload_n C dX4_add_1 rfl ?_
  refine r_iload_n C dX4_add_2 rfl ?_
  refine d_V (st := [.ref (ba 9)]) hX.1.stb C hE (D_isNoWhere0 (ba := ba) (ra := ra) (hf := hf) (hq := hq) (kn := kn) (th := th) (sm := sm) (Y := Y) (w := w) hX (by omega) (by omega)) pk_X4_isNoWhere qm_X4_55 0 8 rfl rfl wm_0 rfl rfl (Nat.le_of_ble_eq_true rfl) dX4_add_3 ⟨(Nat.le_of_ble_eq_true rfl), (Nat.le_of_ble_eq_true rfl)⟩ ⟨(Nat.le_of_ble_eq_true rfl), (Nat.le_of_ble_eq_true rfl)⟩ ?_
  refine r_w (w' := WM cy ba ra hf hq kn th sm ++ Y) rfl ?_
  refine r_iload_n C dX4_add_6 rfl ?_
  refine d_S (st := [.int (nI 0), .ref (ba 9)]) hX.1.stb C hE (D_isNoItem0 (ba := ba) (ra := ra) (hf := hf) (hq := hq) (kn := kn) (th := th) (sm := sm) (Y := Y) (y := (y)) hX ho) pk_X4_isNoItem qm_X4_78 rfl rfl (Nat.le_of_ble_eq_true rfl) dX4_add_7 ⟨(Nat.le_of_ble_eq_true rfl), (Nat.le_of_ble_eq_true rfl)⟩ ⟨(Nat.le_of_ble_eq_true rfl), (Nat.le_of_ble_eq_true rfl)⟩ ?_
  refine r_w (w' := WM cy ba ra hf hq kn th sm ++ Y) rfl ?_
  refine r_aload_n C dX4_add_10 rfl ?_
  refine r_iload_n C dX4_add_11 rfl ?_
  refine d_V (st := [.int (nI 0), .int (nI 0), .ref (ba 9)]) hX.1.stb C hE (D_isNoWhere0 (ba := ba) (ra := ra) (hf := hf) (hq := hq) (kn := kn) (th := th) (sm := sm) (Y := Y) (w := w) hX (by omega) (by omega)) pk_X4_isNoWhere qm_X4_55 0 8 rfl rfl wm_0 rfl rfl (Nat.le_of_ble_eq_true rfl) dX4_add_12 ⟨(Nat.le_of_ble_eq_true rfl), (Nat.le_of_ble_eq_true rfl)⟩ ⟨(Nat.le_of_ble_eq_true rfl), (Nat.le_of_ble_eq_true rfl)⟩ ?_
  refine r_w (w' := WM cy ba ra hf hq kn th sm ++ Y) rfl ?_
  refine r_ifN_ne (a := 0) (tgt := 30) C (by omega) dX4_add_15 (by decide) (fun h15_1 => ?_) (fun h15_1 => ?_)
  · exact absurd h15_1 (by omega)
  · skip
    refine r_aload_n C dX4_add_18 rfl ?_
    refine r_iload_n C dX4_add_19 rfl ?_
    refine d_V (st := [.int (nI 0), .int (nI 0), .ref (ba 9)]) hX.1.stb C hE (D_isFull0 (ba := ba) (ra := ra) (hf := hf) (hq := hq) (kn := kn) (th := th) (sm := sm) (Y := Y) (f := f) (w := w) hX hC (MG.same (fun _ => rfl) (fun _ => rfl) hG) (by omega) (by omega) (by omega)) pk_X4_isFull qm_X4_81 0 8 rfl rfl wm_0 rfl rfl (Nat.le_of_ble_eq_true rfl) dX4_add_20 ⟨(Nat.le_of_ble_eq_true rfl), (Nat.le_of_ble_eq_true rfl)⟩ ⟨(Nat.le_of_ble_eq_true rfl), (Nat.le_of_ble_eq_true rfl)⟩ ?_
    refine r_w (w' := WM cy ba ra hf hq kn th sm ++ Y) rfl ?_
    refine r_ifN_eq (a := 0) (tgt := 30) C (by omega) dX4_add_23 (by decide) (fun h23_2 => ?_) (fun h23_2 => ?_)
    · skip
      refine r_iconst (v := (nI 0)) C dX4_add_30 (by decide) ?_
      refine d_V (st := []) hX.1.stb C hE (D_fails0 (ba := ba) (ra := ra) (hf := hf) (hq := hq) (kn := kn) (th := th) (sm := sm) (Y := Y)  hX ) pk_X4_fails qm_X4_84 0 8 rfl rfl wm_0 rfl rfl (Nat.le_of_ble_eq_true rfl) dX4_add_31 ⟨(Nat.le_of_ble_eq_true rfl), (Nat.le_of_ble_eq_true rfl)⟩ ⟨(Nat.le_of_ble_eq_true rfl), (Nat.le_of_ble_eq_true rfl)⟩ ?_
      refine r_w (w' := WM cy ba ra hf hq kn (nI 0) sm ++ Y) rfl ?_
      refine r_ifN_eq (a := 0) (tgt := 39) C (by omega) dX4_add_34 (by decide) (fun h34_3 => ?_) (fun h34_3 => ?_)
      · skip
        refine r_aload_n C dX4_add_39 rfl ?_
        refine r_iload_n C dX4_add_40 rfl ?_
        refine r_iconst (v := (nI 4294967295)) C dX4_add_41 (by decide) ?_
        refine d_Vv (st := []) hX.1.stb C hE (D_changed (ba := ba) (ra := ra) (hf := hf) (hq := hq) (kn := kn) (th := (nI 0)) (sm := sm) (Y := Y) (f := f) (w := w) (d0 := 4294967295) hX hC (MG.same (fun _ => rfl) (fun _ => rfl) hG) (by omega) (by omega) (by omega) h5M h9a hU) pk_X4_changed qm_X4_74 0 8 rfl rfl wm_0 rfl rfl (Nat.le_of_ble_eq_true rfl) dX4_add_42 ⟨(Nat.le_of_ble_eq_true rfl), (Nat.le_of_ble_eq_true rfl)⟩ ⟨(Nat.le_of_ble_eq_true rfl), (Nat.le_of_ble_eq_true rfl)⟩ ?_
        refine r_w (w' := WM cy ba ra (chM f hf w 4294967295) hq kn (nI 0) sm ++ Y) rfl ?_
        refine r_aload_n C dX4_add_45 rfl ?_
        refine r_iload_n C dX4_add_46 rfl ?_
        refine r_aload_n C dX4_add_47 rfl ?_
        refine r_iload_n C dX4_add_48 rfl ?_
        refine d_V (st := [.int (nI w), .ref (ba 9)]) hX.1.stb C hE (D_sizeOf (ba := ba) (ra := ra) (hf := (chM f hf w 4294967295)) (hq := hq) (kn := kn) (th := (nI 0)) (sm := sm) (Y := Y) (w := w) hX (by omega)) pk_X4_sizeOf qm_X4_59 0 8 rfl rfl wm_0 rfl rfl (Nat.le_of_ble_eq_true rfl) dX4_add_49 ⟨(Nat.le_of_ble_eq_true rfl), (Nat.le_of_ble_eq_true rfl)⟩ ⟨(Nat.le_of_ble_eq_true rfl), (Nat.le_of_ble_eq_true rfl)⟩ ?_
        refine r_w (w' := WM cy ba ra (chM f hf w 4294967295) hq kn (nI 0) sm ++ Y) rfl ?_
        refine r_iconst (v := (nI 0)) C dX4_add_52 (by decide) ?_
        refine r_iconst (v := (nI 1)) C dX4_add_53 (by decide) ?_
        refine r_newT C .int .int 1 rfl (by simp) qa_int (n := 1) (show 1 < 1000000 from Nat.lt_of_le_of_lt (show 1 ≤ 1 from by omega) (by decide)) (2) (5) (Nat.le_of_ble_eq_true rfl) (Nat.add_le_add (Nat.le_refl _) (show 1 ≤ 1 from by omega)) (Nat.le_of_ble_eq_true rfl) (Nat.le_of_ble_eq_true rfl) dX4_add_54 (fun b_4 => ?_)
        refine r_w (w' := WM cy ba ra (chM f hf w 4294967295) hq kn (nI 0) sm ++ (Y ++ [(b_4, .inl (cy 1, 1, .inl (fun _ => 0)))])) (by simp only [List.append_assoc, List.cons_append, List.nil_append]) ?_
        refine r_dup C dX4_add_56 rfl ?_
        refine r_iconst (v := (nI 0)) C dX4_add_57 (by decide) ?_
        refine r_iload_n C dX4_add_58 rfl ?_
        refine x_ast C (i := 0) (f := fun _ => 0) (E' := [(b_4, .inl (cy 1, 1, .inl (upd (fun _ => 0) 0 y)))]) 0 rfl (by omega) (by omega) rfl dX4_add_59 ?_
        refine e_V (st := []) hX.1.stb C hE (D_lay (ba := ba) (ra := ra) (hf := (chM f hf w 4294967295)) (hq := hq) (kn := kn) (th := (nI 0)) (sm := sm) (f := f) (w := w) (p0 := (hf 4 w)) (o0 := 0) (b0 := b_4) (n0 := 1) (g0 := (upd (fun _ => 0) 0 y)) (j0 := (Y.length + 0)) hX hC (MG.same (fun _ => rfl) (fun _ => rfl) hG) (by omega) (by omega) (show f 3 w + (hf 4 w) + 0 ≤ (hf 4 (f 1 w)) from (by omega)) (show (hf 4 (f 1 w)) ≤ 12 from (by omega)) (show (hf 4 (f 1 w)) - 0 + 1 ≤ 12 from (by omega)) (fun x hx hh => (show 0 ≤ hf 4 x + 1 from by have h8 := hM.ho hC hw h5w hx hh; omega)) ((ya_x 0).trans rfl)) pk_X4_lay qm_X4_88 0 8 rfl rfl wm_0 rfl rfl (Nat.le_of_ble_eq_true rfl) dX4_add_60 ⟨(Nat.le_of_ble_eq_true rfl), (Nat.le_of_ble_eq_true rfl)⟩ ⟨(Nat.le_of_ble_eq_true rfl), (Nat.le_of_ble_eq_true rfl)⟩ (fun ra_5 => ?_)
        refine r_w (w' := WM cy ba ra_5 (lyM f (up2 (chM f hf w 4294967295) 4 (f 1 w) ((chM f hf w 4294967295) 4 (f 1 w) - 0 + 1)) w 1 0) (upR hq (f 1 w) (layF (hq (f 1 w)) (upd (fun _ => 0) 0 y) (f 3 w + (hf 4 w)) 1 0 ((chM f hf w 4294967295) 4 (f 1 w) - 0 + 1))) kn (nI 0) sm ++ (Y ++ [(b_4, .inl (cy 1, 1, .inl (upd (fun _ => 0) 0 y)))])) rfl ?_
        refine r_st (st' := []) rfl ?_
        refine r_aload_n C dX4_add_63 rfl ?_
        refine r_iload_n C dX4_add_64 rfl ?_
        refine d_V (st := []) hX.1.stb C hE (D_sizeOf (ba := ba) (ra := ra_5) (hf := (lyM f (up2 (chM f hf w 4294967295) 4 (f 1 w) ((chM f hf w 4294967295) 4 (f 1 w) - 0 + 1)) w 1 0)) (hq := (upR hq (f 1 w) (layF (hq (f 1 w)) (upd (fun _ => 0) 0 y) (f 3 w + (hf 4 w)) 1 0 ((chM f hf w 4294967295) 4 (f 1 w) - 0 + 1)))) (kn := kn) (th := (nI 0)) (sm := sm) (w := w) hX (by omega)) pk_X4_sizeOf qm_X4_59 0 8 rfl rfl wm_0 rfl rfl (Nat.le_of_ble_eq_true rfl) dX4_add_65 ⟨(Nat.le_of_ble_eq_true rfl), (Nat.le_of_ble_eq_true rfl)⟩ ⟨(Nat.le_of_ble_eq_true rfl), (Nat.le_of_ble_eq_true rfl)⟩ ?_
        refine r_w (w' := WM cy ba ra_5 (lyM f (up2 (chM f hf w 4294967295) 4 (f 1 w) ((chM f hf w 4294967295) 4 (f 1 w) - 0 + 1)) w 1 0) (upR hq (f 1 w) (layF (hq (f 1 w)) (upd (fun _ => 0) 0 y) (f 3 w + (hf 4 w)) 1 0 ((chM f hf w 4294967295) 4 (f 1 w) - 0 + 1))) kn (nI 0) sm ++ (Y ++ [(b_4, .inl (cy 1, 1, .inl (upd (fun _ => 0) 0 y)))])) rfl ?_
        refine r_pre ?_
        exact r_iret C hr dX4_add_68 ⟨_, rfl, rfl⟩ (Nat.le_of_ble_eq_true rfl) (Nat.le_of_ble_eq_true rfl)
      · exact absurd h34_3 (by omega)
    · exact absurd h23_2 (by omega)
theorem dX4_insert_39 : decode cX4_insert 39 = .ok (.iload_n 2, 1) := dqo_28 (kb_X4_insert_0 39 rfl)
theorem dX4_insert_40 : decode cX4_insert 40 = .ok (.iconst 0, 1) := dqo_3 (kb_X4_insert_0 40 rfl)
theorem dX4_insert_41 : decode cX4_insert 41 = .ok (.aload_n 0, 1) := dqo_42 (kb_X4_insert_0 41 rfl)
theorem dX4_insert_42 : decode cX4_insert 42 = .ok (.iload_n 1, 1) := dqo_27 (kb_X4_insert_0 42 rfl)
theorem dX4_insert_43 : decode cX4_insert 43 = .ok (.invokevirtual 59, 3) := dqo_182 0 59 (kb_X4_insert_0 43 rfl) (kb_X4_insert_0 44 rfl) (kb_X4_insert_0 45 rfl)
theorem dX4_insert_46 : decode cX4_insert 46 = .ok (.invokestatic 1, 3) := dqo_184 0 1 (kb_X4_insert_0 46 rfl) (kb_X4_insert_0 47 rfl) (kb_X4_insert_0 48 rfl)
theorem dX4_insert_49 : decode cX4_insert 49 = .ok (.ifCond .ne 6, 3) := dqo_154 0 6 (by decide) (kb_X4_insert_0 49 rfl) (kb_X4_insert_0 50 rfl) (kb_X4_insert_0 51 rfl)
theorem dX4_insert_52 : decode cX4_insert 52 = .ok (.bipush (-9), 2) := dqo_16 247 (by decide) (kb_X4_insert_0 52 rfl) (kb_X4_insert_0 53 rfl)
theorem dX4_insert_54 : decode cX4_insert 54 = .ok (.ireturn, 1) := dqo_172 (kb_X4_insert_0 54 rfl)
set_option maxRecDepth 100000 in
set_option maxHeartbeats 4000000 in
theorem D_insert_ref {l : Launch} {D : va_G} {cy : Nat → ClassId} {X : (Nat → Prop) → State → Heap → Prop} {ba ra : Nat → Nat} {hf : Nat → Nat → Nat} {hq : Nat → Nat → Int32} {kn th : Int32} {sm : Int64} {Y : va_W} {f : Nat → Nat → Nat} {r : Nat → Nat → Int32} {w : Nat} {y0 : Int32} {y : Int32} (hX : EnvM X cy) (hC : CInv f) (hM : MR f r hf hq) (hw : w < 8) (h5w : f 5 w = 1) (ho : okI y) (hroom : f 4 (f 1 w) < 12) (hno : ¬ (0 ≤ y0 ∧ y0 ≤ nI (f 4 w))) : Cd l D cy X yX4_insert cX4_insert 4 (some .int) (rmk 9 4 48 420) [.ref (ba 9), .int (nI w), .int y0, .int y] (WM cy ba ra hf hq kn th sm ++ Y) (some (.int (nI 4294967287))) (WM cy ba ra hf hq kn (nI 0) sm ++ Y) := by
  have hG := hM.1
  have h5M := hM.h5M hC
  have h4M := hC.h4M
  have h9a := hM.h9a hC
  have h6a := hM.h6a
  have hU := hM.hU hC
  have qw := hM.wh hC hw h5w
  refine Cm.of [some (.ref (ba 9)), some (.int (nI w)), some (.int y0), some (.int y)] pn_X4 rfl (Nat.le_of_ble_eq_true rfl) ?_
  intro p e s m args below meth c A C hE hr hnt hn
  refine r_aload_n C dX4_insert_0 rfl ?_
  refine r_aload_n C dX4_insert_1 rfl ?_
  refine r_iload_n C dX4_insert_2 rfl ?_
  refine d_V (st := [.ref (ba 9)]) hX.1.stb C hE (D_isNoWhere0 (ba := ba) (ra := ra) (hf := hf) (hq := hq) (kn := kn) (th := th) (sm := sm) (Y := Y) (w := w) hX (by omega) (by omega)) pk_X4_isNoWhere qm_X4_55 0 8 rfl rfl wm_0 rfl rfl (Nat.le_of_ble_eq_true rfl) dX4_insert_3 ⟨(Nat.le_of_ble_eq_true rfl), (Nat.le_of_ble_eq_true rfl)⟩ ⟨(Nat.le_of_ble_eq_true rfl), (Nat.le_of_ble_eq_true rfl)⟩ ?_
  refine r_w (w' := WM cy ba ra hf hq kn th sm ++ Y) rfl ?_
  refine r_iload_n C dX4_insert_6 rfl ?_
  refine d_S (st := [.int (nI 0), .ref (ba 9)]) hX.1.stb C hE (D_isNoItem0 (ba := ba) (ra := ra) (hf := hf) (hq := hq) (kn := kn) (th := th) (sm := sm) (Y := Y) (y := (y)) hX ho) pk_X4_isNoItem qm_X4_78 rfl rfl (Nat.le_of_ble_eq_true rfl) dX4_insert_7 ⟨(Nat.le_of_ble_eq_true rfl), (Nat.le_of_ble_eq_true rfl)⟩ ⟨(Nat.le_of_ble_eq_true rfl), (Nat.le_of_ble_eq_true rfl)⟩ ?_
  refine r_w (w' := WM cy ba ra hf hq kn th sm ++ Y) rfl ?_
  refine r_aload_n C dX4_insert_10 rfl ?_
  refine r_iload_n C dX4_insert_11 rfl ?_
  refine d_V (st := [.int (nI 0), .int (nI 0), .ref (ba 9)]) hX.1.stb C hE (D_isNoWhere0 (ba := ba) (ra := ra) (hf := hf) (hq := hq) (kn := kn) (th := th) (sm := sm) (Y := Y) (w := w) hX (by omega) (by omega)) pk_X4_isNoWhere qm_X4_55 0 8 rfl rfl wm_0 rfl rfl (Nat.le_of_ble_eq_true rfl) dX4_insert_12 ⟨(Nat.le_of_ble_eq_true rfl), (Nat.le_of_ble_eq_true rfl)⟩ ⟨(Nat.le_of_ble_eq_true rfl), (Nat.le_of_ble_eq_true rfl)⟩ ?_
  refine r_w (w' := WM cy ba ra hf hq kn th sm ++ Y) rfl ?_
  refine r_ifN_ne (a := 0) (tgt := 30) C (by omega) dX4_insert_15 (by decide) (fun h15_1 => ?_) (fun h15_1 => ?_)
  · exact absurd h15_1 (by omega)
  · skip
    refine r_aload_n C dX4_insert_18 rfl ?_
    refine r_iload_n C dX4_insert_19 rfl ?_
    refine d_V (st := [.int (nI 0), .int (nI 0), .ref (ba 9)]) hX.1.stb C hE (D_isFull0 (ba := ba) (ra := ra) (hf := hf) (hq := hq) (kn := kn) (th := th) (sm := sm) (Y := Y) (f := f) (w := w) hX hC (MG.same (fun _ => rfl) (fun _ => rfl) hG) (by omega) (by omega) (by omega)) pk_X4_isFull qm_X4_81 0 8 rfl rfl wm_0 rfl rfl (Nat.le_of_ble_eq_true rfl) dX4_insert_20 ⟨(Nat.le_of_ble_eq_true rfl), (Nat.le_of_ble_eq_true rfl)⟩ ⟨(Nat.le_of_ble_eq_true rfl), (Nat.le_of_ble_eq_true rfl)⟩ ?_
    refine r_w (w' := WM cy ba ra hf hq kn th sm ++ Y) rfl ?_
    refine r_ifN_eq (a := 0) (tgt := 30) C (by omega) dX4_insert_23 (by decide) (fun h23_2 => ?_) (fun h23_2 => ?_)
    · skip
      refine r_iconst (v := (nI 0)) C dX4_insert_30 (by decide) ?_
      refine d_V (st := []) hX.1.stb C hE (D_fails0 (ba := ba) (ra := ra) (hf := hf) (hq := hq) (kn := kn) (th := th) (sm := sm) (Y := Y)  hX ) pk_X4_fails qm_X4_84 0 8 rfl rfl wm_0 rfl rfl (Nat.le_of_ble_eq_true rfl) dX4_insert_31 ⟨(Nat.le_of_ble_eq_true rfl), (Nat.le_of_ble_eq_true rfl)⟩ ⟨(Nat.le_of_ble_eq_true rfl), (Nat.le_of_ble_eq_true rfl)⟩ ?_
      refine r_w (w' := WM cy ba ra hf hq kn (nI 0) sm ++ Y) rfl ?_
      refine r_ifN_eq (a := 0) (tgt := 39) C (by omega) dX4_insert_34 (by decide) (fun h34_3 => ?_) (fun h34_3 => ?_)
      · skip
        refine r_iload_n C dX4_insert_39 rfl ?_
        refine r_iconst (v := (nI 0)) C dX4_insert_40 (by decide) ?_
        refine r_aload_n C dX4_insert_41 rfl ?_
        refine r_iload_n C dX4_insert_42 rfl ?_
        refine d_V (st := [.int (nI 0), .int y0]) hX.1.stb C hE (D_sizeOf (ba := ba) (ra := ra) (hf := hf) (hq := hq) (kn := kn) (th := (nI 0)) (sm := sm) (Y := Y) (w := w) hX (by omega)) pk_X4_sizeOf qm_X4_59 0 8 rfl rfl wm_0 rfl rfl (Nat.le_of_ble_eq_true rfl) dX4_insert_43 ⟨(Nat.le_of_ble_eq_true rfl), (Nat.le_of_ble_eq_true rfl)⟩ ⟨(Nat.le_of_ble_eq_true rfl), (Nat.le_of_ble_eq_true rfl)⟩ ?_
        refine r_w (w' := WM cy ba ra hf hq kn (nI 0) sm ++ Y) rfl ?_
        refine d_S (st := []) hX.1.stb C hE (D_isIn0 (ba := ba) (ra := ra) (hf := hf) (hq := hq) (kn := kn) (th := (nI 0)) (sm := sm) (Y := Y) (x := (y0)) (y := ((nI 0))) (z := ((nI (hf 4 w)))) hX (by rw [qw.1]; exact hno)) pk_X4_isIn qm_X4_1 rfl rfl (Nat.le_of_ble_eq_true rfl) dX4_insert_46 ⟨(Nat.le_of_ble_eq_true rfl), (Nat.le_of_ble_eq_true rfl)⟩ ⟨(Nat.le_of_ble_eq_true rfl), (Nat.le_of_ble_eq_true rfl)⟩ ?_
        refine r_w (w' := WM cy ba ra hf hq kn (nI 0) sm ++ Y) rfl ?_
        refine r_ifN_ne (a := 0) (tgt := 55) C (by omega) dX4_insert_49 (by decide) (fun h49_4 => ?_) (fun h49_4 => ?_)
        · exact absurd h49_4 (by omega)
        · skip
          refine r_bipush (v := (nI 4294967287)) C dX4_insert_52 (by decide) ?_
          exact r_iret C hr dX4_insert_54 ⟨rfl, rfl⟩ (Nat.le_of_ble_eq_true rfl) (Nat.le_of_ble_eq_true rfl)
      · exact absurd h34_3 (by omega)
    · exact absurd h23_2 (by omega)
theorem dX4_insert_55 : decode cX4_insert 55 = .ok (.aload_n 0, 1) := dqo_42 (kb_X4_insert_0 55 rfl)
theorem dX4_insert_56 : decode cX4_insert 56 = .ok (.iload_n 1, 1) := dqo_27 (kb_X4_insert_0 56 rfl)
theorem dX4_insert_57 : decode cX4_insert 57 = .ok (.iconst (-1), 1) := dqo_2 (kb_X4_insert_0 57 rfl)
theorem dX4_insert_58 : decode cX4_insert 58 = .ok (.invokevirtual 74, 3) := dqo_182 0 74 (kb_X4_insert_0 58 rfl) (kb_X4_insert_0 59 rfl) (kb_X4_insert_0 60 rfl)
theorem dX4_insert_61 : decode cX4_insert 61 = .ok (.aload_n 0, 1) := dqo_42 (kb_X4_insert_0 61 rfl)
theorem dX4_insert_62 : decode cX4_insert 62 = .ok (.iload_n 1, 1) := dqo_27 (kb_X4_insert_0 62 rfl)
theorem dX4_insert_63 : decode cX4_insert 63 = .ok (.iload_n 2, 1) := dqo_28 (kb_X4_insert_0 63 rfl)
theorem dX4_insert_64 : decode cX4_insert 64 = .ok (.iconst 0, 1) := dqo_3 (kb_X4_insert_1 0 rfl)
theorem dX4_insert_65 : decode cX4_insert 65 = .ok (.iconst 1, 1) := dqo_4 (kb_X4_insert_1 1 rfl)
theorem dX4_insert_66 : decode cX4_insert 66 = .ok (.newarray .int, 2) := dqo_188_10 (kb_X4_insert_1 2 rfl) (kb_X4_insert_1 3 rfl)
theorem dX4_insert_68 : decode cX4_insert 68 = .ok (.dup, 1) := dqo_89 (kb_X4_insert_1 4 rfl)
theorem dX4_insert_69 : decode cX4_insert 69 = .ok (.iconst 0, 1) := dqo_3 (kb_X4_insert_1 5 rfl)
theorem dX4_insert_70 : decode cX4_insert 70 = .ok (.iload_n 3, 1) := dqo_29 (kb_X4_insert_1 6 rfl)
theorem dX4_insert_71 : decode cX4_insert 71 = .ok (.iastore, 1) := dqo_79 (kb_X4_insert_1 7 rfl)
theorem dX4_insert_72 : decode cX4_insert 72 = .ok (.invokevirtual 88, 3) := dqo_182 0 88 (kb_X4_insert_1 8 rfl) (kb_X4_insert_1 9 rfl) (kb_X4_insert_1 10 rfl)
theorem dX4_insert_75 : decode cX4_insert 75 = .ok (.aload_n 0, 1) := dqo_42 (kb_X4_insert_1 11 rfl)
theorem dX4_insert_76 : decode cX4_insert 76 = .ok (.iload_n 1, 1) := dqo_27 (kb_X4_insert_1 12 rfl)
theorem dX4_insert_77 : decode cX4_insert 77 = .ok (.invokevirtual 59, 3) := dqo_182 0 59 (kb_X4_insert_1 13 rfl) (kb_X4_insert_1 14 rfl) (kb_X4_insert_1 15 rfl)
theorem dX4_insert_80 : decode cX4_insert 80 = .ok (.ireturn, 1) := dqo_172 (kb_X4_insert_1 16 rfl)
set_option maxRecDepth 100000 in
set_option maxHeartbeats 4000000 in
theorem D_insert_ok {l : Launch} {D : va_G} {cy : Nat → ClassId} {X : (Nat → Prop) → State → Heap → Prop} {ba ra : Nat → Nat} {hf : Nat → Nat → Nat} {hq : Nat → Nat → Int32} {kn th : Int32} {sm : Int64} {Y : va_W} {f : Nat → Nat → Nat} {r : Nat → Nat → Int32} {w : Nat} {k0 : Nat} {y : Int32} (hX : EnvM X cy) (hC : CInv f) (hM : MR f r hf hq) (hw : w < 8) (h5w : f 5 w = 1) (ho : okI y) (hroom : f 4 (f 1 w) < 12) (hk : k0 ≤ f 4 w) : Cm l D cy X yX4_insert cX4_insert 4 (some .int) (rmk 9 4 48 420) [.ref (ba 9), .int (nI w), .int (nI k0), .int y] (WM cy ba ra hf hq kn th sm ++ Y) (fun v1 w1 => ∃ ra9 : Nat → Nat, v1 = some (.int (nI ((lyM f (up2 (chM f hf w 4294967295) 4 (f 1 w) ((chM f hf w 4294967295) 4 (f 1 w) - 0 + 1)) w 1 0) 4 w))) ∧ w1 = WM cy ba ra9 (lyM f (up2 (chM f hf w 4294967295) 4 (f 1 w) ((chM f hf w 4294967295) 4 (f 1 w) - 0 + 1)) w 1 0) (upR hq (f 1 w) (layF (hq (f 1 w)) (upd (fun _ => 0) 0 y) (f 3 w + k0) 1 0 ((chM f hf w 4294967295) 4 (f 1 w) - 0 + 1))) kn (nI 0) sm ++ Y) (fun _ => False) := by
  have hG := hM.1
  have h5M := hM.h5M hC
  have h4M := hC.h4M
  have h9a := hM.h9a hC
  have h6a := hM.h6a
  have hU := hM.hU hC
  have qw := hM.wh hC hw h5w
  refine Cm.of [some (.ref (ba 9)), some (.int (nI w)), some (.int (nI k0)), some (.int y)] pn_X4 rfl (Nat.le_of_ble_eq_true rfl) ?_
  intro p e s m args below meth c A C hE hr hnt hn
  refine r_aload_n C dX4_insert_0 rfl ?_
  refine r_aload_n C dX4_insert_1 rfl ?_
  refine r_iload_n C dX4_insert_2 rfl ?_
  refine d_V (st := [.ref (ba 9)]) hX.1.stb C hE (D_isNoWhere0 (ba := ba) (ra := ra) (hf := hf) (hq := hq) (kn := kn) (th := th) (sm := sm) (Y := Y) (w := w) hX (by omega) (by omega)) pk_X4_isNoWhere qm_X4_55 0 8 rfl rfl wm_0 rfl rfl (Nat.le_of_ble_eq_true rfl) dX4_insert_3 ⟨(Nat.le_of_ble_eq_true rfl), (Nat.le_of_ble_eq_true rfl)⟩ ⟨(Nat.le_of_ble_eq_true rfl), (Nat.le_of_ble_eq_true rfl)⟩ ?_
  refine r_w (w' := WM cy ba ra hf hq kn th sm ++ Y) rfl ?_
  refine r_iload_n C dX4_insert_6 rfl ?_
  refine d_S (st := [.int (nI 0), .ref (ba 9)]) hX.1.stb C hE (D_isNoItem0 (ba := ba) (ra := ra) (hf := hf) (hq := hq) (kn := kn) (th := th) (sm := sm) (Y := Y) (y := (y)) hX ho) pk_X4_isNoItem qm_X4_78 rfl rfl (Nat.le_of_ble_eq_true rfl) dX4_insert_7 ⟨(Nat.le_of_ble_eq_true rfl), (Nat.le_of_ble_eq_true rfl)⟩ ⟨(Nat.le_of_ble_eq_true rfl), (Nat.le_of_ble_eq_true rfl)⟩ ?_
  refine r_w (w' := WM cy ba ra hf hq kn th sm ++ Y) rfl ?_
  refine r_aload_n C dX4_insert_10 rfl ?_
  refine r_iload_n C dX4_insert_11 rfl ?_
  refine d_V (st := [.int (nI 0), .int (nI 0), .ref (ba 9)]) hX.1.stb C hE (D_isNoWhere0 (ba := ba) (ra := ra) (hf := hf) (hq := hq) (kn := kn) (th := th) (sm := sm) (Y := Y) (w := w) hX (by omega) (by omega)) pk_X4_isNoWhere qm_X4_55 0 8 rfl rfl wm_0 rfl rfl (Nat.le_of_ble_eq_true rfl) dX4_insert_12 ⟨(Nat.le_of_ble_eq_true rfl), (Nat.le_of_ble_eq_true rfl)⟩ ⟨(Nat.le_of_ble_eq_true rfl), (Nat.le_of_ble_eq_true rfl)⟩ ?_
  refine r_w (w' := WM cy ba ra hf hq kn th sm ++ Y) rfl ?_
  refine r_ifN_ne (a := 0) (tgt := 30) C (by omega) dX4_insert_15 (by decide) (fun h15_1 => ?_) (fun h15_1 => ?_)
  · exact absurd h15_1 (by omega)
  · skip
    refine r_aload_n C dX4_insert_18 rfl ?_
    refine r_iload_n C dX4_insert_19 rfl ?_
    refine d_V (st := [.int (nI 0), .int (nI 0), .ref (ba 9)]) hX.1.stb C hE (D_isFull0 (ba := ba) (ra := ra) (hf := hf) (hq := hq) (kn := kn) (th := th) (sm := sm) (Y := Y) (f := f) (w := w) hX hC (MG.same (fun _ => rfl) (fun _ => rfl) hG) (by omega) (by omega) (by omega)) pk_X4_isFull qm_X4_81 0 8 rfl rfl wm_0 rfl rfl (Nat.le_of_ble_eq_true rfl) dX4_insert_20 ⟨(Nat.le_of_ble_eq_true rfl), (Nat.le_of_ble_eq_true rfl)⟩ ⟨(Nat.le_of_ble_eq_true rfl), (Nat.le_of_ble_eq_true rfl)⟩ ?_
    refine r_w (w' := WM cy ba ra hf hq kn th sm ++ Y) rfl ?_
    refine r_ifN_eq (a := 0) (tgt := 30) C (by omega) dX4_insert_23 (by decide) (fun h23_2 => ?_) (fun h23_2 => ?_)
    · skip
      refine r_iconst (v := (nI 0)) C dX4_insert_30 (by decide) ?_
      refine d_V (st := []) hX.1.stb C hE (D_fails0 (ba := ba) (ra := ra) (hf := hf) (hq := hq) (kn := kn) (th := th) (sm := sm) (Y := Y)  hX ) pk_X4_fails qm_X4_84 0 8 rfl rfl wm_0 rfl rfl (Nat.le_of_ble_eq_true rfl) dX4_insert_31 ⟨(Nat.le_of_ble_eq_true rfl), (Nat.le_of_ble_eq_true rfl)⟩ ⟨(Nat.le_of_ble_eq_true rfl), (Nat.le_of_ble_eq_true rfl)⟩ ?_
      refine r_w (w' := WM cy ba ra hf hq kn (nI 0) sm ++ Y) rfl ?_
      refine r_ifN_eq (a := 0) (tgt := 39) C (by omega) dX4_insert_34 (by decide) (fun h34_3 => ?_) (fun h34_3 => ?_)
      · skip
        refine r_iload_n C dX4_insert_39 rfl ?_
        refine r_iconst (v := (nI 0)) C dX4_insert_40 (by decide) ?_
        refine r_aload_n C dX4_insert_41 rfl ?_
        refine r_iload_n C dX4_insert_42 rfl ?_
        refine d_V (st := [.int (nI 0), .int (nI k0)]) hX.1.stb C hE (D_sizeOf (ba := ba) (ra := ra) (hf := hf) (hq := hq) (kn := kn) (th := (nI 0)) (sm := sm) (Y := Y) (w := w) hX (by omega)) pk_X4_sizeOf qm_X4_59 0 8 rfl rfl wm_0 rfl rfl (Nat.le_of_ble_eq_true rfl) dX4_insert_43 ⟨(Nat.le_of_ble_eq_true rfl), (Nat.le_of_ble_eq_true rfl)⟩ ⟨(Nat.le_of_ble_eq_true rfl), (Nat.le_of_ble_eq_true rfl)⟩ ?_
        refine r_w (w' := WM cy ba ra hf hq kn (nI 0) sm ++ Y) rfl ?_
        refine d_S (st := []) hX.1.stb C hE (D_isInN (ba := ba) (ra := ra) (hf := hf) (hq := hq) (kn := kn) (th := (nI 0)) (sm := sm) (Y := Y) (a0 := k0) (b0 := 0) (d0 := (hf 4 w)) hX (by omega) (by omega) (by omega)) pk_X4_isIn qm_X4_1 rfl rfl (Nat.le_of_ble_eq_true rfl) dX4_insert_46 ⟨(Nat.le_of_ble_eq_true rfl), (Nat.le_of_ble_eq_true rfl)⟩ ⟨(Nat.le_of_ble_eq_true rfl), (Nat.le_of_ble_eq_true rfl)⟩ ?_
        refine r_w (w' := WM cy ba ra hf hq kn (nI 0) sm ++ Y) rfl ?_
        refine r_ifN_ne (a := 1) (tgt := 55) C (by omega) dX4_insert_49 (by decide) (fun h49_4 => ?_) (fun h49_4 => ?_)
        · skip
          refine r_aload_n C dX4_insert_55 rfl ?_
          refine r_iload_n C dX4_insert_56 rfl ?_
          refine r_iconst (v := (nI 4294967295)) C dX4_insert_57 (by decide) ?_
          refine d_Vv (st := []) hX.1.stb C hE (D_changed (ba := ba) (ra := ra) (hf := hf) (hq := hq) (kn := kn) (th := (nI 0)) (sm := sm) (Y := Y) (f := f) (w := w) (d0 := 4294967295) hX hC (MG.same (fun _ => rfl) (fun _ => rfl) hG) (by omega) (by omega) (by omega) h5M h9a hU) pk_X4_changed qm_X4_74 0 8 rfl rfl wm_0 rfl rfl (Nat.le_of_ble_eq_true rfl) dX4_insert_58 ⟨(Nat.le_of_ble_eq_true rfl), (Nat.le_of_ble_eq_true rfl)⟩ ⟨(Nat.le_of_ble_eq_true rfl), (Nat.le_of_ble_eq_true rfl)⟩ ?_
          refine r_w (w' := WM cy ba ra (chM f hf w 4294967295) hq kn (nI 0) sm ++ Y) rfl ?_
          refine r_aload_n C dX4_insert_61 rfl ?_
          refine r_iload_n C dX4_insert_62 rfl ?_
          refine r_iload_n C dX4_insert_63 rfl ?_
          refine r_iconst (v := (nI 0)) C dX4_insert_64 (by decide) ?_
          refine r_iconst (v := (nI 1)) C dX4_insert_65 (by decide) ?_
          refine r_newT C .int .int 1 rfl (by simp) qa_int (n := 1) (show 1 < 1000000 from Nat.lt_of_le_of_lt (show 1 ≤ 1 from by omega) (by decide)) (2) (5) (Nat.le_of_ble_eq_true rfl) (Nat.add_le_add (Nat.le_refl _) (show 1 ≤ 1 from by omega)) (Nat.le_of_ble_eq_true rfl) (Nat.le_of_ble_eq_true rfl) dX4_insert_66 (fun b_5 => ?_)
          refine r_w (w' := WM cy ba ra (chM f hf w 4294967295) hq kn (nI 0) sm ++ (Y ++ [(b_5, .inl (cy 1, 1, .inl (fun _ => 0)))])) (by simp only [List.append_assoc, List.cons_append, List.nil_append]) ?_
          refine r_dup C dX4_insert_68 rfl ?_
          refine r_iconst (v := (nI 0)) C dX4_insert_69 (by decide) ?_
          refine r_iload_n C dX4_insert_70 rfl ?_
          refine x_ast C (i := 0) (f := fun _ => 0) (E' := [(b_5, .inl (cy 1, 1, .inl (upd (fun _ => 0) 0 y)))]) 0 rfl (by omega) (by omega) rfl dX4_insert_71 ?_
          refine e_V (st := []) hX.1.stb C hE (D_lay (ba := ba) (ra := ra) (hf := (chM f hf w 4294967295)) (hq := hq) (kn := kn) (th := (nI 0)) (sm := sm) (f := f) (w := w) (p0 := k0) (o0 := 0) (b0 := b_5) (n0 := 1) (g0 := (upd (fun _ => 0) 0 y)) (j0 := (Y.length + 0)) hX hC (MG.same (fun _ => rfl) (fun _ => rfl) hG) (by omega) (by omega) (show f 3 w + k0 + 0 ≤ (hf 4 (f 1 w)) from (by omega)) (show (hf 4 (f 1 w)) ≤ 12 from (by omega)) (show (hf 4 (f 1 w)) - 0 + 1 ≤ 12 from (by omega)) (fun x hx hh => (show 0 ≤ hf 4 x + 1 from by have h8 := hM.ho hC hw h5w hx hh; omega)) ((ya_x 0).trans rfl)) pk_X4_lay qm_X4_88 0 8 rfl rfl wm_0 rfl rfl (Nat.le_of_ble_eq_true rfl) dX4_insert_72 ⟨(Nat.le_of_ble_eq_true rfl), (Nat.le_of_ble_eq_true rfl)⟩ ⟨(Nat.le_of_ble_eq_true rfl), (Nat.le_of_ble_eq_true rfl)⟩ (fun ra_6 => ?_)
          refine r_w (w' := WM cy ba ra_6 (lyM f (up2 (chM f hf w 4294967295) 4 (f 1 w) ((chM f hf w 4294967295) 4 (f 1 w) - 0 + 1)) w 1 0) (upR hq (f 1 w) (layF (hq (f 1 w)) (upd (fun _ => 0) 0 y) (f 3 w + k0) 1 0 ((chM f hf w 4294967295) 4 (f 1 w) - 0 + 1))) kn (nI 0) sm ++ (Y ++ [(b_5, .inl (cy 1, 1, .inl (upd (fun _ => 0) 0 y)))])) rfl ?_
          refine r_st (st' := []) rfl ?_
          refine r_aload_n C dX4_insert_75 rfl ?_
          refine r_iload_n C dX4_insert_76 rfl ?_
          refine d_V (st := []) hX.1.stb C hE (D_sizeOf (ba := ba) (ra := ra_6) (hf := (lyM f (up2 (chM f hf w 4294967295) 4 (f 1 w) ((chM f hf w 4294967295) 4 (f 1 w) - 0 + 1)) w 1 0)) (hq := (upR hq (f 1 w) (layF (hq (f 1 w)) (upd (fun _ => 0) 0 y) (f 3 w + k0) 1 0 ((chM f hf w 4294967295) 4 (f 1 w) - 0 + 1)))) (kn := kn) (th := (nI 0)) (sm := sm) (w := w) hX (by omega)) pk_X4_sizeOf qm_X4_59 0 8 rfl rfl wm_0 rfl rfl (Nat.le_of_ble_eq_true rfl) dX4_insert_77 ⟨(Nat.le_of_ble_eq_true rfl), (Nat.le_of_ble_eq_true rfl)⟩ ⟨(Nat.le_of_ble_eq_true rfl), (Nat.le_of_ble_eq_true rfl)⟩ ?_
          refine r_w (w' := WM cy ba ra_6 (lyM f (up2 (chM f hf w 4294967295) 4 (f 1 w) ((chM f hf w 4294967295) 4 (f 1 w) - 0 + 1)) w 1 0) (upR hq (f 1 w) (layF (hq (f 1 w)) (upd (fun _ => 0) 0 y) (f 3 w + k0) 1 0 ((chM f hf w 4294967295) 4 (f 1 w) - 0 + 1))) kn (nI 0) sm ++ (Y ++ [(b_5, .inl (cy 1, 1, .inl (upd (fun _ => 0) 0 y)))])) rfl ?_
          refine r_pre ?_
          exact r_iret C hr dX4_insert_80 ⟨_, rfl, rfl⟩ (Nat.le_of_ble_eq_true rfl) (Nat.le_of_ble_eq_true rfl)
        · exact absurd h49_4 (by omega)
      · exact absurd h34_3 (by omega)
    · exact absurd h23_2 (by omega)
theorem pk_X4_isNoPlace : PkV RX4 yX4_isNoPlace cX4_isNoPlace 3 (some .boolean) 2 := ⟨⟨qi_X4_isNoPlace, qs_X4_isNoPlace, qz_X4, qc_X4_isNoPlace⟩, rfl, mh_X4.1, mh_X4.2, pd_5⟩
theorem dX4_set_0 : decode cX4_set 0 = .ok (.aload_n 0, 1) := dqo_42 (kb_of ke_X4_set 0 rfl)
theorem dX4_set_1 : decode cX4_set 1 = .ok (.aload_n 0, 1) := dqo_42 (kb_of ke_X4_set 1 rfl)
theorem dX4_set_2 : decode cX4_set 2 = .ok (.iload_n 1, 1) := dqo_27 (kb_of ke_X4_set 2 rfl)
theorem dX4_set_3 : decode cX4_set 3 = .ok (.iload_n 2, 1) := dqo_28 (kb_of ke_X4_set 3 rfl)
theorem dX4_set_4 : decode cX4_set 4 = .ok (.invokevirtual 92, 3) := dqo_182 0 92 (kb_of ke_X4_set 4 rfl) (kb_of ke_X4_set 5 rfl) (kb_of ke_X4_set 6 rfl)
theorem dX4_set_7 : decode cX4_set 7 = .ok (.iload_n 3, 1) := dqo_29 (kb_of ke_X4_set 7 rfl)
theorem dX4_set_8 : decode cX4_set 8 = .ok (.invokestatic 78, 3) := dqo_184 0 78 (kb_of ke_X4_set 8 rfl) (kb_of ke_X4_set 9 rfl) (kb_of ke_X4_set 10 rfl)
theorem dX4_set_11 : decode cX4_set 11 = .ok (.iconst 0, 1) := dqo_3 (kb_of ke_X4_set 11 rfl)
theorem dX4_set_12 : decode cX4_set 12 = .ok (.invokevirtual 84, 3) := dqo_182 0 84 (kb_of ke_X4_set 12 rfl) (kb_of ke_X4_set 13 rfl) (kb_of ke_X4_set 14 rfl)
theorem dX4_set_15 : decode cX4_set 15 = .ok (.ifCond .eq 5, 3) := dqo_153 0 5 (by decide) (kb_of ke_X4_set 15 rfl) (kb_of ke_X4_set 16 rfl) (kb_of ke_X4_set 17 rfl)
theorem dX4_set_18 : decode cX4_set 18 = .ok (.iconst 0, 1) := dqo_3 (kb_of ke_X4_set 18 rfl)
theorem dX4_set_19 : decode cX4_set 19 = .ok (.ireturn, 1) := dqo_172 (kb_of ke_X4_set 19 rfl)
set_option maxRecDepth 100000 in
set_option maxHeartbeats 4000000 in
theorem D_set_noW {l : Launch} {D : va_G} {cy : Nat → ClassId} {X : (Nat → Prop) → State → Heap → Prop} {ba ra : Nat → Nat} {hf : Nat → Nat → Nat} {hq : Nat → Nat → Int32} {kn th : Int32} {sm : Int64} {Y : va_W} {f : Nat → Nat → Nat} {r : Nat → Nat → Int32} {x : Int32} {y0 : Int32} {y : Int32} (hX : EnvM X cy) (hC : CInv f) (hM : MR f r hf hq) (hno : noW f x) : Cd l D cy X yX4_set cX4_set 5 (some .int) (rmk 9 4 48 420) [.ref (ba 9), .int x, .int y0, .int y] (WM cy ba ra hf hq kn th sm ++ Y) (some (.int (nI 0))) (WM cy ba ra hf hq kn (nI 1) sm ++ Y) := by
  have hG := hM.1
  have h5M := hM.h5M hC
  have h4M := hC.h4M
  have h9a := hM.h9a hC
  have h6a := hM.h6a
  have hU := hM.hU hC
  refine Cm.of [some (.ref (ba 9)), some (.int x), some (.int y0), some (.int y), none] pn_X4 rfl (Nat.le_of_ble_eq_true rfl) ?_
  intro p e s m args below meth c A C hE hr hnt hn
  refine r_aload_n C dX4_set_0 rfl ?_
  refine r_aload_n C dX4_set_1 rfl ?_
  refine r_iload_n C dX4_set_2 rfl ?_
  refine r_iload_n C dX4_set_3 rfl ?_
  refine d_V (st := [.ref (ba 9)]) hX.1.stb C hE (D_isNoPlace1w (ba := ba) (ra := ra) (hf := hf) (hq := hq) (kn := kn) (th := th) (sm := sm) (Y := Y) (f := f) (x := (x)) (y := (y0)) hX h5M h4M hno) pk_X4_isNoPlace qm_X4_92 0 8 rfl rfl wm_0 rfl rfl (Nat.le_of_ble_eq_true rfl) dX4_set_4 ⟨(Nat.le_of_ble_eq_true rfl), (Nat.le_of_ble_eq_true rfl)⟩ ⟨(Nat.le_of_ble_eq_true rfl), (Nat.le_of_ble_eq_true rfl)⟩ ?_
  refine r_w (w' := WM cy ba ra hf hq kn th sm ++ Y) rfl ?_
  refine r_iload_n C dX4_set_7 rfl ?_
  refine d_S (st := [.int (nI 1), .ref (ba 9)]) hX.1.stb C hE (D_isNoItemX (ba := ba) (ra := ra) (hf := hf) (hq := hq) (kn := kn) (th := th) (sm := sm) (Y := Y) (y := (y)) hX ) pk_X4_isNoItem qm_X4_78 rfl rfl (Nat.le_of_ble_eq_true rfl) dX4_set_8 ⟨(Nat.le_of_ble_eq_true rfl), (Nat.le_of_ble_eq_true rfl)⟩ ⟨(Nat.le_of_ble_eq_true rfl), (Nat.le_of_ble_eq_true rfl)⟩ ?_
  refine r_w (w' := WM cy ba ra hf hq kn th sm ++ Y) rfl ?_
  refine r_iconst (v := (nI 0)) C dX4_set_11 (by decide) ?_
  refine d_V (st := []) hX.1.stb C hE (D_fails1 (ba := ba) (ra := ra) (hf := hf) (hq := hq) (kn := kn) (th := th) (sm := sm) (Y := Y) (b0 := (niF (y))) (d0 := 0) hX ) pk_X4_fails qm_X4_84 0 8 rfl rfl wm_0 rfl rfl (Nat.le_of_ble_eq_true rfl) dX4_set_12 ⟨(Nat.le_of_ble_eq_true rfl), (Nat.le_of_ble_eq_true rfl)⟩ ⟨(Nat.le_of_ble_eq_true rfl), (Nat.le_of_ble_eq_true rfl)⟩ ?_
  refine r_w (w' := WM cy ba ra hf hq kn (nI 1) sm ++ Y) rfl ?_
  refine r_ifN_eq (a := 1) (tgt := 20) C (by omega) dX4_set_15 (by decide) (fun h15_1 => ?_) (fun h15_1 => ?_)
  · exact absurd h15_1 (by omega)
  · skip
    refine r_iconst (v := (nI 0)) C dX4_set_18 (by decide) ?_
    exact r_iret C hr dX4_set_19 ⟨rfl, rfl⟩ (Nat.le_of_ble_eq_true rfl) (Nat.le_of_ble_eq_true rfl)
set_option maxRecDepth 100000 in
set_option maxHeartbeats 4000000 in
theorem D_set_noP {l : Launch} {D : va_G} {cy : Nat → ClassId} {X : (Nat → Prop) → State → Heap → Prop} {ba ra : Nat → Nat} {hf : Nat → Nat → Nat} {hq : Nat → Nat → Int32} {kn th : Int32} {sm : Int64} {Y : va_W} {f : Nat → Nat → Nat} {r : Nat → Nat → Int32} {w : Nat} {y0 : Int32} {y : Int32} (hX : EnvM X cy) (hC : CInv f) (hM : MR f r hf hq) (hw : w < 8) (h5w : f 5 w = 1) (hno : ¬ (0 ≤ y0 ∧ y0 < nI (f 4 w))) : Cd l D cy X yX4_set cX4_set 5 (some .int) (rmk 9 4 48 420) [.ref (ba 9), .int (nI w), .int y0, .int y] (WM cy ba ra hf hq kn th sm ++ Y) (some (.int (nI 0))) (WM cy ba ra hf hq kn (nI 1) sm ++ Y) := by
  have hG := hM.1
  have h5M := hM.h5M hC
  have h4M := hC.h4M
  have h9a := hM.h9a hC
  have h6a := hM.h6a
  have hU := hM.hU hC
  have qw := hM.wh hC hw h5w
  refine Cm.of [some (.ref (ba 9)), some (.int (nI w)), some (.int y0), some (.int y), none] pn_X4 rfl (Nat.le_of_ble_eq_true rfl) ?_
  intro p e s m args below meth c A C hE hr hnt hn
  refine r_aload_n C dX4_set_0 rfl ?_
  refine r_aload_n C dX4_set_1 rfl ?_
  refine r_iload_n C dX4_set_2 rfl ?_
  refine r_iload_n C dX4_set_3 rfl ?_
  refine d_V (st := [.ref (ba 9)]) hX.1.stb C hE (D_isNoPlace1 (ba := ba) (ra := ra) (hf := hf) (hq := hq) (kn := kn) (th := th) (sm := sm) (Y := Y) (w := w) (y := (y0)) hX (by omega) (by omega) (by omega) (by rw [qw.1]; exact hno)) pk_X4_isNoPlace qm_X4_92 0 8 rfl rfl wm_0 rfl rfl (Nat.le_of_ble_eq_true rfl) dX4_set_4 ⟨(Nat.le_of_ble_eq_true rfl), (Nat.le_of_ble_eq_true rfl)⟩ ⟨(Nat.le_of_ble_eq_true rfl), (Nat.le_of_ble_eq_true rfl)⟩ ?_
  refine r_w (w' := WM cy ba ra hf hq kn th sm ++ Y) rfl ?_
  refine r_iload_n C dX4_set_7 rfl ?_
  refine d_S (st := [.int (nI 1), .ref (ba 9)]) hX.1.stb C hE (D_isNoItemX (ba := ba) (ra := ra) (hf := hf) (hq := hq) (kn := kn) (th := th) (sm := sm) (Y := Y) (y := (y)) hX ) pk_X4_isNoItem qm_X4_78 rfl rfl (Nat.le_of_ble_eq_true rfl) dX4_set_8 ⟨(Nat.le_of_ble_eq_true rfl), (Nat.le_of_ble_eq_true rfl)⟩ ⟨(Nat.le_of_ble_eq_true rfl), (Nat.le_of_ble_eq_true rfl)⟩ ?_
  refine r_w (w' := WM cy ba ra hf hq kn th sm ++ Y) rfl ?_
  refine r_iconst (v := (nI 0)) C dX4_set_11 (by decide) ?_
  refine d_V (st := []) hX.1.stb C hE (D_fails1 (ba := ba) (ra := ra) (hf := hf) (hq := hq) (kn := kn) (th := th) (sm := sm) (Y := Y) (b0 := (niF (y))) (d0 := 0) hX ) pk_X4_fails qm_X4_84 0 8 rfl rfl wm_0 rfl rfl (Nat.le_of_ble_eq_true rfl) dX4_set_12 ⟨(Nat.le_of_ble_eq_true rfl), (Nat.le_of_ble_eq_true rfl)⟩ ⟨(Nat.le_of_ble_eq_true rfl), (Nat.le_of_ble_eq_true rfl)⟩ ?_
  refine r_w (w' := WM cy ba ra hf hq kn (nI 1) sm ++ Y) rfl ?_
  refine r_ifN_eq (a := 1) (tgt := 20) C (by omega) dX4_set_15 (by decide) (fun h15_1 => ?_) (fun h15_1 => ?_)
  · exact absurd h15_1 (by omega)
  · skip
    refine r_iconst (v := (nI 0)) C dX4_set_18 (by decide) ?_
    exact r_iret C hr dX4_set_19 ⟨rfl, rfl⟩ (Nat.le_of_ble_eq_true rfl) (Nat.le_of_ble_eq_true rfl)
theorem dX4_remove_0 : decode cX4_remove 0 = .ok (.aload_n 0, 1) := dqo_42 (kb_of ke_X4_remove 0 rfl)
theorem dX4_remove_1 : decode cX4_remove 1 = .ok (.aload_n 0, 1) := dqo_42 (kb_of ke_X4_remove 1 rfl)
theorem dX4_remove_2 : decode cX4_remove 2 = .ok (.iload_n 1, 1) := dqo_27 (kb_of ke_X4_remove 2 rfl)
theorem dX4_remove_3 : decode cX4_remove 3 = .ok (.iload_n 2, 1) := dqo_28 (kb_of ke_X4_remove 3 rfl)
theorem dX4_remove_4 : decode cX4_remove 4 = .ok (.invokevirtual 92, 3) := dqo_182 0 92 (kb_of ke_X4_remove 4 rfl) (kb_of ke_X4_remove 5 rfl) (kb_of ke_X4_remove 6 rfl)
theorem dX4_remove_7 : decode cX4_remove 7 = .ok (.iconst 0, 1) := dqo_3 (kb_of ke_X4_remove 7 rfl)
theorem dX4_remove_8 : decode cX4_remove 8 = .ok (.iconst 0, 1) := dqo_3 (kb_of ke_X4_remove 8 rfl)
theorem dX4_remove_9 : decode cX4_remove 9 = .ok (.invokevirtual 84, 3) := dqo_182 0 84 (kb_of ke_X4_remove 9 rfl) (kb_of ke_X4_remove 10 rfl) (kb_of ke_X4_remove 11 rfl)
theorem dX4_remove_12 : decode cX4_remove 12 = .ok (.ifCond .eq 5, 3) := dqo_153 0 5 (by decide) (kb_of ke_X4_remove 12 rfl) (kb_of ke_X4_remove 13 rfl) (kb_of ke_X4_remove 14 rfl)
theorem dX4_remove_15 : decode cX4_remove 15 = .ok (.iconst 0, 1) := dqo_3 (kb_of ke_X4_remove 15 rfl)
theorem dX4_remove_16 : decode cX4_remove 16 = .ok (.ireturn, 1) := dqo_172 (kb_of ke_X4_remove 16 rfl)
set_option maxRecDepth 100000 in
set_option maxHeartbeats 4000000 in
theorem D_remove_noW {l : Launch} {D : va_G} {cy : Nat → ClassId} {X : (Nat → Prop) → State → Heap → Prop} {ba ra : Nat → Nat} {hf : Nat → Nat → Nat} {hq : Nat → Nat → Int32} {kn th : Int32} {sm : Int64} {Y : va_W} {f : Nat → Nat → Nat} {r : Nat → Nat → Int32} {x : Int32} {y0 : Int32} (hX : EnvM X cy) (hC : CInv f) (hM : MR f r hf hq) (hno : noW f x) : Cd l D cy X yX4_remove cX4_remove 4 (some .int) (rmk 9 4 48 420) [.ref (ba 9), .int x, .int y0] (WM cy ba ra hf hq kn th sm ++ Y) (some (.int (nI 0))) (WM cy ba ra hf hq kn (nI 1) sm ++ Y) := by
  have hG := hM.1
  have h5M := hM.h5M hC
  have h4M := hC.h4M
  have h9a := hM.h9a hC
  have h6a := hM.h6a
  have hU := hM.hU hC
  refine Cm.of [some (.ref (ba 9)), some (.int x), some (.int y0), none] pn_X4 rfl (Nat.le_of_ble_eq_true rfl) ?_
  intro p e s m args below meth c A C hE hr hnt hn
  refine r_aload_n C dX4_remove_0 rfl ?_
  refine r_aload_n C dX4_remove_1 rfl ?_
  refine r_iload_n C dX4_remove_2 rfl ?_
  refine r_iload_n C dX4_remove_3 rfl ?_
  refine d_V (st := [.ref (ba 9)]) hX.1.stb C hE (D_isNoPlace1w (ba := ba) (ra := ra) (hf := hf) (hq := hq) (kn := kn) (th := th) (sm := sm) (Y := Y) (f := f) (x := (x)) (y := (y0)) hX h5M h4M hno) pk_X4_isNoPlace qm_X4_92 0 8 rfl rfl wm_0 rfl rfl (Nat.le_of_ble_eq_true rfl) dX4_remove_4 ⟨(Nat.le_of_ble_eq_true rfl), (Nat.le_of_ble_eq_true rfl)⟩ ⟨(Nat.le_of_ble_eq_true rfl), (Nat.le_of_ble_eq_true rfl)⟩ ?_
  refine r_w (w' := WM cy ba ra hf hq kn th sm ++ Y) rfl ?_
  refine r_iconst (v := (nI 0)) C dX4_remove_7 (by decide) ?_
  refine r_iconst (v := (nI 0)) C dX4_remove_8 (by decide) ?_
  refine d_V (st := []) hX.1.stb C hE (D_fails1 (ba := ba) (ra := ra) (hf := hf) (hq := hq) (kn := kn) (th := th) (sm := sm) (Y := Y) (b0 := 0) (d0 := 0) hX ) pk_X4_fails qm_X4_84 0 8 rfl rfl wm_0 rfl rfl (Nat.le_of_ble_eq_true rfl) dX4_remove_9 ⟨(Nat.le_of_ble_eq_true rfl), (Nat.le_of_ble_eq_true rfl)⟩ ⟨(Nat.le_of_ble_eq_true rfl), (Nat.le_of_ble_eq_true rfl)⟩ ?_
  refine r_w (w' := WM cy ba ra hf hq kn (nI 1) sm ++ Y) rfl ?_
  refine r_ifN_eq (a := 1) (tgt := 17) C (by omega) dX4_remove_12 (by decide) (fun h12_1 => ?_) (fun h12_1 => ?_)
  · exact absurd h12_1 (by omega)
  · skip
    refine r_iconst (v := (nI 0)) C dX4_remove_15 (by decide) ?_
    exact r_iret C hr dX4_remove_16 ⟨rfl, rfl⟩ (Nat.le_of_ble_eq_true rfl) (Nat.le_of_ble_eq_true rfl)
set_option maxRecDepth 100000 in
set_option maxHeartbeats 4000000 in
theorem D_remove_noP {l : Launch} {D : va_G} {cy : Nat → ClassId} {X : (Nat → Prop) → State → Heap → Prop} {ba ra : Nat → Nat} {hf : Nat → Nat → Nat} {hq : Nat → Nat → Int32} {kn th : Int32} {sm : Int64} {Y : va_W} {f : Nat → Nat → Nat} {r : Nat → Nat → Int32} {w : Nat} {y0 : Int32} (hX : EnvM X cy) (hC : CInv f) (hM : MR f r hf hq) (hw : w < 8) (h5w : f 5 w = 1) (hno : ¬ (0 ≤ y0 ∧ y0 < nI (f 4 w))) : Cd l D cy X yX4_remove cX4_remove 4 (some .int) (rmk 9 4 48 420) [.ref (ba 9), .int (nI w), .int y0] (WM cy ba ra hf hq kn th sm ++ Y) (some (.int (nI 0))) (WM cy ba ra hf hq kn (nI 1) sm ++ Y) := by
  have hG := hM.1
  have h5M := hM.h5M hC
  have h4M := hC.h4M
  have h9a := hM.h9a hC
  have h6a := hM.h6a
  have hU := hM.hU hC
  have qw := hM.wh hC hw h5w
  refine Cm.of [some (.ref (ba 9)), some (.int (nI w)), some (.int y0), none] pn_X4 rfl (Nat.le_of_ble_eq_true rfl) ?_
  intro p e s m args below meth c A C hE hr hnt hn
  refine r_aload_n C dX4_remove_0 rfl ?_
  refine r_aload_n C dX4_remove_1 rfl ?_
  refine r_iload_n C dX4_remove_2 rfl ?_
  refine r_iload_n C dX4_remove_3 rfl ?_
  refine d_V (st := [.ref (ba 9)]) hX.1.stb C hE (D_isNoPlace1 (ba := ba) (ra := ra) (hf := hf) (hq := hq) (kn := kn) (th := th) (sm := sm) (Y := Y) (w := w) (y := (y0)) hX (by omega) (by omega) (by omega) (by rw [qw.1]; exact hno)) pk_X4_isNoPlace qm_X4_92 0 8 rfl rfl wm_0 rfl rfl (Nat.le_of_ble_eq_true rfl) dX4_remove_4 ⟨(Nat.le_of_ble_eq_true rfl), (Nat.le_of_ble_eq_true rfl)⟩ ⟨(Nat.le_of_ble_eq_true rfl), (Nat.le_of_ble_eq_true rfl)⟩ ?_
  refine r_w (w' := WM cy ba ra hf hq kn th sm ++ Y) rfl ?_
  refine r_iconst (v := (nI 0)) C dX4_remove_7 (by decide) ?_
  refine r_iconst (v := (nI 0)) C dX4_remove_8 (by decide) ?_
  refine d_V (st := []) hX.1.stb C hE (D_fails1 (ba := ba) (ra := ra) (hf := hf) (hq := hq) (kn := kn) (th := th) (sm := sm) (Y := Y) (b0 := 0) (d0 := 0) hX ) pk_X4_fails qm_X4_84 0 8 rfl rfl wm_0 rfl rfl (Nat.le_of_ble_eq_true rfl) dX4_remove_9 ⟨(Nat.le_of_ble_eq_true rfl), (Nat.le_of_ble_eq_true rfl)⟩ ⟨(Nat.le_of_ble_eq_true rfl), (Nat.le_of_ble_eq_true rfl)⟩ ?_
  refine r_w (w' := WM cy ba ra hf hq kn (nI 1) sm ++ Y) rfl ?_
  refine r_ifN_eq (a := 1) (tgt := 17) C (by omega) dX4_remove_12 (by decide) (fun h12_1 => ?_) (fun h12_1 => ?_)
  · exact absurd h12_1 (by omega)
  · skip
    refine r_iconst (v := (nI 0)) C dX4_remove_15 (by decide) ?_
    exact r_iret C hr dX4_remove_16 ⟨rfl, rfl⟩ (Nat.le_of_ble_eq_true rfl) (Nat.le_of_ble_eq_true rfl)
theorem dX4_get_0 : decode cX4_get 0 = .ok (.aload_n 0, 1) := dqo_42 (kb_of ke_X4_get 0 rfl)
theorem dX4_get_1 : decode cX4_get 1 = .ok (.aload_n 0, 1) := dqo_42 (kb_of ke_X4_get 1 rfl)
theorem dX4_get_2 : decode cX4_get 2 = .ok (.iload_n 1, 1) := dqo_27 (kb_of ke_X4_get 2 rfl)
theorem dX4_get_3 : decode cX4_get 3 = .ok (.iload_n 2, 1) := dqo_28 (kb_of ke_X4_get 3 rfl)
theorem dX4_get_4 : decode cX4_get 4 = .ok (.invokevirtual 92, 3) := dqo_182 0 92 (kb_of ke_X4_get 4 rfl) (kb_of ke_X4_get 5 rfl) (kb_of ke_X4_get 6 rfl)
theorem dX4_get_7 : decode cX4_get 7 = .ok (.iconst 0, 1) := dqo_3 (kb_of ke_X4_get 7 rfl)
theorem dX4_get_8 : decode cX4_get 8 = .ok (.iconst 0, 1) := dqo_3 (kb_of ke_X4_get 8 rfl)
theorem dX4_get_9 : decode cX4_get 9 = .ok (.invokevirtual 84, 3) := dqo_182 0 84 (kb_of ke_X4_get 9 rfl) (kb_of ke_X4_get 10 rfl) (kb_of ke_X4_get 11 rfl)
theorem dX4_get_12 : decode cX4_get 12 = .ok (.ifCond .eq 7, 3) := dqo_153 0 7 (by decide) (kb_of ke_X4_get 12 rfl) (kb_of ke_X4_get 13 rfl) (kb_of ke_X4_get 14 rfl)
theorem dX4_get_15 : decode cX4_get 15 = .ok (.iconst 0, 1) := dqo_3 (kb_of ke_X4_get 15 rfl)
theorem dX4_get_16 : decode cX4_get 16 = .ok (.goto 9, 3) := dqo_167 0 9 (by decide) (kb_of ke_X4_get 16 rfl) (kb_of ke_X4_get 17 rfl) (kb_of ke_X4_get 18 rfl)
theorem dX4_get_25 : decode cX4_get 25 = .ok (.ireturn, 1) := dqo_172 (kb_of ke_X4_get 25 rfl)
set_option maxRecDepth 100000 in
set_option maxHeartbeats 4000000 in
theorem D_get_noW {l : Launch} {D : va_G} {cy : Nat → ClassId} {X : (Nat → Prop) → State → Heap → Prop} {ba ra : Nat → Nat} {hf : Nat → Nat → Nat} {hq : Nat → Nat → Int32} {kn th : Int32} {sm : Int64} {Y : va_W} {f : Nat → Nat → Nat} {r : Nat → Nat → Int32} {x : Int32} {y0 : Int32} (hX : EnvM X cy) (hC : CInv f) (hM : MR f r hf hq) (hno : noW f x) : Cd l D cy X yX4_get cX4_get 3 (some .int) (rmk 9 4 48 420) [.ref (ba 9), .int x, .int y0] (WM cy ba ra hf hq kn th sm ++ Y) (some (.int (nI 0))) (WM cy ba ra hf hq kn (nI 1) sm ++ Y) := by
  have hG := hM.1
  have h5M := hM.h5M hC
  have h4M := hC.h4M
  have h9a := hM.h9a hC
  have h6a := hM.h6a
  have hU := hM.hU hC
  refine Cm.of [some (.ref (ba 9)), some (.int x), some (.int y0)] pn_X4 rfl (Nat.le_of_ble_eq_true rfl) ?_
  intro p e s m args below meth c A C hE hr hnt hn
  refine r_aload_n C dX4_get_0 rfl ?_
  refine r_aload_n C dX4_get_1 rfl ?_
  refine r_iload_n C dX4_get_2 rfl ?_
  refine r_iload_n C dX4_get_3 rfl ?_
  refine d_V (st := [.ref (ba 9)]) hX.1.stb C hE (D_isNoPlace1w (ba := ba) (ra := ra) (hf := hf) (hq := hq) (kn := kn) (th := th) (sm := sm) (Y := Y) (f := f) (x := (x)) (y := (y0)) hX h5M h4M hno) pk_X4_isNoPlace qm_X4_92 0 8 rfl rfl wm_0 rfl rfl (Nat.le_of_ble_eq_true rfl) dX4_get_4 ⟨(Nat.le_of_ble_eq_true rfl), (Nat.le_of_ble_eq_true rfl)⟩ ⟨(Nat.le_of_ble_eq_true rfl), (Nat.le_of_ble_eq_true rfl)⟩ ?_
  refine r_w (w' := WM cy ba ra hf hq kn th sm ++ Y) rfl ?_
  refine r_iconst (v := (nI 0)) C dX4_get_7 (by decide) ?_
  refine r_iconst (v := (nI 0)) C dX4_get_8 (by decide) ?_
  refine d_V (st := []) hX.1.stb C hE (D_fails1 (ba := ba) (ra := ra) (hf := hf) (hq := hq) (kn := kn) (th := th) (sm := sm) (Y := Y) (b0 := 0) (d0 := 0) hX ) pk_X4_fails qm_X4_84 0 8 rfl rfl wm_0 rfl rfl (Nat.le_of_ble_eq_true rfl) dX4_get_9 ⟨(Nat.le_of_ble_eq_true rfl), (Nat.le_of_ble_eq_true rfl)⟩ ⟨(Nat.le_of_ble_eq_true rfl), (Nat.le_of_ble_eq_true rfl)⟩ ?_
  refine r_w (w' := WM cy ba ra hf hq kn (nI 1) sm ++ Y) rfl ?_
  refine r_ifN_eq (a := 1) (tgt := 19) C (by omega) dX4_get_12 (by decide) (fun h12_1 => ?_) (fun h12_1 => ?_)
  · exact absurd h12_1 (by omega)
  · skip
    refine r_iconst (v := (nI 0)) C dX4_get_15 (by decide) ?_
    refine r_goto (tgt := 25) C dX4_get_16 (by decide) ?_
    exact r_iret C hr dX4_get_25 ⟨rfl, rfl⟩ (Nat.le_of_ble_eq_true rfl) (Nat.le_of_ble_eq_true rfl)
set_option maxRecDepth 100000 in
set_option maxHeartbeats 4000000 in
theorem D_get_noP {l : Launch} {D : va_G} {cy : Nat → ClassId} {X : (Nat → Prop) → State → Heap → Prop} {ba ra : Nat → Nat} {hf : Nat → Nat → Nat} {hq : Nat → Nat → Int32} {kn th : Int32} {sm : Int64} {Y : va_W} {f : Nat → Nat → Nat} {r : Nat → Nat → Int32} {w : Nat} {y0 : Int32} (hX : EnvM X cy) (hC : CInv f) (hM : MR f r hf hq) (hw : w < 8) (h5w : f 5 w = 1) (hno : ¬ (0 ≤ y0 ∧ y0 < nI (f 4 w))) : Cd l D cy X yX4_get cX4_get 3 (some .int) (rmk 9 4 48 420) [.ref (ba 9), .int (nI w), .int y0] (WM cy ba ra hf hq kn th sm ++ Y) (some (.int (nI 0))) (WM cy ba ra hf hq kn (nI 1) sm ++ Y) := by
  have hG := hM.1
  have h5M := hM.h5M hC
  have h4M := hC.h4M
  have h9a := hM.h9a hC
  have h6a := hM.h6a
  have hU := hM.hU hC
  have qw := hM.wh hC hw h5w
  refine Cm.of [some (.ref (ba 9)), some (.int (nI w)), some (.int y0)] pn_X4 rfl (Nat.le_of_ble_eq_true rfl) ?_
  intro p e s m args below meth c A C hE hr hnt hn
  refine r_aload_n C dX4_get_0 rfl ?_
  refine r_aload_n C dX4_get_1 rfl ?_
  refine r_iload_n C dX4_get_2 rfl ?_
  refine r_iload_n C dX4_get_3 rfl ?_
  refine d_V (st := [.ref (ba 9)]) hX.1.stb C hE (D_isNoPlace1 (ba := ba) (ra := ra) (hf := hf) (hq := hq) (kn := kn) (th := th) (sm := sm) (Y := Y) (w := w) (y := (y0)) hX (by omega) (by omega) (by omega) (by rw [qw.1]; exact hno)) pk_X4_isNoPlace qm_X4_92 0 8 rfl rfl wm_0 rfl rfl (Nat.le_of_ble_eq_true rfl) dX4_get_4 ⟨(Nat.le_of_ble_eq_true rfl), (Nat.le_of_ble_eq_true rfl)⟩ ⟨(Nat.le_of_ble_eq_true rfl), (Nat.le_of_ble_eq_true rfl)⟩ ?_
  refine r_w (w' := WM cy ba ra hf hq kn th sm ++ Y) rfl ?_
  refine r_iconst (v := (nI 0)) C dX4_get_7 (by decide) ?_
  refine r_iconst (v := (nI 0)) C dX4_get_8 (by decide) ?_
  refine d_V (st := []) hX.1.stb C hE (D_fails1 (ba := ba) (ra := ra) (hf := hf) (hq := hq) (kn := kn) (th := th) (sm := sm) (Y := Y) (b0 := 0) (d0 := 0) hX ) pk_X4_fails qm_X4_84 0 8 rfl rfl wm_0 rfl rfl (Nat.le_of_ble_eq_true rfl) dX4_get_9 ⟨(Nat.le_of_ble_eq_true rfl), (Nat.le_of_ble_eq_true rfl)⟩ ⟨(Nat.le_of_ble_eq_true rfl), (Nat.le_of_ble_eq_true rfl)⟩ ?_
  refine r_w (w' := WM cy ba ra hf hq kn (nI 1) sm ++ Y) rfl ?_
  refine r_ifN_eq (a := 1) (tgt := 19) C (by omega) dX4_get_12 (by decide) (fun h12_1 => ?_) (fun h12_1 => ?_)
  · exact absurd h12_1 (by omega)
  · skip
    refine r_iconst (v := (nI 0)) C dX4_get_15 (by decide) ?_
    refine r_goto (tgt := 25) C dX4_get_16 (by decide) ?_
    exact r_iret C hr dX4_get_25 ⟨rfl, rfl⟩ (Nat.le_of_ble_eq_true rfl) (Nat.le_of_ble_eq_true rfl)
set_option maxRecDepth 100000 in
set_option maxHeartbeats 4000000 in
theorem D_set_noI {l : Launch} {D : va_G} {cy : Nat → ClassId} {X : (Nat → Prop) → State → Heap → Prop} {ba ra : Nat → Nat} {hf : Nat → Nat → Nat} {hq : Nat → Nat → Int32} {kn th : Int32} {sm : Int64} {Y : va_W} {f : Nat → Nat → Nat} {r : Nat → Nat → Int32} {w : Nat} {k0 : Nat} {y : Int32} (hX : EnvM X cy) (hC : CInv f) (hM : MR f r hf hq) (hw : w < 8) (h5w : f 5 w = 1) (hk : k0 < f 4 w) (ho : ¬ okI y) : Cd l D cy X yX4_set cX4_set 5 (some .int) (rmk 9 4 48 420) [.ref (ba 9), .int (nI w), .int (nI k0), .int y] (WM cy ba ra hf hq kn th sm ++ Y) (some (.int (nI 0))) (WM cy ba ra hf hq kn (nI 2) sm ++ Y) := by
  have hG := hM.1
  have h5M := hM.h5M hC
  have h4M := hC.h4M
  have h9a := hM.h9a hC
  have h6a := hM.h6a
  have hU := hM.hU hC
  have qw := hM.wh hC hw h5w
  refine Cm.of [some (.ref (ba 9)), some (.int (nI w)), some (.int (nI k0)), some (.int y), none] pn_X4 rfl (Nat.le_of_ble_eq_true rfl) ?_
  intro p e s m args below meth c A C hE hr hnt hn
  refine r_aload_n C dX4_set_0 rfl ?_
  refine r_aload_n C dX4_set_1 rfl ?_
  refine r_iload_n C dX4_set_2 rfl ?_
  refine r_iload_n C dX4_set_3 rfl ?_
  refine d_V (st := [.ref (ba 9)]) hX.1.stb C hE (D_isNoPlace0 (ba := ba) (ra := ra) (hf := hf) (hq := hq) (kn := kn) (th := th) (sm := sm) (Y := Y) (w := w) (k := k0) hX (by omega) (by omega) (by omega) (by omega)) pk_X4_isNoPlace qm_X4_92 0 8 rfl rfl wm_0 rfl rfl (Nat.le_of_ble_eq_true rfl) dX4_set_4 ⟨(Nat.le_of_ble_eq_true rfl), (Nat.le_of_ble_eq_true rfl)⟩ ⟨(Nat.le_of_ble_eq_true rfl), (Nat.le_of_ble_eq_true rfl)⟩ ?_
  refine r_w (w' := WM cy ba ra hf hq kn th sm ++ Y) rfl ?_
  refine r_iload_n C dX4_set_7 rfl ?_
  refine d_S (st := [.int (nI 0), .ref (ba 9)]) hX.1.stb C hE (D_isNoItem1 (ba := ba) (ra := ra) (hf := hf) (hq := hq) (kn := kn) (th := th) (sm := sm) (Y := Y) (y := (y)) hX ho) pk_X4_isNoItem qm_X4_78 rfl rfl (Nat.le_of_ble_eq_true rfl) dX4_set_8 ⟨(Nat.le_of_ble_eq_true rfl), (Nat.le_of_ble_eq_true rfl)⟩ ⟨(Nat.le_of_ble_eq_true rfl), (Nat.le_of_ble_eq_true rfl)⟩ ?_
  refine r_w (w' := WM cy ba ra hf hq kn th sm ++ Y) rfl ?_
  refine r_iconst (v := (nI 0)) C dX4_set_11 (by decide) ?_
  refine d_V (st := []) hX.1.stb C hE (D_fails2 (ba := ba) (ra := ra) (hf := hf) (hq := hq) (kn := kn) (th := th) (sm := sm) (Y := Y) (d0 := 0) hX ) pk_X4_fails qm_X4_84 0 8 rfl rfl wm_0 rfl rfl (Nat.le_of_ble_eq_true rfl) dX4_set_12 ⟨(Nat.le_of_ble_eq_true rfl), (Nat.le_of_ble_eq_true rfl)⟩ ⟨(Nat.le_of_ble_eq_true rfl), (Nat.le_of_ble_eq_true rfl)⟩ ?_
  refine r_w (w' := WM cy ba ra hf hq kn (nI 2) sm ++ Y) rfl ?_
  refine r_ifN_eq (a := 1) (tgt := 20) C (by omega) dX4_set_15 (by decide) (fun h15_1 => ?_) (fun h15_1 => ?_)
  · exact absurd h15_1 (by omega)
  · skip
    refine r_iconst (v := (nI 0)) C dX4_set_18 (by decide) ?_
    exact r_iret C hr dX4_set_19 ⟨rfl, rfl⟩ (Nat.le_of_ble_eq_true rfl) (Nat.le_of_ble_eq_true rfl)
theorem dX4_set_20 : decode cX4_set 20 = .ok (.aload_n 0, 1) := dqo_42 (kb_of ke_X4_set 20 rfl)
theorem dX4_set_21 : decode cX4_set 21 = .ok (.iload_n 1, 1) := dqo_27 (kb_of ke_X4_set 21 rfl)
theorem dX4_set_22 : decode cX4_set 22 = .ok (.iload_n 2, 1) := dqo_28 (kb_of ke_X4_set 22 rfl)
theorem dX4_set_23 : decode cX4_set 23 = .ok (.invokevirtual 62, 3) := dqo_182 0 62 (kb_of ke_X4_set 23 rfl) (kb_of ke_X4_set 24 rfl) (kb_of ke_X4_set 25 rfl)
theorem dX4_set_26 : decode cX4_set 26 = .ok (.istore 4, 2) := dqo_54 4 (kb_of ke_X4_set 26 rfl) (kb_of ke_X4_set 27 rfl)
theorem dX4_set_28 : decode cX4_set 28 = .ok (.aload_n 0, 1) := dqo_42 (kb_of ke_X4_set 28 rfl)
theorem dX4_set_29 : decode cX4_set 29 = .ok (.getfield 15, 3) := dqo_180 0 15 (kb_of ke_X4_set 29 rfl) (kb_of ke_X4_set 30 rfl) (kb_of ke_X4_set 31 rfl)
theorem dX4_set_32 : decode cX4_set 32 = .ok (.aload_n 0, 1) := dqo_42 (kb_of ke_X4_set 32 rfl)
theorem dX4_set_33 : decode cX4_set 33 = .ok (.iload_n 1, 1) := dqo_27 (kb_of ke_X4_set 33 rfl)
theorem dX4_set_34 : decode cX4_set 34 = .ok (.invokevirtual 48, 3) := dqo_182 0 48 (kb_of ke_X4_set 34 rfl) (kb_of ke_X4_set 35 rfl) (kb_of ke_X4_set 36 rfl)
theorem dX4_set_37 : decode cX4_set 37 = .ok (.aaload, 1) := dqo_50 (kb_of ke_X4_set 37 rfl)
theorem dX4_set_38 : decode cX4_set 38 = .ok (.aload_n 0, 1) := dqo_42 (kb_of ke_X4_set 38 rfl)
theorem dX4_set_39 : decode cX4_set 39 = .ok (.iload_n 1, 1) := dqo_27 (kb_of ke_X4_set 39 rfl)
theorem dX4_set_40 : decode cX4_set 40 = .ok (.invokevirtual 52, 3) := dqo_182 0 52 (kb_of ke_X4_set 40 rfl) (kb_of ke_X4_set 41 rfl) (kb_of ke_X4_set 42 rfl)
theorem dX4_set_43 : decode cX4_set 43 = .ok (.iload_n 2, 1) := dqo_28 (kb_of ke_X4_set 43 rfl)
theorem dX4_set_44 : decode cX4_set 44 = .ok (.iadd, 1) := dqo_96 (kb_of ke_X4_set 44 rfl)
theorem dX4_set_45 : decode cX4_set 45 = .ok (.iload_n 3, 1) := dqo_29 (kb_of ke_X4_set 45 rfl)
theorem dX4_set_46 : decode cX4_set 46 = .ok (.iastore, 1) := dqo_79 (kb_of ke_X4_set 46 rfl)
theorem dX4_set_47 : decode cX4_set 47 = .ok (.iload 4, 2) := dqo_21 4 (kb_of ke_X4_set 47 rfl) (kb_of ke_X4_set 48 rfl)
theorem dX4_set_49 : decode cX4_set 49 = .ok (.ireturn, 1) := dqo_172 (kb_of ke_X4_set 49 rfl)
set_option maxRecDepth 100000 in
set_option maxHeartbeats 4000000 in
theorem D_set_ok {l : Launch} {D : va_G} {cy : Nat → ClassId} {X : (Nat → Prop) → State → Heap → Prop} {ba ra : Nat → Nat} {hf : Nat → Nat → Nat} {hq : Nat → Nat → Int32} {kn th : Int32} {sm : Int64} {Y : va_W} {f : Nat → Nat → Nat} {r : Nat → Nat → Int32} {w : Nat} {k0 : Nat} {y : Int32} (hX : EnvM X cy) (hC : CInv f) (hM : MR f r hf hq) (hw : w < 8) (h5w : f 5 w = 1) (hk : k0 < f 4 w) (ho : okI y) : Cd l D cy X yX4_set cX4_set 5 (some .int) (rmk 9 4 48 420) [.ref (ba 9), .int (nI w), .int (nI k0), .int y] (WM cy ba ra hf hq kn th sm ++ Y) (some (.int (hq (f 1 w) (f 3 w + k0)))) (WM cy ba ra hf (up2 hq (f 1 w) ((f 3 w) + k0) y) kn (nI 0) sm ++ Y) := by
  have hG := hM.1
  have h5M := hM.h5M hC
  have h4M := hC.h4M
  have h9a := hM.h9a hC
  have h6a := hM.h6a
  have hU := hM.hU hC
  have qw := hM.wh hC hw h5w
  refine Cm.of [some (.ref (ba 9)), some (.int (nI w)), some (.int (nI k0)), some (.int y), none] pn_X4 rfl (Nat.le_of_ble_eq_true rfl) ?_
  intro p e s m args below meth c A C hE hr hnt hn
  refine r_aload_n C dX4_set_0 rfl ?_
  refine r_aload_n C dX4_set_1 rfl ?_
  refine r_iload_n C dX4_set_2 rfl ?_
  refine r_iload_n C dX4_set_3 rfl ?_
  refine d_V (st := [.ref (ba 9)]) hX.1.stb C hE (D_isNoPlace0 (ba := ba) (ra := ra) (hf := hf) (hq := hq) (kn := kn) (th := th) (sm := sm) (Y := Y) (w := w) (k := k0) hX (by omega) (by omega) (by omega) (by omega)) pk_X4_isNoPlace qm_X4_92 0 8 rfl rfl wm_0 rfl rfl (Nat.le_of_ble_eq_true rfl) dX4_set_4 ⟨(Nat.le_of_ble_eq_true rfl), (Nat.le_of_ble_eq_true rfl)⟩ ⟨(Nat.le_of_ble_eq_true rfl), (Nat.le_of_ble_eq_true rfl)⟩ ?_
  refine r_w (w' := WM cy ba ra hf hq kn th sm ++ Y) rfl ?_
  refine r_iload_n C dX4_set_7 rfl ?_
  refine d_S (st := [.int (nI 0), .ref (ba 9)]) hX.1.stb C hE (D_isNoItem0 (ba := ba) (ra := ra) (hf := hf) (hq := hq) (kn := kn) (th := th) (sm := sm) (Y := Y) (y := (y)) hX ho) pk_X4_isNoItem qm_X4_78 rfl rfl (Nat.le_of_ble_eq_true rfl) dX4_set_8 ⟨(Nat.le_of_ble_eq_true rfl), (Nat.le_of_ble_eq_true rfl)⟩ ⟨(Nat.le_of_ble_eq_true rfl), (Nat.le_of_ble_eq_true rfl)⟩ ?_
  refine r_w (w' := WM cy ba ra hf hq kn th sm ++ Y) rfl ?_
  refine r_iconst (v := (nI 0)) C dX4_set_11 (by decide) ?_
  refine d_V (st := []) hX.1.stb C hE (D_fails0 (ba := ba) (ra := ra) (hf := hf) (hq := hq) (kn := kn) (th := th) (sm := sm) (Y := Y)  hX ) pk_X4_fails qm_X4_84 0 8 rfl rfl wm_0 rfl rfl (Nat.le_of_ble_eq_true rfl) dX4_set_12 ⟨(Nat.le_of_ble_eq_true rfl), (Nat.le_of_ble_eq_true rfl)⟩ ⟨(Nat.le_of_ble_eq_true rfl), (Nat.le_of_ble_eq_true rfl)⟩ ?_
  refine r_w (w' := WM cy ba ra hf hq kn (nI 0) sm ++ Y) rfl ?_
  refine r_ifN_eq (a := 0) (tgt := 20) C (by omega) dX4_set_15 (by decide) (fun h15_1 => ?_) (fun h15_1 => ?_)
  · skip
    refine r_aload_n C dX4_set_20 rfl ?_
    refine r_iload_n C dX4_set_21 rfl ?_
    refine r_iload_n C dX4_set_22 rfl ?_
    refine d_V (st := []) hX.1.stb C hE (D_item (ba := ba) (ra := ra) (hf := hf) (hq := hq) (kn := kn) (th := (nI 0)) (sm := sm) (Y := Y) (f := f) (w := w) (k := k0) hX hC (MG.same (fun _ => rfl) (fun _ => rfl) hG) (by omega) (by omega) (by omega) (by omega)) pk_X4_item qm_X4_62 0 8 rfl rfl wm_0 rfl rfl (Nat.le_of_ble_eq_true rfl) dX4_set_23 ⟨(Nat.le_of_ble_eq_true rfl), (Nat.le_of_ble_eq_true rfl)⟩ ⟨(Nat.le_of_ble_eq_true rfl), (Nat.le_of_ble_eq_true rfl)⟩ ?_
    refine r_w (w' := WM cy ba ra hf hq kn (nI 0) sm ++ Y) rfl ?_
    refine r_istore C dX4_set_26 (by decide) rfl ?_
    refine r_aload_n C dX4_set_28 rfl ?_
    refine m_get (v := .ref (ba 0)) C 0 (by decide) qf_X4_15 rfl rfl dX4_set_29 ?_
    refine r_aload_n C dX4_set_32 rfl ?_
    refine r_iload_n C dX4_set_33 rfl ?_
    refine d_V (st := [.ref (ba 0)]) hX.1.stb C hE (D_rowOf (ba := ba) (ra := ra) (hf := hf) (hq := hq) (kn := kn) (th := (nI 0)) (sm := sm) (Y := Y) (f := f) (w := w) hX hC (MG.same (fun _ => rfl) (fun _ => rfl) hG) (by omega) (by omega)) pk_X4_rowOf qm_X4_48 0 8 rfl rfl wm_0 rfl rfl (Nat.le_of_ble_eq_true rfl) dX4_set_34 ⟨(Nat.le_of_ble_eq_true rfl), (Nat.le_of_ble_eq_true rfl)⟩ ⟨(Nat.le_of_ble_eq_true rfl), (Nat.le_of_ble_eq_true rfl)⟩ ?_
    refine r_w (w' := WM cy ba ra hf hq kn (nI 0) sm ++ Y) rfl ?_
    refine m_rows (i := f 1 w) C (by omega) dX4_set_37 ?_
    refine r_aload_n C dX4_set_38 rfl ?_
    refine r_iload_n C dX4_set_39 rfl ?_
    refine d_V (st := [.ref (ra (f 1 w))]) hX.1.stb C hE (D_begin (ba := ba) (ra := ra) (hf := hf) (hq := hq) (kn := kn) (th := (nI 0)) (sm := sm) (Y := Y) (f := f) (w := w) hX hC (MG.same (fun _ => rfl) (fun _ => rfl) hG) (by omega) (by omega)) pk_X4_begin qm_X4_52 0 8 rfl rfl wm_0 rfl rfl (Nat.le_of_ble_eq_true rfl) dX4_set_40 ⟨(Nat.le_of_ble_eq_true rfl), (Nat.le_of_ble_eq_true rfl)⟩ ⟨(Nat.le_of_ble_eq_true rfl), (Nat.le_of_ble_eq_true rfl)⟩ ?_
    refine r_w (w' := WM cy ba ra hf hq kn (nI 0) sm ++ Y) rfl ?_
    refine r_iload_n C dX4_set_43 rfl ?_
    refine r_iaddN C dX4_set_44 ?_
    refine r_iload_n C dX4_set_45 rfl ?_
    refine m_rst (i := f 1 w) (n := (f 3 w) + k0) (x := y) C (by omega) (by omega) (by omega) dX4_set_46 ?_
    refine r_iload C dX4_set_47 rfl ?_
    exact r_iret C hr dX4_set_49 ⟨rfl, rfl⟩ (Nat.le_of_ble_eq_true rfl) (Nat.le_of_ble_eq_true rfl)
  · exact absurd h15_1 (by omega)
theorem dX4_get_19 : decode cX4_get 19 = .ok (.aload_n 0, 1) := dqo_42 (kb_of ke_X4_get 19 rfl)
theorem dX4_get_20 : decode cX4_get 20 = .ok (.iload_n 1, 1) := dqo_27 (kb_of ke_X4_get 20 rfl)
theorem dX4_get_21 : decode cX4_get 21 = .ok (.iload_n 2, 1) := dqo_28 (kb_of ke_X4_get 21 rfl)
theorem dX4_get_22 : decode cX4_get 22 = .ok (.invokevirtual 62, 3) := dqo_182 0 62 (kb_of ke_X4_get 22 rfl) (kb_of ke_X4_get 23 rfl) (kb_of ke_X4_get 24 rfl)
set_option maxRecDepth 100000 in
set_option maxHeartbeats 4000000 in
theorem D_get_ok {l : Launch} {D : va_G} {cy : Nat → ClassId} {X : (Nat → Prop) → State → Heap → Prop} {ba ra : Nat → Nat} {hf : Nat → Nat → Nat} {hq : Nat → Nat → Int32} {kn th : Int32} {sm : Int64} {Y : va_W} {f : Nat → Nat → Nat} {r : Nat → Nat → Int32} {w : Nat} {k0 : Nat} (hX : EnvM X cy) (hC : CInv f) (hM : MR f r hf hq) (hw : w < 8) (h5w : f 5 w = 1) (hk : k0 < f 4 w) : Cd l D cy X yX4_get cX4_get 3 (some .int) (rmk 9 4 48 420) [.ref (ba 9), .int (nI w), .int (nI k0)] (WM cy ba ra hf hq kn th sm ++ Y) (some (.int (hq (f 1 w) (f 3 w + k0)))) (WM cy ba ra hf hq kn (nI 0) sm ++ Y) := by
  have hG := hM.1
  have h5M := hM.h5M hC
  have h4M := hC.h4M
  have h9a := hM.h9a hC
  have h6a := hM.h6a
  have hU := hM.hU hC
  have qw := hM.wh hC hw h5w
  refine Cm.of [some (.ref (ba 9)), some (.int (nI w)), some (.int (nI k0))] pn_X4 rfl (Nat.le_of_ble_eq_true rfl) ?_
  intro p e s m args below meth c A C hE hr hnt hn
  refine r_aload_n C dX4_get_0 rfl ?_
  refine r_aload_n C dX4_get_1 rfl ?_
  refine r_iload_n C dX4_get_2 rfl ?_
  refine r_iload_n C dX4_get_3 rfl ?_
  refine d_V (st := [.ref (ba 9)]) hX.1.stb C hE (D_isNoPlace0 (ba := ba) (ra := ra) (hf := hf) (hq := hq) (kn := kn) (th := th) (sm := sm) (Y := Y) (w := w) (k := k0) hX (by omega) (by omega) (by omega) (by omega)) pk_X4_isNoPlace qm_X4_92 0 8 rfl rfl wm_0 rfl rfl (Nat.le_of_ble_eq_true rfl) dX4_get_4 ⟨(Nat.le_of_ble_eq_true rfl), (Nat.le_of_ble_eq_true rfl)⟩ ⟨(Nat.le_of_ble_eq_true rfl), (Nat.le_of_ble_eq_true rfl)⟩ ?_
  refine r_w (w' := WM cy ba ra hf hq kn th sm ++ Y) rfl ?_
  refine r_iconst (v := (nI 0)) C dX4_get_7 (by decide) ?_
  refine r_iconst (v := (nI 0)) C dX4_get_8 (by decide) ?_
  refine d_V (st := []) hX.1.stb C hE (D_fails0 (ba := ba) (ra := ra) (hf := hf) (hq := hq) (kn := kn) (th := th) (sm := sm) (Y := Y)  hX ) pk_X4_fails qm_X4_84 0 8 rfl rfl wm_0 rfl rfl (Nat.le_of_ble_eq_true rfl) dX4_get_9 ⟨(Nat.le_of_ble_eq_true rfl), (Nat.le_of_ble_eq_true rfl)⟩ ⟨(Nat.le_of_ble_eq_true rfl), (Nat.le_of_ble_eq_true rfl)⟩ ?_
  refine r_w (w' := WM cy ba ra hf hq kn (nI 0) sm ++ Y) rfl ?_
  refine r_ifN_eq (a := 0) (tgt := 19) C (by omega) dX4_get_12 (by decide) (fun h12_1 => ?_) (fun h12_1 => ?_)
  · skip
    refine r_aload_n C dX4_get_19 rfl ?_
    refine r_iload_n C dX4_get_20 rfl ?_
    refine r_iload_n C dX4_get_21 rfl ?_
    refine d_V (st := []) hX.1.stb C hE (D_item (ba := ba) (ra := ra) (hf := hf) (hq := hq) (kn := kn) (th := (nI 0)) (sm := sm) (Y := Y) (f := f) (w := w) (k := k0) hX hC (MG.same (fun _ => rfl) (fun _ => rfl) hG) (by omega) (by omega) (by omega) (by omega)) pk_X4_item qm_X4_62 0 8 rfl rfl wm_0 rfl rfl (Nat.le_of_ble_eq_true rfl) dX4_get_22 ⟨(Nat.le_of_ble_eq_true rfl), (Nat.le_of_ble_eq_true rfl)⟩ ⟨(Nat.le_of_ble_eq_true rfl), (Nat.le_of_ble_eq_true rfl)⟩ ?_
    refine r_w (w' := WM cy ba ra hf hq kn (nI 0) sm ++ Y) rfl ?_
    exact r_iret C hr dX4_get_25 ⟨rfl, rfl⟩ (Nat.le_of_ble_eq_true rfl) (Nat.le_of_ble_eq_true rfl)
  · exact absurd h12_1 (by omega)
theorem dX4_remove_17 : decode cX4_remove 17 = .ok (.aload_n 0, 1) := dqo_42 (kb_of ke_X4_remove 17 rfl)
theorem dX4_remove_18 : decode cX4_remove 18 = .ok (.iload_n 1, 1) := dqo_27 (kb_of ke_X4_remove 18 rfl)
theorem dX4_remove_19 : decode cX4_remove 19 = .ok (.iload_n 2, 1) := dqo_28 (kb_of ke_X4_remove 19 rfl)
theorem dX4_remove_20 : decode cX4_remove 20 = .ok (.invokevirtual 62, 3) := dqo_182 0 62 (kb_of ke_X4_remove 20 rfl) (kb_of ke_X4_remove 21 rfl) (kb_of ke_X4_remove 22 rfl)
theorem dX4_remove_23 : decode cX4_remove 23 = .ok (.istore_n 3, 1) := dqo_62 (kb_of ke_X4_remove 23 rfl)
theorem dX4_remove_24 : decode cX4_remove 24 = .ok (.aload_n 0, 1) := dqo_42 (kb_of ke_X4_remove 24 rfl)
theorem dX4_remove_25 : decode cX4_remove 25 = .ok (.iload_n 1, 1) := dqo_27 (kb_of ke_X4_remove 25 rfl)
theorem dX4_remove_26 : decode cX4_remove 26 = .ok (.iconst (-1), 1) := dqo_2 (kb_of ke_X4_remove 26 rfl)
theorem dX4_remove_27 : decode cX4_remove 27 = .ok (.invokevirtual 74, 3) := dqo_182 0 74 (kb_of ke_X4_remove 27 rfl) (kb_of ke_X4_remove 28 rfl) (kb_of ke_X4_remove 29 rfl)
theorem dX4_remove_30 : decode cX4_remove 30 = .ok (.aload_n 0, 1) := dqo_42 (kb_of ke_X4_remove 30 rfl)
theorem dX4_remove_31 : decode cX4_remove 31 = .ok (.iload_n 1, 1) := dqo_27 (kb_of ke_X4_remove 31 rfl)
theorem dX4_remove_32 : decode cX4_remove 32 = .ok (.iload_n 2, 1) := dqo_28 (kb_of ke_X4_remove 32 rfl)
theorem dX4_remove_33 : decode cX4_remove 33 = .ok (.iconst 1, 1) := dqo_4 (kb_of ke_X4_remove 33 rfl)
theorem dX4_remove_34 : decode cX4_remove 34 = .ok (.iconst 0, 1) := dqo_3 (kb_of ke_X4_remove 34 rfl)
theorem dX4_remove_35 : decode cX4_remove 35 = .ok (.newarray .int, 2) := dqo_188_10 (kb_of ke_X4_remove 35 rfl) (kb_of ke_X4_remove 36 rfl)
theorem dX4_remove_37 : decode cX4_remove 37 = .ok (.invokevirtual 88, 3) := dqo_182 0 88 (kb_of ke_X4_remove 37 rfl) (kb_of ke_X4_remove 38 rfl) (kb_of ke_X4_remove 39 rfl)
theorem dX4_remove_40 : decode cX4_remove 40 = .ok (.iload_n 3, 1) := dqo_29 (kb_of ke_X4_remove 40 rfl)
theorem dX4_remove_41 : decode cX4_remove 41 = .ok (.ireturn, 1) := dqo_172 (kb_of ke_X4_remove 41 rfl)
set_option maxRecDepth 100000 in
set_option maxHeartbeats 4000000 in
theorem D_remove_ok {l : Launch} {D : va_G} {cy : Nat → ClassId} {X : (Nat → Prop) → State → Heap → Prop} {ba ra : Nat → Nat} {hf : Nat → Nat → Nat} {hq : Nat → Nat → Int32} {kn th : Int32} {sm : Int64} {Y : va_W} {f : Nat → Nat → Nat} {r : Nat → Nat → Int32} {w : Nat} {k0 : Nat} (hX : EnvM X cy) (hC : CInv f) (hM : MR f r hf hq) (hw : w < 8) (h5w : f 5 w = 1) (hk : k0 < f 4 w) : Cm l D cy X yX4_remove cX4_remove 4 (some .int) (rmk 9 4 48 420) [.ref (ba 9), .int (nI w), .int (nI k0)] (WM cy ba ra hf hq kn th sm ++ Y) (fun v1 w1 => ∃ ra9 : Nat → Nat, v1 = some (.int (hq (f 1 w) (f 3 w + k0))) ∧ w1 = WM cy ba ra9 (lyM f (up2 (chM f hf w 4294967295) 4 (f 1 w) ((chM f hf w 4294967295) 4 (f 1 w) - 1 + 0)) w 0 1) (upR hq (f 1 w) (layF (hq (f 1 w)) (fun _ => 0) (f 3 w + k0) 0 1 ((chM f hf w 4294967295) 4 (f 1 w) - 1 + 0))) kn (nI 0) sm ++ Y) (fun _ => False) := by
  have hG := hM.1
  have h5M := hM.h5M hC
  have h4M := hC.h4M
  have h9a := hM.h9a hC
  have h6a := hM.h6a
  have hU := hM.hU hC
  have qw := hM.wh hC hw h5w
  refine Cm.of [some (.ref (ba 9)), some (.int (nI w)), some (.int (nI k0)), none] pn_X4 rfl (Nat.le_of_ble_eq_true rfl) ?_
  intro p e s m args below meth c A C hE hr hnt hn
  refine r_aload_n C dX4_remove_0 rfl ?_
  refine r_aload_n C dX4_remove_1 rfl ?_
  refine r_iload_n C dX4_remove_2 rfl ?_
  refine r_iload_n C dX4_remove_3 rfl ?_
  refine d_V (st := [.ref (ba 9)]) hX.1.stb C hE (D_isNoPlace0 (ba := ba) (ra := ra) (hf := hf) (hq := hq) (kn := kn) (th := th) (sm := sm) (Y := Y) (w := w) (k := k0) hX (by omega) (by omega) (by omega) (by omega)) pk_X4_isNoPlace qm_X4_92 0 8 rfl rfl wm_0 rfl rfl (Nat.le_of_ble_eq_true rfl) dX4_remove_4 ⟨(Nat.le_of_ble_eq_true rfl), (Nat.le_of_ble_eq_true rfl)⟩ ⟨(Nat.le_of_ble_eq_true rfl), (Nat.le_of_ble_eq_true rfl)⟩ ?_
  refine r_w (w' := WM cy ba ra hf hq kn th sm ++ Y) rfl ?_
  refine r_iconst (v := (nI 0)) C dX4_remove_7 (by decide) ?_
  refine r_iconst (v := (nI 0)) C dX4_remove_8 (by decide) ?_
  refine d_V (st := []) hX.1.stb C hE (D_fails0 (ba := ba) (ra := ra) (hf := hf) (hq := hq) (kn := kn) (th := th) (sm := sm) (Y := Y)  hX ) pk_X4_fails qm_X4_84 0 8 rfl rfl wm_0 rfl rfl (Nat.le_of_ble_eq_true rfl) dX4_remove_9 ⟨(Nat.le_of_ble_eq_true rfl), (Nat.le_of_ble_eq_true rfl)⟩ ⟨(Nat.le_of_ble_eq_true rfl), (Nat.le_of_ble_eq_true rfl)⟩ ?_
  refine r_w (w' := WM cy ba ra hf hq kn (nI 0) sm ++ Y) rfl ?_
  refine r_ifN_eq (a := 0) (tgt := 17) C (by omega) dX4_remove_12 (by decide) (fun h12_1 => ?_) (fun h12_1 => ?_)
  · skip
    refine r_aload_n C dX4_remove_17 rfl ?_
    refine r_iload_n C dX4_remove_18 rfl ?_
    refine r_iload_n C dX4_remove_19 rfl ?_
    refine d_V (st := []) hX.1.stb C hE (D_item (ba := ba) (ra := ra) (hf := hf) (hq := hq) (kn := kn) (th := (nI 0)) (sm := sm) (Y := Y) (f := f) (w := w) (k := k0) hX hC (MG.same (fun _ => rfl) (fun _ => rfl) hG) (by omega) (by omega) (by omega) (by omega)) pk_X4_item qm_X4_62 0 8 rfl rfl wm_0 rfl rfl (Nat.le_of_ble_eq_true rfl) dX4_remove_20 ⟨(Nat.le_of_ble_eq_true rfl), (Nat.le_of_ble_eq_true rfl)⟩ ⟨(Nat.le_of_ble_eq_true rfl), (Nat.le_of_ble_eq_true rfl)⟩ ?_
    refine r_w (w' := WM cy ba ra hf hq kn (nI 0) sm ++ Y) rfl ?_
    refine r_istore_n C dX4_remove_23 (by decide) rfl ?_
    refine r_aload_n C dX4_remove_24 rfl ?_
    refine r_iload_n C dX4_remove_25 rfl ?_
    refine r_iconst (v := (nI 4294967295)) C dX4_remove_26 (by decide) ?_
    refine d_Vv (st := []) hX.1.stb C hE (D_changed (ba := ba) (ra := ra) (hf := hf) (hq := hq) (kn := kn) (th := (nI 0)) (sm := sm) (Y := Y) (f := f) (w := w) (d0 := 4294967295) hX hC (MG.same (fun _ => rfl) (fun _ => rfl) hG) (by omega) (by omega) (by omega) h5M h9a hU) pk_X4_changed qm_X4_74 0 8 rfl rfl wm_0 rfl rfl (Nat.le_of_ble_eq_true rfl) dX4_remove_27 ⟨(Nat.le_of_ble_eq_true rfl), (Nat.le_of_ble_eq_true rfl)⟩ ⟨(Nat.le_of_ble_eq_true rfl), (Nat.le_of_ble_eq_true rfl)⟩ ?_
    refine r_w (w' := WM cy ba ra (chM f hf w 4294967295) hq kn (nI 0) sm ++ Y) rfl ?_
    refine r_aload_n C dX4_remove_30 rfl ?_
    refine r_iload_n C dX4_remove_31 rfl ?_
    refine r_iload_n C dX4_remove_32 rfl ?_
    refine r_iconst (v := (nI 1)) C dX4_remove_33 (by decide) ?_
    refine r_iconst (v := (nI 0)) C dX4_remove_34 (by decide) ?_
    refine r_newT C .int .int 1 rfl (by simp) qa_int (n := 0) (show 0 < 1000000 from Nat.lt_of_le_of_lt (show 0 ≤ 0 from by omega) (by decide)) (2) (4) (Nat.le_of_ble_eq_true rfl) (Nat.add_le_add (Nat.le_refl _) (show 0 ≤ 0 from by omega)) (Nat.le_of_ble_eq_true rfl) (Nat.le_of_ble_eq_true rfl) dX4_remove_35 (fun b_2 => ?_)
    refine r_w (w' := WM cy ba ra (chM f hf w 4294967295) hq kn (nI 0) sm ++ (Y ++ [(b_2, .inl (cy 1, 0, .inl (fun _ => 0)))])) (by simp only [List.append_assoc, List.cons_append, List.nil_append]) ?_
    refine e_V (st := []) hX.1.stb C hE (D_lay (ba := ba) (ra := ra) (hf := (chM f hf w 4294967295)) (hq := hq) (kn := kn) (th := (nI 0)) (sm := sm) (f := f) (w := w) (p0 := k0) (o0 := 1) (b0 := b_2) (n0 := 0) (g0 := (fun _ => 0)) (j0 := (Y.length + 0)) hX hC (MG.same (fun _ => rfl) (fun _ => rfl) hG) (by omega) (by omega) (show f 3 w + k0 + 1 ≤ (hf 4 (f 1 w)) from (by omega)) (show (hf 4 (f 1 w)) ≤ 12 from (by omega)) (show (hf 4 (f 1 w)) - 1 + 0 ≤ 12 from (by omega)) (fun x hx hh => (show 1 ≤ hf 4 x + 0 from by have h8 := hM.ho hC hw h5w hx hh; omega)) ((ya_x 0).trans rfl)) pk_X4_lay qm_X4_88 0 8 rfl rfl wm_0 rfl rfl (Nat.le_of_ble_eq_true rfl) dX4_remove_37 ⟨(Nat.le_of_ble_eq_true rfl), (Nat.le_of_ble_eq_true rfl)⟩ ⟨(Nat.le_of_ble_eq_true rfl), (Nat.le_of_ble_eq_true rfl)⟩ (fun ra_3 => ?_)
    refine r_w (w' := WM cy ba ra_3 (lyM f (up2 (chM f hf w 4294967295) 4 (f 1 w) ((chM f hf w 4294967295) 4 (f 1 w) - 1 + 0)) w 0 1) (upR hq (f 1 w) (layF (hq (f 1 w)) (fun _ => 0) (f 3 w + k0) 0 1 ((chM f hf w 4294967295) 4 (f 1 w) - 1 + 0))) kn (nI 0) sm ++ (Y ++ [(b_2, .inl (cy 1, 0, .inl (fun _ => 0)))])) rfl ?_
    refine r_st (st' := []) rfl ?_
    refine r_iload_n C dX4_remove_40 rfl ?_
    refine r_pre ?_
    exact r_iret C hr dX4_remove_41 ⟨_, rfl, rfl⟩ (Nat.le_of_ble_eq_true rfl) (Nat.le_of_ble_eq_true rfl)
  · exact absurd h12_1 (by omega)
theorem dX4_clear_0 : decode cX4_clear 0 = .ok (.aload_n 0, 1) := dqo_42 (kb_of ke_X4_clear 0 rfl)
theorem dX4_clear_1 : decode cX4_clear 1 = .ok (.aload_n 0, 1) := dqo_42 (kb_of ke_X4_clear 1 rfl)
theorem dX4_clear_2 : decode cX4_clear 2 = .ok (.iload_n 1, 1) := dqo_27 (kb_of ke_X4_clear 2 rfl)
theorem dX4_clear_3 : decode cX4_clear 3 = .ok (.invokevirtual 55, 3) := dqo_182 0 55 (kb_of ke_X4_clear 3 rfl) (kb_of ke_X4_clear 4 rfl) (kb_of ke_X4_clear 5 rfl)
theorem dX4_clear_6 : decode cX4_clear 6 = .ok (.iconst 0, 1) := dqo_3 (kb_of ke_X4_clear 6 rfl)
theorem dX4_clear_7 : decode cX4_clear 7 = .ok (.iconst 0, 1) := dqo_3 (kb_of ke_X4_clear 7 rfl)
theorem dX4_clear_8 : decode cX4_clear 8 = .ok (.invokevirtual 84, 3) := dqo_182 0 84 (kb_of ke_X4_clear 8 rfl) (kb_of ke_X4_clear 9 rfl) (kb_of ke_X4_clear 10 rfl)
theorem dX4_clear_11 : decode cX4_clear 11 = .ok (.ifCond .eq 5, 3) := dqo_153 0 5 (by decide) (kb_of ke_X4_clear 11 rfl) (kb_of ke_X4_clear 12 rfl) (kb_of ke_X4_clear 13 rfl)
theorem dX4_clear_14 : decode cX4_clear 14 = .ok (.iconst 0, 1) := dqo_3 (kb_of ke_X4_clear 14 rfl)
theorem dX4_clear_15 : decode cX4_clear 15 = .ok (.ireturn, 1) := dqo_172 (kb_of ke_X4_clear 15 rfl)
set_option maxRecDepth 100000 in
set_option maxHeartbeats 4000000 in
theorem D_clear_noW {l : Launch} {D : va_G} {cy : Nat → ClassId} {X : (Nat → Prop) → State → Heap → Prop} {ba ra : Nat → Nat} {hf : Nat → Nat → Nat} {hq : Nat → Nat → Int32} {kn th : Int32} {sm : Int64} {Y : va_W} {f : Nat → Nat → Nat} {r : Nat → Nat → Int32} {x : Int32} (hX : EnvM X cy) (hC : CInv f) (hM : MR f r hf hq) (hno : noW f x) : Cd l D cy X yX4_clear cX4_clear 3 (some .int) (rmk 9 4 48 420) [.ref (ba 9), .int x] (WM cy ba ra hf hq kn th sm ++ Y) (some (.int (nI 0))) (WM cy ba ra hf hq kn (nI 1) sm ++ Y) := by
  have hG := hM.1
  have h5M := hM.h5M hC
  have h4M := hC.h4M
  have h9a := hM.h9a hC
  have h6a := hM.h6a
  have hU := hM.hU hC
  refine Cm.of [some (.ref (ba 9)), some (.int x), none] pn_X4 rfl (Nat.le_of_ble_eq_true rfl) ?_
  intro p e s m args below meth c A C hE hr hnt hn
  refine r_aload_n C dX4_clear_0 rfl ?_
  refine r_aload_n C dX4_clear_1 rfl ?_
  refine r_iload_n C dX4_clear_2 rfl ?_
  refine d_V (st := [.ref (ba 9)]) hX.1.stb C hE (D_isNoWhere1 (ba := ba) (ra := ra) (hf := hf) (hq := hq) (kn := kn) (th := th) (sm := sm) (Y := Y) (f := f) (x := (x)) hX h5M h4M hno) pk_X4_isNoWhere qm_X4_55 0 8 rfl rfl wm_0 rfl rfl (Nat.le_of_ble_eq_true rfl) dX4_clear_3 ⟨(Nat.le_of_ble_eq_true rfl), (Nat.le_of_ble_eq_true rfl)⟩ ⟨(Nat.le_of_ble_eq_true rfl), (Nat.le_of_ble_eq_true rfl)⟩ ?_
  refine r_w (w' := WM cy ba ra hf hq kn th sm ++ Y) rfl ?_
  refine r_iconst (v := (nI 0)) C dX4_clear_6 (by decide) ?_
  refine r_iconst (v := (nI 0)) C dX4_clear_7 (by decide) ?_
  refine d_V (st := []) hX.1.stb C hE (D_fails1 (ba := ba) (ra := ra) (hf := hf) (hq := hq) (kn := kn) (th := th) (sm := sm) (Y := Y) (b0 := 0) (d0 := 0) hX ) pk_X4_fails qm_X4_84 0 8 rfl rfl wm_0 rfl rfl (Nat.le_of_ble_eq_true rfl) dX4_clear_8 ⟨(Nat.le_of_ble_eq_true rfl), (Nat.le_of_ble_eq_true rfl)⟩ ⟨(Nat.le_of_ble_eq_true rfl), (Nat.le_of_ble_eq_true rfl)⟩ ?_
  refine r_w (w' := WM cy ba ra hf hq kn (nI 1) sm ++ Y) rfl ?_
  refine r_ifN_eq (a := 1) (tgt := 16) C (by omega) dX4_clear_11 (by decide) (fun h11_1 => ?_) (fun h11_1 => ?_)
  · exact absurd h11_1 (by omega)
  · skip
    refine r_iconst (v := (nI 0)) C dX4_clear_14 (by decide) ?_
    exact r_iret C hr dX4_clear_15 ⟨rfl, rfl⟩ (Nat.le_of_ble_eq_true rfl) (Nat.le_of_ble_eq_true rfl)
theorem dX4_clear_16 : decode cX4_clear 16 = .ok (.aload_n 0, 1) := dqo_42 (kb_of ke_X4_clear 16 rfl)
theorem dX4_clear_17 : decode cX4_clear 17 = .ok (.iload_n 1, 1) := dqo_27 (kb_of ke_X4_clear 17 rfl)
theorem dX4_clear_18 : decode cX4_clear 18 = .ok (.invokevirtual 59, 3) := dqo_182 0 59 (kb_of ke_X4_clear 18 rfl) (kb_of ke_X4_clear 19 rfl) (kb_of ke_X4_clear 20 rfl)
theorem dX4_clear_21 : decode cX4_clear 21 = .ok (.istore_n 2, 1) := dqo_61 (kb_of ke_X4_clear 21 rfl)
theorem dX4_clear_22 : decode cX4_clear 22 = .ok (.iload_n 2, 1) := dqo_28 (kb_of ke_X4_clear 22 rfl)
theorem dX4_clear_23 : decode cX4_clear 23 = .ok (.ifCond .ne 5, 3) := dqo_154 0 5 (by decide) (kb_of ke_X4_clear 23 rfl) (kb_of ke_X4_clear 24 rfl) (kb_of ke_X4_clear 25 rfl)
theorem dX4_clear_26 : decode cX4_clear 26 = .ok (.iconst 0, 1) := dqo_3 (kb_of ke_X4_clear 26 rfl)
theorem dX4_clear_27 : decode cX4_clear 27 = .ok (.ireturn, 1) := dqo_172 (kb_of ke_X4_clear 27 rfl)
set_option maxRecDepth 100000 in
set_option maxHeartbeats 4000000 in
theorem D_clear_0 {l : Launch} {D : va_G} {cy : Nat → ClassId} {X : (Nat → Prop) → State → Heap → Prop} {ba ra : Nat → Nat} {hf : Nat → Nat → Nat} {hq : Nat → Nat → Int32} {kn th : Int32} {sm : Int64} {Y : va_W} {f : Nat → Nat → Nat} {r : Nat → Nat → Int32} {w : Nat} (hX : EnvM X cy) (hC : CInv f) (hM : MR f r hf hq) (hw : w < 8) (h5w : f 5 w = 1) (hz : f 4 w = 0) : Cd l D cy X yX4_clear cX4_clear 3 (some .int) (rmk 9 4 48 420) [.ref (ba 9), .int (nI w)] (WM cy ba ra hf hq kn th sm ++ Y) (some (.int (nI 0))) (WM cy ba ra hf hq kn (nI 0) sm ++ Y) := by
  have hG := hM.1
  have h5M := hM.h5M hC
  have h4M := hC.h4M
  have h9a := hM.h9a hC
  have h6a := hM.h6a
  have hU := hM.hU hC
  have qw := hM.wh hC hw h5w
  refine Cm.of [some (.ref (ba 9)), some (.int (nI w)), none] pn_X4 rfl (Nat.le_of_ble_eq_true rfl) ?_
  intro p e s m args below meth c A C hE hr hnt hn
  refine r_aload_n C dX4_clear_0 rfl ?_
  refine r_aload_n C dX4_clear_1 rfl ?_
  refine r_iload_n C dX4_clear_2 rfl ?_
  refine d_V (st := [.ref (ba 9)]) hX.1.stb C hE (D_isNoWhere0 (ba := ba) (ra := ra) (hf := hf) (hq := hq) (kn := kn) (th := th) (sm := sm) (Y := Y) (w := w) hX (by omega) (by omega)) pk_X4_isNoWhere qm_X4_55 0 8 rfl rfl wm_0 rfl rfl (Nat.le_of_ble_eq_true rfl) dX4_clear_3 ⟨(Nat.le_of_ble_eq_true rfl), (Nat.le_of_ble_eq_true rfl)⟩ ⟨(Nat.le_of_ble_eq_true rfl), (Nat.le_of_ble_eq_true rfl)⟩ ?_
  refine r_w (w' := WM cy ba ra hf hq kn th sm ++ Y) rfl ?_
  refine r_iconst (v := (nI 0)) C dX4_clear_6 (by decide) ?_
  refine r_iconst (v := (nI 0)) C dX4_clear_7 (by decide) ?_
  refine d_V (st := []) hX.1.stb C hE (D_fails0 (ba := ba) (ra := ra) (hf := hf) (hq := hq) (kn := kn) (th := th) (sm := sm) (Y := Y)  hX ) pk_X4_fails qm_X4_84 0 8 rfl rfl wm_0 rfl rfl (Nat.le_of_ble_eq_true rfl) dX4_clear_8 ⟨(Nat.le_of_ble_eq_true rfl), (Nat.le_of_ble_eq_true rfl)⟩ ⟨(Nat.le_of_ble_eq_true rfl), (Nat.le_of_ble_eq_true rfl)⟩ ?_
  refine r_w (w' := WM cy ba ra hf hq kn (nI 0) sm ++ Y) rfl ?_
  refine r_ifN_eq (a := 0) (tgt := 16) C (by omega) dX4_clear_11 (by decide) (fun h11_1 => ?_) (fun h11_1 => ?_)
  · skip
    refine r_aload_n C dX4_clear_16 rfl ?_
    refine r_iload_n C dX4_clear_17 rfl ?_
    refine d_V (st := []) hX.1.stb C hE (D_sizeOf (ba := ba) (ra := ra) (hf := hf) (hq := hq) (kn := kn) (th := (nI 0)) (sm := sm) (Y := Y) (w := w) hX (by omega)) pk_X4_sizeOf qm_X4_59 0 8 rfl rfl wm_0 rfl rfl (Nat.le_of_ble_eq_true rfl) dX4_clear_18 ⟨(Nat.le_of_ble_eq_true rfl), (Nat.le_of_ble_eq_true rfl)⟩ ⟨(Nat.le_of_ble_eq_true rfl), (Nat.le_of_ble_eq_true rfl)⟩ ?_
    refine r_w (w' := WM cy ba ra hf hq kn (nI 0) sm ++ Y) rfl ?_
    refine r_istore_n C dX4_clear_21 (by decide) rfl ?_
    refine r_iload_n C dX4_clear_22 rfl ?_
    refine r_ifN_ne (a := (hf 4 w)) (tgt := 28) C (by omega) dX4_clear_23 (by decide) (fun h23_2 => ?_) (fun h23_2 => ?_)
    · exact absurd h23_2 (by omega)
    · skip
      refine r_iconst (v := (nI 0)) C dX4_clear_26 (by decide) ?_
      exact r_iret C hr dX4_clear_27 ⟨rfl, rfl⟩ (Nat.le_of_ble_eq_true rfl) (Nat.le_of_ble_eq_true rfl)
  · exact absurd h11_1 (by omega)
theorem dX4_clear_28 : decode cX4_clear 28 = .ok (.aload_n 0, 1) := dqo_42 (kb_of ke_X4_clear 28 rfl)
theorem dX4_clear_29 : decode cX4_clear 29 = .ok (.iload_n 1, 1) := dqo_27 (kb_of ke_X4_clear 29 rfl)
theorem dX4_clear_30 : decode cX4_clear 30 = .ok (.iconst (-1), 1) := dqo_2 (kb_of ke_X4_clear 30 rfl)
theorem dX4_clear_31 : decode cX4_clear 31 = .ok (.invokevirtual 74, 3) := dqo_182 0 74 (kb_of ke_X4_clear 31 rfl) (kb_of ke_X4_clear 32 rfl) (kb_of ke_X4_clear 33 rfl)
theorem dX4_clear_34 : decode cX4_clear 34 = .ok (.aload_n 0, 1) := dqo_42 (kb_of ke_X4_clear 34 rfl)
theorem dX4_clear_35 : decode cX4_clear 35 = .ok (.iload_n 1, 1) := dqo_27 (kb_of ke_X4_clear 35 rfl)
theorem dX4_clear_36 : decode cX4_clear 36 = .ok (.iconst 0, 1) := dqo_3 (kb_of ke_X4_clear 36 rfl)
theorem dX4_clear_37 : decode cX4_clear 37 = .ok (.iload_n 2, 1) := dqo_28 (kb_of ke_X4_clear 37 rfl)
theorem dX4_clear_38 : decode cX4_clear 38 = .ok (.iconst 0, 1) := dqo_3 (kb_of ke_X4_clear 38 rfl)
theorem dX4_clear_39 : decode cX4_clear 39 = .ok (.newarray .int, 2) := dqo_188_10 (kb_of ke_X4_clear 39 rfl) (kb_of ke_X4_clear 40 rfl)
theorem dX4_clear_41 : decode cX4_clear 41 = .ok (.invokevirtual 88, 3) := dqo_182 0 88 (kb_of ke_X4_clear 41 rfl) (kb_of ke_X4_clear 42 rfl) (kb_of ke_X4_clear 43 rfl)
theorem dX4_clear_44 : decode cX4_clear 44 = .ok (.iload_n 2, 1) := dqo_28 (kb_of ke_X4_clear 44 rfl)
theorem dX4_clear_45 : decode cX4_clear 45 = .ok (.ireturn, 1) := dqo_172 (kb_of ke_X4_clear 45 rfl)
set_option maxRecDepth 100000 in
set_option maxHeartbeats 4000000 in
theorem D_clear_ok {l : Launch} {D : va_G} {cy : Nat → ClassId} {X : (Nat → Prop) → State → Heap → Prop} {ba ra : Nat → Nat} {hf : Nat → Nat → Nat} {hq : Nat → Nat → Int32} {kn th : Int32} {sm : Int64} {Y : va_W} {f : Nat → Nat → Nat} {r : Nat → Nat → Int32} {w : Nat} (hX : EnvM X cy) (hC : CInv f) (hM : MR f r hf hq) (hw : w < 8) (h5w : f 5 w = 1) (hz : 0 < f 4 w) : Cm l D cy X yX4_clear cX4_clear 3 (some .int) (rmk 9 4 48 420) [.ref (ba 9), .int (nI w)] (WM cy ba ra hf hq kn th sm ++ Y) (fun v1 w1 => ∃ ra9 : Nat → Nat, v1 = some (.int (nI (hf 4 w))) ∧ w1 = WM cy ba ra9 (lyM f (up2 (chM f hf w 4294967295) 4 (f 1 w) ((chM f hf w 4294967295) 4 (f 1 w) - (hf 4 w) + 0)) w 0 (hf 4 w)) (upR hq (f 1 w) (layF (hq (f 1 w)) (fun _ => 0) (f 3 w + 0) 0 (hf 4 w) ((chM f hf w 4294967295) 4 (f 1 w) - (hf 4 w) + 0))) kn (nI 0) sm ++ Y) (fun _ => False) := by
  have hG := hM.1
  have h5M := hM.h5M hC
  have h4M := hC.h4M
  have h9a := hM.h9a hC
  have h6a := hM.h6a
  have hU := hM.hU hC
  have qw := hM.wh hC hw h5w
  refine Cm.of [some (.ref (ba 9)), some (.int (nI w)), none] pn_X4 rfl (Nat.le_of_ble_eq_true rfl) ?_
  intro p e s m args below meth c A C hE hr hnt hn
  refine r_aload_n C dX4_clear_0 rfl ?_
  refine r_aload_n C dX4_clear_1 rfl ?_
  refine r_iload_n C dX4_clear_2 rfl ?_
  refine d_V (st := [.ref (ba 9)]) hX.1.stb C hE (D_isNoWhere0 (ba := ba) (ra := ra) (hf := hf) (hq := hq) (kn := kn) (th := th) (sm := sm) (Y := Y) (w := w) hX (by omega) (by omega)) pk_X4_isNoWhere qm_X4_55 0 8 rfl rfl wm_0 rfl rfl (Nat.le_of_ble_eq_true rfl) dX4_clear_3 ⟨(Nat.le_of_ble_eq_true rfl), (Nat.le_of_ble_eq_true rfl)⟩ ⟨(Nat.le_of_ble_eq_true rfl), (Nat.le_of_ble_eq_true rfl)⟩ ?_
  refine r_w (w' := WM cy ba ra hf hq kn th sm ++ Y) rfl ?_
  refine r_iconst (v := (nI 0)) C dX4_clear_6 (by decide) ?_
  refine r_iconst (v := (nI 0)) C dX4_clear_7 (by decide) ?_
  refine d_V (st := []) hX.1.stb C hE (D_fails0 (ba := ba) (ra := ra) (hf := hf) (hq := hq) (kn := kn) (th := th) (sm := sm) (Y := Y)  hX ) pk_X4_fails qm_X4_84 0 8 rfl rfl wm_0 rfl rfl (Nat.le_of_ble_eq_true rfl) dX4_clear_8 ⟨(Nat.le_of_ble_eq_true rfl), (Nat.le_of_ble_eq_true rfl)⟩ ⟨(Nat.le_of_ble_eq_true rfl), (Nat.le_of_ble_eq_true rfl)⟩ ?_
  refine r_w (w' := WM cy ba ra hf hq kn (nI 0) sm ++ Y) rfl ?_
  refine r_ifN_eq (a := 0) (tgt := 16) C (by omega) dX4_clear_11 (by decide) (fun h11_1 => ?_) (fun h11_1 => ?_)
  · skip
    refine r_aload_n C dX4_clear_16 rfl ?_
    refine r_iload_n C dX4_clear_17 rfl ?_
    refine d_V (st := []) hX.1.stb C hE (D_sizeOf (ba := ba) (ra := ra) (hf := hf) (hq := hq) (kn := kn) (th := (nI 0)) (sm := sm) (Y := Y) (w := w) hX (by omega)) pk_X4_sizeOf qm_X4_59 0 8 rfl rfl wm_0 rfl rfl (Nat.le_of_ble_eq_true rfl) dX4_clear_18 ⟨(Nat.le_of_ble_eq_true rfl), (Nat.le_of_ble_eq_true rfl)⟩ ⟨(Nat.le_of_ble_eq_true rfl), (Nat.le_of_ble_eq_true rfl)⟩ ?_
    refine r_w (w' := WM cy ba ra hf hq kn (nI 0) sm ++ Y) rfl ?_
    refine r_istore_n C dX4_clear_21 (by decide) rfl ?_
    refine r_iload_n C dX4_clear_22 rfl ?_
    refine r_ifN_ne (a := (hf 4 w)) (tgt := 28) C (by omega) dX4_clear_23 (by decide) (fun h23_2 => ?_) (fun h23_2 => ?_)
    · skip
      refine r_aload_n C dX4_clear_28 rfl ?_
      refine r_iload_n C dX4_clear_29 rfl ?_
      refine r_iconst (v := (nI 4294967295)) C dX4_clear_30 (by decide) ?_
      refine d_Vv (st := []) hX.1.stb C hE (D_changed (ba := ba) (ra := ra) (hf := hf) (hq := hq) (kn := kn) (th := (nI 0)) (sm := sm) (Y := Y) (f := f) (w := w) (d0 := 4294967295) hX hC (MG.same (fun _ => rfl) (fun _ => rfl) hG) (by omega) (by omega) (by omega) h5M h9a hU) pk_X4_changed qm_X4_74 0 8 rfl rfl wm_0 rfl rfl (Nat.le_of_ble_eq_true rfl) dX4_clear_31 ⟨(Nat.le_of_ble_eq_true rfl), (Nat.le_of_ble_eq_true rfl)⟩ ⟨(Nat.le_of_ble_eq_true rfl), (Nat.le_of_ble_eq_true rfl)⟩ ?_
      refine r_w (w' := WM cy ba ra (chM f hf w 4294967295) hq kn (nI 0) sm ++ Y) rfl ?_
      refine r_aload_n C dX4_clear_34 rfl ?_
      refine r_iload_n C dX4_clear_35 rfl ?_
      refine r_iconst (v := (nI 0)) C dX4_clear_36 (by decide) ?_
      refine r_iload_n C dX4_clear_37 rfl ?_
      refine r_iconst (v := (nI 0)) C dX4_clear_38 (by decide) ?_
      refine r_newT C .int .int 1 rfl (by simp) qa_int (n := 0) (show 0 < 1000000 from Nat.lt_of_le_of_lt (show 0 ≤ 0 from by omega) (by decide)) (2) (4) (Nat.le_of_ble_eq_true rfl) (Nat.add_le_add (Nat.le_refl _) (show 0 ≤ 0 from by omega)) (Nat.le_of_ble_eq_true rfl) (Nat.le_of_ble_eq_true rfl) dX4_clear_39 (fun b_3 => ?_)
      refine r_w (w' := WM cy ba ra (chM f hf w 4294967295) hq kn (nI 0) sm ++ (Y ++ [(b_3, .inl (cy 1, 0, .inl (fun _ => 0)))])) (by simp only [List.append_assoc, List.cons_append, List.nil_append]) ?_
      refine e_V (st := []) hX.1.stb C hE (D_lay (ba := ba) (ra := ra) (hf := (chM f hf w 4294967295)) (hq := hq) (kn := kn) (th := (nI 0)) (sm := sm) (f := f) (w := w) (p0 := 0) (o0 := (hf 4 w)) (b0 := b_3) (n0 := 0) (g0 := (fun _ => 0)) (j0 := (Y.length + 0)) hX hC (MG.same (fun _ => rfl) (fun _ => rfl) hG) (by omega) (by omega) (show f 3 w + 0 + (hf 4 w) ≤ (hf 4 (f 1 w)) from (by omega)) (show (hf 4 (f 1 w)) ≤ 12 from (by omega)) (show (hf 4 (f 1 w)) - (hf 4 w) + 0 ≤ 12 from (by omega)) (fun x hx hh => (show hf 4 w ≤ hf 4 x + 0 from by have h8 := hM.ho hC hw h5w hx hh; omega)) ((ya_x 0).trans rfl)) pk_X4_lay qm_X4_88 0 8 rfl rfl wm_0 rfl rfl (Nat.le_of_ble_eq_true rfl) dX4_clear_41 ⟨(Nat.le_of_ble_eq_true rfl), (Nat.le_of_ble_eq_true rfl)⟩ ⟨(Nat.le_of_ble_eq_true rfl), (Nat.le_of_ble_eq_true rfl)⟩ (fun ra_4 => ?_)
      refine r_w (w' := WM cy ba ra_4 (lyM f (up2 (chM f hf w 4294967295) 4 (f 1 w) ((chM f hf w 4294967295) 4 (f 1 w) - (hf 4 w) + 0)) w 0 (hf 4 w)) (upR hq (f 1 w) (layF (hq (f 1 w)) (fun _ => 0) (f 3 w + 0) 0 (hf 4 w) ((chM f hf w 4294967295) 4 (f 1 w) - (hf 4 w) + 0))) kn (nI 0) sm ++ (Y ++ [(b_3, .inl (cy 1, 0, .inl (fun _ => 0)))])) rfl ?_
      refine r_st (st' := []) rfl ?_
      refine r_iload_n C dX4_clear_44 rfl ?_
      refine r_pre ?_
      exact r_iret C hr dX4_clear_45 ⟨_, rfl, rfl⟩ (Nat.le_of_ble_eq_true rfl) (Nat.le_of_ble_eq_true rfl)
    · exact absurd h23_2 (by omega)
  · exact absurd h11_1 (by omega)
theorem dX4_splice_0 : decode cX4_splice 0 = .ok (.aload_n 0, 1) := dqo_42 (kb_X4_splice_0 0 rfl)
theorem dX4_splice_1 : decode cX4_splice 1 = .ok (.aload_n 0, 1) := dqo_42 (kb_X4_splice_0 1 rfl)
theorem dX4_splice_2 : decode cX4_splice 2 = .ok (.iload_n 1, 1) := dqo_27 (kb_X4_splice_0 2 rfl)
theorem dX4_splice_3 : decode cX4_splice 3 = .ok (.invokevirtual 55, 3) := dqo_182 0 55 (kb_X4_splice_0 3 rfl) (kb_X4_splice_0 4 rfl) (kb_X4_splice_0 5 rfl)
theorem dX4_splice_6 : decode cX4_splice 6 = .ok (.ifCond .ne 12, 3) := dqo_154 0 12 (by decide) (kb_X4_splice_0 6 rfl) (kb_X4_splice_0 7 rfl) (kb_X4_splice_0 8 rfl)
theorem dX4_splice_18 : decode cX4_splice 18 = .ok (.iconst 1, 1) := dqo_4 (kb_X4_splice_0 18 rfl)
theorem dX4_splice_19 : decode cX4_splice 19 = .ok (.goto 4, 3) := dqo_167 0 4 (by decide) (kb_X4_splice_0 19 rfl) (kb_X4_splice_0 20 rfl) (kb_X4_splice_0 21 rfl)
theorem dX4_splice_23 : decode cX4_splice 23 = .ok (.iconst 0, 1) := dqo_3 (kb_X4_splice_0 23 rfl)
theorem dX4_splice_24 : decode cX4_splice 24 = .ok (.iconst 0, 1) := dqo_3 (kb_X4_splice_0 24 rfl)
theorem dX4_splice_25 : decode cX4_splice 25 = .ok (.invokevirtual 84, 3) := dqo_182 0 84 (kb_X4_splice_0 25 rfl) (kb_X4_splice_0 26 rfl) (kb_X4_splice_0 27 rfl)
theorem dX4_splice_28 : decode cX4_splice 28 = .ok (.ifCond .eq 5, 3) := dqo_153 0 5 (by decide) (kb_X4_splice_0 28 rfl) (kb_X4_splice_0 29 rfl) (kb_X4_splice_0 30 rfl)
theorem dX4_splice_31 : decode cX4_splice 31 = .ok (.iconst 0, 1) := dqo_3 (kb_X4_splice_0 31 rfl)
theorem dX4_splice_32 : decode cX4_splice 32 = .ok (.ireturn, 1) := dqo_172 (kb_X4_splice_0 32 rfl)
set_option maxRecDepth 100000 in
set_option maxHeartbeats 4000000 in
theorem D_splice_noW {l : Launch} {D : va_G} {cy : Nat → ClassId} {X : (Nat → Prop) → State → Heap → Prop} {ba ra : Nat → Nat} {hf : Nat → Nat → Nat} {hq : Nat → Nat → Int32} {kn th : Int32} {sm : Int64} {Y : va_W} {f : Nat → Nat → Nat} {r : Nat → Nat → Int32} {x : Int32} {y0 : Int32} {y1 : Int32} {y2 : Int32} (hX : EnvM X cy) (hC : CInv f) (hM : MR f r hf hq) (hno : noW f x) : Cd l D cy X yX4_splice cX4_splice 6 (some .int) (rmk 9 4 48 420) [.ref (ba 9), .int x, .int y0, .int y1, .int y2] (WM cy ba ra hf hq kn th sm ++ Y) (some (.int (nI 0))) (WM cy ba ra hf hq kn (nI 1) sm ++ Y) := by
  have hG := hM.1
  have h5M := hM.h5M hC
  have h4M := hC.h4M
  have h9a := hM.h9a hC
  have h6a := hM.h6a
  have hU := hM.hU hC
  refine Cm.of [some (.ref (ba 9)), some (.int x), some (.int y0), some (.int y1), some (.int y2), none] pn_X4 rfl (Nat.le_of_ble_eq_true rfl) ?_
  intro p e s m args below meth c A C hE hr hnt hn
  refine r_aload_n C dX4_splice_0 rfl ?_
  refine r_aload_n C dX4_splice_1 rfl ?_
  refine r_iload_n C dX4_splice_2 rfl ?_
  refine d_V (st := [.ref (ba 9)]) hX.1.stb C hE (D_isNoWhere1 (ba := ba) (ra := ra) (hf := hf) (hq := hq) (kn := kn) (th := th) (sm := sm) (Y := Y) (f := f) (x := (x)) hX h5M h4M hno) pk_X4_isNoWhere qm_X4_55 0 8 rfl rfl wm_0 rfl rfl (Nat.le_of_ble_eq_true rfl) dX4_splice_3 ⟨(Nat.le_of_ble_eq_true rfl), (Nat.le_of_ble_eq_true rfl)⟩ ⟨(Nat.le_of_ble_eq_true rfl), (Nat.le_of_ble_eq_true rfl)⟩ ?_
  refine r_w (w' := WM cy ba ra hf hq kn th sm ++ Y) rfl ?_
  refine r_ifN_ne (a := 1) (tgt := 18) C (by omega) dX4_splice_6 (by decide) (fun h6_1 => ?_) (fun h6_1 => ?_)
  · skip
    refine r_iconst (v := (nI 1)) C dX4_splice_18 (by decide) ?_
    refine r_goto (tgt := 23) C dX4_splice_19 (by decide) ?_
    refine r_iconst (v := (nI 0)) C dX4_splice_23 (by decide) ?_
    refine r_iconst (v := (nI 0)) C dX4_splice_24 (by decide) ?_
    refine d_V (st := []) hX.1.stb C hE (D_fails1 (ba := ba) (ra := ra) (hf := hf) (hq := hq) (kn := kn) (th := th) (sm := sm) (Y := Y) (b0 := 0) (d0 := 0) hX ) pk_X4_fails qm_X4_84 0 8 rfl rfl wm_0 rfl rfl (Nat.le_of_ble_eq_true rfl) dX4_splice_25 ⟨(Nat.le_of_ble_eq_true rfl), (Nat.le_of_ble_eq_true rfl)⟩ ⟨(Nat.le_of_ble_eq_true rfl), (Nat.le_of_ble_eq_true rfl)⟩ ?_
    refine r_w (w' := WM cy ba ra hf hq kn (nI 1) sm ++ Y) rfl ?_
    refine r_ifN_eq (a := 1) (tgt := 33) C (by omega) dX4_splice_28 (by decide) (fun h28_2 => ?_) (fun h28_2 => ?_)
    · exact absurd h28_2 (by omega)
    · skip
      refine r_iconst (v := (nI 0)) C dX4_splice_31 (by decide) ?_
      exact r_iret C hr dX4_splice_32 ⟨rfl, rfl⟩ (Nat.le_of_ble_eq_true rfl) (Nat.le_of_ble_eq_true rfl)
  · exact absurd h6_1 (by omega)
theorem dX4_splice_9 : decode cX4_splice 9 = .ok (.aload_n 0, 1) := dqo_42 (kb_X4_splice_0 9 rfl)
theorem dX4_splice_10 : decode cX4_splice 10 = .ok (.iload 4, 2) := dqo_21 4 (kb_X4_splice_0 10 rfl) (kb_X4_splice_0 11 rfl)
theorem dX4_splice_12 : decode cX4_splice 12 = .ok (.invokevirtual 55, 3) := dqo_182 0 55 (kb_X4_splice_0 12 rfl) (kb_X4_splice_0 13 rfl) (kb_X4_splice_0 14 rfl)
theorem dX4_splice_15 : decode cX4_splice 15 = .ok (.ifCond .eq 7, 3) := dqo_153 0 7 (by decide) (kb_X4_splice_0 15 rfl) (kb_X4_splice_0 16 rfl) (kb_X4_splice_0 17 rfl)
set_option maxRecDepth 100000 in
set_option maxHeartbeats 4000000 in
theorem D_splice_noW2 {l : Launch} {D : va_G} {cy : Nat → ClassId} {X : (Nat → Prop) → State → Heap → Prop} {ba ra : Nat → Nat} {hf : Nat → Nat → Nat} {hq : Nat → Nat → Int32} {kn th : Int32} {sm : Int64} {Y : va_W} {f : Nat → Nat → Nat} {r : Nat → Nat → Int32} {w : Nat} {y0 : Int32} {y1 : Int32} {x : Int32} (hX : EnvM X cy) (hC : CInv f) (hM : MR f r hf hq) (hw : w < 8) (h5w : f 5 w = 1) (hno : noW f x) : Cd l D cy X yX4_splice cX4_splice 6 (some .int) (rmk 9 4 48 420) [.ref (ba 9), .int (nI w), .int y0, .int y1, .int x] (WM cy ba ra hf hq kn th sm ++ Y) (some (.int (nI 0))) (WM cy ba ra hf hq kn (nI 1) sm ++ Y) := by
  have hG := hM.1
  have h5M := hM.h5M hC
  have h4M := hC.h4M
  have h9a := hM.h9a hC
  have h6a := hM.h6a
  have hU := hM.hU hC
  have qw := hM.wh hC hw h5w
  refine Cm.of [some (.ref (ba 9)), some (.int (nI w)), some (.int y0), some (.int y1), some (.int x), none] pn_X4 rfl (Nat.le_of_ble_eq_true rfl) ?_
  intro p e s m args below meth c A C hE hr hnt hn
  refine r_aload_n C dX4_splice_0 rfl ?_
  refine r_aload_n C dX4_splice_1 rfl ?_
  refine r_iload_n C dX4_splice_2 rfl ?_
  refine d_V (st := [.ref (ba 9)]) hX.1.stb C hE (D_isNoWhere0 (ba := ba) (ra := ra) (hf := hf) (hq := hq) (kn := kn) (th := th) (sm := sm) (Y := Y) (w := w) hX (by omega) (by omega)) pk_X4_isNoWhere qm_X4_55 0 8 rfl rfl wm_0 rfl rfl (Nat.le_of_ble_eq_true rfl) dX4_splice_3 ⟨(Nat.le_of_ble_eq_true rfl), (Nat.le_of_ble_eq_true rfl)⟩ ⟨(Nat.le_of_ble_eq_true rfl), (Nat.le_of_ble_eq_true rfl)⟩ ?_
  refine r_w (w' := WM cy ba ra hf hq kn th sm ++ Y) rfl ?_
  refine r_ifN_ne (a := 0) (tgt := 18) C (by omega) dX4_splice_6 (by decide) (fun h6_1 => ?_) (fun h6_1 => ?_)
  · exact absurd h6_1 (by omega)
  · skip
    refine r_aload_n C dX4_splice_9 rfl ?_
    refine r_iload C dX4_splice_10 rfl ?_
    refine d_V (st := [.ref (ba 9)]) hX.1.stb C hE (D_isNoWhere1 (ba := ba) (ra := ra) (hf := hf) (hq := hq) (kn := kn) (th := th) (sm := sm) (Y := Y) (f := f) (x := (x)) hX h5M h4M hno) pk_X4_isNoWhere qm_X4_55 0 8 rfl rfl wm_0 rfl rfl (Nat.le_of_ble_eq_true rfl) dX4_splice_12 ⟨(Nat.le_of_ble_eq_true rfl), (Nat.le_of_ble_eq_true rfl)⟩ ⟨(Nat.le_of_ble_eq_true rfl), (Nat.le_of_ble_eq_true rfl)⟩ ?_
    refine r_w (w' := WM cy ba ra hf hq kn th sm ++ Y) rfl ?_
    refine r_ifN_eq (a := 1) (tgt := 22) C (by omega) dX4_splice_15 (by decide) (fun h15_2 => ?_) (fun h15_2 => ?_)
    · exact absurd h15_2 (by omega)
    · skip
      refine r_iconst (v := (nI 1)) C dX4_splice_18 (by decide) ?_
      refine r_goto (tgt := 23) C dX4_splice_19 (by decide) ?_
      refine r_iconst (v := (nI 0)) C dX4_splice_23 (by decide) ?_
      refine r_iconst (v := (nI 0)) C dX4_splice_24 (by decide) ?_
      refine d_V (st := []) hX.1.stb C hE (D_fails1 (ba := ba) (ra := ra) (hf := hf) (hq := hq) (kn := kn) (th := th) (sm := sm) (Y := Y) (b0 := 0) (d0 := 0) hX ) pk_X4_fails qm_X4_84 0 8 rfl rfl wm_0 rfl rfl (Nat.le_of_ble_eq_true rfl) dX4_splice_25 ⟨(Nat.le_of_ble_eq_true rfl), (Nat.le_of_ble_eq_true rfl)⟩ ⟨(Nat.le_of_ble_eq_true rfl), (Nat.le_of_ble_eq_true rfl)⟩ ?_
      refine r_w (w' := WM cy ba ra hf hq kn (nI 1) sm ++ Y) rfl ?_
      refine r_ifN_eq (a := 1) (tgt := 33) C (by omega) dX4_splice_28 (by decide) (fun h28_3 => ?_) (fun h28_3 => ?_)
      · exact absurd h28_3 (by omega)
      · skip
        refine r_iconst (v := (nI 0)) C dX4_splice_31 (by decide) ?_
        exact r_iret C hr dX4_splice_32 ⟨rfl, rfl⟩ (Nat.le_of_ble_eq_true rfl) (Nat.le_of_ble_eq_true rfl)
theorem dX4_splice_22 : decode cX4_splice 22 = .ok (.iconst 0, 1) := dqo_3 (kb_X4_splice_0 22 rfl)
theorem dX4_splice_33 : decode cX4_splice 33 = .ok (.iload_n 2, 1) := dqo_28 (kb_X4_splice_0 33 rfl)
theorem dX4_splice_34 : decode cX4_splice 34 = .ok (.ifCond .lt 17, 3) := dqo_155 0 17 (by decide) (kb_X4_splice_0 34 rfl) (kb_X4_splice_0 35 rfl) (kb_X4_splice_0 36 rfl)
theorem dX4_splice_37 : decode cX4_splice 37 = .ok (.iload_n 2, 1) := dqo_28 (kb_X4_splice_0 37 rfl)
theorem dX4_splice_38 : decode cX4_splice 38 = .ok (.iload_n 3, 1) := dqo_29 (kb_X4_splice_0 38 rfl)
theorem dX4_splice_39 : decode cX4_splice 39 = .ok (.if_icmp .gt 12, 3) := dqo_163 0 12 (by decide) (kb_X4_splice_0 39 rfl) (kb_X4_splice_0 40 rfl) (kb_X4_splice_0 41 rfl)
theorem dX4_splice_42 : decode cX4_splice 42 = .ok (.iload_n 3, 1) := dqo_29 (kb_X4_splice_0 42 rfl)
theorem dX4_splice_43 : decode cX4_splice 43 = .ok (.aload_n 0, 1) := dqo_42 (kb_X4_splice_0 43 rfl)
theorem dX4_splice_44 : decode cX4_splice 44 = .ok (.iload_n 1, 1) := dqo_27 (kb_X4_splice_0 44 rfl)
theorem dX4_splice_45 : decode cX4_splice 45 = .ok (.invokevirtual 59, 3) := dqo_182 0 59 (kb_X4_splice_0 45 rfl) (kb_X4_splice_0 46 rfl) (kb_X4_splice_0 47 rfl)
theorem dX4_splice_48 : decode cX4_splice 48 = .ok (.if_icmp .le 6, 3) := dqo_164 0 6 (by decide) (kb_X4_splice_0 48 rfl) (kb_X4_splice_0 49 rfl) (kb_X4_splice_0 50 rfl)
theorem dX4_splice_51 : decode cX4_splice 51 = .ok (.bipush (-9), 2) := dqo_16 247 (by decide) (kb_X4_splice_0 51 rfl) (kb_X4_splice_0 52 rfl)
theorem dX4_splice_53 : decode cX4_splice 53 = .ok (.ireturn, 1) := dqo_172 (kb_X4_splice_0 53 rfl)
set_option maxRecDepth 100000 in
set_option maxHeartbeats 4000000 in
theorem D_splice_ref {l : Launch} {D : va_G} {cy : Nat → ClassId} {X : (Nat → Prop) → State → Heap → Prop} {ba ra : Nat → Nat} {hf : Nat → Nat → Nat} {hq : Nat → Nat → Int32} {kn th : Int32} {sm : Int64} {Y : va_W} {f : Nat → Nat → Nat} {r : Nat → Nat → Int32} {w : Nat} {y0 : Int32} {y : Int32} {v : Nat} (hX : EnvM X cy) (hC : CInv f) (hM : MR f r hf hq) (hw : w < 8) (h5w : f 5 w = 1) (hv : v < 8) (h5v : f 5 v = 1) (hno : ¬ (0 ≤ y0 ∧ y0 ≤ y ∧ y ≤ nI (f 4 w))) : Cd l D cy X yX4_splice cX4_splice 6 (some .int) (rmk 9 4 48 420) [.ref (ba 9), .int (nI w), .int y0, .int y, .int (nI v)] (WM cy ba ra hf hq kn th sm ++ Y) (some (.int (nI 4294967287))) (WM cy ba ra hf hq kn (nI 0) sm ++ Y) := by
  have hG := hM.1
  have h5M := hM.h5M hC
  have h4M := hC.h4M
  have h9a := hM.h9a hC
  have h6a := hM.h6a
  have hU := hM.hU hC
  have qw := hM.wh hC hw h5w
  have qv := hM.wh hC hv h5v
  refine Cm.of [some (.ref (ba 9)), some (.int (nI w)), some (.int y0), some (.int y), some (.int (nI v)), none] pn_X4 rfl (Nat.le_of_ble_eq_true rfl) ?_
  intro p e s m args below meth c A C hE hr hnt hn
  refine r_aload_n C dX4_splice_0 rfl ?_
  refine r_aload_n C dX4_splice_1 rfl ?_
  refine r_iload_n C dX4_splice_2 rfl ?_
  refine d_V (st := [.ref (ba 9)]) hX.1.stb C hE (D_isNoWhere0 (ba := ba) (ra := ra) (hf := hf) (hq := hq) (kn := kn) (th := th) (sm := sm) (Y := Y) (w := w) hX (by omega) (by omega)) pk_X4_isNoWhere qm_X4_55 0 8 rfl rfl wm_0 rfl rfl (Nat.le_of_ble_eq_true rfl) dX4_splice_3 ⟨(Nat.le_of_ble_eq_true rfl), (Nat.le_of_ble_eq_true rfl)⟩ ⟨(Nat.le_of_ble_eq_true rfl), (Nat.le_of_ble_eq_true rfl)⟩ ?_
  refine r_w (w' := WM cy ba ra hf hq kn th sm ++ Y) rfl ?_
  refine r_ifN_ne (a := 0) (tgt := 18) C (by omega) dX4_splice_6 (by decide) (fun h6_1 => ?_) (fun h6_1 => ?_)
  · exact absurd h6_1 (by omega)
  · skip
    refine r_aload_n C dX4_splice_9 rfl ?_
    refine r_iload C dX4_splice_10 rfl ?_
    refine d_V (st := [.ref (ba 9)]) hX.1.stb C hE (D_isNoWhere0 (ba := ba) (ra := ra) (hf := hf) (hq := hq) (kn := kn) (th := th) (sm := sm) (Y := Y) (w := v) hX (by omega) (by omega)) pk_X4_isNoWhere qm_X4_55 0 8 rfl rfl wm_0 rfl rfl (Nat.le_of_ble_eq_true rfl) dX4_splice_12 ⟨(Nat.le_of_ble_eq_true rfl), (Nat.le_of_ble_eq_true rfl)⟩ ⟨(Nat.le_of_ble_eq_true rfl), (Nat.le_of_ble_eq_true rfl)⟩ ?_
    refine r_w (w' := WM cy ba ra hf hq kn th sm ++ Y) rfl ?_
    refine r_ifN_eq (a := 0) (tgt := 22) C (by omega) dX4_splice_15 (by decide) (fun h15_2 => ?_) (fun h15_2 => ?_)
    · skip
      refine r_iconst (v := (nI 0)) C dX4_splice_22 (by decide) ?_
      refine r_iconst (v := (nI 0)) C dX4_splice_23 (by decide) ?_
      refine r_iconst (v := (nI 0)) C dX4_splice_24 (by decide) ?_
      refine d_V (st := []) hX.1.stb C hE (D_fails0 (ba := ba) (ra := ra) (hf := hf) (hq := hq) (kn := kn) (th := th) (sm := sm) (Y := Y)  hX ) pk_X4_fails qm_X4_84 0 8 rfl rfl wm_0 rfl rfl (Nat.le_of_ble_eq_true rfl) dX4_splice_25 ⟨(Nat.le_of_ble_eq_true rfl), (Nat.le_of_ble_eq_true rfl)⟩ ⟨(Nat.le_of_ble_eq_true rfl), (Nat.le_of_ble_eq_true rfl)⟩ ?_
      refine r_w (w' := WM cy ba ra hf hq kn (nI 0) sm ++ Y) rfl ?_
      refine r_ifN_eq (a := 0) (tgt := 33) C (by omega) dX4_splice_28 (by decide) (fun h28_3 => ?_) (fun h28_3 => ?_)
      · skip
        refine r_iload_n C dX4_splice_33 rfl ?_
        refine r_if_lt (tgt := 51) C dX4_splice_34 (by decide) (fun h34_4 => ?_) (fun h34_4 => ?_)
        · first
          | fail
          | skip
            refine r_bipush (v := (nI 4294967287)) C dX4_splice_51 (by decide) ?_
            exact r_iret C hr dX4_splice_53 ⟨rfl, rfl⟩ (Nat.le_of_ble_eq_true rfl) (Nat.le_of_ble_eq_true rfl)
        · first
          | fail
          | skip
            refine r_iload_n C dX4_splice_37 rfl ?_
            refine r_iload_n C dX4_splice_38 rfl ?_
            refine r_ic_gt (tgt := 51) C dX4_splice_39 (by decide) (fun h39_5 => ?_) (fun h39_5 => ?_)
            · first
              | fail
              | skip
                refine r_bipush (v := (nI 4294967287)) C dX4_splice_51 (by decide) ?_
                exact r_iret C hr dX4_splice_53 ⟨rfl, rfl⟩ (Nat.le_of_ble_eq_true rfl) (Nat.le_of_ble_eq_true rfl)
            · first
              | fail
              | skip
                refine r_iload_n C dX4_splice_42 rfl ?_
                refine r_aload_n C dX4_splice_43 rfl ?_
                refine r_iload_n C dX4_splice_44 rfl ?_
                refine d_V (st := [.int y]) hX.1.stb C hE (D_sizeOf (ba := ba) (ra := ra) (hf := hf) (hq := hq) (kn := kn) (th := (nI 0)) (sm := sm) (Y := Y) (w := w) hX (by omega)) pk_X4_sizeOf qm_X4_59 0 8 rfl rfl wm_0 rfl rfl (Nat.le_of_ble_eq_true rfl) dX4_splice_45 ⟨(Nat.le_of_ble_eq_true rfl), (Nat.le_of_ble_eq_true rfl)⟩ ⟨(Nat.le_of_ble_eq_true rfl), (Nat.le_of_ble_eq_true rfl)⟩ ?_
                refine r_w (w' := WM cy ba ra hf hq kn (nI 0) sm ++ Y) rfl ?_
                refine r_ic_le (tgt := 54) C dX4_splice_48 (by decide) (fun h48_6 => ?_) (fun h48_6 => ?_)
                · exact absurd ⟨Int32.not_lt.mp (by assumption), Int32.not_lt.mp (by assumption), by rw [← qw.1]; exact h48_6⟩ hno
                · skip
                  refine r_bipush (v := (nI 4294967287)) C dX4_splice_51 (by decide) ?_
                  exact r_iret C hr dX4_splice_53 ⟨rfl, rfl⟩ (Nat.le_of_ble_eq_true rfl) (Nat.le_of_ble_eq_true rfl)
      · exact absurd h28_3 (by omega)
    · exact absurd h15_2 (by omega)
theorem pk_X4_items : PkV RX4 yX4_items cX4_items 4 (some (.array .int)) 1 := ⟨⟨qi_X4_items, qs_X4_items, qz_X4, qc_X4_items⟩, rfl, mh_X4.1, mh_X4.2, pd_22⟩
theorem dX4_splice_54 : decode cX4_splice 54 = .ok (.aload_n 0, 1) := dqo_42 (kb_X4_splice_0 54 rfl)
theorem dX4_splice_55 : decode cX4_splice 55 = .ok (.iload 4, 2) := dqo_21 4 (kb_X4_splice_0 55 rfl) (kb_X4_splice_0 56 rfl)
theorem dX4_splice_57 : decode cX4_splice 57 = .ok (.invokevirtual 95, 3) := dqo_182 0 95 (kb_X4_splice_0 57 rfl) (kb_X4_splice_0 58 rfl) (kb_X4_splice_0 59 rfl)
theorem dX4_splice_60 : decode cX4_splice 60 = .ok (.astore 5, 2) := dqo_58 5 (kb_X4_splice_0 60 rfl) (kb_X4_splice_0 61 rfl)
theorem dX4_splice_62 : decode cX4_splice 62 = .ok (.aload_n 0, 1) := dqo_42 (kb_X4_splice_0 62 rfl)
theorem dX4_splice_63 : decode cX4_splice 63 = .ok (.iconst 0, 1) := dqo_3 (kb_X4_splice_0 63 rfl)
theorem dX4_splice_64 : decode cX4_splice 64 = .ok (.aload_n 0, 1) := dqo_42 (kb_X4_splice_1 0 rfl)
theorem dX4_splice_65 : decode cX4_splice 65 = .ok (.getfield 15, 3) := dqo_180 0 15 (kb_X4_splice_1 1 rfl) (kb_X4_splice_1 2 rfl) (kb_X4_splice_1 3 rfl)
theorem dX4_splice_68 : decode cX4_splice 68 = .ok (.aload_n 0, 1) := dqo_42 (kb_X4_splice_1 4 rfl)
theorem dX4_splice_69 : decode cX4_splice 69 = .ok (.iload_n 1, 1) := dqo_27 (kb_X4_splice_1 5 rfl)
theorem dX4_splice_70 : decode cX4_splice 70 = .ok (.invokevirtual 48, 3) := dqo_182 0 48 (kb_X4_splice_1 6 rfl) (kb_X4_splice_1 7 rfl) (kb_X4_splice_1 8 rfl)
theorem dX4_splice_73 : decode cX4_splice 73 = .ok (.aaload, 1) := dqo_50 (kb_X4_splice_1 9 rfl)
theorem dX4_splice_74 : decode cX4_splice 74 = .ok (.arraylength, 1) := dqo_190 (kb_X4_splice_1 10 rfl)
theorem dX4_splice_75 : decode cX4_splice 75 = .ok (.iload_n 3, 1) := dqo_29 (kb_X4_splice_1 11 rfl)
theorem dX4_splice_76 : decode cX4_splice 76 = .ok (.iload_n 2, 1) := dqo_28 (kb_X4_splice_1 12 rfl)
theorem dX4_splice_77 : decode cX4_splice 77 = .ok (.isub, 1) := dqo_100 (kb_X4_splice_1 13 rfl)
theorem dX4_splice_78 : decode cX4_splice 78 = .ok (.isub, 1) := dqo_100 (kb_X4_splice_1 14 rfl)
theorem dX4_splice_79 : decode cX4_splice 79 = .ok (.aload 5, 2) := dqo_25 5 (kb_X4_splice_1 15 rfl) (kb_X4_splice_1 16 rfl)
theorem dX4_splice_81 : decode cX4_splice 81 = .ok (.arraylength, 1) := dqo_190 (kb_X4_splice_1 17 rfl)
theorem dX4_splice_82 : decode cX4_splice 82 = .ok (.iadd, 1) := dqo_96 (kb_X4_splice_1 18 rfl)
theorem dX4_splice_83 : decode cX4_splice 83 = .ok (.bipush 12, 2) := dqo_16 12 (by decide) (kb_X4_splice_1 19 rfl) (kb_X4_splice_1 20 rfl)
theorem dX4_splice_85 : decode cX4_splice 85 = .ok (.if_icmp .le 7, 3) := dqo_164 0 7 (by decide) (kb_X4_splice_1 21 rfl) (kb_X4_splice_1 22 rfl) (kb_X4_splice_1 23 rfl)
theorem dX4_splice_88 : decode cX4_splice 88 = .ok (.iconst 1, 1) := dqo_4 (kb_X4_splice_1 24 rfl)
theorem dX4_splice_89 : decode cX4_splice 89 = .ok (.goto 4, 3) := dqo_167 0 4 (by decide) (kb_X4_splice_1 25 rfl) (kb_X4_splice_1 26 rfl) (kb_X4_splice_1 27 rfl)
theorem dX4_splice_93 : decode cX4_splice 93 = .ok (.iconst 0, 1) := dqo_3 (kb_X4_splice_1 29 rfl)
theorem dX4_splice_94 : decode cX4_splice 94 = .ok (.invokevirtual 84, 3) := dqo_182 0 84 (kb_X4_splice_1 30 rfl) (kb_X4_splice_1 31 rfl) (kb_X4_splice_1 32 rfl)
theorem dX4_splice_97 : decode cX4_splice 97 = .ok (.ifCond .eq 5, 3) := dqo_153 0 5 (by decide) (kb_X4_splice_1 33 rfl) (kb_X4_splice_1 34 rfl) (kb_X4_splice_1 35 rfl)
theorem dX4_splice_100 : decode cX4_splice 100 = .ok (.iconst 0, 1) := dqo_3 (kb_X4_splice_1 36 rfl)
theorem dX4_splice_101 : decode cX4_splice 101 = .ok (.ireturn, 1) := dqo_172 (kb_X4_splice_1 37 rfl)
set_option maxRecDepth 100000 in
set_option maxHeartbeats 4000000 in
theorem D_splice_full {l : Launch} {D : va_G} {cy : Nat → ClassId} {X : (Nat → Prop) → State → Heap → Prop} {ba ra : Nat → Nat} {hf : Nat → Nat → Nat} {hq : Nat → Nat → Int32} {kn th : Int32} {sm : Int64} {Y : va_W} {f : Nat → Nat → Nat} {r : Nat → Nat → Int32} {w : Nat} {p0 : Nat} {q0 : Nat} {v : Nat} (hX : EnvM X cy) (hC : CInv f) (hM : MR f r hf hq) (hw : w < 8) (h5w : f 5 w = 1) (hv : v < 8) (h5v : f 5 v = 1) (hp : p0 ≤ q0) (hq0 : q0 ≤ f 4 w) (hfull : 12 < f 4 (f 1 w) + f 4 v - (q0 - p0)) : Cd l D cy X yX4_splice cX4_splice 6 (some .int) (rmk 9 4 48 420) [.ref (ba 9), .int (nI w), .int (nI p0), .int (nI q0), .int (nI v)] (WM cy ba ra hf hq kn th sm ++ Y) (some (.int (nI 0))) (WM cy ba ra hf hq kn (nI 2) sm ++ Y) := by
  have hG := hM.1
  have h5M := hM.h5M hC
  have h4M := hC.h4M
  have h9a := hM.h9a hC
  have h6a := hM.h6a
  have hU := hM.hU hC
  have qw := hM.wh hC hw h5w
  have qv := hM.wh hC hv h5v
  refine Cm.of [some (.ref (ba 9)), some (.int (nI w)), some (.int (nI p0)), some (.int (nI q0)), some (.int (nI v)), none] pn_X4 rfl (Nat.le_of_ble_eq_true rfl) ?_
  intro p e s m args below meth c A C hE hr hnt hn
  refine r_aload_n C dX4_splice_0 rfl ?_
  refine r_aload_n C dX4_splice_1 rfl ?_
  refine r_iload_n C dX4_splice_2 rfl ?_
  refine d_V (st := [.ref (ba 9)]) hX.1.stb C hE (D_isNoWhere0 (ba := ba) (ra := ra) (hf := hf) (hq := hq) (kn := kn) (th := th) (sm := sm) (Y := Y) (w := w) hX (by omega) (by omega)) pk_X4_isNoWhere qm_X4_55 0 8 rfl rfl wm_0 rfl rfl (Nat.le_of_ble_eq_true rfl) dX4_splice_3 ⟨(Nat.le_of_ble_eq_true rfl), (Nat.le_of_ble_eq_true rfl)⟩ ⟨(Nat.le_of_ble_eq_true rfl), (Nat.le_of_ble_eq_true rfl)⟩ ?_
  refine r_w (w' := WM cy ba ra hf hq kn th sm ++ Y) rfl ?_
  refine r_ifN_ne (a := 0) (tgt := 18) C (by omega) dX4_splice_6 (by decide) (fun h6_1 => ?_) (fun h6_1 => ?_)
  · exact absurd h6_1 (by omega)
  · skip
    refine r_aload_n C dX4_splice_9 rfl ?_
    refine r_iload C dX4_splice_10 rfl ?_
    refine d_V (st := [.ref (ba 9)]) hX.1.stb C hE (D_isNoWhere0 (ba := ba) (ra := ra) (hf := hf) (hq := hq) (kn := kn) (th := th) (sm := sm) (Y := Y) (w := v) hX (by omega) (by omega)) pk_X4_isNoWhere qm_X4_55 0 8 rfl rfl wm_0 rfl rfl (Nat.le_of_ble_eq_true rfl) dX4_splice_12 ⟨(Nat.le_of_ble_eq_true rfl), (Nat.le_of_ble_eq_true rfl)⟩ ⟨(Nat.le_of_ble_eq_true rfl), (Nat.le_of_ble_eq_true rfl)⟩ ?_
    refine r_w (w' := WM cy ba ra hf hq kn th sm ++ Y) rfl ?_
    refine r_ifN_eq (a := 0) (tgt := 22) C (by omega) dX4_splice_15 (by decide) (fun h15_2 => ?_) (fun h15_2 => ?_)
    · skip
      refine r_iconst (v := (nI 0)) C dX4_splice_22 (by decide) ?_
      refine r_iconst (v := (nI 0)) C dX4_splice_23 (by decide) ?_
      refine r_iconst (v := (nI 0)) C dX4_splice_24 (by decide) ?_
      refine d_V (st := []) hX.1.stb C hE (D_fails0 (ba := ba) (ra := ra) (hf := hf) (hq := hq) (kn := kn) (th := th) (sm := sm) (Y := Y)  hX ) pk_X4_fails qm_X4_84 0 8 rfl rfl wm_0 rfl rfl (Nat.le_of_ble_eq_true rfl) dX4_splice_25 ⟨(Nat.le_of_ble_eq_true rfl), (Nat.le_of_ble_eq_true rfl)⟩ ⟨(Nat.le_of_ble_eq_true rfl), (Nat.le_of_ble_eq_true rfl)⟩ ?_
      refine r_w (w' := WM cy ba ra hf hq kn (nI 0) sm ++ Y) rfl ?_
      refine r_ifN_eq (a := 0) (tgt := 33) C (by omega) dX4_splice_28 (by decide) (fun h28_3 => ?_) (fun h28_3 => ?_)
      · skip
        refine r_iload_n C dX4_splice_33 rfl ?_
        refine r_ifN_lt (a := p0) (tgt := 51) C (by omega) dX4_splice_34 (by decide) (fun h34_4 => ?_) (fun h34_4 => ?_)
        · exact h34_4.elim
        · skip
          refine r_iload_n C dX4_splice_37 rfl ?_
          refine r_iload_n C dX4_splice_38 rfl ?_
          refine r_icN_gt (a := p0) (b := q0) (tgt := 51) C (by omega) (by omega) dX4_splice_39 (by decide) (fun h39_5 => ?_) (fun h39_5 => ?_)
          · exact absurd h39_5 (by omega)
          · skip
            refine r_iload_n C dX4_splice_42 rfl ?_
            refine r_aload_n C dX4_splice_43 rfl ?_
            refine r_iload_n C dX4_splice_44 rfl ?_
            refine d_V (st := [.int (nI q0)]) hX.1.stb C hE (D_sizeOf (ba := ba) (ra := ra) (hf := hf) (hq := hq) (kn := kn) (th := (nI 0)) (sm := sm) (Y := Y) (w := w) hX (by omega)) pk_X4_sizeOf qm_X4_59 0 8 rfl rfl wm_0 rfl rfl (Nat.le_of_ble_eq_true rfl) dX4_splice_45 ⟨(Nat.le_of_ble_eq_true rfl), (Nat.le_of_ble_eq_true rfl)⟩ ⟨(Nat.le_of_ble_eq_true rfl), (Nat.le_of_ble_eq_true rfl)⟩ ?_
            refine r_w (w' := WM cy ba ra hf hq kn (nI 0) sm ++ Y) rfl ?_
            refine r_icN_le (a := q0) (b := (hf 4 w)) (tgt := 54) C (by omega) (by omega) dX4_splice_48 (by decide) (fun h48_6 => ?_) (fun h48_6 => ?_)
            · skip
              refine r_aload_n C dX4_splice_54 rfl ?_
              refine r_iload C dX4_splice_55 rfl ?_
              refine e_V (st := []) hX.1.stb C hE (D_items (ba := ba) (ra := ra) (hf := hf) (hq := hq) (kn := kn) (th := (nI 0)) (sm := sm) (Y := Y) (f := f) (w := v) hX hC (MG.same (fun _ => rfl) (fun _ => rfl) hG) hv h5v (by omega) (by omega)) pk_X4_items qm_X4_95 0 8 rfl rfl wm_0 rfl rfl (Nat.le_of_ble_eq_true rfl) dX4_splice_57 ⟨(Nat.le_of_ble_eq_true rfl), (Nat.le_of_ble_eq_true rfl)⟩ ⟨(Nat.le_of_ble_eq_true rfl), (Nat.le_of_ble_eq_true rfl)⟩ (fun b_7 => ?_)
              refine r_w (w' := WM cy ba ra hf hq kn (nI 0) sm ++ (Y ++ [(b_7, .inl (cy 1, hf 4 v, .inl (cutF (fun z => hq (f 1 v) (f 3 v + z)) (hf 4 v))))])) (by simp only [List.append_assoc, List.cons_append, List.nil_append]) ?_
              refine r_st (st' := [.ref b_7]) rfl ?_
              refine r_astore C dX4_splice_60 (by decide) rfl ?_
              refine r_aload_n C dX4_splice_62 rfl ?_
              refine r_iconst (v := (nI 0)) C dX4_splice_63 (by decide) ?_
              refine r_aload_n C dX4_splice_64 rfl ?_
              refine m_get (v := .ref (ba 0)) C 0 (by decide) qf_X4_15 rfl rfl dX4_splice_65 ?_
              refine r_aload_n C dX4_splice_68 rfl ?_
              refine r_iload_n C dX4_splice_69 rfl ?_
              refine d_V (st := [.ref (ba 0), .int (nI 0), .ref (ba 9)]) hX.1.stb C hE (D_rowOf (ba := ba) (ra := ra) (hf := hf) (hq := hq) (kn := kn) (th := (nI 0)) (sm := sm) (f := f) (w := w) hX hC (MG.same (fun _ => rfl) (fun _ => rfl) hG) (by omega) (by omega)) pk_X4_rowOf qm_X4_48 0 8 rfl rfl wm_0 rfl rfl (Nat.le_of_ble_eq_true rfl) dX4_splice_70 ⟨(Nat.le_of_ble_eq_true rfl), (Nat.le_of_ble_eq_true rfl)⟩ ⟨(Nat.le_of_ble_eq_true rfl), (Nat.le_of_ble_eq_true rfl)⟩ ?_
              refine r_w (w' := WM cy ba ra hf hq kn (nI 0) sm ++ (Y ++ [(b_7, .inl (cy 1, hf 4 v, .inl (cutF (fun z => hq (f 1 v) (f 3 v + z)) (hf 4 v))))])) rfl ?_
              refine m_rows (i := f 1 w) C (by omega) dX4_splice_73 ?_
              refine m_rlen (i := f 1 w) (v := hf 4 (f 1 w)) C (by omega) rfl dX4_splice_74 ?_
              refine r_iload_n C dX4_splice_75 rfl ?_
              refine r_iload_n C dX4_splice_76 rfl ?_
              refine r_isubN C dX4_splice_77 (by omega) ?_
              refine r_isubN C dX4_splice_78 (by omega) ?_
              refine r_aload C dX4_splice_79 rfl ?_
              refine x_len C (t0 := 1) 0 rfl rfl dX4_splice_81 ?_
              refine r_iaddN C dX4_splice_82 ?_
              refine r_bipush (v := (nI 12)) C dX4_splice_83 (by decide) ?_
              refine r_icN_le (a := (((hf 4 (f 1 w)) - (q0 - p0)) + (hf 4 v))) (b := 12) (tgt := 92) C (by omega) (by omega) dX4_splice_85 (by decide) (fun h85_8 => ?_) (fun h85_8 => ?_)
              · exact absurd h85_8 (by omega)
              · skip
                refine r_iconst (v := (nI 1)) C dX4_splice_88 (by decide) ?_
                refine r_goto (tgt := 93) C dX4_splice_89 (by decide) ?_
                refine r_iconst (v := (nI 0)) C dX4_splice_93 (by decide) ?_
                refine d_V (st := []) hX.1.stb C hE (D_fails2 (ba := ba) (ra := ra) (hf := hf) (hq := hq) (kn := kn) (th := (nI 0)) (sm := sm) (d0 := 0) hX ) pk_X4_fails qm_X4_84 0 8 rfl rfl wm_0 rfl rfl (Nat.le_of_ble_eq_true rfl) dX4_splice_94 ⟨(Nat.le_of_ble_eq_true rfl), (Nat.le_of_ble_eq_true rfl)⟩ ⟨(Nat.le_of_ble_eq_true rfl), (Nat.le_of_ble_eq_true rfl)⟩ ?_
                refine r_w (w' := WM cy ba ra hf hq kn (nI 2) sm ++ (Y ++ [(b_7, .inl (cy 1, hf 4 v, .inl (cutF (fun z => hq (f 1 v) (f 3 v + z)) (hf 4 v))))])) rfl ?_
                refine r_ifN_eq (a := 1) (tgt := 102) C (by omega) dX4_splice_97 (by decide) (fun h97_9 => ?_) (fun h97_9 => ?_)
                · exact absurd h97_9 (by omega)
                · skip
                  refine r_iconst (v := (nI 0)) C dX4_splice_100 (by decide) ?_
                  refine r_pre ?_
                  exact r_iret C hr dX4_splice_101 ⟨rfl, rfl⟩ (Nat.le_of_ble_eq_true rfl) (Nat.le_of_ble_eq_true rfl)
            · exact absurd h48_6 (by omega)
      · exact absurd h28_3 (by omega)
    · exact absurd h15_2 (by omega)
theorem dX4_splice_92 : decode cX4_splice 92 = .ok (.iconst 0, 1) := dqo_3 (kb_X4_splice_1 28 rfl)
theorem dX4_splice_102 : decode cX4_splice 102 = .ok (.iload_n 3, 1) := dqo_29 (kb_X4_splice_1 38 rfl)
theorem dX4_splice_103 : decode cX4_splice 103 = .ok (.iload_n 2, 1) := dqo_28 (kb_X4_splice_1 39 rfl)
theorem dX4_splice_104 : decode cX4_splice 104 = .ok (.if_icmp .ne 15, 3) := dqo_160 0 15 (by decide) (kb_X4_splice_1 40 rfl) (kb_X4_splice_1 41 rfl) (kb_X4_splice_1 42 rfl)
theorem dX4_splice_107 : decode cX4_splice 107 = .ok (.aload 5, 2) := dqo_25 5 (kb_X4_splice_1 43 rfl) (kb_X4_splice_1 44 rfl)
theorem dX4_splice_109 : decode cX4_splice 109 = .ok (.arraylength, 1) := dqo_190 (kb_X4_splice_1 45 rfl)
theorem dX4_splice_110 : decode cX4_splice 110 = .ok (.ifCond .ne 9, 3) := dqo_154 0 9 (by decide) (kb_X4_splice_1 46 rfl) (kb_X4_splice_1 47 rfl) (kb_X4_splice_1 48 rfl)
theorem dX4_splice_113 : decode cX4_splice 113 = .ok (.aload_n 0, 1) := dqo_42 (kb_X4_splice_1 49 rfl)
theorem dX4_splice_114 : decode cX4_splice 114 = .ok (.iload_n 1, 1) := dqo_27 (kb_X4_splice_1 50 rfl)
theorem dX4_splice_115 : decode cX4_splice 115 = .ok (.invokevirtual 59, 3) := dqo_182 0 59 (kb_X4_splice_1 51 rfl) (kb_X4_splice_1 52 rfl) (kb_X4_splice_1 53 rfl)
theorem dX4_splice_118 : decode cX4_splice 118 = .ok (.ireturn, 1) := dqo_172 (kb_X4_splice_1 54 rfl)
set_option maxRecDepth 100000 in
set_option maxHeartbeats 4000000 in
theorem D_splice_0 {l : Launch} {D : va_G} {cy : Nat → ClassId} {X : (Nat → Prop) → State → Heap → Prop} {ba ra : Nat → Nat} {hf : Nat → Nat → Nat} {hq : Nat → Nat → Int32} {kn th : Int32} {sm : Int64} {Y : va_W} {f : Nat → Nat → Nat} {r : Nat → Nat → Int32} {w : Nat} {p0 : Nat} {q0 : Nat} {v : Nat} (hX : EnvM X cy) (hC : CInv f) (hM : MR f r hf hq) (hw : w < 8) (h5w : f 5 w = 1) (hv : v < 8) (h5v : f 5 v = 1) (hp : p0 ≤ q0) (hq0 : q0 ≤ f 4 w) (hz : q0 = p0 ∧ f 4 v = 0) : Cd l D cy X yX4_splice cX4_splice 6 (some .int) (rmk 9 4 48 420) [.ref (ba 9), .int (nI w), .int (nI p0), .int (nI q0), .int (nI v)] (WM cy ba ra hf hq kn th sm ++ Y) (some (.int (nI (hf 4 w)))) (WM cy ba ra hf hq kn (nI 0) sm ++ Y) := by
  have hG := hM.1
  have h5M := hM.h5M hC
  have h4M := hC.h4M
  have h9a := hM.h9a hC
  have h6a := hM.h6a
  have hU := hM.hU hC
  have qw := hM.wh hC hw h5w
  have qv := hM.wh hC hv h5v
  refine Cm.of [some (.ref (ba 9)), some (.int (nI w)), some (.int (nI p0)), some (.int (nI q0)), some (.int (nI v)), none] pn_X4 rfl (Nat.le_of_ble_eq_true rfl) ?_
  intro p e s m args below meth c A C hE hr hnt hn
  refine r_aload_n C dX4_splice_0 rfl ?_
  refine r_aload_n C dX4_splice_1 rfl ?_
  refine r_iload_n C dX4_splice_2 rfl ?_
  refine d_V (st := [.ref (ba 9)]) hX.1.stb C hE (D_isNoWhere0 (ba := ba) (ra := ra) (hf := hf) (hq := hq) (kn := kn) (th := th) (sm := sm) (Y := Y) (w := w) hX (by omega) (by omega)) pk_X4_isNoWhere qm_X4_55 0 8 rfl rfl wm_0 rfl rfl (Nat.le_of_ble_eq_true rfl) dX4_splice_3 ⟨(Nat.le_of_ble_eq_true rfl), (Nat.le_of_ble_eq_true rfl)⟩ ⟨(Nat.le_of_ble_eq_true rfl), (Nat.le_of_ble_eq_true rfl)⟩ ?_
  refine r_w (w' := WM cy ba ra hf hq kn th sm ++ Y) rfl ?_
  refine r_ifN_ne (a := 0) (tgt := 18) C (by omega) dX4_splice_6 (by decide) (fun h6_1 => ?_) (fun h6_1 => ?_)
  · exact absurd h6_1 (by omega)
  · skip
    refine r_aload_n C dX4_splice_9 rfl ?_
    refine r_iload C dX4_splice_10 rfl ?_
    refine d_V (st := [.ref (ba 9)]) hX.1.stb C hE (D_isNoWhere0 (ba := ba) (ra := ra) (hf := hf) (hq := hq) (kn := kn) (th := th) (sm := sm) (Y := Y) (w := v) hX (by omega) (by omega)) pk_X4_isNoWhere qm_X4_55 0 8 rfl rfl wm_0 rfl rfl (Nat.le_of_ble_eq_true rfl) dX4_splice_12 ⟨(Nat.le_of_ble_eq_true rfl), (Nat.le_of_ble_eq_true rfl)⟩ ⟨(Nat.le_of_ble_eq_true rfl), (Nat.le_of_ble_eq_true rfl)⟩ ?_
    refine r_w (w' := WM cy ba ra hf hq kn th sm ++ Y) rfl ?_
    refine r_ifN_eq (a := 0) (tgt := 22) C (by omega) dX4_splice_15 (by decide) (fun h15_2 => ?_) (fun h15_2 => ?_)
    · skip
      refine r_iconst (v := (nI 0)) C dX4_splice_22 (by decide) ?_
      refine r_iconst (v := (nI 0)) C dX4_splice_23 (by decide) ?_
      refine r_iconst (v := (nI 0)) C dX4_splice_24 (by decide) ?_
      refine d_V (st := []) hX.1.stb C hE (D_fails0 (ba := ba) (ra := ra) (hf := hf) (hq := hq) (kn := kn) (th := th) (sm := sm) (Y := Y)  hX ) pk_X4_fails qm_X4_84 0 8 rfl rfl wm_0 rfl rfl (Nat.le_of_ble_eq_true rfl) dX4_splice_25 ⟨(Nat.le_of_ble_eq_true rfl), (Nat.le_of_ble_eq_true rfl)⟩ ⟨(Nat.le_of_ble_eq_true rfl), (Nat.le_of_ble_eq_true rfl)⟩ ?_
      refine r_w (w' := WM cy ba ra hf hq kn (nI 0) sm ++ Y) rfl ?_
      refine r_ifN_eq (a := 0) (tgt := 33) C (by omega) dX4_splice_28 (by decide) (fun h28_3 => ?_) (fun h28_3 => ?_)
      · skip
        refine r_iload_n C dX4_splice_33 rfl ?_
        refine r_ifN_lt (a := p0) (tgt := 51) C (by omega) dX4_splice_34 (by decide) (fun h34_4 => ?_) (fun h34_4 => ?_)
        · exact h34_4.elim
        · skip
          refine r_iload_n C dX4_splice_37 rfl ?_
          refine r_iload_n C dX4_splice_38 rfl ?_
          refine r_icN_gt (a := p0) (b := q0) (tgt := 51) C (by omega) (by omega) dX4_splice_39 (by decide) (fun h39_5 => ?_) (fun h39_5 => ?_)
          · exact absurd h39_5 (by omega)
          · skip
            refine r_iload_n C dX4_splice_42 rfl ?_
            refine r_aload_n C dX4_splice_43 rfl ?_
            refine r_iload_n C dX4_splice_44 rfl ?_
            refine d_V (st := [.int (nI q0)]) hX.1.stb C hE (D_sizeOf (ba := ba) (ra := ra) (hf := hf) (hq := hq) (kn := kn) (th := (nI 0)) (sm := sm) (Y := Y) (w := w) hX (by omega)) pk_X4_sizeOf qm_X4_59 0 8 rfl rfl wm_0 rfl rfl (Nat.le_of_ble_eq_true rfl) dX4_splice_45 ⟨(Nat.le_of_ble_eq_true rfl), (Nat.le_of_ble_eq_true rfl)⟩ ⟨(Nat.le_of_ble_eq_true rfl), (Nat.le_of_ble_eq_true rfl)⟩ ?_
            refine r_w (w' := WM cy ba ra hf hq kn (nI 0) sm ++ Y) rfl ?_
            refine r_icN_le (a := q0) (b := (hf 4 w)) (tgt := 54) C (by omega) (by omega) dX4_splice_48 (by decide) (fun h48_6 => ?_) (fun h48_6 => ?_)
            · skip
              refine r_aload_n C dX4_splice_54 rfl ?_
              refine r_iload C dX4_splice_55 rfl ?_
              refine e_V (st := []) hX.1.stb C hE (D_items (ba := ba) (ra := ra) (hf := hf) (hq := hq) (kn := kn) (th := (nI 0)) (sm := sm) (Y := Y) (f := f) (w := v) hX hC (MG.same (fun _ => rfl) (fun _ => rfl) hG) hv h5v (by omega) (by omega)) pk_X4_items qm_X4_95 0 8 rfl rfl wm_0 rfl rfl (Nat.le_of_ble_eq_true rfl) dX4_splice_57 ⟨(Nat.le_of_ble_eq_true rfl), (Nat.le_of_ble_eq_true rfl)⟩ ⟨(Nat.le_of_ble_eq_true rfl), (Nat.le_of_ble_eq_true rfl)⟩ (fun b_7 => ?_)
              refine r_w (w' := WM cy ba ra hf hq kn (nI 0) sm ++ (Y ++ [(b_7, .inl (cy 1, hf 4 v, .inl (cutF (fun z => hq (f 1 v) (f 3 v + z)) (hf 4 v))))])) (by simp only [List.append_assoc, List.cons_append, List.nil_append]) ?_
              refine r_st (st' := [.ref b_7]) rfl ?_
              refine r_astore C dX4_splice_60 (by decide) rfl ?_
              refine r_aload_n C dX4_splice_62 rfl ?_
              refine r_iconst (v := (nI 0)) C dX4_splice_63 (by decide) ?_
              refine r_aload_n C dX4_splice_64 rfl ?_
              refine m_get (v := .ref (ba 0)) C 0 (by decide) qf_X4_15 rfl rfl dX4_splice_65 ?_
              refine r_aload_n C dX4_splice_68 rfl ?_
              refine r_iload_n C dX4_splice_69 rfl ?_
              refine d_V (st := [.ref (ba 0), .int (nI 0), .ref (ba 9)]) hX.1.stb C hE (D_rowOf (ba := ba) (ra := ra) (hf := hf) (hq := hq) (kn := kn) (th := (nI 0)) (sm := sm) (f := f) (w := w) hX hC (MG.same (fun _ => rfl) (fun _ => rfl) hG) (by omega) (by omega)) pk_X4_rowOf qm_X4_48 0 8 rfl rfl wm_0 rfl rfl (Nat.le_of_ble_eq_true rfl) dX4_splice_70 ⟨(Nat.le_of_ble_eq_true rfl), (Nat.le_of_ble_eq_true rfl)⟩ ⟨(Nat.le_of_ble_eq_true rfl), (Nat.le_of_ble_eq_true rfl)⟩ ?_
              refine r_w (w' := WM cy ba ra hf hq kn (nI 0) sm ++ (Y ++ [(b_7, .inl (cy 1, hf 4 v, .inl (cutF (fun z => hq (f 1 v) (f 3 v + z)) (hf 4 v))))])) rfl ?_
              refine m_rows (i := f 1 w) C (by omega) dX4_splice_73 ?_
              refine m_rlen (i := f 1 w) (v := hf 4 (f 1 w)) C (by omega) rfl dX4_splice_74 ?_
              refine r_iload_n C dX4_splice_75 rfl ?_
              refine r_iload_n C dX4_splice_76 rfl ?_
              refine r_isubN C dX4_splice_77 (by omega) ?_
              refine r_isubN C dX4_splice_78 (by omega) ?_
              refine r_aload C dX4_splice_79 rfl ?_
              refine x_len C (t0 := 1) 0 rfl rfl dX4_splice_81 ?_
              refine r_iaddN C dX4_splice_82 ?_
              refine r_bipush (v := (nI 12)) C dX4_splice_83 (by decide) ?_
              refine r_icN_le (a := (((hf 4 (f 1 w)) - (q0 - p0)) + (hf 4 v))) (b := 12) (tgt := 92) C (by omega) (by omega) dX4_splice_85 (by decide) (fun h85_8 => ?_) (fun h85_8 => ?_)
              · skip
                refine r_iconst (v := (nI 0)) C dX4_splice_92 (by decide) ?_
                refine r_iconst (v := (nI 0)) C dX4_splice_93 (by decide) ?_
                refine d_V (st := []) hX.1.stb C hE (D_fails0 (ba := ba) (ra := ra) (hf := hf) (hq := hq) (kn := kn) (th := (nI 0)) (sm := sm)  hX ) pk_X4_fails qm_X4_84 0 8 rfl rfl wm_0 rfl rfl (Nat.le_of_ble_eq_true rfl) dX4_splice_94 ⟨(Nat.le_of_ble_eq_true rfl), (Nat.le_of_ble_eq_true rfl)⟩ ⟨(Nat.le_of_ble_eq_true rfl), (Nat.le_of_ble_eq_true rfl)⟩ ?_
                refine r_w (w' := WM cy ba ra hf hq kn (nI 0) sm ++ (Y ++ [(b_7, .inl (cy 1, hf 4 v, .inl (cutF (fun z => hq (f 1 v) (f 3 v + z)) (hf 4 v))))])) rfl ?_
                refine r_ifN_eq (a := 0) (tgt := 102) C (by omega) dX4_splice_97 (by decide) (fun h97_9 => ?_) (fun h97_9 => ?_)
                · skip
                  refine r_iload_n C dX4_splice_102 rfl ?_
                  refine r_iload_n C dX4_splice_103 rfl ?_
                  refine r_icN_ne (a := q0) (b := p0) (tgt := 119) C (by omega) (by omega) dX4_splice_104 (by decide) (fun h104_10 => ?_) (fun h104_10 => ?_)
                  · exact absurd h104_10 (by omega)
                  · skip
                    refine r_aload C dX4_splice_107 rfl ?_
                    refine x_len C (t0 := 1) 0 rfl rfl dX4_splice_109 ?_
                    refine r_ifN_ne (a := (hf 4 v)) (tgt := 119) C (by omega) dX4_splice_110 (by decide) (fun h110_11 => ?_) (fun h110_11 => ?_)
                    · exact absurd h110_11 (by omega)
                    · skip
                      refine r_aload_n C dX4_splice_113 rfl ?_
                      refine r_iload_n C dX4_splice_114 rfl ?_
                      refine d_V (st := []) hX.1.stb C hE (D_sizeOf (ba := ba) (ra := ra) (hf := hf) (hq := hq) (kn := kn) (th := (nI 0)) (sm := sm) (w := w) hX (by omega)) pk_X4_sizeOf qm_X4_59 0 8 rfl rfl wm_0 rfl rfl (Nat.le_of_ble_eq_true rfl) dX4_splice_115 ⟨(Nat.le_of_ble_eq_true rfl), (Nat.le_of_ble_eq_true rfl)⟩ ⟨(Nat.le_of_ble_eq_true rfl), (Nat.le_of_ble_eq_true rfl)⟩ ?_
                      refine r_w (w' := WM cy ba ra hf hq kn (nI 0) sm ++ (Y ++ [(b_7, .inl (cy 1, hf 4 v, .inl (cutF (fun z => hq (f 1 v) (f 3 v + z)) (hf 4 v))))])) rfl ?_
                      refine r_pre ?_
                      exact r_iret C hr dX4_splice_118 ⟨rfl, rfl⟩ (Nat.le_of_ble_eq_true rfl) (Nat.le_of_ble_eq_true rfl)
                · exact absurd h97_9 (by omega)
              · exact absurd h85_8 (by omega)
            · exact absurd h48_6 (by omega)
      · exact absurd h28_3 (by omega)
    · exact absurd h15_2 (by omega)
theorem dX4_splice_119 : decode cX4_splice 119 = .ok (.aload_n 0, 1) := dqo_42 (kb_X4_splice_1 55 rfl)
theorem dX4_splice_120 : decode cX4_splice 120 = .ok (.iload_n 1, 1) := dqo_27 (kb_X4_splice_1 56 rfl)
theorem dX4_splice_121 : decode cX4_splice 121 = .ok (.iconst (-1), 1) := dqo_2 (kb_X4_splice_1 57 rfl)
theorem dX4_splice_122 : decode cX4_splice 122 = .ok (.invokevirtual 74, 3) := dqo_182 0 74 (kb_X4_splice_1 58 rfl) (kb_X4_splice_1 59 rfl) (kb_X4_splice_1 60 rfl)
theorem dX4_splice_125 : decode cX4_splice 125 = .ok (.aload_n 0, 1) := dqo_42 (kb_X4_splice_1 61 rfl)
theorem dX4_splice_126 : decode cX4_splice 126 = .ok (.iload_n 1, 1) := dqo_27 (kb_X4_splice_1 62 rfl)
theorem dX4_splice_127 : decode cX4_splice 127 = .ok (.iload_n 2, 1) := dqo_28 (kb_X4_splice_1 63 rfl)
theorem dX4_splice_128 : decode cX4_splice 128 = .ok (.iload_n 3, 1) := dqo_29 (kb_X4_splice_2 0 rfl)
theorem dX4_splice_129 : decode cX4_splice 129 = .ok (.iload_n 2, 1) := dqo_28 (kb_X4_splice_2 1 rfl)
theorem dX4_splice_130 : decode cX4_splice 130 = .ok (.isub, 1) := dqo_100 (kb_X4_splice_2 2 rfl)
theorem dX4_splice_131 : decode cX4_splice 131 = .ok (.aload 5, 2) := dqo_25 5 (kb_X4_splice_2 3 rfl) (kb_X4_splice_2 4 rfl)
theorem dX4_splice_133 : decode cX4_splice 133 = .ok (.invokevirtual 88, 3) := dqo_182 0 88 (kb_X4_splice_2 5 rfl) (kb_X4_splice_2 6 rfl) (kb_X4_splice_2 7 rfl)
theorem dX4_splice_136 : decode cX4_splice 136 = .ok (.aload_n 0, 1) := dqo_42 (kb_X4_splice_2 8 rfl)
theorem dX4_splice_137 : decode cX4_splice 137 = .ok (.iload_n 1, 1) := dqo_27 (kb_X4_splice_2 9 rfl)
theorem dX4_splice_138 : decode cX4_splice 138 = .ok (.invokevirtual 59, 3) := dqo_182 0 59 (kb_X4_splice_2 10 rfl) (kb_X4_splice_2 11 rfl) (kb_X4_splice_2 12 rfl)
theorem dX4_splice_141 : decode cX4_splice 141 = .ok (.ireturn, 1) := dqo_172 (kb_X4_splice_2 13 rfl)
set_option maxRecDepth 100000 in
set_option maxHeartbeats 4000000 in
theorem D_splice_ok {l : Launch} {D : va_G} {cy : Nat → ClassId} {X : (Nat → Prop) → State → Heap → Prop} {ba ra : Nat → Nat} {hf : Nat → Nat → Nat} {hq : Nat → Nat → Int32} {kn th : Int32} {sm : Int64} {Y : va_W} {f : Nat → Nat → Nat} {r : Nat → Nat → Int32} {w : Nat} {p0 : Nat} {q0 : Nat} {v : Nat} (hX : EnvM X cy) (hC : CInv f) (hM : MR f r hf hq) (hw : w < 8) (h5w : f 5 w = 1) (hv : v < 8) (h5v : f 5 v = 1) (hp : p0 ≤ q0) (hq0 : q0 ≤ f 4 w) (hfit : f 4 (f 1 w) + f 4 v - (q0 - p0) ≤ 12) (hz : p0 < q0 ∨ 0 < f 4 v) : Cm l D cy X yX4_splice cX4_splice 6 (some .int) (rmk 9 4 48 420) [.ref (ba 9), .int (nI w), .int (nI p0), .int (nI q0), .int (nI v)] (WM cy ba ra hf hq kn th sm ++ Y) (fun v1 w1 => ∃ ra9 : Nat → Nat, v1 = some (.int (nI ((lyM f (up2 (chM f hf w 4294967295) 4 (f 1 w) ((chM f hf w 4294967295) 4 (f 1 w) - (q0 - p0) + (hf 4 v))) w (hf 4 v) (q0 - p0)) 4 w))) ∧ w1 = WM cy ba ra9 (lyM f (up2 (chM f hf w 4294967295) 4 (f 1 w) ((chM f hf w 4294967295) 4 (f 1 w) - (q0 - p0) + (hf 4 v))) w (hf 4 v) (q0 - p0)) (upR hq (f 1 w) (layF (hq (f 1 w)) (cutF (fun z => hq (f 1 v) (f 3 v + z)) (hf 4 v)) (f 3 w + p0) (hf 4 v) (q0 - p0) ((chM f hf w 4294967295) 4 (f 1 w) - (q0 - p0) + (hf 4 v)))) kn (nI 0) sm ++ Y) (fun _ => False) := by
  have hG := hM.1
  have h5M := hM.h5M hC
  have h4M := hC.h4M
  have h9a := hM.h9a hC
  have h6a := hM.h6a
  have hU := hM.hU hC
  have qw := hM.wh hC hw h5w
  have qv := hM.wh hC hv h5v
  refine Cm.of [some (.ref (ba 9)), some (.int (nI w)), some (.int (nI p0)), some (.int (nI q0)), some (.int (nI v)), none] pn_X4 rfl (Nat.le_of_ble_eq_true rfl) ?_
  intro p e s m args below meth c A C hE hr hnt hn
  refine r_aload_n C dX4_splice_0 rfl ?_
  refine r_aload_n C dX4_splice_1 rfl ?_
  refine r_iload_n C dX4_splice_2 rfl ?_
  refine d_V (st := [.ref (ba 9)]) hX.1.stb C hE (D_isNoWhere0 (ba := ba) (ra := ra) (hf := hf) (hq := hq) (kn := kn) (th := th) (sm := sm) (Y := Y) (w := w) hX (by omega) (by omega)) pk_X4_isNoWhere qm_X4_55 0 8 rfl rfl wm_0 rfl rfl (Nat.le_of_ble_eq_true rfl) dX4_splice_3 ⟨(Nat.le_of_ble_eq_true rfl), (Nat.le_of_ble_eq_true rfl)⟩ ⟨(Nat.le_of_ble_eq_true rfl), (Nat.le_of_ble_eq_true rfl)⟩ ?_
  refine r_w (w' := WM cy ba ra hf hq kn th sm ++ Y) rfl ?_
  refine r_ifN_ne (a := 0) (tgt := 18) C (by omega) dX4_splice_6 (by decide) (fun h6_1 => ?_) (fun h6_1 => ?_)
  · exact absurd h6_1 (by omega)
  · skip
    refine r_aload_n C dX4_splice_9 rfl ?_
    refine r_iload C dX4_splice_10 rfl ?_
    refine d_V (st := [.ref (ba 9)]) hX.1.stb C hE (D_isNoWhere0 (ba := ba) (ra := ra) (hf := hf) (hq := hq) (kn := kn) (th := th) (sm := sm) (Y := Y) (w := v) hX (by omega) (by omega)) pk_X4_isNoWhere qm_X4_55 0 8 rfl rfl wm_0 rfl rfl (Nat.le_of_ble_eq_true rfl) dX4_splice_12 ⟨(Nat.le_of_ble_eq_true rfl), (Nat.le_of_ble_eq_true rfl)⟩ ⟨(Nat.le_of_ble_eq_true rfl), (Nat.le_of_ble_eq_true rfl)⟩ ?_
    refine r_w (w' := WM cy ba ra hf hq kn th sm ++ Y) rfl ?_
    refine r_ifN_eq (a := 0) (tgt := 22) C (by omega) dX4_splice_15 (by decide) (fun h15_2 => ?_) (fun h15_2 => ?_)
    · skip
      refine r_iconst (v := (nI 0)) C dX4_splice_22 (by decide) ?_
      refine r_iconst (v := (nI 0)) C dX4_splice_23 (by decide) ?_
      refine r_iconst (v := (nI 0)) C dX4_splice_24 (by decide) ?_
      refine d_V (st := []) hX.1.stb C hE (D_fails0 (ba := ba) (ra := ra) (hf := hf) (hq := hq) (kn := kn) (th := th) (sm := sm) (Y := Y)  hX ) pk_X4_fails qm_X4_84 0 8 rfl rfl wm_0 rfl rfl (Nat.le_of_ble_eq_true rfl) dX4_splice_25 ⟨(Nat.le_of_ble_eq_true rfl), (Nat.le_of_ble_eq_true rfl)⟩ ⟨(Nat.le_of_ble_eq_true rfl), (Nat.le_of_ble_eq_true rfl)⟩ ?_
      refine r_w (w' := WM cy ba ra hf hq kn (nI 0) sm ++ Y) rfl ?_
      refine r_ifN_eq (a := 0) (tgt := 33) C (by omega) dX4_splice_28 (by decide) (fun h28_3 => ?_) (fun h28_3 => ?_)
      · skip
        refine r_iload_n C dX4_splice_33 rfl ?_
        refine r_ifN_lt (a := p0) (tgt := 51) C (by omega) dX4_splice_34 (by decide) (fun h34_4 => ?_) (fun h34_4 => ?_)
        · exact h34_4.elim
        · skip
          refine r_iload_n C dX4_splice_37 rfl ?_
          refine r_iload_n C dX4_splice_38 rfl ?_
          refine r_icN_gt (a := p0) (b := q0) (tgt := 51) C (by omega) (by omega) dX4_splice_39 (by decide) (fun h39_5 => ?_) (fun h39_5 => ?_)
          · exact absurd h39_5 (by omega)
          · skip
            refine r_iload_n C dX4_splice_42 rfl ?_
            refine r_aload_n C dX4_splice_43 rfl ?_
            refine r_iload_n C dX4_splice_44 rfl ?_
            refine d_V (st := [.int (nI q0)]) hX.1.stb C hE (D_sizeOf (ba := ba) (ra := ra) (hf := hf) (hq := hq) (kn := kn) (th := (nI 0)) (sm := sm) (Y := Y) (w := w) hX (by omega)) pk_X4_sizeOf qm_X4_59 0 8 rfl rfl wm_0 rfl rfl (Nat.le_of_ble_eq_true rfl) dX4_splice_45 ⟨(Nat.le_of_ble_eq_true rfl), (Nat.le_of_ble_eq_true rfl)⟩ ⟨(Nat.le_of_ble_eq_true rfl), (Nat.le_of_ble_eq_true rfl)⟩ ?_
            refine r_w (w' := WM cy ba ra hf hq kn (nI 0) sm ++ Y) rfl ?_
            refine r_icN_le (a := q0) (b := (hf 4 w)) (tgt := 54) C (by omega) (by omega) dX4_splice_48 (by decide) (fun h48_6 => ?_) (fun h48_6 => ?_)
            · skip
              refine r_aload_n C dX4_splice_54 rfl ?_
              refine r_iload C dX4_splice_55 rfl ?_
              refine e_V (st := []) hX.1.stb C hE (D_items (ba := ba) (ra := ra) (hf := hf) (hq := hq) (kn := kn) (th := (nI 0)) (sm := sm) (Y := Y) (f := f) (w := v) hX hC (MG.same (fun _ => rfl) (fun _ => rfl) hG) hv h5v (by omega) (by omega)) pk_X4_items qm_X4_95 0 8 rfl rfl wm_0 rfl rfl (Nat.le_of_ble_eq_true rfl) dX4_splice_57 ⟨(Nat.le_of_ble_eq_true rfl), (Nat.le_of_ble_eq_true rfl)⟩ ⟨(Nat.le_of_ble_eq_true rfl), (Nat.le_of_ble_eq_true rfl)⟩ (fun b_7 => ?_)
              refine r_w (w' := WM cy ba ra hf hq kn (nI 0) sm ++ (Y ++ [(b_7, .inl (cy 1, hf 4 v, .inl (cutF (fun z => hq (f 1 v) (f 3 v + z)) (hf 4 v))))])) (by simp only [List.append_assoc, List.cons_append, List.nil_append]) ?_
              refine r_st (st' := [.ref b_7]) rfl ?_
              refine r_astore C dX4_splice_60 (by decide) rfl ?_
              refine r_aload_n C dX4_splice_62 rfl ?_
              refine r_iconst (v := (nI 0)) C dX4_splice_63 (by decide) ?_
              refine r_aload_n C dX4_splice_64 rfl ?_
              refine m_get (v := .ref (ba 0)) C 0 (by decide) qf_X4_15 rfl rfl dX4_splice_65 ?_
              refine r_aload_n C dX4_splice_68 rfl ?_
              refine r_iload_n C dX4_splice_69 rfl ?_
              refine d_V (st := [.ref (ba 0), .int (nI 0), .ref (ba 9)]) hX.1.stb C hE (D_rowOf (ba := ba) (ra := ra) (hf := hf) (hq := hq) (kn := kn) (th := (nI 0)) (sm := sm) (f := f) (w := w) hX hC (MG.same (fun _ => rfl) (fun _ => rfl) hG) (by omega) (by omega)) pk_X4_rowOf qm_X4_48 0 8 rfl rfl wm_0 rfl rfl (Nat.le_of_ble_eq_true rfl) dX4_splice_70 ⟨(Nat.le_of_ble_eq_true rfl), (Nat.le_of_ble_eq_true rfl)⟩ ⟨(Nat.le_of_ble_eq_true rfl), (Nat.le_of_ble_eq_true rfl)⟩ ?_
              refine r_w (w' := WM cy ba ra hf hq kn (nI 0) sm ++ (Y ++ [(b_7, .inl (cy 1, hf 4 v, .inl (cutF (fun z => hq (f 1 v) (f 3 v + z)) (hf 4 v))))])) rfl ?_
              refine m_rows (i := f 1 w) C (by omega) dX4_splice_73 ?_
              refine m_rlen (i := f 1 w) (v := hf 4 (f 1 w)) C (by omega) rfl dX4_splice_74 ?_
              refine r_iload_n C dX4_splice_75 rfl ?_
              refine r_iload_n C dX4_splice_76 rfl ?_
              refine r_isubN C dX4_splice_77 (by omega) ?_
              refine r_isubN C dX4_splice_78 (by omega) ?_
              refine r_aload C dX4_splice_79 rfl ?_
              refine x_len C (t0 := 1) 0 rfl rfl dX4_splice_81 ?_
              refine r_iaddN C dX4_splice_82 ?_
              refine r_bipush (v := (nI 12)) C dX4_splice_83 (by decide) ?_
              refine r_icN_le (a := (((hf 4 (f 1 w)) - (q0 - p0)) + (hf 4 v))) (b := 12) (tgt := 92) C (by omega) (by omega) dX4_splice_85 (by decide) (fun h85_8 => ?_) (fun h85_8 => ?_)
              · skip
                refine r_iconst (v := (nI 0)) C dX4_splice_92 (by decide) ?_
                refine r_iconst (v := (nI 0)) C dX4_splice_93 (by decide) ?_
                refine d_V (st := []) hX.1.stb C hE (D_fails0 (ba := ba) (ra := ra) (hf := hf) (hq := hq) (kn := kn) (th := (nI 0)) (sm := sm)  hX ) pk_X4_fails qm_X4_84 0 8 rfl rfl wm_0 rfl rfl (Nat.le_of_ble_eq_true rfl) dX4_splice_94 ⟨(Nat.le_of_ble_eq_true rfl), (Nat.le_of_ble_eq_true rfl)⟩ ⟨(Nat.le_of_ble_eq_true rfl), (Nat.le_of_ble_eq_true rfl)⟩ ?_
                refine r_w (w' := WM cy ba ra hf hq kn (nI 0) sm ++ (Y ++ [(b_7, .inl (cy 1, hf 4 v, .inl (cutF (fun z => hq (f 1 v) (f 3 v + z)) (hf 4 v))))])) rfl ?_
                refine r_ifN_eq (a := 0) (tgt := 102) C (by omega) dX4_splice_97 (by decide) (fun h97_9 => ?_) (fun h97_9 => ?_)
                · skip
                  refine r_iload_n C dX4_splice_102 rfl ?_
                  refine r_iload_n C dX4_splice_103 rfl ?_
                  refine r_icN_ne (a := q0) (b := p0) (tgt := 119) C (by omega) (by omega) dX4_splice_104 (by decide) (fun h104_10 => ?_) (fun h104_10 => ?_)
                  · first
                    | fail
                    | skip
                      refine r_aload_n C dX4_splice_119 rfl ?_
                      refine r_iload_n C dX4_splice_120 rfl ?_
                      refine r_iconst (v := (nI 4294967295)) C dX4_splice_121 (by decide) ?_
                      refine d_Vv (st := []) hX.1.stb C hE (D_changed (ba := ba) (ra := ra) (hf := hf) (hq := hq) (kn := kn) (th := (nI 0)) (sm := sm) (f := f) (w := w) (d0 := 4294967295) hX hC (MG.same (fun _ => rfl) (fun _ => rfl) hG) (by omega) (by omega) (by omega) h5M h9a hU) pk_X4_changed qm_X4_74 0 8 rfl rfl wm_0 rfl rfl (Nat.le_of_ble_eq_true rfl) dX4_splice_122 ⟨(Nat.le_of_ble_eq_true rfl), (Nat.le_of_ble_eq_true rfl)⟩ ⟨(Nat.le_of_ble_eq_true rfl), (Nat.le_of_ble_eq_true rfl)⟩ ?_
                      refine r_w (w' := WM cy ba ra (chM f hf w 4294967295) hq kn (nI 0) sm ++ (Y ++ [(b_7, .inl (cy 1, hf 4 v, .inl (cutF (fun z => hq (f 1 v) (f 3 v + z)) (hf 4 v))))])) rfl ?_
                      refine r_aload_n C dX4_splice_125 rfl ?_
                      refine r_iload_n C dX4_splice_126 rfl ?_
                      refine r_iload_n C dX4_splice_127 rfl ?_
                      refine r_iload_n C dX4_splice_128 rfl ?_
                      refine r_iload_n C dX4_splice_129 rfl ?_
                      refine r_isubN C dX4_splice_130 (by omega) ?_
                      refine r_aload C dX4_splice_131 rfl ?_
                      refine e_V (st := []) hX.1.stb C hE (D_lay (ba := ba) (ra := ra) (hf := (chM f hf w 4294967295)) (hq := hq) (kn := kn) (th := (nI 0)) (sm := sm) (f := f) (w := w) (p0 := p0) (o0 := (q0 - p0)) (b0 := b_7) (n0 := (hf 4 v)) (g0 := (cutF (fun z => hq (f 1 v) (f 3 v + z)) (hf 4 v))) (j0 := (Y.length + 0)) hX hC (MG.same (fun _ => rfl) (fun _ => rfl) hG) (by omega) (by omega) (show f 3 w + p0 + (q0 - p0) ≤ (hf 4 (f 1 w)) from (by omega)) (show (hf 4 (f 1 w)) ≤ 12 from (by omega)) (show (hf 4 (f 1 w)) - (q0 - p0) + (hf 4 v) ≤ 12 from (by omega)) (fun x hx hh => (show (q0 - p0) ≤ hf 4 x + (hf 4 v) from by have h8 := hM.ho hC hw h5w hx hh; omega)) ((ya_x 0).trans rfl)) pk_X4_lay qm_X4_88 0 8 rfl rfl wm_0 rfl rfl (Nat.le_of_ble_eq_true rfl) dX4_splice_133 ⟨(Nat.le_of_ble_eq_true rfl), (Nat.le_of_ble_eq_true rfl)⟩ ⟨(Nat.le_of_ble_eq_true rfl), (Nat.le_of_ble_eq_true rfl)⟩ (fun ra_11 => ?_)
                      refine r_w (w' := WM cy ba ra_11 (lyM f (up2 (chM f hf w 4294967295) 4 (f 1 w) ((chM f hf w 4294967295) 4 (f 1 w) - (q0 - p0) + (hf 4 v))) w (hf 4 v) (q0 - p0)) (upR hq (f 1 w) (layF (hq (f 1 w)) (cutF (fun z => hq (f 1 v) (f 3 v + z)) (hf 4 v)) (f 3 w + p0) (hf 4 v) (q0 - p0) ((chM f hf w 4294967295) 4 (f 1 w) - (q0 - p0) + (hf 4 v)))) kn (nI 0) sm ++ (Y ++ [(b_7, .inl (cy 1, hf 4 v, .inl (cutF (fun z => hq (f 1 v) (f 3 v + z)) (hf 4 v))))])) rfl ?_
                      refine r_st (st' := []) rfl ?_
                      refine r_aload_n C dX4_splice_136 rfl ?_
                      refine r_iload_n C dX4_splice_137 rfl ?_
                      refine d_V (st := []) hX.1.stb C hE (D_sizeOf (ba := ba) (ra := ra_11) (hf := (lyM f (up2 (chM f hf w 4294967295) 4 (f 1 w) ((chM f hf w 4294967295) 4 (f 1 w) - (q0 - p0) + (hf 4 v))) w (hf 4 v) (q0 - p0))) (hq := (upR hq (f 1 w) (layF (hq (f 1 w)) (cutF (fun z => hq (f 1 v) (f 3 v + z)) (hf 4 v)) (f 3 w + p0) (hf 4 v) (q0 - p0) ((chM f hf w 4294967295) 4 (f 1 w) - (q0 - p0) + (hf 4 v))))) (kn := kn) (th := (nI 0)) (sm := sm) (w := w) hX (by omega)) pk_X4_sizeOf qm_X4_59 0 8 rfl rfl wm_0 rfl rfl (Nat.le_of_ble_eq_true rfl) dX4_splice_138 ⟨(Nat.le_of_ble_eq_true rfl), (Nat.le_of_ble_eq_true rfl)⟩ ⟨(Nat.le_of_ble_eq_true rfl), (Nat.le_of_ble_eq_true rfl)⟩ ?_
                      refine r_w (w' := WM cy ba ra_11 (lyM f (up2 (chM f hf w 4294967295) 4 (f 1 w) ((chM f hf w 4294967295) 4 (f 1 w) - (q0 - p0) + (hf 4 v))) w (hf 4 v) (q0 - p0)) (upR hq (f 1 w) (layF (hq (f 1 w)) (cutF (fun z => hq (f 1 v) (f 3 v + z)) (hf 4 v)) (f 3 w + p0) (hf 4 v) (q0 - p0) ((chM f hf w 4294967295) 4 (f 1 w) - (q0 - p0) + (hf 4 v)))) kn (nI 0) sm ++ (Y ++ [(b_7, .inl (cy 1, hf 4 v, .inl (cutF (fun z => hq (f 1 v) (f 3 v + z)) (hf 4 v))))])) rfl ?_
                      refine r_pre ?_
                      exact r_iret C hr dX4_splice_141 ⟨_, rfl, rfl⟩ (Nat.le_of_ble_eq_true rfl) (Nat.le_of_ble_eq_true rfl)
                  · first
                    | fail
                    | skip
                      refine r_aload C dX4_splice_107 rfl ?_
                      refine x_len C (t0 := 1) 0 rfl rfl dX4_splice_109 ?_
                      refine r_ifN_ne (a := (hf 4 v)) (tgt := 119) C (by omega) dX4_splice_110 (by decide) (fun h110_12 => ?_) (fun h110_12 => ?_)
                      · skip
                        refine r_aload_n C dX4_splice_119 rfl ?_
                        refine r_iload_n C dX4_splice_120 rfl ?_
                        refine r_iconst (v := (nI 4294967295)) C dX4_splice_121 (by decide) ?_
                        refine d_Vv (st := []) hX.1.stb C hE (D_changed (ba := ba) (ra := ra) (hf := hf) (hq := hq) (kn := kn) (th := (nI 0)) (sm := sm) (f := f) (w := w) (d0 := 4294967295) hX hC (MG.same (fun _ => rfl) (fun _ => rfl) hG) (by omega) (by omega) (by omega) h5M h9a hU) pk_X4_changed qm_X4_74 0 8 rfl rfl wm_0 rfl rfl (Nat.le_of_ble_eq_true rfl) dX4_splice_122 ⟨(Nat.le_of_ble_eq_true rfl), (Nat.le_of_ble_eq_true rfl)⟩ ⟨(Nat.le_of_ble_eq_true rfl), (Nat.le_of_ble_eq_true rfl)⟩ ?_
                        refine r_w (w' := WM cy ba ra (chM f hf w 4294967295) hq kn (nI 0) sm ++ (Y ++ [(b_7, .inl (cy 1, hf 4 v, .inl (cutF (fun z => hq (f 1 v) (f 3 v + z)) (hf 4 v))))])) rfl ?_
                        refine r_aload_n C dX4_splice_125 rfl ?_
                        refine r_iload_n C dX4_splice_126 rfl ?_
                        refine r_iload_n C dX4_splice_127 rfl ?_
                        refine r_iload_n C dX4_splice_128 rfl ?_
                        refine r_iload_n C dX4_splice_129 rfl ?_
                        refine r_isubN C dX4_splice_130 (by omega) ?_
                        refine r_aload C dX4_splice_131 rfl ?_
                        refine e_V (st := []) hX.1.stb C hE (D_lay (ba := ba) (ra := ra) (hf := (chM f hf w 4294967295)) (hq := hq) (kn := kn) (th := (nI 0)) (sm := sm) (f := f) (w := w) (p0 := p0) (o0 := (q0 - p0)) (b0 := b_7) (n0 := (hf 4 v)) (g0 := (cutF (fun z => hq (f 1 v) (f 3 v + z)) (hf 4 v))) (j0 := (Y.length + 0)) hX hC (MG.same (fun _ => rfl) (fun _ => rfl) hG) (by omega) (by omega) (show f 3 w + p0 + (q0 - p0) ≤ (hf 4 (f 1 w)) from (by omega)) (show (hf 4 (f 1 w)) ≤ 12 from (by omega)) (show (hf 4 (f 1 w)) - (q0 - p0) + (hf 4 v) ≤ 12 from (by omega)) (fun x hx hh => (show (q0 - p0) ≤ hf 4 x + (hf 4 v) from by have h8 := hM.ho hC hw h5w hx hh; omega)) ((ya_x 0).trans rfl)) pk_X4_lay qm_X4_88 0 8 rfl rfl wm_0 rfl rfl (Nat.le_of_ble_eq_true rfl) dX4_splice_133 ⟨(Nat.le_of_ble_eq_true rfl), (Nat.le_of_ble_eq_true rfl)⟩ ⟨(Nat.le_of_ble_eq_true rfl), (Nat.le_of_ble_eq_true rfl)⟩ (fun ra_13 => ?_)
                        refine r_w (w' := WM cy ba ra_13 (lyM f (up2 (chM f hf w 4294967295) 4 (f 1 w) ((chM f hf w 4294967295) 4 (f 1 w) - (q0 - p0) + (hf 4 v))) w (hf 4 v) (q0 - p0)) (upR hq (f 1 w) (layF (hq (f 1 w)) (cutF (fun z => hq (f 1 v) (f 3 v + z)) (hf 4 v)) (f 3 w + p0) (hf 4 v) (q0 - p0) ((chM f hf w 4294967295) 4 (f 1 w) - (q0 - p0) + (hf 4 v)))) kn (nI 0) sm ++ (Y ++ [(b_7, .inl (cy 1, hf 4 v, .inl (cutF (fun z => hq (f 1 v) (f 3 v + z)) (hf 4 v))))])) rfl ?_
                        refine r_st (st' := []) rfl ?_
                        refine r_aload_n C dX4_splice_136 rfl ?_
                        refine r_iload_n C dX4_splice_137 rfl ?_
                        refine d_V (st := []) hX.1.stb C hE (D_sizeOf (ba := ba) (ra := ra_13) (hf := (lyM f (up2 (chM f hf w 4294967295) 4 (f 1 w) ((chM f hf w 4294967295) 4 (f 1 w) - (q0 - p0) + (hf 4 v))) w (hf 4 v) (q0 - p0))) (hq := (upR hq (f 1 w) (layF (hq (f 1 w)) (cutF (fun z => hq (f 1 v) (f 3 v + z)) (hf 4 v)) (f 3 w + p0) (hf 4 v) (q0 - p0) ((chM f hf w 4294967295) 4 (f 1 w) - (q0 - p0) + (hf 4 v))))) (kn := kn) (th := (nI 0)) (sm := sm) (w := w) hX (by omega)) pk_X4_sizeOf qm_X4_59 0 8 rfl rfl wm_0 rfl rfl (Nat.le_of_ble_eq_true rfl) dX4_splice_138 ⟨(Nat.le_of_ble_eq_true rfl), (Nat.le_of_ble_eq_true rfl)⟩ ⟨(Nat.le_of_ble_eq_true rfl), (Nat.le_of_ble_eq_true rfl)⟩ ?_
                        refine r_w (w' := WM cy ba ra_13 (lyM f (up2 (chM f hf w 4294967295) 4 (f 1 w) ((chM f hf w 4294967295) 4 (f 1 w) - (q0 - p0) + (hf 4 v))) w (hf 4 v) (q0 - p0)) (upR hq (f 1 w) (layF (hq (f 1 w)) (cutF (fun z => hq (f 1 v) (f 3 v + z)) (hf 4 v)) (f 3 w + p0) (hf 4 v) (q0 - p0) ((chM f hf w 4294967295) 4 (f 1 w) - (q0 - p0) + (hf 4 v)))) kn (nI 0) sm ++ (Y ++ [(b_7, .inl (cy 1, hf 4 v, .inl (cutF (fun z => hq (f 1 v) (f 3 v + z)) (hf 4 v))))])) rfl ?_
                        refine r_pre ?_
                        exact r_iret C hr dX4_splice_141 ⟨_, rfl, rfl⟩ (Nat.le_of_ble_eq_true rfl) (Nat.le_of_ble_eq_true rfl)
                      · exact absurd h110_12 (by omega)
                · exact absurd h97_9 (by omega)
              · exact absurd h85_8 (by omega)
            · exact absurd h48_6 (by omega)
      · exact absurd h28_3 (by omega)
    · exact absurd h15_2 (by omega)
