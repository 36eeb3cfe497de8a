/-! CONTRACTS of the model: parts -/
theorem D_isInX {l : Launch} {D : va_G} {cy : Nat → ClassId} {X : (Nat → Prop) → State → Heap → Prop} {ba ra : Nat → Nat} {hf : Nat → Nat → Nat} {hq : Nat → Nat → Int32} {kn th : Int32} {sm : Int64} {Y : va_W} {x y z : Int32} (hX : EnvM X cy) : Cd l D cy X yX4_isIn cX4_isIn 3 (some .boolean) (rmz 0 0) [.int x, .int y, .int z] (WM cy ba ra hf hq kn th sm ++ Y) (some (.int (nI (if y ≤ x ∧ x ≤ z then 1 else 0)))) (WM cy ba ra hf hq kn th sm ++ Y) := by
  by_cases h : y ≤ x ∧ x ≤ z
  · rw [if_pos h]
    exact D_isIn1 hX h.1 h.2
  · rw [if_neg h]
    exact D_isIn0 hX h
theorem dX4_sort_0 : decode cX4_sort 0 = .ok (.aload_n 0, 1) := dqo_42 (kb_of ke_X4_sort 0 rfl)
theorem dX4_sort_1 : decode cX4_sort 1 = .ok (.aload_n 0, 1) := dqo_42 (kb_of ke_X4_sort 1 rfl)
theorem dX4_sort_2 : decode cX4_sort 2 = .ok (.iload_n 1, 1) := dqo_27 (kb_of ke_X4_sort 2 rfl)
theorem dX4_sort_3 : decode cX4_sort 3 = .ok (.invokevirtual 55, 3) := dqo_182 0 55 (kb_of ke_X4_sort 3 rfl) (kb_of ke_X4_sort 4 rfl) (kb_of ke_X4_sort 5 rfl)
theorem dX4_sort_6 : decode cX4_sort 6 = .ok (.iconst 0, 1) := dqo_3 (kb_of ke_X4_sort 6 rfl)
theorem dX4_sort_7 : decode cX4_sort 7 = .ok (.iconst 0, 1) := dqo_3 (kb_of ke_X4_sort 7 rfl)
theorem dX4_sort_8 : decode cX4_sort 8 = .ok (.invokevirtual 84, 3) := dqo_182 0 84 (kb_of ke_X4_sort 8 rfl) (kb_of ke_X4_sort 9 rfl) (kb_of ke_X4_sort 10 rfl)
theorem dX4_sort_11 : decode cX4_sort 11 = .ok (.ifCond .eq 7, 3) := dqo_153 0 7 (by decide) (kb_of ke_X4_sort 11 rfl) (kb_of ke_X4_sort 12 rfl) (kb_of ke_X4_sort 13 rfl)
theorem dX4_sort_14 : decode cX4_sort 14 = .ok (.iconst 0, 1) := dqo_3 (kb_of ke_X4_sort 14 rfl)
theorem dX4_sort_15 : decode cX4_sort 15 = .ok (.goto 9, 3) := dqo_167 0 9 (by decide) (kb_of ke_X4_sort 15 rfl) (kb_of ke_X4_sort 16 rfl) (kb_of ke_X4_sort 17 rfl)
theorem dX4_sort_24 : decode cX4_sort 24 = .ok (.ireturn, 1) := dqo_172 (kb_of ke_X4_sort 24 rfl)
set_option maxRecDepth 100000 in
set_option maxHeartbeats 4000000 in
theorem D_sort_noW {l : Launch} {D : va_G} {cy : Nat → ClassId} {X : (Nat → Prop) → State → Heap → Prop} {ba ra : Nat → Nat} {hf : Nat → Nat → Nat} {hq : Nat → Nat → Int32} {kn th : Int32} {sm : Int64} {Y : va_W} {f : Nat → Nat → Nat} {r : Nat → Nat → Int32} {x : Int32} (hX : EnvM X cy) (hC : CInv f) (hM : MR f r hf hq) (hno : noW f x) : Cd l D cy X yX4_sort cX4_sort 2 (some .int) (rmk 9 4 48 420) [.ref (ba 9), .int x] (WM cy ba ra hf hq kn th sm ++ Y) (some (.int (nI 0))) (WM cy ba ra hf hq kn (nI 1) sm ++ Y) := by
  have hG := hM.1
  have h5M := hM.h5M hC
  have h4M := hC.h4M
  have h9a := hM.h9a hC
  have h6a := hM.h6a
  have hU := hM.hU hC
  refine Cm.of [some (.ref (ba 9)), some (.int x)] pn_X4 rfl (Nat.le_of_ble_eq_true rfl) ?_
  intro p e s m args below meth c A C hE hr hnt hn
  refine r_aload_n C dX4_sort_0 rfl ?_
  refine r_aload_n C dX4_sort_1 rfl ?_
  refine r_iload_n C dX4_sort_2 rfl ?_
  refine d_V (st := [.ref (ba 9)]) hX.1.stb C hE (D_isNoWhere1 (ba := ba) (ra := ra) (hf := hf) (hq := hq) (kn := kn) (th := th) (sm := sm) (Y := Y) (f := f) (x := (x)) hX h5M h4M hno) pk_X4_isNoWhere qm_X4_55 0 8 rfl rfl wm_0 rfl rfl (Nat.le_of_ble_eq_true rfl) dX4_sort_3 ⟨(Nat.le_of_ble_eq_true rfl), (Nat.le_of_ble_eq_true rfl)⟩ ⟨(Nat.le_of_ble_eq_true rfl), (Nat.le_of_ble_eq_true rfl)⟩ ?_
  refine r_w (w' := WM cy ba ra hf hq kn th sm ++ Y) rfl ?_
  refine r_iconst (v := (nI 0)) C dX4_sort_6 (by decide) ?_
  refine r_iconst (v := (nI 0)) C dX4_sort_7 (by decide) ?_
  refine d_V (st := []) hX.1.stb C hE (D_fails1 (ba := ba) (ra := ra) (hf := hf) (hq := hq) (kn := kn) (th := th) (sm := sm) (Y := Y) (b0 := 0) (d0 := 0) hX ) pk_X4_fails qm_X4_84 0 8 rfl rfl wm_0 rfl rfl (Nat.le_of_ble_eq_true rfl) dX4_sort_8 ⟨(Nat.le_of_ble_eq_true rfl), (Nat.le_of_ble_eq_true rfl)⟩ ⟨(Nat.le_of_ble_eq_true rfl), (Nat.le_of_ble_eq_true rfl)⟩ ?_
  refine r_w (w' := WM cy ba ra hf hq kn (nI 1) sm ++ Y) rfl ?_
  refine r_ifN_eq (a := 1) (tgt := 18) C (by first | omega | (simp [up2, *]; done) | (simp [up2, *]; omega) | (simp only [up2_eq]; omega) | (split <;> omega)) dX4_sort_11 (by decide) (fun h11_1 => ?_) (fun h11_1 => ?_)
  · exact absurd h11_1 (by first | omega | (simp [up2, *]; done) | (simp [up2, *]; omega) | (simp only [up2_eq]; omega) | (split <;> omega))
  · skip
    refine r_iconst (v := (nI 0)) C dX4_sort_14 (by decide) ?_
    refine r_goto (tgt := 24) C dX4_sort_15 (by decide) ?_
    exact r_iret C hr dX4_sort_24 ⟨rfl, rfl⟩ (Nat.le_of_ble_eq_true rfl) (Nat.le_of_ble_eq_true rfl)
theorem pk_X4_sorted : PkV RX4 yX4_sorted cX4_sorted 7 (some .int) 2 := ⟨⟨qi_X4_sorted, qs_X4_sorted, qz_X4, qc_X4_sorted⟩, rfl, mh_X4.1, mh_X4.2, pd_0⟩
theorem dX4_sort_18 : decode cX4_sort 18 = .ok (.aload_n 0, 1) := dqo_42 (kb_of ke_X4_sort 18 rfl)
theorem dX4_sort_19 : decode cX4_sort 19 = .ok (.iload_n 1, 1) := dqo_27 (kb_of ke_X4_sort 19 rfl)
theorem dX4_sort_20 : decode cX4_sort 20 = .ok (.iconst 3, 1) := dqo_6 (kb_of ke_X4_sort 20 rfl)
theorem dX4_sort_21 : decode cX4_sort 21 = .ok (.invokevirtual 113, 3) := dqo_182 0 113 (kb_of ke_X4_sort 21 rfl) (kb_of ke_X4_sort 22 rfl) (kb_of ke_X4_sort 23 rfl)
set_option maxRecDepth 100000 in
set_option maxHeartbeats 4000000 in
theorem D_sort_ok {l : Launch} {D : va_G} {cy : Nat → ClassId} {X : (Nat → Prop) → State → Heap → Prop} {ba ra : Nat → Nat} {hf : Nat → Nat → Nat} {hq : Nat → Nat → Int32} {kn th : Int32} {sm : Int64} {Y : va_W} {f : Nat → Nat → Nat} {r : Nat → Nat → Int32} {w : Nat} (hX : EnvM X cy) (hC : CInv f) (hM : MR f r hf hq) (hw : w < 8) (h5w : f 5 w = 1) (hA0 : ∀ j, IB (cutF (fun z => hq (f 1 w) (f 3 w + z)) (hf 4 w) j)) (hz : 0 < f 4 w) : Cd l D cy X yX4_sort cX4_sort 2 (some .int) (rmk 9 4 48 420) [.ref (ba 9), .int (nI w)] (WM cy ba ra hf hq kn th sm ++ Y) (some (.int ((wrR hq (f 1 w) (f 3 w) (hf 4 w) (soA 3 (hf 4 w - 1) 1 (cutF (fun z => hq (f 1 w) (f 3 w + z)) (hf 4 w)))) (f 1 w) (f 3 w)))) (WM cy ba ra (chM f hf w 4294967295) (wrR hq (f 1 w) (f 3 w) (hf 4 w) (soA 3 (hf 4 w - 1) 1 (cutF (fun z => hq (f 1 w) (f 3 w + z)) (hf 4 w)))) kn (nI 0) sm ++ Y) := by
  have hG := hM.1
  have h5M := hM.h5M hC
  have h4M := hC.h4M
  have h9a := hM.h9a hC
  have h6a := hM.h6a
  have hU := hM.hU hC
  have qw := hM.wh hC hw h5w
  refine Cm.of [some (.ref (ba 9)), some (.int (nI w))] pn_X4 rfl (Nat.le_of_ble_eq_true rfl) ?_
  intro p e s m args below meth c A C hE hr hnt hn
  refine r_aload_n C dX4_sort_0 rfl ?_
  refine r_aload_n C dX4_sort_1 rfl ?_
  refine r_iload_n C dX4_sort_2 rfl ?_
  refine d_V (st := [.ref (ba 9)]) hX.1.stb C hE (D_isNoWhere0 (ba := ba) (ra := ra) (hf := hf) (hq := hq) (kn := kn) (th := th) (sm := sm) (Y := Y) (w := w) hX (by first | omega | (simp [up2, *]; done) | (simp [up2, *]; omega) | (simp only [up2_eq]; omega) | (split <;> omega)) (by first | omega | (simp [up2, *]; done) | (simp [up2, *]; omega) | (simp only [up2_eq]; omega) | (split <;> omega))) pk_X4_isNoWhere qm_X4_55 0 8 rfl rfl wm_0 rfl rfl (Nat.le_of_ble_eq_true rfl) dX4_sort_3 ⟨(Nat.le_of_ble_eq_true rfl), (Nat.le_of_ble_eq_true rfl)⟩ ⟨(Nat.le_of_ble_eq_true rfl), (Nat.le_of_ble_eq_true rfl)⟩ ?_
  refine r_w (w' := WM cy ba ra hf hq kn th sm ++ Y) rfl ?_
  refine r_iconst (v := (nI 0)) C dX4_sort_6 (by decide) ?_
  refine r_iconst (v := (nI 0)) C dX4_sort_7 (by decide) ?_
  refine d_V (st := []) hX.1.stb C hE (D_fails0 (ba := ba) (ra := ra) (hf := hf) (hq := hq) (kn := kn) (th := th) (sm := sm) (Y := Y)  hX ) pk_X4_fails qm_X4_84 0 8 rfl rfl wm_0 rfl rfl (Nat.le_of_ble_eq_true rfl) dX4_sort_8 ⟨(Nat.le_of_ble_eq_true rfl), (Nat.le_of_ble_eq_true rfl)⟩ ⟨(Nat.le_of_ble_eq_true rfl), (Nat.le_of_ble_eq_true rfl)⟩ ?_
  refine r_w (w' := WM cy ba ra hf hq kn (nI 0) sm ++ Y) rfl ?_
  refine r_ifN_eq (a := 0) (tgt := 18) C (by first | omega | (simp [up2, *]; done) | (simp [up2, *]; omega) | (simp only [up2_eq]; omega) | (split <;> omega)) dX4_sort_11 (by decide) (fun h11_1 => ?_) (fun h11_1 => ?_)
  · skip
    refine r_aload_n C dX4_sort_18 rfl ?_
    refine r_iload_n C dX4_sort_19 rfl ?_
    refine r_iconst (v := (nI 3)) C dX4_sort_20 (by decide) ?_
    refine d_V (st := []) hX.1.stb C hE (D_sorted_ok (ba := ba) (ra := ra) (hf := hf) (hq := hq) (kn := kn) (th := (nI 0)) (sm := sm) (Y := Y) (f := f) (w := w) (b := 3) hX hC hM (by first | omega | (simp [up2, *]; done) | (simp [up2, *]; omega) | (simp only [up2_eq]; omega) | (split <;> omega)) (by first | omega | (simp [up2, *]; done) | (simp [up2, *]; omega) | (simp only [up2_eq]; omega) | (split <;> omega)) (by first | omega | (simp [up2, *]; done) | (simp [up2, *]; omega) | (simp only [up2_eq]; omega) | (split <;> omega)) hA0 (by first | omega | (simp [up2, *]; done) | (simp [up2, *]; omega) | (simp only [up2_eq]; omega) | (split <;> omega))) pk_X4_sorted qm_X4_113 0 8 rfl rfl wm_0 rfl rfl (Nat.le_of_ble_eq_true rfl) dX4_sort_21 ⟨(Nat.le_of_ble_eq_true rfl), (Nat.le_of_ble_eq_true rfl)⟩ ⟨(Nat.le_of_ble_eq_true rfl), (Nat.le_of_ble_eq_true rfl)⟩ ?_
    refine r_w (w' := WM cy ba ra (chM f hf w 4294967295) (wrR hq (f 1 w) (f 3 w) (hf 4 w) (soA 3 (hf 4 w - 1) 1 (cutF (fun z => hq (f 1 w) (f 3 w + z)) (hf 4 w)))) kn (nI 0) sm ++ Y) rfl ?_
    exact r_iret C hr dX4_sort_24 ⟨rfl, rfl⟩ (Nat.le_of_ble_eq_true rfl) (Nat.le_of_ble_eq_true rfl)
  · exact absurd h11_1 (by first | omega | (simp [up2, *]; done) | (simp [up2, *]; omega) | (simp only [up2_eq]; omega) | (split <;> omega))
theorem dX4_sortBy_0 : decode cX4_sortBy 0 = .ok (.aload_n 0, 1) := dqo_42 (kb_of ke_X4_sortBy 0 rfl)
theorem dX4_sortBy_1 : decode cX4_sortBy 1 = .ok (.aload_n 0, 1) := dqo_42 (kb_of ke_X4_sortBy 1 rfl)
theorem dX4_sortBy_2 : decode cX4_sortBy 2 = .ok (.iload_n 1, 1) := dqo_27 (kb_of ke_X4_sortBy 2 rfl)
theorem dX4_sortBy_3 : decode cX4_sortBy 3 = .ok (.invokevirtual 55, 3) := dqo_182 0 55 (kb_of ke_X4_sortBy 3 rfl) (kb_of ke_X4_sortBy 4 rfl) (kb_of ke_X4_sortBy 5 rfl)
theorem dX4_sortBy_6 : decode cX4_sortBy 6 = .ok (.iload_n 2, 1) := dqo_28 (kb_of ke_X4_sortBy 6 rfl)
theorem dX4_sortBy_7 : decode cX4_sortBy 7 = .ok (.iconst 0, 1) := dqo_3 (kb_of ke_X4_sortBy 7 rfl)
theorem dX4_sortBy_8 : decode cX4_sortBy 8 = .ok (.iconst 2, 1) := dqo_5 (kb_of ke_X4_sortBy 8 rfl)
theorem dX4_sortBy_9 : decode cX4_sortBy 9 = .ok (.invokestatic 1, 3) := dqo_184 0 1 (kb_of ke_X4_sortBy 9 rfl) (kb_of ke_X4_sortBy 10 rfl) (kb_of ke_X4_sortBy 11 rfl)
theorem dX4_sortBy_12 : decode cX4_sortBy 12 = .ok (.ifCond .ne 7, 3) := dqo_154 0 7 (by decide) (kb_of ke_X4_sortBy 12 rfl) (kb_of ke_X4_sortBy 13 rfl) (kb_of ke_X4_sortBy 14 rfl)
theorem dX4_sortBy_19 : decode cX4_sortBy 19 = .ok (.iconst 0, 1) := dqo_3 (kb_of ke_X4_sortBy 19 rfl)
theorem dX4_sortBy_20 : decode cX4_sortBy 20 = .ok (.iconst 0, 1) := dqo_3 (kb_of ke_X4_sortBy 20 rfl)
theorem dX4_sortBy_21 : decode cX4_sortBy 21 = .ok (.invokevirtual 84, 3) := dqo_182 0 84 (kb_of ke_X4_sortBy 21 rfl) (kb_of ke_X4_sortBy 22 rfl) (kb_of ke_X4_sortBy 23 rfl)
theorem dX4_sortBy_24 : decode cX4_sortBy 24 = .ok (.ifCond .eq 7, 3) := dqo_153 0 7 (by decide) (kb_of ke_X4_sortBy 24 rfl) (kb_of ke_X4_sortBy 25 rfl) (kb_of ke_X4_sortBy 26 rfl)
theorem dX4_sortBy_31 : decode cX4_sortBy 31 = .ok (.aload_n 0, 1) := dqo_42 (kb_of ke_X4_sortBy 31 rfl)
theorem dX4_sortBy_32 : decode cX4_sortBy 32 = .ok (.iload_n 1, 1) := dqo_27 (kb_of ke_X4_sortBy 32 rfl)
theorem dX4_sortBy_33 : decode cX4_sortBy 33 = .ok (.iload_n 2, 1) := dqo_28 (kb_of ke_X4_sortBy 33 rfl)
theorem dX4_sortBy_34 : decode cX4_sortBy 34 = .ok (.invokevirtual 113, 3) := dqo_182 0 113 (kb_of ke_X4_sortBy 34 rfl) (kb_of ke_X4_sortBy 35 rfl) (kb_of ke_X4_sortBy 36 rfl)
theorem dX4_sortBy_37 : decode cX4_sortBy 37 = .ok (.ireturn, 1) := dqo_172 (kb_of ke_X4_sortBy 37 rfl)
set_option maxRecDepth 100000 in
set_option maxHeartbeats 4000000 in
theorem D_sortBy_ok {l : Launch} {D : va_G} {cy : Nat → ClassId} {X : (Nat → Prop) → State → Heap → Prop} {ba ra : Nat → Nat} {hf : Nat → Nat → Nat} {hq : Nat → Nat → Int32} {kn th : Int32} {sm : Int64} {Y : va_W} {f : Nat → Nat → Nat} {r : Nat → Nat → Int32} {w : Nat} {b0 : Nat} (hX : EnvM X cy) (hC : CInv f) (hM : MR f r hf hq) (hw : w < 8) (h5w : f 5 w = 1) (hb0 : b0 ≤ 2) (hA0 : ∀ j, IB (cutF (fun z => hq (f 1 w) (f 3 w + z)) (hf 4 w) j)) (hz : 0 < f 4 w) : Cd l D cy X yX4_sortBy cX4_sortBy 3 (some .int) (rmk 9 4 48 420) [.ref (ba 9), .int (nI w), .int (nI b0)] (WM cy ba ra hf hq kn th sm ++ Y) (some (.int ((wrR hq (f 1 w) (f 3 w) (hf 4 w) (soA b0 (hf 4 w - 1) 1 (cutF (fun z => hq (f 1 w) (f 3 w + z)) (hf 4 w)))) (f 1 w) (f 3 w)))) (WM cy ba ra (chM f hf w 4294967295) (wrR hq (f 1 w) (f 3 w) (hf 4 w) (soA b0 (hf 4 w - 1) 1 (cutF (fun z => hq (f 1 w) (f 3 w + z)) (hf 4 w)))) kn (nI 0) sm ++ Y) := by
  have hG := hM.1
  have h5M := hM.h5M hC
  have h4M := hC.h4M
  have h9a := hM.h9a hC
  have h6a := hM.h6a
  have hU := hM.hU hC
  have qw := hM.wh hC hw h5w
  refine Cm.of [some (.ref (ba 9)), some (.int (nI w)), some (.int (nI b0))] pn_X4 rfl (Nat.le_of_ble_eq_true rfl) ?_
  intro p e s m args below meth c A C hE hr hnt hn
  refine r_aload_n C dX4_sortBy_0 rfl ?_
  refine r_aload_n C dX4_sortBy_1 rfl ?_
  refine r_iload_n C dX4_sortBy_2 rfl ?_
  refine d_V (st := [.ref (ba 9)]) hX.1.stb C hE (D_isNoWhere0 (ba := ba) (ra := ra) (hf := hf) (hq := hq) (kn := kn) (th := th) (sm := sm) (Y := Y) (w := w) hX (by first | omega | (simp [up2, *]; done) | (simp [up2, *]; omega) | (simp only [up2_eq]; omega) | (split <;> omega)) (by first | omega | (simp [up2, *]; done) | (simp [up2, *]; omega) | (simp only [up2_eq]; omega) | (split <;> omega))) pk_X4_isNoWhere qm_X4_55 0 8 rfl rfl wm_0 rfl rfl (Nat.le_of_ble_eq_true rfl) dX4_sortBy_3 ⟨(Nat.le_of_ble_eq_true rfl), (Nat.le_of_ble_eq_true rfl)⟩ ⟨(Nat.le_of_ble_eq_true rfl), (Nat.le_of_ble_eq_true rfl)⟩ ?_
  refine r_w (w' := WM cy ba ra hf hq kn th sm ++ Y) rfl ?_
  refine r_iload_n C dX4_sortBy_6 rfl ?_
  refine r_iconst (v := (nI 0)) C dX4_sortBy_7 (by decide) ?_
  refine r_iconst (v := (nI 2)) C dX4_sortBy_8 (by decide) ?_
  refine d_S (st := [.int (nI 0), .ref (ba 9)]) hX.1.stb C hE (D_isInN (ba := ba) (ra := ra) (hf := hf) (hq := hq) (kn := kn) (th := th) (sm := sm) (Y := Y) (a0 := b0) (b0 := 0) (d0 := 2) hX (by first | omega | (simp [up2, *]; done) | (simp [up2, *]; omega) | (simp only [up2_eq]; omega) | (split <;> omega)) (by first | omega | (simp [up2, *]; done) | (simp [up2, *]; omega) | (simp only [up2_eq]; omega) | (split <;> omega)) (by first | omega | (simp [up2, *]; done) | (simp [up2, *]; omega) | (simp only [up2_eq]; omega) | (split <;> omega))) pk_X4_isIn qm_X4_1 rfl rfl (Nat.le_of_ble_eq_true rfl) dX4_sortBy_9 ⟨(Nat.le_of_ble_eq_true rfl), (Nat.le_of_ble_eq_true rfl)⟩ ⟨(Nat.le_of_ble_eq_true rfl), (Nat.le_of_ble_eq_true rfl)⟩ ?_
  refine r_w (w' := WM cy ba ra hf hq kn th sm ++ Y) rfl ?_
  refine r_ifN_ne (a := 1) (tgt := 19) C (by first | omega | (simp [up2, *]; done) | (simp [up2, *]; omega) | (simp only [up2_eq]; omega) | (split <;> omega)) dX4_sortBy_12 (by decide) (fun h12_1 => ?_) (fun h12_1 => ?_)
  · skip
    refine r_iconst (v := (nI 0)) C dX4_sortBy_19 (by decide) ?_
    refine r_iconst (v := (nI 0)) C dX4_sortBy_20 (by decide) ?_
    refine d_V (st := []) hX.1.stb C hE (D_fails0 (ba := ba) (ra := ra) (hf := hf) (hq := hq) (kn := kn) (th := th) (sm := sm) (Y := Y)  hX ) pk_X4_fails qm_X4_84 0 8 rfl rfl wm_0 rfl rfl (Nat.le_of_ble_eq_true rfl) dX4_sortBy_21 ⟨(Nat.le_of_ble_eq_true rfl), (Nat.le_of_ble_eq_true rfl)⟩ ⟨(Nat.le_of_ble_eq_true rfl), (Nat.le_of_ble_eq_true rfl)⟩ ?_
    refine r_w (w' := WM cy ba ra hf hq kn (nI 0) sm ++ Y) rfl ?_
    refine r_ifN_eq (a := 0) (tgt := 31) C (by first | omega | (simp [up2, *]; done) | (simp [up2, *]; omega) | (simp only [up2_eq]; omega) | (split <;> omega)) dX4_sortBy_24 (by decide) (fun h24_2 => ?_) (fun h24_2 => ?_)
    · skip
      refine r_aload_n C dX4_sortBy_31 rfl ?_
      refine r_iload_n C dX4_sortBy_32 rfl ?_
      refine r_iload_n C dX4_sortBy_33 rfl ?_
      refine d_V (st := []) hX.1.stb C hE (D_sorted_ok (ba := ba) (ra := ra) (hf := hf) (hq := hq) (kn := kn) (th := (nI 0)) (sm := sm) (Y := Y) (f := f) (w := w) (b := b0) hX hC hM (by first | omega | (simp [up2, *]; done) | (simp [up2, *]; omega) | (simp only [up2_eq]; omega) | (split <;> omega)) (by first | omega | (simp [up2, *]; done) | (simp [up2, *]; omega) | (simp only [up2_eq]; omega) | (split <;> omega)) (by first | omega | (simp [up2, *]; done) | (simp [up2, *]; omega) | (simp only [up2_eq]; omega) | (split <;> omega)) hA0 (by first | omega | (simp [up2, *]; done) | (simp [up2, *]; omega) | (simp only [up2_eq]; omega) | (split <;> omega))) pk_X4_sorted qm_X4_113 0 8 rfl rfl wm_0 rfl rfl (Nat.le_of_ble_eq_true rfl) dX4_sortBy_34 ⟨(Nat.le_of_ble_eq_true rfl), (Nat.le_of_ble_eq_true rfl)⟩ ⟨(Nat.le_of_ble_eq_true rfl), (Nat.le_of_ble_eq_true rfl)⟩ ?_
      refine r_w (w' := WM cy ba ra (chM f hf w 4294967295) (wrR hq (f 1 w) (f 3 w) (hf 4 w) (soA b0 (hf 4 w - 1) 1 (cutF (fun z => hq (f 1 w) (f 3 w + z)) (hf 4 w)))) kn (nI 0) sm ++ Y) rfl ?_
      exact r_iret C hr dX4_sortBy_37 ⟨rfl, rfl⟩ (Nat.le_of_ble_eq_true rfl) (Nat.le_of_ble_eq_true rfl)
    · exact absurd h24_2 (by first | omega | (simp [up2, *]; done) | (simp [up2, *]; omega) | (simp only [up2_eq]; omega) | (split <;> omega))
  · exact absurd h12_1 (by first | omega | (simp [up2, *]; done) | (simp [up2, *]; omega) | (simp only [up2_eq]; omega) | (split <;> omega))
set_option maxRecDepth 100000 in
set_option maxHeartbeats 4000000 in
theorem D_sort_0 {l : Launch} {D : va_G} {cy : Nat → ClassId} {X : (Nat → Prop) → State → Heap → Prop} {ba ra : Nat → Nat} {hf : Nat → Nat → Nat} {hq : Nat → Nat → Int32} {kn th : Int32} {sm : Int64} {Y : va_W} {f : Nat → Nat → Nat} {r : Nat → Nat → Int32} {w : Nat} (hX : EnvM X cy) (hC : CInv f) (hM : MR f r hf hq) (hw : w < 8) (h5w : f 5 w = 1) (hA0 : ∀ j, IB (cutF (fun z => hq (f 1 w) (f 3 w + z)) (hf 4 w) j)) (hz : f 4 w = 0) : Cd l D cy X yX4_sort cX4_sort 2 (some .int) (rmk 9 4 48 420) [.ref (ba 9), .int (nI w)] (WM cy ba ra hf hq kn th sm ++ Y) (some (.int (nI 100))) (WM cy ba ra (chM f hf w 4294967295) (wrR hq (f 1 w) (f 3 w) (hf 4 w) (soA 3 (hf 4 w - 1) 1 (cutF (fun z => hq (f 1 w) (f 3 w + z)) (hf 4 w)))) kn (nI 0) sm ++ Y) := by
  have hG := hM.1
  have h5M := hM.h5M hC
  have h4M := hC.h4M
  have h9a := hM.h9a hC
  have h6a := hM.h6a
  have hU := hM.hU hC
  have qw := hM.wh hC hw h5w
  refine Cm.of [some (.ref (ba 9)), some (.int (nI w))] pn_X4 rfl (Nat.le_of_ble_eq_true rfl) ?_
  intro p e s m args below meth c A C hE hr hnt hn
  refine r_aload_n C dX4_sort_0 rfl ?_
  refine r_aload_n C dX4_sort_1 rfl ?_
  refine r_iload_n C dX4_sort_2 rfl ?_
  refine d_V (st := [.ref (ba 9)]) hX.1.stb C hE (D_isNoWhere0 (ba := ba) (ra := ra) (hf := hf) (hq := hq) (kn := kn) (th := th) (sm := sm) (Y := Y) (w := w) hX (by first | omega | (simp [up2, *]; done) | (simp [up2, *]; omega) | (simp only [up2_eq]; omega) | (split <;> omega)) (by first | omega | (simp [up2, *]; done) | (simp [up2, *]; omega) | (simp only [up2_eq]; omega) | (split <;> omega))) pk_X4_isNoWhere qm_X4_55 0 8 rfl rfl wm_0 rfl rfl (Nat.le_of_ble_eq_true rfl) dX4_sort_3 ⟨(Nat.le_of_ble_eq_true rfl), (Nat.le_of_ble_eq_true rfl)⟩ ⟨(Nat.le_of_ble_eq_true rfl), (Nat.le_of_ble_eq_true rfl)⟩ ?_
  refine r_w (w' := WM cy ba ra hf hq kn th sm ++ Y) rfl ?_
  refine r_iconst (v := (nI 0)) C dX4_sort_6 (by decide) ?_
  refine r_iconst (v := (nI 0)) C dX4_sort_7 (by decide) ?_
  refine d_V (st := []) hX.1.stb C hE (D_fails0 (ba := ba) (ra := ra) (hf := hf) (hq := hq) (kn := kn) (th := th) (sm := sm) (Y := Y)  hX ) pk_X4_fails qm_X4_84 0 8 rfl rfl wm_0 rfl rfl (Nat.le_of_ble_eq_true rfl) dX4_sort_8 ⟨(Nat.le_of_ble_eq_true rfl), (Nat.le_of_ble_eq_true rfl)⟩ ⟨(Nat.le_of_ble_eq_true rfl), (Nat.le_of_ble_eq_true rfl)⟩ ?_
  refine r_w (w' := WM cy ba ra hf hq kn (nI 0) sm ++ Y) rfl ?_
  refine r_ifN_eq (a := 0) (tgt := 18) C (by first | omega | (simp [up2, *]; done) | (simp [up2, *]; omega) | (simp only [up2_eq]; omega) | (split <;> omega)) dX4_sort_11 (by decide) (fun h11_1 => ?_) (fun h11_1 => ?_)
  · skip
    refine r_aload_n C dX4_sort_18 rfl ?_
    refine r_iload_n C dX4_sort_19 rfl ?_
    refine r_iconst (v := (nI 3)) C dX4_sort_20 (by decide) ?_
    refine d_V (st := []) hX.1.stb C hE (D_sorted_0 (ba := ba) (ra := ra) (hf := hf) (hq := hq) (kn := kn) (th := (nI 0)) (sm := sm) (Y := Y) (f := f) (w := w) (b := 3) hX hC hM (by first | omega | (simp [up2, *]; done) | (simp [up2, *]; omega) | (simp only [up2_eq]; omega) | (split <;> omega)) (by first | omega | (simp [up2, *]; done) | (simp [up2, *]; omega) | (simp only [up2_eq]; omega) | (split <;> omega)) (by first | omega | (simp [up2, *]; done) | (simp [up2, *]; omega) | (simp only [up2_eq]; omega) | (split <;> omega)) hA0 (by first | omega | (simp [up2, *]; done) | (simp [up2, *]; omega) | (simp only [up2_eq]; omega) | (split <;> omega))) pk_X4_sorted qm_X4_113 0 8 rfl rfl wm_0 rfl rfl (Nat.le_of_ble_eq_true rfl) dX4_sort_21 ⟨(Nat.le_of_ble_eq_true rfl), (Nat.le_of_ble_eq_true rfl)⟩ ⟨(Nat.le_of_ble_eq_true rfl), (Nat.le_of_ble_eq_true rfl)⟩ ?_
    refine r_w (w' := WM cy ba ra (chM f hf w 4294967295) (wrR hq (f 1 w) (f 3 w) (hf 4 w) (soA 3 (hf 4 w - 1) 1 (cutF (fun z => hq (f 1 w) (f 3 w + z)) (hf 4 w)))) kn (nI 0) sm ++ Y) rfl ?_
    exact r_iret C hr dX4_sort_24 ⟨rfl, rfl⟩ (Nat.le_of_ble_eq_true rfl) (Nat.le_of_ble_eq_true rfl)
  · exact absurd h11_1 (by first | omega | (simp [up2, *]; done) | (simp [up2, *]; omega) | (simp only [up2_eq]; omega) | (split <;> omega))
set_option maxRecDepth 100000 in
set_option maxHeartbeats 4000000 in
theorem D_sortBy_0 {l : Launch} {D : va_G} {cy : Nat → ClassId} {X : (Nat → Prop) → State → Heap → Prop} {ba ra : Nat → Nat} {hf : Nat → Nat → Nat} {hq : Nat → Nat → Int32} {kn th : Int32} {sm : Int64} {Y : va_W} {f : Nat → Nat → Nat} {r : Nat → Nat → Int32} {w : Nat} {b0 : Nat} (hX : EnvM X cy) (hC : CInv f) (hM : MR f r hf hq) (hw : w < 8) (h5w : f 5 w = 1) (hb0 : b0 ≤ 2) (hA0 : ∀ j, IB (cutF (fun z => hq (f 1 w) (f 3 w + z)) (hf 4 w) j)) (hz : f 4 w = 0) : Cd l D cy X yX4_sortBy cX4_sortBy 3 (some .int) (rmk 9 4 48 420) [.ref (ba 9), .int (nI w), .int (nI b0)] (WM cy ba ra hf hq kn th sm ++ Y) (some (.int (nI 100))) (WM cy ba ra (chM f hf w 4294967295) (wrR hq (f 1 w) (f 3 w) (hf 4 w) (soA b0 (hf 4 w - 1) 1 (cutF (fun z => hq (f 1 w) (f 3 w + z)) (hf 4 w)))) kn (nI 0) sm ++ Y) := by
  have hG := hM.1
  have h5M := hM.h5M hC
  have h4M := hC.h4M
  have h9a := hM.h9a hC
  have h6a := hM.h6a
  have hU := hM.hU hC
  have qw := hM.wh hC hw h5w
  refine Cm.of [some (.ref (ba 9)), some (.int (nI w)), some (.int (nI b0))] pn_X4 rfl (Nat.le_of_ble_eq_true rfl) ?_
  intro p e s m args below meth c A C hE hr hnt hn
  refine r_aload_n C dX4_sortBy_0 rfl ?_
  refine r_aload_n C dX4_sortBy_1 rfl ?_
  refine r_iload_n C dX4_sortBy_2 rfl ?_
  refine d_V (st := [.ref (ba 9)]) hX.1.stb C hE (D_isNoWhere0 (ba := ba) (ra := ra) (hf := hf) (hq := hq) (kn := kn) (th := th) (sm := sm) (Y := Y) (w := w) hX (by first | omega | (simp [up2, *]; done) | (simp [up2, *]; omega) | (simp only [up2_eq]; omega) | (split <;> omega)) (by first | omega | (simp [up2, *]; done) | (simp [up2, *]; omega) | (simp only [up2_eq]; omega) | (split <;> omega))) pk_X4_isNoWhere qm_X4_55 0 8 rfl rfl wm_0 rfl rfl (Nat.le_of_ble_eq_true rfl) dX4_sortBy_3 ⟨(Nat.le_of_ble_eq_true rfl), (Nat.le_of_ble_eq_true rfl)⟩ ⟨(Nat.le_of_ble_eq_true rfl), (Nat.le_of_ble_eq_true rfl)⟩ ?_
  refine r_w (w' := WM cy ba ra hf hq kn th sm ++ Y) rfl ?_
  refine r_iload_n C dX4_sortBy_6 rfl ?_
  refine r_iconst (v := (nI 0)) C dX4_sortBy_7 (by decide) ?_
  refine r_iconst (v := (nI 2)) C dX4_sortBy_8 (by decide) ?_
  refine d_S (st := [.int (nI 0), .ref (ba 9)]) hX.1.stb C hE (D_isInN (ba := ba) (ra := ra) (hf := hf) (hq := hq) (kn := kn) (th := th) (sm := sm) (Y := Y) (a0 := b0) (b0 := 0) (d0 := 2) hX (by first | omega | (simp [up2, *]; done) | (simp [up2, *]; omega) | (simp only [up2_eq]; omega) | (split <;> omega)) (by first | omega | (simp [up2, *]; done) | (simp [up2, *]; omega) | (simp only [up2_eq]; omega) | (split <;> omega)) (by first | omega | (simp [up2, *]; done) | (simp [up2, *]; omega) | (simp only [up2_eq]; omega) | (split <;> omega))) pk_X4_isIn qm_X4_1 rfl rfl (Nat.le_of_ble_eq_true rfl) dX4_sortBy_9 ⟨(Nat.le_of_ble_eq_true rfl), (Nat.le_of_ble_eq_true rfl)⟩ ⟨(Nat.le_of_ble_eq_true rfl), (Nat.le_of_ble_eq_true rfl)⟩ ?_
  refine r_w (w' := WM cy ba ra hf hq kn th sm ++ Y) rfl ?_
  refine r_ifN_ne (a := 1) (tgt := 19) C (by first | omega | (simp [up2, *]; done) | (simp [up2, *]; omega) | (simp only [up2_eq]; omega) | (split <;> omega)) dX4_sortBy_12 (by decide) (fun h12_1 => ?_) (fun h12_1 => ?_)
  · skip
    refine r_iconst (v := (nI 0)) C dX4_sortBy_19 (by decide) ?_
    refine r_iconst (v := (nI 0)) C dX4_sortBy_20 (by decide) ?_
    refine d_V (st := []) hX.1.stb C hE (D_fails0 (ba := ba) (ra := ra) (hf := hf) (hq := hq) (kn := kn) (th := th) (sm := sm) (Y := Y)  hX ) pk_X4_fails qm_X4_84 0 8 rfl rfl wm_0 rfl rfl (Nat.le_of_ble_eq_true rfl) dX4_sortBy_21 ⟨(Nat.le_of_ble_eq_true rfl), (Nat.le_of_ble_eq_true rfl)⟩ ⟨(Nat.le_of_ble_eq_true rfl), (Nat.le_of_ble_eq_true rfl)⟩ ?_
    refine r_w (w' := WM cy ba ra hf hq kn (nI 0) sm ++ Y) rfl ?_
    refine r_ifN_eq (a := 0) (tgt := 31) C (by first | omega | (simp [up2, *]; done) | (simp [up2, *]; omega) | (simp only [up2_eq]; omega) | (split <;> omega)) dX4_sortBy_24 (by decide) (fun h24_2 => ?_) (fun h24_2 => ?_)
    · skip
      refine r_aload_n C dX4_sortBy_31 rfl ?_
      refine r_iload_n C dX4_sortBy_32 rfl ?_
      refine r_iload_n C dX4_sortBy_33 rfl ?_
      refine d_V (st := []) hX.1.stb C hE (D_sorted_0 (ba := ba) (ra := ra) (hf := hf) (hq := hq) (kn := kn) (th := (nI 0)) (sm := sm) (Y := Y) (f := f) (w := w) (b := b0) hX hC hM (by first | omega | (simp [up2, *]; done) | (simp [up2, *]; omega) | (simp only [up2_eq]; omega) | (split <;> omega)) (by first | omega | (simp [up2, *]; done) | (simp [up2, *]; omega) | (simp only [up2_eq]; omega) | (split <;> omega)) (by first | omega | (simp [up2, *]; done) | (simp [up2, *]; omega) | (simp only [up2_eq]; omega) | (split <;> omega)) hA0 (by first | omega | (simp [up2, *]; done) | (simp [up2, *]; omega) | (simp only [up2_eq]; omega) | (split <;> omega))) pk_X4_sorted qm_X4_113 0 8 rfl rfl wm_0 rfl rfl (Nat.le_of_ble_eq_true rfl) dX4_sortBy_34 ⟨(Nat.le_of_ble_eq_true rfl), (Nat.le_of_ble_eq_true rfl)⟩ ⟨(Nat.le_of_ble_eq_true rfl), (Nat.le_of_ble_eq_true rfl)⟩ ?_
      refine r_w (w' := WM cy ba ra (chM f hf w 4294967295) (wrR hq (f 1 w) (f 3 w) (hf 4 w) (soA b0 (hf 4 w - 1) 1 (cutF (fun z => hq (f 1 w) (f 3 w + z)) (hf 4 w)))) kn (nI 0) sm ++ Y) rfl ?_
      exact r_iret C hr dX4_sortBy_37 ⟨rfl, rfl⟩ (Nat.le_of_ble_eq_true rfl) (Nat.le_of_ble_eq_true rfl)
    · exact absurd h24_2 (by first | omega | (simp [up2, *]; done) | (simp [up2, *]; omega) | (simp only [up2_eq]; omega) | (split <;> omega))
  · exact absurd h12_1 (by first | omega | (simp [up2, *]; done) | (simp [up2, *]; omega) | (simp only [up2_eq]; omega) | (split <;> omega))
theorem dX4_sortBy_15 : decode cX4_sortBy 15 = .ok (.iconst 1, 1) := dqo_4 (kb_of ke_X4_sortBy 15 rfl)
theorem dX4_sortBy_16 : decode cX4_sortBy 16 = .ok (.goto 4, 3) := dqo_167 0 4 (by decide) (kb_of ke_X4_sortBy 16 rfl) (kb_of ke_X4_sortBy 17 rfl) (kb_of ke_X4_sortBy 18 rfl)
theorem dX4_sortBy_27 : decode cX4_sortBy 27 = .ok (.iconst 0, 1) := dqo_3 (kb_of ke_X4_sortBy 27 rfl)
theorem dX4_sortBy_28 : decode cX4_sortBy 28 = .ok (.goto 9, 3) := dqo_167 0 9 (by decide) (kb_of ke_X4_sortBy 28 rfl) (kb_of ke_X4_sortBy 29 rfl) (kb_of ke_X4_sortBy 30 rfl)
set_option maxRecDepth 100000 in
set_option maxHeartbeats 4000000 in
theorem D_sortBy_noW {l : Launch} {D : va_G} {cy : Nat → ClassId} {X : (Nat → Prop) → State → Heap → Prop} {ba ra : Nat → Nat} {hf : Nat → Nat → Nat} {hq : Nat → Nat → Int32} {kn th : Int32} {sm : Int64} {Y : va_W} {f : Nat → Nat → Nat} {r : Nat → Nat → Int32} {x : Int32} {y : Int32} (hX : EnvM X cy) (hC : CInv f) (hM : MR f r hf hq) (hno : noW f x) : Cd l D cy X yX4_sortBy cX4_sortBy 3 (some .int) (rmk 9 4 48 420) [.ref (ba 9), .int x, .int y] (WM cy ba ra hf hq kn th sm ++ Y) (some (.int (nI 0))) (WM cy ba ra hf hq kn (nI 1) sm ++ Y) := by
  have hG := hM.1
  have h5M := hM.h5M hC
  have h4M := hC.h4M
  have h9a := hM.h9a hC
  have h6a := hM.h6a
  have hU := hM.hU hC
  refine Cm.of [some (.ref (ba 9)), some (.int x), some (.int y)] pn_X4 rfl (Nat.le_of_ble_eq_true rfl) ?_
  intro p e s m args below meth c A C hE hr hnt hn
  refine r_aload_n C dX4_sortBy_0 rfl ?_
  refine r_aload_n C dX4_sortBy_1 rfl ?_
  refine r_iload_n C dX4_sortBy_2 rfl ?_
  refine d_V (st := [.ref (ba 9)]) hX.1.stb C hE (D_isNoWhere1 (ba := ba) (ra := ra) (hf := hf) (hq := hq) (kn := kn) (th := th) (sm := sm) (Y := Y) (f := f) (x := (x)) hX h5M h4M hno) pk_X4_isNoWhere qm_X4_55 0 8 rfl rfl wm_0 rfl rfl (Nat.le_of_ble_eq_true rfl) dX4_sortBy_3 ⟨(Nat.le_of_ble_eq_true rfl), (Nat.le_of_ble_eq_true rfl)⟩ ⟨(Nat.le_of_ble_eq_true rfl), (Nat.le_of_ble_eq_true rfl)⟩ ?_
  refine r_w (w' := WM cy ba ra hf hq kn th sm ++ Y) rfl ?_
  refine r_iload_n C dX4_sortBy_6 rfl ?_
  refine r_iconst (v := (nI 0)) C dX4_sortBy_7 (by decide) ?_
  refine r_iconst (v := (nI 2)) C dX4_sortBy_8 (by decide) ?_
  refine d_S (st := [.int (nI 1), .ref (ba 9)]) hX.1.stb C hE (D_isInX (ba := ba) (ra := ra) (hf := hf) (hq := hq) (kn := kn) (th := th) (sm := sm) (Y := Y) (x := (y)) (y := ((nI 0))) (z := ((nI 2))) hX ) pk_X4_isIn qm_X4_1 rfl rfl (Nat.le_of_ble_eq_true rfl) dX4_sortBy_9 ⟨(Nat.le_of_ble_eq_true rfl), (Nat.le_of_ble_eq_true rfl)⟩ ⟨(Nat.le_of_ble_eq_true rfl), (Nat.le_of_ble_eq_true rfl)⟩ ?_
  refine r_w (w' := WM cy ba ra hf hq kn th sm ++ Y) rfl ?_
  refine r_ifN_ne (a := (if ((nI 0)) ≤ (y) ∧ (y) ≤ ((nI 2)) then 1 else 0)) (tgt := 19) C (by first | omega | (simp [up2, *]; done) | (simp [up2, *]; omega) | (simp only [up2_eq]; omega) | (split <;> omega)) dX4_sortBy_12 (by decide) (fun h12_1 => ?_) (fun h12_1 => ?_)
  · first
    | exfalso; first | omega | contradiction
    | skip
      refine r_iconst (v := (nI 0)) C dX4_sortBy_19 (by decide) ?_
      refine r_iconst (v := (nI 0)) C dX4_sortBy_20 (by decide) ?_
      refine d_V (st := []) hX.1.stb C hE (D_fails1 (ba := ba) (ra := ra) (hf := hf) (hq := hq) (kn := kn) (th := th) (sm := sm) (Y := Y) (b0 := 0) (d0 := 0) hX ) pk_X4_fails qm_X4_84 0 8 rfl rfl wm_0 rfl rfl (Nat.le_of_ble_eq_true rfl) dX4_sortBy_21 ⟨(Nat.le_of_ble_eq_true rfl), (Nat.le_of_ble_eq_true rfl)⟩ ⟨(Nat.le_of_ble_eq_true rfl), (Nat.le_of_ble_eq_true rfl)⟩ ?_
      refine r_w (w' := WM cy ba ra hf hq kn (nI 1) sm ++ Y) rfl ?_
      refine r_ifN_eq (a := 1) (tgt := 31) C (by first | omega | (simp [up2, *]; done) | (simp [up2, *]; omega) | (simp only [up2_eq]; omega) | (split <;> omega)) dX4_sortBy_24 (by decide) (fun h24_2 => ?_) (fun h24_2 => ?_)
      · exact absurd h24_2 (by first | omega | (simp [up2, *]; done) | (simp [up2, *]; omega) | (simp only [up2_eq]; omega) | (split <;> omega))
      · skip
        refine r_iconst (v := (nI 0)) C dX4_sortBy_27 (by decide) ?_
        refine r_goto (tgt := 37) C dX4_sortBy_28 (by decide) ?_
        exact r_iret C hr dX4_sortBy_37 ⟨rfl, rfl⟩ (Nat.le_of_ble_eq_true rfl) (Nat.le_of_ble_eq_true rfl)
  · first
    | exfalso; first | omega | contradiction
    | skip
      refine r_iconst (v := (nI 1)) C dX4_sortBy_15 (by decide) ?_
      refine r_goto (tgt := 20) C dX4_sortBy_16 (by decide) ?_
      refine r_iconst (v := (nI 0)) C dX4_sortBy_20 (by decide) ?_
      refine d_V (st := []) hX.1.stb C hE (D_fails1 (ba := ba) (ra := ra) (hf := hf) (hq := hq) (kn := kn) (th := th) (sm := sm) (Y := Y) (b0 := 1) (d0 := 0) hX ) pk_X4_fails qm_X4_84 0 8 rfl rfl wm_0 rfl rfl (Nat.le_of_ble_eq_true rfl) dX4_sortBy_21 ⟨(Nat.le_of_ble_eq_true rfl), (Nat.le_of_ble_eq_true rfl)⟩ ⟨(Nat.le_of_ble_eq_true rfl), (Nat.le_of_ble_eq_true rfl)⟩ ?_
      refine r_w (w' := WM cy ba ra hf hq kn (nI 1) sm ++ Y) rfl ?_
      refine r_ifN_eq (a := 1) (tgt := 31) C (by first | omega | (simp [up2, *]; done) | (simp [up2, *]; omega) | (simp only [up2_eq]; omega) | (split <;> omega)) dX4_sortBy_24 (by decide) (fun h24_3 => ?_) (fun h24_3 => ?_)
      · exact absurd h24_3 (by first | omega | (simp [up2, *]; done) | (simp [up2, *]; omega) | (simp only [up2_eq]; omega) | (split <;> omega))
      · skip
        refine r_iconst (v := (nI 0)) C dX4_sortBy_27 (by decide) ?_
        refine r_goto (tgt := 37) C dX4_sortBy_28 (by decide) ?_
        exact r_iret C hr dX4_sortBy_37 ⟨rfl, rfl⟩ (Nat.le_of_ble_eq_true rfl) (Nat.le_of_ble_eq_true rfl)
set_option maxRecDepth 100000 in
set_option maxHeartbeats 4000000 in
theorem D_sortBy_noB {l : Launch} {D : va_G} {cy : Nat → ClassId} {X : (Nat → Prop) → State → Heap → Prop} {ba ra : Nat → Nat} {hf : Nat → Nat → Nat} {hq : Nat → Nat → Int32} {kn th : Int32} {sm : Int64} {Y : va_W} {f : Nat → Nat → Nat} {r : Nat → Nat → Int32} {w : Nat} {y : Int32} (hX : EnvM X cy) (hC : CInv f) (hM : MR f r hf hq) (hw : w < 8) (h5w : f 5 w = 1) (hno : ¬ (0 ≤ y ∧ y ≤ nI 2)) : Cd l D cy X yX4_sortBy cX4_sortBy 3 (some .int) (rmk 9 4 48 420) [.ref (ba 9), .int (nI w), .int y] (WM cy ba ra hf hq kn th sm ++ Y) (some (.int (nI 0))) (WM cy ba ra hf hq kn (nI 2) sm ++ Y) := by
  have hG := hM.1
  have h5M := hM.h5M hC
  have h4M := hC.h4M
  have h9a := hM.h9a hC
  have h6a := hM.h6a
  have hU := hM.hU hC
  have qw := hM.wh hC hw h5w
  refine Cm.of [some (.ref (ba 9)), some (.int (nI w)), some (.int y)] pn_X4 rfl (Nat.le_of_ble_eq_true rfl) ?_
  intro p e s m args below meth c A C hE hr hnt hn
  refine r_aload_n C dX4_sortBy_0 rfl ?_
  refine r_aload_n C dX4_sortBy_1 rfl ?_
  refine r_iload_n C dX4_sortBy_2 rfl ?_
  refine d_V (st := [.ref (ba 9)]) hX.1.stb C hE (D_isNoWhere0 (ba := ba) (ra := ra) (hf := hf) (hq := hq) (kn := kn) (th := th) (sm := sm) (Y := Y) (w := w) hX (by first | omega | (simp [up2, *]; done) | (simp [up2, *]; omega) | (simp only [up2_eq]; omega) | (split <;> omega)) (by first | omega | (simp [up2, *]; done) | (simp [up2, *]; omega) | (simp only [up2_eq]; omega) | (split <;> omega))) pk_X4_isNoWhere qm_X4_55 0 8 rfl rfl wm_0 rfl rfl (Nat.le_of_ble_eq_true rfl) dX4_sortBy_3 ⟨(Nat.le_of_ble_eq_true rfl), (Nat.le_of_ble_eq_true rfl)⟩ ⟨(Nat.le_of_ble_eq_true rfl), (Nat.le_of_ble_eq_true rfl)⟩ ?_
  refine r_w (w' := WM cy ba ra hf hq kn th sm ++ Y) rfl ?_
  refine r_iload_n C dX4_sortBy_6 rfl ?_
  refine r_iconst (v := (nI 0)) C dX4_sortBy_7 (by decide) ?_
  refine r_iconst (v := (nI 2)) C dX4_sortBy_8 (by decide) ?_
  refine d_S (st := [.int (nI 0), .ref (ba 9)]) hX.1.stb C hE (D_isIn0 (ba := ba) (ra := ra) (hf := hf) (hq := hq) (kn := kn) (th := th) (sm := sm) (Y := Y) (x := (y)) (y := ((nI 0))) (z := ((nI 2))) hX hno) pk_X4_isIn qm_X4_1 rfl rfl (Nat.le_of_ble_eq_true rfl) dX4_sortBy_9 ⟨(Nat.le_of_ble_eq_true rfl), (Nat.le_of_ble_eq_true rfl)⟩ ⟨(Nat.le_of_ble_eq_true rfl), (Nat.le_of_ble_eq_true rfl)⟩ ?_
  refine r_w (w' := WM cy ba ra hf hq kn th sm ++ Y) rfl ?_
  refine r_ifN_ne (a := 0) (tgt := 19) C (by first | omega | (simp [up2, *]; done) | (simp [up2, *]; omega) | (simp only [up2_eq]; omega) | (split <;> omega)) dX4_sortBy_12 (by decide) (fun h12_1 => ?_) (fun h12_1 => ?_)
  · exact absurd h12_1 (by first | omega | (simp [up2, *]; done) | (simp [up2, *]; omega) | (simp only [up2_eq]; omega) | (split <;> omega))
  · skip
    refine r_iconst (v := (nI 1)) C dX4_sortBy_15 (by decide) ?_
    refine r_goto (tgt := 20) C dX4_sortBy_16 (by decide) ?_
    refine r_iconst (v := (nI 0)) C dX4_sortBy_20 (by decide) ?_
    refine d_V (st := []) hX.1.stb C hE (D_fails2 (ba := ba) (ra := ra) (hf := hf) (hq := hq) (kn := kn) (th := th) (sm := sm) (Y := Y) (d0 := 0) hX ) pk_X4_fails qm_X4_84 0 8 rfl rfl wm_0 rfl rfl (Nat.le_of_ble_eq_true rfl) dX4_sortBy_21 ⟨(Nat.le_of_ble_eq_true rfl), (Nat.le_of_ble_eq_true rfl)⟩ ⟨(Nat.le_of_ble_eq_true rfl), (Nat.le_of_ble_eq_true rfl)⟩ ?_
    refine r_w (w' := WM cy ba ra hf hq kn (nI 2) sm ++ Y) rfl ?_
    refine r_ifN_eq (a := 1) (tgt := 31) C (by first | omega | (simp [up2, *]; done) | (simp [up2, *]; omega) | (simp only [up2_eq]; omega) | (split <;> omega)) dX4_sortBy_24 (by decide) (fun h24_2 => ?_) (fun h24_2 => ?_)
    · exact absurd h24_2 (by first | omega | (simp [up2, *]; done) | (simp [up2, *]; omega) | (simp only [up2_eq]; omega) | (split <;> omega))
    · skip
      refine r_iconst (v := (nI 0)) C dX4_sortBy_27 (by decide) ?_
      refine r_goto (tgt := 37) C dX4_sortBy_28 (by decide) ?_
      exact r_iret C hr dX4_sortBy_37 ⟨rfl, rfl⟩ (Nat.le_of_ble_eq_true rfl) (Nat.le_of_ble_eq_true rfl)
theorem dX4_partNow_0 : decode cX4_partNow 0 = .ok (.aload_n 0, 1) := dqo_42 (kb_X4_partNow_0 0 rfl)
theorem dX4_partNow_1 : decode cX4_partNow 1 = .ok (.iload_n 1, 1) := dqo_27 (kb_X4_partNow_0 1 rfl)
theorem dX4_partNow_2 : decode cX4_partNow 2 = .ok (.invokevirtual 95, 3) := dqo_182 0 95 (kb_X4_partNow_0 2 rfl) (kb_X4_partNow_0 3 rfl) (kb_X4_partNow_0 4 rfl)
theorem dX4_partNow_5 : decode cX4_partNow 5 = .ok (.astore_n 3, 1) := dqo_78 (kb_X4_partNow_0 5 rfl)
theorem dX4_partNow_6 : decode cX4_partNow 6 = .ok (.aload_n 0, 1) := dqo_42 (kb_X4_partNow_0 6 rfl)
theorem dX4_partNow_7 : decode cX4_partNow 7 = .ok (.iload_n 2, 1) := dqo_28 (kb_X4_partNow_0 7 rfl)
theorem dX4_partNow_8 : decode cX4_partNow 8 = .ok (.invokevirtual 95, 3) := dqo_182 0 95 (kb_X4_partNow_0 8 rfl) (kb_X4_partNow_0 9 rfl) (kb_X4_partNow_0 10 rfl)
theorem dX4_partNow_11 : decode cX4_partNow 11 = .ok (.astore 4, 2) := dqo_58 4 (kb_X4_partNow_0 11 rfl) (kb_X4_partNow_0 12 rfl)
theorem dX4_partNow_13 : decode cX4_partNow 13 = .ok (.iconst 0, 1) := dqo_3 (kb_X4_partNow_0 13 rfl)
theorem dX4_partNow_14 : decode cX4_partNow 14 = .ok (.istore 5, 2) := dqo_54 5 (kb_X4_partNow_0 14 rfl) (kb_X4_partNow_0 15 rfl)
theorem dX4_partNow_16 : decode cX4_partNow 16 = .ok (.iload 5, 2) := dqo_21 5 (kb_X4_partNow_0 16 rfl) (kb_X4_partNow_0 17 rfl)
theorem dX4_partNow_18 : decode cX4_partNow 18 = .ok (.aload 4, 2) := dqo_25 4 (kb_X4_partNow_0 18 rfl) (kb_X4_partNow_0 19 rfl)
theorem dX4_partNow_20 : decode cX4_partNow 20 = .ok (.arraylength, 1) := dqo_190 (kb_X4_partNow_0 20 rfl)
theorem dX4_partNow_21 : decode cX4_partNow 21 = .ok (.iadd, 1) := dqo_96 (kb_X4_partNow_0 21 rfl)
theorem dX4_partNow_22 : decode cX4_partNow 22 = .ok (.aload_n 3, 1) := dqo_45 (kb_X4_partNow_0 22 rfl)
theorem dX4_partNow_23 : decode cX4_partNow 23 = .ok (.arraylength, 1) := dqo_190 (kb_X4_partNow_0 23 rfl)
theorem dX4_partNow_24 : decode cX4_partNow 24 = .ok (.if_icmp .gt 62, 3) := dqo_163 0 62 (by decide) (kb_X4_partNow_0 24 rfl) (kb_X4_partNow_0 25 rfl) (kb_X4_partNow_0 26 rfl)
theorem dX4_partNow_27 : decode cX4_partNow 27 = .ok (.iconst 1, 1) := dqo_4 (kb_X4_partNow_0 27 rfl)
theorem dX4_partNow_28 : decode cX4_partNow 28 = .ok (.istore 6, 2) := dqo_54 6 (kb_X4_partNow_0 28 rfl) (kb_X4_partNow_0 29 rfl)
theorem dX4_partNow_30 : decode cX4_partNow 30 = .ok (.iconst 0, 1) := dqo_3 (kb_X4_partNow_0 30 rfl)
theorem dX4_partNow_31 : decode cX4_partNow 31 = .ok (.istore 7, 2) := dqo_54 7 (kb_X4_partNow_0 31 rfl) (kb_X4_partNow_0 32 rfl)
theorem dX4_partNow_33 : decode cX4_partNow 33 = .ok (.iload 7, 2) := dqo_21 7 (kb_X4_partNow_0 33 rfl) (kb_X4_partNow_0 34 rfl)
theorem dX4_partNow_35 : decode cX4_partNow 35 = .ok (.aload 4, 2) := dqo_25 4 (kb_X4_partNow_0 35 rfl) (kb_X4_partNow_0 36 rfl)
theorem dX4_partNow_37 : decode cX4_partNow 37 = .ok (.arraylength, 1) := dqo_190 (kb_X4_partNow_0 37 rfl)
theorem dX4_partNow_38 : decode cX4_partNow 38 = .ok (.if_icmp .ge 34, 3) := dqo_162 0 34 (by decide) (kb_X4_partNow_0 38 rfl) (kb_X4_partNow_0 39 rfl) (kb_X4_partNow_0 40 rfl)
theorem dX4_partNow_41 : decode cX4_partNow 41 = .ok (.iload 6, 2) := dqo_21 6 (kb_X4_partNow_0 41 rfl) (kb_X4_partNow_0 42 rfl)
theorem dX4_partNow_43 : decode cX4_partNow 43 = .ok (.aload_n 3, 1) := dqo_45 (kb_X4_partNow_0 43 rfl)
theorem dX4_partNow_44 : decode cX4_partNow 44 = .ok (.iload 5, 2) := dqo_21 5 (kb_X4_partNow_0 44 rfl) (kb_X4_partNow_0 45 rfl)
theorem dX4_partNow_46 : decode cX4_partNow 46 = .ok (.iload 7, 2) := dqo_21 7 (kb_X4_partNow_0 46 rfl) (kb_X4_partNow_0 47 rfl)
theorem dX4_partNow_48 : decode cX4_partNow 48 = .ok (.iadd, 1) := dqo_96 (kb_X4_partNow_0 48 rfl)
theorem dX4_partNow_49 : decode cX4_partNow 49 = .ok (.iaload, 1) := dqo_46 (kb_X4_partNow_0 49 rfl)
theorem dX4_partNow_50 : decode cX4_partNow 50 = .ok (.aload 4, 2) := dqo_25 4 (kb_X4_partNow_0 50 rfl) (kb_X4_partNow_0 51 rfl)
theorem dX4_partNow_52 : decode cX4_partNow 52 = .ok (.iload 7, 2) := dqo_21 7 (kb_X4_partNow_0 52 rfl) (kb_X4_partNow_0 53 rfl)
theorem dX4_partNow_54 : decode cX4_partNow 54 = .ok (.iaload, 1) := dqo_46 (kb_X4_partNow_0 54 rfl)
theorem dX4_partNow_55 : decode cX4_partNow 55 = .ok (.if_icmp .ne 7, 3) := dqo_160 0 7 (by decide) (kb_X4_partNow_0 55 rfl) (kb_X4_partNow_0 56 rfl) (kb_X4_partNow_0 57 rfl)
theorem dX4_partNow_58 : decode cX4_partNow 58 = .ok (.iconst 1, 1) := dqo_4 (kb_X4_partNow_0 58 rfl)
theorem dX4_partNow_59 : decode cX4_partNow 59 = .ok (.goto 4, 3) := dqo_167 0 4 (by decide) (kb_X4_partNow_0 59 rfl) (kb_X4_partNow_0 60 rfl) (kb_X4_partNow_0 61 rfl)
theorem dX4_partNow_62 : decode cX4_partNow 62 = .ok (.iconst 0, 1) := dqo_3 (kb_X4_partNow_0 62 rfl)
theorem dX4_partNow_63 : decode cX4_partNow 63 = .ok (.iand, 1) := dqo_126 (kb_X4_partNow_0 63 rfl)
theorem dX4_partNow_64 : decode cX4_partNow 64 = .ok (.istore 6, 2) := dqo_54 6 (kb_X4_partNow_1 0 rfl) (kb_X4_partNow_1 1 rfl)
theorem dX4_partNow_66 : decode cX4_partNow 66 = .ok (.iinc 7 1, 3) := dqo_132 7 1 (by decide) (kb_X4_partNow_1 2 rfl) (kb_X4_partNow_1 3 rfl) (kb_X4_partNow_1 4 rfl)
theorem dX4_partNow_69 : decode cX4_partNow 69 = .ok (.goto (-36), 3) := dqo_167 255 220 (by decide) (kb_X4_partNow_1 5 rfl) (kb_X4_partNow_1 6 rfl) (kb_X4_partNow_1 7 rfl)
theorem dX4_partNow_72 : decode cX4_partNow 72 = .ok (.iload 6, 2) := dqo_21 6 (kb_X4_partNow_1 8 rfl) (kb_X4_partNow_1 9 rfl)
theorem dX4_partNow_74 : decode cX4_partNow 74 = .ok (.ifCond .eq 6, 3) := dqo_153 0 6 (by decide) (kb_X4_partNow_1 10 rfl) (kb_X4_partNow_1 11 rfl) (kb_X4_partNow_1 12 rfl)
theorem dX4_partNow_77 : decode cX4_partNow 77 = .ok (.iload 5, 2) := dqo_21 5 (kb_X4_partNow_1 13 rfl) (kb_X4_partNow_1 14 rfl)
theorem dX4_partNow_79 : decode cX4_partNow 79 = .ok (.ireturn, 1) := dqo_172 (kb_X4_partNow_1 15 rfl)
theorem dX4_partNow_80 : decode cX4_partNow 80 = .ok (.iinc 5 1, 3) := dqo_132 5 1 (by decide) (kb_X4_partNow_1 16 rfl) (kb_X4_partNow_1 17 rfl) (kb_X4_partNow_1 18 rfl)
theorem dX4_partNow_83 : decode cX4_partNow 83 = .ok (.goto (-67), 3) := dqo_167 255 189 (by decide) (kb_X4_partNow_1 19 rfl) (kb_X4_partNow_1 20 rfl) (kb_X4_partNow_1 21 rfl)
theorem dX4_partNow_86 : decode cX4_partNow 86 = .ok (.iconst (-1), 1) := dqo_2 (kb_X4_partNow_1 22 rfl)
theorem dX4_partNow_87 : decode cX4_partNow 87 = .ok (.ireturn, 1) := dqo_172 (kb_X4_partNow_1 23 rfl)
set_option maxRecDepth 100000 in
set_option maxHeartbeats 4000000 in
theorem D_partNow {l : Launch} {D : va_G} {cy : Nat → ClassId} {X : (Nat → Prop) → State → Heap → Prop} {ba ra : Nat → Nat} {hf : Nat → Nat → Nat} {hq : Nat → Nat → Int32} {kn th : Int32} {sm : Int64} {Y : va_W} {f : Nat → Nat → Nat} {r : Nat → Nat → Int32} {w : Nat} {v : Nat} (hX : EnvM X cy) (hC : CInv f) (hM : MR f r hf hq) (hw : w < 8) (h5w : f 5 w = 1) (hv : v < 8) (h5v : f 5 v = 1) : Cd l D cy X yX4_partNow cX4_partNow 8 (some .int) (rmk 7 2 24 300) [.ref (ba 9), .int (nI w), .int (nI v)] (WM cy ba ra hf hq kn th sm ++ Y) (some (.int (nI (poF (fun k => stF (fun q => (cutF (fun z => hq (f 1 w) (f 3 w + z)) (hf 4 w)) (k + q)) (cutF (fun z => hq (f 1 v) (f 3 v + z)) (hf 4 v)) (hf 4 v) 0) (hf 4 w + 1 - hf 4 v) 0)))) (WM cy ba ra hf hq kn th sm ++ Y) := by
  have hG := hM.1
  have h5M := hM.h5M hC
  have h4M := hC.h4M
  have h9a := hM.h9a hC
  have h6a := hM.h6a
  have hU := hM.hU hC
  have qw := hM.wh hC hw h5w
  have qv := hM.wh hC hv h5v
  refine Cm.of [some (.ref (ba 9)), some (.int (nI w)), some (.int (nI v)), none, none, none, none, none] pn_X4 rfl (Nat.le_of_ble_eq_true rfl) ?_
  intro p e s m args below meth c A C hE hr hnt hn
  refine r_aload_n C dX4_partNow_0 rfl ?_
  refine r_iload_n C dX4_partNow_1 rfl ?_
  refine e_V (st := []) hX.1.stb C hE (D_items (ba := ba) (ra := ra) (hf := hf) (hq := hq) (kn := kn) (th := th) (sm := sm) (Y := Y) (f := f) (w := w) hX hC (MG.same (fun _ => rfl) (fun _ => rfl) hG) (by first | omega | (simp [up2, *]; done) | (simp [up2, *]; omega) | (simp only [up2_eq]; omega) | (split <;> omega)) (by first | omega | (simp [up2, *]; done) | (simp [up2, *]; omega) | (simp only [up2_eq]; omega) | (split <;> omega)) (by first | omega | (simp [up2, *]; done) | (simp [up2, *]; omega) | (simp only [up2_eq]; omega) | (split <;> omega)) (by first | omega | (simp [up2, *]; done) | (simp [up2, *]; omega) | (simp only [up2_eq]; omega) | (split <;> omega))) pk_X4_items qm_X4_95 0 8 rfl rfl wm_0 rfl rfl (Nat.le_of_ble_eq_true rfl) dX4_partNow_2 ⟨(Nat.le_of_ble_eq_true rfl), (Nat.le_of_ble_eq_true rfl)⟩ ⟨(Nat.le_of_ble_eq_true rfl), (Nat.le_of_ble_eq_true rfl)⟩ (fun b_1 => ?_)
  refine r_w (w' := WM cy ba ra hf hq kn th sm ++ (Y ++ [(b_1, .inl (cy 1, hf 4 w, .inl (cutF (fun z => hq (f 1 w) (f 3 w + z)) (hf 4 w))))])) (by simp only [List.append_assoc, List.cons_append, List.nil_append]) ?_
  refine r_st (st' := [.ref b_1]) rfl ?_
  refine r_astore_n C dX4_partNow_5 (by decide) rfl ?_
  refine r_aload_n C dX4_partNow_6 rfl ?_
  refine r_iload_n C dX4_partNow_7 rfl ?_
  refine e_V (st := []) hX.1.stb C hE (D_items (ba := ba) (ra := ra) (hf := hf) (hq := hq) (kn := kn) (th := th) (sm := sm) (f := f) (w := v) hX hC (MG.same (fun _ => rfl) (fun _ => rfl) hG) hv h5v (by first | omega | (simp [up2, *]; done) | (simp [up2, *]; omega) | (simp only [up2_eq]; omega) | (split <;> omega)) (by first | omega | (simp [up2, *]; done) | (simp [up2, *]; omega) | (simp only [up2_eq]; omega) | (split <;> omega))) pk_X4_items qm_X4_95 0 8 rfl rfl wm_0 rfl rfl (Nat.le_of_ble_eq_true rfl) dX4_partNow_8 ⟨(Nat.le_of_ble_eq_true rfl), (Nat.le_of_ble_eq_true rfl)⟩ ⟨(Nat.le_of_ble_eq_true rfl), (Nat.le_of_ble_eq_true rfl)⟩ (fun b_2 => ?_)
  refine r_w (w' := WM cy ba ra hf hq kn th sm ++ (Y ++ [(b_1, .inl (cy 1, hf 4 w, .inl (cutF (fun z => hq (f 1 w) (f 3 w + z)) (hf 4 w)))), (b_2, .inl (cy 1, hf 4 v, .inl (cutF (fun z => hq (f 1 v) (f 3 v + z)) (hf 4 v))))])) (by simp only [List.append_assoc, List.cons_append, List.nil_append]) ?_
  refine r_st (st' := [.ref b_2]) rfl ?_
  refine r_astore C dX4_partNow_11 (by decide) rfl ?_
  refine r_iconst (v := (nI 0)) C dX4_partNow_13 (by decide) ?_
  refine r_istore C dX4_partNow_14 (by decide) rfl ?_
  have L16 : ∀ (d : Nat) (k : Nat), (hk : k + d = hf 4 w + 1 - hf 4 v) → (hF : poF (fun k => stF (fun q => (cutF (fun z => hq (f 1 w) (f 3 w + z)) (hf 4 w)) (k + q)) (cutF (fun z => hq (f 1 v) (f 3 v + z)) (hf 4 v)) (hf 4 v) 0) d k = poF (fun k => stF (fun q => (cutF (fun z => hq (f 1 w) (f 3 w + z)) (hf 4 w)) (k + q)) (cutF (fun z => hq (f 1 v) (f 3 v + z)) (hf 4 v)) (hf 4 v) 0) (hf 4 w + 1 - hf 4 v) 0) → vC p l e (rmk 7 2 24 300) s m args below meth c D A (vx_MQ below (vG (fun v1 w1 => v1 = (some (.int (nI (poF (fun k => stF (fun q => (cutF (fun z => hq (f 1 w) (f 3 w + z)) (hf 4 w)) (k + q)) (cutF (fun z => hq (f 1 v) (f 3 v + z)) (hf 4 v)) (hf 4 v) 0) (hf 4 w + 1 - hf 4 v) 0)))) ∧ w1 = WM cy ba ra hf hq kn th sm ++ Y) D vwCl A) (vGX (fun _ => False) D vwCl (WM cy ba ra hf hq kn th sm ++ Y) A) args s (rmk 7 2 24 300).cells (rmk 7 2 24 300).slots A) 8 2 24 (WM cy ba ra hf hq kn th sm ++ (Y ++ [(b_1, .inl (cy 1, hf 4 w, .inl (cutF (fun z => hq (f 1 w) (f 3 w + z)) (hf 4 w)))), (b_2, .inl (cy 1, hf 4 v, .inl (cutF (fun z => hq (f 1 v) (f 3 v + z)) (hf 4 v))))])) [some (.ref (ba 9)), some (.int (nI w)), some (.int (nI v)), some (.ref b_1), some (.ref b_2), some (.int (nI k)), none, none] 16 [] := by
    intro d
    induction d with
    | zero =>
      intro k hk hF
      refine r_iload C dX4_partNow_16 rfl ?_
      refine r_aload C dX4_partNow_18 rfl ?_
      refine x_len C (t0 := 1) 1 rfl rfl dX4_partNow_20 ?_
      refine r_iaddN C dX4_partNow_21 ?_
      refine r_aload_n C dX4_partNow_22 rfl ?_
      refine x_len C (t0 := 1) 0 rfl rfl dX4_partNow_23 ?_
      refine r_icN_gt (a := (k + (hf 4 v))) (b := (hf 4 w)) (tgt := 86) C (by first | omega | (simp [up2, *]; done) | (simp [up2, *]; omega) | (simp only [up2_eq]; omega) | (split <;> omega)) (by first | omega | (simp [up2, *]; done) | (simp [up2, *]; omega) | (simp only [up2_eq]; omega) | (split <;> omega)) dX4_partNow_24 (by decide) (fun h24_3 => ?_) (fun h24_3 => ?_)
      · first
        | exfalso; first | omega | contradiction
        | skip
          refine r_iconst (v := (nI 4294967295)) C dX4_partNow_86 (by decide) ?_
          refine r_pre ?_
          exact r_iret C hr dX4_partNow_87 ⟨by rw [← hF]; rfl, rfl⟩ (Nat.le_of_ble_eq_true rfl) (Nat.le_of_ble_eq_true rfl)
      · first
        | exfalso; first | omega | contradiction
        | skip
          refine r_iconst (v := (nI 1)) C dX4_partNow_27 (by decide) ?_
          refine r_istore C dX4_partNow_28 (by decide) rfl ?_
          refine r_iconst (v := (nI 0)) C dX4_partNow_30 (by decide) ?_
          refine r_istore C dX4_partNow_31 (by decide) rfl ?_
          have L33 : ∀ (d : Nat) (t : Nat) (z : Nat), (ht : t + d = hf 4 v) → (hz1 : z ≤ 1) → (hG9 : (if z = 0 then 0 else stF (fun q => (cutF (fun z => hq (f 1 w) (f 3 w + z)) (hf 4 w)) (k + q)) (cutF (fun z => hq (f 1 v) (f 3 v + z)) (hf 4 v)) d t) = stF (fun q => (cutF (fun z => hq (f 1 w) (f 3 w + z)) (hf 4 w)) (k + q)) (cutF (fun z => hq (f 1 v) (f 3 v + z)) (hf 4 v)) (hf 4 v) 0) → vC p l e (rmk 7 2 24 300) s m args below meth c D A (vx_MQ below (vG (fun v1 w1 => v1 = (some (.int (nI (poF (fun k => stF (fun q => (cutF (fun z => hq (f 1 w) (f 3 w + z)) (hf 4 w)) (k + q)) (cutF (fun z => hq (f 1 v) (f 3 v + z)) (hf 4 v)) (hf 4 v) 0) (hf 4 w + 1 - hf 4 v) 0)))) ∧ w1 = WM cy ba ra hf hq kn th sm ++ Y) D vwCl A) (vGX (fun _ => False) D vwCl (WM cy ba ra hf hq kn th sm ++ Y) A) args s (rmk 7 2 24 300).cells (rmk 7 2 24 300).slots A) 8 2 24 (WM cy ba ra hf hq kn th sm ++ (Y ++ [(b_1, .inl (cy 1, hf 4 w, .inl (cutF (fun z => hq (f 1 w) (f 3 w + z)) (hf 4 w)))), (b_2, .inl (cy 1, hf 4 v, .inl (cutF (fun z => hq (f 1 v) (f 3 v + z)) (hf 4 v))))])) [some (.ref (ba 9)), some (.int (nI w)), some (.int (nI v)), some (.ref b_1), some (.ref b_2), some (.int (nI k)), some (.int (nI z)), some (.int (nI t))] 33 [] := by
            intro d
            induction d with
            | zero =>
              intro t z ht hz1 hG9
              refine r_iload C dX4_partNow_33 rfl ?_
              refine r_aload C dX4_partNow_35 rfl ?_
              refine x_len C (t0 := 1) 1 rfl rfl dX4_partNow_37 ?_
              refine r_icN_ge (a := t) (b := (hf 4 v)) (tgt := 72) C (by first | omega | (simp [up2, *]; done) | (simp [up2, *]; omega) | (simp only [up2_eq]; omega) | (split <;> omega)) (by first | omega | (simp [up2, *]; done) | (simp [up2, *]; omega) | (simp only [up2_eq]; omega) | (split <;> omega)) dX4_partNow_38 (by decide) (fun h38_4 => ?_) (fun h38_4 => ?_)
              · first
                | exfalso; first | omega | contradiction
                | skip
                  refine r_iload C dX4_partNow_72 rfl ?_
                  refine r_ifN_eq (a := z) (tgt := 80) C (by first | omega | (simp [up2, *]; done) | (simp [up2, *]; omega) | (simp only [up2_eq]; omega) | (split <;> omega)) dX4_partNow_74 (by decide) (fun h74_5 => ?_) (fun h74_5 => ?_)
                  · first
                    | exfalso; first | omega | contradiction
                    | skip
                      have hS : (if z = 0 then 0 else 1) = stF (fun q => (cutF (fun z => hq (f 1 w) (f 3 w + z)) (hf 4 w)) (k + q)) (cutF (fun z => hq (f 1 v) (f 3 v + z)) (hf 4 v)) (hf 4 v) 0 := by rw [← hG9]; rfl
                      have hS0 : stF (fun q => (cutF (fun z => hq (f 1 w) (f 3 w + z)) (hf 4 w)) (k + q)) (cutF (fun z => hq (f 1 v) (f 3 v + z)) (hf 4 v)) (hf 4 v) 0 = 0 := by rw [← hS, if_pos (by assumption)]
                      refine r_iincN C dX4_partNow_80 rfl (by decide) rfl ?_
                      refine r_goto (tgt := 16) C dX4_partNow_83 (by decide) ?_
                      refine r_drop 6 ?_
                      refine r_drop 7 ?_
                      exact (Nat.not_lt_zero _ (by omega)).elim
                  · first
                    | exfalso; first | omega | contradiction
                    | skip
                      have hS : (if z = 0 then 0 else 1) = stF (fun q => (cutF (fun z => hq (f 1 w) (f 3 w + z)) (hf 4 w)) (k + q)) (cutF (fun z => hq (f 1 v) (f 3 v + z)) (hf 4 v)) (hf 4 v) 0 := by rw [← hG9]; rfl
                      have hS2 : stF (fun q => (cutF (fun z => hq (f 1 w) (f 3 w + z)) (hf 4 w)) (k + q)) (cutF (fun z => hq (f 1 v) (f 3 v + z)) (hf 4 v)) (hf 4 v) 0 ≠ 0 := by rw [← hS, if_neg (by assumption)]; decide
                      have hS1 : poF (fun k => stF (fun q => (cutF (fun z => hq (f 1 w) (f 3 w + z)) (hf 4 w)) (k + q)) (cutF (fun z => hq (f 1 v) (f 3 v + z)) (hf 4 v)) (hf 4 v) 0) (hf 4 w + 1 - hf 4 v) 0 = k := by rw [← hF]; simp only [poF]; rw [if_neg hS2]
                      refine r_iload C dX4_partNow_77 rfl ?_
                      refine r_pre ?_
                      exact r_iret C hr dX4_partNow_79 ⟨by rw [hS1], rfl⟩ (Nat.le_of_ble_eq_true rfl) (Nat.le_of_ble_eq_true rfl)
              · first
                | exfalso; first | omega | contradiction
                | skip
                  refine r_iload C dX4_partNow_41 rfl ?_
                  refine r_aload_n C dX4_partNow_43 rfl ?_
                  refine r_iload C dX4_partNow_44 rfl ?_
                  refine r_iload C dX4_partNow_46 rfl ?_
                  refine r_iaddN C dX4_partNow_48 ?_
                  refine x_ald C (i := k + t) (f := cutF (fun z => hq (f 1 w) (f 3 w + z)) (hf 4 w)) 0 rfl (by first | omega | (simp [up2, *]; done) | (simp [up2, *]; omega) | (simp only [up2_eq]; omega) | (split <;> omega)) (by first | omega | (simp [up2, *]; done) | (simp [up2, *]; omega) | (simp only [up2_eq]; omega) | (split <;> omega)) dX4_partNow_49 ?_
                  refine r_aload C dX4_partNow_50 rfl ?_
                  refine r_iload C dX4_partNow_52 rfl ?_
                  refine x_ald C (i := t) (f := cutF (fun z => hq (f 1 v) (f 3 v + z)) (hf 4 v)) 1 rfl (by first | omega | (simp [up2, *]; done) | (simp [up2, *]; omega) | (simp only [up2_eq]; omega) | (split <;> omega)) (by first | omega | (simp [up2, *]; done) | (simp [up2, *]; omega) | (simp only [up2_eq]; omega) | (split <;> omega)) dX4_partNow_54 ?_
                  refine r_ic_ne (tgt := 62) C dX4_partNow_55 (by decide) (fun h55_6 => ?_) (fun h55_6 => ?_)
                  · first
                    | exfalso; first | omega | contradiction
                    | skip
                      refine r_iconst (v := (nI 0)) C dX4_partNow_62 (by decide) ?_
                      refine r_iandB (a := z) (b := 0) (v := 0) C (by first | omega | (simp [up2, *]; done) | (simp [up2, *]; omega) | (simp only [up2_eq]; omega) | (split <;> omega)) (by first | omega | (simp [up2, *]; done) | (simp [up2, *]; omega) | (simp only [up2_eq]; omega) | (split <;> omega)) rfl dX4_partNow_63 ?_
                      refine r_istore C dX4_partNow_64 (by decide) rfl ?_
                      refine r_iincN C dX4_partNow_66 rfl (by decide) rfl ?_
                      refine r_goto (tgt := 33) C dX4_partNow_69 (by decide) ?_
                      exact (Nat.not_lt_zero _ (by omega)).elim
                  · first
                    | exfalso; first | omega | contradiction
                    | skip
                      refine r_iconst (v := (nI 1)) C dX4_partNow_58 (by decide) ?_
                      refine r_goto (tgt := 63) C dX4_partNow_59 (by decide) ?_
                      refine r_iandB (a := z) (b := 1) (v := z) C (by first | omega | (simp [up2, *]; done) | (simp [up2, *]; omega) | (simp only [up2_eq]; omega) | (split <;> omega)) (by first | omega | (simp [up2, *]; done) | (simp [up2, *]; omega) | (simp only [up2_eq]; omega) | (split <;> omega)) rfl dX4_partNow_63 ?_
                      refine r_istore C dX4_partNow_64 (by decide) rfl ?_
                      refine r_iincN C dX4_partNow_66 rfl (by decide) rfl ?_
                      refine r_goto (tgt := 33) C dX4_partNow_69 (by decide) ?_
                      exact (Nat.not_lt_zero _ (by omega)).elim
            | succ d ih_L33 =>
              intro t z ht hz1 hG9
              refine r_iload C dX4_partNow_33 rfl ?_
              refine r_aload C dX4_partNow_35 rfl ?_
              refine x_len C (t0 := 1) 1 rfl rfl dX4_partNow_37 ?_
              refine r_icN_ge (a := t) (b := (hf 4 v)) (tgt := 72) C (by first | omega | (simp [up2, *]; done) | (simp [up2, *]; omega) | (simp only [up2_eq]; omega) | (split <;> omega)) (by first | omega | (simp [up2, *]; done) | (simp [up2, *]; omega) | (simp only [up2_eq]; omega) | (split <;> omega)) dX4_partNow_38 (by decide) (fun h38_7 => ?_) (fun h38_7 => ?_)
              · first
                | exfalso; first | omega | contradiction
                | skip
                  refine r_iload C dX4_partNow_72 rfl ?_
                  refine r_ifN_eq (a := z) (tgt := 80) C (by first | omega | (simp [up2, *]; done) | (simp [up2, *]; omega) | (simp only [up2_eq]; omega) | (split <;> omega)) dX4_partNow_74 (by decide) (fun h74_8 => ?_) (fun h74_8 => ?_)
                  · first
                    | exfalso; first | omega | contradiction
                    | skip
                      have hS : (if z = 0 then 0 else 1) = stF (fun q => (cutF (fun z => hq (f 1 w) (f 3 w + z)) (hf 4 w)) (k + q)) (cutF (fun z => hq (f 1 v) (f 3 v + z)) (hf 4 v)) (hf 4 v) 0 := by rw [← hG9]; rfl
                      have hS0 : stF (fun q => (cutF (fun z => hq (f 1 w) (f 3 w + z)) (hf 4 w)) (k + q)) (cutF (fun z => hq (f 1 v) (f 3 v + z)) (hf 4 v)) (hf 4 v) 0 = 0 := by rw [← hS, if_pos (by assumption)]
                      refine r_iincN C dX4_partNow_80 rfl (by decide) rfl ?_
                      refine r_goto (tgt := 16) C dX4_partNow_83 (by decide) ?_
                      refine r_drop 6 ?_
                      refine r_drop 7 ?_
                      exact (Nat.not_lt_zero _ (by omega)).elim
                  · first
                    | exfalso; first | omega | contradiction
                    | skip
                      have hS : (if z = 0 then 0 else 1) = stF (fun q => (cutF (fun z => hq (f 1 w) (f 3 w + z)) (hf 4 w)) (k + q)) (cutF (fun z => hq (f 1 v) (f 3 v + z)) (hf 4 v)) (hf 4 v) 0 := by rw [← hG9]; rfl
                      have hS2 : stF (fun q => (cutF (fun z => hq (f 1 w) (f 3 w + z)) (hf 4 w)) (k + q)) (cutF (fun z => hq (f 1 v) (f 3 v + z)) (hf 4 v)) (hf 4 v) 0 ≠ 0 := by rw [← hS, if_neg (by assumption)]; decide
                      have hS1 : poF (fun k => stF (fun q => (cutF (fun z => hq (f 1 w) (f 3 w + z)) (hf 4 w)) (k + q)) (cutF (fun z => hq (f 1 v) (f 3 v + z)) (hf 4 v)) (hf 4 v) 0) (hf 4 w + 1 - hf 4 v) 0 = k := by rw [← hF]; simp only [poF]; rw [if_neg hS2]
                      refine r_iload C dX4_partNow_77 rfl ?_
                      refine r_pre ?_
                      exact r_iret C hr dX4_partNow_79 ⟨by rw [hS1], rfl⟩ (Nat.le_of_ble_eq_true rfl) (Nat.le_of_ble_eq_true rfl)
              · first
                | exfalso; first | omega | contradiction
                | skip
                  refine r_iload C dX4_partNow_41 rfl ?_
                  refine r_aload_n C dX4_partNow_43 rfl ?_
                  refine r_iload C dX4_partNow_44 rfl ?_
                  refine r_iload C dX4_partNow_46 rfl ?_
                  refine r_iaddN C dX4_partNow_48 ?_
                  refine x_ald C (i := k + t) (f := cutF (fun z => hq (f 1 w) (f 3 w + z)) (hf 4 w)) 0 rfl (by first | omega | (simp [up2, *]; done) | (simp [up2, *]; omega) | (simp only [up2_eq]; omega) | (split <;> omega)) (by first | omega | (simp [up2, *]; done) | (simp [up2, *]; omega) | (simp only [up2_eq]; omega) | (split <;> omega)) dX4_partNow_49 ?_
                  refine r_aload C dX4_partNow_50 rfl ?_
                  refine r_iload C dX4_partNow_52 rfl ?_
                  refine x_ald C (i := t) (f := cutF (fun z => hq (f 1 v) (f 3 v + z)) (hf 4 v)) 1 rfl (by first | omega | (simp [up2, *]; done) | (simp [up2, *]; omega) | (simp only [up2_eq]; omega) | (split <;> omega)) (by first | omega | (simp [up2, *]; done) | (simp [up2, *]; omega) | (simp only [up2_eq]; omega) | (split <;> omega)) dX4_partNow_54 ?_
                  refine r_ic_ne (tgt := 62) C dX4_partNow_55 (by decide) (fun h55_9 => ?_) (fun h55_9 => ?_)
                  · first
                    | exfalso; first | omega | contradiction
                    | skip
                      refine r_iconst (v := (nI 0)) C dX4_partNow_62 (by decide) ?_
                      refine r_iandB (a := z) (b := 0) (v := 0) C (by first | omega | (simp [up2, *]; done) | (simp [up2, *]; omega) | (simp only [up2_eq]; omega) | (split <;> omega)) (by first | omega | (simp [up2, *]; done) | (simp [up2, *]; omega) | (simp only [up2_eq]; omega) | (split <;> omega)) rfl dX4_partNow_63 ?_
                      refine r_istore C dX4_partNow_64 (by decide) rfl ?_
                      refine r_iincN C dX4_partNow_66 rfl (by decide) rfl ?_
                      refine r_goto (tgt := 33) C dX4_partNow_69 (by decide) ?_
                      exact ih_L33 (t + 1) 0 (by first | omega | (simp [up2, *]; done) | (simp [up2, *]; omega) | (simp only [up2_eq]; omega) | (split <;> omega)) (by first | omega | (simp [up2, *]; done) | (simp [up2, *]; omega) | (simp only [up2_eq]; omega) | (split <;> omega)) (by rw [← hG9]; exact st_no (by assumption))
                  · first
                    | exfalso; first | omega | contradiction
                    | skip
                      refine r_iconst (v := (nI 1)) C dX4_partNow_58 (by decide) ?_
                      refine r_goto (tgt := 63) C dX4_partNow_59 (by decide) ?_
                      refine r_iandB (a := z) (b := 1) (v := z) C (by first | omega | (simp [up2, *]; done) | (simp [up2, *]; omega) | (simp only [up2_eq]; omega) | (split <;> omega)) (by first | omega | (simp [up2, *]; done) | (simp [up2, *]; omega) | (simp only [up2_eq]; omega) | (split <;> omega)) rfl dX4_partNow_63 ?_
                      refine r_istore C dX4_partNow_64 (by decide) rfl ?_
                      refine r_iincN C dX4_partNow_66 rfl (by decide) rfl ?_
                      refine r_goto (tgt := 33) C dX4_partNow_69 (by decide) ?_
                      exact ih_L33 (t + 1) z (by first | omega | (simp [up2, *]; done) | (simp [up2, *]; omega) | (simp only [up2_eq]; omega) | (split <;> omega)) (by first | omega | (simp [up2, *]; done) | (simp [up2, *]; omega) | (simp only [up2_eq]; omega) | (split <;> omega)) (by rw [← hG9]; exact st_yes (by assumption))
          exact L33 (hf 4 v) 0 1 (by first | omega | (simp [up2, *]; done) | (simp [up2, *]; omega) | (simp only [up2_eq]; omega) | (split <;> omega)) (by first | omega | (simp [up2, *]; done) | (simp [up2, *]; omega) | (simp only [up2_eq]; omega) | (split <;> omega)) rfl
    | succ d ih_L16 =>
      intro k hk hF
      refine r_iload C dX4_partNow_16 rfl ?_
      refine r_aload C dX4_partNow_18 rfl ?_
      refine x_len C (t0 := 1) 1 rfl rfl dX4_partNow_20 ?_
      refine r_iaddN C dX4_partNow_21 ?_
      refine r_aload_n C dX4_partNow_22 rfl ?_
      refine x_len C (t0 := 1) 0 rfl rfl dX4_partNow_23 ?_
      refine r_icN_gt (a := (k + (hf 4 v))) (b := (hf 4 w)) (tgt := 86) C (by first | omega | (simp [up2, *]; done) | (simp [up2, *]; omega) | (simp only [up2_eq]; omega) | (split <;> omega)) (by first | omega | (simp [up2, *]; done) | (simp [up2, *]; omega) | (simp only [up2_eq]; omega) | (split <;> omega)) dX4_partNow_24 (by decide) (fun h24_10 => ?_) (fun h24_10 => ?_)
      · first
        | exfalso; first | omega | contradiction
        | skip
          refine r_iconst (v := (nI 4294967295)) C dX4_partNow_86 (by decide) ?_
          refine r_pre ?_
          exact r_iret C hr dX4_partNow_87 ⟨by rw [← hF]; rfl, rfl⟩ (Nat.le_of_ble_eq_true rfl) (Nat.le_of_ble_eq_true rfl)
      · first
        | exfalso; first | omega | contradiction
        | skip
          refine r_iconst (v := (nI 1)) C dX4_partNow_27 (by decide) ?_
          refine r_istore C dX4_partNow_28 (by decide) rfl ?_
          refine r_iconst (v := (nI 0)) C dX4_partNow_30 (by decide) ?_
          refine r_istore C dX4_partNow_31 (by decide) rfl ?_
          have L33 : ∀ (d : Nat) (t : Nat) (z : Nat), (ht : t + d = hf 4 v) → (hz1 : z ≤ 1) → (hG9 : (if z = 0 then 0 else stF (fun q => (cutF (fun z => hq (f 1 w) (f 3 w + z)) (hf 4 w)) (k + q)) (cutF (fun z => hq (f 1 v) (f 3 v + z)) (hf 4 v)) d t) = stF (fun q => (cutF (fun z => hq (f 1 w) (f 3 w + z)) (hf 4 w)) (k + q)) (cutF (fun z => hq (f 1 v) (f 3 v + z)) (hf 4 v)) (hf 4 v) 0) → vC p l e (rmk 7 2 24 300) s m args below meth c D A (vx_MQ below (vG (fun v1 w1 => v1 = (some (.int (nI (poF (fun k => stF (fun q => (cutF (fun z => hq (f 1 w) (f 3 w + z)) (hf 4 w)) (k + q)) (cutF (fun z => hq (f 1 v) (f 3 v + z)) (hf 4 v)) (hf 4 v) 0) (hf 4 w + 1 - hf 4 v) 0)))) ∧ w1 = WM cy ba ra hf hq kn th sm ++ Y) D vwCl A) (vGX (fun _ => False) D vwCl (WM cy ba ra hf hq kn th sm ++ Y) A) args s (rmk 7 2 24 300).cells (rmk 7 2 24 300).slots A) 8 2 24 (WM cy ba ra hf hq kn th sm ++ (Y ++ [(b_1, .inl (cy 1, hf 4 w, .inl (cutF (fun z => hq (f 1 w) (f 3 w + z)) (hf 4 w)))), (b_2, .inl (cy 1, hf 4 v, .inl (cutF (fun z => hq (f 1 v) (f 3 v + z)) (hf 4 v))))])) [some (.ref (ba 9)), some (.int (nI w)), some (.int (nI v)), some (.ref b_1), some (.ref b_2), some (.int (nI k)), some (.int (nI z)), some (.int (nI t))] 33 [] := by
            intro d
            induction d with
            | zero =>
              intro t z ht hz1 hG9
              refine r_iload C dX4_partNow_33 rfl ?_
              refine r_aload C dX4_partNow_35 rfl ?_
              refine x_len C (t0 := 1) 1 rfl rfl dX4_partNow_37 ?_
              refine r_icN_ge (a := t) (b := (hf 4 v)) (tgt := 72) C (by first | omega | (simp [up2, *]; done) | (simp [up2, *]; omega) | (simp only [up2_eq]; omega) | (split <;> omega)) (by first | omega | (simp [up2, *]; done) | (simp [up2, *]; omega) | (simp only [up2_eq]; omega) | (split <;> omega)) dX4_partNow_38 (by decide) (fun h38_11 => ?_) (fun h38_11 => ?_)
              · first
                | exfalso; first | omega | contradiction
                | skip
                  refine r_iload C dX4_partNow_72 rfl ?_
                  refine r_ifN_eq (a := z) (tgt := 80) C (by first | omega | (simp [up2, *]; done) | (simp [up2, *]; omega) | (simp only [up2_eq]; omega) | (split <;> omega)) dX4_partNow_74 (by decide) (fun h74_12 => ?_) (fun h74_12 => ?_)
                  · first
                    | exfalso; first | omega | contradiction
                    | skip
                      have hS : (if z = 0 then 0 else 1) = stF (fun q => (cutF (fun z => hq (f 1 w) (f 3 w + z)) (hf 4 w)) (k + q)) (cutF (fun z => hq (f 1 v) (f 3 v + z)) (hf 4 v)) (hf 4 v) 0 := by rw [← hG9]; rfl
                      have hS0 : stF (fun q => (cutF (fun z => hq (f 1 w) (f 3 w + z)) (hf 4 w)) (k + q)) (cutF (fun z => hq (f 1 v) (f 3 v + z)) (hf 4 v)) (hf 4 v) 0 = 0 := by rw [← hS, if_pos (by assumption)]
                      refine r_iincN C dX4_partNow_80 rfl (by decide) rfl ?_
                      refine r_goto (tgt := 16) C dX4_partNow_83 (by decide) ?_
                      refine r_drop 6 ?_
                      refine r_drop 7 ?_
                      exact ih_L16 (k + 1) (by first | omega | (simp [up2, *]; done) | (simp [up2, *]; omega) | (simp only [up2_eq]; omega) | (split <;> omega)) (by rw [← hF]; simp only [poF]; rw [if_pos hS0])
                  · first
                    | exfalso; first | omega | contradiction
                    | skip
                      have hS : (if z = 0 then 0 else 1) = stF (fun q => (cutF (fun z => hq (f 1 w) (f 3 w + z)) (hf 4 w)) (k + q)) (cutF (fun z => hq (f 1 v) (f 3 v + z)) (hf 4 v)) (hf 4 v) 0 := by rw [← hG9]; rfl
                      have hS2 : stF (fun q => (cutF (fun z => hq (f 1 w) (f 3 w + z)) (hf 4 w)) (k + q)) (cutF (fun z => hq (f 1 v) (f 3 v + z)) (hf 4 v)) (hf 4 v) 0 ≠ 0 := by rw [← hS, if_neg (by assumption)]; decide
                      have hS1 : poF (fun k => stF (fun q => (cutF (fun z => hq (f 1 w) (f 3 w + z)) (hf 4 w)) (k + q)) (cutF (fun z => hq (f 1 v) (f 3 v + z)) (hf 4 v)) (hf 4 v) 0) (hf 4 w + 1 - hf 4 v) 0 = k := by rw [← hF]; simp only [poF]; rw [if_neg hS2]
                      refine r_iload C dX4_partNow_77 rfl ?_
                      refine r_pre ?_
                      exact r_iret C hr dX4_partNow_79 ⟨by rw [hS1], rfl⟩ (Nat.le_of_ble_eq_true rfl) (Nat.le_of_ble_eq_true rfl)
              · first
                | exfalso; first | omega | contradiction
                | skip
                  refine r_iload C dX4_partNow_41 rfl ?_
                  refine r_aload_n C dX4_partNow_43 rfl ?_
                  refine r_iload C dX4_partNow_44 rfl ?_
                  refine r_iload C dX4_partNow_46 rfl ?_
                  refine r_iaddN C dX4_partNow_48 ?_
                  refine x_ald C (i := k + t) (f := cutF (fun z => hq (f 1 w) (f 3 w + z)) (hf 4 w)) 0 rfl (by first | omega | (simp [up2, *]; done) | (simp [up2, *]; omega) | (simp only [up2_eq]; omega) | (split <;> omega)) (by first | omega | (simp [up2, *]; done) | (simp [up2, *]; omega) | (simp only [up2_eq]; omega) | (split <;> omega)) dX4_partNow_49 ?_
                  refine r_aload C dX4_partNow_50 rfl ?_
                  refine r_iload C dX4_partNow_52 rfl ?_
                  refine x_ald C (i := t) (f := cutF (fun z => hq (f 1 v) (f 3 v + z)) (hf 4 v)) 1 rfl (by first | omega | (simp [up2, *]; done) | (simp [up2, *]; omega) | (simp only [up2_eq]; omega) | (split <;> omega)) (by first | omega | (simp [up2, *]; done) | (simp [up2, *]; omega) | (simp only [up2_eq]; omega) | (split <;> omega)) dX4_partNow_54 ?_
                  refine r_ic_ne (tgt := 62) C dX4_partNow_55 (by decide) (fun h55_13 => ?_) (fun h55_13 => ?_)
                  · first
                    | exfalso; first | omega | contradiction
                    | skip
                      refine r_iconst (v := (nI 0)) C dX4_partNow_62 (by decide) ?_
                      refine r_iandB (a := z) (b := 0) (v := 0) C (by first | omega | (simp [up2, *]; done) | (simp [up2, *]; omega) | (simp only [up2_eq]; omega) | (split <;> omega)) (by first | omega | (simp [up2, *]; done) | (simp [up2, *]; omega) | (simp only [up2_eq]; omega) | (split <;> omega)) rfl dX4_partNow_63 ?_
                      refine r_istore C dX4_partNow_64 (by decide) rfl ?_
                      refine r_iincN C dX4_partNow_66 rfl (by decide) rfl ?_
                      refine r_goto (tgt := 33) C dX4_partNow_69 (by decide) ?_
                      exact (Nat.not_lt_zero _ (by omega)).elim
                  · first
                    | exfalso; first | omega | contradiction
                    | skip
                      refine r_iconst (v := (nI 1)) C dX4_partNow_58 (by decide) ?_
                      refine r_goto (tgt := 63) C dX4_partNow_59 (by decide) ?_
                      refine r_iandB (a := z) (b := 1) (v := z) C (by first | omega | (simp [up2, *]; done) | (simp [up2, *]; omega) | (simp only [up2_eq]; omega) | (split <;> omega)) (by first | omega | (simp [up2, *]; done) | (simp [up2, *]; omega) | (simp only [up2_eq]; omega) | (split <;> omega)) rfl dX4_partNow_63 ?_
                      refine r_istore C dX4_partNow_64 (by decide) rfl ?_
                      refine r_iincN C dX4_partNow_66 rfl (by decide) rfl ?_
                      refine r_goto (tgt := 33) C dX4_partNow_69 (by decide) ?_
                      exact (Nat.not_lt_zero _ (by omega)).elim
            | succ d ih_L33 =>
              intro t z ht hz1 hG9
              refine r_iload C dX4_partNow_33 rfl ?_
              refine r_aload C dX4_partNow_35 rfl ?_
              refine x_len C (t0 := 1) 1 rfl rfl dX4_partNow_37 ?_
              refine r_icN_ge (a := t) (b := (hf 4 v)) (tgt := 72) C (by first | omega | (simp [up2, *]; done) | (simp [up2, *]; omega) | (simp only [up2_eq]; omega) | (split <;> omega)) (by first | omega | (simp [up2, *]; done) | (simp [up2, *]; omega) | (simp only [up2_eq]; omega) | (split <;> omega)) dX4_partNow_38 (by decide) (fun h38_14 => ?_) (fun h38_14 => ?_)
              · first
                | exfalso; first | omega | contradiction
                | skip
                  refine r_iload C dX4_partNow_72 rfl ?_
                  refine r_ifN_eq (a := z) (tgt := 80) C (by first | omega | (simp [up2, *]; done) | (simp [up2, *]; omega) | (simp only [up2_eq]; omega) | (split <;> omega)) dX4_partNow_74 (by decide) (fun h74_15 => ?_) (fun h74_15 => ?_)
                  · first
                    | exfalso; first | omega | contradiction
                    | skip
                      have hS : (if z = 0 then 0 else 1) = stF (fun q => (cutF (fun z => hq (f 1 w) (f 3 w + z)) (hf 4 w)) (k + q)) (cutF (fun z => hq (f 1 v) (f 3 v + z)) (hf 4 v)) (hf 4 v) 0 := by rw [← hG9]; rfl
                      have hS0 : stF (fun q => (cutF (fun z => hq (f 1 w) (f 3 w + z)) (hf 4 w)) (k + q)) (cutF (fun z => hq (f 1 v) (f 3 v + z)) (hf 4 v)) (hf 4 v) 0 = 0 := by rw [← hS, if_pos (by assumption)]
                      refine r_iincN C dX4_partNow_80 rfl (by decide) rfl ?_
                      refine r_goto (tgt := 16) C dX4_partNow_83 (by decide) ?_
                      refine r_drop 6 ?_
                      refine r_drop 7 ?_
                      exact ih_L16 (k + 1) (by first | omega | (simp [up2, *]; done) | (simp [up2, *]; omega) | (simp only [up2_eq]; omega) | (split <;> omega)) (by rw [← hF]; simp only [poF]; rw [if_pos hS0])
                  · first
                    | exfalso; first | omega | contradiction
                    | skip
                      have hS : (if z = 0 then 0 else 1) = stF (fun q => (cutF (fun z => hq (f 1 w) (f 3 w + z)) (hf 4 w)) (k + q)) (cutF (fun z => hq (f 1 v) (f 3 v + z)) (hf 4 v)) (hf 4 v) 0 := by rw [← hG9]; rfl
                      have hS2 : stF (fun q => (cutF (fun z => hq (f 1 w) (f 3 w + z)) (hf 4 w)) (k + q)) (cutF (fun z => hq (f 1 v) (f 3 v + z)) (hf 4 v)) (hf 4 v) 0 ≠ 0 := by rw [← hS, if_neg (by assumption)]; decide
                      have hS1 : poF (fun k => stF (fun q => (cutF (fun z => hq (f 1 w) (f 3 w + z)) (hf 4 w)) (k + q)) (cutF (fun z => hq (f 1 v) (f 3 v + z)) (hf 4 v)) (hf 4 v) 0) (hf 4 w + 1 - hf 4 v) 0 = k := by rw [← hF]; simp only [poF]; rw [if_neg hS2]
                      refine r_iload C dX4_partNow_77 rfl ?_
                      refine r_pre ?_
                      exact r_iret C hr dX4_partNow_79 ⟨by rw [hS1], rfl⟩ (Nat.le_of_ble_eq_true rfl) (Nat.le_of_ble_eq_true rfl)
              · first
                | exfalso; first | omega | contradiction
                | skip
                  refine r_iload C dX4_partNow_41 rfl ?_
                  refine r_aload_n C dX4_partNow_43 rfl ?_
                  refine r_iload C dX4_partNow_44 rfl ?_
                  refine r_iload C dX4_partNow_46 rfl ?_
                  refine r_iaddN C dX4_partNow_48 ?_
                  refine x_ald C (i := k + t) (f := cutF (fun z => hq (f 1 w) (f 3 w + z)) (hf 4 w)) 0 rfl (by first | omega | (simp [up2, *]; done) | (simp [up2, *]; omega) | (simp only [up2_eq]; omega) | (split <;> omega)) (by first | omega | (simp [up2, *]; done) | (simp [up2, *]; omega) | (simp only [up2_eq]; omega) | (split <;> omega)) dX4_partNow_49 ?_
                  refine r_aload C dX4_partNow_50 rfl ?_
                  refine r_iload C dX4_partNow_52 rfl ?_
                  refine x_ald C (i := t) (f := cutF (fun z => hq (f 1 v) (f 3 v + z)) (hf 4 v)) 1 rfl (by first | omega | (simp [up2, *]; done) | (simp [up2, *]; omega) | (simp only [up2_eq]; omega) | (split <;> omega)) (by first | omega | (simp [up2, *]; done) | (simp [up2, *]; omega) | (simp only [up2_eq]; omega) | (split <;> omega)) dX4_partNow_54 ?_
                  refine r_ic_ne (tgt := 62) C dX4_partNow_55 (by decide) (fun h55_16 => ?_) (fun h55_16 => ?_)
                  · first
                    | exfalso; first | omega | contradiction
                    | skip
                      refine r_iconst (v := (nI 0)) C dX4_partNow_62 (by decide) ?_
                      refine r_iandB (a := z) (b := 0) (v := 0) C (by first | omega | (simp [up2, *]; done) | (simp [up2, *]; omega) | (simp only [up2_eq]; omega) | (split <;> omega)) (by first | omega | (simp [up2, *]; done) | (simp [up2, *]; omega) | (simp only [up2_eq]; omega) | (split <;> omega)) rfl dX4_partNow_63 ?_
                      refine r_istore C dX4_partNow_64 (by decide) rfl ?_
                      refine r_iincN C dX4_partNow_66 rfl (by decide) rfl ?_
                      refine r_goto (tgt := 33) C dX4_partNow_69 (by decide) ?_
                      exact ih_L33 (t + 1) 0 (by first | omega | (simp [up2, *]; done) | (simp [up2, *]; omega) | (simp only [up2_eq]; omega) | (split <;> omega)) (by first | omega | (simp [up2, *]; done) | (simp [up2, *]; omega) | (simp only [up2_eq]; omega) | (split <;> omega)) (by rw [← hG9]; exact st_no (by assumption))
                  · first
                    | exfalso; first | omega | contradiction
                    | skip
                      refine r_iconst (v := (nI 1)) C dX4_partNow_58 (by decide) ?_
                      refine r_goto (tgt := 63) C dX4_partNow_59 (by decide) ?_
                      refine r_iandB (a := z) (b := 1) (v := z) C (by first | omega | (simp [up2, *]; done) | (simp [up2, *]; omega) | (simp only [up2_eq]; omega) | (split <;> omega)) (by first | omega | (simp [up2, *]; done) | (simp [up2, *]; omega) | (simp only [up2_eq]; omega) | (split <;> omega)) rfl dX4_partNow_63 ?_
                      refine r_istore C dX4_partNow_64 (by decide) rfl ?_
                      refine r_iincN C dX4_partNow_66 rfl (by decide) rfl ?_
                      refine r_goto (tgt := 33) C dX4_partNow_69 (by decide) ?_
                      exact ih_L33 (t + 1) z (by first | omega | (simp [up2, *]; done) | (simp [up2, *]; omega) | (simp only [up2_eq]; omega) | (split <;> omega)) (by first | omega | (simp [up2, *]; done) | (simp [up2, *]; omega) | (simp only [up2_eq]; omega) | (split <;> omega)) (by rw [← hG9]; exact st_yes (by assumption))
          exact L33 (hf 4 v) 0 1 (by first | omega | (simp [up2, *]; done) | (simp [up2, *]; omega) | (simp only [up2_eq]; omega) | (split <;> omega)) (by first | omega | (simp [up2, *]; done) | (simp [up2, *]; omega) | (simp only [up2_eq]; omega) | (split <;> omega)) rfl
  exact L16 (hf 4 w + 1 - hf 4 v) 0 (by first | omega | (simp [up2, *]; done) | (simp [up2, *]; omega) | (simp only [up2_eq]; omega) | (split <;> omega)) rfl
