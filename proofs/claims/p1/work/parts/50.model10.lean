/-! CONTRACTS of the model: questions on rows -/
theorem dX4_indexOf_0 : decode cX4_indexOf 0 = .ok (.aload_n 0, 1) := dqo_42 (kb_of ke_X4_indexOf 0 rfl)
theorem dX4_indexOf_1 : decode cX4_indexOf 1 = .ok (.iload_n 1, 1) := dqo_27 (kb_of ke_X4_indexOf 1 rfl)
theorem dX4_indexOf_2 : decode cX4_indexOf 2 = .ok (.invokestatic 119, 3) := dqo_184 0 119 (kb_of ke_X4_indexOf 2 rfl) (kb_of ke_X4_indexOf 3 rfl) (kb_of ke_X4_indexOf 4 rfl)
theorem dX4_indexOf_5 : decode cX4_indexOf 5 = .ok (.iconst 0, 1) := dqo_3 (kb_of ke_X4_indexOf 5 rfl)
theorem dX4_indexOf_6 : decode cX4_indexOf 6 = .ok (.iconst 0, 1) := dqo_3 (kb_of ke_X4_indexOf 6 rfl)
theorem dX4_indexOf_7 : decode cX4_indexOf 7 = .ok (.invokevirtual 84, 3) := dqo_182 0 84 (kb_of ke_X4_indexOf 7 rfl) (kb_of ke_X4_indexOf 8 rfl) (kb_of ke_X4_indexOf 9 rfl)
theorem dX4_indexOf_10 : decode cX4_indexOf 10 = .ok (.ifCond .eq 7, 3) := dqo_153 0 7 (by decide) (kb_of ke_X4_indexOf 10 rfl) (kb_of ke_X4_indexOf 11 rfl) (kb_of ke_X4_indexOf 12 rfl)
theorem dX4_indexOf_13 : decode cX4_indexOf 13 = .ok (.iconst 0, 1) := dqo_3 (kb_of ke_X4_indexOf 13 rfl)
theorem dX4_indexOf_14 : decode cX4_indexOf 14 = .ok (.goto 10, 3) := dqo_167 0 10 (by decide) (kb_of ke_X4_indexOf 14 rfl) (kb_of ke_X4_indexOf 15 rfl) (kb_of ke_X4_indexOf 16 rfl)
theorem dX4_indexOf_24 : decode cX4_indexOf 24 = .ok (.ireturn, 1) := dqo_172 (kb_of ke_X4_indexOf 24 rfl)
set_option maxRecDepth 100000 in
set_option maxHeartbeats 4000000 in
theorem D_indexOf_noR {l : Launch} {D : va_G} {cy : Nat → ClassId} {X : (Nat → Prop) → State → Heap → Prop} {ba ra : Nat → Nat} {hf : Nat → Nat → Nat} {hq : Nat → Nat → Int32} {kn th : Int32} {sm : Int64} {Y : va_W} {f : Nat → Nat → Nat} {r : Nat → Nat → Int32} {x : Int32} {y : Int32} (hX : EnvM X cy) (hC : CInv f) (hM : MR f r hf hq) (hno : ¬ (0 ≤ x ∧ x < nI 4)) : Cd l D cy X yX4_indexOf cX4_indexOf 3 (some .int) (rmk 9 4 48 420) [.ref (ba 9), .int x, .int y] (WM cy ba ra hf hq kn th sm ++ Y) (some (.int (nI 0))) (WM cy ba ra hf hq kn (nI 1) sm ++ Y) := by
  have hG := hM.1
  have h5M := hM.h5M hC
  have h4M := hC.h4M
  have h9a := hM.h9a hC
  have h6a := hM.h6a
  have hU := hM.hU hC
  refine Cm.of [some (.ref (ba 9)), some (.int x), some (.int y)] pn_X4 rfl (Nat.le_of_ble_eq_true rfl) ?_
  intro p e s m args below meth c A C hE hr hnt hn
  refine r_aload_n C dX4_indexOf_0 rfl ?_
  refine r_iload_n C dX4_indexOf_1 rfl ?_
  refine d_S (st := [.ref (ba 9)]) hX.1.stb C hE (D_isNoRow1 (ba := ba) (ra := ra) (hf := hf) (hq := hq) (kn := kn) (th := th) (sm := sm) (Y := Y) (x := (x)) hX hno) pk_X4_isNoRow qm_X4_119 rfl rfl (Nat.le_of_ble_eq_true rfl) dX4_indexOf_2 ⟨(Nat.le_of_ble_eq_true rfl), (Nat.le_of_ble_eq_true rfl)⟩ ⟨(Nat.le_of_ble_eq_true rfl), (Nat.le_of_ble_eq_true rfl)⟩ ?_
  refine r_w (w' := WM cy ba ra hf hq kn th sm ++ Y) rfl ?_
  refine r_iconst (v := (nI 0)) C dX4_indexOf_5 (by decide) ?_
  refine r_iconst (v := (nI 0)) C dX4_indexOf_6 (by decide) ?_
  refine d_V (st := []) hX.1.stb C hE (D_fails1 (ba := ba) (ra := ra) (hf := hf) (hq := hq) (kn := kn) (th := th) (sm := sm) (Y := Y) (b0 := 0) (d0 := 0) hX ) pk_X4_fails qm_X4_84 0 8 rfl rfl wm_0 rfl rfl (Nat.le_of_ble_eq_true rfl) dX4_indexOf_7 ⟨(Nat.le_of_ble_eq_true rfl), (Nat.le_of_ble_eq_true rfl)⟩ ⟨(Nat.le_of_ble_eq_true rfl), (Nat.le_of_ble_eq_true rfl)⟩ ?_
  refine r_w (w' := WM cy ba ra hf hq kn (nI 1) sm ++ Y) rfl ?_
  refine r_ifN_eq (a := 1) (tgt := 17) C (by first | omega | (simp [up2, *]; done) | (simp [up2, *]; omega) | (simp only [up2_eq]; omega) | (split <;> omega)) dX4_indexOf_10 (by decide) (fun h10_1 => ?_) (fun h10_1 => ?_)
  · exact absurd h10_1 (by first | omega | (simp [up2, *]; done) | (simp [up2, *]; omega) | (simp only [up2_eq]; omega) | (split <;> omega))
  · skip
    refine r_iconst (v := (nI 0)) C dX4_indexOf_13 (by decide) ?_
    refine r_goto (tgt := 24) C dX4_indexOf_14 (by decide) ?_
    exact r_iret C hr dX4_indexOf_24 ⟨rfl, rfl⟩ (Nat.le_of_ble_eq_true rfl) (Nat.le_of_ble_eq_true rfl)
theorem dX4_lastIndexOf_0 : decode cX4_lastIndexOf 0 = .ok (.aload_n 0, 1) := dqo_42 (kb_of ke_X4_lastIndexOf 0 rfl)
theorem dX4_lastIndexOf_1 : decode cX4_lastIndexOf 1 = .ok (.iload_n 1, 1) := dqo_27 (kb_of ke_X4_lastIndexOf 1 rfl)
theorem dX4_lastIndexOf_2 : decode cX4_lastIndexOf 2 = .ok (.invokestatic 119, 3) := dqo_184 0 119 (kb_of ke_X4_lastIndexOf 2 rfl) (kb_of ke_X4_lastIndexOf 3 rfl) (kb_of ke_X4_lastIndexOf 4 rfl)
theorem dX4_lastIndexOf_5 : decode cX4_lastIndexOf 5 = .ok (.iconst 0, 1) := dqo_3 (kb_of ke_X4_lastIndexOf 5 rfl)
theorem dX4_lastIndexOf_6 : decode cX4_lastIndexOf 6 = .ok (.iconst 0, 1) := dqo_3 (kb_of ke_X4_lastIndexOf 6 rfl)
theorem dX4_lastIndexOf_7 : decode cX4_lastIndexOf 7 = .ok (.invokevirtual 84, 3) := dqo_182 0 84 (kb_of ke_X4_lastIndexOf 7 rfl) (kb_of ke_X4_lastIndexOf 8 rfl) (kb_of ke_X4_lastIndexOf 9 rfl)
theorem dX4_lastIndexOf_10 : decode cX4_lastIndexOf 10 = .ok (.ifCond .eq 7, 3) := dqo_153 0 7 (by decide) (kb_of ke_X4_lastIndexOf 10 rfl) (kb_of ke_X4_lastIndexOf 11 rfl) (kb_of ke_X4_lastIndexOf 12 rfl)
theorem dX4_lastIndexOf_13 : decode cX4_lastIndexOf 13 = .ok (.iconst 0, 1) := dqo_3 (kb_of ke_X4_lastIndexOf 13 rfl)
theorem dX4_lastIndexOf_14 : decode cX4_lastIndexOf 14 = .ok (.goto 10, 3) := dqo_167 0 10 (by decide) (kb_of ke_X4_lastIndexOf 14 rfl) (kb_of ke_X4_lastIndexOf 15 rfl) (kb_of ke_X4_lastIndexOf 16 rfl)
theorem dX4_lastIndexOf_24 : decode cX4_lastIndexOf 24 = .ok (.ireturn, 1) := dqo_172 (kb_of ke_X4_lastIndexOf 24 rfl)
set_option maxRecDepth 100000 in
set_option maxHeartbeats 4000000 in
theorem D_lastIndexOf_noR {l : Launch} {D : va_G} {cy : Nat → ClassId} {X : (Nat → Prop) → State → Heap → Prop} {ba ra : Nat → Nat} {hf : Nat → Nat → Nat} {hq : Nat → Nat → Int32} {kn th : Int32} {sm : Int64} {Y : va_W} {f : Nat → Nat → Nat} {r : Nat → Nat → Int32} {x : Int32} {y : Int32} (hX : EnvM X cy) (hC : CInv f) (hM : MR f r hf hq) (hno : ¬ (0 ≤ x ∧ x < nI 4)) : Cd l D cy X yX4_lastIndexOf cX4_lastIndexOf 3 (some .int) (rmk 9 4 48 420) [.ref (ba 9), .int x, .int y] (WM cy ba ra hf hq kn th sm ++ Y) (some (.int (nI 0))) (WM cy ba ra hf hq kn (nI 1) sm ++ Y) := by
  have hG := hM.1
  have h5M := hM.h5M hC
  have h4M := hC.h4M
  have h9a := hM.h9a hC
  have h6a := hM.h6a
  have hU := hM.hU hC
  refine Cm.of [some (.ref (ba 9)), some (.int x), some (.int y)] pn_X4 rfl (Nat.le_of_ble_eq_true rfl) ?_
  intro p e s m args below meth c A C hE hr hnt hn
  refine r_aload_n C dX4_lastIndexOf_0 rfl ?_
  refine r_iload_n C dX4_lastIndexOf_1 rfl ?_
  refine d_S (st := [.ref (ba 9)]) hX.1.stb C hE (D_isNoRow1 (ba := ba) (ra := ra) (hf := hf) (hq := hq) (kn := kn) (th := th) (sm := sm) (Y := Y) (x := (x)) hX hno) pk_X4_isNoRow qm_X4_119 rfl rfl (Nat.le_of_ble_eq_true rfl) dX4_lastIndexOf_2 ⟨(Nat.le_of_ble_eq_true rfl), (Nat.le_of_ble_eq_true rfl)⟩ ⟨(Nat.le_of_ble_eq_true rfl), (Nat.le_of_ble_eq_true rfl)⟩ ?_
  refine r_w (w' := WM cy ba ra hf hq kn th sm ++ Y) rfl ?_
  refine r_iconst (v := (nI 0)) C dX4_lastIndexOf_5 (by decide) ?_
  refine r_iconst (v := (nI 0)) C dX4_lastIndexOf_6 (by decide) ?_
  refine d_V (st := []) hX.1.stb C hE (D_fails1 (ba := ba) (ra := ra) (hf := hf) (hq := hq) (kn := kn) (th := th) (sm := sm) (Y := Y) (b0 := 0) (d0 := 0) hX ) pk_X4_fails qm_X4_84 0 8 rfl rfl wm_0 rfl rfl (Nat.le_of_ble_eq_true rfl) dX4_lastIndexOf_7 ⟨(Nat.le_of_ble_eq_true rfl), (Nat.le_of_ble_eq_true rfl)⟩ ⟨(Nat.le_of_ble_eq_true rfl), (Nat.le_of_ble_eq_true rfl)⟩ ?_
  refine r_w (w' := WM cy ba ra hf hq kn (nI 1) sm ++ Y) rfl ?_
  refine r_ifN_eq (a := 1) (tgt := 17) C (by first | omega | (simp [up2, *]; done) | (simp [up2, *]; omega) | (simp only [up2_eq]; omega) | (split <;> omega)) dX4_lastIndexOf_10 (by decide) (fun h10_1 => ?_) (fun h10_1 => ?_)
  · exact absurd h10_1 (by first | omega | (simp [up2, *]; done) | (simp [up2, *]; omega) | (simp only [up2_eq]; omega) | (split <;> omega))
  · skip
    refine r_iconst (v := (nI 0)) C dX4_lastIndexOf_13 (by decide) ?_
    refine r_goto (tgt := 24) C dX4_lastIndexOf_14 (by decide) ?_
    exact r_iret C hr dX4_lastIndexOf_24 ⟨rfl, rfl⟩ (Nat.le_of_ble_eq_true rfl) (Nat.le_of_ble_eq_true rfl)
theorem dX4_contains_0 : decode cX4_contains 0 = .ok (.aload_n 0, 1) := dqo_42 (kb_of ke_X4_contains 0 rfl)
theorem dX4_contains_1 : decode cX4_contains 1 = .ok (.iload_n 1, 1) := dqo_27 (kb_of ke_X4_contains 1 rfl)
theorem dX4_contains_2 : decode cX4_contains 2 = .ok (.invokestatic 119, 3) := dqo_184 0 119 (kb_of ke_X4_contains 2 rfl) (kb_of ke_X4_contains 3 rfl) (kb_of ke_X4_contains 4 rfl)
theorem dX4_contains_5 : decode cX4_contains 5 = .ok (.iconst 0, 1) := dqo_3 (kb_of ke_X4_contains 5 rfl)
theorem dX4_contains_6 : decode cX4_contains 6 = .ok (.iconst 0, 1) := dqo_3 (kb_of ke_X4_contains 6 rfl)
theorem dX4_contains_7 : decode cX4_contains 7 = .ok (.invokevirtual 84, 3) := dqo_182 0 84 (kb_of ke_X4_contains 7 rfl) (kb_of ke_X4_contains 8 rfl) (kb_of ke_X4_contains 9 rfl)
theorem dX4_contains_10 : decode cX4_contains 10 = .ok (.ifCond .ne 18, 3) := dqo_154 0 18 (by decide) (kb_of ke_X4_contains 10 rfl) (kb_of ke_X4_contains 11 rfl) (kb_of ke_X4_contains 12 rfl)
theorem dX4_contains_28 : decode cX4_contains 28 = .ok (.iconst 0, 1) := dqo_3 (kb_of ke_X4_contains 28 rfl)
theorem dX4_contains_29 : decode cX4_contains 29 = .ok (.ireturn, 1) := dqo_172 (kb_of ke_X4_contains 29 rfl)
set_option maxRecDepth 100000 in
set_option maxHeartbeats 4000000 in
theorem D_contains_noR {l : Launch} {D : va_G} {cy : Nat → ClassId} {X : (Nat → Prop) → State → Heap → Prop} {ba ra : Nat → Nat} {hf : Nat → Nat → Nat} {hq : Nat → Nat → Int32} {kn th : Int32} {sm : Int64} {Y : va_W} {f : Nat → Nat → Nat} {r : Nat → Nat → Int32} {x : Int32} {y : Int32} (hX : EnvM X cy) (hC : CInv f) (hM : MR f r hf hq) (hno : ¬ (0 ≤ x ∧ x < nI 4)) : Cd l D cy X yX4_contains cX4_contains 3 (some .boolean) (rmk 9 4 48 420) [.ref (ba 9), .int x, .int y] (WM cy ba ra hf hq kn th sm ++ Y) (some (.int (nI 0))) (WM cy ba ra hf hq kn (nI 1) sm ++ Y) := by
  have hG := hM.1
  have h5M := hM.h5M hC
  have h4M := hC.h4M
  have h9a := hM.h9a hC
  have h6a := hM.h6a
  have hU := hM.hU hC
  refine Cm.of [some (.ref (ba 9)), some (.int x), some (.int y)] pn_X4 rfl (Nat.le_of_ble_eq_true rfl) ?_
  intro p e s m args below meth c A C hE hr hnt hn
  refine r_aload_n C dX4_contains_0 rfl ?_
  refine r_iload_n C dX4_contains_1 rfl ?_
  refine d_S (st := [.ref (ba 9)]) hX.1.stb C hE (D_isNoRow1 (ba := ba) (ra := ra) (hf := hf) (hq := hq) (kn := kn) (th := th) (sm := sm) (Y := Y) (x := (x)) hX hno) pk_X4_isNoRow qm_X4_119 rfl rfl (Nat.le_of_ble_eq_true rfl) dX4_contains_2 ⟨(Nat.le_of_ble_eq_true rfl), (Nat.le_of_ble_eq_true rfl)⟩ ⟨(Nat.le_of_ble_eq_true rfl), (Nat.le_of_ble_eq_true rfl)⟩ ?_
  refine r_w (w' := WM cy ba ra hf hq kn th sm ++ Y) rfl ?_
  refine r_iconst (v := (nI 0)) C dX4_contains_5 (by decide) ?_
  refine r_iconst (v := (nI 0)) C dX4_contains_6 (by decide) ?_
  refine d_V (st := []) hX.1.stb C hE (D_fails1 (ba := ba) (ra := ra) (hf := hf) (hq := hq) (kn := kn) (th := th) (sm := sm) (Y := Y) (b0 := 0) (d0 := 0) hX ) pk_X4_fails qm_X4_84 0 8 rfl rfl wm_0 rfl rfl (Nat.le_of_ble_eq_true rfl) dX4_contains_7 ⟨(Nat.le_of_ble_eq_true rfl), (Nat.le_of_ble_eq_true rfl)⟩ ⟨(Nat.le_of_ble_eq_true rfl), (Nat.le_of_ble_eq_true rfl)⟩ ?_
  refine r_w (w' := WM cy ba ra hf hq kn (nI 1) sm ++ Y) rfl ?_
  refine r_ifN_ne (a := 1) (tgt := 28) C (by first | omega | (simp [up2, *]; done) | (simp [up2, *]; omega) | (simp only [up2_eq]; omega) | (split <;> omega)) dX4_contains_10 (by decide) (fun h10_1 => ?_) (fun h10_1 => ?_)
  · skip
    refine r_iconst (v := (nI 0)) C dX4_contains_28 (by decide) ?_
    exact r_zret C hr (by first | omega | (simp [up2, *]; done) | (simp [up2, *]; omega) | (simp only [up2_eq]; omega) | (split <;> omega)) dX4_contains_29 ⟨rfl, rfl⟩ (Nat.le_of_ble_eq_true rfl) (Nat.le_of_ble_eq_true rfl)
  · exact absurd h10_1 (by first | omega | (simp [up2, *]; done) | (simp [up2, *]; omega) | (simp only [up2_eq]; omega) | (split <;> omega))
theorem dX4_indexOf_17 : decode cX4_indexOf 17 = .ok (.aload_n 0, 1) := dqo_42 (kb_of ke_X4_indexOf 17 rfl)
theorem dX4_indexOf_18 : decode cX4_indexOf 18 = .ok (.iload_n 1, 1) := dqo_27 (kb_of ke_X4_indexOf 18 rfl)
theorem dX4_indexOf_19 : decode cX4_indexOf 19 = .ok (.iload_n 2, 1) := dqo_28 (kb_of ke_X4_indexOf 19 rfl)
theorem dX4_indexOf_20 : decode cX4_indexOf 20 = .ok (.iconst 0, 1) := dqo_3 (kb_of ke_X4_indexOf 20 rfl)
theorem dX4_indexOf_21 : decode cX4_indexOf 21 = .ok (.invokevirtual 122, 3) := dqo_182 0 122 (kb_of ke_X4_indexOf 21 rfl) (kb_of ke_X4_indexOf 22 rfl) (kb_of ke_X4_indexOf 23 rfl)
set_option maxRecDepth 100000 in
set_option maxHeartbeats 4000000 in
theorem D_indexOf_ok {l : Launch} {D : va_G} {cy : Nat → ClassId} {X : (Nat → Prop) → State → Heap → Prop} {ba ra : Nat → Nat} {hf : Nat → Nat → Nat} {hq : Nat → Nat → Int32} {kn th : Int32} {sm : Int64} {Y : va_W} {f : Nat → Nat → Nat} {r : Nat → Nat → Int32} {i : Nat} {y : Int32} (hX : EnvM X cy) (hC : CInv f) (hM : MR f r hf hq) (hi4 : i < 4) : Cd l D cy X yX4_indexOf cX4_indexOf 3 (some .int) (rmk 9 4 48 420) [.ref (ba 9), .int (nI i), .int y] (WM cy ba ra hf hq kn th sm ++ Y) (some (.int (nI (fpF (hq i) (y) (hf 4 i) 0)))) (WM cy ba ra hf hq kn (nI 0) sm ++ Y) := by
  have hG := hM.1
  have h5M := hM.h5M hC
  have h4M := hC.h4M
  have h9a := hM.h9a hC
  have h6a := hM.h6a
  have hU := hM.hU hC
  have qi := hC.rw hi4
  have pi := (hM.2.1 i hi4).1
  have ei : hf 4 (f 1 i) = hf 4 i := by rw [qi.2.1]
  have wi := hM.wh hC (w := i) (by omega) qi.2.2.2.2.2
  refine Cm.of [some (.ref (ba 9)), some (.int (nI i)), some (.int y)] pn_X4 rfl (Nat.le_of_ble_eq_true rfl) ?_
  intro p e s m args below meth c A C hE hr hnt hn
  refine r_aload_n C dX4_indexOf_0 rfl ?_
  refine r_iload_n C dX4_indexOf_1 rfl ?_
  refine d_S (st := [.ref (ba 9)]) hX.1.stb C hE (D_isNoRow0 (ba := ba) (ra := ra) (hf := hf) (hq := hq) (kn := kn) (th := th) (sm := sm) (Y := Y) (i := i) hX (by first | omega | (simp [up2, *]; done) | (simp [up2, *]; omega) | (simp only [up2_eq]; omega) | (split <;> omega))) pk_X4_isNoRow qm_X4_119 rfl rfl (Nat.le_of_ble_eq_true rfl) dX4_indexOf_2 ⟨(Nat.le_of_ble_eq_true rfl), (Nat.le_of_ble_eq_true rfl)⟩ ⟨(Nat.le_of_ble_eq_true rfl), (Nat.le_of_ble_eq_true rfl)⟩ ?_
  refine r_w (w' := WM cy ba ra hf hq kn th sm ++ Y) rfl ?_
  refine r_iconst (v := (nI 0)) C dX4_indexOf_5 (by decide) ?_
  refine r_iconst (v := (nI 0)) C dX4_indexOf_6 (by decide) ?_
  refine d_V (st := []) hX.1.stb C hE (D_fails0 (ba := ba) (ra := ra) (hf := hf) (hq := hq) (kn := kn) (th := th) (sm := sm) (Y := Y)  hX ) pk_X4_fails qm_X4_84 0 8 rfl rfl wm_0 rfl rfl (Nat.le_of_ble_eq_true rfl) dX4_indexOf_7 ⟨(Nat.le_of_ble_eq_true rfl), (Nat.le_of_ble_eq_true rfl)⟩ ⟨(Nat.le_of_ble_eq_true rfl), (Nat.le_of_ble_eq_true rfl)⟩ ?_
  refine r_w (w' := WM cy ba ra hf hq kn (nI 0) sm ++ Y) rfl ?_
  refine r_ifN_eq (a := 0) (tgt := 17) C (by first | omega | (simp [up2, *]; done) | (simp [up2, *]; omega) | (simp only [up2_eq]; omega) | (split <;> omega)) dX4_indexOf_10 (by decide) (fun h10_1 => ?_) (fun h10_1 => ?_)
  · skip
    refine r_aload_n C dX4_indexOf_17 rfl ?_
    refine r_iload_n C dX4_indexOf_18 rfl ?_
    refine r_iload_n C dX4_indexOf_19 rfl ?_
    refine r_iconst (v := (nI 0)) C dX4_indexOf_20 (by decide) ?_
    refine d_V (st := []) hX.1.stb C hE (D_find0 (ba := ba) (ra := ra) (hf := hf) (hq := hq) (kn := kn) (th := (nI 0)) (sm := sm) (Y := Y) (i := i) (y := (y)) hX (by first | omega | (simp [up2, *]; done) | (simp [up2, *]; omega) | (simp only [up2_eq]; omega) | (split <;> omega)) (by first | omega | (simp [up2, *]; done) | (simp [up2, *]; omega) | (simp only [up2_eq]; omega) | (split <;> omega))) pk_X4_find qm_X4_122 0 8 rfl rfl wm_0 rfl rfl (Nat.le_of_ble_eq_true rfl) dX4_indexOf_21 ⟨(Nat.le_of_ble_eq_true rfl), (Nat.le_of_ble_eq_true rfl)⟩ ⟨(Nat.le_of_ble_eq_true rfl), (Nat.le_of_ble_eq_true rfl)⟩ ?_
    refine r_w (w' := WM cy ba ra hf hq kn (nI 0) sm ++ Y) rfl ?_
    exact r_iret C hr dX4_indexOf_24 ⟨rfl, rfl⟩ (Nat.le_of_ble_eq_true rfl) (Nat.le_of_ble_eq_true rfl)
  · exact absurd h10_1 (by first | omega | (simp [up2, *]; done) | (simp [up2, *]; omega) | (simp only [up2_eq]; omega) | (split <;> omega))
theorem dX4_lastIndexOf_17 : decode cX4_lastIndexOf 17 = .ok (.aload_n 0, 1) := dqo_42 (kb_of ke_X4_lastIndexOf 17 rfl)
theorem dX4_lastIndexOf_18 : decode cX4_lastIndexOf 18 = .ok (.iload_n 1, 1) := dqo_27 (kb_of ke_X4_lastIndexOf 18 rfl)
theorem dX4_lastIndexOf_19 : decode cX4_lastIndexOf 19 = .ok (.iload_n 2, 1) := dqo_28 (kb_of ke_X4_lastIndexOf 19 rfl)
theorem dX4_lastIndexOf_20 : decode cX4_lastIndexOf 20 = .ok (.iconst 1, 1) := dqo_4 (kb_of ke_X4_lastIndexOf 20 rfl)
theorem dX4_lastIndexOf_21 : decode cX4_lastIndexOf 21 = .ok (.invokevirtual 122, 3) := dqo_182 0 122 (kb_of ke_X4_lastIndexOf 21 rfl) (kb_of ke_X4_lastIndexOf 22 rfl) (kb_of ke_X4_lastIndexOf 23 rfl)
set_option maxRecDepth 100000 in
set_option maxHeartbeats 4000000 in
theorem D_lastIndexOf_ok {l : Launch} {D : va_G} {cy : Nat → ClassId} {X : (Nat → Prop) → State → Heap → Prop} {ba ra : Nat → Nat} {hf : Nat → Nat → Nat} {hq : Nat → Nat → Int32} {kn th : Int32} {sm : Int64} {Y : va_W} {f : Nat → Nat → Nat} {r : Nat → Nat → Int32} {i : Nat} {y : Int32} (hX : EnvM X cy) (hC : CInv f) (hM : MR f r hf hq) (hi4 : i < 4) : Cd l D cy X yX4_lastIndexOf cX4_lastIndexOf 3 (some .int) (rmk 9 4 48 420) [.ref (ba 9), .int (nI i), .int y] (WM cy ba ra hf hq kn th sm ++ Y) (some (.int (nI (liF (hq i) (y) (hf 4 i) 0 4294967295)))) (WM cy ba ra hf hq kn (nI 0) sm ++ Y) := by
  have hG := hM.1
  have h5M := hM.h5M hC
  have h4M := hC.h4M
  have h9a := hM.h9a hC
  have h6a := hM.h6a
  have hU := hM.hU hC
  have qi := hC.rw hi4
  have pi := (hM.2.1 i hi4).1
  have ei : hf 4 (f 1 i) = hf 4 i := by rw [qi.2.1]
  have wi := hM.wh hC (w := i) (by omega) qi.2.2.2.2.2
  refine Cm.of [some (.ref (ba 9)), some (.int (nI i)), some (.int y)] pn_X4 rfl (Nat.le_of_ble_eq_true rfl) ?_
  intro p e s m args below meth c A C hE hr hnt hn
  refine r_aload_n C dX4_lastIndexOf_0 rfl ?_
  refine r_iload_n C dX4_lastIndexOf_1 rfl ?_
  refine d_S (st := [.ref (ba 9)]) hX.1.stb C hE (D_isNoRow0 (ba := ba) (ra := ra) (hf := hf) (hq := hq) (kn := kn) (th := th) (sm := sm) (Y := Y) (i := i) hX (by first | omega | (simp [up2, *]; done) | (simp [up2, *]; omega) | (simp only [up2_eq]; omega) | (split <;> omega))) pk_X4_isNoRow qm_X4_119 rfl rfl (Nat.le_of_ble_eq_true rfl) dX4_lastIndexOf_2 ⟨(Nat.le_of_ble_eq_true rfl), (Nat.le_of_ble_eq_true rfl)⟩ ⟨(Nat.le_of_ble_eq_true rfl), (Nat.le_of_ble_eq_true rfl)⟩ ?_
  refine r_w (w' := WM cy ba ra hf hq kn th sm ++ Y) rfl ?_
  refine r_iconst (v := (nI 0)) C dX4_lastIndexOf_5 (by decide) ?_
  refine r_iconst (v := (nI 0)) C dX4_lastIndexOf_6 (by decide) ?_
  refine d_V (st := []) hX.1.stb C hE (D_fails0 (ba := ba) (ra := ra) (hf := hf) (hq := hq) (kn := kn) (th := th) (sm := sm) (Y := Y)  hX ) pk_X4_fails qm_X4_84 0 8 rfl rfl wm_0 rfl rfl (Nat.le_of_ble_eq_true rfl) dX4_lastIndexOf_7 ⟨(Nat.le_of_ble_eq_true rfl), (Nat.le_of_ble_eq_true rfl)⟩ ⟨(Nat.le_of_ble_eq_true rfl), (Nat.le_of_ble_eq_true rfl)⟩ ?_
  refine r_w (w' := WM cy ba ra hf hq kn (nI 0) sm ++ Y) rfl ?_
  refine r_ifN_eq (a := 0) (tgt := 17) C (by first | omega | (simp [up2, *]; done) | (simp [up2, *]; omega) | (simp only [up2_eq]; omega) | (split <;> omega)) dX4_lastIndexOf_10 (by decide) (fun h10_1 => ?_) (fun h10_1 => ?_)
  · skip
    refine r_aload_n C dX4_lastIndexOf_17 rfl ?_
    refine r_iload_n C dX4_lastIndexOf_18 rfl ?_
    refine r_iload_n C dX4_lastIndexOf_19 rfl ?_
    refine r_iconst (v := (nI 1)) C dX4_lastIndexOf_20 (by decide) ?_
    refine d_V (st := []) hX.1.stb C hE (D_find1 (ba := ba) (ra := ra) (hf := hf) (hq := hq) (kn := kn) (th := (nI 0)) (sm := sm) (Y := Y) (i := i) (y := (y)) hX (by first | omega | (simp [up2, *]; done) | (simp [up2, *]; omega) | (simp only [up2_eq]; omega) | (split <;> omega)) (by first | omega | (simp [up2, *]; done) | (simp [up2, *]; omega) | (simp only [up2_eq]; omega) | (split <;> omega))) pk_X4_find qm_X4_122 0 8 rfl rfl wm_0 rfl rfl (Nat.le_of_ble_eq_true rfl) dX4_lastIndexOf_21 ⟨(Nat.le_of_ble_eq_true rfl), (Nat.le_of_ble_eq_true rfl)⟩ ⟨(Nat.le_of_ble_eq_true rfl), (Nat.le_of_ble_eq_true rfl)⟩ ?_
    refine r_w (w' := WM cy ba ra hf hq kn (nI 0) sm ++ Y) rfl ?_
    exact r_iret C hr dX4_lastIndexOf_24 ⟨rfl, rfl⟩ (Nat.le_of_ble_eq_true rfl) (Nat.le_of_ble_eq_true rfl)
  · exact absurd h10_1 (by first | omega | (simp [up2, *]; done) | (simp [up2, *]; omega) | (simp only [up2_eq]; omega) | (split <;> omega))
theorem dX4_contains_13 : decode cX4_contains 13 = .ok (.aload_n 0, 1) := dqo_42 (kb_of ke_X4_contains 13 rfl)
theorem dX4_contains_14 : decode cX4_contains 14 = .ok (.iload_n 1, 1) := dqo_27 (kb_of ke_X4_contains 14 rfl)
theorem dX4_contains_15 : decode cX4_contains 15 = .ok (.iload_n 2, 1) := dqo_28 (kb_of ke_X4_contains 15 rfl)
theorem dX4_contains_16 : decode cX4_contains 16 = .ok (.iconst 0, 1) := dqo_3 (kb_of ke_X4_contains 16 rfl)
theorem dX4_contains_17 : decode cX4_contains 17 = .ok (.invokevirtual 122, 3) := dqo_182 0 122 (kb_of ke_X4_contains 17 rfl) (kb_of ke_X4_contains 18 rfl) (kb_of ke_X4_contains 19 rfl)
theorem dX4_contains_20 : decode cX4_contains 20 = .ok (.iconst (-1), 1) := dqo_2 (kb_of ke_X4_contains 20 rfl)
theorem dX4_contains_21 : decode cX4_contains 21 = .ok (.if_icmp .eq 7, 3) := dqo_159 0 7 (by decide) (kb_of ke_X4_contains 21 rfl) (kb_of ke_X4_contains 22 rfl) (kb_of ke_X4_contains 23 rfl)
theorem dX4_contains_24 : decode cX4_contains 24 = .ok (.iconst 1, 1) := dqo_4 (kb_of ke_X4_contains 24 rfl)
theorem dX4_contains_25 : decode cX4_contains 25 = .ok (.goto 4, 3) := dqo_167 0 4 (by decide) (kb_of ke_X4_contains 25 rfl) (kb_of ke_X4_contains 26 rfl) (kb_of ke_X4_contains 27 rfl)
set_option maxRecDepth 100000 in
set_option maxHeartbeats 4000000 in
theorem D_contains_ok {l : Launch} {D : va_G} {cy : Nat → ClassId} {X : (Nat → Prop) → State → Heap → Prop} {ba ra : Nat → Nat} {hf : Nat → Nat → Nat} {hq : Nat → Nat → Int32} {kn th : Int32} {sm : Int64} {Y : va_W} {f : Nat → Nat → Nat} {r : Nat → Nat → Int32} {i : Nat} {y : Int32} (hX : EnvM X cy) (hC : CInv f) (hM : MR f r hf hq) (hi4 : i < 4) : Cd l D cy X yX4_contains cX4_contains 3 (some .boolean) (rmk 9 4 48 420) [.ref (ba 9), .int (nI i), .int y] (WM cy ba ra hf hq kn th sm ++ Y) (some (.int (nI (hqP hq (hf 4 i) i y)))) (WM cy ba ra hf hq kn (nI 0) sm ++ Y) := by
  have hG := hM.1
  have h5M := hM.h5M hC
  have h4M := hC.h4M
  have h9a := hM.h9a hC
  have h6a := hM.h6a
  have hU := hM.hU hC
  have qi := hC.rw hi4
  have pi := (hM.2.1 i hi4).1
  have ei : hf 4 (f 1 i) = hf 4 i := by rw [qi.2.1]
  have wi := hM.wh hC (w := i) (by omega) qi.2.2.2.2.2
  refine Cm.of [some (.ref (ba 9)), some (.int (nI i)), some (.int y)] pn_X4 rfl (Nat.le_of_ble_eq_true rfl) ?_
  intro p e s m args below meth c A C hE hr hnt hn
  refine r_aload_n C dX4_contains_0 rfl ?_
  refine r_iload_n C dX4_contains_1 rfl ?_
  refine d_S (st := [.ref (ba 9)]) hX.1.stb C hE (D_isNoRow0 (ba := ba) (ra := ra) (hf := hf) (hq := hq) (kn := kn) (th := th) (sm := sm) (Y := Y) (i := i) hX (by first | omega | (simp [up2, *]; done) | (simp [up2, *]; omega) | (simp only [up2_eq]; omega) | (split <;> omega))) pk_X4_isNoRow qm_X4_119 rfl rfl (Nat.le_of_ble_eq_true rfl) dX4_contains_2 ⟨(Nat.le_of_ble_eq_true rfl), (Nat.le_of_ble_eq_true rfl)⟩ ⟨(Nat.le_of_ble_eq_true rfl), (Nat.le_of_ble_eq_true rfl)⟩ ?_
  refine r_w (w' := WM cy ba ra hf hq kn th sm ++ Y) rfl ?_
  refine r_iconst (v := (nI 0)) C dX4_contains_5 (by decide) ?_
  refine r_iconst (v := (nI 0)) C dX4_contains_6 (by decide) ?_
  refine d_V (st := []) hX.1.stb C hE (D_fails0 (ba := ba) (ra := ra) (hf := hf) (hq := hq) (kn := kn) (th := th) (sm := sm) (Y := Y)  hX ) pk_X4_fails qm_X4_84 0 8 rfl rfl wm_0 rfl rfl (Nat.le_of_ble_eq_true rfl) dX4_contains_7 ⟨(Nat.le_of_ble_eq_true rfl), (Nat.le_of_ble_eq_true rfl)⟩ ⟨(Nat.le_of_ble_eq_true rfl), (Nat.le_of_ble_eq_true rfl)⟩ ?_
  refine r_w (w' := WM cy ba ra hf hq kn (nI 0) sm ++ Y) rfl ?_
  refine r_ifN_ne (a := 0) (tgt := 28) C (by first | omega | (simp [up2, *]; done) | (simp [up2, *]; omega) | (simp only [up2_eq]; omega) | (split <;> omega)) dX4_contains_10 (by decide) (fun h10_1 => ?_) (fun h10_1 => ?_)
  · exact absurd h10_1 (by first | omega | (simp [up2, *]; done) | (simp [up2, *]; omega) | (simp only [up2_eq]; omega) | (split <;> omega))
  · skip
    refine r_aload_n C dX4_contains_13 rfl ?_
    refine r_iload_n C dX4_contains_14 rfl ?_
    refine r_iload_n C dX4_contains_15 rfl ?_
    refine r_iconst (v := (nI 0)) C dX4_contains_16 (by decide) ?_
    refine d_V (st := []) hX.1.stb C hE (D_find0 (ba := ba) (ra := ra) (hf := hf) (hq := hq) (kn := kn) (th := (nI 0)) (sm := sm) (Y := Y) (i := i) (y := (y)) hX (by first | omega | (simp [up2, *]; done) | (simp [up2, *]; omega) | (simp only [up2_eq]; omega) | (split <;> omega)) (by first | omega | (simp [up2, *]; done) | (simp [up2, *]; omega) | (simp only [up2_eq]; omega) | (split <;> omega))) pk_X4_find qm_X4_122 0 8 rfl rfl wm_0 rfl rfl (Nat.le_of_ble_eq_true rfl) dX4_contains_17 ⟨(Nat.le_of_ble_eq_true rfl), (Nat.le_of_ble_eq_true rfl)⟩ ⟨(Nat.le_of_ble_eq_true rfl), (Nat.le_of_ble_eq_true rfl)⟩ ?_
    refine r_w (w' := WM cy ba ra hf hq kn (nI 0) sm ++ Y) rfl ?_
    refine r_iconst (v := (nI 4294967295)) C dX4_contains_20 (by decide) ?_
    refine r_icN_eq (a := (fpF (hq i) (y) (hf 4 i) 0)) (b := 4294967295) (tgt := 28) C (fpF_b (by omega)) (by first | omega | (simp [up2, *]; done) | (simp [up2, *]; omega) | (simp only [up2_eq]; omega) | (split <;> omega)) dX4_contains_21 (by decide) (fun h21_2 => ?_) (fun h21_2 => ?_)
    · first
      | exfalso; first | omega | contradiction
      | skip
        refine r_iconst (v := (nI 0)) C dX4_contains_28 (by decide) ?_
        exact r_zret C hr (by first | omega | (simp [up2, *]; done) | (simp [up2, *]; omega) | (simp only [up2_eq]; omega) | (split <;> omega)) dX4_contains_29 ⟨by unfold hqP; first | rw [if_pos (by assumption)] | rw [if_neg (by assumption)], rfl⟩ (Nat.le_of_ble_eq_true rfl) (Nat.le_of_ble_eq_true rfl)
    · first
      | exfalso; first | omega | contradiction
      | skip
        refine r_iconst (v := (nI 1)) C dX4_contains_24 (by decide) ?_
        refine r_goto (tgt := 29) C dX4_contains_25 (by decide) ?_
        exact r_zret C hr (by first | omega | (simp [up2, *]; done) | (simp [up2, *]; omega) | (simp only [up2_eq]; omega) | (split <;> omega)) dX4_contains_29 ⟨by unfold hqP; first | rw [if_pos (by assumption)] | rw [if_neg (by assumption)], rfl⟩ (Nat.le_of_ble_eq_true rfl) (Nat.le_of_ble_eq_true rfl)
theorem dX4_howOften_0 : decode cX4_howOften 0 = .ok (.aload_n 0, 1) := dqo_42 (kb_X4_howOften_0 0 rfl)
theorem dX4_howOften_1 : decode cX4_howOften 1 = .ok (.iload_n 1, 1) := dqo_27 (kb_X4_howOften_0 1 rfl)
theorem dX4_howOften_2 : decode cX4_howOften 2 = .ok (.invokestatic 119, 3) := dqo_184 0 119 (kb_X4_howOften_0 2 rfl) (kb_X4_howOften_0 3 rfl) (kb_X4_howOften_0 4 rfl)
theorem dX4_howOften_5 : decode cX4_howOften 5 = .ok (.iconst 0, 1) := dqo_3 (kb_X4_howOften_0 5 rfl)
theorem dX4_howOften_6 : decode cX4_howOften 6 = .ok (.iconst 0, 1) := dqo_3 (kb_X4_howOften_0 6 rfl)
theorem dX4_howOften_7 : decode cX4_howOften 7 = .ok (.invokevirtual 84, 3) := dqo_182 0 84 (kb_X4_howOften_0 7 rfl) (kb_X4_howOften_0 8 rfl) (kb_X4_howOften_0 9 rfl)
theorem dX4_howOften_10 : decode cX4_howOften 10 = .ok (.ifCond .eq 5, 3) := dqo_153 0 5 (by decide) (kb_X4_howOften_0 10 rfl) (kb_X4_howOften_0 11 rfl) (kb_X4_howOften_0 12 rfl)
theorem dX4_howOften_13 : decode cX4_howOften 13 = .ok (.iconst 0, 1) := dqo_3 (kb_X4_howOften_0 13 rfl)
theorem dX4_howOften_14 : decode cX4_howOften 14 = .ok (.ireturn, 1) := dqo_172 (kb_X4_howOften_0 14 rfl)
set_option maxRecDepth 100000 in
set_option maxHeartbeats 4000000 in
theorem D_howOften_noR {l : Launch} {D : va_G} {cy : Nat → ClassId} {X : (Nat → Prop) → State → Heap → Prop} {ba ra : Nat → Nat} {hf : Nat → Nat → Nat} {hq : Nat → Nat → Int32} {kn th : Int32} {sm : Int64} {Y : va_W} {f : Nat → Nat → Nat} {r : Nat → Nat → Int32} {x : Int32} {y : Int32} (hX : EnvM X cy) (hC : CInv f) (hM : MR f r hf hq) (hno : ¬ (0 ≤ x ∧ x < nI 4)) : Cd l D cy X yX4_howOften cX4_howOften 8 (some .int) (rmk 9 4 48 420) [.ref (ba 9), .int x, .int y] (WM cy ba ra hf hq kn th sm ++ Y) (some (.int (nI 0))) (WM cy ba ra hf hq kn (nI 1) sm ++ Y) := by
  have hG := hM.1
  have h5M := hM.h5M hC
  have h4M := hC.h4M
  have h9a := hM.h9a hC
  have h6a := hM.h6a
  have hU := hM.hU hC
  refine Cm.of [some (.ref (ba 9)), some (.int x), some (.int y), none, none, none, none, none] pn_X4 rfl (Nat.le_of_ble_eq_true rfl) ?_
  intro p e s m args below meth c A C hE hr hnt hn
  refine r_aload_n C dX4_howOften_0 rfl ?_
  refine r_iload_n C dX4_howOften_1 rfl ?_
  refine d_S (st := [.ref (ba 9)]) hX.1.stb C hE (D_isNoRow1 (ba := ba) (ra := ra) (hf := hf) (hq := hq) (kn := kn) (th := th) (sm := sm) (Y := Y) (x := (x)) hX hno) pk_X4_isNoRow qm_X4_119 rfl rfl (Nat.le_of_ble_eq_true rfl) dX4_howOften_2 ⟨(Nat.le_of_ble_eq_true rfl), (Nat.le_of_ble_eq_true rfl)⟩ ⟨(Nat.le_of_ble_eq_true rfl), (Nat.le_of_ble_eq_true rfl)⟩ ?_
  refine r_w (w' := WM cy ba ra hf hq kn th sm ++ Y) rfl ?_
  refine r_iconst (v := (nI 0)) C dX4_howOften_5 (by decide) ?_
  refine r_iconst (v := (nI 0)) C dX4_howOften_6 (by decide) ?_
  refine d_V (st := []) hX.1.stb C hE (D_fails1 (ba := ba) (ra := ra) (hf := hf) (hq := hq) (kn := kn) (th := th) (sm := sm) (Y := Y) (b0 := 0) (d0 := 0) hX ) pk_X4_fails qm_X4_84 0 8 rfl rfl wm_0 rfl rfl (Nat.le_of_ble_eq_true rfl) dX4_howOften_7 ⟨(Nat.le_of_ble_eq_true rfl), (Nat.le_of_ble_eq_true rfl)⟩ ⟨(Nat.le_of_ble_eq_true rfl), (Nat.le_of_ble_eq_true rfl)⟩ ?_
  refine r_w (w' := WM cy ba ra hf hq kn (nI 1) sm ++ Y) rfl ?_
  refine r_ifN_eq (a := 1) (tgt := 15) C (by first | omega | (simp [up2, *]; done) | (simp [up2, *]; omega) | (simp only [up2_eq]; omega) | (split <;> omega)) dX4_howOften_10 (by decide) (fun h10_1 => ?_) (fun h10_1 => ?_)
  · exact absurd h10_1 (by first | omega | (simp [up2, *]; done) | (simp [up2, *]; omega) | (simp only [up2_eq]; omega) | (split <;> omega))
  · skip
    refine r_iconst (v := (nI 0)) C dX4_howOften_13 (by decide) ?_
    exact r_iret C hr dX4_howOften_14 ⟨rfl, rfl⟩ (Nat.le_of_ble_eq_true rfl) (Nat.le_of_ble_eq_true rfl)
theorem pk_X4_one : PkS yX4_one cX4_one 1 (some .int) 1 := ⟨⟨qt_X4_one, qz_X4, qc_X4_one⟩, mh_X4.1, mh_X4.2, pd_26⟩
theorem dX4_howOften_15 : decode cX4_howOften 15 = .ok (.iconst 0, 1) := dqo_3 (kb_X4_howOften_0 15 rfl)
theorem dX4_howOften_16 : decode cX4_howOften 16 = .ok (.istore_n 3, 1) := dqo_62 (kb_X4_howOften_0 16 rfl)
theorem dX4_howOften_17 : decode cX4_howOften 17 = .ok (.aload_n 0, 1) := dqo_42 (kb_X4_howOften_0 17 rfl)
theorem dX4_howOften_18 : decode cX4_howOften 18 = .ok (.getfield 15, 3) := dqo_180 0 15 (kb_X4_howOften_0 18 rfl) (kb_X4_howOften_0 19 rfl) (kb_X4_howOften_0 20 rfl)
theorem dX4_howOften_21 : decode cX4_howOften 21 = .ok (.iload_n 1, 1) := dqo_27 (kb_X4_howOften_0 21 rfl)
theorem dX4_howOften_22 : decode cX4_howOften 22 = .ok (.aaload, 1) := dqo_50 (kb_X4_howOften_0 22 rfl)
theorem dX4_howOften_23 : decode cX4_howOften 23 = .ok (.astore 4, 2) := dqo_58 4 (kb_X4_howOften_0 23 rfl) (kb_X4_howOften_0 24 rfl)
theorem dX4_howOften_25 : decode cX4_howOften 25 = .ok (.aload 4, 2) := dqo_25 4 (kb_X4_howOften_0 25 rfl) (kb_X4_howOften_0 26 rfl)
theorem dX4_howOften_27 : decode cX4_howOften 27 = .ok (.arraylength, 1) := dqo_190 (kb_X4_howOften_0 27 rfl)
theorem dX4_howOften_28 : decode cX4_howOften 28 = .ok (.istore 5, 2) := dqo_54 5 (kb_X4_howOften_0 28 rfl) (kb_X4_howOften_0 29 rfl)
theorem dX4_howOften_30 : decode cX4_howOften 30 = .ok (.iconst 0, 1) := dqo_3 (kb_X4_howOften_0 30 rfl)
theorem dX4_howOften_31 : decode cX4_howOften 31 = .ok (.istore 6, 2) := dqo_54 6 (kb_X4_howOften_0 31 rfl) (kb_X4_howOften_0 32 rfl)
theorem dX4_howOften_33 : decode cX4_howOften 33 = .ok (.iload 6, 2) := dqo_21 6 (kb_X4_howOften_0 33 rfl) (kb_X4_howOften_0 34 rfl)
theorem dX4_howOften_35 : decode cX4_howOften 35 = .ok (.iload 5, 2) := dqo_21 5 (kb_X4_howOften_0 35 rfl) (kb_X4_howOften_0 36 rfl)
theorem dX4_howOften_37 : decode cX4_howOften 37 = .ok (.if_icmp .ge 33, 3) := dqo_162 0 33 (by decide) (kb_X4_howOften_0 37 rfl) (kb_X4_howOften_0 38 rfl) (kb_X4_howOften_0 39 rfl)
theorem dX4_howOften_40 : decode cX4_howOften 40 = .ok (.aload 4, 2) := dqo_25 4 (kb_X4_howOften_0 40 rfl) (kb_X4_howOften_0 41 rfl)
theorem dX4_howOften_42 : decode cX4_howOften 42 = .ok (.iload 6, 2) := dqo_21 6 (kb_X4_howOften_0 42 rfl) (kb_X4_howOften_0 43 rfl)
theorem dX4_howOften_44 : decode cX4_howOften 44 = .ok (.iaload, 1) := dqo_46 (kb_X4_howOften_0 44 rfl)
theorem dX4_howOften_45 : decode cX4_howOften 45 = .ok (.istore 7, 2) := dqo_54 7 (kb_X4_howOften_0 45 rfl) (kb_X4_howOften_0 46 rfl)
theorem dX4_howOften_47 : decode cX4_howOften 47 = .ok (.iload_n 3, 1) := dqo_29 (kb_X4_howOften_0 47 rfl)
theorem dX4_howOften_48 : decode cX4_howOften 48 = .ok (.iload 7, 2) := dqo_21 7 (kb_X4_howOften_0 48 rfl) (kb_X4_howOften_0 49 rfl)
theorem dX4_howOften_50 : decode cX4_howOften 50 = .ok (.iload_n 2, 1) := dqo_28 (kb_X4_howOften_0 50 rfl)
theorem dX4_howOften_51 : decode cX4_howOften 51 = .ok (.if_icmp .ne 7, 3) := dqo_160 0 7 (by decide) (kb_X4_howOften_0 51 rfl) (kb_X4_howOften_0 52 rfl) (kb_X4_howOften_0 53 rfl)
theorem dX4_howOften_54 : decode cX4_howOften 54 = .ok (.iconst 1, 1) := dqo_4 (kb_X4_howOften_0 54 rfl)
theorem dX4_howOften_55 : decode cX4_howOften 55 = .ok (.goto 4, 3) := dqo_167 0 4 (by decide) (kb_X4_howOften_0 55 rfl) (kb_X4_howOften_0 56 rfl) (kb_X4_howOften_0 57 rfl)
theorem dX4_howOften_58 : decode cX4_howOften 58 = .ok (.iconst 0, 1) := dqo_3 (kb_X4_howOften_0 58 rfl)
theorem dX4_howOften_59 : decode cX4_howOften 59 = .ok (.invokestatic 136, 3) := dqo_184 0 136 (kb_X4_howOften_0 59 rfl) (kb_X4_howOften_0 60 rfl) (kb_X4_howOften_0 61 rfl)
theorem dX4_howOften_62 : decode cX4_howOften 62 = .ok (.iadd, 1) := dqo_96 (kb_X4_howOften_0 62 rfl)
theorem dX4_howOften_63 : decode cX4_howOften 63 = .ok (.istore_n 3, 1) := dqo_62 (kb_X4_howOften_0 63 rfl)
theorem dX4_howOften_64 : decode cX4_howOften 64 = .ok (.iinc 6 1, 3) := dqo_132 6 1 (by decide) (kb_X4_howOften_1 0 rfl) (kb_X4_howOften_1 1 rfl) (kb_X4_howOften_1 2 rfl)
theorem dX4_howOften_67 : decode cX4_howOften 67 = .ok (.goto (-34), 3) := dqo_167 255 222 (by decide) (kb_X4_howOften_1 3 rfl) (kb_X4_howOften_1 4 rfl) (kb_X4_howOften_1 5 rfl)
theorem dX4_howOften_70 : decode cX4_howOften 70 = .ok (.iload_n 3, 1) := dqo_29 (kb_X4_howOften_1 6 rfl)
theorem dX4_howOften_71 : decode cX4_howOften 71 = .ok (.ireturn, 1) := dqo_172 (kb_X4_howOften_1 7 rfl)
set_option maxRecDepth 100000 in
set_option maxHeartbeats 4000000 in
theorem D_howOften_ok {l : Launch} {D : va_G} {cy : Nat → ClassId} {X : (Nat → Prop) → State → Heap → Prop} {ba ra : Nat → Nat} {hf : Nat → Nat → Nat} {hq : Nat → Nat → Int32} {kn th : Int32} {sm : Int64} {Y : va_W} {f : Nat → Nat → Nat} {r : Nat → Nat → Int32} {i : Nat} {y : Int32} (hX : EnvM X cy) (hC : CInv f) (hM : MR f r hf hq) (hi4 : i < 4) : Cd l D cy X yX4_howOften cX4_howOften 8 (some .int) (rmk 9 4 48 420) [.ref (ba 9), .int (nI i), .int y] (WM cy ba ra hf hq kn th sm ++ Y) (some (.int (nI (hoF (hq i) y (hf 4 i) 0 0)))) (WM cy ba ra hf hq kn (nI 0) sm ++ Y) := by
  have hG := hM.1
  have h5M := hM.h5M hC
  have h4M := hC.h4M
  have h9a := hM.h9a hC
  have h6a := hM.h6a
  have hU := hM.hU hC
  have qi := hC.rw hi4
  have pi := (hM.2.1 i hi4).1
  have ei : hf 4 (f 1 i) = hf 4 i := by rw [qi.2.1]
  have wi := hM.wh hC (w := i) (by omega) qi.2.2.2.2.2
  refine Cm.of [some (.ref (ba 9)), some (.int (nI i)), some (.int y), none, none, none, none, none] pn_X4 rfl (Nat.le_of_ble_eq_true rfl) ?_
  intro p e s m args below meth c A C hE hr hnt hn
  refine r_aload_n C dX4_howOften_0 rfl ?_
  refine r_iload_n C dX4_howOften_1 rfl ?_
  refine d_S (st := [.ref (ba 9)]) hX.1.stb C hE (D_isNoRow0 (ba := ba) (ra := ra) (hf := hf) (hq := hq) (kn := kn) (th := th) (sm := sm) (Y := Y) (i := i) hX (by first | omega | (simp [up2, *]; done) | (simp [up2, *]; omega) | (simp only [up2_eq]; omega) | (split <;> omega))) pk_X4_isNoRow qm_X4_119 rfl rfl (Nat.le_of_ble_eq_true rfl) dX4_howOften_2 ⟨(Nat.le_of_ble_eq_true rfl), (Nat.le_of_ble_eq_true rfl)⟩ ⟨(Nat.le_of_ble_eq_true rfl), (Nat.le_of_ble_eq_true rfl)⟩ ?_
  refine r_w (w' := WM cy ba ra hf hq kn th sm ++ Y) rfl ?_
  refine r_iconst (v := (nI 0)) C dX4_howOften_5 (by decide) ?_
  refine r_iconst (v := (nI 0)) C dX4_howOften_6 (by decide) ?_
  refine d_V (st := []) hX.1.stb C hE (D_fails0 (ba := ba) (ra := ra) (hf := hf) (hq := hq) (kn := kn) (th := th) (sm := sm) (Y := Y)  hX ) pk_X4_fails qm_X4_84 0 8 rfl rfl wm_0 rfl rfl (Nat.le_of_ble_eq_true rfl) dX4_howOften_7 ⟨(Nat.le_of_ble_eq_true rfl), (Nat.le_of_ble_eq_true rfl)⟩ ⟨(Nat.le_of_ble_eq_true rfl), (Nat.le_of_ble_eq_true rfl)⟩ ?_
  refine r_w (w' := WM cy ba ra hf hq kn (nI 0) sm ++ Y) rfl ?_
  refine r_ifN_eq (a := 0) (tgt := 15) C (by first | omega | (simp [up2, *]; done) | (simp [up2, *]; omega) | (simp only [up2_eq]; omega) | (split <;> omega)) dX4_howOften_10 (by decide) (fun h10_1 => ?_) (fun h10_1 => ?_)
  · skip
    refine r_iconst (v := (nI 0)) C dX4_howOften_15 (by decide) ?_
    refine r_istore_n C dX4_howOften_16 (by decide) rfl ?_
    refine r_aload_n C dX4_howOften_17 rfl ?_
    refine m_get (v := .ref (ba 0)) C 0 (by decide) qf_X4_15 rfl rfl dX4_howOften_18 ?_
    refine r_iload_n C dX4_howOften_21 rfl ?_
    refine m_rows (i := i) C (by first | omega | (simp [up2, *]; done) | (simp [up2, *]; omega) | (simp only [up2_eq]; omega) | (split <;> omega)) dX4_howOften_22 ?_
    refine r_astore C dX4_howOften_23 (by decide) rfl ?_
    refine r_aload C dX4_howOften_25 rfl ?_
    refine m_rlen (i := i) (v := hf 4 i) C (by first | omega | (simp [up2, *]; done) | (simp [up2, *]; omega) | (simp only [up2_eq]; omega) | (split <;> omega)) rfl dX4_howOften_27 ?_
    refine r_istore C dX4_howOften_28 (by decide) rfl ?_
    refine r_iconst (v := (nI 0)) C dX4_howOften_30 (by decide) ?_
    refine r_istore C dX4_howOften_31 (by decide) rfl ?_
    have L33 : ∀ (d : Nat) (k : Nat) (z : Nat), (hk : k + d = hf 4 i) → (hz : z ≤ k) → (hF : hoF (hq i) y d k z = hoF (hq i) y (hf 4 i) 0 0) → vC p l e (rmk 9 4 48 420) s m args below meth c D A (vx_MQ below (vG (fun v1 w1 => v1 = (some (.int (nI (hoF (hq i) y (hf 4 i) 0 0)))) ∧ w1 = WM cy ba ra hf hq kn (nI 0) sm ++ Y) D vwCl A) (vGX (fun _ => False) D vwCl (WM cy ba ra hf hq kn th sm ++ Y) A) args s (rmk 9 4 48 420).cells (rmk 9 4 48 420).slots A) 8 0 0 (WM cy ba ra hf hq kn (nI 0) sm ++ Y) [some (.ref (ba 9)), some (.int (nI i)), some (.int y), some (.int (nI z)), some (.ref (ra i)), some (.int (nI (hf 4 i))), some (.int (nI k)), none] 33 [] := by
      intro d
      induction d with
      | zero =>
        intro k z hk hz hF
        refine r_iload C dX4_howOften_33 rfl ?_
        refine r_iload C dX4_howOften_35 rfl ?_
        refine r_icN_ge (a := k) (b := (hf 4 i)) (tgt := 70) C (by first | omega | (simp [up2, *]; done) | (simp [up2, *]; omega) | (simp only [up2_eq]; omega) | (split <;> omega)) (by first | omega | (simp [up2, *]; done) | (simp [up2, *]; omega) | (simp only [up2_eq]; omega) | (split <;> omega)) dX4_howOften_37 (by decide) (fun h37_2 => ?_) (fun h37_2 => ?_)
        · first
          | exfalso; first | omega | contradiction
          | skip
            refine r_iload_n C dX4_howOften_70 rfl ?_
            exact r_iret C hr dX4_howOften_71 ⟨by rw [← hF]; rfl, rfl⟩ (Nat.le_of_ble_eq_true rfl) (Nat.le_of_ble_eq_true rfl)
        · first
          | exfalso; first | omega | contradiction
          | skip
            refine r_aload C dX4_howOften_40 rfl ?_
            refine r_iload C dX4_howOften_42 rfl ?_
            refine m_rld (i := i) (n := k) C (by first | omega | (simp [up2, *]; done) | (simp [up2, *]; omega) | (simp only [up2_eq]; omega) | (split <;> omega)) (by first | omega | (simp [up2, *]; done) | (simp [up2, *]; omega) | (simp only [up2_eq]; omega) | (split <;> omega)) (by first | omega | (simp [up2, *]; done) | (simp [up2, *]; omega) | (simp only [up2_eq]; omega) | (split <;> omega)) dX4_howOften_44 ?_
            refine r_istore C dX4_howOften_45 (by decide) rfl ?_
            refine r_iload_n C dX4_howOften_47 rfl ?_
            refine r_iload C dX4_howOften_48 rfl ?_
            refine r_iload_n C dX4_howOften_50 rfl ?_
            refine r_ic_ne (tgt := 58) C dX4_howOften_51 (by decide) (fun h51_3 => ?_) (fun h51_3 => ?_)
            · first
              | exfalso; first | omega | contradiction
              | skip
                refine r_iconst (v := (nI 0)) C dX4_howOften_58 (by decide) ?_
                refine d_S (st := [.int (nI z)]) hX.1.stb C hE (D_one (ba := ba) (ra := ra) (hf := hf) (hq := hq) (kn := kn) (th := (nI 0)) (sm := sm) (Y := Y) (b0 := 0) hX (by first | omega | (simp [up2, *]; done) | (simp [up2, *]; omega) | (simp only [up2_eq]; omega) | (split <;> omega))) pk_X4_one qm_X4_136 rfl rfl (Nat.le_of_ble_eq_true rfl) dX4_howOften_59 ⟨(Nat.le_of_ble_eq_true rfl), (Nat.le_of_ble_eq_true rfl)⟩ ⟨(Nat.le_of_ble_eq_true rfl), (Nat.le_of_ble_eq_true rfl)⟩ ?_
                refine r_w (w' := WM cy ba ra hf hq kn (nI 0) sm ++ Y) rfl ?_
                refine r_iaddN C dX4_howOften_62 ?_
                refine r_istore_n C dX4_howOften_63 (by decide) rfl ?_
                refine r_iincN C dX4_howOften_64 rfl (by decide) rfl ?_
                refine r_goto (tgt := 33) C dX4_howOften_67 (by decide) ?_
                refine r_drop 7 ?_
                exact (Nat.not_lt_zero _ (by omega)).elim
            · first
              | exfalso; first | omega | contradiction
              | skip
                refine r_iconst (v := (nI 1)) C dX4_howOften_54 (by decide) ?_
                refine r_goto (tgt := 59) C dX4_howOften_55 (by decide) ?_
                refine d_S (st := [.int (nI z)]) hX.1.stb C hE (D_one (ba := ba) (ra := ra) (hf := hf) (hq := hq) (kn := kn) (th := (nI 0)) (sm := sm) (Y := Y) (b0 := 1) hX (by first | omega | (simp [up2, *]; done) | (simp [up2, *]; omega) | (simp only [up2_eq]; omega) | (split <;> omega))) pk_X4_one qm_X4_136 rfl rfl (Nat.le_of_ble_eq_true rfl) dX4_howOften_59 ⟨(Nat.le_of_ble_eq_true rfl), (Nat.le_of_ble_eq_true rfl)⟩ ⟨(Nat.le_of_ble_eq_true rfl), (Nat.le_of_ble_eq_true rfl)⟩ ?_
                refine r_w (w' := WM cy ba ra hf hq kn (nI 0) sm ++ Y) rfl ?_
                refine r_iaddN C dX4_howOften_62 ?_
                refine r_istore_n C dX4_howOften_63 (by decide) rfl ?_
                refine r_iincN C dX4_howOften_64 rfl (by decide) rfl ?_
                refine r_goto (tgt := 33) C dX4_howOften_67 (by decide) ?_
                refine r_drop 7 ?_
                exact (Nat.not_lt_zero _ (by omega)).elim
      | succ d ih_L33 =>
        intro k z hk hz hF
        refine r_iload C dX4_howOften_33 rfl ?_
        refine r_iload C dX4_howOften_35 rfl ?_
        refine r_icN_ge (a := k) (b := (hf 4 i)) (tgt := 70) C (by first | omega | (simp [up2, *]; done) | (simp [up2, *]; omega) | (simp only [up2_eq]; omega) | (split <;> omega)) (by first | omega | (simp [up2, *]; done) | (simp [up2, *]; omega) | (simp only [up2_eq]; omega) | (split <;> omega)) dX4_howOften_37 (by decide) (fun h37_4 => ?_) (fun h37_4 => ?_)
        · first
          | exfalso; first | omega | contradiction
          | skip
            refine r_iload_n C dX4_howOften_70 rfl ?_
            exact r_iret C hr dX4_howOften_71 ⟨by rw [← hF]; rfl, rfl⟩ (Nat.le_of_ble_eq_true rfl) (Nat.le_of_ble_eq_true rfl)
        · first
          | exfalso; first | omega | contradiction
          | skip
            refine r_aload C dX4_howOften_40 rfl ?_
            refine r_iload C dX4_howOften_42 rfl ?_
            refine m_rld (i := i) (n := k) C (by first | omega | (simp [up2, *]; done) | (simp [up2, *]; omega) | (simp only [up2_eq]; omega) | (split <;> omega)) (by first | omega | (simp [up2, *]; done) | (simp [up2, *]; omega) | (simp only [up2_eq]; omega) | (split <;> omega)) (by first | omega | (simp [up2, *]; done) | (simp [up2, *]; omega) | (simp only [up2_eq]; omega) | (split <;> omega)) dX4_howOften_44 ?_
            refine r_istore C dX4_howOften_45 (by decide) rfl ?_
            refine r_iload_n C dX4_howOften_47 rfl ?_
            refine r_iload C dX4_howOften_48 rfl ?_
            refine r_iload_n C dX4_howOften_50 rfl ?_
            refine r_ic_ne (tgt := 58) C dX4_howOften_51 (by decide) (fun h51_5 => ?_) (fun h51_5 => ?_)
            · first
              | exfalso; first | omega | contradiction
              | skip
                refine r_iconst (v := (nI 0)) C dX4_howOften_58 (by decide) ?_
                refine d_S (st := [.int (nI z)]) hX.1.stb C hE (D_one (ba := ba) (ra := ra) (hf := hf) (hq := hq) (kn := kn) (th := (nI 0)) (sm := sm) (Y := Y) (b0 := 0) hX (by first | omega | (simp [up2, *]; done) | (simp [up2, *]; omega) | (simp only [up2_eq]; omega) | (split <;> omega))) pk_X4_one qm_X4_136 rfl rfl (Nat.le_of_ble_eq_true rfl) dX4_howOften_59 ⟨(Nat.le_of_ble_eq_true rfl), (Nat.le_of_ble_eq_true rfl)⟩ ⟨(Nat.le_of_ble_eq_true rfl), (Nat.le_of_ble_eq_true rfl)⟩ ?_
                refine r_w (w' := WM cy ba ra hf hq kn (nI 0) sm ++ Y) rfl ?_
                refine r_iaddN C dX4_howOften_62 ?_
                refine r_istore_n C dX4_howOften_63 (by decide) rfl ?_
                refine r_iincN C dX4_howOften_64 rfl (by decide) rfl ?_
                refine r_goto (tgt := 33) C dX4_howOften_67 (by decide) ?_
                refine r_drop 7 ?_
                exact ih_L33 (k + 1) (z + 0) (by first | omega | (simp [up2, *]; done) | (simp [up2, *]; omega) | (simp only [up2_eq]; omega) | (split <;> omega)) (by omega) (by rw [← hF]; exact ho_no (by assumption))
            · first
              | exfalso; first | omega | contradiction
              | skip
                refine r_iconst (v := (nI 1)) C dX4_howOften_54 (by decide) ?_
                refine r_goto (tgt := 59) C dX4_howOften_55 (by decide) ?_
                refine d_S (st := [.int (nI z)]) hX.1.stb C hE (D_one (ba := ba) (ra := ra) (hf := hf) (hq := hq) (kn := kn) (th := (nI 0)) (sm := sm) (Y := Y) (b0 := 1) hX (by first | omega | (simp [up2, *]; done) | (simp [up2, *]; omega) | (simp only [up2_eq]; omega) | (split <;> omega))) pk_X4_one qm_X4_136 rfl rfl (Nat.le_of_ble_eq_true rfl) dX4_howOften_59 ⟨(Nat.le_of_ble_eq_true rfl), (Nat.le_of_ble_eq_true rfl)⟩ ⟨(Nat.le_of_ble_eq_true rfl), (Nat.le_of_ble_eq_true rfl)⟩ ?_
                refine r_w (w' := WM cy ba ra hf hq kn (nI 0) sm ++ Y) rfl ?_
                refine r_iaddN C dX4_howOften_62 ?_
                refine r_istore_n C dX4_howOften_63 (by decide) rfl ?_
                refine r_iincN C dX4_howOften_64 rfl (by decide) rfl ?_
                refine r_goto (tgt := 33) C dX4_howOften_67 (by decide) ?_
                refine r_drop 7 ?_
                exact ih_L33 (k + 1) (z + 1) (by first | omega | (simp [up2, *]; done) | (simp [up2, *]; omega) | (simp only [up2_eq]; omega) | (split <;> omega)) (by omega) (by rw [← hF]; exact ho_yes (by assumption))
    exact L33 (hf 4 i) 0 0 (by first | omega | (simp [up2, *]; done) | (simp [up2, *]; omega) | (simp only [up2_eq]; omega) | (split <;> omega)) (by omega) rfl
  · exact absurd h10_1 (by first | omega | (simp [up2, *]; done) | (simp [up2, *]; omega) | (simp only [up2_eq]; omega) | (split <;> omega))
theorem dX4_least_0 : decode cX4_least 0 = .ok (.aload_n 0, 1) := dqo_42 (kb_X4_least_0 0 rfl)
theorem dX4_least_1 : decode cX4_least 1 = .ok (.iload_n 1, 1) := dqo_27 (kb_X4_least_0 1 rfl)
theorem dX4_least_2 : decode cX4_least 2 = .ok (.invokestatic 119, 3) := dqo_184 0 119 (kb_X4_least_0 2 rfl) (kb_X4_least_0 3 rfl) (kb_X4_least_0 4 rfl)
theorem dX4_least_5 : decode cX4_least 5 = .ok (.iload_n 1, 1) := dqo_27 (kb_X4_least_0 5 rfl)
theorem dX4_least_6 : decode cX4_least 6 = .ok (.invokestatic 119, 3) := dqo_184 0 119 (kb_X4_least_0 6 rfl) (kb_X4_least_0 7 rfl) (kb_X4_least_0 8 rfl)
theorem dX4_least_9 : decode cX4_least 9 = .ok (.ifCond .ne 17, 3) := dqo_154 0 17 (by decide) (kb_X4_least_0 9 rfl) (kb_X4_least_0 10 rfl) (kb_X4_least_0 11 rfl)
theorem dX4_least_26 : decode cX4_least 26 = .ok (.iconst 0, 1) := dqo_3 (kb_X4_least_0 26 rfl)
theorem dX4_least_27 : decode cX4_least 27 = .ok (.iconst 0, 1) := dqo_3 (kb_X4_least_0 27 rfl)
theorem dX4_least_28 : decode cX4_least 28 = .ok (.invokevirtual 84, 3) := dqo_182 0 84 (kb_X4_least_0 28 rfl) (kb_X4_least_0 29 rfl) (kb_X4_least_0 30 rfl)
theorem dX4_least_31 : decode cX4_least 31 = .ok (.ifCond .eq 5, 3) := dqo_153 0 5 (by decide) (kb_X4_least_0 31 rfl) (kb_X4_least_0 32 rfl) (kb_X4_least_0 33 rfl)
theorem dX4_least_34 : decode cX4_least 34 = .ok (.iconst 0, 1) := dqo_3 (kb_X4_least_0 34 rfl)
theorem dX4_least_35 : decode cX4_least 35 = .ok (.ireturn, 1) := dqo_172 (kb_X4_least_0 35 rfl)
set_option maxRecDepth 100000 in
set_option maxHeartbeats 4000000 in
theorem D_least_noR {l : Launch} {D : va_G} {cy : Nat → ClassId} {X : (Nat → Prop) → State → Heap → Prop} {ba ra : Nat → Nat} {hf : Nat → Nat → Nat} {hq : Nat → Nat → Int32} {kn th : Int32} {sm : Int64} {Y : va_W} {f : Nat → Nat → Nat} {r : Nat → Nat → Int32} {x : Int32} {b0 : Nat} (hX : EnvM X cy) (hC : CInv f) (hM : MR f r hf hq) (hno : ¬ (0 ≤ x ∧ x < nI 4)) : Cd l D cy X yX4_least cX4_least 8 (some .int) (rmk 9 4 48 420) [.ref (ba 9), .int x, .int (nI b0)] (WM cy ba ra hf hq kn th sm ++ Y) (some (.int (nI 0))) (WM cy ba ra hf hq kn (nI 1) sm ++ Y) := by
  have hG := hM.1
  have h5M := hM.h5M hC
  have h4M := hC.h4M
  have h9a := hM.h9a hC
  have h6a := hM.h6a
  have hU := hM.hU hC
  refine Cm.of [some (.ref (ba 9)), some (.int x), some (.int (nI b0)), none, none, none, none, none] pn_X4 rfl (Nat.le_of_ble_eq_true rfl) ?_
  intro p e s m args below meth c A C hE hr hnt hn
  refine r_aload_n C dX4_least_0 rfl ?_
  refine r_iload_n C dX4_least_1 rfl ?_
  refine d_S (st := [.ref (ba 9)]) hX.1.stb C hE (D_isNoRow1 (ba := ba) (ra := ra) (hf := hf) (hq := hq) (kn := kn) (th := th) (sm := sm) (Y := Y) (x := (x)) hX hno) pk_X4_isNoRow qm_X4_119 rfl rfl (Nat.le_of_ble_eq_true rfl) dX4_least_2 ⟨(Nat.le_of_ble_eq_true rfl), (Nat.le_of_ble_eq_true rfl)⟩ ⟨(Nat.le_of_ble_eq_true rfl), (Nat.le_of_ble_eq_true rfl)⟩ ?_
  refine r_w (w' := WM cy ba ra hf hq kn th sm ++ Y) rfl ?_
  refine r_iload_n C dX4_least_5 rfl ?_
  refine d_S (st := [.int (nI 1), .ref (ba 9)]) hX.1.stb C hE (D_isNoRow1 (ba := ba) (ra := ra) (hf := hf) (hq := hq) (kn := kn) (th := th) (sm := sm) (Y := Y) (x := (x)) hX hno) pk_X4_isNoRow qm_X4_119 rfl rfl (Nat.le_of_ble_eq_true rfl) dX4_least_6 ⟨(Nat.le_of_ble_eq_true rfl), (Nat.le_of_ble_eq_true rfl)⟩ ⟨(Nat.le_of_ble_eq_true rfl), (Nat.le_of_ble_eq_true rfl)⟩ ?_
  refine r_w (w' := WM cy ba ra hf hq kn th sm ++ Y) rfl ?_
  refine r_ifN_ne (a := 1) (tgt := 26) C (by first | omega | (simp [up2, *]; done) | (simp [up2, *]; omega) | (simp only [up2_eq]; omega) | (split <;> omega)) dX4_least_9 (by decide) (fun h9_1 => ?_) (fun h9_1 => ?_)
  · skip
    refine r_iconst (v := (nI 0)) C dX4_least_26 (by decide) ?_
    refine r_iconst (v := (nI 0)) C dX4_least_27 (by decide) ?_
    refine d_V (st := []) hX.1.stb C hE (D_fails1 (ba := ba) (ra := ra) (hf := hf) (hq := hq) (kn := kn) (th := th) (sm := sm) (Y := Y) (b0 := 0) (d0 := 0) hX ) pk_X4_fails qm_X4_84 0 8 rfl rfl wm_0 rfl rfl (Nat.le_of_ble_eq_true rfl) dX4_least_28 ⟨(Nat.le_of_ble_eq_true rfl), (Nat.le_of_ble_eq_true rfl)⟩ ⟨(Nat.le_of_ble_eq_true rfl), (Nat.le_of_ble_eq_true rfl)⟩ ?_
    refine r_w (w' := WM cy ba ra hf hq kn (nI 1) sm ++ Y) rfl ?_
    refine r_ifN_eq (a := 1) (tgt := 36) C (by first | omega | (simp [up2, *]; done) | (simp [up2, *]; omega) | (simp only [up2_eq]; omega) | (split <;> omega)) dX4_least_31 (by decide) (fun h31_2 => ?_) (fun h31_2 => ?_)
    · exact absurd h31_2 (by first | omega | (simp [up2, *]; done) | (simp [up2, *]; omega) | (simp only [up2_eq]; omega) | (split <;> omega))
    · skip
      refine r_iconst (v := (nI 0)) C dX4_least_34 (by decide) ?_
      exact r_iret C hr dX4_least_35 ⟨rfl, rfl⟩ (Nat.le_of_ble_eq_true rfl) (Nat.le_of_ble_eq_true rfl)
  · exact absurd h9_1 (by first | omega | (simp [up2, *]; done) | (simp [up2, *]; omega) | (simp only [up2_eq]; omega) | (split <;> omega))
theorem dX4_least_12 : decode cX4_least 12 = .ok (.aload_n 0, 1) := dqo_42 (kb_X4_least_0 12 rfl)
theorem dX4_least_13 : decode cX4_least 13 = .ok (.getfield 15, 3) := dqo_180 0 15 (kb_X4_least_0 13 rfl) (kb_X4_least_0 14 rfl) (kb_X4_least_0 15 rfl)
theorem dX4_least_16 : decode cX4_least 16 = .ok (.iload_n 1, 1) := dqo_27 (kb_X4_least_0 16 rfl)
theorem dX4_least_17 : decode cX4_least 17 = .ok (.aaload, 1) := dqo_50 (kb_X4_least_0 17 rfl)
theorem dX4_least_18 : decode cX4_least 18 = .ok (.arraylength, 1) := dqo_190 (kb_X4_least_0 18 rfl)
theorem dX4_least_19 : decode cX4_least 19 = .ok (.ifCond .ne 7, 3) := dqo_154 0 7 (by decide) (kb_X4_least_0 19 rfl) (kb_X4_least_0 20 rfl) (kb_X4_least_0 21 rfl)
theorem dX4_least_22 : decode cX4_least 22 = .ok (.iconst 1, 1) := dqo_4 (kb_X4_least_0 22 rfl)
theorem dX4_least_23 : decode cX4_least 23 = .ok (.goto 4, 3) := dqo_167 0 4 (by decide) (kb_X4_least_0 23 rfl) (kb_X4_least_0 24 rfl) (kb_X4_least_0 25 rfl)
set_option maxRecDepth 100000 in
set_option maxHeartbeats 4000000 in
theorem D_least_0 {l : Launch} {D : va_G} {cy : Nat → ClassId} {X : (Nat → Prop) → State → Heap → Prop} {ba ra : Nat → Nat} {hf : Nat → Nat → Nat} {hq : Nat → Nat → Int32} {kn th : Int32} {sm : Int64} {Y : va_W} {f : Nat → Nat → Nat} {r : Nat → Nat → Int32} {i : Nat} {b0 : Nat} (hX : EnvM X cy) (hC : CInv f) (hM : MR f r hf hq) (hi4 : i < 4) (hz : f 4 i = 0) : Cd l D cy X yX4_least cX4_least 8 (some .int) (rmk 9 4 48 420) [.ref (ba 9), .int (nI i), .int (nI b0)] (WM cy ba ra hf hq kn th sm ++ Y) (some (.int (nI 0))) (WM cy ba ra hf hq kn (nI 2) sm ++ Y) := by
  have hG := hM.1
  have h5M := hM.h5M hC
  have h4M := hC.h4M
  have h9a := hM.h9a hC
  have h6a := hM.h6a
  have hU := hM.hU hC
  have qi := hC.rw hi4
  have pi := (hM.2.1 i hi4).1
  have ei : hf 4 (f 1 i) = hf 4 i := by rw [qi.2.1]
  have wi := hM.wh hC (w := i) (by omega) qi.2.2.2.2.2
  refine Cm.of [some (.ref (ba 9)), some (.int (nI i)), some (.int (nI b0)), none, none, none, none, none] pn_X4 rfl (Nat.le_of_ble_eq_true rfl) ?_
  intro p e s m args below meth c A C hE hr hnt hn
  refine r_aload_n C dX4_least_0 rfl ?_
  refine r_iload_n C dX4_least_1 rfl ?_
  refine d_S (st := [.ref (ba 9)]) hX.1.stb C hE (D_isNoRow0 (ba := ba) (ra := ra) (hf := hf) (hq := hq) (kn := kn) (th := th) (sm := sm) (Y := Y) (i := i) hX (by first | omega | (simp [up2, *]; done) | (simp [up2, *]; omega) | (simp only [up2_eq]; omega) | (split <;> omega))) pk_X4_isNoRow qm_X4_119 rfl rfl (Nat.le_of_ble_eq_true rfl) dX4_least_2 ⟨(Nat.le_of_ble_eq_true rfl), (Nat.le_of_ble_eq_true rfl)⟩ ⟨(Nat.le_of_ble_eq_true rfl), (Nat.le_of_ble_eq_true rfl)⟩ ?_
  refine r_w (w' := WM cy ba ra hf hq kn th sm ++ Y) rfl ?_
  refine r_iload_n C dX4_least_5 rfl ?_
  refine d_S (st := [.int (nI 0), .ref (ba 9)]) hX.1.stb C hE (D_isNoRow0 (ba := ba) (ra := ra) (hf := hf) (hq := hq) (kn := kn) (th := th) (sm := sm) (Y := Y) (i := i) hX (by first | omega | (simp [up2, *]; done) | (simp [up2, *]; omega) | (simp only [up2_eq]; omega) | (split <;> omega))) pk_X4_isNoRow qm_X4_119 rfl rfl (Nat.le_of_ble_eq_true rfl) dX4_least_6 ⟨(Nat.le_of_ble_eq_true rfl), (Nat.le_of_ble_eq_true rfl)⟩ ⟨(Nat.le_of_ble_eq_true rfl), (Nat.le_of_ble_eq_true rfl)⟩ ?_
  refine r_w (w' := WM cy ba ra hf hq kn th sm ++ Y) rfl ?_
  refine r_ifN_ne (a := 0) (tgt := 26) C (by first | omega | (simp [up2, *]; done) | (simp [up2, *]; omega) | (simp only [up2_eq]; omega) | (split <;> omega)) dX4_least_9 (by decide) (fun h9_1 => ?_) (fun h9_1 => ?_)
  · exact absurd h9_1 (by first | omega | (simp [up2, *]; done) | (simp [up2, *]; omega) | (simp only [up2_eq]; omega) | (split <;> omega))
  · skip
    refine r_aload_n C dX4_least_12 rfl ?_
    refine m_get (v := .ref (ba 0)) C 0 (by decide) qf_X4_15 rfl rfl dX4_least_13 ?_
    refine r_iload_n C dX4_least_16 rfl ?_
    refine m_rows (i := i) C (by first | omega | (simp [up2, *]; done) | (simp [up2, *]; omega) | (simp only [up2_eq]; omega) | (split <;> omega)) dX4_least_17 ?_
    refine m_rlen (i := i) (v := hf 4 i) C (by first | omega | (simp [up2, *]; done) | (simp [up2, *]; omega) | (simp only [up2_eq]; omega) | (split <;> omega)) rfl dX4_least_18 ?_
    refine r_ifN_ne (a := (hf 4 i)) (tgt := 26) C (by first | omega | (simp [up2, *]; done) | (simp [up2, *]; omega) | (simp only [up2_eq]; omega) | (split <;> omega)) dX4_least_19 (by decide) (fun h19_2 => ?_) (fun h19_2 => ?_)
    · exact absurd h19_2 (by first | omega | (simp [up2, *]; done) | (simp [up2, *]; omega) | (simp only [up2_eq]; omega) | (split <;> omega))
    · skip
      refine r_iconst (v := (nI 1)) C dX4_least_22 (by decide) ?_
      refine r_goto (tgt := 27) C dX4_least_23 (by decide) ?_
      refine r_iconst (v := (nI 0)) C dX4_least_27 (by decide) ?_
      refine d_V (st := []) hX.1.stb C hE (D_fails2 (ba := ba) (ra := ra) (hf := hf) (hq := hq) (kn := kn) (th := th) (sm := sm) (Y := Y) (d0 := 0) hX ) pk_X4_fails qm_X4_84 0 8 rfl rfl wm_0 rfl rfl (Nat.le_of_ble_eq_true rfl) dX4_least_28 ⟨(Nat.le_of_ble_eq_true rfl), (Nat.le_of_ble_eq_true rfl)⟩ ⟨(Nat.le_of_ble_eq_true rfl), (Nat.le_of_ble_eq_true rfl)⟩ ?_
      refine r_w (w' := WM cy ba ra hf hq kn (nI 2) sm ++ Y) rfl ?_
      refine r_ifN_eq (a := 1) (tgt := 36) C (by first | omega | (simp [up2, *]; done) | (simp [up2, *]; omega) | (simp only [up2_eq]; omega) | (split <;> omega)) dX4_least_31 (by decide) (fun h31_3 => ?_) (fun h31_3 => ?_)
      · exact absurd h31_3 (by first | omega | (simp [up2, *]; done) | (simp [up2, *]; omega) | (simp only [up2_eq]; omega) | (split <;> omega))
      · skip
        refine r_iconst (v := (nI 0)) C dX4_least_34 (by decide) ?_
        exact r_iret C hr dX4_least_35 ⟨rfl, rfl⟩ (Nat.le_of_ble_eq_true rfl) (Nat.le_of_ble_eq_true rfl)
theorem dX4_least_36 : decode cX4_least 36 = .ok (.aload_n 0, 1) := dqo_42 (kb_X4_least_0 36 rfl)
theorem dX4_least_37 : decode cX4_least 37 = .ok (.getfield 15, 3) := dqo_180 0 15 (kb_X4_least_0 37 rfl) (kb_X4_least_0 38 rfl) (kb_X4_least_0 39 rfl)
theorem dX4_least_40 : decode cX4_least 40 = .ok (.iload_n 1, 1) := dqo_27 (kb_X4_least_0 40 rfl)
theorem dX4_least_41 : decode cX4_least 41 = .ok (.aaload, 1) := dqo_50 (kb_X4_least_0 41 rfl)
theorem dX4_least_42 : decode cX4_least 42 = .ok (.iconst 0, 1) := dqo_3 (kb_X4_least_0 42 rfl)
theorem dX4_least_43 : decode cX4_least 43 = .ok (.iaload, 1) := dqo_46 (kb_X4_least_0 43 rfl)
theorem dX4_least_44 : decode cX4_least 44 = .ok (.istore_n 3, 1) := dqo_62 (kb_X4_least_0 44 rfl)
theorem dX4_least_45 : decode cX4_least 45 = .ok (.aload_n 0, 1) := dqo_42 (kb_X4_least_0 45 rfl)
theorem dX4_least_46 : decode cX4_least 46 = .ok (.getfield 15, 3) := dqo_180 0 15 (kb_X4_least_0 46 rfl) (kb_X4_least_0 47 rfl) (kb_X4_least_0 48 rfl)
theorem dX4_least_49 : decode cX4_least 49 = .ok (.iload_n 1, 1) := dqo_27 (kb_X4_least_0 49 rfl)
theorem dX4_least_50 : decode cX4_least 50 = .ok (.aaload, 1) := dqo_50 (kb_X4_least_0 50 rfl)
theorem dX4_least_51 : decode cX4_least 51 = .ok (.astore 4, 2) := dqo_58 4 (kb_X4_least_0 51 rfl) (kb_X4_least_0 52 rfl)
theorem dX4_least_53 : decode cX4_least 53 = .ok (.aload 4, 2) := dqo_25 4 (kb_X4_least_0 53 rfl) (kb_X4_least_0 54 rfl)
theorem dX4_least_55 : decode cX4_least 55 = .ok (.arraylength, 1) := dqo_190 (kb_X4_least_0 55 rfl)
theorem dX4_least_56 : decode cX4_least 56 = .ok (.istore 5, 2) := dqo_54 5 (kb_X4_least_0 56 rfl) (kb_X4_least_0 57 rfl)
theorem dX4_least_58 : decode cX4_least 58 = .ok (.iconst 0, 1) := dqo_3 (kb_X4_least_0 58 rfl)
theorem dX4_least_59 : decode cX4_least 59 = .ok (.istore 6, 2) := dqo_54 6 (kb_X4_least_0 59 rfl) (kb_X4_least_0 60 rfl)
theorem dX4_least_61 : decode cX4_least 61 = .ok (.iload 6, 2) := dqo_21 6 (kb_X4_least_0 61 rfl) (kb_X4_least_0 62 rfl)
theorem dX4_least_63 : decode cX4_least 63 = .ok (.iload 5, 2) := dqo_21 5 (kb_X4_least_0 63 rfl) (kb_X4_least_1 0 rfl)
theorem dX4_least_65 : decode cX4_least 65 = .ok (.if_icmp .ge 36, 3) := dqo_162 0 36 (by decide) (kb_X4_least_1 1 rfl) (kb_X4_least_1 2 rfl) (kb_X4_least_1 3 rfl)
theorem dX4_least_68 : decode cX4_least 68 = .ok (.aload 4, 2) := dqo_25 4 (kb_X4_least_1 4 rfl) (kb_X4_least_1 5 rfl)
theorem dX4_least_70 : decode cX4_least 70 = .ok (.iload 6, 2) := dqo_21 6 (kb_X4_least_1 6 rfl) (kb_X4_least_1 7 rfl)
theorem dX4_least_72 : decode cX4_least 72 = .ok (.iaload, 1) := dqo_46 (kb_X4_least_1 8 rfl)
theorem dX4_least_73 : decode cX4_least 73 = .ok (.istore 7, 2) := dqo_54 7 (kb_X4_least_1 9 rfl) (kb_X4_least_1 10 rfl)
theorem dX4_least_75 : decode cX4_least 75 = .ok (.iload_n 2, 1) := dqo_28 (kb_X4_least_1 11 rfl)
theorem dX4_least_76 : decode cX4_least 76 = .ok (.ifCond .eq 12, 3) := dqo_153 0 12 (by decide) (kb_X4_least_1 12 rfl) (kb_X4_least_1 13 rfl) (kb_X4_least_1 14 rfl)
theorem dX4_least_79 : decode cX4_least 79 = .ok (.iload_n 3, 1) := dqo_29 (kb_X4_least_1 15 rfl)
theorem dX4_least_80 : decode cX4_least 80 = .ok (.iload 7, 2) := dqo_21 7 (kb_X4_least_1 16 rfl) (kb_X4_least_1 17 rfl)
theorem dX4_least_82 : decode cX4_least 82 = .ok (.invokestatic 140, 3) := dqo_184 0 140 (kb_X4_least_1 18 rfl) (kb_X4_least_1 19 rfl) (kb_X4_least_1 20 rfl)
theorem dX4_least_85 : decode cX4_least 85 = .ok (.goto 9, 3) := dqo_167 0 9 (by decide) (kb_X4_least_1 21 rfl) (kb_X4_least_1 22 rfl) (kb_X4_least_1 23 rfl)
theorem dX4_least_88 : decode cX4_least 88 = .ok (.iload_n 3, 1) := dqo_29 (kb_X4_least_1 24 rfl)
theorem dX4_least_89 : decode cX4_least 89 = .ok (.iload 7, 2) := dqo_21 7 (kb_X4_least_1 25 rfl) (kb_X4_least_1 26 rfl)
theorem dX4_least_91 : decode cX4_least 91 = .ok (.invokestatic 145, 3) := dqo_184 0 145 (kb_X4_least_1 27 rfl) (kb_X4_least_1 28 rfl) (kb_X4_least_1 29 rfl)
theorem dX4_least_94 : decode cX4_least 94 = .ok (.istore_n 3, 1) := dqo_62 (kb_X4_least_1 30 rfl)
theorem dX4_least_95 : decode cX4_least 95 = .ok (.iinc 6 1, 3) := dqo_132 6 1 (by decide) (kb_X4_least_1 31 rfl) (kb_X4_least_1 32 rfl) (kb_X4_least_1 33 rfl)
theorem dX4_least_98 : decode cX4_least 98 = .ok (.goto (-37), 3) := dqo_167 255 219 (by decide) (kb_X4_least_1 34 rfl) (kb_X4_least_1 35 rfl) (kb_X4_least_1 36 rfl)
theorem dX4_least_101 : decode cX4_least 101 = .ok (.iload_n 3, 1) := dqo_29 (kb_X4_least_1 37 rfl)
theorem dX4_least_102 : decode cX4_least 102 = .ok (.ireturn, 1) := dqo_172 (kb_X4_least_1 38 rfl)
set_option maxRecDepth 100000 in
set_option maxHeartbeats 4000000 in
theorem D_least_ok {l : Launch} {D : va_G} {cy : Nat → ClassId} {X : (Nat → Prop) → State → Heap → Prop} {ba ra : Nat → Nat} {hf : Nat → Nat → Nat} {hq : Nat → Nat → Int32} {kn th : Int32} {sm : Int64} {Y : va_W} {f : Nat → Nat → Nat} {r : Nat → Nat → Int32} {i : Nat} {b0 : Nat} (hX : EnvM X cy) (hC : CInv f) (hM : MR f r hf hq) (hi4 : i < 4) (hz : 0 < f 4 i) (hb : b0 ≤ 1) : Cd l D cy X yX4_least cX4_least 8 (some .int) (rmk 9 4 48 420) [.ref (ba 9), .int (nI i), .int (nI b0)] (WM cy ba ra hf hq kn th sm ++ Y) (some (.int (leF b0 (hq i) (hf 4 i) 0 (hq i 0)))) (WM cy ba ra hf hq kn (nI 0) sm ++ Y) := by
  have hG := hM.1
  have h5M := hM.h5M hC
  have h4M := hC.h4M
  have h9a := hM.h9a hC
  have h6a := hM.h6a
  have hU := hM.hU hC
  have qi := hC.rw hi4
  have pi := (hM.2.1 i hi4).1
  have ei : hf 4 (f 1 i) = hf 4 i := by rw [qi.2.1]
  have wi := hM.wh hC (w := i) (by omega) qi.2.2.2.2.2
  refine Cm.of [some (.ref (ba 9)), some (.int (nI i)), some (.int (nI b0)), none, none, none, none, none] pn_X4 rfl (Nat.le_of_ble_eq_true rfl) ?_
  intro p e s m args below meth c A C hE hr hnt hn
  refine r_aload_n C dX4_least_0 rfl ?_
  refine r_iload_n C dX4_least_1 rfl ?_
  refine d_S (st := [.ref (ba 9)]) hX.1.stb C hE (D_isNoRow0 (ba := ba) (ra := ra) (hf := hf) (hq := hq) (kn := kn) (th := th) (sm := sm) (Y := Y) (i := i) hX (by first | omega | (simp [up2, *]; done) | (simp [up2, *]; omega) | (simp only [up2_eq]; omega) | (split <;> omega))) pk_X4_isNoRow qm_X4_119 rfl rfl (Nat.le_of_ble_eq_true rfl) dX4_least_2 ⟨(Nat.le_of_ble_eq_true rfl), (Nat.le_of_ble_eq_true rfl)⟩ ⟨(Nat.le_of_ble_eq_true rfl), (Nat.le_of_ble_eq_true rfl)⟩ ?_
  refine r_w (w' := WM cy ba ra hf hq kn th sm ++ Y) rfl ?_
  refine r_iload_n C dX4_least_5 rfl ?_
  refine d_S (st := [.int (nI 0), .ref (ba 9)]) hX.1.stb C hE (D_isNoRow0 (ba := ba) (ra := ra) (hf := hf) (hq := hq) (kn := kn) (th := th) (sm := sm) (Y := Y) (i := i) hX (by first | omega | (simp [up2, *]; done) | (simp [up2, *]; omega) | (simp only [up2_eq]; omega) | (split <;> omega))) pk_X4_isNoRow qm_X4_119 rfl rfl (Nat.le_of_ble_eq_true rfl) dX4_least_6 ⟨(Nat.le_of_ble_eq_true rfl), (Nat.le_of_ble_eq_true rfl)⟩ ⟨(Nat.le_of_ble_eq_true rfl), (Nat.le_of_ble_eq_true rfl)⟩ ?_
  refine r_w (w' := WM cy ba ra hf hq kn th sm ++ Y) rfl ?_
  refine r_ifN_ne (a := 0) (tgt := 26) C (by first | omega | (simp [up2, *]; done) | (simp [up2, *]; omega) | (simp only [up2_eq]; omega) | (split <;> omega)) dX4_least_9 (by decide) (fun h9_1 => ?_) (fun h9_1 => ?_)
  · exact absurd h9_1 (by first | omega | (simp [up2, *]; done) | (simp [up2, *]; omega) | (simp only [up2_eq]; omega) | (split <;> omega))
  · skip
    refine r_aload_n C dX4_least_12 rfl ?_
    refine m_get (v := .ref (ba 0)) C 0 (by decide) qf_X4_15 rfl rfl dX4_least_13 ?_
    refine r_iload_n C dX4_least_16 rfl ?_
    refine m_rows (i := i) C (by first | omega | (simp [up2, *]; done) | (simp [up2, *]; omega) | (simp only [up2_eq]; omega) | (split <;> omega)) dX4_least_17 ?_
    refine m_rlen (i := i) (v := hf 4 i) C (by first | omega | (simp [up2, *]; done) | (simp [up2, *]; omega) | (simp only [up2_eq]; omega) | (split <;> omega)) rfl dX4_least_18 ?_
    refine r_ifN_ne (a := (hf 4 i)) (tgt := 26) C (by first | omega | (simp [up2, *]; done) | (simp [up2, *]; omega) | (simp only [up2_eq]; omega) | (split <;> omega)) dX4_least_19 (by decide) (fun h19_2 => ?_) (fun h19_2 => ?_)
    · skip
      refine r_iconst (v := (nI 0)) C dX4_least_26 (by decide) ?_
      refine r_iconst (v := (nI 0)) C dX4_least_27 (by decide) ?_
      refine d_V (st := []) hX.1.stb C hE (D_fails0 (ba := ba) (ra := ra) (hf := hf) (hq := hq) (kn := kn) (th := th) (sm := sm) (Y := Y)  hX ) pk_X4_fails qm_X4_84 0 8 rfl rfl wm_0 rfl rfl (Nat.le_of_ble_eq_true rfl) dX4_least_28 ⟨(Nat.le_of_ble_eq_true rfl), (Nat.le_of_ble_eq_true rfl)⟩ ⟨(Nat.le_of_ble_eq_true rfl), (Nat.le_of_ble_eq_true rfl)⟩ ?_
      refine r_w (w' := WM cy ba ra hf hq kn (nI 0) sm ++ Y) rfl ?_
      refine r_ifN_eq (a := 0) (tgt := 36) C (by first | omega | (simp [up2, *]; done) | (simp [up2, *]; omega) | (simp only [up2_eq]; omega) | (split <;> omega)) dX4_least_31 (by decide) (fun h31_3 => ?_) (fun h31_3 => ?_)
      · skip
        refine r_aload_n C dX4_least_36 rfl ?_
        refine m_get (v := .ref (ba 0)) C 0 (by decide) qf_X4_15 rfl rfl dX4_least_37 ?_
        refine r_iload_n C dX4_least_40 rfl ?_
        refine m_rows (i := i) C (by first | omega | (simp [up2, *]; done) | (simp [up2, *]; omega) | (simp only [up2_eq]; omega) | (split <;> omega)) dX4_least_41 ?_
        refine r_iconst (v := (nI 0)) C dX4_least_42 (by decide) ?_
        refine m_rld (i := i) (n := 0) C (by first | omega | (simp [up2, *]; done) | (simp [up2, *]; omega) | (simp only [up2_eq]; omega) | (split <;> omega)) (by first | omega | (simp [up2, *]; done) | (simp [up2, *]; omega) | (simp only [up2_eq]; omega) | (split <;> omega)) (by first | omega | (simp [up2, *]; done) | (simp [up2, *]; omega) | (simp only [up2_eq]; omega) | (split <;> omega)) dX4_least_43 ?_
        refine r_istore_n C dX4_least_44 (by decide) rfl ?_
        refine r_aload_n C dX4_least_45 rfl ?_
        refine m_get (v := .ref (ba 0)) C 0 (by decide) qf_X4_15 rfl rfl dX4_least_46 ?_
        refine r_iload_n C dX4_least_49 rfl ?_
        refine m_rows (i := i) C (by first | omega | (simp [up2, *]; done) | (simp [up2, *]; omega) | (simp only [up2_eq]; omega) | (split <;> omega)) dX4_least_50 ?_
        refine r_astore C dX4_least_51 (by decide) rfl ?_
        refine r_aload C dX4_least_53 rfl ?_
        refine m_rlen (i := i) (v := hf 4 i) C (by first | omega | (simp [up2, *]; done) | (simp [up2, *]; omega) | (simp only [up2_eq]; omega) | (split <;> omega)) rfl dX4_least_55 ?_
        refine r_istore C dX4_least_56 (by decide) rfl ?_
        refine r_iconst (v := (nI 0)) C dX4_least_58 (by decide) ?_
        refine r_istore C dX4_least_59 (by decide) rfl ?_
        have L61 : ∀ (d : Nat) (k : Nat) (z : Int32), (hk : k + d = hf 4 i) → (hF : leF b0 (hq i) d k z = leF b0 (hq i) (hf 4 i) 0 ((hq i) 0)) → vC p l e (rmk 9 4 48 420) s m args below meth c D A (vx_MQ below (vG (fun v1 w1 => v1 = (some (.int (leF b0 (hq i) (hf 4 i) 0 (hq i 0)))) ∧ w1 = WM cy ba ra hf hq kn (nI 0) sm ++ Y) D vwCl A) (vGX (fun _ => False) D vwCl (WM cy ba ra hf hq kn th sm ++ Y) A) args s (rmk 9 4 48 420).cells (rmk 9 4 48 420).slots A) 8 0 0 (WM cy ba ra hf hq kn (nI 0) sm ++ Y) [some (.ref (ba 9)), some (.int (nI i)), some (.int (nI b0)), some (.int z), some (.ref (ra i)), some (.int (nI (hf 4 i))), some (.int (nI k)), none] 61 [] := by
          intro d
          induction d with
          | zero =>
            intro k z hk hF
            refine r_iload C dX4_least_61 rfl ?_
            refine r_iload C dX4_least_63 rfl ?_
            refine r_icN_ge (a := k) (b := (hf 4 i)) (tgt := 101) C (by first | omega | (simp [up2, *]; done) | (simp [up2, *]; omega) | (simp only [up2_eq]; omega) | (split <;> omega)) (by first | omega | (simp [up2, *]; done) | (simp [up2, *]; omega) | (simp only [up2_eq]; omega) | (split <;> omega)) dX4_least_65 (by decide) (fun h65_4 => ?_) (fun h65_4 => ?_)
            · first
              | exfalso; first | omega | contradiction
              | skip
                refine r_iload_n C dX4_least_101 rfl ?_
                exact r_iret C hr dX4_least_102 ⟨by rw [← hF]; rfl, rfl⟩ (Nat.le_of_ble_eq_true rfl) (Nat.le_of_ble_eq_true rfl)
            · first
              | exfalso; first | omega | contradiction
              | skip
                refine r_aload C dX4_least_68 rfl ?_
                refine r_iload C dX4_least_70 rfl ?_
                refine m_rld (i := i) (n := k) C (by first | omega | (simp [up2, *]; done) | (simp [up2, *]; omega) | (simp only [up2_eq]; omega) | (split <;> omega)) (by first | omega | (simp [up2, *]; done) | (simp [up2, *]; omega) | (simp only [up2_eq]; omega) | (split <;> omega)) (by first | omega | (simp [up2, *]; done) | (simp [up2, *]; omega) | (simp only [up2_eq]; omega) | (split <;> omega)) dX4_least_72 ?_
                refine r_istore C dX4_least_73 (by decide) rfl ?_
                refine r_iload_n C dX4_least_75 rfl ?_
                refine r_ifN_eq (a := b0) (tgt := 88) C (by first | omega | (simp [up2, *]; done) | (simp [up2, *]; omega) | (simp only [up2_eq]; omega) | (split <;> omega)) dX4_least_76 (by decide) (fun h76_5 => ?_) (fun h76_5 => ?_)
                · first
                  | exfalso; first | omega | contradiction
                  | skip
                    refine r_iload_n C dX4_least_88 rfl ?_
                    refine r_iload C dX4_least_89 rfl ?_
                    refine d_S (st := []) hX.1.stb C hE (C_mmin (w := (WM cy ba ra hf hq kn (nI 0) sm ++ Y)) (x := (z)) (y := ((hq i k))) ) pk_J9_min_7cf53 qm_X4_145 rfl rfl (Nat.le_of_ble_eq_true rfl) dX4_least_91 ⟨(Nat.le_of_ble_eq_true rfl), (Nat.le_of_ble_eq_true rfl)⟩ ⟨(Nat.le_of_ble_eq_true rfl), (Nat.le_of_ble_eq_true rfl)⟩ ?_
                    refine r_istore_n C dX4_least_94 (by decide) rfl ?_
                    refine r_iincN C dX4_least_95 rfl (by decide) rfl ?_
                    refine r_goto (tgt := 61) C dX4_least_98 (by decide) ?_
                    refine r_drop 7 ?_
                    exact (Nat.not_lt_zero _ (by omega)).elim
                · first
                  | exfalso; first | omega | contradiction
                  | skip
                    refine r_iload_n C dX4_least_79 rfl ?_
                    refine r_iload C dX4_least_80 rfl ?_
                    refine d_S (st := []) hX.1.stb C hE (C_mmax (w := (WM cy ba ra hf hq kn (nI 0) sm ++ Y)) (x := (z)) (y := ((hq i k))) ) pk_J9_max_7cf53 qm_X4_140 rfl rfl (Nat.le_of_ble_eq_true rfl) dX4_least_82 ⟨(Nat.le_of_ble_eq_true rfl), (Nat.le_of_ble_eq_true rfl)⟩ ⟨(Nat.le_of_ble_eq_true rfl), (Nat.le_of_ble_eq_true rfl)⟩ ?_
                    refine r_goto (tgt := 94) C dX4_least_85 (by decide) ?_
                    refine r_istore_n C dX4_least_94 (by decide) rfl ?_
                    refine r_iincN C dX4_least_95 rfl (by decide) rfl ?_
                    refine r_goto (tgt := 61) C dX4_least_98 (by decide) ?_
                    refine r_drop 7 ?_
                    exact (Nat.not_lt_zero _ (by omega)).elim
          | succ d ih_L61 =>
            intro k z hk hF
            refine r_iload C dX4_least_61 rfl ?_
            refine r_iload C dX4_least_63 rfl ?_
            refine r_icN_ge (a := k) (b := (hf 4 i)) (tgt := 101) C (by first | omega | (simp [up2, *]; done) | (simp [up2, *]; omega) | (simp only [up2_eq]; omega) | (split <;> omega)) (by first | omega | (simp [up2, *]; done) | (simp [up2, *]; omega) | (simp only [up2_eq]; omega) | (split <;> omega)) dX4_least_65 (by decide) (fun h65_6 => ?_) (fun h65_6 => ?_)
            · first
              | exfalso; first | omega | contradiction
              | skip
                refine r_iload_n C dX4_least_101 rfl ?_
                exact r_iret C hr dX4_least_102 ⟨by rw [← hF]; rfl, rfl⟩ (Nat.le_of_ble_eq_true rfl) (Nat.le_of_ble_eq_true rfl)
            · first
              | exfalso; first | omega | contradiction
              | skip
                refine r_aload C dX4_least_68 rfl ?_
                refine r_iload C dX4_least_70 rfl ?_
                refine m_rld (i := i) (n := k) C (by first | omega | (simp [up2, *]; done) | (simp [up2, *]; omega) | (simp only [up2_eq]; omega) | (split <;> omega)) (by first | omega | (simp [up2, *]; done) | (simp [up2, *]; omega) | (simp only [up2_eq]; omega) | (split <;> omega)) (by first | omega | (simp [up2, *]; done) | (simp [up2, *]; omega) | (simp only [up2_eq]; omega) | (split <;> omega)) dX4_least_72 ?_
                refine r_istore C dX4_least_73 (by decide) rfl ?_
                refine r_iload_n C dX4_least_75 rfl ?_
                refine r_ifN_eq (a := b0) (tgt := 88) C (by first | omega | (simp [up2, *]; done) | (simp [up2, *]; omega) | (simp only [up2_eq]; omega) | (split <;> omega)) dX4_least_76 (by decide) (fun h76_7 => ?_) (fun h76_7 => ?_)
                · first
                  | exfalso; first | omega | contradiction
                  | skip
                    refine r_iload_n C dX4_least_88 rfl ?_
                    refine r_iload C dX4_least_89 rfl ?_
                    refine d_S (st := []) hX.1.stb C hE (C_mmin (w := (WM cy ba ra hf hq kn (nI 0) sm ++ Y)) (x := (z)) (y := ((hq i k))) ) pk_J9_min_7cf53 qm_X4_145 rfl rfl (Nat.le_of_ble_eq_true rfl) dX4_least_91 ⟨(Nat.le_of_ble_eq_true rfl), (Nat.le_of_ble_eq_true rfl)⟩ ⟨(Nat.le_of_ble_eq_true rfl), (Nat.le_of_ble_eq_true rfl)⟩ ?_
                    refine r_istore_n C dX4_least_94 (by decide) rfl ?_
                    refine r_iincN C dX4_least_95 rfl (by decide) rfl ?_
                    refine r_goto (tgt := 61) C dX4_least_98 (by decide) ?_
                    refine r_drop 7 ?_
                    exact ih_L61 (k + 1) _ (by first | omega | (simp [up2, *]; done) | (simp [up2, *]; omega) | (simp only [up2_eq]; omega) | (split <;> omega)) (by rw [← hF]; first | exact le_1 (by assumption) | (rw [show b0 = 0 from by assumption]; exact le_0))
                · first
                  | exfalso; first | omega | contradiction
                  | skip
                    refine r_iload_n C dX4_least_79 rfl ?_
                    refine r_iload C dX4_least_80 rfl ?_
                    refine d_S (st := []) hX.1.stb C hE (C_mmax (w := (WM cy ba ra hf hq kn (nI 0) sm ++ Y)) (x := (z)) (y := ((hq i k))) ) pk_J9_max_7cf53 qm_X4_140 rfl rfl (Nat.le_of_ble_eq_true rfl) dX4_least_82 ⟨(Nat.le_of_ble_eq_true rfl), (Nat.le_of_ble_eq_true rfl)⟩ ⟨(Nat.le_of_ble_eq_true rfl), (Nat.le_of_ble_eq_true rfl)⟩ ?_
                    refine r_goto (tgt := 94) C dX4_least_85 (by decide) ?_
                    refine r_istore_n C dX4_least_94 (by decide) rfl ?_
                    refine r_iincN C dX4_least_95 rfl (by decide) rfl ?_
                    refine r_goto (tgt := 61) C dX4_least_98 (by decide) ?_
                    refine r_drop 7 ?_
                    exact ih_L61 (k + 1) _ (by first | omega | (simp [up2, *]; done) | (simp [up2, *]; omega) | (simp only [up2_eq]; omega) | (split <;> omega)) (by rw [← hF]; first | exact le_1 (by assumption) | (rw [show b0 = 0 from by assumption]; exact le_0))
        exact L61 (hf 4 i) 0 _ (by first | omega | (simp [up2, *]; done) | (simp [up2, *]; omega) | (simp only [up2_eq]; omega) | (split <;> omega)) rfl
      · exact absurd h31_3 (by first | omega | (simp [up2, *]; done) | (simp [up2, *]; omega) | (simp only [up2_eq]; omega) | (split <;> omega))
    · exact absurd h19_2 (by first | omega | (simp [up2, *]; done) | (simp [up2, *]; omega) | (simp only [up2_eq]; omega) | (split <;> omega))
theorem dX4_areApart_0 : decode cX4_areApart 0 = .ok (.aload_n 0, 1) := dqo_42 (kb_X4_areApart_0 0 rfl)
theorem dX4_areApart_1 : decode cX4_areApart 1 = .ok (.iload_n 1, 1) := dqo_27 (kb_X4_areApart_0 1 rfl)
theorem dX4_areApart_2 : decode cX4_areApart 2 = .ok (.invokestatic 119, 3) := dqo_184 0 119 (kb_X4_areApart_0 2 rfl) (kb_X4_areApart_0 3 rfl) (kb_X4_areApart_0 4 rfl)
theorem dX4_areApart_5 : decode cX4_areApart 5 = .ok (.ifCond .ne 10, 3) := dqo_154 0 10 (by decide) (kb_X4_areApart_0 5 rfl) (kb_X4_areApart_0 6 rfl) (kb_X4_areApart_0 7 rfl)
theorem dX4_areApart_15 : decode cX4_areApart 15 = .ok (.iconst 1, 1) := dqo_4 (kb_X4_areApart_0 15 rfl)
theorem dX4_areApart_16 : decode cX4_areApart 16 = .ok (.goto 4, 3) := dqo_167 0 4 (by decide) (kb_X4_areApart_0 16 rfl) (kb_X4_areApart_0 17 rfl) (kb_X4_areApart_0 18 rfl)
theorem dX4_areApart_20 : decode cX4_areApart 20 = .ok (.iconst 0, 1) := dqo_3 (kb_X4_areApart_0 20 rfl)
theorem dX4_areApart_21 : decode cX4_areApart 21 = .ok (.iconst 0, 1) := dqo_3 (kb_X4_areApart_0 21 rfl)
theorem dX4_areApart_22 : decode cX4_areApart 22 = .ok (.invokevirtual 84, 3) := dqo_182 0 84 (kb_X4_areApart_0 22 rfl) (kb_X4_areApart_0 23 rfl) (kb_X4_areApart_0 24 rfl)
theorem dX4_areApart_25 : decode cX4_areApart 25 = .ok (.ifCond .eq 5, 3) := dqo_153 0 5 (by decide) (kb_X4_areApart_0 25 rfl) (kb_X4_areApart_0 26 rfl) (kb_X4_areApart_0 27 rfl)
theorem dX4_areApart_28 : decode cX4_areApart 28 = .ok (.iconst 0, 1) := dqo_3 (kb_X4_areApart_0 28 rfl)
theorem dX4_areApart_29 : decode cX4_areApart 29 = .ok (.ireturn, 1) := dqo_172 (kb_X4_areApart_0 29 rfl)
set_option maxRecDepth 100000 in
set_option maxHeartbeats 4000000 in
theorem D_areApart_noR {l : Launch} {D : va_G} {cy : Nat → ClassId} {X : (Nat → Prop) → State → Heap → Prop} {ba ra : Nat → Nat} {hf : Nat → Nat → Nat} {hq : Nat → Nat → Int32} {kn th : Int32} {sm : Int64} {Y : va_W} {f : Nat → Nat → Nat} {r : Nat → Nat → Int32} {x : Int32} {y0 : Int32} (hX : EnvM X cy) (hC : CInv f) (hM : MR f r hf hq) (hno : ¬ (0 ≤ x ∧ x < nI 4)) : Cd l D cy X yX4_areApart cX4_areApart 8 (some .boolean) (rmk 9 4 48 420) [.ref (ba 9), .int x, .int y0] (WM cy ba ra hf hq kn th sm ++ Y) (some (.int (nI 0))) (WM cy ba ra hf hq kn (nI 1) sm ++ Y) := by
  have hG := hM.1
  have h5M := hM.h5M hC
  have h4M := hC.h4M
  have h9a := hM.h9a hC
  have h6a := hM.h6a
  have hU := hM.hU hC
  refine Cm.of [some (.ref (ba 9)), some (.int x), some (.int y0), none, none, none, none, none] pn_X4 rfl (Nat.le_of_ble_eq_true rfl) ?_
  intro p e s m args below meth c A C hE hr hnt hn
  refine r_aload_n C dX4_areApart_0 rfl ?_
  refine r_iload_n C dX4_areApart_1 rfl ?_
  refine d_S (st := [.ref (ba 9)]) hX.1.stb C hE (D_isNoRow1 (ba := ba) (ra := ra) (hf := hf) (hq := hq) (kn := kn) (th := th) (sm := sm) (Y := Y) (x := (x)) hX hno) pk_X4_isNoRow qm_X4_119 rfl rfl (Nat.le_of_ble_eq_true rfl) dX4_areApart_2 ⟨(Nat.le_of_ble_eq_true rfl), (Nat.le_of_ble_eq_true rfl)⟩ ⟨(Nat.le_of_ble_eq_true rfl), (Nat.le_of_ble_eq_true rfl)⟩ ?_
  refine r_w (w' := WM cy ba ra hf hq kn th sm ++ Y) rfl ?_
  refine r_ifN_ne (a := 1) (tgt := 15) C (by first | omega | (simp [up2, *]; done) | (simp [up2, *]; omega) | (simp only [up2_eq]; omega) | (split <;> omega)) dX4_areApart_5 (by decide) (fun h5_1 => ?_) (fun h5_1 => ?_)
  · skip
    refine r_iconst (v := (nI 1)) C dX4_areApart_15 (by decide) ?_
    refine r_goto (tgt := 20) C dX4_areApart_16 (by decide) ?_
    refine r_iconst (v := (nI 0)) C dX4_areApart_20 (by decide) ?_
    refine r_iconst (v := (nI 0)) C dX4_areApart_21 (by decide) ?_
    refine d_V (st := []) hX.1.stb C hE (D_fails1 (ba := ba) (ra := ra) (hf := hf) (hq := hq) (kn := kn) (th := th) (sm := sm) (Y := Y) (b0 := 0) (d0 := 0) hX ) pk_X4_fails qm_X4_84 0 8 rfl rfl wm_0 rfl rfl (Nat.le_of_ble_eq_true rfl) dX4_areApart_22 ⟨(Nat.le_of_ble_eq_true rfl), (Nat.le_of_ble_eq_true rfl)⟩ ⟨(Nat.le_of_ble_eq_true rfl), (Nat.le_of_ble_eq_true rfl)⟩ ?_
    refine r_w (w' := WM cy ba ra hf hq kn (nI 1) sm ++ Y) rfl ?_
    refine r_ifN_eq (a := 1) (tgt := 30) C (by first | omega | (simp [up2, *]; done) | (simp [up2, *]; omega) | (simp only [up2_eq]; omega) | (split <;> omega)) dX4_areApart_25 (by decide) (fun h25_2 => ?_) (fun h25_2 => ?_)
    · exact absurd h25_2 (by first | omega | (simp [up2, *]; done) | (simp [up2, *]; omega) | (simp only [up2_eq]; omega) | (split <;> omega))
    · skip
      refine r_iconst (v := (nI 0)) C dX4_areApart_28 (by decide) ?_
      exact r_zret C hr (by first | omega | (simp [up2, *]; done) | (simp [up2, *]; omega) | (simp only [up2_eq]; omega) | (split <;> omega)) dX4_areApart_29 ⟨rfl, rfl⟩ (Nat.le_of_ble_eq_true rfl) (Nat.le_of_ble_eq_true rfl)
  · exact absurd h5_1 (by first | omega | (simp [up2, *]; done) | (simp [up2, *]; omega) | (simp only [up2_eq]; omega) | (split <;> omega))
theorem dX4_areApart_8 : decode cX4_areApart 8 = .ok (.iload_n 2, 1) := dqo_28 (kb_X4_areApart_0 8 rfl)
theorem dX4_areApart_9 : decode cX4_areApart 9 = .ok (.invokestatic 119, 3) := dqo_184 0 119 (kb_X4_areApart_0 9 rfl) (kb_X4_areApart_0 10 rfl) (kb_X4_areApart_0 11 rfl)
theorem dX4_areApart_12 : decode cX4_areApart 12 = .ok (.ifCond .eq 7, 3) := dqo_153 0 7 (by decide) (kb_X4_areApart_0 12 rfl) (kb_X4_areApart_0 13 rfl) (kb_X4_areApart_0 14 rfl)
set_option maxRecDepth 100000 in
set_option maxHeartbeats 4000000 in
theorem D_areApart_noR2 {l : Launch} {D : va_G} {cy : Nat → ClassId} {X : (Nat → Prop) → State → Heap → Prop} {ba ra : Nat → Nat} {hf : Nat → Nat → Nat} {hq : Nat → Nat → Int32} {kn th : Int32} {sm : Int64} {Y : va_W} {f : Nat → Nat → Nat} {r : Nat → Nat → Int32} {i : Nat} {x : Int32} (hX : EnvM X cy) (hC : CInv f) (hM : MR f r hf hq) (hi4 : i < 4) (hno : ¬ (0 ≤ x ∧ x < nI 4)) : Cd l D cy X yX4_areApart cX4_areApart 8 (some .boolean) (rmk 9 4 48 420) [.ref (ba 9), .int (nI i), .int x] (WM cy ba ra hf hq kn th sm ++ Y) (some (.int (nI 0))) (WM cy ba ra hf hq kn (nI 1) sm ++ Y) := by
  have hG := hM.1
  have h5M := hM.h5M hC
  have h4M := hC.h4M
  have h9a := hM.h9a hC
  have h6a := hM.h6a
  have hU := hM.hU hC
  have qi := hC.rw hi4
  have pi := (hM.2.1 i hi4).1
  have ei : hf 4 (f 1 i) = hf 4 i := by rw [qi.2.1]
  have wi := hM.wh hC (w := i) (by omega) qi.2.2.2.2.2
  refine Cm.of [some (.ref (ba 9)), some (.int (nI i)), some (.int x), none, none, none, none, none] pn_X4 rfl (Nat.le_of_ble_eq_true rfl) ?_
  intro p e s m args below meth c A C hE hr hnt hn
  refine r_aload_n C dX4_areApart_0 rfl ?_
  refine r_iload_n C dX4_areApart_1 rfl ?_
  refine d_S (st := [.ref (ba 9)]) hX.1.stb C hE (D_isNoRow0 (ba := ba) (ra := ra) (hf := hf) (hq := hq) (kn := kn) (th := th) (sm := sm) (Y := Y) (i := i) hX (by first | omega | (simp [up2, *]; done) | (simp [up2, *]; omega) | (simp only [up2_eq]; omega) | (split <;> omega))) pk_X4_isNoRow qm_X4_119 rfl rfl (Nat.le_of_ble_eq_true rfl) dX4_areApart_2 ⟨(Nat.le_of_ble_eq_true rfl), (Nat.le_of_ble_eq_true rfl)⟩ ⟨(Nat.le_of_ble_eq_true rfl), (Nat.le_of_ble_eq_true rfl)⟩ ?_
  refine r_w (w' := WM cy ba ra hf hq kn th sm ++ Y) rfl ?_
  refine r_ifN_ne (a := 0) (tgt := 15) C (by first | omega | (simp [up2, *]; done) | (simp [up2, *]; omega) | (simp only [up2_eq]; omega) | (split <;> omega)) dX4_areApart_5 (by decide) (fun h5_1 => ?_) (fun h5_1 => ?_)
  · exact absurd h5_1 (by first | omega | (simp [up2, *]; done) | (simp [up2, *]; omega) | (simp only [up2_eq]; omega) | (split <;> omega))
  · skip
    refine r_iload_n C dX4_areApart_8 rfl ?_
    refine d_S (st := [.ref (ba 9)]) hX.1.stb C hE (D_isNoRow1 (ba := ba) (ra := ra) (hf := hf) (hq := hq) (kn := kn) (th := th) (sm := sm) (Y := Y) (x := (x)) hX hno) pk_X4_isNoRow qm_X4_119 rfl rfl (Nat.le_of_ble_eq_true rfl) dX4_areApart_9 ⟨(Nat.le_of_ble_eq_true rfl), (Nat.le_of_ble_eq_true rfl)⟩ ⟨(Nat.le_of_ble_eq_true rfl), (Nat.le_of_ble_eq_true rfl)⟩ ?_
    refine r_w (w' := WM cy ba ra hf hq kn th sm ++ Y) rfl ?_
    refine r_ifN_eq (a := 1) (tgt := 19) C (by first | omega | (simp [up2, *]; done) | (simp [up2, *]; omega) | (simp only [up2_eq]; omega) | (split <;> omega)) dX4_areApart_12 (by decide) (fun h12_2 => ?_) (fun h12_2 => ?_)
    · exact absurd h12_2 (by first | omega | (simp [up2, *]; done) | (simp [up2, *]; omega) | (simp only [up2_eq]; omega) | (split <;> omega))
    · skip
      refine r_iconst (v := (nI 1)) C dX4_areApart_15 (by decide) ?_
      refine r_goto (tgt := 20) C dX4_areApart_16 (by decide) ?_
      refine r_iconst (v := (nI 0)) C dX4_areApart_20 (by decide) ?_
      refine r_iconst (v := (nI 0)) C dX4_areApart_21 (by decide) ?_
      refine d_V (st := []) hX.1.stb C hE (D_fails1 (ba := ba) (ra := ra) (hf := hf) (hq := hq) (kn := kn) (th := th) (sm := sm) (Y := Y) (b0 := 0) (d0 := 0) hX ) pk_X4_fails qm_X4_84 0 8 rfl rfl wm_0 rfl rfl (Nat.le_of_ble_eq_true rfl) dX4_areApart_22 ⟨(Nat.le_of_ble_eq_true rfl), (Nat.le_of_ble_eq_true rfl)⟩ ⟨(Nat.le_of_ble_eq_true rfl), (Nat.le_of_ble_eq_true rfl)⟩ ?_
      refine r_w (w' := WM cy ba ra hf hq kn (nI 1) sm ++ Y) rfl ?_
      refine r_ifN_eq (a := 1) (tgt := 30) C (by first | omega | (simp [up2, *]; done) | (simp [up2, *]; omega) | (simp only [up2_eq]; omega) | (split <;> omega)) dX4_areApart_25 (by decide) (fun h25_3 => ?_) (fun h25_3 => ?_)
      · exact absurd h25_3 (by first | omega | (simp [up2, *]; done) | (simp [up2, *]; omega) | (simp only [up2_eq]; omega) | (split <;> omega))
      · skip
        refine r_iconst (v := (nI 0)) C dX4_areApart_28 (by decide) ?_
        exact r_zret C hr (by first | omega | (simp [up2, *]; done) | (simp [up2, *]; omega) | (simp only [up2_eq]; omega) | (split <;> omega)) dX4_areApart_29 ⟨rfl, rfl⟩ (Nat.le_of_ble_eq_true rfl) (Nat.le_of_ble_eq_true rfl)
theorem dX4_areSame_0 : decode cX4_areSame 0 = .ok (.aload_n 0, 1) := dqo_42 (kb_of ke_X4_areSame 0 rfl)
theorem dX4_areSame_1 : decode cX4_areSame 1 = .ok (.iload_n 1, 1) := dqo_27 (kb_of ke_X4_areSame 1 rfl)
theorem dX4_areSame_2 : decode cX4_areSame 2 = .ok (.invokestatic 119, 3) := dqo_184 0 119 (kb_of ke_X4_areSame 2 rfl) (kb_of ke_X4_areSame 3 rfl) (kb_of ke_X4_areSame 4 rfl)
theorem dX4_areSame_5 : decode cX4_areSame 5 = .ok (.ifCond .ne 10, 3) := dqo_154 0 10 (by decide) (kb_of ke_X4_areSame 5 rfl) (kb_of ke_X4_areSame 6 rfl) (kb_of ke_X4_areSame 7 rfl)
theorem dX4_areSame_15 : decode cX4_areSame 15 = .ok (.iconst 1, 1) := dqo_4 (kb_of ke_X4_areSame 15 rfl)
theorem dX4_areSame_16 : decode cX4_areSame 16 = .ok (.goto 4, 3) := dqo_167 0 4 (by decide) (kb_of ke_X4_areSame 16 rfl) (kb_of ke_X4_areSame 17 rfl) (kb_of ke_X4_areSame 18 rfl)
theorem dX4_areSame_20 : decode cX4_areSame 20 = .ok (.iconst 0, 1) := dqo_3 (kb_of ke_X4_areSame 20 rfl)
theorem dX4_areSame_21 : decode cX4_areSame 21 = .ok (.iconst 0, 1) := dqo_3 (kb_of ke_X4_areSame 21 rfl)
theorem dX4_areSame_22 : decode cX4_areSame 22 = .ok (.invokevirtual 84, 3) := dqo_182 0 84 (kb_of ke_X4_areSame 22 rfl) (kb_of ke_X4_areSame 23 rfl) (kb_of ke_X4_areSame 24 rfl)
theorem dX4_areSame_25 : decode cX4_areSame 25 = .ok (.ifCond .ne 33, 3) := dqo_154 0 33 (by decide) (kb_of ke_X4_areSame 25 rfl) (kb_of ke_X4_areSame 26 rfl) (kb_of ke_X4_areSame 27 rfl)
theorem dX4_areSame_58 : decode cX4_areSame 58 = .ok (.iconst 0, 1) := dqo_3 (kb_of ke_X4_areSame 58 rfl)
theorem dX4_areSame_59 : decode cX4_areSame 59 = .ok (.ireturn, 1) := dqo_172 (kb_of ke_X4_areSame 59 rfl)
set_option maxRecDepth 100000 in
set_option maxHeartbeats 4000000 in
theorem D_areSame_noR {l : Launch} {D : va_G} {cy : Nat → ClassId} {X : (Nat → Prop) → State → Heap → Prop} {ba ra : Nat → Nat} {hf : Nat → Nat → Nat} {hq : Nat → Nat → Int32} {kn th : Int32} {sm : Int64} {Y : va_W} {f : Nat → Nat → Nat} {r : Nat → Nat → Int32} {x : Int32} {y0 : Int32} (hX : EnvM X cy) (hC : CInv f) (hM : MR f r hf hq) (hno : ¬ (0 ≤ x ∧ x < nI 4)) : Cd l D cy X yX4_areSame cX4_areSame 3 (some .boolean) (rmk 9 4 48 420) [.ref (ba 9), .int x, .int y0] (WM cy ba ra hf hq kn th sm ++ Y) (some (.int (nI 0))) (WM cy ba ra hf hq kn (nI 1) sm ++ Y) := by
  have hG := hM.1
  have h5M := hM.h5M hC
  have h4M := hC.h4M
  have h9a := hM.h9a hC
  have h6a := hM.h6a
  have hU := hM.hU hC
  refine Cm.of [some (.ref (ba 9)), some (.int x), some (.int y0)] pn_X4 rfl (Nat.le_of_ble_eq_true rfl) ?_
  intro p e s m args below meth c A C hE hr hnt hn
  refine r_aload_n C dX4_areSame_0 rfl ?_
  refine r_iload_n C dX4_areSame_1 rfl ?_
  refine d_S (st := [.ref (ba 9)]) hX.1.stb C hE (D_isNoRow1 (ba := ba) (ra := ra) (hf := hf) (hq := hq) (kn := kn) (th := th) (sm := sm) (Y := Y) (x := (x)) hX hno) pk_X4_isNoRow qm_X4_119 rfl rfl (Nat.le_of_ble_eq_true rfl) dX4_areSame_2 ⟨(Nat.le_of_ble_eq_true rfl), (Nat.le_of_ble_eq_true rfl)⟩ ⟨(Nat.le_of_ble_eq_true rfl), (Nat.le_of_ble_eq_true rfl)⟩ ?_
  refine r_w (w' := WM cy ba ra hf hq kn th sm ++ Y) rfl ?_
  refine r_ifN_ne (a := 1) (tgt := 15) C (by first | omega | (simp [up2, *]; done) | (simp [up2, *]; omega) | (simp only [up2_eq]; omega) | (split <;> omega)) dX4_areSame_5 (by decide) (fun h5_1 => ?_) (fun h5_1 => ?_)
  · skip
    refine r_iconst (v := (nI 1)) C dX4_areSame_15 (by decide) ?_
    refine r_goto (tgt := 20) C dX4_areSame_16 (by decide) ?_
    refine r_iconst (v := (nI 0)) C dX4_areSame_20 (by decide) ?_
    refine r_iconst (v := (nI 0)) C dX4_areSame_21 (by decide) ?_
    refine d_V (st := []) hX.1.stb C hE (D_fails1 (ba := ba) (ra := ra) (hf := hf) (hq := hq) (kn := kn) (th := th) (sm := sm) (Y := Y) (b0 := 0) (d0 := 0) hX ) pk_X4_fails qm_X4_84 0 8 rfl rfl wm_0 rfl rfl (Nat.le_of_ble_eq_true rfl) dX4_areSame_22 ⟨(Nat.le_of_ble_eq_true rfl), (Nat.le_of_ble_eq_true rfl)⟩ ⟨(Nat.le_of_ble_eq_true rfl), (Nat.le_of_ble_eq_true rfl)⟩ ?_
    refine r_w (w' := WM cy ba ra hf hq kn (nI 1) sm ++ Y) rfl ?_
    refine r_ifN_ne (a := 1) (tgt := 58) C (by first | omega | (simp [up2, *]; done) | (simp [up2, *]; omega) | (simp only [up2_eq]; omega) | (split <;> omega)) dX4_areSame_25 (by decide) (fun h25_2 => ?_) (fun h25_2 => ?_)
    · skip
      refine r_iconst (v := (nI 0)) C dX4_areSame_58 (by decide) ?_
      exact r_zret C hr (by first | omega | (simp [up2, *]; done) | (simp [up2, *]; omega) | (simp only [up2_eq]; omega) | (split <;> omega)) dX4_areSame_59 ⟨rfl, rfl⟩ (Nat.le_of_ble_eq_true rfl) (Nat.le_of_ble_eq_true rfl)
    · exact absurd h25_2 (by first | omega | (simp [up2, *]; done) | (simp [up2, *]; omega) | (simp only [up2_eq]; omega) | (split <;> omega))
  · exact absurd h5_1 (by first | omega | (simp [up2, *]; done) | (simp [up2, *]; omega) | (simp only [up2_eq]; omega) | (split <;> omega))
theorem dX4_areSame_8 : decode cX4_areSame 8 = .ok (.iload_n 2, 1) := dqo_28 (kb_of ke_X4_areSame 8 rfl)
theorem dX4_areSame_9 : decode cX4_areSame 9 = .ok (.invokestatic 119, 3) := dqo_184 0 119 (kb_of ke_X4_areSame 9 rfl) (kb_of ke_X4_areSame 10 rfl) (kb_of ke_X4_areSame 11 rfl)
theorem dX4_areSame_12 : decode cX4_areSame 12 = .ok (.ifCond .eq 7, 3) := dqo_153 0 7 (by decide) (kb_of ke_X4_areSame 12 rfl) (kb_of ke_X4_areSame 13 rfl) (kb_of ke_X4_areSame 14 rfl)
set_option maxRecDepth 100000 in
set_option maxHeartbeats 4000000 in
theorem D_areSame_noR2 {l : Launch} {D : va_G} {cy : Nat → ClassId} {X : (Nat → Prop) → State → Heap → Prop} {ba ra : Nat → Nat} {hf : Nat → Nat → Nat} {hq : Nat → Nat → Int32} {kn th : Int32} {sm : Int64} {Y : va_W} {f : Nat → Nat → Nat} {r : Nat → Nat → Int32} {i : Nat} {x : Int32} (hX : EnvM X cy) (hC : CInv f) (hM : MR f r hf hq) (hi4 : i < 4) (hno : ¬ (0 ≤ x ∧ x < nI 4)) : Cd l D cy X yX4_areSame cX4_areSame 3 (some .boolean) (rmk 9 4 48 420) [.ref (ba 9), .int (nI i), .int x] (WM cy ba ra hf hq kn th sm ++ Y) (some (.int (nI 0))) (WM cy ba ra hf hq kn (nI 1) sm ++ Y) := by
  have hG := hM.1
  have h5M := hM.h5M hC
  have h4M := hC.h4M
  have h9a := hM.h9a hC
  have h6a := hM.h6a
  have hU := hM.hU hC
  have qi := hC.rw hi4
  have pi := (hM.2.1 i hi4).1
  have ei : hf 4 (f 1 i) = hf 4 i := by rw [qi.2.1]
  have wi := hM.wh hC (w := i) (by omega) qi.2.2.2.2.2
  refine Cm.of [some (.ref (ba 9)), some (.int (nI i)), some (.int x)] pn_X4 rfl (Nat.le_of_ble_eq_true rfl) ?_
  intro p e s m args below meth c A C hE hr hnt hn
  refine r_aload_n C dX4_areSame_0 rfl ?_
  refine r_iload_n C dX4_areSame_1 rfl ?_
  refine d_S (st := [.ref (ba 9)]) hX.1.stb C hE (D_isNoRow0 (ba := ba) (ra := ra) (hf := hf) (hq := hq) (kn := kn) (th := th) (sm := sm) (Y := Y) (i := i) hX (by first | omega | (simp [up2, *]; done) | (simp [up2, *]; omega) | (simp only [up2_eq]; omega) | (split <;> omega))) pk_X4_isNoRow qm_X4_119 rfl rfl (Nat.le_of_ble_eq_true rfl) dX4_areSame_2 ⟨(Nat.le_of_ble_eq_true rfl), (Nat.le_of_ble_eq_true rfl)⟩ ⟨(Nat.le_of_ble_eq_true rfl), (Nat.le_of_ble_eq_true rfl)⟩ ?_
  refine r_w (w' := WM cy ba ra hf hq kn th sm ++ Y) rfl ?_
  refine r_ifN_ne (a := 0) (tgt := 15) C (by first | omega | (simp [up2, *]; done) | (simp [up2, *]; omega) | (simp only [up2_eq]; omega) | (split <;> omega)) dX4_areSame_5 (by decide) (fun h5_1 => ?_) (fun h5_1 => ?_)
  · exact absurd h5_1 (by first | omega | (simp [up2, *]; done) | (simp [up2, *]; omega) | (simp only [up2_eq]; omega) | (split <;> omega))
  · skip
    refine r_iload_n C dX4_areSame_8 rfl ?_
    refine d_S (st := [.ref (ba 9)]) hX.1.stb C hE (D_isNoRow1 (ba := ba) (ra := ra) (hf := hf) (hq := hq) (kn := kn) (th := th) (sm := sm) (Y := Y) (x := (x)) hX hno) pk_X4_isNoRow qm_X4_119 rfl rfl (Nat.le_of_ble_eq_true rfl) dX4_areSame_9 ⟨(Nat.le_of_ble_eq_true rfl), (Nat.le_of_ble_eq_true rfl)⟩ ⟨(Nat.le_of_ble_eq_true rfl), (Nat.le_of_ble_eq_true rfl)⟩ ?_
    refine r_w (w' := WM cy ba ra hf hq kn th sm ++ Y) rfl ?_
    refine r_ifN_eq (a := 1) (tgt := 19) C (by first | omega | (simp [up2, *]; done) | (simp [up2, *]; omega) | (simp only [up2_eq]; omega) | (split <;> omega)) dX4_areSame_12 (by decide) (fun h12_2 => ?_) (fun h12_2 => ?_)
    · exact absurd h12_2 (by first | omega | (simp [up2, *]; done) | (simp [up2, *]; omega) | (simp only [up2_eq]; omega) | (split <;> omega))
    · skip
      refine r_iconst (v := (nI 1)) C dX4_areSame_15 (by decide) ?_
      refine r_goto (tgt := 20) C dX4_areSame_16 (by decide) ?_
      refine r_iconst (v := (nI 0)) C dX4_areSame_20 (by decide) ?_
      refine r_iconst (v := (nI 0)) C dX4_areSame_21 (by decide) ?_
      refine d_V (st := []) hX.1.stb C hE (D_fails1 (ba := ba) (ra := ra) (hf := hf) (hq := hq) (kn := kn) (th := th) (sm := sm) (Y := Y) (b0 := 0) (d0 := 0) hX ) pk_X4_fails qm_X4_84 0 8 rfl rfl wm_0 rfl rfl (Nat.le_of_ble_eq_true rfl) dX4_areSame_22 ⟨(Nat.le_of_ble_eq_true rfl), (Nat.le_of_ble_eq_true rfl)⟩ ⟨(Nat.le_of_ble_eq_true rfl), (Nat.le_of_ble_eq_true rfl)⟩ ?_
      refine r_w (w' := WM cy ba ra hf hq kn (nI 1) sm ++ Y) rfl ?_
      refine r_ifN_ne (a := 1) (tgt := 58) C (by first | omega | (simp [up2, *]; done) | (simp [up2, *]; omega) | (simp only [up2_eq]; omega) | (split <;> omega)) dX4_areSame_25 (by decide) (fun h25_3 => ?_) (fun h25_3 => ?_)
      · skip
        refine r_iconst (v := (nI 0)) C dX4_areSame_58 (by decide) ?_
        exact r_zret C hr (by first | omega | (simp [up2, *]; done) | (simp [up2, *]; omega) | (simp only [up2_eq]; omega) | (split <;> omega)) dX4_areSame_59 ⟨rfl, rfl⟩ (Nat.le_of_ble_eq_true rfl) (Nat.le_of_ble_eq_true rfl)
      · exact absurd h25_3 (by first | omega | (simp [up2, *]; done) | (simp [up2, *]; omega) | (simp only [up2_eq]; omega) | (split <;> omega))
theorem dX4_areApart_19 : decode cX4_areApart 19 = .ok (.iconst 0, 1) := dqo_3 (kb_X4_areApart_0 19 rfl)
theorem dX4_areApart_30 : decode cX4_areApart 30 = .ok (.iconst 1, 1) := dqo_4 (kb_X4_areApart_0 30 rfl)
theorem dX4_areApart_31 : decode cX4_areApart 31 = .ok (.istore_n 3, 1) := dqo_62 (kb_X4_areApart_0 31 rfl)
theorem dX4_areApart_32 : decode cX4_areApart 32 = .ok (.aload_n 0, 1) := dqo_42 (kb_X4_areApart_0 32 rfl)
theorem dX4_areApart_33 : decode cX4_areApart 33 = .ok (.getfield 15, 3) := dqo_180 0 15 (kb_X4_areApart_0 33 rfl) (kb_X4_areApart_0 34 rfl) (kb_X4_areApart_0 35 rfl)
theorem dX4_areApart_36 : decode cX4_areApart 36 = .ok (.iload_n 1, 1) := dqo_27 (kb_X4_areApart_0 36 rfl)
theorem dX4_areApart_37 : decode cX4_areApart 37 = .ok (.aaload, 1) := dqo_50 (kb_X4_areApart_0 37 rfl)
theorem dX4_areApart_38 : decode cX4_areApart 38 = .ok (.astore 4, 2) := dqo_58 4 (kb_X4_areApart_0 38 rfl) (kb_X4_areApart_0 39 rfl)
theorem dX4_areApart_40 : decode cX4_areApart 40 = .ok (.aload 4, 2) := dqo_25 4 (kb_X4_areApart_0 40 rfl) (kb_X4_areApart_0 41 rfl)
theorem dX4_areApart_42 : decode cX4_areApart 42 = .ok (.arraylength, 1) := dqo_190 (kb_X4_areApart_0 42 rfl)
theorem dX4_areApart_43 : decode cX4_areApart 43 = .ok (.istore 5, 2) := dqo_54 5 (kb_X4_areApart_0 43 rfl) (kb_X4_areApart_0 44 rfl)
theorem dX4_areApart_45 : decode cX4_areApart 45 = .ok (.iconst 0, 1) := dqo_3 (kb_X4_areApart_0 45 rfl)
theorem dX4_areApart_46 : decode cX4_areApart 46 = .ok (.istore 6, 2) := dqo_54 6 (kb_X4_areApart_0 46 rfl) (kb_X4_areApart_0 47 rfl)
theorem dX4_areApart_48 : decode cX4_areApart 48 = .ok (.iload 6, 2) := dqo_21 6 (kb_X4_areApart_0 48 rfl) (kb_X4_areApart_0 49 rfl)
theorem dX4_areApart_50 : decode cX4_areApart 50 = .ok (.iload 5, 2) := dqo_21 5 (kb_X4_areApart_0 50 rfl) (kb_X4_areApart_0 51 rfl)
theorem dX4_areApart_52 : decode cX4_areApart 52 = .ok (.if_icmp .ge 36, 3) := dqo_162 0 36 (by decide) (kb_X4_areApart_0 52 rfl) (kb_X4_areApart_0 53 rfl) (kb_X4_areApart_0 54 rfl)
theorem dX4_areApart_55 : decode cX4_areApart 55 = .ok (.aload 4, 2) := dqo_25 4 (kb_X4_areApart_0 55 rfl) (kb_X4_areApart_0 56 rfl)
theorem dX4_areApart_57 : decode cX4_areApart 57 = .ok (.iload 6, 2) := dqo_21 6 (kb_X4_areApart_0 57 rfl) (kb_X4_areApart_0 58 rfl)
theorem dX4_areApart_59 : decode cX4_areApart 59 = .ok (.iaload, 1) := dqo_46 (kb_X4_areApart_0 59 rfl)
theorem dX4_areApart_60 : decode cX4_areApart 60 = .ok (.istore 7, 2) := dqo_54 7 (kb_X4_areApart_0 60 rfl) (kb_X4_areApart_0 61 rfl)
theorem dX4_areApart_62 : decode cX4_areApart 62 = .ok (.iload_n 3, 1) := dqo_29 (kb_X4_areApart_0 62 rfl)
theorem dX4_areApart_63 : decode cX4_areApart 63 = .ok (.aload_n 0, 1) := dqo_42 (kb_X4_areApart_0 63 rfl)
theorem dX4_areApart_64 : decode cX4_areApart 64 = .ok (.iload_n 2, 1) := dqo_28 (kb_X4_areApart_1 0 rfl)
theorem dX4_areApart_65 : decode cX4_areApart 65 = .ok (.iload 7, 2) := dqo_21 7 (kb_X4_areApart_1 1 rfl) (kb_X4_areApart_1 2 rfl)
theorem dX4_areApart_67 : decode cX4_areApart 67 = .ok (.iconst 0, 1) := dqo_3 (kb_X4_areApart_1 3 rfl)
theorem dX4_areApart_68 : decode cX4_areApart 68 = .ok (.invokevirtual 122, 3) := dqo_182 0 122 (kb_X4_areApart_1 4 rfl) (kb_X4_areApart_1 5 rfl) (kb_X4_areApart_1 6 rfl)
theorem dX4_areApart_71 : decode cX4_areApart 71 = .ok (.iconst (-1), 1) := dqo_2 (kb_X4_areApart_1 7 rfl)
theorem dX4_areApart_72 : decode cX4_areApart 72 = .ok (.if_icmp .ne 7, 3) := dqo_160 0 7 (by decide) (kb_X4_areApart_1 8 rfl) (kb_X4_areApart_1 9 rfl) (kb_X4_areApart_1 10 rfl)
theorem dX4_areApart_75 : decode cX4_areApart 75 = .ok (.iconst 1, 1) := dqo_4 (kb_X4_areApart_1 11 rfl)
theorem dX4_areApart_76 : decode cX4_areApart 76 = .ok (.goto 4, 3) := dqo_167 0 4 (by decide) (kb_X4_areApart_1 12 rfl) (kb_X4_areApart_1 13 rfl) (kb_X4_areApart_1 14 rfl)
theorem dX4_areApart_79 : decode cX4_areApart 79 = .ok (.iconst 0, 1) := dqo_3 (kb_X4_areApart_1 15 rfl)
theorem dX4_areApart_80 : decode cX4_areApart 80 = .ok (.iand, 1) := dqo_126 (kb_X4_areApart_1 16 rfl)
theorem dX4_areApart_81 : decode cX4_areApart 81 = .ok (.istore_n 3, 1) := dqo_62 (kb_X4_areApart_1 17 rfl)
theorem dX4_areApart_82 : decode cX4_areApart 82 = .ok (.iinc 6 1, 3) := dqo_132 6 1 (by decide) (kb_X4_areApart_1 18 rfl) (kb_X4_areApart_1 19 rfl) (kb_X4_areApart_1 20 rfl)
theorem dX4_areApart_85 : decode cX4_areApart 85 = .ok (.goto (-37), 3) := dqo_167 255 219 (by decide) (kb_X4_areApart_1 21 rfl) (kb_X4_areApart_1 22 rfl) (kb_X4_areApart_1 23 rfl)
theorem dX4_areApart_88 : decode cX4_areApart 88 = .ok (.iload_n 3, 1) := dqo_29 (kb_X4_areApart_1 24 rfl)
theorem dX4_areApart_89 : decode cX4_areApart 89 = .ok (.ireturn, 1) := dqo_172 (kb_X4_areApart_1 25 rfl)
set_option maxRecDepth 100000 in
set_option maxHeartbeats 4000000 in
theorem D_areApart_ok {l : Launch} {D : va_G} {cy : Nat → ClassId} {X : (Nat → Prop) → State → Heap → Prop} {ba ra : Nat → Nat} {hf : Nat → Nat → Nat} {hq : Nat → Nat → Int32} {kn th : Int32} {sm : Int64} {Y : va_W} {f : Nat → Nat → Nat} {r : Nat → Nat → Int32} {i : Nat} {j : Nat} (hX : EnvM X cy) (hC : CInv f) (hM : MR f r hf hq) (hi4 : i < 4) (hj4 : j < 4) : Cd l D cy X yX4_areApart cX4_areApart 8 (some .boolean) (rmk 9 4 48 420) [.ref (ba 9), .int (nI i), .int (nI j)] (WM cy ba ra hf hq kn th sm ++ Y) (some (.int (nI (apF (hqP hq (hf 4 j) j) (hq i) (hf 4 i) 0)))) (WM cy ba ra hf hq kn (nI 0) sm ++ Y) := by
  have hG := hM.1
  have h5M := hM.h5M hC
  have h4M := hC.h4M
  have h9a := hM.h9a hC
  have h6a := hM.h6a
  have hU := hM.hU hC
  have qi := hC.rw hi4
  have pi := (hM.2.1 i hi4).1
  have ei : hf 4 (f 1 i) = hf 4 i := by rw [qi.2.1]
  have wi := hM.wh hC (w := i) (by omega) qi.2.2.2.2.2
  have qj := hC.rw hj4
  have pj := (hM.2.1 j hj4).1
  have ej : hf 4 (f 1 j) = hf 4 j := by rw [qj.2.1]
  have wj := hM.wh hC (w := j) (by omega) qj.2.2.2.2.2
  refine Cm.of [some (.ref (ba 9)), some (.int (nI i)), some (.int (nI j)), none, none, none, none, none] pn_X4 rfl (Nat.le_of_ble_eq_true rfl) ?_
  intro p e s m args below meth c A C hE hr hnt hn
  refine r_aload_n C dX4_areApart_0 rfl ?_
  refine r_iload_n C dX4_areApart_1 rfl ?_
  refine d_S (st := [.ref (ba 9)]) hX.1.stb C hE (D_isNoRow0 (ba := ba) (ra := ra) (hf := hf) (hq := hq) (kn := kn) (th := th) (sm := sm) (Y := Y) (i := i) hX (by first | omega | (simp [up2, *]; done) | (simp [up2, *]; omega) | (simp only [up2_eq]; omega) | (split <;> omega))) pk_X4_isNoRow qm_X4_119 rfl rfl (Nat.le_of_ble_eq_true rfl) dX4_areApart_2 ⟨(Nat.le_of_ble_eq_true rfl), (Nat.le_of_ble_eq_true rfl)⟩ ⟨(Nat.le_of_ble_eq_true rfl), (Nat.le_of_ble_eq_true rfl)⟩ ?_
  refine r_w (w' := WM cy ba ra hf hq kn th sm ++ Y) rfl ?_
  refine r_ifN_ne (a := 0) (tgt := 15) C (by first | omega | (simp [up2, *]; done) | (simp [up2, *]; omega) | (simp only [up2_eq]; omega) | (split <;> omega)) dX4_areApart_5 (by decide) (fun h5_1 => ?_) (fun h5_1 => ?_)
  · exact absurd h5_1 (by first | omega | (simp [up2, *]; done) | (simp [up2, *]; omega) | (simp only [up2_eq]; omega) | (split <;> omega))
  · skip
    refine r_iload_n C dX4_areApart_8 rfl ?_
    refine d_S (st := [.ref (ba 9)]) hX.1.stb C hE (D_isNoRow0 (ba := ba) (ra := ra) (hf := hf) (hq := hq) (kn := kn) (th := th) (sm := sm) (Y := Y) (i := j) hX (by first | omega | (simp [up2, *]; done) | (simp [up2, *]; omega) | (simp only [up2_eq]; omega) | (split <;> omega))) pk_X4_isNoRow qm_X4_119 rfl rfl (Nat.le_of_ble_eq_true rfl) dX4_areApart_9 ⟨(Nat.le_of_ble_eq_true rfl), (Nat.le_of_ble_eq_true rfl)⟩ ⟨(Nat.le_of_ble_eq_true rfl), (Nat.le_of_ble_eq_true rfl)⟩ ?_
    refine r_w (w' := WM cy ba ra hf hq kn th sm ++ Y) rfl ?_
    refine r_ifN_eq (a := 0) (tgt := 19) C (by first | omega | (simp [up2, *]; done) | (simp [up2, *]; omega) | (simp only [up2_eq]; omega) | (split <;> omega)) dX4_areApart_12 (by decide) (fun h12_2 => ?_) (fun h12_2 => ?_)
    · skip
      refine r_iconst (v := (nI 0)) C dX4_areApart_19 (by decide) ?_
      refine r_iconst (v := (nI 0)) C dX4_areApart_20 (by decide) ?_
      refine r_iconst (v := (nI 0)) C dX4_areApart_21 (by decide) ?_
      refine d_V (st := []) hX.1.stb C hE (D_fails0 (ba := ba) (ra := ra) (hf := hf) (hq := hq) (kn := kn) (th := th) (sm := sm) (Y := Y)  hX ) pk_X4_fails qm_X4_84 0 8 rfl rfl wm_0 rfl rfl (Nat.le_of_ble_eq_true rfl) dX4_areApart_22 ⟨(Nat.le_of_ble_eq_true rfl), (Nat.le_of_ble_eq_true rfl)⟩ ⟨(Nat.le_of_ble_eq_true rfl), (Nat.le_of_ble_eq_true rfl)⟩ ?_
      refine r_w (w' := WM cy ba ra hf hq kn (nI 0) sm ++ Y) rfl ?_
      refine r_ifN_eq (a := 0) (tgt := 30) C (by first | omega | (simp [up2, *]; done) | (simp [up2, *]; omega) | (simp only [up2_eq]; omega) | (split <;> omega)) dX4_areApart_25 (by decide) (fun h25_3 => ?_) (fun h25_3 => ?_)
      · skip
        refine r_iconst (v := (nI 1)) C dX4_areApart_30 (by decide) ?_
        refine r_istore_n C dX4_areApart_31 (by decide) rfl ?_
        refine r_aload_n C dX4_areApart_32 rfl ?_
        refine m_get (v := .ref (ba 0)) C 0 (by decide) qf_X4_15 rfl rfl dX4_areApart_33 ?_
        refine r_iload_n C dX4_areApart_36 rfl ?_
        refine m_rows (i := i) C (by first | omega | (simp [up2, *]; done) | (simp [up2, *]; omega) | (simp only [up2_eq]; omega) | (split <;> omega)) dX4_areApart_37 ?_
        refine r_astore C dX4_areApart_38 (by decide) rfl ?_
        refine r_aload C dX4_areApart_40 rfl ?_
        refine m_rlen (i := i) (v := hf 4 i) C (by first | omega | (simp [up2, *]; done) | (simp [up2, *]; omega) | (simp only [up2_eq]; omega) | (split <;> omega)) rfl dX4_areApart_42 ?_
        refine r_istore C dX4_areApart_43 (by decide) rfl ?_
        refine r_iconst (v := (nI 0)) C dX4_areApart_45 (by decide) ?_
        refine r_istore C dX4_areApart_46 (by decide) rfl ?_
        have L48 : ∀ (d : Nat) (k : Nat) (z : Nat), (hk : k + d = hf 4 i) → (hz : z ≤ 1) → (hF : (if z = 0 then 0 else apF (hqP hq (hf 4 j) j) (hq i) d k) = apF (hqP hq (hf 4 j) j) (hq i) (hf 4 i) 0) → vC p l e (rmk 9 4 48 420) s m args below meth c D A (vx_MQ below (vG (fun v1 w1 => v1 = (some (.int (nI (apF (hqP hq (hf 4 j) j) (hq i) (hf 4 i) 0)))) ∧ w1 = WM cy ba ra hf hq kn (nI 0) sm ++ Y) D vwCl A) (vGX (fun _ => False) D vwCl (WM cy ba ra hf hq kn th sm ++ Y) A) args s (rmk 9 4 48 420).cells (rmk 9 4 48 420).slots A) 8 0 0 (WM cy ba ra hf hq kn (nI 0) sm ++ Y) [some (.ref (ba 9)), some (.int (nI i)), some (.int (nI j)), some (.int (nI z)), some (.ref (ra i)), some (.int (nI (hf 4 i))), some (.int (nI k)), none] 48 [] := by
          intro d
          induction d with
          | zero =>
            intro k z hk hz hF
            refine r_iload C dX4_areApart_48 rfl ?_
            refine r_iload C dX4_areApart_50 rfl ?_
            refine r_icN_ge (a := k) (b := (hf 4 i)) (tgt := 88) C (by first | omega | (simp [up2, *]; done) | (simp [up2, *]; omega) | (simp only [up2_eq]; omega) | (split <;> omega)) (by first | omega | (simp [up2, *]; done) | (simp [up2, *]; omega) | (simp only [up2_eq]; omega) | (split <;> omega)) dX4_areApart_52 (by decide) (fun h52_4 => ?_) (fun h52_4 => ?_)
            · first
              | exfalso; first | omega | contradiction
              | skip
                refine r_iload_n C dX4_areApart_88 rfl ?_
                exact r_zret C hr (by first | omega | (simp [up2, *]; done) | (simp [up2, *]; omega) | (simp only [up2_eq]; omega) | (split <;> omega)) dX4_areApart_89 ⟨congrArg (fun q => some (Value.int (nI q))) (by rw [← hF]; show z = if z = 0 then 0 else 1; split <;> omega), rfl⟩ (Nat.le_of_ble_eq_true rfl) (Nat.le_of_ble_eq_true rfl)
            · first
              | exfalso; first | omega | contradiction
              | skip
                refine r_aload C dX4_areApart_55 rfl ?_
                refine r_iload C dX4_areApart_57 rfl ?_
                refine m_rld (i := i) (n := k) C (by first | omega | (simp [up2, *]; done) | (simp [up2, *]; omega) | (simp only [up2_eq]; omega) | (split <;> omega)) (by first | omega | (simp [up2, *]; done) | (simp [up2, *]; omega) | (simp only [up2_eq]; omega) | (split <;> omega)) (by first | omega | (simp [up2, *]; done) | (simp [up2, *]; omega) | (simp only [up2_eq]; omega) | (split <;> omega)) dX4_areApart_59 ?_
                refine r_istore C dX4_areApart_60 (by decide) rfl ?_
                refine r_iload_n C dX4_areApart_62 rfl ?_
                refine r_aload_n C dX4_areApart_63 rfl ?_
                refine r_iload_n C dX4_areApart_64 rfl ?_
                refine r_iload C dX4_areApart_65 rfl ?_
                refine r_iconst (v := (nI 0)) C dX4_areApart_67 (by decide) ?_
                refine d_V (st := [.int (nI z)]) hX.1.stb C hE (D_find0 (ba := ba) (ra := ra) (hf := hf) (hq := hq) (kn := kn) (th := (nI 0)) (sm := sm) (Y := Y) (i := j) (y := ((hq i k))) hX (by first | omega | (simp [up2, *]; done) | (simp [up2, *]; omega) | (simp only [up2_eq]; omega) | (split <;> omega)) (by first | omega | (simp [up2, *]; done) | (simp [up2, *]; omega) | (simp only [up2_eq]; omega) | (split <;> omega))) pk_X4_find qm_X4_122 0 8 rfl rfl wm_0 rfl rfl (Nat.le_of_ble_eq_true rfl) dX4_areApart_68 ⟨(Nat.le_of_ble_eq_true rfl), (Nat.le_of_ble_eq_true rfl)⟩ ⟨(Nat.le_of_ble_eq_true rfl), (Nat.le_of_ble_eq_true rfl)⟩ ?_
                refine r_w (w' := WM cy ba ra hf hq kn (nI 0) sm ++ Y) rfl ?_
                refine r_iconst (v := (nI 4294967295)) C dX4_areApart_71 (by decide) ?_
                refine r_icN_ne (a := (fpF (hq j) ((hq i k)) (hf 4 j) 0)) (b := 4294967295) (tgt := 79) C (fpF_b (by omega)) (by first | omega | (simp [up2, *]; done) | (simp [up2, *]; omega) | (simp only [up2_eq]; omega) | (split <;> omega)) dX4_areApart_72 (by decide) (fun h72_5 => ?_) (fun h72_5 => ?_)
                · first
                  | exfalso; first | omega | contradiction
                  | skip
                    refine r_iconst (v := (nI 0)) C dX4_areApart_79 (by decide) ?_
                    refine r_iandB (a := z) (b := 0) (v := 0) C (by first | omega | (simp [up2, *]; done) | (simp [up2, *]; omega) | (simp only [up2_eq]; omega) | (split <;> omega)) (by first | omega | (simp [up2, *]; done) | (simp [up2, *]; omega) | (simp only [up2_eq]; omega) | (split <;> omega)) rfl dX4_areApart_80 ?_
                    refine r_istore_n C dX4_areApart_81 (by decide) rfl ?_
                    refine r_iincN C dX4_areApart_82 rfl (by decide) rfl ?_
                    refine r_goto (tgt := 48) C dX4_areApart_85 (by decide) ?_
                    refine r_drop 7 ?_
                    exact (Nat.not_lt_zero _ (by omega)).elim
                · first
                  | exfalso; first | omega | contradiction
                  | skip
                    refine r_iconst (v := (nI 1)) C dX4_areApart_75 (by decide) ?_
                    refine r_goto (tgt := 80) C dX4_areApart_76 (by decide) ?_
                    refine r_iandB (a := z) (b := 1) (v := z) C (by first | omega | (simp [up2, *]; done) | (simp [up2, *]; omega) | (simp only [up2_eq]; omega) | (split <;> omega)) (by first | omega | (simp [up2, *]; done) | (simp [up2, *]; omega) | (simp only [up2_eq]; omega) | (split <;> omega)) rfl dX4_areApart_80 ?_
                    refine r_istore_n C dX4_areApart_81 (by decide) rfl ?_
                    refine r_iincN C dX4_areApart_82 rfl (by decide) rfl ?_
                    refine r_goto (tgt := 48) C dX4_areApart_85 (by decide) ?_
                    refine r_drop 7 ?_
                    exact (Nat.not_lt_zero _ (by omega)).elim
          | succ d ih_L48 =>
            intro k z hk hz hF
            refine r_iload C dX4_areApart_48 rfl ?_
            refine r_iload C dX4_areApart_50 rfl ?_
            refine r_icN_ge (a := k) (b := (hf 4 i)) (tgt := 88) C (by first | omega | (simp [up2, *]; done) | (simp [up2, *]; omega) | (simp only [up2_eq]; omega) | (split <;> omega)) (by first | omega | (simp [up2, *]; done) | (simp [up2, *]; omega) | (simp only [up2_eq]; omega) | (split <;> omega)) dX4_areApart_52 (by decide) (fun h52_6 => ?_) (fun h52_6 => ?_)
            · first
              | exfalso; first | omega | contradiction
              | skip
                refine r_iload_n C dX4_areApart_88 rfl ?_
                exact r_zret C hr (by first | omega | (simp [up2, *]; done) | (simp [up2, *]; omega) | (simp only [up2_eq]; omega) | (split <;> omega)) dX4_areApart_89 ⟨congrArg (fun q => some (Value.int (nI q))) (by rw [← hF]; show z = if z = 0 then 0 else 1; split <;> omega), rfl⟩ (Nat.le_of_ble_eq_true rfl) (Nat.le_of_ble_eq_true rfl)
            · first
              | exfalso; first | omega | contradiction
              | skip
                refine r_aload C dX4_areApart_55 rfl ?_
                refine r_iload C dX4_areApart_57 rfl ?_
                refine m_rld (i := i) (n := k) C (by first | omega | (simp [up2, *]; done) | (simp [up2, *]; omega) | (simp only [up2_eq]; omega) | (split <;> omega)) (by first | omega | (simp [up2, *]; done) | (simp [up2, *]; omega) | (simp only [up2_eq]; omega) | (split <;> omega)) (by first | omega | (simp [up2, *]; done) | (simp [up2, *]; omega) | (simp only [up2_eq]; omega) | (split <;> omega)) dX4_areApart_59 ?_
                refine r_istore C dX4_areApart_60 (by decide) rfl ?_
                refine r_iload_n C dX4_areApart_62 rfl ?_
                refine r_aload_n C dX4_areApart_63 rfl ?_
                refine r_iload_n C dX4_areApart_64 rfl ?_
                refine r_iload C dX4_areApart_65 rfl ?_
                refine r_iconst (v := (nI 0)) C dX4_areApart_67 (by decide) ?_
                refine d_V (st := [.int (nI z)]) hX.1.stb C hE (D_find0 (ba := ba) (ra := ra) (hf := hf) (hq := hq) (kn := kn) (th := (nI 0)) (sm := sm) (Y := Y) (i := j) (y := ((hq i k))) hX (by first | omega | (simp [up2, *]; done) | (simp [up2, *]; omega) | (simp only [up2_eq]; omega) | (split <;> omega)) (by first | omega | (simp [up2, *]; done) | (simp [up2, *]; omega) | (simp only [up2_eq]; omega) | (split <;> omega))) pk_X4_find qm_X4_122 0 8 rfl rfl wm_0 rfl rfl (Nat.le_of_ble_eq_true rfl) dX4_areApart_68 ⟨(Nat.le_of_ble_eq_true rfl), (Nat.le_of_ble_eq_true rfl)⟩ ⟨(Nat.le_of_ble_eq_true rfl), (Nat.le_of_ble_eq_true rfl)⟩ ?_
                refine r_w (w' := WM cy ba ra hf hq kn (nI 0) sm ++ Y) rfl ?_
                refine r_iconst (v := (nI 4294967295)) C dX4_areApart_71 (by decide) ?_
                refine r_icN_ne (a := (fpF (hq j) ((hq i k)) (hf 4 j) 0)) (b := 4294967295) (tgt := 79) C (fpF_b (by omega)) (by first | omega | (simp [up2, *]; done) | (simp [up2, *]; omega) | (simp only [up2_eq]; omega) | (split <;> omega)) dX4_areApart_72 (by decide) (fun h72_7 => ?_) (fun h72_7 => ?_)
                · first
                  | exfalso; first | omega | contradiction
                  | skip
                    refine r_iconst (v := (nI 0)) C dX4_areApart_79 (by decide) ?_
                    refine r_iandB (a := z) (b := 0) (v := 0) C (by first | omega | (simp [up2, *]; done) | (simp [up2, *]; omega) | (simp only [up2_eq]; omega) | (split <;> omega)) (by first | omega | (simp [up2, *]; done) | (simp [up2, *]; omega) | (simp only [up2_eq]; omega) | (split <;> omega)) rfl dX4_areApart_80 ?_
                    refine r_istore_n C dX4_areApart_81 (by decide) rfl ?_
                    refine r_iincN C dX4_areApart_82 rfl (by decide) rfl ?_
                    refine r_goto (tgt := 48) C dX4_areApart_85 (by decide) ?_
                    refine r_drop 7 ?_
                    exact ih_L48 (k + 1) 0 (by first | omega | (simp [up2, *]; done) | (simp [up2, *]; omega) | (simp only [up2_eq]; omega) | (split <;> omega)) (by omega) (by rw [← hF]; exact ap_no (by unfold hqP; rw [if_neg (by assumption)]; decide))
                · first
                  | exfalso; first | omega | contradiction
                  | skip
                    refine r_iconst (v := (nI 1)) C dX4_areApart_75 (by decide) ?_
                    refine r_goto (tgt := 80) C dX4_areApart_76 (by decide) ?_
                    refine r_iandB (a := z) (b := 1) (v := z) C (by first | omega | (simp [up2, *]; done) | (simp [up2, *]; omega) | (simp only [up2_eq]; omega) | (split <;> omega)) (by first | omega | (simp [up2, *]; done) | (simp [up2, *]; omega) | (simp only [up2_eq]; omega) | (split <;> omega)) rfl dX4_areApart_80 ?_
                    refine r_istore_n C dX4_areApart_81 (by decide) rfl ?_
                    refine r_iincN C dX4_areApart_82 rfl (by decide) rfl ?_
                    refine r_goto (tgt := 48) C dX4_areApart_85 (by decide) ?_
                    refine r_drop 7 ?_
                    exact ih_L48 (k + 1) z (by first | omega | (simp [up2, *]; done) | (simp [up2, *]; omega) | (simp only [up2_eq]; omega) | (split <;> omega)) (by omega) (by rw [← hF]; exact ap_yes (by unfold hqP; rw [if_pos (by assumption)]))
        exact L48 (hf 4 i) 0 1 (by first | omega | (simp [up2, *]; done) | (simp [up2, *]; omega) | (simp only [up2_eq]; omega) | (split <;> omega)) (by omega) rfl
      · exact absurd h25_3 (by first | omega | (simp [up2, *]; done) | (simp [up2, *]; omega) | (simp only [up2_eq]; omega) | (split <;> omega))
    · exact absurd h12_2 (by first | omega | (simp [up2, *]; done) | (simp [up2, *]; omega) | (simp only [up2_eq]; omega) | (split <;> omega))
theorem dX4_areSame_19 : decode cX4_areSame 19 = .ok (.iconst 0, 1) := dqo_3 (kb_of ke_X4_areSame 19 rfl)
theorem dX4_areSame_28 : decode cX4_areSame 28 = .ok (.aload_n 0, 1) := dqo_42 (kb_of ke_X4_areSame 28 rfl)
theorem dX4_areSame_29 : decode cX4_areSame 29 = .ok (.getfield 15, 3) := dqo_180 0 15 (kb_of ke_X4_areSame 29 rfl) (kb_of ke_X4_areSame 30 rfl) (kb_of ke_X4_areSame 31 rfl)
theorem dX4_areSame_32 : decode cX4_areSame 32 = .ok (.iload_n 1, 1) := dqo_27 (kb_of ke_X4_areSame 32 rfl)
theorem dX4_areSame_33 : decode cX4_areSame 33 = .ok (.aaload, 1) := dqo_50 (kb_of ke_X4_areSame 33 rfl)
theorem dX4_areSame_34 : decode cX4_areSame 34 = .ok (.arraylength, 1) := dqo_190 (kb_of ke_X4_areSame 34 rfl)
theorem dX4_areSame_35 : decode cX4_areSame 35 = .ok (.aload_n 0, 1) := dqo_42 (kb_of ke_X4_areSame 35 rfl)
theorem dX4_areSame_36 : decode cX4_areSame 36 = .ok (.getfield 15, 3) := dqo_180 0 15 (kb_of ke_X4_areSame 36 rfl) (kb_of ke_X4_areSame 37 rfl) (kb_of ke_X4_areSame 38 rfl)
theorem dX4_areSame_39 : decode cX4_areSame 39 = .ok (.iload_n 2, 1) := dqo_28 (kb_of ke_X4_areSame 39 rfl)
theorem dX4_areSame_40 : decode cX4_areSame 40 = .ok (.aaload, 1) := dqo_50 (kb_of ke_X4_areSame 40 rfl)
theorem dX4_areSame_41 : decode cX4_areSame 41 = .ok (.arraylength, 1) := dqo_190 (kb_of ke_X4_areSame 41 rfl)
theorem dX4_areSame_42 : decode cX4_areSame 42 = .ok (.if_icmp .ne 16, 3) := dqo_160 0 16 (by decide) (kb_of ke_X4_areSame 42 rfl) (kb_of ke_X4_areSame 43 rfl) (kb_of ke_X4_areSame 44 rfl)
theorem dX4_areSame_45 : decode cX4_areSame 45 = .ok (.aload_n 0, 1) := dqo_42 (kb_of ke_X4_areSame 45 rfl)
theorem dX4_areSame_46 : decode cX4_areSame 46 = .ok (.iload_n 1, 1) := dqo_27 (kb_of ke_X4_areSame 46 rfl)
theorem dX4_areSame_47 : decode cX4_areSame 47 = .ok (.iload_n 2, 1) := dqo_28 (kb_of ke_X4_areSame 47 rfl)
theorem dX4_areSame_48 : decode cX4_areSame 48 = .ok (.invokevirtual 116, 3) := dqo_182 0 116 (kb_of ke_X4_areSame 48 rfl) (kb_of ke_X4_areSame 49 rfl) (kb_of ke_X4_areSame 50 rfl)
theorem dX4_areSame_51 : decode cX4_areSame 51 = .ok (.ifCond .ne 7, 3) := dqo_154 0 7 (by decide) (kb_of ke_X4_areSame 51 rfl) (kb_of ke_X4_areSame 52 rfl) (kb_of ke_X4_areSame 53 rfl)
theorem dX4_areSame_54 : decode cX4_areSame 54 = .ok (.iconst 1, 1) := dqo_4 (kb_of ke_X4_areSame 54 rfl)
theorem dX4_areSame_55 : decode cX4_areSame 55 = .ok (.goto 4, 3) := dqo_167 0 4 (by decide) (kb_of ke_X4_areSame 55 rfl) (kb_of ke_X4_areSame 56 rfl) (kb_of ke_X4_areSame 57 rfl)
set_option maxRecDepth 100000 in
set_option maxHeartbeats 4000000 in
theorem D_areSame_ok {l : Launch} {D : va_G} {cy : Nat → ClassId} {X : (Nat → Prop) → State → Heap → Prop} {ba ra : Nat → Nat} {hf : Nat → Nat → Nat} {hq : Nat → Nat → Int32} {kn th : Int32} {sm : Int64} {Y : va_W} {f : Nat → Nat → Nat} {r : Nat → Nat → Int32} {i : Nat} {j : Nat} (hX : EnvM X cy) (hC : CInv f) (hM : MR f r hf hq) (hi4 : i < 4) (hj4 : j < 4) : Cd l D cy X yX4_areSame cX4_areSame 3 (some .boolean) (rmk 9 4 48 420) [.ref (ba 9), .int (nI i), .int (nI j)] (WM cy ba ra hf hq kn th sm ++ Y) (some (.int (nI (if hf 4 i = hf 4 j ∧ poF (fun k => stF (fun q => (cutF (fun z => hq (f 1 i) (f 3 i + z)) (hf 4 i)) (k + q)) (cutF (fun z => hq (f 1 j) (f 3 j + z)) (hf 4 j)) (hf 4 j) 0) (hf 4 i + 1 - hf 4 j) 0 = 0 then 1 else 0)))) (WM cy ba ra hf hq kn (nI 0) sm ++ Y) := by
  have hG := hM.1
  have h5M := hM.h5M hC
  have h4M := hC.h4M
  have h9a := hM.h9a hC
  have h6a := hM.h6a
  have hU := hM.hU hC
  have qi := hC.rw hi4
  have pi := (hM.2.1 i hi4).1
  have ei : hf 4 (f 1 i) = hf 4 i := by rw [qi.2.1]
  have wi := hM.wh hC (w := i) (by omega) qi.2.2.2.2.2
  have qj := hC.rw hj4
  have pj := (hM.2.1 j hj4).1
  have ej : hf 4 (f 1 j) = hf 4 j := by rw [qj.2.1]
  have wj := hM.wh hC (w := j) (by omega) qj.2.2.2.2.2
  refine Cm.of [some (.ref (ba 9)), some (.int (nI i)), some (.int (nI j))] pn_X4 rfl (Nat.le_of_ble_eq_true rfl) ?_
  intro p e s m args below meth c A C hE hr hnt hn
  refine r_aload_n C dX4_areSame_0 rfl ?_
  refine r_iload_n C dX4_areSame_1 rfl ?_
  refine d_S (st := [.ref (ba 9)]) hX.1.stb C hE (D_isNoRow0 (ba := ba) (ra := ra) (hf := hf) (hq := hq) (kn := kn) (th := th) (sm := sm) (Y := Y) (i := i) hX (by first | omega | (simp [up2, *]; done) | (simp [up2, *]; omega) | (simp only [up2_eq]; omega) | (split <;> omega))) pk_X4_isNoRow qm_X4_119 rfl rfl (Nat.le_of_ble_eq_true rfl) dX4_areSame_2 ⟨(Nat.le_of_ble_eq_true rfl), (Nat.le_of_ble_eq_true rfl)⟩ ⟨(Nat.le_of_ble_eq_true rfl), (Nat.le_of_ble_eq_true rfl)⟩ ?_
  refine r_w (w' := WM cy ba ra hf hq kn th sm ++ Y) rfl ?_
  refine r_ifN_ne (a := 0) (tgt := 15) C (by first | omega | (simp [up2, *]; done) | (simp [up2, *]; omega) | (simp only [up2_eq]; omega) | (split <;> omega)) dX4_areSame_5 (by decide) (fun h5_1 => ?_) (fun h5_1 => ?_)
  · exact absurd h5_1 (by first | omega | (simp [up2, *]; done) | (simp [up2, *]; omega) | (simp only [up2_eq]; omega) | (split <;> omega))
  · skip
    refine r_iload_n C dX4_areSame_8 rfl ?_
    refine d_S (st := [.ref (ba 9)]) hX.1.stb C hE (D_isNoRow0 (ba := ba) (ra := ra) (hf := hf) (hq := hq) (kn := kn) (th := th) (sm := sm) (Y := Y) (i := j) hX (by first | omega | (simp [up2, *]; done) | (simp [up2, *]; omega) | (simp only [up2_eq]; omega) | (split <;> omega))) pk_X4_isNoRow qm_X4_119 rfl rfl (Nat.le_of_ble_eq_true rfl) dX4_areSame_9 ⟨(Nat.le_of_ble_eq_true rfl), (Nat.le_of_ble_eq_true rfl)⟩ ⟨(Nat.le_of_ble_eq_true rfl), (Nat.le_of_ble_eq_true rfl)⟩ ?_
    refine r_w (w' := WM cy ba ra hf hq kn th sm ++ Y) rfl ?_
    refine r_ifN_eq (a := 0) (tgt := 19) C (by first | omega | (simp [up2, *]; done) | (simp [up2, *]; omega) | (simp only [up2_eq]; omega) | (split <;> omega)) dX4_areSame_12 (by decide) (fun h12_2 => ?_) (fun h12_2 => ?_)
    · skip
      refine r_iconst (v := (nI 0)) C dX4_areSame_19 (by decide) ?_
      refine r_iconst (v := (nI 0)) C dX4_areSame_20 (by decide) ?_
      refine r_iconst (v := (nI 0)) C dX4_areSame_21 (by decide) ?_
      refine d_V (st := []) hX.1.stb C hE (D_fails0 (ba := ba) (ra := ra) (hf := hf) (hq := hq) (kn := kn) (th := th) (sm := sm) (Y := Y)  hX ) pk_X4_fails qm_X4_84 0 8 rfl rfl wm_0 rfl rfl (Nat.le_of_ble_eq_true rfl) dX4_areSame_22 ⟨(Nat.le_of_ble_eq_true rfl), (Nat.le_of_ble_eq_true rfl)⟩ ⟨(Nat.le_of_ble_eq_true rfl), (Nat.le_of_ble_eq_true rfl)⟩ ?_
      refine r_w (w' := WM cy ba ra hf hq kn (nI 0) sm ++ Y) rfl ?_
      refine r_ifN_ne (a := 0) (tgt := 58) C (by first | omega | (simp [up2, *]; done) | (simp [up2, *]; omega) | (simp only [up2_eq]; omega) | (split <;> omega)) dX4_areSame_25 (by decide) (fun h25_3 => ?_) (fun h25_3 => ?_)
      · exact absurd h25_3 (by first | omega | (simp [up2, *]; done) | (simp [up2, *]; omega) | (simp only [up2_eq]; omega) | (split <;> omega))
      · skip
        refine r_aload_n C dX4_areSame_28 rfl ?_
        refine m_get (v := .ref (ba 0)) C 0 (by decide) qf_X4_15 rfl rfl dX4_areSame_29 ?_
        refine r_iload_n C dX4_areSame_32 rfl ?_
        refine m_rows (i := i) C (by first | omega | (simp [up2, *]; done) | (simp [up2, *]; omega) | (simp only [up2_eq]; omega) | (split <;> omega)) dX4_areSame_33 ?_
        refine m_rlen (i := i) (v := hf 4 i) C (by first | omega | (simp [up2, *]; done) | (simp [up2, *]; omega) | (simp only [up2_eq]; omega) | (split <;> omega)) rfl dX4_areSame_34 ?_
        refine r_aload_n C dX4_areSame_35 rfl ?_
        refine m_get (v := .ref (ba 0)) C 0 (by decide) qf_X4_15 rfl rfl dX4_areSame_36 ?_
        refine r_iload_n C dX4_areSame_39 rfl ?_
        refine m_rows (i := j) C (by first | omega | (simp [up2, *]; done) | (simp [up2, *]; omega) | (simp only [up2_eq]; omega) | (split <;> omega)) dX4_areSame_40 ?_
        refine m_rlen (i := j) (v := hf 4 j) C (by first | omega | (simp [up2, *]; done) | (simp [up2, *]; omega) | (simp only [up2_eq]; omega) | (split <;> omega)) rfl dX4_areSame_41 ?_
        refine r_icN_ne (a := (hf 4 i)) (b := (hf 4 j)) (tgt := 58) C (by first | omega | (simp [up2, *]; done) | (simp [up2, *]; omega) | (simp only [up2_eq]; omega) | (split <;> omega)) (by first | omega | (simp [up2, *]; done) | (simp [up2, *]; omega) | (simp only [up2_eq]; omega) | (split <;> omega)) dX4_areSame_42 (by decide) (fun h42_4 => ?_) (fun h42_4 => ?_)
        · first
          | exfalso; first | omega | contradiction
          | skip
            refine r_iconst (v := (nI 0)) C dX4_areSame_58 (by decide) ?_
            exact r_zret C hr (by first | omega | (simp [up2, *]; done) | (simp [up2, *]; omega) | (simp only [up2_eq]; omega) | (split <;> omega)) dX4_areSame_59 ⟨by first | rw [if_pos ⟨by assumption, by assumption⟩] | rw [if_neg (fun z => absurd z.2 (by assumption))] | rw [if_neg (fun z => absurd z.1 (by assumption))], rfl⟩ (Nat.le_of_ble_eq_true rfl) (Nat.le_of_ble_eq_true rfl)
        · first
          | exfalso; first | omega | contradiction
          | skip
            refine r_aload_n C dX4_areSame_45 rfl ?_
            refine r_iload_n C dX4_areSame_46 rfl ?_
            refine r_iload_n C dX4_areSame_47 rfl ?_
            refine d_V (st := []) hX.1.stb C hE (D_partNow (ba := ba) (ra := ra) (hf := hf) (hq := hq) (kn := kn) (th := (nI 0)) (sm := sm) (Y := Y) (f := f) (w := i) (v := j) hX hC hM (show i < 8 by omega) qi.2.2.2.2.2 (show j < 8 by omega) qj.2.2.2.2.2) pk_X4_partNow qm_X4_116 0 8 rfl rfl wm_0 rfl rfl (Nat.le_of_ble_eq_true rfl) dX4_areSame_48 ⟨(Nat.le_of_ble_eq_true rfl), (Nat.le_of_ble_eq_true rfl)⟩ ⟨(Nat.le_of_ble_eq_true rfl), (Nat.le_of_ble_eq_true rfl)⟩ ?_
            refine r_w (w' := WM cy ba ra hf hq kn (nI 0) sm ++ Y) rfl ?_
            refine r_ifN_ne (a := (poF (fun k => stF (fun q => (cutF (fun z => hq (f 1 i) (f 3 i + z)) (hf 4 i)) (k + q)) (cutF (fun z => hq (f 1 j) (f 3 j + z)) (hf 4 j)) (hf 4 j) 0) (hf 4 i + 1 - hf 4 j) 0)) (tgt := 58) C (poF_b (by omega)) dX4_areSame_51 (by decide) (fun h51_5 => ?_) (fun h51_5 => ?_)
            · first
              | exfalso; first | omega | contradiction
              | skip
                refine r_iconst (v := (nI 0)) C dX4_areSame_58 (by decide) ?_
                exact r_zret C hr (by first | omega | (simp [up2, *]; done) | (simp [up2, *]; omega) | (simp only [up2_eq]; omega) | (split <;> omega)) dX4_areSame_59 ⟨by first | rw [if_pos ⟨by assumption, by assumption⟩] | rw [if_neg (fun z => absurd z.2 (by assumption))] | rw [if_neg (fun z => absurd z.1 (by assumption))], rfl⟩ (Nat.le_of_ble_eq_true rfl) (Nat.le_of_ble_eq_true rfl)
            · first
              | exfalso; first | omega | contradiction
              | skip
                refine r_iconst (v := (nI 1)) C dX4_areSame_54 (by decide) ?_
                refine r_goto (tgt := 59) C dX4_areSame_55 (by decide) ?_
                exact r_zret C hr (by first | omega | (simp [up2, *]; done) | (simp [up2, *]; omega) | (simp only [up2_eq]; omega) | (split <;> omega)) dX4_areSame_59 ⟨by first | rw [if_pos ⟨by assumption, by assumption⟩] | rw [if_neg (fun z => absurd z.2 (by assumption))] | rw [if_neg (fun z => absurd z.1 (by assumption))], rfl⟩ (Nat.le_of_ble_eq_true rfl) (Nat.le_of_ble_eq_true rfl)
    · exact absurd h12_2 (by first | omega | (simp [up2, *]; done) | (simp [up2, *]; omega) | (simp only [up2_eq]; omega) | (split <;> omega))
theorem dX4_hashNow_0 : decode cX4_hashNow 0 = .ok (.iconst 1, 1) := dqo_4 (kb_of ke_X4_hashNow 0 rfl)
theorem dX4_hashNow_1 : decode cX4_hashNow 1 = .ok (.istore_n 2, 1) := dqo_61 (kb_of ke_X4_hashNow 1 rfl)
theorem dX4_hashNow_2 : decode cX4_hashNow 2 = .ok (.aload_n 0, 1) := dqo_42 (kb_of ke_X4_hashNow 2 rfl)
theorem dX4_hashNow_3 : decode cX4_hashNow 3 = .ok (.getfield 15, 3) := dqo_180 0 15 (kb_of ke_X4_hashNow 3 rfl) (kb_of ke_X4_hashNow 4 rfl) (kb_of ke_X4_hashNow 5 rfl)
theorem dX4_hashNow_6 : decode cX4_hashNow 6 = .ok (.iload_n 1, 1) := dqo_27 (kb_of ke_X4_hashNow 6 rfl)
theorem dX4_hashNow_7 : decode cX4_hashNow 7 = .ok (.aaload, 1) := dqo_50 (kb_of ke_X4_hashNow 7 rfl)
theorem dX4_hashNow_8 : decode cX4_hashNow 8 = .ok (.astore_n 3, 1) := dqo_78 (kb_of ke_X4_hashNow 8 rfl)
theorem dX4_hashNow_9 : decode cX4_hashNow 9 = .ok (.aload_n 3, 1) := dqo_45 (kb_of ke_X4_hashNow 9 rfl)
theorem dX4_hashNow_10 : decode cX4_hashNow 10 = .ok (.arraylength, 1) := dqo_190 (kb_of ke_X4_hashNow 10 rfl)
theorem dX4_hashNow_11 : decode cX4_hashNow 11 = .ok (.istore 4, 2) := dqo_54 4 (kb_of ke_X4_hashNow 11 rfl) (kb_of ke_X4_hashNow 12 rfl)
theorem dX4_hashNow_13 : decode cX4_hashNow 13 = .ok (.iconst 0, 1) := dqo_3 (kb_of ke_X4_hashNow 13 rfl)
theorem dX4_hashNow_14 : decode cX4_hashNow 14 = .ok (.istore 5, 2) := dqo_54 5 (kb_of ke_X4_hashNow 14 rfl) (kb_of ke_X4_hashNow 15 rfl)
theorem dX4_hashNow_16 : decode cX4_hashNow 16 = .ok (.iload 5, 2) := dqo_21 5 (kb_of ke_X4_hashNow 16 rfl) (kb_of ke_X4_hashNow 17 rfl)
theorem dX4_hashNow_18 : decode cX4_hashNow 18 = .ok (.iload 4, 2) := dqo_21 4 (kb_of ke_X4_hashNow 18 rfl) (kb_of ke_X4_hashNow 19 rfl)
theorem dX4_hashNow_20 : decode cX4_hashNow 20 = .ok (.if_icmp .ge 23, 3) := dqo_162 0 23 (by decide) (kb_of ke_X4_hashNow 20 rfl) (kb_of ke_X4_hashNow 21 rfl) (kb_of ke_X4_hashNow 22 rfl)
theorem dX4_hashNow_23 : decode cX4_hashNow 23 = .ok (.aload_n 3, 1) := dqo_45 (kb_of ke_X4_hashNow 23 rfl)
theorem dX4_hashNow_24 : decode cX4_hashNow 24 = .ok (.iload 5, 2) := dqo_21 5 (kb_of ke_X4_hashNow 24 rfl) (kb_of ke_X4_hashNow 25 rfl)
theorem dX4_hashNow_26 : decode cX4_hashNow 26 = .ok (.iaload, 1) := dqo_46 (kb_of ke_X4_hashNow 26 rfl)
theorem dX4_hashNow_27 : decode cX4_hashNow 27 = .ok (.istore 6, 2) := dqo_54 6 (kb_of ke_X4_hashNow 27 rfl) (kb_of ke_X4_hashNow 28 rfl)
theorem dX4_hashNow_29 : decode cX4_hashNow 29 = .ok (.bipush 31, 2) := dqo_16 31 (by decide) (kb_of ke_X4_hashNow 29 rfl) (kb_of ke_X4_hashNow 30 rfl)
theorem dX4_hashNow_31 : decode cX4_hashNow 31 = .ok (.iload_n 2, 1) := dqo_28 (kb_of ke_X4_hashNow 31 rfl)
theorem dX4_hashNow_32 : decode cX4_hashNow 32 = .ok (.imul, 1) := dqo_104 (kb_of ke_X4_hashNow 32 rfl)
theorem dX4_hashNow_33 : decode cX4_hashNow 33 = .ok (.iload 6, 2) := dqo_21 6 (kb_of ke_X4_hashNow 33 rfl) (kb_of ke_X4_hashNow 34 rfl)
theorem dX4_hashNow_35 : decode cX4_hashNow 35 = .ok (.iadd, 1) := dqo_96 (kb_of ke_X4_hashNow 35 rfl)
theorem dX4_hashNow_36 : decode cX4_hashNow 36 = .ok (.istore_n 2, 1) := dqo_61 (kb_of ke_X4_hashNow 36 rfl)
theorem dX4_hashNow_37 : decode cX4_hashNow 37 = .ok (.iinc 5 1, 3) := dqo_132 5 1 (by decide) (kb_of ke_X4_hashNow 37 rfl) (kb_of ke_X4_hashNow 38 rfl) (kb_of ke_X4_hashNow 39 rfl)
theorem dX4_hashNow_40 : decode cX4_hashNow 40 = .ok (.goto (-24), 3) := dqo_167 255 232 (by decide) (kb_of ke_X4_hashNow 40 rfl) (kb_of ke_X4_hashNow 41 rfl) (kb_of ke_X4_hashNow 42 rfl)
theorem dX4_hashNow_43 : decode cX4_hashNow 43 = .ok (.iload_n 2, 1) := dqo_28 (kb_of ke_X4_hashNow 43 rfl)
theorem dX4_hashNow_44 : decode cX4_hashNow 44 = .ok (.ireturn, 1) := dqo_172 (kb_of ke_X4_hashNow 44 rfl)
set_option maxRecDepth 100000 in
set_option maxHeartbeats 4000000 in
theorem D_hashNow {l : Launch} {D : va_G} {cy : Nat → ClassId} {X : (Nat → Prop) → State → Heap → Prop} {ba ra : Nat → Nat} {hf : Nat → Nat → Nat} {hq : Nat → Nat → Int32} {kn th : Int32} {sm : Int64} {Y : va_W} {i : Nat} (hX : EnvM X cy) (hi4 : i < 4) (h12i : hf 4 i ≤ 12) : Cd l D cy X yX4_hashNow cX4_hashNow 7 (some .int) (rmz 0 0) [.ref (ba 9), .int (nI i)] (WM cy ba ra hf hq kn th sm ++ Y) (some (.int (hsF (hq i) (hf 4 i) 0 (nI 1)))) (WM cy ba ra hf hq kn th sm ++ Y) := by
  refine Cm.of [some (.ref (ba 9)), some (.int (nI i)), none, none, none, none, none] pn_X4 rfl (Nat.le_of_ble_eq_true rfl) ?_
  intro p e s m args below meth c A C hE hr hnt hn
  refine r_iconst (v := (nI 1)) C dX4_hashNow_0 (by decide) ?_
  refine r_istore_n C dX4_hashNow_1 (by decide) rfl ?_
  refine r_aload_n C dX4_hashNow_2 rfl ?_
  refine m_get (v := .ref (ba 0)) C 0 (by decide) qf_X4_15 rfl rfl dX4_hashNow_3 ?_
  refine r_iload_n C dX4_hashNow_6 rfl ?_
  refine m_rows (i := i) C (by first | omega | (simp [up2, *]; done) | (simp [up2, *]; omega) | (simp only [up2_eq]; omega) | (split <;> omega)) dX4_hashNow_7 ?_
  refine r_astore_n C dX4_hashNow_8 (by decide) rfl ?_
  refine r_aload_n C dX4_hashNow_9 rfl ?_
  refine m_rlen (i := i) (v := hf 4 i) C (by first | omega | (simp [up2, *]; done) | (simp [up2, *]; omega) | (simp only [up2_eq]; omega) | (split <;> omega)) rfl dX4_hashNow_10 ?_
  refine r_istore C dX4_hashNow_11 (by decide) rfl ?_
  refine r_iconst (v := (nI 0)) C dX4_hashNow_13 (by decide) ?_
  refine r_istore C dX4_hashNow_14 (by decide) rfl ?_
  have L16 : ∀ (d : Nat) (k : Nat) (z : Int32), (hk : k + d = hf 4 i) → (hF : hsF (hq i) d k z = hsF (hq i) (hf 4 i) 0 (nI 1)) → vC p l e (rmz 0 0) s m args below meth c D A (vx_MQ below (vG (fun v1 w1 => v1 = (some (.int (hsF (hq i) (hf 4 i) 0 (nI 1)))) ∧ w1 = WM cy ba ra hf hq kn th sm ++ Y) D vwCl A) (vGX (fun _ => False) D vwCl (WM cy ba ra hf hq kn th sm ++ Y) A) args s (rmz 0 0).cells (rmz 0 0).slots A) 7 0 0 (WM cy ba ra hf hq kn th sm ++ Y) [some (.ref (ba 9)), some (.int (nI i)), some (.int z), some (.ref (ra i)), some (.int (nI (hf 4 i))), some (.int (nI k)), none] 16 [] := by
    intro d
    induction d with
    | zero =>
      intro k z hk hF
      refine r_iload C dX4_hashNow_16 rfl ?_
      refine r_iload C dX4_hashNow_18 rfl ?_
      refine r_icN_ge (a := k) (b := (hf 4 i)) (tgt := 43) C (by first | omega | (simp [up2, *]; done) | (simp [up2, *]; omega) | (simp only [up2_eq]; omega) | (split <;> omega)) (by first | omega | (simp [up2, *]; done) | (simp [up2, *]; omega) | (simp only [up2_eq]; omega) | (split <;> omega)) dX4_hashNow_20 (by decide) (fun h20_1 => ?_) (fun h20_1 => ?_)
      · first
        | exfalso; first | omega | contradiction
        | skip
          refine r_iload_n C dX4_hashNow_43 rfl ?_
          exact r_iret C hr dX4_hashNow_44 ⟨by rw [← hF]; rfl, rfl⟩ (Nat.le_of_ble_eq_true rfl) (Nat.le_of_ble_eq_true rfl)
      · first
        | exfalso; first | omega | contradiction
        | skip
          refine r_aload_n C dX4_hashNow_23 rfl ?_
          refine r_iload C dX4_hashNow_24 rfl ?_
          refine m_rld (i := i) (n := k) C (by first | omega | (simp [up2, *]; done) | (simp [up2, *]; omega) | (simp only [up2_eq]; omega) | (split <;> omega)) (by first | omega | (simp [up2, *]; done) | (simp [up2, *]; omega) | (simp only [up2_eq]; omega) | (split <;> omega)) (by first | omega | (simp [up2, *]; done) | (simp [up2, *]; omega) | (simp only [up2_eq]; omega) | (split <;> omega)) dX4_hashNow_26 ?_
          refine r_istore C dX4_hashNow_27 (by decide) rfl ?_
          refine r_bipush (v := (nI 31)) C dX4_hashNow_29 (by decide) ?_
          refine r_iload_n C dX4_hashNow_31 rfl ?_
          refine r_imul C dX4_hashNow_32 ?_
          refine r_iload C dX4_hashNow_33 rfl ?_
          refine r_iadd C dX4_hashNow_35 ?_
          refine r_istore_n C dX4_hashNow_36 (by decide) rfl ?_
          refine r_iincN C dX4_hashNow_37 rfl (by decide) rfl ?_
          refine r_goto (tgt := 16) C dX4_hashNow_40 (by decide) ?_
          refine r_drop 6 ?_
          exact (Nat.not_lt_zero _ (by omega)).elim
    | succ d ih_L16 =>
      intro k z hk hF
      refine r_iload C dX4_hashNow_16 rfl ?_
      refine r_iload C dX4_hashNow_18 rfl ?_
      refine r_icN_ge (a := k) (b := (hf 4 i)) (tgt := 43) C (by first | omega | (simp [up2, *]; done) | (simp [up2, *]; omega) | (simp only [up2_eq]; omega) | (split <;> omega)) (by first | omega | (simp [up2, *]; done) | (simp [up2, *]; omega) | (simp only [up2_eq]; omega) | (split <;> omega)) dX4_hashNow_20 (by decide) (fun h20_2 => ?_) (fun h20_2 => ?_)
      · first
        | exfalso; first | omega | contradiction
        | skip
          refine r_iload_n C dX4_hashNow_43 rfl ?_
          exact r_iret C hr dX4_hashNow_44 ⟨by rw [← hF]; rfl, rfl⟩ (Nat.le_of_ble_eq_true rfl) (Nat.le_of_ble_eq_true rfl)
      · first
        | exfalso; first | omega | contradiction
        | skip
          refine r_aload_n C dX4_hashNow_23 rfl ?_
          refine r_iload C dX4_hashNow_24 rfl ?_
          refine m_rld (i := i) (n := k) C (by first | omega | (simp [up2, *]; done) | (simp [up2, *]; omega) | (simp only [up2_eq]; omega) | (split <;> omega)) (by first | omega | (simp [up2, *]; done) | (simp [up2, *]; omega) | (simp only [up2_eq]; omega) | (split <;> omega)) (by first | omega | (simp [up2, *]; done) | (simp [up2, *]; omega) | (simp only [up2_eq]; omega) | (split <;> omega)) dX4_hashNow_26 ?_
          refine r_istore C dX4_hashNow_27 (by decide) rfl ?_
          refine r_bipush (v := (nI 31)) C dX4_hashNow_29 (by decide) ?_
          refine r_iload_n C dX4_hashNow_31 rfl ?_
          refine r_imul C dX4_hashNow_32 ?_
          refine r_iload C dX4_hashNow_33 rfl ?_
          refine r_iadd C dX4_hashNow_35 ?_
          refine r_istore_n C dX4_hashNow_36 (by decide) rfl ?_
          refine r_iincN C dX4_hashNow_37 rfl (by decide) rfl ?_
          refine r_goto (tgt := 16) C dX4_hashNow_40 (by decide) ?_
          refine r_drop 6 ?_
          exact ih_L16 (k + 1) _ (by first | omega | (simp [up2, *]; done) | (simp [up2, *]; omega) | (simp only [up2_eq]; omega) | (split <;> omega)) (by rw [← hF]; rfl)
  exact L16 (hf 4 i) 0 _ (by first | omega | (simp [up2, *]; done) | (simp [up2, *]; omega) | (simp only [up2_eq]; omega) | (split <;> omega)) rfl
theorem dX4_hash_0 : decode cX4_hash 0 = .ok (.aload_n 0, 1) := dqo_42 (kb_of ke_X4_hash 0 rfl)
theorem dX4_hash_1 : decode cX4_hash 1 = .ok (.iload_n 1, 1) := dqo_27 (kb_of ke_X4_hash 1 rfl)
theorem dX4_hash_2 : decode cX4_hash 2 = .ok (.invokestatic 119, 3) := dqo_184 0 119 (kb_of ke_X4_hash 2 rfl) (kb_of ke_X4_hash 3 rfl) (kb_of ke_X4_hash 4 rfl)
theorem dX4_hash_5 : decode cX4_hash 5 = .ok (.iconst 0, 1) := dqo_3 (kb_of ke_X4_hash 5 rfl)
theorem dX4_hash_6 : decode cX4_hash 6 = .ok (.iconst 0, 1) := dqo_3 (kb_of ke_X4_hash 6 rfl)
theorem dX4_hash_7 : decode cX4_hash 7 = .ok (.invokevirtual 84, 3) := dqo_182 0 84 (kb_of ke_X4_hash 7 rfl) (kb_of ke_X4_hash 8 rfl) (kb_of ke_X4_hash 9 rfl)
theorem dX4_hash_10 : decode cX4_hash 10 = .ok (.ifCond .eq 7, 3) := dqo_153 0 7 (by decide) (kb_of ke_X4_hash 10 rfl) (kb_of ke_X4_hash 11 rfl) (kb_of ke_X4_hash 12 rfl)
theorem dX4_hash_13 : decode cX4_hash 13 = .ok (.iconst 0, 1) := dqo_3 (kb_of ke_X4_hash 13 rfl)
theorem dX4_hash_14 : decode cX4_hash 14 = .ok (.goto 8, 3) := dqo_167 0 8 (by decide) (kb_of ke_X4_hash 14 rfl) (kb_of ke_X4_hash 15 rfl) (kb_of ke_X4_hash 16 rfl)
theorem dX4_hash_22 : decode cX4_hash 22 = .ok (.ireturn, 1) := dqo_172 (kb_of ke_X4_hash 22 rfl)
set_option maxRecDepth 100000 in
set_option maxHeartbeats 4000000 in
theorem D_hash_noR {l : Launch} {D : va_G} {cy : Nat → ClassId} {X : (Nat → Prop) → State → Heap → Prop} {ba ra : Nat → Nat} {hf : Nat → Nat → Nat} {hq : Nat → Nat → Int32} {kn th : Int32} {sm : Int64} {Y : va_W} {f : Nat → Nat → Nat} {r : Nat → Nat → Int32} {x : Int32} (hX : EnvM X cy) (hC : CInv f) (hM : MR f r hf hq) (hno : ¬ (0 ≤ x ∧ x < nI 4)) : Cd l D cy X yX4_hash cX4_hash 2 (some .int) (rmk 9 4 48 420) [.ref (ba 9), .int x] (WM cy ba ra hf hq kn th sm ++ Y) (some (.int (nI 0))) (WM cy ba ra hf hq kn (nI 1) sm ++ Y) := by
  have hG := hM.1
  have h5M := hM.h5M hC
  have h4M := hC.h4M
  have h9a := hM.h9a hC
  have h6a := hM.h6a
  have hU := hM.hU hC
  refine Cm.of [some (.ref (ba 9)), some (.int x)] pn_X4 rfl (Nat.le_of_ble_eq_true rfl) ?_
  intro p e s m args below meth c A C hE hr hnt hn
  refine r_aload_n C dX4_hash_0 rfl ?_
  refine r_iload_n C dX4_hash_1 rfl ?_
  refine d_S (st := [.ref (ba 9)]) hX.1.stb C hE (D_isNoRow1 (ba := ba) (ra := ra) (hf := hf) (hq := hq) (kn := kn) (th := th) (sm := sm) (Y := Y) (x := (x)) hX hno) pk_X4_isNoRow qm_X4_119 rfl rfl (Nat.le_of_ble_eq_true rfl) dX4_hash_2 ⟨(Nat.le_of_ble_eq_true rfl), (Nat.le_of_ble_eq_true rfl)⟩ ⟨(Nat.le_of_ble_eq_true rfl), (Nat.le_of_ble_eq_true rfl)⟩ ?_
  refine r_w (w' := WM cy ba ra hf hq kn th sm ++ Y) rfl ?_
  refine r_iconst (v := (nI 0)) C dX4_hash_5 (by decide) ?_
  refine r_iconst (v := (nI 0)) C dX4_hash_6 (by decide) ?_
  refine d_V (st := []) hX.1.stb C hE (D_fails1 (ba := ba) (ra := ra) (hf := hf) (hq := hq) (kn := kn) (th := th) (sm := sm) (Y := Y) (b0 := 0) (d0 := 0) hX ) pk_X4_fails qm_X4_84 0 8 rfl rfl wm_0 rfl rfl (Nat.le_of_ble_eq_true rfl) dX4_hash_7 ⟨(Nat.le_of_ble_eq_true rfl), (Nat.le_of_ble_eq_true rfl)⟩ ⟨(Nat.le_of_ble_eq_true rfl), (Nat.le_of_ble_eq_true rfl)⟩ ?_
  refine r_w (w' := WM cy ba ra hf hq kn (nI 1) sm ++ Y) rfl ?_
  refine r_ifN_eq (a := 1) (tgt := 17) C (by first | omega | (simp [up2, *]; done) | (simp [up2, *]; omega) | (simp only [up2_eq]; omega) | (split <;> omega)) dX4_hash_10 (by decide) (fun h10_1 => ?_) (fun h10_1 => ?_)
  · exact absurd h10_1 (by first | omega | (simp [up2, *]; done) | (simp [up2, *]; omega) | (simp only [up2_eq]; omega) | (split <;> omega))
  · skip
    refine r_iconst (v := (nI 0)) C dX4_hash_13 (by decide) ?_
    refine r_goto (tgt := 22) C dX4_hash_14 (by decide) ?_
    exact r_iret C hr dX4_hash_22 ⟨rfl, rfl⟩ (Nat.le_of_ble_eq_true rfl) (Nat.le_of_ble_eq_true rfl)
theorem pk_X4_hashNow : PkV RX4 yX4_hashNow cX4_hashNow 7 (some .int) 1 := ⟨⟨qi_X4_hashNow, qs_X4_hashNow, qz_X4, qc_X4_hashNow⟩, rfl, mh_X4.1, mh_X4.2, pd_1⟩
theorem dX4_hash_17 : decode cX4_hash 17 = .ok (.aload_n 0, 1) := dqo_42 (kb_of ke_X4_hash 17 rfl)
theorem dX4_hash_18 : decode cX4_hash 18 = .ok (.iload_n 1, 1) := dqo_27 (kb_of ke_X4_hash 18 rfl)
theorem dX4_hash_19 : decode cX4_hash 19 = .ok (.invokevirtual 148, 3) := dqo_182 0 148 (kb_of ke_X4_hash 19 rfl) (kb_of ke_X4_hash 20 rfl) (kb_of ke_X4_hash 21 rfl)
set_option maxRecDepth 100000 in
set_option maxHeartbeats 4000000 in
theorem D_hash_ok {l : Launch} {D : va_G} {cy : Nat → ClassId} {X : (Nat → Prop) → State → Heap → Prop} {ba ra : Nat → Nat} {hf : Nat → Nat → Nat} {hq : Nat → Nat → Int32} {kn th : Int32} {sm : Int64} {Y : va_W} {f : Nat → Nat → Nat} {r : Nat → Nat → Int32} {i : Nat} (hX : EnvM X cy) (hC : CInv f) (hM : MR f r hf hq) (hi4 : i < 4) : Cd l D cy X yX4_hash cX4_hash 2 (some .int) (rmk 9 4 48 420) [.ref (ba 9), .int (nI i)] (WM cy ba ra hf hq kn th sm ++ Y) (some (.int (hsF (hq i) (hf 4 i) 0 (nI 1)))) (WM cy ba ra hf hq kn (nI 0) sm ++ Y) := by
  have hG := hM.1
  have h5M := hM.h5M hC
  have h4M := hC.h4M
  have h9a := hM.h9a hC
  have h6a := hM.h6a
  have hU := hM.hU hC
  have qi := hC.rw hi4
  have pi := (hM.2.1 i hi4).1
  have ei : hf 4 (f 1 i) = hf 4 i := by rw [qi.2.1]
  have wi := hM.wh hC (w := i) (by omega) qi.2.2.2.2.2
  refine Cm.of [some (.ref (ba 9)), some (.int (nI i))] pn_X4 rfl (Nat.le_of_ble_eq_true rfl) ?_
  intro p e s m args below meth c A C hE hr hnt hn
  refine r_aload_n C dX4_hash_0 rfl ?_
  refine r_iload_n C dX4_hash_1 rfl ?_
  refine d_S (st := [.ref (ba 9)]) hX.1.stb C hE (D_isNoRow0 (ba := ba) (ra := ra) (hf := hf) (hq := hq) (kn := kn) (th := th) (sm := sm) (Y := Y) (i := i) hX (by first | omega | (simp [up2, *]; done) | (simp [up2, *]; omega) | (simp only [up2_eq]; omega) | (split <;> omega))) pk_X4_isNoRow qm_X4_119 rfl rfl (Nat.le_of_ble_eq_true rfl) dX4_hash_2 ⟨(Nat.le_of_ble_eq_true rfl), (Nat.le_of_ble_eq_true rfl)⟩ ⟨(Nat.le_of_ble_eq_true rfl), (Nat.le_of_ble_eq_true rfl)⟩ ?_
  refine r_w (w' := WM cy ba ra hf hq kn th sm ++ Y) rfl ?_
  refine r_iconst (v := (nI 0)) C dX4_hash_5 (by decide) ?_
  refine r_iconst (v := (nI 0)) C dX4_hash_6 (by decide) ?_
  refine d_V (st := []) hX.1.stb C hE (D_fails0 (ba := ba) (ra := ra) (hf := hf) (hq := hq) (kn := kn) (th := th) (sm := sm) (Y := Y)  hX ) pk_X4_fails qm_X4_84 0 8 rfl rfl wm_0 rfl rfl (Nat.le_of_ble_eq_true rfl) dX4_hash_7 ⟨(Nat.le_of_ble_eq_true rfl), (Nat.le_of_ble_eq_true rfl)⟩ ⟨(Nat.le_of_ble_eq_true rfl), (Nat.le_of_ble_eq_true rfl)⟩ ?_
  refine r_w (w' := WM cy ba ra hf hq kn (nI 0) sm ++ Y) rfl ?_
  refine r_ifN_eq (a := 0) (tgt := 17) C (by first | omega | (simp [up2, *]; done) | (simp [up2, *]; omega) | (simp only [up2_eq]; omega) | (split <;> omega)) dX4_hash_10 (by decide) (fun h10_1 => ?_) (fun h10_1 => ?_)
  · skip
    refine r_aload_n C dX4_hash_17 rfl ?_
    refine r_iload_n C dX4_hash_18 rfl ?_
    refine d_V (st := []) hX.1.stb C hE (D_hashNow (ba := ba) (ra := ra) (hf := hf) (hq := hq) (kn := kn) (th := (nI 0)) (sm := sm) (Y := Y) (i := i) hX (by first | omega | (simp [up2, *]; done) | (simp [up2, *]; omega) | (simp only [up2_eq]; omega) | (split <;> omega)) (by first | omega | (simp [up2, *]; done) | (simp [up2, *]; omega) | (simp only [up2_eq]; omega) | (split <;> omega))) pk_X4_hashNow qm_X4_148 0 8 rfl rfl wm_0 rfl rfl (Nat.le_of_ble_eq_true rfl) dX4_hash_19 ⟨(Nat.le_of_ble_eq_true rfl), (Nat.le_of_ble_eq_true rfl)⟩ ⟨(Nat.le_of_ble_eq_true rfl), (Nat.le_of_ble_eq_true rfl)⟩ ?_
    refine r_w (w' := WM cy ba ra hf hq kn (nI 0) sm ++ Y) rfl ?_
    exact r_iret C hr dX4_hash_22 ⟨rfl, rfl⟩ (Nat.le_of_ble_eq_true rfl) (Nat.le_of_ble_eq_true rfl)
  · exact absurd h10_1 (by first | omega | (simp [up2, *]; done) | (simp [up2, *]; omega) | (simp only [up2_eq]; omega) | (split <;> omega))
theorem dX4_inArray_0 : decode cX4_inArray 0 = .ok (.aload_n 0, 1) := dqo_42 (kb_of ke_X4_inArray 0 rfl)
theorem dX4_inArray_1 : decode cX4_inArray 1 = .ok (.iload_n 1, 1) := dqo_27 (kb_of ke_X4_inArray 1 rfl)
theorem dX4_inArray_2 : decode cX4_inArray 2 = .ok (.invokestatic 119, 3) := dqo_184 0 119 (kb_of ke_X4_inArray 2 rfl) (kb_of ke_X4_inArray 3 rfl) (kb_of ke_X4_inArray 4 rfl)
theorem dX4_inArray_5 : decode cX4_inArray 5 = .ok (.ifCond .ne 12, 3) := dqo_154 0 12 (by decide) (kb_of ke_X4_inArray 5 rfl) (kb_of ke_X4_inArray 6 rfl) (kb_of ke_X4_inArray 7 rfl)
theorem dX4_inArray_17 : decode cX4_inArray 17 = .ok (.iconst 1, 1) := dqo_4 (kb_of ke_X4_inArray 17 rfl)
theorem dX4_inArray_18 : decode cX4_inArray 18 = .ok (.goto 4, 3) := dqo_167 0 4 (by decide) (kb_of ke_X4_inArray 18 rfl) (kb_of ke_X4_inArray 19 rfl) (kb_of ke_X4_inArray 20 rfl)
theorem dX4_inArray_22 : decode cX4_inArray 22 = .ok (.iconst 0, 1) := dqo_3 (kb_of ke_X4_inArray 22 rfl)
theorem dX4_inArray_23 : decode cX4_inArray 23 = .ok (.iconst 0, 1) := dqo_3 (kb_of ke_X4_inArray 23 rfl)
theorem dX4_inArray_24 : decode cX4_inArray 24 = .ok (.invokevirtual 84, 3) := dqo_182 0 84 (kb_of ke_X4_inArray 24 rfl) (kb_of ke_X4_inArray 25 rfl) (kb_of ke_X4_inArray 26 rfl)
theorem dX4_inArray_27 : decode cX4_inArray 27 = .ok (.ifCond .eq 7, 3) := dqo_153 0 7 (by decide) (kb_of ke_X4_inArray 27 rfl) (kb_of ke_X4_inArray 28 rfl) (kb_of ke_X4_inArray 29 rfl)
theorem dX4_inArray_30 : decode cX4_inArray 30 = .ok (.iconst 0, 1) := dqo_3 (kb_of ke_X4_inArray 30 rfl)
theorem dX4_inArray_31 : decode cX4_inArray 31 = .ok (.goto 11, 3) := dqo_167 0 11 (by decide) (kb_of ke_X4_inArray 31 rfl) (kb_of ke_X4_inArray 32 rfl) (kb_of ke_X4_inArray 33 rfl)
theorem dX4_inArray_42 : decode cX4_inArray 42 = .ok (.ireturn, 1) := dqo_172 (kb_of ke_X4_inArray 42 rfl)
set_option maxRecDepth 100000 in
set_option maxHeartbeats 4000000 in
theorem D_inArray_noR {l : Launch} {D : va_G} {cy : Nat → ClassId} {X : (Nat → Prop) → State → Heap → Prop} {ba ra : Nat → Nat} {hf : Nat → Nat → Nat} {hq : Nat → Nat → Int32} {kn th : Int32} {sm : Int64} {Y : va_W} {f : Nat → Nat → Nat} {r : Nat → Nat → Int32} {x : Int32} {y0 : Int32} (hX : EnvM X cy) (hC : CInv f) (hM : MR f r hf hq) (hno : ¬ (0 ≤ x ∧ x < nI 4)) : Cd l D cy X yX4_inArray cX4_inArray 3 (some .int) (rmk 9 4 48 420) [.ref (ba 9), .int x, .int y0] (WM cy ba ra hf hq kn th sm ++ Y) (some (.int (nI 0))) (WM cy ba ra hf hq kn (nI 1) sm ++ Y) := by
  have hG := hM.1
  have h5M := hM.h5M hC
  have h4M := hC.h4M
  have h9a := hM.h9a hC
  have h6a := hM.h6a
  have hU := hM.hU hC
  refine Cm.of [some (.ref (ba 9)), some (.int x), some (.int y0)] pn_X4 rfl (Nat.le_of_ble_eq_true rfl) ?_
  intro p e s m args below meth c A C hE hr hnt hn
  refine r_aload_n C dX4_inArray_0 rfl ?_
  refine r_iload_n C dX4_inArray_1 rfl ?_
  refine d_S (st := [.ref (ba 9)]) hX.1.stb C hE (D_isNoRow1 (ba := ba) (ra := ra) (hf := hf) (hq := hq) (kn := kn) (th := th) (sm := sm) (Y := Y) (x := (x)) hX hno) pk_X4_isNoRow qm_X4_119 rfl rfl (Nat.le_of_ble_eq_true rfl) dX4_inArray_2 ⟨(Nat.le_of_ble_eq_true rfl), (Nat.le_of_ble_eq_true rfl)⟩ ⟨(Nat.le_of_ble_eq_true rfl), (Nat.le_of_ble_eq_true rfl)⟩ ?_
  refine r_w (w' := WM cy ba ra hf hq kn th sm ++ Y) rfl ?_
  refine r_ifN_ne (a := 1) (tgt := 17) C (by first | omega | (simp [up2, *]; done) | (simp [up2, *]; omega) | (simp only [up2_eq]; omega) | (split <;> omega)) dX4_inArray_5 (by decide) (fun h5_1 => ?_) (fun h5_1 => ?_)
  · skip
    refine r_iconst (v := (nI 1)) C dX4_inArray_17 (by decide) ?_
    refine r_goto (tgt := 22) C dX4_inArray_18 (by decide) ?_
    refine r_iconst (v := (nI 0)) C dX4_inArray_22 (by decide) ?_
    refine r_iconst (v := (nI 0)) C dX4_inArray_23 (by decide) ?_
    refine d_V (st := []) hX.1.stb C hE (D_fails1 (ba := ba) (ra := ra) (hf := hf) (hq := hq) (kn := kn) (th := th) (sm := sm) (Y := Y) (b0 := 0) (d0 := 0) hX ) pk_X4_fails qm_X4_84 0 8 rfl rfl wm_0 rfl rfl (Nat.le_of_ble_eq_true rfl) dX4_inArray_24 ⟨(Nat.le_of_ble_eq_true rfl), (Nat.le_of_ble_eq_true rfl)⟩ ⟨(Nat.le_of_ble_eq_true rfl), (Nat.le_of_ble_eq_true rfl)⟩ ?_
    refine r_w (w' := WM cy ba ra hf hq kn (nI 1) sm ++ Y) rfl ?_
    refine r_ifN_eq (a := 1) (tgt := 34) C (by first | omega | (simp [up2, *]; done) | (simp [up2, *]; omega) | (simp only [up2_eq]; omega) | (split <;> omega)) dX4_inArray_27 (by decide) (fun h27_2 => ?_) (fun h27_2 => ?_)
    · exact absurd h27_2 (by first | omega | (simp [up2, *]; done) | (simp [up2, *]; omega) | (simp only [up2_eq]; omega) | (split <;> omega))
    · skip
      refine r_iconst (v := (nI 0)) C dX4_inArray_30 (by decide) ?_
      refine r_goto (tgt := 42) C dX4_inArray_31 (by decide) ?_
      exact r_iret C hr dX4_inArray_42 ⟨rfl, rfl⟩ (Nat.le_of_ble_eq_true rfl) (Nat.le_of_ble_eq_true rfl)
  · exact absurd h5_1 (by first | omega | (simp [up2, *]; done) | (simp [up2, *]; omega) | (simp only [up2_eq]; omega) | (split <;> omega))
theorem dX4_inArray_8 : decode cX4_inArray 8 = .ok (.aload_n 0, 1) := dqo_42 (kb_of ke_X4_inArray 8 rfl)
theorem dX4_inArray_9 : decode cX4_inArray 9 = .ok (.iload_n 1, 1) := dqo_27 (kb_of ke_X4_inArray 9 rfl)
theorem dX4_inArray_10 : decode cX4_inArray 10 = .ok (.iload_n 2, 1) := dqo_28 (kb_of ke_X4_inArray 10 rfl)
theorem dX4_inArray_11 : decode cX4_inArray 11 = .ok (.invokevirtual 92, 3) := dqo_182 0 92 (kb_of ke_X4_inArray 11 rfl) (kb_of ke_X4_inArray 12 rfl) (kb_of ke_X4_inArray 13 rfl)
theorem dX4_inArray_14 : decode cX4_inArray 14 = .ok (.ifCond .eq 7, 3) := dqo_153 0 7 (by decide) (kb_of ke_X4_inArray 14 rfl) (kb_of ke_X4_inArray 15 rfl) (kb_of ke_X4_inArray 16 rfl)
set_option maxRecDepth 100000 in
set_option maxHeartbeats 4000000 in
theorem D_inArray_noP {l : Launch} {D : va_G} {cy : Nat → ClassId} {X : (Nat → Prop) → State → Heap → Prop} {ba ra : Nat → Nat} {hf : Nat → Nat → Nat} {hq : Nat → Nat → Int32} {kn th : Int32} {sm : Int64} {Y : va_W} {f : Nat → Nat → Nat} {r : Nat → Nat → Int32} {i : Nat} {y0 : Int32} (hX : EnvM X cy) (hC : CInv f) (hM : MR f r hf hq) (hi4 : i < 4) (hno : ¬ (0 ≤ y0 ∧ y0 < nI (f 4 i))) : Cd l D cy X yX4_inArray cX4_inArray 3 (some .int) (rmk 9 4 48 420) [.ref (ba 9), .int (nI i), .int y0] (WM cy ba ra hf hq kn th sm ++ Y) (some (.int (nI 0))) (WM cy ba ra hf hq kn (nI 1) sm ++ Y) := by
  have hG := hM.1
  have h5M := hM.h5M hC
  have h4M := hC.h4M
  have h9a := hM.h9a hC
  have h6a := hM.h6a
  have hU := hM.hU hC
  have qi := hC.rw hi4
  have pi := (hM.2.1 i hi4).1
  have ei : hf 4 (f 1 i) = hf 4 i := by rw [qi.2.1]
  have wi := hM.wh hC (w := i) (by omega) qi.2.2.2.2.2
  refine Cm.of [some (.ref (ba 9)), some (.int (nI i)), some (.int y0)] pn_X4 rfl (Nat.le_of_ble_eq_true rfl) ?_
  intro p e s m args below meth c A C hE hr hnt hn
  refine r_aload_n C dX4_inArray_0 rfl ?_
  refine r_iload_n C dX4_inArray_1 rfl ?_
  refine d_S (st := [.ref (ba 9)]) hX.1.stb C hE (D_isNoRow0 (ba := ba) (ra := ra) (hf := hf) (hq := hq) (kn := kn) (th := th) (sm := sm) (Y := Y) (i := i) hX (by first | omega | (simp [up2, *]; done) | (simp [up2, *]; omega) | (simp only [up2_eq]; omega) | (split <;> omega))) pk_X4_isNoRow qm_X4_119 rfl rfl (Nat.le_of_ble_eq_true rfl) dX4_inArray_2 ⟨(Nat.le_of_ble_eq_true rfl), (Nat.le_of_ble_eq_true rfl)⟩ ⟨(Nat.le_of_ble_eq_true rfl), (Nat.le_of_ble_eq_true rfl)⟩ ?_
  refine r_w (w' := WM cy ba ra hf hq kn th sm ++ Y) rfl ?_
  refine r_ifN_ne (a := 0) (tgt := 17) C (by first | omega | (simp [up2, *]; done) | (simp [up2, *]; omega) | (simp only [up2_eq]; omega) | (split <;> omega)) dX4_inArray_5 (by decide) (fun h5_1 => ?_) (fun h5_1 => ?_)
  · exact absurd h5_1 (by first | omega | (simp [up2, *]; done) | (simp [up2, *]; omega) | (simp only [up2_eq]; omega) | (split <;> omega))
  · skip
    refine r_aload_n C dX4_inArray_8 rfl ?_
    refine r_iload_n C dX4_inArray_9 rfl ?_
    refine r_iload_n C dX4_inArray_10 rfl ?_
    refine d_V (st := [.ref (ba 9)]) hX.1.stb C hE (D_isNoPlace1 (ba := ba) (ra := ra) (hf := hf) (hq := hq) (kn := kn) (th := th) (sm := sm) (Y := Y) (w := i) (y := (y0)) hX (by first | omega | (simp [up2, *]; done) | (simp [up2, *]; omega) | (simp only [up2_eq]; omega) | (split <;> omega)) (by first | omega | (simp [up2, *]; done) | (simp [up2, *]; omega) | (simp only [up2_eq]; omega) | (split <;> omega)) (by first | omega | (simp [up2, *]; done) | (simp [up2, *]; omega) | (simp only [up2_eq]; omega) | (split <;> omega)) (by rw [pi]; exact hno)) pk_X4_isNoPlace qm_X4_92 0 8 rfl rfl wm_0 rfl rfl (Nat.le_of_ble_eq_true rfl) dX4_inArray_11 ⟨(Nat.le_of_ble_eq_true rfl), (Nat.le_of_ble_eq_true rfl)⟩ ⟨(Nat.le_of_ble_eq_true rfl), (Nat.le_of_ble_eq_true rfl)⟩ ?_
    refine r_w (w' := WM cy ba ra hf hq kn th sm ++ Y) rfl ?_
    refine r_ifN_eq (a := 1) (tgt := 21) C (by first | omega | (simp [up2, *]; done) | (simp [up2, *]; omega) | (simp only [up2_eq]; omega) | (split <;> omega)) dX4_inArray_14 (by decide) (fun h14_2 => ?_) (fun h14_2 => ?_)
    · exact absurd h14_2 (by first | omega | (simp [up2, *]; done) | (simp [up2, *]; omega) | (simp only [up2_eq]; omega) | (split <;> omega))
    · skip
      refine r_iconst (v := (nI 1)) C dX4_inArray_17 (by decide) ?_
      refine r_goto (tgt := 22) C dX4_inArray_18 (by decide) ?_
      refine r_iconst (v := (nI 0)) C dX4_inArray_22 (by decide) ?_
      refine r_iconst (v := (nI 0)) C dX4_inArray_23 (by decide) ?_
      refine d_V (st := []) hX.1.stb C hE (D_fails1 (ba := ba) (ra := ra) (hf := hf) (hq := hq) (kn := kn) (th := th) (sm := sm) (Y := Y) (b0 := 0) (d0 := 0) hX ) pk_X4_fails qm_X4_84 0 8 rfl rfl wm_0 rfl rfl (Nat.le_of_ble_eq_true rfl) dX4_inArray_24 ⟨(Nat.le_of_ble_eq_true rfl), (Nat.le_of_ble_eq_true rfl)⟩ ⟨(Nat.le_of_ble_eq_true rfl), (Nat.le_of_ble_eq_true rfl)⟩ ?_
      refine r_w (w' := WM cy ba ra hf hq kn (nI 1) sm ++ Y) rfl ?_
      refine r_ifN_eq (a := 1) (tgt := 34) C (by first | omega | (simp [up2, *]; done) | (simp [up2, *]; omega) | (simp only [up2_eq]; omega) | (split <;> omega)) dX4_inArray_27 (by decide) (fun h27_3 => ?_) (fun h27_3 => ?_)
      · exact absurd h27_3 (by first | omega | (simp [up2, *]; done) | (simp [up2, *]; omega) | (simp only [up2_eq]; omega) | (split <;> omega))
      · skip
        refine r_iconst (v := (nI 0)) C dX4_inArray_30 (by decide) ?_
        refine r_goto (tgt := 42) C dX4_inArray_31 (by decide) ?_
        exact r_iret C hr dX4_inArray_42 ⟨rfl, rfl⟩ (Nat.le_of_ble_eq_true rfl) (Nat.le_of_ble_eq_true rfl)
theorem dX4_inArray_21 : decode cX4_inArray 21 = .ok (.iconst 0, 1) := dqo_3 (kb_of ke_X4_inArray 21 rfl)
theorem dX4_inArray_34 : decode cX4_inArray 34 = .ok (.aload_n 0, 1) := dqo_42 (kb_of ke_X4_inArray 34 rfl)
theorem dX4_inArray_35 : decode cX4_inArray 35 = .ok (.getfield 15, 3) := dqo_180 0 15 (kb_of ke_X4_inArray 35 rfl) (kb_of ke_X4_inArray 36 rfl) (kb_of ke_X4_inArray 37 rfl)
theorem dX4_inArray_38 : decode cX4_inArray 38 = .ok (.iload_n 1, 1) := dqo_27 (kb_of ke_X4_inArray 38 rfl)
theorem dX4_inArray_39 : decode cX4_inArray 39 = .ok (.aaload, 1) := dqo_50 (kb_of ke_X4_inArray 39 rfl)
theorem dX4_inArray_40 : decode cX4_inArray 40 = .ok (.iload_n 2, 1) := dqo_28 (kb_of ke_X4_inArray 40 rfl)
theorem dX4_inArray_41 : decode cX4_inArray 41 = .ok (.iaload, 1) := dqo_46 (kb_of ke_X4_inArray 41 rfl)
set_option maxRecDepth 100000 in
set_option maxHeartbeats 4000000 in
theorem D_inArray_ok {l : Launch} {D : va_G} {cy : Nat → ClassId} {X : (Nat → Prop) → State → Heap → Prop} {ba ra : Nat → Nat} {hf : Nat → Nat → Nat} {hq : Nat → Nat → Int32} {kn th : Int32} {sm : Int64} {Y : va_W} {f : Nat → Nat → Nat} {r : Nat → Nat → Int32} {i : Nat} {k0 : Nat} (hX : EnvM X cy) (hC : CInv f) (hM : MR f r hf hq) (hi4 : i < 4) (hk : k0 < f 4 i) : Cd l D cy X yX4_inArray cX4_inArray 3 (some .int) (rmk 9 4 48 420) [.ref (ba 9), .int (nI i), .int (nI k0)] (WM cy ba ra hf hq kn th sm ++ Y) (some (.int (hq i k0))) (WM cy ba ra hf hq kn (nI 0) sm ++ Y) := by
  have hG := hM.1
  have h5M := hM.h5M hC
  have h4M := hC.h4M
  have h9a := hM.h9a hC
  have h6a := hM.h6a
  have hU := hM.hU hC
  have qi := hC.rw hi4
  have pi := (hM.2.1 i hi4).1
  have ei : hf 4 (f 1 i) = hf 4 i := by rw [qi.2.1]
  have wi := hM.wh hC (w := i) (by omega) qi.2.2.2.2.2
  refine Cm.of [some (.ref (ba 9)), some (.int (nI i)), some (.int (nI k0))] pn_X4 rfl (Nat.le_of_ble_eq_true rfl) ?_
  intro p e s m args below meth c A C hE hr hnt hn
  refine r_aload_n C dX4_inArray_0 rfl ?_
  refine r_iload_n C dX4_inArray_1 rfl ?_
  refine d_S (st := [.ref (ba 9)]) hX.1.stb C hE (D_isNoRow0 (ba := ba) (ra := ra) (hf := hf) (hq := hq) (kn := kn) (th := th) (sm := sm) (Y := Y) (i := i) hX (by first | omega | (simp [up2, *]; done) | (simp [up2, *]; omega) | (simp only [up2_eq]; omega) | (split <;> omega))) pk_X4_isNoRow qm_X4_119 rfl rfl (Nat.le_of_ble_eq_true rfl) dX4_inArray_2 ⟨(Nat.le_of_ble_eq_true rfl), (Nat.le_of_ble_eq_true rfl)⟩ ⟨(Nat.le_of_ble_eq_true rfl), (Nat.le_of_ble_eq_true rfl)⟩ ?_
  refine r_w (w' := WM cy ba ra hf hq kn th sm ++ Y) rfl ?_
  refine r_ifN_ne (a := 0) (tgt := 17) C (by first | omega | (simp [up2, *]; done) | (simp [up2, *]; omega) | (simp only [up2_eq]; omega) | (split <;> omega)) dX4_inArray_5 (by decide) (fun h5_1 => ?_) (fun h5_1 => ?_)
  · exact absurd h5_1 (by first | omega | (simp [up2, *]; done) | (simp [up2, *]; omega) | (simp only [up2_eq]; omega) | (split <;> omega))
  · skip
    refine r_aload_n C dX4_inArray_8 rfl ?_
    refine r_iload_n C dX4_inArray_9 rfl ?_
    refine r_iload_n C dX4_inArray_10 rfl ?_
    refine d_V (st := [.ref (ba 9)]) hX.1.stb C hE (D_isNoPlace0 (ba := ba) (ra := ra) (hf := hf) (hq := hq) (kn := kn) (th := th) (sm := sm) (Y := Y) (w := i) (k := k0) hX (by first | omega | (simp [up2, *]; done) | (simp [up2, *]; omega) | (simp only [up2_eq]; omega) | (split <;> omega)) (by first | omega | (simp [up2, *]; done) | (simp [up2, *]; omega) | (simp only [up2_eq]; omega) | (split <;> omega)) (by first | omega | (simp [up2, *]; done) | (simp [up2, *]; omega) | (simp only [up2_eq]; omega) | (split <;> omega)) (by first | omega | (simp [up2, *]; done) | (simp [up2, *]; omega) | (simp only [up2_eq]; omega) | (split <;> omega))) pk_X4_isNoPlace qm_X4_92 0 8 rfl rfl wm_0 rfl rfl (Nat.le_of_ble_eq_true rfl) dX4_inArray_11 ⟨(Nat.le_of_ble_eq_true rfl), (Nat.le_of_ble_eq_true rfl)⟩ ⟨(Nat.le_of_ble_eq_true rfl), (Nat.le_of_ble_eq_true rfl)⟩ ?_
    refine r_w (w' := WM cy ba ra hf hq kn th sm ++ Y) rfl ?_
    refine r_ifN_eq (a := 0) (tgt := 21) C (by first | omega | (simp [up2, *]; done) | (simp [up2, *]; omega) | (simp only [up2_eq]; omega) | (split <;> omega)) dX4_inArray_14 (by decide) (fun h14_2 => ?_) (fun h14_2 => ?_)
    · skip
      refine r_iconst (v := (nI 0)) C dX4_inArray_21 (by decide) ?_
      refine r_iconst (v := (nI 0)) C dX4_inArray_22 (by decide) ?_
      refine r_iconst (v := (nI 0)) C dX4_inArray_23 (by decide) ?_
      refine d_V (st := []) hX.1.stb C hE (D_fails0 (ba := ba) (ra := ra) (hf := hf) (hq := hq) (kn := kn) (th := th) (sm := sm) (Y := Y)  hX ) pk_X4_fails qm_X4_84 0 8 rfl rfl wm_0 rfl rfl (Nat.le_of_ble_eq_true rfl) dX4_inArray_24 ⟨(Nat.le_of_ble_eq_true rfl), (Nat.le_of_ble_eq_true rfl)⟩ ⟨(Nat.le_of_ble_eq_true rfl), (Nat.le_of_ble_eq_true rfl)⟩ ?_
      refine r_w (w' := WM cy ba ra hf hq kn (nI 0) sm ++ Y) rfl ?_
      refine r_ifN_eq (a := 0) (tgt := 34) C (by first | omega | (simp [up2, *]; done) | (simp [up2, *]; omega) | (simp only [up2_eq]; omega) | (split <;> omega)) dX4_inArray_27 (by decide) (fun h27_3 => ?_) (fun h27_3 => ?_)
      · skip
        refine r_aload_n C dX4_inArray_34 rfl ?_
        refine m_get (v := .ref (ba 0)) C 0 (by decide) qf_X4_15 rfl rfl dX4_inArray_35 ?_
        refine r_iload_n C dX4_inArray_38 rfl ?_
        refine m_rows (i := i) C (by first | omega | (simp [up2, *]; done) | (simp [up2, *]; omega) | (simp only [up2_eq]; omega) | (split <;> omega)) dX4_inArray_39 ?_
        refine r_iload_n C dX4_inArray_40 rfl ?_
        refine m_rld (i := i) (n := k0) C (by first | omega | (simp [up2, *]; done) | (simp [up2, *]; omega) | (simp only [up2_eq]; omega) | (split <;> omega)) (by first | omega | (simp [up2, *]; done) | (simp [up2, *]; omega) | (simp only [up2_eq]; omega) | (split <;> omega)) (by first | omega | (simp [up2, *]; done) | (simp [up2, *]; omega) | (simp only [up2_eq]; omega) | (split <;> omega)) dX4_inArray_41 ?_
        exact r_iret C hr dX4_inArray_42 ⟨rfl, rfl⟩ (Nat.le_of_ble_eq_true rfl) (Nat.le_of_ble_eq_true rfl)
      · exact absurd h27_3 (by first | omega | (simp [up2, *]; done) | (simp [up2, *]; omega) | (simp only [up2_eq]; omega) | (split <;> omega))
    · exact absurd h14_2 (by first | omega | (simp [up2, *]; done) | (simp [up2, *]; omega) | (simp only [up2_eq]; omega) | (split <;> omega))
