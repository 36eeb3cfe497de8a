/-! ===== 39.model2 -/
section PT_39
/-! CONTRACTS of the model: items, windows that go -/
theorem dX4_sizeOf_0 : decode cX4_sizeOf 0 = .ok (.iload_n 1, 1) := dqo_27 (kb_of ke_X4_sizeOf 0 rfl)
theorem dX4_sizeOf_1 : decode cX4_sizeOf 1 = .ok (.iconst 4, 1) := dqo_7 (kb_of ke_X4_sizeOf 1 rfl)
theorem dX4_sizeOf_2 : decode cX4_sizeOf 2 = .ok (.if_icmp .ge 13, 3) := dqo_162 0 13 (by decide) (kb_of ke_X4_sizeOf 2 rfl) (kb_of ke_X4_sizeOf 3 rfl) (kb_of ke_X4_sizeOf 4 rfl)
theorem dX4_sizeOf_5 : decode cX4_sizeOf 5 = .ok (.aload_n 0, 1) := dqo_42 (kb_of ke_X4_sizeOf 5 rfl)
theorem dX4_sizeOf_6 : decode cX4_sizeOf 6 = .ok (.getfield 15, 3) := dqo_180 0 15 (kb_of ke_X4_sizeOf 6 rfl) (kb_of ke_X4_sizeOf 7 rfl) (kb_of ke_X4_sizeOf 8 rfl)
theorem dX4_sizeOf_9 : decode cX4_sizeOf 9 = .ok (.iload_n 1, 1) := dqo_27 (kb_of ke_X4_sizeOf 9 rfl)
theorem dX4_sizeOf_10 : decode cX4_sizeOf 10 = .ok (.aaload, 1) := dqo_50 (kb_of ke_X4_sizeOf 10 rfl)
theorem dX4_sizeOf_11 : decode cX4_sizeOf 11 = .ok (.arraylength, 1) := dqo_190 (kb_of ke_X4_sizeOf 11 rfl)
theorem dX4_sizeOf_12 : decode cX4_sizeOf 12 = .ok (.goto 11, 3) := dqo_167 0 11 (by decide) (kb_of ke_X4_sizeOf 12 rfl) (kb_of ke_X4_sizeOf 13 rfl) (kb_of ke_X4_sizeOf 14 rfl)
theorem dX4_sizeOf_15 : decode cX4_sizeOf 15 = .ok (.aload_n 0, 1) := dqo_42 (kb_of ke_X4_sizeOf 15 rfl)
theorem dX4_sizeOf_16 : decode cX4_sizeOf 16 = .ok (.getfield 29, 3) := dqo_180 0 29 (kb_of ke_X4_sizeOf 16 rfl) (kb_of ke_X4_sizeOf 17 rfl) (kb_of ke_X4_sizeOf 18 rfl)
theorem dX4_sizeOf_19 : decode cX4_sizeOf 19 = .ok (.iload_n 1, 1) := dqo_27 (kb_of ke_X4_sizeOf 19 rfl)
theorem dX4_sizeOf_20 : decode cX4_sizeOf 20 = .ok (.iconst 4, 1) := dqo_7 (kb_of ke_X4_sizeOf 20 rfl)
theorem dX4_sizeOf_21 : decode cX4_sizeOf 21 = .ok (.isub, 1) := dqo_100 (kb_of ke_X4_sizeOf 21 rfl)
theorem dX4_sizeOf_22 : decode cX4_sizeOf 22 = .ok (.iaload, 1) := dqo_46 (kb_of ke_X4_sizeOf 22 rfl)
theorem dX4_sizeOf_23 : decode cX4_sizeOf 23 = .ok (.ireturn, 1) := dqo_172 (kb_of ke_X4_sizeOf 23 rfl)
set_option maxRecDepth 100000 in
set_option maxHeartbeats 4000000 in
theorem D_sizeOf {l : Launch} {D : va_G} {cy : Nat → ClassId} {X : (Nat → Prop) → State → Heap → Prop} {ba ra : Nat → Nat} {hf : Nat → Nat → Nat} {hq : Nat → Nat → Int32} {kn th : Int32} {sm : Int64} {Y : va_W} {w : Nat} (hX : EnvM X cy) (hw : w < 8) : Cd l D cy X yX4_sizeOf cX4_sizeOf 2 (some .int) (rmz 0 0) [.ref (ba 9), .int (nI w)] (WM cy ba ra hf hq kn th sm ++ Y) (some (.int (nI (hf 4 w)))) (WM cy ba ra hf hq kn th sm ++ Y) := by
  refine Cm.of [some (.ref (ba 9)), some (.int (nI w))] pn_X4 rfl (Nat.le_of_ble_eq_true rfl) ?_
  intro p e s m args below meth c A C hE hr hnt hn
  refine r_iload_n C dX4_sizeOf_0 rfl ?_
  refine r_iconst (v := (nI 4)) C dX4_sizeOf_1 (by decide) ?_
  refine r_icN_ge (a := w) (b := 4) (tgt := 15) C (by first | omega | (simp [up2, *]; done) | (simp [up2, *]; omega) | (simp only [up2_eq]; omega) | (split <;> omega)) (by first | omega | (simp [up2, *]; done) | (simp [up2, *]; omega) | (simp only [up2_eq]; omega) | (split <;> omega)) dX4_sizeOf_2 (by decide) (fun h2_1 => ?_) (fun h2_1 => ?_)
  · first
    | exfalso; first | omega | contradiction
    | skip
      refine r_aload_n C dX4_sizeOf_15 rfl ?_
      refine m_get (v := .ref (ba 4)) C 4 (by decide) qf_X4_29 rfl rfl dX4_sizeOf_16 ?_
      refine r_iload_n C dX4_sizeOf_19 rfl ?_
      refine r_iconst (v := (nI 4)) C dX4_sizeOf_20 (by decide) ?_
      refine r_isubN C dX4_sizeOf_21 (by first | omega | (simp [up2, *]; done) | (simp [up2, *]; omega) | (simp only [up2_eq]; omega) | (split <;> omega)) ?_
      refine m_ald (i := w - 4) (z := w) (v := hf 4 w) C 3 (by decide) (by decide) (show w - 4 < 4 from (by first | omega | (simp [up2, *]; done) | (simp [up2, *]; omega) | (simp only [up2_eq]; omega) | (split <;> omega))) (show 4 + (w - 4) = w from (by omega)) rfl dX4_sizeOf_22 ?_
      exact r_iret C hr dX4_sizeOf_23 ⟨rfl, rfl⟩ (Nat.le_of_ble_eq_true rfl) (Nat.le_of_ble_eq_true rfl)
  · first
    | exfalso; first | omega | contradiction
    | skip
      refine r_aload_n C dX4_sizeOf_5 rfl ?_
      refine m_get (v := .ref (ba 0)) C 0 (by decide) qf_X4_15 rfl rfl dX4_sizeOf_6 ?_
      refine r_iload_n C dX4_sizeOf_9 rfl ?_
      refine m_rows (i := w) C (by first | omega | (simp [up2, *]; done) | (simp [up2, *]; omega) | (simp only [up2_eq]; omega) | (split <;> omega)) dX4_sizeOf_10 ?_
      refine m_rlen (i := w) (v := hf 4 w) C (by first | omega | (simp [up2, *]; done) | (simp [up2, *]; omega) | (simp only [up2_eq]; omega) | (split <;> omega)) rfl dX4_sizeOf_11 ?_
      refine r_goto (tgt := 23) C dX4_sizeOf_12 (by decide) ?_
      exact r_iret C hr dX4_sizeOf_23 ⟨rfl, rfl⟩ (Nat.le_of_ble_eq_true rfl) (Nat.le_of_ble_eq_true rfl)
theorem dX4_item_0 : decode cX4_item 0 = .ok (.aload_n 0, 1) := dqo_42 (kb_of ke_X4_item 0 rfl)
theorem dX4_item_1 : decode cX4_item 1 = .ok (.getfield 15, 3) := dqo_180 0 15 (kb_of ke_X4_item 1 rfl) (kb_of ke_X4_item 2 rfl) (kb_of ke_X4_item 3 rfl)
theorem dX4_item_4 : decode cX4_item 4 = .ok (.aload_n 0, 1) := dqo_42 (kb_of ke_X4_item 4 rfl)
theorem dX4_item_5 : decode cX4_item 5 = .ok (.iload_n 1, 1) := dqo_27 (kb_of ke_X4_item 5 rfl)
theorem dX4_item_6 : decode cX4_item 6 = .ok (.invokevirtual 48, 3) := dqo_182 0 48 (kb_of ke_X4_item 6 rfl) (kb_of ke_X4_item 7 rfl) (kb_of ke_X4_item 8 rfl)
theorem dX4_item_9 : decode cX4_item 9 = .ok (.aaload, 1) := dqo_50 (kb_of ke_X4_item 9 rfl)
theorem dX4_item_10 : decode cX4_item 10 = .ok (.aload_n 0, 1) := dqo_42 (kb_of ke_X4_item 10 rfl)
theorem dX4_item_11 : decode cX4_item 11 = .ok (.iload_n 1, 1) := dqo_27 (kb_of ke_X4_item 11 rfl)
theorem dX4_item_12 : decode cX4_item 12 = .ok (.invokevirtual 52, 3) := dqo_182 0 52 (kb_of ke_X4_item 12 rfl) (kb_of ke_X4_item 13 rfl) (kb_of ke_X4_item 14 rfl)
theorem dX4_item_15 : decode cX4_item 15 = .ok (.iload_n 2, 1) := dqo_28 (kb_of ke_X4_item 15 rfl)
theorem dX4_item_16 : decode cX4_item 16 = .ok (.iadd, 1) := dqo_96 (kb_of ke_X4_item 16 rfl)
theorem dX4_item_17 : decode cX4_item 17 = .ok (.iaload, 1) := dqo_46 (kb_of ke_X4_item 17 rfl)
theorem dX4_item_18 : decode cX4_item 18 = .ok (.ireturn, 1) := dqo_172 (kb_of ke_X4_item 18 rfl)
set_option maxRecDepth 100000 in
set_option maxHeartbeats 4000000 in
theorem D_item {l : Launch} {D : va_G} {cy : Nat → ClassId} {X : (Nat → Prop) → State → Heap → Prop} {ba ra : Nat → Nat} {hf : Nat → Nat → Nat} {hq : Nat → Nat → Int32} {kn th : Int32} {sm : Int64} {Y : va_W} {f : Nat → Nat → Nat} {w : Nat} {k : Nat} (hX : EnvM X cy) (hC : CInv f) (hG : MG f hf) (hw : w < 8) (h5w : f 5 w = 1) (hk : f 3 w + k < hf 4 (f 1 w)) (h12 : hf 4 (f 1 w) ≤ 12) : Cd l D cy X yX4_item cX4_item 3 (some .int) (rmz 5 160) [.ref (ba 9), .int (nI w), .int (nI k)] (WM cy ba ra hf hq kn th sm ++ Y) (some (.int (hq (f 1 w) (f 3 w + k)))) (WM cy ba ra hf hq kn th sm ++ Y) := by
  have q1 := hC.al hw
  refine Cm.of [some (.ref (ba 9)), some (.int (nI w)), some (.int (nI k))] pn_X4 rfl (Nat.le_of_ble_eq_true rfl) ?_
  intro p e s m args below meth c A C hE hr hnt hn
  refine r_aload_n C dX4_item_0 rfl ?_
  refine m_get (v := .ref (ba 0)) C 0 (by decide) qf_X4_15 rfl rfl dX4_item_1 ?_
  refine r_aload_n C dX4_item_4 rfl ?_
  refine r_iload_n C dX4_item_5 rfl ?_
  refine d_V (st := [.ref (ba 0)]) hX.1.stb C hE (D_rowOf (ba := ba) (ra := ra) (hf := hf) (hq := hq) (kn := kn) (th := th) (sm := sm) (Y := Y) (f := f) (w := w) hX hC (MG.same (fun _ => rfl) (fun _ => rfl) hG) (by first | omega | (simp [up2, *]; done) | (simp [up2, *]; omega) | (simp only [up2_eq]; omega) | (split <;> omega)) (by first | omega | (simp [up2, *]; done) | (simp [up2, *]; omega) | (simp only [up2_eq]; omega) | (split <;> omega))) pk_X4_rowOf qm_X4_48 0 8 rfl rfl wm_0 rfl rfl (Nat.le_of_ble_eq_true rfl) dX4_item_6 ⟨(Nat.le_of_ble_eq_true rfl), (Nat.le_of_ble_eq_true rfl)⟩ ⟨(Nat.le_of_ble_eq_true rfl), (Nat.le_of_ble_eq_true rfl)⟩ ?_
  refine r_w (w' := WM cy ba ra hf hq kn th sm ++ Y) rfl ?_
  refine m_rows (i := f 1 w) C (by first | omega | (simp [up2, *]; done) | (simp [up2, *]; omega) | (simp only [up2_eq]; omega) | (split <;> omega)) dX4_item_9 ?_
  refine r_aload_n C dX4_item_10 rfl ?_
  refine r_iload_n C dX4_item_11 rfl ?_
  refine d_V (st := [.ref (ra (f 1 w))]) hX.1.stb C hE (D_begin (ba := ba) (ra := ra) (hf := hf) (hq := hq) (kn := kn) (th := th) (sm := sm) (Y := Y) (f := f) (w := w) hX hC (MG.same (fun _ => rfl) (fun _ => rfl) hG) (by first | omega | (simp [up2, *]; done) | (simp [up2, *]; omega) | (simp only [up2_eq]; omega) | (split <;> omega)) (by first | omega | (simp [up2, *]; done) | (simp [up2, *]; omega) | (simp only [up2_eq]; omega) | (split <;> omega))) pk_X4_begin qm_X4_52 0 8 rfl rfl wm_0 rfl rfl (Nat.le_of_ble_eq_true rfl) dX4_item_12 ⟨(Nat.le_of_ble_eq_true rfl), (Nat.le_of_ble_eq_true rfl)⟩ ⟨(Nat.le_of_ble_eq_true rfl), (Nat.le_of_ble_eq_true rfl)⟩ ?_
  refine r_w (w' := WM cy ba ra hf hq kn th sm ++ Y) rfl ?_
  refine r_iload_n C dX4_item_15 rfl ?_
  refine r_iaddN C dX4_item_16 ?_
  refine m_rld (i := f 1 w) (n := (f 3 w) + k) C (by first | omega | (simp [up2, *]; done) | (simp [up2, *]; omega) | (simp only [up2_eq]; omega) | (split <;> omega)) (by first | omega | (simp [up2, *]; done) | (simp [up2, *]; omega) | (simp only [up2_eq]; omega) | (split <;> omega)) (by first | omega | (simp [up2, *]; done) | (simp [up2, *]; omega) | (simp only [up2_eq]; omega) | (split <;> omega)) dX4_item_17 ?_
  exact r_iret C hr dX4_item_18 ⟨rfl, rfl⟩ (Nat.le_of_ble_eq_true rfl) (Nat.le_of_ble_eq_true rfl)
theorem pk_X4_isNoWhere : PkV RX4 yX4_isNoWhere cX4_isNoWhere 2 (some .boolean) 1 := ⟨⟨qi_X4_isNoWhere, qs_X4_isNoWhere, qz_X4, qc_X4_isNoWhere⟩, rfl, mh_X4.1, mh_X4.2, pd_8⟩
theorem dX4_isNoPlace_0 : decode cX4_isNoPlace 0 = .ok (.aload_n 0, 1) := dqo_42 (kb_of ke_X4_isNoPlace 0 rfl)
theorem dX4_isNoPlace_1 : decode cX4_isNoPlace 1 = .ok (.iload_n 1, 1) := dqo_27 (kb_of ke_X4_isNoPlace 1 rfl)
theorem dX4_isNoPlace_2 : decode cX4_isNoPlace 2 = .ok (.invokevirtual 55, 3) := dqo_182 0 55 (kb_of ke_X4_isNoPlace 2 rfl) (kb_of ke_X4_isNoPlace 3 rfl) (kb_of ke_X4_isNoPlace 4 rfl)
theorem dX4_isNoPlace_5 : decode cX4_isNoPlace 5 = .ok (.ifCond .ne 18, 3) := dqo_154 0 18 (by decide) (kb_of ke_X4_isNoPlace 5 rfl) (kb_of ke_X4_isNoPlace 6 rfl) (kb_of ke_X4_isNoPlace 7 rfl)
theorem dX4_isNoPlace_23 : decode cX4_isNoPlace 23 = .ok (.iconst 1, 1) := dqo_4 (kb_of ke_X4_isNoPlace 23 rfl)
theorem dX4_isNoPlace_24 : decode cX4_isNoPlace 24 = .ok (.goto 4, 3) := dqo_167 0 4 (by decide) (kb_of ke_X4_isNoPlace 24 rfl) (kb_of ke_X4_isNoPlace 25 rfl) (kb_of ke_X4_isNoPlace 26 rfl)
theorem dX4_isNoPlace_28 : decode cX4_isNoPlace 28 = .ok (.ireturn, 1) := dqo_172 (kb_of ke_X4_isNoPlace 28 rfl)
set_option maxRecDepth 100000 in
set_option maxHeartbeats 4000000 in
theorem D_isNoPlace1w {l : Launch} {D : va_G} {cy : Nat → ClassId} {X : (Nat → Prop) → State → Heap → Prop} {ba ra : Nat → Nat} {hf : Nat → Nat → Nat} {hq : Nat → Nat → Int32} {kn th : Int32} {sm : Int64} {Y : va_W} {f : Nat → Nat → Nat} {x : Int32} {y : Int32} (hX : EnvM X cy) (h5M : ∀ w, 4 ≤ w → w < 8 → hf 5 w = f 5 w ∧ f 5 w ≤ 1) (h4M : ∀ w, w < 4 → f 5 w = 1) (hno : noW f x) : Cd l D cy X yX4_isNoPlace cX4_isNoPlace 3 (some .boolean) (rmz 2 60) [.ref (ba 9), .int x, .int y] (WM cy ba ra hf hq kn th sm ++ Y) (some (.int (nI 1))) (WM cy ba ra hf hq kn th sm ++ Y) := by
  refine Cm.of [some (.ref (ba 9)), some (.int x), some (.int y)] pn_X4 rfl (Nat.le_of_ble_eq_true rfl) ?_
  intro p e s m args below meth c A C hE hr hnt hn
  refine r_aload_n C dX4_isNoPlace_0 rfl ?_
  refine r_iload_n C dX4_isNoPlace_1 rfl ?_
  refine d_V (st := []) hX.1.stb C hE (D_isNoWhere1 (ba := ba) (ra := ra) (hf := hf) (hq := hq) (kn := kn) (th := th) (sm := sm) (Y := Y) (f := f) (x := (x)) hX h5M h4M hno) pk_X4_isNoWhere qm_X4_55 0 8 rfl rfl wm_0 rfl rfl (Nat.le_of_ble_eq_true rfl) dX4_isNoPlace_2 ⟨(Nat.le_of_ble_eq_true rfl), (Nat.le_of_ble_eq_true rfl)⟩ ⟨(Nat.le_of_ble_eq_true rfl), (Nat.le_of_ble_eq_true rfl)⟩ ?_
  refine r_w (w' := WM cy ba ra hf hq kn th sm ++ Y) rfl ?_
  refine r_ifN_ne (a := 1) (tgt := 23) C (by first | omega | (simp [up2, *]; done) | (simp [up2, *]; omega) | (simp only [up2_eq]; omega) | (split <;> omega)) dX4_isNoPlace_5 (by decide) (fun h5_1 => ?_) (fun h5_1 => ?_)
  · skip
    refine r_iconst (v := (nI 1)) C dX4_isNoPlace_23 (by decide) ?_
    refine r_goto (tgt := 28) C dX4_isNoPlace_24 (by decide) ?_
    exact r_zret C hr (by first | omega | (simp [up2, *]; done) | (simp [up2, *]; omega) | (simp only [up2_eq]; omega) | (split <;> omega)) dX4_isNoPlace_28 ⟨rfl, rfl⟩ (Nat.le_of_ble_eq_true rfl) (Nat.le_of_ble_eq_true rfl)
  · exact absurd h5_1 (by first | omega | (simp [up2, *]; done) | (simp [up2, *]; omega) | (simp only [up2_eq]; omega) | (split <;> omega))
theorem pk_X4_sizeOf : PkV RX4 yX4_sizeOf cX4_sizeOf 2 (some .int) 1 := ⟨⟨qi_X4_sizeOf, qs_X4_sizeOf, qz_X4, qc_X4_sizeOf⟩, rfl, mh_X4.1, mh_X4.2, pd_1⟩
theorem dX4_isNoPlace_8 : decode cX4_isNoPlace 8 = .ok (.iload_n 2, 1) := dqo_28 (kb_of ke_X4_isNoPlace 8 rfl)
theorem dX4_isNoPlace_9 : decode cX4_isNoPlace 9 = .ok (.iconst 0, 1) := dqo_3 (kb_of ke_X4_isNoPlace 9 rfl)
theorem dX4_isNoPlace_10 : decode cX4_isNoPlace 10 = .ok (.aload_n 0, 1) := dqo_42 (kb_of ke_X4_isNoPlace 10 rfl)
theorem dX4_isNoPlace_11 : decode cX4_isNoPlace 11 = .ok (.iload_n 1, 1) := dqo_27 (kb_of ke_X4_isNoPlace 11 rfl)
theorem dX4_isNoPlace_12 : decode cX4_isNoPlace 12 = .ok (.invokevirtual 59, 3) := dqo_182 0 59 (kb_of ke_X4_isNoPlace 12 rfl) (kb_of ke_X4_isNoPlace 13 rfl) (kb_of ke_X4_isNoPlace 14 rfl)
theorem dX4_isNoPlace_15 : decode cX4_isNoPlace 15 = .ok (.iconst 1, 1) := dqo_4 (kb_of ke_X4_isNoPlace 15 rfl)
theorem dX4_isNoPlace_16 : decode cX4_isNoPlace 16 = .ok (.isub, 1) := dqo_100 (kb_of ke_X4_isNoPlace 16 rfl)
theorem dX4_isNoPlace_17 : decode cX4_isNoPlace 17 = .ok (.invokestatic 1, 3) := dqo_184 0 1 (kb_of ke_X4_isNoPlace 17 rfl) (kb_of ke_X4_isNoPlace 18 rfl) (kb_of ke_X4_isNoPlace 19 rfl)
theorem dX4_isNoPlace_20 : decode cX4_isNoPlace 20 = .ok (.ifCond .ne 7, 3) := dqo_154 0 7 (by decide) (kb_of ke_X4_isNoPlace 20 rfl) (kb_of ke_X4_isNoPlace 21 rfl) (kb_of ke_X4_isNoPlace 22 rfl)
set_option maxRecDepth 100000 in
set_option maxHeartbeats 4000000 in
theorem D_isNoPlace1 {l : Launch} {D : va_G} {cy : Nat → ClassId} {X : (Nat → Prop) → State → Heap → Prop} {ba ra : Nat → Nat} {hf : Nat → Nat → Nat} {hq : Nat → Nat → Int32} {kn th : Int32} {sm : Int64} {Y : va_W} {w : Nat} {y : Int32} (hX : EnvM X cy) (hw : w < 8) (hv5 : 4 ≤ w → hf 5 w = 1) (hs12 : hf 4 w ≤ 12) (hno : ¬ (0 ≤ y ∧ y < nI (hf 4 w))) : Cd l D cy X yX4_isNoPlace cX4_isNoPlace 3 (some .boolean) (rmz 2 60) [.ref (ba 9), .int (nI w), .int y] (WM cy ba ra hf hq kn th sm ++ Y) (some (.int (nI 1))) (WM cy ba ra hf hq kn th sm ++ Y) := by
  refine Cm.of [some (.ref (ba 9)), some (.int (nI w)), some (.int y)] pn_X4 rfl (Nat.le_of_ble_eq_true rfl) ?_
  intro p e s m args below meth c A C hE hr hnt hn
  refine r_aload_n C dX4_isNoPlace_0 rfl ?_
  refine r_iload_n C dX4_isNoPlace_1 rfl ?_
  refine d_V (st := []) hX.1.stb C hE (D_isNoWhere0 (ba := ba) (ra := ra) (hf := hf) (hq := hq) (kn := kn) (th := th) (sm := sm) (Y := Y) (w := w) hX (by first | omega | (simp [up2, *]; done) | (simp [up2, *]; omega) | (simp only [up2_eq]; omega) | (split <;> omega)) hv5) pk_X4_isNoWhere qm_X4_55 0 8 rfl rfl wm_0 rfl rfl (Nat.le_of_ble_eq_true rfl) dX4_isNoPlace_2 ⟨(Nat.le_of_ble_eq_true rfl), (Nat.le_of_ble_eq_true rfl)⟩ ⟨(Nat.le_of_ble_eq_true rfl), (Nat.le_of_ble_eq_true rfl)⟩ ?_
  refine r_w (w' := WM cy ba ra hf hq kn th sm ++ Y) rfl ?_
  refine r_ifN_ne (a := 0) (tgt := 23) C (by first | omega | (simp [up2, *]; done) | (simp [up2, *]; omega) | (simp only [up2_eq]; omega) | (split <;> omega)) dX4_isNoPlace_5 (by decide) (fun h5_1 => ?_) (fun h5_1 => ?_)
  · exact absurd h5_1 (by first | omega | (simp [up2, *]; done) | (simp [up2, *]; omega) | (simp only [up2_eq]; omega) | (split <;> omega))
  · skip
    refine r_iload_n C dX4_isNoPlace_8 rfl ?_
    refine r_iconst (v := (nI 0)) C dX4_isNoPlace_9 (by decide) ?_
    refine r_aload_n C dX4_isNoPlace_10 rfl ?_
    refine r_iload_n C dX4_isNoPlace_11 rfl ?_
    refine d_V (st := [.int (nI 0), .int y]) hX.1.stb C hE (D_sizeOf (ba := ba) (ra := ra) (hf := hf) (hq := hq) (kn := kn) (th := th) (sm := sm) (Y := Y) (w := w) hX (by first | omega | (simp [up2, *]; done) | (simp [up2, *]; omega) | (simp only [up2_eq]; omega) | (split <;> omega))) pk_X4_sizeOf qm_X4_59 0 8 rfl rfl wm_0 rfl rfl (Nat.le_of_ble_eq_true rfl) dX4_isNoPlace_12 ⟨(Nat.le_of_ble_eq_true rfl), (Nat.le_of_ble_eq_true rfl)⟩ ⟨(Nat.le_of_ble_eq_true rfl), (Nat.le_of_ble_eq_true rfl)⟩ ?_
    refine r_w (w' := WM cy ba ra hf hq kn th sm ++ Y) rfl ?_
    refine r_iconst (v := (nI 1)) C dX4_isNoPlace_15 (by decide) ?_
    refine r_isub C dX4_isNoPlace_16 ?_
    refine d_S (st := []) hX.1.stb C hE (D_isIn0 (ba := ba) (ra := ra) (hf := hf) (hq := hq) (kn := kn) (th := th) (sm := sm) (Y := Y) (x := (y)) (y := ((nI 0))) (z := (((nI (hf 4 w)) - (nI 1)))) hX (fun z => hno ⟨z.1, (le_pred hs12).mp z.2⟩)) pk_X4_isIn qm_X4_1 rfl rfl (Nat.le_of_ble_eq_true rfl) dX4_isNoPlace_17 ⟨(Nat.le_of_ble_eq_true rfl), (Nat.le_of_ble_eq_true rfl)⟩ ⟨(Nat.le_of_ble_eq_true rfl), (Nat.le_of_ble_eq_true rfl)⟩ ?_
    refine r_w (w' := WM cy ba ra hf hq kn th sm ++ Y) rfl ?_
    refine r_ifN_ne (a := 0) (tgt := 27) C (by first | omega | (simp [up2, *]; done) | (simp [up2, *]; omega) | (simp only [up2_eq]; omega) | (split <;> omega)) dX4_isNoPlace_20 (by decide) (fun h20_2 => ?_) (fun h20_2 => ?_)
    · exact absurd h20_2 (by first | omega | (simp [up2, *]; done) | (simp [up2, *]; omega) | (simp only [up2_eq]; omega) | (split <;> omega))
    · skip
      refine r_iconst (v := (nI 1)) C dX4_isNoPlace_23 (by decide) ?_
      refine r_goto (tgt := 28) C dX4_isNoPlace_24 (by decide) ?_
      exact r_zret C hr (by first | omega | (simp [up2, *]; done) | (simp [up2, *]; omega) | (simp only [up2_eq]; omega) | (split <;> omega)) dX4_isNoPlace_28 ⟨rfl, rfl⟩ (Nat.le_of_ble_eq_true rfl) (Nat.le_of_ble_eq_true rfl)
theorem dX4_isNoPlace_27 : decode cX4_isNoPlace 27 = .ok (.iconst 0, 1) := dqo_3 (kb_of ke_X4_isNoPlace 27 rfl)
set_option maxRecDepth 100000 in
set_option maxHeartbeats 4000000 in
theorem D_isNoPlace0 {l : Launch} {D : va_G} {cy : Nat → ClassId} {X : (Nat → Prop) → State → Heap → Prop} {ba ra : Nat → Nat} {hf : Nat → Nat → Nat} {hq : Nat → Nat → Int32} {kn th : Int32} {sm : Int64} {Y : va_W} {w : Nat} {k : Nat} (hX : EnvM X cy) (hw : w < 8) (hv5 : 4 ≤ w → hf 5 w = 1) (hs12 : hf 4 w ≤ 12) (hk : k < hf 4 w) : Cd l D cy X yX4_isNoPlace cX4_isNoPlace 3 (some .boolean) (rmz 2 60) [.ref (ba 9), .int (nI w), .int (nI k)] (WM cy ba ra hf hq kn th sm ++ Y) (some (.int (nI 0))) (WM cy ba ra hf hq kn th sm ++ Y) := by
  refine Cm.of [some (.ref (ba 9)), some (.int (nI w)), some (.int (nI k))] pn_X4 rfl (Nat.le_of_ble_eq_true rfl) ?_
  intro p e s m args below meth c A C hE hr hnt hn
  refine r_aload_n C dX4_isNoPlace_0 rfl ?_
  refine r_iload_n C dX4_isNoPlace_1 rfl ?_
  refine d_V (st := []) hX.1.stb C hE (D_isNoWhere0 (ba := ba) (ra := ra) (hf := hf) (hq := hq) (kn := kn) (th := th) (sm := sm) (Y := Y) (w := w) hX (by first | omega | (simp [up2, *]; done) | (simp [up2, *]; omega) | (simp only [up2_eq]; omega) | (split <;> omega)) hv5) pk_X4_isNoWhere qm_X4_55 0 8 rfl rfl wm_0 rfl rfl (Nat.le_of_ble_eq_true rfl) dX4_isNoPlace_2 ⟨(Nat.le_of_ble_eq_true rfl), (Nat.le_of_ble_eq_true rfl)⟩ ⟨(Nat.le_of_ble_eq_true rfl), (Nat.le_of_ble_eq_true rfl)⟩ ?_
  refine r_w (w' := WM cy ba ra hf hq kn th sm ++ Y) rfl ?_
  refine r_ifN_ne (a := 0) (tgt := 23) C (by first | omega | (simp [up2, *]; done) | (simp [up2, *]; omega) | (simp only [up2_eq]; omega) | (split <;> omega)) dX4_isNoPlace_5 (by decide) (fun h5_1 => ?_) (fun h5_1 => ?_)
  · exact absurd h5_1 (by first | omega | (simp [up2, *]; done) | (simp [up2, *]; omega) | (simp only [up2_eq]; omega) | (split <;> omega))
  · skip
    refine r_iload_n C dX4_isNoPlace_8 rfl ?_
    refine r_iconst (v := (nI 0)) C dX4_isNoPlace_9 (by decide) ?_
    refine r_aload_n C dX4_isNoPlace_10 rfl ?_
    refine r_iload_n C dX4_isNoPlace_11 rfl ?_
    refine d_V (st := [.int (nI 0), .int (nI k)]) hX.1.stb C hE (D_sizeOf (ba := ba) (ra := ra) (hf := hf) (hq := hq) (kn := kn) (th := th) (sm := sm) (Y := Y) (w := w) hX (by first | omega | (simp [up2, *]; done) | (simp [up2, *]; omega) | (simp only [up2_eq]; omega) | (split <;> omega))) pk_X4_sizeOf qm_X4_59 0 8 rfl rfl wm_0 rfl rfl (Nat.le_of_ble_eq_true rfl) dX4_isNoPlace_12 ⟨(Nat.le_of_ble_eq_true rfl), (Nat.le_of_ble_eq_true rfl)⟩ ⟨(Nat.le_of_ble_eq_true rfl), (Nat.le_of_ble_eq_true rfl)⟩ ?_
    refine r_w (w' := WM cy ba ra hf hq kn th sm ++ Y) rfl ?_
    refine r_iconst (v := (nI 1)) C dX4_isNoPlace_15 (by decide) ?_
    refine r_isubN C dX4_isNoPlace_16 (by first | omega | (simp [up2, *]; done) | (simp [up2, *]; omega) | (simp only [up2_eq]; omega) | (split <;> omega)) ?_
    refine d_S (st := []) hX.1.stb C hE (D_isInN (ba := ba) (ra := ra) (hf := hf) (hq := hq) (kn := kn) (th := th) (sm := sm) (Y := Y) (a0 := k) (b0 := 0) (d0 := ((hf 4 w) - 1)) hX (by first | omega | (simp [up2, *]; done) | (simp [up2, *]; omega) | (simp only [up2_eq]; omega) | (split <;> omega)) (by first | omega | (simp [up2, *]; done) | (simp [up2, *]; omega) | (simp only [up2_eq]; omega) | (split <;> omega)) (by first | omega | (simp [up2, *]; done) | (simp [up2, *]; omega) | (simp only [up2_eq]; omega) | (split <;> omega))) pk_X4_isIn qm_X4_1 rfl rfl (Nat.le_of_ble_eq_true rfl) dX4_isNoPlace_17 ⟨(Nat.le_of_ble_eq_true rfl), (Nat.le_of_ble_eq_true rfl)⟩ ⟨(Nat.le_of_ble_eq_true rfl), (Nat.le_of_ble_eq_true rfl)⟩ ?_
    refine r_w (w' := WM cy ba ra hf hq kn th sm ++ Y) rfl ?_
    refine r_ifN_ne (a := 1) (tgt := 27) C (by first | omega | (simp [up2, *]; done) | (simp [up2, *]; omega) | (simp only [up2_eq]; omega) | (split <;> omega)) dX4_isNoPlace_20 (by decide) (fun h20_2 => ?_) (fun h20_2 => ?_)
    · skip
      refine r_iconst (v := (nI 0)) C dX4_isNoPlace_27 (by decide) ?_
      exact r_zret C hr (by first | omega | (simp [up2, *]; done) | (simp [up2, *]; omega) | (simp only [up2_eq]; omega) | (split <;> omega)) dX4_isNoPlace_28 ⟨rfl, rfl⟩ (Nat.le_of_ble_eq_true rfl) (Nat.le_of_ble_eq_true rfl)
    · exact absurd h20_2 (by first | omega | (simp [up2, *]; done) | (simp [up2, *]; omega) | (simp only [up2_eq]; omega) | (split <;> omega))
theorem pk_X4_item : PkV RX4 yX4_item cX4_item 3 (some .int) 2 := ⟨⟨qi_X4_item, qs_X4_item, qz_X4, qc_X4_item⟩, rfl, mh_X4.1, mh_X4.2, pd_0⟩
theorem dX4_items_0 : decode cX4_items 0 = .ok (.aload_n 0, 1) := dqo_42 (kb_of ke_X4_items 0 rfl)
theorem dX4_items_1 : decode cX4_items 1 = .ok (.iload_n 1, 1) := dqo_27 (kb_of ke_X4_items 1 rfl)
theorem dX4_items_2 : decode cX4_items 2 = .ok (.invokevirtual 59, 3) := dqo_182 0 59 (kb_of ke_X4_items 2 rfl) (kb_of ke_X4_items 3 rfl) (kb_of ke_X4_items 4 rfl)
theorem dX4_items_5 : decode cX4_items 5 = .ok (.newarray .int, 2) := dqo_188_10 (kb_of ke_X4_items 5 rfl) (kb_of ke_X4_items 6 rfl)
theorem dX4_items_7 : decode cX4_items 7 = .ok (.astore_n 2, 1) := dqo_77 (kb_of ke_X4_items 7 rfl)
theorem dX4_items_8 : decode cX4_items 8 = .ok (.iconst 0, 1) := dqo_3 (kb_of ke_X4_items 8 rfl)
theorem dX4_items_9 : decode cX4_items 9 = .ok (.istore_n 3, 1) := dqo_62 (kb_of ke_X4_items 9 rfl)
theorem dX4_items_10 : decode cX4_items 10 = .ok (.iload_n 3, 1) := dqo_29 (kb_of ke_X4_items 10 rfl)
theorem dX4_items_11 : decode cX4_items 11 = .ok (.aload_n 2, 1) := dqo_44 (kb_of ke_X4_items 11 rfl)
theorem dX4_items_12 : decode cX4_items 12 = .ok (.arraylength, 1) := dqo_190 (kb_of ke_X4_items 12 rfl)
theorem dX4_items_13 : decode cX4_items 13 = .ok (.if_icmp .ge 18, 3) := dqo_162 0 18 (by decide) (kb_of ke_X4_items 13 rfl) (kb_of ke_X4_items 14 rfl) (kb_of ke_X4_items 15 rfl)
theorem dX4_items_16 : decode cX4_items 16 = .ok (.aload_n 2, 1) := dqo_44 (kb_of ke_X4_items 16 rfl)
theorem dX4_items_17 : decode cX4_items 17 = .ok (.iload_n 3, 1) := dqo_29 (kb_of ke_X4_items 17 rfl)
theorem dX4_items_18 : decode cX4_items 18 = .ok (.aload_n 0, 1) := dqo_42 (kb_of ke_X4_items 18 rfl)
theorem dX4_items_19 : decode cX4_items 19 = .ok (.iload_n 1, 1) := dqo_27 (kb_of ke_X4_items 19 rfl)
theorem dX4_items_20 : decode cX4_items 20 = .ok (.iload_n 3, 1) := dqo_29 (kb_of ke_X4_items 20 rfl)
theorem dX4_items_21 : decode cX4_items 21 = .ok (.invokevirtual 62, 3) := dqo_182 0 62 (kb_of ke_X4_items 21 rfl) (kb_of ke_X4_items 22 rfl) (kb_of ke_X4_items 23 rfl)
theorem dX4_items_24 : decode cX4_items 24 = .ok (.iastore, 1) := dqo_79 (kb_of ke_X4_items 24 rfl)
theorem dX4_items_25 : decode cX4_items 25 = .ok (.iinc 3 1, 3) := dqo_132 3 1 (by decide) (kb_of ke_X4_items 25 rfl) (kb_of ke_X4_items 26 rfl) (kb_of ke_X4_items 27 rfl)
theorem dX4_items_28 : decode cX4_items 28 = .ok (.goto (-18), 3) := dqo_167 255 238 (by decide) (kb_of ke_X4_items 28 rfl) (kb_of ke_X4_items 29 rfl) (kb_of ke_X4_items 30 rfl)
theorem dX4_items_31 : decode cX4_items 31 = .ok (.aload_n 2, 1) := dqo_44 (kb_of ke_X4_items 31 rfl)
theorem dX4_items_32 : decode cX4_items 32 = .ok (.areturn, 1) := dqo_176 (kb_of ke_X4_items 32 rfl)
set_option maxRecDepth 100000 in
set_option maxHeartbeats 4000000 in
theorem D_items {l : Launch} {D : va_G} {cy : Nat → ClassId} {X : (Nat → Prop) → State → Heap → Prop} {ba ra : Nat → Nat} {hf : Nat → Nat → Nat} {hq : Nat → Nat → Int32} {kn th : Int32} {sm : Int64} {Y : va_W} {f : Nat → Nat → Nat} {w : Nat} (hX : EnvM X cy) (hC : CInv f) (hG : MG f hf) (hw : w < 8) (h5w : f 5 w = 1) (hb : f 3 w + hf 4 w ≤ hf 4 (f 1 w)) (h12 : hf 4 (f 1 w) ≤ 12) : Cm l D cy X yX4_items cX4_items 4 (some (.array .int)) (rmk 6 1 12 220) [.ref (ba 9), .int (nI w)] (WM cy ba ra hf hq kn th sm ++ Y) (fun v1 w1 => ∃ b9 : Nat, v1 = some (.ref b9) ∧ w1 = WM cy ba ra hf hq kn th sm ++ (Y ++ [(b9, .inl (cy 1, hf 4 w, .inl (cutF (fun z => hq (f 1 w) (f 3 w + z)) (hf 4 w))))])) (fun _ => False) := by
  have q1 := hC.al hw
  refine Cm.of [some (.ref (ba 9)), some (.int (nI w)), none, none] pn_X4 rfl (Nat.le_of_ble_eq_true rfl) ?_
  intro p e s m args below meth c A C hE hr hnt hn
  refine r_aload_n C dX4_items_0 rfl ?_
  refine r_iload_n C dX4_items_1 rfl ?_
  refine d_V (st := []) hX.1.stb C hE (D_sizeOf (ba := ba) (ra := ra) (hf := hf) (hq := hq) (kn := kn) (th := th) (sm := sm) (Y := Y) (w := w) hX (by first | omega | (simp [up2, *]; done) | (simp [up2, *]; omega) | (simp only [up2_eq]; omega) | (split <;> omega))) pk_X4_sizeOf qm_X4_59 0 8 rfl rfl wm_0 rfl rfl (Nat.le_of_ble_eq_true rfl) dX4_items_2 ⟨(Nat.le_of_ble_eq_true rfl), (Nat.le_of_ble_eq_true rfl)⟩ ⟨(Nat.le_of_ble_eq_true rfl), (Nat.le_of_ble_eq_true rfl)⟩ ?_
  refine r_w (w' := WM cy ba ra hf hq kn th sm ++ Y) rfl ?_
  refine r_newT C .int .int 1 rfl (by simp) qa_int (n := hf 4 w) (show hf 4 w < 1000000 from Nat.lt_of_le_of_lt (show hf 4 w ≤ 12 from by first | omega | (simp [up2, *]; done) | (simp [up2, *]; omega) | (simp only [up2_eq]; omega) | (split <;> omega)) (by decide)) (1) (12) (Nat.le_of_ble_eq_true rfl) (Nat.add_le_add (Nat.le_refl _) (show hf 4 w ≤ 12 from by first | omega | (simp [up2, *]; done) | (simp [up2, *]; omega) | (simp only [up2_eq]; omega) | (split <;> omega))) (Nat.le_of_ble_eq_true rfl) (Nat.le_of_ble_eq_true rfl) dX4_items_5 (fun b_1 => ?_)
  refine r_w (w' := WM cy ba ra hf hq kn th sm ++ (Y ++ [(b_1, .inl (cy 1, hf 4 w, .inl (fun _ => 0)))])) (by simp only [List.append_assoc, List.cons_append, List.nil_append]) ?_
  refine r_astore_n C dX4_items_7 (by decide) rfl ?_
  refine r_iconst (v := (nI 0)) C dX4_items_8 (by decide) ?_
  refine r_istore_n C dX4_items_9 (by decide) rfl ?_
  refine r_w (w' := WM cy ba ra hf hq kn th sm ++ (Y ++ [(b_1, .inl (cy 1, hf 4 w, .inl (cutF (fun z => hq (f 1 w) (f 3 w + z)) 0)))])) (by rw [cutF_0]) ?_
  have L10 : ∀ (d : Nat) (k : Nat), (hk : k + d = hf 4 w) → vC p l e (rmk 6 1 12 220) s m args below meth c D A (vx_MQ below (vG (fun v1 w1 => ∃ b9 : Nat, v1 = some (.ref b9) ∧ w1 = WM cy ba ra hf hq kn th sm ++ (Y ++ [(b9, .inl (cy 1, hf 4 w, .inl (cutF (fun z => hq (f 1 w) (f 3 w + z)) (hf 4 w))))])) D vwCl A) (vGX (fun _ => False) D vwCl (WM cy ba ra hf hq kn th sm ++ Y) A) args s (rmk 6 1 12 220).cells (rmk 6 1 12 220).slots A) 4 1 12 (WM cy ba ra hf hq kn th sm ++ (Y ++ [(b_1, .inl (cy 1, hf 4 w, .inl (cutF (fun z => hq (f 1 w) (f 3 w + z)) k)))])) [some (.ref (ba 9)), some (.int (nI w)), some (.ref b_1), some (.int (nI k))] 10 [] := by
    intro d
    induction d with
    | zero =>
      intro k hk
      refine r_iload_n C dX4_items_10 rfl ?_
      refine r_aload_n C dX4_items_11 rfl ?_
      refine x_len C (t0 := 1) 0 rfl rfl dX4_items_12 ?_
      refine r_icN_ge (a := k) (b := (hf 4 w)) (tgt := 31) C (by first | omega | (simp [up2, *]; done) | (simp [up2, *]; omega) | (simp only [up2_eq]; omega) | (split <;> omega)) (by first | omega | (simp [up2, *]; done) | (simp [up2, *]; omega) | (simp only [up2_eq]; omega) | (split <;> omega)) dX4_items_13 (by decide) (fun h13_2 => ?_) (fun h13_2 => ?_)
      · first
        | exfalso; first | omega | contradiction
        | skip
          have e9 : k = hf 4 w := by omega
          subst e9
          refine r_aload_n C dX4_items_31 rfl ?_
          exact r_aret C hr (Or.inr ⟨_, rfl⟩) dX4_items_32 ⟨_, rfl, rfl⟩ (Nat.le_of_ble_eq_true rfl) (Nat.le_of_ble_eq_true rfl)
      · first
        | exfalso; first | omega | contradiction
        | skip
          refine r_aload_n C dX4_items_16 rfl ?_
          refine r_iload_n C dX4_items_17 rfl ?_
          refine r_aload_n C dX4_items_18 rfl ?_
          refine r_iload_n C dX4_items_19 rfl ?_
          refine r_iload_n C dX4_items_20 rfl ?_
          refine d_V (st := [.int (nI k), .ref b_1]) hX.1.stb C hE (D_item (ba := ba) (ra := ra) (hf := hf) (hq := hq) (kn := kn) (th := th) (sm := sm) (f := f) (w := w) (k := k) hX hC (MG.same (fun _ => rfl) (fun _ => rfl) hG) (by first | omega | (simp [up2, *]; done) | (simp [up2, *]; omega) | (simp only [up2_eq]; omega) | (split <;> omega)) (by first | omega | (simp [up2, *]; done) | (simp [up2, *]; omega) | (simp only [up2_eq]; omega) | (split <;> omega)) (by first | omega | (simp [up2, *]; done) | (simp [up2, *]; omega) | (simp only [up2_eq]; omega) | (split <;> omega)) (by first | omega | (simp [up2, *]; done) | (simp [up2, *]; omega) | (simp only [up2_eq]; omega) | (split <;> omega))) pk_X4_item qm_X4_62 0 8 rfl rfl wm_0 rfl rfl (Nat.le_of_ble_eq_true rfl) dX4_items_21 ⟨(Nat.le_of_ble_eq_true rfl), (Nat.le_of_ble_eq_true rfl)⟩ ⟨(Nat.le_of_ble_eq_true rfl), (Nat.le_of_ble_eq_true rfl)⟩ ?_
          refine r_w (w' := WM cy ba ra hf hq kn th sm ++ (Y ++ [(b_1, .inl (cy 1, hf 4 w, .inl (cutF (fun z => hq (f 1 w) (f 3 w + z)) k)))])) rfl ?_
          refine x_ast C (i := k) (f := cutF (fun z => hq (f 1 w) (f 3 w + z)) k) (E' := [(b_1, .inl (cy 1, hf 4 w, .inl (upd (cutF (fun z => hq (f 1 w) (f 3 w + z)) k) k (hq (f 1 w) (f 3 w + k)))))]) 0 rfl (by first | omega | (simp [up2, *]; done) | (simp [up2, *]; omega) | (simp only [up2_eq]; omega) | (split <;> omega)) (by first | omega | (simp [up2, *]; done) | (simp [up2, *]; omega) | (simp only [up2_eq]; omega) | (split <;> omega)) rfl dX4_items_24 ?_
          refine r_iincN C dX4_items_25 rfl (by decide) rfl ?_
          refine r_goto (tgt := 10) C dX4_items_28 (by decide) ?_
          refine r_w (w' := WM cy ba ra hf hq kn th sm ++ (Y ++ [(b_1, .inl (cy 1, hf 4 w, .inl (cutF (fun z => hq (f 1 w) (f 3 w + z)) (k + 1))))])) (by rw [cutF_up (by rfl)]) ?_
          exact (Nat.not_lt_zero _ (by omega)).elim
    | succ d ih_L10 =>
      intro k hk
      refine r_iload_n C dX4_items_10 rfl ?_
      refine r_aload_n C dX4_items_11 rfl ?_
      refine x_len C (t0 := 1) 0 rfl rfl dX4_items_12 ?_
      refine r_icN_ge (a := k) (b := (hf 4 w)) (tgt := 31) C (by first | omega | (simp [up2, *]; done) | (simp [up2, *]; omega) | (simp only [up2_eq]; omega) | (split <;> omega)) (by first | omega | (simp [up2, *]; done) | (simp [up2, *]; omega) | (simp only [up2_eq]; omega) | (split <;> omega)) dX4_items_13 (by decide) (fun h13_3 => ?_) (fun h13_3 => ?_)
      · first
        | exfalso; first | omega | contradiction
        | skip
          have e9 : k = hf 4 w := by omega
          subst e9
          refine r_aload_n C dX4_items_31 rfl ?_
          exact r_aret C hr (Or.inr ⟨_, rfl⟩) dX4_items_32 ⟨_, rfl, rfl⟩ (Nat.le_of_ble_eq_true rfl) (Nat.le_of_ble_eq_true rfl)
      · first
        | exfalso; first | omega | contradiction
        | skip
          refine r_aload_n C dX4_items_16 rfl ?_
          refine r_iload_n C dX4_items_17 rfl ?_
          refine r_aload_n C dX4_items_18 rfl ?_
          refine r_iload_n C dX4_items_19 rfl ?_
          refine r_iload_n C dX4_items_20 rfl ?_
          refine d_V (st := [.int (nI k), .ref b_1]) hX.1.stb C hE (D_item (ba := ba) (ra := ra) (hf := hf) (hq := hq) (kn := kn) (th := th) (sm := sm) (f := f) (w := w) (k := k) hX hC (MG.same (fun _ => rfl) (fun _ => rfl) hG) (by first | omega | (simp [up2, *]; done) | (simp [up2, *]; omega) | (simp only [up2_eq]; omega) | (split <;> omega)) (by first | omega | (simp [up2, *]; done) | (simp [up2, *]; omega) | (simp only [up2_eq]; omega) | (split <;> omega)) (by first | omega | (simp [up2, *]; done) | (simp [up2, *]; omega) | (simp only [up2_eq]; omega) | (split <;> omega)) (by first | omega | (simp [up2, *]; done) | (simp [up2, *]; omega) | (simp only [up2_eq]; omega) | (split <;> omega))) pk_X4_item qm_X4_62 0 8 rfl rfl wm_0 rfl rfl (Nat.le_of_ble_eq_true rfl) dX4_items_21 ⟨(Nat.le_of_ble_eq_true rfl), (Nat.le_of_ble_eq_true rfl)⟩ ⟨(Nat.le_of_ble_eq_true rfl), (Nat.le_of_ble_eq_true rfl)⟩ ?_
          refine r_w (w' := WM cy ba ra hf hq kn th sm ++ (Y ++ [(b_1, .inl (cy 1, hf 4 w, .inl (cutF (fun z => hq (f 1 w) (f 3 w + z)) k)))])) rfl ?_
          refine x_ast C (i := k) (f := cutF (fun z => hq (f 1 w) (f 3 w + z)) k) (E' := [(b_1, .inl (cy 1, hf 4 w, .inl (upd (cutF (fun z => hq (f 1 w) (f 3 w + z)) k) k (hq (f 1 w) (f 3 w + k)))))]) 0 rfl (by first | omega | (simp [up2, *]; done) | (simp [up2, *]; omega) | (simp only [up2_eq]; omega) | (split <;> omega)) (by first | omega | (simp [up2, *]; done) | (simp [up2, *]; omega) | (simp only [up2_eq]; omega) | (split <;> omega)) rfl dX4_items_24 ?_
          refine r_iincN C dX4_items_25 rfl (by decide) rfl ?_
          refine r_goto (tgt := 10) C dX4_items_28 (by decide) ?_
          refine r_w (w' := WM cy ba ra hf hq kn th sm ++ (Y ++ [(b_1, .inl (cy 1, hf 4 w, .inl (cutF (fun z => hq (f 1 w) (f 3 w + z)) (k + 1))))])) (by rw [cutF_up (by rfl)]) ?_
          exact ih_L10 (k + 1) (by first | omega | (simp [up2, *]; done) | (simp [up2, *]; omega) | (simp only [up2_eq]; omega) | (split <;> omega))
  exact L10 (hf 4 w) 0 (by first | omega | (simp [up2, *]; done) | (simp [up2, *]; omega) | (simp only [up2_eq]; omega) | (split <;> omega))
theorem dX4_isFull_0 : decode cX4_isFull 0 = .ok (.aload_n 0, 1) := dqo_42 (kb_of ke_X4_isFull 0 rfl)
theorem dX4_isFull_1 : decode cX4_isFull 1 = .ok (.getfield 15, 3) := dqo_180 0 15 (kb_of ke_X4_isFull 1 rfl) (kb_of ke_X4_isFull 2 rfl) (kb_of ke_X4_isFull 3 rfl)
theorem dX4_isFull_4 : decode cX4_isFull 4 = .ok (.aload_n 0, 1) := dqo_42 (kb_of ke_X4_isFull 4 rfl)
theorem dX4_isFull_5 : decode cX4_isFull 5 = .ok (.iload_n 1, 1) := dqo_27 (kb_of ke_X4_isFull 5 rfl)
theorem dX4_isFull_6 : decode cX4_isFull 6 = .ok (.invokevirtual 48, 3) := dqo_182 0 48 (kb_of ke_X4_isFull 6 rfl) (kb_of ke_X4_isFull 7 rfl) (kb_of ke_X4_isFull 8 rfl)
theorem dX4_isFull_9 : decode cX4_isFull 9 = .ok (.aaload, 1) := dqo_50 (kb_of ke_X4_isFull 9 rfl)
theorem dX4_isFull_10 : decode cX4_isFull 10 = .ok (.arraylength, 1) := dqo_190 (kb_of ke_X4_isFull 10 rfl)
theorem dX4_isFull_11 : decode cX4_isFull 11 = .ok (.bipush 12, 2) := dqo_16 12 (by decide) (kb_of ke_X4_isFull 11 rfl) (kb_of ke_X4_isFull 12 rfl)
theorem dX4_isFull_13 : decode cX4_isFull 13 = .ok (.if_icmp .ne 7, 3) := dqo_160 0 7 (by decide) (kb_of ke_X4_isFull 13 rfl) (kb_of ke_X4_isFull 14 rfl) (kb_of ke_X4_isFull 15 rfl)
theorem dX4_isFull_16 : decode cX4_isFull 16 = .ok (.iconst 1, 1) := dqo_4 (kb_of ke_X4_isFull 16 rfl)
theorem dX4_isFull_17 : decode cX4_isFull 17 = .ok (.goto 4, 3) := dqo_167 0 4 (by decide) (kb_of ke_X4_isFull 17 rfl) (kb_of ke_X4_isFull 18 rfl) (kb_of ke_X4_isFull 19 rfl)
theorem dX4_isFull_20 : decode cX4_isFull 20 = .ok (.iconst 0, 1) := dqo_3 (kb_of ke_X4_isFull 20 rfl)
theorem dX4_isFull_21 : decode cX4_isFull 21 = .ok (.ireturn, 1) := dqo_172 (kb_of ke_X4_isFull 21 rfl)
set_option maxRecDepth 100000 in
set_option maxHeartbeats 4000000 in
theorem D_isFull1 {l : Launch} {D : va_G} {cy : Nat → ClassId} {X : (Nat → Prop) → State → Heap → Prop} {ba ra : Nat → Nat} {hf : Nat → Nat → Nat} {hq : Nat → Nat → Int32} {kn th : Int32} {sm : Int64} {Y : va_W} {f : Nat → Nat → Nat} {w : Nat} (hX : EnvM X cy) (hC : CInv f) (hG : MG f hf) (hw : w < 8) (h5w : f 5 w = 1) (hfl : hf 4 (f 1 w) = 12) : Cd l D cy X yX4_isFull cX4_isFull 2 (some .boolean) (rmz 5 160) [.ref (ba 9), .int (nI w)] (WM cy ba ra hf hq kn th sm ++ Y) (some (.int (nI 1))) (WM cy ba ra hf hq kn th sm ++ Y) := by
  have q1 := hC.al hw
  refine Cm.of [some (.ref (ba 9)), some (.int (nI w))] pn_X4 rfl (Nat.le_of_ble_eq_true rfl) ?_
  intro p e s m args below meth c A C hE hr hnt hn
  refine r_aload_n C dX4_isFull_0 rfl ?_
  refine m_get (v := .ref (ba 0)) C 0 (by decide) qf_X4_15 rfl rfl dX4_isFull_1 ?_
  refine r_aload_n C dX4_isFull_4 rfl ?_
  refine r_iload_n C dX4_isFull_5 rfl ?_
  refine d_V (st := [.ref (ba 0)]) hX.1.stb C hE (D_rowOf (ba := ba) (ra := ra) (hf := hf) (hq := hq) (kn := kn) (th := th) (sm := sm) (Y := Y) (f := f) (w := w) hX hC (MG.same (fun _ => rfl) (fun _ => rfl) hG) (by first | omega | (simp [up2, *]; done) | (simp [up2, *]; omega) | (simp only [up2_eq]; omega) | (split <;> omega)) (by first | omega | (simp [up2, *]; done) | (simp [up2, *]; omega) | (simp only [up2_eq]; omega) | (split <;> omega))) pk_X4_rowOf qm_X4_48 0 8 rfl rfl wm_0 rfl rfl (Nat.le_of_ble_eq_true rfl) dX4_isFull_6 ⟨(Nat.le_of_ble_eq_true rfl), (Nat.le_of_ble_eq_true rfl)⟩ ⟨(Nat.le_of_ble_eq_true rfl), (Nat.le_of_ble_eq_true rfl)⟩ ?_
  refine r_w (w' := WM cy ba ra hf hq kn th sm ++ Y) rfl ?_
  refine m_rows (i := f 1 w) C (by first | omega | (simp [up2, *]; done) | (simp [up2, *]; omega) | (simp only [up2_eq]; omega) | (split <;> omega)) dX4_isFull_9 ?_
  refine m_rlen (i := f 1 w) (v := hf 4 (f 1 w)) C (by first | omega | (simp [up2, *]; done) | (simp [up2, *]; omega) | (simp only [up2_eq]; omega) | (split <;> omega)) rfl dX4_isFull_10 ?_
  refine r_bipush (v := (nI 12)) C dX4_isFull_11 (by decide) ?_
  refine r_icN_ne (a := (hf 4 (f 1 w))) (b := 12) (tgt := 20) C (by first | omega | (simp [up2, *]; done) | (simp [up2, *]; omega) | (simp only [up2_eq]; omega) | (split <;> omega)) (by first | omega | (simp [up2, *]; done) | (simp [up2, *]; omega) | (simp only [up2_eq]; omega) | (split <;> omega)) dX4_isFull_13 (by decide) (fun h13_1 => ?_) (fun h13_1 => ?_)
  · first
    | exfalso; first | omega | contradiction
    | skip
      refine r_iconst (v := (nI 0)) C dX4_isFull_20 (by decide) ?_
      exact r_zret C hr (by first | omega | (simp [up2, *]; done) | (simp [up2, *]; omega) | (simp only [up2_eq]; omega) | (split <;> omega)) dX4_isFull_21 ⟨rfl, rfl⟩ (Nat.le_of_ble_eq_true rfl) (Nat.le_of_ble_eq_true rfl)
  · first
    | exfalso; first | omega | contradiction
    | skip
      refine r_iconst (v := (nI 1)) C dX4_isFull_16 (by decide) ?_
      refine r_goto (tgt := 21) C dX4_isFull_17 (by decide) ?_
      exact r_zret C hr (by first | omega | (simp [up2, *]; done) | (simp [up2, *]; omega) | (simp only [up2_eq]; omega) | (split <;> omega)) dX4_isFull_21 ⟨rfl, rfl⟩ (Nat.le_of_ble_eq_true rfl) (Nat.le_of_ble_eq_true rfl)
set_option maxRecDepth 100000 in
set_option maxHeartbeats 4000000 in
theorem D_isFull0 {l : Launch} {D : va_G} {cy : Nat → ClassId} {X : (Nat → Prop) → State → Heap → Prop} {ba ra : Nat → Nat} {hf : Nat → Nat → Nat} {hq : Nat → Nat → Int32} {kn th : Int32} {sm : Int64} {Y : va_W} {f : Nat → Nat → Nat} {w : Nat} (hX : EnvM X cy) (hC : CInv f) (hG : MG f hf) (hw : w < 8) (h5w : f 5 w = 1) (hfl : hf 4 (f 1 w) < 12) : Cd l D cy X yX4_isFull cX4_isFull 2 (some .boolean) (rmz 5 160) [.ref (ba 9), .int (nI w)] (WM cy ba ra hf hq kn th sm ++ Y) (some (.int (nI 0))) (WM cy ba ra hf hq kn th sm ++ Y) := by
  have q1 := hC.al hw
  refine Cm.of [some (.ref (ba 9)), some (.int (nI w))] pn_X4 rfl (Nat.le_of_ble_eq_true rfl) ?_
  intro p e s m args below meth c A C hE hr hnt hn
  refine r_aload_n C dX4_isFull_0 rfl ?_
  refine m_get (v := .ref (ba 0)) C 0 (by decide) qf_X4_15 rfl rfl dX4_isFull_1 ?_
  refine r_aload_n C dX4_isFull_4 rfl ?_
  refine r_iload_n C dX4_isFull_5 rfl ?_
  refine d_V (st := [.ref (ba 0)]) hX.1.stb C hE (D_rowOf (ba := ba) (ra := ra) (hf := hf) (hq := hq) (kn := kn) (th := th) (sm := sm) (Y := Y) (f := f) (w := w) hX hC (MG.same (fun _ => rfl) (fun _ => rfl) hG) (by first | omega | (simp [up2, *]; done) | (simp [up2, *]; omega) | (simp only [up2_eq]; omega) | (split <;> omega)) (by first | omega | (simp [up2, *]; done) | (simp [up2, *]; omega) | (simp only [up2_eq]; omega) | (split <;> omega))) pk_X4_rowOf qm_X4_48 0 8 rfl rfl wm_0 rfl rfl (Nat.le_of_ble_eq_true rfl) dX4_isFull_6 ⟨(Nat.le_of_ble_eq_true rfl), (Nat.le_of_ble_eq_true rfl)⟩ ⟨(Nat.le_of_ble_eq_true rfl), (Nat.le_of_ble_eq_true rfl)⟩ ?_
  refine r_w (w' := WM cy ba ra hf hq kn th sm ++ Y) rfl ?_
  refine m_rows (i := f 1 w) C (by first | omega | (simp [up2, *]; done) | (simp [up2, *]; omega) | (simp only [up2_eq]; omega) | (split <;> omega)) dX4_isFull_9 ?_
  refine m_rlen (i := f 1 w) (v := hf 4 (f 1 w)) C (by first | omega | (simp [up2, *]; done) | (simp [up2, *]; omega) | (simp only [up2_eq]; omega) | (split <;> omega)) rfl dX4_isFull_10 ?_
  refine r_bipush (v := (nI 12)) C dX4_isFull_11 (by decide) ?_
  refine r_icN_ne (a := (hf 4 (f 1 w))) (b := 12) (tgt := 20) C (by first | omega | (simp [up2, *]; done) | (simp [up2, *]; omega) | (simp only [up2_eq]; omega) | (split <;> omega)) (by first | omega | (simp [up2, *]; done) | (simp [up2, *]; omega) | (simp only [up2_eq]; omega) | (split <;> omega)) dX4_isFull_13 (by decide) (fun h13_1 => ?_) (fun h13_1 => ?_)
  · first
    | exfalso; first | omega | contradiction
    | skip
      refine r_iconst (v := (nI 0)) C dX4_isFull_20 (by decide) ?_
      exact r_zret C hr (by first | omega | (simp [up2, *]; done) | (simp [up2, *]; omega) | (simp only [up2_eq]; omega) | (split <;> omega)) dX4_isFull_21 ⟨rfl, rfl⟩ (Nat.le_of_ble_eq_true rfl) (Nat.le_of_ble_eq_true rfl)
  · first
    | exfalso; first | omega | contradiction
    | skip
      refine r_iconst (v := (nI 1)) C dX4_isFull_16 (by decide) ?_
      refine r_goto (tgt := 21) C dX4_isFull_17 (by decide) ?_
      exact r_zret C hr (by first | omega | (simp [up2, *]; done) | (simp [up2, *]; omega) | (simp only [up2_eq]; omega) | (split <;> omega)) dX4_isFull_21 ⟨rfl, rfl⟩ (Nat.le_of_ble_eq_true rfl) (Nat.le_of_ble_eq_true rfl)
theorem dX4_firstOf_0 : decode cX4_firstOf 0 = .ok (.aload_n 0, 1) := dqo_42 (kb_of ke_X4_firstOf 0 rfl)
theorem dX4_firstOf_1 : decode cX4_firstOf 1 = .ok (.iload_n 1, 1) := dqo_27 (kb_of ke_X4_firstOf 1 rfl)
theorem dX4_firstOf_2 : decode cX4_firstOf 2 = .ok (.invokevirtual 59, 3) := dqo_182 0 59 (kb_of ke_X4_firstOf 2 rfl) (kb_of ke_X4_firstOf 3 rfl) (kb_of ke_X4_firstOf 4 rfl)
theorem dX4_firstOf_5 : decode cX4_firstOf 5 = .ok (.ifCond .ne 8, 3) := dqo_154 0 8 (by decide) (kb_of ke_X4_firstOf 5 rfl) (kb_of ke_X4_firstOf 6 rfl) (kb_of ke_X4_firstOf 7 rfl)
theorem dX4_firstOf_8 : decode cX4_firstOf 8 = .ok (.bipush 100, 2) := dqo_16 100 (by decide) (kb_of ke_X4_firstOf 8 rfl) (kb_of ke_X4_firstOf 9 rfl)
theorem dX4_firstOf_10 : decode cX4_firstOf 10 = .ok (.goto 9, 3) := dqo_167 0 9 (by decide) (kb_of ke_X4_firstOf 10 rfl) (kb_of ke_X4_firstOf 11 rfl) (kb_of ke_X4_firstOf 12 rfl)
theorem dX4_firstOf_19 : decode cX4_firstOf 19 = .ok (.ireturn, 1) := dqo_172 (kb_of ke_X4_firstOf 19 rfl)
set_option maxRecDepth 100000 in
set_option maxHeartbeats 4000000 in
theorem D_firstOf0 {l : Launch} {D : va_G} {cy : Nat → ClassId} {X : (Nat → Prop) → State → Heap → Prop} {ba ra : Nat → Nat} {hf : Nat → Nat → Nat} {hq : Nat → Nat → Int32} {kn th : Int32} {sm : Int64} {Y : va_W} {w : Nat} (hX : EnvM X cy) (hw : w < 8) (hz : hf 4 w = 0) : Cd l D cy X yX4_firstOf cX4_firstOf 2 (some .int) (rmz 1 30) [.ref (ba 9), .int (nI w)] (WM cy ba ra hf hq kn th sm ++ Y) (some (.int (nI 100))) (WM cy ba ra hf hq kn th sm ++ Y) := by
  refine Cm.of [some (.ref (ba 9)), some (.int (nI w))] pn_X4 rfl (Nat.le_of_ble_eq_true rfl) ?_
  intro p e s m args below meth c A C hE hr hnt hn
  refine r_aload_n C dX4_firstOf_0 rfl ?_
  refine r_iload_n C dX4_firstOf_1 rfl ?_
  refine d_V (st := []) hX.1.stb C hE (D_sizeOf (ba := ba) (ra := ra) (hf := hf) (hq := hq) (kn := kn) (th := th) (sm := sm) (Y := Y) (w := w) hX (by first | omega | (simp [up2, *]; done) | (simp [up2, *]; omega) | (simp only [up2_eq]; omega) | (split <;> omega))) pk_X4_sizeOf qm_X4_59 0 8 rfl rfl wm_0 rfl rfl (Nat.le_of_ble_eq_true rfl) dX4_firstOf_2 ⟨(Nat.le_of_ble_eq_true rfl), (Nat.le_of_ble_eq_true rfl)⟩ ⟨(Nat.le_of_ble_eq_true rfl), (Nat.le_of_ble_eq_true rfl)⟩ ?_
  refine r_w (w' := WM cy ba ra hf hq kn th sm ++ Y) rfl ?_
  refine r_ifN_ne (a := (hf 4 w)) (tgt := 13) C (by first | omega | (simp [up2, *]; done) | (simp [up2, *]; omega) | (simp only [up2_eq]; omega) | (split <;> omega)) dX4_firstOf_5 (by decide) (fun h5_1 => ?_) (fun h5_1 => ?_)
  · exact absurd h5_1 (by first | omega | (simp [up2, *]; done) | (simp [up2, *]; omega) | (simp only [up2_eq]; omega) | (split <;> omega))
  · skip
    refine r_bipush (v := (nI 100)) C dX4_firstOf_8 (by decide) ?_
    refine r_goto (tgt := 19) C dX4_firstOf_10 (by decide) ?_
    exact r_iret C hr dX4_firstOf_19 ⟨rfl, rfl⟩ (Nat.le_of_ble_eq_true rfl) (Nat.le_of_ble_eq_true rfl)
theorem dX4_firstOf_13 : decode cX4_firstOf 13 = .ok (.aload_n 0, 1) := dqo_42 (kb_of ke_X4_firstOf 13 rfl)
theorem dX4_firstOf_14 : decode cX4_firstOf 14 = .ok (.iload_n 1, 1) := dqo_27 (kb_of ke_X4_firstOf 14 rfl)
theorem dX4_firstOf_15 : decode cX4_firstOf 15 = .ok (.iconst 0, 1) := dqo_3 (kb_of ke_X4_firstOf 15 rfl)
theorem dX4_firstOf_16 : decode cX4_firstOf 16 = .ok (.invokevirtual 62, 3) := dqo_182 0 62 (kb_of ke_X4_firstOf 16 rfl) (kb_of ke_X4_firstOf 17 rfl) (kb_of ke_X4_firstOf 18 rfl)
set_option maxRecDepth 100000 in
set_option maxHeartbeats 4000000 in
theorem D_firstOf1 {l : Launch} {D : va_G} {cy : Nat → ClassId} {X : (Nat → Prop) → State → Heap → Prop} {ba ra : Nat → Nat} {hf : Nat → Nat → Nat} {hq : Nat → Nat → Int32} {kn th : Int32} {sm : Int64} {Y : va_W} {f : Nat → Nat → Nat} {w : Nat} (hX : EnvM X cy) (hC : CInv f) (hG : MG f hf) (hw : w < 8) (h5w : f 5 w = 1) (hb : f 3 w + hf 4 w ≤ hf 4 (f 1 w)) (h12 : hf 4 (f 1 w) ≤ 12) (hz : 0 < hf 4 w) : Cd l D cy X yX4_firstOf cX4_firstOf 2 (some .int) (rmz 6 190) [.ref (ba 9), .int (nI w)] (WM cy ba ra hf hq kn th sm ++ Y) (some (.int (hq (f 1 w) (f 3 w)))) (WM cy ba ra hf hq kn th sm ++ Y) := by
  refine Cm.of [some (.ref (ba 9)), some (.int (nI w))] pn_X4 rfl (Nat.le_of_ble_eq_true rfl) ?_
  intro p e s m args below meth c A C hE hr hnt hn
  refine r_aload_n C dX4_firstOf_0 rfl ?_
  refine r_iload_n C dX4_firstOf_1 rfl ?_
  refine d_V (st := []) hX.1.stb C hE (D_sizeOf (ba := ba) (ra := ra) (hf := hf) (hq := hq) (kn := kn) (th := th) (sm := sm) (Y := Y) (w := w) hX (by first | omega | (simp [up2, *]; done) | (simp [up2, *]; omega) | (simp only [up2_eq]; omega) | (split <;> omega))) pk_X4_sizeOf qm_X4_59 0 8 rfl rfl wm_0 rfl rfl (Nat.le_of_ble_eq_true rfl) dX4_firstOf_2 ⟨(Nat.le_of_ble_eq_true rfl), (Nat.le_of_ble_eq_true rfl)⟩ ⟨(Nat.le_of_ble_eq_true rfl), (Nat.le_of_ble_eq_true rfl)⟩ ?_
  refine r_w (w' := WM cy ba ra hf hq kn th sm ++ Y) rfl ?_
  refine r_ifN_ne (a := (hf 4 w)) (tgt := 13) C (by first | omega | (simp [up2, *]; done) | (simp [up2, *]; omega) | (simp only [up2_eq]; omega) | (split <;> omega)) dX4_firstOf_5 (by decide) (fun h5_1 => ?_) (fun h5_1 => ?_)
  · skip
    refine r_aload_n C dX4_firstOf_13 rfl ?_
    refine r_iload_n C dX4_firstOf_14 rfl ?_
    refine r_iconst (v := (nI 0)) C dX4_firstOf_15 (by decide) ?_
    refine d_V (st := []) hX.1.stb C hE (D_item (ba := ba) (ra := ra) (hf := hf) (hq := hq) (kn := kn) (th := th) (sm := sm) (Y := Y) (f := f) (w := w) (k := 0) hX hC (MG.same (fun _ => rfl) (fun _ => rfl) hG) (by first | omega | (simp [up2, *]; done) | (simp [up2, *]; omega) | (simp only [up2_eq]; omega) | (split <;> omega)) (by first | omega | (simp [up2, *]; done) | (simp [up2, *]; omega) | (simp only [up2_eq]; omega) | (split <;> omega)) (by first | omega | (simp [up2, *]; done) | (simp [up2, *]; omega) | (simp only [up2_eq]; omega) | (split <;> omega)) (by first | omega | (simp [up2, *]; done) | (simp [up2, *]; omega) | (simp only [up2_eq]; omega) | (split <;> omega))) pk_X4_item qm_X4_62 0 8 rfl rfl wm_0 rfl rfl (Nat.le_of_ble_eq_true rfl) dX4_firstOf_16 ⟨(Nat.le_of_ble_eq_true rfl), (Nat.le_of_ble_eq_true rfl)⟩ ⟨(Nat.le_of_ble_eq_true rfl), (Nat.le_of_ble_eq_true rfl)⟩ ?_
    refine r_w (w' := WM cy ba ra hf hq kn th sm ++ Y) rfl ?_
    exact r_iret C hr dX4_firstOf_19 ⟨rfl, rfl⟩ (Nat.le_of_ble_eq_true rfl) (Nat.le_of_ble_eq_true rfl)
  · exact absurd h5_1 (by first | omega | (simp [up2, *]; done) | (simp [up2, *]; omega) | (simp only [up2_eq]; omega) | (split <;> omega))
theorem dX4_gone_0 : decode cX4_gone 0 = .ok (.aload_n 0, 1) := dqo_42 (kb_of ke_X4_gone 0 rfl)
theorem dX4_gone_1 : decode cX4_gone 1 = .ok (.getfield 18, 3) := dqo_180 0 18 (kb_of ke_X4_gone 1 rfl) (kb_of ke_X4_gone 2 rfl) (kb_of ke_X4_gone 3 rfl)
theorem dX4_gone_4 : decode cX4_gone 4 = .ok (.iload_n 1, 1) := dqo_27 (kb_of ke_X4_gone 4 rfl)
theorem dX4_gone_5 : decode cX4_gone 5 = .ok (.iconst 0, 1) := dqo_3 (kb_of ke_X4_gone 5 rfl)
theorem dX4_gone_6 : decode cX4_gone 6 = .ok (.bastore, 1) := dqo_84 (kb_of ke_X4_gone 6 rfl)
theorem dX4_gone_7 : decode cX4_gone 7 = .ok (.iconst 0, 1) := dqo_3 (kb_of ke_X4_gone 7 rfl)
theorem dX4_gone_8 : decode cX4_gone 8 = .ok (.istore_n 2, 1) := dqo_61 (kb_of ke_X4_gone 8 rfl)
theorem dX4_gone_9 : decode cX4_gone 9 = .ok (.iload_n 2, 1) := dqo_28 (kb_of ke_X4_gone 9 rfl)
theorem dX4_gone_10 : decode cX4_gone 10 = .ok (.iconst 3, 1) := dqo_6 (kb_of ke_X4_gone 10 rfl)
theorem dX4_gone_11 : decode cX4_gone 11 = .ok (.if_icmp .ge 35, 3) := dqo_162 0 35 (by decide) (kb_of ke_X4_gone 11 rfl) (kb_of ke_X4_gone 12 rfl) (kb_of ke_X4_gone 13 rfl)
theorem dX4_gone_14 : decode cX4_gone 14 = .ok (.aload_n 0, 1) := dqo_42 (kb_of ke_X4_gone 14 rfl)
theorem dX4_gone_15 : decode cX4_gone 15 = .ok (.getfield 32, 3) := dqo_180 0 32 (kb_of ke_X4_gone 15 rfl) (kb_of ke_X4_gone 16 rfl) (kb_of ke_X4_gone 17 rfl)
theorem dX4_gone_18 : decode cX4_gone 18 = .ok (.iload_n 2, 1) := dqo_28 (kb_of ke_X4_gone 18 rfl)
theorem dX4_gone_19 : decode cX4_gone 19 = .ok (.dup2, 1) := dqo_92 (kb_of ke_X4_gone 19 rfl)
theorem dX4_gone_20 : decode cX4_gone 20 = .ok (.baload, 1) := dqo_51 (kb_of ke_X4_gone 20 rfl)
theorem dX4_gone_21 : decode cX4_gone 21 = .ok (.aload_n 0, 1) := dqo_42 (kb_of ke_X4_gone 21 rfl)
theorem dX4_gone_22 : decode cX4_gone 22 = .ok (.getfield 35, 3) := dqo_180 0 35 (kb_of ke_X4_gone 22 rfl) (kb_of ke_X4_gone 23 rfl) (kb_of ke_X4_gone 24 rfl)
theorem dX4_gone_25 : decode cX4_gone 25 = .ok (.iload_n 2, 1) := dqo_28 (kb_of ke_X4_gone 25 rfl)
theorem dX4_gone_26 : decode cX4_gone 26 = .ok (.iaload, 1) := dqo_46 (kb_of ke_X4_gone 26 rfl)
theorem dX4_gone_27 : decode cX4_gone 27 = .ok (.iconst 4, 1) := dqo_7 (kb_of ke_X4_gone 27 rfl)
theorem dX4_gone_28 : decode cX4_gone 28 = .ok (.iload_n 1, 1) := dqo_27 (kb_of ke_X4_gone 28 rfl)
theorem dX4_gone_29 : decode cX4_gone 29 = .ok (.iadd, 1) := dqo_96 (kb_of ke_X4_gone 29 rfl)
theorem dX4_gone_30 : decode cX4_gone 30 = .ok (.if_icmp .eq 7, 3) := dqo_159 0 7 (by decide) (kb_of ke_X4_gone 30 rfl) (kb_of ke_X4_gone 31 rfl) (kb_of ke_X4_gone 32 rfl)
theorem dX4_gone_33 : decode cX4_gone 33 = .ok (.iconst 1, 1) := dqo_4 (kb_of ke_X4_gone 33 rfl)
theorem dX4_gone_34 : decode cX4_gone 34 = .ok (.goto 4, 3) := dqo_167 0 4 (by decide) (kb_of ke_X4_gone 34 rfl) (kb_of ke_X4_gone 35 rfl) (kb_of ke_X4_gone 36 rfl)
theorem dX4_gone_37 : decode cX4_gone 37 = .ok (.iconst 0, 1) := dqo_3 (kb_of ke_X4_gone 37 rfl)
theorem dX4_gone_38 : decode cX4_gone 38 = .ok (.iand, 1) := dqo_126 (kb_of ke_X4_gone 38 rfl)
theorem dX4_gone_39 : decode cX4_gone 39 = .ok (.bastore, 1) := dqo_84 (kb_of ke_X4_gone 39 rfl)
theorem dX4_gone_40 : decode cX4_gone 40 = .ok (.iinc 2 1, 3) := dqo_132 2 1 (by decide) (kb_of ke_X4_gone 40 rfl) (kb_of ke_X4_gone 41 rfl) (kb_of ke_X4_gone 42 rfl)
theorem dX4_gone_43 : decode cX4_gone 43 = .ok (.goto (-34), 3) := dqo_167 255 222 (by decide) (kb_of ke_X4_gone 43 rfl) (kb_of ke_X4_gone 44 rfl) (kb_of ke_X4_gone 45 rfl)
theorem dX4_gone_46 : decode cX4_gone 46 = .ok (.return_, 1) := dqo_177 (kb_of ke_X4_gone 46 rfl)
set_option maxRecDepth 100000 in
set_option maxHeartbeats 4000000 in
theorem D_gone {l : Launch} {D : va_G} {cy : Nat → ClassId} {X : (Nat → Prop) → State → Heap → Prop} {ba ra : Nat → Nat} {hf : Nat → Nat → Nat} {hq : Nat → Nat → Int32} {kn th : Int32} {sm : Int64} {Y : va_W} {g0 : Nat} (hX : EnvM X cy) (hg : g0 < 4) (h9a : ∀ k, k < 3 → hf 9 k ≤ 1) (h6a : ∀ k, k < 3 → hf 6 k < 8) : Cd l D cy X yX4_gone cX4_gone 3 none (rmz 0 0) [.ref (ba 9), .int (nI g0)] (WM cy ba ra hf hq kn th sm ++ Y) none (WM cy ba ra (dcF (up2 hf 5 (4 + g0) 0) (4 + g0) 3) hq kn th sm ++ Y) := by
  refine Cm.of [some (.ref (ba 9)), some (.int (nI g0)), none] pn_X4 rfl (Nat.le_of_ble_eq_true rfl) ?_
  intro p e s m args below meth c A C hE hr hnt hn
  refine r_aload_n C dX4_gone_0 rfl ?_
  refine m_get (v := .ref (ba 1)) C 1 (by decide) qf_X4_18 rfl rfl dX4_gone_1 ?_
  refine r_iload_n C dX4_gone_4 rfl ?_
  refine r_iconst (v := (nI 0)) C dX4_gone_5 (by decide) ?_
  refine m_zst (i := g0) (z := 4 + g0) (v := 0) C 0 (by decide) (by decide) (show g0 < 4 from (by first | omega | (simp [up2, *]; done) | (simp [up2, *]; omega) | (simp only [up2_eq]; omega) | (split <;> omega))) (show 4 + g0 = 4 + g0 from (by omega)) (by first | omega | (simp [up2, *]; done) | (simp [up2, *]; omega) | (simp only [up2_eq]; omega) | (split <;> omega)) dX4_gone_6 ?_
  refine r_w (w' := WM cy ba ra (up2 hf 5 (4 + g0) 0) hq kn th sm ++ Y) rfl ?_
  refine r_iconst (v := (nI 0)) C dX4_gone_7 (by decide) ?_
  refine r_istore_n C dX4_gone_8 (by decide) rfl ?_
  refine r_w (w' := WM cy ba ra (dcF (up2 hf 5 (4 + g0) 0) (4 + g0) 0) hq kn th sm ++ Y) (by rw [dcF_0]) ?_
  have L9 : ∀ (d : Nat) (k : Nat), (hk : k + d = 3) → vC p l e (rmz 0 0) s m args below meth c D A (vx_MQ below (vG (fun v1 w1 => v1 = none ∧ w1 = WM cy ba ra (dcF (up2 hf 5 (4 + g0) 0) (4 + g0) 3) hq kn th sm ++ Y) D vwCl A) (vGX (fun _ => False) D vwCl (WM cy ba ra hf hq kn th sm ++ Y) A) args s (rmz 0 0).cells (rmz 0 0).slots A) 3 0 0 (WM cy ba ra (dcF (up2 hf 5 (4 + g0) 0) (4 + g0) k) hq kn th sm ++ Y) [some (.ref (ba 9)), some (.int (nI g0)), some (.int (nI k))] 9 [] := by
    intro d
    induction d with
    | zero =>
      intro k hk
      refine r_iload_n C dX4_gone_9 rfl ?_
      refine r_iconst (v := (nI 3)) C dX4_gone_10 (by decide) ?_
      refine r_icN_ge (a := k) (b := 3) (tgt := 46) C (by first | omega | (simp [up2, *]; done) | (simp [up2, *]; omega) | (simp only [up2_eq]; omega) | (split <;> omega)) (by first | omega | (simp [up2, *]; done) | (simp [up2, *]; omega) | (simp only [up2_eq]; omega) | (split <;> omega)) dX4_gone_11 (by decide) (fun h11_1 => ?_) (fun h11_1 => ?_)
      · first
        | exfalso; first | omega | contradiction
        | skip
          have e9 : k = 3 := by omega
          subst e9
          exact r_vret C hr dX4_gone_46 ⟨rfl, rfl⟩ (Nat.le_of_ble_eq_true rfl) (Nat.le_of_ble_eq_true rfl)
      · first
        | exfalso; first | omega | contradiction
        | skip
          refine r_aload_n C dX4_gone_14 rfl ?_
          refine m_get (v := .ref (ba 5)) C 5 (by decide) qf_X4_32 rfl rfl dX4_gone_15 ?_
          refine r_iload_n C dX4_gone_18 rfl ?_
          refine r_dup2 C dX4_gone_19 rfl rfl ?_
          refine m_zld (i := k) (z := k) (v := (dcF (up2 hf 5 (4 + g0) 0) (4 + g0) k) 9 k) C 4 (by decide) (by decide) (show k < 3 from (by first | omega | (simp [up2, *]; done) | (simp [up2, *]; omega) | (simp only [up2_eq]; omega) | (split <;> omega))) (show 0 + k = k from (by omega)) rfl dX4_gone_20 ?_
          refine r_aload_n C dX4_gone_21 rfl ?_
          refine m_get (v := .ref (ba 6)) C 6 (by decide) qf_X4_35 rfl rfl dX4_gone_22 ?_
          refine r_iload_n C dX4_gone_25 rfl ?_
          refine m_ald (i := k) (z := k) (v := hf 6 k) C 5 (by decide) (by decide) (show k < 3 from (by first | omega | (simp [up2, *]; done) | (simp [up2, *]; omega) | (simp only [up2_eq]; omega) | (split <;> omega))) (show 0 + k = k from (by omega)) rfl dX4_gone_26 ?_
          refine r_iconst (v := (nI 4)) C dX4_gone_27 (by decide) ?_
          refine r_iload_n C dX4_gone_28 rfl ?_
          refine r_iaddN C dX4_gone_29 ?_
          refine r_icN_eq (a := (hf 6 k)) (b := (4 + g0)) (tgt := 37) C (by have := h6a k (by omega); omega) (by first | omega | (simp [up2, *]; done) | (simp [up2, *]; omega) | (simp only [up2_eq]; omega) | (split <;> omega)) dX4_gone_30 (by decide) (fun h30_2 => ?_) (fun h30_2 => ?_)
          · first
            | exfalso; first | omega | contradiction
            | skip
              refine r_iconst (v := (nI 0)) C dX4_gone_37 (by decide) ?_
              refine r_iandB (a := (dcF (up2 hf 5 (4 + g0) 0) (4 + g0) k) 9 k) (b := 0) (v := 0) C (dcF_le (h9a k (by omega))) (by first | omega | (simp [up2, *]; done) | (simp [up2, *]; omega) | (simp only [up2_eq]; omega) | (split <;> omega)) rfl dX4_gone_38 ?_
              refine m_zst (i := k) (z := k) (v := 0) C 4 (by decide) (by decide) (show k < 3 from (by first | omega | (simp [up2, *]; done) | (simp [up2, *]; omega) | (simp only [up2_eq]; omega) | (split <;> omega))) (show 0 + k = k from (by omega)) (by first | decide | exact dcF_le (h9a k (by omega))) dX4_gone_39 ?_
              refine r_w (w' := WM cy ba ra (up2 (dcF (up2 hf 5 (4 + g0) 0) (4 + g0) k) 9 k 0) hq kn th sm ++ Y) rfl ?_
              refine r_iincN C dX4_gone_40 rfl (by decide) rfl ?_
              refine r_goto (tgt := 9) C dX4_gone_43 (by decide) ?_
              refine r_w (w' := WM cy ba ra (dcF (up2 hf 5 (4 + g0) 0) (4 + g0) (k + 1)) hq kn th sm ++ Y) (by rw [dcF_yes (f := up2 hf 5 (4 + g0) 0) (show hf 6 k = 4 + g0 by omega)]) ?_
              exact (Nat.not_lt_zero _ (by omega)).elim
          · first
            | exfalso; first | omega | contradiction
            | skip
              refine r_iconst (v := (nI 1)) C dX4_gone_33 (by decide) ?_
              refine r_goto (tgt := 38) C dX4_gone_34 (by decide) ?_
              refine r_iandB (a := (dcF (up2 hf 5 (4 + g0) 0) (4 + g0) k) 9 k) (b := 1) (v := (dcF (up2 hf 5 (4 + g0) 0) (4 + g0) k) 9 k) C (dcF_le (h9a k (by omega))) (by first | omega | (simp [up2, *]; done) | (simp [up2, *]; omega) | (simp only [up2_eq]; omega) | (split <;> omega)) rfl dX4_gone_38 ?_
              refine m_zst (i := k) (z := k) (v := (dcF (up2 hf 5 (4 + g0) 0) (4 + g0) k) 9 k) C 4 (by decide) (by decide) (show k < 3 from (by first | omega | (simp [up2, *]; done) | (simp [up2, *]; omega) | (simp only [up2_eq]; omega) | (split <;> omega))) (show 0 + k = k from (by omega)) (by first | decide | exact dcF_le (h9a k (by omega))) dX4_gone_39 ?_
              refine r_w (w' := WM cy ba ra (up2 (dcF (up2 hf 5 (4 + g0) 0) (4 + g0) k) 9 k ((dcF (up2 hf 5 (4 + g0) 0) (4 + g0) k) 9 k)) hq kn th sm ++ Y) rfl ?_
              refine r_iincN C dX4_gone_40 rfl (by decide) rfl ?_
              refine r_goto (tgt := 9) C dX4_gone_43 (by decide) ?_
              refine r_w (w' := WM cy ba ra (dcF (up2 hf 5 (4 + g0) 0) (4 + g0) (k + 1)) hq kn th sm ++ Y) (by rw [up2_same, dcF_no (f := up2 hf 5 (4 + g0) 0) (show hf 6 k ≠ 4 + g0 by omega)]) ?_
              exact (Nat.not_lt_zero _ (by omega)).elim
    | succ d ih_L9 =>
      intro k hk
      refine r_iload_n C dX4_gone_9 rfl ?_
      refine r_iconst (v := (nI 3)) C dX4_gone_10 (by decide) ?_
      refine r_icN_ge (a := k) (b := 3) (tgt := 46) C (by first | omega | (simp [up2, *]; done) | (simp [up2, *]; omega) | (simp only [up2_eq]; omega) | (split <;> omega)) (by first | omega | (simp [up2, *]; done) | (simp [up2, *]; omega) | (simp only [up2_eq]; omega) | (split <;> omega)) dX4_gone_11 (by decide) (fun h11_3 => ?_) (fun h11_3 => ?_)
      · first
        | exfalso; first | omega | contradiction
        | skip
          have e9 : k = 3 := by omega
          subst e9
          exact r_vret C hr dX4_gone_46 ⟨rfl, rfl⟩ (Nat.le_of_ble_eq_true rfl) (Nat.le_of_ble_eq_true rfl)
      · first
        | exfalso; first | omega | contradiction
        | skip
          refine r_aload_n C dX4_gone_14 rfl ?_
          refine m_get (v := .ref (ba 5)) C 5 (by decide) qf_X4_32 rfl rfl dX4_gone_15 ?_
          refine r_iload_n C dX4_gone_18 rfl ?_
          refine r_dup2 C dX4_gone_19 rfl rfl ?_
          refine m_zld (i := k) (z := k) (v := (dcF (up2 hf 5 (4 + g0) 0) (4 + g0) k) 9 k) C 4 (by decide) (by decide) (show k < 3 from (by first | omega | (simp [up2, *]; done) | (simp [up2, *]; omega) | (simp only [up2_eq]; omega) | (split <;> omega))) (show 0 + k = k from (by omega)) rfl dX4_gone_20 ?_
          refine r_aload_n C dX4_gone_21 rfl ?_
          refine m_get (v := .ref (ba 6)) C 6 (by decide) qf_X4_35 rfl rfl dX4_gone_22 ?_
          refine r_iload_n C dX4_gone_25 rfl ?_
          refine m_ald (i := k) (z := k) (v := hf 6 k) C 5 (by decide) (by decide) (show k < 3 from (by first | omega | (simp [up2, *]; done) | (simp [up2, *]; omega) | (simp only [up2_eq]; omega) | (split <;> omega))) (show 0 + k = k from (by omega)) rfl dX4_gone_26 ?_
          refine r_iconst (v := (nI 4)) C dX4_gone_27 (by decide) ?_
          refine r_iload_n C dX4_gone_28 rfl ?_
          refine r_iaddN C dX4_gone_29 ?_
          refine r_icN_eq (a := (hf 6 k)) (b := (4 + g0)) (tgt := 37) C (by have := h6a k (by omega); omega) (by first | omega | (simp [up2, *]; done) | (simp [up2, *]; omega) | (simp only [up2_eq]; omega) | (split <;> omega)) dX4_gone_30 (by decide) (fun h30_4 => ?_) (fun h30_4 => ?_)
          · first
            | exfalso; first | omega | contradiction
            | skip
              refine r_iconst (v := (nI 0)) C dX4_gone_37 (by decide) ?_
              refine r_iandB (a := (dcF (up2 hf 5 (4 + g0) 0) (4 + g0) k) 9 k) (b := 0) (v := 0) C (dcF_le (h9a k (by omega))) (by first | omega | (simp [up2, *]; done) | (simp [up2, *]; omega) | (simp only [up2_eq]; omega) | (split <;> omega)) rfl dX4_gone_38 ?_
              refine m_zst (i := k) (z := k) (v := 0) C 4 (by decide) (by decide) (show k < 3 from (by first | omega | (simp [up2, *]; done) | (simp [up2, *]; omega) | (simp only [up2_eq]; omega) | (split <;> omega))) (show 0 + k = k from (by omega)) (by first | decide | exact dcF_le (h9a k (by omega))) dX4_gone_39 ?_
              refine r_w (w' := WM cy ba ra (up2 (dcF (up2 hf 5 (4 + g0) 0) (4 + g0) k) 9 k 0) hq kn th sm ++ Y) rfl ?_
              refine r_iincN C dX4_gone_40 rfl (by decide) rfl ?_
              refine r_goto (tgt := 9) C dX4_gone_43 (by decide) ?_
              refine r_w (w' := WM cy ba ra (dcF (up2 hf 5 (4 + g0) 0) (4 + g0) (k + 1)) hq kn th sm ++ Y) (by rw [dcF_yes (f := up2 hf 5 (4 + g0) 0) (show hf 6 k = 4 + g0 by omega)]) ?_
              exact ih_L9 (k + 1) (by first | omega | (simp [up2, *]; done) | (simp [up2, *]; omega) | (simp only [up2_eq]; omega) | (split <;> omega))
          · first
            | exfalso; first | omega | contradiction
            | skip
              refine r_iconst (v := (nI 1)) C dX4_gone_33 (by decide) ?_
              refine r_goto (tgt := 38) C dX4_gone_34 (by decide) ?_
              refine r_iandB (a := (dcF (up2 hf 5 (4 + g0) 0) (4 + g0) k) 9 k) (b := 1) (v := (dcF (up2 hf 5 (4 + g0) 0) (4 + g0) k) 9 k) C (dcF_le (h9a k (by omega))) (by first | omega | (simp [up2, *]; done) | (simp [up2, *]; omega) | (simp only [up2_eq]; omega) | (split <;> omega)) rfl dX4_gone_38 ?_
              refine m_zst (i := k) (z := k) (v := (dcF (up2 hf 5 (4 + g0) 0) (4 + g0) k) 9 k) C 4 (by decide) (by decide) (show k < 3 from (by first | omega | (simp [up2, *]; done) | (simp [up2, *]; omega) | (simp only [up2_eq]; omega) | (split <;> omega))) (show 0 + k = k from (by omega)) (by first | decide | exact dcF_le (h9a k (by omega))) dX4_gone_39 ?_
              refine r_w (w' := WM cy ba ra (up2 (dcF (up2 hf 5 (4 + g0) 0) (4 + g0) k) 9 k ((dcF (up2 hf 5 (4 + g0) 0) (4 + g0) k) 9 k)) hq kn th sm ++ Y) rfl ?_
              refine r_iincN C dX4_gone_40 rfl (by decide) rfl ?_
              refine r_goto (tgt := 9) C dX4_gone_43 (by decide) ?_
              refine r_w (w' := WM cy ba ra (dcF (up2 hf 5 (4 + g0) 0) (4 + g0) (k + 1)) hq kn th sm ++ Y) (by rw [up2_same, dcF_no (f := up2 hf 5 (4 + g0) 0) (show hf 6 k ≠ 4 + g0 by omega)]) ?_
              exact ih_L9 (k + 1) (by first | omega | (simp [up2, *]; done) | (simp [up2, *]; omega) | (simp only [up2_eq]; omega) | (split <;> omega))
  exact L9 3 0 (by first | omega | (simp [up2, *]; done) | (simp [up2, *]; omega) | (simp only [up2_eq]; omega) | (split <;> omega))
theorem pk_X4_gone : PkV RX4 yX4_gone cX4_gone 3 none 1 := ⟨⟨qi_X4_gone, qs_X4_gone, qz_X4, qc_X4_gone⟩, rfl, mh_X4.1, mh_X4.2, pd_6⟩
theorem dX4_goneWithAll_0 : decode cX4_goneWithAll 0 = .ok (.iconst 0, 1) := dqo_3 (kb_of ke_X4_goneWithAll 0 rfl)
theorem dX4_goneWithAll_1 : decode cX4_goneWithAll 1 = .ok (.istore_n 2, 1) := dqo_61 (kb_of ke_X4_goneWithAll 1 rfl)
theorem dX4_goneWithAll_2 : decode cX4_goneWithAll 2 = .ok (.iload_n 2, 1) := dqo_28 (kb_of ke_X4_goneWithAll 2 rfl)
theorem dX4_goneWithAll_3 : decode cX4_goneWithAll 3 = .ok (.iconst 4, 1) := dqo_7 (kb_of ke_X4_goneWithAll 3 rfl)
theorem dX4_goneWithAll_4 : decode cX4_goneWithAll 4 = .ok (.if_icmp .ge 41, 3) := dqo_162 0 41 (by decide) (kb_of ke_X4_goneWithAll 4 rfl) (kb_of ke_X4_goneWithAll 5 rfl) (kb_of ke_X4_goneWithAll 6 rfl)
theorem dX4_goneWithAll_7 : decode cX4_goneWithAll 7 = .ok (.aload_n 0, 1) := dqo_42 (kb_of ke_X4_goneWithAll 7 rfl)
theorem dX4_goneWithAll_8 : decode cX4_goneWithAll 8 = .ok (.getfield 18, 3) := dqo_180 0 18 (kb_of ke_X4_goneWithAll 8 rfl) (kb_of ke_X4_goneWithAll 9 rfl) (kb_of ke_X4_goneWithAll 10 rfl)
theorem dX4_goneWithAll_11 : decode cX4_goneWithAll 11 = .ok (.iload_n 2, 1) := dqo_28 (kb_of ke_X4_goneWithAll 11 rfl)
theorem dX4_goneWithAll_12 : decode cX4_goneWithAll 12 = .ok (.baload, 1) := dqo_51 (kb_of ke_X4_goneWithAll 12 rfl)
theorem dX4_goneWithAll_13 : decode cX4_goneWithAll 13 = .ok (.ifCond .eq 26, 3) := dqo_153 0 26 (by decide) (kb_of ke_X4_goneWithAll 13 rfl) (kb_of ke_X4_goneWithAll 14 rfl) (kb_of ke_X4_goneWithAll 15 rfl)
theorem dX4_goneWithAll_16 : decode cX4_goneWithAll 16 = .ok (.iload_n 2, 1) := dqo_28 (kb_of ke_X4_goneWithAll 16 rfl)
theorem dX4_goneWithAll_17 : decode cX4_goneWithAll 17 = .ok (.iload_n 1, 1) := dqo_27 (kb_of ke_X4_goneWithAll 17 rfl)
theorem dX4_goneWithAll_18 : decode cX4_goneWithAll 18 = .ok (.if_icmp .eq 21, 3) := dqo_159 0 21 (by decide) (kb_of ke_X4_goneWithAll 18 rfl) (kb_of ke_X4_goneWithAll 19 rfl) (kb_of ke_X4_goneWithAll 20 rfl)
theorem dX4_goneWithAll_21 : decode cX4_goneWithAll 21 = .ok (.aload_n 0, 1) := dqo_42 (kb_of ke_X4_goneWithAll 21 rfl)
theorem dX4_goneWithAll_22 : decode cX4_goneWithAll 22 = .ok (.iconst 4, 1) := dqo_7 (kb_of ke_X4_goneWithAll 22 rfl)
theorem dX4_goneWithAll_23 : decode cX4_goneWithAll 23 = .ok (.iload_n 1, 1) := dqo_27 (kb_of ke_X4_goneWithAll 23 rfl)
theorem dX4_goneWithAll_24 : decode cX4_goneWithAll 24 = .ok (.iadd, 1) := dqo_96 (kb_of ke_X4_goneWithAll 24 rfl)
theorem dX4_goneWithAll_25 : decode cX4_goneWithAll 25 = .ok (.iconst 4, 1) := dqo_7 (kb_of ke_X4_goneWithAll 25 rfl)
theorem dX4_goneWithAll_26 : decode cX4_goneWithAll 26 = .ok (.iload_n 2, 1) := dqo_28 (kb_of ke_X4_goneWithAll 26 rfl)
theorem dX4_goneWithAll_27 : decode cX4_goneWithAll 27 = .ok (.iadd, 1) := dqo_96 (kb_of ke_X4_goneWithAll 27 rfl)
theorem dX4_goneWithAll_28 : decode cX4_goneWithAll 28 = .ok (.invokevirtual 66, 3) := dqo_182 0 66 (kb_of ke_X4_goneWithAll 28 rfl) (kb_of ke_X4_goneWithAll 29 rfl) (kb_of ke_X4_goneWithAll 30 rfl)
theorem dX4_goneWithAll_31 : decode cX4_goneWithAll 31 = .ok (.ifCond .eq 8, 3) := dqo_153 0 8 (by decide) (kb_of ke_X4_goneWithAll 31 rfl) (kb_of ke_X4_goneWithAll 32 rfl) (kb_of ke_X4_goneWithAll 33 rfl)
theorem dX4_goneWithAll_34 : decode cX4_goneWithAll 34 = .ok (.aload_n 0, 1) := dqo_42 (kb_of ke_X4_goneWithAll 34 rfl)
theorem dX4_goneWithAll_35 : decode cX4_goneWithAll 35 = .ok (.iload_n 2, 1) := dqo_28 (kb_of ke_X4_goneWithAll 35 rfl)
theorem dX4_goneWithAll_36 : decode cX4_goneWithAll 36 = .ok (.invokevirtual 70, 3) := dqo_182 0 70 (kb_of ke_X4_goneWithAll 36 rfl) (kb_of ke_X4_goneWithAll 37 rfl) (kb_of ke_X4_goneWithAll 38 rfl)
theorem dX4_goneWithAll_39 : decode cX4_goneWithAll 39 = .ok (.iinc 2 1, 3) := dqo_132 2 1 (by decide) (kb_of ke_X4_goneWithAll 39 rfl) (kb_of ke_X4_goneWithAll 40 rfl) (kb_of ke_X4_goneWithAll 41 rfl)
theorem dX4_goneWithAll_42 : decode cX4_goneWithAll 42 = .ok (.goto (-40), 3) := dqo_167 255 216 (by decide) (kb_of ke_X4_goneWithAll 42 rfl) (kb_of ke_X4_goneWithAll 43 rfl) (kb_of ke_X4_goneWithAll 44 rfl)
theorem dX4_goneWithAll_45 : decode cX4_goneWithAll 45 = .ok (.aload_n 0, 1) := dqo_42 (kb_of ke_X4_goneWithAll 45 rfl)
theorem dX4_goneWithAll_46 : decode cX4_goneWithAll 46 = .ok (.iload_n 1, 1) := dqo_27 (kb_of ke_X4_goneWithAll 46 rfl)
theorem dX4_goneWithAll_47 : decode cX4_goneWithAll 47 = .ok (.invokevirtual 70, 3) := dqo_182 0 70 (kb_of ke_X4_goneWithAll 47 rfl) (kb_of ke_X4_goneWithAll 48 rfl) (kb_of ke_X4_goneWithAll 49 rfl)
theorem dX4_goneWithAll_50 : decode cX4_goneWithAll 50 = .ok (.return_, 1) := dqo_177 (kb_of ke_X4_goneWithAll 50 rfl)
set_option maxRecDepth 100000 in
set_option maxHeartbeats 4000000 in
theorem D_goneWithAll {l : Launch} {D : va_G} {cy : Nat → ClassId} {X : (Nat → Prop) → State → Heap → Prop} {ba ra : Nat → Nat} {hf : Nat → Nat → Nat} {hq : Nat → Nat → Int32} {kn th : Int32} {sm : Int64} {Y : va_W} {f : Nat → Nat → Nat} {g0 : Nat} (hX : EnvM X cy) (hC : CInv f) (hG : MG f hf) (hg : g0 < 4) (h5M : ∀ w, 4 ≤ w → w < 8 → hf 5 w = f 5 w ∧ f 5 w ≤ 1) (h9a : ∀ k, k < 3 → hf 9 k ≤ 1) (h6a : ∀ k, k < 3 → hf 6 k < 8) : Cd l D cy X yX4_goneWithAll cX4_goneWithAll 3 none (rmz 5 160) [.ref (ba 9), .int (nI g0)] (WM cy ba ra hf hq kn th sm ++ Y) none (WM cy ba ra (dcF (up2 (gaF f hf (4 + g0) 4) 5 (4 + g0) 0) (4 + g0) 3) hq kn th sm ++ Y) := by
  refine Cm.of [some (.ref (ba 9)), some (.int (nI g0)), none] pn_X4 rfl (Nat.le_of_ble_eq_true rfl) ?_
  intro p e s m args below meth c A C hE hr hnt hn
  refine r_iconst (v := (nI 0)) C dX4_goneWithAll_0 (by decide) ?_
  refine r_istore_n C dX4_goneWithAll_1 (by decide) rfl ?_
  refine r_w (w' := WM cy ba ra (gaF f hf (4 + g0) 0) hq kn th sm ++ Y) (by rw [gaF_0]) ?_
  have L2 : ∀ (d : Nat) (k : Nat), (hk : k + d = 4) → vC p l e (rmz 5 160) s m args below meth c D A (vx_MQ below (vG (fun v1 w1 => v1 = none ∧ w1 = WM cy ba ra (dcF (up2 (gaF f hf (4 + g0) 4) 5 (4 + g0) 0) (4 + g0) 3) hq kn th sm ++ Y) D vwCl A) (vGX (fun _ => False) D vwCl (WM cy ba ra hf hq kn th sm ++ Y) A) args s (rmz 5 160).cells (rmz 5 160).slots A) 3 0 0 (WM cy ba ra (gaF f hf (4 + g0) k) hq kn th sm ++ Y) [some (.ref (ba 9)), some (.int (nI g0)), some (.int (nI k))] 2 [] := by
    intro d
    induction d with
    | zero =>
      intro k hk
      refine r_iload_n C dX4_goneWithAll_2 rfl ?_
      refine r_iconst (v := (nI 4)) C dX4_goneWithAll_3 (by decide) ?_
      refine r_icN_ge (a := k) (b := 4) (tgt := 45) C (by first | omega | (simp [up2, *]; done) | (simp [up2, *]; omega) | (simp only [up2_eq]; omega) | (split <;> omega)) (by first | omega | (simp [up2, *]; done) | (simp [up2, *]; omega) | (simp only [up2_eq]; omega) | (split <;> omega)) dX4_goneWithAll_4 (by decide) (fun h4_1 => ?_) (fun h4_1 => ?_)
      · first
        | exfalso; first | omega | contradiction
        | skip
          have e9 : k = 4 := by omega
          subst e9
          refine r_aload_n C dX4_goneWithAll_45 rfl ?_
          refine r_iload_n C dX4_goneWithAll_46 rfl ?_
          refine d_Vv (st := []) hX.1.stb C hE (D_gone (ba := ba) (ra := ra) (hf := (gaF f hf (4 + g0) 4)) (hq := hq) (kn := kn) (th := th) (sm := sm) (Y := Y) (g0 := g0) hX (by first | omega | (simp [up2, *]; done) | (simp [up2, *]; omega) | (simp only [up2_eq]; omega) | (split <;> omega)) (fun i hi => gaF_9 (h9a i hi)) h6a) pk_X4_gone qm_X4_70 0 8 rfl rfl wm_0 rfl rfl (Nat.le_of_ble_eq_true rfl) dX4_goneWithAll_47 ⟨(Nat.le_of_ble_eq_true rfl), (Nat.le_of_ble_eq_true rfl)⟩ ⟨(Nat.le_of_ble_eq_true rfl), (Nat.le_of_ble_eq_true rfl)⟩ ?_
          refine r_w (w' := WM cy ba ra (dcF (up2 (gaF f hf (4 + g0) 4) 5 (4 + g0) 0) (4 + g0) 3) hq kn th sm ++ Y) rfl ?_
          exact r_vret C hr dX4_goneWithAll_50 ⟨rfl, rfl⟩ (Nat.le_of_ble_eq_true rfl) (Nat.le_of_ble_eq_true rfl)
      · first
        | exfalso; first | omega | contradiction
        | skip
          have q5 := h5M (4 + k) (by omega) (by omega)
          refine r_aload_n C dX4_goneWithAll_7 rfl ?_
          refine m_get (v := .ref (ba 1)) C 1 (by decide) qf_X4_18 rfl rfl dX4_goneWithAll_8 ?_
          refine r_iload_n C dX4_goneWithAll_11 rfl ?_
          refine m_zld (i := k) (z := 4 + k) (v := hf 5 (4 + k)) C 0 (by decide) (by decide) (show k < 4 from (by first | omega | (simp [up2, *]; done) | (simp [up2, *]; omega) | (simp only [up2_eq]; omega) | (split <;> omega))) (show 4 + k = 4 + k from (by omega)) gaF_at dX4_goneWithAll_12 ?_
          refine r_ifN_eq (a := (hf 5 (4 + k))) (tgt := 39) C (by omega) dX4_goneWithAll_13 (by decide) (fun h13_2 => ?_) (fun h13_2 => ?_)
          · first
            | exfalso; first | omega | contradiction
            | skip
              refine r_iincN C dX4_goneWithAll_39 rfl (by decide) rfl ?_
              refine r_goto (tgt := 2) C dX4_goneWithAll_42 (by decide) ?_
              refine r_w (w' := WM cy ba ra (gaF f hf (4 + g0) (k + 1)) hq kn th sm ++ Y) (by rw [gaF_no (by first | exact Or.inl (by omega) | exact Or.inr (Or.inl (by assumption)) | exact Or.inr (Or.inr (by assumption)))]) ?_
              exact (Nat.not_lt_zero _ (by omega)).elim
          · first
            | exfalso; first | omega | contradiction
            | skip
              refine r_iload_n C dX4_goneWithAll_16 rfl ?_
              refine r_iload_n C dX4_goneWithAll_17 rfl ?_
              refine r_icN_eq (a := k) (b := g0) (tgt := 39) C (by first | omega | (simp [up2, *]; done) | (simp [up2, *]; omega) | (simp only [up2_eq]; omega) | (split <;> omega)) (by first | omega | (simp [up2, *]; done) | (simp [up2, *]; omega) | (simp only [up2_eq]; omega) | (split <;> omega)) dX4_goneWithAll_18 (by decide) (fun h18_3 => ?_) (fun h18_3 => ?_)
              · first
                | exfalso; first | omega | contradiction
                | skip
                  refine r_iincN C dX4_goneWithAll_39 rfl (by decide) rfl ?_
                  refine r_goto (tgt := 2) C dX4_goneWithAll_42 (by decide) ?_
                  refine r_w (w' := WM cy ba ra (gaF f hf (4 + g0) (k + 1)) hq kn th sm ++ Y) (by rw [gaF_no (by first | exact Or.inl (by omega) | exact Or.inr (Or.inl (by assumption)) | exact Or.inr (Or.inr (by assumption)))]) ?_
                  exact (Nat.not_lt_zero _ (by omega)).elim
              · first
                | exfalso; first | omega | contradiction
                | skip
                  refine r_aload_n C dX4_goneWithAll_21 rfl ?_
                  refine r_iconst (v := (nI 4)) C dX4_goneWithAll_22 (by decide) ?_
                  refine r_iload_n C dX4_goneWithAll_23 rfl ?_
                  refine r_iaddN C dX4_goneWithAll_24 ?_
                  refine r_iconst (v := (nI 4)) C dX4_goneWithAll_25 (by decide) ?_
                  refine r_iload_n C dX4_goneWithAll_26 rfl ?_
                  refine r_iaddN C dX4_goneWithAll_27 ?_
                  refine d_V (st := []) hX.1.stb C hE (D_isHolder (ba := ba) (ra := ra) (hf := (gaF f hf (4 + g0) k)) (hq := hq) (kn := kn) (th := th) (sm := sm) (Y := Y) (f := f) (h0 := (4 + g0)) (w := (4 + k)) hX hC (MG.same (fun _ => rfl) (fun _ => rfl) hG) (by first | omega | (simp [up2, *]; done) | (simp [up2, *]; omega) | (simp only [up2_eq]; omega) | (split <;> omega)) (by first | omega | (simp [up2, *]; done) | (simp [up2, *]; omega) | (simp only [up2_eq]; omega) | (split <;> omega)) (by omega)) pk_X4_isHolder qm_X4_66 0 8 rfl rfl wm_0 rfl rfl (Nat.le_of_ble_eq_true rfl) dX4_goneWithAll_28 ⟨(Nat.le_of_ble_eq_true rfl), (Nat.le_of_ble_eq_true rfl)⟩ ⟨(Nat.le_of_ble_eq_true rfl), (Nat.le_of_ble_eq_true rfl)⟩ ?_
                  refine r_w (w' := WM cy ba ra (gaF f hf (4 + g0) k) hq kn th sm ++ Y) rfl ?_
                  refine r_ifN_eq (a := (hol f (4 + g0) (4 + k))) (tgt := 39) C (Nat.lt_of_le_of_lt (hol_le _ _ _) (by decide)) dX4_goneWithAll_31 (by decide) (fun h31_4 => ?_) (fun h31_4 => ?_)
                  · first
                    | exfalso; first | omega | contradiction
                    | skip
                      refine r_iincN C dX4_goneWithAll_39 rfl (by decide) rfl ?_
                      refine r_goto (tgt := 2) C dX4_goneWithAll_42 (by decide) ?_
                      refine r_w (w' := WM cy ba ra (gaF f hf (4 + g0) (k + 1)) hq kn th sm ++ Y) (by rw [gaF_no (by first | exact Or.inl (by omega) | exact Or.inr (Or.inl (by assumption)) | exact Or.inr (Or.inr (by assumption)))]) ?_
                      exact (Nat.not_lt_zero _ (by omega)).elim
                  · first
                    | exfalso; first | omega | contradiction
                    | skip
                      refine r_aload_n C dX4_goneWithAll_34 rfl ?_
                      refine r_iload_n C dX4_goneWithAll_35 rfl ?_
                      refine d_Vv (st := []) hX.1.stb C hE (D_gone (ba := ba) (ra := ra) (hf := (gaF f hf (4 + g0) k)) (hq := hq) (kn := kn) (th := th) (sm := sm) (Y := Y) (g0 := k) hX (by first | omega | (simp [up2, *]; done) | (simp [up2, *]; omega) | (simp only [up2_eq]; omega) | (split <;> omega)) (fun i hi => gaF_9 (h9a i hi)) h6a) pk_X4_gone qm_X4_70 0 8 rfl rfl wm_0 rfl rfl (Nat.le_of_ble_eq_true rfl) dX4_goneWithAll_36 ⟨(Nat.le_of_ble_eq_true rfl), (Nat.le_of_ble_eq_true rfl)⟩ ⟨(Nat.le_of_ble_eq_true rfl), (Nat.le_of_ble_eq_true rfl)⟩ ?_
                      refine r_w (w' := WM cy ba ra (dcF (up2 (gaF f hf (4 + g0) k) 5 (4 + k) 0) (4 + k) 3) hq kn th sm ++ Y) rfl ?_
                      refine r_iincN C dX4_goneWithAll_39 rfl (by decide) rfl ?_
                      refine r_goto (tgt := 2) C dX4_goneWithAll_42 (by decide) ?_
                      refine r_w (w' := WM cy ba ra (gaF f hf (4 + g0) (k + 1)) hq kn th sm ++ Y) (by rw [gaF_yes (by omega) (by assumption) (by assumption)]) ?_
                      exact (Nat.not_lt_zero _ (by omega)).elim
    | succ d ih_L2 =>
      intro k hk
      refine r_iload_n C dX4_goneWithAll_2 rfl ?_
      refine r_iconst (v := (nI 4)) C dX4_goneWithAll_3 (by decide) ?_
      refine r_icN_ge (a := k) (b := 4) (tgt := 45) C (by first | omega | (simp [up2, *]; done) | (simp [up2, *]; omega) | (simp only [up2_eq]; omega) | (split <;> omega)) (by first | omega | (simp [up2, *]; done) | (simp [up2, *]; omega) | (simp only [up2_eq]; omega) | (split <;> omega)) dX4_goneWithAll_4 (by decide) (fun h4_5 => ?_) (fun h4_5 => ?_)
      · first
        | exfalso; first | omega | contradiction
        | skip
          have e9 : k = 4 := by omega
          subst e9
          refine r_aload_n C dX4_goneWithAll_45 rfl ?_
          refine r_iload_n C dX4_goneWithAll_46 rfl ?_
          refine d_Vv (st := []) hX.1.stb C hE (D_gone (ba := ba) (ra := ra) (hf := (gaF f hf (4 + g0) 4)) (hq := hq) (kn := kn) (th := th) (sm := sm) (Y := Y) (g0 := g0) hX (by first | omega | (simp [up2, *]; done) | (simp [up2, *]; omega) | (simp only [up2_eq]; omega) | (split <;> omega)) (fun i hi => gaF_9 (h9a i hi)) h6a) pk_X4_gone qm_X4_70 0 8 rfl rfl wm_0 rfl rfl (Nat.le_of_ble_eq_true rfl) dX4_goneWithAll_47 ⟨(Nat.le_of_ble_eq_true rfl), (Nat.le_of_ble_eq_true rfl)⟩ ⟨(Nat.le_of_ble_eq_true rfl), (Nat.le_of_ble_eq_true rfl)⟩ ?_
          refine r_w (w' := WM cy ba ra (dcF (up2 (gaF f hf (4 + g0) 4) 5 (4 + g0) 0) (4 + g0) 3) hq kn th sm ++ Y) rfl ?_
          exact r_vret C hr dX4_goneWithAll_50 ⟨rfl, rfl⟩ (Nat.le_of_ble_eq_true rfl) (Nat.le_of_ble_eq_true rfl)
      · first
        | exfalso; first | omega | contradiction
        | skip
          have q5 := h5M (4 + k) (by omega) (by omega)
          refine r_aload_n C dX4_goneWithAll_7 rfl ?_
          refine m_get (v := .ref (ba 1)) C 1 (by decide) qf_X4_18 rfl rfl dX4_goneWithAll_8 ?_
          refine r_iload_n C dX4_goneWithAll_11 rfl ?_
          refine m_zld (i := k) (z := 4 + k) (v := hf 5 (4 + k)) C 0 (by decide) (by decide) (show k < 4 from (by first | omega | (simp [up2, *]; done) | (simp [up2, *]; omega) | (simp only [up2_eq]; omega) | (split <;> omega))) (show 4 + k = 4 + k from (by omega)) gaF_at dX4_goneWithAll_12 ?_
          refine r_ifN_eq (a := (hf 5 (4 + k))) (tgt := 39) C (by omega) dX4_goneWithAll_13 (by decide) (fun h13_6 => ?_) (fun h13_6 => ?_)
          · first
            | exfalso; first | omega | contradiction
            | skip
              refine r_iincN C dX4_goneWithAll_39 rfl (by decide) rfl ?_
              refine r_goto (tgt := 2) C dX4_goneWithAll_42 (by decide) ?_
              refine r_w (w' := WM cy ba ra (gaF f hf (4 + g0) (k + 1)) hq kn th sm ++ Y) (by rw [gaF_no (by first | exact Or.inl (by omega) | exact Or.inr (Or.inl (by assumption)) | exact Or.inr (Or.inr (by assumption)))]) ?_
              exact ih_L2 (k + 1) (by first | omega | (simp [up2, *]; done) | (simp [up2, *]; omega) | (simp only [up2_eq]; omega) | (split <;> omega))
          · first
            | exfalso; first | omega | contradiction
            | skip
              refine r_iload_n C dX4_goneWithAll_16 rfl ?_
              refine r_iload_n C dX4_goneWithAll_17 rfl ?_
              refine r_icN_eq (a := k) (b := g0) (tgt := 39) C (by first | omega | (simp [up2, *]; done) | (simp [up2, *]; omega) | (simp only [up2_eq]; omega) | (split <;> omega)) (by first | omega | (simp [up2, *]; done) | (simp [up2, *]; omega) | (simp only [up2_eq]; omega) | (split <;> omega)) dX4_goneWithAll_18 (by decide) (fun h18_7 => ?_) (fun h18_7 => ?_)
              · first
                | exfalso; first | omega | contradiction
                | skip
                  refine r_iincN C dX4_goneWithAll_39 rfl (by decide) rfl ?_
                  refine r_goto (tgt := 2) C dX4_goneWithAll_42 (by decide) ?_
                  refine r_w (w' := WM cy ba ra (gaF f hf (4 + g0) (k + 1)) hq kn th sm ++ Y) (by rw [gaF_no (by first | exact Or.inl (by omega) | exact Or.inr (Or.inl (by assumption)) | exact Or.inr (Or.inr (by assumption)))]) ?_
                  exact ih_L2 (k + 1) (by first | omega | (simp [up2, *]; done) | (simp [up2, *]; omega) | (simp only [up2_eq]; omega) | (split <;> omega))
              · first
                | exfalso; first | omega | contradiction
                | skip
                  refine r_aload_n C dX4_goneWithAll_21 rfl ?_
                  refine r_iconst (v := (nI 4)) C dX4_goneWithAll_22 (by decide) ?_
                  refine r_iload_n C dX4_goneWithAll_23 rfl ?_
                  refine r_iaddN C dX4_goneWithAll_24 ?_
                  refine r_iconst (v := (nI 4)) C dX4_goneWithAll_25 (by decide) ?_
                  refine r_iload_n C dX4_goneWithAll_26 rfl ?_
                  refine r_iaddN C dX4_goneWithAll_27 ?_
                  refine d_V (st := []) hX.1.stb C hE (D_isHolder (ba := ba) (ra := ra) (hf := (gaF f hf (4 + g0) k)) (hq := hq) (kn := kn) (th := th) (sm := sm) (Y := Y) (f := f) (h0 := (4 + g0)) (w := (4 + k)) hX hC (MG.same (fun _ => rfl) (fun _ => rfl) hG) (by first | omega | (simp [up2, *]; done) | (simp [up2, *]; omega) | (simp only [up2_eq]; omega) | (split <;> omega)) (by first | omega | (simp [up2, *]; done) | (simp [up2, *]; omega) | (simp only [up2_eq]; omega) | (split <;> omega)) (by omega)) pk_X4_isHolder qm_X4_66 0 8 rfl rfl wm_0 rfl rfl (Nat.le_of_ble_eq_true rfl) dX4_goneWithAll_28 ⟨(Nat.le_of_ble_eq_true rfl), (Nat.le_of_ble_eq_true rfl)⟩ ⟨(Nat.le_of_ble_eq_true rfl), (Nat.le_of_ble_eq_true rfl)⟩ ?_
                  refine r_w (w' := WM cy ba ra (gaF f hf (4 + g0) k) hq kn th sm ++ Y) rfl ?_
                  refine r_ifN_eq (a := (hol f (4 + g0) (4 + k))) (tgt := 39) C (Nat.lt_of_le_of_lt (hol_le _ _ _) (by decide)) dX4_goneWithAll_31 (by decide) (fun h31_8 => ?_) (fun h31_8 => ?_)
                  · first
                    | exfalso; first | omega | contradiction
                    | skip
                      refine r_iincN C dX4_goneWithAll_39 rfl (by decide) rfl ?_
                      refine r_goto (tgt := 2) C dX4_goneWithAll_42 (by decide) ?_
                      refine r_w (w' := WM cy ba ra (gaF f hf (4 + g0) (k + 1)) hq kn th sm ++ Y) (by rw [gaF_no (by first | exact Or.inl (by omega) | exact Or.inr (Or.inl (by assumption)) | exact Or.inr (Or.inr (by assumption)))]) ?_
                      exact ih_L2 (k + 1) (by first | omega | (simp [up2, *]; done) | (simp [up2, *]; omega) | (simp only [up2_eq]; omega) | (split <;> omega))
                  · first
                    | exfalso; first | omega | contradiction
                    | skip
                      refine r_aload_n C dX4_goneWithAll_34 rfl ?_
                      refine r_iload_n C dX4_goneWithAll_35 rfl ?_
                      refine d_Vv (st := []) hX.1.stb C hE (D_gone (ba := ba) (ra := ra) (hf := (gaF f hf (4 + g0) k)) (hq := hq) (kn := kn) (th := th) (sm := sm) (Y := Y) (g0 := k) hX (by first | omega | (simp [up2, *]; done) | (simp [up2, *]; omega) | (simp only [up2_eq]; omega) | (split <;> omega)) (fun i hi => gaF_9 (h9a i hi)) h6a) pk_X4_gone qm_X4_70 0 8 rfl rfl wm_0 rfl rfl (Nat.le_of_ble_eq_true rfl) dX4_goneWithAll_36 ⟨(Nat.le_of_ble_eq_true rfl), (Nat.le_of_ble_eq_true rfl)⟩ ⟨(Nat.le_of_ble_eq_true rfl), (Nat.le_of_ble_eq_true rfl)⟩ ?_
                      refine r_w (w' := WM cy ba ra (dcF (up2 (gaF f hf (4 + g0) k) 5 (4 + k) 0) (4 + k) 3) hq kn th sm ++ Y) rfl ?_
                      refine r_iincN C dX4_goneWithAll_39 rfl (by decide) rfl ?_
                      refine r_goto (tgt := 2) C dX4_goneWithAll_42 (by decide) ?_
                      refine r_w (w' := WM cy ba ra (gaF f hf (4 + g0) (k + 1)) hq kn th sm ++ Y) (by rw [gaF_yes (by omega) (by assumption) (by assumption)]) ?_
                      exact ih_L2 (k + 1) (by first | omega | (simp [up2, *]; done) | (simp [up2, *]; omega) | (simp only [up2_eq]; omega) | (split <;> omega))
  exact L2 4 0 (by first | omega | (simp [up2, *]; done) | (simp [up2, *]; omega) | (simp only [up2_eq]; omega) | (split <;> omega))
end PT_39
/-! ===== 40.mpure3 -/
section PT_40
theorem chO_at {f hf : Nat → Nat → Nat} {w d k : Nat} : chO f hf w d k 9 k = hf 9 k := by
  unfold chO
  rw [if_neg (by omega)]
theorem chO_le {f hf : Nat → Nat → Nat} {w d k i : Nat} (h : hf 9 i ≤ 1) : chO f hf w d k 9 i ≤ 1 := by
  unfold chO
  split <;> omega
theorem lyT_step2 {f hf : Nat → Nat → Nat} {w x c o z : Nat} (h : CInv f) (h4 : 4 ≤ x) (hx : x < 8) (h5 : f 5 x = 1) (hh : hol f x w ≠ 0) (e : hf 4 x = z) : up2 (lyT f hf w x c o) 4 x (z + c - o) = lyT f hf w (f 2 x) c o := by
  subst e
  exact lyT_step h h4 hx h5 hh
section MSW
variable {p : Program} {l : Launch} {e : Env} {R : Room} {s : State} {m : MethodId} {args : Array Value} {below : List Frame} {meth : Method} {c : Code} {D : va_G} {cy : Nat → ClassId} {A : Nat → Prop} {Q : State → Prop} {nL cells slots : Nat} {Y : va_W} {lv : List (Option Value)} {pc : Nat} {st : List Value} {cc : ByteArray} {own : String} {X : (Nat → Prop) → State → Heap → Prop} {w : va_W}
variable {ba ra : Nat → Nat} {hf : Nat → Nat → Nat} {hq : Nat → Nat → Int32} {kn th : Int32} {sm : Int64}
theorem m_swapRow (hX : EnvM X cy) (C : Fg p s m args meth c cc nL own D cy A) (hE : X A s s.heap) {E : va_W} {b n i : Nat} {f : Nat → Int32} (k : Nat) (he : E[k]? = some (b, .inl (cy 1, n, .inl f))) (hi : i < 4) (d : decode cc pc = .ok (.aastore, 1))
    (kk : vC p l e R s m args below meth c D A Q nL cells slots (WM cy ba (upR ra i b) (up2 hf 4 i n) (upR hq i f) kn th sm ++ (Y ++ E.set k (ra i, .inl (cy 1, hf 4 i, .inl (hq i))))) lv (pc + 1) st) : vC p l e R s m args below meth c D A Q nL cells slots (WM cy ba ra hf hq kn th sm ++ (Y ++ E)) lv pc (.ref b :: .int (nI i) :: .ref (ba 0) :: st) := by
  intro H locs ls hP hD hS hl
  obtain ⟨kA, kc, comp, a1, a2, a3, a4⟩ := hX.2 A s s.heap hE
  have hcy : comp = cy 1 := Option.some.inj (a3.symm.trans (C.2.2.2.2.2.1.2 1 (cy 1, .int) rfl).2)
  subst hcy
  have hx := (wm_x (cy := cy) (ba := ba) (ra := ra) (hf := hf) (hq := hq) (kn := kn) (th := th) (sm := sm) (Y := Y) k).trans he
  have c0 : (nI i).toNatClampNeg = i := nI_clamp (by omega)
  refine W.aast C.1 C.2.1 (hP 1 _ wm_1) (fun q h => by cases h) (fun h => by cases h) a1 a2 rfl a4 ⟨fun z => by rw [Int32.lt_iff_toInt_lt, nI_toInt (by omega)] at z; have : (0 : Int32).toInt = 0 := rfl; omega, by show _ < (arrV _ _ _).slots.size; rw [arrV_size, c0]; exact hi⟩ (hP _ _ hx) (fun q h => by cases h) a4 (va_asg _ _) rfl rfl d fun H1 e1 z oq => ?_
  have hP1 : va_P D vwCl ((WM cy ba ra hf hq kn th sm ++ (Y ++ E)).set 1 (ba 0, .inl (cy 5, 4, .inr (.inr (.inr (.inr (fun j => some (upR ra i b j)))))))) H1 := by
    refine hP.set hD wm_1 ?_ oq
    show H1[ba 0]? = some (vp_cell _ _)
    rw [e1, c0]
    rw [vp_cell_q, vp_cell_q, arrV_store]
    congr 2
    funext q
    by_cases hqi : q = i
    · subst hqi
      simp [updV, upR, va_rf]
    · simp [updV, upR, hqi, va_rf]
  have hD1 := hD.set (e := .inl (cy 5, 4, .inr (.inr (.inr (.inr (fun j => some (upR ra i b j))))))) wm_1
  have hS1 := hS.put (k := (nI i).toNatClampNeg) z oq (hD.2 1 _ wm_1)
  have hb : E.length > k := (List.getElem?_eq_some_iff.mp he).1
  refine r_by (fun j => if j = 10 + i then 14 + (Y.length + k) else if j = 14 + (Y.length + k) then 10 + i else j) (fun j q hj => ?_) (fun j1 j2 h1 h2 h => ?_) kk H1 _ ls hP1 hD1 hS1 hl
  · by_cases hj1 : j = 10 + i
    · subst hj1
      rw [if_pos rfl, List.getElem?_set_ne (by omega), hx]
      rw [wm_r hi] at hj
      rw [← hj]
      unfold mR
      simp [upR, up2]
    · rw [if_neg hj1]
      by_cases hj2 : j = 14 + (Y.length + k)
      · subst hj2
        rw [if_pos rfl, List.getElem?_set_ne (by omega), wm_r hi]
        rw [wm_x, List.getElem?_set_self hb] at hj
        rw [← hj]
        rfl
      · rw [if_neg hj2]
        by_cases hj3 : j < 14
        · by_cases hj4 : j = 1
          · subst hj4
            rw [wm_1] at hj
            rw [← hj]
            exact List.getElem?_set_self (by rw [List.length_append, wm_len]; omega)
          · rw [List.getElem?_set_ne (fun q => hj4 q.symm)]
            by_cases hj5 : j = 0
            · subst hj5
              exact hj
            · by_cases hj6 : j < 10
              · obtain ⟨j', rfl⟩ : ∃ j', j = 2 + j' := ⟨j - 2, by omega⟩
                rw [wm_a (by omega)] at hj ⊢
                rw [← hj]
                congr 1
                unfold mA
                congr 5
                funext z9
                by_cases hm : mfl (j' + 1) = 4
                · have h4 : mof (j' + 1) = 4 := by
                    rcases (show j' = 0 ∨ j' = 1 ∨ j' = 2 ∨ j' = 3 ∨ j' = 4 ∨ j' = 5 ∨ j' = 6 ∨ j' = 7 by omega) with rfl | rfl | rfl | rfl | rfl | rfl | rfl | rfl <;> first | rfl | (exact absurd hm (by decide))
                  rw [hm, h4, up2_i _ _ _ _ (by omega)]
                · rw [up2_k _ _ _ _ hm]
              · obtain ⟨j', rfl⟩ : ∃ j', j = 10 + j' := ⟨j - 10, by omega⟩
                rw [wm_r (by omega)] at hj ⊢
                rw [← hj]
                unfold mR
                simp [upR, up2, show j' ≠ i by omega]
        · rw [List.getElem?_set_ne (by omega), List.getElem?_append_right (by rw [wm_len]; omega), wm_len]
          rw [List.getElem?_append_right (by rw [wm_len]; omega), wm_len] at hj
          by_cases hj4 : j - 14 < Y.length
          · rw [List.getElem?_append_left hj4] at hj ⊢
            exact hj
          · rw [List.getElem?_append_right (by omega)] at hj ⊢
            rw [List.getElem?_set_ne (by omega)] at hj
            exact hj
  · split at h <;> split at h <;> (try split at h) <;> (try split at h) <;> omega
end MSW
end PT_40
/-! ===== 41.model3 -/
section PT_41
/-! CONTRACTS of the model: changes -/
theorem dX4_changed_0 : decode cX4_changed 0 = .ok (.aload_n 0, 1) := dqo_42 (kb_X4_changed_0 0 rfl)
theorem dX4_changed_1 : decode cX4_changed 1 = .ok (.iload_n 1, 1) := dqo_27 (kb_X4_changed_0 1 rfl)
theorem dX4_changed_2 : decode cX4_changed 2 = .ok (.invokevirtual 48, 3) := dqo_182 0 48 (kb_X4_changed_0 2 rfl) (kb_X4_changed_0 3 rfl) (kb_X4_changed_0 4 rfl)
theorem dX4_changed_5 : decode cX4_changed 5 = .ok (.istore_n 3, 1) := dqo_62 (kb_X4_changed_0 5 rfl)
theorem dX4_changed_6 : decode cX4_changed 6 = .ok (.iconst 0, 1) := dqo_3 (kb_X4_changed_0 6 rfl)
theorem dX4_changed_7 : decode cX4_changed 7 = .ok (.istore 4, 2) := dqo_54 4 (kb_X4_changed_0 7 rfl) (kb_X4_changed_0 8 rfl)
theorem dX4_changed_9 : decode cX4_changed 9 = .ok (.iload 4, 2) := dqo_21 4 (kb_X4_changed_0 9 rfl) (kb_X4_changed_0 10 rfl)
theorem dX4_changed_11 : decode cX4_changed 11 = .ok (.iconst 3, 1) := dqo_6 (kb_X4_changed_0 11 rfl)
theorem dX4_changed_12 : decode cX4_changed 12 = .ok (.if_icmp .ge 48, 3) := dqo_162 0 48 (by decide) (kb_X4_changed_0 12 rfl) (kb_X4_changed_0 13 rfl) (kb_X4_changed_0 14 rfl)
theorem dX4_changed_15 : decode cX4_changed 15 = .ok (.iload 4, 2) := dqo_21 4 (kb_X4_changed_0 15 rfl) (kb_X4_changed_0 16 rfl)
theorem dX4_changed_17 : decode cX4_changed 17 = .ok (.iload_n 2, 1) := dqo_28 (kb_X4_changed_0 17 rfl)
theorem dX4_changed_18 : decode cX4_changed 18 = .ok (.if_icmp .eq 36, 3) := dqo_159 0 36 (by decide) (kb_X4_changed_0 18 rfl) (kb_X4_changed_0 19 rfl) (kb_X4_changed_0 20 rfl)
theorem dX4_changed_21 : decode cX4_changed 21 = .ok (.aload_n 0, 1) := dqo_42 (kb_X4_changed_0 21 rfl)
theorem dX4_changed_22 : decode cX4_changed 22 = .ok (.getfield 32, 3) := dqo_180 0 32 (kb_X4_changed_0 22 rfl) (kb_X4_changed_0 23 rfl) (kb_X4_changed_0 24 rfl)
theorem dX4_changed_25 : decode cX4_changed 25 = .ok (.iload 4, 2) := dqo_21 4 (kb_X4_changed_0 25 rfl) (kb_X4_changed_0 26 rfl)
theorem dX4_changed_27 : decode cX4_changed 27 = .ok (.baload, 1) := dqo_51 (kb_X4_changed_0 27 rfl)
theorem dX4_changed_28 : decode cX4_changed 28 = .ok (.ifCond .eq 26, 3) := dqo_153 0 26 (by decide) (kb_X4_changed_0 28 rfl) (kb_X4_changed_0 29 rfl) (kb_X4_changed_0 30 rfl)
theorem dX4_changed_31 : decode cX4_changed 31 = .ok (.aload_n 0, 1) := dqo_42 (kb_X4_changed_0 31 rfl)
theorem dX4_changed_32 : decode cX4_changed 32 = .ok (.aload_n 0, 1) := dqo_42 (kb_X4_changed_0 32 rfl)
theorem dX4_changed_33 : decode cX4_changed 33 = .ok (.getfield 35, 3) := dqo_180 0 35 (kb_X4_changed_0 33 rfl) (kb_X4_changed_0 34 rfl) (kb_X4_changed_0 35 rfl)
theorem dX4_changed_36 : decode cX4_changed 36 = .ok (.iload 4, 2) := dqo_21 4 (kb_X4_changed_0 36 rfl) (kb_X4_changed_0 37 rfl)
theorem dX4_changed_38 : decode cX4_changed 38 = .ok (.iaload, 1) := dqo_46 (kb_X4_changed_0 38 rfl)
theorem dX4_changed_39 : decode cX4_changed 39 = .ok (.invokevirtual 48, 3) := dqo_182 0 48 (kb_X4_changed_0 39 rfl) (kb_X4_changed_0 40 rfl) (kb_X4_changed_0 41 rfl)
theorem dX4_changed_42 : decode cX4_changed 42 = .ok (.iload_n 3, 1) := dqo_29 (kb_X4_changed_0 42 rfl)
theorem dX4_changed_43 : decode cX4_changed 43 = .ok (.if_icmp .ne 11, 3) := dqo_160 0 11 (by decide) (kb_X4_changed_0 43 rfl) (kb_X4_changed_0 44 rfl) (kb_X4_changed_0 45 rfl)
theorem dX4_changed_46 : decode cX4_changed 46 = .ok (.aload_n 0, 1) := dqo_42 (kb_X4_changed_0 46 rfl)
theorem dX4_changed_47 : decode cX4_changed 47 = .ok (.getfield 32, 3) := dqo_180 0 32 (kb_X4_changed_0 47 rfl) (kb_X4_changed_0 48 rfl) (kb_X4_changed_0 49 rfl)
theorem dX4_changed_50 : decode cX4_changed 50 = .ok (.iload 4, 2) := dqo_21 4 (kb_X4_changed_0 50 rfl) (kb_X4_changed_0 51 rfl)
theorem dX4_changed_52 : decode cX4_changed 52 = .ok (.iconst 0, 1) := dqo_3 (kb_X4_changed_0 52 rfl)
theorem dX4_changed_53 : decode cX4_changed 53 = .ok (.bastore, 1) := dqo_84 (kb_X4_changed_0 53 rfl)
theorem dX4_changed_54 : decode cX4_changed 54 = .ok (.iinc 4 1, 3) := dqo_132 4 1 (by decide) (kb_X4_changed_0 54 rfl) (kb_X4_changed_0 55 rfl) (kb_X4_changed_0 56 rfl)
theorem dX4_changed_57 : decode cX4_changed 57 = .ok (.goto (-48), 3) := dqo_167 255 208 (by decide) (kb_X4_changed_0 57 rfl) (kb_X4_changed_0 58 rfl) (kb_X4_changed_0 59 rfl)
theorem dX4_changed_60 : decode cX4_changed 60 = .ok (.iconst 4, 1) := dqo_7 (kb_X4_changed_0 60 rfl)
theorem dX4_changed_61 : decode cX4_changed 61 = .ok (.newarray .boolean, 2) := dqo_188_4 (kb_X4_changed_0 61 rfl) (kb_X4_changed_0 62 rfl)
theorem dX4_changed_63 : decode cX4_changed 63 = .ok (.astore 4, 2) := dqo_58 4 (kb_X4_changed_0 63 rfl) (kb_X4_changed_1 0 rfl)
theorem dX4_changed_65 : decode cX4_changed 65 = .ok (.iconst 0, 1) := dqo_3 (kb_X4_changed_1 1 rfl)
theorem dX4_changed_66 : decode cX4_changed 66 = .ok (.istore 5, 2) := dqo_54 5 (kb_X4_changed_1 2 rfl) (kb_X4_changed_1 3 rfl)
theorem dX4_changed_68 : decode cX4_changed 68 = .ok (.iload 5, 2) := dqo_21 5 (kb_X4_changed_1 4 rfl) (kb_X4_changed_1 5 rfl)
theorem dX4_changed_70 : decode cX4_changed 70 = .ok (.iconst 4, 1) := dqo_7 (kb_X4_changed_1 6 rfl)
theorem dX4_changed_71 : decode cX4_changed 71 = .ok (.if_icmp .ge 53, 3) := dqo_162 0 53 (by decide) (kb_X4_changed_1 7 rfl) (kb_X4_changed_1 8 rfl) (kb_X4_changed_1 9 rfl)
theorem dX4_changed_74 : decode cX4_changed 74 = .ok (.aload 4, 2) := dqo_25 4 (kb_X4_changed_1 10 rfl) (kb_X4_changed_1 11 rfl)
theorem dX4_changed_76 : decode cX4_changed 76 = .ok (.iload 5, 2) := dqo_21 5 (kb_X4_changed_1 12 rfl) (kb_X4_changed_1 13 rfl)
theorem dX4_changed_78 : decode cX4_changed 78 = .ok (.aload_n 0, 1) := dqo_42 (kb_X4_changed_1 14 rfl)
theorem dX4_changed_79 : decode cX4_changed 79 = .ok (.getfield 18, 3) := dqo_180 0 18 (kb_X4_changed_1 15 rfl) (kb_X4_changed_1 16 rfl) (kb_X4_changed_1 17 rfl)
theorem dX4_changed_82 : decode cX4_changed 82 = .ok (.iload 5, 2) := dqo_21 5 (kb_X4_changed_1 18 rfl) (kb_X4_changed_1 19 rfl)
theorem dX4_changed_84 : decode cX4_changed 84 = .ok (.baload, 1) := dqo_51 (kb_X4_changed_1 20 rfl)
theorem dX4_changed_85 : decode cX4_changed 85 = .ok (.ifCond .eq 31, 3) := dqo_153 0 31 (by decide) (kb_X4_changed_1 21 rfl) (kb_X4_changed_1 22 rfl) (kb_X4_changed_1 23 rfl)
theorem dX4_changed_88 : decode cX4_changed 88 = .ok (.aload_n 0, 1) := dqo_42 (kb_X4_changed_1 24 rfl)
theorem dX4_changed_89 : decode cX4_changed 89 = .ok (.iconst 4, 1) := dqo_7 (kb_X4_changed_1 25 rfl)
theorem dX4_changed_90 : decode cX4_changed 90 = .ok (.iload 5, 2) := dqo_21 5 (kb_X4_changed_1 26 rfl) (kb_X4_changed_1 27 rfl)
theorem dX4_changed_92 : decode cX4_changed 92 = .ok (.iadd, 1) := dqo_96 (kb_X4_changed_1 28 rfl)
theorem dX4_changed_93 : decode cX4_changed 93 = .ok (.invokevirtual 48, 3) := dqo_182 0 48 (kb_X4_changed_1 29 rfl) (kb_X4_changed_1 30 rfl) (kb_X4_changed_1 31 rfl)
theorem dX4_changed_96 : decode cX4_changed 96 = .ok (.iload_n 3, 1) := dqo_29 (kb_X4_changed_1 32 rfl)
theorem dX4_changed_97 : decode cX4_changed 97 = .ok (.if_icmp .ne 19, 3) := dqo_160 0 19 (by decide) (kb_X4_changed_1 33 rfl) (kb_X4_changed_1 34 rfl) (kb_X4_changed_1 35 rfl)
theorem dX4_changed_100 : decode cX4_changed 100 = .ok (.aload_n 0, 1) := dqo_42 (kb_X4_changed_1 36 rfl)
theorem dX4_changed_101 : decode cX4_changed 101 = .ok (.iconst 4, 1) := dqo_7 (kb_X4_changed_1 37 rfl)
theorem dX4_changed_102 : decode cX4_changed 102 = .ok (.iload 5, 2) := dqo_21 5 (kb_X4_changed_1 38 rfl) (kb_X4_changed_1 39 rfl)
theorem dX4_changed_104 : decode cX4_changed 104 = .ok (.iadd, 1) := dqo_96 (kb_X4_changed_1 40 rfl)
theorem dX4_changed_105 : decode cX4_changed 105 = .ok (.iload_n 1, 1) := dqo_27 (kb_X4_changed_1 41 rfl)
theorem dX4_changed_106 : decode cX4_changed 106 = .ok (.invokevirtual 66, 3) := dqo_182 0 66 (kb_X4_changed_1 42 rfl) (kb_X4_changed_1 43 rfl) (kb_X4_changed_1 44 rfl)
theorem dX4_changed_109 : decode cX4_changed 109 = .ok (.ifCond .ne 7, 3) := dqo_154 0 7 (by decide) (kb_X4_changed_1 45 rfl) (kb_X4_changed_1 46 rfl) (kb_X4_changed_1 47 rfl)
theorem dX4_changed_112 : decode cX4_changed 112 = .ok (.iconst 1, 1) := dqo_4 (kb_X4_changed_1 48 rfl)
theorem dX4_changed_113 : decode cX4_changed 113 = .ok (.goto 4, 3) := dqo_167 0 4 (by decide) (kb_X4_changed_1 49 rfl) (kb_X4_changed_1 50 rfl) (kb_X4_changed_1 51 rfl)
theorem dX4_changed_116 : decode cX4_changed 116 = .ok (.iconst 0, 1) := dqo_3 (kb_X4_changed_1 52 rfl)
theorem dX4_changed_117 : decode cX4_changed 117 = .ok (.bastore, 1) := dqo_84 (kb_X4_changed_1 53 rfl)
theorem dX4_changed_118 : decode cX4_changed 118 = .ok (.iinc 5 1, 3) := dqo_132 5 1 (by decide) (kb_X4_changed_1 54 rfl) (kb_X4_changed_1 55 rfl) (kb_X4_changed_1 56 rfl)
theorem dX4_changed_121 : decode cX4_changed 121 = .ok (.goto (-53), 3) := dqo_167 255 203 (by decide) (kb_X4_changed_1 57 rfl) (kb_X4_changed_1 58 rfl) (kb_X4_changed_1 59 rfl)
theorem dX4_changed_124 : decode cX4_changed 124 = .ok (.iconst 0, 1) := dqo_3 (kb_X4_changed_1 60 rfl)
theorem dX4_changed_125 : decode cX4_changed 125 = .ok (.istore 5, 2) := dqo_54 5 (kb_X4_changed_1 61 rfl) (kb_X4_changed_1 62 rfl)
theorem dX4_changed_127 : decode cX4_changed 127 = .ok (.iload 5, 2) := dqo_21 5 (kb_X4_changed_1 63 rfl) (kb_X4_changed_2 0 rfl)
theorem dX4_changed_129 : decode cX4_changed 129 = .ok (.iconst 4, 1) := dqo_7 (kb_X4_changed_2 1 rfl)
theorem dX4_changed_130 : decode cX4_changed 130 = .ok (.if_icmp .ge 25, 3) := dqo_162 0 25 (by decide) (kb_X4_changed_2 2 rfl) (kb_X4_changed_2 3 rfl) (kb_X4_changed_2 4 rfl)
theorem dX4_changed_133 : decode cX4_changed 133 = .ok (.aload 4, 2) := dqo_25 4 (kb_X4_changed_2 5 rfl) (kb_X4_changed_2 6 rfl)
theorem dX4_changed_135 : decode cX4_changed 135 = .ok (.iload 5, 2) := dqo_21 5 (kb_X4_changed_2 7 rfl) (kb_X4_changed_2 8 rfl)
theorem dX4_changed_137 : decode cX4_changed 137 = .ok (.baload, 1) := dqo_51 (kb_X4_changed_2 9 rfl)
theorem dX4_changed_138 : decode cX4_changed 138 = .ok (.ifCond .eq 11, 3) := dqo_153 0 11 (by decide) (kb_X4_changed_2 10 rfl) (kb_X4_changed_2 11 rfl) (kb_X4_changed_2 12 rfl)
theorem dX4_changed_141 : decode cX4_changed 141 = .ok (.aload_n 0, 1) := dqo_42 (kb_X4_changed_2 13 rfl)
theorem dX4_changed_142 : decode cX4_changed 142 = .ok (.getfield 18, 3) := dqo_180 0 18 (kb_X4_changed_2 14 rfl) (kb_X4_changed_2 15 rfl) (kb_X4_changed_2 16 rfl)
theorem dX4_changed_145 : decode cX4_changed 145 = .ok (.iload 5, 2) := dqo_21 5 (kb_X4_changed_2 17 rfl) (kb_X4_changed_2 18 rfl)
theorem dX4_changed_147 : decode cX4_changed 147 = .ok (.iconst 0, 1) := dqo_3 (kb_X4_changed_2 19 rfl)
theorem dX4_changed_148 : decode cX4_changed 148 = .ok (.bastore, 1) := dqo_84 (kb_X4_changed_2 20 rfl)
theorem dX4_changed_149 : decode cX4_changed 149 = .ok (.iinc 5 1, 3) := dqo_132 5 1 (by decide) (kb_X4_changed_2 21 rfl) (kb_X4_changed_2 22 rfl) (kb_X4_changed_2 23 rfl)
theorem dX4_changed_152 : decode cX4_changed 152 = .ok (.goto (-25), 3) := dqo_167 255 231 (by decide) (kb_X4_changed_2 24 rfl) (kb_X4_changed_2 25 rfl) (kb_X4_changed_2 26 rfl)
theorem dX4_changed_155 : decode cX4_changed 155 = .ok (.return_, 1) := dqo_177 (kb_X4_changed_2 27 rfl)
set_option maxRecDepth 100000 in
set_option maxHeartbeats 4000000 in
theorem D_changed {l : Launch} {D : va_G} {cy : Nat → ClassId} {X : (Nat → Prop) → State → Heap → Prop} {ba ra : Nat → Nat} {hf : Nat → Nat → Nat} {hq : Nat → Nat → Int32} {kn th : Int32} {sm : Int64} {Y : va_W} {f : Nat → Nat → Nat} {w : Nat} {d0 : Nat} (hX : EnvM X cy) (hC : CInv f) (hG : MG f hf) (hw : w < 8) (h5w : f 5 w = 1) (hd0 : d0 < 4294967296) (h5M : ∀ w, 4 ≤ w → w < 8 → hf 5 w = f 5 w ∧ f 5 w ≤ 1) (h9a : ∀ k, k < 3 → hf 9 k ≤ 1) (hU : ∀ k, k < 3 → hf 9 k ≠ 0 → hf 6 k < 8 ∧ f 5 (hf 6 k) = 1) : Cd l D cy X yX4_changed cX4_changed 6 none (rmk 5 1 4 170) [.ref (ba 9), .int (nI w), .int (nI d0)] (WM cy ba ra hf hq kn th sm ++ Y) none (WM cy ba ra (chM f hf w d0) hq kn th sm ++ Y) := by
  have q1 := hC.al hw
  refine Cm.of [some (.ref (ba 9)), some (.int (nI w)), some (.int (nI d0)), none, none, none] pn_X4 rfl (Nat.le_of_ble_eq_true rfl) ?_
  intro p e s m args below meth c A C hE hr hnt hn
  refine r_aload_n C dX4_changed_0 rfl ?_
  refine r_iload_n C dX4_changed_1 rfl ?_
  refine d_V (st := []) hX.1.stb C hE (D_rowOf (ba := ba) (ra := ra) (hf := hf) (hq := hq) (kn := kn) (th := th) (sm := sm) (Y := Y) (f := f) (w := w) hX hC (MG.same (fun _ => rfl) (fun _ => rfl) hG) (by first | omega | (simp [up2, *]; done) | (simp [up2, *]; omega) | (simp only [up2_eq]; omega) | (split <;> omega)) (by first | omega | (simp [up2, *]; done) | (simp [up2, *]; omega) | (simp only [up2_eq]; omega) | (split <;> omega))) pk_X4_rowOf qm_X4_48 0 8 rfl rfl wm_0 rfl rfl (Nat.le_of_ble_eq_true rfl) dX4_changed_2 ⟨(Nat.le_of_ble_eq_true rfl), (Nat.le_of_ble_eq_true rfl)⟩ ⟨(Nat.le_of_ble_eq_true rfl), (Nat.le_of_ble_eq_true rfl)⟩ ?_
  refine r_w (w' := WM cy ba ra hf hq kn th sm ++ Y) rfl ?_
  refine r_istore_n C dX4_changed_5 (by decide) rfl ?_
  refine r_iconst (v := (nI 0)) C dX4_changed_6 (by decide) ?_
  refine r_istore C dX4_changed_7 (by decide) rfl ?_
  refine r_w (w' := WM cy ba ra (chO f hf w d0 0) hq kn th sm ++ Y) (by rw [chO_0]) ?_
  have L9 : ∀ (d : Nat) (k : Nat), (hk : k + d = 3) → vC p l e (rmk 5 1 4 170) s m args below meth c D A (vx_MQ below (vG (fun v1 w1 => v1 = none ∧ w1 = WM cy ba ra (chM f hf w d0) hq kn th sm ++ Y) D vwCl A) (vGX (fun _ => False) D vwCl (WM cy ba ra hf hq kn th sm ++ Y) A) args s (rmk 5 1 4 170).cells (rmk 5 1 4 170).slots A) 6 0 0 (WM cy ba ra (chO f hf w d0 k) hq kn th sm ++ Y) [some (.ref (ba 9)), some (.int (nI w)), some (.int (nI d0)), some (.int (nI (f 1 w))), some (.int (nI k)), none] 9 [] := by
    intro d
    induction d with
    | zero =>
      intro k hk
      refine r_iload C dX4_changed_9 rfl ?_
      refine r_iconst (v := (nI 3)) C dX4_changed_11 (by decide) ?_
      refine r_icN_ge (a := k) (b := 3) (tgt := 60) C (by first | omega | (simp [up2, *]; done) | (simp [up2, *]; omega) | (simp only [up2_eq]; omega) | (split <;> omega)) (by first | omega | (simp [up2, *]; done) | (simp [up2, *]; omega) | (simp only [up2_eq]; omega) | (split <;> omega)) dX4_changed_12 (by decide) (fun h12_1 => ?_) (fun h12_1 => ?_)
      · first
        | exfalso; first | omega | contradiction
        | skip
          have e9 : k = 3 := by omega
          subst e9
          refine r_iconst (v := (nI 4)) C dX4_changed_60 (by decide) ?_
          refine r_newT C .boolean .boolean 2 rfl (by simp) qa_boolean (n := 4) (show 4 < 1000000 from Nat.lt_of_le_of_lt (show 4 ≤ 4 from by first | omega | (simp [up2, *]; done) | (simp [up2, *]; omega) | (simp only [up2_eq]; omega) | (split <;> omega)) (by decide)) (1) (4) (Nat.le_of_ble_eq_true rfl) (Nat.add_le_add (Nat.le_refl _) (show 4 ≤ 4 from by first | omega | (simp [up2, *]; done) | (simp [up2, *]; omega) | (simp only [up2_eq]; omega) | (split <;> omega))) (Nat.le_of_ble_eq_true rfl) (Nat.le_of_ble_eq_true rfl) dX4_changed_61 (fun b_2 => ?_)
          refine r_w (w' := WM cy ba ra (chO f hf w d0 3) hq kn th sm ++ (Y ++ [(b_2, .inl (cy 2, 4, .inl (fun _ => 0)))])) (by simp only [List.append_assoc, List.cons_append, List.nil_append]) ?_
          refine r_astore C dX4_changed_63 (by decide) rfl ?_
          refine r_iconst (v := (nI 0)) C dX4_changed_65 (by decide) ?_
          refine r_istore C dX4_changed_66 (by decide) rfl ?_
          refine r_w (w' := WM cy ba ra (chO f hf w d0 3) hq kn th sm ++ (Y ++ [(b_2, .inl (cy 2, 4, .inl (gcF f (chO f hf w d0 3) w 0)))])) (by rw [gcF_0]) ?_
          have L68 : ∀ (d : Nat) (k : Nat), (hk : k + d = 4) → vC p l e (rmk 5 1 4 170) s m args below meth c D A (vx_MQ below (vG (fun v1 w1 => v1 = none ∧ w1 = WM cy ba ra (chM f hf w d0) hq kn th sm ++ Y) D vwCl A) (vGX (fun _ => False) D vwCl (WM cy ba ra hf hq kn th sm ++ Y) A) args s (rmk 5 1 4 170).cells (rmk 5 1 4 170).slots A) 6 1 4 (WM cy ba ra (chO f hf w d0 3) hq kn th sm ++ (Y ++ [(b_2, .inl (cy 2, 4, .inl (gcF f (chO f hf w d0 3) w k)))])) [some (.ref (ba 9)), some (.int (nI w)), some (.int (nI d0)), some (.int (nI (f 1 w))), some (.ref b_2), some (.int (nI k))] 68 [] := by
            intro d
            induction d with
            | zero =>
              intro k hk
              refine r_iload C dX4_changed_68 rfl ?_
              refine r_iconst (v := (nI 4)) C dX4_changed_70 (by decide) ?_
              refine r_icN_ge (a := k) (b := 4) (tgt := 124) C (by first | omega | (simp [up2, *]; done) | (simp [up2, *]; omega) | (simp only [up2_eq]; omega) | (split <;> omega)) (by first | omega | (simp [up2, *]; done) | (simp [up2, *]; omega) | (simp only [up2_eq]; omega) | (split <;> omega)) dX4_changed_71 (by decide) (fun h71_3 => ?_) (fun h71_3 => ?_)
              · first
                | exfalso; first | omega | contradiction
                | skip
                  have e9 : k = 4 := by omega
                  subst e9
                  refine r_iconst (v := (nI 0)) C dX4_changed_124 (by decide) ?_
                  refine r_istore C dX4_changed_125 (by decide) rfl ?_
                  refine r_w (w' := WM cy ba ra (chT f (chO f hf w d0 3) w 0) hq kn th sm ++ (Y ++ [(b_2, .inl (cy 2, 4, .inl (gcF f (chO f hf w d0 3) w 4)))])) (by rw [chT_0]) ?_
                  have L127 : ∀ (d : Nat) (k : Nat), (hk : k + d = 4) → vC p l e (rmk 5 1 4 170) s m args below meth c D A (vx_MQ below (vG (fun v1 w1 => v1 = none ∧ w1 = WM cy ba ra (chM f hf w d0) hq kn th sm ++ Y) D vwCl A) (vGX (fun _ => False) D vwCl (WM cy ba ra hf hq kn th sm ++ Y) A) args s (rmk 5 1 4 170).cells (rmk 5 1 4 170).slots A) 6 1 4 (WM cy ba ra (chT f (chO f hf w d0 3) w k) hq kn th sm ++ (Y ++ [(b_2, .inl (cy 2, 4, .inl (gcF f (chO f hf w d0 3) w 4)))])) [some (.ref (ba 9)), some (.int (nI w)), some (.int (nI d0)), some (.int (nI (f 1 w))), some (.ref b_2), some (.int (nI k))] 127 [] := by
                    intro d
                    induction d with
                    | zero =>
                      intro k hk
                      refine r_iload C dX4_changed_127 rfl ?_
                      refine r_iconst (v := (nI 4)) C dX4_changed_129 (by decide) ?_
                      refine r_icN_ge (a := k) (b := 4) (tgt := 155) C (by first | omega | (simp [up2, *]; done) | (simp [up2, *]; omega) | (simp only [up2_eq]; omega) | (split <;> omega)) (by first | omega | (simp [up2, *]; done) | (simp [up2, *]; omega) | (simp only [up2_eq]; omega) | (split <;> omega)) dX4_changed_130 (by decide) (fun h130_4 => ?_) (fun h130_4 => ?_)
                      · first
                        | exfalso; first | omega | contradiction
                        | skip
                          have e9 : k = 4 := by omega
                          subst e9
                          refine r_pre ?_
                          exact r_vret C hr dX4_changed_155 ⟨rfl, rfl⟩ (Nat.le_of_ble_eq_true rfl) (Nat.le_of_ble_eq_true rfl)
                      · first
                        | exfalso; first | omega | contradiction
                        | skip
                          refine r_aload C dX4_changed_133 rfl ?_
                          refine r_iload C dX4_changed_135 rfl ?_
                          refine x_zld C (i := k) (f := gcF f (chO f hf w d0 3) w 4) 0 rfl (by first | omega | (simp [up2, *]; done) | (simp [up2, *]; omega) | (simp only [up2_eq]; omega) | (split <;> omega)) (by first | omega | (simp [up2, *]; done) | (simp [up2, *]; omega) | (simp only [up2_eq]; omega) | (split <;> omega)) dX4_changed_137 ?_
                          refine r_eqi (show (gcF f (chO f hf w d0 3) w 4) k = (nI (goF f (chO f hf w d0 3) w k)) from gcF_at (by omega)) ?_
                          refine r_ifN_eq (a := (goF f (chO f hf w d0 3) w k)) (tgt := 149) C (Nat.lt_of_le_of_lt (goF_le _ _ _ _) (by decide)) dX4_changed_138 (by decide) (fun h138_5 => ?_) (fun h138_5 => ?_)
                          · first
                            | exfalso; first | omega | contradiction
                            | skip
                              refine r_iincN C dX4_changed_149 rfl (by decide) rfl ?_
                              refine r_goto (tgt := 127) C dX4_changed_152 (by decide) ?_
                              refine r_w (w' := WM cy ba ra (chT f (chO f hf w d0 3) w (k + 1)) hq kn th sm ++ (Y ++ [(b_2, .inl (cy 2, 4, .inl (gcF f (chO f hf w d0 3) w 4)))])) (by rw [chT_no (by assumption)]) ?_
                              exact (Nat.not_lt_zero _ (by omega)).elim
                          · first
                            | exfalso; first | omega | contradiction
                            | skip
                              refine r_aload_n C dX4_changed_141 rfl ?_
                              refine m_get (v := .ref (ba 1)) C 1 (by decide) qf_X4_18 rfl rfl dX4_changed_142 ?_
                              refine r_iload C dX4_changed_145 rfl ?_
                              refine r_iconst (v := (nI 0)) C dX4_changed_147 (by decide) ?_
                              refine m_zst (i := k) (z := 4 + k) (v := 0) C 0 (by decide) (by decide) (show k < 4 from (by first | omega | (simp [up2, *]; done) | (simp [up2, *]; omega) | (simp only [up2_eq]; omega) | (split <;> omega))) (show 4 + k = 4 + k from (by omega)) (by first | omega | (simp [up2, *]; done) | (simp [up2, *]; omega) | (simp only [up2_eq]; omega) | (split <;> omega)) dX4_changed_148 ?_
                              refine r_w (w' := WM cy ba ra (up2 (chT f (chO f hf w d0 3) w k) 5 (4 + k) 0) hq kn th sm ++ (Y ++ [(b_2, .inl (cy 2, 4, .inl (gcF f (chO f hf w d0 3) w 4)))])) rfl ?_
                              refine r_iincN C dX4_changed_149 rfl (by decide) rfl ?_
                              refine r_goto (tgt := 127) C dX4_changed_152 (by decide) ?_
                              refine r_w (w' := WM cy ba ra (chT f (chO f hf w d0 3) w (k + 1)) hq kn th sm ++ (Y ++ [(b_2, .inl (cy 2, 4, .inl (gcF f (chO f hf w d0 3) w 4)))])) (by rw [chT_yes (by assumption)]) ?_
                              exact (Nat.not_lt_zero _ (by omega)).elim
                    | succ d ih_L127 =>
                      intro k hk
                      refine r_iload C dX4_changed_127 rfl ?_
                      refine r_iconst (v := (nI 4)) C dX4_changed_129 (by decide) ?_
                      refine r_icN_ge (a := k) (b := 4) (tgt := 155) C (by first | omega | (simp [up2, *]; done) | (simp [up2, *]; omega) | (simp only [up2_eq]; omega) | (split <;> omega)) (by first | omega | (simp [up2, *]; done) | (simp [up2, *]; omega) | (simp only [up2_eq]; omega) | (split <;> omega)) dX4_changed_130 (by decide) (fun h130_6 => ?_) (fun h130_6 => ?_)
                      · first
                        | exfalso; first | omega | contradiction
                        | skip
                          have e9 : k = 4 := by omega
                          subst e9
                          refine r_pre ?_
                          exact r_vret C hr dX4_changed_155 ⟨rfl, rfl⟩ (Nat.le_of_ble_eq_true rfl) (Nat.le_of_ble_eq_true rfl)
                      · first
                        | exfalso; first | omega | contradiction
                        | skip
                          refine r_aload C dX4_changed_133 rfl ?_
                          refine r_iload C dX4_changed_135 rfl ?_
                          refine x_zld C (i := k) (f := gcF f (chO f hf w d0 3) w 4) 0 rfl (by first | omega | (simp [up2, *]; done) | (simp [up2, *]; omega) | (simp only [up2_eq]; omega) | (split <;> omega)) (by first | omega | (simp [up2, *]; done) | (simp [up2, *]; omega) | (simp only [up2_eq]; omega) | (split <;> omega)) dX4_changed_137 ?_
                          refine r_eqi (show (gcF f (chO f hf w d0 3) w 4) k = (nI (goF f (chO f hf w d0 3) w k)) from gcF_at (by omega)) ?_
                          refine r_ifN_eq (a := (goF f (chO f hf w d0 3) w k)) (tgt := 149) C (Nat.lt_of_le_of_lt (goF_le _ _ _ _) (by decide)) dX4_changed_138 (by decide) (fun h138_7 => ?_) (fun h138_7 => ?_)
                          · first
                            | exfalso; first | omega | contradiction
                            | skip
                              refine r_iincN C dX4_changed_149 rfl (by decide) rfl ?_
                              refine r_goto (tgt := 127) C dX4_changed_152 (by decide) ?_
                              refine r_w (w' := WM cy ba ra (chT f (chO f hf w d0 3) w (k + 1)) hq kn th sm ++ (Y ++ [(b_2, .inl (cy 2, 4, .inl (gcF f (chO f hf w d0 3) w 4)))])) (by rw [chT_no (by assumption)]) ?_
                              exact ih_L127 (k + 1) (by first | omega | (simp [up2, *]; done) | (simp [up2, *]; omega) | (simp only [up2_eq]; omega) | (split <;> omega))
                          · first
                            | exfalso; first | omega | contradiction
                            | skip
                              refine r_aload_n C dX4_changed_141 rfl ?_
                              refine m_get (v := .ref (ba 1)) C 1 (by decide) qf_X4_18 rfl rfl dX4_changed_142 ?_
                              refine r_iload C dX4_changed_145 rfl ?_
                              refine r_iconst (v := (nI 0)) C dX4_changed_147 (by decide) ?_
                              refine m_zst (i := k) (z := 4 + k) (v := 0) C 0 (by decide) (by decide) (show k < 4 from (by first | omega | (simp [up2, *]; done) | (simp [up2, *]; omega) | (simp only [up2_eq]; omega) | (split <;> omega))) (show 4 + k = 4 + k from (by omega)) (by first | omega | (simp [up2, *]; done) | (simp [up2, *]; omega) | (simp only [up2_eq]; omega) | (split <;> omega)) dX4_changed_148 ?_
                              refine r_w (w' := WM cy ba ra (up2 (chT f (chO f hf w d0 3) w k) 5 (4 + k) 0) hq kn th sm ++ (Y ++ [(b_2, .inl (cy 2, 4, .inl (gcF f (chO f hf w d0 3) w 4)))])) rfl ?_
                              refine r_iincN C dX4_changed_149 rfl (by decide) rfl ?_
                              refine r_goto (tgt := 127) C dX4_changed_152 (by decide) ?_
                              refine r_w (w' := WM cy ba ra (chT f (chO f hf w d0 3) w (k + 1)) hq kn th sm ++ (Y ++ [(b_2, .inl (cy 2, 4, .inl (gcF f (chO f hf w d0 3) w 4)))])) (by rw [chT_yes (by assumption)]) ?_
                              exact ih_L127 (k + 1) (by first | omega | (simp [up2, *]; done) | (simp [up2, *]; omega) | (simp only [up2_eq]; omega) | (split <;> omega))
                  exact L127 4 0 (by first | omega | (simp [up2, *]; done) | (simp [up2, *]; omega) | (simp only [up2_eq]; omega) | (split <;> omega))
              · first
                | exfalso; first | omega | contradiction
                | skip
                  refine r_aload C dX4_changed_74 rfl ?_
                  refine r_iload C dX4_changed_76 rfl ?_
                  refine r_aload_n C dX4_changed_78 rfl ?_
                  refine m_get (v := .ref (ba 1)) C 1 (by decide) qf_X4_18 rfl rfl dX4_changed_79 ?_
                  refine r_iload C dX4_changed_82 rfl ?_
                  refine m_zld (i := k) (z := 4 + k) (v := hf 5 (4 + k)) C 0 (by decide) (by decide) (show k < 4 from (by first | omega | (simp [up2, *]; done) | (simp [up2, *]; omega) | (simp only [up2_eq]; omega) | (split <;> omega))) (show 4 + k = 4 + k from (by omega)) rfl dX4_changed_84 ?_
                  refine r_ifN_eq (a := (hf 5 (4 + k))) (tgt := 116) C (by have := h5M (4 + k) (by omega) (by omega); omega) dX4_changed_85 (by decide) (fun h85_8 => ?_) (fun h85_8 => ?_)
                  · first
                    | exfalso; first | omega | contradiction
                    | skip
                      refine r_iconst (v := (nI 0)) C dX4_changed_116 (by decide) ?_
                      refine x_zst C (i := k) (v := 0) (f := gcF f (chO f hf w d0 3) w k) (E' := [(b_2, .inl (cy 2, 4, .inl (upd (gcF f (chO f hf w d0 3) w k) k (nI 0))))]) 0 rfl (by first | omega | (simp [up2, *]; done) | (simp [up2, *]; omega) | (simp only [up2_eq]; omega) | (split <;> omega)) (by first | omega | (simp [up2, *]; done) | (simp [up2, *]; omega) | (simp only [up2_eq]; omega) | (split <;> omega)) (by first | omega | (simp [up2, *]; done) | (simp [up2, *]; omega) | (simp only [up2_eq]; omega) | (split <;> omega)) rfl dX4_changed_117 ?_
                      refine r_iincN C dX4_changed_118 rfl (by decide) rfl ?_
                      refine r_goto (tgt := 68) C dX4_changed_121 (by decide) ?_
                      refine r_w (w' := WM cy ba ra (chO f hf w d0 3) hq kn th sm ++ (Y ++ [(b_2, .inl (cy 2, 4, .inl (gcF f (chO f hf w d0 3) w (k + 1))))])) (by rw [gcF_up (go0 (hf := chO f hf w d0 3) (show hf 5 (4 + k) = 0 ∨ f 1 (4 + k) ≠ f 1 w ∨ hol f (4 + k) w ≠ 0 by omega))]) ?_
                      exact (Nat.not_lt_zero _ (by omega)).elim
                  · first
                    | exfalso; first | omega | contradiction
                    | skip
                      refine r_aload_n C dX4_changed_88 rfl ?_
                      refine r_iconst (v := (nI 4)) C dX4_changed_89 (by decide) ?_
                      refine r_iload C dX4_changed_90 rfl ?_
                      refine r_iaddN C dX4_changed_92 ?_
                      refine d_V (st := [.int (nI k), .ref b_2]) hX.1.stb C hE (D_rowOf (ba := ba) (ra := ra) (hf := (chO f hf w d0 3)) (hq := hq) (kn := kn) (th := th) (sm := sm) (f := f) (w := (4 + k)) hX hC (MG.same (fun _ => rfl) (fun _ => rfl) hG) (by first | omega | (simp [up2, *]; done) | (simp [up2, *]; omega) | (simp only [up2_eq]; omega) | (split <;> omega)) (by have := h5M (4 + k) (by omega) (by omega); omega)) pk_X4_rowOf qm_X4_48 0 8 rfl rfl wm_0 rfl rfl (Nat.le_of_ble_eq_true rfl) dX4_changed_93 ⟨(Nat.le_of_ble_eq_true rfl), (Nat.le_of_ble_eq_true rfl)⟩ ⟨(Nat.le_of_ble_eq_true rfl), (Nat.le_of_ble_eq_true rfl)⟩ ?_
                      refine r_w (w' := WM cy ba ra (chO f hf w d0 3) hq kn th sm ++ (Y ++ [(b_2, .inl (cy 2, 4, .inl (gcF f (chO f hf w d0 3) w k)))])) rfl ?_
                      refine r_iload_n C dX4_changed_96 rfl ?_
                      refine r_icN_ne (a := (f 1 (4 + k))) (b := (f 1 w)) (tgt := 116) C (by have := hC.al (i := 4 + k) (by omega); omega) (by first | omega | (simp [up2, *]; done) | (simp [up2, *]; omega) | (simp only [up2_eq]; omega) | (split <;> omega)) dX4_changed_97 (by decide) (fun h97_9 => ?_) (fun h97_9 => ?_)
                      · first
                        | exfalso; first | omega | contradiction
                        | skip
                          refine r_iconst (v := (nI 0)) C dX4_changed_116 (by decide) ?_
                          refine x_zst C (i := k) (v := 0) (f := gcF f (chO f hf w d0 3) w k) (E' := [(b_2, .inl (cy 2, 4, .inl (upd (gcF f (chO f hf w d0 3) w k) k (nI 0))))]) 0 rfl (by first | omega | (simp [up2, *]; done) | (simp [up2, *]; omega) | (simp only [up2_eq]; omega) | (split <;> omega)) (by first | omega | (simp [up2, *]; done) | (simp [up2, *]; omega) | (simp only [up2_eq]; omega) | (split <;> omega)) (by first | omega | (simp [up2, *]; done) | (simp [up2, *]; omega) | (simp only [up2_eq]; omega) | (split <;> omega)) rfl dX4_changed_117 ?_
                          refine r_iincN C dX4_changed_118 rfl (by decide) rfl ?_
                          refine r_goto (tgt := 68) C dX4_changed_121 (by decide) ?_
                          refine r_w (w' := WM cy ba ra (chO f hf w d0 3) hq kn th sm ++ (Y ++ [(b_2, .inl (cy 2, 4, .inl (gcF f (chO f hf w d0 3) w (k + 1))))])) (by rw [gcF_up (go0 (hf := chO f hf w d0 3) (show hf 5 (4 + k) = 0 ∨ f 1 (4 + k) ≠ f 1 w ∨ hol f (4 + k) w ≠ 0 by omega))]) ?_
                          exact (Nat.not_lt_zero _ (by omega)).elim
                      · first
                        | exfalso; first | omega | contradiction
                        | skip
                          refine r_aload_n C dX4_changed_100 rfl ?_
                          refine r_iconst (v := (nI 4)) C dX4_changed_101 (by decide) ?_
                          refine r_iload C dX4_changed_102 rfl ?_
                          refine r_iaddN C dX4_changed_104 ?_
                          refine r_iload_n C dX4_changed_105 rfl ?_
                          refine d_V (st := [.int (nI k), .ref b_2]) hX.1.stb C hE (D_isHolder (ba := ba) (ra := ra) (hf := (chO f hf w d0 3)) (hq := hq) (kn := kn) (th := th) (sm := sm) (f := f) (h0 := (4 + k)) (w := w) hX hC (MG.same (fun _ => rfl) (fun _ => rfl) hG) (by first | omega | (simp [up2, *]; done) | (simp [up2, *]; omega) | (simp only [up2_eq]; omega) | (split <;> omega)) (by first | omega | (simp [up2, *]; done) | (simp [up2, *]; omega) | (simp only [up2_eq]; omega) | (split <;> omega)) (by first | omega | (simp [up2, *]; done) | (simp [up2, *]; omega) | (simp only [up2_eq]; omega) | (split <;> omega))) pk_X4_isHolder qm_X4_66 0 8 rfl rfl wm_0 rfl rfl (Nat.le_of_ble_eq_true rfl) dX4_changed_106 ⟨(Nat.le_of_ble_eq_true rfl), (Nat.le_of_ble_eq_true rfl)⟩ ⟨(Nat.le_of_ble_eq_true rfl), (Nat.le_of_ble_eq_true rfl)⟩ ?_
                          refine r_w (w' := WM cy ba ra (chO f hf w d0 3) hq kn th sm ++ (Y ++ [(b_2, .inl (cy 2, 4, .inl (gcF f (chO f hf w d0 3) w k)))])) rfl ?_
                          refine r_ifN_ne (a := (hol f (4 + k) w)) (tgt := 116) C (Nat.lt_of_le_of_lt (hol_le _ _ _) (by decide)) dX4_changed_109 (by decide) (fun h109_10 => ?_) (fun h109_10 => ?_)
                          · first
                            | exfalso; first | omega | contradiction
                            | skip
                              refine r_iconst (v := (nI 0)) C dX4_changed_116 (by decide) ?_
                              refine x_zst C (i := k) (v := 0) (f := gcF f (chO f hf w d0 3) w k) (E' := [(b_2, .inl (cy 2, 4, .inl (upd (gcF f (chO f hf w d0 3) w k) k (nI 0))))]) 0 rfl (by first | omega | (simp [up2, *]; done) | (simp [up2, *]; omega) | (simp only [up2_eq]; omega) | (split <;> omega)) (by first | omega | (simp [up2, *]; done) | (simp [up2, *]; omega) | (simp only [up2_eq]; omega) | (split <;> omega)) (by first | omega | (simp [up2, *]; done) | (simp [up2, *]; omega) | (simp only [up2_eq]; omega) | (split <;> omega)) rfl dX4_changed_117 ?_
                              refine r_iincN C dX4_changed_118 rfl (by decide) rfl ?_
                              refine r_goto (tgt := 68) C dX4_changed_121 (by decide) ?_
                              refine r_w (w' := WM cy ba ra (chO f hf w d0 3) hq kn th sm ++ (Y ++ [(b_2, .inl (cy 2, 4, .inl (gcF f (chO f hf w d0 3) w (k + 1))))])) (by rw [gcF_up (go0 (hf := chO f hf w d0 3) (show hf 5 (4 + k) = 0 ∨ f 1 (4 + k) ≠ f 1 w ∨ hol f (4 + k) w ≠ 0 by omega))]) ?_
                              exact (Nat.not_lt_zero _ (by omega)).elim
                          · first
                            | exfalso; first | omega | contradiction
                            | skip
                              refine r_iconst (v := (nI 1)) C dX4_changed_112 (by decide) ?_
                              refine r_goto (tgt := 117) C dX4_changed_113 (by decide) ?_
                              refine x_zst C (i := k) (v := 1) (f := gcF f (chO f hf w d0 3) w k) (E' := [(b_2, .inl (cy 2, 4, .inl (upd (gcF f (chO f hf w d0 3) w k) k (nI 1))))]) 0 rfl (by first | omega | (simp [up2, *]; done) | (simp [up2, *]; omega) | (simp only [up2_eq]; omega) | (split <;> omega)) (by first | omega | (simp [up2, *]; done) | (simp [up2, *]; omega) | (simp only [up2_eq]; omega) | (split <;> omega)) (by first | omega | (simp [up2, *]; done) | (simp [up2, *]; omega) | (simp only [up2_eq]; omega) | (split <;> omega)) rfl dX4_changed_117 ?_
                              refine r_iincN C dX4_changed_118 rfl (by decide) rfl ?_
                              refine r_goto (tgt := 68) C dX4_changed_121 (by decide) ?_
                              refine r_w (w' := WM cy ba ra (chO f hf w d0 3) hq kn th sm ++ (Y ++ [(b_2, .inl (cy 2, 4, .inl (gcF f (chO f hf w d0 3) w (k + 1))))])) (by rw [gcF_up (go1 (hf := chO f hf w d0 3) (show hf 5 (4 + k) ≠ 0 by assumption) (by assumption) (by omega))]) ?_
                              exact (Nat.not_lt_zero _ (by omega)).elim
            | succ d ih_L68 =>
              intro k hk
              refine r_iload C dX4_changed_68 rfl ?_
              refine r_iconst (v := (nI 4)) C dX4_changed_70 (by decide) ?_
              refine r_icN_ge (a := k) (b := 4) (tgt := 124) C (by first | omega | (simp [up2, *]; done) | (simp [up2, *]; omega) | (simp only [up2_eq]; omega) | (split <;> omega)) (by first | omega | (simp [up2, *]; done) | (simp [up2, *]; omega) | (simp only [up2_eq]; omega) | (split <;> omega)) dX4_changed_71 (by decide) (fun h71_11 => ?_) (fun h71_11 => ?_)
              · first
                | exfalso; first | omega | contradiction
                | skip
                  have e9 : k = 4 := by omega
                  subst e9
                  refine r_iconst (v := (nI 0)) C dX4_changed_124 (by decide) ?_
                  refine r_istore C dX4_changed_125 (by decide) rfl ?_
                  refine r_w (w' := WM cy ba ra (chT f (chO f hf w d0 3) w 0) hq kn th sm ++ (Y ++ [(b_2, .inl (cy 2, 4, .inl (gcF f (chO f hf w d0 3) w 4)))])) (by rw [chT_0]) ?_
                  have L127 : ∀ (d : Nat) (k : Nat), (hk : k + d = 4) → vC p l e (rmk 5 1 4 170) s m args below meth c D A (vx_MQ below (vG (fun v1 w1 => v1 = none ∧ w1 = WM cy ba ra (chM f hf w d0) hq kn th sm ++ Y) D vwCl A) (vGX (fun _ => False) D vwCl (WM cy ba ra hf hq kn th sm ++ Y) A) args s (rmk 5 1 4 170).cells (rmk 5 1 4 170).slots A) 6 1 4 (WM cy ba ra (chT f (chO f hf w d0 3) w k) hq kn th sm ++ (Y ++ [(b_2, .inl (cy 2, 4, .inl (gcF f (chO f hf w d0 3) w 4)))])) [some (.ref (ba 9)), some (.int (nI w)), some (.int (nI d0)), some (.int (nI (f 1 w))), some (.ref b_2), some (.int (nI k))] 127 [] := by
                    intro d
                    induction d with
                    | zero =>
                      intro k hk
                      refine r_iload C dX4_changed_127 rfl ?_
                      refine r_iconst (v := (nI 4)) C dX4_changed_129 (by decide) ?_
                      refine r_icN_ge (a := k) (b := 4) (tgt := 155) C (by first | omega | (simp [up2, *]; done) | (simp [up2, *]; omega) | (simp only [up2_eq]; omega) | (split <;> omega)) (by first | omega | (simp [up2, *]; done) | (simp [up2, *]; omega) | (simp only [up2_eq]; omega) | (split <;> omega)) dX4_changed_130 (by decide) (fun h130_12 => ?_) (fun h130_12 => ?_)
                      · first
                        | exfalso; first | omega | contradiction
                        | skip
                          have e9 : k = 4 := by omega
                          subst e9
                          refine r_pre ?_
                          exact r_vret C hr dX4_changed_155 ⟨rfl, rfl⟩ (Nat.le_of_ble_eq_true rfl) (Nat.le_of_ble_eq_true rfl)
                      · first
                        | exfalso; first | omega | contradiction
                        | skip
                          refine r_aload C dX4_changed_133 rfl ?_
                          refine r_iload C dX4_changed_135 rfl ?_
                          refine x_zld C (i := k) (f := gcF f (chO f hf w d0 3) w 4) 0 rfl (by first | omega | (simp [up2, *]; done) | (simp [up2, *]; omega) | (simp only [up2_eq]; omega) | (split <;> omega)) (by first | omega | (simp [up2, *]; done) | (simp [up2, *]; omega) | (simp only [up2_eq]; omega) | (split <;> omega)) dX4_changed_137 ?_
                          refine r_eqi (show (gcF f (chO f hf w d0 3) w 4) k = (nI (goF f (chO f hf w d0 3) w k)) from gcF_at (by omega)) ?_
                          refine r_ifN_eq (a := (goF f (chO f hf w d0 3) w k)) (tgt := 149) C (Nat.lt_of_le_of_lt (goF_le _ _ _ _) (by decide)) dX4_changed_138 (by decide) (fun h138_13 => ?_) (fun h138_13 => ?_)
                          · first
                            | exfalso; first | omega | contradiction
                            | skip
                              refine r_iincN C dX4_changed_149 rfl (by decide) rfl ?_
                              refine r_goto (tgt := 127) C dX4_changed_152 (by decide) ?_
                              refine r_w (w' := WM cy ba ra (chT f (chO f hf w d0 3) w (k + 1)) hq kn th sm ++ (Y ++ [(b_2, .inl (cy 2, 4, .inl (gcF f (chO f hf w d0 3) w 4)))])) (by rw [chT_no (by assumption)]) ?_
                              exact (Nat.not_lt_zero _ (by omega)).elim
                          · first
                            | exfalso; first | omega | contradiction
                            | skip
                              refine r_aload_n C dX4_changed_141 rfl ?_
                              refine m_get (v := .ref (ba 1)) C 1 (by decide) qf_X4_18 rfl rfl dX4_changed_142 ?_
                              refine r_iload C dX4_changed_145 rfl ?_
                              refine r_iconst (v := (nI 0)) C dX4_changed_147 (by decide) ?_
                              refine m_zst (i := k) (z := 4 + k) (v := 0) C 0 (by decide) (by decide) (show k < 4 from (by first | omega | (simp [up2, *]; done) | (simp [up2, *]; omega) | (simp only [up2_eq]; omega) | (split <;> omega))) (show 4 + k = 4 + k from (by omega)) (by first | omega | (simp [up2, *]; done) | (simp [up2, *]; omega) | (simp only [up2_eq]; omega) | (split <;> omega)) dX4_changed_148 ?_
                              refine r_w (w' := WM cy ba ra (up2 (chT f (chO f hf w d0 3) w k) 5 (4 + k) 0) hq kn th sm ++ (Y ++ [(b_2, .inl (cy 2, 4, .inl (gcF f (chO f hf w d0 3) w 4)))])) rfl ?_
                              refine r_iincN C dX4_changed_149 rfl (by decide) rfl ?_
                              refine r_goto (tgt := 127) C dX4_changed_152 (by decide) ?_
                              refine r_w (w' := WM cy ba ra (chT f (chO f hf w d0 3) w (k + 1)) hq kn th sm ++ (Y ++ [(b_2, .inl (cy 2, 4, .inl (gcF f (chO f hf w d0 3) w 4)))])) (by rw [chT_yes (by assumption)]) ?_
                              exact (Nat.not_lt_zero _ (by omega)).elim
                    | succ d ih_L127 =>
                      intro k hk
                      refine r_iload C dX4_changed_127 rfl ?_
                      refine r_iconst (v := (nI 4)) C dX4_changed_129 (by decide) ?_
                      refine r_icN_ge (a := k) (b := 4) (tgt := 155) C (by first | omega | (simp [up2, *]; done) | (simp [up2, *]; omega) | (simp only [up2_eq]; omega) | (split <;> omega)) (by first | omega | (simp [up2, *]; done) | (simp [up2, *]; omega) | (simp only [up2_eq]; omega) | (split <;> omega)) dX4_changed_130 (by decide) (fun h130_14 => ?_) (fun h130_14 => ?_)
                      · first
                        | exfalso; first | omega | contradiction
                        | skip
                          have e9 : k = 4 := by omega
                          subst e9
                          refine r_pre ?_
                          exact r_vret C hr dX4_changed_155 ⟨rfl, rfl⟩ (Nat.le_of_ble_eq_true rfl) (Nat.le_of_ble_eq_true rfl)
                      · first
                        | exfalso; first | omega | contradiction
                        | skip
                          refine r_aload C dX4_changed_133 rfl ?_
                          refine r_iload C dX4_changed_135 rfl ?_
                          refine x_zld C (i := k) (f := gcF f (chO f hf w d0 3) w 4) 0 rfl (by first | omega | (simp [up2, *]; done) | (simp [up2, *]; omega) | (simp only [up2_eq]; omega) | (split <;> omega)) (by first | omega | (simp [up2, *]; done) | (simp [up2, *]; omega) | (simp only [up2_eq]; omega) | (split <;> omega)) dX4_changed_137 ?_
                          refine r_eqi (show (gcF f (chO f hf w d0 3) w 4) k = (nI (goF f (chO f hf w d0 3) w k)) from gcF_at (by omega)) ?_
                          refine r_ifN_eq (a := (goF f (chO f hf w d0 3) w k)) (tgt := 149) C (Nat.lt_of_le_of_lt (goF_le _ _ _ _) (by decide)) dX4_changed_138 (by decide) (fun h138_15 => ?_) (fun h138_15 => ?_)
                          · first
                            | exfalso; first | omega | contradiction
                            | skip
                              refine r_iincN C dX4_changed_149 rfl (by decide) rfl ?_
                              refine r_goto (tgt := 127) C dX4_changed_152 (by decide) ?_
                              refine r_w (w' := WM cy ba ra (chT f (chO f hf w d0 3) w (k + 1)) hq kn th sm ++ (Y ++ [(b_2, .inl (cy 2, 4, .inl (gcF f (chO f hf w d0 3) w 4)))])) (by rw [chT_no (by assumption)]) ?_
                              exact ih_L127 (k + 1) (by first | omega | (simp [up2, *]; done) | (simp [up2, *]; omega) | (simp only [up2_eq]; omega) | (split <;> omega))
                          · first
                            | exfalso; first | omega | contradiction
                            | skip
                              refine r_aload_n C dX4_changed_141 rfl ?_
                              refine m_get (v := .ref (ba 1)) C 1 (by decide) qf_X4_18 rfl rfl dX4_changed_142 ?_
                              refine r_iload C dX4_changed_145 rfl ?_
                              refine r_iconst (v := (nI 0)) C dX4_changed_147 (by decide) ?_
                              refine m_zst (i := k) (z := 4 + k) (v := 0) C 0 (by decide) (by decide) (show k < 4 from (by first | omega | (simp [up2, *]; done) | (simp [up2, *]; omega) | (simp only [up2_eq]; omega) | (split <;> omega))) (show 4 + k = 4 + k from (by omega)) (by first | omega | (simp [up2, *]; done) | (simp [up2, *]; omega) | (simp only [up2_eq]; omega) | (split <;> omega)) dX4_changed_148 ?_
                              refine r_w (w' := WM cy ba ra (up2 (chT f (chO f hf w d0 3) w k) 5 (4 + k) 0) hq kn th sm ++ (Y ++ [(b_2, .inl (cy 2, 4, .inl (gcF f (chO f hf w d0 3) w 4)))])) rfl ?_
                              refine r_iincN C dX4_changed_149 rfl (by decide) rfl ?_
                              refine r_goto (tgt := 127) C dX4_changed_152 (by decide) ?_
                              refine r_w (w' := WM cy ba ra (chT f (chO f hf w d0 3) w (k + 1)) hq kn th sm ++ (Y ++ [(b_2, .inl (cy 2, 4, .inl (gcF f (chO f hf w d0 3) w 4)))])) (by rw [chT_yes (by assumption)]) ?_
                              exact ih_L127 (k + 1) (by first | omega | (simp [up2, *]; done) | (simp [up2, *]; omega) | (simp only [up2_eq]; omega) | (split <;> omega))
                  exact L127 4 0 (by first | omega | (simp [up2, *]; done) | (simp [up2, *]; omega) | (simp only [up2_eq]; omega) | (split <;> omega))
              · first
                | exfalso; first | omega | contradiction
                | skip
                  refine r_aload C dX4_changed_74 rfl ?_
                  refine r_iload C dX4_changed_76 rfl ?_
                  refine r_aload_n C dX4_changed_78 rfl ?_
                  refine m_get (v := .ref (ba 1)) C 1 (by decide) qf_X4_18 rfl rfl dX4_changed_79 ?_
                  refine r_iload C dX4_changed_82 rfl ?_
                  refine m_zld (i := k) (z := 4 + k) (v := hf 5 (4 + k)) C 0 (by decide) (by decide) (show k < 4 from (by first | omega | (simp [up2, *]; done) | (simp [up2, *]; omega) | (simp only [up2_eq]; omega) | (split <;> omega))) (show 4 + k = 4 + k from (by omega)) rfl dX4_changed_84 ?_
                  refine r_ifN_eq (a := (hf 5 (4 + k))) (tgt := 116) C (by have := h5M (4 + k) (by omega) (by omega); omega) dX4_changed_85 (by decide) (fun h85_16 => ?_) (fun h85_16 => ?_)
                  · first
                    | exfalso; first | omega | contradiction
                    | skip
                      refine r_iconst (v := (nI 0)) C dX4_changed_116 (by decide) ?_
                      refine x_zst C (i := k) (v := 0) (f := gcF f (chO f hf w d0 3) w k) (E' := [(b_2, .inl (cy 2, 4, .inl (upd (gcF f (chO f hf w d0 3) w k) k (nI 0))))]) 0 rfl (by first | omega | (simp [up2, *]; done) | (simp [up2, *]; omega) | (simp only [up2_eq]; omega) | (split <;> omega)) (by first | omega | (simp [up2, *]; done) | (simp [up2, *]; omega) | (simp only [up2_eq]; omega) | (split <;> omega)) (by first | omega | (simp [up2, *]; done) | (simp [up2, *]; omega) | (simp only [up2_eq]; omega) | (split <;> omega)) rfl dX4_changed_117 ?_
                      refine r_iincN C dX4_changed_118 rfl (by decide) rfl ?_
                      refine r_goto (tgt := 68) C dX4_changed_121 (by decide) ?_
                      refine r_w (w' := WM cy ba ra (chO f hf w d0 3) hq kn th sm ++ (Y ++ [(b_2, .inl (cy 2, 4, .inl (gcF f (chO f hf w d0 3) w (k + 1))))])) (by rw [gcF_up (go0 (hf := chO f hf w d0 3) (show hf 5 (4 + k) = 0 ∨ f 1 (4 + k) ≠ f 1 w ∨ hol f (4 + k) w ≠ 0 by omega))]) ?_
                      exact ih_L68 (k + 1) (by first | omega | (simp [up2, *]; done) | (simp [up2, *]; omega) | (simp only [up2_eq]; omega) | (split <;> omega))
                  · first
                    | exfalso; first | omega | contradiction
                    | skip
                      refine r_aload_n C dX4_changed_88 rfl ?_
                      refine r_iconst (v := (nI 4)) C dX4_changed_89 (by decide) ?_
                      refine r_iload C dX4_changed_90 rfl ?_
                      refine r_iaddN C dX4_changed_92 ?_
                      refine d_V (st := [.int (nI k), .ref b_2]) hX.1.stb C hE (D_rowOf (ba := ba) (ra := ra) (hf := (chO f hf w d0 3)) (hq := hq) (kn := kn) (th := th) (sm := sm) (f := f) (w := (4 + k)) hX hC (MG.same (fun _ => rfl) (fun _ => rfl) hG) (by first | omega | (simp [up2, *]; done) | (simp [up2, *]; omega) | (simp only [up2_eq]; omega) | (split <;> omega)) (by have := h5M (4 + k) (by omega) (by omega); omega)) pk_X4_rowOf qm_X4_48 0 8 rfl rfl wm_0 rfl rfl (Nat.le_of_ble_eq_true rfl) dX4_changed_93 ⟨(Nat.le_of_ble_eq_true rfl), (Nat.le_of_ble_eq_true rfl)⟩ ⟨(Nat.le_of_ble_eq_true rfl), (Nat.le_of_ble_eq_true rfl)⟩ ?_
                      refine r_w (w' := WM cy ba ra (chO f hf w d0 3) hq kn th sm ++ (Y ++ [(b_2, .inl (cy 2, 4, .inl (gcF f (chO f hf w d0 3) w k)))])) rfl ?_
                      refine r_iload_n C dX4_changed_96 rfl ?_
                      refine r_icN_ne (a := (f 1 (4 + k))) (b := (f 1 w)) (tgt := 116) C (by have := hC.al (i := 4 + k) (by omega); omega) (by first | omega | (simp [up2, *]; done) | (simp [up2, *]; omega) | (simp only [up2_eq]; omega) | (split <;> omega)) dX4_changed_97 (by decide) (fun h97_17 => ?_) (fun h97_17 => ?_)
                      · first
                        | exfalso; first | omega | contradiction
                        | skip
                          refine r_iconst (v := (nI 0)) C dX4_changed_116 (by decide) ?_
                          refine x_zst C (i := k) (v := 0) (f := gcF f (chO f hf w d0 3) w k) (E' := [(b_2, .inl (cy 2, 4, .inl (upd (gcF f (chO f hf w d0 3) w k) k (nI 0))))]) 0 rfl (by first | omega | (simp [up2, *]; done) | (simp [up2, *]; omega) | (simp only [up2_eq]; omega) | (split <;> omega)) (by first | omega | (simp [up2, *]; done) | (simp [up2, *]; omega) | (simp only [up2_eq]; omega) | (split <;> omega)) (by first | omega | (simp [up2, *]; done) | (simp [up2, *]; omega) | (simp only [up2_eq]; omega) | (split <;> omega)) rfl dX4_changed_117 ?_
                          refine r_iincN C dX4_changed_118 rfl (by decide) rfl ?_
                          refine r_goto (tgt := 68) C dX4_changed_121 (by decide) ?_
                          refine r_w (w' := WM cy ba ra (chO f hf w d0 3) hq kn th sm ++ (Y ++ [(b_2, .inl (cy 2, 4, .inl (gcF f (chO f hf w d0 3) w (k + 1))))])) (by rw [gcF_up (go0 (hf := chO f hf w d0 3) (show hf 5 (4 + k) = 0 ∨ f 1 (4 + k) ≠ f 1 w ∨ hol f (4 + k) w ≠ 0 by omega))]) ?_
                          exact ih_L68 (k + 1) (by first | omega | (simp [up2, *]; done) | (simp [up2, *]; omega) | (simp only [up2_eq]; omega) | (split <;> omega))
                      · first
                        | exfalso; first | omega | contradiction
                        | skip
                          refine r_aload_n C dX4_changed_100 rfl ?_
                          refine r_iconst (v := (nI 4)) C dX4_changed_101 (by decide) ?_
                          refine r_iload C dX4_changed_102 rfl ?_
                          refine r_iaddN C dX4_changed_104 ?_
                          refine r_iload_n C dX4_changed_105 rfl ?_
                          refine d_V (st := [.int (nI k), .ref b_2]) hX.1.stb C hE (D_isHolder (ba := ba) (ra := ra) (hf := (chO f hf w d0 3)) (hq := hq) (kn := kn) (th := th) (sm := sm) (f := f) (h0 := (4 + k)) (w := w) hX hC (MG.same (fun _ => rfl) (fun _ => rfl) hG) (by first | omega | (simp [up2, *]; done) | (simp [up2, *]; omega) | (simp only [up2_eq]; omega) | (split <;> omega)) (by first | omega | (simp [up2, *]; done) | (simp [up2, *]; omega) | (simp only [up2_eq]; omega) | (split <;> omega)) (by first | omega | (simp [up2, *]; done) | (simp [up2, *]; omega) | (simp only [up2_eq]; omega) | (split <;> omega))) pk_X4_isHolder qm_X4_66 0 8 rfl rfl wm_0 rfl rfl (Nat.le_of_ble_eq_true rfl) dX4_changed_106 ⟨(Nat.le_of_ble_eq_true rfl), (Nat.le_of_ble_eq_true rfl)⟩ ⟨(Nat.le_of_ble_eq_true rfl), (Nat.le_of_ble_eq_true rfl)⟩ ?_
                          refine r_w (w' := WM cy ba ra (chO f hf w d0 3) hq kn th sm ++ (Y ++ [(b_2, .inl (cy 2, 4, .inl (gcF f (chO f hf w d0 3) w k)))])) rfl ?_
                          refine r_ifN_ne (a := (hol f (4 + k) w)) (tgt := 116) C (Nat.lt_of_le_of_lt (hol_le _ _ _) (by decide)) dX4_changed_109 (by decide) (fun h109_18 => ?_) (fun h109_18 => ?_)
                          · first
                            | exfalso; first | omega | contradiction
                            | skip
                              refine r_iconst (v := (nI 0)) C dX4_changed_116 (by decide) ?_
                              refine x_zst C (i := k) (v := 0) (f := gcF f (chO f hf w d0 3) w k) (E' := [(b_2, .inl (cy 2, 4, .inl (upd (gcF f (chO f hf w d0 3) w k) k (nI 0))))]) 0 rfl (by first | omega | (simp [up2, *]; done) | (simp [up2, *]; omega) | (simp only [up2_eq]; omega) | (split <;> omega)) (by first | omega | (simp [up2, *]; done) | (simp [up2, *]; omega) | (simp only [up2_eq]; omega) | (split <;> omega)) (by first | omega | (simp [up2, *]; done) | (simp [up2, *]; omega) | (simp only [up2_eq]; omega) | (split <;> omega)) rfl dX4_changed_117 ?_
                              refine r_iincN C dX4_changed_118 rfl (by decide) rfl ?_
                              refine r_goto (tgt := 68) C dX4_changed_121 (by decide) ?_
                              refine r_w (w' := WM cy ba ra (chO f hf w d0 3) hq kn th sm ++ (Y ++ [(b_2, .inl (cy 2, 4, .inl (gcF f (chO f hf w d0 3) w (k + 1))))])) (by rw [gcF_up (go0 (hf := chO f hf w d0 3) (show hf 5 (4 + k) = 0 ∨ f 1 (4 + k) ≠ f 1 w ∨ hol f (4 + k) w ≠ 0 by omega))]) ?_
                              exact ih_L68 (k + 1) (by first | omega | (simp [up2, *]; done) | (simp [up2, *]; omega) | (simp only [up2_eq]; omega) | (split <;> omega))
                          · first
                            | exfalso; first | omega | contradiction
                            | skip
                              refine r_iconst (v := (nI 1)) C dX4_changed_112 (by decide) ?_
                              refine r_goto (tgt := 117) C dX4_changed_113 (by decide) ?_
                              refine x_zst C (i := k) (v := 1) (f := gcF f (chO f hf w d0 3) w k) (E' := [(b_2, .inl (cy 2, 4, .inl (upd (gcF f (chO f hf w d0 3) w k) k (nI 1))))]) 0 rfl (by first | omega | (simp [up2, *]; done) | (simp [up2, *]; omega) | (simp only [up2_eq]; omega) | (split <;> omega)) (by first | omega | (simp [up2, *]; done) | (simp [up2, *]; omega) | (simp only [up2_eq]; omega) | (split <;> omega)) (by first | omega | (simp [up2, *]; done) | (simp [up2, *]; omega) | (simp only [up2_eq]; omega) | (split <;> omega)) rfl dX4_changed_117 ?_
                              refine r_iincN C dX4_changed_118 rfl (by decide) rfl ?_
                              refine r_goto (tgt := 68) C dX4_changed_121 (by decide) ?_
                              refine r_w (w' := WM cy ba ra (chO f hf w d0 3) hq kn th sm ++ (Y ++ [(b_2, .inl (cy 2, 4, .inl (gcF f (chO f hf w d0 3) w (k + 1))))])) (by rw [gcF_up (go1 (hf := chO f hf w d0 3) (show hf 5 (4 + k) ≠ 0 by assumption) (by assumption) (by omega))]) ?_
                              exact ih_L68 (k + 1) (by first | omega | (simp [up2, *]; done) | (simp [up2, *]; omega) | (simp only [up2_eq]; omega) | (split <;> omega))
          exact L68 4 0 (by first | omega | (simp [up2, *]; done) | (simp [up2, *]; omega) | (simp only [up2_eq]; omega) | (split <;> omega))
      · first
        | exfalso; first | omega | contradiction
        | skip
          refine r_iload C dX4_changed_15 rfl ?_
          refine r_iload_n C dX4_changed_17 rfl ?_
          refine r_icN_eq (a := k) (b := d0) (tgt := 54) C (by first | omega | (simp [up2, *]; done) | (simp [up2, *]; omega) | (simp only [up2_eq]; omega) | (split <;> omega)) (by first | omega | (simp [up2, *]; done) | (simp [up2, *]; omega) | (simp only [up2_eq]; omega) | (split <;> omega)) dX4_changed_18 (by decide) (fun h18_19 => ?_) (fun h18_19 => ?_)
          · first
            | exfalso; first | omega | contradiction
            | skip
              refine r_iincN C dX4_changed_54 rfl (by decide) rfl ?_
              refine r_goto (tgt := 9) C dX4_changed_57 (by decide) ?_
              refine r_w (w' := WM cy ba ra (chO f hf w d0 (k + 1)) hq kn th sm ++ Y) (by rw [chO_no (f := f) (hf := hf) (by omega)]) ?_
              exact (Nat.not_lt_zero _ (by omega)).elim
          · first
            | exfalso; first | omega | contradiction
            | skip
              refine r_aload_n C dX4_changed_21 rfl ?_
              refine m_get (v := .ref (ba 5)) C 5 (by decide) qf_X4_32 rfl rfl dX4_changed_22 ?_
              refine r_iload C dX4_changed_25 rfl ?_
              refine m_zld (i := k) (z := k) (v := hf 9 k) C 4 (by decide) (by decide) (show k < 3 from (by first | omega | (simp [up2, *]; done) | (simp [up2, *]; omega) | (simp only [up2_eq]; omega) | (split <;> omega))) (show 0 + k = k from (by omega)) chO_at dX4_changed_27 ?_
              refine r_ifN_eq (a := (hf 9 k)) (tgt := 54) C (by have := h9a k (by omega); omega) dX4_changed_28 (by decide) (fun h28_20 => ?_) (fun h28_20 => ?_)
              · first
                | exfalso; first | omega | contradiction
                | skip
                  refine r_iincN C dX4_changed_54 rfl (by decide) rfl ?_
                  refine r_goto (tgt := 9) C dX4_changed_57 (by decide) ?_
                  refine r_w (w' := WM cy ba ra (chO f hf w d0 (k + 1)) hq kn th sm ++ Y) (by rw [chO_no (f := f) (hf := hf) (by omega)]) ?_
                  exact (Nat.not_lt_zero _ (by omega)).elim
              · first
                | exfalso; first | omega | contradiction
                | skip
                  refine r_aload_n C dX4_changed_31 rfl ?_
                  refine r_aload_n C dX4_changed_32 rfl ?_
                  refine m_get (v := .ref (ba 6)) C 6 (by decide) qf_X4_35 rfl rfl dX4_changed_33 ?_
                  refine r_iload C dX4_changed_36 rfl ?_
                  refine m_ald (i := k) (z := k) (v := hf 6 k) C 5 (by decide) (by decide) (show k < 3 from (by first | omega | (simp [up2, *]; done) | (simp [up2, *]; omega) | (simp only [up2_eq]; omega) | (split <;> omega))) (show 0 + k = k from (by omega)) rfl dX4_changed_38 ?_
                  refine d_V (st := []) hX.1.stb C hE (D_rowOf (ba := ba) (ra := ra) (hf := (chO f hf w d0 k)) (hq := hq) (kn := kn) (th := th) (sm := sm) (Y := Y) (f := f) (w := (hf 6 k)) hX hC (MG.same (fun _ => rfl) (fun _ => rfl) hG) (hU k (by omega) (by assumption)).1 (hU k (by omega) (by assumption)).2) pk_X4_rowOf qm_X4_48 0 8 rfl rfl wm_0 rfl rfl (Nat.le_of_ble_eq_true rfl) dX4_changed_39 ⟨(Nat.le_of_ble_eq_true rfl), (Nat.le_of_ble_eq_true rfl)⟩ ⟨(Nat.le_of_ble_eq_true rfl), (Nat.le_of_ble_eq_true rfl)⟩ ?_
                  refine r_w (w' := WM cy ba ra (chO f hf w d0 k) hq kn th sm ++ Y) rfl ?_
                  refine r_iload_n C dX4_changed_42 rfl ?_
                  refine r_icN_ne (a := (f 1 (hf 6 k))) (b := (f 1 w)) (tgt := 54) C (by have := hC.al (hU k (by omega) (by assumption)).1; omega) (by first | omega | (simp [up2, *]; done) | (simp [up2, *]; omega) | (simp only [up2_eq]; omega) | (split <;> omega)) dX4_changed_43 (by decide) (fun h43_21 => ?_) (fun h43_21 => ?_)
                  · first
                    | exfalso; first | omega | contradiction
                    | skip
                      refine r_iincN C dX4_changed_54 rfl (by decide) rfl ?_
                      refine r_goto (tgt := 9) C dX4_changed_57 (by decide) ?_
                      refine r_w (w' := WM cy ba ra (chO f hf w d0 (k + 1)) hq kn th sm ++ Y) (by rw [chO_no (f := f) (hf := hf) (by omega)]) ?_
                      exact (Nat.not_lt_zero _ (by omega)).elim
                  · first
                    | exfalso; first | omega | contradiction
                    | skip
                      refine r_aload_n C dX4_changed_46 rfl ?_
                      refine m_get (v := .ref (ba 5)) C 5 (by decide) qf_X4_32 rfl rfl dX4_changed_47 ?_
                      refine r_iload C dX4_changed_50 rfl ?_
                      refine r_iconst (v := (nI 0)) C dX4_changed_52 (by decide) ?_
                      refine m_zst (i := k) (z := k) (v := 0) C 4 (by decide) (by decide) (show k < 3 from (by first | omega | (simp [up2, *]; done) | (simp [up2, *]; omega) | (simp only [up2_eq]; omega) | (split <;> omega))) (show 0 + k = k from (by omega)) (by first | omega | (simp [up2, *]; done) | (simp [up2, *]; omega) | (simp only [up2_eq]; omega) | (split <;> omega)) dX4_changed_53 ?_
                      refine r_w (w' := WM cy ba ra (up2 (chO f hf w d0 k) 9 k 0) hq kn th sm ++ Y) rfl ?_
                      refine r_iincN C dX4_changed_54 rfl (by decide) rfl ?_
                      refine r_goto (tgt := 9) C dX4_changed_57 (by decide) ?_
                      refine r_w (w' := WM cy ba ra (chO f hf w d0 (k + 1)) hq kn th sm ++ Y) (by rw [chO_yes (by omega) (by assumption) (by assumption)]) ?_
                      exact (Nat.not_lt_zero _ (by omega)).elim
    | succ d ih_L9 =>
      intro k hk
      refine r_iload C dX4_changed_9 rfl ?_
      refine r_iconst (v := (nI 3)) C dX4_changed_11 (by decide) ?_
      refine r_icN_ge (a := k) (b := 3) (tgt := 60) C (by first | omega | (simp [up2, *]; done) | (simp [up2, *]; omega) | (simp only [up2_eq]; omega) | (split <;> omega)) (by first | omega | (simp [up2, *]; done) | (simp [up2, *]; omega) | (simp only [up2_eq]; omega) | (split <;> omega)) dX4_changed_12 (by decide) (fun h12_22 => ?_) (fun h12_22 => ?_)
      · first
        | exfalso; first | omega | contradiction
        | skip
          have e9 : k = 3 := by omega
          subst e9
          refine r_iconst (v := (nI 4)) C dX4_changed_60 (by decide) ?_
          refine r_newT C .boolean .boolean 2 rfl (by simp) qa_boolean (n := 4) (show 4 < 1000000 from Nat.lt_of_le_of_lt (show 4 ≤ 4 from by first | omega | (simp [up2, *]; done) | (simp [up2, *]; omega) | (simp only [up2_eq]; omega) | (split <;> omega)) (by decide)) (1) (4) (Nat.le_of_ble_eq_true rfl) (Nat.add_le_add (Nat.le_refl _) (show 4 ≤ 4 from by first | omega | (simp [up2, *]; done) | (simp [up2, *]; omega) | (simp only [up2_eq]; omega) | (split <;> omega))) (Nat.le_of_ble_eq_true rfl) (Nat.le_of_ble_eq_true rfl) dX4_changed_61 (fun b_23 => ?_)
          refine r_w (w' := WM cy ba ra (chO f hf w d0 3) hq kn th sm ++ (Y ++ [(b_23, .inl (cy 2, 4, .inl (fun _ => 0)))])) (by simp only [List.append_assoc, List.cons_append, List.nil_append]) ?_
          refine r_astore C dX4_changed_63 (by decide) rfl ?_
          refine r_iconst (v := (nI 0)) C dX4_changed_65 (by decide) ?_
          refine r_istore C dX4_changed_66 (by decide) rfl ?_
          refine r_w (w' := WM cy ba ra (chO f hf w d0 3) hq kn th sm ++ (Y ++ [(b_23, .inl (cy 2, 4, .inl (gcF f (chO f hf w d0 3) w 0)))])) (by rw [gcF_0]) ?_
          have L68 : ∀ (d : Nat) (k : Nat), (hk : k + d = 4) → vC p l e (rmk 5 1 4 170) s m args below meth c D A (vx_MQ below (vG (fun v1 w1 => v1 = none ∧ w1 = WM cy ba ra (chM f hf w d0) hq kn th sm ++ Y) D vwCl A) (vGX (fun _ => False) D vwCl (WM cy ba ra hf hq kn th sm ++ Y) A) args s (rmk 5 1 4 170).cells (rmk 5 1 4 170).slots A) 6 1 4 (WM cy ba ra (chO f hf w d0 3) hq kn th sm ++ (Y ++ [(b_23, .inl (cy 2, 4, .inl (gcF f (chO f hf w d0 3) w k)))])) [some (.ref (ba 9)), some (.int (nI w)), some (.int (nI d0)), some (.int (nI (f 1 w))), some (.ref b_23), some (.int (nI k))] 68 [] := by
            intro d
            induction d with
            | zero =>
              intro k hk
              refine r_iload C dX4_changed_68 rfl ?_
              refine r_iconst (v := (nI 4)) C dX4_changed_70 (by decide) ?_
              refine r_icN_ge (a := k) (b := 4) (tgt := 124) C (by first | omega | (simp [up2, *]; done) | (simp [up2, *]; omega) | (simp only [up2_eq]; omega) | (split <;> omega)) (by first | omega | (simp [up2, *]; done) | (simp [up2, *]; omega) | (simp only [up2_eq]; omega) | (split <;> omega)) dX4_changed_71 (by decide) (fun h71_24 => ?_) (fun h71_24 => ?_)
              · first
                | exfalso; first | omega | contradiction
                | skip
                  have e9 : k = 4 := by omega
                  subst e9
                  refine r_iconst (v := (nI 0)) C dX4_changed_124 (by decide) ?_
                  refine r_istore C dX4_changed_125 (by decide) rfl ?_
                  refine r_w (w' := WM cy ba ra (chT f (chO f hf w d0 3) w 0) hq kn th sm ++ (Y ++ [(b_23, .inl (cy 2, 4, .inl (gcF f (chO f hf w d0 3) w 4)))])) (by rw [chT_0]) ?_
                  have L127 : ∀ (d : Nat) (k : Nat), (hk : k + d = 4) → vC p l e (rmk 5 1 4 170) s m args below meth c D A (vx_MQ below (vG (fun v1 w1 => v1 = none ∧ w1 = WM cy ba ra (chM f hf w d0) hq kn th sm ++ Y) D vwCl A) (vGX (fun _ => False) D vwCl (WM cy ba ra hf hq kn th sm ++ Y) A) args s (rmk 5 1 4 170).cells (rmk 5 1 4 170).slots A) 6 1 4 (WM cy ba ra (chT f (chO f hf w d0 3) w k) hq kn th sm ++ (Y ++ [(b_23, .inl (cy 2, 4, .inl (gcF f (chO f hf w d0 3) w 4)))])) [some (.ref (ba 9)), some (.int (nI w)), some (.int (nI d0)), some (.int (nI (f 1 w))), some (.ref b_23), some (.int (nI k))] 127 [] := by
                    intro d
                    induction d with
                    | zero =>
                      intro k hk
                      refine r_iload C dX4_changed_127 rfl ?_
                      refine r_iconst (v := (nI 4)) C dX4_changed_129 (by decide) ?_
                      refine r_icN_ge (a := k) (b := 4) (tgt := 155) C (by first | omega | (simp [up2, *]; done) | (simp [up2, *]; omega) | (simp only [up2_eq]; omega) | (split <;> omega)) (by first | omega | (simp [up2, *]; done) | (simp [up2, *]; omega) | (simp only [up2_eq]; omega) | (split <;> omega)) dX4_changed_130 (by decide) (fun h130_25 => ?_) (fun h130_25 => ?_)
                      · first
                        | exfalso; first | omega | contradiction
                        | skip
                          have e9 : k = 4 := by omega
                          subst e9
                          refine r_pre ?_
                          exact r_vret C hr dX4_changed_155 ⟨rfl, rfl⟩ (Nat.le_of_ble_eq_true rfl) (Nat.le_of_ble_eq_true rfl)
                      · first
                        | exfalso; first | omega | contradiction
                        | skip
                          refine r_aload C dX4_changed_133 rfl ?_
                          refine r_iload C dX4_changed_135 rfl ?_
                          refine x_zld C (i := k) (f := gcF f (chO f hf w d0 3) w 4) 0 rfl (by first | omega | (simp [up2, *]; done) | (simp [up2, *]; omega) | (simp only [up2_eq]; omega) | (split <;> omega)) (by first | omega | (simp [up2, *]; done) | (simp [up2, *]; omega) | (simp only [up2_eq]; omega) | (split <;> omega)) dX4_changed_137 ?_
                          refine r_eqi (show (gcF f (chO f hf w d0 3) w 4) k = (nI (goF f (chO f hf w d0 3) w k)) from gcF_at (by omega)) ?_
                          refine r_ifN_eq (a := (goF f (chO f hf w d0 3) w k)) (tgt := 149) C (Nat.lt_of_le_of_lt (goF_le _ _ _ _) (by decide)) dX4_changed_138 (by decide) (fun h138_26 => ?_) (fun h138_26 => ?_)
                          · first
                            | exfalso; first | omega | contradiction
                            | skip
                              refine r_iincN C dX4_changed_149 rfl (by decide) rfl ?_
                              refine r_goto (tgt := 127) C dX4_changed_152 (by decide) ?_
                              refine r_w (w' := WM cy ba ra (chT f (chO f hf w d0 3) w (k + 1)) hq kn th sm ++ (Y ++ [(b_23, .inl (cy 2, 4, .inl (gcF f (chO f hf w d0 3) w 4)))])) (by rw [chT_no (by assumption)]) ?_
                              exact (Nat.not_lt_zero _ (by omega)).elim
                          · first
                            | exfalso; first | omega | contradiction
                            | skip
                              refine r_aload_n C dX4_changed_141 rfl ?_
                              refine m_get (v := .ref (ba 1)) C 1 (by decide) qf_X4_18 rfl rfl dX4_changed_142 ?_
                              refine r_iload C dX4_changed_145 rfl ?_
                              refine r_iconst (v := (nI 0)) C dX4_changed_147 (by decide) ?_
                              refine m_zst (i := k) (z := 4 + k) (v := 0) C 0 (by decide) (by decide) (show k < 4 from (by first | omega | (simp [up2, *]; done) | (simp [up2, *]; omega) | (simp only [up2_eq]; omega) | (split <;> omega))) (show 4 + k = 4 + k from (by omega)) (by first | omega | (simp [up2, *]; done) | (simp [up2, *]; omega) | (simp only [up2_eq]; omega) | (split <;> omega)) dX4_changed_148 ?_
                              refine r_w (w' := WM cy ba ra (up2 (chT f (chO f hf w d0 3) w k) 5 (4 + k) 0) hq kn th sm ++ (Y ++ [(b_23, .inl (cy 2, 4, .inl (gcF f (chO f hf w d0 3) w 4)))])) rfl ?_
                              refine r_iincN C dX4_changed_149 rfl (by decide) rfl ?_
                              refine r_goto (tgt := 127) C dX4_changed_152 (by decide) ?_
                              refine r_w (w' := WM cy ba ra (chT f (chO f hf w d0 3) w (k + 1)) hq kn th sm ++ (Y ++ [(b_23, .inl (cy 2, 4, .inl (gcF f (chO f hf w d0 3) w 4)))])) (by rw [chT_yes (by assumption)]) ?_
                              exact (Nat.not_lt_zero _ (by omega)).elim
                    | succ d ih_L127 =>
                      intro k hk
                      refine r_iload C dX4_changed_127 rfl ?_
                      refine r_iconst (v := (nI 4)) C dX4_changed_129 (by decide) ?_
                      refine r_icN_ge (a := k) (b := 4) (tgt := 155) C (by first | omega | (simp [up2, *]; done) | (simp [up2, *]; omega) | (simp only [up2_eq]; omega) | (split <;> omega)) (by first | omega | (simp [up2, *]; done) | (simp [up2, *]; omega) | (simp only [up2_eq]; omega) | (split <;> omega)) dX4_changed_130 (by decide) (fun h130_27 => ?_) (fun h130_27 => ?_)
                      · first
                        | exfalso; first | omega | contradiction
                        | skip
                          have e9 : k = 4 := by omega
                          subst e9
                          refine r_pre ?_
                          exact r_vret C hr dX4_changed_155 ⟨rfl, rfl⟩ (Nat.le_of_ble_eq_true rfl) (Nat.le_of_ble_eq_true rfl)
                      · first
                        | exfalso; first | omega | contradiction
                        | skip
                          refine r_aload C dX4_changed_133 rfl ?_
                          refine r_iload C dX4_changed_135 rfl ?_
                          refine x_zld C (i := k) (f := gcF f (chO f hf w d0 3) w 4) 0 rfl (by first | omega | (simp [up2, *]; done) | (simp [up2, *]; omega) | (simp only [up2_eq]; omega) | (split <;> omega)) (by first | omega | (simp [up2, *]; done) | (simp [up2, *]; omega) | (simp only [up2_eq]; omega) | (split <;> omega)) dX4_changed_137 ?_
                          refine r_eqi (show (gcF f (chO f hf w d0 3) w 4) k = (nI (goF f (chO f hf w d0 3) w k)) from gcF_at (by omega)) ?_
                          refine r_ifN_eq (a := (goF f (chO f hf w d0 3) w k)) (tgt := 149) C (Nat.lt_of_le_of_lt (goF_le _ _ _ _) (by decide)) dX4_changed_138 (by decide) (fun h138_28 => ?_) (fun h138_28 => ?_)
                          · first
                            | exfalso; first | omega | contradiction
                            | skip
                              refine r_iincN C dX4_changed_149 rfl (by decide) rfl ?_
                              refine r_goto (tgt := 127) C dX4_changed_152 (by decide) ?_
                              refine r_w (w' := WM cy ba ra (chT f (chO f hf w d0 3) w (k + 1)) hq kn th sm ++ (Y ++ [(b_23, .inl (cy 2, 4, .inl (gcF f (chO f hf w d0 3) w 4)))])) (by rw [chT_no (by assumption)]) ?_
                              exact ih_L127 (k + 1) (by first | omega | (simp [up2, *]; done) | (simp [up2, *]; omega) | (simp only [up2_eq]; omega) | (split <;> omega))
                          · first
                            | exfalso; first | omega | contradiction
                            | skip
                              refine r_aload_n C dX4_changed_141 rfl ?_
                              refine m_get (v := .ref (ba 1)) C 1 (by decide) qf_X4_18 rfl rfl dX4_changed_142 ?_
                              refine r_iload C dX4_changed_145 rfl ?_
                              refine r_iconst (v := (nI 0)) C dX4_changed_147 (by decide) ?_
                              refine m_zst (i := k) (z := 4 + k) (v := 0) C 0 (by decide) (by decide) (show k < 4 from (by first | omega | (simp [up2, *]; done) | (simp [up2, *]; omega) | (simp only [up2_eq]; omega) | (split <;> omega))) (show 4 + k = 4 + k from (by omega)) (by first | omega | (simp [up2, *]; done) | (simp [up2, *]; omega) | (simp only [up2_eq]; omega) | (split <;> omega)) dX4_changed_148 ?_
                              refine r_w (w' := WM cy ba ra (up2 (chT f (chO f hf w d0 3) w k) 5 (4 + k) 0) hq kn th sm ++ (Y ++ [(b_23, .inl (cy 2, 4, .inl (gcF f (chO f hf w d0 3) w 4)))])) rfl ?_
                              refine r_iincN C dX4_changed_149 rfl (by decide) rfl ?_
                              refine r_goto (tgt := 127) C dX4_changed_152 (by decide) ?_
                              refine r_w (w' := WM cy ba ra (chT f (chO f hf w d0 3) w (k + 1)) hq kn th sm ++ (Y ++ [(b_23, .inl (cy 2, 4, .inl (gcF f (chO f hf w d0 3) w 4)))])) (by rw [chT_yes (by assumption)]) ?_
                              exact ih_L127 (k + 1) (by first | omega | (simp [up2, *]; done) | (simp [up2, *]; omega) | (simp only [up2_eq]; omega) | (split <;> omega))
                  exact L127 4 0 (by first | omega | (simp [up2, *]; done) | (simp [up2, *]; omega) | (simp only [up2_eq]; omega) | (split <;> omega))
              · first
                | exfalso; first | omega | contradiction
                | skip
                  refine r_aload C dX4_changed_74 rfl ?_
                  refine r_iload C dX4_changed_76 rfl ?_
                  refine r_aload_n C dX4_changed_78 rfl ?_
                  refine m_get (v := .ref (ba 1)) C 1 (by decide) qf_X4_18 rfl rfl dX4_changed_79 ?_
                  refine r_iload C dX4_changed_82 rfl ?_
                  refine m_zld (i := k) (z := 4 + k) (v := hf 5 (4 + k)) C 0 (by decide) (by decide) (show k < 4 from (by first | omega | (simp [up2, *]; done) | (simp [up2, *]; omega) | (simp only [up2_eq]; omega) | (split <;> omega))) (show 4 + k = 4 + k from (by omega)) rfl dX4_changed_84 ?_
                  refine r_ifN_eq (a := (hf 5 (4 + k))) (tgt := 116) C (by have := h5M (4 + k) (by omega) (by omega); omega) dX4_changed_85 (by decide) (fun h85_29 => ?_) (fun h85_29 => ?_)
                  · first
                    | exfalso; first | omega | contradiction
                    | skip
                      refine r_iconst (v := (nI 0)) C dX4_changed_116 (by decide) ?_
                      refine x_zst C (i := k) (v := 0) (f := gcF f (chO f hf w d0 3) w k) (E' := [(b_23, .inl (cy 2, 4, .inl (upd (gcF f (chO f hf w d0 3) w k) k (nI 0))))]) 0 rfl (by first | omega | (simp [up2, *]; done) | (simp [up2, *]; omega) | (simp only [up2_eq]; omega) | (split <;> omega)) (by first | omega | (simp [up2, *]; done) | (simp [up2, *]; omega) | (simp only [up2_eq]; omega) | (split <;> omega)) (by first | omega | (simp [up2, *]; done) | (simp [up2, *]; omega) | (simp only [up2_eq]; omega) | (split <;> omega)) rfl dX4_changed_117 ?_
                      refine r_iincN C dX4_changed_118 rfl (by decide) rfl ?_
                      refine r_goto (tgt := 68) C dX4_changed_121 (by decide) ?_
                      refine r_w (w' := WM cy ba ra (chO f hf w d0 3) hq kn th sm ++ (Y ++ [(b_23, .inl (cy 2, 4, .inl (gcF f (chO f hf w d0 3) w (k + 1))))])) (by rw [gcF_up (go0 (hf := chO f hf w d0 3) (show hf 5 (4 + k) = 0 ∨ f 1 (4 + k) ≠ f 1 w ∨ hol f (4 + k) w ≠ 0 by omega))]) ?_
                      exact (Nat.not_lt_zero _ (by omega)).elim
                  · first
                    | exfalso; first | omega | contradiction
                    | skip
                      refine r_aload_n C dX4_changed_88 rfl ?_
                      refine r_iconst (v := (nI 4)) C dX4_changed_89 (by decide) ?_
                      refine r_iload C dX4_changed_90 rfl ?_
                      refine r_iaddN C dX4_changed_92 ?_
                      refine d_V (st := [.int (nI k), .ref b_23]) hX.1.stb C hE (D_rowOf (ba := ba) (ra := ra) (hf := (chO f hf w d0 3)) (hq := hq) (kn := kn) (th := th) (sm := sm) (f := f) (w := (4 + k)) hX hC (MG.same (fun _ => rfl) (fun _ => rfl) hG) (by first | omega | (simp [up2, *]; done) | (simp [up2, *]; omega) | (simp only [up2_eq]; omega) | (split <;> omega)) (by have := h5M (4 + k) (by omega) (by omega); omega)) pk_X4_rowOf qm_X4_48 0 8 rfl rfl wm_0 rfl rfl (Nat.le_of_ble_eq_true rfl) dX4_changed_93 ⟨(Nat.le_of_ble_eq_true rfl), (Nat.le_of_ble_eq_true rfl)⟩ ⟨(Nat.le_of_ble_eq_true rfl), (Nat.le_of_ble_eq_true rfl)⟩ ?_
                      refine r_w (w' := WM cy ba ra (chO f hf w d0 3) hq kn th sm ++ (Y ++ [(b_23, .inl (cy 2, 4, .inl (gcF f (chO f hf w d0 3) w k)))])) rfl ?_
                      refine r_iload_n C dX4_changed_96 rfl ?_
                      refine r_icN_ne (a := (f 1 (4 + k))) (b := (f 1 w)) (tgt := 116) C (by have := hC.al (i := 4 + k) (by omega); omega) (by first | omega | (simp [up2, *]; done) | (simp [up2, *]; omega) | (simp only [up2_eq]; omega) | (split <;> omega)) dX4_changed_97 (by decide) (fun h97_30 => ?_) (fun h97_30 => ?_)
                      · first
                        | exfalso; first | omega | contradiction
                        | skip
                          refine r_iconst (v := (nI 0)) C dX4_changed_116 (by decide) ?_
                          refine x_zst C (i := k) (v := 0) (f := gcF f (chO f hf w d0 3) w k) (E' := [(b_23, .inl (cy 2, 4, .inl (upd (gcF f (chO f hf w d0 3) w k) k (nI 0))))]) 0 rfl (by first | omega | (simp [up2, *]; done) | (simp [up2, *]; omega) | (simp only [up2_eq]; omega) | (split <;> omega)) (by first | omega | (simp [up2, *]; done) | (simp [up2, *]; omega) | (simp only [up2_eq]; omega) | (split <;> omega)) (by first | omega | (simp [up2, *]; done) | (simp [up2, *]; omega) | (simp only [up2_eq]; omega) | (split <;> omega)) rfl dX4_changed_117 ?_
                          refine r_iincN C dX4_changed_118 rfl (by decide) rfl ?_
                          refine r_goto (tgt := 68) C dX4_changed_121 (by decide) ?_
                          refine r_w (w' := WM cy ba ra (chO f hf w d0 3) hq kn th sm ++ (Y ++ [(b_23, .inl (cy 2, 4, .inl (gcF f (chO f hf w d0 3) w (k + 1))))])) (by rw [gcF_up (go0 (hf := chO f hf w d0 3) (show hf 5 (4 + k) = 0 ∨ f 1 (4 + k) ≠ f 1 w ∨ hol f (4 + k) w ≠ 0 by omega))]) ?_
                          exact (Nat.not_lt_zero _ (by omega)).elim
                      · first
                        | exfalso; first | omega | contradiction
                        | skip
                          refine r_aload_n C dX4_changed_100 rfl ?_
                          refine r_iconst (v := (nI 4)) C dX4_changed_101 (by decide) ?_
                          refine r_iload C dX4_changed_102 rfl ?_
                          refine r_iaddN C dX4_changed_104 ?_
                          refine r_iload_n C dX4_changed_105 rfl ?_
                          refine d_V (st := [.int (nI k), .ref b_23]) hX.1.stb C hE (D_isHolder (ba := ba) (ra := ra) (hf := (chO f hf w d0 3)) (hq := hq) (kn := kn) (th := th) (sm := sm) (f := f) (h0 := (4 + k)) (w := w) hX hC (MG.same (fun _ => rfl) (fun _ => rfl) hG) (by first | omega | (simp [up2, *]; done) | (simp [up2, *]; omega) | (simp only [up2_eq]; omega) | (split <;> omega)) (by first | omega | (simp [up2, *]; done) | (simp [up2, *]; omega) | (simp only [up2_eq]; omega) | (split <;> omega)) (by first | omega | (simp [up2, *]; done) | (simp [up2, *]; omega) | (simp only [up2_eq]; omega) | (split <;> omega))) pk_X4_isHolder qm_X4_66 0 8 rfl rfl wm_0 rfl rfl (Nat.le_of_ble_eq_true rfl) dX4_changed_106 ⟨(Nat.le_of_ble_eq_true rfl), (Nat.le_of_ble_eq_true rfl)⟩ ⟨(Nat.le_of_ble_eq_true rfl), (Nat.le_of_ble_eq_true rfl)⟩ ?_
                          refine r_w (w' := WM cy ba ra (chO f hf w d0 3) hq kn th sm ++ (Y ++ [(b_23, .inl (cy 2, 4, .inl (gcF f (chO f hf w d0 3) w k)))])) rfl ?_
                          refine r_ifN_ne (a := (hol f (4 + k) w)) (tgt := 116) C (Nat.lt_of_le_of_lt (hol_le _ _ _) (by decide)) dX4_changed_109 (by decide) (fun h109_31 => ?_) (fun h109_31 => ?_)
                          · first
                            | exfalso; first | omega | contradiction
                            | skip
                              refine r_iconst (v := (nI 0)) C dX4_changed_116 (by decide) ?_
                              refine x_zst C (i := k) (v := 0) (f := gcF f (chO f hf w d0 3) w k) (E' := [(b_23, .inl (cy 2, 4, .inl (upd (gcF f (chO f hf w d0 3) w k) k (nI 0))))]) 0 rfl (by first | omega | (simp [up2, *]; done) | (simp [up2, *]; omega) | (simp only [up2_eq]; omega) | (split <;> omega)) (by first | omega | (simp [up2, *]; done) | (simp [up2, *]; omega) | (simp only [up2_eq]; omega) | (split <;> omega)) (by first | omega | (simp [up2, *]; done) | (simp [up2, *]; omega) | (simp only [up2_eq]; omega) | (split <;> omega)) rfl dX4_changed_117 ?_
                              refine r_iincN C dX4_changed_118 rfl (by decide) rfl ?_
                              refine r_goto (tgt := 68) C dX4_changed_121 (by decide) ?_
                              refine r_w (w' := WM cy ba ra (chO f hf w d0 3) hq kn th sm ++ (Y ++ [(b_23, .inl (cy 2, 4, .inl (gcF f (chO f hf w d0 3) w (k + 1))))])) (by rw [gcF_up (go0 (hf := chO f hf w d0 3) (show hf 5 (4 + k) = 0 ∨ f 1 (4 + k) ≠ f 1 w ∨ hol f (4 + k) w ≠ 0 by omega))]) ?_
                              exact (Nat.not_lt_zero _ (by omega)).elim
                          · first
                            | exfalso; first | omega | contradiction
                            | skip
                              refine r_iconst (v := (nI 1)) C dX4_changed_112 (by decide) ?_
                              refine r_goto (tgt := 117) C dX4_changed_113 (by decide) ?_
                              refine x_zst C (i := k) (v := 1) (f := gcF f (chO f hf w d0 3) w k) (E' := [(b_23, .inl (cy 2, 4, .inl (upd (gcF f (chO f hf w d0 3) w k) k (nI 1))))]) 0 rfl (by first | omega | (simp [up2, *]; done) | (simp [up2, *]; omega) | (simp only [up2_eq]; omega) | (split <;> omega)) (by first | omega | (simp [up2, *]; done) | (simp [up2, *]; omega) | (simp only [up2_eq]; omega) | (split <;> omega)) (by first | omega | (simp [up2, *]; done) | (simp [up2, *]; omega) | (simp only [up2_eq]; omega) | (split <;> omega)) rfl dX4_changed_117 ?_
                              refine r_iincN C dX4_changed_118 rfl (by decide) rfl ?_
                              refine r_goto (tgt := 68) C dX4_changed_121 (by decide) ?_
                              refine r_w (w' := WM cy ba ra (chO f hf w d0 3) hq kn th sm ++ (Y ++ [(b_23, .inl (cy 2, 4, .inl (gcF f (chO f hf w d0 3) w (k + 1))))])) (by rw [gcF_up (go1 (hf := chO f hf w d0 3) (show hf 5 (4 + k) ≠ 0 by assumption) (by assumption) (by omega))]) ?_
                              exact (Nat.not_lt_zero _ (by omega)).elim
            | succ d ih_L68 =>
              intro k hk
              refine r_iload C dX4_changed_68 rfl ?_
              refine r_iconst (v := (nI 4)) C dX4_changed_70 (by decide) ?_
              refine r_icN_ge (a := k) (b := 4) (tgt := 124) C (by first | omega | (simp [up2, *]; done) | (simp [up2, *]; omega) | (simp only [up2_eq]; omega) | (split <;> omega)) (by first | omega | (simp [up2, *]; done) | (simp [up2, *]; omega) | (simp only [up2_eq]; omega) | (split <;> omega)) dX4_changed_71 (by decide) (fun h71_32 => ?_) (fun h71_32 => ?_)
              · first
                | exfalso; first | omega | contradiction
                | skip
                  have e9 : k = 4 := by omega
                  subst e9
                  refine r_iconst (v := (nI 0)) C dX4_changed_124 (by decide) ?_
                  refine r_istore C dX4_changed_125 (by decide) rfl ?_
                  refine r_w (w' := WM cy ba ra (chT f (chO f hf w d0 3) w 0) hq kn th sm ++ (Y ++ [(b_23, .inl (cy 2, 4, .inl (gcF f (chO f hf w d0 3) w 4)))])) (by rw [chT_0]) ?_
                  have L127 : ∀ (d : Nat) (k : Nat), (hk : k + d = 4) → vC p l e (rmk 5 1 4 170) s m args below meth c D A (vx_MQ below (vG (fun v1 w1 => v1 = none ∧ w1 = WM cy ba ra (chM f hf w d0) hq kn th sm ++ Y) D vwCl A) (vGX (fun _ => False) D vwCl (WM cy ba ra hf hq kn th sm ++ Y) A) args s (rmk 5 1 4 170).cells (rmk 5 1 4 170).slots A) 6 1 4 (WM cy ba ra (chT f (chO f hf w d0 3) w k) hq kn th sm ++ (Y ++ [(b_23, .inl (cy 2, 4, .inl (gcF f (chO f hf w d0 3) w 4)))])) [some (.ref (ba 9)), some (.int (nI w)), some (.int (nI d0)), some (.int (nI (f 1 w))), some (.ref b_23), some (.int (nI k))] 127 [] := by
                    intro d
                    induction d with
                    | zero =>
                      intro k hk
                      refine r_iload C dX4_changed_127 rfl ?_
                      refine r_iconst (v := (nI 4)) C dX4_changed_129 (by decide) ?_
                      refine r_icN_ge (a := k) (b := 4) (tgt := 155) C (by first | omega | (simp [up2, *]; done) | (simp [up2, *]; omega) | (simp only [up2_eq]; omega) | (split <;> omega)) (by first | omega | (simp [up2, *]; done) | (simp [up2, *]; omega) | (simp only [up2_eq]; omega) | (split <;> omega)) dX4_changed_130 (by decide) (fun h130_33 => ?_) (fun h130_33 => ?_)
                      · first
                        | exfalso; first | omega | contradiction
                        | skip
                          have e9 : k = 4 := by omega
                          subst e9
                          refine r_pre ?_
                          exact r_vret C hr dX4_changed_155 ⟨rfl, rfl⟩ (Nat.le_of_ble_eq_true rfl) (Nat.le_of_ble_eq_true rfl)
                      · first
                        | exfalso; first | omega | contradiction
                        | skip
                          refine r_aload C dX4_changed_133 rfl ?_
                          refine r_iload C dX4_changed_135 rfl ?_
                          refine x_zld C (i := k) (f := gcF f (chO f hf w d0 3) w 4) 0 rfl (by first | omega | (simp [up2, *]; done) | (simp [up2, *]; omega) | (simp only [up2_eq]; omega) | (split <;> omega)) (by first | omega | (simp [up2, *]; done) | (simp [up2, *]; omega) | (simp only [up2_eq]; omega) | (split <;> omega)) dX4_changed_137 ?_
                          refine r_eqi (show (gcF f (chO f hf w d0 3) w 4) k = (nI (goF f (chO f hf w d0 3) w k)) from gcF_at (by omega)) ?_
                          refine r_ifN_eq (a := (goF f (chO f hf w d0 3) w k)) (tgt := 149) C (Nat.lt_of_le_of_lt (goF_le _ _ _ _) (by decide)) dX4_changed_138 (by decide) (fun h138_34 => ?_) (fun h138_34 => ?_)
                          · first
                            | exfalso; first | omega | contradiction
                            | skip
                              refine r_iincN C dX4_changed_149 rfl (by decide) rfl ?_
                              refine r_goto (tgt := 127) C dX4_changed_152 (by decide) ?_
                              refine r_w (w' := WM cy ba ra (chT f (chO f hf w d0 3) w (k + 1)) hq kn th sm ++ (Y ++ [(b_23, .inl (cy 2, 4, .inl (gcF f (chO f hf w d0 3) w 4)))])) (by rw [chT_no (by assumption)]) ?_
                              exact (Nat.not_lt_zero _ (by omega)).elim
                          · first
                            | exfalso; first | omega | contradiction
                            | skip
                              refine r_aload_n C dX4_changed_141 rfl ?_
                              refine m_get (v := .ref (ba 1)) C 1 (by decide) qf_X4_18 rfl rfl dX4_changed_142 ?_
                              refine r_iload C dX4_changed_145 rfl ?_
                              refine r_iconst (v := (nI 0)) C dX4_changed_147 (by decide) ?_
                              refine m_zst (i := k) (z := 4 + k) (v := 0) C 0 (by decide) (by decide) (show k < 4 from (by first | omega | (simp [up2, *]; done) | (simp [up2, *]; omega) | (simp only [up2_eq]; omega) | (split <;> omega))) (show 4 + k = 4 + k from (by omega)) (by first | omega | (simp [up2, *]; done) | (simp [up2, *]; omega) | (simp only [up2_eq]; omega) | (split <;> omega)) dX4_changed_148 ?_
                              refine r_w (w' := WM cy ba ra (up2 (chT f (chO f hf w d0 3) w k) 5 (4 + k) 0) hq kn th sm ++ (Y ++ [(b_23, .inl (cy 2, 4, .inl (gcF f (chO f hf w d0 3) w 4)))])) rfl ?_
                              refine r_iincN C dX4_changed_149 rfl (by decide) rfl ?_
                              refine r_goto (tgt := 127) C dX4_changed_152 (by decide) ?_
                              refine r_w (w' := WM cy ba ra (chT f (chO f hf w d0 3) w (k + 1)) hq kn th sm ++ (Y ++ [(b_23, .inl (cy 2, 4, .inl (gcF f (chO f hf w d0 3) w 4)))])) (by rw [chT_yes (by assumption)]) ?_
                              exact (Nat.not_lt_zero _ (by omega)).elim
                    | succ d ih_L127 =>
                      intro k hk
                      refine r_iload C dX4_changed_127 rfl ?_
                      refine r_iconst (v := (nI 4)) C dX4_changed_129 (by decide) ?_
                      refine r_icN_ge (a := k) (b := 4) (tgt := 155) C (by first | omega | (simp [up2, *]; done) | (simp [up2, *]; omega) | (simp only [up2_eq]; omega) | (split <;> omega)) (by first | omega | (simp [up2, *]; done) | (simp [up2, *]; omega) | (simp only [up2_eq]; omega) | (split <;> omega)) dX4_changed_130 (by decide) (fun h130_35 => ?_) (fun h130_35 => ?_)
                      · first
                        | exfalso; first | omega | contradiction
                        | skip
                          have e9 : k = 4 := by omega
                          subst e9
                          refine r_pre ?_
                          exact r_vret C hr dX4_changed_155 ⟨rfl, rfl⟩ (Nat.le_of_ble_eq_true rfl) (Nat.le_of_ble_eq_true rfl)
                      · first
                        | exfalso; first | omega | contradiction
                        | skip
                          refine r_aload C dX4_changed_133 rfl ?_
                          refine r_iload C dX4_changed_135 rfl ?_
                          refine x_zld C (i := k) (f := gcF f (chO f hf w d0 3) w 4) 0 rfl (by first | omega | (simp [up2, *]; done) | (simp [up2, *]; omega) | (simp only [up2_eq]; omega) | (split <;> omega)) (by first | omega | (simp [up2, *]; done) | (simp [up2, *]; omega) | (simp only [up2_eq]; omega) | (split <;> omega)) dX4_changed_137 ?_
                          refine r_eqi (show (gcF f (chO f hf w d0 3) w 4) k = (nI (goF f (chO f hf w d0 3) w k)) from gcF_at (by omega)) ?_
                          refine r_ifN_eq (a := (goF f (chO f hf w d0 3) w k)) (tgt := 149) C (Nat.lt_of_le_of_lt (goF_le _ _ _ _) (by decide)) dX4_changed_138 (by decide) (fun h138_36 => ?_) (fun h138_36 => ?_)
                          · first
                            | exfalso; first | omega | contradiction
                            | skip
                              refine r_iincN C dX4_changed_149 rfl (by decide) rfl ?_
                              refine r_goto (tgt := 127) C dX4_changed_152 (by decide) ?_
                              refine r_w (w' := WM cy ba ra (chT f (chO f hf w d0 3) w (k + 1)) hq kn th sm ++ (Y ++ [(b_23, .inl (cy 2, 4, .inl (gcF f (chO f hf w d0 3) w 4)))])) (by rw [chT_no (by assumption)]) ?_
                              exact ih_L127 (k + 1) (by first | omega | (simp [up2, *]; done) | (simp [up2, *]; omega) | (simp only [up2_eq]; omega) | (split <;> omega))
                          · first
                            | exfalso; first | omega | contradiction
                            | skip
                              refine r_aload_n C dX4_changed_141 rfl ?_
                              refine m_get (v := .ref (ba 1)) C 1 (by decide) qf_X4_18 rfl rfl dX4_changed_142 ?_
                              refine r_iload C dX4_changed_145 rfl ?_
                              refine r_iconst (v := (nI 0)) C dX4_changed_147 (by decide) ?_
                              refine m_zst (i := k) (z := 4 + k) (v := 0) C 0 (by decide) (by decide) (show k < 4 from (by first | omega | (simp [up2, *]; done) | (simp [up2, *]; omega) | (simp only [up2_eq]; omega) | (split <;> omega))) (show 4 + k = 4 + k from (by omega)) (by first | omega | (simp [up2, *]; done) | (simp [up2, *]; omega) | (simp only [up2_eq]; omega) | (split <;> omega)) dX4_changed_148 ?_
                              refine r_w (w' := WM cy ba ra (up2 (chT f (chO f hf w d0 3) w k) 5 (4 + k) 0) hq kn th sm ++ (Y ++ [(b_23, .inl (cy 2, 4, .inl (gcF f (chO f hf w d0 3) w 4)))])) rfl ?_
                              refine r_iincN C dX4_changed_149 rfl (by decide) rfl ?_
                              refine r_goto (tgt := 127) C dX4_changed_152 (by decide) ?_
                              refine r_w (w' := WM cy ba ra (chT f (chO f hf w d0 3) w (k + 1)) hq kn th sm ++ (Y ++ [(b_23, .inl (cy 2, 4, .inl (gcF f (chO f hf w d0 3) w 4)))])) (by rw [chT_yes (by assumption)]) ?_
                              exact ih_L127 (k + 1) (by first | omega | (simp [up2, *]; done) | (simp [up2, *]; omega) | (simp only [up2_eq]; omega) | (split <;> omega))
                  exact L127 4 0 (by first | omega | (simp [up2, *]; done) | (simp [up2, *]; omega) | (simp only [up2_eq]; omega) | (split <;> omega))
              · first
                | exfalso; first | omega | contradiction
                | skip
                  refine r_aload C dX4_changed_74 rfl ?_
                  refine r_iload C dX4_changed_76 rfl ?_
                  refine r_aload_n C dX4_changed_78 rfl ?_
                  refine m_get (v := .ref (ba 1)) C 1 (by decide) qf_X4_18 rfl rfl dX4_changed_79 ?_
                  refine r_iload C dX4_changed_82 rfl ?_
                  refine m_zld (i := k) (z := 4 + k) (v := hf 5 (4 + k)) C 0 (by decide) (by decide) (show k < 4 from (by first | omega | (simp [up2, *]; done) | (simp [up2, *]; omega) | (simp only [up2_eq]; omega) | (split <;> omega))) (show 4 + k = 4 + k from (by omega)) rfl dX4_changed_84 ?_
                  refine r_ifN_eq (a := (hf 5 (4 + k))) (tgt := 116) C (by have := h5M (4 + k) (by omega) (by omega); omega) dX4_changed_85 (by decide) (fun h85_37 => ?_) (fun h85_37 => ?_)
                  · first
                    | exfalso; first | omega | contradiction
                    | skip
                      refine r_iconst (v := (nI 0)) C dX4_changed_116 (by decide) ?_
                      refine x_zst C (i := k) (v := 0) (f := gcF f (chO f hf w d0 3) w k) (E' := [(b_23, .inl (cy 2, 4, .inl (upd (gcF f (chO f hf w d0 3) w k) k (nI 0))))]) 0 rfl (by first | omega | (simp [up2, *]; done) | (simp [up2, *]; omega) | (simp only [up2_eq]; omega) | (split <;> omega)) (by first | omega | (simp [up2, *]; done) | (simp [up2, *]; omega) | (simp only [up2_eq]; omega) | (split <;> omega)) (by first | omega | (simp [up2, *]; done) | (simp [up2, *]; omega) | (simp only [up2_eq]; omega) | (split <;> omega)) rfl dX4_changed_117 ?_
                      refine r_iincN C dX4_changed_118 rfl (by decide) rfl ?_
                      refine r_goto (tgt := 68) C dX4_changed_121 (by decide) ?_
                      refine r_w (w' := WM cy ba ra (chO f hf w d0 3) hq kn th sm ++ (Y ++ [(b_23, .inl (cy 2, 4, .inl (gcF f (chO f hf w d0 3) w (k + 1))))])) (by rw [gcF_up (go0 (hf := chO f hf w d0 3) (show hf 5 (4 + k) = 0 ∨ f 1 (4 + k) ≠ f 1 w ∨ hol f (4 + k) w ≠ 0 by omega))]) ?_
                      exact ih_L68 (k + 1) (by first | omega | (simp [up2, *]; done) | (simp [up2, *]; omega) | (simp only [up2_eq]; omega) | (split <;> omega))
                  · first
                    | exfalso; first | omega | contradiction
                    | skip
                      refine r_aload_n C dX4_changed_88 rfl ?_
                      refine r_iconst (v := (nI 4)) C dX4_changed_89 (by decide) ?_
                      refine r_iload C dX4_changed_90 rfl ?_
                      refine r_iaddN C dX4_changed_92 ?_
                      refine d_V (st := [.int (nI k), .ref b_23]) hX.1.stb C hE (D_rowOf (ba := ba) (ra := ra) (hf := (chO f hf w d0 3)) (hq := hq) (kn := kn) (th := th) (sm := sm) (f := f) (w := (4 + k)) hX hC (MG.same (fun _ => rfl) (fun _ => rfl) hG) (by first | omega | (simp [up2, *]; done) | (simp [up2, *]; omega) | (simp only [up2_eq]; omega) | (split <;> omega)) (by have := h5M (4 + k) (by omega) (by omega); omega)) pk_X4_rowOf qm_X4_48 0 8 rfl rfl wm_0 rfl rfl (Nat.le_of_ble_eq_true rfl) dX4_changed_93 ⟨(Nat.le_of_ble_eq_true rfl), (Nat.le_of_ble_eq_true rfl)⟩ ⟨(Nat.le_of_ble_eq_true rfl), (Nat.le_of_ble_eq_true rfl)⟩ ?_
                      refine r_w (w' := WM cy ba ra (chO f hf w d0 3) hq kn th sm ++ (Y ++ [(b_23, .inl (cy 2, 4, .inl (gcF f (chO f hf w d0 3) w k)))])) rfl ?_
                      refine r_iload_n C dX4_changed_96 rfl ?_
                      refine r_icN_ne (a := (f 1 (4 + k))) (b := (f 1 w)) (tgt := 116) C (by have := hC.al (i := 4 + k) (by omega); omega) (by first | omega | (simp [up2, *]; done) | (simp [up2, *]; omega) | (simp only [up2_eq]; omega) | (split <;> omega)) dX4_changed_97 (by decide) (fun h97_38 => ?_) (fun h97_38 => ?_)
                      · first
                        | exfalso; first | omega | contradiction
                        | skip
                          refine r_iconst (v := (nI 0)) C dX4_changed_116 (by decide) ?_
                          refine x_zst C (i := k) (v := 0) (f := gcF f (chO f hf w d0 3) w k) (E' := [(b_23, .inl (cy 2, 4, .inl (upd (gcF f (chO f hf w d0 3) w k) k (nI 0))))]) 0 rfl (by first | omega | (simp [up2, *]; done) | (simp [up2, *]; omega) | (simp only [up2_eq]; omega) | (split <;> omega)) (by first | omega | (simp [up2, *]; done) | (simp [up2, *]; omega) | (simp only [up2_eq]; omega) | (split <;> omega)) (by first | omega | (simp [up2, *]; done) | (simp [up2, *]; omega) | (simp only [up2_eq]; omega) | (split <;> omega)) rfl dX4_changed_117 ?_
                          refine r_iincN C dX4_changed_118 rfl (by decide) rfl ?_
                          refine r_goto (tgt := 68) C dX4_changed_121 (by decide) ?_
                          refine r_w (w' := WM cy ba ra (chO f hf w d0 3) hq kn th sm ++ (Y ++ [(b_23, .inl (cy 2, 4, .inl (gcF f (chO f hf w d0 3) w (k + 1))))])) (by rw [gcF_up (go0 (hf := chO f hf w d0 3) (show hf 5 (4 + k) = 0 ∨ f 1 (4 + k) ≠ f 1 w ∨ hol f (4 + k) w ≠ 0 by omega))]) ?_
                          exact ih_L68 (k + 1) (by first | omega | (simp [up2, *]; done) | (simp [up2, *]; omega) | (simp only [up2_eq]; omega) | (split <;> omega))
                      · first
                        | exfalso; first | omega | contradiction
                        | skip
                          refine r_aload_n C dX4_changed_100 rfl ?_
                          refine r_iconst (v := (nI 4)) C dX4_changed_101 (by decide) ?_
                          refine r_iload C dX4_changed_102 rfl ?_
                          refine r_iaddN C dX4_changed_104 ?_
                          refine r_iload_n C dX4_changed_105 rfl ?_
                          refine d_V (st := [.int (nI k), .ref b_23]) hX.1.stb C hE (D_isHolder (ba := ba) (ra := ra) (hf := (chO f hf w d0 3)) (hq := hq) (kn := kn) (th := th) (sm := sm) (f := f) (h0 := (4 + k)) (w := w) hX hC (MG.same (fun _ => rfl) (fun _ => rfl) hG) (by first | omega | (simp [up2, *]; done) | (simp [up2, *]; omega) | (simp only [up2_eq]; omega) | (split <;> omega)) (by first | omega | (simp [up2, *]; done) | (simp [up2, *]; omega) | (simp only [up2_eq]; omega) | (split <;> omega)) (by first | omega | (simp [up2, *]; done) | (simp [up2, *]; omega) | (simp only [up2_eq]; omega) | (split <;> omega))) pk_X4_isHolder qm_X4_66 0 8 rfl rfl wm_0 rfl rfl (Nat.le_of_ble_eq_true rfl) dX4_changed_106 ⟨(Nat.le_of_ble_eq_true rfl), (Nat.le_of_ble_eq_true rfl)⟩ ⟨(Nat.le_of_ble_eq_true rfl), (Nat.le_of_ble_eq_true rfl)⟩ ?_
                          refine r_w (w' := WM cy ba ra (chO f hf w d0 3) hq kn th sm ++ (Y ++ [(b_23, .inl (cy 2, 4, .inl (gcF f (chO f hf w d0 3) w k)))])) rfl ?_
                          refine r_ifN_ne (a := (hol f (4 + k) w)) (tgt := 116) C (Nat.lt_of_le_of_lt (hol_le _ _ _) (by decide)) dX4_changed_109 (by decide) (fun h109_39 => ?_) (fun h109_39 => ?_)
                          · first
                            | exfalso; first | omega | contradiction
                            | skip
                              refine r_iconst (v := (nI 0)) C dX4_changed_116 (by decide) ?_
                              refine x_zst C (i := k) (v := 0) (f := gcF f (chO f hf w d0 3) w k) (E' := [(b_23, .inl (cy 2, 4, .inl (upd (gcF f (chO f hf w d0 3) w k) k (nI 0))))]) 0 rfl (by first | omega | (simp [up2, *]; done) | (simp [up2, *]; omega) | (simp only [up2_eq]; omega) | (split <;> omega)) (by first | omega | (simp [up2, *]; done) | (simp [up2, *]; omega) | (simp only [up2_eq]; omega) | (split <;> omega)) (by first | omega | (simp [up2, *]; done) | (simp [up2, *]; omega) | (simp only [up2_eq]; omega) | (split <;> omega)) rfl dX4_changed_117 ?_
                              refine r_iincN C dX4_changed_118 rfl (by decide) rfl ?_
                              refine r_goto (tgt := 68) C dX4_changed_121 (by decide) ?_
                              refine r_w (w' := WM cy ba ra (chO f hf w d0 3) hq kn th sm ++ (Y ++ [(b_23, .inl (cy 2, 4, .inl (gcF f (chO f hf w d0 3) w (k + 1))))])) (by rw [gcF_up (go0 (hf := chO f hf w d0 3) (show hf 5 (4 + k) = 0 ∨ f 1 (4 + k) ≠ f 1 w ∨ hol f (4 + k) w ≠ 0 by omega))]) ?_
                              exact ih_L68 (k + 1) (by first | omega | (simp [up2, *]; done) | (simp [up2, *]; omega) | (simp only [up2_eq]; omega) | (split <;> omega))
                          · first
                            | exfalso; first | omega | contradiction
                            | skip
                              refine r_iconst (v := (nI 1)) C dX4_changed_112 (by decide) ?_
                              refine r_goto (tgt := 117) C dX4_changed_113 (by decide) ?_
                              refine x_zst C (i := k) (v := 1) (f := gcF f (chO f hf w d0 3) w k) (E' := [(b_23, .inl (cy 2, 4, .inl (upd (gcF f (chO f hf w d0 3) w k) k (nI 1))))]) 0 rfl (by first | omega | (simp [up2, *]; done) | (simp [up2, *]; omega) | (simp only [up2_eq]; omega) | (split <;> omega)) (by first | omega | (simp [up2, *]; done) | (simp [up2, *]; omega) | (simp only [up2_eq]; omega) | (split <;> omega)) (by first | omega | (simp [up2, *]; done) | (simp [up2, *]; omega) | (simp only [up2_eq]; omega) | (split <;> omega)) rfl dX4_changed_117 ?_
                              refine r_iincN C dX4_changed_118 rfl (by decide) rfl ?_
                              refine r_goto (tgt := 68) C dX4_changed_121 (by decide) ?_
                              refine r_w (w' := WM cy ba ra (chO f hf w d0 3) hq kn th sm ++ (Y ++ [(b_23, .inl (cy 2, 4, .inl (gcF f (chO f hf w d0 3) w (k + 1))))])) (by rw [gcF_up (go1 (hf := chO f hf w d0 3) (show hf 5 (4 + k) ≠ 0 by assumption) (by assumption) (by omega))]) ?_
                              exact ih_L68 (k + 1) (by first | omega | (simp [up2, *]; done) | (simp [up2, *]; omega) | (simp only [up2_eq]; omega) | (split <;> omega))
          exact L68 4 0 (by first | omega | (simp [up2, *]; done) | (simp [up2, *]; omega) | (simp only [up2_eq]; omega) | (split <;> omega))
      · first
        | exfalso; first | omega | contradiction
        | skip
          refine r_iload C dX4_changed_15 rfl ?_
          refine r_iload_n C dX4_changed_17 rfl ?_
          refine r_icN_eq (a := k) (b := d0) (tgt := 54) C (by first | omega | (simp [up2, *]; done) | (simp [up2, *]; omega) | (simp only [up2_eq]; omega) | (split <;> omega)) (by first | omega | (simp [up2, *]; done) | (simp [up2, *]; omega) | (simp only [up2_eq]; omega) | (split <;> omega)) dX4_changed_18 (by decide) (fun h18_40 => ?_) (fun h18_40 => ?_)
          · first
            | exfalso; first | omega | contradiction
            | skip
              refine r_iincN C dX4_changed_54 rfl (by decide) rfl ?_
              refine r_goto (tgt := 9) C dX4_changed_57 (by decide) ?_
              refine r_w (w' := WM cy ba ra (chO f hf w d0 (k + 1)) hq kn th sm ++ Y) (by rw [chO_no (f := f) (hf := hf) (by omega)]) ?_
              exact ih_L9 (k + 1) (by first | omega | (simp [up2, *]; done) | (simp [up2, *]; omega) | (simp only [up2_eq]; omega) | (split <;> omega))
          · first
            | exfalso; first | omega | contradiction
            | skip
              refine r_aload_n C dX4_changed_21 rfl ?_
              refine m_get (v := .ref (ba 5)) C 5 (by decide) qf_X4_32 rfl rfl dX4_changed_22 ?_
              refine r_iload C dX4_changed_25 rfl ?_
              refine m_zld (i := k) (z := k) (v := hf 9 k) C 4 (by decide) (by decide) (show k < 3 from (by first | omega | (simp [up2, *]; done) | (simp [up2, *]; omega) | (simp only [up2_eq]; omega) | (split <;> omega))) (show 0 + k = k from (by omega)) chO_at dX4_changed_27 ?_
              refine r_ifN_eq (a := (hf 9 k)) (tgt := 54) C (by have := h9a k (by omega); omega) dX4_changed_28 (by decide) (fun h28_41 => ?_) (fun h28_41 => ?_)
              · first
                | exfalso; first | omega | contradiction
                | skip
                  refine r_iincN C dX4_changed_54 rfl (by decide) rfl ?_
                  refine r_goto (tgt := 9) C dX4_changed_57 (by decide) ?_
                  refine r_w (w' := WM cy ba ra (chO f hf w d0 (k + 1)) hq kn th sm ++ Y) (by rw [chO_no (f := f) (hf := hf) (by omega)]) ?_
                  exact ih_L9 (k + 1) (by first | omega | (simp [up2, *]; done) | (simp [up2, *]; omega) | (simp only [up2_eq]; omega) | (split <;> omega))
              · first
                | exfalso; first | omega | contradiction
                | skip
                  refine r_aload_n C dX4_changed_31 rfl ?_
                  refine r_aload_n C dX4_changed_32 rfl ?_
                  refine m_get (v := .ref (ba 6)) C 6 (by decide) qf_X4_35 rfl rfl dX4_changed_33 ?_
                  refine r_iload C dX4_changed_36 rfl ?_
                  refine m_ald (i := k) (z := k) (v := hf 6 k) C 5 (by decide) (by decide) (show k < 3 from (by first | omega | (simp [up2, *]; done) | (simp [up2, *]; omega) | (simp only [up2_eq]; omega) | (split <;> omega))) (show 0 + k = k from (by omega)) rfl dX4_changed_38 ?_
                  refine d_V (st := []) hX.1.stb C hE (D_rowOf (ba := ba) (ra := ra) (hf := (chO f hf w d0 k)) (hq := hq) (kn := kn) (th := th) (sm := sm) (Y := Y) (f := f) (w := (hf 6 k)) hX hC (MG.same (fun _ => rfl) (fun _ => rfl) hG) (hU k (by omega) (by assumption)).1 (hU k (by omega) (by assumption)).2) pk_X4_rowOf qm_X4_48 0 8 rfl rfl wm_0 rfl rfl (Nat.le_of_ble_eq_true rfl) dX4_changed_39 ⟨(Nat.le_of_ble_eq_true rfl), (Nat.le_of_ble_eq_true rfl)⟩ ⟨(Nat.le_of_ble_eq_true rfl), (Nat.le_of_ble_eq_true rfl)⟩ ?_
                  refine r_w (w' := WM cy ba ra (chO f hf w d0 k) hq kn th sm ++ Y) rfl ?_
                  refine r_iload_n C dX4_changed_42 rfl ?_
                  refine r_icN_ne (a := (f 1 (hf 6 k))) (b := (f 1 w)) (tgt := 54) C (by have := hC.al (hU k (by omega) (by assumption)).1; omega) (by first | omega | (simp [up2, *]; done) | (simp [up2, *]; omega) | (simp only [up2_eq]; omega) | (split <;> omega)) dX4_changed_43 (by decide) (fun h43_42 => ?_) (fun h43_42 => ?_)
                  · first
                    | exfalso; first | omega | contradiction
                    | skip
                      refine r_iincN C dX4_changed_54 rfl (by decide) rfl ?_
                      refine r_goto (tgt := 9) C dX4_changed_57 (by decide) ?_
                      refine r_w (w' := WM cy ba ra (chO f hf w d0 (k + 1)) hq kn th sm ++ Y) (by rw [chO_no (f := f) (hf := hf) (by omega)]) ?_
                      exact ih_L9 (k + 1) (by first | omega | (simp [up2, *]; done) | (simp [up2, *]; omega) | (simp only [up2_eq]; omega) | (split <;> omega))
                  · first
                    | exfalso; first | omega | contradiction
                    | skip
                      refine r_aload_n C dX4_changed_46 rfl ?_
                      refine m_get (v := .ref (ba 5)) C 5 (by decide) qf_X4_32 rfl rfl dX4_changed_47 ?_
                      refine r_iload C dX4_changed_50 rfl ?_
                      refine r_iconst (v := (nI 0)) C dX4_changed_52 (by decide) ?_
                      refine m_zst (i := k) (z := k) (v := 0) C 4 (by decide) (by decide) (show k < 3 from (by first | omega | (simp [up2, *]; done) | (simp [up2, *]; omega) | (simp only [up2_eq]; omega) | (split <;> omega))) (show 0 + k = k from (by omega)) (by first | omega | (simp [up2, *]; done) | (simp [up2, *]; omega) | (simp only [up2_eq]; omega) | (split <;> omega)) dX4_changed_53 ?_
                      refine r_w (w' := WM cy ba ra (up2 (chO f hf w d0 k) 9 k 0) hq kn th sm ++ Y) rfl ?_
                      refine r_iincN C dX4_changed_54 rfl (by decide) rfl ?_
                      refine r_goto (tgt := 9) C dX4_changed_57 (by decide) ?_
                      refine r_w (w' := WM cy ba ra (chO f hf w d0 (k + 1)) hq kn th sm ++ Y) (by rw [chO_yes (by omega) (by assumption) (by assumption)]) ?_
                      exact ih_L9 (k + 1) (by first | omega | (simp [up2, *]; done) | (simp [up2, *]; omega) | (simp only [up2_eq]; omega) | (split <;> omega))
  exact L9 3 0 (by first | omega | (simp [up2, *]; done) | (simp [up2, *]; omega) | (simp only [up2_eq]; omega) | (split <;> omega))
theorem dX4_lay_0 : decode cX4_lay 0 = .ok (.aload_n 0, 1) := dqo_42 (kb_X4_lay_0 0 rfl)
theorem dX4_lay_1 : decode cX4_lay 1 = .ok (.iload_n 1, 1) := dqo_27 (kb_X4_lay_0 1 rfl)
theorem dX4_lay_2 : decode cX4_lay 2 = .ok (.invokevirtual 48, 3) := dqo_182 0 48 (kb_X4_lay_0 2 rfl) (kb_X4_lay_0 3 rfl) (kb_X4_lay_0 4 rfl)
theorem dX4_lay_5 : decode cX4_lay 5 = .ok (.istore 5, 2) := dqo_54 5 (kb_X4_lay_0 5 rfl) (kb_X4_lay_0 6 rfl)
theorem dX4_lay_7 : decode cX4_lay 7 = .ok (.aload_n 0, 1) := dqo_42 (kb_X4_lay_0 7 rfl)
theorem dX4_lay_8 : decode cX4_lay 8 = .ok (.iload_n 1, 1) := dqo_27 (kb_X4_lay_0 8 rfl)
theorem dX4_lay_9 : decode cX4_lay 9 = .ok (.invokevirtual 52, 3) := dqo_182 0 52 (kb_X4_lay_0 9 rfl) (kb_X4_lay_0 10 rfl) (kb_X4_lay_0 11 rfl)
theorem dX4_lay_12 : decode cX4_lay 12 = .ok (.iload_n 2, 1) := dqo_28 (kb_X4_lay_0 12 rfl)
theorem dX4_lay_13 : decode cX4_lay 13 = .ok (.iadd, 1) := dqo_96 (kb_X4_lay_0 13 rfl)
theorem dX4_lay_14 : decode cX4_lay 14 = .ok (.istore 6, 2) := dqo_54 6 (kb_X4_lay_0 14 rfl) (kb_X4_lay_0 15 rfl)
theorem dX4_lay_16 : decode cX4_lay 16 = .ok (.aload_n 0, 1) := dqo_42 (kb_X4_lay_0 16 rfl)
theorem dX4_lay_17 : decode cX4_lay 17 = .ok (.getfield 15, 3) := dqo_180 0 15 (kb_X4_lay_0 17 rfl) (kb_X4_lay_0 18 rfl) (kb_X4_lay_0 19 rfl)
theorem dX4_lay_20 : decode cX4_lay 20 = .ok (.iload 5, 2) := dqo_21 5 (kb_X4_lay_0 20 rfl) (kb_X4_lay_0 21 rfl)
theorem dX4_lay_22 : decode cX4_lay 22 = .ok (.aaload, 1) := dqo_50 (kb_X4_lay_0 22 rfl)
theorem dX4_lay_23 : decode cX4_lay 23 = .ok (.astore 7, 2) := dqo_58 7 (kb_X4_lay_0 23 rfl) (kb_X4_lay_0 24 rfl)
theorem dX4_lay_25 : decode cX4_lay 25 = .ok (.aload 7, 2) := dqo_25 7 (kb_X4_lay_0 25 rfl) (kb_X4_lay_0 26 rfl)
theorem dX4_lay_27 : decode cX4_lay 27 = .ok (.arraylength, 1) := dqo_190 (kb_X4_lay_0 27 rfl)
theorem dX4_lay_28 : decode cX4_lay 28 = .ok (.iload_n 3, 1) := dqo_29 (kb_X4_lay_0 28 rfl)
theorem dX4_lay_29 : decode cX4_lay 29 = .ok (.isub, 1) := dqo_100 (kb_X4_lay_0 29 rfl)
theorem dX4_lay_30 : decode cX4_lay 30 = .ok (.aload 4, 2) := dqo_25 4 (kb_X4_lay_0 30 rfl) (kb_X4_lay_0 31 rfl)
theorem dX4_lay_32 : decode cX4_lay 32 = .ok (.arraylength, 1) := dqo_190 (kb_X4_lay_0 32 rfl)
theorem dX4_lay_33 : decode cX4_lay 33 = .ok (.iadd, 1) := dqo_96 (kb_X4_lay_0 33 rfl)
theorem dX4_lay_34 : decode cX4_lay 34 = .ok (.newarray .int, 2) := dqo_188_10 (kb_X4_lay_0 34 rfl) (kb_X4_lay_0 35 rfl)
theorem dX4_lay_36 : decode cX4_lay 36 = .ok (.astore 8, 2) := dqo_58 8 (kb_X4_lay_0 36 rfl) (kb_X4_lay_0 37 rfl)
theorem dX4_lay_38 : decode cX4_lay 38 = .ok (.iconst 0, 1) := dqo_3 (kb_X4_lay_0 38 rfl)
theorem dX4_lay_39 : decode cX4_lay 39 = .ok (.istore 9, 2) := dqo_54 9 (kb_X4_lay_0 39 rfl) (kb_X4_lay_0 40 rfl)
theorem dX4_lay_41 : decode cX4_lay 41 = .ok (.iload 9, 2) := dqo_21 9 (kb_X4_lay_0 41 rfl) (kb_X4_lay_0 42 rfl)
theorem dX4_lay_43 : decode cX4_lay 43 = .ok (.aload 8, 2) := dqo_25 8 (kb_X4_lay_0 43 rfl) (kb_X4_lay_0 44 rfl)
theorem dX4_lay_45 : decode cX4_lay 45 = .ok (.arraylength, 1) := dqo_190 (kb_X4_lay_0 45 rfl)
theorem dX4_lay_46 : decode cX4_lay 46 = .ok (.if_icmp .ge 62, 3) := dqo_162 0 62 (by decide) (kb_X4_lay_0 46 rfl) (kb_X4_lay_0 47 rfl) (kb_X4_lay_0 48 rfl)
theorem dX4_lay_49 : decode cX4_lay 49 = .ok (.aload 8, 2) := dqo_25 8 (kb_X4_lay_0 49 rfl) (kb_X4_lay_0 50 rfl)
theorem dX4_lay_51 : decode cX4_lay 51 = .ok (.iload 9, 2) := dqo_21 9 (kb_X4_lay_0 51 rfl) (kb_X4_lay_0 52 rfl)
theorem dX4_lay_53 : decode cX4_lay 53 = .ok (.iload 9, 2) := dqo_21 9 (kb_X4_lay_0 53 rfl) (kb_X4_lay_0 54 rfl)
theorem dX4_lay_55 : decode cX4_lay 55 = .ok (.iload 6, 2) := dqo_21 6 (kb_X4_lay_0 55 rfl) (kb_X4_lay_0 56 rfl)
theorem dX4_lay_57 : decode cX4_lay 57 = .ok (.if_icmp .ge 11, 3) := dqo_162 0 11 (by decide) (kb_X4_lay_0 57 rfl) (kb_X4_lay_0 58 rfl) (kb_X4_lay_0 59 rfl)
theorem dX4_lay_60 : decode cX4_lay 60 = .ok (.aload 7, 2) := dqo_25 7 (kb_X4_lay_0 60 rfl) (kb_X4_lay_0 61 rfl)
theorem dX4_lay_62 : decode cX4_lay 62 = .ok (.iload 9, 2) := dqo_21 9 (kb_X4_lay_0 62 rfl) (kb_X4_lay_0 63 rfl)
theorem dX4_lay_64 : decode cX4_lay 64 = .ok (.iaload, 1) := dqo_46 (kb_X4_lay_1 0 rfl)
theorem dX4_lay_65 : decode cX4_lay 65 = .ok (.goto 36, 3) := dqo_167 0 36 (by decide) (kb_X4_lay_1 1 rfl) (kb_X4_lay_1 2 rfl) (kb_X4_lay_1 3 rfl)
theorem dX4_lay_68 : decode cX4_lay 68 = .ok (.iload 9, 2) := dqo_21 9 (kb_X4_lay_1 4 rfl) (kb_X4_lay_1 5 rfl)
theorem dX4_lay_70 : decode cX4_lay 70 = .ok (.iload 6, 2) := dqo_21 6 (kb_X4_lay_1 6 rfl) (kb_X4_lay_1 7 rfl)
theorem dX4_lay_72 : decode cX4_lay 72 = .ok (.aload 4, 2) := dqo_25 4 (kb_X4_lay_1 8 rfl) (kb_X4_lay_1 9 rfl)
theorem dX4_lay_74 : decode cX4_lay 74 = .ok (.arraylength, 1) := dqo_190 (kb_X4_lay_1 10 rfl)
theorem dX4_lay_75 : decode cX4_lay 75 = .ok (.iadd, 1) := dqo_96 (kb_X4_lay_1 11 rfl)
theorem dX4_lay_76 : decode cX4_lay 76 = .ok (.if_icmp .ge 14, 3) := dqo_162 0 14 (by decide) (kb_X4_lay_1 12 rfl) (kb_X4_lay_1 13 rfl) (kb_X4_lay_1 14 rfl)
theorem dX4_lay_79 : decode cX4_lay 79 = .ok (.aload 4, 2) := dqo_25 4 (kb_X4_lay_1 15 rfl) (kb_X4_lay_1 16 rfl)
theorem dX4_lay_81 : decode cX4_lay 81 = .ok (.iload 9, 2) := dqo_21 9 (kb_X4_lay_1 17 rfl) (kb_X4_lay_1 18 rfl)
theorem dX4_lay_83 : decode cX4_lay 83 = .ok (.iload 6, 2) := dqo_21 6 (kb_X4_lay_1 19 rfl) (kb_X4_lay_1 20 rfl)
theorem dX4_lay_85 : decode cX4_lay 85 = .ok (.isub, 1) := dqo_100 (kb_X4_lay_1 21 rfl)
theorem dX4_lay_86 : decode cX4_lay 86 = .ok (.iaload, 1) := dqo_46 (kb_X4_lay_1 22 rfl)
theorem dX4_lay_87 : decode cX4_lay 87 = .ok (.goto 14, 3) := dqo_167 0 14 (by decide) (kb_X4_lay_1 23 rfl) (kb_X4_lay_1 24 rfl) (kb_X4_lay_1 25 rfl)
theorem dX4_lay_90 : decode cX4_lay 90 = .ok (.aload 7, 2) := dqo_25 7 (kb_X4_lay_1 26 rfl) (kb_X4_lay_1 27 rfl)
theorem dX4_lay_92 : decode cX4_lay 92 = .ok (.iload 9, 2) := dqo_21 9 (kb_X4_lay_1 28 rfl) (kb_X4_lay_1 29 rfl)
theorem dX4_lay_94 : decode cX4_lay 94 = .ok (.aload 4, 2) := dqo_25 4 (kb_X4_lay_1 30 rfl) (kb_X4_lay_1 31 rfl)
theorem dX4_lay_96 : decode cX4_lay 96 = .ok (.arraylength, 1) := dqo_190 (kb_X4_lay_1 32 rfl)
theorem dX4_lay_97 : decode cX4_lay 97 = .ok (.isub, 1) := dqo_100 (kb_X4_lay_1 33 rfl)
theorem dX4_lay_98 : decode cX4_lay 98 = .ok (.iload_n 3, 1) := dqo_29 (kb_X4_lay_1 34 rfl)
theorem dX4_lay_99 : decode cX4_lay 99 = .ok (.iadd, 1) := dqo_96 (kb_X4_lay_1 35 rfl)
theorem dX4_lay_100 : decode cX4_lay 100 = .ok (.iaload, 1) := dqo_46 (kb_X4_lay_1 36 rfl)
theorem dX4_lay_101 : decode cX4_lay 101 = .ok (.iastore, 1) := dqo_79 (kb_X4_lay_1 37 rfl)
theorem dX4_lay_102 : decode cX4_lay 102 = .ok (.iinc 9 1, 3) := dqo_132 9 1 (by decide) (kb_X4_lay_1 38 rfl) (kb_X4_lay_1 39 rfl) (kb_X4_lay_1 40 rfl)
theorem dX4_lay_105 : decode cX4_lay 105 = .ok (.goto (-64), 3) := dqo_167 255 192 (by decide) (kb_X4_lay_1 41 rfl) (kb_X4_lay_1 42 rfl) (kb_X4_lay_1 43 rfl)
theorem dX4_lay_108 : decode cX4_lay 108 = .ok (.aload_n 0, 1) := dqo_42 (kb_X4_lay_1 44 rfl)
theorem dX4_lay_109 : decode cX4_lay 109 = .ok (.getfield 15, 3) := dqo_180 0 15 (kb_X4_lay_1 45 rfl) (kb_X4_lay_1 46 rfl) (kb_X4_lay_1 47 rfl)
theorem dX4_lay_112 : decode cX4_lay 112 = .ok (.iload 5, 2) := dqo_21 5 (kb_X4_lay_1 48 rfl) (kb_X4_lay_1 49 rfl)
theorem dX4_lay_114 : decode cX4_lay 114 = .ok (.aload 8, 2) := dqo_25 8 (kb_X4_lay_1 50 rfl) (kb_X4_lay_1 51 rfl)
theorem dX4_lay_116 : decode cX4_lay 116 = .ok (.aastore, 1) := dqo_83 (kb_X4_lay_1 52 rfl)
theorem dX4_lay_117 : decode cX4_lay 117 = .ok (.iload_n 1, 1) := dqo_27 (kb_X4_lay_1 53 rfl)
theorem dX4_lay_118 : decode cX4_lay 118 = .ok (.istore 9, 2) := dqo_54 9 (kb_X4_lay_1 54 rfl) (kb_X4_lay_1 55 rfl)
theorem dX4_lay_120 : decode cX4_lay 120 = .ok (.iload 9, 2) := dqo_21 9 (kb_X4_lay_1 56 rfl) (kb_X4_lay_1 57 rfl)
theorem dX4_lay_122 : decode cX4_lay 122 = .ok (.iconst 3, 1) := dqo_6 (kb_X4_lay_1 58 rfl)
theorem dX4_lay_123 : decode cX4_lay 123 = .ok (.if_icmp .le 34, 3) := dqo_164 0 34 (by decide) (kb_X4_lay_1 59 rfl) (kb_X4_lay_1 60 rfl) (kb_X4_lay_1 61 rfl)
theorem dX4_lay_126 : decode cX4_lay 126 = .ok (.aload_n 0, 1) := dqo_42 (kb_X4_lay_1 62 rfl)
theorem dX4_lay_127 : decode cX4_lay 127 = .ok (.getfield 29, 3) := dqo_180 0 29 (kb_X4_lay_1 63 rfl) (kb_X4_lay_2 0 rfl) (kb_X4_lay_2 1 rfl)
theorem dX4_lay_130 : decode cX4_lay 130 = .ok (.iload 9, 2) := dqo_21 9 (kb_X4_lay_2 2 rfl) (kb_X4_lay_2 3 rfl)
theorem dX4_lay_132 : decode cX4_lay 132 = .ok (.iconst 4, 1) := dqo_7 (kb_X4_lay_2 4 rfl)
theorem dX4_lay_133 : decode cX4_lay 133 = .ok (.isub, 1) := dqo_100 (kb_X4_lay_2 5 rfl)
theorem dX4_lay_134 : decode cX4_lay 134 = .ok (.dup2, 1) := dqo_92 (kb_X4_lay_2 6 rfl)
theorem dX4_lay_135 : decode cX4_lay 135 = .ok (.iaload, 1) := dqo_46 (kb_X4_lay_2 7 rfl)
theorem dX4_lay_136 : decode cX4_lay 136 = .ok (.aload 4, 2) := dqo_25 4 (kb_X4_lay_2 8 rfl) (kb_X4_lay_2 9 rfl)
theorem dX4_lay_138 : decode cX4_lay 138 = .ok (.arraylength, 1) := dqo_190 (kb_X4_lay_2 10 rfl)
theorem dX4_lay_139 : decode cX4_lay 139 = .ok (.iload_n 3, 1) := dqo_29 (kb_X4_lay_2 11 rfl)
theorem dX4_lay_140 : decode cX4_lay 140 = .ok (.isub, 1) := dqo_100 (kb_X4_lay_2 12 rfl)
theorem dX4_lay_141 : decode cX4_lay 141 = .ok (.iadd, 1) := dqo_96 (kb_X4_lay_2 13 rfl)
theorem dX4_lay_142 : decode cX4_lay 142 = .ok (.iastore, 1) := dqo_79 (kb_X4_lay_2 14 rfl)
theorem dX4_lay_143 : decode cX4_lay 143 = .ok (.aload_n 0, 1) := dqo_42 (kb_X4_lay_2 15 rfl)
theorem dX4_lay_144 : decode cX4_lay 144 = .ok (.getfield 22, 3) := dqo_180 0 22 (kb_X4_lay_2 16 rfl) (kb_X4_lay_2 17 rfl) (kb_X4_lay_2 18 rfl)
theorem dX4_lay_147 : decode cX4_lay 147 = .ok (.iload 9, 2) := dqo_21 9 (kb_X4_lay_2 19 rfl) (kb_X4_lay_2 20 rfl)
theorem dX4_lay_149 : decode cX4_lay 149 = .ok (.iconst 4, 1) := dqo_7 (kb_X4_lay_2 21 rfl)
theorem dX4_lay_150 : decode cX4_lay 150 = .ok (.isub, 1) := dqo_100 (kb_X4_lay_2 22 rfl)
theorem dX4_lay_151 : decode cX4_lay 151 = .ok (.iaload, 1) := dqo_46 (kb_X4_lay_2 23 rfl)
theorem dX4_lay_152 : decode cX4_lay 152 = .ok (.istore 9, 2) := dqo_54 9 (kb_X4_lay_2 24 rfl) (kb_X4_lay_2 25 rfl)
theorem dX4_lay_154 : decode cX4_lay 154 = .ok (.goto (-34), 3) := dqo_167 255 222 (by decide) (kb_X4_lay_2 26 rfl) (kb_X4_lay_2 27 rfl) (kb_X4_lay_2 28 rfl)
theorem dX4_lay_157 : decode cX4_lay 157 = .ok (.return_, 1) := dqo_177 (kb_X4_lay_2 29 rfl)
set_option maxRecDepth 100000 in
set_option maxHeartbeats 4000000 in
theorem D_lay {l : Launch} {D : va_G} {cy : Nat → ClassId} {X : (Nat → Prop) → State → Heap → Prop} {ba ra : Nat → Nat} {hf : Nat → Nat → Nat} {hq : Nat → Nat → Int32} {kn th : Int32} {sm : Int64} {Y : va_W} {f : Nat → Nat → Nat} {w : Nat} {p0 : Nat} {o0 : Nat} {b0 : Nat} {n0 : Nat} {g0 : Nat → Int32} {j0 : Nat} (hX : EnvM X cy) (hC : CInv f) (hG : MG f hf) (hw : w < 8) (h5w : f 5 w = 1) (hat : f 3 w + p0 + o0 ≤ hf 4 (f 1 w)) (h12 : hf 4 (f 1 w) ≤ 12) (hfit : hf 4 (f 1 w) - o0 + n0 ≤ 12) (hsz : ∀ x, x < 8 → hol f x w ≠ 0 → o0 ≤ hf 4 x + n0) (hy : Y[j0]? = some (b0, .inl (cy 1, n0, .inl g0))) : Cm l D cy X yX4_lay cX4_lay 10 none (rmk 5 1 12 190) [.ref (ba 9), .int (nI w), .int (nI p0), .int (nI o0), .ref b0] (WM cy ba ra hf hq kn th sm ++ Y) (fun v1 w1 => ∃ ra9 : Nat → Nat, v1 = none ∧ w1 = WM cy ba ra9 (lyM f (up2 hf 4 (f 1 w) (hf 4 (f 1 w) - o0 + n0)) w n0 o0) (upR hq (f 1 w) (layF (hq (f 1 w)) g0 (f 3 w + p0) n0 o0 (hf 4 (f 1 w) - o0 + n0))) kn th sm ++ Y) (fun _ => False) := by
  have q1 := hC.al hw
  refine Cm.of [some (.ref (ba 9)), some (.int (nI w)), some (.int (nI p0)), some (.int (nI o0)), some (.ref b0), none, none, none, none, none] pn_X4 rfl (Nat.le_of_ble_eq_true rfl) ?_
  intro p e s m args below meth c A C hE hr hnt hn
  refine r_aload_n C dX4_lay_0 rfl ?_
  refine r_iload_n C dX4_lay_1 rfl ?_
  refine d_V (st := []) hX.1.stb C hE (D_rowOf (ba := ba) (ra := ra) (hf := hf) (hq := hq) (kn := kn) (th := th) (sm := sm) (Y := Y) (f := f) (w := w) hX hC (MG.same (fun _ => rfl) (fun _ => rfl) hG) (by first | omega | (simp [up2, *]; done) | (simp [up2, *]; omega) | (simp only [up2_eq]; omega) | (split <;> omega)) (by first | omega | (simp [up2, *]; done) | (simp [up2, *]; omega) | (simp only [up2_eq]; omega) | (split <;> omega))) pk_X4_rowOf qm_X4_48 0 8 rfl rfl wm_0 rfl rfl (Nat.le_of_ble_eq_true rfl) dX4_lay_2 ⟨(Nat.le_of_ble_eq_true rfl), (Nat.le_of_ble_eq_true rfl)⟩ ⟨(Nat.le_of_ble_eq_true rfl), (Nat.le_of_ble_eq_true rfl)⟩ ?_
  refine r_w (w' := WM cy ba ra hf hq kn th sm ++ Y) rfl ?_
  refine r_istore C dX4_lay_5 (by decide) rfl ?_
  refine r_aload_n C dX4_lay_7 rfl ?_
  refine r_iload_n C dX4_lay_8 rfl ?_
  refine d_V (st := []) hX.1.stb C hE (D_begin (ba := ba) (ra := ra) (hf := hf) (hq := hq) (kn := kn) (th := th) (sm := sm) (Y := Y) (f := f) (w := w) hX hC (MG.same (fun _ => rfl) (fun _ => rfl) hG) (by first | omega | (simp [up2, *]; done) | (simp [up2, *]; omega) | (simp only [up2_eq]; omega) | (split <;> omega)) (by first | omega | (simp [up2, *]; done) | (simp [up2, *]; omega) | (simp only [up2_eq]; omega) | (split <;> omega))) pk_X4_begin qm_X4_52 0 8 rfl rfl wm_0 rfl rfl (Nat.le_of_ble_eq_true rfl) dX4_lay_9 ⟨(Nat.le_of_ble_eq_true rfl), (Nat.le_of_ble_eq_true rfl)⟩ ⟨(Nat.le_of_ble_eq_true rfl), (Nat.le_of_ble_eq_true rfl)⟩ ?_
  refine r_w (w' := WM cy ba ra hf hq kn th sm ++ Y) rfl ?_
  refine r_iload_n C dX4_lay_12 rfl ?_
  refine r_iaddN C dX4_lay_13 ?_
  refine r_istore C dX4_lay_14 (by decide) rfl ?_
  refine r_aload_n C dX4_lay_16 rfl ?_
  refine m_get (v := .ref (ba 0)) C 0 (by decide) qf_X4_15 rfl rfl dX4_lay_17 ?_
  refine r_iload C dX4_lay_20 rfl ?_
  refine m_rows (i := f 1 w) C (by first | omega | (simp [up2, *]; done) | (simp [up2, *]; omega) | (simp only [up2_eq]; omega) | (split <;> omega)) dX4_lay_22 ?_
  refine r_astore C dX4_lay_23 (by decide) rfl ?_
  refine r_aload C dX4_lay_25 rfl ?_
  refine m_rlen (i := f 1 w) (v := hf 4 (f 1 w)) C (by first | omega | (simp [up2, *]; done) | (simp [up2, *]; omega) | (simp only [up2_eq]; omega) | (split <;> omega)) rfl dX4_lay_27 ?_
  refine r_iload_n C dX4_lay_28 rfl ?_
  refine r_isubN C dX4_lay_29 (by first | omega | (simp [up2, *]; done) | (simp [up2, *]; omega) | (simp only [up2_eq]; omega) | (split <;> omega)) ?_
  refine r_aload C dX4_lay_30 rfl ?_
  refine y_len C j0 hy dX4_lay_32 ?_
  refine r_iaddN C dX4_lay_33 ?_
  refine r_newT C .int .int 1 rfl (by simp) qa_int (n := ((hf 4 (f 1 w)) - o0) + n0) (show ((hf 4 (f 1 w)) - o0) + n0 < 1000000 from Nat.lt_of_le_of_lt (show ((hf 4 (f 1 w)) - o0) + n0 ≤ 12 from by first | omega | (simp [up2, *]; done) | (simp [up2, *]; omega) | (simp only [up2_eq]; omega) | (split <;> omega)) (by decide)) (1) (12) (Nat.le_of_ble_eq_true rfl) (Nat.add_le_add (Nat.le_refl _) (show ((hf 4 (f 1 w)) - o0) + n0 ≤ 12 from by first | omega | (simp [up2, *]; done) | (simp [up2, *]; omega) | (simp only [up2_eq]; omega) | (split <;> omega))) (Nat.le_of_ble_eq_true rfl) (Nat.le_of_ble_eq_true rfl) dX4_lay_34 (fun b_1 => ?_)
  refine r_w (w' := WM cy ba ra hf hq kn th sm ++ (Y ++ [(b_1, .inl (cy 1, ((hf 4 (f 1 w)) - o0) + n0, .inl (fun _ => 0)))])) (by simp only [List.append_assoc, List.cons_append, List.nil_append]) ?_
  refine r_astore C dX4_lay_36 (by decide) rfl ?_
  refine r_iconst (v := (nI 0)) C dX4_lay_38 (by decide) ?_
  refine r_istore C dX4_lay_39 (by decide) rfl ?_
  refine r_w (w' := WM cy ba ra hf hq kn th sm ++ (Y ++ [(b_1, .inl (cy 1, ((hf 4 (f 1 w)) - o0) + n0, .inl (layF (hq (f 1 w)) g0 (f 3 w + p0) n0 o0 0)))])) (by rw [layF_0]) ?_
  have L41 : ∀ (d : Nat) (k : Nat), (hk : k + d = hf 4 (f 1 w) - o0 + n0) → vC p l e (rmk 5 1 12 190) s m args below meth c D A (vx_MQ below (vG (fun v1 w1 => ∃ ra9 : Nat → Nat, v1 = none ∧ w1 = WM cy ba ra9 (lyM f (up2 hf 4 (f 1 w) (hf 4 (f 1 w) - o0 + n0)) w n0 o0) (upR hq (f 1 w) (layF (hq (f 1 w)) g0 (f 3 w + p0) n0 o0 (hf 4 (f 1 w) - o0 + n0))) kn th sm ++ Y) D vwCl A) (vGX (fun _ => False) D vwCl (WM cy ba ra hf hq kn th sm ++ Y) A) args s (rmk 5 1 12 190).cells (rmk 5 1 12 190).slots A) 10 1 12 (WM cy ba ra hf hq kn th sm ++ (Y ++ [(b_1, .inl (cy 1, hf 4 (f 1 w) - o0 + n0, .inl (layF (hq (f 1 w)) g0 (f 3 w + p0) n0 o0 k)))])) [some (.ref (ba 9)), some (.int (nI w)), some (.int (nI p0)), some (.int (nI o0)), some (.ref b0), some (.int (nI (f 1 w))), some (.int (nI ((f 3 w) + p0))), some (.ref (ra (f 1 w))), some (.ref b_1), some (.int (nI k))] 41 [] := by
    intro d
    induction d with
    | zero =>
      intro k hk
      refine r_iload C dX4_lay_41 rfl ?_
      refine r_aload C dX4_lay_43 rfl ?_
      refine x_len C (t0 := 1) 0 rfl rfl dX4_lay_45 ?_
      refine r_icN_ge (a := k) (b := (hf 4 (f 1 w) - o0 + n0)) (tgt := 108) C (by first | omega | (simp [up2, *]; done) | (simp [up2, *]; omega) | (simp only [up2_eq]; omega) | (split <;> omega)) (by first | omega | (simp [up2, *]; done) | (simp [up2, *]; omega) | (simp only [up2_eq]; omega) | (split <;> omega)) dX4_lay_46 (by decide) (fun h46_2 => ?_) (fun h46_2 => ?_)
      · first
        | exfalso; first | omega | contradiction
        | skip
          have e9 : k = hf 4 (f 1 w) - o0 + n0 := by omega
          subst e9
          refine r_aload_n C dX4_lay_108 rfl ?_
          refine m_get (v := .ref (ba 0)) C 0 (by decide) qf_X4_15 rfl rfl dX4_lay_109 ?_
          refine r_iload C dX4_lay_112 rfl ?_
          refine r_aload C dX4_lay_114 rfl ?_
          refine m_setRow hX C hE (i := f 1 w) (f := layF (hq (f 1 w)) g0 (f 3 w + p0) n0 o0 (hf 4 (f 1 w) - o0 + n0)) 0 rfl (by first | omega | (simp [up2, *]; done) | (simp [up2, *]; omega) | (simp only [up2_eq]; omega) | (split <;> omega)) dX4_lay_116 ?_
          refine r_w (w' := WM cy ba (upR ra (f 1 w) b_1) (up2 hf 4 (f 1 w) (hf 4 (f 1 w) - o0 + n0)) (upR hq (f 1 w) (layF (hq (f 1 w)) g0 (f 3 w + p0) n0 o0 (hf 4 (f 1 w) - o0 + n0))) kn th sm ++ Y) (congrArg _ (List.append_nil Y)) ?_
          refine r_iload_n C dX4_lay_117 rfl ?_
          refine r_istore C dX4_lay_118 (by decide) rfl ?_
          refine r_w (w' := WM cy ba (upR ra (f 1 w) b_1) (lyT f (up2 hf 4 (f 1 w) (hf 4 (f 1 w) - o0 + n0)) w w n0 o0) (upR hq (f 1 w) (layF (hq (f 1 w)) g0 (f 3 w + p0) n0 o0 (hf 4 (f 1 w) - o0 + n0))) kn th sm ++ Y) (by rw [lyT_0]) ?_
          have L120 : ∀ (d : Nat) (x : Nat), (hx8 : x < 8) → (hx5 : f 5 x = 1) → (hxh : hol f x w ≠ 0) → (hch : chN f (d + 1) x) → vC p l e (rmk 5 1 12 190) s m args below meth c D A (vx_MQ below (vG (fun v1 w1 => ∃ ra9 : Nat → Nat, v1 = none ∧ w1 = WM cy ba ra9 (lyM f (up2 hf 4 (f 1 w) (hf 4 (f 1 w) - o0 + n0)) w n0 o0) (upR hq (f 1 w) (layF (hq (f 1 w)) g0 (f 3 w + p0) n0 o0 (hf 4 (f 1 w) - o0 + n0))) kn th sm ++ Y) D vwCl A) (vGX (fun _ => False) D vwCl (WM cy ba ra hf hq kn th sm ++ Y) A) args s (rmk 5 1 12 190).cells (rmk 5 1 12 190).slots A) 10 1 12 (WM cy ba (upR ra (f 1 w) b_1) (lyT f (up2 hf 4 (f 1 w) (hf 4 (f 1 w) - o0 + n0)) w x n0 o0) (upR hq (f 1 w) (layF (hq (f 1 w)) g0 (f 3 w + p0) n0 o0 (hf 4 (f 1 w) - o0 + n0))) kn th sm ++ Y) [some (.ref (ba 9)), some (.int (nI w)), some (.int (nI p0)), some (.int (nI o0)), some (.ref b0), none, none, none, none, some (.int (nI x))] 120 [] := by
            intro d
            induction d with
            | zero =>
              intro x hx8 hx5 hxh hch
              refine r_iload C dX4_lay_120 rfl ?_
              refine r_iconst (v := (nI 3)) C dX4_lay_122 (by decide) ?_
              refine r_icN_le (a := x) (b := 3) (tgt := 157) C (by first | omega | (simp [up2, *]; done) | (simp [up2, *]; omega) | (simp only [up2_eq]; omega) | (split <;> omega)) (by first | omega | (simp [up2, *]; done) | (simp [up2, *]; omega) | (simp only [up2_eq]; omega) | (split <;> omega)) dX4_lay_123 (by decide) (fun h123_3 => ?_) (fun h123_3 => ?_)
              · first
                | exfalso; first | omega | contradiction
                | skip
                  refine r_w (w' := WM cy ba (upR ra (f 1 w) b_1) (lyM f (up2 hf 4 (f 1 w) (hf 4 (f 1 w) - o0 + n0)) w n0 o0) (upR hq (f 1 w) (layF (hq (f 1 w)) g0 (f 3 w + p0) n0 o0 (hf 4 (f 1 w) - o0 + n0))) kn th sm ++ Y) (by rw [lyT_end hC (by omega)]) ?_
                  exact r_vret C hr dX4_lay_157 ⟨_, rfl, rfl⟩ (Nat.le_of_ble_eq_true rfl) (Nat.le_of_ble_eq_true rfl)
              · first
                | exfalso; first | omega | contradiction
                | skip
                  have q3 := chN_step hch (by omega)
                  have q4 := hC.wi (by omega) hx8 hx5
                  have q5 := hsz x hx8 hxh
                  have q6 := hG x (by omega) hx8 hx5
                  refine r_aload_n C dX4_lay_126 rfl ?_
                  refine m_get (v := .ref (ba 4)) C 4 (by decide) qf_X4_29 rfl rfl dX4_lay_127 ?_
                  refine r_iload C dX4_lay_130 rfl ?_
                  refine r_iconst (v := (nI 4)) C dX4_lay_132 (by decide) ?_
                  refine r_isubN C dX4_lay_133 (by first | omega | (simp [up2, *]; done) | (simp [up2, *]; omega) | (simp only [up2_eq]; omega) | (split <;> omega)) ?_
                  refine r_dup2 C dX4_lay_134 rfl rfl ?_
                  refine m_ald (i := x - 4) (z := x) (v := hf 4 x) C 3 (by decide) (by decide) (show x - 4 < 4 from (by first | omega | (simp [up2, *]; done) | (simp [up2, *]; omega) | (simp only [up2_eq]; omega) | (split <;> omega))) (show 4 + (x - 4) = x from (by omega)) ((lyT_at hx8).trans (up2_i _ _ _ _ (by omega))) dX4_lay_135 ?_
                  refine r_aload C dX4_lay_136 rfl ?_
                  refine y_len C j0 hy dX4_lay_138 ?_
                  refine r_iload_n C dX4_lay_139 rfl ?_
                  refine r_isub C dX4_lay_140 ?_
                  refine r_iadd C dX4_lay_141 ?_
                  refine r_eqi (nI_adj (by omega)) ?_
                  refine m_ast (i := x - 4) (z := x) (v := hf 4 x + n0 - o0) C 3 (by decide) (by decide) (show x - 4 < 4 from (by first | omega | (simp [up2, *]; done) | (simp [up2, *]; omega) | (simp only [up2_eq]; omega) | (split <;> omega))) (show 4 + (x - 4) = x from (by omega)) dX4_lay_142 ?_
                  refine r_w (w' := WM cy ba (upR ra (f 1 w) b_1) (up2 (lyT f (up2 hf 4 (f 1 w) (hf 4 (f 1 w) - o0 + n0)) w x n0 o0) 4 x (hf 4 x + n0 - o0)) (upR hq (f 1 w) (layF (hq (f 1 w)) g0 (f 3 w + p0) n0 o0 (hf 4 (f 1 w) - o0 + n0))) kn th sm ++ Y) rfl ?_
                  refine r_aload_n C dX4_lay_143 rfl ?_
                  refine m_get (v := .ref (ba 2)) C 2 (by decide) qf_X4_22 rfl rfl dX4_lay_144 ?_
                  refine r_iload C dX4_lay_147 rfl ?_
                  refine r_iconst (v := (nI 4)) C dX4_lay_149 (by decide) ?_
                  refine r_isubN C dX4_lay_150 (by first | omega | (simp [up2, *]; done) | (simp [up2, *]; omega) | (simp only [up2_eq]; omega) | (split <;> omega)) ?_
                  refine m_ald (i := x - 4) (z := x) (v := f 2 x) C 1 (by decide) (by decide) (show x - 4 < 4 from (by first | omega | (simp [up2, *]; done) | (simp [up2, *]; omega) | (simp only [up2_eq]; omega) | (split <;> omega))) (show 4 + (x - 4) = x from (by omega)) (show hf 2 x = f 2 x from q6.1) dX4_lay_151 ?_
                  refine r_istore C dX4_lay_152 (by decide) rfl ?_
                  refine r_goto (tgt := 120) C dX4_lay_154 (by decide) ?_
                  refine r_w (w' := WM cy ba (upR ra (f 1 w) b_1) (lyT f (up2 hf 4 (f 1 w) (hf 4 (f 1 w) - o0 + n0)) w (f 2 x) n0 o0) (upR hq (f 1 w) (layF (hq (f 1 w)) g0 (f 3 w + p0) n0 o0 (hf 4 (f 1 w) - o0 + n0))) kn th sm ++ Y) (by rw [lyT_step2 (hf := up2 hf 4 (f 1 w) (hf 4 (f 1 w) - o0 + n0)) hC (by omega) hx8 hx5 hxh (up2_i _ _ _ _ (by omega))]) ?_
                  exact q3.2.2.elim
            | succ d ih_L120 =>
              intro x hx8 hx5 hxh hch
              refine r_iload C dX4_lay_120 rfl ?_
              refine r_iconst (v := (nI 3)) C dX4_lay_122 (by decide) ?_
              refine r_icN_le (a := x) (b := 3) (tgt := 157) C (by first | omega | (simp [up2, *]; done) | (simp [up2, *]; omega) | (simp only [up2_eq]; omega) | (split <;> omega)) (by first | omega | (simp [up2, *]; done) | (simp [up2, *]; omega) | (simp only [up2_eq]; omega) | (split <;> omega)) dX4_lay_123 (by decide) (fun h123_4 => ?_) (fun h123_4 => ?_)
              · first
                | exfalso; first | omega | contradiction
                | skip
                  refine r_w (w' := WM cy ba (upR ra (f 1 w) b_1) (lyM f (up2 hf 4 (f 1 w) (hf 4 (f 1 w) - o0 + n0)) w n0 o0) (upR hq (f 1 w) (layF (hq (f 1 w)) g0 (f 3 w + p0) n0 o0 (hf 4 (f 1 w) - o0 + n0))) kn th sm ++ Y) (by rw [lyT_end hC (by omega)]) ?_
                  exact r_vret C hr dX4_lay_157 ⟨_, rfl, rfl⟩ (Nat.le_of_ble_eq_true rfl) (Nat.le_of_ble_eq_true rfl)
              · first
                | exfalso; first | omega | contradiction
                | skip
                  have q3 := chN_step hch (by omega)
                  have q4 := hC.wi (by omega) hx8 hx5
                  have q5 := hsz x hx8 hxh
                  have q6 := hG x (by omega) hx8 hx5
                  refine r_aload_n C dX4_lay_126 rfl ?_
                  refine m_get (v := .ref (ba 4)) C 4 (by decide) qf_X4_29 rfl rfl dX4_lay_127 ?_
                  refine r_iload C dX4_lay_130 rfl ?_
                  refine r_iconst (v := (nI 4)) C dX4_lay_132 (by decide) ?_
                  refine r_isubN C dX4_lay_133 (by first | omega | (simp [up2, *]; done) | (simp [up2, *]; omega) | (simp only [up2_eq]; omega) | (split <;> omega)) ?_
                  refine r_dup2 C dX4_lay_134 rfl rfl ?_
                  refine m_ald (i := x - 4) (z := x) (v := hf 4 x) C 3 (by decide) (by decide) (show x - 4 < 4 from (by first | omega | (simp [up2, *]; done) | (simp [up2, *]; omega) | (simp only [up2_eq]; omega) | (split <;> omega))) (show 4 + (x - 4) = x from (by omega)) ((lyT_at hx8).trans (up2_i _ _ _ _ (by omega))) dX4_lay_135 ?_
                  refine r_aload C dX4_lay_136 rfl ?_
                  refine y_len C j0 hy dX4_lay_138 ?_
                  refine r_iload_n C dX4_lay_139 rfl ?_
                  refine r_isub C dX4_lay_140 ?_
                  refine r_iadd C dX4_lay_141 ?_
                  refine r_eqi (nI_adj (by omega)) ?_
                  refine m_ast (i := x - 4) (z := x) (v := hf 4 x + n0 - o0) C 3 (by decide) (by decide) (show x - 4 < 4 from (by first | omega | (simp [up2, *]; done) | (simp [up2, *]; omega) | (simp only [up2_eq]; omega) | (split <;> omega))) (show 4 + (x - 4) = x from (by omega)) dX4_lay_142 ?_
                  refine r_w (w' := WM cy ba (upR ra (f 1 w) b_1) (up2 (lyT f (up2 hf 4 (f 1 w) (hf 4 (f 1 w) - o0 + n0)) w x n0 o0) 4 x (hf 4 x + n0 - o0)) (upR hq (f 1 w) (layF (hq (f 1 w)) g0 (f 3 w + p0) n0 o0 (hf 4 (f 1 w) - o0 + n0))) kn th sm ++ Y) rfl ?_
                  refine r_aload_n C dX4_lay_143 rfl ?_
                  refine m_get (v := .ref (ba 2)) C 2 (by decide) qf_X4_22 rfl rfl dX4_lay_144 ?_
                  refine r_iload C dX4_lay_147 rfl ?_
                  refine r_iconst (v := (nI 4)) C dX4_lay_149 (by decide) ?_
                  refine r_isubN C dX4_lay_150 (by first | omega | (simp [up2, *]; done) | (simp [up2, *]; omega) | (simp only [up2_eq]; omega) | (split <;> omega)) ?_
                  refine m_ald (i := x - 4) (z := x) (v := f 2 x) C 1 (by decide) (by decide) (show x - 4 < 4 from (by first | omega | (simp [up2, *]; done) | (simp [up2, *]; omega) | (simp only [up2_eq]; omega) | (split <;> omega))) (show 4 + (x - 4) = x from (by omega)) (show hf 2 x = f 2 x from q6.1) dX4_lay_151 ?_
                  refine r_istore C dX4_lay_152 (by decide) rfl ?_
                  refine r_goto (tgt := 120) C dX4_lay_154 (by decide) ?_
                  refine r_w (w' := WM cy ba (upR ra (f 1 w) b_1) (lyT f (up2 hf 4 (f 1 w) (hf 4 (f 1 w) - o0 + n0)) w (f 2 x) n0 o0) (upR hq (f 1 w) (layF (hq (f 1 w)) g0 (f 3 w + p0) n0 o0 (hf 4 (f 1 w) - o0 + n0))) kn th sm ++ Y) (by rw [lyT_step2 (hf := up2 hf 4 (f 1 w) (hf 4 (f 1 w) - o0 + n0)) hC (by omega) hx8 hx5 hxh (up2_i _ _ _ _ (by omega))]) ?_
                  exact ih_L120 (f 2 x) q4.1 q4.2.1 (hol_next hC hw h5w (by omega) hxh) q3.2.2
          refine r_drop 5 ?_
          refine r_drop 6 ?_
          refine r_drop 7 ?_
          refine r_drop 8 ?_
          exact L120 4 w hw h5w (by rw [hol_self hw]; decide) (hC.ch hw h5w)
      · first
        | exfalso; first | omega | contradiction
        | skip
          refine r_aload C dX4_lay_49 rfl ?_
          refine r_iload C dX4_lay_51 rfl ?_
          refine r_iload C dX4_lay_53 rfl ?_
          refine r_iload C dX4_lay_55 rfl ?_
          refine r_icN_ge (a := k) (b := ((f 3 w) + p0)) (tgt := 68) C (by first | omega | (simp [up2, *]; done) | (simp [up2, *]; omega) | (simp only [up2_eq]; omega) | (split <;> omega)) (by first | omega | (simp [up2, *]; done) | (simp [up2, *]; omega) | (simp only [up2_eq]; omega) | (split <;> omega)) dX4_lay_57 (by decide) (fun h57_5 => ?_) (fun h57_5 => ?_)
          · first
            | exfalso; first | omega | contradiction
            | skip
              refine r_iload C dX4_lay_68 rfl ?_
              refine r_iload C dX4_lay_70 rfl ?_
              refine r_aload C dX4_lay_72 rfl ?_
              refine y_len C j0 (ya_l hy) dX4_lay_74 ?_
              refine r_iaddN C dX4_lay_75 ?_
              refine r_icN_ge (a := k) (b := (((f 3 w) + p0) + n0)) (tgt := 90) C (by first | omega | (simp [up2, *]; done) | (simp [up2, *]; omega) | (simp only [up2_eq]; omega) | (split <;> omega)) (by first | omega | (simp [up2, *]; done) | (simp [up2, *]; omega) | (simp only [up2_eq]; omega) | (split <;> omega)) dX4_lay_76 (by decide) (fun h76_6 => ?_) (fun h76_6 => ?_)
              · first
                | exfalso; first | omega | contradiction
                | skip
                  refine r_aload C dX4_lay_90 rfl ?_
                  refine r_iload C dX4_lay_92 rfl ?_
                  refine r_aload C dX4_lay_94 rfl ?_
                  refine y_len C j0 (ya_l hy) dX4_lay_96 ?_
                  refine r_isubN C dX4_lay_97 (by first | omega | (simp [up2, *]; done) | (simp [up2, *]; omega) | (simp only [up2_eq]; omega) | (split <;> omega)) ?_
                  refine r_iload_n C dX4_lay_98 rfl ?_
                  refine r_iaddN C dX4_lay_99 ?_
                  refine m_rld (i := f 1 w) (n := (k - n0) + o0) C (by first | omega | (simp [up2, *]; done) | (simp [up2, *]; omega) | (simp only [up2_eq]; omega) | (split <;> omega)) (by first | omega | (simp [up2, *]; done) | (simp [up2, *]; omega) | (simp only [up2_eq]; omega) | (split <;> omega)) (by first | omega | (simp [up2, *]; done) | (simp [up2, *]; omega) | (simp only [up2_eq]; omega) | (split <;> omega)) dX4_lay_100 ?_
                  refine x_ast C (i := k) (f := layF (hq (f 1 w)) g0 (f 3 w + p0) n0 o0 k) (E' := [(b_1, .inl (cy 1, hf 4 (f 1 w) - o0 + n0, .inl (upd (layF (hq (f 1 w)) g0 (f 3 w + p0) n0 o0 k) k (hq (f 1 w) ((k - n0) + o0)))))]) 0 rfl (by first | omega | (simp [up2, *]; done) | (simp [up2, *]; omega) | (simp only [up2_eq]; omega) | (split <;> omega)) (by first | omega | (simp [up2, *]; done) | (simp [up2, *]; omega) | (simp only [up2_eq]; omega) | (split <;> omega)) rfl dX4_lay_101 ?_
                  refine r_iincN C dX4_lay_102 rfl (by decide) rfl ?_
                  refine r_goto (tgt := 41) C dX4_lay_105 (by decide) ?_
                  refine r_w (w' := WM cy ba ra hf hq kn th sm ++ (Y ++ [(b_1, .inl (cy 1, hf 4 (f 1 w) - o0 + n0, .inl (layF (hq (f 1 w)) g0 (f 3 w + p0) n0 o0 (k + 1))))])) (by rw [layF_up (g := hq (f 1 w)) (h := g0) (a := f 3 w + p0) (c := n0) (o := o0) (n := 0) (k := k) (x := (hq (f 1 w) ((k - n0) + o0))) (by first | rw [if_pos (by omega)] | rw [if_neg (by omega), if_pos (by omega)] | rw [if_neg (by omega), if_neg (by omega)])]) ?_
                  exact (Nat.not_lt_zero _ (by omega)).elim
              · first
                | exfalso; first | omega | contradiction
                | skip
                  refine r_aload C dX4_lay_79 rfl ?_
                  refine r_iload C dX4_lay_81 rfl ?_
                  refine r_iload C dX4_lay_83 rfl ?_
                  refine r_isubN C dX4_lay_85 (by first | omega | (simp [up2, *]; done) | (simp [up2, *]; omega) | (simp only [up2_eq]; omega) | (split <;> omega)) ?_
                  refine y_ald C (i := k - ((f 3 w) + p0)) (f := g0) j0 (ya_l hy) (by first | omega | (simp [up2, *]; done) | (simp [up2, *]; omega) | (simp only [up2_eq]; omega) | (split <;> omega)) (by first | omega | (simp [up2, *]; done) | (simp [up2, *]; omega) | (simp only [up2_eq]; omega) | (split <;> omega)) dX4_lay_86 ?_
                  refine r_goto (tgt := 101) C dX4_lay_87 (by decide) ?_
                  refine x_ast C (i := k) (f := layF (hq (f 1 w)) g0 (f 3 w + p0) n0 o0 k) (E' := [(b_1, .inl (cy 1, hf 4 (f 1 w) - o0 + n0, .inl (upd (layF (hq (f 1 w)) g0 (f 3 w + p0) n0 o0 k) k (g0 (k - ((f 3 w) + p0))))))]) 0 rfl (by first | omega | (simp [up2, *]; done) | (simp [up2, *]; omega) | (simp only [up2_eq]; omega) | (split <;> omega)) (by first | omega | (simp [up2, *]; done) | (simp [up2, *]; omega) | (simp only [up2_eq]; omega) | (split <;> omega)) rfl dX4_lay_101 ?_
                  refine r_iincN C dX4_lay_102 rfl (by decide) rfl ?_
                  refine r_goto (tgt := 41) C dX4_lay_105 (by decide) ?_
                  refine r_w (w' := WM cy ba ra hf hq kn th sm ++ (Y ++ [(b_1, .inl (cy 1, hf 4 (f 1 w) - o0 + n0, .inl (layF (hq (f 1 w)) g0 (f 3 w + p0) n0 o0 (k + 1))))])) (by rw [layF_up (g := hq (f 1 w)) (h := g0) (a := f 3 w + p0) (c := n0) (o := o0) (n := 0) (k := k) (x := (g0 (k - ((f 3 w) + p0)))) (by first | rw [if_pos (by omega)] | rw [if_neg (by omega), if_pos (by omega)] | rw [if_neg (by omega), if_neg (by omega)])]) ?_
                  exact (Nat.not_lt_zero _ (by omega)).elim
          · first
            | exfalso; first | omega | contradiction
            | skip
              refine r_aload C dX4_lay_60 rfl ?_
              refine r_iload C dX4_lay_62 rfl ?_
              refine m_rld (i := f 1 w) (n := k) C (by first | omega | (simp [up2, *]; done) | (simp [up2, *]; omega) | (simp only [up2_eq]; omega) | (split <;> omega)) (by first | omega | (simp [up2, *]; done) | (simp [up2, *]; omega) | (simp only [up2_eq]; omega) | (split <;> omega)) (by first | omega | (simp [up2, *]; done) | (simp [up2, *]; omega) | (simp only [up2_eq]; omega) | (split <;> omega)) dX4_lay_64 ?_
              refine r_goto (tgt := 101) C dX4_lay_65 (by decide) ?_
              refine x_ast C (i := k) (f := layF (hq (f 1 w)) g0 (f 3 w + p0) n0 o0 k) (E' := [(b_1, .inl (cy 1, hf 4 (f 1 w) - o0 + n0, .inl (upd (layF (hq (f 1 w)) g0 (f 3 w + p0) n0 o0 k) k (hq (f 1 w) k))))]) 0 rfl (by first | omega | (simp [up2, *]; done) | (simp [up2, *]; omega) | (simp only [up2_eq]; omega) | (split <;> omega)) (by first | omega | (simp [up2, *]; done) | (simp [up2, *]; omega) | (simp only [up2_eq]; omega) | (split <;> omega)) rfl dX4_lay_101 ?_
              refine r_iincN C dX4_lay_102 rfl (by decide) rfl ?_
              refine r_goto (tgt := 41) C dX4_lay_105 (by decide) ?_
              refine r_w (w' := WM cy ba ra hf hq kn th sm ++ (Y ++ [(b_1, .inl (cy 1, hf 4 (f 1 w) - o0 + n0, .inl (layF (hq (f 1 w)) g0 (f 3 w + p0) n0 o0 (k + 1))))])) (by rw [layF_up (g := hq (f 1 w)) (h := g0) (a := f 3 w + p0) (c := n0) (o := o0) (n := 0) (k := k) (x := (hq (f 1 w) k)) (by first | rw [if_pos (by omega)] | rw [if_neg (by omega), if_pos (by omega)] | rw [if_neg (by omega), if_neg (by omega)])]) ?_
              exact (Nat.not_lt_zero _ (by omega)).elim
    | succ d ih_L41 =>
      intro k hk
      refine r_iload C dX4_lay_41 rfl ?_
      refine r_aload C dX4_lay_43 rfl ?_
      refine x_len C (t0 := 1) 0 rfl rfl dX4_lay_45 ?_
      refine r_icN_ge (a := k) (b := (hf 4 (f 1 w) - o0 + n0)) (tgt := 108) C (by first | omega | (simp [up2, *]; done) | (simp [up2, *]; omega) | (simp only [up2_eq]; omega) | (split <;> omega)) (by first | omega | (simp [up2, *]; done) | (simp [up2, *]; omega) | (simp only [up2_eq]; omega) | (split <;> omega)) dX4_lay_46 (by decide) (fun h46_7 => ?_) (fun h46_7 => ?_)
      · first
        | exfalso; first | omega | contradiction
        | skip
          have e9 : k = hf 4 (f 1 w) - o0 + n0 := by omega
          subst e9
          refine r_aload_n C dX4_lay_108 rfl ?_
          refine m_get (v := .ref (ba 0)) C 0 (by decide) qf_X4_15 rfl rfl dX4_lay_109 ?_
          refine r_iload C dX4_lay_112 rfl ?_
          refine r_aload C dX4_lay_114 rfl ?_
          refine m_setRow hX C hE (i := f 1 w) (f := layF (hq (f 1 w)) g0 (f 3 w + p0) n0 o0 (hf 4 (f 1 w) - o0 + n0)) 0 rfl (by first | omega | (simp [up2, *]; done) | (simp [up2, *]; omega) | (simp only [up2_eq]; omega) | (split <;> omega)) dX4_lay_116 ?_
          refine r_w (w' := WM cy ba (upR ra (f 1 w) b_1) (up2 hf 4 (f 1 w) (hf 4 (f 1 w) - o0 + n0)) (upR hq (f 1 w) (layF (hq (f 1 w)) g0 (f 3 w + p0) n0 o0 (hf 4 (f 1 w) - o0 + n0))) kn th sm ++ Y) (congrArg _ (List.append_nil Y)) ?_
          refine r_iload_n C dX4_lay_117 rfl ?_
          refine r_istore C dX4_lay_118 (by decide) rfl ?_
          refine r_w (w' := WM cy ba (upR ra (f 1 w) b_1) (lyT f (up2 hf 4 (f 1 w) (hf 4 (f 1 w) - o0 + n0)) w w n0 o0) (upR hq (f 1 w) (layF (hq (f 1 w)) g0 (f 3 w + p0) n0 o0 (hf 4 (f 1 w) - o0 + n0))) kn th sm ++ Y) (by rw [lyT_0]) ?_
          have L120 : ∀ (d : Nat) (x : Nat), (hx8 : x < 8) → (hx5 : f 5 x = 1) → (hxh : hol f x w ≠ 0) → (hch : chN f (d + 1) x) → vC p l e (rmk 5 1 12 190) s m args below meth c D A (vx_MQ below (vG (fun v1 w1 => ∃ ra9 : Nat → Nat, v1 = none ∧ w1 = WM cy ba ra9 (lyM f (up2 hf 4 (f 1 w) (hf 4 (f 1 w) - o0 + n0)) w n0 o0) (upR hq (f 1 w) (layF (hq (f 1 w)) g0 (f 3 w + p0) n0 o0 (hf 4 (f 1 w) - o0 + n0))) kn th sm ++ Y) D vwCl A) (vGX (fun _ => False) D vwCl (WM cy ba ra hf hq kn th sm ++ Y) A) args s (rmk 5 1 12 190).cells (rmk 5 1 12 190).slots A) 10 1 12 (WM cy ba (upR ra (f 1 w) b_1) (lyT f (up2 hf 4 (f 1 w) (hf 4 (f 1 w) - o0 + n0)) w x n0 o0) (upR hq (f 1 w) (layF (hq (f 1 w)) g0 (f 3 w + p0) n0 o0 (hf 4 (f 1 w) - o0 + n0))) kn th sm ++ Y) [some (.ref (ba 9)), some (.int (nI w)), some (.int (nI p0)), some (.int (nI o0)), some (.ref b0), none, none, none, none, some (.int (nI x))] 120 [] := by
            intro d
            induction d with
            | zero =>
              intro x hx8 hx5 hxh hch
              refine r_iload C dX4_lay_120 rfl ?_
              refine r_iconst (v := (nI 3)) C dX4_lay_122 (by decide) ?_
              refine r_icN_le (a := x) (b := 3) (tgt := 157) C (by first | omega | (simp [up2, *]; done) | (simp [up2, *]; omega) | (simp only [up2_eq]; omega) | (split <;> omega)) (by first | omega | (simp [up2, *]; done) | (simp [up2, *]; omega) | (simp only [up2_eq]; omega) | (split <;> omega)) dX4_lay_123 (by decide) (fun h123_8 => ?_) (fun h123_8 => ?_)
              · first
                | exfalso; first | omega | contradiction
                | skip
                  refine r_w (w' := WM cy ba (upR ra (f 1 w) b_1) (lyM f (up2 hf 4 (f 1 w) (hf 4 (f 1 w) - o0 + n0)) w n0 o0) (upR hq (f 1 w) (layF (hq (f 1 w)) g0 (f 3 w + p0) n0 o0 (hf 4 (f 1 w) - o0 + n0))) kn th sm ++ Y) (by rw [lyT_end hC (by omega)]) ?_
                  exact r_vret C hr dX4_lay_157 ⟨_, rfl, rfl⟩ (Nat.le_of_ble_eq_true rfl) (Nat.le_of_ble_eq_true rfl)
              · first
                | exfalso; first | omega | contradiction
                | skip
                  have q3 := chN_step hch (by omega)
                  have q4 := hC.wi (by omega) hx8 hx5
                  have q5 := hsz x hx8 hxh
                  have q6 := hG x (by omega) hx8 hx5
                  refine r_aload_n C dX4_lay_126 rfl ?_
                  refine m_get (v := .ref (ba 4)) C 4 (by decide) qf_X4_29 rfl rfl dX4_lay_127 ?_
                  refine r_iload C dX4_lay_130 rfl ?_
                  refine r_iconst (v := (nI 4)) C dX4_lay_132 (by decide) ?_
                  refine r_isubN C dX4_lay_133 (by first | omega | (simp [up2, *]; done) | (simp [up2, *]; omega) | (simp only [up2_eq]; omega) | (split <;> omega)) ?_
                  refine r_dup2 C dX4_lay_134 rfl rfl ?_
                  refine m_ald (i := x - 4) (z := x) (v := hf 4 x) C 3 (by decide) (by decide) (show x - 4 < 4 from (by first | omega | (simp [up2, *]; done) | (simp [up2, *]; omega) | (simp only [up2_eq]; omega) | (split <;> omega))) (show 4 + (x - 4) = x from (by omega)) ((lyT_at hx8).trans (up2_i _ _ _ _ (by omega))) dX4_lay_135 ?_
                  refine r_aload C dX4_lay_136 rfl ?_
                  refine y_len C j0 hy dX4_lay_138 ?_
                  refine r_iload_n C dX4_lay_139 rfl ?_
                  refine r_isub C dX4_lay_140 ?_
                  refine r_iadd C dX4_lay_141 ?_
                  refine r_eqi (nI_adj (by omega)) ?_
                  refine m_ast (i := x - 4) (z := x) (v := hf 4 x + n0 - o0) C 3 (by decide) (by decide) (show x - 4 < 4 from (by first | omega | (simp [up2, *]; done) | (simp [up2, *]; omega) | (simp only [up2_eq]; omega) | (split <;> omega))) (show 4 + (x - 4) = x from (by omega)) dX4_lay_142 ?_
                  refine r_w (w' := WM cy ba (upR ra (f 1 w) b_1) (up2 (lyT f (up2 hf 4 (f 1 w) (hf 4 (f 1 w) - o0 + n0)) w x n0 o0) 4 x (hf 4 x + n0 - o0)) (upR hq (f 1 w) (layF (hq (f 1 w)) g0 (f 3 w + p0) n0 o0 (hf 4 (f 1 w) - o0 + n0))) kn th sm ++ Y) rfl ?_
                  refine r_aload_n C dX4_lay_143 rfl ?_
                  refine m_get (v := .ref (ba 2)) C 2 (by decide) qf_X4_22 rfl rfl dX4_lay_144 ?_
                  refine r_iload C dX4_lay_147 rfl ?_
                  refine r_iconst (v := (nI 4)) C dX4_lay_149 (by decide) ?_
                  refine r_isubN C dX4_lay_150 (by first | omega | (simp [up2, *]; done) | (simp [up2, *]; omega) | (simp only [up2_eq]; omega) | (split <;> omega)) ?_
                  refine m_ald (i := x - 4) (z := x) (v := f 2 x) C 1 (by decide) (by decide) (show x - 4 < 4 from (by first | omega | (simp [up2, *]; done) | (simp [up2, *]; omega) | (simp only [up2_eq]; omega) | (split <;> omega))) (show 4 + (x - 4) = x from (by omega)) (show hf 2 x = f 2 x from q6.1) dX4_lay_151 ?_
                  refine r_istore C dX4_lay_152 (by decide) rfl ?_
                  refine r_goto (tgt := 120) C dX4_lay_154 (by decide) ?_
                  refine r_w (w' := WM cy ba (upR ra (f 1 w) b_1) (lyT f (up2 hf 4 (f 1 w) (hf 4 (f 1 w) - o0 + n0)) w (f 2 x) n0 o0) (upR hq (f 1 w) (layF (hq (f 1 w)) g0 (f 3 w + p0) n0 o0 (hf 4 (f 1 w) - o0 + n0))) kn th sm ++ Y) (by rw [lyT_step2 (hf := up2 hf 4 (f 1 w) (hf 4 (f 1 w) - o0 + n0)) hC (by omega) hx8 hx5 hxh (up2_i _ _ _ _ (by omega))]) ?_
                  exact q3.2.2.elim
            | succ d ih_L120 =>
              intro x hx8 hx5 hxh hch
              refine r_iload C dX4_lay_120 rfl ?_
              refine r_iconst (v := (nI 3)) C dX4_lay_122 (by decide) ?_
              refine r_icN_le (a := x) (b := 3) (tgt := 157) C (by first | omega | (simp [up2, *]; done) | (simp [up2, *]; omega) | (simp only [up2_eq]; omega) | (split <;> omega)) (by first | omega | (simp [up2, *]; done) | (simp [up2, *]; omega) | (simp only [up2_eq]; omega) | (split <;> omega)) dX4_lay_123 (by decide) (fun h123_9 => ?_) (fun h123_9 => ?_)
              · first
                | exfalso; first | omega | contradiction
                | skip
                  refine r_w (w' := WM cy ba (upR ra (f 1 w) b_1) (lyM f (up2 hf 4 (f 1 w) (hf 4 (f 1 w) - o0 + n0)) w n0 o0) (upR hq (f 1 w) (layF (hq (f 1 w)) g0 (f 3 w + p0) n0 o0 (hf 4 (f 1 w) - o0 + n0))) kn th sm ++ Y) (by rw [lyT_end hC (by omega)]) ?_
                  exact r_vret C hr dX4_lay_157 ⟨_, rfl, rfl⟩ (Nat.le_of_ble_eq_true rfl) (Nat.le_of_ble_eq_true rfl)
              · first
                | exfalso; first | omega | contradiction
                | skip
                  have q3 := chN_step hch (by omega)
                  have q4 := hC.wi (by omega) hx8 hx5
                  have q5 := hsz x hx8 hxh
                  have q6 := hG x (by omega) hx8 hx5
                  refine r_aload_n C dX4_lay_126 rfl ?_
                  refine m_get (v := .ref (ba 4)) C 4 (by decide) qf_X4_29 rfl rfl dX4_lay_127 ?_
                  refine r_iload C dX4_lay_130 rfl ?_
                  refine r_iconst (v := (nI 4)) C dX4_lay_132 (by decide) ?_
                  refine r_isubN C dX4_lay_133 (by first | omega | (simp [up2, *]; done) | (simp [up2, *]; omega) | (simp only [up2_eq]; omega) | (split <;> omega)) ?_
                  refine r_dup2 C dX4_lay_134 rfl rfl ?_
                  refine m_ald (i := x - 4) (z := x) (v := hf 4 x) C 3 (by decide) (by decide) (show x - 4 < 4 from (by first | omega | (simp [up2, *]; done) | (simp [up2, *]; omega) | (simp only [up2_eq]; omega) | (split <;> omega))) (show 4 + (x - 4) = x from (by omega)) ((lyT_at hx8).trans (up2_i _ _ _ _ (by omega))) dX4_lay_135 ?_
                  refine r_aload C dX4_lay_136 rfl ?_
                  refine y_len C j0 hy dX4_lay_138 ?_
                  refine r_iload_n C dX4_lay_139 rfl ?_
                  refine r_isub C dX4_lay_140 ?_
                  refine r_iadd C dX4_lay_141 ?_
                  refine r_eqi (nI_adj (by omega)) ?_
                  refine m_ast (i := x - 4) (z := x) (v := hf 4 x + n0 - o0) C 3 (by decide) (by decide) (show x - 4 < 4 from (by first | omega | (simp [up2, *]; done) | (simp [up2, *]; omega) | (simp only [up2_eq]; omega) | (split <;> omega))) (show 4 + (x - 4) = x from (by omega)) dX4_lay_142 ?_
                  refine r_w (w' := WM cy ba (upR ra (f 1 w) b_1) (up2 (lyT f (up2 hf 4 (f 1 w) (hf 4 (f 1 w) - o0 + n0)) w x n0 o0) 4 x (hf 4 x + n0 - o0)) (upR hq (f 1 w) (layF (hq (f 1 w)) g0 (f 3 w + p0) n0 o0 (hf 4 (f 1 w) - o0 + n0))) kn th sm ++ Y) rfl ?_
                  refine r_aload_n C dX4_lay_143 rfl ?_
                  refine m_get (v := .ref (ba 2)) C 2 (by decide) qf_X4_22 rfl rfl dX4_lay_144 ?_
                  refine r_iload C dX4_lay_147 rfl ?_
                  refine r_iconst (v := (nI 4)) C dX4_lay_149 (by decide) ?_
                  refine r_isubN C dX4_lay_150 (by first | omega | (simp [up2, *]; done) | (simp [up2, *]; omega) | (simp only [up2_eq]; omega) | (split <;> omega)) ?_
                  refine m_ald (i := x - 4) (z := x) (v := f 2 x) C 1 (by decide) (by decide) (show x - 4 < 4 from (by first | omega | (simp [up2, *]; done) | (simp [up2, *]; omega) | (simp only [up2_eq]; omega) | (split <;> omega))) (show 4 + (x - 4) = x from (by omega)) (show hf 2 x = f 2 x from q6.1) dX4_lay_151 ?_
                  refine r_istore C dX4_lay_152 (by decide) rfl ?_
                  refine r_goto (tgt := 120) C dX4_lay_154 (by decide) ?_
                  refine r_w (w' := WM cy ba (upR ra (f 1 w) b_1) (lyT f (up2 hf 4 (f 1 w) (hf 4 (f 1 w) - o0 + n0)) w (f 2 x) n0 o0) (upR hq (f 1 w) (layF (hq (f 1 w)) g0 (f 3 w + p0) n0 o0 (hf 4 (f 1 w) - o0 + n0))) kn th sm ++ Y) (by rw [lyT_step2 (hf := up2 hf 4 (f 1 w) (hf 4 (f 1 w) - o0 + n0)) hC (by omega) hx8 hx5 hxh (up2_i _ _ _ _ (by omega))]) ?_
                  exact ih_L120 (f 2 x) q4.1 q4.2.1 (hol_next hC hw h5w (by omega) hxh) q3.2.2
          refine r_drop 5 ?_
          refine r_drop 6 ?_
          refine r_drop 7 ?_
          refine r_drop 8 ?_
          exact L120 4 w hw h5w (by rw [hol_self hw]; decide) (hC.ch hw h5w)
      · first
        | exfalso; first | omega | contradiction
        | skip
          refine r_aload C dX4_lay_49 rfl ?_
          refine r_iload C dX4_lay_51 rfl ?_
          refine r_iload C dX4_lay_53 rfl ?_
          refine r_iload C dX4_lay_55 rfl ?_
          refine r_icN_ge (a := k) (b := ((f 3 w) + p0)) (tgt := 68) C (by first | omega | (simp [up2, *]; done) | (simp [up2, *]; omega) | (simp only [up2_eq]; omega) | (split <;> omega)) (by first | omega | (simp [up2, *]; done) | (simp [up2, *]; omega) | (simp only [up2_eq]; omega) | (split <;> omega)) dX4_lay_57 (by decide) (fun h57_10 => ?_) (fun h57_10 => ?_)
          · first
            | exfalso; first | omega | contradiction
            | skip
              refine r_iload C dX4_lay_68 rfl ?_
              refine r_iload C dX4_lay_70 rfl ?_
              refine r_aload C dX4_lay_72 rfl ?_
              refine y_len C j0 (ya_l hy) dX4_lay_74 ?_
              refine r_iaddN C dX4_lay_75 ?_
              refine r_icN_ge (a := k) (b := (((f 3 w) + p0) + n0)) (tgt := 90) C (by first | omega | (simp [up2, *]; done) | (simp [up2, *]; omega) | (simp only [up2_eq]; omega) | (split <;> omega)) (by first | omega | (simp [up2, *]; done) | (simp [up2, *]; omega) | (simp only [up2_eq]; omega) | (split <;> omega)) dX4_lay_76 (by decide) (fun h76_11 => ?_) (fun h76_11 => ?_)
              · first
                | exfalso; first | omega | contradiction
                | skip
                  refine r_aload C dX4_lay_90 rfl ?_
                  refine r_iload C dX4_lay_92 rfl ?_
                  refine r_aload C dX4_lay_94 rfl ?_
                  refine y_len C j0 (ya_l hy) dX4_lay_96 ?_
                  refine r_isubN C dX4_lay_97 (by first | omega | (simp [up2, *]; done) | (simp [up2, *]; omega) | (simp only [up2_eq]; omega) | (split <;> omega)) ?_
                  refine r_iload_n C dX4_lay_98 rfl ?_
                  refine r_iaddN C dX4_lay_99 ?_
                  refine m_rld (i := f 1 w) (n := (k - n0) + o0) C (by first | omega | (simp [up2, *]; done) | (simp [up2, *]; omega) | (simp only [up2_eq]; omega) | (split <;> omega)) (by first | omega | (simp [up2, *]; done) | (simp [up2, *]; omega) | (simp only [up2_eq]; omega) | (split <;> omega)) (by first | omega | (simp [up2, *]; done) | (simp [up2, *]; omega) | (simp only [up2_eq]; omega) | (split <;> omega)) dX4_lay_100 ?_
                  refine x_ast C (i := k) (f := layF (hq (f 1 w)) g0 (f 3 w + p0) n0 o0 k) (E' := [(b_1, .inl (cy 1, hf 4 (f 1 w) - o0 + n0, .inl (upd (layF (hq (f 1 w)) g0 (f 3 w + p0) n0 o0 k) k (hq (f 1 w) ((k - n0) + o0)))))]) 0 rfl (by first | omega | (simp [up2, *]; done) | (simp [up2, *]; omega) | (simp only [up2_eq]; omega) | (split <;> omega)) (by first | omega | (simp [up2, *]; done) | (simp [up2, *]; omega) | (simp only [up2_eq]; omega) | (split <;> omega)) rfl dX4_lay_101 ?_
                  refine r_iincN C dX4_lay_102 rfl (by decide) rfl ?_
                  refine r_goto (tgt := 41) C dX4_lay_105 (by decide) ?_
                  refine r_w (w' := WM cy ba ra hf hq kn th sm ++ (Y ++ [(b_1, .inl (cy 1, hf 4 (f 1 w) - o0 + n0, .inl (layF (hq (f 1 w)) g0 (f 3 w + p0) n0 o0 (k + 1))))])) (by rw [layF_up (g := hq (f 1 w)) (h := g0) (a := f 3 w + p0) (c := n0) (o := o0) (n := 0) (k := k) (x := (hq (f 1 w) ((k - n0) + o0))) (by first | rw [if_pos (by omega)] | rw [if_neg (by omega), if_pos (by omega)] | rw [if_neg (by omega), if_neg (by omega)])]) ?_
                  exact ih_L41 (k + 1) (by first | omega | (simp [up2, *]; done) | (simp [up2, *]; omega) | (simp only [up2_eq]; omega) | (split <;> omega))
              · first
                | exfalso; first | omega | contradiction
                | skip
                  refine r_aload C dX4_lay_79 rfl ?_
                  refine r_iload C dX4_lay_81 rfl ?_
                  refine r_iload C dX4_lay_83 rfl ?_
                  refine r_isubN C dX4_lay_85 (by first | omega | (simp [up2, *]; done) | (simp [up2, *]; omega) | (simp only [up2_eq]; omega) | (split <;> omega)) ?_
                  refine y_ald C (i := k - ((f 3 w) + p0)) (f := g0) j0 (ya_l hy) (by first | omega | (simp [up2, *]; done) | (simp [up2, *]; omega) | (simp only [up2_eq]; omega) | (split <;> omega)) (by first | omega | (simp [up2, *]; done) | (simp [up2, *]; omega) | (simp only [up2_eq]; omega) | (split <;> omega)) dX4_lay_86 ?_
                  refine r_goto (tgt := 101) C dX4_lay_87 (by decide) ?_
                  refine x_ast C (i := k) (f := layF (hq (f 1 w)) g0 (f 3 w + p0) n0 o0 k) (E' := [(b_1, .inl (cy 1, hf 4 (f 1 w) - o0 + n0, .inl (upd (layF (hq (f 1 w)) g0 (f 3 w + p0) n0 o0 k) k (g0 (k - ((f 3 w) + p0))))))]) 0 rfl (by first | omega | (simp [up2, *]; done) | (simp [up2, *]; omega) | (simp only [up2_eq]; omega) | (split <;> omega)) (by first | omega | (simp [up2, *]; done) | (simp [up2, *]; omega) | (simp only [up2_eq]; omega) | (split <;> omega)) rfl dX4_lay_101 ?_
                  refine r_iincN C dX4_lay_102 rfl (by decide) rfl ?_
                  refine r_goto (tgt := 41) C dX4_lay_105 (by decide) ?_
                  refine r_w (w' := WM cy ba ra hf hq kn th sm ++ (Y ++ [(b_1, .inl (cy 1, hf 4 (f 1 w) - o0 + n0, .inl (layF (hq (f 1 w)) g0 (f 3 w + p0) n0 o0 (k + 1))))])) (by rw [layF_up (g := hq (f 1 w)) (h := g0) (a := f 3 w + p0) (c := n0) (o := o0) (n := 0) (k := k) (x := (g0 (k - ((f 3 w) + p0)))) (by first | rw [if_pos (by omega)] | rw [if_neg (by omega), if_pos (by omega)] | rw [if_neg (by omega), if_neg (by omega)])]) ?_
                  exact ih_L41 (k + 1) (by first | omega | (simp [up2, *]; done) | (simp [up2, *]; omega) | (simp only [up2_eq]; omega) | (split <;> omega))
          · first
            | exfalso; first | omega | contradiction
            | skip
              refine r_aload C dX4_lay_60 rfl ?_
              refine r_iload C dX4_lay_62 rfl ?_
              refine m_rld (i := f 1 w) (n := k) C (by first | omega | (simp [up2, *]; done) | (simp [up2, *]; omega) | (simp only [up2_eq]; omega) | (split <;> omega)) (by first | omega | (simp [up2, *]; done) | (simp [up2, *]; omega) | (simp only [up2_eq]; omega) | (split <;> omega)) (by first | omega | (simp [up2, *]; done) | (simp [up2, *]; omega) | (simp only [up2_eq]; omega) | (split <;> omega)) dX4_lay_64 ?_
              refine r_goto (tgt := 101) C dX4_lay_65 (by decide) ?_
              refine x_ast C (i := k) (f := layF (hq (f 1 w)) g0 (f 3 w + p0) n0 o0 k) (E' := [(b_1, .inl (cy 1, hf 4 (f 1 w) - o0 + n0, .inl (upd (layF (hq (f 1 w)) g0 (f 3 w + p0) n0 o0 k) k (hq (f 1 w) k))))]) 0 rfl (by first | omega | (simp [up2, *]; done) | (simp [up2, *]; omega) | (simp only [up2_eq]; omega) | (split <;> omega)) (by first | omega | (simp [up2, *]; done) | (simp [up2, *]; omega) | (simp only [up2_eq]; omega) | (split <;> omega)) rfl dX4_lay_101 ?_
              refine r_iincN C dX4_lay_102 rfl (by decide) rfl ?_
              refine r_goto (tgt := 41) C dX4_lay_105 (by decide) ?_
              refine r_w (w' := WM cy ba ra hf hq kn th sm ++ (Y ++ [(b_1, .inl (cy 1, hf 4 (f 1 w) - o0 + n0, .inl (layF (hq (f 1 w)) g0 (f 3 w + p0) n0 o0 (k + 1))))])) (by rw [layF_up (g := hq (f 1 w)) (h := g0) (a := f 3 w + p0) (c := n0) (o := o0) (n := 0) (k := k) (x := (hq (f 1 w) k)) (by first | rw [if_pos (by omega)] | rw [if_neg (by omega), if_pos (by omega)] | rw [if_neg (by omega), if_neg (by omega)])]) ?_
              exact ih_L41 (k + 1) (by first | omega | (simp [up2, *]; done) | (simp [up2, *]; omega) | (simp only [up2_eq]; omega) | (split <;> omega))
  exact L41 (hf 4 (f 1 w) - o0 + n0) 0 (by first | omega | (simp [up2, *]; done) | (simp [up2, *]; omega) | (simp only [up2_eq]; omega) | (split <;> omega))
theorem dX4_put_0 : decode cX4_put 0 = .ok (.iconst 0, 1) := dqo_3 (kb_of ke_X4_put 0 rfl)
theorem dX4_put_1 : decode cX4_put 1 = .ok (.istore_n 3, 1) := dqo_62 (kb_of ke_X4_put 1 rfl)
theorem dX4_put_2 : decode cX4_put 2 = .ok (.iload_n 3, 1) := dqo_29 (kb_of ke_X4_put 2 rfl)
theorem dX4_put_3 : decode cX4_put 3 = .ok (.aload_n 2, 1) := dqo_44 (kb_of ke_X4_put 3 rfl)
theorem dX4_put_4 : decode cX4_put 4 = .ok (.arraylength, 1) := dqo_190 (kb_of ke_X4_put 4 rfl)
theorem dX4_put_5 : decode cX4_put 5 = .ok (.if_icmp .ge 30, 3) := dqo_162 0 30 (by decide) (kb_of ke_X4_put 5 rfl) (kb_of ke_X4_put 6 rfl) (kb_of ke_X4_put 7 rfl)
theorem dX4_put_8 : decode cX4_put 8 = .ok (.aload_n 0, 1) := dqo_42 (kb_of ke_X4_put 8 rfl)
theorem dX4_put_9 : decode cX4_put 9 = .ok (.getfield 15, 3) := dqo_180 0 15 (kb_of ke_X4_put 9 rfl) (kb_of ke_X4_put 10 rfl) (kb_of ke_X4_put 11 rfl)
theorem dX4_put_12 : decode cX4_put 12 = .ok (.aload_n 0, 1) := dqo_42 (kb_of ke_X4_put 12 rfl)
theorem dX4_put_13 : decode cX4_put 13 = .ok (.iload_n 1, 1) := dqo_27 (kb_of ke_X4_put 13 rfl)
theorem dX4_put_14 : decode cX4_put 14 = .ok (.invokevirtual 48, 3) := dqo_182 0 48 (kb_of ke_X4_put 14 rfl) (kb_of ke_X4_put 15 rfl) (kb_of ke_X4_put 16 rfl)
theorem dX4_put_17 : decode cX4_put 17 = .ok (.aaload, 1) := dqo_50 (kb_of ke_X4_put 17 rfl)
theorem dX4_put_18 : decode cX4_put 18 = .ok (.aload_n 0, 1) := dqo_42 (kb_of ke_X4_put 18 rfl)
theorem dX4_put_19 : decode cX4_put 19 = .ok (.iload_n 1, 1) := dqo_27 (kb_of ke_X4_put 19 rfl)
theorem dX4_put_20 : decode cX4_put 20 = .ok (.invokevirtual 52, 3) := dqo_182 0 52 (kb_of ke_X4_put 20 rfl) (kb_of ke_X4_put 21 rfl) (kb_of ke_X4_put 22 rfl)
theorem dX4_put_23 : decode cX4_put 23 = .ok (.iload_n 3, 1) := dqo_29 (kb_of ke_X4_put 23 rfl)
theorem dX4_put_24 : decode cX4_put 24 = .ok (.iadd, 1) := dqo_96 (kb_of ke_X4_put 24 rfl)
theorem dX4_put_25 : decode cX4_put 25 = .ok (.aload_n 2, 1) := dqo_44 (kb_of ke_X4_put 25 rfl)
theorem dX4_put_26 : decode cX4_put 26 = .ok (.iload_n 3, 1) := dqo_29 (kb_of ke_X4_put 26 rfl)
theorem dX4_put_27 : decode cX4_put 27 = .ok (.iaload, 1) := dqo_46 (kb_of ke_X4_put 27 rfl)
theorem dX4_put_28 : decode cX4_put 28 = .ok (.iastore, 1) := dqo_79 (kb_of ke_X4_put 28 rfl)
theorem dX4_put_29 : decode cX4_put 29 = .ok (.iinc 3 1, 3) := dqo_132 3 1 (by decide) (kb_of ke_X4_put 29 rfl) (kb_of ke_X4_put 30 rfl) (kb_of ke_X4_put 31 rfl)
theorem dX4_put_32 : decode cX4_put 32 = .ok (.goto (-30), 3) := dqo_167 255 226 (by decide) (kb_of ke_X4_put 32 rfl) (kb_of ke_X4_put 33 rfl) (kb_of ke_X4_put 34 rfl)
theorem dX4_put_35 : decode cX4_put 35 = .ok (.return_, 1) := dqo_177 (kb_of ke_X4_put 35 rfl)
set_option maxRecDepth 100000 in
set_option maxHeartbeats 4000000 in
theorem D_put {l : Launch} {D : va_G} {cy : Nat → ClassId} {X : (Nat → Prop) → State → Heap → Prop} {ba ra : Nat → Nat} {hf : Nat → Nat → Nat} {hq : Nat → Nat → Int32} {kn th : Int32} {sm : Int64} {Y : va_W} {f : Nat → Nat → Nat} {w : Nat} {b0 : Nat} {n0 : Nat} {g0 : Nat → Int32} {j0 : Nat} (hX : EnvM X cy) (hC : CInv f) (hG : MG f hf) (hw : w < 8) (h5w : f 5 w = 1) (hpn : f 3 w + n0 ≤ hf 4 (f 1 w)) (h12 : hf 4 (f 1 w) ≤ 12) (hy : Y[j0]? = some (b0, .inl (cy 1, n0, .inl g0))) : Cd l D cy X yX4_put cX4_put 4 none (rmz 5 160) [.ref (ba 9), .int (nI w), .ref b0] (WM cy ba ra hf hq kn th sm ++ Y) none (WM cy ba ra hf (wrR hq (f 1 w) (f 3 w) n0 g0) kn th sm ++ Y) := by
  have q1 := hC.al hw
  refine Cm.of [some (.ref (ba 9)), some (.int (nI w)), some (.ref b0), none] pn_X4 rfl (Nat.le_of_ble_eq_true rfl) ?_
  intro p e s m args below meth c A C hE hr hnt hn
  refine r_iconst (v := (nI 0)) C dX4_put_0 (by decide) ?_
  refine r_istore_n C dX4_put_1 (by decide) rfl ?_
  refine r_w (w' := WM cy ba ra hf (wrR hq (f 1 w) (f 3 w) 0 g0) kn th sm ++ Y) (by rw [wrR_0]) ?_
  have L2 : ∀ (d : Nat) (k : Nat), (hk : k + d = n0) → vC p l e (rmz 5 160) s m args below meth c D A (vx_MQ below (vG (fun v1 w1 => v1 = none ∧ w1 = WM cy ba ra hf (wrR hq (f 1 w) (f 3 w) n0 g0) kn th sm ++ Y) D vwCl A) (vGX (fun _ => False) D vwCl (WM cy ba ra hf hq kn th sm ++ Y) A) args s (rmz 5 160).cells (rmz 5 160).slots A) 4 0 0 (WM cy ba ra hf (wrR hq (f 1 w) (f 3 w) k g0) kn th sm ++ Y) [some (.ref (ba 9)), some (.int (nI w)), some (.ref b0), some (.int (nI k))] 2 [] := by
    intro d
    induction d with
    | zero =>
      intro k hk
      refine r_iload_n C dX4_put_2 rfl ?_
      refine r_aload_n C dX4_put_3 rfl ?_
      refine y_len C j0 hy dX4_put_4 ?_
      refine r_icN_ge (a := k) (b := n0) (tgt := 35) C (by first | omega | (simp [up2, *]; done) | (simp [up2, *]; omega) | (simp only [up2_eq]; omega) | (split <;> omega)) (by first | omega | (simp [up2, *]; done) | (simp [up2, *]; omega) | (simp only [up2_eq]; omega) | (split <;> omega)) dX4_put_5 (by decide) (fun h5_1 => ?_) (fun h5_1 => ?_)
      · first
        | exfalso; first | omega | contradiction
        | skip
          have e9 : n0 = k := by omega
          refine r_w (w' := WM cy ba ra hf (wrR hq (f 1 w) (f 3 w) n0 g0) kn th sm ++ Y) (by rw [e9]) ?_
          exact r_vret C hr dX4_put_35 ⟨rfl, rfl⟩ (Nat.le_of_ble_eq_true rfl) (Nat.le_of_ble_eq_true rfl)
      · first
        | exfalso; first | omega | contradiction
        | skip
          refine r_aload_n C dX4_put_8 rfl ?_
          refine m_get (v := .ref (ba 0)) C 0 (by decide) qf_X4_15 rfl rfl dX4_put_9 ?_
          refine r_aload_n C dX4_put_12 rfl ?_
          refine r_iload_n C dX4_put_13 rfl ?_
          refine d_V (st := [.ref (ba 0)]) hX.1.stb C hE (D_rowOf (ba := ba) (ra := ra) (hf := hf) (hq := (wrR hq (f 1 w) (f 3 w) k g0)) (kn := kn) (th := th) (sm := sm) (Y := Y) (f := f) (w := w) hX hC (MG.same (fun _ => rfl) (fun _ => rfl) hG) (by first | omega | (simp [up2, *]; done) | (simp [up2, *]; omega) | (simp only [up2_eq]; omega) | (split <;> omega)) (by first | omega | (simp [up2, *]; done) | (simp [up2, *]; omega) | (simp only [up2_eq]; omega) | (split <;> omega))) pk_X4_rowOf qm_X4_48 0 8 rfl rfl wm_0 rfl rfl (Nat.le_of_ble_eq_true rfl) dX4_put_14 ⟨(Nat.le_of_ble_eq_true rfl), (Nat.le_of_ble_eq_true rfl)⟩ ⟨(Nat.le_of_ble_eq_true rfl), (Nat.le_of_ble_eq_true rfl)⟩ ?_
          refine r_w (w' := WM cy ba ra hf (wrR hq (f 1 w) (f 3 w) k g0) kn th sm ++ Y) rfl ?_
          refine m_rows (i := f 1 w) C (by first | omega | (simp [up2, *]; done) | (simp [up2, *]; omega) | (simp only [up2_eq]; omega) | (split <;> omega)) dX4_put_17 ?_
          refine r_aload_n C dX4_put_18 rfl ?_
          refine r_iload_n C dX4_put_19 rfl ?_
          refine d_V (st := [.ref (ra (f 1 w))]) hX.1.stb C hE (D_begin (ba := ba) (ra := ra) (hf := hf) (hq := (wrR hq (f 1 w) (f 3 w) k g0)) (kn := kn) (th := th) (sm := sm) (Y := Y) (f := f) (w := w) hX hC (MG.same (fun _ => rfl) (fun _ => rfl) hG) (by first | omega | (simp [up2, *]; done) | (simp [up2, *]; omega) | (simp only [up2_eq]; omega) | (split <;> omega)) (by first | omega | (simp [up2, *]; done) | (simp [up2, *]; omega) | (simp only [up2_eq]; omega) | (split <;> omega))) pk_X4_begin qm_X4_52 0 8 rfl rfl wm_0 rfl rfl (Nat.le_of_ble_eq_true rfl) dX4_put_20 ⟨(Nat.le_of_ble_eq_true rfl), (Nat.le_of_ble_eq_true rfl)⟩ ⟨(Nat.le_of_ble_eq_true rfl), (Nat.le_of_ble_eq_true rfl)⟩ ?_
          refine r_w (w' := WM cy ba ra hf (wrR hq (f 1 w) (f 3 w) k g0) kn th sm ++ Y) rfl ?_
          refine r_iload_n C dX4_put_23 rfl ?_
          refine r_iaddN C dX4_put_24 ?_
          refine r_aload_n C dX4_put_25 rfl ?_
          refine r_iload_n C dX4_put_26 rfl ?_
          refine y_ald C (i := k) (f := g0) j0 hy (by first | omega | (simp [up2, *]; done) | (simp [up2, *]; omega) | (simp only [up2_eq]; omega) | (split <;> omega)) (by first | omega | (simp [up2, *]; done) | (simp [up2, *]; omega) | (simp only [up2_eq]; omega) | (split <;> omega)) dX4_put_27 ?_
          refine m_rst (i := f 1 w) (n := (f 3 w) + k) (x := (g0 k)) C (by first | omega | (simp [up2, *]; done) | (simp [up2, *]; omega) | (simp only [up2_eq]; omega) | (split <;> omega)) (by first | omega | (simp [up2, *]; done) | (simp [up2, *]; omega) | (simp only [up2_eq]; omega) | (split <;> omega)) (by first | omega | (simp [up2, *]; done) | (simp [up2, *]; omega) | (simp only [up2_eq]; omega) | (split <;> omega)) dX4_put_28 ?_
          refine r_iincN C dX4_put_29 rfl (by decide) rfl ?_
          refine r_goto (tgt := 2) C dX4_put_32 (by decide) ?_
          refine r_w (w' := WM cy ba ra hf (wrR hq (f 1 w) (f 3 w) (k + 1) g0) kn th sm ++ Y) (by rw [wrR_up rfl]) ?_
          exact (Nat.not_lt_zero _ (by omega)).elim
    | succ d ih_L2 =>
      intro k hk
      refine r_iload_n C dX4_put_2 rfl ?_
      refine r_aload_n C dX4_put_3 rfl ?_
      refine y_len C j0 hy dX4_put_4 ?_
      refine r_icN_ge (a := k) (b := n0) (tgt := 35) C (by first | omega | (simp [up2, *]; done) | (simp [up2, *]; omega) | (simp only [up2_eq]; omega) | (split <;> omega)) (by first | omega | (simp [up2, *]; done) | (simp [up2, *]; omega) | (simp only [up2_eq]; omega) | (split <;> omega)) dX4_put_5 (by decide) (fun h5_2 => ?_) (fun h5_2 => ?_)
      · first
        | exfalso; first | omega | contradiction
        | skip
          have e9 : n0 = k := by omega
          refine r_w (w' := WM cy ba ra hf (wrR hq (f 1 w) (f 3 w) n0 g0) kn th sm ++ Y) (by rw [e9]) ?_
          exact r_vret C hr dX4_put_35 ⟨rfl, rfl⟩ (Nat.le_of_ble_eq_true rfl) (Nat.le_of_ble_eq_true rfl)
      · first
        | exfalso; first | omega | contradiction
        | skip
          refine r_aload_n C dX4_put_8 rfl ?_
          refine m_get (v := .ref (ba 0)) C 0 (by decide) qf_X4_15 rfl rfl dX4_put_9 ?_
          refine r_aload_n C dX4_put_12 rfl ?_
          refine r_iload_n C dX4_put_13 rfl ?_
          refine d_V (st := [.ref (ba 0)]) hX.1.stb C hE (D_rowOf (ba := ba) (ra := ra) (hf := hf) (hq := (wrR hq (f 1 w) (f 3 w) k g0)) (kn := kn) (th := th) (sm := sm) (Y := Y) (f := f) (w := w) hX hC (MG.same (fun _ => rfl) (fun _ => rfl) hG) (by first | omega | (simp [up2, *]; done) | (simp [up2, *]; omega) | (simp only [up2_eq]; omega) | (split <;> omega)) (by first | omega | (simp [up2, *]; done) | (simp [up2, *]; omega) | (simp only [up2_eq]; omega) | (split <;> omega))) pk_X4_rowOf qm_X4_48 0 8 rfl rfl wm_0 rfl rfl (Nat.le_of_ble_eq_true rfl) dX4_put_14 ⟨(Nat.le_of_ble_eq_true rfl), (Nat.le_of_ble_eq_true rfl)⟩ ⟨(Nat.le_of_ble_eq_true rfl), (Nat.le_of_ble_eq_true rfl)⟩ ?_
          refine r_w (w' := WM cy ba ra hf (wrR hq (f 1 w) (f 3 w) k g0) kn th sm ++ Y) rfl ?_
          refine m_rows (i := f 1 w) C (by first | omega | (simp [up2, *]; done) | (simp [up2, *]; omega) | (simp only [up2_eq]; omega) | (split <;> omega)) dX4_put_17 ?_
          refine r_aload_n C dX4_put_18 rfl ?_
          refine r_iload_n C dX4_put_19 rfl ?_
          refine d_V (st := [.ref (ra (f 1 w))]) hX.1.stb C hE (D_begin (ba := ba) (ra := ra) (hf := hf) (hq := (wrR hq (f 1 w) (f 3 w) k g0)) (kn := kn) (th := th) (sm := sm) (Y := Y) (f := f) (w := w) hX hC (MG.same (fun _ => rfl) (fun _ => rfl) hG) (by first | omega | (simp [up2, *]; done) | (simp [up2, *]; omega) | (simp only [up2_eq]; omega) | (split <;> omega)) (by first | omega | (simp [up2, *]; done) | (simp [up2, *]; omega) | (simp only [up2_eq]; omega) | (split <;> omega))) pk_X4_begin qm_X4_52 0 8 rfl rfl wm_0 rfl rfl (Nat.le_of_ble_eq_true rfl) dX4_put_20 ⟨(Nat.le_of_ble_eq_true rfl), (Nat.le_of_ble_eq_true rfl)⟩ ⟨(Nat.le_of_ble_eq_true rfl), (Nat.le_of_ble_eq_true rfl)⟩ ?_
          refine r_w (w' := WM cy ba ra hf (wrR hq (f 1 w) (f 3 w) k g0) kn th sm ++ Y) rfl ?_
          refine r_iload_n C dX4_put_23 rfl ?_
          refine r_iaddN C dX4_put_24 ?_
          refine r_aload_n C dX4_put_25 rfl ?_
          refine r_iload_n C dX4_put_26 rfl ?_
          refine y_ald C (i := k) (f := g0) j0 hy (by first | omega | (simp [up2, *]; done) | (simp [up2, *]; omega) | (simp only [up2_eq]; omega) | (split <;> omega)) (by first | omega | (simp [up2, *]; done) | (simp [up2, *]; omega) | (simp only [up2_eq]; omega) | (split <;> omega)) dX4_put_27 ?_
          refine m_rst (i := f 1 w) (n := (f 3 w) + k) (x := (g0 k)) C (by first | omega | (simp [up2, *]; done) | (simp [up2, *]; omega) | (simp only [up2_eq]; omega) | (split <;> omega)) (by first | omega | (simp [up2, *]; done) | (simp [up2, *]; omega) | (simp only [up2_eq]; omega) | (split <;> omega)) (by first | omega | (simp [up2, *]; done) | (simp [up2, *]; omega) | (simp only [up2_eq]; omega) | (split <;> omega)) dX4_put_28 ?_
          refine r_iincN C dX4_put_29 rfl (by decide) rfl ?_
          refine r_goto (tgt := 2) C dX4_put_32 (by decide) ?_
          refine r_w (w' := WM cy ba ra hf (wrR hq (f 1 w) (f 3 w) (k + 1) g0) kn th sm ++ Y) (by rw [wrR_up rfl]) ?_
          exact ih_L2 (k + 1) (by first | omega | (simp [up2, *]; done) | (simp [up2, *]; omega) | (simp only [up2_eq]; omega) | (split <;> omega))
  exact L2 n0 0 (by first | omega | (simp [up2, *]; done) | (simp [up2, *]; omega) | (simp only [up2_eq]; omega) | (split <;> omega))
theorem pk_X4_changed : PkV RX4 yX4_changed cX4_changed 6 none 2 := ⟨⟨qi_X4_changed, qs_X4_changed, qz_X4, qc_X4_changed⟩, rfl, mh_X4.1, mh_X4.2, pd_2⟩
theorem dX4_become_0 : decode cX4_become 0 = .ok (.aload_n 0, 1) := dqo_42 (kb_of ke_X4_become 0 rfl)
theorem dX4_become_1 : decode cX4_become 1 = .ok (.iload_n 1, 1) := dqo_27 (kb_of ke_X4_become 1 rfl)
theorem dX4_become_2 : decode cX4_become 2 = .ok (.iconst (-1), 1) := dqo_2 (kb_of ke_X4_become 2 rfl)
theorem dX4_become_3 : decode cX4_become 3 = .ok (.invokevirtual 74, 3) := dqo_182 0 74 (kb_of ke_X4_become 3 rfl) (kb_of ke_X4_become 4 rfl) (kb_of ke_X4_become 5 rfl)
theorem dX4_become_6 : decode cX4_become 6 = .ok (.aload_n 0, 1) := dqo_42 (kb_of ke_X4_become 6 rfl)
theorem dX4_become_7 : decode cX4_become 7 = .ok (.getfield 15, 3) := dqo_180 0 15 (kb_of ke_X4_become 7 rfl) (kb_of ke_X4_become 8 rfl) (kb_of ke_X4_become 9 rfl)
theorem dX4_become_10 : decode cX4_become 10 = .ok (.iload_n 1, 1) := dqo_27 (kb_of ke_X4_become 10 rfl)
theorem dX4_become_11 : decode cX4_become 11 = .ok (.aload_n 2, 1) := dqo_44 (kb_of ke_X4_become 11 rfl)
theorem dX4_become_12 : decode cX4_become 12 = .ok (.aastore, 1) := dqo_83 (kb_of ke_X4_become 12 rfl)
theorem dX4_become_13 : decode cX4_become 13 = .ok (.return_, 1) := dqo_177 (kb_of ke_X4_become 13 rfl)
set_option maxRecDepth 100000 in
set_option maxHeartbeats 4000000 in
theorem D_become {l : Launch} {D : va_G} {cy : Nat → ClassId} {X : (Nat → Prop) → State → Heap → Prop} {ba ra : Nat → Nat} {hf : Nat → Nat → Nat} {hq : Nat → Nat → Int32} {kn th : Int32} {sm : Int64} {Y : va_W} {f : Nat → Nat → Nat} {i : Nat} {b0 : Nat} {n0 : Nat} {g0 : Nat → Int32} (hX : EnvM X cy) (hC : CInv f) (hG : MG f hf) (hi4 : i < 4) (h5M : ∀ w, 4 ≤ w → w < 8 → hf 5 w = f 5 w ∧ f 5 w ≤ 1) (h9a : ∀ k, k < 3 → hf 9 k ≤ 1) (hU : ∀ k, k < 3 → hf 9 k ≠ 0 → hf 6 k < 8 ∧ f 5 (hf 6 k) = 1) : Cd l D cy X yX4_become cX4_become 3 none (rmk 6 1 4 210) [.ref (ba 9), .int (nI i), .ref b0] (WM cy ba ra hf hq kn th sm ++ (Y ++ [(b0, .inl (cy 1, n0, .inl g0))])) none (WM cy ba (upR ra i b0) (up2 (chM f hf i 4294967295) 4 i n0) (upR hq i g0) kn th sm ++ (Y ++ [(ra i, .inl (cy 1, hf 4 i, .inl (hq i)))])) := by
  refine Cm.of [some (.ref (ba 9)), some (.int (nI i)), some (.ref b0)] pn_X4 rfl (Nat.le_of_ble_eq_true rfl) ?_
  intro p e s m args below meth c A C hE hr hnt hn
  refine r_aload_n C dX4_become_0 rfl ?_
  refine r_iload_n C dX4_become_1 rfl ?_
  refine r_iconst (v := (nI 4294967295)) C dX4_become_2 (by decide) ?_
  refine d_Vv (st := []) hX.1.stb C hE (D_changed (ba := ba) (ra := ra) (hf := hf) (hq := hq) (kn := kn) (th := th) (sm := sm) (f := f) (w := i) (d0 := 4294967295) hX hC (MG.same (fun _ => rfl) (fun _ => rfl) hG) (by first | omega | (simp [up2, *]; done) | (simp [up2, *]; omega) | (simp only [up2_eq]; omega) | (split <;> omega)) (hC.rw hi4).2.2.2.2.2 (by first | omega | (simp [up2, *]; done) | (simp [up2, *]; omega) | (simp only [up2_eq]; omega) | (split <;> omega)) h5M h9a hU) pk_X4_changed qm_X4_74 0 8 rfl rfl wm_0 rfl rfl (Nat.le_of_ble_eq_true rfl) dX4_become_3 ⟨(Nat.le_of_ble_eq_true rfl), (Nat.le_of_ble_eq_true rfl)⟩ ⟨(Nat.le_of_ble_eq_true rfl), (Nat.le_of_ble_eq_true rfl)⟩ ?_
  refine r_w (w' := WM cy ba ra (chM f hf i 4294967295) hq kn th sm ++ (Y ++ [(b0, .inl (cy 1, n0, .inl g0))])) rfl ?_
  refine r_aload_n C dX4_become_6 rfl ?_
  refine m_get (v := .ref (ba 0)) C 0 (by decide) qf_X4_15 rfl rfl dX4_become_7 ?_
  refine r_iload_n C dX4_become_10 rfl ?_
  refine r_aload_n C dX4_become_11 rfl ?_
  refine m_swapRow hX C hE (i := i) (f := g0) 0 rfl (by first | omega | (simp [up2, *]; done) | (simp [up2, *]; omega) | (simp only [up2_eq]; omega) | (split <;> omega)) dX4_become_12 ?_
  refine r_w (w' := WM cy ba (upR ra i b0) (up2 (chM f hf i 4294967295) 4 i n0) (upR hq i g0) kn th sm ++ (Y ++ [(ra i, .inl (cy 1, hf 4 i, .inl (hq i)))])) rfl ?_
  exact r_vret C hr dX4_become_13 ⟨rfl, rfl⟩ (Nat.le_of_ble_eq_true rfl) (Nat.le_of_ble_eq_true rfl)
end PT_41
/-! ===== 42.mpure4 -/
section PT_42
/-! what the model's calls compute -/
/-- 1 of what is no item -/
noncomputable def niF (y : Int32) : Nat := if y < nI 4294967197 then 1 else if nI 99 < y then 1 else 0
theorem niF_ok {y : Int32} (h : okI y) : niF y = 0 := by
  unfold niF
  rw [if_neg h.1, if_neg h.2]
theorem niF_no {y : Int32} (h : ¬ okI y) : niF y = 1 := by
  unfold niF
  split
  · rfl
  · split
    · rfl
    · exact absurd ⟨by assumption, by assumption⟩ h
theorem niF_le (y : Int32) : niF y ≤ 1 := by
  unfold niF
  split
  · omega
  · split <;> omega
def fuF (n : Nat) : Nat := if n = 12 then 1 else 0
theorem fuF_le (n : Nat) : fuF n ≤ 1 := by
  unfold fuF
  split <;> omega
/-- the remainder twice -/
theorem mm_val {x : Int32} {n : Nat} (h0 : 0 < n) (hn : n < 1000000) : (x - x / nI n * nI n) + nI n - ((x - x / nI n * nI n) + nI n) / nI n * nI n = nI (shN x n) := by
  have hnI : (nI n).toInt = (n : Int) := nI_toInt (by omega)
  have hrt := rem_toInt x (nI n)
  rw [hnI] at hrt
  obtain ⟨t, ht⟩ : ∃ t, t = x - x / nI n * nI n := ⟨_, rfl⟩
  rw [← ht] at hrt ⊢
  have hfm := fm_mod (show (0 : Int) < n by omega) hrt
  have hb := tmod_bounds (a := x.toInt) (show (0 : Int) < n by omega)
  rw [← hrt] at hb
  have hz : (t + nI n).toInt = t.toInt + n := by
    rw [Int32.toInt_add, hnI]
    exact Int.bmod_eq_of_le (by omega) (by omega)
  have hr2 := rem_toInt (t + nI n) (nI n)
  rw [hnI, hz] at hr2
  refine fm_val h0 (by omega) ?_
  rw [hr2, Int.tmod_eq_emod_of_nonneg (by omega), hfm, Int.add_emod_right]
  split
  · have : t.toInt % (n : Int) = (t.toInt + n) % (n : Int) := (Int.add_emod_right _ _).symm
    rw [this]
    exact Int.emod_eq_of_lt (by omega) (by omega)
  · exact Int.emod_eq_of_lt (by omega) (by omega)
/-- one more behind the first c -/
def lgF (A : Nat → Int32) (c : Nat) (x : Int32) : Nat → Int32 := upd (cutF A c) c x
/-- those of d items from k on of which P tells b, behind the c of A: how many, and they -/
def siA (P : Int32 → Nat) (b : Nat) (g : Nat → Int32) : Nat → Nat → Nat → (Nat → Int32) → (Nat → Int32)
  | 0, _, _, A => A
  | d + 1, k, c, A => if P (g k) = b then siA P b g d (k + 1) (c + 1) (lgF A c (g k)) else siA P b g d (k + 1) c A
/-- the first k of g by v, the others as they are -/
def thT (v : Nat → Int32) (g : Nat → Int32) (k : Nat) : Nat → Int32 := fun j => if j < k then v j else g j
theorem thT_0 (v g : Nat → Int32) : thT v g 0 = g := by
  funext j
  unfold thT
  rw [if_neg (by omega)]
theorem thT_up {v g : Nat → Int32} {k : Nat} {x : Int32} (h : x = v k) : upd (thT v g k) k x = thT v g (k + 1) := by
  subst h
  funext j
  unfold upd thT
  by_cases hj : j = k
  · subst hj
    rw [if_pos rfl, if_pos (by omega)]
  · rw [if_neg hj]
    by_cases h1 : j < k
    · rw [if_pos h1, if_pos (by omega)]
    · rw [if_neg h1, if_neg (by omega)]
theorem thT_at {v g : Nat → Int32} {k : Nat} : thT v g k k = g k := if_neg (by omega)
theorem thT_hi {v g : Nat → Int32} {k j : Nat} (h : k ≤ j) : thT v g k j = g j := if_neg (by omega)
/-- the item at e of A at the place n, those from there on one up -/
def insA (A : Nat → Int32) (e n : Nat) : Nat → Int32 := fun q => if q = n then A e else if n < q ∧ q ≤ e then A (q - 1) else A q
theorem insA_0 (A : Nat → Int32) (e : Nat) : insA A e e = A := by
  funext q
  unfold insA
  by_cases h : q = e
  · rw [if_pos h, h]
  · rw [if_neg h, if_neg (by omega)]
theorem insA_me {A : Nat → Int32} {e n : Nat} : insA A e n n = A e := if_pos rfl
theorem insA_lo {A : Nat → Int32} {e n q : Nat} (h : q < n) : insA A e n q = A q := by
  unfold insA
  rw [if_neg (by omega), if_neg (by omega)]
theorem insA_step {A : Nat → Int32} {e n : Nat} (h : n + 1 ≤ e) : upd (upd (insA A e (n + 1)) (n + 1) (A n)) n (A e) = insA A e n := by
  funext q
  unfold upd insA
  by_cases h1 : q = n
  · rw [if_pos h1, if_pos h1]
  · rw [if_neg h1, if_neg h1]
    by_cases h2 : q = n + 1
    · rw [if_pos h2, if_pos (by omega), h2]
      rfl
    · rw [if_neg h2, if_neg h2]
      by_cases h3 : n + 1 < q ∧ q ≤ e
      · rw [if_pos h3, if_pos (by omega)]
      · rw [if_neg h3, if_neg (by omega)]
/-- 1 if x has to stand ahead of y -/
def ahF (b : Nat) (x y : Int32) : Nat := if rkF b x < rkF b y then 1 else 0
theorem ahF_le (b : Nat) (x y : Int32) : ahF b x y ≤ 1 := by
  unfold ahF
  split <;> omega
/-- the item at e laid in; then the next d ones -/
def soA (b : Nat) : Nat → Nat → (Nat → Int32) → (Nat → Int32)
  | 0, _, A => A
  | d + 1, e, A => soA b d (e + 1) (insA A e (inP A b (A e) e))
theorem soA_ib {b : Nat} {A : Nat → Int32} (hA : ∀ j, IB (A j)) (e n : Nat) : ∀ j, IB (insA A e n j) := fun j => by
  unfold insA
  split
  · exact hA _
  · split
    · exact hA _
    · exact hA _
theorem neg_lt {x y : Int32} (hx : IB x) (hy : IB y) : -x < -y ↔ y < x := by
  have e : ∀ z : Int32, IB z → (-z).toInt = -z.toInt := fun z hz => by
    rw [Int32.toInt_neg]
    have h1 := hz.1
    have h2 := hz.2
    exact Int.bmod_eq_of_le (by omega) (by omega)
  rw [Int32.lt_iff_toInt_lt, Int32.lt_iff_toInt_lt, e x hx, e y hy]
  omega
theorem sh_lt {x y : Int32} : nI (shN x 10) < nI (shN y 10) ↔ shN x 10 < shN y 10 := by
  have h1 := shN_lt x (n := 10) (by decide)
  have h2 := shN_lt y (n := 10) (by decide)
  rw [Int32.lt_iff_toInt_lt, nI_toInt (by omega), nI_toInt (by omega)]
  omega
section MRF
variable {f hf : Nat → Nat → Nat} {r hq : Nat → Nat → Int32}
theorem MR.h5M (hM : MR f r hf hq) (hC : CInv f) : ∀ w, 4 ≤ w → w < 8 → hf 5 w = f 5 w ∧ f 5 w ≤ 1 := fun w a b => ⟨(hM.2.2.1 w a b).1, hC.h5 w b⟩
theorem CInv.h4M (hC : CInv f) : ∀ w, w < 4 → f 5 w = 1 := fun _ a => (hC.rw a).2.2.2.2.2
theorem MR.h9a (hM : MR f r hf hq) (hC : CInv f) : ∀ k, k < 3 → hf 9 k ≤ 1 := fun k a => by
  rw [(hM.2.2.2 k a).1]
  exact (hC.cu a).2.1
theorem MR.h6a (hM : MR f r hf hq) : ∀ k, k < 3 → hf 6 k < 8 := fun k a => (hM.2.2.2 k a).2.1
theorem MR.hU (hM : MR f r hf hq) (hC : CInv f) : ∀ k, k < 3 → hf 9 k ≠ 0 → hf 6 k < 8 ∧ f 5 (hf 6 k) = 1 := fun k a h => by
  have h1 := hM.2.2.2 k a
  have h2 := hC.cu a
  rw [h1.1] at h
  have h3 := h2.2.2 (by omega)
  have h4 := h1.2.2 (by omega)
  rw [h4.1]
  exact ⟨h2.1, h3.1⟩
theorem MR.ho (hM : MR f r hf hq) (hC : CInv f) {w x : Nat} (hw : w < 8) (h5w : f 5 w = 1) (hx : x < 8) (hh : hol f x w ≠ 0) : f 4 w ≤ hf 4 x ∧ hf 4 x = f 4 x ∧ f 4 x ≤ 12 := by
  have h1 := hC.ho hw h5w hh
  have h2 := hM.wh hC hx h1.2.1
  have h3 := hC.th hx h1.2.1
  omega
theorem MR.cu (hM : MR f r hf hq) (hC : CInv f) {k : Nat} (hk : k < 3) : hf 9 k = f 9 k ∧ f 9 k ≤ 1 ∧ hf 6 k < 8 ∧ (f 9 k = 1 → hf 6 k = f 6 k ∧ hf 7 k = f 7 k ∧ hf 8 k = f 8 k ∧ f 6 k < 8 ∧ f 5 (f 6 k) = 1 ∧ f 7 k ≤ f 4 (f 6 k) ∧ (f 8 k = 4294967295 ∨ f 8 k < f 4 (f 6 k))) := by
  have h1 := hM.2.2.2 k hk
  have h2 := hC.cu hk
  refine ⟨h1.1, h2.2.1, h1.2.1, fun h => ?_⟩
  have h3 := h1.2.2 h
  have h4 := h2.2.2 h
  exact ⟨h3.1, h3.2.1, h3.2.2, h2.1, h4.1, h4.2.1, h4.2.2⟩
end MRF
end PT_42
