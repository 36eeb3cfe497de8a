/-! CONTRACTS of the model: items, windows that go -/
theorem dX4_sizeOf_0 : decode cX4_sizeOf 0 = .ok (.iload_n 1, 1) := dqo_27 (kb_of ke_X4_sizeOf 0 rfl)
theorem dX4_sizeOf_1 : decode cX4_sizeOf 1 = .ok (.iconst 4, 1) := dqo_7 (kb_of ke_X4_sizeOf 1 rfl)
theorem dX4_sizeOf_2 : decode cX4_sizeOf 2 = .ok (.if_icmp .ge 13, 3) := dqo_162 0 13 (by decide) (kb_of ke_X4_sizeOf 2 rfl) (kb_of ke_X4_sizeOf 3 rfl) (kb_of ke_X4_sizeOf 4 rfl)
theorem dX4_sizeOf_5 : decode cX4_sizeOf 5 = .ok (.aload_n 0, 1) := dqo_42 (kb_of ke_X4_sizeOf 5 rfl)
theorem dX4_sizeOf_6 : decode cX4_sizeOf 6 = .ok (.getfield 15, 3) := dqo_180 0 15 (kb_of ke_X4_sizeOf 6 rfl) (kb_of ke_X4_sizeOf 7 rfl) (kb_of ke_X4_sizeOf 8 rfl)
theorem dX4_sizeOf_9 : decode cX4_sizeOf 9 = .ok (.iload_n 1, 1) := dqo_27 (kb_of ke_X4_sizeOf 9 rfl)
theorem dX4_sizeOf_10 : decode cX4_sizeOf 10 = .ok (.aaload, 1) := dqo_50 (kb_of ke_X4_sizeOf 10 rfl)
theorem dX4_sizeOf_11 : decode cX4_sizeOf 11 = .ok (.arraylength, 1) := dqo_190 (kb_of ke_X4_sizeOf 11 rfl)
theorem dX4_sizeOf_12 : decode cX4_sizeOf 12 = .ok (.goto 11, 3) := dqo_167 0 11 (by decide) (kb_of ke_X4_sizeOf 12 rfl) (kb_of ke_X4_sizeOf 13 rfl) (kb_of ke_X4_sizeOf 14 rfl)
theorem dX4_sizeOf_15 : decode cX4_sizeOf 15 = .ok (.aload_n 0, 1) := dqo_42 (kb_of ke_X4_sizeOf 15 rfl)
theorem dX4_sizeOf_16 : decode cX4_sizeOf 16 = .ok (.getfield 29, 3) := dqo_180 0 29 (kb_of ke_X4_sizeOf 16 rfl) (kb_of ke_X4_sizeOf 17 rfl) (kb_of ke_X4_sizeOf 18 rfl)
theorem dX4_sizeOf_19 : decode cX4_sizeOf 19 = .ok (.iload_n 1, 1) := dqo_27 (kb_of ke_X4_sizeOf 19 rfl)
theorem dX4_sizeOf_20 : decode cX4_sizeOf 20 = .ok (.iconst 4, 1) := dqo_7 (kb_of ke_X4_sizeOf 20 rfl)
theorem dX4_sizeOf_21 : decode cX4_sizeOf 21 = .ok (.isub, 1) := dqo_100 (kb_of ke_X4_sizeOf 21 rfl)
theorem dX4_sizeOf_22 : decode cX4_sizeOf 22 = .ok (.iaload, 1) := dqo_46 (kb_of ke_X4_sizeOf 22 rfl)
theorem dX4_sizeOf_23 : decode cX4_sizeOf 23 = .ok (.ireturn, 1) := dqo_172 (kb_of ke_X4_sizeOf 23 rfl)
set_option maxRecDepth 100000 in
set_option maxHeartbeats 4000000 in
theorem D_sizeOf {l : Launch} {D : va_G} {cy : Nat → ClassId} {X : (Nat → Prop) → State → Heap → Prop} {ba ra : Nat → Nat} {hf : Nat → Nat → Nat} {hq : Nat → Nat → Int32} {kn th : Int32} {sm : Int64} {Y : va_W} {w : Nat} (hX : EnvM X cy) (hw : w < 8) : Cd l D cy X yX4_sizeOf cX4_sizeOf 2 (some .int) (rmz 0 0) [.ref (ba 9), .int (nI w)] (WM cy ba ra hf hq kn th sm ++ Y) (some (.int (nI (hf 4 w)))) (WM cy ba ra hf hq kn th sm ++ Y) := by
  refine Cm.of [some (.ref (ba 9)), some (.int (nI w))] pn_X4 rfl (Nat.le_of_ble_eq_true rfl) ?_
  intro p e s m args below meth c A C hE hr hnt hn
  refine r_iload_n C dX4_sizeOf_0 rfl ?_
  refine r_iconst (v := (nI 4)) C dX4_sizeOf_1 (by decide) ?_
  refine r_icN_ge (a := w) (b := 4) (tgt := 15) C (by first | omega | (simp [up2, *]; done) | (simp [up2, *]; omega) | (simp only [up2_eq]; omega) | (split <;> omega)) (by first | omega | (simp [up2, *]; done) | (simp [up2, *]; omega) | (simp only [up2_eq]; omega) | (split <;> omega)) dX4_sizeOf_2 (by decide) (fun h2_1 => ?_) (fun h2_1 => ?_)
  · first
    | exfalso; first | omega | contradiction
    | skip
      refine r_aload_n C dX4_sizeOf_15 rfl ?_
      refine m_get (v := .ref (ba 4)) C 4 (by decide) qf_X4_29 rfl rfl dX4_sizeOf_16 ?_
      refine r_iload_n C dX4_sizeOf_19 rfl ?_
      refine r_iconst (v := (nI 4)) C dX4_sizeOf_20 (by decide) ?_
      refine r_isubN C dX4_sizeOf_21 (by first | omega | (simp [up2, *]; done) | (simp [up2, *]; omega) | (simp only [up2_eq]; omega) | (split <;> omega)) ?_
      refine m_ald (i := w - 4) (z := w) (v := hf 4 w) C 3 (by decide) (by decide) (show w - 4 < 4 from (by first | omega | (simp [up2, *]; done) | (simp [up2, *]; omega) | (simp only [up2_eq]; omega) | (split <;> omega))) (show 4 + (w - 4) = w from (by omega)) rfl dX4_sizeOf_22 ?_
      exact r_iret C hr dX4_sizeOf_23 ⟨rfl, rfl⟩ (Nat.le_of_ble_eq_true rfl) (Nat.le_of_ble_eq_true rfl)
  · first
    | exfalso; first | omega | contradiction
    | skip
      refine r_aload_n C dX4_sizeOf_5 rfl ?_
      refine m_get (v := .ref (ba 0)) C 0 (by decide) qf_X4_15 rfl rfl dX4_sizeOf_6 ?_
      refine r_iload_n C dX4_sizeOf_9 rfl ?_
      refine m_rows (i := w) C (by first | omega | (simp [up2, *]; done) | (simp [up2, *]; omega) | (simp only [up2_eq]; omega) | (split <;> omega)) dX4_sizeOf_10 ?_
      refine m_rlen (i := w) (v := hf 4 w) C (by first | omega | (simp [up2, *]; done) | (simp [up2, *]; omega) | (simp only [up2_eq]; omega) | (split <;> omega)) rfl dX4_sizeOf_11 ?_
      refine r_goto (tgt := 23) C dX4_sizeOf_12 (by decide) ?_
      exact r_iret C hr dX4_sizeOf_23 ⟨rfl, rfl⟩ (Nat.le_of_ble_eq_true rfl) (Nat.le_of_ble_eq_true rfl)
theorem dX4_item_0 : decode cX4_item 0 = .ok (.aload_n 0, 1) := dqo_42 (kb_of ke_X4_item 0 rfl)
theorem dX4_item_1 : decode cX4_item 1 = .ok (.getfield 15, 3) := dqo_180 0 15 (kb_of ke_X4_item 1 rfl) (kb_of ke_X4_item 2 rfl) (kb_of ke_X4_item 3 rfl)
theorem dX4_item_4 : decode cX4_item 4 = .ok (.aload_n 0, 1) := dqo_42 (kb_of ke_X4_item 4 rfl)
theorem dX4_item_5 : decode cX4_item 5 = .ok (.iload_n 1, 1) := dqo_27 (kb_of ke_X4_item 5 rfl)
theorem dX4_item_6 : decode cX4_item 6 = .ok (.invokevirtual 48, 3) := dqo_182 0 48 (kb_of ke_X4_item 6 rfl) (kb_of ke_X4_item 7 rfl) (kb_of ke_X4_item 8 rfl)
theorem dX4_item_9 : decode cX4_item 9 = .ok (.aaload, 1) := dqo_50 (kb_of ke_X4_item 9 rfl)
theorem dX4_item_10 : decode cX4_item 10 = .ok (.aload_n 0, 1) := dqo_42 (kb_of ke_X4_item 10 rfl)
theorem dX4_item_11 : decode cX4_item 11 = .ok (.iload_n 1, 1) := dqo_27 (kb_of ke_X4_item 11 rfl)
theorem dX4_item_12 : decode cX4_item 12 = .ok (.invokevirtual 52, 3) := dqo_182 0 52 (kb_of ke_X4_item 12 rfl) (kb_of ke_X4_item 13 rfl) (kb_of ke_X4_item 14 rfl)
theorem dX4_item_15 : decode cX4_item 15 = .ok (.iload_n 2, 1) := dqo_28 (kb_of ke_X4_item 15 rfl)
theorem dX4_item_16 : decode cX4_item 16 = .ok (.iadd, 1) := dqo_96 (kb_of ke_X4_item 16 rfl)
theorem dX4_item_17 : decode cX4_item 17 = .ok (.iaload, 1) := dqo_46 (kb_of ke_X4_item 17 rfl)
theorem dX4_item_18 : decode cX4_item 18 = .ok (.ireturn, 1) := dqo_172 (kb_of ke_X4_item 18 rfl)
set_option maxRecDepth 100000 in
set_option maxHeartbeats 4000000 in
theorem D_item {l : Launch} {D : va_G} {cy : Nat → ClassId} {X : (Nat → Prop) → State → Heap → Prop} {ba ra : Nat → Nat} {hf : Nat → Nat → Nat} {hq : Nat → Nat → Int32} {kn th : Int32} {sm : Int64} {Y : va_W} {f : Nat → Nat → Nat} {w : Nat} {k : Nat} (hX : EnvM X cy) (hC : CInv f) (hG : MG f hf) (hw : w < 8) (h5w : f 5 w = 1) (hk : f 3 w + k < hf 4 (f 1 w)) (h12 : hf 4 (f 1 w) ≤ 12) : Cd l D cy X yX4_item cX4_item 3 (some .int) (rmz 5 160) [.ref (ba 9), .int (nI w), .int (nI k)] (WM cy ba ra hf hq kn th sm ++ Y) (some (.int (hq (f 1 w) (f 3 w + k)))) (WM cy ba ra hf hq kn th sm ++ Y) := by
  have q1 := hC.al hw
  refine Cm.of [some (.ref (ba 9)), some (.int (nI w)), some (.int (nI k))] pn_X4 rfl (Nat.le_of_ble_eq_true rfl) ?_
  intro p e s m args below meth c A C hE hr hnt hn
  refine r_aload_n C dX4_item_0 rfl ?_
  refine m_get (v := .ref (ba 0)) C 0 (by decide) qf_X4_15 rfl rfl dX4_item_1 ?_
  refine r_aload_n C dX4_item_4 rfl ?_
  refine r_iload_n C dX4_item_5 rfl ?_
  refine d_V (st := [.ref (ba 0)]) hX.1.stb C hE (D_rowOf (ba := ba) (ra := ra) (hf := hf) (hq := hq) (kn := kn) (th := th) (sm := sm) (Y := Y) (f := f) (w := w) hX hC (MG.same (fun _ => rfl) (fun _ => rfl) hG) (by first | omega | (simp [up2, *]; done) | (simp [up2, *]; omega) | (simp only [up2_eq]; omega) | (split <;> omega)) (by first | omega | (simp [up2, *]; done) | (simp [up2, *]; omega) | (simp only [up2_eq]; omega) | (split <;> omega))) pk_X4_rowOf qm_X4_48 0 8 rfl rfl wm_0 rfl rfl (Nat.le_of_ble_eq_true rfl) dX4_item_6 ⟨(Nat.le_of_ble_eq_true rfl), (Nat.le_of_ble_eq_true rfl)⟩ ⟨(Nat.le_of_ble_eq_true rfl), (Nat.le_of_ble_eq_true rfl)⟩ ?_
  refine r_w (w' := WM cy ba ra hf hq kn th sm ++ Y) rfl ?_
  refine m_rows (i := f 1 w) C (by first | omega | (simp [up2, *]; done) | (simp [up2, *]; omega) | (simp only [up2_eq]; omega) | (split <;> omega)) dX4_item_9 ?_
  refine r_aload_n C dX4_item_10 rfl ?_
  refine r_iload_n C dX4_item_11 rfl ?_
  refine d_V (st := [.ref (ra (f 1 w))]) hX.1.stb C hE (D_begin (ba := ba) (ra := ra) (hf := hf) (hq := hq) (kn := kn) (th := th) (sm := sm) (Y := Y) (f := f) (w := w) hX hC (MG.same (fun _ => rfl) (fun _ => rfl) hG) (by first | omega | (simp [up2, *]; done) | (simp [up2, *]; omega) | (simp only [up2_eq]; omega) | (split <;> omega)) (by first | omega | (simp [up2, *]; done) | (simp [up2, *]; omega) | (simp only [up2_eq]; omega) | (split <;> omega))) pk_X4_begin qm_X4_52 0 8 rfl rfl wm_0 rfl rfl (Nat.le_of_ble_eq_true rfl) dX4_item_12 ⟨(Nat.le_of_ble_eq_true rfl), (Nat.le_of_ble_eq_true rfl)⟩ ⟨(Nat.le_of_ble_eq_true rfl), (Nat.le_of_ble_eq_true rfl)⟩ ?_
  refine r_w (w' := WM cy ba ra hf hq kn th sm ++ Y) rfl ?_
  refine r_iload_n C dX4_item_15 rfl ?_
  refine r_iaddN C dX4_item_16 ?_
  refine m_rld (i := f 1 w) (n := (f 3 w) + k) C (by first | omega | (simp [up2, *]; done) | (simp [up2, *]; omega) | (simp only [up2_eq]; omega) | (split <;> omega)) (by first | omega | (simp [up2, *]; done) | (simp [up2, *]; omega) | (simp only [up2_eq]; omega) | (split <;> omega)) (by first | omega | (simp [up2, *]; done) | (simp [up2, *]; omega) | (simp only [up2_eq]; omega) | (split <;> omega)) dX4_item_17 ?_
  exact r_iret C hr dX4_item_18 ⟨rfl, rfl⟩ (Nat.le_of_ble_eq_true rfl) (Nat.le_of_ble_eq_true rfl)
theorem pk_X4_isNoWhere : PkV RX4 yX4_isNoWhere cX4_isNoWhere 2 (some .boolean) 1 := ⟨⟨qi_X4_isNoWhere, qs_X4_isNoWhere, qz_X4, qc_X4_isNoWhere⟩, rfl, mh_X4.1, mh_X4.2, pd_8⟩
theorem dX4_isNoPlace_0 : decode cX4_isNoPlace 0 = .ok (.aload_n 0, 1) := dqo_42 (kb_of ke_X4_isNoPlace 0 rfl)
theorem dX4_isNoPlace_1 : decode cX4_isNoPlace 1 = .ok (.iload_n 1, 1) := dqo_27 (kb_of ke_X4_isNoPlace 1 rfl)
theorem dX4_isNoPlace_2 : decode cX4_isNoPlace 2 = .ok (.invokevirtual 55, 3) := dqo_182 0 55 (kb_of ke_X4_isNoPlace 2 rfl) (kb_of ke_X4_isNoPlace 3 rfl) (kb_of ke_X4_isNoPlace 4 rfl)
theorem dX4_isNoPlace_5 : decode cX4_isNoPlace 5 = .ok (.ifCond .ne 18, 3) := dqo_154 0 18 (by decide) (kb_of ke_X4_isNoPlace 5 rfl) (kb_of ke_X4_isNoPlace 6 rfl) (kb_of ke_X4_isNoPlace 7 rfl)
theorem dX4_isNoPlace_23 : decode cX4_isNoPlace 23 = .ok (.iconst 1, 1) := dqo_4 (kb_of ke_X4_isNoPlace 23 rfl)
theorem dX4_isNoPlace_24 : decode cX4_isNoPlace 24 = .ok (.goto 4, 3) := dqo_167 0 4 (by decide) (kb_of ke_X4_isNoPlace 24 rfl) (kb_of ke_X4_isNoPlace 25 rfl) (kb_of ke_X4_isNoPlace 26 rfl)
theorem dX4_isNoPlace_28 : decode cX4_isNoPlace 28 = .ok (.ireturn, 1) := dqo_172 (kb_of ke_X4_isNoPlace 28 rfl)
set_option maxRecDepth 100000 in
set_option maxHeartbeats 4000000 in
theorem D_isNoPlace1w {l : Launch} {D : va_G} {cy : Nat → ClassId} {X : (Nat → Prop) → State → Heap → Prop} {ba ra : Nat → Nat} {hf : Nat → Nat → Nat} {hq : Nat → Nat → Int32} {kn th : Int32} {sm : Int64} {Y : va_W} {f : Nat → Nat → Nat} {x : Int32} {y : Int32} (hX : EnvM X cy) (h5M : ∀ w, 4 ≤ w → w < 8 → hf 5 w = f 5 w ∧ f 5 w ≤ 1) (h4M : ∀ w, w < 4 → f 5 w = 1) (hno : noW f x) : Cd l D cy X yX4_isNoPlace cX4_isNoPlace 3 (some .boolean) (rmz 2 60) [.ref (ba 9), .int x, .int y] (WM cy ba ra hf hq kn th sm ++ Y) (some (.int (nI 1))) (WM cy ba ra hf hq kn th sm ++ Y) := by
  refine Cm.of [some (.ref (ba 9)), some (.int x), some (.int y)] pn_X4 rfl (Nat.le_of_ble_eq_true rfl) ?_
  intro p e s m args below meth c A C hE hr hnt hn
  refine r_aload_n C dX4_isNoPlace_0 rfl ?_
  refine r_iload_n C dX4_isNoPlace_1 rfl ?_
  refine d_V (st := []) hX.1.stb C hE (D_isNoWhere1 (ba := ba) (ra := ra) (hf := hf) (hq := hq) (kn := kn) (th := th) (sm := sm) (Y := Y) (f := f) (x := (x)) hX h5M h4M hno) pk_X4_isNoWhere qm_X4_55 0 8 rfl rfl wm_0 rfl rfl (Nat.le_of_ble_eq_true rfl) dX4_isNoPlace_2 ⟨(Nat.le_of_ble_eq_true rfl), (Nat.le_of_ble_eq_true rfl)⟩ ⟨(Nat.le_of_ble_eq_true rfl), (Nat.le_of_ble_eq_true rfl)⟩ ?_
  refine r_w (w' := WM cy ba ra hf hq kn th sm ++ Y) rfl ?_
  refine r_ifN_ne (a := 1) (tgt := 23) C (by first | omega | (simp [up2, *]; done) | (simp [up2, *]; omega) | (simp only [up2_eq]; omega) | (split <;> omega)) dX4_isNoPlace_5 (by decide) (fun h5_1 => ?_) (fun h5_1 => ?_)
  · skip
    refine r_iconst (v := (nI 1)) C dX4_isNoPlace_23 (by decide) ?_
    refine r_goto (tgt := 28) C dX4_isNoPlace_24 (by decide) ?_
    exact r_zret C hr (by first | omega | (simp [up2, *]; done) | (simp [up2, *]; omega) | (simp only [up2_eq]; omega) | (split <;> omega)) dX4_isNoPlace_28 ⟨rfl, rfl⟩ (Nat.le_of_ble_eq_true rfl) (Nat.le_of_ble_eq_true rfl)
  · exact absurd h5_1 (by first | omega | (simp [up2, *]; done) | (simp [up2, *]; omega) | (simp only [up2_eq]; omega) | (split <;> omega))
theorem pk_X4_sizeOf : PkV RX4 yX4_sizeOf cX4_sizeOf 2 (some .int) 1 := ⟨⟨qi_X4_sizeOf, qs_X4_sizeOf, qz_X4, qc_X4_sizeOf⟩, rfl, mh_X4.1, mh_X4.2, pd_1⟩
theorem dX4_isNoPlace_8 : decode cX4_isNoPlace 8 = .ok (.iload_n 2, 1) := dqo_28 (kb_of ke_X4_isNoPlace 8 rfl)
theorem dX4_isNoPlace_9 : decode cX4_isNoPlace 9 = .ok (.iconst 0, 1) := dqo_3 (kb_of ke_X4_isNoPlace 9 rfl)
theorem dX4_isNoPlace_10 : decode cX4_isNoPlace 10 = .ok (.aload_n 0, 1) := dqo_42 (kb_of ke_X4_isNoPlace 10 rfl)
theorem dX4_isNoPlace_11 : decode cX4_isNoPlace 11 = .ok (.iload_n 1, 1) := dqo_27 (kb_of ke_X4_isNoPlace 11 rfl)
theorem dX4_isNoPlace_12 : decode cX4_isNoPlace 12 = .ok (.invokevirtual 59, 3) := dqo_182 0 59 (kb_of ke_X4_isNoPlace 12 rfl) (kb_of ke_X4_isNoPlace 13 rfl) (kb_of ke_X4_isNoPlace 14 rfl)
theorem dX4_isNoPlace_15 : decode cX4_isNoPlace 15 = .ok (.iconst 1, 1) := dqo_4 (kb_of ke_X4_isNoPlace 15 rfl)
theorem dX4_isNoPlace_16 : decode cX4_isNoPlace 16 = .ok (.isub, 1) := dqo_100 (kb_of ke_X4_isNoPlace 16 rfl)
theorem dX4_isNoPlace_17 : decode cX4_isNoPlace 17 = .ok (.invokestatic 1, 3) := dqo_184 0 1 (kb_of ke_X4_isNoPlace 17 rfl) (kb_of ke_X4_isNoPlace 18 rfl) (kb_of ke_X4_isNoPlace 19 rfl)
theorem dX4_isNoPlace_20 : decode cX4_isNoPlace 20 = .ok (.ifCond .ne 7, 3) := dqo_154 0 7 (by decide) (kb_of ke_X4_isNoPlace 20 rfl) (kb_of ke_X4_isNoPlace 21 rfl) (kb_of ke_X4_isNoPlace 22 rfl)
set_option maxRecDepth 100000 in
set_option maxHeartbeats 4000000 in
theorem D_isNoPlace1 {l : Launch} {D : va_G} {cy : Nat → ClassId} {X : (Nat → Prop) → State → Heap → Prop} {ba ra : Nat → Nat} {hf : Nat → Nat → Nat} {hq : Nat → Nat → Int32} {kn th : Int32} {sm : Int64} {Y : va_W} {w : Nat} {y : Int32} (hX : EnvM X cy) (hw : w < 8) (hv5 : 4 ≤ w → hf 5 w = 1) (hs12 : hf 4 w ≤ 12) (hno : ¬ (0 ≤ y ∧ y < nI (hf 4 w))) : Cd l D cy X yX4_isNoPlace cX4_isNoPlace 3 (some .boolean) (rmz 2 60) [.ref (ba 9), .int (nI w), .int y] (WM cy ba ra hf hq kn th sm ++ Y) (some (.int (nI 1))) (WM cy ba ra hf hq kn th sm ++ Y) := by
  refine Cm.of [some (.ref (ba 9)), some (.int (nI w)), some (.int y)] pn_X4 rfl (Nat.le_of_ble_eq_true rfl) ?_
  intro p e s m args below meth c A C hE hr hnt hn
  refine r_aload_n C dX4_isNoPlace_0 rfl ?_
  refine r_iload_n C dX4_isNoPlace_1 rfl ?_
  refine d_V (st := []) hX.1.stb C hE (D_isNoWhere0 (ba := ba) (ra := ra) (hf := hf) (hq := hq) (kn := kn) (th := th) (sm := sm) (Y := Y) (w := w) hX (by first | omega | (simp [up2, *]; done) | (simp [up2, *]; omega) | (simp only [up2_eq]; omega) | (split <;> omega)) hv5) pk_X4_isNoWhere qm_X4_55 0 8 rfl rfl wm_0 rfl rfl (Nat.le_of_ble_eq_true rfl) dX4_isNoPlace_2 ⟨(Nat.le_of_ble_eq_true rfl), (Nat.le_of_ble_eq_true rfl)⟩ ⟨(Nat.le_of_ble_eq_true rfl), (Nat.le_of_ble_eq_true rfl)⟩ ?_
  refine r_w (w' := WM cy ba ra hf hq kn th sm ++ Y) rfl ?_
  refine r_ifN_ne (a := 0) (tgt := 23) C (by first | omega | (simp [up2, *]; done) | (simp [up2, *]; omega) | (simp only [up2_eq]; omega) | (split <;> omega)) dX4_isNoPlace_5 (by decide) (fun h5_1 => ?_) (fun h5_1 => ?_)
  · exact absurd h5_1 (by first | omega | (simp [up2, *]; done) | (simp [up2, *]; omega) | (simp only [up2_eq]; omega) | (split <;> omega))
  · skip
    refine r_iload_n C dX4_isNoPlace_8 rfl ?_
    refine r_iconst (v := (nI 0)) C dX4_isNoPlace_9 (by decide) ?_
    refine r_aload_n C dX4_isNoPlace_10 rfl ?_
    refine r_iload_n C dX4_isNoPlace_11 rfl ?_
    refine d_V (st := [.int (nI 0), .int y]) hX.1.stb C hE (D_sizeOf (ba := ba) (ra := ra) (hf := hf) (hq := hq) (kn := kn) (th := th) (sm := sm) (Y := Y) (w := w) hX (by first | omega | (simp [up2, *]; done) | (simp [up2, *]; omega) | (simp only [up2_eq]; omega) | (split <;> omega))) pk_X4_sizeOf qm_X4_59 0 8 rfl rfl wm_0 rfl rfl (Nat.le_of_ble_eq_true rfl) dX4_isNoPlace_12 ⟨(Nat.le_of_ble_eq_true rfl), (Nat.le_of_ble_eq_true rfl)⟩ ⟨(Nat.le_of_ble_eq_true rfl), (Nat.le_of_ble_eq_true rfl)⟩ ?_
    refine r_w (w' := WM cy ba ra hf hq kn th sm ++ Y) rfl ?_
    refine r_iconst (v := (nI 1)) C dX4_isNoPlace_15 (by decide) ?_
    refine r_isub C dX4_isNoPlace_16 ?_
    refine d_S (st := []) hX.1.stb C hE (D_isIn0 (ba := ba) (ra := ra) (hf := hf) (hq := hq) (kn := kn) (th := th) (sm := sm) (Y := Y) (x := (y)) (y := ((nI 0))) (z := (((nI (hf 4 w)) - (nI 1)))) hX (fun z => hno ⟨z.1, (le_pred hs12).mp z.2⟩)) pk_X4_isIn qm_X4_1 rfl rfl (Nat.le_of_ble_eq_true rfl) dX4_isNoPlace_17 ⟨(Nat.le_of_ble_eq_true rfl), (Nat.le_of_ble_eq_true rfl)⟩ ⟨(Nat.le_of_ble_eq_true rfl), (Nat.le_of_ble_eq_true rfl)⟩ ?_
    refine r_w (w' := WM cy ba ra hf hq kn th sm ++ Y) rfl ?_
    refine r_ifN_ne (a := 0) (tgt := 27) C (by first | omega | (simp [up2, *]; done) | (simp [up2, *]; omega) | (simp only [up2_eq]; omega) | (split <;> omega)) dX4_isNoPlace_20 (by decide) (fun h20_2 => ?_) (fun h20_2 => ?_)
    · exact absurd h20_2 (by first | omega | (simp [up2, *]; done) | (simp [up2, *]; omega) | (simp only [up2_eq]; omega) | (split <;> omega))
    · skip
      refine r_iconst (v := (nI 1)) C dX4_isNoPlace_23 (by decide) ?_
      refine r_goto (tgt := 28) C dX4_isNoPlace_24 (by decide) ?_
      exact r_zret C hr (by first | omega | (simp [up2, *]; done) | (simp [up2, *]; omega) | (simp only [up2_eq]; omega) | (split <;> omega)) dX4_isNoPlace_28 ⟨rfl, rfl⟩ (Nat.le_of_ble_eq_true rfl) (Nat.le_of_ble_eq_true rfl)
theorem dX4_isNoPlace_27 : decode cX4_isNoPlace 27 = .ok (.iconst 0, 1) := dqo_3 (kb_of ke_X4_isNoPlace 27 rfl)
set_option maxRecDepth 100000 in
set_option maxHeartbeats 4000000 in
theorem D_isNoPlace0 {l : Launch} {D : va_G} {cy : Nat → ClassId} {X : (Nat → Prop) → State → Heap → Prop} {ba ra : Nat → Nat} {hf : Nat → Nat → Nat} {hq : Nat → Nat → Int32} {kn th : Int32} {sm : Int64} {Y : va_W} {w : Nat} {k : Nat} (hX : EnvM X cy) (hw : w < 8) (hv5 : 4 ≤ w → hf 5 w = 1) (hs12 : hf 4 w ≤ 12) (hk : k < hf 4 w) : Cd l D cy X yX4_isNoPlace cX4_isNoPlace 3 (some .boolean) (rmz 2 60) [.ref (ba 9), .int (nI w), .int (nI k)] (WM cy ba ra hf hq kn th sm ++ Y) (some (.int (nI 0))) (WM cy ba ra hf hq kn th sm ++ Y) := by
  refine Cm.of [some (.ref (ba 9)), some (.int (nI w)), some (.int (nI k))] pn_X4 rfl (Nat.le_of_ble_eq_true rfl) ?_
  intro p e s m args below meth c A C hE hr hnt hn
  refine r_aload_n C dX4_isNoPlace_0 rfl ?_
  refine r_iload_n C dX4_isNoPlace_1 rfl ?_
  refine d_V (st := []) hX.1.stb C hE (D_isNoWhere0 (ba := ba) (ra := ra) (hf := hf) (hq := hq) (kn := kn) (th := th) (sm := sm) (Y := Y) (w := w) hX (by first | omega | (simp [up2, *]; done) | (simp [up2, *]; omega) | (simp only [up2_eq]; omega) | (split <;> omega)) hv5) pk_X4_isNoWhere qm_X4_55 0 8 rfl rfl wm_0 rfl rfl (Nat.le_of_ble_eq_true rfl) dX4_isNoPlace_2 ⟨(Nat.le_of_ble_eq_true rfl), (Nat.le_of_ble_eq_true rfl)⟩ ⟨(Nat.le_of_ble_eq_true rfl), (Nat.le_of_ble_eq_true rfl)⟩ ?_
  refine r_w (w' := WM cy ba ra hf hq kn th sm ++ Y) rfl ?_
  refine r_ifN_ne (a := 0) (tgt := 23) C (by first | omega | (simp [up2, *]; done) | (simp [up2, *]; omega) | (simp only [up2_eq]; omega) | (split <;> omega)) dX4_isNoPlace_5 (by decide) (fun h5_1 => ?_) (fun h5_1 => ?_)
  · exact absurd h5_1 (by first | omega | (simp [up2, *]; done) | (simp [up2, *]; omega) | (simp only [up2_eq]; omega) | (split <;> omega))
  · skip
    refine r_iload_n C dX4_isNoPlace_8 rfl ?_
    refine r_iconst (v := (nI 0)) C dX4_isNoPlace_9 (by decide) ?_
    refine r_aload_n C dX4_isNoPlace_10 rfl ?_
    refine r_iload_n C dX4_isNoPlace_11 rfl ?_
    refine d_V (st := [.int (nI 0), .int (nI k)]) hX.1.stb C hE (D_sizeOf (ba := ba) (ra := ra) (hf := hf) (hq := hq) (kn := kn) (th := th) (sm := sm) (Y := Y) (w := w) hX (by first | omega | (simp [up2, *]; done) | (simp [up2, *]; omega) | (simp only [up2_eq]; omega) | (split <;> omega))) pk_X4_sizeOf qm_X4_59 0 8 rfl rfl wm_0 rfl rfl (Nat.le_of_ble_eq_true rfl) dX4_isNoPlace_12 ⟨(Nat.le_of_ble_eq_true rfl), (Nat.le_of_ble_eq_true rfl)⟩ ⟨(Nat.le_of_ble_eq_true rfl), (Nat.le_of_ble_eq_true rfl)⟩ ?_
    refine r_w (w' := WM cy ba ra hf hq kn th sm ++ Y) rfl ?_
    refine r_iconst (v := (nI 1)) C dX4_isNoPlace_15 (by decide) ?_
    refine r_isubN C dX4_isNoPlace_16 (by first | omega | (simp [up2, *]; done) | (simp [up2, *]; omega) | (simp only [up2_eq]; omega) | (split <;> omega)) ?_
    refine d_S (st := []) hX.1.stb C hE (D_isInN (ba := ba) (ra := ra) (hf := hf) (hq := hq) (kn := kn) (th := th) (sm := sm) (Y := Y) (a0 := k) (b0 := 0) (d0 := ((hf 4 w) - 1)) hX (by first | omega | (simp [up2, *]; done) | (simp [up2, *]; omega) | (simp only [up2_eq]; omega) | (split <;> omega)) (by first | omega | (simp [up2, *]; done) | (simp [up2, *]; omega) | (simp only [up2_eq]; omega) | (split <;> omega)) (by first | omega | (simp [up2, *]; done) | (simp [up2, *]; omega) | (simp only [up2_eq]; omega) | (split <;> omega))) pk_X4_isIn qm_X4_1 rfl rfl (Nat.le_of_ble_eq_true rfl) dX4_isNoPlace_17 ⟨(Nat.le_of_ble_eq_true rfl), (Nat.le_of_ble_eq_true rfl)⟩ ⟨(Nat.le_of_ble_eq_true rfl), (Nat.le_of_ble_eq_true rfl)⟩ ?_
    refine r_w (w' := WM cy ba ra hf hq kn th sm ++ Y) rfl ?_
    refine r_ifN_ne (a := 1) (tgt := 27) C (by first | omega | (simp [up2, *]; done) | (simp [up2, *]; omega) | (simp only [up2_eq]; omega) | (split <;> omega)) dX4_isNoPlace_20 (by decide) (fun h20_2 => ?_) (fun h20_2 => ?_)
    · skip
      refine r_iconst (v := (nI 0)) C dX4_isNoPlace_27 (by decide) ?_
      exact r_zret C hr (by first | omega | (simp [up2, *]; done) | (simp [up2, *]; omega) | (simp only [up2_eq]; omega) | (split <;> omega)) dX4_isNoPlace_28 ⟨rfl, rfl⟩ (Nat.le_of_ble_eq_true rfl) (Nat.le_of_ble_eq_true rfl)
    · exact absurd h20_2 (by first | omega | (simp [up2, *]; done) | (simp [up2, *]; omega) | (simp only [up2_eq]; omega) | (split <;> omega))
theorem pk_X4_item : PkV RX4 yX4_item cX4_item 3 (some .int) 2 := ⟨⟨qi_X4_item, qs_X4_item, qz_X4, qc_X4_item⟩, rfl, mh_X4.1, mh_X4.2, pd_0⟩
theorem dX4_items_0 : decode cX4_items 0 = .ok (.aload_n 0, 1) := dqo_42 (kb_of ke_X4_items 0 rfl)
theorem dX4_items_1 : decode cX4_items 1 = .ok (.iload_n 1, 1) := dqo_27 (kb_of ke_X4_items 1 rfl)
theorem dX4_items_2 : decode cX4_items 2 = .ok (.invokevirtual 59, 3) := dqo_182 0 59 (kb_of ke_X4_items 2 rfl) (kb_of ke_X4_items 3 rfl) (kb_of ke_X4_items 4 rfl)
theorem dX4_items_5 : decode cX4_items 5 = .ok (.newarray .int, 2) := dqo_188_10 (kb_of ke_X4_items 5 rfl) (kb_of ke_X4_items 6 rfl)
theorem dX4_items_7 : decode cX4_items 7 = .ok (.astore_n 2, 1) := dqo_77 (kb_of ke_X4_items 7 rfl)
theorem dX4_items_8 : decode cX4_items 8 = .ok (.iconst 0, 1) := dqo_3 (kb_of ke_X4_items 8 rfl)
theorem dX4_items_9 : decode cX4_items 9 = .ok (.istore_n 3, 1) := dqo_62 (kb_of ke_X4_items 9 rfl)
theorem dX4_items_10 : decode cX4_items 10 = .ok (.iload_n 3, 1) := dqo_29 (kb_of ke_X4_items 10 rfl)
theorem dX4_items_11 : decode cX4_items 11 = .ok (.aload_n 2, 1) := dqo_44 (kb_of ke_X4_items 11 rfl)
theorem dX4_items_12 : decode cX4_items 12 = .ok (.arraylength, 1) := dqo_190 (kb_of ke_X4_items 12 rfl)
theorem dX4_items_13 : decode cX4_items 13 = .ok (.if_icmp .ge 18, 3) := dqo_162 0 18 (by decide) (kb_of ke_X4_items 13 rfl) (kb_of ke_X4_items 14 rfl) (kb_of ke_X4_items 15 rfl)
theorem dX4_items_16 : decode cX4_items 16 = .ok (.aload_n 2, 1) := dqo_44 (kb_of ke_X4_items 16 rfl)
theorem dX4_items_17 : decode cX4_items 17 = .ok (.iload_n 3, 1) := dqo_29 (kb_of ke_X4_items 17 rfl)
theorem dX4_items_18 : decode cX4_items 18 = .ok (.aload_n 0, 1) := dqo_42 (kb_of ke_X4_items 18 rfl)
theorem dX4_items_19 : decode cX4_items 19 = .ok (.iload_n 1, 1) := dqo_27 (kb_of ke_X4_items 19 rfl)
theorem dX4_items_20 : decode cX4_items 20 = .ok (.iload_n 3, 1) := dqo_29 (kb_of ke_X4_items 20 rfl)
theorem dX4_items_21 : decode cX4_items 21 = .ok (.invokevirtual 62, 3) := dqo_182 0 62 (kb_of ke_X4_items 21 rfl) (kb_of ke_X4_items 22 rfl) (kb_of ke_X4_items 23 rfl)
theorem dX4_items_24 : decode cX4_items 24 = .ok (.iastore, 1) := dqo_79 (kb_of ke_X4_items 24 rfl)
theorem dX4_items_25 : decode cX4_items 25 = .ok (.iinc 3 1, 3) := dqo_132 3 1 (by decide) (kb_of ke_X4_items 25 rfl) (kb_of ke_X4_items 26 rfl) (kb_of ke_X4_items 27 rfl)
theorem dX4_items_28 : decode cX4_items 28 = .ok (.goto (-18), 3) := dqo_167 255 238 (by decide) (kb_of ke_X4_items 28 rfl) (kb_of ke_X4_items 29 rfl) (kb_of ke_X4_items 30 rfl)
theorem dX4_items_31 : decode cX4_items 31 = .ok (.aload_n 2, 1) := dqo_44 (kb_of ke_X4_items 31 rfl)
theorem dX4_items_32 : decode cX4_items 32 = .ok (.areturn, 1) := dqo_176 (kb_of ke_X4_items 32 rfl)
set_option maxRecDepth 100000 in
set_option maxHeartbeats 4000000 in
theorem D_items {l : Launch} {D : va_G} {cy : Nat → ClassId} {X : (Nat → Prop) → State → Heap → Prop} {ba ra : Nat → Nat} {hf : Nat → Nat → Nat} {hq : Nat → Nat → Int32} {kn th : Int32} {sm : Int64} {Y : va_W} {f : Nat → Nat → Nat} {w : Nat} (hX : EnvM X cy) (hC : CInv f) (hG : MG f hf) (hw : w < 8) (h5w : f 5 w = 1) (hb : f 3 w + hf 4 w ≤ hf 4 (f 1 w)) (h12 : hf 4 (f 1 w) ≤ 12) : Cm l D cy X yX4_items cX4_items 4 (some (.array .int)) (rmk 6 1 12 220) [.ref (ba 9), .int (nI w)] (WM cy ba ra hf hq kn th sm ++ Y) (fun v1 w1 => ∃ b9 : Nat, v1 = some (.ref b9) ∧ w1 = WM cy ba ra hf hq kn th sm ++ (Y ++ [(b9, .inl (cy 1, hf 4 w, .inl (cutF (fun z => hq (f 1 w) (f 3 w + z)) (hf 4 w))))])) (fun _ => False) := by
  have q1 := hC.al hw
  refine Cm.of [some (.ref (ba 9)), some (.int (nI w)), none, none] pn_X4 rfl (Nat.le_of_ble_eq_true rfl) ?_
  intro p e s m args below meth c A C hE hr hnt hn
  refine r_aload_n C dX4_items_0 rfl ?_
  refine r_iload_n C dX4_items_1 rfl ?_
  refine d_V (st := []) hX.1.stb C hE (D_sizeOf (ba := ba) (ra := ra) (hf := hf) (hq := hq) (kn := kn) (th := th) (sm := sm) (Y := Y) (w := w) hX (by first | omega | (simp [up2, *]; done) | (simp [up2, *]; omega) | (simp only [up2_eq]; omega) | (split <;> omega))) pk_X4_sizeOf qm_X4_59 0 8 rfl rfl wm_0 rfl rfl (Nat.le_of_ble_eq_true rfl) dX4_items_2 ⟨(Nat.le_of_ble_eq_true rfl), (Nat.le_of_ble_eq_true rfl)⟩ ⟨(Nat.le_of_ble_eq_true rfl), (Nat.le_of_ble_eq_true rfl)⟩ ?_
  refine r_w (w' := WM cy ba ra hf hq kn th sm ++ Y) rfl ?_
  refine r_newT C .int .int 1 rfl (by simp) qa_int (n := hf 4 w) (show hf 4 w < 1000000 from Nat.lt_of_le_of_lt (show hf 4 w ≤ 12 from by first | omega | (simp [up2, *]; done) | (simp [up2, *]; omega) | (simp only [up2_eq]; omega) | (split <;> omega)) (by decide)) (1) (12) (Nat.le_of_ble_eq_true rfl) (Nat.add_le_add (Nat.le_refl _) (show hf 4 w ≤ 12 from by first | omega | (simp [up2, *]; done) | (simp [up2, *]; omega) | (simp only [up2_eq]; omega) | (split <;> omega))) (Nat.le_of_ble_eq_true rfl) (Nat.le_of_ble_eq_true rfl) dX4_items_5 (fun b_1 => ?_)
  refine r_w (w' := WM cy ba ra hf hq kn th sm ++ (Y ++ [(b_1, .inl (cy 1, hf 4 w, .inl (fun _ => 0)))])) (by simp only [List.append_assoc, List.cons_append, List.nil_append]) ?_
  refine r_astore_n C dX4_items_7 (by decide) rfl ?_
  refine r_iconst (v := (nI 0)) C dX4_items_8 (by decide) ?_
  refine r_istore_n C dX4_items_9 (by decide) rfl ?_
  refine r_w (w' := WM cy ba ra hf hq kn th sm ++ (Y ++ [(b_1, .inl (cy 1, hf 4 w, .inl (cutF (fun z => hq (f 1 w) (f 3 w + z)) 0)))])) (by rw [cutF_0]) ?_
  have L10 : ∀ (d : Nat) (k : Nat), (hk : k + d = hf 4 w) → vC p l e (rmk 6 1 12 220) s m args below meth c D A (vx_MQ below (vG (fun v1 w1 => ∃ b9 : Nat, v1 = some (.ref b9) ∧ w1 = WM cy ba ra hf hq kn th sm ++ (Y ++ [(b9, .inl (cy 1, hf 4 w, .inl (cutF (fun z => hq (f 1 w) (f 3 w + z)) (hf 4 w))))])) D vwCl A) (vGX (fun _ => False) D vwCl (WM cy ba ra hf hq kn th sm ++ Y) A) args s (rmk 6 1 12 220).cells (rmk 6 1 12 220).slots A) 4 1 12 (WM cy ba ra hf hq kn th sm ++ (Y ++ [(b_1, .inl (cy 1, hf 4 w, .inl (cutF (fun z => hq (f 1 w) (f 3 w + z)) k)))])) [some (.ref (ba 9)), some (.int (nI w)), some (.ref b_1), some (.int (nI k))] 10 [] := by
    intro d
    induction d with
    | zero =>
      intro k hk
      refine r_iload_n C dX4_items_10 rfl ?_
      refine r_aload_n C dX4_items_11 rfl ?_
      refine x_len C (t0 := 1) 0 rfl rfl dX4_items_12 ?_
      refine r_icN_ge (a := k) (b := (hf 4 w)) (tgt := 31) C (by first | omega | (simp [up2, *]; done) | (simp [up2, *]; omega) | (simp only [up2_eq]; omega) | (split <;> omega)) (by first | omega | (simp [up2, *]; done) | (simp [up2, *]; omega) | (simp only [up2_eq]; omega) | (split <;> omega)) dX4_items_13 (by decide) (fun h13_2 => ?_) (fun h13_2 => ?_)
      · first
        | exfalso; first | omega | contradiction
        | skip
          have e9 : k = hf 4 w := by omega
          subst e9
          refine r_aload_n C dX4_items_31 rfl ?_
          exact r_aret C hr (Or.inr ⟨_, rfl⟩) dX4_items_32 ⟨_, rfl, rfl⟩ (Nat.le_of_ble_eq_true rfl) (Nat.le_of_ble_eq_true rfl)
      · first
        | exfalso; first | omega | contradiction
        | skip
          refine r_aload_n C dX4_items_16 rfl ?_
          refine r_iload_n C dX4_items_17 rfl ?_
          refine r_aload_n C dX4_items_18 rfl ?_
          refine r_iload_n C dX4_items_19 rfl ?_
          refine r_iload_n C dX4_items_20 rfl ?_
          refine d_V (st := [.int (nI k), .ref b_1]) hX.1.stb C hE (D_item (ba := ba) (ra := ra) (hf := hf) (hq := hq) (kn := kn) (th := th) (sm := sm) (f := f) (w := w) (k := k) hX hC (MG.same (fun _ => rfl) (fun _ => rfl) hG) (by first | omega | (simp [up2, *]; done) | (simp [up2, *]; omega) | (simp only [up2_eq]; omega) | (split <;> omega)) (by first | omega | (simp [up2, *]; done) | (simp [up2, *]; omega) | (simp only [up2_eq]; omega) | (split <;> omega)) (by first | omega | (simp [up2, *]; done) | (simp [up2, *]; omega) | (simp only [up2_eq]; omega) | (split <;> omega)) (by first | omega | (simp [up2, *]; done) | (simp [up2, *]; omega) | (simp only [up2_eq]; omega) | (split <;> omega))) pk_X4_item qm_X4_62 0 8 rfl rfl wm_0 rfl rfl (Nat.le_of_ble_eq_true rfl) dX4_items_21 ⟨(Nat.le_of_ble_eq_true rfl), (Nat.le_of_ble_eq_true rfl)⟩ ⟨(Nat.le_of_ble_eq_true rfl), (Nat.le_of_ble_eq_true rfl)⟩ ?_
          refine r_w (w' := WM cy ba ra hf hq kn th sm ++ (Y ++ [(b_1, .inl (cy 1, hf 4 w, .inl (cutF (fun z => hq (f 1 w) (f 3 w + z)) k)))])) rfl ?_
          refine x_ast C (i := k) (f := cutF (fun z => hq (f 1 w) (f 3 w + z)) k) (E' := [(b_1, .inl (cy 1, hf 4 w, .inl (upd (cutF (fun z => hq (f 1 w) (f 3 w + z)) k) k (hq (f 1 w) (f 3 w + k)))))]) 0 rfl (by first | omega | (simp [up2, *]; done) | (simp [up2, *]; omega) | (simp only [up2_eq]; omega) | (split <;> omega)) (by first | omega | (simp [up2, *]; done) | (simp [up2, *]; omega) | (simp only [up2_eq]; omega) | (split <;> omega)) rfl dX4_items_24 ?_
          refine r_iincN C dX4_items_25 rfl (by decide) rfl ?_
          refine r_goto (tgt := 10) C dX4_items_28 (by decide) ?_
          refine r_w (w' := WM cy ba ra hf hq kn th sm ++ (Y ++ [(b_1, .inl (cy 1, hf 4 w, .inl (cutF (fun z => hq (f 1 w) (f 3 w + z)) (k + 1))))])) (by rw [cutF_up (by rfl)]) ?_
          exact (Nat.not_lt_zero _ (by omega)).elim
    | succ d ih_L10 =>
      intro k hk
      refine r_iload_n C dX4_items_10 rfl ?_
      refine r_aload_n C dX4_items_11 rfl ?_
      refine x_len C (t0 := 1) 0 rfl rfl dX4_items_12 ?_
      refine r_icN_ge (a := k) (b := (hf 4 w)) (tgt := 31) C (by first | omega | (simp [up2, *]; done) | (simp [up2, *]; omega) | (simp only [up2_eq]; omega) | (split <;> omega)) (by first | omega | (simp [up2, *]; done) | (simp [up2, *]; omega) | (simp only [up2_eq]; omega) | (split <;> omega)) dX4_items_13 (by decide) (fun h13_3 => ?_) (fun h13_3 => ?_)
      · first
        | exfalso; first | omega | contradiction
        | skip
          have e9 : k = hf 4 w := by omega
          subst e9
          refine r_aload_n C dX4_items_31 rfl ?_
          exact r_aret C hr (Or.inr ⟨_, rfl⟩) dX4_items_32 ⟨_, rfl, rfl⟩ (Nat.le_of_ble_eq_true rfl) (Nat.le_of_ble_eq_true rfl)
      · first
        | exfalso; first | omega | contradiction
        | skip
          refine r_aload_n C dX4_items_16 rfl ?_
          refine r_iload_n C dX4_items_17 rfl ?_
          refine r_aload_n C dX4_items_18 rfl ?_
          refine r_iload_n C dX4_items_19 rfl ?_
          refine r_iload_n C dX4_items_20 rfl ?_
          refine d_V (st := [.int (nI k), .ref b_1]) hX.1.stb C hE (D_item (ba := ba) (ra := ra) (hf := hf) (hq := hq) (kn := kn) (th := th) (sm := sm) (f := f) (w := w) (k := k) hX hC (MG.same (fun _ => rfl) (fun _ => rfl) hG) (by first | omega | (simp [up2, *]; done) | (simp [up2, *]; omega) | (simp only [up2_eq]; omega) | (split <;> omega)) (by first | omega | (simp [up2, *]; done) | (simp [up2, *]; omega) | (simp only [up2_eq]; omega) | (split <;> omega)) (by first | omega | (simp [up2, *]; done) | (simp [up2, *]; omega) | (simp only [up2_eq]; omega) | (split <;> omega)) (by first | omega | (simp [up2, *]; done) | (simp [up2, *]; omega) | (simp only [up2_eq]; omega) | (split <;> omega))) pk_X4_item qm_X4_62 0 8 rfl rfl wm_0 rfl rfl (Nat.le_of_ble_eq_true rfl) dX4_items_21 ⟨(Nat.le_of_ble_eq_true rfl), (Nat.le_of_ble_eq_true rfl)⟩ ⟨(Nat.le_of_ble_eq_true rfl), (Nat.le_of_ble_eq_true rfl)⟩ ?_
          refine r_w (w' := WM cy ba ra hf hq kn th sm ++ (Y ++ [(b_1, .inl (cy 1, hf 4 w, .inl (cutF (fun z => hq (f 1 w) (f 3 w + z)) k)))])) rfl ?_
          refine x_ast C (i := k) (f := cutF (fun z => hq (f 1 w) (f 3 w + z)) k) (E' := [(b_1, .inl (cy 1, hf 4 w, .inl (upd (cutF (fun z => hq (f 1 w) (f 3 w + z)) k) k (hq (f 1 w) (f 3 w + k)))))]) 0 rfl (by first | omega | (simp [up2, *]; done) | (simp [up2, *]; omega) | (simp only [up2_eq]; omega) | (split <;> omega)) (by first | omega | (simp [up2, *]; done) | (simp [up2, *]; omega) | (simp only [up2_eq]; omega) | (split <;> omega)) rfl dX4_items_24 ?_
          refine r_iincN C dX4_items_25 rfl (by decide) rfl ?_
          refine r_goto (tgt := 10) C dX4_items_28 (by decide) ?_
          refine r_w (w' := WM cy ba ra hf hq kn th sm ++ (Y ++ [(b_1, .inl (cy 1, hf 4 w, .inl (cutF (fun z => hq (f 1 w) (f 3 w + z)) (k + 1))))])) (by rw [cutF_up (by rfl)]) ?_
          exact ih_L10 (k + 1) (by first | omega | (simp [up2, *]; done) | (simp [up2, *]; omega) | (simp only [up2_eq]; omega) | (split <;> omega))
  exact L10 (hf 4 w) 0 (by first | omega | (simp [up2, *]; done) | (simp [up2, *]; omega) | (simp only [up2_eq]; omega) | (split <;> omega))
theorem dX4_isFull_0 : decode cX4_isFull 0 = .ok (.aload_n 0, 1) := dqo_42 (kb_of ke_X4_isFull 0 rfl)
theorem dX4_isFull_1 : decode cX4_isFull 1 = .ok (.getfield 15, 3) := dqo_180 0 15 (kb_of ke_X4_isFull 1 rfl) (kb_of ke_X4_isFull 2 rfl) (kb_of ke_X4_isFull 3 rfl)
theorem dX4_isFull_4 : decode cX4_isFull 4 = .ok (.aload_n 0, 1) := dqo_42 (kb_of ke_X4_isFull 4 rfl)
theorem dX4_isFull_5 : decode cX4_isFull 5 = .ok (.iload_n 1, 1) := dqo_27 (kb_of ke_X4_isFull 5 rfl)
theorem dX4_isFull_6 : decode cX4_isFull 6 = .ok (.invokevirtual 48, 3) := dqo_182 0 48 (kb_of ke_X4_isFull 6 rfl) (kb_of ke_X4_isFull 7 rfl) (kb_of ke_X4_isFull 8 rfl)
theorem dX4_isFull_9 : decode cX4_isFull 9 = .ok (.aaload, 1) := dqo_50 (kb_of ke_X4_isFull 9 rfl)
theorem dX4_isFull_10 : decode cX4_isFull 10 = .ok (.arraylength, 1) := dqo_190 (kb_of ke_X4_isFull 10 rfl)
theorem dX4_isFull_11 : decode cX4_isFull 11 = .ok (.bipush 12, 2) := dqo_16 12 (by decide) (kb_of ke_X4_isFull 11 rfl) (kb_of ke_X4_isFull 12 rfl)
theorem dX4_isFull_13 : decode cX4_isFull 13 = .ok (.if_icmp .ne 7, 3) := dqo_160 0 7 (by decide) (kb_of ke_X4_isFull 13 rfl) (kb_of ke_X4_isFull 14 rfl) (kb_of ke_X4_isFull 15 rfl)
theorem dX4_isFull_16 : decode cX4_isFull 16 = .ok (.iconst 1, 1) := dqo_4 (kb_of ke_X4_isFull 16 rfl)
theorem dX4_isFull_17 : decode cX4_isFull 17 = .ok (.goto 4, 3) := dqo_167 0 4 (by decide) (kb_of ke_X4_isFull 17 rfl) (kb_of ke_X4_isFull 18 rfl) (kb_of ke_X4_isFull 19 rfl)
theorem dX4_isFull_20 : decode cX4_isFull 20 = .ok (.iconst 0, 1) := dqo_3 (kb_of ke_X4_isFull 20 rfl)
theorem dX4_isFull_21 : decode cX4_isFull 21 = .ok (.ireturn, 1) := dqo_172 (kb_of ke_X4_isFull 21 rfl)
set_option maxRecDepth 100000 in
set_option maxHeartbeats 4000000 in
theorem D_isFull1 {l : Launch} {D : va_G} {cy : Nat → ClassId} {X : (Nat → Prop) → State → Heap → Prop} {ba ra : Nat → Nat} {hf : Nat → Nat → Nat} {hq : Nat → Nat → Int32} {kn th : Int32} {sm : Int64} {Y : va_W} {f : Nat → Nat → Nat} {w : Nat} (hX : EnvM X cy) (hC : CInv f) (hG : MG f hf) (hw : w < 8) (h5w : f 5 w = 1) (hfl : hf 4 (f 1 w) = 12) : Cd l D cy X yX4_isFull cX4_isFull 2 (some .boolean) (rmz 5 160) [.ref (ba 9), .int (nI w)] (WM cy ba ra hf hq kn th sm ++ Y) (some (.int (nI 1))) (WM cy ba ra hf hq kn th sm ++ Y) := by
  have q1 := hC.al hw
  refine Cm.of [some (.ref (ba 9)), some (.int (nI w))] pn_X4 rfl (Nat.le_of_ble_eq_true rfl) ?_
  intro p e s m args below meth c A C hE hr hnt hn
  refine r_aload_n C dX4_isFull_0 rfl ?_
  refine m_get (v := .ref (ba 0)) C 0 (by decide) qf_X4_15 rfl rfl dX4_isFull_1 ?_
  refine r_aload_n C dX4_isFull_4 rfl ?_
  refine r_iload_n C dX4_isFull_5 rfl ?_
  refine d_V (st := [.ref (ba 0)]) hX.1.stb C hE (D_rowOf (ba := ba) (ra := ra) (hf := hf) (hq := hq) (kn := kn) (th := th) (sm := sm) (Y := Y) (f := f) (w := w) hX hC (MG.same (fun _ => rfl) (fun _ => rfl) hG) (by first | omega | (simp [up2, *]; done) | (simp [up2, *]; omega) | (simp only [up2_eq]; omega) | (split <;> omega)) (by first | omega | (simp [up2, *]; done) | (simp [up2, *]; omega) | (simp only [up2_eq]; omega) | (split <;> omega))) pk_X4_rowOf qm_X4_48 0 8 rfl rfl wm_0 rfl rfl (Nat.le_of_ble_eq_true rfl) dX4_isFull_6 ⟨(Nat.le_of_ble_eq_true rfl), (Nat.le_of_ble_eq_true rfl)⟩ ⟨(Nat.le_of_ble_eq_true rfl), (Nat.le_of_ble_eq_true rfl)⟩ ?_
  refine r_w (w' := WM cy ba ra hf hq kn th sm ++ Y) rfl ?_
  refine m_rows (i := f 1 w) C (by first | omega | (simp [up2, *]; done) | (simp [up2, *]; omega) | (simp only [up2_eq]; omega) | (split <;> omega)) dX4_isFull_9 ?_
  refine m_rlen (i := f 1 w) (v := hf 4 (f 1 w)) C (by first | omega | (simp [up2, *]; done) | (simp [up2, *]; omega) | (simp only [up2_eq]; omega) | (split <;> omega)) rfl dX4_isFull_10 ?_
  refine r_bipush (v := (nI 12)) C dX4_isFull_11 (by decide) ?_
  refine r_icN_ne (a := (hf 4 (f 1 w))) (b := 12) (tgt := 20) C (by first | omega | (simp [up2, *]; done) | (simp [up2, *]; omega) | (simp only [up2_eq]; omega) | (split <;> omega)) (by first | omega | (simp [up2, *]; done) | (simp [up2, *]; omega) | (simp only [up2_eq]; omega) | (split <;> omega)) dX4_isFull_13 (by decide) (fun h13_1 => ?_) (fun h13_1 => ?_)
  · first
    | exfalso; first | omega | contradiction
    | skip
      refine r_iconst (v := (nI 0)) C dX4_isFull_20 (by decide) ?_
      exact r_zret C hr (by first | omega | (simp [up2, *]; done) | (simp [up2, *]; omega) | (simp only [up2_eq]; omega) | (split <;> omega)) dX4_isFull_21 ⟨rfl, rfl⟩ (Nat.le_of_ble_eq_true rfl) (Nat.le_of_ble_eq_true rfl)
  · first
    | exfalso; first | omega | contradiction
    | skip
      refine r_iconst (v := (nI 1)) C dX4_isFull_16 (by decide) ?_
      refine r_goto (tgt := 21) C dX4_isFull_17 (by decide) ?_
      exact r_zret C hr (by first | omega | (simp [up2, *]; done) | (simp [up2, *]; omega) | (simp only [up2_eq]; omega) | (split <;> omega)) dX4_isFull_21 ⟨rfl, rfl⟩ (Nat.le_of_ble_eq_true rfl) (Nat.le_of_ble_eq_true rfl)
set_option maxRecDepth 100000 in
set_option maxHeartbeats 4000000 in
theorem D_isFull0 {l : Launch} {D : va_G} {cy : Nat → ClassId} {X : (Nat → Prop) → State → Heap → Prop} {ba ra : Nat → Nat} {hf : Nat → Nat → Nat} {hq : Nat → Nat → Int32} {kn th : Int32} {sm : Int64} {Y : va_W} {f : Nat → Nat → Nat} {w : Nat} (hX : EnvM X cy) (hC : CInv f) (hG : MG f hf) (hw : w < 8) (h5w : f 5 w = 1) (hfl : hf 4 (f 1 w) < 12) : Cd l D cy X yX4_isFull cX4_isFull 2 (some .boolean) (rmz 5 160) [.ref (ba 9), .int (nI w)] (WM cy ba ra hf hq kn th sm ++ Y) (some (.int (nI 0))) (WM cy ba ra hf hq kn th sm ++ Y) := by
  have q1 := hC.al hw
  refine Cm.of [some (.ref (ba 9)), some (.int (nI w))] pn_X4 rfl (Nat.le_of_ble_eq_true rfl) ?_
  intro p e s m args below meth c A C hE hr hnt hn
  refine r_aload_n C dX4_isFull_0 rfl ?_
  refine m_get (v := .ref (ba 0)) C 0 (by decide) qf_X4_15 rfl rfl dX4_isFull_1 ?_
  refine r_aload_n C dX4_isFull_4 rfl ?_
  refine r_iload_n C dX4_isFull_5 rfl ?_
  refine d_V (st := [.ref (ba 0)]) hX.1.stb C hE (D_rowOf (ba := ba) (ra := ra) (hf := hf) (hq := hq) (kn := kn) (th := th) (sm := sm) (Y := Y) (f := f) (w := w) hX hC (MG.same (fun _ => rfl) (fun _ => rfl) hG) (by first | omega | (simp [up2, *]; done) | (simp [up2, *]; omega) | (simp only [up2_eq]; omega) | (split <;> omega)) (by first | omega | (simp [up2, *]; done) | (simp [up2, *]; omega) | (simp only [up2_eq]; omega) | (split <;> omega))) pk_X4_rowOf qm_X4_48 0 8 rfl rfl wm_0 rfl rfl (Nat.le_of_ble_eq_true rfl) dX4_isFull_6 ⟨(Nat.le_of_ble_eq_true rfl), (Nat.le_of_ble_eq_true rfl)⟩ ⟨(Nat.le_of_ble_eq_true rfl), (Nat.le_of_ble_eq_true rfl)⟩ ?_
  refine r_w (w' := WM cy ba ra hf hq kn th sm ++ Y) rfl ?_
  refine m_rows (i := f 1 w) C (by first | omega | (simp [up2, *]; done) | (simp [up2, *]; omega) | (simp only [up2_eq]; omega) | (split <;> omega)) dX4_isFull_9 ?_
  refine m_rlen (i := f 1 w) (v := hf 4 (f 1 w)) C (by first | omega | (simp [up2, *]; done) | (simp [up2, *]; omega) | (simp only [up2_eq]; omega) | (split <;> omega)) rfl dX4_isFull_10 ?_
  refine r_bipush (v := (nI 12)) C dX4_isFull_11 (by decide) ?_
  refine r_icN_ne (a := (hf 4 (f 1 w))) (b := 12) (tgt := 20) C (by first | omega | (simp [up2, *]; done) | (simp [up2, *]; omega) | (simp only [up2_eq]; omega) | (split <;> omega)) (by first | omega | (simp [up2, *]; done) | (simp [up2, *]; omega) | (simp only [up2_eq]; omega) | (split <;> omega)) dX4_isFull_13 (by decide) (fun h13_1 => ?_) (fun h13_1 => ?_)
  · first
    | exfalso; first | omega | contradiction
    | skip
      refine r_iconst (v := (nI 0)) C dX4_isFull_20 (by decide) ?_
      exact r_zret C hr (by first | omega | (simp [up2, *]; done) | (simp [up2, *]; omega) | (simp only [up2_eq]; omega) | (split <;> omega)) dX4_isFull_21 ⟨rfl, rfl⟩ (Nat.le_of_ble_eq_true rfl) (Nat.le_of_ble_eq_true rfl)
  · first
    | exfalso; first | omega | contradiction
    | skip
      refine r_iconst (v := (nI 1)) C dX4_isFull_16 (by decide) ?_
      refine r_goto (tgt := 21) C dX4_isFull_17 (by decide) ?_
      exact r_zret C hr (by first | omega | (simp [up2, *]; done) | (simp [up2, *]; omega) | (simp only [up2_eq]; omega) | (split <;> omega)) dX4_isFull_21 ⟨rfl, rfl⟩ (Nat.le_of_ble_eq_true rfl) (Nat.le_of_ble_eq_true rfl)
theorem dX4_firstOf_0 : decode cX4_firstOf 0 = .ok (.aload_n 0, 1) := dqo_42 (kb_of ke_X4_firstOf 0 rfl)
theorem dX4_firstOf_1 : decode cX4_firstOf 1 = .ok (.iload_n 1, 1) := dqo_27 (kb_of ke_X4_firstOf 1 rfl)
theorem dX4_firstOf_2 : decode cX4_firstOf 2 = .ok (.invokevirtual 59, 3) := dqo_182 0 59 (kb_of ke_X4_firstOf 2 rfl) (kb_of ke_X4_firstOf 3 rfl) (kb_of ke_X4_firstOf 4 rfl)
theorem dX4_firstOf_5 : decode cX4_firstOf 5 = .ok (.ifCond .ne 8, 3) := dqo_154 0 8 (by decide) (kb_of ke_X4_firstOf 5 rfl) (kb_of ke_X4_firstOf 6 rfl) (kb_of ke_X4_firstOf 7 rfl)
theorem dX4_firstOf_8 : decode cX4_firstOf 8 = .ok (.bipush 100, 2) := dqo_16 100 (by decide) (kb_of ke_X4_firstOf 8 rfl) (kb_of ke_X4_firstOf 9 rfl)
theorem dX4_firstOf_10 : decode cX4_firstOf 10 = .ok (.goto 9, 3) := dqo_167 0 9 (by decide) (kb_of ke_X4_firstOf 10 rfl) (kb_of ke_X4_firstOf 11 rfl) (kb_of ke_X4_firstOf 12 rfl)
theorem dX4_firstOf_19 : decode cX4_firstOf 19 = .ok (.ireturn, 1) := dqo_172 (kb_of ke_X4_firstOf 19 rfl)
set_option maxRecDepth 100000 in
set_option maxHeartbeats 4000000 in
theorem D_firstOf0 {l : Launch} {D : va_G} {cy : Nat → ClassId} {X : (Nat → Prop) → State → Heap → Prop} {ba ra : Nat → Nat} {hf : Nat → Nat → Nat} {hq : Nat → Nat → Int32} {kn th : Int32} {sm : Int64} {Y : va_W} {w : Nat} (hX : EnvM X cy) (hw : w < 8) (hz : hf 4 w = 0) : Cd l D cy X yX4_firstOf cX4_firstOf 2 (some .int) (rmz 1 30) [.ref (ba 9), .int (nI w)] (WM cy ba ra hf hq kn th sm ++ Y) (some (.int (nI 100))) (WM cy ba ra hf hq kn th sm ++ Y) := by
  refine Cm.of [some (.ref (ba 9)), some (.int (nI w))] pn_X4 rfl (Nat.le_of_ble_eq_true rfl) ?_
  intro p e s m args below meth c A C hE hr hnt hn
  refine r_aload_n C dX4_firstOf_0 rfl ?_
  refine r_iload_n C dX4_firstOf_1 rfl ?_
  refine d_V (st := []) hX.1.stb C hE (D_sizeOf (ba := ba) (ra := ra) (hf := hf) (hq := hq) (kn := kn) (th := th) (sm := sm) (Y := Y) (w := w) hX (by first | omega | (simp [up2, *]; done) | (simp [up2, *]; omega) | (simp only [up2_eq]; omega) | (split <;> omega))) pk_X4_sizeOf qm_X4_59 0 8 rfl rfl wm_0 rfl rfl (Nat.le_of_ble_eq_true rfl) dX4_firstOf_2 ⟨(Nat.le_of_ble_eq_true rfl), (Nat.le_of_ble_eq_true rfl)⟩ ⟨(Nat.le_of_ble_eq_true rfl), (Nat.le_of_ble_eq_true rfl)⟩ ?_
  refine r_w (w' := WM cy ba ra hf hq kn th sm ++ Y) rfl ?_
  refine r_ifN_ne (a := (hf 4 w)) (tgt := 13) C (by first | omega | (simp [up2, *]; done) | (simp [up2, *]; omega) | (simp only [up2_eq]; omega) | (split <;> omega)) dX4_firstOf_5 (by decide) (fun h5_1 => ?_) (fun h5_1 => ?_)
  · exact absurd h5_1 (by first | omega | (simp [up2, *]; done) | (simp [up2, *]; omega) | (simp only [up2_eq]; omega) | (split <;> omega))
  · skip
    refine r_bipush (v := (nI 100)) C dX4_firstOf_8 (by decide) ?_
    refine r_goto (tgt := 19) C dX4_firstOf_10 (by decide) ?_
    exact r_iret C hr dX4_firstOf_19 ⟨rfl, rfl⟩ (Nat.le_of_ble_eq_true rfl) (Nat.le_of_ble_eq_true rfl)
theorem dX4_firstOf_13 : decode cX4_firstOf 13 = .ok (.aload_n 0, 1) := dqo_42 (kb_of ke_X4_firstOf 13 rfl)
theorem dX4_firstOf_14 : decode cX4_firstOf 14 = .ok (.iload_n 1, 1) := dqo_27 (kb_of ke_X4_firstOf 14 rfl)
theorem dX4_firstOf_15 : decode cX4_firstOf 15 = .ok (.iconst 0, 1) := dqo_3 (kb_of ke_X4_firstOf 15 rfl)
theorem dX4_firstOf_16 : decode cX4_firstOf 16 = .ok (.invokevirtual 62, 3) := dqo_182 0 62 (kb_of ke_X4_firstOf 16 rfl) (kb_of ke_X4_firstOf 17 rfl) (kb_of ke_X4_firstOf 18 rfl)
set_option maxRecDepth 100000 in
set_option maxHeartbeats 4000000 in
theorem D_firstOf1 {l : Launch} {D : va_G} {cy : Nat → ClassId} {X : (Nat → Prop) → State → Heap → Prop} {ba ra : Nat → Nat} {hf : Nat → Nat → Nat} {hq : Nat → Nat → Int32} {kn th : Int32} {sm : Int64} {Y : va_W} {f : Nat → Nat → Nat} {w : Nat} (hX : EnvM X cy) (hC : CInv f) (hG : MG f hf) (hw : w < 8) (h5w : f 5 w = 1) (hb : f 3 w + hf 4 w ≤ hf 4 (f 1 w)) (h12 : hf 4 (f 1 w) ≤ 12) (hz : 0 < hf 4 w) : Cd l D cy X yX4_firstOf cX4_firstOf 2 (some .int) (rmz 6 190) [.ref (ba 9), .int (nI w)] (WM cy ba ra hf hq kn th sm ++ Y) (some (.int (hq (f 1 w) (f 3 w)))) (WM cy ba ra hf hq kn th sm ++ Y) := by
  refine Cm.of [some (.ref (ba 9)), some (.int (nI w))] pn_X4 rfl (Nat.le_of_ble_eq_true rfl) ?_
  intro p e s m args below meth c A C hE hr hnt hn
  refine r_aload_n C dX4_firstOf_0 rfl ?_
  refine r_iload_n C dX4_firstOf_1 rfl ?_
  refine d_V (st := []) hX.1.stb C hE (D_sizeOf (ba := ba) (ra := ra) (hf := hf) (hq := hq) (kn := kn) (th := th) (sm := sm) (Y := Y) (w := w) hX (by first | omega | (simp [up2, *]; done) | (simp [up2, *]; omega) | (simp only [up2_eq]; omega) | (split <;> omega))) pk_X4_sizeOf qm_X4_59 0 8 rfl rfl wm_0 rfl rfl (Nat.le_of_ble_eq_true rfl) dX4_firstOf_2 ⟨(Nat.le_of_ble_eq_true rfl), (Nat.le_of_ble_eq_true rfl)⟩ ⟨(Nat.le_of_ble_eq_true rfl), (Nat.le_of_ble_eq_true rfl)⟩ ?_
  refine r_w (w' := WM cy ba ra hf hq kn th sm ++ Y) rfl ?_
  refine r_ifN_ne (a := (hf 4 w)) (tgt := 13) C (by first | omega | (simp [up2, *]; done) | (simp [up2, *]; omega) | (simp only [up2_eq]; omega) | (split <;> omega)) dX4_firstOf_5 (by decide) (fun h5_1 => ?_) (fun h5_1 => ?_)
  · skip
    refine r_aload_n C dX4_firstOf_13 rfl ?_
    refine r_iload_n C dX4_firstOf_14 rfl ?_
    refine r_iconst (v := (nI 0)) C dX4_firstOf_15 (by decide) ?_
    refine d_V (st := []) hX.1.stb C hE (D_item (ba := ba) (ra := ra) (hf := hf) (hq := hq) (kn := kn) (th := th) (sm := sm) (Y := Y) (f := f) (w := w) (k := 0) hX hC (MG.same (fun _ => rfl) (fun _ => rfl) hG) (by first | omega | (simp [up2, *]; done) | (simp [up2, *]; omega) | (simp only [up2_eq]; omega) | (split <;> omega)) (by first | omega | (simp [up2, *]; done) | (simp [up2, *]; omega) | (simp only [up2_eq]; omega) | (split <;> omega)) (by first | omega | (simp [up2, *]; done) | (simp [up2, *]; omega) | (simp only [up2_eq]; omega) | (split <;> omega)) (by first | omega | (simp [up2, *]; done) | (simp [up2, *]; omega) | (simp only [up2_eq]; omega) | (split <;> omega))) pk_X4_item qm_X4_62 0 8 rfl rfl wm_0 rfl rfl (Nat.le_of_ble_eq_true rfl) dX4_firstOf_16 ⟨(Nat.le_of_ble_eq_true rfl), (Nat.le_of_ble_eq_true rfl)⟩ ⟨(Nat.le_of_ble_eq_true rfl), (Nat.le_of_ble_eq_true rfl)⟩ ?_
    refine r_w (w' := WM cy ba ra hf hq kn th sm ++ Y) rfl ?_
    exact r_iret C hr dX4_firstOf_19 ⟨rfl, rfl⟩ (Nat.le_of_ble_eq_true rfl) (Nat.le_of_ble_eq_true rfl)
  · exact absurd h5_1 (by first | omega | (simp [up2, *]; done) | (simp [up2, *]; omega) | (simp only [up2_eq]; omega) | (split <;> omega))
theorem dX4_gone_0 : decode cX4_gone 0 = .ok (.aload_n 0, 1) := dqo_42 (kb_of ke_X4_gone 0 rfl)
theorem dX4_gone_1 : decode cX4_gone 1 = .ok (.getfield 18, 3) := dqo_180 0 18 (kb_of ke_X4_gone 1 rfl) (kb_of ke_X4_gone 2 rfl) (kb_of ke_X4_gone 3 rfl)
theorem dX4_gone_4 : decode cX4_gone 4 = .ok (.iload_n 1, 1) := dqo_27 (kb_of ke_X4_gone 4 rfl)
theorem dX4_gone_5 : decode cX4_gone 5 = .ok (.iconst 0, 1) := dqo_3 (kb_of ke_X4_gone 5 rfl)
theorem dX4_gone_6 : decode cX4_gone 6 = .ok (.bastore, 1) := dqo_84 (kb_of ke_X4_gone 6 rfl)
theorem dX4_gone_7 : decode cX4_gone 7 = .ok (.iconst 0, 1) := dqo_3 (kb_of ke_X4_gone 7 rfl)
theorem dX4_gone_8 : decode cX4_gone 8 = .ok (.istore_n 2, 1) := dqo_61 (kb_of ke_X4_gone 8 rfl)
theorem dX4_gone_9 : decode cX4_gone 9 = .ok (.iload_n 2, 1) := dqo_28 (kb_of ke_X4_gone 9 rfl)
theorem dX4_gone_10 : decode cX4_gone 10 = .ok (.iconst 3, 1) := dqo_6 (kb_of ke_X4_gone 10 rfl)
theorem dX4_gone_11 : decode cX4_gone 11 = .ok (.if_icmp .ge 35, 3) := dqo_162 0 35 (by decide) (kb_of ke_X4_gone 11 rfl) (kb_of ke_X4_gone 12 rfl) (kb_of ke_X4_gone 13 rfl)
theorem dX4_gone_14 : decode cX4_gone 14 = .ok (.aload_n 0, 1) := dqo_42 (kb_of ke_X4_gone 14 rfl)
theorem dX4_gone_15 : decode cX4_gone 15 = .ok (.getfield 32, 3) := dqo_180 0 32 (kb_of ke_X4_gone 15 rfl) (kb_of ke_X4_gone 16 rfl) (kb_of ke_X4_gone 17 rfl)
theorem dX4_gone_18 : decode cX4_gone 18 = .ok (.iload_n 2, 1) := dqo_28 (kb_of ke_X4_gone 18 rfl)
theorem dX4_gone_19 : decode cX4_gone 19 = .ok (.dup2, 1) := dqo_92 (kb_of ke_X4_gone 19 rfl)
theorem dX4_gone_20 : decode cX4_gone 20 = .ok (.baload, 1) := dqo_51 (kb_of ke_X4_gone 20 rfl)
theorem dX4_gone_21 : decode cX4_gone 21 = .ok (.aload_n 0, 1) := dqo_42 (kb_of ke_X4_gone 21 rfl)
theorem dX4_gone_22 : decode cX4_gone 22 = .ok (.getfield 35, 3) := dqo_180 0 35 (kb_of ke_X4_gone 22 rfl) (kb_of ke_X4_gone 23 rfl) (kb_of ke_X4_gone 24 rfl)
theorem dX4_gone_25 : decode cX4_gone 25 = .ok (.iload_n 2, 1) := dqo_28 (kb_of ke_X4_gone 25 rfl)
theorem dX4_gone_26 : decode cX4_gone 26 = .ok (.iaload, 1) := dqo_46 (kb_of ke_X4_gone 26 rfl)
theorem dX4_gone_27 : decode cX4_gone 27 = .ok (.iconst 4, 1) := dqo_7 (kb_of ke_X4_gone 27 rfl)
theorem dX4_gone_28 : decode cX4_gone 28 = .ok (.iload_n 1, 1) := dqo_27 (kb_of ke_X4_gone 28 rfl)
theorem dX4_gone_29 : decode cX4_gone 29 = .ok (.iadd, 1) := dqo_96 (kb_of ke_X4_gone 29 rfl)
theorem dX4_gone_30 : decode cX4_gone 30 = .ok (.if_icmp .eq 7, 3) := dqo_159 0 7 (by decide) (kb_of ke_X4_gone 30 rfl) (kb_of ke_X4_gone 31 rfl) (kb_of ke_X4_gone 32 rfl)
theorem dX4_gone_33 : decode cX4_gone 33 = .ok (.iconst 1, 1) := dqo_4 (kb_of ke_X4_gone 33 rfl)
theorem dX4_gone_34 : decode cX4_gone 34 = .ok (.goto 4, 3) := dqo_167 0 4 (by decide) (kb_of ke_X4_gone 34 rfl) (kb_of ke_X4_gone 35 rfl) (kb_of ke_X4_gone 36 rfl)
theorem dX4_gone_37 : decode cX4_gone 37 = .ok (.iconst 0, 1) := dqo_3 (kb_of ke_X4_gone 37 rfl)
theorem dX4_gone_38 : decode cX4_gone 38 = .ok (.iand, 1) := dqo_126 (kb_of ke_X4_gone 38 rfl)
theorem dX4_gone_39 : decode cX4_gone 39 = .ok (.bastore, 1) := dqo_84 (kb_of ke_X4_gone 39 rfl)
theorem dX4_gone_40 : decode cX4_gone 40 = .ok (.iinc 2 1, 3) := dqo_132 2 1 (by decide) (kb_of ke_X4_gone 40 rfl) (kb_of ke_X4_gone 41 rfl) (kb_of ke_X4_gone 42 rfl)
theorem dX4_gone_43 : decode cX4_gone 43 = .ok (.goto (-34), 3) := dqo_167 255 222 (by decide) (kb_of ke_X4_gone 43 rfl) (kb_of ke_X4_gone 44 rfl) (kb_of ke_X4_gone 45 rfl)
theorem dX4_gone_46 : decode cX4_gone 46 = .ok (.return_, 1) := dqo_177 (kb_of ke_X4_gone 46 rfl)
set_option maxRecDepth 100000 in
set_option maxHeartbeats 4000000 in
theorem D_gone {l : Launch} {D : va_G} {cy : Nat → ClassId} {X : (Nat → Prop) → State → Heap → Prop} {ba ra : Nat → Nat} {hf : Nat → Nat → Nat} {hq : Nat → Nat → Int32} {kn th : Int32} {sm : Int64} {Y : va_W} {g0 : Nat} (hX : EnvM X cy) (hg : g0 < 4) (h9a : ∀ k, k < 3 → hf 9 k ≤ 1) (h6a : ∀ k, k < 3 → hf 6 k < 8) : Cd l D cy X yX4_gone cX4_gone 3 none (rmz 0 0) [.ref (ba 9), .int (nI g0)] (WM cy ba ra hf hq kn th sm ++ Y) none (WM cy ba ra (dcF (up2 hf 5 (4 + g0) 0) (4 + g0) 3) hq kn th sm ++ Y) := by
  refine Cm.of [some (.ref (ba 9)), some (.int (nI g0)), none] pn_X4 rfl (Nat.le_of_ble_eq_true rfl) ?_
  intro p e s m args below meth c A C hE hr hnt hn
  refine r_aload_n C dX4_gone_0 rfl ?_
  refine m_get (v := .ref (ba 1)) C 1 (by decide) qf_X4_18 rfl rfl dX4_gone_1 ?_
  refine r_iload_n C dX4_gone_4 rfl ?_
  refine r_iconst (v := (nI 0)) C dX4_gone_5 (by decide) ?_
  refine m_zst (i := g0) (z := 4 + g0) (v := 0) C 0 (by decide) (by decide) (show g0 < 4 from (by first | omega | (simp [up2, *]; done) | (simp [up2, *]; omega) | (simp only [up2_eq]; omega) | (split <;> omega))) (show 4 + g0 = 4 + g0 from (by omega)) (by first | omega | (simp [up2, *]; done) | (simp [up2, *]; omega) | (simp only [up2_eq]; omega) | (split <;> omega)) dX4_gone_6 ?_
  refine r_w (w' := WM cy ba ra (up2 hf 5 (4 + g0) 0) hq kn th sm ++ Y) rfl ?_
  refine r_iconst (v := (nI 0)) C dX4_gone_7 (by decide) ?_
  refine r_istore_n C dX4_gone_8 (by decide) rfl ?_
  refine r_w (w' := WM cy ba ra (dcF (up2 hf 5 (4 + g0) 0) (4 + g0) 0) hq kn th sm ++ Y) (by rw [dcF_0]) ?_
  have L9 : ∀ (d : Nat) (k : Nat), (hk : k + d = 3) → vC p l e (rmz 0 0) s m args below meth c D A (vx_MQ below (vG (fun v1 w1 => v1 = none ∧ w1 = WM cy ba ra (dcF (up2 hf 5 (4 + g0) 0) (4 + g0) 3) hq kn th sm ++ Y) D vwCl A) (vGX (fun _ => False) D vwCl (WM cy ba ra hf hq kn th sm ++ Y) A) args s (rmz 0 0).cells (rmz 0 0).slots A) 3 0 0 (WM cy ba ra (dcF (up2 hf 5 (4 + g0) 0) (4 + g0) k) hq kn th sm ++ Y) [some (.ref (ba 9)), some (.int (nI g0)), some (.int (nI k))] 9 [] := by
    intro d
    induction d with
    | zero =>
      intro k hk
      refine r_iload_n C dX4_gone_9 rfl ?_
      refine r_iconst (v := (nI 3)) C dX4_gone_10 (by decide) ?_
      refine r_icN_ge (a := k) (b := 3) (tgt := 46) C (by first | omega | (simp [up2, *]; done) | (simp [up2, *]; omega) | (simp only [up2_eq]; omega) | (split <;> omega)) (by first | omega | (simp [up2, *]; done) | (simp [up2, *]; omega) | (simp only [up2_eq]; omega) | (split <;> omega)) dX4_gone_11 (by decide) (fun h11_1 => ?_) (fun h11_1 => ?_)
      · first
        | exfalso; first | omega | contradiction
        | skip
          have e9 : k = 3 := by omega
          subst e9
          exact r_vret C hr dX4_gone_46 ⟨rfl, rfl⟩ (Nat.le_of_ble_eq_true rfl) (Nat.le_of_ble_eq_true rfl)
      · first
        | exfalso; first | omega | contradiction
        | skip
          refine r_aload_n C dX4_gone_14 rfl ?_
          refine m_get (v := .ref (ba 5)) C 5 (by decide) qf_X4_32 rfl rfl dX4_gone_15 ?_
          refine r_iload_n C dX4_gone_18 rfl ?_
          refine r_dup2 C dX4_gone_19 rfl rfl ?_
          refine m_zld (i := k) (z := k) (v := (dcF (up2 hf 5 (4 + g0) 0) (4 + g0) k) 9 k) C 4 (by decide) (by decide) (show k < 3 from (by first | omega | (simp [up2, *]; done) | (simp [up2, *]; omega) | (simp only [up2_eq]; omega) | (split <;> omega))) (show 0 + k = k from (by omega)) rfl dX4_gone_20 ?_
          refine r_aload_n C dX4_gone_21 rfl ?_
          refine m_get (v := .ref (ba 6)) C 6 (by decide) qf_X4_35 rfl rfl dX4_gone_22 ?_
          refine r_iload_n C dX4_gone_25 rfl ?_
          refine m_ald (i := k) (z := k) (v := hf 6 k) C 5 (by decide) (by decide) (show k < 3 from (by first | omega | (simp [up2, *]; done) | (simp [up2, *]; omega) | (simp only [up2_eq]; omega) | (split <;> omega))) (show 0 + k = k from (by omega)) rfl dX4_gone_26 ?_
          refine r_iconst (v := (nI 4)) C dX4_gone_27 (by decide) ?_
          refine r_iload_n C dX4_gone_28 rfl ?_
          refine r_iaddN C dX4_gone_29 ?_
          refine r_icN_eq (a := (hf 6 k)) (b := (4 + g0)) (tgt := 37) C (by have := h6a k (by omega); omega) (by first | omega | (simp [up2, *]; done) | (simp [up2, *]; omega) | (simp only [up2_eq]; omega) | (split <;> omega)) dX4_gone_30 (by decide) (fun h30_2 => ?_) (fun h30_2 => ?_)
          · first
            | exfalso; first | omega | contradiction
            | skip
              refine r_iconst (v := (nI 0)) C dX4_gone_37 (by decide) ?_
              refine r_iandB (a := (dcF (up2 hf 5 (4 + g0) 0) (4 + g0) k) 9 k) (b := 0) (v := 0) C (dcF_le (h9a k (by omega))) (by first | omega | (simp [up2, *]; done) | (simp [up2, *]; omega) | (simp only [up2_eq]; omega) | (split <;> omega)) rfl dX4_gone_38 ?_
              refine m_zst (i := k) (z := k) (v := 0) C 4 (by decide) (by decide) (show k < 3 from (by first | omega | (simp [up2, *]; done) | (simp [up2, *]; omega) | (simp only [up2_eq]; omega) | (split <;> omega))) (show 0 + k = k from (by omega)) (by first | decide | exact dcF_le (h9a k (by omega))) dX4_gone_39 ?_
              refine r_w (w' := WM cy ba ra (up2 (dcF (up2 hf 5 (4 + g0) 0) (4 + g0) k) 9 k 0) hq kn th sm ++ Y) rfl ?_
              refine r_iincN C dX4_gone_40 rfl (by decide) rfl ?_
              refine r_goto (tgt := 9) C dX4_gone_43 (by decide) ?_
              refine r_w (w' := WM cy ba ra (dcF (up2 hf 5 (4 + g0) 0) (4 + g0) (k + 1)) hq kn th sm ++ Y) (by rw [dcF_yes (f := up2 hf 5 (4 + g0) 0) (show hf 6 k = 4 + g0 by omega)]) ?_
              exact (Nat.not_lt_zero _ (by omega)).elim
          · first
            | exfalso; first | omega | contradiction
            | skip
              refine r_iconst (v := (nI 1)) C dX4_gone_33 (by decide) ?_
              refine r_goto (tgt := 38) C dX4_gone_34 (by decide) ?_
              refine r_iandB (a := (dcF (up2 hf 5 (4 + g0) 0) (4 + g0) k) 9 k) (b := 1) (v := (dcF (up2 hf 5 (4 + g0) 0) (4 + g0) k) 9 k) C (dcF_le (h9a k (by omega))) (by first | omega | (simp [up2, *]; done) | (simp [up2, *]; omega) | (simp only [up2_eq]; omega) | (split <;> omega)) rfl dX4_gone_38 ?_
              refine m_zst (i := k) (z := k) (v := (dcF (up2 hf 5 (4 + g0) 0) (4 + g0) k) 9 k) C 4 (by decide) (by decide) (show k < 3 from (by first | omega | (simp [up2, *]; done) | (simp [up2, *]; omega) | (simp only [up2_eq]; omega) | (split <;> omega))) (show 0 + k = k from (by omega)) (by first | decide | exact dcF_le (h9a k (by omega))) dX4_gone_39 ?_
              refine r_w (w' := WM cy ba ra (up2 (dcF (up2 hf 5 (4 + g0) 0) (4 + g0) k) 9 k ((dcF (up2 hf 5 (4 + g0) 0) (4 + g0) k) 9 k)) hq kn th sm ++ Y) rfl ?_
              refine r_iincN C dX4_gone_40 rfl (by decide) rfl ?_
              refine r_goto (tgt := 9) C dX4_gone_43 (by decide) ?_
              refine r_w (w' := WM cy ba ra (dcF (up2 hf 5 (4 + g0) 0) (4 + g0) (k + 1)) hq kn th sm ++ Y) (by rw [up2_same, dcF_no (f := up2 hf 5 (4 + g0) 0) (show hf 6 k ≠ 4 + g0 by omega)]) ?_
              exact (Nat.not_lt_zero _ (by omega)).elim
    | succ d ih_L9 =>
      intro k hk
      refine r_iload_n C dX4_gone_9 rfl ?_
      refine r_iconst (v := (nI 3)) C dX4_gone_10 (by decide) ?_
      refine r_icN_ge (a := k) (b := 3) (tgt := 46) C (by first | omega | (simp [up2, *]; done) | (simp [up2, *]; omega) | (simp only [up2_eq]; omega) | (split <;> omega)) (by first | omega | (simp [up2, *]; done) | (simp [up2, *]; omega) | (simp only [up2_eq]; omega) | (split <;> omega)) dX4_gone_11 (by decide) (fun h11_3 => ?_) (fun h11_3 => ?_)
      · first
        | exfalso; first | omega | contradiction
        | skip
          have e9 : k = 3 := by omega
          subst e9
          exact r_vret C hr dX4_gone_46 ⟨rfl, rfl⟩ (Nat.le_of_ble_eq_true rfl) (Nat.le_of_ble_eq_true rfl)
      · first
        | exfalso; first | omega | contradiction
        | skip
          refine r_aload_n C dX4_gone_14 rfl ?_
          refine m_get (v := .ref (ba 5)) C 5 (by decide) qf_X4_32 rfl rfl dX4_gone_15 ?_
          refine r_iload_n C dX4_gone_18 rfl ?_
          refine r_dup2 C dX4_gone_19 rfl rfl ?_
          refine m_zld (i := k) (z := k) (v := (dcF (up2 hf 5 (4 + g0) 0) (4 + g0) k) 9 k) C 4 (by decide) (by decide) (show k < 3 from (by first | omega | (simp [up2, *]; done) | (simp [up2, *]; omega) | (simp only [up2_eq]; omega) | (split <;> omega))) (show 0 + k = k from (by omega)) rfl dX4_gone_20 ?_
          refine r_aload_n C dX4_gone_21 rfl ?_
          refine m_get (v := .ref (ba 6)) C 6 (by decide) qf_X4_35 rfl rfl dX4_gone_22 ?_
          refine r_iload_n C dX4_gone_25 rfl ?_
          refine m_ald (i := k) (z := k) (v := hf 6 k) C 5 (by decide) (by decide) (show k < 3 from (by first | omega | (simp [up2, *]; done) | (simp [up2, *]; omega) | (simp only [up2_eq]; omega) | (split <;> omega))) (show 0 + k = k from (by omega)) rfl dX4_gone_26 ?_
          refine r_iconst (v := (nI 4)) C dX4_gone_27 (by decide) ?_
          refine r_iload_n C dX4_gone_28 rfl ?_
          refine r_iaddN C dX4_gone_29 ?_
          refine r_icN_eq (a := (hf 6 k)) (b := (4 + g0)) (tgt := 37) C (by have := h6a k (by omega); omega) (by first | omega | (simp [up2, *]; done) | (simp [up2, *]; omega) | (simp only [up2_eq]; omega) | (split <;> omega)) dX4_gone_30 (by decide) (fun h30_4 => ?_) (fun h30_4 => ?_)
          · first
            | exfalso; first | omega | contradiction
            | skip
              refine r_iconst (v := (nI 0)) C dX4_gone_37 (by decide) ?_
              refine r_iandB (a := (dcF (up2 hf 5 (4 + g0) 0) (4 + g0) k) 9 k) (b := 0) (v := 0) C (dcF_le (h9a k (by omega))) (by first | omega | (simp [up2, *]; done) | (simp [up2, *]; omega) | (simp only [up2_eq]; omega) | (split <;> omega)) rfl dX4_gone_38 ?_
              refine m_zst (i := k) (z := k) (v := 0) C 4 (by decide) (by decide) (show k < 3 from (by first | omega | (simp [up2, *]; done) | (simp [up2, *]; omega) | (simp only [up2_eq]; omega) | (split <;> omega))) (show 0 + k = k from (by omega)) (by first | decide | exact dcF_le (h9a k (by omega))) dX4_gone_39 ?_
              refine r_w (w' := WM cy ba ra (up2 (dcF (up2 hf 5 (4 + g0) 0) (4 + g0) k) 9 k 0) hq kn th sm ++ Y) rfl ?_
              refine r_iincN C dX4_gone_40 rfl (by decide) rfl ?_
              refine r_goto (tgt := 9) C dX4_gone_43 (by decide) ?_
              refine r_w (w' := WM cy ba ra (dcF (up2 hf 5 (4 + g0) 0) (4 + g0) (k + 1)) hq kn th sm ++ Y) (by rw [dcF_yes (f := up2 hf 5 (4 + g0) 0) (show hf 6 k = 4 + g0 by omega)]) ?_
              exact ih_L9 (k + 1) (by first | omega | (simp [up2, *]; done) | (simp [up2, *]; omega) | (simp only [up2_eq]; omega) | (split <;> omega))
          · first
            | exfalso; first | omega | contradiction
            | skip
              refine r_iconst (v := (nI 1)) C dX4_gone_33 (by decide) ?_
              refine r_goto (tgt := 38) C dX4_gone_34 (by decide) ?_
              refine r_iandB (a := (dcF (up2 hf 5 (4 + g0) 0) (4 + g0) k) 9 k) (b := 1) (v := (dcF (up2 hf 5 (4 + g0) 0) (4 + g0) k) 9 k) C (dcF_le (h9a k (by omega))) (by first | omega | (simp [up2, *]; done) | (simp [up2, *]; omega) | (simp only [up2_eq]; omega) | (split <;> omega)) rfl dX4_gone_38 ?_
              refine m_zst (i := k) (z := k) (v := (dcF (up2 hf 5 (4 + g0) 0) (4 + g0) k) 9 k) C 4 (by decide) (by decide) (show k < 3 from (by first | omega | (simp [up2, *]; done) | (simp [up2, *]; omega) | (simp only [up2_eq]; omega) | (split <;> omega))) (show 0 + k = k from (by omega)) (by first | decide | exact dcF_le (h9a k (by omega))) dX4_gone_39 ?_
              refine r_w (w' := WM cy ba ra (up2 (dcF (up2 hf 5 (4 + g0) 0) (4 + g0) k) 9 k ((dcF (up2 hf 5 (4 + g0) 0) (4 + g0) k) 9 k)) hq kn th sm ++ Y) rfl ?_
              refine r_iincN C dX4_gone_40 rfl (by decide) rfl ?_
              refine r_goto (tgt := 9) C dX4_gone_43 (by decide) ?_
              refine r_w (w' := WM cy ba ra (dcF (up2 hf 5 (4 + g0) 0) (4 + g0) (k + 1)) hq kn th sm ++ Y) (by rw [up2_same, dcF_no (f := up2 hf 5 (4 + g0) 0) (show hf 6 k ≠ 4 + g0 by omega)]) ?_
              exact ih_L9 (k + 1) (by first | omega | (simp [up2, *]; done) | (simp [up2, *]; omega) | (simp only [up2_eq]; omega) | (split <;> omega))
  exact L9 3 0 (by first | omega | (simp [up2, *]; done) | (simp [up2, *]; omega) | (simp only [up2_eq]; omega) | (split <;> omega))
theorem pk_X4_gone : PkV RX4 yX4_gone cX4_gone 3 none 1 := ⟨⟨qi_X4_gone, qs_X4_gone, qz_X4, qc_X4_gone⟩, rfl, mh_X4.1, mh_X4.2, pd_6⟩
theorem dX4_goneWithAll_0 : decode cX4_goneWithAll 0 = .ok (.iconst 0, 1) := dqo_3 (kb_of ke_X4_goneWithAll 0 rfl)
theorem dX4_goneWithAll_1 : decode cX4_goneWithAll 1 = .ok (.istore_n 2, 1) := dqo_61 (kb_of ke_X4_goneWithAll 1 rfl)
theorem dX4_goneWithAll_2 : decode cX4_goneWithAll 2 = .ok (.iload_n 2, 1) := dqo_28 (kb_of ke_X4_goneWithAll 2 rfl)
theorem dX4_goneWithAll_3 : decode cX4_goneWithAll 3 = .ok (.iconst 4, 1) := dqo_7 (kb_of ke_X4_goneWithAll 3 rfl)
theorem dX4_goneWithAll_4 : decode cX4_goneWithAll 4 = .ok (.if_icmp .ge 41, 3) := dqo_162 0 41 (by decide) (kb_of ke_X4_goneWithAll 4 rfl) (kb_of ke_X4_goneWithAll 5 rfl) (kb_of ke_X4_goneWithAll 6 rfl)
theorem dX4_goneWithAll_7 : decode cX4_goneWithAll 7 = .ok (.aload_n 0, 1) := dqo_42 (kb_of ke_X4_goneWithAll 7 rfl)
theorem dX4_goneWithAll_8 : decode cX4_goneWithAll 8 = .ok (.getfield 18, 3) := dqo_180 0 18 (kb_of ke_X4_goneWithAll 8 rfl) (kb_of ke_X4_goneWithAll 9 rfl) (kb_of ke_X4_goneWithAll 10 rfl)
theorem dX4_goneWithAll_11 : decode cX4_goneWithAll 11 = .ok (.iload_n 2, 1) := dqo_28 (kb_of ke_X4_goneWithAll 11 rfl)
theorem dX4_goneWithAll_12 : decode cX4_goneWithAll 12 = .ok (.baload, 1) := dqo_51 (kb_of ke_X4_goneWithAll 12 rfl)
theorem dX4_goneWithAll_13 : decode cX4_goneWithAll 13 = .ok (.ifCond .eq 26, 3) := dqo_153 0 26 (by decide) (kb_of ke_X4_goneWithAll 13 rfl) (kb_of ke_X4_goneWithAll 14 rfl) (kb_of ke_X4_goneWithAll 15 rfl)
theorem dX4_goneWithAll_16 : decode cX4_goneWithAll 16 = .ok (.iload_n 2, 1) := dqo_28 (kb_of ke_X4_goneWithAll 16 rfl)
theorem dX4_goneWithAll_17 : decode cX4_goneWithAll 17 = .ok (.iload_n 1, 1) := dqo_27 (kb_of ke_X4_goneWithAll 17 rfl)
theorem dX4_goneWithAll_18 : decode cX4_goneWithAll 18 = .ok (.if_icmp .eq 21, 3) := dqo_159 0 21 (by decide) (kb_of ke_X4_goneWithAll 18 rfl) (kb_of ke_X4_goneWithAll 19 rfl) (kb_of ke_X4_goneWithAll 20 rfl)
theorem dX4_goneWithAll_21 : decode cX4_goneWithAll 21 = .ok (.aload_n 0, 1) := dqo_42 (kb_of ke_X4_goneWithAll 21 rfl)
theorem dX4_goneWithAll_22 : decode cX4_goneWithAll 22 = .ok (.iconst 4, 1) := dqo_7 (kb_of ke_X4_goneWithAll 22 rfl)
theorem dX4_goneWithAll_23 : decode cX4_goneWithAll 23 = .ok (.iload_n 1, 1) := dqo_27 (kb_of ke_X4_goneWithAll 23 rfl)
theorem dX4_goneWithAll_24 : decode cX4_goneWithAll 24 = .ok (.iadd, 1) := dqo_96 (kb_of ke_X4_goneWithAll 24 rfl)
theorem dX4_goneWithAll_25 : decode cX4_goneWithAll 25 = .ok (.iconst 4, 1) := dqo_7 (kb_of ke_X4_goneWithAll 25 rfl)
theorem dX4_goneWithAll_26 : decode cX4_goneWithAll 26 = .ok (.iload_n 2, 1) := dqo_28 (kb_of ke_X4_goneWithAll 26 rfl)
theorem dX4_goneWithAll_27 : decode cX4_goneWithAll 27 = .ok (.iadd, 1) := dqo_96 (kb_of ke_X4_goneWithAll 27 rfl)
theorem dX4_goneWithAll_28 : decode cX4_goneWithAll 28 = .ok (.invokevirtual 66, 3) := dqo_182 0 66 (kb_of ke_X4_goneWithAll 28 rfl) (kb_of ke_X4_goneWithAll 29 rfl) (kb_of ke_X4_goneWithAll 30 rfl)
theorem dX4_goneWithAll_31 : decode cX4_goneWithAll 31 = .ok (.ifCond .eq 8, 3) := dqo_153 0 8 (by decide) (kb_of ke_X4_goneWithAll 31 rfl) (kb_of ke_X4_goneWithAll 32 rfl) (kb_of ke_X4_goneWithAll 33 rfl)
theorem dX4_goneWithAll_34 : decode cX4_goneWithAll 34 = .ok (.aload_n 0, 1) := dqo_42 (kb_of ke_X4_goneWithAll 34 rfl)
theorem dX4_goneWithAll_35 : decode cX4_goneWithAll 35 = .ok (.iload_n 2, 1) := dqo_28 (kb_of ke_X4_goneWithAll 35 rfl)
theorem dX4_goneWithAll_36 : decode cX4_goneWithAll 36 = .ok (.invokevirtual 70, 3) := dqo_182 0 70 (kb_of ke_X4_goneWithAll 36 rfl) (kb_of ke_X4_goneWithAll 37 rfl) (kb_of ke_X4_goneWithAll 38 rfl)
theorem dX4_goneWithAll_39 : decode cX4_goneWithAll 39 = .ok (.iinc 2 1, 3) := dqo_132 2 1 (by decide) (kb_of ke_X4_goneWithAll 39 rfl) (kb_of ke_X4_goneWithAll 40 rfl) (kb_of ke_X4_goneWithAll 41 rfl)
theorem dX4_goneWithAll_42 : decode cX4_goneWithAll 42 = .ok (.goto (-40), 3) := dqo_167 255 216 (by decide) (kb_of ke_X4_goneWithAll 42 rfl) (kb_of ke_X4_goneWithAll 43 rfl) (kb_of ke_X4_goneWithAll 44 rfl)
theorem dX4_goneWithAll_45 : decode cX4_goneWithAll 45 = .ok (.aload_n 0, 1) := dqo_42 (kb_of ke_X4_goneWithAll 45 rfl)
theorem dX4_goneWithAll_46 : decode cX4_goneWithAll 46 = .ok (.iload_n 1, 1) := dqo_27 (kb_of ke_X4_goneWithAll 46 rfl)
theorem dX4_goneWithAll_47 : decode cX4_goneWithAll 47 = .ok (.invokevirtual 70, 3) := dqo_182 0 70 (kb_of ke_X4_goneWithAll 47 rfl) (kb_of ke_X4_goneWithAll 48 rfl) (kb_of ke_X4_goneWithAll 49 rfl)
theorem dX4_goneWithAll_50 : decode cX4_goneWithAll 50 = .ok (.return_, 1) := dqo_177 (kb_of ke_X4_goneWithAll 50 rfl)
set_option maxRecDepth 100000 in
set_option maxHeartbeats 4000000 in
theorem D_goneWithAll {l : Launch} {D : va_G} {cy : Nat → ClassId} {X : (Nat → Prop) → State → Heap → Prop} {ba ra : Nat → Nat} {hf : Nat → Nat → Nat} {hq : Nat → Nat → Int32} {kn th : Int32} {sm : Int64} {Y : va_W} {f : Nat → Nat → Nat} {g0 : Nat} (hX : EnvM X cy) (hC : CInv f) (hG : MG f hf) (hg : g0 < 4) (h5M : ∀ w, 4 ≤ w → w < 8 → hf 5 w = f 5 w ∧ f 5 w ≤ 1) (h9a : ∀ k, k < 3 → hf 9 k ≤ 1) (h6a : ∀ k, k < 3 → hf 6 k < 8) : Cd l D cy X yX4_goneWithAll cX4_goneWithAll 3 none (rmz 5 160) [.ref (ba 9), .int (nI g0)] (WM cy ba ra hf hq kn th sm ++ Y) none (WM cy ba ra (dcF (up2 (gaF f hf (4 + g0) 4) 5 (4 + g0) 0) (4 + g0) 3) hq kn th sm ++ Y) := by
  refine Cm.of [some (.ref (ba 9)), some (.int (nI g0)), none] pn_X4 rfl (Nat.le_of_ble_eq_true rfl) ?_
  intro p e s m args below meth c A C hE hr hnt hn
  refine r_iconst (v := (nI 0)) C dX4_goneWithAll_0 (by decide) ?_
  refine r_istore_n C dX4_goneWithAll_1 (by decide) rfl ?_
  refine r_w (w' := WM cy ba ra (gaF f hf (4 + g0) 0) hq kn th sm ++ Y) (by rw [gaF_0]) ?_
  have L2 : ∀ (d : Nat) (k : Nat), (hk : k + d = 4) → vC p l e (rmz 5 160) s m args below meth c D A (vx_MQ below (vG (fun v1 w1 => v1 = none ∧ w1 = WM cy ba ra (dcF (up2 (gaF f hf (4 + g0) 4) 5 (4 + g0) 0) (4 + g0) 3) hq kn th sm ++ Y) D vwCl A) (vGX (fun _ => False) D vwCl (WM cy ba ra hf hq kn th sm ++ Y) A) args s (rmz 5 160).cells (rmz 5 160).slots A) 3 0 0 (WM cy ba ra (gaF f hf (4 + g0) k) hq kn th sm ++ Y) [some (.ref (ba 9)), some (.int (nI g0)), some (.int (nI k))] 2 [] := by
    intro d
    induction d with
    | zero =>
      intro k hk
      refine r_iload_n C dX4_goneWithAll_2 rfl ?_
      refine r_iconst (v := (nI 4)) C dX4_goneWithAll_3 (by decide) ?_
      refine r_icN_ge (a := k) (b := 4) (tgt := 45) C (by first | omega | (simp [up2, *]; done) | (simp [up2, *]; omega) | (simp only [up2_eq]; omega) | (split <;> omega)) (by first | omega | (simp [up2, *]; done) | (simp [up2, *]; omega) | (simp only [up2_eq]; omega) | (split <;> omega)) dX4_goneWithAll_4 (by decide) (fun h4_1 => ?_) (fun h4_1 => ?_)
      · first
        | exfalso; first | omega | contradiction
        | skip
          have e9 : k = 4 := by omega
          subst e9
          refine r_aload_n C dX4_goneWithAll_45 rfl ?_
          refine r_iload_n C dX4_goneWithAll_46 rfl ?_
          refine d_Vv (st := []) hX.1.stb C hE (D_gone (ba := ba) (ra := ra) (hf := (gaF f hf (4 + g0) 4)) (hq := hq) (kn := kn) (th := th) (sm := sm) (Y := Y) (g0 := g0) hX (by first | omega | (simp [up2, *]; done) | (simp [up2, *]; omega) | (simp only [up2_eq]; omega) | (split <;> omega)) (fun i hi => gaF_9 (h9a i hi)) h6a) pk_X4_gone qm_X4_70 0 8 rfl rfl wm_0 rfl rfl (Nat.le_of_ble_eq_true rfl) dX4_goneWithAll_47 ⟨(Nat.le_of_ble_eq_true rfl), (Nat.le_of_ble_eq_true rfl)⟩ ⟨(Nat.le_of_ble_eq_true rfl), (Nat.le_of_ble_eq_true rfl)⟩ ?_
          refine r_w (w' := WM cy ba ra (dcF (up2 (gaF f hf (4 + g0) 4) 5 (4 + g0) 0) (4 + g0) 3) hq kn th sm ++ Y) rfl ?_
          exact r_vret C hr dX4_goneWithAll_50 ⟨rfl, rfl⟩ (Nat.le_of_ble_eq_true rfl) (Nat.le_of_ble_eq_true rfl)
      · first
        | exfalso; first | omega | contradiction
        | skip
          have q5 := h5M (4 + k) (by omega) (by omega)
          refine r_aload_n C dX4_goneWithAll_7 rfl ?_
          refine m_get (v := .ref (ba 1)) C 1 (by decide) qf_X4_18 rfl rfl dX4_goneWithAll_8 ?_
          refine r_iload_n C dX4_goneWithAll_11 rfl ?_
          refine m_zld (i := k) (z := 4 + k) (v := hf 5 (4 + k)) C 0 (by decide) (by decide) (show k < 4 from (by first | omega | (simp [up2, *]; done) | (simp [up2, *]; omega) | (simp only [up2_eq]; omega) | (split <;> omega))) (show 4 + k = 4 + k from (by omega)) gaF_at dX4_goneWithAll_12 ?_
          refine r_ifN_eq (a := (hf 5 (4 + k))) (tgt := 39) C (by omega) dX4_goneWithAll_13 (by decide) (fun h13_2 => ?_) (fun h13_2 => ?_)
          · first
            | exfalso; first | omega | contradiction
            | skip
              refine r_iincN C dX4_goneWithAll_39 rfl (by decide) rfl ?_
              refine r_goto (tgt := 2) C dX4_goneWithAll_42 (by decide) ?_
              refine r_w (w' := WM cy ba ra (gaF f hf (4 + g0) (k + 1)) hq kn th sm ++ Y) (by rw [gaF_no (by first | exact Or.inl (by omega) | exact Or.inr (Or.inl (by assumption)) | exact Or.inr (Or.inr (by assumption)))]) ?_
              exact (Nat.not_lt_zero _ (by omega)).elim
          · first
            | exfalso; first | omega | contradiction
            | skip
              refine r_iload_n C dX4_goneWithAll_16 rfl ?_
              refine r_iload_n C dX4_goneWithAll_17 rfl ?_
              refine r_icN_eq (a := k) (b := g0) (tgt := 39) C (by first | omega | (simp [up2, *]; done) | (simp [up2, *]; omega) | (simp only [up2_eq]; omega) | (split <;> omega)) (by first | omega | (simp [up2, *]; done) | (simp [up2, *]; omega) | (simp only [up2_eq]; omega) | (split <;> omega)) dX4_goneWithAll_18 (by decide) (fun h18_3 => ?_) (fun h18_3 => ?_)
              · first
                | exfalso; first | omega | contradiction
                | skip
                  refine r_iincN C dX4_goneWithAll_39 rfl (by decide) rfl ?_
                  refine r_goto (tgt := 2) C dX4_goneWithAll_42 (by decide) ?_
                  refine r_w (w' := WM cy ba ra (gaF f hf (4 + g0) (k + 1)) hq kn th sm ++ Y) (by rw [gaF_no (by first | exact Or.inl (by omega) | exact Or.inr (Or.inl (by assumption)) | exact Or.inr (Or.inr (by assumption)))]) ?_
                  exact (Nat.not_lt_zero _ (by omega)).elim
              · first
                | exfalso; first | omega | contradiction
                | skip
                  refine r_aload_n C dX4_goneWithAll_21 rfl ?_
                  refine r_iconst (v := (nI 4)) C dX4_goneWithAll_22 (by decide) ?_
                  refine r_iload_n C dX4_goneWithAll_23 rfl ?_
                  refine r_iaddN C dX4_goneWithAll_24 ?_
                  refine r_iconst (v := (nI 4)) C dX4_goneWithAll_25 (by decide) ?_
                  refine r_iload_n C dX4_goneWithAll_26 rfl ?_
                  refine r_iaddN C dX4_goneWithAll_27 ?_
                  refine d_V (st := []) hX.1.stb C hE (D_isHolder (ba := ba) (ra := ra) (hf := (gaF f hf (4 + g0) k)) (hq := hq) (kn := kn) (th := th) (sm := sm) (Y := Y) (f := f) (h0 := (4 + g0)) (w := (4 + k)) hX hC (MG.same (fun _ => rfl) (fun _ => rfl) hG) (by first | omega | (simp [up2, *]; done) | (simp [up2, *]; omega) | (simp only [up2_eq]; omega) | (split <;> omega)) (by first | omega | (simp [up2, *]; done) | (simp [up2, *]; omega) | (simp only [up2_eq]; omega) | (split <;> omega)) (by omega)) pk_X4_isHolder qm_X4_66 0 8 rfl rfl wm_0 rfl rfl (Nat.le_of_ble_eq_true rfl) dX4_goneWithAll_28 ⟨(Nat.le_of_ble_eq_true rfl), (Nat.le_of_ble_eq_true rfl)⟩ ⟨(Nat.le_of_ble_eq_true rfl), (Nat.le_of_ble_eq_true rfl)⟩ ?_
                  refine r_w (w' := WM cy ba ra (gaF f hf (4 + g0) k) hq kn th sm ++ Y) rfl ?_
                  refine r_ifN_eq (a := (hol f (4 + g0) (4 + k))) (tgt := 39) C (Nat.lt_of_le_of_lt (hol_le _ _ _) (by decide)) dX4_goneWithAll_31 (by decide) (fun h31_4 => ?_) (fun h31_4 => ?_)
                  · first
                    | exfalso; first | omega | contradiction
                    | skip
                      refine r_iincN C dX4_goneWithAll_39 rfl (by decide) rfl ?_
                      refine r_goto (tgt := 2) C dX4_goneWithAll_42 (by decide) ?_
                      refine r_w (w' := WM cy ba ra (gaF f hf (4 + g0) (k + 1)) hq kn th sm ++ Y) (by rw [gaF_no (by first | exact Or.inl (by omega) | exact Or.inr (Or.inl (by assumption)) | exact Or.inr (Or.inr (by assumption)))]) ?_
                      exact (Nat.not_lt_zero _ (by omega)).elim
                  · first
                    | exfalso; first | omega | contradiction
                    | skip
                      refine r_aload_n C dX4_goneWithAll_34 rfl ?_
                      refine r_iload_n C dX4_goneWithAll_35 rfl ?_
                      refine d_Vv (st := []) hX.1.stb C hE (D_gone (ba := ba) (ra := ra) (hf := (gaF f hf (4 + g0) k)) (hq := hq) (kn := kn) (th := th) (sm := sm) (Y := Y) (g0 := k) hX (by first | omega | (simp [up2, *]; done) | (simp [up2, *]; omega) | (simp only [up2_eq]; omega) | (split <;> omega)) (fun i hi => gaF_9 (h9a i hi)) h6a) pk_X4_gone qm_X4_70 0 8 rfl rfl wm_0 rfl rfl (Nat.le_of_ble_eq_true rfl) dX4_goneWithAll_36 ⟨(Nat.le_of_ble_eq_true rfl), (Nat.le_of_ble_eq_true rfl)⟩ ⟨(Nat.le_of_ble_eq_true rfl), (Nat.le_of_ble_eq_true rfl)⟩ ?_
                      refine r_w (w' := WM cy ba ra (dcF (up2 (gaF f hf (4 + g0) k) 5 (4 + k) 0) (4 + k) 3) hq kn th sm ++ Y) rfl ?_
                      refine r_iincN C dX4_goneWithAll_39 rfl (by decide) rfl ?_
                      refine r_goto (tgt := 2) C dX4_goneWithAll_42 (by decide) ?_
                      refine r_w (w' := WM cy ba ra (gaF f hf (4 + g0) (k + 1)) hq kn th sm ++ Y) (by rw [gaF_yes (by omega) (by assumption) (by assumption)]) ?_
                      exact (Nat.not_lt_zero _ (by omega)).elim
    | succ d ih_L2 =>
      intro k hk
      refine r_iload_n C dX4_goneWithAll_2 rfl ?_
      refine r_iconst (v := (nI 4)) C dX4_goneWithAll_3 (by decide) ?_
      refine r_icN_ge (a := k) (b := 4) (tgt := 45) C (by first | omega | (simp [up2, *]; done) | (simp [up2, *]; omega) | (simp only [up2_eq]; omega) | (split <;> omega)) (by first | omega | (simp [up2, *]; done) | (simp [up2, *]; omega) | (simp only [up2_eq]; omega) | (split <;> omega)) dX4_goneWithAll_4 (by decide) (fun h4_5 => ?_) (fun h4_5 => ?_)
      · first
        | exfalso; first | omega | contradiction
        | skip
          have e9 : k = 4 := by omega
          subst e9
          refine r_aload_n C dX4_goneWithAll_45 rfl ?_
          refine r_iload_n C dX4_goneWithAll_46 rfl ?_
          refine d_Vv (st := []) hX.1.stb C hE (D_gone (ba := ba) (ra := ra) (hf := (gaF f hf (4 + g0) 4)) (hq := hq) (kn := kn) (th := th) (sm := sm) (Y := Y) (g0 := g0) hX (by first | omega | (simp [up2, *]; done) | (simp [up2, *]; omega) | (simp only [up2_eq]; omega) | (split <;> omega)) (fun i hi => gaF_9 (h9a i hi)) h6a) pk_X4_gone qm_X4_70 0 8 rfl rfl wm_0 rfl rfl (Nat.le_of_ble_eq_true rfl) dX4_goneWithAll_47 ⟨(Nat.le_of_ble_eq_true rfl), (Nat.le_of_ble_eq_true rfl)⟩ ⟨(Nat.le_of_ble_eq_true rfl), (Nat.le_of_ble_eq_true rfl)⟩ ?_
          refine r_w (w' := WM cy ba ra (dcF (up2 (gaF f hf (4 + g0) 4) 5 (4 + g0) 0) (4 + g0) 3) hq kn th sm ++ Y) rfl ?_
          exact r_vret C hr dX4_goneWithAll_50 ⟨rfl, rfl⟩ (Nat.le_of_ble_eq_true rfl) (Nat.le_of_ble_eq_true rfl)
      · first
        | exfalso; first | omega | contradiction
        | skip
          have q5 := h5M (4 + k) (by omega) (by omega)
          refine r_aload_n C dX4_goneWithAll_7 rfl ?_
          refine m_get (v := .ref (ba 1)) C 1 (by decide) qf_X4_18 rfl rfl dX4_goneWithAll_8 ?_
          refine r_iload_n C dX4_goneWithAll_11 rfl ?_
          refine m_zld (i := k) (z := 4 + k) (v := hf 5 (4 + k)) C 0 (by decide) (by decide) (show k < 4 from (by first | omega | (simp [up2, *]; done) | (simp [up2, *]; omega) | (simp only [up2_eq]; omega) | (split <;> omega))) (show 4 + k = 4 + k from (by omega)) gaF_at dX4_goneWithAll_12 ?_
          refine r_ifN_eq (a := (hf 5 (4 + k))) (tgt := 39) C (by omega) dX4_goneWithAll_13 (by decide) (fun h13_6 => ?_) (fun h13_6 => ?_)
          · first
            | exfalso; first | omega | contradiction
            | skip
              refine r_iincN C dX4_goneWithAll_39 rfl (by decide) rfl ?_
              refine r_goto (tgt := 2) C dX4_goneWithAll_42 (by decide) ?_
              refine r_w (w' := WM cy ba ra (gaF f hf (4 + g0) (k + 1)) hq kn th sm ++ Y) (by rw [gaF_no (by first | exact Or.inl (by omega) | exact Or.inr (Or.inl (by assumption)) | exact Or.inr (Or.inr (by assumption)))]) ?_
              exact ih_L2 (k + 1) (by first | omega | (simp [up2, *]; done) | (simp [up2, *]; omega) | (simp only [up2_eq]; omega) | (split <;> omega))
          · first
            | exfalso; first | omega | contradiction
            | skip
              refine r_iload_n C dX4_goneWithAll_16 rfl ?_
              refine r_iload_n C dX4_goneWithAll_17 rfl ?_
              refine r_icN_eq (a := k) (b := g0) (tgt := 39) C (by first | omega | (simp [up2, *]; done) | (simp [up2, *]; omega) | (simp only [up2_eq]; omega) | (split <;> omega)) (by first | omega | (simp [up2, *]; done) | (simp [up2, *]; omega) | (simp only [up2_eq]; omega) | (split <;> omega)) dX4_goneWithAll_18 (by decide) (fun h18_7 => ?_) (fun h18_7 => ?_)
              · first
                | exfalso; first | omega | contradiction
                | skip
                  refine r_iincN C dX4_goneWithAll_39 rfl (by decide) rfl ?_
                  refine r_goto (tgt := 2) C dX4_goneWithAll_42 (by decide) ?_
                  refine r_w (w' := WM cy ba ra (gaF f hf (4 + g0) (k + 1)) hq kn th sm ++ Y) (by rw [gaF_no (by first | exact Or.inl (by omega) | exact Or.inr (Or.inl (by assumption)) | exact Or.inr (Or.inr (by assumption)))]) ?_
                  exact ih_L2 (k + 1) (by first | omega | (simp [up2, *]; done) | (simp [up2, *]; omega) | (simp only [up2_eq]; omega) | (split <;> omega))
              · first
                | exfalso; first | omega | contradiction
                | skip
                  refine r_aload_n C dX4_goneWithAll_21 rfl ?_
                  refine r_iconst (v := (nI 4)) C dX4_goneWithAll_22 (by decide) ?_
                  refine r_iload_n C dX4_goneWithAll_23 rfl ?_
                  refine r_iaddN C dX4_goneWithAll_24 ?_
                  refine r_iconst (v := (nI 4)) C dX4_goneWithAll_25 (by decide) ?_
                  refine r_iload_n C dX4_goneWithAll_26 rfl ?_
                  refine r_iaddN C dX4_goneWithAll_27 ?_
                  refine d_V (st := []) hX.1.stb C hE (D_isHolder (ba := ba) (ra := ra) (hf := (gaF f hf (4 + g0) k)) (hq := hq) (kn := kn) (th := th) (sm := sm) (Y := Y) (f := f) (h0 := (4 + g0)) (w := (4 + k)) hX hC (MG.same (fun _ => rfl) (fun _ => rfl) hG) (by first | omega | (simp [up2, *]; done) | (simp [up2, *]; omega) | (simp only [up2_eq]; omega) | (split <;> omega)) (by first | omega | (simp [up2, *]; done) | (simp [up2, *]; omega) | (simp only [up2_eq]; omega) | (split <;> omega)) (by omega)) pk_X4_isHolder qm_X4_66 0 8 rfl rfl wm_0 rfl rfl (Nat.le_of_ble_eq_true rfl) dX4_goneWithAll_28 ⟨(Nat.le_of_ble_eq_true rfl), (Nat.le_of_ble_eq_true rfl)⟩ ⟨(Nat.le_of_ble_eq_true rfl), (Nat.le_of_ble_eq_true rfl)⟩ ?_
                  refine r_w (w' := WM cy ba ra (gaF f hf (4 + g0) k) hq kn th sm ++ Y) rfl ?_
                  refine r_ifN_eq (a := (hol f (4 + g0) (4 + k))) (tgt := 39) C (Nat.lt_of_le_of_lt (hol_le _ _ _) (by decide)) dX4_goneWithAll_31 (by decide) (fun h31_8 => ?_) (fun h31_8 => ?_)
                  · first
                    | exfalso; first | omega | contradiction
                    | skip
                      refine r_iincN C dX4_goneWithAll_39 rfl (by decide) rfl ?_
                      refine r_goto (tgt := 2) C dX4_goneWithAll_42 (by decide) ?_
                      refine r_w (w' := WM cy ba ra (gaF f hf (4 + g0) (k + 1)) hq kn th sm ++ Y) (by rw [gaF_no (by first | exact Or.inl (by omega) | exact Or.inr (Or.inl (by assumption)) | exact Or.inr (Or.inr (by assumption)))]) ?_
                      exact ih_L2 (k + 1) (by first | omega | (simp [up2, *]; done) | (simp [up2, *]; omega) | (simp only [up2_eq]; omega) | (split <;> omega))
                  · first
                    | exfalso; first | omega | contradiction
                    | skip
                      refine r_aload_n C dX4_goneWithAll_34 rfl ?_
                      refine r_iload_n C dX4_goneWithAll_35 rfl ?_
                      refine d_Vv (st := []) hX.1.stb C hE (D_gone (ba := ba) (ra := ra) (hf := (gaF f hf (4 + g0) k)) (hq := hq) (kn := kn) (th := th) (sm := sm) (Y := Y) (g0 := k) hX (by first | omega | (simp [up2, *]; done) | (simp [up2, *]; omega) | (simp only [up2_eq]; omega) | (split <;> omega)) (fun i hi => gaF_9 (h9a i hi)) h6a) pk_X4_gone qm_X4_70 0 8 rfl rfl wm_0 rfl rfl (Nat.le_of_ble_eq_true rfl) dX4_goneWithAll_36 ⟨(Nat.le_of_ble_eq_true rfl), (Nat.le_of_ble_eq_true rfl)⟩ ⟨(Nat.le_of_ble_eq_true rfl), (Nat.le_of_ble_eq_true rfl)⟩ ?_
                      refine r_w (w' := WM cy ba ra (dcF (up2 (gaF f hf (4 + g0) k) 5 (4 + k) 0) (4 + k) 3) hq kn th sm ++ Y) rfl ?_
                      refine r_iincN C dX4_goneWithAll_39 rfl (by decide) rfl ?_
                      refine r_goto (tgt := 2) C dX4_goneWithAll_42 (by decide) ?_
                      refine r_w (w' := WM cy ba ra (gaF f hf (4 + g0) (k + 1)) hq kn th sm ++ Y) (by rw [gaF_yes (by omega) (by assumption) (by assumption)]) ?_
                      exact ih_L2 (k + 1) (by first | omega | (simp [up2, *]; done) | (simp [up2, *]; omega) | (simp only [up2_eq]; omega) | (split <;> omega))
  exact L2 4 0 (by first | omega | (simp [up2, *]; done) | (simp [up2, *]; omega) | (simp only [up2_eq]; omega) | (split <;> omega))
