theorem dX1_itemAt_0 : decode cX1_itemAt 0 = .ok (.aload_n 0, 1) := by decide +kernel
theorem dX1_itemAt_1 : decode cX1_itemAt 1 = .ok (.getfield 15, 3) := by decide +kernel
theorem dX1_itemAt_4 : decode cX1_itemAt 4 = .ok (.aload_n 0, 1) := by decide +kernel
theorem dX1_itemAt_5 : decode cX1_itemAt 5 = .ok (.getfield 26, 3) := by decide +kernel
theorem dX1_itemAt_8 : decode cX1_itemAt 8 = .ok (.iload_n 1, 1) := by decide +kernel
theorem dX1_itemAt_9 : decode cX1_itemAt 9 = .ok (.iadd, 1) := by decide +kernel
theorem dX1_itemAt_10 : decode cX1_itemAt 10 = .ok (.iaload, 1) := by decide +kernel
theorem dX1_itemAt_11 : decode cX1_itemAt 11 = .ok (.ireturn, 1) := by decide +kernel
set_option maxRecDepth 100000 in
set_option maxHeartbeats 4000000 in
theorem C_itemAt {l : Launch} {D : va_G} {cy : Nat → ClassId} {X : (Nat → Prop) → State → Heap → Prop} {a f : Nat → Nat → Nat} {r : Nat → Nat → Int32} {kn : Int32} {Y : va_W} {i : Nat} {k : Nat} (hX : EnvX X) (hi : i < 11) (h0 : f 0 i < 7) (hk : f 3 i + k < 12) : Cd l D cy X yX1_itemAt cX1_itemAt 2 (some .int) (rmz 0 0) [.ref (a 1 i), .int (nI k)] (WC cy a f r kn ++ Y) (some (.int (r (f 0 i) (f 3 i + k)))) (WC cy a f r kn ++ Y) := by
  refine Cm.of [some (.ref (a 1 i)), some (.int (nI k))] (by decide +kernel) rfl (Nat.le_of_ble_eq_true rfl) ?_
  intro p e s m args below meth c A C hE hr hnt hn
  refine r_aload_n C dX1_itemAt_0 rfl ?_
  refine p_get (v := .ref (a 2 (f 0 i))) C 0 (by first | omega | (simp [up2, *]; done) | (simp [up2, *]; omega) | (simp only [up2_eq]; omega)) (by decide) qf_X1_15 rfl rfl dX1_itemAt_1 ?_
  refine r_aload_n C dX1_itemAt_4 rfl ?_
  refine p_get (v := .int (nI (f 3 i))) C 3 (by first | omega | (simp [up2, *]; done) | (simp [up2, *]; omega) | (simp only [up2_eq]; omega)) (by decide) qf_X1_26 rfl rfl dX1_itemAt_5 ?_
  refine r_iload_n C dX1_itemAt_8 rfl ?_
  refine r_iaddN C dX1_itemAt_9 ?_
  refine s_iald C (by first | omega | (simp [up2, *]; done) | (simp [up2, *]; omega) | (simp only [up2_eq]; omega)) (by first | omega | (simp [up2, *]; done) | (simp [up2, *]; omega) | (simp only [up2_eq]; omega)) dX1_itemAt_10 ?_
  exact r_iret C hr dX1_itemAt_11 ⟨rfl, rfl⟩ (Nat.le_of_ble_eq_true rfl) (Nat.le_of_ble_eq_true rfl)
theorem dX1_putAt_0 : decode cX1_putAt 0 = .ok (.aload_n 0, 1) := by decide +kernel
theorem dX1_putAt_1 : decode cX1_putAt 1 = .ok (.getfield 15, 3) := by decide +kernel
theorem dX1_putAt_4 : decode cX1_putAt 4 = .ok (.aload_n 0, 1) := by decide +kernel
theorem dX1_putAt_5 : decode cX1_putAt 5 = .ok (.getfield 26, 3) := by decide +kernel
theorem dX1_putAt_8 : decode cX1_putAt 8 = .ok (.iload_n 1, 1) := by decide +kernel
theorem dX1_putAt_9 : decode cX1_putAt 9 = .ok (.iadd, 1) := by decide +kernel
theorem dX1_putAt_10 : decode cX1_putAt 10 = .ok (.iload_n 2, 1) := by decide +kernel
theorem dX1_putAt_11 : decode cX1_putAt 11 = .ok (.iastore, 1) := by decide +kernel
theorem dX1_putAt_12 : decode cX1_putAt 12 = .ok (.return_, 1) := by decide +kernel
set_option maxRecDepth 100000 in
set_option maxHeartbeats 4000000 in
theorem C_putAt {l : Launch} {D : va_G} {cy : Nat → ClassId} {X : (Nat → Prop) → State → Heap → Prop} {a f : Nat → Nat → Nat} {r : Nat → Nat → Int32} {kn : Int32} {Y : va_W} {i : Nat} {k : Nat} {x : Int32} (hX : EnvX X) (hi : i < 11) (h0 : f 0 i < 7) (hk : f 3 i + k < 12) : Cd l D cy X yX1_putAt cX1_putAt 3 none (rmz 0 0) [.ref (a 1 i), .int (nI k), .int x] (WC cy a f r kn ++ Y) none (WC cy a f (up2 r (f 0 i) (f 3 i + k) x) kn ++ Y) := by
  refine Cm.of [some (.ref (a 1 i)), some (.int (nI k)), some (.int x)] (by decide +kernel) rfl (Nat.le_of_ble_eq_true rfl) ?_
  intro p e s m args below meth c A C hE hr hnt hn
  refine r_aload_n C dX1_putAt_0 rfl ?_
  refine p_get (v := .ref (a 2 (f 0 i))) C 0 (by first | omega | (simp [up2, *]; done) | (simp [up2, *]; omega) | (simp only [up2_eq]; omega)) (by decide) qf_X1_15 rfl rfl dX1_putAt_1 ?_
  refine r_aload_n C dX1_putAt_4 rfl ?_
  refine p_get (v := .int (nI (f 3 i))) C 3 (by first | omega | (simp [up2, *]; done) | (simp [up2, *]; omega) | (simp only [up2_eq]; omega)) (by decide) qf_X1_26 rfl rfl dX1_putAt_5 ?_
  refine r_iload_n C dX1_putAt_8 rfl ?_
  refine r_iaddN C dX1_putAt_9 ?_
  refine r_iload_n C dX1_putAt_10 rfl ?_
  refine s_iast C (by first | omega | (simp [up2, *]; done) | (simp [up2, *]; omega) | (simp only [up2_eq]; omega)) (by first | omega | (simp [up2, *]; done) | (simp [up2, *]; omega) | (simp only [up2_eq]; omega)) dX1_putAt_11 ?_
  exact r_vret C hr dX1_putAt_12 ⟨rfl, rfl⟩ (Nat.le_of_ble_eq_true rfl) (Nat.le_of_ble_eq_true rfl)
theorem pk_X1_itemAt : PkV RX1 yX1_itemAt cX1_itemAt 2 (some .int) 1 := ⟨⟨qi_X1_itemAt, qs_X1_itemAt, qz_X1, qc_X1_itemAt⟩, by decide +kernel⟩
theorem dX1_firstItem_0 : decode cX1_firstItem 0 = .ok (.aload_n 0, 1) := by decide +kernel
theorem dX1_firstItem_1 : decode cX1_firstItem 1 = .ok (.getfield 29, 3) := by decide +kernel
theorem dX1_firstItem_4 : decode cX1_firstItem 4 = .ok (.ifCond .ne 8, 3) := by decide +kernel
theorem dX1_firstItem_7 : decode cX1_firstItem 7 = .ok (.bipush 100, 2) := by decide +kernel
theorem dX1_firstItem_9 : decode cX1_firstItem 9 = .ok (.goto 8, 3) := by decide +kernel
theorem dX1_firstItem_12 : decode cX1_firstItem 12 = .ok (.aload_n 0, 1) := by decide +kernel
theorem dX1_firstItem_13 : decode cX1_firstItem 13 = .ok (.iconst 0, 1) := by decide +kernel
theorem dX1_firstItem_14 : decode cX1_firstItem 14 = .ok (.invokevirtual 32, 3) := by decide +kernel
theorem dX1_firstItem_17 : decode cX1_firstItem 17 = .ok (.ireturn, 1) := by decide +kernel
set_option maxRecDepth 100000 in
set_option maxHeartbeats 4000000 in
theorem C_firstItem {l : Launch} {D : va_G} {cy : Nat → ClassId} {X : (Nat → Prop) → State → Heap → Prop} {a f : Nat → Nat → Nat} {r : Nat → Nat → Int32} {kn : Int32} {Y : va_W} {i : Nat} (hX : EnvX X) (hi : i < 11) (h0 : f 0 i < 7) (h4 : f 3 i + f 4 i ≤ 12) : Cd l D cy X yX1_firstItem cX1_firstItem 1 (some .int) (rmz 1 30) [.ref (a 1 i)] (WC cy a f r kn ++ Y) (some (.int (if f 4 i = 0 then nI 100 else r (f 0 i) (f 3 i)))) (WC cy a f r kn ++ Y) := by
  refine Cm.of [some (.ref (a 1 i))] (by decide +kernel) rfl (Nat.le_of_ble_eq_true rfl) ?_
  intro p e s m args below meth c A C hE hr hnt hn
  refine r_aload_n C dX1_firstItem_0 rfl ?_
  refine p_get (v := .int (nI (f 4 i))) C 4 (by first | omega | (simp [up2, *]; done) | (simp [up2, *]; omega) | (simp only [up2_eq]; omega)) (by decide) qf_X1_29 rfl rfl dX1_firstItem_1 ?_
  refine r_ifN_ne (tgt := 12) C (by first | omega | (simp [up2, *]; done) | (simp [up2, *]; omega) | (simp only [up2_eq]; omega)) dX1_firstItem_4 (by decide) (fun h4_1 => ?_) (fun h4_1 => ?_)
  · first
    | exfalso; first | omega | contradiction
    | skip
      refine r_aload_n C dX1_firstItem_12 rfl ?_
      refine r_iconst (v := (nI 0)) C dX1_firstItem_13 (by decide) ?_
      refine d_V (st := []) hX.stb C hE (C_itemAt (f := f) (r := r) (kn := kn) (i := i) (k := 0) hX (by first | omega | (simp [up2, *]; done) | (simp [up2, *]; omega) | (simp only [up2_eq]; omega)) (by first | omega | (simp [up2, *]; done) | (simp [up2, *]; omega) | (simp only [up2_eq]; omega)) (by first | omega | (simp [up2, *]; done) | (simp [up2, *]; omega) | (simp only [up2_eq]; omega))) pk_X1_itemAt qm_X1_32 (3 + i) 5 rfl rfl (wc_p (by first | omega | (simp [up2, *]; done) | (simp [up2, *]; omega) | (simp only [up2_eq]; omega))) rfl rfl (Nat.le_of_ble_eq_true rfl) dX1_firstItem_14 ⟨Nat.le_of_ble_eq_true rfl, Nat.le_of_ble_eq_true rfl⟩ ⟨Nat.le_of_ble_eq_true rfl, Nat.le_of_ble_eq_true rfl⟩ ?_
      exact r_iret C hr dX1_firstItem_17 ⟨by first | rfl | (rw [if_pos (by assumption)] <;> rfl) | (rw [if_neg (by assumption)] <;> rfl), rfl⟩ (Nat.le_of_ble_eq_true rfl) (Nat.le_of_ble_eq_true rfl)
  · first
    | exfalso; first | omega | contradiction
    | skip
      refine r_bipush (v := (nI 100)) C dX1_firstItem_7 (by decide) ?_
      refine r_goto (tgt := 17) C dX1_firstItem_9 (by decide) ?_
      exact r_iret C hr dX1_firstItem_17 ⟨by first | rfl | (rw [if_pos (by assumption)] <;> rfl) | (rw [if_neg (by assumption)] <;> rfl), rfl⟩ (Nat.le_of_ble_eq_true rfl) (Nat.le_of_ble_eq_true rfl)
theorem dX1_append_0 : decode cX1_append 0 = .ok (.aload_n 0, 1) := by decide +kernel
theorem dX1_append_1 : decode cX1_append 1 = .ok (.getfield 29, 3) := by decide +kernel
