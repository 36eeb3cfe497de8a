theorem dX1_exchangeTwo_2 : decode cX1_exchangeTwo 2 = .ok (.invokevirtual 32, 3) := by decide +kernel
theorem dX1_exchangeTwo_5 : decode cX1_exchangeTwo 5 = .ok (.istore_n 3, 1) := by decide +kernel
theorem dX1_exchangeTwo_6 : decode cX1_exchangeTwo 6 = .ok (.aload_n 0, 1) := by decide +kernel
theorem dX1_exchangeTwo_7 : decode cX1_exchangeTwo 7 = .ok (.iload_n 1, 1) := by decide +kernel
theorem dX1_exchangeTwo_8 : decode cX1_exchangeTwo 8 = .ok (.aload_n 0, 1) := by decide +kernel
theorem dX1_exchangeTwo_9 : decode cX1_exchangeTwo 9 = .ok (.iload_n 2, 1) := by decide +kernel
theorem dX1_exchangeTwo_10 : decode cX1_exchangeTwo 10 = .ok (.invokevirtual 32, 3) := by decide +kernel
theorem dX1_exchangeTwo_13 : decode cX1_exchangeTwo 13 = .ok (.invokevirtual 42, 3) := by decide +kernel
theorem dX1_exchangeTwo_16 : decode cX1_exchangeTwo 16 = .ok (.aload_n 0, 1) := by decide +kernel
theorem dX1_exchangeTwo_17 : decode cX1_exchangeTwo 17 = .ok (.iload_n 2, 1) := by decide +kernel
theorem dX1_exchangeTwo_18 : decode cX1_exchangeTwo 18 = .ok (.iload_n 3, 1) := by decide +kernel
theorem dX1_exchangeTwo_19 : decode cX1_exchangeTwo 19 = .ok (.invokevirtual 42, 3) := by decide +kernel
theorem dX1_exchangeTwo_22 : decode cX1_exchangeTwo 22 = .ok (.return_, 1) := by decide +kernel
set_option maxRecDepth 100000 in
set_option maxHeartbeats 4000000 in
theorem C_exchangeTwo {l : Launch} {D : va_G} {cy : Nat → ClassId} {X : (Nat → Prop) → State → Heap → Prop} {a f : Nat → Nat → Nat} {r : Nat → Nat → Int32} {kn : Int32} {Y : va_W} {i : Nat} {k1 : Nat} {k2 : Nat} (hX : EnvX X) (hi : i < 11) (h0 : f 0 i < 7) (hk1 : f 3 i + k1 < 12) (hk2 : f 3 i + k2 < 12) : Cd l D cy X yX1_exchangeTwo cX1_exchangeTwo 4 none (rmz 1 30) [.ref (a 1 i), .int (nI k1), .int (nI k2)] (WC cy a f r kn ++ Y) none (WC cy a f (exch2 r (f 0 i) (f 3 i + k1) (f 3 i + k2)) kn ++ Y) := by
  refine Cm.of [some (.ref (a 1 i)), some (.int (nI k1)), some (.int (nI k2)), none] (by decide +kernel) rfl (Nat.le_of_ble_eq_true rfl) ?_
  intro p e s m args below meth c A C hE hr hnt hn
  refine r_aload_n C dX1_exchangeTwo_0 rfl ?_
  refine r_iload_n C dX1_exchangeTwo_1 rfl ?_
  refine d_V (st := []) hX.stb C hE (C_itemAt (f := f) (r := r) (kn := kn) (i := i) (k := k1) hX (by first | omega | (simp [up2, *]; done) | (simp [up2, *]; omega) | (simp only [up2_eq]; omega)) (by first | omega | (simp [up2, *]; done) | (simp [up2, *]; omega) | (simp only [up2_eq]; omega)) (by first | omega | (simp [up2, *]; done) | (simp [up2, *]; omega) | (simp only [up2_eq]; omega))) pk_X1_itemAt qm_X1_32 (3 + i) 5 rfl rfl (wc_p (by first | omega | (simp [up2, *]; done) | (simp [up2, *]; omega) | (simp only [up2_eq]; omega))) rfl rfl (Nat.le_of_ble_eq_true rfl) dX1_exchangeTwo_2 ⟨Nat.le_of_ble_eq_true rfl, Nat.le_of_ble_eq_true rfl⟩ ⟨Nat.le_of_ble_eq_true rfl, Nat.le_of_ble_eq_true rfl⟩ ?_
  refine r_istore_n C dX1_exchangeTwo_5 (by decide) rfl ?_
  refine r_aload_n C dX1_exchangeTwo_6 rfl ?_
  refine r_iload_n C dX1_exchangeTwo_7 rfl ?_
  refine r_aload_n C dX1_exchangeTwo_8 rfl ?_
  refine r_iload_n C dX1_exchangeTwo_9 rfl ?_
  refine d_V (st := [.int (nI k1), .ref (a 1 i)]) hX.stb C hE (C_itemAt (f := f) (r := r) (kn := kn) (i := i) (k := k2) hX (by first | omega | (simp [up2, *]; done) | (simp [up2, *]; omega) | (simp only [up2_eq]; omega)) (by first | omega | (simp [up2, *]; done) | (simp [up2, *]; omega) | (simp only [up2_eq]; omega)) (by first | omega | (simp [up2, *]; done) | (simp [up2, *]; omega) | (simp only [up2_eq]; omega))) pk_X1_itemAt qm_X1_32 (3 + i) 5 rfl rfl (wc_p (by first | omega | (simp [up2, *]; done) | (simp [up2, *]; omega) | (simp only [up2_eq]; omega))) rfl rfl (Nat.le_of_ble_eq_true rfl) dX1_exchangeTwo_10 ⟨Nat.le_of_ble_eq_true rfl, Nat.le_of_ble_eq_true rfl⟩ ⟨Nat.le_of_ble_eq_true rfl, Nat.le_of_ble_eq_true rfl⟩ ?_
  refine d_Vv (st := []) hX.stb C hE (C_putAt (f := f) (r := r) (kn := kn) (i := i) (k := k1) (x := ((r (f 0 i) (f 3 i + k2)))) hX (by first | omega | (simp [up2, *]; done) | (simp [up2, *]; omega) | (simp only [up2_eq]; omega)) (by first | omega | (simp [up2, *]; done) | (simp [up2, *]; omega) | (simp only [up2_eq]; omega)) (by first | omega | (simp [up2, *]; done) | (simp [up2, *]; omega) | (simp only [up2_eq]; omega))) pk_X1_putAt qm_X1_42 (3 + i) 5 rfl rfl (wc_p (by first | omega | (simp [up2, *]; done) | (simp [up2, *]; omega) | (simp only [up2_eq]; omega))) rfl rfl (Nat.le_of_ble_eq_true rfl) dX1_exchangeTwo_13 ⟨Nat.le_of_ble_eq_true rfl, Nat.le_of_ble_eq_true rfl⟩ ⟨Nat.le_of_ble_eq_true rfl, Nat.le_of_ble_eq_true rfl⟩ ?_
  refine r_aload_n C dX1_exchangeTwo_16 rfl ?_
  refine r_iload_n C dX1_exchangeTwo_17 rfl ?_
  refine r_iload_n C dX1_exchangeTwo_18 rfl ?_
  refine d_Vv (st := []) hX.stb C hE (C_putAt (f := f) (r := (up2 r (f 0 i) (f 3 i + k1) ((r (f 0 i) (f 3 i + k2))))) (kn := kn) (i := i) (k := k2) (x := ((r (f 0 i) (f 3 i + k1)))) hX (by first | omega | (simp [up2, *]; done) | (simp [up2, *]; omega) | (simp only [up2_eq]; omega)) (by first | omega | (simp [up2, *]; done) | (simp [up2, *]; omega) | (simp only [up2_eq]; omega)) (by first | omega | (simp [up2, *]; done) | (simp [up2, *]; omega) | (simp only [up2_eq]; omega))) pk_X1_putAt qm_X1_42 (3 + i) 5 rfl rfl (wc_p (by first | omega | (simp [up2, *]; done) | (simp [up2, *]; omega) | (simp only [up2_eq]; omega))) rfl rfl (Nat.le_of_ble_eq_true rfl) dX1_exchangeTwo_19 ⟨Nat.le_of_ble_eq_true rfl, Nat.le_of_ble_eq_true rfl⟩ ⟨Nat.le_of_ble_eq_true rfl, Nat.le_of_ble_eq_true rfl⟩ ?_
  exact r_vret C hr dX1_exchangeTwo_22 ⟨rfl, rfl⟩ (Nat.le_of_ble_eq_true rfl) (Nat.le_of_ble_eq_true rfl)
theorem dX1_lookAt_0 : decode cX1_lookAt 0 = .ok (.aload_n 0, 1) := by decide +kernel
theorem dX1_lookAt_1 : decode cX1_lookAt 1 = .ok (.aload_n 1, 1) := by decide +kernel
theorem dX1_lookAt_2 : decode cX1_lookAt 2 = .ok (.getfield 15, 3) := by decide +kernel
theorem dX1_lookAt_5 : decode cX1_lookAt 5 = .ok (.putfield 15, 3) := by decide +kernel
theorem dX1_lookAt_8 : decode cX1_lookAt 8 = .ok (.aload_n 0, 1) := by decide +kernel
theorem dX1_lookAt_9 : decode cX1_lookAt 9 = .ok (.aload_n 1, 1) := by decide +kernel
theorem dX1_lookAt_10 : decode cX1_lookAt 10 = .ok (.getfield 9, 3) := by decide +kernel
theorem dX1_lookAt_13 : decode cX1_lookAt 13 = .ok (.putfield 9, 3) := by decide +kernel
theorem dX1_lookAt_16 : decode cX1_lookAt 16 = .ok (.aload_n 0, 1) := by decide +kernel
theorem dX1_lookAt_17 : decode cX1_lookAt 17 = .ok (.iload_n 2, 1) := by decide +kernel
theorem dX1_lookAt_18 : decode cX1_lookAt 18 = .ok (.putfield 23, 3) := by decide +kernel
theorem dX1_lookAt_21 : decode cX1_lookAt 21 = .ok (.aload_n 0, 1) := by decide +kernel
theorem dX1_lookAt_22 : decode cX1_lookAt 22 = .ok (.aload_n 1, 1) := by decide +kernel
theorem dX1_lookAt_23 : decode cX1_lookAt 23 = .ok (.getfield 26, 3) := by decide +kernel
theorem dX1_lookAt_26 : decode cX1_lookAt 26 = .ok (.iload_n 3, 1) := by decide +kernel
theorem dX1_lookAt_27 : decode cX1_lookAt 27 = .ok (.iadd, 1) := by decide +kernel
theorem dX1_lookAt_28 : decode cX1_lookAt 28 = .ok (.putfield 26, 3) := by decide +kernel
theorem dX1_lookAt_31 : decode cX1_lookAt 31 = .ok (.aload_n 0, 1) := by decide +kernel
theorem dX1_lookAt_32 : decode cX1_lookAt 32 = .ok (.iload 4, 2) := by decide +kernel
theorem dX1_lookAt_34 : decode cX1_lookAt 34 = .ok (.iload_n 3, 1) := by decide +kernel
theorem dX1_lookAt_35 : decode cX1_lookAt 35 = .ok (.isub, 1) := by decide +kernel
theorem dX1_lookAt_36 : decode cX1_lookAt 36 = .ok (.putfield 29, 3) := by decide +kernel
theorem dX1_lookAt_39 : decode cX1_lookAt 39 = .ok (.aload_n 0, 1) := by decide +kernel
theorem dX1_lookAt_40 : decode cX1_lookAt 40 = .ok (.iconst 1, 1) := by decide +kernel
theorem dX1_lookAt_41 : decode cX1_lookAt 41 = .ok (.putfield 19, 3) := by decide +kernel
theorem dX1_lookAt_44 : decode cX1_lookAt 44 = .ok (.return_, 1) := by decide +kernel
set_option maxRecDepth 100000 in
set_option maxHeartbeats 4000000 in
theorem C_lookAt {l : Launch} {D : va_G} {cy : Nat → ClassId} {X : (Nat → Prop) → State → Heap → Prop} {a f : Nat → Nat → Nat} {r : Nat → Nat → Int32} {kn : Int32} {Y : va_W} {i : Nat} {j : Nat} {w : Nat} {p0 : Nat} {q0 : Nat} (hX : EnvX X) (hi : i < 11) (hj : j < 11) (hp : p0 ≤ q0) : Cd l D cy X yX1_lookAt cX1_lookAt 5 none (rmz 0 0) [.ref (a 1 i), .ref (a 1 j), .int (nI w), .int (nI p0), .int (nI q0)] (WC cy a f r kn ++ Y) none (WC cy a (up2 (up2 (up2 (up2 (up2 (up2 f 0 i (f 0 j)) 1 i (f 1 j)) 2 i w) 3 i (f 3 j + p0)) 4 i (q0 - p0)) 5 i 1) r kn ++ Y) := by
  refine Cm.of [some (.ref (a 1 i)), some (.ref (a 1 j)), some (.int (nI w)), some (.int (nI p0)), some (.int (nI q0))] (by decide +kernel) rfl (Nat.le_of_ble_eq_true rfl) ?_
  intro p e s m args below meth c A C hE hr hnt hn
  refine r_aload_n C dX1_lookAt_0 rfl ?_
  refine r_aload_n C dX1_lookAt_1 rfl ?_
  refine p_get (v := .ref (a 2 (f 0 j))) C 0 (by first | omega | (simp [up2, *]; done) | (simp [up2, *]; omega) | (simp only [up2_eq]; omega)) (by decide) qf_X1_15 rfl rfl dX1_lookAt_2 ?_
  refine p_putR C (by first | omega | (simp [up2, *]; done) | (simp [up2, *]; omega) | (simp only [up2_eq]; omega)) qf_X1_15 dX1_lookAt_5 ?_
  refine r_aload_n C dX1_lookAt_8 rfl ?_
  refine r_aload_n C dX1_lookAt_9 rfl ?_
  refine p_get (v := .int (nI (f 1 j))) C 1 (by first | omega | (simp [up2, *]; done) | (simp [up2, *]; omega) | (simp only [up2_eq]; omega)) (by decide) qf_X1_9 rfl rfl dX1_lookAt_10 ?_
  refine p_put C 1 (by first | omega | (simp [up2, *]; done) | (simp [up2, *]; omega) | (simp only [up2_eq]; omega)) (by decide) (by decide) qf_X1_9 rfl rfl rfl dX1_lookAt_13 ?_
  refine r_aload_n C dX1_lookAt_16 rfl ?_
  refine r_iload_n C dX1_lookAt_17 rfl ?_
  refine p_put C 2 (by first | omega | (simp [up2, *]; done) | (simp [up2, *]; omega) | (simp only [up2_eq]; omega)) (by decide) (by decide) qf_X1_23 rfl rfl rfl dX1_lookAt_18 ?_
  refine r_aload_n C dX1_lookAt_21 rfl ?_
  refine r_aload_n C dX1_lookAt_22 rfl ?_
  refine p_get (v := .int (nI (f 3 j))) C 3 (by first | omega | (simp [up2, *]; done) | (simp [up2, *]; omega) | (simp only [up2_eq]; omega)) (by decide) qf_X1_26 rfl rfl dX1_lookAt_23 ?_
  refine r_iload_n C dX1_lookAt_26 rfl ?_
  refine r_iaddN C dX1_lookAt_27 ?_
  refine p_put C 3 (by first | omega | (simp [up2, *]; done) | (simp [up2, *]; omega) | (simp only [up2_eq]; omega)) (by decide) (by decide) qf_X1_26 rfl rfl rfl dX1_lookAt_28 ?_
  refine r_aload_n C dX1_lookAt_31 rfl ?_
  refine r_iload C dX1_lookAt_32 rfl ?_
  refine r_iload_n C dX1_lookAt_34 rfl ?_
  refine r_isubN C dX1_lookAt_35 (by first | omega | (simp [up2, *]; done) | (simp [up2, *]; omega) | (simp only [up2_eq]; omega)) ?_
  refine p_put C 4 (by first | omega | (simp [up2, *]; done) | (simp [up2, *]; omega) | (simp only [up2_eq]; omega)) (by decide) (by decide) qf_X1_29 rfl rfl rfl dX1_lookAt_36 ?_
  refine r_aload_n C dX1_lookAt_39 rfl ?_
  refine r_iconst (v := (nI 1)) C dX1_lookAt_40 (by decide) ?_
  refine p_putZ C (by first | omega | (simp [up2, *]; done) | (simp [up2, *]; omega) | (simp only [up2_eq]; omega)) (by first | omega | (simp [up2, *]; done) | (simp [up2, *]; omega) | (simp only [up2_eq]; omega)) qf_X1_19 dX1_lookAt_41 ?_
  exact r_vret C hr dX1_lookAt_44 ⟨rfl, rfl⟩ (Nat.le_of_ble_eq_true rfl) (Nat.le_of_ble_eq_true rfl)
