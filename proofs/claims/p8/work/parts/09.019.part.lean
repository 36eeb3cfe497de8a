theorem dX0_goBack_0 : decode cX0_goBack 0 = .ok (.aload_n 0, 1) := by decide +kernel
theorem dX0_goBack_1 : decode cX0_goBack 1 = .ok (.getfield 18, 3) := by decide +kernel
theorem dX0_goBack_4 : decode cX0_goBack 4 = .ok (.ifCond .gt 6, 3) := by decide +kernel
theorem dX0_goBack_7 : decode cX0_goBack 7 = .ok (.bipush 100, 2) := by decide +kernel
theorem dX0_goBack_9 : decode cX0_goBack 9 = .ok (.ireturn, 1) := by decide +kernel
theorem dX0_goBack_10 : decode cX0_goBack 10 = .ok (.aload_n 0, 1) := by decide +kernel
theorem dX0_goBack_11 : decode cX0_goBack 11 = .ok (.dup, 1) := by decide +kernel
theorem dX0_goBack_12 : decode cX0_goBack 12 = .ok (.getfield 18, 3) := by decide +kernel
theorem dX0_goBack_15 : decode cX0_goBack 15 = .ok (.iconst 1, 1) := by decide +kernel
theorem dX0_goBack_16 : decode cX0_goBack 16 = .ok (.isub, 1) := by decide +kernel
theorem dX0_goBack_17 : decode cX0_goBack 17 = .ok (.putfield 18, 3) := by decide +kernel
theorem dX0_goBack_20 : decode cX0_goBack 20 = .ok (.aload_n 0, 1) := by decide +kernel
theorem dX0_goBack_21 : decode cX0_goBack 21 = .ok (.aload_n 0, 1) := by decide +kernel
theorem dX0_goBack_22 : decode cX0_goBack 22 = .ok (.getfield 18, 3) := by decide +kernel
theorem dX0_goBack_25 : decode cX0_goBack 25 = .ok (.putfield 9, 3) := by decide +kernel
theorem dX0_goBack_28 : decode cX0_goBack 28 = .ok (.aload_n 1, 1) := by decide +kernel
theorem dX0_goBack_29 : decode cX0_goBack 29 = .ok (.aload_n 0, 1) := by decide +kernel
theorem dX0_goBack_30 : decode cX0_goBack 30 = .ok (.getfield 9, 3) := by decide +kernel
theorem dX0_goBack_33 : decode cX0_goBack 33 = .ok (.invokevirtual 30, 3) := by decide +kernel
theorem dX0_goBack_36 : decode cX0_goBack 36 = .ok (.ireturn, 1) := by decide +kernel
set_option maxRecDepth 100000 in
set_option maxHeartbeats 4000000 in
theorem C_goBack0 {l : Launch} {D : va_G} {cy : Nat → ClassId} {X : (Nat → Prop) → State → Heap → Prop} {a f : Nat → Nat → Nat} {r : Nat → Nat → Int32} {kn : Int32} {Y : va_W} {k : Nat} {i : Nat} (hX : EnvX X) (hk : k < 3) (hi : i < 11) (hx : f 7 k = 0) : Cd l D cy X yX0_goBack cX0_goBack 2 (some .int) (rmz 1 30) [.ref (a 3 k), .ref (a 1 i)] (WC cy a f r kn ++ Y) (some (.int (nI 100))) (WC cy a f r kn ++ Y) := by
  refine Cm.of [some (.ref (a 3 k)), some (.ref (a 1 i))] (by decide +kernel) rfl (Nat.le_of_ble_eq_true rfl) ?_
  intro p e s m args below meth c A C hE hr hnt hn
  refine r_aload_n C dX0_goBack_0 rfl ?_
  refine u_get (v := .int (nI (f 7 k))) C 1 (by first | omega | (simp [up2, *]; done) | (simp [up2, *]; omega) | (simp only [up2_eq]; omega)) (by decide) qf_X0_18 rfl rfl dX0_goBack_1 ?_
  refine r_ifN_gt (tgt := 10) C (by first | omega | (simp [up2, *]; done) | (simp [up2, *]; omega) | (simp only [up2_eq]; omega)) dX0_goBack_4 (by decide) (fun h4_1 => ?_) (fun h4_1 => ?_)
  · first
    | exfalso; first | omega | contradiction
    | skip
      refine r_aload_n C dX0_goBack_10 rfl ?_
      refine r_dup C dX0_goBack_11 rfl ?_
      refine u_get (v := .int (nI (f 7 k))) C 1 (by first | omega | (simp [up2, *]; done) | (simp [up2, *]; omega) | (simp only [up2_eq]; omega)) (by decide) qf_X0_18 rfl rfl dX0_goBack_12 ?_
      refine r_iconst (v := (nI 1)) C dX0_goBack_15 (by decide) ?_
      refine r_isubN C dX0_goBack_16 (by first | omega | (simp [up2, *]; done) | (simp [up2, *]; omega) | (simp only [up2_eq]; omega)) ?_
      refine u_put C 1 (by first | omega | (simp [up2, *]; done) | (simp [up2, *]; omega) | (simp only [up2_eq]; omega)) (by decide) qf_X0_18 rfl rfl rfl dX0_goBack_17 ?_
      refine r_aload_n C dX0_goBack_20 rfl ?_
      refine r_aload_n C dX0_goBack_21 rfl ?_
      refine u_get (v := .int (nI ((f 7 k) - 1))) C 1 (by first | omega | (simp [up2, *]; done) | (simp [up2, *]; omega) | (simp only [up2_eq]; omega)) (by decide) qf_X0_18 rfl (by simp [uV, up2, *]) dX0_goBack_22 ?_
      refine u_put C 2 (by first | omega | (simp [up2, *]; done) | (simp [up2, *]; omega) | (simp only [up2_eq]; omega)) (by decide) qf_X0_9 rfl rfl rfl dX0_goBack_25 ?_
      refine r_aload_n C dX0_goBack_28 rfl ?_
      refine r_aload_n C dX0_goBack_29 rfl ?_
      refine u_get (v := .int (nI ((f 7 k) - 1))) C 2 (by first | omega | (simp [up2, *]; done) | (simp [up2, *]; omega) | (simp only [up2_eq]; omega)) (by decide) qf_X0_9 rfl (by simp [uV, up2, *]) dX0_goBack_30 ?_
      refine d_V (st := []) hX.stb C hE (C_itemAt (f := (up2 (up2 f 7 k ((f 7 k) - 1)) 8 k ((f 7 k) - 1))) (r := r) (kn := kn) (i := i) (k := ((f 7 k) - 1)) hX (by first | omega | (simp [up2, *]; done) | (simp [up2, *]; omega) | (simp only [up2_eq]; omega)) (by first | omega | (simp [up2, *]; done) | (simp [up2, *]; omega) | (simp only [up2_eq]; omega)) (by first | omega | (simp [up2, *]; done) | (simp [up2, *]; omega) | (simp only [up2_eq]; omega))) pk_X1_itemAt qm_X0_30 (3 + i) 5 rfl rfl (wc_p (by first | omega | (simp [up2, *]; done) | (simp [up2, *]; omega) | (simp only [up2_eq]; omega))) rfl rfl (Nat.le_of_ble_eq_true rfl) dX0_goBack_33 ⟨Nat.le_of_ble_eq_true rfl, Nat.le_of_ble_eq_true rfl⟩ ⟨Nat.le_of_ble_eq_true rfl, Nat.le_of_ble_eq_true rfl⟩ ?_
      exact r_iret C hr dX0_goBack_36 ⟨rfl, rfl⟩ (Nat.le_of_ble_eq_true rfl) (Nat.le_of_ble_eq_true rfl)
  · first
    | exfalso; first | omega | contradiction
    | skip
      refine r_bipush (v := (nI 100)) C dX0_goBack_7 (by decide) ?_
      exact r_iret C hr dX0_goBack_9 ⟨rfl, rfl⟩ (Nat.le_of_ble_eq_true rfl) (Nat.le_of_ble_eq_true rfl)
set_option maxRecDepth 100000 in
set_option maxHeartbeats 4000000 in
theorem C_goBack1 {l : Launch} {D : va_G} {cy : Nat → ClassId} {X : (Nat → Prop) → State → Heap → Prop} {a f : Nat → Nat → Nat} {r : Nat → Nat → Int32} {kn : Int32} {Y : va_W} {k : Nat} {i : Nat} (hX : EnvX X) (hk : k < 3) (hi : i < 11) (h0 : f 0 i < 7) (h4 : f 3 i + f 4 i ≤ 12) (hx : 0 < f 7 k) (hx2 : f 7 k ≤ f 4 i) : Cd l D cy X yX0_goBack cX0_goBack 2 (some .int) (rmz 1 30) [.ref (a 3 k), .ref (a 1 i)] (WC cy a f r kn ++ Y) (some (.int (r (f 0 i) (f 3 i + (f 7 k - 1))))) (WC cy a (up2 (up2 f 7 k (f 7 k - 1)) 8 k (f 7 k - 1)) r kn ++ Y) := by
  refine Cm.of [some (.ref (a 3 k)), some (.ref (a 1 i))] (by decide +kernel) rfl (Nat.le_of_ble_eq_true rfl) ?_
  intro p e s m args below meth c A C hE hr hnt hn
  refine r_aload_n C dX0_goBack_0 rfl ?_
  refine u_get (v := .int (nI (f 7 k))) C 1 (by first | omega | (simp [up2, *]; done) | (simp [up2, *]; omega) | (simp only [up2_eq]; omega)) (by decide) qf_X0_18 rfl rfl dX0_goBack_1 ?_
  refine r_ifN_gt (tgt := 10) C (by first | omega | (simp [up2, *]; done) | (simp [up2, *]; omega) | (simp only [up2_eq]; omega)) dX0_goBack_4 (by decide) (fun h4_1 => ?_) (fun h4_1 => ?_)
  · first
    | exfalso; first | omega | contradiction
    | skip
      refine r_aload_n C dX0_goBack_10 rfl ?_
      refine r_dup C dX0_goBack_11 rfl ?_
      refine u_get (v := .int (nI (f 7 k))) C 1 (by first | omega | (simp [up2, *]; done) | (simp [up2, *]; omega) | (simp only [up2_eq]; omega)) (by decide) qf_X0_18 rfl rfl dX0_goBack_12 ?_
      refine r_iconst (v := (nI 1)) C dX0_goBack_15 (by decide) ?_
      refine r_isubN C dX0_goBack_16 (by first | omega | (simp [up2, *]; done) | (simp [up2, *]; omega) | (simp only [up2_eq]; omega)) ?_
      refine u_put C 1 (by first | omega | (simp [up2, *]; done) | (simp [up2, *]; omega) | (simp only [up2_eq]; omega)) (by decide) qf_X0_18 rfl rfl rfl dX0_goBack_17 ?_
      refine r_aload_n C dX0_goBack_20 rfl ?_
      refine r_aload_n C dX0_goBack_21 rfl ?_
      refine u_get (v := .int (nI ((f 7 k) - 1))) C 1 (by first | omega | (simp [up2, *]; done) | (simp [up2, *]; omega) | (simp only [up2_eq]; omega)) (by decide) qf_X0_18 rfl (by simp [uV, up2, *]) dX0_goBack_22 ?_
      refine u_put C 2 (by first | omega | (simp [up2, *]; done) | (simp [up2, *]; omega) | (simp only [up2_eq]; omega)) (by decide) qf_X0_9 rfl rfl rfl dX0_goBack_25 ?_
      refine r_aload_n C dX0_goBack_28 rfl ?_
      refine r_aload_n C dX0_goBack_29 rfl ?_
      refine u_get (v := .int (nI ((f 7 k) - 1))) C 2 (by first | omega | (simp [up2, *]; done) | (simp [up2, *]; omega) | (simp only [up2_eq]; omega)) (by decide) qf_X0_9 rfl (by simp [uV, up2, *]) dX0_goBack_30 ?_
      refine d_V (st := []) hX.stb C hE (C_itemAt (f := (up2 (up2 f 7 k ((f 7 k) - 1)) 8 k ((f 7 k) - 1))) (r := r) (kn := kn) (i := i) (k := ((f 7 k) - 1)) hX (by first | omega | (simp [up2, *]; done) | (simp [up2, *]; omega) | (simp only [up2_eq]; omega)) (by first | omega | (simp [up2, *]; done) | (simp [up2, *]; omega) | (simp only [up2_eq]; omega)) (by first | omega | (simp [up2, *]; done) | (simp [up2, *]; omega) | (simp only [up2_eq]; omega))) pk_X1_itemAt qm_X0_30 (3 + i) 5 rfl rfl (wc_p (by first | omega | (simp [up2, *]; done) | (simp [up2, *]; omega) | (simp only [up2_eq]; omega))) rfl rfl (Nat.le_of_ble_eq_true rfl) dX0_goBack_33 ⟨Nat.le_of_ble_eq_true rfl, Nat.le_of_ble_eq_true rfl⟩ ⟨Nat.le_of_ble_eq_true rfl, Nat.le_of_ble_eq_true rfl⟩ ?_
      exact r_iret C hr dX0_goBack_36 ⟨rfl, rfl⟩ (Nat.le_of_ble_eq_true rfl) (Nat.le_of_ble_eq_true rfl)
  · first
    | exfalso; first | omega | contradiction
    | skip
      refine r_bipush (v := (nI 100)) C dX0_goBack_7 (by decide) ?_
      exact r_iret C hr dX0_goBack_9 ⟨rfl, rfl⟩ (Nat.le_of_ble_eq_true rfl) (Nat.le_of_ble_eq_true rfl)

