theorem dX1_append_4 : decode cX1_append 4 = .ok (.bipush 12, 2) := by decide +kernel
theorem dX1_append_6 : decode cX1_append 6 = .ok (.if_icmp .ge 23, 3) := by decide +kernel
theorem dX1_append_9 : decode cX1_append 9 = .ok (.aload_n 0, 1) := by decide +kernel
theorem dX1_append_10 : decode cX1_append 10 = .ok (.getfield 15, 3) := by decide +kernel
theorem dX1_append_13 : decode cX1_append 13 = .ok (.aload_n 0, 1) := by decide +kernel
theorem dX1_append_14 : decode cX1_append 14 = .ok (.getfield 29, 3) := by decide +kernel
theorem dX1_append_17 : decode cX1_append 17 = .ok (.iload_n 1, 1) := by decide +kernel
theorem dX1_append_18 : decode cX1_append 18 = .ok (.iastore, 1) := by decide +kernel
theorem dX1_append_19 : decode cX1_append 19 = .ok (.aload_n 0, 1) := by decide +kernel
theorem dX1_append_20 : decode cX1_append 20 = .ok (.dup, 1) := by decide +kernel
theorem dX1_append_21 : decode cX1_append 21 = .ok (.getfield 29, 3) := by decide +kernel
theorem dX1_append_24 : decode cX1_append 24 = .ok (.iconst 1, 1) := by decide +kernel
theorem dX1_append_25 : decode cX1_append 25 = .ok (.iadd, 1) := by decide +kernel
theorem dX1_append_26 : decode cX1_append 26 = .ok (.putfield 29, 3) := by decide +kernel
theorem dX1_append_29 : decode cX1_append 29 = .ok (.return_, 1) := by decide +kernel
set_option maxRecDepth 100000 in
set_option maxHeartbeats 4000000 in
theorem C_append {l : Launch} {D : va_G} {cy : Nat → ClassId} {X : (Nat → Prop) → State → Heap → Prop} {a f : Nat → Nat → Nat} {r : Nat → Nat → Int32} {kn : Int32} {Y : va_W} {i : Nat} {x : Int32} (hX : EnvX X) (hi : i < 11) (h0 : f 0 i < 7) (h4 : f 4 i < 12) : Cd l D cy X yX1_append cX1_append 2 none (rmz 0 0) [.ref (a 1 i), .int x] (WC cy a f r kn ++ Y) none (WC cy a (up2 f 4 i (f 4 i + 1)) (up2 r (f 0 i) (f 4 i) x) kn ++ Y) := by
  refine Cm.of [some (.ref (a 1 i)), some (.int x)] (by decide +kernel) rfl (Nat.le_of_ble_eq_true rfl) ?_
  intro p e s m args below meth c A C hE hr hnt hn
  refine r_aload_n C dX1_append_0 rfl ?_
  refine p_get (v := .int (nI (f 4 i))) C 4 (by first | omega | (simp [up2, *]; done) | (simp [up2, *]; omega) | (simp only [up2_eq]; omega)) (by decide) qf_X1_29 rfl rfl dX1_append_1 ?_
  refine r_bipush (v := (nI 12)) C dX1_append_4 (by decide) ?_
  refine r_icN_ge (tgt := 29) C (by first | omega | (simp [up2, *]; done) | (simp [up2, *]; omega) | (simp only [up2_eq]; omega)) (by first | omega | (simp [up2, *]; done) | (simp [up2, *]; omega) | (simp only [up2_eq]; omega)) dX1_append_6 (by decide) (fun h6_1 => ?_) (fun h6_1 => ?_)
  · first
    | exfalso; first | omega | contradiction
    | skip
      exact r_vret C hr dX1_append_29 ⟨rfl, rfl⟩ (Nat.le_of_ble_eq_true rfl) (Nat.le_of_ble_eq_true rfl)
  · first
    | exfalso; first | omega | contradiction
    | skip
      refine r_aload_n C dX1_append_9 rfl ?_
      refine p_get (v := .ref (a 2 (f 0 i))) C 0 (by first | omega | (simp [up2, *]; done) | (simp [up2, *]; omega) | (simp only [up2_eq]; omega)) (by decide) qf_X1_15 rfl rfl dX1_append_10 ?_
      refine r_aload_n C dX1_append_13 rfl ?_
      refine p_get (v := .int (nI (f 4 i))) C 4 (by first | omega | (simp [up2, *]; done) | (simp [up2, *]; omega) | (simp only [up2_eq]; omega)) (by decide) qf_X1_29 rfl rfl dX1_append_14 ?_
      refine r_iload_n C dX1_append_17 rfl ?_
      refine s_iast C (by first | omega | (simp [up2, *]; done) | (simp [up2, *]; omega) | (simp only [up2_eq]; omega)) (by first | omega | (simp [up2, *]; done) | (simp [up2, *]; omega) | (simp only [up2_eq]; omega)) dX1_append_18 ?_
      refine r_aload_n C dX1_append_19 rfl ?_
      refine r_dup C dX1_append_20 rfl ?_
      refine p_get (v := .int (nI (f 4 i))) C 4 (by first | omega | (simp [up2, *]; done) | (simp [up2, *]; omega) | (simp only [up2_eq]; omega)) (by decide) qf_X1_29 rfl rfl dX1_append_21 ?_
      refine r_iconst (v := (nI 1)) C dX1_append_24 (by decide) ?_
      refine r_iaddN C dX1_append_25 ?_
      refine p_put C 4 (by first | omega | (simp [up2, *]; done) | (simp [up2, *]; omega) | (simp only [up2_eq]; omega)) (by decide) (by decide) qf_X1_29 rfl rfl rfl dX1_append_26 ?_
      exact r_vret C hr dX1_append_29 ⟨rfl, rfl⟩ (Nat.le_of_ble_eq_true rfl) (Nat.le_of_ble_eq_true rfl)
theorem dX1_becomeLike_0 : decode cX1_becomeLike 0 = .ok (.aload_n 0, 1) := by decide +kernel
theorem dX1_becomeLike_1 : decode cX1_becomeLike 1 = .ok (.aload_n 1, 1) := by decide +kernel
theorem dX1_becomeLike_2 : decode cX1_becomeLike 2 = .ok (.getfield 29, 3) := by decide +kernel
theorem dX1_becomeLike_5 : decode cX1_becomeLike 5 = .ok (.putfield 29, 3) := by decide +kernel
theorem dX1_becomeLike_8 : decode cX1_becomeLike 8 = .ok (.aload_n 1, 1) := by decide +kernel
theorem dX1_becomeLike_9 : decode cX1_becomeLike 9 = .ok (.getfield 15, 3) := by decide +kernel
theorem dX1_becomeLike_12 : decode cX1_becomeLike 12 = .ok (.aload_n 1, 1) := by decide +kernel
theorem dX1_becomeLike_13 : decode cX1_becomeLike 13 = .ok (.getfield 26, 3) := by decide +kernel
theorem dX1_becomeLike_16 : decode cX1_becomeLike 16 = .ok (.aload_n 0, 1) := by decide +kernel
theorem dX1_becomeLike_17 : decode cX1_becomeLike 17 = .ok (.getfield 15, 3) := by decide +kernel
theorem dX1_becomeLike_20 : decode cX1_becomeLike 20 = .ok (.aload_n 0, 1) := by decide +kernel
theorem dX1_becomeLike_21 : decode cX1_becomeLike 21 = .ok (.getfield 26, 3) := by decide +kernel
theorem dX1_becomeLike_24 : decode cX1_becomeLike 24 = .ok (.aload_n 0, 1) := by decide +kernel
theorem dX1_becomeLike_25 : decode cX1_becomeLike 25 = .ok (.getfield 29, 3) := by decide +kernel
theorem dX1_becomeLike_28 : decode cX1_becomeLike 28 = .ok (.invokestatic 36, 3) := by decide +kernel
theorem dX1_becomeLike_31 : decode cX1_becomeLike 31 = .ok (.return_, 1) := by decide +kernel
set_option maxRecDepth 100000 in
set_option maxHeartbeats 4000000 in
theorem C_becomeLike {l : Launch} {D : va_G} {cy : Nat → ClassId} {X : (Nat → Prop) → State → Heap → Prop} {a f : Nat → Nat → Nat} {r : Nat → Nat → Int32} {kn : Int32} {Y : va_W} {i : Nat} {j : Nat} (hX : EnvX X) (hi : i < 11) (hj : j < 11) (h0 : f 0 i < 7) (h0j : f 0 j < 7) (h4j : f 3 j + f 4 j ≤ 12) (h3 : f 3 i + f 4 j ≤ 12) : Cd l D cy X yX1_becomeLike cX1_becomeLike 2 none (rmz 1 40) [.ref (a 1 i), .ref (a 1 j)] (WC cy a f r kn ++ Y) none (WC cy a (up2 f 4 i (f 4 j)) (cpy2 r (f 0 j) (f 3 j) (f 0 i) (f 3 i) (f 4 j)) kn ++ Y) := by
  refine Cm.of [some (.ref (a 1 i)), some (.ref (a 1 j))] (by decide +kernel) rfl (Nat.le_of_ble_eq_true rfl) ?_
  intro p e s m args below meth c A C hE hr hnt hn
  refine r_aload_n C dX1_becomeLike_0 rfl ?_
  refine r_aload_n C dX1_becomeLike_1 rfl ?_
  refine p_get (v := .int (nI (f 4 j))) C 4 (by first | omega | (simp [up2, *]; done) | (simp [up2, *]; omega) | (simp only [up2_eq]; omega)) (by decide) qf_X1_29 rfl rfl dX1_becomeLike_2 ?_
  refine p_put C 4 (by first | omega | (simp [up2, *]; done) | (simp [up2, *]; omega) | (simp only [up2_eq]; omega)) (by decide) (by decide) qf_X1_29 rfl rfl rfl dX1_becomeLike_5 ?_
  refine r_aload_n C dX1_becomeLike_8 rfl ?_
  refine p_get (v := .ref (a 2 (f 0 j))) C 0 (by first | omega | (simp [up2, *]; done) | (simp [up2, *]; omega) | (simp only [up2_eq]; omega)) (by decide) qf_X1_15 rfl rfl dX1_becomeLike_9 ?_
  refine r_aload_n C dX1_becomeLike_12 rfl ?_
  refine p_get (v := .int (nI (f 3 j))) C 3 (by first | omega | (simp [up2, *]; done) | (simp [up2, *]; omega) | (simp only [up2_eq]; omega)) (by decide) qf_X1_26 rfl rfl dX1_becomeLike_13 ?_
  refine r_aload_n C dX1_becomeLike_16 rfl ?_
  refine p_get (v := .ref (a 2 (f 0 i))) C 0 (by first | omega | (simp [up2, *]; done) | (simp [up2, *]; omega) | (simp only [up2_eq]; omega)) (by decide) qf_X1_15 rfl rfl dX1_becomeLike_17 ?_
  refine r_aload_n C dX1_becomeLike_20 rfl ?_
  refine p_get (v := .int (nI (f 3 i))) C 3 (by first | omega | (simp [up2, *]; done) | (simp [up2, *]; omega) | (simp only [up2_eq]; omega)) (by decide) qf_X1_26 rfl rfl dX1_becomeLike_21 ?_
  refine r_aload_n C dX1_becomeLike_24 rfl ?_
  refine p_get (v := .int (nI (f 4 j))) C 4 (by first | omega | (simp [up2, *]; done) | (simp [up2, *]; omega) | (simp only [up2_eq]; omega)) (by decide) qf_X1_29 rfl (by simp [pV, up2, *]) dX1_becomeLike_25 ?_
  refine s_copy (j0 := (f 0 j)) (j1 := (f 0 i)) (sp := (f 3 j)) (dp := (f 3 i)) (n := (f 4 j)) (st := []) C qm_X1_36 (by first | omega | (simp [up2, *]; done) | (simp [up2, *]; omega) | (simp only [up2_eq]; omega)) (by first | omega | (simp [up2, *]; done) | (simp [up2, *]; omega) | (simp only [up2_eq]; omega)) (by first | omega | (simp [up2, *]; done) | (simp [up2, *]; omega) | (simp only [up2_eq]; omega)) (by first | omega | (simp [up2, *]; done) | (simp [up2, *]; omega) | (simp only [up2_eq]; omega)) (by decide) (Nat.le_of_ble_eq_true rfl) dX1_becomeLike_28 ?_
  exact r_vret C hr dX1_becomeLike_31 ⟨rfl, rfl⟩ (Nat.le_of_ble_eq_true rfl) (Nat.le_of_ble_eq_true rfl)
theorem pk_X1_putAt : PkV RX1 yX1_putAt cX1_putAt 3 none 2 := ⟨⟨qi_X1_putAt, qs_X1_putAt, qz_X1, qc_X1_putAt⟩, by decide +kernel⟩
theorem dX1_exchangeTwo_0 : decode cX1_exchangeTwo 0 = .ok (.aload_n 0, 1) := by decide +kernel
theorem dX1_exchangeTwo_1 : decode cX1_exchangeTwo 1 = .ok (.iload_n 1, 1) := by decide +kernel
