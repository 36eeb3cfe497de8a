theorem dX0_beginAt_6 : decode cX0_beginAt 6 = .ok (.iload_n 2, 1) := by decide +kernel
theorem dX0_beginAt_7 : decode cX0_beginAt 7 = .ok (.putfield 18, 3) := by decide +kernel
theorem dX0_beginAt_10 : decode cX0_beginAt 10 = .ok (.aload_n 0, 1) := by decide +kernel
theorem dX0_beginAt_11 : decode cX0_beginAt 11 = .ok (.iconst (-1), 1) := by decide +kernel
theorem dX0_beginAt_12 : decode cX0_beginAt 12 = .ok (.putfield 9, 3) := by decide +kernel
theorem dX0_beginAt_15 : decode cX0_beginAt 15 = .ok (.aload_n 0, 1) := by decide +kernel
theorem dX0_beginAt_16 : decode cX0_beginAt 16 = .ok (.iconst 1, 1) := by decide +kernel
theorem dX0_beginAt_17 : decode cX0_beginAt 17 = .ok (.putfield 21, 3) := by decide +kernel
theorem dX0_beginAt_20 : decode cX0_beginAt 20 = .ok (.return_, 1) := by decide +kernel
set_option maxRecDepth 100000 in
set_option maxHeartbeats 4000000 in
theorem C_beginAt {l : Launch} {D : va_G} {cy : Nat → ClassId} {X : (Nat → Prop) → State → Heap → Prop} {a f : Nat → Nat → Nat} {r : Nat → Nat → Int32} {kn : Int32} {Y : va_W} {k : Nat} {w : Nat} {q0 : Nat} (hX : EnvX X) (hk : k < 3) : Cd l D cy X yX0_beginAt cX0_beginAt 3 none (rmz 0 0) [.ref (a 3 k), .int (nI w), .int (nI q0)] (WC cy a f r kn ++ Y) none (WC cy a (up2 (up2 (up2 (up2 f 6 k w) 7 k q0) 8 k 4294967295) 9 k 1) r kn ++ Y) := by
  refine Cm.of [some (.ref (a 3 k)), some (.int (nI w)), some (.int (nI q0))] (by decide +kernel) rfl (Nat.le_of_ble_eq_true rfl) ?_
  intro p e s m args below meth c A C hE hr hnt hn
  refine r_aload_n C dX0_beginAt_0 rfl ?_
  refine r_iload_n C dX0_beginAt_1 rfl ?_
  refine u_put C 0 (by first | omega | (simp [up2, *]; done) | (simp [up2, *]; omega) | (simp only [up2_eq]; omega)) (by decide) qf_X0_15 rfl rfl rfl dX0_beginAt_2 ?_
  refine r_aload_n C dX0_beginAt_5 rfl ?_
  refine r_iload_n C dX0_beginAt_6 rfl ?_
  refine u_put C 1 (by first | omega | (simp [up2, *]; done) | (simp [up2, *]; omega) | (simp only [up2_eq]; omega)) (by decide) qf_X0_18 rfl rfl rfl dX0_beginAt_7 ?_
  refine r_aload_n C dX0_beginAt_10 rfl ?_
  refine r_iconst (v := (nI 4294967295)) C dX0_beginAt_11 (by decide) ?_
  refine u_put C 2 (by first | omega | (simp [up2, *]; done) | (simp [up2, *]; omega) | (simp only [up2_eq]; omega)) (by decide) qf_X0_9 rfl rfl rfl dX0_beginAt_12 ?_
  refine r_aload_n C dX0_beginAt_15 rfl ?_
  refine r_iconst (v := (nI 1)) C dX0_beginAt_16 (by decide) ?_
  refine u_putZ C (by first | omega | (simp [up2, *]; done) | (simp [up2, *]; omega) | (simp only [up2_eq]; omega)) (by first | omega | (simp [up2, *]; done) | (simp [up2, *]; omega) | (simp only [up2_eq]; omega)) qf_X0_21 dX0_beginAt_17 ?_
  exact r_vret C hr dX0_beginAt_20 ⟨rfl, rfl⟩ (Nat.le_of_ble_eq_true rfl) (Nat.le_of_ble_eq_true rfl)
theorem dX0_goForth_0 : decode cX0_goForth 0 = .ok (.aload_n 0, 1) := by decide +kernel
theorem dX0_goForth_1 : decode cX0_goForth 1 = .ok (.getfield 18, 3) := by decide +kernel
theorem dX0_goForth_4 : decode cX0_goForth 4 = .ok (.aload_n 1, 1) := by decide +kernel
theorem dX0_goForth_5 : decode cX0_goForth 5 = .ok (.getfield 25, 3) := by decide +kernel
theorem dX0_goForth_8 : decode cX0_goForth 8 = .ok (.if_icmp .lt 6, 3) := by decide +kernel
theorem dX0_goForth_11 : decode cX0_goForth 11 = .ok (.bipush 100, 2) := by decide +kernel
theorem dX0_goForth_13 : decode cX0_goForth 13 = .ok (.ireturn, 1) := by decide +kernel
theorem dX0_goForth_14 : decode cX0_goForth 14 = .ok (.aload_n 0, 1) := by decide +kernel
theorem dX0_goForth_15 : decode cX0_goForth 15 = .ok (.aload_n 0, 1) := by decide +kernel
theorem dX0_goForth_16 : decode cX0_goForth 16 = .ok (.getfield 18, 3) := by decide +kernel
theorem dX0_goForth_19 : decode cX0_goForth 19 = .ok (.putfield 9, 3) := by decide +kernel
theorem dX0_goForth_22 : decode cX0_goForth 22 = .ok (.aload_n 0, 1) := by decide +kernel
theorem dX0_goForth_23 : decode cX0_goForth 23 = .ok (.dup, 1) := by decide +kernel
theorem dX0_goForth_24 : decode cX0_goForth 24 = .ok (.getfield 18, 3) := by decide +kernel
theorem dX0_goForth_27 : decode cX0_goForth 27 = .ok (.iconst 1, 1) := by decide +kernel
theorem dX0_goForth_28 : decode cX0_goForth 28 = .ok (.iadd, 1) := by decide +kernel
theorem dX0_goForth_29 : decode cX0_goForth 29 = .ok (.putfield 18, 3) := by decide +kernel
theorem dX0_goForth_32 : decode cX0_goForth 32 = .ok (.aload_n 1, 1) := by decide +kernel
theorem dX0_goForth_33 : decode cX0_goForth 33 = .ok (.aload_n 0, 1) := by decide +kernel
theorem dX0_goForth_34 : decode cX0_goForth 34 = .ok (.getfield 9, 3) := by decide +kernel
theorem dX0_goForth_37 : decode cX0_goForth 37 = .ok (.invokevirtual 30, 3) := by decide +kernel
theorem dX0_goForth_40 : decode cX0_goForth 40 = .ok (.ireturn, 1) := by decide +kernel
set_option maxRecDepth 100000 in
set_option maxHeartbeats 4000000 in
theorem C_goForth0 {l : Launch} {D : va_G} {cy : Nat → ClassId} {X : (Nat → Prop) → State → Heap → Prop} {a f : Nat → Nat → Nat} {r : Nat → Nat → Int32} {kn : Int32} {Y : va_W} {k : Nat} {i : Nat} (hX : EnvX X) (hk : k < 3) (hi : i < 11) (hx : f 4 i ≤ f 7 k) (hx2 : f 7 k ≤ 12) : Cd l D cy X yX0_goForth cX0_goForth 2 (some .int) (rmz 1 30) [.ref (a 3 k), .ref (a 1 i)] (WC cy a f r kn ++ Y) (some (.int (nI 100))) (WC cy a f r kn ++ Y) := by
  refine Cm.of [some (.ref (a 3 k)), some (.ref (a 1 i))] (by decide +kernel) rfl (Nat.le_of_ble_eq_true rfl) ?_
  intro p e s m args below meth c A C hE hr hnt hn
  refine r_aload_n C dX0_goForth_0 rfl ?_
  refine u_get (v := .int (nI (f 7 k))) C 1 (by first | omega | (simp [up2, *]; done) | (simp [up2, *]; omega) | (simp only [up2_eq]; omega)) (by decide) qf_X0_18 rfl rfl dX0_goForth_1 ?_
  refine r_aload_n C dX0_goForth_4 rfl ?_
  refine p_getN (v := .int (nI (f 4 i))) hX C hE 4 (by first | omega | (simp [up2, *]; done) | (simp [up2, *]; omega) | (simp only [up2_eq]; omega)) (by decide) qn_X0_25 rfl rfl dX0_goForth_5 ?_
  refine r_icN_lt (tgt := 14) C (by first | omega | (simp [up2, *]; done) | (simp [up2, *]; omega) | (simp only [up2_eq]; omega)) (by first | omega | (simp [up2, *]; done) | (simp [up2, *]; omega) | (simp only [up2_eq]; omega)) dX0_goForth_8 (by decide) (fun h8_1 => ?_) (fun h8_1 => ?_)
  · first
    | exfalso; first | omega | contradiction
    | skip
      refine r_aload_n C dX0_goForth_14 rfl ?_
      refine r_aload_n C dX0_goForth_15 rfl ?_
      refine u_get (v := .int (nI (f 7 k))) C 1 (by first | omega | (simp [up2, *]; done) | (simp [up2, *]; omega) | (simp only [up2_eq]; omega)) (by decide) qf_X0_18 rfl rfl dX0_goForth_16 ?_
      refine u_put C 2 (by first | omega | (simp [up2, *]; done) | (simp [up2, *]; omega) | (simp only [up2_eq]; omega)) (by decide) qf_X0_9 rfl rfl rfl dX0_goForth_19 ?_
      refine r_aload_n C dX0_goForth_22 rfl ?_
      refine r_dup C dX0_goForth_23 rfl ?_
      refine u_get (v := .int (nI (f 7 k))) C 1 (by first | omega | (simp [up2, *]; done) | (simp [up2, *]; omega) | (simp only [up2_eq]; omega)) (by decide) qf_X0_18 rfl rfl dX0_goForth_24 ?_
      refine r_iconst (v := (nI 1)) C dX0_goForth_27 (by decide) ?_
      refine r_iaddN C dX0_goForth_28 ?_
      refine u_put C 1 (by first | omega | (simp [up2, *]; done) | (simp [up2, *]; omega) | (simp only [up2_eq]; omega)) (by decide) qf_X0_18 rfl rfl rfl dX0_goForth_29 ?_
      refine r_aload_n C dX0_goForth_32 rfl ?_
      refine r_aload_n C dX0_goForth_33 rfl ?_
      refine u_get (v := .int (nI (f 7 k))) C 2 (by first | omega | (simp [up2, *]; done) | (simp [up2, *]; omega) | (simp only [up2_eq]; omega)) (by decide) qf_X0_9 rfl (by simp [uV, up2, *]) dX0_goForth_34 ?_
      refine d_V (st := []) hX.stb C hE (C_itemAt (f := (up2 (up2 f 8 k (f 7 k)) 7 k ((f 7 k) + 1))) (r := r) (kn := kn) (i := i) (k := (f 7 k)) hX (by first | omega | (simp [up2, *]; done) | (simp [up2, *]; omega) | (simp only [up2_eq]; omega)) (by first | omega | (simp [up2, *]; done) | (simp [up2, *]; omega) | (simp only [up2_eq]; omega)) (by first | omega | (simp [up2, *]; done) | (simp [up2, *]; omega) | (simp only [up2_eq]; omega))) pk_X1_itemAt qm_X0_30 (3 + i) 5 rfl rfl (wc_p (by first | omega | (simp [up2, *]; done) | (simp [up2, *]; omega) | (simp only [up2_eq]; omega))) rfl rfl (Nat.le_of_ble_eq_true rfl) dX0_goForth_37 ⟨Nat.le_of_ble_eq_true rfl, Nat.le_of_ble_eq_true rfl⟩ ⟨Nat.le_of_ble_eq_true rfl, Nat.le_of_ble_eq_true rfl⟩ ?_
      exact r_iret C hr dX0_goForth_40 ⟨rfl, rfl⟩ (Nat.le_of_ble_eq_true rfl) (Nat.le_of_ble_eq_true rfl)
  · first
    | exfalso; first | omega | contradiction
    | skip
      refine r_bipush (v := (nI 100)) C dX0_goForth_11 (by decide) ?_
      exact r_iret C hr dX0_goForth_13 ⟨rfl, rfl⟩ (Nat.le_of_ble_eq_true rfl) (Nat.le_of_ble_eq_true rfl)
set_option maxRecDepth 100000 in
set_option maxHeartbeats 4000000 in
theorem C_goForth1 {l : Launch} {D : va_G} {cy : Nat → ClassId} {X : (Nat → Prop) → State → Heap → Prop} {a f : Nat → Nat → Nat} {r : Nat → Nat → Int32} {kn : Int32} {Y : va_W} {k : Nat} {i : Nat} (hX : EnvX X) (hk : k < 3) (hi : i < 11) (h0 : f 0 i < 7) (h4 : f 3 i + f 4 i ≤ 12) (hx : f 7 k < f 4 i) : Cd l D cy X yX0_goForth cX0_goForth 2 (some .int) (rmz 1 30) [.ref (a 3 k), .ref (a 1 i)] (WC cy a f r kn ++ Y) (some (.int (r (f 0 i) (f 3 i + f 7 k)))) (WC cy a (up2 (up2 f 8 k (f 7 k)) 7 k (f 7 k + 1)) r kn ++ Y) := by
  refine Cm.of [some (.ref (a 3 k)), some (.ref (a 1 i))] (by decide +kernel) rfl (Nat.le_of_ble_eq_true rfl) ?_
  intro p e s m args below meth c A C hE hr hnt hn
  refine r_aload_n C dX0_goForth_0 rfl ?_
  refine u_get (v := .int (nI (f 7 k))) C 1 (by first | omega | (simp [up2, *]; done) | (simp [up2, *]; omega) | (simp only [up2_eq]; omega)) (by decide) qf_X0_18 rfl rfl dX0_goForth_1 ?_
  refine r_aload_n C dX0_goForth_4 rfl ?_
  refine p_getN (v := .int (nI (f 4 i))) hX C hE 4 (by first | omega | (simp [up2, *]; done) | (simp [up2, *]; omega) | (simp only [up2_eq]; omega)) (by decide) qn_X0_25 rfl rfl dX0_goForth_5 ?_
  refine r_icN_lt (tgt := 14) C (by first | omega | (simp [up2, *]; done) | (simp [up2, *]; omega) | (simp only [up2_eq]; omega)) (by first | omega | (simp [up2, *]; done) | (simp [up2, *]; omega) | (simp only [up2_eq]; omega)) dX0_goForth_8 (by decide) (fun h8_1 => ?_) (fun h8_1 => ?_)
  · first
    | exfalso; first | omega | contradiction
    | skip
      refine r_aload_n C dX0_goForth_14 rfl ?_
      refine r_aload_n C dX0_goForth_15 rfl ?_
      refine u_get (v := .int (nI (f 7 k))) C 1 (by first | omega | (simp [up2, *]; done) | (simp [up2, *]; omega) | (simp only [up2_eq]; omega)) (by decide) qf_X0_18 rfl rfl dX0_goForth_16 ?_
      refine u_put C 2 (by first | omega | (simp [up2, *]; done) | (simp [up2, *]; omega) | (simp only [up2_eq]; omega)) (by decide) qf_X0_9 rfl rfl rfl dX0_goForth_19 ?_
      refine r_aload_n C dX0_goForth_22 rfl ?_
      refine r_dup C dX0_goForth_23 rfl ?_
      refine u_get (v := .int (nI (f 7 k))) C 1 (by first | omega | (simp [up2, *]; done) | (simp [up2, *]; omega) | (simp only [up2_eq]; omega)) (by decide) qf_X0_18 rfl rfl dX0_goForth_24 ?_
      refine r_iconst (v := (nI 1)) C dX0_goForth_27 (by decide) ?_
      refine r_iaddN C dX0_goForth_28 ?_
      refine u_put C 1 (by first | omega | (simp [up2, *]; done) | (simp [up2, *]; omega) | (simp only [up2_eq]; omega)) (by decide) qf_X0_18 rfl rfl rfl dX0_goForth_29 ?_
      refine r_aload_n C dX0_goForth_32 rfl ?_
      refine r_aload_n C dX0_goForth_33 rfl ?_
      refine u_get (v := .int (nI (f 7 k))) C 2 (by first | omega | (simp [up2, *]; done) | (simp [up2, *]; omega) | (simp only [up2_eq]; omega)) (by decide) qf_X0_9 rfl (by simp [uV, up2, *]) dX0_goForth_34 ?_
      refine d_V (st := []) hX.stb C hE (C_itemAt (f := (up2 (up2 f 8 k (f 7 k)) 7 k ((f 7 k) + 1))) (r := r) (kn := kn) (i := i) (k := (f 7 k)) hX (by first | omega | (simp [up2, *]; done) | (simp [up2, *]; omega) | (simp only [up2_eq]; omega)) (by first | omega | (simp [up2, *]; done) | (simp [up2, *]; omega) | (simp only [up2_eq]; omega)) (by first | omega | (simp [up2, *]; done) | (simp [up2, *]; omega) | (simp only [up2_eq]; omega))) pk_X1_itemAt qm_X0_30 (3 + i) 5 rfl rfl (wc_p (by first | omega | (simp [up2, *]; done) | (simp [up2, *]; omega) | (simp only [up2_eq]; omega))) rfl rfl (Nat.le_of_ble_eq_true rfl) dX0_goForth_37 ⟨Nat.le_of_ble_eq_true rfl, Nat.le_of_ble_eq_true rfl⟩ ⟨Nat.le_of_ble_eq_true rfl, Nat.le_of_ble_eq_true rfl⟩ ?_
      exact r_iret C hr dX0_goForth_40 ⟨rfl, rfl⟩ (Nat.le_of_ble_eq_true rfl) (Nat.le_of_ble_eq_true rfl)
  · first
    | exfalso; first | omega | contradiction
    | skip
      refine r_bipush (v := (nI 100)) C dX0_goForth_11 (by decide) ?_
      exact r_iret C hr dX0_goForth_13 ⟨rfl, rfl⟩ (Nat.le_of_ble_eq_true rfl) (Nat.le_of_ble_eq_true rfl)
