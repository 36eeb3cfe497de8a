theorem pk_X1_exchangeTwo : PkV RX1 yX1_exchangeTwo cX1_exchangeTwo 4 none 2 := ⟨⟨qi_X1_exchangeTwo, qs_X1_exchangeTwo, qz_X1, qc_X1_exchangeTwo⟩, by decide +kernel⟩
theorem dX1_turn_0 : decode cX1_turn 0 = .ok (.iload_n 2, 1) := by decide +kernel
theorem dX1_turn_1 : decode cX1_turn 1 = .ok (.iconst 1, 1) := by decide +kernel
theorem dX1_turn_2 : decode cX1_turn 2 = .ok (.isub, 1) := by decide +kernel
theorem dX1_turn_3 : decode cX1_turn 3 = .ok (.istore_n 3, 1) := by decide +kernel
theorem dX1_turn_4 : decode cX1_turn 4 = .ok (.iload_n 1, 1) := by decide +kernel
theorem dX1_turn_5 : decode cX1_turn 5 = .ok (.istore 4, 2) := by decide +kernel
theorem dX1_turn_7 : decode cX1_turn 7 = .ok (.iload 4, 2) := by decide +kernel
theorem dX1_turn_9 : decode cX1_turn 9 = .ok (.iload_n 3, 1) := by decide +kernel
theorem dX1_turn_10 : decode cX1_turn 10 = .ok (.if_icmp .ge 19, 3) := by decide +kernel
theorem dX1_turn_13 : decode cX1_turn 13 = .ok (.aload_n 0, 1) := by decide +kernel
theorem dX1_turn_14 : decode cX1_turn 14 = .ok (.iload 4, 2) := by decide +kernel
theorem dX1_turn_16 : decode cX1_turn 16 = .ok (.iload_n 3, 1) := by decide +kernel
theorem dX1_turn_17 : decode cX1_turn 17 = .ok (.invokevirtual 46, 3) := by decide +kernel
theorem dX1_turn_20 : decode cX1_turn 20 = .ok (.iinc 3 (-1), 3) := by decide +kernel
theorem dX1_turn_23 : decode cX1_turn 23 = .ok (.iinc 4 1, 3) := by decide +kernel
theorem dX1_turn_26 : decode cX1_turn 26 = .ok (.goto (-19), 3) := by decide +kernel
theorem dX1_turn_29 : decode cX1_turn 29 = .ok (.return_, 1) := by decide +kernel
set_option maxRecDepth 100000 in
set_option maxHeartbeats 4000000 in
theorem C_turn {l : Launch} {D : va_G} {cy : Nat → ClassId} {X : (Nat → Prop) → State → Heap → Prop} {a f : Nat → Nat → Nat} {r : Nat → Nat → Int32} {kn : Int32} {Y : va_W} {i : Nat} {p0 : Nat} {q0 : Nat} (hX : EnvX X) (hi : i < 11) (h0 : f 0 i < 7) (hp : p0 ≤ q0) (hq0 : 1 ≤ q0) (hq : f 3 i + q0 ≤ 12) : Cd l D cy X yX1_turn cX1_turn 5 none (rmz 2 60) [.ref (a 1 i), .int (nI p0), .int (nI q0)] (WC cy a f r kn ++ Y) none (WC cy a f (revS r (f 0 i) (f 3 i + p0) (f 3 i + q0)) kn ++ Y) := by
  refine Cm.of [some (.ref (a 1 i)), some (.int (nI p0)), some (.int (nI q0)), none, none] (by decide +kernel) rfl (Nat.le_of_ble_eq_true rfl) ?_
  intro p e s m args below meth c A C hE hr hnt hn
  refine r_iload_n C dX1_turn_0 rfl ?_
  refine r_iconst (v := (nI 1)) C dX1_turn_1 (by decide) ?_
  refine r_isubN C dX1_turn_2 (by first | omega | (simp [up2, *]; done) | (simp [up2, *]; omega) | (simp only [up2_eq]; omega)) ?_
  refine r_istore_n C dX1_turn_3 (by decide) rfl ?_
  refine r_iload_n C dX1_turn_4 rfl ?_
  refine r_istore C dX1_turn_5 (by decide) rfl ?_
  refine r_w (congrArg (fun z => WC cy a f z kn ++ Y) (revT_0 r (f 0 i) (f 3 i + p0) (f 3 i + q0)).symm) ?_
  have L7 : ∀ (d : Nat) (t : Nat), (ht : q0 ≤ p0 + t + t + 1 + d) → (ht2 : t = 0 ∨ p0 + t + t ≤ q0) → vC p l e (rmz 2 60) s m args below meth c D A (vx_MQ below (vG (fun v1 w1 => v1 = none ∧ w1 = WC cy a f (revS r (f 0 i) (f 3 i + p0) (f 3 i + q0)) kn ++ Y) D vwCl A) (vGX (fun _ => False) D vwCl (WC cy a f r kn ++ Y) A) args s (rmz 2 60).cells (rmz 2 60).slots A) 5 0 0 (WC cy a f (revT r (f 0 i) (f 3 i + p0) (f 3 i + q0) t) kn ++ Y) [some (.ref (a 1 i)), some (.int (nI p0)), some (.int (nI q0)), some (.int (nI (q0 - 1 - t))), some (.int (nI (p0 + t)))] 7 [] := by
    intro d
    induction d with
    | zero =>
      intro t ht ht2
      refine r_iload C dX1_turn_7 rfl ?_
      refine r_iload_n C dX1_turn_9 rfl ?_
      refine r_icN_ge (tgt := 29) C (by first | omega | (simp [up2, *]; done) | (simp [up2, *]; omega) | (simp only [up2_eq]; omega)) (by first | omega | (simp [up2, *]; done) | (simp [up2, *]; omega) | (simp only [up2_eq]; omega)) dX1_turn_10 (by decide) (fun h10_1 => ?_) (fun h10_1 => ?_)
      · first
        | exfalso; first | omega | contradiction
        | skip
          exact r_vret C hr dX1_turn_29 ⟨rfl, congrArg (fun z => WC cy a f z kn ++ Y) (revT_end (by omega) (by omega))⟩ (Nat.le_of_ble_eq_true rfl) (Nat.le_of_ble_eq_true rfl)
      · first
        | exfalso; first | omega | contradiction
        | skip
          refine r_aload_n C dX1_turn_13 rfl ?_
          refine r_iload C dX1_turn_14 rfl ?_
          refine r_iload_n C dX1_turn_16 rfl ?_
          refine d_Vv (st := []) hX.stb C hE (C_exchangeTwo (f := f) (r := (revT r (f 0 i) (f 3 i + p0) (f 3 i + q0) t)) (kn := kn) (i := i) (k1 := (p0 + t)) (k2 := (q0 - 1 - t)) hX (by first | omega | (simp [up2, *]; done) | (simp [up2, *]; omega) | (simp only [up2_eq]; omega)) (by first | omega | (simp [up2, *]; done) | (simp [up2, *]; omega) | (simp only [up2_eq]; omega)) (by first | omega | (simp [up2, *]; done) | (simp [up2, *]; omega) | (simp only [up2_eq]; omega)) (by first | omega | (simp [up2, *]; done) | (simp [up2, *]; omega) | (simp only [up2_eq]; omega))) pk_X1_exchangeTwo qm_X1_46 (3 + i) 5 rfl rfl (wc_p (by first | omega | (simp [up2, *]; done) | (simp [up2, *]; omega) | (simp only [up2_eq]; omega))) rfl rfl (Nat.le_of_ble_eq_true rfl) dX1_turn_17 ⟨Nat.le_of_ble_eq_true rfl, Nat.le_of_ble_eq_true rfl⟩ ⟨Nat.le_of_ble_eq_true rfl, Nat.le_of_ble_eq_true rfl⟩ ?_
          refine r_idecP C dX1_turn_20 rfl (by first | omega | (simp [up2, *]; done) | (simp [up2, *]; omega) | (simp only [up2_eq]; omega)) (by decide) rfl ?_
          refine r_iincN C dX1_turn_23 rfl (by decide) rfl ?_
          refine r_goto (tgt := 7) C dX1_turn_26 (by decide) ?_
          refine r_w (congrArg (fun z => WC cy a f z kn ++ Y) (revT_step (by omega) (by omega) (by omega))) ?_
          exact (Nat.not_lt_zero _ (by omega)).elim
    | succ d ih_L7 =>
      intro t ht ht2
      refine r_iload C dX1_turn_7 rfl ?_
      refine r_iload_n C dX1_turn_9 rfl ?_
      refine r_icN_ge (tgt := 29) C (by first | omega | (simp [up2, *]; done) | (simp [up2, *]; omega) | (simp only [up2_eq]; omega)) (by first | omega | (simp [up2, *]; done) | (simp [up2, *]; omega) | (simp only [up2_eq]; omega)) dX1_turn_10 (by decide) (fun h10_2 => ?_) (fun h10_2 => ?_)
      · first
        | exfalso; first | omega | contradiction
        | skip
          exact r_vret C hr dX1_turn_29 ⟨rfl, congrArg (fun z => WC cy a f z kn ++ Y) (revT_end (by omega) (by omega))⟩ (Nat.le_of_ble_eq_true rfl) (Nat.le_of_ble_eq_true rfl)
      · first
        | exfalso; first | omega | contradiction
        | skip
          refine r_aload_n C dX1_turn_13 rfl ?_
          refine r_iload C dX1_turn_14 rfl ?_
          refine r_iload_n C dX1_turn_16 rfl ?_
          refine d_Vv (st := []) hX.stb C hE (C_exchangeTwo (f := f) (r := (revT r (f 0 i) (f 3 i + p0) (f 3 i + q0) t)) (kn := kn) (i := i) (k1 := (p0 + t)) (k2 := (q0 - 1 - t)) hX (by first | omega | (simp [up2, *]; done) | (simp [up2, *]; omega) | (simp only [up2_eq]; omega)) (by first | omega | (simp [up2, *]; done) | (simp [up2, *]; omega) | (simp only [up2_eq]; omega)) (by first | omega | (simp [up2, *]; done) | (simp [up2, *]; omega) | (simp only [up2_eq]; omega)) (by first | omega | (simp [up2, *]; done) | (simp [up2, *]; omega) | (simp only [up2_eq]; omega))) pk_X1_exchangeTwo qm_X1_46 (3 + i) 5 rfl rfl (wc_p (by first | omega | (simp [up2, *]; done) | (simp [up2, *]; omega) | (simp only [up2_eq]; omega))) rfl rfl (Nat.le_of_ble_eq_true rfl) dX1_turn_17 ⟨Nat.le_of_ble_eq_true rfl, Nat.le_of_ble_eq_true rfl⟩ ⟨Nat.le_of_ble_eq_true rfl, Nat.le_of_ble_eq_true rfl⟩ ?_
          refine r_idecP C dX1_turn_20 rfl (by first | omega | (simp [up2, *]; done) | (simp [up2, *]; omega) | (simp only [up2_eq]; omega)) (by decide) rfl ?_
          refine r_iincN C dX1_turn_23 rfl (by decide) rfl ?_
          refine r_goto (tgt := 7) C dX1_turn_26 (by decide) ?_
          refine r_w (congrArg (fun z => WC cy a f z kn ++ Y) (revT_step (by omega) (by omega) (by omega))) ?_
          exact ih_L7 (t + 1) (by first | omega | (simp [up2, *]; done) | (simp [up2, *]; omega) | (simp only [up2_eq]; omega)) (by first | omega | (simp [up2, *]; done) | (simp [up2, *]; omega) | (simp only [up2_eq]; omega))
  exact L7 q0 0 (by omega) (Or.inl rfl)
