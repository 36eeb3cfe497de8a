theorem dX1_layHalvesTogether_32 : decode cX1_layHalvesTogether 32 = .ok (.idiv, 1) := by decide +kernel
theorem dX1_layHalvesTogether_33 : decode cX1_layHalvesTogether 33 = .ok (.goto 8, 3) := by decide +kernel
theorem dX1_layHalvesTogether_36 : decode cX1_layHalvesTogether 36 = .ok (.iload_n 2, 1) := by decide +kernel
theorem dX1_layHalvesTogether_37 : decode cX1_layHalvesTogether 37 = .ok (.iload_n 3, 1) := by decide +kernel
theorem dX1_layHalvesTogether_38 : decode cX1_layHalvesTogether 38 = .ok (.iconst 2, 1) := by decide +kernel
theorem dX1_layHalvesTogether_39 : decode cX1_layHalvesTogether 39 = .ok (.idiv, 1) := by decide +kernel
theorem dX1_layHalvesTogether_40 : decode cX1_layHalvesTogether 40 = .ok (.iadd, 1) := by decide +kernel
theorem dX1_layHalvesTogether_41 : decode cX1_layHalvesTogether 41 = .ok (.istore 4, 2) := by decide +kernel
theorem dX1_layHalvesTogether_43 : decode cX1_layHalvesTogether 43 = .ok (.aload_n 0, 1) := by decide +kernel
theorem dX1_layHalvesTogether_44 : decode cX1_layHalvesTogether 44 = .ok (.iload_n 3, 1) := by decide +kernel
theorem dX1_layHalvesTogether_45 : decode cX1_layHalvesTogether 45 = .ok (.aload_n 1, 1) := by decide +kernel
theorem dX1_layHalvesTogether_46 : decode cX1_layHalvesTogether 46 = .ok (.iload 4, 2) := by decide +kernel
theorem dX1_layHalvesTogether_48 : decode cX1_layHalvesTogether 48 = .ok (.invokevirtual 32, 3) := by decide +kernel
theorem dX1_layHalvesTogether_51 : decode cX1_layHalvesTogether 51 = .ok (.invokevirtual 42, 3) := by decide +kernel
theorem dX1_layHalvesTogether_54 : decode cX1_layHalvesTogether 54 = .ok (.iinc 3 1, 3) := by decide +kernel
theorem dX1_layHalvesTogether_57 : decode cX1_layHalvesTogether 57 = .ok (.goto (-41), 3) := by decide +kernel
theorem dX1_layHalvesTogether_60 : decode cX1_layHalvesTogether 60 = .ok (.return_, 1) := by decide +kernel
set_option maxRecDepth 100000 in
set_option maxHeartbeats 4000000 in
theorem C_layHalvesTogether {l : Launch} {D : va_G} {cy : Nat → ClassId} {X : (Nat → Prop) → State → Heap → Prop} {a f : Nat → Nat → Nat} {r : Nat → Nat → Int32} {kn : Int32} {Y : va_W} {i : Nat} {j : Nat} (hX : EnvX X) (hi : i < 11) (hj : j < 11) (h0 : f 0 i < 7) (h0j : f 0 j < 7) (h4 : f 3 i + f 4 i ≤ 12) (h3 : f 3 j + f 4 i ≤ 12) (hne : i ≠ j) (hne0 : f 0 j ≠ f 0 i) : Cd l D cy X yX1_layHalvesTogether cX1_layHalvesTogether 5 none (rmz 2 80) [.ref (a 1 i), .ref (a 1 j)] (WC cy a f r kn ++ Y) none (WC cy a (up2 f 4 j (f 4 i)) (scS (cpy2 r (f 0 i) (f 3 i) (f 0 j) (f 3 j) (f 4 i)) (f 0 i) (f 3 i) (f 4 i) (fun t => t) (fun q => r (f 0 i) (f 3 i + layN (f 4 i) q))) kn ++ Y) := by
  refine Cm.of [some (.ref (a 1 i)), some (.ref (a 1 j)), none, none, none] (by decide +kernel) rfl (Nat.le_of_ble_eq_true rfl) ?_
  intro p e s m args below meth c A C hE hr hnt hn
  refine r_aload_n C dX1_layHalvesTogether_0 rfl ?_
  refine r_aload_n C dX1_layHalvesTogether_1 rfl ?_
  refine d_Vv (st := []) hX.stb C hE (C_becomeLike (f := f) (r := r) (kn := kn) (i := j) (j := i) hX (by first | omega | (simp [up2, *]; done) | (simp [up2, *]; omega) | (simp only [up2_eq]; omega)) (by first | omega | (simp [up2, *]; done) | (simp [up2, *]; omega) | (simp only [up2_eq]; omega)) (by first | omega | (simp [up2, *]; done) | (simp [up2, *]; omega) | (simp only [up2_eq]; omega)) (by first | omega | (simp [up2, *]; done) | (simp [up2, *]; omega) | (simp only [up2_eq]; omega)) (by first | omega | (simp [up2, *]; done) | (simp [up2, *]; omega) | (simp only [up2_eq]; omega)) (by first | omega | (simp [up2, *]; done) | (simp [up2, *]; omega) | (simp only [up2_eq]; omega))) pk_X1_becomeLike qm_X1_49 (3 + j) 5 rfl rfl (wc_p (by first | omega | (simp [up2, *]; done) | (simp [up2, *]; omega) | (simp only [up2_eq]; omega))) rfl rfl (Nat.le_of_ble_eq_true rfl) dX1_layHalvesTogether_2 ⟨Nat.le_of_ble_eq_true rfl, Nat.le_of_ble_eq_true rfl⟩ ⟨Nat.le_of_ble_eq_true rfl, Nat.le_of_ble_eq_true rfl⟩ ?_
  refine r_aload_n C dX1_layHalvesTogether_5 rfl ?_
  refine p_get (v := .int (nI (f 4 i))) C 4 (by first | omega | (simp [up2, *]; done) | (simp [up2, *]; omega) | (simp only [up2_eq]; omega)) (by decide) qf_X1_29 rfl (by simp [pV, up2, *]) dX1_layHalvesTogether_6 ?_
  refine r_iconst (v := (nI 1)) C dX1_layHalvesTogether_9 (by decide) ?_
  refine r_iaddN C dX1_layHalvesTogether_10 ?_
  refine r_iconst (v := (nI 2)) C dX1_layHalvesTogether_11 (by decide) ?_
  refine r_idivN C dX1_layHalvesTogether_12 (by first | omega | (simp [up2, *]; done) | (simp [up2, *]; omega) | (simp only [up2_eq]; omega)) (by first | omega | (simp [up2, *]; done) | (simp [up2, *]; omega) | (simp only [up2_eq]; omega)) (by first | omega | (simp [up2, *]; done) | (simp [up2, *]; omega) | (simp only [up2_eq]; omega)) ?_
  refine r_istore_n C dX1_layHalvesTogether_13 (by decide) rfl ?_
  refine r_iconst (v := (nI 0)) C dX1_layHalvesTogether_14 (by decide) ?_
  refine r_istore_n C dX1_layHalvesTogether_15 (by decide) rfl ?_
  refine r_w (congrArg (fun z => WC cy a (up2 f 4 j (f 4 i)) z kn ++ Y) (scT_0 (cpy2 r (f 0 i) (f 3 i) (f 0 j) (f 3 j) (f 4 i)) (f 0 i) (f 3 i) (f 4 i) (fun t => t) (fun q => r (f 0 i) (f 3 i + layN (f 4 i) q))).symm) ?_
  have L16 : ∀ (d : Nat) (k : Nat), (hk : k + d = f 4 i) → vC p l e (rmz 2 80) s m args below meth c D A (vx_MQ below (vG (fun v1 w1 => v1 = none ∧ w1 = WC cy a (up2 f 4 j (f 4 i)) (scS (cpy2 r (f 0 i) (f 3 i) (f 0 j) (f 3 j) (f 4 i)) (f 0 i) (f 3 i) (f 4 i) (fun t => t) (fun q => r (f 0 i) (f 3 i + layN (f 4 i) q))) kn ++ Y) D vwCl A) (vGX (fun _ => False) D vwCl (WC cy a f r kn ++ Y) A) args s (rmz 2 80).cells (rmz 2 80).slots A) 5 0 0 (WC cy a (up2 f 4 j (f 4 i)) (scT (cpy2 r (f 0 i) (f 3 i) (f 0 j) (f 3 j) (f 4 i)) (f 0 i) (f 3 i) (f 4 i) (fun t => t) (fun q => r (f 0 i) (f 3 i + layN (f 4 i) q)) k) kn ++ Y) [some (.ref (a 1 i)), some (.ref (a 1 j)), some (.int (nI ((f 4 i + 1) / 2))), some (.int (nI k)), none] 16 [] := by
    intro d
    induction d with
    | zero =>
      intro k hk
      refine r_iload_n C dX1_layHalvesTogether_16 rfl ?_
      refine r_aload_n C dX1_layHalvesTogether_17 rfl ?_
      refine p_get (v := .int (nI (f 4 i))) C 4 (by first | omega | (simp [up2, *]; done) | (simp [up2, *]; omega) | (simp only [up2_eq]; omega)) (by decide) qf_X1_29 rfl (by simp [pV, up2, *]) dX1_layHalvesTogether_18 ?_
      refine r_icN_ge (tgt := 60) C (by first | omega | (simp [up2, *]; done) | (simp [up2, *]; omega) | (simp only [up2_eq]; omega)) (by first | omega | (simp [up2, *]; done) | (simp [up2, *]; omega) | (simp only [up2_eq]; omega)) dX1_layHalvesTogether_21 (by decide) (fun h21_1 => ?_) (fun h21_1 => ?_)
      · first
        | exfalso; first | omega | contradiction
        | skip
          exact r_vret C hr dX1_layHalvesTogether_60 ⟨rfl, congrArg (fun z => WC cy a (up2 f 4 j (f 4 i)) z kn ++ Y) (scT_end (by omega) (fun t ht => ht))⟩ (Nat.le_of_ble_eq_true rfl) (Nat.le_of_ble_eq_true rfl)
      · first
        | exfalso; first | omega | contradiction
        | skip
          refine r_iload_n C dX1_layHalvesTogether_24 rfl ?_
          refine r_iconst (v := (nI 2)) C dX1_layHalvesTogether_25 (by decide) ?_
          refine r_iremN C dX1_layHalvesTogether_26 (by first | omega | (simp [up2, *]; done) | (simp [up2, *]; omega) | (simp only [up2_eq]; omega)) (by first | omega | (simp [up2, *]; done) | (simp [up2, *]; omega) | (simp only [up2_eq]; omega)) (by first | omega | (simp [up2, *]; done) | (simp [up2, *]; omega) | (simp only [up2_eq]; omega)) ?_
          refine r_ifN_ne (tgt := 36) C (by first | omega | (simp [up2, *]; done) | (simp [up2, *]; omega) | (simp only [up2_eq]; omega)) dX1_layHalvesTogether_27 (by decide) (fun h27_2 => ?_) (fun h27_2 => ?_)
          · first
            | exfalso; first | omega | contradiction
            | skip
              refine r_iload_n C dX1_layHalvesTogether_36 rfl ?_
              refine r_iload_n C dX1_layHalvesTogether_37 rfl ?_
              refine r_iconst (v := (nI 2)) C dX1_layHalvesTogether_38 (by decide) ?_
              refine r_idivN C dX1_layHalvesTogether_39 (by first | omega | (simp [up2, *]; done) | (simp [up2, *]; omega) | (simp only [up2_eq]; omega)) (by first | omega | (simp [up2, *]; done) | (simp [up2, *]; omega) | (simp only [up2_eq]; omega)) (by first | omega | (simp [up2, *]; done) | (simp [up2, *]; omega) | (simp only [up2_eq]; omega)) ?_
              refine r_iaddN C dX1_layHalvesTogether_40 ?_
              refine r_istore C dX1_layHalvesTogether_41 (by decide) rfl ?_
              refine r_aload_n C dX1_layHalvesTogether_43 rfl ?_
              refine r_iload_n C dX1_layHalvesTogether_44 rfl ?_
              refine r_aload_n C dX1_layHalvesTogether_45 rfl ?_
              refine r_iload C dX1_layHalvesTogether_46 rfl ?_
              refine d_V (st := [.int (nI k), .ref (a 1 i)]) hX.stb C hE (C_itemAt (f := (up2 f 4 j (f 4 i))) (r := (scT (cpy2 r (f 0 i) (f 3 i) (f 0 j) (f 3 j) (f 4 i)) (f 0 i) (f 3 i) (f 4 i) (fun t => t) (fun q => r (f 0 i) (f 3 i + layN (f 4 i) q)) k)) (kn := kn) (i := j) (k := (((f 4 i + 1) / 2) + (k / 2))) hX (by first | omega | (simp [up2, *]; done) | (simp [up2, *]; omega) | (simp only [up2_eq]; omega)) (by first | omega | (simp [up2, *]; done) | (simp [up2, *]; omega) | (simp only [up2_eq]; omega)) (by first | omega | (simp [up2, *]; done) | (simp [up2, *]; omega) | (simp only [up2_eq]; omega))) pk_X1_itemAt qm_X1_32 (3 + j) 5 rfl rfl (wc_p (by first | omega | (simp [up2, *]; done) | (simp [up2, *]; omega) | (simp only [up2_eq]; omega))) rfl rfl (Nat.le_of_ble_eq_true rfl) dX1_layHalvesTogether_48 ⟨Nat.le_of_ble_eq_true rfl, Nat.le_of_ble_eq_true rfl⟩ ⟨Nat.le_of_ble_eq_true rfl, Nat.le_of_ble_eq_true rfl⟩ ?_
              refine d_Vv (st := []) hX.stb C hE (C_putAt (f := (up2 f 4 j (f 4 i))) (r := (scT (cpy2 r (f 0 i) (f 3 i) (f 0 j) (f 3 j) (f 4 i)) (f 0 i) (f 3 i) (f 4 i) (fun t => t) (fun q => r (f 0 i) (f 3 i + layN (f 4 i) q)) k)) (kn := kn) (i := i) (k := k) (x := (((scT (cpy2 r (f 0 i) (f 3 i) (f 0 j) (f 3 j) (f 4 i)) (f 0 i) (f 3 i) (f 4 i) (fun t => t) (fun q => r (f 0 i) (f 3 i + layN (f 4 i) q)) k) (f 0 j) (f 3 j + (((f 4 i + 1) / 2) + (k / 2)))))) hX (by first | omega | (simp [up2, *]; done) | (simp [up2, *]; omega) | (simp only [up2_eq]; omega)) (by first | omega | (simp [up2, *]; done) | (simp [up2, *]; omega) | (simp only [up2_eq]; omega)) (by first | omega | (simp [up2, *]; done) | (simp [up2, *]; omega) | (simp only [up2_eq]; omega))) pk_X1_putAt qm_X1_42 (3 + i) 5 rfl rfl (wc_p (by first | omega | (simp [up2, *]; done) | (simp [up2, *]; omega) | (simp only [up2_eq]; omega))) rfl rfl (Nat.le_of_ble_eq_true rfl) dX1_layHalvesTogether_51 ⟨Nat.le_of_ble_eq_true rfl, Nat.le_of_ble_eq_true rfl⟩ ⟨Nat.le_of_ble_eq_true rfl, Nat.le_of_ble_eq_true rfl⟩ ?_
              refine r_iincN C dX1_layHalvesTogether_54 rfl (by decide) rfl ?_
              refine r_goto (tgt := 16) C dX1_layHalvesTogether_57 (by decide) ?_
              refine r_w (congrArg (fun z => WC cy a (up2 f 4 j (f 4 i)) z kn ++ Y) (scT_step k rfl (by omega) rfl (fun t _ h => h) ((scb_val (fun h => hne0 h) (by omega)).trans (congrArg (fun z => r (f 0 i) (f 3 i + z)) (by unfold layN; first | rw [if_pos (by assumption)] | rw [if_neg (by assumption)]))))) ?_
              refine r_drop 4 ?_
              exact (Nat.not_lt_zero _ (by omega)).elim
          · first
            | exfalso; first | omega | contradiction
            | skip
              refine r_iload_n C dX1_layHalvesTogether_30 rfl ?_
              refine r_iconst (v := (nI 2)) C dX1_layHalvesTogether_31 (by decide) ?_
              refine r_idivN C dX1_layHalvesTogether_32 (by first | omega | (simp [up2, *]; done) | (simp [up2, *]; omega) | (simp only [up2_eq]; omega)) (by first | omega | (simp [up2, *]; done) | (simp [up2, *]; omega) | (simp only [up2_eq]; omega)) (by first | omega | (simp [up2, *]; done) | (simp [up2, *]; omega) | (simp only [up2_eq]; omega)) ?_
              refine r_goto (tgt := 41) C dX1_layHalvesTogether_33 (by decide) ?_
              refine r_istore C dX1_layHalvesTogether_41 (by decide) rfl ?_
              refine r_aload_n C dX1_layHalvesTogether_43 rfl ?_
              refine r_iload_n C dX1_layHalvesTogether_44 rfl ?_
              refine r_aload_n C dX1_layHalvesTogether_45 rfl ?_
              refine r_iload C dX1_layHalvesTogether_46 rfl ?_
              refine d_V (st := [.int (nI k), .ref (a 1 i)]) hX.stb C hE (C_itemAt (f := (up2 f 4 j (f 4 i))) (r := (scT (cpy2 r (f 0 i) (f 3 i) (f 0 j) (f 3 j) (f 4 i)) (f 0 i) (f 3 i) (f 4 i) (fun t => t) (fun q => r (f 0 i) (f 3 i + layN (f 4 i) q)) k)) (kn := kn) (i := j) (k := (k / 2)) hX (by first | omega | (simp [up2, *]; done) | (simp [up2, *]; omega) | (simp only [up2_eq]; omega)) (by first | omega | (simp [up2, *]; done) | (simp [up2, *]; omega) | (simp only [up2_eq]; omega)) (by first | omega | (simp [up2, *]; done) | (simp [up2, *]; omega) | (simp only [up2_eq]; omega))) pk_X1_itemAt qm_X1_32 (3 + j) 5 rfl rfl (wc_p (by first | omega | (simp [up2, *]; done) | (simp [up2, *]; omega) | (simp only [up2_eq]; omega))) rfl rfl (Nat.le_of_ble_eq_true rfl) dX1_layHalvesTogether_48 ⟨Nat.le_of_ble_eq_true rfl, Nat.le_of_ble_eq_true rfl⟩ ⟨Nat.le_of_ble_eq_true rfl, Nat.le_of_ble_eq_true rfl⟩ ?_
              refine d_Vv (st := []) hX.stb C hE (C_putAt (f := (up2 f 4 j (f 4 i))) (r := (scT (cpy2 r (f 0 i) (f 3 i) (f 0 j) (f 3 j) (f 4 i)) (f 0 i) (f 3 i) (f 4 i) (fun t => t) (fun q => r (f 0 i) (f 3 i + layN (f 4 i) q)) k)) (kn := kn) (i := i) (k := k) (x := (((scT (cpy2 r (f 0 i) (f 3 i) (f 0 j) (f 3 j) (f 4 i)) (f 0 i) (f 3 i) (f 4 i) (fun t => t) (fun q => r (f 0 i) (f 3 i + layN (f 4 i) q)) k) (f 0 j) (f 3 j + (k / 2))))) hX (by first | omega | (simp [up2, *]; done) | (simp [up2, *]; omega) | (simp only [up2_eq]; omega)) (by first | omega | (simp [up2, *]; done) | (simp [up2, *]; omega) | (simp only [up2_eq]; omega)) (by first | omega | (simp [up2, *]; done) | (simp [up2, *]; omega) | (simp only [up2_eq]; omega))) pk_X1_putAt qm_X1_42 (3 + i) 5 rfl rfl (wc_p (by first | omega | (simp [up2, *]; done) | (simp [up2, *]; omega) | (simp only [up2_eq]; omega))) rfl rfl (Nat.le_of_ble_eq_true rfl) dX1_layHalvesTogether_51 ⟨Nat.le_of_ble_eq_true rfl, Nat.le_of_ble_eq_true rfl⟩ ⟨Nat.le_of_ble_eq_true rfl, Nat.le_of_ble_eq_true rfl⟩ ?_
              refine r_iincN C dX1_layHalvesTogether_54 rfl (by decide) rfl ?_
              refine r_goto (tgt := 16) C dX1_layHalvesTogether_57 (by decide) ?_
              refine r_w (congrArg (fun z => WC cy a (up2 f 4 j (f 4 i)) z kn ++ Y) (scT_step k rfl (by omega) rfl (fun t _ h => h) ((scb_val (fun h => hne0 h) (by omega)).trans (congrArg (fun z => r (f 0 i) (f 3 i + z)) (by unfold layN; first | rw [if_pos (by assumption)] | rw [if_neg (by assumption)]))))) ?_
              refine r_drop 4 ?_
              exact (Nat.not_lt_zero _ (by omega)).elim
    | succ d ih_L16 =>
      intro k hk
      refine r_iload_n C dX1_layHalvesTogether_16 rfl ?_
      refine r_aload_n C dX1_layHalvesTogether_17 rfl ?_
      refine p_get (v := .int (nI (f 4 i))) C 4 (by first | omega | (simp [up2, *]; done) | (simp [up2, *]; omega) | (simp only [up2_eq]; omega)) (by decide) qf_X1_29 rfl (by simp [pV, up2, *]) dX1_layHalvesTogether_18 ?_
      refine r_icN_ge (tgt := 60) C (by first | omega | (simp [up2, *]; done) | (simp [up2, *]; omega) | (simp only [up2_eq]; omega)) (by first | omega | (simp [up2, *]; done) | (simp [up2, *]; omega) | (simp only [up2_eq]; omega)) dX1_layHalvesTogether_21 (by decide) (fun h21_3 => ?_) (fun h21_3 => ?_)
      · first
        | exfalso; first | omega | contradiction
        | skip
          exact r_vret C hr dX1_layHalvesTogether_60 ⟨rfl, congrArg (fun z => WC cy a (up2 f 4 j (f 4 i)) z kn ++ Y) (scT_end (by omega) (fun t ht => ht))⟩ (Nat.le_of_ble_eq_true rfl) (Nat.le_of_ble_eq_true rfl)
      · first
        | exfalso; first | omega | contradiction
        | skip
          refine r_iload_n C dX1_layHalvesTogether_24 rfl ?_
          refine r_iconst (v := (nI 2)) C dX1_layHalvesTogether_25 (by decide) ?_
          refine r_iremN C dX1_layHalvesTogether_26 (by first | omega | (simp [up2, *]; done) | (simp [up2, *]; omega) | (simp only [up2_eq]; omega)) (by first | omega | (simp [up2, *]; done) | (simp [up2, *]; omega) | (simp only [up2_eq]; omega)) (by first | omega | (simp [up2, *]; done) | (simp [up2, *]; omega) | (simp only [up2_eq]; omega)) ?_
          refine r_ifN_ne (tgt := 36) C (by first | omega | (simp [up2, *]; done) | (simp [up2, *]; omega) | (simp only [up2_eq]; omega)) dX1_layHalvesTogether_27 (by decide) (fun h27_4 => ?_) (fun h27_4 => ?_)
          · first
            | exfalso; first | omega | contradiction
            | skip
              refine r_iload_n C dX1_layHalvesTogether_36 rfl ?_
              refine r_iload_n C dX1_layHalvesTogether_37 rfl ?_
              refine r_iconst (v := (nI 2)) C dX1_layHalvesTogether_38 (by decide) ?_
              refine r_idivN C dX1_layHalvesTogether_39 (by first | omega | (simp [up2, *]; done) | (simp [up2, *]; omega) | (simp only [up2_eq]; omega)) (by first | omega | (simp [up2, *]; done) | (simp [up2, *]; omega) | (simp only [up2_eq]; omega)) (by first | omega | (simp [up2, *]; done) | (simp [up2, *]; omega) | (simp only [up2_eq]; omega)) ?_
              refine r_iaddN C dX1_layHalvesTogether_40 ?_
              refine r_istore C dX1_layHalvesTogether_41 (by decide) rfl ?_
              refine r_aload_n C dX1_layHalvesTogether_43 rfl ?_
              refine r_iload_n C dX1_layHalvesTogether_44 rfl ?_
              refine r_aload_n C dX1_layHalvesTogether_45 rfl ?_
              refine r_iload C dX1_layHalvesTogether_46 rfl ?_
              refine d_V (st := [.int (nI k), .ref (a 1 i)]) hX.stb C hE (C_itemAt (f := (up2 f 4 j (f 4 i))) (r := (scT (cpy2 r (f 0 i) (f 3 i) (f 0 j) (f 3 j) (f 4 i)) (f 0 i) (f 3 i) (f 4 i) (fun t => t) (fun q => r (f 0 i) (f 3 i + layN (f 4 i) q)) k)) (kn := kn) (i := j) (k := (((f 4 i + 1) / 2) + (k / 2))) hX (by first | omega | (simp [up2, *]; done) | (simp [up2, *]; omega) | (simp only [up2_eq]; omega)) (by first | omega | (simp [up2, *]; done) | (simp [up2, *]; omega) | (simp only [up2_eq]; omega)) (by first | omega | (simp [up2, *]; done) | (simp [up2, *]; omega) | (simp only [up2_eq]; omega))) pk_X1_itemAt qm_X1_32 (3 + j) 5 rfl rfl (wc_p (by first | omega | (simp [up2, *]; done) | (simp [up2, *]; omega) | (simp only [up2_eq]; omega))) rfl rfl (Nat.le_of_ble_eq_true rfl) dX1_layHalvesTogether_48 ⟨Nat.le_of_ble_eq_true rfl, Nat.le_of_ble_eq_true rfl⟩ ⟨Nat.le_of_ble_eq_true rfl, Nat.le_of_ble_eq_true rfl⟩ ?_
              refine d_Vv (st := []) hX.stb C hE (C_putAt (f := (up2 f 4 j (f 4 i))) (r := (scT (cpy2 r (f 0 i) (f 3 i) (f 0 j) (f 3 j) (f 4 i)) (f 0 i) (f 3 i) (f 4 i) (fun t => t) (fun q => r (f 0 i) (f 3 i + layN (f 4 i) q)) k)) (kn := kn) (i := i) (k := k) (x := (((scT (cpy2 r (f 0 i) (f 3 i) (f 0 j) (f 3 j) (f 4 i)) (f 0 i) (f 3 i) (f 4 i) (fun t => t) (fun q => r (f 0 i) (f 3 i + layN (f 4 i) q)) k) (f 0 j) (f 3 j + (((f 4 i + 1) / 2) + (k / 2)))))) hX (by first | omega | (simp [up2, *]; done) | (simp [up2, *]; omega) | (simp only [up2_eq]; omega)) (by first | omega | (simp [up2, *]; done) | (simp [up2, *]; omega) | (simp only [up2_eq]; omega)) (by first | omega | (simp [up2, *]; done) | (simp [up2, *]; omega) | (simp only [up2_eq]; omega))) pk_X1_putAt qm_X1_42 (3 + i) 5 rfl rfl (wc_p (by first | omega | (simp [up2, *]; done) | (simp [up2, *]; omega) | (simp only [up2_eq]; omega))) rfl rfl (Nat.le_of_ble_eq_true rfl) dX1_layHalvesTogether_51 ⟨Nat.le_of_ble_eq_true rfl, Nat.le_of_ble_eq_true rfl⟩ ⟨Nat.le_of_ble_eq_true rfl, Nat.le_of_ble_eq_true rfl⟩ ?_
              refine r_iincN C dX1_layHalvesTogether_54 rfl (by decide) rfl ?_
              refine r_goto (tgt := 16) C dX1_layHalvesTogether_57 (by decide) ?_
              refine r_w (congrArg (fun z => WC cy a (up2 f 4 j (f 4 i)) z kn ++ Y) (scT_step k rfl (by omega) rfl (fun t _ h => h) ((scb_val (fun h => hne0 h) (by omega)).trans (congrArg (fun z => r (f 0 i) (f 3 i + z)) (by unfold layN; first | rw [if_pos (by assumption)] | rw [if_neg (by assumption)]))))) ?_
              refine r_drop 4 ?_
              exact ih_L16 (k + 1) (by first | omega | (simp [up2, *]; done) | (simp [up2, *]; omega) | (simp only [up2_eq]; omega))
          · first
            | exfalso; first | omega | contradiction
            | skip
              refine r_iload_n C dX1_layHalvesTogether_30 rfl ?_
              refine r_iconst (v := (nI 2)) C dX1_layHalvesTogether_31 (by decide) ?_
              refine r_idivN C dX1_layHalvesTogether_32 (by first | omega | (simp [up2, *]; done) | (simp [up2, *]; omega) | (simp only [up2_eq]; omega)) (by first | omega | (simp [up2, *]; done) | (simp [up2, *]; omega) | (simp only [up2_eq]; omega)) (by first | omega | (simp [up2, *]; done) | (simp [up2, *]; omega) | (simp only [up2_eq]; omega)) ?_
              refine r_goto (tgt := 41) C dX1_layHalvesTogether_33 (by decide) ?_
              refine r_istore C dX1_layHalvesTogether_41 (by decide) rfl ?_
              refine r_aload_n C dX1_layHalvesTogether_43 rfl ?_
              refine r_iload_n C dX1_layHalvesTogether_44 rfl ?_
              refine r_aload_n C dX1_layHalvesTogether_45 rfl ?_
              refine r_iload C dX1_layHalvesTogether_46 rfl ?_
              refine d_V (st := [.int (nI k), .ref (a 1 i)]) hX.stb C hE (C_itemAt (f := (up2 f 4 j (f 4 i))) (r := (scT (cpy2 r (f 0 i) (f 3 i) (f 0 j) (f 3 j) (f 4 i)) (f 0 i) (f 3 i) (f 4 i) (fun t => t) (fun q => r (f 0 i) (f 3 i + layN (f 4 i) q)) k)) (kn := kn) (i := j) (k := (k / 2)) hX (by first | omega | (simp [up2, *]; done) | (simp [up2, *]; omega) | (simp only [up2_eq]; omega)) (by first | omega | (simp [up2, *]; done) | (simp [up2, *]; omega) | (simp only [up2_eq]; omega)) (by first | omega | (simp [up2, *]; done) | (simp [up2, *]; omega) | (simp only [up2_eq]; omega))) pk_X1_itemAt qm_X1_32 (3 + j) 5 rfl rfl (wc_p (by first | omega | (simp [up2, *]; done) | (simp [up2, *]; omega) | (simp only [up2_eq]; omega))) rfl rfl (Nat.le_of_ble_eq_true rfl) dX1_layHalvesTogether_48 ⟨Nat.le_of_ble_eq_true rfl, Nat.le_of_ble_eq_true rfl⟩ ⟨Nat.le_of_ble_eq_true rfl, Nat.le_of_ble_eq_true rfl⟩ ?_
              refine d_Vv (st := []) hX.stb C hE (C_putAt (f := (up2 f 4 j (f 4 i))) (r := (scT (cpy2 r (f 0 i) (f 3 i) (f 0 j) (f 3 j) (f 4 i)) (f 0 i) (f 3 i) (f 4 i) (fun t => t) (fun q => r (f 0 i) (f 3 i + layN (f 4 i) q)) k)) (kn := kn) (i := i) (k := k) (x := (((scT (cpy2 r (f 0 i) (f 3 i) (f 0 j) (f 3 j) (f 4 i)) (f 0 i) (f 3 i) (f 4 i) (fun t => t) (fun q => r (f 0 i) (f 3 i + layN (f 4 i) q)) k) (f 0 j) (f 3 j + (k / 2))))) hX (by first | omega | (simp [up2, *]; done) | (simp [up2, *]; omega) | (simp only [up2_eq]; omega)) (by first | omega | (simp [up2, *]; done) | (simp [up2, *]; omega) | (simp only [up2_eq]; omega)) (by first | omega | (simp [up2, *]; done) | (simp [up2, *]; omega) | (simp only [up2_eq]; omega))) pk_X1_putAt qm_X1_42 (3 + i) 5 rfl rfl (wc_p (by first | omega | (simp [up2, *]; done) | (simp [up2, *]; omega) | (simp only [up2_eq]; omega))) rfl rfl (Nat.le_of_ble_eq_true rfl) dX1_layHalvesTogether_51 ⟨Nat.le_of_ble_eq_true rfl, Nat.le_of_ble_eq_true rfl⟩ ⟨Nat.le_of_ble_eq_true rfl, Nat.le_of_ble_eq_true rfl⟩ ?_
              refine r_iincN C dX1_layHalvesTogether_54 rfl (by decide) rfl ?_
              refine r_goto (tgt := 16) C dX1_layHalvesTogether_57 (by decide) ?_
              refine r_w (congrArg (fun z => WC cy a (up2 f 4 j (f 4 i)) z kn ++ Y) (scT_step k rfl (by omega) rfl (fun t _ h => h) ((scb_val (fun h => hne0 h) (by omega)).trans (congrArg (fun z => r (f 0 i) (f 3 i + z)) (by unfold layN; first | rw [if_pos (by assumption)] | rw [if_neg (by assumption)]))))) ?_
              refine r_drop 4 ?_
              exact ih_L16 (k + 1) (by first | omega | (simp [up2, *]; done) | (simp [up2, *]; omega) | (simp only [up2_eq]; omega))
  exact L16 (f 4 i) 0 (by first | omega | (simp [up2, *]; done) | (simp [up2, *]; omega) | (simp only [up2_eq]; omega))
