set_option maxRecDepth 100000 in
set_option maxHeartbeats 4000000 in
theorem C_turn0 {l : Launch} {D : va_G} {cy : Nat → ClassId} {X : (Nat → Prop) → State → Heap → Prop} {a f : Nat → Nat → Nat} {r : Nat → Nat → Int32} {kn : Int32} {Y : va_W} {i : Nat} (hX : EnvX X) (hi : i < 11) : Cd l D cy X yX1_turn cX1_turn 5 none (rmz 2 60) [.ref (a 1 i), .int (nI 0), .int (nI 0)] (WC cy a f r kn ++ Y) none (WC cy a f r kn ++ Y) := by
  refine Cm.of [some (.ref (a 1 i)), some (.int (nI 0)), some (.int (nI 0)), none, none] (by decide +kernel) rfl (Nat.le_of_ble_eq_true rfl) ?_
  intro p e s m args below meth c A C hE hr hnt hn
  refine r_iload_n C dX1_turn_0 rfl ?_
  refine r_iconst (v := (nI 1)) C dX1_turn_1 (by decide) ?_
  refine r_isub C dX1_turn_2 ?_
  refine r_istore_n C dX1_turn_3 (by decide) rfl ?_
  refine r_iload_n C dX1_turn_4 rfl ?_
  refine r_istore C dX1_turn_5 (by decide) rfl ?_
  refine r_iload C dX1_turn_7 rfl ?_
  refine r_iload_n C dX1_turn_9 rfl ?_
  refine r_ic_ge (tgt := 29) C dX1_turn_10 (by decide) (fun h10_1 => ?_) (fun h10_1 => ?_)
  · skip
    exact r_vret C hr dX1_turn_29 ⟨rfl, rfl⟩ (Nat.le_of_ble_eq_true rfl) (Nat.le_of_ble_eq_true rfl)
  · exact absurd (by decide) h10_1
theorem dX1_moveUp_0 : decode cX1_moveUp 0 = .ok (.aload_n 0, 1) := by decide +kernel
theorem dX1_moveUp_1 : decode cX1_moveUp 1 = .ok (.getfield 29, 3) := by decide +kernel
theorem dX1_moveUp_4 : decode cX1_moveUp 4 = .ok (.ifCond .ne 4, 3) := by decide +kernel
theorem dX1_moveUp_7 : decode cX1_moveUp 7 = .ok (.return_, 1) := by decide +kernel
set_option maxRecDepth 100000 in
set_option maxHeartbeats 4000000 in
theorem C_moveUp0 {l : Launch} {D : va_G} {cy : Nat → ClassId} {X : (Nat → Prop) → State → Heap → Prop} {a f : Nat → Nat → Nat} {r : Nat → Nat → Int32} {kn : Int32} {Y : va_W} {i : Nat} {j : Nat} {x : Int32} (hX : EnvX X) (hi : i < 11) (hz : f 4 i = 0) : Cd l D cy X yX1_moveUp cX1_moveUp 4 none (rmz 2 80) [.ref (a 1 i), .int x, .ref (a 1 j)] (WC cy a f r kn ++ Y) none (WC cy a f r kn ++ Y) := by
  refine Cm.of [some (.ref (a 1 i)), some (.int x), some (.ref (a 1 j)), none] (by decide +kernel) rfl (Nat.le_of_ble_eq_true rfl) ?_
  intro p e s m args below meth c A C hE hr hnt hn
  refine r_aload_n C dX1_moveUp_0 rfl ?_
  refine p_get (v := .int (nI (f 4 i))) C 4 (by first | omega | (simp [up2, *]; done) | (simp [up2, *]; omega) | (simp only [up2_eq]; omega)) (by decide) qf_X1_29 rfl rfl dX1_moveUp_1 ?_
  refine r_ifN_ne (tgt := 8) C (by first | omega | (simp [up2, *]; done) | (simp [up2, *]; omega) | (simp only [up2_eq]; omega)) dX1_moveUp_4 (by decide) (fun h4_1 => ?_) (fun h4_1 => ?_)
  · exact absurd h4_1 (by first | omega | (simp [up2, *]; done) | (simp [up2, *]; omega) | (simp only [up2_eq]; omega))
  · skip
    exact r_vret C hr dX1_moveUp_7 ⟨rfl, rfl⟩ (Nat.le_of_ble_eq_true rfl) (Nat.le_of_ble_eq_true rfl)
theorem pk_X1_becomeLike : PkV RX1 yX1_becomeLike cX1_becomeLike 2 none 1 := ⟨⟨qi_X1_becomeLike, qs_X1_becomeLike, qz_X1, qc_X1_becomeLike⟩, by decide +kernel⟩
theorem dX1_moveUp_8 : decode cX1_moveUp 8 = .ok (.aload_n 2, 1) := by decide +kernel
theorem dX1_moveUp_9 : decode cX1_moveUp 9 = .ok (.aload_n 0, 1) := by decide +kernel
theorem dX1_moveUp_10 : decode cX1_moveUp 10 = .ok (.invokevirtual 49, 3) := by decide +kernel
theorem dX1_moveUp_13 : decode cX1_moveUp 13 = .ok (.iconst 0, 1) := by decide +kernel
theorem dX1_moveUp_14 : decode cX1_moveUp 14 = .ok (.istore_n 3, 1) := by decide +kernel
theorem dX1_moveUp_15 : decode cX1_moveUp 15 = .ok (.iload_n 3, 1) := by decide +kernel
theorem dX1_moveUp_16 : decode cX1_moveUp 16 = .ok (.aload_n 0, 1) := by decide +kernel
theorem dX1_moveUp_17 : decode cX1_moveUp 17 = .ok (.getfield 29, 3) := by decide +kernel
theorem dX1_moveUp_20 : decode cX1_moveUp 20 = .ok (.if_icmp .ge 28, 3) := by decide +kernel
theorem dX1_moveUp_23 : decode cX1_moveUp 23 = .ok (.aload_n 0, 1) := by decide +kernel
theorem dX1_moveUp_24 : decode cX1_moveUp 24 = .ok (.iload_n 3, 1) := by decide +kernel
theorem dX1_moveUp_25 : decode cX1_moveUp 25 = .ok (.iload_n 1, 1) := by decide +kernel
theorem dX1_moveUp_26 : decode cX1_moveUp 26 = .ok (.iadd, 1) := by decide +kernel
theorem dX1_moveUp_27 : decode cX1_moveUp 27 = .ok (.aload_n 0, 1) := by decide +kernel
theorem dX1_moveUp_28 : decode cX1_moveUp 28 = .ok (.getfield 29, 3) := by decide +kernel
theorem dX1_moveUp_31 : decode cX1_moveUp 31 = .ok (.invokestatic 53, 3) := by decide +kernel
theorem dX1_moveUp_34 : decode cX1_moveUp 34 = .ok (.aload_n 2, 1) := by decide +kernel
theorem dX1_moveUp_35 : decode cX1_moveUp 35 = .ok (.iload_n 3, 1) := by decide +kernel
theorem dX1_moveUp_36 : decode cX1_moveUp 36 = .ok (.invokevirtual 32, 3) := by decide +kernel
theorem dX1_moveUp_39 : decode cX1_moveUp 39 = .ok (.invokevirtual 42, 3) := by decide +kernel
theorem dX1_moveUp_42 : decode cX1_moveUp 42 = .ok (.iinc 3 1, 3) := by decide +kernel
theorem dX1_moveUp_45 : decode cX1_moveUp 45 = .ok (.goto (-30), 3) := by decide +kernel
theorem dX1_moveUp_48 : decode cX1_moveUp 48 = .ok (.return_, 1) := by decide +kernel
set_option maxRecDepth 100000 in
set_option maxHeartbeats 4000000 in
theorem C_moveUp {l : Launch} {D : va_G} {cy : Nat → ClassId} {X : (Nat → Prop) → State → Heap → Prop} {a f : Nat → Nat → Nat} {r : Nat → Nat → Int32} {kn : Int32} {Y : va_W} {i : Nat} {j : Nat} {x : Int32} (hX : EnvX X) (hi : i < 11) (hj : j < 11) (h0 : f 0 i < 7) (h0j : f 0 j < 7) (h4 : f 3 i + f 4 i ≤ 12) (h3 : f 3 j + f 4 i ≤ 12) (hne : i ≠ j) (hne0 : f 0 j ≠ f 0 i) (hpos : 0 < f 4 i) (hb1 : -1000 ≤ x.toInt) (hb2 : x.toInt ≤ 1000) : Cd l D cy X yX1_moveUp cX1_moveUp 4 none (rmz 2 80) [.ref (a 1 i), .int x, .ref (a 1 j)] (WC cy a f r kn ++ Y) none (WC cy a (up2 f 4 j (f 4 i)) (scS (cpy2 r (f 0 i) (f 3 i) (f 0 j) (f 3 j) (f 4 i)) (f 0 i) (f 3 i) (f 4 i) (rotN (f 4 i) (shN x (f 4 i))) (fun q => r (f 0 i) (f 3 i + q))) kn ++ Y) := by
  have hsh := shN_lt x hpos
  refine Cm.of [some (.ref (a 1 i)), some (.int x), some (.ref (a 1 j)), none] (by decide +kernel) rfl (Nat.le_of_ble_eq_true rfl) ?_
  intro p e s m args below meth c A C hE hr hnt hn
  refine r_aload_n C dX1_moveUp_0 rfl ?_
  refine p_get (v := .int (nI (f 4 i))) C 4 (by first | omega | (simp [up2, *]; done) | (simp [up2, *]; omega) | (simp only [up2_eq]; omega)) (by decide) qf_X1_29 rfl rfl dX1_moveUp_1 ?_
  refine r_ifN_ne (tgt := 8) C (by first | omega | (simp [up2, *]; done) | (simp [up2, *]; omega) | (simp only [up2_eq]; omega)) dX1_moveUp_4 (by decide) (fun h4_1 => ?_) (fun h4_1 => ?_)
  · skip
    refine r_aload_n C dX1_moveUp_8 rfl ?_
    refine r_aload_n C dX1_moveUp_9 rfl ?_
    refine d_Vv (st := []) hX.stb C hE (C_becomeLike (f := f) (r := r) (kn := kn) (i := j) (j := i) hX (by first | omega | (simp [up2, *]; done) | (simp [up2, *]; omega) | (simp only [up2_eq]; omega)) (by first | omega | (simp [up2, *]; done) | (simp [up2, *]; omega) | (simp only [up2_eq]; omega)) (by first | omega | (simp [up2, *]; done) | (simp [up2, *]; omega) | (simp only [up2_eq]; omega)) (by first | omega | (simp [up2, *]; done) | (simp [up2, *]; omega) | (simp only [up2_eq]; omega)) (by first | omega | (simp [up2, *]; done) | (simp [up2, *]; omega) | (simp only [up2_eq]; omega)) (by first | omega | (simp [up2, *]; done) | (simp [up2, *]; omega) | (simp only [up2_eq]; omega))) pk_X1_becomeLike qm_X1_49 (3 + j) 5 rfl rfl (wc_p (by first | omega | (simp [up2, *]; done) | (simp [up2, *]; omega) | (simp only [up2_eq]; omega))) rfl rfl (Nat.le_of_ble_eq_true rfl) dX1_moveUp_10 ⟨Nat.le_of_ble_eq_true rfl, Nat.le_of_ble_eq_true rfl⟩ ⟨Nat.le_of_ble_eq_true rfl, Nat.le_of_ble_eq_true rfl⟩ ?_
    refine r_iconst (v := (nI 0)) C dX1_moveUp_13 (by decide) ?_
    refine r_istore_n C dX1_moveUp_14 (by decide) rfl ?_
    refine r_w (congrArg (fun z => WC cy a (up2 f 4 j (f 4 i)) z kn ++ Y) (scT_0 (cpy2 r (f 0 i) (f 3 i) (f 0 j) (f 3 j) (f 4 i)) (f 0 i) (f 3 i) (f 4 i) (rotN (f 4 i) (shN x (f 4 i))) (fun q => r (f 0 i) (f 3 i + q))).symm) ?_
    have L15 : ∀ (d : Nat) (k : Nat), (hk : k + d = f 4 i) → vC p l e (rmz 2 80) s m args below meth c D A (vx_MQ below (vG (fun v1 w1 => v1 = none ∧ w1 = WC cy a (up2 f 4 j (f 4 i)) (scS (cpy2 r (f 0 i) (f 3 i) (f 0 j) (f 3 j) (f 4 i)) (f 0 i) (f 3 i) (f 4 i) (rotN (f 4 i) (shN x (f 4 i))) (fun q => r (f 0 i) (f 3 i + q))) kn ++ Y) D vwCl A) (vGX (fun _ => False) D vwCl (WC cy a f r kn ++ Y) A) args s (rmz 2 80).cells (rmz 2 80).slots A) 4 0 0 (WC cy a (up2 f 4 j (f 4 i)) (scT (cpy2 r (f 0 i) (f 3 i) (f 0 j) (f 3 j) (f 4 i)) (f 0 i) (f 3 i) (f 4 i) (rotN (f 4 i) (shN x (f 4 i))) (fun q => r (f 0 i) (f 3 i + q)) k) kn ++ Y) [some (.ref (a 1 i)), some (.int x), some (.ref (a 1 j)), some (.int (nI k))] 15 [] := by
      intro d
      induction d with
      | zero =>
        intro k hk
        refine r_iload_n C dX1_moveUp_15 rfl ?_
        refine r_aload_n C dX1_moveUp_16 rfl ?_
        refine p_get (v := .int (nI (f 4 i))) C 4 (by first | omega | (simp [up2, *]; done) | (simp [up2, *]; omega) | (simp only [up2_eq]; omega)) (by decide) qf_X1_29 rfl (by simp [pV, up2, *]) dX1_moveUp_17 ?_
        refine r_icN_ge (tgt := 48) C (by first | omega | (simp [up2, *]; done) | (simp [up2, *]; omega) | (simp only [up2_eq]; omega)) (by first | omega | (simp [up2, *]; done) | (simp [up2, *]; omega) | (simp only [up2_eq]; omega)) dX1_moveUp_20 (by decide) (fun h20_2 => ?_) (fun h20_2 => ?_)
        · first
          | exfalso; first | omega | contradiction
          | skip
            exact r_vret C hr dX1_moveUp_48 ⟨rfl, congrArg (fun z => WC cy a (up2 f 4 j (f 4 i)) z kn ++ Y) (scT_end (by omega) (fun t _ => rotN_lt hpos))⟩ (Nat.le_of_ble_eq_true rfl) (Nat.le_of_ble_eq_true rfl)
        · first
          | exfalso; first | omega | contradiction
          | skip
            refine r_aload_n C dX1_moveUp_23 rfl ?_
            refine r_iload_n C dX1_moveUp_24 rfl ?_
            refine r_iload_n C dX1_moveUp_25 rfl ?_
            refine r_iadd C dX1_moveUp_26 ?_
            refine r_aload_n C dX1_moveUp_27 rfl ?_
            refine p_get (v := .int (nI (f 4 i))) C 4 (by first | omega | (simp [up2, *]; done) | (simp [up2, *]; omega) | (simp only [up2_eq]; omega)) (by decide) qf_X1_29 rfl (by simp [pV, up2, *]) dX1_moveUp_28 ?_
            refine d_S (st := [.ref (a 1 i)]) hX.stb C hE (C_floorMod (w := (WC cy a (up2 f 4 j (f 4 i)) (scT (cpy2 r (f 0 i) (f 3 i) (f 0 j) (f 3 j) (f 4 i)) (f 0 i) (f 3 i) (f 4 i) (rotN (f 4 i) (shN x (f 4 i))) (fun q => r (f 0 i) (f 3 i + q)) k) kn ++ Y)) (x := (((nI k) + x))) (n := (f 4 i)) (by first | omega | (simp [up2, *]; done) | (simp [up2, *]; omega) | (simp only [up2_eq]; omega)) (by first | omega | (simp [up2, *]; done) | (simp [up2, *]; omega) | (simp only [up2_eq]; omega))) pk_J9_floorMod_7cf53 qm_X1_53 rfl rfl (Nat.le_of_ble_eq_true rfl) dX1_moveUp_31 ⟨Nat.le_of_ble_eq_true rfl, Nat.le_of_ble_eq_true rfl⟩ ⟨Nat.le_of_ble_eq_true rfl, Nat.le_of_ble_eq_true rfl⟩ ?_
            refine r_aload_n C dX1_moveUp_34 rfl ?_
            refine r_iload_n C dX1_moveUp_35 rfl ?_
            refine d_V (st := [.int (nI (shN (((nI k) + x)) (f 4 i))), .ref (a 1 i)]) hX.stb C hE (C_itemAt (f := (up2 f 4 j (f 4 i))) (r := (scT (cpy2 r (f 0 i) (f 3 i) (f 0 j) (f 3 j) (f 4 i)) (f 0 i) (f 3 i) (f 4 i) (rotN (f 4 i) (shN x (f 4 i))) (fun q => r (f 0 i) (f 3 i + q)) k)) (kn := kn) (i := j) (k := k) hX (by first | omega | (simp [up2, *]; done) | (simp [up2, *]; omega) | (simp only [up2_eq]; omega)) (by first | omega | (simp [up2, *]; done) | (simp [up2, *]; omega) | (simp only [up2_eq]; omega)) (by first | omega | (simp [up2, *]; done) | (simp [up2, *]; omega) | (simp only [up2_eq]; omega))) pk_X1_itemAt qm_X1_32 (3 + j) 5 rfl rfl (wc_p (by first | omega | (simp [up2, *]; done) | (simp [up2, *]; omega) | (simp only [up2_eq]; omega))) rfl rfl (Nat.le_of_ble_eq_true rfl) dX1_moveUp_36 ⟨Nat.le_of_ble_eq_true rfl, Nat.le_of_ble_eq_true rfl⟩ ⟨Nat.le_of_ble_eq_true rfl, Nat.le_of_ble_eq_true rfl⟩ ?_
            refine d_Vv (st := []) hX.stb C hE (C_putAt (f := (up2 f 4 j (f 4 i))) (r := (scT (cpy2 r (f 0 i) (f 3 i) (f 0 j) (f 3 j) (f 4 i)) (f 0 i) (f 3 i) (f 4 i) (rotN (f 4 i) (shN x (f 4 i))) (fun q => r (f 0 i) (f 3 i + q)) k)) (kn := kn) (i := i) (k := (shN (((nI k) + x)) (f 4 i))) (x := (((scT (cpy2 r (f 0 i) (f 3 i) (f 0 j) (f 3 j) (f 4 i)) (f 0 i) (f 3 i) (f 4 i) (rotN (f 4 i) (shN x (f 4 i))) (fun q => r (f 0 i) (f 3 i + q)) k) (f 0 j) (f 3 j + k)))) hX (by first | omega | (simp [up2, *]; done) | (simp [up2, *]; omega) | (simp only [up2_eq]; omega)) (by first | omega | (simp [up2, *]; done) | (simp [up2, *]; omega) | (simp only [up2_eq]; omega)) (show f 3 i + shN (nI k + x) (f 4 i) < 12 from by have := shN_lt (nI k + x) (n := f 4 i) (by omega); omega)) pk_X1_putAt qm_X1_42 (3 + i) 5 rfl rfl (wc_p (by first | omega | (simp [up2, *]; done) | (simp [up2, *]; omega) | (simp only [up2_eq]; omega))) rfl rfl (Nat.le_of_ble_eq_true rfl) dX1_moveUp_39 ⟨Nat.le_of_ble_eq_true rfl, Nat.le_of_ble_eq_true rfl⟩ ⟨Nat.le_of_ble_eq_true rfl, Nat.le_of_ble_eq_true rfl⟩ ?_
            refine r_iincN C dX1_moveUp_42 rfl (by decide) rfl ?_
            refine r_goto (tgt := 15) C dX1_moveUp_45 (by decide) ?_
            refine r_w (congrArg (fun z => WC cy a (up2 f 4 j (f 4 i)) z kn ++ Y) (scT_step ((k + shN x (f 4 i)) % f 4 i) (congrArg (f 3 i + ·) (shN_add (by omega) hpos hb1 hb2)) (Nat.mod_lt _ hpos) (rot_to hsh (by omega)) (fun t ht h => rot_inj hsh ht h) (scb_val (fun h => hne0 h) (by omega)))) ?_
            exact (Nat.not_lt_zero _ (by omega)).elim
      | succ d ih_L15 =>
        intro k hk
        refine r_iload_n C dX1_moveUp_15 rfl ?_
        refine r_aload_n C dX1_moveUp_16 rfl ?_
        refine p_get (v := .int (nI (f 4 i))) C 4 (by first | omega | (simp [up2, *]; done) | (simp [up2, *]; omega) | (simp only [up2_eq]; omega)) (by decide) qf_X1_29 rfl (by simp [pV, up2, *]) dX1_moveUp_17 ?_
        refine r_icN_ge (tgt := 48) C (by first | omega | (simp [up2, *]; done) | (simp [up2, *]; omega) | (simp only [up2_eq]; omega)) (by first | omega | (simp [up2, *]; done) | (simp [up2, *]; omega) | (simp only [up2_eq]; omega)) dX1_moveUp_20 (by decide) (fun h20_3 => ?_) (fun h20_3 => ?_)
        · first
          | exfalso; first | omega | contradiction
          | skip
            exact r_vret C hr dX1_moveUp_48 ⟨rfl, congrArg (fun z => WC cy a (up2 f 4 j (f 4 i)) z kn ++ Y) (scT_end (by omega) (fun t _ => rotN_lt hpos))⟩ (Nat.le_of_ble_eq_true rfl) (Nat.le_of_ble_eq_true rfl)
        · first
          | exfalso; first | omega | contradiction
          | skip
            refine r_aload_n C dX1_moveUp_23 rfl ?_
            refine r_iload_n C dX1_moveUp_24 rfl ?_
            refine r_iload_n C dX1_moveUp_25 rfl ?_
            refine r_iadd C dX1_moveUp_26 ?_
            refine r_aload_n C dX1_moveUp_27 rfl ?_
            refine p_get (v := .int (nI (f 4 i))) C 4 (by first | omega | (simp [up2, *]; done) | (simp [up2, *]; omega) | (simp only [up2_eq]; omega)) (by decide) qf_X1_29 rfl (by simp [pV, up2, *]) dX1_moveUp_28 ?_
            refine d_S (st := [.ref (a 1 i)]) hX.stb C hE (C_floorMod (w := (WC cy a (up2 f 4 j (f 4 i)) (scT (cpy2 r (f 0 i) (f 3 i) (f 0 j) (f 3 j) (f 4 i)) (f 0 i) (f 3 i) (f 4 i) (rotN (f 4 i) (shN x (f 4 i))) (fun q => r (f 0 i) (f 3 i + q)) k) kn ++ Y)) (x := (((nI k) + x))) (n := (f 4 i)) (by first | omega | (simp [up2, *]; done) | (simp [up2, *]; omega) | (simp only [up2_eq]; omega)) (by first | omega | (simp [up2, *]; done) | (simp [up2, *]; omega) | (simp only [up2_eq]; omega))) pk_J9_floorMod_7cf53 qm_X1_53 rfl rfl (Nat.le_of_ble_eq_true rfl) dX1_moveUp_31 ⟨Nat.le_of_ble_eq_true rfl, Nat.le_of_ble_eq_true rfl⟩ ⟨Nat.le_of_ble_eq_true rfl, Nat.le_of_ble_eq_true rfl⟩ ?_
            refine r_aload_n C dX1_moveUp_34 rfl ?_
            refine r_iload_n C dX1_moveUp_35 rfl ?_
            refine d_V (st := [.int (nI (shN (((nI k) + x)) (f 4 i))), .ref (a 1 i)]) hX.stb C hE (C_itemAt (f := (up2 f 4 j (f 4 i))) (r := (scT (cpy2 r (f 0 i) (f 3 i) (f 0 j) (f 3 j) (f 4 i)) (f 0 i) (f 3 i) (f 4 i) (rotN (f 4 i) (shN x (f 4 i))) (fun q => r (f 0 i) (f 3 i + q)) k)) (kn := kn) (i := j) (k := k) hX (by first | omega | (simp [up2, *]; done) | (simp [up2, *]; omega) | (simp only [up2_eq]; omega)) (by first | omega | (simp [up2, *]; done) | (simp [up2, *]; omega) | (simp only [up2_eq]; omega)) (by first | omega | (simp [up2, *]; done) | (simp [up2, *]; omega) | (simp only [up2_eq]; omega))) pk_X1_itemAt qm_X1_32 (3 + j) 5 rfl rfl (wc_p (by first | omega | (simp [up2, *]; done) | (simp [up2, *]; omega) | (simp only [up2_eq]; omega))) rfl rfl (Nat.le_of_ble_eq_true rfl) dX1_moveUp_36 ⟨Nat.le_of_ble_eq_true rfl, Nat.le_of_ble_eq_true rfl⟩ ⟨Nat.le_of_ble_eq_true rfl, Nat.le_of_ble_eq_true rfl⟩ ?_
            refine d_Vv (st := []) hX.stb C hE (C_putAt (f := (up2 f 4 j (f 4 i))) (r := (scT (cpy2 r (f 0 i) (f 3 i) (f 0 j) (f 3 j) (f 4 i)) (f 0 i) (f 3 i) (f 4 i) (rotN (f 4 i) (shN x (f 4 i))) (fun q => r (f 0 i) (f 3 i + q)) k)) (kn := kn) (i := i) (k := (shN (((nI k) + x)) (f 4 i))) (x := (((scT (cpy2 r (f 0 i) (f 3 i) (f 0 j) (f 3 j) (f 4 i)) (f 0 i) (f 3 i) (f 4 i) (rotN (f 4 i) (shN x (f 4 i))) (fun q => r (f 0 i) (f 3 i + q)) k) (f 0 j) (f 3 j + k)))) hX (by first | omega | (simp [up2, *]; done) | (simp [up2, *]; omega) | (simp only [up2_eq]; omega)) (by first | omega | (simp [up2, *]; done) | (simp [up2, *]; omega) | (simp only [up2_eq]; omega)) (show f 3 i + shN (nI k + x) (f 4 i) < 12 from by have := shN_lt (nI k + x) (n := f 4 i) (by omega); omega)) pk_X1_putAt qm_X1_42 (3 + i) 5 rfl rfl (wc_p (by first | omega | (simp [up2, *]; done) | (simp [up2, *]; omega) | (simp only [up2_eq]; omega))) rfl rfl (Nat.le_of_ble_eq_true rfl) dX1_moveUp_39 ⟨Nat.le_of_ble_eq_true rfl, Nat.le_of_ble_eq_true rfl⟩ ⟨Nat.le_of_ble_eq_true rfl, Nat.le_of_ble_eq_true rfl⟩ ?_
            refine r_iincN C dX1_moveUp_42 rfl (by decide) rfl ?_
            refine r_goto (tgt := 15) C dX1_moveUp_45 (by decide) ?_
            refine r_w (congrArg (fun z => WC cy a (up2 f 4 j (f 4 i)) z kn ++ Y) (scT_step ((k + shN x (f 4 i)) % f 4 i) (congrArg (f 3 i + ·) (shN_add (by omega) hpos hb1 hb2)) (Nat.mod_lt _ hpos) (rot_to hsh (by omega)) (fun t ht h => rot_inj hsh ht h) (scb_val (fun h => hne0 h) (by omega)))) ?_
            exact ih_L15 (k + 1) (by first | omega | (simp [up2, *]; done) | (simp [up2, *]; omega) | (simp only [up2_eq]; omega))
    exact L15 (f 4 i) 0 (by first | omega | (simp [up2, *]; done) | (simp [up2, *]; omega) | (simp only [up2_eq]; omega))
  · exact absurd h4_1 (by first | omega | (simp [up2, *]; done) | (simp [up2, *]; omega) | (simp only [up2_eq]; omega))
