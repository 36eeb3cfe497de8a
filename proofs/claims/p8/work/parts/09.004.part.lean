theorem dX1_firstPlaceOf_0 : decode cX1_firstPlaceOf 0 = .ok (.iconst 0, 1) := by decide +kernel
theorem dX1_firstPlaceOf_1 : decode cX1_firstPlaceOf 1 = .ok (.istore_n 2, 1) := by decide +kernel
theorem dX1_firstPlaceOf_2 : decode cX1_firstPlaceOf 2 = .ok (.iload_n 2, 1) := by decide +kernel
theorem dX1_firstPlaceOf_3 : decode cX1_firstPlaceOf 3 = .ok (.aload_n 0, 1) := by decide +kernel
theorem dX1_firstPlaceOf_4 : decode cX1_firstPlaceOf 4 = .ok (.getfield 29, 3) := by decide +kernel
theorem dX1_firstPlaceOf_7 : decode cX1_firstPlaceOf 7 = .ok (.if_icmp .ge 20, 3) := by decide +kernel
theorem dX1_firstPlaceOf_10 : decode cX1_firstPlaceOf 10 = .ok (.aload_n 0, 1) := by decide +kernel
theorem dX1_firstPlaceOf_11 : decode cX1_firstPlaceOf 11 = .ok (.iload_n 2, 1) := by decide +kernel
theorem dX1_firstPlaceOf_12 : decode cX1_firstPlaceOf 12 = .ok (.invokevirtual 32, 3) := by decide +kernel
theorem dX1_firstPlaceOf_15 : decode cX1_firstPlaceOf 15 = .ok (.iload_n 1, 1) := by decide +kernel
theorem dX1_firstPlaceOf_16 : decode cX1_firstPlaceOf 16 = .ok (.if_icmp .ne 5, 3) := by decide +kernel
theorem dX1_firstPlaceOf_19 : decode cX1_firstPlaceOf 19 = .ok (.iload_n 2, 1) := by decide +kernel
theorem dX1_firstPlaceOf_20 : decode cX1_firstPlaceOf 20 = .ok (.ireturn, 1) := by decide +kernel
theorem dX1_firstPlaceOf_21 : decode cX1_firstPlaceOf 21 = .ok (.iinc 2 1, 3) := by decide +kernel
theorem dX1_firstPlaceOf_24 : decode cX1_firstPlaceOf 24 = .ok (.goto (-22), 3) := by decide +kernel
theorem dX1_firstPlaceOf_27 : decode cX1_firstPlaceOf 27 = .ok (.iconst (-1), 1) := by decide +kernel
theorem dX1_firstPlaceOf_28 : decode cX1_firstPlaceOf 28 = .ok (.ireturn, 1) := by decide +kernel
set_option maxRecDepth 100000 in
set_option maxHeartbeats 4000000 in
theorem C_firstPlaceOf {l : Launch} {D : va_G} {cy : Nat → ClassId} {X : (Nat → Prop) → State → Heap → Prop} {a f : Nat → Nat → Nat} {r : Nat → Nat → Int32} {kn : Int32} {Y : va_W} {i : Nat} {x : Int32} (hX : EnvX X) (hi : i < 11) (h0 : f 0 i < 7) (h4 : f 3 i + f 4 i ≤ 12) : Cd l D cy X yX1_firstPlaceOf cX1_firstPlaceOf 3 (some .int) (rmz 1 30) [.ref (a 1 i), .int x] (WC cy a f r kn ++ Y) (some (.int (nI (fpF (fun q => r (f 0 i) (f 3 i + q)) x (f 4 i) 0)))) (WC cy a f r kn ++ Y) := by
  refine Cm.of [some (.ref (a 1 i)), some (.int x), none] (by decide +kernel) rfl (Nat.le_of_ble_eq_true rfl) ?_
  intro p e s m args below meth c A C hE hr hnt hn
  refine r_iconst (v := (nI 0)) C dX1_firstPlaceOf_0 (by decide) ?_
  refine r_istore_n C dX1_firstPlaceOf_1 (by decide) rfl ?_
  have L2 : ∀ (d : Nat) (k : Nat), (hk : k + d = f 4 i) → (hF : fpF (fun q => r (f 0 i) (f 3 i + q)) x d k = fpF (fun q => r (f 0 i) (f 3 i + q)) x (f 4 i) 0) → vC p l e (rmz 1 30) s m args below meth c D A (vx_MQ below (vG (fun v1 w1 => v1 = (some (.int (nI (fpF (fun q => r (f 0 i) (f 3 i + q)) x (f 4 i) 0)))) ∧ w1 = WC cy a f r kn ++ Y) D vwCl A) (vGX (fun _ => False) D vwCl (WC cy a f r kn ++ Y) A) args s (rmz 1 30).cells (rmz 1 30).slots A) 3 0 0 (WC cy a f r kn ++ Y) [some (.ref (a 1 i)), some (.int x), some (.int (nI k))] 2 [] := by
    intro d
    induction d with
    | zero =>
      intro k hk hF
      refine r_iload_n C dX1_firstPlaceOf_2 rfl ?_
      refine r_aload_n C dX1_firstPlaceOf_3 rfl ?_
      refine p_get (v := .int (nI (f 4 i))) C 4 (by first | omega | (simp [up2, *]; done) | (simp [up2, *]; omega) | (simp only [up2_eq]; omega)) (by decide) qf_X1_29 rfl rfl dX1_firstPlaceOf_4 ?_
      refine r_icN_ge (tgt := 27) C (by first | omega | (simp [up2, *]; done) | (simp [up2, *]; omega) | (simp only [up2_eq]; omega)) (by first | omega | (simp [up2, *]; done) | (simp [up2, *]; omega) | (simp only [up2_eq]; omega)) dX1_firstPlaceOf_7 (by decide) (fun h7_1 => ?_) (fun h7_1 => ?_)
      · first
        | exfalso; first | omega | contradiction
        | skip
          refine r_iconst (v := (nI 4294967295)) C dX1_firstPlaceOf_27 (by decide) ?_
          exact r_iret C hr dX1_firstPlaceOf_28 ⟨by rw [← hF]; simp [fpF, *], rfl⟩ (Nat.le_of_ble_eq_true rfl) (Nat.le_of_ble_eq_true rfl)
      · first
        | exfalso; first | omega | contradiction
        | skip
          refine r_aload_n C dX1_firstPlaceOf_10 rfl ?_
          refine r_iload_n C dX1_firstPlaceOf_11 rfl ?_
          refine d_V (st := []) hX.stb C hE (C_itemAt (f := f) (r := r) (kn := kn) (i := i) (k := k) hX (by first | omega | (simp [up2, *]; done) | (simp [up2, *]; omega) | (simp only [up2_eq]; omega)) (by first | omega | (simp [up2, *]; done) | (simp [up2, *]; omega) | (simp only [up2_eq]; omega)) (by first | omega | (simp [up2, *]; done) | (simp [up2, *]; omega) | (simp only [up2_eq]; omega))) pk_X1_itemAt qm_X1_32 (3 + i) 5 rfl rfl (wc_p (by first | omega | (simp [up2, *]; done) | (simp [up2, *]; omega) | (simp only [up2_eq]; omega))) rfl rfl (Nat.le_of_ble_eq_true rfl) dX1_firstPlaceOf_12 ⟨Nat.le_of_ble_eq_true rfl, Nat.le_of_ble_eq_true rfl⟩ ⟨Nat.le_of_ble_eq_true rfl, Nat.le_of_ble_eq_true rfl⟩ ?_
          refine r_iload_n C dX1_firstPlaceOf_15 rfl ?_
          refine r_ic_ne (tgt := 21) C dX1_firstPlaceOf_16 (by decide) (fun h16_2 => ?_) (fun h16_2 => ?_)
          · first
            | exfalso; first | omega | contradiction
            | skip
              refine r_iincN C dX1_firstPlaceOf_21 rfl (by decide) rfl ?_
              refine r_goto (tgt := 2) C dX1_firstPlaceOf_24 (by decide) ?_
              exact (Nat.not_lt_zero _ (by omega)).elim
          · first
            | exfalso; first | omega | contradiction
            | skip
              refine r_iload_n C dX1_firstPlaceOf_19 rfl ?_
              exact r_iret C hr dX1_firstPlaceOf_20 ⟨by rw [← hF]; simp [fpF, *], rfl⟩ (Nat.le_of_ble_eq_true rfl) (Nat.le_of_ble_eq_true rfl)
    | succ d ih_L2 =>
      intro k hk hF
      refine r_iload_n C dX1_firstPlaceOf_2 rfl ?_
      refine r_aload_n C dX1_firstPlaceOf_3 rfl ?_
      refine p_get (v := .int (nI (f 4 i))) C 4 (by first | omega | (simp [up2, *]; done) | (simp [up2, *]; omega) | (simp only [up2_eq]; omega)) (by decide) qf_X1_29 rfl rfl dX1_firstPlaceOf_4 ?_
      refine r_icN_ge (tgt := 27) C (by first | omega | (simp [up2, *]; done) | (simp [up2, *]; omega) | (simp only [up2_eq]; omega)) (by first | omega | (simp [up2, *]; done) | (simp [up2, *]; omega) | (simp only [up2_eq]; omega)) dX1_firstPlaceOf_7 (by decide) (fun h7_3 => ?_) (fun h7_3 => ?_)
      · first
        | exfalso; first | omega | contradiction
        | skip
          refine r_iconst (v := (nI 4294967295)) C dX1_firstPlaceOf_27 (by decide) ?_
          exact r_iret C hr dX1_firstPlaceOf_28 ⟨by rw [← hF]; simp [fpF, *], rfl⟩ (Nat.le_of_ble_eq_true rfl) (Nat.le_of_ble_eq_true rfl)
      · first
        | exfalso; first | omega | contradiction
        | skip
          refine r_aload_n C dX1_firstPlaceOf_10 rfl ?_
          refine r_iload_n C dX1_firstPlaceOf_11 rfl ?_
          refine d_V (st := []) hX.stb C hE (C_itemAt (f := f) (r := r) (kn := kn) (i := i) (k := k) hX (by first | omega | (simp [up2, *]; done) | (simp [up2, *]; omega) | (simp only [up2_eq]; omega)) (by first | omega | (simp [up2, *]; done) | (simp [up2, *]; omega) | (simp only [up2_eq]; omega)) (by first | omega | (simp [up2, *]; done) | (simp [up2, *]; omega) | (simp only [up2_eq]; omega))) pk_X1_itemAt qm_X1_32 (3 + i) 5 rfl rfl (wc_p (by first | omega | (simp [up2, *]; done) | (simp [up2, *]; omega) | (simp only [up2_eq]; omega))) rfl rfl (Nat.le_of_ble_eq_true rfl) dX1_firstPlaceOf_12 ⟨Nat.le_of_ble_eq_true rfl, Nat.le_of_ble_eq_true rfl⟩ ⟨Nat.le_of_ble_eq_true rfl, Nat.le_of_ble_eq_true rfl⟩ ?_
          refine r_iload_n C dX1_firstPlaceOf_15 rfl ?_
          refine r_ic_ne (tgt := 21) C dX1_firstPlaceOf_16 (by decide) (fun h16_4 => ?_) (fun h16_4 => ?_)
          · first
            | exfalso; first | omega | contradiction
            | skip
              refine r_iincN C dX1_firstPlaceOf_21 rfl (by decide) rfl ?_
              refine r_goto (tgt := 2) C dX1_firstPlaceOf_24 (by decide) ?_
              exact ih_L2 (k + 1) (by first | omega | (simp [up2, *]; done) | (simp [up2, *]; omega) | (simp only [up2_eq]; omega)) (by rw [← hF]; simp only [fpF]; rw [if_neg (by assumption)])
          · first
            | exfalso; first | omega | contradiction
            | skip
              refine r_iload_n C dX1_firstPlaceOf_19 rfl ?_
              exact r_iret C hr dX1_firstPlaceOf_20 ⟨by rw [← hF]; simp [fpF, *], rfl⟩ (Nat.le_of_ble_eq_true rfl) (Nat.le_of_ble_eq_true rfl)
  exact L2 (f 4 i) 0 (by first | omega | (simp [up2, *]; done) | (simp [up2, *]; omega) | (simp only [up2_eq]; omega)) rfl
theorem pk_X1_firstPlaceOf : PkV RX1 yX1_firstPlaceOf cX1_firstPlaceOf 3 (some .int) 1 := ⟨⟨qi_X1_firstPlaceOf, qs_X1_firstPlaceOf, qz_X1, qc_X1_firstPlaceOf⟩, by decide +kernel⟩
theorem dX1_has_0 : decode cX1_has 0 = .ok (.aload_n 0, 1) := by decide +kernel
theorem dX1_has_1 : decode cX1_has 1 = .ok (.iload_n 1, 1) := by decide +kernel
theorem dX1_has_2 : decode cX1_has 2 = .ok (.invokevirtual 62, 3) := by decide +kernel
theorem dX1_has_5 : decode cX1_has 5 = .ok (.iconst (-1), 1) := by decide +kernel
