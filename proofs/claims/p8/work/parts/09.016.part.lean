theorem dX1_arrange_55 : decode cX1_arrange 55 = .ok (.invokevirtual 42, 3) := by decide +kernel
theorem dX1_arrange_58 : decode cX1_arrange 58 = .ok (.iinc 4 (-1), 3) := by decide +kernel
theorem dX1_arrange_61 : decode cX1_arrange 61 = .ok (.goto (-42), 3) := by decide +kernel
theorem dX1_arrange_64 : decode cX1_arrange 64 = .ok (.aload_n 0, 1) := by decide +kernel
theorem dX1_arrange_65 : decode cX1_arrange 65 = .ok (.iload 4, 2) := by decide +kernel
theorem dX1_arrange_67 : decode cX1_arrange 67 = .ok (.iload_n 3, 1) := by decide +kernel
theorem dX1_arrange_68 : decode cX1_arrange 68 = .ok (.invokevirtual 42, 3) := by decide +kernel
theorem dX1_arrange_71 : decode cX1_arrange 71 = .ok (.iinc 2 1, 3) := by decide +kernel
theorem dX1_arrange_74 : decode cX1_arrange 74 = .ok (.goto (-72), 3) := by decide +kernel
theorem dX1_arrange_77 : decode cX1_arrange 77 = .ok (.return_, 1) := by decide +kernel
set_option maxRecDepth 100000 in
set_option maxHeartbeats 4000000 in
theorem C_arrange {l : Launch} {D : va_G} {cy : Nat → ClassId} {X : (Nat → Prop) → State → Heap → Prop} {a f : Nat → Nat → Nat} {r : Nat → Nat → Int32} {kn : Int32} {Y : va_W} {i : Nat} {b : Nat} (hX : EnvX X) (hi : i < 11) (h0 : f 0 i < 7) (h4 : f 3 i + f 4 i ≤ 12) (hb : b ≤ 3) : Cd l D cy X yX1_arrange cX1_arrange 5 none (rmz 2 60) [.ref (a 1 i), .int (nI b)] (WC cy a f r kn ++ Y) none (WC cy a f (srF (f 0 i) (f 3 i) b (f 4 i - 1) 1 r) kn ++ Y) := by
  refine Cm.of [some (.ref (a 1 i)), some (.int (nI b)), none, none, none] (by decide +kernel) rfl (Nat.le_of_ble_eq_true rfl) ?_
  intro p e s m args below meth c A C hE hr hnt hn
  refine r_iconst (v := (nI 1)) C dX1_arrange_0 (by decide) ?_
  refine r_istore_n C dX1_arrange_1 (by decide) rfl ?_
  have L2 : ∀ (d : Nat) (e0 : Nat) (r1 : Nat → Nat → Int32), (he : f 4 i ≤ e0 + d ∧ (d = 0 ∨ e0 + d = f 4 i)) → (he1 : 1 ≤ e0 ∧ e0 ≤ 12) → (hF : srF (f 0 i) (f 3 i) b d e0 r1 = srF (f 0 i) (f 3 i) b (f 4 i - 1) 1 r) → vC p l e (rmz 2 60) s m args below meth c D A (vx_MQ below (vG (fun v1 w1 => v1 = none ∧ w1 = WC cy a f (srF (f 0 i) (f 3 i) b (f 4 i - 1) 1 r) kn ++ Y) D vwCl A) (vGX (fun _ => False) D vwCl (WC cy a f r kn ++ Y) A) args s (rmz 2 60).cells (rmz 2 60).slots A) 5 0 0 (WC cy a f r1 kn ++ Y) [some (.ref (a 1 i)), some (.int (nI b)), some (.int (nI e0)), none, none] 2 [] := by
    intro d
    induction d with
    | zero =>
      intro e0 r1 he he1 hF
      refine r_iload_n C dX1_arrange_2 rfl ?_
      refine r_aload_n C dX1_arrange_3 rfl ?_
      refine p_get (v := .int (nI (f 4 i))) C 4 (by first | omega | (simp [up2, *]; done) | (simp [up2, *]; omega) | (simp only [up2_eq]; omega)) (by decide) qf_X1_29 rfl rfl dX1_arrange_4 ?_
      refine r_icN_ge (tgt := 77) C (by first | omega | (simp [up2, *]; done) | (simp [up2, *]; omega) | (simp only [up2_eq]; omega)) (by first | omega | (simp [up2, *]; done) | (simp [up2, *]; omega) | (simp only [up2_eq]; omega)) dX1_arrange_7 (by decide) (fun h7_1 => ?_) (fun h7_1 => ?_)
      · first
        | exfalso; first | omega | contradiction
        | skip
          exact r_vret C hr dX1_arrange_77 ⟨rfl, congrArg (fun z => WC cy a f z kn ++ Y) (by rw [← hF]; rfl)⟩ (Nat.le_of_ble_eq_true rfl) (Nat.le_of_ble_eq_true rfl)
      · first
        | exfalso; first | omega | contradiction
        | skip
          refine r_aload_n C dX1_arrange_10 rfl ?_
          refine r_iload_n C dX1_arrange_11 rfl ?_
          refine d_V (st := []) hX.stb C hE (C_itemAt (f := f) (r := r1) (kn := kn) (i := i) (k := e0) hX (by first | omega | (simp [up2, *]; done) | (simp [up2, *]; omega) | (simp only [up2_eq]; omega)) (by first | omega | (simp [up2, *]; done) | (simp [up2, *]; omega) | (simp only [up2_eq]; omega)) (by first | omega | (simp [up2, *]; done) | (simp [up2, *]; omega) | (simp only [up2_eq]; omega))) pk_X1_itemAt qm_X1_32 (3 + i) 5 rfl rfl (wc_p (by first | omega | (simp [up2, *]; done) | (simp [up2, *]; omega) | (simp only [up2_eq]; omega))) rfl rfl (Nat.le_of_ble_eq_true rfl) dX1_arrange_12 ⟨Nat.le_of_ble_eq_true rfl, Nat.le_of_ble_eq_true rfl⟩ ⟨Nat.le_of_ble_eq_true rfl, Nat.le_of_ble_eq_true rfl⟩ ?_
          refine r_istore_n C dX1_arrange_15 (by decide) rfl ?_
          refine r_iload_n C dX1_arrange_16 rfl ?_
          refine r_istore C dX1_arrange_17 (by decide) rfl ?_
          refine r_w (congrArg (fun z => WC cy a f z kn ++ Y) (shf_0 r1 (f 0 i) (f 3 i) e0).symm) ?_
          have L19 : ∀ (d : Nat) , (hd : d ≤ e0) → (hG : inP (fun q => r1 (f 0 i) (f 3 i + q)) b (r1 (f 0 i) (f 3 i + e0)) d = inP (fun q => r1 (f 0 i) (f 3 i + q)) b (r1 (f 0 i) (f 3 i + e0)) e0) → vC p l e (rmz 2 60) s m args below meth c D A (vx_MQ below (vG (fun v1 w1 => v1 = none ∧ w1 = WC cy a f (srF (f 0 i) (f 3 i) b (f 4 i - 1) 1 r) kn ++ Y) D vwCl A) (vGX (fun _ => False) D vwCl (WC cy a f r kn ++ Y) A) args s (rmz 2 60).cells (rmz 2 60).slots A) 5 0 0 (WC cy a f (shf r1 (f 0 i) (f 3 i) e0 d) kn ++ Y) [some (.ref (a 1 i)), some (.int (nI b)), some (.int (nI e0)), some (.int (r1 (f 0 i) (f 3 i + e0))), some (.int (nI d))] 19 [] := by
            intro d
            induction d with
            | zero =>
              intro  hd hG
              refine r_iload C dX1_arrange_19 rfl ?_
              refine r_ifN_le (tgt := 64) C (by first | omega | (simp [up2, *]; done) | (simp [up2, *]; omega) | (simp only [up2_eq]; omega)) dX1_arrange_21 (by decide) (fun h21_2 => ?_) (fun h21_2 => ?_)
              · skip
                refine r_aload_n C dX1_arrange_64 rfl ?_
                refine r_iload C dX1_arrange_65 rfl ?_
                refine r_iload_n C dX1_arrange_67 rfl ?_
                refine d_Vv (st := []) hX.stb C hE (C_putAt (f := f) (r := (shf r1 (f 0 i) (f 3 i) e0 0)) (kn := kn) (i := i) (k := 0) (x := ((r1 (f 0 i) (f 3 i + e0)))) hX (by first | omega | (simp [up2, *]; done) | (simp [up2, *]; omega) | (simp only [up2_eq]; omega)) (by first | omega | (simp [up2, *]; done) | (simp [up2, *]; omega) | (simp only [up2_eq]; omega)) (by first | omega | (simp [up2, *]; done) | (simp [up2, *]; omega) | (simp only [up2_eq]; omega))) pk_X1_putAt qm_X1_42 (3 + i) 5 rfl rfl (wc_p (by first | omega | (simp [up2, *]; done) | (simp [up2, *]; omega) | (simp only [up2_eq]; omega))) rfl rfl (Nat.le_of_ble_eq_true rfl) dX1_arrange_68 ⟨Nat.le_of_ble_eq_true rfl, Nat.le_of_ble_eq_true rfl⟩ ⟨Nat.le_of_ble_eq_true rfl, Nat.le_of_ble_eq_true rfl⟩ ?_
                refine r_w (congrArg (fun z => WC cy a f z kn ++ Y) (in1_of (by rw [← hG]; first | rfl | (simp only [inP]; rw [if_pos (by assumption)])))) ?_
                refine r_iincN C dX1_arrange_71 rfl (by decide) rfl ?_
                refine r_goto (tgt := 2) C dX1_arrange_74 (by decide) ?_
                refine r_drop 3 ?_
                refine r_drop 4 ?_
                exact (Nat.not_lt_zero _ (by omega)).elim
              · exact absurd h21_2 (by first | omega | (simp [up2, *]; done) | (simp [up2, *]; omega) | (simp only [up2_eq]; omega))
            | succ d ih_L19 =>
              intro  hd hG
              refine r_iload C dX1_arrange_19 rfl ?_
              refine r_ifN_le (tgt := 64) C (by first | omega | (simp [up2, *]; done) | (simp [up2, *]; omega) | (simp only [up2_eq]; omega)) dX1_arrange_21 (by decide) (fun h21_3 => ?_) (fun h21_3 => ?_)
              · first
                | exfalso; first | omega | contradiction
                | skip
                  refine r_aload_n C dX1_arrange_64 rfl ?_
                  refine r_iload C dX1_arrange_65 rfl ?_
                  refine r_iload_n C dX1_arrange_67 rfl ?_
                  refine d_Vv (st := []) hX.stb C hE (C_putAt (f := f) (r := (shf r1 (f 0 i) (f 3 i) e0 (d + 1))) (kn := kn) (i := i) (k := (d + 1)) (x := ((r1 (f 0 i) (f 3 i + e0)))) hX (by first | omega | (simp [up2, *]; done) | (simp [up2, *]; omega) | (simp only [up2_eq]; omega)) (by first | omega | (simp [up2, *]; done) | (simp [up2, *]; omega) | (simp only [up2_eq]; omega)) (by first | omega | (simp [up2, *]; done) | (simp [up2, *]; omega) | (simp only [up2_eq]; omega))) pk_X1_putAt qm_X1_42 (3 + i) 5 rfl rfl (wc_p (by first | omega | (simp [up2, *]; done) | (simp [up2, *]; omega) | (simp only [up2_eq]; omega))) rfl rfl (Nat.le_of_ble_eq_true rfl) dX1_arrange_68 ⟨Nat.le_of_ble_eq_true rfl, Nat.le_of_ble_eq_true rfl⟩ ⟨Nat.le_of_ble_eq_true rfl, Nat.le_of_ble_eq_true rfl⟩ ?_
                  refine r_w (congrArg (fun z => WC cy a f z kn ++ Y) (in1_of (by rw [← hG]; first | rfl | (simp only [inP]; rw [if_pos (by assumption)])))) ?_
                  refine r_iincN C dX1_arrange_71 rfl (by decide) rfl ?_
                  refine r_goto (tgt := 2) C dX1_arrange_74 (by decide) ?_
                  refine r_drop 3 ?_
                  refine r_drop 4 ?_
                  exact (Nat.not_lt_zero _ (by omega)).elim
              · first
                | exfalso; first | omega | contradiction
                | skip
                  refine r_iload_n C dX1_arrange_24 rfl ?_
                  refine r_aload_n C dX1_arrange_25 rfl ?_
                  refine r_iload C dX1_arrange_26 rfl ?_
                  refine r_iconst (v := (nI 1)) C dX1_arrange_28 (by decide) ?_
                  refine r_isubN C dX1_arrange_29 (by first | omega | (simp [up2, *]; done) | (simp [up2, *]; omega) | (simp only [up2_eq]; omega)) ?_
                  refine d_V (st := [.int (nI b)]) hX.stb C hE (C_itemAt (f := f) (r := (shf r1 (f 0 i) (f 3 i) e0 (d + 1))) (kn := kn) (i := i) (k := d) hX (by first | omega | (simp [up2, *]; done) | (simp [up2, *]; omega) | (simp only [up2_eq]; omega)) (by first | omega | (simp [up2, *]; done) | (simp [up2, *]; omega) | (simp only [up2_eq]; omega)) (by first | omega | (simp [up2, *]; done) | (simp [up2, *]; omega) | (simp only [up2_eq]; omega))) pk_X1_itemAt qm_X1_32 (3 + i) 5 rfl rfl (wc_p (by first | omega | (simp [up2, *]; done) | (simp [up2, *]; omega) | (simp only [up2_eq]; omega))) rfl rfl (Nat.le_of_ble_eq_true rfl) dX1_arrange_30 ⟨Nat.le_of_ble_eq_true rfl, Nat.le_of_ble_eq_true rfl⟩ ⟨Nat.le_of_ble_eq_true rfl, Nat.le_of_ble_eq_true rfl⟩ ?_
                  refine d_S (st := []) hX.stb C hE (C_rank (f := f) (r := (shf r1 (f 0 i) (f 3 i) e0 (d + 1))) (kn := kn) (b := b) (x := (((shf r1 (f 0 i) (f 3 i) e0 (d + 1)) (f 0 i) (f 3 i + d)))) hX (by first | omega | (simp [up2, *]; done) | (simp [up2, *]; omega) | (simp only [up2_eq]; omega))) pk_X1_rank qm_X1_59 rfl rfl (Nat.le_of_ble_eq_true rfl) dX1_arrange_33 ⟨Nat.le_of_ble_eq_true rfl, Nat.le_of_ble_eq_true rfl⟩ ⟨Nat.le_of_ble_eq_true rfl, Nat.le_of_ble_eq_true rfl⟩ ?_
                  refine r_iload_n C dX1_arrange_36 rfl ?_
                  refine r_iload_n C dX1_arrange_37 rfl ?_
                  refine d_S (st := [.int (rkF b (((shf r1 (f 0 i) (f 3 i) e0 (d + 1)) (f 0 i) (f 3 i + d))))]) hX.stb C hE (C_rank (f := f) (r := (shf r1 (f 0 i) (f 3 i) e0 (d + 1))) (kn := kn) (b := b) (x := ((r1 (f 0 i) (f 3 i + e0)))) hX (by first | omega | (simp [up2, *]; done) | (simp [up2, *]; omega) | (simp only [up2_eq]; omega))) pk_X1_rank qm_X1_59 rfl rfl (Nat.le_of_ble_eq_true rfl) dX1_arrange_38 ⟨Nat.le_of_ble_eq_true rfl, Nat.le_of_ble_eq_true rfl⟩ ⟨Nat.le_of_ble_eq_true rfl, Nat.le_of_ble_eq_true rfl⟩ ?_
                  refine r_ic_le (tgt := 64) C dX1_arrange_41 (by decide) (fun h41_4 => ?_) (fun h41_4 => ?_)
                  · first
                    | exfalso; first | omega | contradiction
                    | skip
                      rw [shf_lo (by omega)] at h41_4
                      refine r_aload_n C dX1_arrange_64 rfl ?_
                      refine r_iload C dX1_arrange_65 rfl ?_
                      refine r_iload_n C dX1_arrange_67 rfl ?_
                      refine d_Vv (st := []) hX.stb C hE (C_putAt (f := f) (r := (shf r1 (f 0 i) (f 3 i) e0 (d + 1))) (kn := kn) (i := i) (k := (d + 1)) (x := ((r1 (f 0 i) (f 3 i + e0)))) hX (by first | omega | (simp [up2, *]; done) | (simp [up2, *]; omega) | (simp only [up2_eq]; omega)) (by first | omega | (simp [up2, *]; done) | (simp [up2, *]; omega) | (simp only [up2_eq]; omega)) (by first | omega | (simp [up2, *]; done) | (simp [up2, *]; omega) | (simp only [up2_eq]; omega))) pk_X1_putAt qm_X1_42 (3 + i) 5 rfl rfl (wc_p (by first | omega | (simp [up2, *]; done) | (simp [up2, *]; omega) | (simp only [up2_eq]; omega))) rfl rfl (Nat.le_of_ble_eq_true rfl) dX1_arrange_68 ⟨Nat.le_of_ble_eq_true rfl, Nat.le_of_ble_eq_true rfl⟩ ⟨Nat.le_of_ble_eq_true rfl, Nat.le_of_ble_eq_true rfl⟩ ?_
                      refine r_w (congrArg (fun z => WC cy a f z kn ++ Y) (in1_of (by rw [← hG]; first | rfl | (simp only [inP]; rw [if_pos (by assumption)])))) ?_
                      refine r_iincN C dX1_arrange_71 rfl (by decide) rfl ?_
                      refine r_goto (tgt := 2) C dX1_arrange_74 (by decide) ?_
                      refine r_drop 3 ?_
                      refine r_drop 4 ?_
                      exact (Nat.not_lt_zero _ (by omega)).elim
                  · first
                    | exfalso; first | omega | contradiction
                    | skip
                      rw [shf_lo (by omega)] at h41_4
                      refine r_aload_n C dX1_arrange_44 rfl ?_
                      refine r_iload C dX1_arrange_45 rfl ?_
                      refine r_aload_n C dX1_arrange_47 rfl ?_
                      refine r_iload C dX1_arrange_48 rfl ?_
                      refine r_iconst (v := (nI 1)) C dX1_arrange_50 (by decide) ?_
                      refine r_isubN C dX1_arrange_51 (by first | omega | (simp [up2, *]; done) | (simp [up2, *]; omega) | (simp only [up2_eq]; omega)) ?_
                      refine d_V (st := [.int (nI (d + 1)), .ref (a 1 i)]) hX.stb C hE (C_itemAt (f := f) (r := (shf r1 (f 0 i) (f 3 i) e0 (d + 1))) (kn := kn) (i := i) (k := d) hX (by first | omega | (simp [up2, *]; done) | (simp [up2, *]; omega) | (simp only [up2_eq]; omega)) (by first | omega | (simp [up2, *]; done) | (simp [up2, *]; omega) | (simp only [up2_eq]; omega)) (by first | omega | (simp [up2, *]; done) | (simp [up2, *]; omega) | (simp only [up2_eq]; omega))) pk_X1_itemAt qm_X1_32 (3 + i) 5 rfl rfl (wc_p (by first | omega | (simp [up2, *]; done) | (simp [up2, *]; omega) | (simp only [up2_eq]; omega))) rfl rfl (Nat.le_of_ble_eq_true rfl) dX1_arrange_52 ⟨Nat.le_of_ble_eq_true rfl, Nat.le_of_ble_eq_true rfl⟩ ⟨Nat.le_of_ble_eq_true rfl, Nat.le_of_ble_eq_true rfl⟩ ?_
                      refine d_Vv (st := []) hX.stb C hE (C_putAt (f := f) (r := (shf r1 (f 0 i) (f 3 i) e0 (d + 1))) (kn := kn) (i := i) (k := (d + 1)) (x := (((shf r1 (f 0 i) (f 3 i) e0 (d + 1)) (f 0 i) (f 3 i + d)))) hX (by first | omega | (simp [up2, *]; done) | (simp [up2, *]; omega) | (simp only [up2_eq]; omega)) (by first | omega | (simp [up2, *]; done) | (simp [up2, *]; omega) | (simp only [up2_eq]; omega)) (by first | omega | (simp [up2, *]; done) | (simp [up2, *]; omega) | (simp only [up2_eq]; omega))) pk_X1_putAt qm_X1_42 (3 + i) 5 rfl rfl (wc_p (by first | omega | (simp [up2, *]; done) | (simp [up2, *]; omega) | (simp only [up2_eq]; omega))) rfl rfl (Nat.le_of_ble_eq_true rfl) dX1_arrange_55 ⟨Nat.le_of_ble_eq_true rfl, Nat.le_of_ble_eq_true rfl⟩ ⟨Nat.le_of_ble_eq_true rfl, Nat.le_of_ble_eq_true rfl⟩ ?_
                      refine r_idecP C dX1_arrange_58 rfl (by first | omega | (simp [up2, *]; done) | (simp [up2, *]; omega) | (simp only [up2_eq]; omega)) (by decide) rfl ?_
                      refine r_goto (tgt := 19) C dX1_arrange_61 (by decide) ?_
                      refine r_w (congrArg (fun z => WC cy a f z kn ++ Y) (shf_step (by omega))) ?_
                      exact ih_L19  (by omega) (by rw [← hG]; simp only [inP]; rw [if_neg (by assumption)])
          exact L19 e0 (Nat.le_refl _) rfl
    | succ d ih_L2 =>
      intro e0 r1 he he1 hF
      refine r_iload_n C dX1_arrange_2 rfl ?_
      refine r_aload_n C dX1_arrange_3 rfl ?_
      refine p_get (v := .int (nI (f 4 i))) C 4 (by first | omega | (simp [up2, *]; done) | (simp [up2, *]; omega) | (simp only [up2_eq]; omega)) (by decide) qf_X1_29 rfl rfl dX1_arrange_4 ?_
      refine r_icN_ge (tgt := 77) C (by first | omega | (simp [up2, *]; done) | (simp [up2, *]; omega) | (simp only [up2_eq]; omega)) (by first | omega | (simp [up2, *]; done) | (simp [up2, *]; omega) | (simp only [up2_eq]; omega)) dX1_arrange_7 (by decide) (fun h7_5 => ?_) (fun h7_5 => ?_)
      · first
        | exfalso; first | omega | contradiction
        | skip
          exact r_vret C hr dX1_arrange_77 ⟨rfl, congrArg (fun z => WC cy a f z kn ++ Y) (by rw [← hF]; rfl)⟩ (Nat.le_of_ble_eq_true rfl) (Nat.le_of_ble_eq_true rfl)
      · first
        | exfalso; first | omega | contradiction
        | skip
          refine r_aload_n C dX1_arrange_10 rfl ?_
          refine r_iload_n C dX1_arrange_11 rfl ?_
          refine d_V (st := []) hX.stb C hE (C_itemAt (f := f) (r := r1) (kn := kn) (i := i) (k := e0) hX (by first | omega | (simp [up2, *]; done) | (simp [up2, *]; omega) | (simp only [up2_eq]; omega)) (by first | omega | (simp [up2, *]; done) | (simp [up2, *]; omega) | (simp only [up2_eq]; omega)) (by first | omega | (simp [up2, *]; done) | (simp [up2, *]; omega) | (simp only [up2_eq]; omega))) pk_X1_itemAt qm_X1_32 (3 + i) 5 rfl rfl (wc_p (by first | omega | (simp [up2, *]; done) | (simp [up2, *]; omega) | (simp only [up2_eq]; omega))) rfl rfl (Nat.le_of_ble_eq_true rfl) dX1_arrange_12 ⟨Nat.le_of_ble_eq_true rfl, Nat.le_of_ble_eq_true rfl⟩ ⟨Nat.le_of_ble_eq_true rfl, Nat.le_of_ble_eq_true rfl⟩ ?_
          refine r_istore_n C dX1_arrange_15 (by decide) rfl ?_
          refine r_iload_n C dX1_arrange_16 rfl ?_
          refine r_istore C dX1_arrange_17 (by decide) rfl ?_
          refine r_w (congrArg (fun z => WC cy a f z kn ++ Y) (shf_0 r1 (f 0 i) (f 3 i) e0).symm) ?_
          have L19 : ∀ (d : Nat) , (hd : d ≤ e0) → (hG : inP (fun q => r1 (f 0 i) (f 3 i + q)) b (r1 (f 0 i) (f 3 i + e0)) d = inP (fun q => r1 (f 0 i) (f 3 i + q)) b (r1 (f 0 i) (f 3 i + e0)) e0) → vC p l e (rmz 2 60) s m args below meth c D A (vx_MQ below (vG (fun v1 w1 => v1 = none ∧ w1 = WC cy a f (srF (f 0 i) (f 3 i) b (f 4 i - 1) 1 r) kn ++ Y) D vwCl A) (vGX (fun _ => False) D vwCl (WC cy a f r kn ++ Y) A) args s (rmz 2 60).cells (rmz 2 60).slots A) 5 0 0 (WC cy a f (shf r1 (f 0 i) (f 3 i) e0 d) kn ++ Y) [some (.ref (a 1 i)), some (.int (nI b)), some (.int (nI e0)), some (.int (r1 (f 0 i) (f 3 i + e0))), some (.int (nI d))] 19 [] := by
            intro d
            induction d with
            | zero =>
              intro  hd hG
              refine r_iload C dX1_arrange_19 rfl ?_
              refine r_ifN_le (tgt := 64) C (by first | omega | (simp [up2, *]; done) | (simp [up2, *]; omega) | (simp only [up2_eq]; omega)) dX1_arrange_21 (by decide) (fun h21_6 => ?_) (fun h21_6 => ?_)
              · skip
                refine r_aload_n C dX1_arrange_64 rfl ?_
                refine r_iload C dX1_arrange_65 rfl ?_
                refine r_iload_n C dX1_arrange_67 rfl ?_
                refine d_Vv (st := []) hX.stb C hE (C_putAt (f := f) (r := (shf r1 (f 0 i) (f 3 i) e0 0)) (kn := kn) (i := i) (k := 0) (x := ((r1 (f 0 i) (f 3 i + e0)))) hX (by first | omega | (simp [up2, *]; done) | (simp [up2, *]; omega) | (simp only [up2_eq]; omega)) (by first | omega | (simp [up2, *]; done) | (simp [up2, *]; omega) | (simp only [up2_eq]; omega)) (by first | omega | (simp [up2, *]; done) | (simp [up2, *]; omega) | (simp only [up2_eq]; omega))) pk_X1_putAt qm_X1_42 (3 + i) 5 rfl rfl (wc_p (by first | omega | (simp [up2, *]; done) | (simp [up2, *]; omega) | (simp only [up2_eq]; omega))) rfl rfl (Nat.le_of_ble_eq_true rfl) dX1_arrange_68 ⟨Nat.le_of_ble_eq_true rfl, Nat.le_of_ble_eq_true rfl⟩ ⟨Nat.le_of_ble_eq_true rfl, Nat.le_of_ble_eq_true rfl⟩ ?_
                refine r_w (congrArg (fun z => WC cy a f z kn ++ Y) (in1_of (by rw [← hG]; first | rfl | (simp only [inP]; rw [if_pos (by assumption)])))) ?_
                refine r_iincN C dX1_arrange_71 rfl (by decide) rfl ?_
                refine r_goto (tgt := 2) C dX1_arrange_74 (by decide) ?_
                refine r_drop 3 ?_
                refine r_drop 4 ?_
                exact ih_L2 (e0 + 1) (in1 r1 (f 0 i) (f 3 i) b e0) (by first | omega | (simp [up2, *]; done) | (simp [up2, *]; omega) | (simp only [up2_eq]; omega)) (by first | omega | (simp [up2, *]; done) | (simp [up2, *]; omega) | (simp only [up2_eq]; omega)) (by rw [← hF]; rfl)
              · exact absurd h21_6 (by first | omega | (simp [up2, *]; done) | (simp [up2, *]; omega) | (simp only [up2_eq]; omega))
            | succ d ih_L19 =>
              intro  hd hG
              refine r_iload C dX1_arrange_19 rfl ?_
              refine r_ifN_le (tgt := 64) C (by first | omega | (simp [up2, *]; done) | (simp [up2, *]; omega) | (simp only [up2_eq]; omega)) dX1_arrange_21 (by decide) (fun h21_7 => ?_) (fun h21_7 => ?_)
              · first
                | exfalso; first | omega | contradiction
                | skip
                  refine r_aload_n C dX1_arrange_64 rfl ?_
                  refine r_iload C dX1_arrange_65 rfl ?_
                  refine r_iload_n C dX1_arrange_67 rfl ?_
                  refine d_Vv (st := []) hX.stb C hE (C_putAt (f := f) (r := (shf r1 (f 0 i) (f 3 i) e0 (d + 1))) (kn := kn) (i := i) (k := (d + 1)) (x := ((r1 (f 0 i) (f 3 i + e0)))) hX (by first | omega | (simp [up2, *]; done) | (simp [up2, *]; omega) | (simp only [up2_eq]; omega)) (by first | omega | (simp [up2, *]; done) | (simp [up2, *]; omega) | (simp only [up2_eq]; omega)) (by first | omega | (simp [up2, *]; done) | (simp [up2, *]; omega) | (simp only [up2_eq]; omega))) pk_X1_putAt qm_X1_42 (3 + i) 5 rfl rfl (wc_p (by first | omega | (simp [up2, *]; done) | (simp [up2, *]; omega) | (simp only [up2_eq]; omega))) rfl rfl (Nat.le_of_ble_eq_true rfl) dX1_arrange_68 ⟨Nat.le_of_ble_eq_true rfl, Nat.le_of_ble_eq_true rfl⟩ ⟨Nat.le_of_ble_eq_true rfl, Nat.le_of_ble_eq_true rfl⟩ ?_
                  refine r_w (congrArg (fun z => WC cy a f z kn ++ Y) (in1_of (by rw [← hG]; first | rfl | (simp only [inP]; rw [if_pos (by assumption)])))) ?_
                  refine r_iincN C dX1_arrange_71 rfl (by decide) rfl ?_
                  refine r_goto (tgt := 2) C dX1_arrange_74 (by decide) ?_
                  refine r_drop 3 ?_
                  refine r_drop 4 ?_
                  exact ih_L2 (e0 + 1) (in1 r1 (f 0 i) (f 3 i) b e0) (by first | omega | (simp [up2, *]; done) | (simp [up2, *]; omega) | (simp only [up2_eq]; omega)) (by first | omega | (simp [up2, *]; done) | (simp [up2, *]; omega) | (simp only [up2_eq]; omega)) (by rw [← hF]; rfl)
              · first
                | exfalso; first | omega | contradiction
                | skip
                  refine r_iload_n C dX1_arrange_24 rfl ?_
                  refine r_aload_n C dX1_arrange_25 rfl ?_
                  refine r_iload C dX1_arrange_26 rfl ?_
                  refine r_iconst (v := (nI 1)) C dX1_arrange_28 (by decide) ?_
                  refine r_isubN C dX1_arrange_29 (by first | omega | (simp [up2, *]; done) | (simp [up2, *]; omega) | (simp only [up2_eq]; omega)) ?_
                  refine d_V (st := [.int (nI b)]) hX.stb C hE (C_itemAt (f := f) (r := (shf r1 (f 0 i) (f 3 i) e0 (d + 1))) (kn := kn) (i := i) (k := d) hX (by first | omega | (simp [up2, *]; done) | (simp [up2, *]; omega) | (simp only [up2_eq]; omega)) (by first | omega | (simp [up2, *]; done) | (simp [up2, *]; omega) | (simp only [up2_eq]; omega)) (by first | omega | (simp [up2, *]; done) | (simp [up2, *]; omega) | (simp only [up2_eq]; omega))) pk_X1_itemAt qm_X1_32 (3 + i) 5 rfl rfl (wc_p (by first | omega | (simp [up2, *]; done) | (simp [up2, *]; omega) | (simp only [up2_eq]; omega))) rfl rfl (Nat.le_of_ble_eq_true rfl) dX1_arrange_30 ⟨Nat.le_of_ble_eq_true rfl, Nat.le_of_ble_eq_true rfl⟩ ⟨Nat.le_of_ble_eq_true rfl, Nat.le_of_ble_eq_true rfl⟩ ?_
                  refine d_S (st := []) hX.stb C hE (C_rank (f := f) (r := (shf r1 (f 0 i) (f 3 i) e0 (d + 1))) (kn := kn) (b := b) (x := (((shf r1 (f 0 i) (f 3 i) e0 (d + 1)) (f 0 i) (f 3 i + d)))) hX (by first | omega | (simp [up2, *]; done) | (simp [up2, *]; omega) | (simp only [up2_eq]; omega))) pk_X1_rank qm_X1_59 rfl rfl (Nat.le_of_ble_eq_true rfl) dX1_arrange_33 ⟨Nat.le_of_ble_eq_true rfl, Nat.le_of_ble_eq_true rfl⟩ ⟨Nat.le_of_ble_eq_true rfl, Nat.le_of_ble_eq_true rfl⟩ ?_
                  refine r_iload_n C dX1_arrange_36 rfl ?_
                  refine r_iload_n C dX1_arrange_37 rfl ?_
                  refine d_S (st := [.int (rkF b (((shf r1 (f 0 i) (f 3 i) e0 (d + 1)) (f 0 i) (f 3 i + d))))]) hX.stb C hE (C_rank (f := f) (r := (shf r1 (f 0 i) (f 3 i) e0 (d + 1))) (kn := kn) (b := b) (x := ((r1 (f 0 i) (f 3 i + e0)))) hX (by first | omega | (simp [up2, *]; done) | (simp [up2, *]; omega) | (simp only [up2_eq]; omega))) pk_X1_rank qm_X1_59 rfl rfl (Nat.le_of_ble_eq_true rfl) dX1_arrange_38 ⟨Nat.le_of_ble_eq_true rfl, Nat.le_of_ble_eq_true rfl⟩ ⟨Nat.le_of_ble_eq_true rfl, Nat.le_of_ble_eq_true rfl⟩ ?_
                  refine r_ic_le (tgt := 64) C dX1_arrange_41 (by decide) (fun h41_8 => ?_) (fun h41_8 => ?_)
                  · first
                    | exfalso; first | omega | contradiction
                    | skip
                      rw [shf_lo (by omega)] at h41_8
                      refine r_aload_n C dX1_arrange_64 rfl ?_
                      refine r_iload C dX1_arrange_65 rfl ?_
                      refine r_iload_n C dX1_arrange_67 rfl ?_
                      refine d_Vv (st := []) hX.stb C hE (C_putAt (f := f) (r := (shf r1 (f 0 i) (f 3 i) e0 (d + 1))) (kn := kn) (i := i) (k := (d + 1)) (x := ((r1 (f 0 i) (f 3 i + e0)))) hX (by first | omega | (simp [up2, *]; done) | (simp [up2, *]; omega) | (simp only [up2_eq]; omega)) (by first | omega | (simp [up2, *]; done) | (simp [up2, *]; omega) | (simp only [up2_eq]; omega)) (by first | omega | (simp [up2, *]; done) | (simp [up2, *]; omega) | (simp only [up2_eq]; omega))) pk_X1_putAt qm_X1_42 (3 + i) 5 rfl rfl (wc_p (by first | omega | (simp [up2, *]; done) | (simp [up2, *]; omega) | (simp only [up2_eq]; omega))) rfl rfl (Nat.le_of_ble_eq_true rfl) dX1_arrange_68 ⟨Nat.le_of_ble_eq_true rfl, Nat.le_of_ble_eq_true rfl⟩ ⟨Nat.le_of_ble_eq_true rfl, Nat.le_of_ble_eq_true rfl⟩ ?_
                      refine r_w (congrArg (fun z => WC cy a f z kn ++ Y) (in1_of (by rw [← hG]; first | rfl | (simp only [inP]; rw [if_pos (by assumption)])))) ?_
                      refine r_iincN C dX1_arrange_71 rfl (by decide) rfl ?_
                      refine r_goto (tgt := 2) C dX1_arrange_74 (by decide) ?_
                      refine r_drop 3 ?_
                      refine r_drop 4 ?_
                      exact ih_L2 (e0 + 1) (in1 r1 (f 0 i) (f 3 i) b e0) (by first | omega | (simp [up2, *]; done) | (simp [up2, *]; omega) | (simp only [up2_eq]; omega)) (by first | omega | (simp [up2, *]; done) | (simp [up2, *]; omega) | (simp only [up2_eq]; omega)) (by rw [← hF]; rfl)
                  · first
                    | exfalso; first | omega | contradiction
                    | skip
                      rw [shf_lo (by omega)] at h41_8
                      refine r_aload_n C dX1_arrange_44 rfl ?_
                      refine r_iload C dX1_arrange_45 rfl ?_
                      refine r_aload_n C dX1_arrange_47 rfl ?_
                      refine r_iload C dX1_arrange_48 rfl ?_
                      refine r_iconst (v := (nI 1)) C dX1_arrange_50 (by decide) ?_
                      refine r_isubN C dX1_arrange_51 (by first | omega | (simp [up2, *]; done) | (simp [up2, *]; omega) | (simp only [up2_eq]; omega)) ?_
                      refine d_V (st := [.int (nI (d + 1)), .ref (a 1 i)]) hX.stb C hE (C_itemAt (f := f) (r := (shf r1 (f 0 i) (f 3 i) e0 (d + 1))) (kn := kn) (i := i) (k := d) hX (by first | omega | (simp [up2, *]; done) | (simp [up2, *]; omega) | (simp only [up2_eq]; omega)) (by first | omega | (simp [up2, *]; done) | (simp [up2, *]; omega) | (simp only [up2_eq]; omega)) (by first | omega | (simp [up2, *]; done) | (simp [up2, *]; omega) | (simp only [up2_eq]; omega))) pk_X1_itemAt qm_X1_32 (3 + i) 5 rfl rfl (wc_p (by first | omega | (simp [up2, *]; done) | (simp [up2, *]; omega) | (simp only [up2_eq]; omega))) rfl rfl (Nat.le_of_ble_eq_true rfl) dX1_arrange_52 ⟨Nat.le_of_ble_eq_true rfl, Nat.le_of_ble_eq_true rfl⟩ ⟨Nat.le_of_ble_eq_true rfl, Nat.le_of_ble_eq_true rfl⟩ ?_
                      refine d_Vv (st := []) hX.stb C hE (C_putAt (f := f) (r := (shf r1 (f 0 i) (f 3 i) e0 (d + 1))) (kn := kn) (i := i) (k := (d + 1)) (x := (((shf r1 (f 0 i) (f 3 i) e0 (d + 1)) (f 0 i) (f 3 i + d)))) hX (by first | omega | (simp [up2, *]; done) | (simp [up2, *]; omega) | (simp only [up2_eq]; omega)) (by first | omega | (simp [up2, *]; done) | (simp [up2, *]; omega) | (simp only [up2_eq]; omega)) (by first | omega | (simp [up2, *]; done) | (simp [up2, *]; omega) | (simp only [up2_eq]; omega))) pk_X1_putAt qm_X1_42 (3 + i) 5 rfl rfl (wc_p (by first | omega | (simp [up2, *]; done) | (simp [up2, *]; omega) | (simp only [up2_eq]; omega))) rfl rfl (Nat.le_of_ble_eq_true rfl) dX1_arrange_55 ⟨Nat.le_of_ble_eq_true rfl, Nat.le_of_ble_eq_true rfl⟩ ⟨Nat.le_of_ble_eq_true rfl, Nat.le_of_ble_eq_true rfl⟩ ?_
                      refine r_idecP C dX1_arrange_58 rfl (by first | omega | (simp [up2, *]; done) | (simp [up2, *]; omega) | (simp only [up2_eq]; omega)) (by decide) rfl ?_
                      refine r_goto (tgt := 19) C dX1_arrange_61 (by decide) ?_
                      refine r_w (congrArg (fun z => WC cy a f z kn ++ Y) (shf_step (by omega))) ?_
                      exact ih_L19  (by omega) (by rw [← hG]; simp only [inP]; rw [if_neg (by assumption)])
          exact L19 e0 (Nat.le_refl _) rfl
  exact L2 (f 4 i - 1) 1 r (by omega) (by omega) rfl
