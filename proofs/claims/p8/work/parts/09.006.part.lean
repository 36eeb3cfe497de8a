theorem pk_X1_standsAt : PkV RX1 yX1_standsAt cX1_standsAt 4 (some .boolean) 2 := ⟨⟨qi_X1_standsAt, qs_X1_standsAt, qz_X1, qc_X1_standsAt⟩, by decide +kernel⟩
theorem dX1_placeOfAll_0 : decode cX1_placeOfAll 0 = .ok (.iconst 0, 1) := by decide +kernel
theorem dX1_placeOfAll_1 : decode cX1_placeOfAll 1 = .ok (.istore_n 2, 1) := by decide +kernel
theorem dX1_placeOfAll_2 : decode cX1_placeOfAll 2 = .ok (.iload_n 2, 1) := by decide +kernel
theorem dX1_placeOfAll_3 : decode cX1_placeOfAll 3 = .ok (.aload_n 1, 1) := by decide +kernel
theorem dX1_placeOfAll_4 : decode cX1_placeOfAll 4 = .ok (.getfield 29, 3) := by decide +kernel
theorem dX1_placeOfAll_7 : decode cX1_placeOfAll 7 = .ok (.iadd, 1) := by decide +kernel
theorem dX1_placeOfAll_8 : decode cX1_placeOfAll 8 = .ok (.aload_n 0, 1) := by decide +kernel
theorem dX1_placeOfAll_9 : decode cX1_placeOfAll 9 = .ok (.getfield 29, 3) := by decide +kernel
theorem dX1_placeOfAll_12 : decode cX1_placeOfAll 12 = .ok (.if_icmp .gt 20, 3) := by decide +kernel
theorem dX1_placeOfAll_15 : decode cX1_placeOfAll 15 = .ok (.aload_n 0, 1) := by decide +kernel
theorem dX1_placeOfAll_16 : decode cX1_placeOfAll 16 = .ok (.iload_n 2, 1) := by decide +kernel
theorem dX1_placeOfAll_17 : decode cX1_placeOfAll 17 = .ok (.aload_n 1, 1) := by decide +kernel
theorem dX1_placeOfAll_18 : decode cX1_placeOfAll 18 = .ok (.invokevirtual 65, 3) := by decide +kernel
theorem dX1_placeOfAll_21 : decode cX1_placeOfAll 21 = .ok (.ifCond .eq 5, 3) := by decide +kernel
theorem dX1_placeOfAll_24 : decode cX1_placeOfAll 24 = .ok (.iload_n 2, 1) := by decide +kernel
theorem dX1_placeOfAll_25 : decode cX1_placeOfAll 25 = .ok (.ireturn, 1) := by decide +kernel
theorem dX1_placeOfAll_26 : decode cX1_placeOfAll 26 = .ok (.iinc 2 1, 3) := by decide +kernel
theorem dX1_placeOfAll_29 : decode cX1_placeOfAll 29 = .ok (.goto (-27), 3) := by decide +kernel
theorem dX1_placeOfAll_32 : decode cX1_placeOfAll 32 = .ok (.iconst (-1), 1) := by decide +kernel
theorem dX1_placeOfAll_33 : decode cX1_placeOfAll 33 = .ok (.ireturn, 1) := by decide +kernel
set_option maxRecDepth 100000 in
set_option maxHeartbeats 4000000 in
theorem C_placeOfAll {l : Launch} {D : va_G} {cy : Nat → ClassId} {X : (Nat → Prop) → State → Heap → Prop} {a f : Nat → Nat → Nat} {r : Nat → Nat → Int32} {kn : Int32} {Y : va_W} {i : Nat} {j : Nat} (hX : EnvX X) (hi : i < 11) (hj : j < 11) (h0 : f 0 i < 7) (h0j : f 0 j < 7) (h4 : f 3 i + f 4 i ≤ 12) (h4j : f 3 j + f 4 j ≤ 12) : Cd l D cy X yX1_placeOfAll cX1_placeOfAll 3 (some .int) (rmz 2 60) [.ref (a 1 i), .ref (a 1 j)] (WC cy a f r kn ++ Y) (some (.int (nI (poF (fun k => stF (fun q => r (f 0 i) (f 3 i + (k + q))) (fun q => r (f 0 j) (f 3 j + q)) (f 4 j) 0) (f 4 i + 1 - f 4 j) 0)))) (WC cy a f r kn ++ Y) := by
  refine Cm.of [some (.ref (a 1 i)), some (.ref (a 1 j)), none] (by decide +kernel) rfl (Nat.le_of_ble_eq_true rfl) ?_
  intro p e s m args below meth c A C hE hr hnt hn
  refine r_iconst (v := (nI 0)) C dX1_placeOfAll_0 (by decide) ?_
  refine r_istore_n C dX1_placeOfAll_1 (by decide) rfl ?_
  have L2 : ∀ (d : Nat) (k : Nat), (hk : k + d = f 4 i + 1 - f 4 j) → (hF : poF (fun k => stF (fun q => r (f 0 i) (f 3 i + (k + q))) (fun q => r (f 0 j) (f 3 j + q)) (f 4 j) 0) d k = poF (fun k => stF (fun q => r (f 0 i) (f 3 i + (k + q))) (fun q => r (f 0 j) (f 3 j + q)) (f 4 j) 0) (f 4 i + 1 - f 4 j) 0) → vC p l e (rmz 2 60) s m args below meth c D A (vx_MQ below (vG (fun v1 w1 => v1 = (some (.int (nI (poF (fun k => stF (fun q => r (f 0 i) (f 3 i + (k + q))) (fun q => r (f 0 j) (f 3 j + q)) (f 4 j) 0) (f 4 i + 1 - f 4 j) 0)))) ∧ w1 = WC cy a f r kn ++ Y) D vwCl A) (vGX (fun _ => False) D vwCl (WC cy a f r kn ++ Y) A) args s (rmz 2 60).cells (rmz 2 60).slots A) 3 0 0 (WC cy a f r kn ++ Y) [some (.ref (a 1 i)), some (.ref (a 1 j)), some (.int (nI k))] 2 [] := by
    intro d
    induction d with
    | zero =>
      intro k hk hF
      refine r_iload_n C dX1_placeOfAll_2 rfl ?_
      refine r_aload_n C dX1_placeOfAll_3 rfl ?_
      refine p_get (v := .int (nI (f 4 j))) C 4 (by first | omega | (simp [up2, *]; done) | (simp [up2, *]; omega) | (simp only [up2_eq]; omega)) (by decide) qf_X1_29 rfl rfl dX1_placeOfAll_4 ?_
      refine r_iaddN C dX1_placeOfAll_7 ?_
      refine r_aload_n C dX1_placeOfAll_8 rfl ?_
      refine p_get (v := .int (nI (f 4 i))) C 4 (by first | omega | (simp [up2, *]; done) | (simp [up2, *]; omega) | (simp only [up2_eq]; omega)) (by decide) qf_X1_29 rfl rfl dX1_placeOfAll_9 ?_
      refine r_icN_gt (tgt := 32) C (by first | omega | (simp [up2, *]; done) | (simp [up2, *]; omega) | (simp only [up2_eq]; omega)) (by first | omega | (simp [up2, *]; done) | (simp [up2, *]; omega) | (simp only [up2_eq]; omega)) dX1_placeOfAll_12 (by decide) (fun h12_1 => ?_) (fun h12_1 => ?_)
      · first
        | exfalso; first | omega | contradiction
        | skip
          refine r_iconst (v := (nI 4294967295)) C dX1_placeOfAll_32 (by decide) ?_
          exact r_iret C hr dX1_placeOfAll_33 ⟨by rw [← hF]; simp [poF, *], rfl⟩ (Nat.le_of_ble_eq_true rfl) (Nat.le_of_ble_eq_true rfl)
      · first
        | exfalso; first | omega | contradiction
        | skip
          refine r_aload_n C dX1_placeOfAll_15 rfl ?_
          refine r_iload_n C dX1_placeOfAll_16 rfl ?_
          refine r_aload_n C dX1_placeOfAll_17 rfl ?_
          refine d_V (st := []) hX.stb C hE (C_standsAt (f := f) (r := r) (kn := kn) (i := i) (j := j) (k := k) hX (by first | omega | (simp [up2, *]; done) | (simp [up2, *]; omega) | (simp only [up2_eq]; omega)) (by first | omega | (simp [up2, *]; done) | (simp [up2, *]; omega) | (simp only [up2_eq]; omega)) (by first | omega | (simp [up2, *]; done) | (simp [up2, *]; omega) | (simp only [up2_eq]; omega)) (by first | omega | (simp [up2, *]; done) | (simp [up2, *]; omega) | (simp only [up2_eq]; omega)) (by first | omega | (simp [up2, *]; done) | (simp [up2, *]; omega) | (simp only [up2_eq]; omega)) (by first | omega | (simp [up2, *]; done) | (simp [up2, *]; omega) | (simp only [up2_eq]; omega))) pk_X1_standsAt qm_X1_65 (3 + i) 5 rfl rfl (wc_p (by first | omega | (simp [up2, *]; done) | (simp [up2, *]; omega) | (simp only [up2_eq]; omega))) rfl rfl (Nat.le_of_ble_eq_true rfl) dX1_placeOfAll_18 ⟨Nat.le_of_ble_eq_true rfl, Nat.le_of_ble_eq_true rfl⟩ ⟨Nat.le_of_ble_eq_true rfl, Nat.le_of_ble_eq_true rfl⟩ ?_
          refine r_ifN_eq (tgt := 26) C (Nat.lt_of_le_of_lt (stF_le _ _ _ _) (by decide)) dX1_placeOfAll_21 (by decide) (fun h21_2 => ?_) (fun h21_2 => ?_)
          · first
            | exfalso; first | omega | contradiction
            | skip
              refine r_iincN C dX1_placeOfAll_26 rfl (by decide) rfl ?_
              refine r_goto (tgt := 2) C dX1_placeOfAll_29 (by decide) ?_
              exact (Nat.not_lt_zero _ (by omega)).elim
          · first
            | exfalso; first | omega | contradiction
            | skip
              refine r_iload_n C dX1_placeOfAll_24 rfl ?_
              exact r_iret C hr dX1_placeOfAll_25 ⟨by rw [← hF]; simp [poF, *], rfl⟩ (Nat.le_of_ble_eq_true rfl) (Nat.le_of_ble_eq_true rfl)
    | succ d ih_L2 =>
      intro k hk hF
      refine r_iload_n C dX1_placeOfAll_2 rfl ?_
      refine r_aload_n C dX1_placeOfAll_3 rfl ?_
      refine p_get (v := .int (nI (f 4 j))) C 4 (by first | omega | (simp [up2, *]; done) | (simp [up2, *]; omega) | (simp only [up2_eq]; omega)) (by decide) qf_X1_29 rfl rfl dX1_placeOfAll_4 ?_
      refine r_iaddN C dX1_placeOfAll_7 ?_
      refine r_aload_n C dX1_placeOfAll_8 rfl ?_
      refine p_get (v := .int (nI (f 4 i))) C 4 (by first | omega | (simp [up2, *]; done) | (simp [up2, *]; omega) | (simp only [up2_eq]; omega)) (by decide) qf_X1_29 rfl rfl dX1_placeOfAll_9 ?_
      refine r_icN_gt (tgt := 32) C (by first | omega | (simp [up2, *]; done) | (simp [up2, *]; omega) | (simp only [up2_eq]; omega)) (by first | omega | (simp [up2, *]; done) | (simp [up2, *]; omega) | (simp only [up2_eq]; omega)) dX1_placeOfAll_12 (by decide) (fun h12_3 => ?_) (fun h12_3 => ?_)
      · first
        | exfalso; first | omega | contradiction
        | skip
          refine r_iconst (v := (nI 4294967295)) C dX1_placeOfAll_32 (by decide) ?_
          exact r_iret C hr dX1_placeOfAll_33 ⟨by rw [← hF]; simp [poF, *], rfl⟩ (Nat.le_of_ble_eq_true rfl) (Nat.le_of_ble_eq_true rfl)
      · first
        | exfalso; first | omega | contradiction
        | skip
          refine r_aload_n C dX1_placeOfAll_15 rfl ?_
          refine r_iload_n C dX1_placeOfAll_16 rfl ?_
          refine r_aload_n C dX1_placeOfAll_17 rfl ?_
          refine d_V (st := []) hX.stb C hE (C_standsAt (f := f) (r := r) (kn := kn) (i := i) (j := j) (k := k) hX (by first | omega | (simp [up2, *]; done) | (simp [up2, *]; omega) | (simp only [up2_eq]; omega)) (by first | omega | (simp [up2, *]; done) | (simp [up2, *]; omega) | (simp only [up2_eq]; omega)) (by first | omega | (simp [up2, *]; done) | (simp [up2, *]; omega) | (simp only [up2_eq]; omega)) (by first | omega | (simp [up2, *]; done) | (simp [up2, *]; omega) | (simp only [up2_eq]; omega)) (by first | omega | (simp [up2, *]; done) | (simp [up2, *]; omega) | (simp only [up2_eq]; omega)) (by first | omega | (simp [up2, *]; done) | (simp [up2, *]; omega) | (simp only [up2_eq]; omega))) pk_X1_standsAt qm_X1_65 (3 + i) 5 rfl rfl (wc_p (by first | omega | (simp [up2, *]; done) | (simp [up2, *]; omega) | (simp only [up2_eq]; omega))) rfl rfl (Nat.le_of_ble_eq_true rfl) dX1_placeOfAll_18 ⟨Nat.le_of_ble_eq_true rfl, Nat.le_of_ble_eq_true rfl⟩ ⟨Nat.le_of_ble_eq_true rfl, Nat.le_of_ble_eq_true rfl⟩ ?_
          refine r_ifN_eq (tgt := 26) C (Nat.lt_of_le_of_lt (stF_le _ _ _ _) (by decide)) dX1_placeOfAll_21 (by decide) (fun h21_4 => ?_) (fun h21_4 => ?_)
          · first
            | exfalso; first | omega | contradiction
            | skip
              refine r_iincN C dX1_placeOfAll_26 rfl (by decide) rfl ?_
              refine r_goto (tgt := 2) C dX1_placeOfAll_29 (by decide) ?_
              exact ih_L2 (k + 1) (by first | omega | (simp [up2, *]; done) | (simp [up2, *]; omega) | (simp only [up2_eq]; omega)) (by rw [← hF]; simp only [poF]; rw [if_pos (by assumption)])
          · first
            | exfalso; first | omega | contradiction
            | skip
              refine r_iload_n C dX1_placeOfAll_24 rfl ?_
              exact r_iret C hr dX1_placeOfAll_25 ⟨by rw [← hF]; simp [poF, *], rfl⟩ (Nat.le_of_ble_eq_true rfl) (Nat.le_of_ble_eq_true rfl)
  exact L2 (f 4 i + 1 - f 4 j) 0 (by first | omega | (simp [up2, *]; done) | (simp [up2, *]; omega) | (simp only [up2_eq]; omega)) rfl
