theorem dX1_has_6 : decode cX1_has 6 = .ok (.if_icmp .eq 7, 3) := by decide +kernel
theorem dX1_has_9 : decode cX1_has 9 = .ok (.iconst 1, 1) := by decide +kernel
theorem dX1_has_10 : decode cX1_has 10 = .ok (.goto 4, 3) := by decide +kernel
theorem dX1_has_13 : decode cX1_has 13 = .ok (.iconst 0, 1) := by decide +kernel
theorem dX1_has_14 : decode cX1_has 14 = .ok (.ireturn, 1) := by decide +kernel
set_option maxRecDepth 100000 in
set_option maxHeartbeats 4000000 in
theorem C_has {l : Launch} {D : va_G} {cy : Nat → ClassId} {X : (Nat → Prop) → State → Heap → Prop} {a f : Nat → Nat → Nat} {r : Nat → Nat → Int32} {kn : Int32} {Y : va_W} {i : Nat} {x : Int32} (hX : EnvX X) (hi : i < 11) (h0 : f 0 i < 7) (h4 : f 3 i + f 4 i ≤ 12) : Cd l D cy X yX1_has cX1_has 2 (some .boolean) (rmz 2 60) [.ref (a 1 i), .int x] (WC cy a f r kn ++ Y) (some (.int (nI (if fpF (fun q => r (f 0 i) (f 3 i + q)) x (f 4 i) 0 = 4294967295 then 0 else 1)))) (WC cy a f r kn ++ Y) := by
  refine Cm.of [some (.ref (a 1 i)), some (.int x)] (by decide +kernel) rfl (Nat.le_of_ble_eq_true rfl) ?_
  intro p e s m args below meth c A C hE hr hnt hn
  refine r_aload_n C dX1_has_0 rfl ?_
  refine r_iload_n C dX1_has_1 rfl ?_
  refine d_V (st := []) hX.stb C hE (C_firstPlaceOf (f := f) (r := r) (kn := kn) (i := i) (x := (x)) hX (by first | omega | (simp [up2, *]; done) | (simp [up2, *]; omega) | (simp only [up2_eq]; omega)) (by first | omega | (simp [up2, *]; done) | (simp [up2, *]; omega) | (simp only [up2_eq]; omega)) (by first | omega | (simp [up2, *]; done) | (simp [up2, *]; omega) | (simp only [up2_eq]; omega))) pk_X1_firstPlaceOf qm_X1_62 (3 + i) 5 rfl rfl (wc_p (by first | omega | (simp [up2, *]; done) | (simp [up2, *]; omega) | (simp only [up2_eq]; omega))) rfl rfl (Nat.le_of_ble_eq_true rfl) dX1_has_2 ⟨Nat.le_of_ble_eq_true rfl, Nat.le_of_ble_eq_true rfl⟩ ⟨Nat.le_of_ble_eq_true rfl, Nat.le_of_ble_eq_true rfl⟩ ?_
  refine r_iconst (v := (nI 4294967295)) C dX1_has_5 (by decide) ?_
  refine r_icN_eq (tgt := 13) C (fpF_b (by omega)) (by first | omega | (simp [up2, *]; done) | (simp [up2, *]; omega) | (simp only [up2_eq]; omega)) dX1_has_6 (by decide) (fun h6_1 => ?_) (fun h6_1 => ?_)
  · first
    | exfalso; first | omega | contradiction
    | skip
      refine r_iconst (v := (nI 0)) C dX1_has_13 (by decide) ?_
      exact r_zret C hr (by first | omega | (simp [up2, *]; done) | (simp [up2, *]; omega) | (simp only [up2_eq]; omega)) dX1_has_14 ⟨by first | rfl | (rw [if_pos (by assumption)] <;> rfl) | (rw [if_neg (by assumption)] <;> rfl), rfl⟩ (Nat.le_of_ble_eq_true rfl) (Nat.le_of_ble_eq_true rfl)
  · first
    | exfalso; first | omega | contradiction
    | skip
      refine r_iconst (v := (nI 1)) C dX1_has_9 (by decide) ?_
      refine r_goto (tgt := 14) C dX1_has_10 (by decide) ?_
      exact r_zret C hr (by first | omega | (simp [up2, *]; done) | (simp [up2, *]; omega) | (simp only [up2_eq]; omega)) dX1_has_14 ⟨by first | rfl | (rw [if_pos (by assumption)] <;> rfl) | (rw [if_neg (by assumption)] <;> rfl), rfl⟩ (Nat.le_of_ble_eq_true rfl) (Nat.le_of_ble_eq_true rfl)
theorem dX1_standsAt_0 : decode cX1_standsAt 0 = .ok (.iconst 0, 1) := by decide +kernel
theorem dX1_standsAt_1 : decode cX1_standsAt 1 = .ok (.istore_n 3, 1) := by decide +kernel
theorem dX1_standsAt_2 : decode cX1_standsAt 2 = .ok (.iload_n 3, 1) := by decide +kernel
theorem dX1_standsAt_3 : decode cX1_standsAt 3 = .ok (.aload_n 2, 1) := by decide +kernel
theorem dX1_standsAt_4 : decode cX1_standsAt 4 = .ok (.getfield 29, 3) := by decide +kernel
theorem dX1_standsAt_7 : decode cX1_standsAt 7 = .ok (.if_icmp .ge 26, 3) := by decide +kernel
theorem dX1_standsAt_10 : decode cX1_standsAt 10 = .ok (.aload_n 0, 1) := by decide +kernel
theorem dX1_standsAt_11 : decode cX1_standsAt 11 = .ok (.iload_n 1, 1) := by decide +kernel
theorem dX1_standsAt_12 : decode cX1_standsAt 12 = .ok (.iload_n 3, 1) := by decide +kernel
theorem dX1_standsAt_13 : decode cX1_standsAt 13 = .ok (.iadd, 1) := by decide +kernel
theorem dX1_standsAt_14 : decode cX1_standsAt 14 = .ok (.invokevirtual 32, 3) := by decide +kernel
theorem dX1_standsAt_17 : decode cX1_standsAt 17 = .ok (.aload_n 2, 1) := by decide +kernel
theorem dX1_standsAt_18 : decode cX1_standsAt 18 = .ok (.iload_n 3, 1) := by decide +kernel
theorem dX1_standsAt_19 : decode cX1_standsAt 19 = .ok (.invokevirtual 32, 3) := by decide +kernel
theorem dX1_standsAt_22 : decode cX1_standsAt 22 = .ok (.if_icmp .eq 5, 3) := by decide +kernel
theorem dX1_standsAt_25 : decode cX1_standsAt 25 = .ok (.iconst 0, 1) := by decide +kernel
theorem dX1_standsAt_26 : decode cX1_standsAt 26 = .ok (.ireturn, 1) := by decide +kernel
theorem dX1_standsAt_27 : decode cX1_standsAt 27 = .ok (.iinc 3 1, 3) := by decide +kernel
theorem dX1_standsAt_30 : decode cX1_standsAt 30 = .ok (.goto (-28), 3) := by decide +kernel
theorem dX1_standsAt_33 : decode cX1_standsAt 33 = .ok (.iconst 1, 1) := by decide +kernel
theorem dX1_standsAt_34 : decode cX1_standsAt 34 = .ok (.ireturn, 1) := by decide +kernel
set_option maxRecDepth 100000 in
set_option maxHeartbeats 4000000 in
theorem C_standsAt {l : Launch} {D : va_G} {cy : Nat → ClassId} {X : (Nat → Prop) → State → Heap → Prop} {a f : Nat → Nat → Nat} {r : Nat → Nat → Int32} {kn : Int32} {Y : va_W} {i : Nat} {j : Nat} {k : Nat} (hX : EnvX X) (hi : i < 11) (hj : j < 11) (h0 : f 0 i < 7) (h0j : f 0 j < 7) (h4j : f 3 j + f 4 j ≤ 12) (hk : f 3 i + k + f 4 j ≤ 12) : Cd l D cy X yX1_standsAt cX1_standsAt 4 (some .boolean) (rmz 1 30) [.ref (a 1 i), .int (nI k), .ref (a 1 j)] (WC cy a f r kn ++ Y) (some (.int (nI (stF (fun q => r (f 0 i) (f 3 i + (k + q))) (fun q => r (f 0 j) (f 3 j + q)) (f 4 j) 0)))) (WC cy a f r kn ++ Y) := by
  refine Cm.of [some (.ref (a 1 i)), some (.int (nI k)), some (.ref (a 1 j)), none] (by decide +kernel) rfl (Nat.le_of_ble_eq_true rfl) ?_
  intro p e s m args below meth c A C hE hr hnt hn
  refine r_iconst (v := (nI 0)) C dX1_standsAt_0 (by decide) ?_
  refine r_istore_n C dX1_standsAt_1 (by decide) rfl ?_
  have L2 : ∀ (d : Nat) (t : Nat), (ht : t + d = f 4 j) → (hF : stF (fun q => r (f 0 i) (f 3 i + (k + q))) (fun q => r (f 0 j) (f 3 j + q)) d t = stF (fun q => r (f 0 i) (f 3 i + (k + q))) (fun q => r (f 0 j) (f 3 j + q)) (f 4 j) 0) → vC p l e (rmz 1 30) s m args below meth c D A (vx_MQ below (vG (fun v1 w1 => v1 = (some (.int (nI (stF (fun q => r (f 0 i) (f 3 i + (k + q))) (fun q => r (f 0 j) (f 3 j + q)) (f 4 j) 0)))) ∧ w1 = WC cy a f r kn ++ Y) D vwCl A) (vGX (fun _ => False) D vwCl (WC cy a f r kn ++ Y) A) args s (rmz 1 30).cells (rmz 1 30).slots A) 4 0 0 (WC cy a f r kn ++ Y) [some (.ref (a 1 i)), some (.int (nI k)), some (.ref (a 1 j)), some (.int (nI t))] 2 [] := by
    intro d
    induction d with
    | zero =>
      intro t ht hF
      refine r_iload_n C dX1_standsAt_2 rfl ?_
      refine r_aload_n C dX1_standsAt_3 rfl ?_
      refine p_get (v := .int (nI (f 4 j))) C 4 (by first | omega | (simp [up2, *]; done) | (simp [up2, *]; omega) | (simp only [up2_eq]; omega)) (by decide) qf_X1_29 rfl rfl dX1_standsAt_4 ?_
      refine r_icN_ge (tgt := 33) C (by first | omega | (simp [up2, *]; done) | (simp [up2, *]; omega) | (simp only [up2_eq]; omega)) (by first | omega | (simp [up2, *]; done) | (simp [up2, *]; omega) | (simp only [up2_eq]; omega)) dX1_standsAt_7 (by decide) (fun h7_1 => ?_) (fun h7_1 => ?_)
      · first
        | exfalso; first | omega | contradiction
        | skip
          refine r_iconst (v := (nI 1)) C dX1_standsAt_33 (by decide) ?_
          exact r_zret C hr (by first | omega | (simp [up2, *]; done) | (simp [up2, *]; omega) | (simp only [up2_eq]; omega)) dX1_standsAt_34 ⟨by rw [← hF]; simp [stF, *], rfl⟩ (Nat.le_of_ble_eq_true rfl) (Nat.le_of_ble_eq_true rfl)
      · first
        | exfalso; first | omega | contradiction
        | skip
          refine r_aload_n C dX1_standsAt_10 rfl ?_
          refine r_iload_n C dX1_standsAt_11 rfl ?_
          refine r_iload_n C dX1_standsAt_12 rfl ?_
          refine r_iaddN C dX1_standsAt_13 ?_
          refine d_V (st := []) hX.stb C hE (C_itemAt (f := f) (r := r) (kn := kn) (i := i) (k := (k + t)) hX (by first | omega | (simp [up2, *]; done) | (simp [up2, *]; omega) | (simp only [up2_eq]; omega)) (by first | omega | (simp [up2, *]; done) | (simp [up2, *]; omega) | (simp only [up2_eq]; omega)) (by first | omega | (simp [up2, *]; done) | (simp [up2, *]; omega) | (simp only [up2_eq]; omega))) pk_X1_itemAt qm_X1_32 (3 + i) 5 rfl rfl (wc_p (by first | omega | (simp [up2, *]; done) | (simp [up2, *]; omega) | (simp only [up2_eq]; omega))) rfl rfl (Nat.le_of_ble_eq_true rfl) dX1_standsAt_14 ⟨Nat.le_of_ble_eq_true rfl, Nat.le_of_ble_eq_true rfl⟩ ⟨Nat.le_of_ble_eq_true rfl, Nat.le_of_ble_eq_true rfl⟩ ?_
          refine r_aload_n C dX1_standsAt_17 rfl ?_
          refine r_iload_n C dX1_standsAt_18 rfl ?_
          refine d_V (st := [.int (r (f 0 i) (f 3 i + (k + t)))]) hX.stb C hE (C_itemAt (f := f) (r := r) (kn := kn) (i := j) (k := t) hX (by first | omega | (simp [up2, *]; done) | (simp [up2, *]; omega) | (simp only [up2_eq]; omega)) (by first | omega | (simp [up2, *]; done) | (simp [up2, *]; omega) | (simp only [up2_eq]; omega)) (by first | omega | (simp [up2, *]; done) | (simp [up2, *]; omega) | (simp only [up2_eq]; omega))) pk_X1_itemAt qm_X1_32 (3 + j) 5 rfl rfl (wc_p (by first | omega | (simp [up2, *]; done) | (simp [up2, *]; omega) | (simp only [up2_eq]; omega))) rfl rfl (Nat.le_of_ble_eq_true rfl) dX1_standsAt_19 ⟨Nat.le_of_ble_eq_true rfl, Nat.le_of_ble_eq_true rfl⟩ ⟨Nat.le_of_ble_eq_true rfl, Nat.le_of_ble_eq_true rfl⟩ ?_
          refine r_ic_eq (tgt := 27) C dX1_standsAt_22 (by decide) (fun h22_2 => ?_) (fun h22_2 => ?_)
          · first
            | exfalso; first | omega | contradiction
            | skip
              refine r_iincN C dX1_standsAt_27 rfl (by decide) rfl ?_
              refine r_goto (tgt := 2) C dX1_standsAt_30 (by decide) ?_
              exact (Nat.not_lt_zero _ (by omega)).elim
          · first
            | exfalso; first | omega | contradiction
            | skip
              refine r_iconst (v := (nI 0)) C dX1_standsAt_25 (by decide) ?_
              exact r_zret C hr (by first | omega | (simp [up2, *]; done) | (simp [up2, *]; omega) | (simp only [up2_eq]; omega)) dX1_standsAt_26 ⟨by rw [← hF]; simp [stF, *], rfl⟩ (Nat.le_of_ble_eq_true rfl) (Nat.le_of_ble_eq_true rfl)
    | succ d ih_L2 =>
      intro t ht hF
      refine r_iload_n C dX1_standsAt_2 rfl ?_
      refine r_aload_n C dX1_standsAt_3 rfl ?_
      refine p_get (v := .int (nI (f 4 j))) C 4 (by first | omega | (simp [up2, *]; done) | (simp [up2, *]; omega) | (simp only [up2_eq]; omega)) (by decide) qf_X1_29 rfl rfl dX1_standsAt_4 ?_
      refine r_icN_ge (tgt := 33) C (by first | omega | (simp [up2, *]; done) | (simp [up2, *]; omega) | (simp only [up2_eq]; omega)) (by first | omega | (simp [up2, *]; done) | (simp [up2, *]; omega) | (simp only [up2_eq]; omega)) dX1_standsAt_7 (by decide) (fun h7_3 => ?_) (fun h7_3 => ?_)
      · first
        | exfalso; first | omega | contradiction
        | skip
          refine r_iconst (v := (nI 1)) C dX1_standsAt_33 (by decide) ?_
          exact r_zret C hr (by first | omega | (simp [up2, *]; done) | (simp [up2, *]; omega) | (simp only [up2_eq]; omega)) dX1_standsAt_34 ⟨by rw [← hF]; simp [stF, *], rfl⟩ (Nat.le_of_ble_eq_true rfl) (Nat.le_of_ble_eq_true rfl)
      · first
        | exfalso; first | omega | contradiction
        | skip
          refine r_aload_n C dX1_standsAt_10 rfl ?_
          refine r_iload_n C dX1_standsAt_11 rfl ?_
          refine r_iload_n C dX1_standsAt_12 rfl ?_
          refine r_iaddN C dX1_standsAt_13 ?_
          refine d_V (st := []) hX.stb C hE (C_itemAt (f := f) (r := r) (kn := kn) (i := i) (k := (k + t)) hX (by first | omega | (simp [up2, *]; done) | (simp [up2, *]; omega) | (simp only [up2_eq]; omega)) (by first | omega | (simp [up2, *]; done) | (simp [up2, *]; omega) | (simp only [up2_eq]; omega)) (by first | omega | (simp [up2, *]; done) | (simp [up2, *]; omega) | (simp only [up2_eq]; omega))) pk_X1_itemAt qm_X1_32 (3 + i) 5 rfl rfl (wc_p (by first | omega | (simp [up2, *]; done) | (simp [up2, *]; omega) | (simp only [up2_eq]; omega))) rfl rfl (Nat.le_of_ble_eq_true rfl) dX1_standsAt_14 ⟨Nat.le_of_ble_eq_true rfl, Nat.le_of_ble_eq_true rfl⟩ ⟨Nat.le_of_ble_eq_true rfl, Nat.le_of_ble_eq_true rfl⟩ ?_
          refine r_aload_n C dX1_standsAt_17 rfl ?_
          refine r_iload_n C dX1_standsAt_18 rfl ?_
          refine d_V (st := [.int (r (f 0 i) (f 3 i + (k + t)))]) hX.stb C hE (C_itemAt (f := f) (r := r) (kn := kn) (i := j) (k := t) hX (by first | omega | (simp [up2, *]; done) | (simp [up2, *]; omega) | (simp only [up2_eq]; omega)) (by first | omega | (simp [up2, *]; done) | (simp [up2, *]; omega) | (simp only [up2_eq]; omega)) (by first | omega | (simp [up2, *]; done) | (simp [up2, *]; omega) | (simp only [up2_eq]; omega))) pk_X1_itemAt qm_X1_32 (3 + j) 5 rfl rfl (wc_p (by first | omega | (simp [up2, *]; done) | (simp [up2, *]; omega) | (simp only [up2_eq]; omega))) rfl rfl (Nat.le_of_ble_eq_true rfl) dX1_standsAt_19 ⟨Nat.le_of_ble_eq_true rfl, Nat.le_of_ble_eq_true rfl⟩ ⟨Nat.le_of_ble_eq_true rfl, Nat.le_of_ble_eq_true rfl⟩ ?_
          refine r_ic_eq (tgt := 27) C dX1_standsAt_22 (by decide) (fun h22_4 => ?_) (fun h22_4 => ?_)
          · first
            | exfalso; first | omega | contradiction
            | skip
              refine r_iincN C dX1_standsAt_27 rfl (by decide) rfl ?_
              refine r_goto (tgt := 2) C dX1_standsAt_30 (by decide) ?_
              exact ih_L2 (t + 1) (by first | omega | (simp [up2, *]; done) | (simp [up2, *]; omega) | (simp only [up2_eq]; omega)) (by rw [← hF]; simp only [stF]; rw [if_pos (by assumption)])
          · first
            | exfalso; first | omega | contradiction
            | skip
              refine r_iconst (v := (nI 0)) C dX1_standsAt_25 (by decide) ?_
              exact r_zret C hr (by first | omega | (simp [up2, *]; done) | (simp [up2, *]; omega) | (simp only [up2_eq]; omega)) dX1_standsAt_26 ⟨by rw [← hF]; simp [stF, *], rfl⟩ (Nat.le_of_ble_eq_true rfl) (Nat.le_of_ble_eq_true rfl)
  exact L2 (f 4 j) 0 (by first | omega | (simp [up2, *]; done) | (simp [up2, *]; omega) | (simp only [up2_eq]; omega)) rfl
