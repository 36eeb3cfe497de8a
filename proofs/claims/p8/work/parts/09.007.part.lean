theorem dX1_isLike_0 : decode cX1_isLike 0 = .ok (.aload_n 0, 1) := by decide +kernel
theorem dX1_isLike_1 : decode cX1_isLike 1 = .ok (.getfield 29, 3) := by decide +kernel
theorem dX1_isLike_4 : decode cX1_isLike 4 = .ok (.aload_n 1, 1) := by decide +kernel
theorem dX1_isLike_5 : decode cX1_isLike 5 = .ok (.getfield 29, 3) := by decide +kernel
theorem dX1_isLike_8 : decode cX1_isLike 8 = .ok (.if_icmp .ne 16, 3) := by decide +kernel
theorem dX1_isLike_11 : decode cX1_isLike 11 = .ok (.aload_n 0, 1) := by decide +kernel
theorem dX1_isLike_12 : decode cX1_isLike 12 = .ok (.iconst 0, 1) := by decide +kernel
theorem dX1_isLike_13 : decode cX1_isLike 13 = .ok (.aload_n 1, 1) := by decide +kernel
theorem dX1_isLike_14 : decode cX1_isLike 14 = .ok (.invokevirtual 65, 3) := by decide +kernel
theorem dX1_isLike_17 : decode cX1_isLike 17 = .ok (.ifCond .eq 7, 3) := by decide +kernel
theorem dX1_isLike_20 : decode cX1_isLike 20 = .ok (.iconst 1, 1) := by decide +kernel
theorem dX1_isLike_21 : decode cX1_isLike 21 = .ok (.goto 4, 3) := by decide +kernel
theorem dX1_isLike_24 : decode cX1_isLike 24 = .ok (.iconst 0, 1) := by decide +kernel
theorem dX1_isLike_25 : decode cX1_isLike 25 = .ok (.ireturn, 1) := by decide +kernel
set_option maxRecDepth 100000 in
set_option maxHeartbeats 4000000 in
theorem C_isLike {l : Launch} {D : va_G} {cy : Nat → ClassId} {X : (Nat → Prop) → State → Heap → Prop} {a f : Nat → Nat → Nat} {r : Nat → Nat → Int32} {kn : Int32} {Y : va_W} {i : Nat} {j : Nat} (hX : EnvX X) (hi : i < 11) (hj : j < 11) (h0 : f 0 i < 7) (h0j : f 0 j < 7) (h4 : f 3 i + f 4 i ≤ 12) (h4j : f 3 j + f 4 j ≤ 12) : Cd l D cy X yX1_isLike cX1_isLike 2 (some .boolean) (rmz 2 60) [.ref (a 1 i), .ref (a 1 j)] (WC cy a f r kn ++ Y) (some (.int (nI (if f 4 i = f 4 j ∧ stF (fun q => r (f 0 i) (f 3 i + (0 + q))) (fun q => r (f 0 j) (f 3 j + q)) (f 4 j) 0 ≠ 0 then 1 else 0)))) (WC cy a f r kn ++ Y) := by
  refine Cm.of [some (.ref (a 1 i)), some (.ref (a 1 j))] (by decide +kernel) rfl (Nat.le_of_ble_eq_true rfl) ?_
  intro p e s m args below meth c A C hE hr hnt hn
  refine r_aload_n C dX1_isLike_0 rfl ?_
  refine p_get (v := .int (nI (f 4 i))) C 4 (by first | omega | (simp [up2, *]; done) | (simp [up2, *]; omega) | (simp only [up2_eq]; omega)) (by decide) qf_X1_29 rfl rfl dX1_isLike_1 ?_
  refine r_aload_n C dX1_isLike_4 rfl ?_
  refine p_get (v := .int (nI (f 4 j))) C 4 (by first | omega | (simp [up2, *]; done) | (simp [up2, *]; omega) | (simp only [up2_eq]; omega)) (by decide) qf_X1_29 rfl rfl dX1_isLike_5 ?_
  refine r_icN_ne (tgt := 24) C (by first | omega | (simp [up2, *]; done) | (simp [up2, *]; omega) | (simp only [up2_eq]; omega)) (by first | omega | (simp [up2, *]; done) | (simp [up2, *]; omega) | (simp only [up2_eq]; omega)) dX1_isLike_8 (by decide) (fun h8_1 => ?_) (fun h8_1 => ?_)
  · first
    | exfalso; first | omega | contradiction
    | skip
      refine r_iconst (v := (nI 0)) C dX1_isLike_24 (by decide) ?_
      exact r_zret C hr (by first | omega | (simp [up2, *]; done) | (simp [up2, *]; omega) | (simp only [up2_eq]; omega)) dX1_isLike_25 ⟨by first | rw [if_pos ⟨by assumption, by assumption⟩] | rw [if_neg (fun z => z.2 (by assumption))] | rw [if_neg (fun z => absurd z.1 (by assumption))], rfl⟩ (Nat.le_of_ble_eq_true rfl) (Nat.le_of_ble_eq_true rfl)
  · first
    | exfalso; first | omega | contradiction
    | skip
      refine r_aload_n C dX1_isLike_11 rfl ?_
      refine r_iconst (v := (nI 0)) C dX1_isLike_12 (by decide) ?_
      refine r_aload_n C dX1_isLike_13 rfl ?_
      refine d_V (st := []) hX.stb C hE (C_standsAt (f := f) (r := r) (kn := kn) (i := i) (j := j) (k := 0) hX (by first | omega | (simp [up2, *]; done) | (simp [up2, *]; omega) | (simp only [up2_eq]; omega)) (by first | omega | (simp [up2, *]; done) | (simp [up2, *]; omega) | (simp only [up2_eq]; omega)) (by first | omega | (simp [up2, *]; done) | (simp [up2, *]; omega) | (simp only [up2_eq]; omega)) (by first | omega | (simp [up2, *]; done) | (simp [up2, *]; omega) | (simp only [up2_eq]; omega)) (by first | omega | (simp [up2, *]; done) | (simp [up2, *]; omega) | (simp only [up2_eq]; omega)) (by first | omega | (simp [up2, *]; done) | (simp [up2, *]; omega) | (simp only [up2_eq]; omega))) pk_X1_standsAt qm_X1_65 (3 + i) 5 rfl rfl (wc_p (by first | omega | (simp [up2, *]; done) | (simp [up2, *]; omega) | (simp only [up2_eq]; omega))) rfl rfl (Nat.le_of_ble_eq_true rfl) dX1_isLike_14 ⟨Nat.le_of_ble_eq_true rfl, Nat.le_of_ble_eq_true rfl⟩ ⟨Nat.le_of_ble_eq_true rfl, Nat.le_of_ble_eq_true rfl⟩ ?_
      refine r_ifN_eq (tgt := 24) C (Nat.lt_of_le_of_lt (stF_le _ _ _ _) (by decide)) dX1_isLike_17 (by decide) (fun h17_2 => ?_) (fun h17_2 => ?_)
      · first
        | exfalso; first | omega | contradiction
        | skip
          refine r_iconst (v := (nI 0)) C dX1_isLike_24 (by decide) ?_
          exact r_zret C hr (by first | omega | (simp [up2, *]; done) | (simp [up2, *]; omega) | (simp only [up2_eq]; omega)) dX1_isLike_25 ⟨by first | rw [if_pos ⟨by assumption, by assumption⟩] | rw [if_neg (fun z => z.2 (by assumption))] | rw [if_neg (fun z => absurd z.1 (by assumption))], rfl⟩ (Nat.le_of_ble_eq_true rfl) (Nat.le_of_ble_eq_true rfl)
      · first
        | exfalso; first | omega | contradiction
        | skip
          refine r_iconst (v := (nI 1)) C dX1_isLike_20 (by decide) ?_
          refine r_goto (tgt := 25) C dX1_isLike_21 (by decide) ?_
          exact r_zret C hr (by first | omega | (simp [up2, *]; done) | (simp [up2, *]; omega) | (simp only [up2_eq]; omega)) dX1_isLike_25 ⟨by first | rw [if_pos ⟨by assumption, by assumption⟩] | rw [if_neg (fun z => z.2 (by assumption))] | rw [if_neg (fun z => absurd z.1 (by assumption))], rfl⟩ (Nat.le_of_ble_eq_true rfl) (Nat.le_of_ble_eq_true rfl)
theorem dX1_hashOfItems_0 : decode cX1_hashOfItems 0 = .ok (.iconst 1, 1) := by decide +kernel
theorem dX1_hashOfItems_1 : decode cX1_hashOfItems 1 = .ok (.istore_n 1, 1) := by decide +kernel
theorem dX1_hashOfItems_2 : decode cX1_hashOfItems 2 = .ok (.iconst 0, 1) := by decide +kernel
theorem dX1_hashOfItems_3 : decode cX1_hashOfItems 3 = .ok (.istore_n 2, 1) := by decide +kernel
theorem dX1_hashOfItems_4 : decode cX1_hashOfItems 4 = .ok (.iload_n 2, 1) := by decide +kernel
theorem dX1_hashOfItems_5 : decode cX1_hashOfItems 5 = .ok (.aload_n 0, 1) := by decide +kernel
theorem dX1_hashOfItems_6 : decode cX1_hashOfItems 6 = .ok (.getfield 29, 3) := by decide +kernel
theorem dX1_hashOfItems_9 : decode cX1_hashOfItems 9 = .ok (.if_icmp .ge 20, 3) := by decide +kernel
theorem dX1_hashOfItems_12 : decode cX1_hashOfItems 12 = .ok (.bipush 31, 2) := by decide +kernel
theorem dX1_hashOfItems_14 : decode cX1_hashOfItems 14 = .ok (.iload_n 1, 1) := by decide +kernel
theorem dX1_hashOfItems_15 : decode cX1_hashOfItems 15 = .ok (.imul, 1) := by decide +kernel
theorem dX1_hashOfItems_16 : decode cX1_hashOfItems 16 = .ok (.aload_n 0, 1) := by decide +kernel
theorem dX1_hashOfItems_17 : decode cX1_hashOfItems 17 = .ok (.iload_n 2, 1) := by decide +kernel
theorem dX1_hashOfItems_18 : decode cX1_hashOfItems 18 = .ok (.invokevirtual 32, 3) := by decide +kernel
theorem dX1_hashOfItems_21 : decode cX1_hashOfItems 21 = .ok (.iadd, 1) := by decide +kernel
theorem dX1_hashOfItems_22 : decode cX1_hashOfItems 22 = .ok (.istore_n 1, 1) := by decide +kernel
theorem dX1_hashOfItems_23 : decode cX1_hashOfItems 23 = .ok (.iinc 2 1, 3) := by decide +kernel
theorem dX1_hashOfItems_26 : decode cX1_hashOfItems 26 = .ok (.goto (-22), 3) := by decide +kernel
theorem dX1_hashOfItems_29 : decode cX1_hashOfItems 29 = .ok (.iload_n 1, 1) := by decide +kernel
theorem dX1_hashOfItems_30 : decode cX1_hashOfItems 30 = .ok (.ireturn, 1) := by decide +kernel
set_option maxRecDepth 100000 in
set_option maxHeartbeats 4000000 in
theorem C_hashOfItems {l : Launch} {D : va_G} {cy : Nat → ClassId} {X : (Nat → Prop) → State → Heap → Prop} {a f : Nat → Nat → Nat} {r : Nat → Nat → Int32} {kn : Int32} {Y : va_W} {i : Nat} (hX : EnvX X) (hi : i < 11) (h0 : f 0 i < 7) (h4 : f 3 i + f 4 i ≤ 12) : Cd l D cy X yX1_hashOfItems cX1_hashOfItems 3 (some .int) (rmz 1 30) [.ref (a 1 i)] (WC cy a f r kn ++ Y) (some (.int (hsF (fun q => r (f 0 i) (f 3 i + q)) (f 4 i) 0 (nI 1)))) (WC cy a f r kn ++ Y) := by
  refine Cm.of [some (.ref (a 1 i)), none, none] (by decide +kernel) rfl (Nat.le_of_ble_eq_true rfl) ?_
  intro p e s m args below meth c A C hE hr hnt hn
  refine r_iconst (v := (nI 1)) C dX1_hashOfItems_0 (by decide) ?_
  refine r_istore_n C dX1_hashOfItems_1 (by decide) rfl ?_
  refine r_iconst (v := (nI 0)) C dX1_hashOfItems_2 (by decide) ?_
  refine r_istore_n C dX1_hashOfItems_3 (by decide) rfl ?_
  have L4 : ∀ (d : Nat) (k : Nat) (h : Int32), (hk : k + d = f 4 i) → (hF : hsF (fun q => r (f 0 i) (f 3 i + q)) d k h = hsF (fun q => r (f 0 i) (f 3 i + q)) (f 4 i) 0 (nI 1)) → vC p l e (rmz 1 30) s m args below meth c D A (vx_MQ below (vG (fun v1 w1 => v1 = (some (.int (hsF (fun q => r (f 0 i) (f 3 i + q)) (f 4 i) 0 (nI 1)))) ∧ w1 = WC cy a f r kn ++ Y) D vwCl A) (vGX (fun _ => False) D vwCl (WC cy a f r kn ++ Y) A) args s (rmz 1 30).cells (rmz 1 30).slots A) 3 0 0 (WC cy a f r kn ++ Y) [some (.ref (a 1 i)), some (.int h), some (.int (nI k))] 4 [] := by
    intro d
    induction d with
    | zero =>
      intro k h hk hF
      refine r_iload_n C dX1_hashOfItems_4 rfl ?_
      refine r_aload_n C dX1_hashOfItems_5 rfl ?_
      refine p_get (v := .int (nI (f 4 i))) C 4 (by first | omega | (simp [up2, *]; done) | (simp [up2, *]; omega) | (simp only [up2_eq]; omega)) (by decide) qf_X1_29 rfl rfl dX1_hashOfItems_6 ?_
      refine r_icN_ge (tgt := 29) C (by first | omega | (simp [up2, *]; done) | (simp [up2, *]; omega) | (simp only [up2_eq]; omega)) (by first | omega | (simp [up2, *]; done) | (simp [up2, *]; omega) | (simp only [up2_eq]; omega)) dX1_hashOfItems_9 (by decide) (fun h9_1 => ?_) (fun h9_1 => ?_)
      · first
        | exfalso; first | omega | contradiction
        | skip
          refine r_iload_n C dX1_hashOfItems_29 rfl ?_
          exact r_iret C hr dX1_hashOfItems_30 ⟨by rw [← hF]; rfl, rfl⟩ (Nat.le_of_ble_eq_true rfl) (Nat.le_of_ble_eq_true rfl)
      · first
        | exfalso; first | omega | contradiction
        | skip
          refine r_bipush (v := (nI 31)) C dX1_hashOfItems_12 (by decide) ?_
          refine r_iload_n C dX1_hashOfItems_14 rfl ?_
          refine r_imul C dX1_hashOfItems_15 ?_
          refine r_aload_n C dX1_hashOfItems_16 rfl ?_
          refine r_iload_n C dX1_hashOfItems_17 rfl ?_
          refine d_V (st := [.int ((nI 31) * h)]) hX.stb C hE (C_itemAt (f := f) (r := r) (kn := kn) (i := i) (k := k) hX (by first | omega | (simp [up2, *]; done) | (simp [up2, *]; omega) | (simp only [up2_eq]; omega)) (by first | omega | (simp [up2, *]; done) | (simp [up2, *]; omega) | (simp only [up2_eq]; omega)) (by first | omega | (simp [up2, *]; done) | (simp [up2, *]; omega) | (simp only [up2_eq]; omega))) pk_X1_itemAt qm_X1_32 (3 + i) 5 rfl rfl (wc_p (by first | omega | (simp [up2, *]; done) | (simp [up2, *]; omega) | (simp only [up2_eq]; omega))) rfl rfl (Nat.le_of_ble_eq_true rfl) dX1_hashOfItems_18 ⟨Nat.le_of_ble_eq_true rfl, Nat.le_of_ble_eq_true rfl⟩ ⟨Nat.le_of_ble_eq_true rfl, Nat.le_of_ble_eq_true rfl⟩ ?_
          refine r_iadd C dX1_hashOfItems_21 ?_
          refine r_istore_n C dX1_hashOfItems_22 (by decide) rfl ?_
          refine r_iincN C dX1_hashOfItems_23 rfl (by decide) rfl ?_
          refine r_goto (tgt := 4) C dX1_hashOfItems_26 (by decide) ?_
          exact (Nat.not_lt_zero _ (by omega)).elim
    | succ d ih_L4 =>
      intro k h hk hF
      refine r_iload_n C dX1_hashOfItems_4 rfl ?_
      refine r_aload_n C dX1_hashOfItems_5 rfl ?_
      refine p_get (v := .int (nI (f 4 i))) C 4 (by first | omega | (simp [up2, *]; done) | (simp [up2, *]; omega) | (simp only [up2_eq]; omega)) (by decide) qf_X1_29 rfl rfl dX1_hashOfItems_6 ?_
      refine r_icN_ge (tgt := 29) C (by first | omega | (simp [up2, *]; done) | (simp [up2, *]; omega) | (simp only [up2_eq]; omega)) (by first | omega | (simp [up2, *]; done) | (simp [up2, *]; omega) | (simp only [up2_eq]; omega)) dX1_hashOfItems_9 (by decide) (fun h9_2 => ?_) (fun h9_2 => ?_)
      · first
        | exfalso; first | omega | contradiction
        | skip
          refine r_iload_n C dX1_hashOfItems_29 rfl ?_
          exact r_iret C hr dX1_hashOfItems_30 ⟨by rw [← hF]; rfl, rfl⟩ (Nat.le_of_ble_eq_true rfl) (Nat.le_of_ble_eq_true rfl)
      · first
        | exfalso; first | omega | contradiction
        | skip
          refine r_bipush (v := (nI 31)) C dX1_hashOfItems_12 (by decide) ?_
          refine r_iload_n C dX1_hashOfItems_14 rfl ?_
          refine r_imul C dX1_hashOfItems_15 ?_
          refine r_aload_n C dX1_hashOfItems_16 rfl ?_
          refine r_iload_n C dX1_hashOfItems_17 rfl ?_
          refine d_V (st := [.int ((nI 31) * h)]) hX.stb C hE (C_itemAt (f := f) (r := r) (kn := kn) (i := i) (k := k) hX (by first | omega | (simp [up2, *]; done) | (simp [up2, *]; omega) | (simp only [up2_eq]; omega)) (by first | omega | (simp [up2, *]; done) | (simp [up2, *]; omega) | (simp only [up2_eq]; omega)) (by first | omega | (simp [up2, *]; done) | (simp [up2, *]; omega) | (simp only [up2_eq]; omega))) pk_X1_itemAt qm_X1_32 (3 + i) 5 rfl rfl (wc_p (by first | omega | (simp [up2, *]; done) | (simp [up2, *]; omega) | (simp only [up2_eq]; omega))) rfl rfl (Nat.le_of_ble_eq_true rfl) dX1_hashOfItems_18 ⟨Nat.le_of_ble_eq_true rfl, Nat.le_of_ble_eq_true rfl⟩ ⟨Nat.le_of_ble_eq_true rfl, Nat.le_of_ble_eq_true rfl⟩ ?_
          refine r_iadd C dX1_hashOfItems_21 ?_
          refine r_istore_n C dX1_hashOfItems_22 (by decide) rfl ?_
          refine r_iincN C dX1_hashOfItems_23 rfl (by decide) rfl ?_
          refine r_goto (tgt := 4) C dX1_hashOfItems_26 (by decide) ?_
          exact ih_L4 (k + 1) _ (by first | omega | (simp [up2, *]; done) | (simp [up2, *]; omega) | (simp only [up2_eq]; omega)) (by rw [← hF]; rfl)
  exact L4 (f 4 i) 0 _ (by first | omega | (simp [up2, *]; done) | (simp [up2, *]; omega) | (simp only [up2_eq]; omega)) rfl
