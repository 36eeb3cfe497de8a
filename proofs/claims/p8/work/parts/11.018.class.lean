theorem dX2_isHolder_17 : decode cX2_isHolder 17 = .ok (.iload_n 3, 1) := by decide +kernel
theorem dX2_isHolder_18 : decode cX2_isHolder 18 = .ok (.iload_n 1, 1) := by decide +kernel
theorem dX2_isHolder_19 : decode cX2_isHolder 19 = .ok (.if_icmp .ne 5, 3) := by decide +kernel
theorem dX2_isHolder_22 : decode cX2_isHolder 22 = .ok (.iconst 1, 1) := by decide +kernel
theorem dX2_isHolder_23 : decode cX2_isHolder 23 = .ok (.ireturn, 1) := by decide +kernel
theorem dX2_isHolder_24 : decode cX2_isHolder 24 = .ok (.aload_n 0, 1) := by decide +kernel
theorem dX2_isHolder_25 : decode cX2_isHolder 25 = .ok (.getfield 11, 3) := by decide +kernel
theorem dX2_isHolder_28 : decode cX2_isHolder 28 = .ok (.iload_n 3, 1) := by decide +kernel
theorem dX2_isHolder_29 : decode cX2_isHolder 29 = .ok (.aaload, 1) := by decide +kernel
theorem dX2_isHolder_30 : decode cX2_isHolder 30 = .ok (.getfield 204, 3) := by decide +kernel
theorem dX2_isHolder_33 : decode cX2_isHolder 33 = .ok (.istore_n 3, 1) := by decide +kernel
theorem dX2_isHolder_34 : decode cX2_isHolder 34 = .ok (.iinc 4 1, 3) := by decide +kernel
theorem dX2_isHolder_37 : decode cX2_isHolder 37 = .ok (.goto (-32), 3) := by decide +kernel
theorem dX2_isHolder_40 : decode cX2_isHolder 40 = .ok (.iconst 0, 1) := by decide +kernel
theorem dX2_isHolder_41 : decode cX2_isHolder 41 = .ok (.ireturn, 1) := by decide +kernel
set_option maxRecDepth 100000 in
set_option maxHeartbeats 4000000 in
theorem C_isHolder {l : Launch} {D : va_G} {cy : Nat → ClassId} {X : (Nat → Prop) → State → Heap → Prop} {a f : Nat → Nat → Nat} {r : Nat → Nat → Int32} {kn : Int32} {Y : va_W} {h : Nat} {w : Nat} (hX : EnvX X) (hh : h < 8) (hw : w < 8) (hG : ∀ i, i < 8 → f 2 i < 8 ∨ f 2 i = 4294967295) : Cd l D cy X yX2_isHolder cX2_isHolder 5 (some .boolean) (rmz 0 0) [.ref (a 0 0), .int (nI h), .int (nI w)] (WC cy a f r kn ++ Y) (some (.int (nI (hol f h w)))) (WC cy a f r kn ++ Y) := by
  refine Cm.of [some (.ref (a 0 0)), some (.int (nI h)), some (.int (nI w)), none, none] (by decide +kernel) rfl (Nat.le_of_ble_eq_true rfl) ?_
  intro p e s m args below meth c A C hE hr hnt hn
  refine r_iload_n C dX2_isHolder_0 rfl ?_
  refine r_istore_n C dX2_isHolder_1 (by decide) rfl ?_
  refine r_iconst (v := (nI 0)) C dX2_isHolder_2 (by decide) ?_
  refine r_istore C dX2_isHolder_3 (by decide) rfl ?_
  have L5 : ∀ (d : Nat) (t : Nat) (x : Nat), (ht : t + d = 8) → (hx : x < 8 ∨ x = 4294967295) → (hF : hlC (f 2) h d x = hol f h w) → vC p l e (rmz 0 0) s m args below meth c D A (vx_MQ below (vG (fun v1 w1 => v1 = (some (.int (nI (hol f h w)))) ∧ w1 = WC cy a f r kn ++ Y) D vwCl A) (vGX (fun _ => False) D vwCl (WC cy a f r kn ++ Y) A) args s (rmz 0 0).cells (rmz 0 0).slots A) 5 0 0 (WC cy a f r kn ++ Y) [some (.ref (a 0 0)), some (.int (nI h)), some (.int (nI w)), some (.int (nI x)), some (.int (nI t))] 5 [] := by
    intro d
    induction d with
    | zero =>
      intro t x ht hx hF
      refine r_iload C dX2_isHolder_5 rfl ?_
      refine r_bipush (v := (nI 8)) C dX2_isHolder_7 (by decide) ?_
      refine r_icN_ge (a := t) (b := 8) (tgt := 40) C (by first | omega | (simp [up2, *]; done) | (simp [up2, *]; omega) | (simp only [up2_eq]; omega)) (by first | omega | (simp [up2, *]; done) | (simp [up2, *]; omega) | (simp only [up2_eq]; omega)) dX2_isHolder_9 (by decide) (fun h9_1 => ?_) (fun h9_1 => ?_)
      · first
        | exfalso; first | omega | contradiction
        | skip
          refine r_iconst (v := (nI 0)) C dX2_isHolder_40 (by decide) ?_
          exact r_zret C hr (by first | omega | (simp [up2, *]; done) | (simp [up2, *]; omega) | (simp only [up2_eq]; omega)) dX2_isHolder_41 ⟨by rw [← hF]; unfold hlC; first | rfl | rw [if_pos (by assumption)] | rw [if_neg (by assumption), if_pos (by assumption)], rfl⟩ (Nat.le_of_ble_eq_true rfl) (Nat.le_of_ble_eq_true rfl)
      · first
        | exfalso; first | omega | contradiction
        | skip
          refine r_iload_n C dX2_isHolder_12 rfl ?_
          refine r_iconst (v := (nI 4294967295)) C dX2_isHolder_13 (by decide) ?_
          refine r_icN_eq (a := x) (b := 4294967295) (tgt := 40) C (by first | omega | (simp [up2, *]; done) | (simp [up2, *]; omega) | (simp only [up2_eq]; omega)) (by first | omega | (simp [up2, *]; done) | (simp [up2, *]; omega) | (simp only [up2_eq]; omega)) dX2_isHolder_14 (by decide) (fun h14_2 => ?_) (fun h14_2 => ?_)
          · first
            | exfalso; first | omega | contradiction
            | skip
              refine r_iconst (v := (nI 0)) C dX2_isHolder_40 (by decide) ?_
              exact r_zret C hr (by first | omega | (simp [up2, *]; done) | (simp [up2, *]; omega) | (simp only [up2_eq]; omega)) dX2_isHolder_41 ⟨by rw [← hF]; unfold hlC; first | rfl | rw [if_pos (by assumption)] | rw [if_neg (by assumption), if_pos (by assumption)], rfl⟩ (Nat.le_of_ble_eq_true rfl) (Nat.le_of_ble_eq_true rfl)
          · first
            | exfalso; first | omega | contradiction
            | skip
              refine r_iload_n C dX2_isHolder_17 rfl ?_
              refine r_iload_n C dX2_isHolder_18 rfl ?_
              refine r_icN_ne (a := x) (b := h) (tgt := 24) C (by first | omega | (simp [up2, *]; done) | (simp [up2, *]; omega) | (simp only [up2_eq]; omega)) (by first | omega | (simp [up2, *]; done) | (simp [up2, *]; omega) | (simp only [up2_eq]; omega)) dX2_isHolder_19 (by decide) (fun h19_3 => ?_) (fun h19_3 => ?_)
              · first
                | exfalso; first | omega | contradiction
                | skip
                  refine r_aload_n C dX2_isHolder_24 rfl ?_
                  refine s_get C 0 (by decide) qf_X2_11 rfl rfl dX2_isHolder_25 ?_
                  refine r_iload_n C dX2_isHolder_28 rfl ?_
                  refine s_parts C (by first | omega | (simp [up2, *]; done) | (simp [up2, *]; omega) | (simp only [up2_eq]; omega)) dX2_isHolder_29 ?_
                  refine p_getN (v := .int (nI (f 2 x))) hX C hE 2 (by first | omega | (simp [up2, *]; done) | (simp [up2, *]; omega) | (simp only [up2_eq]; omega)) (by decide) qn_X2_204 rfl rfl dX2_isHolder_30 ?_
                  refine r_istore_n C dX2_isHolder_33 (by decide) rfl ?_
                  refine r_iincN C dX2_isHolder_34 rfl (by decide) rfl ?_
                  refine r_goto (tgt := 5) C dX2_isHolder_37 (by decide) ?_
                  exact (Nat.not_lt_zero _ (by omega)).elim
              · first
                | exfalso; first | omega | contradiction
                | skip
                  refine r_iconst (v := (nI 1)) C dX2_isHolder_22 (by decide) ?_
                  exact r_zret C hr (by first | omega | (simp [up2, *]; done) | (simp [up2, *]; omega) | (simp only [up2_eq]; omega)) dX2_isHolder_23 ⟨by rw [← hF]; unfold hlC; first | rfl | rw [if_pos (by assumption)] | rw [if_neg (by assumption), if_pos (by assumption)], rfl⟩ (Nat.le_of_ble_eq_true rfl) (Nat.le_of_ble_eq_true rfl)
    | succ d ih_L5 =>
      intro t x ht hx hF
      refine r_iload C dX2_isHolder_5 rfl ?_
      refine r_bipush (v := (nI 8)) C dX2_isHolder_7 (by decide) ?_
      refine r_icN_ge (a := t) (b := 8) (tgt := 40) C (by first | omega | (simp [up2, *]; done) | (simp [up2, *]; omega) | (simp only [up2_eq]; omega)) (by first | omega | (simp [up2, *]; done) | (simp [up2, *]; omega) | (simp only [up2_eq]; omega)) dX2_isHolder_9 (by decide) (fun h9_4 => ?_) (fun h9_4 => ?_)
      · first
        | exfalso; first | omega | contradiction
        | skip
          refine r_iconst (v := (nI 0)) C dX2_isHolder_40 (by decide) ?_
          exact r_zret C hr (by first | omega | (simp [up2, *]; done) | (simp [up2, *]; omega) | (simp only [up2_eq]; omega)) dX2_isHolder_41 ⟨by rw [← hF]; unfold hlC; first | rfl | rw [if_pos (by assumption)] | rw [if_neg (by assumption), if_pos (by assumption)], rfl⟩ (Nat.le_of_ble_eq_true rfl) (Nat.le_of_ble_eq_true rfl)
      · first
        | exfalso; first | omega | contradiction
        | skip
          refine r_iload_n C dX2_isHolder_12 rfl ?_
          refine r_iconst (v := (nI 4294967295)) C dX2_isHolder_13 (by decide) ?_
          refine r_icN_eq (a := x) (b := 4294967295) (tgt := 40) C (by first | omega | (simp [up2, *]; done) | (simp [up2, *]; omega) | (simp only [up2_eq]; omega)) (by first | omega | (simp [up2, *]; done) | (simp [up2, *]; omega) | (simp only [up2_eq]; omega)) dX2_isHolder_14 (by decide) (fun h14_5 => ?_) (fun h14_5 => ?_)
          · first
            | exfalso; first | omega | contradiction
            | skip
              refine r_iconst (v := (nI 0)) C dX2_isHolder_40 (by decide) ?_
              exact r_zret C hr (by first | omega | (simp [up2, *]; done) | (simp [up2, *]; omega) | (simp only [up2_eq]; omega)) dX2_isHolder_41 ⟨by rw [← hF]; unfold hlC; first | rfl | rw [if_pos (by assumption)] | rw [if_neg (by assumption), if_pos (by assumption)], rfl⟩ (Nat.le_of_ble_eq_true rfl) (Nat.le_of_ble_eq_true rfl)
          · first
            | exfalso; first | omega | contradiction
            | skip
              refine r_iload_n C dX2_isHolder_17 rfl ?_
              refine r_iload_n C dX2_isHolder_18 rfl ?_
              refine r_icN_ne (a := x) (b := h) (tgt := 24) C (by first | omega | (simp [up2, *]; done) | (simp [up2, *]; omega) | (simp only [up2_eq]; omega)) (by first | omega | (simp [up2, *]; done) | (simp [up2, *]; omega) | (simp only [up2_eq]; omega)) dX2_isHolder_19 (by decide) (fun h19_6 => ?_) (fun h19_6 => ?_)
              · first
                | exfalso; first | omega | contradiction
                | skip
                  refine r_aload_n C dX2_isHolder_24 rfl ?_
                  refine s_get C 0 (by decide) qf_X2_11 rfl rfl dX2_isHolder_25 ?_
                  refine r_iload_n C dX2_isHolder_28 rfl ?_
                  refine s_parts C (by first | omega | (simp [up2, *]; done) | (simp [up2, *]; omega) | (simp only [up2_eq]; omega)) dX2_isHolder_29 ?_
                  refine p_getN (v := .int (nI (f 2 x))) hX C hE 2 (by first | omega | (simp [up2, *]; done) | (simp [up2, *]; omega) | (simp only [up2_eq]; omega)) (by decide) qn_X2_204 rfl rfl dX2_isHolder_30 ?_
                  refine r_istore_n C dX2_isHolder_33 (by decide) rfl ?_
                  refine r_iincN C dX2_isHolder_34 rfl (by decide) rfl ?_
                  refine r_goto (tgt := 5) C dX2_isHolder_37 (by decide) ?_
                  exact ih_L5 (t + 1) (f 2 x) (by omega) (hG x (by omega)) (by rw [← hF]; simp only [hlC]; rw [if_neg (by assumption), if_neg (by assumption)])
              · first
                | exfalso; first | omega | contradiction
                | skip
                  refine r_iconst (v := (nI 1)) C dX2_isHolder_22 (by decide) ?_
                  exact r_zret C hr (by first | omega | (simp [up2, *]; done) | (simp [up2, *]; omega) | (simp only [up2_eq]; omega)) dX2_isHolder_23 ⟨by rw [← hF]; unfold hlC; first | rfl | rw [if_pos (by assumption)] | rw [if_neg (by assumption), if_pos (by assumption)], rfl⟩ (Nat.le_of_ble_eq_true rfl) (Nat.le_of_ble_eq_true rfl)
  exact L5 8 0 w (by omega) (by omega) rfl
