/-! CONTRACTS of the class: dismissing, counts -/
theorem dX2_dismissCursorsOver_0 : decode cX2_dismissCursorsOver 0 = .ok (.iconst 0, 1) := dqo_3 (kb_of ke_X2_dismissCursorsOver 0 rfl)
theorem dX2_dismissCursorsOver_1 : decode cX2_dismissCursorsOver 1 = .ok (.istore_n 2, 1) := dqo_61 (kb_of ke_X2_dismissCursorsOver 1 rfl)
theorem dX2_dismissCursorsOver_2 : decode cX2_dismissCursorsOver 2 = .ok (.iload_n 2, 1) := dqo_28 (kb_of ke_X2_dismissCursorsOver 2 rfl)
theorem dX2_dismissCursorsOver_3 : decode cX2_dismissCursorsOver 3 = .ok (.iconst 3, 1) := dqo_6 (kb_of ke_X2_dismissCursorsOver 3 rfl)
theorem dX2_dismissCursorsOver_4 : decode cX2_dismissCursorsOver 4 = .ok (.if_icmp .ge 32, 3) := dqo_162 0 32 (by decide) (kb_of ke_X2_dismissCursorsOver 4 rfl) (kb_of ke_X2_dismissCursorsOver 5 rfl) (kb_of ke_X2_dismissCursorsOver 6 rfl)
theorem dX2_dismissCursorsOver_7 : decode cX2_dismissCursorsOver 7 = .ok (.aload_n 0, 1) := dqo_42 (kb_of ke_X2_dismissCursorsOver 7 rfl)
theorem dX2_dismissCursorsOver_8 : decode cX2_dismissCursorsOver 8 = .ok (.getfield 24, 3) := dqo_180 0 24 (kb_of ke_X2_dismissCursorsOver 8 rfl) (kb_of ke_X2_dismissCursorsOver 9 rfl) (kb_of ke_X2_dismissCursorsOver 10 rfl)
theorem dX2_dismissCursorsOver_11 : decode cX2_dismissCursorsOver 11 = .ok (.iload_n 2, 1) := dqo_28 (kb_of ke_X2_dismissCursorsOver 11 rfl)
theorem dX2_dismissCursorsOver_12 : decode cX2_dismissCursorsOver 12 = .ok (.aaload, 1) := dqo_50 (kb_of ke_X2_dismissCursorsOver 12 rfl)
theorem dX2_dismissCursorsOver_13 : decode cX2_dismissCursorsOver 13 = .ok (.getfield 225, 3) := dqo_180 0 225 (kb_of ke_X2_dismissCursorsOver 13 rfl) (kb_of ke_X2_dismissCursorsOver 14 rfl) (kb_of ke_X2_dismissCursorsOver 15 rfl)
theorem dX2_dismissCursorsOver_16 : decode cX2_dismissCursorsOver 16 = .ok (.iload_n 1, 1) := dqo_27 (kb_of ke_X2_dismissCursorsOver 16 rfl)
theorem dX2_dismissCursorsOver_17 : decode cX2_dismissCursorsOver 17 = .ok (.if_icmp .ne 13, 3) := dqo_160 0 13 (by decide) (kb_of ke_X2_dismissCursorsOver 17 rfl) (kb_of ke_X2_dismissCursorsOver 18 rfl) (kb_of ke_X2_dismissCursorsOver 19 rfl)
theorem dX2_dismissCursorsOver_20 : decode cX2_dismissCursorsOver 20 = .ok (.aload_n 0, 1) := dqo_42 (kb_of ke_X2_dismissCursorsOver 20 rfl)
theorem dX2_dismissCursorsOver_21 : decode cX2_dismissCursorsOver 21 = .ok (.getfield 24, 3) := dqo_180 0 24 (kb_of ke_X2_dismissCursorsOver 21 rfl) (kb_of ke_X2_dismissCursorsOver 22 rfl) (kb_of ke_X2_dismissCursorsOver 23 rfl)
theorem dX2_dismissCursorsOver_24 : decode cX2_dismissCursorsOver 24 = .ok (.iload_n 2, 1) := dqo_28 (kb_of ke_X2_dismissCursorsOver 24 rfl)
theorem dX2_dismissCursorsOver_25 : decode cX2_dismissCursorsOver 25 = .ok (.aaload, 1) := dqo_50 (kb_of ke_X2_dismissCursorsOver 25 rfl)
theorem dX2_dismissCursorsOver_26 : decode cX2_dismissCursorsOver 26 = .ok (.iconst 0, 1) := dqo_3 (kb_of ke_X2_dismissCursorsOver 26 rfl)
theorem dX2_dismissCursorsOver_27 : decode cX2_dismissCursorsOver 27 = .ok (.putfield 221, 3) := dqo_181 0 221 (kb_of ke_X2_dismissCursorsOver 27 rfl) (kb_of ke_X2_dismissCursorsOver 28 rfl) (kb_of ke_X2_dismissCursorsOver 29 rfl)
theorem dX2_dismissCursorsOver_30 : decode cX2_dismissCursorsOver 30 = .ok (.iinc 2 1, 3) := dqo_132 2 1 (by decide) (kb_of ke_X2_dismissCursorsOver 30 rfl) (kb_of ke_X2_dismissCursorsOver 31 rfl) (kb_of ke_X2_dismissCursorsOver 32 rfl)
theorem dX2_dismissCursorsOver_33 : decode cX2_dismissCursorsOver 33 = .ok (.goto (-31), 3) := dqo_167 255 225 (by decide) (kb_of ke_X2_dismissCursorsOver 33 rfl) (kb_of ke_X2_dismissCursorsOver 34 rfl) (kb_of ke_X2_dismissCursorsOver 35 rfl)
theorem dX2_dismissCursorsOver_36 : decode cX2_dismissCursorsOver 36 = .ok (.return_, 1) := dqo_177 (kb_of ke_X2_dismissCursorsOver 36 rfl)
set_option maxRecDepth 100000 in
set_option maxHeartbeats 4000000 in
theorem C_dismissCursorsOver {l : Launch} {D : va_G} {cy : Nat → ClassId} {X : (Nat → Prop) → State → Heap → Prop} {a f : Nat → Nat → Nat} {r : Nat → Nat → Int32} {kn : Int32} {Y : va_W} {w : Nat} (hX : EnvX X) (hw : w < 8) (hU : ∀ k, k < 3 → f 6 k < 8) : Cd l D cy X yX2_dismissCursorsOver cX2_dismissCursorsOver 3 none (rmz 0 0) [.ref (a 0 0), .int (nI w)] (WC cy a f r kn ++ Y) none (WC cy a (dcF f w 3) r kn ++ Y) := by
  refine Cm.of [some (.ref (a 0 0)), some (.int (nI w)), none] pn_X2 rfl (Nat.le_of_ble_eq_true rfl) ?_
  intro p e s m args below meth c A C hE hr hnt hn
  refine r_iconst (v := (nI 0)) C dX2_dismissCursorsOver_0 (by decide) ?_
  refine r_istore_n C dX2_dismissCursorsOver_1 (by decide) rfl ?_
  refine r_w (congrArg (fun z => WC cy a z r kn ++ Y) (dcF_0 f w).symm) ?_
  have L2 : ∀ (d : Nat) (k : Nat), (hk : k + d = 3) → vC p l e (rmz 0 0) s m args below meth c D A (vx_MQ below (vG (fun v1 w1 => v1 = none ∧ w1 = WC cy a (dcF f w 3) r kn ++ Y) D vwCl A) (vGX (fun _ => False) D vwCl (WC cy a f r kn ++ Y) A) args s (rmz 0 0).cells (rmz 0 0).slots A) 3 0 0 (WC cy a (dcF f w k) r kn ++ Y) [some (.ref (a 0 0)), some (.int (nI w)), some (.int (nI k))] 2 [] := by
    intro d
    induction d with
    | zero =>
      intro k hk
      refine r_iload_n C dX2_dismissCursorsOver_2 rfl ?_
      refine r_iconst (v := (nI 3)) C dX2_dismissCursorsOver_3 (by decide) ?_
      refine r_icN_ge (a := k) (b := 3) (tgt := 36) C (by first | omega | (simp [up2, *]; done) | (simp [up2, *]; omega) | (simp only [up2_eq]; omega)) (by first | omega | (simp [up2, *]; done) | (simp [up2, *]; omega) | (simp only [up2_eq]; omega)) dX2_dismissCursorsOver_4 (by decide) (fun h4_1 => ?_) (fun h4_1 => ?_)
      · first
        | exfalso; first | omega | contradiction
        | skip
          have e8 : k = 3 := by omega
          subst e8
          exact r_vret C hr dX2_dismissCursorsOver_36 ⟨rfl, rfl⟩ (Nat.le_of_ble_eq_true rfl) (Nat.le_of_ble_eq_true rfl)
      · first
        | exfalso; first | omega | contradiction
        | skip
          refine r_aload_n C dX2_dismissCursorsOver_7 rfl ?_
          refine s_get C 1 (by decide) qf_X2_24 rfl rfl dX2_dismissCursorsOver_8 ?_
          refine r_iload_n C dX2_dismissCursorsOver_11 rfl ?_
          refine s_curs C (by first | omega | (simp [up2, *]; done) | (simp [up2, *]; omega) | (simp only [up2_eq]; omega)) dX2_dismissCursorsOver_12 ?_
          refine u_getN (v := .int (nI (f 6 k))) hX C hE 0 (by first | omega | (simp [up2, *]; done) | (simp [up2, *]; omega) | (simp only [up2_eq]; omega)) (by decide) qn_X2_225 rfl rfl dX2_dismissCursorsOver_13 ?_
          refine r_iload_n C dX2_dismissCursorsOver_16 rfl ?_
          refine r_icN_ne (a := (f 6 k)) (b := w) (tgt := 30) C (by have := hU k (by omega); omega) (by first | omega | (simp [up2, *]; done) | (simp [up2, *]; omega) | (simp only [up2_eq]; omega)) dX2_dismissCursorsOver_17 (by decide) (fun h17_2 => ?_) (fun h17_2 => ?_)
          · first
            | exfalso; first | omega | contradiction
            | skip
              refine r_iincN C dX2_dismissCursorsOver_30 rfl (by decide) rfl ?_
              refine r_goto (tgt := 2) C dX2_dismissCursorsOver_33 (by decide) ?_
              refine r_w (congrArg (fun z => WC cy a z r kn ++ Y) (dcF_no (by assumption))) ?_
              exact (Nat.not_lt_zero _ (by omega)).elim
          · first
            | exfalso; first | omega | contradiction
            | skip
              refine r_aload_n C dX2_dismissCursorsOver_20 rfl ?_
              refine s_get C 1 (by decide) qf_X2_24 rfl rfl dX2_dismissCursorsOver_21 ?_
              refine r_iload_n C dX2_dismissCursorsOver_24 rfl ?_
              refine s_curs C (by first | omega | (simp [up2, *]; done) | (simp [up2, *]; omega) | (simp only [up2_eq]; omega)) dX2_dismissCursorsOver_25 ?_
              refine r_iconst (v := (nI 0)) C dX2_dismissCursorsOver_26 (by decide) ?_
              refine u_putZN hX C hE (by first | omega | (simp [up2, *]; done) | (simp [up2, *]; omega) | (simp only [up2_eq]; omega)) (by first | omega | (simp [up2, *]; done) | (simp [up2, *]; omega) | (simp only [up2_eq]; omega)) qn_X2_221 dX2_dismissCursorsOver_27 ?_
              refine r_iincN C dX2_dismissCursorsOver_30 rfl (by decide) rfl ?_
              refine r_goto (tgt := 2) C dX2_dismissCursorsOver_33 (by decide) ?_
              refine r_w (congrArg (fun z => WC cy a z r kn ++ Y) (dcF_yes (by assumption))) ?_
              exact (Nat.not_lt_zero _ (by omega)).elim
    | succ d ih_L2 =>
      intro k hk
      refine r_iload_n C dX2_dismissCursorsOver_2 rfl ?_
      refine r_iconst (v := (nI 3)) C dX2_dismissCursorsOver_3 (by decide) ?_
      refine r_icN_ge (a := k) (b := 3) (tgt := 36) C (by first | omega | (simp [up2, *]; done) | (simp [up2, *]; omega) | (simp only [up2_eq]; omega)) (by first | omega | (simp [up2, *]; done) | (simp [up2, *]; omega) | (simp only [up2_eq]; omega)) dX2_dismissCursorsOver_4 (by decide) (fun h4_3 => ?_) (fun h4_3 => ?_)
      · first
        | exfalso; first | omega | contradiction
        | skip
          have e8 : k = 3 := by omega
          subst e8
          exact r_vret C hr dX2_dismissCursorsOver_36 ⟨rfl, rfl⟩ (Nat.le_of_ble_eq_true rfl) (Nat.le_of_ble_eq_true rfl)
      · first
        | exfalso; first | omega | contradiction
        | skip
          refine r_aload_n C dX2_dismissCursorsOver_7 rfl ?_
          refine s_get C 1 (by decide) qf_X2_24 rfl rfl dX2_dismissCursorsOver_8 ?_
          refine r_iload_n C dX2_dismissCursorsOver_11 rfl ?_
          refine s_curs C (by first | omega | (simp [up2, *]; done) | (simp [up2, *]; omega) | (simp only [up2_eq]; omega)) dX2_dismissCursorsOver_12 ?_
          refine u_getN (v := .int (nI (f 6 k))) hX C hE 0 (by first | omega | (simp [up2, *]; done) | (simp [up2, *]; omega) | (simp only [up2_eq]; omega)) (by decide) qn_X2_225 rfl rfl dX2_dismissCursorsOver_13 ?_
          refine r_iload_n C dX2_dismissCursorsOver_16 rfl ?_
          refine r_icN_ne (a := (f 6 k)) (b := w) (tgt := 30) C (by have := hU k (by omega); omega) (by first | omega | (simp [up2, *]; done) | (simp [up2, *]; omega) | (simp only [up2_eq]; omega)) dX2_dismissCursorsOver_17 (by decide) (fun h17_4 => ?_) (fun h17_4 => ?_)
          · first
            | exfalso; first | omega | contradiction
            | skip
              refine r_iincN C dX2_dismissCursorsOver_30 rfl (by decide) rfl ?_
              refine r_goto (tgt := 2) C dX2_dismissCursorsOver_33 (by decide) ?_
              refine r_w (congrArg (fun z => WC cy a z r kn ++ Y) (dcF_no (by assumption))) ?_
              exact ih_L2 (k + 1) (by omega)
          · first
            | exfalso; first | omega | contradiction
            | skip
              refine r_aload_n C dX2_dismissCursorsOver_20 rfl ?_
              refine s_get C 1 (by decide) qf_X2_24 rfl rfl dX2_dismissCursorsOver_21 ?_
              refine r_iload_n C dX2_dismissCursorsOver_24 rfl ?_
              refine s_curs C (by first | omega | (simp [up2, *]; done) | (simp [up2, *]; omega) | (simp only [up2_eq]; omega)) dX2_dismissCursorsOver_25 ?_
              refine r_iconst (v := (nI 0)) C dX2_dismissCursorsOver_26 (by decide) ?_
              refine u_putZN hX C hE (by first | omega | (simp [up2, *]; done) | (simp [up2, *]; omega) | (simp only [up2_eq]; omega)) (by first | omega | (simp [up2, *]; done) | (simp [up2, *]; omega) | (simp only [up2_eq]; omega)) qn_X2_221 dX2_dismissCursorsOver_27 ?_
              refine r_iincN C dX2_dismissCursorsOver_30 rfl (by decide) rfl ?_
              refine r_goto (tgt := 2) C dX2_dismissCursorsOver_33 (by decide) ?_
              refine r_w (congrArg (fun z => WC cy a z r kn ++ Y) (dcF_yes (by assumption))) ?_
              exact ih_L2 (k + 1) (by omega)
  exact L2 3 0 rfl
theorem pk_X2_dismissCursorsOver : PkV RX2 yX2_dismissCursorsOver cX2_dismissCursorsOver 3 none 1 := ⟨⟨qi_X2_dismissCursorsOver, qs_X2_dismissCursorsOver, qz_X2, qc_X2_dismissCursorsOver⟩, rfl, mh_X2.1, mh_X2.2, pd_6⟩
theorem dX2_dismissWindow_0 : decode cX2_dismissWindow 0 = .ok (.iconst 4, 1) := dqo_7 (kb_of ke_X2_dismissWindow 0 rfl)
theorem dX2_dismissWindow_1 : decode cX2_dismissWindow 1 = .ok (.istore_n 2, 1) := dqo_61 (kb_of ke_X2_dismissWindow 1 rfl)
theorem dX2_dismissWindow_2 : decode cX2_dismissWindow 2 = .ok (.iload_n 2, 1) := dqo_28 (kb_of ke_X2_dismissWindow 2 rfl)
theorem dX2_dismissWindow_3 : decode cX2_dismissWindow 3 = .ok (.bipush 8, 2) := dqo_16 8 (by decide) (kb_of ke_X2_dismissWindow 3 rfl) (kb_of ke_X2_dismissWindow 4 rfl)
theorem dX2_dismissWindow_5 : decode cX2_dismissWindow 5 = .ok (.if_icmp .ge 45, 3) := dqo_162 0 45 (by decide) (kb_of ke_X2_dismissWindow 5 rfl) (kb_of ke_X2_dismissWindow 6 rfl) (kb_of ke_X2_dismissWindow 7 rfl)
theorem dX2_dismissWindow_8 : decode cX2_dismissWindow 8 = .ok (.aload_n 0, 1) := dqo_42 (kb_of ke_X2_dismissWindow 8 rfl)
theorem dX2_dismissWindow_9 : decode cX2_dismissWindow 9 = .ok (.getfield 11, 3) := dqo_180 0 11 (kb_of ke_X2_dismissWindow 9 rfl) (kb_of ke_X2_dismissWindow 10 rfl) (kb_of ke_X2_dismissWindow 11 rfl)
theorem dX2_dismissWindow_12 : decode cX2_dismissWindow 12 = .ok (.iload_n 2, 1) := dqo_28 (kb_of ke_X2_dismissWindow 12 rfl)
theorem dX2_dismissWindow_13 : decode cX2_dismissWindow 13 = .ok (.aaload, 1) := dqo_50 (kb_of ke_X2_dismissWindow 13 rfl)
theorem dX2_dismissWindow_14 : decode cX2_dismissWindow 14 = .ok (.getfield 194, 3) := dqo_180 0 194 (kb_of ke_X2_dismissWindow 14 rfl) (kb_of ke_X2_dismissWindow 15 rfl) (kb_of ke_X2_dismissWindow 16 rfl)
theorem dX2_dismissWindow_17 : decode cX2_dismissWindow 17 = .ok (.ifCond .eq 27, 3) := dqo_153 0 27 (by decide) (kb_of ke_X2_dismissWindow 17 rfl) (kb_of ke_X2_dismissWindow 18 rfl) (kb_of ke_X2_dismissWindow 19 rfl)
theorem dX2_dismissWindow_20 : decode cX2_dismissWindow 20 = .ok (.aload_n 0, 1) := dqo_42 (kb_of ke_X2_dismissWindow 20 rfl)
theorem dX2_dismissWindow_21 : decode cX2_dismissWindow 21 = .ok (.iload_n 1, 1) := dqo_27 (kb_of ke_X2_dismissWindow 21 rfl)
theorem dX2_dismissWindow_22 : decode cX2_dismissWindow 22 = .ok (.iload_n 2, 1) := dqo_28 (kb_of ke_X2_dismissWindow 22 rfl)
theorem dX2_dismissWindow_23 : decode cX2_dismissWindow 23 = .ok (.invokevirtual 182, 3) := dqo_182 0 182 (kb_of ke_X2_dismissWindow 23 rfl) (kb_of ke_X2_dismissWindow 24 rfl) (kb_of ke_X2_dismissWindow 25 rfl)
theorem dX2_dismissWindow_26 : decode cX2_dismissWindow 26 = .ok (.ifCond .eq 18, 3) := dqo_153 0 18 (by decide) (kb_of ke_X2_dismissWindow 26 rfl) (kb_of ke_X2_dismissWindow 27 rfl) (kb_of ke_X2_dismissWindow 28 rfl)
theorem dX2_dismissWindow_29 : decode cX2_dismissWindow 29 = .ok (.aload_n 0, 1) := dqo_42 (kb_of ke_X2_dismissWindow 29 rfl)
theorem dX2_dismissWindow_30 : decode cX2_dismissWindow 30 = .ok (.getfield 11, 3) := dqo_180 0 11 (kb_of ke_X2_dismissWindow 30 rfl) (kb_of ke_X2_dismissWindow 31 rfl) (kb_of ke_X2_dismissWindow 32 rfl)
theorem dX2_dismissWindow_33 : decode cX2_dismissWindow 33 = .ok (.iload_n 2, 1) := dqo_28 (kb_of ke_X2_dismissWindow 33 rfl)
theorem dX2_dismissWindow_34 : decode cX2_dismissWindow 34 = .ok (.aaload, 1) := dqo_50 (kb_of ke_X2_dismissWindow 34 rfl)
theorem dX2_dismissWindow_35 : decode cX2_dismissWindow 35 = .ok (.iconst 0, 1) := dqo_3 (kb_of ke_X2_dismissWindow 35 rfl)
theorem dX2_dismissWindow_36 : decode cX2_dismissWindow 36 = .ok (.putfield 194, 3) := dqo_181 0 194 (kb_of ke_X2_dismissWindow 36 rfl) (kb_of ke_X2_dismissWindow 37 rfl) (kb_of ke_X2_dismissWindow 38 rfl)
theorem dX2_dismissWindow_39 : decode cX2_dismissWindow 39 = .ok (.aload_n 0, 1) := dqo_42 (kb_of ke_X2_dismissWindow 39 rfl)
theorem dX2_dismissWindow_40 : decode cX2_dismissWindow 40 = .ok (.iload_n 2, 1) := dqo_28 (kb_of ke_X2_dismissWindow 40 rfl)
theorem dX2_dismissWindow_41 : decode cX2_dismissWindow 41 = .ok (.invokevirtual 305, 3) := dqo_182 1 49 (kb_of ke_X2_dismissWindow 41 rfl) (kb_of ke_X2_dismissWindow 42 rfl) (kb_of ke_X2_dismissWindow 43 rfl)
theorem dX2_dismissWindow_44 : decode cX2_dismissWindow 44 = .ok (.iinc 2 1, 3) := dqo_132 2 1 (by decide) (kb_of ke_X2_dismissWindow 44 rfl) (kb_of ke_X2_dismissWindow 45 rfl) (kb_of ke_X2_dismissWindow 46 rfl)
theorem dX2_dismissWindow_47 : decode cX2_dismissWindow 47 = .ok (.goto (-45), 3) := dqo_167 255 211 (by decide) (kb_of ke_X2_dismissWindow 47 rfl) (kb_of ke_X2_dismissWindow 48 rfl) (kb_of ke_X2_dismissWindow 49 rfl)
theorem dX2_dismissWindow_50 : decode cX2_dismissWindow 50 = .ok (.return_, 1) := dqo_177 (kb_of ke_X2_dismissWindow 50 rfl)
set_option maxRecDepth 100000 in
set_option maxHeartbeats 4000000 in
theorem C_dismissWindow {l : Launch} {D : va_G} {cy : Nat → ClassId} {X : (Nat → Prop) → State → Heap → Prop} {a f : Nat → Nat → Nat} {r : Nat → Nat → Int32} {kn : Int32} {Y : va_W} {i : Nat} (hX : EnvX X) (hi8 : i < 8) (hU : ∀ k, k < 3 → f 6 k < 8) (hG : ∀ i, i < 8 → f 2 i < 8 ∨ f 2 i = 4294967295) (h5a : ∀ i, i < 8 → f 5 i ≤ 1) : Cd l D cy X yX2_dismissWindow cX2_dismissWindow 3 none (rmz 1 30) [.ref (a 0 0), .int (nI i)] (WC cy a f r kn ++ Y) none (WC cy a (dmF f i 8) r kn ++ Y) := by
  refine Cm.of [some (.ref (a 0 0)), some (.int (nI i)), none] pn_X2 rfl (Nat.le_of_ble_eq_true rfl) ?_
  intro p e s m args below meth c A C hE hr hnt hn
  refine r_iconst (v := (nI 4)) C dX2_dismissWindow_0 (by decide) ?_
  refine r_istore_n C dX2_dismissWindow_1 (by decide) rfl ?_
  refine r_w (congrArg (fun z => WC cy a z r kn ++ Y) (dmF_0 f i).symm) ?_
  have L2 : ∀ (d : Nat) (k : Nat), (hk : k + d = 8) → (hk4 : 4 ≤ k) → vC p l e (rmz 1 30) s m args below meth c D A (vx_MQ below (vG (fun v1 w1 => v1 = none ∧ w1 = WC cy a (dmF f i 8) r kn ++ Y) D vwCl A) (vGX (fun _ => False) D vwCl (WC cy a f r kn ++ Y) A) args s (rmz 1 30).cells (rmz 1 30).slots A) 3 0 0 (WC cy a (dmF f i k) r kn ++ Y) [some (.ref (a 0 0)), some (.int (nI i)), some (.int (nI k))] 2 [] := by
    intro d
    induction d with
    | zero =>
      intro k hk hk4
      refine r_iload_n C dX2_dismissWindow_2 rfl ?_
      refine r_bipush (v := (nI 8)) C dX2_dismissWindow_3 (by decide) ?_
      refine r_icN_ge (a := k) (b := 8) (tgt := 50) C (by first | omega | (simp [up2, *]; done) | (simp [up2, *]; omega) | (simp only [up2_eq]; omega)) (by first | omega | (simp [up2, *]; done) | (simp [up2, *]; omega) | (simp only [up2_eq]; omega)) dX2_dismissWindow_5 (by decide) (fun h5_1 => ?_) (fun h5_1 => ?_)
      · first
        | exfalso; first | omega | contradiction
        | skip
          have e8 : k = 8 := by omega
          subst e8
          exact r_vret C hr dX2_dismissWindow_50 ⟨rfl, rfl⟩ (Nat.le_of_ble_eq_true rfl) (Nat.le_of_ble_eq_true rfl)
      · first
        | exfalso; first | omega | contradiction
        | skip
          refine r_aload_n C dX2_dismissWindow_8 rfl ?_
          refine s_get C 0 (by decide) qf_X2_11 rfl rfl dX2_dismissWindow_9 ?_
          refine r_iload_n C dX2_dismissWindow_12 rfl ?_
          refine s_parts C (by first | omega | (simp [up2, *]; done) | (simp [up2, *]; omega) | (simp only [up2_eq]; omega)) dX2_dismissWindow_13 ?_
          refine p_getN (v := .int (nI (f 5 k))) hX C hE 5 (by first | omega | (simp [up2, *]; done) | (simp [up2, *]; omega) | (simp only [up2_eq]; omega)) (by decide) qn_X2_194 rfl (congrArg (fun z => some (Value.int (nI z))) (show (dmF f i k) 5 k = f 5 k by simp [up2, exL_at, dmF_at, *])) dX2_dismissWindow_14 ?_
          refine r_ifN_eq (a := (f 5 k)) (tgt := 44) C (by have := h5a k (by omega); omega) dX2_dismissWindow_17 (by decide) (fun h17_2 => ?_) (fun h17_2 => ?_)
          · first
            | exfalso; first | omega | contradiction
            | skip
              refine r_iincN C dX2_dismissWindow_44 rfl (by decide) rfl ?_
              refine r_goto (tgt := 2) C dX2_dismissWindow_47 (by decide) ?_
              refine r_w (congrArg (fun z => WC cy a z r kn ++ Y) (dmF_no (by first | exact Or.inl (by assumption) | exact Or.inr (by assumption)))) ?_
              exact (Nat.not_lt_zero _ (by omega)).elim
          · first
            | exfalso; first | omega | contradiction
            | skip
              refine r_aload_n C dX2_dismissWindow_20 rfl ?_
              refine r_iload_n C dX2_dismissWindow_21 rfl ?_
              refine r_iload_n C dX2_dismissWindow_22 rfl ?_
              refine d_V (st := []) hX.stb C hE (C_isHolder (f := (dmF f i k)) (r := r) (kn := kn) (h := i) (w := k) hX (by first | omega | (simp [up2, *]; done) | (simp [up2, *]; omega) | (simp only [up2_eq]; omega)) (by first | omega | (simp [up2, *]; done) | (simp [up2, *]; omega) | (simp only [up2_eq]; omega)) hG) pk_X2_isHolder qm_X2_182 0 6 rfl rfl wc_0 rfl rfl (Nat.le_of_ble_eq_true rfl) dX2_dismissWindow_23 ⟨Nat.le_of_ble_eq_true rfl, Nat.le_of_ble_eq_true rfl⟩ ⟨Nat.le_of_ble_eq_true rfl, Nat.le_of_ble_eq_true rfl⟩ ?_
              refine r_ifN_eq (a := (hol f i k)) (tgt := 44) C (Nat.lt_of_le_of_lt (hol_le _ _ _) (by decide)) dX2_dismissWindow_26 (by decide) (fun h26_3 => ?_) (fun h26_3 => ?_)
              · first
                | exfalso; first | omega | contradiction
                | skip
                  refine r_iincN C dX2_dismissWindow_44 rfl (by decide) rfl ?_
                  refine r_goto (tgt := 2) C dX2_dismissWindow_47 (by decide) ?_
                  refine r_w (congrArg (fun z => WC cy a z r kn ++ Y) (dmF_no (by first | exact Or.inl (by assumption) | exact Or.inr (by assumption)))) ?_
                  exact (Nat.not_lt_zero _ (by omega)).elim
              · first
                | exfalso; first | omega | contradiction
                | skip
                  refine r_aload_n C dX2_dismissWindow_29 rfl ?_
                  refine s_get C 0 (by decide) qf_X2_11 rfl rfl dX2_dismissWindow_30 ?_
                  refine r_iload_n C dX2_dismissWindow_33 rfl ?_
                  refine s_parts C (by first | omega | (simp [up2, *]; done) | (simp [up2, *]; omega) | (simp only [up2_eq]; omega)) dX2_dismissWindow_34 ?_
                  refine r_iconst (v := (nI 0)) C dX2_dismissWindow_35 (by decide) ?_
                  refine p_putZN hX C hE (by first | omega | (simp [up2, *]; done) | (simp [up2, *]; omega) | (simp only [up2_eq]; omega)) (by first | omega | (simp [up2, *]; done) | (simp [up2, *]; omega) | (simp only [up2_eq]; omega)) qn_X2_194 dX2_dismissWindow_36 ?_
                  refine r_aload_n C dX2_dismissWindow_39 rfl ?_
                  refine r_iload_n C dX2_dismissWindow_40 rfl ?_
                  refine d_Vv (st := []) hX.stb C hE (C_dismissCursorsOver (f := (up2 (dmF f i k) 5 k 0)) (r := r) (kn := kn) (w := k) hX (by first | omega | (simp [up2, *]; done) | (simp [up2, *]; omega) | (simp only [up2_eq]; omega)) hU) pk_X2_dismissCursorsOver qm_X2_305 0 6 rfl rfl wc_0 rfl rfl (Nat.le_of_ble_eq_true rfl) dX2_dismissWindow_41 ⟨Nat.le_of_ble_eq_true rfl, Nat.le_of_ble_eq_true rfl⟩ ⟨Nat.le_of_ble_eq_true rfl, Nat.le_of_ble_eq_true rfl⟩ ?_
                  refine r_iincN C dX2_dismissWindow_44 rfl (by decide) rfl ?_
                  refine r_goto (tgt := 2) C dX2_dismissWindow_47 (by decide) ?_
                  refine r_w (congrArg (fun z => WC cy a z r kn ++ Y) (dmF_yes (by omega) (by assumption) (by assumption))) ?_
                  exact (Nat.not_lt_zero _ (by omega)).elim
    | succ d ih_L2 =>
      intro k hk hk4
      refine r_iload_n C dX2_dismissWindow_2 rfl ?_
      refine r_bipush (v := (nI 8)) C dX2_dismissWindow_3 (by decide) ?_
      refine r_icN_ge (a := k) (b := 8) (tgt := 50) C (by first | omega | (simp [up2, *]; done) | (simp [up2, *]; omega) | (simp only [up2_eq]; omega)) (by first | omega | (simp [up2, *]; done) | (simp [up2, *]; omega) | (simp only [up2_eq]; omega)) dX2_dismissWindow_5 (by decide) (fun h5_4 => ?_) (fun h5_4 => ?_)
      · first
        | exfalso; first | omega | contradiction
        | skip
          have e8 : k = 8 := by omega
          subst e8
          exact r_vret C hr dX2_dismissWindow_50 ⟨rfl, rfl⟩ (Nat.le_of_ble_eq_true rfl) (Nat.le_of_ble_eq_true rfl)
      · first
        | exfalso; first | omega | contradiction
        | skip
          refine r_aload_n C dX2_dismissWindow_8 rfl ?_
          refine s_get C 0 (by decide) qf_X2_11 rfl rfl dX2_dismissWindow_9 ?_
          refine r_iload_n C dX2_dismissWindow_12 rfl ?_
          refine s_parts C (by first | omega | (simp [up2, *]; done) | (simp [up2, *]; omega) | (simp only [up2_eq]; omega)) dX2_dismissWindow_13 ?_
          refine p_getN (v := .int (nI (f 5 k))) hX C hE 5 (by first | omega | (simp [up2, *]; done) | (simp [up2, *]; omega) | (simp only [up2_eq]; omega)) (by decide) qn_X2_194 rfl (congrArg (fun z => some (Value.int (nI z))) (show (dmF f i k) 5 k = f 5 k by simp [up2, exL_at, dmF_at, *])) dX2_dismissWindow_14 ?_
          refine r_ifN_eq (a := (f 5 k)) (tgt := 44) C (by have := h5a k (by omega); omega) dX2_dismissWindow_17 (by decide) (fun h17_5 => ?_) (fun h17_5 => ?_)
          · first
            | exfalso; first | omega | contradiction
            | skip
              refine r_iincN C dX2_dismissWindow_44 rfl (by decide) rfl ?_
              refine r_goto (tgt := 2) C dX2_dismissWindow_47 (by decide) ?_
              refine r_w (congrArg (fun z => WC cy a z r kn ++ Y) (dmF_no (by first | exact Or.inl (by assumption) | exact Or.inr (by assumption)))) ?_
              exact ih_L2 (k + 1) (by omega) (by omega)
          · first
            | exfalso; first | omega | contradiction
            | skip
              refine r_aload_n C dX2_dismissWindow_20 rfl ?_
              refine r_iload_n C dX2_dismissWindow_21 rfl ?_
              refine r_iload_n C dX2_dismissWindow_22 rfl ?_
              refine d_V (st := []) hX.stb C hE (C_isHolder (f := (dmF f i k)) (r := r) (kn := kn) (h := i) (w := k) hX (by first | omega | (simp [up2, *]; done) | (simp [up2, *]; omega) | (simp only [up2_eq]; omega)) (by first | omega | (simp [up2, *]; done) | (simp [up2, *]; omega) | (simp only [up2_eq]; omega)) hG) pk_X2_isHolder qm_X2_182 0 6 rfl rfl wc_0 rfl rfl (Nat.le_of_ble_eq_true rfl) dX2_dismissWindow_23 ⟨Nat.le_of_ble_eq_true rfl, Nat.le_of_ble_eq_true rfl⟩ ⟨Nat.le_of_ble_eq_true rfl, Nat.le_of_ble_eq_true rfl⟩ ?_
              refine r_ifN_eq (a := (hol f i k)) (tgt := 44) C (Nat.lt_of_le_of_lt (hol_le _ _ _) (by decide)) dX2_dismissWindow_26 (by decide) (fun h26_6 => ?_) (fun h26_6 => ?_)
              · first
                | exfalso; first | omega | contradiction
                | skip
                  refine r_iincN C dX2_dismissWindow_44 rfl (by decide) rfl ?_
                  refine r_goto (tgt := 2) C dX2_dismissWindow_47 (by decide) ?_
                  refine r_w (congrArg (fun z => WC cy a z r kn ++ Y) (dmF_no (by first | exact Or.inl (by assumption) | exact Or.inr (by assumption)))) ?_
                  exact ih_L2 (k + 1) (by omega) (by omega)
              · first
                | exfalso; first | omega | contradiction
                | skip
                  refine r_aload_n C dX2_dismissWindow_29 rfl ?_
                  refine s_get C 0 (by decide) qf_X2_11 rfl rfl dX2_dismissWindow_30 ?_
                  refine r_iload_n C dX2_dismissWindow_33 rfl ?_
                  refine s_parts C (by first | omega | (simp [up2, *]; done) | (simp [up2, *]; omega) | (simp only [up2_eq]; omega)) dX2_dismissWindow_34 ?_
                  refine r_iconst (v := (nI 0)) C dX2_dismissWindow_35 (by decide) ?_
                  refine p_putZN hX C hE (by first | omega | (simp [up2, *]; done) | (simp [up2, *]; omega) | (simp only [up2_eq]; omega)) (by first | omega | (simp [up2, *]; done) | (simp [up2, *]; omega) | (simp only [up2_eq]; omega)) qn_X2_194 dX2_dismissWindow_36 ?_
                  refine r_aload_n C dX2_dismissWindow_39 rfl ?_
                  refine r_iload_n C dX2_dismissWindow_40 rfl ?_
                  refine d_Vv (st := []) hX.stb C hE (C_dismissCursorsOver (f := (up2 (dmF f i k) 5 k 0)) (r := r) (kn := kn) (w := k) hX (by first | omega | (simp [up2, *]; done) | (simp [up2, *]; omega) | (simp only [up2_eq]; omega)) hU) pk_X2_dismissCursorsOver qm_X2_305 0 6 rfl rfl wc_0 rfl rfl (Nat.le_of_ble_eq_true rfl) dX2_dismissWindow_41 ⟨Nat.le_of_ble_eq_true rfl, Nat.le_of_ble_eq_true rfl⟩ ⟨Nat.le_of_ble_eq_true rfl, Nat.le_of_ble_eq_true rfl⟩ ?_
                  refine r_iincN C dX2_dismissWindow_44 rfl (by decide) rfl ?_
                  refine r_goto (tgt := 2) C dX2_dismissWindow_47 (by decide) ?_
                  refine r_w (congrArg (fun z => WC cy a z r kn ++ Y) (dmF_yes (by omega) (by assumption) (by assumption))) ?_
                  exact ih_L2 (k + 1) (by omega) (by omega)
  exact L2 4 4 rfl (by omega)
theorem dX2_itemsOfRows_0 : decode cX2_itemsOfRows 0 = .ok (.iconst 0, 1) := dqo_3 (kb_of ke_X2_itemsOfRows 0 rfl)
theorem dX2_itemsOfRows_1 : decode cX2_itemsOfRows 1 = .ok (.istore_n 1, 1) := dqo_60 (kb_of ke_X2_itemsOfRows 1 rfl)
theorem dX2_itemsOfRows_2 : decode cX2_itemsOfRows 2 = .ok (.iconst 0, 1) := dqo_3 (kb_of ke_X2_itemsOfRows 2 rfl)
theorem dX2_itemsOfRows_3 : decode cX2_itemsOfRows 3 = .ok (.istore_n 2, 1) := dqo_61 (kb_of ke_X2_itemsOfRows 3 rfl)
theorem dX2_itemsOfRows_4 : decode cX2_itemsOfRows 4 = .ok (.iload_n 2, 1) := dqo_28 (kb_of ke_X2_itemsOfRows 4 rfl)
theorem dX2_itemsOfRows_5 : decode cX2_itemsOfRows 5 = .ok (.iconst 4, 1) := dqo_7 (kb_of ke_X2_itemsOfRows 5 rfl)
theorem dX2_itemsOfRows_6 : decode cX2_itemsOfRows 6 = .ok (.if_icmp .ge 21, 3) := dqo_162 0 21 (by decide) (kb_of ke_X2_itemsOfRows 6 rfl) (kb_of ke_X2_itemsOfRows 7 rfl) (kb_of ke_X2_itemsOfRows 8 rfl)
theorem dX2_itemsOfRows_9 : decode cX2_itemsOfRows 9 = .ok (.iload_n 1, 1) := dqo_27 (kb_of ke_X2_itemsOfRows 9 rfl)
theorem dX2_itemsOfRows_10 : decode cX2_itemsOfRows 10 = .ok (.aload_n 0, 1) := dqo_42 (kb_of ke_X2_itemsOfRows 10 rfl)
theorem dX2_itemsOfRows_11 : decode cX2_itemsOfRows 11 = .ok (.getfield 11, 3) := dqo_180 0 11 (kb_of ke_X2_itemsOfRows 11 rfl) (kb_of ke_X2_itemsOfRows 12 rfl) (kb_of ke_X2_itemsOfRows 13 rfl)
theorem dX2_itemsOfRows_14 : decode cX2_itemsOfRows 14 = .ok (.iload_n 2, 1) := dqo_28 (kb_of ke_X2_itemsOfRows 14 rfl)
theorem dX2_itemsOfRows_15 : decode cX2_itemsOfRows 15 = .ok (.aaload, 1) := dqo_50 (kb_of ke_X2_itemsOfRows 15 rfl)
theorem dX2_itemsOfRows_16 : decode cX2_itemsOfRows 16 = .ok (.getfield 50, 3) := dqo_180 0 50 (kb_of ke_X2_itemsOfRows 16 rfl) (kb_of ke_X2_itemsOfRows 17 rfl) (kb_of ke_X2_itemsOfRows 18 rfl)
theorem dX2_itemsOfRows_19 : decode cX2_itemsOfRows 19 = .ok (.iadd, 1) := dqo_96 (kb_of ke_X2_itemsOfRows 19 rfl)
theorem dX2_itemsOfRows_20 : decode cX2_itemsOfRows 20 = .ok (.istore_n 1, 1) := dqo_60 (kb_of ke_X2_itemsOfRows 20 rfl)
theorem dX2_itemsOfRows_21 : decode cX2_itemsOfRows 21 = .ok (.iinc 2 1, 3) := dqo_132 2 1 (by decide) (kb_of ke_X2_itemsOfRows 21 rfl) (kb_of ke_X2_itemsOfRows 22 rfl) (kb_of ke_X2_itemsOfRows 23 rfl)
theorem dX2_itemsOfRows_24 : decode cX2_itemsOfRows 24 = .ok (.goto (-20), 3) := dqo_167 255 236 (by decide) (kb_of ke_X2_itemsOfRows 24 rfl) (kb_of ke_X2_itemsOfRows 25 rfl) (kb_of ke_X2_itemsOfRows 26 rfl)
theorem dX2_itemsOfRows_27 : decode cX2_itemsOfRows 27 = .ok (.iload_n 1, 1) := dqo_27 (kb_of ke_X2_itemsOfRows 27 rfl)
theorem dX2_itemsOfRows_28 : decode cX2_itemsOfRows 28 = .ok (.ireturn, 1) := dqo_172 (kb_of ke_X2_itemsOfRows 28 rfl)
set_option maxRecDepth 100000 in
set_option maxHeartbeats 4000000 in
theorem C_itemsOfRows {l : Launch} {D : va_G} {cy : Nat → ClassId} {X : (Nat → Prop) → State → Heap → Prop} {a f : Nat → Nat → Nat} {r : Nat → Nat → Int32} {kn : Int32} {Y : va_W}  (hX : EnvX X) (h4a : ∀ i, i < 4 → f 4 i ≤ 12) : Cd l D cy X yX2_itemsOfRows cX2_itemsOfRows 3 (some .int) (rmz 0 0) [.ref (a 0 0)] (WC cy a f r kn ++ Y) (some (.int (nI (smF (f 4) 4 0 0)))) (WC cy a f r kn ++ Y) := by
  refine Cm.of [some (.ref (a 0 0)), none, none] pn_X2 rfl (Nat.le_of_ble_eq_true rfl) ?_
  intro p e s m args below meth c A C hE hr hnt hn
  refine r_iconst (v := (nI 0)) C dX2_itemsOfRows_0 (by decide) ?_
  refine r_istore_n C dX2_itemsOfRows_1 (by decide) rfl ?_
  refine r_iconst (v := (nI 0)) C dX2_itemsOfRows_2 (by decide) ?_
  refine r_istore_n C dX2_itemsOfRows_3 (by decide) rfl ?_
  have L4 : ∀ (d : Nat) (k : Nat) (z : Nat), (hk : k + d = 4) → (hz : z ≤ 12 * k) → (hF : smF (f 4) d k z = smF (f 4) 4 0 0) → vC p l e (rmz 0 0) s m args below meth c D A (vx_MQ below (vG (fun v1 w1 => v1 = (some (.int (nI (smF (f 4) 4 0 0)))) ∧ w1 = WC cy a f r kn ++ Y) D vwCl A) (vGX (fun _ => False) D vwCl (WC cy a f r kn ++ Y) A) args s (rmz 0 0).cells (rmz 0 0).slots A) 3 0 0 (WC cy a f r kn ++ Y) [some (.ref (a 0 0)), some (.int (nI z)), some (.int (nI k))] 4 [] := by
    intro d
    induction d with
    | zero =>
      intro k z hk hz hF
      refine r_iload_n C dX2_itemsOfRows_4 rfl ?_
      refine r_iconst (v := (nI 4)) C dX2_itemsOfRows_5 (by decide) ?_
      refine r_icN_ge (a := k) (b := 4) (tgt := 27) C (by first | omega | (simp [up2, *]; done) | (simp [up2, *]; omega) | (simp only [up2_eq]; omega)) (by first | omega | (simp [up2, *]; done) | (simp [up2, *]; omega) | (simp only [up2_eq]; omega)) dX2_itemsOfRows_6 (by decide) (fun h6_1 => ?_) (fun h6_1 => ?_)
      · first
        | exfalso; first | omega | contradiction
        | skip
          refine r_iload_n C dX2_itemsOfRows_27 rfl ?_
          exact r_iret C hr dX2_itemsOfRows_28 ⟨by rw [← hF]; rfl, rfl⟩ (Nat.le_of_ble_eq_true rfl) (Nat.le_of_ble_eq_true rfl)
      · first
        | exfalso; first | omega | contradiction
        | skip
          refine r_iload_n C dX2_itemsOfRows_9 rfl ?_
          refine r_aload_n C dX2_itemsOfRows_10 rfl ?_
          refine s_get C 0 (by decide) qf_X2_11 rfl rfl dX2_itemsOfRows_11 ?_
          refine r_iload_n C dX2_itemsOfRows_14 rfl ?_
          refine s_parts C (by first | omega | (simp [up2, *]; done) | (simp [up2, *]; omega) | (simp only [up2_eq]; omega)) dX2_itemsOfRows_15 ?_
          refine p_getN (v := .int (nI (f 4 k))) hX C hE 4 (by first | omega | (simp [up2, *]; done) | (simp [up2, *]; omega) | (simp only [up2_eq]; omega)) (by decide) qn_X2_50 rfl rfl dX2_itemsOfRows_16 ?_
          refine r_iaddN C dX2_itemsOfRows_19 ?_
          refine r_istore_n C dX2_itemsOfRows_20 (by decide) rfl ?_
          refine r_iincN C dX2_itemsOfRows_21 rfl (by decide) rfl ?_
          refine r_goto (tgt := 4) C dX2_itemsOfRows_24 (by decide) ?_
          exact (Nat.not_lt_zero _ (by omega)).elim
    | succ d ih_L4 =>
      intro k z hk hz hF
      refine r_iload_n C dX2_itemsOfRows_4 rfl ?_
      refine r_iconst (v := (nI 4)) C dX2_itemsOfRows_5 (by decide) ?_
      refine r_icN_ge (a := k) (b := 4) (tgt := 27) C (by first | omega | (simp [up2, *]; done) | (simp [up2, *]; omega) | (simp only [up2_eq]; omega)) (by first | omega | (simp [up2, *]; done) | (simp [up2, *]; omega) | (simp only [up2_eq]; omega)) dX2_itemsOfRows_6 (by decide) (fun h6_2 => ?_) (fun h6_2 => ?_)
      · first
        | exfalso; first | omega | contradiction
        | skip
          refine r_iload_n C dX2_itemsOfRows_27 rfl ?_
          exact r_iret C hr dX2_itemsOfRows_28 ⟨by rw [← hF]; rfl, rfl⟩ (Nat.le_of_ble_eq_true rfl) (Nat.le_of_ble_eq_true rfl)
      · first
        | exfalso; first | omega | contradiction
        | skip
          refine r_iload_n C dX2_itemsOfRows_9 rfl ?_
          refine r_aload_n C dX2_itemsOfRows_10 rfl ?_
          refine s_get C 0 (by decide) qf_X2_11 rfl rfl dX2_itemsOfRows_11 ?_
          refine r_iload_n C dX2_itemsOfRows_14 rfl ?_
          refine s_parts C (by first | omega | (simp [up2, *]; done) | (simp [up2, *]; omega) | (simp only [up2_eq]; omega)) dX2_itemsOfRows_15 ?_
          refine p_getN (v := .int (nI (f 4 k))) hX C hE 4 (by first | omega | (simp [up2, *]; done) | (simp [up2, *]; omega) | (simp only [up2_eq]; omega)) (by decide) qn_X2_50 rfl rfl dX2_itemsOfRows_16 ?_
          refine r_iaddN C dX2_itemsOfRows_19 ?_
          refine r_istore_n C dX2_itemsOfRows_20 (by decide) rfl ?_
          refine r_iincN C dX2_itemsOfRows_21 rfl (by decide) rfl ?_
          refine r_goto (tgt := 4) C dX2_itemsOfRows_24 (by decide) ?_
          exact ih_L4 (k + 1) (z + (f 4 k)) (by omega) (by first | omega | (have := h4a k (by omega); omega)) (by rw [← hF]; rfl)
  exact L4 4 0 0 rfl (by omega) rfl
theorem dX2_windowsThere_0 : decode cX2_windowsThere 0 = .ok (.iconst 0, 1) := dqo_3 (kb_of ke_X2_windowsThere 0 rfl)
theorem dX2_windowsThere_1 : decode cX2_windowsThere 1 = .ok (.istore_n 1, 1) := dqo_60 (kb_of ke_X2_windowsThere 1 rfl)
theorem dX2_windowsThere_2 : decode cX2_windowsThere 2 = .ok (.iconst 4, 1) := dqo_7 (kb_of ke_X2_windowsThere 2 rfl)
theorem dX2_windowsThere_3 : decode cX2_windowsThere 3 = .ok (.istore_n 2, 1) := dqo_61 (kb_of ke_X2_windowsThere 3 rfl)
theorem dX2_windowsThere_4 : decode cX2_windowsThere 4 = .ok (.iload_n 2, 1) := dqo_28 (kb_of ke_X2_windowsThere 4 rfl)
theorem dX2_windowsThere_5 : decode cX2_windowsThere 5 = .ok (.bipush 8, 2) := dqo_16 8 (by decide) (kb_of ke_X2_windowsThere 5 rfl) (kb_of ke_X2_windowsThere 6 rfl)
theorem dX2_windowsThere_7 : decode cX2_windowsThere 7 = .ok (.if_icmp .ge 29, 3) := dqo_162 0 29 (by decide) (kb_of ke_X2_windowsThere 7 rfl) (kb_of ke_X2_windowsThere 8 rfl) (kb_of ke_X2_windowsThere 9 rfl)
theorem dX2_windowsThere_10 : decode cX2_windowsThere 10 = .ok (.iload_n 1, 1) := dqo_27 (kb_of ke_X2_windowsThere 10 rfl)
theorem dX2_windowsThere_11 : decode cX2_windowsThere 11 = .ok (.aload_n 0, 1) := dqo_42 (kb_of ke_X2_windowsThere 11 rfl)
theorem dX2_windowsThere_12 : decode cX2_windowsThere 12 = .ok (.getfield 11, 3) := dqo_180 0 11 (kb_of ke_X2_windowsThere 12 rfl) (kb_of ke_X2_windowsThere 13 rfl) (kb_of ke_X2_windowsThere 14 rfl)
theorem dX2_windowsThere_15 : decode cX2_windowsThere 15 = .ok (.iload_n 2, 1) := dqo_28 (kb_of ke_X2_windowsThere 15 rfl)
theorem dX2_windowsThere_16 : decode cX2_windowsThere 16 = .ok (.aaload, 1) := dqo_50 (kb_of ke_X2_windowsThere 16 rfl)
theorem dX2_windowsThere_17 : decode cX2_windowsThere 17 = .ok (.getfield 194, 3) := dqo_180 0 194 (kb_of ke_X2_windowsThere 17 rfl) (kb_of ke_X2_windowsThere 18 rfl) (kb_of ke_X2_windowsThere 19 rfl)
theorem dX2_windowsThere_20 : decode cX2_windowsThere 20 = .ok (.ifCond .eq 7, 3) := dqo_153 0 7 (by decide) (kb_of ke_X2_windowsThere 20 rfl) (kb_of ke_X2_windowsThere 21 rfl) (kb_of ke_X2_windowsThere 22 rfl)
theorem dX2_windowsThere_23 : decode cX2_windowsThere 23 = .ok (.iconst 1, 1) := dqo_4 (kb_of ke_X2_windowsThere 23 rfl)
theorem dX2_windowsThere_24 : decode cX2_windowsThere 24 = .ok (.goto 4, 3) := dqo_167 0 4 (by decide) (kb_of ke_X2_windowsThere 24 rfl) (kb_of ke_X2_windowsThere 25 rfl) (kb_of ke_X2_windowsThere 26 rfl)
theorem dX2_windowsThere_27 : decode cX2_windowsThere 27 = .ok (.iconst 0, 1) := dqo_3 (kb_of ke_X2_windowsThere 27 rfl)
theorem dX2_windowsThere_28 : decode cX2_windowsThere 28 = .ok (.iadd, 1) := dqo_96 (kb_of ke_X2_windowsThere 28 rfl)
theorem dX2_windowsThere_29 : decode cX2_windowsThere 29 = .ok (.istore_n 1, 1) := dqo_60 (kb_of ke_X2_windowsThere 29 rfl)
theorem dX2_windowsThere_30 : decode cX2_windowsThere 30 = .ok (.iinc 2 1, 3) := dqo_132 2 1 (by decide) (kb_of ke_X2_windowsThere 30 rfl) (kb_of ke_X2_windowsThere 31 rfl) (kb_of ke_X2_windowsThere 32 rfl)
theorem dX2_windowsThere_33 : decode cX2_windowsThere 33 = .ok (.goto (-29), 3) := dqo_167 255 227 (by decide) (kb_of ke_X2_windowsThere 33 rfl) (kb_of ke_X2_windowsThere 34 rfl) (kb_of ke_X2_windowsThere 35 rfl)
theorem dX2_windowsThere_36 : decode cX2_windowsThere 36 = .ok (.iload_n 1, 1) := dqo_27 (kb_of ke_X2_windowsThere 36 rfl)
theorem dX2_windowsThere_37 : decode cX2_windowsThere 37 = .ok (.ireturn, 1) := dqo_172 (kb_of ke_X2_windowsThere 37 rfl)
set_option maxRecDepth 100000 in
set_option maxHeartbeats 4000000 in
theorem C_windowsThere {l : Launch} {D : va_G} {cy : Nat → ClassId} {X : (Nat → Prop) → State → Heap → Prop} {a f : Nat → Nat → Nat} {r : Nat → Nat → Int32} {kn : Int32} {Y : va_W}  (hX : EnvX X) (h5a : ∀ i, i < 8 → f 5 i ≤ 1) : Cd l D cy X yX2_windowsThere cX2_windowsThere 3 (some .int) (rmz 0 0) [.ref (a 0 0)] (WC cy a f r kn ++ Y) (some (.int (nI (smF (f 5) 4 4 0)))) (WC cy a f r kn ++ Y) := by
  refine Cm.of [some (.ref (a 0 0)), none, none] pn_X2 rfl (Nat.le_of_ble_eq_true rfl) ?_
  intro p e s m args below meth c A C hE hr hnt hn
  refine r_iconst (v := (nI 0)) C dX2_windowsThere_0 (by decide) ?_
  refine r_istore_n C dX2_windowsThere_1 (by decide) rfl ?_
  refine r_iconst (v := (nI 4)) C dX2_windowsThere_2 (by decide) ?_
  refine r_istore_n C dX2_windowsThere_3 (by decide) rfl ?_
  have L4 : ∀ (d : Nat) (k : Nat) (z : Nat), (hk : k + d = 8) → (hz : z ≤ 12 * k) → (hF : smF (f 5) d k z = smF (f 5) 4 4 0) → (hk4 : 4 ≤ k) → vC p l e (rmz 0 0) s m args below meth c D A (vx_MQ below (vG (fun v1 w1 => v1 = (some (.int (nI (smF (f 5) 4 4 0)))) ∧ w1 = WC cy a f r kn ++ Y) D vwCl A) (vGX (fun _ => False) D vwCl (WC cy a f r kn ++ Y) A) args s (rmz 0 0).cells (rmz 0 0).slots A) 3 0 0 (WC cy a f r kn ++ Y) [some (.ref (a 0 0)), some (.int (nI z)), some (.int (nI k))] 4 [] := by
    intro d
    induction d with
    | zero =>
      intro k z hk hz hF hk4
      refine r_iload_n C dX2_windowsThere_4 rfl ?_
      refine r_bipush (v := (nI 8)) C dX2_windowsThere_5 (by decide) ?_
      refine r_icN_ge (a := k) (b := 8) (tgt := 36) C (by first | omega | (simp [up2, *]; done) | (simp [up2, *]; omega) | (simp only [up2_eq]; omega)) (by first | omega | (simp [up2, *]; done) | (simp [up2, *]; omega) | (simp only [up2_eq]; omega)) dX2_windowsThere_7 (by decide) (fun h7_1 => ?_) (fun h7_1 => ?_)
      · first
        | exfalso; first | omega | contradiction
        | skip
          refine r_iload_n C dX2_windowsThere_36 rfl ?_
          exact r_iret C hr dX2_windowsThere_37 ⟨by rw [← hF]; rfl, rfl⟩ (Nat.le_of_ble_eq_true rfl) (Nat.le_of_ble_eq_true rfl)
      · first
        | exfalso; first | omega | contradiction
        | skip
          refine r_iload_n C dX2_windowsThere_10 rfl ?_
          refine r_aload_n C dX2_windowsThere_11 rfl ?_
          refine s_get C 0 (by decide) qf_X2_11 rfl rfl dX2_windowsThere_12 ?_
          refine r_iload_n C dX2_windowsThere_15 rfl ?_
          refine s_parts C (by first | omega | (simp [up2, *]; done) | (simp [up2, *]; omega) | (simp only [up2_eq]; omega)) dX2_windowsThere_16 ?_
          refine p_getN (v := .int (nI (f 5 k))) hX C hE 5 (by first | omega | (simp [up2, *]; done) | (simp [up2, *]; omega) | (simp only [up2_eq]; omega)) (by decide) qn_X2_194 rfl rfl dX2_windowsThere_17 ?_
          refine r_ifN_eq (a := (f 5 k)) (tgt := 27) C (by have := h5a k (by omega); omega) dX2_windowsThere_20 (by decide) (fun h20_2 => ?_) (fun h20_2 => ?_)
          · first
            | exfalso; first | omega | contradiction
            | skip
              refine r_iconst (v := (nI 0)) C dX2_windowsThere_27 (by decide) ?_
              refine r_iaddN C dX2_windowsThere_28 ?_
              refine r_istore_n C dX2_windowsThere_29 (by decide) rfl ?_
              refine r_iincN C dX2_windowsThere_30 rfl (by decide) rfl ?_
              refine r_goto (tgt := 4) C dX2_windowsThere_33 (by decide) ?_
              exact (Nat.not_lt_zero _ (by omega)).elim
          · first
            | exfalso; first | omega | contradiction
            | skip
              refine r_iconst (v := (nI 1)) C dX2_windowsThere_23 (by decide) ?_
              refine r_goto (tgt := 28) C dX2_windowsThere_24 (by decide) ?_
              refine r_iaddN C dX2_windowsThere_28 ?_
              refine r_istore_n C dX2_windowsThere_29 (by decide) rfl ?_
              refine r_iincN C dX2_windowsThere_30 rfl (by decide) rfl ?_
              refine r_goto (tgt := 4) C dX2_windowsThere_33 (by decide) ?_
              exact (Nat.not_lt_zero _ (by omega)).elim
    | succ d ih_L4 =>
      intro k z hk hz hF hk4
      refine r_iload_n C dX2_windowsThere_4 rfl ?_
      refine r_bipush (v := (nI 8)) C dX2_windowsThere_5 (by decide) ?_
      refine r_icN_ge (a := k) (b := 8) (tgt := 36) C (by first | omega | (simp [up2, *]; done) | (simp [up2, *]; omega) | (simp only [up2_eq]; omega)) (by first | omega | (simp [up2, *]; done) | (simp [up2, *]; omega) | (simp only [up2_eq]; omega)) dX2_windowsThere_7 (by decide) (fun h7_3 => ?_) (fun h7_3 => ?_)
      · first
        | exfalso; first | omega | contradiction
        | skip
          refine r_iload_n C dX2_windowsThere_36 rfl ?_
          exact r_iret C hr dX2_windowsThere_37 ⟨by rw [← hF]; rfl, rfl⟩ (Nat.le_of_ble_eq_true rfl) (Nat.le_of_ble_eq_true rfl)
      · first
        | exfalso; first | omega | contradiction
        | skip
          refine r_iload_n C dX2_windowsThere_10 rfl ?_
          refine r_aload_n C dX2_windowsThere_11 rfl ?_
          refine s_get C 0 (by decide) qf_X2_11 rfl rfl dX2_windowsThere_12 ?_
          refine r_iload_n C dX2_windowsThere_15 rfl ?_
          refine s_parts C (by first | omega | (simp [up2, *]; done) | (simp [up2, *]; omega) | (simp only [up2_eq]; omega)) dX2_windowsThere_16 ?_
          refine p_getN (v := .int (nI (f 5 k))) hX C hE 5 (by first | omega | (simp [up2, *]; done) | (simp [up2, *]; omega) | (simp only [up2_eq]; omega)) (by decide) qn_X2_194 rfl rfl dX2_windowsThere_17 ?_
          refine r_ifN_eq (a := (f 5 k)) (tgt := 27) C (by have := h5a k (by omega); omega) dX2_windowsThere_20 (by decide) (fun h20_4 => ?_) (fun h20_4 => ?_)
          · first
            | exfalso; first | omega | contradiction
            | skip
              refine r_iconst (v := (nI 0)) C dX2_windowsThere_27 (by decide) ?_
              refine r_iaddN C dX2_windowsThere_28 ?_
              refine r_istore_n C dX2_windowsThere_29 (by decide) rfl ?_
              refine r_iincN C dX2_windowsThere_30 rfl (by decide) rfl ?_
              refine r_goto (tgt := 4) C dX2_windowsThere_33 (by decide) ?_
              exact ih_L4 (k + 1) (z + 0) (by omega) (by first | omega | (have := h5a k (by omega); omega)) (by rw [← hF]; simp only [smF]; congr 1; have h8 := h5a k (by omega); omega) (by omega)
          · first
            | exfalso; first | omega | contradiction
            | skip
              refine r_iconst (v := (nI 1)) C dX2_windowsThere_23 (by decide) ?_
              refine r_goto (tgt := 28) C dX2_windowsThere_24 (by decide) ?_
              refine r_iaddN C dX2_windowsThere_28 ?_
              refine r_istore_n C dX2_windowsThere_29 (by decide) rfl ?_
              refine r_iincN C dX2_windowsThere_30 rfl (by decide) rfl ?_
              refine r_goto (tgt := 4) C dX2_windowsThere_33 (by decide) ?_
              exact ih_L4 (k + 1) (z + 1) (by omega) (by first | omega | (have := h5a k (by omega); omega)) (by rw [← hF]; simp only [smF]; congr 1; have h8 := h5a k (by omega); omega) (by omega)
  exact L4 4 4 0 rfl (by omega) rfl (by omega)
theorem dX2_cursorsThere_0 : decode cX2_cursorsThere 0 = .ok (.iconst 0, 1) := dqo_3 (kb_of ke_X2_cursorsThere 0 rfl)
theorem dX2_cursorsThere_1 : decode cX2_cursorsThere 1 = .ok (.istore_n 1, 1) := dqo_60 (kb_of ke_X2_cursorsThere 1 rfl)
theorem dX2_cursorsThere_2 : decode cX2_cursorsThere 2 = .ok (.iconst 0, 1) := dqo_3 (kb_of ke_X2_cursorsThere 2 rfl)
theorem dX2_cursorsThere_3 : decode cX2_cursorsThere 3 = .ok (.istore_n 2, 1) := dqo_61 (kb_of ke_X2_cursorsThere 3 rfl)
theorem dX2_cursorsThere_4 : decode cX2_cursorsThere 4 = .ok (.iload_n 2, 1) := dqo_28 (kb_of ke_X2_cursorsThere 4 rfl)
theorem dX2_cursorsThere_5 : decode cX2_cursorsThere 5 = .ok (.iconst 3, 1) := dqo_6 (kb_of ke_X2_cursorsThere 5 rfl)
theorem dX2_cursorsThere_6 : decode cX2_cursorsThere 6 = .ok (.if_icmp .ge 29, 3) := dqo_162 0 29 (by decide) (kb_of ke_X2_cursorsThere 6 rfl) (kb_of ke_X2_cursorsThere 7 rfl) (kb_of ke_X2_cursorsThere 8 rfl)
theorem dX2_cursorsThere_9 : decode cX2_cursorsThere 9 = .ok (.iload_n 1, 1) := dqo_27 (kb_of ke_X2_cursorsThere 9 rfl)
theorem dX2_cursorsThere_10 : decode cX2_cursorsThere 10 = .ok (.aload_n 0, 1) := dqo_42 (kb_of ke_X2_cursorsThere 10 rfl)
theorem dX2_cursorsThere_11 : decode cX2_cursorsThere 11 = .ok (.getfield 24, 3) := dqo_180 0 24 (kb_of ke_X2_cursorsThere 11 rfl) (kb_of ke_X2_cursorsThere 12 rfl) (kb_of ke_X2_cursorsThere 13 rfl)
theorem dX2_cursorsThere_14 : decode cX2_cursorsThere 14 = .ok (.iload_n 2, 1) := dqo_28 (kb_of ke_X2_cursorsThere 14 rfl)
theorem dX2_cursorsThere_15 : decode cX2_cursorsThere 15 = .ok (.aaload, 1) := dqo_50 (kb_of ke_X2_cursorsThere 15 rfl)
theorem dX2_cursorsThere_16 : decode cX2_cursorsThere 16 = .ok (.getfield 221, 3) := dqo_180 0 221 (kb_of ke_X2_cursorsThere 16 rfl) (kb_of ke_X2_cursorsThere 17 rfl) (kb_of ke_X2_cursorsThere 18 rfl)
theorem dX2_cursorsThere_19 : decode cX2_cursorsThere 19 = .ok (.ifCond .eq 7, 3) := dqo_153 0 7 (by decide) (kb_of ke_X2_cursorsThere 19 rfl) (kb_of ke_X2_cursorsThere 20 rfl) (kb_of ke_X2_cursorsThere 21 rfl)
theorem dX2_cursorsThere_22 : decode cX2_cursorsThere 22 = .ok (.iconst 1, 1) := dqo_4 (kb_of ke_X2_cursorsThere 22 rfl)
theorem dX2_cursorsThere_23 : decode cX2_cursorsThere 23 = .ok (.goto 4, 3) := dqo_167 0 4 (by decide) (kb_of ke_X2_cursorsThere 23 rfl) (kb_of ke_X2_cursorsThere 24 rfl) (kb_of ke_X2_cursorsThere 25 rfl)
theorem dX2_cursorsThere_26 : decode cX2_cursorsThere 26 = .ok (.iconst 0, 1) := dqo_3 (kb_of ke_X2_cursorsThere 26 rfl)
theorem dX2_cursorsThere_27 : decode cX2_cursorsThere 27 = .ok (.iadd, 1) := dqo_96 (kb_of ke_X2_cursorsThere 27 rfl)
theorem dX2_cursorsThere_28 : decode cX2_cursorsThere 28 = .ok (.istore_n 1, 1) := dqo_60 (kb_of ke_X2_cursorsThere 28 rfl)
theorem dX2_cursorsThere_29 : decode cX2_cursorsThere 29 = .ok (.iinc 2 1, 3) := dqo_132 2 1 (by decide) (kb_of ke_X2_cursorsThere 29 rfl) (kb_of ke_X2_cursorsThere 30 rfl) (kb_of ke_X2_cursorsThere 31 rfl)
theorem dX2_cursorsThere_32 : decode cX2_cursorsThere 32 = .ok (.goto (-28), 3) := dqo_167 255 228 (by decide) (kb_of ke_X2_cursorsThere 32 rfl) (kb_of ke_X2_cursorsThere 33 rfl) (kb_of ke_X2_cursorsThere 34 rfl)
theorem dX2_cursorsThere_35 : decode cX2_cursorsThere 35 = .ok (.iload_n 1, 1) := dqo_27 (kb_of ke_X2_cursorsThere 35 rfl)
theorem dX2_cursorsThere_36 : decode cX2_cursorsThere 36 = .ok (.ireturn, 1) := dqo_172 (kb_of ke_X2_cursorsThere 36 rfl)
set_option maxRecDepth 100000 in
set_option maxHeartbeats 4000000 in
theorem C_cursorsThere {l : Launch} {D : va_G} {cy : Nat → ClassId} {X : (Nat → Prop) → State → Heap → Prop} {a f : Nat → Nat → Nat} {r : Nat → Nat → Int32} {kn : Int32} {Y : va_W}  (hX : EnvX X) (h9a : ∀ k, k < 3 → f 9 k ≤ 1) : Cd l D cy X yX2_cursorsThere cX2_cursorsThere 3 (some .int) (rmz 0 0) [.ref (a 0 0)] (WC cy a f r kn ++ Y) (some (.int (nI (smF (f 9) 3 0 0)))) (WC cy a f r kn ++ Y) := by
  refine Cm.of [some (.ref (a 0 0)), none, none] pn_X2 rfl (Nat.le_of_ble_eq_true rfl) ?_
  intro p e s m args below meth c A C hE hr hnt hn
  refine r_iconst (v := (nI 0)) C dX2_cursorsThere_0 (by decide) ?_
  refine r_istore_n C dX2_cursorsThere_1 (by decide) rfl ?_
  refine r_iconst (v := (nI 0)) C dX2_cursorsThere_2 (by decide) ?_
  refine r_istore_n C dX2_cursorsThere_3 (by decide) rfl ?_
  have L4 : ∀ (d : Nat) (k : Nat) (z : Nat), (hk : k + d = 3) → (hz : z ≤ 12 * k) → (hF : smF (f 9) d k z = smF (f 9) 3 0 0) → vC p l e (rmz 0 0) s m args below meth c D A (vx_MQ below (vG (fun v1 w1 => v1 = (some (.int (nI (smF (f 9) 3 0 0)))) ∧ w1 = WC cy a f r kn ++ Y) D vwCl A) (vGX (fun _ => False) D vwCl (WC cy a f r kn ++ Y) A) args s (rmz 0 0).cells (rmz 0 0).slots A) 3 0 0 (WC cy a f r kn ++ Y) [some (.ref (a 0 0)), some (.int (nI z)), some (.int (nI k))] 4 [] := by
    intro d
    induction d with
    | zero =>
      intro k z hk hz hF
      refine r_iload_n C dX2_cursorsThere_4 rfl ?_
      refine r_iconst (v := (nI 3)) C dX2_cursorsThere_5 (by decide) ?_
      refine r_icN_ge (a := k) (b := 3) (tgt := 35) C (by first | omega | (simp [up2, *]; done) | (simp [up2, *]; omega) | (simp only [up2_eq]; omega)) (by first | omega | (simp [up2, *]; done) | (simp [up2, *]; omega) | (simp only [up2_eq]; omega)) dX2_cursorsThere_6 (by decide) (fun h6_1 => ?_) (fun h6_1 => ?_)
      · first
        | exfalso; first | omega | contradiction
        | skip
          refine r_iload_n C dX2_cursorsThere_35 rfl ?_
          exact r_iret C hr dX2_cursorsThere_36 ⟨by rw [← hF]; rfl, rfl⟩ (Nat.le_of_ble_eq_true rfl) (Nat.le_of_ble_eq_true rfl)
      · first
        | exfalso; first | omega | contradiction
        | skip
          refine r_iload_n C dX2_cursorsThere_9 rfl ?_
          refine r_aload_n C dX2_cursorsThere_10 rfl ?_
          refine s_get C 1 (by decide) qf_X2_24 rfl rfl dX2_cursorsThere_11 ?_
          refine r_iload_n C dX2_cursorsThere_14 rfl ?_
          refine s_curs C (by first | omega | (simp [up2, *]; done) | (simp [up2, *]; omega) | (simp only [up2_eq]; omega)) dX2_cursorsThere_15 ?_
          refine u_getN (v := .int (nI (f 9 k))) hX C hE 3 (by first | omega | (simp [up2, *]; done) | (simp [up2, *]; omega) | (simp only [up2_eq]; omega)) (by decide) qn_X2_221 rfl rfl dX2_cursorsThere_16 ?_
          refine r_ifN_eq (a := (f 9 k)) (tgt := 26) C (by have := h9a k (by omega); omega) dX2_cursorsThere_19 (by decide) (fun h19_2 => ?_) (fun h19_2 => ?_)
          · first
            | exfalso; first | omega | contradiction
            | skip
              refine r_iconst (v := (nI 0)) C dX2_cursorsThere_26 (by decide) ?_
              refine r_iaddN C dX2_cursorsThere_27 ?_
              refine r_istore_n C dX2_cursorsThere_28 (by decide) rfl ?_
              refine r_iincN C dX2_cursorsThere_29 rfl (by decide) rfl ?_
              refine r_goto (tgt := 4) C dX2_cursorsThere_32 (by decide) ?_
              exact (Nat.not_lt_zero _ (by omega)).elim
          · first
            | exfalso; first | omega | contradiction
            | skip
              refine r_iconst (v := (nI 1)) C dX2_cursorsThere_22 (by decide) ?_
              refine r_goto (tgt := 27) C dX2_cursorsThere_23 (by decide) ?_
              refine r_iaddN C dX2_cursorsThere_27 ?_
              refine r_istore_n C dX2_cursorsThere_28 (by decide) rfl ?_
              refine r_iincN C dX2_cursorsThere_29 rfl (by decide) rfl ?_
              refine r_goto (tgt := 4) C dX2_cursorsThere_32 (by decide) ?_
              exact (Nat.not_lt_zero _ (by omega)).elim
    | succ d ih_L4 =>
      intro k z hk hz hF
      refine r_iload_n C dX2_cursorsThere_4 rfl ?_
      refine r_iconst (v := (nI 3)) C dX2_cursorsThere_5 (by decide) ?_
      refine r_icN_ge (a := k) (b := 3) (tgt := 35) C (by first | omega | (simp [up2, *]; done) | (simp [up2, *]; omega) | (simp only [up2_eq]; omega)) (by first | omega | (simp [up2, *]; done) | (simp [up2, *]; omega) | (simp only [up2_eq]; omega)) dX2_cursorsThere_6 (by decide) (fun h6_3 => ?_) (fun h6_3 => ?_)
      · first
        | exfalso; first | omega | contradiction
        | skip
          refine r_iload_n C dX2_cursorsThere_35 rfl ?_
          exact r_iret C hr dX2_cursorsThere_36 ⟨by rw [← hF]; rfl, rfl⟩ (Nat.le_of_ble_eq_true rfl) (Nat.le_of_ble_eq_true rfl)
      · first
        | exfalso; first | omega | contradiction
        | skip
          refine r_iload_n C dX2_cursorsThere_9 rfl ?_
          refine r_aload_n C dX2_cursorsThere_10 rfl ?_
          refine s_get C 1 (by decide) qf_X2_24 rfl rfl dX2_cursorsThere_11 ?_
          refine r_iload_n C dX2_cursorsThere_14 rfl ?_
          refine s_curs C (by first | omega | (simp [up2, *]; done) | (simp [up2, *]; omega) | (simp only [up2_eq]; omega)) dX2_cursorsThere_15 ?_
          refine u_getN (v := .int (nI (f 9 k))) hX C hE 3 (by first | omega | (simp [up2, *]; done) | (simp [up2, *]; omega) | (simp only [up2_eq]; omega)) (by decide) qn_X2_221 rfl rfl dX2_cursorsThere_16 ?_
          refine r_ifN_eq (a := (f 9 k)) (tgt := 26) C (by have := h9a k (by omega); omega) dX2_cursorsThere_19 (by decide) (fun h19_4 => ?_) (fun h19_4 => ?_)
          · first
            | exfalso; first | omega | contradiction
            | skip
              refine r_iconst (v := (nI 0)) C dX2_cursorsThere_26 (by decide) ?_
              refine r_iaddN C dX2_cursorsThere_27 ?_
              refine r_istore_n C dX2_cursorsThere_28 (by decide) rfl ?_
              refine r_iincN C dX2_cursorsThere_29 rfl (by decide) rfl ?_
              refine r_goto (tgt := 4) C dX2_cursorsThere_32 (by decide) ?_
              exact ih_L4 (k + 1) (z + 0) (by omega) (by first | omega | (have := h9a k (by omega); omega)) (by rw [← hF]; simp only [smF]; congr 1; have h8 := h9a k (by omega); omega)
          · first
            | exfalso; first | omega | contradiction
            | skip
              refine r_iconst (v := (nI 1)) C dX2_cursorsThere_22 (by decide) ?_
              refine r_goto (tgt := 27) C dX2_cursorsThere_23 (by decide) ?_
              refine r_iaddN C dX2_cursorsThere_27 ?_
              refine r_istore_n C dX2_cursorsThere_28 (by decide) rfl ?_
              refine r_iincN C dX2_cursorsThere_29 rfl (by decide) rfl ?_
              refine r_goto (tgt := 4) C dX2_cursorsThere_32 (by decide) ?_
              exact ih_L4 (k + 1) (z + 1) (by omega) (by first | omega | (have := h9a k (by omega); omega)) (by rw [← hF]; simp only [smF]; congr 1; have h8 := h9a k (by omega); omega)
  exact L4 3 0 0 rfl (by omega) rfl
