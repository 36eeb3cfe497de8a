/-! CONTRACTS of the class: it is sound -/
theorem pk_X2_isRowSound : PkV RX2 yX2_isRowSound cX2_isRowSound 2 (some .boolean) 1 := ⟨⟨qi_X2_isRowSound, qs_X2_isRowSound, qz_X2, qc_X2_isRowSound⟩, rfl, mh_X2.1, mh_X2.2, pd_14⟩
theorem dX2_isSound_0 : decode cX2_isSound 0 = .ok (.iconst 0, 1) := dqo_3 (kb_X2_isSound_0 0 rfl)
theorem dX2_isSound_1 : decode cX2_isSound 1 = .ok (.istore_n 1, 1) := dqo_60 (kb_X2_isSound_0 1 rfl)
theorem dX2_isSound_2 : decode cX2_isSound 2 = .ok (.iload_n 1, 1) := dqo_27 (kb_X2_isSound_0 2 rfl)
theorem dX2_isSound_3 : decode cX2_isSound 3 = .ok (.iconst 4, 1) := dqo_7 (kb_X2_isSound_0 3 rfl)
theorem dX2_isSound_4 : decode cX2_isSound 4 = .ok (.if_icmp .ge 24, 3) := dqo_162 0 24 (by decide) (kb_X2_isSound_0 4 rfl) (kb_X2_isSound_0 5 rfl) (kb_X2_isSound_0 6 rfl)
theorem dX2_isSound_7 : decode cX2_isSound 7 = .ok (.aload_n 0, 1) := dqo_42 (kb_X2_isSound_0 7 rfl)
theorem dX2_isSound_8 : decode cX2_isSound 8 = .ok (.aload_n 0, 1) := dqo_42 (kb_X2_isSound_0 8 rfl)
theorem dX2_isSound_9 : decode cX2_isSound 9 = .ok (.getfield 11, 3) := dqo_180 0 11 (kb_X2_isSound_0 9 rfl) (kb_X2_isSound_0 10 rfl) (kb_X2_isSound_0 11 rfl)
theorem dX2_isSound_12 : decode cX2_isSound 12 = .ok (.iload_n 1, 1) := dqo_27 (kb_X2_isSound_0 12 rfl)
theorem dX2_isSound_13 : decode cX2_isSound 13 = .ok (.aaload, 1) := dqo_50 (kb_X2_isSound_0 13 rfl)
theorem dX2_isSound_14 : decode cX2_isSound 14 = .ok (.invokevirtual 249, 3) := dqo_182 0 249 (kb_X2_isSound_0 14 rfl) (kb_X2_isSound_0 15 rfl) (kb_X2_isSound_0 16 rfl)
theorem dX2_isSound_17 : decode cX2_isSound 17 = .ok (.ifCond .ne 5, 3) := dqo_154 0 5 (by decide) (kb_X2_isSound_0 17 rfl) (kb_X2_isSound_0 18 rfl) (kb_X2_isSound_0 19 rfl)
theorem dX2_isSound_22 : decode cX2_isSound 22 = .ok (.iinc 1 1, 3) := dqo_132 1 1 (by decide) (kb_X2_isSound_0 22 rfl) (kb_X2_isSound_0 23 rfl) (kb_X2_isSound_0 24 rfl)
theorem dX2_isSound_25 : decode cX2_isSound 25 = .ok (.goto (-23), 3) := dqo_167 255 233 (by decide) (kb_X2_isSound_0 25 rfl) (kb_X2_isSound_0 26 rfl) (kb_X2_isSound_0 27 rfl)
theorem dX2_isSound_28 : decode cX2_isSound 28 = .ok (.iconst 4, 1) := dqo_7 (kb_X2_isSound_0 28 rfl)
theorem dX2_isSound_29 : decode cX2_isSound 29 = .ok (.istore_n 1, 1) := dqo_60 (kb_X2_isSound_0 29 rfl)
theorem dX2_isSound_30 : decode cX2_isSound 30 = .ok (.iload_n 1, 1) := dqo_27 (kb_X2_isSound_0 30 rfl)
theorem dX2_isSound_31 : decode cX2_isSound 31 = .ok (.bipush 8, 2) := dqo_16 8 (by decide) (kb_X2_isSound_0 31 rfl) (kb_X2_isSound_0 32 rfl)
theorem dX2_isSound_33 : decode cX2_isSound 33 = .ok (.if_icmp .ge 42, 3) := dqo_162 0 42 (by decide) (kb_X2_isSound_0 33 rfl) (kb_X2_isSound_0 34 rfl) (kb_X2_isSound_0 35 rfl)
theorem dX2_isSound_36 : decode cX2_isSound 36 = .ok (.aload_n 0, 1) := dqo_42 (kb_X2_isSound_0 36 rfl)
theorem dX2_isSound_37 : decode cX2_isSound 37 = .ok (.getfield 11, 3) := dqo_180 0 11 (kb_X2_isSound_0 37 rfl) (kb_X2_isSound_0 38 rfl) (kb_X2_isSound_0 39 rfl)
theorem dX2_isSound_40 : decode cX2_isSound 40 = .ok (.iload_n 1, 1) := dqo_27 (kb_X2_isSound_0 40 rfl)
theorem dX2_isSound_41 : decode cX2_isSound 41 = .ok (.aaload, 1) := dqo_50 (kb_X2_isSound_0 41 rfl)
theorem dX2_isSound_42 : decode cX2_isSound 42 = .ok (.astore_n 2, 1) := dqo_77 (kb_X2_isSound_0 42 rfl)
theorem dX2_isSound_43 : decode cX2_isSound 43 = .ok (.aload_n 2, 1) := dqo_44 (kb_X2_isSound_0 43 rfl)
theorem dX2_isSound_44 : decode cX2_isSound 44 = .ok (.getfield 194, 3) := dqo_180 0 194 (kb_X2_isSound_0 44 rfl) (kb_X2_isSound_0 45 rfl) (kb_X2_isSound_0 46 rfl)
theorem dX2_isSound_47 : decode cX2_isSound 47 = .ok (.ifCond .eq 22, 3) := dqo_153 0 22 (by decide) (kb_X2_isSound_0 47 rfl) (kb_X2_isSound_0 48 rfl) (kb_X2_isSound_0 49 rfl)
theorem dX2_isSound_50 : decode cX2_isSound 50 = .ok (.aload_n 0, 1) := dqo_42 (kb_X2_isSound_0 50 rfl)
theorem dX2_isSound_51 : decode cX2_isSound 51 = .ok (.getfield 11, 3) := dqo_180 0 11 (kb_X2_isSound_0 51 rfl) (kb_X2_isSound_0 52 rfl) (kb_X2_isSound_0 53 rfl)
theorem dX2_isSound_54 : decode cX2_isSound 54 = .ok (.aload_n 2, 1) := dqo_44 (kb_X2_isSound_0 54 rfl)
theorem dX2_isSound_55 : decode cX2_isSound 55 = .ok (.getfield 204, 3) := dqo_180 0 204 (kb_X2_isSound_0 55 rfl) (kb_X2_isSound_0 56 rfl) (kb_X2_isSound_0 57 rfl)
theorem dX2_isSound_58 : decode cX2_isSound 58 = .ok (.aaload, 1) := dqo_50 (kb_X2_isSound_0 58 rfl)
theorem dX2_isSound_59 : decode cX2_isSound 59 = .ok (.aload_n 2, 1) := dqo_44 (kb_X2_isSound_0 59 rfl)
theorem dX2_isSound_60 : decode cX2_isSound 60 = .ok (.invokevirtual 122, 3) := dqo_182 0 122 (kb_X2_isSound_0 60 rfl) (kb_X2_isSound_0 61 rfl) (kb_X2_isSound_0 62 rfl)
theorem dX2_isSound_63 : decode cX2_isSound 63 = .ok (.iconst (-1), 1) := dqo_2 (kb_X2_isSound_0 63 rfl)
theorem dX2_isSound_64 : decode cX2_isSound 64 = .ok (.if_icmp .ne 5, 3) := dqo_160 0 5 (by decide) (kb_X2_isSound_1 0 rfl) (kb_X2_isSound_1 1 rfl) (kb_X2_isSound_1 2 rfl)
theorem dX2_isSound_69 : decode cX2_isSound 69 = .ok (.iinc 1 1, 3) := dqo_132 1 1 (by decide) (kb_X2_isSound_1 5 rfl) (kb_X2_isSound_1 6 rfl) (kb_X2_isSound_1 7 rfl)
theorem dX2_isSound_72 : decode cX2_isSound 72 = .ok (.goto (-42), 3) := dqo_167 255 214 (by decide) (kb_X2_isSound_1 8 rfl) (kb_X2_isSound_1 9 rfl) (kb_X2_isSound_1 10 rfl)
theorem dX2_isSound_75 : decode cX2_isSound 75 = .ok (.iconst 1, 1) := dqo_4 (kb_X2_isSound_1 11 rfl)
theorem dX2_isSound_76 : decode cX2_isSound 76 = .ok (.ireturn, 1) := dqo_172 (kb_X2_isSound_1 12 rfl)
set_option maxRecDepth 100000 in
set_option maxHeartbeats 4000000 in
theorem K_isSound {l : Launch} {D : va_G} {cy : Nat → ClassId} {X : (Nat → Prop) → State → Heap → Prop} {a f : Nat → Nat → Nat} {r : Nat → Nat → Int32} {kn : Int32} {Y : va_W}  (hX : EnvX X) (hC : CInv f) (hR : ∀ i q, i < 4 → q < f 4 i → -99 ≤ (r (f 0 i) (f 3 i + q)).toInt ∧ (r (f 0 i) (f 3 i + q)).toInt ≤ 99) : Cm l D cy X yX2_isSound cX2_isSound 3 (some .boolean) (rmz 6 320) [.ref (a 0 0)] (WC cy a f r kn ++ Y) (fun v w1 => v = some (.int (nI 1)) ∧ ∃ f' r', w1 = WC cy a f' r' kn ++ Y ∧ Scr f r f' r') (fun _ => False) := by
  have q3 := hC.sp
  refine Cm.of [some (.ref (a 0 0)), none, none] pn_X2 rfl (Nat.le_of_ble_eq_true rfl) ?_
  intro p e s m args below meth c A C hE hr hnt hn
  refine r_iconst (v := (nI 0)) C dX2_isSound_0 (by decide) ?_
  refine r_istore_n C dX2_isSound_1 (by decide) rfl ?_
  have L2 : ∀ (d : Nat) (t : Nat) (f1 : Nat → Nat → Nat) (r1 : Nat → Nat → Int32), (ht : t + d = 4) → (hs : Scr f r f1 r1) → vC p l e (rmz 6 320) s m args below meth c D A (vx_MQ below (vG (fun v1 w1 => v1 = (some (.int (nI 1))) ∧ ∃ f' r', w1 = WC cy a f' r' kn ++ Y ∧ Scr f r f' r') D vwCl A) (vGX (fun _ => False) D vwCl (WC cy a f r kn ++ Y) A) args s (rmz 6 320).cells (rmz 6 320).slots A) 3 0 0 (WC cy a f1 r1 kn ++ Y) [some (.ref (a 0 0)), some (.int (nI t)), none] 2 [] := by
    intro d
    induction d with
    | zero =>
      intro t f1 r1 ht hs
      refine r_iload_n C dX2_isSound_2 rfl ?_
      refine r_iconst (v := (nI 4)) C dX2_isSound_3 (by decide) ?_
      refine r_icN_ge (a := t) (b := 4) (tgt := 28) C (by first | omega | (simp [up2, *]; done) | (simp [up2, *]; omega) | (simp only [up2_eq]; omega) | (split <;> omega)) (by first | omega | (simp [up2, *]; done) | (simp [up2, *]; omega) | (simp only [up2_eq]; omega) | (split <;> omega)) dX2_isSound_4 (by decide) (fun h4_1 => ?_) (fun h4_1 => ?_)
      · first
        | exfalso; first | omega | contradiction
        | skip
          have hD := hs.inv hC
          refine r_iconst (v := (nI 4)) C dX2_isSound_28 (by decide) ?_
          refine r_istore_n C dX2_isSound_29 (by decide) rfl ?_
          have L30 : ∀ (d : Nat) (t : Nat), (ht : t + d = 8 ∧ 4 ≤ t) → vC p l e (rmz 6 320) s m args below meth c D A (vx_MQ below (vG (fun v1 w1 => v1 = (some (.int (nI 1))) ∧ ∃ f' r', w1 = WC cy a f' r' kn ++ Y ∧ Scr f r f' r') D vwCl A) (vGX (fun _ => False) D vwCl (WC cy a f r kn ++ Y) A) args s (rmz 6 320).cells (rmz 6 320).slots A) 3 0 0 (WC cy a f1 r1 kn ++ Y) [some (.ref (a 0 0)), some (.int (nI t)), none] 30 [] := by
            intro d
            induction d with
            | zero =>
              intro t ht
              refine r_iload_n C dX2_isSound_30 rfl ?_
              refine r_bipush (v := (nI 8)) C dX2_isSound_31 (by decide) ?_
              refine r_icN_ge (a := t) (b := 8) (tgt := 75) C (by first | omega | (simp [up2, *]; done) | (simp [up2, *]; omega) | (simp only [up2_eq]; omega) | (split <;> omega)) (by first | omega | (simp [up2, *]; done) | (simp [up2, *]; omega) | (simp only [up2_eq]; omega) | (split <;> omega)) dX2_isSound_33 (by decide) (fun h33_2 => ?_) (fun h33_2 => ?_)
              · first
                | exfalso; first | omega | contradiction
                | skip
                  refine r_iconst (v := (nI 1)) C dX2_isSound_75 (by decide) ?_
                  exact r_zret C hr (by first | omega | (simp [up2, *]; done) | (simp [up2, *]; omega) | (simp only [up2_eq]; omega) | (split <;> omega)) dX2_isSound_76 ⟨rfl, f1, r1, rfl, hs⟩ (Nat.le_of_ble_eq_true rfl) (Nat.le_of_ble_eq_true rfl)
              · first
                | exfalso; first | omega | contradiction
                | skip
                  refine r_aload_n C dX2_isSound_36 rfl ?_
                  refine s_get C 0 (by decide) qf_X2_11 rfl rfl dX2_isSound_37 ?_
                  refine r_iload_n C dX2_isSound_40 rfl ?_
                  refine s_parts C (by first | omega | (simp [up2, *]; done) | (simp [up2, *]; omega) | (simp only [up2_eq]; omega) | (split <;> omega)) dX2_isSound_41 ?_
                  refine r_astore_n C dX2_isSound_42 (by decide) rfl ?_
                  refine r_aload_n C dX2_isSound_43 rfl ?_
                  refine p_getN (v := .int (nI (f1 5 t))) hX C hE 5 (by first | omega | (simp [up2, *]; done) | (simp [up2, *]; omega) | (simp only [up2_eq]; omega) | (split <;> omega)) (by decide) qn_X2_194 rfl rfl dX2_isSound_44 ?_
                  have q1 := hD.h5 t (by omega)
                  refine r_ifN_eq (a := (f1 5 t)) (tgt := 69) C (by first | omega | (simp [up2, *]; done) | (simp [up2, *]; omega) | (simp only [up2_eq]; omega) | (split <;> omega)) dX2_isSound_47 (by decide) (fun h47_3 => ?_) (fun h47_3 => ?_)
                  · first
                    | exfalso; first | omega | contradiction
                    | skip
                      refine r_iincN C dX2_isSound_69 rfl (by decide) rfl ?_
                      refine r_goto (tgt := 30) C dX2_isSound_72 (by decide) ?_
                      refine r_drop 2 ?_
                      exact (Nat.not_lt_zero _ (by omega)).elim
                  · first
                    | exfalso; first | omega | contradiction
                    | skip
                      have q2 := hD.wi (i := t) (by omega) (by omega) (by omega)
                      have q3 := hD.th (i := t) (by omega) (by omega)
                      have q4 := hD.th q2.1 q2.2.1
                      have q5 := win_place (r := r1) hD (i := t) (by omega) (by omega) (by omega)
                      refine r_aload_n C dX2_isSound_50 rfl ?_
                      refine s_get C 0 (by decide) qf_X2_11 rfl rfl dX2_isSound_51 ?_
                      refine r_aload_n C dX2_isSound_54 rfl ?_
                      refine p_getN (v := .int (nI (f1 2 t))) hX C hE 2 (by first | omega | (simp [up2, *]; done) | (simp [up2, *]; omega) | (simp only [up2_eq]; omega) | (split <;> omega)) (by decide) qn_X2_204 rfl rfl dX2_isSound_55 ?_
                      refine s_parts C (by first | omega | (simp [up2, *]; done) | (simp [up2, *]; omega) | (simp only [up2_eq]; omega) | (split <;> omega)) dX2_isSound_58 ?_
                      refine r_aload_n C dX2_isSound_59 rfl ?_
                      refine d_V (st := []) hX.stb C hE (C_placeOfAll (f := f1) (r := r1) (kn := kn) (i := (f1 2 t)) (j := t) hX (by first | omega | (simp [up2, *]; done) | (simp [up2, *]; omega) | (simp only [up2_eq]; omega) | (split <;> omega)) (by first | omega | (simp [up2, *]; done) | (simp [up2, *]; omega) | (simp only [up2_eq]; omega) | (split <;> omega)) (by first | omega | (simp [up2, *]; done) | (simp [up2, *]; omega) | (simp only [up2_eq]; omega) | (split <;> omega)) (by first | omega | (simp [up2, *]; done) | (simp [up2, *]; omega) | (simp only [up2_eq]; omega) | (split <;> omega)) (by first | omega | (simp [up2, *]; done) | (simp [up2, *]; omega) | (simp only [up2_eq]; omega) | (split <;> omega)) (by first | omega | (simp [up2, *]; done) | (simp [up2, *]; omega) | (simp only [up2_eq]; omega) | (split <;> omega))) pk_X1_placeOfAll qm_X2_122 (3 + (f1 2 t)) 5 rfl rfl (wc_p (by first | omega | (simp [up2, *]; done) | (simp [up2, *]; omega) | (simp only [up2_eq]; omega) | (split <;> omega))) rfl rfl (Nat.le_of_ble_eq_true rfl) dX2_isSound_60 ⟨Nat.le_of_ble_eq_true rfl, Nat.le_of_ble_eq_true rfl⟩ ⟨Nat.le_of_ble_eq_true rfl, Nat.le_of_ble_eq_true rfl⟩ ?_
                      refine r_iconst (v := (nI 4294967295)) C dX2_isSound_63 (by decide) ?_
                      refine r_icN_ne (a := (poF (fun k => stF (fun q => r1 (f1 0 (f1 2 t)) (f1 3 (f1 2 t) + (k + q))) (fun q => r1 (f1 0 t) (f1 3 t + q)) (f1 4 t) 0) (f1 4 (f1 2 t) + 1 - f1 4 t) 0)) (b := 4294967295) (tgt := 69) C (by first | omega | (simp [up2, *]; done) | (simp [up2, *]; omega) | (simp only [up2_eq]; omega) | (split <;> omega)) (by first | omega | (simp [up2, *]; done) | (simp [up2, *]; omega) | (simp only [up2_eq]; omega) | (split <;> omega)) dX2_isSound_64 (by decide) (fun h64_4 => ?_) (fun h64_4 => ?_)
                      · skip
                        refine r_iincN C dX2_isSound_69 rfl (by decide) rfl ?_
                        refine r_goto (tgt := 30) C dX2_isSound_72 (by decide) ?_
                        refine r_drop 2 ?_
                        exact (Nat.not_lt_zero _ (by omega)).elim
                      · exact absurd h64_4 (by first | omega | (simp [up2, *]; done) | (simp [up2, *]; omega) | (simp only [up2_eq]; omega) | (split <;> omega))
            | succ d ih_L30 =>
              intro t ht
              refine r_iload_n C dX2_isSound_30 rfl ?_
              refine r_bipush (v := (nI 8)) C dX2_isSound_31 (by decide) ?_
              refine r_icN_ge (a := t) (b := 8) (tgt := 75) C (by first | omega | (simp [up2, *]; done) | (simp [up2, *]; omega) | (simp only [up2_eq]; omega) | (split <;> omega)) (by first | omega | (simp [up2, *]; done) | (simp [up2, *]; omega) | (simp only [up2_eq]; omega) | (split <;> omega)) dX2_isSound_33 (by decide) (fun h33_5 => ?_) (fun h33_5 => ?_)
              · first
                | exfalso; first | omega | contradiction
                | skip
                  refine r_iconst (v := (nI 1)) C dX2_isSound_75 (by decide) ?_
                  exact r_zret C hr (by first | omega | (simp [up2, *]; done) | (simp [up2, *]; omega) | (simp only [up2_eq]; omega) | (split <;> omega)) dX2_isSound_76 ⟨rfl, f1, r1, rfl, hs⟩ (Nat.le_of_ble_eq_true rfl) (Nat.le_of_ble_eq_true rfl)
              · first
                | exfalso; first | omega | contradiction
                | skip
                  refine r_aload_n C dX2_isSound_36 rfl ?_
                  refine s_get C 0 (by decide) qf_X2_11 rfl rfl dX2_isSound_37 ?_
                  refine r_iload_n C dX2_isSound_40 rfl ?_
                  refine s_parts C (by first | omega | (simp [up2, *]; done) | (simp [up2, *]; omega) | (simp only [up2_eq]; omega) | (split <;> omega)) dX2_isSound_41 ?_
                  refine r_astore_n C dX2_isSound_42 (by decide) rfl ?_
                  refine r_aload_n C dX2_isSound_43 rfl ?_
                  refine p_getN (v := .int (nI (f1 5 t))) hX C hE 5 (by first | omega | (simp [up2, *]; done) | (simp [up2, *]; omega) | (simp only [up2_eq]; omega) | (split <;> omega)) (by decide) qn_X2_194 rfl rfl dX2_isSound_44 ?_
                  have q1 := hD.h5 t (by omega)
                  refine r_ifN_eq (a := (f1 5 t)) (tgt := 69) C (by first | omega | (simp [up2, *]; done) | (simp [up2, *]; omega) | (simp only [up2_eq]; omega) | (split <;> omega)) dX2_isSound_47 (by decide) (fun h47_6 => ?_) (fun h47_6 => ?_)
                  · first
                    | exfalso; first | omega | contradiction
                    | skip
                      refine r_iincN C dX2_isSound_69 rfl (by decide) rfl ?_
                      refine r_goto (tgt := 30) C dX2_isSound_72 (by decide) ?_
                      refine r_drop 2 ?_
                      exact ih_L30 (t + 1) (by omega)
                  · first
                    | exfalso; first | omega | contradiction
                    | skip
                      have q2 := hD.wi (i := t) (by omega) (by omega) (by omega)
                      have q3 := hD.th (i := t) (by omega) (by omega)
                      have q4 := hD.th q2.1 q2.2.1
                      have q5 := win_place (r := r1) hD (i := t) (by omega) (by omega) (by omega)
                      refine r_aload_n C dX2_isSound_50 rfl ?_
                      refine s_get C 0 (by decide) qf_X2_11 rfl rfl dX2_isSound_51 ?_
                      refine r_aload_n C dX2_isSound_54 rfl ?_
                      refine p_getN (v := .int (nI (f1 2 t))) hX C hE 2 (by first | omega | (simp [up2, *]; done) | (simp [up2, *]; omega) | (simp only [up2_eq]; omega) | (split <;> omega)) (by decide) qn_X2_204 rfl rfl dX2_isSound_55 ?_
                      refine s_parts C (by first | omega | (simp [up2, *]; done) | (simp [up2, *]; omega) | (simp only [up2_eq]; omega) | (split <;> omega)) dX2_isSound_58 ?_
                      refine r_aload_n C dX2_isSound_59 rfl ?_
                      refine d_V (st := []) hX.stb C hE (C_placeOfAll (f := f1) (r := r1) (kn := kn) (i := (f1 2 t)) (j := t) hX (by first | omega | (simp [up2, *]; done) | (simp [up2, *]; omega) | (simp only [up2_eq]; omega) | (split <;> omega)) (by first | omega | (simp [up2, *]; done) | (simp [up2, *]; omega) | (simp only [up2_eq]; omega) | (split <;> omega)) (by first | omega | (simp [up2, *]; done) | (simp [up2, *]; omega) | (simp only [up2_eq]; omega) | (split <;> omega)) (by first | omega | (simp [up2, *]; done) | (simp [up2, *]; omega) | (simp only [up2_eq]; omega) | (split <;> omega)) (by first | omega | (simp [up2, *]; done) | (simp [up2, *]; omega) | (simp only [up2_eq]; omega) | (split <;> omega)) (by first | omega | (simp [up2, *]; done) | (simp [up2, *]; omega) | (simp only [up2_eq]; omega) | (split <;> omega))) pk_X1_placeOfAll qm_X2_122 (3 + (f1 2 t)) 5 rfl rfl (wc_p (by first | omega | (simp [up2, *]; done) | (simp [up2, *]; omega) | (simp only [up2_eq]; omega) | (split <;> omega))) rfl rfl (Nat.le_of_ble_eq_true rfl) dX2_isSound_60 ⟨Nat.le_of_ble_eq_true rfl, Nat.le_of_ble_eq_true rfl⟩ ⟨Nat.le_of_ble_eq_true rfl, Nat.le_of_ble_eq_true rfl⟩ ?_
                      refine r_iconst (v := (nI 4294967295)) C dX2_isSound_63 (by decide) ?_
                      refine r_icN_ne (a := (poF (fun k => stF (fun q => r1 (f1 0 (f1 2 t)) (f1 3 (f1 2 t) + (k + q))) (fun q => r1 (f1 0 t) (f1 3 t + q)) (f1 4 t) 0) (f1 4 (f1 2 t) + 1 - f1 4 t) 0)) (b := 4294967295) (tgt := 69) C (by first | omega | (simp [up2, *]; done) | (simp [up2, *]; omega) | (simp only [up2_eq]; omega) | (split <;> omega)) (by first | omega | (simp [up2, *]; done) | (simp [up2, *]; omega) | (simp only [up2_eq]; omega) | (split <;> omega)) dX2_isSound_64 (by decide) (fun h64_7 => ?_) (fun h64_7 => ?_)
                      · skip
                        refine r_iincN C dX2_isSound_69 rfl (by decide) rfl ?_
                        refine r_goto (tgt := 30) C dX2_isSound_72 (by decide) ?_
                        refine r_drop 2 ?_
                        exact ih_L30 (t + 1) (by omega)
                      · exact absurd h64_7 (by first | omega | (simp [up2, *]; done) | (simp [up2, *]; omega) | (simp only [up2_eq]; omega) | (split <;> omega))
          exact L30 4 4 (by omega)
      · first
        | exfalso; first | omega | contradiction
        | skip
          refine r_aload_n C dX2_isSound_7 rfl ?_
          refine r_aload_n C dX2_isSound_8 rfl ?_
          refine s_get C 0 (by decide) qf_X2_11 rfl rfl dX2_isSound_9 ?_
          refine r_iload_n C dX2_isSound_12 rfl ?_
          refine s_parts C (by first | omega | (simp [up2, *]; done) | (simp [up2, *]; omega) | (simp only [up2_eq]; omega) | (split <;> omega)) dX2_isSound_13 ?_
          refine d_VE (st := []) hX.stb C hE (K_isRowSound (f := f1) (r := r1) (kn := kn) (i := t) hX (hs.inv hC) (by omega) (fun q hq => by rw [hs.1 0 t (Or.inl (by decide)), hs.1 3 t (Or.inl (by decide)), hs.2.2.1 _ _ (by have := hC.rw (i := t) (by omega); omega)]; exact hR t q (by omega) (by rw [← hs.1 4 t (Or.inr (by omega))]; exact hq))) pk_X2_isRowSound qm_X2_249 0 6 rfl rfl wc_0 rfl rfl (Nat.le_of_ble_eq_true rfl) dX2_isSound_14 ⟨Nat.le_of_ble_eq_true rfl, Nat.le_of_ble_eq_true rfl⟩ ⟨Nat.le_of_ble_eq_true rfl, Nat.le_of_ble_eq_true rfl⟩ ?_
          intro f2 r2 t2
          refine r_ifN_ne (a := 1) (tgt := 22) C (by first | omega | (simp [up2, *]; done) | (simp [up2, *]; omega) | (simp only [up2_eq]; omega) | (split <;> omega)) dX2_isSound_17 (by decide) (fun h17_8 => ?_) (fun h17_8 => ?_)
          · skip
            refine r_iincN C dX2_isSound_22 rfl (by decide) rfl ?_
            refine r_goto (tgt := 2) C dX2_isSound_25 (by decide) ?_
            exact (Nat.not_lt_zero _ (by omega)).elim
          · exact absurd h17_8 (by first | omega | (simp [up2, *]; done) | (simp [up2, *]; omega) | (simp only [up2_eq]; omega) | (split <;> omega))
    | succ d ih_L2 =>
      intro t f1 r1 ht hs
      refine r_iload_n C dX2_isSound_2 rfl ?_
      refine r_iconst (v := (nI 4)) C dX2_isSound_3 (by decide) ?_
      refine r_icN_ge (a := t) (b := 4) (tgt := 28) C (by first | omega | (simp [up2, *]; done) | (simp [up2, *]; omega) | (simp only [up2_eq]; omega) | (split <;> omega)) (by first | omega | (simp [up2, *]; done) | (simp [up2, *]; omega) | (simp only [up2_eq]; omega) | (split <;> omega)) dX2_isSound_4 (by decide) (fun h4_9 => ?_) (fun h4_9 => ?_)
      · first
        | exfalso; first | omega | contradiction
        | skip
          have hD := hs.inv hC
          refine r_iconst (v := (nI 4)) C dX2_isSound_28 (by decide) ?_
          refine r_istore_n C dX2_isSound_29 (by decide) rfl ?_
          have L30 : ∀ (d : Nat) (t : Nat), (ht : t + d = 8 ∧ 4 ≤ t) → vC p l e (rmz 6 320) s m args below meth c D A (vx_MQ below (vG (fun v1 w1 => v1 = (some (.int (nI 1))) ∧ ∃ f' r', w1 = WC cy a f' r' kn ++ Y ∧ Scr f r f' r') D vwCl A) (vGX (fun _ => False) D vwCl (WC cy a f r kn ++ Y) A) args s (rmz 6 320).cells (rmz 6 320).slots A) 3 0 0 (WC cy a f1 r1 kn ++ Y) [some (.ref (a 0 0)), some (.int (nI t)), none] 30 [] := by
            intro d
            induction d with
            | zero =>
              intro t ht
              refine r_iload_n C dX2_isSound_30 rfl ?_
              refine r_bipush (v := (nI 8)) C dX2_isSound_31 (by decide) ?_
              refine r_icN_ge (a := t) (b := 8) (tgt := 75) C (by first | omega | (simp [up2, *]; done) | (simp [up2, *]; omega) | (simp only [up2_eq]; omega) | (split <;> omega)) (by first | omega | (simp [up2, *]; done) | (simp [up2, *]; omega) | (simp only [up2_eq]; omega) | (split <;> omega)) dX2_isSound_33 (by decide) (fun h33_10 => ?_) (fun h33_10 => ?_)
              · first
                | exfalso; first | omega | contradiction
                | skip
                  refine r_iconst (v := (nI 1)) C dX2_isSound_75 (by decide) ?_
                  exact r_zret C hr (by first | omega | (simp [up2, *]; done) | (simp [up2, *]; omega) | (simp only [up2_eq]; omega) | (split <;> omega)) dX2_isSound_76 ⟨rfl, f1, r1, rfl, hs⟩ (Nat.le_of_ble_eq_true rfl) (Nat.le_of_ble_eq_true rfl)
              · first
                | exfalso; first | omega | contradiction
                | skip
                  refine r_aload_n C dX2_isSound_36 rfl ?_
                  refine s_get C 0 (by decide) qf_X2_11 rfl rfl dX2_isSound_37 ?_
                  refine r_iload_n C dX2_isSound_40 rfl ?_
                  refine s_parts C (by first | omega | (simp [up2, *]; done) | (simp [up2, *]; omega) | (simp only [up2_eq]; omega) | (split <;> omega)) dX2_isSound_41 ?_
                  refine r_astore_n C dX2_isSound_42 (by decide) rfl ?_
                  refine r_aload_n C dX2_isSound_43 rfl ?_
                  refine p_getN (v := .int (nI (f1 5 t))) hX C hE 5 (by first | omega | (simp [up2, *]; done) | (simp [up2, *]; omega) | (simp only [up2_eq]; omega) | (split <;> omega)) (by decide) qn_X2_194 rfl rfl dX2_isSound_44 ?_
                  have q1 := hD.h5 t (by omega)
                  refine r_ifN_eq (a := (f1 5 t)) (tgt := 69) C (by first | omega | (simp [up2, *]; done) | (simp [up2, *]; omega) | (simp only [up2_eq]; omega) | (split <;> omega)) dX2_isSound_47 (by decide) (fun h47_11 => ?_) (fun h47_11 => ?_)
                  · first
                    | exfalso; first | omega | contradiction
                    | skip
                      refine r_iincN C dX2_isSound_69 rfl (by decide) rfl ?_
                      refine r_goto (tgt := 30) C dX2_isSound_72 (by decide) ?_
                      refine r_drop 2 ?_
                      exact (Nat.not_lt_zero _ (by omega)).elim
                  · first
                    | exfalso; first | omega | contradiction
                    | skip
                      have q2 := hD.wi (i := t) (by omega) (by omega) (by omega)
                      have q3 := hD.th (i := t) (by omega) (by omega)
                      have q4 := hD.th q2.1 q2.2.1
                      have q5 := win_place (r := r1) hD (i := t) (by omega) (by omega) (by omega)
                      refine r_aload_n C dX2_isSound_50 rfl ?_
                      refine s_get C 0 (by decide) qf_X2_11 rfl rfl dX2_isSound_51 ?_
                      refine r_aload_n C dX2_isSound_54 rfl ?_
                      refine p_getN (v := .int (nI (f1 2 t))) hX C hE 2 (by first | omega | (simp [up2, *]; done) | (simp [up2, *]; omega) | (simp only [up2_eq]; omega) | (split <;> omega)) (by decide) qn_X2_204 rfl rfl dX2_isSound_55 ?_
                      refine s_parts C (by first | omega | (simp [up2, *]; done) | (simp [up2, *]; omega) | (simp only [up2_eq]; omega) | (split <;> omega)) dX2_isSound_58 ?_
                      refine r_aload_n C dX2_isSound_59 rfl ?_
                      refine d_V (st := []) hX.stb C hE (C_placeOfAll (f := f1) (r := r1) (kn := kn) (i := (f1 2 t)) (j := t) hX (by first | omega | (simp [up2, *]; done) | (simp [up2, *]; omega) | (simp only [up2_eq]; omega) | (split <;> omega)) (by first | omega | (simp [up2, *]; done) | (simp [up2, *]; omega) | (simp only [up2_eq]; omega) | (split <;> omega)) (by first | omega | (simp [up2, *]; done) | (simp [up2, *]; omega) | (simp only [up2_eq]; omega) | (split <;> omega)) (by first | omega | (simp [up2, *]; done) | (simp [up2, *]; omega) | (simp only [up2_eq]; omega) | (split <;> omega)) (by first | omega | (simp [up2, *]; done) | (simp [up2, *]; omega) | (simp only [up2_eq]; omega) | (split <;> omega)) (by first | omega | (simp [up2, *]; done) | (simp [up2, *]; omega) | (simp only [up2_eq]; omega) | (split <;> omega))) pk_X1_placeOfAll qm_X2_122 (3 + (f1 2 t)) 5 rfl rfl (wc_p (by first | omega | (simp [up2, *]; done) | (simp [up2, *]; omega) | (simp only [up2_eq]; omega) | (split <;> omega))) rfl rfl (Nat.le_of_ble_eq_true rfl) dX2_isSound_60 ⟨Nat.le_of_ble_eq_true rfl, Nat.le_of_ble_eq_true rfl⟩ ⟨Nat.le_of_ble_eq_true rfl, Nat.le_of_ble_eq_true rfl⟩ ?_
                      refine r_iconst (v := (nI 4294967295)) C dX2_isSound_63 (by decide) ?_
                      refine r_icN_ne (a := (poF (fun k => stF (fun q => r1 (f1 0 (f1 2 t)) (f1 3 (f1 2 t) + (k + q))) (fun q => r1 (f1 0 t) (f1 3 t + q)) (f1 4 t) 0) (f1 4 (f1 2 t) + 1 - f1 4 t) 0)) (b := 4294967295) (tgt := 69) C (by first | omega | (simp [up2, *]; done) | (simp [up2, *]; omega) | (simp only [up2_eq]; omega) | (split <;> omega)) (by first | omega | (simp [up2, *]; done) | (simp [up2, *]; omega) | (simp only [up2_eq]; omega) | (split <;> omega)) dX2_isSound_64 (by decide) (fun h64_12 => ?_) (fun h64_12 => ?_)
                      · skip
                        refine r_iincN C dX2_isSound_69 rfl (by decide) rfl ?_
                        refine r_goto (tgt := 30) C dX2_isSound_72 (by decide) ?_
                        refine r_drop 2 ?_
                        exact (Nat.not_lt_zero _ (by omega)).elim
                      · exact absurd h64_12 (by first | omega | (simp [up2, *]; done) | (simp [up2, *]; omega) | (simp only [up2_eq]; omega) | (split <;> omega))
            | succ d ih_L30 =>
              intro t ht
              refine r_iload_n C dX2_isSound_30 rfl ?_
              refine r_bipush (v := (nI 8)) C dX2_isSound_31 (by decide) ?_
              refine r_icN_ge (a := t) (b := 8) (tgt := 75) C (by first | omega | (simp [up2, *]; done) | (simp [up2, *]; omega) | (simp only [up2_eq]; omega) | (split <;> omega)) (by first | omega | (simp [up2, *]; done) | (simp [up2, *]; omega) | (simp only [up2_eq]; omega) | (split <;> omega)) dX2_isSound_33 (by decide) (fun h33_13 => ?_) (fun h33_13 => ?_)
              · first
                | exfalso; first | omega | contradiction
                | skip
                  refine r_iconst (v := (nI 1)) C dX2_isSound_75 (by decide) ?_
                  exact r_zret C hr (by first | omega | (simp [up2, *]; done) | (simp [up2, *]; omega) | (simp only [up2_eq]; omega) | (split <;> omega)) dX2_isSound_76 ⟨rfl, f1, r1, rfl, hs⟩ (Nat.le_of_ble_eq_true rfl) (Nat.le_of_ble_eq_true rfl)
              · first
                | exfalso; first | omega | contradiction
                | skip
                  refine r_aload_n C dX2_isSound_36 rfl ?_
                  refine s_get C 0 (by decide) qf_X2_11 rfl rfl dX2_isSound_37 ?_
                  refine r_iload_n C dX2_isSound_40 rfl ?_
                  refine s_parts C (by first | omega | (simp [up2, *]; done) | (simp [up2, *]; omega) | (simp only [up2_eq]; omega) | (split <;> omega)) dX2_isSound_41 ?_
                  refine r_astore_n C dX2_isSound_42 (by decide) rfl ?_
                  refine r_aload_n C dX2_isSound_43 rfl ?_
                  refine p_getN (v := .int (nI (f1 5 t))) hX C hE 5 (by first | omega | (simp [up2, *]; done) | (simp [up2, *]; omega) | (simp only [up2_eq]; omega) | (split <;> omega)) (by decide) qn_X2_194 rfl rfl dX2_isSound_44 ?_
                  have q1 := hD.h5 t (by omega)
                  refine r_ifN_eq (a := (f1 5 t)) (tgt := 69) C (by first | omega | (simp [up2, *]; done) | (simp [up2, *]; omega) | (simp only [up2_eq]; omega) | (split <;> omega)) dX2_isSound_47 (by decide) (fun h47_14 => ?_) (fun h47_14 => ?_)
                  · first
                    | exfalso; first | omega | contradiction
                    | skip
                      refine r_iincN C dX2_isSound_69 rfl (by decide) rfl ?_
                      refine r_goto (tgt := 30) C dX2_isSound_72 (by decide) ?_
                      refine r_drop 2 ?_
                      exact ih_L30 (t + 1) (by omega)
                  · first
                    | exfalso; first | omega | contradiction
                    | skip
                      have q2 := hD.wi (i := t) (by omega) (by omega) (by omega)
                      have q3 := hD.th (i := t) (by omega) (by omega)
                      have q4 := hD.th q2.1 q2.2.1
                      have q5 := win_place (r := r1) hD (i := t) (by omega) (by omega) (by omega)
                      refine r_aload_n C dX2_isSound_50 rfl ?_
                      refine s_get C 0 (by decide) qf_X2_11 rfl rfl dX2_isSound_51 ?_
                      refine r_aload_n C dX2_isSound_54 rfl ?_
                      refine p_getN (v := .int (nI (f1 2 t))) hX C hE 2 (by first | omega | (simp [up2, *]; done) | (simp [up2, *]; omega) | (simp only [up2_eq]; omega) | (split <;> omega)) (by decide) qn_X2_204 rfl rfl dX2_isSound_55 ?_
                      refine s_parts C (by first | omega | (simp [up2, *]; done) | (simp [up2, *]; omega) | (simp only [up2_eq]; omega) | (split <;> omega)) dX2_isSound_58 ?_
                      refine r_aload_n C dX2_isSound_59 rfl ?_
                      refine d_V (st := []) hX.stb C hE (C_placeOfAll (f := f1) (r := r1) (kn := kn) (i := (f1 2 t)) (j := t) hX (by first | omega | (simp [up2, *]; done) | (simp [up2, *]; omega) | (simp only [up2_eq]; omega) | (split <;> omega)) (by first | omega | (simp [up2, *]; done) | (simp [up2, *]; omega) | (simp only [up2_eq]; omega) | (split <;> omega)) (by first | omega | (simp [up2, *]; done) | (simp [up2, *]; omega) | (simp only [up2_eq]; omega) | (split <;> omega)) (by first | omega | (simp [up2, *]; done) | (simp [up2, *]; omega) | (simp only [up2_eq]; omega) | (split <;> omega)) (by first | omega | (simp [up2, *]; done) | (simp [up2, *]; omega) | (simp only [up2_eq]; omega) | (split <;> omega)) (by first | omega | (simp [up2, *]; done) | (simp [up2, *]; omega) | (simp only [up2_eq]; omega) | (split <;> omega))) pk_X1_placeOfAll qm_X2_122 (3 + (f1 2 t)) 5 rfl rfl (wc_p (by first | omega | (simp [up2, *]; done) | (simp [up2, *]; omega) | (simp only [up2_eq]; omega) | (split <;> omega))) rfl rfl (Nat.le_of_ble_eq_true rfl) dX2_isSound_60 ⟨Nat.le_of_ble_eq_true rfl, Nat.le_of_ble_eq_true rfl⟩ ⟨Nat.le_of_ble_eq_true rfl, Nat.le_of_ble_eq_true rfl⟩ ?_
                      refine r_iconst (v := (nI 4294967295)) C dX2_isSound_63 (by decide) ?_
                      refine r_icN_ne (a := (poF (fun k => stF (fun q => r1 (f1 0 (f1 2 t)) (f1 3 (f1 2 t) + (k + q))) (fun q => r1 (f1 0 t) (f1 3 t + q)) (f1 4 t) 0) (f1 4 (f1 2 t) + 1 - f1 4 t) 0)) (b := 4294967295) (tgt := 69) C (by first | omega | (simp [up2, *]; done) | (simp [up2, *]; omega) | (simp only [up2_eq]; omega) | (split <;> omega)) (by first | omega | (simp [up2, *]; done) | (simp [up2, *]; omega) | (simp only [up2_eq]; omega) | (split <;> omega)) dX2_isSound_64 (by decide) (fun h64_15 => ?_) (fun h64_15 => ?_)
                      · skip
                        refine r_iincN C dX2_isSound_69 rfl (by decide) rfl ?_
                        refine r_goto (tgt := 30) C dX2_isSound_72 (by decide) ?_
                        refine r_drop 2 ?_
                        exact ih_L30 (t + 1) (by omega)
                      · exact absurd h64_15 (by first | omega | (simp [up2, *]; done) | (simp [up2, *]; omega) | (simp only [up2_eq]; omega) | (split <;> omega))
          exact L30 4 4 (by omega)
      · first
        | exfalso; first | omega | contradiction
        | skip
          refine r_aload_n C dX2_isSound_7 rfl ?_
          refine r_aload_n C dX2_isSound_8 rfl ?_
          refine s_get C 0 (by decide) qf_X2_11 rfl rfl dX2_isSound_9 ?_
          refine r_iload_n C dX2_isSound_12 rfl ?_
          refine s_parts C (by first | omega | (simp [up2, *]; done) | (simp [up2, *]; omega) | (simp only [up2_eq]; omega) | (split <;> omega)) dX2_isSound_13 ?_
          refine d_VE (st := []) hX.stb C hE (K_isRowSound (f := f1) (r := r1) (kn := kn) (i := t) hX (hs.inv hC) (by omega) (fun q hq => by rw [hs.1 0 t (Or.inl (by decide)), hs.1 3 t (Or.inl (by decide)), hs.2.2.1 _ _ (by have := hC.rw (i := t) (by omega); omega)]; exact hR t q (by omega) (by rw [← hs.1 4 t (Or.inr (by omega))]; exact hq))) pk_X2_isRowSound qm_X2_249 0 6 rfl rfl wc_0 rfl rfl (Nat.le_of_ble_eq_true rfl) dX2_isSound_14 ⟨Nat.le_of_ble_eq_true rfl, Nat.le_of_ble_eq_true rfl⟩ ⟨Nat.le_of_ble_eq_true rfl, Nat.le_of_ble_eq_true rfl⟩ ?_
          intro f2 r2 t2
          refine r_ifN_ne (a := 1) (tgt := 22) C (by first | omega | (simp [up2, *]; done) | (simp [up2, *]; omega) | (simp only [up2_eq]; omega) | (split <;> omega)) dX2_isSound_17 (by decide) (fun h17_16 => ?_) (fun h17_16 => ?_)
          · skip
            refine r_iincN C dX2_isSound_22 rfl (by decide) rfl ?_
            refine r_goto (tgt := 2) C dX2_isSound_25 (by decide) ?_
            exact ih_L2 (t + 1) f2 r2 (by omega) (hs.trans t2)
          · exact absurd h17_16 (by first | omega | (simp [up2, *]; done) | (simp [up2, *]; omega) | (simp only [up2_eq]; omega) | (split <;> omega))
  exact L2 4 0 f r (by omega) (Scr.refl hC)
