/-! CONTRACTS of the class: a row is sound -/
theorem pk_X2_isMoveSound : PkV RX2 yX2_isMoveSound cX2_isMoveSound 5 (some .boolean) 2 := ⟨⟨qi_X2_isMoveSound, qs_X2_isMoveSound, qz_X2, qc_X2_isMoveSound⟩, rfl, mh_X2.1, mh_X2.2, pd_18⟩
theorem pk_X2_isOrderSound : PkV RX2 yX2_isOrderSound cX2_isOrderSound 2 (some .boolean) 1 := ⟨⟨qi_X2_isOrderSound, qs_X2_isOrderSound, qz_X2, qc_X2_isOrderSound⟩, rfl, mh_X2.1, mh_X2.2, pd_14⟩
theorem pk_X2_isRiffleSound : PkV RX2 yX2_isRiffleSound cX2_isRiffleSound 2 (some .boolean) 1 := ⟨⟨qi_X2_isRiffleSound, qs_X2_isRiffleSound, qz_X2, qc_X2_isRiffleSound⟩, rfl, mh_X2.1, mh_X2.2, pd_14⟩
theorem pk_X2_isTurnSound : PkV RX2 yX2_isTurnSound cX2_isTurnSound 2 (some .boolean) 1 := ⟨⟨qi_X2_isTurnSound, qs_X2_isTurnSound, qz_X2, qc_X2_isTurnSound⟩, rfl, mh_X2.1, mh_X2.2, pd_14⟩
theorem dX2_isRowSound_0 : decode cX2_isRowSound 0 = .ok (.aload_n 0, 1) := dqo_42 (kb_of ke_X2_isRowSound 0 rfl)
theorem dX2_isRowSound_1 : decode cX2_isRowSound 1 = .ok (.aload_n 1, 1) := dqo_43 (kb_of ke_X2_isRowSound 1 rfl)
theorem dX2_isRowSound_2 : decode cX2_isRowSound 2 = .ok (.iconst 1, 1) := dqo_4 (kb_of ke_X2_isRowSound 2 rfl)
theorem dX2_isRowSound_3 : decode cX2_isRowSound 3 = .ok (.invokevirtual 308, 3) := dqo_182 1 52 (kb_of ke_X2_isRowSound 3 rfl) (kb_of ke_X2_isRowSound 4 rfl) (kb_of ke_X2_isRowSound 5 rfl)
theorem dX2_isRowSound_6 : decode cX2_isRowSound 6 = .ok (.ifCond .eq 49, 3) := dqo_153 0 49 (by decide) (kb_of ke_X2_isRowSound 6 rfl) (kb_of ke_X2_isRowSound 7 rfl) (kb_of ke_X2_isRowSound 8 rfl)
theorem dX2_isRowSound_9 : decode cX2_isRowSound 9 = .ok (.aload_n 0, 1) := dqo_42 (kb_of ke_X2_isRowSound 9 rfl)
theorem dX2_isRowSound_10 : decode cX2_isRowSound 10 = .ok (.aload_n 1, 1) := dqo_43 (kb_of ke_X2_isRowSound 10 rfl)
theorem dX2_isRowSound_11 : decode cX2_isRowSound 11 = .ok (.iconst 2, 1) := dqo_5 (kb_of ke_X2_isRowSound 11 rfl)
theorem dX2_isRowSound_12 : decode cX2_isRowSound 12 = .ok (.invokevirtual 308, 3) := dqo_182 1 52 (kb_of ke_X2_isRowSound 12 rfl) (kb_of ke_X2_isRowSound 13 rfl) (kb_of ke_X2_isRowSound 14 rfl)
theorem dX2_isRowSound_15 : decode cX2_isRowSound 15 = .ok (.ifCond .eq 40, 3) := dqo_153 0 40 (by decide) (kb_of ke_X2_isRowSound 15 rfl) (kb_of ke_X2_isRowSound 16 rfl) (kb_of ke_X2_isRowSound 17 rfl)
theorem dX2_isRowSound_18 : decode cX2_isRowSound 18 = .ok (.aload_n 0, 1) := dqo_42 (kb_of ke_X2_isRowSound 18 rfl)
theorem dX2_isRowSound_19 : decode cX2_isRowSound 19 = .ok (.aload_n 1, 1) := dqo_43 (kb_of ke_X2_isRowSound 19 rfl)
theorem dX2_isRowSound_20 : decode cX2_isRowSound 20 = .ok (.iconst 5, 1) := dqo_8 (kb_of ke_X2_isRowSound 20 rfl)
theorem dX2_isRowSound_21 : decode cX2_isRowSound 21 = .ok (.invokevirtual 308, 3) := dqo_182 1 52 (kb_of ke_X2_isRowSound 21 rfl) (kb_of ke_X2_isRowSound 22 rfl) (kb_of ke_X2_isRowSound 23 rfl)
theorem dX2_isRowSound_24 : decode cX2_isRowSound 24 = .ok (.ifCond .eq 31, 3) := dqo_153 0 31 (by decide) (kb_of ke_X2_isRowSound 24 rfl) (kb_of ke_X2_isRowSound 25 rfl) (kb_of ke_X2_isRowSound 26 rfl)
theorem dX2_isRowSound_27 : decode cX2_isRowSound 27 = .ok (.aload_n 0, 1) := dqo_42 (kb_of ke_X2_isRowSound 27 rfl)
theorem dX2_isRowSound_28 : decode cX2_isRowSound 28 = .ok (.aload_n 1, 1) := dqo_43 (kb_of ke_X2_isRowSound 28 rfl)
theorem dX2_isRowSound_29 : decode cX2_isRowSound 29 = .ok (.invokevirtual 312, 3) := dqo_182 1 56 (kb_of ke_X2_isRowSound 29 rfl) (kb_of ke_X2_isRowSound 30 rfl) (kb_of ke_X2_isRowSound 31 rfl)
theorem dX2_isRowSound_32 : decode cX2_isRowSound 32 = .ok (.ifCond .eq 23, 3) := dqo_153 0 23 (by decide) (kb_of ke_X2_isRowSound 32 rfl) (kb_of ke_X2_isRowSound 33 rfl) (kb_of ke_X2_isRowSound 34 rfl)
theorem dX2_isRowSound_35 : decode cX2_isRowSound 35 = .ok (.aload_n 0, 1) := dqo_42 (kb_of ke_X2_isRowSound 35 rfl)
theorem dX2_isRowSound_36 : decode cX2_isRowSound 36 = .ok (.aload_n 1, 1) := dqo_43 (kb_of ke_X2_isRowSound 36 rfl)
theorem dX2_isRowSound_37 : decode cX2_isRowSound 37 = .ok (.invokevirtual 315, 3) := dqo_182 1 59 (kb_of ke_X2_isRowSound 37 rfl) (kb_of ke_X2_isRowSound 38 rfl) (kb_of ke_X2_isRowSound 39 rfl)
theorem dX2_isRowSound_40 : decode cX2_isRowSound 40 = .ok (.ifCond .eq 15, 3) := dqo_153 0 15 (by decide) (kb_of ke_X2_isRowSound 40 rfl) (kb_of ke_X2_isRowSound 41 rfl) (kb_of ke_X2_isRowSound 42 rfl)
theorem dX2_isRowSound_43 : decode cX2_isRowSound 43 = .ok (.aload_n 0, 1) := dqo_42 (kb_of ke_X2_isRowSound 43 rfl)
theorem dX2_isRowSound_44 : decode cX2_isRowSound 44 = .ok (.aload_n 1, 1) := dqo_43 (kb_of ke_X2_isRowSound 44 rfl)
theorem dX2_isRowSound_45 : decode cX2_isRowSound 45 = .ok (.invokevirtual 318, 3) := dqo_182 1 62 (kb_of ke_X2_isRowSound 45 rfl) (kb_of ke_X2_isRowSound 46 rfl) (kb_of ke_X2_isRowSound 47 rfl)
theorem dX2_isRowSound_48 : decode cX2_isRowSound 48 = .ok (.ifCond .eq 7, 3) := dqo_153 0 7 (by decide) (kb_of ke_X2_isRowSound 48 rfl) (kb_of ke_X2_isRowSound 49 rfl) (kb_of ke_X2_isRowSound 50 rfl)
theorem dX2_isRowSound_51 : decode cX2_isRowSound 51 = .ok (.iconst 1, 1) := dqo_4 (kb_of ke_X2_isRowSound 51 rfl)
theorem dX2_isRowSound_52 : decode cX2_isRowSound 52 = .ok (.goto 4, 3) := dqo_167 0 4 (by decide) (kb_of ke_X2_isRowSound 52 rfl) (kb_of ke_X2_isRowSound 53 rfl) (kb_of ke_X2_isRowSound 54 rfl)
theorem dX2_isRowSound_56 : decode cX2_isRowSound 56 = .ok (.ireturn, 1) := dqo_172 (kb_of ke_X2_isRowSound 56 rfl)
set_option maxRecDepth 100000 in
set_option maxHeartbeats 4000000 in
theorem K_isRowSound {l : Launch} {D : va_G} {cy : Nat → ClassId} {X : (Nat → Prop) → State → Heap → Prop} {a f : Nat → Nat → Nat} {r : Nat → Nat → Int32} {kn : Int32} {Y : va_W} {i : Nat} (hX : EnvX X) (hC : CInv f) (hi4 : i < 4) (hR : ∀ q, q < f 4 i → -99 ≤ (r (f 0 i) (f 3 i + q)).toInt ∧ (r (f 0 i) (f 3 i + q)).toInt ≤ 99) : Cm l D cy X yX2_isRowSound cX2_isRowSound 2 (some .boolean) (rmz 5 260) [.ref (a 0 0), .ref (a 1 i)] (WC cy a f r kn ++ Y) (fun v w1 => v = some (.int (nI 1)) ∧ ∃ f' r', w1 = WC cy a f' r' kn ++ Y ∧ Scr f r f' r') (fun _ => False) := by
  have q3 := hC.sp
  have q1 := hC.rw hi4
  refine Cm.of [some (.ref (a 0 0)), some (.ref (a 1 i))] pn_X2 rfl (Nat.le_of_ble_eq_true rfl) ?_
  intro p e s m args below meth c A C hE hr hnt hn
  refine r_aload_n C dX2_isRowSound_0 rfl ?_
  refine r_aload_n C dX2_isRowSound_1 rfl ?_
  refine r_iconst (v := (nI 1)) C dX2_isRowSound_2 (by decide) ?_
  refine d_VE (st := []) hX.stb C hE (K_isMoveSound (f := f) (r := r) (kn := kn) (i := i) (n0 := 1) hX hC hi4 (by decide)) pk_X2_isMoveSound qm_X2_308 0 6 rfl rfl wc_0 rfl rfl (Nat.le_of_ble_eq_true rfl) dX2_isRowSound_3 ⟨Nat.le_of_ble_eq_true rfl, Nat.le_of_ble_eq_true rfl⟩ ⟨Nat.le_of_ble_eq_true rfl, Nat.le_of_ble_eq_true rfl⟩ ?_
  intro f1 r1 t1
  have u1 := t1
  have hC1 := u1.inv hC
  refine r_ifN_eq (a := 1) (tgt := 55) C (by first | omega | (simp [up2, *]; done) | (simp [up2, *]; omega) | (simp only [up2_eq]; omega) | (split <;> omega)) dX2_isRowSound_6 (by decide) (fun h6_1 => ?_) (fun h6_1 => ?_)
  · exact absurd h6_1 (by first | omega | (simp [up2, *]; done) | (simp [up2, *]; omega) | (simp only [up2_eq]; omega) | (split <;> omega))
  · skip
    refine r_aload_n C dX2_isRowSound_9 rfl ?_
    refine r_aload_n C dX2_isRowSound_10 rfl ?_
    refine r_iconst (v := (nI 2)) C dX2_isRowSound_11 (by decide) ?_
    refine d_VE (st := []) hX.stb C hE (K_isMoveSound (f := f1) (r := r1) (kn := kn) (i := i) (n0 := 2) hX hC1 hi4 (by decide)) pk_X2_isMoveSound qm_X2_308 0 6 rfl rfl wc_0 rfl rfl (Nat.le_of_ble_eq_true rfl) dX2_isRowSound_12 ⟨Nat.le_of_ble_eq_true rfl, Nat.le_of_ble_eq_true rfl⟩ ⟨Nat.le_of_ble_eq_true rfl, Nat.le_of_ble_eq_true rfl⟩ ?_
    intro f2 r2 t2
    have u2 := u1.trans t2
    have hC2 := u2.inv hC
    refine r_ifN_eq (a := 1) (tgt := 55) C (by first | omega | (simp [up2, *]; done) | (simp [up2, *]; omega) | (simp only [up2_eq]; omega) | (split <;> omega)) dX2_isRowSound_15 (by decide) (fun h15_2 => ?_) (fun h15_2 => ?_)
    · exact absurd h15_2 (by first | omega | (simp [up2, *]; done) | (simp [up2, *]; omega) | (simp only [up2_eq]; omega) | (split <;> omega))
    · skip
      refine r_aload_n C dX2_isRowSound_18 rfl ?_
      refine r_aload_n C dX2_isRowSound_19 rfl ?_
      refine r_iconst (v := (nI 5)) C dX2_isRowSound_20 (by decide) ?_
      refine d_VE (st := []) hX.stb C hE (K_isMoveSound (f := f2) (r := r2) (kn := kn) (i := i) (n0 := 5) hX hC2 hi4 (by decide)) pk_X2_isMoveSound qm_X2_308 0 6 rfl rfl wc_0 rfl rfl (Nat.le_of_ble_eq_true rfl) dX2_isRowSound_21 ⟨Nat.le_of_ble_eq_true rfl, Nat.le_of_ble_eq_true rfl⟩ ⟨Nat.le_of_ble_eq_true rfl, Nat.le_of_ble_eq_true rfl⟩ ?_
      intro f3 r3 t3
      have u3 := u2.trans t3
      have hC3 := u3.inv hC
      refine r_ifN_eq (a := 1) (tgt := 55) C (by first | omega | (simp [up2, *]; done) | (simp [up2, *]; omega) | (simp only [up2_eq]; omega) | (split <;> omega)) dX2_isRowSound_24 (by decide) (fun h24_3 => ?_) (fun h24_3 => ?_)
      · exact absurd h24_3 (by first | omega | (simp [up2, *]; done) | (simp [up2, *]; omega) | (simp only [up2_eq]; omega) | (split <;> omega))
      · skip
        refine r_aload_n C dX2_isRowSound_27 rfl ?_
        refine r_aload_n C dX2_isRowSound_28 rfl ?_
        refine d_VE (st := []) hX.stb C hE (K_isRiffleSound (f := f3) (r := r3) (kn := kn) (i := i) hX hC3 hi4) pk_X2_isRiffleSound qm_X2_312 0 6 rfl rfl wc_0 rfl rfl (Nat.le_of_ble_eq_true rfl) dX2_isRowSound_29 ⟨Nat.le_of_ble_eq_true rfl, Nat.le_of_ble_eq_true rfl⟩ ⟨Nat.le_of_ble_eq_true rfl, Nat.le_of_ble_eq_true rfl⟩ ?_
        intro f4 r4 t4
        have u4 := u3.trans t4
        have hC4 := u4.inv hC
        refine r_ifN_eq (a := 1) (tgt := 55) C (by first | omega | (simp [up2, *]; done) | (simp [up2, *]; omega) | (simp only [up2_eq]; omega) | (split <;> omega)) dX2_isRowSound_32 (by decide) (fun h32_4 => ?_) (fun h32_4 => ?_)
        · exact absurd h32_4 (by first | omega | (simp [up2, *]; done) | (simp [up2, *]; omega) | (simp only [up2_eq]; omega) | (split <;> omega))
        · skip
          refine r_aload_n C dX2_isRowSound_35 rfl ?_
          refine r_aload_n C dX2_isRowSound_36 rfl ?_
          refine d_VE (st := []) hX.stb C hE (K_isTurnSound (f := f4) (r := r4) (kn := kn) (i := i) hX hC4 hi4) pk_X2_isTurnSound qm_X2_315 0 6 rfl rfl wc_0 rfl rfl (Nat.le_of_ble_eq_true rfl) dX2_isRowSound_37 ⟨Nat.le_of_ble_eq_true rfl, Nat.le_of_ble_eq_true rfl⟩ ⟨Nat.le_of_ble_eq_true rfl, Nat.le_of_ble_eq_true rfl⟩ ?_
          intro f5 r5 t5
          have u5 := u4.trans t5
          have hC5 := u5.inv hC
          refine r_ifN_eq (a := 1) (tgt := 55) C (by first | omega | (simp [up2, *]; done) | (simp [up2, *]; omega) | (simp only [up2_eq]; omega) | (split <;> omega)) dX2_isRowSound_40 (by decide) (fun h40_5 => ?_) (fun h40_5 => ?_)
          · exact absurd h40_5 (by first | omega | (simp [up2, *]; done) | (simp [up2, *]; omega) | (simp only [up2_eq]; omega) | (split <;> omega))
          · skip
            refine r_aload_n C dX2_isRowSound_43 rfl ?_
            refine r_aload_n C dX2_isRowSound_44 rfl ?_
            refine d_VE (st := []) hX.stb C hE (K_isOrderSound (f := f5) (r := r5) (kn := kn) (i := i) hX hC5 hi4 (fun q hq => by rw [u5.1 0 i (Or.inl (by decide)), u5.1 3 i (Or.inl (by decide)), u5.2.2.1 _ _ (by omega)]; exact hR q (by rw [← u5.1 4 i (Or.inr (by omega))]; exact hq))) pk_X2_isOrderSound qm_X2_318 0 6 rfl rfl wc_0 rfl rfl (Nat.le_of_ble_eq_true rfl) dX2_isRowSound_45 ⟨Nat.le_of_ble_eq_true rfl, Nat.le_of_ble_eq_true rfl⟩ ⟨Nat.le_of_ble_eq_true rfl, Nat.le_of_ble_eq_true rfl⟩ ?_
            intro f6 r6 t6
            have u6 := u5.trans t6
            have hC6 := u6.inv hC
            refine r_ifN_eq (a := 1) (tgt := 55) C (by first | omega | (simp [up2, *]; done) | (simp [up2, *]; omega) | (simp only [up2_eq]; omega) | (split <;> omega)) dX2_isRowSound_48 (by decide) (fun h48_6 => ?_) (fun h48_6 => ?_)
            · exact absurd h48_6 (by first | omega | (simp [up2, *]; done) | (simp [up2, *]; omega) | (simp only [up2_eq]; omega) | (split <;> omega))
            · skip
              refine r_iconst (v := (nI 1)) C dX2_isRowSound_51 (by decide) ?_
              refine r_goto (tgt := 56) C dX2_isRowSound_52 (by decide) ?_
              exact r_zret C hr (by first | omega | (simp [up2, *]; done) | (simp [up2, *]; omega) | (simp only [up2_eq]; omega) | (split <;> omega)) dX2_isRowSound_56 ⟨rfl, f6, r6, rfl, u6⟩ (Nat.le_of_ble_eq_true rfl) (Nat.le_of_ble_eq_true rfl)
