/-! CONTRACTS of the class: whether it is sound, orders -/
theorem in1_off {r : Nat → Nat → Int32} {j lo b e j' q : Nat} (h : j' ≠ j) : in1 r j lo b e j' q = r j' q := by
  unfold in1
  show (if j' = j ∧ _ then _ else shf r j lo e _ j' q) = _
  rw [if_neg (fun z => h z.1)]
  unfold shf
  rw [if_neg (fun z => h z.1)]
theorem srF_off {j lo b j' q : Nat} (h : j' ≠ j) : ∀ (d e : Nat) (r : Nat → Nat → Int32), srF j lo b d e r j' q = r j' q
  | 0, e, r => rfl
  | d + 1, e, r => (srF_off h d (e + 1) (in1 r j lo b e)).trans (in1_off h)
theorem or_lk {r : Nat → Nat → Int32} {a b j d j2 d2 n q : Nat} (h1 : a ≠ j) (h3 : j ≠ j2) (hR : ∀ q, q < n → -99 ≤ (r a (b + q)).toInt ∧ (r a (b + q)).toInt ≤ 99) (hq : q < n) : revS (srF j2 d2 3 (n - 1) 1 (cpy2 (srF j d 0 (n - 1) 1 (cpy2 r a b j d n)) a b j2 d2 n)) j2 (d2 + 0) (d2 + n) j (d + q) = revS (srF j2 d2 3 (n - 1) 1 (cpy2 (srF j d 0 (n - 1) 1 (cpy2 r a b j d n)) a b j2 d2 n)) j2 (d2 + 0) (d2 + n) j2 (d2 + q) := by
  have eA : ∀ q, q < n → cpy2 r a b j d n j (d + q) = r a (b + q) := fun q hq => cpy2_at hq
  have eB : ∀ q, q < n → cpy2 (srF j d 0 (n - 1) 1 (cpy2 r a b j d n)) a b j2 d2 n j2 (d2 + q) = r a (b + q) := fun q hq => (cpy2_at hq).trans ((srF_off h1 _ _ _).trans (cpy2_off h1))
  have hm := sr_mir j d j2 d2 (n - 1) 1 (cpy2 r a b j d n) (cpy2 (srF j d 0 (n - 1) 1 (cpy2 r a b j d n)) a b j2 d2 n) (fun q hq => by rw [eA q (by omega), eB _ (by omega), show 1 - 1 - q = q by omega]) (fun q hq => absurd hq (by omega)) (fun q h1 h2 => (eA q (by omega)).trans (eB q (by omega)).symm) (fun q hq => by rw [eA q (by omega)]; exact hR q (by omega)) (fun q hq => by rw [eB q (by omega)]; exact hR q (by omega)) q (by omega)
  rw [revS_off h3, srF_off h3, cpy2_off h3]
  refine (Int32.toInt_inj.mp hm).trans ?_
  unfold revS
  rw [if_pos ⟨rfl, by omega, by omega⟩]
  exact congrArg _ (by omega)
theorem dX2_isOrderSound_0 : decode cX2_isOrderSound 0 = .ok (.aload_n 0, 1) := by decide +kernel
theorem dX2_isOrderSound_1 : decode cX2_isOrderSound 1 = .ok (.getfield 33, 3) := by decide +kernel
theorem dX2_isOrderSound_4 : decode cX2_isOrderSound 4 = .ok (.aload_n 1, 1) := by decide +kernel
theorem dX2_isOrderSound_5 : decode cX2_isOrderSound 5 = .ok (.invokevirtual 79, 3) := by decide +kernel
theorem dX2_isOrderSound_8 : decode cX2_isOrderSound 8 = .ok (.aload_n 0, 1) := by decide +kernel
theorem dX2_isOrderSound_9 : decode cX2_isOrderSound 9 = .ok (.getfield 33, 3) := by decide +kernel
theorem dX2_isOrderSound_12 : decode cX2_isOrderSound 12 = .ok (.iconst 0, 1) := by decide +kernel
theorem dX2_isOrderSound_13 : decode cX2_isOrderSound 13 = .ok (.invokevirtual 117, 3) := by decide +kernel
theorem dX2_isOrderSound_16 : decode cX2_isOrderSound 16 = .ok (.aload_n 0, 1) := by decide +kernel
theorem dX2_isOrderSound_17 : decode cX2_isOrderSound 17 = .ok (.getfield 36, 3) := by decide +kernel
theorem dX2_isOrderSound_20 : decode cX2_isOrderSound 20 = .ok (.aload_n 1, 1) := by decide +kernel
theorem dX2_isOrderSound_21 : decode cX2_isOrderSound 21 = .ok (.invokevirtual 79, 3) := by decide +kernel
theorem dX2_isOrderSound_24 : decode cX2_isOrderSound 24 = .ok (.aload_n 0, 1) := by decide +kernel
theorem dX2_isOrderSound_25 : decode cX2_isOrderSound 25 = .ok (.getfield 36, 3) := by decide +kernel
theorem dX2_isOrderSound_28 : decode cX2_isOrderSound 28 = .ok (.iconst 3, 1) := by decide +kernel
theorem dX2_isOrderSound_29 : decode cX2_isOrderSound 29 = .ok (.invokevirtual 117, 3) := by decide +kernel
theorem dX2_isOrderSound_32 : decode cX2_isOrderSound 32 = .ok (.aload_n 0, 1) := by decide +kernel
theorem dX2_isOrderSound_33 : decode cX2_isOrderSound 33 = .ok (.getfield 36, 3) := by decide +kernel
theorem dX2_isOrderSound_36 : decode cX2_isOrderSound 36 = .ok (.iconst 0, 1) := by decide +kernel
theorem dX2_isOrderSound_37 : decode cX2_isOrderSound 37 = .ok (.aload_n 1, 1) := by decide +kernel
theorem dX2_isOrderSound_38 : decode cX2_isOrderSound 38 = .ok (.getfield 50, 3) := by decide +kernel
theorem dX2_isOrderSound_41 : decode cX2_isOrderSound 41 = .ok (.invokevirtual 105, 3) := by decide +kernel
theorem dX2_isOrderSound_44 : decode cX2_isOrderSound 44 = .ok (.aload_n 0, 1) := by decide +kernel
theorem dX2_isOrderSound_45 : decode cX2_isOrderSound 45 = .ok (.getfield 33, 3) := by decide +kernel
theorem dX2_isOrderSound_48 : decode cX2_isOrderSound 48 = .ok (.aload_n 0, 1) := by decide +kernel
theorem dX2_isOrderSound_49 : decode cX2_isOrderSound 49 = .ok (.getfield 36, 3) := by decide +kernel
theorem dX2_isOrderSound_52 : decode cX2_isOrderSound 52 = .ok (.invokevirtual 161, 3) := by decide +kernel
theorem dX2_isOrderSound_55 : decode cX2_isOrderSound 55 = .ok (.ireturn, 1) := by decide +kernel
set_option maxRecDepth 100000 in
set_option maxHeartbeats 4000000 in
theorem C_isOrderSound_ok {l : Launch} {D : va_G} {cy : Nat → ClassId} {X : (Nat → Prop) → State → Heap → Prop} {a f : Nat → Nat → Nat} {r : Nat → Nat → Int32} {kn : Int32} {Y : va_W} {i : Nat} (hX : EnvX X) (hC : CInv f) (hi4 : i < 4) (hz : 0 < f 4 i) (hR : ∀ q, q < f 4 i → -99 ≤ (r (f 0 i) (f 3 i + q)).toInt ∧ (r (f 0 i) (f 3 i + q)).toInt ≤ 99) : Cd l D cy X yX2_isOrderSound cX2_isOrderSound 2 (some .boolean) (rmz 4 200) [.ref (a 0 0), .ref (a 1 i)] (WC cy a f r kn ++ Y) (some (.int (nI 1))) (WC cy a (up2 (up2 f 4 9 (f 4 i)) 4 10 (f 4 i)) (revS (srF (f 0 10) (f 3 10) 3 (f 4 i - 1) 1 (cpy2 (srF (f 0 9) (f 3 9) 0 (f 4 i - 1) 1 (cpy2 r (f 0 i) (f 3 i) (f 0 9) (f 3 9) (f 4 i))) (f 0 i) (f 3 i) (f 0 10) (f 3 10) (f 4 i))) (f 0 10) (f 3 10 + 0) (f 3 10 + (f 4 i))) kn ++ Y) := by
  have q3 := hC.sp
  have sp := hC.sp
  have q1 := hC.rw hi4
  obtain ⟨sp0, sp1, sp2, sp3, sp4, sp5, sp6, sp7, sp8⟩ := sp
  obtain ⟨q2, q3, q4, q5, q6, q7⟩ := q1
  refine Cm.of [some (.ref (a 0 0)), some (.ref (a 1 i))] (by decide +kernel) rfl (Nat.le_of_ble_eq_true rfl) ?_
  intro p e s m args below meth c A C hE hr hnt hn
  refine r_aload_n C dX2_isOrderSound_0 rfl ?_
  refine s_get C 3 (by decide) qf_X2_33 rfl rfl dX2_isOrderSound_1 ?_
  refine r_aload_n C dX2_isOrderSound_4 rfl ?_
  refine d_Vv (st := []) hX.stb C hE (C_becomeLike (f := f) (r := r) (kn := kn) (i := 9) (j := i) hX (by first | omega | (simp [up2, *]; done) | (simp [up2, *]; omega) | (simp only [up2_eq]; omega) | (split <;> omega)) (by first | omega | (simp [up2, *]; done) | (simp [up2, *]; omega) | (simp only [up2_eq]; omega) | (split <;> omega)) (by first | omega | (simp [up2, *]; done) | (simp [up2, *]; omega) | (simp only [up2_eq]; omega) | (split <;> omega)) (by first | omega | (simp [up2, *]; done) | (simp [up2, *]; omega) | (simp only [up2_eq]; omega) | (split <;> omega)) (by first | omega | (simp [up2, *]; done) | (simp [up2, *]; omega) | (simp only [up2_eq]; omega) | (split <;> omega)) (by first | omega | (simp [up2, *]; done) | (simp [up2, *]; omega) | (simp only [up2_eq]; omega) | (split <;> omega))) pk_X1_becomeLike qm_X2_79 (3 + 9) 5 rfl rfl (wc_p (by first | omega | (simp [up2, *]; done) | (simp [up2, *]; omega) | (simp only [up2_eq]; omega) | (split <;> omega))) rfl rfl (Nat.le_of_ble_eq_true rfl) dX2_isOrderSound_5 ⟨Nat.le_of_ble_eq_true rfl, Nat.le_of_ble_eq_true rfl⟩ ⟨Nat.le_of_ble_eq_true rfl, Nat.le_of_ble_eq_true rfl⟩ ?_
  refine r_aload_n C dX2_isOrderSound_8 rfl ?_
  refine s_get C 3 (by decide) qf_X2_33 rfl rfl dX2_isOrderSound_9 ?_
  refine r_iconst (v := (nI 0)) C dX2_isOrderSound_12 (by decide) ?_
  refine d_Vv (st := []) hX.stb C hE (C_arrange (f := (up2 f 4 9 (f 4 i))) (r := (cpy2 r (f 0 i) (f 3 i) (f 0 9) (f 3 9) (f 4 i))) (kn := kn) (i := 9) (b := 0) hX (by first | omega | (simp [up2, *]; done) | (simp [up2, *]; omega) | (simp only [up2_eq]; omega) | (split <;> omega)) (by first | omega | (simp [up2, *]; done) | (simp [up2, *]; omega) | (simp only [up2_eq]; omega) | (split <;> omega)) (by first | omega | (simp [up2, *]; done) | (simp [up2, *]; omega) | (simp only [up2_eq]; omega) | (split <;> omega)) (by first | omega | (simp [up2, *]; done) | (simp [up2, *]; omega) | (simp only [up2_eq]; omega) | (split <;> omega))) pk_X1_arrange qm_X2_117 (3 + 9) 5 rfl rfl (wc_p (by first | omega | (simp [up2, *]; done) | (simp [up2, *]; omega) | (simp only [up2_eq]; omega) | (split <;> omega))) rfl rfl (Nat.le_of_ble_eq_true rfl) dX2_isOrderSound_13 ⟨Nat.le_of_ble_eq_true rfl, Nat.le_of_ble_eq_true rfl⟩ ⟨Nat.le_of_ble_eq_true rfl, Nat.le_of_ble_eq_true rfl⟩ ?_
  refine r_aload_n C dX2_isOrderSound_16 rfl ?_
  refine s_get C 4 (by decide) qf_X2_36 rfl rfl dX2_isOrderSound_17 ?_
  refine r_aload_n C dX2_isOrderSound_20 rfl ?_
  refine d_Vv (st := []) hX.stb C hE (C_becomeLike (f := (up2 f 4 9 (f 4 i))) (r := (srF (f 0 9) (f 3 9) 0 (f 4 i - 1) 1 (cpy2 r (f 0 i) (f 3 i) (f 0 9) (f 3 9) (f 4 i)))) (kn := kn) (i := 10) (j := i) hX (by first | omega | (simp [up2, *]; done) | (simp [up2, *]; omega) | (simp only [up2_eq]; omega) | (split <;> omega)) (by first | omega | (simp [up2, *]; done) | (simp [up2, *]; omega) | (simp only [up2_eq]; omega) | (split <;> omega)) (by first | omega | (simp [up2, *]; done) | (simp [up2, *]; omega) | (simp only [up2_eq]; omega) | (split <;> omega)) (by first | omega | (simp [up2, *]; done) | (simp [up2, *]; omega) | (simp only [up2_eq]; omega) | (split <;> omega)) (by first | omega | (simp [up2, *]; done) | (simp [up2, *]; omega) | (simp only [up2_eq]; omega) | (split <;> omega)) (by first | omega | (simp [up2, *]; done) | (simp [up2, *]; omega) | (simp only [up2_eq]; omega) | (split <;> omega))) pk_X1_becomeLike qm_X2_79 (3 + 10) 5 rfl rfl (wc_p (by first | omega | (simp [up2, *]; done) | (simp [up2, *]; omega) | (simp only [up2_eq]; omega) | (split <;> omega))) rfl rfl (Nat.le_of_ble_eq_true rfl) dX2_isOrderSound_21 ⟨Nat.le_of_ble_eq_true rfl, Nat.le_of_ble_eq_true rfl⟩ ⟨Nat.le_of_ble_eq_true rfl, Nat.le_of_ble_eq_true rfl⟩ ?_
  refine r_w (show WC cy a (up2 (up2 f 4 9 (f 4 i)) 4 10 ((up2 f 4 9 (f 4 i)) 4 i)) (cpy2 (srF (f 0 9) (f 3 9) 0 (f 4 i - 1) 1 (cpy2 r (f 0 i) (f 3 i) (f 0 9) (f 3 9) (f 4 i))) (f 0 i) (f 3 i) (f 0 10) (f 3 10) ((up2 f 4 9 (f 4 i)) 4 i)) kn ++ Y = WC cy a (up2 (up2 f 4 9 (f 4 i)) 4 10 (f 4 i)) (cpy2 (srF (f 0 9) (f 3 9) 0 (f 4 i - 1) 1 (cpy2 r (f 0 i) (f 3 i) (f 0 9) (f 3 9) (f 4 i))) (f 0 i) (f 3 i) (f 0 10) (f 3 10) (f 4 i)) kn ++ Y by rw [show up2 f 4 9 (f 4 i) 4 i = f 4 i from up2_i _ _ _ _ (by omega)]) ?_
  refine r_aload_n C dX2_isOrderSound_24 rfl ?_
  refine s_get C 4 (by decide) qf_X2_36 rfl rfl dX2_isOrderSound_25 ?_
  refine r_iconst (v := (nI 3)) C dX2_isOrderSound_28 (by decide) ?_
  refine d_Vv (st := []) hX.stb C hE (C_arrange (f := (up2 (up2 f 4 9 (f 4 i)) 4 10 (f 4 i))) (r := (cpy2 (srF (f 0 9) (f 3 9) 0 (f 4 i - 1) 1 (cpy2 r (f 0 i) (f 3 i) (f 0 9) (f 3 9) (f 4 i))) (f 0 i) (f 3 i) (f 0 10) (f 3 10) (f 4 i))) (kn := kn) (i := 10) (b := 3) hX (by first | omega | (simp [up2, *]; done) | (simp [up2, *]; omega) | (simp only [up2_eq]; omega) | (split <;> omega)) (by first | omega | (simp [up2, *]; done) | (simp [up2, *]; omega) | (simp only [up2_eq]; omega) | (split <;> omega)) (by first | omega | (simp [up2, *]; done) | (simp [up2, *]; omega) | (simp only [up2_eq]; omega) | (split <;> omega)) (by first | omega | (simp [up2, *]; done) | (simp [up2, *]; omega) | (simp only [up2_eq]; omega) | (split <;> omega))) pk_X1_arrange qm_X2_117 (3 + 10) 5 rfl rfl (wc_p (by first | omega | (simp [up2, *]; done) | (simp [up2, *]; omega) | (simp only [up2_eq]; omega) | (split <;> omega))) rfl rfl (Nat.le_of_ble_eq_true rfl) dX2_isOrderSound_29 ⟨Nat.le_of_ble_eq_true rfl, Nat.le_of_ble_eq_true rfl⟩ ⟨Nat.le_of_ble_eq_true rfl, Nat.le_of_ble_eq_true rfl⟩ ?_
  refine r_aload_n C dX2_isOrderSound_32 rfl ?_
  refine s_get C 4 (by decide) qf_X2_36 rfl rfl dX2_isOrderSound_33 ?_
  refine r_iconst (v := (nI 0)) C dX2_isOrderSound_36 (by decide) ?_
  refine r_aload_n C dX2_isOrderSound_37 rfl ?_
  refine p_getN (v := .int (nI ((up2 (up2 f 4 9 (f 4 i)) 4 10 (f 4 i)) 4 i))) hX C hE 4 (by first | omega | (simp [up2, *]; done) | (simp [up2, *]; omega) | (simp only [up2_eq]; omega) | (split <;> omega)) (by decide) qn_X2_50 rfl rfl dX2_isOrderSound_38 ?_
  refine r_eqi (show (nI ((up2 (up2 f 4 9 (f 4 i)) 4 10 (f 4 i)) 4 i)) = nI (f 4 i) by first | rfl | (rw [up2_i _ _ _ _ (by omega), up2_i _ _ _ _ (by omega)]) | (simp [up2, *]; omega)) ?_
  refine d_Vv (st := []) hX.stb C hE (C_turn (f := (up2 (up2 f 4 9 (f 4 i)) 4 10 (f 4 i))) (r := (srF (f 0 10) (f 3 10) 3 (f 4 i - 1) 1 (cpy2 (srF (f 0 9) (f 3 9) 0 (f 4 i - 1) 1 (cpy2 r (f 0 i) (f 3 i) (f 0 9) (f 3 9) (f 4 i))) (f 0 i) (f 3 i) (f 0 10) (f 3 10) (f 4 i)))) (kn := kn) (i := 10) (p0 := 0) (q0 := (f 4 i)) hX (by first | omega | (simp [up2, *]; done) | (simp [up2, *]; omega) | (simp only [up2_eq]; omega) | (split <;> omega)) (by first | omega | (simp [up2, *]; done) | (simp [up2, *]; omega) | (simp only [up2_eq]; omega) | (split <;> omega)) (by first | omega | (simp [up2, *]; done) | (simp [up2, *]; omega) | (simp only [up2_eq]; omega) | (split <;> omega)) (by first | omega | (simp [up2, *]; done) | (simp [up2, *]; omega) | (simp only [up2_eq]; omega) | (split <;> omega)) (by first | omega | (simp [up2, *]; done) | (simp [up2, *]; omega) | (simp only [up2_eq]; omega) | (split <;> omega))) pk_X1_turn qm_X2_105 (3 + 10) 5 rfl rfl (wc_p (by first | omega | (simp [up2, *]; done) | (simp [up2, *]; omega) | (simp only [up2_eq]; omega) | (split <;> omega))) rfl rfl (Nat.le_of_ble_eq_true rfl) dX2_isOrderSound_41 ⟨Nat.le_of_ble_eq_true rfl, Nat.le_of_ble_eq_true rfl⟩ ⟨Nat.le_of_ble_eq_true rfl, Nat.le_of_ble_eq_true rfl⟩ ?_
  refine r_aload_n C dX2_isOrderSound_44 rfl ?_
  refine s_get C 3 (by decide) qf_X2_33 rfl rfl dX2_isOrderSound_45 ?_
  refine r_aload_n C dX2_isOrderSound_48 rfl ?_
  refine s_get C 4 (by decide) qf_X2_36 rfl rfl dX2_isOrderSound_49 ?_
  refine d_V (st := []) hX.stb C hE (C_isLike_yes (f := (up2 (up2 f 4 9 (f 4 i)) 4 10 (f 4 i))) (r := (revS (srF (f 0 10) (f 3 10) 3 (f 4 i - 1) 1 (cpy2 (srF (f 0 9) (f 3 9) 0 (f 4 i - 1) 1 (cpy2 r (f 0 i) (f 3 i) (f 0 9) (f 3 9) (f 4 i))) (f 0 i) (f 3 i) (f 0 10) (f 3 10) (f 4 i))) (f 0 10) (f 3 10 + 0) (f 3 10 + (f 4 i)))) (kn := kn) (i := 9) (j := 10) hX (by first | omega | (simp [up2, *]; done) | (simp [up2, *]; omega) | (simp only [up2_eq]; omega) | (split <;> omega)) (by first | omega | (simp [up2, *]; done) | (simp [up2, *]; omega) | (simp only [up2_eq]; omega) | (split <;> omega)) (by first | omega | (simp [up2, *]; done) | (simp [up2, *]; omega) | (simp only [up2_eq]; omega) | (split <;> omega)) (by first | omega | (simp [up2, *]; done) | (simp [up2, *]; omega) | (simp only [up2_eq]; omega) | (split <;> omega)) (by first | omega | (simp [up2, *]; done) | (simp [up2, *]; omega) | (simp only [up2_eq]; omega) | (split <;> omega)) (by first | omega | (simp [up2, *]; done) | (simp [up2, *]; omega) | (simp only [up2_eq]; omega) | (split <;> omega)) (by rw [up2_i _ _ _ _ (by omega), up2_eq, up2_eq]) (fun q hq => by rw [up2_eq] at hq; exact or_lk (by omega) (by omega) hR hq)) pk_X1_isLike qm_X2_161 (3 + 9) 5 rfl rfl (wc_p (by first | omega | (simp [up2, *]; done) | (simp [up2, *]; omega) | (simp only [up2_eq]; omega) | (split <;> omega))) rfl rfl (Nat.le_of_ble_eq_true rfl) dX2_isOrderSound_52 ⟨Nat.le_of_ble_eq_true rfl, Nat.le_of_ble_eq_true rfl⟩ ⟨Nat.le_of_ble_eq_true rfl, Nat.le_of_ble_eq_true rfl⟩ ?_
  exact r_zret C hr (by first | omega | (simp [up2, *]; done) | (simp [up2, *]; omega) | (simp only [up2_eq]; omega) | (split <;> omega)) dX2_isOrderSound_55 ⟨rfl, rfl⟩ (Nat.le_of_ble_eq_true rfl) (Nat.le_of_ble_eq_true rfl)
set_option maxRecDepth 100000 in
set_option maxHeartbeats 4000000 in
theorem C_isOrderSound_0 {l : Launch} {D : va_G} {cy : Nat → ClassId} {X : (Nat → Prop) → State → Heap → Prop} {a f : Nat → Nat → Nat} {r : Nat → Nat → Int32} {kn : Int32} {Y : va_W} {i : Nat} (hX : EnvX X) (hC : CInv f) (hi4 : i < 4) (hz : f 4 i = 0) : Cd l D cy X yX2_isOrderSound cX2_isOrderSound 2 (some .boolean) (rmz 4 200) [.ref (a 0 0), .ref (a 1 i)] (WC cy a f r kn ++ Y) (some (.int (nI 1))) (WC cy a (up2 (up2 f 4 9 (f 4 i)) 4 10 ((up2 f 4 9 (f 4 i)) 4 i)) (srF (f 0 10) (f 3 10) 3 ((up2 f 4 9 (f 4 i)) 4 i - 1) 1 (cpy2 (srF (f 0 9) (f 3 9) 0 (f 4 i - 1) 1 (cpy2 r (f 0 i) (f 3 i) (f 0 9) (f 3 9) (f 4 i))) (f 0 i) (f 3 i) (f 0 10) (f 3 10) ((up2 f 4 9 (f 4 i)) 4 i))) kn ++ Y) := by
  have q3 := hC.sp
  have sp := hC.sp
  have q1 := hC.rw hi4
  obtain ⟨sp0, sp1, sp2, sp3, sp4, sp5, sp6, sp7, sp8⟩ := sp
  obtain ⟨q2, q3, q4, q5, q6, q7⟩ := q1
  refine Cm.of [some (.ref (a 0 0)), some (.ref (a 1 i))] (by decide +kernel) rfl (Nat.le_of_ble_eq_true rfl) ?_
  intro p e s m args below meth c A C hE hr hnt hn
  refine r_aload_n C dX2_isOrderSound_0 rfl ?_
  refine s_get C 3 (by decide) qf_X2_33 rfl rfl dX2_isOrderSound_1 ?_
  refine r_aload_n C dX2_isOrderSound_4 rfl ?_
  refine d_Vv (st := []) hX.stb C hE (C_becomeLike (f := f) (r := r) (kn := kn) (i := 9) (j := i) hX (by first | omega | (simp [up2, *]; done) | (simp [up2, *]; omega) | (simp only [up2_eq]; omega) | (split <;> omega)) (by first | omega | (simp [up2, *]; done) | (simp [up2, *]; omega) | (simp only [up2_eq]; omega) | (split <;> omega)) (by first | omega | (simp [up2, *]; done) | (simp [up2, *]; omega) | (simp only [up2_eq]; omega) | (split <;> omega)) (by first | omega | (simp [up2, *]; done) | (simp [up2, *]; omega) | (simp only [up2_eq]; omega) | (split <;> omega)) (by first | omega | (simp [up2, *]; done) | (simp [up2, *]; omega) | (simp only [up2_eq]; omega) | (split <;> omega)) (by first | omega | (simp [up2, *]; done) | (simp [up2, *]; omega) | (simp only [up2_eq]; omega) | (split <;> omega))) pk_X1_becomeLike qm_X2_79 (3 + 9) 5 rfl rfl (wc_p (by first | omega | (simp [up2, *]; done) | (simp [up2, *]; omega) | (simp only [up2_eq]; omega) | (split <;> omega))) rfl rfl (Nat.le_of_ble_eq_true rfl) dX2_isOrderSound_5 ⟨Nat.le_of_ble_eq_true rfl, Nat.le_of_ble_eq_true rfl⟩ ⟨Nat.le_of_ble_eq_true rfl, Nat.le_of_ble_eq_true rfl⟩ ?_
  refine r_aload_n C dX2_isOrderSound_8 rfl ?_
  refine s_get C 3 (by decide) qf_X2_33 rfl rfl dX2_isOrderSound_9 ?_
  refine r_iconst (v := (nI 0)) C dX2_isOrderSound_12 (by decide) ?_
  refine d_Vv (st := []) hX.stb C hE (C_arrange (f := (up2 f 4 9 (f 4 i))) (r := (cpy2 r (f 0 i) (f 3 i) (f 0 9) (f 3 9) (f 4 i))) (kn := kn) (i := 9) (b := 0) hX (by first | omega | (simp [up2, *]; done) | (simp [up2, *]; omega) | (simp only [up2_eq]; omega) | (split <;> omega)) (by first | omega | (simp [up2, *]; done) | (simp [up2, *]; omega) | (simp only [up2_eq]; omega) | (split <;> omega)) (by first | omega | (simp [up2, *]; done) | (simp [up2, *]; omega) | (simp only [up2_eq]; omega) | (split <;> omega)) (by first | omega | (simp [up2, *]; done) | (simp [up2, *]; omega) | (simp only [up2_eq]; omega) | (split <;> omega))) pk_X1_arrange qm_X2_117 (3 + 9) 5 rfl rfl (wc_p (by first | omega | (simp [up2, *]; done) | (simp [up2, *]; omega) | (simp only [up2_eq]; omega) | (split <;> omega))) rfl rfl (Nat.le_of_ble_eq_true rfl) dX2_isOrderSound_13 ⟨Nat.le_of_ble_eq_true rfl, Nat.le_of_ble_eq_true rfl⟩ ⟨Nat.le_of_ble_eq_true rfl, Nat.le_of_ble_eq_true rfl⟩ ?_
  refine r_aload_n C dX2_isOrderSound_16 rfl ?_
  refine s_get C 4 (by decide) qf_X2_36 rfl rfl dX2_isOrderSound_17 ?_
  refine r_aload_n C dX2_isOrderSound_20 rfl ?_
  refine d_Vv (st := []) hX.stb C hE (C_becomeLike (f := (up2 f 4 9 (f 4 i))) (r := (srF (f 0 9) (f 3 9) 0 (f 4 i - 1) 1 (cpy2 r (f 0 i) (f 3 i) (f 0 9) (f 3 9) (f 4 i)))) (kn := kn) (i := 10) (j := i) hX (by first | omega | (simp [up2, *]; done) | (simp [up2, *]; omega) | (simp only [up2_eq]; omega) | (split <;> omega)) (by first | omega | (simp [up2, *]; done) | (simp [up2, *]; omega) | (simp only [up2_eq]; omega) | (split <;> omega)) (by first | omega | (simp [up2, *]; done) | (simp [up2, *]; omega) | (simp only [up2_eq]; omega) | (split <;> omega)) (by first | omega | (simp [up2, *]; done) | (simp [up2, *]; omega) | (simp only [up2_eq]; omega) | (split <;> omega)) (by first | omega | (simp [up2, *]; done) | (simp [up2, *]; omega) | (simp only [up2_eq]; omega) | (split <;> omega)) (by first | omega | (simp [up2, *]; done) | (simp [up2, *]; omega) | (simp only [up2_eq]; omega) | (split <;> omega))) pk_X1_becomeLike qm_X2_79 (3 + 10) 5 rfl rfl (wc_p (by first | omega | (simp [up2, *]; done) | (simp [up2, *]; omega) | (simp only [up2_eq]; omega) | (split <;> omega))) rfl rfl (Nat.le_of_ble_eq_true rfl) dX2_isOrderSound_21 ⟨Nat.le_of_ble_eq_true rfl, Nat.le_of_ble_eq_true rfl⟩ ⟨Nat.le_of_ble_eq_true rfl, Nat.le_of_ble_eq_true rfl⟩ ?_
  refine r_aload_n C dX2_isOrderSound_24 rfl ?_
  refine s_get C 4 (by decide) qf_X2_36 rfl rfl dX2_isOrderSound_25 ?_
  refine r_iconst (v := (nI 3)) C dX2_isOrderSound_28 (by decide) ?_
  refine d_Vv (st := []) hX.stb C hE (C_arrange (f := (up2 (up2 f 4 9 (f 4 i)) 4 10 ((up2 f 4 9 (f 4 i)) 4 i))) (r := (cpy2 (srF (f 0 9) (f 3 9) 0 (f 4 i - 1) 1 (cpy2 r (f 0 i) (f 3 i) (f 0 9) (f 3 9) (f 4 i))) (f 0 i) (f 3 i) (f 0 10) (f 3 10) ((up2 f 4 9 (f 4 i)) 4 i))) (kn := kn) (i := 10) (b := 3) hX (by first | omega | (simp [up2, *]; done) | (simp [up2, *]; omega) | (simp only [up2_eq]; omega) | (split <;> omega)) (by first | omega | (simp [up2, *]; done) | (simp [up2, *]; omega) | (simp only [up2_eq]; omega) | (split <;> omega)) (by first | omega | (simp [up2, *]; done) | (simp [up2, *]; omega) | (simp only [up2_eq]; omega) | (split <;> omega)) (by first | omega | (simp [up2, *]; done) | (simp [up2, *]; omega) | (simp only [up2_eq]; omega) | (split <;> omega))) pk_X1_arrange qm_X2_117 (3 + 10) 5 rfl rfl (wc_p (by first | omega | (simp [up2, *]; done) | (simp [up2, *]; omega) | (simp only [up2_eq]; omega) | (split <;> omega))) rfl rfl (Nat.le_of_ble_eq_true rfl) dX2_isOrderSound_29 ⟨Nat.le_of_ble_eq_true rfl, Nat.le_of_ble_eq_true rfl⟩ ⟨Nat.le_of_ble_eq_true rfl, Nat.le_of_ble_eq_true rfl⟩ ?_
  refine r_aload_n C dX2_isOrderSound_32 rfl ?_
  refine s_get C 4 (by decide) qf_X2_36 rfl rfl dX2_isOrderSound_33 ?_
  refine r_iconst (v := (nI 0)) C dX2_isOrderSound_36 (by decide) ?_
  refine r_aload_n C dX2_isOrderSound_37 rfl ?_
  refine p_getN (v := .int (nI ((up2 (up2 f 4 9 (f 4 i)) 4 10 ((up2 f 4 9 (f 4 i)) 4 i)) 4 i))) hX C hE 4 (by first | omega | (simp [up2, *]; done) | (simp [up2, *]; omega) | (simp only [up2_eq]; omega) | (split <;> omega)) (by decide) qn_X2_50 rfl rfl dX2_isOrderSound_38 ?_
  refine r_eqi (show (nI ((up2 (up2 f 4 9 (f 4 i)) 4 10 ((up2 f 4 9 (f 4 i)) 4 i)) 4 i)) = nI 0 by first | rfl | (simp [up2, *]; done)) ?_
  refine d_Vv (st := []) hX.stb C hE (C_turn0 (f := (up2 (up2 f 4 9 (f 4 i)) 4 10 ((up2 f 4 9 (f 4 i)) 4 i))) (r := (srF (f 0 10) (f 3 10) 3 ((up2 f 4 9 (f 4 i)) 4 i - 1) 1 (cpy2 (srF (f 0 9) (f 3 9) 0 (f 4 i - 1) 1 (cpy2 r (f 0 i) (f 3 i) (f 0 9) (f 3 9) (f 4 i))) (f 0 i) (f 3 i) (f 0 10) (f 3 10) ((up2 f 4 9 (f 4 i)) 4 i)))) (kn := kn) (i := 10) hX (by first | omega | (simp [up2, *]; done) | (simp [up2, *]; omega) | (simp only [up2_eq]; omega) | (split <;> omega))) pk_X1_turn qm_X2_105 (3 + 10) 5 rfl rfl (wc_p (by first | omega | (simp [up2, *]; done) | (simp [up2, *]; omega) | (simp only [up2_eq]; omega) | (split <;> omega))) rfl rfl (Nat.le_of_ble_eq_true rfl) dX2_isOrderSound_41 ⟨Nat.le_of_ble_eq_true rfl, Nat.le_of_ble_eq_true rfl⟩ ⟨Nat.le_of_ble_eq_true rfl, Nat.le_of_ble_eq_true rfl⟩ ?_
  refine r_aload_n C dX2_isOrderSound_44 rfl ?_
  refine s_get C 3 (by decide) qf_X2_33 rfl rfl dX2_isOrderSound_45 ?_
  refine r_aload_n C dX2_isOrderSound_48 rfl ?_
  refine s_get C 4 (by decide) qf_X2_36 rfl rfl dX2_isOrderSound_49 ?_
  refine d_V (st := []) hX.stb C hE (C_isLike_yes (f := (up2 (up2 f 4 9 (f 4 i)) 4 10 ((up2 f 4 9 (f 4 i)) 4 i))) (r := (srF (f 0 10) (f 3 10) 3 ((up2 f 4 9 (f 4 i)) 4 i - 1) 1 (cpy2 (srF (f 0 9) (f 3 9) 0 (f 4 i - 1) 1 (cpy2 r (f 0 i) (f 3 i) (f 0 9) (f 3 9) (f 4 i))) (f 0 i) (f 3 i) (f 0 10) (f 3 10) ((up2 f 4 9 (f 4 i)) 4 i)))) (kn := kn) (i := 9) (j := 10) hX (by first | omega | (simp [up2, *]; done) | (simp [up2, *]; omega) | (simp only [up2_eq]; omega) | (split <;> omega)) (by first | omega | (simp [up2, *]; done) | (simp [up2, *]; omega) | (simp only [up2_eq]; omega) | (split <;> omega)) (by first | omega | (simp [up2, *]; done) | (simp [up2, *]; omega) | (simp only [up2_eq]; omega) | (split <;> omega)) (by first | omega | (simp [up2, *]; done) | (simp [up2, *]; omega) | (simp only [up2_eq]; omega) | (split <;> omega)) (by first | omega | (simp [up2, *]; done) | (simp [up2, *]; omega) | (simp only [up2_eq]; omega) | (split <;> omega)) (by first | omega | (simp [up2, *]; done) | (simp [up2, *]; omega) | (simp only [up2_eq]; omega) | (split <;> omega)) (by simp [up2, *]) (fun q hq => absurd hq (by simp [up2, *]))) pk_X1_isLike qm_X2_161 (3 + 9) 5 rfl rfl (wc_p (by first | omega | (simp [up2, *]; done) | (simp [up2, *]; omega) | (simp only [up2_eq]; omega) | (split <;> omega))) rfl rfl (Nat.le_of_ble_eq_true rfl) dX2_isOrderSound_52 ⟨Nat.le_of_ble_eq_true rfl, Nat.le_of_ble_eq_true rfl⟩ ⟨Nat.le_of_ble_eq_true rfl, Nat.le_of_ble_eq_true rfl⟩ ?_
  exact r_zret C hr (by first | omega | (simp [up2, *]; done) | (simp [up2, *]; omega) | (simp only [up2_eq]; omega) | (split <;> omega)) dX2_isOrderSound_55 ⟨rfl, rfl⟩ (Nat.le_of_ble_eq_true rfl) (Nat.le_of_ble_eq_true rfl)
