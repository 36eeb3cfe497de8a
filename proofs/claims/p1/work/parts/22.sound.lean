/-! CONTRACTS of the class: whether it is sound -/
theorem stF_all {g h : Nat → Int32} : ∀ d k, (∀ q, k ≤ q → q < k + d → g q = h q) → stF g h d k = 1
  | 0, k, _ => rfl
  | d + 1, k, e => by
    unfold stF
    rw [if_pos (e k (Nat.le_refl k) (by omega))]
    exact stF_all d (k + 1) (fun q a b => e q (by omega) (by omega))
theorem hsF_same {g h : Nat → Int32} : ∀ d k z, (∀ q, k ≤ q → q < k + d → g q = h q) → hsF g d k z = hsF h d k z
  | 0, k, z, _ => rfl
  | d + 1, k, z, e => by
    unfold hsF
    rw [e k (Nat.le_refl k) (by omega)]
    exact hsF_same d (k + 1) _ (fun q a b => e q (by omega) (by omega))
theorem revS_two (r : Nat → Nat → Int32) (j lo hi : Nat) : revS (revS r j lo hi) j lo hi = r := by
  funext j' k
  unfold revS
  by_cases h : j' = j ∧ lo ≤ k ∧ k < hi
  · rw [if_pos h, if_pos ⟨rfl, by omega, by omega⟩, h.1, show lo + hi - 1 - (lo + hi - 1 - k) = k by omega]
  · rw [if_neg h, if_neg h]
theorem C_isLike_yes {l : Launch} {D : va_G} {cy : Nat → ClassId} {X : (Nat → Prop) → State → Heap → Prop} {a f : Nat → Nat → Nat} {r : Nat → Nat → Int32} {kn : Int32} {Y : va_W} {i j : Nat} (hX : EnvX X) (hi : i < 11) (hj : j < 11) (h0 : f 0 i < 7) (h0j : f 0 j < 7) (h4 : f 3 i + f 4 i ≤ 12) (h4j : f 3 j + f 4 j ≤ 12) (hlen : f 4 i = f 4 j) (hall : ∀ q, q < f 4 j → r (f 0 i) (f 3 i + q) = r (f 0 j) (f 3 j + q)) : Cd l D cy X yX1_isLike cX1_isLike 2 (some .boolean) (rmz 2 60) [.ref (a 1 i), .ref (a 1 j)] (WC cy a f r kn ++ Y) (some (.int (nI 1))) (WC cy a f r kn ++ Y) := by
  have hs : stF (fun q => r (f 0 i) (f 3 i + (0 + q))) (fun q => r (f 0 j) (f 3 j + q)) (f 4 j) 0 = 1 := stF_all _ _ (fun q _ b => by
    show r (f 0 i) (f 3 i + (0 + q)) = r (f 0 j) (f 3 j + q)
    rw [Nat.zero_add]
    exact hall q (by omega))
  have hh := C_isLike (l := l) (D := D) (cy := cy) (X := X) (a := a) (f := f) (r := r) (kn := kn) (Y := Y) hX hi hj h0 h0j h4 h4j
  rw [if_pos ⟨hlen, by omega⟩] at hh
  exact hh
theorem lk_cp {f : Nat → Nat → Nat} {r : Nat → Nat → Int32} {i j : Nat} (h : f 0 i ≠ f 0 j) (hij : i ≠ j) : ∀ q, q < up2 f 4 j (f 4 i) 4 i → cpy2 r (f 0 i) (f 3 i) (f 0 j) (f 3 j) (f 4 i) (f 0 j) (f 3 j + q) = cpy2 r (f 0 i) (f 3 i) (f 0 j) (f 3 j) (f 4 i) (f 0 i) (f 3 i + q) := by
  intro q hq
  rw [up2_i _ _ _ _ hij] at hq
  exact (cpy2_at hq).trans (cpy2_off h).symm
theorem hs_lk {g h : Nat → Int32} {m n : Nat} (z : Int32) (e : n = m) (a : ∀ q, q < n → h q = g q) : hsF g n 0 z = hsF h m 0 z := by
  subst e
  exact hsF_same n 0 z (fun q _ b => (a q (by omega)).symm)
theorem scS_at {r : Nat → Nat → Int32} {j lo n q : Nat} {src : Nat → Nat} {g : Nat → Int32} (hq : q < n) : scS r j lo n src g j (lo + q) = g (src q) := by
  unfold scS
  rw [if_pos ⟨rfl, by omega, by omega⟩, Nat.add_sub_cancel_left]
theorem scS_off {r : Nat → Nat → Int32} {j lo n q j' : Nat} {src : Nat → Nat} {g : Nat → Int32} (h : j' ≠ j) : scS r j lo n src g j' q = r j' q := by
  unfold scS
  rw [if_neg (fun z => h z.1)]
theorem lay_unl2 {n q : Nat} (hq : q < n) : layN n (unlN n q) = q := by
  unfold layN unlN
  by_cases h : q < (n + 1) / 2
  · rw [if_pos h, if_pos (by omega)]
    omega
  · rw [if_neg h, if_neg (by omega)]
    omega
theorem lay_two (R : Nat → Nat → Int32) {j d s ds n q : Nat} (hq : q < n) : scS (cpy2 (scS (cpy2 R j d s ds n) j d n (fun t => t) (fun q => R j (d + layN n q))) j d s ds n) j d n (unlN n) (fun q => (scS (cpy2 R j d s ds n) j d n (fun t => t) (fun q => R j (d + layN n q))) j (d + q)) j (d + q) = R j (d + q) :=
  (scS_at hq).trans ((scS_at (unlN_lt hq)).trans (by rw [lay_unl2 hq]))
theorem lay_off (R : Nat → Nat → Int32) {a j d s ds n k : Nat} (h1 : a ≠ j) (h2 : a ≠ s) : scS (cpy2 (scS (cpy2 R j d s ds n) j d n (fun t => t) (fun q => R j (d + layN n q))) j d s ds n) j d n (unlN n) (fun q => (scS (cpy2 R j d s ds n) j d n (fun t => t) (fun q => R j (d + layN n q))) j (d + q)) a k = R a k :=
  (scS_off h1).trans ((cpy2_off h2).trans ((scS_off h1).trans (cpy2_off h2)))
theorem dX2_isTurnSound_0 : decode cX2_isTurnSound 0 = .ok (.aload_n 0, 1) := dqo_42 (kb_of ke_X2_isTurnSound 0 rfl)
theorem dX2_isTurnSound_1 : decode cX2_isTurnSound 1 = .ok (.getfield 33, 3) := dqo_180 0 33 (kb_of ke_X2_isTurnSound 1 rfl) (kb_of ke_X2_isTurnSound 2 rfl) (kb_of ke_X2_isTurnSound 3 rfl)
theorem dX2_isTurnSound_4 : decode cX2_isTurnSound 4 = .ok (.aload_n 1, 1) := dqo_43 (kb_of ke_X2_isTurnSound 4 rfl)
theorem dX2_isTurnSound_5 : decode cX2_isTurnSound 5 = .ok (.invokevirtual 79, 3) := dqo_182 0 79 (kb_of ke_X2_isTurnSound 5 rfl) (kb_of ke_X2_isTurnSound 6 rfl) (kb_of ke_X2_isTurnSound 7 rfl)
theorem dX2_isTurnSound_8 : decode cX2_isTurnSound 8 = .ok (.aload_n 0, 1) := dqo_42 (kb_of ke_X2_isTurnSound 8 rfl)
theorem dX2_isTurnSound_9 : decode cX2_isTurnSound 9 = .ok (.getfield 33, 3) := dqo_180 0 33 (kb_of ke_X2_isTurnSound 9 rfl) (kb_of ke_X2_isTurnSound 10 rfl) (kb_of ke_X2_isTurnSound 11 rfl)
theorem dX2_isTurnSound_12 : decode cX2_isTurnSound 12 = .ok (.iconst 0, 1) := dqo_3 (kb_of ke_X2_isTurnSound 12 rfl)
theorem dX2_isTurnSound_13 : decode cX2_isTurnSound 13 = .ok (.aload_n 1, 1) := dqo_43 (kb_of ke_X2_isTurnSound 13 rfl)
theorem dX2_isTurnSound_14 : decode cX2_isTurnSound 14 = .ok (.getfield 50, 3) := dqo_180 0 50 (kb_of ke_X2_isTurnSound 14 rfl) (kb_of ke_X2_isTurnSound 15 rfl) (kb_of ke_X2_isTurnSound 16 rfl)
theorem dX2_isTurnSound_17 : decode cX2_isTurnSound 17 = .ok (.invokevirtual 105, 3) := dqo_182 0 105 (kb_of ke_X2_isTurnSound 17 rfl) (kb_of ke_X2_isTurnSound 18 rfl) (kb_of ke_X2_isTurnSound 19 rfl)
theorem dX2_isTurnSound_20 : decode cX2_isTurnSound 20 = .ok (.aload_n 0, 1) := dqo_42 (kb_of ke_X2_isTurnSound 20 rfl)
theorem dX2_isTurnSound_21 : decode cX2_isTurnSound 21 = .ok (.getfield 33, 3) := dqo_180 0 33 (kb_of ke_X2_isTurnSound 21 rfl) (kb_of ke_X2_isTurnSound 22 rfl) (kb_of ke_X2_isTurnSound 23 rfl)
theorem dX2_isTurnSound_24 : decode cX2_isTurnSound 24 = .ok (.iconst 0, 1) := dqo_3 (kb_of ke_X2_isTurnSound 24 rfl)
theorem dX2_isTurnSound_25 : decode cX2_isTurnSound 25 = .ok (.aload_n 1, 1) := dqo_43 (kb_of ke_X2_isTurnSound 25 rfl)
theorem dX2_isTurnSound_26 : decode cX2_isTurnSound 26 = .ok (.getfield 50, 3) := dqo_180 0 50 (kb_of ke_X2_isTurnSound 26 rfl) (kb_of ke_X2_isTurnSound 27 rfl) (kb_of ke_X2_isTurnSound 28 rfl)
theorem dX2_isTurnSound_29 : decode cX2_isTurnSound 29 = .ok (.invokevirtual 105, 3) := dqo_182 0 105 (kb_of ke_X2_isTurnSound 29 rfl) (kb_of ke_X2_isTurnSound 30 rfl) (kb_of ke_X2_isTurnSound 31 rfl)
theorem dX2_isTurnSound_32 : decode cX2_isTurnSound 32 = .ok (.aload_n 0, 1) := dqo_42 (kb_of ke_X2_isTurnSound 32 rfl)
theorem dX2_isTurnSound_33 : decode cX2_isTurnSound 33 = .ok (.getfield 33, 3) := dqo_180 0 33 (kb_of ke_X2_isTurnSound 33 rfl) (kb_of ke_X2_isTurnSound 34 rfl) (kb_of ke_X2_isTurnSound 35 rfl)
theorem dX2_isTurnSound_36 : decode cX2_isTurnSound 36 = .ok (.aload_n 1, 1) := dqo_43 (kb_of ke_X2_isTurnSound 36 rfl)
theorem dX2_isTurnSound_37 : decode cX2_isTurnSound 37 = .ok (.invokevirtual 161, 3) := dqo_182 0 161 (kb_of ke_X2_isTurnSound 37 rfl) (kb_of ke_X2_isTurnSound 38 rfl) (kb_of ke_X2_isTurnSound 39 rfl)
theorem dX2_isTurnSound_40 : decode cX2_isTurnSound 40 = .ok (.ifCond .eq 21, 3) := dqo_153 0 21 (by decide) (kb_of ke_X2_isTurnSound 40 rfl) (kb_of ke_X2_isTurnSound 41 rfl) (kb_of ke_X2_isTurnSound 42 rfl)
theorem dX2_isTurnSound_43 : decode cX2_isTurnSound 43 = .ok (.aload_n 0, 1) := dqo_42 (kb_of ke_X2_isTurnSound 43 rfl)
theorem dX2_isTurnSound_44 : decode cX2_isTurnSound 44 = .ok (.getfield 33, 3) := dqo_180 0 33 (kb_of ke_X2_isTurnSound 44 rfl) (kb_of ke_X2_isTurnSound 45 rfl) (kb_of ke_X2_isTurnSound 46 rfl)
theorem dX2_isTurnSound_47 : decode cX2_isTurnSound 47 = .ok (.invokevirtual 165, 3) := dqo_182 0 165 (kb_of ke_X2_isTurnSound 47 rfl) (kb_of ke_X2_isTurnSound 48 rfl) (kb_of ke_X2_isTurnSound 49 rfl)
theorem dX2_isTurnSound_50 : decode cX2_isTurnSound 50 = .ok (.aload_n 1, 1) := dqo_43 (kb_of ke_X2_isTurnSound 50 rfl)
theorem dX2_isTurnSound_51 : decode cX2_isTurnSound 51 = .ok (.invokevirtual 165, 3) := dqo_182 0 165 (kb_of ke_X2_isTurnSound 51 rfl) (kb_of ke_X2_isTurnSound 52 rfl) (kb_of ke_X2_isTurnSound 53 rfl)
theorem dX2_isTurnSound_54 : decode cX2_isTurnSound 54 = .ok (.if_icmp .ne 7, 3) := dqo_160 0 7 (by decide) (kb_of ke_X2_isTurnSound 54 rfl) (kb_of ke_X2_isTurnSound 55 rfl) (kb_of ke_X2_isTurnSound 56 rfl)
theorem dX2_isTurnSound_57 : decode cX2_isTurnSound 57 = .ok (.iconst 1, 1) := dqo_4 (kb_of ke_X2_isTurnSound 57 rfl)
theorem dX2_isTurnSound_58 : decode cX2_isTurnSound 58 = .ok (.goto 4, 3) := dqo_167 0 4 (by decide) (kb_of ke_X2_isTurnSound 58 rfl) (kb_of ke_X2_isTurnSound 59 rfl) (kb_of ke_X2_isTurnSound 60 rfl)
theorem dX2_isTurnSound_62 : decode cX2_isTurnSound 62 = .ok (.ireturn, 1) := dqo_172 (kb_of ke_X2_isTurnSound 62 rfl)
set_option maxRecDepth 100000 in
set_option maxHeartbeats 4000000 in
theorem C_isTurnSound_ok {l : Launch} {D : va_G} {cy : Nat → ClassId} {X : (Nat → Prop) → State → Heap → Prop} {a f : Nat → Nat → Nat} {r : Nat → Nat → Int32} {kn : Int32} {Y : va_W} {i : Nat} (hX : EnvX X) (hC : CInv f) (hi4 : i < 4) (hz : 0 < f 4 i) : Cd l D cy X yX2_isTurnSound cX2_isTurnSound 2 (some .boolean) (rmz 4 200) [.ref (a 0 0), .ref (a 1 i)] (WC cy a f r kn ++ Y) (some (.int (nI 1))) (WC cy a (up2 f 4 9 (f 4 i)) (cpy2 r (f 0 i) (f 3 i) (f 0 9) (f 3 9) (f 4 i)) kn ++ Y) := by
  have q3 := hC.sp
  have sp := hC.sp
  have q1 := hC.rw hi4
  obtain ⟨sp0, sp1, sp2, sp3, sp4, sp5, sp6, sp7, sp8⟩ := sp
  obtain ⟨q2, q3, q4, q5, q6, q7⟩ := q1
  refine Cm.of [some (.ref (a 0 0)), some (.ref (a 1 i))] pn_X2 rfl (Nat.le_of_ble_eq_true rfl) ?_
  intro p e s m args below meth c A C hE hr hnt hn
  refine r_aload_n C dX2_isTurnSound_0 rfl ?_
  refine s_get C 3 (by decide) qf_X2_33 rfl rfl dX2_isTurnSound_1 ?_
  refine r_aload_n C dX2_isTurnSound_4 rfl ?_
  refine d_Vv (st := []) hX.stb C hE (C_becomeLike (f := f) (r := r) (kn := kn) (i := 9) (j := i) hX (by first | omega | (simp [up2, *]; done) | (simp [up2, *]; omega) | (simp only [up2_eq]; omega) | (split <;> omega)) (by first | omega | (simp [up2, *]; done) | (simp [up2, *]; omega) | (simp only [up2_eq]; omega) | (split <;> omega)) (by first | omega | (simp [up2, *]; done) | (simp [up2, *]; omega) | (simp only [up2_eq]; omega) | (split <;> omega)) (by first | omega | (simp [up2, *]; done) | (simp [up2, *]; omega) | (simp only [up2_eq]; omega) | (split <;> omega)) (by first | omega | (simp [up2, *]; done) | (simp [up2, *]; omega) | (simp only [up2_eq]; omega) | (split <;> omega)) (by first | omega | (simp [up2, *]; done) | (simp [up2, *]; omega) | (simp only [up2_eq]; omega) | (split <;> omega))) pk_X1_becomeLike qm_X2_79 (3 + 9) 5 rfl rfl (wc_p (by first | omega | (simp [up2, *]; done) | (simp [up2, *]; omega) | (simp only [up2_eq]; omega) | (split <;> omega))) rfl rfl (Nat.le_of_ble_eq_true rfl) dX2_isTurnSound_5 ⟨Nat.le_of_ble_eq_true rfl, Nat.le_of_ble_eq_true rfl⟩ ⟨Nat.le_of_ble_eq_true rfl, Nat.le_of_ble_eq_true rfl⟩ ?_
  refine r_aload_n C dX2_isTurnSound_8 rfl ?_
  refine s_get C 3 (by decide) qf_X2_33 rfl rfl dX2_isTurnSound_9 ?_
  refine r_iconst (v := (nI 0)) C dX2_isTurnSound_12 (by decide) ?_
  refine r_aload_n C dX2_isTurnSound_13 rfl ?_
  refine p_getN (v := .int (nI ((up2 f 4 9 (f 4 i)) 4 i))) hX C hE 4 (by first | omega | (simp [up2, *]; done) | (simp [up2, *]; omega) | (simp only [up2_eq]; omega) | (split <;> omega)) (by decide) qn_X2_50 rfl rfl dX2_isTurnSound_14 ?_
  refine r_eqi (show nI (up2 f 4 9 (f 4 i) 4 i) = nI (f 4 i) from congrArg nI (up2_i _ _ _ _ (by omega))) ?_
  refine d_Vv (st := []) hX.stb C hE (C_turn (f := (up2 f 4 9 (f 4 i))) (r := (cpy2 r (f 0 i) (f 3 i) (f 0 9) (f 3 9) (f 4 i))) (kn := kn) (i := 9) (p0 := 0) (q0 := (f 4 i)) hX (by first | omega | (simp [up2, *]; done) | (simp [up2, *]; omega) | (simp only [up2_eq]; omega) | (split <;> omega)) (by first | omega | (simp [up2, *]; done) | (simp [up2, *]; omega) | (simp only [up2_eq]; omega) | (split <;> omega)) (by first | omega | (simp [up2, *]; done) | (simp [up2, *]; omega) | (simp only [up2_eq]; omega) | (split <;> omega)) (by first | omega | (simp [up2, *]; done) | (simp [up2, *]; omega) | (simp only [up2_eq]; omega) | (split <;> omega)) (by first | omega | (simp [up2, *]; done) | (simp [up2, *]; omega) | (simp only [up2_eq]; omega) | (split <;> omega))) pk_X1_turn qm_X2_105 (3 + 9) 5 rfl rfl (wc_p (by first | omega | (simp [up2, *]; done) | (simp [up2, *]; omega) | (simp only [up2_eq]; omega) | (split <;> omega))) rfl rfl (Nat.le_of_ble_eq_true rfl) dX2_isTurnSound_17 ⟨Nat.le_of_ble_eq_true rfl, Nat.le_of_ble_eq_true rfl⟩ ⟨Nat.le_of_ble_eq_true rfl, Nat.le_of_ble_eq_true rfl⟩ ?_
  refine r_aload_n C dX2_isTurnSound_20 rfl ?_
  refine s_get C 3 (by decide) qf_X2_33 rfl rfl dX2_isTurnSound_21 ?_
  refine r_iconst (v := (nI 0)) C dX2_isTurnSound_24 (by decide) ?_
  refine r_aload_n C dX2_isTurnSound_25 rfl ?_
  refine p_getN (v := .int (nI ((up2 f 4 9 (f 4 i)) 4 i))) hX C hE 4 (by first | omega | (simp [up2, *]; done) | (simp [up2, *]; omega) | (simp only [up2_eq]; omega) | (split <;> omega)) (by decide) qn_X2_50 rfl rfl dX2_isTurnSound_26 ?_
  refine r_eqi (show nI (up2 f 4 9 (f 4 i) 4 i) = nI (f 4 i) from congrArg nI (up2_i _ _ _ _ (by omega))) ?_
  refine d_Vv (st := []) hX.stb C hE (C_turn (f := (up2 f 4 9 (f 4 i))) (r := (revS (cpy2 r (f 0 i) (f 3 i) (f 0 9) (f 3 9) (f 4 i)) (f 0 9) (f 3 9 + 0) (f 3 9 + (f 4 i)))) (kn := kn) (i := 9) (p0 := 0) (q0 := (f 4 i)) hX (by first | omega | (simp [up2, *]; done) | (simp [up2, *]; omega) | (simp only [up2_eq]; omega) | (split <;> omega)) (by first | omega | (simp [up2, *]; done) | (simp [up2, *]; omega) | (simp only [up2_eq]; omega) | (split <;> omega)) (by first | omega | (simp [up2, *]; done) | (simp [up2, *]; omega) | (simp only [up2_eq]; omega) | (split <;> omega)) (by first | omega | (simp [up2, *]; done) | (simp [up2, *]; omega) | (simp only [up2_eq]; omega) | (split <;> omega)) (by first | omega | (simp [up2, *]; done) | (simp [up2, *]; omega) | (simp only [up2_eq]; omega) | (split <;> omega))) pk_X1_turn qm_X2_105 (3 + 9) 5 rfl rfl (wc_p (by first | omega | (simp [up2, *]; done) | (simp [up2, *]; omega) | (simp only [up2_eq]; omega) | (split <;> omega))) rfl rfl (Nat.le_of_ble_eq_true rfl) dX2_isTurnSound_29 ⟨Nat.le_of_ble_eq_true rfl, Nat.le_of_ble_eq_true rfl⟩ ⟨Nat.le_of_ble_eq_true rfl, Nat.le_of_ble_eq_true rfl⟩ ?_
  refine r_w (congrArg (fun z => WC cy a (up2 f 4 9 (f 4 i)) z kn ++ Y) (revS_two _ _ _ _)) ?_
  refine r_aload_n C dX2_isTurnSound_32 rfl ?_
  refine s_get C 3 (by decide) qf_X2_33 rfl rfl dX2_isTurnSound_33 ?_
  refine r_aload_n C dX2_isTurnSound_36 rfl ?_
  refine d_V (st := []) hX.stb C hE (C_isLike_yes (f := (up2 f 4 9 (f 4 i))) (r := (cpy2 r (f 0 i) (f 3 i) (f 0 9) (f 3 9) (f 4 i))) (kn := kn) (i := 9) (j := i) hX (by first | omega | (simp [up2, *]; done) | (simp [up2, *]; omega) | (simp only [up2_eq]; omega) | (split <;> omega)) (by first | omega | (simp [up2, *]; done) | (simp [up2, *]; omega) | (simp only [up2_eq]; omega) | (split <;> omega)) (by first | omega | (simp [up2, *]; done) | (simp [up2, *]; omega) | (simp only [up2_eq]; omega) | (split <;> omega)) (by first | omega | (simp [up2, *]; done) | (simp [up2, *]; omega) | (simp only [up2_eq]; omega) | (split <;> omega)) (by first | omega | (simp [up2, *]; done) | (simp [up2, *]; omega) | (simp only [up2_eq]; omega) | (split <;> omega)) (by first | omega | (simp [up2, *]; done) | (simp [up2, *]; omega) | (simp only [up2_eq]; omega) | (split <;> omega)) (by rw [up2_eq, up2_i _ _ _ _ (by omega)]) (lk_cp (by omega) (by omega))) pk_X1_isLike qm_X2_161 (3 + 9) 5 rfl rfl (wc_p (by first | omega | (simp [up2, *]; done) | (simp [up2, *]; omega) | (simp only [up2_eq]; omega) | (split <;> omega))) rfl rfl (Nat.le_of_ble_eq_true rfl) dX2_isTurnSound_37 ⟨Nat.le_of_ble_eq_true rfl, Nat.le_of_ble_eq_true rfl⟩ ⟨Nat.le_of_ble_eq_true rfl, Nat.le_of_ble_eq_true rfl⟩ ?_
  refine r_ifN_eq (a := 1) (tgt := 61) C (by first | omega | (simp [up2, *]; done) | (simp [up2, *]; omega) | (simp only [up2_eq]; omega) | (split <;> omega)) dX2_isTurnSound_40 (by decide) (fun h40_1 => ?_) (fun h40_1 => ?_)
  · exact absurd h40_1 (by first | omega | (simp [up2, *]; done) | (simp [up2, *]; omega) | (simp only [up2_eq]; omega) | (split <;> omega))
  · skip
    refine r_aload_n C dX2_isTurnSound_43 rfl ?_
    refine s_get C 3 (by decide) qf_X2_33 rfl rfl dX2_isTurnSound_44 ?_
    refine d_V (st := []) hX.stb C hE (C_hashOfItems (f := (up2 f 4 9 (f 4 i))) (r := (cpy2 r (f 0 i) (f 3 i) (f 0 9) (f 3 9) (f 4 i))) (kn := kn) (i := 9) hX (by first | omega | (simp [up2, *]; done) | (simp [up2, *]; omega) | (simp only [up2_eq]; omega) | (split <;> omega)) (by first | omega | (simp [up2, *]; done) | (simp [up2, *]; omega) | (simp only [up2_eq]; omega) | (split <;> omega)) (by first | omega | (simp [up2, *]; done) | (simp [up2, *]; omega) | (simp only [up2_eq]; omega) | (split <;> omega))) pk_X1_hashOfItems qm_X2_165 (3 + 9) 5 rfl rfl (wc_p (by first | omega | (simp [up2, *]; done) | (simp [up2, *]; omega) | (simp only [up2_eq]; omega) | (split <;> omega))) rfl rfl (Nat.le_of_ble_eq_true rfl) dX2_isTurnSound_47 ⟨Nat.le_of_ble_eq_true rfl, Nat.le_of_ble_eq_true rfl⟩ ⟨Nat.le_of_ble_eq_true rfl, Nat.le_of_ble_eq_true rfl⟩ ?_
    refine r_aload_n C dX2_isTurnSound_50 rfl ?_
    refine d_V (st := [.int (hsF (fun q => (cpy2 r (f 0 i) (f 3 i) (f 0 9) (f 3 9) (f 4 i)) (f 0 9) (f 3 9 + q)) (f 4 i) 0 (nI 1))]) hX.stb C hE (C_hashOfItems (f := (up2 f 4 9 (f 4 i))) (r := (cpy2 r (f 0 i) (f 3 i) (f 0 9) (f 3 9) (f 4 i))) (kn := kn) (i := i) hX (by first | omega | (simp [up2, *]; done) | (simp [up2, *]; omega) | (simp only [up2_eq]; omega) | (split <;> omega)) (by first | omega | (simp [up2, *]; done) | (simp [up2, *]; omega) | (simp only [up2_eq]; omega) | (split <;> omega)) (by first | omega | (simp [up2, *]; done) | (simp [up2, *]; omega) | (simp only [up2_eq]; omega) | (split <;> omega))) pk_X1_hashOfItems qm_X2_165 (3 + i) 5 rfl rfl (wc_p (by first | omega | (simp [up2, *]; done) | (simp [up2, *]; omega) | (simp only [up2_eq]; omega) | (split <;> omega))) rfl rfl (Nat.le_of_ble_eq_true rfl) dX2_isTurnSound_51 ⟨Nat.le_of_ble_eq_true rfl, Nat.le_of_ble_eq_true rfl⟩ ⟨Nat.le_of_ble_eq_true rfl, Nat.le_of_ble_eq_true rfl⟩ ?_
    refine r_eqi (y := (hsF (fun q => (cpy2 r (f 0 i) (f 3 i) (f 0 9) (f 3 9) (f 4 i)) (f 0 9) (f 3 9 + q)) (f 4 i) 0 (nI 1))) (hs_lk _ (up2_i _ _ _ _ (by omega)) (fun q hq => lk_cp (by omega) (by omega) q hq)) ?_
    refine r_ic_ne (tgt := 61) C dX2_isTurnSound_54 (by decide) (fun h54_2 => ?_) (fun h54_2 => ?_)
    · exact absurd h54_2 (by first | omega | (simp [up2, *]; done) | (simp [up2, *]; omega) | (simp only [up2_eq]; omega) | (split <;> omega))
    · skip
      refine r_iconst (v := (nI 1)) C dX2_isTurnSound_57 (by decide) ?_
      refine r_goto (tgt := 62) C dX2_isTurnSound_58 (by decide) ?_
      exact r_zret C hr (by first | omega | (simp [up2, *]; done) | (simp [up2, *]; omega) | (simp only [up2_eq]; omega) | (split <;> omega)) dX2_isTurnSound_62 ⟨rfl, rfl⟩ (Nat.le_of_ble_eq_true rfl) (Nat.le_of_ble_eq_true rfl)
set_option maxRecDepth 100000 in
set_option maxHeartbeats 4000000 in
theorem C_isTurnSound_0 {l : Launch} {D : va_G} {cy : Nat → ClassId} {X : (Nat → Prop) → State → Heap → Prop} {a f : Nat → Nat → Nat} {r : Nat → Nat → Int32} {kn : Int32} {Y : va_W} {i : Nat} (hX : EnvX X) (hC : CInv f) (hi4 : i < 4) (hz : f 4 i = 0) : Cd l D cy X yX2_isTurnSound cX2_isTurnSound 2 (some .boolean) (rmz 4 200) [.ref (a 0 0), .ref (a 1 i)] (WC cy a f r kn ++ Y) (some (.int (nI 1))) (WC cy a (up2 f 4 9 (f 4 i)) (cpy2 r (f 0 i) (f 3 i) (f 0 9) (f 3 9) (f 4 i)) kn ++ Y) := by
  have q3 := hC.sp
  have sp := hC.sp
  have q1 := hC.rw hi4
  obtain ⟨sp0, sp1, sp2, sp3, sp4, sp5, sp6, sp7, sp8⟩ := sp
  obtain ⟨q2, q3, q4, q5, q6, q7⟩ := q1
  refine Cm.of [some (.ref (a 0 0)), some (.ref (a 1 i))] pn_X2 rfl (Nat.le_of_ble_eq_true rfl) ?_
  intro p e s m args below meth c A C hE hr hnt hn
  refine r_aload_n C dX2_isTurnSound_0 rfl ?_
  refine s_get C 3 (by decide) qf_X2_33 rfl rfl dX2_isTurnSound_1 ?_
  refine r_aload_n C dX2_isTurnSound_4 rfl ?_
  refine d_Vv (st := []) hX.stb C hE (C_becomeLike (f := f) (r := r) (kn := kn) (i := 9) (j := i) hX (by first | omega | (simp [up2, *]; done) | (simp [up2, *]; omega) | (simp only [up2_eq]; omega) | (split <;> omega)) (by first | omega | (simp [up2, *]; done) | (simp [up2, *]; omega) | (simp only [up2_eq]; omega) | (split <;> omega)) (by first | omega | (simp [up2, *]; done) | (simp [up2, *]; omega) | (simp only [up2_eq]; omega) | (split <;> omega)) (by first | omega | (simp [up2, *]; done) | (simp [up2, *]; omega) | (simp only [up2_eq]; omega) | (split <;> omega)) (by first | omega | (simp [up2, *]; done) | (simp [up2, *]; omega) | (simp only [up2_eq]; omega) | (split <;> omega)) (by first | omega | (simp [up2, *]; done) | (simp [up2, *]; omega) | (simp only [up2_eq]; omega) | (split <;> omega))) pk_X1_becomeLike qm_X2_79 (3 + 9) 5 rfl rfl (wc_p (by first | omega | (simp [up2, *]; done) | (simp [up2, *]; omega) | (simp only [up2_eq]; omega) | (split <;> omega))) rfl rfl (Nat.le_of_ble_eq_true rfl) dX2_isTurnSound_5 ⟨Nat.le_of_ble_eq_true rfl, Nat.le_of_ble_eq_true rfl⟩ ⟨Nat.le_of_ble_eq_true rfl, Nat.le_of_ble_eq_true rfl⟩ ?_
  refine r_aload_n C dX2_isTurnSound_8 rfl ?_
  refine s_get C 3 (by decide) qf_X2_33 rfl rfl dX2_isTurnSound_9 ?_
  refine r_iconst (v := (nI 0)) C dX2_isTurnSound_12 (by decide) ?_
  refine r_aload_n C dX2_isTurnSound_13 rfl ?_
  refine p_getN (v := .int (nI ((up2 f 4 9 (f 4 i)) 4 i))) hX C hE 4 (by first | omega | (simp [up2, *]; done) | (simp [up2, *]; omega) | (simp only [up2_eq]; omega) | (split <;> omega)) (by decide) qn_X2_50 rfl rfl dX2_isTurnSound_14 ?_
  refine r_eqi (show nI (up2 f 4 9 (f 4 i) 4 i) = nI 0 from congrArg nI ((up2_i _ _ _ _ (by omega)).trans hz)) ?_
  refine d_Vv (st := []) hX.stb C hE (C_turn0 (f := (up2 f 4 9 (f 4 i))) (r := (cpy2 r (f 0 i) (f 3 i) (f 0 9) (f 3 9) (f 4 i))) (kn := kn) (i := 9) hX (by first | omega | (simp [up2, *]; done) | (simp [up2, *]; omega) | (simp only [up2_eq]; omega) | (split <;> omega))) pk_X1_turn qm_X2_105 (3 + 9) 5 rfl rfl (wc_p (by first | omega | (simp [up2, *]; done) | (simp [up2, *]; omega) | (simp only [up2_eq]; omega) | (split <;> omega))) rfl rfl (Nat.le_of_ble_eq_true rfl) dX2_isTurnSound_17 ⟨Nat.le_of_ble_eq_true rfl, Nat.le_of_ble_eq_true rfl⟩ ⟨Nat.le_of_ble_eq_true rfl, Nat.le_of_ble_eq_true rfl⟩ ?_
  refine r_aload_n C dX2_isTurnSound_20 rfl ?_
  refine s_get C 3 (by decide) qf_X2_33 rfl rfl dX2_isTurnSound_21 ?_
  refine r_iconst (v := (nI 0)) C dX2_isTurnSound_24 (by decide) ?_
  refine r_aload_n C dX2_isTurnSound_25 rfl ?_
  refine p_getN (v := .int (nI ((up2 f 4 9 (f 4 i)) 4 i))) hX C hE 4 (by first | omega | (simp [up2, *]; done) | (simp [up2, *]; omega) | (simp only [up2_eq]; omega) | (split <;> omega)) (by decide) qn_X2_50 rfl rfl dX2_isTurnSound_26 ?_
  refine r_eqi (show nI (up2 f 4 9 (f 4 i) 4 i) = nI 0 from congrArg nI ((up2_i _ _ _ _ (by omega)).trans hz)) ?_
  refine d_Vv (st := []) hX.stb C hE (C_turn0 (f := (up2 f 4 9 (f 4 i))) (r := (cpy2 r (f 0 i) (f 3 i) (f 0 9) (f 3 9) (f 4 i))) (kn := kn) (i := 9) hX (by first | omega | (simp [up2, *]; done) | (simp [up2, *]; omega) | (simp only [up2_eq]; omega) | (split <;> omega))) pk_X1_turn qm_X2_105 (3 + 9) 5 rfl rfl (wc_p (by first | omega | (simp [up2, *]; done) | (simp [up2, *]; omega) | (simp only [up2_eq]; omega) | (split <;> omega))) rfl rfl (Nat.le_of_ble_eq_true rfl) dX2_isTurnSound_29 ⟨Nat.le_of_ble_eq_true rfl, Nat.le_of_ble_eq_true rfl⟩ ⟨Nat.le_of_ble_eq_true rfl, Nat.le_of_ble_eq_true rfl⟩ ?_
  refine r_aload_n C dX2_isTurnSound_32 rfl ?_
  refine s_get C 3 (by decide) qf_X2_33 rfl rfl dX2_isTurnSound_33 ?_
  refine r_aload_n C dX2_isTurnSound_36 rfl ?_
  refine d_V (st := []) hX.stb C hE (C_isLike_yes (f := (up2 f 4 9 (f 4 i))) (r := (cpy2 r (f 0 i) (f 3 i) (f 0 9) (f 3 9) (f 4 i))) (kn := kn) (i := 9) (j := i) hX (by first | omega | (simp [up2, *]; done) | (simp [up2, *]; omega) | (simp only [up2_eq]; omega) | (split <;> omega)) (by first | omega | (simp [up2, *]; done) | (simp [up2, *]; omega) | (simp only [up2_eq]; omega) | (split <;> omega)) (by first | omega | (simp [up2, *]; done) | (simp [up2, *]; omega) | (simp only [up2_eq]; omega) | (split <;> omega)) (by first | omega | (simp [up2, *]; done) | (simp [up2, *]; omega) | (simp only [up2_eq]; omega) | (split <;> omega)) (by first | omega | (simp [up2, *]; done) | (simp [up2, *]; omega) | (simp only [up2_eq]; omega) | (split <;> omega)) (by first | omega | (simp [up2, *]; done) | (simp [up2, *]; omega) | (simp only [up2_eq]; omega) | (split <;> omega)) (by rw [up2_eq, up2_i _ _ _ _ (by omega)]) (lk_cp (by omega) (by omega))) pk_X1_isLike qm_X2_161 (3 + 9) 5 rfl rfl (wc_p (by first | omega | (simp [up2, *]; done) | (simp [up2, *]; omega) | (simp only [up2_eq]; omega) | (split <;> omega))) rfl rfl (Nat.le_of_ble_eq_true rfl) dX2_isTurnSound_37 ⟨Nat.le_of_ble_eq_true rfl, Nat.le_of_ble_eq_true rfl⟩ ⟨Nat.le_of_ble_eq_true rfl, Nat.le_of_ble_eq_true rfl⟩ ?_
  refine r_ifN_eq (a := 1) (tgt := 61) C (by first | omega | (simp [up2, *]; done) | (simp [up2, *]; omega) | (simp only [up2_eq]; omega) | (split <;> omega)) dX2_isTurnSound_40 (by decide) (fun h40_1 => ?_) (fun h40_1 => ?_)
  · exact absurd h40_1 (by first | omega | (simp [up2, *]; done) | (simp [up2, *]; omega) | (simp only [up2_eq]; omega) | (split <;> omega))
  · skip
    refine r_aload_n C dX2_isTurnSound_43 rfl ?_
    refine s_get C 3 (by decide) qf_X2_33 rfl rfl dX2_isTurnSound_44 ?_
    refine d_V (st := []) hX.stb C hE (C_hashOfItems (f := (up2 f 4 9 (f 4 i))) (r := (cpy2 r (f 0 i) (f 3 i) (f 0 9) (f 3 9) (f 4 i))) (kn := kn) (i := 9) hX (by first | omega | (simp [up2, *]; done) | (simp [up2, *]; omega) | (simp only [up2_eq]; omega) | (split <;> omega)) (by first | omega | (simp [up2, *]; done) | (simp [up2, *]; omega) | (simp only [up2_eq]; omega) | (split <;> omega)) (by first | omega | (simp [up2, *]; done) | (simp [up2, *]; omega) | (simp only [up2_eq]; omega) | (split <;> omega))) pk_X1_hashOfItems qm_X2_165 (3 + 9) 5 rfl rfl (wc_p (by first | omega | (simp [up2, *]; done) | (simp [up2, *]; omega) | (simp only [up2_eq]; omega) | (split <;> omega))) rfl rfl (Nat.le_of_ble_eq_true rfl) dX2_isTurnSound_47 ⟨Nat.le_of_ble_eq_true rfl, Nat.le_of_ble_eq_true rfl⟩ ⟨Nat.le_of_ble_eq_true rfl, Nat.le_of_ble_eq_true rfl⟩ ?_
    refine r_aload_n C dX2_isTurnSound_50 rfl ?_
    refine d_V (st := [.int (hsF (fun q => (cpy2 r (f 0 i) (f 3 i) (f 0 9) (f 3 9) (f 4 i)) (f 0 9) (f 3 9 + q)) (f 4 i) 0 (nI 1))]) hX.stb C hE (C_hashOfItems (f := (up2 f 4 9 (f 4 i))) (r := (cpy2 r (f 0 i) (f 3 i) (f 0 9) (f 3 9) (f 4 i))) (kn := kn) (i := i) hX (by first | omega | (simp [up2, *]; done) | (simp [up2, *]; omega) | (simp only [up2_eq]; omega) | (split <;> omega)) (by first | omega | (simp [up2, *]; done) | (simp [up2, *]; omega) | (simp only [up2_eq]; omega) | (split <;> omega)) (by first | omega | (simp [up2, *]; done) | (simp [up2, *]; omega) | (simp only [up2_eq]; omega) | (split <;> omega))) pk_X1_hashOfItems qm_X2_165 (3 + i) 5 rfl rfl (wc_p (by first | omega | (simp [up2, *]; done) | (simp [up2, *]; omega) | (simp only [up2_eq]; omega) | (split <;> omega))) rfl rfl (Nat.le_of_ble_eq_true rfl) dX2_isTurnSound_51 ⟨Nat.le_of_ble_eq_true rfl, Nat.le_of_ble_eq_true rfl⟩ ⟨Nat.le_of_ble_eq_true rfl, Nat.le_of_ble_eq_true rfl⟩ ?_
    refine r_eqi (y := (hsF (fun q => (cpy2 r (f 0 i) (f 3 i) (f 0 9) (f 3 9) (f 4 i)) (f 0 9) (f 3 9 + q)) (f 4 i) 0 (nI 1))) (hs_lk _ (up2_i _ _ _ _ (by omega)) (fun q hq => lk_cp (by omega) (by omega) q hq)) ?_
    refine r_ic_ne (tgt := 61) C dX2_isTurnSound_54 (by decide) (fun h54_2 => ?_) (fun h54_2 => ?_)
    · exact absurd h54_2 (by first | omega | (simp [up2, *]; done) | (simp [up2, *]; omega) | (simp only [up2_eq]; omega) | (split <;> omega))
    · skip
      refine r_iconst (v := (nI 1)) C dX2_isTurnSound_57 (by decide) ?_
      refine r_goto (tgt := 62) C dX2_isTurnSound_58 (by decide) ?_
      exact r_zret C hr (by first | omega | (simp [up2, *]; done) | (simp [up2, *]; omega) | (simp only [up2_eq]; omega) | (split <;> omega)) dX2_isTurnSound_62 ⟨rfl, rfl⟩ (Nat.le_of_ble_eq_true rfl) (Nat.le_of_ble_eq_true rfl)
theorem dX2_isRiffleSound_0 : decode cX2_isRiffleSound 0 = .ok (.aload_n 0, 1) := dqo_42 (kb_of ke_X2_isRiffleSound 0 rfl)
theorem dX2_isRiffleSound_1 : decode cX2_isRiffleSound 1 = .ok (.getfield 33, 3) := dqo_180 0 33 (kb_of ke_X2_isRiffleSound 1 rfl) (kb_of ke_X2_isRiffleSound 2 rfl) (kb_of ke_X2_isRiffleSound 3 rfl)
theorem dX2_isRiffleSound_4 : decode cX2_isRiffleSound 4 = .ok (.aload_n 1, 1) := dqo_43 (kb_of ke_X2_isRiffleSound 4 rfl)
theorem dX2_isRiffleSound_5 : decode cX2_isRiffleSound 5 = .ok (.invokevirtual 79, 3) := dqo_182 0 79 (kb_of ke_X2_isRiffleSound 5 rfl) (kb_of ke_X2_isRiffleSound 6 rfl) (kb_of ke_X2_isRiffleSound 7 rfl)
theorem dX2_isRiffleSound_8 : decode cX2_isRiffleSound 8 = .ok (.aload_n 0, 1) := dqo_42 (kb_of ke_X2_isRiffleSound 8 rfl)
theorem dX2_isRiffleSound_9 : decode cX2_isRiffleSound 9 = .ok (.getfield 33, 3) := dqo_180 0 33 (kb_of ke_X2_isRiffleSound 9 rfl) (kb_of ke_X2_isRiffleSound 10 rfl) (kb_of ke_X2_isRiffleSound 11 rfl)
theorem dX2_isRiffleSound_12 : decode cX2_isRiffleSound 12 = .ok (.aload_n 0, 1) := dqo_42 (kb_of ke_X2_isRiffleSound 12 rfl)
theorem dX2_isRiffleSound_13 : decode cX2_isRiffleSound 13 = .ok (.getfield 29, 3) := dqo_180 0 29 (kb_of ke_X2_isRiffleSound 13 rfl) (kb_of ke_X2_isRiffleSound 14 rfl) (kb_of ke_X2_isRiffleSound 15 rfl)
theorem dX2_isRiffleSound_16 : decode cX2_isRiffleSound 16 = .ok (.invokevirtual 111, 3) := dqo_182 0 111 (kb_of ke_X2_isRiffleSound 16 rfl) (kb_of ke_X2_isRiffleSound 17 rfl) (kb_of ke_X2_isRiffleSound 18 rfl)
theorem dX2_isRiffleSound_19 : decode cX2_isRiffleSound 19 = .ok (.aload_n 0, 1) := dqo_42 (kb_of ke_X2_isRiffleSound 19 rfl)
theorem dX2_isRiffleSound_20 : decode cX2_isRiffleSound 20 = .ok (.getfield 33, 3) := dqo_180 0 33 (kb_of ke_X2_isRiffleSound 20 rfl) (kb_of ke_X2_isRiffleSound 21 rfl) (kb_of ke_X2_isRiffleSound 22 rfl)
theorem dX2_isRiffleSound_23 : decode cX2_isRiffleSound 23 = .ok (.aload_n 0, 1) := dqo_42 (kb_of ke_X2_isRiffleSound 23 rfl)
theorem dX2_isRiffleSound_24 : decode cX2_isRiffleSound 24 = .ok (.getfield 29, 3) := dqo_180 0 29 (kb_of ke_X2_isRiffleSound 24 rfl) (kb_of ke_X2_isRiffleSound 25 rfl) (kb_of ke_X2_isRiffleSound 26 rfl)
theorem dX2_isRiffleSound_27 : decode cX2_isRiffleSound 27 = .ok (.invokevirtual 114, 3) := dqo_182 0 114 (kb_of ke_X2_isRiffleSound 27 rfl) (kb_of ke_X2_isRiffleSound 28 rfl) (kb_of ke_X2_isRiffleSound 29 rfl)
theorem dX2_isRiffleSound_30 : decode cX2_isRiffleSound 30 = .ok (.aload_n 0, 1) := dqo_42 (kb_of ke_X2_isRiffleSound 30 rfl)
theorem dX2_isRiffleSound_31 : decode cX2_isRiffleSound 31 = .ok (.getfield 33, 3) := dqo_180 0 33 (kb_of ke_X2_isRiffleSound 31 rfl) (kb_of ke_X2_isRiffleSound 32 rfl) (kb_of ke_X2_isRiffleSound 33 rfl)
theorem dX2_isRiffleSound_34 : decode cX2_isRiffleSound 34 = .ok (.aload_n 1, 1) := dqo_43 (kb_of ke_X2_isRiffleSound 34 rfl)
theorem dX2_isRiffleSound_35 : decode cX2_isRiffleSound 35 = .ok (.invokevirtual 161, 3) := dqo_182 0 161 (kb_of ke_X2_isRiffleSound 35 rfl) (kb_of ke_X2_isRiffleSound 36 rfl) (kb_of ke_X2_isRiffleSound 37 rfl)
theorem dX2_isRiffleSound_38 : decode cX2_isRiffleSound 38 = .ok (.ireturn, 1) := dqo_172 (kb_of ke_X2_isRiffleSound 38 rfl)
set_option maxRecDepth 100000 in
set_option maxHeartbeats 4000000 in
theorem C_isRiffleSound {l : Launch} {D : va_G} {cy : Nat → ClassId} {X : (Nat → Prop) → State → Heap → Prop} {a f : Nat → Nat → Nat} {r : Nat → Nat → Int32} {kn : Int32} {Y : va_W} {i : Nat} (hX : EnvX X) (hC : CInv f) (hi4 : i < 4) : Cd l D cy X yX2_isRiffleSound cX2_isRiffleSound 2 (some .boolean) (rmz 4 200) [.ref (a 0 0), .ref (a 1 i)] (WC cy a f r kn ++ Y) (some (.int (nI 1))) (WC cy a (up2 (up2 (up2 f 4 9 (f 4 i)) 4 8 (f 4 i)) 4 8 (f 4 i)) (scS (cpy2 (scS (cpy2 (cpy2 r (f 0 i) (f 3 i) (f 0 9) (f 3 9) (f 4 i)) (f 0 9) (f 3 9) (f 0 8) (f 3 8) (f 4 i)) (f 0 9) (f 3 9) (f 4 i) (fun t => t) (fun q => (cpy2 r (f 0 i) (f 3 i) (f 0 9) (f 3 9) (f 4 i)) (f 0 9) (f 3 9 + layN (f 4 i) q))) (f 0 9) (f 3 9) (f 0 8) (f 3 8) (f 4 i)) (f 0 9) (f 3 9) (f 4 i) (unlN (f 4 i)) (fun q => (scS (cpy2 (cpy2 r (f 0 i) (f 3 i) (f 0 9) (f 3 9) (f 4 i)) (f 0 9) (f 3 9) (f 0 8) (f 3 8) (f 4 i)) (f 0 9) (f 3 9) (f 4 i) (fun t => t) (fun q => (cpy2 r (f 0 i) (f 3 i) (f 0 9) (f 3 9) (f 4 i)) (f 0 9) (f 3 9 + layN (f 4 i) q))) (f 0 9) (f 3 9 + q))) kn ++ Y) := by
  have q3 := hC.sp
  have sp := hC.sp
  have q1 := hC.rw hi4
  obtain ⟨sp0, sp1, sp2, sp3, sp4, sp5, sp6, sp7, sp8⟩ := sp
  obtain ⟨q2, q3, q4, q5, q6, q7⟩ := q1
  refine Cm.of [some (.ref (a 0 0)), some (.ref (a 1 i))] pn_X2 rfl (Nat.le_of_ble_eq_true rfl) ?_
  intro p e s m args below meth c A C hE hr hnt hn
  refine r_aload_n C dX2_isRiffleSound_0 rfl ?_
  refine s_get C 3 (by decide) qf_X2_33 rfl rfl dX2_isRiffleSound_1 ?_
  refine r_aload_n C dX2_isRiffleSound_4 rfl ?_
  refine d_Vv (st := []) hX.stb C hE (C_becomeLike (f := f) (r := r) (kn := kn) (i := 9) (j := i) hX (by first | omega | (simp [up2, *]; done) | (simp [up2, *]; omega) | (simp only [up2_eq]; omega) | (split <;> omega)) (by first | omega | (simp [up2, *]; done) | (simp [up2, *]; omega) | (simp only [up2_eq]; omega) | (split <;> omega)) (by first | omega | (simp [up2, *]; done) | (simp [up2, *]; omega) | (simp only [up2_eq]; omega) | (split <;> omega)) (by first | omega | (simp [up2, *]; done) | (simp [up2, *]; omega) | (simp only [up2_eq]; omega) | (split <;> omega)) (by first | omega | (simp [up2, *]; done) | (simp [up2, *]; omega) | (simp only [up2_eq]; omega) | (split <;> omega)) (by first | omega | (simp [up2, *]; done) | (simp [up2, *]; omega) | (simp only [up2_eq]; omega) | (split <;> omega))) pk_X1_becomeLike qm_X2_79 (3 + 9) 5 rfl rfl (wc_p (by first | omega | (simp [up2, *]; done) | (simp [up2, *]; omega) | (simp only [up2_eq]; omega) | (split <;> omega))) rfl rfl (Nat.le_of_ble_eq_true rfl) dX2_isRiffleSound_5 ⟨Nat.le_of_ble_eq_true rfl, Nat.le_of_ble_eq_true rfl⟩ ⟨Nat.le_of_ble_eq_true rfl, Nat.le_of_ble_eq_true rfl⟩ ?_
  refine r_aload_n C dX2_isRiffleSound_8 rfl ?_
  refine s_get C 3 (by decide) qf_X2_33 rfl rfl dX2_isRiffleSound_9 ?_
  refine r_aload_n C dX2_isRiffleSound_12 rfl ?_
  refine s_get C 2 (by decide) qf_X2_29 rfl rfl dX2_isRiffleSound_13 ?_
  refine d_Vv (st := []) hX.stb C hE (C_layHalvesTogether (f := (up2 f 4 9 (f 4 i))) (r := (cpy2 r (f 0 i) (f 3 i) (f 0 9) (f 3 9) (f 4 i))) (kn := kn) (i := 9) (j := 8) hX (by first | omega | (simp [up2, *]; done) | (simp [up2, *]; omega) | (simp only [up2_eq]; omega) | (split <;> omega)) (by first | omega | (simp [up2, *]; done) | (simp [up2, *]; omega) | (simp only [up2_eq]; omega) | (split <;> omega)) (by first | omega | (simp [up2, *]; done) | (simp [up2, *]; omega) | (simp only [up2_eq]; omega) | (split <;> omega)) (by first | omega | (simp [up2, *]; done) | (simp [up2, *]; omega) | (simp only [up2_eq]; omega) | (split <;> omega)) (by first | omega | (simp [up2, *]; done) | (simp [up2, *]; omega) | (simp only [up2_eq]; omega) | (split <;> omega)) (by first | omega | (simp [up2, *]; done) | (simp [up2, *]; omega) | (simp only [up2_eq]; omega) | (split <;> omega)) (by first | omega | (simp [up2, *]; done) | (simp [up2, *]; omega) | (simp only [up2_eq]; omega) | (split <;> omega)) (by first | omega | (simp [up2, *]; done) | (simp [up2, *]; omega) | (simp only [up2_eq]; omega) | (split <;> omega))) pk_X1_layHalvesTogether qm_X2_111 (3 + 9) 5 rfl rfl (wc_p (by first | omega | (simp [up2, *]; done) | (simp [up2, *]; omega) | (simp only [up2_eq]; omega) | (split <;> omega))) rfl rfl (Nat.le_of_ble_eq_true rfl) dX2_isRiffleSound_16 ⟨Nat.le_of_ble_eq_true rfl, Nat.le_of_ble_eq_true rfl⟩ ⟨Nat.le_of_ble_eq_true rfl, Nat.le_of_ble_eq_true rfl⟩ ?_
  refine r_aload_n C dX2_isRiffleSound_19 rfl ?_
  refine s_get C 3 (by decide) qf_X2_33 rfl rfl dX2_isRiffleSound_20 ?_
  refine r_aload_n C dX2_isRiffleSound_23 rfl ?_
  refine s_get C 2 (by decide) qf_X2_29 rfl rfl dX2_isRiffleSound_24 ?_
  refine d_Vv (st := []) hX.stb C hE (C_drawHalvesApart (f := (up2 (up2 f 4 9 (f 4 i)) 4 8 (f 4 i))) (r := (scS (cpy2 (cpy2 r (f 0 i) (f 3 i) (f 0 9) (f 3 9) (f 4 i)) (f 0 9) (f 3 9) (f 0 8) (f 3 8) (f 4 i)) (f 0 9) (f 3 9) (f 4 i) (fun t => t) (fun q => (cpy2 r (f 0 i) (f 3 i) (f 0 9) (f 3 9) (f 4 i)) (f 0 9) (f 3 9 + layN (f 4 i) q)))) (kn := kn) (i := 9) (j := 8) hX (by first | omega | (simp [up2, *]; done) | (simp [up2, *]; omega) | (simp only [up2_eq]; omega) | (split <;> omega)) (by first | omega | (simp [up2, *]; done) | (simp [up2, *]; omega) | (simp only [up2_eq]; omega) | (split <;> omega)) (by first | omega | (simp [up2, *]; done) | (simp [up2, *]; omega) | (simp only [up2_eq]; omega) | (split <;> omega)) (by first | omega | (simp [up2, *]; done) | (simp [up2, *]; omega) | (simp only [up2_eq]; omega) | (split <;> omega)) (by first | omega | (simp [up2, *]; done) | (simp [up2, *]; omega) | (simp only [up2_eq]; omega) | (split <;> omega)) (by first | omega | (simp [up2, *]; done) | (simp [up2, *]; omega) | (simp only [up2_eq]; omega) | (split <;> omega)) (by first | omega | (simp [up2, *]; done) | (simp [up2, *]; omega) | (simp only [up2_eq]; omega) | (split <;> omega)) (by first | omega | (simp [up2, *]; done) | (simp [up2, *]; omega) | (simp only [up2_eq]; omega) | (split <;> omega))) pk_X1_drawHalvesApart qm_X2_114 (3 + 9) 5 rfl rfl (wc_p (by first | omega | (simp [up2, *]; done) | (simp [up2, *]; omega) | (simp only [up2_eq]; omega) | (split <;> omega))) rfl rfl (Nat.le_of_ble_eq_true rfl) dX2_isRiffleSound_27 ⟨Nat.le_of_ble_eq_true rfl, Nat.le_of_ble_eq_true rfl⟩ ⟨Nat.le_of_ble_eq_true rfl, Nat.le_of_ble_eq_true rfl⟩ ?_
  refine r_aload_n C dX2_isRiffleSound_30 rfl ?_
  refine s_get C 3 (by decide) qf_X2_33 rfl rfl dX2_isRiffleSound_31 ?_
  refine r_aload_n C dX2_isRiffleSound_34 rfl ?_
  refine d_V (st := []) hX.stb C hE (C_isLike_yes (f := (up2 (up2 (up2 f 4 9 (f 4 i)) 4 8 (f 4 i)) 4 8 (f 4 i))) (r := (scS (cpy2 (scS (cpy2 (cpy2 r (f 0 i) (f 3 i) (f 0 9) (f 3 9) (f 4 i)) (f 0 9) (f 3 9) (f 0 8) (f 3 8) (f 4 i)) (f 0 9) (f 3 9) (f 4 i) (fun t => t) (fun q => (cpy2 r (f 0 i) (f 3 i) (f 0 9) (f 3 9) (f 4 i)) (f 0 9) (f 3 9 + layN (f 4 i) q))) (f 0 9) (f 3 9) (f 0 8) (f 3 8) (f 4 i)) (f 0 9) (f 3 9) (f 4 i) (unlN (f 4 i)) (fun q => (scS (cpy2 (cpy2 r (f 0 i) (f 3 i) (f 0 9) (f 3 9) (f 4 i)) (f 0 9) (f 3 9) (f 0 8) (f 3 8) (f 4 i)) (f 0 9) (f 3 9) (f 4 i) (fun t => t) (fun q => (cpy2 r (f 0 i) (f 3 i) (f 0 9) (f 3 9) (f 4 i)) (f 0 9) (f 3 9 + layN (f 4 i) q))) (f 0 9) (f 3 9 + q)))) (kn := kn) (i := 9) (j := i) hX (by first | omega | (simp [up2, *]; done) | (simp [up2, *]; omega) | (simp only [up2_eq]; omega) | (split <;> omega)) (by first | omega | (simp [up2, *]; done) | (simp [up2, *]; omega) | (simp only [up2_eq]; omega) | (split <;> omega)) (by first | omega | (simp [up2, *]; done) | (simp [up2, *]; omega) | (simp only [up2_eq]; omega) | (split <;> omega)) (by first | omega | (simp [up2, *]; done) | (simp [up2, *]; omega) | (simp only [up2_eq]; omega) | (split <;> omega)) (by first | omega | (simp [up2, *]; done) | (simp [up2, *]; omega) | (simp only [up2_eq]; omega) | (split <;> omega)) (by first | omega | (simp [up2, *]; done) | (simp [up2, *]; omega) | (simp only [up2_eq]; omega) | (split <;> omega)) (by rw [up2_i _ _ _ _ (by omega), up2_i _ _ _ _ (by omega), up2_eq, up2_i _ _ _ _ (by omega), up2_i _ _ _ _ (by omega), up2_i _ _ _ _ (by omega)]) (fun q hq => by rw [up2_i _ _ _ _ (by omega), up2_i _ _ _ _ (by omega), up2_i _ _ _ _ (by omega)] at hq; exact (lay_two _ hq).trans ((cpy2_at hq).trans ((lay_off _ (by omega) (by omega)).trans (cpy2_off (by omega))).symm))) pk_X1_isLike qm_X2_161 (3 + 9) 5 rfl rfl (wc_p (by first | omega | (simp [up2, *]; done) | (simp [up2, *]; omega) | (simp only [up2_eq]; omega) | (split <;> omega))) rfl rfl (Nat.le_of_ble_eq_true rfl) dX2_isRiffleSound_35 ⟨Nat.le_of_ble_eq_true rfl, Nat.le_of_ble_eq_true rfl⟩ ⟨Nat.le_of_ble_eq_true rfl, Nat.le_of_ble_eq_true rfl⟩ ?_
  exact r_zret C hr (by first | omega | (simp [up2, *]; done) | (simp [up2, *]; omega) | (simp only [up2_eq]; omega) | (split <;> omega)) dX2_isRiffleSound_38 ⟨rfl, rfl⟩ (Nat.le_of_ble_eq_true rfl) (Nat.le_of_ble_eq_true rfl)
theorem shN_nI {k n : Nat} (hk : k < 1000) : shN (nI k) n = k % n := by
  unfold shN
  rw [nI_toInt (by omega), ← Int.natCast_emod]
  exact Int.toNat_natCast _
theorem revS_off {r : Nat → Nat → Int32} {j lo hi j' k : Nat} (h : j' ≠ j) : revS r j lo hi j' k = r j' k := by
  unfold revS
  rw [if_neg (fun z => h z.1)]
theorem rev3 {r : Nat → Nat → Int32} {j d n k q : Nat} (hk : k < n) (hq : q < n) : revS (revS (revS r j (d + 0) (d + n)) j (d + 0) (d + k)) j (d + k) (d + n) j (d + q) = r j (d + (q + (n - k)) % n) := by
  by_cases h : q < k
  · rw [Nat.mod_eq_of_lt (show q + (n - k) < n by omega)]
    unfold revS
    rw [if_neg (by omega), if_pos ⟨rfl, by omega, by omega⟩, if_pos ⟨rfl, by omega, by omega⟩]
    exact congrArg (r j) (by omega)
  · rw [show q + (n - k) = (q - k) + n by omega, Nat.add_mod_right, Nat.mod_eq_of_lt (show q - k < n by omega)]
    unfold revS
    rw [if_pos ⟨rfl, by omega, by omega⟩, if_neg (by omega), if_pos ⟨rfl, by omega, by omega⟩]
    exact congrArg (r j) (by omega)
theorem mv_lk {r : Nat → Nat → Int32} {a b j d s ds j2 d2 n k q : Nat} (h1 : a ≠ j) (h2 : a ≠ s) (h3 : j ≠ j2) (hk : k < n) (hq : q < n) : revS (revS (revS (cpy2 (scS (cpy2 (cpy2 r a b j d n) j d s ds n) j d n (rotN n k) (fun q => (cpy2 r a b j d n) j (d + q))) a b j2 d2 n) j2 (d2 + 0) (d2 + n)) j2 (d2 + 0) (d2 + k)) j2 (d2 + k) (d2 + n) j (d + q) = revS (revS (revS (cpy2 (scS (cpy2 (cpy2 r a b j d n) j d s ds n) j d n (rotN n k) (fun q => (cpy2 r a b j d n) j (d + q))) a b j2 d2 n) j2 (d2 + 0) (d2 + n)) j2 (d2 + 0) (d2 + k)) j2 (d2 + k) (d2 + n) j2 (d2 + q) := by
  have hm : (q + (n - k)) % n < n := Nat.mod_lt _ (by omega)
  rw [revS_off h3, revS_off h3, revS_off h3, cpy2_off h3, scS_at hq, rev3 hk hq, cpy2_at hm, scS_off h1, cpy2_off h2, cpy2_off h1]
  exact cpy2_at hm
theorem dX2_isMoveSound_0 : decode cX2_isMoveSound 0 = .ok (.aload_n 1, 1) := dqo_43 (kb_X2_isMoveSound_0 0 rfl)
theorem dX2_isMoveSound_1 : decode cX2_isMoveSound 1 = .ok (.getfield 50, 3) := dqo_180 0 50 (kb_X2_isMoveSound_0 1 rfl) (kb_X2_isMoveSound_0 2 rfl) (kb_X2_isMoveSound_0 3 rfl)
theorem dX2_isMoveSound_4 : decode cX2_isMoveSound 4 = .ok (.istore_n 3, 1) := dqo_62 (kb_X2_isMoveSound_0 4 rfl)
theorem dX2_isMoveSound_5 : decode cX2_isMoveSound 5 = .ok (.iload_n 3, 1) := dqo_29 (kb_X2_isMoveSound_0 5 rfl)
theorem dX2_isMoveSound_6 : decode cX2_isMoveSound 6 = .ok (.ifCond .ne 7, 3) := dqo_154 0 7 (by decide) (kb_X2_isMoveSound_0 6 rfl) (kb_X2_isMoveSound_0 7 rfl) (kb_X2_isMoveSound_0 8 rfl)
theorem dX2_isMoveSound_13 : decode cX2_isMoveSound 13 = .ok (.iload_n 2, 1) := dqo_28 (kb_X2_isMoveSound_0 13 rfl)
theorem dX2_isMoveSound_14 : decode cX2_isMoveSound 14 = .ok (.iload_n 3, 1) := dqo_29 (kb_X2_isMoveSound_0 14 rfl)
theorem dX2_isMoveSound_15 : decode cX2_isMoveSound 15 = .ok (.irem, 1) := dqo_112 (kb_X2_isMoveSound_0 15 rfl)
theorem dX2_isMoveSound_16 : decode cX2_isMoveSound 16 = .ok (.istore 4, 2) := dqo_54 4 (kb_X2_isMoveSound_0 16 rfl) (kb_X2_isMoveSound_0 17 rfl)
theorem dX2_isMoveSound_18 : decode cX2_isMoveSound 18 = .ok (.aload_n 0, 1) := dqo_42 (kb_X2_isMoveSound_0 18 rfl)
theorem dX2_isMoveSound_19 : decode cX2_isMoveSound 19 = .ok (.getfield 33, 3) := dqo_180 0 33 (kb_X2_isMoveSound_0 19 rfl) (kb_X2_isMoveSound_0 20 rfl) (kb_X2_isMoveSound_0 21 rfl)
theorem dX2_isMoveSound_22 : decode cX2_isMoveSound 22 = .ok (.aload_n 1, 1) := dqo_43 (kb_X2_isMoveSound_0 22 rfl)
theorem dX2_isMoveSound_23 : decode cX2_isMoveSound 23 = .ok (.invokevirtual 79, 3) := dqo_182 0 79 (kb_X2_isMoveSound_0 23 rfl) (kb_X2_isMoveSound_0 24 rfl) (kb_X2_isMoveSound_0 25 rfl)
theorem dX2_isMoveSound_26 : decode cX2_isMoveSound 26 = .ok (.aload_n 0, 1) := dqo_42 (kb_X2_isMoveSound_0 26 rfl)
theorem dX2_isMoveSound_27 : decode cX2_isMoveSound 27 = .ok (.getfield 33, 3) := dqo_180 0 33 (kb_X2_isMoveSound_0 27 rfl) (kb_X2_isMoveSound_0 28 rfl) (kb_X2_isMoveSound_0 29 rfl)
theorem dX2_isMoveSound_30 : decode cX2_isMoveSound 30 = .ok (.iload_n 2, 1) := dqo_28 (kb_X2_isMoveSound_0 30 rfl)
theorem dX2_isMoveSound_31 : decode cX2_isMoveSound 31 = .ok (.aload_n 0, 1) := dqo_42 (kb_X2_isMoveSound_0 31 rfl)
theorem dX2_isMoveSound_32 : decode cX2_isMoveSound 32 = .ok (.getfield 29, 3) := dqo_180 0 29 (kb_X2_isMoveSound_0 32 rfl) (kb_X2_isMoveSound_0 33 rfl) (kb_X2_isMoveSound_0 34 rfl)
theorem dX2_isMoveSound_35 : decode cX2_isMoveSound 35 = .ok (.invokevirtual 97, 3) := dqo_182 0 97 (kb_X2_isMoveSound_0 35 rfl) (kb_X2_isMoveSound_0 36 rfl) (kb_X2_isMoveSound_0 37 rfl)
theorem dX2_isMoveSound_38 : decode cX2_isMoveSound 38 = .ok (.aload_n 0, 1) := dqo_42 (kb_X2_isMoveSound_0 38 rfl)
theorem dX2_isMoveSound_39 : decode cX2_isMoveSound 39 = .ok (.getfield 36, 3) := dqo_180 0 36 (kb_X2_isMoveSound_0 39 rfl) (kb_X2_isMoveSound_0 40 rfl) (kb_X2_isMoveSound_0 41 rfl)
theorem dX2_isMoveSound_42 : decode cX2_isMoveSound 42 = .ok (.aload_n 1, 1) := dqo_43 (kb_X2_isMoveSound_0 42 rfl)
theorem dX2_isMoveSound_43 : decode cX2_isMoveSound 43 = .ok (.invokevirtual 79, 3) := dqo_182 0 79 (kb_X2_isMoveSound_0 43 rfl) (kb_X2_isMoveSound_0 44 rfl) (kb_X2_isMoveSound_0 45 rfl)
theorem dX2_isMoveSound_46 : decode cX2_isMoveSound 46 = .ok (.aload_n 0, 1) := dqo_42 (kb_X2_isMoveSound_0 46 rfl)
theorem dX2_isMoveSound_47 : decode cX2_isMoveSound 47 = .ok (.getfield 36, 3) := dqo_180 0 36 (kb_X2_isMoveSound_0 47 rfl) (kb_X2_isMoveSound_0 48 rfl) (kb_X2_isMoveSound_0 49 rfl)
theorem dX2_isMoveSound_50 : decode cX2_isMoveSound 50 = .ok (.iconst 0, 1) := dqo_3 (kb_X2_isMoveSound_0 50 rfl)
theorem dX2_isMoveSound_51 : decode cX2_isMoveSound 51 = .ok (.iload_n 3, 1) := dqo_29 (kb_X2_isMoveSound_0 51 rfl)
theorem dX2_isMoveSound_52 : decode cX2_isMoveSound 52 = .ok (.invokevirtual 105, 3) := dqo_182 0 105 (kb_X2_isMoveSound_0 52 rfl) (kb_X2_isMoveSound_0 53 rfl) (kb_X2_isMoveSound_0 54 rfl)
theorem dX2_isMoveSound_55 : decode cX2_isMoveSound 55 = .ok (.aload_n 0, 1) := dqo_42 (kb_X2_isMoveSound_0 55 rfl)
theorem dX2_isMoveSound_56 : decode cX2_isMoveSound 56 = .ok (.getfield 36, 3) := dqo_180 0 36 (kb_X2_isMoveSound_0 56 rfl) (kb_X2_isMoveSound_0 57 rfl) (kb_X2_isMoveSound_0 58 rfl)
theorem dX2_isMoveSound_59 : decode cX2_isMoveSound 59 = .ok (.iconst 0, 1) := dqo_3 (kb_X2_isMoveSound_0 59 rfl)
theorem dX2_isMoveSound_60 : decode cX2_isMoveSound 60 = .ok (.iload 4, 2) := dqo_21 4 (kb_X2_isMoveSound_0 60 rfl) (kb_X2_isMoveSound_0 61 rfl)
theorem dX2_isMoveSound_62 : decode cX2_isMoveSound 62 = .ok (.invokevirtual 105, 3) := dqo_182 0 105 (kb_X2_isMoveSound_0 62 rfl) (kb_X2_isMoveSound_0 63 rfl) (kb_X2_isMoveSound_1 0 rfl)
theorem dX2_isMoveSound_65 : decode cX2_isMoveSound 65 = .ok (.aload_n 0, 1) := dqo_42 (kb_X2_isMoveSound_1 1 rfl)
theorem dX2_isMoveSound_66 : decode cX2_isMoveSound 66 = .ok (.getfield 36, 3) := dqo_180 0 36 (kb_X2_isMoveSound_1 2 rfl) (kb_X2_isMoveSound_1 3 rfl) (kb_X2_isMoveSound_1 4 rfl)
theorem dX2_isMoveSound_69 : decode cX2_isMoveSound 69 = .ok (.iload 4, 2) := dqo_21 4 (kb_X2_isMoveSound_1 5 rfl) (kb_X2_isMoveSound_1 6 rfl)
theorem dX2_isMoveSound_71 : decode cX2_isMoveSound 71 = .ok (.iload_n 3, 1) := dqo_29 (kb_X2_isMoveSound_1 7 rfl)
theorem dX2_isMoveSound_72 : decode cX2_isMoveSound 72 = .ok (.invokevirtual 105, 3) := dqo_182 0 105 (kb_X2_isMoveSound_1 8 rfl) (kb_X2_isMoveSound_1 9 rfl) (kb_X2_isMoveSound_1 10 rfl)
theorem dX2_isMoveSound_75 : decode cX2_isMoveSound 75 = .ok (.aload_n 0, 1) := dqo_42 (kb_X2_isMoveSound_1 11 rfl)
theorem dX2_isMoveSound_76 : decode cX2_isMoveSound 76 = .ok (.getfield 33, 3) := dqo_180 0 33 (kb_X2_isMoveSound_1 12 rfl) (kb_X2_isMoveSound_1 13 rfl) (kb_X2_isMoveSound_1 14 rfl)
theorem dX2_isMoveSound_79 : decode cX2_isMoveSound 79 = .ok (.aload_n 0, 1) := dqo_42 (kb_X2_isMoveSound_1 15 rfl)
theorem dX2_isMoveSound_80 : decode cX2_isMoveSound 80 = .ok (.getfield 36, 3) := dqo_180 0 36 (kb_X2_isMoveSound_1 16 rfl) (kb_X2_isMoveSound_1 17 rfl) (kb_X2_isMoveSound_1 18 rfl)
theorem dX2_isMoveSound_83 : decode cX2_isMoveSound 83 = .ok (.invokevirtual 161, 3) := dqo_182 0 161 (kb_X2_isMoveSound_1 19 rfl) (kb_X2_isMoveSound_1 20 rfl) (kb_X2_isMoveSound_1 21 rfl)
theorem dX2_isMoveSound_86 : decode cX2_isMoveSound 86 = .ok (.ireturn, 1) := dqo_172 (kb_X2_isMoveSound_1 22 rfl)
set_option maxRecDepth 100000 in
set_option maxHeartbeats 4000000 in
theorem C_isMoveSound_b {l : Launch} {D : va_G} {cy : Nat → ClassId} {X : (Nat → Prop) → State → Heap → Prop} {a f : Nat → Nat → Nat} {r : Nat → Nat → Int32} {kn : Int32} {Y : va_W} {i : Nat} {n0 : Nat} (hX : EnvX X) (hC : CInv f) (hi4 : i < 4) (hz : 0 < f 4 i) (hc : n0 < 1000) (hk : 0 < n0 % f 4 i) (hk2 : n0 % f 4 i < f 4 i) : Cd l D cy X yX2_isMoveSound cX2_isMoveSound 5 (some .boolean) (rmz 4 220) [.ref (a 0 0), .ref (a 1 i), .int (nI n0)] (WC cy a f r kn ++ Y) (some (.int (nI 1))) (WC cy a (up2 (up2 (up2 f 4 9 (f 4 i)) 4 8 (f 4 i)) 4 10 (f 4 i)) (revS (revS (revS (cpy2 (scS (cpy2 (cpy2 r (f 0 i) (f 3 i) (f 0 9) (f 3 9) (f 4 i)) (f 0 9) (f 3 9) (f 0 8) (f 3 8) (f 4 i)) (f 0 9) (f 3 9) (f 4 i) (rotN (f 4 i) (n0 % (f 4 i))) (fun q => (cpy2 r (f 0 i) (f 3 i) (f 0 9) (f 3 9) (f 4 i)) (f 0 9) (f 3 9 + q))) (f 0 i) (f 3 i) (f 0 10) (f 3 10) (f 4 i)) (f 0 10) (f 3 10 + 0) (f 3 10 + (f 4 i))) (f 0 10) (f 3 10 + 0) (f 3 10 + (n0 % (f 4 i)))) (f 0 10) (f 3 10 + (n0 % (f 4 i))) (f 3 10 + (f 4 i))) kn ++ Y) := by
  have q3 := hC.sp
  have sp := hC.sp
  have q1 := hC.rw hi4
  obtain ⟨sp0, sp1, sp2, sp3, sp4, sp5, sp6, sp7, sp8⟩ := sp
  obtain ⟨q2, q3, q4, q5, q6, q7⟩ := q1
  have q8 : (nI n0).toInt = (n0 : Int) := nI_toInt (by omega)
  refine Cm.of [some (.ref (a 0 0)), some (.ref (a 1 i)), some (.int (nI n0)), none, none] pn_X2 rfl (Nat.le_of_ble_eq_true rfl) ?_
  intro p e s m args below meth c A C hE hr hnt hn
  refine r_aload_n C dX2_isMoveSound_0 rfl ?_
  refine p_getN (v := .int (nI (f 4 i))) hX C hE 4 (by first | omega | (simp [up2, *]; done) | (simp [up2, *]; omega) | (simp only [up2_eq]; omega) | (split <;> omega)) (by decide) qn_X2_50 rfl rfl dX2_isMoveSound_1 ?_
  refine r_istore_n C dX2_isMoveSound_4 (by decide) rfl ?_
  refine r_iload_n C dX2_isMoveSound_5 rfl ?_
  refine r_ifN_ne (a := (f 4 i)) (tgt := 13) C (by first | omega | (simp [up2, *]; done) | (simp [up2, *]; omega) | (simp only [up2_eq]; omega) | (split <;> omega)) dX2_isMoveSound_6 (by decide) (fun h6_1 => ?_) (fun h6_1 => ?_)
  · skip
    refine r_iload_n C dX2_isMoveSound_13 rfl ?_
    refine r_iload_n C dX2_isMoveSound_14 rfl ?_
    refine r_iremN C dX2_isMoveSound_15 (by first | omega | (simp [up2, *]; done) | (simp [up2, *]; omega) | (simp only [up2_eq]; omega) | (split <;> omega)) (by first | omega | (simp [up2, *]; done) | (simp [up2, *]; omega) | (simp only [up2_eq]; omega) | (split <;> omega)) (by first | omega | (simp [up2, *]; done) | (simp [up2, *]; omega) | (simp only [up2_eq]; omega) | (split <;> omega)) ?_
    refine r_istore C dX2_isMoveSound_16 (by decide) rfl ?_
    refine r_aload_n C dX2_isMoveSound_18 rfl ?_
    refine s_get C 3 (by decide) qf_X2_33 rfl rfl dX2_isMoveSound_19 ?_
    refine r_aload_n C dX2_isMoveSound_22 rfl ?_
    refine d_Vv (st := []) hX.stb C hE (C_becomeLike (f := f) (r := r) (kn := kn) (i := 9) (j := i) hX (by first | omega | (simp [up2, *]; done) | (simp [up2, *]; omega) | (simp only [up2_eq]; omega) | (split <;> omega)) (by first | omega | (simp [up2, *]; done) | (simp [up2, *]; omega) | (simp only [up2_eq]; omega) | (split <;> omega)) (by first | omega | (simp [up2, *]; done) | (simp [up2, *]; omega) | (simp only [up2_eq]; omega) | (split <;> omega)) (by first | omega | (simp [up2, *]; done) | (simp [up2, *]; omega) | (simp only [up2_eq]; omega) | (split <;> omega)) (by first | omega | (simp [up2, *]; done) | (simp [up2, *]; omega) | (simp only [up2_eq]; omega) | (split <;> omega)) (by first | omega | (simp [up2, *]; done) | (simp [up2, *]; omega) | (simp only [up2_eq]; omega) | (split <;> omega))) pk_X1_becomeLike qm_X2_79 (3 + 9) 5 rfl rfl (wc_p (by first | omega | (simp [up2, *]; done) | (simp [up2, *]; omega) | (simp only [up2_eq]; omega) | (split <;> omega))) rfl rfl (Nat.le_of_ble_eq_true rfl) dX2_isMoveSound_23 ⟨Nat.le_of_ble_eq_true rfl, Nat.le_of_ble_eq_true rfl⟩ ⟨Nat.le_of_ble_eq_true rfl, Nat.le_of_ble_eq_true rfl⟩ ?_
    refine r_aload_n C dX2_isMoveSound_26 rfl ?_
    refine s_get C 3 (by decide) qf_X2_33 rfl rfl dX2_isMoveSound_27 ?_
    refine r_iload_n C dX2_isMoveSound_30 rfl ?_
    refine r_aload_n C dX2_isMoveSound_31 rfl ?_
    refine s_get C 2 (by decide) qf_X2_29 rfl rfl dX2_isMoveSound_32 ?_
    refine d_Vv (st := []) hX.stb C hE (C_moveUp (f := (up2 f 4 9 (f 4 i))) (r := (cpy2 r (f 0 i) (f 3 i) (f 0 9) (f 3 9) (f 4 i))) (kn := kn) (i := 9) (j := 8) (x := ((nI n0))) hX (by first | omega | (simp [up2, *]; done) | (simp [up2, *]; omega) | (simp only [up2_eq]; omega) | (split <;> omega)) (by first | omega | (simp [up2, *]; done) | (simp [up2, *]; omega) | (simp only [up2_eq]; omega) | (split <;> omega)) (by first | omega | (simp [up2, *]; done) | (simp [up2, *]; omega) | (simp only [up2_eq]; omega) | (split <;> omega)) (by first | omega | (simp [up2, *]; done) | (simp [up2, *]; omega) | (simp only [up2_eq]; omega) | (split <;> omega)) (by first | omega | (simp [up2, *]; done) | (simp [up2, *]; omega) | (simp only [up2_eq]; omega) | (split <;> omega)) (by first | omega | (simp [up2, *]; done) | (simp [up2, *]; omega) | (simp only [up2_eq]; omega) | (split <;> omega)) (by first | omega | (simp [up2, *]; done) | (simp [up2, *]; omega) | (simp only [up2_eq]; omega) | (split <;> omega)) (by first | omega | (simp [up2, *]; done) | (simp [up2, *]; omega) | (simp only [up2_eq]; omega) | (split <;> omega)) (by first | omega | (simp [up2, *]; done) | (simp [up2, *]; omega) | (simp only [up2_eq]; omega) | (split <;> omega)) (by first | omega | (simp [up2, *]; done) | (simp [up2, *]; omega) | (simp only [up2_eq]; omega) | (split <;> omega)) (by first | omega | (simp [up2, *]; done) | (simp [up2, *]; omega) | (simp only [up2_eq]; omega) | (split <;> omega))) pk_X1_moveUp qm_X2_97 (3 + 9) 5 rfl rfl (wc_p (by first | omega | (simp [up2, *]; done) | (simp [up2, *]; omega) | (simp only [up2_eq]; omega) | (split <;> omega))) rfl rfl (Nat.le_of_ble_eq_true rfl) dX2_isMoveSound_35 ⟨Nat.le_of_ble_eq_true rfl, Nat.le_of_ble_eq_true rfl⟩ ⟨Nat.le_of_ble_eq_true rfl, Nat.le_of_ble_eq_true rfl⟩ ?_
    refine r_aload_n C dX2_isMoveSound_38 rfl ?_
    refine s_get C 4 (by decide) qf_X2_36 rfl rfl dX2_isMoveSound_39 ?_
    refine r_aload_n C dX2_isMoveSound_42 rfl ?_
    refine d_Vv (st := []) hX.stb C hE (C_becomeLike (f := (up2 (up2 f 4 9 (f 4 i)) 4 8 (f 4 i))) (r := (scS (cpy2 (cpy2 r (f 0 i) (f 3 i) (f 0 9) (f 3 9) (f 4 i)) (f 0 9) (f 3 9) (f 0 8) (f 3 8) (f 4 i)) (f 0 9) (f 3 9) (f 4 i) (rotN (f 4 i) (shN ((nI n0)) (f 4 i))) (fun q => (cpy2 r (f 0 i) (f 3 i) (f 0 9) (f 3 9) (f 4 i)) (f 0 9) (f 3 9 + q)))) (kn := kn) (i := 10) (j := i) hX (by first | omega | (simp [up2, *]; done) | (simp [up2, *]; omega) | (simp only [up2_eq]; omega) | (split <;> omega)) (by first | omega | (simp [up2, *]; done) | (simp [up2, *]; omega) | (simp only [up2_eq]; omega) | (split <;> omega)) (by first | omega | (simp [up2, *]; done) | (simp [up2, *]; omega) | (simp only [up2_eq]; omega) | (split <;> omega)) (by first | omega | (simp [up2, *]; done) | (simp [up2, *]; omega) | (simp only [up2_eq]; omega) | (split <;> omega)) (by first | omega | (simp [up2, *]; done) | (simp [up2, *]; omega) | (simp only [up2_eq]; omega) | (split <;> omega)) (by first | omega | (simp [up2, *]; done) | (simp [up2, *]; omega) | (simp only [up2_eq]; omega) | (split <;> omega))) pk_X1_becomeLike qm_X2_79 (3 + 10) 5 rfl rfl (wc_p (by first | omega | (simp [up2, *]; done) | (simp [up2, *]; omega) | (simp only [up2_eq]; omega) | (split <;> omega))) rfl rfl (Nat.le_of_ble_eq_true rfl) dX2_isMoveSound_43 ⟨Nat.le_of_ble_eq_true rfl, Nat.le_of_ble_eq_true rfl⟩ ⟨Nat.le_of_ble_eq_true rfl, Nat.le_of_ble_eq_true rfl⟩ ?_
    refine r_w (show WC cy a (up2 (up2 (up2 f 4 9 (f 4 i)) 4 8 (f 4 i)) 4 10 ((up2 (up2 f 4 9 (f 4 i)) 4 8 (f 4 i)) 4 i)) (cpy2 (scS (cpy2 (cpy2 r (f 0 i) (f 3 i) (f 0 9) (f 3 9) (f 4 i)) (f 0 9) (f 3 9) (f 0 8) (f 3 8) (f 4 i)) (f 0 9) (f 3 9) (f 4 i) (rotN (f 4 i) (shN ((nI n0)) (f 4 i))) (fun q => (cpy2 r (f 0 i) (f 3 i) (f 0 9) (f 3 9) (f 4 i)) (f 0 9) (f 3 9 + q))) (f 0 i) (f 3 i) (f 0 10) (f 3 10) ((up2 (up2 f 4 9 (f 4 i)) 4 8 (f 4 i)) 4 i)) kn ++ Y = WC cy a (up2 (up2 (up2 f 4 9 (f 4 i)) 4 8 (f 4 i)) 4 10 (f 4 i)) (cpy2 (scS (cpy2 (cpy2 r (f 0 i) (f 3 i) (f 0 9) (f 3 9) (f 4 i)) (f 0 9) (f 3 9) (f 0 8) (f 3 8) (f 4 i)) (f 0 9) (f 3 9) (f 4 i) (rotN (f 4 i) (n0 % (f 4 i))) (fun q => (cpy2 r (f 0 i) (f 3 i) (f 0 9) (f 3 9) (f 4 i)) (f 0 9) (f 3 9 + q))) (f 0 i) (f 3 i) (f 0 10) (f 3 10) (f 4 i)) kn ++ Y by rw [show up2 (up2 f 4 9 (f 4 i)) 4 8 (f 4 i) 4 i = f 4 i from (up2_i _ _ _ _ (by omega)).trans (up2_i _ _ _ _ (by omega)), shN_nI hc]) ?_
    refine r_aload_n C dX2_isMoveSound_46 rfl ?_
    refine s_get C 4 (by decide) qf_X2_36 rfl rfl dX2_isMoveSound_47 ?_
    refine r_iconst (v := (nI 0)) C dX2_isMoveSound_50 (by decide) ?_
    refine r_iload_n C dX2_isMoveSound_51 rfl ?_
    refine d_Vv (st := []) hX.stb C hE (C_turn (f := (up2 (up2 (up2 f 4 9 (f 4 i)) 4 8 (f 4 i)) 4 10 (f 4 i))) (r := (cpy2 (scS (cpy2 (cpy2 r (f 0 i) (f 3 i) (f 0 9) (f 3 9) (f 4 i)) (f 0 9) (f 3 9) (f 0 8) (f 3 8) (f 4 i)) (f 0 9) (f 3 9) (f 4 i) (rotN (f 4 i) (n0 % (f 4 i))) (fun q => (cpy2 r (f 0 i) (f 3 i) (f 0 9) (f 3 9) (f 4 i)) (f 0 9) (f 3 9 + q))) (f 0 i) (f 3 i) (f 0 10) (f 3 10) (f 4 i))) (kn := kn) (i := 10) (p0 := 0) (q0 := (f 4 i)) hX (by first | omega | (simp [up2, *]; done) | (simp [up2, *]; omega) | (simp only [up2_eq]; omega) | (split <;> omega)) (by first | omega | (simp [up2, *]; done) | (simp [up2, *]; omega) | (simp only [up2_eq]; omega) | (split <;> omega)) (by first | omega | (simp [up2, *]; done) | (simp [up2, *]; omega) | (simp only [up2_eq]; omega) | (split <;> omega)) (by first | omega | (simp [up2, *]; done) | (simp [up2, *]; omega) | (simp only [up2_eq]; omega) | (split <;> omega)) (by first | omega | (simp [up2, *]; done) | (simp [up2, *]; omega) | (simp only [up2_eq]; omega) | (split <;> omega))) pk_X1_turn qm_X2_105 (3 + 10) 5 rfl rfl (wc_p (by first | omega | (simp [up2, *]; done) | (simp [up2, *]; omega) | (simp only [up2_eq]; omega) | (split <;> omega))) rfl rfl (Nat.le_of_ble_eq_true rfl) dX2_isMoveSound_52 ⟨Nat.le_of_ble_eq_true rfl, Nat.le_of_ble_eq_true rfl⟩ ⟨Nat.le_of_ble_eq_true rfl, Nat.le_of_ble_eq_true rfl⟩ ?_
    refine r_aload_n C dX2_isMoveSound_55 rfl ?_
    refine s_get C 4 (by decide) qf_X2_36 rfl rfl dX2_isMoveSound_56 ?_
    refine r_iconst (v := (nI 0)) C dX2_isMoveSound_59 (by decide) ?_
    refine r_iload C dX2_isMoveSound_60 rfl ?_
    refine d_Vv (st := []) hX.stb C hE (C_turn (f := (up2 (up2 (up2 f 4 9 (f 4 i)) 4 8 (f 4 i)) 4 10 (f 4 i))) (r := (revS (cpy2 (scS (cpy2 (cpy2 r (f 0 i) (f 3 i) (f 0 9) (f 3 9) (f 4 i)) (f 0 9) (f 3 9) (f 0 8) (f 3 8) (f 4 i)) (f 0 9) (f 3 9) (f 4 i) (rotN (f 4 i) (n0 % (f 4 i))) (fun q => (cpy2 r (f 0 i) (f 3 i) (f 0 9) (f 3 9) (f 4 i)) (f 0 9) (f 3 9 + q))) (f 0 i) (f 3 i) (f 0 10) (f 3 10) (f 4 i)) (f 0 10) (f 3 10 + 0) (f 3 10 + (f 4 i)))) (kn := kn) (i := 10) (p0 := 0) (q0 := (n0 % (f 4 i))) hX (by first | omega | (simp [up2, *]; done) | (simp [up2, *]; omega) | (simp only [up2_eq]; omega) | (split <;> omega)) (by first | omega | (simp [up2, *]; done) | (simp [up2, *]; omega) | (simp only [up2_eq]; omega) | (split <;> omega)) (by first | omega | (simp [up2, *]; done) | (simp [up2, *]; omega) | (simp only [up2_eq]; omega) | (split <;> omega)) (by first | omega | (simp [up2, *]; done) | (simp [up2, *]; omega) | (simp only [up2_eq]; omega) | (split <;> omega)) (by first | omega | (simp [up2, *]; done) | (simp [up2, *]; omega) | (simp only [up2_eq]; omega) | (split <;> omega))) pk_X1_turn qm_X2_105 (3 + 10) 5 rfl rfl (wc_p (by first | omega | (simp [up2, *]; done) | (simp [up2, *]; omega) | (simp only [up2_eq]; omega) | (split <;> omega))) rfl rfl (Nat.le_of_ble_eq_true rfl) dX2_isMoveSound_62 ⟨Nat.le_of_ble_eq_true rfl, Nat.le_of_ble_eq_true rfl⟩ ⟨Nat.le_of_ble_eq_true rfl, Nat.le_of_ble_eq_true rfl⟩ ?_
    refine r_aload_n C dX2_isMoveSound_65 rfl ?_
    refine s_get C 4 (by decide) qf_X2_36 rfl rfl dX2_isMoveSound_66 ?_
    refine r_iload C dX2_isMoveSound_69 rfl ?_
    refine r_iload_n C dX2_isMoveSound_71 rfl ?_
    refine d_Vv (st := []) hX.stb C hE (C_turn (f := (up2 (up2 (up2 f 4 9 (f 4 i)) 4 8 (f 4 i)) 4 10 (f 4 i))) (r := (revS (revS (cpy2 (scS (cpy2 (cpy2 r (f 0 i) (f 3 i) (f 0 9) (f 3 9) (f 4 i)) (f 0 9) (f 3 9) (f 0 8) (f 3 8) (f 4 i)) (f 0 9) (f 3 9) (f 4 i) (rotN (f 4 i) (n0 % (f 4 i))) (fun q => (cpy2 r (f 0 i) (f 3 i) (f 0 9) (f 3 9) (f 4 i)) (f 0 9) (f 3 9 + q))) (f 0 i) (f 3 i) (f 0 10) (f 3 10) (f 4 i)) (f 0 10) (f 3 10 + 0) (f 3 10 + (f 4 i))) (f 0 10) (f 3 10 + 0) (f 3 10 + (n0 % (f 4 i))))) (kn := kn) (i := 10) (p0 := (n0 % (f 4 i))) (q0 := (f 4 i)) hX (by first | omega | (simp [up2, *]; done) | (simp [up2, *]; omega) | (simp only [up2_eq]; omega) | (split <;> omega)) (by first | omega | (simp [up2, *]; done) | (simp [up2, *]; omega) | (simp only [up2_eq]; omega) | (split <;> omega)) (by first | omega | (simp [up2, *]; done) | (simp [up2, *]; omega) | (simp only [up2_eq]; omega) | (split <;> omega)) (by first | omega | (simp [up2, *]; done) | (simp [up2, *]; omega) | (simp only [up2_eq]; omega) | (split <;> omega)) (by first | omega | (simp [up2, *]; done) | (simp [up2, *]; omega) | (simp only [up2_eq]; omega) | (split <;> omega))) pk_X1_turn qm_X2_105 (3 + 10) 5 rfl rfl (wc_p (by first | omega | (simp [up2, *]; done) | (simp [up2, *]; omega) | (simp only [up2_eq]; omega) | (split <;> omega))) rfl rfl (Nat.le_of_ble_eq_true rfl) dX2_isMoveSound_72 ⟨Nat.le_of_ble_eq_true rfl, Nat.le_of_ble_eq_true rfl⟩ ⟨Nat.le_of_ble_eq_true rfl, Nat.le_of_ble_eq_true rfl⟩ ?_
    refine r_aload_n C dX2_isMoveSound_75 rfl ?_
    refine s_get C 3 (by decide) qf_X2_33 rfl rfl dX2_isMoveSound_76 ?_
    refine r_aload_n C dX2_isMoveSound_79 rfl ?_
    refine s_get C 4 (by decide) qf_X2_36 rfl rfl dX2_isMoveSound_80 ?_
    refine d_V (st := []) hX.stb C hE (C_isLike_yes (f := (up2 (up2 (up2 f 4 9 (f 4 i)) 4 8 (f 4 i)) 4 10 (f 4 i))) (r := (revS (revS (revS (cpy2 (scS (cpy2 (cpy2 r (f 0 i) (f 3 i) (f 0 9) (f 3 9) (f 4 i)) (f 0 9) (f 3 9) (f 0 8) (f 3 8) (f 4 i)) (f 0 9) (f 3 9) (f 4 i) (rotN (f 4 i) (n0 % (f 4 i))) (fun q => (cpy2 r (f 0 i) (f 3 i) (f 0 9) (f 3 9) (f 4 i)) (f 0 9) (f 3 9 + q))) (f 0 i) (f 3 i) (f 0 10) (f 3 10) (f 4 i)) (f 0 10) (f 3 10 + 0) (f 3 10 + (f 4 i))) (f 0 10) (f 3 10 + 0) (f 3 10 + (n0 % (f 4 i)))) (f 0 10) (f 3 10 + (n0 % (f 4 i))) (f 3 10 + (f 4 i)))) (kn := kn) (i := 9) (j := 10) hX (by first | omega | (simp [up2, *]; done) | (simp [up2, *]; omega) | (simp only [up2_eq]; omega) | (split <;> omega)) (by first | omega | (simp [up2, *]; done) | (simp [up2, *]; omega) | (simp only [up2_eq]; omega) | (split <;> omega)) (by first | omega | (simp [up2, *]; done) | (simp [up2, *]; omega) | (simp only [up2_eq]; omega) | (split <;> omega)) (by first | omega | (simp [up2, *]; done) | (simp [up2, *]; omega) | (simp only [up2_eq]; omega) | (split <;> omega)) (by first | omega | (simp [up2, *]; done) | (simp [up2, *]; omega) | (simp only [up2_eq]; omega) | (split <;> omega)) (by first | omega | (simp [up2, *]; done) | (simp [up2, *]; omega) | (simp only [up2_eq]; omega) | (split <;> omega)) (by rw [up2_i _ _ _ _ (by omega), up2_i _ _ _ _ (by omega), up2_eq, up2_eq]) (fun q hq => by rw [up2_eq] at hq; exact mv_lk (k := n0 % f 4 i) (by omega) (by omega) (by omega) hk2 hq)) pk_X1_isLike qm_X2_161 (3 + 9) 5 rfl rfl (wc_p (by first | omega | (simp [up2, *]; done) | (simp [up2, *]; omega) | (simp only [up2_eq]; omega) | (split <;> omega))) rfl rfl (Nat.le_of_ble_eq_true rfl) dX2_isMoveSound_83 ⟨Nat.le_of_ble_eq_true rfl, Nat.le_of_ble_eq_true rfl⟩ ⟨Nat.le_of_ble_eq_true rfl, Nat.le_of_ble_eq_true rfl⟩ ?_
    exact r_zret C hr (by first | omega | (simp [up2, *]; done) | (simp [up2, *]; omega) | (simp only [up2_eq]; omega) | (split <;> omega)) dX2_isMoveSound_86 ⟨rfl, rfl⟩ (Nat.le_of_ble_eq_true rfl) (Nat.le_of_ble_eq_true rfl)
  · exact absurd h6_1 (by first | omega | (simp [up2, *]; done) | (simp [up2, *]; omega) | (simp only [up2_eq]; omega) | (split <;> omega))
theorem mv_lk0 {r : Nat → Nat → Int32} {a b j d s ds j2 d2 n k q : Nat} (h1 : a ≠ j) (h2 : a ≠ s) (h3 : j ≠ j2) (hk : k = 0) (hq : q < n) : revS (revS (cpy2 (scS (cpy2 (cpy2 r a b j d n) j d s ds n) j d n (rotN n k) (fun q => (cpy2 r a b j d n) j (d + q))) a b j2 d2 n) j2 (d2 + 0) (d2 + n)) j2 (d2 + k) (d2 + n) j (d + q) = revS (revS (cpy2 (scS (cpy2 (cpy2 r a b j d n) j d s ds n) j d n (rotN n k) (fun q => (cpy2 r a b j d n) j (d + q))) a b j2 d2 n) j2 (d2 + 0) (d2 + n)) j2 (d2 + k) (d2 + n) j2 (d2 + q) := by
  subst hk
  have e : rotN n 0 q = q := by
    unfold rotN
    rw [Nat.sub_zero, Nat.add_mod_right, Nat.mod_eq_of_lt hq]
  rw [revS_two, cpy2_off h3, scS_at hq, e, cpy2_at hq, cpy2_at hq, scS_off h1, cpy2_off h2, cpy2_off h1]
set_option maxRecDepth 100000 in
set_option maxHeartbeats 4000000 in
theorem C_isMoveSound_a {l : Launch} {D : va_G} {cy : Nat → ClassId} {X : (Nat → Prop) → State → Heap → Prop} {a f : Nat → Nat → Nat} {r : Nat → Nat → Int32} {kn : Int32} {Y : va_W} {i : Nat} {n0 : Nat} (hX : EnvX X) (hC : CInv f) (hi4 : i < 4) (hz : 0 < f 4 i) (hc : n0 < 1000) (hk : n0 % f 4 i = 0) : Cd l D cy X yX2_isMoveSound cX2_isMoveSound 5 (some .boolean) (rmz 4 220) [.ref (a 0 0), .ref (a 1 i), .int (nI n0)] (WC cy a f r kn ++ Y) (some (.int (nI 1))) (WC cy a (up2 (up2 (up2 f 4 9 (f 4 i)) 4 8 (f 4 i)) 4 10 (f 4 i)) (revS (revS (cpy2 (scS (cpy2 (cpy2 r (f 0 i) (f 3 i) (f 0 9) (f 3 9) (f 4 i)) (f 0 9) (f 3 9) (f 0 8) (f 3 8) (f 4 i)) (f 0 9) (f 3 9) (f 4 i) (rotN (f 4 i) (n0 % (f 4 i))) (fun q => (cpy2 r (f 0 i) (f 3 i) (f 0 9) (f 3 9) (f 4 i)) (f 0 9) (f 3 9 + q))) (f 0 i) (f 3 i) (f 0 10) (f 3 10) (f 4 i)) (f 0 10) (f 3 10 + 0) (f 3 10 + (f 4 i))) (f 0 10) (f 3 10 + (n0 % (f 4 i))) (f 3 10 + (f 4 i))) kn ++ Y) := by
  have q3 := hC.sp
  have sp := hC.sp
  have q1 := hC.rw hi4
  obtain ⟨sp0, sp1, sp2, sp3, sp4, sp5, sp6, sp7, sp8⟩ := sp
  obtain ⟨q2, q3, q4, q5, q6, q7⟩ := q1
  have q8 : (nI n0).toInt = (n0 : Int) := nI_toInt (by omega)
  refine Cm.of [some (.ref (a 0 0)), some (.ref (a 1 i)), some (.int (nI n0)), none, none] pn_X2 rfl (Nat.le_of_ble_eq_true rfl) ?_
  intro p e s m args below meth c A C hE hr hnt hn
  refine r_aload_n C dX2_isMoveSound_0 rfl ?_
  refine p_getN (v := .int (nI (f 4 i))) hX C hE 4 (by first | omega | (simp [up2, *]; done) | (simp [up2, *]; omega) | (simp only [up2_eq]; omega) | (split <;> omega)) (by decide) qn_X2_50 rfl rfl dX2_isMoveSound_1 ?_
  refine r_istore_n C dX2_isMoveSound_4 (by decide) rfl ?_
  refine r_iload_n C dX2_isMoveSound_5 rfl ?_
  refine r_ifN_ne (a := (f 4 i)) (tgt := 13) C (by first | omega | (simp [up2, *]; done) | (simp [up2, *]; omega) | (simp only [up2_eq]; omega) | (split <;> omega)) dX2_isMoveSound_6 (by decide) (fun h6_1 => ?_) (fun h6_1 => ?_)
  · skip
    refine r_iload_n C dX2_isMoveSound_13 rfl ?_
    refine r_iload_n C dX2_isMoveSound_14 rfl ?_
    refine r_iremN C dX2_isMoveSound_15 (by first | omega | (simp [up2, *]; done) | (simp [up2, *]; omega) | (simp only [up2_eq]; omega) | (split <;> omega)) (by first | omega | (simp [up2, *]; done) | (simp [up2, *]; omega) | (simp only [up2_eq]; omega) | (split <;> omega)) (by first | omega | (simp [up2, *]; done) | (simp [up2, *]; omega) | (simp only [up2_eq]; omega) | (split <;> omega)) ?_
    refine r_istore C dX2_isMoveSound_16 (by decide) rfl ?_
    refine r_aload_n C dX2_isMoveSound_18 rfl ?_
    refine s_get C 3 (by decide) qf_X2_33 rfl rfl dX2_isMoveSound_19 ?_
    refine r_aload_n C dX2_isMoveSound_22 rfl ?_
    refine d_Vv (st := []) hX.stb C hE (C_becomeLike (f := f) (r := r) (kn := kn) (i := 9) (j := i) hX (by first | omega | (simp [up2, *]; done) | (simp [up2, *]; omega) | (simp only [up2_eq]; omega) | (split <;> omega)) (by first | omega | (simp [up2, *]; done) | (simp [up2, *]; omega) | (simp only [up2_eq]; omega) | (split <;> omega)) (by first | omega | (simp [up2, *]; done) | (simp [up2, *]; omega) | (simp only [up2_eq]; omega) | (split <;> omega)) (by first | omega | (simp [up2, *]; done) | (simp [up2, *]; omega) | (simp only [up2_eq]; omega) | (split <;> omega)) (by first | omega | (simp [up2, *]; done) | (simp [up2, *]; omega) | (simp only [up2_eq]; omega) | (split <;> omega)) (by first | omega | (simp [up2, *]; done) | (simp [up2, *]; omega) | (simp only [up2_eq]; omega) | (split <;> omega))) pk_X1_becomeLike qm_X2_79 (3 + 9) 5 rfl rfl (wc_p (by first | omega | (simp [up2, *]; done) | (simp [up2, *]; omega) | (simp only [up2_eq]; omega) | (split <;> omega))) rfl rfl (Nat.le_of_ble_eq_true rfl) dX2_isMoveSound_23 ⟨Nat.le_of_ble_eq_true rfl, Nat.le_of_ble_eq_true rfl⟩ ⟨Nat.le_of_ble_eq_true rfl, Nat.le_of_ble_eq_true rfl⟩ ?_
    refine r_aload_n C dX2_isMoveSound_26 rfl ?_
    refine s_get C 3 (by decide) qf_X2_33 rfl rfl dX2_isMoveSound_27 ?_
    refine r_iload_n C dX2_isMoveSound_30 rfl ?_
    refine r_aload_n C dX2_isMoveSound_31 rfl ?_
    refine s_get C 2 (by decide) qf_X2_29 rfl rfl dX2_isMoveSound_32 ?_
    refine d_Vv (st := []) hX.stb C hE (C_moveUp (f := (up2 f 4 9 (f 4 i))) (r := (cpy2 r (f 0 i) (f 3 i) (f 0 9) (f 3 9) (f 4 i))) (kn := kn) (i := 9) (j := 8) (x := ((nI n0))) hX (by first | omega | (simp [up2, *]; done) | (simp [up2, *]; omega) | (simp only [up2_eq]; omega) | (split <;> omega)) (by first | omega | (simp [up2, *]; done) | (simp [up2, *]; omega) | (simp only [up2_eq]; omega) | (split <;> omega)) (by first | omega | (simp [up2, *]; done) | (simp [up2, *]; omega) | (simp only [up2_eq]; omega) | (split <;> omega)) (by first | omega | (simp [up2, *]; done) | (simp [up2, *]; omega) | (simp only [up2_eq]; omega) | (split <;> omega)) (by first | omega | (simp [up2, *]; done) | (simp [up2, *]; omega) | (simp only [up2_eq]; omega) | (split <;> omega)) (by first | omega | (simp [up2, *]; done) | (simp [up2, *]; omega) | (simp only [up2_eq]; omega) | (split <;> omega)) (by first | omega | (simp [up2, *]; done) | (simp [up2, *]; omega) | (simp only [up2_eq]; omega) | (split <;> omega)) (by first | omega | (simp [up2, *]; done) | (simp [up2, *]; omega) | (simp only [up2_eq]; omega) | (split <;> omega)) (by first | omega | (simp [up2, *]; done) | (simp [up2, *]; omega) | (simp only [up2_eq]; omega) | (split <;> omega)) (by first | omega | (simp [up2, *]; done) | (simp [up2, *]; omega) | (simp only [up2_eq]; omega) | (split <;> omega)) (by first | omega | (simp [up2, *]; done) | (simp [up2, *]; omega) | (simp only [up2_eq]; omega) | (split <;> omega))) pk_X1_moveUp qm_X2_97 (3 + 9) 5 rfl rfl (wc_p (by first | omega | (simp [up2, *]; done) | (simp [up2, *]; omega) | (simp only [up2_eq]; omega) | (split <;> omega))) rfl rfl (Nat.le_of_ble_eq_true rfl) dX2_isMoveSound_35 ⟨Nat.le_of_ble_eq_true rfl, Nat.le_of_ble_eq_true rfl⟩ ⟨Nat.le_of_ble_eq_true rfl, Nat.le_of_ble_eq_true rfl⟩ ?_
    refine r_aload_n C dX2_isMoveSound_38 rfl ?_
    refine s_get C 4 (by decide) qf_X2_36 rfl rfl dX2_isMoveSound_39 ?_
    refine r_aload_n C dX2_isMoveSound_42 rfl ?_
    refine d_Vv (st := []) hX.stb C hE (C_becomeLike (f := (up2 (up2 f 4 9 (f 4 i)) 4 8 (f 4 i))) (r := (scS (cpy2 (cpy2 r (f 0 i) (f 3 i) (f 0 9) (f 3 9) (f 4 i)) (f 0 9) (f 3 9) (f 0 8) (f 3 8) (f 4 i)) (f 0 9) (f 3 9) (f 4 i) (rotN (f 4 i) (shN ((nI n0)) (f 4 i))) (fun q => (cpy2 r (f 0 i) (f 3 i) (f 0 9) (f 3 9) (f 4 i)) (f 0 9) (f 3 9 + q)))) (kn := kn) (i := 10) (j := i) hX (by first | omega | (simp [up2, *]; done) | (simp [up2, *]; omega) | (simp only [up2_eq]; omega) | (split <;> omega)) (by first | omega | (simp [up2, *]; done) | (simp [up2, *]; omega) | (simp only [up2_eq]; omega) | (split <;> omega)) (by first | omega | (simp [up2, *]; done) | (simp [up2, *]; omega) | (simp only [up2_eq]; omega) | (split <;> omega)) (by first | omega | (simp [up2, *]; done) | (simp [up2, *]; omega) | (simp only [up2_eq]; omega) | (split <;> omega)) (by first | omega | (simp [up2, *]; done) | (simp [up2, *]; omega) | (simp only [up2_eq]; omega) | (split <;> omega)) (by first | omega | (simp [up2, *]; done) | (simp [up2, *]; omega) | (simp only [up2_eq]; omega) | (split <;> omega))) pk_X1_becomeLike qm_X2_79 (3 + 10) 5 rfl rfl (wc_p (by first | omega | (simp [up2, *]; done) | (simp [up2, *]; omega) | (simp only [up2_eq]; omega) | (split <;> omega))) rfl rfl (Nat.le_of_ble_eq_true rfl) dX2_isMoveSound_43 ⟨Nat.le_of_ble_eq_true rfl, Nat.le_of_ble_eq_true rfl⟩ ⟨Nat.le_of_ble_eq_true rfl, Nat.le_of_ble_eq_true rfl⟩ ?_
    refine r_w (show WC cy a (up2 (up2 (up2 f 4 9 (f 4 i)) 4 8 (f 4 i)) 4 10 ((up2 (up2 f 4 9 (f 4 i)) 4 8 (f 4 i)) 4 i)) (cpy2 (scS (cpy2 (cpy2 r (f 0 i) (f 3 i) (f 0 9) (f 3 9) (f 4 i)) (f 0 9) (f 3 9) (f 0 8) (f 3 8) (f 4 i)) (f 0 9) (f 3 9) (f 4 i) (rotN (f 4 i) (shN ((nI n0)) (f 4 i))) (fun q => (cpy2 r (f 0 i) (f 3 i) (f 0 9) (f 3 9) (f 4 i)) (f 0 9) (f 3 9 + q))) (f 0 i) (f 3 i) (f 0 10) (f 3 10) ((up2 (up2 f 4 9 (f 4 i)) 4 8 (f 4 i)) 4 i)) kn ++ Y = WC cy a (up2 (up2 (up2 f 4 9 (f 4 i)) 4 8 (f 4 i)) 4 10 (f 4 i)) (cpy2 (scS (cpy2 (cpy2 r (f 0 i) (f 3 i) (f 0 9) (f 3 9) (f 4 i)) (f 0 9) (f 3 9) (f 0 8) (f 3 8) (f 4 i)) (f 0 9) (f 3 9) (f 4 i) (rotN (f 4 i) (n0 % (f 4 i))) (fun q => (cpy2 r (f 0 i) (f 3 i) (f 0 9) (f 3 9) (f 4 i)) (f 0 9) (f 3 9 + q))) (f 0 i) (f 3 i) (f 0 10) (f 3 10) (f 4 i)) kn ++ Y by rw [show up2 (up2 f 4 9 (f 4 i)) 4 8 (f 4 i) 4 i = f 4 i from (up2_i _ _ _ _ (by omega)).trans (up2_i _ _ _ _ (by omega)), shN_nI hc]) ?_
    refine r_aload_n C dX2_isMoveSound_46 rfl ?_
    refine s_get C 4 (by decide) qf_X2_36 rfl rfl dX2_isMoveSound_47 ?_
    refine r_iconst (v := (nI 0)) C dX2_isMoveSound_50 (by decide) ?_
    refine r_iload_n C dX2_isMoveSound_51 rfl ?_
    refine d_Vv (st := []) hX.stb C hE (C_turn (f := (up2 (up2 (up2 f 4 9 (f 4 i)) 4 8 (f 4 i)) 4 10 (f 4 i))) (r := (cpy2 (scS (cpy2 (cpy2 r (f 0 i) (f 3 i) (f 0 9) (f 3 9) (f 4 i)) (f 0 9) (f 3 9) (f 0 8) (f 3 8) (f 4 i)) (f 0 9) (f 3 9) (f 4 i) (rotN (f 4 i) (n0 % (f 4 i))) (fun q => (cpy2 r (f 0 i) (f 3 i) (f 0 9) (f 3 9) (f 4 i)) (f 0 9) (f 3 9 + q))) (f 0 i) (f 3 i) (f 0 10) (f 3 10) (f 4 i))) (kn := kn) (i := 10) (p0 := 0) (q0 := (f 4 i)) hX (by first | omega | (simp [up2, *]; done) | (simp [up2, *]; omega) | (simp only [up2_eq]; omega) | (split <;> omega)) (by first | omega | (simp [up2, *]; done) | (simp [up2, *]; omega) | (simp only [up2_eq]; omega) | (split <;> omega)) (by first | omega | (simp [up2, *]; done) | (simp [up2, *]; omega) | (simp only [up2_eq]; omega) | (split <;> omega)) (by first | omega | (simp [up2, *]; done) | (simp [up2, *]; omega) | (simp only [up2_eq]; omega) | (split <;> omega)) (by first | omega | (simp [up2, *]; done) | (simp [up2, *]; omega) | (simp only [up2_eq]; omega) | (split <;> omega))) pk_X1_turn qm_X2_105 (3 + 10) 5 rfl rfl (wc_p (by first | omega | (simp [up2, *]; done) | (simp [up2, *]; omega) | (simp only [up2_eq]; omega) | (split <;> omega))) rfl rfl (Nat.le_of_ble_eq_true rfl) dX2_isMoveSound_52 ⟨Nat.le_of_ble_eq_true rfl, Nat.le_of_ble_eq_true rfl⟩ ⟨Nat.le_of_ble_eq_true rfl, Nat.le_of_ble_eq_true rfl⟩ ?_
    refine r_aload_n C dX2_isMoveSound_55 rfl ?_
    refine s_get C 4 (by decide) qf_X2_36 rfl rfl dX2_isMoveSound_56 ?_
    refine r_iconst (v := (nI 0)) C dX2_isMoveSound_59 (by decide) ?_
    refine r_iload C dX2_isMoveSound_60 rfl ?_
    refine r_eqi (show nI (n0 % f 4 i) = nI 0 from congrArg nI hk) ?_
    refine d_Vv (st := []) hX.stb C hE (C_turn0 (f := (up2 (up2 (up2 f 4 9 (f 4 i)) 4 8 (f 4 i)) 4 10 (f 4 i))) (r := (revS (cpy2 (scS (cpy2 (cpy2 r (f 0 i) (f 3 i) (f 0 9) (f 3 9) (f 4 i)) (f 0 9) (f 3 9) (f 0 8) (f 3 8) (f 4 i)) (f 0 9) (f 3 9) (f 4 i) (rotN (f 4 i) (n0 % (f 4 i))) (fun q => (cpy2 r (f 0 i) (f 3 i) (f 0 9) (f 3 9) (f 4 i)) (f 0 9) (f 3 9 + q))) (f 0 i) (f 3 i) (f 0 10) (f 3 10) (f 4 i)) (f 0 10) (f 3 10 + 0) (f 3 10 + (f 4 i)))) (kn := kn) (i := 10) hX (by first | omega | (simp [up2, *]; done) | (simp [up2, *]; omega) | (simp only [up2_eq]; omega) | (split <;> omega))) pk_X1_turn qm_X2_105 (3 + 10) 5 rfl rfl (wc_p (by first | omega | (simp [up2, *]; done) | (simp [up2, *]; omega) | (simp only [up2_eq]; omega) | (split <;> omega))) rfl rfl (Nat.le_of_ble_eq_true rfl) dX2_isMoveSound_62 ⟨Nat.le_of_ble_eq_true rfl, Nat.le_of_ble_eq_true rfl⟩ ⟨Nat.le_of_ble_eq_true rfl, Nat.le_of_ble_eq_true rfl⟩ ?_
    refine r_aload_n C dX2_isMoveSound_65 rfl ?_
    refine s_get C 4 (by decide) qf_X2_36 rfl rfl dX2_isMoveSound_66 ?_
    refine r_iload C dX2_isMoveSound_69 rfl ?_
    refine r_iload_n C dX2_isMoveSound_71 rfl ?_
    refine d_Vv (st := []) hX.stb C hE (C_turn (f := (up2 (up2 (up2 f 4 9 (f 4 i)) 4 8 (f 4 i)) 4 10 (f 4 i))) (r := (revS (cpy2 (scS (cpy2 (cpy2 r (f 0 i) (f 3 i) (f 0 9) (f 3 9) (f 4 i)) (f 0 9) (f 3 9) (f 0 8) (f 3 8) (f 4 i)) (f 0 9) (f 3 9) (f 4 i) (rotN (f 4 i) (n0 % (f 4 i))) (fun q => (cpy2 r (f 0 i) (f 3 i) (f 0 9) (f 3 9) (f 4 i)) (f 0 9) (f 3 9 + q))) (f 0 i) (f 3 i) (f 0 10) (f 3 10) (f 4 i)) (f 0 10) (f 3 10 + 0) (f 3 10 + (f 4 i)))) (kn := kn) (i := 10) (p0 := (n0 % (f 4 i))) (q0 := (f 4 i)) hX (by first | omega | (simp [up2, *]; done) | (simp [up2, *]; omega) | (simp only [up2_eq]; omega) | (split <;> omega)) (by first | omega | (simp [up2, *]; done) | (simp [up2, *]; omega) | (simp only [up2_eq]; omega) | (split <;> omega)) (by first | omega | (simp [up2, *]; done) | (simp [up2, *]; omega) | (simp only [up2_eq]; omega) | (split <;> omega)) (by first | omega | (simp [up2, *]; done) | (simp [up2, *]; omega) | (simp only [up2_eq]; omega) | (split <;> omega)) (by first | omega | (simp [up2, *]; done) | (simp [up2, *]; omega) | (simp only [up2_eq]; omega) | (split <;> omega))) pk_X1_turn qm_X2_105 (3 + 10) 5 rfl rfl (wc_p (by first | omega | (simp [up2, *]; done) | (simp [up2, *]; omega) | (simp only [up2_eq]; omega) | (split <;> omega))) rfl rfl (Nat.le_of_ble_eq_true rfl) dX2_isMoveSound_72 ⟨Nat.le_of_ble_eq_true rfl, Nat.le_of_ble_eq_true rfl⟩ ⟨Nat.le_of_ble_eq_true rfl, Nat.le_of_ble_eq_true rfl⟩ ?_
    refine r_aload_n C dX2_isMoveSound_75 rfl ?_
    refine s_get C 3 (by decide) qf_X2_33 rfl rfl dX2_isMoveSound_76 ?_
    refine r_aload_n C dX2_isMoveSound_79 rfl ?_
    refine s_get C 4 (by decide) qf_X2_36 rfl rfl dX2_isMoveSound_80 ?_
    refine d_V (st := []) hX.stb C hE (C_isLike_yes (f := (up2 (up2 (up2 f 4 9 (f 4 i)) 4 8 (f 4 i)) 4 10 (f 4 i))) (r := (revS (revS (cpy2 (scS (cpy2 (cpy2 r (f 0 i) (f 3 i) (f 0 9) (f 3 9) (f 4 i)) (f 0 9) (f 3 9) (f 0 8) (f 3 8) (f 4 i)) (f 0 9) (f 3 9) (f 4 i) (rotN (f 4 i) (n0 % (f 4 i))) (fun q => (cpy2 r (f 0 i) (f 3 i) (f 0 9) (f 3 9) (f 4 i)) (f 0 9) (f 3 9 + q))) (f 0 i) (f 3 i) (f 0 10) (f 3 10) (f 4 i)) (f 0 10) (f 3 10 + 0) (f 3 10 + (f 4 i))) (f 0 10) (f 3 10 + (n0 % (f 4 i))) (f 3 10 + (f 4 i)))) (kn := kn) (i := 9) (j := 10) hX (by first | omega | (simp [up2, *]; done) | (simp [up2, *]; omega) | (simp only [up2_eq]; omega) | (split <;> omega)) (by first | omega | (simp [up2, *]; done) | (simp [up2, *]; omega) | (simp only [up2_eq]; omega) | (split <;> omega)) (by first | omega | (simp [up2, *]; done) | (simp [up2, *]; omega) | (simp only [up2_eq]; omega) | (split <;> omega)) (by first | omega | (simp [up2, *]; done) | (simp [up2, *]; omega) | (simp only [up2_eq]; omega) | (split <;> omega)) (by first | omega | (simp [up2, *]; done) | (simp [up2, *]; omega) | (simp only [up2_eq]; omega) | (split <;> omega)) (by first | omega | (simp [up2, *]; done) | (simp [up2, *]; omega) | (simp only [up2_eq]; omega) | (split <;> omega)) (by rw [up2_i _ _ _ _ (by omega), up2_i _ _ _ _ (by omega), up2_eq, up2_eq]) (fun q hq => by rw [up2_eq] at hq; exact mv_lk0 (k := n0 % f 4 i) (by omega) (by omega) (by omega) hk hq)) pk_X1_isLike qm_X2_161 (3 + 9) 5 rfl rfl (wc_p (by first | omega | (simp [up2, *]; done) | (simp [up2, *]; omega) | (simp only [up2_eq]; omega) | (split <;> omega))) rfl rfl (Nat.le_of_ble_eq_true rfl) dX2_isMoveSound_83 ⟨Nat.le_of_ble_eq_true rfl, Nat.le_of_ble_eq_true rfl⟩ ⟨Nat.le_of_ble_eq_true rfl, Nat.le_of_ble_eq_true rfl⟩ ?_
    exact r_zret C hr (by first | omega | (simp [up2, *]; done) | (simp [up2, *]; omega) | (simp only [up2_eq]; omega) | (split <;> omega)) dX2_isMoveSound_86 ⟨rfl, rfl⟩ (Nat.le_of_ble_eq_true rfl) (Nat.le_of_ble_eq_true rfl)
  · exact absurd h6_1 (by first | omega | (simp [up2, *]; done) | (simp [up2, *]; omega) | (simp only [up2_eq]; omega) | (split <;> omega))
theorem dX2_isMoveSound_9 : decode cX2_isMoveSound 9 = .ok (.iconst 0, 1) := dqo_3 (kb_X2_isMoveSound_0 9 rfl)
theorem dX2_isMoveSound_10 : decode cX2_isMoveSound 10 = .ok (.goto 6, 3) := dqo_167 0 6 (by decide) (kb_X2_isMoveSound_0 10 rfl) (kb_X2_isMoveSound_0 11 rfl) (kb_X2_isMoveSound_0 12 rfl)
set_option maxRecDepth 100000 in
set_option maxHeartbeats 4000000 in
theorem C_isMoveSound_0 {l : Launch} {D : va_G} {cy : Nat → ClassId} {X : (Nat → Prop) → State → Heap → Prop} {a f : Nat → Nat → Nat} {r : Nat → Nat → Int32} {kn : Int32} {Y : va_W} {i : Nat} {n0 : Nat} (hX : EnvX X) (hC : CInv f) (hi4 : i < 4) (hz : f 4 i = 0) (hc : n0 < 1000) : Cd l D cy X yX2_isMoveSound cX2_isMoveSound 5 (some .boolean) (rmz 4 220) [.ref (a 0 0), .ref (a 1 i), .int (nI n0)] (WC cy a f r kn ++ Y) (some (.int (nI 1))) (WC cy a (up2 (up2 f 4 9 (f 4 i)) 4 10 ((up2 f 4 9 (f 4 i)) 4 i)) (cpy2 (cpy2 r (f 0 i) (f 3 i) (f 0 9) (f 3 9) (f 4 i)) (f 0 i) (f 3 i) (f 0 10) (f 3 10) ((up2 f 4 9 (f 4 i)) 4 i)) kn ++ Y) := by
  have q3 := hC.sp
  have sp := hC.sp
  have q1 := hC.rw hi4
  obtain ⟨sp0, sp1, sp2, sp3, sp4, sp5, sp6, sp7, sp8⟩ := sp
  obtain ⟨q2, q3, q4, q5, q6, q7⟩ := q1
  have q8 : (nI n0).toInt = (n0 : Int) := nI_toInt (by omega)
  refine Cm.of [some (.ref (a 0 0)), some (.ref (a 1 i)), some (.int (nI n0)), none, none] pn_X2 rfl (Nat.le_of_ble_eq_true rfl) ?_
  intro p e s m args below meth c A C hE hr hnt hn
  refine r_aload_n C dX2_isMoveSound_0 rfl ?_
  refine p_getN (v := .int (nI (f 4 i))) hX C hE 4 (by first | omega | (simp [up2, *]; done) | (simp [up2, *]; omega) | (simp only [up2_eq]; omega) | (split <;> omega)) (by decide) qn_X2_50 rfl rfl dX2_isMoveSound_1 ?_
  refine r_istore_n C dX2_isMoveSound_4 (by decide) rfl ?_
  refine r_iload_n C dX2_isMoveSound_5 rfl ?_
  refine r_eqi (show (nI (f 4 i)) = nI 0 by rw [hz]) ?_
  refine r_ifN_ne (a := 0) (tgt := 13) C (by first | omega | (simp [up2, *]; done) | (simp [up2, *]; omega) | (simp only [up2_eq]; omega) | (split <;> omega)) dX2_isMoveSound_6 (by decide) (fun h6_1 => ?_) (fun h6_1 => ?_)
  · exact absurd h6_1 (by first | omega | (simp [up2, *]; done) | (simp [up2, *]; omega) | (simp only [up2_eq]; omega) | (split <;> omega))
  · skip
    refine r_iconst (v := (nI 0)) C dX2_isMoveSound_9 (by decide) ?_
    refine r_goto (tgt := 16) C dX2_isMoveSound_10 (by decide) ?_
    refine r_istore C dX2_isMoveSound_16 (by decide) rfl ?_
    refine r_aload_n C dX2_isMoveSound_18 rfl ?_
    refine s_get C 3 (by decide) qf_X2_33 rfl rfl dX2_isMoveSound_19 ?_
    refine r_aload_n C dX2_isMoveSound_22 rfl ?_
    refine d_Vv (st := []) hX.stb C hE (C_becomeLike (f := f) (r := r) (kn := kn) (i := 9) (j := i) hX (by first | omega | (simp [up2, *]; done) | (simp [up2, *]; omega) | (simp only [up2_eq]; omega) | (split <;> omega)) (by first | omega | (simp [up2, *]; done) | (simp [up2, *]; omega) | (simp only [up2_eq]; omega) | (split <;> omega)) (by first | omega | (simp [up2, *]; done) | (simp [up2, *]; omega) | (simp only [up2_eq]; omega) | (split <;> omega)) (by first | omega | (simp [up2, *]; done) | (simp [up2, *]; omega) | (simp only [up2_eq]; omega) | (split <;> omega)) (by first | omega | (simp [up2, *]; done) | (simp [up2, *]; omega) | (simp only [up2_eq]; omega) | (split <;> omega)) (by first | omega | (simp [up2, *]; done) | (simp [up2, *]; omega) | (simp only [up2_eq]; omega) | (split <;> omega))) pk_X1_becomeLike qm_X2_79 (3 + 9) 5 rfl rfl (wc_p (by first | omega | (simp [up2, *]; done) | (simp [up2, *]; omega) | (simp only [up2_eq]; omega) | (split <;> omega))) rfl rfl (Nat.le_of_ble_eq_true rfl) dX2_isMoveSound_23 ⟨Nat.le_of_ble_eq_true rfl, Nat.le_of_ble_eq_true rfl⟩ ⟨Nat.le_of_ble_eq_true rfl, Nat.le_of_ble_eq_true rfl⟩ ?_
    refine r_aload_n C dX2_isMoveSound_26 rfl ?_
    refine s_get C 3 (by decide) qf_X2_33 rfl rfl dX2_isMoveSound_27 ?_
    refine r_iload_n C dX2_isMoveSound_30 rfl ?_
    refine r_aload_n C dX2_isMoveSound_31 rfl ?_
    refine s_get C 2 (by decide) qf_X2_29 rfl rfl dX2_isMoveSound_32 ?_
    refine d_Vv (st := []) hX.stb C hE (C_moveUp0 (f := (up2 f 4 9 (f 4 i))) (r := (cpy2 r (f 0 i) (f 3 i) (f 0 9) (f 3 9) (f 4 i))) (kn := kn) (i := 9) (j := 8) (x := ((nI n0))) hX (by first | omega | (simp [up2, *]; done) | (simp [up2, *]; omega) | (simp only [up2_eq]; omega) | (split <;> omega)) (by first | omega | (simp [up2, *]; done) | (simp [up2, *]; omega) | (simp only [up2_eq]; omega) | (split <;> omega))) pk_X1_moveUp qm_X2_97 (3 + 9) 5 rfl rfl (wc_p (by first | omega | (simp [up2, *]; done) | (simp [up2, *]; omega) | (simp only [up2_eq]; omega) | (split <;> omega))) rfl rfl (Nat.le_of_ble_eq_true rfl) dX2_isMoveSound_35 ⟨Nat.le_of_ble_eq_true rfl, Nat.le_of_ble_eq_true rfl⟩ ⟨Nat.le_of_ble_eq_true rfl, Nat.le_of_ble_eq_true rfl⟩ ?_
    refine r_aload_n C dX2_isMoveSound_38 rfl ?_
    refine s_get C 4 (by decide) qf_X2_36 rfl rfl dX2_isMoveSound_39 ?_
    refine r_aload_n C dX2_isMoveSound_42 rfl ?_
    refine d_Vv (st := []) hX.stb C hE (C_becomeLike (f := (up2 f 4 9 (f 4 i))) (r := (cpy2 r (f 0 i) (f 3 i) (f 0 9) (f 3 9) (f 4 i))) (kn := kn) (i := 10) (j := i) hX (by first | omega | (simp [up2, *]; done) | (simp [up2, *]; omega) | (simp only [up2_eq]; omega) | (split <;> omega)) (by first | omega | (simp [up2, *]; done) | (simp [up2, *]; omega) | (simp only [up2_eq]; omega) | (split <;> omega)) (by first | omega | (simp [up2, *]; done) | (simp [up2, *]; omega) | (simp only [up2_eq]; omega) | (split <;> omega)) (by first | omega | (simp [up2, *]; done) | (simp [up2, *]; omega) | (simp only [up2_eq]; omega) | (split <;> omega)) (by first | omega | (simp [up2, *]; done) | (simp [up2, *]; omega) | (simp only [up2_eq]; omega) | (split <;> omega)) (by first | omega | (simp [up2, *]; done) | (simp [up2, *]; omega) | (simp only [up2_eq]; omega) | (split <;> omega))) pk_X1_becomeLike qm_X2_79 (3 + 10) 5 rfl rfl (wc_p (by first | omega | (simp [up2, *]; done) | (simp [up2, *]; omega) | (simp only [up2_eq]; omega) | (split <;> omega))) rfl rfl (Nat.le_of_ble_eq_true rfl) dX2_isMoveSound_43 ⟨Nat.le_of_ble_eq_true rfl, Nat.le_of_ble_eq_true rfl⟩ ⟨Nat.le_of_ble_eq_true rfl, Nat.le_of_ble_eq_true rfl⟩ ?_
    refine r_aload_n C dX2_isMoveSound_46 rfl ?_
    refine s_get C 4 (by decide) qf_X2_36 rfl rfl dX2_isMoveSound_47 ?_
    refine r_iconst (v := (nI 0)) C dX2_isMoveSound_50 (by decide) ?_
    refine r_iload_n C dX2_isMoveSound_51 rfl ?_
    refine r_eqi (show (nI (f 4 i)) = nI 0 by first | rfl | (rw [hz]) | (simp [up2, *]; done)) ?_
    refine d_Vv (st := []) hX.stb C hE (C_turn0 (f := (up2 (up2 f 4 9 (f 4 i)) 4 10 ((up2 f 4 9 (f 4 i)) 4 i))) (r := (cpy2 (cpy2 r (f 0 i) (f 3 i) (f 0 9) (f 3 9) (f 4 i)) (f 0 i) (f 3 i) (f 0 10) (f 3 10) ((up2 f 4 9 (f 4 i)) 4 i))) (kn := kn) (i := 10) hX (by first | omega | (simp [up2, *]; done) | (simp [up2, *]; omega) | (simp only [up2_eq]; omega) | (split <;> omega))) pk_X1_turn qm_X2_105 (3 + 10) 5 rfl rfl (wc_p (by first | omega | (simp [up2, *]; done) | (simp [up2, *]; omega) | (simp only [up2_eq]; omega) | (split <;> omega))) rfl rfl (Nat.le_of_ble_eq_true rfl) dX2_isMoveSound_52 ⟨Nat.le_of_ble_eq_true rfl, Nat.le_of_ble_eq_true rfl⟩ ⟨Nat.le_of_ble_eq_true rfl, Nat.le_of_ble_eq_true rfl⟩ ?_
    refine r_aload_n C dX2_isMoveSound_55 rfl ?_
    refine s_get C 4 (by decide) qf_X2_36 rfl rfl dX2_isMoveSound_56 ?_
    refine r_iconst (v := (nI 0)) C dX2_isMoveSound_59 (by decide) ?_
    refine r_iload C dX2_isMoveSound_60 rfl ?_
    refine d_Vv (st := []) hX.stb C hE (C_turn0 (f := (up2 (up2 f 4 9 (f 4 i)) 4 10 ((up2 f 4 9 (f 4 i)) 4 i))) (r := (cpy2 (cpy2 r (f 0 i) (f 3 i) (f 0 9) (f 3 9) (f 4 i)) (f 0 i) (f 3 i) (f 0 10) (f 3 10) ((up2 f 4 9 (f 4 i)) 4 i))) (kn := kn) (i := 10) hX (by first | omega | (simp [up2, *]; done) | (simp [up2, *]; omega) | (simp only [up2_eq]; omega) | (split <;> omega))) pk_X1_turn qm_X2_105 (3 + 10) 5 rfl rfl (wc_p (by first | omega | (simp [up2, *]; done) | (simp [up2, *]; omega) | (simp only [up2_eq]; omega) | (split <;> omega))) rfl rfl (Nat.le_of_ble_eq_true rfl) dX2_isMoveSound_62 ⟨Nat.le_of_ble_eq_true rfl, Nat.le_of_ble_eq_true rfl⟩ ⟨Nat.le_of_ble_eq_true rfl, Nat.le_of_ble_eq_true rfl⟩ ?_
    refine r_aload_n C dX2_isMoveSound_65 rfl ?_
    refine s_get C 4 (by decide) qf_X2_36 rfl rfl dX2_isMoveSound_66 ?_
    refine r_iload C dX2_isMoveSound_69 rfl ?_
    refine r_iload_n C dX2_isMoveSound_71 rfl ?_
    refine r_eqi (show (nI (f 4 i)) = nI 0 by first | rfl | (rw [hz]) | (simp [up2, *]; done)) ?_
    refine d_Vv (st := []) hX.stb C hE (C_turn0 (f := (up2 (up2 f 4 9 (f 4 i)) 4 10 ((up2 f 4 9 (f 4 i)) 4 i))) (r := (cpy2 (cpy2 r (f 0 i) (f 3 i) (f 0 9) (f 3 9) (f 4 i)) (f 0 i) (f 3 i) (f 0 10) (f 3 10) ((up2 f 4 9 (f 4 i)) 4 i))) (kn := kn) (i := 10) hX (by first | omega | (simp [up2, *]; done) | (simp [up2, *]; omega) | (simp only [up2_eq]; omega) | (split <;> omega))) pk_X1_turn qm_X2_105 (3 + 10) 5 rfl rfl (wc_p (by first | omega | (simp [up2, *]; done) | (simp [up2, *]; omega) | (simp only [up2_eq]; omega) | (split <;> omega))) rfl rfl (Nat.le_of_ble_eq_true rfl) dX2_isMoveSound_72 ⟨Nat.le_of_ble_eq_true rfl, Nat.le_of_ble_eq_true rfl⟩ ⟨Nat.le_of_ble_eq_true rfl, Nat.le_of_ble_eq_true rfl⟩ ?_
    refine r_aload_n C dX2_isMoveSound_75 rfl ?_
    refine s_get C 3 (by decide) qf_X2_33 rfl rfl dX2_isMoveSound_76 ?_
    refine r_aload_n C dX2_isMoveSound_79 rfl ?_
    refine s_get C 4 (by decide) qf_X2_36 rfl rfl dX2_isMoveSound_80 ?_
    refine d_V (st := []) hX.stb C hE (C_isLike_yes (f := (up2 (up2 f 4 9 (f 4 i)) 4 10 ((up2 f 4 9 (f 4 i)) 4 i))) (r := (cpy2 (cpy2 r (f 0 i) (f 3 i) (f 0 9) (f 3 9) (f 4 i)) (f 0 i) (f 3 i) (f 0 10) (f 3 10) ((up2 f 4 9 (f 4 i)) 4 i))) (kn := kn) (i := 9) (j := 10) hX (by first | omega | (simp [up2, *]; done) | (simp [up2, *]; omega) | (simp only [up2_eq]; omega) | (split <;> omega)) (by first | omega | (simp [up2, *]; done) | (simp [up2, *]; omega) | (simp only [up2_eq]; omega) | (split <;> omega)) (by first | omega | (simp [up2, *]; done) | (simp [up2, *]; omega) | (simp only [up2_eq]; omega) | (split <;> omega)) (by first | omega | (simp [up2, *]; done) | (simp [up2, *]; omega) | (simp only [up2_eq]; omega) | (split <;> omega)) (by first | omega | (simp [up2, *]; done) | (simp [up2, *]; omega) | (simp only [up2_eq]; omega) | (split <;> omega)) (by first | omega | (simp [up2, *]; done) | (simp [up2, *]; omega) | (simp only [up2_eq]; omega) | (split <;> omega)) (by simp [up2, *]) (fun q hq => absurd hq (by simp [up2, *]))) pk_X1_isLike qm_X2_161 (3 + 9) 5 rfl rfl (wc_p (by first | omega | (simp [up2, *]; done) | (simp [up2, *]; omega) | (simp only [up2_eq]; omega) | (split <;> omega))) rfl rfl (Nat.le_of_ble_eq_true rfl) dX2_isMoveSound_83 ⟨Nat.le_of_ble_eq_true rfl, Nat.le_of_ble_eq_true rfl⟩ ⟨Nat.le_of_ble_eq_true rfl, Nat.le_of_ble_eq_true rfl⟩ ?_
    exact r_zret C hr (by first | omega | (simp [up2, *]; done) | (simp [up2, *]; omega) | (simp only [up2_eq]; omega) | (split <;> omega)) dX2_isMoveSound_86 ⟨rfl, rfl⟩ (Nat.le_of_ble_eq_true rfl) (Nat.le_of_ble_eq_true rfl)
