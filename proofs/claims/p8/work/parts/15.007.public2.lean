theorem dX2_addAll_88 : decode cX2_addAll 88 = .ok (.aaload, 1) := by decide +kernel
theorem dX2_addAll_89 : decode cX2_addAll 89 = .ok (.getfield 50, 3) := by decide +kernel
theorem dX2_addAll_92 : decode cX2_addAll 92 = .ok (.ireturn, 1) := by decide +kernel
set_option maxRecDepth 100000 in
set_option maxHeartbeats 4000000 in
theorem C_addAll_ok {l : Launch} {D : va_G} {cy : Nat → ClassId} {X : (Nat → Prop) → State → Heap → Prop} {a f : Nat → Nat → Nat} {r : Nat → Nat → Int32} {kn : Int32} {Y : va_W} {i : Nat} {k0 : Nat} {j : Nat} (hX : EnvX X) (hC : CInv f) (hi4 : i < 4) (hj4 : j < 4) (hz : 0 < f 4 j) (hfit : f 4 (f 1 i) + f 4 j ≤ 12) (hk : k0 ≤ f 4 i) : Cd l D cy X yX2_addAll cX2_addAll 5 (some .int) (rmz 6 240) [.ref (a 0 0), .int (nI i), .int (nI k0), .int (nI j)] (WC cy a f r kn ++ Y) (some (.int (nI ((exL (up2 f 4 8 (f 4 j)) i ((up2 f 4 8 (f 4 j)) 4 8) (k0 - k0) 8) 4 i)))) (WC cy a (settleF (exL (up2 f 4 8 (f 4 j)) i ((up2 f 4 8 (f 4 j)) 4 8) (k0 - k0) 8) i 4294967295) (exR (up2 f 4 8 (f 4 j)) (cpy2 r (f 0 j) (f 3 j) (f 0 8) (f 3 8) (f 4 j)) i k0 k0 ((up2 f 4 8 (f 4 j)) 4 8)) kn ++ Y) := by
  have q3 := hC.sp
  have q1_i := hC.rw hi4
  have q2_i := hC.al (i := i) (by omega)
  have q6_i : f 4 (f 1 i) = f 4 i := by rw [q1_i.2.1]
  have q1_j := hC.rw hj4
  have q2_j := hC.al (i := j) (by omega)
  have q6_j : f 4 (f 1 j) = f 4 j := by rw [q1_j.2.1]
  refine Cm.of [some (.ref (a 0 0)), some (.int (nI i)), some (.int (nI k0)), some (.int (nI j)), none] (by decide +kernel) rfl (Nat.le_of_ble_eq_true rfl) ?_
  intro p e s m args below meth c A C hE hr hnt hn
  refine r_iload_n C dX2_addAll_0 rfl ?_
  refine d_Sv (st := []) hX.stb C hE (C_needRow_ok (f := f) (r := r) (kn := kn) (k := i) hX (by first | omega | (simp [up2, *]; done) | (simp [up2, *]; omega) | (simp only [up2_eq]; omega) | (split <;> omega))) pk_X2_needRow qm_X2_126 rfl rfl (Nat.le_of_ble_eq_true rfl) dX2_addAll_1 ⟨Nat.le_of_ble_eq_true rfl, Nat.le_of_ble_eq_true rfl⟩ ⟨Nat.le_of_ble_eq_true rfl, Nat.le_of_ble_eq_true rfl⟩ ?_
  refine r_iload_n C dX2_addAll_4 rfl ?_
  refine d_Sv (st := []) hX.stb C hE (C_needRow_ok (f := f) (r := r) (kn := kn) (k := j) hX (by first | omega | (simp [up2, *]; done) | (simp [up2, *]; omega) | (simp only [up2_eq]; omega) | (split <;> omega))) pk_X2_needRow qm_X2_126 rfl rfl (Nat.le_of_ble_eq_true rfl) dX2_addAll_5 ⟨Nat.le_of_ble_eq_true rfl, Nat.le_of_ble_eq_true rfl⟩ ⟨Nat.le_of_ble_eq_true rfl, Nat.le_of_ble_eq_true rfl⟩ ?_
  refine r_aload_n C dX2_addAll_8 rfl ?_
  refine s_get C 0 (by decide) qf_X2_11 rfl rfl dX2_addAll_9 ?_
  refine r_iload_n C dX2_addAll_12 rfl ?_
  refine s_parts C (by first | omega | (simp [up2, *]; done) | (simp [up2, *]; omega) | (simp only [up2_eq]; omega) | (split <;> omega)) dX2_addAll_13 ?_
  refine p_getN (v := .int (nI (f 4 j))) hX C hE 4 (by first | omega | (simp [up2, *]; done) | (simp [up2, *]; omega) | (simp only [up2_eq]; omega) | (split <;> omega)) (by decide) qn_X2_50 rfl rfl dX2_addAll_14 ?_
  refine r_istore C dX2_addAll_17 (by decide) rfl ?_
  refine r_aload_n C dX2_addAll_19 rfl ?_
  refine r_iload_n C dX2_addAll_20 rfl ?_
  refine r_iload C dX2_addAll_21 rfl ?_
  refine d_Vv (st := []) hX.stb C hE (C_needRoom_ok (f := f) (r := r) (kn := kn) (w := i) (x := ((nI (f 4 j)))) (q0 := (f 4 (f 1 i) + f 4 j)) hX (by first | omega | (simp [up2, *]; done) | (simp [up2, *]; omega) | (simp only [up2_eq]; omega) | (split <;> omega)) (by omega) (nI_add _ _) (by first | omega | (simp [up2, *]; done) | (simp [up2, *]; omega) | (simp only [up2_eq]; omega) | (split <;> omega))) pk_X2_needRoom qm_X2_46 0 6 rfl rfl wc_0 rfl rfl (Nat.le_of_ble_eq_true rfl) dX2_addAll_23 ⟨Nat.le_of_ble_eq_true rfl, Nat.le_of_ble_eq_true rfl⟩ ⟨Nat.le_of_ble_eq_true rfl, Nat.le_of_ble_eq_true rfl⟩ ?_
  refine r_iload C dX2_addAll_26 rfl ?_
  refine r_ifN_ne (a := (f 4 j)) (tgt := 41) C (by first | omega | (simp [up2, *]; done) | (simp [up2, *]; omega) | (simp only [up2_eq]; omega) | (split <;> omega)) dX2_addAll_28 (by decide) (fun h28_1 => ?_) (fun h28_1 => ?_)
  · skip
    refine r_aload_n C dX2_addAll_41 rfl ?_
    refine s_get C 0 (by decide) qf_X2_11 rfl rfl dX2_addAll_42 ?_
    refine r_iload_n C dX2_addAll_45 rfl ?_
    refine s_parts C (by first | omega | (simp [up2, *]; done) | (simp [up2, *]; omega) | (simp only [up2_eq]; omega) | (split <;> omega)) dX2_addAll_46 ?_
    refine r_iload_n C dX2_addAll_47 rfl ?_
    refine d_V (st := []) hX.stb C hE (C_isGap1 (f := f) (r := r) (kn := kn) (i := i) (k := k0) hX (by first | omega | (simp [up2, *]; done) | (simp [up2, *]; omega) | (simp only [up2_eq]; omega) | (split <;> omega)) (by first | omega | (simp [up2, *]; done) | (simp [up2, *]; omega) | (simp only [up2_eq]; omega) | (split <;> omega)) (by first | omega | (simp [up2, *]; done) | (simp [up2, *]; omega) | (simp only [up2_eq]; omega) | (split <;> omega))) pk_X1_isGap qm_X2_58 (3 + i) 5 rfl rfl (wc_p (by first | omega | (simp [up2, *]; done) | (simp [up2, *]; omega) | (simp only [up2_eq]; omega) | (split <;> omega))) rfl rfl (Nat.le_of_ble_eq_true rfl) dX2_addAll_48 ⟨Nat.le_of_ble_eq_true rfl, Nat.le_of_ble_eq_true rfl⟩ ⟨Nat.le_of_ble_eq_true rfl, Nat.le_of_ble_eq_true rfl⟩ ?_
    refine r_ifN_ne (a := 1) (tgt := 57) C (by first | omega | (simp [up2, *]; done) | (simp [up2, *]; omega) | (simp only [up2_eq]; omega) | (split <;> omega)) dX2_addAll_51 (by decide) (fun h51_2 => ?_) (fun h51_2 => ?_)
    · skip
      refine r_aload_n C dX2_addAll_57 rfl ?_
      refine s_get C 2 (by decide) qf_X2_29 rfl rfl dX2_addAll_58 ?_
      refine r_aload_n C dX2_addAll_61 rfl ?_
      refine s_get C 0 (by decide) qf_X2_11 rfl rfl dX2_addAll_62 ?_
      refine r_iload_n C dX2_addAll_65 rfl ?_
      refine s_parts C (by first | omega | (simp [up2, *]; done) | (simp [up2, *]; omega) | (simp only [up2_eq]; omega) | (split <;> omega)) dX2_addAll_66 ?_
      refine d_Vv (st := []) hX.stb C hE (C_becomeLike (f := f) (r := r) (kn := kn) (i := 8) (j := j) hX (by first | omega | (simp [up2, *]; done) | (simp [up2, *]; omega) | (simp only [up2_eq]; omega) | (split <;> omega)) (by first | omega | (simp [up2, *]; done) | (simp [up2, *]; omega) | (simp only [up2_eq]; omega) | (split <;> omega)) (by first | omega | (simp [up2, *]; done) | (simp [up2, *]; omega) | (simp only [up2_eq]; omega) | (split <;> omega)) (by first | omega | (simp [up2, *]; done) | (simp [up2, *]; omega) | (simp only [up2_eq]; omega) | (split <;> omega)) (by first | omega | (simp [up2, *]; done) | (simp [up2, *]; omega) | (simp only [up2_eq]; omega) | (split <;> omega)) (by first | omega | (simp [up2, *]; done) | (simp [up2, *]; omega) | (simp only [up2_eq]; omega) | (split <;> omega))) pk_X1_becomeLike qm_X2_79 (3 + 8) 5 rfl rfl (wc_p (by first | omega | (simp [up2, *]; done) | (simp [up2, *]; omega) | (simp only [up2_eq]; omega) | (split <;> omega))) rfl rfl (Nat.le_of_ble_eq_true rfl) dX2_addAll_67 ⟨Nat.le_of_ble_eq_true rfl, Nat.le_of_ble_eq_true rfl⟩ ⟨Nat.le_of_ble_eq_true rfl, Nat.le_of_ble_eq_true rfl⟩ ?_
      refine r_aload_n C dX2_addAll_70 rfl ?_
      refine r_iload_n C dX2_addAll_71 rfl ?_
      refine r_iload_n C dX2_addAll_72 rfl ?_
      refine r_iload_n C dX2_addAll_73 rfl ?_
      refine d_Vv (st := []) hX.stb C hE (C_exchange (f := (up2 f 4 8 (f 4 j))) (r := (cpy2 r (f 0 j) (f 3 j) (f 0 8) (f 3 8) (f 4 j))) (kn := kn) (w := i) (p0 := k0) (q0 := k0) hX (by first | omega | (simp [up2, *]; done) | (simp [up2, *]; omega) | (simp only [up2_eq]; omega) | (split <;> omega)) hC.h1 hC.hG hC.hI hC.hI8 (by first | omega | (simp [up2, *]; done) | (simp [up2, *]; omega) | (simp only [up2_eq]; omega) | (split <;> omega)) (Nat.le_refl _) (show f 3 i + k0 ≤ up2 f 4 8 (f 4 j) 4 (f 1 i) by rw [up2_i _ _ _ _ (show f 1 i ≠ 8 by omega), q1_i.2.1]; omega) (show up2 f 4 8 (f 4 j) 4 (f 1 i) ≤ 12 by rw [up2_i _ _ _ _ (show f 1 i ≠ 8 by omega), q1_i.2.1]; omega) (show up2 f 4 8 (f 4 j) 4 8 ≤ 12 by rw [up2_eq]; omega) (show up2 f 4 8 (f 4 j) 4 (f 1 i) + up2 f 4 8 (f 4 j) 4 8 ≤ 12 + (k0 - k0) by rw [up2_i _ _ _ _ (show f 1 i ≠ 8 by omega), up2_eq]; omega) (fun z hz h => by have h6 := hC.ho12 (show i < 8 by omega) (show f 5 i = 1 by omega) z hz h; rw [up2_i _ _ _ _ (show z ≠ 8 by omega), up2_eq]; omega)) pk_X2_exchangeForSpare qm_X2_83 0 6 rfl rfl wc_0 rfl rfl (Nat.le_of_ble_eq_true rfl) dX2_addAll_74 ⟨Nat.le_of_ble_eq_true rfl, Nat.le_of_ble_eq_true rfl⟩ ⟨Nat.le_of_ble_eq_true rfl, Nat.le_of_ble_eq_true rfl⟩ ?_
      refine r_aload_n C dX2_addAll_77 rfl ?_
      refine r_iload_n C dX2_addAll_78 rfl ?_
      refine r_iconst (v := (nI 4294967295)) C dX2_addAll_79 (by decide) ?_
      refine d_Vv (st := []) hX.stb C hE (C_settle (f := (exL (up2 f 4 8 (f 4 j)) i ((up2 f 4 8 (f 4 j)) 4 8) (k0 - k0) 8)) (r := (exR (up2 f 4 8 (f 4 j)) (cpy2 r (f 0 j) (f 3 j) (f 0 8) (f 3 8) (f 4 j)) i k0 k0 ((up2 f 4 8 (f 4 j)) 4 8))) (kn := kn) (w := i) (d0 := 4294967295) hX (by first | omega | (simp [up2, *]; done) | (simp [up2, *]; omega) | (simp only [up2_eq]; omega) | (split <;> omega)) (by first | omega | (simp [up2, *]; done) | (simp [up2, *]; omega) | (simp only [up2_eq]; omega) | (split <;> omega)) hC.h1 hC.hU hC.hG) pk_X2_settle qm_X2_87 0 6 rfl rfl wc_0 rfl rfl (Nat.le_of_ble_eq_true rfl) dX2_addAll_80 ⟨Nat.le_of_ble_eq_true rfl, Nat.le_of_ble_eq_true rfl⟩ ⟨Nat.le_of_ble_eq_true rfl, Nat.le_of_ble_eq_true rfl⟩ ?_
      refine r_aload_n C dX2_addAll_83 rfl ?_
      refine s_get C 0 (by decide) qf_X2_11 rfl rfl dX2_addAll_84 ?_
      refine r_iload_n C dX2_addAll_87 rfl ?_
      refine s_parts C (by first | omega | (simp [up2, *]; done) | (simp [up2, *]; omega) | (simp only [up2_eq]; omega) | (split <;> omega)) dX2_addAll_88 ?_
      refine p_getN (v := .int (nI ((exL (up2 f 4 8 (f 4 j)) i ((up2 f 4 8 (f 4 j)) 4 8) (k0 - k0) 8) 4 i))) hX C hE 4 (by first | omega | (simp [up2, *]; done) | (simp [up2, *]; omega) | (simp only [up2_eq]; omega) | (split <;> omega)) (by decide) qn_X2_50 rfl rfl dX2_addAll_89 ?_
      exact r_iret C hr dX2_addAll_92 ⟨rfl, rfl⟩ (Nat.le_of_ble_eq_true rfl) (Nat.le_of_ble_eq_true rfl)
    · exact absurd h51_2 (by first | omega | (simp [up2, *]; done) | (simp [up2, *]; omega) | (simp only [up2_eq]; omega) | (split <;> omega))
  · exact absurd h28_1 (by first | omega | (simp [up2, *]; done) | (simp [up2, *]; omega) | (simp only [up2_eq]; omega) | (split <;> omega))
