theorem dX2_removeItem_16 : decode cX2_removeItem 16 = .ok (.iconst (-1), 1) := by decide +kernel
theorem dX2_removeItem_17 : decode cX2_removeItem 17 = .ok (.if_icmp .ne 5, 3) := by decide +kernel
theorem dX2_removeItem_20 : decode cX2_removeItem 20 = .ok (.iconst 0, 1) := by decide +kernel
theorem dX2_removeItem_21 : decode cX2_removeItem 21 = .ok (.ireturn, 1) := by decide +kernel
set_option maxRecDepth 100000 in
set_option maxHeartbeats 4000000 in
theorem C_removeItem_0 {l : Launch} {D : va_G} {cy : Nat → ClassId} {X : (Nat → Prop) → State → Heap → Prop} {a f : Nat → Nat → Nat} {r : Nat → Nat → Int32} {kn : Int32} {Y : va_W} {i : Nat} {y : Int32} (hX : EnvX X) (hC : CInv f) (hi4 : i < 4) (hz : fpF (fun q => r (f 0 i) (f 3 i + q)) y (f 4 i) 0 = 4294967295) : Cd l D cy X yX2_removeItem cX2_removeItem 4 (some .int) (rmz 6 240) [.ref (a 0 0), .int (nI i), .int y] (WC cy a f r kn ++ Y) (some (.int (nI 0))) (WC cy a f r kn ++ Y) := by
  have q3 := hC.sp
  have q1_i := hC.rw hi4
  have q2_i := hC.al (i := i) (by omega)
  have q6_i : f 4 (f 1 i) = f 4 i := by rw [q1_i.2.1]
  refine Cm.of [some (.ref (a 0 0)), some (.int (nI i)), some (.int y), none] (by decide +kernel) rfl (Nat.le_of_ble_eq_true rfl) ?_
  intro p e s m args below meth c A C hE hr hnt hn
  refine r_iload_n C dX2_removeItem_0 rfl ?_
  refine d_Sv (st := []) hX.stb C hE (C_needRow_ok (f := f) (r := r) (kn := kn) (k := i) hX (by first | omega | (simp [up2, *]; done) | (simp [up2, *]; omega) | (simp only [up2_eq]; omega) | (split <;> omega))) pk_X2_needRow qm_X2_126 rfl rfl (Nat.le_of_ble_eq_true rfl) dX2_removeItem_1 ⟨Nat.le_of_ble_eq_true rfl, Nat.le_of_ble_eq_true rfl⟩ ⟨Nat.le_of_ble_eq_true rfl, Nat.le_of_ble_eq_true rfl⟩ ?_
  refine r_aload_n C dX2_removeItem_4 rfl ?_
  refine s_get C 0 (by decide) qf_X2_11 rfl rfl dX2_removeItem_5 ?_
  refine r_iload_n C dX2_removeItem_8 rfl ?_
  refine s_parts C (by first | omega | (simp [up2, *]; done) | (simp [up2, *]; omega) | (simp only [up2_eq]; omega) | (split <;> omega)) dX2_removeItem_9 ?_
  refine r_iload_n C dX2_removeItem_10 rfl ?_
  refine d_V (st := []) hX.stb C hE (C_firstPlaceOf (f := f) (r := r) (kn := kn) (i := i) (x := (y)) hX (by first | omega | (simp [up2, *]; done) | (simp [up2, *]; omega) | (simp only [up2_eq]; omega) | (split <;> omega)) (by first | omega | (simp [up2, *]; done) | (simp [up2, *]; omega) | (simp only [up2_eq]; omega) | (split <;> omega)) (by first | omega | (simp [up2, *]; done) | (simp [up2, *]; omega) | (simp only [up2_eq]; omega) | (split <;> omega))) pk_X1_firstPlaceOf qm_X2_129 (3 + i) 5 rfl rfl (wc_p (by first | omega | (simp [up2, *]; done) | (simp [up2, *]; omega) | (simp only [up2_eq]; omega) | (split <;> omega))) rfl rfl (Nat.le_of_ble_eq_true rfl) dX2_removeItem_11 ⟨Nat.le_of_ble_eq_true rfl, Nat.le_of_ble_eq_true rfl⟩ ⟨Nat.le_of_ble_eq_true rfl, Nat.le_of_ble_eq_true rfl⟩ ?_
  refine r_istore_n C dX2_removeItem_14 (by decide) rfl ?_
  refine r_iload_n C dX2_removeItem_15 rfl ?_
  refine r_iconst (v := (nI 4294967295)) C dX2_removeItem_16 (by decide) ?_
  refine r_icN_ne (a := (fpF (fun q => r (f 0 i) (f 3 i + q)) (y) (f 4 i) 0)) (b := 4294967295) (tgt := 22) C (by omega) (by first | omega | (simp [up2, *]; done) | (simp [up2, *]; omega) | (simp only [up2_eq]; omega) | (split <;> omega)) dX2_removeItem_17 (by decide) (fun h17_1 => ?_) (fun h17_1 => ?_)
  · exact absurd h17_1 (by first | omega | (simp [up2, *]; done) | (simp [up2, *]; omega) | (simp only [up2_eq]; omega) | (split <;> omega))
  · skip
    refine r_iconst (v := (nI 0)) C dX2_removeItem_20 (by decide) ?_
    exact r_iret C hr dX2_removeItem_21 ⟨rfl, rfl⟩ (Nat.le_of_ble_eq_true rfl) (Nat.le_of_ble_eq_true rfl)
theorem dX2_removeItem_22 : decode cX2_removeItem 22 = .ok (.aload_n 0, 1) := by decide +kernel
theorem dX2_removeItem_23 : decode cX2_removeItem 23 = .ok (.iload_n 1, 1) := by decide +kernel
theorem dX2_removeItem_24 : decode cX2_removeItem 24 = .ok (.iload_n 3, 1) := by decide +kernel
theorem dX2_removeItem_25 : decode cX2_removeItem 25 = .ok (.iload_n 3, 1) := by decide +kernel
theorem dX2_removeItem_26 : decode cX2_removeItem 26 = .ok (.iconst 1, 1) := by decide +kernel
theorem dX2_removeItem_27 : decode cX2_removeItem 27 = .ok (.iadd, 1) := by decide +kernel
theorem dX2_removeItem_28 : decode cX2_removeItem 28 = .ok (.iconst (-1), 1) := by decide +kernel
theorem dX2_removeItem_29 : decode cX2_removeItem 29 = .ok (.invokevirtual 72, 3) := by decide +kernel
theorem dX2_removeItem_32 : decode cX2_removeItem 32 = .ok (.iconst 1, 1) := by decide +kernel
theorem dX2_removeItem_33 : decode cX2_removeItem 33 = .ok (.ireturn, 1) := by decide +kernel
set_option maxRecDepth 100000 in
set_option maxHeartbeats 4000000 in
theorem C_removeItem_ok {l : Launch} {D : va_G} {cy : Nat → ClassId} {X : (Nat → Prop) → State → Heap → Prop} {a f : Nat → Nat → Nat} {r : Nat → Nat → Int32} {kn : Int32} {Y : va_W} {i : Nat} {y : Int32} (hX : EnvX X) (hC : CInv f) (hi4 : i < 4) (hz : fpF (fun q => r (f 0 i) (f 3 i + q)) y (f 4 i) 0 ≠ 4294967295) : Cd l D cy X yX2_removeItem cX2_removeItem 4 (some .int) (rmz 6 240) [.ref (a 0 0), .int (nI i), .int y] (WC cy a f r kn ++ Y) (some (.int (nI 1))) (WC cy a (settleF (exL (up2 f 4 8 0) i 0 (((fpF (fun q => r (f 0 i) (f 3 i + q)) (y) (f 4 i) 0) + 1) - (fpF (fun q => r (f 0 i) (f 3 i + q)) (y) (f 4 i) 0)) 8) i 4294967295) (exR (up2 f 4 8 0) r i (fpF (fun q => r (f 0 i) (f 3 i + q)) (y) (f 4 i) 0) ((fpF (fun q => r (f 0 i) (f 3 i + q)) (y) (f 4 i) 0) + 1) 0) kn ++ Y) := by
  have q3 := hC.sp
  have q1_i := hC.rw hi4
  have q2_i := hC.al (i := i) (by omega)
  have q6_i : f 4 (f 1 i) = f 4 i := by rw [q1_i.2.1]
  have q5 := fpF_or (fun q => r (f 0 i) (f 3 i + q)) y (f 4 i) 0
  refine Cm.of [some (.ref (a 0 0)), some (.int (nI i)), some (.int y), none] (by decide +kernel) rfl (Nat.le_of_ble_eq_true rfl) ?_
  intro p e s m args below meth c A C hE hr hnt hn
  refine r_iload_n C dX2_removeItem_0 rfl ?_
  refine d_Sv (st := []) hX.stb C hE (C_needRow_ok (f := f) (r := r) (kn := kn) (k := i) hX (by first | omega | (simp [up2, *]; done) | (simp [up2, *]; omega) | (simp only [up2_eq]; omega) | (split <;> omega))) pk_X2_needRow qm_X2_126 rfl rfl (Nat.le_of_ble_eq_true rfl) dX2_removeItem_1 ⟨Nat.le_of_ble_eq_true rfl, Nat.le_of_ble_eq_true rfl⟩ ⟨Nat.le_of_ble_eq_true rfl, Nat.le_of_ble_eq_true rfl⟩ ?_
  refine r_aload_n C dX2_removeItem_4 rfl ?_
  refine s_get C 0 (by decide) qf_X2_11 rfl rfl dX2_removeItem_5 ?_
  refine r_iload_n C dX2_removeItem_8 rfl ?_
  refine s_parts C (by first | omega | (simp [up2, *]; done) | (simp [up2, *]; omega) | (simp only [up2_eq]; omega) | (split <;> omega)) dX2_removeItem_9 ?_
  refine r_iload_n C dX2_removeItem_10 rfl ?_
  refine d_V (st := []) hX.stb C hE (C_firstPlaceOf (f := f) (r := r) (kn := kn) (i := i) (x := (y)) hX (by first | omega | (simp [up2, *]; done) | (simp [up2, *]; omega) | (simp only [up2_eq]; omega) | (split <;> omega)) (by first | omega | (simp [up2, *]; done) | (simp [up2, *]; omega) | (simp only [up2_eq]; omega) | (split <;> omega)) (by first | omega | (simp [up2, *]; done) | (simp [up2, *]; omega) | (simp only [up2_eq]; omega) | (split <;> omega))) pk_X1_firstPlaceOf qm_X2_129 (3 + i) 5 rfl rfl (wc_p (by first | omega | (simp [up2, *]; done) | (simp [up2, *]; omega) | (simp only [up2_eq]; omega) | (split <;> omega))) rfl rfl (Nat.le_of_ble_eq_true rfl) dX2_removeItem_11 ⟨Nat.le_of_ble_eq_true rfl, Nat.le_of_ble_eq_true rfl⟩ ⟨Nat.le_of_ble_eq_true rfl, Nat.le_of_ble_eq_true rfl⟩ ?_
  refine r_istore_n C dX2_removeItem_14 (by decide) rfl ?_
  refine r_iload_n C dX2_removeItem_15 rfl ?_
  refine r_iconst (v := (nI 4294967295)) C dX2_removeItem_16 (by decide) ?_
  refine r_icN_ne (a := (fpF (fun q => r (f 0 i) (f 3 i + q)) (y) (f 4 i) 0)) (b := 4294967295) (tgt := 22) C (by omega) (by first | omega | (simp [up2, *]; done) | (simp [up2, *]; omega) | (simp only [up2_eq]; omega) | (split <;> omega)) dX2_removeItem_17 (by decide) (fun h17_1 => ?_) (fun h17_1 => ?_)
  · skip
    refine r_aload_n C dX2_removeItem_22 rfl ?_
    refine r_iload_n C dX2_removeItem_23 rfl ?_
    refine r_iload_n C dX2_removeItem_24 rfl ?_
    refine r_iload_n C dX2_removeItem_25 rfl ?_
    refine r_iconst (v := (nI 1)) C dX2_removeItem_26 (by decide) ?_
    refine r_iaddN C dX2_removeItem_27 ?_
    refine r_iconst (v := (nI 4294967295)) C dX2_removeItem_28 (by decide) ?_
    refine d_Vv (st := []) hX.stb C hE (C_takeOut (f := f) (r := r) (kn := kn) (w := i) (p0 := (fpF (fun q => r (f 0 i) (f 3 i + q)) (y) (f 4 i) 0)) (q0 := ((fpF (fun q => r (f 0 i) (f 3 i + q)) (y) (f 4 i) 0) + 1)) (d0 := 4294967295) hX (by first | omega | (simp [up2, *]; done) | (simp [up2, *]; omega) | (simp only [up2_eq]; omega) | (split <;> omega)) hC.h1 hC.hG hC.hI hC.hI8 (by first | omega | (simp [up2, *]; done) | (simp [up2, *]; omega) | (simp only [up2_eq]; omega) | (split <;> omega)) (by first | omega | (simp [up2, *]; done) | (simp [up2, *]; omega) | (simp only [up2_eq]; omega) | (split <;> omega)) (by first | omega | (simp [up2, *]; done) | (simp [up2, *]; omega) | (simp only [up2_eq]; omega) | (split <;> omega)) (by first | omega | (simp [up2, *]; done) | (simp [up2, *]; omega) | (simp only [up2_eq]; omega) | (split <;> omega)) (fun z hz h => by have h6 := hC.ho12 (show i < 8 by omega) (show f 5 i = 1 by omega) z hz h; omega) (by first | omega | (simp [up2, *]; done) | (simp [up2, *]; omega) | (simp only [up2_eq]; omega) | (split <;> omega)) hC.hU) pk_X2_takeOut qm_X2_72 0 6 rfl rfl wc_0 rfl rfl (Nat.le_of_ble_eq_true rfl) dX2_removeItem_29 ⟨Nat.le_of_ble_eq_true rfl, Nat.le_of_ble_eq_true rfl⟩ ⟨Nat.le_of_ble_eq_true rfl, Nat.le_of_ble_eq_true rfl⟩ ?_
    refine r_iconst (v := (nI 1)) C dX2_removeItem_32 (by decide) ?_
    exact r_iret C hr dX2_removeItem_33 ⟨rfl, rfl⟩ (Nat.le_of_ble_eq_true rfl) (Nat.le_of_ble_eq_true rfl)
  · exact absurd h17_1 (by first | omega | (simp [up2, *]; done) | (simp [up2, *]; omega) | (simp only [up2_eq]; omega) | (split <;> omega))
