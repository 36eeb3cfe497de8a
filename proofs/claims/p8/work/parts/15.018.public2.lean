theorem dX2_least_4 : decode cX2_least 4 = .ok (.aload_n 0, 1) := by decide +kernel
theorem dX2_least_5 : decode cX2_least 5 = .ok (.getfield 11, 3) := by decide +kernel
theorem dX2_least_8 : decode cX2_least 8 = .ok (.iload_n 1, 1) := by decide +kernel
theorem dX2_least_9 : decode cX2_least 9 = .ok (.aaload, 1) := by decide +kernel
theorem dX2_least_10 : decode cX2_least 10 = .ok (.getfield 50, 3) := by decide +kernel
theorem dX2_least_13 : decode cX2_least 13 = .ok (.ifCond .ne 13, 3) := by decide +kernel
theorem dX2_least_16 : decode cX2_least 16 = .ok (.new 147, 3) := by decide +kernel
theorem dX2_least_19 : decode cX2_least 19 = .ok (.dup, 1) := by decide +kernel
theorem dX2_least_20 : decode cX2_least 20 = .ok (.ldc 149, 2) := by decide +kernel
theorem dX2_least_22 : decode cX2_least 22 = .ok (.invokespecial 151, 3) := by decide +kernel
theorem dX2_least_25 : decode cX2_least 25 = .ok (.athrow, 1) := by decide +kernel
set_option maxRecDepth 100000 in
set_option maxHeartbeats 4000000 in
theorem C_least_0 {l : Launch} {D : va_G} {cy : Nat → ClassId} {X : (Nat → Prop) → State → Heap → Prop} {a f : Nat → Nat → Nat} {r : Nat → Nat → Int32} {kn : Int32} {Y : va_W} {i : Nat} {b0 : Nat} (hX : EnvX X) (hl : l.stackTraces = false) (hC : CInv f) (hi4 : i < 4) (hz : f 4 i = 0) : Ce l D cy X yX2_least cX2_least 6 (some .int) (rmk 8 1 6 170) [.ref (a 0 0), .int (nI i), .int (nI b0)] (WC cy a f r kn ++ Y) "java/lang/IllegalStateException" := by
  have q3 := hC.sp
  have q1_i := hC.rw hi4
  have q2_i := hC.al (i := i) (by omega)
  have q6_i : f 4 (f 1 i) = f 4 i := by rw [q1_i.2.1]
  refine Cm.of [some (.ref (a 0 0)), some (.int (nI i)), some (.int (nI b0)), none, none, none] (by decide +kernel) rfl (Nat.le_of_ble_eq_true rfl) ?_
  intro p e s m args below meth c A C hE hr hnt hn
  refine r_iload_n C dX2_least_0 rfl ?_
  refine d_Sv (st := []) hX.stb C hE (C_needRow_ok (f := f) (r := r) (kn := kn) (k := i) hX (by first | omega | (simp [up2, *]; done) | (simp [up2, *]; omega) | (simp only [up2_eq]; omega) | (split <;> omega))) pk_X2_needRow qm_X2_126 rfl rfl (Nat.le_of_ble_eq_true rfl) dX2_least_1 ⟨Nat.le_of_ble_eq_true rfl, Nat.le_of_ble_eq_true rfl⟩ ⟨Nat.le_of_ble_eq_true rfl, Nat.le_of_ble_eq_true rfl⟩ ?_
  refine r_aload_n C dX2_least_4 rfl ?_
  refine s_get C 0 (by decide) qf_X2_11 rfl rfl dX2_least_5 ?_
  refine r_iload_n C dX2_least_8 rfl ?_
  refine s_parts C (by first | omega | (simp [up2, *]; done) | (simp [up2, *]; omega) | (simp only [up2_eq]; omega) | (split <;> omega)) dX2_least_9 ?_
  refine p_getN (v := .int (nI (f 4 i))) hX C hE 4 (by first | omega | (simp [up2, *]; done) | (simp [up2, *]; omega) | (simp only [up2_eq]; omega) | (split <;> omega)) (by decide) qn_X2_50 rfl rfl dX2_least_10 ?_
  refine r_ifN_ne (a := (f 4 i)) (tgt := 26) C (by first | omega | (simp [up2, *]; done) | (simp [up2, *]; omega) | (simp only [up2_eq]; omega) | (split <;> omega)) dX2_least_13 (by decide) (fun h13_1 => ?_) (fun h13_1 => ?_)
  · exact absurd h13_1 (by first | omega | (simp [up2, *]; done) | (simp [up2, *]; omega) | (simp only [up2_eq]; omega) | (split <;> omega))
  · skip
    exact r_throw (cls := "java/lang/IllegalStateException") (text := "the row has no items") (names := ["java/lang/RuntimeException", "java/lang/Exception"]) hX hl C hE hnt thr_X2_147_151 (by decide +kernel) (by decide +kernel) (by decide +kernel) dX2_least_16 dX2_least_19 dX2_least_20 dX2_least_22 dX2_least_25 (by decide) (Nat.le_of_ble_eq_true rfl) (Nat.le_of_ble_eq_true rfl) (Nat.le_of_ble_eq_true rfl) rfl rfl (Nat.le_of_ble_eq_true rfl) (Nat.le_of_ble_eq_true rfl)
theorem dX2_least_26 : decode cX2_least 26 = .ok (.aload_n 0, 1) := by decide +kernel
theorem dX2_least_27 : decode cX2_least 27 = .ok (.getfield 11, 3) := by decide +kernel
theorem dX2_least_30 : decode cX2_least 30 = .ok (.iload_n 1, 1) := by decide +kernel
theorem dX2_least_31 : decode cX2_least 31 = .ok (.aaload, 1) := by decide +kernel
theorem dX2_least_32 : decode cX2_least 32 = .ok (.iconst 0, 1) := by decide +kernel
theorem dX2_least_33 : decode cX2_least 33 = .ok (.invokevirtual 65, 3) := by decide +kernel
theorem dX2_least_36 : decode cX2_least 36 = .ok (.istore_n 3, 1) := by decide +kernel
theorem dX2_least_37 : decode cX2_least 37 = .ok (.iconst 1, 1) := by decide +kernel
theorem dX2_least_38 : decode cX2_least 38 = .ok (.istore 4, 2) := by decide +kernel
theorem dX2_least_40 : decode cX2_least 40 = .ok (.iload 4, 2) := by decide +kernel
theorem dX2_least_42 : decode cX2_least 42 = .ok (.aload_n 0, 1) := by decide +kernel
theorem dX2_least_43 : decode cX2_least 43 = .ok (.getfield 11, 3) := by decide +kernel
theorem dX2_least_46 : decode cX2_least 46 = .ok (.iload_n 1, 1) := by decide +kernel
theorem dX2_least_47 : decode cX2_least 47 = .ok (.aaload, 1) := by decide +kernel
theorem dX2_least_48 : decode cX2_least 48 = .ok (.getfield 50, 3) := by decide +kernel
theorem dX2_least_51 : decode cX2_least 51 = .ok (.if_icmp .ge 42, 3) := by decide +kernel
theorem dX2_least_54 : decode cX2_least 54 = .ok (.aload_n 0, 1) := by decide +kernel
