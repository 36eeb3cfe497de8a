theorem dX2_places_0 : decode cX2_places 0 = .ok (.iload_n 1, 1) := by decide +kernel
theorem dX2_places_1 : decode cX2_places 1 = .ok (.invokestatic 126, 3) := by decide +kernel
set_option maxRecDepth 100000 in
set_option maxHeartbeats 4000000 in
theorem C_places_noR {l : Launch} {D : va_G} {cy : Nat → ClassId} {X : (Nat → Prop) → State → Heap → Prop} {a f : Nat → Nat → Nat} {r : Nat → Nat → Int32} {kn : Int32} {Y : va_W} {x : Int32} {y0 : Int32} (hX : EnvX X) (hl : l.stackTraces = false) (hC : CInv f) (hno : ¬ (0 ≤ x ∧ x < nI 4)) : Ce l D cy X yX2_places cX2_places 4 (some .int) (rmk 8 1 6 170) [.ref (a 0 0), .int x, .int y0] (WC cy a f r kn ++ Y) "java/lang/IndexOutOfBoundsException" := by
  have q3 := hC.sp
  refine Cm.of [some (.ref (a 0 0)), some (.int x), some (.int y0), none] (by decide +kernel) rfl (Nat.le_of_ble_eq_true rfl) ?_
  intro p e s m args below meth c A C hE hr hnt hn
  refine r_iload_n C dX2_places_0 rfl ?_
  refine c_S (st := []) hX.stb C hE (C_needRow_no (f := f) (r := r) (kn := kn) (x := (x)) hX hl hno) pk_X2_needRow qm_X2_126 rfl rfl (Nat.le_of_ble_eq_true rfl) dX2_places_1 ⟨Nat.le_of_ble_eq_true rfl, Nat.le_of_ble_eq_true rfl⟩ ⟨Nat.le_of_ble_eq_true rfl, Nat.le_of_ble_eq_true rfl⟩ (fun _ _ h9 => h9.elim) (fun E9 h9 => ?_)
  subst h9
  exact r_out C hnt rfl rfl (Nat.le_of_ble_eq_true rfl) (Nat.le_of_ble_eq_true rfl)
theorem dX2_places_4 : decode cX2_places 4 = .ok (.iload_n 2, 1) := by decide +kernel
theorem dX2_places_5 : decode cX2_places 5 = .ok (.ifCond .lt 9, 3) := by decide +kernel
theorem dX2_places_8 : decode cX2_places 8 = .ok (.iload_n 2, 1) := by decide +kernel
theorem dX2_places_9 : decode cX2_places 9 = .ok (.bipush 12, 2) := by decide +kernel
theorem dX2_places_11 : decode cX2_places 11 = .ok (.if_icmp .le 13, 3) := by decide +kernel
theorem dX2_places_14 : decode cX2_places 14 = .ok (.new 90, 3) := by decide +kernel
theorem dX2_places_17 : decode cX2_places 17 = .ok (.dup, 1) := by decide +kernel
theorem dX2_places_18 : decode cX2_places 18 = .ok (.ldc 139, 2) := by decide +kernel
theorem dX2_places_20 : decode cX2_places 20 = .ok (.invokespecial 94, 3) := by decide +kernel
theorem dX2_places_23 : decode cX2_places 23 = .ok (.athrow, 1) := by decide +kernel
set_option maxRecDepth 100000 in
set_option maxHeartbeats 4000000 in
theorem C_places_noM {l : Launch} {D : va_G} {cy : Nat → ClassId} {X : (Nat → Prop) → State → Heap → Prop} {a f : Nat → Nat → Nat} {r : Nat → Nat → Int32} {kn : Int32} {Y : va_W} {i : Nat} {y : Int32} (hX : EnvX X) (hl : l.stackTraces = false) (hC : CInv f) (hi4 : i < 4) (hno : ¬ (0 ≤ y ∧ y ≤ nI 12)) : Ce l D cy X yX2_places cX2_places 4 (some .int) (rmk 8 1 6 170) [.ref (a 0 0), .int (nI i), .int y] (WC cy a f r kn ++ Y) "java/lang/IllegalArgumentException" := by
  have q3 := hC.sp
  have q1_i := hC.rw hi4
  have q2_i := hC.al (i := i) (by omega)
  have q6_i : f 4 (f 1 i) = f 4 i := by rw [q1_i.2.1]
  refine Cm.of [some (.ref (a 0 0)), some (.int (nI i)), some (.int y), none] (by decide +kernel) rfl (Nat.le_of_ble_eq_true rfl) ?_
  intro p e s m args below meth c A C hE hr hnt hn
  refine r_iload_n C dX2_places_0 rfl ?_
  refine d_Sv (st := []) hX.stb C hE (C_needRow_ok (f := f) (r := r) (kn := kn) (k := i) hX (by first | omega | (simp [up2, *]; done) | (simp [up2, *]; omega) | (simp only [up2_eq]; omega) | (split <;> omega))) pk_X2_needRow qm_X2_126 rfl rfl (Nat.le_of_ble_eq_true rfl) dX2_places_1 ⟨Nat.le_of_ble_eq_true rfl, Nat.le_of_ble_eq_true rfl⟩ ⟨Nat.le_of_ble_eq_true rfl, Nat.le_of_ble_eq_true rfl⟩ ?_
  refine r_iload_n C dX2_places_4 rfl ?_
  refine r_if_lt (tgt := 14) C dX2_places_5 (by decide) (fun h5_1 => ?_) (fun h5_1 => ?_)
  · first
    | exfalso; first | omega | contradiction
    | skip
      exact r_throw (cls := "java/lang/IllegalArgumentException") (text := "a row has 0 to 12 items") (names := ["java/lang/RuntimeException", "java/lang/Exception"]) hX hl C hE hnt thr_X2_90_94 (by decide +kernel) (by decide +kernel) (by decide +kernel) dX2_places_14 dX2_places_17 dX2_places_18 dX2_places_20 dX2_places_23 (by decide) (Nat.le_of_ble_eq_true rfl) (Nat.le_of_ble_eq_true rfl) (Nat.le_of_ble_eq_true rfl) rfl rfl (Nat.le_of_ble_eq_true rfl) (Nat.le_of_ble_eq_true rfl)
  · first
    | exfalso; first | omega | contradiction
    | skip
      refine r_iload_n C dX2_places_8 rfl ?_
      refine r_bipush (v := (nI 12)) C dX2_places_9 (by decide) ?_
      refine r_ic_le (tgt := 24) C dX2_places_11 (by decide) (fun h11_2 => ?_) (fun h11_2 => ?_)
      · exact absurd ⟨by first | assumption | exact Int32.not_lt.mp (by assumption), h11_2⟩ hno
      · skip
        exact r_throw (cls := "java/lang/IllegalArgumentException") (text := "a row has 0 to 12 items") (names := ["java/lang/RuntimeException", "java/lang/Exception"]) hX hl C hE hnt thr_X2_90_94 (by decide +kernel) (by decide +kernel) (by decide +kernel) dX2_places_14 dX2_places_17 dX2_places_18 dX2_places_20 dX2_places_23 (by decide) (Nat.le_of_ble_eq_true rfl) (Nat.le_of_ble_eq_true rfl) (Nat.le_of_ble_eq_true rfl) rfl rfl (Nat.le_of_ble_eq_true rfl) (Nat.le_of_ble_eq_true rfl)
theorem dX2_places_24 : decode cX2_places 24 = .ok (.aload_n 0, 1) := by decide +kernel
theorem dX2_places_25 : decode cX2_places 25 = .ok (.getfield 29, 3) := by decide +kernel
theorem dX2_places_28 : decode cX2_places 28 = .ok (.iconst 0, 1) := by decide +kernel
theorem dX2_places_29 : decode cX2_places 29 = .ok (.putfield 50, 3) := by decide +kernel
theorem dX2_places_32 : decode cX2_places 32 = .ok (.iconst 0, 1) := by decide +kernel
theorem dX2_places_33 : decode cX2_places 33 = .ok (.istore_n 3, 1) := by decide +kernel
