set_option maxRecDepth 100000 in
set_option maxHeartbeats 4000000 in
theorem C_needItem_ok {l : Launch} {D : va_G} {cy : Nat → ClassId} {X : (Nat → Prop) → State → Heap → Prop} {a f : Nat → Nat → Nat} {r : Nat → Nat → Int32} {kn : Int32} {Y : va_W} {x : Int32} (hX : EnvX X) (ho : okI x) : Cd l D cy X yX2_needItem cX2_needItem 1 none (rmz 1 30) [.int x] (WC cy a f r kn ++ Y) none (WC cy a f r kn ++ Y) := by
  refine Cm.of [some (.int x)] (by decide +kernel) rfl (Nat.le_of_ble_eq_true rfl) ?_
  intro p e s m args below meth c A C hE hr hnt hn
  refine r_iload_n C dX2_needItem_0 rfl ?_
  refine r_bipush (v := (nI 4294967197)) C dX2_needItem_1 (by decide) ?_
  refine r_ic_lt (tgt := 12) C dX2_needItem_3 (by decide) (fun h3_1 => ?_) (fun h3_1 => ?_)
  · exact absurd h3_1 ho.1
  · skip
    refine r_iload_n C dX2_needItem_6 rfl ?_
    refine r_bipush (v := (nI 99)) C dX2_needItem_7 (by decide) ?_
    refine r_ic_le (tgt := 23) C dX2_needItem_9 (by decide) (fun h9_2 => ?_) (fun h9_2 => ?_)
    · skip
      exact r_vret C hr dX2_needItem_23 ⟨rfl, rfl⟩ (Nat.le_of_ble_eq_true rfl) (Nat.le_of_ble_eq_true rfl)
    · exact absurd (Int32.not_le.mp h9_2) ho.2
theorem dX2_needItem_12 : decode cX2_needItem 12 = .ok (.new 90, 3) := by decide +kernel
theorem dX2_needItem_15 : decode cX2_needItem 15 = .ok (.dup, 1) := by decide +kernel
theorem dX2_needItem_16 : decode cX2_needItem 16 = .ok (.ldc_w 284, 3) := by decide +kernel
theorem dX2_needItem_19 : decode cX2_needItem 19 = .ok (.invokespecial 94, 3) := by decide +kernel
theorem dX2_needItem_22 : decode cX2_needItem 22 = .ok (.athrow, 1) := by decide +kernel
set_option maxRecDepth 100000 in
set_option maxHeartbeats 4000000 in
theorem C_needItem_no {l : Launch} {D : va_G} {cy : Nat → ClassId} {X : (Nat → Prop) → State → Heap → Prop} {a f : Nat → Nat → Nat} {r : Nat → Nat → Int32} {kn : Int32} {Y : va_W} {x : Int32} (hX : EnvX X) (hl : l.stackTraces = false) (ho : ¬ okI x) : Ce l D cy X yX2_needItem cX2_needItem 1 none (rmk 6 1 6 100) [.int x] (WC cy a f r kn ++ Y) "java/lang/IllegalArgumentException" := by
  refine Cm.of [some (.int x)] (by decide +kernel) rfl (Nat.le_of_ble_eq_true rfl) ?_
  intro p e s m args below meth c A C hE hr hnt hn
  refine r_iload_n C dX2_needItem_0 rfl ?_
  refine r_bipush (v := (nI 4294967197)) C dX2_needItem_1 (by decide) ?_
  refine r_ic_lt (tgt := 12) C dX2_needItem_3 (by decide) (fun h3_1 => ?_) (fun h3_1 => ?_)
  · first
    | exfalso; first | omega | contradiction
    | skip
      exact r_throwW (cls := "java/lang/IllegalArgumentException") (text := "an item is from -99 to 99") (names := ["java/lang/RuntimeException", "java/lang/Exception"]) hX hl C hE hnt thr_X2_90_94 (by decide +kernel) (by decide +kernel) (by decide +kernel) dX2_needItem_12 dX2_needItem_15 dX2_needItem_16 dX2_needItem_19 dX2_needItem_22 (by decide) (Nat.le_of_ble_eq_true rfl) (Nat.le_of_ble_eq_true rfl) (Nat.le_of_ble_eq_true rfl) rfl rfl (Nat.le_of_ble_eq_true rfl) (Nat.le_of_ble_eq_true rfl)
  · first
    | exfalso; first | omega | contradiction
    | skip
      refine r_iload_n C dX2_needItem_6 rfl ?_
      refine r_bipush (v := (nI 99)) C dX2_needItem_7 (by decide) ?_
      refine r_ic_le (tgt := 23) C dX2_needItem_9 (by decide) (fun h9_2 => ?_) (fun h9_2 => ?_)
      · exact absurd ⟨by assumption, Int32.not_lt.mpr h9_2⟩ ho
      · skip
        exact r_throwW (cls := "java/lang/IllegalArgumentException") (text := "an item is from -99 to 99") (names := ["java/lang/RuntimeException", "java/lang/Exception"]) hX hl C hE hnt thr_X2_90_94 (by decide +kernel) (by decide +kernel) (by decide +kernel) dX2_needItem_12 dX2_needItem_15 dX2_needItem_16 dX2_needItem_19 dX2_needItem_22 (by decide) (Nat.le_of_ble_eq_true rfl) (Nat.le_of_ble_eq_true rfl) (Nat.le_of_ble_eq_true rfl) rfl rfl (Nat.le_of_ble_eq_true rfl) (Nat.le_of_ble_eq_true rfl)
