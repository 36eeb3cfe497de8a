theorem dX2_removeItem_0 : decode cX2_removeItem 0 = .ok (.iload_n 1, 1) := by decide +kernel
theorem dX2_removeItem_1 : decode cX2_removeItem 1 = .ok (.invokestatic 126, 3) := by decide +kernel
set_option maxRecDepth 100000 in
set_option maxHeartbeats 4000000 in
theorem C_removeItem_noR {l : Launch} {D : va_G} {cy : Nat → ClassId} {X : (Nat → Prop) → State → Heap → Prop} {a f : Nat → Nat → Nat} {r : Nat → Nat → Int32} {kn : Int32} {Y : va_W} {x : Int32} {y0 : Int32} (hX : EnvX X) (hl : l.stackTraces = false) (hC : CInv f) (hno : ¬ (0 ≤ x ∧ x < nI 4)) : Ce l D cy X yX2_removeItem cX2_removeItem 4 (some .int) (rmk 8 1 6 170) [.ref (a 0 0), .int x, .int y0] (WC cy a f r kn ++ Y) "java/lang/IndexOutOfBoundsException" := by
  have q3 := hC.sp
  refine Cm.of [some (.ref (a 0 0)), some (.int x), some (.int y0), none] (by decide +kernel) rfl (Nat.le_of_ble_eq_true rfl) ?_
  intro p e s m args below meth c A C hE hr hnt hn
  refine r_iload_n C dX2_removeItem_0 rfl ?_
  refine c_S (st := []) hX.stb C hE (C_needRow_no (f := f) (r := r) (kn := kn) (x := (x)) hX hl hno) pk_X2_needRow qm_X2_126 rfl rfl (Nat.le_of_ble_eq_true rfl) dX2_removeItem_1 ⟨Nat.le_of_ble_eq_true rfl, Nat.le_of_ble_eq_true rfl⟩ ⟨Nat.le_of_ble_eq_true rfl, Nat.le_of_ble_eq_true rfl⟩ (fun _ _ h9 => h9.elim) (fun E9 h9 => ?_)
  subst h9
  exact r_out C hnt rfl rfl (Nat.le_of_ble_eq_true rfl) (Nat.le_of_ble_eq_true rfl)
theorem dX2_removeItem_4 : decode cX2_removeItem 4 = .ok (.aload_n 0, 1) := by decide +kernel
theorem dX2_removeItem_5 : decode cX2_removeItem 5 = .ok (.getfield 11, 3) := by decide +kernel
theorem dX2_removeItem_8 : decode cX2_removeItem 8 = .ok (.iload_n 1, 1) := by decide +kernel
theorem dX2_removeItem_9 : decode cX2_removeItem 9 = .ok (.aaload, 1) := by decide +kernel
theorem dX2_removeItem_10 : decode cX2_removeItem 10 = .ok (.iload_n 2, 1) := by decide +kernel
theorem dX2_removeItem_11 : decode cX2_removeItem 11 = .ok (.invokevirtual 129, 3) := by decide +kernel
theorem dX2_removeItem_14 : decode cX2_removeItem 14 = .ok (.istore_n 3, 1) := by decide +kernel
theorem dX2_removeItem_15 : decode cX2_removeItem 15 = .ok (.iload_n 3, 1) := by decide +kernel
