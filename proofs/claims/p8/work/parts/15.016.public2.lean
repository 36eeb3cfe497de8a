theorem dX2_howOften_0 : decode cX2_howOften 0 = .ok (.iload_n 1, 1) := by decide +kernel
theorem dX2_howOften_1 : decode cX2_howOften 1 = .ok (.invokestatic 126, 3) := by decide +kernel
set_option maxRecDepth 100000 in
set_option maxHeartbeats 4000000 in
theorem C_howOften_noR {l : Launch} {D : va_G} {cy : Nat → ClassId} {X : (Nat → Prop) → State → Heap → Prop} {a f : Nat → Nat → Nat} {r : Nat → Nat → Int32} {kn : Int32} {Y : va_W} {x : Int32} {y0 : Int32} (hX : EnvX X) (hl : l.stackTraces = false) (hC : CInv f) (hno : ¬ (0 ≤ x ∧ x < nI 4)) : Ce l D cy X yX2_howOften cX2_howOften 5 (some .int) (rmk 8 1 6 170) [.ref (a 0 0), .int x, .int y0] (WC cy a f r kn ++ Y) "java/lang/IndexOutOfBoundsException" := by
  have q3 := hC.sp
  refine Cm.of [some (.ref (a 0 0)), some (.int x), some (.int y0), none, none] (by decide +kernel) rfl (Nat.le_of_ble_eq_true rfl) ?_
  intro p e s m args below meth c A C hE hr hnt hn
  refine r_iload_n C dX2_howOften_0 rfl ?_
  refine c_S (st := []) hX.stb C hE (C_needRow_no (f := f) (r := r) (kn := kn) (x := (x)) hX hl hno) pk_X2_needRow qm_X2_126 rfl rfl (Nat.le_of_ble_eq_true rfl) dX2_howOften_1 ⟨Nat.le_of_ble_eq_true rfl, Nat.le_of_ble_eq_true rfl⟩ ⟨Nat.le_of_ble_eq_true rfl, Nat.le_of_ble_eq_true rfl⟩ (fun _ _ h9 => h9.elim) (fun E9 h9 => ?_)
  subst h9
  exact r_out C hnt rfl rfl (Nat.le_of_ble_eq_true rfl) (Nat.le_of_ble_eq_true rfl)
theorem dX2_howOften_4 : decode cX2_howOften 4 = .ok (.iconst 0, 1) := by decide +kernel
theorem dX2_howOften_5 : decode cX2_howOften 5 = .ok (.istore_n 3, 1) := by decide +kernel
theorem dX2_howOften_6 : decode cX2_howOften 6 = .ok (.iconst 0, 1) := by decide +kernel
theorem dX2_howOften_7 : decode cX2_howOften 7 = .ok (.istore 4, 2) := by decide +kernel
theorem dX2_howOften_9 : decode cX2_howOften 9 = .ok (.iload 4, 2) := by decide +kernel
theorem dX2_howOften_11 : decode cX2_howOften 11 = .ok (.aload_n 0, 1) := by decide +kernel
theorem dX2_howOften_12 : decode cX2_howOften 12 = .ok (.getfield 11, 3) := by decide +kernel
theorem dX2_howOften_15 : decode cX2_howOften 15 = .ok (.iload_n 1, 1) := by decide +kernel
theorem dX2_howOften_16 : decode cX2_howOften 16 = .ok (.aaload, 1) := by decide +kernel
theorem dX2_howOften_17 : decode cX2_howOften 17 = .ok (.getfield 50, 3) := by decide +kernel
theorem dX2_howOften_20 : decode cX2_howOften 20 = .ok (.if_icmp .ge 27, 3) := by decide +kernel
theorem dX2_howOften_23 : decode cX2_howOften 23 = .ok (.aload_n 0, 1) := by decide +kernel
theorem dX2_howOften_24 : decode cX2_howOften 24 = .ok (.getfield 11, 3) := by decide +kernel
theorem dX2_howOften_27 : decode cX2_howOften 27 = .ok (.iload_n 1, 1) := by decide +kernel
theorem dX2_howOften_28 : decode cX2_howOften 28 = .ok (.aaload, 1) := by decide +kernel
theorem dX2_howOften_29 : decode cX2_howOften 29 = .ok (.iload 4, 2) := by decide +kernel
theorem dX2_howOften_31 : decode cX2_howOften 31 = .ok (.invokevirtual 65, 3) := by decide +kernel
theorem dX2_howOften_34 : decode cX2_howOften 34 = .ok (.iload_n 2, 1) := by decide +kernel
theorem dX2_howOften_35 : decode cX2_howOften 35 = .ok (.if_icmp .ne 6, 3) := by decide +kernel
theorem dX2_howOften_38 : decode cX2_howOften 38 = .ok (.iinc 3 1, 3) := by decide +kernel
theorem dX2_howOften_41 : decode cX2_howOften 41 = .ok (.iinc 4 1, 3) := by decide +kernel
theorem dX2_howOften_44 : decode cX2_howOften 44 = .ok (.goto (-35), 3) := by decide +kernel
theorem dX2_howOften_47 : decode cX2_howOften 47 = .ok (.iload_n 3, 1) := by decide +kernel
