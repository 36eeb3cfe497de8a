/-! CONSTRUCTORS -/
theorem dX0_init_0 : decode cX0_init 0 = .ok (.aload_n 0, 1) := by decide +kernel
theorem dX0_init_1 : decode cX0_init 1 = .ok (.invokespecial 3, 3) := by decide +kernel
theorem dX0_init_4 : decode cX0_init 4 = .ok (.aload_n 0, 1) := by decide +kernel
theorem dX0_init_5 : decode cX0_init 5 = .ok (.iconst (-1), 1) := by decide +kernel
theorem dX0_init_6 : decode cX0_init 6 = .ok (.putfield 9, 3) := by decide +kernel
theorem dX0_init_9 : decode cX0_init 9 = .ok (.return_, 1) := by decide +kernel
theorem C_CurInit {l : Launch} {D : va_G} {cy : Nat → ClassId} {X : (Nat → Prop) → State → Heap → Prop} {w : va_W} {q0 b : Nat} (he : w[q0]? = some (b, .inr (4, [.int (nI 0), .int (nI 0), .int (nI 0), .int (nI 0)])))  : Cd l D cy X yX0_init cX0_init 1 none (rmz 1 40) [.ref b] w none (w.set q0 (b, .inr (4, [.int (nI 0), .int (nI 0), .int (nI 4294967295), .int (nI 0)]))) := by
  refine Cm.of [some (.ref b)] (by decide +kernel) rfl (Nat.le_of_ble_eq_true rfl) ?_
  intro p e s m args below meth c A C hE hr hnt hn
  refine r_aload_n C dX0_init_0 rfl ?_
  refine r_objI C qm_X0_3 dX0_init_1 (Nat.le_of_ble_eq_true rfl) (Nat.le_of_ble_eq_true rfl) ?_
  refine r_aload_n C dX0_init_4 rfl ?_
  refine r_iconst (v := nI 4294967295) C dX0_init_5 (by decide) ?_
  refine g_put C qu_X0 tyX0 tyX0_ok nmX0 (ci := 4) rfl q0 he 2 (by decide) qf_X0_9 rfl rfl (ty := .int) rfl rfl rfl (show 2 < 4 by omega) dX0_init_6 rfl ?_
  have he_1 := gp_he (y := (b, .inr (4, [.int (nI 0), .int (nI 0), .int (nI 4294967295), .int (nI 0)]))) he
  exact r_vret C hr dX0_init_9 ⟨rfl, rfl⟩ (Nat.le_of_ble_eq_true rfl) (Nat.le_of_ble_eq_true rfl)
theorem dX1_init_0 : decode cX1_init 0 = .ok (.aload_n 0, 1) := by decide +kernel
theorem dX1_init_1 : decode cX1_init 1 = .ok (.invokespecial 3, 3) := by decide +kernel
