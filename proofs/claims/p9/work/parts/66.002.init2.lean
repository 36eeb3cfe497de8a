theorem C_PartInit {l : Launch} {D : va_G} {cy : Nat → ClassId} {X : (Nat → Prop) → State → Heap → Prop} {w : va_W} {q0 b it th : Nat} {x : Int32} (he : w[q0]? = some (b, .inr (5, [.null, .int (nI 0), .int (nI 0), .int (nI 0), .int (nI 0), .int (nI 0)]))) (hth : th ≤ 1) : Cd l D cy X yX1_init cX1_init 4 none (rmz 1 40) [.ref b, .int x, .ref it, .int (nI th)] w none (w.set q0 (b, .inr (5, [.ref it, .int x, .int (nI 4294967295), .int (nI 0), .int (nI 0), .int (nI th)]))) := by
  refine Cm.of [some (.ref b), some (.int x), some (.ref it), some (.int (nI th))] (by decide +kernel) rfl (Nat.le_of_ble_eq_true rfl) ?_
  intro p e s m args below meth c A C hE hr hnt hn
  refine r_aload_n C dX1_init_0 rfl ?_
  refine r_objI C qm_X1_3 dX1_init_1 (Nat.le_of_ble_eq_true rfl) (Nat.le_of_ble_eq_true rfl) ?_
  refine r_aload_n C dX1_init_4 rfl ?_
  refine r_iload_n C dX1_init_5 rfl ?_
  refine g_put C qu_X1 tyX1 tyX1_ok nmX1 (ci := 5) rfl q0 he 1 (by decide) qf_X1_9 rfl rfl (ty := .int) rfl rfl rfl (show 1 < 6 by omega) dX1_init_6 rfl ?_
  have he_1 := gp_he (y := (b, .inr (5, [.null, .int x, .int (nI 0), .int (nI 0), .int (nI 0), .int (nI 0)]))) he
  refine r_aload_n C dX1_init_9 rfl ?_
  refine r_aload_n C dX1_init_10 rfl ?_
  refine g_put C qu_X1 tyX1 tyX1_ok nmX1 (ci := 5) rfl q0 he_1 0 (by decide) qf_X1_15 rfl rfl (ty := .array .int) rfl rfl rfl (show 0 < 6 by omega) dX1_init_11 rfl ?_
  have he_2 := gp_he (y := (b, .inr (5, [.ref it, .int x, .int (nI 0), .int (nI 0), .int (nI 0), .int (nI 0)]))) he_1
  refine r_aload_n C dX1_init_14 rfl ?_
  refine r_iload_n C dX1_init_15 rfl ?_
  refine g_put C qu_X1 tyX1 tyX1_ok nmX1 (ci := 5) rfl q0 he_2 5 (by decide) qf_X1_19 rfl rfl (ty := .boolean) rfl (by rcases (show th = 0 ∨ th = 1 by omega) with rfl | rfl <;> rfl) (by rcases (show th = 0 ∨ th = 1 by omega) with rfl | rfl <;> rfl) (show 5 < 6 by omega) dX1_init_16 rfl ?_
  have he_3 := gp_he (y := (b, .inr (5, [.ref it, .int x, .int (nI 0), .int (nI 0), .int (nI 0), .int (nI th)]))) he_2
  refine r_aload_n C dX1_init_19 rfl ?_
  refine r_iconst (v := nI 4294967295) C dX1_init_20 (by decide) ?_
  refine g_put C qu_X1 tyX1 tyX1_ok nmX1 (ci := 5) rfl q0 he_3 2 (by decide) qf_X1_23 rfl rfl (ty := .int) rfl rfl rfl (show 2 < 6 by omega) dX1_init_21 rfl ?_
  have he_4 := gp_he (y := (b, .inr (5, [.ref it, .int x, .int (nI 4294967295), .int (nI 0), .int (nI 0), .int (nI th)]))) he_3
  exact r_vret C hr dX1_init_24 ⟨rfl, by simp only [List.set_set]; rfl⟩ (Nat.le_of_ble_eq_true rfl) (Nat.le_of_ble_eq_true rfl)
theorem dX3_init_0 : decode cX3_init 0 = .ok (.aload_n 0, 1) := by decide +kernel
theorem dX3_init_1 : decode cX3_init 1 = .ok (.invokespecial 1, 3) := by decide +kernel
theorem dX3_init_4 : decode cX3_init 4 = .ok (.return_, 1) := by decide +kernel
