set_option maxRecDepth 100000 in
set_option maxHeartbeats 4000000 in
theorem C_areSame_noR {l : Launch} {D : va_G} {cy : Nat → ClassId} {X : (Nat → Prop) → State → Heap → Prop} {a f : Nat → Nat → Nat} {r : Nat → Nat → Int32} {kn : Int32} {Y : va_W} {x : Int32} {y0 : Int32} (hX : EnvX X) (hl : l.stackTraces = false) (hC : CInv f) (hno : ¬ (0 ≤ x ∧ x < nI 4)) : Ce l D cy X yX2_areSame cX2_areSame 3 (some .boolean) (rmk 8 1 6 170) [.ref (a 0 0), .int x, .int y0] (WC cy a f r kn ++ Y) "java/lang/IndexOutOfBoundsException" := by
  have q3 := hC.sp
  refine Cm.of [some (.ref (a 0 0)), some (.int x), some (.int y0)] (by decide +kernel) rfl (Nat.le_of_ble_eq_true rfl) ?_
  intro p e s m args below meth c A C hE hr hnt hn
  refine r_iload_n C dX2_areSame_0 rfl ?_
  refine c_S (st := []) hX.stb C hE (C_needRow_no (f := f) (r := r) (kn := kn) (x := (x)) hX hl hno) pk_X2_needRow qm_X2_126 rfl rfl (Nat.le_of_ble_eq_true rfl) dX2_areSame_1 ⟨Nat.le_of_ble_eq_true rfl, Nat.le_of_ble_eq_true rfl⟩ ⟨Nat.le_of_ble_eq_true rfl, Nat.le_of_ble_eq_true rfl⟩ (fun _ _ h9 => h9.elim) (fun E9 h9 => ?_)
  subst h9
  exact r_out C hnt rfl rfl (Nat.le_of_ble_eq_true rfl) (Nat.le_of_ble_eq_true rfl)
theorem dX2_areApart_4 : decode cX2_areApart 4 = .ok (.iload_n 2, 1) := by decide +kernel
theorem dX2_areApart_5 : decode cX2_areApart 5 = .ok (.invokestatic 126, 3) := by decide +kernel
set_option maxRecDepth 100000 in
set_option maxHeartbeats 4000000 in
theorem C_areApart_noR2 {l : Launch} {D : va_G} {cy : Nat → ClassId} {X : (Nat → Prop) → State → Heap → Prop} {a f : Nat → Nat → Nat} {r : Nat → Nat → Int32} {kn : Int32} {Y : va_W} {i : Nat} {x : Int32} (hX : EnvX X) (hl : l.stackTraces = false) (hC : CInv f) (hi4 : i < 4) (hno : ¬ (0 ≤ x ∧ x < nI 4)) : Ce l D cy X yX2_areApart cX2_areApart 4 (some .boolean) (rmk 8 1 6 170) [.ref (a 0 0), .int (nI i), .int x] (WC cy a f r kn ++ Y) "java/lang/IndexOutOfBoundsException" := by
  have q3 := hC.sp
  have q1_i := hC.rw hi4
  have q2_i := hC.al (i := i) (by omega)
  have q6_i : f 4 (f 1 i) = f 4 i := by rw [q1_i.2.1]
  refine Cm.of [some (.ref (a 0 0)), some (.int (nI i)), some (.int x), none] (by decide +kernel) rfl (Nat.le_of_ble_eq_true rfl) ?_
  intro p e s m args below meth c A C hE hr hnt hn
  refine r_iload_n C dX2_areApart_0 rfl ?_
  refine d_Sv (st := []) hX.stb C hE (C_needRow_ok (f := f) (r := r) (kn := kn) (k := i) hX (by first | omega | (simp [up2, *]; done) | (simp [up2, *]; omega) | (simp only [up2_eq]; omega) | (split <;> omega))) pk_X2_needRow qm_X2_126 rfl rfl (Nat.le_of_ble_eq_true rfl) dX2_areApart_1 ⟨Nat.le_of_ble_eq_true rfl, Nat.le_of_ble_eq_true rfl⟩ ⟨Nat.le_of_ble_eq_true rfl, Nat.le_of_ble_eq_true rfl⟩ ?_
  refine r_iload_n C dX2_areApart_4 rfl ?_
  refine c_S (st := []) hX.stb C hE (C_needRow_no (f := f) (r := r) (kn := kn) (x := (x)) hX hl hno) pk_X2_needRow qm_X2_126 rfl rfl (Nat.le_of_ble_eq_true rfl) dX2_areApart_5 ⟨Nat.le_of_ble_eq_true rfl, Nat.le_of_ble_eq_true rfl⟩ ⟨Nat.le_of_ble_eq_true rfl, Nat.le_of_ble_eq_true rfl⟩ (fun _ _ h9 => h9.elim) (fun E9 h9 => ?_)
  subst h9
  exact r_out C hnt rfl rfl (Nat.le_of_ble_eq_true rfl) (Nat.le_of_ble_eq_true rfl)
theorem dX2_areSame_4 : decode cX2_areSame 4 = .ok (.iload_n 2, 1) := by decide +kernel
theorem dX2_areSame_5 : decode cX2_areSame 5 = .ok (.invokestatic 126, 3) := by decide +kernel
set_option maxRecDepth 100000 in
set_option maxHeartbeats 4000000 in
theorem C_areSame_noR2 {l : Launch} {D : va_G} {cy : Nat → ClassId} {X : (Nat → Prop) → State → Heap → Prop} {a f : Nat → Nat → Nat} {r : Nat → Nat → Int32} {kn : Int32} {Y : va_W} {i : Nat} {x : Int32} (hX : EnvX X) (hl : l.stackTraces = false) (hC : CInv f) (hi4 : i < 4) (hno : ¬ (0 ≤ x ∧ x < nI 4)) : Ce l D cy X yX2_areSame cX2_areSame 3 (some .boolean) (rmk 8 1 6 170) [.ref (a 0 0), .int (nI i), .int x] (WC cy a f r kn ++ Y) "java/lang/IndexOutOfBoundsException" := by
  have q3 := hC.sp
  have q1_i := hC.rw hi4
  have q2_i := hC.al (i := i) (by omega)
  have q6_i : f 4 (f 1 i) = f 4 i := by rw [q1_i.2.1]
  refine Cm.of [some (.ref (a 0 0)), some (.int (nI i)), some (.int x)] (by decide +kernel) rfl (Nat.le_of_ble_eq_true rfl) ?_
  intro p e s m args below meth c A C hE hr hnt hn
  refine r_iload_n C dX2_areSame_0 rfl ?_
  refine d_Sv (st := []) hX.stb C hE (C_needRow_ok (f := f) (r := r) (kn := kn) (k := i) hX (by first | omega | (simp [up2, *]; done) | (simp [up2, *]; omega) | (simp only [up2_eq]; omega) | (split <;> omega))) pk_X2_needRow qm_X2_126 rfl rfl (Nat.le_of_ble_eq_true rfl) dX2_areSame_1 ⟨Nat.le_of_ble_eq_true rfl, Nat.le_of_ble_eq_true rfl⟩ ⟨Nat.le_of_ble_eq_true rfl, Nat.le_of_ble_eq_true rfl⟩ ?_
  refine r_iload_n C dX2_areSame_4 rfl ?_
  refine c_S (st := []) hX.stb C hE (C_needRow_no (f := f) (r := r) (kn := kn) (x := (x)) hX hl hno) pk_X2_needRow qm_X2_126 rfl rfl (Nat.le_of_ble_eq_true rfl) dX2_areSame_5 ⟨Nat.le_of_ble_eq_true rfl, Nat.le_of_ble_eq_true rfl⟩ ⟨Nat.le_of_ble_eq_true rfl, Nat.le_of_ble_eq_true rfl⟩ (fun _ _ h9 => h9.elim) (fun E9 h9 => ?_)
  subst h9
  exact r_out C hnt rfl rfl (Nat.le_of_ble_eq_true rfl) (Nat.le_of_ble_eq_true rfl)
theorem dX2_areApart_8 : decode cX2_areApart 8 = .ok (.iconst 0, 1) := by decide +kernel
theorem dX2_areApart_9 : decode cX2_areApart 9 = .ok (.istore_n 3, 1) := by decide +kernel
theorem dX2_areApart_10 : decode cX2_areApart 10 = .ok (.iload_n 3, 1) := by decide +kernel
theorem dX2_areApart_11 : decode cX2_areApart 11 = .ok (.aload_n 0, 1) := by decide +kernel
theorem dX2_areApart_12 : decode cX2_areApart 12 = .ok (.getfield 11, 3) := by decide +kernel
theorem dX2_areApart_15 : decode cX2_areApart 15 = .ok (.iload_n 1, 1) := by decide +kernel
theorem dX2_areApart_16 : decode cX2_areApart 16 = .ok (.aaload, 1) := by decide +kernel
theorem dX2_areApart_17 : decode cX2_areApart 17 = .ok (.getfield 50, 3) := by decide +kernel
theorem dX2_areApart_20 : decode cX2_areApart 20 = .ok (.if_icmp .ge 33, 3) := by decide +kernel
theorem dX2_areApart_23 : decode cX2_areApart 23 = .ok (.aload_n 0, 1) := by decide +kernel
theorem dX2_areApart_24 : decode cX2_areApart 24 = .ok (.getfield 11, 3) := by decide +kernel
theorem dX2_areApart_27 : decode cX2_areApart 27 = .ok (.iload_n 2, 1) := by decide +kernel
theorem dX2_areApart_28 : decode cX2_areApart 28 = .ok (.aaload, 1) := by decide +kernel
theorem dX2_areApart_29 : decode cX2_areApart 29 = .ok (.aload_n 0, 1) := by decide +kernel
theorem dX2_areApart_30 : decode cX2_areApart 30 = .ok (.getfield 11, 3) := by decide +kernel
theorem dX2_areApart_33 : decode cX2_areApart 33 = .ok (.iload_n 1, 1) := by decide +kernel
