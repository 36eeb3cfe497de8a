theorem C_OutInit {l : Launch} {D : va_G} {cy : Nat → ClassId} {X : (Nat → Prop) → State → Heap → Prop} {w : va_W} {b : Nat}   : Cd l D cy X yX3_init cX3_init 1 none (rmz 1 40) [.ref b] w none (w) := by
  refine Cm.of [some (.ref b)] (by decide +kernel) rfl (Nat.le_of_ble_eq_true rfl) ?_
  intro p e s m args below meth c A C hE hr hnt hn
  refine r_aload_n C dX3_init_0 rfl ?_
  refine r_objI C qm_X3_1 dX3_init_1 (Nat.le_of_ble_eq_true rfl) (Nat.le_of_ble_eq_true rfl) ?_
  exact r_vret C hr dX3_init_4 ⟨rfl, rfl⟩ (Nat.le_of_ble_eq_true rfl) (Nat.le_of_ble_eq_true rfl)
theorem pk_X0_init : PkI yX0_init cX0_init 1 0 := ⟨⟨qi_X0_init, qz_X0, qc_X0_init⟩, by decide +kernel⟩
theorem pk_X1_init : PkI yX1_init cX1_init 4 3 := ⟨⟨qi_X1_init, qz_X1, qc_X1_init⟩, by decide +kernel⟩
theorem pk_X3_init : PkI yX3_init cX3_init 1 0 := ⟨⟨qi_X3_init, qz_X3, qc_X3_init⟩, by decide +kernel⟩
theorem pk_X2_init : PkI yX2_init cX2_init 2 0 := ⟨⟨qi_X2_init, qz_X2, qc_X2_init⟩, by decide +kernel⟩
theorem pk_X4_init : PkI yX4_init cX4_init 1 0 := ⟨⟨qi_X4_init, qz_X4, qc_X4_init⟩, by decide +kernel⟩
/-- the class's numbers at the start -/
def fI (k i : Nat) : Nat := if k = 0 then (if i < 4 then i else if i < 8 then 0 else i - 4) else if k = 1 then (if i < 4 then i else if i < 8 then 0 else 4294967295) else if k = 2 then 4294967295 else if k = 5 then (if i < 4 then 1 else if i < 8 then 0 else 1) else if k = 8 then 4294967295 else 0
def rI : Nat → Nat → Int32 := fun _ _ => 0
def hfI : Nat → Nat → Nat := fun _ _ => 0
theorem fI_inv : CInv fI := by
  refine ⟨fun i hi => ?_, ⟨rfl, rfl, by decide, rfl, rfl, by decide, rfl, rfl, by decide⟩, fun i hi => ?_, fun i hi h5 => ?_, fun i h4 hi h5 => ?_, fun k hk => ?_⟩
  · rcases (show i = 0 ∨ i = 1 ∨ i = 2 ∨ i = 3 by omega) with rfl | rfl | rfl | rfl <;> exact ⟨rfl, rfl, rfl, rfl, by decide, rfl⟩
  · rcases (show i = 0 ∨ i = 1 ∨ i = 2 ∨ i = 3 ∨ i = 4 ∨ i = 5 ∨ i = 6 ∨ i = 7 by omega) with rfl | rfl | rfl | rfl | rfl | rfl | rfl | rfl <;> exact ⟨by decide, by decide, rfl, Or.inr rfl⟩
  · rcases (show i = 0 ∨ i = 1 ∨ i = 2 ∨ i = 3 ∨ i = 4 ∨ i = 5 ∨ i = 6 ∨ i = 7 by omega) with rfl | rfl | rfl | rfl | rfl | rfl | rfl | rfl <;> decide
  · rcases (show i = 4 ∨ i = 5 ∨ i = 6 ∨ i = 7 by omega) with rfl | rfl | rfl | rfl <;> exact absurd h5 (by decide)
  · rcases (show k = 0 ∨ k = 1 ∨ k = 2 by omega) with rfl | rfl | rfl <;> exact ⟨by decide, by decide, fun h => absurd h (by decide)⟩
