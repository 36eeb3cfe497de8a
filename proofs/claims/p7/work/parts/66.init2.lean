/-! CONSTRUCTORS -/
theorem dX0_init_0 : decode cX0_init 0 = .ok (.aload_n 0, 1) := by decide +kernel
theorem dX0_init_1 : decode cX0_init 1 = .ok (.invokespecial 3, 3) := by decide +kernel
theorem dX0_init_4 : decode cX0_init 4 = .ok (.aload_n 0, 1) := by decide +kernel
theorem dX0_init_5 : decode cX0_init 5 = .ok (.iconst (-1), 1) := by decide +kernel
theorem dX0_init_6 : decode cX0_init 6 = .ok (.putfield 9, 3) := by decide +kernel
theorem dX0_init_9 : decode cX0_init 9 = .ok (.return_, 1) := by decide +kernel
theorem C_CurInit {l : Launch} {D : va_G} {cy : Nat → ClassId} {X : (Nat → Prop) → State → Heap → Prop} {w : va_W} {q0 b : Nat} (he : w[q0]? = some (b, .inr (4, [.int (nI 0), .int (nI 0), .int (nI 0), .int (nI 0)])))  : Cd l D cy X yX0_init cX0_init 1 none (rmz 1 40) [.ref b] w none (w.set q0 (b, .inr (4, [.int (nI 0), .int (nI 0), .int (nI 4294967295), .int (nI 0)]))) := by
  refine Cm.of [some (.ref b)] (by decide +kernel) rfl (Nat.le_of_ble_eq_true rfl) ?_
  intro p e s m args below meth c A C hE hr hnt hn
  refine r_aload_n C dX0_init_0 rfl ?_
  refine r_objI C qm_X0_3 dX0_init_1 (Nat.le_of_ble_eq_true rfl) (Nat.le_of_ble_eq_true rfl) ?_
  refine r_aload_n C dX0_init_4 rfl ?_
  refine r_iconst (v := nI 4294967295) C dX0_init_5 (by decide) ?_
  refine g_put C qu_X0 tyX0 tyX0_ok nmX0 (ci := 4) rfl q0 he 2 (by decide) qf_X0_9 rfl rfl (ty := .int) rfl rfl rfl (show 2 < 4 by omega) dX0_init_6 rfl ?_
  have he_1 := gp_he (y := (b, .inr (4, [.int (nI 0), .int (nI 0), .int (nI 4294967295), .int (nI 0)]))) he
  exact r_vret C hr dX0_init_9 ⟨rfl, rfl⟩ (Nat.le_of_ble_eq_true rfl) (Nat.le_of_ble_eq_true rfl)
theorem dX1_init_0 : decode cX1_init 0 = .ok (.aload_n 0, 1) := by decide +kernel
theorem dX1_init_1 : decode cX1_init 1 = .ok (.invokespecial 3, 3) := by decide +kernel
theorem dX1_init_4 : decode cX1_init 4 = .ok (.aload_n 0, 1) := by decide +kernel
theorem dX1_init_5 : decode cX1_init 5 = .ok (.iload_n 1, 1) := by decide +kernel
theorem dX1_init_6 : decode cX1_init 6 = .ok (.putfield 9, 3) := by decide +kernel
theorem dX1_init_9 : decode cX1_init 9 = .ok (.aload_n 0, 1) := by decide +kernel
theorem dX1_init_10 : decode cX1_init 10 = .ok (.aload_n 2, 1) := by decide +kernel
theorem dX1_init_11 : decode cX1_init 11 = .ok (.putfield 15, 3) := by decide +kernel
theorem dX1_init_14 : decode cX1_init 14 = .ok (.aload_n 0, 1) := by decide +kernel
theorem dX1_init_15 : decode cX1_init 15 = .ok (.iload_n 3, 1) := by decide +kernel
theorem dX1_init_16 : decode cX1_init 16 = .ok (.putfield 19, 3) := by decide +kernel
theorem dX1_init_19 : decode cX1_init 19 = .ok (.aload_n 0, 1) := by decide +kernel
theorem dX1_init_20 : decode cX1_init 20 = .ok (.iconst (-1), 1) := by decide +kernel
theorem dX1_init_21 : decode cX1_init 21 = .ok (.putfield 23, 3) := by decide +kernel
theorem dX1_init_24 : decode cX1_init 24 = .ok (.return_, 1) := by decide +kernel
theorem C_PartInit {l : Launch} {D : va_G} {cy : Nat → ClassId} {X : (Nat → Prop) → State → Heap → Prop} {w : va_W} {q0 b it th : Nat} {x : Int32} (he : w[q0]? = some (b, .inr (5, [.null, .int (nI 0), .int (nI 0), .int (nI 0), .int (nI 0), .int (nI 0)]))) (hth : th ≤ 1) : Cd l D cy X yX1_init cX1_init 4 none (rmz 1 40) [.ref b, .int x, .ref it, .int (nI th)] w none (w.set q0 (b, .inr (5, [.ref it, .int x, .int (nI 4294967295), .int (nI 0), .int (nI 0), .int (nI th)]))) := by
  refine Cm.of [some (.ref b), some (.int x), some (.ref it), some (.int (nI th))] (by decide +kernel) rfl (Nat.le_of_ble_eq_true rfl) ?_
  intro p e s m args below meth c A C hE hr hnt hn
  refine r_aload_n C dX1_init_0 rfl ?_
  refine r_objI C qm_X1_3 dX1_init_1 (Nat.le_of_ble_eq_true rfl) (Nat.le_of_ble_eq_true rfl) ?_
  refine r_aload_n C dX1_init_4 rfl ?_
  refine r_iload_n C dX1_init_5 rfl ?_
  refine g_put C qu_X1 tyX1 tyX1_ok nmX1 (ci := 5) rfl q0 he 1 (by decide) qf_X1_9 rfl rfl (ty := .int) rfl rfl rfl (show 1 < 6 by omega) dX1_init_6 rfl ?_
  have he_1 := gp_he (y := (b, .inr (5, [.null, .int x, .int (nI 0), .int (nI 0), .int (nI 0), .int (nI 0)]))) he
  refine r_aload_n C dX1_init_9 rfl ?_
  refine r_aload_n C dX1_init_10 rfl ?_
  refine g_put C qu_X1 tyX1 tyX1_ok nmX1 (ci := 5) rfl q0 he_1 0 (by decide) qf_X1_15 rfl rfl (ty := .array .int) rfl rfl rfl (show 0 < 6 by omega) dX1_init_11 rfl ?_
  have he_2 := gp_he (y := (b, .inr (5, [.ref it, .int x, .int (nI 0), .int (nI 0), .int (nI 0), .int (nI 0)]))) he_1
  refine r_aload_n C dX1_init_14 rfl ?_
  refine r_iload_n C dX1_init_15 rfl ?_
  refine g_put C qu_X1 tyX1 tyX1_ok nmX1 (ci := 5) rfl q0 he_2 5 (by decide) qf_X1_19 rfl rfl (ty := .boolean) rfl (by rcases (show th = 0 ∨ th = 1 by omega) with rfl | rfl <;> rfl) (by rcases (show th = 0 ∨ th = 1 by omega) with rfl | rfl <;> rfl) (show 5 < 6 by omega) dX1_init_16 rfl ?_
  have he_3 := gp_he (y := (b, .inr (5, [.ref it, .int x, .int (nI 0), .int (nI 0), .int (nI 0), .int (nI th)]))) he_2
  refine r_aload_n C dX1_init_19 rfl ?_
  refine r_iconst (v := nI 4294967295) C dX1_init_20 (by decide) ?_
  refine g_put C qu_X1 tyX1 tyX1_ok nmX1 (ci := 5) rfl q0 he_3 2 (by decide) qf_X1_23 rfl rfl (ty := .int) rfl rfl rfl (show 2 < 6 by omega) dX1_init_21 rfl ?_
  have he_4 := gp_he (y := (b, .inr (5, [.ref it, .int x, .int (nI 4294967295), .int (nI 0), .int (nI 0), .int (nI th)]))) he_3
  exact r_vret C hr dX1_init_24 ⟨rfl, by simp only [List.set_set]; rfl⟩ (Nat.le_of_ble_eq_true rfl) (Nat.le_of_ble_eq_true rfl)
theorem dX3_init_0 : decode cX3_init 0 = .ok (.aload_n 0, 1) := by decide +kernel
theorem dX3_init_1 : decode cX3_init 1 = .ok (.invokespecial 1, 3) := by decide +kernel
theorem dX3_init_4 : decode cX3_init 4 = .ok (.return_, 1) := by decide +kernel
theorem C_OutInit {l : Launch} {D : va_G} {cy : Nat → ClassId} {X : (Nat → Prop) → State → Heap → Prop} {w : va_W} {b : Nat}   : Cd l D cy X yX3_init cX3_init 1 none (rmz 1 40) [.ref b] w none (w) := by
  refine Cm.of [some (.ref b)] (by decide +kernel) rfl (Nat.le_of_ble_eq_true rfl) ?_
  intro p e s m args below meth c A C hE hr hnt hn
  refine r_aload_n C dX3_init_0 rfl ?_
  refine r_objI C qm_X3_1 dX3_init_1 (Nat.le_of_ble_eq_true rfl) (Nat.le_of_ble_eq_true rfl) ?_
  exact r_vret C hr dX3_init_4 ⟨rfl, rfl⟩ (Nat.le_of_ble_eq_true rfl) (Nat.le_of_ble_eq_true rfl)
theorem pk_X0_init : PkI yX0_init cX0_init 1 0 := ⟨⟨qi_X0_init, qz_X0, qc_X0_init⟩, by decide +kernel⟩
theorem pk_X1_init : PkI yX1_init cX1_init 4 3 := ⟨⟨qi_X1_init, qz_X1, qc_X1_init⟩, by decide +kernel⟩
theorem pk_X3_init : PkI yX3_init cX3_init 1 0 := ⟨⟨qi_X3_init, qz_X3, qc_X3_init⟩, by decide +kernel⟩
theorem pk_X2_init : PkI yX2_init cX2_init 2 0 := ⟨⟨qi_X2_init, qz_X2, qc_X2_init⟩, by decide +kernel⟩
theorem pk_X4_init : PkI yX4_init cX4_init 1 0 := ⟨⟨qi_X4_init, qz_X4, qc_X4_init⟩, by decide +kernel⟩
/-- the class's numbers at the start -/
def fI (k i : Nat) : Nat := if k = 0 then (if i < 4 then i else if i < 8 then 0 else i - 4) else if k = 1 then (if i < 4 then i else if i < 8 then 0 else 4294967295) else if k = 2 then 4294967295 else if k = 5 then (if i < 4 then 1 else if i < 8 then 0 else 1) else if k = 8 then 4294967295 else 0
def rI : Nat → Nat → Int32 := fun _ _ => 0
def hfI : Nat → Nat → Nat := fun _ _ => 0
theorem fI_inv : CInv fI := by
  refine ⟨fun i hi => ?_, ⟨rfl, rfl, by decide, rfl, rfl, by decide, rfl, rfl, by decide⟩, fun i hi => ?_, fun i hi h5 => ?_, fun i h4 hi h5 => ?_, fun k hk => ?_⟩
  · rcases (show i = 0 ∨ i = 1 ∨ i = 2 ∨ i = 3 by omega) with rfl | rfl | rfl | rfl <;> exact ⟨rfl, rfl, rfl, rfl, by decide, rfl⟩
  · rcases (show i = 0 ∨ i = 1 ∨ i = 2 ∨ i = 3 ∨ i = 4 ∨ i = 5 ∨ i = 6 ∨ i = 7 by omega) with rfl | rfl | rfl | rfl | rfl | rfl | rfl | rfl <;> exact ⟨by decide, by decide, rfl, Or.inr rfl⟩
  · rcases (show i = 0 ∨ i = 1 ∨ i = 2 ∨ i = 3 ∨ i = 4 ∨ i = 5 ∨ i = 6 ∨ i = 7 by omega) with rfl | rfl | rfl | rfl | rfl | rfl | rfl | rfl <;> decide
  · rcases (show i = 4 ∨ i = 5 ∨ i = 6 ∨ i = 7 by omega) with rfl | rfl | rfl | rfl <;> exact absurd h5 (by decide)
  · rcases (show k = 0 ∨ k = 1 ∨ k = 2 by omega) with rfl | rfl | rfl <;> exact ⟨by decide, by decide, fun h => absurd h (by decide)⟩
theorem rI_ib : RB rI := fun _ _ => ⟨by show (-99 : Int) ≤ (0 : Int32).toInt; decide, by show (0 : Int32).toInt ≤ 99; decide⟩
theorem fI_mr : MR fI rI hfI rI := by
  refine ⟨fun w h4 hw h5 => ?_, fun i hi => ⟨?_, fun k hk => rfl⟩, fun w h4 hw => ⟨?_, Nat.zero_lt_succ 7, fun h5 => ?_⟩, fun k hk => ⟨rfl, Nat.zero_lt_succ 7, fun h => absurd h (show ¬ (0 : Nat) = 1 by decide)⟩⟩
  · rcases (show w = 4 ∨ w = 5 ∨ w = 6 ∨ w = 7 by omega) with rfl | rfl | rfl | rfl <;> exact absurd h5 (by decide)
  · rfl
  · rcases (show w = 4 ∨ w = 5 ∨ w = 6 ∨ w = 7 by omega) with rfl | rfl | rfl | rfl <;> rfl
  · rcases (show w = 4 ∨ w = 5 ∨ w = 6 ∨ w = 7 by omega) with rfl | rfl | rfl | rfl <;> exact absurd h5 (by decide)
theorem dX2_init_0 : decode cX2_init 0 = .ok (.aload_n 0, 1) := by decide +kernel
theorem dX2_init_1 : decode cX2_init 1 = .ok (.invokespecial 3, 3) := by decide +kernel
theorem dX2_init_4 : decode cX2_init 4 = .ok (.aload_n 0, 1) := by decide +kernel
theorem dX2_init_5 : decode cX2_init 5 = .ok (.bipush 8, 2) := by decide +kernel
theorem dX2_init_7 : decode cX2_init 7 = .ok (.anewarray 9, 3) := by decide +kernel
theorem dX2_init_10 : decode cX2_init 10 = .ok (.putfield 11, 3) := by decide +kernel
theorem dX2_init_13 : decode cX2_init 13 = .ok (.iconst 0, 1) := by decide +kernel
theorem dX2_init_14 : decode cX2_init 14 = .ok (.istore_n 1, 1) := by decide +kernel
theorem dX2_init_15 : decode cX2_init 15 = .ok (.iload_n 1, 1) := by decide +kernel
theorem dX2_init_16 : decode cX2_init 16 = .ok (.iconst 4, 1) := by decide +kernel
theorem dX2_init_17 : decode cX2_init 17 = .ok (.if_icmp .ge 28, 3) := by decide +kernel
theorem dX2_init_20 : decode cX2_init 20 = .ok (.aload_n 0, 1) := by decide +kernel
theorem dX2_init_21 : decode cX2_init 21 = .ok (.getfield 11, 3) := by decide +kernel
theorem dX2_init_24 : decode cX2_init 24 = .ok (.iload_n 1, 1) := by decide +kernel
theorem dX2_init_25 : decode cX2_init 25 = .ok (.new 9, 3) := by decide +kernel
theorem dX2_init_28 : decode cX2_init 28 = .ok (.dup, 1) := by decide +kernel
theorem dX2_init_29 : decode cX2_init 29 = .ok (.iload_n 1, 1) := by decide +kernel
theorem dX2_init_30 : decode cX2_init 30 = .ok (.bipush 12, 2) := by decide +kernel
theorem dX2_init_32 : decode cX2_init 32 = .ok (.newarray .int, 2) := by decide +kernel
theorem dX2_init_34 : decode cX2_init 34 = .ok (.iconst 1, 1) := by decide +kernel
theorem dX2_init_35 : decode cX2_init 35 = .ok (.invokespecial 15, 3) := by decide +kernel
theorem dX2_init_38 : decode cX2_init 38 = .ok (.aastore, 1) := by decide +kernel
theorem dX2_init_39 : decode cX2_init 39 = .ok (.iinc 1 1, 3) := by decide +kernel
theorem dX2_init_42 : decode cX2_init 42 = .ok (.goto (-27), 3) := by decide +kernel
theorem dX2_init_45 : decode cX2_init 45 = .ok (.iconst 4, 1) := by decide +kernel
theorem dX2_init_46 : decode cX2_init 46 = .ok (.istore_n 1, 1) := by decide +kernel
theorem dX2_init_47 : decode cX2_init 47 = .ok (.iload_n 1, 1) := by decide +kernel
theorem dX2_init_48 : decode cX2_init 48 = .ok (.bipush 8, 2) := by decide +kernel
theorem dX2_init_50 : decode cX2_init 50 = .ok (.if_icmp .ge 33, 3) := by decide +kernel
theorem dX2_init_53 : decode cX2_init 53 = .ok (.aload_n 0, 1) := by decide +kernel
theorem dX2_init_54 : decode cX2_init 54 = .ok (.getfield 11, 3) := by decide +kernel
theorem dX2_init_57 : decode cX2_init 57 = .ok (.iload_n 1, 1) := by decide +kernel
theorem dX2_init_58 : decode cX2_init 58 = .ok (.new 9, 3) := by decide +kernel
theorem dX2_init_61 : decode cX2_init 61 = .ok (.dup, 1) := by decide +kernel
theorem dX2_init_62 : decode cX2_init 62 = .ok (.iconst 0, 1) := by decide +kernel
theorem dX2_init_63 : decode cX2_init 63 = .ok (.aload_n 0, 1) := by decide +kernel
theorem dX2_init_64 : decode cX2_init 64 = .ok (.getfield 11, 3) := by decide +kernel
theorem dX2_init_67 : decode cX2_init 67 = .ok (.iconst 0, 1) := by decide +kernel
theorem dX2_init_68 : decode cX2_init 68 = .ok (.aaload, 1) := by decide +kernel
theorem dX2_init_69 : decode cX2_init 69 = .ok (.getfield 18, 3) := by decide +kernel
theorem dX2_init_72 : decode cX2_init 72 = .ok (.iconst 0, 1) := by decide +kernel
theorem dX2_init_73 : decode cX2_init 73 = .ok (.invokespecial 15, 3) := by decide +kernel
theorem dX2_init_76 : decode cX2_init 76 = .ok (.aastore, 1) := by decide +kernel
theorem dX2_init_77 : decode cX2_init 77 = .ok (.iinc 1 1, 3) := by decide +kernel
theorem dX2_init_80 : decode cX2_init 80 = .ok (.goto (-33), 3) := by decide +kernel
theorem dX2_init_83 : decode cX2_init 83 = .ok (.aload_n 0, 1) := by decide +kernel
theorem dX2_init_84 : decode cX2_init 84 = .ok (.iconst 3, 1) := by decide +kernel
theorem dX2_init_85 : decode cX2_init 85 = .ok (.anewarray 22, 3) := by decide +kernel
theorem dX2_init_88 : decode cX2_init 88 = .ok (.putfield 24, 3) := by decide +kernel
theorem dX2_init_91 : decode cX2_init 91 = .ok (.iconst 0, 1) := by decide +kernel
theorem dX2_init_92 : decode cX2_init 92 = .ok (.istore_n 1, 1) := by decide +kernel
theorem dX2_init_93 : decode cX2_init 93 = .ok (.iload_n 1, 1) := by decide +kernel
theorem dX2_init_94 : decode cX2_init 94 = .ok (.iconst 3, 1) := by decide +kernel
theorem dX2_init_95 : decode cX2_init 95 = .ok (.if_icmp .ge 22, 3) := by decide +kernel
theorem dX2_init_98 : decode cX2_init 98 = .ok (.aload_n 0, 1) := by decide +kernel
theorem dX2_init_99 : decode cX2_init 99 = .ok (.getfield 24, 3) := by decide +kernel
theorem dX2_init_102 : decode cX2_init 102 = .ok (.iload_n 1, 1) := by decide +kernel
theorem dX2_init_103 : decode cX2_init 103 = .ok (.new 22, 3) := by decide +kernel
theorem dX2_init_106 : decode cX2_init 106 = .ok (.dup, 1) := by decide +kernel
theorem dX2_init_107 : decode cX2_init 107 = .ok (.invokespecial 28, 3) := by decide +kernel
theorem dX2_init_110 : decode cX2_init 110 = .ok (.aastore, 1) := by decide +kernel
theorem dX2_init_111 : decode cX2_init 111 = .ok (.iinc 1 1, 3) := by decide +kernel
theorem dX2_init_114 : decode cX2_init 114 = .ok (.goto (-21), 3) := by decide +kernel
theorem dX2_init_117 : decode cX2_init 117 = .ok (.aload_n 0, 1) := by decide +kernel
theorem dX2_init_118 : decode cX2_init 118 = .ok (.new 9, 3) := by decide +kernel
theorem dX2_init_121 : decode cX2_init 121 = .ok (.dup, 1) := by decide +kernel
theorem dX2_init_122 : decode cX2_init 122 = .ok (.iconst (-1), 1) := by decide +kernel
theorem dX2_init_123 : decode cX2_init 123 = .ok (.bipush 12, 2) := by decide +kernel
theorem dX2_init_125 : decode cX2_init 125 = .ok (.newarray .int, 2) := by decide +kernel
theorem dX2_init_127 : decode cX2_init 127 = .ok (.iconst 1, 1) := by decide +kernel
theorem dX2_init_128 : decode cX2_init 128 = .ok (.invokespecial 15, 3) := by decide +kernel
theorem dX2_init_131 : decode cX2_init 131 = .ok (.putfield 29, 3) := by decide +kernel
theorem dX2_init_134 : decode cX2_init 134 = .ok (.aload_n 0, 1) := by decide +kernel
theorem dX2_init_135 : decode cX2_init 135 = .ok (.new 9, 3) := by decide +kernel
theorem dX2_init_138 : decode cX2_init 138 = .ok (.dup, 1) := by decide +kernel
theorem dX2_init_139 : decode cX2_init 139 = .ok (.iconst (-1), 1) := by decide +kernel
theorem dX2_init_140 : decode cX2_init 140 = .ok (.bipush 12, 2) := by decide +kernel
theorem dX2_init_142 : decode cX2_init 142 = .ok (.newarray .int, 2) := by decide +kernel
theorem dX2_init_144 : decode cX2_init 144 = .ok (.iconst 1, 1) := by decide +kernel
theorem dX2_init_145 : decode cX2_init 145 = .ok (.invokespecial 15, 3) := by decide +kernel
theorem dX2_init_148 : decode cX2_init 148 = .ok (.putfield 33, 3) := by decide +kernel
theorem dX2_init_151 : decode cX2_init 151 = .ok (.aload_n 0, 1) := by decide +kernel
theorem dX2_init_152 : decode cX2_init 152 = .ok (.new 9, 3) := by decide +kernel
theorem dX2_init_155 : decode cX2_init 155 = .ok (.dup, 1) := by decide +kernel
theorem dX2_init_156 : decode cX2_init 156 = .ok (.iconst (-1), 1) := by decide +kernel
theorem dX2_init_157 : decode cX2_init 157 = .ok (.bipush 12, 2) := by decide +kernel
theorem dX2_init_159 : decode cX2_init 159 = .ok (.newarray .int, 2) := by decide +kernel
theorem dX2_init_161 : decode cX2_init 161 = .ok (.iconst 1, 1) := by decide +kernel
theorem dX2_init_162 : decode cX2_init 162 = .ok (.invokespecial 15, 3) := by decide +kernel
theorem dX2_init_165 : decode cX2_init 165 = .ok (.putfield 36, 3) := by decide +kernel
theorem dX2_init_168 : decode cX2_init 168 = .ok (.return_, 1) := by decide +kernel
set_option maxRecDepth 100000 in
set_option maxHeartbeats 4000000 in
theorem C_SplInit {l : Launch} {D : va_G} {cy : Nat → ClassId} {X : (Nat → Prop) → State → Heap → Prop} {aK aV : Nat → Nat} {tO tT : Nat} {gO gT : Nat → Int32} {U : va_W} {b : Nat} (hX : EnvT X cy aK aV tO tT gO gT) : Cm l D cy X yX2_init cX2_init 2 none (rmk 2 23 173 120) [.ref b] (U ++ [(b, .inr (6, [.null, .null, .null, .null, .null, .int (nI 0)]))]) (fun v1 w1 => ∃ a : Nat → Nat → Nat, a 0 0 = b ∧ v1 = none ∧ w1 = WC cy a fI rI (nI 0) ++ U) (fun _ => False) := by
  refine Cm.of [some (.ref b), none] (by decide +kernel) rfl (Nat.le_of_ble_eq_true rfl) ?_
  intro p e s m args below meth c A C hE hr hnt hn
  refine r_aload_n C dX2_init_0 rfl ?_
  refine r_objI C qm_X2_3 dX2_init_1 (Nat.le_of_ble_eq_true rfl) (Nat.le_of_ble_eq_true rfl) ?_
  refine r_aload_n C dX2_init_4 rfl ?_
  refine r_bipush (v := (nI 8)) C dX2_init_5 (by decide) ?_
  refine r_newq C (Cn := RX1) (hX.2 A s s.heap hE).2.1 (n := 8) 4 rfl qk_X2_9 (Nat.le_of_ble_eq_true rfl) (Nat.le_of_ble_eq_true rfl) (Nat.le_of_ble_eq_true rfl) dX2_init_7 (fun q_1 => ?_)
  refine t_front ?_
  refine g_putF (fs := [.null, .null, .null, .null, .null, .int (nI 0)]) C qu_X2 tyX2 tyX2_ok nmX2 (ci := 6) rfl (U.length + 1) (us_g rfl) 0 (by decide) qf_X2_11 rfl rfl (hn.trans rfl) rfl (ty := .array (.object RX1)) rfl rfl rfl (show 0 < 6 by omega) dX2_init_10 (us_t (L' := [(q_1, .inl (cy 4, 8, .inr (.inr (.inr (.inr (fun _ => none)))))), (b, .inr (6, [.ref q_1, .null, .null, .null, .null, .int (nI 0)]))]) rfl) ?_
  refine r_iconst (v := (nI 0)) C dX2_init_13 (by decide) ?_
  refine r_istore_n C dX2_init_14 (by decide) rfl ?_
  refine r_iload_n C dX2_init_15 rfl ?_
  refine r_iconst (v := (nI 4)) C dX2_init_16 (by decide) ?_
  refine r_icN_ge (a := 0) (b := 4) (tgt := 45) C (Nat.le_of_ble_eq_true rfl) (Nat.le_of_ble_eq_true rfl) dX2_init_17 (by decide) (fun h_2 => ?_) (fun h_2 => ?_)
  · exact absurd h_2 (by decide)
  refine r_aload_n C dX2_init_20 rfl ?_
  refine g_get C qu_X2 (ci := 6) rfl (U.length + 1) (us_g rfl) 0 (by decide) qf_X2_11 rfl rfl dX2_init_21 ?_
  refine r_iload_n C dX2_init_24 rfl ?_
  refine r_new (fs := [.null, .int (nI 0), .int (nI 0), .int (nI 0), .int (nI 0), .int (nI 0)]) C qu_X1 tyX1 tyX1_ok qk_X2_9 qo_X1 qz_X1 (ci := 5) rfl fs0_X1 (Nat.le_of_ble_eq_true rfl) (Nat.le_of_ble_eq_true rfl) dX2_init_25 (fun q_3 => ?_)
  refine t_front ?_
  refine r_dup C dX2_init_28 rfl ?_
  refine r_iload_n C dX2_init_29 rfl ?_
  refine r_bipush (v := (nI 12)) C dX2_init_30 (by decide) ?_
  refine t_newI C .int .int 1 rfl (by simp) qa_int (n := 12) (Nat.le_of_ble_eq_true rfl) (Nat.le_of_ble_eq_true rfl) (Nat.le_of_ble_eq_true rfl) dX2_init_32 (fun q_4 => ?_)
  refine r_iconst (v := (nI 1)) C dX2_init_34 (by decide) ?_
  refine d_I (st := [.ref q_3, .int (nI 0), .ref q_1]) hX.1.1.1.stb C hE (C_PartInit (q0 := U.length + 1) (it := q_4) (th := 1) (x := (nI 0)) (us_g rfl) (by decide)) pk_X1_init qm_X2_15 rfl rfl (Nat.le_of_ble_eq_true rfl) dX2_init_35 ⟨(Nat.le_of_ble_eq_true rfl), (Nat.le_of_ble_eq_true rfl)⟩ ⟨(Nat.le_of_ble_eq_true rfl), (Nat.le_of_ble_eq_true rfl)⟩ ?_
  refine r_w (us_t (L' := [(q_4, .inl (cy 1, 12, .inl (fun _ => 0))), (q_3, .inr (5, [.ref q_4, .int (nI 0), .int (nI 4294967295), .int (nI 0), .int (nI 0), .int (nI 1)])), (q_1, .inl (cy 4, 8, .inr (.inr (.inr (.inr (fun _ => none)))))), (b, .inr (6, [.ref q_1, .null, .null, .null, .null, .int (nI 0)]))]) rfl) ?_
  refine r_astq C (i := 0) (r := (RX1, TX1, 6)) (U.length + 2) 4 (U.length + 1) 5 (us_g rfl) rfl (us_g rfl) rfl (Nat.le_of_ble_eq_true rfl) (Nat.le_of_ble_eq_true rfl) dX2_init_38 (us_t (L' := [(q_4, .inl (cy 1, 12, .inl (fun _ => 0))), (q_3, .inr (5, [.ref q_4, .int (nI 0), .int (nI 4294967295), .int (nI 0), .int (nI 0), .int (nI 1)])), (q_1, .inl (cy 4, 8, .inr (.inr (.inr (.inr (va_up (fun _ => none) 0 (some q_3))))))), (b, .inr (6, [.ref q_1, .null, .null, .null, .null, .int (nI 0)]))]) rfl) ?_
  refine r_iinc (v := nI 1) C dX2_init_39 rfl (by decide) (by decide) rfl ?_
  refine r_goto (tgt := 15) C dX2_init_42 (by decide) ?_
  refine r_iload_n C dX2_init_15 rfl ?_
  refine r_iconst (v := (nI 4)) C dX2_init_16 (by decide) ?_
  refine r_icN_ge (a := 1) (b := 4) (tgt := 45) C (Nat.le_of_ble_eq_true rfl) (Nat.le_of_ble_eq_true rfl) dX2_init_17 (by decide) (fun h_5 => ?_) (fun h_5 => ?_)
  · exact absurd h_5 (by decide)
  refine r_aload_n C dX2_init_20 rfl ?_
  refine g_get C qu_X2 (ci := 6) rfl (U.length + 3) (us_g rfl) 0 (by decide) qf_X2_11 rfl rfl dX2_init_21 ?_
  refine r_iload_n C dX2_init_24 rfl ?_
  refine r_new (fs := [.null, .int (nI 0), .int (nI 0), .int (nI 0), .int (nI 0), .int (nI 0)]) C qu_X1 tyX1 tyX1_ok qk_X2_9 qo_X1 qz_X1 (ci := 5) rfl fs0_X1 (Nat.le_of_ble_eq_true rfl) (Nat.le_of_ble_eq_true rfl) dX2_init_25 (fun q_6 => ?_)
  refine t_front ?_
  refine r_dup C dX2_init_28 rfl ?_
  refine r_iload_n C dX2_init_29 rfl ?_
  refine r_bipush (v := (nI 12)) C dX2_init_30 (by decide) ?_
  refine t_newI C .int .int 1 rfl (by simp) qa_int (n := 12) (Nat.le_of_ble_eq_true rfl) (Nat.le_of_ble_eq_true rfl) (Nat.le_of_ble_eq_true rfl) dX2_init_32 (fun q_7 => ?_)
  refine r_iconst (v := (nI 1)) C dX2_init_34 (by decide) ?_
  refine d_I (st := [.ref q_6, .int (nI 1), .ref q_1]) hX.1.1.1.stb C hE (C_PartInit (q0 := U.length + 1) (it := q_7) (th := 1) (x := (nI 1)) (us_g rfl) (by decide)) pk_X1_init qm_X2_15 rfl rfl (Nat.le_of_ble_eq_true rfl) dX2_init_35 ⟨(Nat.le_of_ble_eq_true rfl), (Nat.le_of_ble_eq_true rfl)⟩ ⟨(Nat.le_of_ble_eq_true rfl), (Nat.le_of_ble_eq_true rfl)⟩ ?_
  refine r_w (us_t (L' := [(q_7, .inl (cy 1, 12, .inl (fun _ => 0))), (q_6, .inr (5, [.ref q_7, .int (nI 1), .int (nI 4294967295), .int (nI 0), .int (nI 0), .int (nI 1)])), (q_4, .inl (cy 1, 12, .inl (fun _ => 0))), (q_3, .inr (5, [.ref q_4, .int (nI 0), .int (nI 4294967295), .int (nI 0), .int (nI 0), .int (nI 1)])), (q_1, .inl (cy 4, 8, .inr (.inr (.inr (.inr (va_up (fun _ => none) 0 (some q_3))))))), (b, .inr (6, [.ref q_1, .null, .null, .null, .null, .int (nI 0)]))]) rfl) ?_
  refine r_astq C (i := 1) (r := (RX1, TX1, 6)) (U.length + 4) 4 (U.length + 1) 5 (us_g rfl) rfl (us_g rfl) rfl (Nat.le_of_ble_eq_true rfl) (Nat.le_of_ble_eq_true rfl) dX2_init_38 (us_t (L' := [(q_7, .inl (cy 1, 12, .inl (fun _ => 0))), (q_6, .inr (5, [.ref q_7, .int (nI 1), .int (nI 4294967295), .int (nI 0), .int (nI 0), .int (nI 1)])), (q_4, .inl (cy 1, 12, .inl (fun _ => 0))), (q_3, .inr (5, [.ref q_4, .int (nI 0), .int (nI 4294967295), .int (nI 0), .int (nI 0), .int (nI 1)])), (q_1, .inl (cy 4, 8, .inr (.inr (.inr (.inr (va_up (va_up (fun _ => none) 0 (some q_3)) 1 (some q_6))))))), (b, .inr (6, [.ref q_1, .null, .null, .null, .null, .int (nI 0)]))]) rfl) ?_
  refine r_iinc (v := nI 2) C dX2_init_39 rfl (by decide) (by decide) rfl ?_
  refine r_goto (tgt := 15) C dX2_init_42 (by decide) ?_
  refine r_iload_n C dX2_init_15 rfl ?_
  refine r_iconst (v := (nI 4)) C dX2_init_16 (by decide) ?_
  refine r_icN_ge (a := 2) (b := 4) (tgt := 45) C (Nat.le_of_ble_eq_true rfl) (Nat.le_of_ble_eq_true rfl) dX2_init_17 (by decide) (fun h_8 => ?_) (fun h_8 => ?_)
  · exact absurd h_8 (by decide)
  refine r_aload_n C dX2_init_20 rfl ?_
  refine g_get C qu_X2 (ci := 6) rfl (U.length + 5) (us_g rfl) 0 (by decide) qf_X2_11 rfl rfl dX2_init_21 ?_
  refine r_iload_n C dX2_init_24 rfl ?_
  refine r_new (fs := [.null, .int (nI 0), .int (nI 0), .int (nI 0), .int (nI 0), .int (nI 0)]) C qu_X1 tyX1 tyX1_ok qk_X2_9 qo_X1 qz_X1 (ci := 5) rfl fs0_X1 (Nat.le_of_ble_eq_true rfl) (Nat.le_of_ble_eq_true rfl) dX2_init_25 (fun q_9 => ?_)
  refine t_front ?_
  refine r_dup C dX2_init_28 rfl ?_
  refine r_iload_n C dX2_init_29 rfl ?_
  refine r_bipush (v := (nI 12)) C dX2_init_30 (by decide) ?_
  refine t_newI C .int .int 1 rfl (by simp) qa_int (n := 12) (Nat.le_of_ble_eq_true rfl) (Nat.le_of_ble_eq_true rfl) (Nat.le_of_ble_eq_true rfl) dX2_init_32 (fun q_10 => ?_)
  refine r_iconst (v := (nI 1)) C dX2_init_34 (by decide) ?_
  refine d_I (st := [.ref q_9, .int (nI 2), .ref q_1]) hX.1.1.1.stb C hE (C_PartInit (q0 := U.length + 1) (it := q_10) (th := 1) (x := (nI 2)) (us_g rfl) (by decide)) pk_X1_init qm_X2_15 rfl rfl (Nat.le_of_ble_eq_true rfl) dX2_init_35 ⟨(Nat.le_of_ble_eq_true rfl), (Nat.le_of_ble_eq_true rfl)⟩ ⟨(Nat.le_of_ble_eq_true rfl), (Nat.le_of_ble_eq_true rfl)⟩ ?_
  refine r_w (us_t (L' := [(q_10, .inl (cy 1, 12, .inl (fun _ => 0))), (q_9, .inr (5, [.ref q_10, .int (nI 2), .int (nI 4294967295), .int (nI 0), .int (nI 0), .int (nI 1)])), (q_7, .inl (cy 1, 12, .inl (fun _ => 0))), (q_6, .inr (5, [.ref q_7, .int (nI 1), .int (nI 4294967295), .int (nI 0), .int (nI 0), .int (nI 1)])), (q_4, .inl (cy 1, 12, .inl (fun _ => 0))), (q_3, .inr (5, [.ref q_4, .int (nI 0), .int (nI 4294967295), .int (nI 0), .int (nI 0), .int (nI 1)])), (q_1, .inl (cy 4, 8, .inr (.inr (.inr (.inr (va_up (va_up (fun _ => none) 0 (some q_3)) 1 (some q_6))))))), (b, .inr (6, [.ref q_1, .null, .null, .null, .null, .int (nI 0)]))]) rfl) ?_
  refine r_astq C (i := 2) (r := (RX1, TX1, 6)) (U.length + 6) 4 (U.length + 1) 5 (us_g rfl) rfl (us_g rfl) rfl (Nat.le_of_ble_eq_true rfl) (Nat.le_of_ble_eq_true rfl) dX2_init_38 (us_t (L' := [(q_10, .inl (cy 1, 12, .inl (fun _ => 0))), (q_9, .inr (5, [.ref q_10, .int (nI 2), .int (nI 4294967295), .int (nI 0), .int (nI 0), .int (nI 1)])), (q_7, .inl (cy 1, 12, .inl (fun _ => 0))), (q_6, .inr (5, [.ref q_7, .int (nI 1), .int (nI 4294967295), .int (nI 0), .int (nI 0), .int (nI 1)])), (q_4, .inl (cy 1, 12, .inl (fun _ => 0))), (q_3, .inr (5, [.ref q_4, .int (nI 0), .int (nI 4294967295), .int (nI 0), .int (nI 0), .int (nI 1)])), (q_1, .inl (cy 4, 8, .inr (.inr (.inr (.inr (va_up (va_up (va_up (fun _ => none) 0 (some q_3)) 1 (some q_6)) 2 (some q_9))))))), (b, .inr (6, [.ref q_1, .null, .null, .null, .null, .int (nI 0)]))]) rfl) ?_
  refine r_iinc (v := nI 3) C dX2_init_39 rfl (by decide) (by decide) rfl ?_
  refine r_goto (tgt := 15) C dX2_init_42 (by decide) ?_
  refine r_iload_n C dX2_init_15 rfl ?_
  refine r_iconst (v := (nI 4)) C dX2_init_16 (by decide) ?_
  refine r_icN_ge (a := 3) (b := 4) (tgt := 45) C (Nat.le_of_ble_eq_true rfl) (Nat.le_of_ble_eq_true rfl) dX2_init_17 (by decide) (fun h_11 => ?_) (fun h_11 => ?_)
  · exact absurd h_11 (by decide)
  refine r_aload_n C dX2_init_20 rfl ?_
  refine g_get C qu_X2 (ci := 6) rfl (U.length + 7) (us_g rfl) 0 (by decide) qf_X2_11 rfl rfl dX2_init_21 ?_
  refine r_iload_n C dX2_init_24 rfl ?_
  refine r_new (fs := [.null, .int (nI 0), .int (nI 0), .int (nI 0), .int (nI 0), .int (nI 0)]) C qu_X1 tyX1 tyX1_ok qk_X2_9 qo_X1 qz_X1 (ci := 5) rfl fs0_X1 (Nat.le_of_ble_eq_true rfl) (Nat.le_of_ble_eq_true rfl) dX2_init_25 (fun q_12 => ?_)
  refine t_front ?_
  refine r_dup C dX2_init_28 rfl ?_
  refine r_iload_n C dX2_init_29 rfl ?_
  refine r_bipush (v := (nI 12)) C dX2_init_30 (by decide) ?_
  refine t_newI C .int .int 1 rfl (by simp) qa_int (n := 12) (Nat.le_of_ble_eq_true rfl) (Nat.le_of_ble_eq_true rfl) (Nat.le_of_ble_eq_true rfl) dX2_init_32 (fun q_13 => ?_)
  refine r_iconst (v := (nI 1)) C dX2_init_34 (by decide) ?_
  refine d_I (st := [.ref q_12, .int (nI 3), .ref q_1]) hX.1.1.1.stb C hE (C_PartInit (q0 := U.length + 1) (it := q_13) (th := 1) (x := (nI 3)) (us_g rfl) (by decide)) pk_X1_init qm_X2_15 rfl rfl (Nat.le_of_ble_eq_true rfl) dX2_init_35 ⟨(Nat.le_of_ble_eq_true rfl), (Nat.le_of_ble_eq_true rfl)⟩ ⟨(Nat.le_of_ble_eq_true rfl), (Nat.le_of_ble_eq_true rfl)⟩ ?_
  refine r_w (us_t (L' := [(q_13, .inl (cy 1, 12, .inl (fun _ => 0))), (q_12, .inr (5, [.ref q_13, .int (nI 3), .int (nI 4294967295), .int (nI 0), .int (nI 0), .int (nI 1)])), (q_10, .inl (cy 1, 12, .inl (fun _ => 0))), (q_9, .inr (5, [.ref q_10, .int (nI 2), .int (nI 4294967295), .int (nI 0), .int (nI 0), .int (nI 1)])), (q_7, .inl (cy 1, 12, .inl (fun _ => 0))), (q_6, .inr (5, [.ref q_7, .int (nI 1), .int (nI 4294967295), .int (nI 0), .int (nI 0), .int (nI 1)])), (q_4, .inl (cy 1, 12, .inl (fun _ => 0))), (q_3, .inr (5, [.ref q_4, .int (nI 0), .int (nI 4294967295), .int (nI 0), .int (nI 0), .int (nI 1)])), (q_1, .inl (cy 4, 8, .inr (.inr (.inr (.inr (va_up (va_up (va_up (fun _ => none) 0 (some q_3)) 1 (some q_6)) 2 (some q_9))))))), (b, .inr (6, [.ref q_1, .null, .null, .null, .null, .int (nI 0)]))]) rfl) ?_
  refine r_astq C (i := 3) (r := (RX1, TX1, 6)) (U.length + 8) 4 (U.length + 1) 5 (us_g rfl) rfl (us_g rfl) rfl (Nat.le_of_ble_eq_true rfl) (Nat.le_of_ble_eq_true rfl) dX2_init_38 (us_t (L' := [(q_13, .inl (cy 1, 12, .inl (fun _ => 0))), (q_12, .inr (5, [.ref q_13, .int (nI 3), .int (nI 4294967295), .int (nI 0), .int (nI 0), .int (nI 1)])), (q_10, .inl (cy 1, 12, .inl (fun _ => 0))), (q_9, .inr (5, [.ref q_10, .int (nI 2), .int (nI 4294967295), .int (nI 0), .int (nI 0), .int (nI 1)])), (q_7, .inl (cy 1, 12, .inl (fun _ => 0))), (q_6, .inr (5, [.ref q_7, .int (nI 1), .int (nI 4294967295), .int (nI 0), .int (nI 0), .int (nI 1)])), (q_4, .inl (cy 1, 12, .inl (fun _ => 0))), (q_3, .inr (5, [.ref q_4, .int (nI 0), .int (nI 4294967295), .int (nI 0), .int (nI 0), .int (nI 1)])), (q_1, .inl (cy 4, 8, .inr (.inr (.inr (.inr (va_up (va_up (va_up (va_up (fun _ => none) 0 (some q_3)) 1 (some q_6)) 2 (some q_9)) 3 (some q_12))))))), (b, .inr (6, [.ref q_1, .null, .null, .null, .null, .int (nI 0)]))]) rfl) ?_
  refine r_iinc (v := nI 4) C dX2_init_39 rfl (by decide) (by decide) rfl ?_
  refine r_goto (tgt := 15) C dX2_init_42 (by decide) ?_
  refine r_iload_n C dX2_init_15 rfl ?_
  refine r_iconst (v := (nI 4)) C dX2_init_16 (by decide) ?_
  refine r_icN_ge (a := 4) (b := 4) (tgt := 45) C (Nat.le_of_ble_eq_true rfl) (Nat.le_of_ble_eq_true rfl) dX2_init_17 (by decide) (fun h_14 => ?_) (fun h_14 => ?_)
  rotate_left
  · exact absurd h_14 (by decide)
  refine r_iconst (v := (nI 4)) C dX2_init_45 (by decide) ?_
  refine r_istore_n C dX2_init_46 (by decide) rfl ?_
  refine r_iload_n C dX2_init_47 rfl ?_
  refine r_bipush (v := (nI 8)) C dX2_init_48 (by decide) ?_
  refine r_icN_ge (a := 4) (b := 8) (tgt := 83) C (Nat.le_of_ble_eq_true rfl) (Nat.le_of_ble_eq_true rfl) dX2_init_50 (by decide) (fun h_15 => ?_) (fun h_15 => ?_)
  · exact absurd h_15 (by decide)
  refine r_aload_n C dX2_init_53 rfl ?_
  refine g_get C qu_X2 (ci := 6) rfl (U.length + 9) (us_g rfl) 0 (by decide) qf_X2_11 rfl rfl dX2_init_54 ?_
  refine r_iload_n C dX2_init_57 rfl ?_
  refine r_new (fs := [.null, .int (nI 0), .int (nI 0), .int (nI 0), .int (nI 0), .int (nI 0)]) C qu_X1 tyX1 tyX1_ok qk_X2_9 qo_X1 qz_X1 (ci := 5) rfl fs0_X1 (Nat.le_of_ble_eq_true rfl) (Nat.le_of_ble_eq_true rfl) dX2_init_58 (fun q_16 => ?_)
  refine t_front ?_
  refine r_dup C dX2_init_61 rfl ?_
  refine r_iconst (v := (nI 0)) C dX2_init_62 (by decide) ?_
  refine r_aload_n C dX2_init_63 rfl ?_
  refine g_get C qu_X2 (ci := 6) rfl (U.length + 10) (us_g rfl) 0 (by decide) qf_X2_11 rfl rfl dX2_init_64 ?_
  refine r_iconst (v := (nI 0)) C dX2_init_67 (by decide) ?_
  refine g_aald C (i := 0) (t0 := 4) (x := q_3) (U.length + 9) (us_g rfl) rfl (Nat.le_of_ble_eq_true rfl) (Nat.le_of_ble_eq_true rfl) rfl dX2_init_68 ?_
  refine g_getN hX.1.1.1 C hE qu_X1 (ci := 5) rfl (U.length + 8) (us_g rfl) 0 (by decide) qn_X2_18 rfl rfl dX2_init_69 ?_
  refine r_iconst (v := (nI 0)) C dX2_init_72 (by decide) ?_
  refine d_I (st := [.ref q_16, .int (nI 4), .ref q_1]) hX.1.1.1.stb C hE (C_PartInit (q0 := U.length + 0) (it := q_4) (th := 0) (x := (nI 0)) (us_g rfl) (by decide)) pk_X1_init qm_X2_15 rfl rfl (Nat.le_of_ble_eq_true rfl) dX2_init_73 ⟨(Nat.le_of_ble_eq_true rfl), (Nat.le_of_ble_eq_true rfl)⟩ ⟨(Nat.le_of_ble_eq_true rfl), (Nat.le_of_ble_eq_true rfl)⟩ ?_
  refine r_w (us_t (L' := [(q_16, .inr (5, [.ref q_4, .int (nI 0), .int (nI 4294967295), .int (nI 0), .int (nI 0), .int (nI 0)])), (q_13, .inl (cy 1, 12, .inl (fun _ => 0))), (q_12, .inr (5, [.ref q_13, .int (nI 3), .int (nI 4294967295), .int (nI 0), .int (nI 0), .int (nI 1)])), (q_10, .inl (cy 1, 12, .inl (fun _ => 0))), (q_9, .inr (5, [.ref q_10, .int (nI 2), .int (nI 4294967295), .int (nI 0), .int (nI 0), .int (nI 1)])), (q_7, .inl (cy 1, 12, .inl (fun _ => 0))), (q_6, .inr (5, [.ref q_7, .int (nI 1), .int (nI 4294967295), .int (nI 0), .int (nI 0), .int (nI 1)])), (q_4, .inl (cy 1, 12, .inl (fun _ => 0))), (q_3, .inr (5, [.ref q_4, .int (nI 0), .int (nI 4294967295), .int (nI 0), .int (nI 0), .int (nI 1)])), (q_1, .inl (cy 4, 8, .inr (.inr (.inr (.inr (va_up (va_up (va_up (va_up (fun _ => none) 0 (some q_3)) 1 (some q_6)) 2 (some q_9)) 3 (some q_12))))))), (b, .inr (6, [.ref q_1, .null, .null, .null, .null, .int (nI 0)]))]) rfl) ?_
  refine r_astq C (i := 4) (r := (RX1, TX1, 6)) (U.length + 9) 4 (U.length + 0) 5 (us_g rfl) rfl (us_g rfl) rfl (Nat.le_of_ble_eq_true rfl) (Nat.le_of_ble_eq_true rfl) dX2_init_76 (us_t (L' := [(q_16, .inr (5, [.ref q_4, .int (nI 0), .int (nI 4294967295), .int (nI 0), .int (nI 0), .int (nI 0)])), (q_13, .inl (cy 1, 12, .inl (fun _ => 0))), (q_12, .inr (5, [.ref q_13, .int (nI 3), .int (nI 4294967295), .int (nI 0), .int (nI 0), .int (nI 1)])), (q_10, .inl (cy 1, 12, .inl (fun _ => 0))), (q_9, .inr (5, [.ref q_10, .int (nI 2), .int (nI 4294967295), .int (nI 0), .int (nI 0), .int (nI 1)])), (q_7, .inl (cy 1, 12, .inl (fun _ => 0))), (q_6, .inr (5, [.ref q_7, .int (nI 1), .int (nI 4294967295), .int (nI 0), .int (nI 0), .int (nI 1)])), (q_4, .inl (cy 1, 12, .inl (fun _ => 0))), (q_3, .inr (5, [.ref q_4, .int (nI 0), .int (nI 4294967295), .int (nI 0), .int (nI 0), .int (nI 1)])), (q_1, .inl (cy 4, 8, .inr (.inr (.inr (.inr (va_up (va_up (va_up (va_up (va_up (fun _ => none) 0 (some q_3)) 1 (some q_6)) 2 (some q_9)) 3 (some q_12)) 4 (some q_16))))))), (b, .inr (6, [.ref q_1, .null, .null, .null, .null, .int (nI 0)]))]) rfl) ?_
  refine r_iinc (v := nI 5) C dX2_init_77 rfl (by decide) (by decide) rfl ?_
  refine r_goto (tgt := 47) C dX2_init_80 (by decide) ?_
  refine r_iload_n C dX2_init_47 rfl ?_
  refine r_bipush (v := (nI 8)) C dX2_init_48 (by decide) ?_
  refine r_icN_ge (a := 5) (b := 8) (tgt := 83) C (Nat.le_of_ble_eq_true rfl) (Nat.le_of_ble_eq_true rfl) dX2_init_50 (by decide) (fun h_17 => ?_) (fun h_17 => ?_)
  · exact absurd h_17 (by decide)
  refine r_aload_n C dX2_init_53 rfl ?_
  refine g_get C qu_X2 (ci := 6) rfl (U.length + 10) (us_g rfl) 0 (by decide) qf_X2_11 rfl rfl dX2_init_54 ?_
  refine r_iload_n C dX2_init_57 rfl ?_
  refine r_new (fs := [.null, .int (nI 0), .int (nI 0), .int (nI 0), .int (nI 0), .int (nI 0)]) C qu_X1 tyX1 tyX1_ok qk_X2_9 qo_X1 qz_X1 (ci := 5) rfl fs0_X1 (Nat.le_of_ble_eq_true rfl) (Nat.le_of_ble_eq_true rfl) dX2_init_58 (fun q_18 => ?_)
  refine t_front ?_
  refine r_dup C dX2_init_61 rfl ?_
  refine r_iconst (v := (nI 0)) C dX2_init_62 (by decide) ?_
  refine r_aload_n C dX2_init_63 rfl ?_
  refine g_get C qu_X2 (ci := 6) rfl (U.length + 11) (us_g rfl) 0 (by decide) qf_X2_11 rfl rfl dX2_init_64 ?_
  refine r_iconst (v := (nI 0)) C dX2_init_67 (by decide) ?_
  refine g_aald C (i := 0) (t0 := 4) (x := q_3) (U.length + 10) (us_g rfl) rfl (Nat.le_of_ble_eq_true rfl) (Nat.le_of_ble_eq_true rfl) rfl dX2_init_68 ?_
  refine g_getN hX.1.1.1 C hE qu_X1 (ci := 5) rfl (U.length + 9) (us_g rfl) 0 (by decide) qn_X2_18 rfl rfl dX2_init_69 ?_
  refine r_iconst (v := (nI 0)) C dX2_init_72 (by decide) ?_
  refine d_I (st := [.ref q_18, .int (nI 5), .ref q_1]) hX.1.1.1.stb C hE (C_PartInit (q0 := U.length + 0) (it := q_4) (th := 0) (x := (nI 0)) (us_g rfl) (by decide)) pk_X1_init qm_X2_15 rfl rfl (Nat.le_of_ble_eq_true rfl) dX2_init_73 ⟨(Nat.le_of_ble_eq_true rfl), (Nat.le_of_ble_eq_true rfl)⟩ ⟨(Nat.le_of_ble_eq_true rfl), (Nat.le_of_ble_eq_true rfl)⟩ ?_
  refine r_w (us_t (L' := [(q_18, .inr (5, [.ref q_4, .int (nI 0), .int (nI 4294967295), .int (nI 0), .int (nI 0), .int (nI 0)])), (q_16, .inr (5, [.ref q_4, .int (nI 0), .int (nI 4294967295), .int (nI 0), .int (nI 0), .int (nI 0)])), (q_13, .inl (cy 1, 12, .inl (fun _ => 0))), (q_12, .inr (5, [.ref q_13, .int (nI 3), .int (nI 4294967295), .int (nI 0), .int (nI 0), .int (nI 1)])), (q_10, .inl (cy 1, 12, .inl (fun _ => 0))), (q_9, .inr (5, [.ref q_10, .int (nI 2), .int (nI 4294967295), .int (nI 0), .int (nI 0), .int (nI 1)])), (q_7, .inl (cy 1, 12, .inl (fun _ => 0))), (q_6, .inr (5, [.ref q_7, .int (nI 1), .int (nI 4294967295), .int (nI 0), .int (nI 0), .int (nI 1)])), (q_4, .inl (cy 1, 12, .inl (fun _ => 0))), (q_3, .inr (5, [.ref q_4, .int (nI 0), .int (nI 4294967295), .int (nI 0), .int (nI 0), .int (nI 1)])), (q_1, .inl (cy 4, 8, .inr (.inr (.inr (.inr (va_up (va_up (va_up (va_up (va_up (fun _ => none) 0 (some q_3)) 1 (some q_6)) 2 (some q_9)) 3 (some q_12)) 4 (some q_16))))))), (b, .inr (6, [.ref q_1, .null, .null, .null, .null, .int (nI 0)]))]) rfl) ?_
  refine r_astq C (i := 5) (r := (RX1, TX1, 6)) (U.length + 10) 4 (U.length + 0) 5 (us_g rfl) rfl (us_g rfl) rfl (Nat.le_of_ble_eq_true rfl) (Nat.le_of_ble_eq_true rfl) dX2_init_76 (us_t (L' := [(q_18, .inr (5, [.ref q_4, .int (nI 0), .int (nI 4294967295), .int (nI 0), .int (nI 0), .int (nI 0)])), (q_16, .inr (5, [.ref q_4, .int (nI 0), .int (nI 4294967295), .int (nI 0), .int (nI 0), .int (nI 0)])), (q_13, .inl (cy 1, 12, .inl (fun _ => 0))), (q_12, .inr (5, [.ref q_13, .int (nI 3), .int (nI 4294967295), .int (nI 0), .int (nI 0), .int (nI 1)])), (q_10, .inl (cy 1, 12, .inl (fun _ => 0))), (q_9, .inr (5, [.ref q_10, .int (nI 2), .int (nI 4294967295), .int (nI 0), .int (nI 0), .int (nI 1)])), (q_7, .inl (cy 1, 12, .inl (fun _ => 0))), (q_6, .inr (5, [.ref q_7, .int (nI 1), .int (nI 4294967295), .int (nI 0), .int (nI 0), .int (nI 1)])), (q_4, .inl (cy 1, 12, .inl (fun _ => 0))), (q_3, .inr (5, [.ref q_4, .int (nI 0), .int (nI 4294967295), .int (nI 0), .int (nI 0), .int (nI 1)])), (q_1, .inl (cy 4, 8, .inr (.inr (.inr (.inr (va_up (va_up (va_up (va_up (va_up (va_up (fun _ => none) 0 (some q_3)) 1 (some q_6)) 2 (some q_9)) 3 (some q_12)) 4 (some q_16)) 5 (some q_18))))))), (b, .inr (6, [.ref q_1, .null, .null, .null, .null, .int (nI 0)]))]) rfl) ?_
  refine r_iinc (v := nI 6) C dX2_init_77 rfl (by decide) (by decide) rfl ?_
  refine r_goto (tgt := 47) C dX2_init_80 (by decide) ?_
  refine r_iload_n C dX2_init_47 rfl ?_
  refine r_bipush (v := (nI 8)) C dX2_init_48 (by decide) ?_
  refine r_icN_ge (a := 6) (b := 8) (tgt := 83) C (Nat.le_of_ble_eq_true rfl) (Nat.le_of_ble_eq_true rfl) dX2_init_50 (by decide) (fun h_19 => ?_) (fun h_19 => ?_)
  · exact absurd h_19 (by decide)
  refine r_aload_n C dX2_init_53 rfl ?_
  refine g_get C qu_X2 (ci := 6) rfl (U.length + 11) (us_g rfl) 0 (by decide) qf_X2_11 rfl rfl dX2_init_54 ?_
  refine r_iload_n C dX2_init_57 rfl ?_
  refine r_new (fs := [.null, .int (nI 0), .int (nI 0), .int (nI 0), .int (nI 0), .int (nI 0)]) C qu_X1 tyX1 tyX1_ok qk_X2_9 qo_X1 qz_X1 (ci := 5) rfl fs0_X1 (Nat.le_of_ble_eq_true rfl) (Nat.le_of_ble_eq_true rfl) dX2_init_58 (fun q_20 => ?_)
  refine t_front ?_
  refine r_dup C dX2_init_61 rfl ?_
  refine r_iconst (v := (nI 0)) C dX2_init_62 (by decide) ?_
  refine r_aload_n C dX2_init_63 rfl ?_
  refine g_get C qu_X2 (ci := 6) rfl (U.length + 12) (us_g rfl) 0 (by decide) qf_X2_11 rfl rfl dX2_init_64 ?_
  refine r_iconst (v := (nI 0)) C dX2_init_67 (by decide) ?_
  refine g_aald C (i := 0) (t0 := 4) (x := q_3) (U.length + 11) (us_g rfl) rfl (Nat.le_of_ble_eq_true rfl) (Nat.le_of_ble_eq_true rfl) rfl dX2_init_68 ?_
  refine g_getN hX.1.1.1 C hE qu_X1 (ci := 5) rfl (U.length + 10) (us_g rfl) 0 (by decide) qn_X2_18 rfl rfl dX2_init_69 ?_
  refine r_iconst (v := (nI 0)) C dX2_init_72 (by decide) ?_
  refine d_I (st := [.ref q_20, .int (nI 6), .ref q_1]) hX.1.1.1.stb C hE (C_PartInit (q0 := U.length + 0) (it := q_4) (th := 0) (x := (nI 0)) (us_g rfl) (by decide)) pk_X1_init qm_X2_15 rfl rfl (Nat.le_of_ble_eq_true rfl) dX2_init_73 ⟨(Nat.le_of_ble_eq_true rfl), (Nat.le_of_ble_eq_true rfl)⟩ ⟨(Nat.le_of_ble_eq_true rfl), (Nat.le_of_ble_eq_true rfl)⟩ ?_
  refine r_w (us_t (L' := [(q_20, .inr (5, [.ref q_4, .int (nI 0), .int (nI 4294967295), .int (nI 0), .int (nI 0), .int (nI 0)])), (q_18, .inr (5, [.ref q_4, .int (nI 0), .int (nI 4294967295), .int (nI 0), .int (nI 0), .int (nI 0)])), (q_16, .inr (5, [.ref q_4, .int (nI 0), .int (nI 4294967295), .int (nI 0), .int (nI 0), .int (nI 0)])), (q_13, .inl (cy 1, 12, .inl (fun _ => 0))), (q_12, .inr (5, [.ref q_13, .int (nI 3), .int (nI 4294967295), .int (nI 0), .int (nI 0), .int (nI 1)])), (q_10, .inl (cy 1, 12, .inl (fun _ => 0))), (q_9, .inr (5, [.ref q_10, .int (nI 2), .int (nI 4294967295), .int (nI 0), .int (nI 0), .int (nI 1)])), (q_7, .inl (cy 1, 12, .inl (fun _ => 0))), (q_6, .inr (5, [.ref q_7, .int (nI 1), .int (nI 4294967295), .int (nI 0), .int (nI 0), .int (nI 1)])), (q_4, .inl (cy 1, 12, .inl (fun _ => 0))), (q_3, .inr (5, [.ref q_4, .int (nI 0), .int (nI 4294967295), .int (nI 0), .int (nI 0), .int (nI 1)])), (q_1, .inl (cy 4, 8, .inr (.inr (.inr (.inr (va_up (va_up (va_up (va_up (va_up (va_up (fun _ => none) 0 (some q_3)) 1 (some q_6)) 2 (some q_9)) 3 (some q_12)) 4 (some q_16)) 5 (some q_18))))))), (b, .inr (6, [.ref q_1, .null, .null, .null, .null, .int (nI 0)]))]) rfl) ?_
  refine r_astq C (i := 6) (r := (RX1, TX1, 6)) (U.length + 11) 4 (U.length + 0) 5 (us_g rfl) rfl (us_g rfl) rfl (Nat.le_of_ble_eq_true rfl) (Nat.le_of_ble_eq_true rfl) dX2_init_76 (us_t (L' := [(q_20, .inr (5, [.ref q_4, .int (nI 0), .int (nI 4294967295), .int (nI 0), .int (nI 0), .int (nI 0)])), (q_18, .inr (5, [.ref q_4, .int (nI 0), .int (nI 4294967295), .int (nI 0), .int (nI 0), .int (nI 0)])), (q_16, .inr (5, [.ref q_4, .int (nI 0), .int (nI 4294967295), .int (nI 0), .int (nI 0), .int (nI 0)])), (q_13, .inl (cy 1, 12, .inl (fun _ => 0))), (q_12, .inr (5, [.ref q_13, .int (nI 3), .int (nI 4294967295), .int (nI 0), .int (nI 0), .int (nI 1)])), (q_10, .inl (cy 1, 12, .inl (fun _ => 0))), (q_9, .inr (5, [.ref q_10, .int (nI 2), .int (nI 4294967295), .int (nI 0), .int (nI 0), .int (nI 1)])), (q_7, .inl (cy 1, 12, .inl (fun _ => 0))), (q_6, .inr (5, [.ref q_7, .int (nI 1), .int (nI 4294967295), .int (nI 0), .int (nI 0), .int (nI 1)])), (q_4, .inl (cy 1, 12, .inl (fun _ => 0))), (q_3, .inr (5, [.ref q_4, .int (nI 0), .int (nI 4294967295), .int (nI 0), .int (nI 0), .int (nI 1)])), (q_1, .inl (cy 4, 8, .inr (.inr (.inr (.inr (va_up (va_up (va_up (va_up (va_up (va_up (va_up (fun _ => none) 0 (some q_3)) 1 (some q_6)) 2 (some q_9)) 3 (some q_12)) 4 (some q_16)) 5 (some q_18)) 6 (some q_20))))))), (b, .inr (6, [.ref q_1, .null, .null, .null, .null, .int (nI 0)]))]) rfl) ?_
  refine r_iinc (v := nI 7) C dX2_init_77 rfl (by decide) (by decide) rfl ?_
  refine r_goto (tgt := 47) C dX2_init_80 (by decide) ?_
  refine r_iload_n C dX2_init_47 rfl ?_
  refine r_bipush (v := (nI 8)) C dX2_init_48 (by decide) ?_
  refine r_icN_ge (a := 7) (b := 8) (tgt := 83) C (Nat.le_of_ble_eq_true rfl) (Nat.le_of_ble_eq_true rfl) dX2_init_50 (by decide) (fun h_21 => ?_) (fun h_21 => ?_)
  · exact absurd h_21 (by decide)
  refine r_aload_n C dX2_init_53 rfl ?_
  refine g_get C qu_X2 (ci := 6) rfl (U.length + 12) (us_g rfl) 0 (by decide) qf_X2_11 rfl rfl dX2_init_54 ?_
  refine r_iload_n C dX2_init_57 rfl ?_
  refine r_new (fs := [.null, .int (nI 0), .int (nI 0), .int (nI 0), .int (nI 0), .int (nI 0)]) C qu_X1 tyX1 tyX1_ok qk_X2_9 qo_X1 qz_X1 (ci := 5) rfl fs0_X1 (Nat.le_of_ble_eq_true rfl) (Nat.le_of_ble_eq_true rfl) dX2_init_58 (fun q_22 => ?_)
  refine t_front ?_
  refine r_dup C dX2_init_61 rfl ?_
  refine r_iconst (v := (nI 0)) C dX2_init_62 (by decide) ?_
  refine r_aload_n C dX2_init_63 rfl ?_
  refine g_get C qu_X2 (ci := 6) rfl (U.length + 13) (us_g rfl) 0 (by decide) qf_X2_11 rfl rfl dX2_init_64 ?_
  refine r_iconst (v := (nI 0)) C dX2_init_67 (by decide) ?_
  refine g_aald C (i := 0) (t0 := 4) (x := q_3) (U.length + 12) (us_g rfl) rfl (Nat.le_of_ble_eq_true rfl) (Nat.le_of_ble_eq_true rfl) rfl dX2_init_68 ?_
  refine g_getN hX.1.1.1 C hE qu_X1 (ci := 5) rfl (U.length + 11) (us_g rfl) 0 (by decide) qn_X2_18 rfl rfl dX2_init_69 ?_
  refine r_iconst (v := (nI 0)) C dX2_init_72 (by decide) ?_
  refine d_I (st := [.ref q_22, .int (nI 7), .ref q_1]) hX.1.1.1.stb C hE (C_PartInit (q0 := U.length + 0) (it := q_4) (th := 0) (x := (nI 0)) (us_g rfl) (by decide)) pk_X1_init qm_X2_15 rfl rfl (Nat.le_of_ble_eq_true rfl) dX2_init_73 ⟨(Nat.le_of_ble_eq_true rfl), (Nat.le_of_ble_eq_true rfl)⟩ ⟨(Nat.le_of_ble_eq_true rfl), (Nat.le_of_ble_eq_true rfl)⟩ ?_
  refine r_w (us_t (L' := [(q_22, .inr (5, [.ref q_4, .int (nI 0), .int (nI 4294967295), .int (nI 0), .int (nI 0), .int (nI 0)])), (q_20, .inr (5, [.ref q_4, .int (nI 0), .int (nI 4294967295), .int (nI 0), .int (nI 0), .int (nI 0)])), (q_18, .inr (5, [.ref q_4, .int (nI 0), .int (nI 4294967295), .int (nI 0), .int (nI 0), .int (nI 0)])), (q_16, .inr (5, [.ref q_4, .int (nI 0), .int (nI 4294967295), .int (nI 0), .int (nI 0), .int (nI 0)])), (q_13, .inl (cy 1, 12, .inl (fun _ => 0))), (q_12, .inr (5, [.ref q_13, .int (nI 3), .int (nI 4294967295), .int (nI 0), .int (nI 0), .int (nI 1)])), (q_10, .inl (cy 1, 12, .inl (fun _ => 0))), (q_9, .inr (5, [.ref q_10, .int (nI 2), .int (nI 4294967295), .int (nI 0), .int (nI 0), .int (nI 1)])), (q_7, .inl (cy 1, 12, .inl (fun _ => 0))), (q_6, .inr (5, [.ref q_7, .int (nI 1), .int (nI 4294967295), .int (nI 0), .int (nI 0), .int (nI 1)])), (q_4, .inl (cy 1, 12, .inl (fun _ => 0))), (q_3, .inr (5, [.ref q_4, .int (nI 0), .int (nI 4294967295), .int (nI 0), .int (nI 0), .int (nI 1)])), (q_1, .inl (cy 4, 8, .inr (.inr (.inr (.inr (va_up (va_up (va_up (va_up (va_up (va_up (va_up (fun _ => none) 0 (some q_3)) 1 (some q_6)) 2 (some q_9)) 3 (some q_12)) 4 (some q_16)) 5 (some q_18)) 6 (some q_20))))))), (b, .inr (6, [.ref q_1, .null, .null, .null, .null, .int (nI 0)]))]) rfl) ?_
  refine r_astq C (i := 7) (r := (RX1, TX1, 6)) (U.length + 12) 4 (U.length + 0) 5 (us_g rfl) rfl (us_g rfl) rfl (Nat.le_of_ble_eq_true rfl) (Nat.le_of_ble_eq_true rfl) dX2_init_76 (us_t (L' := [(q_22, .inr (5, [.ref q_4, .int (nI 0), .int (nI 4294967295), .int (nI 0), .int (nI 0), .int (nI 0)])), (q_20, .inr (5, [.ref q_4, .int (nI 0), .int (nI 4294967295), .int (nI 0), .int (nI 0), .int (nI 0)])), (q_18, .inr (5, [.ref q_4, .int (nI 0), .int (nI 4294967295), .int (nI 0), .int (nI 0), .int (nI 0)])), (q_16, .inr (5, [.ref q_4, .int (nI 0), .int (nI 4294967295), .int (nI 0), .int (nI 0), .int (nI 0)])), (q_13, .inl (cy 1, 12, .inl (fun _ => 0))), (q_12, .inr (5, [.ref q_13, .int (nI 3), .int (nI 4294967295), .int (nI 0), .int (nI 0), .int (nI 1)])), (q_10, .inl (cy 1, 12, .inl (fun _ => 0))), (q_9, .inr (5, [.ref q_10, .int (nI 2), .int (nI 4294967295), .int (nI 0), .int (nI 0), .int (nI 1)])), (q_7, .inl (cy 1, 12, .inl (fun _ => 0))), (q_6, .inr (5, [.ref q_7, .int (nI 1), .int (nI 4294967295), .int (nI 0), .int (nI 0), .int (nI 1)])), (q_4, .inl (cy 1, 12, .inl (fun _ => 0))), (q_3, .inr (5, [.ref q_4, .int (nI 0), .int (nI 4294967295), .int (nI 0), .int (nI 0), .int (nI 1)])), (q_1, .inl (cy 4, 8, .inr (.inr (.inr (.inr (va_up (va_up (va_up (va_up (va_up (va_up (va_up (va_up (fun _ => none) 0 (some q_3)) 1 (some q_6)) 2 (some q_9)) 3 (some q_12)) 4 (some q_16)) 5 (some q_18)) 6 (some q_20)) 7 (some q_22))))))), (b, .inr (6, [.ref q_1, .null, .null, .null, .null, .int (nI 0)]))]) rfl) ?_
  refine r_iinc (v := nI 8) C dX2_init_77 rfl (by decide) (by decide) rfl ?_
  refine r_goto (tgt := 47) C dX2_init_80 (by decide) ?_
  refine r_iload_n C dX2_init_47 rfl ?_
  refine r_bipush (v := (nI 8)) C dX2_init_48 (by decide) ?_
  refine r_icN_ge (a := 8) (b := 8) (tgt := 83) C (Nat.le_of_ble_eq_true rfl) (Nat.le_of_ble_eq_true rfl) dX2_init_50 (by decide) (fun h_23 => ?_) (fun h_23 => ?_)
  rotate_left
  · exact absurd h_23 (by decide)
  refine r_aload_n C dX2_init_83 rfl ?_
  refine r_iconst (v := (nI 3)) C dX2_init_84 (by decide) ?_
  refine r_newq C (Cn := RX0) (hX.2 A s s.heap hE).1 (n := 3) 3 rfl qk_X2_22 (Nat.le_of_ble_eq_true rfl) (Nat.le_of_ble_eq_true rfl) (Nat.le_of_ble_eq_true rfl) dX2_init_85 (fun q_24 => ?_)
  refine t_front ?_
  refine g_putF (fs := [.ref q_1, .null, .null, .null, .null, .int (nI 0)]) C qu_X2 tyX2 tyX2_ok nmX2 (ci := 6) rfl (U.length + 14) (us_g rfl) 1 (by decide) qf_X2_24 rfl rfl (hn.trans rfl) rfl (ty := .array (.object RX0)) rfl rfl rfl (show 1 < 6 by omega) dX2_init_88 (us_t (L' := [(q_24, .inl (cy 3, 3, .inr (.inr (.inr (.inr (fun _ => none)))))), (q_22, .inr (5, [.ref q_4, .int (nI 0), .int (nI 4294967295), .int (nI 0), .int (nI 0), .int (nI 0)])), (q_20, .inr (5, [.ref q_4, .int (nI 0), .int (nI 4294967295), .int (nI 0), .int (nI 0), .int (nI 0)])), (q_18, .inr (5, [.ref q_4, .int (nI 0), .int (nI 4294967295), .int (nI 0), .int (nI 0), .int (nI 0)])), (q_16, .inr (5, [.ref q_4, .int (nI 0), .int (nI 4294967295), .int (nI 0), .int (nI 0), .int (nI 0)])), (q_13, .inl (cy 1, 12, .inl (fun _ => 0))), (q_12, .inr (5, [.ref q_13, .int (nI 3), .int (nI 4294967295), .int (nI 0), .int (nI 0), .int (nI 1)])), (q_10, .inl (cy 1, 12, .inl (fun _ => 0))), (q_9, .inr (5, [.ref q_10, .int (nI 2), .int (nI 4294967295), .int (nI 0), .int (nI 0), .int (nI 1)])), (q_7, .inl (cy 1, 12, .inl (fun _ => 0))), (q_6, .inr (5, [.ref q_7, .int (nI 1), .int (nI 4294967295), .int (nI 0), .int (nI 0), .int (nI 1)])), (q_4, .inl (cy 1, 12, .inl (fun _ => 0))), (q_3, .inr (5, [.ref q_4, .int (nI 0), .int (nI 4294967295), .int (nI 0), .int (nI 0), .int (nI 1)])), (q_1, .inl (cy 4, 8, .inr (.inr (.inr (.inr (va_up (va_up (va_up (va_up (va_up (va_up (va_up (va_up (fun _ => none) 0 (some q_3)) 1 (some q_6)) 2 (some q_9)) 3 (some q_12)) 4 (some q_16)) 5 (some q_18)) 6 (some q_20)) 7 (some q_22))))))), (b, .inr (6, [.ref q_1, .ref q_24, .null, .null, .null, .int (nI 0)]))]) rfl) ?_
  refine r_iconst (v := (nI 0)) C dX2_init_91 (by decide) ?_
  refine r_istore_n C dX2_init_92 (by decide) rfl ?_
  refine r_iload_n C dX2_init_93 rfl ?_
  refine r_iconst (v := (nI 3)) C dX2_init_94 (by decide) ?_
  refine r_icN_ge (a := 0) (b := 3) (tgt := 117) C (Nat.le_of_ble_eq_true rfl) (Nat.le_of_ble_eq_true rfl) dX2_init_95 (by decide) (fun h_25 => ?_) (fun h_25 => ?_)
  · exact absurd h_25 (by decide)
  refine r_aload_n C dX2_init_98 rfl ?_
  refine g_get C qu_X2 (ci := 6) rfl (U.length + 14) (us_g rfl) 1 (by decide) qf_X2_24 rfl rfl dX2_init_99 ?_
  refine r_iload_n C dX2_init_102 rfl ?_
  refine r_new (fs := [.int (nI 0), .int (nI 0), .int (nI 0), .int (nI 0)]) C qu_X0 tyX0 tyX0_ok qk_X2_22 qo_X0 qz_X0 (ci := 4) rfl fs0_X0 (Nat.le_of_ble_eq_true rfl) (Nat.le_of_ble_eq_true rfl) dX2_init_103 (fun q_26 => ?_)
  refine t_front ?_
  refine r_dup C dX2_init_106 rfl ?_
  refine d_I (st := [.ref q_26, .int (nI 0), .ref q_24]) hX.1.1.1.stb C hE (C_CurInit (q0 := U.length + 0) (us_g rfl)) pk_X0_init qm_X2_28 rfl rfl (Nat.le_of_ble_eq_true rfl) dX2_init_107 ⟨(Nat.le_of_ble_eq_true rfl), (Nat.le_of_ble_eq_true rfl)⟩ ⟨(Nat.le_of_ble_eq_true rfl), (Nat.le_of_ble_eq_true rfl)⟩ ?_
  refine r_w (us_t (L' := [(q_26, .inr (4, [.int (nI 0), .int (nI 0), .int (nI 4294967295), .int (nI 0)])), (q_24, .inl (cy 3, 3, .inr (.inr (.inr (.inr (fun _ => none)))))), (q_22, .inr (5, [.ref q_4, .int (nI 0), .int (nI 4294967295), .int (nI 0), .int (nI 0), .int (nI 0)])), (q_20, .inr (5, [.ref q_4, .int (nI 0), .int (nI 4294967295), .int (nI 0), .int (nI 0), .int (nI 0)])), (q_18, .inr (5, [.ref q_4, .int (nI 0), .int (nI 4294967295), .int (nI 0), .int (nI 0), .int (nI 0)])), (q_16, .inr (5, [.ref q_4, .int (nI 0), .int (nI 4294967295), .int (nI 0), .int (nI 0), .int (nI 0)])), (q_13, .inl (cy 1, 12, .inl (fun _ => 0))), (q_12, .inr (5, [.ref q_13, .int (nI 3), .int (nI 4294967295), .int (nI 0), .int (nI 0), .int (nI 1)])), (q_10, .inl (cy 1, 12, .inl (fun _ => 0))), (q_9, .inr (5, [.ref q_10, .int (nI 2), .int (nI 4294967295), .int (nI 0), .int (nI 0), .int (nI 1)])), (q_7, .inl (cy 1, 12, .inl (fun _ => 0))), (q_6, .inr (5, [.ref q_7, .int (nI 1), .int (nI 4294967295), .int (nI 0), .int (nI 0), .int (nI 1)])), (q_4, .inl (cy 1, 12, .inl (fun _ => 0))), (q_3, .inr (5, [.ref q_4, .int (nI 0), .int (nI 4294967295), .int (nI 0), .int (nI 0), .int (nI 1)])), (q_1, .inl (cy 4, 8, .inr (.inr (.inr (.inr (va_up (va_up (va_up (va_up (va_up (va_up (va_up (va_up (fun _ => none) 0 (some q_3)) 1 (some q_6)) 2 (some q_9)) 3 (some q_12)) 4 (some q_16)) 5 (some q_18)) 6 (some q_20)) 7 (some q_22))))))), (b, .inr (6, [.ref q_1, .ref q_24, .null, .null, .null, .int (nI 0)]))]) rfl) ?_
  refine r_astq C (i := 0) (r := (RX0, TX0, 4)) (U.length + 1) 3 (U.length + 0) 4 (us_g rfl) rfl (us_g rfl) rfl (Nat.le_of_ble_eq_true rfl) (Nat.le_of_ble_eq_true rfl) dX2_init_110 (us_t (L' := [(q_26, .inr (4, [.int (nI 0), .int (nI 0), .int (nI 4294967295), .int (nI 0)])), (q_24, .inl (cy 3, 3, .inr (.inr (.inr (.inr (va_up (fun _ => none) 0 (some q_26))))))), (q_22, .inr (5, [.ref q_4, .int (nI 0), .int (nI 4294967295), .int (nI 0), .int (nI 0), .int (nI 0)])), (q_20, .inr (5, [.ref q_4, .int (nI 0), .int (nI 4294967295), .int (nI 0), .int (nI 0), .int (nI 0)])), (q_18, .inr (5, [.ref q_4, .int (nI 0), .int (nI 4294967295), .int (nI 0), .int (nI 0), .int (nI 0)])), (q_16, .inr (5, [.ref q_4, .int (nI 0), .int (nI 4294967295), .int (nI 0), .int (nI 0), .int (nI 0)])), (q_13, .inl (cy 1, 12, .inl (fun _ => 0))), (q_12, .inr (5, [.ref q_13, .int (nI 3), .int (nI 4294967295), .int (nI 0), .int (nI 0), .int (nI 1)])), (q_10, .inl (cy 1, 12, .inl (fun _ => 0))), (q_9, .inr (5, [.ref q_10, .int (nI 2), .int (nI 4294967295), .int (nI 0), .int (nI 0), .int (nI 1)])), (q_7, .inl (cy 1, 12, .inl (fun _ => 0))), (q_6, .inr (5, [.ref q_7, .int (nI 1), .int (nI 4294967295), .int (nI 0), .int (nI 0), .int (nI 1)])), (q_4, .inl (cy 1, 12, .inl (fun _ => 0))), (q_3, .inr (5, [.ref q_4, .int (nI 0), .int (nI 4294967295), .int (nI 0), .int (nI 0), .int (nI 1)])), (q_1, .inl (cy 4, 8, .inr (.inr (.inr (.inr (va_up (va_up (va_up (va_up (va_up (va_up (va_up (va_up (fun _ => none) 0 (some q_3)) 1 (some q_6)) 2 (some q_9)) 3 (some q_12)) 4 (some q_16)) 5 (some q_18)) 6 (some q_20)) 7 (some q_22))))))), (b, .inr (6, [.ref q_1, .ref q_24, .null, .null, .null, .int (nI 0)]))]) rfl) ?_
  refine r_iinc (v := nI 1) C dX2_init_111 rfl (by decide) (by decide) rfl ?_
  refine r_goto (tgt := 93) C dX2_init_114 (by decide) ?_
  refine r_iload_n C dX2_init_93 rfl ?_
  refine r_iconst (v := (nI 3)) C dX2_init_94 (by decide) ?_
  refine r_icN_ge (a := 1) (b := 3) (tgt := 117) C (Nat.le_of_ble_eq_true rfl) (Nat.le_of_ble_eq_true rfl) dX2_init_95 (by decide) (fun h_27 => ?_) (fun h_27 => ?_)
  · exact absurd h_27 (by decide)
  refine r_aload_n C dX2_init_98 rfl ?_
  refine g_get C qu_X2 (ci := 6) rfl (U.length + 15) (us_g rfl) 1 (by decide) qf_X2_24 rfl rfl dX2_init_99 ?_
  refine r_iload_n C dX2_init_102 rfl ?_
  refine r_new (fs := [.int (nI 0), .int (nI 0), .int (nI 0), .int (nI 0)]) C qu_X0 tyX0 tyX0_ok qk_X2_22 qo_X0 qz_X0 (ci := 4) rfl fs0_X0 (Nat.le_of_ble_eq_true rfl) (Nat.le_of_ble_eq_true rfl) dX2_init_103 (fun q_28 => ?_)
  refine t_front ?_
  refine r_dup C dX2_init_106 rfl ?_
  refine d_I (st := [.ref q_28, .int (nI 1), .ref q_24]) hX.1.1.1.stb C hE (C_CurInit (q0 := U.length + 0) (us_g rfl)) pk_X0_init qm_X2_28 rfl rfl (Nat.le_of_ble_eq_true rfl) dX2_init_107 ⟨(Nat.le_of_ble_eq_true rfl), (Nat.le_of_ble_eq_true rfl)⟩ ⟨(Nat.le_of_ble_eq_true rfl), (Nat.le_of_ble_eq_true rfl)⟩ ?_
  refine r_w (us_t (L' := [(q_28, .inr (4, [.int (nI 0), .int (nI 0), .int (nI 4294967295), .int (nI 0)])), (q_26, .inr (4, [.int (nI 0), .int (nI 0), .int (nI 4294967295), .int (nI 0)])), (q_24, .inl (cy 3, 3, .inr (.inr (.inr (.inr (va_up (fun _ => none) 0 (some q_26))))))), (q_22, .inr (5, [.ref q_4, .int (nI 0), .int (nI 4294967295), .int (nI 0), .int (nI 0), .int (nI 0)])), (q_20, .inr (5, [.ref q_4, .int (nI 0), .int (nI 4294967295), .int (nI 0), .int (nI 0), .int (nI 0)])), (q_18, .inr (5, [.ref q_4, .int (nI 0), .int (nI 4294967295), .int (nI 0), .int (nI 0), .int (nI 0)])), (q_16, .inr (5, [.ref q_4, .int (nI 0), .int (nI 4294967295), .int (nI 0), .int (nI 0), .int (nI 0)])), (q_13, .inl (cy 1, 12, .inl (fun _ => 0))), (q_12, .inr (5, [.ref q_13, .int (nI 3), .int (nI 4294967295), .int (nI 0), .int (nI 0), .int (nI 1)])), (q_10, .inl (cy 1, 12, .inl (fun _ => 0))), (q_9, .inr (5, [.ref q_10, .int (nI 2), .int (nI 4294967295), .int (nI 0), .int (nI 0), .int (nI 1)])), (q_7, .inl (cy 1, 12, .inl (fun _ => 0))), (q_6, .inr (5, [.ref q_7, .int (nI 1), .int (nI 4294967295), .int (nI 0), .int (nI 0), .int (nI 1)])), (q_4, .inl (cy 1, 12, .inl (fun _ => 0))), (q_3, .inr (5, [.ref q_4, .int (nI 0), .int (nI 4294967295), .int (nI 0), .int (nI 0), .int (nI 1)])), (q_1, .inl (cy 4, 8, .inr (.inr (.inr (.inr (va_up (va_up (va_up (va_up (va_up (va_up (va_up (va_up (fun _ => none) 0 (some q_3)) 1 (some q_6)) 2 (some q_9)) 3 (some q_12)) 4 (some q_16)) 5 (some q_18)) 6 (some q_20)) 7 (some q_22))))))), (b, .inr (6, [.ref q_1, .ref q_24, .null, .null, .null, .int (nI 0)]))]) rfl) ?_
  refine r_astq C (i := 1) (r := (RX0, TX0, 4)) (U.length + 2) 3 (U.length + 0) 4 (us_g rfl) rfl (us_g rfl) rfl (Nat.le_of_ble_eq_true rfl) (Nat.le_of_ble_eq_true rfl) dX2_init_110 (us_t (L' := [(q_28, .inr (4, [.int (nI 0), .int (nI 0), .int (nI 4294967295), .int (nI 0)])), (q_26, .inr (4, [.int (nI 0), .int (nI 0), .int (nI 4294967295), .int (nI 0)])), (q_24, .inl (cy 3, 3, .inr (.inr (.inr (.inr (va_up (va_up (fun _ => none) 0 (some q_26)) 1 (some q_28))))))), (q_22, .inr (5, [.ref q_4, .int (nI 0), .int (nI 4294967295), .int (nI 0), .int (nI 0), .int (nI 0)])), (q_20, .inr (5, [.ref q_4, .int (nI 0), .int (nI 4294967295), .int (nI 0), .int (nI 0), .int (nI 0)])), (q_18, .inr (5, [.ref q_4, .int (nI 0), .int (nI 4294967295), .int (nI 0), .int (nI 0), .int (nI 0)])), (q_16, .inr (5, [.ref q_4, .int (nI 0), .int (nI 4294967295), .int (nI 0), .int (nI 0), .int (nI 0)])), (q_13, .inl (cy 1, 12, .inl (fun _ => 0))), (q_12, .inr (5, [.ref q_13, .int (nI 3), .int (nI 4294967295), .int (nI 0), .int (nI 0), .int (nI 1)])), (q_10, .inl (cy 1, 12, .inl (fun _ => 0))), (q_9, .inr (5, [.ref q_10, .int (nI 2), .int (nI 4294967295), .int (nI 0), .int (nI 0), .int (nI 1)])), (q_7, .inl (cy 1, 12, .inl (fun _ => 0))), (q_6, .inr (5, [.ref q_7, .int (nI 1), .int (nI 4294967295), .int (nI 0), .int (nI 0), .int (nI 1)])), (q_4, .inl (cy 1, 12, .inl (fun _ => 0))), (q_3, .inr (5, [.ref q_4, .int (nI 0), .int (nI 4294967295), .int (nI 0), .int (nI 0), .int (nI 1)])), (q_1, .inl (cy 4, 8, .inr (.inr (.inr (.inr (va_up (va_up (va_up (va_up (va_up (va_up (va_up (va_up (fun _ => none) 0 (some q_3)) 1 (some q_6)) 2 (some q_9)) 3 (some q_12)) 4 (some q_16)) 5 (some q_18)) 6 (some q_20)) 7 (some q_22))))))), (b, .inr (6, [.ref q_1, .ref q_24, .null, .null, .null, .int (nI 0)]))]) rfl) ?_
  refine r_iinc (v := nI 2) C dX2_init_111 rfl (by decide) (by decide) rfl ?_
  refine r_goto (tgt := 93) C dX2_init_114 (by decide) ?_
  refine r_iload_n C dX2_init_93 rfl ?_
  refine r_iconst (v := (nI 3)) C dX2_init_94 (by decide) ?_
  refine r_icN_ge (a := 2) (b := 3) (tgt := 117) C (Nat.le_of_ble_eq_true rfl) (Nat.le_of_ble_eq_true rfl) dX2_init_95 (by decide) (fun h_29 => ?_) (fun h_29 => ?_)
  · exact absurd h_29 (by decide)
  refine r_aload_n C dX2_init_98 rfl ?_
  refine g_get C qu_X2 (ci := 6) rfl (U.length + 16) (us_g rfl) 1 (by decide) qf_X2_24 rfl rfl dX2_init_99 ?_
  refine r_iload_n C dX2_init_102 rfl ?_
  refine r_new (fs := [.int (nI 0), .int (nI 0), .int (nI 0), .int (nI 0)]) C qu_X0 tyX0 tyX0_ok qk_X2_22 qo_X0 qz_X0 (ci := 4) rfl fs0_X0 (Nat.le_of_ble_eq_true rfl) (Nat.le_of_ble_eq_true rfl) dX2_init_103 (fun q_30 => ?_)
  refine t_front ?_
  refine r_dup C dX2_init_106 rfl ?_
  refine d_I (st := [.ref q_30, .int (nI 2), .ref q_24]) hX.1.1.1.stb C hE (C_CurInit (q0 := U.length + 0) (us_g rfl)) pk_X0_init qm_X2_28 rfl rfl (Nat.le_of_ble_eq_true rfl) dX2_init_107 ⟨(Nat.le_of_ble_eq_true rfl), (Nat.le_of_ble_eq_true rfl)⟩ ⟨(Nat.le_of_ble_eq_true rfl), (Nat.le_of_ble_eq_true rfl)⟩ ?_
  refine r_w (us_t (L' := [(q_30, .inr (4, [.int (nI 0), .int (nI 0), .int (nI 4294967295), .int (nI 0)])), (q_28, .inr (4, [.int (nI 0), .int (nI 0), .int (nI 4294967295), .int (nI 0)])), (q_26, .inr (4, [.int (nI 0), .int (nI 0), .int (nI 4294967295), .int (nI 0)])), (q_24, .inl (cy 3, 3, .inr (.inr (.inr (.inr (va_up (va_up (fun _ => none) 0 (some q_26)) 1 (some q_28))))))), (q_22, .inr (5, [.ref q_4, .int (nI 0), .int (nI 4294967295), .int (nI 0), .int (nI 0), .int (nI 0)])), (q_20, .inr (5, [.ref q_4, .int (nI 0), .int (nI 4294967295), .int (nI 0), .int (nI 0), .int (nI 0)])), (q_18, .inr (5, [.ref q_4, .int (nI 0), .int (nI 4294967295), .int (nI 0), .int (nI 0), .int (nI 0)])), (q_16, .inr (5, [.ref q_4, .int (nI 0), .int (nI 4294967295), .int (nI 0), .int (nI 0), .int (nI 0)])), (q_13, .inl (cy 1, 12, .inl (fun _ => 0))), (q_12, .inr (5, [.ref q_13, .int (nI 3), .int (nI 4294967295), .int (nI 0), .int (nI 0), .int (nI 1)])), (q_10, .inl (cy 1, 12, .inl (fun _ => 0))), (q_9, .inr (5, [.ref q_10, .int (nI 2), .int (nI 4294967295), .int (nI 0), .int (nI 0), .int (nI 1)])), (q_7, .inl (cy 1, 12, .inl (fun _ => 0))), (q_6, .inr (5, [.ref q_7, .int (nI 1), .int (nI 4294967295), .int (nI 0), .int (nI 0), .int (nI 1)])), (q_4, .inl (cy 1, 12, .inl (fun _ => 0))), (q_3, .inr (5, [.ref q_4, .int (nI 0), .int (nI 4294967295), .int (nI 0), .int (nI 0), .int (nI 1)])), (q_1, .inl (cy 4, 8, .inr (.inr (.inr (.inr (va_up (va_up (va_up (va_up (va_up (va_up (va_up (va_up (fun _ => none) 0 (some q_3)) 1 (some q_6)) 2 (some q_9)) 3 (some q_12)) 4 (some q_16)) 5 (some q_18)) 6 (some q_20)) 7 (some q_22))))))), (b, .inr (6, [.ref q_1, .ref q_24, .null, .null, .null, .int (nI 0)]))]) rfl) ?_
  refine r_astq C (i := 2) (r := (RX0, TX0, 4)) (U.length + 3) 3 (U.length + 0) 4 (us_g rfl) rfl (us_g rfl) rfl (Nat.le_of_ble_eq_true rfl) (Nat.le_of_ble_eq_true rfl) dX2_init_110 (us_t (L' := [(q_30, .inr (4, [.int (nI 0), .int (nI 0), .int (nI 4294967295), .int (nI 0)])), (q_28, .inr (4, [.int (nI 0), .int (nI 0), .int (nI 4294967295), .int (nI 0)])), (q_26, .inr (4, [.int (nI 0), .int (nI 0), .int (nI 4294967295), .int (nI 0)])), (q_24, .inl (cy 3, 3, .inr (.inr (.inr (.inr (va_up (va_up (va_up (fun _ => none) 0 (some q_26)) 1 (some q_28)) 2 (some q_30))))))), (q_22, .inr (5, [.ref q_4, .int (nI 0), .int (nI 4294967295), .int (nI 0), .int (nI 0), .int (nI 0)])), (q_20, .inr (5, [.ref q_4, .int (nI 0), .int (nI 4294967295), .int (nI 0), .int (nI 0), .int (nI 0)])), (q_18, .inr (5, [.ref q_4, .int (nI 0), .int (nI 4294967295), .int (nI 0), .int (nI 0), .int (nI 0)])), (q_16, .inr (5, [.ref q_4, .int (nI 0), .int (nI 4294967295), .int (nI 0), .int (nI 0), .int (nI 0)])), (q_13, .inl (cy 1, 12, .inl (fun _ => 0))), (q_12, .inr (5, [.ref q_13, .int (nI 3), .int (nI 4294967295), .int (nI 0), .int (nI 0), .int (nI 1)])), (q_10, .inl (cy 1, 12, .inl (fun _ => 0))), (q_9, .inr (5, [.ref q_10, .int (nI 2), .int (nI 4294967295), .int (nI 0), .int (nI 0), .int (nI 1)])), (q_7, .inl (cy 1, 12, .inl (fun _ => 0))), (q_6, .inr (5, [.ref q_7, .int (nI 1), .int (nI 4294967295), .int (nI 0), .int (nI 0), .int (nI 1)])), (q_4, .inl (cy 1, 12, .inl (fun _ => 0))), (q_3, .inr (5, [.ref q_4, .int (nI 0), .int (nI 4294967295), .int (nI 0), .int (nI 0), .int (nI 1)])), (q_1, .inl (cy 4, 8, .inr (.inr (.inr (.inr (va_up (va_up (va_up (va_up (va_up (va_up (va_up (va_up (fun _ => none) 0 (some q_3)) 1 (some q_6)) 2 (some q_9)) 3 (some q_12)) 4 (some q_16)) 5 (some q_18)) 6 (some q_20)) 7 (some q_22))))))), (b, .inr (6, [.ref q_1, .ref q_24, .null, .null, .null, .int (nI 0)]))]) rfl) ?_
  refine r_iinc (v := nI 3) C dX2_init_111 rfl (by decide) (by decide) rfl ?_
  refine r_goto (tgt := 93) C dX2_init_114 (by decide) ?_
  refine r_iload_n C dX2_init_93 rfl ?_
  refine r_iconst (v := (nI 3)) C dX2_init_94 (by decide) ?_
  refine r_icN_ge (a := 3) (b := 3) (tgt := 117) C (Nat.le_of_ble_eq_true rfl) (Nat.le_of_ble_eq_true rfl) dX2_init_95 (by decide) (fun h_31 => ?_) (fun h_31 => ?_)
  rotate_left
  · exact absurd h_31 (by decide)
  refine r_aload_n C dX2_init_117 rfl ?_
  refine r_new (fs := [.null, .int (nI 0), .int (nI 0), .int (nI 0), .int (nI 0), .int (nI 0)]) C qu_X1 tyX1 tyX1_ok qk_X2_9 qo_X1 qz_X1 (ci := 5) rfl fs0_X1 (Nat.le_of_ble_eq_true rfl) (Nat.le_of_ble_eq_true rfl) dX2_init_118 (fun q_32 => ?_)
  refine t_front ?_
  refine r_dup C dX2_init_121 rfl ?_
  refine r_iconst (v := (nI 4294967295)) C dX2_init_122 (by decide) ?_
  refine r_bipush (v := (nI 12)) C dX2_init_123 (by decide) ?_
  refine t_newI C .int .int 1 rfl (by simp) qa_int (n := 12) (Nat.le_of_ble_eq_true rfl) (Nat.le_of_ble_eq_true rfl) (Nat.le_of_ble_eq_true rfl) dX2_init_125 (fun q_33 => ?_)
  refine r_iconst (v := (nI 1)) C dX2_init_127 (by decide) ?_
  refine d_I (st := [.ref q_32, .ref b]) hX.1.1.1.stb C hE (C_PartInit (q0 := U.length + 1) (it := q_33) (th := 1) (x := (nI 4294967295)) (us_g rfl) (by decide)) pk_X1_init qm_X2_15 rfl rfl (Nat.le_of_ble_eq_true rfl) dX2_init_128 ⟨(Nat.le_of_ble_eq_true rfl), (Nat.le_of_ble_eq_true rfl)⟩ ⟨(Nat.le_of_ble_eq_true rfl), (Nat.le_of_ble_eq_true rfl)⟩ ?_
  refine r_w (us_t (L' := [(q_33, .inl (cy 1, 12, .inl (fun _ => 0))), (q_32, .inr (5, [.ref q_33, .int (nI 4294967295), .int (nI 4294967295), .int (nI 0), .int (nI 0), .int (nI 1)])), (q_30, .inr (4, [.int (nI 0), .int (nI 0), .int (nI 4294967295), .int (nI 0)])), (q_28, .inr (4, [.int (nI 0), .int (nI 0), .int (nI 4294967295), .int (nI 0)])), (q_26, .inr (4, [.int (nI 0), .int (nI 0), .int (nI 4294967295), .int (nI 0)])), (q_24, .inl (cy 3, 3, .inr (.inr (.inr (.inr (va_up (va_up (va_up (fun _ => none) 0 (some q_26)) 1 (some q_28)) 2 (some q_30))))))), (q_22, .inr (5, [.ref q_4, .int (nI 0), .int (nI 4294967295), .int (nI 0), .int (nI 0), .int (nI 0)])), (q_20, .inr (5, [.ref q_4, .int (nI 0), .int (nI 4294967295), .int (nI 0), .int (nI 0), .int (nI 0)])), (q_18, .inr (5, [.ref q_4, .int (nI 0), .int (nI 4294967295), .int (nI 0), .int (nI 0), .int (nI 0)])), (q_16, .inr (5, [.ref q_4, .int (nI 0), .int (nI 4294967295), .int (nI 0), .int (nI 0), .int (nI 0)])), (q_13, .inl (cy 1, 12, .inl (fun _ => 0))), (q_12, .inr (5, [.ref q_13, .int (nI 3), .int (nI 4294967295), .int (nI 0), .int (nI 0), .int (nI 1)])), (q_10, .inl (cy 1, 12, .inl (fun _ => 0))), (q_9, .inr (5, [.ref q_10, .int (nI 2), .int (nI 4294967295), .int (nI 0), .int (nI 0), .int (nI 1)])), (q_7, .inl (cy 1, 12, .inl (fun _ => 0))), (q_6, .inr (5, [.ref q_7, .int (nI 1), .int (nI 4294967295), .int (nI 0), .int (nI 0), .int (nI 1)])), (q_4, .inl (cy 1, 12, .inl (fun _ => 0))), (q_3, .inr (5, [.ref q_4, .int (nI 0), .int (nI 4294967295), .int (nI 0), .int (nI 0), .int (nI 1)])), (q_1, .inl (cy 4, 8, .inr (.inr (.inr (.inr (va_up (va_up (va_up (va_up (va_up (va_up (va_up (va_up (fun _ => none) 0 (some q_3)) 1 (some q_6)) 2 (some q_9)) 3 (some q_12)) 4 (some q_16)) 5 (some q_18)) 6 (some q_20)) 7 (some q_22))))))), (b, .inr (6, [.ref q_1, .ref q_24, .null, .null, .null, .int (nI 0)]))]) rfl) ?_
  refine g_putF (fs := [.ref q_1, .ref q_24, .null, .null, .null, .int (nI 0)]) C qu_X2 tyX2 tyX2_ok nmX2 (ci := 6) rfl (U.length + 19) (us_g rfl) 2 (by decide) qf_X2_29 rfl rfl (hn.trans rfl) rfl (ty := .object RX1) rfl rfl rfl (show 2 < 6 by omega) dX2_init_131 (us_t (L' := [(q_33, .inl (cy 1, 12, .inl (fun _ => 0))), (q_32, .inr (5, [.ref q_33, .int (nI 4294967295), .int (nI 4294967295), .int (nI 0), .int (nI 0), .int (nI 1)])), (q_30, .inr (4, [.int (nI 0), .int (nI 0), .int (nI 4294967295), .int (nI 0)])), (q_28, .inr (4, [.int (nI 0), .int (nI 0), .int (nI 4294967295), .int (nI 0)])), (q_26, .inr (4, [.int (nI 0), .int (nI 0), .int (nI 4294967295), .int (nI 0)])), (q_24, .inl (cy 3, 3, .inr (.inr (.inr (.inr (va_up (va_up (va_up (fun _ => none) 0 (some q_26)) 1 (some q_28)) 2 (some q_30))))))), (q_22, .inr (5, [.ref q_4, .int (nI 0), .int (nI 4294967295), .int (nI 0), .int (nI 0), .int (nI 0)])), (q_20, .inr (5, [.ref q_4, .int (nI 0), .int (nI 4294967295), .int (nI 0), .int (nI 0), .int (nI 0)])), (q_18, .inr (5, [.ref q_4, .int (nI 0), .int (nI 4294967295), .int (nI 0), .int (nI 0), .int (nI 0)])), (q_16, .inr (5, [.ref q_4, .int (nI 0), .int (nI 4294967295), .int (nI 0), .int (nI 0), .int (nI 0)])), (q_13, .inl (cy 1, 12, .inl (fun _ => 0))), (q_12, .inr (5, [.ref q_13, .int (nI 3), .int (nI 4294967295), .int (nI 0), .int (nI 0), .int (nI 1)])), (q_10, .inl (cy 1, 12, .inl (fun _ => 0))), (q_9, .inr (5, [.ref q_10, .int (nI 2), .int (nI 4294967295), .int (nI 0), .int (nI 0), .int (nI 1)])), (q_7, .inl (cy 1, 12, .inl (fun _ => 0))), (q_6, .inr (5, [.ref q_7, .int (nI 1), .int (nI 4294967295), .int (nI 0), .int (nI 0), .int (nI 1)])), (q_4, .inl (cy 1, 12, .inl (fun _ => 0))), (q_3, .inr (5, [.ref q_4, .int (nI 0), .int (nI 4294967295), .int (nI 0), .int (nI 0), .int (nI 1)])), (q_1, .inl (cy 4, 8, .inr (.inr (.inr (.inr (va_up (va_up (va_up (va_up (va_up (va_up (va_up (va_up (fun _ => none) 0 (some q_3)) 1 (some q_6)) 2 (some q_9)) 3 (some q_12)) 4 (some q_16)) 5 (some q_18)) 6 (some q_20)) 7 (some q_22))))))), (b, .inr (6, [.ref q_1, .ref q_24, .ref q_32, .null, .null, .int (nI 0)]))]) rfl) ?_
  refine r_aload_n C dX2_init_134 rfl ?_
  refine r_new (fs := [.null, .int (nI 0), .int (nI 0), .int (nI 0), .int (nI 0), .int (nI 0)]) C qu_X1 tyX1 tyX1_ok qk_X2_9 qo_X1 qz_X1 (ci := 5) rfl fs0_X1 (Nat.le_of_ble_eq_true rfl) (Nat.le_of_ble_eq_true rfl) dX2_init_135 (fun q_34 => ?_)
  refine t_front ?_
  refine r_dup C dX2_init_138 rfl ?_
  refine r_iconst (v := (nI 4294967295)) C dX2_init_139 (by decide) ?_
  refine r_bipush (v := (nI 12)) C dX2_init_140 (by decide) ?_
  refine t_newI C .int .int 1 rfl (by simp) qa_int (n := 12) (Nat.le_of_ble_eq_true rfl) (Nat.le_of_ble_eq_true rfl) (Nat.le_of_ble_eq_true rfl) dX2_init_142 (fun q_35 => ?_)
  refine r_iconst (v := (nI 1)) C dX2_init_144 (by decide) ?_
  refine d_I (st := [.ref q_34, .ref b]) hX.1.1.1.stb C hE (C_PartInit (q0 := U.length + 1) (it := q_35) (th := 1) (x := (nI 4294967295)) (us_g rfl) (by decide)) pk_X1_init qm_X2_15 rfl rfl (Nat.le_of_ble_eq_true rfl) dX2_init_145 ⟨(Nat.le_of_ble_eq_true rfl), (Nat.le_of_ble_eq_true rfl)⟩ ⟨(Nat.le_of_ble_eq_true rfl), (Nat.le_of_ble_eq_true rfl)⟩ ?_
  refine r_w (us_t (L' := [(q_35, .inl (cy 1, 12, .inl (fun _ => 0))), (q_34, .inr (5, [.ref q_35, .int (nI 4294967295), .int (nI 4294967295), .int (nI 0), .int (nI 0), .int (nI 1)])), (q_33, .inl (cy 1, 12, .inl (fun _ => 0))), (q_32, .inr (5, [.ref q_33, .int (nI 4294967295), .int (nI 4294967295), .int (nI 0), .int (nI 0), .int (nI 1)])), (q_30, .inr (4, [.int (nI 0), .int (nI 0), .int (nI 4294967295), .int (nI 0)])), (q_28, .inr (4, [.int (nI 0), .int (nI 0), .int (nI 4294967295), .int (nI 0)])), (q_26, .inr (4, [.int (nI 0), .int (nI 0), .int (nI 4294967295), .int (nI 0)])), (q_24, .inl (cy 3, 3, .inr (.inr (.inr (.inr (va_up (va_up (va_up (fun _ => none) 0 (some q_26)) 1 (some q_28)) 2 (some q_30))))))), (q_22, .inr (5, [.ref q_4, .int (nI 0), .int (nI 4294967295), .int (nI 0), .int (nI 0), .int (nI 0)])), (q_20, .inr (5, [.ref q_4, .int (nI 0), .int (nI 4294967295), .int (nI 0), .int (nI 0), .int (nI 0)])), (q_18, .inr (5, [.ref q_4, .int (nI 0), .int (nI 4294967295), .int (nI 0), .int (nI 0), .int (nI 0)])), (q_16, .inr (5, [.ref q_4, .int (nI 0), .int (nI 4294967295), .int (nI 0), .int (nI 0), .int (nI 0)])), (q_13, .inl (cy 1, 12, .inl (fun _ => 0))), (q_12, .inr (5, [.ref q_13, .int (nI 3), .int (nI 4294967295), .int (nI 0), .int (nI 0), .int (nI 1)])), (q_10, .inl (cy 1, 12, .inl (fun _ => 0))), (q_9, .inr (5, [.ref q_10, .int (nI 2), .int (nI 4294967295), .int (nI 0), .int (nI 0), .int (nI 1)])), (q_7, .inl (cy 1, 12, .inl (fun _ => 0))), (q_6, .inr (5, [.ref q_7, .int (nI 1), .int (nI 4294967295), .int (nI 0), .int (nI 0), .int (nI 1)])), (q_4, .inl (cy 1, 12, .inl (fun _ => 0))), (q_3, .inr (5, [.ref q_4, .int (nI 0), .int (nI 4294967295), .int (nI 0), .int (nI 0), .int (nI 1)])), (q_1, .inl (cy 4, 8, .inr (.inr (.inr (.inr (va_up (va_up (va_up (va_up (va_up (va_up (va_up (va_up (fun _ => none) 0 (some q_3)) 1 (some q_6)) 2 (some q_9)) 3 (some q_12)) 4 (some q_16)) 5 (some q_18)) 6 (some q_20)) 7 (some q_22))))))), (b, .inr (6, [.ref q_1, .ref q_24, .ref q_32, .null, .null, .int (nI 0)]))]) rfl) ?_
  refine g_putF (fs := [.ref q_1, .ref q_24, .ref q_32, .null, .null, .int (nI 0)]) C qu_X2 tyX2 tyX2_ok nmX2 (ci := 6) rfl (U.length + 21) (us_g rfl) 3 (by decide) qf_X2_33 rfl rfl (hn.trans rfl) rfl (ty := .object RX1) rfl rfl rfl (show 3 < 6 by omega) dX2_init_148 (us_t (L' := [(q_35, .inl (cy 1, 12, .inl (fun _ => 0))), (q_34, .inr (5, [.ref q_35, .int (nI 4294967295), .int (nI 4294967295), .int (nI 0), .int (nI 0), .int (nI 1)])), (q_33, .inl (cy 1, 12, .inl (fun _ => 0))), (q_32, .inr (5, [.ref q_33, .int (nI 4294967295), .int (nI 4294967295), .int (nI 0), .int (nI 0), .int (nI 1)])), (q_30, .inr (4, [.int (nI 0), .int (nI 0), .int (nI 4294967295), .int (nI 0)])), (q_28, .inr (4, [.int (nI 0), .int (nI 0), .int (nI 4294967295), .int (nI 0)])), (q_26, .inr (4, [.int (nI 0), .int (nI 0), .int (nI 4294967295), .int (nI 0)])), (q_24, .inl (cy 3, 3, .inr (.inr (.inr (.inr (va_up (va_up (va_up (fun _ => none) 0 (some q_26)) 1 (some q_28)) 2 (some q_30))))))), (q_22, .inr (5, [.ref q_4, .int (nI 0), .int (nI 4294967295), .int (nI 0), .int (nI 0), .int (nI 0)])), (q_20, .inr (5, [.ref q_4, .int (nI 0), .int (nI 4294967295), .int (nI 0), .int (nI 0), .int (nI 0)])), (q_18, .inr (5, [.ref q_4, .int (nI 0), .int (nI 4294967295), .int (nI 0), .int (nI 0), .int (nI 0)])), (q_16, .inr (5, [.ref q_4, .int (nI 0), .int (nI 4294967295), .int (nI 0), .int (nI 0), .int (nI 0)])), (q_13, .inl (cy 1, 12, .inl (fun _ => 0))), (q_12, .inr (5, [.ref q_13, .int (nI 3), .int (nI 4294967295), .int (nI 0), .int (nI 0), .int (nI 1)])), (q_10, .inl (cy 1, 12, .inl (fun _ => 0))), (q_9, .inr (5, [.ref q_10, .int (nI 2), .int (nI 4294967295), .int (nI 0), .int (nI 0), .int (nI 1)])), (q_7, .inl (cy 1, 12, .inl (fun _ => 0))), (q_6, .inr (5, [.ref q_7, .int (nI 1), .int (nI 4294967295), .int (nI 0), .int (nI 0), .int (nI 1)])), (q_4, .inl (cy 1, 12, .inl (fun _ => 0))), (q_3, .inr (5, [.ref q_4, .int (nI 0), .int (nI 4294967295), .int (nI 0), .int (nI 0), .int (nI 1)])), (q_1, .inl (cy 4, 8, .inr (.inr (.inr (.inr (va_up (va_up (va_up (va_up (va_up (va_up (va_up (va_up (fun _ => none) 0 (some q_3)) 1 (some q_6)) 2 (some q_9)) 3 (some q_12)) 4 (some q_16)) 5 (some q_18)) 6 (some q_20)) 7 (some q_22))))))), (b, .inr (6, [.ref q_1, .ref q_24, .ref q_32, .ref q_34, .null, .int (nI 0)]))]) rfl) ?_
  refine r_aload_n C dX2_init_151 rfl ?_
  refine r_new (fs := [.null, .int (nI 0), .int (nI 0), .int (nI 0), .int (nI 0), .int (nI 0)]) C qu_X1 tyX1 tyX1_ok qk_X2_9 qo_X1 qz_X1 (ci := 5) rfl fs0_X1 (Nat.le_of_ble_eq_true rfl) (Nat.le_of_ble_eq_true rfl) dX2_init_152 (fun q_36 => ?_)
  refine t_front ?_
  refine r_dup C dX2_init_155 rfl ?_
  refine r_iconst (v := (nI 4294967295)) C dX2_init_156 (by decide) ?_
  refine r_bipush (v := (nI 12)) C dX2_init_157 (by decide) ?_
  refine t_newI C .int .int 1 rfl (by simp) qa_int (n := 12) (Nat.le_of_ble_eq_true rfl) (Nat.le_of_ble_eq_true rfl) (Nat.le_of_ble_eq_true rfl) dX2_init_159 (fun q_37 => ?_)
  refine r_iconst (v := (nI 1)) C dX2_init_161 (by decide) ?_
  refine d_I (st := [.ref q_36, .ref b]) hX.1.1.1.stb C hE (C_PartInit (q0 := U.length + 1) (it := q_37) (th := 1) (x := (nI 4294967295)) (us_g rfl) (by decide)) pk_X1_init qm_X2_15 rfl rfl (Nat.le_of_ble_eq_true rfl) dX2_init_162 ⟨(Nat.le_of_ble_eq_true rfl), (Nat.le_of_ble_eq_true rfl)⟩ ⟨(Nat.le_of_ble_eq_true rfl), (Nat.le_of_ble_eq_true rfl)⟩ ?_
  refine r_w (us_t (L' := [(q_37, .inl (cy 1, 12, .inl (fun _ => 0))), (q_36, .inr (5, [.ref q_37, .int (nI 4294967295), .int (nI 4294967295), .int (nI 0), .int (nI 0), .int (nI 1)])), (q_35, .inl (cy 1, 12, .inl (fun _ => 0))), (q_34, .inr (5, [.ref q_35, .int (nI 4294967295), .int (nI 4294967295), .int (nI 0), .int (nI 0), .int (nI 1)])), (q_33, .inl (cy 1, 12, .inl (fun _ => 0))), (q_32, .inr (5, [.ref q_33, .int (nI 4294967295), .int (nI 4294967295), .int (nI 0), .int (nI 0), .int (nI 1)])), (q_30, .inr (4, [.int (nI 0), .int (nI 0), .int (nI 4294967295), .int (nI 0)])), (q_28, .inr (4, [.int (nI 0), .int (nI 0), .int (nI 4294967295), .int (nI 0)])), (q_26, .inr (4, [.int (nI 0), .int (nI 0), .int (nI 4294967295), .int (nI 0)])), (q_24, .inl (cy 3, 3, .inr (.inr (.inr (.inr (va_up (va_up (va_up (fun _ => none) 0 (some q_26)) 1 (some q_28)) 2 (some q_30))))))), (q_22, .inr (5, [.ref q_4, .int (nI 0), .int (nI 4294967295), .int (nI 0), .int (nI 0), .int (nI 0)])), (q_20, .inr (5, [.ref q_4, .int (nI 0), .int (nI 4294967295), .int (nI 0), .int (nI 0), .int (nI 0)])), (q_18, .inr (5, [.ref q_4, .int (nI 0), .int (nI 4294967295), .int (nI 0), .int (nI 0), .int (nI 0)])), (q_16, .inr (5, [.ref q_4, .int (nI 0), .int (nI 4294967295), .int (nI 0), .int (nI 0), .int (nI 0)])), (q_13, .inl (cy 1, 12, .inl (fun _ => 0))), (q_12, .inr (5, [.ref q_13, .int (nI 3), .int (nI 4294967295), .int (nI 0), .int (nI 0), .int (nI 1)])), (q_10, .inl (cy 1, 12, .inl (fun _ => 0))), (q_9, .inr (5, [.ref q_10, .int (nI 2), .int (nI 4294967295), .int (nI 0), .int (nI 0), .int (nI 1)])), (q_7, .inl (cy 1, 12, .inl (fun _ => 0))), (q_6, .inr (5, [.ref q_7, .int (nI 1), .int (nI 4294967295), .int (nI 0), .int (nI 0), .int (nI 1)])), (q_4, .inl (cy 1, 12, .inl (fun _ => 0))), (q_3, .inr (5, [.ref q_4, .int (nI 0), .int (nI 4294967295), .int (nI 0), .int (nI 0), .int (nI 1)])), (q_1, .inl (cy 4, 8, .inr (.inr (.inr (.inr (va_up (va_up (va_up (va_up (va_up (va_up (va_up (va_up (fun _ => none) 0 (some q_3)) 1 (some q_6)) 2 (some q_9)) 3 (some q_12)) 4 (some q_16)) 5 (some q_18)) 6 (some q_20)) 7 (some q_22))))))), (b, .inr (6, [.ref q_1, .ref q_24, .ref q_32, .ref q_34, .null, .int (nI 0)]))]) rfl) ?_
  refine g_putF (fs := [.ref q_1, .ref q_24, .ref q_32, .ref q_34, .null, .int (nI 0)]) C qu_X2 tyX2 tyX2_ok nmX2 (ci := 6) rfl (U.length + 23) (us_g rfl) 4 (by decide) qf_X2_36 rfl rfl (hn.trans rfl) rfl (ty := .object RX1) rfl rfl rfl (show 4 < 6 by omega) dX2_init_165 (us_t (L' := [(q_37, .inl (cy 1, 12, .inl (fun _ => 0))), (q_36, .inr (5, [.ref q_37, .int (nI 4294967295), .int (nI 4294967295), .int (nI 0), .int (nI 0), .int (nI 1)])), (q_35, .inl (cy 1, 12, .inl (fun _ => 0))), (q_34, .inr (5, [.ref q_35, .int (nI 4294967295), .int (nI 4294967295), .int (nI 0), .int (nI 0), .int (nI 1)])), (q_33, .inl (cy 1, 12, .inl (fun _ => 0))), (q_32, .inr (5, [.ref q_33, .int (nI 4294967295), .int (nI 4294967295), .int (nI 0), .int (nI 0), .int (nI 1)])), (q_30, .inr (4, [.int (nI 0), .int (nI 0), .int (nI 4294967295), .int (nI 0)])), (q_28, .inr (4, [.int (nI 0), .int (nI 0), .int (nI 4294967295), .int (nI 0)])), (q_26, .inr (4, [.int (nI 0), .int (nI 0), .int (nI 4294967295), .int (nI 0)])), (q_24, .inl (cy 3, 3, .inr (.inr (.inr (.inr (va_up (va_up (va_up (fun _ => none) 0 (some q_26)) 1 (some q_28)) 2 (some q_30))))))), (q_22, .inr (5, [.ref q_4, .int (nI 0), .int (nI 4294967295), .int (nI 0), .int (nI 0), .int (nI 0)])), (q_20, .inr (5, [.ref q_4, .int (nI 0), .int (nI 4294967295), .int (nI 0), .int (nI 0), .int (nI 0)])), (q_18, .inr (5, [.ref q_4, .int (nI 0), .int (nI 4294967295), .int (nI 0), .int (nI 0), .int (nI 0)])), (q_16, .inr (5, [.ref q_4, .int (nI 0), .int (nI 4294967295), .int (nI 0), .int (nI 0), .int (nI 0)])), (q_13, .inl (cy 1, 12, .inl (fun _ => 0))), (q_12, .inr (5, [.ref q_13, .int (nI 3), .int (nI 4294967295), .int (nI 0), .int (nI 0), .int (nI 1)])), (q_10, .inl (cy 1, 12, .inl (fun _ => 0))), (q_9, .inr (5, [.ref q_10, .int (nI 2), .int (nI 4294967295), .int (nI 0), .int (nI 0), .int (nI 1)])), (q_7, .inl (cy 1, 12, .inl (fun _ => 0))), (q_6, .inr (5, [.ref q_7, .int (nI 1), .int (nI 4294967295), .int (nI 0), .int (nI 0), .int (nI 1)])), (q_4, .inl (cy 1, 12, .inl (fun _ => 0))), (q_3, .inr (5, [.ref q_4, .int (nI 0), .int (nI 4294967295), .int (nI 0), .int (nI 0), .int (nI 1)])), (q_1, .inl (cy 4, 8, .inr (.inr (.inr (.inr (va_up (va_up (va_up (va_up (va_up (va_up (va_up (va_up (fun _ => none) 0 (some q_3)) 1 (some q_6)) 2 (some q_9)) 3 (some q_12)) 4 (some q_16)) 5 (some q_18)) 6 (some q_20)) 7 (some q_22))))))), (b, .inr (6, [.ref q_1, .ref q_24, .ref q_32, .ref q_34, .ref q_36, .int (nI 0)]))]) rfl) ?_
  obtain ⟨a, ha⟩ : ∃ a : Nat → Nat → Nat, a = fun k i => (([[b, q_1, q_24], [q_3, q_6, q_9, q_12, q_16, q_18, q_20, q_22, q_32, q_34, q_36], [q_4, q_7, q_10, q_13, q_33, q_35, q_37], [q_26, q_28, q_30]] : List (List Nat)).getD k []).getD i 0 := ⟨_, rfl⟩
  refine r_cellQ (g := fun i => some (a 1 i)) (U.length + 22) (us_g rfl) (fun j hj => by subst ha; rcases (show j = 0 ∨ j = 1 ∨ j = 2 ∨ j = 3 ∨ j = 4 ∨ j = 5 ∨ j = 6 ∨ j = 7 by omega) with rfl | rfl | rfl | rfl | rfl | rfl | rfl | rfl <;> rfl) (us_t (L' := [(q_37, .inl (cy 1, 12, .inl (fun _ => 0))), (q_36, .inr (5, [.ref q_37, .int (nI 4294967295), .int (nI 4294967295), .int (nI 0), .int (nI 0), .int (nI 1)])), (q_35, .inl (cy 1, 12, .inl (fun _ => 0))), (q_34, .inr (5, [.ref q_35, .int (nI 4294967295), .int (nI 4294967295), .int (nI 0), .int (nI 0), .int (nI 1)])), (q_33, .inl (cy 1, 12, .inl (fun _ => 0))), (q_32, .inr (5, [.ref q_33, .int (nI 4294967295), .int (nI 4294967295), .int (nI 0), .int (nI 0), .int (nI 1)])), (q_30, .inr (4, [.int (nI 0), .int (nI 0), .int (nI 4294967295), .int (nI 0)])), (q_28, .inr (4, [.int (nI 0), .int (nI 0), .int (nI 4294967295), .int (nI 0)])), (q_26, .inr (4, [.int (nI 0), .int (nI 0), .int (nI 4294967295), .int (nI 0)])), (q_24, .inl (cy 3, 3, .inr (.inr (.inr (.inr (va_up (va_up (va_up (fun _ => none) 0 (some q_26)) 1 (some q_28)) 2 (some q_30))))))), (q_22, .inr (5, [.ref q_4, .int (nI 0), .int (nI 4294967295), .int (nI 0), .int (nI 0), .int (nI 0)])), (q_20, .inr (5, [.ref q_4, .int (nI 0), .int (nI 4294967295), .int (nI 0), .int (nI 0), .int (nI 0)])), (q_18, .inr (5, [.ref q_4, .int (nI 0), .int (nI 4294967295), .int (nI 0), .int (nI 0), .int (nI 0)])), (q_16, .inr (5, [.ref q_4, .int (nI 0), .int (nI 4294967295), .int (nI 0), .int (nI 0), .int (nI 0)])), (q_13, .inl (cy 1, 12, .inl (fun _ => 0))), (q_12, .inr (5, [.ref q_13, .int (nI 3), .int (nI 4294967295), .int (nI 0), .int (nI 0), .int (nI 1)])), (q_10, .inl (cy 1, 12, .inl (fun _ => 0))), (q_9, .inr (5, [.ref q_10, .int (nI 2), .int (nI 4294967295), .int (nI 0), .int (nI 0), .int (nI 1)])), (q_7, .inl (cy 1, 12, .inl (fun _ => 0))), (q_6, .inr (5, [.ref q_7, .int (nI 1), .int (nI 4294967295), .int (nI 0), .int (nI 0), .int (nI 1)])), (q_4, .inl (cy 1, 12, .inl (fun _ => 0))), (q_3, .inr (5, [.ref q_4, .int (nI 0), .int (nI 4294967295), .int (nI 0), .int (nI 0), .int (nI 1)])), (q_1, .inl (cy 4, 8, .inr (.inr (.inr (.inr (fun i => some (a 1 i))))))), (b, .inr (6, [.ref q_1, .ref q_24, .ref q_32, .ref q_34, .ref q_36, .int (nI 0)]))]) rfl) ?_
  refine r_cellQ (g := fun i => some (a 3 i)) (U.length + 9) (us_g rfl) (fun j hj => by subst ha; rcases (show j = 0 ∨ j = 1 ∨ j = 2 by omega) with rfl | rfl | rfl <;> rfl) (us_t (L' := [(q_37, .inl (cy 1, 12, .inl (fun _ => 0))), (q_36, .inr (5, [.ref q_37, .int (nI 4294967295), .int (nI 4294967295), .int (nI 0), .int (nI 0), .int (nI 1)])), (q_35, .inl (cy 1, 12, .inl (fun _ => 0))), (q_34, .inr (5, [.ref q_35, .int (nI 4294967295), .int (nI 4294967295), .int (nI 0), .int (nI 0), .int (nI 1)])), (q_33, .inl (cy 1, 12, .inl (fun _ => 0))), (q_32, .inr (5, [.ref q_33, .int (nI 4294967295), .int (nI 4294967295), .int (nI 0), .int (nI 0), .int (nI 1)])), (q_30, .inr (4, [.int (nI 0), .int (nI 0), .int (nI 4294967295), .int (nI 0)])), (q_28, .inr (4, [.int (nI 0), .int (nI 0), .int (nI 4294967295), .int (nI 0)])), (q_26, .inr (4, [.int (nI 0), .int (nI 0), .int (nI 4294967295), .int (nI 0)])), (q_24, .inl (cy 3, 3, .inr (.inr (.inr (.inr (fun i => some (a 3 i))))))), (q_22, .inr (5, [.ref q_4, .int (nI 0), .int (nI 4294967295), .int (nI 0), .int (nI 0), .int (nI 0)])), (q_20, .inr (5, [.ref q_4, .int (nI 0), .int (nI 4294967295), .int (nI 0), .int (nI 0), .int (nI 0)])), (q_18, .inr (5, [.ref q_4, .int (nI 0), .int (nI 4294967295), .int (nI 0), .int (nI 0), .int (nI 0)])), (q_16, .inr (5, [.ref q_4, .int (nI 0), .int (nI 4294967295), .int (nI 0), .int (nI 0), .int (nI 0)])), (q_13, .inl (cy 1, 12, .inl (fun _ => 0))), (q_12, .inr (5, [.ref q_13, .int (nI 3), .int (nI 4294967295), .int (nI 0), .int (nI 0), .int (nI 1)])), (q_10, .inl (cy 1, 12, .inl (fun _ => 0))), (q_9, .inr (5, [.ref q_10, .int (nI 2), .int (nI 4294967295), .int (nI 0), .int (nI 0), .int (nI 1)])), (q_7, .inl (cy 1, 12, .inl (fun _ => 0))), (q_6, .inr (5, [.ref q_7, .int (nI 1), .int (nI 4294967295), .int (nI 0), .int (nI 0), .int (nI 1)])), (q_4, .inl (cy 1, 12, .inl (fun _ => 0))), (q_3, .inr (5, [.ref q_4, .int (nI 0), .int (nI 4294967295), .int (nI 0), .int (nI 0), .int (nI 1)])), (q_1, .inl (cy 4, 8, .inr (.inr (.inr (.inr (fun i => some (a 1 i))))))), (b, .inr (6, [.ref q_1, .ref q_24, .ref q_32, .ref q_34, .ref q_36, .int (nI 0)]))]) rfl) ?_
  refine t_perm [(q_37, .inl (cy 1, 12, .inl (fun _ => 0))), (q_36, .inr (5, [.ref q_37, .int (nI 4294967295), .int (nI 4294967295), .int (nI 0), .int (nI 0), .int (nI 1)])), (q_35, .inl (cy 1, 12, .inl (fun _ => 0))), (q_34, .inr (5, [.ref q_35, .int (nI 4294967295), .int (nI 4294967295), .int (nI 0), .int (nI 0), .int (nI 1)])), (q_33, .inl (cy 1, 12, .inl (fun _ => 0))), (q_32, .inr (5, [.ref q_33, .int (nI 4294967295), .int (nI 4294967295), .int (nI 0), .int (nI 0), .int (nI 1)])), (q_30, .inr (4, [.int (nI 0), .int (nI 0), .int (nI 4294967295), .int (nI 0)])), (q_28, .inr (4, [.int (nI 0), .int (nI 0), .int (nI 4294967295), .int (nI 0)])), (q_26, .inr (4, [.int (nI 0), .int (nI 0), .int (nI 4294967295), .int (nI 0)])), (q_24, .inl (cy 3, 3, .inr (.inr (.inr (.inr (fun i => some (a 3 i))))))), (q_22, .inr (5, [.ref q_4, .int (nI 0), .int (nI 4294967295), .int (nI 0), .int (nI 0), .int (nI 0)])), (q_20, .inr (5, [.ref q_4, .int (nI 0), .int (nI 4294967295), .int (nI 0), .int (nI 0), .int (nI 0)])), (q_18, .inr (5, [.ref q_4, .int (nI 0), .int (nI 4294967295), .int (nI 0), .int (nI 0), .int (nI 0)])), (q_16, .inr (5, [.ref q_4, .int (nI 0), .int (nI 4294967295), .int (nI 0), .int (nI 0), .int (nI 0)])), (q_13, .inl (cy 1, 12, .inl (fun _ => 0))), (q_12, .inr (5, [.ref q_13, .int (nI 3), .int (nI 4294967295), .int (nI 0), .int (nI 0), .int (nI 1)])), (q_10, .inl (cy 1, 12, .inl (fun _ => 0))), (q_9, .inr (5, [.ref q_10, .int (nI 2), .int (nI 4294967295), .int (nI 0), .int (nI 0), .int (nI 1)])), (q_7, .inl (cy 1, 12, .inl (fun _ => 0))), (q_6, .inr (5, [.ref q_7, .int (nI 1), .int (nI 4294967295), .int (nI 0), .int (nI 0), .int (nI 1)])), (q_4, .inl (cy 1, 12, .inl (fun _ => 0))), (q_3, .inr (5, [.ref q_4, .int (nI 0), .int (nI 4294967295), .int (nI 0), .int (nI 0), .int (nI 1)])), (q_1, .inl (cy 4, 8, .inr (.inr (.inr (.inr (fun i => some (a 1 i))))))), (b, .inr (6, [.ref q_1, .ref q_24, .ref q_32, .ref q_34, .ref q_36, .int (nI 0)]))] [(b, .inr (6, [.ref q_1, .ref q_24, .ref q_32, .ref q_34, .ref q_36, .int (nI 0)])), (q_1, .inl (cy 4, 8, .inr (.inr (.inr (.inr (fun i => some (a 1 i))))))), (q_24, .inl (cy 3, 3, .inr (.inr (.inr (.inr (fun i => some (a 3 i))))))), (q_3, .inr (5, [.ref q_4, .int (nI 0), .int (nI 4294967295), .int (nI 0), .int (nI 0), .int (nI 1)])), (q_6, .inr (5, [.ref q_7, .int (nI 1), .int (nI 4294967295), .int (nI 0), .int (nI 0), .int (nI 1)])), (q_9, .inr (5, [.ref q_10, .int (nI 2), .int (nI 4294967295), .int (nI 0), .int (nI 0), .int (nI 1)])), (q_12, .inr (5, [.ref q_13, .int (nI 3), .int (nI 4294967295), .int (nI 0), .int (nI 0), .int (nI 1)])), (q_16, .inr (5, [.ref q_4, .int (nI 0), .int (nI 4294967295), .int (nI 0), .int (nI 0), .int (nI 0)])), (q_18, .inr (5, [.ref q_4, .int (nI 0), .int (nI 4294967295), .int (nI 0), .int (nI 0), .int (nI 0)])), (q_20, .inr (5, [.ref q_4, .int (nI 0), .int (nI 4294967295), .int (nI 0), .int (nI 0), .int (nI 0)])), (q_22, .inr (5, [.ref q_4, .int (nI 0), .int (nI 4294967295), .int (nI 0), .int (nI 0), .int (nI 0)])), (q_32, .inr (5, [.ref q_33, .int (nI 4294967295), .int (nI 4294967295), .int (nI 0), .int (nI 0), .int (nI 1)])), (q_34, .inr (5, [.ref q_35, .int (nI 4294967295), .int (nI 4294967295), .int (nI 0), .int (nI 0), .int (nI 1)])), (q_36, .inr (5, [.ref q_37, .int (nI 4294967295), .int (nI 4294967295), .int (nI 0), .int (nI 0), .int (nI 1)])), (q_4, .inl (cy 1, 12, .inl (fun _ => 0))), (q_7, .inl (cy 1, 12, .inl (fun _ => 0))), (q_10, .inl (cy 1, 12, .inl (fun _ => 0))), (q_13, .inl (cy 1, 12, .inl (fun _ => 0))), (q_33, .inl (cy 1, 12, .inl (fun _ => 0))), (q_35, .inl (cy 1, 12, .inl (fun _ => 0))), (q_37, .inl (cy 1, 12, .inl (fun _ => 0))), (q_26, .inr (4, [.int (nI 0), .int (nI 0), .int (nI 4294967295), .int (nI 0)])), (q_28, .inr (4, [.int (nI 0), .int (nI 0), .int (nI 4294967295), .int (nI 0)])), (q_30, .inr (4, [.int (nI 0), .int (nI 0), .int (nI 4294967295), .int (nI 0)]))] [23, 22, 9, 21, 19, 17, 15, 13, 12, 11, 10, 5, 3, 1, 20, 18, 16, 14, 4, 2, 0, 8, 7, 6] rfl (by decide) (E := []) (by rw [List.append_nil]) (w' := U ++ [(b, .inr (6, [.ref q_1, .ref q_24, .ref q_32, .ref q_34, .ref q_36, .int (nI 0)])), (q_1, .inl (cy 4, 8, .inr (.inr (.inr (.inr (fun i => some (a 1 i))))))), (q_24, .inl (cy 3, 3, .inr (.inr (.inr (.inr (fun i => some (a 3 i))))))), (q_3, .inr (5, [.ref q_4, .int (nI 0), .int (nI 4294967295), .int (nI 0), .int (nI 0), .int (nI 1)])), (q_6, .inr (5, [.ref q_7, .int (nI 1), .int (nI 4294967295), .int (nI 0), .int (nI 0), .int (nI 1)])), (q_9, .inr (5, [.ref q_10, .int (nI 2), .int (nI 4294967295), .int (nI 0), .int (nI 0), .int (nI 1)])), (q_12, .inr (5, [.ref q_13, .int (nI 3), .int (nI 4294967295), .int (nI 0), .int (nI 0), .int (nI 1)])), (q_16, .inr (5, [.ref q_4, .int (nI 0), .int (nI 4294967295), .int (nI 0), .int (nI 0), .int (nI 0)])), (q_18, .inr (5, [.ref q_4, .int (nI 0), .int (nI 4294967295), .int (nI 0), .int (nI 0), .int (nI 0)])), (q_20, .inr (5, [.ref q_4, .int (nI 0), .int (nI 4294967295), .int (nI 0), .int (nI 0), .int (nI 0)])), (q_22, .inr (5, [.ref q_4, .int (nI 0), .int (nI 4294967295), .int (nI 0), .int (nI 0), .int (nI 0)])), (q_32, .inr (5, [.ref q_33, .int (nI 4294967295), .int (nI 4294967295), .int (nI 0), .int (nI 0), .int (nI 1)])), (q_34, .inr (5, [.ref q_35, .int (nI 4294967295), .int (nI 4294967295), .int (nI 0), .int (nI 0), .int (nI 1)])), (q_36, .inr (5, [.ref q_37, .int (nI 4294967295), .int (nI 4294967295), .int (nI 0), .int (nI 0), .int (nI 1)])), (q_4, .inl (cy 1, 12, .inl (fun _ => 0))), (q_7, .inl (cy 1, 12, .inl (fun _ => 0))), (q_10, .inl (cy 1, 12, .inl (fun _ => 0))), (q_13, .inl (cy 1, 12, .inl (fun _ => 0))), (q_33, .inl (cy 1, 12, .inl (fun _ => 0))), (q_35, .inl (cy 1, 12, .inl (fun _ => 0))), (q_37, .inl (cy 1, 12, .inl (fun _ => 0))), (q_26, .inr (4, [.int (nI 0), .int (nI 0), .int (nI 4294967295), .int (nI 0)])), (q_28, .inr (4, [.int (nI 0), .int (nI 0), .int (nI 4294967295), .int (nI 0)])), (q_30, .inr (4, [.int (nI 0), .int (nI 0), .int (nI 4294967295), .int (nI 0)]))]) (by rw [List.append_nil]) ?_
  refine r_w (w' := U ++ WC cy a fI rI (nI 0)) (by subst ha; rfl) ?_
  refine t_swap ?_
  exact r_vret C hr dX2_init_168 ⟨a, by subst ha; rfl, rfl, rfl⟩ (Nat.le_of_ble_eq_true rfl) (Nat.le_of_ble_eq_true rfl)
theorem dX4_init_0 : decode cX4_init 0 = .ok (.aload_n 0, 1) := by decide +kernel
theorem dX4_init_1 : decode cX4_init 1 = .ok (.invokespecial 7, 3) := by decide +kernel
theorem dX4_init_4 : decode cX4_init 4 = .ok (.aload_n 0, 1) := by decide +kernel
theorem dX4_init_5 : decode cX4_init 5 = .ok (.iconst 4, 1) := by decide +kernel
theorem dX4_init_6 : decode cX4_init 6 = .ok (.iconst 0, 1) := by decide +kernel
theorem dX4_init_7 : decode cX4_init 7 = .ok (.multianewarray 13 2, 4) := by decide +kernel
theorem dX4_init_11 : decode cX4_init 11 = .ok (.putfield 15, 3) := by decide +kernel
theorem dX4_init_14 : decode cX4_init 14 = .ok (.aload_n 0, 1) := by decide +kernel
theorem dX4_init_15 : decode cX4_init 15 = .ok (.iconst 4, 1) := by decide +kernel
theorem dX4_init_16 : decode cX4_init 16 = .ok (.newarray .boolean, 2) := by decide +kernel
theorem dX4_init_18 : decode cX4_init 18 = .ok (.putfield 18, 3) := by decide +kernel
theorem dX4_init_21 : decode cX4_init 21 = .ok (.aload_n 0, 1) := by decide +kernel
theorem dX4_init_22 : decode cX4_init 22 = .ok (.iconst 4, 1) := by decide +kernel
theorem dX4_init_23 : decode cX4_init 23 = .ok (.newarray .int, 2) := by decide +kernel
theorem dX4_init_25 : decode cX4_init 25 = .ok (.putfield 22, 3) := by decide +kernel
theorem dX4_init_28 : decode cX4_init 28 = .ok (.aload_n 0, 1) := by decide +kernel
theorem dX4_init_29 : decode cX4_init 29 = .ok (.iconst 4, 1) := by decide +kernel
theorem dX4_init_30 : decode cX4_init 30 = .ok (.newarray .int, 2) := by decide +kernel
theorem dX4_init_32 : decode cX4_init 32 = .ok (.putfield 26, 3) := by decide +kernel
theorem dX4_init_35 : decode cX4_init 35 = .ok (.aload_n 0, 1) := by decide +kernel
theorem dX4_init_36 : decode cX4_init 36 = .ok (.iconst 4, 1) := by decide +kernel
theorem dX4_init_37 : decode cX4_init 37 = .ok (.newarray .int, 2) := by decide +kernel
theorem dX4_init_39 : decode cX4_init 39 = .ok (.putfield 29, 3) := by decide +kernel
theorem dX4_init_42 : decode cX4_init 42 = .ok (.aload_n 0, 1) := by decide +kernel
theorem dX4_init_43 : decode cX4_init 43 = .ok (.iconst 3, 1) := by decide +kernel
theorem dX4_init_44 : decode cX4_init 44 = .ok (.newarray .boolean, 2) := by decide +kernel
theorem dX4_init_46 : decode cX4_init 46 = .ok (.putfield 32, 3) := by decide +kernel
theorem dX4_init_49 : decode cX4_init 49 = .ok (.aload_n 0, 1) := by decide +kernel
theorem dX4_init_50 : decode cX4_init 50 = .ok (.iconst 3, 1) := by decide +kernel
theorem dX4_init_51 : decode cX4_init 51 = .ok (.newarray .int, 2) := by decide +kernel
theorem dX4_init_53 : decode cX4_init 53 = .ok (.putfield 35, 3) := by decide +kernel
theorem dX4_init_56 : decode cX4_init 56 = .ok (.aload_n 0, 1) := by decide +kernel
theorem dX4_init_57 : decode cX4_init 57 = .ok (.iconst 3, 1) := by decide +kernel
theorem dX4_init_58 : decode cX4_init 58 = .ok (.newarray .int, 2) := by decide +kernel
theorem dX4_init_60 : decode cX4_init 60 = .ok (.putfield 38, 3) := by decide +kernel
theorem dX4_init_63 : decode cX4_init 63 = .ok (.aload_n 0, 1) := by decide +kernel
theorem dX4_init_64 : decode cX4_init 64 = .ok (.iconst 3, 1) := by decide +kernel
theorem dX4_init_65 : decode cX4_init 65 = .ok (.newarray .int, 2) := by decide +kernel
theorem dX4_init_67 : decode cX4_init 67 = .ok (.putfield 41, 3) := by decide +kernel
theorem dX4_init_70 : decode cX4_init 70 = .ok (.return_, 1) := by decide +kernel
set_option maxRecDepth 100000 in
set_option maxHeartbeats 4000000 in
theorem D_ModInit {l : Launch} {D : va_G} {cy : Nat → ClassId} {X : (Nat → Prop) → State → Heap → Prop} {aK aV : Nat → Nat} {tO tT : Nat} {gO gT : Nat → Int32} {U : va_W} {b : Nat} (hX : EnvT X cy aK aV tO tT gO gT) : Cm l D cy X yX4_init cX4_init 1 none (rmk 1 13 32 60) [.ref b] (U ++ [(b, .inr (8, [.null, .null, .null, .null, .null, .null, .null, .null, .null, .int (nI 0), .int (nI 0), .long 0]))]) (fun v1 w1 => ∃ (ba ra : Nat → Nat), ba 9 = b ∧ v1 = none ∧ w1 = WM cy ba ra hfI rI (nI 0) (nI 0) 0 ++ U) (fun _ => False) := by
  refine Cm.of [some (.ref b)] (by decide +kernel) rfl (Nat.le_of_ble_eq_true rfl) ?_
  intro p e s m args below meth c A C hE hr hnt hn
  refine r_aload_n C dX4_init_0 rfl ?_
  refine r_objI C qm_X4_7 dX4_init_1 (Nat.le_of_ble_eq_true rfl) (Nat.le_of_ble_eq_true rfl) ?_
  refine r_aload_n C dX4_init_4 rfl ?_
  refine r_iconst (v := (nI 4)) C dX4_init_5 (by decide) ?_
  refine r_iconst (v := (nI 0)) C dX4_init_6 (by decide) ?_
  refine r_new4 C (hX.1.1.2 A s s.heap hE) (hX.2 A s s.heap hE).2.2 qk_X4_13 (Nat.le_of_ble_eq_true rfl) (Nat.le_of_ble_eq_true rfl) dX4_init_7 (fun q_1 ra => ?_)
  refine r_w (w' := U ++ [(b, .inr (8, [.null, .null, .null, .null, .null, .null, .null, .null, .null, .int (nI 0), .int (nI 0), .long 0])), (q_1, .inl (cy 5, 4, .inr (.inr (.inr (.inr (fun i => some (ra i))))))), (ra 0, .inl (cy 1, 0, .inl (fun _ => 0))), (ra 1, .inl (cy 1, 0, .inl (fun _ => 0))), (ra 2, .inl (cy 1, 0, .inl (fun _ => 0))), (ra 3, .inl (cy 1, 0, .inl (fun _ => 0)))]) (List.append_assoc _ _ _) ?_
  refine g_putF (fs := [.null, .null, .null, .null, .null, .null, .null, .null, .null, .int (nI 0), .int (nI 0), .long 0]) C qu_X4 tyX4 tyX4_ok nmX4 (ci := 8) rfl (U.length + 0) (us_g rfl) 0 (by decide) qf_X4_15 rfl rfl (hn.trans rfl) rfl (ty := .array (.array .int)) rfl rfl rfl (show 0 < 12 by omega) dX4_init_11 (us_t (L' := [(b, .inr (8, [.ref q_1, .null, .null, .null, .null, .null, .null, .null, .null, .int (nI 0), .int (nI 0), .long 0])), (q_1, .inl (cy 5, 4, .inr (.inr (.inr (.inr (fun i => some (ra i))))))), (ra 0, .inl (cy 1, 0, .inl (fun _ => 0))), (ra 1, .inl (cy 1, 0, .inl (fun _ => 0))), (ra 2, .inl (cy 1, 0, .inl (fun _ => 0))), (ra 3, .inl (cy 1, 0, .inl (fun _ => 0)))]) rfl) ?_
  refine r_aload_n C dX4_init_14 rfl ?_
  refine r_iconst (v := (nI 4)) C dX4_init_15 (by decide) ?_
  refine t_newI C .boolean .boolean 2 rfl (by simp) qa_boolean (n := 4) (Nat.le_of_ble_eq_true rfl) (Nat.le_of_ble_eq_true rfl) (Nat.le_of_ble_eq_true rfl) dX4_init_16 (fun q_2 => ?_)
  refine g_putF (fs := [.ref q_1, .null, .null, .null, .null, .null, .null, .null, .null, .int (nI 0), .int (nI 0), .long 0]) C qu_X4 tyX4 tyX4_ok nmX4 (ci := 8) rfl (U.length + 1) (us_g rfl) 1 (by decide) qf_X4_18 rfl rfl (hn.trans rfl) rfl (ty := .array .boolean) rfl rfl rfl (show 1 < 12 by omega) dX4_init_18 (us_t (L' := [(q_2, .inl (cy 2, 4, .inl (fun _ => 0))), (b, .inr (8, [.ref q_1, .ref q_2, .null, .null, .null, .null, .null, .null, .null, .int (nI 0), .int (nI 0), .long 0])), (q_1, .inl (cy 5, 4, .inr (.inr (.inr (.inr (fun i => some (ra i))))))), (ra 0, .inl (cy 1, 0, .inl (fun _ => 0))), (ra 1, .inl (cy 1, 0, .inl (fun _ => 0))), (ra 2, .inl (cy 1, 0, .inl (fun _ => 0))), (ra 3, .inl (cy 1, 0, .inl (fun _ => 0)))]) rfl) ?_
  refine r_aload_n C dX4_init_21 rfl ?_
  refine r_iconst (v := (nI 4)) C dX4_init_22 (by decide) ?_
  refine t_newI C .int .int 1 rfl (by simp) qa_int (n := 4) (Nat.le_of_ble_eq_true rfl) (Nat.le_of_ble_eq_true rfl) (Nat.le_of_ble_eq_true rfl) dX4_init_23 (fun q_3 => ?_)
  refine g_putF (fs := [.ref q_1, .ref q_2, .null, .null, .null, .null, .null, .null, .null, .int (nI 0), .int (nI 0), .long 0]) C qu_X4 tyX4 tyX4_ok nmX4 (ci := 8) rfl (U.length + 2) (us_g rfl) 2 (by decide) qf_X4_22 rfl rfl (hn.trans rfl) rfl (ty := .array .int) rfl rfl rfl (show 2 < 12 by omega) dX4_init_25 (us_t (L' := [(q_3, .inl (cy 1, 4, .inl (fun _ => 0))), (q_2, .inl (cy 2, 4, .inl (fun _ => 0))), (b, .inr (8, [.ref q_1, .ref q_2, .ref q_3, .null, .null, .null, .null, .null, .null, .int (nI 0), .int (nI 0), .long 0])), (q_1, .inl (cy 5, 4, .inr (.inr (.inr (.inr (fun i => some (ra i))))))), (ra 0, .inl (cy 1, 0, .inl (fun _ => 0))), (ra 1, .inl (cy 1, 0, .inl (fun _ => 0))), (ra 2, .inl (cy 1, 0, .inl (fun _ => 0))), (ra 3, .inl (cy 1, 0, .inl (fun _ => 0)))]) rfl) ?_
  refine r_aload_n C dX4_init_28 rfl ?_
  refine r_iconst (v := (nI 4)) C dX4_init_29 (by decide) ?_
  refine t_newI C .int .int 1 rfl (by simp) qa_int (n := 4) (Nat.le_of_ble_eq_true rfl) (Nat.le_of_ble_eq_true rfl) (Nat.le_of_ble_eq_true rfl) dX4_init_30 (fun q_4 => ?_)
  refine g_putF (fs := [.ref q_1, .ref q_2, .ref q_3, .null, .null, .null, .null, .null, .null, .int (nI 0), .int (nI 0), .long 0]) C qu_X4 tyX4 tyX4_ok nmX4 (ci := 8) rfl (U.length + 3) (us_g rfl) 3 (by decide) qf_X4_26 rfl rfl (hn.trans rfl) rfl (ty := .array .int) rfl rfl rfl (show 3 < 12 by omega) dX4_init_32 (us_t (L' := [(q_4, .inl (cy 1, 4, .inl (fun _ => 0))), (q_3, .inl (cy 1, 4, .inl (fun _ => 0))), (q_2, .inl (cy 2, 4, .inl (fun _ => 0))), (b, .inr (8, [.ref q_1, .ref q_2, .ref q_3, .ref q_4, .null, .null, .null, .null, .null, .int (nI 0), .int (nI 0), .long 0])), (q_1, .inl (cy 5, 4, .inr (.inr (.inr (.inr (fun i => some (ra i))))))), (ra 0, .inl (cy 1, 0, .inl (fun _ => 0))), (ra 1, .inl (cy 1, 0, .inl (fun _ => 0))), (ra 2, .inl (cy 1, 0, .inl (fun _ => 0))), (ra 3, .inl (cy 1, 0, .inl (fun _ => 0)))]) rfl) ?_
  refine r_aload_n C dX4_init_35 rfl ?_
  refine r_iconst (v := (nI 4)) C dX4_init_36 (by decide) ?_
  refine t_newI C .int .int 1 rfl (by simp) qa_int (n := 4) (Nat.le_of_ble_eq_true rfl) (Nat.le_of_ble_eq_true rfl) (Nat.le_of_ble_eq_true rfl) dX4_init_37 (fun q_5 => ?_)
  refine g_putF (fs := [.ref q_1, .ref q_2, .ref q_3, .ref q_4, .null, .null, .null, .null, .null, .int (nI 0), .int (nI 0), .long 0]) C qu_X4 tyX4 tyX4_ok nmX4 (ci := 8) rfl (U.length + 4) (us_g rfl) 4 (by decide) qf_X4_29 rfl rfl (hn.trans rfl) rfl (ty := .array .int) rfl rfl rfl (show 4 < 12 by omega) dX4_init_39 (us_t (L' := [(q_5, .inl (cy 1, 4, .inl (fun _ => 0))), (q_4, .inl (cy 1, 4, .inl (fun _ => 0))), (q_3, .inl (cy 1, 4, .inl (fun _ => 0))), (q_2, .inl (cy 2, 4, .inl (fun _ => 0))), (b, .inr (8, [.ref q_1, .ref q_2, .ref q_3, .ref q_4, .ref q_5, .null, .null, .null, .null, .int (nI 0), .int (nI 0), .long 0])), (q_1, .inl (cy 5, 4, .inr (.inr (.inr (.inr (fun i => some (ra i))))))), (ra 0, .inl (cy 1, 0, .inl (fun _ => 0))), (ra 1, .inl (cy 1, 0, .inl (fun _ => 0))), (ra 2, .inl (cy 1, 0, .inl (fun _ => 0))), (ra 3, .inl (cy 1, 0, .inl (fun _ => 0)))]) rfl) ?_
  refine r_aload_n C dX4_init_42 rfl ?_
  refine r_iconst (v := (nI 3)) C dX4_init_43 (by decide) ?_
  refine t_newI C .boolean .boolean 2 rfl (by simp) qa_boolean (n := 3) (Nat.le_of_ble_eq_true rfl) (Nat.le_of_ble_eq_true rfl) (Nat.le_of_ble_eq_true rfl) dX4_init_44 (fun q_6 => ?_)
  refine g_putF (fs := [.ref q_1, .ref q_2, .ref q_3, .ref q_4, .ref q_5, .null, .null, .null, .null, .int (nI 0), .int (nI 0), .long 0]) C qu_X4 tyX4 tyX4_ok nmX4 (ci := 8) rfl (U.length + 5) (us_g rfl) 5 (by decide) qf_X4_32 rfl rfl (hn.trans rfl) rfl (ty := .array .boolean) rfl rfl rfl (show 5 < 12 by omega) dX4_init_46 (us_t (L' := [(q_6, .inl (cy 2, 3, .inl (fun _ => 0))), (q_5, .inl (cy 1, 4, .inl (fun _ => 0))), (q_4, .inl (cy 1, 4, .inl (fun _ => 0))), (q_3, .inl (cy 1, 4, .inl (fun _ => 0))), (q_2, .inl (cy 2, 4, .inl (fun _ => 0))), (b, .inr (8, [.ref q_1, .ref q_2, .ref q_3, .ref q_4, .ref q_5, .ref q_6, .null, .null, .null, .int (nI 0), .int (nI 0), .long 0])), (q_1, .inl (cy 5, 4, .inr (.inr (.inr (.inr (fun i => some (ra i))))))), (ra 0, .inl (cy 1, 0, .inl (fun _ => 0))), (ra 1, .inl (cy 1, 0, .inl (fun _ => 0))), (ra 2, .inl (cy 1, 0, .inl (fun _ => 0))), (ra 3, .inl (cy 1, 0, .inl (fun _ => 0)))]) rfl) ?_
  refine r_aload_n C dX4_init_49 rfl ?_
  refine r_iconst (v := (nI 3)) C dX4_init_50 (by decide) ?_
  refine t_newI C .int .int 1 rfl (by simp) qa_int (n := 3) (Nat.le_of_ble_eq_true rfl) (Nat.le_of_ble_eq_true rfl) (Nat.le_of_ble_eq_true rfl) dX4_init_51 (fun q_7 => ?_)
  refine g_putF (fs := [.ref q_1, .ref q_2, .ref q_3, .ref q_4, .ref q_5, .ref q_6, .null, .null, .null, .int (nI 0), .int (nI 0), .long 0]) C qu_X4 tyX4 tyX4_ok nmX4 (ci := 8) rfl (U.length + 6) (us_g rfl) 6 (by decide) qf_X4_35 rfl rfl (hn.trans rfl) rfl (ty := .array .int) rfl rfl rfl (show 6 < 12 by omega) dX4_init_53 (us_t (L' := [(q_7, .inl (cy 1, 3, .inl (fun _ => 0))), (q_6, .inl (cy 2, 3, .inl (fun _ => 0))), (q_5, .inl (cy 1, 4, .inl (fun _ => 0))), (q_4, .inl (cy 1, 4, .inl (fun _ => 0))), (q_3, .inl (cy 1, 4, .inl (fun _ => 0))), (q_2, .inl (cy 2, 4, .inl (fun _ => 0))), (b, .inr (8, [.ref q_1, .ref q_2, .ref q_3, .ref q_4, .ref q_5, .ref q_6, .ref q_7, .null, .null, .int (nI 0), .int (nI 0), .long 0])), (q_1, .inl (cy 5, 4, .inr (.inr (.inr (.inr (fun i => some (ra i))))))), (ra 0, .inl (cy 1, 0, .inl (fun _ => 0))), (ra 1, .inl (cy 1, 0, .inl (fun _ => 0))), (ra 2, .inl (cy 1, 0, .inl (fun _ => 0))), (ra 3, .inl (cy 1, 0, .inl (fun _ => 0)))]) rfl) ?_
  refine r_aload_n C dX4_init_56 rfl ?_
  refine r_iconst (v := (nI 3)) C dX4_init_57 (by decide) ?_
  refine t_newI C .int .int 1 rfl (by simp) qa_int (n := 3) (Nat.le_of_ble_eq_true rfl) (Nat.le_of_ble_eq_true rfl) (Nat.le_of_ble_eq_true rfl) dX4_init_58 (fun q_8 => ?_)
  refine g_putF (fs := [.ref q_1, .ref q_2, .ref q_3, .ref q_4, .ref q_5, .ref q_6, .ref q_7, .null, .null, .int (nI 0), .int (nI 0), .long 0]) C qu_X4 tyX4 tyX4_ok nmX4 (ci := 8) rfl (U.length + 7) (us_g rfl) 7 (by decide) qf_X4_38 rfl rfl (hn.trans rfl) rfl (ty := .array .int) rfl rfl rfl (show 7 < 12 by omega) dX4_init_60 (us_t (L' := [(q_8, .inl (cy 1, 3, .inl (fun _ => 0))), (q_7, .inl (cy 1, 3, .inl (fun _ => 0))), (q_6, .inl (cy 2, 3, .inl (fun _ => 0))), (q_5, .inl (cy 1, 4, .inl (fun _ => 0))), (q_4, .inl (cy 1, 4, .inl (fun _ => 0))), (q_3, .inl (cy 1, 4, .inl (fun _ => 0))), (q_2, .inl (cy 2, 4, .inl (fun _ => 0))), (b, .inr (8, [.ref q_1, .ref q_2, .ref q_3, .ref q_4, .ref q_5, .ref q_6, .ref q_7, .ref q_8, .null, .int (nI 0), .int (nI 0), .long 0])), (q_1, .inl (cy 5, 4, .inr (.inr (.inr (.inr (fun i => some (ra i))))))), (ra 0, .inl (cy 1, 0, .inl (fun _ => 0))), (ra 1, .inl (cy 1, 0, .inl (fun _ => 0))), (ra 2, .inl (cy 1, 0, .inl (fun _ => 0))), (ra 3, .inl (cy 1, 0, .inl (fun _ => 0)))]) rfl) ?_
  refine r_aload_n C dX4_init_63 rfl ?_
  refine r_iconst (v := (nI 3)) C dX4_init_64 (by decide) ?_
  refine t_newI C .int .int 1 rfl (by simp) qa_int (n := 3) (Nat.le_of_ble_eq_true rfl) (Nat.le_of_ble_eq_true rfl) (Nat.le_of_ble_eq_true rfl) dX4_init_65 (fun q_9 => ?_)
  refine g_putF (fs := [.ref q_1, .ref q_2, .ref q_3, .ref q_4, .ref q_5, .ref q_6, .ref q_7, .ref q_8, .null, .int (nI 0), .int (nI 0), .long 0]) C qu_X4 tyX4 tyX4_ok nmX4 (ci := 8) rfl (U.length + 8) (us_g rfl) 8 (by decide) qf_X4_41 rfl rfl (hn.trans rfl) rfl (ty := .array .int) rfl rfl rfl (show 8 < 12 by omega) dX4_init_67 (us_t (L' := [(q_9, .inl (cy 1, 3, .inl (fun _ => 0))), (q_8, .inl (cy 1, 3, .inl (fun _ => 0))), (q_7, .inl (cy 1, 3, .inl (fun _ => 0))), (q_6, .inl (cy 2, 3, .inl (fun _ => 0))), (q_5, .inl (cy 1, 4, .inl (fun _ => 0))), (q_4, .inl (cy 1, 4, .inl (fun _ => 0))), (q_3, .inl (cy 1, 4, .inl (fun _ => 0))), (q_2, .inl (cy 2, 4, .inl (fun _ => 0))), (b, .inr (8, [.ref q_1, .ref q_2, .ref q_3, .ref q_4, .ref q_5, .ref q_6, .ref q_7, .ref q_8, .ref q_9, .int (nI 0), .int (nI 0), .long 0])), (q_1, .inl (cy 5, 4, .inr (.inr (.inr (.inr (fun i => some (ra i))))))), (ra 0, .inl (cy 1, 0, .inl (fun _ => 0))), (ra 1, .inl (cy 1, 0, .inl (fun _ => 0))), (ra 2, .inl (cy 1, 0, .inl (fun _ => 0))), (ra 3, .inl (cy 1, 0, .inl (fun _ => 0)))]) rfl) ?_
  obtain ⟨ba, hb⟩ : ∃ ba : Nat → Nat, ba = fun k => ([q_1, q_2, q_3, q_4, q_5, q_6, q_7, q_8, q_9, b] : List Nat).getD k 0 := ⟨_, rfl⟩
  refine t_perm [(q_9, .inl (cy 1, 3, .inl (fun _ => 0))), (q_8, .inl (cy 1, 3, .inl (fun _ => 0))), (q_7, .inl (cy 1, 3, .inl (fun _ => 0))), (q_6, .inl (cy 2, 3, .inl (fun _ => 0))), (q_5, .inl (cy 1, 4, .inl (fun _ => 0))), (q_4, .inl (cy 1, 4, .inl (fun _ => 0))), (q_3, .inl (cy 1, 4, .inl (fun _ => 0))), (q_2, .inl (cy 2, 4, .inl (fun _ => 0))), (b, .inr (8, [.ref q_1, .ref q_2, .ref q_3, .ref q_4, .ref q_5, .ref q_6, .ref q_7, .ref q_8, .ref q_9, .int (nI 0), .int (nI 0), .long 0])), (q_1, .inl (cy 5, 4, .inr (.inr (.inr (.inr (fun i => some (ra i))))))), (ra 0, .inl (cy 1, 0, .inl (fun _ => 0))), (ra 1, .inl (cy 1, 0, .inl (fun _ => 0))), (ra 2, .inl (cy 1, 0, .inl (fun _ => 0))), (ra 3, .inl (cy 1, 0, .inl (fun _ => 0)))] [(b, .inr (8, [.ref q_1, .ref q_2, .ref q_3, .ref q_4, .ref q_5, .ref q_6, .ref q_7, .ref q_8, .ref q_9, .int (nI 0), .int (nI 0), .long 0])), (q_1, .inl (cy 5, 4, .inr (.inr (.inr (.inr (fun i => some (ra i))))))), (q_2, .inl (cy 2, 4, .inl (fun _ => 0))), (q_3, .inl (cy 1, 4, .inl (fun _ => 0))), (q_4, .inl (cy 1, 4, .inl (fun _ => 0))), (q_5, .inl (cy 1, 4, .inl (fun _ => 0))), (q_6, .inl (cy 2, 3, .inl (fun _ => 0))), (q_7, .inl (cy 1, 3, .inl (fun _ => 0))), (q_8, .inl (cy 1, 3, .inl (fun _ => 0))), (q_9, .inl (cy 1, 3, .inl (fun _ => 0))), (ra 0, .inl (cy 1, 0, .inl (fun _ => 0))), (ra 1, .inl (cy 1, 0, .inl (fun _ => 0))), (ra 2, .inl (cy 1, 0, .inl (fun _ => 0))), (ra 3, .inl (cy 1, 0, .inl (fun _ => 0)))] [8, 9, 7, 6, 5, 4, 3, 2, 1, 0, 10, 11, 12, 13] rfl (by decide) (E := []) (by rw [List.append_nil]) (w' := U ++ [(b, .inr (8, [.ref q_1, .ref q_2, .ref q_3, .ref q_4, .ref q_5, .ref q_6, .ref q_7, .ref q_8, .ref q_9, .int (nI 0), .int (nI 0), .long 0])), (q_1, .inl (cy 5, 4, .inr (.inr (.inr (.inr (fun i => some (ra i))))))), (q_2, .inl (cy 2, 4, .inl (fun _ => 0))), (q_3, .inl (cy 1, 4, .inl (fun _ => 0))), (q_4, .inl (cy 1, 4, .inl (fun _ => 0))), (q_5, .inl (cy 1, 4, .inl (fun _ => 0))), (q_6, .inl (cy 2, 3, .inl (fun _ => 0))), (q_7, .inl (cy 1, 3, .inl (fun _ => 0))), (q_8, .inl (cy 1, 3, .inl (fun _ => 0))), (q_9, .inl (cy 1, 3, .inl (fun _ => 0))), (ra 0, .inl (cy 1, 0, .inl (fun _ => 0))), (ra 1, .inl (cy 1, 0, .inl (fun _ => 0))), (ra 2, .inl (cy 1, 0, .inl (fun _ => 0))), (ra 3, .inl (cy 1, 0, .inl (fun _ => 0)))]) (by rw [List.append_nil]) ?_
  refine r_w (w' := U ++ WM cy ba ra hfI rI (nI 0) (nI 0) 0) (by subst hb; rfl) ?_
  refine t_swap ?_
  exact r_vret C hr dX4_init_70 ⟨ba, ra, by subst hb; rfl, rfl, rfl⟩ (Nat.le_of_ble_eq_true rfl) (Nat.le_of_ble_eq_true rfl)
