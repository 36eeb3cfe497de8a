theorem pk_X2_isBelow : PkS yX2_isBelow cX2_isBelow 2 (some .boolean) 2 := ⟨⟨qt_X2_isBelow, qz_X2, qc_X2_isBelow⟩, by decide +kernel⟩
theorem dX2_needRow_0 : decode cX2_needRow 0 = .ok (.iload_n 0, 1) := by decide +kernel
theorem dX2_needRow_1 : decode cX2_needRow 1 = .ok (.iconst 4, 1) := by decide +kernel
theorem dX2_needRow_2 : decode cX2_needRow 2 = .ok (.invokestatic 275, 3) := by decide +kernel
theorem dX2_needRow_5 : decode cX2_needRow 5 = .ok (.ifCond .ne 14, 3) := by decide +kernel
theorem dX2_needRow_19 : decode cX2_needRow 19 = .ok (.return_, 1) := by decide +kernel
set_option maxRecDepth 100000 in
set_option maxHeartbeats 4000000 in
theorem C_needRow_ok {l : Launch} {D : va_G} {cy : Nat → ClassId} {X : (Nat → Prop) → State → Heap → Prop} {a f : Nat → Nat → Nat} {r : Nat → Nat → Int32} {kn : Int32} {Y : va_W} {k : Nat} (hX : EnvX X) (hk : k < 4) : Cd l D cy X yX2_needRow cX2_needRow 1 none (rmz 1 30) [.int (nI k)] (WC cy a f r kn ++ Y) none (WC cy a f r kn ++ Y) := by
  refine Cm.of [some (.int (nI k))] (by decide +kernel) rfl (Nat.le_of_ble_eq_true rfl) ?_
  intro p e s m args below meth c A C hE hr hnt hn
  refine r_iload_n C dX2_needRow_0 rfl ?_
  refine r_iconst (v := (nI 4)) C dX2_needRow_1 (by decide) ?_
  refine d_S (st := []) hX.stb C hE (C_isBelow1 (f := f) (r := r) (kn := kn) (k := k) (n := 4) hX (by first | omega | (simp [up2, *]; done) | (simp [up2, *]; omega) | (simp only [up2_eq]; omega)) (by first | omega | (simp [up2, *]; done) | (simp [up2, *]; omega) | (simp only [up2_eq]; omega))) pk_X2_isBelow qm_X2_275 rfl rfl (Nat.le_of_ble_eq_true rfl) dX2_needRow_2 ⟨Nat.le_of_ble_eq_true rfl, Nat.le_of_ble_eq_true rfl⟩ ⟨Nat.le_of_ble_eq_true rfl, Nat.le_of_ble_eq_true rfl⟩ ?_
  refine r_ifN_ne (a := 1) (tgt := 19) C (by first | omega | (simp [up2, *]; done) | (simp [up2, *]; omega) | (simp only [up2_eq]; omega)) dX2_needRow_5 (by decide) (fun h5_1 => ?_) (fun h5_1 => ?_)
  · skip
    exact r_vret C hr dX2_needRow_19 ⟨rfl, rfl⟩ (Nat.le_of_ble_eq_true rfl) (Nat.le_of_ble_eq_true rfl)
  · exact absurd h5_1 (by first | omega | (simp [up2, *]; done) | (simp [up2, *]; omega) | (simp only [up2_eq]; omega))
