/-! ===== 11.class -/
section PT_11
/-! CONTRACTS of the class: what a call needs, holders, settling -/
theorem dX2_isBelow_0 : decode cX2_isBelow 0 = .ok (.iload_n 0, 1) := dqo_26 (kb_of ke_X2_isBelow 0 rfl)
theorem dX2_isBelow_1 : decode cX2_isBelow 1 = .ok (.ifCond .lt 12, 3) := dqo_155 0 12 (by decide) (kb_of ke_X2_isBelow 1 rfl) (kb_of ke_X2_isBelow 2 rfl) (kb_of ke_X2_isBelow 3 rfl)
theorem dX2_isBelow_4 : decode cX2_isBelow 4 = .ok (.iload_n 0, 1) := dqo_26 (kb_of ke_X2_isBelow 4 rfl)
theorem dX2_isBelow_5 : decode cX2_isBelow 5 = .ok (.iload_n 1, 1) := dqo_27 (kb_of ke_X2_isBelow 5 rfl)
theorem dX2_isBelow_6 : decode cX2_isBelow 6 = .ok (.if_icmp .ge 7, 3) := dqo_162 0 7 (by decide) (kb_of ke_X2_isBelow 6 rfl) (kb_of ke_X2_isBelow 7 rfl) (kb_of ke_X2_isBelow 8 rfl)
theorem dX2_isBelow_9 : decode cX2_isBelow 9 = .ok (.iconst 1, 1) := dqo_4 (kb_of ke_X2_isBelow 9 rfl)
theorem dX2_isBelow_10 : decode cX2_isBelow 10 = .ok (.goto 4, 3) := dqo_167 0 4 (by decide) (kb_of ke_X2_isBelow 10 rfl) (kb_of ke_X2_isBelow 11 rfl) (kb_of ke_X2_isBelow 12 rfl)
theorem dX2_isBelow_13 : decode cX2_isBelow 13 = .ok (.iconst 0, 1) := dqo_3 (kb_of ke_X2_isBelow 13 rfl)
theorem dX2_isBelow_14 : decode cX2_isBelow 14 = .ok (.ireturn, 1) := dqo_172 (kb_of ke_X2_isBelow 14 rfl)
set_option maxRecDepth 100000 in
set_option maxHeartbeats 4000000 in
theorem C_isBelow1 {l : Launch} {D : va_G} {cy : Nat → ClassId} {X : (Nat → Prop) → State → Heap → Prop} {a f : Nat → Nat → Nat} {r : Nat → Nat → Int32} {kn : Int32} {Y : va_W} {k : Nat} {n : Nat} (hX : EnvX X) (hk : k < n) (hn2 : n < 2147483648) : Cd l D cy X yX2_isBelow cX2_isBelow 2 (some .boolean) (rmz 0 0) [.int (nI k), .int (nI n)] (WC cy a f r kn ++ Y) (some (.int (nI 1))) (WC cy a f r kn ++ Y) := by
  refine Cm.of [some (.int (nI k)), some (.int (nI n))] pn_X2 rfl (Nat.le_of_ble_eq_true rfl) ?_
  intro p e s m args below meth c A C hE hr hnt hn
  refine r_iload_n C dX2_isBelow_0 rfl ?_
  refine r_ifN_lt (a := k) (tgt := 13) C (by first | omega | (simp [up2, *]; done) | (simp [up2, *]; omega) | (simp only [up2_eq]; omega)) dX2_isBelow_1 (by decide) (fun h1_1 => ?_) (fun h1_1 => ?_)
  · first
    | exfalso; first | omega | contradiction
    | skip
      refine r_iconst (v := (nI 0)) C dX2_isBelow_13 (by decide) ?_
      exact r_zret C hr (by first | omega | (simp [up2, *]; done) | (simp [up2, *]; omega) | (simp only [up2_eq]; omega)) dX2_isBelow_14 ⟨rfl, rfl⟩ (Nat.le_of_ble_eq_true rfl) (Nat.le_of_ble_eq_true rfl)
  · first
    | exfalso; first | omega | contradiction
    | skip
      refine r_iload_n C dX2_isBelow_4 rfl ?_
      refine r_iload_n C dX2_isBelow_5 rfl ?_
      refine r_icN_ge (a := k) (b := n) (tgt := 13) C (by first | omega | (simp [up2, *]; done) | (simp [up2, *]; omega) | (simp only [up2_eq]; omega)) (by first | omega | (simp [up2, *]; done) | (simp [up2, *]; omega) | (simp only [up2_eq]; omega)) dX2_isBelow_6 (by decide) (fun h6_2 => ?_) (fun h6_2 => ?_)
      · first
        | exfalso; first | omega | contradiction
        | skip
          refine r_iconst (v := (nI 0)) C dX2_isBelow_13 (by decide) ?_
          exact r_zret C hr (by first | omega | (simp [up2, *]; done) | (simp [up2, *]; omega) | (simp only [up2_eq]; omega)) dX2_isBelow_14 ⟨rfl, rfl⟩ (Nat.le_of_ble_eq_true rfl) (Nat.le_of_ble_eq_true rfl)
      · first
        | exfalso; first | omega | contradiction
        | skip
          refine r_iconst (v := (nI 1)) C dX2_isBelow_9 (by decide) ?_
          refine r_goto (tgt := 14) C dX2_isBelow_10 (by decide) ?_
          exact r_zret C hr (by first | omega | (simp [up2, *]; done) | (simp [up2, *]; omega) | (simp only [up2_eq]; omega)) dX2_isBelow_14 ⟨rfl, rfl⟩ (Nat.le_of_ble_eq_true rfl) (Nat.le_of_ble_eq_true rfl)
set_option maxRecDepth 100000 in
set_option maxHeartbeats 4000000 in
theorem C_isBelow0 {l : Launch} {D : va_G} {cy : Nat → ClassId} {X : (Nat → Prop) → State → Heap → Prop} {a f : Nat → Nat → Nat} {r : Nat → Nat → Int32} {kn : Int32} {Y : va_W} {x : Int32} {n : Nat} (hX : EnvX X) (hno : ¬ (0 ≤ x ∧ x < nI n)) : Cd l D cy X yX2_isBelow cX2_isBelow 2 (some .boolean) (rmz 0 0) [.int x, .int (nI n)] (WC cy a f r kn ++ Y) (some (.int (nI 0))) (WC cy a f r kn ++ Y) := by
  refine Cm.of [some (.int x), some (.int (nI n))] pn_X2 rfl (Nat.le_of_ble_eq_true rfl) ?_
  intro p e s m args below meth c A C hE hr hnt hn
  refine r_iload_n C dX2_isBelow_0 rfl ?_
  refine r_if_lt (tgt := 13) C dX2_isBelow_1 (by decide) (fun h1_1 => ?_) (fun h1_1 => ?_)
  · first
    | exfalso; first | omega | contradiction
    | skip
      refine r_iconst (v := (nI 0)) C dX2_isBelow_13 (by decide) ?_
      exact r_zret C hr (by first | omega | (simp [up2, *]; done) | (simp [up2, *]; omega) | (simp only [up2_eq]; omega)) dX2_isBelow_14 ⟨rfl, rfl⟩ (Nat.le_of_ble_eq_true rfl) (Nat.le_of_ble_eq_true rfl)
  · first
    | exfalso; first | omega | contradiction
    | skip
      refine r_iload_n C dX2_isBelow_4 rfl ?_
      refine r_iload_n C dX2_isBelow_5 rfl ?_
      refine r_ic_ge (tgt := 13) C dX2_isBelow_6 (by decide) (fun h6_2 => ?_) (fun h6_2 => ?_)
      · skip
        refine r_iconst (v := (nI 0)) C dX2_isBelow_13 (by decide) ?_
        exact r_zret C hr (by first | omega | (simp [up2, *]; done) | (simp [up2, *]; omega) | (simp only [up2_eq]; omega)) dX2_isBelow_14 ⟨rfl, rfl⟩ (Nat.le_of_ble_eq_true rfl) (Nat.le_of_ble_eq_true rfl)
      · exact absurd (by refine ⟨?_, ?_⟩ <;> first | assumption | exact Int32.not_le.mp (by assumption) | exact Int32.not_lt.mp (by assumption)) hno
theorem pk_X2_isBelow : PkS yX2_isBelow cX2_isBelow 2 (some .boolean) 2 := ⟨⟨qt_X2_isBelow, qz_X2, qc_X2_isBelow⟩, mh_X2.1, mh_X2.2, pd_5⟩
theorem dX2_needRow_0 : decode cX2_needRow 0 = .ok (.iload_n 0, 1) := dqo_26 (kb_of ke_X2_needRow 0 rfl)
theorem dX2_needRow_1 : decode cX2_needRow 1 = .ok (.iconst 4, 1) := dqo_7 (kb_of ke_X2_needRow 1 rfl)
theorem dX2_needRow_2 : decode cX2_needRow 2 = .ok (.invokestatic 275, 3) := dqo_184 1 19 (kb_of ke_X2_needRow 2 rfl) (kb_of ke_X2_needRow 3 rfl) (kb_of ke_X2_needRow 4 rfl)
theorem dX2_needRow_5 : decode cX2_needRow 5 = .ok (.ifCond .ne 14, 3) := dqo_154 0 14 (by decide) (kb_of ke_X2_needRow 5 rfl) (kb_of ke_X2_needRow 6 rfl) (kb_of ke_X2_needRow 7 rfl)
theorem dX2_needRow_19 : decode cX2_needRow 19 = .ok (.return_, 1) := dqo_177 (kb_of ke_X2_needRow 19 rfl)
set_option maxRecDepth 100000 in
set_option maxHeartbeats 4000000 in
theorem C_needRow_ok {l : Launch} {D : va_G} {cy : Nat → ClassId} {X : (Nat → Prop) → State → Heap → Prop} {a f : Nat → Nat → Nat} {r : Nat → Nat → Int32} {kn : Int32} {Y : va_W} {k : Nat} (hX : EnvX X) (hk : k < 4) : Cd l D cy X yX2_needRow cX2_needRow 1 none (rmz 1 30) [.int (nI k)] (WC cy a f r kn ++ Y) none (WC cy a f r kn ++ Y) := by
  refine Cm.of [some (.int (nI k))] pn_X2 rfl (Nat.le_of_ble_eq_true rfl) ?_
  intro p e s m args below meth c A C hE hr hnt hn
  refine r_iload_n C dX2_needRow_0 rfl ?_
  refine r_iconst (v := (nI 4)) C dX2_needRow_1 (by decide) ?_
  refine d_S (st := []) hX.stb C hE (C_isBelow1 (f := f) (r := r) (kn := kn) (k := k) (n := 4) hX (by first | omega | (simp [up2, *]; done) | (simp [up2, *]; omega) | (simp only [up2_eq]; omega)) (by first | omega | (simp [up2, *]; done) | (simp [up2, *]; omega) | (simp only [up2_eq]; omega))) pk_X2_isBelow qm_X2_275 rfl rfl (Nat.le_of_ble_eq_true rfl) dX2_needRow_2 ⟨Nat.le_of_ble_eq_true rfl, Nat.le_of_ble_eq_true rfl⟩ ⟨Nat.le_of_ble_eq_true rfl, Nat.le_of_ble_eq_true rfl⟩ ?_
  refine r_ifN_ne (a := 1) (tgt := 19) C (by first | omega | (simp [up2, *]; done) | (simp [up2, *]; omega) | (simp only [up2_eq]; omega)) dX2_needRow_5 (by decide) (fun h5_1 => ?_) (fun h5_1 => ?_)
  · skip
    exact r_vret C hr dX2_needRow_19 ⟨rfl, rfl⟩ (Nat.le_of_ble_eq_true rfl) (Nat.le_of_ble_eq_true rfl)
  · exact absurd h5_1 (by first | omega | (simp [up2, *]; done) | (simp [up2, *]; omega) | (simp only [up2_eq]; omega))
theorem thr_X2_213_217 : thr_ok RX2 213 217 "java/lang/IndexOutOfBoundsException" ["java/lang/RuntimeException", "java/lang/Exception"] = true := thr_of [658, 9, 6, 237, 246, 252, 255, 257, 238, 239, 31, 32, 240, 245, 253, 273, 227, 274, 229, 275, 231, 241, 243, 233, 269, 270, 272, 233, 568, 569, 570, 263, 219, 263, 264, 265, 266, 221, 266, 267, 268, 269, 223, 668, 659, 660, 661, 250, 662, 663, 664, 665, 236, 235, 666] (by decide +kernel) (by decide +kernel)
theorem dX2_needRow_8 : decode cX2_needRow 8 = .ok (.new 213, 3) := dqo_187 0 213 (kb_of ke_X2_needRow 8 rfl) (kb_of ke_X2_needRow 9 rfl) (kb_of ke_X2_needRow 10 rfl)
theorem dX2_needRow_11 : decode cX2_needRow 11 = .ok (.dup, 1) := dqo_89 (kb_of ke_X2_needRow 11 rfl)
theorem dX2_needRow_12 : decode cX2_needRow 12 = .ok (.ldc_w 278, 3) := dqo_19 1 22 (kb_of ke_X2_needRow 12 rfl) (kb_of ke_X2_needRow 13 rfl) (kb_of ke_X2_needRow 14 rfl)
theorem dX2_needRow_15 : decode cX2_needRow 15 = .ok (.invokespecial 217, 3) := dqo_183 0 217 (kb_of ke_X2_needRow 15 rfl) (kb_of ke_X2_needRow 16 rfl) (kb_of ke_X2_needRow 17 rfl)
theorem dX2_needRow_18 : decode cX2_needRow 18 = .ok (.athrow, 1) := dqo_191 (kb_of ke_X2_needRow 18 rfl)
set_option maxRecDepth 100000 in
set_option maxHeartbeats 4000000 in
theorem C_needRow_no {l : Launch} {D : va_G} {cy : Nat → ClassId} {X : (Nat → Prop) → State → Heap → Prop} {a f : Nat → Nat → Nat} {r : Nat → Nat → Int32} {kn : Int32} {Y : va_W} {x : Int32} (hX : EnvX X) (hl : l.stackTraces = false) (hno : ¬ (0 ≤ x ∧ x < nI 4)) : Ce l D cy X yX2_needRow cX2_needRow 1 none (rmk 6 1 6 100) [.int x] (WC cy a f r kn ++ Y) "java/lang/IndexOutOfBoundsException" := by
  refine Cm.of [some (.int x)] pn_X2 rfl (Nat.le_of_ble_eq_true rfl) ?_
  intro p e s m args below meth c A C hE hr hnt hn
  refine r_iload_n C dX2_needRow_0 rfl ?_
  refine r_iconst (v := (nI 4)) C dX2_needRow_1 (by decide) ?_
  refine d_S (st := []) hX.stb C hE (C_isBelow0 (f := f) (r := r) (kn := kn) (x := (x)) (n := 4) hX (by first | omega | (simp [up2, *]; done) | (simp [up2, *]; omega) | (simp only [up2_eq]; omega))) pk_X2_isBelow qm_X2_275 rfl rfl (Nat.le_of_ble_eq_true rfl) dX2_needRow_2 ⟨Nat.le_of_ble_eq_true rfl, Nat.le_of_ble_eq_true rfl⟩ ⟨Nat.le_of_ble_eq_true rfl, Nat.le_of_ble_eq_true rfl⟩ ?_
  refine r_ifN_ne (a := 0) (tgt := 19) C (by first | omega | (simp [up2, *]; done) | (simp [up2, *]; omega) | (simp only [up2_eq]; omega)) dX2_needRow_5 (by decide) (fun h5_1 => ?_) (fun h5_1 => ?_)
  · exact absurd h5_1 (by first | omega | (simp [up2, *]; done) | (simp [up2, *]; omega) | (simp only [up2_eq]; omega))
  · skip
    exact r_throwW (cls := "java/lang/IndexOutOfBoundsException") (text := "there is no such row") (names := ["java/lang/RuntimeException", "java/lang/Exception"]) hX hl C hE hnt thr_X2_213_217 (by decide +kernel) (by decide +kernel) (by decide +kernel) dX2_needRow_8 dX2_needRow_11 dX2_needRow_12 dX2_needRow_15 dX2_needRow_18 (by decide) (Nat.le_of_ble_eq_true rfl) (Nat.le_of_ble_eq_true rfl) (Nat.le_of_ble_eq_true rfl) rfl rfl (Nat.le_of_ble_eq_true rfl) (Nat.le_of_ble_eq_true rfl)
theorem dX2_needWindow_0 : decode cX2_needWindow 0 = .ok (.iload_n 0, 1) := dqo_26 (kb_of ke_X2_needWindow 0 rfl)
theorem dX2_needWindow_1 : decode cX2_needWindow 1 = .ok (.iconst 4, 1) := dqo_7 (kb_of ke_X2_needWindow 1 rfl)
theorem dX2_needWindow_2 : decode cX2_needWindow 2 = .ok (.invokestatic 275, 3) := dqo_184 1 19 (kb_of ke_X2_needWindow 2 rfl) (kb_of ke_X2_needWindow 3 rfl) (kb_of ke_X2_needWindow 4 rfl)
theorem dX2_needWindow_5 : decode cX2_needWindow 5 = .ok (.ifCond .ne 14, 3) := dqo_154 0 14 (by decide) (kb_of ke_X2_needWindow 5 rfl) (kb_of ke_X2_needWindow 6 rfl) (kb_of ke_X2_needWindow 7 rfl)
theorem dX2_needWindow_19 : decode cX2_needWindow 19 = .ok (.return_, 1) := dqo_177 (kb_of ke_X2_needWindow 19 rfl)
set_option maxRecDepth 100000 in
set_option maxHeartbeats 4000000 in
theorem C_needWindow_ok {l : Launch} {D : va_G} {cy : Nat → ClassId} {X : (Nat → Prop) → State → Heap → Prop} {a f : Nat → Nat → Nat} {r : Nat → Nat → Int32} {kn : Int32} {Y : va_W} {k : Nat} (hX : EnvX X) (hk : k < 4) : Cd l D cy X yX2_needWindow cX2_needWindow 1 none (rmz 1 30) [.int (nI k)] (WC cy a f r kn ++ Y) none (WC cy a f r kn ++ Y) := by
  refine Cm.of [some (.int (nI k))] pn_X2 rfl (Nat.le_of_ble_eq_true rfl) ?_
  intro p e s m args below meth c A C hE hr hnt hn
  refine r_iload_n C dX2_needWindow_0 rfl ?_
  refine r_iconst (v := (nI 4)) C dX2_needWindow_1 (by decide) ?_
  refine d_S (st := []) hX.stb C hE (C_isBelow1 (f := f) (r := r) (kn := kn) (k := k) (n := 4) hX (by first | omega | (simp [up2, *]; done) | (simp [up2, *]; omega) | (simp only [up2_eq]; omega)) (by first | omega | (simp [up2, *]; done) | (simp [up2, *]; omega) | (simp only [up2_eq]; omega))) pk_X2_isBelow qm_X2_275 rfl rfl (Nat.le_of_ble_eq_true rfl) dX2_needWindow_2 ⟨Nat.le_of_ble_eq_true rfl, Nat.le_of_ble_eq_true rfl⟩ ⟨Nat.le_of_ble_eq_true rfl, Nat.le_of_ble_eq_true rfl⟩ ?_
  refine r_ifN_ne (a := 1) (tgt := 19) C (by first | omega | (simp [up2, *]; done) | (simp [up2, *]; omega) | (simp only [up2_eq]; omega)) dX2_needWindow_5 (by decide) (fun h5_1 => ?_) (fun h5_1 => ?_)
  · skip
    exact r_vret C hr dX2_needWindow_19 ⟨rfl, rfl⟩ (Nat.le_of_ble_eq_true rfl) (Nat.le_of_ble_eq_true rfl)
  · exact absurd h5_1 (by first | omega | (simp [up2, *]; done) | (simp [up2, *]; omega) | (simp only [up2_eq]; omega))
theorem dX2_needWindow_8 : decode cX2_needWindow 8 = .ok (.new 213, 3) := dqo_187 0 213 (kb_of ke_X2_needWindow 8 rfl) (kb_of ke_X2_needWindow 9 rfl) (kb_of ke_X2_needWindow 10 rfl)
theorem dX2_needWindow_11 : decode cX2_needWindow 11 = .ok (.dup, 1) := dqo_89 (kb_of ke_X2_needWindow 11 rfl)
theorem dX2_needWindow_12 : decode cX2_needWindow 12 = .ok (.ldc_w 280, 3) := dqo_19 1 24 (kb_of ke_X2_needWindow 12 rfl) (kb_of ke_X2_needWindow 13 rfl) (kb_of ke_X2_needWindow 14 rfl)
theorem dX2_needWindow_15 : decode cX2_needWindow 15 = .ok (.invokespecial 217, 3) := dqo_183 0 217 (kb_of ke_X2_needWindow 15 rfl) (kb_of ke_X2_needWindow 16 rfl) (kb_of ke_X2_needWindow 17 rfl)
theorem dX2_needWindow_18 : decode cX2_needWindow 18 = .ok (.athrow, 1) := dqo_191 (kb_of ke_X2_needWindow 18 rfl)
set_option maxRecDepth 100000 in
set_option maxHeartbeats 4000000 in
theorem C_needWindow_no {l : Launch} {D : va_G} {cy : Nat → ClassId} {X : (Nat → Prop) → State → Heap → Prop} {a f : Nat → Nat → Nat} {r : Nat → Nat → Int32} {kn : Int32} {Y : va_W} {x : Int32} (hX : EnvX X) (hl : l.stackTraces = false) (hno : ¬ (0 ≤ x ∧ x < nI 4)) : Ce l D cy X yX2_needWindow cX2_needWindow 1 none (rmk 6 1 6 100) [.int x] (WC cy a f r kn ++ Y) "java/lang/IndexOutOfBoundsException" := by
  refine Cm.of [some (.int x)] pn_X2 rfl (Nat.le_of_ble_eq_true rfl) ?_
  intro p e s m args below meth c A C hE hr hnt hn
  refine r_iload_n C dX2_needWindow_0 rfl ?_
  refine r_iconst (v := (nI 4)) C dX2_needWindow_1 (by decide) ?_
  refine d_S (st := []) hX.stb C hE (C_isBelow0 (f := f) (r := r) (kn := kn) (x := (x)) (n := 4) hX (by first | omega | (simp [up2, *]; done) | (simp [up2, *]; omega) | (simp only [up2_eq]; omega))) pk_X2_isBelow qm_X2_275 rfl rfl (Nat.le_of_ble_eq_true rfl) dX2_needWindow_2 ⟨Nat.le_of_ble_eq_true rfl, Nat.le_of_ble_eq_true rfl⟩ ⟨Nat.le_of_ble_eq_true rfl, Nat.le_of_ble_eq_true rfl⟩ ?_
  refine r_ifN_ne (a := 0) (tgt := 19) C (by first | omega | (simp [up2, *]; done) | (simp [up2, *]; omega) | (simp only [up2_eq]; omega)) dX2_needWindow_5 (by decide) (fun h5_1 => ?_) (fun h5_1 => ?_)
  · exact absurd h5_1 (by first | omega | (simp [up2, *]; done) | (simp [up2, *]; omega) | (simp only [up2_eq]; omega))
  · skip
    exact r_throwW (cls := "java/lang/IndexOutOfBoundsException") (text := "there is no such window") (names := ["java/lang/RuntimeException", "java/lang/Exception"]) hX hl C hE hnt thr_X2_213_217 (by decide +kernel) (by decide +kernel) (by decide +kernel) dX2_needWindow_8 dX2_needWindow_11 dX2_needWindow_12 dX2_needWindow_15 dX2_needWindow_18 (by decide) (Nat.le_of_ble_eq_true rfl) (Nat.le_of_ble_eq_true rfl) (Nat.le_of_ble_eq_true rfl) rfl rfl (Nat.le_of_ble_eq_true rfl) (Nat.le_of_ble_eq_true rfl)
theorem dX2_needCursor_0 : decode cX2_needCursor 0 = .ok (.iload_n 0, 1) := dqo_26 (kb_of ke_X2_needCursor 0 rfl)
theorem dX2_needCursor_1 : decode cX2_needCursor 1 = .ok (.iconst 3, 1) := dqo_6 (kb_of ke_X2_needCursor 1 rfl)
theorem dX2_needCursor_2 : decode cX2_needCursor 2 = .ok (.invokestatic 275, 3) := dqo_184 1 19 (kb_of ke_X2_needCursor 2 rfl) (kb_of ke_X2_needCursor 3 rfl) (kb_of ke_X2_needCursor 4 rfl)
theorem dX2_needCursor_5 : decode cX2_needCursor 5 = .ok (.ifCond .ne 14, 3) := dqo_154 0 14 (by decide) (kb_of ke_X2_needCursor 5 rfl) (kb_of ke_X2_needCursor 6 rfl) (kb_of ke_X2_needCursor 7 rfl)
theorem dX2_needCursor_19 : decode cX2_needCursor 19 = .ok (.return_, 1) := dqo_177 (kb_of ke_X2_needCursor 19 rfl)
set_option maxRecDepth 100000 in
set_option maxHeartbeats 4000000 in
theorem C_needCursor_ok {l : Launch} {D : va_G} {cy : Nat → ClassId} {X : (Nat → Prop) → State → Heap → Prop} {a f : Nat → Nat → Nat} {r : Nat → Nat → Int32} {kn : Int32} {Y : va_W} {k : Nat} (hX : EnvX X) (hk : k < 3) : Cd l D cy X yX2_needCursor cX2_needCursor 1 none (rmz 1 30) [.int (nI k)] (WC cy a f r kn ++ Y) none (WC cy a f r kn ++ Y) := by
  refine Cm.of [some (.int (nI k))] pn_X2 rfl (Nat.le_of_ble_eq_true rfl) ?_
  intro p e s m args below meth c A C hE hr hnt hn
  refine r_iload_n C dX2_needCursor_0 rfl ?_
  refine r_iconst (v := (nI 3)) C dX2_needCursor_1 (by decide) ?_
  refine d_S (st := []) hX.stb C hE (C_isBelow1 (f := f) (r := r) (kn := kn) (k := k) (n := 3) hX (by first | omega | (simp [up2, *]; done) | (simp [up2, *]; omega) | (simp only [up2_eq]; omega)) (by first | omega | (simp [up2, *]; done) | (simp [up2, *]; omega) | (simp only [up2_eq]; omega))) pk_X2_isBelow qm_X2_275 rfl rfl (Nat.le_of_ble_eq_true rfl) dX2_needCursor_2 ⟨Nat.le_of_ble_eq_true rfl, Nat.le_of_ble_eq_true rfl⟩ ⟨Nat.le_of_ble_eq_true rfl, Nat.le_of_ble_eq_true rfl⟩ ?_
  refine r_ifN_ne (a := 1) (tgt := 19) C (by first | omega | (simp [up2, *]; done) | (simp [up2, *]; omega) | (simp only [up2_eq]; omega)) dX2_needCursor_5 (by decide) (fun h5_1 => ?_) (fun h5_1 => ?_)
  · skip
    exact r_vret C hr dX2_needCursor_19 ⟨rfl, rfl⟩ (Nat.le_of_ble_eq_true rfl) (Nat.le_of_ble_eq_true rfl)
  · exact absurd h5_1 (by first | omega | (simp [up2, *]; done) | (simp [up2, *]; omega) | (simp only [up2_eq]; omega))
theorem dX2_needCursor_8 : decode cX2_needCursor 8 = .ok (.new 213, 3) := dqo_187 0 213 (kb_of ke_X2_needCursor 8 rfl) (kb_of ke_X2_needCursor 9 rfl) (kb_of ke_X2_needCursor 10 rfl)
theorem dX2_needCursor_11 : decode cX2_needCursor 11 = .ok (.dup, 1) := dqo_89 (kb_of ke_X2_needCursor 11 rfl)
theorem dX2_needCursor_12 : decode cX2_needCursor 12 = .ok (.ldc_w 282, 3) := dqo_19 1 26 (kb_of ke_X2_needCursor 12 rfl) (kb_of ke_X2_needCursor 13 rfl) (kb_of ke_X2_needCursor 14 rfl)
theorem dX2_needCursor_15 : decode cX2_needCursor 15 = .ok (.invokespecial 217, 3) := dqo_183 0 217 (kb_of ke_X2_needCursor 15 rfl) (kb_of ke_X2_needCursor 16 rfl) (kb_of ke_X2_needCursor 17 rfl)
theorem dX2_needCursor_18 : decode cX2_needCursor 18 = .ok (.athrow, 1) := dqo_191 (kb_of ke_X2_needCursor 18 rfl)
set_option maxRecDepth 100000 in
set_option maxHeartbeats 4000000 in
theorem C_needCursor_no {l : Launch} {D : va_G} {cy : Nat → ClassId} {X : (Nat → Prop) → State → Heap → Prop} {a f : Nat → Nat → Nat} {r : Nat → Nat → Int32} {kn : Int32} {Y : va_W} {x : Int32} (hX : EnvX X) (hl : l.stackTraces = false) (hno : ¬ (0 ≤ x ∧ x < nI 3)) : Ce l D cy X yX2_needCursor cX2_needCursor 1 none (rmk 6 1 6 100) [.int x] (WC cy a f r kn ++ Y) "java/lang/IndexOutOfBoundsException" := by
  refine Cm.of [some (.int x)] pn_X2 rfl (Nat.le_of_ble_eq_true rfl) ?_
  intro p e s m args below meth c A C hE hr hnt hn
  refine r_iload_n C dX2_needCursor_0 rfl ?_
  refine r_iconst (v := (nI 3)) C dX2_needCursor_1 (by decide) ?_
  refine d_S (st := []) hX.stb C hE (C_isBelow0 (f := f) (r := r) (kn := kn) (x := (x)) (n := 3) hX (by first | omega | (simp [up2, *]; done) | (simp [up2, *]; omega) | (simp only [up2_eq]; omega))) pk_X2_isBelow qm_X2_275 rfl rfl (Nat.le_of_ble_eq_true rfl) dX2_needCursor_2 ⟨Nat.le_of_ble_eq_true rfl, Nat.le_of_ble_eq_true rfl⟩ ⟨Nat.le_of_ble_eq_true rfl, Nat.le_of_ble_eq_true rfl⟩ ?_
  refine r_ifN_ne (a := 0) (tgt := 19) C (by first | omega | (simp [up2, *]; done) | (simp [up2, *]; omega) | (simp only [up2_eq]; omega)) dX2_needCursor_5 (by decide) (fun h5_1 => ?_) (fun h5_1 => ?_)
  · exact absurd h5_1 (by first | omega | (simp [up2, *]; done) | (simp [up2, *]; omega) | (simp only [up2_eq]; omega))
  · skip
    exact r_throwW (cls := "java/lang/IndexOutOfBoundsException") (text := "there is no such cursor") (names := ["java/lang/RuntimeException", "java/lang/Exception"]) hX hl C hE hnt thr_X2_213_217 (by decide +kernel) (by decide +kernel) (by decide +kernel) dX2_needCursor_8 dX2_needCursor_11 dX2_needCursor_12 dX2_needCursor_15 dX2_needCursor_18 (by decide) (Nat.le_of_ble_eq_true rfl) (Nat.le_of_ble_eq_true rfl) (Nat.le_of_ble_eq_true rfl) rfl rfl (Nat.le_of_ble_eq_true rfl) (Nat.le_of_ble_eq_true rfl)
theorem dX2_needQuestion_0 : decode cX2_needQuestion 0 = .ok (.iload_n 0, 1) := dqo_26 (kb_of ke_X2_needQuestion 0 rfl)
theorem dX2_needQuestion_1 : decode cX2_needQuestion 1 = .ok (.iload_n 1, 1) := dqo_27 (kb_of ke_X2_needQuestion 1 rfl)
theorem dX2_needQuestion_2 : decode cX2_needQuestion 2 = .ok (.invokestatic 275, 3) := dqo_184 1 19 (kb_of ke_X2_needQuestion 2 rfl) (kb_of ke_X2_needQuestion 3 rfl) (kb_of ke_X2_needQuestion 4 rfl)
theorem dX2_needQuestion_5 : decode cX2_needQuestion 5 = .ok (.ifCond .ne 14, 3) := dqo_154 0 14 (by decide) (kb_of ke_X2_needQuestion 5 rfl) (kb_of ke_X2_needQuestion 6 rfl) (kb_of ke_X2_needQuestion 7 rfl)
theorem dX2_needQuestion_19 : decode cX2_needQuestion 19 = .ok (.return_, 1) := dqo_177 (kb_of ke_X2_needQuestion 19 rfl)
set_option maxRecDepth 100000 in
set_option maxHeartbeats 4000000 in
theorem C_needQuestion_ok {l : Launch} {D : va_G} {cy : Nat → ClassId} {X : (Nat → Prop) → State → Heap → Prop} {a f : Nat → Nat → Nat} {r : Nat → Nat → Int32} {kn : Int32} {Y : va_W} {k : Nat} {n : Nat} (hX : EnvX X) (hk : k < n) (hn2 : n < 2147483648) : Cd l D cy X yX2_needQuestion cX2_needQuestion 2 none (rmz 1 30) [.int (nI k), .int (nI n)] (WC cy a f r kn ++ Y) none (WC cy a f r kn ++ Y) := by
  refine Cm.of [some (.int (nI k)), some (.int (nI n))] pn_X2 rfl (Nat.le_of_ble_eq_true rfl) ?_
  intro p e s m args below meth c A C hE hr hnt hn
  refine r_iload_n C dX2_needQuestion_0 rfl ?_
  refine r_iload_n C dX2_needQuestion_1 rfl ?_
  refine d_S (st := []) hX.stb C hE (C_isBelow1 (f := f) (r := r) (kn := kn) (k := k) (n := n) hX (by first | omega | (simp [up2, *]; done) | (simp [up2, *]; omega) | (simp only [up2_eq]; omega)) (by first | omega | (simp [up2, *]; done) | (simp [up2, *]; omega) | (simp only [up2_eq]; omega))) pk_X2_isBelow qm_X2_275 rfl rfl (Nat.le_of_ble_eq_true rfl) dX2_needQuestion_2 ⟨Nat.le_of_ble_eq_true rfl, Nat.le_of_ble_eq_true rfl⟩ ⟨Nat.le_of_ble_eq_true rfl, Nat.le_of_ble_eq_true rfl⟩ ?_
  refine r_ifN_ne (a := 1) (tgt := 19) C (by first | omega | (simp [up2, *]; done) | (simp [up2, *]; omega) | (simp only [up2_eq]; omega)) dX2_needQuestion_5 (by decide) (fun h5_1 => ?_) (fun h5_1 => ?_)
  · skip
    exact r_vret C hr dX2_needQuestion_19 ⟨rfl, rfl⟩ (Nat.le_of_ble_eq_true rfl) (Nat.le_of_ble_eq_true rfl)
  · exact absurd h5_1 (by first | omega | (simp [up2, *]; done) | (simp [up2, *]; omega) | (simp only [up2_eq]; omega))
theorem thr_X2_90_94 : thr_ok RX2 90 94 "java/lang/IllegalArgumentException" ["java/lang/RuntimeException", "java/lang/Exception"] = true := thr_of [215, 10, 6, 237, 246, 252, 255, 257, 238, 239, 31, 32, 240, 245, 253, 273, 227, 274, 229, 275, 231, 241, 243, 233, 269, 270, 272, 233, 260, 261, 262, 263, 219, 263, 264, 265, 266, 221, 266, 267, 268, 269, 223, 259, 216, 217, 224, 225, 226, 228, 230, 232, 236, 235, 234] (by decide +kernel) (by decide +kernel)
theorem dX2_needQuestion_8 : decode cX2_needQuestion 8 = .ok (.new 90, 3) := dqo_187 0 90 (kb_of ke_X2_needQuestion 8 rfl) (kb_of ke_X2_needQuestion 9 rfl) (kb_of ke_X2_needQuestion 10 rfl)
theorem dX2_needQuestion_11 : decode cX2_needQuestion 11 = .ok (.dup, 1) := dqo_89 (kb_of ke_X2_needQuestion 11 rfl)
theorem dX2_needQuestion_12 : decode cX2_needQuestion 12 = .ok (.ldc_w 286, 3) := dqo_19 1 30 (kb_of ke_X2_needQuestion 12 rfl) (kb_of ke_X2_needQuestion 13 rfl) (kb_of ke_X2_needQuestion 14 rfl)
theorem dX2_needQuestion_15 : decode cX2_needQuestion 15 = .ok (.invokespecial 94, 3) := dqo_183 0 94 (kb_of ke_X2_needQuestion 15 rfl) (kb_of ke_X2_needQuestion 16 rfl) (kb_of ke_X2_needQuestion 17 rfl)
theorem dX2_needQuestion_18 : decode cX2_needQuestion 18 = .ok (.athrow, 1) := dqo_191 (kb_of ke_X2_needQuestion 18 rfl)
set_option maxRecDepth 100000 in
set_option maxHeartbeats 4000000 in
theorem C_needQuestion_no {l : Launch} {D : va_G} {cy : Nat → ClassId} {X : (Nat → Prop) → State → Heap → Prop} {a f : Nat → Nat → Nat} {r : Nat → Nat → Int32} {kn : Int32} {Y : va_W} {x : Int32} {n : Nat} (hX : EnvX X) (hl : l.stackTraces = false) (hno : ¬ (0 ≤ x ∧ x < nI n)) : Ce l D cy X yX2_needQuestion cX2_needQuestion 2 none (rmk 6 1 6 100) [.int x, .int (nI n)] (WC cy a f r kn ++ Y) "java/lang/IllegalArgumentException" := by
  refine Cm.of [some (.int x), some (.int (nI n))] pn_X2 rfl (Nat.le_of_ble_eq_true rfl) ?_
  intro p e s m args below meth c A C hE hr hnt hn
  refine r_iload_n C dX2_needQuestion_0 rfl ?_
  refine r_iload_n C dX2_needQuestion_1 rfl ?_
  refine d_S (st := []) hX.stb C hE (C_isBelow0 (f := f) (r := r) (kn := kn) (x := (x)) (n := n) hX (by first | omega | (simp [up2, *]; done) | (simp [up2, *]; omega) | (simp only [up2_eq]; omega))) pk_X2_isBelow qm_X2_275 rfl rfl (Nat.le_of_ble_eq_true rfl) dX2_needQuestion_2 ⟨Nat.le_of_ble_eq_true rfl, Nat.le_of_ble_eq_true rfl⟩ ⟨Nat.le_of_ble_eq_true rfl, Nat.le_of_ble_eq_true rfl⟩ ?_
  refine r_ifN_ne (a := 0) (tgt := 19) C (by first | omega | (simp [up2, *]; done) | (simp [up2, *]; omega) | (simp only [up2_eq]; omega)) dX2_needQuestion_5 (by decide) (fun h5_1 => ?_) (fun h5_1 => ?_)
  · exact absurd h5_1 (by first | omega | (simp [up2, *]; done) | (simp [up2, *]; omega) | (simp only [up2_eq]; omega))
  · skip
    exact r_throwW (cls := "java/lang/IllegalArgumentException") (text := "there is no such question") (names := ["java/lang/RuntimeException", "java/lang/Exception"]) hX hl C hE hnt thr_X2_90_94 (by decide +kernel) (by decide +kernel) (by decide +kernel) dX2_needQuestion_8 dX2_needQuestion_11 dX2_needQuestion_12 dX2_needQuestion_15 dX2_needQuestion_18 (by decide) (Nat.le_of_ble_eq_true rfl) (Nat.le_of_ble_eq_true rfl) (Nat.le_of_ble_eq_true rfl) rfl rfl (Nat.le_of_ble_eq_true rfl) (Nat.le_of_ble_eq_true rfl)
theorem dX2_needItem_0 : decode cX2_needItem 0 = .ok (.iload_n 0, 1) := dqo_26 (kb_of ke_X2_needItem 0 rfl)
theorem dX2_needItem_1 : decode cX2_needItem 1 = .ok (.bipush (-99), 2) := dqo_16 157 (by decide) (kb_of ke_X2_needItem 1 rfl) (kb_of ke_X2_needItem 2 rfl)
theorem dX2_needItem_3 : decode cX2_needItem 3 = .ok (.if_icmp .lt 9, 3) := dqo_161 0 9 (by decide) (kb_of ke_X2_needItem 3 rfl) (kb_of ke_X2_needItem 4 rfl) (kb_of ke_X2_needItem 5 rfl)
theorem dX2_needItem_6 : decode cX2_needItem 6 = .ok (.iload_n 0, 1) := dqo_26 (kb_of ke_X2_needItem 6 rfl)
theorem dX2_needItem_7 : decode cX2_needItem 7 = .ok (.bipush 99, 2) := dqo_16 99 (by decide) (kb_of ke_X2_needItem 7 rfl) (kb_of ke_X2_needItem 8 rfl)
theorem dX2_needItem_9 : decode cX2_needItem 9 = .ok (.if_icmp .le 14, 3) := dqo_164 0 14 (by decide) (kb_of ke_X2_needItem 9 rfl) (kb_of ke_X2_needItem 10 rfl) (kb_of ke_X2_needItem 11 rfl)
theorem dX2_needItem_23 : decode cX2_needItem 23 = .ok (.return_, 1) := dqo_177 (kb_of ke_X2_needItem 23 rfl)
set_option maxRecDepth 100000 in
set_option maxHeartbeats 4000000 in
theorem C_needItem_ok {l : Launch} {D : va_G} {cy : Nat → ClassId} {X : (Nat → Prop) → State → Heap → Prop} {a f : Nat → Nat → Nat} {r : Nat → Nat → Int32} {kn : Int32} {Y : va_W} {x : Int32} (hX : EnvX X) (ho : okI x) : Cd l D cy X yX2_needItem cX2_needItem 1 none (rmz 1 30) [.int x] (WC cy a f r kn ++ Y) none (WC cy a f r kn ++ Y) := by
  refine Cm.of [some (.int x)] pn_X2 rfl (Nat.le_of_ble_eq_true rfl) ?_
  intro p e s m args below meth c A C hE hr hnt hn
  refine r_iload_n C dX2_needItem_0 rfl ?_
  refine r_bipush (v := (nI 4294967197)) C dX2_needItem_1 (by decide) ?_
  refine r_ic_lt (tgt := 12) C dX2_needItem_3 (by decide) (fun h3_1 => ?_) (fun h3_1 => ?_)
  · exact absurd h3_1 ho.1
  · skip
    refine r_iload_n C dX2_needItem_6 rfl ?_
    refine r_bipush (v := (nI 99)) C dX2_needItem_7 (by decide) ?_
    refine r_ic_le (tgt := 23) C dX2_needItem_9 (by decide) (fun h9_2 => ?_) (fun h9_2 => ?_)
    · skip
      exact r_vret C hr dX2_needItem_23 ⟨rfl, rfl⟩ (Nat.le_of_ble_eq_true rfl) (Nat.le_of_ble_eq_true rfl)
    · exact absurd (Int32.not_le.mp h9_2) ho.2
theorem dX2_needItem_12 : decode cX2_needItem 12 = .ok (.new 90, 3) := dqo_187 0 90 (kb_of ke_X2_needItem 12 rfl) (kb_of ke_X2_needItem 13 rfl) (kb_of ke_X2_needItem 14 rfl)
theorem dX2_needItem_15 : decode cX2_needItem 15 = .ok (.dup, 1) := dqo_89 (kb_of ke_X2_needItem 15 rfl)
theorem dX2_needItem_16 : decode cX2_needItem 16 = .ok (.ldc_w 284, 3) := dqo_19 1 28 (kb_of ke_X2_needItem 16 rfl) (kb_of ke_X2_needItem 17 rfl) (kb_of ke_X2_needItem 18 rfl)
theorem dX2_needItem_19 : decode cX2_needItem 19 = .ok (.invokespecial 94, 3) := dqo_183 0 94 (kb_of ke_X2_needItem 19 rfl) (kb_of ke_X2_needItem 20 rfl) (kb_of ke_X2_needItem 21 rfl)
theorem dX2_needItem_22 : decode cX2_needItem 22 = .ok (.athrow, 1) := dqo_191 (kb_of ke_X2_needItem 22 rfl)
set_option maxRecDepth 100000 in
set_option maxHeartbeats 4000000 in
theorem C_needItem_no {l : Launch} {D : va_G} {cy : Nat → ClassId} {X : (Nat → Prop) → State → Heap → Prop} {a f : Nat → Nat → Nat} {r : Nat → Nat → Int32} {kn : Int32} {Y : va_W} {x : Int32} (hX : EnvX X) (hl : l.stackTraces = false) (ho : ¬ okI x) : Ce l D cy X yX2_needItem cX2_needItem 1 none (rmk 6 1 6 100) [.int x] (WC cy a f r kn ++ Y) "java/lang/IllegalArgumentException" := by
  refine Cm.of [some (.int x)] pn_X2 rfl (Nat.le_of_ble_eq_true rfl) ?_
  intro p e s m args below meth c A C hE hr hnt hn
  refine r_iload_n C dX2_needItem_0 rfl ?_
  refine r_bipush (v := (nI 4294967197)) C dX2_needItem_1 (by decide) ?_
  refine r_ic_lt (tgt := 12) C dX2_needItem_3 (by decide) (fun h3_1 => ?_) (fun h3_1 => ?_)
  · first
    | exfalso; first | omega | contradiction
    | skip
      exact r_throwW (cls := "java/lang/IllegalArgumentException") (text := "an item is from -99 to 99") (names := ["java/lang/RuntimeException", "java/lang/Exception"]) hX hl C hE hnt thr_X2_90_94 (by decide +kernel) (by decide +kernel) (by decide +kernel) dX2_needItem_12 dX2_needItem_15 dX2_needItem_16 dX2_needItem_19 dX2_needItem_22 (by decide) (Nat.le_of_ble_eq_true rfl) (Nat.le_of_ble_eq_true rfl) (Nat.le_of_ble_eq_true rfl) rfl rfl (Nat.le_of_ble_eq_true rfl) (Nat.le_of_ble_eq_true rfl)
  · first
    | exfalso; first | omega | contradiction
    | skip
      refine r_iload_n C dX2_needItem_6 rfl ?_
      refine r_bipush (v := (nI 99)) C dX2_needItem_7 (by decide) ?_
      refine r_ic_le (tgt := 23) C dX2_needItem_9 (by decide) (fun h9_2 => ?_) (fun h9_2 => ?_)
      · exact absurd ⟨by assumption, Int32.not_lt.mpr h9_2⟩ ho
      · skip
        exact r_throwW (cls := "java/lang/IllegalArgumentException") (text := "an item is from -99 to 99") (names := ["java/lang/RuntimeException", "java/lang/Exception"]) hX hl C hE hnt thr_X2_90_94 (by decide +kernel) (by decide +kernel) (by decide +kernel) dX2_needItem_12 dX2_needItem_15 dX2_needItem_16 dX2_needItem_19 dX2_needItem_22 (by decide) (Nat.le_of_ble_eq_true rfl) (Nat.le_of_ble_eq_true rfl) (Nat.le_of_ble_eq_true rfl) rfl rfl (Nat.le_of_ble_eq_true rfl) (Nat.le_of_ble_eq_true rfl)
theorem dX2_needWhere_0 : decode cX2_needWhere 0 = .ok (.iload_n 1, 1) := dqo_27 (kb_of ke_X2_needWhere 0 rfl)
theorem dX2_needWhere_1 : decode cX2_needWhere 1 = .ok (.bipush 8, 2) := dqo_16 8 (by decide) (kb_of ke_X2_needWhere 1 rfl) (kb_of ke_X2_needWhere 2 rfl)
theorem dX2_needWhere_3 : decode cX2_needWhere 3 = .ok (.invokestatic 275, 3) := dqo_184 1 19 (kb_of ke_X2_needWhere 3 rfl) (kb_of ke_X2_needWhere 4 rfl) (kb_of ke_X2_needWhere 5 rfl)
theorem dX2_needWhere_6 : decode cX2_needWhere 6 = .ok (.ifCond .eq 15, 3) := dqo_153 0 15 (by decide) (kb_of ke_X2_needWhere 6 rfl) (kb_of ke_X2_needWhere 7 rfl) (kb_of ke_X2_needWhere 8 rfl)
theorem dX2_needWhere_9 : decode cX2_needWhere 9 = .ok (.aload_n 0, 1) := dqo_42 (kb_of ke_X2_needWhere 9 rfl)
theorem dX2_needWhere_10 : decode cX2_needWhere 10 = .ok (.getfield 11, 3) := dqo_180 0 11 (kb_of ke_X2_needWhere 10 rfl) (kb_of ke_X2_needWhere 11 rfl) (kb_of ke_X2_needWhere 12 rfl)
theorem dX2_needWhere_13 : decode cX2_needWhere 13 = .ok (.iload_n 1, 1) := dqo_27 (kb_of ke_X2_needWhere 13 rfl)
theorem dX2_needWhere_14 : decode cX2_needWhere 14 = .ok (.aaload, 1) := dqo_50 (kb_of ke_X2_needWhere 14 rfl)
theorem dX2_needWhere_15 : decode cX2_needWhere 15 = .ok (.getfield 194, 3) := dqo_180 0 194 (kb_of ke_X2_needWhere 15 rfl) (kb_of ke_X2_needWhere 16 rfl) (kb_of ke_X2_needWhere 17 rfl)
theorem dX2_needWhere_18 : decode cX2_needWhere 18 = .ok (.ifCond .ne 14, 3) := dqo_154 0 14 (by decide) (kb_of ke_X2_needWhere 18 rfl) (kb_of ke_X2_needWhere 19 rfl) (kb_of ke_X2_needWhere 20 rfl)
theorem dX2_needWhere_32 : decode cX2_needWhere 32 = .ok (.return_, 1) := dqo_177 (kb_of ke_X2_needWhere 32 rfl)
set_option maxRecDepth 100000 in
set_option maxHeartbeats 4000000 in
theorem C_needWhere_ok {l : Launch} {D : va_G} {cy : Nat → ClassId} {X : (Nat → Prop) → State → Heap → Prop} {a f : Nat → Nat → Nat} {r : Nat → Nat → Int32} {kn : Int32} {Y : va_W} {w : Nat} (hX : EnvX X) (hw : w < 8) (h5 : f 5 w = 1) : Cd l D cy X yX2_needWhere cX2_needWhere 2 none (rmz 1 30) [.ref (a 0 0), .int (nI w)] (WC cy a f r kn ++ Y) none (WC cy a f r kn ++ Y) := by
  refine Cm.of [some (.ref (a 0 0)), some (.int (nI w))] pn_X2 rfl (Nat.le_of_ble_eq_true rfl) ?_
  intro p e s m args below meth c A C hE hr hnt hn
  refine r_iload_n C dX2_needWhere_0 rfl ?_
  refine r_bipush (v := (nI 8)) C dX2_needWhere_1 (by decide) ?_
  refine d_S (st := []) hX.stb C hE (C_isBelow1 (f := f) (r := r) (kn := kn) (k := w) (n := 8) hX (by first | omega | (simp [up2, *]; done) | (simp [up2, *]; omega) | (simp only [up2_eq]; omega)) (by first | omega | (simp [up2, *]; done) | (simp [up2, *]; omega) | (simp only [up2_eq]; omega))) pk_X2_isBelow qm_X2_275 rfl rfl (Nat.le_of_ble_eq_true rfl) dX2_needWhere_3 ⟨Nat.le_of_ble_eq_true rfl, Nat.le_of_ble_eq_true rfl⟩ ⟨Nat.le_of_ble_eq_true rfl, Nat.le_of_ble_eq_true rfl⟩ ?_
  refine r_ifN_eq (a := 1) (tgt := 21) C (by first | omega | (simp [up2, *]; done) | (simp [up2, *]; omega) | (simp only [up2_eq]; omega)) dX2_needWhere_6 (by decide) (fun h6_1 => ?_) (fun h6_1 => ?_)
  · exact absurd h6_1 (by first | omega | (simp [up2, *]; done) | (simp [up2, *]; omega) | (simp only [up2_eq]; omega))
  · skip
    refine r_aload_n C dX2_needWhere_9 rfl ?_
    refine s_get C 0 (by decide) qf_X2_11 rfl rfl dX2_needWhere_10 ?_
    refine r_iload_n C dX2_needWhere_13 rfl ?_
    refine s_parts C (by first | omega | (simp [up2, *]; done) | (simp [up2, *]; omega) | (simp only [up2_eq]; omega)) dX2_needWhere_14 ?_
    refine p_getN (v := .int (nI (f 5 w))) hX C hE 5 (by first | omega | (simp [up2, *]; done) | (simp [up2, *]; omega) | (simp only [up2_eq]; omega)) (by decide) qn_X2_194 rfl rfl dX2_needWhere_15 ?_
    refine r_ifN_ne (a := (f 5 w)) (tgt := 32) C (by first | omega | (simp [up2, *]; done) | (simp [up2, *]; omega) | (simp only [up2_eq]; omega)) dX2_needWhere_18 (by decide) (fun h18_2 => ?_) (fun h18_2 => ?_)
    · skip
      exact r_vret C hr dX2_needWhere_32 ⟨rfl, rfl⟩ (Nat.le_of_ble_eq_true rfl) (Nat.le_of_ble_eq_true rfl)
    · exact absurd (h18_2.symm.trans rfl : 0 = f 5 w) (by omega)
theorem dX2_needWhere_21 : decode cX2_needWhere 21 = .ok (.new 213, 3) := dqo_187 0 213 (kb_of ke_X2_needWhere 21 rfl) (kb_of ke_X2_needWhere 22 rfl) (kb_of ke_X2_needWhere 23 rfl)
theorem dX2_needWhere_24 : decode cX2_needWhere 24 = .ok (.dup, 1) := dqo_89 (kb_of ke_X2_needWhere 24 rfl)
theorem dX2_needWhere_25 : decode cX2_needWhere 25 = .ok (.ldc_w 288, 3) := dqo_19 1 32 (kb_of ke_X2_needWhere 25 rfl) (kb_of ke_X2_needWhere 26 rfl) (kb_of ke_X2_needWhere 27 rfl)
theorem dX2_needWhere_28 : decode cX2_needWhere 28 = .ok (.invokespecial 217, 3) := dqo_183 0 217 (kb_of ke_X2_needWhere 28 rfl) (kb_of ke_X2_needWhere 29 rfl) (kb_of ke_X2_needWhere 30 rfl)
theorem dX2_needWhere_31 : decode cX2_needWhere 31 = .ok (.athrow, 1) := dqo_191 (kb_of ke_X2_needWhere 31 rfl)
set_option maxRecDepth 100000 in
set_option maxHeartbeats 4000000 in
theorem C_needWhere_noA {l : Launch} {D : va_G} {cy : Nat → ClassId} {X : (Nat → Prop) → State → Heap → Prop} {a f : Nat → Nat → Nat} {r : Nat → Nat → Int32} {kn : Int32} {Y : va_W} {x : Int32} (hX : EnvX X) (hl : l.stackTraces = false) (hno : ¬ (0 ≤ x ∧ x < nI 8)) : Ce l D cy X yX2_needWhere cX2_needWhere 2 none (rmk 6 1 6 100) [.ref (a 0 0), .int x] (WC cy a f r kn ++ Y) "java/lang/IndexOutOfBoundsException" := by
  refine Cm.of [some (.ref (a 0 0)), some (.int x)] pn_X2 rfl (Nat.le_of_ble_eq_true rfl) ?_
  intro p e s m args below meth c A C hE hr hnt hn
  refine r_iload_n C dX2_needWhere_0 rfl ?_
  refine r_bipush (v := (nI 8)) C dX2_needWhere_1 (by decide) ?_
  refine d_S (st := []) hX.stb C hE (C_isBelow0 (f := f) (r := r) (kn := kn) (x := (x)) (n := 8) hX (by first | omega | (simp [up2, *]; done) | (simp [up2, *]; omega) | (simp only [up2_eq]; omega))) pk_X2_isBelow qm_X2_275 rfl rfl (Nat.le_of_ble_eq_true rfl) dX2_needWhere_3 ⟨Nat.le_of_ble_eq_true rfl, Nat.le_of_ble_eq_true rfl⟩ ⟨Nat.le_of_ble_eq_true rfl, Nat.le_of_ble_eq_true rfl⟩ ?_
  refine r_ifN_eq (a := 0) (tgt := 21) C (by first | omega | (simp [up2, *]; done) | (simp [up2, *]; omega) | (simp only [up2_eq]; omega)) dX2_needWhere_6 (by decide) (fun h6_1 => ?_) (fun h6_1 => ?_)
  · skip
    exact r_throwW (cls := "java/lang/IndexOutOfBoundsException") (text := "there is no such row or window") (names := ["java/lang/RuntimeException", "java/lang/Exception"]) hX hl C hE hnt thr_X2_213_217 (by decide +kernel) (by decide +kernel) (by decide +kernel) dX2_needWhere_21 dX2_needWhere_24 dX2_needWhere_25 dX2_needWhere_28 dX2_needWhere_31 (by decide) (Nat.le_of_ble_eq_true rfl) (Nat.le_of_ble_eq_true rfl) (Nat.le_of_ble_eq_true rfl) rfl rfl (Nat.le_of_ble_eq_true rfl) (Nat.le_of_ble_eq_true rfl)
  · exact absurd h6_1 (by first | omega | (simp [up2, *]; done) | (simp [up2, *]; omega) | (simp only [up2_eq]; omega))
set_option maxRecDepth 100000 in
set_option maxHeartbeats 4000000 in
theorem C_needWhere_noB {l : Launch} {D : va_G} {cy : Nat → ClassId} {X : (Nat → Prop) → State → Heap → Prop} {a f : Nat → Nat → Nat} {r : Nat → Nat → Int32} {kn : Int32} {Y : va_W} {w : Nat} (hX : EnvX X) (hl : l.stackTraces = false) (hw : w < 8) (h5 : f 5 w = 0) : Ce l D cy X yX2_needWhere cX2_needWhere 2 none (rmk 6 1 6 100) [.ref (a 0 0), .int (nI w)] (WC cy a f r kn ++ Y) "java/lang/IndexOutOfBoundsException" := by
  refine Cm.of [some (.ref (a 0 0)), some (.int (nI w))] pn_X2 rfl (Nat.le_of_ble_eq_true rfl) ?_
  intro p e s m args below meth c A C hE hr hnt hn
  refine r_iload_n C dX2_needWhere_0 rfl ?_
  refine r_bipush (v := (nI 8)) C dX2_needWhere_1 (by decide) ?_
  refine d_S (st := []) hX.stb C hE (C_isBelow1 (f := f) (r := r) (kn := kn) (k := w) (n := 8) hX (by first | omega | (simp [up2, *]; done) | (simp [up2, *]; omega) | (simp only [up2_eq]; omega)) (by first | omega | (simp [up2, *]; done) | (simp [up2, *]; omega) | (simp only [up2_eq]; omega))) pk_X2_isBelow qm_X2_275 rfl rfl (Nat.le_of_ble_eq_true rfl) dX2_needWhere_3 ⟨Nat.le_of_ble_eq_true rfl, Nat.le_of_ble_eq_true rfl⟩ ⟨Nat.le_of_ble_eq_true rfl, Nat.le_of_ble_eq_true rfl⟩ ?_
  refine r_ifN_eq (a := 1) (tgt := 21) C (by first | omega | (simp [up2, *]; done) | (simp [up2, *]; omega) | (simp only [up2_eq]; omega)) dX2_needWhere_6 (by decide) (fun h6_1 => ?_) (fun h6_1 => ?_)
  · exact absurd h6_1 (by first | omega | (simp [up2, *]; done) | (simp [up2, *]; omega) | (simp only [up2_eq]; omega))
  · skip
    refine r_aload_n C dX2_needWhere_9 rfl ?_
    refine s_get C 0 (by decide) qf_X2_11 rfl rfl dX2_needWhere_10 ?_
    refine r_iload_n C dX2_needWhere_13 rfl ?_
    refine s_parts C (by first | omega | (simp [up2, *]; done) | (simp [up2, *]; omega) | (simp only [up2_eq]; omega)) dX2_needWhere_14 ?_
    refine p_getN (v := .int (nI (f 5 w))) hX C hE 5 (by first | omega | (simp [up2, *]; done) | (simp [up2, *]; omega) | (simp only [up2_eq]; omega)) (by decide) qn_X2_194 rfl rfl dX2_needWhere_15 ?_
    refine r_ifN_ne (a := (f 5 w)) (tgt := 32) C (by first | omega | (simp [up2, *]; done) | (simp [up2, *]; omega) | (simp only [up2_eq]; omega)) dX2_needWhere_18 (by decide) (fun h18_2 => ?_) (fun h18_2 => ?_)
    · first
      | exfalso; first | omega | contradiction
      | skip
        exact r_vret C hr dX2_needWhere_32 ⟨rfl, rfl⟩ (Nat.le_of_ble_eq_true rfl) (Nat.le_of_ble_eq_true rfl)
    · first
      | exfalso; first | omega | contradiction
      | skip
        exact r_throwW (cls := "java/lang/IndexOutOfBoundsException") (text := "there is no such row or window") (names := ["java/lang/RuntimeException", "java/lang/Exception"]) hX hl C hE hnt thr_X2_213_217 (by decide +kernel) (by decide +kernel) (by decide +kernel) dX2_needWhere_21 dX2_needWhere_24 dX2_needWhere_25 dX2_needWhere_28 dX2_needWhere_31 (by decide) (Nat.le_of_ble_eq_true rfl) (Nat.le_of_ble_eq_true rfl) (Nat.le_of_ble_eq_true rfl) rfl rfl (Nat.le_of_ble_eq_true rfl) (Nat.le_of_ble_eq_true rfl)
/-- there is no such where -/
def noW (f : Nat → Nat → Nat) (x : Int32) : Prop := ¬ ∃ w, w < 8 ∧ x = nI w ∧ f 5 w = 1
theorem in_of {x : Int32} {n : Nat} (hn : n < 2147483648) (h : 0 ≤ x ∧ x < nI n) : ∃ j, j < n ∧ x = nI j := by
  rcases pk_ix x hn with h1 | h1 | h1
  · exact absurd h.1 (Int32.not_le.mpr h1)
  · exact absurd h.2 (Int32.not_lt.mpr h1)
  · exact h1
theorem noW_or {f : Nat → Nat → Nat} {x : Int32} (h : noW f x) (h5 : ∀ i, i < 8 → f 5 i ≤ 1) : ¬ (0 ≤ x ∧ x < nI 8) ∨ ∃ w, w < 8 ∧ x = nI w ∧ f 5 w = 0 := by
  by_cases h1 : 0 ≤ x ∧ x < nI 8
  · obtain ⟨w, hw, e⟩ := in_of (by omega) h1
    refine Or.inr ⟨w, hw, e, ?_⟩
    have h2 := h5 w hw
    have h3 : f 5 w ≠ 1 := fun q => h ⟨w, hw, e, q⟩
    omega
  · exact Or.inl h1
theorem C_needWhere_no {l : Launch} {D : va_G} {cy : Nat → ClassId} {X : (Nat → Prop) → State → Heap → Prop} {a f : Nat → Nat → Nat} {r : Nat → Nat → Int32} {kn : Int32} {Y : va_W} {x : Int32} (hX : EnvX X) (hl : l.stackTraces = false) (hno : noW f x) (h5 : ∀ i, i < 8 → f 5 i ≤ 1) : Ce l D cy X yX2_needWhere cX2_needWhere 2 none (rmk 6 1 6 100) [.ref (a 0 0), .int x] (WC cy a f r kn ++ Y) "java/lang/IndexOutOfBoundsException" := by
  rcases noW_or hno h5 with h | ⟨w, hw, rfl, h0⟩
  · exact C_needWhere_noA hX hl h
  · exact C_needWhere_noB hX hl hw h0
theorem pk_X2_needWhere : PkV RX2 yX2_needWhere cX2_needWhere 2 none 1 := ⟨⟨qi_X2_needWhere, qs_X2_needWhere, qz_X2, qc_X2_needWhere⟩, rfl, mh_X2.1, mh_X2.2, pd_6⟩
theorem dX2_needPlace_0 : decode cX2_needPlace 0 = .ok (.aload_n 0, 1) := dqo_42 (kb_of ke_X2_needPlace 0 rfl)
theorem dX2_needPlace_1 : decode cX2_needPlace 1 = .ok (.iload_n 1, 1) := dqo_27 (kb_of ke_X2_needPlace 1 rfl)
theorem dX2_needPlace_2 : decode cX2_needPlace 2 = .ok (.invokevirtual 39, 3) := dqo_182 0 39 (kb_of ke_X2_needPlace 2 rfl) (kb_of ke_X2_needPlace 3 rfl) (kb_of ke_X2_needPlace 4 rfl)
theorem dX2_needPlace_5 : decode cX2_needPlace 5 = .ok (.iload_n 2, 1) := dqo_28 (kb_of ke_X2_needPlace 5 rfl)
theorem dX2_needPlace_6 : decode cX2_needPlace 6 = .ok (.aload_n 0, 1) := dqo_42 (kb_of ke_X2_needPlace 6 rfl)
theorem dX2_needPlace_7 : decode cX2_needPlace 7 = .ok (.getfield 11, 3) := dqo_180 0 11 (kb_of ke_X2_needPlace 7 rfl) (kb_of ke_X2_needPlace 8 rfl) (kb_of ke_X2_needPlace 9 rfl)
theorem dX2_needPlace_10 : decode cX2_needPlace 10 = .ok (.iload_n 1, 1) := dqo_27 (kb_of ke_X2_needPlace 10 rfl)
theorem dX2_needPlace_11 : decode cX2_needPlace 11 = .ok (.aaload, 1) := dqo_50 (kb_of ke_X2_needPlace 11 rfl)
theorem dX2_needPlace_12 : decode cX2_needPlace 12 = .ok (.getfield 50, 3) := dqo_180 0 50 (kb_of ke_X2_needPlace 12 rfl) (kb_of ke_X2_needPlace 13 rfl) (kb_of ke_X2_needPlace 14 rfl)
theorem dX2_needPlace_15 : decode cX2_needPlace 15 = .ok (.invokestatic 275, 3) := dqo_184 1 19 (kb_of ke_X2_needPlace 15 rfl) (kb_of ke_X2_needPlace 16 rfl) (kb_of ke_X2_needPlace 17 rfl)
theorem dX2_needPlace_18 : decode cX2_needPlace 18 = .ok (.ifCond .ne 14, 3) := dqo_154 0 14 (by decide) (kb_of ke_X2_needPlace 18 rfl) (kb_of ke_X2_needPlace 19 rfl) (kb_of ke_X2_needPlace 20 rfl)
theorem dX2_needPlace_32 : decode cX2_needPlace 32 = .ok (.return_, 1) := dqo_177 (kb_of ke_X2_needPlace 32 rfl)
set_option maxRecDepth 100000 in
set_option maxHeartbeats 4000000 in
theorem C_needPlace_ok {l : Launch} {D : va_G} {cy : Nat → ClassId} {X : (Nat → Prop) → State → Heap → Prop} {a f : Nat → Nat → Nat} {r : Nat → Nat → Int32} {kn : Int32} {Y : va_W} {w : Nat} {k : Nat} (hX : EnvX X) (hw : w < 8) (h5 : f 5 w = 1) (hk : k < f 4 w) (h4 : f 4 w ≤ 12) : Cd l D cy X yX2_needPlace cX2_needPlace 3 none (rmz 2 60) [.ref (a 0 0), .int (nI w), .int (nI k)] (WC cy a f r kn ++ Y) none (WC cy a f r kn ++ Y) := by
  refine Cm.of [some (.ref (a 0 0)), some (.int (nI w)), some (.int (nI k))] pn_X2 rfl (Nat.le_of_ble_eq_true rfl) ?_
  intro p e s m args below meth c A C hE hr hnt hn
  refine r_aload_n C dX2_needPlace_0 rfl ?_
  refine r_iload_n C dX2_needPlace_1 rfl ?_
  refine d_Vv (st := []) hX.stb C hE (C_needWhere_ok (f := f) (r := r) (kn := kn) (w := w) hX (by first | omega | (simp [up2, *]; done) | (simp [up2, *]; omega) | (simp only [up2_eq]; omega)) (by first | omega | (simp [up2, *]; done) | (simp [up2, *]; omega) | (simp only [up2_eq]; omega))) pk_X2_needWhere qm_X2_39 0 6 rfl rfl wc_0 rfl rfl (Nat.le_of_ble_eq_true rfl) dX2_needPlace_2 ⟨Nat.le_of_ble_eq_true rfl, Nat.le_of_ble_eq_true rfl⟩ ⟨Nat.le_of_ble_eq_true rfl, Nat.le_of_ble_eq_true rfl⟩ ?_
  refine r_iload_n C dX2_needPlace_5 rfl ?_
  refine r_aload_n C dX2_needPlace_6 rfl ?_
  refine s_get C 0 (by decide) qf_X2_11 rfl rfl dX2_needPlace_7 ?_
  refine r_iload_n C dX2_needPlace_10 rfl ?_
  refine s_parts C (by first | omega | (simp [up2, *]; done) | (simp [up2, *]; omega) | (simp only [up2_eq]; omega)) dX2_needPlace_11 ?_
  refine p_getN (v := .int (nI (f 4 w))) hX C hE 4 (by first | omega | (simp [up2, *]; done) | (simp [up2, *]; omega) | (simp only [up2_eq]; omega)) (by decide) qn_X2_50 rfl rfl dX2_needPlace_12 ?_
  refine d_S (st := []) hX.stb C hE (C_isBelow1 (f := f) (r := r) (kn := kn) (k := k) (n := (f 4 w)) hX (by first | omega | (simp [up2, *]; done) | (simp [up2, *]; omega) | (simp only [up2_eq]; omega)) (by first | omega | (simp [up2, *]; done) | (simp [up2, *]; omega) | (simp only [up2_eq]; omega))) pk_X2_isBelow qm_X2_275 rfl rfl (Nat.le_of_ble_eq_true rfl) dX2_needPlace_15 ⟨Nat.le_of_ble_eq_true rfl, Nat.le_of_ble_eq_true rfl⟩ ⟨Nat.le_of_ble_eq_true rfl, Nat.le_of_ble_eq_true rfl⟩ ?_
  refine r_ifN_ne (a := 1) (tgt := 32) C (by first | omega | (simp [up2, *]; done) | (simp [up2, *]; omega) | (simp only [up2_eq]; omega)) dX2_needPlace_18 (by decide) (fun h18_1 => ?_) (fun h18_1 => ?_)
  · skip
    exact r_vret C hr dX2_needPlace_32 ⟨rfl, rfl⟩ (Nat.le_of_ble_eq_true rfl) (Nat.le_of_ble_eq_true rfl)
  · exact absurd h18_1 (by first | omega | (simp [up2, *]; done) | (simp [up2, *]; omega) | (simp only [up2_eq]; omega))
set_option maxRecDepth 100000 in
set_option maxHeartbeats 4000000 in
theorem C_needPlace_noW {l : Launch} {D : va_G} {cy : Nat → ClassId} {X : (Nat → Prop) → State → Heap → Prop} {a f : Nat → Nat → Nat} {r : Nat → Nat → Int32} {kn : Int32} {Y : va_W} {x : Int32} {y : Int32} (hX : EnvX X) (hl : l.stackTraces = false) (hno : noW f x) (h5a : ∀ i, i < 8 → f 5 i ≤ 1) : Ce l D cy X yX2_needPlace cX2_needPlace 3 none (rmk 7 1 6 130) [.ref (a 0 0), .int x, .int y] (WC cy a f r kn ++ Y) "java/lang/IndexOutOfBoundsException" := by
  refine Cm.of [some (.ref (a 0 0)), some (.int x), some (.int y)] pn_X2 rfl (Nat.le_of_ble_eq_true rfl) ?_
  intro p e s m args below meth c A C hE hr hnt hn
  refine r_aload_n C dX2_needPlace_0 rfl ?_
  refine r_iload_n C dX2_needPlace_1 rfl ?_
  refine c_V (st := []) hX.stb C hE (C_needWhere_no (f := f) (r := r) (kn := kn) (x := (x)) hX hl hno h5a) pk_X2_needWhere qm_X2_39 0 6 rfl rfl wc_0 rfl rfl (Nat.le_of_ble_eq_true rfl) dX2_needPlace_2 ⟨Nat.le_of_ble_eq_true rfl, Nat.le_of_ble_eq_true rfl⟩ ⟨Nat.le_of_ble_eq_true rfl, Nat.le_of_ble_eq_true rfl⟩ (fun _ _ h9 => h9.elim) (fun E9 h9 => ?_)
  subst h9
  exact r_out C hnt rfl rfl (Nat.le_of_ble_eq_true rfl) (Nat.le_of_ble_eq_true rfl)
theorem dX2_needPlace_21 : decode cX2_needPlace 21 = .ok (.new 213, 3) := dqo_187 0 213 (kb_of ke_X2_needPlace 21 rfl) (kb_of ke_X2_needPlace 22 rfl) (kb_of ke_X2_needPlace 23 rfl)
theorem dX2_needPlace_24 : decode cX2_needPlace 24 = .ok (.dup, 1) := dqo_89 (kb_of ke_X2_needPlace 24 rfl)
theorem dX2_needPlace_25 : decode cX2_needPlace 25 = .ok (.ldc_w 290, 3) := dqo_19 1 34 (kb_of ke_X2_needPlace 25 rfl) (kb_of ke_X2_needPlace 26 rfl) (kb_of ke_X2_needPlace 27 rfl)
theorem dX2_needPlace_28 : decode cX2_needPlace 28 = .ok (.invokespecial 217, 3) := dqo_183 0 217 (kb_of ke_X2_needPlace 28 rfl) (kb_of ke_X2_needPlace 29 rfl) (kb_of ke_X2_needPlace 30 rfl)
theorem dX2_needPlace_31 : decode cX2_needPlace 31 = .ok (.athrow, 1) := dqo_191 (kb_of ke_X2_needPlace 31 rfl)
set_option maxRecDepth 100000 in
set_option maxHeartbeats 4000000 in
theorem C_needPlace_no {l : Launch} {D : va_G} {cy : Nat → ClassId} {X : (Nat → Prop) → State → Heap → Prop} {a f : Nat → Nat → Nat} {r : Nat → Nat → Int32} {kn : Int32} {Y : va_W} {w : Nat} {y : Int32} (hX : EnvX X) (hl : l.stackTraces = false) (hw : w < 8) (h5 : f 5 w = 1) (hno : ¬ (0 ≤ y ∧ y < nI (f 4 w))) : Ce l D cy X yX2_needPlace cX2_needPlace 3 none (rmk 7 1 6 130) [.ref (a 0 0), .int (nI w), .int y] (WC cy a f r kn ++ Y) "java/lang/IndexOutOfBoundsException" := by
  refine Cm.of [some (.ref (a 0 0)), some (.int (nI w)), some (.int y)] pn_X2 rfl (Nat.le_of_ble_eq_true rfl) ?_
  intro p e s m args below meth c A C hE hr hnt hn
  refine r_aload_n C dX2_needPlace_0 rfl ?_
  refine r_iload_n C dX2_needPlace_1 rfl ?_
  refine d_Vv (st := []) hX.stb C hE (C_needWhere_ok (f := f) (r := r) (kn := kn) (w := w) hX (by first | omega | (simp [up2, *]; done) | (simp [up2, *]; omega) | (simp only [up2_eq]; omega)) (by first | omega | (simp [up2, *]; done) | (simp [up2, *]; omega) | (simp only [up2_eq]; omega))) pk_X2_needWhere qm_X2_39 0 6 rfl rfl wc_0 rfl rfl (Nat.le_of_ble_eq_true rfl) dX2_needPlace_2 ⟨Nat.le_of_ble_eq_true rfl, Nat.le_of_ble_eq_true rfl⟩ ⟨Nat.le_of_ble_eq_true rfl, Nat.le_of_ble_eq_true rfl⟩ ?_
  refine r_iload_n C dX2_needPlace_5 rfl ?_
  refine r_aload_n C dX2_needPlace_6 rfl ?_
  refine s_get C 0 (by decide) qf_X2_11 rfl rfl dX2_needPlace_7 ?_
  refine r_iload_n C dX2_needPlace_10 rfl ?_
  refine s_parts C (by first | omega | (simp [up2, *]; done) | (simp [up2, *]; omega) | (simp only [up2_eq]; omega)) dX2_needPlace_11 ?_
  refine p_getN (v := .int (nI (f 4 w))) hX C hE 4 (by first | omega | (simp [up2, *]; done) | (simp [up2, *]; omega) | (simp only [up2_eq]; omega)) (by decide) qn_X2_50 rfl rfl dX2_needPlace_12 ?_
  refine d_S (st := []) hX.stb C hE (C_isBelow0 (f := f) (r := r) (kn := kn) (x := (y)) (n := (f 4 w)) hX hno) pk_X2_isBelow qm_X2_275 rfl rfl (Nat.le_of_ble_eq_true rfl) dX2_needPlace_15 ⟨Nat.le_of_ble_eq_true rfl, Nat.le_of_ble_eq_true rfl⟩ ⟨Nat.le_of_ble_eq_true rfl, Nat.le_of_ble_eq_true rfl⟩ ?_
  refine r_ifN_ne (a := 0) (tgt := 32) C (by first | omega | (simp [up2, *]; done) | (simp [up2, *]; omega) | (simp only [up2_eq]; omega)) dX2_needPlace_18 (by decide) (fun h18_1 => ?_) (fun h18_1 => ?_)
  · exact absurd h18_1 (by first | omega | (simp [up2, *]; done) | (simp [up2, *]; omega) | (simp only [up2_eq]; omega))
  · skip
    exact r_throwW (cls := "java/lang/IndexOutOfBoundsException") (text := "there is no such place") (names := ["java/lang/RuntimeException", "java/lang/Exception"]) hX hl C hE hnt thr_X2_213_217 (by decide +kernel) (by decide +kernel) (by decide +kernel) dX2_needPlace_21 dX2_needPlace_24 dX2_needPlace_25 dX2_needPlace_28 dX2_needPlace_31 (by decide) (Nat.le_of_ble_eq_true rfl) (Nat.le_of_ble_eq_true rfl) (Nat.le_of_ble_eq_true rfl) rfl rfl (Nat.le_of_ble_eq_true rfl) (Nat.le_of_ble_eq_true rfl)
theorem thr_X2_147_151 : thr_ok RX2 147 151 "java/lang/IllegalStateException" ["java/lang/RuntimeException", "java/lang/Exception"] = true := thr_of [720, 11, 6, 237, 246, 252, 255, 257, 238, 239, 31, 32, 240, 245, 253, 273, 227, 274, 229, 275, 231, 241, 243, 233, 269, 270, 272, 233, 731, 732, 733, 263, 219, 263, 264, 265, 266, 221, 266, 267, 268, 269, 223, 730, 721, 722, 723, 249, 724, 725, 726, 727, 236, 235, 728] (by decide +kernel) (by decide +kernel)
theorem dX2_needRoom_0 : decode cX2_needRoom 0 = .ok (.aload_n 0, 1) := dqo_42 (kb_of ke_X2_needRoom 0 rfl)
theorem dX2_needRoom_1 : decode cX2_needRoom 1 = .ok (.getfield 11, 3) := dqo_180 0 11 (kb_of ke_X2_needRoom 1 rfl) (kb_of ke_X2_needRoom 2 rfl) (kb_of ke_X2_needRoom 3 rfl)
theorem dX2_needRoom_4 : decode cX2_needRoom 4 = .ok (.aload_n 0, 1) := dqo_42 (kb_of ke_X2_needRoom 4 rfl)
theorem dX2_needRoom_5 : decode cX2_needRoom 5 = .ok (.getfield 11, 3) := dqo_180 0 11 (kb_of ke_X2_needRoom 5 rfl) (kb_of ke_X2_needRoom 6 rfl) (kb_of ke_X2_needRoom 7 rfl)
theorem dX2_needRoom_8 : decode cX2_needRoom 8 = .ok (.iload_n 1, 1) := dqo_27 (kb_of ke_X2_needRoom 8 rfl)
theorem dX2_needRoom_9 : decode cX2_needRoom 9 = .ok (.aaload, 1) := dqo_50 (kb_of ke_X2_needRoom 9 rfl)
theorem dX2_needRoom_10 : decode cX2_needRoom 10 = .ok (.getfield 207, 3) := dqo_180 0 207 (kb_of ke_X2_needRoom 10 rfl) (kb_of ke_X2_needRoom 11 rfl) (kb_of ke_X2_needRoom 12 rfl)
theorem dX2_needRoom_13 : decode cX2_needRoom 13 = .ok (.aaload, 1) := dqo_50 (kb_of ke_X2_needRoom 13 rfl)
theorem dX2_needRoom_14 : decode cX2_needRoom 14 = .ok (.getfield 50, 3) := dqo_180 0 50 (kb_of ke_X2_needRoom 14 rfl) (kb_of ke_X2_needRoom 15 rfl) (kb_of ke_X2_needRoom 16 rfl)
theorem dX2_needRoom_17 : decode cX2_needRoom 17 = .ok (.iload_n 2, 1) := dqo_28 (kb_of ke_X2_needRoom 17 rfl)
theorem dX2_needRoom_18 : decode cX2_needRoom 18 = .ok (.iadd, 1) := dqo_96 (kb_of ke_X2_needRoom 18 rfl)
theorem dX2_needRoom_19 : decode cX2_needRoom 19 = .ok (.bipush 12, 2) := dqo_16 12 (by decide) (kb_of ke_X2_needRoom 19 rfl) (kb_of ke_X2_needRoom 20 rfl)
theorem dX2_needRoom_21 : decode cX2_needRoom 21 = .ok (.if_icmp .le 14, 3) := dqo_164 0 14 (by decide) (kb_of ke_X2_needRoom 21 rfl) (kb_of ke_X2_needRoom 22 rfl) (kb_of ke_X2_needRoom 23 rfl)
theorem dX2_needRoom_24 : decode cX2_needRoom 24 = .ok (.new 147, 3) := dqo_187 0 147 (kb_of ke_X2_needRoom 24 rfl) (kb_of ke_X2_needRoom 25 rfl) (kb_of ke_X2_needRoom 26 rfl)
theorem dX2_needRoom_27 : decode cX2_needRoom 27 = .ok (.dup, 1) := dqo_89 (kb_of ke_X2_needRoom 27 rfl)
theorem dX2_needRoom_28 : decode cX2_needRoom 28 = .ok (.ldc_w 292, 3) := dqo_19 1 36 (kb_of ke_X2_needRoom 28 rfl) (kb_of ke_X2_needRoom 29 rfl) (kb_of ke_X2_needRoom 30 rfl)
theorem dX2_needRoom_31 : decode cX2_needRoom 31 = .ok (.invokespecial 151, 3) := dqo_183 0 151 (kb_of ke_X2_needRoom 31 rfl) (kb_of ke_X2_needRoom 32 rfl) (kb_of ke_X2_needRoom 33 rfl)
theorem dX2_needRoom_34 : decode cX2_needRoom 34 = .ok (.athrow, 1) := dqo_191 (kb_of ke_X2_needRoom 34 rfl)
theorem dX2_needRoom_35 : decode cX2_needRoom 35 = .ok (.return_, 1) := dqo_177 (kb_of ke_X2_needRoom 35 rfl)
set_option maxRecDepth 100000 in
set_option maxHeartbeats 4000000 in
theorem C_needRoom_ok {l : Launch} {D : va_G} {cy : Nat → ClassId} {X : (Nat → Prop) → State → Heap → Prop} {a f : Nat → Nat → Nat} {r : Nat → Nat → Int32} {kn : Int32} {Y : va_W} {w : Nat} {x : Int32} {q0 : Nat} (hX : EnvX X) (hw : w < 8) (h1 : f 1 w < 8) (hm : nI (f 4 (f 1 w)) + x = nI q0) (hq : q0 ≤ 12) : Cd l D cy X yX2_needRoom cX2_needRoom 3 none (rmz 0 0) [.ref (a 0 0), .int (nI w), .int x] (WC cy a f r kn ++ Y) none (WC cy a f r kn ++ Y) := by
  refine Cm.of [some (.ref (a 0 0)), some (.int (nI w)), some (.int x)] pn_X2 rfl (Nat.le_of_ble_eq_true rfl) ?_
  intro p e s m args below meth c A C hE hr hnt hn
  refine r_aload_n C dX2_needRoom_0 rfl ?_
  refine s_get C 0 (by decide) qf_X2_11 rfl rfl dX2_needRoom_1 ?_
  refine r_aload_n C dX2_needRoom_4 rfl ?_
  refine s_get C 0 (by decide) qf_X2_11 rfl rfl dX2_needRoom_5 ?_
  refine r_iload_n C dX2_needRoom_8 rfl ?_
  refine s_parts C (by first | omega | (simp [up2, *]; done) | (simp [up2, *]; omega) | (simp only [up2_eq]; omega)) dX2_needRoom_9 ?_
  refine p_getN (v := .int (nI (f 1 w))) hX C hE 1 (by first | omega | (simp [up2, *]; done) | (simp [up2, *]; omega) | (simp only [up2_eq]; omega)) (by decide) qn_X2_207 rfl rfl dX2_needRoom_10 ?_
  refine s_parts C (by first | omega | (simp [up2, *]; done) | (simp [up2, *]; omega) | (simp only [up2_eq]; omega)) dX2_needRoom_13 ?_
  refine p_getN (v := .int (nI (f 4 (f 1 w)))) hX C hE 4 (by first | omega | (simp [up2, *]; done) | (simp [up2, *]; omega) | (simp only [up2_eq]; omega)) (by decide) qn_X2_50 rfl rfl dX2_needRoom_14 ?_
  refine r_iload_n C dX2_needRoom_17 rfl ?_
  refine r_iadd C dX2_needRoom_18 ?_
  refine r_eqi hm ?_
  refine r_bipush (v := (nI 12)) C dX2_needRoom_19 (by decide) ?_
  refine r_icN_le (a := q0) (b := 12) (tgt := 35) C (by first | omega | (simp [up2, *]; done) | (simp [up2, *]; omega) | (simp only [up2_eq]; omega)) (by first | omega | (simp [up2, *]; done) | (simp [up2, *]; omega) | (simp only [up2_eq]; omega)) dX2_needRoom_21 (by decide) (fun h21_1 => ?_) (fun h21_1 => ?_)
  · first
    | exfalso; first | omega | contradiction
    | skip
      exact r_vret C hr dX2_needRoom_35 ⟨rfl, rfl⟩ (Nat.le_of_ble_eq_true rfl) (Nat.le_of_ble_eq_true rfl)
  · first
    | exfalso; first | omega | contradiction
    | skip
      exact r_throwW (cls := "java/lang/IllegalStateException") (text := "a row has at most 12 items") (names := ["java/lang/RuntimeException", "java/lang/Exception"]) hX hl C hE hnt thr_X2_147_151 (by decide +kernel) (by decide +kernel) (by decide +kernel) dX2_needRoom_24 dX2_needRoom_27 dX2_needRoom_28 dX2_needRoom_31 dX2_needRoom_34 (by decide) (Nat.le_of_ble_eq_true rfl) (Nat.le_of_ble_eq_true rfl) (Nat.le_of_ble_eq_true rfl) rfl rfl (Nat.le_of_ble_eq_true rfl) (Nat.le_of_ble_eq_true rfl)
set_option maxRecDepth 100000 in
set_option maxHeartbeats 4000000 in
theorem C_needRoom_no {l : Launch} {D : va_G} {cy : Nat → ClassId} {X : (Nat → Prop) → State → Heap → Prop} {a f : Nat → Nat → Nat} {r : Nat → Nat → Int32} {kn : Int32} {Y : va_W} {w : Nat} {x : Int32} {q0 : Nat} (hX : EnvX X) (hl : l.stackTraces = false) (hw : w < 8) (h1 : f 1 w < 8) (hm : nI (f 4 (f 1 w)) + x = nI q0) (hq : 12 < q0) (hq2 : q0 < 2147483648) : Ce l D cy X yX2_needRoom cX2_needRoom 3 none (rmk 6 1 6 100) [.ref (a 0 0), .int (nI w), .int x] (WC cy a f r kn ++ Y) "java/lang/IllegalStateException" := by
  refine Cm.of [some (.ref (a 0 0)), some (.int (nI w)), some (.int x)] pn_X2 rfl (Nat.le_of_ble_eq_true rfl) ?_
  intro p e s m args below meth c A C hE hr hnt hn
  refine r_aload_n C dX2_needRoom_0 rfl ?_
  refine s_get C 0 (by decide) qf_X2_11 rfl rfl dX2_needRoom_1 ?_
  refine r_aload_n C dX2_needRoom_4 rfl ?_
  refine s_get C 0 (by decide) qf_X2_11 rfl rfl dX2_needRoom_5 ?_
  refine r_iload_n C dX2_needRoom_8 rfl ?_
  refine s_parts C (by first | omega | (simp [up2, *]; done) | (simp [up2, *]; omega) | (simp only [up2_eq]; omega)) dX2_needRoom_9 ?_
  refine p_getN (v := .int (nI (f 1 w))) hX C hE 1 (by first | omega | (simp [up2, *]; done) | (simp [up2, *]; omega) | (simp only [up2_eq]; omega)) (by decide) qn_X2_207 rfl rfl dX2_needRoom_10 ?_
  refine s_parts C (by first | omega | (simp [up2, *]; done) | (simp [up2, *]; omega) | (simp only [up2_eq]; omega)) dX2_needRoom_13 ?_
  refine p_getN (v := .int (nI (f 4 (f 1 w)))) hX C hE 4 (by first | omega | (simp [up2, *]; done) | (simp [up2, *]; omega) | (simp only [up2_eq]; omega)) (by decide) qn_X2_50 rfl rfl dX2_needRoom_14 ?_
  refine r_iload_n C dX2_needRoom_17 rfl ?_
  refine r_iadd C dX2_needRoom_18 ?_
  refine r_eqi hm ?_
  refine r_bipush (v := (nI 12)) C dX2_needRoom_19 (by decide) ?_
  refine r_icN_le (a := q0) (b := 12) (tgt := 35) C (by first | omega | (simp [up2, *]; done) | (simp [up2, *]; omega) | (simp only [up2_eq]; omega)) (by first | omega | (simp [up2, *]; done) | (simp [up2, *]; omega) | (simp only [up2_eq]; omega)) dX2_needRoom_21 (by decide) (fun h21_1 => ?_) (fun h21_1 => ?_)
  · first
    | exfalso; first | omega | contradiction
    | skip
      exact r_vret C hr dX2_needRoom_35 ⟨rfl, rfl⟩ (Nat.le_of_ble_eq_true rfl) (Nat.le_of_ble_eq_true rfl)
  · first
    | exfalso; first | omega | contradiction
    | skip
      exact r_throwW (cls := "java/lang/IllegalStateException") (text := "a row has at most 12 items") (names := ["java/lang/RuntimeException", "java/lang/Exception"]) hX hl C hE hnt thr_X2_147_151 (by decide +kernel) (by decide +kernel) (by decide +kernel) dX2_needRoom_24 dX2_needRoom_27 dX2_needRoom_28 dX2_needRoom_31 dX2_needRoom_34 (by decide) (Nat.le_of_ble_eq_true rfl) (Nat.le_of_ble_eq_true rfl) (Nat.le_of_ble_eq_true rfl) rfl rfl (Nat.le_of_ble_eq_true rfl) (Nat.le_of_ble_eq_true rfl)
theorem pk_X2_needCursor : PkS yX2_needCursor cX2_needCursor 1 none 1 := ⟨⟨qt_X2_needCursor, qz_X2, qc_X2_needCursor⟩, mh_X2.1, mh_X2.2, pd_6⟩
theorem dX2_needCursorThere_0 : decode cX2_needCursorThere 0 = .ok (.iload_n 1, 1) := dqo_27 (kb_of ke_X2_needCursorThere 0 rfl)
theorem dX2_needCursorThere_1 : decode cX2_needCursorThere 1 = .ok (.invokestatic 210, 3) := dqo_184 0 210 (kb_of ke_X2_needCursorThere 1 rfl) (kb_of ke_X2_needCursorThere 2 rfl) (kb_of ke_X2_needCursorThere 3 rfl)
theorem dX2_needCursorThere_4 : decode cX2_needCursorThere 4 = .ok (.aload_n 0, 1) := dqo_42 (kb_of ke_X2_needCursorThere 4 rfl)
theorem dX2_needCursorThere_5 : decode cX2_needCursorThere 5 = .ok (.getfield 24, 3) := dqo_180 0 24 (kb_of ke_X2_needCursorThere 5 rfl) (kb_of ke_X2_needCursorThere 6 rfl) (kb_of ke_X2_needCursorThere 7 rfl)
theorem dX2_needCursorThere_8 : decode cX2_needCursorThere 8 = .ok (.iload_n 1, 1) := dqo_27 (kb_of ke_X2_needCursorThere 8 rfl)
theorem dX2_needCursorThere_9 : decode cX2_needCursorThere 9 = .ok (.aaload, 1) := dqo_50 (kb_of ke_X2_needCursorThere 9 rfl)
theorem dX2_needCursorThere_10 : decode cX2_needCursorThere 10 = .ok (.getfield 221, 3) := dqo_180 0 221 (kb_of ke_X2_needCursorThere 10 rfl) (kb_of ke_X2_needCursorThere 11 rfl) (kb_of ke_X2_needCursorThere 12 rfl)
theorem dX2_needCursorThere_13 : decode cX2_needCursorThere 13 = .ok (.ifCond .ne 14, 3) := dqo_154 0 14 (by decide) (kb_of ke_X2_needCursorThere 13 rfl) (kb_of ke_X2_needCursorThere 14 rfl) (kb_of ke_X2_needCursorThere 15 rfl)
theorem dX2_needCursorThere_16 : decode cX2_needCursorThere 16 = .ok (.new 147, 3) := dqo_187 0 147 (kb_of ke_X2_needCursorThere 16 rfl) (kb_of ke_X2_needCursorThere 17 rfl) (kb_of ke_X2_needCursorThere 18 rfl)
theorem dX2_needCursorThere_19 : decode cX2_needCursorThere 19 = .ok (.dup, 1) := dqo_89 (kb_of ke_X2_needCursorThere 19 rfl)
theorem dX2_needCursorThere_20 : decode cX2_needCursorThere 20 = .ok (.ldc_w 294, 3) := dqo_19 1 38 (kb_of ke_X2_needCursorThere 20 rfl) (kb_of ke_X2_needCursorThere 21 rfl) (kb_of ke_X2_needCursorThere 22 rfl)
theorem dX2_needCursorThere_23 : decode cX2_needCursorThere 23 = .ok (.invokespecial 151, 3) := dqo_183 0 151 (kb_of ke_X2_needCursorThere 23 rfl) (kb_of ke_X2_needCursorThere 24 rfl) (kb_of ke_X2_needCursorThere 25 rfl)
theorem dX2_needCursorThere_26 : decode cX2_needCursorThere 26 = .ok (.athrow, 1) := dqo_191 (kb_of ke_X2_needCursorThere 26 rfl)
theorem dX2_needCursorThere_27 : decode cX2_needCursorThere 27 = .ok (.return_, 1) := dqo_177 (kb_of ke_X2_needCursorThere 27 rfl)
set_option maxRecDepth 100000 in
set_option maxHeartbeats 4000000 in
theorem C_needCursorThere_ok {l : Launch} {D : va_G} {cy : Nat → ClassId} {X : (Nat → Prop) → State → Heap → Prop} {a f : Nat → Nat → Nat} {r : Nat → Nat → Int32} {kn : Int32} {Y : va_W} {k : Nat} (hX : EnvX X) (hk : k < 3) (h9 : f 9 k = 1) : Cd l D cy X yX2_needCursorThere cX2_needCursorThere 2 none (rmz 2 60) [.ref (a 0 0), .int (nI k)] (WC cy a f r kn ++ Y) none (WC cy a f r kn ++ Y) := by
  refine Cm.of [some (.ref (a 0 0)), some (.int (nI k))] pn_X2 rfl (Nat.le_of_ble_eq_true rfl) ?_
  intro p e s m args below meth c A C hE hr hnt hn
  refine r_iload_n C dX2_needCursorThere_0 rfl ?_
  refine d_Sv (st := []) hX.stb C hE (C_needCursor_ok (f := f) (r := r) (kn := kn) (k := k) hX (by first | omega | (simp [up2, *]; done) | (simp [up2, *]; omega) | (simp only [up2_eq]; omega))) pk_X2_needCursor qm_X2_210 rfl rfl (Nat.le_of_ble_eq_true rfl) dX2_needCursorThere_1 ⟨Nat.le_of_ble_eq_true rfl, Nat.le_of_ble_eq_true rfl⟩ ⟨Nat.le_of_ble_eq_true rfl, Nat.le_of_ble_eq_true rfl⟩ ?_
  refine r_aload_n C dX2_needCursorThere_4 rfl ?_
  refine s_get C 1 (by decide) qf_X2_24 rfl rfl dX2_needCursorThere_5 ?_
  refine r_iload_n C dX2_needCursorThere_8 rfl ?_
  refine s_curs C (by first | omega | (simp [up2, *]; done) | (simp [up2, *]; omega) | (simp only [up2_eq]; omega)) dX2_needCursorThere_9 ?_
  refine u_getN (v := .int (nI (f 9 k))) hX C hE 3 (by first | omega | (simp [up2, *]; done) | (simp [up2, *]; omega) | (simp only [up2_eq]; omega)) (by decide) qn_X2_221 rfl rfl dX2_needCursorThere_10 ?_
  refine r_ifN_ne (a := (f 9 k)) (tgt := 27) C (by first | omega | (simp [up2, *]; done) | (simp [up2, *]; omega) | (simp only [up2_eq]; omega)) dX2_needCursorThere_13 (by decide) (fun h13_1 => ?_) (fun h13_1 => ?_)
  · first
    | exfalso; first | omega | contradiction
    | skip
      exact r_vret C hr dX2_needCursorThere_27 ⟨rfl, rfl⟩ (Nat.le_of_ble_eq_true rfl) (Nat.le_of_ble_eq_true rfl)
  · first
    | exfalso; first | omega | contradiction
    | skip
      exact r_throwW (cls := "java/lang/IllegalStateException") (text := "the cursor is not there") (names := ["java/lang/RuntimeException", "java/lang/Exception"]) hX hl C hE hnt thr_X2_147_151 (by decide +kernel) (by decide +kernel) (by decide +kernel) dX2_needCursorThere_16 dX2_needCursorThere_19 dX2_needCursorThere_20 dX2_needCursorThere_23 dX2_needCursorThere_26 (by decide) (Nat.le_of_ble_eq_true rfl) (Nat.le_of_ble_eq_true rfl) (Nat.le_of_ble_eq_true rfl) rfl rfl (Nat.le_of_ble_eq_true rfl) (Nat.le_of_ble_eq_true rfl)
set_option maxRecDepth 100000 in
set_option maxHeartbeats 4000000 in
theorem C_needCursorThere_noC {l : Launch} {D : va_G} {cy : Nat → ClassId} {X : (Nat → Prop) → State → Heap → Prop} {a f : Nat → Nat → Nat} {r : Nat → Nat → Int32} {kn : Int32} {Y : va_W} {x : Int32} (hX : EnvX X) (hl : l.stackTraces = false) (hno : ¬ (0 ≤ x ∧ x < nI 3)) : Ce l D cy X yX2_needCursorThere cX2_needCursorThere 2 none (rmk 7 1 6 130) [.ref (a 0 0), .int x] (WC cy a f r kn ++ Y) "java/lang/IndexOutOfBoundsException" := by
  refine Cm.of [some (.ref (a 0 0)), some (.int x)] pn_X2 rfl (Nat.le_of_ble_eq_true rfl) ?_
  intro p e s m args below meth c A C hE hr hnt hn
  refine r_iload_n C dX2_needCursorThere_0 rfl ?_
  refine c_S (st := []) hX.stb C hE (C_needCursor_no (f := f) (r := r) (kn := kn) (x := (x)) hX hl hno) pk_X2_needCursor qm_X2_210 rfl rfl (Nat.le_of_ble_eq_true rfl) dX2_needCursorThere_1 ⟨Nat.le_of_ble_eq_true rfl, Nat.le_of_ble_eq_true rfl⟩ ⟨Nat.le_of_ble_eq_true rfl, Nat.le_of_ble_eq_true rfl⟩ (fun _ _ h9 => h9.elim) (fun E9 h9 => ?_)
  subst h9
  exact r_out C hnt rfl rfl (Nat.le_of_ble_eq_true rfl) (Nat.le_of_ble_eq_true rfl)
set_option maxRecDepth 100000 in
set_option maxHeartbeats 4000000 in
theorem C_needCursorThere_no {l : Launch} {D : va_G} {cy : Nat → ClassId} {X : (Nat → Prop) → State → Heap → Prop} {a f : Nat → Nat → Nat} {r : Nat → Nat → Int32} {kn : Int32} {Y : va_W} {k : Nat} (hX : EnvX X) (hl : l.stackTraces = false) (hk : k < 3) (h9 : f 9 k = 0) : Ce l D cy X yX2_needCursorThere cX2_needCursorThere 2 none (rmk 7 1 6 130) [.ref (a 0 0), .int (nI k)] (WC cy a f r kn ++ Y) "java/lang/IllegalStateException" := by
  refine Cm.of [some (.ref (a 0 0)), some (.int (nI k))] pn_X2 rfl (Nat.le_of_ble_eq_true rfl) ?_
  intro p e s m args below meth c A C hE hr hnt hn
  refine r_iload_n C dX2_needCursorThere_0 rfl ?_
  refine d_Sv (st := []) hX.stb C hE (C_needCursor_ok (f := f) (r := r) (kn := kn) (k := k) hX (by first | omega | (simp [up2, *]; done) | (simp [up2, *]; omega) | (simp only [up2_eq]; omega))) pk_X2_needCursor qm_X2_210 rfl rfl (Nat.le_of_ble_eq_true rfl) dX2_needCursorThere_1 ⟨Nat.le_of_ble_eq_true rfl, Nat.le_of_ble_eq_true rfl⟩ ⟨Nat.le_of_ble_eq_true rfl, Nat.le_of_ble_eq_true rfl⟩ ?_
  refine r_aload_n C dX2_needCursorThere_4 rfl ?_
  refine s_get C 1 (by decide) qf_X2_24 rfl rfl dX2_needCursorThere_5 ?_
  refine r_iload_n C dX2_needCursorThere_8 rfl ?_
  refine s_curs C (by first | omega | (simp [up2, *]; done) | (simp [up2, *]; omega) | (simp only [up2_eq]; omega)) dX2_needCursorThere_9 ?_
  refine u_getN (v := .int (nI (f 9 k))) hX C hE 3 (by first | omega | (simp [up2, *]; done) | (simp [up2, *]; omega) | (simp only [up2_eq]; omega)) (by decide) qn_X2_221 rfl rfl dX2_needCursorThere_10 ?_
  refine r_ifN_ne (a := (f 9 k)) (tgt := 27) C (by first | omega | (simp [up2, *]; done) | (simp [up2, *]; omega) | (simp only [up2_eq]; omega)) dX2_needCursorThere_13 (by decide) (fun h13_1 => ?_) (fun h13_1 => ?_)
  · first
    | exfalso; first | omega | contradiction
    | skip
      exact r_vret C hr dX2_needCursorThere_27 ⟨rfl, rfl⟩ (Nat.le_of_ble_eq_true rfl) (Nat.le_of_ble_eq_true rfl)
  · first
    | exfalso; first | omega | contradiction
    | skip
      exact r_throwW (cls := "java/lang/IllegalStateException") (text := "the cursor is not there") (names := ["java/lang/RuntimeException", "java/lang/Exception"]) hX hl C hE hnt thr_X2_147_151 (by decide +kernel) (by decide +kernel) (by decide +kernel) dX2_needCursorThere_16 dX2_needCursorThere_19 dX2_needCursorThere_20 dX2_needCursorThere_23 dX2_needCursorThere_26 (by decide) (Nat.le_of_ble_eq_true rfl) (Nat.le_of_ble_eq_true rfl) (Nat.le_of_ble_eq_true rfl) rfl rfl (Nat.le_of_ble_eq_true rfl) (Nat.le_of_ble_eq_true rfl)
theorem dX2_isHolder_0 : decode cX2_isHolder 0 = .ok (.iload_n 2, 1) := dqo_28 (kb_of ke_X2_isHolder 0 rfl)
theorem dX2_isHolder_1 : decode cX2_isHolder 1 = .ok (.istore_n 3, 1) := dqo_62 (kb_of ke_X2_isHolder 1 rfl)
theorem dX2_isHolder_2 : decode cX2_isHolder 2 = .ok (.iconst 0, 1) := dqo_3 (kb_of ke_X2_isHolder 2 rfl)
theorem dX2_isHolder_3 : decode cX2_isHolder 3 = .ok (.istore 4, 2) := dqo_54 4 (kb_of ke_X2_isHolder 3 rfl) (kb_of ke_X2_isHolder 4 rfl)
theorem dX2_isHolder_5 : decode cX2_isHolder 5 = .ok (.iload 4, 2) := dqo_21 4 (kb_of ke_X2_isHolder 5 rfl) (kb_of ke_X2_isHolder 6 rfl)
theorem dX2_isHolder_7 : decode cX2_isHolder 7 = .ok (.bipush 8, 2) := dqo_16 8 (by decide) (kb_of ke_X2_isHolder 7 rfl) (kb_of ke_X2_isHolder 8 rfl)
theorem dX2_isHolder_9 : decode cX2_isHolder 9 = .ok (.if_icmp .ge 31, 3) := dqo_162 0 31 (by decide) (kb_of ke_X2_isHolder 9 rfl) (kb_of ke_X2_isHolder 10 rfl) (kb_of ke_X2_isHolder 11 rfl)
theorem dX2_isHolder_12 : decode cX2_isHolder 12 = .ok (.iload_n 3, 1) := dqo_29 (kb_of ke_X2_isHolder 12 rfl)
theorem dX2_isHolder_13 : decode cX2_isHolder 13 = .ok (.iconst (-1), 1) := dqo_2 (kb_of ke_X2_isHolder 13 rfl)
theorem dX2_isHolder_14 : decode cX2_isHolder 14 = .ok (.if_icmp .eq 26, 3) := dqo_159 0 26 (by decide) (kb_of ke_X2_isHolder 14 rfl) (kb_of ke_X2_isHolder 15 rfl) (kb_of ke_X2_isHolder 16 rfl)
theorem dX2_isHolder_17 : decode cX2_isHolder 17 = .ok (.iload_n 3, 1) := dqo_29 (kb_of ke_X2_isHolder 17 rfl)
theorem dX2_isHolder_18 : decode cX2_isHolder 18 = .ok (.iload_n 1, 1) := dqo_27 (kb_of ke_X2_isHolder 18 rfl)
theorem dX2_isHolder_19 : decode cX2_isHolder 19 = .ok (.if_icmp .ne 5, 3) := dqo_160 0 5 (by decide) (kb_of ke_X2_isHolder 19 rfl) (kb_of ke_X2_isHolder 20 rfl) (kb_of ke_X2_isHolder 21 rfl)
theorem dX2_isHolder_22 : decode cX2_isHolder 22 = .ok (.iconst 1, 1) := dqo_4 (kb_of ke_X2_isHolder 22 rfl)
theorem dX2_isHolder_23 : decode cX2_isHolder 23 = .ok (.ireturn, 1) := dqo_172 (kb_of ke_X2_isHolder 23 rfl)
theorem dX2_isHolder_24 : decode cX2_isHolder 24 = .ok (.aload_n 0, 1) := dqo_42 (kb_of ke_X2_isHolder 24 rfl)
theorem dX2_isHolder_25 : decode cX2_isHolder 25 = .ok (.getfield 11, 3) := dqo_180 0 11 (kb_of ke_X2_isHolder 25 rfl) (kb_of ke_X2_isHolder 26 rfl) (kb_of ke_X2_isHolder 27 rfl)
theorem dX2_isHolder_28 : decode cX2_isHolder 28 = .ok (.iload_n 3, 1) := dqo_29 (kb_of ke_X2_isHolder 28 rfl)
theorem dX2_isHolder_29 : decode cX2_isHolder 29 = .ok (.aaload, 1) := dqo_50 (kb_of ke_X2_isHolder 29 rfl)
theorem dX2_isHolder_30 : decode cX2_isHolder 30 = .ok (.getfield 204, 3) := dqo_180 0 204 (kb_of ke_X2_isHolder 30 rfl) (kb_of ke_X2_isHolder 31 rfl) (kb_of ke_X2_isHolder 32 rfl)
theorem dX2_isHolder_33 : decode cX2_isHolder 33 = .ok (.istore_n 3, 1) := dqo_62 (kb_of ke_X2_isHolder 33 rfl)
theorem dX2_isHolder_34 : decode cX2_isHolder 34 = .ok (.iinc 4 1, 3) := dqo_132 4 1 (by decide) (kb_of ke_X2_isHolder 34 rfl) (kb_of ke_X2_isHolder 35 rfl) (kb_of ke_X2_isHolder 36 rfl)
theorem dX2_isHolder_37 : decode cX2_isHolder 37 = .ok (.goto (-32), 3) := dqo_167 255 224 (by decide) (kb_of ke_X2_isHolder 37 rfl) (kb_of ke_X2_isHolder 38 rfl) (kb_of ke_X2_isHolder 39 rfl)
theorem dX2_isHolder_40 : decode cX2_isHolder 40 = .ok (.iconst 0, 1) := dqo_3 (kb_of ke_X2_isHolder 40 rfl)
theorem dX2_isHolder_41 : decode cX2_isHolder 41 = .ok (.ireturn, 1) := dqo_172 (kb_of ke_X2_isHolder 41 rfl)
set_option maxRecDepth 100000 in
set_option maxHeartbeats 4000000 in
theorem C_isHolder {l : Launch} {D : va_G} {cy : Nat → ClassId} {X : (Nat → Prop) → State → Heap → Prop} {a f : Nat → Nat → Nat} {r : Nat → Nat → Int32} {kn : Int32} {Y : va_W} {h : Nat} {w : Nat} (hX : EnvX X) (hh : h < 8) (hw : w < 8) (hG : ∀ i, i < 8 → f 2 i < 8 ∨ f 2 i = 4294967295) : Cd l D cy X yX2_isHolder cX2_isHolder 5 (some .boolean) (rmz 0 0) [.ref (a 0 0), .int (nI h), .int (nI w)] (WC cy a f r kn ++ Y) (some (.int (nI (hol f h w)))) (WC cy a f r kn ++ Y) := by
  refine Cm.of [some (.ref (a 0 0)), some (.int (nI h)), some (.int (nI w)), none, none] pn_X2 rfl (Nat.le_of_ble_eq_true rfl) ?_
  intro p e s m args below meth c A C hE hr hnt hn
  refine r_iload_n C dX2_isHolder_0 rfl ?_
  refine r_istore_n C dX2_isHolder_1 (by decide) rfl ?_
  refine r_iconst (v := (nI 0)) C dX2_isHolder_2 (by decide) ?_
  refine r_istore C dX2_isHolder_3 (by decide) rfl ?_
  have L5 : ∀ (d : Nat) (t : Nat) (x : Nat), (ht : t + d = 8) → (hx : x < 8 ∨ x = 4294967295) → (hF : hlC (f 2) h d x = hol f h w) → vC p l e (rmz 0 0) s m args below meth c D A (vx_MQ below (vG (fun v1 w1 => v1 = (some (.int (nI (hol f h w)))) ∧ w1 = WC cy a f r kn ++ Y) D vwCl A) (vGX (fun _ => False) D vwCl (WC cy a f r kn ++ Y) A) args s (rmz 0 0).cells (rmz 0 0).slots A) 5 0 0 (WC cy a f r kn ++ Y) [some (.ref (a 0 0)), some (.int (nI h)), some (.int (nI w)), some (.int (nI x)), some (.int (nI t))] 5 [] := by
    intro d
    induction d with
    | zero =>
      intro t x ht hx hF
      refine r_iload C dX2_isHolder_5 rfl ?_
      refine r_bipush (v := (nI 8)) C dX2_isHolder_7 (by decide) ?_
      refine r_icN_ge (a := t) (b := 8) (tgt := 40) C (by first | omega | (simp [up2, *]; done) | (simp [up2, *]; omega) | (simp only [up2_eq]; omega)) (by first | omega | (simp [up2, *]; done) | (simp [up2, *]; omega) | (simp only [up2_eq]; omega)) dX2_isHolder_9 (by decide) (fun h9_1 => ?_) (fun h9_1 => ?_)
      · first
        | exfalso; first | omega | contradiction
        | skip
          refine r_iconst (v := (nI 0)) C dX2_isHolder_40 (by decide) ?_
          exact r_zret C hr (by first | omega | (simp [up2, *]; done) | (simp [up2, *]; omega) | (simp only [up2_eq]; omega)) dX2_isHolder_41 ⟨by rw [← hF]; unfold hlC; first | rfl | rw [if_pos (by assumption)] | rw [if_neg (by assumption), if_pos (by assumption)], rfl⟩ (Nat.le_of_ble_eq_true rfl) (Nat.le_of_ble_eq_true rfl)
      · first
        | exfalso; first | omega | contradiction
        | skip
          refine r_iload_n C dX2_isHolder_12 rfl ?_
          refine r_iconst (v := (nI 4294967295)) C dX2_isHolder_13 (by decide) ?_
          refine r_icN_eq (a := x) (b := 4294967295) (tgt := 40) C (by first | omega | (simp [up2, *]; done) | (simp [up2, *]; omega) | (simp only [up2_eq]; omega)) (by first | omega | (simp [up2, *]; done) | (simp [up2, *]; omega) | (simp only [up2_eq]; omega)) dX2_isHolder_14 (by decide) (fun h14_2 => ?_) (fun h14_2 => ?_)
          · first
            | exfalso; first | omega | contradiction
            | skip
              refine r_iconst (v := (nI 0)) C dX2_isHolder_40 (by decide) ?_
              exact r_zret C hr (by first | omega | (simp [up2, *]; done) | (simp [up2, *]; omega) | (simp only [up2_eq]; omega)) dX2_isHolder_41 ⟨by rw [← hF]; unfold hlC; first | rfl | rw [if_pos (by assumption)] | rw [if_neg (by assumption), if_pos (by assumption)], rfl⟩ (Nat.le_of_ble_eq_true rfl) (Nat.le_of_ble_eq_true rfl)
          · first
            | exfalso; first | omega | contradiction
            | skip
              refine r_iload_n C dX2_isHolder_17 rfl ?_
              refine r_iload_n C dX2_isHolder_18 rfl ?_
              refine r_icN_ne (a := x) (b := h) (tgt := 24) C (by first | omega | (simp [up2, *]; done) | (simp [up2, *]; omega) | (simp only [up2_eq]; omega)) (by first | omega | (simp [up2, *]; done) | (simp [up2, *]; omega) | (simp only [up2_eq]; omega)) dX2_isHolder_19 (by decide) (fun h19_3 => ?_) (fun h19_3 => ?_)
              · first
                | exfalso; first | omega | contradiction
                | skip
                  refine r_aload_n C dX2_isHolder_24 rfl ?_
                  refine s_get C 0 (by decide) qf_X2_11 rfl rfl dX2_isHolder_25 ?_
                  refine r_iload_n C dX2_isHolder_28 rfl ?_
                  refine s_parts C (by first | omega | (simp [up2, *]; done) | (simp [up2, *]; omega) | (simp only [up2_eq]; omega)) dX2_isHolder_29 ?_
                  refine p_getN (v := .int (nI (f 2 x))) hX C hE 2 (by first | omega | (simp [up2, *]; done) | (simp [up2, *]; omega) | (simp only [up2_eq]; omega)) (by decide) qn_X2_204 rfl rfl dX2_isHolder_30 ?_
                  refine r_istore_n C dX2_isHolder_33 (by decide) rfl ?_
                  refine r_iincN C dX2_isHolder_34 rfl (by decide) rfl ?_
                  refine r_goto (tgt := 5) C dX2_isHolder_37 (by decide) ?_
                  exact (Nat.not_lt_zero _ (by omega)).elim
              · first
                | exfalso; first | omega | contradiction
                | skip
                  refine r_iconst (v := (nI 1)) C dX2_isHolder_22 (by decide) ?_
                  exact r_zret C hr (by first | omega | (simp [up2, *]; done) | (simp [up2, *]; omega) | (simp only [up2_eq]; omega)) dX2_isHolder_23 ⟨by rw [← hF]; unfold hlC; first | rfl | rw [if_pos (by assumption)] | rw [if_neg (by assumption), if_pos (by assumption)], rfl⟩ (Nat.le_of_ble_eq_true rfl) (Nat.le_of_ble_eq_true rfl)
    | succ d ih_L5 =>
      intro t x ht hx hF
      refine r_iload C dX2_isHolder_5 rfl ?_
      refine r_bipush (v := (nI 8)) C dX2_isHolder_7 (by decide) ?_
      refine r_icN_ge (a := t) (b := 8) (tgt := 40) C (by first | omega | (simp [up2, *]; done) | (simp [up2, *]; omega) | (simp only [up2_eq]; omega)) (by first | omega | (simp [up2, *]; done) | (simp [up2, *]; omega) | (simp only [up2_eq]; omega)) dX2_isHolder_9 (by decide) (fun h9_4 => ?_) (fun h9_4 => ?_)
      · first
        | exfalso; first | omega | contradiction
        | skip
          refine r_iconst (v := (nI 0)) C dX2_isHolder_40 (by decide) ?_
          exact r_zret C hr (by first | omega | (simp [up2, *]; done) | (simp [up2, *]; omega) | (simp only [up2_eq]; omega)) dX2_isHolder_41 ⟨by rw [← hF]; unfold hlC; first | rfl | rw [if_pos (by assumption)] | rw [if_neg (by assumption), if_pos (by assumption)], rfl⟩ (Nat.le_of_ble_eq_true rfl) (Nat.le_of_ble_eq_true rfl)
      · first
        | exfalso; first | omega | contradiction
        | skip
          refine r_iload_n C dX2_isHolder_12 rfl ?_
          refine r_iconst (v := (nI 4294967295)) C dX2_isHolder_13 (by decide) ?_
          refine r_icN_eq (a := x) (b := 4294967295) (tgt := 40) C (by first | omega | (simp [up2, *]; done) | (simp [up2, *]; omega) | (simp only [up2_eq]; omega)) (by first | omega | (simp [up2, *]; done) | (simp [up2, *]; omega) | (simp only [up2_eq]; omega)) dX2_isHolder_14 (by decide) (fun h14_5 => ?_) (fun h14_5 => ?_)
          · first
            | exfalso; first | omega | contradiction
            | skip
              refine r_iconst (v := (nI 0)) C dX2_isHolder_40 (by decide) ?_
              exact r_zret C hr (by first | omega | (simp [up2, *]; done) | (simp [up2, *]; omega) | (simp only [up2_eq]; omega)) dX2_isHolder_41 ⟨by rw [← hF]; unfold hlC; first | rfl | rw [if_pos (by assumption)] | rw [if_neg (by assumption), if_pos (by assumption)], rfl⟩ (Nat.le_of_ble_eq_true rfl) (Nat.le_of_ble_eq_true rfl)
          · first
            | exfalso; first | omega | contradiction
            | skip
              refine r_iload_n C dX2_isHolder_17 rfl ?_
              refine r_iload_n C dX2_isHolder_18 rfl ?_
              refine r_icN_ne (a := x) (b := h) (tgt := 24) C (by first | omega | (simp [up2, *]; done) | (simp [up2, *]; omega) | (simp only [up2_eq]; omega)) (by first | omega | (simp [up2, *]; done) | (simp [up2, *]; omega) | (simp only [up2_eq]; omega)) dX2_isHolder_19 (by decide) (fun h19_6 => ?_) (fun h19_6 => ?_)
              · first
                | exfalso; first | omega | contradiction
                | skip
                  refine r_aload_n C dX2_isHolder_24 rfl ?_
                  refine s_get C 0 (by decide) qf_X2_11 rfl rfl dX2_isHolder_25 ?_
                  refine r_iload_n C dX2_isHolder_28 rfl ?_
                  refine s_parts C (by first | omega | (simp [up2, *]; done) | (simp [up2, *]; omega) | (simp only [up2_eq]; omega)) dX2_isHolder_29 ?_
                  refine p_getN (v := .int (nI (f 2 x))) hX C hE 2 (by first | omega | (simp [up2, *]; done) | (simp [up2, *]; omega) | (simp only [up2_eq]; omega)) (by decide) qn_X2_204 rfl rfl dX2_isHolder_30 ?_
                  refine r_istore_n C dX2_isHolder_33 (by decide) rfl ?_
                  refine r_iincN C dX2_isHolder_34 rfl (by decide) rfl ?_
                  refine r_goto (tgt := 5) C dX2_isHolder_37 (by decide) ?_
                  exact ih_L5 (t + 1) (f 2 x) (by omega) (hG x (by omega)) (by rw [← hF]; simp only [hlC]; rw [if_neg (by assumption), if_neg (by assumption)])
              · first
                | exfalso; first | omega | contradiction
                | skip
                  refine r_iconst (v := (nI 1)) C dX2_isHolder_22 (by decide) ?_
                  exact r_zret C hr (by first | omega | (simp [up2, *]; done) | (simp [up2, *]; omega) | (simp only [up2_eq]; omega)) dX2_isHolder_23 ⟨by rw [← hF]; unfold hlC; first | rfl | rw [if_pos (by assumption)] | rw [if_neg (by assumption), if_pos (by assumption)], rfl⟩ (Nat.le_of_ble_eq_true rfl) (Nat.le_of_ble_eq_true rfl)
  exact L5 8 0 w (by omega) (by omega) rfl
theorem pk_X2_isHolder : PkV RX2 yX2_isHolder cX2_isHolder 5 (some .boolean) 2 := ⟨⟨qi_X2_isHolder, qs_X2_isHolder, qz_X2, qc_X2_isHolder⟩, rfl, mh_X2.1, mh_X2.2, pd_5⟩
theorem dX2_settle_0 : decode cX2_settle 0 = .ok (.aload_n 0, 1) := dqo_42 (kb_X2_settle_0 0 rfl)
theorem dX2_settle_1 : decode cX2_settle 1 = .ok (.getfield 11, 3) := dqo_180 0 11 (kb_X2_settle_0 1 rfl) (kb_X2_settle_0 2 rfl) (kb_X2_settle_0 3 rfl)
theorem dX2_settle_4 : decode cX2_settle 4 = .ok (.iload_n 1, 1) := dqo_27 (kb_X2_settle_0 4 rfl)
theorem dX2_settle_5 : decode cX2_settle 5 = .ok (.aaload, 1) := dqo_50 (kb_X2_settle_0 5 rfl)
theorem dX2_settle_6 : decode cX2_settle 6 = .ok (.getfield 207, 3) := dqo_180 0 207 (kb_X2_settle_0 6 rfl) (kb_X2_settle_0 7 rfl) (kb_X2_settle_0 8 rfl)
theorem dX2_settle_9 : decode cX2_settle 9 = .ok (.istore_n 3, 1) := dqo_62 (kb_X2_settle_0 9 rfl)
theorem dX2_settle_10 : decode cX2_settle 10 = .ok (.iconst 0, 1) := dqo_3 (kb_X2_settle_0 10 rfl)
theorem dX2_settle_11 : decode cX2_settle 11 = .ok (.istore 4, 2) := dqo_54 4 (kb_X2_settle_0 11 rfl) (kb_X2_settle_0 12 rfl)
theorem dX2_settle_13 : decode cX2_settle 13 = .ok (.iload 4, 2) := dqo_21 4 (kb_X2_settle_0 13 rfl) (kb_X2_settle_0 14 rfl)
theorem dX2_settle_15 : decode cX2_settle 15 = .ok (.iconst 3, 1) := dqo_6 (kb_X2_settle_0 15 rfl)
theorem dX2_settle_16 : decode cX2_settle 16 = .ok (.if_icmp .ge 48, 3) := dqo_162 0 48 (by decide) (kb_X2_settle_0 16 rfl) (kb_X2_settle_0 17 rfl) (kb_X2_settle_0 18 rfl)
theorem dX2_settle_19 : decode cX2_settle 19 = .ok (.iload 4, 2) := dqo_21 4 (kb_X2_settle_0 19 rfl) (kb_X2_settle_0 20 rfl)
theorem dX2_settle_21 : decode cX2_settle 21 = .ok (.iload_n 2, 1) := dqo_28 (kb_X2_settle_0 21 rfl)
theorem dX2_settle_22 : decode cX2_settle 22 = .ok (.if_icmp .eq 36, 3) := dqo_159 0 36 (by decide) (kb_X2_settle_0 22 rfl) (kb_X2_settle_0 23 rfl) (kb_X2_settle_0 24 rfl)
theorem dX2_settle_25 : decode cX2_settle 25 = .ok (.aload_n 0, 1) := dqo_42 (kb_X2_settle_0 25 rfl)
theorem dX2_settle_26 : decode cX2_settle 26 = .ok (.getfield 11, 3) := dqo_180 0 11 (kb_X2_settle_0 26 rfl) (kb_X2_settle_0 27 rfl) (kb_X2_settle_0 28 rfl)
theorem dX2_settle_29 : decode cX2_settle 29 = .ok (.aload_n 0, 1) := dqo_42 (kb_X2_settle_0 29 rfl)
theorem dX2_settle_30 : decode cX2_settle 30 = .ok (.getfield 24, 3) := dqo_180 0 24 (kb_X2_settle_0 30 rfl) (kb_X2_settle_0 31 rfl) (kb_X2_settle_0 32 rfl)
theorem dX2_settle_33 : decode cX2_settle 33 = .ok (.iload 4, 2) := dqo_21 4 (kb_X2_settle_0 33 rfl) (kb_X2_settle_0 34 rfl)
theorem dX2_settle_35 : decode cX2_settle 35 = .ok (.aaload, 1) := dqo_50 (kb_X2_settle_0 35 rfl)
theorem dX2_settle_36 : decode cX2_settle 36 = .ok (.getfield 225, 3) := dqo_180 0 225 (kb_X2_settle_0 36 rfl) (kb_X2_settle_0 37 rfl) (kb_X2_settle_0 38 rfl)
theorem dX2_settle_39 : decode cX2_settle 39 = .ok (.aaload, 1) := dqo_50 (kb_X2_settle_0 39 rfl)
theorem dX2_settle_40 : decode cX2_settle 40 = .ok (.getfield 207, 3) := dqo_180 0 207 (kb_X2_settle_0 40 rfl) (kb_X2_settle_0 41 rfl) (kb_X2_settle_0 42 rfl)
theorem dX2_settle_43 : decode cX2_settle 43 = .ok (.iload_n 3, 1) := dqo_29 (kb_X2_settle_0 43 rfl)
theorem dX2_settle_44 : decode cX2_settle 44 = .ok (.if_icmp .ne 14, 3) := dqo_160 0 14 (by decide) (kb_X2_settle_0 44 rfl) (kb_X2_settle_0 45 rfl) (kb_X2_settle_0 46 rfl)
theorem dX2_settle_47 : decode cX2_settle 47 = .ok (.aload_n 0, 1) := dqo_42 (kb_X2_settle_0 47 rfl)
theorem dX2_settle_48 : decode cX2_settle 48 = .ok (.getfield 24, 3) := dqo_180 0 24 (kb_X2_settle_0 48 rfl) (kb_X2_settle_0 49 rfl) (kb_X2_settle_0 50 rfl)
theorem dX2_settle_51 : decode cX2_settle 51 = .ok (.iload 4, 2) := dqo_21 4 (kb_X2_settle_0 51 rfl) (kb_X2_settle_0 52 rfl)
theorem dX2_settle_53 : decode cX2_settle 53 = .ok (.aaload, 1) := dqo_50 (kb_X2_settle_0 53 rfl)
theorem dX2_settle_54 : decode cX2_settle 54 = .ok (.iconst 0, 1) := dqo_3 (kb_X2_settle_0 54 rfl)
theorem dX2_settle_55 : decode cX2_settle 55 = .ok (.putfield 221, 3) := dqo_181 0 221 (kb_X2_settle_0 55 rfl) (kb_X2_settle_0 56 rfl) (kb_X2_settle_0 57 rfl)
theorem dX2_settle_58 : decode cX2_settle 58 = .ok (.iinc 4 1, 3) := dqo_132 4 1 (by decide) (kb_X2_settle_0 58 rfl) (kb_X2_settle_0 59 rfl) (kb_X2_settle_0 60 rfl)
theorem dX2_settle_61 : decode cX2_settle 61 = .ok (.goto (-48), 3) := dqo_167 255 208 (by decide) (kb_X2_settle_0 61 rfl) (kb_X2_settle_0 62 rfl) (kb_X2_settle_0 63 rfl)
theorem dX2_settle_64 : decode cX2_settle 64 = .ok (.iconst 4, 1) := dqo_7 (kb_X2_settle_1 0 rfl)
theorem dX2_settle_65 : decode cX2_settle 65 = .ok (.istore 4, 2) := dqo_54 4 (kb_X2_settle_1 1 rfl) (kb_X2_settle_1 2 rfl)
theorem dX2_settle_67 : decode cX2_settle 67 = .ok (.iload 4, 2) := dqo_21 4 (kb_X2_settle_1 3 rfl) (kb_X2_settle_1 4 rfl)
theorem dX2_settle_69 : decode cX2_settle 69 = .ok (.bipush 8, 2) := dqo_16 8 (by decide) (kb_X2_settle_1 5 rfl) (kb_X2_settle_1 6 rfl)
theorem dX2_settle_71 : decode cX2_settle 71 = .ok (.if_icmp .ge 44, 3) := dqo_162 0 44 (by decide) (kb_X2_settle_1 7 rfl) (kb_X2_settle_1 8 rfl) (kb_X2_settle_1 9 rfl)
theorem dX2_settle_74 : decode cX2_settle 74 = .ok (.aload_n 0, 1) := dqo_42 (kb_X2_settle_1 10 rfl)
theorem dX2_settle_75 : decode cX2_settle 75 = .ok (.getfield 11, 3) := dqo_180 0 11 (kb_X2_settle_1 11 rfl) (kb_X2_settle_1 12 rfl) (kb_X2_settle_1 13 rfl)
theorem dX2_settle_78 : decode cX2_settle 78 = .ok (.iload 4, 2) := dqo_21 4 (kb_X2_settle_1 14 rfl) (kb_X2_settle_1 15 rfl)
theorem dX2_settle_80 : decode cX2_settle 80 = .ok (.aaload, 1) := dqo_50 (kb_X2_settle_1 16 rfl)
theorem dX2_settle_81 : decode cX2_settle 81 = .ok (.getfield 207, 3) := dqo_180 0 207 (kb_X2_settle_1 17 rfl) (kb_X2_settle_1 18 rfl) (kb_X2_settle_1 19 rfl)
theorem dX2_settle_84 : decode cX2_settle 84 = .ok (.iload_n 3, 1) := dqo_29 (kb_X2_settle_1 20 rfl)
theorem dX2_settle_85 : decode cX2_settle 85 = .ok (.if_icmp .ne 24, 3) := dqo_160 0 24 (by decide) (kb_X2_settle_1 21 rfl) (kb_X2_settle_1 22 rfl) (kb_X2_settle_1 23 rfl)
theorem dX2_settle_88 : decode cX2_settle 88 = .ok (.aload_n 0, 1) := dqo_42 (kb_X2_settle_1 24 rfl)
theorem dX2_settle_89 : decode cX2_settle 89 = .ok (.iload 4, 2) := dqo_21 4 (kb_X2_settle_1 25 rfl) (kb_X2_settle_1 26 rfl)
theorem dX2_settle_91 : decode cX2_settle 91 = .ok (.iload_n 1, 1) := dqo_27 (kb_X2_settle_1 27 rfl)
theorem dX2_settle_92 : decode cX2_settle 92 = .ok (.invokevirtual 182, 3) := dqo_182 0 182 (kb_X2_settle_1 28 rfl) (kb_X2_settle_1 29 rfl) (kb_X2_settle_1 30 rfl)
theorem dX2_settle_95 : decode cX2_settle 95 = .ok (.ifCond .ne 14, 3) := dqo_154 0 14 (by decide) (kb_X2_settle_1 31 rfl) (kb_X2_settle_1 32 rfl) (kb_X2_settle_1 33 rfl)
theorem dX2_settle_98 : decode cX2_settle 98 = .ok (.aload_n 0, 1) := dqo_42 (kb_X2_settle_1 34 rfl)
theorem dX2_settle_99 : decode cX2_settle 99 = .ok (.getfield 11, 3) := dqo_180 0 11 (kb_X2_settle_1 35 rfl) (kb_X2_settle_1 36 rfl) (kb_X2_settle_1 37 rfl)
theorem dX2_settle_102 : decode cX2_settle 102 = .ok (.iload 4, 2) := dqo_21 4 (kb_X2_settle_1 38 rfl) (kb_X2_settle_1 39 rfl)
theorem dX2_settle_104 : decode cX2_settle 104 = .ok (.aaload, 1) := dqo_50 (kb_X2_settle_1 40 rfl)
theorem dX2_settle_105 : decode cX2_settle 105 = .ok (.iconst 0, 1) := dqo_3 (kb_X2_settle_1 41 rfl)
theorem dX2_settle_106 : decode cX2_settle 106 = .ok (.putfield 194, 3) := dqo_181 0 194 (kb_X2_settle_1 42 rfl) (kb_X2_settle_1 43 rfl) (kb_X2_settle_1 44 rfl)
theorem dX2_settle_109 : decode cX2_settle 109 = .ok (.iinc 4 1, 3) := dqo_132 4 1 (by decide) (kb_X2_settle_1 45 rfl) (kb_X2_settle_1 46 rfl) (kb_X2_settle_1 47 rfl)
theorem dX2_settle_112 : decode cX2_settle 112 = .ok (.goto (-45), 3) := dqo_167 255 211 (by decide) (kb_X2_settle_1 48 rfl) (kb_X2_settle_1 49 rfl) (kb_X2_settle_1 50 rfl)
theorem dX2_settle_115 : decode cX2_settle 115 = .ok (.return_, 1) := dqo_177 (kb_X2_settle_1 51 rfl)
set_option maxRecDepth 100000 in
set_option maxHeartbeats 4000000 in
theorem C_settle {l : Launch} {D : va_G} {cy : Nat → ClassId} {X : (Nat → Prop) → State → Heap → Prop} {a f : Nat → Nat → Nat} {r : Nat → Nat → Int32} {kn : Int32} {Y : va_W} {w : Nat} {d0 : Nat} (hX : EnvX X) (hw : w < 8) (hd : d0 < 4294967296) (h1 : ∀ i, i < 8 → f 1 i < 4) (hU : ∀ k, k < 3 → f 6 k < 8) (hG : ∀ i, i < 8 → f 2 i < 8 ∨ f 2 i = 4294967295) : Cd l D cy X yX2_settle cX2_settle 5 none (rmz 1 30) [.ref (a 0 0), .int (nI w), .int (nI d0)] (WC cy a f r kn ++ Y) none (WC cy a (settleF f w d0) r kn ++ Y) := by
  refine Cm.of [some (.ref (a 0 0)), some (.int (nI w)), some (.int (nI d0)), none, none] pn_X2 rfl (Nat.le_of_ble_eq_true rfl) ?_
  intro p e s m args below meth c A C hE hr hnt hn
  refine r_aload_n C dX2_settle_0 rfl ?_
  refine s_get C 0 (by decide) qf_X2_11 rfl rfl dX2_settle_1 ?_
  refine r_iload_n C dX2_settle_4 rfl ?_
  refine s_parts C (by first | omega | (simp [up2, *]; done) | (simp [up2, *]; omega) | (simp only [up2_eq]; omega)) dX2_settle_5 ?_
  refine p_getN (v := .int (nI (f 1 w))) hX C hE 1 (by first | omega | (simp [up2, *]; done) | (simp [up2, *]; omega) | (simp only [up2_eq]; omega)) (by decide) qn_X2_207 rfl rfl dX2_settle_6 ?_
  refine r_istore_n C dX2_settle_9 (by decide) rfl ?_
  refine r_iconst (v := (nI 0)) C dX2_settle_10 (by decide) ?_
  refine r_istore C dX2_settle_11 (by decide) rfl ?_
  refine r_w (congrArg (fun z => WC cy a z r kn ++ Y) (stU_0 f w d0).symm) ?_
  have L13 : ∀ (d : Nat) (k : Nat), (hk : k + d = 3) → vC p l e (rmz 1 30) s m args below meth c D A (vx_MQ below (vG (fun v1 w1 => v1 = none ∧ w1 = WC cy a (settleF f w d0) r kn ++ Y) D vwCl A) (vGX (fun _ => False) D vwCl (WC cy a f r kn ++ Y) A) args s (rmz 1 30).cells (rmz 1 30).slots A) 5 0 0 (WC cy a (stU f w d0 k) r kn ++ Y) [some (.ref (a 0 0)), some (.int (nI w)), some (.int (nI d0)), some (.int (nI (f 1 w))), some (.int (nI k))] 13 [] := by
    intro d
    induction d with
    | zero =>
      intro k hk
      refine r_iload C dX2_settle_13 rfl ?_
      refine r_iconst (v := (nI 3)) C dX2_settle_15 (by decide) ?_
      refine r_icN_ge (a := k) (b := 3) (tgt := 64) C (by first | omega | (simp [up2, *]; done) | (simp [up2, *]; omega) | (simp only [up2_eq]; omega)) (by first | omega | (simp [up2, *]; done) | (simp [up2, *]; omega) | (simp only [up2_eq]; omega)) dX2_settle_16 (by decide) (fun h16_1 => ?_) (fun h16_1 => ?_)
      · first
        | exfalso; first | omega | contradiction
        | skip
          refine r_iconst (v := (nI 4)) C dX2_settle_64 (by decide) ?_
          refine r_istore C dX2_settle_65 (by decide) rfl ?_
          have e3 : k = 3 := by omega
          subst e3
          refine r_w (congrArg (fun z => WC cy a z r kn ++ Y) (stW_0 (stU f w d0 3) w).symm) ?_
          have L67 : ∀ (d : Nat) (k : Nat), (hk : k + d = 8) → (hk4 : 4 ≤ k) → vC p l e (rmz 1 30) s m args below meth c D A (vx_MQ below (vG (fun v1 w1 => v1 = none ∧ w1 = WC cy a (settleF f w d0) r kn ++ Y) D vwCl A) (vGX (fun _ => False) D vwCl (WC cy a f r kn ++ Y) A) args s (rmz 1 30).cells (rmz 1 30).slots A) 5 0 0 (WC cy a (stW (stU f w d0 3) w k) r kn ++ Y) [some (.ref (a 0 0)), some (.int (nI w)), some (.int (nI d0)), some (.int (nI (f 1 w))), some (.int (nI k))] 67 [] := by
            intro d
            induction d with
            | zero =>
              intro k hk hk4
              refine r_iload C dX2_settle_67 rfl ?_
              refine r_bipush (v := (nI 8)) C dX2_settle_69 (by decide) ?_
              refine r_icN_ge (a := k) (b := 8) (tgt := 115) C (by first | omega | (simp [up2, *]; done) | (simp [up2, *]; omega) | (simp only [up2_eq]; omega)) (by first | omega | (simp [up2, *]; done) | (simp [up2, *]; omega) | (simp only [up2_eq]; omega)) dX2_settle_71 (by decide) (fun h71_2 => ?_) (fun h71_2 => ?_)
              · first
                | exfalso; first | omega | contradiction
                | skip
                  have e8 : k = 8 := by omega
                  subst e8
                  exact r_vret C hr dX2_settle_115 ⟨rfl, rfl⟩ (Nat.le_of_ble_eq_true rfl) (Nat.le_of_ble_eq_true rfl)
              · first
                | exfalso; first | omega | contradiction
                | skip
                  refine r_aload_n C dX2_settle_74 rfl ?_
                  refine s_get C 0 (by decide) qf_X2_11 rfl rfl dX2_settle_75 ?_
                  refine r_iload C dX2_settle_78 rfl ?_
                  refine s_parts C (by first | omega | (simp [up2, *]; done) | (simp [up2, *]; omega) | (simp only [up2_eq]; omega)) dX2_settle_80 ?_
                  refine p_getN (v := .int (nI (f 1 k))) hX C hE 1 (by first | omega | (simp [up2, *]; done) | (simp [up2, *]; omega) | (simp only [up2_eq]; omega)) (by decide) qn_X2_207 rfl rfl dX2_settle_81 ?_
                  refine r_iload_n C dX2_settle_84 rfl ?_
                  refine r_icN_ne (a := (f 1 k)) (b := (f 1 w)) (tgt := 109) C (Nat.lt_of_lt_of_le (h1 k (by omega)) (by decide)) (Nat.lt_of_lt_of_le (h1 w (by omega)) (by decide)) dX2_settle_85 (by decide) (fun h85_3 => ?_) (fun h85_3 => ?_)
                  · first
                    | exfalso; first | omega | contradiction
                    | skip
                      refine r_iincN C dX2_settle_109 rfl (by decide) rfl ?_
                      refine r_goto (tgt := 67) C dX2_settle_112 (by decide) ?_
                      refine r_w (congrArg (fun z => WC cy a z r kn ++ Y) (stW_no (by first | exact Or.inl (by assumption) | exact Or.inr (by assumption)))) ?_
                      exact (Nat.not_lt_zero _ (by omega)).elim
                  · first
                    | exfalso; first | omega | contradiction
                    | skip
                      refine r_aload_n C dX2_settle_88 rfl ?_
                      refine r_iload C dX2_settle_89 rfl ?_
                      refine r_iload_n C dX2_settle_91 rfl ?_
                      refine d_V (st := []) hX.stb C hE (C_isHolder (f := (stW (stU f w d0 3) w k)) (r := r) (kn := kn) (h := k) (w := w) hX (by first | omega | (simp [up2, *]; done) | (simp [up2, *]; omega) | (simp only [up2_eq]; omega)) (by first | omega | (simp [up2, *]; done) | (simp [up2, *]; omega) | (simp only [up2_eq]; omega)) hG) pk_X2_isHolder qm_X2_182 0 6 rfl rfl wc_0 rfl rfl (Nat.le_of_ble_eq_true rfl) dX2_settle_92 ⟨Nat.le_of_ble_eq_true rfl, Nat.le_of_ble_eq_true rfl⟩ ⟨Nat.le_of_ble_eq_true rfl, Nat.le_of_ble_eq_true rfl⟩ ?_
                      refine r_ifN_ne (a := (hol f k w)) (tgt := 109) C (Nat.lt_of_le_of_lt (hol_le _ _ _) (by decide)) dX2_settle_95 (by decide) (fun h95_4 => ?_) (fun h95_4 => ?_)
                      · first
                        | exfalso; first | omega | contradiction
                        | skip
                          refine r_iincN C dX2_settle_109 rfl (by decide) rfl ?_
                          refine r_goto (tgt := 67) C dX2_settle_112 (by decide) ?_
                          refine r_w (congrArg (fun z => WC cy a z r kn ++ Y) (stW_no (by first | exact Or.inl (by assumption) | exact Or.inr (by assumption)))) ?_
                          exact (Nat.not_lt_zero _ (by omega)).elim
                      · first
                        | exfalso; first | omega | contradiction
                        | skip
                          refine r_aload_n C dX2_settle_98 rfl ?_
                          refine s_get C 0 (by decide) qf_X2_11 rfl rfl dX2_settle_99 ?_
                          refine r_iload C dX2_settle_102 rfl ?_
                          refine s_parts C (by first | omega | (simp [up2, *]; done) | (simp [up2, *]; omega) | (simp only [up2_eq]; omega)) dX2_settle_104 ?_
                          refine r_iconst (v := (nI 0)) C dX2_settle_105 (by decide) ?_
                          refine p_putZN hX C hE (by first | omega | (simp [up2, *]; done) | (simp [up2, *]; omega) | (simp only [up2_eq]; omega)) (by first | omega | (simp [up2, *]; done) | (simp [up2, *]; omega) | (simp only [up2_eq]; omega)) qn_X2_194 dX2_settle_106 ?_
                          refine r_iincN C dX2_settle_109 rfl (by decide) rfl ?_
                          refine r_goto (tgt := 67) C dX2_settle_112 (by decide) ?_
                          refine r_w (congrArg (fun z => WC cy a z r kn ++ Y) (stW_yes (by omega) (by assumption) (by assumption))) ?_
                          exact (Nat.not_lt_zero _ (by omega)).elim
            | succ d ih_L67 =>
              intro k hk hk4
              refine r_iload C dX2_settle_67 rfl ?_
              refine r_bipush (v := (nI 8)) C dX2_settle_69 (by decide) ?_
              refine r_icN_ge (a := k) (b := 8) (tgt := 115) C (by first | omega | (simp [up2, *]; done) | (simp [up2, *]; omega) | (simp only [up2_eq]; omega)) (by first | omega | (simp [up2, *]; done) | (simp [up2, *]; omega) | (simp only [up2_eq]; omega)) dX2_settle_71 (by decide) (fun h71_5 => ?_) (fun h71_5 => ?_)
              · first
                | exfalso; first | omega | contradiction
                | skip
                  have e8 : k = 8 := by omega
                  subst e8
                  exact r_vret C hr dX2_settle_115 ⟨rfl, rfl⟩ (Nat.le_of_ble_eq_true rfl) (Nat.le_of_ble_eq_true rfl)
              · first
                | exfalso; first | omega | contradiction
                | skip
                  refine r_aload_n C dX2_settle_74 rfl ?_
                  refine s_get C 0 (by decide) qf_X2_11 rfl rfl dX2_settle_75 ?_
                  refine r_iload C dX2_settle_78 rfl ?_
                  refine s_parts C (by first | omega | (simp [up2, *]; done) | (simp [up2, *]; omega) | (simp only [up2_eq]; omega)) dX2_settle_80 ?_
                  refine p_getN (v := .int (nI (f 1 k))) hX C hE 1 (by first | omega | (simp [up2, *]; done) | (simp [up2, *]; omega) | (simp only [up2_eq]; omega)) (by decide) qn_X2_207 rfl rfl dX2_settle_81 ?_
                  refine r_iload_n C dX2_settle_84 rfl ?_
                  refine r_icN_ne (a := (f 1 k)) (b := (f 1 w)) (tgt := 109) C (Nat.lt_of_lt_of_le (h1 k (by omega)) (by decide)) (Nat.lt_of_lt_of_le (h1 w (by omega)) (by decide)) dX2_settle_85 (by decide) (fun h85_6 => ?_) (fun h85_6 => ?_)
                  · first
                    | exfalso; first | omega | contradiction
                    | skip
                      refine r_iincN C dX2_settle_109 rfl (by decide) rfl ?_
                      refine r_goto (tgt := 67) C dX2_settle_112 (by decide) ?_
                      refine r_w (congrArg (fun z => WC cy a z r kn ++ Y) (stW_no (by first | exact Or.inl (by assumption) | exact Or.inr (by assumption)))) ?_
                      exact ih_L67 (k + 1) (by omega) (by omega)
                  · first
                    | exfalso; first | omega | contradiction
                    | skip
                      refine r_aload_n C dX2_settle_88 rfl ?_
                      refine r_iload C dX2_settle_89 rfl ?_
                      refine r_iload_n C dX2_settle_91 rfl ?_
                      refine d_V (st := []) hX.stb C hE (C_isHolder (f := (stW (stU f w d0 3) w k)) (r := r) (kn := kn) (h := k) (w := w) hX (by first | omega | (simp [up2, *]; done) | (simp [up2, *]; omega) | (simp only [up2_eq]; omega)) (by first | omega | (simp [up2, *]; done) | (simp [up2, *]; omega) | (simp only [up2_eq]; omega)) hG) pk_X2_isHolder qm_X2_182 0 6 rfl rfl wc_0 rfl rfl (Nat.le_of_ble_eq_true rfl) dX2_settle_92 ⟨Nat.le_of_ble_eq_true rfl, Nat.le_of_ble_eq_true rfl⟩ ⟨Nat.le_of_ble_eq_true rfl, Nat.le_of_ble_eq_true rfl⟩ ?_
                      refine r_ifN_ne (a := (hol f k w)) (tgt := 109) C (Nat.lt_of_le_of_lt (hol_le _ _ _) (by decide)) dX2_settle_95 (by decide) (fun h95_7 => ?_) (fun h95_7 => ?_)
                      · first
                        | exfalso; first | omega | contradiction
                        | skip
                          refine r_iincN C dX2_settle_109 rfl (by decide) rfl ?_
                          refine r_goto (tgt := 67) C dX2_settle_112 (by decide) ?_
                          refine r_w (congrArg (fun z => WC cy a z r kn ++ Y) (stW_no (by first | exact Or.inl (by assumption) | exact Or.inr (by assumption)))) ?_
                          exact ih_L67 (k + 1) (by omega) (by omega)
                      · first
                        | exfalso; first | omega | contradiction
                        | skip
                          refine r_aload_n C dX2_settle_98 rfl ?_
                          refine s_get C 0 (by decide) qf_X2_11 rfl rfl dX2_settle_99 ?_
                          refine r_iload C dX2_settle_102 rfl ?_
                          refine s_parts C (by first | omega | (simp [up2, *]; done) | (simp [up2, *]; omega) | (simp only [up2_eq]; omega)) dX2_settle_104 ?_
                          refine r_iconst (v := (nI 0)) C dX2_settle_105 (by decide) ?_
                          refine p_putZN hX C hE (by first | omega | (simp [up2, *]; done) | (simp [up2, *]; omega) | (simp only [up2_eq]; omega)) (by first | omega | (simp [up2, *]; done) | (simp [up2, *]; omega) | (simp only [up2_eq]; omega)) qn_X2_194 dX2_settle_106 ?_
                          refine r_iincN C dX2_settle_109 rfl (by decide) rfl ?_
                          refine r_goto (tgt := 67) C dX2_settle_112 (by decide) ?_
                          refine r_w (congrArg (fun z => WC cy a z r kn ++ Y) (stW_yes (by omega) (by assumption) (by assumption))) ?_
                          exact ih_L67 (k + 1) (by omega) (by omega)
          exact L67 4 4 rfl (by omega)
      · first
        | exfalso; first | omega | contradiction
        | skip
          refine r_iload C dX2_settle_19 rfl ?_
          refine r_iload_n C dX2_settle_21 rfl ?_
          refine r_icN_eq (a := k) (b := d0) (tgt := 58) C (by first | omega | (simp [up2, *]; done) | (simp [up2, *]; omega) | (simp only [up2_eq]; omega)) (by first | omega | (simp [up2, *]; done) | (simp [up2, *]; omega) | (simp only [up2_eq]; omega)) dX2_settle_22 (by decide) (fun h22_8 => ?_) (fun h22_8 => ?_)
          · first
            | exfalso; first | omega | contradiction
            | skip
              refine r_iincN C dX2_settle_58 rfl (by decide) rfl ?_
              refine r_goto (tgt := 13) C dX2_settle_61 (by decide) ?_
              refine r_w (congrArg (fun z => WC cy a z r kn ++ Y) (stU_no (by first | exact Or.inl (by assumption) | exact Or.inr (by assumption)))) ?_
              exact (Nat.not_lt_zero _ (by omega)).elim
          · first
            | exfalso; first | omega | contradiction
            | skip
              refine r_aload_n C dX2_settle_25 rfl ?_
              refine s_get C 0 (by decide) qf_X2_11 rfl rfl dX2_settle_26 ?_
              have hu6 := hU k (by omega)
              refine r_aload_n C dX2_settle_29 rfl ?_
              refine s_get C 1 (by decide) qf_X2_24 rfl rfl dX2_settle_30 ?_
              refine r_iload C dX2_settle_33 rfl ?_
              refine s_curs C (by first | omega | (simp [up2, *]; done) | (simp [up2, *]; omega) | (simp only [up2_eq]; omega)) dX2_settle_35 ?_
              refine u_getN (v := .int (nI (f 6 k))) hX C hE 0 (by first | omega | (simp [up2, *]; done) | (simp [up2, *]; omega) | (simp only [up2_eq]; omega)) (by decide) qn_X2_225 rfl rfl dX2_settle_36 ?_
              refine s_parts C (by first | omega | (simp [up2, *]; done) | (simp [up2, *]; omega) | (simp only [up2_eq]; omega)) dX2_settle_39 ?_
              refine p_getN (v := .int (nI (f 1 (f 6 k)))) hX C hE 1 (by first | omega | (simp [up2, *]; done) | (simp [up2, *]; omega) | (simp only [up2_eq]; omega)) (by decide) qn_X2_207 rfl rfl dX2_settle_40 ?_
              refine r_iload_n C dX2_settle_43 rfl ?_
              refine r_icN_ne (a := (f 1 (f 6 k))) (b := (f 1 w)) (tgt := 58) C (Nat.lt_of_lt_of_le (h1 (f 6 k) hu6) (by decide)) (Nat.lt_of_lt_of_le (h1 w (by omega)) (by decide)) dX2_settle_44 (by decide) (fun h44_9 => ?_) (fun h44_9 => ?_)
              · first
                | exfalso; first | omega | contradiction
                | skip
                  refine r_iincN C dX2_settle_58 rfl (by decide) rfl ?_
                  refine r_goto (tgt := 13) C dX2_settle_61 (by decide) ?_
                  refine r_w (congrArg (fun z => WC cy a z r kn ++ Y) (stU_no (by first | exact Or.inl (by assumption) | exact Or.inr (by assumption)))) ?_
                  exact (Nat.not_lt_zero _ (by omega)).elim
              · first
                | exfalso; first | omega | contradiction
                | skip
                  refine r_aload_n C dX2_settle_47 rfl ?_
                  refine s_get C 1 (by decide) qf_X2_24 rfl rfl dX2_settle_48 ?_
                  refine r_iload C dX2_settle_51 rfl ?_
                  refine s_curs C (by first | omega | (simp [up2, *]; done) | (simp [up2, *]; omega) | (simp only [up2_eq]; omega)) dX2_settle_53 ?_
                  refine r_iconst (v := (nI 0)) C dX2_settle_54 (by decide) ?_
                  refine u_putZN hX C hE (by first | omega | (simp [up2, *]; done) | (simp [up2, *]; omega) | (simp only [up2_eq]; omega)) (by first | omega | (simp [up2, *]; done) | (simp [up2, *]; omega) | (simp only [up2_eq]; omega)) qn_X2_221 dX2_settle_55 ?_
                  refine r_iincN C dX2_settle_58 rfl (by decide) rfl ?_
                  refine r_goto (tgt := 13) C dX2_settle_61 (by decide) ?_
                  refine r_w (congrArg (fun z => WC cy a z r kn ++ Y) (stU_yes (by assumption) (by assumption))) ?_
                  exact (Nat.not_lt_zero _ (by omega)).elim
    | succ d ih_L13 =>
      intro k hk
      refine r_iload C dX2_settle_13 rfl ?_
      refine r_iconst (v := (nI 3)) C dX2_settle_15 (by decide) ?_
      refine r_icN_ge (a := k) (b := 3) (tgt := 64) C (by first | omega | (simp [up2, *]; done) | (simp [up2, *]; omega) | (simp only [up2_eq]; omega)) (by first | omega | (simp [up2, *]; done) | (simp [up2, *]; omega) | (simp only [up2_eq]; omega)) dX2_settle_16 (by decide) (fun h16_10 => ?_) (fun h16_10 => ?_)
      · first
        | exfalso; first | omega | contradiction
        | skip
          refine r_iconst (v := (nI 4)) C dX2_settle_64 (by decide) ?_
          refine r_istore C dX2_settle_65 (by decide) rfl ?_
          have e3 : k = 3 := by omega
          subst e3
          refine r_w (congrArg (fun z => WC cy a z r kn ++ Y) (stW_0 (stU f w d0 3) w).symm) ?_
          have L67 : ∀ (d : Nat) (k : Nat), (hk : k + d = 8) → (hk4 : 4 ≤ k) → vC p l e (rmz 1 30) s m args below meth c D A (vx_MQ below (vG (fun v1 w1 => v1 = none ∧ w1 = WC cy a (settleF f w d0) r kn ++ Y) D vwCl A) (vGX (fun _ => False) D vwCl (WC cy a f r kn ++ Y) A) args s (rmz 1 30).cells (rmz 1 30).slots A) 5 0 0 (WC cy a (stW (stU f w d0 3) w k) r kn ++ Y) [some (.ref (a 0 0)), some (.int (nI w)), some (.int (nI d0)), some (.int (nI (f 1 w))), some (.int (nI k))] 67 [] := by
            intro d
            induction d with
            | zero =>
              intro k hk hk4
              refine r_iload C dX2_settle_67 rfl ?_
              refine r_bipush (v := (nI 8)) C dX2_settle_69 (by decide) ?_
              refine r_icN_ge (a := k) (b := 8) (tgt := 115) C (by first | omega | (simp [up2, *]; done) | (simp [up2, *]; omega) | (simp only [up2_eq]; omega)) (by first | omega | (simp [up2, *]; done) | (simp [up2, *]; omega) | (simp only [up2_eq]; omega)) dX2_settle_71 (by decide) (fun h71_11 => ?_) (fun h71_11 => ?_)
              · first
                | exfalso; first | omega | contradiction
                | skip
                  have e8 : k = 8 := by omega
                  subst e8
                  exact r_vret C hr dX2_settle_115 ⟨rfl, rfl⟩ (Nat.le_of_ble_eq_true rfl) (Nat.le_of_ble_eq_true rfl)
              · first
                | exfalso; first | omega | contradiction
                | skip
                  refine r_aload_n C dX2_settle_74 rfl ?_
                  refine s_get C 0 (by decide) qf_X2_11 rfl rfl dX2_settle_75 ?_
                  refine r_iload C dX2_settle_78 rfl ?_
                  refine s_parts C (by first | omega | (simp [up2, *]; done) | (simp [up2, *]; omega) | (simp only [up2_eq]; omega)) dX2_settle_80 ?_
                  refine p_getN (v := .int (nI (f 1 k))) hX C hE 1 (by first | omega | (simp [up2, *]; done) | (simp [up2, *]; omega) | (simp only [up2_eq]; omega)) (by decide) qn_X2_207 rfl rfl dX2_settle_81 ?_
                  refine r_iload_n C dX2_settle_84 rfl ?_
                  refine r_icN_ne (a := (f 1 k)) (b := (f 1 w)) (tgt := 109) C (Nat.lt_of_lt_of_le (h1 k (by omega)) (by decide)) (Nat.lt_of_lt_of_le (h1 w (by omega)) (by decide)) dX2_settle_85 (by decide) (fun h85_12 => ?_) (fun h85_12 => ?_)
                  · first
                    | exfalso; first | omega | contradiction
                    | skip
                      refine r_iincN C dX2_settle_109 rfl (by decide) rfl ?_
                      refine r_goto (tgt := 67) C dX2_settle_112 (by decide) ?_
                      refine r_w (congrArg (fun z => WC cy a z r kn ++ Y) (stW_no (by first | exact Or.inl (by assumption) | exact Or.inr (by assumption)))) ?_
                      exact (Nat.not_lt_zero _ (by omega)).elim
                  · first
                    | exfalso; first | omega | contradiction
                    | skip
                      refine r_aload_n C dX2_settle_88 rfl ?_
                      refine r_iload C dX2_settle_89 rfl ?_
                      refine r_iload_n C dX2_settle_91 rfl ?_
                      refine d_V (st := []) hX.stb C hE (C_isHolder (f := (stW (stU f w d0 3) w k)) (r := r) (kn := kn) (h := k) (w := w) hX (by first | omega | (simp [up2, *]; done) | (simp [up2, *]; omega) | (simp only [up2_eq]; omega)) (by first | omega | (simp [up2, *]; done) | (simp [up2, *]; omega) | (simp only [up2_eq]; omega)) hG) pk_X2_isHolder qm_X2_182 0 6 rfl rfl wc_0 rfl rfl (Nat.le_of_ble_eq_true rfl) dX2_settle_92 ⟨Nat.le_of_ble_eq_true rfl, Nat.le_of_ble_eq_true rfl⟩ ⟨Nat.le_of_ble_eq_true rfl, Nat.le_of_ble_eq_true rfl⟩ ?_
                      refine r_ifN_ne (a := (hol f k w)) (tgt := 109) C (Nat.lt_of_le_of_lt (hol_le _ _ _) (by decide)) dX2_settle_95 (by decide) (fun h95_13 => ?_) (fun h95_13 => ?_)
                      · first
                        | exfalso; first | omega | contradiction
                        | skip
                          refine r_iincN C dX2_settle_109 rfl (by decide) rfl ?_
                          refine r_goto (tgt := 67) C dX2_settle_112 (by decide) ?_
                          refine r_w (congrArg (fun z => WC cy a z r kn ++ Y) (stW_no (by first | exact Or.inl (by assumption) | exact Or.inr (by assumption)))) ?_
                          exact (Nat.not_lt_zero _ (by omega)).elim
                      · first
                        | exfalso; first | omega | contradiction
                        | skip
                          refine r_aload_n C dX2_settle_98 rfl ?_
                          refine s_get C 0 (by decide) qf_X2_11 rfl rfl dX2_settle_99 ?_
                          refine r_iload C dX2_settle_102 rfl ?_
                          refine s_parts C (by first | omega | (simp [up2, *]; done) | (simp [up2, *]; omega) | (simp only [up2_eq]; omega)) dX2_settle_104 ?_
                          refine r_iconst (v := (nI 0)) C dX2_settle_105 (by decide) ?_
                          refine p_putZN hX C hE (by first | omega | (simp [up2, *]; done) | (simp [up2, *]; omega) | (simp only [up2_eq]; omega)) (by first | omega | (simp [up2, *]; done) | (simp [up2, *]; omega) | (simp only [up2_eq]; omega)) qn_X2_194 dX2_settle_106 ?_
                          refine r_iincN C dX2_settle_109 rfl (by decide) rfl ?_
                          refine r_goto (tgt := 67) C dX2_settle_112 (by decide) ?_
                          refine r_w (congrArg (fun z => WC cy a z r kn ++ Y) (stW_yes (by omega) (by assumption) (by assumption))) ?_
                          exact (Nat.not_lt_zero _ (by omega)).elim
            | succ d ih_L67 =>
              intro k hk hk4
              refine r_iload C dX2_settle_67 rfl ?_
              refine r_bipush (v := (nI 8)) C dX2_settle_69 (by decide) ?_
              refine r_icN_ge (a := k) (b := 8) (tgt := 115) C (by first | omega | (simp [up2, *]; done) | (simp [up2, *]; omega) | (simp only [up2_eq]; omega)) (by first | omega | (simp [up2, *]; done) | (simp [up2, *]; omega) | (simp only [up2_eq]; omega)) dX2_settle_71 (by decide) (fun h71_14 => ?_) (fun h71_14 => ?_)
              · first
                | exfalso; first | omega | contradiction
                | skip
                  have e8 : k = 8 := by omega
                  subst e8
                  exact r_vret C hr dX2_settle_115 ⟨rfl, rfl⟩ (Nat.le_of_ble_eq_true rfl) (Nat.le_of_ble_eq_true rfl)
              · first
                | exfalso; first | omega | contradiction
                | skip
                  refine r_aload_n C dX2_settle_74 rfl ?_
                  refine s_get C 0 (by decide) qf_X2_11 rfl rfl dX2_settle_75 ?_
                  refine r_iload C dX2_settle_78 rfl ?_
                  refine s_parts C (by first | omega | (simp [up2, *]; done) | (simp [up2, *]; omega) | (simp only [up2_eq]; omega)) dX2_settle_80 ?_
                  refine p_getN (v := .int (nI (f 1 k))) hX C hE 1 (by first | omega | (simp [up2, *]; done) | (simp [up2, *]; omega) | (simp only [up2_eq]; omega)) (by decide) qn_X2_207 rfl rfl dX2_settle_81 ?_
                  refine r_iload_n C dX2_settle_84 rfl ?_
                  refine r_icN_ne (a := (f 1 k)) (b := (f 1 w)) (tgt := 109) C (Nat.lt_of_lt_of_le (h1 k (by omega)) (by decide)) (Nat.lt_of_lt_of_le (h1 w (by omega)) (by decide)) dX2_settle_85 (by decide) (fun h85_15 => ?_) (fun h85_15 => ?_)
                  · first
                    | exfalso; first | omega | contradiction
                    | skip
                      refine r_iincN C dX2_settle_109 rfl (by decide) rfl ?_
                      refine r_goto (tgt := 67) C dX2_settle_112 (by decide) ?_
                      refine r_w (congrArg (fun z => WC cy a z r kn ++ Y) (stW_no (by first | exact Or.inl (by assumption) | exact Or.inr (by assumption)))) ?_
                      exact ih_L67 (k + 1) (by omega) (by omega)
                  · first
                    | exfalso; first | omega | contradiction
                    | skip
                      refine r_aload_n C dX2_settle_88 rfl ?_
                      refine r_iload C dX2_settle_89 rfl ?_
                      refine r_iload_n C dX2_settle_91 rfl ?_
                      refine d_V (st := []) hX.stb C hE (C_isHolder (f := (stW (stU f w d0 3) w k)) (r := r) (kn := kn) (h := k) (w := w) hX (by first | omega | (simp [up2, *]; done) | (simp [up2, *]; omega) | (simp only [up2_eq]; omega)) (by first | omega | (simp [up2, *]; done) | (simp [up2, *]; omega) | (simp only [up2_eq]; omega)) hG) pk_X2_isHolder qm_X2_182 0 6 rfl rfl wc_0 rfl rfl (Nat.le_of_ble_eq_true rfl) dX2_settle_92 ⟨Nat.le_of_ble_eq_true rfl, Nat.le_of_ble_eq_true rfl⟩ ⟨Nat.le_of_ble_eq_true rfl, Nat.le_of_ble_eq_true rfl⟩ ?_
                      refine r_ifN_ne (a := (hol f k w)) (tgt := 109) C (Nat.lt_of_le_of_lt (hol_le _ _ _) (by decide)) dX2_settle_95 (by decide) (fun h95_16 => ?_) (fun h95_16 => ?_)
                      · first
                        | exfalso; first | omega | contradiction
                        | skip
                          refine r_iincN C dX2_settle_109 rfl (by decide) rfl ?_
                          refine r_goto (tgt := 67) C dX2_settle_112 (by decide) ?_
                          refine r_w (congrArg (fun z => WC cy a z r kn ++ Y) (stW_no (by first | exact Or.inl (by assumption) | exact Or.inr (by assumption)))) ?_
                          exact ih_L67 (k + 1) (by omega) (by omega)
                      · first
                        | exfalso; first | omega | contradiction
                        | skip
                          refine r_aload_n C dX2_settle_98 rfl ?_
                          refine s_get C 0 (by decide) qf_X2_11 rfl rfl dX2_settle_99 ?_
                          refine r_iload C dX2_settle_102 rfl ?_
                          refine s_parts C (by first | omega | (simp [up2, *]; done) | (simp [up2, *]; omega) | (simp only [up2_eq]; omega)) dX2_settle_104 ?_
                          refine r_iconst (v := (nI 0)) C dX2_settle_105 (by decide) ?_
                          refine p_putZN hX C hE (by first | omega | (simp [up2, *]; done) | (simp [up2, *]; omega) | (simp only [up2_eq]; omega)) (by first | omega | (simp [up2, *]; done) | (simp [up2, *]; omega) | (simp only [up2_eq]; omega)) qn_X2_194 dX2_settle_106 ?_
                          refine r_iincN C dX2_settle_109 rfl (by decide) rfl ?_
                          refine r_goto (tgt := 67) C dX2_settle_112 (by decide) ?_
                          refine r_w (congrArg (fun z => WC cy a z r kn ++ Y) (stW_yes (by omega) (by assumption) (by assumption))) ?_
                          exact ih_L67 (k + 1) (by omega) (by omega)
          exact L67 4 4 rfl (by omega)
      · first
        | exfalso; first | omega | contradiction
        | skip
          refine r_iload C dX2_settle_19 rfl ?_
          refine r_iload_n C dX2_settle_21 rfl ?_
          refine r_icN_eq (a := k) (b := d0) (tgt := 58) C (by first | omega | (simp [up2, *]; done) | (simp [up2, *]; omega) | (simp only [up2_eq]; omega)) (by first | omega | (simp [up2, *]; done) | (simp [up2, *]; omega) | (simp only [up2_eq]; omega)) dX2_settle_22 (by decide) (fun h22_17 => ?_) (fun h22_17 => ?_)
          · first
            | exfalso; first | omega | contradiction
            | skip
              refine r_iincN C dX2_settle_58 rfl (by decide) rfl ?_
              refine r_goto (tgt := 13) C dX2_settle_61 (by decide) ?_
              refine r_w (congrArg (fun z => WC cy a z r kn ++ Y) (stU_no (by first | exact Or.inl (by assumption) | exact Or.inr (by assumption)))) ?_
              exact ih_L13 (k + 1) (by omega)
          · first
            | exfalso; first | omega | contradiction
            | skip
              refine r_aload_n C dX2_settle_25 rfl ?_
              refine s_get C 0 (by decide) qf_X2_11 rfl rfl dX2_settle_26 ?_
              have hu6 := hU k (by omega)
              refine r_aload_n C dX2_settle_29 rfl ?_
              refine s_get C 1 (by decide) qf_X2_24 rfl rfl dX2_settle_30 ?_
              refine r_iload C dX2_settle_33 rfl ?_
              refine s_curs C (by first | omega | (simp [up2, *]; done) | (simp [up2, *]; omega) | (simp only [up2_eq]; omega)) dX2_settle_35 ?_
              refine u_getN (v := .int (nI (f 6 k))) hX C hE 0 (by first | omega | (simp [up2, *]; done) | (simp [up2, *]; omega) | (simp only [up2_eq]; omega)) (by decide) qn_X2_225 rfl rfl dX2_settle_36 ?_
              refine s_parts C (by first | omega | (simp [up2, *]; done) | (simp [up2, *]; omega) | (simp only [up2_eq]; omega)) dX2_settle_39 ?_
              refine p_getN (v := .int (nI (f 1 (f 6 k)))) hX C hE 1 (by first | omega | (simp [up2, *]; done) | (simp [up2, *]; omega) | (simp only [up2_eq]; omega)) (by decide) qn_X2_207 rfl rfl dX2_settle_40 ?_
              refine r_iload_n C dX2_settle_43 rfl ?_
              refine r_icN_ne (a := (f 1 (f 6 k))) (b := (f 1 w)) (tgt := 58) C (Nat.lt_of_lt_of_le (h1 (f 6 k) hu6) (by decide)) (Nat.lt_of_lt_of_le (h1 w (by omega)) (by decide)) dX2_settle_44 (by decide) (fun h44_18 => ?_) (fun h44_18 => ?_)
              · first
                | exfalso; first | omega | contradiction
                | skip
                  refine r_iincN C dX2_settle_58 rfl (by decide) rfl ?_
                  refine r_goto (tgt := 13) C dX2_settle_61 (by decide) ?_
                  refine r_w (congrArg (fun z => WC cy a z r kn ++ Y) (stU_no (by first | exact Or.inl (by assumption) | exact Or.inr (by assumption)))) ?_
                  exact ih_L13 (k + 1) (by omega)
              · first
                | exfalso; first | omega | contradiction
                | skip
                  refine r_aload_n C dX2_settle_47 rfl ?_
                  refine s_get C 1 (by decide) qf_X2_24 rfl rfl dX2_settle_48 ?_
                  refine r_iload C dX2_settle_51 rfl ?_
                  refine s_curs C (by first | omega | (simp [up2, *]; done) | (simp [up2, *]; omega) | (simp only [up2_eq]; omega)) dX2_settle_53 ?_
                  refine r_iconst (v := (nI 0)) C dX2_settle_54 (by decide) ?_
                  refine u_putZN hX C hE (by first | omega | (simp [up2, *]; done) | (simp [up2, *]; omega) | (simp only [up2_eq]; omega)) (by first | omega | (simp [up2, *]; done) | (simp [up2, *]; omega) | (simp only [up2_eq]; omega)) qn_X2_221 dX2_settle_55 ?_
                  refine r_iincN C dX2_settle_58 rfl (by decide) rfl ?_
                  refine r_goto (tgt := 13) C dX2_settle_61 (by decide) ?_
                  refine r_w (congrArg (fun z => WC cy a z r kn ++ Y) (stU_yes (by assumption) (by assumption))) ?_
                  exact ih_L13 (k + 1) (by omega)
  exact L13 3 0 rfl
end PT_11
/-! ===== 12.class2 -/
section PT_12
/-! CONTRACTS of the class: exchanges, a row that becomes another one -/
theorem dX2_exchangeForSpare_0 : decode cX2_exchangeForSpare 0 = .ok (.aload_n 0, 1) := dqo_42 (kb_X2_exchangeForSpare_0 0 rfl)
theorem dX2_exchangeForSpare_1 : decode cX2_exchangeForSpare 1 = .ok (.getfield 11, 3) := dqo_180 0 11 (kb_X2_exchangeForSpare_0 1 rfl) (kb_X2_exchangeForSpare_0 2 rfl) (kb_X2_exchangeForSpare_0 3 rfl)
theorem dX2_exchangeForSpare_4 : decode cX2_exchangeForSpare 4 = .ok (.aload_n 0, 1) := dqo_42 (kb_X2_exchangeForSpare_0 4 rfl)
theorem dX2_exchangeForSpare_5 : decode cX2_exchangeForSpare 5 = .ok (.getfield 11, 3) := dqo_180 0 11 (kb_X2_exchangeForSpare_0 5 rfl) (kb_X2_exchangeForSpare_0 6 rfl) (kb_X2_exchangeForSpare_0 7 rfl)
theorem dX2_exchangeForSpare_8 : decode cX2_exchangeForSpare 8 = .ok (.iload_n 1, 1) := dqo_27 (kb_X2_exchangeForSpare_0 8 rfl)
theorem dX2_exchangeForSpare_9 : decode cX2_exchangeForSpare 9 = .ok (.aaload, 1) := dqo_50 (kb_X2_exchangeForSpare_0 9 rfl)
theorem dX2_exchangeForSpare_10 : decode cX2_exchangeForSpare 10 = .ok (.getfield 207, 3) := dqo_180 0 207 (kb_X2_exchangeForSpare_0 10 rfl) (kb_X2_exchangeForSpare_0 11 rfl) (kb_X2_exchangeForSpare_0 12 rfl)
theorem dX2_exchangeForSpare_13 : decode cX2_exchangeForSpare 13 = .ok (.aaload, 1) := dqo_50 (kb_X2_exchangeForSpare_0 13 rfl)
theorem dX2_exchangeForSpare_14 : decode cX2_exchangeForSpare 14 = .ok (.astore 4, 2) := dqo_58 4 (kb_X2_exchangeForSpare_0 14 rfl) (kb_X2_exchangeForSpare_0 15 rfl)
theorem dX2_exchangeForSpare_16 : decode cX2_exchangeForSpare 16 = .ok (.aload_n 0, 1) := dqo_42 (kb_X2_exchangeForSpare_0 16 rfl)
theorem dX2_exchangeForSpare_17 : decode cX2_exchangeForSpare 17 = .ok (.getfield 11, 3) := dqo_180 0 11 (kb_X2_exchangeForSpare_0 17 rfl) (kb_X2_exchangeForSpare_0 18 rfl) (kb_X2_exchangeForSpare_0 19 rfl)
theorem dX2_exchangeForSpare_20 : decode cX2_exchangeForSpare 20 = .ok (.iload_n 1, 1) := dqo_27 (kb_X2_exchangeForSpare_0 20 rfl)
theorem dX2_exchangeForSpare_21 : decode cX2_exchangeForSpare 21 = .ok (.aaload, 1) := dqo_50 (kb_X2_exchangeForSpare_0 21 rfl)
theorem dX2_exchangeForSpare_22 : decode cX2_exchangeForSpare 22 = .ok (.getfield 296, 3) := dqo_180 1 40 (kb_X2_exchangeForSpare_0 22 rfl) (kb_X2_exchangeForSpare_0 23 rfl) (kb_X2_exchangeForSpare_0 24 rfl)
theorem dX2_exchangeForSpare_25 : decode cX2_exchangeForSpare 25 = .ok (.iload_n 2, 1) := dqo_28 (kb_X2_exchangeForSpare_0 25 rfl)
theorem dX2_exchangeForSpare_26 : decode cX2_exchangeForSpare 26 = .ok (.iadd, 1) := dqo_96 (kb_X2_exchangeForSpare_0 26 rfl)
theorem dX2_exchangeForSpare_27 : decode cX2_exchangeForSpare 27 = .ok (.istore 5, 2) := dqo_54 5 (kb_X2_exchangeForSpare_0 27 rfl) (kb_X2_exchangeForSpare_0 28 rfl)
theorem dX2_exchangeForSpare_29 : decode cX2_exchangeForSpare 29 = .ok (.aload_n 0, 1) := dqo_42 (kb_X2_exchangeForSpare_0 29 rfl)
theorem dX2_exchangeForSpare_30 : decode cX2_exchangeForSpare 30 = .ok (.getfield 11, 3) := dqo_180 0 11 (kb_X2_exchangeForSpare_0 30 rfl) (kb_X2_exchangeForSpare_0 31 rfl) (kb_X2_exchangeForSpare_0 32 rfl)
theorem dX2_exchangeForSpare_33 : decode cX2_exchangeForSpare 33 = .ok (.iload_n 1, 1) := dqo_27 (kb_X2_exchangeForSpare_0 33 rfl)
theorem dX2_exchangeForSpare_34 : decode cX2_exchangeForSpare 34 = .ok (.aaload, 1) := dqo_50 (kb_X2_exchangeForSpare_0 34 rfl)
theorem dX2_exchangeForSpare_35 : decode cX2_exchangeForSpare 35 = .ok (.getfield 296, 3) := dqo_180 1 40 (kb_X2_exchangeForSpare_0 35 rfl) (kb_X2_exchangeForSpare_0 36 rfl) (kb_X2_exchangeForSpare_0 37 rfl)
theorem dX2_exchangeForSpare_38 : decode cX2_exchangeForSpare 38 = .ok (.iload_n 3, 1) := dqo_29 (kb_X2_exchangeForSpare_0 38 rfl)
theorem dX2_exchangeForSpare_39 : decode cX2_exchangeForSpare 39 = .ok (.iadd, 1) := dqo_96 (kb_X2_exchangeForSpare_0 39 rfl)
theorem dX2_exchangeForSpare_40 : decode cX2_exchangeForSpare 40 = .ok (.istore 6, 2) := dqo_54 6 (kb_X2_exchangeForSpare_0 40 rfl) (kb_X2_exchangeForSpare_0 41 rfl)
theorem dX2_exchangeForSpare_42 : decode cX2_exchangeForSpare 42 = .ok (.aload_n 0, 1) := dqo_42 (kb_X2_exchangeForSpare_0 42 rfl)
theorem dX2_exchangeForSpare_43 : decode cX2_exchangeForSpare 43 = .ok (.getfield 29, 3) := dqo_180 0 29 (kb_X2_exchangeForSpare_0 43 rfl) (kb_X2_exchangeForSpare_0 44 rfl) (kb_X2_exchangeForSpare_0 45 rfl)
theorem dX2_exchangeForSpare_46 : decode cX2_exchangeForSpare 46 = .ok (.getfield 50, 3) := dqo_180 0 50 (kb_X2_exchangeForSpare_0 46 rfl) (kb_X2_exchangeForSpare_0 47 rfl) (kb_X2_exchangeForSpare_0 48 rfl)
theorem dX2_exchangeForSpare_49 : decode cX2_exchangeForSpare 49 = .ok (.istore 7, 2) := dqo_54 7 (kb_X2_exchangeForSpare_0 49 rfl) (kb_X2_exchangeForSpare_0 50 rfl)
theorem dX2_exchangeForSpare_51 : decode cX2_exchangeForSpare 51 = .ok (.aload 4, 2) := dqo_25 4 (kb_X2_exchangeForSpare_0 51 rfl) (kb_X2_exchangeForSpare_0 52 rfl)
theorem dX2_exchangeForSpare_53 : decode cX2_exchangeForSpare 53 = .ok (.getfield 18, 3) := dqo_180 0 18 (kb_X2_exchangeForSpare_0 53 rfl) (kb_X2_exchangeForSpare_0 54 rfl) (kb_X2_exchangeForSpare_0 55 rfl)
theorem dX2_exchangeForSpare_56 : decode cX2_exchangeForSpare 56 = .ok (.iload 6, 2) := dqo_21 6 (kb_X2_exchangeForSpare_0 56 rfl) (kb_X2_exchangeForSpare_0 57 rfl)
theorem dX2_exchangeForSpare_58 : decode cX2_exchangeForSpare 58 = .ok (.aload 4, 2) := dqo_25 4 (kb_X2_exchangeForSpare_0 58 rfl) (kb_X2_exchangeForSpare_0 59 rfl)
theorem dX2_exchangeForSpare_60 : decode cX2_exchangeForSpare 60 = .ok (.getfield 18, 3) := dqo_180 0 18 (kb_X2_exchangeForSpare_0 60 rfl) (kb_X2_exchangeForSpare_0 61 rfl) (kb_X2_exchangeForSpare_0 62 rfl)
theorem dX2_exchangeForSpare_63 : decode cX2_exchangeForSpare 63 = .ok (.iload 5, 2) := dqo_21 5 (kb_X2_exchangeForSpare_0 63 rfl) (kb_X2_exchangeForSpare_1 0 rfl)
theorem dX2_exchangeForSpare_65 : decode cX2_exchangeForSpare 65 = .ok (.iload 7, 2) := dqo_21 7 (kb_X2_exchangeForSpare_1 1 rfl) (kb_X2_exchangeForSpare_1 2 rfl)
theorem dX2_exchangeForSpare_67 : decode cX2_exchangeForSpare 67 = .ok (.iadd, 1) := dqo_96 (kb_X2_exchangeForSpare_1 3 rfl)
theorem dX2_exchangeForSpare_68 : decode cX2_exchangeForSpare 68 = .ok (.aload 4, 2) := dqo_25 4 (kb_X2_exchangeForSpare_1 4 rfl) (kb_X2_exchangeForSpare_1 5 rfl)
theorem dX2_exchangeForSpare_70 : decode cX2_exchangeForSpare 70 = .ok (.getfield 50, 3) := dqo_180 0 50 (kb_X2_exchangeForSpare_1 6 rfl) (kb_X2_exchangeForSpare_1 7 rfl) (kb_X2_exchangeForSpare_1 8 rfl)
theorem dX2_exchangeForSpare_73 : decode cX2_exchangeForSpare 73 = .ok (.iload 6, 2) := dqo_21 6 (kb_X2_exchangeForSpare_1 9 rfl) (kb_X2_exchangeForSpare_1 10 rfl)
theorem dX2_exchangeForSpare_75 : decode cX2_exchangeForSpare 75 = .ok (.isub, 1) := dqo_100 (kb_X2_exchangeForSpare_1 11 rfl)
theorem dX2_exchangeForSpare_76 : decode cX2_exchangeForSpare 76 = .ok (.invokestatic 299, 3) := dqo_184 1 43 (kb_X2_exchangeForSpare_1 12 rfl) (kb_X2_exchangeForSpare_1 13 rfl) (kb_X2_exchangeForSpare_1 14 rfl)
theorem dX2_exchangeForSpare_79 : decode cX2_exchangeForSpare 79 = .ok (.aload_n 0, 1) := dqo_42 (kb_X2_exchangeForSpare_1 15 rfl)
theorem dX2_exchangeForSpare_80 : decode cX2_exchangeForSpare 80 = .ok (.getfield 29, 3) := dqo_180 0 29 (kb_X2_exchangeForSpare_1 16 rfl) (kb_X2_exchangeForSpare_1 17 rfl) (kb_X2_exchangeForSpare_1 18 rfl)
theorem dX2_exchangeForSpare_83 : decode cX2_exchangeForSpare 83 = .ok (.getfield 18, 3) := dqo_180 0 18 (kb_X2_exchangeForSpare_1 19 rfl) (kb_X2_exchangeForSpare_1 20 rfl) (kb_X2_exchangeForSpare_1 21 rfl)
theorem dX2_exchangeForSpare_86 : decode cX2_exchangeForSpare 86 = .ok (.iconst 0, 1) := dqo_3 (kb_X2_exchangeForSpare_1 22 rfl)
theorem dX2_exchangeForSpare_87 : decode cX2_exchangeForSpare 87 = .ok (.aload 4, 2) := dqo_25 4 (kb_X2_exchangeForSpare_1 23 rfl) (kb_X2_exchangeForSpare_1 24 rfl)
theorem dX2_exchangeForSpare_89 : decode cX2_exchangeForSpare 89 = .ok (.getfield 18, 3) := dqo_180 0 18 (kb_X2_exchangeForSpare_1 25 rfl) (kb_X2_exchangeForSpare_1 26 rfl) (kb_X2_exchangeForSpare_1 27 rfl)
theorem dX2_exchangeForSpare_92 : decode cX2_exchangeForSpare 92 = .ok (.iload 5, 2) := dqo_21 5 (kb_X2_exchangeForSpare_1 28 rfl) (kb_X2_exchangeForSpare_1 29 rfl)
theorem dX2_exchangeForSpare_94 : decode cX2_exchangeForSpare 94 = .ok (.iload 7, 2) := dqo_21 7 (kb_X2_exchangeForSpare_1 30 rfl) (kb_X2_exchangeForSpare_1 31 rfl)
theorem dX2_exchangeForSpare_96 : decode cX2_exchangeForSpare 96 = .ok (.invokestatic 299, 3) := dqo_184 1 43 (kb_X2_exchangeForSpare_1 32 rfl) (kb_X2_exchangeForSpare_1 33 rfl) (kb_X2_exchangeForSpare_1 34 rfl)
theorem dX2_exchangeForSpare_99 : decode cX2_exchangeForSpare 99 = .ok (.iconst 0, 1) := dqo_3 (kb_X2_exchangeForSpare_1 35 rfl)
theorem dX2_exchangeForSpare_100 : decode cX2_exchangeForSpare 100 = .ok (.istore 8, 2) := dqo_54 8 (kb_X2_exchangeForSpare_1 36 rfl) (kb_X2_exchangeForSpare_1 37 rfl)
theorem dX2_exchangeForSpare_102 : decode cX2_exchangeForSpare 102 = .ok (.iload 8, 2) := dqo_21 8 (kb_X2_exchangeForSpare_1 38 rfl) (kb_X2_exchangeForSpare_1 39 rfl)
theorem dX2_exchangeForSpare_104 : decode cX2_exchangeForSpare 104 = .ok (.bipush 8, 2) := dqo_16 8 (by decide) (kb_X2_exchangeForSpare_1 40 rfl) (kb_X2_exchangeForSpare_1 41 rfl)
theorem dX2_exchangeForSpare_106 : decode cX2_exchangeForSpare 106 = .ok (.if_icmp .ge 40, 3) := dqo_162 0 40 (by decide) (kb_X2_exchangeForSpare_1 42 rfl) (kb_X2_exchangeForSpare_1 43 rfl) (kb_X2_exchangeForSpare_1 44 rfl)
theorem dX2_exchangeForSpare_109 : decode cX2_exchangeForSpare 109 = .ok (.aload_n 0, 1) := dqo_42 (kb_X2_exchangeForSpare_1 45 rfl)
theorem dX2_exchangeForSpare_110 : decode cX2_exchangeForSpare 110 = .ok (.iload 8, 2) := dqo_21 8 (kb_X2_exchangeForSpare_1 46 rfl) (kb_X2_exchangeForSpare_1 47 rfl)
theorem dX2_exchangeForSpare_112 : decode cX2_exchangeForSpare 112 = .ok (.iload_n 1, 1) := dqo_27 (kb_X2_exchangeForSpare_1 48 rfl)
theorem dX2_exchangeForSpare_113 : decode cX2_exchangeForSpare 113 = .ok (.invokevirtual 182, 3) := dqo_182 0 182 (kb_X2_exchangeForSpare_1 49 rfl) (kb_X2_exchangeForSpare_1 50 rfl) (kb_X2_exchangeForSpare_1 51 rfl)
theorem dX2_exchangeForSpare_116 : decode cX2_exchangeForSpare 116 = .ok (.ifCond .eq 24, 3) := dqo_153 0 24 (by decide) (kb_X2_exchangeForSpare_1 52 rfl) (kb_X2_exchangeForSpare_1 53 rfl) (kb_X2_exchangeForSpare_1 54 rfl)
theorem dX2_exchangeForSpare_119 : decode cX2_exchangeForSpare 119 = .ok (.aload_n 0, 1) := dqo_42 (kb_X2_exchangeForSpare_1 55 rfl)
theorem dX2_exchangeForSpare_120 : decode cX2_exchangeForSpare 120 = .ok (.getfield 11, 3) := dqo_180 0 11 (kb_X2_exchangeForSpare_1 56 rfl) (kb_X2_exchangeForSpare_1 57 rfl) (kb_X2_exchangeForSpare_1 58 rfl)
theorem dX2_exchangeForSpare_123 : decode cX2_exchangeForSpare 123 = .ok (.iload 8, 2) := dqo_21 8 (kb_X2_exchangeForSpare_1 59 rfl) (kb_X2_exchangeForSpare_1 60 rfl)
theorem dX2_exchangeForSpare_125 : decode cX2_exchangeForSpare 125 = .ok (.aaload, 1) := dqo_50 (kb_X2_exchangeForSpare_1 61 rfl)
theorem dX2_exchangeForSpare_126 : decode cX2_exchangeForSpare 126 = .ok (.dup, 1) := dqo_89 (kb_X2_exchangeForSpare_1 62 rfl)
theorem dX2_exchangeForSpare_127 : decode cX2_exchangeForSpare 127 = .ok (.getfield 50, 3) := dqo_180 0 50 (kb_X2_exchangeForSpare_1 63 rfl) (kb_X2_exchangeForSpare_2 0 rfl) (kb_X2_exchangeForSpare_2 1 rfl)
theorem dX2_exchangeForSpare_130 : decode cX2_exchangeForSpare 130 = .ok (.iload 7, 2) := dqo_21 7 (kb_X2_exchangeForSpare_2 2 rfl) (kb_X2_exchangeForSpare_2 3 rfl)
theorem dX2_exchangeForSpare_132 : decode cX2_exchangeForSpare 132 = .ok (.iload_n 3, 1) := dqo_29 (kb_X2_exchangeForSpare_2 4 rfl)
theorem dX2_exchangeForSpare_133 : decode cX2_exchangeForSpare 133 = .ok (.iload_n 2, 1) := dqo_28 (kb_X2_exchangeForSpare_2 5 rfl)
theorem dX2_exchangeForSpare_134 : decode cX2_exchangeForSpare 134 = .ok (.isub, 1) := dqo_100 (kb_X2_exchangeForSpare_2 6 rfl)
theorem dX2_exchangeForSpare_135 : decode cX2_exchangeForSpare 135 = .ok (.isub, 1) := dqo_100 (kb_X2_exchangeForSpare_2 7 rfl)
theorem dX2_exchangeForSpare_136 : decode cX2_exchangeForSpare 136 = .ok (.iadd, 1) := dqo_96 (kb_X2_exchangeForSpare_2 8 rfl)
theorem dX2_exchangeForSpare_137 : decode cX2_exchangeForSpare 137 = .ok (.putfield 50, 3) := dqo_181 0 50 (kb_X2_exchangeForSpare_2 9 rfl) (kb_X2_exchangeForSpare_2 10 rfl) (kb_X2_exchangeForSpare_2 11 rfl)
theorem dX2_exchangeForSpare_140 : decode cX2_exchangeForSpare 140 = .ok (.iinc 8 1, 3) := dqo_132 8 1 (by decide) (kb_X2_exchangeForSpare_2 12 rfl) (kb_X2_exchangeForSpare_2 13 rfl) (kb_X2_exchangeForSpare_2 14 rfl)
theorem dX2_exchangeForSpare_143 : decode cX2_exchangeForSpare 143 = .ok (.goto (-41), 3) := dqo_167 255 215 (by decide) (kb_X2_exchangeForSpare_2 15 rfl) (kb_X2_exchangeForSpare_2 16 rfl) (kb_X2_exchangeForSpare_2 17 rfl)
theorem dX2_exchangeForSpare_146 : decode cX2_exchangeForSpare 146 = .ok (.return_, 1) := dqo_177 (kb_X2_exchangeForSpare_2 18 rfl)
set_option maxRecDepth 100000 in
set_option maxHeartbeats 4000000 in
theorem C_exchange {l : Launch} {D : va_G} {cy : Nat → ClassId} {X : (Nat → Prop) → State → Heap → Prop} {a f : Nat → Nat → Nat} {r : Nat → Nat → Int32} {kn : Int32} {Y : va_W} {w : Nat} {p0 : Nat} {q0 : Nat} (hX : EnvX X) (hw : w < 8) (h1 : ∀ i, i < 8 → f 1 i < 4) (hG : ∀ i, i < 8 → f 2 i < 8 ∨ f 2 i = 4294967295) (hI : ∀ i, i < 4 → f 0 i < 7) (hI8 : f 0 8 < 7) (h38 : f 3 8 = 0) (hp : p0 ≤ q0) (hq : f 3 w + q0 ≤ f 4 (f 1 w)) (hrow : f 4 (f 1 w) ≤ 12) (h48 : f 4 8 ≤ 12) (hfit : f 4 (f 1 w) + f 4 8 ≤ 12 + (q0 - p0)) (hhol : ∀ i, i < 8 → hol f i w ≠ 0 → q0 - p0 ≤ f 4 i + f 4 8 ∧ f 4 i ≤ 12) : Cd l D cy X yX2_exchangeForSpare cX2_exchangeForSpare 9 none (rmz 1 60) [.ref (a 0 0), .int (nI w), .int (nI p0), .int (nI q0)] (WC cy a f r kn ++ Y) none (WC cy a (exL f w (f 4 8) (q0 - p0) 8) (exR f r w p0 q0 (f 4 8)) kn ++ Y) := by
  have hr1 := h1 w hw
  have hi1 := hI (f 1 w) hr1
  refine Cm.of [some (.ref (a 0 0)), some (.int (nI w)), some (.int (nI p0)), some (.int (nI q0)), none, none, none, none, none] pn_X2 rfl (Nat.le_of_ble_eq_true rfl) ?_
  intro p e s m args below meth c A C hE hr hnt hn
  refine r_aload_n C dX2_exchangeForSpare_0 rfl ?_
  refine s_get C 0 (by decide) qf_X2_11 rfl rfl dX2_exchangeForSpare_1 ?_
  refine r_aload_n C dX2_exchangeForSpare_4 rfl ?_
  refine s_get C 0 (by decide) qf_X2_11 rfl rfl dX2_exchangeForSpare_5 ?_
  refine r_iload_n C dX2_exchangeForSpare_8 rfl ?_
  refine s_parts C (by first | omega | (simp [up2, *]; done) | (simp [up2, *]; omega) | (simp only [up2_eq]; omega)) dX2_exchangeForSpare_9 ?_
  refine p_getN (v := .int (nI (f 1 w))) hX C hE 1 (by first | omega | (simp [up2, *]; done) | (simp [up2, *]; omega) | (simp only [up2_eq]; omega)) (by decide) qn_X2_207 rfl rfl dX2_exchangeForSpare_10 ?_
  refine s_parts C (by first | omega | (simp [up2, *]; done) | (simp [up2, *]; omega) | (simp only [up2_eq]; omega)) dX2_exchangeForSpare_13 ?_
  refine r_astore C dX2_exchangeForSpare_14 (by decide) rfl ?_
  refine r_aload_n C dX2_exchangeForSpare_16 rfl ?_
  refine s_get C 0 (by decide) qf_X2_11 rfl rfl dX2_exchangeForSpare_17 ?_
  refine r_iload_n C dX2_exchangeForSpare_20 rfl ?_
  refine s_parts C (by first | omega | (simp [up2, *]; done) | (simp [up2, *]; omega) | (simp only [up2_eq]; omega)) dX2_exchangeForSpare_21 ?_
  refine p_getN (v := .int (nI (f 3 w))) hX C hE 3 (by first | omega | (simp [up2, *]; done) | (simp [up2, *]; omega) | (simp only [up2_eq]; omega)) (by decide) qn_X2_296 rfl rfl dX2_exchangeForSpare_22 ?_
  refine r_iload_n C dX2_exchangeForSpare_25 rfl ?_
  refine r_iaddN C dX2_exchangeForSpare_26 ?_
  refine r_istore C dX2_exchangeForSpare_27 (by decide) rfl ?_
  refine r_aload_n C dX2_exchangeForSpare_29 rfl ?_
  refine s_get C 0 (by decide) qf_X2_11 rfl rfl dX2_exchangeForSpare_30 ?_
  refine r_iload_n C dX2_exchangeForSpare_33 rfl ?_
  refine s_parts C (by first | omega | (simp [up2, *]; done) | (simp [up2, *]; omega) | (simp only [up2_eq]; omega)) dX2_exchangeForSpare_34 ?_
  refine p_getN (v := .int (nI (f 3 w))) hX C hE 3 (by first | omega | (simp [up2, *]; done) | (simp [up2, *]; omega) | (simp only [up2_eq]; omega)) (by decide) qn_X2_296 rfl rfl dX2_exchangeForSpare_35 ?_
  refine r_iload_n C dX2_exchangeForSpare_38 rfl ?_
  refine r_iaddN C dX2_exchangeForSpare_39 ?_
  refine r_istore C dX2_exchangeForSpare_40 (by decide) rfl ?_
  refine r_aload_n C dX2_exchangeForSpare_42 rfl ?_
  refine s_get C 2 (by decide) qf_X2_29 rfl rfl dX2_exchangeForSpare_43 ?_
  refine p_getN (v := .int (nI (f 4 8))) hX C hE 4 (by first | omega | (simp [up2, *]; done) | (simp [up2, *]; omega) | (simp only [up2_eq]; omega)) (by decide) qn_X2_50 rfl rfl dX2_exchangeForSpare_46 ?_
  refine r_istore C dX2_exchangeForSpare_49 (by decide) rfl ?_
  refine r_aload C dX2_exchangeForSpare_51 rfl ?_
  refine p_getN (v := .ref (a 2 (f 0 (f 1 w)))) hX C hE 0 (by first | omega | (simp [up2, *]; done) | (simp [up2, *]; omega) | (simp only [up2_eq]; omega)) (by decide) qn_X2_18 rfl rfl dX2_exchangeForSpare_53 ?_
  refine r_iload C dX2_exchangeForSpare_56 rfl ?_
  refine r_aload C dX2_exchangeForSpare_58 rfl ?_
  refine p_getN (v := .ref (a 2 (f 0 (f 1 w)))) hX C hE 0 (by first | omega | (simp [up2, *]; done) | (simp [up2, *]; omega) | (simp only [up2_eq]; omega)) (by decide) qn_X2_18 rfl rfl dX2_exchangeForSpare_60 ?_
  refine r_iload C dX2_exchangeForSpare_63 rfl ?_
  refine r_iload C dX2_exchangeForSpare_65 rfl ?_
  refine r_iaddN C dX2_exchangeForSpare_67 ?_
  refine r_aload C dX2_exchangeForSpare_68 rfl ?_
  refine p_getN (v := .int (nI (f 4 (f 1 w)))) hX C hE 4 (by first | omega | (simp [up2, *]; done) | (simp [up2, *]; omega) | (simp only [up2_eq]; omega)) (by decide) qn_X2_50 rfl rfl dX2_exchangeForSpare_70 ?_
  refine r_iload C dX2_exchangeForSpare_73 rfl ?_
  refine r_isubN C dX2_exchangeForSpare_75 (by first | omega | (simp [up2, *]; done) | (simp [up2, *]; omega) | (simp only [up2_eq]; omega)) ?_
  refine s_copy (j0 := (f 0 (f 1 w))) (j1 := (f 0 (f 1 w))) (sp := ((f 3 w) + q0)) (dp := (((f 3 w) + p0) + (f 4 8))) (n := ((f 4 (f 1 w)) - ((f 3 w) + q0))) (st := []) C qm_X2_299 (by first | omega | (simp [up2, *]; done) | (simp [up2, *]; omega) | (simp only [up2_eq]; omega)) (by first | omega | (simp [up2, *]; done) | (simp [up2, *]; omega) | (simp only [up2_eq]; omega)) (by first | omega | (simp [up2, *]; done) | (simp [up2, *]; omega) | (simp only [up2_eq]; omega)) (by first | omega | (simp [up2, *]; done) | (simp [up2, *]; omega) | (simp only [up2_eq]; omega)) (by decide) (Nat.le_of_ble_eq_true rfl) dX2_exchangeForSpare_76 ?_
  refine r_aload_n C dX2_exchangeForSpare_79 rfl ?_
  refine s_get C 2 (by decide) qf_X2_29 rfl rfl dX2_exchangeForSpare_80 ?_
  refine p_getN (v := .ref (a 2 (f 0 8))) hX C hE 0 (by first | omega | (simp [up2, *]; done) | (simp [up2, *]; omega) | (simp only [up2_eq]; omega)) (by decide) qn_X2_18 rfl rfl dX2_exchangeForSpare_83 ?_
  refine r_iconst (v := (nI 0)) C dX2_exchangeForSpare_86 (by decide) ?_
  refine r_aload C dX2_exchangeForSpare_87 rfl ?_
  refine p_getN (v := .ref (a 2 (f 0 (f 1 w)))) hX C hE 0 (by first | omega | (simp [up2, *]; done) | (simp [up2, *]; omega) | (simp only [up2_eq]; omega)) (by decide) qn_X2_18 rfl rfl dX2_exchangeForSpare_89 ?_
  refine r_iload C dX2_exchangeForSpare_92 rfl ?_
  refine r_iload C dX2_exchangeForSpare_94 rfl ?_
  refine s_copy (j0 := (f 0 8)) (j1 := (f 0 (f 1 w))) (sp := 0) (dp := ((f 3 w) + p0)) (n := (f 4 8)) (st := []) C qm_X2_299 (by first | omega | (simp [up2, *]; done) | (simp [up2, *]; omega) | (simp only [up2_eq]; omega)) (by first | omega | (simp [up2, *]; done) | (simp [up2, *]; omega) | (simp only [up2_eq]; omega)) (by first | omega | (simp [up2, *]; done) | (simp [up2, *]; omega) | (simp only [up2_eq]; omega)) (by first | omega | (simp [up2, *]; done) | (simp [up2, *]; omega) | (simp only [up2_eq]; omega)) (by decide) (Nat.le_of_ble_eq_true rfl) dX2_exchangeForSpare_96 ?_
  refine r_iconst (v := (nI 0)) C dX2_exchangeForSpare_99 (by decide) ?_
  refine r_istore C dX2_exchangeForSpare_100 (by decide) rfl ?_
  refine r_w (congrArg (fun z => WC cy a z (exR f r w p0 q0 (f 4 8)) kn ++ Y) (exL_0 f w (f 4 8) (q0 - p0)).symm) ?_
  have L102 : ∀ (d : Nat) (k : Nat), (hk : k + d = 8) → vC p l e (rmz 1 60) s m args below meth c D A (vx_MQ below (vG (fun v1 w1 => v1 = none ∧ w1 = WC cy a (exL f w (f 4 8) (q0 - p0) 8) (exR f r w p0 q0 (f 4 8)) kn ++ Y) D vwCl A) (vGX (fun _ => False) D vwCl (WC cy a f r kn ++ Y) A) args s (rmz 1 60).cells (rmz 1 60).slots A) 9 0 0 (WC cy a (exL f w (f 4 8) (q0 - p0) k) (exR f r w p0 q0 (f 4 8)) kn ++ Y) [some (.ref (a 0 0)), some (.int (nI w)), some (.int (nI p0)), some (.int (nI q0)), some (.ref (a 1 (f 1 w))), some (.int (nI (f 3 w + p0))), some (.int (nI (f 3 w + q0))), some (.int (nI (f 4 8))), some (.int (nI k))] 102 [] := by
    intro d
    induction d with
    | zero =>
      intro k hk
      refine r_iload C dX2_exchangeForSpare_102 rfl ?_
      refine r_bipush (v := (nI 8)) C dX2_exchangeForSpare_104 (by decide) ?_
      refine r_icN_ge (a := k) (b := 8) (tgt := 146) C (by first | omega | (simp [up2, *]; done) | (simp [up2, *]; omega) | (simp only [up2_eq]; omega)) (by first | omega | (simp [up2, *]; done) | (simp [up2, *]; omega) | (simp only [up2_eq]; omega)) dX2_exchangeForSpare_106 (by decide) (fun h106_1 => ?_) (fun h106_1 => ?_)
      · first
        | exfalso; first | omega | contradiction
        | skip
          have e8 : k = 8 := by omega
          subst e8
          exact r_vret C hr dX2_exchangeForSpare_146 ⟨rfl, rfl⟩ (Nat.le_of_ble_eq_true rfl) (Nat.le_of_ble_eq_true rfl)
      · first
        | exfalso; first | omega | contradiction
        | skip
          refine r_aload_n C dX2_exchangeForSpare_109 rfl ?_
          refine r_iload C dX2_exchangeForSpare_110 rfl ?_
          refine r_iload_n C dX2_exchangeForSpare_112 rfl ?_
          refine d_V (st := []) hX.stb C hE (C_isHolder (f := (exL f w (f 4 8) (q0 - p0) k)) (r := (exR f r w p0 q0 (f 4 8))) (kn := kn) (h := k) (w := w) hX (by first | omega | (simp [up2, *]; done) | (simp [up2, *]; omega) | (simp only [up2_eq]; omega)) (by first | omega | (simp [up2, *]; done) | (simp [up2, *]; omega) | (simp only [up2_eq]; omega)) hG) pk_X2_isHolder qm_X2_182 0 6 rfl rfl wc_0 rfl rfl (Nat.le_of_ble_eq_true rfl) dX2_exchangeForSpare_113 ⟨Nat.le_of_ble_eq_true rfl, Nat.le_of_ble_eq_true rfl⟩ ⟨Nat.le_of_ble_eq_true rfl, Nat.le_of_ble_eq_true rfl⟩ ?_
          refine r_ifN_eq (a := (hol f k w)) (tgt := 140) C (Nat.lt_of_le_of_lt (hol_le _ _ _) (by decide)) dX2_exchangeForSpare_116 (by decide) (fun h116_2 => ?_) (fun h116_2 => ?_)
          · first
            | exfalso; first | omega | contradiction
            | skip
              refine r_iincN C dX2_exchangeForSpare_140 rfl (by decide) rfl ?_
              refine r_goto (tgt := 102) C dX2_exchangeForSpare_143 (by decide) ?_
              refine r_w (congrArg (fun z => WC cy a z (exR f r w p0 q0 (f 4 8)) kn ++ Y) (exL_no (by assumption))) ?_
              exact (Nat.not_lt_zero _ (by omega)).elim
          · first
            | exfalso; first | omega | contradiction
            | skip
              refine r_aload_n C dX2_exchangeForSpare_119 rfl ?_
              refine s_get C 0 (by decide) qf_X2_11 rfl rfl dX2_exchangeForSpare_120 ?_
              refine r_iload C dX2_exchangeForSpare_123 rfl ?_
              refine s_parts C (by first | omega | (simp [up2, *]; done) | (simp [up2, *]; omega) | (simp only [up2_eq]; omega)) dX2_exchangeForSpare_125 ?_
              refine r_dup C dX2_exchangeForSpare_126 rfl ?_
              refine p_getN (v := .int (nI (f 4 k))) hX C hE 4 (by first | omega | (simp [up2, *]; done) | (simp [up2, *]; omega) | (simp only [up2_eq]; omega)) (by decide) qn_X2_50 rfl (congrArg (fun z => some (Value.int (nI z))) (show (exL f w (f 4 8) (q0 - p0) k) 4 k = f 4 k by simp [up2, exL_at, dmF_at, *])) dX2_exchangeForSpare_127 ?_
              refine r_iload C dX2_exchangeForSpare_130 rfl ?_
              refine r_iload_n C dX2_exchangeForSpare_132 rfl ?_
              refine r_iload_n C dX2_exchangeForSpare_133 rfl ?_
              refine r_isubN C dX2_exchangeForSpare_134 (by first | omega | (simp [up2, *]; done) | (simp [up2, *]; omega) | (simp only [up2_eq]; omega)) ?_
              refine r_isub C dX2_exchangeForSpare_135 ?_
              refine r_iadd C dX2_exchangeForSpare_136 ?_
              refine r_eqi (nI_adj (by have h7 := hhol k (by omega) (by assumption); omega)) ?_
              refine p_putN hX C hE 4 (by first | omega | (simp [up2, *]; done) | (simp [up2, *]; omega) | (simp only [up2_eq]; omega)) (by decide) (by decide) qn_X2_50 rfl rfl rfl dX2_exchangeForSpare_137 ?_
              refine r_iincN C dX2_exchangeForSpare_140 rfl (by decide) rfl ?_
              refine r_goto (tgt := 102) C dX2_exchangeForSpare_143 (by decide) ?_
              refine r_w (congrArg (fun z => WC cy a z (exR f r w p0 q0 (f 4 8)) kn ++ Y) (exL_yes (by assumption))) ?_
              exact (Nat.not_lt_zero _ (by omega)).elim
    | succ d ih_L102 =>
      intro k hk
      refine r_iload C dX2_exchangeForSpare_102 rfl ?_
      refine r_bipush (v := (nI 8)) C dX2_exchangeForSpare_104 (by decide) ?_
      refine r_icN_ge (a := k) (b := 8) (tgt := 146) C (by first | omega | (simp [up2, *]; done) | (simp [up2, *]; omega) | (simp only [up2_eq]; omega)) (by first | omega | (simp [up2, *]; done) | (simp [up2, *]; omega) | (simp only [up2_eq]; omega)) dX2_exchangeForSpare_106 (by decide) (fun h106_3 => ?_) (fun h106_3 => ?_)
      · first
        | exfalso; first | omega | contradiction
        | skip
          have e8 : k = 8 := by omega
          subst e8
          exact r_vret C hr dX2_exchangeForSpare_146 ⟨rfl, rfl⟩ (Nat.le_of_ble_eq_true rfl) (Nat.le_of_ble_eq_true rfl)
      · first
        | exfalso; first | omega | contradiction
        | skip
          refine r_aload_n C dX2_exchangeForSpare_109 rfl ?_
          refine r_iload C dX2_exchangeForSpare_110 rfl ?_
          refine r_iload_n C dX2_exchangeForSpare_112 rfl ?_
          refine d_V (st := []) hX.stb C hE (C_isHolder (f := (exL f w (f 4 8) (q0 - p0) k)) (r := (exR f r w p0 q0 (f 4 8))) (kn := kn) (h := k) (w := w) hX (by first | omega | (simp [up2, *]; done) | (simp [up2, *]; omega) | (simp only [up2_eq]; omega)) (by first | omega | (simp [up2, *]; done) | (simp [up2, *]; omega) | (simp only [up2_eq]; omega)) hG) pk_X2_isHolder qm_X2_182 0 6 rfl rfl wc_0 rfl rfl (Nat.le_of_ble_eq_true rfl) dX2_exchangeForSpare_113 ⟨Nat.le_of_ble_eq_true rfl, Nat.le_of_ble_eq_true rfl⟩ ⟨Nat.le_of_ble_eq_true rfl, Nat.le_of_ble_eq_true rfl⟩ ?_
          refine r_ifN_eq (a := (hol f k w)) (tgt := 140) C (Nat.lt_of_le_of_lt (hol_le _ _ _) (by decide)) dX2_exchangeForSpare_116 (by decide) (fun h116_4 => ?_) (fun h116_4 => ?_)
          · first
            | exfalso; first | omega | contradiction
            | skip
              refine r_iincN C dX2_exchangeForSpare_140 rfl (by decide) rfl ?_
              refine r_goto (tgt := 102) C dX2_exchangeForSpare_143 (by decide) ?_
              refine r_w (congrArg (fun z => WC cy a z (exR f r w p0 q0 (f 4 8)) kn ++ Y) (exL_no (by assumption))) ?_
              exact ih_L102 (k + 1) (by omega)
          · first
            | exfalso; first | omega | contradiction
            | skip
              refine r_aload_n C dX2_exchangeForSpare_119 rfl ?_
              refine s_get C 0 (by decide) qf_X2_11 rfl rfl dX2_exchangeForSpare_120 ?_
              refine r_iload C dX2_exchangeForSpare_123 rfl ?_
              refine s_parts C (by first | omega | (simp [up2, *]; done) | (simp [up2, *]; omega) | (simp only [up2_eq]; omega)) dX2_exchangeForSpare_125 ?_
              refine r_dup C dX2_exchangeForSpare_126 rfl ?_
              refine p_getN (v := .int (nI (f 4 k))) hX C hE 4 (by first | omega | (simp [up2, *]; done) | (simp [up2, *]; omega) | (simp only [up2_eq]; omega)) (by decide) qn_X2_50 rfl (congrArg (fun z => some (Value.int (nI z))) (show (exL f w (f 4 8) (q0 - p0) k) 4 k = f 4 k by simp [up2, exL_at, dmF_at, *])) dX2_exchangeForSpare_127 ?_
              refine r_iload C dX2_exchangeForSpare_130 rfl ?_
              refine r_iload_n C dX2_exchangeForSpare_132 rfl ?_
              refine r_iload_n C dX2_exchangeForSpare_133 rfl ?_
              refine r_isubN C dX2_exchangeForSpare_134 (by first | omega | (simp [up2, *]; done) | (simp [up2, *]; omega) | (simp only [up2_eq]; omega)) ?_
              refine r_isub C dX2_exchangeForSpare_135 ?_
              refine r_iadd C dX2_exchangeForSpare_136 ?_
              refine r_eqi (nI_adj (by have h7 := hhol k (by omega) (by assumption); omega)) ?_
              refine p_putN hX C hE 4 (by first | omega | (simp [up2, *]; done) | (simp [up2, *]; omega) | (simp only [up2_eq]; omega)) (by decide) (by decide) qn_X2_50 rfl rfl rfl dX2_exchangeForSpare_137 ?_
              refine r_iincN C dX2_exchangeForSpare_140 rfl (by decide) rfl ?_
              refine r_goto (tgt := 102) C dX2_exchangeForSpare_143 (by decide) ?_
              refine r_w (congrArg (fun z => WC cy a z (exR f r w p0 q0 (f 4 8)) kn ++ Y) (exL_yes (by assumption))) ?_
              exact ih_L102 (k + 1) (by omega)
  exact L102 8 0 rfl
theorem pk_X1_append : PkV RX1 yX1_append cX1_append 2 none 1 := ⟨⟨qi_X1_append, qs_X1_append, qz_X1, qc_X1_append⟩, rfl, mh_X1.1, mh_X1.2, pd_6⟩
theorem pk_X2_exchangeForSpare : PkV RX2 yX2_exchangeForSpare cX2_exchangeForSpare 9 none 3 := ⟨⟨qi_X2_exchangeForSpare, qs_X2_exchangeForSpare, qz_X2, qc_X2_exchangeForSpare⟩, rfl, mh_X2.1, mh_X2.2, pd_7⟩
theorem pk_X2_settle : PkV RX2 yX2_settle cX2_settle 5 none 2 := ⟨⟨qi_X2_settle, qs_X2_settle, qz_X2, qc_X2_settle⟩, rfl, mh_X2.1, mh_X2.2, pd_2⟩
theorem dX2_putIn_0 : decode cX2_putIn 0 = .ok (.aload_n 0, 1) := dqo_42 (kb_of ke_X2_putIn 0 rfl)
theorem dX2_putIn_1 : decode cX2_putIn 1 = .ok (.getfield 29, 3) := dqo_180 0 29 (kb_of ke_X2_putIn 1 rfl) (kb_of ke_X2_putIn 2 rfl) (kb_of ke_X2_putIn 3 rfl)
theorem dX2_putIn_4 : decode cX2_putIn 4 = .ok (.iconst 0, 1) := dqo_3 (kb_of ke_X2_putIn 4 rfl)
theorem dX2_putIn_5 : decode cX2_putIn 5 = .ok (.putfield 50, 3) := dqo_181 0 50 (kb_of ke_X2_putIn 5 rfl) (kb_of ke_X2_putIn 6 rfl) (kb_of ke_X2_putIn 7 rfl)
theorem dX2_putIn_8 : decode cX2_putIn 8 = .ok (.aload_n 0, 1) := dqo_42 (kb_of ke_X2_putIn 8 rfl)
theorem dX2_putIn_9 : decode cX2_putIn 9 = .ok (.getfield 29, 3) := dqo_180 0 29 (kb_of ke_X2_putIn 9 rfl) (kb_of ke_X2_putIn 10 rfl) (kb_of ke_X2_putIn 11 rfl)
theorem dX2_putIn_12 : decode cX2_putIn 12 = .ok (.iload_n 3, 1) := dqo_29 (kb_of ke_X2_putIn 12 rfl)
theorem dX2_putIn_13 : decode cX2_putIn 13 = .ok (.invokevirtual 141, 3) := dqo_182 0 141 (kb_of ke_X2_putIn 13 rfl) (kb_of ke_X2_putIn 14 rfl) (kb_of ke_X2_putIn 15 rfl)
theorem dX2_putIn_16 : decode cX2_putIn 16 = .ok (.aload_n 0, 1) := dqo_42 (kb_of ke_X2_putIn 16 rfl)
theorem dX2_putIn_17 : decode cX2_putIn 17 = .ok (.iload_n 1, 1) := dqo_27 (kb_of ke_X2_putIn 17 rfl)
theorem dX2_putIn_18 : decode cX2_putIn 18 = .ok (.iload_n 2, 1) := dqo_28 (kb_of ke_X2_putIn 18 rfl)
theorem dX2_putIn_19 : decode cX2_putIn 19 = .ok (.iload_n 2, 1) := dqo_28 (kb_of ke_X2_putIn 19 rfl)
theorem dX2_putIn_20 : decode cX2_putIn 20 = .ok (.invokevirtual 83, 3) := dqo_182 0 83 (kb_of ke_X2_putIn 20 rfl) (kb_of ke_X2_putIn 21 rfl) (kb_of ke_X2_putIn 22 rfl)
theorem dX2_putIn_23 : decode cX2_putIn 23 = .ok (.aload_n 0, 1) := dqo_42 (kb_of ke_X2_putIn 23 rfl)
theorem dX2_putIn_24 : decode cX2_putIn 24 = .ok (.iload_n 1, 1) := dqo_27 (kb_of ke_X2_putIn 24 rfl)
theorem dX2_putIn_25 : decode cX2_putIn 25 = .ok (.iload 4, 2) := dqo_21 4 (kb_of ke_X2_putIn 25 rfl) (kb_of ke_X2_putIn 26 rfl)
theorem dX2_putIn_27 : decode cX2_putIn 27 = .ok (.invokevirtual 87, 3) := dqo_182 0 87 (kb_of ke_X2_putIn 27 rfl) (kb_of ke_X2_putIn 28 rfl) (kb_of ke_X2_putIn 29 rfl)
theorem dX2_putIn_30 : decode cX2_putIn 30 = .ok (.return_, 1) := dqo_177 (kb_of ke_X2_putIn 30 rfl)
set_option maxRecDepth 100000 in
set_option maxHeartbeats 4000000 in
theorem C_putIn {l : Launch} {D : va_G} {cy : Nat → ClassId} {X : (Nat → Prop) → State → Heap → Prop} {a f : Nat → Nat → Nat} {r : Nat → Nat → Int32} {kn : Int32} {Y : va_W} {w : Nat} {k : Nat} {x : Int32} {d0 : Nat} (hX : EnvX X) (hw : w < 8) (h1 : ∀ i, i < 8 → f 1 i < 4) (hG : ∀ i, i < 8 → f 2 i < 8 ∨ f 2 i = 4294967295) (hI : ∀ i, i < 4 → f 0 i < 7) (hI8 : f 0 8 < 7) (h38 : f 3 8 = 0) (hkk : f 3 w + k ≤ f 4 (f 1 w)) (hrow : f 4 (f 1 w) < 12) (hhol : ∀ i, i < 8 → hol f i w ≠ 0 → f 4 i ≤ 12) (hd : d0 < 4294967296) (hU : ∀ k, k < 3 → f 6 k < 8) : Cd l D cy X yX2_putIn cX2_putIn 5 none (rmz 2 90) [.ref (a 0 0), .int (nI w), .int (nI k), .int x, .int (nI d0)] (WC cy a f r kn ++ Y) none (WC cy a (settleF (exL (up2 f 4 8 1) w 1 0 8) w d0) (exR (up2 f 4 8 1) (up2 r (f 0 8) 0 x) w k k 1) kn ++ Y) := by
  have hr1 := h1 w hw
  refine Cm.of [some (.ref (a 0 0)), some (.int (nI w)), some (.int (nI k)), some (.int x), some (.int (nI d0))] pn_X2 rfl (Nat.le_of_ble_eq_true rfl) ?_
  intro p e s m args below meth c A C hE hr hnt hn
  refine r_aload_n C dX2_putIn_0 rfl ?_
  refine s_get C 2 (by decide) qf_X2_29 rfl rfl dX2_putIn_1 ?_
  refine r_iconst (v := (nI 0)) C dX2_putIn_4 (by decide) ?_
  refine p_putN hX C hE 4 (by first | omega | (simp [up2, *]; done) | (simp [up2, *]; omega) | (simp only [up2_eq]; omega)) (by decide) (by decide) qn_X2_50 rfl rfl rfl dX2_putIn_5 ?_
  refine r_aload_n C dX2_putIn_8 rfl ?_
  refine s_get C 2 (by decide) qf_X2_29 rfl rfl dX2_putIn_9 ?_
  refine r_iload_n C dX2_putIn_12 rfl ?_
  refine d_Vv (st := []) hX.stb C hE (C_append (f := (up2 f 4 8 0)) (r := r) (kn := kn) (i := 8) (x := (x)) hX (by first | omega | (simp [up2, *]; done) | (simp [up2, *]; omega) | (simp only [up2_eq]; omega)) (by first | omega | (simp [up2, *]; done) | (simp [up2, *]; omega) | (simp only [up2_eq]; omega)) (by first | omega | (simp [up2, *]; done) | (simp [up2, *]; omega) | (simp only [up2_eq]; omega))) pk_X1_append qm_X2_141 (3 + 8) 5 rfl rfl (wc_p (by first | omega | (simp [up2, *]; done) | (simp [up2, *]; omega) | (simp only [up2_eq]; omega))) rfl rfl (Nat.le_of_ble_eq_true rfl) dX2_putIn_13 ⟨Nat.le_of_ble_eq_true rfl, Nat.le_of_ble_eq_true rfl⟩ ⟨Nat.le_of_ble_eq_true rfl, Nat.le_of_ble_eq_true rfl⟩ ?_
  refine r_w (congrArg (fun z => WC cy a z (up2 r (f 0 8) (0) (x)) kn ++ Y) (up2_up2 f 4 8 0 (0 + 1))) ?_
  refine r_aload_n C dX2_putIn_16 rfl ?_
  refine r_iload_n C dX2_putIn_17 rfl ?_
  refine r_iload_n C dX2_putIn_18 rfl ?_
  refine r_iload_n C dX2_putIn_19 rfl ?_
  refine d_Vv (st := []) hX.stb C hE (C_exchange (f := (up2 f 4 8 1)) (r := (up2 r (f 0 8) 0 x)) (kn := kn) (w := w) (p0 := k) (q0 := k) hX (by first | omega | (simp [up2, *]; done) | (simp [up2, *]; omega) | (simp only [up2_eq]; omega)) h1 hG hI hI8 h38 (Nat.le_refl _) (show f 3 w + k ≤ up2 f 4 8 1 4 (f 1 w) by rw [up2_i _ _ _ _ (by omega)]; exact hkk) (show up2 f 4 8 1 4 (f 1 w) ≤ 12 by rw [up2_i _ _ _ _ (by omega)]; omega) (show up2 f 4 8 1 4 8 ≤ 12 by rw [up2_eq]; omega) (show up2 f 4 8 1 4 (f 1 w) + up2 f 4 8 1 4 8 ≤ 12 + (k - k) by rw [up2_i _ _ _ _ (by omega), up2_eq]; omega) (fun i hi h => ⟨by rw [Nat.sub_self]; exact Nat.zero_le _, by have h6 := hhol i hi h; rw [up2_i _ _ _ _ (by omega)]; exact h6⟩)) pk_X2_exchangeForSpare qm_X2_83 0 6 rfl rfl wc_0 rfl rfl (Nat.le_of_ble_eq_true rfl) dX2_putIn_20 ⟨Nat.le_of_ble_eq_true rfl, Nat.le_of_ble_eq_true rfl⟩ ⟨Nat.le_of_ble_eq_true rfl, Nat.le_of_ble_eq_true rfl⟩ ?_
  refine r_w (congrArg (fun z => WC cy a z (exR (up2 f 4 8 1) (up2 r (f 0 8) 0 x) w k k ((up2 f 4 8 1) 4 8)) kn ++ Y) (show exL (up2 f 4 8 1) w (up2 f 4 8 1 4 8) (k - k) 8 = exL (up2 f 4 8 1) w 1 0 8 by rw [up2_eq, Nat.sub_self])) ?_
  refine r_w (congrArg (fun z => WC cy a (exL (up2 f 4 8 1) w 1 0 8) z kn ++ Y) (show _ = exR (up2 f 4 8 1) (up2 r (f 0 8) 0 x) w k k 1 by rw [up2_eq])) ?_
  refine r_aload_n C dX2_putIn_23 rfl ?_
  refine r_iload_n C dX2_putIn_24 rfl ?_
  refine r_iload C dX2_putIn_25 rfl ?_
  refine d_Vv (st := []) hX.stb C hE (C_settle (f := (exL (up2 f 4 8 1) w 1 0 8)) (r := (exR (up2 f 4 8 1) (up2 r (f 0 8) 0 x) w k k 1)) (kn := kn) (w := w) (d0 := d0) hX (by first | omega | (simp [up2, *]; done) | (simp [up2, *]; omega) | (simp only [up2_eq]; omega)) (by first | omega | (simp [up2, *]; done) | (simp [up2, *]; omega) | (simp only [up2_eq]; omega)) h1 hU hG) pk_X2_settle qm_X2_87 0 6 rfl rfl wc_0 rfl rfl (Nat.le_of_ble_eq_true rfl) dX2_putIn_27 ⟨Nat.le_of_ble_eq_true rfl, Nat.le_of_ble_eq_true rfl⟩ ⟨Nat.le_of_ble_eq_true rfl, Nat.le_of_ble_eq_true rfl⟩ ?_
  exact r_vret C hr dX2_putIn_30 ⟨rfl, rfl⟩ (Nat.le_of_ble_eq_true rfl) (Nat.le_of_ble_eq_true rfl)
theorem dX2_takeOut_0 : decode cX2_takeOut 0 = .ok (.aload_n 0, 1) := dqo_42 (kb_of ke_X2_takeOut 0 rfl)
theorem dX2_takeOut_1 : decode cX2_takeOut 1 = .ok (.getfield 29, 3) := dqo_180 0 29 (kb_of ke_X2_takeOut 1 rfl) (kb_of ke_X2_takeOut 2 rfl) (kb_of ke_X2_takeOut 3 rfl)
theorem dX2_takeOut_4 : decode cX2_takeOut 4 = .ok (.iconst 0, 1) := dqo_3 (kb_of ke_X2_takeOut 4 rfl)
theorem dX2_takeOut_5 : decode cX2_takeOut 5 = .ok (.putfield 50, 3) := dqo_181 0 50 (kb_of ke_X2_takeOut 5 rfl) (kb_of ke_X2_takeOut 6 rfl) (kb_of ke_X2_takeOut 7 rfl)
theorem dX2_takeOut_8 : decode cX2_takeOut 8 = .ok (.aload_n 0, 1) := dqo_42 (kb_of ke_X2_takeOut 8 rfl)
theorem dX2_takeOut_9 : decode cX2_takeOut 9 = .ok (.iload_n 1, 1) := dqo_27 (kb_of ke_X2_takeOut 9 rfl)
theorem dX2_takeOut_10 : decode cX2_takeOut 10 = .ok (.iload_n 2, 1) := dqo_28 (kb_of ke_X2_takeOut 10 rfl)
theorem dX2_takeOut_11 : decode cX2_takeOut 11 = .ok (.iload_n 3, 1) := dqo_29 (kb_of ke_X2_takeOut 11 rfl)
theorem dX2_takeOut_12 : decode cX2_takeOut 12 = .ok (.invokevirtual 83, 3) := dqo_182 0 83 (kb_of ke_X2_takeOut 12 rfl) (kb_of ke_X2_takeOut 13 rfl) (kb_of ke_X2_takeOut 14 rfl)
theorem dX2_takeOut_15 : decode cX2_takeOut 15 = .ok (.aload_n 0, 1) := dqo_42 (kb_of ke_X2_takeOut 15 rfl)
theorem dX2_takeOut_16 : decode cX2_takeOut 16 = .ok (.iload_n 1, 1) := dqo_27 (kb_of ke_X2_takeOut 16 rfl)
theorem dX2_takeOut_17 : decode cX2_takeOut 17 = .ok (.iload 4, 2) := dqo_21 4 (kb_of ke_X2_takeOut 17 rfl) (kb_of ke_X2_takeOut 18 rfl)
theorem dX2_takeOut_19 : decode cX2_takeOut 19 = .ok (.invokevirtual 87, 3) := dqo_182 0 87 (kb_of ke_X2_takeOut 19 rfl) (kb_of ke_X2_takeOut 20 rfl) (kb_of ke_X2_takeOut 21 rfl)
theorem dX2_takeOut_22 : decode cX2_takeOut 22 = .ok (.return_, 1) := dqo_177 (kb_of ke_X2_takeOut 22 rfl)
set_option maxRecDepth 100000 in
set_option maxHeartbeats 4000000 in
theorem C_takeOut {l : Launch} {D : va_G} {cy : Nat → ClassId} {X : (Nat → Prop) → State → Heap → Prop} {a f : Nat → Nat → Nat} {r : Nat → Nat → Int32} {kn : Int32} {Y : va_W} {w : Nat} {p0 : Nat} {q0 : Nat} {d0 : Nat} (hX : EnvX X) (hw : w < 8) (h1 : ∀ i, i < 8 → f 1 i < 4) (hG : ∀ i, i < 8 → f 2 i < 8 ∨ f 2 i = 4294967295) (hI : ∀ i, i < 4 → f 0 i < 7) (hI8 : f 0 8 < 7) (h38 : f 3 8 = 0) (hp : p0 ≤ q0) (hq : f 3 w + q0 ≤ f 4 (f 1 w)) (hrow : f 4 (f 1 w) ≤ 12) (hhol : ∀ i, i < 8 → hol f i w ≠ 0 → q0 - p0 ≤ f 4 i ∧ f 4 i ≤ 12) (hd : d0 < 4294967296) (hU : ∀ k, k < 3 → f 6 k < 8) : Cd l D cy X yX2_takeOut cX2_takeOut 5 none (rmz 2 90) [.ref (a 0 0), .int (nI w), .int (nI p0), .int (nI q0), .int (nI d0)] (WC cy a f r kn ++ Y) none (WC cy a (settleF (exL (up2 f 4 8 0) w 0 (q0 - p0) 8) w d0) (exR (up2 f 4 8 0) r w p0 q0 0) kn ++ Y) := by
  have hr1 := h1 w hw
  refine Cm.of [some (.ref (a 0 0)), some (.int (nI w)), some (.int (nI p0)), some (.int (nI q0)), some (.int (nI d0))] pn_X2 rfl (Nat.le_of_ble_eq_true rfl) ?_
  intro p e s m args below meth c A C hE hr hnt hn
  refine r_aload_n C dX2_takeOut_0 rfl ?_
  refine s_get C 2 (by decide) qf_X2_29 rfl rfl dX2_takeOut_1 ?_
  refine r_iconst (v := (nI 0)) C dX2_takeOut_4 (by decide) ?_
  refine p_putN hX C hE 4 (by first | omega | (simp [up2, *]; done) | (simp [up2, *]; omega) | (simp only [up2_eq]; omega)) (by decide) (by decide) qn_X2_50 rfl rfl rfl dX2_takeOut_5 ?_
  refine r_aload_n C dX2_takeOut_8 rfl ?_
  refine r_iload_n C dX2_takeOut_9 rfl ?_
  refine r_iload_n C dX2_takeOut_10 rfl ?_
  refine r_iload_n C dX2_takeOut_11 rfl ?_
  refine d_Vv (st := []) hX.stb C hE (C_exchange (f := (up2 f 4 8 0)) (r := r) (kn := kn) (w := w) (p0 := p0) (q0 := q0) hX (by first | omega | (simp [up2, *]; done) | (simp [up2, *]; omega) | (simp only [up2_eq]; omega)) h1 hG hI hI8 h38 hp (show f 3 w + q0 ≤ up2 f 4 8 0 4 (f 1 w) by rw [up2_i _ _ _ _ (by omega)]; exact hq) (show up2 f 4 8 0 4 (f 1 w) ≤ 12 by rw [up2_i _ _ _ _ (by omega)]; omega) (show up2 f 4 8 0 4 8 ≤ 12 by rw [up2_eq]; omega) (show up2 f 4 8 0 4 (f 1 w) + up2 f 4 8 0 4 8 ≤ 12 + (q0 - p0) by rw [up2_i _ _ _ _ (by omega), up2_eq]; omega) (fun i hi h => by have h6 := hhol i hi h; rw [up2_i _ _ _ _ (by omega)]; omega)) pk_X2_exchangeForSpare qm_X2_83 0 6 rfl rfl wc_0 rfl rfl (Nat.le_of_ble_eq_true rfl) dX2_takeOut_12 ⟨Nat.le_of_ble_eq_true rfl, Nat.le_of_ble_eq_true rfl⟩ ⟨Nat.le_of_ble_eq_true rfl, Nat.le_of_ble_eq_true rfl⟩ ?_
  refine r_w (congrArg (fun z => WC cy a z (exR (up2 f 4 8 0) r w p0 q0 ((up2 f 4 8 0) 4 8)) kn ++ Y) (show exL (up2 f 4 8 0) w (up2 f 4 8 0 4 8) (q0 - p0) 8 = exL (up2 f 4 8 0) w 0 (q0 - p0) 8 by rw [up2_eq])) ?_
  refine r_w (congrArg (fun z => WC cy a (exL (up2 f 4 8 0) w 0 (q0 - p0) 8) z kn ++ Y) (show _ = exR (up2 f 4 8 0) r w p0 q0 0 by rw [up2_eq])) ?_
  refine r_aload_n C dX2_takeOut_15 rfl ?_
  refine r_iload_n C dX2_takeOut_16 rfl ?_
  refine r_iload C dX2_takeOut_17 rfl ?_
  refine d_Vv (st := []) hX.stb C hE (C_settle (f := (exL (up2 f 4 8 0) w 0 (q0 - p0) 8)) (r := (exR (up2 f 4 8 0) r w p0 q0 0)) (kn := kn) (w := w) (d0 := d0) hX (by first | omega | (simp [up2, *]; done) | (simp [up2, *]; omega) | (simp only [up2_eq]; omega)) (by first | omega | (simp [up2, *]; done) | (simp [up2, *]; omega) | (simp only [up2_eq]; omega)) h1 hU hG) pk_X2_settle qm_X2_87 0 6 rfl rfl wc_0 rfl rfl (Nat.le_of_ble_eq_true rfl) dX2_takeOut_19 ⟨Nat.le_of_ble_eq_true rfl, Nat.le_of_ble_eq_true rfl⟩ ⟨Nat.le_of_ble_eq_true rfl, Nat.le_of_ble_eq_true rfl⟩ ?_
  exact r_vret C hr dX2_takeOut_22 ⟨rfl, rfl⟩ (Nat.le_of_ble_eq_true rfl) (Nat.le_of_ble_eq_true rfl)
theorem dX2_becomeSpare_0 : decode cX2_becomeSpare 0 = .ok (.aload_n 0, 1) := dqo_42 (kb_of ke_X2_becomeSpare 0 rfl)
theorem dX2_becomeSpare_1 : decode cX2_becomeSpare 1 = .ok (.getfield 11, 3) := dqo_180 0 11 (kb_of ke_X2_becomeSpare 1 rfl) (kb_of ke_X2_becomeSpare 2 rfl) (kb_of ke_X2_becomeSpare 3 rfl)
theorem dX2_becomeSpare_4 : decode cX2_becomeSpare 4 = .ok (.iload_n 1, 1) := dqo_27 (kb_of ke_X2_becomeSpare 4 rfl)
theorem dX2_becomeSpare_5 : decode cX2_becomeSpare 5 = .ok (.aaload, 1) := dqo_50 (kb_of ke_X2_becomeSpare 5 rfl)
theorem dX2_becomeSpare_6 : decode cX2_becomeSpare 6 = .ok (.aload_n 0, 1) := dqo_42 (kb_of ke_X2_becomeSpare 6 rfl)
theorem dX2_becomeSpare_7 : decode cX2_becomeSpare 7 = .ok (.getfield 29, 3) := dqo_180 0 29 (kb_of ke_X2_becomeSpare 7 rfl) (kb_of ke_X2_becomeSpare 8 rfl) (kb_of ke_X2_becomeSpare 9 rfl)
theorem dX2_becomeSpare_10 : decode cX2_becomeSpare 10 = .ok (.invokevirtual 79, 3) := dqo_182 0 79 (kb_of ke_X2_becomeSpare 10 rfl) (kb_of ke_X2_becomeSpare 11 rfl) (kb_of ke_X2_becomeSpare 12 rfl)
theorem dX2_becomeSpare_13 : decode cX2_becomeSpare 13 = .ok (.aload_n 0, 1) := dqo_42 (kb_of ke_X2_becomeSpare 13 rfl)
theorem dX2_becomeSpare_14 : decode cX2_becomeSpare 14 = .ok (.iload_n 1, 1) := dqo_27 (kb_of ke_X2_becomeSpare 14 rfl)
theorem dX2_becomeSpare_15 : decode cX2_becomeSpare 15 = .ok (.iconst (-1), 1) := dqo_2 (kb_of ke_X2_becomeSpare 15 rfl)
theorem dX2_becomeSpare_16 : decode cX2_becomeSpare 16 = .ok (.invokevirtual 87, 3) := dqo_182 0 87 (kb_of ke_X2_becomeSpare 16 rfl) (kb_of ke_X2_becomeSpare 17 rfl) (kb_of ke_X2_becomeSpare 18 rfl)
theorem dX2_becomeSpare_19 : decode cX2_becomeSpare 19 = .ok (.aload_n 0, 1) := dqo_42 (kb_of ke_X2_becomeSpare 19 rfl)
theorem dX2_becomeSpare_20 : decode cX2_becomeSpare 20 = .ok (.getfield 11, 3) := dqo_180 0 11 (kb_of ke_X2_becomeSpare 20 rfl) (kb_of ke_X2_becomeSpare 21 rfl) (kb_of ke_X2_becomeSpare 22 rfl)
theorem dX2_becomeSpare_23 : decode cX2_becomeSpare 23 = .ok (.iload_n 1, 1) := dqo_27 (kb_of ke_X2_becomeSpare 23 rfl)
theorem dX2_becomeSpare_24 : decode cX2_becomeSpare 24 = .ok (.aaload, 1) := dqo_50 (kb_of ke_X2_becomeSpare 24 rfl)
theorem dX2_becomeSpare_25 : decode cX2_becomeSpare 25 = .ok (.getfield 50, 3) := dqo_180 0 50 (kb_of ke_X2_becomeSpare 25 rfl) (kb_of ke_X2_becomeSpare 26 rfl) (kb_of ke_X2_becomeSpare 27 rfl)
theorem dX2_becomeSpare_28 : decode cX2_becomeSpare 28 = .ok (.ireturn, 1) := dqo_172 (kb_of ke_X2_becomeSpare 28 rfl)
set_option maxRecDepth 100000 in
set_option maxHeartbeats 4000000 in
theorem C_becomeSpare {l : Launch} {D : va_G} {cy : Nat → ClassId} {X : (Nat → Prop) → State → Heap → Prop} {a f : Nat → Nat → Nat} {r : Nat → Nat → Int32} {kn : Int32} {Y : va_W} {i : Nat} (hX : EnvX X) (hi4 : i < 4) (h0 : f 0 i < 7) (h3i : f 3 i = 0) (h1 : ∀ i, i < 8 → f 1 i < 4) (hG : ∀ i, i < 8 → f 2 i < 8 ∨ f 2 i = 4294967295) (hU : ∀ k, k < 3 → f 6 k < 8) (hI8 : f 0 8 < 7) (h38 : f 3 8 = 0) (h48 : f 4 8 ≤ 12) : Cd l D cy X yX2_becomeSpare cX2_becomeSpare 2 (some .int) (rmz 2 90) [.ref (a 0 0), .int (nI i)] (WC cy a f r kn ++ Y) (some (.int (nI (f 4 8)))) (WC cy a (settleF (up2 f 4 i (f 4 8)) i 4294967295) (cpy2 r (f 0 8) (f 3 8) (f 0 i) (f 3 i) (f 4 8)) kn ++ Y) := by
  refine Cm.of [some (.ref (a 0 0)), some (.int (nI i))] pn_X2 rfl (Nat.le_of_ble_eq_true rfl) ?_
  intro p e s m args below meth c A C hE hr hnt hn
  refine r_aload_n C dX2_becomeSpare_0 rfl ?_
  refine s_get C 0 (by decide) qf_X2_11 rfl rfl dX2_becomeSpare_1 ?_
  refine r_iload_n C dX2_becomeSpare_4 rfl ?_
  refine s_parts C (by first | omega | (simp [up2, *]; done) | (simp [up2, *]; omega) | (simp only [up2_eq]; omega)) dX2_becomeSpare_5 ?_
  refine r_aload_n C dX2_becomeSpare_6 rfl ?_
  refine s_get C 2 (by decide) qf_X2_29 rfl rfl dX2_becomeSpare_7 ?_
  refine d_Vv (st := []) hX.stb C hE (C_becomeLike (f := f) (r := r) (kn := kn) (i := i) (j := 8) hX (by first | omega | (simp [up2, *]; done) | (simp [up2, *]; omega) | (simp only [up2_eq]; omega)) (by first | omega | (simp [up2, *]; done) | (simp [up2, *]; omega) | (simp only [up2_eq]; omega)) (by first | omega | (simp [up2, *]; done) | (simp [up2, *]; omega) | (simp only [up2_eq]; omega)) (by first | omega | (simp [up2, *]; done) | (simp [up2, *]; omega) | (simp only [up2_eq]; omega)) (by omega) (by omega)) pk_X1_becomeLike qm_X2_79 (3 + i) 5 rfl rfl (wc_p (by first | omega | (simp [up2, *]; done) | (simp [up2, *]; omega) | (simp only [up2_eq]; omega))) rfl rfl (Nat.le_of_ble_eq_true rfl) dX2_becomeSpare_10 ⟨Nat.le_of_ble_eq_true rfl, Nat.le_of_ble_eq_true rfl⟩ ⟨Nat.le_of_ble_eq_true rfl, Nat.le_of_ble_eq_true rfl⟩ ?_
  refine r_aload_n C dX2_becomeSpare_13 rfl ?_
  refine r_iload_n C dX2_becomeSpare_14 rfl ?_
  refine r_iconst (v := (nI 4294967295)) C dX2_becomeSpare_15 (by decide) ?_
  refine d_Vv (st := []) hX.stb C hE (C_settle (f := (up2 f 4 i (f 4 8))) (r := (cpy2 r (f 0 8) (f 3 8) (f 0 i) (f 3 i) (f 4 8))) (kn := kn) (w := i) (d0 := 4294967295) hX (by first | omega | (simp [up2, *]; done) | (simp [up2, *]; omega) | (simp only [up2_eq]; omega)) (by first | omega | (simp [up2, *]; done) | (simp [up2, *]; omega) | (simp only [up2_eq]; omega)) h1 hU hG) pk_X2_settle qm_X2_87 0 6 rfl rfl wc_0 rfl rfl (Nat.le_of_ble_eq_true rfl) dX2_becomeSpare_16 ⟨Nat.le_of_ble_eq_true rfl, Nat.le_of_ble_eq_true rfl⟩ ⟨Nat.le_of_ble_eq_true rfl, Nat.le_of_ble_eq_true rfl⟩ ?_
  refine r_aload_n C dX2_becomeSpare_19 rfl ?_
  refine s_get C 0 (by decide) qf_X2_11 rfl rfl dX2_becomeSpare_20 ?_
  refine r_iload_n C dX2_becomeSpare_23 rfl ?_
  refine s_parts C (by first | omega | (simp [up2, *]; done) | (simp [up2, *]; omega) | (simp only [up2_eq]; omega)) dX2_becomeSpare_24 ?_
  refine p_getN (v := .int (nI (f 4 8))) hX C hE 4 (by first | omega | (simp [up2, *]; done) | (simp [up2, *]; omega) | (simp only [up2_eq]; omega)) (by decide) qn_X2_50 rfl (congrArg (fun z => some (Value.int (nI z))) (show (up2 f 4 i (f 4 8)) 4 i = f 4 8 by simp [up2, exL_at, dmF_at, *])) dX2_becomeSpare_25 ?_
  exact r_iret C hr dX2_becomeSpare_28 ⟨rfl, rfl⟩ (Nat.le_of_ble_eq_true rfl) (Nat.le_of_ble_eq_true rfl)
theorem pk_X1_has : PkV RX1 yX1_has cX1_has 2 (some .boolean) 1 := ⟨⟨qi_X1_has, qs_X1_has, qz_X1, qc_X1_has⟩, rfl, mh_X1.1, mh_X1.2, pd_8⟩
theorem pk_X2_becomeSpare : PkV RX2 yX2_becomeSpare cX2_becomeSpare 2 (some .int) 1 := ⟨⟨qi_X2_becomeSpare, qs_X2_becomeSpare, qz_X2, qc_X2_becomeSpare⟩, rfl, mh_X2.1, mh_X2.2, pd_1⟩
theorem dX2_sift_0 : decode cX2_sift 0 = .ok (.aload_n 0, 1) := dqo_42 (kb_X2_sift_0 0 rfl)
theorem dX2_sift_1 : decode cX2_sift 1 = .ok (.getfield 11, 3) := dqo_180 0 11 (kb_X2_sift_0 1 rfl) (kb_X2_sift_0 2 rfl) (kb_X2_sift_0 3 rfl)
theorem dX2_sift_4 : decode cX2_sift 4 = .ok (.iload_n 1, 1) := dqo_27 (kb_X2_sift_0 4 rfl)
theorem dX2_sift_5 : decode cX2_sift 5 = .ok (.aaload, 1) := dqo_50 (kb_X2_sift_0 5 rfl)
theorem dX2_sift_6 : decode cX2_sift 6 = .ok (.getfield 50, 3) := dqo_180 0 50 (kb_X2_sift_0 6 rfl) (kb_X2_sift_0 7 rfl) (kb_X2_sift_0 8 rfl)
theorem dX2_sift_9 : decode cX2_sift 9 = .ok (.istore 4, 2) := dqo_54 4 (kb_X2_sift_0 9 rfl) (kb_X2_sift_0 10 rfl)
theorem dX2_sift_11 : decode cX2_sift 11 = .ok (.aload_n 0, 1) := dqo_42 (kb_X2_sift_0 11 rfl)
theorem dX2_sift_12 : decode cX2_sift 12 = .ok (.getfield 29, 3) := dqo_180 0 29 (kb_X2_sift_0 12 rfl) (kb_X2_sift_0 13 rfl) (kb_X2_sift_0 14 rfl)
theorem dX2_sift_15 : decode cX2_sift 15 = .ok (.iconst 0, 1) := dqo_3 (kb_X2_sift_0 15 rfl)
theorem dX2_sift_16 : decode cX2_sift 16 = .ok (.putfield 50, 3) := dqo_181 0 50 (kb_X2_sift_0 16 rfl) (kb_X2_sift_0 17 rfl) (kb_X2_sift_0 18 rfl)
theorem dX2_sift_19 : decode cX2_sift 19 = .ok (.iconst 0, 1) := dqo_3 (kb_X2_sift_0 19 rfl)
theorem dX2_sift_20 : decode cX2_sift 20 = .ok (.istore 5, 2) := dqo_54 5 (kb_X2_sift_0 20 rfl) (kb_X2_sift_0 21 rfl)
theorem dX2_sift_22 : decode cX2_sift 22 = .ok (.iload 5, 2) := dqo_21 5 (kb_X2_sift_0 22 rfl) (kb_X2_sift_0 23 rfl)
theorem dX2_sift_24 : decode cX2_sift 24 = .ok (.iload 4, 2) := dqo_21 4 (kb_X2_sift_0 24 rfl) (kb_X2_sift_0 25 rfl)
theorem dX2_sift_26 : decode cX2_sift 26 = .ok (.if_icmp .ge 46, 3) := dqo_162 0 46 (by decide) (kb_X2_sift_0 26 rfl) (kb_X2_sift_0 27 rfl) (kb_X2_sift_0 28 rfl)
theorem dX2_sift_29 : decode cX2_sift 29 = .ok (.aload_n 0, 1) := dqo_42 (kb_X2_sift_0 29 rfl)
theorem dX2_sift_30 : decode cX2_sift 30 = .ok (.getfield 11, 3) := dqo_180 0 11 (kb_X2_sift_0 30 rfl) (kb_X2_sift_0 31 rfl) (kb_X2_sift_0 32 rfl)
theorem dX2_sift_33 : decode cX2_sift 33 = .ok (.iload_n 1, 1) := dqo_27 (kb_X2_sift_0 33 rfl)
theorem dX2_sift_34 : decode cX2_sift 34 = .ok (.aaload, 1) := dqo_50 (kb_X2_sift_0 34 rfl)
theorem dX2_sift_35 : decode cX2_sift 35 = .ok (.iload 5, 2) := dqo_21 5 (kb_X2_sift_0 35 rfl) (kb_X2_sift_0 36 rfl)
theorem dX2_sift_37 : decode cX2_sift 37 = .ok (.invokevirtual 65, 3) := dqo_182 0 65 (kb_X2_sift_0 37 rfl) (kb_X2_sift_0 38 rfl) (kb_X2_sift_0 39 rfl)
theorem dX2_sift_40 : decode cX2_sift 40 = .ok (.istore 6, 2) := dqo_54 6 (kb_X2_sift_0 40 rfl) (kb_X2_sift_0 41 rfl)
theorem dX2_sift_42 : decode cX2_sift 42 = .ok (.aload_n 0, 1) := dqo_42 (kb_X2_sift_0 42 rfl)
theorem dX2_sift_43 : decode cX2_sift 43 = .ok (.getfield 11, 3) := dqo_180 0 11 (kb_X2_sift_0 43 rfl) (kb_X2_sift_0 44 rfl) (kb_X2_sift_0 45 rfl)
theorem dX2_sift_46 : decode cX2_sift 46 = .ok (.iload_n 2, 1) := dqo_28 (kb_X2_sift_0 46 rfl)
theorem dX2_sift_47 : decode cX2_sift 47 = .ok (.aaload, 1) := dqo_50 (kb_X2_sift_0 47 rfl)
theorem dX2_sift_48 : decode cX2_sift 48 = .ok (.iload 6, 2) := dqo_21 6 (kb_X2_sift_0 48 rfl) (kb_X2_sift_0 49 rfl)
theorem dX2_sift_50 : decode cX2_sift 50 = .ok (.invokevirtual 144, 3) := dqo_182 0 144 (kb_X2_sift_0 50 rfl) (kb_X2_sift_0 51 rfl) (kb_X2_sift_0 52 rfl)
theorem dX2_sift_53 : decode cX2_sift 53 = .ok (.iload_n 3, 1) := dqo_29 (kb_X2_sift_0 53 rfl)
theorem dX2_sift_54 : decode cX2_sift 54 = .ok (.if_icmp .ne 12, 3) := dqo_160 0 12 (by decide) (kb_X2_sift_0 54 rfl) (kb_X2_sift_0 55 rfl) (kb_X2_sift_0 56 rfl)
theorem dX2_sift_57 : decode cX2_sift 57 = .ok (.aload_n 0, 1) := dqo_42 (kb_X2_sift_0 57 rfl)
theorem dX2_sift_58 : decode cX2_sift 58 = .ok (.getfield 29, 3) := dqo_180 0 29 (kb_X2_sift_0 58 rfl) (kb_X2_sift_0 59 rfl) (kb_X2_sift_0 60 rfl)
theorem dX2_sift_61 : decode cX2_sift 61 = .ok (.iload 6, 2) := dqo_21 6 (kb_X2_sift_0 61 rfl) (kb_X2_sift_0 62 rfl)
theorem dX2_sift_63 : decode cX2_sift 63 = .ok (.invokevirtual 141, 3) := dqo_182 0 141 (kb_X2_sift_0 63 rfl) (kb_X2_sift_1 0 rfl) (kb_X2_sift_1 1 rfl)
theorem dX2_sift_66 : decode cX2_sift 66 = .ok (.iinc 5 1, 3) := dqo_132 5 1 (by decide) (kb_X2_sift_1 2 rfl) (kb_X2_sift_1 3 rfl) (kb_X2_sift_1 4 rfl)
theorem dX2_sift_69 : decode cX2_sift 69 = .ok (.goto (-47), 3) := dqo_167 255 209 (by decide) (kb_X2_sift_1 5 rfl) (kb_X2_sift_1 6 rfl) (kb_X2_sift_1 7 rfl)
theorem dX2_sift_72 : decode cX2_sift 72 = .ok (.iload 4, 2) := dqo_21 4 (kb_X2_sift_1 8 rfl) (kb_X2_sift_1 9 rfl)
theorem dX2_sift_74 : decode cX2_sift 74 = .ok (.aload_n 0, 1) := dqo_42 (kb_X2_sift_1 10 rfl)
theorem dX2_sift_75 : decode cX2_sift 75 = .ok (.iload_n 1, 1) := dqo_27 (kb_X2_sift_1 11 rfl)
theorem dX2_sift_76 : decode cX2_sift 76 = .ok (.invokevirtual 136, 3) := dqo_182 0 136 (kb_X2_sift_1 12 rfl) (kb_X2_sift_1 13 rfl) (kb_X2_sift_1 14 rfl)
theorem dX2_sift_79 : decode cX2_sift 79 = .ok (.isub, 1) := dqo_100 (kb_X2_sift_1 15 rfl)
theorem dX2_sift_80 : decode cX2_sift 80 = .ok (.ireturn, 1) := dqo_172 (kb_X2_sift_1 16 rfl)
set_option maxRecDepth 100000 in
set_option maxHeartbeats 4000000 in
theorem C_sift {l : Launch} {D : va_G} {cy : Nat → ClassId} {X : (Nat → Prop) → State → Heap → Prop} {a f : Nat → Nat → Nat} {r : Nat → Nat → Int32} {kn : Int32} {Y : va_W} {i : Nat} {j : Nat} {b : Nat} (hX : EnvX X) (hi4 : i < 4) (h0 : f 0 i < 7) (h3i : f 3 i = 0) (h1 : ∀ i, i < 8 → f 1 i < 4) (hG : ∀ i, i < 8 → f 2 i < 8 ∨ f 2 i = 4294967295) (hU : ∀ k, k < 3 → f 6 k < 8) (hI8 : f 0 8 < 7) (h38 : f 3 8 = 0) (hj4 : j < 4) (h0j : f 0 j < 7) (h3j : f 3 j = 0) (h4i : f 4 i ≤ 12) (h4j : f 4 j ≤ 12) (hni : f 0 i ≠ f 0 8) (hnj : f 0 j ≠ f 0 8) (hb1 : b ≤ 1) : Cd l D cy X yX2_sift cX2_sift 7 (some .int) (rmz 3 120) [.ref (a 0 0), .int (nI i), .int (nI j), .int (nI b)] (WC cy a f r kn ++ Y) (some (.int (nI (f 4 i - siC (hsP r f j) b (fun q => r (f 0 i) (f 3 i + q)) (f 4 i) 0 0)))) (WC cy a (settleF (up2 (up2 f 4 8 (siC (hsP r f j) b (fun q => r (f 0 i) (f 3 i + q)) (f 4 i) 0 0)) 4 i (siC (hsP r f j) b (fun q => r (f 0 i) (f 3 i + q)) (f 4 i) 0 0)) i 4294967295) (cpy2 (siR (hsP r f j) b (fun q => r (f 0 i) (f 3 i + q)) (f 0 8) (f 4 i) 0 0 r) (f 0 8) (f 3 8) (f 0 i) (f 3 i) (siC (hsP r f j) b (fun q => r (f 0 i) (f 3 i + q)) (f 4 i) 0 0)) kn ++ Y) := by
  refine Cm.of [some (.ref (a 0 0)), some (.int (nI i)), some (.int (nI j)), some (.int (nI b)), none, none, none] pn_X2 rfl (Nat.le_of_ble_eq_true rfl) ?_
  intro p e s m args below meth c A C hE hr hnt hn
  refine r_aload_n C dX2_sift_0 rfl ?_
  refine s_get C 0 (by decide) qf_X2_11 rfl rfl dX2_sift_1 ?_
  refine r_iload_n C dX2_sift_4 rfl ?_
  refine s_parts C (by first | omega | (simp [up2, *]; done) | (simp [up2, *]; omega) | (simp only [up2_eq]; omega)) dX2_sift_5 ?_
  refine p_getN (v := .int (nI (f 4 i))) hX C hE 4 (by first | omega | (simp [up2, *]; done) | (simp [up2, *]; omega) | (simp only [up2_eq]; omega)) (by decide) qn_X2_50 rfl rfl dX2_sift_6 ?_
  refine r_istore C dX2_sift_9 (by decide) rfl ?_
  refine r_aload_n C dX2_sift_11 rfl ?_
  refine s_get C 2 (by decide) qf_X2_29 rfl rfl dX2_sift_12 ?_
  refine r_iconst (v := (nI 0)) C dX2_sift_15 (by decide) ?_
  refine p_putN hX C hE 4 (by first | omega | (simp [up2, *]; done) | (simp [up2, *]; omega) | (simp only [up2_eq]; omega)) (by decide) (by decide) qn_X2_50 rfl rfl rfl dX2_sift_16 ?_
  refine r_iconst (v := (nI 0)) C dX2_sift_19 (by decide) ?_
  refine r_istore C dX2_sift_20 (by decide) rfl ?_
  have L22 : ∀ (d : Nat) (k : Nat) (c0 : Nat) (r1 : Nat → Nat → Int32), (hk : k + d = f 4 i) → (hc0 : c0 ≤ k) → (hr1 : ∀ z, z ≠ f 0 8 → r1 z = r z) → (hF : siC (hsP r f j) b (fun q => r (f 0 i) (f 3 i + q)) d k c0 = siC (hsP r f j) b (fun q => r (f 0 i) (f 3 i + q)) (f 4 i) 0 0) → (hF2 : siR (hsP r f j) b (fun q => r (f 0 i) (f 3 i + q)) (f 0 8) d k c0 r1 = siR (hsP r f j) b (fun q => r (f 0 i) (f 3 i + q)) (f 0 8) (f 4 i) 0 0 r) → vC p l e (rmz 3 120) s m args below meth c D A (vx_MQ below (vG (fun v1 w1 => v1 = (some (.int (nI (f 4 i - siC (hsP r f j) b (fun q => r (f 0 i) (f 3 i + q)) (f 4 i) 0 0)))) ∧ w1 = WC cy a (settleF (up2 (up2 f 4 8 (siC (hsP r f j) b (fun q => r (f 0 i) (f 3 i + q)) (f 4 i) 0 0)) 4 i (siC (hsP r f j) b (fun q => r (f 0 i) (f 3 i + q)) (f 4 i) 0 0)) i 4294967295) (cpy2 (siR (hsP r f j) b (fun q => r (f 0 i) (f 3 i + q)) (f 0 8) (f 4 i) 0 0 r) (f 0 8) (f 3 8) (f 0 i) (f 3 i) (siC (hsP r f j) b (fun q => r (f 0 i) (f 3 i + q)) (f 4 i) 0 0)) kn ++ Y) D vwCl A) (vGX (fun _ => False) D vwCl (WC cy a f r kn ++ Y) A) args s (rmz 3 120).cells (rmz 3 120).slots A) 7 0 0 (WC cy a (up2 f 4 8 c0) r1 kn ++ Y) [some (.ref (a 0 0)), some (.int (nI i)), some (.int (nI j)), some (.int (nI b)), some (.int (nI (f 4 i))), some (.int (nI k)), none] 22 [] := by
    intro d
    induction d with
    | zero =>
      intro k c0 r1 hk hc0 hr1 hF hF2
      refine r_iload C dX2_sift_22 rfl ?_
      refine r_iload C dX2_sift_24 rfl ?_
      refine r_icN_ge (a := k) (b := (f 4 i)) (tgt := 72) C (by first | omega | (simp [up2, *]; done) | (simp [up2, *]; omega) | (simp only [up2_eq]; omega)) (by first | omega | (simp [up2, *]; done) | (simp [up2, *]; omega) | (simp only [up2_eq]; omega)) dX2_sift_26 (by decide) (fun h26_1 => ?_) (fun h26_1 => ?_)
      · first
        | exfalso; first | omega | contradiction
        | skip
          have e1 : c0 = siC (hsP r f j) b (fun q => r (f 0 i) (f 3 i + q)) (f 4 i) 0 0 := hF
          have e2 : r1 = siR (hsP r f j) b (fun q => r (f 0 i) (f 3 i + q)) (f 0 8) (f 4 i) 0 0 r := hF2
          subst e1
          subst e2
          have hle := siC_le (hsP r f j) b (fun q => r (f 0 i) (f 3 i + q)) (f 4 i) 0 0
          refine r_iload C dX2_sift_72 rfl ?_
          refine r_aload_n C dX2_sift_74 rfl ?_
          refine r_iload_n C dX2_sift_75 rfl ?_
          refine d_V (st := [.int (nI (f 4 i))]) hX.stb C hE (C_becomeSpare (f := (up2 f 4 8 (siC (hsP r f j) b (fun q => r (f 0 i) (f 3 i + q)) (f 4 i) 0 0))) (r := (siR (hsP r f j) b (fun q => r (f 0 i) (f 3 i + q)) (f 0 8) (f 4 i) 0 0 r)) (kn := kn) (i := i) hX (by first | omega | (simp [up2, *]; done) | (simp [up2, *]; omega) | (simp only [up2_eq]; omega)) (by first | omega | (simp [up2, *]; done) | (simp [up2, *]; omega) | (simp only [up2_eq]; omega)) (by first | omega | (simp [up2, *]; done) | (simp [up2, *]; omega) | (simp only [up2_eq]; omega)) (by first | omega | (simp [up2, *]; done) | (simp [up2, *]; omega) | (simp only [up2_eq]; omega)) (by first | omega | (simp [up2, *]; done) | (simp [up2, *]; omega) | (simp only [up2_eq]; omega)) (by first | omega | (simp [up2, *]; done) | (simp [up2, *]; omega) | (simp only [up2_eq]; omega)) (by first | omega | (simp [up2, *]; done) | (simp [up2, *]; omega) | (simp only [up2_eq]; omega)) (by first | omega | (simp [up2, *]; done) | (simp [up2, *]; omega) | (simp only [up2_eq]; omega)) (by first | omega | (simp [up2, *]; done) | (simp [up2, *]; omega) | (simp only [up2_eq]; omega))) pk_X2_becomeSpare qm_X2_136 0 6 rfl rfl wc_0 rfl rfl (Nat.le_of_ble_eq_true rfl) dX2_sift_76 ⟨Nat.le_of_ble_eq_true rfl, Nat.le_of_ble_eq_true rfl⟩ ⟨Nat.le_of_ble_eq_true rfl, Nat.le_of_ble_eq_true rfl⟩ ?_
          refine r_isubN C dX2_sift_79 (by first | omega | (simp [up2, *]; done) | (simp [up2, *]; omega) | (simp only [up2_eq]; omega)) ?_
          exact r_iret C hr dX2_sift_80 ⟨rfl, rfl⟩ (Nat.le_of_ble_eq_true rfl) (Nat.le_of_ble_eq_true rfl)
      · first
        | exfalso; first | omega | contradiction
        | skip
          refine r_aload_n C dX2_sift_29 rfl ?_
          refine s_get C 0 (by decide) qf_X2_11 rfl rfl dX2_sift_30 ?_
          refine r_iload_n C dX2_sift_33 rfl ?_
          refine s_parts C (by first | omega | (simp [up2, *]; done) | (simp [up2, *]; omega) | (simp only [up2_eq]; omega)) dX2_sift_34 ?_
          refine r_iload C dX2_sift_35 rfl ?_
          refine d_V (st := []) hX.stb C hE (C_itemAt (f := (up2 f 4 8 c0)) (r := r1) (kn := kn) (i := i) (k := k) hX (by first | omega | (simp [up2, *]; done) | (simp [up2, *]; omega) | (simp only [up2_eq]; omega)) (by first | omega | (simp [up2, *]; done) | (simp [up2, *]; omega) | (simp only [up2_eq]; omega)) (by first | omega | (simp [up2, *]; done) | (simp [up2, *]; omega) | (simp only [up2_eq]; omega))) pk_X1_itemAt qm_X2_65 (3 + i) 5 rfl rfl (wc_p (by first | omega | (simp [up2, *]; done) | (simp [up2, *]; omega) | (simp only [up2_eq]; omega))) rfl rfl (Nat.le_of_ble_eq_true rfl) dX2_sift_37 ⟨Nat.le_of_ble_eq_true rfl, Nat.le_of_ble_eq_true rfl⟩ ⟨Nat.le_of_ble_eq_true rfl, Nat.le_of_ble_eq_true rfl⟩ ?_
          rw [show r1 (up2 f 4 8 c0 0 i) (up2 f 4 8 c0 3 i + k) = r (f 0 i) (f 3 i + k) from congrFun (hr1 (f 0 i) hni) (f 3 i + k)]
          refine r_istore C dX2_sift_40 (by decide) rfl ?_
          refine r_aload_n C dX2_sift_42 rfl ?_
          refine s_get C 0 (by decide) qf_X2_11 rfl rfl dX2_sift_43 ?_
          refine r_iload_n C dX2_sift_46 rfl ?_
          refine s_parts C (by first | omega | (simp [up2, *]; done) | (simp [up2, *]; omega) | (simp only [up2_eq]; omega)) dX2_sift_47 ?_
          refine r_iload C dX2_sift_48 rfl ?_
          refine d_V (st := []) hX.stb C hE (C_has (f := (up2 f 4 8 c0)) (r := r1) (kn := kn) (i := j) (x := ((r (f 0 i) (f 3 i + k)))) hX (by first | omega | (simp [up2, *]; done) | (simp [up2, *]; omega) | (simp only [up2_eq]; omega)) (by first | omega | (simp [up2, *]; done) | (simp [up2, *]; omega) | (simp only [up2_eq]; omega)) (by rw [show up2 f 4 8 c0 4 j = f 4 j from up2_i _ _ _ _ (show j ≠ 8 by omega)]; show f 3 j + f 4 j ≤ 12; omega)) pk_X1_has qm_X2_144 (3 + j) 5 rfl rfl (wc_p (by first | omega | (simp [up2, *]; done) | (simp [up2, *]; omega) | (simp only [up2_eq]; omega))) rfl rfl (Nat.le_of_ble_eq_true rfl) dX2_sift_50 ⟨Nat.le_of_ble_eq_true rfl, Nat.le_of_ble_eq_true rfl⟩ ⟨Nat.le_of_ble_eq_true rfl, Nat.le_of_ble_eq_true rfl⟩ ?_
          refine r_eqi (y := nI (hsP r f j (r (f 0 i) (f 3 i + k)))) (by rw [show r1 (up2 f 4 8 c0 0 j) = r (f 0 j) from hr1 (f 0 j) hnj, show up2 f 4 8 c0 4 j = f 4 j from up2_i _ _ _ _ (show j ≠ 8 by omega)]; rfl) ?_
          refine r_iload_n C dX2_sift_53 rfl ?_
          refine r_icN_ne (a := (hsP r f j (r (f 0 i) (f 3 i + k)))) (b := b) (tgt := 66) C (by unfold hsP; split <;> omega) (by first | omega | (simp [up2, *]; done) | (simp [up2, *]; omega) | (simp only [up2_eq]; omega)) dX2_sift_54 (by decide) (fun h54_2 => ?_) (fun h54_2 => ?_)
          · first
            | exfalso; first | omega | contradiction
            | skip
              have hb9 := h54_2
              refine r_iincN C dX2_sift_66 rfl (by decide) rfl ?_
              refine r_goto (tgt := 22) C dX2_sift_69 (by decide) ?_
              refine r_drop 6 ?_
              exact (Nat.not_lt_zero _ (by omega)).elim
          · first
            | exfalso; first | omega | contradiction
            | skip
              have hb9 := h54_2
              refine r_aload_n C dX2_sift_57 rfl ?_
              refine s_get C 2 (by decide) qf_X2_29 rfl rfl dX2_sift_58 ?_
              refine r_iload C dX2_sift_61 rfl ?_
              refine d_Vv (st := []) hX.stb C hE (C_append (f := (up2 f 4 8 c0)) (r := r1) (kn := kn) (i := 8) (x := ((r (f 0 i) (f 3 i + k)))) hX (by first | omega | (simp [up2, *]; done) | (simp [up2, *]; omega) | (simp only [up2_eq]; omega)) (by first | omega | (simp [up2, *]; done) | (simp [up2, *]; omega) | (simp only [up2_eq]; omega)) (by first | omega | (simp [up2, *]; done) | (simp [up2, *]; omega) | (simp only [up2_eq]; omega))) pk_X1_append qm_X2_141 (3 + 8) 5 rfl rfl (wc_p (by first | omega | (simp [up2, *]; done) | (simp [up2, *]; omega) | (simp only [up2_eq]; omega))) rfl rfl (Nat.le_of_ble_eq_true rfl) dX2_sift_63 ⟨Nat.le_of_ble_eq_true rfl, Nat.le_of_ble_eq_true rfl⟩ ⟨Nat.le_of_ble_eq_true rfl, Nat.le_of_ble_eq_true rfl⟩ ?_
              refine r_iincN C dX2_sift_66 rfl (by decide) rfl ?_
              refine r_goto (tgt := 22) C dX2_sift_69 (by decide) ?_
              refine r_w (congrArg (fun z => WC cy a z (up2 r1 (f 0 8) (c0) ((r (f 0 i) (f 3 i + k)))) kn ++ Y) (up2_up2 f 4 8 c0 (c0 + 1))) ?_
              refine r_drop 6 ?_
              exact (Nat.not_lt_zero _ (by omega)).elim
    | succ d ih_L22 =>
      intro k c0 r1 hk hc0 hr1 hF hF2
      refine r_iload C dX2_sift_22 rfl ?_
      refine r_iload C dX2_sift_24 rfl ?_
      refine r_icN_ge (a := k) (b := (f 4 i)) (tgt := 72) C (by first | omega | (simp [up2, *]; done) | (simp [up2, *]; omega) | (simp only [up2_eq]; omega)) (by first | omega | (simp [up2, *]; done) | (simp [up2, *]; omega) | (simp only [up2_eq]; omega)) dX2_sift_26 (by decide) (fun h26_3 => ?_) (fun h26_3 => ?_)
      · first
        | exfalso; first | omega | contradiction
        | skip
          have e1 : c0 = siC (hsP r f j) b (fun q => r (f 0 i) (f 3 i + q)) (f 4 i) 0 0 := hF
          have e2 : r1 = siR (hsP r f j) b (fun q => r (f 0 i) (f 3 i + q)) (f 0 8) (f 4 i) 0 0 r := hF2
          subst e1
          subst e2
          have hle := siC_le (hsP r f j) b (fun q => r (f 0 i) (f 3 i + q)) (f 4 i) 0 0
          refine r_iload C dX2_sift_72 rfl ?_
          refine r_aload_n C dX2_sift_74 rfl ?_
          refine r_iload_n C dX2_sift_75 rfl ?_
          refine d_V (st := [.int (nI (f 4 i))]) hX.stb C hE (C_becomeSpare (f := (up2 f 4 8 (siC (hsP r f j) b (fun q => r (f 0 i) (f 3 i + q)) (f 4 i) 0 0))) (r := (siR (hsP r f j) b (fun q => r (f 0 i) (f 3 i + q)) (f 0 8) (f 4 i) 0 0 r)) (kn := kn) (i := i) hX (by first | omega | (simp [up2, *]; done) | (simp [up2, *]; omega) | (simp only [up2_eq]; omega)) (by first | omega | (simp [up2, *]; done) | (simp [up2, *]; omega) | (simp only [up2_eq]; omega)) (by first | omega | (simp [up2, *]; done) | (simp [up2, *]; omega) | (simp only [up2_eq]; omega)) (by first | omega | (simp [up2, *]; done) | (simp [up2, *]; omega) | (simp only [up2_eq]; omega)) (by first | omega | (simp [up2, *]; done) | (simp [up2, *]; omega) | (simp only [up2_eq]; omega)) (by first | omega | (simp [up2, *]; done) | (simp [up2, *]; omega) | (simp only [up2_eq]; omega)) (by first | omega | (simp [up2, *]; done) | (simp [up2, *]; omega) | (simp only [up2_eq]; omega)) (by first | omega | (simp [up2, *]; done) | (simp [up2, *]; omega) | (simp only [up2_eq]; omega)) (by first | omega | (simp [up2, *]; done) | (simp [up2, *]; omega) | (simp only [up2_eq]; omega))) pk_X2_becomeSpare qm_X2_136 0 6 rfl rfl wc_0 rfl rfl (Nat.le_of_ble_eq_true rfl) dX2_sift_76 ⟨Nat.le_of_ble_eq_true rfl, Nat.le_of_ble_eq_true rfl⟩ ⟨Nat.le_of_ble_eq_true rfl, Nat.le_of_ble_eq_true rfl⟩ ?_
          refine r_isubN C dX2_sift_79 (by first | omega | (simp [up2, *]; done) | (simp [up2, *]; omega) | (simp only [up2_eq]; omega)) ?_
          exact r_iret C hr dX2_sift_80 ⟨rfl, rfl⟩ (Nat.le_of_ble_eq_true rfl) (Nat.le_of_ble_eq_true rfl)
      · first
        | exfalso; first | omega | contradiction
        | skip
          refine r_aload_n C dX2_sift_29 rfl ?_
          refine s_get C 0 (by decide) qf_X2_11 rfl rfl dX2_sift_30 ?_
          refine r_iload_n C dX2_sift_33 rfl ?_
          refine s_parts C (by first | omega | (simp [up2, *]; done) | (simp [up2, *]; omega) | (simp only [up2_eq]; omega)) dX2_sift_34 ?_
          refine r_iload C dX2_sift_35 rfl ?_
          refine d_V (st := []) hX.stb C hE (C_itemAt (f := (up2 f 4 8 c0)) (r := r1) (kn := kn) (i := i) (k := k) hX (by first | omega | (simp [up2, *]; done) | (simp [up2, *]; omega) | (simp only [up2_eq]; omega)) (by first | omega | (simp [up2, *]; done) | (simp [up2, *]; omega) | (simp only [up2_eq]; omega)) (by first | omega | (simp [up2, *]; done) | (simp [up2, *]; omega) | (simp only [up2_eq]; omega))) pk_X1_itemAt qm_X2_65 (3 + i) 5 rfl rfl (wc_p (by first | omega | (simp [up2, *]; done) | (simp [up2, *]; omega) | (simp only [up2_eq]; omega))) rfl rfl (Nat.le_of_ble_eq_true rfl) dX2_sift_37 ⟨Nat.le_of_ble_eq_true rfl, Nat.le_of_ble_eq_true rfl⟩ ⟨Nat.le_of_ble_eq_true rfl, Nat.le_of_ble_eq_true rfl⟩ ?_
          rw [show r1 (up2 f 4 8 c0 0 i) (up2 f 4 8 c0 3 i + k) = r (f 0 i) (f 3 i + k) from congrFun (hr1 (f 0 i) hni) (f 3 i + k)]
          refine r_istore C dX2_sift_40 (by decide) rfl ?_
          refine r_aload_n C dX2_sift_42 rfl ?_
          refine s_get C 0 (by decide) qf_X2_11 rfl rfl dX2_sift_43 ?_
          refine r_iload_n C dX2_sift_46 rfl ?_
          refine s_parts C (by first | omega | (simp [up2, *]; done) | (simp [up2, *]; omega) | (simp only [up2_eq]; omega)) dX2_sift_47 ?_
          refine r_iload C dX2_sift_48 rfl ?_
          refine d_V (st := []) hX.stb C hE (C_has (f := (up2 f 4 8 c0)) (r := r1) (kn := kn) (i := j) (x := ((r (f 0 i) (f 3 i + k)))) hX (by first | omega | (simp [up2, *]; done) | (simp [up2, *]; omega) | (simp only [up2_eq]; omega)) (by first | omega | (simp [up2, *]; done) | (simp [up2, *]; omega) | (simp only [up2_eq]; omega)) (by rw [show up2 f 4 8 c0 4 j = f 4 j from up2_i _ _ _ _ (show j ≠ 8 by omega)]; show f 3 j + f 4 j ≤ 12; omega)) pk_X1_has qm_X2_144 (3 + j) 5 rfl rfl (wc_p (by first | omega | (simp [up2, *]; done) | (simp [up2, *]; omega) | (simp only [up2_eq]; omega))) rfl rfl (Nat.le_of_ble_eq_true rfl) dX2_sift_50 ⟨Nat.le_of_ble_eq_true rfl, Nat.le_of_ble_eq_true rfl⟩ ⟨Nat.le_of_ble_eq_true rfl, Nat.le_of_ble_eq_true rfl⟩ ?_
          refine r_eqi (y := nI (hsP r f j (r (f 0 i) (f 3 i + k)))) (by rw [show r1 (up2 f 4 8 c0 0 j) = r (f 0 j) from hr1 (f 0 j) hnj, show up2 f 4 8 c0 4 j = f 4 j from up2_i _ _ _ _ (show j ≠ 8 by omega)]; rfl) ?_
          refine r_iload_n C dX2_sift_53 rfl ?_
          refine r_icN_ne (a := (hsP r f j (r (f 0 i) (f 3 i + k)))) (b := b) (tgt := 66) C (by unfold hsP; split <;> omega) (by first | omega | (simp [up2, *]; done) | (simp [up2, *]; omega) | (simp only [up2_eq]; omega)) dX2_sift_54 (by decide) (fun h54_4 => ?_) (fun h54_4 => ?_)
          · first
            | exfalso; first | omega | contradiction
            | skip
              have hb9 := h54_4
              refine r_iincN C dX2_sift_66 rfl (by decide) rfl ?_
              refine r_goto (tgt := 22) C dX2_sift_69 (by decide) ?_
              refine r_drop 6 ?_
              exact ih_L22 (k + 1) c0 r1 (by omega) (by omega) hr1 (by rw [← hF]; simp only [siC]; rw [if_neg hb9]) (by rw [← hF2]; simp only [siR]; rw [if_neg hb9])
          · first
            | exfalso; first | omega | contradiction
            | skip
              have hb9 := h54_4
              refine r_aload_n C dX2_sift_57 rfl ?_
              refine s_get C 2 (by decide) qf_X2_29 rfl rfl dX2_sift_58 ?_
              refine r_iload C dX2_sift_61 rfl ?_
              refine d_Vv (st := []) hX.stb C hE (C_append (f := (up2 f 4 8 c0)) (r := r1) (kn := kn) (i := 8) (x := ((r (f 0 i) (f 3 i + k)))) hX (by first | omega | (simp [up2, *]; done) | (simp [up2, *]; omega) | (simp only [up2_eq]; omega)) (by first | omega | (simp [up2, *]; done) | (simp [up2, *]; omega) | (simp only [up2_eq]; omega)) (by first | omega | (simp [up2, *]; done) | (simp [up2, *]; omega) | (simp only [up2_eq]; omega))) pk_X1_append qm_X2_141 (3 + 8) 5 rfl rfl (wc_p (by first | omega | (simp [up2, *]; done) | (simp [up2, *]; omega) | (simp only [up2_eq]; omega))) rfl rfl (Nat.le_of_ble_eq_true rfl) dX2_sift_63 ⟨Nat.le_of_ble_eq_true rfl, Nat.le_of_ble_eq_true rfl⟩ ⟨Nat.le_of_ble_eq_true rfl, Nat.le_of_ble_eq_true rfl⟩ ?_
              refine r_iincN C dX2_sift_66 rfl (by decide) rfl ?_
              refine r_goto (tgt := 22) C dX2_sift_69 (by decide) ?_
              refine r_w (congrArg (fun z => WC cy a z (up2 r1 (f 0 8) (c0) ((r (f 0 i) (f 3 i + k)))) kn ++ Y) (up2_up2 f 4 8 c0 (c0 + 1))) ?_
              refine r_drop 6 ?_
              exact ih_L22 (k + 1) (c0 + 1) (up2 r1 (f 0 8) c0 (r (f 0 i) (f 3 i + k))) (by omega) (by omega) (up2_off hr1) (by rw [← hF]; simp only [siC]; rw [if_pos hb9]) (by rw [← hF2]; simp only [siR]; rw [if_pos hb9])
  exact L22 (f 4 i) 0 0 r (by omega) (Nat.le_refl _) (fun _ _ => rfl) rfl rfl
end PT_12
/-! ===== 125.inv -/
section PT_125
/-! WHAT HOLDS OF THE CLASS'S NUMBERS BETWEEN TWO CALLS -/
/-- from w on a row is reached in n steps, over windows that are there -/
def chN (f : Nat → Nat → Nat) : Nat → Nat → Prop
  | 0, _ => False
  | n + 1, w => w < 4 ∨ (w < 8 ∧ f 5 w = 1 ∧ chN f n (f 2 w))
def CInv (f : Nat → Nat → Nat) : Prop :=
  (∀ i, i < 4 → f 0 i = i ∧ f 1 i = i ∧ f 2 i = 4294967295 ∧ f 3 i = 0 ∧ f 4 i ≤ 12 ∧ f 5 i = 1) ∧
  (f 0 8 = 4 ∧ f 3 8 = 0 ∧ f 4 8 ≤ 12 ∧ f 0 9 = 5 ∧ f 3 9 = 0 ∧ f 4 9 ≤ 12 ∧ f 0 10 = 6 ∧ f 3 10 = 0 ∧ f 4 10 ≤ 12) ∧
  (∀ i, i < 8 → f 5 i ≤ 1 ∧ f 1 i < 4 ∧ f 0 i = f 1 i ∧ (f 2 i < 8 ∨ f 2 i = 4294967295)) ∧
  (∀ i, i < 8 → f 5 i = 1 → f 3 i + f 4 i ≤ f 4 (f 1 i)) ∧
  (∀ i, 4 ≤ i → i < 8 → f 5 i = 1 → f 2 i < 8 ∧ f 5 (f 2 i) = 1 ∧ f 1 i = f 1 (f 2 i) ∧ f 3 (f 2 i) ≤ f 3 i ∧ f 3 i + f 4 i ≤ f 3 (f 2 i) + f 4 (f 2 i) ∧ chN f 5 i) ∧
  (∀ k, k < 3 → f 6 k < 8 ∧ f 9 k ≤ 1 ∧ (f 9 k = 1 → f 5 (f 6 k) = 1 ∧ f 7 k ≤ f 4 (f 6 k) ∧ (f 8 k = 4294967295 ∨ f 8 k < f 4 (f 6 k))))
theorem CInv.rw {f : Nat → Nat → Nat} (h : CInv f) {i : Nat} (hi : i < 4) : f 0 i = i ∧ f 1 i = i ∧ f 2 i = 4294967295 ∧ f 3 i = 0 ∧ f 4 i ≤ 12 ∧ f 5 i = 1 := h.1 i hi
theorem CInv.sp {f : Nat → Nat → Nat} (h : CInv f) : f 0 8 = 4 ∧ f 3 8 = 0 ∧ f 4 8 ≤ 12 ∧ f 0 9 = 5 ∧ f 3 9 = 0 ∧ f 4 9 ≤ 12 ∧ f 0 10 = 6 ∧ f 3 10 = 0 ∧ f 4 10 ≤ 12 := h.2.1
theorem CInv.al {f : Nat → Nat → Nat} (h : CInv f) {i : Nat} (hi : i < 8) : f 5 i ≤ 1 ∧ f 1 i < 4 ∧ f 0 i = f 1 i ∧ (f 2 i < 8 ∨ f 2 i = 4294967295) := h.2.2.1 i hi
theorem CInv.th {f : Nat → Nat → Nat} (h : CInv f) {i : Nat} (hi : i < 8) (h5 : f 5 i = 1) : f 3 i + f 4 i ≤ f 4 (f 1 i) ∧ f 4 (f 1 i) ≤ 12 ∧ f 0 i < 7 ∧ f 0 i ≠ 4 ∧ f 0 i ≠ f 0 8 ∧ f 3 i + f 4 i ≤ 12 := by
  have h1 := h.2.2.2.1 i hi h5
  have h2 := h.al hi
  have h3 := h.rw (i := f 1 i) h2.2.1
  have h4 := h.sp
  omega
theorem CInv.wi {f : Nat → Nat → Nat} (h : CInv f) {i : Nat} (h4 : 4 ≤ i) (hi : i < 8) (h5 : f 5 i = 1) : f 2 i < 8 ∧ f 5 (f 2 i) = 1 ∧ f 1 i = f 1 (f 2 i) ∧ f 3 (f 2 i) ≤ f 3 i ∧ f 3 i + f 4 i ≤ f 3 (f 2 i) + f 4 (f 2 i) ∧ chN f 5 i := h.2.2.2.2.1 i h4 hi h5
theorem CInv.cu {f : Nat → Nat → Nat} (h : CInv f) {k : Nat} (hk : k < 3) : f 6 k < 8 ∧ f 9 k ≤ 1 ∧ (f 9 k = 1 → f 5 (f 6 k) = 1 ∧ f 7 k ≤ f 4 (f 6 k) ∧ (f 8 k = 4294967295 ∨ f 8 k < f 4 (f 6 k))) := h.2.2.2.2.2 k hk
theorem CInv.h1 {f : Nat → Nat → Nat} (h : CInv f) : ∀ i, i < 8 → f 1 i < 4 := fun _ hi => (h.al hi).2.1
theorem CInv.h5 {f : Nat → Nat → Nat} (h : CInv f) : ∀ i, i < 8 → f 5 i ≤ 1 := fun _ hi => (h.al hi).1
theorem CInv.hG {f : Nat → Nat → Nat} (h : CInv f) : ∀ i, i < 8 → f 2 i < 8 ∨ f 2 i = 4294967295 := fun _ hi => (h.al hi).2.2.2
theorem CInv.hU {f : Nat → Nat → Nat} (h : CInv f) : ∀ k, k < 3 → f 6 k < 8 := fun _ hk => (h.cu hk).1
theorem CInv.hI {f : Nat → Nat → Nat} (h : CInv f) : ∀ i, i < 4 → f 0 i < 7 := fun i hi => by
  have := h.rw hi
  omega
theorem CInv.hI8 {f : Nat → Nat → Nat} (h : CInv f) : f 0 8 < 7 := by
  have := h.sp
  omega
/-- what a holder is -/
theorem hol_facts {f : Nat → Nat → Nat} (h : CInv f) : ∀ (d i w : Nat), w < 8 → f 5 w = 1 → hlC (f 2) i d w ≠ 0 → i < 8 ∧ f 5 i = 1 ∧ f 1 i = f 1 w ∧ f 4 w ≤ f 4 i ∧ f 3 i ≤ f 3 w ∧ f 3 w + f 4 w ≤ f 3 i + f 4 i
  | 0, i, w, hw, h5, hh => absurd rfl hh
  | d + 1, i, w, hw, h5, hh => by
    unfold hlC at hh
    rw [if_neg (by omega)] at hh
    by_cases e : w = i
    · subst e
      exact ⟨hw, h5, rfl, Nat.le_refl _, Nat.le_refl _, Nat.le_refl _⟩
    · rw [if_neg e] at hh
      by_cases h4 : w < 4
      · have h2 := (h.rw h4).2.2.1
        rw [h2] at hh
        cases d with
        | zero => exact absurd rfl hh
        | succ d =>
          unfold hlC at hh
          rw [if_pos rfl] at hh
          exact absurd rfl hh
      · have hwi := h.wi (by omega) hw h5
        obtain ⟨a1, a2, a3, a4, a5, a6⟩ := hol_facts h d i (f 2 w) hwi.1 hwi.2.1 hh
        exact ⟨a1, a2, by omega, by omega, by omega, by omega⟩
theorem CInv.ho {f : Nat → Nat → Nat} (h : CInv f) {i w : Nat} (hw : w < 8) (h5 : f 5 w = 1) (hh : hol f i w ≠ 0) : i < 8 ∧ f 5 i = 1 ∧ f 1 i = f 1 w ∧ f 4 w ≤ f 4 i ∧ f 3 i ≤ f 3 w ∧ f 3 w + f 4 w ≤ f 3 i + f 4 i := hol_facts h 8 i w hw h5 hh
theorem CInv.ho12 {f : Nat → Nat → Nat} (h : CInv f) {w : Nat} (hw : w < 8) (h5 : f 5 w = 1) : ∀ i, i < 8 → hol f i w ≠ 0 → f 4 w ≤ f 4 i ∧ f 4 i ≤ 12 := fun i hi hh => by
  have h1 := h.ho hw h5 hh
  have h2 := h.th hi h1.2.1
  omega
theorem hol_self {f : Nat → Nat → Nat} {w : Nat} (hw : w < 8) : hol f w w = 1 := by
  unfold hol hlC
  rw [if_neg (by omega), if_pos rfl]
end PT_125
/-! ===== 13.class3 -/
section PT_13
/-! CONTRACTS of the class: dismissing, counts -/
theorem dX2_dismissCursorsOver_0 : decode cX2_dismissCursorsOver 0 = .ok (.iconst 0, 1) := dqo_3 (kb_of ke_X2_dismissCursorsOver 0 rfl)
theorem dX2_dismissCursorsOver_1 : decode cX2_dismissCursorsOver 1 = .ok (.istore_n 2, 1) := dqo_61 (kb_of ke_X2_dismissCursorsOver 1 rfl)
theorem dX2_dismissCursorsOver_2 : decode cX2_dismissCursorsOver 2 = .ok (.iload_n 2, 1) := dqo_28 (kb_of ke_X2_dismissCursorsOver 2 rfl)
theorem dX2_dismissCursorsOver_3 : decode cX2_dismissCursorsOver 3 = .ok (.iconst 3, 1) := dqo_6 (kb_of ke_X2_dismissCursorsOver 3 rfl)
theorem dX2_dismissCursorsOver_4 : decode cX2_dismissCursorsOver 4 = .ok (.if_icmp .ge 32, 3) := dqo_162 0 32 (by decide) (kb_of ke_X2_dismissCursorsOver 4 rfl) (kb_of ke_X2_dismissCursorsOver 5 rfl) (kb_of ke_X2_dismissCursorsOver 6 rfl)
theorem dX2_dismissCursorsOver_7 : decode cX2_dismissCursorsOver 7 = .ok (.aload_n 0, 1) := dqo_42 (kb_of ke_X2_dismissCursorsOver 7 rfl)
theorem dX2_dismissCursorsOver_8 : decode cX2_dismissCursorsOver 8 = .ok (.getfield 24, 3) := dqo_180 0 24 (kb_of ke_X2_dismissCursorsOver 8 rfl) (kb_of ke_X2_dismissCursorsOver 9 rfl) (kb_of ke_X2_dismissCursorsOver 10 rfl)
theorem dX2_dismissCursorsOver_11 : decode cX2_dismissCursorsOver 11 = .ok (.iload_n 2, 1) := dqo_28 (kb_of ke_X2_dismissCursorsOver 11 rfl)
theorem dX2_dismissCursorsOver_12 : decode cX2_dismissCursorsOver 12 = .ok (.aaload, 1) := dqo_50 (kb_of ke_X2_dismissCursorsOver 12 rfl)
theorem dX2_dismissCursorsOver_13 : decode cX2_dismissCursorsOver 13 = .ok (.getfield 225, 3) := dqo_180 0 225 (kb_of ke_X2_dismissCursorsOver 13 rfl) (kb_of ke_X2_dismissCursorsOver 14 rfl) (kb_of ke_X2_dismissCursorsOver 15 rfl)
theorem dX2_dismissCursorsOver_16 : decode cX2_dismissCursorsOver 16 = .ok (.iload_n 1, 1) := dqo_27 (kb_of ke_X2_dismissCursorsOver 16 rfl)
theorem dX2_dismissCursorsOver_17 : decode cX2_dismissCursorsOver 17 = .ok (.if_icmp .ne 13, 3) := dqo_160 0 13 (by decide) (kb_of ke_X2_dismissCursorsOver 17 rfl) (kb_of ke_X2_dismissCursorsOver 18 rfl) (kb_of ke_X2_dismissCursorsOver 19 rfl)
theorem dX2_dismissCursorsOver_20 : decode cX2_dismissCursorsOver 20 = .ok (.aload_n 0, 1) := dqo_42 (kb_of ke_X2_dismissCursorsOver 20 rfl)
theorem dX2_dismissCursorsOver_21 : decode cX2_dismissCursorsOver 21 = .ok (.getfield 24, 3) := dqo_180 0 24 (kb_of ke_X2_dismissCursorsOver 21 rfl) (kb_of ke_X2_dismissCursorsOver 22 rfl) (kb_of ke_X2_dismissCursorsOver 23 rfl)
theorem dX2_dismissCursorsOver_24 : decode cX2_dismissCursorsOver 24 = .ok (.iload_n 2, 1) := dqo_28 (kb_of ke_X2_dismissCursorsOver 24 rfl)
theorem dX2_dismissCursorsOver_25 : decode cX2_dismissCursorsOver 25 = .ok (.aaload, 1) := dqo_50 (kb_of ke_X2_dismissCursorsOver 25 rfl)
theorem dX2_dismissCursorsOver_26 : decode cX2_dismissCursorsOver 26 = .ok (.iconst 0, 1) := dqo_3 (kb_of ke_X2_dismissCursorsOver 26 rfl)
theorem dX2_dismissCursorsOver_27 : decode cX2_dismissCursorsOver 27 = .ok (.putfield 221, 3) := dqo_181 0 221 (kb_of ke_X2_dismissCursorsOver 27 rfl) (kb_of ke_X2_dismissCursorsOver 28 rfl) (kb_of ke_X2_dismissCursorsOver 29 rfl)
theorem dX2_dismissCursorsOver_30 : decode cX2_dismissCursorsOver 30 = .ok (.iinc 2 1, 3) := dqo_132 2 1 (by decide) (kb_of ke_X2_dismissCursorsOver 30 rfl) (kb_of ke_X2_dismissCursorsOver 31 rfl) (kb_of ke_X2_dismissCursorsOver 32 rfl)
theorem dX2_dismissCursorsOver_33 : decode cX2_dismissCursorsOver 33 = .ok (.goto (-31), 3) := dqo_167 255 225 (by decide) (kb_of ke_X2_dismissCursorsOver 33 rfl) (kb_of ke_X2_dismissCursorsOver 34 rfl) (kb_of ke_X2_dismissCursorsOver 35 rfl)
theorem dX2_dismissCursorsOver_36 : decode cX2_dismissCursorsOver 36 = .ok (.return_, 1) := dqo_177 (kb_of ke_X2_dismissCursorsOver 36 rfl)
set_option maxRecDepth 100000 in
set_option maxHeartbeats 4000000 in
theorem C_dismissCursorsOver {l : Launch} {D : va_G} {cy : Nat → ClassId} {X : (Nat → Prop) → State → Heap → Prop} {a f : Nat → Nat → Nat} {r : Nat → Nat → Int32} {kn : Int32} {Y : va_W} {w : Nat} (hX : EnvX X) (hw : w < 8) (hU : ∀ k, k < 3 → f 6 k < 8) : Cd l D cy X yX2_dismissCursorsOver cX2_dismissCursorsOver 3 none (rmz 0 0) [.ref (a 0 0), .int (nI w)] (WC cy a f r kn ++ Y) none (WC cy a (dcF f w 3) r kn ++ Y) := by
  refine Cm.of [some (.ref (a 0 0)), some (.int (nI w)), none] pn_X2 rfl (Nat.le_of_ble_eq_true rfl) ?_
  intro p e s m args below meth c A C hE hr hnt hn
  refine r_iconst (v := (nI 0)) C dX2_dismissCursorsOver_0 (by decide) ?_
  refine r_istore_n C dX2_dismissCursorsOver_1 (by decide) rfl ?_
  refine r_w (congrArg (fun z => WC cy a z r kn ++ Y) (dcF_0 f w).symm) ?_
  have L2 : ∀ (d : Nat) (k : Nat), (hk : k + d = 3) → vC p l e (rmz 0 0) s m args below meth c D A (vx_MQ below (vG (fun v1 w1 => v1 = none ∧ w1 = WC cy a (dcF f w 3) r kn ++ Y) D vwCl A) (vGX (fun _ => False) D vwCl (WC cy a f r kn ++ Y) A) args s (rmz 0 0).cells (rmz 0 0).slots A) 3 0 0 (WC cy a (dcF f w k) r kn ++ Y) [some (.ref (a 0 0)), some (.int (nI w)), some (.int (nI k))] 2 [] := by
    intro d
    induction d with
    | zero =>
      intro k hk
      refine r_iload_n C dX2_dismissCursorsOver_2 rfl ?_
      refine r_iconst (v := (nI 3)) C dX2_dismissCursorsOver_3 (by decide) ?_
      refine r_icN_ge (a := k) (b := 3) (tgt := 36) C (by first | omega | (simp [up2, *]; done) | (simp [up2, *]; omega) | (simp only [up2_eq]; omega)) (by first | omega | (simp [up2, *]; done) | (simp [up2, *]; omega) | (simp only [up2_eq]; omega)) dX2_dismissCursorsOver_4 (by decide) (fun h4_1 => ?_) (fun h4_1 => ?_)
      · first
        | exfalso; first | omega | contradiction
        | skip
          have e8 : k = 3 := by omega
          subst e8
          exact r_vret C hr dX2_dismissCursorsOver_36 ⟨rfl, rfl⟩ (Nat.le_of_ble_eq_true rfl) (Nat.le_of_ble_eq_true rfl)
      · first
        | exfalso; first | omega | contradiction
        | skip
          refine r_aload_n C dX2_dismissCursorsOver_7 rfl ?_
          refine s_get C 1 (by decide) qf_X2_24 rfl rfl dX2_dismissCursorsOver_8 ?_
          refine r_iload_n C dX2_dismissCursorsOver_11 rfl ?_
          refine s_curs C (by first | omega | (simp [up2, *]; done) | (simp [up2, *]; omega) | (simp only [up2_eq]; omega)) dX2_dismissCursorsOver_12 ?_
          refine u_getN (v := .int (nI (f 6 k))) hX C hE 0 (by first | omega | (simp [up2, *]; done) | (simp [up2, *]; omega) | (simp only [up2_eq]; omega)) (by decide) qn_X2_225 rfl rfl dX2_dismissCursorsOver_13 ?_
          refine r_iload_n C dX2_dismissCursorsOver_16 rfl ?_
          refine r_icN_ne (a := (f 6 k)) (b := w) (tgt := 30) C (by have := hU k (by omega); omega) (by first | omega | (simp [up2, *]; done) | (simp [up2, *]; omega) | (simp only [up2_eq]; omega)) dX2_dismissCursorsOver_17 (by decide) (fun h17_2 => ?_) (fun h17_2 => ?_)
          · first
            | exfalso; first | omega | contradiction
            | skip
              refine r_iincN C dX2_dismissCursorsOver_30 rfl (by decide) rfl ?_
              refine r_goto (tgt := 2) C dX2_dismissCursorsOver_33 (by decide) ?_
              refine r_w (congrArg (fun z => WC cy a z r kn ++ Y) (dcF_no (by assumption))) ?_
              exact (Nat.not_lt_zero _ (by omega)).elim
          · first
            | exfalso; first | omega | contradiction
            | skip
              refine r_aload_n C dX2_dismissCursorsOver_20 rfl ?_
              refine s_get C 1 (by decide) qf_X2_24 rfl rfl dX2_dismissCursorsOver_21 ?_
              refine r_iload_n C dX2_dismissCursorsOver_24 rfl ?_
              refine s_curs C (by first | omega | (simp [up2, *]; done) | (simp [up2, *]; omega) | (simp only [up2_eq]; omega)) dX2_dismissCursorsOver_25 ?_
              refine r_iconst (v := (nI 0)) C dX2_dismissCursorsOver_26 (by decide) ?_
              refine u_putZN hX C hE (by first | omega | (simp [up2, *]; done) | (simp [up2, *]; omega) | (simp only [up2_eq]; omega)) (by first | omega | (simp [up2, *]; done) | (simp [up2, *]; omega) | (simp only [up2_eq]; omega)) qn_X2_221 dX2_dismissCursorsOver_27 ?_
              refine r_iincN C dX2_dismissCursorsOver_30 rfl (by decide) rfl ?_
              refine r_goto (tgt := 2) C dX2_dismissCursorsOver_33 (by decide) ?_
              refine r_w (congrArg (fun z => WC cy a z r kn ++ Y) (dcF_yes (by assumption))) ?_
              exact (Nat.not_lt_zero _ (by omega)).elim
    | succ d ih_L2 =>
      intro k hk
      refine r_iload_n C dX2_dismissCursorsOver_2 rfl ?_
      refine r_iconst (v := (nI 3)) C dX2_dismissCursorsOver_3 (by decide) ?_
      refine r_icN_ge (a := k) (b := 3) (tgt := 36) C (by first | omega | (simp [up2, *]; done) | (simp [up2, *]; omega) | (simp only [up2_eq]; omega)) (by first | omega | (simp [up2, *]; done) | (simp [up2, *]; omega) | (simp only [up2_eq]; omega)) dX2_dismissCursorsOver_4 (by decide) (fun h4_3 => ?_) (fun h4_3 => ?_)
      · first
        | exfalso; first | omega | contradiction
        | skip
          have e8 : k = 3 := by omega
          subst e8
          exact r_vret C hr dX2_dismissCursorsOver_36 ⟨rfl, rfl⟩ (Nat.le_of_ble_eq_true rfl) (Nat.le_of_ble_eq_true rfl)
      · first
        | exfalso; first | omega | contradiction
        | skip
          refine r_aload_n C dX2_dismissCursorsOver_7 rfl ?_
          refine s_get C 1 (by decide) qf_X2_24 rfl rfl dX2_dismissCursorsOver_8 ?_
          refine r_iload_n C dX2_dismissCursorsOver_11 rfl ?_
          refine s_curs C (by first | omega | (simp [up2, *]; done) | (simp [up2, *]; omega) | (simp only [up2_eq]; omega)) dX2_dismissCursorsOver_12 ?_
          refine u_getN (v := .int (nI (f 6 k))) hX C hE 0 (by first | omega | (simp [up2, *]; done) | (simp [up2, *]; omega) | (simp only [up2_eq]; omega)) (by decide) qn_X2_225 rfl rfl dX2_dismissCursorsOver_13 ?_
          refine r_iload_n C dX2_dismissCursorsOver_16 rfl ?_
          refine r_icN_ne (a := (f 6 k)) (b := w) (tgt := 30) C (by have := hU k (by omega); omega) (by first | omega | (simp [up2, *]; done) | (simp [up2, *]; omega) | (simp only [up2_eq]; omega)) dX2_dismissCursorsOver_17 (by decide) (fun h17_4 => ?_) (fun h17_4 => ?_)
          · first
            | exfalso; first | omega | contradiction
            | skip
              refine r_iincN C dX2_dismissCursorsOver_30 rfl (by decide) rfl ?_
              refine r_goto (tgt := 2) C dX2_dismissCursorsOver_33 (by decide) ?_
              refine r_w (congrArg (fun z => WC cy a z r kn ++ Y) (dcF_no (by assumption))) ?_
              exact ih_L2 (k + 1) (by omega)
          · first
            | exfalso; first | omega | contradiction
            | skip
              refine r_aload_n C dX2_dismissCursorsOver_20 rfl ?_
              refine s_get C 1 (by decide) qf_X2_24 rfl rfl dX2_dismissCursorsOver_21 ?_
              refine r_iload_n C dX2_dismissCursorsOver_24 rfl ?_
              refine s_curs C (by first | omega | (simp [up2, *]; done) | (simp [up2, *]; omega) | (simp only [up2_eq]; omega)) dX2_dismissCursorsOver_25 ?_
              refine r_iconst (v := (nI 0)) C dX2_dismissCursorsOver_26 (by decide) ?_
              refine u_putZN hX C hE (by first | omega | (simp [up2, *]; done) | (simp [up2, *]; omega) | (simp only [up2_eq]; omega)) (by first | omega | (simp [up2, *]; done) | (simp [up2, *]; omega) | (simp only [up2_eq]; omega)) qn_X2_221 dX2_dismissCursorsOver_27 ?_
              refine r_iincN C dX2_dismissCursorsOver_30 rfl (by decide) rfl ?_
              refine r_goto (tgt := 2) C dX2_dismissCursorsOver_33 (by decide) ?_
              refine r_w (congrArg (fun z => WC cy a z r kn ++ Y) (dcF_yes (by assumption))) ?_
              exact ih_L2 (k + 1) (by omega)
  exact L2 3 0 rfl
theorem pk_X2_dismissCursorsOver : PkV RX2 yX2_dismissCursorsOver cX2_dismissCursorsOver 3 none 1 := ⟨⟨qi_X2_dismissCursorsOver, qs_X2_dismissCursorsOver, qz_X2, qc_X2_dismissCursorsOver⟩, rfl, mh_X2.1, mh_X2.2, pd_6⟩
theorem dX2_dismissWindow_0 : decode cX2_dismissWindow 0 = .ok (.iconst 4, 1) := dqo_7 (kb_of ke_X2_dismissWindow 0 rfl)
theorem dX2_dismissWindow_1 : decode cX2_dismissWindow 1 = .ok (.istore_n 2, 1) := dqo_61 (kb_of ke_X2_dismissWindow 1 rfl)
theorem dX2_dismissWindow_2 : decode cX2_dismissWindow 2 = .ok (.iload_n 2, 1) := dqo_28 (kb_of ke_X2_dismissWindow 2 rfl)
theorem dX2_dismissWindow_3 : decode cX2_dismissWindow 3 = .ok (.bipush 8, 2) := dqo_16 8 (by decide) (kb_of ke_X2_dismissWindow 3 rfl) (kb_of ke_X2_dismissWindow 4 rfl)
theorem dX2_dismissWindow_5 : decode cX2_dismissWindow 5 = .ok (.if_icmp .ge 45, 3) := dqo_162 0 45 (by decide) (kb_of ke_X2_dismissWindow 5 rfl) (kb_of ke_X2_dismissWindow 6 rfl) (kb_of ke_X2_dismissWindow 7 rfl)
theorem dX2_dismissWindow_8 : decode cX2_dismissWindow 8 = .ok (.aload_n 0, 1) := dqo_42 (kb_of ke_X2_dismissWindow 8 rfl)
theorem dX2_dismissWindow_9 : decode cX2_dismissWindow 9 = .ok (.getfield 11, 3) := dqo_180 0 11 (kb_of ke_X2_dismissWindow 9 rfl) (kb_of ke_X2_dismissWindow 10 rfl) (kb_of ke_X2_dismissWindow 11 rfl)
theorem dX2_dismissWindow_12 : decode cX2_dismissWindow 12 = .ok (.iload_n 2, 1) := dqo_28 (kb_of ke_X2_dismissWindow 12 rfl)
theorem dX2_dismissWindow_13 : decode cX2_dismissWindow 13 = .ok (.aaload, 1) := dqo_50 (kb_of ke_X2_dismissWindow 13 rfl)
theorem dX2_dismissWindow_14 : decode cX2_dismissWindow 14 = .ok (.getfield 194, 3) := dqo_180 0 194 (kb_of ke_X2_dismissWindow 14 rfl) (kb_of ke_X2_dismissWindow 15 rfl) (kb_of ke_X2_dismissWindow 16 rfl)
theorem dX2_dismissWindow_17 : decode cX2_dismissWindow 17 = .ok (.ifCond .eq 27, 3) := dqo_153 0 27 (by decide) (kb_of ke_X2_dismissWindow 17 rfl) (kb_of ke_X2_dismissWindow 18 rfl) (kb_of ke_X2_dismissWindow 19 rfl)
theorem dX2_dismissWindow_20 : decode cX2_dismissWindow 20 = .ok (.aload_n 0, 1) := dqo_42 (kb_of ke_X2_dismissWindow 20 rfl)
theorem dX2_dismissWindow_21 : decode cX2_dismissWindow 21 = .ok (.iload_n 1, 1) := dqo_27 (kb_of ke_X2_dismissWindow 21 rfl)
theorem dX2_dismissWindow_22 : decode cX2_dismissWindow 22 = .ok (.iload_n 2, 1) := dqo_28 (kb_of ke_X2_dismissWindow 22 rfl)
theorem dX2_dismissWindow_23 : decode cX2_dismissWindow 23 = .ok (.invokevirtual 182, 3) := dqo_182 0 182 (kb_of ke_X2_dismissWindow 23 rfl) (kb_of ke_X2_dismissWindow 24 rfl) (kb_of ke_X2_dismissWindow 25 rfl)
theorem dX2_dismissWindow_26 : decode cX2_dismissWindow 26 = .ok (.ifCond .eq 18, 3) := dqo_153 0 18 (by decide) (kb_of ke_X2_dismissWindow 26 rfl) (kb_of ke_X2_dismissWindow 27 rfl) (kb_of ke_X2_dismissWindow 28 rfl)
theorem dX2_dismissWindow_29 : decode cX2_dismissWindow 29 = .ok (.aload_n 0, 1) := dqo_42 (kb_of ke_X2_dismissWindow 29 rfl)
theorem dX2_dismissWindow_30 : decode cX2_dismissWindow 30 = .ok (.getfield 11, 3) := dqo_180 0 11 (kb_of ke_X2_dismissWindow 30 rfl) (kb_of ke_X2_dismissWindow 31 rfl) (kb_of ke_X2_dismissWindow 32 rfl)
theorem dX2_dismissWindow_33 : decode cX2_dismissWindow 33 = .ok (.iload_n 2, 1) := dqo_28 (kb_of ke_X2_dismissWindow 33 rfl)
theorem dX2_dismissWindow_34 : decode cX2_dismissWindow 34 = .ok (.aaload, 1) := dqo_50 (kb_of ke_X2_dismissWindow 34 rfl)
theorem dX2_dismissWindow_35 : decode cX2_dismissWindow 35 = .ok (.iconst 0, 1) := dqo_3 (kb_of ke_X2_dismissWindow 35 rfl)
theorem dX2_dismissWindow_36 : decode cX2_dismissWindow 36 = .ok (.putfield 194, 3) := dqo_181 0 194 (kb_of ke_X2_dismissWindow 36 rfl) (kb_of ke_X2_dismissWindow 37 rfl) (kb_of ke_X2_dismissWindow 38 rfl)
theorem dX2_dismissWindow_39 : decode cX2_dismissWindow 39 = .ok (.aload_n 0, 1) := dqo_42 (kb_of ke_X2_dismissWindow 39 rfl)
theorem dX2_dismissWindow_40 : decode cX2_dismissWindow 40 = .ok (.iload_n 2, 1) := dqo_28 (kb_of ke_X2_dismissWindow 40 rfl)
theorem dX2_dismissWindow_41 : decode cX2_dismissWindow 41 = .ok (.invokevirtual 305, 3) := dqo_182 1 49 (kb_of ke_X2_dismissWindow 41 rfl) (kb_of ke_X2_dismissWindow 42 rfl) (kb_of ke_X2_dismissWindow 43 rfl)
theorem dX2_dismissWindow_44 : decode cX2_dismissWindow 44 = .ok (.iinc 2 1, 3) := dqo_132 2 1 (by decide) (kb_of ke_X2_dismissWindow 44 rfl) (kb_of ke_X2_dismissWindow 45 rfl) (kb_of ke_X2_dismissWindow 46 rfl)
theorem dX2_dismissWindow_47 : decode cX2_dismissWindow 47 = .ok (.goto (-45), 3) := dqo_167 255 211 (by decide) (kb_of ke_X2_dismissWindow 47 rfl) (kb_of ke_X2_dismissWindow 48 rfl) (kb_of ke_X2_dismissWindow 49 rfl)
theorem dX2_dismissWindow_50 : decode cX2_dismissWindow 50 = .ok (.return_, 1) := dqo_177 (kb_of ke_X2_dismissWindow 50 rfl)
set_option maxRecDepth 100000 in
set_option maxHeartbeats 4000000 in
theorem C_dismissWindow {l : Launch} {D : va_G} {cy : Nat → ClassId} {X : (Nat → Prop) → State → Heap → Prop} {a f : Nat → Nat → Nat} {r : Nat → Nat → Int32} {kn : Int32} {Y : va_W} {i : Nat} (hX : EnvX X) (hi8 : i < 8) (hU : ∀ k, k < 3 → f 6 k < 8) (hG : ∀ i, i < 8 → f 2 i < 8 ∨ f 2 i = 4294967295) (h5a : ∀ i, i < 8 → f 5 i ≤ 1) : Cd l D cy X yX2_dismissWindow cX2_dismissWindow 3 none (rmz 1 30) [.ref (a 0 0), .int (nI i)] (WC cy a f r kn ++ Y) none (WC cy a (dmF f i 8) r kn ++ Y) := by
  refine Cm.of [some (.ref (a 0 0)), some (.int (nI i)), none] pn_X2 rfl (Nat.le_of_ble_eq_true rfl) ?_
  intro p e s m args below meth c A C hE hr hnt hn
  refine r_iconst (v := (nI 4)) C dX2_dismissWindow_0 (by decide) ?_
  refine r_istore_n C dX2_dismissWindow_1 (by decide) rfl ?_
  refine r_w (congrArg (fun z => WC cy a z r kn ++ Y) (dmF_0 f i).symm) ?_
  have L2 : ∀ (d : Nat) (k : Nat), (hk : k + d = 8) → (hk4 : 4 ≤ k) → vC p l e (rmz 1 30) s m args below meth c D A (vx_MQ below (vG (fun v1 w1 => v1 = none ∧ w1 = WC cy a (dmF f i 8) r kn ++ Y) D vwCl A) (vGX (fun _ => False) D vwCl (WC cy a f r kn ++ Y) A) args s (rmz 1 30).cells (rmz 1 30).slots A) 3 0 0 (WC cy a (dmF f i k) r kn ++ Y) [some (.ref (a 0 0)), some (.int (nI i)), some (.int (nI k))] 2 [] := by
    intro d
    induction d with
    | zero =>
      intro k hk hk4
      refine r_iload_n C dX2_dismissWindow_2 rfl ?_
      refine r_bipush (v := (nI 8)) C dX2_dismissWindow_3 (by decide) ?_
      refine r_icN_ge (a := k) (b := 8) (tgt := 50) C (by first | omega | (simp [up2, *]; done) | (simp [up2, *]; omega) | (simp only [up2_eq]; omega)) (by first | omega | (simp [up2, *]; done) | (simp [up2, *]; omega) | (simp only [up2_eq]; omega)) dX2_dismissWindow_5 (by decide) (fun h5_1 => ?_) (fun h5_1 => ?_)
      · first
        | exfalso; first | omega | contradiction
        | skip
          have e8 : k = 8 := by omega
          subst e8
          exact r_vret C hr dX2_dismissWindow_50 ⟨rfl, rfl⟩ (Nat.le_of_ble_eq_true rfl) (Nat.le_of_ble_eq_true rfl)
      · first
        | exfalso; first | omega | contradiction
        | skip
          refine r_aload_n C dX2_dismissWindow_8 rfl ?_
          refine s_get C 0 (by decide) qf_X2_11 rfl rfl dX2_dismissWindow_9 ?_
          refine r_iload_n C dX2_dismissWindow_12 rfl ?_
          refine s_parts C (by first | omega | (simp [up2, *]; done) | (simp [up2, *]; omega) | (simp only [up2_eq]; omega)) dX2_dismissWindow_13 ?_
          refine p_getN (v := .int (nI (f 5 k))) hX C hE 5 (by first | omega | (simp [up2, *]; done) | (simp [up2, *]; omega) | (simp only [up2_eq]; omega)) (by decide) qn_X2_194 rfl (congrArg (fun z => some (Value.int (nI z))) (show (dmF f i k) 5 k = f 5 k by simp [up2, exL_at, dmF_at, *])) dX2_dismissWindow_14 ?_
          refine r_ifN_eq (a := (f 5 k)) (tgt := 44) C (by have := h5a k (by omega); omega) dX2_dismissWindow_17 (by decide) (fun h17_2 => ?_) (fun h17_2 => ?_)
          · first
            | exfalso; first | omega | contradiction
            | skip
              refine r_iincN C dX2_dismissWindow_44 rfl (by decide) rfl ?_
              refine r_goto (tgt := 2) C dX2_dismissWindow_47 (by decide) ?_
              refine r_w (congrArg (fun z => WC cy a z r kn ++ Y) (dmF_no (by first | exact Or.inl (by assumption) | exact Or.inr (by assumption)))) ?_
              exact (Nat.not_lt_zero _ (by omega)).elim
          · first
            | exfalso; first | omega | contradiction
            | skip
              refine r_aload_n C dX2_dismissWindow_20 rfl ?_
              refine r_iload_n C dX2_dismissWindow_21 rfl ?_
              refine r_iload_n C dX2_dismissWindow_22 rfl ?_
              refine d_V (st := []) hX.stb C hE (C_isHolder (f := (dmF f i k)) (r := r) (kn := kn) (h := i) (w := k) hX (by first | omega | (simp [up2, *]; done) | (simp [up2, *]; omega) | (simp only [up2_eq]; omega)) (by first | omega | (simp [up2, *]; done) | (simp [up2, *]; omega) | (simp only [up2_eq]; omega)) hG) pk_X2_isHolder qm_X2_182 0 6 rfl rfl wc_0 rfl rfl (Nat.le_of_ble_eq_true rfl) dX2_dismissWindow_23 ⟨Nat.le_of_ble_eq_true rfl, Nat.le_of_ble_eq_true rfl⟩ ⟨Nat.le_of_ble_eq_true rfl, Nat.le_of_ble_eq_true rfl⟩ ?_
              refine r_ifN_eq (a := (hol f i k)) (tgt := 44) C (Nat.lt_of_le_of_lt (hol_le _ _ _) (by decide)) dX2_dismissWindow_26 (by decide) (fun h26_3 => ?_) (fun h26_3 => ?_)
              · first
                | exfalso; first | omega | contradiction
                | skip
                  refine r_iincN C dX2_dismissWindow_44 rfl (by decide) rfl ?_
                  refine r_goto (tgt := 2) C dX2_dismissWindow_47 (by decide) ?_
                  refine r_w (congrArg (fun z => WC cy a z r kn ++ Y) (dmF_no (by first | exact Or.inl (by assumption) | exact Or.inr (by assumption)))) ?_
                  exact (Nat.not_lt_zero _ (by omega)).elim
              · first
                | exfalso; first | omega | contradiction
                | skip
                  refine r_aload_n C dX2_dismissWindow_29 rfl ?_
                  refine s_get C 0 (by decide) qf_X2_11 rfl rfl dX2_dismissWindow_30 ?_
                  refine r_iload_n C dX2_dismissWindow_33 rfl ?_
                  refine s_parts C (by first | omega | (simp [up2, *]; done) | (simp [up2, *]; omega) | (simp only [up2_eq]; omega)) dX2_dismissWindow_34 ?_
                  refine r_iconst (v := (nI 0)) C dX2_dismissWindow_35 (by decide) ?_
                  refine p_putZN hX C hE (by first | omega | (simp [up2, *]; done) | (simp [up2, *]; omega) | (simp only [up2_eq]; omega)) (by first | omega | (simp [up2, *]; done) | (simp [up2, *]; omega) | (simp only [up2_eq]; omega)) qn_X2_194 dX2_dismissWindow_36 ?_
                  refine r_aload_n C dX2_dismissWindow_39 rfl ?_
                  refine r_iload_n C dX2_dismissWindow_40 rfl ?_
                  refine d_Vv (st := []) hX.stb C hE (C_dismissCursorsOver (f := (up2 (dmF f i k) 5 k 0)) (r := r) (kn := kn) (w := k) hX (by first | omega | (simp [up2, *]; done) | (simp [up2, *]; omega) | (simp only [up2_eq]; omega)) hU) pk_X2_dismissCursorsOver qm_X2_305 0 6 rfl rfl wc_0 rfl rfl (Nat.le_of_ble_eq_true rfl) dX2_dismissWindow_41 ⟨Nat.le_of_ble_eq_true rfl, Nat.le_of_ble_eq_true rfl⟩ ⟨Nat.le_of_ble_eq_true rfl, Nat.le_of_ble_eq_true rfl⟩ ?_
                  refine r_iincN C dX2_dismissWindow_44 rfl (by decide) rfl ?_
                  refine r_goto (tgt := 2) C dX2_dismissWindow_47 (by decide) ?_
                  refine r_w (congrArg (fun z => WC cy a z r kn ++ Y) (dmF_yes (by omega) (by assumption) (by assumption))) ?_
                  exact (Nat.not_lt_zero _ (by omega)).elim
    | succ d ih_L2 =>
      intro k hk hk4
      refine r_iload_n C dX2_dismissWindow_2 rfl ?_
      refine r_bipush (v := (nI 8)) C dX2_dismissWindow_3 (by decide) ?_
      refine r_icN_ge (a := k) (b := 8) (tgt := 50) C (by first | omega | (simp [up2, *]; done) | (simp [up2, *]; omega) | (simp only [up2_eq]; omega)) (by first | omega | (simp [up2, *]; done) | (simp [up2, *]; omega) | (simp only [up2_eq]; omega)) dX2_dismissWindow_5 (by decide) (fun h5_4 => ?_) (fun h5_4 => ?_)
      · first
        | exfalso; first | omega | contradiction
        | skip
          have e8 : k = 8 := by omega
          subst e8
          exact r_vret C hr dX2_dismissWindow_50 ⟨rfl, rfl⟩ (Nat.le_of_ble_eq_true rfl) (Nat.le_of_ble_eq_true rfl)
      · first
        | exfalso; first | omega | contradiction
        | skip
          refine r_aload_n C dX2_dismissWindow_8 rfl ?_
          refine s_get C 0 (by decide) qf_X2_11 rfl rfl dX2_dismissWindow_9 ?_
          refine r_iload_n C dX2_dismissWindow_12 rfl ?_
          refine s_parts C (by first | omega | (simp [up2, *]; done) | (simp [up2, *]; omega) | (simp only [up2_eq]; omega)) dX2_dismissWindow_13 ?_
          refine p_getN (v := .int (nI (f 5 k))) hX C hE 5 (by first | omega | (simp [up2, *]; done) | (simp [up2, *]; omega) | (simp only [up2_eq]; omega)) (by decide) qn_X2_194 rfl (congrArg (fun z => some (Value.int (nI z))) (show (dmF f i k) 5 k = f 5 k by simp [up2, exL_at, dmF_at, *])) dX2_dismissWindow_14 ?_
          refine r_ifN_eq (a := (f 5 k)) (tgt := 44) C (by have := h5a k (by omega); omega) dX2_dismissWindow_17 (by decide) (fun h17_5 => ?_) (fun h17_5 => ?_)
          · first
            | exfalso; first | omega | contradiction
            | skip
              refine r_iincN C dX2_dismissWindow_44 rfl (by decide) rfl ?_
              refine r_goto (tgt := 2) C dX2_dismissWindow_47 (by decide) ?_
              refine r_w (congrArg (fun z => WC cy a z r kn ++ Y) (dmF_no (by first | exact Or.inl (by assumption) | exact Or.inr (by assumption)))) ?_
              exact ih_L2 (k + 1) (by omega) (by omega)
          · first
            | exfalso; first | omega | contradiction
            | skip
              refine r_aload_n C dX2_dismissWindow_20 rfl ?_
              refine r_iload_n C dX2_dismissWindow_21 rfl ?_
              refine r_iload_n C dX2_dismissWindow_22 rfl ?_
              refine d_V (st := []) hX.stb C hE (C_isHolder (f := (dmF f i k)) (r := r) (kn := kn) (h := i) (w := k) hX (by first | omega | (simp [up2, *]; done) | (simp [up2, *]; omega) | (simp only [up2_eq]; omega)) (by first | omega | (simp [up2, *]; done) | (simp [up2, *]; omega) | (simp only [up2_eq]; omega)) hG) pk_X2_isHolder qm_X2_182 0 6 rfl rfl wc_0 rfl rfl (Nat.le_of_ble_eq_true rfl) dX2_dismissWindow_23 ⟨Nat.le_of_ble_eq_true rfl, Nat.le_of_ble_eq_true rfl⟩ ⟨Nat.le_of_ble_eq_true rfl, Nat.le_of_ble_eq_true rfl⟩ ?_
              refine r_ifN_eq (a := (hol f i k)) (tgt := 44) C (Nat.lt_of_le_of_lt (hol_le _ _ _) (by decide)) dX2_dismissWindow_26 (by decide) (fun h26_6 => ?_) (fun h26_6 => ?_)
              · first
                | exfalso; first | omega | contradiction
                | skip
                  refine r_iincN C dX2_dismissWindow_44 rfl (by decide) rfl ?_
                  refine r_goto (tgt := 2) C dX2_dismissWindow_47 (by decide) ?_
                  refine r_w (congrArg (fun z => WC cy a z r kn ++ Y) (dmF_no (by first | exact Or.inl (by assumption) | exact Or.inr (by assumption)))) ?_
                  exact ih_L2 (k + 1) (by omega) (by omega)
              · first
                | exfalso; first | omega | contradiction
                | skip
                  refine r_aload_n C dX2_dismissWindow_29 rfl ?_
                  refine s_get C 0 (by decide) qf_X2_11 rfl rfl dX2_dismissWindow_30 ?_
                  refine r_iload_n C dX2_dismissWindow_33 rfl ?_
                  refine s_parts C (by first | omega | (simp [up2, *]; done) | (simp [up2, *]; omega) | (simp only [up2_eq]; omega)) dX2_dismissWindow_34 ?_
                  refine r_iconst (v := (nI 0)) C dX2_dismissWindow_35 (by decide) ?_
                  refine p_putZN hX C hE (by first | omega | (simp [up2, *]; done) | (simp [up2, *]; omega) | (simp only [up2_eq]; omega)) (by first | omega | (simp [up2, *]; done) | (simp [up2, *]; omega) | (simp only [up2_eq]; omega)) qn_X2_194 dX2_dismissWindow_36 ?_
                  refine r_aload_n C dX2_dismissWindow_39 rfl ?_
                  refine r_iload_n C dX2_dismissWindow_40 rfl ?_
                  refine d_Vv (st := []) hX.stb C hE (C_dismissCursorsOver (f := (up2 (dmF f i k) 5 k 0)) (r := r) (kn := kn) (w := k) hX (by first | omega | (simp [up2, *]; done) | (simp [up2, *]; omega) | (simp only [up2_eq]; omega)) hU) pk_X2_dismissCursorsOver qm_X2_305 0 6 rfl rfl wc_0 rfl rfl (Nat.le_of_ble_eq_true rfl) dX2_dismissWindow_41 ⟨Nat.le_of_ble_eq_true rfl, Nat.le_of_ble_eq_true rfl⟩ ⟨Nat.le_of_ble_eq_true rfl, Nat.le_of_ble_eq_true rfl⟩ ?_
                  refine r_iincN C dX2_dismissWindow_44 rfl (by decide) rfl ?_
                  refine r_goto (tgt := 2) C dX2_dismissWindow_47 (by decide) ?_
                  refine r_w (congrArg (fun z => WC cy a z r kn ++ Y) (dmF_yes (by omega) (by assumption) (by assumption))) ?_
                  exact ih_L2 (k + 1) (by omega) (by omega)
  exact L2 4 4 rfl (by omega)
theorem dX2_itemsOfRows_0 : decode cX2_itemsOfRows 0 = .ok (.iconst 0, 1) := dqo_3 (kb_of ke_X2_itemsOfRows 0 rfl)
theorem dX2_itemsOfRows_1 : decode cX2_itemsOfRows 1 = .ok (.istore_n 1, 1) := dqo_60 (kb_of ke_X2_itemsOfRows 1 rfl)
theorem dX2_itemsOfRows_2 : decode cX2_itemsOfRows 2 = .ok (.iconst 0, 1) := dqo_3 (kb_of ke_X2_itemsOfRows 2 rfl)
theorem dX2_itemsOfRows_3 : decode cX2_itemsOfRows 3 = .ok (.istore_n 2, 1) := dqo_61 (kb_of ke_X2_itemsOfRows 3 rfl)
theorem dX2_itemsOfRows_4 : decode cX2_itemsOfRows 4 = .ok (.iload_n 2, 1) := dqo_28 (kb_of ke_X2_itemsOfRows 4 rfl)
theorem dX2_itemsOfRows_5 : decode cX2_itemsOfRows 5 = .ok (.iconst 4, 1) := dqo_7 (kb_of ke_X2_itemsOfRows 5 rfl)
theorem dX2_itemsOfRows_6 : decode cX2_itemsOfRows 6 = .ok (.if_icmp .ge 21, 3) := dqo_162 0 21 (by decide) (kb_of ke_X2_itemsOfRows 6 rfl) (kb_of ke_X2_itemsOfRows 7 rfl) (kb_of ke_X2_itemsOfRows 8 rfl)
theorem dX2_itemsOfRows_9 : decode cX2_itemsOfRows 9 = .ok (.iload_n 1, 1) := dqo_27 (kb_of ke_X2_itemsOfRows 9 rfl)
theorem dX2_itemsOfRows_10 : decode cX2_itemsOfRows 10 = .ok (.aload_n 0, 1) := dqo_42 (kb_of ke_X2_itemsOfRows 10 rfl)
theorem dX2_itemsOfRows_11 : decode cX2_itemsOfRows 11 = .ok (.getfield 11, 3) := dqo_180 0 11 (kb_of ke_X2_itemsOfRows 11 rfl) (kb_of ke_X2_itemsOfRows 12 rfl) (kb_of ke_X2_itemsOfRows 13 rfl)
theorem dX2_itemsOfRows_14 : decode cX2_itemsOfRows 14 = .ok (.iload_n 2, 1) := dqo_28 (kb_of ke_X2_itemsOfRows 14 rfl)
theorem dX2_itemsOfRows_15 : decode cX2_itemsOfRows 15 = .ok (.aaload, 1) := dqo_50 (kb_of ke_X2_itemsOfRows 15 rfl)
theorem dX2_itemsOfRows_16 : decode cX2_itemsOfRows 16 = .ok (.getfield 50, 3) := dqo_180 0 50 (kb_of ke_X2_itemsOfRows 16 rfl) (kb_of ke_X2_itemsOfRows 17 rfl) (kb_of ke_X2_itemsOfRows 18 rfl)
theorem dX2_itemsOfRows_19 : decode cX2_itemsOfRows 19 = .ok (.iadd, 1) := dqo_96 (kb_of ke_X2_itemsOfRows 19 rfl)
theorem dX2_itemsOfRows_20 : decode cX2_itemsOfRows 20 = .ok (.istore_n 1, 1) := dqo_60 (kb_of ke_X2_itemsOfRows 20 rfl)
theorem dX2_itemsOfRows_21 : decode cX2_itemsOfRows 21 = .ok (.iinc 2 1, 3) := dqo_132 2 1 (by decide) (kb_of ke_X2_itemsOfRows 21 rfl) (kb_of ke_X2_itemsOfRows 22 rfl) (kb_of ke_X2_itemsOfRows 23 rfl)
theorem dX2_itemsOfRows_24 : decode cX2_itemsOfRows 24 = .ok (.goto (-20), 3) := dqo_167 255 236 (by decide) (kb_of ke_X2_itemsOfRows 24 rfl) (kb_of ke_X2_itemsOfRows 25 rfl) (kb_of ke_X2_itemsOfRows 26 rfl)
theorem dX2_itemsOfRows_27 : decode cX2_itemsOfRows 27 = .ok (.iload_n 1, 1) := dqo_27 (kb_of ke_X2_itemsOfRows 27 rfl)
theorem dX2_itemsOfRows_28 : decode cX2_itemsOfRows 28 = .ok (.ireturn, 1) := dqo_172 (kb_of ke_X2_itemsOfRows 28 rfl)
set_option maxRecDepth 100000 in
set_option maxHeartbeats 4000000 in
theorem C_itemsOfRows {l : Launch} {D : va_G} {cy : Nat → ClassId} {X : (Nat → Prop) → State → Heap → Prop} {a f : Nat → Nat → Nat} {r : Nat → Nat → Int32} {kn : Int32} {Y : va_W}  (hX : EnvX X) (h4a : ∀ i, i < 4 → f 4 i ≤ 12) : Cd l D cy X yX2_itemsOfRows cX2_itemsOfRows 3 (some .int) (rmz 0 0) [.ref (a 0 0)] (WC cy a f r kn ++ Y) (some (.int (nI (smF (f 4) 4 0 0)))) (WC cy a f r kn ++ Y) := by
  refine Cm.of [some (.ref (a 0 0)), none, none] pn_X2 rfl (Nat.le_of_ble_eq_true rfl) ?_
  intro p e s m args below meth c A C hE hr hnt hn
  refine r_iconst (v := (nI 0)) C dX2_itemsOfRows_0 (by decide) ?_
  refine r_istore_n C dX2_itemsOfRows_1 (by decide) rfl ?_
  refine r_iconst (v := (nI 0)) C dX2_itemsOfRows_2 (by decide) ?_
  refine r_istore_n C dX2_itemsOfRows_3 (by decide) rfl ?_
  have L4 : ∀ (d : Nat) (k : Nat) (z : Nat), (hk : k + d = 4) → (hz : z ≤ 12 * k) → (hF : smF (f 4) d k z = smF (f 4) 4 0 0) → vC p l e (rmz 0 0) s m args below meth c D A (vx_MQ below (vG (fun v1 w1 => v1 = (some (.int (nI (smF (f 4) 4 0 0)))) ∧ w1 = WC cy a f r kn ++ Y) D vwCl A) (vGX (fun _ => False) D vwCl (WC cy a f r kn ++ Y) A) args s (rmz 0 0).cells (rmz 0 0).slots A) 3 0 0 (WC cy a f r kn ++ Y) [some (.ref (a 0 0)), some (.int (nI z)), some (.int (nI k))] 4 [] := by
    intro d
    induction d with
    | zero =>
      intro k z hk hz hF
      refine r_iload_n C dX2_itemsOfRows_4 rfl ?_
      refine r_iconst (v := (nI 4)) C dX2_itemsOfRows_5 (by decide) ?_
      refine r_icN_ge (a := k) (b := 4) (tgt := 27) C (by first | omega | (simp [up2, *]; done) | (simp [up2, *]; omega) | (simp only [up2_eq]; omega)) (by first | omega | (simp [up2, *]; done) | (simp [up2, *]; omega) | (simp only [up2_eq]; omega)) dX2_itemsOfRows_6 (by decide) (fun h6_1 => ?_) (fun h6_1 => ?_)
      · first
        | exfalso; first | omega | contradiction
        | skip
          refine r_iload_n C dX2_itemsOfRows_27 rfl ?_
          exact r_iret C hr dX2_itemsOfRows_28 ⟨by rw [← hF]; rfl, rfl⟩ (Nat.le_of_ble_eq_true rfl) (Nat.le_of_ble_eq_true rfl)
      · first
        | exfalso; first | omega | contradiction
        | skip
          refine r_iload_n C dX2_itemsOfRows_9 rfl ?_
          refine r_aload_n C dX2_itemsOfRows_10 rfl ?_
          refine s_get C 0 (by decide) qf_X2_11 rfl rfl dX2_itemsOfRows_11 ?_
          refine r_iload_n C dX2_itemsOfRows_14 rfl ?_
          refine s_parts C (by first | omega | (simp [up2, *]; done) | (simp [up2, *]; omega) | (simp only [up2_eq]; omega)) dX2_itemsOfRows_15 ?_
          refine p_getN (v := .int (nI (f 4 k))) hX C hE 4 (by first | omega | (simp [up2, *]; done) | (simp [up2, *]; omega) | (simp only [up2_eq]; omega)) (by decide) qn_X2_50 rfl rfl dX2_itemsOfRows_16 ?_
          refine r_iaddN C dX2_itemsOfRows_19 ?_
          refine r_istore_n C dX2_itemsOfRows_20 (by decide) rfl ?_
          refine r_iincN C dX2_itemsOfRows_21 rfl (by decide) rfl ?_
          refine r_goto (tgt := 4) C dX2_itemsOfRows_24 (by decide) ?_
          exact (Nat.not_lt_zero _ (by omega)).elim
    | succ d ih_L4 =>
      intro k z hk hz hF
      refine r_iload_n C dX2_itemsOfRows_4 rfl ?_
      refine r_iconst (v := (nI 4)) C dX2_itemsOfRows_5 (by decide) ?_
      refine r_icN_ge (a := k) (b := 4) (tgt := 27) C (by first | omega | (simp [up2, *]; done) | (simp [up2, *]; omega) | (simp only [up2_eq]; omega)) (by first | omega | (simp [up2, *]; done) | (simp [up2, *]; omega) | (simp only [up2_eq]; omega)) dX2_itemsOfRows_6 (by decide) (fun h6_2 => ?_) (fun h6_2 => ?_)
      · first
        | exfalso; first | omega | contradiction
        | skip
          refine r_iload_n C dX2_itemsOfRows_27 rfl ?_
          exact r_iret C hr dX2_itemsOfRows_28 ⟨by rw [← hF]; rfl, rfl⟩ (Nat.le_of_ble_eq_true rfl) (Nat.le_of_ble_eq_true rfl)
      · first
        | exfalso; first | omega | contradiction
        | skip
          refine r_iload_n C dX2_itemsOfRows_9 rfl ?_
          refine r_aload_n C dX2_itemsOfRows_10 rfl ?_
          refine s_get C 0 (by decide) qf_X2_11 rfl rfl dX2_itemsOfRows_11 ?_
          refine r_iload_n C dX2_itemsOfRows_14 rfl ?_
          refine s_parts C (by first | omega | (simp [up2, *]; done) | (simp [up2, *]; omega) | (simp only [up2_eq]; omega)) dX2_itemsOfRows_15 ?_
          refine p_getN (v := .int (nI (f 4 k))) hX C hE 4 (by first | omega | (simp [up2, *]; done) | (simp [up2, *]; omega) | (simp only [up2_eq]; omega)) (by decide) qn_X2_50 rfl rfl dX2_itemsOfRows_16 ?_
          refine r_iaddN C dX2_itemsOfRows_19 ?_
          refine r_istore_n C dX2_itemsOfRows_20 (by decide) rfl ?_
          refine r_iincN C dX2_itemsOfRows_21 rfl (by decide) rfl ?_
          refine r_goto (tgt := 4) C dX2_itemsOfRows_24 (by decide) ?_
          exact ih_L4 (k + 1) (z + (f 4 k)) (by omega) (by first | omega | (have := h4a k (by omega); omega)) (by rw [← hF]; rfl)
  exact L4 4 0 0 rfl (by omega) rfl
theorem dX2_windowsThere_0 : decode cX2_windowsThere 0 = .ok (.iconst 0, 1) := dqo_3 (kb_of ke_X2_windowsThere 0 rfl)
theorem dX2_windowsThere_1 : decode cX2_windowsThere 1 = .ok (.istore_n 1, 1) := dqo_60 (kb_of ke_X2_windowsThere 1 rfl)
theorem dX2_windowsThere_2 : decode cX2_windowsThere 2 = .ok (.iconst 4, 1) := dqo_7 (kb_of ke_X2_windowsThere 2 rfl)
theorem dX2_windowsThere_3 : decode cX2_windowsThere 3 = .ok (.istore_n 2, 1) := dqo_61 (kb_of ke_X2_windowsThere 3 rfl)
theorem dX2_windowsThere_4 : decode cX2_windowsThere 4 = .ok (.iload_n 2, 1) := dqo_28 (kb_of ke_X2_windowsThere 4 rfl)
theorem dX2_windowsThere_5 : decode cX2_windowsThere 5 = .ok (.bipush 8, 2) := dqo_16 8 (by decide) (kb_of ke_X2_windowsThere 5 rfl) (kb_of ke_X2_windowsThere 6 rfl)
theorem dX2_windowsThere_7 : decode cX2_windowsThere 7 = .ok (.if_icmp .ge 29, 3) := dqo_162 0 29 (by decide) (kb_of ke_X2_windowsThere 7 rfl) (kb_of ke_X2_windowsThere 8 rfl) (kb_of ke_X2_windowsThere 9 rfl)
theorem dX2_windowsThere_10 : decode cX2_windowsThere 10 = .ok (.iload_n 1, 1) := dqo_27 (kb_of ke_X2_windowsThere 10 rfl)
theorem dX2_windowsThere_11 : decode cX2_windowsThere 11 = .ok (.aload_n 0, 1) := dqo_42 (kb_of ke_X2_windowsThere 11 rfl)
theorem dX2_windowsThere_12 : decode cX2_windowsThere 12 = .ok (.getfield 11, 3) := dqo_180 0 11 (kb_of ke_X2_windowsThere 12 rfl) (kb_of ke_X2_windowsThere 13 rfl) (kb_of ke_X2_windowsThere 14 rfl)
theorem dX2_windowsThere_15 : decode cX2_windowsThere 15 = .ok (.iload_n 2, 1) := dqo_28 (kb_of ke_X2_windowsThere 15 rfl)
theorem dX2_windowsThere_16 : decode cX2_windowsThere 16 = .ok (.aaload, 1) := dqo_50 (kb_of ke_X2_windowsThere 16 rfl)
theorem dX2_windowsThere_17 : decode cX2_windowsThere 17 = .ok (.getfield 194, 3) := dqo_180 0 194 (kb_of ke_X2_windowsThere 17 rfl) (kb_of ke_X2_windowsThere 18 rfl) (kb_of ke_X2_windowsThere 19 rfl)
theorem dX2_windowsThere_20 : decode cX2_windowsThere 20 = .ok (.ifCond .eq 7, 3) := dqo_153 0 7 (by decide) (kb_of ke_X2_windowsThere 20 rfl) (kb_of ke_X2_windowsThere 21 rfl) (kb_of ke_X2_windowsThere 22 rfl)
theorem dX2_windowsThere_23 : decode cX2_windowsThere 23 = .ok (.iconst 1, 1) := dqo_4 (kb_of ke_X2_windowsThere 23 rfl)
theorem dX2_windowsThere_24 : decode cX2_windowsThere 24 = .ok (.goto 4, 3) := dqo_167 0 4 (by decide) (kb_of ke_X2_windowsThere 24 rfl) (kb_of ke_X2_windowsThere 25 rfl) (kb_of ke_X2_windowsThere 26 rfl)
theorem dX2_windowsThere_27 : decode cX2_windowsThere 27 = .ok (.iconst 0, 1) := dqo_3 (kb_of ke_X2_windowsThere 27 rfl)
theorem dX2_windowsThere_28 : decode cX2_windowsThere 28 = .ok (.iadd, 1) := dqo_96 (kb_of ke_X2_windowsThere 28 rfl)
theorem dX2_windowsThere_29 : decode cX2_windowsThere 29 = .ok (.istore_n 1, 1) := dqo_60 (kb_of ke_X2_windowsThere 29 rfl)
theorem dX2_windowsThere_30 : decode cX2_windowsThere 30 = .ok (.iinc 2 1, 3) := dqo_132 2 1 (by decide) (kb_of ke_X2_windowsThere 30 rfl) (kb_of ke_X2_windowsThere 31 rfl) (kb_of ke_X2_windowsThere 32 rfl)
theorem dX2_windowsThere_33 : decode cX2_windowsThere 33 = .ok (.goto (-29), 3) := dqo_167 255 227 (by decide) (kb_of ke_X2_windowsThere 33 rfl) (kb_of ke_X2_windowsThere 34 rfl) (kb_of ke_X2_windowsThere 35 rfl)
theorem dX2_windowsThere_36 : decode cX2_windowsThere 36 = .ok (.iload_n 1, 1) := dqo_27 (kb_of ke_X2_windowsThere 36 rfl)
theorem dX2_windowsThere_37 : decode cX2_windowsThere 37 = .ok (.ireturn, 1) := dqo_172 (kb_of ke_X2_windowsThere 37 rfl)
set_option maxRecDepth 100000 in
set_option maxHeartbeats 4000000 in
theorem C_windowsThere {l : Launch} {D : va_G} {cy : Nat → ClassId} {X : (Nat → Prop) → State → Heap → Prop} {a f : Nat → Nat → Nat} {r : Nat → Nat → Int32} {kn : Int32} {Y : va_W}  (hX : EnvX X) (h5a : ∀ i, i < 8 → f 5 i ≤ 1) : Cd l D cy X yX2_windowsThere cX2_windowsThere 3 (some .int) (rmz 0 0) [.ref (a 0 0)] (WC cy a f r kn ++ Y) (some (.int (nI (smF (f 5) 4 4 0)))) (WC cy a f r kn ++ Y) := by
  refine Cm.of [some (.ref (a 0 0)), none, none] pn_X2 rfl (Nat.le_of_ble_eq_true rfl) ?_
  intro p e s m args below meth c A C hE hr hnt hn
  refine r_iconst (v := (nI 0)) C dX2_windowsThere_0 (by decide) ?_
  refine r_istore_n C dX2_windowsThere_1 (by decide) rfl ?_
  refine r_iconst (v := (nI 4)) C dX2_windowsThere_2 (by decide) ?_
  refine r_istore_n C dX2_windowsThere_3 (by decide) rfl ?_
  have L4 : ∀ (d : Nat) (k : Nat) (z : Nat), (hk : k + d = 8) → (hz : z ≤ 12 * k) → (hF : smF (f 5) d k z = smF (f 5) 4 4 0) → (hk4 : 4 ≤ k) → vC p l e (rmz 0 0) s m args below meth c D A (vx_MQ below (vG (fun v1 w1 => v1 = (some (.int (nI (smF (f 5) 4 4 0)))) ∧ w1 = WC cy a f r kn ++ Y) D vwCl A) (vGX (fun _ => False) D vwCl (WC cy a f r kn ++ Y) A) args s (rmz 0 0).cells (rmz 0 0).slots A) 3 0 0 (WC cy a f r kn ++ Y) [some (.ref (a 0 0)), some (.int (nI z)), some (.int (nI k))] 4 [] := by
    intro d
    induction d with
    | zero =>
      intro k z hk hz hF hk4
      refine r_iload_n C dX2_windowsThere_4 rfl ?_
      refine r_bipush (v := (nI 8)) C dX2_windowsThere_5 (by decide) ?_
      refine r_icN_ge (a := k) (b := 8) (tgt := 36) C (by first | omega | (simp [up2, *]; done) | (simp [up2, *]; omega) | (simp only [up2_eq]; omega)) (by first | omega | (simp [up2, *]; done) | (simp [up2, *]; omega) | (simp only [up2_eq]; omega)) dX2_windowsThere_7 (by decide) (fun h7_1 => ?_) (fun h7_1 => ?_)
      · first
        | exfalso; first | omega | contradiction
        | skip
          refine r_iload_n C dX2_windowsThere_36 rfl ?_
          exact r_iret C hr dX2_windowsThere_37 ⟨by rw [← hF]; rfl, rfl⟩ (Nat.le_of_ble_eq_true rfl) (Nat.le_of_ble_eq_true rfl)
      · first
        | exfalso; first | omega | contradiction
        | skip
          refine r_iload_n C dX2_windowsThere_10 rfl ?_
          refine r_aload_n C dX2_windowsThere_11 rfl ?_
          refine s_get C 0 (by decide) qf_X2_11 rfl rfl dX2_windowsThere_12 ?_
          refine r_iload_n C dX2_windowsThere_15 rfl ?_
          refine s_parts C (by first | omega | (simp [up2, *]; done) | (simp [up2, *]; omega) | (simp only [up2_eq]; omega)) dX2_windowsThere_16 ?_
          refine p_getN (v := .int (nI (f 5 k))) hX C hE 5 (by first | omega | (simp [up2, *]; done) | (simp [up2, *]; omega) | (simp only [up2_eq]; omega)) (by decide) qn_X2_194 rfl rfl dX2_windowsThere_17 ?_
          refine r_ifN_eq (a := (f 5 k)) (tgt := 27) C (by have := h5a k (by omega); omega) dX2_windowsThere_20 (by decide) (fun h20_2 => ?_) (fun h20_2 => ?_)
          · first
            | exfalso; first | omega | contradiction
            | skip
              refine r_iconst (v := (nI 0)) C dX2_windowsThere_27 (by decide) ?_
              refine r_iaddN C dX2_windowsThere_28 ?_
              refine r_istore_n C dX2_windowsThere_29 (by decide) rfl ?_
              refine r_iincN C dX2_windowsThere_30 rfl (by decide) rfl ?_
              refine r_goto (tgt := 4) C dX2_windowsThere_33 (by decide) ?_
              exact (Nat.not_lt_zero _ (by omega)).elim
          · first
            | exfalso; first | omega | contradiction
            | skip
              refine r_iconst (v := (nI 1)) C dX2_windowsThere_23 (by decide) ?_
              refine r_goto (tgt := 28) C dX2_windowsThere_24 (by decide) ?_
              refine r_iaddN C dX2_windowsThere_28 ?_
              refine r_istore_n C dX2_windowsThere_29 (by decide) rfl ?_
              refine r_iincN C dX2_windowsThere_30 rfl (by decide) rfl ?_
              refine r_goto (tgt := 4) C dX2_windowsThere_33 (by decide) ?_
              exact (Nat.not_lt_zero _ (by omega)).elim
    | succ d ih_L4 =>
      intro k z hk hz hF hk4
      refine r_iload_n C dX2_windowsThere_4 rfl ?_
      refine r_bipush (v := (nI 8)) C dX2_windowsThere_5 (by decide) ?_
      refine r_icN_ge (a := k) (b := 8) (tgt := 36) C (by first | omega | (simp [up2, *]; done) | (simp [up2, *]; omega) | (simp only [up2_eq]; omega)) (by first | omega | (simp [up2, *]; done) | (simp [up2, *]; omega) | (simp only [up2_eq]; omega)) dX2_windowsThere_7 (by decide) (fun h7_3 => ?_) (fun h7_3 => ?_)
      · first
        | exfalso; first | omega | contradiction
        | skip
          refine r_iload_n C dX2_windowsThere_36 rfl ?_
          exact r_iret C hr dX2_windowsThere_37 ⟨by rw [← hF]; rfl, rfl⟩ (Nat.le_of_ble_eq_true rfl) (Nat.le_of_ble_eq_true rfl)
      · first
        | exfalso; first | omega | contradiction
        | skip
          refine r_iload_n C dX2_windowsThere_10 rfl ?_
          refine r_aload_n C dX2_windowsThere_11 rfl ?_
          refine s_get C 0 (by decide) qf_X2_11 rfl rfl dX2_windowsThere_12 ?_
          refine r_iload_n C dX2_windowsThere_15 rfl ?_
          refine s_parts C (by first | omega | (simp [up2, *]; done) | (simp [up2, *]; omega) | (simp only [up2_eq]; omega)) dX2_windowsThere_16 ?_
          refine p_getN (v := .int (nI (f 5 k))) hX C hE 5 (by first | omega | (simp [up2, *]; done) | (simp [up2, *]; omega) | (simp only [up2_eq]; omega)) (by decide) qn_X2_194 rfl rfl dX2_windowsThere_17 ?_
          refine r_ifN_eq (a := (f 5 k)) (tgt := 27) C (by have := h5a k (by omega); omega) dX2_windowsThere_20 (by decide) (fun h20_4 => ?_) (fun h20_4 => ?_)
          · first
            | exfalso; first | omega | contradiction
            | skip
              refine r_iconst (v := (nI 0)) C dX2_windowsThere_27 (by decide) ?_
              refine r_iaddN C dX2_windowsThere_28 ?_
              refine r_istore_n C dX2_windowsThere_29 (by decide) rfl ?_
              refine r_iincN C dX2_windowsThere_30 rfl (by decide) rfl ?_
              refine r_goto (tgt := 4) C dX2_windowsThere_33 (by decide) ?_
              exact ih_L4 (k + 1) (z + 0) (by omega) (by first | omega | (have := h5a k (by omega); omega)) (by rw [← hF]; simp only [smF]; congr 1; have h8 := h5a k (by omega); omega) (by omega)
          · first
            | exfalso; first | omega | contradiction
            | skip
              refine r_iconst (v := (nI 1)) C dX2_windowsThere_23 (by decide) ?_
              refine r_goto (tgt := 28) C dX2_windowsThere_24 (by decide) ?_
              refine r_iaddN C dX2_windowsThere_28 ?_
              refine r_istore_n C dX2_windowsThere_29 (by decide) rfl ?_
              refine r_iincN C dX2_windowsThere_30 rfl (by decide) rfl ?_
              refine r_goto (tgt := 4) C dX2_windowsThere_33 (by decide) ?_
              exact ih_L4 (k + 1) (z + 1) (by omega) (by first | omega | (have := h5a k (by omega); omega)) (by rw [← hF]; simp only [smF]; congr 1; have h8 := h5a k (by omega); omega) (by omega)
  exact L4 4 4 0 rfl (by omega) rfl (by omega)
theorem dX2_cursorsThere_0 : decode cX2_cursorsThere 0 = .ok (.iconst 0, 1) := dqo_3 (kb_of ke_X2_cursorsThere 0 rfl)
theorem dX2_cursorsThere_1 : decode cX2_cursorsThere 1 = .ok (.istore_n 1, 1) := dqo_60 (kb_of ke_X2_cursorsThere 1 rfl)
theorem dX2_cursorsThere_2 : decode cX2_cursorsThere 2 = .ok (.iconst 0, 1) := dqo_3 (kb_of ke_X2_cursorsThere 2 rfl)
theorem dX2_cursorsThere_3 : decode cX2_cursorsThere 3 = .ok (.istore_n 2, 1) := dqo_61 (kb_of ke_X2_cursorsThere 3 rfl)
theorem dX2_cursorsThere_4 : decode cX2_cursorsThere 4 = .ok (.iload_n 2, 1) := dqo_28 (kb_of ke_X2_cursorsThere 4 rfl)
theorem dX2_cursorsThere_5 : decode cX2_cursorsThere 5 = .ok (.iconst 3, 1) := dqo_6 (kb_of ke_X2_cursorsThere 5 rfl)
theorem dX2_cursorsThere_6 : decode cX2_cursorsThere 6 = .ok (.if_icmp .ge 29, 3) := dqo_162 0 29 (by decide) (kb_of ke_X2_cursorsThere 6 rfl) (kb_of ke_X2_cursorsThere 7 rfl) (kb_of ke_X2_cursorsThere 8 rfl)
theorem dX2_cursorsThere_9 : decode cX2_cursorsThere 9 = .ok (.iload_n 1, 1) := dqo_27 (kb_of ke_X2_cursorsThere 9 rfl)
theorem dX2_cursorsThere_10 : decode cX2_cursorsThere 10 = .ok (.aload_n 0, 1) := dqo_42 (kb_of ke_X2_cursorsThere 10 rfl)
theorem dX2_cursorsThere_11 : decode cX2_cursorsThere 11 = .ok (.getfield 24, 3) := dqo_180 0 24 (kb_of ke_X2_cursorsThere 11 rfl) (kb_of ke_X2_cursorsThere 12 rfl) (kb_of ke_X2_cursorsThere 13 rfl)
theorem dX2_cursorsThere_14 : decode cX2_cursorsThere 14 = .ok (.iload_n 2, 1) := dqo_28 (kb_of ke_X2_cursorsThere 14 rfl)
theorem dX2_cursorsThere_15 : decode cX2_cursorsThere 15 = .ok (.aaload, 1) := dqo_50 (kb_of ke_X2_cursorsThere 15 rfl)
theorem dX2_cursorsThere_16 : decode cX2_cursorsThere 16 = .ok (.getfield 221, 3) := dqo_180 0 221 (kb_of ke_X2_cursorsThere 16 rfl) (kb_of ke_X2_cursorsThere 17 rfl) (kb_of ke_X2_cursorsThere 18 rfl)
theorem dX2_cursorsThere_19 : decode cX2_cursorsThere 19 = .ok (.ifCond .eq 7, 3) := dqo_153 0 7 (by decide) (kb_of ke_X2_cursorsThere 19 rfl) (kb_of ke_X2_cursorsThere 20 rfl) (kb_of ke_X2_cursorsThere 21 rfl)
theorem dX2_cursorsThere_22 : decode cX2_cursorsThere 22 = .ok (.iconst 1, 1) := dqo_4 (kb_of ke_X2_cursorsThere 22 rfl)
theorem dX2_cursorsThere_23 : decode cX2_cursorsThere 23 = .ok (.goto 4, 3) := dqo_167 0 4 (by decide) (kb_of ke_X2_cursorsThere 23 rfl) (kb_of ke_X2_cursorsThere 24 rfl) (kb_of ke_X2_cursorsThere 25 rfl)
theorem dX2_cursorsThere_26 : decode cX2_cursorsThere 26 = .ok (.iconst 0, 1) := dqo_3 (kb_of ke_X2_cursorsThere 26 rfl)
theorem dX2_cursorsThere_27 : decode cX2_cursorsThere 27 = .ok (.iadd, 1) := dqo_96 (kb_of ke_X2_cursorsThere 27 rfl)
theorem dX2_cursorsThere_28 : decode cX2_cursorsThere 28 = .ok (.istore_n 1, 1) := dqo_60 (kb_of ke_X2_cursorsThere 28 rfl)
theorem dX2_cursorsThere_29 : decode cX2_cursorsThere 29 = .ok (.iinc 2 1, 3) := dqo_132 2 1 (by decide) (kb_of ke_X2_cursorsThere 29 rfl) (kb_of ke_X2_cursorsThere 30 rfl) (kb_of ke_X2_cursorsThere 31 rfl)
theorem dX2_cursorsThere_32 : decode cX2_cursorsThere 32 = .ok (.goto (-28), 3) := dqo_167 255 228 (by decide) (kb_of ke_X2_cursorsThere 32 rfl) (kb_of ke_X2_cursorsThere 33 rfl) (kb_of ke_X2_cursorsThere 34 rfl)
theorem dX2_cursorsThere_35 : decode cX2_cursorsThere 35 = .ok (.iload_n 1, 1) := dqo_27 (kb_of ke_X2_cursorsThere 35 rfl)
theorem dX2_cursorsThere_36 : decode cX2_cursorsThere 36 = .ok (.ireturn, 1) := dqo_172 (kb_of ke_X2_cursorsThere 36 rfl)
set_option maxRecDepth 100000 in
set_option maxHeartbeats 4000000 in
theorem C_cursorsThere {l : Launch} {D : va_G} {cy : Nat → ClassId} {X : (Nat → Prop) → State → Heap → Prop} {a f : Nat → Nat → Nat} {r : Nat → Nat → Int32} {kn : Int32} {Y : va_W}  (hX : EnvX X) (h9a : ∀ k, k < 3 → f 9 k ≤ 1) : Cd l D cy X yX2_cursorsThere cX2_cursorsThere 3 (some .int) (rmz 0 0) [.ref (a 0 0)] (WC cy a f r kn ++ Y) (some (.int (nI (smF (f 9) 3 0 0)))) (WC cy a f r kn ++ Y) := by
  refine Cm.of [some (.ref (a 0 0)), none, none] pn_X2 rfl (Nat.le_of_ble_eq_true rfl) ?_
  intro p e s m args below meth c A C hE hr hnt hn
  refine r_iconst (v := (nI 0)) C dX2_cursorsThere_0 (by decide) ?_
  refine r_istore_n C dX2_cursorsThere_1 (by decide) rfl ?_
  refine r_iconst (v := (nI 0)) C dX2_cursorsThere_2 (by decide) ?_
  refine r_istore_n C dX2_cursorsThere_3 (by decide) rfl ?_
  have L4 : ∀ (d : Nat) (k : Nat) (z : Nat), (hk : k + d = 3) → (hz : z ≤ 12 * k) → (hF : smF (f 9) d k z = smF (f 9) 3 0 0) → vC p l e (rmz 0 0) s m args below meth c D A (vx_MQ below (vG (fun v1 w1 => v1 = (some (.int (nI (smF (f 9) 3 0 0)))) ∧ w1 = WC cy a f r kn ++ Y) D vwCl A) (vGX (fun _ => False) D vwCl (WC cy a f r kn ++ Y) A) args s (rmz 0 0).cells (rmz 0 0).slots A) 3 0 0 (WC cy a f r kn ++ Y) [some (.ref (a 0 0)), some (.int (nI z)), some (.int (nI k))] 4 [] := by
    intro d
    induction d with
    | zero =>
      intro k z hk hz hF
      refine r_iload_n C dX2_cursorsThere_4 rfl ?_
      refine r_iconst (v := (nI 3)) C dX2_cursorsThere_5 (by decide) ?_
      refine r_icN_ge (a := k) (b := 3) (tgt := 35) C (by first | omega | (simp [up2, *]; done) | (simp [up2, *]; omega) | (simp only [up2_eq]; omega)) (by first | omega | (simp [up2, *]; done) | (simp [up2, *]; omega) | (simp only [up2_eq]; omega)) dX2_cursorsThere_6 (by decide) (fun h6_1 => ?_) (fun h6_1 => ?_)
      · first
        | exfalso; first | omega | contradiction
        | skip
          refine r_iload_n C dX2_cursorsThere_35 rfl ?_
          exact r_iret C hr dX2_cursorsThere_36 ⟨by rw [← hF]; rfl, rfl⟩ (Nat.le_of_ble_eq_true rfl) (Nat.le_of_ble_eq_true rfl)
      · first
        | exfalso; first | omega | contradiction
        | skip
          refine r_iload_n C dX2_cursorsThere_9 rfl ?_
          refine r_aload_n C dX2_cursorsThere_10 rfl ?_
          refine s_get C 1 (by decide) qf_X2_24 rfl rfl dX2_cursorsThere_11 ?_
          refine r_iload_n C dX2_cursorsThere_14 rfl ?_
          refine s_curs C (by first | omega | (simp [up2, *]; done) | (simp [up2, *]; omega) | (simp only [up2_eq]; omega)) dX2_cursorsThere_15 ?_
          refine u_getN (v := .int (nI (f 9 k))) hX C hE 3 (by first | omega | (simp [up2, *]; done) | (simp [up2, *]; omega) | (simp only [up2_eq]; omega)) (by decide) qn_X2_221 rfl rfl dX2_cursorsThere_16 ?_
          refine r_ifN_eq (a := (f 9 k)) (tgt := 26) C (by have := h9a k (by omega); omega) dX2_cursorsThere_19 (by decide) (fun h19_2 => ?_) (fun h19_2 => ?_)
          · first
            | exfalso; first | omega | contradiction
            | skip
              refine r_iconst (v := (nI 0)) C dX2_cursorsThere_26 (by decide) ?_
              refine r_iaddN C dX2_cursorsThere_27 ?_
              refine r_istore_n C dX2_cursorsThere_28 (by decide) rfl ?_
              refine r_iincN C dX2_cursorsThere_29 rfl (by decide) rfl ?_
              refine r_goto (tgt := 4) C dX2_cursorsThere_32 (by decide) ?_
              exact (Nat.not_lt_zero _ (by omega)).elim
          · first
            | exfalso; first | omega | contradiction
            | skip
              refine r_iconst (v := (nI 1)) C dX2_cursorsThere_22 (by decide) ?_
              refine r_goto (tgt := 27) C dX2_cursorsThere_23 (by decide) ?_
              refine r_iaddN C dX2_cursorsThere_27 ?_
              refine r_istore_n C dX2_cursorsThere_28 (by decide) rfl ?_
              refine r_iincN C dX2_cursorsThere_29 rfl (by decide) rfl ?_
              refine r_goto (tgt := 4) C dX2_cursorsThere_32 (by decide) ?_
              exact (Nat.not_lt_zero _ (by omega)).elim
    | succ d ih_L4 =>
      intro k z hk hz hF
      refine r_iload_n C dX2_cursorsThere_4 rfl ?_
      refine r_iconst (v := (nI 3)) C dX2_cursorsThere_5 (by decide) ?_
      refine r_icN_ge (a := k) (b := 3) (tgt := 35) C (by first | omega | (simp [up2, *]; done) | (simp [up2, *]; omega) | (simp only [up2_eq]; omega)) (by first | omega | (simp [up2, *]; done) | (simp [up2, *]; omega) | (simp only [up2_eq]; omega)) dX2_cursorsThere_6 (by decide) (fun h6_3 => ?_) (fun h6_3 => ?_)
      · first
        | exfalso; first | omega | contradiction
        | skip
          refine r_iload_n C dX2_cursorsThere_35 rfl ?_
          exact r_iret C hr dX2_cursorsThere_36 ⟨by rw [← hF]; rfl, rfl⟩ (Nat.le_of_ble_eq_true rfl) (Nat.le_of_ble_eq_true rfl)
      · first
        | exfalso; first | omega | contradiction
        | skip
          refine r_iload_n C dX2_cursorsThere_9 rfl ?_
          refine r_aload_n C dX2_cursorsThere_10 rfl ?_
          refine s_get C 1 (by decide) qf_X2_24 rfl rfl dX2_cursorsThere_11 ?_
          refine r_iload_n C dX2_cursorsThere_14 rfl ?_
          refine s_curs C (by first | omega | (simp [up2, *]; done) | (simp [up2, *]; omega) | (simp only [up2_eq]; omega)) dX2_cursorsThere_15 ?_
          refine u_getN (v := .int (nI (f 9 k))) hX C hE 3 (by first | omega | (simp [up2, *]; done) | (simp [up2, *]; omega) | (simp only [up2_eq]; omega)) (by decide) qn_X2_221 rfl rfl dX2_cursorsThere_16 ?_
          refine r_ifN_eq (a := (f 9 k)) (tgt := 26) C (by have := h9a k (by omega); omega) dX2_cursorsThere_19 (by decide) (fun h19_4 => ?_) (fun h19_4 => ?_)
          · first
            | exfalso; first | omega | contradiction
            | skip
              refine r_iconst (v := (nI 0)) C dX2_cursorsThere_26 (by decide) ?_
              refine r_iaddN C dX2_cursorsThere_27 ?_
              refine r_istore_n C dX2_cursorsThere_28 (by decide) rfl ?_
              refine r_iincN C dX2_cursorsThere_29 rfl (by decide) rfl ?_
              refine r_goto (tgt := 4) C dX2_cursorsThere_32 (by decide) ?_
              exact ih_L4 (k + 1) (z + 0) (by omega) (by first | omega | (have := h9a k (by omega); omega)) (by rw [← hF]; simp only [smF]; congr 1; have h8 := h9a k (by omega); omega)
          · first
            | exfalso; first | omega | contradiction
            | skip
              refine r_iconst (v := (nI 1)) C dX2_cursorsThere_22 (by decide) ?_
              refine r_goto (tgt := 27) C dX2_cursorsThere_23 (by decide) ?_
              refine r_iaddN C dX2_cursorsThere_27 ?_
              refine r_istore_n C dX2_cursorsThere_28 (by decide) rfl ?_
              refine r_iincN C dX2_cursorsThere_29 rfl (by decide) rfl ?_
              refine r_goto (tgt := 4) C dX2_cursorsThere_32 (by decide) ?_
              exact ih_L4 (k + 1) (z + 1) (by omega) (by first | omega | (have := h9a k (by omega); omega)) (by rw [← hF]; simp only [smF]; congr 1; have h8 := h9a k (by omega); omega)
  exact L4 3 0 0 rfl (by omega) rfl
end PT_13
