/-! CONTRACTS of the class: what a call needs, holders, settling -/
theorem dX2_isBelow_0 : decode cX2_isBelow 0 = .ok (.iload_n 0, 1) := dqo_26 (kb_of ke_X2_isBelow 0 rfl)
theorem dX2_isBelow_1 : decode cX2_isBelow 1 = .ok (.ifCond .lt 12, 3) := dqo_155 0 12 (by decide) (kb_of ke_X2_isBelow 1 rfl) (kb_of ke_X2_isBelow 2 rfl) (kb_of ke_X2_isBelow 3 rfl)
theorem dX2_isBelow_4 : decode cX2_isBelow 4 = .ok (.iload_n 0, 1) := dqo_26 (kb_of ke_X2_isBelow 4 rfl)
theorem dX2_isBelow_5 : decode cX2_isBelow 5 = .ok (.iload_n 1, 1) := dqo_27 (kb_of ke_X2_isBelow 5 rfl)
theorem dX2_isBelow_6 : decode cX2_isBelow 6 = .ok (.if_icmp .ge 7, 3) := dqo_162 0 7 (by decide) (kb_of ke_X2_isBelow 6 rfl) (kb_of ke_X2_isBelow 7 rfl) (kb_of ke_X2_isBelow 8 rfl)
theorem dX2_isBelow_9 : decode cX2_isBelow 9 = .ok (.iconst 1, 1) := dqo_4 (kb_of ke_X2_isBelow 9 rfl)
theorem dX2_isBelow_10 : decode cX2_isBelow 10 = .ok (.goto 4, 3) := dqo_167 0 4 (by decide) (kb_of ke_X2_isBelow 10 rfl) (kb_of ke_X2_isBelow 11 rfl) (kb_of ke_X2_isBelow 12 rfl)
theorem dX2_isBelow_13 : decode cX2_isBelow 13 = .ok (.iconst 0, 1) := dqo_3 (kb_of ke_X2_isBelow 13 rfl)
theorem dX2_isBelow_14 : decode cX2_isBelow 14 = .ok (.ireturn, 1) := dqo_172 (kb_of ke_X2_isBelow 14 rfl)
set_option maxRecDepth 100000 in
set_option maxHeartbeats 4000000 in
theorem C_isBelow1 {l : Launch} {D : va_G} {cy : Nat → ClassId} {X : (Nat → Prop) → State → Heap → Prop} {a f : Nat → Nat → Nat} {r : Nat → Nat → Int32} {kn : Int32} {Y : va_W} {k : Nat} {n : Nat} (hX : EnvX X) (hk : k < n) (hn2 : n < 2147483648) : Cd l D cy X yX2_isBelow cX2_isBelow 2 (some .boolean) (rmz 0 0) [.int (nI k), .int (nI n)] (WC cy a f r kn ++ Y) (some (.int (nI 1))) (WC cy a f r kn ++ Y) := by
  refine Cm.of [some (.int (nI k)), some (.int (nI n))] pn_X2 rfl (Nat.le_of_ble_eq_true rfl) ?_
  intro p e s m args below meth c A C hE hr hnt hn
  refine r_iload_n C dX2_isBelow_0 rfl ?_
  refine r_ifN_lt (a := k) (tgt := 13) C (by first | omega | (simp [up2, *]; done) | (simp [up2, *]; omega) | (simp only [up2_eq]; omega)) dX2_isBelow_1 (by decide) (fun h1_1 => ?_) (fun h1_1 => ?_)
  · first
    | exfalso; first | omega | contradiction
    | skip
      refine r_iconst (v := (nI 0)) C dX2_isBelow_13 (by decide) ?_
      exact r_zret C hr (by first | omega | (simp [up2, *]; done) | (simp [up2, *]; omega) | (simp only [up2_eq]; omega)) dX2_isBelow_14 ⟨rfl, rfl⟩ (Nat.le_of_ble_eq_true rfl) (Nat.le_of_ble_eq_true rfl)
  · first
    | exfalso; first | omega | contradiction
    | skip
      refine r_iload_n C dX2_isBelow_4 rfl ?_
      refine r_iload_n C dX2_isBelow_5 rfl ?_
      refine r_icN_ge (a := k) (b := n) (tgt := 13) C (by first | omega | (simp [up2, *]; done) | (simp [up2, *]; omega) | (simp only [up2_eq]; omega)) (by first | omega | (simp [up2, *]; done) | (simp [up2, *]; omega) | (simp only [up2_eq]; omega)) dX2_isBelow_6 (by decide) (fun h6_2 => ?_) (fun h6_2 => ?_)
      · first
        | exfalso; first | omega | contradiction
        | skip
          refine r_iconst (v := (nI 0)) C dX2_isBelow_13 (by decide) ?_
          exact r_zret C hr (by first | omega | (simp [up2, *]; done) | (simp [up2, *]; omega) | (simp only [up2_eq]; omega)) dX2_isBelow_14 ⟨rfl, rfl⟩ (Nat.le_of_ble_eq_true rfl) (Nat.le_of_ble_eq_true rfl)
      · first
        | exfalso; first | omega | contradiction
        | skip
          refine r_iconst (v := (nI 1)) C dX2_isBelow_9 (by decide) ?_
          refine r_goto (tgt := 14) C dX2_isBelow_10 (by decide) ?_
          exact r_zret C hr (by first | omega | (simp [up2, *]; done) | (simp [up2, *]; omega) | (simp only [up2_eq]; omega)) dX2_isBelow_14 ⟨rfl, rfl⟩ (Nat.le_of_ble_eq_true rfl) (Nat.le_of_ble_eq_true rfl)
set_option maxRecDepth 100000 in
set_option maxHeartbeats 4000000 in
theorem C_isBelow0 {l : Launch} {D : va_G} {cy : Nat → ClassId} {X : (Nat → Prop) → State → Heap → Prop} {a f : Nat → Nat → Nat} {r : Nat → Nat → Int32} {kn : Int32} {Y : va_W} {x : Int32} {n : Nat} (hX : EnvX X) (hno : ¬ (0 ≤ x ∧ x < nI n)) : Cd l D cy X yX2_isBelow cX2_isBelow 2 (some .boolean) (rmz 0 0) [.int x, .int (nI n)] (WC cy a f r kn ++ Y) (some (.int (nI 0))) (WC cy a f r kn ++ Y) := by
  refine Cm.of [some (.int x), some (.int (nI n))] pn_X2 rfl (Nat.le_of_ble_eq_true rfl) ?_
  intro p e s m args below meth c A C hE hr hnt hn
  refine r_iload_n C dX2_isBelow_0 rfl ?_
  refine r_if_lt (tgt := 13) C dX2_isBelow_1 (by decide) (fun h1_1 => ?_) (fun h1_1 => ?_)
  · first
    | exfalso; first | omega | contradiction
    | skip
      refine r_iconst (v := (nI 0)) C dX2_isBelow_13 (by decide) ?_
      exact r_zret C hr (by first | omega | (simp [up2, *]; done) | (simp [up2, *]; omega) | (simp only [up2_eq]; omega)) dX2_isBelow_14 ⟨rfl, rfl⟩ (Nat.le_of_ble_eq_true rfl) (Nat.le_of_ble_eq_true rfl)
  · first
    | exfalso; first | omega | contradiction
    | skip
      refine r_iload_n C dX2_isBelow_4 rfl ?_
      refine r_iload_n C dX2_isBelow_5 rfl ?_
      refine r_ic_ge (tgt := 13) C dX2_isBelow_6 (by decide) (fun h6_2 => ?_) (fun h6_2 => ?_)
      · skip
        refine r_iconst (v := (nI 0)) C dX2_isBelow_13 (by decide) ?_
        exact r_zret C hr (by first | omega | (simp [up2, *]; done) | (simp [up2, *]; omega) | (simp only [up2_eq]; omega)) dX2_isBelow_14 ⟨rfl, rfl⟩ (Nat.le_of_ble_eq_true rfl) (Nat.le_of_ble_eq_true rfl)
      · exact absurd (by refine ⟨?_, ?_⟩ <;> first | assumption | exact Int32.not_le.mp (by assumption) | exact Int32.not_lt.mp (by assumption)) hno
theorem pk_X2_isBelow : PkS yX2_isBelow cX2_isBelow 2 (some .boolean) 2 := ⟨⟨qt_X2_isBelow, qz_X2, qc_X2_isBelow⟩, mh_X2.1, mh_X2.2, pd_5⟩
theorem dX2_needRow_0 : decode cX2_needRow 0 = .ok (.iload_n 0, 1) := dqo_26 (kb_of ke_X2_needRow 0 rfl)
theorem dX2_needRow_1 : decode cX2_needRow 1 = .ok (.iconst 4, 1) := dqo_7 (kb_of ke_X2_needRow 1 rfl)
theorem dX2_needRow_2 : decode cX2_needRow 2 = .ok (.invokestatic 275, 3) := dqo_184 1 19 (kb_of ke_X2_needRow 2 rfl) (kb_of ke_X2_needRow 3 rfl) (kb_of ke_X2_needRow 4 rfl)
theorem dX2_needRow_5 : decode cX2_needRow 5 = .ok (.ifCond .ne 14, 3) := dqo_154 0 14 (by decide) (kb_of ke_X2_needRow 5 rfl) (kb_of ke_X2_needRow 6 rfl) (kb_of ke_X2_needRow 7 rfl)
theorem dX2_needRow_19 : decode cX2_needRow 19 = .ok (.return_, 1) := dqo_177 (kb_of ke_X2_needRow 19 rfl)
set_option maxRecDepth 100000 in
set_option maxHeartbeats 4000000 in
theorem C_needRow_ok {l : Launch} {D : va_G} {cy : Nat → ClassId} {X : (Nat → Prop) → State → Heap → Prop} {a f : Nat → Nat → Nat} {r : Nat → Nat → Int32} {kn : Int32} {Y : va_W} {k : Nat} (hX : EnvX X) (hk : k < 4) : Cd l D cy X yX2_needRow cX2_needRow 1 none (rmz 1 30) [.int (nI k)] (WC cy a f r kn ++ Y) none (WC cy a f r kn ++ Y) := by
  refine Cm.of [some (.int (nI k))] pn_X2 rfl (Nat.le_of_ble_eq_true rfl) ?_
  intro p e s m args below meth c A C hE hr hnt hn
  refine r_iload_n C dX2_needRow_0 rfl ?_
  refine r_iconst (v := (nI 4)) C dX2_needRow_1 (by decide) ?_
  refine d_S (st := []) hX.stb C hE (C_isBelow1 (f := f) (r := r) (kn := kn) (k := k) (n := 4) hX (by first | omega | (simp [up2, *]; done) | (simp [up2, *]; omega) | (simp only [up2_eq]; omega)) (by first | omega | (simp [up2, *]; done) | (simp [up2, *]; omega) | (simp only [up2_eq]; omega))) pk_X2_isBelow qm_X2_275 rfl rfl (Nat.le_of_ble_eq_true rfl) dX2_needRow_2 ⟨Nat.le_of_ble_eq_true rfl, Nat.le_of_ble_eq_true rfl⟩ ⟨Nat.le_of_ble_eq_true rfl, Nat.le_of_ble_eq_true rfl⟩ ?_
  refine r_ifN_ne (a := 1) (tgt := 19) C (by first | omega | (simp [up2, *]; done) | (simp [up2, *]; omega) | (simp only [up2_eq]; omega)) dX2_needRow_5 (by decide) (fun h5_1 => ?_) (fun h5_1 => ?_)
  · skip
    exact r_vret C hr dX2_needRow_19 ⟨rfl, rfl⟩ (Nat.le_of_ble_eq_true rfl) (Nat.le_of_ble_eq_true rfl)
  · exact absurd h5_1 (by first | omega | (simp [up2, *]; done) | (simp [up2, *]; omega) | (simp only [up2_eq]; omega))
theorem thr_X2_213_217 : thr_ok RX2 213 217 "java/lang/IndexOutOfBoundsException" ["java/lang/RuntimeException", "java/lang/Exception"] = true := thr_of [658, 9, 6, 237, 246, 252, 255, 257, 238, 239, 31, 32, 240, 245, 253, 273, 227, 274, 229, 275, 231, 241, 243, 233, 269, 270, 272, 233, 568, 569, 570, 263, 219, 263, 264, 265, 266, 221, 266, 267, 268, 269, 223, 668, 659, 660, 661, 250, 662, 663, 664, 665, 236, 235, 666] (by decide +kernel) (by decide +kernel)
theorem dX2_needRow_8 : decode cX2_needRow 8 = .ok (.new 213, 3) := dqo_187 0 213 (kb_of ke_X2_needRow 8 rfl) (kb_of ke_X2_needRow 9 rfl) (kb_of ke_X2_needRow 10 rfl)
theorem dX2_needRow_11 : decode cX2_needRow 11 = .ok (.dup, 1) := dqo_89 (kb_of ke_X2_needRow 11 rfl)
theorem dX2_needRow_12 : decode cX2_needRow 12 = .ok (.ldc_w 278, 3) := dqo_19 1 22 (kb_of ke_X2_needRow 12 rfl) (kb_of ke_X2_needRow 13 rfl) (kb_of ke_X2_needRow 14 rfl)
theorem dX2_needRow_15 : decode cX2_needRow 15 = .ok (.invokespecial 217, 3) := dqo_183 0 217 (kb_of ke_X2_needRow 15 rfl) (kb_of ke_X2_needRow 16 rfl) (kb_of ke_X2_needRow 17 rfl)
theorem dX2_needRow_18 : decode cX2_needRow 18 = .ok (.athrow, 1) := dqo_191 (kb_of ke_X2_needRow 18 rfl)
set_option maxRecDepth 100000 in
set_option maxHeartbeats 4000000 in
theorem C_needRow_no {l : Launch} {D : va_G} {cy : Nat → ClassId} {X : (Nat → Prop) → State → Heap → Prop} {a f : Nat → Nat → Nat} {r : Nat → Nat → Int32} {kn : Int32} {Y : va_W} {x : Int32} (hX : EnvX X) (hl : l.stackTraces = false) (hno : ¬ (0 ≤ x ∧ x < nI 4)) : Ce l D cy X yX2_needRow cX2_needRow 1 none (rmk 6 1 6 100) [.int x] (WC cy a f r kn ++ Y) "java/lang/IndexOutOfBoundsException" := by
  refine Cm.of [some (.int x)] pn_X2 rfl (Nat.le_of_ble_eq_true rfl) ?_
  intro p e s m args below meth c A C hE hr hnt hn
  refine r_iload_n C dX2_needRow_0 rfl ?_
  refine r_iconst (v := (nI 4)) C dX2_needRow_1 (by decide) ?_
  refine d_S (st := []) hX.stb C hE (C_isBelow0 (f := f) (r := r) (kn := kn) (x := (x)) (n := 4) hX (by first | omega | (simp [up2, *]; done) | (simp [up2, *]; omega) | (simp only [up2_eq]; omega))) pk_X2_isBelow qm_X2_275 rfl rfl (Nat.le_of_ble_eq_true rfl) dX2_needRow_2 ⟨Nat.le_of_ble_eq_true rfl, Nat.le_of_ble_eq_true rfl⟩ ⟨Nat.le_of_ble_eq_true rfl, Nat.le_of_ble_eq_true rfl⟩ ?_
  refine r_ifN_ne (a := 0) (tgt := 19) C (by first | omega | (simp [up2, *]; done) | (simp [up2, *]; omega) | (simp only [up2_eq]; omega)) dX2_needRow_5 (by decide) (fun h5_1 => ?_) (fun h5_1 => ?_)
  · exact absurd h5_1 (by first | omega | (simp [up2, *]; done) | (simp [up2, *]; omega) | (simp only [up2_eq]; omega))
  · skip
    exact r_throwW (cls := "java/lang/IndexOutOfBoundsException") (text := "there is no such row") (names := ["java/lang/RuntimeException", "java/lang/Exception"]) hX hl C hE hnt thr_X2_213_217 (by decide +kernel) (by decide +kernel) (by decide +kernel) dX2_needRow_8 dX2_needRow_11 dX2_needRow_12 dX2_needRow_15 dX2_needRow_18 (by decide) (Nat.le_of_ble_eq_true rfl) (Nat.le_of_ble_eq_true rfl) (Nat.le_of_ble_eq_true rfl) rfl rfl (Nat.le_of_ble_eq_true rfl) (Nat.le_of_ble_eq_true rfl)
theorem dX2_needWindow_0 : decode cX2_needWindow 0 = .ok (.iload_n 0, 1) := dqo_26 (kb_of ke_X2_needWindow 0 rfl)
theorem dX2_needWindow_1 : decode cX2_needWindow 1 = .ok (.iconst 4, 1) := dqo_7 (kb_of ke_X2_needWindow 1 rfl)
theorem dX2_needWindow_2 : decode cX2_needWindow 2 = .ok (.invokestatic 275, 3) := dqo_184 1 19 (kb_of ke_X2_needWindow 2 rfl) (kb_of ke_X2_needWindow 3 rfl) (kb_of ke_X2_needWindow 4 rfl)
theorem dX2_needWindow_5 : decode cX2_needWindow 5 = .ok (.ifCond .ne 14, 3) := dqo_154 0 14 (by decide) (kb_of ke_X2_needWindow 5 rfl) (kb_of ke_X2_needWindow 6 rfl) (kb_of ke_X2_needWindow 7 rfl)
theorem dX2_needWindow_19 : decode cX2_needWindow 19 = .ok (.return_, 1) := dqo_177 (kb_of ke_X2_needWindow 19 rfl)
set_option maxRecDepth 100000 in
set_option maxHeartbeats 4000000 in
theorem C_needWindow_ok {l : Launch} {D : va_G} {cy : Nat → ClassId} {X : (Nat → Prop) → State → Heap → Prop} {a f : Nat → Nat → Nat} {r : Nat → Nat → Int32} {kn : Int32} {Y : va_W} {k : Nat} (hX : EnvX X) (hk : k < 4) : Cd l D cy X yX2_needWindow cX2_needWindow 1 none (rmz 1 30) [.int (nI k)] (WC cy a f r kn ++ Y) none (WC cy a f r kn ++ Y) := by
  refine Cm.of [some (.int (nI k))] pn_X2 rfl (Nat.le_of_ble_eq_true rfl) ?_
  intro p e s m args below meth c A C hE hr hnt hn
  refine r_iload_n C dX2_needWindow_0 rfl ?_
  refine r_iconst (v := (nI 4)) C dX2_needWindow_1 (by decide) ?_
  refine d_S (st := []) hX.stb C hE (C_isBelow1 (f := f) (r := r) (kn := kn) (k := k) (n := 4) hX (by first | omega | (simp [up2, *]; done) | (simp [up2, *]; omega) | (simp only [up2_eq]; omega)) (by first | omega | (simp [up2, *]; done) | (simp [up2, *]; omega) | (simp only [up2_eq]; omega))) pk_X2_isBelow qm_X2_275 rfl rfl (Nat.le_of_ble_eq_true rfl) dX2_needWindow_2 ⟨Nat.le_of_ble_eq_true rfl, Nat.le_of_ble_eq_true rfl⟩ ⟨Nat.le_of_ble_eq_true rfl, Nat.le_of_ble_eq_true rfl⟩ ?_
  refine r_ifN_ne (a := 1) (tgt := 19) C (by first | omega | (simp [up2, *]; done) | (simp [up2, *]; omega) | (simp only [up2_eq]; omega)) dX2_needWindow_5 (by decide) (fun h5_1 => ?_) (fun h5_1 => ?_)
  · skip
    exact r_vret C hr dX2_needWindow_19 ⟨rfl, rfl⟩ (Nat.le_of_ble_eq_true rfl) (Nat.le_of_ble_eq_true rfl)
  · exact absurd h5_1 (by first | omega | (simp [up2, *]; done) | (simp [up2, *]; omega) | (simp only [up2_eq]; omega))
theorem dX2_needWindow_8 : decode cX2_needWindow 8 = .ok (.new 213, 3) := dqo_187 0 213 (kb_of ke_X2_needWindow 8 rfl) (kb_of ke_X2_needWindow 9 rfl) (kb_of ke_X2_needWindow 10 rfl)
theorem dX2_needWindow_11 : decode cX2_needWindow 11 = .ok (.dup, 1) := dqo_89 (kb_of ke_X2_needWindow 11 rfl)
theorem dX2_needWindow_12 : decode cX2_needWindow 12 = .ok (.ldc_w 280, 3) := dqo_19 1 24 (kb_of ke_X2_needWindow 12 rfl) (kb_of ke_X2_needWindow 13 rfl) (kb_of ke_X2_needWindow 14 rfl)
theorem dX2_needWindow_15 : decode cX2_needWindow 15 = .ok (.invokespecial 217, 3) := dqo_183 0 217 (kb_of ke_X2_needWindow 15 rfl) (kb_of ke_X2_needWindow 16 rfl) (kb_of ke_X2_needWindow 17 rfl)
theorem dX2_needWindow_18 : decode cX2_needWindow 18 = .ok (.athrow, 1) := dqo_191 (kb_of ke_X2_needWindow 18 rfl)
set_option maxRecDepth 100000 in
set_option maxHeartbeats 4000000 in
theorem C_needWindow_no {l : Launch} {D : va_G} {cy : Nat → ClassId} {X : (Nat → Prop) → State → Heap → Prop} {a f : Nat → Nat → Nat} {r : Nat → Nat → Int32} {kn : Int32} {Y : va_W} {x : Int32} (hX : EnvX X) (hl : l.stackTraces = false) (hno : ¬ (0 ≤ x ∧ x < nI 4)) : Ce l D cy X yX2_needWindow cX2_needWindow 1 none (rmk 6 1 6 100) [.int x] (WC cy a f r kn ++ Y) "java/lang/IndexOutOfBoundsException" := by
  refine Cm.of [some (.int x)] pn_X2 rfl (Nat.le_of_ble_eq_true rfl) ?_
  intro p e s m args below meth c A C hE hr hnt hn
  refine r_iload_n C dX2_needWindow_0 rfl ?_
  refine r_iconst (v := (nI 4)) C dX2_needWindow_1 (by decide) ?_
  refine d_S (st := []) hX.stb C hE (C_isBelow0 (f := f) (r := r) (kn := kn) (x := (x)) (n := 4) hX (by first | omega | (simp [up2, *]; done) | (simp [up2, *]; omega) | (simp only [up2_eq]; omega))) pk_X2_isBelow qm_X2_275 rfl rfl (Nat.le_of_ble_eq_true rfl) dX2_needWindow_2 ⟨Nat.le_of_ble_eq_true rfl, Nat.le_of_ble_eq_true rfl⟩ ⟨Nat.le_of_ble_eq_true rfl, Nat.le_of_ble_eq_true rfl⟩ ?_
  refine r_ifN_ne (a := 0) (tgt := 19) C (by first | omega | (simp [up2, *]; done) | (simp [up2, *]; omega) | (simp only [up2_eq]; omega)) dX2_needWindow_5 (by decide) (fun h5_1 => ?_) (fun h5_1 => ?_)
  · exact absurd h5_1 (by first | omega | (simp [up2, *]; done) | (simp [up2, *]; omega) | (simp only [up2_eq]; omega))
  · skip
    exact r_throwW (cls := "java/lang/IndexOutOfBoundsException") (text := "there is no such window") (names := ["java/lang/RuntimeException", "java/lang/Exception"]) hX hl C hE hnt thr_X2_213_217 (by decide +kernel) (by decide +kernel) (by decide +kernel) dX2_needWindow_8 dX2_needWindow_11 dX2_needWindow_12 dX2_needWindow_15 dX2_needWindow_18 (by decide) (Nat.le_of_ble_eq_true rfl) (Nat.le_of_ble_eq_true rfl) (Nat.le_of_ble_eq_true rfl) rfl rfl (Nat.le_of_ble_eq_true rfl) (Nat.le_of_ble_eq_true rfl)
theorem dX2_needCursor_0 : decode cX2_needCursor 0 = .ok (.iload_n 0, 1) := dqo_26 (kb_of ke_X2_needCursor 0 rfl)
theorem dX2_needCursor_1 : decode cX2_needCursor 1 = .ok (.iconst 3, 1) := dqo_6 (kb_of ke_X2_needCursor 1 rfl)
theorem dX2_needCursor_2 : decode cX2_needCursor 2 = .ok (.invokestatic 275, 3) := dqo_184 1 19 (kb_of ke_X2_needCursor 2 rfl) (kb_of ke_X2_needCursor 3 rfl) (kb_of ke_X2_needCursor 4 rfl)
theorem dX2_needCursor_5 : decode cX2_needCursor 5 = .ok (.ifCond .ne 14, 3) := dqo_154 0 14 (by decide) (kb_of ke_X2_needCursor 5 rfl) (kb_of ke_X2_needCursor 6 rfl) (kb_of ke_X2_needCursor 7 rfl)
theorem dX2_needCursor_19 : decode cX2_needCursor 19 = .ok (.return_, 1) := dqo_177 (kb_of ke_X2_needCursor 19 rfl)
set_option maxRecDepth 100000 in
set_option maxHeartbeats 4000000 in
theorem C_needCursor_ok {l : Launch} {D : va_G} {cy : Nat → ClassId} {X : (Nat → Prop) → State → Heap → Prop} {a f : Nat → Nat → Nat} {r : Nat → Nat → Int32} {kn : Int32} {Y : va_W} {k : Nat} (hX : EnvX X) (hk : k < 3) : Cd l D cy X yX2_needCursor cX2_needCursor 1 none (rmz 1 30) [.int (nI k)] (WC cy a f r kn ++ Y) none (WC cy a f r kn ++ Y) := by
  refine Cm.of [some (.int (nI k))] pn_X2 rfl (Nat.le_of_ble_eq_true rfl) ?_
  intro p e s m args below meth c A C hE hr hnt hn
  refine r_iload_n C dX2_needCursor_0 rfl ?_
  refine r_iconst (v := (nI 3)) C dX2_needCursor_1 (by decide) ?_
  refine d_S (st := []) hX.stb C hE (C_isBelow1 (f := f) (r := r) (kn := kn) (k := k) (n := 3) hX (by first | omega | (simp [up2, *]; done) | (simp [up2, *]; omega) | (simp only [up2_eq]; omega)) (by first | omega | (simp [up2, *]; done) | (simp [up2, *]; omega) | (simp only [up2_eq]; omega))) pk_X2_isBelow qm_X2_275 rfl rfl (Nat.le_of_ble_eq_true rfl) dX2_needCursor_2 ⟨Nat.le_of_ble_eq_true rfl, Nat.le_of_ble_eq_true rfl⟩ ⟨Nat.le_of_ble_eq_true rfl, Nat.le_of_ble_eq_true rfl⟩ ?_
  refine r_ifN_ne (a := 1) (tgt := 19) C (by first | omega | (simp [up2, *]; done) | (simp [up2, *]; omega) | (simp only [up2_eq]; omega)) dX2_needCursor_5 (by decide) (fun h5_1 => ?_) (fun h5_1 => ?_)
  · skip
    exact r_vret C hr dX2_needCursor_19 ⟨rfl, rfl⟩ (Nat.le_of_ble_eq_true rfl) (Nat.le_of_ble_eq_true rfl)
  · exact absurd h5_1 (by first | omega | (simp [up2, *]; done) | (simp [up2, *]; omega) | (simp only [up2_eq]; omega))
theorem dX2_needCursor_8 : decode cX2_needCursor 8 = .ok (.new 213, 3) := dqo_187 0 213 (kb_of ke_X2_needCursor 8 rfl) (kb_of ke_X2_needCursor 9 rfl) (kb_of ke_X2_needCursor 10 rfl)
theorem dX2_needCursor_11 : decode cX2_needCursor 11 = .ok (.dup, 1) := dqo_89 (kb_of ke_X2_needCursor 11 rfl)
theorem dX2_needCursor_12 : decode cX2_needCursor 12 = .ok (.ldc_w 282, 3) := dqo_19 1 26 (kb_of ke_X2_needCursor 12 rfl) (kb_of ke_X2_needCursor 13 rfl) (kb_of ke_X2_needCursor 14 rfl)
theorem dX2_needCursor_15 : decode cX2_needCursor 15 = .ok (.invokespecial 217, 3) := dqo_183 0 217 (kb_of ke_X2_needCursor 15 rfl) (kb_of ke_X2_needCursor 16 rfl) (kb_of ke_X2_needCursor 17 rfl)
theorem dX2_needCursor_18 : decode cX2_needCursor 18 = .ok (.athrow, 1) := dqo_191 (kb_of ke_X2_needCursor 18 rfl)
set_option maxRecDepth 100000 in
set_option maxHeartbeats 4000000 in
theorem C_needCursor_no {l : Launch} {D : va_G} {cy : Nat → ClassId} {X : (Nat → Prop) → State → Heap → Prop} {a f : Nat → Nat → Nat} {r : Nat → Nat → Int32} {kn : Int32} {Y : va_W} {x : Int32} (hX : EnvX X) (hl : l.stackTraces = false) (hno : ¬ (0 ≤ x ∧ x < nI 3)) : Ce l D cy X yX2_needCursor cX2_needCursor 1 none (rmk 6 1 6 100) [.int x] (WC cy a f r kn ++ Y) "java/lang/IndexOutOfBoundsException" := by
  refine Cm.of [some (.int x)] pn_X2 rfl (Nat.le_of_ble_eq_true rfl) ?_
  intro p e s m args below meth c A C hE hr hnt hn
  refine r_iload_n C dX2_needCursor_0 rfl ?_
  refine r_iconst (v := (nI 3)) C dX2_needCursor_1 (by decide) ?_
  refine d_S (st := []) hX.stb C hE (C_isBelow0 (f := f) (r := r) (kn := kn) (x := (x)) (n := 3) hX (by first | omega | (simp [up2, *]; done) | (simp [up2, *]; omega) | (simp only [up2_eq]; omega))) pk_X2_isBelow qm_X2_275 rfl rfl (Nat.le_of_ble_eq_true rfl) dX2_needCursor_2 ⟨Nat.le_of_ble_eq_true rfl, Nat.le_of_ble_eq_true rfl⟩ ⟨Nat.le_of_ble_eq_true rfl, Nat.le_of_ble_eq_true rfl⟩ ?_
  refine r_ifN_ne (a := 0) (tgt := 19) C (by first | omega | (simp [up2, *]; done) | (simp [up2, *]; omega) | (simp only [up2_eq]; omega)) dX2_needCursor_5 (by decide) (fun h5_1 => ?_) (fun h5_1 => ?_)
  · exact absurd h5_1 (by first | omega | (simp [up2, *]; done) | (simp [up2, *]; omega) | (simp only [up2_eq]; omega))
  · skip
    exact r_throwW (cls := "java/lang/IndexOutOfBoundsException") (text := "there is no such cursor") (names := ["java/lang/RuntimeException", "java/lang/Exception"]) hX hl C hE hnt thr_X2_213_217 (by decide +kernel) (by decide +kernel) (by decide +kernel) dX2_needCursor_8 dX2_needCursor_11 dX2_needCursor_12 dX2_needCursor_15 dX2_needCursor_18 (by decide) (Nat.le_of_ble_eq_true rfl) (Nat.le_of_ble_eq_true rfl) (Nat.le_of_ble_eq_true rfl) rfl rfl (Nat.le_of_ble_eq_true rfl) (Nat.le_of_ble_eq_true rfl)
theorem dX2_needQuestion_0 : decode cX2_needQuestion 0 = .ok (.iload_n 0, 1) := dqo_26 (kb_of ke_X2_needQuestion 0 rfl)
theorem dX2_needQuestion_1 : decode cX2_needQuestion 1 = .ok (.iload_n 1, 1) := dqo_27 (kb_of ke_X2_needQuestion 1 rfl)
theorem dX2_needQuestion_2 : decode cX2_needQuestion 2 = .ok (.invokestatic 275, 3) := dqo_184 1 19 (kb_of ke_X2_needQuestion 2 rfl) (kb_of ke_X2_needQuestion 3 rfl) (kb_of ke_X2_needQuestion 4 rfl)
theorem dX2_needQuestion_5 : decode cX2_needQuestion 5 = .ok (.ifCond .ne 14, 3) := dqo_154 0 14 (by decide) (kb_of ke_X2_needQuestion 5 rfl) (kb_of ke_X2_needQuestion 6 rfl) (kb_of ke_X2_needQuestion 7 rfl)
theorem dX2_needQuestion_19 : decode cX2_needQuestion 19 = .ok (.return_, 1) := dqo_177 (kb_of ke_X2_needQuestion 19 rfl)
set_option maxRecDepth 100000 in
set_option maxHeartbeats 4000000 in
theorem C_needQuestion_ok {l : Launch} {D : va_G} {cy : Nat → ClassId} {X : (Nat → Prop) → State → Heap → Prop} {a f : Nat → Nat → Nat} {r : Nat → Nat → Int32} {kn : Int32} {Y : va_W} {k : Nat} {n : Nat} (hX : EnvX X) (hk : k < n) (hn2 : n < 2147483648) : Cd l D cy X yX2_needQuestion cX2_needQuestion 2 none (rmz 1 30) [.int (nI k), .int (nI n)] (WC cy a f r kn ++ Y) none (WC cy a f r kn ++ Y) := by
  refine Cm.of [some (.int (nI k)), some (.int (nI n))] pn_X2 rfl (Nat.le_of_ble_eq_true rfl) ?_
  intro p e s m args below meth c A C hE hr hnt hn
  refine r_iload_n C dX2_needQuestion_0 rfl ?_
  refine r_iload_n C dX2_needQuestion_1 rfl ?_
  refine d_S (st := []) hX.stb C hE (C_isBelow1 (f := f) (r := r) (kn := kn) (k := k) (n := n) hX (by first | omega | (simp [up2, *]; done) | (simp [up2, *]; omega) | (simp only [up2_eq]; omega)) (by first | omega | (simp [up2, *]; done) | (simp [up2, *]; omega) | (simp only [up2_eq]; omega))) pk_X2_isBelow qm_X2_275 rfl rfl (Nat.le_of_ble_eq_true rfl) dX2_needQuestion_2 ⟨Nat.le_of_ble_eq_true rfl, Nat.le_of_ble_eq_true rfl⟩ ⟨Nat.le_of_ble_eq_true rfl, Nat.le_of_ble_eq_true rfl⟩ ?_
  refine r_ifN_ne (a := 1) (tgt := 19) C (by first | omega | (simp [up2, *]; done) | (simp [up2, *]; omega) | (simp only [up2_eq]; omega)) dX2_needQuestion_5 (by decide) (fun h5_1 => ?_) (fun h5_1 => ?_)
  · skip
    exact r_vret C hr dX2_needQuestion_19 ⟨rfl, rfl⟩ (Nat.le_of_ble_eq_true rfl) (Nat.le_of_ble_eq_true rfl)
  · exact absurd h5_1 (by first | omega | (simp [up2, *]; done) | (simp [up2, *]; omega) | (simp only [up2_eq]; omega))
theorem thr_X2_90_94 : thr_ok RX2 90 94 "java/lang/IllegalArgumentException" ["java/lang/RuntimeException", "java/lang/Exception"] = true := thr_of [215, 10, 6, 237, 246, 252, 255, 257, 238, 239, 31, 32, 240, 245, 253, 273, 227, 274, 229, 275, 231, 241, 243, 233, 269, 270, 272, 233, 260, 261, 262, 263, 219, 263, 264, 265, 266, 221, 266, 267, 268, 269, 223, 259, 216, 217, 224, 225, 226, 228, 230, 232, 236, 235, 234] (by decide +kernel) (by decide +kernel)
theorem dX2_needQuestion_8 : decode cX2_needQuestion 8 = .ok (.new 90, 3) := dqo_187 0 90 (kb_of ke_X2_needQuestion 8 rfl) (kb_of ke_X2_needQuestion 9 rfl) (kb_of ke_X2_needQuestion 10 rfl)
theorem dX2_needQuestion_11 : decode cX2_needQuestion 11 = .ok (.dup, 1) := dqo_89 (kb_of ke_X2_needQuestion 11 rfl)
theorem dX2_needQuestion_12 : decode cX2_needQuestion 12 = .ok (.ldc_w 286, 3) := dqo_19 1 30 (kb_of ke_X2_needQuestion 12 rfl) (kb_of ke_X2_needQuestion 13 rfl) (kb_of ke_X2_needQuestion 14 rfl)
theorem dX2_needQuestion_15 : decode cX2_needQuestion 15 = .ok (.invokespecial 94, 3) := dqo_183 0 94 (kb_of ke_X2_needQuestion 15 rfl) (kb_of ke_X2_needQuestion 16 rfl) (kb_of ke_X2_needQuestion 17 rfl)
theorem dX2_needQuestion_18 : decode cX2_needQuestion 18 = .ok (.athrow, 1) := dqo_191 (kb_of ke_X2_needQuestion 18 rfl)
set_option maxRecDepth 100000 in
set_option maxHeartbeats 4000000 in
theorem C_needQuestion_no {l : Launch} {D : va_G} {cy : Nat → ClassId} {X : (Nat → Prop) → State → Heap → Prop} {a f : Nat → Nat → Nat} {r : Nat → Nat → Int32} {kn : Int32} {Y : va_W} {x : Int32} {n : Nat} (hX : EnvX X) (hl : l.stackTraces = false) (hno : ¬ (0 ≤ x ∧ x < nI n)) : Ce l D cy X yX2_needQuestion cX2_needQuestion 2 none (rmk 6 1 6 100) [.int x, .int (nI n)] (WC cy a f r kn ++ Y) "java/lang/IllegalArgumentException" := by
  refine Cm.of [some (.int x), some (.int (nI n))] pn_X2 rfl (Nat.le_of_ble_eq_true rfl) ?_
  intro p e s m args below meth c A C hE hr hnt hn
  refine r_iload_n C dX2_needQuestion_0 rfl ?_
  refine r_iload_n C dX2_needQuestion_1 rfl ?_
  refine d_S (st := []) hX.stb C hE (C_isBelow0 (f := f) (r := r) (kn := kn) (x := (x)) (n := n) hX (by first | omega | (simp [up2, *]; done) | (simp [up2, *]; omega) | (simp only [up2_eq]; omega))) pk_X2_isBelow qm_X2_275 rfl rfl (Nat.le_of_ble_eq_true rfl) dX2_needQuestion_2 ⟨Nat.le_of_ble_eq_true rfl, Nat.le_of_ble_eq_true rfl⟩ ⟨Nat.le_of_ble_eq_true rfl, Nat.le_of_ble_eq_true rfl⟩ ?_
  refine r_ifN_ne (a := 0) (tgt := 19) C (by first | omega | (simp [up2, *]; done) | (simp [up2, *]; omega) | (simp only [up2_eq]; omega)) dX2_needQuestion_5 (by decide) (fun h5_1 => ?_) (fun h5_1 => ?_)
  · exact absurd h5_1 (by first | omega | (simp [up2, *]; done) | (simp [up2, *]; omega) | (simp only [up2_eq]; omega))
  · skip
    exact r_throwW (cls := "java/lang/IllegalArgumentException") (text := "there is no such question") (names := ["java/lang/RuntimeException", "java/lang/Exception"]) hX hl C hE hnt thr_X2_90_94 (by decide +kernel) (by decide +kernel) (by decide +kernel) dX2_needQuestion_8 dX2_needQuestion_11 dX2_needQuestion_12 dX2_needQuestion_15 dX2_needQuestion_18 (by decide) (Nat.le_of_ble_eq_true rfl) (Nat.le_of_ble_eq_true rfl) (Nat.le_of_ble_eq_true rfl) rfl rfl (Nat.le_of_ble_eq_true rfl) (Nat.le_of_ble_eq_true rfl)
theorem dX2_needItem_0 : decode cX2_needItem 0 = .ok (.iload_n 0, 1) := dqo_26 (kb_of ke_X2_needItem 0 rfl)
theorem dX2_needItem_1 : decode cX2_needItem 1 = .ok (.bipush (-99), 2) := dqo_16 157 (by decide) (kb_of ke_X2_needItem 1 rfl) (kb_of ke_X2_needItem 2 rfl)
theorem dX2_needItem_3 : decode cX2_needItem 3 = .ok (.if_icmp .lt 9, 3) := dqo_161 0 9 (by decide) (kb_of ke_X2_needItem 3 rfl) (kb_of ke_X2_needItem 4 rfl) (kb_of ke_X2_needItem 5 rfl)
theorem dX2_needItem_6 : decode cX2_needItem 6 = .ok (.iload_n 0, 1) := dqo_26 (kb_of ke_X2_needItem 6 rfl)
theorem dX2_needItem_7 : decode cX2_needItem 7 = .ok (.bipush 99, 2) := dqo_16 99 (by decide) (kb_of ke_X2_needItem 7 rfl) (kb_of ke_X2_needItem 8 rfl)
theorem dX2_needItem_9 : decode cX2_needItem 9 = .ok (.if_icmp .le 14, 3) := dqo_164 0 14 (by decide) (kb_of ke_X2_needItem 9 rfl) (kb_of ke_X2_needItem 10 rfl) (kb_of ke_X2_needItem 11 rfl)
theorem dX2_needItem_23 : decode cX2_needItem 23 = .ok (.return_, 1) := dqo_177 (kb_of ke_X2_needItem 23 rfl)
set_option maxRecDepth 100000 in
set_option maxHeartbeats 4000000 in
theorem C_needItem_ok {l : Launch} {D : va_G} {cy : Nat → ClassId} {X : (Nat → Prop) → State → Heap → Prop} {a f : Nat → Nat → Nat} {r : Nat → Nat → Int32} {kn : Int32} {Y : va_W} {x : Int32} (hX : EnvX X) (ho : okI x) : Cd l D cy X yX2_needItem cX2_needItem 1 none (rmz 1 30) [.int x] (WC cy a f r kn ++ Y) none (WC cy a f r kn ++ Y) := by
  refine Cm.of [some (.int x)] pn_X2 rfl (Nat.le_of_ble_eq_true rfl) ?_
  intro p e s m args below meth c A C hE hr hnt hn
  refine r_iload_n C dX2_needItem_0 rfl ?_
  refine r_bipush (v := (nI 4294967197)) C dX2_needItem_1 (by decide) ?_
  refine r_ic_lt (tgt := 12) C dX2_needItem_3 (by decide) (fun h3_1 => ?_) (fun h3_1 => ?_)
  · exact absurd h3_1 ho.1
  · skip
    refine r_iload_n C dX2_needItem_6 rfl ?_
    refine r_bipush (v := (nI 99)) C dX2_needItem_7 (by decide) ?_
    refine r_ic_le (tgt := 23) C dX2_needItem_9 (by decide) (fun h9_2 => ?_) (fun h9_2 => ?_)
    · skip
      exact r_vret C hr dX2_needItem_23 ⟨rfl, rfl⟩ (Nat.le_of_ble_eq_true rfl) (Nat.le_of_ble_eq_true rfl)
    · exact absurd (Int32.not_le.mp h9_2) ho.2
theorem dX2_needItem_12 : decode cX2_needItem 12 = .ok (.new 90, 3) := dqo_187 0 90 (kb_of ke_X2_needItem 12 rfl) (kb_of ke_X2_needItem 13 rfl) (kb_of ke_X2_needItem 14 rfl)
theorem dX2_needItem_15 : decode cX2_needItem 15 = .ok (.dup, 1) := dqo_89 (kb_of ke_X2_needItem 15 rfl)
theorem dX2_needItem_16 : decode cX2_needItem 16 = .ok (.ldc_w 284, 3) := dqo_19 1 28 (kb_of ke_X2_needItem 16 rfl) (kb_of ke_X2_needItem 17 rfl) (kb_of ke_X2_needItem 18 rfl)
theorem dX2_needItem_19 : decode cX2_needItem 19 = .ok (.invokespecial 94, 3) := dqo_183 0 94 (kb_of ke_X2_needItem 19 rfl) (kb_of ke_X2_needItem 20 rfl) (kb_of ke_X2_needItem 21 rfl)
theorem dX2_needItem_22 : decode cX2_needItem 22 = .ok (.athrow, 1) := dqo_191 (kb_of ke_X2_needItem 22 rfl)
set_option maxRecDepth 100000 in
set_option maxHeartbeats 4000000 in
theorem C_needItem_no {l : Launch} {D : va_G} {cy : Nat → ClassId} {X : (Nat → Prop) → State → Heap → Prop} {a f : Nat → Nat → Nat} {r : Nat → Nat → Int32} {kn : Int32} {Y : va_W} {x : Int32} (hX : EnvX X) (hl : l.stackTraces = false) (ho : ¬ okI x) : Ce l D cy X yX2_needItem cX2_needItem 1 none (rmk 6 1 6 100) [.int x] (WC cy a f r kn ++ Y) "java/lang/IllegalArgumentException" := by
  refine Cm.of [some (.int x)] pn_X2 rfl (Nat.le_of_ble_eq_true rfl) ?_
  intro p e s m args below meth c A C hE hr hnt hn
  refine r_iload_n C dX2_needItem_0 rfl ?_
  refine r_bipush (v := (nI 4294967197)) C dX2_needItem_1 (by decide) ?_
  refine r_ic_lt (tgt := 12) C dX2_needItem_3 (by decide) (fun h3_1 => ?_) (fun h3_1 => ?_)
  · first
    | exfalso; first | omega | contradiction
    | skip
      exact r_throwW (cls := "java/lang/IllegalArgumentException") (text := "an item is from -99 to 99") (names := ["java/lang/RuntimeException", "java/lang/Exception"]) hX hl C hE hnt thr_X2_90_94 (by decide +kernel) (by decide +kernel) (by decide +kernel) dX2_needItem_12 dX2_needItem_15 dX2_needItem_16 dX2_needItem_19 dX2_needItem_22 (by decide) (Nat.le_of_ble_eq_true rfl) (Nat.le_of_ble_eq_true rfl) (Nat.le_of_ble_eq_true rfl) rfl rfl (Nat.le_of_ble_eq_true rfl) (Nat.le_of_ble_eq_true rfl)
  · first
    | exfalso; first | omega | contradiction
    | skip
      refine r_iload_n C dX2_needItem_6 rfl ?_
      refine r_bipush (v := (nI 99)) C dX2_needItem_7 (by decide) ?_
      refine r_ic_le (tgt := 23) C dX2_needItem_9 (by decide) (fun h9_2 => ?_) (fun h9_2 => ?_)
      · exact absurd ⟨by assumption, Int32.not_lt.mpr h9_2⟩ ho
      · skip
        exact r_throwW (cls := "java/lang/IllegalArgumentException") (text := "an item is from -99 to 99") (names := ["java/lang/RuntimeException", "java/lang/Exception"]) hX hl C hE hnt thr_X2_90_94 (by decide +kernel) (by decide +kernel) (by decide +kernel) dX2_needItem_12 dX2_needItem_15 dX2_needItem_16 dX2_needItem_19 dX2_needItem_22 (by decide) (Nat.le_of_ble_eq_true rfl) (Nat.le_of_ble_eq_true rfl) (Nat.le_of_ble_eq_true rfl) rfl rfl (Nat.le_of_ble_eq_true rfl) (Nat.le_of_ble_eq_true rfl)
theorem dX2_needWhere_0 : decode cX2_needWhere 0 = .ok (.iload_n 1, 1) := dqo_27 (kb_of ke_X2_needWhere 0 rfl)
theorem dX2_needWhere_1 : decode cX2_needWhere 1 = .ok (.bipush 8, 2) := dqo_16 8 (by decide) (kb_of ke_X2_needWhere 1 rfl) (kb_of ke_X2_needWhere 2 rfl)
theorem dX2_needWhere_3 : decode cX2_needWhere 3 = .ok (.invokestatic 275, 3) := dqo_184 1 19 (kb_of ke_X2_needWhere 3 rfl) (kb_of ke_X2_needWhere 4 rfl) (kb_of ke_X2_needWhere 5 rfl)
theorem dX2_needWhere_6 : decode cX2_needWhere 6 = .ok (.ifCond .eq 15, 3) := dqo_153 0 15 (by decide) (kb_of ke_X2_needWhere 6 rfl) (kb_of ke_X2_needWhere 7 rfl) (kb_of ke_X2_needWhere 8 rfl)
theorem dX2_needWhere_9 : decode cX2_needWhere 9 = .ok (.aload_n 0, 1) := dqo_42 (kb_of ke_X2_needWhere 9 rfl)
theorem dX2_needWhere_10 : decode cX2_needWhere 10 = .ok (.getfield 11, 3) := dqo_180 0 11 (kb_of ke_X2_needWhere 10 rfl) (kb_of ke_X2_needWhere 11 rfl) (kb_of ke_X2_needWhere 12 rfl)
theorem dX2_needWhere_13 : decode cX2_needWhere 13 = .ok (.iload_n 1, 1) := dqo_27 (kb_of ke_X2_needWhere 13 rfl)
theorem dX2_needWhere_14 : decode cX2_needWhere 14 = .ok (.aaload, 1) := dqo_50 (kb_of ke_X2_needWhere 14 rfl)
theorem dX2_needWhere_15 : decode cX2_needWhere 15 = .ok (.getfield 194, 3) := dqo_180 0 194 (kb_of ke_X2_needWhere 15 rfl) (kb_of ke_X2_needWhere 16 rfl) (kb_of ke_X2_needWhere 17 rfl)
theorem dX2_needWhere_18 : decode cX2_needWhere 18 = .ok (.ifCond .ne 14, 3) := dqo_154 0 14 (by decide) (kb_of ke_X2_needWhere 18 rfl) (kb_of ke_X2_needWhere 19 rfl) (kb_of ke_X2_needWhere 20 rfl)
theorem dX2_needWhere_32 : decode cX2_needWhere 32 = .ok (.return_, 1) := dqo_177 (kb_of ke_X2_needWhere 32 rfl)
set_option maxRecDepth 100000 in
set_option maxHeartbeats 4000000 in
theorem C_needWhere_ok {l : Launch} {D : va_G} {cy : Nat → ClassId} {X : (Nat → Prop) → State → Heap → Prop} {a f : Nat → Nat → Nat} {r : Nat → Nat → Int32} {kn : Int32} {Y : va_W} {w : Nat} (hX : EnvX X) (hw : w < 8) (h5 : f 5 w = 1) : Cd l D cy X yX2_needWhere cX2_needWhere 2 none (rmz 1 30) [.ref (a 0 0), .int (nI w)] (WC cy a f r kn ++ Y) none (WC cy a f r kn ++ Y) := by
  refine Cm.of [some (.ref (a 0 0)), some (.int (nI w))] pn_X2 rfl (Nat.le_of_ble_eq_true rfl) ?_
  intro p e s m args below meth c A C hE hr hnt hn
  refine r_iload_n C dX2_needWhere_0 rfl ?_
  refine r_bipush (v := (nI 8)) C dX2_needWhere_1 (by decide) ?_
  refine d_S (st := []) hX.stb C hE (C_isBelow1 (f := f) (r := r) (kn := kn) (k := w) (n := 8) hX (by first | omega | (simp [up2, *]; done) | (simp [up2, *]; omega) | (simp only [up2_eq]; omega)) (by first | omega | (simp [up2, *]; done) | (simp [up2, *]; omega) | (simp only [up2_eq]; omega))) pk_X2_isBelow qm_X2_275 rfl rfl (Nat.le_of_ble_eq_true rfl) dX2_needWhere_3 ⟨Nat.le_of_ble_eq_true rfl, Nat.le_of_ble_eq_true rfl⟩ ⟨Nat.le_of_ble_eq_true rfl, Nat.le_of_ble_eq_true rfl⟩ ?_
  refine r_ifN_eq (a := 1) (tgt := 21) C (by first | omega | (simp [up2, *]; done) | (simp [up2, *]; omega) | (simp only [up2_eq]; omega)) dX2_needWhere_6 (by decide) (fun h6_1 => ?_) (fun h6_1 => ?_)
  · exact absurd h6_1 (by first | omega | (simp [up2, *]; done) | (simp [up2, *]; omega) | (simp only [up2_eq]; omega))
  · skip
    refine r_aload_n C dX2_needWhere_9 rfl ?_
    refine s_get C 0 (by decide) qf_X2_11 rfl rfl dX2_needWhere_10 ?_
    refine r_iload_n C dX2_needWhere_13 rfl ?_
    refine s_parts C (by first | omega | (simp [up2, *]; done) | (simp [up2, *]; omega) | (simp only [up2_eq]; omega)) dX2_needWhere_14 ?_
    refine p_getN (v := .int (nI (f 5 w))) hX C hE 5 (by first | omega | (simp [up2, *]; done) | (simp [up2, *]; omega) | (simp only [up2_eq]; omega)) (by decide) qn_X2_194 rfl rfl dX2_needWhere_15 ?_
    refine r_ifN_ne (a := (f 5 w)) (tgt := 32) C (by first | omega | (simp [up2, *]; done) | (simp [up2, *]; omega) | (simp only [up2_eq]; omega)) dX2_needWhere_18 (by decide) (fun h18_2 => ?_) (fun h18_2 => ?_)
    · skip
      exact r_vret C hr dX2_needWhere_32 ⟨rfl, rfl⟩ (Nat.le_of_ble_eq_true rfl) (Nat.le_of_ble_eq_true rfl)
    · exact absurd (h18_2.symm.trans rfl : 0 = f 5 w) (by omega)
theorem dX2_needWhere_21 : decode cX2_needWhere 21 = .ok (.new 213, 3) := dqo_187 0 213 (kb_of ke_X2_needWhere 21 rfl) (kb_of ke_X2_needWhere 22 rfl) (kb_of ke_X2_needWhere 23 rfl)
theorem dX2_needWhere_24 : decode cX2_needWhere 24 = .ok (.dup, 1) := dqo_89 (kb_of ke_X2_needWhere 24 rfl)
theorem dX2_needWhere_25 : decode cX2_needWhere 25 = .ok (.ldc_w 288, 3) := dqo_19 1 32 (kb_of ke_X2_needWhere 25 rfl) (kb_of ke_X2_needWhere 26 rfl) (kb_of ke_X2_needWhere 27 rfl)
theorem dX2_needWhere_28 : decode cX2_needWhere 28 = .ok (.invokespecial 217, 3) := dqo_183 0 217 (kb_of ke_X2_needWhere 28 rfl) (kb_of ke_X2_needWhere 29 rfl) (kb_of ke_X2_needWhere 30 rfl)
theorem dX2_needWhere_31 : decode cX2_needWhere 31 = .ok (.athrow, 1) := dqo_191 (kb_of ke_X2_needWhere 31 rfl)
set_option maxRecDepth 100000 in
set_option maxHeartbeats 4000000 in
theorem C_needWhere_noA {l : Launch} {D : va_G} {cy : Nat → ClassId} {X : (Nat → Prop) → State → Heap → Prop} {a f : Nat → Nat → Nat} {r : Nat → Nat → Int32} {kn : Int32} {Y : va_W} {x : Int32} (hX : EnvX X) (hl : l.stackTraces = false) (hno : ¬ (0 ≤ x ∧ x < nI 8)) : Ce l D cy X yX2_needWhere cX2_needWhere 2 none (rmk 6 1 6 100) [.ref (a 0 0), .int x] (WC cy a f r kn ++ Y) "java/lang/IndexOutOfBoundsException" := by
  refine Cm.of [some (.ref (a 0 0)), some (.int x)] pn_X2 rfl (Nat.le_of_ble_eq_true rfl) ?_
  intro p e s m args below meth c A C hE hr hnt hn
  refine r_iload_n C dX2_needWhere_0 rfl ?_
  refine r_bipush (v := (nI 8)) C dX2_needWhere_1 (by decide) ?_
  refine d_S (st := []) hX.stb C hE (C_isBelow0 (f := f) (r := r) (kn := kn) (x := (x)) (n := 8) hX (by first | omega | (simp [up2, *]; done) | (simp [up2, *]; omega) | (simp only [up2_eq]; omega))) pk_X2_isBelow qm_X2_275 rfl rfl (Nat.le_of_ble_eq_true rfl) dX2_needWhere_3 ⟨Nat.le_of_ble_eq_true rfl, Nat.le_of_ble_eq_true rfl⟩ ⟨Nat.le_of_ble_eq_true rfl, Nat.le_of_ble_eq_true rfl⟩ ?_
  refine r_ifN_eq (a := 0) (tgt := 21) C (by first | omega | (simp [up2, *]; done) | (simp [up2, *]; omega) | (simp only [up2_eq]; omega)) dX2_needWhere_6 (by decide) (fun h6_1 => ?_) (fun h6_1 => ?_)
  · skip
    exact r_throwW (cls := "java/lang/IndexOutOfBoundsException") (text := "there is no such row or window") (names := ["java/lang/RuntimeException", "java/lang/Exception"]) hX hl C hE hnt thr_X2_213_217 (by decide +kernel) (by decide +kernel) (by decide +kernel) dX2_needWhere_21 dX2_needWhere_24 dX2_needWhere_25 dX2_needWhere_28 dX2_needWhere_31 (by decide) (Nat.le_of_ble_eq_true rfl) (Nat.le_of_ble_eq_true rfl) (Nat.le_of_ble_eq_true rfl) rfl rfl (Nat.le_of_ble_eq_true rfl) (Nat.le_of_ble_eq_true rfl)
  · exact absurd h6_1 (by first | omega | (simp [up2, *]; done) | (simp [up2, *]; omega) | (simp only [up2_eq]; omega))
set_option maxRecDepth 100000 in
set_option maxHeartbeats 4000000 in
theorem C_needWhere_noB {l : Launch} {D : va_G} {cy : Nat → ClassId} {X : (Nat → Prop) → State → Heap → Prop} {a f : Nat → Nat → Nat} {r : Nat → Nat → Int32} {kn : Int32} {Y : va_W} {w : Nat} (hX : EnvX X) (hl : l.stackTraces = false) (hw : w < 8) (h5 : f 5 w = 0) : Ce l D cy X yX2_needWhere cX2_needWhere 2 none (rmk 6 1 6 100) [.ref (a 0 0), .int (nI w)] (WC cy a f r kn ++ Y) "java/lang/IndexOutOfBoundsException" := by
  refine Cm.of [some (.ref (a 0 0)), some (.int (nI w))] pn_X2 rfl (Nat.le_of_ble_eq_true rfl) ?_
  intro p e s m args below meth c A C hE hr hnt hn
  refine r_iload_n C dX2_needWhere_0 rfl ?_
  refine r_bipush (v := (nI 8)) C dX2_needWhere_1 (by decide) ?_
  refine d_S (st := []) hX.stb C hE (C_isBelow1 (f := f) (r := r) (kn := kn) (k := w) (n := 8) hX (by first | omega | (simp [up2, *]; done) | (simp [up2, *]; omega) | (simp only [up2_eq]; omega)) (by first | omega | (simp [up2, *]; done) | (simp [up2, *]; omega) | (simp only [up2_eq]; omega))) pk_X2_isBelow qm_X2_275 rfl rfl (Nat.le_of_ble_eq_true rfl) dX2_needWhere_3 ⟨Nat.le_of_ble_eq_true rfl, Nat.le_of_ble_eq_true rfl⟩ ⟨Nat.le_of_ble_eq_true rfl, Nat.le_of_ble_eq_true rfl⟩ ?_
  refine r_ifN_eq (a := 1) (tgt := 21) C (by first | omega | (simp [up2, *]; done) | (simp [up2, *]; omega) | (simp only [up2_eq]; omega)) dX2_needWhere_6 (by decide) (fun h6_1 => ?_) (fun h6_1 => ?_)
  · exact absurd h6_1 (by first | omega | (simp [up2, *]; done) | (simp [up2, *]; omega) | (simp only [up2_eq]; omega))
  · skip
    refine r_aload_n C dX2_needWhere_9 rfl ?_
    refine s_get C 0 (by decide) qf_X2_11 rfl rfl dX2_needWhere_10 ?_
    refine r_iload_n C dX2_needWhere_13 rfl ?_
    refine s_parts C (by first | omega | (simp [up2, *]; done) | (simp [up2, *]; omega) | (simp only [up2_eq]; omega)) dX2_needWhere_14 ?_
    refine p_getN (v := .int (nI (f 5 w))) hX C hE 5 (by first | omega | (simp [up2, *]; done) | (simp [up2, *]; omega) | (simp only [up2_eq]; omega)) (by decide) qn_X2_194 rfl rfl dX2_needWhere_15 ?_
    refine r_ifN_ne (a := (f 5 w)) (tgt := 32) C (by first | omega | (simp [up2, *]; done) | (simp [up2, *]; omega) | (simp only [up2_eq]; omega)) dX2_needWhere_18 (by decide) (fun h18_2 => ?_) (fun h18_2 => ?_)
    · first
      | exfalso; first | omega | contradiction
      | skip
        exact r_vret C hr dX2_needWhere_32 ⟨rfl, rfl⟩ (Nat.le_of_ble_eq_true rfl) (Nat.le_of_ble_eq_true rfl)
    · first
      | exfalso; first | omega | contradiction
      | skip
        exact r_throwW (cls := "java/lang/IndexOutOfBoundsException") (text := "there is no such row or window") (names := ["java/lang/RuntimeException", "java/lang/Exception"]) hX hl C hE hnt thr_X2_213_217 (by decide +kernel) (by decide +kernel) (by decide +kernel) dX2_needWhere_21 dX2_needWhere_24 dX2_needWhere_25 dX2_needWhere_28 dX2_needWhere_31 (by decide) (Nat.le_of_ble_eq_true rfl) (Nat.le_of_ble_eq_true rfl) (Nat.le_of_ble_eq_true rfl) rfl rfl (Nat.le_of_ble_eq_true rfl) (Nat.le_of_ble_eq_true rfl)
/-- there is no such where -/
def noW (f : Nat → Nat → Nat) (x : Int32) : Prop := ¬ ∃ w, w < 8 ∧ x = nI w ∧ f 5 w = 1
theorem in_of {x : Int32} {n : Nat} (hn : n < 2147483648) (h : 0 ≤ x ∧ x < nI n) : ∃ j, j < n ∧ x = nI j := by
  rcases pk_ix x hn with h1 | h1 | h1
  · exact absurd h.1 (Int32.not_le.mpr h1)
  · exact absurd h.2 (Int32.not_lt.mpr h1)
  · exact h1
theorem noW_or {f : Nat → Nat → Nat} {x : Int32} (h : noW f x) (h5 : ∀ i, i < 8 → f 5 i ≤ 1) : ¬ (0 ≤ x ∧ x < nI 8) ∨ ∃ w, w < 8 ∧ x = nI w ∧ f 5 w = 0 := by
  by_cases h1 : 0 ≤ x ∧ x < nI 8
  · obtain ⟨w, hw, e⟩ := in_of (by omega) h1
    refine Or.inr ⟨w, hw, e, ?_⟩
    have h2 := h5 w hw
    have h3 : f 5 w ≠ 1 := fun q => h ⟨w, hw, e, q⟩
    omega
  · exact Or.inl h1
theorem C_needWhere_no {l : Launch} {D : va_G} {cy : Nat → ClassId} {X : (Nat → Prop) → State → Heap → Prop} {a f : Nat → Nat → Nat} {r : Nat → Nat → Int32} {kn : Int32} {Y : va_W} {x : Int32} (hX : EnvX X) (hl : l.stackTraces = false) (hno : noW f x) (h5 : ∀ i, i < 8 → f 5 i ≤ 1) : Ce l D cy X yX2_needWhere cX2_needWhere 2 none (rmk 6 1 6 100) [.ref (a 0 0), .int x] (WC cy a f r kn ++ Y) "java/lang/IndexOutOfBoundsException" := by
  rcases noW_or hno h5 with h | ⟨w, hw, rfl, h0⟩
  · exact C_needWhere_noA hX hl h
  · exact C_needWhere_noB hX hl hw h0
theorem pk_X2_needWhere : PkV RX2 yX2_needWhere cX2_needWhere 2 none 1 := ⟨⟨qi_X2_needWhere, qs_X2_needWhere, qz_X2, qc_X2_needWhere⟩, rfl, mh_X2.1, mh_X2.2, pd_6⟩
theorem dX2_needPlace_0 : decode cX2_needPlace 0 = .ok (.aload_n 0, 1) := dqo_42 (kb_of ke_X2_needPlace 0 rfl)
theorem dX2_needPlace_1 : decode cX2_needPlace 1 = .ok (.iload_n 1, 1) := dqo_27 (kb_of ke_X2_needPlace 1 rfl)
theorem dX2_needPlace_2 : decode cX2_needPlace 2 = .ok (.invokevirtual 39, 3) := dqo_182 0 39 (kb_of ke_X2_needPlace 2 rfl) (kb_of ke_X2_needPlace 3 rfl) (kb_of ke_X2_needPlace 4 rfl)
theorem dX2_needPlace_5 : decode cX2_needPlace 5 = .ok (.iload_n 2, 1) := dqo_28 (kb_of ke_X2_needPlace 5 rfl)
theorem dX2_needPlace_6 : decode cX2_needPlace 6 = .ok (.aload_n 0, 1) := dqo_42 (kb_of ke_X2_needPlace 6 rfl)
theorem dX2_needPlace_7 : decode cX2_needPlace 7 = .ok (.getfield 11, 3) := dqo_180 0 11 (kb_of ke_X2_needPlace 7 rfl) (kb_of ke_X2_needPlace 8 rfl) (kb_of ke_X2_needPlace 9 rfl)
theorem dX2_needPlace_10 : decode cX2_needPlace 10 = .ok (.iload_n 1, 1) := dqo_27 (kb_of ke_X2_needPlace 10 rfl)
theorem dX2_needPlace_11 : decode cX2_needPlace 11 = .ok (.aaload, 1) := dqo_50 (kb_of ke_X2_needPlace 11 rfl)
theorem dX2_needPlace_12 : decode cX2_needPlace 12 = .ok (.getfield 50, 3) := dqo_180 0 50 (kb_of ke_X2_needPlace 12 rfl) (kb_of ke_X2_needPlace 13 rfl) (kb_of ke_X2_needPlace 14 rfl)
theorem dX2_needPlace_15 : decode cX2_needPlace 15 = .ok (.invokestatic 275, 3) := dqo_184 1 19 (kb_of ke_X2_needPlace 15 rfl) (kb_of ke_X2_needPlace 16 rfl) (kb_of ke_X2_needPlace 17 rfl)
theorem dX2_needPlace_18 : decode cX2_needPlace 18 = .ok (.ifCond .ne 14, 3) := dqo_154 0 14 (by decide) (kb_of ke_X2_needPlace 18 rfl) (kb_of ke_X2_needPlace 19 rfl) (kb_of ke_X2_needPlace 20 rfl)
theorem dX2_needPlace_32 : decode cX2_needPlace 32 = .ok (.return_, 1) := dqo_177 (kb_of ke_X2_needPlace 32 rfl)
set_option maxRecDepth 100000 in
set_option maxHeartbeats 4000000 in
theorem C_needPlace_ok {l : Launch} {D : va_G} {cy : Nat → ClassId} {X : (Nat → Prop) → State → Heap → Prop} {a f : Nat → Nat → Nat} {r : Nat → Nat → Int32} {kn : Int32} {Y : va_W} {w : Nat} {k : Nat} (hX : EnvX X) (hw : w < 8) (h5 : f 5 w = 1) (hk : k < f 4 w) (h4 : f 4 w ≤ 12) : Cd l D cy X yX2_needPlace cX2_needPlace 3 none (rmz 2 60) [.ref (a 0 0), .int (nI w), .int (nI k)] (WC cy a f r kn ++ Y) none (WC cy a f r kn ++ Y) := by
  refine Cm.of [some (.ref (a 0 0)), some (.int (nI w)), some (.int (nI k))] pn_X2 rfl (Nat.le_of_ble_eq_true rfl) ?_
  intro p e s m args below meth c A C hE hr hnt hn
  refine r_aload_n C dX2_needPlace_0 rfl ?_
  refine r_iload_n C dX2_needPlace_1 rfl ?_
  refine d_Vv (st := []) hX.stb C hE (C_needWhere_ok (f := f) (r := r) (kn := kn) (w := w) hX (by first | omega | (simp [up2, *]; done) | (simp [up2, *]; omega) | (simp only [up2_eq]; omega)) (by first | omega | (simp [up2, *]; done) | (simp [up2, *]; omega) | (simp only [up2_eq]; omega))) pk_X2_needWhere qm_X2_39 0 6 rfl rfl wc_0 rfl rfl (Nat.le_of_ble_eq_true rfl) dX2_needPlace_2 ⟨Nat.le_of_ble_eq_true rfl, Nat.le_of_ble_eq_true rfl⟩ ⟨Nat.le_of_ble_eq_true rfl, Nat.le_of_ble_eq_true rfl⟩ ?_
  refine r_iload_n C dX2_needPlace_5 rfl ?_
  refine r_aload_n C dX2_needPlace_6 rfl ?_
  refine s_get C 0 (by decide) qf_X2_11 rfl rfl dX2_needPlace_7 ?_
  refine r_iload_n C dX2_needPlace_10 rfl ?_
  refine s_parts C (by first | omega | (simp [up2, *]; done) | (simp [up2, *]; omega) | (simp only [up2_eq]; omega)) dX2_needPlace_11 ?_
  refine p_getN (v := .int (nI (f 4 w))) hX C hE 4 (by first | omega | (simp [up2, *]; done) | (simp [up2, *]; omega) | (simp only [up2_eq]; omega)) (by decide) qn_X2_50 rfl rfl dX2_needPlace_12 ?_
  refine d_S (st := []) hX.stb C hE (C_isBelow1 (f := f) (r := r) (kn := kn) (k := k) (n := (f 4 w)) hX (by first | omega | (simp [up2, *]; done) | (simp [up2, *]; omega) | (simp only [up2_eq]; omega)) (by first | omega | (simp [up2, *]; done) | (simp [up2, *]; omega) | (simp only [up2_eq]; omega))) pk_X2_isBelow qm_X2_275 rfl rfl (Nat.le_of_ble_eq_true rfl) dX2_needPlace_15 ⟨Nat.le_of_ble_eq_true rfl, Nat.le_of_ble_eq_true rfl⟩ ⟨Nat.le_of_ble_eq_true rfl, Nat.le_of_ble_eq_true rfl⟩ ?_
  refine r_ifN_ne (a := 1) (tgt := 32) C (by first | omega | (simp [up2, *]; done) | (simp [up2, *]; omega) | (simp only [up2_eq]; omega)) dX2_needPlace_18 (by decide) (fun h18_1 => ?_) (fun h18_1 => ?_)
  · skip
    exact r_vret C hr dX2_needPlace_32 ⟨rfl, rfl⟩ (Nat.le_of_ble_eq_true rfl) (Nat.le_of_ble_eq_true rfl)
  · exact absurd h18_1 (by first | omega | (simp [up2, *]; done) | (simp [up2, *]; omega) | (simp only [up2_eq]; omega))
set_option maxRecDepth 100000 in
set_option maxHeartbeats 4000000 in
theorem C_needPlace_noW {l : Launch} {D : va_G} {cy : Nat → ClassId} {X : (Nat → Prop) → State → Heap → Prop} {a f : Nat → Nat → Nat} {r : Nat → Nat → Int32} {kn : Int32} {Y : va_W} {x : Int32} {y : Int32} (hX : EnvX X) (hl : l.stackTraces = false) (hno : noW f x) (h5a : ∀ i, i < 8 → f 5 i ≤ 1) : Ce l D cy X yX2_needPlace cX2_needPlace 3 none (rmk 7 1 6 130) [.ref (a 0 0), .int x, .int y] (WC cy a f r kn ++ Y) "java/lang/IndexOutOfBoundsException" := by
  refine Cm.of [some (.ref (a 0 0)), some (.int x), some (.int y)] pn_X2 rfl (Nat.le_of_ble_eq_true rfl) ?_
  intro p e s m args below meth c A C hE hr hnt hn
  refine r_aload_n C dX2_needPlace_0 rfl ?_
  refine r_iload_n C dX2_needPlace_1 rfl ?_
  refine c_V (st := []) hX.stb C hE (C_needWhere_no (f := f) (r := r) (kn := kn) (x := (x)) hX hl hno h5a) pk_X2_needWhere qm_X2_39 0 6 rfl rfl wc_0 rfl rfl (Nat.le_of_ble_eq_true rfl) dX2_needPlace_2 ⟨Nat.le_of_ble_eq_true rfl, Nat.le_of_ble_eq_true rfl⟩ ⟨Nat.le_of_ble_eq_true rfl, Nat.le_of_ble_eq_true rfl⟩ (fun _ _ h9 => h9.elim) (fun E9 h9 => ?_)
  subst h9
  exact r_out C hnt rfl rfl (Nat.le_of_ble_eq_true rfl) (Nat.le_of_ble_eq_true rfl)
theorem dX2_needPlace_21 : decode cX2_needPlace 21 = .ok (.new 213, 3) := dqo_187 0 213 (kb_of ke_X2_needPlace 21 rfl) (kb_of ke_X2_needPlace 22 rfl) (kb_of ke_X2_needPlace 23 rfl)
theorem dX2_needPlace_24 : decode cX2_needPlace 24 = .ok (.dup, 1) := dqo_89 (kb_of ke_X2_needPlace 24 rfl)
theorem dX2_needPlace_25 : decode cX2_needPlace 25 = .ok (.ldc_w 290, 3) := dqo_19 1 34 (kb_of ke_X2_needPlace 25 rfl) (kb_of ke_X2_needPlace 26 rfl) (kb_of ke_X2_needPlace 27 rfl)
theorem dX2_needPlace_28 : decode cX2_needPlace 28 = .ok (.invokespecial 217, 3) := dqo_183 0 217 (kb_of ke_X2_needPlace 28 rfl) (kb_of ke_X2_needPlace 29 rfl) (kb_of ke_X2_needPlace 30 rfl)
theorem dX2_needPlace_31 : decode cX2_needPlace 31 = .ok (.athrow, 1) := dqo_191 (kb_of ke_X2_needPlace 31 rfl)
set_option maxRecDepth 100000 in
set_option maxHeartbeats 4000000 in
theorem C_needPlace_no {l : Launch} {D : va_G} {cy : Nat → ClassId} {X : (Nat → Prop) → State → Heap → Prop} {a f : Nat → Nat → Nat} {r : Nat → Nat → Int32} {kn : Int32} {Y : va_W} {w : Nat} {y : Int32} (hX : EnvX X) (hl : l.stackTraces = false) (hw : w < 8) (h5 : f 5 w = 1) (hno : ¬ (0 ≤ y ∧ y < nI (f 4 w))) : Ce l D cy X yX2_needPlace cX2_needPlace 3 none (rmk 7 1 6 130) [.ref (a 0 0), .int (nI w), .int y] (WC cy a f r kn ++ Y) "java/lang/IndexOutOfBoundsException" := by
  refine Cm.of [some (.ref (a 0 0)), some (.int (nI w)), some (.int y)] pn_X2 rfl (Nat.le_of_ble_eq_true rfl) ?_
  intro p e s m args below meth c A C hE hr hnt hn
  refine r_aload_n C dX2_needPlace_0 rfl ?_
  refine r_iload_n C dX2_needPlace_1 rfl ?_
  refine d_Vv (st := []) hX.stb C hE (C_needWhere_ok (f := f) (r := r) (kn := kn) (w := w) hX (by first | omega | (simp [up2, *]; done) | (simp [up2, *]; omega) | (simp only [up2_eq]; omega)) (by first | omega | (simp [up2, *]; done) | (simp [up2, *]; omega) | (simp only [up2_eq]; omega))) pk_X2_needWhere qm_X2_39 0 6 rfl rfl wc_0 rfl rfl (Nat.le_of_ble_eq_true rfl) dX2_needPlace_2 ⟨Nat.le_of_ble_eq_true rfl, Nat.le_of_ble_eq_true rfl⟩ ⟨Nat.le_of_ble_eq_true rfl, Nat.le_of_ble_eq_true rfl⟩ ?_
  refine r_iload_n C dX2_needPlace_5 rfl ?_
  refine r_aload_n C dX2_needPlace_6 rfl ?_
  refine s_get C 0 (by decide) qf_X2_11 rfl rfl dX2_needPlace_7 ?_
  refine r_iload_n C dX2_needPlace_10 rfl ?_
  refine s_parts C (by first | omega | (simp [up2, *]; done) | (simp [up2, *]; omega) | (simp only [up2_eq]; omega)) dX2_needPlace_11 ?_
  refine p_getN (v := .int (nI (f 4 w))) hX C hE 4 (by first | omega | (simp [up2, *]; done) | (simp [up2, *]; omega) | (simp only [up2_eq]; omega)) (by decide) qn_X2_50 rfl rfl dX2_needPlace_12 ?_
  refine d_S (st := []) hX.stb C hE (C_isBelow0 (f := f) (r := r) (kn := kn) (x := (y)) (n := (f 4 w)) hX hno) pk_X2_isBelow qm_X2_275 rfl rfl (Nat.le_of_ble_eq_true rfl) dX2_needPlace_15 ⟨Nat.le_of_ble_eq_true rfl, Nat.le_of_ble_eq_true rfl⟩ ⟨Nat.le_of_ble_eq_true rfl, Nat.le_of_ble_eq_true rfl⟩ ?_
  refine r_ifN_ne (a := 0) (tgt := 32) C (by first | omega | (simp [up2, *]; done) | (simp [up2, *]; omega) | (simp only [up2_eq]; omega)) dX2_needPlace_18 (by decide) (fun h18_1 => ?_) (fun h18_1 => ?_)
  · exact absurd h18_1 (by first | omega | (simp [up2, *]; done) | (simp [up2, *]; omega) | (simp only [up2_eq]; omega))
  · skip
    exact r_throwW (cls := "java/lang/IndexOutOfBoundsException") (text := "there is no such place") (names := ["java/lang/RuntimeException", "java/lang/Exception"]) hX hl C hE hnt thr_X2_213_217 (by decide +kernel) (by decide +kernel) (by decide +kernel) dX2_needPlace_21 dX2_needPlace_24 dX2_needPlace_25 dX2_needPlace_28 dX2_needPlace_31 (by decide) (Nat.le_of_ble_eq_true rfl) (Nat.le_of_ble_eq_true rfl) (Nat.le_of_ble_eq_true rfl) rfl rfl (Nat.le_of_ble_eq_true rfl) (Nat.le_of_ble_eq_true rfl)
theorem thr_X2_147_151 : thr_ok RX2 147 151 "java/lang/IllegalStateException" ["java/lang/RuntimeException", "java/lang/Exception"] = true := thr_of [720, 11, 6, 237, 246, 252, 255, 257, 238, 239, 31, 32, 240, 245, 253, 273, 227, 274, 229, 275, 231, 241, 243, 233, 269, 270, 272, 233, 731, 732, 733, 263, 219, 263, 264, 265, 266, 221, 266, 267, 268, 269, 223, 730, 721, 722, 723, 249, 724, 725, 726, 727, 236, 235, 728] (by decide +kernel) (by decide +kernel)
theorem dX2_needRoom_0 : decode cX2_needRoom 0 = .ok (.aload_n 0, 1) := dqo_42 (kb_of ke_X2_needRoom 0 rfl)
theorem dX2_needRoom_1 : decode cX2_needRoom 1 = .ok (.getfield 11, 3) := dqo_180 0 11 (kb_of ke_X2_needRoom 1 rfl) (kb_of ke_X2_needRoom 2 rfl) (kb_of ke_X2_needRoom 3 rfl)
theorem dX2_needRoom_4 : decode cX2_needRoom 4 = .ok (.aload_n 0, 1) := dqo_42 (kb_of ke_X2_needRoom 4 rfl)
theorem dX2_needRoom_5 : decode cX2_needRoom 5 = .ok (.getfield 11, 3) := dqo_180 0 11 (kb_of ke_X2_needRoom 5 rfl) (kb_of ke_X2_needRoom 6 rfl) (kb_of ke_X2_needRoom 7 rfl)
theorem dX2_needRoom_8 : decode cX2_needRoom 8 = .ok (.iload_n 1, 1) := dqo_27 (kb_of ke_X2_needRoom 8 rfl)
theorem dX2_needRoom_9 : decode cX2_needRoom 9 = .ok (.aaload, 1) := dqo_50 (kb_of ke_X2_needRoom 9 rfl)
theorem dX2_needRoom_10 : decode cX2_needRoom 10 = .ok (.getfield 207, 3) := dqo_180 0 207 (kb_of ke_X2_needRoom 10 rfl) (kb_of ke_X2_needRoom 11 rfl) (kb_of ke_X2_needRoom 12 rfl)
theorem dX2_needRoom_13 : decode cX2_needRoom 13 = .ok (.aaload, 1) := dqo_50 (kb_of ke_X2_needRoom 13 rfl)
theorem dX2_needRoom_14 : decode cX2_needRoom 14 = .ok (.getfield 50, 3) := dqo_180 0 50 (kb_of ke_X2_needRoom 14 rfl) (kb_of ke_X2_needRoom 15 rfl) (kb_of ke_X2_needRoom 16 rfl)
theorem dX2_needRoom_17 : decode cX2_needRoom 17 = .ok (.iload_n 2, 1) := dqo_28 (kb_of ke_X2_needRoom 17 rfl)
theorem dX2_needRoom_18 : decode cX2_needRoom 18 = .ok (.iadd, 1) := dqo_96 (kb_of ke_X2_needRoom 18 rfl)
theorem dX2_needRoom_19 : decode cX2_needRoom 19 = .ok (.bipush 12, 2) := dqo_16 12 (by decide) (kb_of ke_X2_needRoom 19 rfl) (kb_of ke_X2_needRoom 20 rfl)
theorem dX2_needRoom_21 : decode cX2_needRoom 21 = .ok (.if_icmp .le 14, 3) := dqo_164 0 14 (by decide) (kb_of ke_X2_needRoom 21 rfl) (kb_of ke_X2_needRoom 22 rfl) (kb_of ke_X2_needRoom 23 rfl)
theorem dX2_needRoom_24 : decode cX2_needRoom 24 = .ok (.new 147, 3) := dqo_187 0 147 (kb_of ke_X2_needRoom 24 rfl) (kb_of ke_X2_needRoom 25 rfl) (kb_of ke_X2_needRoom 26 rfl)
theorem dX2_needRoom_27 : decode cX2_needRoom 27 = .ok (.dup, 1) := dqo_89 (kb_of ke_X2_needRoom 27 rfl)
theorem dX2_needRoom_28 : decode cX2_needRoom 28 = .ok (.ldc_w 292, 3) := dqo_19 1 36 (kb_of ke_X2_needRoom 28 rfl) (kb_of ke_X2_needRoom 29 rfl) (kb_of ke_X2_needRoom 30 rfl)
theorem dX2_needRoom_31 : decode cX2_needRoom 31 = .ok (.invokespecial 151, 3) := dqo_183 0 151 (kb_of ke_X2_needRoom 31 rfl) (kb_of ke_X2_needRoom 32 rfl) (kb_of ke_X2_needRoom 33 rfl)
theorem dX2_needRoom_34 : decode cX2_needRoom 34 = .ok (.athrow, 1) := dqo_191 (kb_of ke_X2_needRoom 34 rfl)
theorem dX2_needRoom_35 : decode cX2_needRoom 35 = .ok (.return_, 1) := dqo_177 (kb_of ke_X2_needRoom 35 rfl)
set_option maxRecDepth 100000 in
set_option maxHeartbeats 4000000 in
theorem C_needRoom_ok {l : Launch} {D : va_G} {cy : Nat → ClassId} {X : (Nat → Prop) → State → Heap → Prop} {a f : Nat → Nat → Nat} {r : Nat → Nat → Int32} {kn : Int32} {Y : va_W} {w : Nat} {x : Int32} {q0 : Nat} (hX : EnvX X) (hw : w < 8) (h1 : f 1 w < 8) (hm : nI (f 4 (f 1 w)) + x = nI q0) (hq : q0 ≤ 12) : Cd l D cy X yX2_needRoom cX2_needRoom 3 none (rmz 0 0) [.ref (a 0 0), .int (nI w), .int x] (WC cy a f r kn ++ Y) none (WC cy a f r kn ++ Y) := by
  refine Cm.of [some (.ref (a 0 0)), some (.int (nI w)), some (.int x)] pn_X2 rfl (Nat.le_of_ble_eq_true rfl) ?_
  intro p e s m args below meth c A C hE hr hnt hn
  refine r_aload_n C dX2_needRoom_0 rfl ?_
  refine s_get C 0 (by decide) qf_X2_11 rfl rfl dX2_needRoom_1 ?_
  refine r_aload_n C dX2_needRoom_4 rfl ?_
  refine s_get C 0 (by decide) qf_X2_11 rfl rfl dX2_needRoom_5 ?_
  refine r_iload_n C dX2_needRoom_8 rfl ?_
  refine s_parts C (by first | omega | (simp [up2, *]; done) | (simp [up2, *]; omega) | (simp only [up2_eq]; omega)) dX2_needRoom_9 ?_
  refine p_getN (v := .int (nI (f 1 w))) hX C hE 1 (by first | omega | (simp [up2, *]; done) | (simp [up2, *]; omega) | (simp only [up2_eq]; omega)) (by decide) qn_X2_207 rfl rfl dX2_needRoom_10 ?_
  refine s_parts C (by first | omega | (simp [up2, *]; done) | (simp [up2, *]; omega) | (simp only [up2_eq]; omega)) dX2_needRoom_13 ?_
  refine p_getN (v := .int (nI (f 4 (f 1 w)))) hX C hE 4 (by first | omega | (simp [up2, *]; done) | (simp [up2, *]; omega) | (simp only [up2_eq]; omega)) (by decide) qn_X2_50 rfl rfl dX2_needRoom_14 ?_
  refine r_iload_n C dX2_needRoom_17 rfl ?_
  refine r_iadd C dX2_needRoom_18 ?_
  refine r_eqi hm ?_
  refine r_bipush (v := (nI 12)) C dX2_needRoom_19 (by decide) ?_
  refine r_icN_le (a := q0) (b := 12) (tgt := 35) C (by first | omega | (simp [up2, *]; done) | (simp [up2, *]; omega) | (simp only [up2_eq]; omega)) (by first | omega | (simp [up2, *]; done) | (simp [up2, *]; omega) | (simp only [up2_eq]; omega)) dX2_needRoom_21 (by decide) (fun h21_1 => ?_) (fun h21_1 => ?_)
  · first
    | exfalso; first | omega | contradiction
    | skip
      exact r_vret C hr dX2_needRoom_35 ⟨rfl, rfl⟩ (Nat.le_of_ble_eq_true rfl) (Nat.le_of_ble_eq_true rfl)
  · first
    | exfalso; first | omega | contradiction
    | skip
      exact r_throwW (cls := "java/lang/IllegalStateException") (text := "a row has at most 12 items") (names := ["java/lang/RuntimeException", "java/lang/Exception"]) hX hl C hE hnt thr_X2_147_151 (by decide +kernel) (by decide +kernel) (by decide +kernel) dX2_needRoom_24 dX2_needRoom_27 dX2_needRoom_28 dX2_needRoom_31 dX2_needRoom_34 (by decide) (Nat.le_of_ble_eq_true rfl) (Nat.le_of_ble_eq_true rfl) (Nat.le_of_ble_eq_true rfl) rfl rfl (Nat.le_of_ble_eq_true rfl) (Nat.le_of_ble_eq_true rfl)
set_option maxRecDepth 100000 in
set_option maxHeartbeats 4000000 in
theorem C_needRoom_no {l : Launch} {D : va_G} {cy : Nat → ClassId} {X : (Nat → Prop) → State → Heap → Prop} {a f : Nat → Nat → Nat} {r : Nat → Nat → Int32} {kn : Int32} {Y : va_W} {w : Nat} {x : Int32} {q0 : Nat} (hX : EnvX X) (hl : l.stackTraces = false) (hw : w < 8) (h1 : f 1 w < 8) (hm : nI (f 4 (f 1 w)) + x = nI q0) (hq : 12 < q0) (hq2 : q0 < 2147483648) : Ce l D cy X yX2_needRoom cX2_needRoom 3 none (rmk 6 1 6 100) [.ref (a 0 0), .int (nI w), .int x] (WC cy a f r kn ++ Y) "java/lang/IllegalStateException" := by
  refine Cm.of [some (.ref (a 0 0)), some (.int (nI w)), some (.int x)] pn_X2 rfl (Nat.le_of_ble_eq_true rfl) ?_
  intro p e s m args below meth c A C hE hr hnt hn
  refine r_aload_n C dX2_needRoom_0 rfl ?_
  refine s_get C 0 (by decide) qf_X2_11 rfl rfl dX2_needRoom_1 ?_
  refine r_aload_n C dX2_needRoom_4 rfl ?_
  refine s_get C 0 (by decide) qf_X2_11 rfl rfl dX2_needRoom_5 ?_
  refine r_iload_n C dX2_needRoom_8 rfl ?_
  refine s_parts C (by first | omega | (simp [up2, *]; done) | (simp [up2, *]; omega) | (simp only [up2_eq]; omega)) dX2_needRoom_9 ?_
  refine p_getN (v := .int (nI (f 1 w))) hX C hE 1 (by first | omega | (simp [up2, *]; done) | (simp [up2, *]; omega) | (simp only [up2_eq]; omega)) (by decide) qn_X2_207 rfl rfl dX2_needRoom_10 ?_
  refine s_parts C (by first | omega | (simp [up2, *]; done) | (simp [up2, *]; omega) | (simp only [up2_eq]; omega)) dX2_needRoom_13 ?_
  refine p_getN (v := .int (nI (f 4 (f 1 w)))) hX C hE 4 (by first | omega | (simp [up2, *]; done) | (simp [up2, *]; omega) | (simp only [up2_eq]; omega)) (by decide) qn_X2_50 rfl rfl dX2_needRoom_14 ?_
  refine r_iload_n C dX2_needRoom_17 rfl ?_
  refine r_iadd C dX2_needRoom_18 ?_
  refine r_eqi hm ?_
  refine r_bipush (v := (nI 12)) C dX2_needRoom_19 (by decide) ?_
  refine r_icN_le (a := q0) (b := 12) (tgt := 35) C (by first | omega | (simp [up2, *]; done) | (simp [up2, *]; omega) | (simp only [up2_eq]; omega)) (by first | omega | (simp [up2, *]; done) | (simp [up2, *]; omega) | (simp only [up2_eq]; omega)) dX2_needRoom_21 (by decide) (fun h21_1 => ?_) (fun h21_1 => ?_)
  · first
    | exfalso; first | omega | contradiction
    | skip
      exact r_vret C hr dX2_needRoom_35 ⟨rfl, rfl⟩ (Nat.le_of_ble_eq_true rfl) (Nat.le_of_ble_eq_true rfl)
  · first
    | exfalso; first | omega | contradiction
    | skip
      exact r_throwW (cls := "java/lang/IllegalStateException") (text := "a row has at most 12 items") (names := ["java/lang/RuntimeException", "java/lang/Exception"]) hX hl C hE hnt thr_X2_147_151 (by decide +kernel) (by decide +kernel) (by decide +kernel) dX2_needRoom_24 dX2_needRoom_27 dX2_needRoom_28 dX2_needRoom_31 dX2_needRoom_34 (by decide) (Nat.le_of_ble_eq_true rfl) (Nat.le_of_ble_eq_true rfl) (Nat.le_of_ble_eq_true rfl) rfl rfl (Nat.le_of_ble_eq_true rfl) (Nat.le_of_ble_eq_true rfl)
theorem pk_X2_needCursor : PkS yX2_needCursor cX2_needCursor 1 none 1 := ⟨⟨qt_X2_needCursor, qz_X2, qc_X2_needCursor⟩, mh_X2.1, mh_X2.2, pd_6⟩
theorem dX2_needCursorThere_0 : decode cX2_needCursorThere 0 = .ok (.iload_n 1, 1) := dqo_27 (kb_of ke_X2_needCursorThere 0 rfl)
theorem dX2_needCursorThere_1 : decode cX2_needCursorThere 1 = .ok (.invokestatic 210, 3) := dqo_184 0 210 (kb_of ke_X2_needCursorThere 1 rfl) (kb_of ke_X2_needCursorThere 2 rfl) (kb_of ke_X2_needCursorThere 3 rfl)
theorem dX2_needCursorThere_4 : decode cX2_needCursorThere 4 = .ok (.aload_n 0, 1) := dqo_42 (kb_of ke_X2_needCursorThere 4 rfl)
theorem dX2_needCursorThere_5 : decode cX2_needCursorThere 5 = .ok (.getfield 24, 3) := dqo_180 0 24 (kb_of ke_X2_needCursorThere 5 rfl) (kb_of ke_X2_needCursorThere 6 rfl) (kb_of ke_X2_needCursorThere 7 rfl)
theorem dX2_needCursorThere_8 : decode cX2_needCursorThere 8 = .ok (.iload_n 1, 1) := dqo_27 (kb_of ke_X2_needCursorThere 8 rfl)
theorem dX2_needCursorThere_9 : decode cX2_needCursorThere 9 = .ok (.aaload, 1) := dqo_50 (kb_of ke_X2_needCursorThere 9 rfl)
theorem dX2_needCursorThere_10 : decode cX2_needCursorThere 10 = .ok (.getfield 221, 3) := dqo_180 0 221 (kb_of ke_X2_needCursorThere 10 rfl) (kb_of ke_X2_needCursorThere 11 rfl) (kb_of ke_X2_needCursorThere 12 rfl)
theorem dX2_needCursorThere_13 : decode cX2_needCursorThere 13 = .ok (.ifCond .ne 14, 3) := dqo_154 0 14 (by decide) (kb_of ke_X2_needCursorThere 13 rfl) (kb_of ke_X2_needCursorThere 14 rfl) (kb_of ke_X2_needCursorThere 15 rfl)
theorem dX2_needCursorThere_16 : decode cX2_needCursorThere 16 = .ok (.new 147, 3) := dqo_187 0 147 (kb_of ke_X2_needCursorThere 16 rfl) (kb_of ke_X2_needCursorThere 17 rfl) (kb_of ke_X2_needCursorThere 18 rfl)
theorem dX2_needCursorThere_19 : decode cX2_needCursorThere 19 = .ok (.dup, 1) := dqo_89 (kb_of ke_X2_needCursorThere 19 rfl)
theorem dX2_needCursorThere_20 : decode cX2_needCursorThere 20 = .ok (.ldc_w 294, 3) := dqo_19 1 38 (kb_of ke_X2_needCursorThere 20 rfl) (kb_of ke_X2_needCursorThere 21 rfl) (kb_of ke_X2_needCursorThere 22 rfl)
theorem dX2_needCursorThere_23 : decode cX2_needCursorThere 23 = .ok (.invokespecial 151, 3) := dqo_183 0 151 (kb_of ke_X2_needCursorThere 23 rfl) (kb_of ke_X2_needCursorThere 24 rfl) (kb_of ke_X2_needCursorThere 25 rfl)
theorem dX2_needCursorThere_26 : decode cX2_needCursorThere 26 = .ok (.athrow, 1) := dqo_191 (kb_of ke_X2_needCursorThere 26 rfl)
theorem dX2_needCursorThere_27 : decode cX2_needCursorThere 27 = .ok (.return_, 1) := dqo_177 (kb_of ke_X2_needCursorThere 27 rfl)
set_option maxRecDepth 100000 in
set_option maxHeartbeats 4000000 in
theorem C_needCursorThere_ok {l : Launch} {D : va_G} {cy : Nat → ClassId} {X : (Nat → Prop) → State → Heap → Prop} {a f : Nat → Nat → Nat} {r : Nat → Nat → Int32} {kn : Int32} {Y : va_W} {k : Nat} (hX : EnvX X) (hk : k < 3) (h9 : f 9 k = 1) : Cd l D cy X yX2_needCursorThere cX2_needCursorThere 2 none (rmz 2 60) [.ref (a 0 0), .int (nI k)] (WC cy a f r kn ++ Y) none (WC cy a f r kn ++ Y) := by
  refine Cm.of [some (.ref (a 0 0)), some (.int (nI k))] pn_X2 rfl (Nat.le_of_ble_eq_true rfl) ?_
  intro p e s m args below meth c A C hE hr hnt hn
  refine r_iload_n C dX2_needCursorThere_0 rfl ?_
  refine d_Sv (st := []) hX.stb C hE (C_needCursor_ok (f := f) (r := r) (kn := kn) (k := k) hX (by first | omega | (simp [up2, *]; done) | (simp [up2, *]; omega) | (simp only [up2_eq]; omega))) pk_X2_needCursor qm_X2_210 rfl rfl (Nat.le_of_ble_eq_true rfl) dX2_needCursorThere_1 ⟨Nat.le_of_ble_eq_true rfl, Nat.le_of_ble_eq_true rfl⟩ ⟨Nat.le_of_ble_eq_true rfl, Nat.le_of_ble_eq_true rfl⟩ ?_
  refine r_aload_n C dX2_needCursorThere_4 rfl ?_
  refine s_get C 1 (by decide) qf_X2_24 rfl rfl dX2_needCursorThere_5 ?_
  refine r_iload_n C dX2_needCursorThere_8 rfl ?_
  refine s_curs C (by first | omega | (simp [up2, *]; done) | (simp [up2, *]; omega) | (simp only [up2_eq]; omega)) dX2_needCursorThere_9 ?_
  refine u_getN (v := .int (nI (f 9 k))) hX C hE 3 (by first | omega | (simp [up2, *]; done) | (simp [up2, *]; omega) | (simp only [up2_eq]; omega)) (by decide) qn_X2_221 rfl rfl dX2_needCursorThere_10 ?_
  refine r_ifN_ne (a := (f 9 k)) (tgt := 27) C (by first | omega | (simp [up2, *]; done) | (simp [up2, *]; omega) | (simp only [up2_eq]; omega)) dX2_needCursorThere_13 (by decide) (fun h13_1 => ?_) (fun h13_1 => ?_)
  · first
    | exfalso; first | omega | contradiction
    | skip
      exact r_vret C hr dX2_needCursorThere_27 ⟨rfl, rfl⟩ (Nat.le_of_ble_eq_true rfl) (Nat.le_of_ble_eq_true rfl)
  · first
    | exfalso; first | omega | contradiction
    | skip
      exact r_throwW (cls := "java/lang/IllegalStateException") (text := "the cursor is not there") (names := ["java/lang/RuntimeException", "java/lang/Exception"]) hX hl C hE hnt thr_X2_147_151 (by decide +kernel) (by decide +kernel) (by decide +kernel) dX2_needCursorThere_16 dX2_needCursorThere_19 dX2_needCursorThere_20 dX2_needCursorThere_23 dX2_needCursorThere_26 (by decide) (Nat.le_of_ble_eq_true rfl) (Nat.le_of_ble_eq_true rfl) (Nat.le_of_ble_eq_true rfl) rfl rfl (Nat.le_of_ble_eq_true rfl) (Nat.le_of_ble_eq_true rfl)
set_option maxRecDepth 100000 in
set_option maxHeartbeats 4000000 in
theorem C_needCursorThere_noC {l : Launch} {D : va_G} {cy : Nat → ClassId} {X : (Nat → Prop) → State → Heap → Prop} {a f : Nat → Nat → Nat} {r : Nat → Nat → Int32} {kn : Int32} {Y : va_W} {x : Int32} (hX : EnvX X) (hl : l.stackTraces = false) (hno : ¬ (0 ≤ x ∧ x < nI 3)) : Ce l D cy X yX2_needCursorThere cX2_needCursorThere 2 none (rmk 7 1 6 130) [.ref (a 0 0), .int x] (WC cy a f r kn ++ Y) "java/lang/IndexOutOfBoundsException" := by
  refine Cm.of [some (.ref (a 0 0)), some (.int x)] pn_X2 rfl (Nat.le_of_ble_eq_true rfl) ?_
  intro p e s m args below meth c A C hE hr hnt hn
  refine r_iload_n C dX2_needCursorThere_0 rfl ?_
  refine c_S (st := []) hX.stb C hE (C_needCursor_no (f := f) (r := r) (kn := kn) (x := (x)) hX hl hno) pk_X2_needCursor qm_X2_210 rfl rfl (Nat.le_of_ble_eq_true rfl) dX2_needCursorThere_1 ⟨Nat.le_of_ble_eq_true rfl, Nat.le_of_ble_eq_true rfl⟩ ⟨Nat.le_of_ble_eq_true rfl, Nat.le_of_ble_eq_true rfl⟩ (fun _ _ h9 => h9.elim) (fun E9 h9 => ?_)
  subst h9
  exact r_out C hnt rfl rfl (Nat.le_of_ble_eq_true rfl) (Nat.le_of_ble_eq_true rfl)
set_option maxRecDepth 100000 in
set_option maxHeartbeats 4000000 in
theorem C_needCursorThere_no {l : Launch} {D : va_G} {cy : Nat → ClassId} {X : (Nat → Prop) → State → Heap → Prop} {a f : Nat → Nat → Nat} {r : Nat → Nat → Int32} {kn : Int32} {Y : va_W} {k : Nat} (hX : EnvX X) (hl : l.stackTraces = false) (hk : k < 3) (h9 : f 9 k = 0) : Ce l D cy X yX2_needCursorThere cX2_needCursorThere 2 none (rmk 7 1 6 130) [.ref (a 0 0), .int (nI k)] (WC cy a f r kn ++ Y) "java/lang/IllegalStateException" := by
  refine Cm.of [some (.ref (a 0 0)), some (.int (nI k))] pn_X2 rfl (Nat.le_of_ble_eq_true rfl) ?_
  intro p e s m args below meth c A C hE hr hnt hn
  refine r_iload_n C dX2_needCursorThere_0 rfl ?_
  refine d_Sv (st := []) hX.stb C hE (C_needCursor_ok (f := f) (r := r) (kn := kn) (k := k) hX (by first | omega | (simp [up2, *]; done) | (simp [up2, *]; omega) | (simp only [up2_eq]; omega))) pk_X2_needCursor qm_X2_210 rfl rfl (Nat.le_of_ble_eq_true rfl) dX2_needCursorThere_1 ⟨Nat.le_of_ble_eq_true rfl, Nat.le_of_ble_eq_true rfl⟩ ⟨Nat.le_of_ble_eq_true rfl, Nat.le_of_ble_eq_true rfl⟩ ?_
  refine r_aload_n C dX2_needCursorThere_4 rfl ?_
  refine s_get C 1 (by decide) qf_X2_24 rfl rfl dX2_needCursorThere_5 ?_
  refine r_iload_n C dX2_needCursorThere_8 rfl ?_
  refine s_curs C (by first | omega | (simp [up2, *]; done) | (simp [up2, *]; omega) | (simp only [up2_eq]; omega)) dX2_needCursorThere_9 ?_
  refine u_getN (v := .int (nI (f 9 k))) hX C hE 3 (by first | omega | (simp [up2, *]; done) | (simp [up2, *]; omega) | (simp only [up2_eq]; omega)) (by decide) qn_X2_221 rfl rfl dX2_needCursorThere_10 ?_
  refine r_ifN_ne (a := (f 9 k)) (tgt := 27) C (by first | omega | (simp [up2, *]; done) | (simp [up2, *]; omega) | (simp only [up2_eq]; omega)) dX2_needCursorThere_13 (by decide) (fun h13_1 => ?_) (fun h13_1 => ?_)
  · first
    | exfalso; first | omega | contradiction
    | skip
      exact r_vret C hr dX2_needCursorThere_27 ⟨rfl, rfl⟩ (Nat.le_of_ble_eq_true rfl) (Nat.le_of_ble_eq_true rfl)
  · first
    | exfalso; first | omega | contradiction
    | skip
      exact r_throwW (cls := "java/lang/IllegalStateException") (text := "the cursor is not there") (names := ["java/lang/RuntimeException", "java/lang/Exception"]) hX hl C hE hnt thr_X2_147_151 (by decide +kernel) (by decide +kernel) (by decide +kernel) dX2_needCursorThere_16 dX2_needCursorThere_19 dX2_needCursorThere_20 dX2_needCursorThere_23 dX2_needCursorThere_26 (by decide) (Nat.le_of_ble_eq_true rfl) (Nat.le_of_ble_eq_true rfl) (Nat.le_of_ble_eq_true rfl) rfl rfl (Nat.le_of_ble_eq_true rfl) (Nat.le_of_ble_eq_true rfl)
theorem dX2_isHolder_0 : decode cX2_isHolder 0 = .ok (.iload_n 2, 1) := dqo_28 (kb_of ke_X2_isHolder 0 rfl)
theorem dX2_isHolder_1 : decode cX2_isHolder 1 = .ok (.istore_n 3, 1) := dqo_62 (kb_of ke_X2_isHolder 1 rfl)
theorem dX2_isHolder_2 : decode cX2_isHolder 2 = .ok (.iconst 0, 1) := dqo_3 (kb_of ke_X2_isHolder 2 rfl)
theorem dX2_isHolder_3 : decode cX2_isHolder 3 = .ok (.istore 4, 2) := dqo_54 4 (kb_of ke_X2_isHolder 3 rfl) (kb_of ke_X2_isHolder 4 rfl)
theorem dX2_isHolder_5 : decode cX2_isHolder 5 = .ok (.iload 4, 2) := dqo_21 4 (kb_of ke_X2_isHolder 5 rfl) (kb_of ke_X2_isHolder 6 rfl)
theorem dX2_isHolder_7 : decode cX2_isHolder 7 = .ok (.bipush 8, 2) := dqo_16 8 (by decide) (kb_of ke_X2_isHolder 7 rfl) (kb_of ke_X2_isHolder 8 rfl)
theorem dX2_isHolder_9 : decode cX2_isHolder 9 = .ok (.if_icmp .ge 31, 3) := dqo_162 0 31 (by decide) (kb_of ke_X2_isHolder 9 rfl) (kb_of ke_X2_isHolder 10 rfl) (kb_of ke_X2_isHolder 11 rfl)
theorem dX2_isHolder_12 : decode cX2_isHolder 12 = .ok (.iload_n 3, 1) := dqo_29 (kb_of ke_X2_isHolder 12 rfl)
theorem dX2_isHolder_13 : decode cX2_isHolder 13 = .ok (.iconst (-1), 1) := dqo_2 (kb_of ke_X2_isHolder 13 rfl)
theorem dX2_isHolder_14 : decode cX2_isHolder 14 = .ok (.if_icmp .eq 26, 3) := dqo_159 0 26 (by decide) (kb_of ke_X2_isHolder 14 rfl) (kb_of ke_X2_isHolder 15 rfl) (kb_of ke_X2_isHolder 16 rfl)
theorem dX2_isHolder_17 : decode cX2_isHolder 17 = .ok (.iload_n 3, 1) := dqo_29 (kb_of ke_X2_isHolder 17 rfl)
theorem dX2_isHolder_18 : decode cX2_isHolder 18 = .ok (.iload_n 1, 1) := dqo_27 (kb_of ke_X2_isHolder 18 rfl)
theorem dX2_isHolder_19 : decode cX2_isHolder 19 = .ok (.if_icmp .ne 5, 3) := dqo_160 0 5 (by decide) (kb_of ke_X2_isHolder 19 rfl) (kb_of ke_X2_isHolder 20 rfl) (kb_of ke_X2_isHolder 21 rfl)
theorem dX2_isHolder_22 : decode cX2_isHolder 22 = .ok (.iconst 1, 1) := dqo_4 (kb_of ke_X2_isHolder 22 rfl)
theorem dX2_isHolder_23 : decode cX2_isHolder 23 = .ok (.ireturn, 1) := dqo_172 (kb_of ke_X2_isHolder 23 rfl)
theorem dX2_isHolder_24 : decode cX2_isHolder 24 = .ok (.aload_n 0, 1) := dqo_42 (kb_of ke_X2_isHolder 24 rfl)
theorem dX2_isHolder_25 : decode cX2_isHolder 25 = .ok (.getfield 11, 3) := dqo_180 0 11 (kb_of ke_X2_isHolder 25 rfl) (kb_of ke_X2_isHolder 26 rfl) (kb_of ke_X2_isHolder 27 rfl)
theorem dX2_isHolder_28 : decode cX2_isHolder 28 = .ok (.iload_n 3, 1) := dqo_29 (kb_of ke_X2_isHolder 28 rfl)
theorem dX2_isHolder_29 : decode cX2_isHolder 29 = .ok (.aaload, 1) := dqo_50 (kb_of ke_X2_isHolder 29 rfl)
theorem dX2_isHolder_30 : decode cX2_isHolder 30 = .ok (.getfield 204, 3) := dqo_180 0 204 (kb_of ke_X2_isHolder 30 rfl) (kb_of ke_X2_isHolder 31 rfl) (kb_of ke_X2_isHolder 32 rfl)
theorem dX2_isHolder_33 : decode cX2_isHolder 33 = .ok (.istore_n 3, 1) := dqo_62 (kb_of ke_X2_isHolder 33 rfl)
theorem dX2_isHolder_34 : decode cX2_isHolder 34 = .ok (.iinc 4 1, 3) := dqo_132 4 1 (by decide) (kb_of ke_X2_isHolder 34 rfl) (kb_of ke_X2_isHolder 35 rfl) (kb_of ke_X2_isHolder 36 rfl)
theorem dX2_isHolder_37 : decode cX2_isHolder 37 = .ok (.goto (-32), 3) := dqo_167 255 224 (by decide) (kb_of ke_X2_isHolder 37 rfl) (kb_of ke_X2_isHolder 38 rfl) (kb_of ke_X2_isHolder 39 rfl)
theorem dX2_isHolder_40 : decode cX2_isHolder 40 = .ok (.iconst 0, 1) := dqo_3 (kb_of ke_X2_isHolder 40 rfl)
theorem dX2_isHolder_41 : decode cX2_isHolder 41 = .ok (.ireturn, 1) := dqo_172 (kb_of ke_X2_isHolder 41 rfl)
set_option maxRecDepth 100000 in
set_option maxHeartbeats 4000000 in
theorem C_isHolder {l : Launch} {D : va_G} {cy : Nat → ClassId} {X : (Nat → Prop) → State → Heap → Prop} {a f : Nat → Nat → Nat} {r : Nat → Nat → Int32} {kn : Int32} {Y : va_W} {h : Nat} {w : Nat} (hX : EnvX X) (hh : h < 8) (hw : w < 8) (hG : ∀ i, i < 8 → f 2 i < 8 ∨ f 2 i = 4294967295) : Cd l D cy X yX2_isHolder cX2_isHolder 5 (some .boolean) (rmz 0 0) [.ref (a 0 0), .int (nI h), .int (nI w)] (WC cy a f r kn ++ Y) (some (.int (nI (hol f h w)))) (WC cy a f r kn ++ Y) := by
  refine Cm.of [some (.ref (a 0 0)), some (.int (nI h)), some (.int (nI w)), none, none] pn_X2 rfl (Nat.le_of_ble_eq_true rfl) ?_
  intro p e s m args below meth c A C hE hr hnt hn
  refine r_iload_n C dX2_isHolder_0 rfl ?_
  refine r_istore_n C dX2_isHolder_1 (by decide) rfl ?_
  refine r_iconst (v := (nI 0)) C dX2_isHolder_2 (by decide) ?_
  refine r_istore C dX2_isHolder_3 (by decide) rfl ?_
  have L5 : ∀ (d : Nat) (t : Nat) (x : Nat), (ht : t + d = 8) → (hx : x < 8 ∨ x = 4294967295) → (hF : hlC (f 2) h d x = hol f h w) → vC p l e (rmz 0 0) s m args below meth c D A (vx_MQ below (vG (fun v1 w1 => v1 = (some (.int (nI (hol f h w)))) ∧ w1 = WC cy a f r kn ++ Y) D vwCl A) (vGX (fun _ => False) D vwCl (WC cy a f r kn ++ Y) A) args s (rmz 0 0).cells (rmz 0 0).slots A) 5 0 0 (WC cy a f r kn ++ Y) [some (.ref (a 0 0)), some (.int (nI h)), some (.int (nI w)), some (.int (nI x)), some (.int (nI t))] 5 [] := by
    intro d
    induction d with
    | zero =>
      intro t x ht hx hF
      refine r_iload C dX2_isHolder_5 rfl ?_
      refine r_bipush (v := (nI 8)) C dX2_isHolder_7 (by decide) ?_
      refine r_icN_ge (a := t) (b := 8) (tgt := 40) C (by first | omega | (simp [up2, *]; done) | (simp [up2, *]; omega) | (simp only [up2_eq]; omega)) (by first | omega | (simp [up2, *]; done) | (simp [up2, *]; omega) | (simp only [up2_eq]; omega)) dX2_isHolder_9 (by decide) (fun h9_1 => ?_) (fun h9_1 => ?_)
      · first
        | exfalso; first | omega | contradiction
        | skip
          refine r_iconst (v := (nI 0)) C dX2_isHolder_40 (by decide) ?_
          exact r_zret C hr (by first | omega | (simp [up2, *]; done) | (simp [up2, *]; omega) | (simp only [up2_eq]; omega)) dX2_isHolder_41 ⟨by rw [← hF]; unfold hlC; first | rfl | rw [if_pos (by assumption)] | rw [if_neg (by assumption), if_pos (by assumption)], rfl⟩ (Nat.le_of_ble_eq_true rfl) (Nat.le_of_ble_eq_true rfl)
      · first
        | exfalso; first | omega | contradiction
        | skip
          refine r_iload_n C dX2_isHolder_12 rfl ?_
          refine r_iconst (v := (nI 4294967295)) C dX2_isHolder_13 (by decide) ?_
          refine r_icN_eq (a := x) (b := 4294967295) (tgt := 40) C (by first | omega | (simp [up2, *]; done) | (simp [up2, *]; omega) | (simp only [up2_eq]; omega)) (by first | omega | (simp [up2, *]; done) | (simp [up2, *]; omega) | (simp only [up2_eq]; omega)) dX2_isHolder_14 (by decide) (fun h14_2 => ?_) (fun h14_2 => ?_)
          · first
            | exfalso; first | omega | contradiction
            | skip
              refine r_iconst (v := (nI 0)) C dX2_isHolder_40 (by decide) ?_
              exact r_zret C hr (by first | omega | (simp [up2, *]; done) | (simp [up2, *]; omega) | (simp only [up2_eq]; omega)) dX2_isHolder_41 ⟨by rw [← hF]; unfold hlC; first | rfl | rw [if_pos (by assumption)] | rw [if_neg (by assumption), if_pos (by assumption)], rfl⟩ (Nat.le_of_ble_eq_true rfl) (Nat.le_of_ble_eq_true rfl)
          · first
            | exfalso; first | omega | contradiction
            | skip
              refine r_iload_n C dX2_isHolder_17 rfl ?_
              refine r_iload_n C dX2_isHolder_18 rfl ?_
              refine r_icN_ne (a := x) (b := h) (tgt := 24) C (by first | omega | (simp [up2, *]; done) | (simp [up2, *]; omega) | (simp only [up2_eq]; omega)) (by first | omega | (simp [up2, *]; done) | (simp [up2, *]; omega) | (simp only [up2_eq]; omega)) dX2_isHolder_19 (by decide) (fun h19_3 => ?_) (fun h19_3 => ?_)
              · first
                | exfalso; first | omega | contradiction
                | skip
                  refine r_aload_n C dX2_isHolder_24 rfl ?_
                  refine s_get C 0 (by decide) qf_X2_11 rfl rfl dX2_isHolder_25 ?_
                  refine r_iload_n C dX2_isHolder_28 rfl ?_
                  refine s_parts C (by first | omega | (simp [up2, *]; done) | (simp [up2, *]; omega) | (simp only [up2_eq]; omega)) dX2_isHolder_29 ?_
                  refine p_getN (v := .int (nI (f 2 x))) hX C hE 2 (by first | omega | (simp [up2, *]; done) | (simp [up2, *]; omega) | (simp only [up2_eq]; omega)) (by decide) qn_X2_204 rfl rfl dX2_isHolder_30 ?_
                  refine r_istore_n C dX2_isHolder_33 (by decide) rfl ?_
                  refine r_iincN C dX2_isHolder_34 rfl (by decide) rfl ?_
                  refine r_goto (tgt := 5) C dX2_isHolder_37 (by decide) ?_
                  exact (Nat.not_lt_zero _ (by omega)).elim
              · first
                | exfalso; first | omega | contradiction
                | skip
                  refine r_iconst (v := (nI 1)) C dX2_isHolder_22 (by decide) ?_
                  exact r_zret C hr (by first | omega | (simp [up2, *]; done) | (simp [up2, *]; omega) | (simp only [up2_eq]; omega)) dX2_isHolder_23 ⟨by rw [← hF]; unfold hlC; first | rfl | rw [if_pos (by assumption)] | rw [if_neg (by assumption), if_pos (by assumption)], rfl⟩ (Nat.le_of_ble_eq_true rfl) (Nat.le_of_ble_eq_true rfl)
    | succ d ih_L5 =>
      intro t x ht hx hF
      refine r_iload C dX2_isHolder_5 rfl ?_
      refine r_bipush (v := (nI 8)) C dX2_isHolder_7 (by decide) ?_
      refine r_icN_ge (a := t) (b := 8) (tgt := 40) C (by first | omega | (simp [up2, *]; done) | (simp [up2, *]; omega) | (simp only [up2_eq]; omega)) (by first | omega | (simp [up2, *]; done) | (simp [up2, *]; omega) | (simp only [up2_eq]; omega)) dX2_isHolder_9 (by decide) (fun h9_4 => ?_) (fun h9_4 => ?_)
      · first
        | exfalso; first | omega | contradiction
        | skip
          refine r_iconst (v := (nI 0)) C dX2_isHolder_40 (by decide) ?_
          exact r_zret C hr (by first | omega | (simp [up2, *]; done) | (simp [up2, *]; omega) | (simp only [up2_eq]; omega)) dX2_isHolder_41 ⟨by rw [← hF]; unfold hlC; first | rfl | rw [if_pos (by assumption)] | rw [if_neg (by assumption), if_pos (by assumption)], rfl⟩ (Nat.le_of_ble_eq_true rfl) (Nat.le_of_ble_eq_true rfl)
      · first
        | exfalso; first | omega | contradiction
        | skip
          refine r_iload_n C dX2_isHolder_12 rfl ?_
          refine r_iconst (v := (nI 4294967295)) C dX2_isHolder_13 (by decide) ?_
          refine r_icN_eq (a := x) (b := 4294967295) (tgt := 40) C (by first | omega | (simp [up2, *]; done) | (simp [up2, *]; omega) | (simp only [up2_eq]; omega)) (by first | omega | (simp [up2, *]; done) | (simp [up2, *]; omega) | (simp only [up2_eq]; omega)) dX2_isHolder_14 (by decide) (fun h14_5 => ?_) (fun h14_5 => ?_)
          · first
            | exfalso; first | omega | contradiction
            | skip
              refine r_iconst (v := (nI 0)) C dX2_isHolder_40 (by decide) ?_
              exact r_zret C hr (by first | omega | (simp [up2, *]; done) | (simp [up2, *]; omega) | (simp only [up2_eq]; omega)) dX2_isHolder_41 ⟨by rw [← hF]; unfold hlC; first | rfl | rw [if_pos (by assumption)] | rw [if_neg (by assumption), if_pos (by assumption)], rfl⟩ (Nat.le_of_ble_eq_true rfl) (Nat.le_of_ble_eq_true rfl)
          · first
            | exfalso; first | omega | contradiction
            | skip
              refine r_iload_n C dX2_isHolder_17 rfl ?_
              refine r_iload_n C dX2_isHolder_18 rfl ?_
              refine r_icN_ne (a := x) (b := h) (tgt := 24) C (by first | omega | (simp [up2, *]; done) | (simp [up2, *]; omega) | (simp only [up2_eq]; omega)) (by first | omega | (simp [up2, *]; done) | (simp [up2, *]; omega) | (simp only [up2_eq]; omega)) dX2_isHolder_19 (by decide) (fun h19_6 => ?_) (fun h19_6 => ?_)
              · first
                | exfalso; first | omega | contradiction
                | skip
                  refine r_aload_n C dX2_isHolder_24 rfl ?_
                  refine s_get C 0 (by decide) qf_X2_11 rfl rfl dX2_isHolder_25 ?_
                  refine r_iload_n C dX2_isHolder_28 rfl ?_
                  refine s_parts C (by first | omega | (simp [up2, *]; done) | (simp [up2, *]; omega) | (simp only [up2_eq]; omega)) dX2_isHolder_29 ?_
                  refine p_getN (v := .int (nI (f 2 x))) hX C hE 2 (by first | omega | (simp [up2, *]; done) | (simp [up2, *]; omega) | (simp only [up2_eq]; omega)) (by decide) qn_X2_204 rfl rfl dX2_isHolder_30 ?_
                  refine r_istore_n C dX2_isHolder_33 (by decide) rfl ?_
                  refine r_iincN C dX2_isHolder_34 rfl (by decide) rfl ?_
                  refine r_goto (tgt := 5) C dX2_isHolder_37 (by decide) ?_
                  exact ih_L5 (t + 1) (f 2 x) (by omega) (hG x (by omega)) (by rw [← hF]; simp only [hlC]; rw [if_neg (by assumption), if_neg (by assumption)])
              · first
                | exfalso; first | omega | contradiction
                | skip
                  refine r_iconst (v := (nI 1)) C dX2_isHolder_22 (by decide) ?_
                  exact r_zret C hr (by first | omega | (simp [up2, *]; done) | (simp [up2, *]; omega) | (simp only [up2_eq]; omega)) dX2_isHolder_23 ⟨by rw [← hF]; unfold hlC; first | rfl | rw [if_pos (by assumption)] | rw [if_neg (by assumption), if_pos (by assumption)], rfl⟩ (Nat.le_of_ble_eq_true rfl) (Nat.le_of_ble_eq_true rfl)
  exact L5 8 0 w (by omega) (by omega) rfl
theorem pk_X2_isHolder : PkV RX2 yX2_isHolder cX2_isHolder 5 (some .boolean) 2 := ⟨⟨qi_X2_isHolder, qs_X2_isHolder, qz_X2, qc_X2_isHolder⟩, rfl, mh_X2.1, mh_X2.2, pd_5⟩
theorem dX2_settle_0 : decode cX2_settle 0 = .ok (.aload_n 0, 1) := dqo_42 (kb_X2_settle_0 0 rfl)
theorem dX2_settle_1 : decode cX2_settle 1 = .ok (.getfield 11, 3) := dqo_180 0 11 (kb_X2_settle_0 1 rfl) (kb_X2_settle_0 2 rfl) (kb_X2_settle_0 3 rfl)
theorem dX2_settle_4 : decode cX2_settle 4 = .ok (.iload_n 1, 1) := dqo_27 (kb_X2_settle_0 4 rfl)
theorem dX2_settle_5 : decode cX2_settle 5 = .ok (.aaload, 1) := dqo_50 (kb_X2_settle_0 5 rfl)
theorem dX2_settle_6 : decode cX2_settle 6 = .ok (.getfield 207, 3) := dqo_180 0 207 (kb_X2_settle_0 6 rfl) (kb_X2_settle_0 7 rfl) (kb_X2_settle_0 8 rfl)
theorem dX2_settle_9 : decode cX2_settle 9 = .ok (.istore_n 3, 1) := dqo_62 (kb_X2_settle_0 9 rfl)
theorem dX2_settle_10 : decode cX2_settle 10 = .ok (.iconst 0, 1) := dqo_3 (kb_X2_settle_0 10 rfl)
theorem dX2_settle_11 : decode cX2_settle 11 = .ok (.istore 4, 2) := dqo_54 4 (kb_X2_settle_0 11 rfl) (kb_X2_settle_0 12 rfl)
theorem dX2_settle_13 : decode cX2_settle 13 = .ok (.iload 4, 2) := dqo_21 4 (kb_X2_settle_0 13 rfl) (kb_X2_settle_0 14 rfl)
theorem dX2_settle_15 : decode cX2_settle 15 = .ok (.iconst 3, 1) := dqo_6 (kb_X2_settle_0 15 rfl)
theorem dX2_settle_16 : decode cX2_settle 16 = .ok (.if_icmp .ge 48, 3) := dqo_162 0 48 (by decide) (kb_X2_settle_0 16 rfl) (kb_X2_settle_0 17 rfl) (kb_X2_settle_0 18 rfl)
theorem dX2_settle_19 : decode cX2_settle 19 = .ok (.iload 4, 2) := dqo_21 4 (kb_X2_settle_0 19 rfl) (kb_X2_settle_0 20 rfl)
theorem dX2_settle_21 : decode cX2_settle 21 = .ok (.iload_n 2, 1) := dqo_28 (kb_X2_settle_0 21 rfl)
theorem dX2_settle_22 : decode cX2_settle 22 = .ok (.if_icmp .eq 36, 3) := dqo_159 0 36 (by decide) (kb_X2_settle_0 22 rfl) (kb_X2_settle_0 23 rfl) (kb_X2_settle_0 24 rfl)
theorem dX2_settle_25 : decode cX2_settle 25 = .ok (.aload_n 0, 1) := dqo_42 (kb_X2_settle_0 25 rfl)
theorem dX2_settle_26 : decode cX2_settle 26 = .ok (.getfield 11, 3) := dqo_180 0 11 (kb_X2_settle_0 26 rfl) (kb_X2_settle_0 27 rfl) (kb_X2_settle_0 28 rfl)
theorem dX2_settle_29 : decode cX2_settle 29 = .ok (.aload_n 0, 1) := dqo_42 (kb_X2_settle_0 29 rfl)
theorem dX2_settle_30 : decode cX2_settle 30 = .ok (.getfield 24, 3) := dqo_180 0 24 (kb_X2_settle_0 30 rfl) (kb_X2_settle_0 31 rfl) (kb_X2_settle_0 32 rfl)
theorem dX2_settle_33 : decode cX2_settle 33 = .ok (.iload 4, 2) := dqo_21 4 (kb_X2_settle_0 33 rfl) (kb_X2_settle_0 34 rfl)
theorem dX2_settle_35 : decode cX2_settle 35 = .ok (.aaload, 1) := dqo_50 (kb_X2_settle_0 35 rfl)
theorem dX2_settle_36 : decode cX2_settle 36 = .ok (.getfield 225, 3) := dqo_180 0 225 (kb_X2_settle_0 36 rfl) (kb_X2_settle_0 37 rfl) (kb_X2_settle_0 38 rfl)
theorem dX2_settle_39 : decode cX2_settle 39 = .ok (.aaload, 1) := dqo_50 (kb_X2_settle_0 39 rfl)
theorem dX2_settle_40 : decode cX2_settle 40 = .ok (.getfield 207, 3) := dqo_180 0 207 (kb_X2_settle_0 40 rfl) (kb_X2_settle_0 41 rfl) (kb_X2_settle_0 42 rfl)
theorem dX2_settle_43 : decode cX2_settle 43 = .ok (.iload_n 3, 1) := dqo_29 (kb_X2_settle_0 43 rfl)
theorem dX2_settle_44 : decode cX2_settle 44 = .ok (.if_icmp .ne 14, 3) := dqo_160 0 14 (by decide) (kb_X2_settle_0 44 rfl) (kb_X2_settle_0 45 rfl) (kb_X2_settle_0 46 rfl)
theorem dX2_settle_47 : decode cX2_settle 47 = .ok (.aload_n 0, 1) := dqo_42 (kb_X2_settle_0 47 rfl)
theorem dX2_settle_48 : decode cX2_settle 48 = .ok (.getfield 24, 3) := dqo_180 0 24 (kb_X2_settle_0 48 rfl) (kb_X2_settle_0 49 rfl) (kb_X2_settle_0 50 rfl)
theorem dX2_settle_51 : decode cX2_settle 51 = .ok (.iload 4, 2) := dqo_21 4 (kb_X2_settle_0 51 rfl) (kb_X2_settle_0 52 rfl)
theorem dX2_settle_53 : decode cX2_settle 53 = .ok (.aaload, 1) := dqo_50 (kb_X2_settle_0 53 rfl)
theorem dX2_settle_54 : decode cX2_settle 54 = .ok (.iconst 0, 1) := dqo_3 (kb_X2_settle_0 54 rfl)
theorem dX2_settle_55 : decode cX2_settle 55 = .ok (.putfield 221, 3) := dqo_181 0 221 (kb_X2_settle_0 55 rfl) (kb_X2_settle_0 56 rfl) (kb_X2_settle_0 57 rfl)
theorem dX2_settle_58 : decode cX2_settle 58 = .ok (.iinc 4 1, 3) := dqo_132 4 1 (by decide) (kb_X2_settle_0 58 rfl) (kb_X2_settle_0 59 rfl) (kb_X2_settle_0 60 rfl)
theorem dX2_settle_61 : decode cX2_settle 61 = .ok (.goto (-48), 3) := dqo_167 255 208 (by decide) (kb_X2_settle_0 61 rfl) (kb_X2_settle_0 62 rfl) (kb_X2_settle_0 63 rfl)
theorem dX2_settle_64 : decode cX2_settle 64 = .ok (.iconst 4, 1) := dqo_7 (kb_X2_settle_1 0 rfl)
theorem dX2_settle_65 : decode cX2_settle 65 = .ok (.istore 4, 2) := dqo_54 4 (kb_X2_settle_1 1 rfl) (kb_X2_settle_1 2 rfl)
theorem dX2_settle_67 : decode cX2_settle 67 = .ok (.iload 4, 2) := dqo_21 4 (kb_X2_settle_1 3 rfl) (kb_X2_settle_1 4 rfl)
theorem dX2_settle_69 : decode cX2_settle 69 = .ok (.bipush 8, 2) := dqo_16 8 (by decide) (kb_X2_settle_1 5 rfl) (kb_X2_settle_1 6 rfl)
theorem dX2_settle_71 : decode cX2_settle 71 = .ok (.if_icmp .ge 44, 3) := dqo_162 0 44 (by decide) (kb_X2_settle_1 7 rfl) (kb_X2_settle_1 8 rfl) (kb_X2_settle_1 9 rfl)
theorem dX2_settle_74 : decode cX2_settle 74 = .ok (.aload_n 0, 1) := dqo_42 (kb_X2_settle_1 10 rfl)
theorem dX2_settle_75 : decode cX2_settle 75 = .ok (.getfield 11, 3) := dqo_180 0 11 (kb_X2_settle_1 11 rfl) (kb_X2_settle_1 12 rfl) (kb_X2_settle_1 13 rfl)
theorem dX2_settle_78 : decode cX2_settle 78 = .ok (.iload 4, 2) := dqo_21 4 (kb_X2_settle_1 14 rfl) (kb_X2_settle_1 15 rfl)
theorem dX2_settle_80 : decode cX2_settle 80 = .ok (.aaload, 1) := dqo_50 (kb_X2_settle_1 16 rfl)
theorem dX2_settle_81 : decode cX2_settle 81 = .ok (.getfield 207, 3) := dqo_180 0 207 (kb_X2_settle_1 17 rfl) (kb_X2_settle_1 18 rfl) (kb_X2_settle_1 19 rfl)
theorem dX2_settle_84 : decode cX2_settle 84 = .ok (.iload_n 3, 1) := dqo_29 (kb_X2_settle_1 20 rfl)
theorem dX2_settle_85 : decode cX2_settle 85 = .ok (.if_icmp .ne 24, 3) := dqo_160 0 24 (by decide) (kb_X2_settle_1 21 rfl) (kb_X2_settle_1 22 rfl) (kb_X2_settle_1 23 rfl)
theorem dX2_settle_88 : decode cX2_settle 88 = .ok (.aload_n 0, 1) := dqo_42 (kb_X2_settle_1 24 rfl)
theorem dX2_settle_89 : decode cX2_settle 89 = .ok (.iload 4, 2) := dqo_21 4 (kb_X2_settle_1 25 rfl) (kb_X2_settle_1 26 rfl)
theorem dX2_settle_91 : decode cX2_settle 91 = .ok (.iload_n 1, 1) := dqo_27 (kb_X2_settle_1 27 rfl)
theorem dX2_settle_92 : decode cX2_settle 92 = .ok (.invokevirtual 182, 3) := dqo_182 0 182 (kb_X2_settle_1 28 rfl) (kb_X2_settle_1 29 rfl) (kb_X2_settle_1 30 rfl)
theorem dX2_settle_95 : decode cX2_settle 95 = .ok (.ifCond .ne 14, 3) := dqo_154 0 14 (by decide) (kb_X2_settle_1 31 rfl) (kb_X2_settle_1 32 rfl) (kb_X2_settle_1 33 rfl)
theorem dX2_settle_98 : decode cX2_settle 98 = .ok (.aload_n 0, 1) := dqo_42 (kb_X2_settle_1 34 rfl)
theorem dX2_settle_99 : decode cX2_settle 99 = .ok (.getfield 11, 3) := dqo_180 0 11 (kb_X2_settle_1 35 rfl) (kb_X2_settle_1 36 rfl) (kb_X2_settle_1 37 rfl)
theorem dX2_settle_102 : decode cX2_settle 102 = .ok (.iload 4, 2) := dqo_21 4 (kb_X2_settle_1 38 rfl) (kb_X2_settle_1 39 rfl)
theorem dX2_settle_104 : decode cX2_settle 104 = .ok (.aaload, 1) := dqo_50 (kb_X2_settle_1 40 rfl)
theorem dX2_settle_105 : decode cX2_settle 105 = .ok (.iconst 0, 1) := dqo_3 (kb_X2_settle_1 41 rfl)
theorem dX2_settle_106 : decode cX2_settle 106 = .ok (.putfield 194, 3) := dqo_181 0 194 (kb_X2_settle_1 42 rfl) (kb_X2_settle_1 43 rfl) (kb_X2_settle_1 44 rfl)
theorem dX2_settle_109 : decode cX2_settle 109 = .ok (.iinc 4 1, 3) := dqo_132 4 1 (by decide) (kb_X2_settle_1 45 rfl) (kb_X2_settle_1 46 rfl) (kb_X2_settle_1 47 rfl)
theorem dX2_settle_112 : decode cX2_settle 112 = .ok (.goto (-45), 3) := dqo_167 255 211 (by decide) (kb_X2_settle_1 48 rfl) (kb_X2_settle_1 49 rfl) (kb_X2_settle_1 50 rfl)
theorem dX2_settle_115 : decode cX2_settle 115 = .ok (.return_, 1) := dqo_177 (kb_X2_settle_1 51 rfl)
set_option maxRecDepth 100000 in
set_option maxHeartbeats 4000000 in
theorem C_settle {l : Launch} {D : va_G} {cy : Nat → ClassId} {X : (Nat → Prop) → State → Heap → Prop} {a f : Nat → Nat → Nat} {r : Nat → Nat → Int32} {kn : Int32} {Y : va_W} {w : Nat} {d0 : Nat} (hX : EnvX X) (hw : w < 8) (hd : d0 < 4294967296) (h1 : ∀ i, i < 8 → f 1 i < 4) (hU : ∀ k, k < 3 → f 6 k < 8) (hG : ∀ i, i < 8 → f 2 i < 8 ∨ f 2 i = 4294967295) : Cd l D cy X yX2_settle cX2_settle 5 none (rmz 1 30) [.ref (a 0 0), .int (nI w), .int (nI d0)] (WC cy a f r kn ++ Y) none (WC cy a (settleF f w d0) r kn ++ Y) := by
  refine Cm.of [some (.ref (a 0 0)), some (.int (nI w)), some (.int (nI d0)), none, none] pn_X2 rfl (Nat.le_of_ble_eq_true rfl) ?_
  intro p e s m args below meth c A C hE hr hnt hn
  refine r_aload_n C dX2_settle_0 rfl ?_
  refine s_get C 0 (by decide) qf_X2_11 rfl rfl dX2_settle_1 ?_
  refine r_iload_n C dX2_settle_4 rfl ?_
  refine s_parts C (by first | omega | (simp [up2, *]; done) | (simp [up2, *]; omega) | (simp only [up2_eq]; omega)) dX2_settle_5 ?_
  refine p_getN (v := .int (nI (f 1 w))) hX C hE 1 (by first | omega | (simp [up2, *]; done) | (simp [up2, *]; omega) | (simp only [up2_eq]; omega)) (by decide) qn_X2_207 rfl rfl dX2_settle_6 ?_
  refine r_istore_n C dX2_settle_9 (by decide) rfl ?_
  refine r_iconst (v := (nI 0)) C dX2_settle_10 (by decide) ?_
  refine r_istore C dX2_settle_11 (by decide) rfl ?_
  refine r_w (congrArg (fun z => WC cy a z r kn ++ Y) (stU_0 f w d0).symm) ?_
  have L13 : ∀ (d : Nat) (k : Nat), (hk : k + d = 3) → vC p l e (rmz 1 30) s m args below meth c D A (vx_MQ below (vG (fun v1 w1 => v1 = none ∧ w1 = WC cy a (settleF f w d0) r kn ++ Y) D vwCl A) (vGX (fun _ => False) D vwCl (WC cy a f r kn ++ Y) A) args s (rmz 1 30).cells (rmz 1 30).slots A) 5 0 0 (WC cy a (stU f w d0 k) r kn ++ Y) [some (.ref (a 0 0)), some (.int (nI w)), some (.int (nI d0)), some (.int (nI (f 1 w))), some (.int (nI k))] 13 [] := by
    intro d
    induction d with
    | zero =>
      intro k hk
      refine r_iload C dX2_settle_13 rfl ?_
      refine r_iconst (v := (nI 3)) C dX2_settle_15 (by decide) ?_
      refine r_icN_ge (a := k) (b := 3) (tgt := 64) C (by first | omega | (simp [up2, *]; done) | (simp [up2, *]; omega) | (simp only [up2_eq]; omega)) (by first | omega | (simp [up2, *]; done) | (simp [up2, *]; omega) | (simp only [up2_eq]; omega)) dX2_settle_16 (by decide) (fun h16_1 => ?_) (fun h16_1 => ?_)
      · first
        | exfalso; first | omega | contradiction
        | skip
          refine r_iconst (v := (nI 4)) C dX2_settle_64 (by decide) ?_
          refine r_istore C dX2_settle_65 (by decide) rfl ?_
          have e3 : k = 3 := by omega
          subst e3
          refine r_w (congrArg (fun z => WC cy a z r kn ++ Y) (stW_0 (stU f w d0 3) w).symm) ?_
          have L67 : ∀ (d : Nat) (k : Nat), (hk : k + d = 8) → (hk4 : 4 ≤ k) → vC p l e (rmz 1 30) s m args below meth c D A (vx_MQ below (vG (fun v1 w1 => v1 = none ∧ w1 = WC cy a (settleF f w d0) r kn ++ Y) D vwCl A) (vGX (fun _ => False) D vwCl (WC cy a f r kn ++ Y) A) args s (rmz 1 30).cells (rmz 1 30).slots A) 5 0 0 (WC cy a (stW (stU f w d0 3) w k) r kn ++ Y) [some (.ref (a 0 0)), some (.int (nI w)), some (.int (nI d0)), some (.int (nI (f 1 w))), some (.int (nI k))] 67 [] := by
            intro d
            induction d with
            | zero =>
              intro k hk hk4
              refine r_iload C dX2_settle_67 rfl ?_
              refine r_bipush (v := (nI 8)) C dX2_settle_69 (by decide) ?_
              refine r_icN_ge (a := k) (b := 8) (tgt := 115) C (by first | omega | (simp [up2, *]; done) | (simp [up2, *]; omega) | (simp only [up2_eq]; omega)) (by first | omega | (simp [up2, *]; done) | (simp [up2, *]; omega) | (simp only [up2_eq]; omega)) dX2_settle_71 (by decide) (fun h71_2 => ?_) (fun h71_2 => ?_)
              · first
                | exfalso; first | omega | contradiction
                | skip
                  have e8 : k = 8 := by omega
                  subst e8
                  exact r_vret C hr dX2_settle_115 ⟨rfl, rfl⟩ (Nat.le_of_ble_eq_true rfl) (Nat.le_of_ble_eq_true rfl)
              · first
                | exfalso; first | omega | contradiction
                | skip
                  refine r_aload_n C dX2_settle_74 rfl ?_
                  refine s_get C 0 (by decide) qf_X2_11 rfl rfl dX2_settle_75 ?_
                  refine r_iload C dX2_settle_78 rfl ?_
                  refine s_parts C (by first | omega | (simp [up2, *]; done) | (simp [up2, *]; omega) | (simp only [up2_eq]; omega)) dX2_settle_80 ?_
                  refine p_getN (v := .int (nI (f 1 k))) hX C hE 1 (by first | omega | (simp [up2, *]; done) | (simp [up2, *]; omega) | (simp only [up2_eq]; omega)) (by decide) qn_X2_207 rfl rfl dX2_settle_81 ?_
                  refine r_iload_n C dX2_settle_84 rfl ?_
                  refine r_icN_ne (a := (f 1 k)) (b := (f 1 w)) (tgt := 109) C (Nat.lt_of_lt_of_le (h1 k (by omega)) (by decide)) (Nat.lt_of_lt_of_le (h1 w (by omega)) (by decide)) dX2_settle_85 (by decide) (fun h85_3 => ?_) (fun h85_3 => ?_)
                  · first
                    | exfalso; first | omega | contradiction
                    | skip
                      refine r_iincN C dX2_settle_109 rfl (by decide) rfl ?_
                      refine r_goto (tgt := 67) C dX2_settle_112 (by decide) ?_
                      refine r_w (congrArg (fun z => WC cy a z r kn ++ Y) (stW_no (by first | exact Or.inl (by assumption) | exact Or.inr (by assumption)))) ?_
                      exact (Nat.not_lt_zero _ (by omega)).elim
                  · first
                    | exfalso; first | omega | contradiction
                    | skip
                      refine r_aload_n C dX2_settle_88 rfl ?_
                      refine r_iload C dX2_settle_89 rfl ?_
                      refine r_iload_n C dX2_settle_91 rfl ?_
                      refine d_V (st := []) hX.stb C hE (C_isHolder (f := (stW (stU f w d0 3) w k)) (r := r) (kn := kn) (h := k) (w := w) hX (by first | omega | (simp [up2, *]; done) | (simp [up2, *]; omega) | (simp only [up2_eq]; omega)) (by first | omega | (simp [up2, *]; done) | (simp [up2, *]; omega) | (simp only [up2_eq]; omega)) hG) pk_X2_isHolder qm_X2_182 0 6 rfl rfl wc_0 rfl rfl (Nat.le_of_ble_eq_true rfl) dX2_settle_92 ⟨Nat.le_of_ble_eq_true rfl, Nat.le_of_ble_eq_true rfl⟩ ⟨Nat.le_of_ble_eq_true rfl, Nat.le_of_ble_eq_true rfl⟩ ?_
                      refine r_ifN_ne (a := (hol f k w)) (tgt := 109) C (Nat.lt_of_le_of_lt (hol_le _ _ _) (by decide)) dX2_settle_95 (by decide) (fun h95_4 => ?_) (fun h95_4 => ?_)
                      · first
                        | exfalso; first | omega | contradiction
                        | skip
                          refine r_iincN C dX2_settle_109 rfl (by decide) rfl ?_
                          refine r_goto (tgt := 67) C dX2_settle_112 (by decide) ?_
                          refine r_w (congrArg (fun z => WC cy a z r kn ++ Y) (stW_no (by first | exact Or.inl (by assumption) | exact Or.inr (by assumption)))) ?_
                          exact (Nat.not_lt_zero _ (by omega)).elim
                      · first
                        | exfalso; first | omega | contradiction
                        | skip
                          refine r_aload_n C dX2_settle_98 rfl ?_
                          refine s_get C 0 (by decide) qf_X2_11 rfl rfl dX2_settle_99 ?_
                          refine r_iload C dX2_settle_102 rfl ?_
                          refine s_parts C (by first | omega | (simp [up2, *]; done) | (simp [up2, *]; omega) | (simp only [up2_eq]; omega)) dX2_settle_104 ?_
                          refine r_iconst (v := (nI 0)) C dX2_settle_105 (by decide) ?_
                          refine p_putZN hX C hE (by first | omega | (simp [up2, *]; done) | (simp [up2, *]; omega) | (simp only [up2_eq]; omega)) (by first | omega | (simp [up2, *]; done) | (simp [up2, *]; omega) | (simp only [up2_eq]; omega)) qn_X2_194 dX2_settle_106 ?_
                          refine r_iincN C dX2_settle_109 rfl (by decide) rfl ?_
                          refine r_goto (tgt := 67) C dX2_settle_112 (by decide) ?_
                          refine r_w (congrArg (fun z => WC cy a z r kn ++ Y) (stW_yes (by omega) (by assumption) (by assumption))) ?_
                          exact (Nat.not_lt_zero _ (by omega)).elim
            | succ d ih_L67 =>
              intro k hk hk4
              refine r_iload C dX2_settle_67 rfl ?_
              refine r_bipush (v := (nI 8)) C dX2_settle_69 (by decide) ?_
              refine r_icN_ge (a := k) (b := 8) (tgt := 115) C (by first | omega | (simp [up2, *]; done) | (simp [up2, *]; omega) | (simp only [up2_eq]; omega)) (by first | omega | (simp [up2, *]; done) | (simp [up2, *]; omega) | (simp only [up2_eq]; omega)) dX2_settle_71 (by decide) (fun h71_5 => ?_) (fun h71_5 => ?_)
              · first
                | exfalso; first | omega | contradiction
                | skip
                  have e8 : k = 8 := by omega
                  subst e8
                  exact r_vret C hr dX2_settle_115 ⟨rfl, rfl⟩ (Nat.le_of_ble_eq_true rfl) (Nat.le_of_ble_eq_true rfl)
              · first
                | exfalso; first | omega | contradiction
                | skip
                  refine r_aload_n C dX2_settle_74 rfl ?_
                  refine s_get C 0 (by decide) qf_X2_11 rfl rfl dX2_settle_75 ?_
                  refine r_iload C dX2_settle_78 rfl ?_
                  refine s_parts C (by first | omega | (simp [up2, *]; done) | (simp [up2, *]; omega) | (simp only [up2_eq]; omega)) dX2_settle_80 ?_
                  refine p_getN (v := .int (nI (f 1 k))) hX C hE 1 (by first | omega | (simp [up2, *]; done) | (simp [up2, *]; omega) | (simp only [up2_eq]; omega)) (by decide) qn_X2_207 rfl rfl dX2_settle_81 ?_
                  refine r_iload_n C dX2_settle_84 rfl ?_
                  refine r_icN_ne (a := (f 1 k)) (b := (f 1 w)) (tgt := 109) C (Nat.lt_of_lt_of_le (h1 k (by omega)) (by decide)) (Nat.lt_of_lt_of_le (h1 w (by omega)) (by decide)) dX2_settle_85 (by decide) (fun h85_6 => ?_) (fun h85_6 => ?_)
                  · first
                    | exfalso; first | omega | contradiction
                    | skip
                      refine r_iincN C dX2_settle_109 rfl (by decide) rfl ?_
                      refine r_goto (tgt := 67) C dX2_settle_112 (by decide) ?_
                      refine r_w (congrArg (fun z => WC cy a z r kn ++ Y) (stW_no (by first | exact Or.inl (by assumption) | exact Or.inr (by assumption)))) ?_
                      exact ih_L67 (k + 1) (by omega) (by omega)
                  · first
                    | exfalso; first | omega | contradiction
                    | skip
                      refine r_aload_n C dX2_settle_88 rfl ?_
                      refine r_iload C dX2_settle_89 rfl ?_
                      refine r_iload_n C dX2_settle_91 rfl ?_
                      refine d_V (st := []) hX.stb C hE (C_isHolder (f := (stW (stU f w d0 3) w k)) (r := r) (kn := kn) (h := k) (w := w) hX (by first | omega | (simp [up2, *]; done) | (simp [up2, *]; omega) | (simp only [up2_eq]; omega)) (by first | omega | (simp [up2, *]; done) | (simp [up2, *]; omega) | (simp only [up2_eq]; omega)) hG) pk_X2_isHolder qm_X2_182 0 6 rfl rfl wc_0 rfl rfl (Nat.le_of_ble_eq_true rfl) dX2_settle_92 ⟨Nat.le_of_ble_eq_true rfl, Nat.le_of_ble_eq_true rfl⟩ ⟨Nat.le_of_ble_eq_true rfl, Nat.le_of_ble_eq_true rfl⟩ ?_
                      refine r_ifN_ne (a := (hol f k w)) (tgt := 109) C (Nat.lt_of_le_of_lt (hol_le _ _ _) (by decide)) dX2_settle_95 (by decide) (fun h95_7 => ?_) (fun h95_7 => ?_)
                      · first
                        | exfalso; first | omega | contradiction
                        | skip
                          refine r_iincN C dX2_settle_109 rfl (by decide) rfl ?_
                          refine r_goto (tgt := 67) C dX2_settle_112 (by decide) ?_
                          refine r_w (congrArg (fun z => WC cy a z r kn ++ Y) (stW_no (by first | exact Or.inl (by assumption) | exact Or.inr (by assumption)))) ?_
                          exact ih_L67 (k + 1) (by omega) (by omega)
                      · first
                        | exfalso; first | omega | contradiction
                        | skip
                          refine r_aload_n C dX2_settle_98 rfl ?_
                          refine s_get C 0 (by decide) qf_X2_11 rfl rfl dX2_settle_99 ?_
                          refine r_iload C dX2_settle_102 rfl ?_
                          refine s_parts C (by first | omega | (simp [up2, *]; done) | (simp [up2, *]; omega) | (simp only [up2_eq]; omega)) dX2_settle_104 ?_
                          refine r_iconst (v := (nI 0)) C dX2_settle_105 (by decide) ?_
                          refine p_putZN hX C hE (by first | omega | (simp [up2, *]; done) | (simp [up2, *]; omega) | (simp only [up2_eq]; omega)) (by first | omega | (simp [up2, *]; done) | (simp [up2, *]; omega) | (simp only [up2_eq]; omega)) qn_X2_194 dX2_settle_106 ?_
                          refine r_iincN C dX2_settle_109 rfl (by decide) rfl ?_
                          refine r_goto (tgt := 67) C dX2_settle_112 (by decide) ?_
                          refine r_w (congrArg (fun z => WC cy a z r kn ++ Y) (stW_yes (by omega) (by assumption) (by assumption))) ?_
                          exact ih_L67 (k + 1) (by omega) (by omega)
          exact L67 4 4 rfl (by omega)
      · first
        | exfalso; first | omega | contradiction
        | skip
          refine r_iload C dX2_settle_19 rfl ?_
          refine r_iload_n C dX2_settle_21 rfl ?_
          refine r_icN_eq (a := k) (b := d0) (tgt := 58) C (by first | omega | (simp [up2, *]; done) | (simp [up2, *]; omega) | (simp only [up2_eq]; omega)) (by first | omega | (simp [up2, *]; done) | (simp [up2, *]; omega) | (simp only [up2_eq]; omega)) dX2_settle_22 (by decide) (fun h22_8 => ?_) (fun h22_8 => ?_)
          · first
            | exfalso; first | omega | contradiction
            | skip
              refine r_iincN C dX2_settle_58 rfl (by decide) rfl ?_
              refine r_goto (tgt := 13) C dX2_settle_61 (by decide) ?_
              refine r_w (congrArg (fun z => WC cy a z r kn ++ Y) (stU_no (by first | exact Or.inl (by assumption) | exact Or.inr (by assumption)))) ?_
              exact (Nat.not_lt_zero _ (by omega)).elim
          · first
            | exfalso; first | omega | contradiction
            | skip
              refine r_aload_n C dX2_settle_25 rfl ?_
              refine s_get C 0 (by decide) qf_X2_11 rfl rfl dX2_settle_26 ?_
              have hu6 := hU k (by omega)
              refine r_aload_n C dX2_settle_29 rfl ?_
              refine s_get C 1 (by decide) qf_X2_24 rfl rfl dX2_settle_30 ?_
              refine r_iload C dX2_settle_33 rfl ?_
              refine s_curs C (by first | omega | (simp [up2, *]; done) | (simp [up2, *]; omega) | (simp only [up2_eq]; omega)) dX2_settle_35 ?_
              refine u_getN (v := .int (nI (f 6 k))) hX C hE 0 (by first | omega | (simp [up2, *]; done) | (simp [up2, *]; omega) | (simp only [up2_eq]; omega)) (by decide) qn_X2_225 rfl rfl dX2_settle_36 ?_
              refine s_parts C (by first | omega | (simp [up2, *]; done) | (simp [up2, *]; omega) | (simp only [up2_eq]; omega)) dX2_settle_39 ?_
              refine p_getN (v := .int (nI (f 1 (f 6 k)))) hX C hE 1 (by first | omega | (simp [up2, *]; done) | (simp [up2, *]; omega) | (simp only [up2_eq]; omega)) (by decide) qn_X2_207 rfl rfl dX2_settle_40 ?_
              refine r_iload_n C dX2_settle_43 rfl ?_
              refine r_icN_ne (a := (f 1 (f 6 k))) (b := (f 1 w)) (tgt := 58) C (Nat.lt_of_lt_of_le (h1 (f 6 k) hu6) (by decide)) (Nat.lt_of_lt_of_le (h1 w (by omega)) (by decide)) dX2_settle_44 (by decide) (fun h44_9 => ?_) (fun h44_9 => ?_)
              · first
                | exfalso; first | omega | contradiction
                | skip
                  refine r_iincN C dX2_settle_58 rfl (by decide) rfl ?_
                  refine r_goto (tgt := 13) C dX2_settle_61 (by decide) ?_
                  refine r_w (congrArg (fun z => WC cy a z r kn ++ Y) (stU_no (by first | exact Or.inl (by assumption) | exact Or.inr (by assumption)))) ?_
                  exact (Nat.not_lt_zero _ (by omega)).elim
              · first
                | exfalso; first | omega | contradiction
                | skip
                  refine r_aload_n C dX2_settle_47 rfl ?_
                  refine s_get C 1 (by decide) qf_X2_24 rfl rfl dX2_settle_48 ?_
                  refine r_iload C dX2_settle_51 rfl ?_
                  refine s_curs C (by first | omega | (simp [up2, *]; done) | (simp [up2, *]; omega) | (simp only [up2_eq]; omega)) dX2_settle_53 ?_
                  refine r_iconst (v := (nI 0)) C dX2_settle_54 (by decide) ?_
                  refine u_putZN hX C hE (by first | omega | (simp [up2, *]; done) | (simp [up2, *]; omega) | (simp only [up2_eq]; omega)) (by first | omega | (simp [up2, *]; done) | (simp [up2, *]; omega) | (simp only [up2_eq]; omega)) qn_X2_221 dX2_settle_55 ?_
                  refine r_iincN C dX2_settle_58 rfl (by decide) rfl ?_
                  refine r_goto (tgt := 13) C dX2_settle_61 (by decide) ?_
                  refine r_w (congrArg (fun z => WC cy a z r kn ++ Y) (stU_yes (by assumption) (by assumption))) ?_
                  exact (Nat.not_lt_zero _ (by omega)).elim
    | succ d ih_L13 =>
      intro k hk
      refine r_iload C dX2_settle_13 rfl ?_
      refine r_iconst (v := (nI 3)) C dX2_settle_15 (by decide) ?_
      refine r_icN_ge (a := k) (b := 3) (tgt := 64) C (by first | omega | (simp [up2, *]; done) | (simp [up2, *]; omega) | (simp only [up2_eq]; omega)) (by first | omega | (simp [up2, *]; done) | (simp [up2, *]; omega) | (simp only [up2_eq]; omega)) dX2_settle_16 (by decide) (fun h16_10 => ?_) (fun h16_10 => ?_)
      · first
        | exfalso; first | omega | contradiction
        | skip
          refine r_iconst (v := (nI 4)) C dX2_settle_64 (by decide) ?_
          refine r_istore C dX2_settle_65 (by decide) rfl ?_
          have e3 : k = 3 := by omega
          subst e3
          refine r_w (congrArg (fun z => WC cy a z r kn ++ Y) (stW_0 (stU f w d0 3) w).symm) ?_
          have L67 : ∀ (d : Nat) (k : Nat), (hk : k + d = 8) → (hk4 : 4 ≤ k) → vC p l e (rmz 1 30) s m args below meth c D A (vx_MQ below (vG (fun v1 w1 => v1 = none ∧ w1 = WC cy a (settleF f w d0) r kn ++ Y) D vwCl A) (vGX (fun _ => False) D vwCl (WC cy a f r kn ++ Y) A) args s (rmz 1 30).cells (rmz 1 30).slots A) 5 0 0 (WC cy a (stW (stU f w d0 3) w k) r kn ++ Y) [some (.ref (a 0 0)), some (.int (nI w)), some (.int (nI d0)), some (.int (nI (f 1 w))), some (.int (nI k))] 67 [] := by
            intro d
            induction d with
            | zero =>
              intro k hk hk4
              refine r_iload C dX2_settle_67 rfl ?_
              refine r_bipush (v := (nI 8)) C dX2_settle_69 (by decide) ?_
              refine r_icN_ge (a := k) (b := 8) (tgt := 115) C (by first | omega | (simp [up2, *]; done) | (simp [up2, *]; omega) | (simp only [up2_eq]; omega)) (by first | omega | (simp [up2, *]; done) | (simp [up2, *]; omega) | (simp only [up2_eq]; omega)) dX2_settle_71 (by decide) (fun h71_11 => ?_) (fun h71_11 => ?_)
              · first
                | exfalso; first | omega | contradiction
                | skip
                  have e8 : k = 8 := by omega
                  subst e8
                  exact r_vret C hr dX2_settle_115 ⟨rfl, rfl⟩ (Nat.le_of_ble_eq_true rfl) (Nat.le_of_ble_eq_true rfl)
              · first
                | exfalso; first | omega | contradiction
                | skip
                  refine r_aload_n C dX2_settle_74 rfl ?_
                  refine s_get C 0 (by decide) qf_X2_11 rfl rfl dX2_settle_75 ?_
                  refine r_iload C dX2_settle_78 rfl ?_
                  refine s_parts C (by first | omega | (simp [up2, *]; done) | (simp [up2, *]; omega) | (simp only [up2_eq]; omega)) dX2_settle_80 ?_
                  refine p_getN (v := .int (nI (f 1 k))) hX C hE 1 (by first | omega | (simp [up2, *]; done) | (simp [up2, *]; omega) | (simp only [up2_eq]; omega)) (by decide) qn_X2_207 rfl rfl dX2_settle_81 ?_
                  refine r_iload_n C dX2_settle_84 rfl ?_
                  refine r_icN_ne (a := (f 1 k)) (b := (f 1 w)) (tgt := 109) C (Nat.lt_of_lt_of_le (h1 k (by omega)) (by decide)) (Nat.lt_of_lt_of_le (h1 w (by omega)) (by decide)) dX2_settle_85 (by decide) (fun h85_12 => ?_) (fun h85_12 => ?_)
                  · first
                    | exfalso; first | omega | contradiction
                    | skip
                      refine r_iincN C dX2_settle_109 rfl (by decide) rfl ?_
                      refine r_goto (tgt := 67) C dX2_settle_112 (by decide) ?_
                      refine r_w (congrArg (fun z => WC cy a z r kn ++ Y) (stW_no (by first | exact Or.inl (by assumption) | exact Or.inr (by assumption)))) ?_
                      exact (Nat.not_lt_zero _ (by omega)).elim
                  · first
                    | exfalso; first | omega | contradiction
                    | skip
                      refine r_aload_n C dX2_settle_88 rfl ?_
                      refine r_iload C dX2_settle_89 rfl ?_
                      refine r_iload_n C dX2_settle_91 rfl ?_
                      refine d_V (st := []) hX.stb C hE (C_isHolder (f := (stW (stU f w d0 3) w k)) (r := r) (kn := kn) (h := k) (w := w) hX (by first | omega | (simp [up2, *]; done) | (simp [up2, *]; omega) | (simp only [up2_eq]; omega)) (by first | omega | (simp [up2, *]; done) | (simp [up2, *]; omega) | (simp only [up2_eq]; omega)) hG) pk_X2_isHolder qm_X2_182 0 6 rfl rfl wc_0 rfl rfl (Nat.le_of_ble_eq_true rfl) dX2_settle_92 ⟨Nat.le_of_ble_eq_true rfl, Nat.le_of_ble_eq_true rfl⟩ ⟨Nat.le_of_ble_eq_true rfl, Nat.le_of_ble_eq_true rfl⟩ ?_
                      refine r_ifN_ne (a := (hol f k w)) (tgt := 109) C (Nat.lt_of_le_of_lt (hol_le _ _ _) (by decide)) dX2_settle_95 (by decide) (fun h95_13 => ?_) (fun h95_13 => ?_)
                      · first
                        | exfalso; first | omega | contradiction
                        | skip
                          refine r_iincN C dX2_settle_109 rfl (by decide) rfl ?_
                          refine r_goto (tgt := 67) C dX2_settle_112 (by decide) ?_
                          refine r_w (congrArg (fun z => WC cy a z r kn ++ Y) (stW_no (by first | exact Or.inl (by assumption) | exact Or.inr (by assumption)))) ?_
                          exact (Nat.not_lt_zero _ (by omega)).elim
                      · first
                        | exfalso; first | omega | contradiction
                        | skip
                          refine r_aload_n C dX2_settle_98 rfl ?_
                          refine s_get C 0 (by decide) qf_X2_11 rfl rfl dX2_settle_99 ?_
                          refine r_iload C dX2_settle_102 rfl ?_
                          refine s_parts C (by first | omega | (simp [up2, *]; done) | (simp [up2, *]; omega) | (simp only [up2_eq]; omega)) dX2_settle_104 ?_
                          refine r_iconst (v := (nI 0)) C dX2_settle_105 (by decide) ?_
                          refine p_putZN hX C hE (by first | omega | (simp [up2, *]; done) | (simp [up2, *]; omega) | (simp only [up2_eq]; omega)) (by first | omega | (simp [up2, *]; done) | (simp [up2, *]; omega) | (simp only [up2_eq]; omega)) qn_X2_194 dX2_settle_106 ?_
                          refine r_iincN C dX2_settle_109 rfl (by decide) rfl ?_
                          refine r_goto (tgt := 67) C dX2_settle_112 (by decide) ?_
                          refine r_w (congrArg (fun z => WC cy a z r kn ++ Y) (stW_yes (by omega) (by assumption) (by assumption))) ?_
                          exact (Nat.not_lt_zero _ (by omega)).elim
            | succ d ih_L67 =>
              intro k hk hk4
              refine r_iload C dX2_settle_67 rfl ?_
              refine r_bipush (v := (nI 8)) C dX2_settle_69 (by decide) ?_
              refine r_icN_ge (a := k) (b := 8) (tgt := 115) C (by first | omega | (simp [up2, *]; done) | (simp [up2, *]; omega) | (simp only [up2_eq]; omega)) (by first | omega | (simp [up2, *]; done) | (simp [up2, *]; omega) | (simp only [up2_eq]; omega)) dX2_settle_71 (by decide) (fun h71_14 => ?_) (fun h71_14 => ?_)
              · first
                | exfalso; first | omega | contradiction
                | skip
                  have e8 : k = 8 := by omega
                  subst e8
                  exact r_vret C hr dX2_settle_115 ⟨rfl, rfl⟩ (Nat.le_of_ble_eq_true rfl) (Nat.le_of_ble_eq_true rfl)
              · first
                | exfalso; first | omega | contradiction
                | skip
                  refine r_aload_n C dX2_settle_74 rfl ?_
                  refine s_get C 0 (by decide) qf_X2_11 rfl rfl dX2_settle_75 ?_
                  refine r_iload C dX2_settle_78 rfl ?_
                  refine s_parts C (by first | omega | (simp [up2, *]; done) | (simp [up2, *]; omega) | (simp only [up2_eq]; omega)) dX2_settle_80 ?_
                  refine p_getN (v := .int (nI (f 1 k))) hX C hE 1 (by first | omega | (simp [up2, *]; done) | (simp [up2, *]; omega) | (simp only [up2_eq]; omega)) (by decide) qn_X2_207 rfl rfl dX2_settle_81 ?_
                  refine r_iload_n C dX2_settle_84 rfl ?_
                  refine r_icN_ne (a := (f 1 k)) (b := (f 1 w)) (tgt := 109) C (Nat.lt_of_lt_of_le (h1 k (by omega)) (by decide)) (Nat.lt_of_lt_of_le (h1 w (by omega)) (by decide)) dX2_settle_85 (by decide) (fun h85_15 => ?_) (fun h85_15 => ?_)
                  · first
                    | exfalso; first | omega | contradiction
                    | skip
                      refine r_iincN C dX2_settle_109 rfl (by decide) rfl ?_
                      refine r_goto (tgt := 67) C dX2_settle_112 (by decide) ?_
                      refine r_w (congrArg (fun z => WC cy a z r kn ++ Y) (stW_no (by first | exact Or.inl (by assumption) | exact Or.inr (by assumption)))) ?_
                      exact ih_L67 (k + 1) (by omega) (by omega)
                  · first
                    | exfalso; first | omega | contradiction
                    | skip
                      refine r_aload_n C dX2_settle_88 rfl ?_
                      refine r_iload C dX2_settle_89 rfl ?_
                      refine r_iload_n C dX2_settle_91 rfl ?_
                      refine d_V (st := []) hX.stb C hE (C_isHolder (f := (stW (stU f w d0 3) w k)) (r := r) (kn := kn) (h := k) (w := w) hX (by first | omega | (simp [up2, *]; done) | (simp [up2, *]; omega) | (simp only [up2_eq]; omega)) (by first | omega | (simp [up2, *]; done) | (simp [up2, *]; omega) | (simp only [up2_eq]; omega)) hG) pk_X2_isHolder qm_X2_182 0 6 rfl rfl wc_0 rfl rfl (Nat.le_of_ble_eq_true rfl) dX2_settle_92 ⟨Nat.le_of_ble_eq_true rfl, Nat.le_of_ble_eq_true rfl⟩ ⟨Nat.le_of_ble_eq_true rfl, Nat.le_of_ble_eq_true rfl⟩ ?_
                      refine r_ifN_ne (a := (hol f k w)) (tgt := 109) C (Nat.lt_of_le_of_lt (hol_le _ _ _) (by decide)) dX2_settle_95 (by decide) (fun h95_16 => ?_) (fun h95_16 => ?_)
                      · first
                        | exfalso; first | omega | contradiction
                        | skip
                          refine r_iincN C dX2_settle_109 rfl (by decide) rfl ?_
                          refine r_goto (tgt := 67) C dX2_settle_112 (by decide) ?_
                          refine r_w (congrArg (fun z => WC cy a z r kn ++ Y) (stW_no (by first | exact Or.inl (by assumption) | exact Or.inr (by assumption)))) ?_
                          exact ih_L67 (k + 1) (by omega) (by omega)
                      · first
                        | exfalso; first | omega | contradiction
                        | skip
                          refine r_aload_n C dX2_settle_98 rfl ?_
                          refine s_get C 0 (by decide) qf_X2_11 rfl rfl dX2_settle_99 ?_
                          refine r_iload C dX2_settle_102 rfl ?_
                          refine s_parts C (by first | omega | (simp [up2, *]; done) | (simp [up2, *]; omega) | (simp only [up2_eq]; omega)) dX2_settle_104 ?_
                          refine r_iconst (v := (nI 0)) C dX2_settle_105 (by decide) ?_
                          refine p_putZN hX C hE (by first | omega | (simp [up2, *]; done) | (simp [up2, *]; omega) | (simp only [up2_eq]; omega)) (by first | omega | (simp [up2, *]; done) | (simp [up2, *]; omega) | (simp only [up2_eq]; omega)) qn_X2_194 dX2_settle_106 ?_
                          refine r_iincN C dX2_settle_109 rfl (by decide) rfl ?_
                          refine r_goto (tgt := 67) C dX2_settle_112 (by decide) ?_
                          refine r_w (congrArg (fun z => WC cy a z r kn ++ Y) (stW_yes (by omega) (by assumption) (by assumption))) ?_
                          exact ih_L67 (k + 1) (by omega) (by omega)
          exact L67 4 4 rfl (by omega)
      · first
        | exfalso; first | omega | contradiction
        | skip
          refine r_iload C dX2_settle_19 rfl ?_
          refine r_iload_n C dX2_settle_21 rfl ?_
          refine r_icN_eq (a := k) (b := d0) (tgt := 58) C (by first | omega | (simp [up2, *]; done) | (simp [up2, *]; omega) | (simp only [up2_eq]; omega)) (by first | omega | (simp [up2, *]; done) | (simp [up2, *]; omega) | (simp only [up2_eq]; omega)) dX2_settle_22 (by decide) (fun h22_17 => ?_) (fun h22_17 => ?_)
          · first
            | exfalso; first | omega | contradiction
            | skip
              refine r_iincN C dX2_settle_58 rfl (by decide) rfl ?_
              refine r_goto (tgt := 13) C dX2_settle_61 (by decide) ?_
              refine r_w (congrArg (fun z => WC cy a z r kn ++ Y) (stU_no (by first | exact Or.inl (by assumption) | exact Or.inr (by assumption)))) ?_
              exact ih_L13 (k + 1) (by omega)
          · first
            | exfalso; first | omega | contradiction
            | skip
              refine r_aload_n C dX2_settle_25 rfl ?_
              refine s_get C 0 (by decide) qf_X2_11 rfl rfl dX2_settle_26 ?_
              have hu6 := hU k (by omega)
              refine r_aload_n C dX2_settle_29 rfl ?_
              refine s_get C 1 (by decide) qf_X2_24 rfl rfl dX2_settle_30 ?_
              refine r_iload C dX2_settle_33 rfl ?_
              refine s_curs C (by first | omega | (simp [up2, *]; done) | (simp [up2, *]; omega) | (simp only [up2_eq]; omega)) dX2_settle_35 ?_
              refine u_getN (v := .int (nI (f 6 k))) hX C hE 0 (by first | omega | (simp [up2, *]; done) | (simp [up2, *]; omega) | (simp only [up2_eq]; omega)) (by decide) qn_X2_225 rfl rfl dX2_settle_36 ?_
              refine s_parts C (by first | omega | (simp [up2, *]; done) | (simp [up2, *]; omega) | (simp only [up2_eq]; omega)) dX2_settle_39 ?_
              refine p_getN (v := .int (nI (f 1 (f 6 k)))) hX C hE 1 (by first | omega | (simp [up2, *]; done) | (simp [up2, *]; omega) | (simp only [up2_eq]; omega)) (by decide) qn_X2_207 rfl rfl dX2_settle_40 ?_
              refine r_iload_n C dX2_settle_43 rfl ?_
              refine r_icN_ne (a := (f 1 (f 6 k))) (b := (f 1 w)) (tgt := 58) C (Nat.lt_of_lt_of_le (h1 (f 6 k) hu6) (by decide)) (Nat.lt_of_lt_of_le (h1 w (by omega)) (by decide)) dX2_settle_44 (by decide) (fun h44_18 => ?_) (fun h44_18 => ?_)
              · first
                | exfalso; first | omega | contradiction
                | skip
                  refine r_iincN C dX2_settle_58 rfl (by decide) rfl ?_
                  refine r_goto (tgt := 13) C dX2_settle_61 (by decide) ?_
                  refine r_w (congrArg (fun z => WC cy a z r kn ++ Y) (stU_no (by first | exact Or.inl (by assumption) | exact Or.inr (by assumption)))) ?_
                  exact ih_L13 (k + 1) (by omega)
              · first
                | exfalso; first | omega | contradiction
                | skip
                  refine r_aload_n C dX2_settle_47 rfl ?_
                  refine s_get C 1 (by decide) qf_X2_24 rfl rfl dX2_settle_48 ?_
                  refine r_iload C dX2_settle_51 rfl ?_
                  refine s_curs C (by first | omega | (simp [up2, *]; done) | (simp [up2, *]; omega) | (simp only [up2_eq]; omega)) dX2_settle_53 ?_
                  refine r_iconst (v := (nI 0)) C dX2_settle_54 (by decide) ?_
                  refine u_putZN hX C hE (by first | omega | (simp [up2, *]; done) | (simp [up2, *]; omega) | (simp only [up2_eq]; omega)) (by first | omega | (simp [up2, *]; done) | (simp [up2, *]; omega) | (simp only [up2_eq]; omega)) qn_X2_221 dX2_settle_55 ?_
                  refine r_iincN C dX2_settle_58 rfl (by decide) rfl ?_
                  refine r_goto (tgt := 13) C dX2_settle_61 (by decide) ?_
                  refine r_w (congrArg (fun z => WC cy a z r kn ++ Y) (stU_yes (by assumption) (by assumption))) ?_
                  exact ih_L13 (k + 1) (by omega)
  exact L13 3 0 rfl
