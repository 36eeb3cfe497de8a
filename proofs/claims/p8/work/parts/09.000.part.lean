/-! CONTRACTS of Part and Cursor -/
theorem pk_J9_floorMod_7cf53 : PkS yJ9_floorMod_7cf53 cJ9_floorMod_7cf53 3 (some .int) 2 := pk_J9_floorMod
theorem dX1_isGap_0 : decode cX1_isGap 0 = .ok (.iload_n 1, 1) := by decide +kernel
theorem dX1_isGap_1 : decode cX1_isGap 1 = .ok (.ifCond .lt 15, 3) := by decide +kernel
theorem dX1_isGap_4 : decode cX1_isGap 4 = .ok (.iload_n 1, 1) := by decide +kernel
theorem dX1_isGap_5 : decode cX1_isGap 5 = .ok (.aload_n 0, 1) := by decide +kernel
theorem dX1_isGap_6 : decode cX1_isGap 6 = .ok (.getfield 29, 3) := by decide +kernel
theorem dX1_isGap_9 : decode cX1_isGap 9 = .ok (.if_icmp .gt 7, 3) := by decide +kernel
theorem dX1_isGap_12 : decode cX1_isGap 12 = .ok (.iconst 1, 1) := by decide +kernel
theorem dX1_isGap_13 : decode cX1_isGap 13 = .ok (.goto 4, 3) := by decide +kernel
theorem dX1_isGap_16 : decode cX1_isGap 16 = .ok (.iconst 0, 1) := by decide +kernel
theorem dX1_isGap_17 : decode cX1_isGap 17 = .ok (.ireturn, 1) := by decide +kernel
set_option maxRecDepth 100000 in
set_option maxHeartbeats 4000000 in
theorem C_isGap1 {l : Launch} {D : va_G} {cy : Nat → ClassId} {X : (Nat → Prop) → State → Heap → Prop} {a f : Nat → Nat → Nat} {r : Nat → Nat → Int32} {kn : Int32} {Y : va_W} {i : Nat} {k : Nat} (hX : EnvX X) (hi : i < 11) (hk : k ≤ f 4 i) (h4 : f 3 i + f 4 i ≤ 12) : Cd l D cy X yX1_isGap cX1_isGap 2 (some .boolean) (rmz 0 0) [.ref (a 1 i), .int (nI k)] (WC cy a f r kn ++ Y) (some (.int (nI 1))) (WC cy a f r kn ++ Y) := by
  refine Cm.of [some (.ref (a 1 i)), some (.int (nI k))] (by decide +kernel) rfl (Nat.le_of_ble_eq_true rfl) ?_
  intro p e s m args below meth c A C hE hr hnt hn
  refine r_iload_n C dX1_isGap_0 rfl ?_
  refine r_ifN_lt (tgt := 16) C (by first | omega | (simp [up2, *]; done) | (simp [up2, *]; omega) | (simp only [up2_eq]; omega)) dX1_isGap_1 (by decide) (fun h1_1 => ?_) (fun h1_1 => ?_)
  · first
    | exfalso; first | omega | contradiction
    | skip
      refine r_iconst (v := (nI 0)) C dX1_isGap_16 (by decide) ?_
      exact r_zret C hr (by first | omega | (simp [up2, *]; done) | (simp [up2, *]; omega) | (simp only [up2_eq]; omega)) dX1_isGap_17 ⟨rfl, rfl⟩ (Nat.le_of_ble_eq_true rfl) (Nat.le_of_ble_eq_true rfl)
  · first
    | exfalso; first | omega | contradiction
    | skip
      refine r_iload_n C dX1_isGap_4 rfl ?_
      refine r_aload_n C dX1_isGap_5 rfl ?_
      refine p_get (v := .int (nI (f 4 i))) C 4 (by first | omega | (simp [up2, *]; done) | (simp [up2, *]; omega) | (simp only [up2_eq]; omega)) (by decide) qf_X1_29 rfl rfl dX1_isGap_6 ?_
      refine r_icN_gt (tgt := 16) C (by first | omega | (simp [up2, *]; done) | (simp [up2, *]; omega) | (simp only [up2_eq]; omega)) (by first | omega | (simp [up2, *]; done) | (simp [up2, *]; omega) | (simp only [up2_eq]; omega)) dX1_isGap_9 (by decide) (fun h9_2 => ?_) (fun h9_2 => ?_)
      · first
        | exfalso; first | omega | contradiction
        | skip
          refine r_iconst (v := (nI 0)) C dX1_isGap_16 (by decide) ?_
          exact r_zret C hr (by first | omega | (simp [up2, *]; done) | (simp [up2, *]; omega) | (simp only [up2_eq]; omega)) dX1_isGap_17 ⟨rfl, rfl⟩ (Nat.le_of_ble_eq_true rfl) (Nat.le_of_ble_eq_true rfl)
      · first
        | exfalso; first | omega | contradiction
        | skip
          refine r_iconst (v := (nI 1)) C dX1_isGap_12 (by decide) ?_
          refine r_goto (tgt := 17) C dX1_isGap_13 (by decide) ?_
          exact r_zret C hr (by first | omega | (simp [up2, *]; done) | (simp [up2, *]; omega) | (simp only [up2_eq]; omega)) dX1_isGap_17 ⟨rfl, rfl⟩ (Nat.le_of_ble_eq_true rfl) (Nat.le_of_ble_eq_true rfl)
set_option maxRecDepth 100000 in
set_option maxHeartbeats 4000000 in
theorem C_isGap0 {l : Launch} {D : va_G} {cy : Nat → ClassId} {X : (Nat → Prop) → State → Heap → Prop} {a f : Nat → Nat → Nat} {r : Nat → Nat → Int32} {kn : Int32} {Y : va_W} {i : Nat} {x : Int32} (hX : EnvX X) (hi : i < 11) (hno : ¬ (0 ≤ x ∧ x ≤ nI (f 4 i))) : Cd l D cy X yX1_isGap cX1_isGap 2 (some .boolean) (rmz 0 0) [.ref (a 1 i), .int x] (WC cy a f r kn ++ Y) (some (.int (nI 0))) (WC cy a f r kn ++ Y) := by
  refine Cm.of [some (.ref (a 1 i)), some (.int x)] (by decide +kernel) rfl (Nat.le_of_ble_eq_true rfl) ?_
  intro p e s m args below meth c A C hE hr hnt hn
  refine r_iload_n C dX1_isGap_0 rfl ?_
  refine r_if_lt (tgt := 16) C dX1_isGap_1 (by decide) (fun h1_1 => ?_) (fun h1_1 => ?_)
  · first
    | exfalso; first | omega | contradiction
    | skip
      refine r_iconst (v := (nI 0)) C dX1_isGap_16 (by decide) ?_
      exact r_zret C hr (by first | omega | (simp [up2, *]; done) | (simp [up2, *]; omega) | (simp only [up2_eq]; omega)) dX1_isGap_17 ⟨rfl, rfl⟩ (Nat.le_of_ble_eq_true rfl) (Nat.le_of_ble_eq_true rfl)
  · first
    | exfalso; first | omega | contradiction
    | skip
      refine r_iload_n C dX1_isGap_4 rfl ?_
      refine r_aload_n C dX1_isGap_5 rfl ?_
      refine p_get (v := .int (nI (f 4 i))) C 4 (by first | omega | (simp [up2, *]; done) | (simp [up2, *]; omega) | (simp only [up2_eq]; omega)) (by decide) qf_X1_29 rfl rfl dX1_isGap_6 ?_
      refine r_ic_gt (tgt := 16) C dX1_isGap_9 (by decide) (fun h9_2 => ?_) (fun h9_2 => ?_)
      · skip
        refine r_iconst (v := (nI 0)) C dX1_isGap_16 (by decide) ?_
        exact r_zret C hr (by first | omega | (simp [up2, *]; done) | (simp [up2, *]; omega) | (simp only [up2_eq]; omega)) dX1_isGap_17 ⟨rfl, rfl⟩ (Nat.le_of_ble_eq_true rfl) (Nat.le_of_ble_eq_true rfl)
      · exact absurd (by refine ⟨?_, ?_⟩ <;> first | assumption | exact Int32.not_lt.mp (by assumption)) hno
theorem dX1_isStretch_0 : decode cX1_isStretch 0 = .ok (.iload_n 1, 1) := by decide +kernel
theorem dX1_isStretch_1 : decode cX1_isStretch 1 = .ok (.ifCond .lt 20, 3) := by decide +kernel
theorem dX1_isStretch_4 : decode cX1_isStretch 4 = .ok (.iload_n 1, 1) := by decide +kernel
theorem dX1_isStretch_5 : decode cX1_isStretch 5 = .ok (.iload_n 2, 1) := by decide +kernel
theorem dX1_isStretch_6 : decode cX1_isStretch 6 = .ok (.if_icmp .gt 15, 3) := by decide +kernel
theorem dX1_isStretch_9 : decode cX1_isStretch 9 = .ok (.iload_n 2, 1) := by decide +kernel
theorem dX1_isStretch_10 : decode cX1_isStretch 10 = .ok (.aload_n 0, 1) := by decide +kernel
theorem dX1_isStretch_11 : decode cX1_isStretch 11 = .ok (.getfield 29, 3) := by decide +kernel
theorem dX1_isStretch_14 : decode cX1_isStretch 14 = .ok (.if_icmp .gt 7, 3) := by decide +kernel
theorem dX1_isStretch_17 : decode cX1_isStretch 17 = .ok (.iconst 1, 1) := by decide +kernel
theorem dX1_isStretch_18 : decode cX1_isStretch 18 = .ok (.goto 4, 3) := by decide +kernel
theorem dX1_isStretch_21 : decode cX1_isStretch 21 = .ok (.iconst 0, 1) := by decide +kernel
theorem dX1_isStretch_22 : decode cX1_isStretch 22 = .ok (.ireturn, 1) := by decide +kernel
set_option maxRecDepth 100000 in
set_option maxHeartbeats 4000000 in
theorem C_isStretch1 {l : Launch} {D : va_G} {cy : Nat → ClassId} {X : (Nat → Prop) → State → Heap → Prop} {a f : Nat → Nat → Nat} {r : Nat → Nat → Int32} {kn : Int32} {Y : va_W} {i : Nat} {p0 : Nat} {q0 : Nat} (hX : EnvX X) (hi : i < 11) (hp : p0 ≤ q0) (hq : q0 ≤ f 4 i) (h4 : f 3 i + f 4 i ≤ 12) : Cd l D cy X yX1_isStretch cX1_isStretch 3 (some .boolean) (rmz 0 0) [.ref (a 1 i), .int (nI p0), .int (nI q0)] (WC cy a f r kn ++ Y) (some (.int (nI 1))) (WC cy a f r kn ++ Y) := by
  refine Cm.of [some (.ref (a 1 i)), some (.int (nI p0)), some (.int (nI q0))] (by decide +kernel) rfl (Nat.le_of_ble_eq_true rfl) ?_
  intro p e s m args below meth c A C hE hr hnt hn
  refine r_iload_n C dX1_isStretch_0 rfl ?_
  refine r_ifN_lt (tgt := 21) C (by first | omega | (simp [up2, *]; done) | (simp [up2, *]; omega) | (simp only [up2_eq]; omega)) dX1_isStretch_1 (by decide) (fun h1_1 => ?_) (fun h1_1 => ?_)
  · first
    | exfalso; first | omega | contradiction
    | skip
      refine r_iconst (v := (nI 0)) C dX1_isStretch_21 (by decide) ?_
      exact r_zret C hr (by first | omega | (simp [up2, *]; done) | (simp [up2, *]; omega) | (simp only [up2_eq]; omega)) dX1_isStretch_22 ⟨rfl, rfl⟩ (Nat.le_of_ble_eq_true rfl) (Nat.le_of_ble_eq_true rfl)
  · first
    | exfalso; first | omega | contradiction
    | skip
      refine r_iload_n C dX1_isStretch_4 rfl ?_
      refine r_iload_n C dX1_isStretch_5 rfl ?_
      refine r_icN_gt (tgt := 21) C (by first | omega | (simp [up2, *]; done) | (simp [up2, *]; omega) | (simp only [up2_eq]; omega)) (by first | omega | (simp [up2, *]; done) | (simp [up2, *]; omega) | (simp only [up2_eq]; omega)) dX1_isStretch_6 (by decide) (fun h6_2 => ?_) (fun h6_2 => ?_)
      · first
        | exfalso; first | omega | contradiction
        | skip
          refine r_iconst (v := (nI 0)) C dX1_isStretch_21 (by decide) ?_
          exact r_zret C hr (by first | omega | (simp [up2, *]; done) | (simp [up2, *]; omega) | (simp only [up2_eq]; omega)) dX1_isStretch_22 ⟨rfl, rfl⟩ (Nat.le_of_ble_eq_true rfl) (Nat.le_of_ble_eq_true rfl)
      · first
        | exfalso; first | omega | contradiction
        | skip
          refine r_iload_n C dX1_isStretch_9 rfl ?_
          refine r_aload_n C dX1_isStretch_10 rfl ?_
          refine p_get (v := .int (nI (f 4 i))) C 4 (by first | omega | (simp [up2, *]; done) | (simp [up2, *]; omega) | (simp only [up2_eq]; omega)) (by decide) qf_X1_29 rfl rfl dX1_isStretch_11 ?_
          refine r_icN_gt (tgt := 21) C (by first | omega | (simp [up2, *]; done) | (simp [up2, *]; omega) | (simp only [up2_eq]; omega)) (by first | omega | (simp [up2, *]; done) | (simp [up2, *]; omega) | (simp only [up2_eq]; omega)) dX1_isStretch_14 (by decide) (fun h14_3 => ?_) (fun h14_3 => ?_)
          · first
            | exfalso; first | omega | contradiction
            | skip
              refine r_iconst (v := (nI 0)) C dX1_isStretch_21 (by decide) ?_
              exact r_zret C hr (by first | omega | (simp [up2, *]; done) | (simp [up2, *]; omega) | (simp only [up2_eq]; omega)) dX1_isStretch_22 ⟨rfl, rfl⟩ (Nat.le_of_ble_eq_true rfl) (Nat.le_of_ble_eq_true rfl)
          · first
            | exfalso; first | omega | contradiction
            | skip
              refine r_iconst (v := (nI 1)) C dX1_isStretch_17 (by decide) ?_
              refine r_goto (tgt := 22) C dX1_isStretch_18 (by decide) ?_
              exact r_zret C hr (by first | omega | (simp [up2, *]; done) | (simp [up2, *]; omega) | (simp only [up2_eq]; omega)) dX1_isStretch_22 ⟨rfl, rfl⟩ (Nat.le_of_ble_eq_true rfl) (Nat.le_of_ble_eq_true rfl)
set_option maxRecDepth 100000 in
set_option maxHeartbeats 4000000 in
theorem C_isStretch0 {l : Launch} {D : va_G} {cy : Nat → ClassId} {X : (Nat → Prop) → State → Heap → Prop} {a f : Nat → Nat → Nat} {r : Nat → Nat → Int32} {kn : Int32} {Y : va_W} {i : Nat} {x : Int32} {y : Int32} (hX : EnvX X) (hi : i < 11) (hno : ¬ (0 ≤ x ∧ x ≤ y ∧ y ≤ nI (f 4 i))) : Cd l D cy X yX1_isStretch cX1_isStretch 3 (some .boolean) (rmz 0 0) [.ref (a 1 i), .int x, .int y] (WC cy a f r kn ++ Y) (some (.int (nI 0))) (WC cy a f r kn ++ Y) := by
  refine Cm.of [some (.ref (a 1 i)), some (.int x), some (.int y)] (by decide +kernel) rfl (Nat.le_of_ble_eq_true rfl) ?_
  intro p e s m args below meth c A C hE hr hnt hn
  refine r_iload_n C dX1_isStretch_0 rfl ?_
  refine r_if_lt (tgt := 21) C dX1_isStretch_1 (by decide) (fun h1_1 => ?_) (fun h1_1 => ?_)
  · first
    | exfalso; first | omega | contradiction
    | skip
      refine r_iconst (v := (nI 0)) C dX1_isStretch_21 (by decide) ?_
      exact r_zret C hr (by first | omega | (simp [up2, *]; done) | (simp [up2, *]; omega) | (simp only [up2_eq]; omega)) dX1_isStretch_22 ⟨rfl, rfl⟩ (Nat.le_of_ble_eq_true rfl) (Nat.le_of_ble_eq_true rfl)
  · first
    | exfalso; first | omega | contradiction
    | skip
      refine r_iload_n C dX1_isStretch_4 rfl ?_
      refine r_iload_n C dX1_isStretch_5 rfl ?_
      refine r_ic_gt (tgt := 21) C dX1_isStretch_6 (by decide) (fun h6_2 => ?_) (fun h6_2 => ?_)
      · first
        | exfalso; first | omega | contradiction
        | skip
          refine r_iconst (v := (nI 0)) C dX1_isStretch_21 (by decide) ?_
          exact r_zret C hr (by first | omega | (simp [up2, *]; done) | (simp [up2, *]; omega) | (simp only [up2_eq]; omega)) dX1_isStretch_22 ⟨rfl, rfl⟩ (Nat.le_of_ble_eq_true rfl) (Nat.le_of_ble_eq_true rfl)
      · first
        | exfalso; first | omega | contradiction
        | skip
          refine r_iload_n C dX1_isStretch_9 rfl ?_
          refine r_aload_n C dX1_isStretch_10 rfl ?_
          refine p_get (v := .int (nI (f 4 i))) C 4 (by first | omega | (simp [up2, *]; done) | (simp [up2, *]; omega) | (simp only [up2_eq]; omega)) (by decide) qf_X1_29 rfl rfl dX1_isStretch_11 ?_
          refine r_ic_gt (tgt := 21) C dX1_isStretch_14 (by decide) (fun h14_3 => ?_) (fun h14_3 => ?_)
          · skip
            refine r_iconst (v := (nI 0)) C dX1_isStretch_21 (by decide) ?_
            exact r_zret C hr (by first | omega | (simp [up2, *]; done) | (simp [up2, *]; omega) | (simp only [up2_eq]; omega)) dX1_isStretch_22 ⟨rfl, rfl⟩ (Nat.le_of_ble_eq_true rfl) (Nat.le_of_ble_eq_true rfl)
          · exact absurd (by refine ⟨?_, ?_, ?_⟩ <;> first | assumption | exact Int32.not_lt.mp (by assumption)) hno
