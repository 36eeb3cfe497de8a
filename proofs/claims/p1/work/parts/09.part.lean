/-! CONTRACTS of Part and Cursor -/
theorem pk_J9_floorMod_7cf53 : PkS yJ9_floorMod_7cf53 cJ9_floorMod_7cf53 3 (some .int) 2 := pk_J9_floorMod
theorem dX1_isGap_0 : decode cX1_isGap 0 = .ok (.iload_n 1, 1) := dqo_27 (kb_of ke_X1_isGap 0 rfl)
theorem dX1_isGap_1 : decode cX1_isGap 1 = .ok (.ifCond .lt 15, 3) := dqo_155 0 15 (by decide) (kb_of ke_X1_isGap 1 rfl) (kb_of ke_X1_isGap 2 rfl) (kb_of ke_X1_isGap 3 rfl)
theorem dX1_isGap_4 : decode cX1_isGap 4 = .ok (.iload_n 1, 1) := dqo_27 (kb_of ke_X1_isGap 4 rfl)
theorem dX1_isGap_5 : decode cX1_isGap 5 = .ok (.aload_n 0, 1) := dqo_42 (kb_of ke_X1_isGap 5 rfl)
theorem dX1_isGap_6 : decode cX1_isGap 6 = .ok (.getfield 29, 3) := dqo_180 0 29 (kb_of ke_X1_isGap 6 rfl) (kb_of ke_X1_isGap 7 rfl) (kb_of ke_X1_isGap 8 rfl)
theorem dX1_isGap_9 : decode cX1_isGap 9 = .ok (.if_icmp .gt 7, 3) := dqo_163 0 7 (by decide) (kb_of ke_X1_isGap 9 rfl) (kb_of ke_X1_isGap 10 rfl) (kb_of ke_X1_isGap 11 rfl)
theorem dX1_isGap_12 : decode cX1_isGap 12 = .ok (.iconst 1, 1) := dqo_4 (kb_of ke_X1_isGap 12 rfl)
theorem dX1_isGap_13 : decode cX1_isGap 13 = .ok (.goto 4, 3) := dqo_167 0 4 (by decide) (kb_of ke_X1_isGap 13 rfl) (kb_of ke_X1_isGap 14 rfl) (kb_of ke_X1_isGap 15 rfl)
theorem dX1_isGap_16 : decode cX1_isGap 16 = .ok (.iconst 0, 1) := dqo_3 (kb_of ke_X1_isGap 16 rfl)
theorem dX1_isGap_17 : decode cX1_isGap 17 = .ok (.ireturn, 1) := dqo_172 (kb_of ke_X1_isGap 17 rfl)
set_option maxRecDepth 100000 in
set_option maxHeartbeats 4000000 in
theorem C_isGap1 {l : Launch} {D : va_G} {cy : Nat → ClassId} {X : (Nat → Prop) → State → Heap → Prop} {a f : Nat → Nat → Nat} {r : Nat → Nat → Int32} {kn : Int32} {Y : va_W} {i : Nat} {k : Nat} (hX : EnvX X) (hi : i < 11) (hk : k ≤ f 4 i) (h4 : f 3 i + f 4 i ≤ 12) : Cd l D cy X yX1_isGap cX1_isGap 2 (some .boolean) (rmz 0 0) [.ref (a 1 i), .int (nI k)] (WC cy a f r kn ++ Y) (some (.int (nI 1))) (WC cy a f r kn ++ Y) := by
  refine Cm.of [some (.ref (a 1 i)), some (.int (nI k))] pn_X1 rfl (Nat.le_of_ble_eq_true rfl) ?_
  intro p e s m args below meth c A C hE hr hnt hn
  refine r_iload_n C dX1_isGap_0 rfl ?_
  refine r_ifN_lt (tgt := 16) C (by first | omega | (simp [up2, *]; done) | (simp [up2, *]; omega) | (simp only [up2_eq]; omega)) dX1_isGap_1 (by decide) (fun h1_1 => ?_) (fun h1_1 => ?_)
  · first
    | exfalso; first | omega | contradiction
    | skip
      refine r_iconst (v := (nI 0)) C dX1_isGap_16 (by decide) ?_
      exact r_zret C hr (by first | omega | (simp [up2, *]; done) | (simp [up2, *]; omega) | (simp only [up2_eq]; omega)) dX1_isGap_17 ⟨rfl, rfl⟩ (Nat.le_of_ble_eq_true rfl) (Nat.le_of_ble_eq_true rfl)
  · first
    | exfalso; first | omega | contradiction
    | skip
      refine r_iload_n C dX1_isGap_4 rfl ?_
      refine r_aload_n C dX1_isGap_5 rfl ?_
      refine p_get (v := .int (nI (f 4 i))) C 4 (by first | omega | (simp [up2, *]; done) | (simp [up2, *]; omega) | (simp only [up2_eq]; omega)) (by decide) qf_X1_29 rfl rfl dX1_isGap_6 ?_
      refine r_icN_gt (tgt := 16) C (by first | omega | (simp [up2, *]; done) | (simp [up2, *]; omega) | (simp only [up2_eq]; omega)) (by first | omega | (simp [up2, *]; done) | (simp [up2, *]; omega) | (simp only [up2_eq]; omega)) dX1_isGap_9 (by decide) (fun h9_2 => ?_) (fun h9_2 => ?_)
      · first
        | exfalso; first | omega | contradiction
        | skip
          refine r_iconst (v := (nI 0)) C dX1_isGap_16 (by decide) ?_
          exact r_zret C hr (by first | omega | (simp [up2, *]; done) | (simp [up2, *]; omega) | (simp only [up2_eq]; omega)) dX1_isGap_17 ⟨rfl, rfl⟩ (Nat.le_of_ble_eq_true rfl) (Nat.le_of_ble_eq_true rfl)
      · first
        | exfalso; first | omega | contradiction
        | skip
          refine r_iconst (v := (nI 1)) C dX1_isGap_12 (by decide) ?_
          refine r_goto (tgt := 17) C dX1_isGap_13 (by decide) ?_
          exact r_zret C hr (by first | omega | (simp [up2, *]; done) | (simp [up2, *]; omega) | (simp only [up2_eq]; omega)) dX1_isGap_17 ⟨rfl, rfl⟩ (Nat.le_of_ble_eq_true rfl) (Nat.le_of_ble_eq_true rfl)
set_option maxRecDepth 100000 in
set_option maxHeartbeats 4000000 in
theorem C_isGap0 {l : Launch} {D : va_G} {cy : Nat → ClassId} {X : (Nat → Prop) → State → Heap → Prop} {a f : Nat → Nat → Nat} {r : Nat → Nat → Int32} {kn : Int32} {Y : va_W} {i : Nat} {x : Int32} (hX : EnvX X) (hi : i < 11) (hno : ¬ (0 ≤ x ∧ x ≤ nI (f 4 i))) : Cd l D cy X yX1_isGap cX1_isGap 2 (some .boolean) (rmz 0 0) [.ref (a 1 i), .int x] (WC cy a f r kn ++ Y) (some (.int (nI 0))) (WC cy a f r kn ++ Y) := by
  refine Cm.of [some (.ref (a 1 i)), some (.int x)] pn_X1 rfl (Nat.le_of_ble_eq_true rfl) ?_
  intro p e s m args below meth c A C hE hr hnt hn
  refine r_iload_n C dX1_isGap_0 rfl ?_
  refine r_if_lt (tgt := 16) C dX1_isGap_1 (by decide) (fun h1_1 => ?_) (fun h1_1 => ?_)
  · first
    | exfalso; first | omega | contradiction
    | skip
      refine r_iconst (v := (nI 0)) C dX1_isGap_16 (by decide) ?_
      exact r_zret C hr (by first | omega | (simp [up2, *]; done) | (simp [up2, *]; omega) | (simp only [up2_eq]; omega)) dX1_isGap_17 ⟨rfl, rfl⟩ (Nat.le_of_ble_eq_true rfl) (Nat.le_of_ble_eq_true rfl)
  · first
    | exfalso; first | omega | contradiction
    | skip
      refine r_iload_n C dX1_isGap_4 rfl ?_
      refine r_aload_n C dX1_isGap_5 rfl ?_
      refine p_get (v := .int (nI (f 4 i))) C 4 (by first | omega | (simp [up2, *]; done) | (simp [up2, *]; omega) | (simp only [up2_eq]; omega)) (by decide) qf_X1_29 rfl rfl dX1_isGap_6 ?_
      refine r_ic_gt (tgt := 16) C dX1_isGap_9 (by decide) (fun h9_2 => ?_) (fun h9_2 => ?_)
      · skip
        refine r_iconst (v := (nI 0)) C dX1_isGap_16 (by decide) ?_
        exact r_zret C hr (by first | omega | (simp [up2, *]; done) | (simp [up2, *]; omega) | (simp only [up2_eq]; omega)) dX1_isGap_17 ⟨rfl, rfl⟩ (Nat.le_of_ble_eq_true rfl) (Nat.le_of_ble_eq_true rfl)
      · exact absurd (by refine ⟨?_, ?_⟩ <;> first | assumption | exact Int32.not_lt.mp (by assumption)) hno
theorem dX1_isStretch_0 : decode cX1_isStretch 0 = .ok (.iload_n 1, 1) := dqo_27 (kb_of ke_X1_isStretch 0 rfl)
theorem dX1_isStretch_1 : decode cX1_isStretch 1 = .ok (.ifCond .lt 20, 3) := dqo_155 0 20 (by decide) (kb_of ke_X1_isStretch 1 rfl) (kb_of ke_X1_isStretch 2 rfl) (kb_of ke_X1_isStretch 3 rfl)
theorem dX1_isStretch_4 : decode cX1_isStretch 4 = .ok (.iload_n 1, 1) := dqo_27 (kb_of ke_X1_isStretch 4 rfl)
theorem dX1_isStretch_5 : decode cX1_isStretch 5 = .ok (.iload_n 2, 1) := dqo_28 (kb_of ke_X1_isStretch 5 rfl)
theorem dX1_isStretch_6 : decode cX1_isStretch 6 = .ok (.if_icmp .gt 15, 3) := dqo_163 0 15 (by decide) (kb_of ke_X1_isStretch 6 rfl) (kb_of ke_X1_isStretch 7 rfl) (kb_of ke_X1_isStretch 8 rfl)
theorem dX1_isStretch_9 : decode cX1_isStretch 9 = .ok (.iload_n 2, 1) := dqo_28 (kb_of ke_X1_isStretch 9 rfl)
theorem dX1_isStretch_10 : decode cX1_isStretch 10 = .ok (.aload_n 0, 1) := dqo_42 (kb_of ke_X1_isStretch 10 rfl)
theorem dX1_isStretch_11 : decode cX1_isStretch 11 = .ok (.getfield 29, 3) := dqo_180 0 29 (kb_of ke_X1_isStretch 11 rfl) (kb_of ke_X1_isStretch 12 rfl) (kb_of ke_X1_isStretch 13 rfl)
theorem dX1_isStretch_14 : decode cX1_isStretch 14 = .ok (.if_icmp .gt 7, 3) := dqo_163 0 7 (by decide) (kb_of ke_X1_isStretch 14 rfl) (kb_of ke_X1_isStretch 15 rfl) (kb_of ke_X1_isStretch 16 rfl)
theorem dX1_isStretch_17 : decode cX1_isStretch 17 = .ok (.iconst 1, 1) := dqo_4 (kb_of ke_X1_isStretch 17 rfl)
theorem dX1_isStretch_18 : decode cX1_isStretch 18 = .ok (.goto 4, 3) := dqo_167 0 4 (by decide) (kb_of ke_X1_isStretch 18 rfl) (kb_of ke_X1_isStretch 19 rfl) (kb_of ke_X1_isStretch 20 rfl)
theorem dX1_isStretch_21 : decode cX1_isStretch 21 = .ok (.iconst 0, 1) := dqo_3 (kb_of ke_X1_isStretch 21 rfl)
theorem dX1_isStretch_22 : decode cX1_isStretch 22 = .ok (.ireturn, 1) := dqo_172 (kb_of ke_X1_isStretch 22 rfl)
set_option maxRecDepth 100000 in
set_option maxHeartbeats 4000000 in
theorem C_isStretch1 {l : Launch} {D : va_G} {cy : Nat → ClassId} {X : (Nat → Prop) → State → Heap → Prop} {a f : Nat → Nat → Nat} {r : Nat → Nat → Int32} {kn : Int32} {Y : va_W} {i : Nat} {p0 : Nat} {q0 : Nat} (hX : EnvX X) (hi : i < 11) (hp : p0 ≤ q0) (hq : q0 ≤ f 4 i) (h4 : f 3 i + f 4 i ≤ 12) : Cd l D cy X yX1_isStretch cX1_isStretch 3 (some .boolean) (rmz 0 0) [.ref (a 1 i), .int (nI p0), .int (nI q0)] (WC cy a f r kn ++ Y) (some (.int (nI 1))) (WC cy a f r kn ++ Y) := by
  refine Cm.of [some (.ref (a 1 i)), some (.int (nI p0)), some (.int (nI q0))] pn_X1 rfl (Nat.le_of_ble_eq_true rfl) ?_
  intro p e s m args below meth c A C hE hr hnt hn
  refine r_iload_n C dX1_isStretch_0 rfl ?_
  refine r_ifN_lt (tgt := 21) C (by first | omega | (simp [up2, *]; done) | (simp [up2, *]; omega) | (simp only [up2_eq]; omega)) dX1_isStretch_1 (by decide) (fun h1_1 => ?_) (fun h1_1 => ?_)
  · first
    | exfalso; first | omega | contradiction
    | skip
      refine r_iconst (v := (nI 0)) C dX1_isStretch_21 (by decide) ?_
      exact r_zret C hr (by first | omega | (simp [up2, *]; done) | (simp [up2, *]; omega) | (simp only [up2_eq]; omega)) dX1_isStretch_22 ⟨rfl, rfl⟩ (Nat.le_of_ble_eq_true rfl) (Nat.le_of_ble_eq_true rfl)
  · first
    | exfalso; first | omega | contradiction
    | skip
      refine r_iload_n C dX1_isStretch_4 rfl ?_
      refine r_iload_n C dX1_isStretch_5 rfl ?_
      refine r_icN_gt (tgt := 21) C (by first | omega | (simp [up2, *]; done) | (simp [up2, *]; omega) | (simp only [up2_eq]; omega)) (by first | omega | (simp [up2, *]; done) | (simp [up2, *]; omega) | (simp only [up2_eq]; omega)) dX1_isStretch_6 (by decide) (fun h6_2 => ?_) (fun h6_2 => ?_)
      · first
        | exfalso; first | omega | contradiction
        | skip
          refine r_iconst (v := (nI 0)) C dX1_isStretch_21 (by decide) ?_
          exact r_zret C hr (by first | omega | (simp [up2, *]; done) | (simp [up2, *]; omega) | (simp only [up2_eq]; omega)) dX1_isStretch_22 ⟨rfl, rfl⟩ (Nat.le_of_ble_eq_true rfl) (Nat.le_of_ble_eq_true rfl)
      · first
        | exfalso; first | omega | contradiction
        | skip
          refine r_iload_n C dX1_isStretch_9 rfl ?_
          refine r_aload_n C dX1_isStretch_10 rfl ?_
          refine p_get (v := .int (nI (f 4 i))) C 4 (by first | omega | (simp [up2, *]; done) | (simp [up2, *]; omega) | (simp only [up2_eq]; omega)) (by decide) qf_X1_29 rfl rfl dX1_isStretch_11 ?_
          refine r_icN_gt (tgt := 21) C (by first | omega | (simp [up2, *]; done) | (simp [up2, *]; omega) | (simp only [up2_eq]; omega)) (by first | omega | (simp [up2, *]; done) | (simp [up2, *]; omega) | (simp only [up2_eq]; omega)) dX1_isStretch_14 (by decide) (fun h14_3 => ?_) (fun h14_3 => ?_)
          · first
            | exfalso; first | omega | contradiction
            | skip
              refine r_iconst (v := (nI 0)) C dX1_isStretch_21 (by decide) ?_
              exact r_zret C hr (by first | omega | (simp [up2, *]; done) | (simp [up2, *]; omega) | (simp only [up2_eq]; omega)) dX1_isStretch_22 ⟨rfl, rfl⟩ (Nat.le_of_ble_eq_true rfl) (Nat.le_of_ble_eq_true rfl)
          · first
            | exfalso; first | omega | contradiction
            | skip
              refine r_iconst (v := (nI 1)) C dX1_isStretch_17 (by decide) ?_
              refine r_goto (tgt := 22) C dX1_isStretch_18 (by decide) ?_
              exact r_zret C hr (by first | omega | (simp [up2, *]; done) | (simp [up2, *]; omega) | (simp only [up2_eq]; omega)) dX1_isStretch_22 ⟨rfl, rfl⟩ (Nat.le_of_ble_eq_true rfl) (Nat.le_of_ble_eq_true rfl)
set_option maxRecDepth 100000 in
set_option maxHeartbeats 4000000 in
theorem C_isStretch0 {l : Launch} {D : va_G} {cy : Nat → ClassId} {X : (Nat → Prop) → State → Heap → Prop} {a f : Nat → Nat → Nat} {r : Nat → Nat → Int32} {kn : Int32} {Y : va_W} {i : Nat} {x : Int32} {y : Int32} (hX : EnvX X) (hi : i < 11) (hno : ¬ (0 ≤ x ∧ x ≤ y ∧ y ≤ nI (f 4 i))) : Cd l D cy X yX1_isStretch cX1_isStretch 3 (some .boolean) (rmz 0 0) [.ref (a 1 i), .int x, .int y] (WC cy a f r kn ++ Y) (some (.int (nI 0))) (WC cy a f r kn ++ Y) := by
  refine Cm.of [some (.ref (a 1 i)), some (.int x), some (.int y)] pn_X1 rfl (Nat.le_of_ble_eq_true rfl) ?_
  intro p e s m args below meth c A C hE hr hnt hn
  refine r_iload_n C dX1_isStretch_0 rfl ?_
  refine r_if_lt (tgt := 21) C dX1_isStretch_1 (by decide) (fun h1_1 => ?_) (fun h1_1 => ?_)
  · first
    | exfalso; first | omega | contradiction
    | skip
      refine r_iconst (v := (nI 0)) C dX1_isStretch_21 (by decide) ?_
      exact r_zret C hr (by first | omega | (simp [up2, *]; done) | (simp [up2, *]; omega) | (simp only [up2_eq]; omega)) dX1_isStretch_22 ⟨rfl, rfl⟩ (Nat.le_of_ble_eq_true rfl) (Nat.le_of_ble_eq_true rfl)
  · first
    | exfalso; first | omega | contradiction
    | skip
      refine r_iload_n C dX1_isStretch_4 rfl ?_
      refine r_iload_n C dX1_isStretch_5 rfl ?_
      refine r_ic_gt (tgt := 21) C dX1_isStretch_6 (by decide) (fun h6_2 => ?_) (fun h6_2 => ?_)
      · first
        | exfalso; first | omega | contradiction
        | skip
          refine r_iconst (v := (nI 0)) C dX1_isStretch_21 (by decide) ?_
          exact r_zret C hr (by first | omega | (simp [up2, *]; done) | (simp [up2, *]; omega) | (simp only [up2_eq]; omega)) dX1_isStretch_22 ⟨rfl, rfl⟩ (Nat.le_of_ble_eq_true rfl) (Nat.le_of_ble_eq_true rfl)
      · first
        | exfalso; first | omega | contradiction
        | skip
          refine r_iload_n C dX1_isStretch_9 rfl ?_
          refine r_aload_n C dX1_isStretch_10 rfl ?_
          refine p_get (v := .int (nI (f 4 i))) C 4 (by first | omega | (simp [up2, *]; done) | (simp [up2, *]; omega) | (simp only [up2_eq]; omega)) (by decide) qf_X1_29 rfl rfl dX1_isStretch_11 ?_
          refine r_ic_gt (tgt := 21) C dX1_isStretch_14 (by decide) (fun h14_3 => ?_) (fun h14_3 => ?_)
          · skip
            refine r_iconst (v := (nI 0)) C dX1_isStretch_21 (by decide) ?_
            exact r_zret C hr (by first | omega | (simp [up2, *]; done) | (simp [up2, *]; omega) | (simp only [up2_eq]; omega)) dX1_isStretch_22 ⟨rfl, rfl⟩ (Nat.le_of_ble_eq_true rfl) (Nat.le_of_ble_eq_true rfl)
          · exact absurd (by refine ⟨?_, ?_, ?_⟩ <;> first | assumption | exact Int32.not_lt.mp (by assumption)) hno
theorem dX1_itemAt_0 : decode cX1_itemAt 0 = .ok (.aload_n 0, 1) := dqo_42 (kb_of ke_X1_itemAt 0 rfl)
theorem dX1_itemAt_1 : decode cX1_itemAt 1 = .ok (.getfield 15, 3) := dqo_180 0 15 (kb_of ke_X1_itemAt 1 rfl) (kb_of ke_X1_itemAt 2 rfl) (kb_of ke_X1_itemAt 3 rfl)
theorem dX1_itemAt_4 : decode cX1_itemAt 4 = .ok (.aload_n 0, 1) := dqo_42 (kb_of ke_X1_itemAt 4 rfl)
theorem dX1_itemAt_5 : decode cX1_itemAt 5 = .ok (.getfield 26, 3) := dqo_180 0 26 (kb_of ke_X1_itemAt 5 rfl) (kb_of ke_X1_itemAt 6 rfl) (kb_of ke_X1_itemAt 7 rfl)
theorem dX1_itemAt_8 : decode cX1_itemAt 8 = .ok (.iload_n 1, 1) := dqo_27 (kb_of ke_X1_itemAt 8 rfl)
theorem dX1_itemAt_9 : decode cX1_itemAt 9 = .ok (.iadd, 1) := dqo_96 (kb_of ke_X1_itemAt 9 rfl)
theorem dX1_itemAt_10 : decode cX1_itemAt 10 = .ok (.iaload, 1) := dqo_46 (kb_of ke_X1_itemAt 10 rfl)
theorem dX1_itemAt_11 : decode cX1_itemAt 11 = .ok (.ireturn, 1) := dqo_172 (kb_of ke_X1_itemAt 11 rfl)
set_option maxRecDepth 100000 in
set_option maxHeartbeats 4000000 in
theorem C_itemAt {l : Launch} {D : va_G} {cy : Nat → ClassId} {X : (Nat → Prop) → State → Heap → Prop} {a f : Nat → Nat → Nat} {r : Nat → Nat → Int32} {kn : Int32} {Y : va_W} {i : Nat} {k : Nat} (hX : EnvX X) (hi : i < 11) (h0 : f 0 i < 7) (hk : f 3 i + k < 12) : Cd l D cy X yX1_itemAt cX1_itemAt 2 (some .int) (rmz 0 0) [.ref (a 1 i), .int (nI k)] (WC cy a f r kn ++ Y) (some (.int (r (f 0 i) (f 3 i + k)))) (WC cy a f r kn ++ Y) := by
  refine Cm.of [some (.ref (a 1 i)), some (.int (nI k))] pn_X1 rfl (Nat.le_of_ble_eq_true rfl) ?_
  intro p e s m args below meth c A C hE hr hnt hn
  refine r_aload_n C dX1_itemAt_0 rfl ?_
  refine p_get (v := .ref (a 2 (f 0 i))) C 0 (by first | omega | (simp [up2, *]; done) | (simp [up2, *]; omega) | (simp only [up2_eq]; omega)) (by decide) qf_X1_15 rfl rfl dX1_itemAt_1 ?_
  refine r_aload_n C dX1_itemAt_4 rfl ?_
  refine p_get (v := .int (nI (f 3 i))) C 3 (by first | omega | (simp [up2, *]; done) | (simp [up2, *]; omega) | (simp only [up2_eq]; omega)) (by decide) qf_X1_26 rfl rfl dX1_itemAt_5 ?_
  refine r_iload_n C dX1_itemAt_8 rfl ?_
  refine r_iaddN C dX1_itemAt_9 ?_
  refine s_iald C (by first | omega | (simp [up2, *]; done) | (simp [up2, *]; omega) | (simp only [up2_eq]; omega)) (by first | omega | (simp [up2, *]; done) | (simp [up2, *]; omega) | (simp only [up2_eq]; omega)) dX1_itemAt_10 ?_
  exact r_iret C hr dX1_itemAt_11 ⟨rfl, rfl⟩ (Nat.le_of_ble_eq_true rfl) (Nat.le_of_ble_eq_true rfl)
theorem dX1_putAt_0 : decode cX1_putAt 0 = .ok (.aload_n 0, 1) := dqo_42 (kb_of ke_X1_putAt 0 rfl)
theorem dX1_putAt_1 : decode cX1_putAt 1 = .ok (.getfield 15, 3) := dqo_180 0 15 (kb_of ke_X1_putAt 1 rfl) (kb_of ke_X1_putAt 2 rfl) (kb_of ke_X1_putAt 3 rfl)
theorem dX1_putAt_4 : decode cX1_putAt 4 = .ok (.aload_n 0, 1) := dqo_42 (kb_of ke_X1_putAt 4 rfl)
theorem dX1_putAt_5 : decode cX1_putAt 5 = .ok (.getfield 26, 3) := dqo_180 0 26 (kb_of ke_X1_putAt 5 rfl) (kb_of ke_X1_putAt 6 rfl) (kb_of ke_X1_putAt 7 rfl)
theorem dX1_putAt_8 : decode cX1_putAt 8 = .ok (.iload_n 1, 1) := dqo_27 (kb_of ke_X1_putAt 8 rfl)
theorem dX1_putAt_9 : decode cX1_putAt 9 = .ok (.iadd, 1) := dqo_96 (kb_of ke_X1_putAt 9 rfl)
theorem dX1_putAt_10 : decode cX1_putAt 10 = .ok (.iload_n 2, 1) := dqo_28 (kb_of ke_X1_putAt 10 rfl)
theorem dX1_putAt_11 : decode cX1_putAt 11 = .ok (.iastore, 1) := dqo_79 (kb_of ke_X1_putAt 11 rfl)
theorem dX1_putAt_12 : decode cX1_putAt 12 = .ok (.return_, 1) := dqo_177 (kb_of ke_X1_putAt 12 rfl)
set_option maxRecDepth 100000 in
set_option maxHeartbeats 4000000 in
theorem C_putAt {l : Launch} {D : va_G} {cy : Nat → ClassId} {X : (Nat → Prop) → State → Heap → Prop} {a f : Nat → Nat → Nat} {r : Nat → Nat → Int32} {kn : Int32} {Y : va_W} {i : Nat} {k : Nat} {x : Int32} (hX : EnvX X) (hi : i < 11) (h0 : f 0 i < 7) (hk : f 3 i + k < 12) : Cd l D cy X yX1_putAt cX1_putAt 3 none (rmz 0 0) [.ref (a 1 i), .int (nI k), .int x] (WC cy a f r kn ++ Y) none (WC cy a f (up2 r (f 0 i) (f 3 i + k) x) kn ++ Y) := by
  refine Cm.of [some (.ref (a 1 i)), some (.int (nI k)), some (.int x)] pn_X1 rfl (Nat.le_of_ble_eq_true rfl) ?_
  intro p e s m args below meth c A C hE hr hnt hn
  refine r_aload_n C dX1_putAt_0 rfl ?_
  refine p_get (v := .ref (a 2 (f 0 i))) C 0 (by first | omega | (simp [up2, *]; done) | (simp [up2, *]; omega) | (simp only [up2_eq]; omega)) (by decide) qf_X1_15 rfl rfl dX1_putAt_1 ?_
  refine r_aload_n C dX1_putAt_4 rfl ?_
  refine p_get (v := .int (nI (f 3 i))) C 3 (by first | omega | (simp [up2, *]; done) | (simp [up2, *]; omega) | (simp only [up2_eq]; omega)) (by decide) qf_X1_26 rfl rfl dX1_putAt_5 ?_
  refine r_iload_n C dX1_putAt_8 rfl ?_
  refine r_iaddN C dX1_putAt_9 ?_
  refine r_iload_n C dX1_putAt_10 rfl ?_
  refine s_iast C (by first | omega | (simp [up2, *]; done) | (simp [up2, *]; omega) | (simp only [up2_eq]; omega)) (by first | omega | (simp [up2, *]; done) | (simp [up2, *]; omega) | (simp only [up2_eq]; omega)) dX1_putAt_11 ?_
  exact r_vret C hr dX1_putAt_12 ⟨rfl, rfl⟩ (Nat.le_of_ble_eq_true rfl) (Nat.le_of_ble_eq_true rfl)
theorem pk_X1_itemAt : PkV RX1 yX1_itemAt cX1_itemAt 2 (some .int) 1 := ⟨⟨qi_X1_itemAt, qs_X1_itemAt, qz_X1, qc_X1_itemAt⟩, rfl, mh_X1.1, mh_X1.2, pd_1⟩
theorem dX1_firstItem_0 : decode cX1_firstItem 0 = .ok (.aload_n 0, 1) := dqo_42 (kb_of ke_X1_firstItem 0 rfl)
theorem dX1_firstItem_1 : decode cX1_firstItem 1 = .ok (.getfield 29, 3) := dqo_180 0 29 (kb_of ke_X1_firstItem 1 rfl) (kb_of ke_X1_firstItem 2 rfl) (kb_of ke_X1_firstItem 3 rfl)
theorem dX1_firstItem_4 : decode cX1_firstItem 4 = .ok (.ifCond .ne 8, 3) := dqo_154 0 8 (by decide) (kb_of ke_X1_firstItem 4 rfl) (kb_of ke_X1_firstItem 5 rfl) (kb_of ke_X1_firstItem 6 rfl)
theorem dX1_firstItem_7 : decode cX1_firstItem 7 = .ok (.bipush 100, 2) := dqo_16 100 (by decide) (kb_of ke_X1_firstItem 7 rfl) (kb_of ke_X1_firstItem 8 rfl)
theorem dX1_firstItem_9 : decode cX1_firstItem 9 = .ok (.goto 8, 3) := dqo_167 0 8 (by decide) (kb_of ke_X1_firstItem 9 rfl) (kb_of ke_X1_firstItem 10 rfl) (kb_of ke_X1_firstItem 11 rfl)
theorem dX1_firstItem_12 : decode cX1_firstItem 12 = .ok (.aload_n 0, 1) := dqo_42 (kb_of ke_X1_firstItem 12 rfl)
theorem dX1_firstItem_13 : decode cX1_firstItem 13 = .ok (.iconst 0, 1) := dqo_3 (kb_of ke_X1_firstItem 13 rfl)
theorem dX1_firstItem_14 : decode cX1_firstItem 14 = .ok (.invokevirtual 32, 3) := dqo_182 0 32 (kb_of ke_X1_firstItem 14 rfl) (kb_of ke_X1_firstItem 15 rfl) (kb_of ke_X1_firstItem 16 rfl)
theorem dX1_firstItem_17 : decode cX1_firstItem 17 = .ok (.ireturn, 1) := dqo_172 (kb_of ke_X1_firstItem 17 rfl)
set_option maxRecDepth 100000 in
set_option maxHeartbeats 4000000 in
theorem C_firstItem {l : Launch} {D : va_G} {cy : Nat → ClassId} {X : (Nat → Prop) → State → Heap → Prop} {a f : Nat → Nat → Nat} {r : Nat → Nat → Int32} {kn : Int32} {Y : va_W} {i : Nat} (hX : EnvX X) (hi : i < 11) (h0 : f 0 i < 7) (h4 : f 3 i + f 4 i ≤ 12) : Cd l D cy X yX1_firstItem cX1_firstItem 1 (some .int) (rmz 1 30) [.ref (a 1 i)] (WC cy a f r kn ++ Y) (some (.int (if f 4 i = 0 then nI 100 else r (f 0 i) (f 3 i)))) (WC cy a f r kn ++ Y) := by
  refine Cm.of [some (.ref (a 1 i))] pn_X1 rfl (Nat.le_of_ble_eq_true rfl) ?_
  intro p e s m args below meth c A C hE hr hnt hn
  refine r_aload_n C dX1_firstItem_0 rfl ?_
  refine p_get (v := .int (nI (f 4 i))) C 4 (by first | omega | (simp [up2, *]; done) | (simp [up2, *]; omega) | (simp only [up2_eq]; omega)) (by decide) qf_X1_29 rfl rfl dX1_firstItem_1 ?_
  refine r_ifN_ne (tgt := 12) C (by first | omega | (simp [up2, *]; done) | (simp [up2, *]; omega) | (simp only [up2_eq]; omega)) dX1_firstItem_4 (by decide) (fun h4_1 => ?_) (fun h4_1 => ?_)
  · first
    | exfalso; first | omega | contradiction
    | skip
      refine r_aload_n C dX1_firstItem_12 rfl ?_
      refine r_iconst (v := (nI 0)) C dX1_firstItem_13 (by decide) ?_
      refine d_V (st := []) hX.stb C hE (C_itemAt (f := f) (r := r) (kn := kn) (i := i) (k := 0) hX (by first | omega | (simp [up2, *]; done) | (simp [up2, *]; omega) | (simp only [up2_eq]; omega)) (by first | omega | (simp [up2, *]; done) | (simp [up2, *]; omega) | (simp only [up2_eq]; omega)) (by first | omega | (simp [up2, *]; done) | (simp [up2, *]; omega) | (simp only [up2_eq]; omega))) pk_X1_itemAt qm_X1_32 (3 + i) 5 rfl rfl (wc_p (by first | omega | (simp [up2, *]; done) | (simp [up2, *]; omega) | (simp only [up2_eq]; omega))) rfl rfl (Nat.le_of_ble_eq_true rfl) dX1_firstItem_14 ⟨Nat.le_of_ble_eq_true rfl, Nat.le_of_ble_eq_true rfl⟩ ⟨Nat.le_of_ble_eq_true rfl, Nat.le_of_ble_eq_true rfl⟩ ?_
      exact r_iret C hr dX1_firstItem_17 ⟨by first | rfl | (rw [if_pos (by assumption)] <;> rfl) | (rw [if_neg (by assumption)] <;> rfl), rfl⟩ (Nat.le_of_ble_eq_true rfl) (Nat.le_of_ble_eq_true rfl)
  · first
    | exfalso; first | omega | contradiction
    | skip
      refine r_bipush (v := (nI 100)) C dX1_firstItem_7 (by decide) ?_
      refine r_goto (tgt := 17) C dX1_firstItem_9 (by decide) ?_
      exact r_iret C hr dX1_firstItem_17 ⟨by first | rfl | (rw [if_pos (by assumption)] <;> rfl) | (rw [if_neg (by assumption)] <;> rfl), rfl⟩ (Nat.le_of_ble_eq_true rfl) (Nat.le_of_ble_eq_true rfl)
theorem dX1_append_0 : decode cX1_append 0 = .ok (.aload_n 0, 1) := dqo_42 (kb_of ke_X1_append 0 rfl)
theorem dX1_append_1 : decode cX1_append 1 = .ok (.getfield 29, 3) := dqo_180 0 29 (kb_of ke_X1_append 1 rfl) (kb_of ke_X1_append 2 rfl) (kb_of ke_X1_append 3 rfl)
theorem dX1_append_4 : decode cX1_append 4 = .ok (.bipush 12, 2) := dqo_16 12 (by decide) (kb_of ke_X1_append 4 rfl) (kb_of ke_X1_append 5 rfl)
theorem dX1_append_6 : decode cX1_append 6 = .ok (.if_icmp .ge 23, 3) := dqo_162 0 23 (by decide) (kb_of ke_X1_append 6 rfl) (kb_of ke_X1_append 7 rfl) (kb_of ke_X1_append 8 rfl)
theorem dX1_append_9 : decode cX1_append 9 = .ok (.aload_n 0, 1) := dqo_42 (kb_of ke_X1_append 9 rfl)
theorem dX1_append_10 : decode cX1_append 10 = .ok (.getfield 15, 3) := dqo_180 0 15 (kb_of ke_X1_append 10 rfl) (kb_of ke_X1_append 11 rfl) (kb_of ke_X1_append 12 rfl)
theorem dX1_append_13 : decode cX1_append 13 = .ok (.aload_n 0, 1) := dqo_42 (kb_of ke_X1_append 13 rfl)
theorem dX1_append_14 : decode cX1_append 14 = .ok (.getfield 29, 3) := dqo_180 0 29 (kb_of ke_X1_append 14 rfl) (kb_of ke_X1_append 15 rfl) (kb_of ke_X1_append 16 rfl)
theorem dX1_append_17 : decode cX1_append 17 = .ok (.iload_n 1, 1) := dqo_27 (kb_of ke_X1_append 17 rfl)
theorem dX1_append_18 : decode cX1_append 18 = .ok (.iastore, 1) := dqo_79 (kb_of ke_X1_append 18 rfl)
theorem dX1_append_19 : decode cX1_append 19 = .ok (.aload_n 0, 1) := dqo_42 (kb_of ke_X1_append 19 rfl)
theorem dX1_append_20 : decode cX1_append 20 = .ok (.dup, 1) := dqo_89 (kb_of ke_X1_append 20 rfl)
theorem dX1_append_21 : decode cX1_append 21 = .ok (.getfield 29, 3) := dqo_180 0 29 (kb_of ke_X1_append 21 rfl) (kb_of ke_X1_append 22 rfl) (kb_of ke_X1_append 23 rfl)
theorem dX1_append_24 : decode cX1_append 24 = .ok (.iconst 1, 1) := dqo_4 (kb_of ke_X1_append 24 rfl)
theorem dX1_append_25 : decode cX1_append 25 = .ok (.iadd, 1) := dqo_96 (kb_of ke_X1_append 25 rfl)
theorem dX1_append_26 : decode cX1_append 26 = .ok (.putfield 29, 3) := dqo_181 0 29 (kb_of ke_X1_append 26 rfl) (kb_of ke_X1_append 27 rfl) (kb_of ke_X1_append 28 rfl)
theorem dX1_append_29 : decode cX1_append 29 = .ok (.return_, 1) := dqo_177 (kb_of ke_X1_append 29 rfl)
set_option maxRecDepth 100000 in
set_option maxHeartbeats 4000000 in
theorem C_append {l : Launch} {D : va_G} {cy : Nat → ClassId} {X : (Nat → Prop) → State → Heap → Prop} {a f : Nat → Nat → Nat} {r : Nat → Nat → Int32} {kn : Int32} {Y : va_W} {i : Nat} {x : Int32} (hX : EnvX X) (hi : i < 11) (h0 : f 0 i < 7) (h4 : f 4 i < 12) : Cd l D cy X yX1_append cX1_append 2 none (rmz 0 0) [.ref (a 1 i), .int x] (WC cy a f r kn ++ Y) none (WC cy a (up2 f 4 i (f 4 i + 1)) (up2 r (f 0 i) (f 4 i) x) kn ++ Y) := by
  refine Cm.of [some (.ref (a 1 i)), some (.int x)] pn_X1 rfl (Nat.le_of_ble_eq_true rfl) ?_
  intro p e s m args below meth c A C hE hr hnt hn
  refine r_aload_n C dX1_append_0 rfl ?_
  refine p_get (v := .int (nI (f 4 i))) C 4 (by first | omega | (simp [up2, *]; done) | (simp [up2, *]; omega) | (simp only [up2_eq]; omega)) (by decide) qf_X1_29 rfl rfl dX1_append_1 ?_
  refine r_bipush (v := (nI 12)) C dX1_append_4 (by decide) ?_
  refine r_icN_ge (tgt := 29) C (by first | omega | (simp [up2, *]; done) | (simp [up2, *]; omega) | (simp only [up2_eq]; omega)) (by first | omega | (simp [up2, *]; done) | (simp [up2, *]; omega) | (simp only [up2_eq]; omega)) dX1_append_6 (by decide) (fun h6_1 => ?_) (fun h6_1 => ?_)
  · first
    | exfalso; first | omega | contradiction
    | skip
      exact r_vret C hr dX1_append_29 ⟨rfl, rfl⟩ (Nat.le_of_ble_eq_true rfl) (Nat.le_of_ble_eq_true rfl)
  · first
    | exfalso; first | omega | contradiction
    | skip
      refine r_aload_n C dX1_append_9 rfl ?_
      refine p_get (v := .ref (a 2 (f 0 i))) C 0 (by first | omega | (simp [up2, *]; done) | (simp [up2, *]; omega) | (simp only [up2_eq]; omega)) (by decide) qf_X1_15 rfl rfl dX1_append_10 ?_
      refine r_aload_n C dX1_append_13 rfl ?_
      refine p_get (v := .int (nI (f 4 i))) C 4 (by first | omega | (simp [up2, *]; done) | (simp [up2, *]; omega) | (simp only [up2_eq]; omega)) (by decide) qf_X1_29 rfl rfl dX1_append_14 ?_
      refine r_iload_n C dX1_append_17 rfl ?_
      refine s_iast C (by first | omega | (simp [up2, *]; done) | (simp [up2, *]; omega) | (simp only [up2_eq]; omega)) (by first | omega | (simp [up2, *]; done) | (simp [up2, *]; omega) | (simp only [up2_eq]; omega)) dX1_append_18 ?_
      refine r_aload_n C dX1_append_19 rfl ?_
      refine r_dup C dX1_append_20 rfl ?_
      refine p_get (v := .int (nI (f 4 i))) C 4 (by first | omega | (simp [up2, *]; done) | (simp [up2, *]; omega) | (simp only [up2_eq]; omega)) (by decide) qf_X1_29 rfl rfl dX1_append_21 ?_
      refine r_iconst (v := (nI 1)) C dX1_append_24 (by decide) ?_
      refine r_iaddN C dX1_append_25 ?_
      refine p_put C 4 (by first | omega | (simp [up2, *]; done) | (simp [up2, *]; omega) | (simp only [up2_eq]; omega)) (by decide) (by decide) qf_X1_29 rfl rfl rfl dX1_append_26 ?_
      exact r_vret C hr dX1_append_29 ⟨rfl, rfl⟩ (Nat.le_of_ble_eq_true rfl) (Nat.le_of_ble_eq_true rfl)
theorem dX1_becomeLike_0 : decode cX1_becomeLike 0 = .ok (.aload_n 0, 1) := dqo_42 (kb_of ke_X1_becomeLike 0 rfl)
theorem dX1_becomeLike_1 : decode cX1_becomeLike 1 = .ok (.aload_n 1, 1) := dqo_43 (kb_of ke_X1_becomeLike 1 rfl)
theorem dX1_becomeLike_2 : decode cX1_becomeLike 2 = .ok (.getfield 29, 3) := dqo_180 0 29 (kb_of ke_X1_becomeLike 2 rfl) (kb_of ke_X1_becomeLike 3 rfl) (kb_of ke_X1_becomeLike 4 rfl)
theorem dX1_becomeLike_5 : decode cX1_becomeLike 5 = .ok (.putfield 29, 3) := dqo_181 0 29 (kb_of ke_X1_becomeLike 5 rfl) (kb_of ke_X1_becomeLike 6 rfl) (kb_of ke_X1_becomeLike 7 rfl)
theorem dX1_becomeLike_8 : decode cX1_becomeLike 8 = .ok (.aload_n 1, 1) := dqo_43 (kb_of ke_X1_becomeLike 8 rfl)
theorem dX1_becomeLike_9 : decode cX1_becomeLike 9 = .ok (.getfield 15, 3) := dqo_180 0 15 (kb_of ke_X1_becomeLike 9 rfl) (kb_of ke_X1_becomeLike 10 rfl) (kb_of ke_X1_becomeLike 11 rfl)
theorem dX1_becomeLike_12 : decode cX1_becomeLike 12 = .ok (.aload_n 1, 1) := dqo_43 (kb_of ke_X1_becomeLike 12 rfl)
theorem dX1_becomeLike_13 : decode cX1_becomeLike 13 = .ok (.getfield 26, 3) := dqo_180 0 26 (kb_of ke_X1_becomeLike 13 rfl) (kb_of ke_X1_becomeLike 14 rfl) (kb_of ke_X1_becomeLike 15 rfl)
theorem dX1_becomeLike_16 : decode cX1_becomeLike 16 = .ok (.aload_n 0, 1) := dqo_42 (kb_of ke_X1_becomeLike 16 rfl)
theorem dX1_becomeLike_17 : decode cX1_becomeLike 17 = .ok (.getfield 15, 3) := dqo_180 0 15 (kb_of ke_X1_becomeLike 17 rfl) (kb_of ke_X1_becomeLike 18 rfl) (kb_of ke_X1_becomeLike 19 rfl)
theorem dX1_becomeLike_20 : decode cX1_becomeLike 20 = .ok (.aload_n 0, 1) := dqo_42 (kb_of ke_X1_becomeLike 20 rfl)
theorem dX1_becomeLike_21 : decode cX1_becomeLike 21 = .ok (.getfield 26, 3) := dqo_180 0 26 (kb_of ke_X1_becomeLike 21 rfl) (kb_of ke_X1_becomeLike 22 rfl) (kb_of ke_X1_becomeLike 23 rfl)
theorem dX1_becomeLike_24 : decode cX1_becomeLike 24 = .ok (.aload_n 0, 1) := dqo_42 (kb_of ke_X1_becomeLike 24 rfl)
theorem dX1_becomeLike_25 : decode cX1_becomeLike 25 = .ok (.getfield 29, 3) := dqo_180 0 29 (kb_of ke_X1_becomeLike 25 rfl) (kb_of ke_X1_becomeLike 26 rfl) (kb_of ke_X1_becomeLike 27 rfl)
theorem dX1_becomeLike_28 : decode cX1_becomeLike 28 = .ok (.invokestatic 36, 3) := dqo_184 0 36 (kb_of ke_X1_becomeLike 28 rfl) (kb_of ke_X1_becomeLike 29 rfl) (kb_of ke_X1_becomeLike 30 rfl)
theorem dX1_becomeLike_31 : decode cX1_becomeLike 31 = .ok (.return_, 1) := dqo_177 (kb_of ke_X1_becomeLike 31 rfl)
set_option maxRecDepth 100000 in
set_option maxHeartbeats 4000000 in
theorem C_becomeLike {l : Launch} {D : va_G} {cy : Nat → ClassId} {X : (Nat → Prop) → State → Heap → Prop} {a f : Nat → Nat → Nat} {r : Nat → Nat → Int32} {kn : Int32} {Y : va_W} {i : Nat} {j : Nat} (hX : EnvX X) (hi : i < 11) (hj : j < 11) (h0 : f 0 i < 7) (h0j : f 0 j < 7) (h4j : f 3 j + f 4 j ≤ 12) (h3 : f 3 i + f 4 j ≤ 12) : Cd l D cy X yX1_becomeLike cX1_becomeLike 2 none (rmz 1 40) [.ref (a 1 i), .ref (a 1 j)] (WC cy a f r kn ++ Y) none (WC cy a (up2 f 4 i (f 4 j)) (cpy2 r (f 0 j) (f 3 j) (f 0 i) (f 3 i) (f 4 j)) kn ++ Y) := by
  refine Cm.of [some (.ref (a 1 i)), some (.ref (a 1 j))] pn_X1 rfl (Nat.le_of_ble_eq_true rfl) ?_
  intro p e s m args below meth c A C hE hr hnt hn
  refine r_aload_n C dX1_becomeLike_0 rfl ?_
  refine r_aload_n C dX1_becomeLike_1 rfl ?_
  refine p_get (v := .int (nI (f 4 j))) C 4 (by first | omega | (simp [up2, *]; done) | (simp [up2, *]; omega) | (simp only [up2_eq]; omega)) (by decide) qf_X1_29 rfl rfl dX1_becomeLike_2 ?_
  refine p_put C 4 (by first | omega | (simp [up2, *]; done) | (simp [up2, *]; omega) | (simp only [up2_eq]; omega)) (by decide) (by decide) qf_X1_29 rfl rfl rfl dX1_becomeLike_5 ?_
  refine r_aload_n C dX1_becomeLike_8 rfl ?_
  refine p_get (v := .ref (a 2 (f 0 j))) C 0 (by first | omega | (simp [up2, *]; done) | (simp [up2, *]; omega) | (simp only [up2_eq]; omega)) (by decide) qf_X1_15 rfl rfl dX1_becomeLike_9 ?_
  refine r_aload_n C dX1_becomeLike_12 rfl ?_
  refine p_get (v := .int (nI (f 3 j))) C 3 (by first | omega | (simp [up2, *]; done) | (simp [up2, *]; omega) | (simp only [up2_eq]; omega)) (by decide) qf_X1_26 rfl rfl dX1_becomeLike_13 ?_
  refine r_aload_n C dX1_becomeLike_16 rfl ?_
  refine p_get (v := .ref (a 2 (f 0 i))) C 0 (by first | omega | (simp [up2, *]; done) | (simp [up2, *]; omega) | (simp only [up2_eq]; omega)) (by decide) qf_X1_15 rfl rfl dX1_becomeLike_17 ?_
  refine r_aload_n C dX1_becomeLike_20 rfl ?_
  refine p_get (v := .int (nI (f 3 i))) C 3 (by first | omega | (simp [up2, *]; done) | (simp [up2, *]; omega) | (simp only [up2_eq]; omega)) (by decide) qf_X1_26 rfl rfl dX1_becomeLike_21 ?_
  refine r_aload_n C dX1_becomeLike_24 rfl ?_
  refine p_get (v := .int (nI (f 4 j))) C 4 (by first | omega | (simp [up2, *]; done) | (simp [up2, *]; omega) | (simp only [up2_eq]; omega)) (by decide) qf_X1_29 rfl (by simp [pV, up2, *]) dX1_becomeLike_25 ?_
  refine s_copy (j0 := (f 0 j)) (j1 := (f 0 i)) (sp := (f 3 j)) (dp := (f 3 i)) (n := (f 4 j)) (st := []) C qm_X1_36 (by first | omega | (simp [up2, *]; done) | (simp [up2, *]; omega) | (simp only [up2_eq]; omega)) (by first | omega | (simp [up2, *]; done) | (simp [up2, *]; omega) | (simp only [up2_eq]; omega)) (by first | omega | (simp [up2, *]; done) | (simp [up2, *]; omega) | (simp only [up2_eq]; omega)) (by first | omega | (simp [up2, *]; done) | (simp [up2, *]; omega) | (simp only [up2_eq]; omega)) (by decide) (Nat.le_of_ble_eq_true rfl) dX1_becomeLike_28 ?_
  exact r_vret C hr dX1_becomeLike_31 ⟨rfl, rfl⟩ (Nat.le_of_ble_eq_true rfl) (Nat.le_of_ble_eq_true rfl)
theorem pk_X1_putAt : PkV RX1 yX1_putAt cX1_putAt 3 none 2 := ⟨⟨qi_X1_putAt, qs_X1_putAt, qz_X1, qc_X1_putAt⟩, rfl, mh_X1.1, mh_X1.2, pd_2⟩
theorem dX1_exchangeTwo_0 : decode cX1_exchangeTwo 0 = .ok (.aload_n 0, 1) := dqo_42 (kb_of ke_X1_exchangeTwo 0 rfl)
theorem dX1_exchangeTwo_1 : decode cX1_exchangeTwo 1 = .ok (.iload_n 1, 1) := dqo_27 (kb_of ke_X1_exchangeTwo 1 rfl)
theorem dX1_exchangeTwo_2 : decode cX1_exchangeTwo 2 = .ok (.invokevirtual 32, 3) := dqo_182 0 32 (kb_of ke_X1_exchangeTwo 2 rfl) (kb_of ke_X1_exchangeTwo 3 rfl) (kb_of ke_X1_exchangeTwo 4 rfl)
theorem dX1_exchangeTwo_5 : decode cX1_exchangeTwo 5 = .ok (.istore_n 3, 1) := dqo_62 (kb_of ke_X1_exchangeTwo 5 rfl)
theorem dX1_exchangeTwo_6 : decode cX1_exchangeTwo 6 = .ok (.aload_n 0, 1) := dqo_42 (kb_of ke_X1_exchangeTwo 6 rfl)
theorem dX1_exchangeTwo_7 : decode cX1_exchangeTwo 7 = .ok (.iload_n 1, 1) := dqo_27 (kb_of ke_X1_exchangeTwo 7 rfl)
theorem dX1_exchangeTwo_8 : decode cX1_exchangeTwo 8 = .ok (.aload_n 0, 1) := dqo_42 (kb_of ke_X1_exchangeTwo 8 rfl)
theorem dX1_exchangeTwo_9 : decode cX1_exchangeTwo 9 = .ok (.iload_n 2, 1) := dqo_28 (kb_of ke_X1_exchangeTwo 9 rfl)
theorem dX1_exchangeTwo_10 : decode cX1_exchangeTwo 10 = .ok (.invokevirtual 32, 3) := dqo_182 0 32 (kb_of ke_X1_exchangeTwo 10 rfl) (kb_of ke_X1_exchangeTwo 11 rfl) (kb_of ke_X1_exchangeTwo 12 rfl)
theorem dX1_exchangeTwo_13 : decode cX1_exchangeTwo 13 = .ok (.invokevirtual 42, 3) := dqo_182 0 42 (kb_of ke_X1_exchangeTwo 13 rfl) (kb_of ke_X1_exchangeTwo 14 rfl) (kb_of ke_X1_exchangeTwo 15 rfl)
theorem dX1_exchangeTwo_16 : decode cX1_exchangeTwo 16 = .ok (.aload_n 0, 1) := dqo_42 (kb_of ke_X1_exchangeTwo 16 rfl)
theorem dX1_exchangeTwo_17 : decode cX1_exchangeTwo 17 = .ok (.iload_n 2, 1) := dqo_28 (kb_of ke_X1_exchangeTwo 17 rfl)
theorem dX1_exchangeTwo_18 : decode cX1_exchangeTwo 18 = .ok (.iload_n 3, 1) := dqo_29 (kb_of ke_X1_exchangeTwo 18 rfl)
theorem dX1_exchangeTwo_19 : decode cX1_exchangeTwo 19 = .ok (.invokevirtual 42, 3) := dqo_182 0 42 (kb_of ke_X1_exchangeTwo 19 rfl) (kb_of ke_X1_exchangeTwo 20 rfl) (kb_of ke_X1_exchangeTwo 21 rfl)
theorem dX1_exchangeTwo_22 : decode cX1_exchangeTwo 22 = .ok (.return_, 1) := dqo_177 (kb_of ke_X1_exchangeTwo 22 rfl)
set_option maxRecDepth 100000 in
set_option maxHeartbeats 4000000 in
theorem C_exchangeTwo {l : Launch} {D : va_G} {cy : Nat → ClassId} {X : (Nat → Prop) → State → Heap → Prop} {a f : Nat → Nat → Nat} {r : Nat → Nat → Int32} {kn : Int32} {Y : va_W} {i : Nat} {k1 : Nat} {k2 : Nat} (hX : EnvX X) (hi : i < 11) (h0 : f 0 i < 7) (hk1 : f 3 i + k1 < 12) (hk2 : f 3 i + k2 < 12) : Cd l D cy X yX1_exchangeTwo cX1_exchangeTwo 4 none (rmz 1 30) [.ref (a 1 i), .int (nI k1), .int (nI k2)] (WC cy a f r kn ++ Y) none (WC cy a f (exch2 r (f 0 i) (f 3 i + k1) (f 3 i + k2)) kn ++ Y) := by
  refine Cm.of [some (.ref (a 1 i)), some (.int (nI k1)), some (.int (nI k2)), none] pn_X1 rfl (Nat.le_of_ble_eq_true rfl) ?_
  intro p e s m args below meth c A C hE hr hnt hn
  refine r_aload_n C dX1_exchangeTwo_0 rfl ?_
  refine r_iload_n C dX1_exchangeTwo_1 rfl ?_
  refine d_V (st := []) hX.stb C hE (C_itemAt (f := f) (r := r) (kn := kn) (i := i) (k := k1) hX (by first | omega | (simp [up2, *]; done) | (simp [up2, *]; omega) | (simp only [up2_eq]; omega)) (by first | omega | (simp [up2, *]; done) | (simp [up2, *]; omega) | (simp only [up2_eq]; omega)) (by first | omega | (simp [up2, *]; done) | (simp [up2, *]; omega) | (simp only [up2_eq]; omega))) pk_X1_itemAt qm_X1_32 (3 + i) 5 rfl rfl (wc_p (by first | omega | (simp [up2, *]; done) | (simp [up2, *]; omega) | (simp only [up2_eq]; omega))) rfl rfl (Nat.le_of_ble_eq_true rfl) dX1_exchangeTwo_2 ⟨Nat.le_of_ble_eq_true rfl, Nat.le_of_ble_eq_true rfl⟩ ⟨Nat.le_of_ble_eq_true rfl, Nat.le_of_ble_eq_true rfl⟩ ?_
  refine r_istore_n C dX1_exchangeTwo_5 (by decide) rfl ?_
  refine r_aload_n C dX1_exchangeTwo_6 rfl ?_
  refine r_iload_n C dX1_exchangeTwo_7 rfl ?_
  refine r_aload_n C dX1_exchangeTwo_8 rfl ?_
  refine r_iload_n C dX1_exchangeTwo_9 rfl ?_
  refine d_V (st := [.int (nI k1), .ref (a 1 i)]) hX.stb C hE (C_itemAt (f := f) (r := r) (kn := kn) (i := i) (k := k2) hX (by first | omega | (simp [up2, *]; done) | (simp [up2, *]; omega) | (simp only [up2_eq]; omega)) (by first | omega | (simp [up2, *]; done) | (simp [up2, *]; omega) | (simp only [up2_eq]; omega)) (by first | omega | (simp [up2, *]; done) | (simp [up2, *]; omega) | (simp only [up2_eq]; omega))) pk_X1_itemAt qm_X1_32 (3 + i) 5 rfl rfl (wc_p (by first | omega | (simp [up2, *]; done) | (simp [up2, *]; omega) | (simp only [up2_eq]; omega))) rfl rfl (Nat.le_of_ble_eq_true rfl) dX1_exchangeTwo_10 ⟨Nat.le_of_ble_eq_true rfl, Nat.le_of_ble_eq_true rfl⟩ ⟨Nat.le_of_ble_eq_true rfl, Nat.le_of_ble_eq_true rfl⟩ ?_
  refine d_Vv (st := []) hX.stb C hE (C_putAt (f := f) (r := r) (kn := kn) (i := i) (k := k1) (x := ((r (f 0 i) (f 3 i + k2)))) hX (by first | omega | (simp [up2, *]; done) | (simp [up2, *]; omega) | (simp only [up2_eq]; omega)) (by first | omega | (simp [up2, *]; done) | (simp [up2, *]; omega) | (simp only [up2_eq]; omega)) (by first | omega | (simp [up2, *]; done) | (simp [up2, *]; omega) | (simp only [up2_eq]; omega))) pk_X1_putAt qm_X1_42 (3 + i) 5 rfl rfl (wc_p (by first | omega | (simp [up2, *]; done) | (simp [up2, *]; omega) | (simp only [up2_eq]; omega))) rfl rfl (Nat.le_of_ble_eq_true rfl) dX1_exchangeTwo_13 ⟨Nat.le_of_ble_eq_true rfl, Nat.le_of_ble_eq_true rfl⟩ ⟨Nat.le_of_ble_eq_true rfl, Nat.le_of_ble_eq_true rfl⟩ ?_
  refine r_aload_n C dX1_exchangeTwo_16 rfl ?_
  refine r_iload_n C dX1_exchangeTwo_17 rfl ?_
  refine r_iload_n C dX1_exchangeTwo_18 rfl ?_
  refine d_Vv (st := []) hX.stb C hE (C_putAt (f := f) (r := (up2 r (f 0 i) (f 3 i + k1) ((r (f 0 i) (f 3 i + k2))))) (kn := kn) (i := i) (k := k2) (x := ((r (f 0 i) (f 3 i + k1)))) hX (by first | omega | (simp [up2, *]; done) | (simp [up2, *]; omega) | (simp only [up2_eq]; omega)) (by first | omega | (simp [up2, *]; done) | (simp [up2, *]; omega) | (simp only [up2_eq]; omega)) (by first | omega | (simp [up2, *]; done) | (simp [up2, *]; omega) | (simp only [up2_eq]; omega))) pk_X1_putAt qm_X1_42 (3 + i) 5 rfl rfl (wc_p (by first | omega | (simp [up2, *]; done) | (simp [up2, *]; omega) | (simp only [up2_eq]; omega))) rfl rfl (Nat.le_of_ble_eq_true rfl) dX1_exchangeTwo_19 ⟨Nat.le_of_ble_eq_true rfl, Nat.le_of_ble_eq_true rfl⟩ ⟨Nat.le_of_ble_eq_true rfl, Nat.le_of_ble_eq_true rfl⟩ ?_
  exact r_vret C hr dX1_exchangeTwo_22 ⟨rfl, rfl⟩ (Nat.le_of_ble_eq_true rfl) (Nat.le_of_ble_eq_true rfl)
theorem dX1_lookAt_0 : decode cX1_lookAt 0 = .ok (.aload_n 0, 1) := dqo_42 (kb_of ke_X1_lookAt 0 rfl)
theorem dX1_lookAt_1 : decode cX1_lookAt 1 = .ok (.aload_n 1, 1) := dqo_43 (kb_of ke_X1_lookAt 1 rfl)
theorem dX1_lookAt_2 : decode cX1_lookAt 2 = .ok (.getfield 15, 3) := dqo_180 0 15 (kb_of ke_X1_lookAt 2 rfl) (kb_of ke_X1_lookAt 3 rfl) (kb_of ke_X1_lookAt 4 rfl)
theorem dX1_lookAt_5 : decode cX1_lookAt 5 = .ok (.putfield 15, 3) := dqo_181 0 15 (kb_of ke_X1_lookAt 5 rfl) (kb_of ke_X1_lookAt 6 rfl) (kb_of ke_X1_lookAt 7 rfl)
theorem dX1_lookAt_8 : decode cX1_lookAt 8 = .ok (.aload_n 0, 1) := dqo_42 (kb_of ke_X1_lookAt 8 rfl)
theorem dX1_lookAt_9 : decode cX1_lookAt 9 = .ok (.aload_n 1, 1) := dqo_43 (kb_of ke_X1_lookAt 9 rfl)
theorem dX1_lookAt_10 : decode cX1_lookAt 10 = .ok (.getfield 9, 3) := dqo_180 0 9 (kb_of ke_X1_lookAt 10 rfl) (kb_of ke_X1_lookAt 11 rfl) (kb_of ke_X1_lookAt 12 rfl)
theorem dX1_lookAt_13 : decode cX1_lookAt 13 = .ok (.putfield 9, 3) := dqo_181 0 9 (kb_of ke_X1_lookAt 13 rfl) (kb_of ke_X1_lookAt 14 rfl) (kb_of ke_X1_lookAt 15 rfl)
theorem dX1_lookAt_16 : decode cX1_lookAt 16 = .ok (.aload_n 0, 1) := dqo_42 (kb_of ke_X1_lookAt 16 rfl)
theorem dX1_lookAt_17 : decode cX1_lookAt 17 = .ok (.iload_n 2, 1) := dqo_28 (kb_of ke_X1_lookAt 17 rfl)
theorem dX1_lookAt_18 : decode cX1_lookAt 18 = .ok (.putfield 23, 3) := dqo_181 0 23 (kb_of ke_X1_lookAt 18 rfl) (kb_of ke_X1_lookAt 19 rfl) (kb_of ke_X1_lookAt 20 rfl)
theorem dX1_lookAt_21 : decode cX1_lookAt 21 = .ok (.aload_n 0, 1) := dqo_42 (kb_of ke_X1_lookAt 21 rfl)
theorem dX1_lookAt_22 : decode cX1_lookAt 22 = .ok (.aload_n 1, 1) := dqo_43 (kb_of ke_X1_lookAt 22 rfl)
theorem dX1_lookAt_23 : decode cX1_lookAt 23 = .ok (.getfield 26, 3) := dqo_180 0 26 (kb_of ke_X1_lookAt 23 rfl) (kb_of ke_X1_lookAt 24 rfl) (kb_of ke_X1_lookAt 25 rfl)
theorem dX1_lookAt_26 : decode cX1_lookAt 26 = .ok (.iload_n 3, 1) := dqo_29 (kb_of ke_X1_lookAt 26 rfl)
theorem dX1_lookAt_27 : decode cX1_lookAt 27 = .ok (.iadd, 1) := dqo_96 (kb_of ke_X1_lookAt 27 rfl)
theorem dX1_lookAt_28 : decode cX1_lookAt 28 = .ok (.putfield 26, 3) := dqo_181 0 26 (kb_of ke_X1_lookAt 28 rfl) (kb_of ke_X1_lookAt 29 rfl) (kb_of ke_X1_lookAt 30 rfl)
theorem dX1_lookAt_31 : decode cX1_lookAt 31 = .ok (.aload_n 0, 1) := dqo_42 (kb_of ke_X1_lookAt 31 rfl)
theorem dX1_lookAt_32 : decode cX1_lookAt 32 = .ok (.iload 4, 2) := dqo_21 4 (kb_of ke_X1_lookAt 32 rfl) (kb_of ke_X1_lookAt 33 rfl)
theorem dX1_lookAt_34 : decode cX1_lookAt 34 = .ok (.iload_n 3, 1) := dqo_29 (kb_of ke_X1_lookAt 34 rfl)
theorem dX1_lookAt_35 : decode cX1_lookAt 35 = .ok (.isub, 1) := dqo_100 (kb_of ke_X1_lookAt 35 rfl)
theorem dX1_lookAt_36 : decode cX1_lookAt 36 = .ok (.putfield 29, 3) := dqo_181 0 29 (kb_of ke_X1_lookAt 36 rfl) (kb_of ke_X1_lookAt 37 rfl) (kb_of ke_X1_lookAt 38 rfl)
theorem dX1_lookAt_39 : decode cX1_lookAt 39 = .ok (.aload_n 0, 1) := dqo_42 (kb_of ke_X1_lookAt 39 rfl)
theorem dX1_lookAt_40 : decode cX1_lookAt 40 = .ok (.iconst 1, 1) := dqo_4 (kb_of ke_X1_lookAt 40 rfl)
theorem dX1_lookAt_41 : decode cX1_lookAt 41 = .ok (.putfield 19, 3) := dqo_181 0 19 (kb_of ke_X1_lookAt 41 rfl) (kb_of ke_X1_lookAt 42 rfl) (kb_of ke_X1_lookAt 43 rfl)
theorem dX1_lookAt_44 : decode cX1_lookAt 44 = .ok (.return_, 1) := dqo_177 (kb_of ke_X1_lookAt 44 rfl)
set_option maxRecDepth 100000 in
set_option maxHeartbeats 4000000 in
theorem C_lookAt {l : Launch} {D : va_G} {cy : Nat → ClassId} {X : (Nat → Prop) → State → Heap → Prop} {a f : Nat → Nat → Nat} {r : Nat → Nat → Int32} {kn : Int32} {Y : va_W} {i : Nat} {j : Nat} {w : Nat} {p0 : Nat} {q0 : Nat} (hX : EnvX X) (hi : i < 11) (hj : j < 11) (hp : p0 ≤ q0) : Cd l D cy X yX1_lookAt cX1_lookAt 5 none (rmz 0 0) [.ref (a 1 i), .ref (a 1 j), .int (nI w), .int (nI p0), .int (nI q0)] (WC cy a f r kn ++ Y) none (WC cy a (up2 (up2 (up2 (up2 (up2 (up2 f 0 i (f 0 j)) 1 i (f 1 j)) 2 i w) 3 i (f 3 j + p0)) 4 i (q0 - p0)) 5 i 1) r kn ++ Y) := by
  refine Cm.of [some (.ref (a 1 i)), some (.ref (a 1 j)), some (.int (nI w)), some (.int (nI p0)), some (.int (nI q0))] pn_X1 rfl (Nat.le_of_ble_eq_true rfl) ?_
  intro p e s m args below meth c A C hE hr hnt hn
  refine r_aload_n C dX1_lookAt_0 rfl ?_
  refine r_aload_n C dX1_lookAt_1 rfl ?_
  refine p_get (v := .ref (a 2 (f 0 j))) C 0 (by first | omega | (simp [up2, *]; done) | (simp [up2, *]; omega) | (simp only [up2_eq]; omega)) (by decide) qf_X1_15 rfl rfl dX1_lookAt_2 ?_
  refine p_putR C (by first | omega | (simp [up2, *]; done) | (simp [up2, *]; omega) | (simp only [up2_eq]; omega)) qf_X1_15 dX1_lookAt_5 ?_
  refine r_aload_n C dX1_lookAt_8 rfl ?_
  refine r_aload_n C dX1_lookAt_9 rfl ?_
  refine p_get (v := .int (nI (f 1 j))) C 1 (by first | omega | (simp [up2, *]; done) | (simp [up2, *]; omega) | (simp only [up2_eq]; omega)) (by decide) qf_X1_9 rfl rfl dX1_lookAt_10 ?_
  refine p_put C 1 (by first | omega | (simp [up2, *]; done) | (simp [up2, *]; omega) | (simp only [up2_eq]; omega)) (by decide) (by decide) qf_X1_9 rfl rfl rfl dX1_lookAt_13 ?_
  refine r_aload_n C dX1_lookAt_16 rfl ?_
  refine r_iload_n C dX1_lookAt_17 rfl ?_
  refine p_put C 2 (by first | omega | (simp [up2, *]; done) | (simp [up2, *]; omega) | (simp only [up2_eq]; omega)) (by decide) (by decide) qf_X1_23 rfl rfl rfl dX1_lookAt_18 ?_
  refine r_aload_n C dX1_lookAt_21 rfl ?_
  refine r_aload_n C dX1_lookAt_22 rfl ?_
  refine p_get (v := .int (nI (f 3 j))) C 3 (by first | omega | (simp [up2, *]; done) | (simp [up2, *]; omega) | (simp only [up2_eq]; omega)) (by decide) qf_X1_26 rfl rfl dX1_lookAt_23 ?_
  refine r_iload_n C dX1_lookAt_26 rfl ?_
  refine r_iaddN C dX1_lookAt_27 ?_
  refine p_put C 3 (by first | omega | (simp [up2, *]; done) | (simp [up2, *]; omega) | (simp only [up2_eq]; omega)) (by decide) (by decide) qf_X1_26 rfl rfl rfl dX1_lookAt_28 ?_
  refine r_aload_n C dX1_lookAt_31 rfl ?_
  refine r_iload C dX1_lookAt_32 rfl ?_
  refine r_iload_n C dX1_lookAt_34 rfl ?_
  refine r_isubN C dX1_lookAt_35 (by first | omega | (simp [up2, *]; done) | (simp [up2, *]; omega) | (simp only [up2_eq]; omega)) ?_
  refine p_put C 4 (by first | omega | (simp [up2, *]; done) | (simp [up2, *]; omega) | (simp only [up2_eq]; omega)) (by decide) (by decide) qf_X1_29 rfl rfl rfl dX1_lookAt_36 ?_
  refine r_aload_n C dX1_lookAt_39 rfl ?_
  refine r_iconst (v := (nI 1)) C dX1_lookAt_40 (by decide) ?_
  refine p_putZ C (by first | omega | (simp [up2, *]; done) | (simp [up2, *]; omega) | (simp only [up2_eq]; omega)) (by first | omega | (simp [up2, *]; done) | (simp [up2, *]; omega) | (simp only [up2_eq]; omega)) qf_X1_19 dX1_lookAt_41 ?_
  exact r_vret C hr dX1_lookAt_44 ⟨rfl, rfl⟩ (Nat.le_of_ble_eq_true rfl) (Nat.le_of_ble_eq_true rfl)
theorem dX1_firstPlaceOf_0 : decode cX1_firstPlaceOf 0 = .ok (.iconst 0, 1) := dqo_3 (kb_of ke_X1_firstPlaceOf 0 rfl)
theorem dX1_firstPlaceOf_1 : decode cX1_firstPlaceOf 1 = .ok (.istore_n 2, 1) := dqo_61 (kb_of ke_X1_firstPlaceOf 1 rfl)
theorem dX1_firstPlaceOf_2 : decode cX1_firstPlaceOf 2 = .ok (.iload_n 2, 1) := dqo_28 (kb_of ke_X1_firstPlaceOf 2 rfl)
theorem dX1_firstPlaceOf_3 : decode cX1_firstPlaceOf 3 = .ok (.aload_n 0, 1) := dqo_42 (kb_of ke_X1_firstPlaceOf 3 rfl)
theorem dX1_firstPlaceOf_4 : decode cX1_firstPlaceOf 4 = .ok (.getfield 29, 3) := dqo_180 0 29 (kb_of ke_X1_firstPlaceOf 4 rfl) (kb_of ke_X1_firstPlaceOf 5 rfl) (kb_of ke_X1_firstPlaceOf 6 rfl)
theorem dX1_firstPlaceOf_7 : decode cX1_firstPlaceOf 7 = .ok (.if_icmp .ge 20, 3) := dqo_162 0 20 (by decide) (kb_of ke_X1_firstPlaceOf 7 rfl) (kb_of ke_X1_firstPlaceOf 8 rfl) (kb_of ke_X1_firstPlaceOf 9 rfl)
theorem dX1_firstPlaceOf_10 : decode cX1_firstPlaceOf 10 = .ok (.aload_n 0, 1) := dqo_42 (kb_of ke_X1_firstPlaceOf 10 rfl)
theorem dX1_firstPlaceOf_11 : decode cX1_firstPlaceOf 11 = .ok (.iload_n 2, 1) := dqo_28 (kb_of ke_X1_firstPlaceOf 11 rfl)
theorem dX1_firstPlaceOf_12 : decode cX1_firstPlaceOf 12 = .ok (.invokevirtual 32, 3) := dqo_182 0 32 (kb_of ke_X1_firstPlaceOf 12 rfl) (kb_of ke_X1_firstPlaceOf 13 rfl) (kb_of ke_X1_firstPlaceOf 14 rfl)
theorem dX1_firstPlaceOf_15 : decode cX1_firstPlaceOf 15 = .ok (.iload_n 1, 1) := dqo_27 (kb_of ke_X1_firstPlaceOf 15 rfl)
theorem dX1_firstPlaceOf_16 : decode cX1_firstPlaceOf 16 = .ok (.if_icmp .ne 5, 3) := dqo_160 0 5 (by decide) (kb_of ke_X1_firstPlaceOf 16 rfl) (kb_of ke_X1_firstPlaceOf 17 rfl) (kb_of ke_X1_firstPlaceOf 18 rfl)
theorem dX1_firstPlaceOf_19 : decode cX1_firstPlaceOf 19 = .ok (.iload_n 2, 1) := dqo_28 (kb_of ke_X1_firstPlaceOf 19 rfl)
theorem dX1_firstPlaceOf_20 : decode cX1_firstPlaceOf 20 = .ok (.ireturn, 1) := dqo_172 (kb_of ke_X1_firstPlaceOf 20 rfl)
theorem dX1_firstPlaceOf_21 : decode cX1_firstPlaceOf 21 = .ok (.iinc 2 1, 3) := dqo_132 2 1 (by decide) (kb_of ke_X1_firstPlaceOf 21 rfl) (kb_of ke_X1_firstPlaceOf 22 rfl) (kb_of ke_X1_firstPlaceOf 23 rfl)
theorem dX1_firstPlaceOf_24 : decode cX1_firstPlaceOf 24 = .ok (.goto (-22), 3) := dqo_167 255 234 (by decide) (kb_of ke_X1_firstPlaceOf 24 rfl) (kb_of ke_X1_firstPlaceOf 25 rfl) (kb_of ke_X1_firstPlaceOf 26 rfl)
theorem dX1_firstPlaceOf_27 : decode cX1_firstPlaceOf 27 = .ok (.iconst (-1), 1) := dqo_2 (kb_of ke_X1_firstPlaceOf 27 rfl)
theorem dX1_firstPlaceOf_28 : decode cX1_firstPlaceOf 28 = .ok (.ireturn, 1) := dqo_172 (kb_of ke_X1_firstPlaceOf 28 rfl)
set_option maxRecDepth 100000 in
set_option maxHeartbeats 4000000 in
theorem C_firstPlaceOf {l : Launch} {D : va_G} {cy : Nat → ClassId} {X : (Nat → Prop) → State → Heap → Prop} {a f : Nat → Nat → Nat} {r : Nat → Nat → Int32} {kn : Int32} {Y : va_W} {i : Nat} {x : Int32} (hX : EnvX X) (hi : i < 11) (h0 : f 0 i < 7) (h4 : f 3 i + f 4 i ≤ 12) : Cd l D cy X yX1_firstPlaceOf cX1_firstPlaceOf 3 (some .int) (rmz 1 30) [.ref (a 1 i), .int x] (WC cy a f r kn ++ Y) (some (.int (nI (fpF (fun q => r (f 0 i) (f 3 i + q)) x (f 4 i) 0)))) (WC cy a f r kn ++ Y) := by
  refine Cm.of [some (.ref (a 1 i)), some (.int x), none] pn_X1 rfl (Nat.le_of_ble_eq_true rfl) ?_
  intro p e s m args below meth c A C hE hr hnt hn
  refine r_iconst (v := (nI 0)) C dX1_firstPlaceOf_0 (by decide) ?_
  refine r_istore_n C dX1_firstPlaceOf_1 (by decide) rfl ?_
  have L2 : ∀ (d : Nat) (k : Nat), (hk : k + d = f 4 i) → (hF : fpF (fun q => r (f 0 i) (f 3 i + q)) x d k = fpF (fun q => r (f 0 i) (f 3 i + q)) x (f 4 i) 0) → vC p l e (rmz 1 30) s m args below meth c D A (vx_MQ below (vG (fun v1 w1 => v1 = (some (.int (nI (fpF (fun q => r (f 0 i) (f 3 i + q)) x (f 4 i) 0)))) ∧ w1 = WC cy a f r kn ++ Y) D vwCl A) (vGX (fun _ => False) D vwCl (WC cy a f r kn ++ Y) A) args s (rmz 1 30).cells (rmz 1 30).slots A) 3 0 0 (WC cy a f r kn ++ Y) [some (.ref (a 1 i)), some (.int x), some (.int (nI k))] 2 [] := by
    intro d
    induction d with
    | zero =>
      intro k hk hF
      refine r_iload_n C dX1_firstPlaceOf_2 rfl ?_
      refine r_aload_n C dX1_firstPlaceOf_3 rfl ?_
      refine p_get (v := .int (nI (f 4 i))) C 4 (by first | omega | (simp [up2, *]; done) | (simp [up2, *]; omega) | (simp only [up2_eq]; omega)) (by decide) qf_X1_29 rfl rfl dX1_firstPlaceOf_4 ?_
      refine r_icN_ge (tgt := 27) C (by first | omega | (simp [up2, *]; done) | (simp [up2, *]; omega) | (simp only [up2_eq]; omega)) (by first | omega | (simp [up2, *]; done) | (simp [up2, *]; omega) | (simp only [up2_eq]; omega)) dX1_firstPlaceOf_7 (by decide) (fun h7_1 => ?_) (fun h7_1 => ?_)
      · first
        | exfalso; first | omega | contradiction
        | skip
          refine r_iconst (v := (nI 4294967295)) C dX1_firstPlaceOf_27 (by decide) ?_
          exact r_iret C hr dX1_firstPlaceOf_28 ⟨by rw [← hF]; simp [fpF, *], rfl⟩ (Nat.le_of_ble_eq_true rfl) (Nat.le_of_ble_eq_true rfl)
      · first
        | exfalso; first | omega | contradiction
        | skip
          refine r_aload_n C dX1_firstPlaceOf_10 rfl ?_
          refine r_iload_n C dX1_firstPlaceOf_11 rfl ?_
          refine d_V (st := []) hX.stb C hE (C_itemAt (f := f) (r := r) (kn := kn) (i := i) (k := k) hX (by first | omega | (simp [up2, *]; done) | (simp [up2, *]; omega) | (simp only [up2_eq]; omega)) (by first | omega | (simp [up2, *]; done) | (simp [up2, *]; omega) | (simp only [up2_eq]; omega)) (by first | omega | (simp [up2, *]; done) | (simp [up2, *]; omega) | (simp only [up2_eq]; omega))) pk_X1_itemAt qm_X1_32 (3 + i) 5 rfl rfl (wc_p (by first | omega | (simp [up2, *]; done) | (simp [up2, *]; omega) | (simp only [up2_eq]; omega))) rfl rfl (Nat.le_of_ble_eq_true rfl) dX1_firstPlaceOf_12 ⟨Nat.le_of_ble_eq_true rfl, Nat.le_of_ble_eq_true rfl⟩ ⟨Nat.le_of_ble_eq_true rfl, Nat.le_of_ble_eq_true rfl⟩ ?_
          refine r_iload_n C dX1_firstPlaceOf_15 rfl ?_
          refine r_ic_ne (tgt := 21) C dX1_firstPlaceOf_16 (by decide) (fun h16_2 => ?_) (fun h16_2 => ?_)
          · first
            | exfalso; first | omega | contradiction
            | skip
              refine r_iincN C dX1_firstPlaceOf_21 rfl (by decide) rfl ?_
              refine r_goto (tgt := 2) C dX1_firstPlaceOf_24 (by decide) ?_
              exact (Nat.not_lt_zero _ (by omega)).elim
          · first
            | exfalso; first | omega | contradiction
            | skip
              refine r_iload_n C dX1_firstPlaceOf_19 rfl ?_
              exact r_iret C hr dX1_firstPlaceOf_20 ⟨by rw [← hF]; simp [fpF, *], rfl⟩ (Nat.le_of_ble_eq_true rfl) (Nat.le_of_ble_eq_true rfl)
    | succ d ih_L2 =>
      intro k hk hF
      refine r_iload_n C dX1_firstPlaceOf_2 rfl ?_
      refine r_aload_n C dX1_firstPlaceOf_3 rfl ?_
      refine p_get (v := .int (nI (f 4 i))) C 4 (by first | omega | (simp [up2, *]; done) | (simp [up2, *]; omega) | (simp only [up2_eq]; omega)) (by decide) qf_X1_29 rfl rfl dX1_firstPlaceOf_4 ?_
      refine r_icN_ge (tgt := 27) C (by first | omega | (simp [up2, *]; done) | (simp [up2, *]; omega) | (simp only [up2_eq]; omega)) (by first | omega | (simp [up2, *]; done) | (simp [up2, *]; omega) | (simp only [up2_eq]; omega)) dX1_firstPlaceOf_7 (by decide) (fun h7_3 => ?_) (fun h7_3 => ?_)
      · first
        | exfalso; first | omega | contradiction
        | skip
          refine r_iconst (v := (nI 4294967295)) C dX1_firstPlaceOf_27 (by decide) ?_
          exact r_iret C hr dX1_firstPlaceOf_28 ⟨by rw [← hF]; simp [fpF, *], rfl⟩ (Nat.le_of_ble_eq_true rfl) (Nat.le_of_ble_eq_true rfl)
      · first
        | exfalso; first | omega | contradiction
        | skip
          refine r_aload_n C dX1_firstPlaceOf_10 rfl ?_
          refine r_iload_n C dX1_firstPlaceOf_11 rfl ?_
          refine d_V (st := []) hX.stb C hE (C_itemAt (f := f) (r := r) (kn := kn) (i := i) (k := k) hX (by first | omega | (simp [up2, *]; done) | (simp [up2, *]; omega) | (simp only [up2_eq]; omega)) (by first | omega | (simp [up2, *]; done) | (simp [up2, *]; omega) | (simp only [up2_eq]; omega)) (by first | omega | (simp [up2, *]; done) | (simp [up2, *]; omega) | (simp only [up2_eq]; omega))) pk_X1_itemAt qm_X1_32 (3 + i) 5 rfl rfl (wc_p (by first | omega | (simp [up2, *]; done) | (simp [up2, *]; omega) | (simp only [up2_eq]; omega))) rfl rfl (Nat.le_of_ble_eq_true rfl) dX1_firstPlaceOf_12 ⟨Nat.le_of_ble_eq_true rfl, Nat.le_of_ble_eq_true rfl⟩ ⟨Nat.le_of_ble_eq_true rfl, Nat.le_of_ble_eq_true rfl⟩ ?_
          refine r_iload_n C dX1_firstPlaceOf_15 rfl ?_
          refine r_ic_ne (tgt := 21) C dX1_firstPlaceOf_16 (by decide) (fun h16_4 => ?_) (fun h16_4 => ?_)
          · first
            | exfalso; first | omega | contradiction
            | skip
              refine r_iincN C dX1_firstPlaceOf_21 rfl (by decide) rfl ?_
              refine r_goto (tgt := 2) C dX1_firstPlaceOf_24 (by decide) ?_
              exact ih_L2 (k + 1) (by first | omega | (simp [up2, *]; done) | (simp [up2, *]; omega) | (simp only [up2_eq]; omega)) (by rw [← hF]; simp only [fpF]; rw [if_neg (by assumption)])
          · first
            | exfalso; first | omega | contradiction
            | skip
              refine r_iload_n C dX1_firstPlaceOf_19 rfl ?_
              exact r_iret C hr dX1_firstPlaceOf_20 ⟨by rw [← hF]; simp [fpF, *], rfl⟩ (Nat.le_of_ble_eq_true rfl) (Nat.le_of_ble_eq_true rfl)
  exact L2 (f 4 i) 0 (by first | omega | (simp [up2, *]; done) | (simp [up2, *]; omega) | (simp only [up2_eq]; omega)) rfl
theorem pk_X1_firstPlaceOf : PkV RX1 yX1_firstPlaceOf cX1_firstPlaceOf 3 (some .int) 1 := ⟨⟨qi_X1_firstPlaceOf, qs_X1_firstPlaceOf, qz_X1, qc_X1_firstPlaceOf⟩, rfl, mh_X1.1, mh_X1.2, pd_1⟩
theorem dX1_has_0 : decode cX1_has 0 = .ok (.aload_n 0, 1) := dqo_42 (kb_of ke_X1_has 0 rfl)
theorem dX1_has_1 : decode cX1_has 1 = .ok (.iload_n 1, 1) := dqo_27 (kb_of ke_X1_has 1 rfl)
theorem dX1_has_2 : decode cX1_has 2 = .ok (.invokevirtual 62, 3) := dqo_182 0 62 (kb_of ke_X1_has 2 rfl) (kb_of ke_X1_has 3 rfl) (kb_of ke_X1_has 4 rfl)
theorem dX1_has_5 : decode cX1_has 5 = .ok (.iconst (-1), 1) := dqo_2 (kb_of ke_X1_has 5 rfl)
theorem dX1_has_6 : decode cX1_has 6 = .ok (.if_icmp .eq 7, 3) := dqo_159 0 7 (by decide) (kb_of ke_X1_has 6 rfl) (kb_of ke_X1_has 7 rfl) (kb_of ke_X1_has 8 rfl)
theorem dX1_has_9 : decode cX1_has 9 = .ok (.iconst 1, 1) := dqo_4 (kb_of ke_X1_has 9 rfl)
theorem dX1_has_10 : decode cX1_has 10 = .ok (.goto 4, 3) := dqo_167 0 4 (by decide) (kb_of ke_X1_has 10 rfl) (kb_of ke_X1_has 11 rfl) (kb_of ke_X1_has 12 rfl)
theorem dX1_has_13 : decode cX1_has 13 = .ok (.iconst 0, 1) := dqo_3 (kb_of ke_X1_has 13 rfl)
theorem dX1_has_14 : decode cX1_has 14 = .ok (.ireturn, 1) := dqo_172 (kb_of ke_X1_has 14 rfl)
set_option maxRecDepth 100000 in
set_option maxHeartbeats 4000000 in
theorem C_has {l : Launch} {D : va_G} {cy : Nat → ClassId} {X : (Nat → Prop) → State → Heap → Prop} {a f : Nat → Nat → Nat} {r : Nat → Nat → Int32} {kn : Int32} {Y : va_W} {i : Nat} {x : Int32} (hX : EnvX X) (hi : i < 11) (h0 : f 0 i < 7) (h4 : f 3 i + f 4 i ≤ 12) : Cd l D cy X yX1_has cX1_has 2 (some .boolean) (rmz 2 60) [.ref (a 1 i), .int x] (WC cy a f r kn ++ Y) (some (.int (nI (if fpF (fun q => r (f 0 i) (f 3 i + q)) x (f 4 i) 0 = 4294967295 then 0 else 1)))) (WC cy a f r kn ++ Y) := by
  refine Cm.of [some (.ref (a 1 i)), some (.int x)] pn_X1 rfl (Nat.le_of_ble_eq_true rfl) ?_
  intro p e s m args below meth c A C hE hr hnt hn
  refine r_aload_n C dX1_has_0 rfl ?_
  refine r_iload_n C dX1_has_1 rfl ?_
  refine d_V (st := []) hX.stb C hE (C_firstPlaceOf (f := f) (r := r) (kn := kn) (i := i) (x := (x)) hX (by first | omega | (simp [up2, *]; done) | (simp [up2, *]; omega) | (simp only [up2_eq]; omega)) (by first | omega | (simp [up2, *]; done) | (simp [up2, *]; omega) | (simp only [up2_eq]; omega)) (by first | omega | (simp [up2, *]; done) | (simp [up2, *]; omega) | (simp only [up2_eq]; omega))) pk_X1_firstPlaceOf qm_X1_62 (3 + i) 5 rfl rfl (wc_p (by first | omega | (simp [up2, *]; done) | (simp [up2, *]; omega) | (simp only [up2_eq]; omega))) rfl rfl (Nat.le_of_ble_eq_true rfl) dX1_has_2 ⟨Nat.le_of_ble_eq_true rfl, Nat.le_of_ble_eq_true rfl⟩ ⟨Nat.le_of_ble_eq_true rfl, Nat.le_of_ble_eq_true rfl⟩ ?_
  refine r_iconst (v := (nI 4294967295)) C dX1_has_5 (by decide) ?_
  refine r_icN_eq (tgt := 13) C (fpF_b (by omega)) (by first | omega | (simp [up2, *]; done) | (simp [up2, *]; omega) | (simp only [up2_eq]; omega)) dX1_has_6 (by decide) (fun h6_1 => ?_) (fun h6_1 => ?_)
  · first
    | exfalso; first | omega | contradiction
    | skip
      refine r_iconst (v := (nI 0)) C dX1_has_13 (by decide) ?_
      exact r_zret C hr (by first | omega | (simp [up2, *]; done) | (simp [up2, *]; omega) | (simp only [up2_eq]; omega)) dX1_has_14 ⟨by first | rfl | (rw [if_pos (by assumption)] <;> rfl) | (rw [if_neg (by assumption)] <;> rfl), rfl⟩ (Nat.le_of_ble_eq_true rfl) (Nat.le_of_ble_eq_true rfl)
  · first
    | exfalso; first | omega | contradiction
    | skip
      refine r_iconst (v := (nI 1)) C dX1_has_9 (by decide) ?_
      refine r_goto (tgt := 14) C dX1_has_10 (by decide) ?_
      exact r_zret C hr (by first | omega | (simp [up2, *]; done) | (simp [up2, *]; omega) | (simp only [up2_eq]; omega)) dX1_has_14 ⟨by first | rfl | (rw [if_pos (by assumption)] <;> rfl) | (rw [if_neg (by assumption)] <;> rfl), rfl⟩ (Nat.le_of_ble_eq_true rfl) (Nat.le_of_ble_eq_true rfl)
theorem dX1_standsAt_0 : decode cX1_standsAt 0 = .ok (.iconst 0, 1) := dqo_3 (kb_of ke_X1_standsAt 0 rfl)
theorem dX1_standsAt_1 : decode cX1_standsAt 1 = .ok (.istore_n 3, 1) := dqo_62 (kb_of ke_X1_standsAt 1 rfl)
theorem dX1_standsAt_2 : decode cX1_standsAt 2 = .ok (.iload_n 3, 1) := dqo_29 (kb_of ke_X1_standsAt 2 rfl)
theorem dX1_standsAt_3 : decode cX1_standsAt 3 = .ok (.aload_n 2, 1) := dqo_44 (kb_of ke_X1_standsAt 3 rfl)
theorem dX1_standsAt_4 : decode cX1_standsAt 4 = .ok (.getfield 29, 3) := dqo_180 0 29 (kb_of ke_X1_standsAt 4 rfl) (kb_of ke_X1_standsAt 5 rfl) (kb_of ke_X1_standsAt 6 rfl)
theorem dX1_standsAt_7 : decode cX1_standsAt 7 = .ok (.if_icmp .ge 26, 3) := dqo_162 0 26 (by decide) (kb_of ke_X1_standsAt 7 rfl) (kb_of ke_X1_standsAt 8 rfl) (kb_of ke_X1_standsAt 9 rfl)
theorem dX1_standsAt_10 : decode cX1_standsAt 10 = .ok (.aload_n 0, 1) := dqo_42 (kb_of ke_X1_standsAt 10 rfl)
theorem dX1_standsAt_11 : decode cX1_standsAt 11 = .ok (.iload_n 1, 1) := dqo_27 (kb_of ke_X1_standsAt 11 rfl)
theorem dX1_standsAt_12 : decode cX1_standsAt 12 = .ok (.iload_n 3, 1) := dqo_29 (kb_of ke_X1_standsAt 12 rfl)
theorem dX1_standsAt_13 : decode cX1_standsAt 13 = .ok (.iadd, 1) := dqo_96 (kb_of ke_X1_standsAt 13 rfl)
theorem dX1_standsAt_14 : decode cX1_standsAt 14 = .ok (.invokevirtual 32, 3) := dqo_182 0 32 (kb_of ke_X1_standsAt 14 rfl) (kb_of ke_X1_standsAt 15 rfl) (kb_of ke_X1_standsAt 16 rfl)
theorem dX1_standsAt_17 : decode cX1_standsAt 17 = .ok (.aload_n 2, 1) := dqo_44 (kb_of ke_X1_standsAt 17 rfl)
theorem dX1_standsAt_18 : decode cX1_standsAt 18 = .ok (.iload_n 3, 1) := dqo_29 (kb_of ke_X1_standsAt 18 rfl)
theorem dX1_standsAt_19 : decode cX1_standsAt 19 = .ok (.invokevirtual 32, 3) := dqo_182 0 32 (kb_of ke_X1_standsAt 19 rfl) (kb_of ke_X1_standsAt 20 rfl) (kb_of ke_X1_standsAt 21 rfl)
theorem dX1_standsAt_22 : decode cX1_standsAt 22 = .ok (.if_icmp .eq 5, 3) := dqo_159 0 5 (by decide) (kb_of ke_X1_standsAt 22 rfl) (kb_of ke_X1_standsAt 23 rfl) (kb_of ke_X1_standsAt 24 rfl)
theorem dX1_standsAt_25 : decode cX1_standsAt 25 = .ok (.iconst 0, 1) := dqo_3 (kb_of ke_X1_standsAt 25 rfl)
theorem dX1_standsAt_26 : decode cX1_standsAt 26 = .ok (.ireturn, 1) := dqo_172 (kb_of ke_X1_standsAt 26 rfl)
theorem dX1_standsAt_27 : decode cX1_standsAt 27 = .ok (.iinc 3 1, 3) := dqo_132 3 1 (by decide) (kb_of ke_X1_standsAt 27 rfl) (kb_of ke_X1_standsAt 28 rfl) (kb_of ke_X1_standsAt 29 rfl)
theorem dX1_standsAt_30 : decode cX1_standsAt 30 = .ok (.goto (-28), 3) := dqo_167 255 228 (by decide) (kb_of ke_X1_standsAt 30 rfl) (kb_of ke_X1_standsAt 31 rfl) (kb_of ke_X1_standsAt 32 rfl)
theorem dX1_standsAt_33 : decode cX1_standsAt 33 = .ok (.iconst 1, 1) := dqo_4 (kb_of ke_X1_standsAt 33 rfl)
theorem dX1_standsAt_34 : decode cX1_standsAt 34 = .ok (.ireturn, 1) := dqo_172 (kb_of ke_X1_standsAt 34 rfl)
set_option maxRecDepth 100000 in
set_option maxHeartbeats 4000000 in
theorem C_standsAt {l : Launch} {D : va_G} {cy : Nat → ClassId} {X : (Nat → Prop) → State → Heap → Prop} {a f : Nat → Nat → Nat} {r : Nat → Nat → Int32} {kn : Int32} {Y : va_W} {i : Nat} {j : Nat} {k : Nat} (hX : EnvX X) (hi : i < 11) (hj : j < 11) (h0 : f 0 i < 7) (h0j : f 0 j < 7) (h4j : f 3 j + f 4 j ≤ 12) (hk : f 3 i + k + f 4 j ≤ 12) : Cd l D cy X yX1_standsAt cX1_standsAt 4 (some .boolean) (rmz 1 30) [.ref (a 1 i), .int (nI k), .ref (a 1 j)] (WC cy a f r kn ++ Y) (some (.int (nI (stF (fun q => r (f 0 i) (f 3 i + (k + q))) (fun q => r (f 0 j) (f 3 j + q)) (f 4 j) 0)))) (WC cy a f r kn ++ Y) := by
  refine Cm.of [some (.ref (a 1 i)), some (.int (nI k)), some (.ref (a 1 j)), none] pn_X1 rfl (Nat.le_of_ble_eq_true rfl) ?_
  intro p e s m args below meth c A C hE hr hnt hn
  refine r_iconst (v := (nI 0)) C dX1_standsAt_0 (by decide) ?_
  refine r_istore_n C dX1_standsAt_1 (by decide) rfl ?_
  have L2 : ∀ (d : Nat) (t : Nat), (ht : t + d = f 4 j) → (hF : stF (fun q => r (f 0 i) (f 3 i + (k + q))) (fun q => r (f 0 j) (f 3 j + q)) d t = stF (fun q => r (f 0 i) (f 3 i + (k + q))) (fun q => r (f 0 j) (f 3 j + q)) (f 4 j) 0) → vC p l e (rmz 1 30) s m args below meth c D A (vx_MQ below (vG (fun v1 w1 => v1 = (some (.int (nI (stF (fun q => r (f 0 i) (f 3 i + (k + q))) (fun q => r (f 0 j) (f 3 j + q)) (f 4 j) 0)))) ∧ w1 = WC cy a f r kn ++ Y) D vwCl A) (vGX (fun _ => False) D vwCl (WC cy a f r kn ++ Y) A) args s (rmz 1 30).cells (rmz 1 30).slots A) 4 0 0 (WC cy a f r kn ++ Y) [some (.ref (a 1 i)), some (.int (nI k)), some (.ref (a 1 j)), some (.int (nI t))] 2 [] := by
    intro d
    induction d with
    | zero =>
      intro t ht hF
      refine r_iload_n C dX1_standsAt_2 rfl ?_
      refine r_aload_n C dX1_standsAt_3 rfl ?_
      refine p_get (v := .int (nI (f 4 j))) C 4 (by first | omega | (simp [up2, *]; done) | (simp [up2, *]; omega) | (simp only [up2_eq]; omega)) (by decide) qf_X1_29 rfl rfl dX1_standsAt_4 ?_
      refine r_icN_ge (tgt := 33) C (by first | omega | (simp [up2, *]; done) | (simp [up2, *]; omega) | (simp only [up2_eq]; omega)) (by first | omega | (simp [up2, *]; done) | (simp [up2, *]; omega) | (simp only [up2_eq]; omega)) dX1_standsAt_7 (by decide) (fun h7_1 => ?_) (fun h7_1 => ?_)
      · first
        | exfalso; first | omega | contradiction
        | skip
          refine r_iconst (v := (nI 1)) C dX1_standsAt_33 (by decide) ?_
          exact r_zret C hr (by first | omega | (simp [up2, *]; done) | (simp [up2, *]; omega) | (simp only [up2_eq]; omega)) dX1_standsAt_34 ⟨by rw [← hF]; simp [stF, *], rfl⟩ (Nat.le_of_ble_eq_true rfl) (Nat.le_of_ble_eq_true rfl)
      · first
        | exfalso; first | omega | contradiction
        | skip
          refine r_aload_n C dX1_standsAt_10 rfl ?_
          refine r_iload_n C dX1_standsAt_11 rfl ?_
          refine r_iload_n C dX1_standsAt_12 rfl ?_
          refine r_iaddN C dX1_standsAt_13 ?_
          refine d_V (st := []) hX.stb C hE (C_itemAt (f := f) (r := r) (kn := kn) (i := i) (k := (k + t)) hX (by first | omega | (simp [up2, *]; done) | (simp [up2, *]; omega) | (simp only [up2_eq]; omega)) (by first | omega | (simp [up2, *]; done) | (simp [up2, *]; omega) | (simp only [up2_eq]; omega)) (by first | omega | (simp [up2, *]; done) | (simp [up2, *]; omega) | (simp only [up2_eq]; omega))) pk_X1_itemAt qm_X1_32 (3 + i) 5 rfl rfl (wc_p (by first | omega | (simp [up2, *]; done) | (simp [up2, *]; omega) | (simp only [up2_eq]; omega))) rfl rfl (Nat.le_of_ble_eq_true rfl) dX1_standsAt_14 ⟨Nat.le_of_ble_eq_true rfl, Nat.le_of_ble_eq_true rfl⟩ ⟨Nat.le_of_ble_eq_true rfl, Nat.le_of_ble_eq_true rfl⟩ ?_
          refine r_aload_n C dX1_standsAt_17 rfl ?_
          refine r_iload_n C dX1_standsAt_18 rfl ?_
          refine d_V (st := [.int (r (f 0 i) (f 3 i + (k + t)))]) hX.stb C hE (C_itemAt (f := f) (r := r) (kn := kn) (i := j) (k := t) hX (by first | omega | (simp [up2, *]; done) | (simp [up2, *]; omega) | (simp only [up2_eq]; omega)) (by first | omega | (simp [up2, *]; done) | (simp [up2, *]; omega) | (simp only [up2_eq]; omega)) (by first | omega | (simp [up2, *]; done) | (simp [up2, *]; omega) | (simp only [up2_eq]; omega))) pk_X1_itemAt qm_X1_32 (3 + j) 5 rfl rfl (wc_p (by first | omega | (simp [up2, *]; done) | (simp [up2, *]; omega) | (simp only [up2_eq]; omega))) rfl rfl (Nat.le_of_ble_eq_true rfl) dX1_standsAt_19 ⟨Nat.le_of_ble_eq_true rfl, Nat.le_of_ble_eq_true rfl⟩ ⟨Nat.le_of_ble_eq_true rfl, Nat.le_of_ble_eq_true rfl⟩ ?_
          refine r_ic_eq (tgt := 27) C dX1_standsAt_22 (by decide) (fun h22_2 => ?_) (fun h22_2 => ?_)
          · first
            | exfalso; first | omega | contradiction
            | skip
              refine r_iincN C dX1_standsAt_27 rfl (by decide) rfl ?_
              refine r_goto (tgt := 2) C dX1_standsAt_30 (by decide) ?_
              exact (Nat.not_lt_zero _ (by omega)).elim
          · first
            | exfalso; first | omega | contradiction
            | skip
              refine r_iconst (v := (nI 0)) C dX1_standsAt_25 (by decide) ?_
              exact r_zret C hr (by first | omega | (simp [up2, *]; done) | (simp [up2, *]; omega) | (simp only [up2_eq]; omega)) dX1_standsAt_26 ⟨by rw [← hF]; simp [stF, *], rfl⟩ (Nat.le_of_ble_eq_true rfl) (Nat.le_of_ble_eq_true rfl)
    | succ d ih_L2 =>
      intro t ht hF
      refine r_iload_n C dX1_standsAt_2 rfl ?_
      refine r_aload_n C dX1_standsAt_3 rfl ?_
      refine p_get (v := .int (nI (f 4 j))) C 4 (by first | omega | (simp [up2, *]; done) | (simp [up2, *]; omega) | (simp only [up2_eq]; omega)) (by decide) qf_X1_29 rfl rfl dX1_standsAt_4 ?_
      refine r_icN_ge (tgt := 33) C (by first | omega | (simp [up2, *]; done) | (simp [up2, *]; omega) | (simp only [up2_eq]; omega)) (by first | omega | (simp [up2, *]; done) | (simp [up2, *]; omega) | (simp only [up2_eq]; omega)) dX1_standsAt_7 (by decide) (fun h7_3 => ?_) (fun h7_3 => ?_)
      · first
        | exfalso; first | omega | contradiction
        | skip
          refine r_iconst (v := (nI 1)) C dX1_standsAt_33 (by decide) ?_
          exact r_zret C hr (by first | omega | (simp [up2, *]; done) | (simp [up2, *]; omega) | (simp only [up2_eq]; omega)) dX1_standsAt_34 ⟨by rw [← hF]; simp [stF, *], rfl⟩ (Nat.le_of_ble_eq_true rfl) (Nat.le_of_ble_eq_true rfl)
      · first
        | exfalso; first | omega | contradiction
        | skip
          refine r_aload_n C dX1_standsAt_10 rfl ?_
          refine r_iload_n C dX1_standsAt_11 rfl ?_
          refine r_iload_n C dX1_standsAt_12 rfl ?_
          refine r_iaddN C dX1_standsAt_13 ?_
          refine d_V (st := []) hX.stb C hE (C_itemAt (f := f) (r := r) (kn := kn) (i := i) (k := (k + t)) hX (by first | omega | (simp [up2, *]; done) | (simp [up2, *]; omega) | (simp only [up2_eq]; omega)) (by first | omega | (simp [up2, *]; done) | (simp [up2, *]; omega) | (simp only [up2_eq]; omega)) (by first | omega | (simp [up2, *]; done) | (simp [up2, *]; omega) | (simp only [up2_eq]; omega))) pk_X1_itemAt qm_X1_32 (3 + i) 5 rfl rfl (wc_p (by first | omega | (simp [up2, *]; done) | (simp [up2, *]; omega) | (simp only [up2_eq]; omega))) rfl rfl (Nat.le_of_ble_eq_true rfl) dX1_standsAt_14 ⟨Nat.le_of_ble_eq_true rfl, Nat.le_of_ble_eq_true rfl⟩ ⟨Nat.le_of_ble_eq_true rfl, Nat.le_of_ble_eq_true rfl⟩ ?_
          refine r_aload_n C dX1_standsAt_17 rfl ?_
          refine r_iload_n C dX1_standsAt_18 rfl ?_
          refine d_V (st := [.int (r (f 0 i) (f 3 i + (k + t)))]) hX.stb C hE (C_itemAt (f := f) (r := r) (kn := kn) (i := j) (k := t) hX (by first | omega | (simp [up2, *]; done) | (simp [up2, *]; omega) | (simp only [up2_eq]; omega)) (by first | omega | (simp [up2, *]; done) | (simp [up2, *]; omega) | (simp only [up2_eq]; omega)) (by first | omega | (simp [up2, *]; done) | (simp [up2, *]; omega) | (simp only [up2_eq]; omega))) pk_X1_itemAt qm_X1_32 (3 + j) 5 rfl rfl (wc_p (by first | omega | (simp [up2, *]; done) | (simp [up2, *]; omega) | (simp only [up2_eq]; omega))) rfl rfl (Nat.le_of_ble_eq_true rfl) dX1_standsAt_19 ⟨Nat.le_of_ble_eq_true rfl, Nat.le_of_ble_eq_true rfl⟩ ⟨Nat.le_of_ble_eq_true rfl, Nat.le_of_ble_eq_true rfl⟩ ?_
          refine r_ic_eq (tgt := 27) C dX1_standsAt_22 (by decide) (fun h22_4 => ?_) (fun h22_4 => ?_)
          · first
            | exfalso; first | omega | contradiction
            | skip
              refine r_iincN C dX1_standsAt_27 rfl (by decide) rfl ?_
              refine r_goto (tgt := 2) C dX1_standsAt_30 (by decide) ?_
              exact ih_L2 (t + 1) (by first | omega | (simp [up2, *]; done) | (simp [up2, *]; omega) | (simp only [up2_eq]; omega)) (by rw [← hF]; simp only [stF]; rw [if_pos (by assumption)])
          · first
            | exfalso; first | omega | contradiction
            | skip
              refine r_iconst (v := (nI 0)) C dX1_standsAt_25 (by decide) ?_
              exact r_zret C hr (by first | omega | (simp [up2, *]; done) | (simp [up2, *]; omega) | (simp only [up2_eq]; omega)) dX1_standsAt_26 ⟨by rw [← hF]; simp [stF, *], rfl⟩ (Nat.le_of_ble_eq_true rfl) (Nat.le_of_ble_eq_true rfl)
  exact L2 (f 4 j) 0 (by first | omega | (simp [up2, *]; done) | (simp [up2, *]; omega) | (simp only [up2_eq]; omega)) rfl
theorem pk_X1_standsAt : PkV RX1 yX1_standsAt cX1_standsAt 4 (some .boolean) 2 := ⟨⟨qi_X1_standsAt, qs_X1_standsAt, qz_X1, qc_X1_standsAt⟩, rfl, mh_X1.1, mh_X1.2, pd_3⟩
theorem dX1_placeOfAll_0 : decode cX1_placeOfAll 0 = .ok (.iconst 0, 1) := dqo_3 (kb_of ke_X1_placeOfAll 0 rfl)
theorem dX1_placeOfAll_1 : decode cX1_placeOfAll 1 = .ok (.istore_n 2, 1) := dqo_61 (kb_of ke_X1_placeOfAll 1 rfl)
theorem dX1_placeOfAll_2 : decode cX1_placeOfAll 2 = .ok (.iload_n 2, 1) := dqo_28 (kb_of ke_X1_placeOfAll 2 rfl)
theorem dX1_placeOfAll_3 : decode cX1_placeOfAll 3 = .ok (.aload_n 1, 1) := dqo_43 (kb_of ke_X1_placeOfAll 3 rfl)
theorem dX1_placeOfAll_4 : decode cX1_placeOfAll 4 = .ok (.getfield 29, 3) := dqo_180 0 29 (kb_of ke_X1_placeOfAll 4 rfl) (kb_of ke_X1_placeOfAll 5 rfl) (kb_of ke_X1_placeOfAll 6 rfl)
theorem dX1_placeOfAll_7 : decode cX1_placeOfAll 7 = .ok (.iadd, 1) := dqo_96 (kb_of ke_X1_placeOfAll 7 rfl)
theorem dX1_placeOfAll_8 : decode cX1_placeOfAll 8 = .ok (.aload_n 0, 1) := dqo_42 (kb_of ke_X1_placeOfAll 8 rfl)
theorem dX1_placeOfAll_9 : decode cX1_placeOfAll 9 = .ok (.getfield 29, 3) := dqo_180 0 29 (kb_of ke_X1_placeOfAll 9 rfl) (kb_of ke_X1_placeOfAll 10 rfl) (kb_of ke_X1_placeOfAll 11 rfl)
theorem dX1_placeOfAll_12 : decode cX1_placeOfAll 12 = .ok (.if_icmp .gt 20, 3) := dqo_163 0 20 (by decide) (kb_of ke_X1_placeOfAll 12 rfl) (kb_of ke_X1_placeOfAll 13 rfl) (kb_of ke_X1_placeOfAll 14 rfl)
theorem dX1_placeOfAll_15 : decode cX1_placeOfAll 15 = .ok (.aload_n 0, 1) := dqo_42 (kb_of ke_X1_placeOfAll 15 rfl)
theorem dX1_placeOfAll_16 : decode cX1_placeOfAll 16 = .ok (.iload_n 2, 1) := dqo_28 (kb_of ke_X1_placeOfAll 16 rfl)
theorem dX1_placeOfAll_17 : decode cX1_placeOfAll 17 = .ok (.aload_n 1, 1) := dqo_43 (kb_of ke_X1_placeOfAll 17 rfl)
theorem dX1_placeOfAll_18 : decode cX1_placeOfAll 18 = .ok (.invokevirtual 65, 3) := dqo_182 0 65 (kb_of ke_X1_placeOfAll 18 rfl) (kb_of ke_X1_placeOfAll 19 rfl) (kb_of ke_X1_placeOfAll 20 rfl)
theorem dX1_placeOfAll_21 : decode cX1_placeOfAll 21 = .ok (.ifCond .eq 5, 3) := dqo_153 0 5 (by decide) (kb_of ke_X1_placeOfAll 21 rfl) (kb_of ke_X1_placeOfAll 22 rfl) (kb_of ke_X1_placeOfAll 23 rfl)
theorem dX1_placeOfAll_24 : decode cX1_placeOfAll 24 = .ok (.iload_n 2, 1) := dqo_28 (kb_of ke_X1_placeOfAll 24 rfl)
theorem dX1_placeOfAll_25 : decode cX1_placeOfAll 25 = .ok (.ireturn, 1) := dqo_172 (kb_of ke_X1_placeOfAll 25 rfl)
theorem dX1_placeOfAll_26 : decode cX1_placeOfAll 26 = .ok (.iinc 2 1, 3) := dqo_132 2 1 (by decide) (kb_of ke_X1_placeOfAll 26 rfl) (kb_of ke_X1_placeOfAll 27 rfl) (kb_of ke_X1_placeOfAll 28 rfl)
theorem dX1_placeOfAll_29 : decode cX1_placeOfAll 29 = .ok (.goto (-27), 3) := dqo_167 255 229 (by decide) (kb_of ke_X1_placeOfAll 29 rfl) (kb_of ke_X1_placeOfAll 30 rfl) (kb_of ke_X1_placeOfAll 31 rfl)
theorem dX1_placeOfAll_32 : decode cX1_placeOfAll 32 = .ok (.iconst (-1), 1) := dqo_2 (kb_of ke_X1_placeOfAll 32 rfl)
theorem dX1_placeOfAll_33 : decode cX1_placeOfAll 33 = .ok (.ireturn, 1) := dqo_172 (kb_of ke_X1_placeOfAll 33 rfl)
set_option maxRecDepth 100000 in
set_option maxHeartbeats 4000000 in
theorem C_placeOfAll {l : Launch} {D : va_G} {cy : Nat → ClassId} {X : (Nat → Prop) → State → Heap → Prop} {a f : Nat → Nat → Nat} {r : Nat → Nat → Int32} {kn : Int32} {Y : va_W} {i : Nat} {j : Nat} (hX : EnvX X) (hi : i < 11) (hj : j < 11) (h0 : f 0 i < 7) (h0j : f 0 j < 7) (h4 : f 3 i + f 4 i ≤ 12) (h4j : f 3 j + f 4 j ≤ 12) : Cd l D cy X yX1_placeOfAll cX1_placeOfAll 3 (some .int) (rmz 2 60) [.ref (a 1 i), .ref (a 1 j)] (WC cy a f r kn ++ Y) (some (.int (nI (poF (fun k => stF (fun q => r (f 0 i) (f 3 i + (k + q))) (fun q => r (f 0 j) (f 3 j + q)) (f 4 j) 0) (f 4 i + 1 - f 4 j) 0)))) (WC cy a f r kn ++ Y) := by
  refine Cm.of [some (.ref (a 1 i)), some (.ref (a 1 j)), none] pn_X1 rfl (Nat.le_of_ble_eq_true rfl) ?_
  intro p e s m args below meth c A C hE hr hnt hn
  refine r_iconst (v := (nI 0)) C dX1_placeOfAll_0 (by decide) ?_
  refine r_istore_n C dX1_placeOfAll_1 (by decide) rfl ?_
  have L2 : ∀ (d : Nat) (k : Nat), (hk : k + d = f 4 i + 1 - f 4 j) → (hF : poF (fun k => stF (fun q => r (f 0 i) (f 3 i + (k + q))) (fun q => r (f 0 j) (f 3 j + q)) (f 4 j) 0) d k = poF (fun k => stF (fun q => r (f 0 i) (f 3 i + (k + q))) (fun q => r (f 0 j) (f 3 j + q)) (f 4 j) 0) (f 4 i + 1 - f 4 j) 0) → vC p l e (rmz 2 60) s m args below meth c D A (vx_MQ below (vG (fun v1 w1 => v1 = (some (.int (nI (poF (fun k => stF (fun q => r (f 0 i) (f 3 i + (k + q))) (fun q => r (f 0 j) (f 3 j + q)) (f 4 j) 0) (f 4 i + 1 - f 4 j) 0)))) ∧ w1 = WC cy a f r kn ++ Y) D vwCl A) (vGX (fun _ => False) D vwCl (WC cy a f r kn ++ Y) A) args s (rmz 2 60).cells (rmz 2 60).slots A) 3 0 0 (WC cy a f r kn ++ Y) [some (.ref (a 1 i)), some (.ref (a 1 j)), some (.int (nI k))] 2 [] := by
    intro d
    induction d with
    | zero =>
      intro k hk hF
      refine r_iload_n C dX1_placeOfAll_2 rfl ?_
      refine r_aload_n C dX1_placeOfAll_3 rfl ?_
      refine p_get (v := .int (nI (f 4 j))) C 4 (by first | omega | (simp [up2, *]; done) | (simp [up2, *]; omega) | (simp only [up2_eq]; omega)) (by decide) qf_X1_29 rfl rfl dX1_placeOfAll_4 ?_
      refine r_iaddN C dX1_placeOfAll_7 ?_
      refine r_aload_n C dX1_placeOfAll_8 rfl ?_
      refine p_get (v := .int (nI (f 4 i))) C 4 (by first | omega | (simp [up2, *]; done) | (simp [up2, *]; omega) | (simp only [up2_eq]; omega)) (by decide) qf_X1_29 rfl rfl dX1_placeOfAll_9 ?_
      refine r_icN_gt (tgt := 32) C (by first | omega | (simp [up2, *]; done) | (simp [up2, *]; omega) | (simp only [up2_eq]; omega)) (by first | omega | (simp [up2, *]; done) | (simp [up2, *]; omega) | (simp only [up2_eq]; omega)) dX1_placeOfAll_12 (by decide) (fun h12_1 => ?_) (fun h12_1 => ?_)
      · first
        | exfalso; first | omega | contradiction
        | skip
          refine r_iconst (v := (nI 4294967295)) C dX1_placeOfAll_32 (by decide) ?_
          exact r_iret C hr dX1_placeOfAll_33 ⟨by rw [← hF]; simp [poF, *], rfl⟩ (Nat.le_of_ble_eq_true rfl) (Nat.le_of_ble_eq_true rfl)
      · first
        | exfalso; first | omega | contradiction
        | skip
          refine r_aload_n C dX1_placeOfAll_15 rfl ?_
          refine r_iload_n C dX1_placeOfAll_16 rfl ?_
          refine r_aload_n C dX1_placeOfAll_17 rfl ?_
          refine d_V (st := []) hX.stb C hE (C_standsAt (f := f) (r := r) (kn := kn) (i := i) (j := j) (k := k) hX (by first | omega | (simp [up2, *]; done) | (simp [up2, *]; omega) | (simp only [up2_eq]; omega)) (by first | omega | (simp [up2, *]; done) | (simp [up2, *]; omega) | (simp only [up2_eq]; omega)) (by first | omega | (simp [up2, *]; done) | (simp [up2, *]; omega) | (simp only [up2_eq]; omega)) (by first | omega | (simp [up2, *]; done) | (simp [up2, *]; omega) | (simp only [up2_eq]; omega)) (by first | omega | (simp [up2, *]; done) | (simp [up2, *]; omega) | (simp only [up2_eq]; omega)) (by first | omega | (simp [up2, *]; done) | (simp [up2, *]; omega) | (simp only [up2_eq]; omega))) pk_X1_standsAt qm_X1_65 (3 + i) 5 rfl rfl (wc_p (by first | omega | (simp [up2, *]; done) | (simp [up2, *]; omega) | (simp only [up2_eq]; omega))) rfl rfl (Nat.le_of_ble_eq_true rfl) dX1_placeOfAll_18 ⟨Nat.le_of_ble_eq_true rfl, Nat.le_of_ble_eq_true rfl⟩ ⟨Nat.le_of_ble_eq_true rfl, Nat.le_of_ble_eq_true rfl⟩ ?_
          refine r_ifN_eq (tgt := 26) C (Nat.lt_of_le_of_lt (stF_le _ _ _ _) (by decide)) dX1_placeOfAll_21 (by decide) (fun h21_2 => ?_) (fun h21_2 => ?_)
          · first
            | exfalso; first | omega | contradiction
            | skip
              refine r_iincN C dX1_placeOfAll_26 rfl (by decide) rfl ?_
              refine r_goto (tgt := 2) C dX1_placeOfAll_29 (by decide) ?_
              exact (Nat.not_lt_zero _ (by omega)).elim
          · first
            | exfalso; first | omega | contradiction
            | skip
              refine r_iload_n C dX1_placeOfAll_24 rfl ?_
              exact r_iret C hr dX1_placeOfAll_25 ⟨by rw [← hF]; simp [poF, *], rfl⟩ (Nat.le_of_ble_eq_true rfl) (Nat.le_of_ble_eq_true rfl)
    | succ d ih_L2 =>
      intro k hk hF
      refine r_iload_n C dX1_placeOfAll_2 rfl ?_
      refine r_aload_n C dX1_placeOfAll_3 rfl ?_
      refine p_get (v := .int (nI (f 4 j))) C 4 (by first | omega | (simp [up2, *]; done) | (simp [up2, *]; omega) | (simp only [up2_eq]; omega)) (by decide) qf_X1_29 rfl rfl dX1_placeOfAll_4 ?_
      refine r_iaddN C dX1_placeOfAll_7 ?_
      refine r_aload_n C dX1_placeOfAll_8 rfl ?_
      refine p_get (v := .int (nI (f 4 i))) C 4 (by first | omega | (simp [up2, *]; done) | (simp [up2, *]; omega) | (simp only [up2_eq]; omega)) (by decide) qf_X1_29 rfl rfl dX1_placeOfAll_9 ?_
      refine r_icN_gt (tgt := 32) C (by first | omega | (simp [up2, *]; done) | (simp [up2, *]; omega) | (simp only [up2_eq]; omega)) (by first | omega | (simp [up2, *]; done) | (simp [up2, *]; omega) | (simp only [up2_eq]; omega)) dX1_placeOfAll_12 (by decide) (fun h12_3 => ?_) (fun h12_3 => ?_)
      · first
        | exfalso; first | omega | contradiction
        | skip
          refine r_iconst (v := (nI 4294967295)) C dX1_placeOfAll_32 (by decide) ?_
          exact r_iret C hr dX1_placeOfAll_33 ⟨by rw [← hF]; simp [poF, *], rfl⟩ (Nat.le_of_ble_eq_true rfl) (Nat.le_of_ble_eq_true rfl)
      · first
        | exfalso; first | omega | contradiction
        | skip
          refine r_aload_n C dX1_placeOfAll_15 rfl ?_
          refine r_iload_n C dX1_placeOfAll_16 rfl ?_
          refine r_aload_n C dX1_placeOfAll_17 rfl ?_
          refine d_V (st := []) hX.stb C hE (C_standsAt (f := f) (r := r) (kn := kn) (i := i) (j := j) (k := k) hX (by first | omega | (simp [up2, *]; done) | (simp [up2, *]; omega) | (simp only [up2_eq]; omega)) (by first | omega | (simp [up2, *]; done) | (simp [up2, *]; omega) | (simp only [up2_eq]; omega)) (by first | omega | (simp [up2, *]; done) | (simp [up2, *]; omega) | (simp only [up2_eq]; omega)) (by first | omega | (simp [up2, *]; done) | (simp [up2, *]; omega) | (simp only [up2_eq]; omega)) (by first | omega | (simp [up2, *]; done) | (simp [up2, *]; omega) | (simp only [up2_eq]; omega)) (by first | omega | (simp [up2, *]; done) | (simp [up2, *]; omega) | (simp only [up2_eq]; omega))) pk_X1_standsAt qm_X1_65 (3 + i) 5 rfl rfl (wc_p (by first | omega | (simp [up2, *]; done) | (simp [up2, *]; omega) | (simp only [up2_eq]; omega))) rfl rfl (Nat.le_of_ble_eq_true rfl) dX1_placeOfAll_18 ⟨Nat.le_of_ble_eq_true rfl, Nat.le_of_ble_eq_true rfl⟩ ⟨Nat.le_of_ble_eq_true rfl, Nat.le_of_ble_eq_true rfl⟩ ?_
          refine r_ifN_eq (tgt := 26) C (Nat.lt_of_le_of_lt (stF_le _ _ _ _) (by decide)) dX1_placeOfAll_21 (by decide) (fun h21_4 => ?_) (fun h21_4 => ?_)
          · first
            | exfalso; first | omega | contradiction
            | skip
              refine r_iincN C dX1_placeOfAll_26 rfl (by decide) rfl ?_
              refine r_goto (tgt := 2) C dX1_placeOfAll_29 (by decide) ?_
              exact ih_L2 (k + 1) (by first | omega | (simp [up2, *]; done) | (simp [up2, *]; omega) | (simp only [up2_eq]; omega)) (by rw [← hF]; simp only [poF]; rw [if_pos (by assumption)])
          · first
            | exfalso; first | omega | contradiction
            | skip
              refine r_iload_n C dX1_placeOfAll_24 rfl ?_
              exact r_iret C hr dX1_placeOfAll_25 ⟨by rw [← hF]; simp [poF, *], rfl⟩ (Nat.le_of_ble_eq_true rfl) (Nat.le_of_ble_eq_true rfl)
  exact L2 (f 4 i + 1 - f 4 j) 0 (by first | omega | (simp [up2, *]; done) | (simp [up2, *]; omega) | (simp only [up2_eq]; omega)) rfl
theorem dX1_isLike_0 : decode cX1_isLike 0 = .ok (.aload_n 0, 1) := dqo_42 (kb_of ke_X1_isLike 0 rfl)
theorem dX1_isLike_1 : decode cX1_isLike 1 = .ok (.getfield 29, 3) := dqo_180 0 29 (kb_of ke_X1_isLike 1 rfl) (kb_of ke_X1_isLike 2 rfl) (kb_of ke_X1_isLike 3 rfl)
theorem dX1_isLike_4 : decode cX1_isLike 4 = .ok (.aload_n 1, 1) := dqo_43 (kb_of ke_X1_isLike 4 rfl)
theorem dX1_isLike_5 : decode cX1_isLike 5 = .ok (.getfield 29, 3) := dqo_180 0 29 (kb_of ke_X1_isLike 5 rfl) (kb_of ke_X1_isLike 6 rfl) (kb_of ke_X1_isLike 7 rfl)
theorem dX1_isLike_8 : decode cX1_isLike 8 = .ok (.if_icmp .ne 16, 3) := dqo_160 0 16 (by decide) (kb_of ke_X1_isLike 8 rfl) (kb_of ke_X1_isLike 9 rfl) (kb_of ke_X1_isLike 10 rfl)
theorem dX1_isLike_11 : decode cX1_isLike 11 = .ok (.aload_n 0, 1) := dqo_42 (kb_of ke_X1_isLike 11 rfl)
theorem dX1_isLike_12 : decode cX1_isLike 12 = .ok (.iconst 0, 1) := dqo_3 (kb_of ke_X1_isLike 12 rfl)
theorem dX1_isLike_13 : decode cX1_isLike 13 = .ok (.aload_n 1, 1) := dqo_43 (kb_of ke_X1_isLike 13 rfl)
theorem dX1_isLike_14 : decode cX1_isLike 14 = .ok (.invokevirtual 65, 3) := dqo_182 0 65 (kb_of ke_X1_isLike 14 rfl) (kb_of ke_X1_isLike 15 rfl) (kb_of ke_X1_isLike 16 rfl)
theorem dX1_isLike_17 : decode cX1_isLike 17 = .ok (.ifCond .eq 7, 3) := dqo_153 0 7 (by decide) (kb_of ke_X1_isLike 17 rfl) (kb_of ke_X1_isLike 18 rfl) (kb_of ke_X1_isLike 19 rfl)
theorem dX1_isLike_20 : decode cX1_isLike 20 = .ok (.iconst 1, 1) := dqo_4 (kb_of ke_X1_isLike 20 rfl)
theorem dX1_isLike_21 : decode cX1_isLike 21 = .ok (.goto 4, 3) := dqo_167 0 4 (by decide) (kb_of ke_X1_isLike 21 rfl) (kb_of ke_X1_isLike 22 rfl) (kb_of ke_X1_isLike 23 rfl)
theorem dX1_isLike_24 : decode cX1_isLike 24 = .ok (.iconst 0, 1) := dqo_3 (kb_of ke_X1_isLike 24 rfl)
theorem dX1_isLike_25 : decode cX1_isLike 25 = .ok (.ireturn, 1) := dqo_172 (kb_of ke_X1_isLike 25 rfl)
set_option maxRecDepth 100000 in
set_option maxHeartbeats 4000000 in
theorem C_isLike {l : Launch} {D : va_G} {cy : Nat → ClassId} {X : (Nat → Prop) → State → Heap → Prop} {a f : Nat → Nat → Nat} {r : Nat → Nat → Int32} {kn : Int32} {Y : va_W} {i : Nat} {j : Nat} (hX : EnvX X) (hi : i < 11) (hj : j < 11) (h0 : f 0 i < 7) (h0j : f 0 j < 7) (h4 : f 3 i + f 4 i ≤ 12) (h4j : f 3 j + f 4 j ≤ 12) : Cd l D cy X yX1_isLike cX1_isLike 2 (some .boolean) (rmz 2 60) [.ref (a 1 i), .ref (a 1 j)] (WC cy a f r kn ++ Y) (some (.int (nI (if f 4 i = f 4 j ∧ stF (fun q => r (f 0 i) (f 3 i + (0 + q))) (fun q => r (f 0 j) (f 3 j + q)) (f 4 j) 0 ≠ 0 then 1 else 0)))) (WC cy a f r kn ++ Y) := by
  refine Cm.of [some (.ref (a 1 i)), some (.ref (a 1 j))] pn_X1 rfl (Nat.le_of_ble_eq_true rfl) ?_
  intro p e s m args below meth c A C hE hr hnt hn
  refine r_aload_n C dX1_isLike_0 rfl ?_
  refine p_get (v := .int (nI (f 4 i))) C 4 (by first | omega | (simp [up2, *]; done) | (simp [up2, *]; omega) | (simp only [up2_eq]; omega)) (by decide) qf_X1_29 rfl rfl dX1_isLike_1 ?_
  refine r_aload_n C dX1_isLike_4 rfl ?_
  refine p_get (v := .int (nI (f 4 j))) C 4 (by first | omega | (simp [up2, *]; done) | (simp [up2, *]; omega) | (simp only [up2_eq]; omega)) (by decide) qf_X1_29 rfl rfl dX1_isLike_5 ?_
  refine r_icN_ne (tgt := 24) C (by first | omega | (simp [up2, *]; done) | (simp [up2, *]; omega) | (simp only [up2_eq]; omega)) (by first | omega | (simp [up2, *]; done) | (simp [up2, *]; omega) | (simp only [up2_eq]; omega)) dX1_isLike_8 (by decide) (fun h8_1 => ?_) (fun h8_1 => ?_)
  · first
    | exfalso; first | omega | contradiction
    | skip
      refine r_iconst (v := (nI 0)) C dX1_isLike_24 (by decide) ?_
      exact r_zret C hr (by first | omega | (simp [up2, *]; done) | (simp [up2, *]; omega) | (simp only [up2_eq]; omega)) dX1_isLike_25 ⟨by first | rw [if_pos ⟨by assumption, by assumption⟩] | rw [if_neg (fun z => z.2 (by assumption))] | rw [if_neg (fun z => absurd z.1 (by assumption))], rfl⟩ (Nat.le_of_ble_eq_true rfl) (Nat.le_of_ble_eq_true rfl)
  · first
    | exfalso; first | omega | contradiction
    | skip
      refine r_aload_n C dX1_isLike_11 rfl ?_
      refine r_iconst (v := (nI 0)) C dX1_isLike_12 (by decide) ?_
      refine r_aload_n C dX1_isLike_13 rfl ?_
      refine d_V (st := []) hX.stb C hE (C_standsAt (f := f) (r := r) (kn := kn) (i := i) (j := j) (k := 0) hX (by first | omega | (simp [up2, *]; done) | (simp [up2, *]; omega) | (simp only [up2_eq]; omega)) (by first | omega | (simp [up2, *]; done) | (simp [up2, *]; omega) | (simp only [up2_eq]; omega)) (by first | omega | (simp [up2, *]; done) | (simp [up2, *]; omega) | (simp only [up2_eq]; omega)) (by first | omega | (simp [up2, *]; done) | (simp [up2, *]; omega) | (simp only [up2_eq]; omega)) (by first | omega | (simp [up2, *]; done) | (simp [up2, *]; omega) | (simp only [up2_eq]; omega)) (by first | omega | (simp [up2, *]; done) | (simp [up2, *]; omega) | (simp only [up2_eq]; omega))) pk_X1_standsAt qm_X1_65 (3 + i) 5 rfl rfl (wc_p (by first | omega | (simp [up2, *]; done) | (simp [up2, *]; omega) | (simp only [up2_eq]; omega))) rfl rfl (Nat.le_of_ble_eq_true rfl) dX1_isLike_14 ⟨Nat.le_of_ble_eq_true rfl, Nat.le_of_ble_eq_true rfl⟩ ⟨Nat.le_of_ble_eq_true rfl, Nat.le_of_ble_eq_true rfl⟩ ?_
      refine r_ifN_eq (tgt := 24) C (Nat.lt_of_le_of_lt (stF_le _ _ _ _) (by decide)) dX1_isLike_17 (by decide) (fun h17_2 => ?_) (fun h17_2 => ?_)
      · first
        | exfalso; first | omega | contradiction
        | skip
          refine r_iconst (v := (nI 0)) C dX1_isLike_24 (by decide) ?_
          exact r_zret C hr (by first | omega | (simp [up2, *]; done) | (simp [up2, *]; omega) | (simp only [up2_eq]; omega)) dX1_isLike_25 ⟨by first | rw [if_pos ⟨by assumption, by assumption⟩] | rw [if_neg (fun z => z.2 (by assumption))] | rw [if_neg (fun z => absurd z.1 (by assumption))], rfl⟩ (Nat.le_of_ble_eq_true rfl) (Nat.le_of_ble_eq_true rfl)
      · first
        | exfalso; first | omega | contradiction
        | skip
          refine r_iconst (v := (nI 1)) C dX1_isLike_20 (by decide) ?_
          refine r_goto (tgt := 25) C dX1_isLike_21 (by decide) ?_
          exact r_zret C hr (by first | omega | (simp [up2, *]; done) | (simp [up2, *]; omega) | (simp only [up2_eq]; omega)) dX1_isLike_25 ⟨by first | rw [if_pos ⟨by assumption, by assumption⟩] | rw [if_neg (fun z => z.2 (by assumption))] | rw [if_neg (fun z => absurd z.1 (by assumption))], rfl⟩ (Nat.le_of_ble_eq_true rfl) (Nat.le_of_ble_eq_true rfl)
theorem dX1_hashOfItems_0 : decode cX1_hashOfItems 0 = .ok (.iconst 1, 1) := dqo_4 (kb_of ke_X1_hashOfItems 0 rfl)
theorem dX1_hashOfItems_1 : decode cX1_hashOfItems 1 = .ok (.istore_n 1, 1) := dqo_60 (kb_of ke_X1_hashOfItems 1 rfl)
theorem dX1_hashOfItems_2 : decode cX1_hashOfItems 2 = .ok (.iconst 0, 1) := dqo_3 (kb_of ke_X1_hashOfItems 2 rfl)
theorem dX1_hashOfItems_3 : decode cX1_hashOfItems 3 = .ok (.istore_n 2, 1) := dqo_61 (kb_of ke_X1_hashOfItems 3 rfl)
theorem dX1_hashOfItems_4 : decode cX1_hashOfItems 4 = .ok (.iload_n 2, 1) := dqo_28 (kb_of ke_X1_hashOfItems 4 rfl)
theorem dX1_hashOfItems_5 : decode cX1_hashOfItems 5 = .ok (.aload_n 0, 1) := dqo_42 (kb_of ke_X1_hashOfItems 5 rfl)
theorem dX1_hashOfItems_6 : decode cX1_hashOfItems 6 = .ok (.getfield 29, 3) := dqo_180 0 29 (kb_of ke_X1_hashOfItems 6 rfl) (kb_of ke_X1_hashOfItems 7 rfl) (kb_of ke_X1_hashOfItems 8 rfl)
theorem dX1_hashOfItems_9 : decode cX1_hashOfItems 9 = .ok (.if_icmp .ge 20, 3) := dqo_162 0 20 (by decide) (kb_of ke_X1_hashOfItems 9 rfl) (kb_of ke_X1_hashOfItems 10 rfl) (kb_of ke_X1_hashOfItems 11 rfl)
theorem dX1_hashOfItems_12 : decode cX1_hashOfItems 12 = .ok (.bipush 31, 2) := dqo_16 31 (by decide) (kb_of ke_X1_hashOfItems 12 rfl) (kb_of ke_X1_hashOfItems 13 rfl)
theorem dX1_hashOfItems_14 : decode cX1_hashOfItems 14 = .ok (.iload_n 1, 1) := dqo_27 (kb_of ke_X1_hashOfItems 14 rfl)
theorem dX1_hashOfItems_15 : decode cX1_hashOfItems 15 = .ok (.imul, 1) := dqo_104 (kb_of ke_X1_hashOfItems 15 rfl)
theorem dX1_hashOfItems_16 : decode cX1_hashOfItems 16 = .ok (.aload_n 0, 1) := dqo_42 (kb_of ke_X1_hashOfItems 16 rfl)
theorem dX1_hashOfItems_17 : decode cX1_hashOfItems 17 = .ok (.iload_n 2, 1) := dqo_28 (kb_of ke_X1_hashOfItems 17 rfl)
theorem dX1_hashOfItems_18 : decode cX1_hashOfItems 18 = .ok (.invokevirtual 32, 3) := dqo_182 0 32 (kb_of ke_X1_hashOfItems 18 rfl) (kb_of ke_X1_hashOfItems 19 rfl) (kb_of ke_X1_hashOfItems 20 rfl)
theorem dX1_hashOfItems_21 : decode cX1_hashOfItems 21 = .ok (.iadd, 1) := dqo_96 (kb_of ke_X1_hashOfItems 21 rfl)
theorem dX1_hashOfItems_22 : decode cX1_hashOfItems 22 = .ok (.istore_n 1, 1) := dqo_60 (kb_of ke_X1_hashOfItems 22 rfl)
theorem dX1_hashOfItems_23 : decode cX1_hashOfItems 23 = .ok (.iinc 2 1, 3) := dqo_132 2 1 (by decide) (kb_of ke_X1_hashOfItems 23 rfl) (kb_of ke_X1_hashOfItems 24 rfl) (kb_of ke_X1_hashOfItems 25 rfl)
theorem dX1_hashOfItems_26 : decode cX1_hashOfItems 26 = .ok (.goto (-22), 3) := dqo_167 255 234 (by decide) (kb_of ke_X1_hashOfItems 26 rfl) (kb_of ke_X1_hashOfItems 27 rfl) (kb_of ke_X1_hashOfItems 28 rfl)
theorem dX1_hashOfItems_29 : decode cX1_hashOfItems 29 = .ok (.iload_n 1, 1) := dqo_27 (kb_of ke_X1_hashOfItems 29 rfl)
theorem dX1_hashOfItems_30 : decode cX1_hashOfItems 30 = .ok (.ireturn, 1) := dqo_172 (kb_of ke_X1_hashOfItems 30 rfl)
set_option maxRecDepth 100000 in
set_option maxHeartbeats 4000000 in
theorem C_hashOfItems {l : Launch} {D : va_G} {cy : Nat → ClassId} {X : (Nat → Prop) → State → Heap → Prop} {a f : Nat → Nat → Nat} {r : Nat → Nat → Int32} {kn : Int32} {Y : va_W} {i : Nat} (hX : EnvX X) (hi : i < 11) (h0 : f 0 i < 7) (h4 : f 3 i + f 4 i ≤ 12) : Cd l D cy X yX1_hashOfItems cX1_hashOfItems 3 (some .int) (rmz 1 30) [.ref (a 1 i)] (WC cy a f r kn ++ Y) (some (.int (hsF (fun q => r (f 0 i) (f 3 i + q)) (f 4 i) 0 (nI 1)))) (WC cy a f r kn ++ Y) := by
  refine Cm.of [some (.ref (a 1 i)), none, none] pn_X1 rfl (Nat.le_of_ble_eq_true rfl) ?_
  intro p e s m args below meth c A C hE hr hnt hn
  refine r_iconst (v := (nI 1)) C dX1_hashOfItems_0 (by decide) ?_
  refine r_istore_n C dX1_hashOfItems_1 (by decide) rfl ?_
  refine r_iconst (v := (nI 0)) C dX1_hashOfItems_2 (by decide) ?_
  refine r_istore_n C dX1_hashOfItems_3 (by decide) rfl ?_
  have L4 : ∀ (d : Nat) (k : Nat) (h : Int32), (hk : k + d = f 4 i) → (hF : hsF (fun q => r (f 0 i) (f 3 i + q)) d k h = hsF (fun q => r (f 0 i) (f 3 i + q)) (f 4 i) 0 (nI 1)) → vC p l e (rmz 1 30) s m args below meth c D A (vx_MQ below (vG (fun v1 w1 => v1 = (some (.int (hsF (fun q => r (f 0 i) (f 3 i + q)) (f 4 i) 0 (nI 1)))) ∧ w1 = WC cy a f r kn ++ Y) D vwCl A) (vGX (fun _ => False) D vwCl (WC cy a f r kn ++ Y) A) args s (rmz 1 30).cells (rmz 1 30).slots A) 3 0 0 (WC cy a f r kn ++ Y) [some (.ref (a 1 i)), some (.int h), some (.int (nI k))] 4 [] := by
    intro d
    induction d with
    | zero =>
      intro k h hk hF
      refine r_iload_n C dX1_hashOfItems_4 rfl ?_
      refine r_aload_n C dX1_hashOfItems_5 rfl ?_
      refine p_get (v := .int (nI (f 4 i))) C 4 (by first | omega | (simp [up2, *]; done) | (simp [up2, *]; omega) | (simp only [up2_eq]; omega)) (by decide) qf_X1_29 rfl rfl dX1_hashOfItems_6 ?_
      refine r_icN_ge (tgt := 29) C (by first | omega | (simp [up2, *]; done) | (simp [up2, *]; omega) | (simp only [up2_eq]; omega)) (by first | omega | (simp [up2, *]; done) | (simp [up2, *]; omega) | (simp only [up2_eq]; omega)) dX1_hashOfItems_9 (by decide) (fun h9_1 => ?_) (fun h9_1 => ?_)
      · first
        | exfalso; first | omega | contradiction
        | skip
          refine r_iload_n C dX1_hashOfItems_29 rfl ?_
          exact r_iret C hr dX1_hashOfItems_30 ⟨by rw [← hF]; rfl, rfl⟩ (Nat.le_of_ble_eq_true rfl) (Nat.le_of_ble_eq_true rfl)
      · first
        | exfalso; first | omega | contradiction
        | skip
          refine r_bipush (v := (nI 31)) C dX1_hashOfItems_12 (by decide) ?_
          refine r_iload_n C dX1_hashOfItems_14 rfl ?_
          refine r_imul C dX1_hashOfItems_15 ?_
          refine r_aload_n C dX1_hashOfItems_16 rfl ?_
          refine r_iload_n C dX1_hashOfItems_17 rfl ?_
          refine d_V (st := [.int ((nI 31) * h)]) hX.stb C hE (C_itemAt (f := f) (r := r) (kn := kn) (i := i) (k := k) hX (by first | omega | (simp [up2, *]; done) | (simp [up2, *]; omega) | (simp only [up2_eq]; omega)) (by first | omega | (simp [up2, *]; done) | (simp [up2, *]; omega) | (simp only [up2_eq]; omega)) (by first | omega | (simp [up2, *]; done) | (simp [up2, *]; omega) | (simp only [up2_eq]; omega))) pk_X1_itemAt qm_X1_32 (3 + i) 5 rfl rfl (wc_p (by first | omega | (simp [up2, *]; done) | (simp [up2, *]; omega) | (simp only [up2_eq]; omega))) rfl rfl (Nat.le_of_ble_eq_true rfl) dX1_hashOfItems_18 ⟨Nat.le_of_ble_eq_true rfl, Nat.le_of_ble_eq_true rfl⟩ ⟨Nat.le_of_ble_eq_true rfl, Nat.le_of_ble_eq_true rfl⟩ ?_
          refine r_iadd C dX1_hashOfItems_21 ?_
          refine r_istore_n C dX1_hashOfItems_22 (by decide) rfl ?_
          refine r_iincN C dX1_hashOfItems_23 rfl (by decide) rfl ?_
          refine r_goto (tgt := 4) C dX1_hashOfItems_26 (by decide) ?_
          exact (Nat.not_lt_zero _ (by omega)).elim
    | succ d ih_L4 =>
      intro k h hk hF
      refine r_iload_n C dX1_hashOfItems_4 rfl ?_
      refine r_aload_n C dX1_hashOfItems_5 rfl ?_
      refine p_get (v := .int (nI (f 4 i))) C 4 (by first | omega | (simp [up2, *]; done) | (simp [up2, *]; omega) | (simp only [up2_eq]; omega)) (by decide) qf_X1_29 rfl rfl dX1_hashOfItems_6 ?_
      refine r_icN_ge (tgt := 29) C (by first | omega | (simp [up2, *]; done) | (simp [up2, *]; omega) | (simp only [up2_eq]; omega)) (by first | omega | (simp [up2, *]; done) | (simp [up2, *]; omega) | (simp only [up2_eq]; omega)) dX1_hashOfItems_9 (by decide) (fun h9_2 => ?_) (fun h9_2 => ?_)
      · first
        | exfalso; first | omega | contradiction
        | skip
          refine r_iload_n C dX1_hashOfItems_29 rfl ?_
          exact r_iret C hr dX1_hashOfItems_30 ⟨by rw [← hF]; rfl, rfl⟩ (Nat.le_of_ble_eq_true rfl) (Nat.le_of_ble_eq_true rfl)
      · first
        | exfalso; first | omega | contradiction
        | skip
          refine r_bipush (v := (nI 31)) C dX1_hashOfItems_12 (by decide) ?_
          refine r_iload_n C dX1_hashOfItems_14 rfl ?_
          refine r_imul C dX1_hashOfItems_15 ?_
          refine r_aload_n C dX1_hashOfItems_16 rfl ?_
          refine r_iload_n C dX1_hashOfItems_17 rfl ?_
          refine d_V (st := [.int ((nI 31) * h)]) hX.stb C hE (C_itemAt (f := f) (r := r) (kn := kn) (i := i) (k := k) hX (by first | omega | (simp [up2, *]; done) | (simp [up2, *]; omega) | (simp only [up2_eq]; omega)) (by first | omega | (simp [up2, *]; done) | (simp [up2, *]; omega) | (simp only [up2_eq]; omega)) (by first | omega | (simp [up2, *]; done) | (simp [up2, *]; omega) | (simp only [up2_eq]; omega))) pk_X1_itemAt qm_X1_32 (3 + i) 5 rfl rfl (wc_p (by first | omega | (simp [up2, *]; done) | (simp [up2, *]; omega) | (simp only [up2_eq]; omega))) rfl rfl (Nat.le_of_ble_eq_true rfl) dX1_hashOfItems_18 ⟨Nat.le_of_ble_eq_true rfl, Nat.le_of_ble_eq_true rfl⟩ ⟨Nat.le_of_ble_eq_true rfl, Nat.le_of_ble_eq_true rfl⟩ ?_
          refine r_iadd C dX1_hashOfItems_21 ?_
          refine r_istore_n C dX1_hashOfItems_22 (by decide) rfl ?_
          refine r_iincN C dX1_hashOfItems_23 rfl (by decide) rfl ?_
          refine r_goto (tgt := 4) C dX1_hashOfItems_26 (by decide) ?_
          exact ih_L4 (k + 1) _ (by first | omega | (simp [up2, *]; done) | (simp [up2, *]; omega) | (simp only [up2_eq]; omega)) (by rw [← hF]; rfl)
  exact L4 (f 4 i) 0 _ (by first | omega | (simp [up2, *]; done) | (simp [up2, *]; omega) | (simp only [up2_eq]; omega)) rfl
theorem pk_X1_exchangeTwo : PkV RX1 yX1_exchangeTwo cX1_exchangeTwo 4 none 2 := ⟨⟨qi_X1_exchangeTwo, qs_X1_exchangeTwo, qz_X1, qc_X1_exchangeTwo⟩, rfl, mh_X1.1, mh_X1.2, pd_2⟩
theorem dX1_turn_0 : decode cX1_turn 0 = .ok (.iload_n 2, 1) := dqo_28 (kb_of ke_X1_turn 0 rfl)
theorem dX1_turn_1 : decode cX1_turn 1 = .ok (.iconst 1, 1) := dqo_4 (kb_of ke_X1_turn 1 rfl)
theorem dX1_turn_2 : decode cX1_turn 2 = .ok (.isub, 1) := dqo_100 (kb_of ke_X1_turn 2 rfl)
theorem dX1_turn_3 : decode cX1_turn 3 = .ok (.istore_n 3, 1) := dqo_62 (kb_of ke_X1_turn 3 rfl)
theorem dX1_turn_4 : decode cX1_turn 4 = .ok (.iload_n 1, 1) := dqo_27 (kb_of ke_X1_turn 4 rfl)
theorem dX1_turn_5 : decode cX1_turn 5 = .ok (.istore 4, 2) := dqo_54 4 (kb_of ke_X1_turn 5 rfl) (kb_of ke_X1_turn 6 rfl)
theorem dX1_turn_7 : decode cX1_turn 7 = .ok (.iload 4, 2) := dqo_21 4 (kb_of ke_X1_turn 7 rfl) (kb_of ke_X1_turn 8 rfl)
theorem dX1_turn_9 : decode cX1_turn 9 = .ok (.iload_n 3, 1) := dqo_29 (kb_of ke_X1_turn 9 rfl)
theorem dX1_turn_10 : decode cX1_turn 10 = .ok (.if_icmp .ge 19, 3) := dqo_162 0 19 (by decide) (kb_of ke_X1_turn 10 rfl) (kb_of ke_X1_turn 11 rfl) (kb_of ke_X1_turn 12 rfl)
theorem dX1_turn_13 : decode cX1_turn 13 = .ok (.aload_n 0, 1) := dqo_42 (kb_of ke_X1_turn 13 rfl)
theorem dX1_turn_14 : decode cX1_turn 14 = .ok (.iload 4, 2) := dqo_21 4 (kb_of ke_X1_turn 14 rfl) (kb_of ke_X1_turn 15 rfl)
theorem dX1_turn_16 : decode cX1_turn 16 = .ok (.iload_n 3, 1) := dqo_29 (kb_of ke_X1_turn 16 rfl)
theorem dX1_turn_17 : decode cX1_turn 17 = .ok (.invokevirtual 46, 3) := dqo_182 0 46 (kb_of ke_X1_turn 17 rfl) (kb_of ke_X1_turn 18 rfl) (kb_of ke_X1_turn 19 rfl)
theorem dX1_turn_20 : decode cX1_turn 20 = .ok (.iinc 3 (-1), 3) := dqo_132 3 255 (by decide) (kb_of ke_X1_turn 20 rfl) (kb_of ke_X1_turn 21 rfl) (kb_of ke_X1_turn 22 rfl)
theorem dX1_turn_23 : decode cX1_turn 23 = .ok (.iinc 4 1, 3) := dqo_132 4 1 (by decide) (kb_of ke_X1_turn 23 rfl) (kb_of ke_X1_turn 24 rfl) (kb_of ke_X1_turn 25 rfl)
theorem dX1_turn_26 : decode cX1_turn 26 = .ok (.goto (-19), 3) := dqo_167 255 237 (by decide) (kb_of ke_X1_turn 26 rfl) (kb_of ke_X1_turn 27 rfl) (kb_of ke_X1_turn 28 rfl)
theorem dX1_turn_29 : decode cX1_turn 29 = .ok (.return_, 1) := dqo_177 (kb_of ke_X1_turn 29 rfl)
set_option maxRecDepth 100000 in
set_option maxHeartbeats 4000000 in
theorem C_turn {l : Launch} {D : va_G} {cy : Nat → ClassId} {X : (Nat → Prop) → State → Heap → Prop} {a f : Nat → Nat → Nat} {r : Nat → Nat → Int32} {kn : Int32} {Y : va_W} {i : Nat} {p0 : Nat} {q0 : Nat} (hX : EnvX X) (hi : i < 11) (h0 : f 0 i < 7) (hp : p0 ≤ q0) (hq0 : 1 ≤ q0) (hq : f 3 i + q0 ≤ 12) : Cd l D cy X yX1_turn cX1_turn 5 none (rmz 2 60) [.ref (a 1 i), .int (nI p0), .int (nI q0)] (WC cy a f r kn ++ Y) none (WC cy a f (revS r (f 0 i) (f 3 i + p0) (f 3 i + q0)) kn ++ Y) := by
  refine Cm.of [some (.ref (a 1 i)), some (.int (nI p0)), some (.int (nI q0)), none, none] pn_X1 rfl (Nat.le_of_ble_eq_true rfl) ?_
  intro p e s m args below meth c A C hE hr hnt hn
  refine r_iload_n C dX1_turn_0 rfl ?_
  refine r_iconst (v := (nI 1)) C dX1_turn_1 (by decide) ?_
  refine r_isubN C dX1_turn_2 (by first | omega | (simp [up2, *]; done) | (simp [up2, *]; omega) | (simp only [up2_eq]; omega)) ?_
  refine r_istore_n C dX1_turn_3 (by decide) rfl ?_
  refine r_iload_n C dX1_turn_4 rfl ?_
  refine r_istore C dX1_turn_5 (by decide) rfl ?_
  refine r_w (congrArg (fun z => WC cy a f z kn ++ Y) (revT_0 r (f 0 i) (f 3 i + p0) (f 3 i + q0)).symm) ?_
  have L7 : ∀ (d : Nat) (t : Nat), (ht : q0 ≤ p0 + t + t + 1 + d) → (ht2 : t = 0 ∨ p0 + t + t ≤ q0) → vC p l e (rmz 2 60) s m args below meth c D A (vx_MQ below (vG (fun v1 w1 => v1 = none ∧ w1 = WC cy a f (revS r (f 0 i) (f 3 i + p0) (f 3 i + q0)) kn ++ Y) D vwCl A) (vGX (fun _ => False) D vwCl (WC cy a f r kn ++ Y) A) args s (rmz 2 60).cells (rmz 2 60).slots A) 5 0 0 (WC cy a f (revT r (f 0 i) (f 3 i + p0) (f 3 i + q0) t) kn ++ Y) [some (.ref (a 1 i)), some (.int (nI p0)), some (.int (nI q0)), some (.int (nI (q0 - 1 - t))), some (.int (nI (p0 + t)))] 7 [] := by
    intro d
    induction d with
    | zero =>
      intro t ht ht2
      refine r_iload C dX1_turn_7 rfl ?_
      refine r_iload_n C dX1_turn_9 rfl ?_
      refine r_icN_ge (tgt := 29) C (by first | omega | (simp [up2, *]; done) | (simp [up2, *]; omega) | (simp only [up2_eq]; omega)) (by first | omega | (simp [up2, *]; done) | (simp [up2, *]; omega) | (simp only [up2_eq]; omega)) dX1_turn_10 (by decide) (fun h10_1 => ?_) (fun h10_1 => ?_)
      · first
        | exfalso; first | omega | contradiction
        | skip
          exact r_vret C hr dX1_turn_29 ⟨rfl, congrArg (fun z => WC cy a f z kn ++ Y) (revT_end (by omega) (by omega))⟩ (Nat.le_of_ble_eq_true rfl) (Nat.le_of_ble_eq_true rfl)
      · first
        | exfalso; first | omega | contradiction
        | skip
          refine r_aload_n C dX1_turn_13 rfl ?_
          refine r_iload C dX1_turn_14 rfl ?_
          refine r_iload_n C dX1_turn_16 rfl ?_
          refine d_Vv (st := []) hX.stb C hE (C_exchangeTwo (f := f) (r := (revT r (f 0 i) (f 3 i + p0) (f 3 i + q0) t)) (kn := kn) (i := i) (k1 := (p0 + t)) (k2 := (q0 - 1 - t)) hX (by first | omega | (simp [up2, *]; done) | (simp [up2, *]; omega) | (simp only [up2_eq]; omega)) (by first | omega | (simp [up2, *]; done) | (simp [up2, *]; omega) | (simp only [up2_eq]; omega)) (by first | omega | (simp [up2, *]; done) | (simp [up2, *]; omega) | (simp only [up2_eq]; omega)) (by first | omega | (simp [up2, *]; done) | (simp [up2, *]; omega) | (simp only [up2_eq]; omega))) pk_X1_exchangeTwo qm_X1_46 (3 + i) 5 rfl rfl (wc_p (by first | omega | (simp [up2, *]; done) | (simp [up2, *]; omega) | (simp only [up2_eq]; omega))) rfl rfl (Nat.le_of_ble_eq_true rfl) dX1_turn_17 ⟨Nat.le_of_ble_eq_true rfl, Nat.le_of_ble_eq_true rfl⟩ ⟨Nat.le_of_ble_eq_true rfl, Nat.le_of_ble_eq_true rfl⟩ ?_
          refine r_idecP C dX1_turn_20 rfl (by first | omega | (simp [up2, *]; done) | (simp [up2, *]; omega) | (simp only [up2_eq]; omega)) (by decide) rfl ?_
          refine r_iincN C dX1_turn_23 rfl (by decide) rfl ?_
          refine r_goto (tgt := 7) C dX1_turn_26 (by decide) ?_
          refine r_w (congrArg (fun z => WC cy a f z kn ++ Y) (revT_step (by omega) (by omega) (by omega))) ?_
          exact (Nat.not_lt_zero _ (by omega)).elim
    | succ d ih_L7 =>
      intro t ht ht2
      refine r_iload C dX1_turn_7 rfl ?_
      refine r_iload_n C dX1_turn_9 rfl ?_
      refine r_icN_ge (tgt := 29) C (by first | omega | (simp [up2, *]; done) | (simp [up2, *]; omega) | (simp only [up2_eq]; omega)) (by first | omega | (simp [up2, *]; done) | (simp [up2, *]; omega) | (simp only [up2_eq]; omega)) dX1_turn_10 (by decide) (fun h10_2 => ?_) (fun h10_2 => ?_)
      · first
        | exfalso; first | omega | contradiction
        | skip
          exact r_vret C hr dX1_turn_29 ⟨rfl, congrArg (fun z => WC cy a f z kn ++ Y) (revT_end (by omega) (by omega))⟩ (Nat.le_of_ble_eq_true rfl) (Nat.le_of_ble_eq_true rfl)
      · first
        | exfalso; first | omega | contradiction
        | skip
          refine r_aload_n C dX1_turn_13 rfl ?_
          refine r_iload C dX1_turn_14 rfl ?_
          refine r_iload_n C dX1_turn_16 rfl ?_
          refine d_Vv (st := []) hX.stb C hE (C_exchangeTwo (f := f) (r := (revT r (f 0 i) (f 3 i + p0) (f 3 i + q0) t)) (kn := kn) (i := i) (k1 := (p0 + t)) (k2 := (q0 - 1 - t)) hX (by first | omega | (simp [up2, *]; done) | (simp [up2, *]; omega) | (simp only [up2_eq]; omega)) (by first | omega | (simp [up2, *]; done) | (simp [up2, *]; omega) | (simp only [up2_eq]; omega)) (by first | omega | (simp [up2, *]; done) | (simp [up2, *]; omega) | (simp only [up2_eq]; omega)) (by first | omega | (simp [up2, *]; done) | (simp [up2, *]; omega) | (simp only [up2_eq]; omega))) pk_X1_exchangeTwo qm_X1_46 (3 + i) 5 rfl rfl (wc_p (by first | omega | (simp [up2, *]; done) | (simp [up2, *]; omega) | (simp only [up2_eq]; omega))) rfl rfl (Nat.le_of_ble_eq_true rfl) dX1_turn_17 ⟨Nat.le_of_ble_eq_true rfl, Nat.le_of_ble_eq_true rfl⟩ ⟨Nat.le_of_ble_eq_true rfl, Nat.le_of_ble_eq_true rfl⟩ ?_
          refine r_idecP C dX1_turn_20 rfl (by first | omega | (simp [up2, *]; done) | (simp [up2, *]; omega) | (simp only [up2_eq]; omega)) (by decide) rfl ?_
          refine r_iincN C dX1_turn_23 rfl (by decide) rfl ?_
          refine r_goto (tgt := 7) C dX1_turn_26 (by decide) ?_
          refine r_w (congrArg (fun z => WC cy a f z kn ++ Y) (revT_step (by omega) (by omega) (by omega))) ?_
          exact ih_L7 (t + 1) (by first | omega | (simp [up2, *]; done) | (simp [up2, *]; omega) | (simp only [up2_eq]; omega)) (by first | omega | (simp [up2, *]; done) | (simp [up2, *]; omega) | (simp only [up2_eq]; omega))
  exact L7 q0 0 (by omega) (Or.inl rfl)
set_option maxRecDepth 100000 in
set_option maxHeartbeats 4000000 in
theorem C_turn0 {l : Launch} {D : va_G} {cy : Nat → ClassId} {X : (Nat → Prop) → State → Heap → Prop} {a f : Nat → Nat → Nat} {r : Nat → Nat → Int32} {kn : Int32} {Y : va_W} {i : Nat} (hX : EnvX X) (hi : i < 11) : Cd l D cy X yX1_turn cX1_turn 5 none (rmz 2 60) [.ref (a 1 i), .int (nI 0), .int (nI 0)] (WC cy a f r kn ++ Y) none (WC cy a f r kn ++ Y) := by
  refine Cm.of [some (.ref (a 1 i)), some (.int (nI 0)), some (.int (nI 0)), none, none] pn_X1 rfl (Nat.le_of_ble_eq_true rfl) ?_
  intro p e s m args below meth c A C hE hr hnt hn
  refine r_iload_n C dX1_turn_0 rfl ?_
  refine r_iconst (v := (nI 1)) C dX1_turn_1 (by decide) ?_
  refine r_isub C dX1_turn_2 ?_
  refine r_istore_n C dX1_turn_3 (by decide) rfl ?_
  refine r_iload_n C dX1_turn_4 rfl ?_
  refine r_istore C dX1_turn_5 (by decide) rfl ?_
  refine r_iload C dX1_turn_7 rfl ?_
  refine r_iload_n C dX1_turn_9 rfl ?_
  refine r_ic_ge (tgt := 29) C dX1_turn_10 (by decide) (fun h10_1 => ?_) (fun h10_1 => ?_)
  · skip
    exact r_vret C hr dX1_turn_29 ⟨rfl, rfl⟩ (Nat.le_of_ble_eq_true rfl) (Nat.le_of_ble_eq_true rfl)
  · exact absurd (by decide) h10_1
theorem dX1_moveUp_0 : decode cX1_moveUp 0 = .ok (.aload_n 0, 1) := dqo_42 (kb_of ke_X1_moveUp 0 rfl)
theorem dX1_moveUp_1 : decode cX1_moveUp 1 = .ok (.getfield 29, 3) := dqo_180 0 29 (kb_of ke_X1_moveUp 1 rfl) (kb_of ke_X1_moveUp 2 rfl) (kb_of ke_X1_moveUp 3 rfl)
theorem dX1_moveUp_4 : decode cX1_moveUp 4 = .ok (.ifCond .ne 4, 3) := dqo_154 0 4 (by decide) (kb_of ke_X1_moveUp 4 rfl) (kb_of ke_X1_moveUp 5 rfl) (kb_of ke_X1_moveUp 6 rfl)
theorem dX1_moveUp_7 : decode cX1_moveUp 7 = .ok (.return_, 1) := dqo_177 (kb_of ke_X1_moveUp 7 rfl)
set_option maxRecDepth 100000 in
set_option maxHeartbeats 4000000 in
theorem C_moveUp0 {l : Launch} {D : va_G} {cy : Nat → ClassId} {X : (Nat → Prop) → State → Heap → Prop} {a f : Nat → Nat → Nat} {r : Nat → Nat → Int32} {kn : Int32} {Y : va_W} {i : Nat} {j : Nat} {x : Int32} (hX : EnvX X) (hi : i < 11) (hz : f 4 i = 0) : Cd l D cy X yX1_moveUp cX1_moveUp 4 none (rmz 2 80) [.ref (a 1 i), .int x, .ref (a 1 j)] (WC cy a f r kn ++ Y) none (WC cy a f r kn ++ Y) := by
  refine Cm.of [some (.ref (a 1 i)), some (.int x), some (.ref (a 1 j)), none] pn_X1 rfl (Nat.le_of_ble_eq_true rfl) ?_
  intro p e s m args below meth c A C hE hr hnt hn
  refine r_aload_n C dX1_moveUp_0 rfl ?_
  refine p_get (v := .int (nI (f 4 i))) C 4 (by first | omega | (simp [up2, *]; done) | (simp [up2, *]; omega) | (simp only [up2_eq]; omega)) (by decide) qf_X1_29 rfl rfl dX1_moveUp_1 ?_
  refine r_ifN_ne (tgt := 8) C (by first | omega | (simp [up2, *]; done) | (simp [up2, *]; omega) | (simp only [up2_eq]; omega)) dX1_moveUp_4 (by decide) (fun h4_1 => ?_) (fun h4_1 => ?_)
  · exact absurd h4_1 (by first | omega | (simp [up2, *]; done) | (simp [up2, *]; omega) | (simp only [up2_eq]; omega))
  · skip
    exact r_vret C hr dX1_moveUp_7 ⟨rfl, rfl⟩ (Nat.le_of_ble_eq_true rfl) (Nat.le_of_ble_eq_true rfl)
theorem pk_X1_becomeLike : PkV RX1 yX1_becomeLike cX1_becomeLike 2 none 1 := ⟨⟨qi_X1_becomeLike, qs_X1_becomeLike, qz_X1, qc_X1_becomeLike⟩, rfl, mh_X1.1, mh_X1.2, pd_4⟩
theorem dX1_moveUp_8 : decode cX1_moveUp 8 = .ok (.aload_n 2, 1) := dqo_44 (kb_of ke_X1_moveUp 8 rfl)
theorem dX1_moveUp_9 : decode cX1_moveUp 9 = .ok (.aload_n 0, 1) := dqo_42 (kb_of ke_X1_moveUp 9 rfl)
theorem dX1_moveUp_10 : decode cX1_moveUp 10 = .ok (.invokevirtual 49, 3) := dqo_182 0 49 (kb_of ke_X1_moveUp 10 rfl) (kb_of ke_X1_moveUp 11 rfl) (kb_of ke_X1_moveUp 12 rfl)
theorem dX1_moveUp_13 : decode cX1_moveUp 13 = .ok (.iconst 0, 1) := dqo_3 (kb_of ke_X1_moveUp 13 rfl)
theorem dX1_moveUp_14 : decode cX1_moveUp 14 = .ok (.istore_n 3, 1) := dqo_62 (kb_of ke_X1_moveUp 14 rfl)
theorem dX1_moveUp_15 : decode cX1_moveUp 15 = .ok (.iload_n 3, 1) := dqo_29 (kb_of ke_X1_moveUp 15 rfl)
theorem dX1_moveUp_16 : decode cX1_moveUp 16 = .ok (.aload_n 0, 1) := dqo_42 (kb_of ke_X1_moveUp 16 rfl)
theorem dX1_moveUp_17 : decode cX1_moveUp 17 = .ok (.getfield 29, 3) := dqo_180 0 29 (kb_of ke_X1_moveUp 17 rfl) (kb_of ke_X1_moveUp 18 rfl) (kb_of ke_X1_moveUp 19 rfl)
theorem dX1_moveUp_20 : decode cX1_moveUp 20 = .ok (.if_icmp .ge 28, 3) := dqo_162 0 28 (by decide) (kb_of ke_X1_moveUp 20 rfl) (kb_of ke_X1_moveUp 21 rfl) (kb_of ke_X1_moveUp 22 rfl)
theorem dX1_moveUp_23 : decode cX1_moveUp 23 = .ok (.aload_n 0, 1) := dqo_42 (kb_of ke_X1_moveUp 23 rfl)
theorem dX1_moveUp_24 : decode cX1_moveUp 24 = .ok (.iload_n 3, 1) := dqo_29 (kb_of ke_X1_moveUp 24 rfl)
theorem dX1_moveUp_25 : decode cX1_moveUp 25 = .ok (.iload_n 1, 1) := dqo_27 (kb_of ke_X1_moveUp 25 rfl)
theorem dX1_moveUp_26 : decode cX1_moveUp 26 = .ok (.iadd, 1) := dqo_96 (kb_of ke_X1_moveUp 26 rfl)
theorem dX1_moveUp_27 : decode cX1_moveUp 27 = .ok (.aload_n 0, 1) := dqo_42 (kb_of ke_X1_moveUp 27 rfl)
theorem dX1_moveUp_28 : decode cX1_moveUp 28 = .ok (.getfield 29, 3) := dqo_180 0 29 (kb_of ke_X1_moveUp 28 rfl) (kb_of ke_X1_moveUp 29 rfl) (kb_of ke_X1_moveUp 30 rfl)
theorem dX1_moveUp_31 : decode cX1_moveUp 31 = .ok (.invokestatic 53, 3) := dqo_184 0 53 (kb_of ke_X1_moveUp 31 rfl) (kb_of ke_X1_moveUp 32 rfl) (kb_of ke_X1_moveUp 33 rfl)
theorem dX1_moveUp_34 : decode cX1_moveUp 34 = .ok (.aload_n 2, 1) := dqo_44 (kb_of ke_X1_moveUp 34 rfl)
theorem dX1_moveUp_35 : decode cX1_moveUp 35 = .ok (.iload_n 3, 1) := dqo_29 (kb_of ke_X1_moveUp 35 rfl)
theorem dX1_moveUp_36 : decode cX1_moveUp 36 = .ok (.invokevirtual 32, 3) := dqo_182 0 32 (kb_of ke_X1_moveUp 36 rfl) (kb_of ke_X1_moveUp 37 rfl) (kb_of ke_X1_moveUp 38 rfl)
theorem dX1_moveUp_39 : decode cX1_moveUp 39 = .ok (.invokevirtual 42, 3) := dqo_182 0 42 (kb_of ke_X1_moveUp 39 rfl) (kb_of ke_X1_moveUp 40 rfl) (kb_of ke_X1_moveUp 41 rfl)
theorem dX1_moveUp_42 : decode cX1_moveUp 42 = .ok (.iinc 3 1, 3) := dqo_132 3 1 (by decide) (kb_of ke_X1_moveUp 42 rfl) (kb_of ke_X1_moveUp 43 rfl) (kb_of ke_X1_moveUp 44 rfl)
theorem dX1_moveUp_45 : decode cX1_moveUp 45 = .ok (.goto (-30), 3) := dqo_167 255 226 (by decide) (kb_of ke_X1_moveUp 45 rfl) (kb_of ke_X1_moveUp 46 rfl) (kb_of ke_X1_moveUp 47 rfl)
theorem dX1_moveUp_48 : decode cX1_moveUp 48 = .ok (.return_, 1) := dqo_177 (kb_of ke_X1_moveUp 48 rfl)
set_option maxRecDepth 100000 in
set_option maxHeartbeats 4000000 in
theorem C_moveUp {l : Launch} {D : va_G} {cy : Nat → ClassId} {X : (Nat → Prop) → State → Heap → Prop} {a f : Nat → Nat → Nat} {r : Nat → Nat → Int32} {kn : Int32} {Y : va_W} {i : Nat} {j : Nat} {x : Int32} (hX : EnvX X) (hi : i < 11) (hj : j < 11) (h0 : f 0 i < 7) (h0j : f 0 j < 7) (h4 : f 3 i + f 4 i ≤ 12) (h3 : f 3 j + f 4 i ≤ 12) (hne : i ≠ j) (hne0 : f 0 j ≠ f 0 i) (hpos : 0 < f 4 i) (hb1 : -1000 ≤ x.toInt) (hb2 : x.toInt ≤ 1000) : Cd l D cy X yX1_moveUp cX1_moveUp 4 none (rmz 2 80) [.ref (a 1 i), .int x, .ref (a 1 j)] (WC cy a f r kn ++ Y) none (WC cy a (up2 f 4 j (f 4 i)) (scS (cpy2 r (f 0 i) (f 3 i) (f 0 j) (f 3 j) (f 4 i)) (f 0 i) (f 3 i) (f 4 i) (rotN (f 4 i) (shN x (f 4 i))) (fun q => r (f 0 i) (f 3 i + q))) kn ++ Y) := by
  have hsh := shN_lt x hpos
  refine Cm.of [some (.ref (a 1 i)), some (.int x), some (.ref (a 1 j)), none] pn_X1 rfl (Nat.le_of_ble_eq_true rfl) ?_
  intro p e s m args below meth c A C hE hr hnt hn
  refine r_aload_n C dX1_moveUp_0 rfl ?_
  refine p_get (v := .int (nI (f 4 i))) C 4 (by first | omega | (simp [up2, *]; done) | (simp [up2, *]; omega) | (simp only [up2_eq]; omega)) (by decide) qf_X1_29 rfl rfl dX1_moveUp_1 ?_
  refine r_ifN_ne (tgt := 8) C (by first | omega | (simp [up2, *]; done) | (simp [up2, *]; omega) | (simp only [up2_eq]; omega)) dX1_moveUp_4 (by decide) (fun h4_1 => ?_) (fun h4_1 => ?_)
  · skip
    refine r_aload_n C dX1_moveUp_8 rfl ?_
    refine r_aload_n C dX1_moveUp_9 rfl ?_
    refine d_Vv (st := []) hX.stb C hE (C_becomeLike (f := f) (r := r) (kn := kn) (i := j) (j := i) hX (by first | omega | (simp [up2, *]; done) | (simp [up2, *]; omega) | (simp only [up2_eq]; omega)) (by first | omega | (simp [up2, *]; done) | (simp [up2, *]; omega) | (simp only [up2_eq]; omega)) (by first | omega | (simp [up2, *]; done) | (simp [up2, *]; omega) | (simp only [up2_eq]; omega)) (by first | omega | (simp [up2, *]; done) | (simp [up2, *]; omega) | (simp only [up2_eq]; omega)) (by first | omega | (simp [up2, *]; done) | (simp [up2, *]; omega) | (simp only [up2_eq]; omega)) (by first | omega | (simp [up2, *]; done) | (simp [up2, *]; omega) | (simp only [up2_eq]; omega))) pk_X1_becomeLike qm_X1_49 (3 + j) 5 rfl rfl (wc_p (by first | omega | (simp [up2, *]; done) | (simp [up2, *]; omega) | (simp only [up2_eq]; omega))) rfl rfl (Nat.le_of_ble_eq_true rfl) dX1_moveUp_10 ⟨Nat.le_of_ble_eq_true rfl, Nat.le_of_ble_eq_true rfl⟩ ⟨Nat.le_of_ble_eq_true rfl, Nat.le_of_ble_eq_true rfl⟩ ?_
    refine r_iconst (v := (nI 0)) C dX1_moveUp_13 (by decide) ?_
    refine r_istore_n C dX1_moveUp_14 (by decide) rfl ?_
    refine r_w (congrArg (fun z => WC cy a (up2 f 4 j (f 4 i)) z kn ++ Y) (scT_0 (cpy2 r (f 0 i) (f 3 i) (f 0 j) (f 3 j) (f 4 i)) (f 0 i) (f 3 i) (f 4 i) (rotN (f 4 i) (shN x (f 4 i))) (fun q => r (f 0 i) (f 3 i + q))).symm) ?_
    have L15 : ∀ (d : Nat) (k : Nat), (hk : k + d = f 4 i) → vC p l e (rmz 2 80) s m args below meth c D A (vx_MQ below (vG (fun v1 w1 => v1 = none ∧ w1 = WC cy a (up2 f 4 j (f 4 i)) (scS (cpy2 r (f 0 i) (f 3 i) (f 0 j) (f 3 j) (f 4 i)) (f 0 i) (f 3 i) (f 4 i) (rotN (f 4 i) (shN x (f 4 i))) (fun q => r (f 0 i) (f 3 i + q))) kn ++ Y) D vwCl A) (vGX (fun _ => False) D vwCl (WC cy a f r kn ++ Y) A) args s (rmz 2 80).cells (rmz 2 80).slots A) 4 0 0 (WC cy a (up2 f 4 j (f 4 i)) (scT (cpy2 r (f 0 i) (f 3 i) (f 0 j) (f 3 j) (f 4 i)) (f 0 i) (f 3 i) (f 4 i) (rotN (f 4 i) (shN x (f 4 i))) (fun q => r (f 0 i) (f 3 i + q)) k) kn ++ Y) [some (.ref (a 1 i)), some (.int x), some (.ref (a 1 j)), some (.int (nI k))] 15 [] := by
      intro d
      induction d with
      | zero =>
        intro k hk
        refine r_iload_n C dX1_moveUp_15 rfl ?_
        refine r_aload_n C dX1_moveUp_16 rfl ?_
        refine p_get (v := .int (nI (f 4 i))) C 4 (by first | omega | (simp [up2, *]; done) | (simp [up2, *]; omega) | (simp only [up2_eq]; omega)) (by decide) qf_X1_29 rfl (by simp [pV, up2, *]) dX1_moveUp_17 ?_
        refine r_icN_ge (tgt := 48) C (by first | omega | (simp [up2, *]; done) | (simp [up2, *]; omega) | (simp only [up2_eq]; omega)) (by first | omega | (simp [up2, *]; done) | (simp [up2, *]; omega) | (simp only [up2_eq]; omega)) dX1_moveUp_20 (by decide) (fun h20_2 => ?_) (fun h20_2 => ?_)
        · first
          | exfalso; first | omega | contradiction
          | skip
            exact r_vret C hr dX1_moveUp_48 ⟨rfl, congrArg (fun z => WC cy a (up2 f 4 j (f 4 i)) z kn ++ Y) (scT_end (by omega) (fun t _ => rotN_lt hpos))⟩ (Nat.le_of_ble_eq_true rfl) (Nat.le_of_ble_eq_true rfl)
        · first
          | exfalso; first | omega | contradiction
          | skip
            refine r_aload_n C dX1_moveUp_23 rfl ?_
            refine r_iload_n C dX1_moveUp_24 rfl ?_
            refine r_iload_n C dX1_moveUp_25 rfl ?_
            refine r_iadd C dX1_moveUp_26 ?_
            refine r_aload_n C dX1_moveUp_27 rfl ?_
            refine p_get (v := .int (nI (f 4 i))) C 4 (by first | omega | (simp [up2, *]; done) | (simp [up2, *]; omega) | (simp only [up2_eq]; omega)) (by decide) qf_X1_29 rfl (by simp [pV, up2, *]) dX1_moveUp_28 ?_
            refine d_S (st := [.ref (a 1 i)]) hX.stb C hE (C_floorMod (w := (WC cy a (up2 f 4 j (f 4 i)) (scT (cpy2 r (f 0 i) (f 3 i) (f 0 j) (f 3 j) (f 4 i)) (f 0 i) (f 3 i) (f 4 i) (rotN (f 4 i) (shN x (f 4 i))) (fun q => r (f 0 i) (f 3 i + q)) k) kn ++ Y)) (x := (((nI k) + x))) (n := (f 4 i)) (by first | omega | (simp [up2, *]; done) | (simp [up2, *]; omega) | (simp only [up2_eq]; omega)) (by first | omega | (simp [up2, *]; done) | (simp [up2, *]; omega) | (simp only [up2_eq]; omega))) pk_J9_floorMod_7cf53 qm_X1_53 rfl rfl (Nat.le_of_ble_eq_true rfl) dX1_moveUp_31 ⟨Nat.le_of_ble_eq_true rfl, Nat.le_of_ble_eq_true rfl⟩ ⟨Nat.le_of_ble_eq_true rfl, Nat.le_of_ble_eq_true rfl⟩ ?_
            refine r_aload_n C dX1_moveUp_34 rfl ?_
            refine r_iload_n C dX1_moveUp_35 rfl ?_
            refine d_V (st := [.int (nI (shN (((nI k) + x)) (f 4 i))), .ref (a 1 i)]) hX.stb C hE (C_itemAt (f := (up2 f 4 j (f 4 i))) (r := (scT (cpy2 r (f 0 i) (f 3 i) (f 0 j) (f 3 j) (f 4 i)) (f 0 i) (f 3 i) (f 4 i) (rotN (f 4 i) (shN x (f 4 i))) (fun q => r (f 0 i) (f 3 i + q)) k)) (kn := kn) (i := j) (k := k) hX (by first | omega | (simp [up2, *]; done) | (simp [up2, *]; omega) | (simp only [up2_eq]; omega)) (by first | omega | (simp [up2, *]; done) | (simp [up2, *]; omega) | (simp only [up2_eq]; omega)) (by first | omega | (simp [up2, *]; done) | (simp [up2, *]; omega) | (simp only [up2_eq]; omega))) pk_X1_itemAt qm_X1_32 (3 + j) 5 rfl rfl (wc_p (by first | omega | (simp [up2, *]; done) | (simp [up2, *]; omega) | (simp only [up2_eq]; omega))) rfl rfl (Nat.le_of_ble_eq_true rfl) dX1_moveUp_36 ⟨Nat.le_of_ble_eq_true rfl, Nat.le_of_ble_eq_true rfl⟩ ⟨Nat.le_of_ble_eq_true rfl, Nat.le_of_ble_eq_true rfl⟩ ?_
            refine d_Vv (st := []) hX.stb C hE (C_putAt (f := (up2 f 4 j (f 4 i))) (r := (scT (cpy2 r (f 0 i) (f 3 i) (f 0 j) (f 3 j) (f 4 i)) (f 0 i) (f 3 i) (f 4 i) (rotN (f 4 i) (shN x (f 4 i))) (fun q => r (f 0 i) (f 3 i + q)) k)) (kn := kn) (i := i) (k := (shN (((nI k) + x)) (f 4 i))) (x := (((scT (cpy2 r (f 0 i) (f 3 i) (f 0 j) (f 3 j) (f 4 i)) (f 0 i) (f 3 i) (f 4 i) (rotN (f 4 i) (shN x (f 4 i))) (fun q => r (f 0 i) (f 3 i + q)) k) (f 0 j) (f 3 j + k)))) hX (by first | omega | (simp [up2, *]; done) | (simp [up2, *]; omega) | (simp only [up2_eq]; omega)) (by first | omega | (simp [up2, *]; done) | (simp [up2, *]; omega) | (simp only [up2_eq]; omega)) (show f 3 i + shN (nI k + x) (f 4 i) < 12 from by have := shN_lt (nI k + x) (n := f 4 i) (by omega); omega)) pk_X1_putAt qm_X1_42 (3 + i) 5 rfl rfl (wc_p (by first | omega | (simp [up2, *]; done) | (simp [up2, *]; omega) | (simp only [up2_eq]; omega))) rfl rfl (Nat.le_of_ble_eq_true rfl) dX1_moveUp_39 ⟨Nat.le_of_ble_eq_true rfl, Nat.le_of_ble_eq_true rfl⟩ ⟨Nat.le_of_ble_eq_true rfl, Nat.le_of_ble_eq_true rfl⟩ ?_
            refine r_iincN C dX1_moveUp_42 rfl (by decide) rfl ?_
            refine r_goto (tgt := 15) C dX1_moveUp_45 (by decide) ?_
            refine r_w (congrArg (fun z => WC cy a (up2 f 4 j (f 4 i)) z kn ++ Y) (scT_step ((k + shN x (f 4 i)) % f 4 i) (congrArg (f 3 i + ·) (shN_add (by omega) hpos hb1 hb2)) (Nat.mod_lt _ hpos) (rot_to hsh (by omega)) (fun t ht h => rot_inj hsh ht h) (scb_val (fun h => hne0 h) (by omega)))) ?_
            exact (Nat.not_lt_zero _ (by omega)).elim
      | succ d ih_L15 =>
        intro k hk
        refine r_iload_n C dX1_moveUp_15 rfl ?_
        refine r_aload_n C dX1_moveUp_16 rfl ?_
        refine p_get (v := .int (nI (f 4 i))) C 4 (by first | omega | (simp [up2, *]; done) | (simp [up2, *]; omega) | (simp only [up2_eq]; omega)) (by decide) qf_X1_29 rfl (by simp [pV, up2, *]) dX1_moveUp_17 ?_
        refine r_icN_ge (tgt := 48) C (by first | omega | (simp [up2, *]; done) | (simp [up2, *]; omega) | (simp only [up2_eq]; omega)) (by first | omega | (simp [up2, *]; done) | (simp [up2, *]; omega) | (simp only [up2_eq]; omega)) dX1_moveUp_20 (by decide) (fun h20_3 => ?_) (fun h20_3 => ?_)
        · first
          | exfalso; first | omega | contradiction
          | skip
            exact r_vret C hr dX1_moveUp_48 ⟨rfl, congrArg (fun z => WC cy a (up2 f 4 j (f 4 i)) z kn ++ Y) (scT_end (by omega) (fun t _ => rotN_lt hpos))⟩ (Nat.le_of_ble_eq_true rfl) (Nat.le_of_ble_eq_true rfl)
        · first
          | exfalso; first | omega | contradiction
          | skip
            refine r_aload_n C dX1_moveUp_23 rfl ?_
            refine r_iload_n C dX1_moveUp_24 rfl ?_
            refine r_iload_n C dX1_moveUp_25 rfl ?_
            refine r_iadd C dX1_moveUp_26 ?_
            refine r_aload_n C dX1_moveUp_27 rfl ?_
            refine p_get (v := .int (nI (f 4 i))) C 4 (by first | omega | (simp [up2, *]; done) | (simp [up2, *]; omega) | (simp only [up2_eq]; omega)) (by decide) qf_X1_29 rfl (by simp [pV, up2, *]) dX1_moveUp_28 ?_
            refine d_S (st := [.ref (a 1 i)]) hX.stb C hE (C_floorMod (w := (WC cy a (up2 f 4 j (f 4 i)) (scT (cpy2 r (f 0 i) (f 3 i) (f 0 j) (f 3 j) (f 4 i)) (f 0 i) (f 3 i) (f 4 i) (rotN (f 4 i) (shN x (f 4 i))) (fun q => r (f 0 i) (f 3 i + q)) k) kn ++ Y)) (x := (((nI k) + x))) (n := (f 4 i)) (by first | omega | (simp [up2, *]; done) | (simp [up2, *]; omega) | (simp only [up2_eq]; omega)) (by first | omega | (simp [up2, *]; done) | (simp [up2, *]; omega) | (simp only [up2_eq]; omega))) pk_J9_floorMod_7cf53 qm_X1_53 rfl rfl (Nat.le_of_ble_eq_true rfl) dX1_moveUp_31 ⟨Nat.le_of_ble_eq_true rfl, Nat.le_of_ble_eq_true rfl⟩ ⟨Nat.le_of_ble_eq_true rfl, Nat.le_of_ble_eq_true rfl⟩ ?_
            refine r_aload_n C dX1_moveUp_34 rfl ?_
            refine r_iload_n C dX1_moveUp_35 rfl ?_
            refine d_V (st := [.int (nI (shN (((nI k) + x)) (f 4 i))), .ref (a 1 i)]) hX.stb C hE (C_itemAt (f := (up2 f 4 j (f 4 i))) (r := (scT (cpy2 r (f 0 i) (f 3 i) (f 0 j) (f 3 j) (f 4 i)) (f 0 i) (f 3 i) (f 4 i) (rotN (f 4 i) (shN x (f 4 i))) (fun q => r (f 0 i) (f 3 i + q)) k)) (kn := kn) (i := j) (k := k) hX (by first | omega | (simp [up2, *]; done) | (simp [up2, *]; omega) | (simp only [up2_eq]; omega)) (by first | omega | (simp [up2, *]; done) | (simp [up2, *]; omega) | (simp only [up2_eq]; omega)) (by first | omega | (simp [up2, *]; done) | (simp [up2, *]; omega) | (simp only [up2_eq]; omega))) pk_X1_itemAt qm_X1_32 (3 + j) 5 rfl rfl (wc_p (by first | omega | (simp [up2, *]; done) | (simp [up2, *]; omega) | (simp only [up2_eq]; omega))) rfl rfl (Nat.le_of_ble_eq_true rfl) dX1_moveUp_36 ⟨Nat.le_of_ble_eq_true rfl, Nat.le_of_ble_eq_true rfl⟩ ⟨Nat.le_of_ble_eq_true rfl, Nat.le_of_ble_eq_true rfl⟩ ?_
            refine d_Vv (st := []) hX.stb C hE (C_putAt (f := (up2 f 4 j (f 4 i))) (r := (scT (cpy2 r (f 0 i) (f 3 i) (f 0 j) (f 3 j) (f 4 i)) (f 0 i) (f 3 i) (f 4 i) (rotN (f 4 i) (shN x (f 4 i))) (fun q => r (f 0 i) (f 3 i + q)) k)) (kn := kn) (i := i) (k := (shN (((nI k) + x)) (f 4 i))) (x := (((scT (cpy2 r (f 0 i) (f 3 i) (f 0 j) (f 3 j) (f 4 i)) (f 0 i) (f 3 i) (f 4 i) (rotN (f 4 i) (shN x (f 4 i))) (fun q => r (f 0 i) (f 3 i + q)) k) (f 0 j) (f 3 j + k)))) hX (by first | omega | (simp [up2, *]; done) | (simp [up2, *]; omega) | (simp only [up2_eq]; omega)) (by first | omega | (simp [up2, *]; done) | (simp [up2, *]; omega) | (simp only [up2_eq]; omega)) (show f 3 i + shN (nI k + x) (f 4 i) < 12 from by have := shN_lt (nI k + x) (n := f 4 i) (by omega); omega)) pk_X1_putAt qm_X1_42 (3 + i) 5 rfl rfl (wc_p (by first | omega | (simp [up2, *]; done) | (simp [up2, *]; omega) | (simp only [up2_eq]; omega))) rfl rfl (Nat.le_of_ble_eq_true rfl) dX1_moveUp_39 ⟨Nat.le_of_ble_eq_true rfl, Nat.le_of_ble_eq_true rfl⟩ ⟨Nat.le_of_ble_eq_true rfl, Nat.le_of_ble_eq_true rfl⟩ ?_
            refine r_iincN C dX1_moveUp_42 rfl (by decide) rfl ?_
            refine r_goto (tgt := 15) C dX1_moveUp_45 (by decide) ?_
            refine r_w (congrArg (fun z => WC cy a (up2 f 4 j (f 4 i)) z kn ++ Y) (scT_step ((k + shN x (f 4 i)) % f 4 i) (congrArg (f 3 i + ·) (shN_add (by omega) hpos hb1 hb2)) (Nat.mod_lt _ hpos) (rot_to hsh (by omega)) (fun t ht h => rot_inj hsh ht h) (scb_val (fun h => hne0 h) (by omega)))) ?_
            exact ih_L15 (k + 1) (by first | omega | (simp [up2, *]; done) | (simp [up2, *]; omega) | (simp only [up2_eq]; omega))
    exact L15 (f 4 i) 0 (by first | omega | (simp [up2, *]; done) | (simp [up2, *]; omega) | (simp only [up2_eq]; omega))
  · exact absurd h4_1 (by first | omega | (simp [up2, *]; done) | (simp [up2, *]; omega) | (simp only [up2_eq]; omega))
theorem dX1_layHalvesTogether_0 : decode cX1_layHalvesTogether 0 = .ok (.aload_n 1, 1) := dqo_43 (kb_of ke_X1_layHalvesTogether 0 rfl)
theorem dX1_layHalvesTogether_1 : decode cX1_layHalvesTogether 1 = .ok (.aload_n 0, 1) := dqo_42 (kb_of ke_X1_layHalvesTogether 1 rfl)
theorem dX1_layHalvesTogether_2 : decode cX1_layHalvesTogether 2 = .ok (.invokevirtual 49, 3) := dqo_182 0 49 (kb_of ke_X1_layHalvesTogether 2 rfl) (kb_of ke_X1_layHalvesTogether 3 rfl) (kb_of ke_X1_layHalvesTogether 4 rfl)
theorem dX1_layHalvesTogether_5 : decode cX1_layHalvesTogether 5 = .ok (.aload_n 0, 1) := dqo_42 (kb_of ke_X1_layHalvesTogether 5 rfl)
theorem dX1_layHalvesTogether_6 : decode cX1_layHalvesTogether 6 = .ok (.getfield 29, 3) := dqo_180 0 29 (kb_of ke_X1_layHalvesTogether 6 rfl) (kb_of ke_X1_layHalvesTogether 7 rfl) (kb_of ke_X1_layHalvesTogether 8 rfl)
theorem dX1_layHalvesTogether_9 : decode cX1_layHalvesTogether 9 = .ok (.iconst 1, 1) := dqo_4 (kb_of ke_X1_layHalvesTogether 9 rfl)
theorem dX1_layHalvesTogether_10 : decode cX1_layHalvesTogether 10 = .ok (.iadd, 1) := dqo_96 (kb_of ke_X1_layHalvesTogether 10 rfl)
theorem dX1_layHalvesTogether_11 : decode cX1_layHalvesTogether 11 = .ok (.iconst 2, 1) := dqo_5 (kb_of ke_X1_layHalvesTogether 11 rfl)
theorem dX1_layHalvesTogether_12 : decode cX1_layHalvesTogether 12 = .ok (.idiv, 1) := dqo_108 (kb_of ke_X1_layHalvesTogether 12 rfl)
theorem dX1_layHalvesTogether_13 : decode cX1_layHalvesTogether 13 = .ok (.istore_n 2, 1) := dqo_61 (kb_of ke_X1_layHalvesTogether 13 rfl)
theorem dX1_layHalvesTogether_14 : decode cX1_layHalvesTogether 14 = .ok (.iconst 0, 1) := dqo_3 (kb_of ke_X1_layHalvesTogether 14 rfl)
theorem dX1_layHalvesTogether_15 : decode cX1_layHalvesTogether 15 = .ok (.istore_n 3, 1) := dqo_62 (kb_of ke_X1_layHalvesTogether 15 rfl)
theorem dX1_layHalvesTogether_16 : decode cX1_layHalvesTogether 16 = .ok (.iload_n 3, 1) := dqo_29 (kb_of ke_X1_layHalvesTogether 16 rfl)
theorem dX1_layHalvesTogether_17 : decode cX1_layHalvesTogether 17 = .ok (.aload_n 0, 1) := dqo_42 (kb_of ke_X1_layHalvesTogether 17 rfl)
theorem dX1_layHalvesTogether_18 : decode cX1_layHalvesTogether 18 = .ok (.getfield 29, 3) := dqo_180 0 29 (kb_of ke_X1_layHalvesTogether 18 rfl) (kb_of ke_X1_layHalvesTogether 19 rfl) (kb_of ke_X1_layHalvesTogether 20 rfl)
theorem dX1_layHalvesTogether_21 : decode cX1_layHalvesTogether 21 = .ok (.if_icmp .ge 39, 3) := dqo_162 0 39 (by decide) (kb_of ke_X1_layHalvesTogether 21 rfl) (kb_of ke_X1_layHalvesTogether 22 rfl) (kb_of ke_X1_layHalvesTogether 23 rfl)
theorem dX1_layHalvesTogether_24 : decode cX1_layHalvesTogether 24 = .ok (.iload_n 3, 1) := dqo_29 (kb_of ke_X1_layHalvesTogether 24 rfl)
theorem dX1_layHalvesTogether_25 : decode cX1_layHalvesTogether 25 = .ok (.iconst 2, 1) := dqo_5 (kb_of ke_X1_layHalvesTogether 25 rfl)
theorem dX1_layHalvesTogether_26 : decode cX1_layHalvesTogether 26 = .ok (.irem, 1) := dqo_112 (kb_of ke_X1_layHalvesTogether 26 rfl)
theorem dX1_layHalvesTogether_27 : decode cX1_layHalvesTogether 27 = .ok (.ifCond .ne 9, 3) := dqo_154 0 9 (by decide) (kb_of ke_X1_layHalvesTogether 27 rfl) (kb_of ke_X1_layHalvesTogether 28 rfl) (kb_of ke_X1_layHalvesTogether 29 rfl)
theorem dX1_layHalvesTogether_30 : decode cX1_layHalvesTogether 30 = .ok (.iload_n 3, 1) := dqo_29 (kb_of ke_X1_layHalvesTogether 30 rfl)
theorem dX1_layHalvesTogether_31 : decode cX1_layHalvesTogether 31 = .ok (.iconst 2, 1) := dqo_5 (kb_of ke_X1_layHalvesTogether 31 rfl)
theorem dX1_layHalvesTogether_32 : decode cX1_layHalvesTogether 32 = .ok (.idiv, 1) := dqo_108 (kb_of ke_X1_layHalvesTogether 32 rfl)
theorem dX1_layHalvesTogether_33 : decode cX1_layHalvesTogether 33 = .ok (.goto 8, 3) := dqo_167 0 8 (by decide) (kb_of ke_X1_layHalvesTogether 33 rfl) (kb_of ke_X1_layHalvesTogether 34 rfl) (kb_of ke_X1_layHalvesTogether 35 rfl)
theorem dX1_layHalvesTogether_36 : decode cX1_layHalvesTogether 36 = .ok (.iload_n 2, 1) := dqo_28 (kb_of ke_X1_layHalvesTogether 36 rfl)
theorem dX1_layHalvesTogether_37 : decode cX1_layHalvesTogether 37 = .ok (.iload_n 3, 1) := dqo_29 (kb_of ke_X1_layHalvesTogether 37 rfl)
theorem dX1_layHalvesTogether_38 : decode cX1_layHalvesTogether 38 = .ok (.iconst 2, 1) := dqo_5 (kb_of ke_X1_layHalvesTogether 38 rfl)
theorem dX1_layHalvesTogether_39 : decode cX1_layHalvesTogether 39 = .ok (.idiv, 1) := dqo_108 (kb_of ke_X1_layHalvesTogether 39 rfl)
theorem dX1_layHalvesTogether_40 : decode cX1_layHalvesTogether 40 = .ok (.iadd, 1) := dqo_96 (kb_of ke_X1_layHalvesTogether 40 rfl)
theorem dX1_layHalvesTogether_41 : decode cX1_layHalvesTogether 41 = .ok (.istore 4, 2) := dqo_54 4 (kb_of ke_X1_layHalvesTogether 41 rfl) (kb_of ke_X1_layHalvesTogether 42 rfl)
theorem dX1_layHalvesTogether_43 : decode cX1_layHalvesTogether 43 = .ok (.aload_n 0, 1) := dqo_42 (kb_of ke_X1_layHalvesTogether 43 rfl)
theorem dX1_layHalvesTogether_44 : decode cX1_layHalvesTogether 44 = .ok (.iload_n 3, 1) := dqo_29 (kb_of ke_X1_layHalvesTogether 44 rfl)
theorem dX1_layHalvesTogether_45 : decode cX1_layHalvesTogether 45 = .ok (.aload_n 1, 1) := dqo_43 (kb_of ke_X1_layHalvesTogether 45 rfl)
theorem dX1_layHalvesTogether_46 : decode cX1_layHalvesTogether 46 = .ok (.iload 4, 2) := dqo_21 4 (kb_of ke_X1_layHalvesTogether 46 rfl) (kb_of ke_X1_layHalvesTogether 47 rfl)
theorem dX1_layHalvesTogether_48 : decode cX1_layHalvesTogether 48 = .ok (.invokevirtual 32, 3) := dqo_182 0 32 (kb_of ke_X1_layHalvesTogether 48 rfl) (kb_of ke_X1_layHalvesTogether 49 rfl) (kb_of ke_X1_layHalvesTogether 50 rfl)
theorem dX1_layHalvesTogether_51 : decode cX1_layHalvesTogether 51 = .ok (.invokevirtual 42, 3) := dqo_182 0 42 (kb_of ke_X1_layHalvesTogether 51 rfl) (kb_of ke_X1_layHalvesTogether 52 rfl) (kb_of ke_X1_layHalvesTogether 53 rfl)
theorem dX1_layHalvesTogether_54 : decode cX1_layHalvesTogether 54 = .ok (.iinc 3 1, 3) := dqo_132 3 1 (by decide) (kb_of ke_X1_layHalvesTogether 54 rfl) (kb_of ke_X1_layHalvesTogether 55 rfl) (kb_of ke_X1_layHalvesTogether 56 rfl)
theorem dX1_layHalvesTogether_57 : decode cX1_layHalvesTogether 57 = .ok (.goto (-41), 3) := dqo_167 255 215 (by decide) (kb_of ke_X1_layHalvesTogether 57 rfl) (kb_of ke_X1_layHalvesTogether 58 rfl) (kb_of ke_X1_layHalvesTogether 59 rfl)
theorem dX1_layHalvesTogether_60 : decode cX1_layHalvesTogether 60 = .ok (.return_, 1) := dqo_177 (kb_of ke_X1_layHalvesTogether 60 rfl)
set_option maxRecDepth 100000 in
set_option maxHeartbeats 4000000 in
theorem C_layHalvesTogether {l : Launch} {D : va_G} {cy : Nat → ClassId} {X : (Nat → Prop) → State → Heap → Prop} {a f : Nat → Nat → Nat} {r : Nat → Nat → Int32} {kn : Int32} {Y : va_W} {i : Nat} {j : Nat} (hX : EnvX X) (hi : i < 11) (hj : j < 11) (h0 : f 0 i < 7) (h0j : f 0 j < 7) (h4 : f 3 i + f 4 i ≤ 12) (h3 : f 3 j + f 4 i ≤ 12) (hne : i ≠ j) (hne0 : f 0 j ≠ f 0 i) : Cd l D cy X yX1_layHalvesTogether cX1_layHalvesTogether 5 none (rmz 2 80) [.ref (a 1 i), .ref (a 1 j)] (WC cy a f r kn ++ Y) none (WC cy a (up2 f 4 j (f 4 i)) (scS (cpy2 r (f 0 i) (f 3 i) (f 0 j) (f 3 j) (f 4 i)) (f 0 i) (f 3 i) (f 4 i) (fun t => t) (fun q => r (f 0 i) (f 3 i + layN (f 4 i) q))) kn ++ Y) := by
  refine Cm.of [some (.ref (a 1 i)), some (.ref (a 1 j)), none, none, none] pn_X1 rfl (Nat.le_of_ble_eq_true rfl) ?_
  intro p e s m args below meth c A C hE hr hnt hn
  refine r_aload_n C dX1_layHalvesTogether_0 rfl ?_
  refine r_aload_n C dX1_layHalvesTogether_1 rfl ?_
  refine d_Vv (st := []) hX.stb C hE (C_becomeLike (f := f) (r := r) (kn := kn) (i := j) (j := i) hX (by first | omega | (simp [up2, *]; done) | (simp [up2, *]; omega) | (simp only [up2_eq]; omega)) (by first | omega | (simp [up2, *]; done) | (simp [up2, *]; omega) | (simp only [up2_eq]; omega)) (by first | omega | (simp [up2, *]; done) | (simp [up2, *]; omega) | (simp only [up2_eq]; omega)) (by first | omega | (simp [up2, *]; done) | (simp [up2, *]; omega) | (simp only [up2_eq]; omega)) (by first | omega | (simp [up2, *]; done) | (simp [up2, *]; omega) | (simp only [up2_eq]; omega)) (by first | omega | (simp [up2, *]; done) | (simp [up2, *]; omega) | (simp only [up2_eq]; omega))) pk_X1_becomeLike qm_X1_49 (3 + j) 5 rfl rfl (wc_p (by first | omega | (simp [up2, *]; done) | (simp [up2, *]; omega) | (simp only [up2_eq]; omega))) rfl rfl (Nat.le_of_ble_eq_true rfl) dX1_layHalvesTogether_2 ⟨Nat.le_of_ble_eq_true rfl, Nat.le_of_ble_eq_true rfl⟩ ⟨Nat.le_of_ble_eq_true rfl, Nat.le_of_ble_eq_true rfl⟩ ?_
  refine r_aload_n C dX1_layHalvesTogether_5 rfl ?_
  refine p_get (v := .int (nI (f 4 i))) C 4 (by first | omega | (simp [up2, *]; done) | (simp [up2, *]; omega) | (simp only [up2_eq]; omega)) (by decide) qf_X1_29 rfl (by simp [pV, up2, *]) dX1_layHalvesTogether_6 ?_
  refine r_iconst (v := (nI 1)) C dX1_layHalvesTogether_9 (by decide) ?_
  refine r_iaddN C dX1_layHalvesTogether_10 ?_
  refine r_iconst (v := (nI 2)) C dX1_layHalvesTogether_11 (by decide) ?_
  refine r_idivN C dX1_layHalvesTogether_12 (by first | omega | (simp [up2, *]; done) | (simp [up2, *]; omega) | (simp only [up2_eq]; omega)) (by first | omega | (simp [up2, *]; done) | (simp [up2, *]; omega) | (simp only [up2_eq]; omega)) (by first | omega | (simp [up2, *]; done) | (simp [up2, *]; omega) | (simp only [up2_eq]; omega)) ?_
  refine r_istore_n C dX1_layHalvesTogether_13 (by decide) rfl ?_
  refine r_iconst (v := (nI 0)) C dX1_layHalvesTogether_14 (by decide) ?_
  refine r_istore_n C dX1_layHalvesTogether_15 (by decide) rfl ?_
  refine r_w (congrArg (fun z => WC cy a (up2 f 4 j (f 4 i)) z kn ++ Y) (scT_0 (cpy2 r (f 0 i) (f 3 i) (f 0 j) (f 3 j) (f 4 i)) (f 0 i) (f 3 i) (f 4 i) (fun t => t) (fun q => r (f 0 i) (f 3 i + layN (f 4 i) q))).symm) ?_
  have L16 : ∀ (d : Nat) (k : Nat), (hk : k + d = f 4 i) → vC p l e (rmz 2 80) s m args below meth c D A (vx_MQ below (vG (fun v1 w1 => v1 = none ∧ w1 = WC cy a (up2 f 4 j (f 4 i)) (scS (cpy2 r (f 0 i) (f 3 i) (f 0 j) (f 3 j) (f 4 i)) (f 0 i) (f 3 i) (f 4 i) (fun t => t) (fun q => r (f 0 i) (f 3 i + layN (f 4 i) q))) kn ++ Y) D vwCl A) (vGX (fun _ => False) D vwCl (WC cy a f r kn ++ Y) A) args s (rmz 2 80).cells (rmz 2 80).slots A) 5 0 0 (WC cy a (up2 f 4 j (f 4 i)) (scT (cpy2 r (f 0 i) (f 3 i) (f 0 j) (f 3 j) (f 4 i)) (f 0 i) (f 3 i) (f 4 i) (fun t => t) (fun q => r (f 0 i) (f 3 i + layN (f 4 i) q)) k) kn ++ Y) [some (.ref (a 1 i)), some (.ref (a 1 j)), some (.int (nI ((f 4 i + 1) / 2))), some (.int (nI k)), none] 16 [] := by
    intro d
    induction d with
    | zero =>
      intro k hk
      refine r_iload_n C dX1_layHalvesTogether_16 rfl ?_
      refine r_aload_n C dX1_layHalvesTogether_17 rfl ?_
      refine p_get (v := .int (nI (f 4 i))) C 4 (by first | omega | (simp [up2, *]; done) | (simp [up2, *]; omega) | (simp only [up2_eq]; omega)) (by decide) qf_X1_29 rfl (by simp [pV, up2, *]) dX1_layHalvesTogether_18 ?_
      refine r_icN_ge (tgt := 60) C (by first | omega | (simp [up2, *]; done) | (simp [up2, *]; omega) | (simp only [up2_eq]; omega)) (by first | omega | (simp [up2, *]; done) | (simp [up2, *]; omega) | (simp only [up2_eq]; omega)) dX1_layHalvesTogether_21 (by decide) (fun h21_1 => ?_) (fun h21_1 => ?_)
      · first
        | exfalso; first | omega | contradiction
        | skip
          exact r_vret C hr dX1_layHalvesTogether_60 ⟨rfl, congrArg (fun z => WC cy a (up2 f 4 j (f 4 i)) z kn ++ Y) (scT_end (by omega) (fun t ht => ht))⟩ (Nat.le_of_ble_eq_true rfl) (Nat.le_of_ble_eq_true rfl)
      · first
        | exfalso; first | omega | contradiction
        | skip
          refine r_iload_n C dX1_layHalvesTogether_24 rfl ?_
          refine r_iconst (v := (nI 2)) C dX1_layHalvesTogether_25 (by decide) ?_
          refine r_iremN C dX1_layHalvesTogether_26 (by first | omega | (simp [up2, *]; done) | (simp [up2, *]; omega) | (simp only [up2_eq]; omega)) (by first | omega | (simp [up2, *]; done) | (simp [up2, *]; omega) | (simp only [up2_eq]; omega)) (by first | omega | (simp [up2, *]; done) | (simp [up2, *]; omega) | (simp only [up2_eq]; omega)) ?_
          refine r_ifN_ne (tgt := 36) C (by first | omega | (simp [up2, *]; done) | (simp [up2, *]; omega) | (simp only [up2_eq]; omega)) dX1_layHalvesTogether_27 (by decide) (fun h27_2 => ?_) (fun h27_2 => ?_)
          · first
            | exfalso; first | omega | contradiction
            | skip
              refine r_iload_n C dX1_layHalvesTogether_36 rfl ?_
              refine r_iload_n C dX1_layHalvesTogether_37 rfl ?_
              refine r_iconst (v := (nI 2)) C dX1_layHalvesTogether_38 (by decide) ?_
              refine r_idivN C dX1_layHalvesTogether_39 (by first | omega | (simp [up2, *]; done) | (simp [up2, *]; omega) | (simp only [up2_eq]; omega)) (by first | omega | (simp [up2, *]; done) | (simp [up2, *]; omega) | (simp only [up2_eq]; omega)) (by first | omega | (simp [up2, *]; done) | (simp [up2, *]; omega) | (simp only [up2_eq]; omega)) ?_
              refine r_iaddN C dX1_layHalvesTogether_40 ?_
              refine r_istore C dX1_layHalvesTogether_41 (by decide) rfl ?_
              refine r_aload_n C dX1_layHalvesTogether_43 rfl ?_
              refine r_iload_n C dX1_layHalvesTogether_44 rfl ?_
              refine r_aload_n C dX1_layHalvesTogether_45 rfl ?_
              refine r_iload C dX1_layHalvesTogether_46 rfl ?_
              refine d_V (st := [.int (nI k), .ref (a 1 i)]) hX.stb C hE (C_itemAt (f := (up2 f 4 j (f 4 i))) (r := (scT (cpy2 r (f 0 i) (f 3 i) (f 0 j) (f 3 j) (f 4 i)) (f 0 i) (f 3 i) (f 4 i) (fun t => t) (fun q => r (f 0 i) (f 3 i + layN (f 4 i) q)) k)) (kn := kn) (i := j) (k := (((f 4 i + 1) / 2) + (k / 2))) hX (by first | omega | (simp [up2, *]; done) | (simp [up2, *]; omega) | (simp only [up2_eq]; omega)) (by first | omega | (simp [up2, *]; done) | (simp [up2, *]; omega) | (simp only [up2_eq]; omega)) (by first | omega | (simp [up2, *]; done) | (simp [up2, *]; omega) | (simp only [up2_eq]; omega))) pk_X1_itemAt qm_X1_32 (3 + j) 5 rfl rfl (wc_p (by first | omega | (simp [up2, *]; done) | (simp [up2, *]; omega) | (simp only [up2_eq]; omega))) rfl rfl (Nat.le_of_ble_eq_true rfl) dX1_layHalvesTogether_48 ⟨Nat.le_of_ble_eq_true rfl, Nat.le_of_ble_eq_true rfl⟩ ⟨Nat.le_of_ble_eq_true rfl, Nat.le_of_ble_eq_true rfl⟩ ?_
              refine d_Vv (st := []) hX.stb C hE (C_putAt (f := (up2 f 4 j (f 4 i))) (r := (scT (cpy2 r (f 0 i) (f 3 i) (f 0 j) (f 3 j) (f 4 i)) (f 0 i) (f 3 i) (f 4 i) (fun t => t) (fun q => r (f 0 i) (f 3 i + layN (f 4 i) q)) k)) (kn := kn) (i := i) (k := k) (x := (((scT (cpy2 r (f 0 i) (f 3 i) (f 0 j) (f 3 j) (f 4 i)) (f 0 i) (f 3 i) (f 4 i) (fun t => t) (fun q => r (f 0 i) (f 3 i + layN (f 4 i) q)) k) (f 0 j) (f 3 j + (((f 4 i + 1) / 2) + (k / 2)))))) hX (by first | omega | (simp [up2, *]; done) | (simp [up2, *]; omega) | (simp only [up2_eq]; omega)) (by first | omega | (simp [up2, *]; done) | (simp [up2, *]; omega) | (simp only [up2_eq]; omega)) (by first | omega | (simp [up2, *]; done) | (simp [up2, *]; omega) | (simp only [up2_eq]; omega))) pk_X1_putAt qm_X1_42 (3 + i) 5 rfl rfl (wc_p (by first | omega | (simp [up2, *]; done) | (simp [up2, *]; omega) | (simp only [up2_eq]; omega))) rfl rfl (Nat.le_of_ble_eq_true rfl) dX1_layHalvesTogether_51 ⟨Nat.le_of_ble_eq_true rfl, Nat.le_of_ble_eq_true rfl⟩ ⟨Nat.le_of_ble_eq_true rfl, Nat.le_of_ble_eq_true rfl⟩ ?_
              refine r_iincN C dX1_layHalvesTogether_54 rfl (by decide) rfl ?_
              refine r_goto (tgt := 16) C dX1_layHalvesTogether_57 (by decide) ?_
              refine r_w (congrArg (fun z => WC cy a (up2 f 4 j (f 4 i)) z kn ++ Y) (scT_step k rfl (by omega) rfl (fun t _ h => h) ((scb_val (fun h => hne0 h) (by omega)).trans (congrArg (fun z => r (f 0 i) (f 3 i + z)) (by unfold layN; first | rw [if_pos (by assumption)] | rw [if_neg (by assumption)]))))) ?_
              refine r_drop 4 ?_
              exact (Nat.not_lt_zero _ (by omega)).elim
          · first
            | exfalso; first | omega | contradiction
            | skip
              refine r_iload_n C dX1_layHalvesTogether_30 rfl ?_
              refine r_iconst (v := (nI 2)) C dX1_layHalvesTogether_31 (by decide) ?_
              refine r_idivN C dX1_layHalvesTogether_32 (by first | omega | (simp [up2, *]; done) | (simp [up2, *]; omega) | (simp only [up2_eq]; omega)) (by first | omega | (simp [up2, *]; done) | (simp [up2, *]; omega) | (simp only [up2_eq]; omega)) (by first | omega | (simp [up2, *]; done) | (simp [up2, *]; omega) | (simp only [up2_eq]; omega)) ?_
              refine r_goto (tgt := 41) C dX1_layHalvesTogether_33 (by decide) ?_
              refine r_istore C dX1_layHalvesTogether_41 (by decide) rfl ?_
              refine r_aload_n C dX1_layHalvesTogether_43 rfl ?_
              refine r_iload_n C dX1_layHalvesTogether_44 rfl ?_
              refine r_aload_n C dX1_layHalvesTogether_45 rfl ?_
              refine r_iload C dX1_layHalvesTogether_46 rfl ?_
              refine d_V (st := [.int (nI k), .ref (a 1 i)]) hX.stb C hE (C_itemAt (f := (up2 f 4 j (f 4 i))) (r := (scT (cpy2 r (f 0 i) (f 3 i) (f 0 j) (f 3 j) (f 4 i)) (f 0 i) (f 3 i) (f 4 i) (fun t => t) (fun q => r (f 0 i) (f 3 i + layN (f 4 i) q)) k)) (kn := kn) (i := j) (k := (k / 2)) hX (by first | omega | (simp [up2, *]; done) | (simp [up2, *]; omega) | (simp only [up2_eq]; omega)) (by first | omega | (simp [up2, *]; done) | (simp [up2, *]; omega) | (simp only [up2_eq]; omega)) (by first | omega | (simp [up2, *]; done) | (simp [up2, *]; omega) | (simp only [up2_eq]; omega))) pk_X1_itemAt qm_X1_32 (3 + j) 5 rfl rfl (wc_p (by first | omega | (simp [up2, *]; done) | (simp [up2, *]; omega) | (simp only [up2_eq]; omega))) rfl rfl (Nat.le_of_ble_eq_true rfl) dX1_layHalvesTogether_48 ⟨Nat.le_of_ble_eq_true rfl, Nat.le_of_ble_eq_true rfl⟩ ⟨Nat.le_of_ble_eq_true rfl, Nat.le_of_ble_eq_true rfl⟩ ?_
              refine d_Vv (st := []) hX.stb C hE (C_putAt (f := (up2 f 4 j (f 4 i))) (r := (scT (cpy2 r (f 0 i) (f 3 i) (f 0 j) (f 3 j) (f 4 i)) (f 0 i) (f 3 i) (f 4 i) (fun t => t) (fun q => r (f 0 i) (f 3 i + layN (f 4 i) q)) k)) (kn := kn) (i := i) (k := k) (x := (((scT (cpy2 r (f 0 i) (f 3 i) (f 0 j) (f 3 j) (f 4 i)) (f 0 i) (f 3 i) (f 4 i) (fun t => t) (fun q => r (f 0 i) (f 3 i + layN (f 4 i) q)) k) (f 0 j) (f 3 j + (k / 2))))) hX (by first | omega | (simp [up2, *]; done) | (simp [up2, *]; omega) | (simp only [up2_eq]; omega)) (by first | omega | (simp [up2, *]; done) | (simp [up2, *]; omega) | (simp only [up2_eq]; omega)) (by first | omega | (simp [up2, *]; done) | (simp [up2, *]; omega) | (simp only [up2_eq]; omega))) pk_X1_putAt qm_X1_42 (3 + i) 5 rfl rfl (wc_p (by first | omega | (simp [up2, *]; done) | (simp [up2, *]; omega) | (simp only [up2_eq]; omega))) rfl rfl (Nat.le_of_ble_eq_true rfl) dX1_layHalvesTogether_51 ⟨Nat.le_of_ble_eq_true rfl, Nat.le_of_ble_eq_true rfl⟩ ⟨Nat.le_of_ble_eq_true rfl, Nat.le_of_ble_eq_true rfl⟩ ?_
              refine r_iincN C dX1_layHalvesTogether_54 rfl (by decide) rfl ?_
              refine r_goto (tgt := 16) C dX1_layHalvesTogether_57 (by decide) ?_
              refine r_w (congrArg (fun z => WC cy a (up2 f 4 j (f 4 i)) z kn ++ Y) (scT_step k rfl (by omega) rfl (fun t _ h => h) ((scb_val (fun h => hne0 h) (by omega)).trans (congrArg (fun z => r (f 0 i) (f 3 i + z)) (by unfold layN; first | rw [if_pos (by assumption)] | rw [if_neg (by assumption)]))))) ?_
              refine r_drop 4 ?_
              exact (Nat.not_lt_zero _ (by omega)).elim
    | succ d ih_L16 =>
      intro k hk
      refine r_iload_n C dX1_layHalvesTogether_16 rfl ?_
      refine r_aload_n C dX1_layHalvesTogether_17 rfl ?_
      refine p_get (v := .int (nI (f 4 i))) C 4 (by first | omega | (simp [up2, *]; done) | (simp [up2, *]; omega) | (simp only [up2_eq]; omega)) (by decide) qf_X1_29 rfl (by simp [pV, up2, *]) dX1_layHalvesTogether_18 ?_
      refine r_icN_ge (tgt := 60) C (by first | omega | (simp [up2, *]; done) | (simp [up2, *]; omega) | (simp only [up2_eq]; omega)) (by first | omega | (simp [up2, *]; done) | (simp [up2, *]; omega) | (simp only [up2_eq]; omega)) dX1_layHalvesTogether_21 (by decide) (fun h21_3 => ?_) (fun h21_3 => ?_)
      · first
        | exfalso; first | omega | contradiction
        | skip
          exact r_vret C hr dX1_layHalvesTogether_60 ⟨rfl, congrArg (fun z => WC cy a (up2 f 4 j (f 4 i)) z kn ++ Y) (scT_end (by omega) (fun t ht => ht))⟩ (Nat.le_of_ble_eq_true rfl) (Nat.le_of_ble_eq_true rfl)
      · first
        | exfalso; first | omega | contradiction
        | skip
          refine r_iload_n C dX1_layHalvesTogether_24 rfl ?_
          refine r_iconst (v := (nI 2)) C dX1_layHalvesTogether_25 (by decide) ?_
          refine r_iremN C dX1_layHalvesTogether_26 (by first | omega | (simp [up2, *]; done) | (simp [up2, *]; omega) | (simp only [up2_eq]; omega)) (by first | omega | (simp [up2, *]; done) | (simp [up2, *]; omega) | (simp only [up2_eq]; omega)) (by first | omega | (simp [up2, *]; done) | (simp [up2, *]; omega) | (simp only [up2_eq]; omega)) ?_
          refine r_ifN_ne (tgt := 36) C (by first | omega | (simp [up2, *]; done) | (simp [up2, *]; omega) | (simp only [up2_eq]; omega)) dX1_layHalvesTogether_27 (by decide) (fun h27_4 => ?_) (fun h27_4 => ?_)
          · first
            | exfalso; first | omega | contradiction
            | skip
              refine r_iload_n C dX1_layHalvesTogether_36 rfl ?_
              refine r_iload_n C dX1_layHalvesTogether_37 rfl ?_
              refine r_iconst (v := (nI 2)) C dX1_layHalvesTogether_38 (by decide) ?_
              refine r_idivN C dX1_layHalvesTogether_39 (by first | omega | (simp [up2, *]; done) | (simp [up2, *]; omega) | (simp only [up2_eq]; omega)) (by first | omega | (simp [up2, *]; done) | (simp [up2, *]; omega) | (simp only [up2_eq]; omega)) (by first | omega | (simp [up2, *]; done) | (simp [up2, *]; omega) | (simp only [up2_eq]; omega)) ?_
              refine r_iaddN C dX1_layHalvesTogether_40 ?_
              refine r_istore C dX1_layHalvesTogether_41 (by decide) rfl ?_
              refine r_aload_n C dX1_layHalvesTogether_43 rfl ?_
              refine r_iload_n C dX1_layHalvesTogether_44 rfl ?_
              refine r_aload_n C dX1_layHalvesTogether_45 rfl ?_
              refine r_iload C dX1_layHalvesTogether_46 rfl ?_
              refine d_V (st := [.int (nI k), .ref (a 1 i)]) hX.stb C hE (C_itemAt (f := (up2 f 4 j (f 4 i))) (r := (scT (cpy2 r (f 0 i) (f 3 i) (f 0 j) (f 3 j) (f 4 i)) (f 0 i) (f 3 i) (f 4 i) (fun t => t) (fun q => r (f 0 i) (f 3 i + layN (f 4 i) q)) k)) (kn := kn) (i := j) (k := (((f 4 i + 1) / 2) + (k / 2))) hX (by first | omega | (simp [up2, *]; done) | (simp [up2, *]; omega) | (simp only [up2_eq]; omega)) (by first | omega | (simp [up2, *]; done) | (simp [up2, *]; omega) | (simp only [up2_eq]; omega)) (by first | omega | (simp [up2, *]; done) | (simp [up2, *]; omega) | (simp only [up2_eq]; omega))) pk_X1_itemAt qm_X1_32 (3 + j) 5 rfl rfl (wc_p (by first | omega | (simp [up2, *]; done) | (simp [up2, *]; omega) | (simp only [up2_eq]; omega))) rfl rfl (Nat.le_of_ble_eq_true rfl) dX1_layHalvesTogether_48 ⟨Nat.le_of_ble_eq_true rfl, Nat.le_of_ble_eq_true rfl⟩ ⟨Nat.le_of_ble_eq_true rfl, Nat.le_of_ble_eq_true rfl⟩ ?_
              refine d_Vv (st := []) hX.stb C hE (C_putAt (f := (up2 f 4 j (f 4 i))) (r := (scT (cpy2 r (f 0 i) (f 3 i) (f 0 j) (f 3 j) (f 4 i)) (f 0 i) (f 3 i) (f 4 i) (fun t => t) (fun q => r (f 0 i) (f 3 i + layN (f 4 i) q)) k)) (kn := kn) (i := i) (k := k) (x := (((scT (cpy2 r (f 0 i) (f 3 i) (f 0 j) (f 3 j) (f 4 i)) (f 0 i) (f 3 i) (f 4 i) (fun t => t) (fun q => r (f 0 i) (f 3 i + layN (f 4 i) q)) k) (f 0 j) (f 3 j + (((f 4 i + 1) / 2) + (k / 2)))))) hX (by first | omega | (simp [up2, *]; done) | (simp [up2, *]; omega) | (simp only [up2_eq]; omega)) (by first | omega | (simp [up2, *]; done) | (simp [up2, *]; omega) | (simp only [up2_eq]; omega)) (by first | omega | (simp [up2, *]; done) | (simp [up2, *]; omega) | (simp only [up2_eq]; omega))) pk_X1_putAt qm_X1_42 (3 + i) 5 rfl rfl (wc_p (by first | omega | (simp [up2, *]; done) | (simp [up2, *]; omega) | (simp only [up2_eq]; omega))) rfl rfl (Nat.le_of_ble_eq_true rfl) dX1_layHalvesTogether_51 ⟨Nat.le_of_ble_eq_true rfl, Nat.le_of_ble_eq_true rfl⟩ ⟨Nat.le_of_ble_eq_true rfl, Nat.le_of_ble_eq_true rfl⟩ ?_
              refine r_iincN C dX1_layHalvesTogether_54 rfl (by decide) rfl ?_
              refine r_goto (tgt := 16) C dX1_layHalvesTogether_57 (by decide) ?_
              refine r_w (congrArg (fun z => WC cy a (up2 f 4 j (f 4 i)) z kn ++ Y) (scT_step k rfl (by omega) rfl (fun t _ h => h) ((scb_val (fun h => hne0 h) (by omega)).trans (congrArg (fun z => r (f 0 i) (f 3 i + z)) (by unfold layN; first | rw [if_pos (by assumption)] | rw [if_neg (by assumption)]))))) ?_
              refine r_drop 4 ?_
              exact ih_L16 (k + 1) (by first | omega | (simp [up2, *]; done) | (simp [up2, *]; omega) | (simp only [up2_eq]; omega))
          · first
            | exfalso; first | omega | contradiction
            | skip
              refine r_iload_n C dX1_layHalvesTogether_30 rfl ?_
              refine r_iconst (v := (nI 2)) C dX1_layHalvesTogether_31 (by decide) ?_
              refine r_idivN C dX1_layHalvesTogether_32 (by first | omega | (simp [up2, *]; done) | (simp [up2, *]; omega) | (simp only [up2_eq]; omega)) (by first | omega | (simp [up2, *]; done) | (simp [up2, *]; omega) | (simp only [up2_eq]; omega)) (by first | omega | (simp [up2, *]; done) | (simp [up2, *]; omega) | (simp only [up2_eq]; omega)) ?_
              refine r_goto (tgt := 41) C dX1_layHalvesTogether_33 (by decide) ?_
              refine r_istore C dX1_layHalvesTogether_41 (by decide) rfl ?_
              refine r_aload_n C dX1_layHalvesTogether_43 rfl ?_
              refine r_iload_n C dX1_layHalvesTogether_44 rfl ?_
              refine r_aload_n C dX1_layHalvesTogether_45 rfl ?_
              refine r_iload C dX1_layHalvesTogether_46 rfl ?_
              refine d_V (st := [.int (nI k), .ref (a 1 i)]) hX.stb C hE (C_itemAt (f := (up2 f 4 j (f 4 i))) (r := (scT (cpy2 r (f 0 i) (f 3 i) (f 0 j) (f 3 j) (f 4 i)) (f 0 i) (f 3 i) (f 4 i) (fun t => t) (fun q => r (f 0 i) (f 3 i + layN (f 4 i) q)) k)) (kn := kn) (i := j) (k := (k / 2)) hX (by first | omega | (simp [up2, *]; done) | (simp [up2, *]; omega) | (simp only [up2_eq]; omega)) (by first | omega | (simp [up2, *]; done) | (simp [up2, *]; omega) | (simp only [up2_eq]; omega)) (by first | omega | (simp [up2, *]; done) | (simp [up2, *]; omega) | (simp only [up2_eq]; omega))) pk_X1_itemAt qm_X1_32 (3 + j) 5 rfl rfl (wc_p (by first | omega | (simp [up2, *]; done) | (simp [up2, *]; omega) | (simp only [up2_eq]; omega))) rfl rfl (Nat.le_of_ble_eq_true rfl) dX1_layHalvesTogether_48 ⟨Nat.le_of_ble_eq_true rfl, Nat.le_of_ble_eq_true rfl⟩ ⟨Nat.le_of_ble_eq_true rfl, Nat.le_of_ble_eq_true rfl⟩ ?_
              refine d_Vv (st := []) hX.stb C hE (C_putAt (f := (up2 f 4 j (f 4 i))) (r := (scT (cpy2 r (f 0 i) (f 3 i) (f 0 j) (f 3 j) (f 4 i)) (f 0 i) (f 3 i) (f 4 i) (fun t => t) (fun q => r (f 0 i) (f 3 i + layN (f 4 i) q)) k)) (kn := kn) (i := i) (k := k) (x := (((scT (cpy2 r (f 0 i) (f 3 i) (f 0 j) (f 3 j) (f 4 i)) (f 0 i) (f 3 i) (f 4 i) (fun t => t) (fun q => r (f 0 i) (f 3 i + layN (f 4 i) q)) k) (f 0 j) (f 3 j + (k / 2))))) hX (by first | omega | (simp [up2, *]; done) | (simp [up2, *]; omega) | (simp only [up2_eq]; omega)) (by first | omega | (simp [up2, *]; done) | (simp [up2, *]; omega) | (simp only [up2_eq]; omega)) (by first | omega | (simp [up2, *]; done) | (simp [up2, *]; omega) | (simp only [up2_eq]; omega))) pk_X1_putAt qm_X1_42 (3 + i) 5 rfl rfl (wc_p (by first | omega | (simp [up2, *]; done) | (simp [up2, *]; omega) | (simp only [up2_eq]; omega))) rfl rfl (Nat.le_of_ble_eq_true rfl) dX1_layHalvesTogether_51 ⟨Nat.le_of_ble_eq_true rfl, Nat.le_of_ble_eq_true rfl⟩ ⟨Nat.le_of_ble_eq_true rfl, Nat.le_of_ble_eq_true rfl⟩ ?_
              refine r_iincN C dX1_layHalvesTogether_54 rfl (by decide) rfl ?_
              refine r_goto (tgt := 16) C dX1_layHalvesTogether_57 (by decide) ?_
              refine r_w (congrArg (fun z => WC cy a (up2 f 4 j (f 4 i)) z kn ++ Y) (scT_step k rfl (by omega) rfl (fun t _ h => h) ((scb_val (fun h => hne0 h) (by omega)).trans (congrArg (fun z => r (f 0 i) (f 3 i + z)) (by unfold layN; first | rw [if_pos (by assumption)] | rw [if_neg (by assumption)]))))) ?_
              refine r_drop 4 ?_
              exact ih_L16 (k + 1) (by first | omega | (simp [up2, *]; done) | (simp [up2, *]; omega) | (simp only [up2_eq]; omega))
  exact L16 (f 4 i) 0 (by first | omega | (simp [up2, *]; done) | (simp [up2, *]; omega) | (simp only [up2_eq]; omega))
theorem dX1_drawHalvesApart_0 : decode cX1_drawHalvesApart 0 = .ok (.aload_n 1, 1) := dqo_43 (kb_of ke_X1_drawHalvesApart 0 rfl)
theorem dX1_drawHalvesApart_1 : decode cX1_drawHalvesApart 1 = .ok (.aload_n 0, 1) := dqo_42 (kb_of ke_X1_drawHalvesApart 1 rfl)
theorem dX1_drawHalvesApart_2 : decode cX1_drawHalvesApart 2 = .ok (.invokevirtual 49, 3) := dqo_182 0 49 (kb_of ke_X1_drawHalvesApart 2 rfl) (kb_of ke_X1_drawHalvesApart 3 rfl) (kb_of ke_X1_drawHalvesApart 4 rfl)
theorem dX1_drawHalvesApart_5 : decode cX1_drawHalvesApart 5 = .ok (.aload_n 0, 1) := dqo_42 (kb_of ke_X1_drawHalvesApart 5 rfl)
theorem dX1_drawHalvesApart_6 : decode cX1_drawHalvesApart 6 = .ok (.getfield 29, 3) := dqo_180 0 29 (kb_of ke_X1_drawHalvesApart 6 rfl) (kb_of ke_X1_drawHalvesApart 7 rfl) (kb_of ke_X1_drawHalvesApart 8 rfl)
theorem dX1_drawHalvesApart_9 : decode cX1_drawHalvesApart 9 = .ok (.iconst 1, 1) := dqo_4 (kb_of ke_X1_drawHalvesApart 9 rfl)
theorem dX1_drawHalvesApart_10 : decode cX1_drawHalvesApart 10 = .ok (.iadd, 1) := dqo_96 (kb_of ke_X1_drawHalvesApart 10 rfl)
theorem dX1_drawHalvesApart_11 : decode cX1_drawHalvesApart 11 = .ok (.iconst 2, 1) := dqo_5 (kb_of ke_X1_drawHalvesApart 11 rfl)
theorem dX1_drawHalvesApart_12 : decode cX1_drawHalvesApart 12 = .ok (.idiv, 1) := dqo_108 (kb_of ke_X1_drawHalvesApart 12 rfl)
theorem dX1_drawHalvesApart_13 : decode cX1_drawHalvesApart 13 = .ok (.istore_n 2, 1) := dqo_61 (kb_of ke_X1_drawHalvesApart 13 rfl)
theorem dX1_drawHalvesApart_14 : decode cX1_drawHalvesApart 14 = .ok (.iconst 0, 1) := dqo_3 (kb_of ke_X1_drawHalvesApart 14 rfl)
theorem dX1_drawHalvesApart_15 : decode cX1_drawHalvesApart 15 = .ok (.istore_n 3, 1) := dqo_62 (kb_of ke_X1_drawHalvesApart 15 rfl)
theorem dX1_drawHalvesApart_16 : decode cX1_drawHalvesApart 16 = .ok (.iload_n 3, 1) := dqo_29 (kb_of ke_X1_drawHalvesApart 16 rfl)
theorem dX1_drawHalvesApart_17 : decode cX1_drawHalvesApart 17 = .ok (.aload_n 0, 1) := dqo_42 (kb_of ke_X1_drawHalvesApart 17 rfl)
theorem dX1_drawHalvesApart_18 : decode cX1_drawHalvesApart 18 = .ok (.getfield 29, 3) := dqo_180 0 29 (kb_of ke_X1_drawHalvesApart 18 rfl) (kb_of ke_X1_drawHalvesApart 19 rfl) (kb_of ke_X1_drawHalvesApart 20 rfl)
theorem dX1_drawHalvesApart_21 : decode cX1_drawHalvesApart 21 = .ok (.if_icmp .ge 39, 3) := dqo_162 0 39 (by decide) (kb_of ke_X1_drawHalvesApart 21 rfl) (kb_of ke_X1_drawHalvesApart 22 rfl) (kb_of ke_X1_drawHalvesApart 23 rfl)
theorem dX1_drawHalvesApart_24 : decode cX1_drawHalvesApart 24 = .ok (.iload_n 3, 1) := dqo_29 (kb_of ke_X1_drawHalvesApart 24 rfl)
theorem dX1_drawHalvesApart_25 : decode cX1_drawHalvesApart 25 = .ok (.iconst 2, 1) := dqo_5 (kb_of ke_X1_drawHalvesApart 25 rfl)
theorem dX1_drawHalvesApart_26 : decode cX1_drawHalvesApart 26 = .ok (.irem, 1) := dqo_112 (kb_of ke_X1_drawHalvesApart 26 rfl)
theorem dX1_drawHalvesApart_27 : decode cX1_drawHalvesApart 27 = .ok (.ifCond .ne 9, 3) := dqo_154 0 9 (by decide) (kb_of ke_X1_drawHalvesApart 27 rfl) (kb_of ke_X1_drawHalvesApart 28 rfl) (kb_of ke_X1_drawHalvesApart 29 rfl)
theorem dX1_drawHalvesApart_30 : decode cX1_drawHalvesApart 30 = .ok (.iload_n 3, 1) := dqo_29 (kb_of ke_X1_drawHalvesApart 30 rfl)
theorem dX1_drawHalvesApart_31 : decode cX1_drawHalvesApart 31 = .ok (.iconst 2, 1) := dqo_5 (kb_of ke_X1_drawHalvesApart 31 rfl)
theorem dX1_drawHalvesApart_32 : decode cX1_drawHalvesApart 32 = .ok (.idiv, 1) := dqo_108 (kb_of ke_X1_drawHalvesApart 32 rfl)
theorem dX1_drawHalvesApart_33 : decode cX1_drawHalvesApart 33 = .ok (.goto 8, 3) := dqo_167 0 8 (by decide) (kb_of ke_X1_drawHalvesApart 33 rfl) (kb_of ke_X1_drawHalvesApart 34 rfl) (kb_of ke_X1_drawHalvesApart 35 rfl)
theorem dX1_drawHalvesApart_36 : decode cX1_drawHalvesApart 36 = .ok (.iload_n 2, 1) := dqo_28 (kb_of ke_X1_drawHalvesApart 36 rfl)
theorem dX1_drawHalvesApart_37 : decode cX1_drawHalvesApart 37 = .ok (.iload_n 3, 1) := dqo_29 (kb_of ke_X1_drawHalvesApart 37 rfl)
theorem dX1_drawHalvesApart_38 : decode cX1_drawHalvesApart 38 = .ok (.iconst 2, 1) := dqo_5 (kb_of ke_X1_drawHalvesApart 38 rfl)
theorem dX1_drawHalvesApart_39 : decode cX1_drawHalvesApart 39 = .ok (.idiv, 1) := dqo_108 (kb_of ke_X1_drawHalvesApart 39 rfl)
theorem dX1_drawHalvesApart_40 : decode cX1_drawHalvesApart 40 = .ok (.iadd, 1) := dqo_96 (kb_of ke_X1_drawHalvesApart 40 rfl)
theorem dX1_drawHalvesApart_41 : decode cX1_drawHalvesApart 41 = .ok (.istore 4, 2) := dqo_54 4 (kb_of ke_X1_drawHalvesApart 41 rfl) (kb_of ke_X1_drawHalvesApart 42 rfl)
theorem dX1_drawHalvesApart_43 : decode cX1_drawHalvesApart 43 = .ok (.aload_n 0, 1) := dqo_42 (kb_of ke_X1_drawHalvesApart 43 rfl)
theorem dX1_drawHalvesApart_44 : decode cX1_drawHalvesApart 44 = .ok (.iload 4, 2) := dqo_21 4 (kb_of ke_X1_drawHalvesApart 44 rfl) (kb_of ke_X1_drawHalvesApart 45 rfl)
theorem dX1_drawHalvesApart_46 : decode cX1_drawHalvesApart 46 = .ok (.aload_n 1, 1) := dqo_43 (kb_of ke_X1_drawHalvesApart 46 rfl)
theorem dX1_drawHalvesApart_47 : decode cX1_drawHalvesApart 47 = .ok (.iload_n 3, 1) := dqo_29 (kb_of ke_X1_drawHalvesApart 47 rfl)
theorem dX1_drawHalvesApart_48 : decode cX1_drawHalvesApart 48 = .ok (.invokevirtual 32, 3) := dqo_182 0 32 (kb_of ke_X1_drawHalvesApart 48 rfl) (kb_of ke_X1_drawHalvesApart 49 rfl) (kb_of ke_X1_drawHalvesApart 50 rfl)
theorem dX1_drawHalvesApart_51 : decode cX1_drawHalvesApart 51 = .ok (.invokevirtual 42, 3) := dqo_182 0 42 (kb_of ke_X1_drawHalvesApart 51 rfl) (kb_of ke_X1_drawHalvesApart 52 rfl) (kb_of ke_X1_drawHalvesApart 53 rfl)
theorem dX1_drawHalvesApart_54 : decode cX1_drawHalvesApart 54 = .ok (.iinc 3 1, 3) := dqo_132 3 1 (by decide) (kb_of ke_X1_drawHalvesApart 54 rfl) (kb_of ke_X1_drawHalvesApart 55 rfl) (kb_of ke_X1_drawHalvesApart 56 rfl)
theorem dX1_drawHalvesApart_57 : decode cX1_drawHalvesApart 57 = .ok (.goto (-41), 3) := dqo_167 255 215 (by decide) (kb_of ke_X1_drawHalvesApart 57 rfl) (kb_of ke_X1_drawHalvesApart 58 rfl) (kb_of ke_X1_drawHalvesApart 59 rfl)
theorem dX1_drawHalvesApart_60 : decode cX1_drawHalvesApart 60 = .ok (.return_, 1) := dqo_177 (kb_of ke_X1_drawHalvesApart 60 rfl)
set_option maxRecDepth 100000 in
set_option maxHeartbeats 4000000 in
theorem C_drawHalvesApart {l : Launch} {D : va_G} {cy : Nat → ClassId} {X : (Nat → Prop) → State → Heap → Prop} {a f : Nat → Nat → Nat} {r : Nat → Nat → Int32} {kn : Int32} {Y : va_W} {i : Nat} {j : Nat} (hX : EnvX X) (hi : i < 11) (hj : j < 11) (h0 : f 0 i < 7) (h0j : f 0 j < 7) (h4 : f 3 i + f 4 i ≤ 12) (h3 : f 3 j + f 4 i ≤ 12) (hne : i ≠ j) (hne0 : f 0 j ≠ f 0 i) : Cd l D cy X yX1_drawHalvesApart cX1_drawHalvesApart 5 none (rmz 2 80) [.ref (a 1 i), .ref (a 1 j)] (WC cy a f r kn ++ Y) none (WC cy a (up2 f 4 j (f 4 i)) (scS (cpy2 r (f 0 i) (f 3 i) (f 0 j) (f 3 j) (f 4 i)) (f 0 i) (f 3 i) (f 4 i) (unlN (f 4 i)) (fun q => r (f 0 i) (f 3 i + q))) kn ++ Y) := by
  refine Cm.of [some (.ref (a 1 i)), some (.ref (a 1 j)), none, none, none] pn_X1 rfl (Nat.le_of_ble_eq_true rfl) ?_
  intro p e s m args below meth c A C hE hr hnt hn
  refine r_aload_n C dX1_drawHalvesApart_0 rfl ?_
  refine r_aload_n C dX1_drawHalvesApart_1 rfl ?_
  refine d_Vv (st := []) hX.stb C hE (C_becomeLike (f := f) (r := r) (kn := kn) (i := j) (j := i) hX (by first | omega | (simp [up2, *]; done) | (simp [up2, *]; omega) | (simp only [up2_eq]; omega)) (by first | omega | (simp [up2, *]; done) | (simp [up2, *]; omega) | (simp only [up2_eq]; omega)) (by first | omega | (simp [up2, *]; done) | (simp [up2, *]; omega) | (simp only [up2_eq]; omega)) (by first | omega | (simp [up2, *]; done) | (simp [up2, *]; omega) | (simp only [up2_eq]; omega)) (by first | omega | (simp [up2, *]; done) | (simp [up2, *]; omega) | (simp only [up2_eq]; omega)) (by first | omega | (simp [up2, *]; done) | (simp [up2, *]; omega) | (simp only [up2_eq]; omega))) pk_X1_becomeLike qm_X1_49 (3 + j) 5 rfl rfl (wc_p (by first | omega | (simp [up2, *]; done) | (simp [up2, *]; omega) | (simp only [up2_eq]; omega))) rfl rfl (Nat.le_of_ble_eq_true rfl) dX1_drawHalvesApart_2 ⟨Nat.le_of_ble_eq_true rfl, Nat.le_of_ble_eq_true rfl⟩ ⟨Nat.le_of_ble_eq_true rfl, Nat.le_of_ble_eq_true rfl⟩ ?_
  refine r_aload_n C dX1_drawHalvesApart_5 rfl ?_
  refine p_get (v := .int (nI (f 4 i))) C 4 (by first | omega | (simp [up2, *]; done) | (simp [up2, *]; omega) | (simp only [up2_eq]; omega)) (by decide) qf_X1_29 rfl (by simp [pV, up2, *]) dX1_drawHalvesApart_6 ?_
  refine r_iconst (v := (nI 1)) C dX1_drawHalvesApart_9 (by decide) ?_
  refine r_iaddN C dX1_drawHalvesApart_10 ?_
  refine r_iconst (v := (nI 2)) C dX1_drawHalvesApart_11 (by decide) ?_
  refine r_idivN C dX1_drawHalvesApart_12 (by first | omega | (simp [up2, *]; done) | (simp [up2, *]; omega) | (simp only [up2_eq]; omega)) (by first | omega | (simp [up2, *]; done) | (simp [up2, *]; omega) | (simp only [up2_eq]; omega)) (by first | omega | (simp [up2, *]; done) | (simp [up2, *]; omega) | (simp only [up2_eq]; omega)) ?_
  refine r_istore_n C dX1_drawHalvesApart_13 (by decide) rfl ?_
  refine r_iconst (v := (nI 0)) C dX1_drawHalvesApart_14 (by decide) ?_
  refine r_istore_n C dX1_drawHalvesApart_15 (by decide) rfl ?_
  refine r_w (congrArg (fun z => WC cy a (up2 f 4 j (f 4 i)) z kn ++ Y) (scT_0 (cpy2 r (f 0 i) (f 3 i) (f 0 j) (f 3 j) (f 4 i)) (f 0 i) (f 3 i) (f 4 i) (unlN (f 4 i)) (fun q => r (f 0 i) (f 3 i + q))).symm) ?_
  have L16 : ∀ (d : Nat) (k : Nat), (hk : k + d = f 4 i) → vC p l e (rmz 2 80) s m args below meth c D A (vx_MQ below (vG (fun v1 w1 => v1 = none ∧ w1 = WC cy a (up2 f 4 j (f 4 i)) (scS (cpy2 r (f 0 i) (f 3 i) (f 0 j) (f 3 j) (f 4 i)) (f 0 i) (f 3 i) (f 4 i) (unlN (f 4 i)) (fun q => r (f 0 i) (f 3 i + q))) kn ++ Y) D vwCl A) (vGX (fun _ => False) D vwCl (WC cy a f r kn ++ Y) A) args s (rmz 2 80).cells (rmz 2 80).slots A) 5 0 0 (WC cy a (up2 f 4 j (f 4 i)) (scT (cpy2 r (f 0 i) (f 3 i) (f 0 j) (f 3 j) (f 4 i)) (f 0 i) (f 3 i) (f 4 i) (unlN (f 4 i)) (fun q => r (f 0 i) (f 3 i + q)) k) kn ++ Y) [some (.ref (a 1 i)), some (.ref (a 1 j)), some (.int (nI ((f 4 i + 1) / 2))), some (.int (nI k)), none] 16 [] := by
    intro d
    induction d with
    | zero =>
      intro k hk
      refine r_iload_n C dX1_drawHalvesApart_16 rfl ?_
      refine r_aload_n C dX1_drawHalvesApart_17 rfl ?_
      refine p_get (v := .int (nI (f 4 i))) C 4 (by first | omega | (simp [up2, *]; done) | (simp [up2, *]; omega) | (simp only [up2_eq]; omega)) (by decide) qf_X1_29 rfl (by simp [pV, up2, *]) dX1_drawHalvesApart_18 ?_
      refine r_icN_ge (tgt := 60) C (by first | omega | (simp [up2, *]; done) | (simp [up2, *]; omega) | (simp only [up2_eq]; omega)) (by first | omega | (simp [up2, *]; done) | (simp [up2, *]; omega) | (simp only [up2_eq]; omega)) dX1_drawHalvesApart_21 (by decide) (fun h21_1 => ?_) (fun h21_1 => ?_)
      · first
        | exfalso; first | omega | contradiction
        | skip
          exact r_vret C hr dX1_drawHalvesApart_60 ⟨rfl, congrArg (fun z => WC cy a (up2 f 4 j (f 4 i)) z kn ++ Y) (scT_end (by omega) (fun t ht => unlN_lt ht))⟩ (Nat.le_of_ble_eq_true rfl) (Nat.le_of_ble_eq_true rfl)
      · first
        | exfalso; first | omega | contradiction
        | skip
          refine r_iload_n C dX1_drawHalvesApart_24 rfl ?_
          refine r_iconst (v := (nI 2)) C dX1_drawHalvesApart_25 (by decide) ?_
          refine r_iremN C dX1_drawHalvesApart_26 (by first | omega | (simp [up2, *]; done) | (simp [up2, *]; omega) | (simp only [up2_eq]; omega)) (by first | omega | (simp [up2, *]; done) | (simp [up2, *]; omega) | (simp only [up2_eq]; omega)) (by first | omega | (simp [up2, *]; done) | (simp [up2, *]; omega) | (simp only [up2_eq]; omega)) ?_
          refine r_ifN_ne (tgt := 36) C (by first | omega | (simp [up2, *]; done) | (simp [up2, *]; omega) | (simp only [up2_eq]; omega)) dX1_drawHalvesApart_27 (by decide) (fun h27_2 => ?_) (fun h27_2 => ?_)
          · first
            | exfalso; first | omega | contradiction
            | skip
              refine r_iload_n C dX1_drawHalvesApart_36 rfl ?_
              refine r_iload_n C dX1_drawHalvesApart_37 rfl ?_
              refine r_iconst (v := (nI 2)) C dX1_drawHalvesApart_38 (by decide) ?_
              refine r_idivN C dX1_drawHalvesApart_39 (by first | omega | (simp [up2, *]; done) | (simp [up2, *]; omega) | (simp only [up2_eq]; omega)) (by first | omega | (simp [up2, *]; done) | (simp [up2, *]; omega) | (simp only [up2_eq]; omega)) (by first | omega | (simp [up2, *]; done) | (simp [up2, *]; omega) | (simp only [up2_eq]; omega)) ?_
              refine r_iaddN C dX1_drawHalvesApart_40 ?_
              refine r_istore C dX1_drawHalvesApart_41 (by decide) rfl ?_
              refine r_aload_n C dX1_drawHalvesApart_43 rfl ?_
              refine r_iload C dX1_drawHalvesApart_44 rfl ?_
              refine r_aload_n C dX1_drawHalvesApart_46 rfl ?_
              refine r_iload_n C dX1_drawHalvesApart_47 rfl ?_
              refine d_V (st := [.int (nI (((f 4 i + 1) / 2) + (k / 2))), .ref (a 1 i)]) hX.stb C hE (C_itemAt (f := (up2 f 4 j (f 4 i))) (r := (scT (cpy2 r (f 0 i) (f 3 i) (f 0 j) (f 3 j) (f 4 i)) (f 0 i) (f 3 i) (f 4 i) (unlN (f 4 i)) (fun q => r (f 0 i) (f 3 i + q)) k)) (kn := kn) (i := j) (k := k) hX (by first | omega | (simp [up2, *]; done) | (simp [up2, *]; omega) | (simp only [up2_eq]; omega)) (by first | omega | (simp [up2, *]; done) | (simp [up2, *]; omega) | (simp only [up2_eq]; omega)) (by first | omega | (simp [up2, *]; done) | (simp [up2, *]; omega) | (simp only [up2_eq]; omega))) pk_X1_itemAt qm_X1_32 (3 + j) 5 rfl rfl (wc_p (by first | omega | (simp [up2, *]; done) | (simp [up2, *]; omega) | (simp only [up2_eq]; omega))) rfl rfl (Nat.le_of_ble_eq_true rfl) dX1_drawHalvesApart_48 ⟨Nat.le_of_ble_eq_true rfl, Nat.le_of_ble_eq_true rfl⟩ ⟨Nat.le_of_ble_eq_true rfl, Nat.le_of_ble_eq_true rfl⟩ ?_
              refine d_Vv (st := []) hX.stb C hE (C_putAt (f := (up2 f 4 j (f 4 i))) (r := (scT (cpy2 r (f 0 i) (f 3 i) (f 0 j) (f 3 j) (f 4 i)) (f 0 i) (f 3 i) (f 4 i) (unlN (f 4 i)) (fun q => r (f 0 i) (f 3 i + q)) k)) (kn := kn) (i := i) (k := (((f 4 i + 1) / 2) + (k / 2))) (x := (((scT (cpy2 r (f 0 i) (f 3 i) (f 0 j) (f 3 j) (f 4 i)) (f 0 i) (f 3 i) (f 4 i) (unlN (f 4 i)) (fun q => r (f 0 i) (f 3 i + q)) k) (f 0 j) (f 3 j + k)))) hX (by first | omega | (simp [up2, *]; done) | (simp [up2, *]; omega) | (simp only [up2_eq]; omega)) (by first | omega | (simp [up2, *]; done) | (simp [up2, *]; omega) | (simp only [up2_eq]; omega)) (by first | omega | (simp [up2, *]; done) | (simp [up2, *]; omega) | (simp only [up2_eq]; omega))) pk_X1_putAt qm_X1_42 (3 + i) 5 rfl rfl (wc_p (by first | omega | (simp [up2, *]; done) | (simp [up2, *]; omega) | (simp only [up2_eq]; omega))) rfl rfl (Nat.le_of_ble_eq_true rfl) dX1_drawHalvesApart_51 ⟨Nat.le_of_ble_eq_true rfl, Nat.le_of_ble_eq_true rfl⟩ ⟨Nat.le_of_ble_eq_true rfl, Nat.le_of_ble_eq_true rfl⟩ ?_
              refine r_iincN C dX1_drawHalvesApart_54 rfl (by decide) rfl ?_
              refine r_goto (tgt := 16) C dX1_drawHalvesApart_57 (by decide) ?_
              refine r_w (congrArg (fun z => WC cy a (up2 f 4 j (f 4 i)) z kn ++ Y) (scT_step (layN (f 4 i) k) (congrArg (f 3 i + ·) (by unfold layN; first | rw [if_pos (by assumption)] | rw [if_neg (by assumption)])) (layN_lt (by omega)) (unl_lay (by omega)) (fun t ht h => by rw [← h, lay_unl ht]) (scb_val (fun h => hne0 h) (by omega)))) ?_
              refine r_drop 4 ?_
              exact (Nat.not_lt_zero _ (by omega)).elim
          · first
            | exfalso; first | omega | contradiction
            | skip
              refine r_iload_n C dX1_drawHalvesApart_30 rfl ?_
              refine r_iconst (v := (nI 2)) C dX1_drawHalvesApart_31 (by decide) ?_
              refine r_idivN C dX1_drawHalvesApart_32 (by first | omega | (simp [up2, *]; done) | (simp [up2, *]; omega) | (simp only [up2_eq]; omega)) (by first | omega | (simp [up2, *]; done) | (simp [up2, *]; omega) | (simp only [up2_eq]; omega)) (by first | omega | (simp [up2, *]; done) | (simp [up2, *]; omega) | (simp only [up2_eq]; omega)) ?_
              refine r_goto (tgt := 41) C dX1_drawHalvesApart_33 (by decide) ?_
              refine r_istore C dX1_drawHalvesApart_41 (by decide) rfl ?_
              refine r_aload_n C dX1_drawHalvesApart_43 rfl ?_
              refine r_iload C dX1_drawHalvesApart_44 rfl ?_
              refine r_aload_n C dX1_drawHalvesApart_46 rfl ?_
              refine r_iload_n C dX1_drawHalvesApart_47 rfl ?_
              refine d_V (st := [.int (nI (k / 2)), .ref (a 1 i)]) hX.stb C hE (C_itemAt (f := (up2 f 4 j (f 4 i))) (r := (scT (cpy2 r (f 0 i) (f 3 i) (f 0 j) (f 3 j) (f 4 i)) (f 0 i) (f 3 i) (f 4 i) (unlN (f 4 i)) (fun q => r (f 0 i) (f 3 i + q)) k)) (kn := kn) (i := j) (k := k) hX (by first | omega | (simp [up2, *]; done) | (simp [up2, *]; omega) | (simp only [up2_eq]; omega)) (by first | omega | (simp [up2, *]; done) | (simp [up2, *]; omega) | (simp only [up2_eq]; omega)) (by first | omega | (simp [up2, *]; done) | (simp [up2, *]; omega) | (simp only [up2_eq]; omega))) pk_X1_itemAt qm_X1_32 (3 + j) 5 rfl rfl (wc_p (by first | omega | (simp [up2, *]; done) | (simp [up2, *]; omega) | (simp only [up2_eq]; omega))) rfl rfl (Nat.le_of_ble_eq_true rfl) dX1_drawHalvesApart_48 ⟨Nat.le_of_ble_eq_true rfl, Nat.le_of_ble_eq_true rfl⟩ ⟨Nat.le_of_ble_eq_true rfl, Nat.le_of_ble_eq_true rfl⟩ ?_
              refine d_Vv (st := []) hX.stb C hE (C_putAt (f := (up2 f 4 j (f 4 i))) (r := (scT (cpy2 r (f 0 i) (f 3 i) (f 0 j) (f 3 j) (f 4 i)) (f 0 i) (f 3 i) (f 4 i) (unlN (f 4 i)) (fun q => r (f 0 i) (f 3 i + q)) k)) (kn := kn) (i := i) (k := (k / 2)) (x := (((scT (cpy2 r (f 0 i) (f 3 i) (f 0 j) (f 3 j) (f 4 i)) (f 0 i) (f 3 i) (f 4 i) (unlN (f 4 i)) (fun q => r (f 0 i) (f 3 i + q)) k) (f 0 j) (f 3 j + k)))) hX (by first | omega | (simp [up2, *]; done) | (simp [up2, *]; omega) | (simp only [up2_eq]; omega)) (by first | omega | (simp [up2, *]; done) | (simp [up2, *]; omega) | (simp only [up2_eq]; omega)) (by first | omega | (simp [up2, *]; done) | (simp [up2, *]; omega) | (simp only [up2_eq]; omega))) pk_X1_putAt qm_X1_42 (3 + i) 5 rfl rfl (wc_p (by first | omega | (simp [up2, *]; done) | (simp [up2, *]; omega) | (simp only [up2_eq]; omega))) rfl rfl (Nat.le_of_ble_eq_true rfl) dX1_drawHalvesApart_51 ⟨Nat.le_of_ble_eq_true rfl, Nat.le_of_ble_eq_true rfl⟩ ⟨Nat.le_of_ble_eq_true rfl, Nat.le_of_ble_eq_true rfl⟩ ?_
              refine r_iincN C dX1_drawHalvesApart_54 rfl (by decide) rfl ?_
              refine r_goto (tgt := 16) C dX1_drawHalvesApart_57 (by decide) ?_
              refine r_w (congrArg (fun z => WC cy a (up2 f 4 j (f 4 i)) z kn ++ Y) (scT_step (layN (f 4 i) k) (congrArg (f 3 i + ·) (by unfold layN; first | rw [if_pos (by assumption)] | rw [if_neg (by assumption)])) (layN_lt (by omega)) (unl_lay (by omega)) (fun t ht h => by rw [← h, lay_unl ht]) (scb_val (fun h => hne0 h) (by omega)))) ?_
              refine r_drop 4 ?_
              exact (Nat.not_lt_zero _ (by omega)).elim
    | succ d ih_L16 =>
      intro k hk
      refine r_iload_n C dX1_drawHalvesApart_16 rfl ?_
      refine r_aload_n C dX1_drawHalvesApart_17 rfl ?_
      refine p_get (v := .int (nI (f 4 i))) C 4 (by first | omega | (simp [up2, *]; done) | (simp [up2, *]; omega) | (simp only [up2_eq]; omega)) (by decide) qf_X1_29 rfl (by simp [pV, up2, *]) dX1_drawHalvesApart_18 ?_
      refine r_icN_ge (tgt := 60) C (by first | omega | (simp [up2, *]; done) | (simp [up2, *]; omega) | (simp only [up2_eq]; omega)) (by first | omega | (simp [up2, *]; done) | (simp [up2, *]; omega) | (simp only [up2_eq]; omega)) dX1_drawHalvesApart_21 (by decide) (fun h21_3 => ?_) (fun h21_3 => ?_)
      · first
        | exfalso; first | omega | contradiction
        | skip
          exact r_vret C hr dX1_drawHalvesApart_60 ⟨rfl, congrArg (fun z => WC cy a (up2 f 4 j (f 4 i)) z kn ++ Y) (scT_end (by omega) (fun t ht => unlN_lt ht))⟩ (Nat.le_of_ble_eq_true rfl) (Nat.le_of_ble_eq_true rfl)
      · first
        | exfalso; first | omega | contradiction
        | skip
          refine r_iload_n C dX1_drawHalvesApart_24 rfl ?_
          refine r_iconst (v := (nI 2)) C dX1_drawHalvesApart_25 (by decide) ?_
          refine r_iremN C dX1_drawHalvesApart_26 (by first | omega | (simp [up2, *]; done) | (simp [up2, *]; omega) | (simp only [up2_eq]; omega)) (by first | omega | (simp [up2, *]; done) | (simp [up2, *]; omega) | (simp only [up2_eq]; omega)) (by first | omega | (simp [up2, *]; done) | (simp [up2, *]; omega) | (simp only [up2_eq]; omega)) ?_
          refine r_ifN_ne (tgt := 36) C (by first | omega | (simp [up2, *]; done) | (simp [up2, *]; omega) | (simp only [up2_eq]; omega)) dX1_drawHalvesApart_27 (by decide) (fun h27_4 => ?_) (fun h27_4 => ?_)
          · first
            | exfalso; first | omega | contradiction
            | skip
              refine r_iload_n C dX1_drawHalvesApart_36 rfl ?_
              refine r_iload_n C dX1_drawHalvesApart_37 rfl ?_
              refine r_iconst (v := (nI 2)) C dX1_drawHalvesApart_38 (by decide) ?_
              refine r_idivN C dX1_drawHalvesApart_39 (by first | omega | (simp [up2, *]; done) | (simp [up2, *]; omega) | (simp only [up2_eq]; omega)) (by first | omega | (simp [up2, *]; done) | (simp [up2, *]; omega) | (simp only [up2_eq]; omega)) (by first | omega | (simp [up2, *]; done) | (simp [up2, *]; omega) | (simp only [up2_eq]; omega)) ?_
              refine r_iaddN C dX1_drawHalvesApart_40 ?_
              refine r_istore C dX1_drawHalvesApart_41 (by decide) rfl ?_
              refine r_aload_n C dX1_drawHalvesApart_43 rfl ?_
              refine r_iload C dX1_drawHalvesApart_44 rfl ?_
              refine r_aload_n C dX1_drawHalvesApart_46 rfl ?_
              refine r_iload_n C dX1_drawHalvesApart_47 rfl ?_
              refine d_V (st := [.int (nI (((f 4 i + 1) / 2) + (k / 2))), .ref (a 1 i)]) hX.stb C hE (C_itemAt (f := (up2 f 4 j (f 4 i))) (r := (scT (cpy2 r (f 0 i) (f 3 i) (f 0 j) (f 3 j) (f 4 i)) (f 0 i) (f 3 i) (f 4 i) (unlN (f 4 i)) (fun q => r (f 0 i) (f 3 i + q)) k)) (kn := kn) (i := j) (k := k) hX (by first | omega | (simp [up2, *]; done) | (simp [up2, *]; omega) | (simp only [up2_eq]; omega)) (by first | omega | (simp [up2, *]; done) | (simp [up2, *]; omega) | (simp only [up2_eq]; omega)) (by first | omega | (simp [up2, *]; done) | (simp [up2, *]; omega) | (simp only [up2_eq]; omega))) pk_X1_itemAt qm_X1_32 (3 + j) 5 rfl rfl (wc_p (by first | omega | (simp [up2, *]; done) | (simp [up2, *]; omega) | (simp only [up2_eq]; omega))) rfl rfl (Nat.le_of_ble_eq_true rfl) dX1_drawHalvesApart_48 ⟨Nat.le_of_ble_eq_true rfl, Nat.le_of_ble_eq_true rfl⟩ ⟨Nat.le_of_ble_eq_true rfl, Nat.le_of_ble_eq_true rfl⟩ ?_
              refine d_Vv (st := []) hX.stb C hE (C_putAt (f := (up2 f 4 j (f 4 i))) (r := (scT (cpy2 r (f 0 i) (f 3 i) (f 0 j) (f 3 j) (f 4 i)) (f 0 i) (f 3 i) (f 4 i) (unlN (f 4 i)) (fun q => r (f 0 i) (f 3 i + q)) k)) (kn := kn) (i := i) (k := (((f 4 i + 1) / 2) + (k / 2))) (x := (((scT (cpy2 r (f 0 i) (f 3 i) (f 0 j) (f 3 j) (f 4 i)) (f 0 i) (f 3 i) (f 4 i) (unlN (f 4 i)) (fun q => r (f 0 i) (f 3 i + q)) k) (f 0 j) (f 3 j + k)))) hX (by first | omega | (simp [up2, *]; done) | (simp [up2, *]; omega) | (simp only [up2_eq]; omega)) (by first | omega | (simp [up2, *]; done) | (simp [up2, *]; omega) | (simp only [up2_eq]; omega)) (by first | omega | (simp [up2, *]; done) | (simp [up2, *]; omega) | (simp only [up2_eq]; omega))) pk_X1_putAt qm_X1_42 (3 + i) 5 rfl rfl (wc_p (by first | omega | (simp [up2, *]; done) | (simp [up2, *]; omega) | (simp only [up2_eq]; omega))) rfl rfl (Nat.le_of_ble_eq_true rfl) dX1_drawHalvesApart_51 ⟨Nat.le_of_ble_eq_true rfl, Nat.le_of_ble_eq_true rfl⟩ ⟨Nat.le_of_ble_eq_true rfl, Nat.le_of_ble_eq_true rfl⟩ ?_
              refine r_iincN C dX1_drawHalvesApart_54 rfl (by decide) rfl ?_
              refine r_goto (tgt := 16) C dX1_drawHalvesApart_57 (by decide) ?_
              refine r_w (congrArg (fun z => WC cy a (up2 f 4 j (f 4 i)) z kn ++ Y) (scT_step (layN (f 4 i) k) (congrArg (f 3 i + ·) (by unfold layN; first | rw [if_pos (by assumption)] | rw [if_neg (by assumption)])) (layN_lt (by omega)) (unl_lay (by omega)) (fun t ht h => by rw [← h, lay_unl ht]) (scb_val (fun h => hne0 h) (by omega)))) ?_
              refine r_drop 4 ?_
              exact ih_L16 (k + 1) (by first | omega | (simp [up2, *]; done) | (simp [up2, *]; omega) | (simp only [up2_eq]; omega))
          · first
            | exfalso; first | omega | contradiction
            | skip
              refine r_iload_n C dX1_drawHalvesApart_30 rfl ?_
              refine r_iconst (v := (nI 2)) C dX1_drawHalvesApart_31 (by decide) ?_
              refine r_idivN C dX1_drawHalvesApart_32 (by first | omega | (simp [up2, *]; done) | (simp [up2, *]; omega) | (simp only [up2_eq]; omega)) (by first | omega | (simp [up2, *]; done) | (simp [up2, *]; omega) | (simp only [up2_eq]; omega)) (by first | omega | (simp [up2, *]; done) | (simp [up2, *]; omega) | (simp only [up2_eq]; omega)) ?_
              refine r_goto (tgt := 41) C dX1_drawHalvesApart_33 (by decide) ?_
              refine r_istore C dX1_drawHalvesApart_41 (by decide) rfl ?_
              refine r_aload_n C dX1_drawHalvesApart_43 rfl ?_
              refine r_iload C dX1_drawHalvesApart_44 rfl ?_
              refine r_aload_n C dX1_drawHalvesApart_46 rfl ?_
              refine r_iload_n C dX1_drawHalvesApart_47 rfl ?_
              refine d_V (st := [.int (nI (k / 2)), .ref (a 1 i)]) hX.stb C hE (C_itemAt (f := (up2 f 4 j (f 4 i))) (r := (scT (cpy2 r (f 0 i) (f 3 i) (f 0 j) (f 3 j) (f 4 i)) (f 0 i) (f 3 i) (f 4 i) (unlN (f 4 i)) (fun q => r (f 0 i) (f 3 i + q)) k)) (kn := kn) (i := j) (k := k) hX (by first | omega | (simp [up2, *]; done) | (simp [up2, *]; omega) | (simp only [up2_eq]; omega)) (by first | omega | (simp [up2, *]; done) | (simp [up2, *]; omega) | (simp only [up2_eq]; omega)) (by first | omega | (simp [up2, *]; done) | (simp [up2, *]; omega) | (simp only [up2_eq]; omega))) pk_X1_itemAt qm_X1_32 (3 + j) 5 rfl rfl (wc_p (by first | omega | (simp [up2, *]; done) | (simp [up2, *]; omega) | (simp only [up2_eq]; omega))) rfl rfl (Nat.le_of_ble_eq_true rfl) dX1_drawHalvesApart_48 ⟨Nat.le_of_ble_eq_true rfl, Nat.le_of_ble_eq_true rfl⟩ ⟨Nat.le_of_ble_eq_true rfl, Nat.le_of_ble_eq_true rfl⟩ ?_
              refine d_Vv (st := []) hX.stb C hE (C_putAt (f := (up2 f 4 j (f 4 i))) (r := (scT (cpy2 r (f 0 i) (f 3 i) (f 0 j) (f 3 j) (f 4 i)) (f 0 i) (f 3 i) (f 4 i) (unlN (f 4 i)) (fun q => r (f 0 i) (f 3 i + q)) k)) (kn := kn) (i := i) (k := (k / 2)) (x := (((scT (cpy2 r (f 0 i) (f 3 i) (f 0 j) (f 3 j) (f 4 i)) (f 0 i) (f 3 i) (f 4 i) (unlN (f 4 i)) (fun q => r (f 0 i) (f 3 i + q)) k) (f 0 j) (f 3 j + k)))) hX (by first | omega | (simp [up2, *]; done) | (simp [up2, *]; omega) | (simp only [up2_eq]; omega)) (by first | omega | (simp [up2, *]; done) | (simp [up2, *]; omega) | (simp only [up2_eq]; omega)) (by first | omega | (simp [up2, *]; done) | (simp [up2, *]; omega) | (simp only [up2_eq]; omega))) pk_X1_putAt qm_X1_42 (3 + i) 5 rfl rfl (wc_p (by first | omega | (simp [up2, *]; done) | (simp [up2, *]; omega) | (simp only [up2_eq]; omega))) rfl rfl (Nat.le_of_ble_eq_true rfl) dX1_drawHalvesApart_51 ⟨Nat.le_of_ble_eq_true rfl, Nat.le_of_ble_eq_true rfl⟩ ⟨Nat.le_of_ble_eq_true rfl, Nat.le_of_ble_eq_true rfl⟩ ?_
              refine r_iincN C dX1_drawHalvesApart_54 rfl (by decide) rfl ?_
              refine r_goto (tgt := 16) C dX1_drawHalvesApart_57 (by decide) ?_
              refine r_w (congrArg (fun z => WC cy a (up2 f 4 j (f 4 i)) z kn ++ Y) (scT_step (layN (f 4 i) k) (congrArg (f 3 i + ·) (by unfold layN; first | rw [if_pos (by assumption)] | rw [if_neg (by assumption)])) (layN_lt (by omega)) (unl_lay (by omega)) (fun t ht h => by rw [← h, lay_unl ht]) (scb_val (fun h => hne0 h) (by omega)))) ?_
              refine r_drop 4 ?_
              exact ih_L16 (k + 1) (by first | omega | (simp [up2, *]; done) | (simp [up2, *]; omega) | (simp only [up2_eq]; omega))
  exact L16 (f 4 i) 0 (by first | omega | (simp [up2, *]; done) | (simp [up2, *]; omega) | (simp only [up2_eq]; omega))
theorem dX1_rank_0 : decode cX1_rank 0 = .ok (.iload_n 0, 1) := dqo_26 (kb_of ke_X1_rank 0 rfl)
theorem dX1_rank_1 : decode cX1_rank 1 = .ok (.tableswitch 47 0 2 #[27, 30, 37], 27) := by decide +kernel
theorem dX1_rank_28 : decode cX1_rank 28 = .ok (.iload_n 1, 1) := dqo_27 (kb_of ke_X1_rank 28 rfl)
theorem dX1_rank_29 : decode cX1_rank 29 = .ok (.ineg, 1) := dqo_116 (kb_of ke_X1_rank 29 rfl)
theorem dX1_rank_30 : decode cX1_rank 30 = .ok (.ireturn, 1) := dqo_172 (kb_of ke_X1_rank 30 rfl)
set_option maxRecDepth 100000 in
set_option maxHeartbeats 4000000 in
theorem C_rank0 {l : Launch} {D : va_G} {cy : Nat → ClassId} {X : (Nat → Prop) → State → Heap → Prop} {a f : Nat → Nat → Nat} {r : Nat → Nat → Int32} {kn : Int32} {Y : va_W} {x : Int32} (hX : EnvX X)  : Cd l D cy X yX1_rank cX1_rank 2 (some .int) (rmz 1 30) [.int (nI 0), .int x] (WC cy a f r kn ++ Y) (some (.int (-x))) (WC cy a f r kn ++ Y) := by
  refine Cm.of [some (.int (nI 0)), some (.int x)] pn_X1 rfl (Nat.le_of_ble_eq_true rfl) ?_
  intro p e s m args below meth c A C hE hr hnt hn
  refine r_iload_n C dX1_rank_0 rfl ?_
  refine r_tableIn (off := 27) (tgt := 28) C dX1_rank_1 (by decide) (by decide) (by decide) (by decide) ?_
  refine r_iload_n C dX1_rank_28 rfl ?_
  refine r_ineg C dX1_rank_29 ?_
  exact r_iret C hr dX1_rank_30 ⟨by first | rfl | rw [if_pos (by assumption)] | rw [if_neg (by assumption)] | rw [if_neg (Int32.not_lt.mpr (by assumption))] | rw [if_pos (Int32.not_le.mp (by assumption))], rfl⟩ (Nat.le_of_ble_eq_true rfl) (Nat.le_of_ble_eq_true rfl)
theorem dX1_rank_31 : decode cX1_rank 31 = .ok (.iload_n 1, 1) := dqo_27 (kb_of ke_X1_rank 31 rfl)
theorem dX1_rank_32 : decode cX1_rank 32 = .ok (.bipush 10, 2) := dqo_16 10 (by decide) (kb_of ke_X1_rank 32 rfl) (kb_of ke_X1_rank 33 rfl)
theorem dX1_rank_34 : decode cX1_rank 34 = .ok (.invokestatic 53, 3) := dqo_184 0 53 (kb_of ke_X1_rank 34 rfl) (kb_of ke_X1_rank 35 rfl) (kb_of ke_X1_rank 36 rfl)
theorem dX1_rank_37 : decode cX1_rank 37 = .ok (.ireturn, 1) := dqo_172 (kb_of ke_X1_rank 37 rfl)
set_option maxRecDepth 100000 in
set_option maxHeartbeats 4000000 in
theorem C_rank1 {l : Launch} {D : va_G} {cy : Nat → ClassId} {X : (Nat → Prop) → State → Heap → Prop} {a f : Nat → Nat → Nat} {r : Nat → Nat → Int32} {kn : Int32} {Y : va_W} {x : Int32} (hX : EnvX X)  : Cd l D cy X yX1_rank cX1_rank 2 (some .int) (rmz 1 30) [.int (nI 1), .int x] (WC cy a f r kn ++ Y) (some (.int (nI (shN x 10)))) (WC cy a f r kn ++ Y) := by
  refine Cm.of [some (.int (nI 1)), some (.int x)] pn_X1 rfl (Nat.le_of_ble_eq_true rfl) ?_
  intro p e s m args below meth c A C hE hr hnt hn
  refine r_iload_n C dX1_rank_0 rfl ?_
  refine r_tableIn (off := 30) (tgt := 31) C dX1_rank_1 (by decide) (by decide) (by decide) (by decide) ?_
  refine r_iload_n C dX1_rank_31 rfl ?_
  refine r_bipush (v := (nI 10)) C dX1_rank_32 (by decide) ?_
  refine d_S (st := []) hX.stb C hE (C_floorMod (w := (WC cy a f r kn ++ Y)) (x := (x)) (n := 10) (by first | omega | (simp [up2, *]; done) | (simp [up2, *]; omega) | (simp only [up2_eq]; omega)) (by first | omega | (simp [up2, *]; done) | (simp [up2, *]; omega) | (simp only [up2_eq]; omega))) pk_J9_floorMod_7cf53 qm_X1_53 rfl rfl (Nat.le_of_ble_eq_true rfl) dX1_rank_34 ⟨Nat.le_of_ble_eq_true rfl, Nat.le_of_ble_eq_true rfl⟩ ⟨Nat.le_of_ble_eq_true rfl, Nat.le_of_ble_eq_true rfl⟩ ?_
  exact r_iret C hr dX1_rank_37 ⟨by first | rfl | rw [if_pos (by assumption)] | rw [if_neg (by assumption)] | rw [if_neg (Int32.not_lt.mpr (by assumption))] | rw [if_pos (Int32.not_le.mp (by assumption))], rfl⟩ (Nat.le_of_ble_eq_true rfl) (Nat.le_of_ble_eq_true rfl)
theorem dX1_rank_38 : decode cX1_rank 38 = .ok (.iload_n 1, 1) := dqo_27 (kb_of ke_X1_rank 38 rfl)
theorem dX1_rank_39 : decode cX1_rank 39 = .ok (.ifCond .ge 7, 3) := dqo_156 0 7 (by decide) (kb_of ke_X1_rank 39 rfl) (kb_of ke_X1_rank 40 rfl) (kb_of ke_X1_rank 41 rfl)
theorem dX1_rank_42 : decode cX1_rank 42 = .ok (.iconst 0, 1) := dqo_3 (kb_of ke_X1_rank 42 rfl)
theorem dX1_rank_43 : decode cX1_rank 43 = .ok (.goto 4, 3) := dqo_167 0 4 (by decide) (kb_of ke_X1_rank 43 rfl) (kb_of ke_X1_rank 44 rfl) (kb_of ke_X1_rank 45 rfl)
theorem dX1_rank_46 : decode cX1_rank 46 = .ok (.iconst 1, 1) := dqo_4 (kb_of ke_X1_rank 46 rfl)
theorem dX1_rank_47 : decode cX1_rank 47 = .ok (.ireturn, 1) := dqo_172 (kb_of ke_X1_rank 47 rfl)
set_option maxRecDepth 100000 in
set_option maxHeartbeats 4000000 in
theorem C_rank2 {l : Launch} {D : va_G} {cy : Nat → ClassId} {X : (Nat → Prop) → State → Heap → Prop} {a f : Nat → Nat → Nat} {r : Nat → Nat → Int32} {kn : Int32} {Y : va_W} {x : Int32} (hX : EnvX X)  : Cd l D cy X yX1_rank cX1_rank 2 (some .int) (rmz 1 30) [.int (nI 2), .int x] (WC cy a f r kn ++ Y) (some (.int (if x < 0 then nI 0 else nI 1))) (WC cy a f r kn ++ Y) := by
  refine Cm.of [some (.int (nI 2)), some (.int x)] pn_X1 rfl (Nat.le_of_ble_eq_true rfl) ?_
  intro p e s m args below meth c A C hE hr hnt hn
  refine r_iload_n C dX1_rank_0 rfl ?_
  refine r_tableIn (off := 37) (tgt := 38) C dX1_rank_1 (by decide) (by decide) (by decide) (by decide) ?_
  refine r_iload_n C dX1_rank_38 rfl ?_
  refine r_if_ge (tgt := 46) C dX1_rank_39 (by decide) (fun h39_1 => ?_) (fun h39_1 => ?_)
  · first
    | exfalso; first | omega | contradiction
    | skip
      refine r_iconst (v := (nI 1)) C dX1_rank_46 (by decide) ?_
      exact r_iret C hr dX1_rank_47 ⟨by first | rfl | rw [if_pos (by assumption)] | rw [if_neg (by assumption)] | rw [if_neg (Int32.not_lt.mpr (by assumption))] | rw [if_pos (Int32.not_le.mp (by assumption))], rfl⟩ (Nat.le_of_ble_eq_true rfl) (Nat.le_of_ble_eq_true rfl)
  · first
    | exfalso; first | omega | contradiction
    | skip
      refine r_iconst (v := (nI 0)) C dX1_rank_42 (by decide) ?_
      refine r_goto (tgt := 47) C dX1_rank_43 (by decide) ?_
      exact r_iret C hr dX1_rank_47 ⟨by first | rfl | rw [if_pos (by assumption)] | rw [if_neg (by assumption)] | rw [if_neg (Int32.not_lt.mpr (by assumption))] | rw [if_pos (Int32.not_le.mp (by assumption))], rfl⟩ (Nat.le_of_ble_eq_true rfl) (Nat.le_of_ble_eq_true rfl)
theorem dX1_rank_48 : decode cX1_rank 48 = .ok (.iload_n 1, 1) := dqo_27 (kb_of ke_X1_rank 48 rfl)
theorem dX1_rank_49 : decode cX1_rank 49 = .ok (.ireturn, 1) := dqo_172 (kb_of ke_X1_rank 49 rfl)
set_option maxRecDepth 100000 in
set_option maxHeartbeats 4000000 in
theorem C_rank3 {l : Launch} {D : va_G} {cy : Nat → ClassId} {X : (Nat → Prop) → State → Heap → Prop} {a f : Nat → Nat → Nat} {r : Nat → Nat → Int32} {kn : Int32} {Y : va_W} {x : Int32} (hX : EnvX X)  : Cd l D cy X yX1_rank cX1_rank 2 (some .int) (rmz 1 30) [.int (nI 3), .int x] (WC cy a f r kn ++ Y) (some (.int x)) (WC cy a f r kn ++ Y) := by
  refine Cm.of [some (.int (nI 3)), some (.int x)] pn_X1 rfl (Nat.le_of_ble_eq_true rfl) ?_
  intro p e s m args below meth c A C hE hr hnt hn
  refine r_iload_n C dX1_rank_0 rfl ?_
  refine r_tableOut (tgt := 48) C dX1_rank_1 (by decide) (by decide) ?_
  refine r_iload_n C dX1_rank_48 rfl ?_
  exact r_iret C hr dX1_rank_49 ⟨by first | rfl | rw [if_pos (by assumption)] | rw [if_neg (by assumption)] | rw [if_neg (Int32.not_lt.mpr (by assumption))] | rw [if_pos (Int32.not_le.mp (by assumption))], rfl⟩ (Nat.le_of_ble_eq_true rfl) (Nat.le_of_ble_eq_true rfl)
theorem C_rank {l : Launch} {D : va_G} {cy : Nat → ClassId} {X : (Nat → Prop) → State → Heap → Prop} {a f : Nat → Nat → Nat} {r : Nat → Nat → Int32} {kn : Int32} {Y : va_W} {b : Nat} {x : Int32} (hX : EnvX X) (hb : b ≤ 3) : Cd l D cy X yX1_rank cX1_rank 2 (some .int) (rmz 1 30) [.int (nI b), .int x] (WC cy a f r kn ++ Y) (some (.int (rkF b x))) (WC cy a f r kn ++ Y) := by
  rcases (show b = 0 ∨ b = 1 ∨ b = 2 ∨ b = 3 by omega) with rfl | rfl | rfl | rfl
  · exact C_rank0 hX
  · exact C_rank1 hX
  · exact C_rank2 hX
  · exact C_rank3 hX
theorem pk_X1_rank : PkS yX1_rank cX1_rank 2 (some .int) 2 := ⟨⟨qt_X1_rank, qz_X1, qc_X1_rank⟩, mh_X1.1, mh_X1.2, pd_0⟩
theorem dX1_arrange_0 : decode cX1_arrange 0 = .ok (.iconst 1, 1) := dqo_4 (kb_X1_arrange_0 0 rfl)
theorem dX1_arrange_1 : decode cX1_arrange 1 = .ok (.istore_n 2, 1) := dqo_61 (kb_X1_arrange_0 1 rfl)
theorem dX1_arrange_2 : decode cX1_arrange 2 = .ok (.iload_n 2, 1) := dqo_28 (kb_X1_arrange_0 2 rfl)
theorem dX1_arrange_3 : decode cX1_arrange 3 = .ok (.aload_n 0, 1) := dqo_42 (kb_X1_arrange_0 3 rfl)
theorem dX1_arrange_4 : decode cX1_arrange 4 = .ok (.getfield 29, 3) := dqo_180 0 29 (kb_X1_arrange_0 4 rfl) (kb_X1_arrange_0 5 rfl) (kb_X1_arrange_0 6 rfl)
theorem dX1_arrange_7 : decode cX1_arrange 7 = .ok (.if_icmp .ge 70, 3) := dqo_162 0 70 (by decide) (kb_X1_arrange_0 7 rfl) (kb_X1_arrange_0 8 rfl) (kb_X1_arrange_0 9 rfl)
theorem dX1_arrange_10 : decode cX1_arrange 10 = .ok (.aload_n 0, 1) := dqo_42 (kb_X1_arrange_0 10 rfl)
theorem dX1_arrange_11 : decode cX1_arrange 11 = .ok (.iload_n 2, 1) := dqo_28 (kb_X1_arrange_0 11 rfl)
theorem dX1_arrange_12 : decode cX1_arrange 12 = .ok (.invokevirtual 32, 3) := dqo_182 0 32 (kb_X1_arrange_0 12 rfl) (kb_X1_arrange_0 13 rfl) (kb_X1_arrange_0 14 rfl)
theorem dX1_arrange_15 : decode cX1_arrange 15 = .ok (.istore_n 3, 1) := dqo_62 (kb_X1_arrange_0 15 rfl)
theorem dX1_arrange_16 : decode cX1_arrange 16 = .ok (.iload_n 2, 1) := dqo_28 (kb_X1_arrange_0 16 rfl)
theorem dX1_arrange_17 : decode cX1_arrange 17 = .ok (.istore 4, 2) := dqo_54 4 (kb_X1_arrange_0 17 rfl) (kb_X1_arrange_0 18 rfl)
theorem dX1_arrange_19 : decode cX1_arrange 19 = .ok (.iload 4, 2) := dqo_21 4 (kb_X1_arrange_0 19 rfl) (kb_X1_arrange_0 20 rfl)
theorem dX1_arrange_21 : decode cX1_arrange 21 = .ok (.ifCond .le 43, 3) := dqo_158 0 43 (by decide) (kb_X1_arrange_0 21 rfl) (kb_X1_arrange_0 22 rfl) (kb_X1_arrange_0 23 rfl)
theorem dX1_arrange_24 : decode cX1_arrange 24 = .ok (.iload_n 1, 1) := dqo_27 (kb_X1_arrange_0 24 rfl)
theorem dX1_arrange_25 : decode cX1_arrange 25 = .ok (.aload_n 0, 1) := dqo_42 (kb_X1_arrange_0 25 rfl)
theorem dX1_arrange_26 : decode cX1_arrange 26 = .ok (.iload 4, 2) := dqo_21 4 (kb_X1_arrange_0 26 rfl) (kb_X1_arrange_0 27 rfl)
theorem dX1_arrange_28 : decode cX1_arrange 28 = .ok (.iconst 1, 1) := dqo_4 (kb_X1_arrange_0 28 rfl)
theorem dX1_arrange_29 : decode cX1_arrange 29 = .ok (.isub, 1) := dqo_100 (kb_X1_arrange_0 29 rfl)
theorem dX1_arrange_30 : decode cX1_arrange 30 = .ok (.invokevirtual 32, 3) := dqo_182 0 32 (kb_X1_arrange_0 30 rfl) (kb_X1_arrange_0 31 rfl) (kb_X1_arrange_0 32 rfl)
theorem dX1_arrange_33 : decode cX1_arrange 33 = .ok (.invokestatic 59, 3) := dqo_184 0 59 (kb_X1_arrange_0 33 rfl) (kb_X1_arrange_0 34 rfl) (kb_X1_arrange_0 35 rfl)
theorem dX1_arrange_36 : decode cX1_arrange 36 = .ok (.iload_n 1, 1) := dqo_27 (kb_X1_arrange_0 36 rfl)
theorem dX1_arrange_37 : decode cX1_arrange 37 = .ok (.iload_n 3, 1) := dqo_29 (kb_X1_arrange_0 37 rfl)
theorem dX1_arrange_38 : decode cX1_arrange 38 = .ok (.invokestatic 59, 3) := dqo_184 0 59 (kb_X1_arrange_0 38 rfl) (kb_X1_arrange_0 39 rfl) (kb_X1_arrange_0 40 rfl)
theorem dX1_arrange_41 : decode cX1_arrange 41 = .ok (.if_icmp .le 23, 3) := dqo_164 0 23 (by decide) (kb_X1_arrange_0 41 rfl) (kb_X1_arrange_0 42 rfl) (kb_X1_arrange_0 43 rfl)
theorem dX1_arrange_44 : decode cX1_arrange 44 = .ok (.aload_n 0, 1) := dqo_42 (kb_X1_arrange_0 44 rfl)
theorem dX1_arrange_45 : decode cX1_arrange 45 = .ok (.iload 4, 2) := dqo_21 4 (kb_X1_arrange_0 45 rfl) (kb_X1_arrange_0 46 rfl)
theorem dX1_arrange_47 : decode cX1_arrange 47 = .ok (.aload_n 0, 1) := dqo_42 (kb_X1_arrange_0 47 rfl)
theorem dX1_arrange_48 : decode cX1_arrange 48 = .ok (.iload 4, 2) := dqo_21 4 (kb_X1_arrange_0 48 rfl) (kb_X1_arrange_0 49 rfl)
theorem dX1_arrange_50 : decode cX1_arrange 50 = .ok (.iconst 1, 1) := dqo_4 (kb_X1_arrange_0 50 rfl)
theorem dX1_arrange_51 : decode cX1_arrange 51 = .ok (.isub, 1) := dqo_100 (kb_X1_arrange_0 51 rfl)
theorem dX1_arrange_52 : decode cX1_arrange 52 = .ok (.invokevirtual 32, 3) := dqo_182 0 32 (kb_X1_arrange_0 52 rfl) (kb_X1_arrange_0 53 rfl) (kb_X1_arrange_0 54 rfl)
theorem dX1_arrange_55 : decode cX1_arrange 55 = .ok (.invokevirtual 42, 3) := dqo_182 0 42 (kb_X1_arrange_0 55 rfl) (kb_X1_arrange_0 56 rfl) (kb_X1_arrange_0 57 rfl)
theorem dX1_arrange_58 : decode cX1_arrange 58 = .ok (.iinc 4 (-1), 3) := dqo_132 4 255 (by decide) (kb_X1_arrange_0 58 rfl) (kb_X1_arrange_0 59 rfl) (kb_X1_arrange_0 60 rfl)
theorem dX1_arrange_61 : decode cX1_arrange 61 = .ok (.goto (-42), 3) := dqo_167 255 214 (by decide) (kb_X1_arrange_0 61 rfl) (kb_X1_arrange_0 62 rfl) (kb_X1_arrange_0 63 rfl)
theorem dX1_arrange_64 : decode cX1_arrange 64 = .ok (.aload_n 0, 1) := dqo_42 (kb_X1_arrange_1 0 rfl)
theorem dX1_arrange_65 : decode cX1_arrange 65 = .ok (.iload 4, 2) := dqo_21 4 (kb_X1_arrange_1 1 rfl) (kb_X1_arrange_1 2 rfl)
theorem dX1_arrange_67 : decode cX1_arrange 67 = .ok (.iload_n 3, 1) := dqo_29 (kb_X1_arrange_1 3 rfl)
theorem dX1_arrange_68 : decode cX1_arrange 68 = .ok (.invokevirtual 42, 3) := dqo_182 0 42 (kb_X1_arrange_1 4 rfl) (kb_X1_arrange_1 5 rfl) (kb_X1_arrange_1 6 rfl)
theorem dX1_arrange_71 : decode cX1_arrange 71 = .ok (.iinc 2 1, 3) := dqo_132 2 1 (by decide) (kb_X1_arrange_1 7 rfl) (kb_X1_arrange_1 8 rfl) (kb_X1_arrange_1 9 rfl)
theorem dX1_arrange_74 : decode cX1_arrange 74 = .ok (.goto (-72), 3) := dqo_167 255 184 (by decide) (kb_X1_arrange_1 10 rfl) (kb_X1_arrange_1 11 rfl) (kb_X1_arrange_1 12 rfl)
theorem dX1_arrange_77 : decode cX1_arrange 77 = .ok (.return_, 1) := dqo_177 (kb_X1_arrange_1 13 rfl)
set_option maxRecDepth 100000 in
set_option maxHeartbeats 4000000 in
theorem C_arrange {l : Launch} {D : va_G} {cy : Nat → ClassId} {X : (Nat → Prop) → State → Heap → Prop} {a f : Nat → Nat → Nat} {r : Nat → Nat → Int32} {kn : Int32} {Y : va_W} {i : Nat} {b : Nat} (hX : EnvX X) (hi : i < 11) (h0 : f 0 i < 7) (h4 : f 3 i + f 4 i ≤ 12) (hb : b ≤ 3) : Cd l D cy X yX1_arrange cX1_arrange 5 none (rmz 2 60) [.ref (a 1 i), .int (nI b)] (WC cy a f r kn ++ Y) none (WC cy a f (srF (f 0 i) (f 3 i) b (f 4 i - 1) 1 r) kn ++ Y) := by
  refine Cm.of [some (.ref (a 1 i)), some (.int (nI b)), none, none, none] pn_X1 rfl (Nat.le_of_ble_eq_true rfl) ?_
  intro p e s m args below meth c A C hE hr hnt hn
  refine r_iconst (v := (nI 1)) C dX1_arrange_0 (by decide) ?_
  refine r_istore_n C dX1_arrange_1 (by decide) rfl ?_
  have L2 : ∀ (d : Nat) (e0 : Nat) (r1 : Nat → Nat → Int32), (he : f 4 i ≤ e0 + d ∧ (d = 0 ∨ e0 + d = f 4 i)) → (he1 : 1 ≤ e0 ∧ e0 ≤ 12) → (hF : srF (f 0 i) (f 3 i) b d e0 r1 = srF (f 0 i) (f 3 i) b (f 4 i - 1) 1 r) → vC p l e (rmz 2 60) s m args below meth c D A (vx_MQ below (vG (fun v1 w1 => v1 = none ∧ w1 = WC cy a f (srF (f 0 i) (f 3 i) b (f 4 i - 1) 1 r) kn ++ Y) D vwCl A) (vGX (fun _ => False) D vwCl (WC cy a f r kn ++ Y) A) args s (rmz 2 60).cells (rmz 2 60).slots A) 5 0 0 (WC cy a f r1 kn ++ Y) [some (.ref (a 1 i)), some (.int (nI b)), some (.int (nI e0)), none, none] 2 [] := by
    intro d
    induction d with
    | zero =>
      intro e0 r1 he he1 hF
      refine r_iload_n C dX1_arrange_2 rfl ?_
      refine r_aload_n C dX1_arrange_3 rfl ?_
      refine p_get (v := .int (nI (f 4 i))) C 4 (by first | omega | (simp [up2, *]; done) | (simp [up2, *]; omega) | (simp only [up2_eq]; omega)) (by decide) qf_X1_29 rfl rfl dX1_arrange_4 ?_
      refine r_icN_ge (tgt := 77) C (by first | omega | (simp [up2, *]; done) | (simp [up2, *]; omega) | (simp only [up2_eq]; omega)) (by first | omega | (simp [up2, *]; done) | (simp [up2, *]; omega) | (simp only [up2_eq]; omega)) dX1_arrange_7 (by decide) (fun h7_1 => ?_) (fun h7_1 => ?_)
      · first
        | exfalso; first | omega | contradiction
        | skip
          exact r_vret C hr dX1_arrange_77 ⟨rfl, congrArg (fun z => WC cy a f z kn ++ Y) (by rw [← hF]; rfl)⟩ (Nat.le_of_ble_eq_true rfl) (Nat.le_of_ble_eq_true rfl)
      · first
        | exfalso; first | omega | contradiction
        | skip
          refine r_aload_n C dX1_arrange_10 rfl ?_
          refine r_iload_n C dX1_arrange_11 rfl ?_
          refine d_V (st := []) hX.stb C hE (C_itemAt (f := f) (r := r1) (kn := kn) (i := i) (k := e0) hX (by first | omega | (simp [up2, *]; done) | (simp [up2, *]; omega) | (simp only [up2_eq]; omega)) (by first | omega | (simp [up2, *]; done) | (simp [up2, *]; omega) | (simp only [up2_eq]; omega)) (by first | omega | (simp [up2, *]; done) | (simp [up2, *]; omega) | (simp only [up2_eq]; omega))) pk_X1_itemAt qm_X1_32 (3 + i) 5 rfl rfl (wc_p (by first | omega | (simp [up2, *]; done) | (simp [up2, *]; omega) | (simp only [up2_eq]; omega))) rfl rfl (Nat.le_of_ble_eq_true rfl) dX1_arrange_12 ⟨Nat.le_of_ble_eq_true rfl, Nat.le_of_ble_eq_true rfl⟩ ⟨Nat.le_of_ble_eq_true rfl, Nat.le_of_ble_eq_true rfl⟩ ?_
          refine r_istore_n C dX1_arrange_15 (by decide) rfl ?_
          refine r_iload_n C dX1_arrange_16 rfl ?_
          refine r_istore C dX1_arrange_17 (by decide) rfl ?_
          refine r_w (congrArg (fun z => WC cy a f z kn ++ Y) (shf_0 r1 (f 0 i) (f 3 i) e0).symm) ?_
          have L19 : ∀ (d : Nat) , (hd : d ≤ e0) → (hG : inP (fun q => r1 (f 0 i) (f 3 i + q)) b (r1 (f 0 i) (f 3 i + e0)) d = inP (fun q => r1 (f 0 i) (f 3 i + q)) b (r1 (f 0 i) (f 3 i + e0)) e0) → vC p l e (rmz 2 60) s m args below meth c D A (vx_MQ below (vG (fun v1 w1 => v1 = none ∧ w1 = WC cy a f (srF (f 0 i) (f 3 i) b (f 4 i - 1) 1 r) kn ++ Y) D vwCl A) (vGX (fun _ => False) D vwCl (WC cy a f r kn ++ Y) A) args s (rmz 2 60).cells (rmz 2 60).slots A) 5 0 0 (WC cy a f (shf r1 (f 0 i) (f 3 i) e0 d) kn ++ Y) [some (.ref (a 1 i)), some (.int (nI b)), some (.int (nI e0)), some (.int (r1 (f 0 i) (f 3 i + e0))), some (.int (nI d))] 19 [] := by
            intro d
            induction d with
            | zero =>
              intro  hd hG
              refine r_iload C dX1_arrange_19 rfl ?_
              refine r_ifN_le (tgt := 64) C (by first | omega | (simp [up2, *]; done) | (simp [up2, *]; omega) | (simp only [up2_eq]; omega)) dX1_arrange_21 (by decide) (fun h21_2 => ?_) (fun h21_2 => ?_)
              · skip
                refine r_aload_n C dX1_arrange_64 rfl ?_
                refine r_iload C dX1_arrange_65 rfl ?_
                refine r_iload_n C dX1_arrange_67 rfl ?_
                refine d_Vv (st := []) hX.stb C hE (C_putAt (f := f) (r := (shf r1 (f 0 i) (f 3 i) e0 0)) (kn := kn) (i := i) (k := 0) (x := ((r1 (f 0 i) (f 3 i + e0)))) hX (by first | omega | (simp [up2, *]; done) | (simp [up2, *]; omega) | (simp only [up2_eq]; omega)) (by first | omega | (simp [up2, *]; done) | (simp [up2, *]; omega) | (simp only [up2_eq]; omega)) (by first | omega | (simp [up2, *]; done) | (simp [up2, *]; omega) | (simp only [up2_eq]; omega))) pk_X1_putAt qm_X1_42 (3 + i) 5 rfl rfl (wc_p (by first | omega | (simp [up2, *]; done) | (simp [up2, *]; omega) | (simp only [up2_eq]; omega))) rfl rfl (Nat.le_of_ble_eq_true rfl) dX1_arrange_68 ⟨Nat.le_of_ble_eq_true rfl, Nat.le_of_ble_eq_true rfl⟩ ⟨Nat.le_of_ble_eq_true rfl, Nat.le_of_ble_eq_true rfl⟩ ?_
                refine r_w (congrArg (fun z => WC cy a f z kn ++ Y) (in1_of (by rw [← hG]; first | rfl | (simp only [inP]; rw [if_pos (by assumption)])))) ?_
                refine r_iincN C dX1_arrange_71 rfl (by decide) rfl ?_
                refine r_goto (tgt := 2) C dX1_arrange_74 (by decide) ?_
                refine r_drop 3 ?_
                refine r_drop 4 ?_
                exact (Nat.not_lt_zero _ (by omega)).elim
              · exact absurd h21_2 (by first | omega | (simp [up2, *]; done) | (simp [up2, *]; omega) | (simp only [up2_eq]; omega))
            | succ d ih_L19 =>
              intro  hd hG
              refine r_iload C dX1_arrange_19 rfl ?_
              refine r_ifN_le (tgt := 64) C (by first | omega | (simp [up2, *]; done) | (simp [up2, *]; omega) | (simp only [up2_eq]; omega)) dX1_arrange_21 (by decide) (fun h21_3 => ?_) (fun h21_3 => ?_)
              · first
                | exfalso; first | omega | contradiction
                | skip
                  refine r_aload_n C dX1_arrange_64 rfl ?_
                  refine r_iload C dX1_arrange_65 rfl ?_
                  refine r_iload_n C dX1_arrange_67 rfl ?_
                  refine d_Vv (st := []) hX.stb C hE (C_putAt (f := f) (r := (shf r1 (f 0 i) (f 3 i) e0 (d + 1))) (kn := kn) (i := i) (k := (d + 1)) (x := ((r1 (f 0 i) (f 3 i + e0)))) hX (by first | omega | (simp [up2, *]; done) | (simp [up2, *]; omega) | (simp only [up2_eq]; omega)) (by first | omega | (simp [up2, *]; done) | (simp [up2, *]; omega) | (simp only [up2_eq]; omega)) (by first | omega | (simp [up2, *]; done) | (simp [up2, *]; omega) | (simp only [up2_eq]; omega))) pk_X1_putAt qm_X1_42 (3 + i) 5 rfl rfl (wc_p (by first | omega | (simp [up2, *]; done) | (simp [up2, *]; omega) | (simp only [up2_eq]; omega))) rfl rfl (Nat.le_of_ble_eq_true rfl) dX1_arrange_68 ⟨Nat.le_of_ble_eq_true rfl, Nat.le_of_ble_eq_true rfl⟩ ⟨Nat.le_of_ble_eq_true rfl, Nat.le_of_ble_eq_true rfl⟩ ?_
                  refine r_w (congrArg (fun z => WC cy a f z kn ++ Y) (in1_of (by rw [← hG]; first | rfl | (simp only [inP]; rw [if_pos (by assumption)])))) ?_
                  refine r_iincN C dX1_arrange_71 rfl (by decide) rfl ?_
                  refine r_goto (tgt := 2) C dX1_arrange_74 (by decide) ?_
                  refine r_drop 3 ?_
                  refine r_drop 4 ?_
                  exact (Nat.not_lt_zero _ (by omega)).elim
              · first
                | exfalso; first | omega | contradiction
                | skip
                  refine r_iload_n C dX1_arrange_24 rfl ?_
                  refine r_aload_n C dX1_arrange_25 rfl ?_
                  refine r_iload C dX1_arrange_26 rfl ?_
                  refine r_iconst (v := (nI 1)) C dX1_arrange_28 (by decide) ?_
                  refine r_isubN C dX1_arrange_29 (by first | omega | (simp [up2, *]; done) | (simp [up2, *]; omega) | (simp only [up2_eq]; omega)) ?_
                  refine d_V (st := [.int (nI b)]) hX.stb C hE (C_itemAt (f := f) (r := (shf r1 (f 0 i) (f 3 i) e0 (d + 1))) (kn := kn) (i := i) (k := d) hX (by first | omega | (simp [up2, *]; done) | (simp [up2, *]; omega) | (simp only [up2_eq]; omega)) (by first | omega | (simp [up2, *]; done) | (simp [up2, *]; omega) | (simp only [up2_eq]; omega)) (by first | omega | (simp [up2, *]; done) | (simp [up2, *]; omega) | (simp only [up2_eq]; omega))) pk_X1_itemAt qm_X1_32 (3 + i) 5 rfl rfl (wc_p (by first | omega | (simp [up2, *]; done) | (simp [up2, *]; omega) | (simp only [up2_eq]; omega))) rfl rfl (Nat.le_of_ble_eq_true rfl) dX1_arrange_30 ⟨Nat.le_of_ble_eq_true rfl, Nat.le_of_ble_eq_true rfl⟩ ⟨Nat.le_of_ble_eq_true rfl, Nat.le_of_ble_eq_true rfl⟩ ?_
                  refine d_S (st := []) hX.stb C hE (C_rank (f := f) (r := (shf r1 (f 0 i) (f 3 i) e0 (d + 1))) (kn := kn) (b := b) (x := (((shf r1 (f 0 i) (f 3 i) e0 (d + 1)) (f 0 i) (f 3 i + d)))) hX (by first | omega | (simp [up2, *]; done) | (simp [up2, *]; omega) | (simp only [up2_eq]; omega))) pk_X1_rank qm_X1_59 rfl rfl (Nat.le_of_ble_eq_true rfl) dX1_arrange_33 ⟨Nat.le_of_ble_eq_true rfl, Nat.le_of_ble_eq_true rfl⟩ ⟨Nat.le_of_ble_eq_true rfl, Nat.le_of_ble_eq_true rfl⟩ ?_
                  refine r_iload_n C dX1_arrange_36 rfl ?_
                  refine r_iload_n C dX1_arrange_37 rfl ?_
                  refine d_S (st := [.int (rkF b (((shf r1 (f 0 i) (f 3 i) e0 (d + 1)) (f 0 i) (f 3 i + d))))]) hX.stb C hE (C_rank (f := f) (r := (shf r1 (f 0 i) (f 3 i) e0 (d + 1))) (kn := kn) (b := b) (x := ((r1 (f 0 i) (f 3 i + e0)))) hX (by first | omega | (simp [up2, *]; done) | (simp [up2, *]; omega) | (simp only [up2_eq]; omega))) pk_X1_rank qm_X1_59 rfl rfl (Nat.le_of_ble_eq_true rfl) dX1_arrange_38 ⟨Nat.le_of_ble_eq_true rfl, Nat.le_of_ble_eq_true rfl⟩ ⟨Nat.le_of_ble_eq_true rfl, Nat.le_of_ble_eq_true rfl⟩ ?_
                  refine r_ic_le (tgt := 64) C dX1_arrange_41 (by decide) (fun h41_4 => ?_) (fun h41_4 => ?_)
                  · first
                    | exfalso; first | omega | contradiction
                    | skip
                      rw [shf_lo (by omega)] at h41_4
                      refine r_aload_n C dX1_arrange_64 rfl ?_
                      refine r_iload C dX1_arrange_65 rfl ?_
                      refine r_iload_n C dX1_arrange_67 rfl ?_
                      refine d_Vv (st := []) hX.stb C hE (C_putAt (f := f) (r := (shf r1 (f 0 i) (f 3 i) e0 (d + 1))) (kn := kn) (i := i) (k := (d + 1)) (x := ((r1 (f 0 i) (f 3 i + e0)))) hX (by first | omega | (simp [up2, *]; done) | (simp [up2, *]; omega) | (simp only [up2_eq]; omega)) (by first | omega | (simp [up2, *]; done) | (simp [up2, *]; omega) | (simp only [up2_eq]; omega)) (by first | omega | (simp [up2, *]; done) | (simp [up2, *]; omega) | (simp only [up2_eq]; omega))) pk_X1_putAt qm_X1_42 (3 + i) 5 rfl rfl (wc_p (by first | omega | (simp [up2, *]; done) | (simp [up2, *]; omega) | (simp only [up2_eq]; omega))) rfl rfl (Nat.le_of_ble_eq_true rfl) dX1_arrange_68 ⟨Nat.le_of_ble_eq_true rfl, Nat.le_of_ble_eq_true rfl⟩ ⟨Nat.le_of_ble_eq_true rfl, Nat.le_of_ble_eq_true rfl⟩ ?_
                      refine r_w (congrArg (fun z => WC cy a f z kn ++ Y) (in1_of (by rw [← hG]; first | rfl | (simp only [inP]; rw [if_pos (by assumption)])))) ?_
                      refine r_iincN C dX1_arrange_71 rfl (by decide) rfl ?_
                      refine r_goto (tgt := 2) C dX1_arrange_74 (by decide) ?_
                      refine r_drop 3 ?_
                      refine r_drop 4 ?_
                      exact (Nat.not_lt_zero _ (by omega)).elim
                  · first
                    | exfalso; first | omega | contradiction
                    | skip
                      rw [shf_lo (by omega)] at h41_4
                      refine r_aload_n C dX1_arrange_44 rfl ?_
                      refine r_iload C dX1_arrange_45 rfl ?_
                      refine r_aload_n C dX1_arrange_47 rfl ?_
                      refine r_iload C dX1_arrange_48 rfl ?_
                      refine r_iconst (v := (nI 1)) C dX1_arrange_50 (by decide) ?_
                      refine r_isubN C dX1_arrange_51 (by first | omega | (simp [up2, *]; done) | (simp [up2, *]; omega) | (simp only [up2_eq]; omega)) ?_
                      refine d_V (st := [.int (nI (d + 1)), .ref (a 1 i)]) hX.stb C hE (C_itemAt (f := f) (r := (shf r1 (f 0 i) (f 3 i) e0 (d + 1))) (kn := kn) (i := i) (k := d) hX (by first | omega | (simp [up2, *]; done) | (simp [up2, *]; omega) | (simp only [up2_eq]; omega)) (by first | omega | (simp [up2, *]; done) | (simp [up2, *]; omega) | (simp only [up2_eq]; omega)) (by first | omega | (simp [up2, *]; done) | (simp [up2, *]; omega) | (simp only [up2_eq]; omega))) pk_X1_itemAt qm_X1_32 (3 + i) 5 rfl rfl (wc_p (by first | omega | (simp [up2, *]; done) | (simp [up2, *]; omega) | (simp only [up2_eq]; omega))) rfl rfl (Nat.le_of_ble_eq_true rfl) dX1_arrange_52 ⟨Nat.le_of_ble_eq_true rfl, Nat.le_of_ble_eq_true rfl⟩ ⟨Nat.le_of_ble_eq_true rfl, Nat.le_of_ble_eq_true rfl⟩ ?_
                      refine d_Vv (st := []) hX.stb C hE (C_putAt (f := f) (r := (shf r1 (f 0 i) (f 3 i) e0 (d + 1))) (kn := kn) (i := i) (k := (d + 1)) (x := (((shf r1 (f 0 i) (f 3 i) e0 (d + 1)) (f 0 i) (f 3 i + d)))) hX (by first | omega | (simp [up2, *]; done) | (simp [up2, *]; omega) | (simp only [up2_eq]; omega)) (by first | omega | (simp [up2, *]; done) | (simp [up2, *]; omega) | (simp only [up2_eq]; omega)) (by first | omega | (simp [up2, *]; done) | (simp [up2, *]; omega) | (simp only [up2_eq]; omega))) pk_X1_putAt qm_X1_42 (3 + i) 5 rfl rfl (wc_p (by first | omega | (simp [up2, *]; done) | (simp [up2, *]; omega) | (simp only [up2_eq]; omega))) rfl rfl (Nat.le_of_ble_eq_true rfl) dX1_arrange_55 ⟨Nat.le_of_ble_eq_true rfl, Nat.le_of_ble_eq_true rfl⟩ ⟨Nat.le_of_ble_eq_true rfl, Nat.le_of_ble_eq_true rfl⟩ ?_
                      refine r_idecP C dX1_arrange_58 rfl (by first | omega | (simp [up2, *]; done) | (simp [up2, *]; omega) | (simp only [up2_eq]; omega)) (by decide) rfl ?_
                      refine r_goto (tgt := 19) C dX1_arrange_61 (by decide) ?_
                      refine r_w (congrArg (fun z => WC cy a f z kn ++ Y) (shf_step (by omega))) ?_
                      exact ih_L19  (by omega) (by rw [← hG]; simp only [inP]; rw [if_neg (by assumption)])
          exact L19 e0 (Nat.le_refl _) rfl
    | succ d ih_L2 =>
      intro e0 r1 he he1 hF
      refine r_iload_n C dX1_arrange_2 rfl ?_
      refine r_aload_n C dX1_arrange_3 rfl ?_
      refine p_get (v := .int (nI (f 4 i))) C 4 (by first | omega | (simp [up2, *]; done) | (simp [up2, *]; omega) | (simp only [up2_eq]; omega)) (by decide) qf_X1_29 rfl rfl dX1_arrange_4 ?_
      refine r_icN_ge (tgt := 77) C (by first | omega | (simp [up2, *]; done) | (simp [up2, *]; omega) | (simp only [up2_eq]; omega)) (by first | omega | (simp [up2, *]; done) | (simp [up2, *]; omega) | (simp only [up2_eq]; omega)) dX1_arrange_7 (by decide) (fun h7_5 => ?_) (fun h7_5 => ?_)
      · first
        | exfalso; first | omega | contradiction
        | skip
          exact r_vret C hr dX1_arrange_77 ⟨rfl, congrArg (fun z => WC cy a f z kn ++ Y) (by rw [← hF]; rfl)⟩ (Nat.le_of_ble_eq_true rfl) (Nat.le_of_ble_eq_true rfl)
      · first
        | exfalso; first | omega | contradiction
        | skip
          refine r_aload_n C dX1_arrange_10 rfl ?_
          refine r_iload_n C dX1_arrange_11 rfl ?_
          refine d_V (st := []) hX.stb C hE (C_itemAt (f := f) (r := r1) (kn := kn) (i := i) (k := e0) hX (by first | omega | (simp [up2, *]; done) | (simp [up2, *]; omega) | (simp only [up2_eq]; omega)) (by first | omega | (simp [up2, *]; done) | (simp [up2, *]; omega) | (simp only [up2_eq]; omega)) (by first | omega | (simp [up2, *]; done) | (simp [up2, *]; omega) | (simp only [up2_eq]; omega))) pk_X1_itemAt qm_X1_32 (3 + i) 5 rfl rfl (wc_p (by first | omega | (simp [up2, *]; done) | (simp [up2, *]; omega) | (simp only [up2_eq]; omega))) rfl rfl (Nat.le_of_ble_eq_true rfl) dX1_arrange_12 ⟨Nat.le_of_ble_eq_true rfl, Nat.le_of_ble_eq_true rfl⟩ ⟨Nat.le_of_ble_eq_true rfl, Nat.le_of_ble_eq_true rfl⟩ ?_
          refine r_istore_n C dX1_arrange_15 (by decide) rfl ?_
          refine r_iload_n C dX1_arrange_16 rfl ?_
          refine r_istore C dX1_arrange_17 (by decide) rfl ?_
          refine r_w (congrArg (fun z => WC cy a f z kn ++ Y) (shf_0 r1 (f 0 i) (f 3 i) e0).symm) ?_
          have L19 : ∀ (d : Nat) , (hd : d ≤ e0) → (hG : inP (fun q => r1 (f 0 i) (f 3 i + q)) b (r1 (f 0 i) (f 3 i + e0)) d = inP (fun q => r1 (f 0 i) (f 3 i + q)) b (r1 (f 0 i) (f 3 i + e0)) e0) → vC p l e (rmz 2 60) s m args below meth c D A (vx_MQ below (vG (fun v1 w1 => v1 = none ∧ w1 = WC cy a f (srF (f 0 i) (f 3 i) b (f 4 i - 1) 1 r) kn ++ Y) D vwCl A) (vGX (fun _ => False) D vwCl (WC cy a f r kn ++ Y) A) args s (rmz 2 60).cells (rmz 2 60).slots A) 5 0 0 (WC cy a f (shf r1 (f 0 i) (f 3 i) e0 d) kn ++ Y) [some (.ref (a 1 i)), some (.int (nI b)), some (.int (nI e0)), some (.int (r1 (f 0 i) (f 3 i + e0))), some (.int (nI d))] 19 [] := by
            intro d
            induction d with
            | zero =>
              intro  hd hG
              refine r_iload C dX1_arrange_19 rfl ?_
              refine r_ifN_le (tgt := 64) C (by first | omega | (simp [up2, *]; done) | (simp [up2, *]; omega) | (simp only [up2_eq]; omega)) dX1_arrange_21 (by decide) (fun h21_6 => ?_) (fun h21_6 => ?_)
              · skip
                refine r_aload_n C dX1_arrange_64 rfl ?_
                refine r_iload C dX1_arrange_65 rfl ?_
                refine r_iload_n C dX1_arrange_67 rfl ?_
                refine d_Vv (st := []) hX.stb C hE (C_putAt (f := f) (r := (shf r1 (f 0 i) (f 3 i) e0 0)) (kn := kn) (i := i) (k := 0) (x := ((r1 (f 0 i) (f 3 i + e0)))) hX (by first | omega | (simp [up2, *]; done) | (simp [up2, *]; omega) | (simp only [up2_eq]; omega)) (by first | omega | (simp [up2, *]; done) | (simp [up2, *]; omega) | (simp only [up2_eq]; omega)) (by first | omega | (simp [up2, *]; done) | (simp [up2, *]; omega) | (simp only [up2_eq]; omega))) pk_X1_putAt qm_X1_42 (3 + i) 5 rfl rfl (wc_p (by first | omega | (simp [up2, *]; done) | (simp [up2, *]; omega) | (simp only [up2_eq]; omega))) rfl rfl (Nat.le_of_ble_eq_true rfl) dX1_arrange_68 ⟨Nat.le_of_ble_eq_true rfl, Nat.le_of_ble_eq_true rfl⟩ ⟨Nat.le_of_ble_eq_true rfl, Nat.le_of_ble_eq_true rfl⟩ ?_
                refine r_w (congrArg (fun z => WC cy a f z kn ++ Y) (in1_of (by rw [← hG]; first | rfl | (simp only [inP]; rw [if_pos (by assumption)])))) ?_
                refine r_iincN C dX1_arrange_71 rfl (by decide) rfl ?_
                refine r_goto (tgt := 2) C dX1_arrange_74 (by decide) ?_
                refine r_drop 3 ?_
                refine r_drop 4 ?_
                exact ih_L2 (e0 + 1) (in1 r1 (f 0 i) (f 3 i) b e0) (by first | omega | (simp [up2, *]; done) | (simp [up2, *]; omega) | (simp only [up2_eq]; omega)) (by first | omega | (simp [up2, *]; done) | (simp [up2, *]; omega) | (simp only [up2_eq]; omega)) (by rw [← hF]; rfl)
              · exact absurd h21_6 (by first | omega | (simp [up2, *]; done) | (simp [up2, *]; omega) | (simp only [up2_eq]; omega))
            | succ d ih_L19 =>
              intro  hd hG
              refine r_iload C dX1_arrange_19 rfl ?_
              refine r_ifN_le (tgt := 64) C (by first | omega | (simp [up2, *]; done) | (simp [up2, *]; omega) | (simp only [up2_eq]; omega)) dX1_arrange_21 (by decide) (fun h21_7 => ?_) (fun h21_7 => ?_)
              · first
                | exfalso; first | omega | contradiction
                | skip
                  refine r_aload_n C dX1_arrange_64 rfl ?_
                  refine r_iload C dX1_arrange_65 rfl ?_
                  refine r_iload_n C dX1_arrange_67 rfl ?_
                  refine d_Vv (st := []) hX.stb C hE (C_putAt (f := f) (r := (shf r1 (f 0 i) (f 3 i) e0 (d + 1))) (kn := kn) (i := i) (k := (d + 1)) (x := ((r1 (f 0 i) (f 3 i + e0)))) hX (by first | omega | (simp [up2, *]; done) | (simp [up2, *]; omega) | (simp only [up2_eq]; omega)) (by first | omega | (simp [up2, *]; done) | (simp [up2, *]; omega) | (simp only [up2_eq]; omega)) (by first | omega | (simp [up2, *]; done) | (simp [up2, *]; omega) | (simp only [up2_eq]; omega))) pk_X1_putAt qm_X1_42 (3 + i) 5 rfl rfl (wc_p (by first | omega | (simp [up2, *]; done) | (simp [up2, *]; omega) | (simp only [up2_eq]; omega))) rfl rfl (Nat.le_of_ble_eq_true rfl) dX1_arrange_68 ⟨Nat.le_of_ble_eq_true rfl, Nat.le_of_ble_eq_true rfl⟩ ⟨Nat.le_of_ble_eq_true rfl, Nat.le_of_ble_eq_true rfl⟩ ?_
                  refine r_w (congrArg (fun z => WC cy a f z kn ++ Y) (in1_of (by rw [← hG]; first | rfl | (simp only [inP]; rw [if_pos (by assumption)])))) ?_
                  refine r_iincN C dX1_arrange_71 rfl (by decide) rfl ?_
                  refine r_goto (tgt := 2) C dX1_arrange_74 (by decide) ?_
                  refine r_drop 3 ?_
                  refine r_drop 4 ?_
                  exact ih_L2 (e0 + 1) (in1 r1 (f 0 i) (f 3 i) b e0) (by first | omega | (simp [up2, *]; done) | (simp [up2, *]; omega) | (simp only [up2_eq]; omega)) (by first | omega | (simp [up2, *]; done) | (simp [up2, *]; omega) | (simp only [up2_eq]; omega)) (by rw [← hF]; rfl)
              · first
                | exfalso; first | omega | contradiction
                | skip
                  refine r_iload_n C dX1_arrange_24 rfl ?_
                  refine r_aload_n C dX1_arrange_25 rfl ?_
                  refine r_iload C dX1_arrange_26 rfl ?_
                  refine r_iconst (v := (nI 1)) C dX1_arrange_28 (by decide) ?_
                  refine r_isubN C dX1_arrange_29 (by first | omega | (simp [up2, *]; done) | (simp [up2, *]; omega) | (simp only [up2_eq]; omega)) ?_
                  refine d_V (st := [.int (nI b)]) hX.stb C hE (C_itemAt (f := f) (r := (shf r1 (f 0 i) (f 3 i) e0 (d + 1))) (kn := kn) (i := i) (k := d) hX (by first | omega | (simp [up2, *]; done) | (simp [up2, *]; omega) | (simp only [up2_eq]; omega)) (by first | omega | (simp [up2, *]; done) | (simp [up2, *]; omega) | (simp only [up2_eq]; omega)) (by first | omega | (simp [up2, *]; done) | (simp [up2, *]; omega) | (simp only [up2_eq]; omega))) pk_X1_itemAt qm_X1_32 (3 + i) 5 rfl rfl (wc_p (by first | omega | (simp [up2, *]; done) | (simp [up2, *]; omega) | (simp only [up2_eq]; omega))) rfl rfl (Nat.le_of_ble_eq_true rfl) dX1_arrange_30 ⟨Nat.le_of_ble_eq_true rfl, Nat.le_of_ble_eq_true rfl⟩ ⟨Nat.le_of_ble_eq_true rfl, Nat.le_of_ble_eq_true rfl⟩ ?_
                  refine d_S (st := []) hX.stb C hE (C_rank (f := f) (r := (shf r1 (f 0 i) (f 3 i) e0 (d + 1))) (kn := kn) (b := b) (x := (((shf r1 (f 0 i) (f 3 i) e0 (d + 1)) (f 0 i) (f 3 i + d)))) hX (by first | omega | (simp [up2, *]; done) | (simp [up2, *]; omega) | (simp only [up2_eq]; omega))) pk_X1_rank qm_X1_59 rfl rfl (Nat.le_of_ble_eq_true rfl) dX1_arrange_33 ⟨Nat.le_of_ble_eq_true rfl, Nat.le_of_ble_eq_true rfl⟩ ⟨Nat.le_of_ble_eq_true rfl, Nat.le_of_ble_eq_true rfl⟩ ?_
                  refine r_iload_n C dX1_arrange_36 rfl ?_
                  refine r_iload_n C dX1_arrange_37 rfl ?_
                  refine d_S (st := [.int (rkF b (((shf r1 (f 0 i) (f 3 i) e0 (d + 1)) (f 0 i) (f 3 i + d))))]) hX.stb C hE (C_rank (f := f) (r := (shf r1 (f 0 i) (f 3 i) e0 (d + 1))) (kn := kn) (b := b) (x := ((r1 (f 0 i) (f 3 i + e0)))) hX (by first | omega | (simp [up2, *]; done) | (simp [up2, *]; omega) | (simp only [up2_eq]; omega))) pk_X1_rank qm_X1_59 rfl rfl (Nat.le_of_ble_eq_true rfl) dX1_arrange_38 ⟨Nat.le_of_ble_eq_true rfl, Nat.le_of_ble_eq_true rfl⟩ ⟨Nat.le_of_ble_eq_true rfl, Nat.le_of_ble_eq_true rfl⟩ ?_
                  refine r_ic_le (tgt := 64) C dX1_arrange_41 (by decide) (fun h41_8 => ?_) (fun h41_8 => ?_)
                  · first
                    | exfalso; first | omega | contradiction
                    | skip
                      rw [shf_lo (by omega)] at h41_8
                      refine r_aload_n C dX1_arrange_64 rfl ?_
                      refine r_iload C dX1_arrange_65 rfl ?_
                      refine r_iload_n C dX1_arrange_67 rfl ?_
                      refine d_Vv (st := []) hX.stb C hE (C_putAt (f := f) (r := (shf r1 (f 0 i) (f 3 i) e0 (d + 1))) (kn := kn) (i := i) (k := (d + 1)) (x := ((r1 (f 0 i) (f 3 i + e0)))) hX (by first | omega | (simp [up2, *]; done) | (simp [up2, *]; omega) | (simp only [up2_eq]; omega)) (by first | omega | (simp [up2, *]; done) | (simp [up2, *]; omega) | (simp only [up2_eq]; omega)) (by first | omega | (simp [up2, *]; done) | (simp [up2, *]; omega) | (simp only [up2_eq]; omega))) pk_X1_putAt qm_X1_42 (3 + i) 5 rfl rfl (wc_p (by first | omega | (simp [up2, *]; done) | (simp [up2, *]; omega) | (simp only [up2_eq]; omega))) rfl rfl (Nat.le_of_ble_eq_true rfl) dX1_arrange_68 ⟨Nat.le_of_ble_eq_true rfl, Nat.le_of_ble_eq_true rfl⟩ ⟨Nat.le_of_ble_eq_true rfl, Nat.le_of_ble_eq_true rfl⟩ ?_
                      refine r_w (congrArg (fun z => WC cy a f z kn ++ Y) (in1_of (by rw [← hG]; first | rfl | (simp only [inP]; rw [if_pos (by assumption)])))) ?_
                      refine r_iincN C dX1_arrange_71 rfl (by decide) rfl ?_
                      refine r_goto (tgt := 2) C dX1_arrange_74 (by decide) ?_
                      refine r_drop 3 ?_
                      refine r_drop 4 ?_
                      exact ih_L2 (e0 + 1) (in1 r1 (f 0 i) (f 3 i) b e0) (by first | omega | (simp [up2, *]; done) | (simp [up2, *]; omega) | (simp only [up2_eq]; omega)) (by first | omega | (simp [up2, *]; done) | (simp [up2, *]; omega) | (simp only [up2_eq]; omega)) (by rw [← hF]; rfl)
                  · first
                    | exfalso; first | omega | contradiction
                    | skip
                      rw [shf_lo (by omega)] at h41_8
                      refine r_aload_n C dX1_arrange_44 rfl ?_
                      refine r_iload C dX1_arrange_45 rfl ?_
                      refine r_aload_n C dX1_arrange_47 rfl ?_
                      refine r_iload C dX1_arrange_48 rfl ?_
                      refine r_iconst (v := (nI 1)) C dX1_arrange_50 (by decide) ?_
                      refine r_isubN C dX1_arrange_51 (by first | omega | (simp [up2, *]; done) | (simp [up2, *]; omega) | (simp only [up2_eq]; omega)) ?_
                      refine d_V (st := [.int (nI (d + 1)), .ref (a 1 i)]) hX.stb C hE (C_itemAt (f := f) (r := (shf r1 (f 0 i) (f 3 i) e0 (d + 1))) (kn := kn) (i := i) (k := d) hX (by first | omega | (simp [up2, *]; done) | (simp [up2, *]; omega) | (simp only [up2_eq]; omega)) (by first | omega | (simp [up2, *]; done) | (simp [up2, *]; omega) | (simp only [up2_eq]; omega)) (by first | omega | (simp [up2, *]; done) | (simp [up2, *]; omega) | (simp only [up2_eq]; omega))) pk_X1_itemAt qm_X1_32 (3 + i) 5 rfl rfl (wc_p (by first | omega | (simp [up2, *]; done) | (simp [up2, *]; omega) | (simp only [up2_eq]; omega))) rfl rfl (Nat.le_of_ble_eq_true rfl) dX1_arrange_52 ⟨Nat.le_of_ble_eq_true rfl, Nat.le_of_ble_eq_true rfl⟩ ⟨Nat.le_of_ble_eq_true rfl, Nat.le_of_ble_eq_true rfl⟩ ?_
                      refine d_Vv (st := []) hX.stb C hE (C_putAt (f := f) (r := (shf r1 (f 0 i) (f 3 i) e0 (d + 1))) (kn := kn) (i := i) (k := (d + 1)) (x := (((shf r1 (f 0 i) (f 3 i) e0 (d + 1)) (f 0 i) (f 3 i + d)))) hX (by first | omega | (simp [up2, *]; done) | (simp [up2, *]; omega) | (simp only [up2_eq]; omega)) (by first | omega | (simp [up2, *]; done) | (simp [up2, *]; omega) | (simp only [up2_eq]; omega)) (by first | omega | (simp [up2, *]; done) | (simp [up2, *]; omega) | (simp only [up2_eq]; omega))) pk_X1_putAt qm_X1_42 (3 + i) 5 rfl rfl (wc_p (by first | omega | (simp [up2, *]; done) | (simp [up2, *]; omega) | (simp only [up2_eq]; omega))) rfl rfl (Nat.le_of_ble_eq_true rfl) dX1_arrange_55 ⟨Nat.le_of_ble_eq_true rfl, Nat.le_of_ble_eq_true rfl⟩ ⟨Nat.le_of_ble_eq_true rfl, Nat.le_of_ble_eq_true rfl⟩ ?_
                      refine r_idecP C dX1_arrange_58 rfl (by first | omega | (simp [up2, *]; done) | (simp [up2, *]; omega) | (simp only [up2_eq]; omega)) (by decide) rfl ?_
                      refine r_goto (tgt := 19) C dX1_arrange_61 (by decide) ?_
                      refine r_w (congrArg (fun z => WC cy a f z kn ++ Y) (shf_step (by omega))) ?_
                      exact ih_L19  (by omega) (by rw [← hG]; simp only [inP]; rw [if_neg (by assumption)])
          exact L19 e0 (Nat.le_refl _) rfl
  exact L2 (f 4 i - 1) 1 r (by omega) (by omega) rfl
theorem dX0_beginAt_0 : decode cX0_beginAt 0 = .ok (.aload_n 0, 1) := dqo_42 (kb_of ke_X0_beginAt 0 rfl)
theorem dX0_beginAt_1 : decode cX0_beginAt 1 = .ok (.iload_n 1, 1) := dqo_27 (kb_of ke_X0_beginAt 1 rfl)
theorem dX0_beginAt_2 : decode cX0_beginAt 2 = .ok (.putfield 15, 3) := dqo_181 0 15 (kb_of ke_X0_beginAt 2 rfl) (kb_of ke_X0_beginAt 3 rfl) (kb_of ke_X0_beginAt 4 rfl)
theorem dX0_beginAt_5 : decode cX0_beginAt 5 = .ok (.aload_n 0, 1) := dqo_42 (kb_of ke_X0_beginAt 5 rfl)
theorem dX0_beginAt_6 : decode cX0_beginAt 6 = .ok (.iload_n 2, 1) := dqo_28 (kb_of ke_X0_beginAt 6 rfl)
theorem dX0_beginAt_7 : decode cX0_beginAt 7 = .ok (.putfield 18, 3) := dqo_181 0 18 (kb_of ke_X0_beginAt 7 rfl) (kb_of ke_X0_beginAt 8 rfl) (kb_of ke_X0_beginAt 9 rfl)
theorem dX0_beginAt_10 : decode cX0_beginAt 10 = .ok (.aload_n 0, 1) := dqo_42 (kb_of ke_X0_beginAt 10 rfl)
theorem dX0_beginAt_11 : decode cX0_beginAt 11 = .ok (.iconst (-1), 1) := dqo_2 (kb_of ke_X0_beginAt 11 rfl)
theorem dX0_beginAt_12 : decode cX0_beginAt 12 = .ok (.putfield 9, 3) := dqo_181 0 9 (kb_of ke_X0_beginAt 12 rfl) (kb_of ke_X0_beginAt 13 rfl) (kb_of ke_X0_beginAt 14 rfl)
theorem dX0_beginAt_15 : decode cX0_beginAt 15 = .ok (.aload_n 0, 1) := dqo_42 (kb_of ke_X0_beginAt 15 rfl)
theorem dX0_beginAt_16 : decode cX0_beginAt 16 = .ok (.iconst 1, 1) := dqo_4 (kb_of ke_X0_beginAt 16 rfl)
theorem dX0_beginAt_17 : decode cX0_beginAt 17 = .ok (.putfield 21, 3) := dqo_181 0 21 (kb_of ke_X0_beginAt 17 rfl) (kb_of ke_X0_beginAt 18 rfl) (kb_of ke_X0_beginAt 19 rfl)
theorem dX0_beginAt_20 : decode cX0_beginAt 20 = .ok (.return_, 1) := dqo_177 (kb_of ke_X0_beginAt 20 rfl)
set_option maxRecDepth 100000 in
set_option maxHeartbeats 4000000 in
theorem C_beginAt {l : Launch} {D : va_G} {cy : Nat → ClassId} {X : (Nat → Prop) → State → Heap → Prop} {a f : Nat → Nat → Nat} {r : Nat → Nat → Int32} {kn : Int32} {Y : va_W} {k : Nat} {w : Nat} {q0 : Nat} (hX : EnvX X) (hk : k < 3) : Cd l D cy X yX0_beginAt cX0_beginAt 3 none (rmz 0 0) [.ref (a 3 k), .int (nI w), .int (nI q0)] (WC cy a f r kn ++ Y) none (WC cy a (up2 (up2 (up2 (up2 f 6 k w) 7 k q0) 8 k 4294967295) 9 k 1) r kn ++ Y) := by
  refine Cm.of [some (.ref (a 3 k)), some (.int (nI w)), some (.int (nI q0))] pn_X0 rfl (Nat.le_of_ble_eq_true rfl) ?_
  intro p e s m args below meth c A C hE hr hnt hn
  refine r_aload_n C dX0_beginAt_0 rfl ?_
  refine r_iload_n C dX0_beginAt_1 rfl ?_
  refine u_put C 0 (by first | omega | (simp [up2, *]; done) | (simp [up2, *]; omega) | (simp only [up2_eq]; omega)) (by decide) qf_X0_15 rfl rfl rfl dX0_beginAt_2 ?_
  refine r_aload_n C dX0_beginAt_5 rfl ?_
  refine r_iload_n C dX0_beginAt_6 rfl ?_
  refine u_put C 1 (by first | omega | (simp [up2, *]; done) | (simp [up2, *]; omega) | (simp only [up2_eq]; omega)) (by decide) qf_X0_18 rfl rfl rfl dX0_beginAt_7 ?_
  refine r_aload_n C dX0_beginAt_10 rfl ?_
  refine r_iconst (v := (nI 4294967295)) C dX0_beginAt_11 (by decide) ?_
  refine u_put C 2 (by first | omega | (simp [up2, *]; done) | (simp [up2, *]; omega) | (simp only [up2_eq]; omega)) (by decide) qf_X0_9 rfl rfl rfl dX0_beginAt_12 ?_
  refine r_aload_n C dX0_beginAt_15 rfl ?_
  refine r_iconst (v := (nI 1)) C dX0_beginAt_16 (by decide) ?_
  refine u_putZ C (by first | omega | (simp [up2, *]; done) | (simp [up2, *]; omega) | (simp only [up2_eq]; omega)) (by first | omega | (simp [up2, *]; done) | (simp [up2, *]; omega) | (simp only [up2_eq]; omega)) qf_X0_21 dX0_beginAt_17 ?_
  exact r_vret C hr dX0_beginAt_20 ⟨rfl, rfl⟩ (Nat.le_of_ble_eq_true rfl) (Nat.le_of_ble_eq_true rfl)
theorem dX0_goForth_0 : decode cX0_goForth 0 = .ok (.aload_n 0, 1) := dqo_42 (kb_of ke_X0_goForth 0 rfl)
theorem dX0_goForth_1 : decode cX0_goForth 1 = .ok (.getfield 18, 3) := dqo_180 0 18 (kb_of ke_X0_goForth 1 rfl) (kb_of ke_X0_goForth 2 rfl) (kb_of ke_X0_goForth 3 rfl)
theorem dX0_goForth_4 : decode cX0_goForth 4 = .ok (.aload_n 1, 1) := dqo_43 (kb_of ke_X0_goForth 4 rfl)
theorem dX0_goForth_5 : decode cX0_goForth 5 = .ok (.getfield 25, 3) := dqo_180 0 25 (kb_of ke_X0_goForth 5 rfl) (kb_of ke_X0_goForth 6 rfl) (kb_of ke_X0_goForth 7 rfl)
theorem dX0_goForth_8 : decode cX0_goForth 8 = .ok (.if_icmp .lt 6, 3) := dqo_161 0 6 (by decide) (kb_of ke_X0_goForth 8 rfl) (kb_of ke_X0_goForth 9 rfl) (kb_of ke_X0_goForth 10 rfl)
theorem dX0_goForth_11 : decode cX0_goForth 11 = .ok (.bipush 100, 2) := dqo_16 100 (by decide) (kb_of ke_X0_goForth 11 rfl) (kb_of ke_X0_goForth 12 rfl)
theorem dX0_goForth_13 : decode cX0_goForth 13 = .ok (.ireturn, 1) := dqo_172 (kb_of ke_X0_goForth 13 rfl)
theorem dX0_goForth_14 : decode cX0_goForth 14 = .ok (.aload_n 0, 1) := dqo_42 (kb_of ke_X0_goForth 14 rfl)
theorem dX0_goForth_15 : decode cX0_goForth 15 = .ok (.aload_n 0, 1) := dqo_42 (kb_of ke_X0_goForth 15 rfl)
theorem dX0_goForth_16 : decode cX0_goForth 16 = .ok (.getfield 18, 3) := dqo_180 0 18 (kb_of ke_X0_goForth 16 rfl) (kb_of ke_X0_goForth 17 rfl) (kb_of ke_X0_goForth 18 rfl)
theorem dX0_goForth_19 : decode cX0_goForth 19 = .ok (.putfield 9, 3) := dqo_181 0 9 (kb_of ke_X0_goForth 19 rfl) (kb_of ke_X0_goForth 20 rfl) (kb_of ke_X0_goForth 21 rfl)
theorem dX0_goForth_22 : decode cX0_goForth 22 = .ok (.aload_n 0, 1) := dqo_42 (kb_of ke_X0_goForth 22 rfl)
theorem dX0_goForth_23 : decode cX0_goForth 23 = .ok (.dup, 1) := dqo_89 (kb_of ke_X0_goForth 23 rfl)
theorem dX0_goForth_24 : decode cX0_goForth 24 = .ok (.getfield 18, 3) := dqo_180 0 18 (kb_of ke_X0_goForth 24 rfl) (kb_of ke_X0_goForth 25 rfl) (kb_of ke_X0_goForth 26 rfl)
theorem dX0_goForth_27 : decode cX0_goForth 27 = .ok (.iconst 1, 1) := dqo_4 (kb_of ke_X0_goForth 27 rfl)
theorem dX0_goForth_28 : decode cX0_goForth 28 = .ok (.iadd, 1) := dqo_96 (kb_of ke_X0_goForth 28 rfl)
theorem dX0_goForth_29 : decode cX0_goForth 29 = .ok (.putfield 18, 3) := dqo_181 0 18 (kb_of ke_X0_goForth 29 rfl) (kb_of ke_X0_goForth 30 rfl) (kb_of ke_X0_goForth 31 rfl)
theorem dX0_goForth_32 : decode cX0_goForth 32 = .ok (.aload_n 1, 1) := dqo_43 (kb_of ke_X0_goForth 32 rfl)
theorem dX0_goForth_33 : decode cX0_goForth 33 = .ok (.aload_n 0, 1) := dqo_42 (kb_of ke_X0_goForth 33 rfl)
theorem dX0_goForth_34 : decode cX0_goForth 34 = .ok (.getfield 9, 3) := dqo_180 0 9 (kb_of ke_X0_goForth 34 rfl) (kb_of ke_X0_goForth 35 rfl) (kb_of ke_X0_goForth 36 rfl)
theorem dX0_goForth_37 : decode cX0_goForth 37 = .ok (.invokevirtual 30, 3) := dqo_182 0 30 (kb_of ke_X0_goForth 37 rfl) (kb_of ke_X0_goForth 38 rfl) (kb_of ke_X0_goForth 39 rfl)
theorem dX0_goForth_40 : decode cX0_goForth 40 = .ok (.ireturn, 1) := dqo_172 (kb_of ke_X0_goForth 40 rfl)
set_option maxRecDepth 100000 in
set_option maxHeartbeats 4000000 in
theorem C_goForth0 {l : Launch} {D : va_G} {cy : Nat → ClassId} {X : (Nat → Prop) → State → Heap → Prop} {a f : Nat → Nat → Nat} {r : Nat → Nat → Int32} {kn : Int32} {Y : va_W} {k : Nat} {i : Nat} (hX : EnvX X) (hk : k < 3) (hi : i < 11) (hx : f 4 i ≤ f 7 k) (hx2 : f 7 k ≤ 12) : Cd l D cy X yX0_goForth cX0_goForth 2 (some .int) (rmz 1 30) [.ref (a 3 k), .ref (a 1 i)] (WC cy a f r kn ++ Y) (some (.int (nI 100))) (WC cy a f r kn ++ Y) := by
  refine Cm.of [some (.ref (a 3 k)), some (.ref (a 1 i))] pn_X0 rfl (Nat.le_of_ble_eq_true rfl) ?_
  intro p e s m args below meth c A C hE hr hnt hn
  refine r_aload_n C dX0_goForth_0 rfl ?_
  refine u_get (v := .int (nI (f 7 k))) C 1 (by first | omega | (simp [up2, *]; done) | (simp [up2, *]; omega) | (simp only [up2_eq]; omega)) (by decide) qf_X0_18 rfl rfl dX0_goForth_1 ?_
  refine r_aload_n C dX0_goForth_4 rfl ?_
  refine p_getN (v := .int (nI (f 4 i))) hX C hE 4 (by first | omega | (simp [up2, *]; done) | (simp [up2, *]; omega) | (simp only [up2_eq]; omega)) (by decide) qn_X0_25 rfl rfl dX0_goForth_5 ?_
  refine r_icN_lt (tgt := 14) C (by first | omega | (simp [up2, *]; done) | (simp [up2, *]; omega) | (simp only [up2_eq]; omega)) (by first | omega | (simp [up2, *]; done) | (simp [up2, *]; omega) | (simp only [up2_eq]; omega)) dX0_goForth_8 (by decide) (fun h8_1 => ?_) (fun h8_1 => ?_)
  · first
    | exfalso; first | omega | contradiction
    | skip
      refine r_aload_n C dX0_goForth_14 rfl ?_
      refine r_aload_n C dX0_goForth_15 rfl ?_
      refine u_get (v := .int (nI (f 7 k))) C 1 (by first | omega | (simp [up2, *]; done) | (simp [up2, *]; omega) | (simp only [up2_eq]; omega)) (by decide) qf_X0_18 rfl rfl dX0_goForth_16 ?_
      refine u_put C 2 (by first | omega | (simp [up2, *]; done) | (simp [up2, *]; omega) | (simp only [up2_eq]; omega)) (by decide) qf_X0_9 rfl rfl rfl dX0_goForth_19 ?_
      refine r_aload_n C dX0_goForth_22 rfl ?_
      refine r_dup C dX0_goForth_23 rfl ?_
      refine u_get (v := .int (nI (f 7 k))) C 1 (by first | omega | (simp [up2, *]; done) | (simp [up2, *]; omega) | (simp only [up2_eq]; omega)) (by decide) qf_X0_18 rfl rfl dX0_goForth_24 ?_
      refine r_iconst (v := (nI 1)) C dX0_goForth_27 (by decide) ?_
      refine r_iaddN C dX0_goForth_28 ?_
      refine u_put C 1 (by first | omega | (simp [up2, *]; done) | (simp [up2, *]; omega) | (simp only [up2_eq]; omega)) (by decide) qf_X0_18 rfl rfl rfl dX0_goForth_29 ?_
      refine r_aload_n C dX0_goForth_32 rfl ?_
      refine r_aload_n C dX0_goForth_33 rfl ?_
      refine u_get (v := .int (nI (f 7 k))) C 2 (by first | omega | (simp [up2, *]; done) | (simp [up2, *]; omega) | (simp only [up2_eq]; omega)) (by decide) qf_X0_9 rfl (by simp [uV, up2, *]) dX0_goForth_34 ?_
      refine d_V (st := []) hX.stb C hE (C_itemAt (f := (up2 (up2 f 8 k (f 7 k)) 7 k ((f 7 k) + 1))) (r := r) (kn := kn) (i := i) (k := (f 7 k)) hX (by first | omega | (simp [up2, *]; done) | (simp [up2, *]; omega) | (simp only [up2_eq]; omega)) (by first | omega | (simp [up2, *]; done) | (simp [up2, *]; omega) | (simp only [up2_eq]; omega)) (by first | omega | (simp [up2, *]; done) | (simp [up2, *]; omega) | (simp only [up2_eq]; omega))) pk_X1_itemAt qm_X0_30 (3 + i) 5 rfl rfl (wc_p (by first | omega | (simp [up2, *]; done) | (simp [up2, *]; omega) | (simp only [up2_eq]; omega))) rfl rfl (Nat.le_of_ble_eq_true rfl) dX0_goForth_37 ⟨Nat.le_of_ble_eq_true rfl, Nat.le_of_ble_eq_true rfl⟩ ⟨Nat.le_of_ble_eq_true rfl, Nat.le_of_ble_eq_true rfl⟩ ?_
      exact r_iret C hr dX0_goForth_40 ⟨rfl, rfl⟩ (Nat.le_of_ble_eq_true rfl) (Nat.le_of_ble_eq_true rfl)
  · first
    | exfalso; first | omega | contradiction
    | skip
      refine r_bipush (v := (nI 100)) C dX0_goForth_11 (by decide) ?_
      exact r_iret C hr dX0_goForth_13 ⟨rfl, rfl⟩ (Nat.le_of_ble_eq_true rfl) (Nat.le_of_ble_eq_true rfl)
set_option maxRecDepth 100000 in
set_option maxHeartbeats 4000000 in
theorem C_goForth1 {l : Launch} {D : va_G} {cy : Nat → ClassId} {X : (Nat → Prop) → State → Heap → Prop} {a f : Nat → Nat → Nat} {r : Nat → Nat → Int32} {kn : Int32} {Y : va_W} {k : Nat} {i : Nat} (hX : EnvX X) (hk : k < 3) (hi : i < 11) (h0 : f 0 i < 7) (h4 : f 3 i + f 4 i ≤ 12) (hx : f 7 k < f 4 i) : Cd l D cy X yX0_goForth cX0_goForth 2 (some .int) (rmz 1 30) [.ref (a 3 k), .ref (a 1 i)] (WC cy a f r kn ++ Y) (some (.int (r (f 0 i) (f 3 i + f 7 k)))) (WC cy a (up2 (up2 f 8 k (f 7 k)) 7 k (f 7 k + 1)) r kn ++ Y) := by
  refine Cm.of [some (.ref (a 3 k)), some (.ref (a 1 i))] pn_X0 rfl (Nat.le_of_ble_eq_true rfl) ?_
  intro p e s m args below meth c A C hE hr hnt hn
  refine r_aload_n C dX0_goForth_0 rfl ?_
  refine u_get (v := .int (nI (f 7 k))) C 1 (by first | omega | (simp [up2, *]; done) | (simp [up2, *]; omega) | (simp only [up2_eq]; omega)) (by decide) qf_X0_18 rfl rfl dX0_goForth_1 ?_
  refine r_aload_n C dX0_goForth_4 rfl ?_
  refine p_getN (v := .int (nI (f 4 i))) hX C hE 4 (by first | omega | (simp [up2, *]; done) | (simp [up2, *]; omega) | (simp only [up2_eq]; omega)) (by decide) qn_X0_25 rfl rfl dX0_goForth_5 ?_
  refine r_icN_lt (tgt := 14) C (by first | omega | (simp [up2, *]; done) | (simp [up2, *]; omega) | (simp only [up2_eq]; omega)) (by first | omega | (simp [up2, *]; done) | (simp [up2, *]; omega) | (simp only [up2_eq]; omega)) dX0_goForth_8 (by decide) (fun h8_1 => ?_) (fun h8_1 => ?_)
  · first
    | exfalso; first | omega | contradiction
    | skip
      refine r_aload_n C dX0_goForth_14 rfl ?_
      refine r_aload_n C dX0_goForth_15 rfl ?_
      refine u_get (v := .int (nI (f 7 k))) C 1 (by first | omega | (simp [up2, *]; done) | (simp [up2, *]; omega) | (simp only [up2_eq]; omega)) (by decide) qf_X0_18 rfl rfl dX0_goForth_16 ?_
      refine u_put C 2 (by first | omega | (simp [up2, *]; done) | (simp [up2, *]; omega) | (simp only [up2_eq]; omega)) (by decide) qf_X0_9 rfl rfl rfl dX0_goForth_19 ?_
      refine r_aload_n C dX0_goForth_22 rfl ?_
      refine r_dup C dX0_goForth_23 rfl ?_
      refine u_get (v := .int (nI (f 7 k))) C 1 (by first | omega | (simp [up2, *]; done) | (simp [up2, *]; omega) | (simp only [up2_eq]; omega)) (by decide) qf_X0_18 rfl rfl dX0_goForth_24 ?_
      refine r_iconst (v := (nI 1)) C dX0_goForth_27 (by decide) ?_
      refine r_iaddN C dX0_goForth_28 ?_
      refine u_put C 1 (by first | omega | (simp [up2, *]; done) | (simp [up2, *]; omega) | (simp only [up2_eq]; omega)) (by decide) qf_X0_18 rfl rfl rfl dX0_goForth_29 ?_
      refine r_aload_n C dX0_goForth_32 rfl ?_
      refine r_aload_n C dX0_goForth_33 rfl ?_
      refine u_get (v := .int (nI (f 7 k))) C 2 (by first | omega | (simp [up2, *]; done) | (simp [up2, *]; omega) | (simp only [up2_eq]; omega)) (by decide) qf_X0_9 rfl (by simp [uV, up2, *]) dX0_goForth_34 ?_
      refine d_V (st := []) hX.stb C hE (C_itemAt (f := (up2 (up2 f 8 k (f 7 k)) 7 k ((f 7 k) + 1))) (r := r) (kn := kn) (i := i) (k := (f 7 k)) hX (by first | omega | (simp [up2, *]; done) | (simp [up2, *]; omega) | (simp only [up2_eq]; omega)) (by first | omega | (simp [up2, *]; done) | (simp [up2, *]; omega) | (simp only [up2_eq]; omega)) (by first | omega | (simp [up2, *]; done) | (simp [up2, *]; omega) | (simp only [up2_eq]; omega))) pk_X1_itemAt qm_X0_30 (3 + i) 5 rfl rfl (wc_p (by first | omega | (simp [up2, *]; done) | (simp [up2, *]; omega) | (simp only [up2_eq]; omega))) rfl rfl (Nat.le_of_ble_eq_true rfl) dX0_goForth_37 ⟨Nat.le_of_ble_eq_true rfl, Nat.le_of_ble_eq_true rfl⟩ ⟨Nat.le_of_ble_eq_true rfl, Nat.le_of_ble_eq_true rfl⟩ ?_
      exact r_iret C hr dX0_goForth_40 ⟨rfl, rfl⟩ (Nat.le_of_ble_eq_true rfl) (Nat.le_of_ble_eq_true rfl)
  · first
    | exfalso; first | omega | contradiction
    | skip
      refine r_bipush (v := (nI 100)) C dX0_goForth_11 (by decide) ?_
      exact r_iret C hr dX0_goForth_13 ⟨rfl, rfl⟩ (Nat.le_of_ble_eq_true rfl) (Nat.le_of_ble_eq_true rfl)
theorem dX0_goBack_0 : decode cX0_goBack 0 = .ok (.aload_n 0, 1) := dqo_42 (kb_of ke_X0_goBack 0 rfl)
theorem dX0_goBack_1 : decode cX0_goBack 1 = .ok (.getfield 18, 3) := dqo_180 0 18 (kb_of ke_X0_goBack 1 rfl) (kb_of ke_X0_goBack 2 rfl) (kb_of ke_X0_goBack 3 rfl)
theorem dX0_goBack_4 : decode cX0_goBack 4 = .ok (.ifCond .gt 6, 3) := dqo_157 0 6 (by decide) (kb_of ke_X0_goBack 4 rfl) (kb_of ke_X0_goBack 5 rfl) (kb_of ke_X0_goBack 6 rfl)
theorem dX0_goBack_7 : decode cX0_goBack 7 = .ok (.bipush 100, 2) := dqo_16 100 (by decide) (kb_of ke_X0_goBack 7 rfl) (kb_of ke_X0_goBack 8 rfl)
theorem dX0_goBack_9 : decode cX0_goBack 9 = .ok (.ireturn, 1) := dqo_172 (kb_of ke_X0_goBack 9 rfl)
theorem dX0_goBack_10 : decode cX0_goBack 10 = .ok (.aload_n 0, 1) := dqo_42 (kb_of ke_X0_goBack 10 rfl)
theorem dX0_goBack_11 : decode cX0_goBack 11 = .ok (.dup, 1) := dqo_89 (kb_of ke_X0_goBack 11 rfl)
theorem dX0_goBack_12 : decode cX0_goBack 12 = .ok (.getfield 18, 3) := dqo_180 0 18 (kb_of ke_X0_goBack 12 rfl) (kb_of ke_X0_goBack 13 rfl) (kb_of ke_X0_goBack 14 rfl)
theorem dX0_goBack_15 : decode cX0_goBack 15 = .ok (.iconst 1, 1) := dqo_4 (kb_of ke_X0_goBack 15 rfl)
theorem dX0_goBack_16 : decode cX0_goBack 16 = .ok (.isub, 1) := dqo_100 (kb_of ke_X0_goBack 16 rfl)
theorem dX0_goBack_17 : decode cX0_goBack 17 = .ok (.putfield 18, 3) := dqo_181 0 18 (kb_of ke_X0_goBack 17 rfl) (kb_of ke_X0_goBack 18 rfl) (kb_of ke_X0_goBack 19 rfl)
theorem dX0_goBack_20 : decode cX0_goBack 20 = .ok (.aload_n 0, 1) := dqo_42 (kb_of ke_X0_goBack 20 rfl)
theorem dX0_goBack_21 : decode cX0_goBack 21 = .ok (.aload_n 0, 1) := dqo_42 (kb_of ke_X0_goBack 21 rfl)
theorem dX0_goBack_22 : decode cX0_goBack 22 = .ok (.getfield 18, 3) := dqo_180 0 18 (kb_of ke_X0_goBack 22 rfl) (kb_of ke_X0_goBack 23 rfl) (kb_of ke_X0_goBack 24 rfl)
theorem dX0_goBack_25 : decode cX0_goBack 25 = .ok (.putfield 9, 3) := dqo_181 0 9 (kb_of ke_X0_goBack 25 rfl) (kb_of ke_X0_goBack 26 rfl) (kb_of ke_X0_goBack 27 rfl)
theorem dX0_goBack_28 : decode cX0_goBack 28 = .ok (.aload_n 1, 1) := dqo_43 (kb_of ke_X0_goBack 28 rfl)
theorem dX0_goBack_29 : decode cX0_goBack 29 = .ok (.aload_n 0, 1) := dqo_42 (kb_of ke_X0_goBack 29 rfl)
theorem dX0_goBack_30 : decode cX0_goBack 30 = .ok (.getfield 9, 3) := dqo_180 0 9 (kb_of ke_X0_goBack 30 rfl) (kb_of ke_X0_goBack 31 rfl) (kb_of ke_X0_goBack 32 rfl)
theorem dX0_goBack_33 : decode cX0_goBack 33 = .ok (.invokevirtual 30, 3) := dqo_182 0 30 (kb_of ke_X0_goBack 33 rfl) (kb_of ke_X0_goBack 34 rfl) (kb_of ke_X0_goBack 35 rfl)
theorem dX0_goBack_36 : decode cX0_goBack 36 = .ok (.ireturn, 1) := dqo_172 (kb_of ke_X0_goBack 36 rfl)
set_option maxRecDepth 100000 in
set_option maxHeartbeats 4000000 in
theorem C_goBack0 {l : Launch} {D : va_G} {cy : Nat → ClassId} {X : (Nat → Prop) → State → Heap → Prop} {a f : Nat → Nat → Nat} {r : Nat → Nat → Int32} {kn : Int32} {Y : va_W} {k : Nat} {i : Nat} (hX : EnvX X) (hk : k < 3) (hi : i < 11) (hx : f 7 k = 0) : Cd l D cy X yX0_goBack cX0_goBack 2 (some .int) (rmz 1 30) [.ref (a 3 k), .ref (a 1 i)] (WC cy a f r kn ++ Y) (some (.int (nI 100))) (WC cy a f r kn ++ Y) := by
  refine Cm.of [some (.ref (a 3 k)), some (.ref (a 1 i))] pn_X0 rfl (Nat.le_of_ble_eq_true rfl) ?_
  intro p e s m args below meth c A C hE hr hnt hn
  refine r_aload_n C dX0_goBack_0 rfl ?_
  refine u_get (v := .int (nI (f 7 k))) C 1 (by first | omega | (simp [up2, *]; done) | (simp [up2, *]; omega) | (simp only [up2_eq]; omega)) (by decide) qf_X0_18 rfl rfl dX0_goBack_1 ?_
  refine r_ifN_gt (tgt := 10) C (by first | omega | (simp [up2, *]; done) | (simp [up2, *]; omega) | (simp only [up2_eq]; omega)) dX0_goBack_4 (by decide) (fun h4_1 => ?_) (fun h4_1 => ?_)
  · first
    | exfalso; first | omega | contradiction
    | skip
      refine r_aload_n C dX0_goBack_10 rfl ?_
      refine r_dup C dX0_goBack_11 rfl ?_
      refine u_get (v := .int (nI (f 7 k))) C 1 (by first | omega | (simp [up2, *]; done) | (simp [up2, *]; omega) | (simp only [up2_eq]; omega)) (by decide) qf_X0_18 rfl rfl dX0_goBack_12 ?_
      refine r_iconst (v := (nI 1)) C dX0_goBack_15 (by decide) ?_
      refine r_isubN C dX0_goBack_16 (by first | omega | (simp [up2, *]; done) | (simp [up2, *]; omega) | (simp only [up2_eq]; omega)) ?_
      refine u_put C 1 (by first | omega | (simp [up2, *]; done) | (simp [up2, *]; omega) | (simp only [up2_eq]; omega)) (by decide) qf_X0_18 rfl rfl rfl dX0_goBack_17 ?_
      refine r_aload_n C dX0_goBack_20 rfl ?_
      refine r_aload_n C dX0_goBack_21 rfl ?_
      refine u_get (v := .int (nI ((f 7 k) - 1))) C 1 (by first | omega | (simp [up2, *]; done) | (simp [up2, *]; omega) | (simp only [up2_eq]; omega)) (by decide) qf_X0_18 rfl (by simp [uV, up2, *]) dX0_goBack_22 ?_
      refine u_put C 2 (by first | omega | (simp [up2, *]; done) | (simp [up2, *]; omega) | (simp only [up2_eq]; omega)) (by decide) qf_X0_9 rfl rfl rfl dX0_goBack_25 ?_
      refine r_aload_n C dX0_goBack_28 rfl ?_
      refine r_aload_n C dX0_goBack_29 rfl ?_
      refine u_get (v := .int (nI ((f 7 k) - 1))) C 2 (by first | omega | (simp [up2, *]; done) | (simp [up2, *]; omega) | (simp only [up2_eq]; omega)) (by decide) qf_X0_9 rfl (by simp [uV, up2, *]) dX0_goBack_30 ?_
      refine d_V (st := []) hX.stb C hE (C_itemAt (f := (up2 (up2 f 7 k ((f 7 k) - 1)) 8 k ((f 7 k) - 1))) (r := r) (kn := kn) (i := i) (k := ((f 7 k) - 1)) hX (by first | omega | (simp [up2, *]; done) | (simp [up2, *]; omega) | (simp only [up2_eq]; omega)) (by first | omega | (simp [up2, *]; done) | (simp [up2, *]; omega) | (simp only [up2_eq]; omega)) (by first | omega | (simp [up2, *]; done) | (simp [up2, *]; omega) | (simp only [up2_eq]; omega))) pk_X1_itemAt qm_X0_30 (3 + i) 5 rfl rfl (wc_p (by first | omega | (simp [up2, *]; done) | (simp [up2, *]; omega) | (simp only [up2_eq]; omega))) rfl rfl (Nat.le_of_ble_eq_true rfl) dX0_goBack_33 ⟨Nat.le_of_ble_eq_true rfl, Nat.le_of_ble_eq_true rfl⟩ ⟨Nat.le_of_ble_eq_true rfl, Nat.le_of_ble_eq_true rfl⟩ ?_
      exact r_iret C hr dX0_goBack_36 ⟨rfl, rfl⟩ (Nat.le_of_ble_eq_true rfl) (Nat.le_of_ble_eq_true rfl)
  · first
    | exfalso; first | omega | contradiction
    | skip
      refine r_bipush (v := (nI 100)) C dX0_goBack_7 (by decide) ?_
      exact r_iret C hr dX0_goBack_9 ⟨rfl, rfl⟩ (Nat.le_of_ble_eq_true rfl) (Nat.le_of_ble_eq_true rfl)
set_option maxRecDepth 100000 in
set_option maxHeartbeats 4000000 in
theorem C_goBack1 {l : Launch} {D : va_G} {cy : Nat → ClassId} {X : (Nat → Prop) → State → Heap → Prop} {a f : Nat → Nat → Nat} {r : Nat → Nat → Int32} {kn : Int32} {Y : va_W} {k : Nat} {i : Nat} (hX : EnvX X) (hk : k < 3) (hi : i < 11) (h0 : f 0 i < 7) (h4 : f 3 i + f 4 i ≤ 12) (hx : 0 < f 7 k) (hx2 : f 7 k ≤ f 4 i) : Cd l D cy X yX0_goBack cX0_goBack 2 (some .int) (rmz 1 30) [.ref (a 3 k), .ref (a 1 i)] (WC cy a f r kn ++ Y) (some (.int (r (f 0 i) (f 3 i + (f 7 k - 1))))) (WC cy a (up2 (up2 f 7 k (f 7 k - 1)) 8 k (f 7 k - 1)) r kn ++ Y) := by
  refine Cm.of [some (.ref (a 3 k)), some (.ref (a 1 i))] pn_X0 rfl (Nat.le_of_ble_eq_true rfl) ?_
  intro p e s m args below meth c A C hE hr hnt hn
  refine r_aload_n C dX0_goBack_0 rfl ?_
  refine u_get (v := .int (nI (f 7 k))) C 1 (by first | omega | (simp [up2, *]; done) | (simp [up2, *]; omega) | (simp only [up2_eq]; omega)) (by decide) qf_X0_18 rfl rfl dX0_goBack_1 ?_
  refine r_ifN_gt (tgt := 10) C (by first | omega | (simp [up2, *]; done) | (simp [up2, *]; omega) | (simp only [up2_eq]; omega)) dX0_goBack_4 (by decide) (fun h4_1 => ?_) (fun h4_1 => ?_)
  · first
    | exfalso; first | omega | contradiction
    | skip
      refine r_aload_n C dX0_goBack_10 rfl ?_
      refine r_dup C dX0_goBack_11 rfl ?_
      refine u_get (v := .int (nI (f 7 k))) C 1 (by first | omega | (simp [up2, *]; done) | (simp [up2, *]; omega) | (simp only [up2_eq]; omega)) (by decide) qf_X0_18 rfl rfl dX0_goBack_12 ?_
      refine r_iconst (v := (nI 1)) C dX0_goBack_15 (by decide) ?_
      refine r_isubN C dX0_goBack_16 (by first | omega | (simp [up2, *]; done) | (simp [up2, *]; omega) | (simp only [up2_eq]; omega)) ?_
      refine u_put C 1 (by first | omega | (simp [up2, *]; done) | (simp [up2, *]; omega) | (simp only [up2_eq]; omega)) (by decide) qf_X0_18 rfl rfl rfl dX0_goBack_17 ?_
      refine r_aload_n C dX0_goBack_20 rfl ?_
      refine r_aload_n C dX0_goBack_21 rfl ?_
      refine u_get (v := .int (nI ((f 7 k) - 1))) C 1 (by first | omega | (simp [up2, *]; done) | (simp [up2, *]; omega) | (simp only [up2_eq]; omega)) (by decide) qf_X0_18 rfl (by simp [uV, up2, *]) dX0_goBack_22 ?_
      refine u_put C 2 (by first | omega | (simp [up2, *]; done) | (simp [up2, *]; omega) | (simp only [up2_eq]; omega)) (by decide) qf_X0_9 rfl rfl rfl dX0_goBack_25 ?_
      refine r_aload_n C dX0_goBack_28 rfl ?_
      refine r_aload_n C dX0_goBack_29 rfl ?_
      refine u_get (v := .int (nI ((f 7 k) - 1))) C 2 (by first | omega | (simp [up2, *]; done) | (simp [up2, *]; omega) | (simp only [up2_eq]; omega)) (by decide) qf_X0_9 rfl (by simp [uV, up2, *]) dX0_goBack_30 ?_
      refine d_V (st := []) hX.stb C hE (C_itemAt (f := (up2 (up2 f 7 k ((f 7 k) - 1)) 8 k ((f 7 k) - 1))) (r := r) (kn := kn) (i := i) (k := ((f 7 k) - 1)) hX (by first | omega | (simp [up2, *]; done) | (simp [up2, *]; omega) | (simp only [up2_eq]; omega)) (by first | omega | (simp [up2, *]; done) | (simp [up2, *]; omega) | (simp only [up2_eq]; omega)) (by first | omega | (simp [up2, *]; done) | (simp [up2, *]; omega) | (simp only [up2_eq]; omega))) pk_X1_itemAt qm_X0_30 (3 + i) 5 rfl rfl (wc_p (by first | omega | (simp [up2, *]; done) | (simp [up2, *]; omega) | (simp only [up2_eq]; omega))) rfl rfl (Nat.le_of_ble_eq_true rfl) dX0_goBack_33 ⟨Nat.le_of_ble_eq_true rfl, Nat.le_of_ble_eq_true rfl⟩ ⟨Nat.le_of_ble_eq_true rfl, Nat.le_of_ble_eq_true rfl⟩ ?_
      exact r_iret C hr dX0_goBack_36 ⟨rfl, rfl⟩ (Nat.le_of_ble_eq_true rfl) (Nat.le_of_ble_eq_true rfl)
  · first
    | exfalso; first | omega | contradiction
    | skip
      refine r_bipush (v := (nI 100)) C dX0_goBack_7 (by decide) ?_
      exact r_iret C hr dX0_goBack_9 ⟨rfl, rfl⟩ (Nat.le_of_ble_eq_true rfl) (Nat.le_of_ble_eq_true rfl)
