/-! PART: contracts of the class's Parts -/
/-- the first place from k on, of d places, at which g is x; -1 without -/
def fpF (g : Nat → Int32) (x : Int32) : Nat → Nat → Nat
  | 0, _ => 4294967295
  | d + 1, k => if g k = x then k else fpF g x d (k + 1)
theorem dX1_isGap_0 : decode cX1_isGap 0 = .ok (.iload_n 1, 1) := by decide +kernel
theorem dX1_isGap_1 : decode cX1_isGap 1 = .ok (.ifCond .lt 15, 3) := by decide +kernel
theorem dX1_isGap_4 : decode cX1_isGap 4 = .ok (.iload_n 1, 1) := by decide +kernel
theorem dX1_isGap_5 : decode cX1_isGap 5 = .ok (.aload_n 0, 1) := by decide +kernel
theorem dX1_isGap_6 : decode cX1_isGap 6 = .ok (.getfield 29, 3) := by decide +kernel
theorem dX1_isGap_9 : decode cX1_isGap 9 = .ok (.if_icmp .gt 7, 3) := by decide +kernel
theorem dX1_isGap_12 : decode cX1_isGap 12 = .ok (.iconst 1, 1) := by decide +kernel
theorem dX1_isGap_13 : decode cX1_isGap 13 = .ok (.goto 4, 3) := by decide +kernel
theorem dX1_isGap_16 : decode cX1_isGap 16 = .ok (.iconst 0, 1) := by decide +kernel
theorem dX1_isGap_17 : decode cX1_isGap 17 = .ok (.ireturn, 1) := by decide +kernel
set_option maxRecDepth 100000 in
set_option maxHeartbeats 4000000 in
theorem C_isGap1 {l : Launch} {D : va_G} {cy : Nat → ClassId} {X : (Nat → Prop) → State → Heap → Prop} {a f : Nat → Nat → Nat} {r : Nat → Nat → Int32} {kn : Int32} {Y : va_W} {i : Nat} {k : Nat} (hX : EnvX X) (hi : i < 11) (hk : k ≤ f 4 i) (h4 : f 4 i ≤ 12) : Cd l D cy X yX1_isGap cX1_isGap 2 (some .boolean) (rmz 0 0) [.ref (a 1 i), .int (nI k)] (WC cy a f r kn ++ Y) (some (.int (nI 1))) (WC cy a f r kn ++ Y) := by
  refine Cm.of [some (.ref (a 1 i)), some (.int (nI k))] (by decide +kernel) rfl (Nat.le_of_ble_eq_true rfl) ?_
  intro p e s m args below meth c A C hE hr hnt hn
  refine r_iload_n C dX1_isGap_0 rfl ?_
  refine r_ifN_lt (tgt := 16) C (by first | omega | (simp [up2, *]; done) | (simp [up2, *]; omega) | (simp only [up2_eq]; omega)) dX1_isGap_1 (by decide) (fun h1_1 => ?_) (fun h1_1 => ?_)
  · first
    | exfalso; first | omega | contradiction
    | skip
      refine r_iconst (v := (nI 0)) C dX1_isGap_16 (by decide) ?_
      exact r_zret C hr (by first | omega | (simp [up2, *]; done) | (simp [up2, *]; omega) | (simp only [up2_eq]; omega)) dX1_isGap_17 ⟨rfl, rfl⟩ (Nat.le_of_ble_eq_true rfl) (Nat.le_of_ble_eq_true rfl)
  · first
    | exfalso; first | omega | contradiction
    | skip
      refine r_iload_n C dX1_isGap_4 rfl ?_
      refine r_aload_n C dX1_isGap_5 rfl ?_
      refine p_get (v := .int (nI (f 4 i))) C 4 (by first | omega | (simp [up2, *]; done) | (simp [up2, *]; omega) | (simp only [up2_eq]; omega)) (by decide) qf_X1_29 rfl rfl dX1_isGap_6 ?_
      refine r_icN_gt (tgt := 16) C (by first | omega | (simp [up2, *]; done) | (simp [up2, *]; omega) | (simp only [up2_eq]; omega)) (by first | omega | (simp [up2, *]; done) | (simp [up2, *]; omega) | (simp only [up2_eq]; omega)) dX1_isGap_9 (by decide) (fun h9_2 => ?_) (fun h9_2 => ?_)
      · first
        | exfalso; first | omega | contradiction
        | skip
          refine r_iconst (v := (nI 0)) C dX1_isGap_16 (by decide) ?_
          exact r_zret C hr (by first | omega | (simp [up2, *]; done) | (simp [up2, *]; omega) | (simp only [up2_eq]; omega)) dX1_isGap_17 ⟨rfl, rfl⟩ (Nat.le_of_ble_eq_true rfl) (Nat.le_of_ble_eq_true rfl)
      · first
        | exfalso; first | omega | contradiction
        | skip
          refine r_iconst (v := (nI 1)) C dX1_isGap_12 (by decide) ?_
          refine r_goto (tgt := 17) C dX1_isGap_13 (by decide) ?_
          exact r_zret C hr (by first | omega | (simp [up2, *]; done) | (simp [up2, *]; omega) | (simp only [up2_eq]; omega)) dX1_isGap_17 ⟨rfl, rfl⟩ (Nat.le_of_ble_eq_true rfl) (Nat.le_of_ble_eq_true rfl)
set_option maxRecDepth 100000 in
set_option maxHeartbeats 4000000 in
theorem C_isGap0 {l : Launch} {D : va_G} {cy : Nat → ClassId} {X : (Nat → Prop) → State → Heap → Prop} {a f : Nat → Nat → Nat} {r : Nat → Nat → Int32} {kn : Int32} {Y : va_W} {i : Nat} {k : Nat} (hX : EnvX X) (hi : i < 11) (hk : f 4 i < k) (hk2 : k < 2147483648) (h4 : f 4 i ≤ 12) : Cd l D cy X yX1_isGap cX1_isGap 2 (some .boolean) (rmz 0 0) [.ref (a 1 i), .int (nI k)] (WC cy a f r kn ++ Y) (some (.int (nI 0))) (WC cy a f r kn ++ Y) := by
  refine Cm.of [some (.ref (a 1 i)), some (.int (nI k))] (by decide +kernel) rfl (Nat.le_of_ble_eq_true rfl) ?_
  intro p e s m args below meth c A C hE hr hnt hn
  refine r_iload_n C dX1_isGap_0 rfl ?_
  refine r_ifN_lt (tgt := 16) C (by first | omega | (simp [up2, *]; done) | (simp [up2, *]; omega) | (simp only [up2_eq]; omega)) dX1_isGap_1 (by decide) (fun h1_1 => ?_) (fun h1_1 => ?_)
  · first
    | exfalso; first | omega | contradiction
    | skip
      refine r_iconst (v := (nI 0)) C dX1_isGap_16 (by decide) ?_
      exact r_zret C hr (by first | omega | (simp [up2, *]; done) | (simp [up2, *]; omega) | (simp only [up2_eq]; omega)) dX1_isGap_17 ⟨rfl, rfl⟩ (Nat.le_of_ble_eq_true rfl) (Nat.le_of_ble_eq_true rfl)
  · first
    | exfalso; first | omega | contradiction
    | skip
      refine r_iload_n C dX1_isGap_4 rfl ?_
      refine r_aload_n C dX1_isGap_5 rfl ?_
      refine p_get (v := .int (nI (f 4 i))) C 4 (by first | omega | (simp [up2, *]; done) | (simp [up2, *]; omega) | (simp only [up2_eq]; omega)) (by decide) qf_X1_29 rfl rfl dX1_isGap_6 ?_
      refine r_icN_gt (tgt := 16) C (by first | omega | (simp [up2, *]; done) | (simp [up2, *]; omega) | (simp only [up2_eq]; omega)) (by first | omega | (simp [up2, *]; done) | (simp [up2, *]; omega) | (simp only [up2_eq]; omega)) dX1_isGap_9 (by decide) (fun h9_2 => ?_) (fun h9_2 => ?_)
      · first
        | exfalso; first | omega | contradiction
        | skip
          refine r_iconst (v := (nI 0)) C dX1_isGap_16 (by decide) ?_
          exact r_zret C hr (by first | omega | (simp [up2, *]; done) | (simp [up2, *]; omega) | (simp only [up2_eq]; omega)) dX1_isGap_17 ⟨rfl, rfl⟩ (Nat.le_of_ble_eq_true rfl) (Nat.le_of_ble_eq_true rfl)
      · first
        | exfalso; first | omega | contradiction
        | skip
          refine r_iconst (v := (nI 1)) C dX1_isGap_12 (by decide) ?_
          refine r_goto (tgt := 17) C dX1_isGap_13 (by decide) ?_
          exact r_zret C hr (by first | omega | (simp [up2, *]; done) | (simp [up2, *]; omega) | (simp only [up2_eq]; omega)) dX1_isGap_17 ⟨rfl, rfl⟩ (Nat.le_of_ble_eq_true rfl) (Nat.le_of_ble_eq_true rfl)
theorem dX1_itemAt_0 : decode cX1_itemAt 0 = .ok (.aload_n 0, 1) := by decide +kernel
theorem dX1_itemAt_1 : decode cX1_itemAt 1 = .ok (.getfield 15, 3) := by decide +kernel
theorem dX1_itemAt_4 : decode cX1_itemAt 4 = .ok (.aload_n 0, 1) := by decide +kernel
theorem dX1_itemAt_5 : decode cX1_itemAt 5 = .ok (.getfield 26, 3) := by decide +kernel
theorem dX1_itemAt_8 : decode cX1_itemAt 8 = .ok (.iload_n 1, 1) := by decide +kernel
theorem dX1_itemAt_9 : decode cX1_itemAt 9 = .ok (.iadd, 1) := by decide +kernel
theorem dX1_itemAt_10 : decode cX1_itemAt 10 = .ok (.iaload, 1) := by decide +kernel
theorem dX1_itemAt_11 : decode cX1_itemAt 11 = .ok (.ireturn, 1) := by decide +kernel
set_option maxRecDepth 100000 in
set_option maxHeartbeats 4000000 in
theorem C_itemAt {l : Launch} {D : va_G} {cy : Nat → ClassId} {X : (Nat → Prop) → State → Heap → Prop} {a f : Nat → Nat → Nat} {r : Nat → Nat → Int32} {kn : Int32} {Y : va_W} {i : Nat} {k : Nat} (hX : EnvX X) (hi : i < 11) (h0 : f 0 i < 7) (hk : f 3 i + k < 12) : Cd l D cy X yX1_itemAt cX1_itemAt 2 (some .int) (rmz 0 0) [.ref (a 1 i), .int (nI k)] (WC cy a f r kn ++ Y) (some (.int (r (f 0 i) (f 3 i + k)))) (WC cy a f r kn ++ Y) := by
  refine Cm.of [some (.ref (a 1 i)), some (.int (nI k))] (by decide +kernel) rfl (Nat.le_of_ble_eq_true rfl) ?_
  intro p e s m args below meth c A C hE hr hnt hn
  refine r_aload_n C dX1_itemAt_0 rfl ?_
  refine p_get (v := .ref (a 2 (f 0 i))) C 0 (by first | omega | (simp [up2, *]; done) | (simp [up2, *]; omega) | (simp only [up2_eq]; omega)) (by decide) qf_X1_15 rfl rfl dX1_itemAt_1 ?_
  refine r_aload_n C dX1_itemAt_4 rfl ?_
  refine p_get (v := .int (nI (f 3 i))) C 3 (by first | omega | (simp [up2, *]; done) | (simp [up2, *]; omega) | (simp only [up2_eq]; omega)) (by decide) qf_X1_26 rfl rfl dX1_itemAt_5 ?_
  refine r_iload_n C dX1_itemAt_8 rfl ?_
  refine r_iaddN C dX1_itemAt_9 ?_
  refine s_iald C (by first | omega | (simp [up2, *]; done) | (simp [up2, *]; omega) | (simp only [up2_eq]; omega)) (by first | omega | (simp [up2, *]; done) | (simp [up2, *]; omega) | (simp only [up2_eq]; omega)) dX1_itemAt_10 ?_
  exact r_iret C hr dX1_itemAt_11 ⟨rfl, rfl⟩ (Nat.le_of_ble_eq_true rfl) (Nat.le_of_ble_eq_true rfl)
theorem dX1_putAt_0 : decode cX1_putAt 0 = .ok (.aload_n 0, 1) := by decide +kernel
theorem dX1_putAt_1 : decode cX1_putAt 1 = .ok (.getfield 15, 3) := by decide +kernel
theorem dX1_putAt_4 : decode cX1_putAt 4 = .ok (.aload_n 0, 1) := by decide +kernel
theorem dX1_putAt_5 : decode cX1_putAt 5 = .ok (.getfield 26, 3) := by decide +kernel
theorem dX1_putAt_8 : decode cX1_putAt 8 = .ok (.iload_n 1, 1) := by decide +kernel
theorem dX1_putAt_9 : decode cX1_putAt 9 = .ok (.iadd, 1) := by decide +kernel
theorem dX1_putAt_10 : decode cX1_putAt 10 = .ok (.iload_n 2, 1) := by decide +kernel
theorem dX1_putAt_11 : decode cX1_putAt 11 = .ok (.iastore, 1) := by decide +kernel
theorem dX1_putAt_12 : decode cX1_putAt 12 = .ok (.return_, 1) := by decide +kernel
set_option maxRecDepth 100000 in
set_option maxHeartbeats 4000000 in
theorem C_putAt {l : Launch} {D : va_G} {cy : Nat → ClassId} {X : (Nat → Prop) → State → Heap → Prop} {a f : Nat → Nat → Nat} {r : Nat → Nat → Int32} {kn : Int32} {Y : va_W} {i : Nat} {k : Nat} {x : Int32} (hX : EnvX X) (hi : i < 11) (h0 : f 0 i < 7) (hk : f 3 i + k < 12) : Cd l D cy X yX1_putAt cX1_putAt 3 none (rmz 0 0) [.ref (a 1 i), .int (nI k), .int x] (WC cy a f r kn ++ Y) none (WC cy a f (up2 r (f 0 i) (f 3 i + k) x) kn ++ Y) := by
  refine Cm.of [some (.ref (a 1 i)), some (.int (nI k)), some (.int x)] (by decide +kernel) rfl (Nat.le_of_ble_eq_true rfl) ?_
  intro p e s m args below meth c A C hE hr hnt hn
  refine r_aload_n C dX1_putAt_0 rfl ?_
  refine p_get (v := .ref (a 2 (f 0 i))) C 0 (by first | omega | (simp [up2, *]; done) | (simp [up2, *]; omega) | (simp only [up2_eq]; omega)) (by decide) qf_X1_15 rfl rfl dX1_putAt_1 ?_
  refine r_aload_n C dX1_putAt_4 rfl ?_
  refine p_get (v := .int (nI (f 3 i))) C 3 (by first | omega | (simp [up2, *]; done) | (simp [up2, *]; omega) | (simp only [up2_eq]; omega)) (by decide) qf_X1_26 rfl rfl dX1_putAt_5 ?_
  refine r_iload_n C dX1_putAt_8 rfl ?_
  refine r_iaddN C dX1_putAt_9 ?_
  refine r_iload_n C dX1_putAt_10 rfl ?_
  refine s_iast C (by first | omega | (simp [up2, *]; done) | (simp [up2, *]; omega) | (simp only [up2_eq]; omega)) (by first | omega | (simp [up2, *]; done) | (simp [up2, *]; omega) | (simp only [up2_eq]; omega)) dX1_putAt_11 ?_
  exact r_vret C hr dX1_putAt_12 ⟨rfl, rfl⟩ (Nat.le_of_ble_eq_true rfl) (Nat.le_of_ble_eq_true rfl)
theorem dX1_becomeLike_0 : decode cX1_becomeLike 0 = .ok (.aload_n 0, 1) := by decide +kernel
theorem dX1_becomeLike_1 : decode cX1_becomeLike 1 = .ok (.aload_n 1, 1) := by decide +kernel
theorem dX1_becomeLike_2 : decode cX1_becomeLike 2 = .ok (.getfield 29, 3) := by decide +kernel
theorem dX1_becomeLike_5 : decode cX1_becomeLike 5 = .ok (.putfield 29, 3) := by decide +kernel
theorem dX1_becomeLike_8 : decode cX1_becomeLike 8 = .ok (.aload_n 1, 1) := by decide +kernel
theorem dX1_becomeLike_9 : decode cX1_becomeLike 9 = .ok (.getfield 15, 3) := by decide +kernel
theorem dX1_becomeLike_12 : decode cX1_becomeLike 12 = .ok (.aload_n 1, 1) := by decide +kernel
theorem dX1_becomeLike_13 : decode cX1_becomeLike 13 = .ok (.getfield 26, 3) := by decide +kernel
theorem dX1_becomeLike_16 : decode cX1_becomeLike 16 = .ok (.aload_n 0, 1) := by decide +kernel
theorem dX1_becomeLike_17 : decode cX1_becomeLike 17 = .ok (.getfield 15, 3) := by decide +kernel
theorem dX1_becomeLike_20 : decode cX1_becomeLike 20 = .ok (.aload_n 0, 1) := by decide +kernel
theorem dX1_becomeLike_21 : decode cX1_becomeLike 21 = .ok (.getfield 26, 3) := by decide +kernel
theorem dX1_becomeLike_24 : decode cX1_becomeLike 24 = .ok (.aload_n 0, 1) := by decide +kernel
theorem dX1_becomeLike_25 : decode cX1_becomeLike 25 = .ok (.getfield 29, 3) := by decide +kernel
theorem dX1_becomeLike_28 : decode cX1_becomeLike 28 = .ok (.invokestatic 36, 3) := by decide +kernel
theorem dX1_becomeLike_31 : decode cX1_becomeLike 31 = .ok (.return_, 1) := by decide +kernel
set_option maxRecDepth 100000 in
set_option maxHeartbeats 4000000 in
theorem C_becomeLike {l : Launch} {D : va_G} {cy : Nat → ClassId} {X : (Nat → Prop) → State → Heap → Prop} {a f : Nat → Nat → Nat} {r : Nat → Nat → Int32} {kn : Int32} {Y : va_W} {i : Nat} {j : Nat} (hX : EnvX X) (hi : i < 11) (hj : j < 11) (h0 : f 0 i < 7) (h1 : f 0 j < 7) (h2 : f 3 j + f 4 j ≤ 12) (h3 : f 3 i + f 4 j ≤ 12) : Cd l D cy X yX1_becomeLike cX1_becomeLike 2 none (rmz 1 40) [.ref (a 1 i), .ref (a 1 j)] (WC cy a f r kn ++ Y) none (WC cy a (up2 f 4 i (f 4 j)) (cpy2 r (f 0 j) (f 3 j) (f 0 i) (f 3 i) (f 4 j)) kn ++ Y) := by
  refine Cm.of [some (.ref (a 1 i)), some (.ref (a 1 j))] (by decide +kernel) rfl (Nat.le_of_ble_eq_true rfl) ?_
  intro p e s m args below meth c A C hE hr hnt hn
  refine r_aload_n C dX1_becomeLike_0 rfl ?_
  refine r_aload_n C dX1_becomeLike_1 rfl ?_
  refine p_get (v := .int (nI (f 4 j))) C 4 (by first | omega | (simp [up2, *]; done) | (simp [up2, *]; omega) | (simp only [up2_eq]; omega)) (by decide) qf_X1_29 rfl rfl dX1_becomeLike_2 ?_
  refine p_put C 4 (by first | omega | (simp [up2, *]; done) | (simp [up2, *]; omega) | (simp only [up2_eq]; omega)) (by decide) (by decide) qf_X1_29 rfl rfl rfl dX1_becomeLike_5 ?_
  refine r_aload_n C dX1_becomeLike_8 rfl ?_
  refine p_get (v := .ref (a 2 (f 0 j))) C 0 (by first | omega | (simp [up2, *]; done) | (simp [up2, *]; omega) | (simp only [up2_eq]; omega)) (by decide) qf_X1_15 rfl rfl dX1_becomeLike_9 ?_
  refine r_aload_n C dX1_becomeLike_12 rfl ?_
  refine p_get (v := .int (nI (f 3 j))) C 3 (by first | omega | (simp [up2, *]; done) | (simp [up2, *]; omega) | (simp only [up2_eq]; omega)) (by decide) qf_X1_26 rfl rfl dX1_becomeLike_13 ?_
  refine r_aload_n C dX1_becomeLike_16 rfl ?_
  refine p_get (v := .ref (a 2 (f 0 i))) C 0 (by first | omega | (simp [up2, *]; done) | (simp [up2, *]; omega) | (simp only [up2_eq]; omega)) (by decide) qf_X1_15 rfl rfl dX1_becomeLike_17 ?_
  refine r_aload_n C dX1_becomeLike_20 rfl ?_
  refine p_get (v := .int (nI (f 3 i))) C 3 (by first | omega | (simp [up2, *]; done) | (simp [up2, *]; omega) | (simp only [up2_eq]; omega)) (by decide) qf_X1_26 rfl rfl dX1_becomeLike_21 ?_
  refine r_aload_n C dX1_becomeLike_24 rfl ?_
  refine p_get (v := .int (nI (f 4 j))) C 4 (by first | omega | (simp [up2, *]; done) | (simp [up2, *]; omega) | (simp only [up2_eq]; omega)) (by decide) qf_X1_29 rfl (by simp [pV, up2, *]) dX1_becomeLike_25 ?_
  refine s_copy (j0 := (f 0 j)) (j1 := (f 0 i)) (sp := (f 3 j)) (dp := (f 3 i)) (n := (f 4 j)) (st := []) C qm_X1_36 (by first | omega | (simp [up2, *]; done) | (simp [up2, *]; omega) | (simp only [up2_eq]; omega)) (by first | omega | (simp [up2, *]; done) | (simp [up2, *]; omega) | (simp only [up2_eq]; omega)) (by first | omega | (simp [up2, *]; done) | (simp [up2, *]; omega) | (simp only [up2_eq]; omega)) (by first | omega | (simp [up2, *]; done) | (simp [up2, *]; omega) | (simp only [up2_eq]; omega)) (by decide) (Nat.le_of_ble_eq_true rfl) dX1_becomeLike_28 ?_
  exact r_vret C hr dX1_becomeLike_31 ⟨rfl, rfl⟩ (Nat.le_of_ble_eq_true rfl) (Nat.le_of_ble_eq_true rfl)
theorem pk_X1_itemAt : PkV RX1 yX1_itemAt cX1_itemAt 2 (some .int) 1 := ⟨⟨qi_X1_itemAt, qs_X1_itemAt, qz_X1, qc_X1_itemAt⟩, by decide +kernel⟩
theorem dX1_firstPlaceOf_0 : decode cX1_firstPlaceOf 0 = .ok (.iconst 0, 1) := by decide +kernel
theorem dX1_firstPlaceOf_1 : decode cX1_firstPlaceOf 1 = .ok (.istore_n 2, 1) := by decide +kernel
theorem dX1_firstPlaceOf_2 : decode cX1_firstPlaceOf 2 = .ok (.iload_n 2, 1) := by decide +kernel
theorem dX1_firstPlaceOf_3 : decode cX1_firstPlaceOf 3 = .ok (.aload_n 0, 1) := by decide +kernel
theorem dX1_firstPlaceOf_4 : decode cX1_firstPlaceOf 4 = .ok (.getfield 29, 3) := by decide +kernel
theorem dX1_firstPlaceOf_7 : decode cX1_firstPlaceOf 7 = .ok (.if_icmp .ge 20, 3) := by decide +kernel
theorem dX1_firstPlaceOf_10 : decode cX1_firstPlaceOf 10 = .ok (.aload_n 0, 1) := by decide +kernel
theorem dX1_firstPlaceOf_11 : decode cX1_firstPlaceOf 11 = .ok (.iload_n 2, 1) := by decide +kernel
theorem dX1_firstPlaceOf_12 : decode cX1_firstPlaceOf 12 = .ok (.invokevirtual 32, 3) := by decide +kernel
theorem dX1_firstPlaceOf_15 : decode cX1_firstPlaceOf 15 = .ok (.iload_n 1, 1) := by decide +kernel
theorem dX1_firstPlaceOf_16 : decode cX1_firstPlaceOf 16 = .ok (.if_icmp .ne 5, 3) := by decide +kernel
theorem dX1_firstPlaceOf_19 : decode cX1_firstPlaceOf 19 = .ok (.iload_n 2, 1) := by decide +kernel
theorem dX1_firstPlaceOf_20 : decode cX1_firstPlaceOf 20 = .ok (.ireturn, 1) := by decide +kernel
theorem dX1_firstPlaceOf_21 : decode cX1_firstPlaceOf 21 = .ok (.iinc 2 1, 3) := by decide +kernel
theorem dX1_firstPlaceOf_24 : decode cX1_firstPlaceOf 24 = .ok (.goto (-22), 3) := by decide +kernel
theorem dX1_firstPlaceOf_27 : decode cX1_firstPlaceOf 27 = .ok (.iconst (-1), 1) := by decide +kernel
theorem dX1_firstPlaceOf_28 : decode cX1_firstPlaceOf 28 = .ok (.ireturn, 1) := by decide +kernel
set_option maxRecDepth 100000 in
set_option maxHeartbeats 4000000 in
theorem C_firstPlaceOf {l : Launch} {D : va_G} {cy : Nat → ClassId} {X : (Nat → Prop) → State → Heap → Prop} {a f : Nat → Nat → Nat} {r : Nat → Nat → Int32} {kn : Int32} {Y : va_W} {i : Nat} {x : Int32} (hX : EnvX X) (hi : i < 11) (h0 : f 0 i < 7) (h4 : f 3 i + f 4 i ≤ 12) : Cd l D cy X yX1_firstPlaceOf cX1_firstPlaceOf 3 (some .int) (rmz 1 30) [.ref (a 1 i), .int x] (WC cy a f r kn ++ Y) (some (.int (nI (fpF (fun q => r (f 0 i) (f 3 i + q)) x (f 4 i) 0)))) (WC cy a f r kn ++ Y) := by
  refine Cm.of [some (.ref (a 1 i)), some (.int x), none] (by decide +kernel) rfl (Nat.le_of_ble_eq_true rfl) ?_
  intro p e s m args below meth c A C hE hr hnt hn
  refine r_iconst (v := (nI 0)) C dX1_firstPlaceOf_0 (by decide) ?_
  refine r_istore_n C dX1_firstPlaceOf_1 (by decide) rfl ?_
  have L5 : ∀ (d : Nat) (k : Nat), (hk : k + d = f 4 i) → (hF : fpF (fun q => r (f 0 i) (f 3 i + q)) x d k = fpF (fun q => r (f 0 i) (f 3 i + q)) x (f 4 i) 0) → vC p l e (rmz 1 30) s m args below meth c D A (vx_MQ below (vG (fun v1 w1 => v1 = (some (.int (nI (fpF (fun q => r (f 0 i) (f 3 i + q)) x (f 4 i) 0)))) ∧ w1 = WC cy a f r kn ++ Y) D vwCl A) (vGX (fun _ => False) D vwCl (WC cy a f r kn ++ Y) A) args s (rmz 1 30).cells (rmz 1 30).slots A) 3 0 0 (WC cy a f r kn ++ Y) [some (.ref (a 1 i)), some (.int x), some (.int (nI k))] 2 [] := by
    intro d
    induction d with
    | zero =>
      intro k hk hF
      refine r_iload_n C dX1_firstPlaceOf_2 rfl ?_
      refine r_aload_n C dX1_firstPlaceOf_3 rfl ?_
      refine p_get (v := .int (nI (f 4 i))) C 4 (by first | omega | (simp [up2, *]; done) | (simp [up2, *]; omega) | (simp only [up2_eq]; omega)) (by decide) qf_X1_29 rfl rfl dX1_firstPlaceOf_4 ?_
      refine r_icN_ge (tgt := 27) C (by first | omega | (simp [up2, *]; done) | (simp [up2, *]; omega) | (simp only [up2_eq]; omega)) (by first | omega | (simp [up2, *]; done) | (simp [up2, *]; omega) | (simp only [up2_eq]; omega)) dX1_firstPlaceOf_7 (by decide) (fun h7_1 => ?_) (fun h7_1 => ?_)
      · first
        | exfalso; first | omega | contradiction
        | skip
          refine r_iconst (v := (nI 4294967295)) C dX1_firstPlaceOf_27 (by decide) ?_
          exact r_iret C hr dX1_firstPlaceOf_28 ⟨by rw [← hF]; simp [fpF, *], rfl⟩ (Nat.le_of_ble_eq_true rfl) (Nat.le_of_ble_eq_true rfl)
      · first
        | exfalso; first | omega | contradiction
        | skip
          refine r_aload_n C dX1_firstPlaceOf_10 rfl ?_
          refine r_iload_n C dX1_firstPlaceOf_11 rfl ?_
          refine d_V (st := []) hX.stb C hE (C_itemAt (f := f) (r := r) (kn := kn) (i := i) (k := k) hX (by first | omega | (simp [up2, *]; done) | (simp [up2, *]; omega) | (simp only [up2_eq]; omega)) (by first | omega | (simp [up2, *]; done) | (simp [up2, *]; omega) | (simp only [up2_eq]; omega)) (by first | omega | (simp [up2, *]; done) | (simp [up2, *]; omega) | (simp only [up2_eq]; omega))) pk_X1_itemAt qm_X1_32 (3 + i) 5 rfl rfl (wc_p (by first | omega | (simp [up2, *]; done) | (simp [up2, *]; omega) | (simp only [up2_eq]; omega))) rfl rfl (Nat.le_of_ble_eq_true rfl) dX1_firstPlaceOf_12 ⟨Nat.le_of_ble_eq_true rfl, Nat.le_of_ble_eq_true rfl⟩ ⟨Nat.le_of_ble_eq_true rfl, Nat.le_of_ble_eq_true rfl⟩ ?_
          refine r_iload_n C dX1_firstPlaceOf_15 rfl ?_
          refine r_ic_ne (tgt := 21) C dX1_firstPlaceOf_16 (by decide) (fun h16_2 => ?_) (fun h16_2 => ?_)
          · first
            | exfalso; first | omega | contradiction
            | skip
              refine r_iincN C dX1_firstPlaceOf_21 rfl (by decide) rfl ?_
              refine r_goto (tgt := 2) C dX1_firstPlaceOf_24 (by decide) ?_
              exact (Nat.not_lt_zero _ (by omega)).elim
          · first
            | exfalso; first | omega | contradiction
            | skip
              refine r_iload_n C dX1_firstPlaceOf_19 rfl ?_
              exact r_iret C hr dX1_firstPlaceOf_20 ⟨by rw [← hF]; simp [fpF, *], rfl⟩ (Nat.le_of_ble_eq_true rfl) (Nat.le_of_ble_eq_true rfl)
    | succ d ih =>
      intro k hk hF
      refine r_iload_n C dX1_firstPlaceOf_2 rfl ?_
      refine r_aload_n C dX1_firstPlaceOf_3 rfl ?_
      refine p_get (v := .int (nI (f 4 i))) C 4 (by first | omega | (simp [up2, *]; done) | (simp [up2, *]; omega) | (simp only [up2_eq]; omega)) (by decide) qf_X1_29 rfl rfl dX1_firstPlaceOf_4 ?_
      refine r_icN_ge (tgt := 27) C (by first | omega | (simp [up2, *]; done) | (simp [up2, *]; omega) | (simp only [up2_eq]; omega)) (by first | omega | (simp [up2, *]; done) | (simp [up2, *]; omega) | (simp only [up2_eq]; omega)) dX1_firstPlaceOf_7 (by decide) (fun h7_3 => ?_) (fun h7_3 => ?_)
      · first
        | exfalso; first | omega | contradiction
        | skip
          refine r_iconst (v := (nI 4294967295)) C dX1_firstPlaceOf_27 (by decide) ?_
          exact r_iret C hr dX1_firstPlaceOf_28 ⟨by rw [← hF]; simp [fpF, *], rfl⟩ (Nat.le_of_ble_eq_true rfl) (Nat.le_of_ble_eq_true rfl)
      · first
        | exfalso; first | omega | contradiction
        | skip
          refine r_aload_n C dX1_firstPlaceOf_10 rfl ?_
          refine r_iload_n C dX1_firstPlaceOf_11 rfl ?_
          refine d_V (st := []) hX.stb C hE (C_itemAt (f := f) (r := r) (kn := kn) (i := i) (k := k) hX (by first | omega | (simp [up2, *]; done) | (simp [up2, *]; omega) | (simp only [up2_eq]; omega)) (by first | omega | (simp [up2, *]; done) | (simp [up2, *]; omega) | (simp only [up2_eq]; omega)) (by first | omega | (simp [up2, *]; done) | (simp [up2, *]; omega) | (simp only [up2_eq]; omega))) pk_X1_itemAt qm_X1_32 (3 + i) 5 rfl rfl (wc_p (by first | omega | (simp [up2, *]; done) | (simp [up2, *]; omega) | (simp only [up2_eq]; omega))) rfl rfl (Nat.le_of_ble_eq_true rfl) dX1_firstPlaceOf_12 ⟨Nat.le_of_ble_eq_true rfl, Nat.le_of_ble_eq_true rfl⟩ ⟨Nat.le_of_ble_eq_true rfl, Nat.le_of_ble_eq_true rfl⟩ ?_
          refine r_iload_n C dX1_firstPlaceOf_15 rfl ?_
          refine r_ic_ne (tgt := 21) C dX1_firstPlaceOf_16 (by decide) (fun h16_4 => ?_) (fun h16_4 => ?_)
          · first
            | exfalso; first | omega | contradiction
            | skip
              refine r_iincN C dX1_firstPlaceOf_21 rfl (by decide) rfl ?_
              refine r_goto (tgt := 2) C dX1_firstPlaceOf_24 (by decide) ?_
              exact ih (k + 1) (by first | omega | (simp [up2, *]; done) | (simp [up2, *]; omega) | (simp only [up2_eq]; omega)) (by rw [← hF]; simp only [fpF]; rw [if_neg (by assumption)])
          · first
            | exfalso; first | omega | contradiction
            | skip
              refine r_iload_n C dX1_firstPlaceOf_19 rfl ?_
              exact r_iret C hr dX1_firstPlaceOf_20 ⟨by rw [← hF]; simp [fpF, *], rfl⟩ (Nat.le_of_ble_eq_true rfl) (Nat.le_of_ble_eq_true rfl)
  exact L5 (f 4 i) 0 (by first | omega | (simp [up2, *]; done) | (simp [up2, *]; omega) | (simp only [up2_eq]; omega)) rfl
