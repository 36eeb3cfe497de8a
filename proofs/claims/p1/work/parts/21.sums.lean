/-! CONTRACTS of the class: sums -/
/-- what a window answers -/
def wqF (f : Nat → Nat → Nat) (k q : Nat) : Int32 := if f 5 (4 + k) = 0 then nI 4294967295 else if q = 0 then nI (f 2 (4 + k)) else if q = 1 then nI (f 1 (4 + k)) else nI (f 4 (4 + k))
/-- what a cursor answers -/
def cqF (f : Nat → Nat → Nat) (k q : Nat) : Int32 := if f 9 k = 0 then nI 4294967295 else if q = 0 then nI (f 6 k) else if q = 1 then nI (f 7 k) else if q = 2 then nI (f 7 k) - nI 1 else if q = 3 then nI (if f 7 k < f 4 (f 6 k) then 1 else 0) else nI (if 0 < f 7 k then 1 else 0)
/-- windows mixed in -/
def mwF (f : Nat → Nat → Nat) (r : Nat → Nat → Int32) : Nat → Nat → Int64 → Int64
  | 0, _, u => u
  | d + 1, k, u => mwF f r d (k + 1) (if f 5 (4 + k) = 0 then mxF (wqF f k) 3 0 u else mxF (fun q => r (f 0 (4 + k)) (f 3 (4 + k) + q)) (f 4 (4 + k)) 0 (mxF (wqF f k) 3 0 u))
/-- cursors mixed in -/
def mcF (f : Nat → Nat → Nat) : Nat → Nat → Int64 → Int64
  | 0, _, u => u
  | d + 1, k, u => mcF f d (k + 1) (mxF (cqF f k) 5 0 u)
theorem C_ofWindow_all {l : Launch} {D : va_G} {cy : Nat → ClassId} {X : (Nat → Prop) → State → Heap → Prop} {a f : Nat → Nat → Nat} {r : Nat → Nat → Int32} {kn : Int32} {Y : va_W} {k0 : Nat} {q0 : Nat} (hX : EnvX X) (hC : CInv f) (hk4 : k0 < 4) (hq : q0 < 3) : Cd l D cy X yX2_ofWindow cX2_ofWindow 4 (some .int) (rmz 6 240) [.ref (a 0 0), .int (nI k0), .int (nI q0)] (WC cy a f r kn ++ Y) (some (.int (wqF f k0 q0))) (WC cy a f r kn ++ Y) := by
  by_cases z : f 5 (4 + k0) = 0
  · rw [show wqF f k0 q0 = nI 4294967295 from if_pos z]
    exact C_ofWindow_none hX hC hk4 hq z
  · have h1 : f 5 (4 + k0) = 1 := by
      have := hC.h5 (4 + k0) (by omega)
      omega
    obtain rfl | rfl | rfl : q0 = 0 ∨ q0 = 1 ∨ q0 = 2 := by omega
    · rw [show wqF f k0 0 = nI (f 2 (4 + k0)) from if_neg z]
      exact C_ofWindow_0 hX hC hk4 h1
    · rw [show wqF f k0 1 = nI (f 1 (4 + k0)) from if_neg z]
      exact C_ofWindow_1 hX hC hk4 h1
    · rw [show wqF f k0 2 = nI (f 4 (4 + k0)) from if_neg z]
      exact C_ofWindow_2 hX hC hk4 h1
theorem C_ofCursor_all {l : Launch} {D : va_G} {cy : Nat → ClassId} {X : (Nat → Prop) → State → Heap → Prop} {a f : Nat → Nat → Nat} {r : Nat → Nat → Int32} {kn : Int32} {Y : va_W} {k0 : Nat} {q0 : Nat} (hX : EnvX X) (hC : CInv f) (hk3 : k0 < 3) (hq : q0 < 5) : Cd l D cy X yX2_ofCursor cX2_ofCursor 4 (some .int) (rmz 6 240) [.ref (a 0 0), .int (nI k0), .int (nI q0)] (WC cy a f r kn ++ Y) (some (.int (cqF f k0 q0))) (WC cy a f r kn ++ Y) := by
  by_cases z : f 9 k0 = 0
  · rw [show cqF f k0 q0 = nI 4294967295 from if_pos z]
    exact C_ofCursor_none hX hC hk3 hq z
  · have h1 : f 9 k0 = 1 := by
      have := hC.cu hk3
      omega
    obtain rfl | rfl | rfl | rfl | rfl : q0 = 0 ∨ q0 = 1 ∨ q0 = 2 ∨ q0 = 3 ∨ q0 = 4 := by omega
    · rw [show cqF f k0 0 = nI (f 6 k0) from if_neg z]
      exact C_ofCursor_0 hX hC hk3 h1
    · rw [show cqF f k0 1 = nI (f 7 k0) from if_neg z]
      exact C_ofCursor_1 hX hC hk3 h1
    · rw [show cqF f k0 2 = nI (f 7 k0) - nI 1 from if_neg z]
      exact C_ofCursor_2 hX hC hk3 h1
    · rw [show cqF f k0 3 = nI (if f 7 k0 < f 4 (f 6 k0) then 1 else 0) from if_neg z]
      exact C_ofCursor_3 hX hC hk3 h1
    · rw [show cqF f k0 4 = nI (if 0 < f 7 k0 then 1 else 0) from if_neg z]
      exact C_ofCursor_4 hX hC hk3 h1
theorem pk_X2_ofCursor : PkV RX2 yX2_ofCursor cX2_ofCursor 4 (some .int) 2 := ⟨⟨qi_X2_ofCursor, qs_X2_ofCursor, qz_X2, qc_X2_ofCursor⟩, rfl, mh_X2.1, mh_X2.2, pd_0⟩
theorem dX2_mixCursors_0 : decode cX2_mixCursors 0 = .ok (.lload_n 1, 1) := dqo_31 (kb_of ke_X2_mixCursors 0 rfl)
theorem dX2_mixCursors_1 : decode cX2_mixCursors 1 = .ok (.lstore_n 3, 1) := dqo_66 (kb_of ke_X2_mixCursors 1 rfl)
theorem dX2_mixCursors_2 : decode cX2_mixCursors 2 = .ok (.iconst 0, 1) := dqo_3 (kb_of ke_X2_mixCursors 2 rfl)
theorem dX2_mixCursors_3 : decode cX2_mixCursors 3 = .ok (.istore 5, 2) := dqo_54 5 (kb_of ke_X2_mixCursors 3 rfl) (kb_of ke_X2_mixCursors 4 rfl)
theorem dX2_mixCursors_5 : decode cX2_mixCursors 5 = .ok (.iload 5, 2) := dqo_21 5 (kb_of ke_X2_mixCursors 5 rfl) (kb_of ke_X2_mixCursors 6 rfl)
theorem dX2_mixCursors_7 : decode cX2_mixCursors 7 = .ok (.iconst 3, 1) := dqo_6 (kb_of ke_X2_mixCursors 7 rfl)
theorem dX2_mixCursors_8 : decode cX2_mixCursors 8 = .ok (.if_icmp .ge 38, 3) := dqo_162 0 38 (by decide) (kb_of ke_X2_mixCursors 8 rfl) (kb_of ke_X2_mixCursors 9 rfl) (kb_of ke_X2_mixCursors 10 rfl)
theorem dX2_mixCursors_11 : decode cX2_mixCursors 11 = .ok (.iconst 0, 1) := dqo_3 (kb_of ke_X2_mixCursors 11 rfl)
theorem dX2_mixCursors_12 : decode cX2_mixCursors 12 = .ok (.istore 6, 2) := dqo_54 6 (kb_of ke_X2_mixCursors 12 rfl) (kb_of ke_X2_mixCursors 13 rfl)
theorem dX2_mixCursors_14 : decode cX2_mixCursors 14 = .ok (.iload 6, 2) := dqo_21 6 (kb_of ke_X2_mixCursors 14 rfl) (kb_of ke_X2_mixCursors 15 rfl)
theorem dX2_mixCursors_16 : decode cX2_mixCursors 16 = .ok (.iconst 5, 1) := dqo_8 (kb_of ke_X2_mixCursors 16 rfl)
theorem dX2_mixCursors_17 : decode cX2_mixCursors 17 = .ok (.if_icmp .ge 23, 3) := dqo_162 0 23 (by decide) (kb_of ke_X2_mixCursors 17 rfl) (kb_of ke_X2_mixCursors 18 rfl) (kb_of ke_X2_mixCursors 19 rfl)
theorem dX2_mixCursors_20 : decode cX2_mixCursors 20 = .ok (.lload_n 3, 1) := dqo_33 (kb_of ke_X2_mixCursors 20 rfl)
theorem dX2_mixCursors_21 : decode cX2_mixCursors 21 = .ok (.aload_n 0, 1) := dqo_42 (kb_of ke_X2_mixCursors 21 rfl)
theorem dX2_mixCursors_22 : decode cX2_mixCursors 22 = .ok (.iload 5, 2) := dqo_21 5 (kb_of ke_X2_mixCursors 22 rfl) (kb_of ke_X2_mixCursors 23 rfl)
theorem dX2_mixCursors_24 : decode cX2_mixCursors 24 = .ok (.iload 6, 2) := dqo_21 6 (kb_of ke_X2_mixCursors 24 rfl) (kb_of ke_X2_mixCursors 25 rfl)
theorem dX2_mixCursors_26 : decode cX2_mixCursors 26 = .ok (.invokevirtual 335, 3) := dqo_182 1 79 (kb_of ke_X2_mixCursors 26 rfl) (kb_of ke_X2_mixCursors 27 rfl) (kb_of ke_X2_mixCursors 28 rfl)
theorem dX2_mixCursors_29 : decode cX2_mixCursors 29 = .ok (.i2l, 1) := dqo_133 (kb_of ke_X2_mixCursors 29 rfl)
theorem dX2_mixCursors_30 : decode cX2_mixCursors 30 = .ok (.invokestatic 257, 3) := dqo_184 1 1 (kb_of ke_X2_mixCursors 30 rfl) (kb_of ke_X2_mixCursors 31 rfl) (kb_of ke_X2_mixCursors 32 rfl)
theorem dX2_mixCursors_33 : decode cX2_mixCursors 33 = .ok (.lstore_n 3, 1) := dqo_66 (kb_of ke_X2_mixCursors 33 rfl)
theorem dX2_mixCursors_34 : decode cX2_mixCursors 34 = .ok (.iinc 6 1, 3) := dqo_132 6 1 (by decide) (kb_of ke_X2_mixCursors 34 rfl) (kb_of ke_X2_mixCursors 35 rfl) (kb_of ke_X2_mixCursors 36 rfl)
theorem dX2_mixCursors_37 : decode cX2_mixCursors 37 = .ok (.goto (-23), 3) := dqo_167 255 233 (by decide) (kb_of ke_X2_mixCursors 37 rfl) (kb_of ke_X2_mixCursors 38 rfl) (kb_of ke_X2_mixCursors 39 rfl)
theorem dX2_mixCursors_40 : decode cX2_mixCursors 40 = .ok (.iinc 5 1, 3) := dqo_132 5 1 (by decide) (kb_of ke_X2_mixCursors 40 rfl) (kb_of ke_X2_mixCursors 41 rfl) (kb_of ke_X2_mixCursors 42 rfl)
theorem dX2_mixCursors_43 : decode cX2_mixCursors 43 = .ok (.goto (-38), 3) := dqo_167 255 218 (by decide) (kb_of ke_X2_mixCursors 43 rfl) (kb_of ke_X2_mixCursors 44 rfl) (kb_of ke_X2_mixCursors 45 rfl)
theorem dX2_mixCursors_46 : decode cX2_mixCursors 46 = .ok (.lload_n 3, 1) := dqo_33 (kb_of ke_X2_mixCursors 46 rfl)
theorem dX2_mixCursors_47 : decode cX2_mixCursors 47 = .ok (.lreturn, 1) := dqo_173 (kb_of ke_X2_mixCursors 47 rfl)
set_option maxRecDepth 100000 in
set_option maxHeartbeats 4000000 in
theorem C_mixCursors {l : Launch} {D : va_G} {cy : Nat → ClassId} {X : (Nat → Prop) → State → Heap → Prop} {a f : Nat → Nat → Nat} {r : Nat → Nat → Int32} {kn : Int32} {Y : va_W} {u : Int64} (hX : EnvX X) (hC : CInv f) : Cd l D cy X yX2_mixCursors cX2_mixCursors 7 (some .long) (rmz 7 300) [.ref (a 0 0), .long u] (WC cy a f r kn ++ Y) (some (.long (mcF f 3 0 u))) (WC cy a f r kn ++ Y) := by
  refine Cm.of [some (.ref (a 0 0)), some (.long u), none, none, none, none, none] pn_X2 rfl (Nat.le_of_ble_eq_true rfl) ?_
  intro p e s m args below meth c A C hE hr hnt hn
  refine r_lload_n C dX2_mixCursors_0 rfl ?_
  refine r_lstore_n C dX2_mixCursors_1 (by decide) rfl ?_
  refine r_iconst (v := (nI 0)) C dX2_mixCursors_2 (by decide) ?_
  refine r_istore C dX2_mixCursors_3 (by decide) rfl ?_
  have L5 : ∀ (d : Nat) (k : Nat) (v : Int64), (ht : k + d = 3) → (hF : mcF f d k v = mcF f 3 0 u) → vC p l e (rmz 7 300) s m args below meth c D A (vx_MQ below (vG (fun v1 w1 => v1 = (some (.long (mcF f 3 0 u))) ∧ w1 = WC cy a f r kn ++ Y) D vwCl A) (vGX (fun _ => False) D vwCl (WC cy a f r kn ++ Y) A) args s (rmz 7 300).cells (rmz 7 300).slots A) 7 0 0 (WC cy a f r kn ++ Y) [some (.ref (a 0 0)), some (.long u), none, some (.long v), none, some (.int (nI k)), none] 5 [] := by
    intro d
    induction d with
    | zero =>
      intro k v ht hF
      refine r_iload C dX2_mixCursors_5 rfl ?_
      refine r_iconst (v := (nI 3)) C dX2_mixCursors_7 (by decide) ?_
      refine r_icN_ge (a := k) (b := 3) (tgt := 46) C (by first | omega | (simp [up2, *]; done) | (simp [up2, *]; omega) | (simp only [up2_eq]; omega) | (split <;> omega)) (by first | omega | (simp [up2, *]; done) | (simp [up2, *]; omega) | (simp only [up2_eq]; omega) | (split <;> omega)) dX2_mixCursors_8 (by decide) (fun h8_1 => ?_) (fun h8_1 => ?_)
      · first
        | exfalso; first | omega | contradiction
        | skip
          refine r_lload_n C dX2_mixCursors_46 rfl ?_
          exact r_lret C hr dX2_mixCursors_47 ⟨by rw [← hF]; rfl, rfl⟩ (Nat.le_of_ble_eq_true rfl) (Nat.le_of_ble_eq_true rfl)
      · first
        | exfalso; first | omega | contradiction
        | skip
          refine r_iconst (v := (nI 0)) C dX2_mixCursors_11 (by decide) ?_
          refine r_istore C dX2_mixCursors_12 (by decide) rfl ?_
          have L14 : ∀ (d : Nat) (t : Nat) (z : Int64), (hs : t + d = 5) → (hG : mxF (cqF f k) d t z = mxF (cqF f k) 5 0 v) → vC p l e (rmz 7 300) s m args below meth c D A (vx_MQ below (vG (fun v1 w1 => v1 = (some (.long (mcF f 3 0 u))) ∧ w1 = WC cy a f r kn ++ Y) D vwCl A) (vGX (fun _ => False) D vwCl (WC cy a f r kn ++ Y) A) args s (rmz 7 300).cells (rmz 7 300).slots A) 7 0 0 (WC cy a f r kn ++ Y) [some (.ref (a 0 0)), some (.long u), none, some (.long z), none, some (.int (nI k)), some (.int (nI t))] 14 [] := by
            intro d
            induction d with
            | zero =>
              intro t z hs hG
              refine r_iload C dX2_mixCursors_14 rfl ?_
              refine r_iconst (v := (nI 5)) C dX2_mixCursors_16 (by decide) ?_
              refine r_icN_ge (a := t) (b := 5) (tgt := 40) C (by first | omega | (simp [up2, *]; done) | (simp [up2, *]; omega) | (simp only [up2_eq]; omega) | (split <;> omega)) (by first | omega | (simp [up2, *]; done) | (simp [up2, *]; omega) | (simp only [up2_eq]; omega) | (split <;> omega)) dX2_mixCursors_17 (by decide) (fun h17_2 => ?_) (fun h17_2 => ?_)
              · first
                | exfalso; first | omega | contradiction
                | skip
                  refine r_iincN C dX2_mixCursors_40 rfl (by decide) rfl ?_
                  refine r_goto (tgt := 5) C dX2_mixCursors_43 (by decide) ?_
                  refine r_drop 6 ?_
                  exact (Nat.not_lt_zero _ (by omega)).elim
              · first
                | exfalso; first | omega | contradiction
                | skip
                  refine r_lload_n C dX2_mixCursors_20 rfl ?_
                  refine r_aload_n C dX2_mixCursors_21 rfl ?_
                  refine r_iload C dX2_mixCursors_22 rfl ?_
                  refine r_iload C dX2_mixCursors_24 rfl ?_
                  refine d_V (st := [.long z]) hX.stb C hE (C_ofCursor_all (f := f) (r := r) (kn := kn) (k0 := k) (q0 := t) hX (by first | omega | (simp [up2, *]; done) | (simp [up2, *]; omega) | (simp only [up2_eq]; omega) | (split <;> omega)) (by first | omega | (simp [up2, *]; done) | (simp [up2, *]; omega) | (simp only [up2_eq]; omega) | (split <;> omega)) (by first | omega | (simp [up2, *]; done) | (simp [up2, *]; omega) | (simp only [up2_eq]; omega) | (split <;> omega))) pk_X2_ofCursor qm_X2_335 0 6 rfl rfl wc_0 rfl rfl (Nat.le_of_ble_eq_true rfl) dX2_mixCursors_26 ⟨Nat.le_of_ble_eq_true rfl, Nat.le_of_ble_eq_true rfl⟩ ⟨Nat.le_of_ble_eq_true rfl, Nat.le_of_ble_eq_true rfl⟩ ?_
                  refine r_i2l C dX2_mixCursors_29 ?_
                  refine d_S (st := []) hX.stb C hE (C_mix (f := f) (r := r) (kn := kn) (u := z) (v := (((cqF f k t)).toInt64)) hX ) pk_X2_mix qm_X2_257 rfl rfl (Nat.le_of_ble_eq_true rfl) dX2_mixCursors_30 ⟨Nat.le_of_ble_eq_true rfl, Nat.le_of_ble_eq_true rfl⟩ ⟨Nat.le_of_ble_eq_true rfl, Nat.le_of_ble_eq_true rfl⟩ ?_
                  refine r_lstore_n C dX2_mixCursors_33 (by decide) rfl ?_
                  refine r_iincN C dX2_mixCursors_34 rfl (by decide) rfl ?_
                  refine r_goto (tgt := 14) C dX2_mixCursors_37 (by decide) ?_
                  exact (Nat.not_lt_zero _ (by omega)).elim
            | succ d ih_L14 =>
              intro t z hs hG
              refine r_iload C dX2_mixCursors_14 rfl ?_
              refine r_iconst (v := (nI 5)) C dX2_mixCursors_16 (by decide) ?_
              refine r_icN_ge (a := t) (b := 5) (tgt := 40) C (by first | omega | (simp [up2, *]; done) | (simp [up2, *]; omega) | (simp only [up2_eq]; omega) | (split <;> omega)) (by first | omega | (simp [up2, *]; done) | (simp [up2, *]; omega) | (simp only [up2_eq]; omega) | (split <;> omega)) dX2_mixCursors_17 (by decide) (fun h17_3 => ?_) (fun h17_3 => ?_)
              · first
                | exfalso; first | omega | contradiction
                | skip
                  refine r_iincN C dX2_mixCursors_40 rfl (by decide) rfl ?_
                  refine r_goto (tgt := 5) C dX2_mixCursors_43 (by decide) ?_
                  refine r_drop 6 ?_
                  exact (Nat.not_lt_zero _ (by omega)).elim
              · first
                | exfalso; first | omega | contradiction
                | skip
                  refine r_lload_n C dX2_mixCursors_20 rfl ?_
                  refine r_aload_n C dX2_mixCursors_21 rfl ?_
                  refine r_iload C dX2_mixCursors_22 rfl ?_
                  refine r_iload C dX2_mixCursors_24 rfl ?_
                  refine d_V (st := [.long z]) hX.stb C hE (C_ofCursor_all (f := f) (r := r) (kn := kn) (k0 := k) (q0 := t) hX (by first | omega | (simp [up2, *]; done) | (simp [up2, *]; omega) | (simp only [up2_eq]; omega) | (split <;> omega)) (by first | omega | (simp [up2, *]; done) | (simp [up2, *]; omega) | (simp only [up2_eq]; omega) | (split <;> omega)) (by first | omega | (simp [up2, *]; done) | (simp [up2, *]; omega) | (simp only [up2_eq]; omega) | (split <;> omega))) pk_X2_ofCursor qm_X2_335 0 6 rfl rfl wc_0 rfl rfl (Nat.le_of_ble_eq_true rfl) dX2_mixCursors_26 ⟨Nat.le_of_ble_eq_true rfl, Nat.le_of_ble_eq_true rfl⟩ ⟨Nat.le_of_ble_eq_true rfl, Nat.le_of_ble_eq_true rfl⟩ ?_
                  refine r_i2l C dX2_mixCursors_29 ?_
                  refine d_S (st := []) hX.stb C hE (C_mix (f := f) (r := r) (kn := kn) (u := z) (v := (((cqF f k t)).toInt64)) hX ) pk_X2_mix qm_X2_257 rfl rfl (Nat.le_of_ble_eq_true rfl) dX2_mixCursors_30 ⟨Nat.le_of_ble_eq_true rfl, Nat.le_of_ble_eq_true rfl⟩ ⟨Nat.le_of_ble_eq_true rfl, Nat.le_of_ble_eq_true rfl⟩ ?_
                  refine r_lstore_n C dX2_mixCursors_33 (by decide) rfl ?_
                  refine r_iincN C dX2_mixCursors_34 rfl (by decide) rfl ?_
                  refine r_goto (tgt := 14) C dX2_mixCursors_37 (by decide) ?_
                  exact ih_L14 (t + 1) _ (by omega) (by rw [← hG]; rfl)
          exact L14 5 0 v (by omega) rfl
    | succ d ih_L5 =>
      intro k v ht hF
      refine r_iload C dX2_mixCursors_5 rfl ?_
      refine r_iconst (v := (nI 3)) C dX2_mixCursors_7 (by decide) ?_
      refine r_icN_ge (a := k) (b := 3) (tgt := 46) C (by first | omega | (simp [up2, *]; done) | (simp [up2, *]; omega) | (simp only [up2_eq]; omega) | (split <;> omega)) (by first | omega | (simp [up2, *]; done) | (simp [up2, *]; omega) | (simp only [up2_eq]; omega) | (split <;> omega)) dX2_mixCursors_8 (by decide) (fun h8_4 => ?_) (fun h8_4 => ?_)
      · first
        | exfalso; first | omega | contradiction
        | skip
          refine r_lload_n C dX2_mixCursors_46 rfl ?_
          exact r_lret C hr dX2_mixCursors_47 ⟨by rw [← hF]; rfl, rfl⟩ (Nat.le_of_ble_eq_true rfl) (Nat.le_of_ble_eq_true rfl)
      · first
        | exfalso; first | omega | contradiction
        | skip
          refine r_iconst (v := (nI 0)) C dX2_mixCursors_11 (by decide) ?_
          refine r_istore C dX2_mixCursors_12 (by decide) rfl ?_
          have L14 : ∀ (d : Nat) (t : Nat) (z : Int64), (hs : t + d = 5) → (hG : mxF (cqF f k) d t z = mxF (cqF f k) 5 0 v) → vC p l e (rmz 7 300) s m args below meth c D A (vx_MQ below (vG (fun v1 w1 => v1 = (some (.long (mcF f 3 0 u))) ∧ w1 = WC cy a f r kn ++ Y) D vwCl A) (vGX (fun _ => False) D vwCl (WC cy a f r kn ++ Y) A) args s (rmz 7 300).cells (rmz 7 300).slots A) 7 0 0 (WC cy a f r kn ++ Y) [some (.ref (a 0 0)), some (.long u), none, some (.long z), none, some (.int (nI k)), some (.int (nI t))] 14 [] := by
            intro d
            induction d with
            | zero =>
              intro t z hs hG
              refine r_iload C dX2_mixCursors_14 rfl ?_
              refine r_iconst (v := (nI 5)) C dX2_mixCursors_16 (by decide) ?_
              refine r_icN_ge (a := t) (b := 5) (tgt := 40) C (by first | omega | (simp [up2, *]; done) | (simp [up2, *]; omega) | (simp only [up2_eq]; omega) | (split <;> omega)) (by first | omega | (simp [up2, *]; done) | (simp [up2, *]; omega) | (simp only [up2_eq]; omega) | (split <;> omega)) dX2_mixCursors_17 (by decide) (fun h17_5 => ?_) (fun h17_5 => ?_)
              · first
                | exfalso; first | omega | contradiction
                | skip
                  refine r_iincN C dX2_mixCursors_40 rfl (by decide) rfl ?_
                  refine r_goto (tgt := 5) C dX2_mixCursors_43 (by decide) ?_
                  refine r_drop 6 ?_
                  exact ih_L5 (k + 1) _ (by omega) (by rw [← hF]; exact congrArg (mcF f _ (k + 1)) hG)
              · first
                | exfalso; first | omega | contradiction
                | skip
                  refine r_lload_n C dX2_mixCursors_20 rfl ?_
                  refine r_aload_n C dX2_mixCursors_21 rfl ?_
                  refine r_iload C dX2_mixCursors_22 rfl ?_
                  refine r_iload C dX2_mixCursors_24 rfl ?_
                  refine d_V (st := [.long z]) hX.stb C hE (C_ofCursor_all (f := f) (r := r) (kn := kn) (k0 := k) (q0 := t) hX (by first | omega | (simp [up2, *]; done) | (simp [up2, *]; omega) | (simp only [up2_eq]; omega) | (split <;> omega)) (by first | omega | (simp [up2, *]; done) | (simp [up2, *]; omega) | (simp only [up2_eq]; omega) | (split <;> omega)) (by first | omega | (simp [up2, *]; done) | (simp [up2, *]; omega) | (simp only [up2_eq]; omega) | (split <;> omega))) pk_X2_ofCursor qm_X2_335 0 6 rfl rfl wc_0 rfl rfl (Nat.le_of_ble_eq_true rfl) dX2_mixCursors_26 ⟨Nat.le_of_ble_eq_true rfl, Nat.le_of_ble_eq_true rfl⟩ ⟨Nat.le_of_ble_eq_true rfl, Nat.le_of_ble_eq_true rfl⟩ ?_
                  refine r_i2l C dX2_mixCursors_29 ?_
                  refine d_S (st := []) hX.stb C hE (C_mix (f := f) (r := r) (kn := kn) (u := z) (v := (((cqF f k t)).toInt64)) hX ) pk_X2_mix qm_X2_257 rfl rfl (Nat.le_of_ble_eq_true rfl) dX2_mixCursors_30 ⟨Nat.le_of_ble_eq_true rfl, Nat.le_of_ble_eq_true rfl⟩ ⟨Nat.le_of_ble_eq_true rfl, Nat.le_of_ble_eq_true rfl⟩ ?_
                  refine r_lstore_n C dX2_mixCursors_33 (by decide) rfl ?_
                  refine r_iincN C dX2_mixCursors_34 rfl (by decide) rfl ?_
                  refine r_goto (tgt := 14) C dX2_mixCursors_37 (by decide) ?_
                  exact (Nat.not_lt_zero _ (by omega)).elim
            | succ d ih_L14 =>
              intro t z hs hG
              refine r_iload C dX2_mixCursors_14 rfl ?_
              refine r_iconst (v := (nI 5)) C dX2_mixCursors_16 (by decide) ?_
              refine r_icN_ge (a := t) (b := 5) (tgt := 40) C (by first | omega | (simp [up2, *]; done) | (simp [up2, *]; omega) | (simp only [up2_eq]; omega) | (split <;> omega)) (by first | omega | (simp [up2, *]; done) | (simp [up2, *]; omega) | (simp only [up2_eq]; omega) | (split <;> omega)) dX2_mixCursors_17 (by decide) (fun h17_6 => ?_) (fun h17_6 => ?_)
              · first
                | exfalso; first | omega | contradiction
                | skip
                  refine r_iincN C dX2_mixCursors_40 rfl (by decide) rfl ?_
                  refine r_goto (tgt := 5) C dX2_mixCursors_43 (by decide) ?_
                  refine r_drop 6 ?_
                  exact ih_L5 (k + 1) _ (by omega) (by rw [← hF]; exact congrArg (mcF f _ (k + 1)) hG)
              · first
                | exfalso; first | omega | contradiction
                | skip
                  refine r_lload_n C dX2_mixCursors_20 rfl ?_
                  refine r_aload_n C dX2_mixCursors_21 rfl ?_
                  refine r_iload C dX2_mixCursors_22 rfl ?_
                  refine r_iload C dX2_mixCursors_24 rfl ?_
                  refine d_V (st := [.long z]) hX.stb C hE (C_ofCursor_all (f := f) (r := r) (kn := kn) (k0 := k) (q0 := t) hX (by first | omega | (simp [up2, *]; done) | (simp [up2, *]; omega) | (simp only [up2_eq]; omega) | (split <;> omega)) (by first | omega | (simp [up2, *]; done) | (simp [up2, *]; omega) | (simp only [up2_eq]; omega) | (split <;> omega)) (by first | omega | (simp [up2, *]; done) | (simp [up2, *]; omega) | (simp only [up2_eq]; omega) | (split <;> omega))) pk_X2_ofCursor qm_X2_335 0 6 rfl rfl wc_0 rfl rfl (Nat.le_of_ble_eq_true rfl) dX2_mixCursors_26 ⟨Nat.le_of_ble_eq_true rfl, Nat.le_of_ble_eq_true rfl⟩ ⟨Nat.le_of_ble_eq_true rfl, Nat.le_of_ble_eq_true rfl⟩ ?_
                  refine r_i2l C dX2_mixCursors_29 ?_
                  refine d_S (st := []) hX.stb C hE (C_mix (f := f) (r := r) (kn := kn) (u := z) (v := (((cqF f k t)).toInt64)) hX ) pk_X2_mix qm_X2_257 rfl rfl (Nat.le_of_ble_eq_true rfl) dX2_mixCursors_30 ⟨Nat.le_of_ble_eq_true rfl, Nat.le_of_ble_eq_true rfl⟩ ⟨Nat.le_of_ble_eq_true rfl, Nat.le_of_ble_eq_true rfl⟩ ?_
                  refine r_lstore_n C dX2_mixCursors_33 (by decide) rfl ?_
                  refine r_iincN C dX2_mixCursors_34 rfl (by decide) rfl ?_
                  refine r_goto (tgt := 14) C dX2_mixCursors_37 (by decide) ?_
                  exact ih_L14 (t + 1) _ (by omega) (by rw [← hG]; rfl)
          exact L14 5 0 v (by omega) rfl
  exact L5 3 0 u (by omega) rfl
theorem pk_X2_mixItems : PkS yX2_mixItems cX2_mixItems 6 (some .long) 2 := ⟨⟨qt_X2_mixItems, qz_X2, qc_X2_mixItems⟩, mh_X2.1, mh_X2.2, pd_17⟩
theorem pk_X2_ofWindow : PkV RX2 yX2_ofWindow cX2_ofWindow 4 (some .int) 2 := ⟨⟨qi_X2_ofWindow, qs_X2_ofWindow, qz_X2, qc_X2_ofWindow⟩, rfl, mh_X2.1, mh_X2.2, pd_0⟩
theorem dX2_mixWindows_0 : decode cX2_mixWindows 0 = .ok (.lload_n 1, 1) := dqo_31 (kb_X2_mixWindows_0 0 rfl)
theorem dX2_mixWindows_1 : decode cX2_mixWindows 1 = .ok (.lstore_n 3, 1) := dqo_66 (kb_X2_mixWindows_0 1 rfl)
theorem dX2_mixWindows_2 : decode cX2_mixWindows 2 = .ok (.iconst 0, 1) := dqo_3 (kb_X2_mixWindows_0 2 rfl)
theorem dX2_mixWindows_3 : decode cX2_mixWindows 3 = .ok (.istore 5, 2) := dqo_54 5 (kb_X2_mixWindows_0 3 rfl) (kb_X2_mixWindows_0 4 rfl)
theorem dX2_mixWindows_5 : decode cX2_mixWindows 5 = .ok (.iload 5, 2) := dqo_21 5 (kb_X2_mixWindows_0 5 rfl) (kb_X2_mixWindows_0 6 rfl)
theorem dX2_mixWindows_7 : decode cX2_mixWindows 7 = .ok (.iconst 4, 1) := dqo_7 (kb_X2_mixWindows_0 7 rfl)
theorem dX2_mixWindows_8 : decode cX2_mixWindows 8 = .ok (.if_icmp .ge 67, 3) := dqo_162 0 67 (by decide) (kb_X2_mixWindows_0 8 rfl) (kb_X2_mixWindows_0 9 rfl) (kb_X2_mixWindows_0 10 rfl)
theorem dX2_mixWindows_11 : decode cX2_mixWindows 11 = .ok (.iconst 0, 1) := dqo_3 (kb_X2_mixWindows_0 11 rfl)
theorem dX2_mixWindows_12 : decode cX2_mixWindows 12 = .ok (.istore 6, 2) := dqo_54 6 (kb_X2_mixWindows_0 12 rfl) (kb_X2_mixWindows_0 13 rfl)
theorem dX2_mixWindows_14 : decode cX2_mixWindows 14 = .ok (.iload 6, 2) := dqo_21 6 (kb_X2_mixWindows_0 14 rfl) (kb_X2_mixWindows_0 15 rfl)
theorem dX2_mixWindows_16 : decode cX2_mixWindows 16 = .ok (.iconst 3, 1) := dqo_6 (kb_X2_mixWindows_0 16 rfl)
theorem dX2_mixWindows_17 : decode cX2_mixWindows 17 = .ok (.if_icmp .ge 23, 3) := dqo_162 0 23 (by decide) (kb_X2_mixWindows_0 17 rfl) (kb_X2_mixWindows_0 18 rfl) (kb_X2_mixWindows_0 19 rfl)
theorem dX2_mixWindows_20 : decode cX2_mixWindows 20 = .ok (.lload_n 3, 1) := dqo_33 (kb_X2_mixWindows_0 20 rfl)
theorem dX2_mixWindows_21 : decode cX2_mixWindows 21 = .ok (.aload_n 0, 1) := dqo_42 (kb_X2_mixWindows_0 21 rfl)
theorem dX2_mixWindows_22 : decode cX2_mixWindows 22 = .ok (.iload 5, 2) := dqo_21 5 (kb_X2_mixWindows_0 22 rfl) (kb_X2_mixWindows_0 23 rfl)
theorem dX2_mixWindows_24 : decode cX2_mixWindows 24 = .ok (.iload 6, 2) := dqo_21 6 (kb_X2_mixWindows_0 24 rfl) (kb_X2_mixWindows_0 25 rfl)
theorem dX2_mixWindows_26 : decode cX2_mixWindows 26 = .ok (.invokevirtual 332, 3) := dqo_182 1 76 (kb_X2_mixWindows_0 26 rfl) (kb_X2_mixWindows_0 27 rfl) (kb_X2_mixWindows_0 28 rfl)
theorem dX2_mixWindows_29 : decode cX2_mixWindows 29 = .ok (.i2l, 1) := dqo_133 (kb_X2_mixWindows_0 29 rfl)
theorem dX2_mixWindows_30 : decode cX2_mixWindows 30 = .ok (.invokestatic 257, 3) := dqo_184 1 1 (kb_X2_mixWindows_0 30 rfl) (kb_X2_mixWindows_0 31 rfl) (kb_X2_mixWindows_0 32 rfl)
theorem dX2_mixWindows_33 : decode cX2_mixWindows 33 = .ok (.lstore_n 3, 1) := dqo_66 (kb_X2_mixWindows_0 33 rfl)
theorem dX2_mixWindows_34 : decode cX2_mixWindows 34 = .ok (.iinc 6 1, 3) := dqo_132 6 1 (by decide) (kb_X2_mixWindows_0 34 rfl) (kb_X2_mixWindows_0 35 rfl) (kb_X2_mixWindows_0 36 rfl)
theorem dX2_mixWindows_37 : decode cX2_mixWindows 37 = .ok (.goto (-23), 3) := dqo_167 255 233 (by decide) (kb_X2_mixWindows_0 37 rfl) (kb_X2_mixWindows_0 38 rfl) (kb_X2_mixWindows_0 39 rfl)
theorem dX2_mixWindows_40 : decode cX2_mixWindows 40 = .ok (.aload_n 0, 1) := dqo_42 (kb_X2_mixWindows_0 40 rfl)
theorem dX2_mixWindows_41 : decode cX2_mixWindows 41 = .ok (.getfield 11, 3) := dqo_180 0 11 (kb_X2_mixWindows_0 41 rfl) (kb_X2_mixWindows_0 42 rfl) (kb_X2_mixWindows_0 43 rfl)
theorem dX2_mixWindows_44 : decode cX2_mixWindows 44 = .ok (.iconst 4, 1) := dqo_7 (kb_X2_mixWindows_0 44 rfl)
theorem dX2_mixWindows_45 : decode cX2_mixWindows 45 = .ok (.iload 5, 2) := dqo_21 5 (kb_X2_mixWindows_0 45 rfl) (kb_X2_mixWindows_0 46 rfl)
theorem dX2_mixWindows_47 : decode cX2_mixWindows 47 = .ok (.iadd, 1) := dqo_96 (kb_X2_mixWindows_0 47 rfl)
theorem dX2_mixWindows_48 : decode cX2_mixWindows 48 = .ok (.aaload, 1) := dqo_50 (kb_X2_mixWindows_0 48 rfl)
theorem dX2_mixWindows_49 : decode cX2_mixWindows 49 = .ok (.getfield 194, 3) := dqo_180 0 194 (kb_X2_mixWindows_0 49 rfl) (kb_X2_mixWindows_0 50 rfl) (kb_X2_mixWindows_0 51 rfl)
theorem dX2_mixWindows_52 : decode cX2_mixWindows 52 = .ok (.ifCond .eq 17, 3) := dqo_153 0 17 (by decide) (kb_X2_mixWindows_0 52 rfl) (kb_X2_mixWindows_0 53 rfl) (kb_X2_mixWindows_0 54 rfl)
theorem dX2_mixWindows_55 : decode cX2_mixWindows 55 = .ok (.lload_n 3, 1) := dqo_33 (kb_X2_mixWindows_0 55 rfl)
theorem dX2_mixWindows_56 : decode cX2_mixWindows 56 = .ok (.aload_n 0, 1) := dqo_42 (kb_X2_mixWindows_0 56 rfl)
theorem dX2_mixWindows_57 : decode cX2_mixWindows 57 = .ok (.getfield 11, 3) := dqo_180 0 11 (kb_X2_mixWindows_0 57 rfl) (kb_X2_mixWindows_0 58 rfl) (kb_X2_mixWindows_0 59 rfl)
theorem dX2_mixWindows_60 : decode cX2_mixWindows 60 = .ok (.iconst 4, 1) := dqo_7 (kb_X2_mixWindows_0 60 rfl)
theorem dX2_mixWindows_61 : decode cX2_mixWindows 61 = .ok (.iload 5, 2) := dqo_21 5 (kb_X2_mixWindows_0 61 rfl) (kb_X2_mixWindows_0 62 rfl)
theorem dX2_mixWindows_63 : decode cX2_mixWindows 63 = .ok (.iadd, 1) := dqo_96 (kb_X2_mixWindows_0 63 rfl)
theorem dX2_mixWindows_64 : decode cX2_mixWindows 64 = .ok (.aaload, 1) := dqo_50 (kb_X2_mixWindows_1 0 rfl)
theorem dX2_mixWindows_65 : decode cX2_mixWindows 65 = .ok (.invokestatic 323, 3) := dqo_184 1 67 (kb_X2_mixWindows_1 1 rfl) (kb_X2_mixWindows_1 2 rfl) (kb_X2_mixWindows_1 3 rfl)
theorem dX2_mixWindows_68 : decode cX2_mixWindows 68 = .ok (.lstore_n 3, 1) := dqo_66 (kb_X2_mixWindows_1 4 rfl)
theorem dX2_mixWindows_69 : decode cX2_mixWindows 69 = .ok (.iinc 5 1, 3) := dqo_132 5 1 (by decide) (kb_X2_mixWindows_1 5 rfl) (kb_X2_mixWindows_1 6 rfl) (kb_X2_mixWindows_1 7 rfl)
theorem dX2_mixWindows_72 : decode cX2_mixWindows 72 = .ok (.goto (-67), 3) := dqo_167 255 189 (by decide) (kb_X2_mixWindows_1 8 rfl) (kb_X2_mixWindows_1 9 rfl) (kb_X2_mixWindows_1 10 rfl)
theorem dX2_mixWindows_75 : decode cX2_mixWindows 75 = .ok (.lload_n 3, 1) := dqo_33 (kb_X2_mixWindows_1 11 rfl)
theorem dX2_mixWindows_76 : decode cX2_mixWindows 76 = .ok (.lreturn, 1) := dqo_173 (kb_X2_mixWindows_1 12 rfl)
set_option maxRecDepth 100000 in
set_option maxHeartbeats 4000000 in
theorem C_mixWindows {l : Launch} {D : va_G} {cy : Nat → ClassId} {X : (Nat → Prop) → State → Heap → Prop} {a f : Nat → Nat → Nat} {r : Nat → Nat → Int32} {kn : Int32} {Y : va_W} {u : Int64} (hX : EnvX X) (hC : CInv f) : Cd l D cy X yX2_mixWindows cX2_mixWindows 7 (some .long) (rmz 7 300) [.ref (a 0 0), .long u] (WC cy a f r kn ++ Y) (some (.long (mwF f r 4 0 u))) (WC cy a f r kn ++ Y) := by
  refine Cm.of [some (.ref (a 0 0)), some (.long u), none, none, none, none, none] pn_X2 rfl (Nat.le_of_ble_eq_true rfl) ?_
  intro p e s m args below meth c A C hE hr hnt hn
  refine r_lload_n C dX2_mixWindows_0 rfl ?_
  refine r_lstore_n C dX2_mixWindows_1 (by decide) rfl ?_
  refine r_iconst (v := (nI 0)) C dX2_mixWindows_2 (by decide) ?_
  refine r_istore C dX2_mixWindows_3 (by decide) rfl ?_
  have L5 : ∀ (d : Nat) (k : Nat) (v : Int64), (ht : k + d = 4) → (hF : mwF f r d k v = mwF f r 4 0 u) → vC p l e (rmz 7 300) s m args below meth c D A (vx_MQ below (vG (fun v1 w1 => v1 = (some (.long (mwF f r 4 0 u))) ∧ w1 = WC cy a f r kn ++ Y) D vwCl A) (vGX (fun _ => False) D vwCl (WC cy a f r kn ++ Y) A) args s (rmz 7 300).cells (rmz 7 300).slots A) 7 0 0 (WC cy a f r kn ++ Y) [some (.ref (a 0 0)), some (.long u), none, some (.long v), none, some (.int (nI k)), none] 5 [] := by
    intro d
    induction d with
    | zero =>
      intro k v ht hF
      refine r_iload C dX2_mixWindows_5 rfl ?_
      refine r_iconst (v := (nI 4)) C dX2_mixWindows_7 (by decide) ?_
      refine r_icN_ge (a := k) (b := 4) (tgt := 75) C (by first | omega | (simp [up2, *]; done) | (simp [up2, *]; omega) | (simp only [up2_eq]; omega) | (split <;> omega)) (by first | omega | (simp [up2, *]; done) | (simp [up2, *]; omega) | (simp only [up2_eq]; omega) | (split <;> omega)) dX2_mixWindows_8 (by decide) (fun h8_1 => ?_) (fun h8_1 => ?_)
      · first
        | exfalso; first | omega | contradiction
        | skip
          refine r_lload_n C dX2_mixWindows_75 rfl ?_
          exact r_lret C hr dX2_mixWindows_76 ⟨by rw [← hF]; rfl, rfl⟩ (Nat.le_of_ble_eq_true rfl) (Nat.le_of_ble_eq_true rfl)
      · first
        | exfalso; first | omega | contradiction
        | skip
          refine r_iconst (v := (nI 0)) C dX2_mixWindows_11 (by decide) ?_
          refine r_istore C dX2_mixWindows_12 (by decide) rfl ?_
          have L14 : ∀ (d : Nat) (t : Nat) (z : Int64), (hs : t + d = 3) → (hG : mxF (wqF f k) d t z = mxF (wqF f k) 3 0 v) → vC p l e (rmz 7 300) s m args below meth c D A (vx_MQ below (vG (fun v1 w1 => v1 = (some (.long (mwF f r 4 0 u))) ∧ w1 = WC cy a f r kn ++ Y) D vwCl A) (vGX (fun _ => False) D vwCl (WC cy a f r kn ++ Y) A) args s (rmz 7 300).cells (rmz 7 300).slots A) 7 0 0 (WC cy a f r kn ++ Y) [some (.ref (a 0 0)), some (.long u), none, some (.long z), none, some (.int (nI k)), some (.int (nI t))] 14 [] := by
            intro d
            induction d with
            | zero =>
              intro t z hs hG
              refine r_iload C dX2_mixWindows_14 rfl ?_
              refine r_iconst (v := (nI 3)) C dX2_mixWindows_16 (by decide) ?_
              refine r_icN_ge (a := t) (b := 3) (tgt := 40) C (by first | omega | (simp [up2, *]; done) | (simp [up2, *]; omega) | (simp only [up2_eq]; omega) | (split <;> omega)) (by first | omega | (simp [up2, *]; done) | (simp [up2, *]; omega) | (simp only [up2_eq]; omega) | (split <;> omega)) dX2_mixWindows_17 (by decide) (fun h17_2 => ?_) (fun h17_2 => ?_)
              · first
                | exfalso; first | omega | contradiction
                | skip
                  have hz : z = mxF (wqF f k) 3 0 v := by first | exact hG | (exfalso; omega)
                  subst hz
                  have q1 := hC.h5 (4 + k) (by omega)
                  refine r_aload_n C dX2_mixWindows_40 rfl ?_
                  refine s_get C 0 (by decide) qf_X2_11 rfl rfl dX2_mixWindows_41 ?_
                  refine r_iconst (v := (nI 4)) C dX2_mixWindows_44 (by decide) ?_
                  refine r_iload C dX2_mixWindows_45 rfl ?_
                  refine r_iaddN C dX2_mixWindows_47 ?_
                  refine s_parts C (by first | omega | (simp [up2, *]; done) | (simp [up2, *]; omega) | (simp only [up2_eq]; omega) | (split <;> omega)) dX2_mixWindows_48 ?_
                  refine p_getN (v := .int (nI (f 5 (4 + k)))) hX C hE 5 (by first | omega | (simp [up2, *]; done) | (simp [up2, *]; omega) | (simp only [up2_eq]; omega) | (split <;> omega)) (by decide) qn_X2_194 rfl rfl dX2_mixWindows_49 ?_
                  refine r_ifN_eq (a := (f 5 (4 + k))) (tgt := 69) C (by first | omega | (simp [up2, *]; done) | (simp [up2, *]; omega) | (simp only [up2_eq]; omega) | (split <;> omega)) dX2_mixWindows_52 (by decide) (fun h52_3 => ?_) (fun h52_3 => ?_)
                  · first
                    | exfalso; first | omega | contradiction
                    | skip
                      refine r_iincN C dX2_mixWindows_69 rfl (by decide) rfl ?_
                      refine r_goto (tgt := 5) C dX2_mixWindows_72 (by decide) ?_
                      refine r_drop 6 ?_
                      exact (Nat.not_lt_zero _ (by omega)).elim
                  · first
                    | exfalso; first | omega | contradiction
                    | skip
                      have q2 := hC.th (i := 4 + k) (by omega) (by omega)
                      refine r_lload_n C dX2_mixWindows_55 rfl ?_
                      refine r_aload_n C dX2_mixWindows_56 rfl ?_
                      refine s_get C 0 (by decide) qf_X2_11 rfl rfl dX2_mixWindows_57 ?_
                      refine r_iconst (v := (nI 4)) C dX2_mixWindows_60 (by decide) ?_
                      refine r_iload C dX2_mixWindows_61 rfl ?_
                      refine r_iaddN C dX2_mixWindows_63 ?_
                      refine s_parts C (by first | omega | (simp [up2, *]; done) | (simp [up2, *]; omega) | (simp only [up2_eq]; omega) | (split <;> omega)) dX2_mixWindows_64 ?_
                      refine d_S (st := []) hX.stb C hE (C_mixItems (f := f) (r := r) (kn := kn) (i := (4 + k)) (u := (mxF (wqF f k) 3 0 v)) hX (by first | omega | (simp [up2, *]; done) | (simp [up2, *]; omega) | (simp only [up2_eq]; omega) | (split <;> omega)) (by first | omega | (simp [up2, *]; done) | (simp [up2, *]; omega) | (simp only [up2_eq]; omega) | (split <;> omega)) (by first | omega | (simp [up2, *]; done) | (simp [up2, *]; omega) | (simp only [up2_eq]; omega) | (split <;> omega))) pk_X2_mixItems qm_X2_323 rfl rfl (Nat.le_of_ble_eq_true rfl) dX2_mixWindows_65 ⟨Nat.le_of_ble_eq_true rfl, Nat.le_of_ble_eq_true rfl⟩ ⟨Nat.le_of_ble_eq_true rfl, Nat.le_of_ble_eq_true rfl⟩ ?_
                      refine r_lstore_n C dX2_mixWindows_68 (by decide) rfl ?_
                      refine r_iincN C dX2_mixWindows_69 rfl (by decide) rfl ?_
                      refine r_goto (tgt := 5) C dX2_mixWindows_72 (by decide) ?_
                      refine r_drop 6 ?_
                      exact (Nat.not_lt_zero _ (by omega)).elim
              · first
                | exfalso; first | omega | contradiction
                | skip
                  refine r_lload_n C dX2_mixWindows_20 rfl ?_
                  refine r_aload_n C dX2_mixWindows_21 rfl ?_
                  refine r_iload C dX2_mixWindows_22 rfl ?_
                  refine r_iload C dX2_mixWindows_24 rfl ?_
                  refine d_V (st := [.long z]) hX.stb C hE (C_ofWindow_all (f := f) (r := r) (kn := kn) (k0 := k) (q0 := t) hX (by first | omega | (simp [up2, *]; done) | (simp [up2, *]; omega) | (simp only [up2_eq]; omega) | (split <;> omega)) (by first | omega | (simp [up2, *]; done) | (simp [up2, *]; omega) | (simp only [up2_eq]; omega) | (split <;> omega)) (by first | omega | (simp [up2, *]; done) | (simp [up2, *]; omega) | (simp only [up2_eq]; omega) | (split <;> omega))) pk_X2_ofWindow qm_X2_332 0 6 rfl rfl wc_0 rfl rfl (Nat.le_of_ble_eq_true rfl) dX2_mixWindows_26 ⟨Nat.le_of_ble_eq_true rfl, Nat.le_of_ble_eq_true rfl⟩ ⟨Nat.le_of_ble_eq_true rfl, Nat.le_of_ble_eq_true rfl⟩ ?_
                  refine r_i2l C dX2_mixWindows_29 ?_
                  refine d_S (st := []) hX.stb C hE (C_mix (f := f) (r := r) (kn := kn) (u := z) (v := (((wqF f k t)).toInt64)) hX ) pk_X2_mix qm_X2_257 rfl rfl (Nat.le_of_ble_eq_true rfl) dX2_mixWindows_30 ⟨Nat.le_of_ble_eq_true rfl, Nat.le_of_ble_eq_true rfl⟩ ⟨Nat.le_of_ble_eq_true rfl, Nat.le_of_ble_eq_true rfl⟩ ?_
                  refine r_lstore_n C dX2_mixWindows_33 (by decide) rfl ?_
                  refine r_iincN C dX2_mixWindows_34 rfl (by decide) rfl ?_
                  refine r_goto (tgt := 14) C dX2_mixWindows_37 (by decide) ?_
                  exact (Nat.not_lt_zero _ (by omega)).elim
            | succ d ih_L14 =>
              intro t z hs hG
              refine r_iload C dX2_mixWindows_14 rfl ?_
              refine r_iconst (v := (nI 3)) C dX2_mixWindows_16 (by decide) ?_
              refine r_icN_ge (a := t) (b := 3) (tgt := 40) C (by first | omega | (simp [up2, *]; done) | (simp [up2, *]; omega) | (simp only [up2_eq]; omega) | (split <;> omega)) (by first | omega | (simp [up2, *]; done) | (simp [up2, *]; omega) | (simp only [up2_eq]; omega) | (split <;> omega)) dX2_mixWindows_17 (by decide) (fun h17_4 => ?_) (fun h17_4 => ?_)
              · first
                | exfalso; first | omega | contradiction
                | skip
                  have hz : z = mxF (wqF f k) 3 0 v := by first | exact hG | (exfalso; omega)
                  subst hz
                  have q1 := hC.h5 (4 + k) (by omega)
                  refine r_aload_n C dX2_mixWindows_40 rfl ?_
                  refine s_get C 0 (by decide) qf_X2_11 rfl rfl dX2_mixWindows_41 ?_
                  refine r_iconst (v := (nI 4)) C dX2_mixWindows_44 (by decide) ?_
                  refine r_iload C dX2_mixWindows_45 rfl ?_
                  refine r_iaddN C dX2_mixWindows_47 ?_
                  refine s_parts C (by first | omega | (simp [up2, *]; done) | (simp [up2, *]; omega) | (simp only [up2_eq]; omega) | (split <;> omega)) dX2_mixWindows_48 ?_
                  refine p_getN (v := .int (nI (f 5 (4 + k)))) hX C hE 5 (by first | omega | (simp [up2, *]; done) | (simp [up2, *]; omega) | (simp only [up2_eq]; omega) | (split <;> omega)) (by decide) qn_X2_194 rfl rfl dX2_mixWindows_49 ?_
                  refine r_ifN_eq (a := (f 5 (4 + k))) (tgt := 69) C (by first | omega | (simp [up2, *]; done) | (simp [up2, *]; omega) | (simp only [up2_eq]; omega) | (split <;> omega)) dX2_mixWindows_52 (by decide) (fun h52_5 => ?_) (fun h52_5 => ?_)
                  · first
                    | exfalso; first | omega | contradiction
                    | skip
                      refine r_iincN C dX2_mixWindows_69 rfl (by decide) rfl ?_
                      refine r_goto (tgt := 5) C dX2_mixWindows_72 (by decide) ?_
                      refine r_drop 6 ?_
                      exact (Nat.not_lt_zero _ (by omega)).elim
                  · first
                    | exfalso; first | omega | contradiction
                    | skip
                      have q2 := hC.th (i := 4 + k) (by omega) (by omega)
                      refine r_lload_n C dX2_mixWindows_55 rfl ?_
                      refine r_aload_n C dX2_mixWindows_56 rfl ?_
                      refine s_get C 0 (by decide) qf_X2_11 rfl rfl dX2_mixWindows_57 ?_
                      refine r_iconst (v := (nI 4)) C dX2_mixWindows_60 (by decide) ?_
                      refine r_iload C dX2_mixWindows_61 rfl ?_
                      refine r_iaddN C dX2_mixWindows_63 ?_
                      refine s_parts C (by first | omega | (simp [up2, *]; done) | (simp [up2, *]; omega) | (simp only [up2_eq]; omega) | (split <;> omega)) dX2_mixWindows_64 ?_
                      refine d_S (st := []) hX.stb C hE (C_mixItems (f := f) (r := r) (kn := kn) (i := (4 + k)) (u := (mxF (wqF f k) 3 0 v)) hX (by first | omega | (simp [up2, *]; done) | (simp [up2, *]; omega) | (simp only [up2_eq]; omega) | (split <;> omega)) (by first | omega | (simp [up2, *]; done) | (simp [up2, *]; omega) | (simp only [up2_eq]; omega) | (split <;> omega)) (by first | omega | (simp [up2, *]; done) | (simp [up2, *]; omega) | (simp only [up2_eq]; omega) | (split <;> omega))) pk_X2_mixItems qm_X2_323 rfl rfl (Nat.le_of_ble_eq_true rfl) dX2_mixWindows_65 ⟨Nat.le_of_ble_eq_true rfl, Nat.le_of_ble_eq_true rfl⟩ ⟨Nat.le_of_ble_eq_true rfl, Nat.le_of_ble_eq_true rfl⟩ ?_
                      refine r_lstore_n C dX2_mixWindows_68 (by decide) rfl ?_
                      refine r_iincN C dX2_mixWindows_69 rfl (by decide) rfl ?_
                      refine r_goto (tgt := 5) C dX2_mixWindows_72 (by decide) ?_
                      refine r_drop 6 ?_
                      exact (Nat.not_lt_zero _ (by omega)).elim
              · first
                | exfalso; first | omega | contradiction
                | skip
                  refine r_lload_n C dX2_mixWindows_20 rfl ?_
                  refine r_aload_n C dX2_mixWindows_21 rfl ?_
                  refine r_iload C dX2_mixWindows_22 rfl ?_
                  refine r_iload C dX2_mixWindows_24 rfl ?_
                  refine d_V (st := [.long z]) hX.stb C hE (C_ofWindow_all (f := f) (r := r) (kn := kn) (k0 := k) (q0 := t) hX (by first | omega | (simp [up2, *]; done) | (simp [up2, *]; omega) | (simp only [up2_eq]; omega) | (split <;> omega)) (by first | omega | (simp [up2, *]; done) | (simp [up2, *]; omega) | (simp only [up2_eq]; omega) | (split <;> omega)) (by first | omega | (simp [up2, *]; done) | (simp [up2, *]; omega) | (simp only [up2_eq]; omega) | (split <;> omega))) pk_X2_ofWindow qm_X2_332 0 6 rfl rfl wc_0 rfl rfl (Nat.le_of_ble_eq_true rfl) dX2_mixWindows_26 ⟨Nat.le_of_ble_eq_true rfl, Nat.le_of_ble_eq_true rfl⟩ ⟨Nat.le_of_ble_eq_true rfl, Nat.le_of_ble_eq_true rfl⟩ ?_
                  refine r_i2l C dX2_mixWindows_29 ?_
                  refine d_S (st := []) hX.stb C hE (C_mix (f := f) (r := r) (kn := kn) (u := z) (v := (((wqF f k t)).toInt64)) hX ) pk_X2_mix qm_X2_257 rfl rfl (Nat.le_of_ble_eq_true rfl) dX2_mixWindows_30 ⟨Nat.le_of_ble_eq_true rfl, Nat.le_of_ble_eq_true rfl⟩ ⟨Nat.le_of_ble_eq_true rfl, Nat.le_of_ble_eq_true rfl⟩ ?_
                  refine r_lstore_n C dX2_mixWindows_33 (by decide) rfl ?_
                  refine r_iincN C dX2_mixWindows_34 rfl (by decide) rfl ?_
                  refine r_goto (tgt := 14) C dX2_mixWindows_37 (by decide) ?_
                  exact ih_L14 (t + 1) _ (by omega) (by rw [← hG]; rfl)
          exact L14 3 0 v (by omega) rfl
    | succ d ih_L5 =>
      intro k v ht hF
      refine r_iload C dX2_mixWindows_5 rfl ?_
      refine r_iconst (v := (nI 4)) C dX2_mixWindows_7 (by decide) ?_
      refine r_icN_ge (a := k) (b := 4) (tgt := 75) C (by first | omega | (simp [up2, *]; done) | (simp [up2, *]; omega) | (simp only [up2_eq]; omega) | (split <;> omega)) (by first | omega | (simp [up2, *]; done) | (simp [up2, *]; omega) | (simp only [up2_eq]; omega) | (split <;> omega)) dX2_mixWindows_8 (by decide) (fun h8_6 => ?_) (fun h8_6 => ?_)
      · first
        | exfalso; first | omega | contradiction
        | skip
          refine r_lload_n C dX2_mixWindows_75 rfl ?_
          exact r_lret C hr dX2_mixWindows_76 ⟨by rw [← hF]; rfl, rfl⟩ (Nat.le_of_ble_eq_true rfl) (Nat.le_of_ble_eq_true rfl)
      · first
        | exfalso; first | omega | contradiction
        | skip
          refine r_iconst (v := (nI 0)) C dX2_mixWindows_11 (by decide) ?_
          refine r_istore C dX2_mixWindows_12 (by decide) rfl ?_
          have L14 : ∀ (d : Nat) (t : Nat) (z : Int64), (hs : t + d = 3) → (hG : mxF (wqF f k) d t z = mxF (wqF f k) 3 0 v) → vC p l e (rmz 7 300) s m args below meth c D A (vx_MQ below (vG (fun v1 w1 => v1 = (some (.long (mwF f r 4 0 u))) ∧ w1 = WC cy a f r kn ++ Y) D vwCl A) (vGX (fun _ => False) D vwCl (WC cy a f r kn ++ Y) A) args s (rmz 7 300).cells (rmz 7 300).slots A) 7 0 0 (WC cy a f r kn ++ Y) [some (.ref (a 0 0)), some (.long u), none, some (.long z), none, some (.int (nI k)), some (.int (nI t))] 14 [] := by
            intro d
            induction d with
            | zero =>
              intro t z hs hG
              refine r_iload C dX2_mixWindows_14 rfl ?_
              refine r_iconst (v := (nI 3)) C dX2_mixWindows_16 (by decide) ?_
              refine r_icN_ge (a := t) (b := 3) (tgt := 40) C (by first | omega | (simp [up2, *]; done) | (simp [up2, *]; omega) | (simp only [up2_eq]; omega) | (split <;> omega)) (by first | omega | (simp [up2, *]; done) | (simp [up2, *]; omega) | (simp only [up2_eq]; omega) | (split <;> omega)) dX2_mixWindows_17 (by decide) (fun h17_7 => ?_) (fun h17_7 => ?_)
              · first
                | exfalso; first | omega | contradiction
                | skip
                  have hz : z = mxF (wqF f k) 3 0 v := by first | exact hG | (exfalso; omega)
                  subst hz
                  have q1 := hC.h5 (4 + k) (by omega)
                  refine r_aload_n C dX2_mixWindows_40 rfl ?_
                  refine s_get C 0 (by decide) qf_X2_11 rfl rfl dX2_mixWindows_41 ?_
                  refine r_iconst (v := (nI 4)) C dX2_mixWindows_44 (by decide) ?_
                  refine r_iload C dX2_mixWindows_45 rfl ?_
                  refine r_iaddN C dX2_mixWindows_47 ?_
                  refine s_parts C (by first | omega | (simp [up2, *]; done) | (simp [up2, *]; omega) | (simp only [up2_eq]; omega) | (split <;> omega)) dX2_mixWindows_48 ?_
                  refine p_getN (v := .int (nI (f 5 (4 + k)))) hX C hE 5 (by first | omega | (simp [up2, *]; done) | (simp [up2, *]; omega) | (simp only [up2_eq]; omega) | (split <;> omega)) (by decide) qn_X2_194 rfl rfl dX2_mixWindows_49 ?_
                  refine r_ifN_eq (a := (f 5 (4 + k))) (tgt := 69) C (by first | omega | (simp [up2, *]; done) | (simp [up2, *]; omega) | (simp only [up2_eq]; omega) | (split <;> omega)) dX2_mixWindows_52 (by decide) (fun h52_8 => ?_) (fun h52_8 => ?_)
                  · first
                    | exfalso; first | omega | contradiction
                    | skip
                      refine r_iincN C dX2_mixWindows_69 rfl (by decide) rfl ?_
                      refine r_goto (tgt := 5) C dX2_mixWindows_72 (by decide) ?_
                      refine r_drop 6 ?_
                      exact ih_L5 (k + 1) _ (by omega) (by rw [← hF]; exact congrArg (mwF f r _ (k + 1)) (by first | exact (if_pos (by assumption)).symm | exact (if_neg (by assumption)).symm))
                  · first
                    | exfalso; first | omega | contradiction
                    | skip
                      have q2 := hC.th (i := 4 + k) (by omega) (by omega)
                      refine r_lload_n C dX2_mixWindows_55 rfl ?_
                      refine r_aload_n C dX2_mixWindows_56 rfl ?_
                      refine s_get C 0 (by decide) qf_X2_11 rfl rfl dX2_mixWindows_57 ?_
                      refine r_iconst (v := (nI 4)) C dX2_mixWindows_60 (by decide) ?_
                      refine r_iload C dX2_mixWindows_61 rfl ?_
                      refine r_iaddN C dX2_mixWindows_63 ?_
                      refine s_parts C (by first | omega | (simp [up2, *]; done) | (simp [up2, *]; omega) | (simp only [up2_eq]; omega) | (split <;> omega)) dX2_mixWindows_64 ?_
                      refine d_S (st := []) hX.stb C hE (C_mixItems (f := f) (r := r) (kn := kn) (i := (4 + k)) (u := (mxF (wqF f k) 3 0 v)) hX (by first | omega | (simp [up2, *]; done) | (simp [up2, *]; omega) | (simp only [up2_eq]; omega) | (split <;> omega)) (by first | omega | (simp [up2, *]; done) | (simp [up2, *]; omega) | (simp only [up2_eq]; omega) | (split <;> omega)) (by first | omega | (simp [up2, *]; done) | (simp [up2, *]; omega) | (simp only [up2_eq]; omega) | (split <;> omega))) pk_X2_mixItems qm_X2_323 rfl rfl (Nat.le_of_ble_eq_true rfl) dX2_mixWindows_65 ⟨Nat.le_of_ble_eq_true rfl, Nat.le_of_ble_eq_true rfl⟩ ⟨Nat.le_of_ble_eq_true rfl, Nat.le_of_ble_eq_true rfl⟩ ?_
                      refine r_lstore_n C dX2_mixWindows_68 (by decide) rfl ?_
                      refine r_iincN C dX2_mixWindows_69 rfl (by decide) rfl ?_
                      refine r_goto (tgt := 5) C dX2_mixWindows_72 (by decide) ?_
                      refine r_drop 6 ?_
                      exact ih_L5 (k + 1) _ (by omega) (by rw [← hF]; exact congrArg (mwF f r _ (k + 1)) (by first | exact (if_pos (by assumption)).symm | exact (if_neg (by assumption)).symm))
              · first
                | exfalso; first | omega | contradiction
                | skip
                  refine r_lload_n C dX2_mixWindows_20 rfl ?_
                  refine r_aload_n C dX2_mixWindows_21 rfl ?_
                  refine r_iload C dX2_mixWindows_22 rfl ?_
                  refine r_iload C dX2_mixWindows_24 rfl ?_
                  refine d_V (st := [.long z]) hX.stb C hE (C_ofWindow_all (f := f) (r := r) (kn := kn) (k0 := k) (q0 := t) hX (by first | omega | (simp [up2, *]; done) | (simp [up2, *]; omega) | (simp only [up2_eq]; omega) | (split <;> omega)) (by first | omega | (simp [up2, *]; done) | (simp [up2, *]; omega) | (simp only [up2_eq]; omega) | (split <;> omega)) (by first | omega | (simp [up2, *]; done) | (simp [up2, *]; omega) | (simp only [up2_eq]; omega) | (split <;> omega))) pk_X2_ofWindow qm_X2_332 0 6 rfl rfl wc_0 rfl rfl (Nat.le_of_ble_eq_true rfl) dX2_mixWindows_26 ⟨Nat.le_of_ble_eq_true rfl, Nat.le_of_ble_eq_true rfl⟩ ⟨Nat.le_of_ble_eq_true rfl, Nat.le_of_ble_eq_true rfl⟩ ?_
                  refine r_i2l C dX2_mixWindows_29 ?_
                  refine d_S (st := []) hX.stb C hE (C_mix (f := f) (r := r) (kn := kn) (u := z) (v := (((wqF f k t)).toInt64)) hX ) pk_X2_mix qm_X2_257 rfl rfl (Nat.le_of_ble_eq_true rfl) dX2_mixWindows_30 ⟨Nat.le_of_ble_eq_true rfl, Nat.le_of_ble_eq_true rfl⟩ ⟨Nat.le_of_ble_eq_true rfl, Nat.le_of_ble_eq_true rfl⟩ ?_
                  refine r_lstore_n C dX2_mixWindows_33 (by decide) rfl ?_
                  refine r_iincN C dX2_mixWindows_34 rfl (by decide) rfl ?_
                  refine r_goto (tgt := 14) C dX2_mixWindows_37 (by decide) ?_
                  exact (Nat.not_lt_zero _ (by omega)).elim
            | succ d ih_L14 =>
              intro t z hs hG
              refine r_iload C dX2_mixWindows_14 rfl ?_
              refine r_iconst (v := (nI 3)) C dX2_mixWindows_16 (by decide) ?_
              refine r_icN_ge (a := t) (b := 3) (tgt := 40) C (by first | omega | (simp [up2, *]; done) | (simp [up2, *]; omega) | (simp only [up2_eq]; omega) | (split <;> omega)) (by first | omega | (simp [up2, *]; done) | (simp [up2, *]; omega) | (simp only [up2_eq]; omega) | (split <;> omega)) dX2_mixWindows_17 (by decide) (fun h17_9 => ?_) (fun h17_9 => ?_)
              · first
                | exfalso; first | omega | contradiction
                | skip
                  have hz : z = mxF (wqF f k) 3 0 v := by first | exact hG | (exfalso; omega)
                  subst hz
                  have q1 := hC.h5 (4 + k) (by omega)
                  refine r_aload_n C dX2_mixWindows_40 rfl ?_
                  refine s_get C 0 (by decide) qf_X2_11 rfl rfl dX2_mixWindows_41 ?_
                  refine r_iconst (v := (nI 4)) C dX2_mixWindows_44 (by decide) ?_
                  refine r_iload C dX2_mixWindows_45 rfl ?_
                  refine r_iaddN C dX2_mixWindows_47 ?_
                  refine s_parts C (by first | omega | (simp [up2, *]; done) | (simp [up2, *]; omega) | (simp only [up2_eq]; omega) | (split <;> omega)) dX2_mixWindows_48 ?_
                  refine p_getN (v := .int (nI (f 5 (4 + k)))) hX C hE 5 (by first | omega | (simp [up2, *]; done) | (simp [up2, *]; omega) | (simp only [up2_eq]; omega) | (split <;> omega)) (by decide) qn_X2_194 rfl rfl dX2_mixWindows_49 ?_
                  refine r_ifN_eq (a := (f 5 (4 + k))) (tgt := 69) C (by first | omega | (simp [up2, *]; done) | (simp [up2, *]; omega) | (simp only [up2_eq]; omega) | (split <;> omega)) dX2_mixWindows_52 (by decide) (fun h52_10 => ?_) (fun h52_10 => ?_)
                  · first
                    | exfalso; first | omega | contradiction
                    | skip
                      refine r_iincN C dX2_mixWindows_69 rfl (by decide) rfl ?_
                      refine r_goto (tgt := 5) C dX2_mixWindows_72 (by decide) ?_
                      refine r_drop 6 ?_
                      exact ih_L5 (k + 1) _ (by omega) (by rw [← hF]; exact congrArg (mwF f r _ (k + 1)) (by first | exact (if_pos (by assumption)).symm | exact (if_neg (by assumption)).symm))
                  · first
                    | exfalso; first | omega | contradiction
                    | skip
                      have q2 := hC.th (i := 4 + k) (by omega) (by omega)
                      refine r_lload_n C dX2_mixWindows_55 rfl ?_
                      refine r_aload_n C dX2_mixWindows_56 rfl ?_
                      refine s_get C 0 (by decide) qf_X2_11 rfl rfl dX2_mixWindows_57 ?_
                      refine r_iconst (v := (nI 4)) C dX2_mixWindows_60 (by decide) ?_
                      refine r_iload C dX2_mixWindows_61 rfl ?_
                      refine r_iaddN C dX2_mixWindows_63 ?_
                      refine s_parts C (by first | omega | (simp [up2, *]; done) | (simp [up2, *]; omega) | (simp only [up2_eq]; omega) | (split <;> omega)) dX2_mixWindows_64 ?_
                      refine d_S (st := []) hX.stb C hE (C_mixItems (f := f) (r := r) (kn := kn) (i := (4 + k)) (u := (mxF (wqF f k) 3 0 v)) hX (by first | omega | (simp [up2, *]; done) | (simp [up2, *]; omega) | (simp only [up2_eq]; omega) | (split <;> omega)) (by first | omega | (simp [up2, *]; done) | (simp [up2, *]; omega) | (simp only [up2_eq]; omega) | (split <;> omega)) (by first | omega | (simp [up2, *]; done) | (simp [up2, *]; omega) | (simp only [up2_eq]; omega) | (split <;> omega))) pk_X2_mixItems qm_X2_323 rfl rfl (Nat.le_of_ble_eq_true rfl) dX2_mixWindows_65 ⟨Nat.le_of_ble_eq_true rfl, Nat.le_of_ble_eq_true rfl⟩ ⟨Nat.le_of_ble_eq_true rfl, Nat.le_of_ble_eq_true rfl⟩ ?_
                      refine r_lstore_n C dX2_mixWindows_68 (by decide) rfl ?_
                      refine r_iincN C dX2_mixWindows_69 rfl (by decide) rfl ?_
                      refine r_goto (tgt := 5) C dX2_mixWindows_72 (by decide) ?_
                      refine r_drop 6 ?_
                      exact ih_L5 (k + 1) _ (by omega) (by rw [← hF]; exact congrArg (mwF f r _ (k + 1)) (by first | exact (if_pos (by assumption)).symm | exact (if_neg (by assumption)).symm))
              · first
                | exfalso; first | omega | contradiction
                | skip
                  refine r_lload_n C dX2_mixWindows_20 rfl ?_
                  refine r_aload_n C dX2_mixWindows_21 rfl ?_
                  refine r_iload C dX2_mixWindows_22 rfl ?_
                  refine r_iload C dX2_mixWindows_24 rfl ?_
                  refine d_V (st := [.long z]) hX.stb C hE (C_ofWindow_all (f := f) (r := r) (kn := kn) (k0 := k) (q0 := t) hX (by first | omega | (simp [up2, *]; done) | (simp [up2, *]; omega) | (simp only [up2_eq]; omega) | (split <;> omega)) (by first | omega | (simp [up2, *]; done) | (simp [up2, *]; omega) | (simp only [up2_eq]; omega) | (split <;> omega)) (by first | omega | (simp [up2, *]; done) | (simp [up2, *]; omega) | (simp only [up2_eq]; omega) | (split <;> omega))) pk_X2_ofWindow qm_X2_332 0 6 rfl rfl wc_0 rfl rfl (Nat.le_of_ble_eq_true rfl) dX2_mixWindows_26 ⟨Nat.le_of_ble_eq_true rfl, Nat.le_of_ble_eq_true rfl⟩ ⟨Nat.le_of_ble_eq_true rfl, Nat.le_of_ble_eq_true rfl⟩ ?_
                  refine r_i2l C dX2_mixWindows_29 ?_
                  refine d_S (st := []) hX.stb C hE (C_mix (f := f) (r := r) (kn := kn) (u := z) (v := (((wqF f k t)).toInt64)) hX ) pk_X2_mix qm_X2_257 rfl rfl (Nat.le_of_ble_eq_true rfl) dX2_mixWindows_30 ⟨Nat.le_of_ble_eq_true rfl, Nat.le_of_ble_eq_true rfl⟩ ⟨Nat.le_of_ble_eq_true rfl, Nat.le_of_ble_eq_true rfl⟩ ?_
                  refine r_lstore_n C dX2_mixWindows_33 (by decide) rfl ?_
                  refine r_iincN C dX2_mixWindows_34 rfl (by decide) rfl ?_
                  refine r_goto (tgt := 14) C dX2_mixWindows_37 (by decide) ?_
                  exact ih_L14 (t + 1) _ (by omega) (by rw [← hG]; rfl)
          exact L14 3 0 v (by omega) rfl
  exact L5 4 0 u (by omega) rfl
