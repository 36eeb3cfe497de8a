/-! CONTRACTS of the model: windows -/
theorem dX4_windows_0 : decode cX4_windows 0 = .ok (.iconst 0, 1) := dqo_3 (kb_of ke_X4_windows 0 rfl)
theorem dX4_windows_1 : decode cX4_windows 1 = .ok (.istore_n 1, 1) := dqo_60 (kb_of ke_X4_windows 1 rfl)
theorem dX4_windows_2 : decode cX4_windows 2 = .ok (.aload_n 0, 1) := dqo_42 (kb_of ke_X4_windows 2 rfl)
theorem dX4_windows_3 : decode cX4_windows 3 = .ok (.getfield 18, 3) := dqo_180 0 18 (kb_of ke_X4_windows 3 rfl) (kb_of ke_X4_windows 4 rfl) (kb_of ke_X4_windows 5 rfl)
theorem dX4_windows_6 : decode cX4_windows 6 = .ok (.astore_n 2, 1) := dqo_77 (kb_of ke_X4_windows 6 rfl)
theorem dX4_windows_7 : decode cX4_windows 7 = .ok (.aload_n 2, 1) := dqo_44 (kb_of ke_X4_windows 7 rfl)
theorem dX4_windows_8 : decode cX4_windows 8 = .ok (.arraylength, 1) := dqo_190 (kb_of ke_X4_windows 8 rfl)
theorem dX4_windows_9 : decode cX4_windows 9 = .ok (.istore_n 3, 1) := dqo_62 (kb_of ke_X4_windows 9 rfl)
theorem dX4_windows_10 : decode cX4_windows 10 = .ok (.iconst 0, 1) := dqo_3 (kb_of ke_X4_windows 10 rfl)
theorem dX4_windows_11 : decode cX4_windows 11 = .ok (.istore 4, 2) := dqo_54 4 (kb_of ke_X4_windows 11 rfl) (kb_of ke_X4_windows 12 rfl)
theorem dX4_windows_13 : decode cX4_windows 13 = .ok (.iload 4, 2) := dqo_21 4 (kb_of ke_X4_windows 13 rfl) (kb_of ke_X4_windows 14 rfl)
theorem dX4_windows_15 : decode cX4_windows 15 = .ok (.iload_n 3, 1) := dqo_29 (kb_of ke_X4_windows 15 rfl)
theorem dX4_windows_16 : decode cX4_windows 16 = .ok (.if_icmp .ge 23, 3) := dqo_162 0 23 (by decide) (kb_of ke_X4_windows 16 rfl) (kb_of ke_X4_windows 17 rfl) (kb_of ke_X4_windows 18 rfl)
theorem dX4_windows_19 : decode cX4_windows 19 = .ok (.aload_n 2, 1) := dqo_44 (kb_of ke_X4_windows 19 rfl)
theorem dX4_windows_20 : decode cX4_windows 20 = .ok (.iload 4, 2) := dqo_21 4 (kb_of ke_X4_windows 20 rfl) (kb_of ke_X4_windows 21 rfl)
theorem dX4_windows_22 : decode cX4_windows 22 = .ok (.baload, 1) := dqo_51 (kb_of ke_X4_windows 22 rfl)
theorem dX4_windows_23 : decode cX4_windows 23 = .ok (.istore 5, 2) := dqo_54 5 (kb_of ke_X4_windows 23 rfl) (kb_of ke_X4_windows 24 rfl)
theorem dX4_windows_25 : decode cX4_windows 25 = .ok (.iload_n 1, 1) := dqo_27 (kb_of ke_X4_windows 25 rfl)
theorem dX4_windows_26 : decode cX4_windows 26 = .ok (.iload 5, 2) := dqo_21 5 (kb_of ke_X4_windows 26 rfl) (kb_of ke_X4_windows 27 rfl)
theorem dX4_windows_28 : decode cX4_windows 28 = .ok (.invokestatic 136, 3) := dqo_184 0 136 (kb_of ke_X4_windows 28 rfl) (kb_of ke_X4_windows 29 rfl) (kb_of ke_X4_windows 30 rfl)
theorem dX4_windows_31 : decode cX4_windows 31 = .ok (.iadd, 1) := dqo_96 (kb_of ke_X4_windows 31 rfl)
theorem dX4_windows_32 : decode cX4_windows 32 = .ok (.istore_n 1, 1) := dqo_60 (kb_of ke_X4_windows 32 rfl)
theorem dX4_windows_33 : decode cX4_windows 33 = .ok (.iinc 4 1, 3) := dqo_132 4 1 (by decide) (kb_of ke_X4_windows 33 rfl) (kb_of ke_X4_windows 34 rfl) (kb_of ke_X4_windows 35 rfl)
theorem dX4_windows_36 : decode cX4_windows 36 = .ok (.goto (-23), 3) := dqo_167 255 233 (by decide) (kb_of ke_X4_windows 36 rfl) (kb_of ke_X4_windows 37 rfl) (kb_of ke_X4_windows 38 rfl)
theorem dX4_windows_39 : decode cX4_windows 39 = .ok (.iload_n 1, 1) := dqo_27 (kb_of ke_X4_windows 39 rfl)
theorem dX4_windows_40 : decode cX4_windows 40 = .ok (.ireturn, 1) := dqo_172 (kb_of ke_X4_windows 40 rfl)
set_option maxRecDepth 100000 in
set_option maxHeartbeats 4000000 in
theorem D_windows {l : Launch} {D : va_G} {cy : Nat → ClassId} {X : (Nat → Prop) → State → Heap → Prop} {ba ra : Nat → Nat} {hf : Nat → Nat → Nat} {hq : Nat → Nat → Int32} {kn th : Int32} {sm : Int64} {Y : va_W}  (hX : EnvM X cy) (h5a : ∀ w, 4 ≤ w → w < 8 → hf 5 w ≤ 1) : Cd l D cy X yX4_windows cX4_windows 6 (some .int) (rmz 1 30) [.ref (ba 9)] (WM cy ba ra hf hq kn th sm ++ Y) (some (.int (nI (smF (hf 5) 4 4 0)))) (WM cy ba ra hf hq kn th sm ++ Y) := by
  refine Cm.of [some (.ref (ba 9)), none, none, none, none, none] pn_X4 rfl (Nat.le_of_ble_eq_true rfl) ?_
  intro p e s m args below meth c A C hE hr hnt hn
  refine r_iconst (v := (nI 0)) C dX4_windows_0 (by decide) ?_
  refine r_istore_n C dX4_windows_1 (by decide) rfl ?_
  refine r_aload_n C dX4_windows_2 rfl ?_
  refine m_get (v := .ref (ba 1)) C 1 (by decide) qf_X4_18 rfl rfl dX4_windows_3 ?_
  refine r_astore_n C dX4_windows_6 (by decide) rfl ?_
  refine r_aload_n C dX4_windows_7 rfl ?_
  refine m_alen C 0 (by decide) dX4_windows_8 ?_
  refine r_istore_n C dX4_windows_9 (by decide) rfl ?_
  refine r_iconst (v := (nI 0)) C dX4_windows_10 (by decide) ?_
  refine r_istore C dX4_windows_11 (by decide) rfl ?_
  have L13 : ∀ (d : Nat) (k : Nat) (z : Nat), (hk : k + d = 4) → (hz : z ≤ k) → (hF : smF (hf 5) d (4 + k) z = smF (hf 5) 4 4 0) → vC p l e (rmz 1 30) s m args below meth c D A (vx_MQ below (vG (fun v1 w1 => v1 = (some (.int (nI (smF (hf 5) 4 4 0)))) ∧ w1 = WM cy ba ra hf hq kn th sm ++ Y) D vwCl A) (vGX (fun _ => False) D vwCl (WM cy ba ra hf hq kn th sm ++ Y) A) args s (rmz 1 30).cells (rmz 1 30).slots A) 6 0 0 (WM cy ba ra hf hq kn th sm ++ Y) [some (.ref (ba 9)), some (.int (nI z)), some (.ref (ba 1)), some (.int (nI 4)), some (.int (nI k)), none] 13 [] := by
    intro d
    induction d with
    | zero =>
      intro k z hk hz hF
      refine r_iload C dX4_windows_13 rfl ?_
      refine r_iload_n C dX4_windows_15 rfl ?_
      refine r_icN_ge (a := k) (b := 4) (tgt := 39) C (by first | omega | (simp [up2, *]; done) | (simp [up2, *]; omega) | (simp only [up2_eq]; omega) | (split <;> omega)) (by first | omega | (simp [up2, *]; done) | (simp [up2, *]; omega) | (simp only [up2_eq]; omega) | (split <;> omega)) dX4_windows_16 (by decide) (fun h16_1 => ?_) (fun h16_1 => ?_)
      · first
        | exfalso; first | omega | contradiction
        | skip
          refine r_iload_n C dX4_windows_39 rfl ?_
          exact r_iret C hr dX4_windows_40 ⟨by rw [← hF]; rfl, rfl⟩ (Nat.le_of_ble_eq_true rfl) (Nat.le_of_ble_eq_true rfl)
      · first
        | exfalso; first | omega | contradiction
        | skip
          refine r_aload_n C dX4_windows_19 rfl ?_
          refine r_iload C dX4_windows_20 rfl ?_
          refine m_zld (i := k) (z := 4 + k) (v := hf 5 (4 + k)) C 0 (by decide) (by decide) (show k < 4 from (by first | omega | (simp [up2, *]; done) | (simp [up2, *]; omega) | (simp only [up2_eq]; omega) | (split <;> omega))) (show 4 + k = 4 + k from (by omega)) rfl dX4_windows_22 ?_
          refine r_istore C dX4_windows_23 (by decide) rfl ?_
          refine r_iload_n C dX4_windows_25 rfl ?_
          refine r_iload C dX4_windows_26 rfl ?_
          refine d_S (st := [.int (nI z)]) hX.1.stb C hE (D_one (ba := ba) (ra := ra) (hf := hf) (hq := hq) (kn := kn) (th := th) (sm := sm) (Y := Y) (b0 := (hf 5 (4 + k))) hX (h5a (4 + k) (by omega) (by omega))) pk_X4_one qm_X4_136 rfl rfl (Nat.le_of_ble_eq_true rfl) dX4_windows_28 ⟨(Nat.le_of_ble_eq_true rfl), (Nat.le_of_ble_eq_true rfl)⟩ ⟨(Nat.le_of_ble_eq_true rfl), (Nat.le_of_ble_eq_true rfl)⟩ ?_
          refine r_w (w' := WM cy ba ra hf hq kn th sm ++ Y) rfl ?_
          refine r_iaddN C dX4_windows_31 ?_
          refine r_istore_n C dX4_windows_32 (by decide) rfl ?_
          refine r_iincN C dX4_windows_33 rfl (by decide) rfl ?_
          refine r_goto (tgt := 13) C dX4_windows_36 (by decide) ?_
          refine r_drop 5 ?_
          exact (Nat.not_lt_zero _ (by omega)).elim
    | succ d ih_L13 =>
      intro k z hk hz hF
      refine r_iload C dX4_windows_13 rfl ?_
      refine r_iload_n C dX4_windows_15 rfl ?_
      refine r_icN_ge (a := k) (b := 4) (tgt := 39) C (by first | omega | (simp [up2, *]; done) | (simp [up2, *]; omega) | (simp only [up2_eq]; omega) | (split <;> omega)) (by first | omega | (simp [up2, *]; done) | (simp [up2, *]; omega) | (simp only [up2_eq]; omega) | (split <;> omega)) dX4_windows_16 (by decide) (fun h16_2 => ?_) (fun h16_2 => ?_)
      · first
        | exfalso; first | omega | contradiction
        | skip
          refine r_iload_n C dX4_windows_39 rfl ?_
          exact r_iret C hr dX4_windows_40 ⟨by rw [← hF]; rfl, rfl⟩ (Nat.le_of_ble_eq_true rfl) (Nat.le_of_ble_eq_true rfl)
      · first
        | exfalso; first | omega | contradiction
        | skip
          refine r_aload_n C dX4_windows_19 rfl ?_
          refine r_iload C dX4_windows_20 rfl ?_
          refine m_zld (i := k) (z := 4 + k) (v := hf 5 (4 + k)) C 0 (by decide) (by decide) (show k < 4 from (by first | omega | (simp [up2, *]; done) | (simp [up2, *]; omega) | (simp only [up2_eq]; omega) | (split <;> omega))) (show 4 + k = 4 + k from (by omega)) rfl dX4_windows_22 ?_
          refine r_istore C dX4_windows_23 (by decide) rfl ?_
          refine r_iload_n C dX4_windows_25 rfl ?_
          refine r_iload C dX4_windows_26 rfl ?_
          refine d_S (st := [.int (nI z)]) hX.1.stb C hE (D_one (ba := ba) (ra := ra) (hf := hf) (hq := hq) (kn := kn) (th := th) (sm := sm) (Y := Y) (b0 := (hf 5 (4 + k))) hX (h5a (4 + k) (by omega) (by omega))) pk_X4_one qm_X4_136 rfl rfl (Nat.le_of_ble_eq_true rfl) dX4_windows_28 ⟨(Nat.le_of_ble_eq_true rfl), (Nat.le_of_ble_eq_true rfl)⟩ ⟨(Nat.le_of_ble_eq_true rfl), (Nat.le_of_ble_eq_true rfl)⟩ ?_
          refine r_w (w' := WM cy ba ra hf hq kn th sm ++ Y) rfl ?_
          refine r_iaddN C dX4_windows_31 ?_
          refine r_istore_n C dX4_windows_32 (by decide) rfl ?_
          refine r_iincN C dX4_windows_33 rfl (by decide) rfl ?_
          refine r_goto (tgt := 13) C dX4_windows_36 (by decide) ?_
          refine r_drop 5 ?_
          exact ih_L13 (k + 1) (z + (hf 5 (4 + k))) (by first | omega | (simp [up2, *]; done) | (simp [up2, *]; omega) | (simp only [up2_eq]; omega) | (split <;> omega)) (by have h8 := h5a (4 + k) (by omega) (by omega); omega) (by rw [← hF]; rfl)
  exact L13 4 0 0 (by first | omega | (simp [up2, *]; done) | (simp [up2, *]; omega) | (simp only [up2_eq]; omega) | (split <;> omega)) (by omega) rfl
theorem dX4_window_0 : decode cX4_window 0 = .ok (.iload_n 1, 1) := dqo_27 (kb_X4_window_0 0 rfl)
theorem dX4_window_1 : decode cX4_window 1 = .ok (.iconst 0, 1) := dqo_3 (kb_X4_window_0 1 rfl)
theorem dX4_window_2 : decode cX4_window 2 = .ok (.iconst 3, 1) := dqo_6 (kb_X4_window_0 2 rfl)
theorem dX4_window_3 : decode cX4_window 3 = .ok (.invokestatic 1, 3) := dqo_184 0 1 (kb_X4_window_0 3 rfl) (kb_X4_window_0 4 rfl) (kb_X4_window_0 5 rfl)
theorem dX4_window_6 : decode cX4_window 6 = .ok (.ifCond .eq 11, 3) := dqo_153 0 11 (by decide) (kb_X4_window_0 6 rfl) (kb_X4_window_0 7 rfl) (kb_X4_window_0 8 rfl)
theorem dX4_window_17 : decode cX4_window 17 = .ok (.iconst 1, 1) := dqo_4 (kb_X4_window_0 17 rfl)
theorem dX4_window_18 : decode cX4_window 18 = .ok (.goto 4, 3) := dqo_167 0 4 (by decide) (kb_X4_window_0 18 rfl) (kb_X4_window_0 19 rfl) (kb_X4_window_0 20 rfl)
theorem dX4_window_22 : decode cX4_window 22 = .ok (.istore 5, 2) := dqo_54 5 (kb_X4_window_0 22 rfl) (kb_X4_window_0 23 rfl)
theorem dX4_window_24 : decode cX4_window 24 = .ok (.aload_n 0, 1) := dqo_42 (kb_X4_window_0 24 rfl)
theorem dX4_window_25 : decode cX4_window 25 = .ok (.iload 5, 2) := dqo_21 5 (kb_X4_window_0 25 rfl) (kb_X4_window_0 26 rfl)
theorem dX4_window_27 : decode cX4_window 27 = .ok (.iload 5, 2) := dqo_21 5 (kb_X4_window_0 27 rfl) (kb_X4_window_0 28 rfl)
theorem dX4_window_29 : decode cX4_window 29 = .ok (.ifCond .ne 18, 3) := dqo_154 0 18 (by decide) (kb_X4_window_0 29 rfl) (kb_X4_window_0 30 rfl) (kb_X4_window_0 31 rfl)
theorem dX4_window_47 : decode cX4_window 47 = .ok (.iconst 0, 1) := dqo_3 (kb_X4_window_0 47 rfl)
theorem dX4_window_48 : decode cX4_window 48 = .ok (.iconst 0, 1) := dqo_3 (kb_X4_window_0 48 rfl)
theorem dX4_window_49 : decode cX4_window 49 = .ok (.invokevirtual 84, 3) := dqo_182 0 84 (kb_X4_window_0 49 rfl) (kb_X4_window_0 50 rfl) (kb_X4_window_0 51 rfl)
theorem dX4_window_52 : decode cX4_window 52 = .ok (.ifCond .eq 5, 3) := dqo_153 0 5 (by decide) (kb_X4_window_0 52 rfl) (kb_X4_window_0 53 rfl) (kb_X4_window_0 54 rfl)
theorem dX4_window_55 : decode cX4_window 55 = .ok (.iconst 0, 1) := dqo_3 (kb_X4_window_0 55 rfl)
theorem dX4_window_56 : decode cX4_window 56 = .ok (.ireturn, 1) := dqo_172 (kb_X4_window_0 56 rfl)
set_option maxRecDepth 100000 in
set_option maxHeartbeats 4000000 in
theorem D_window_noK {l : Launch} {D : va_G} {cy : Nat → ClassId} {X : (Nat → Prop) → State → Heap → Prop} {ba ra : Nat → Nat} {hf : Nat → Nat → Nat} {hq : Nat → Nat → Int32} {kn th : Int32} {sm : Int64} {Y : va_W} {f : Nat → Nat → Nat} {r : Nat → Nat → Int32} {x : Int32} {y0 : Int32} {y1 : Int32} {y2 : Int32} (hX : EnvM X cy) (hC : CInv f) (hM : MR f r hf hq) (hno : ¬ (0 ≤ x ∧ x < nI 4)) : Cd l D cy X yX4_window cX4_window 6 (some .int) (rmk 9 4 48 420) [.ref (ba 9), .int x, .int y0, .int y1, .int y2] (WM cy ba ra hf hq kn th sm ++ Y) (some (.int (nI 0))) (WM cy ba ra hf hq kn (nI 1) sm ++ Y) := by
  have hG := hM.1
  have h5M := hM.h5M hC
  have h4M := hC.h4M
  have h9a := hM.h9a hC
  have h6a := hM.h6a
  have hU := hM.hU hC
  refine Cm.of [some (.ref (ba 9)), some (.int x), some (.int y0), some (.int y1), some (.int y2), none] pn_X4 rfl (Nat.le_of_ble_eq_true rfl) ?_
  intro p e s m args below meth c A C hE hr hnt hn
  refine r_iload_n C dX4_window_0 rfl ?_
  refine r_iconst (v := (nI 0)) C dX4_window_1 (by decide) ?_
  refine r_iconst (v := (nI 3)) C dX4_window_2 (by decide) ?_
  refine d_S (st := []) hX.1.stb C hE (D_isIn0 (ba := ba) (ra := ra) (hf := hf) (hq := hq) (kn := kn) (th := th) (sm := sm) (Y := Y) (x := (x)) (y := ((nI 0))) (z := ((nI 3))) hX (fun z => hno ⟨z.1, Int32.lt_of_le_of_lt z.2 (by decide)⟩)) pk_X4_isIn qm_X4_1 rfl rfl (Nat.le_of_ble_eq_true rfl) dX4_window_3 ⟨(Nat.le_of_ble_eq_true rfl), (Nat.le_of_ble_eq_true rfl)⟩ ⟨(Nat.le_of_ble_eq_true rfl), (Nat.le_of_ble_eq_true rfl)⟩ ?_
  refine r_w (w' := WM cy ba ra hf hq kn th sm ++ Y) rfl ?_
  refine r_ifN_eq (a := 0) (tgt := 17) C (by first | omega | (simp [up2, *]; done) | (simp [up2, *]; omega) | (simp only [up2_eq]; omega) | (split <;> omega)) dX4_window_6 (by decide) (fun h6_1 => ?_) (fun h6_1 => ?_)
  · skip
    refine r_iconst (v := (nI 1)) C dX4_window_17 (by decide) ?_
    refine r_goto (tgt := 22) C dX4_window_18 (by decide) ?_
    refine r_istore C dX4_window_22 (by decide) rfl ?_
    refine r_aload_n C dX4_window_24 rfl ?_
    refine r_iload C dX4_window_25 rfl ?_
    refine r_iload C dX4_window_27 rfl ?_
    refine r_ifN_ne (a := 1) (tgt := 47) C (by first | omega | (simp [up2, *]; done) | (simp [up2, *]; omega) | (simp only [up2_eq]; omega) | (split <;> omega)) dX4_window_29 (by decide) (fun h29_2 => ?_) (fun h29_2 => ?_)
    · skip
      refine r_iconst (v := (nI 0)) C dX4_window_47 (by decide) ?_
      refine r_iconst (v := (nI 0)) C dX4_window_48 (by decide) ?_
      refine d_V (st := []) hX.1.stb C hE (D_fails1 (ba := ba) (ra := ra) (hf := hf) (hq := hq) (kn := kn) (th := th) (sm := sm) (Y := Y) (b0 := 0) (d0 := 0) hX ) pk_X4_fails qm_X4_84 0 8 rfl rfl wm_0 rfl rfl (Nat.le_of_ble_eq_true rfl) dX4_window_49 ⟨(Nat.le_of_ble_eq_true rfl), (Nat.le_of_ble_eq_true rfl)⟩ ⟨(Nat.le_of_ble_eq_true rfl), (Nat.le_of_ble_eq_true rfl)⟩ ?_
      refine r_w (w' := WM cy ba ra hf hq kn (nI 1) sm ++ Y) rfl ?_
      refine r_ifN_eq (a := 1) (tgt := 57) C (by first | omega | (simp [up2, *]; done) | (simp [up2, *]; omega) | (simp only [up2_eq]; omega) | (split <;> omega)) dX4_window_52 (by decide) (fun h52_3 => ?_) (fun h52_3 => ?_)
      · exact absurd h52_3 (by first | omega | (simp [up2, *]; done) | (simp [up2, *]; omega) | (simp only [up2_eq]; omega) | (split <;> omega))
      · skip
        refine r_iconst (v := (nI 0)) C dX4_window_55 (by decide) ?_
        exact r_iret C hr dX4_window_56 ⟨rfl, rfl⟩ (Nat.le_of_ble_eq_true rfl) (Nat.le_of_ble_eq_true rfl)
    · exact absurd h29_2 (by first | omega | (simp [up2, *]; done) | (simp [up2, *]; omega) | (simp only [up2_eq]; omega) | (split <;> omega))
  · exact absurd h6_1 (by first | omega | (simp [up2, *]; done) | (simp [up2, *]; omega) | (simp only [up2_eq]; omega) | (split <;> omega))
theorem dX4_window_9 : decode cX4_window 9 = .ok (.aload_n 0, 1) := dqo_42 (kb_X4_window_0 9 rfl)
theorem dX4_window_10 : decode cX4_window 10 = .ok (.iload_n 2, 1) := dqo_28 (kb_X4_window_0 10 rfl)
theorem dX4_window_11 : decode cX4_window 11 = .ok (.invokevirtual 55, 3) := dqo_182 0 55 (kb_X4_window_0 11 rfl) (kb_X4_window_0 12 rfl) (kb_X4_window_0 13 rfl)
theorem dX4_window_14 : decode cX4_window 14 = .ok (.ifCond .eq 7, 3) := dqo_153 0 7 (by decide) (kb_X4_window_0 14 rfl) (kb_X4_window_0 15 rfl) (kb_X4_window_0 16 rfl)
set_option maxRecDepth 100000 in
set_option maxHeartbeats 4000000 in
theorem D_window_noW {l : Launch} {D : va_G} {cy : Nat → ClassId} {X : (Nat → Prop) → State → Heap → Prop} {ba ra : Nat → Nat} {hf : Nat → Nat → Nat} {hq : Nat → Nat → Int32} {kn th : Int32} {sm : Int64} {Y : va_W} {f : Nat → Nat → Nat} {r : Nat → Nat → Int32} {k0 : Nat} {x : Int32} {y0 : Int32} {y1 : Int32} (hX : EnvM X cy) (hC : CInv f) (hM : MR f r hf hq) (hk4 : k0 < 4) (hno : noW f x) : Cd l D cy X yX4_window cX4_window 6 (some .int) (rmk 9 4 48 420) [.ref (ba 9), .int (nI k0), .int x, .int y0, .int y1] (WM cy ba ra hf hq kn th sm ++ Y) (some (.int (nI 0))) (WM cy ba ra hf hq kn (nI 1) sm ++ Y) := by
  have hG := hM.1
  have h5M := hM.h5M hC
  have h4M := hC.h4M
  have h9a := hM.h9a hC
  have h6a := hM.h6a
  have hU := hM.hU hC
  refine Cm.of [some (.ref (ba 9)), some (.int (nI k0)), some (.int x), some (.int y0), some (.int y1), none] pn_X4 rfl (Nat.le_of_ble_eq_true rfl) ?_
  intro p e s m args below meth c A C hE hr hnt hn
  refine r_iload_n C dX4_window_0 rfl ?_
  refine r_iconst (v := (nI 0)) C dX4_window_1 (by decide) ?_
  refine r_iconst (v := (nI 3)) C dX4_window_2 (by decide) ?_
  refine d_S (st := []) hX.1.stb C hE (D_isInN (ba := ba) (ra := ra) (hf := hf) (hq := hq) (kn := kn) (th := th) (sm := sm) (Y := Y) (a0 := k0) (b0 := 0) (d0 := 3) hX (by first | omega | (simp [up2, *]; done) | (simp [up2, *]; omega) | (simp only [up2_eq]; omega) | (split <;> omega)) (by first | omega | (simp [up2, *]; done) | (simp [up2, *]; omega) | (simp only [up2_eq]; omega) | (split <;> omega)) (by first | omega | (simp [up2, *]; done) | (simp [up2, *]; omega) | (simp only [up2_eq]; omega) | (split <;> omega))) pk_X4_isIn qm_X4_1 rfl rfl (Nat.le_of_ble_eq_true rfl) dX4_window_3 ⟨(Nat.le_of_ble_eq_true rfl), (Nat.le_of_ble_eq_true rfl)⟩ ⟨(Nat.le_of_ble_eq_true rfl), (Nat.le_of_ble_eq_true rfl)⟩ ?_
  refine r_w (w' := WM cy ba ra hf hq kn th sm ++ Y) rfl ?_
  refine r_ifN_eq (a := 1) (tgt := 17) C (by first | omega | (simp [up2, *]; done) | (simp [up2, *]; omega) | (simp only [up2_eq]; omega) | (split <;> omega)) dX4_window_6 (by decide) (fun h6_1 => ?_) (fun h6_1 => ?_)
  · exact absurd h6_1 (by first | omega | (simp [up2, *]; done) | (simp [up2, *]; omega) | (simp only [up2_eq]; omega) | (split <;> omega))
  · skip
    refine r_aload_n C dX4_window_9 rfl ?_
    refine r_iload_n C dX4_window_10 rfl ?_
    refine d_V (st := []) hX.1.stb C hE (D_isNoWhere1 (ba := ba) (ra := ra) (hf := hf) (hq := hq) (kn := kn) (th := th) (sm := sm) (Y := Y) (f := f) (x := (x)) hX h5M h4M hno) pk_X4_isNoWhere qm_X4_55 0 8 rfl rfl wm_0 rfl rfl (Nat.le_of_ble_eq_true rfl) dX4_window_11 ⟨(Nat.le_of_ble_eq_true rfl), (Nat.le_of_ble_eq_true rfl)⟩ ⟨(Nat.le_of_ble_eq_true rfl), (Nat.le_of_ble_eq_true rfl)⟩ ?_
    refine r_w (w' := WM cy ba ra hf hq kn th sm ++ Y) rfl ?_
    refine r_ifN_eq (a := 1) (tgt := 21) C (by first | omega | (simp [up2, *]; done) | (simp [up2, *]; omega) | (simp only [up2_eq]; omega) | (split <;> omega)) dX4_window_14 (by decide) (fun h14_2 => ?_) (fun h14_2 => ?_)
    · exact absurd h14_2 (by first | omega | (simp [up2, *]; done) | (simp [up2, *]; omega) | (simp only [up2_eq]; omega) | (split <;> omega))
    · skip
      refine r_iconst (v := (nI 1)) C dX4_window_17 (by decide) ?_
      refine r_goto (tgt := 22) C dX4_window_18 (by decide) ?_
      refine r_istore C dX4_window_22 (by decide) rfl ?_
      refine r_aload_n C dX4_window_24 rfl ?_
      refine r_iload C dX4_window_25 rfl ?_
      refine r_iload C dX4_window_27 rfl ?_
      refine r_ifN_ne (a := 1) (tgt := 47) C (by first | omega | (simp [up2, *]; done) | (simp [up2, *]; omega) | (simp only [up2_eq]; omega) | (split <;> omega)) dX4_window_29 (by decide) (fun h29_3 => ?_) (fun h29_3 => ?_)
      · skip
        refine r_iconst (v := (nI 0)) C dX4_window_47 (by decide) ?_
        refine r_iconst (v := (nI 0)) C dX4_window_48 (by decide) ?_
        refine d_V (st := []) hX.1.stb C hE (D_fails1 (ba := ba) (ra := ra) (hf := hf) (hq := hq) (kn := kn) (th := th) (sm := sm) (Y := Y) (b0 := 0) (d0 := 0) hX ) pk_X4_fails qm_X4_84 0 8 rfl rfl wm_0 rfl rfl (Nat.le_of_ble_eq_true rfl) dX4_window_49 ⟨(Nat.le_of_ble_eq_true rfl), (Nat.le_of_ble_eq_true rfl)⟩ ⟨(Nat.le_of_ble_eq_true rfl), (Nat.le_of_ble_eq_true rfl)⟩ ?_
        refine r_w (w' := WM cy ba ra hf hq kn (nI 1) sm ++ Y) rfl ?_
        refine r_ifN_eq (a := 1) (tgt := 57) C (by first | omega | (simp [up2, *]; done) | (simp [up2, *]; omega) | (simp only [up2_eq]; omega) | (split <;> omega)) dX4_window_52 (by decide) (fun h52_4 => ?_) (fun h52_4 => ?_)
        · exact absurd h52_4 (by first | omega | (simp [up2, *]; done) | (simp [up2, *]; omega) | (simp only [up2_eq]; omega) | (split <;> omega))
        · skip
          refine r_iconst (v := (nI 0)) C dX4_window_55 (by decide) ?_
          exact r_iret C hr dX4_window_56 ⟨rfl, rfl⟩ (Nat.le_of_ble_eq_true rfl) (Nat.le_of_ble_eq_true rfl)
      · exact absurd h29_3 (by first | omega | (simp [up2, *]; done) | (simp [up2, *]; omega) | (simp only [up2_eq]; omega) | (split <;> omega))
theorem dX4_window_21 : decode cX4_window 21 = .ok (.iconst 0, 1) := dqo_3 (kb_X4_window_0 21 rfl)
theorem dX4_window_32 : decode cX4_window 32 = .ok (.aload_n 0, 1) := dqo_42 (kb_X4_window_0 32 rfl)
theorem dX4_window_33 : decode cX4_window 33 = .ok (.iconst 4, 1) := dqo_7 (kb_X4_window_0 33 rfl)
theorem dX4_window_34 : decode cX4_window 34 = .ok (.iload_n 1, 1) := dqo_27 (kb_X4_window_0 34 rfl)
theorem dX4_window_35 : decode cX4_window 35 = .ok (.iadd, 1) := dqo_96 (kb_X4_window_0 35 rfl)
theorem dX4_window_36 : decode cX4_window 36 = .ok (.iload_n 2, 1) := dqo_28 (kb_X4_window_0 36 rfl)
theorem dX4_window_37 : decode cX4_window 37 = .ok (.invokevirtual 66, 3) := dqo_182 0 66 (kb_X4_window_0 37 rfl) (kb_X4_window_0 38 rfl) (kb_X4_window_0 39 rfl)
theorem dX4_window_40 : decode cX4_window 40 = .ok (.ifCond .eq 7, 3) := dqo_153 0 7 (by decide) (kb_X4_window_0 40 rfl) (kb_X4_window_0 41 rfl) (kb_X4_window_0 42 rfl)
theorem dX4_window_43 : decode cX4_window 43 = .ok (.iconst 1, 1) := dqo_4 (kb_X4_window_0 43 rfl)
theorem dX4_window_44 : decode cX4_window 44 = .ok (.goto 4, 3) := dqo_167 0 4 (by decide) (kb_X4_window_0 44 rfl) (kb_X4_window_0 45 rfl) (kb_X4_window_0 46 rfl)
set_option maxRecDepth 100000 in
set_option maxHeartbeats 4000000 in
theorem D_window_hold {l : Launch} {D : va_G} {cy : Nat → ClassId} {X : (Nat → Prop) → State → Heap → Prop} {ba ra : Nat → Nat} {hf : Nat → Nat → Nat} {hq : Nat → Nat → Int32} {kn th : Int32} {sm : Int64} {Y : va_W} {f : Nat → Nat → Nat} {r : Nat → Nat → Int32} {k0 : Nat} {w : Nat} {y0 : Int32} {y1 : Int32} (hX : EnvM X cy) (hC : CInv f) (hM : MR f r hf hq) (hk4 : k0 < 4) (hw : w < 8) (h5w : f 5 w = 1) (hh : hol f (4 + k0) w ≠ 0) : Cd l D cy X yX4_window cX4_window 6 (some .int) (rmk 9 4 48 420) [.ref (ba 9), .int (nI k0), .int (nI w), .int y0, .int y1] (WM cy ba ra hf hq kn th sm ++ Y) (some (.int (nI 0))) (WM cy ba ra hf hq kn (nI 2) sm ++ Y) := by
  have hG := hM.1
  have h5M := hM.h5M hC
  have h4M := hC.h4M
  have h9a := hM.h9a hC
  have h6a := hM.h6a
  have hU := hM.hU hC
  have qw := hM.wh hC hw h5w
  refine Cm.of [some (.ref (ba 9)), some (.int (nI k0)), some (.int (nI w)), some (.int y0), some (.int y1), none] pn_X4 rfl (Nat.le_of_ble_eq_true rfl) ?_
  intro p e s m args below meth c A C hE hr hnt hn
  refine r_iload_n C dX4_window_0 rfl ?_
  refine r_iconst (v := (nI 0)) C dX4_window_1 (by decide) ?_
  refine r_iconst (v := (nI 3)) C dX4_window_2 (by decide) ?_
  refine d_S (st := []) hX.1.stb C hE (D_isInN (ba := ba) (ra := ra) (hf := hf) (hq := hq) (kn := kn) (th := th) (sm := sm) (Y := Y) (a0 := k0) (b0 := 0) (d0 := 3) hX (by first | omega | (simp [up2, *]; done) | (simp [up2, *]; omega) | (simp only [up2_eq]; omega) | (split <;> omega)) (by first | omega | (simp [up2, *]; done) | (simp [up2, *]; omega) | (simp only [up2_eq]; omega) | (split <;> omega)) (by first | omega | (simp [up2, *]; done) | (simp [up2, *]; omega) | (simp only [up2_eq]; omega) | (split <;> omega))) pk_X4_isIn qm_X4_1 rfl rfl (Nat.le_of_ble_eq_true rfl) dX4_window_3 ⟨(Nat.le_of_ble_eq_true rfl), (Nat.le_of_ble_eq_true rfl)⟩ ⟨(Nat.le_of_ble_eq_true rfl), (Nat.le_of_ble_eq_true rfl)⟩ ?_
  refine r_w (w' := WM cy ba ra hf hq kn th sm ++ Y) rfl ?_
  refine r_ifN_eq (a := 1) (tgt := 17) C (by first | omega | (simp [up2, *]; done) | (simp [up2, *]; omega) | (simp only [up2_eq]; omega) | (split <;> omega)) dX4_window_6 (by decide) (fun h6_1 => ?_) (fun h6_1 => ?_)
  · exact absurd h6_1 (by first | omega | (simp [up2, *]; done) | (simp [up2, *]; omega) | (simp only [up2_eq]; omega) | (split <;> omega))
  · skip
    refine r_aload_n C dX4_window_9 rfl ?_
    refine r_iload_n C dX4_window_10 rfl ?_
    refine d_V (st := []) hX.1.stb C hE (D_isNoWhere0 (ba := ba) (ra := ra) (hf := hf) (hq := hq) (kn := kn) (th := th) (sm := sm) (Y := Y) (w := w) hX (by first | omega | (simp [up2, *]; done) | (simp [up2, *]; omega) | (simp only [up2_eq]; omega) | (split <;> omega)) (by first | omega | (simp [up2, *]; done) | (simp [up2, *]; omega) | (simp only [up2_eq]; omega) | (split <;> omega))) pk_X4_isNoWhere qm_X4_55 0 8 rfl rfl wm_0 rfl rfl (Nat.le_of_ble_eq_true rfl) dX4_window_11 ⟨(Nat.le_of_ble_eq_true rfl), (Nat.le_of_ble_eq_true rfl)⟩ ⟨(Nat.le_of_ble_eq_true rfl), (Nat.le_of_ble_eq_true rfl)⟩ ?_
    refine r_w (w' := WM cy ba ra hf hq kn th sm ++ Y) rfl ?_
    refine r_ifN_eq (a := 0) (tgt := 21) C (by first | omega | (simp [up2, *]; done) | (simp [up2, *]; omega) | (simp only [up2_eq]; omega) | (split <;> omega)) dX4_window_14 (by decide) (fun h14_2 => ?_) (fun h14_2 => ?_)
    · skip
      refine r_iconst (v := (nI 0)) C dX4_window_21 (by decide) ?_
      refine r_istore C dX4_window_22 (by decide) rfl ?_
      refine r_aload_n C dX4_window_24 rfl ?_
      refine r_iload C dX4_window_25 rfl ?_
      refine r_iload C dX4_window_27 rfl ?_
      refine r_ifN_ne (a := 0) (tgt := 47) C (by first | omega | (simp [up2, *]; done) | (simp [up2, *]; omega) | (simp only [up2_eq]; omega) | (split <;> omega)) dX4_window_29 (by decide) (fun h29_3 => ?_) (fun h29_3 => ?_)
      · exact absurd h29_3 (by first | omega | (simp [up2, *]; done) | (simp [up2, *]; omega) | (simp only [up2_eq]; omega) | (split <;> omega))
      · skip
        refine r_aload_n C dX4_window_32 rfl ?_
        refine r_iconst (v := (nI 4)) C dX4_window_33 (by decide) ?_
        refine r_iload_n C dX4_window_34 rfl ?_
        refine r_iaddN C dX4_window_35 ?_
        refine r_iload_n C dX4_window_36 rfl ?_
        refine d_V (st := [.int (nI 0), .ref (ba 9)]) hX.1.stb C hE (D_isHolder (ba := ba) (ra := ra) (hf := hf) (hq := hq) (kn := kn) (th := th) (sm := sm) (Y := Y) (f := f) (h0 := (4 + k0)) (w := w) hX hC (MG.same (fun _ => rfl) (fun _ => rfl) hG) (by first | omega | (simp [up2, *]; done) | (simp [up2, *]; omega) | (simp only [up2_eq]; omega) | (split <;> omega)) (by first | omega | (simp [up2, *]; done) | (simp [up2, *]; omega) | (simp only [up2_eq]; omega) | (split <;> omega)) (by first | omega | (simp [up2, *]; done) | (simp [up2, *]; omega) | (simp only [up2_eq]; omega) | (split <;> omega))) pk_X4_isHolder qm_X4_66 0 8 rfl rfl wm_0 rfl rfl (Nat.le_of_ble_eq_true rfl) dX4_window_37 ⟨(Nat.le_of_ble_eq_true rfl), (Nat.le_of_ble_eq_true rfl)⟩ ⟨(Nat.le_of_ble_eq_true rfl), (Nat.le_of_ble_eq_true rfl)⟩ ?_
        refine r_w (w' := WM cy ba ra hf hq kn th sm ++ Y) rfl ?_
        refine r_ifN_eq (a := (hol f (4 + k0) w)) (tgt := 47) C (Nat.lt_of_le_of_lt (hol_le _ _ _) (by decide)) dX4_window_40 (by decide) (fun h40_4 => ?_) (fun h40_4 => ?_)
        · exact absurd h40_4 hh
        · skip
          refine r_iconst (v := (nI 1)) C dX4_window_43 (by decide) ?_
          refine r_goto (tgt := 48) C dX4_window_44 (by decide) ?_
          refine r_iconst (v := (nI 0)) C dX4_window_48 (by decide) ?_
          refine d_V (st := []) hX.1.stb C hE (D_fails2 (ba := ba) (ra := ra) (hf := hf) (hq := hq) (kn := kn) (th := th) (sm := sm) (Y := Y) (d0 := 0) hX ) pk_X4_fails qm_X4_84 0 8 rfl rfl wm_0 rfl rfl (Nat.le_of_ble_eq_true rfl) dX4_window_49 ⟨(Nat.le_of_ble_eq_true rfl), (Nat.le_of_ble_eq_true rfl)⟩ ⟨(Nat.le_of_ble_eq_true rfl), (Nat.le_of_ble_eq_true rfl)⟩ ?_
          refine r_w (w' := WM cy ba ra hf hq kn (nI 2) sm ++ Y) rfl ?_
          refine r_ifN_eq (a := 1) (tgt := 57) C (by first | omega | (simp [up2, *]; done) | (simp [up2, *]; omega) | (simp only [up2_eq]; omega) | (split <;> omega)) dX4_window_52 (by decide) (fun h52_5 => ?_) (fun h52_5 => ?_)
          · exact absurd h52_5 (by first | omega | (simp [up2, *]; done) | (simp [up2, *]; omega) | (simp only [up2_eq]; omega) | (split <;> omega))
          · skip
            refine r_iconst (v := (nI 0)) C dX4_window_55 (by decide) ?_
            exact r_iret C hr dX4_window_56 ⟨rfl, rfl⟩ (Nat.le_of_ble_eq_true rfl) (Nat.le_of_ble_eq_true rfl)
    · exact absurd h14_2 (by first | omega | (simp [up2, *]; done) | (simp [up2, *]; omega) | (simp only [up2_eq]; omega) | (split <;> omega))
theorem dX4_window_57 : decode cX4_window 57 = .ok (.iload_n 3, 1) := dqo_29 (kb_X4_window_0 57 rfl)
theorem dX4_window_58 : decode cX4_window 58 = .ok (.ifCond .lt 19, 3) := dqo_155 0 19 (by decide) (kb_X4_window_0 58 rfl) (kb_X4_window_0 59 rfl) (kb_X4_window_0 60 rfl)
theorem dX4_window_61 : decode cX4_window 61 = .ok (.iload_n 3, 1) := dqo_29 (kb_X4_window_0 61 rfl)
theorem dX4_window_62 : decode cX4_window 62 = .ok (.iload 4, 2) := dqo_21 4 (kb_X4_window_0 62 rfl) (kb_X4_window_0 63 rfl)
theorem dX4_window_64 : decode cX4_window 64 = .ok (.if_icmp .gt 13, 3) := dqo_163 0 13 (by decide) (kb_X4_window_1 0 rfl) (kb_X4_window_1 1 rfl) (kb_X4_window_1 2 rfl)
theorem dX4_window_67 : decode cX4_window 67 = .ok (.iload 4, 2) := dqo_21 4 (kb_X4_window_1 3 rfl) (kb_X4_window_1 4 rfl)
theorem dX4_window_69 : decode cX4_window 69 = .ok (.aload_n 0, 1) := dqo_42 (kb_X4_window_1 5 rfl)
theorem dX4_window_70 : decode cX4_window 70 = .ok (.iload_n 2, 1) := dqo_28 (kb_X4_window_1 6 rfl)
theorem dX4_window_71 : decode cX4_window 71 = .ok (.invokevirtual 59, 3) := dqo_182 0 59 (kb_X4_window_1 7 rfl) (kb_X4_window_1 8 rfl) (kb_X4_window_1 9 rfl)
theorem dX4_window_74 : decode cX4_window 74 = .ok (.if_icmp .le 6, 3) := dqo_164 0 6 (by decide) (kb_X4_window_1 10 rfl) (kb_X4_window_1 11 rfl) (kb_X4_window_1 12 rfl)
theorem dX4_window_77 : decode cX4_window 77 = .ok (.bipush (-9), 2) := dqo_16 247 (by decide) (kb_X4_window_1 13 rfl) (kb_X4_window_1 14 rfl)
theorem dX4_window_79 : decode cX4_window 79 = .ok (.ireturn, 1) := dqo_172 (kb_X4_window_1 15 rfl)
set_option maxRecDepth 100000 in
set_option maxHeartbeats 4000000 in
theorem D_window_ref {l : Launch} {D : va_G} {cy : Nat → ClassId} {X : (Nat → Prop) → State → Heap → Prop} {ba ra : Nat → Nat} {hf : Nat → Nat → Nat} {hq : Nat → Nat → Int32} {kn th : Int32} {sm : Int64} {Y : va_W} {f : Nat → Nat → Nat} {r : Nat → Nat → Int32} {k0 : Nat} {w : Nat} {y0 : Int32} {y : Int32} (hX : EnvM X cy) (hC : CInv f) (hM : MR f r hf hq) (hk4 : k0 < 4) (hw : w < 8) (h5w : f 5 w = 1) (hh0 : hol f (4 + k0) w = 0) (hno : ¬ (0 ≤ y0 ∧ y0 ≤ y ∧ y ≤ nI (f 4 w))) : Cd l D cy X yX4_window cX4_window 6 (some .int) (rmk 9 4 48 420) [.ref (ba 9), .int (nI k0), .int (nI w), .int y0, .int y] (WM cy ba ra hf hq kn th sm ++ Y) (some (.int (nI 4294967287))) (WM cy ba ra hf hq kn (nI 0) sm ++ Y) := by
  have hG := hM.1
  have h5M := hM.h5M hC
  have h4M := hC.h4M
  have h9a := hM.h9a hC
  have h6a := hM.h6a
  have hU := hM.hU hC
  have qw := hM.wh hC hw h5w
  refine Cm.of [some (.ref (ba 9)), some (.int (nI k0)), some (.int (nI w)), some (.int y0), some (.int y), none] pn_X4 rfl (Nat.le_of_ble_eq_true rfl) ?_
  intro p e s m args below meth c A C hE hr hnt hn
  refine r_iload_n C dX4_window_0 rfl ?_
  refine r_iconst (v := (nI 0)) C dX4_window_1 (by decide) ?_
  refine r_iconst (v := (nI 3)) C dX4_window_2 (by decide) ?_
  refine d_S (st := []) hX.1.stb C hE (D_isInN (ba := ba) (ra := ra) (hf := hf) (hq := hq) (kn := kn) (th := th) (sm := sm) (Y := Y) (a0 := k0) (b0 := 0) (d0 := 3) hX (by first | omega | (simp [up2, *]; done) | (simp [up2, *]; omega) | (simp only [up2_eq]; omega) | (split <;> omega)) (by first | omega | (simp [up2, *]; done) | (simp [up2, *]; omega) | (simp only [up2_eq]; omega) | (split <;> omega)) (by first | omega | (simp [up2, *]; done) | (simp [up2, *]; omega) | (simp only [up2_eq]; omega) | (split <;> omega))) pk_X4_isIn qm_X4_1 rfl rfl (Nat.le_of_ble_eq_true rfl) dX4_window_3 ⟨(Nat.le_of_ble_eq_true rfl), (Nat.le_of_ble_eq_true rfl)⟩ ⟨(Nat.le_of_ble_eq_true rfl), (Nat.le_of_ble_eq_true rfl)⟩ ?_
  refine r_w (w' := WM cy ba ra hf hq kn th sm ++ Y) rfl ?_
  refine r_ifN_eq (a := 1) (tgt := 17) C (by first | omega | (simp [up2, *]; done) | (simp [up2, *]; omega) | (simp only [up2_eq]; omega) | (split <;> omega)) dX4_window_6 (by decide) (fun h6_1 => ?_) (fun h6_1 => ?_)
  · exact absurd h6_1 (by first | omega | (simp [up2, *]; done) | (simp [up2, *]; omega) | (simp only [up2_eq]; omega) | (split <;> omega))
  · skip
    refine r_aload_n C dX4_window_9 rfl ?_
    refine r_iload_n C dX4_window_10 rfl ?_
    refine d_V (st := []) hX.1.stb C hE (D_isNoWhere0 (ba := ba) (ra := ra) (hf := hf) (hq := hq) (kn := kn) (th := th) (sm := sm) (Y := Y) (w := w) hX (by first | omega | (simp [up2, *]; done) | (simp [up2, *]; omega) | (simp only [up2_eq]; omega) | (split <;> omega)) (by first | omega | (simp [up2, *]; done) | (simp [up2, *]; omega) | (simp only [up2_eq]; omega) | (split <;> omega))) pk_X4_isNoWhere qm_X4_55 0 8 rfl rfl wm_0 rfl rfl (Nat.le_of_ble_eq_true rfl) dX4_window_11 ⟨(Nat.le_of_ble_eq_true rfl), (Nat.le_of_ble_eq_true rfl)⟩ ⟨(Nat.le_of_ble_eq_true rfl), (Nat.le_of_ble_eq_true rfl)⟩ ?_
    refine r_w (w' := WM cy ba ra hf hq kn th sm ++ Y) rfl ?_
    refine r_ifN_eq (a := 0) (tgt := 21) C (by first | omega | (simp [up2, *]; done) | (simp [up2, *]; omega) | (simp only [up2_eq]; omega) | (split <;> omega)) dX4_window_14 (by decide) (fun h14_2 => ?_) (fun h14_2 => ?_)
    · skip
      refine r_iconst (v := (nI 0)) C dX4_window_21 (by decide) ?_
      refine r_istore C dX4_window_22 (by decide) rfl ?_
      refine r_aload_n C dX4_window_24 rfl ?_
      refine r_iload C dX4_window_25 rfl ?_
      refine r_iload C dX4_window_27 rfl ?_
      refine r_ifN_ne (a := 0) (tgt := 47) C (by first | omega | (simp [up2, *]; done) | (simp [up2, *]; omega) | (simp only [up2_eq]; omega) | (split <;> omega)) dX4_window_29 (by decide) (fun h29_3 => ?_) (fun h29_3 => ?_)
      · exact absurd h29_3 (by first | omega | (simp [up2, *]; done) | (simp [up2, *]; omega) | (simp only [up2_eq]; omega) | (split <;> omega))
      · skip
        refine r_aload_n C dX4_window_32 rfl ?_
        refine r_iconst (v := (nI 4)) C dX4_window_33 (by decide) ?_
        refine r_iload_n C dX4_window_34 rfl ?_
        refine r_iaddN C dX4_window_35 ?_
        refine r_iload_n C dX4_window_36 rfl ?_
        refine d_V (st := [.int (nI 0), .ref (ba 9)]) hX.1.stb C hE (D_isHolder (ba := ba) (ra := ra) (hf := hf) (hq := hq) (kn := kn) (th := th) (sm := sm) (Y := Y) (f := f) (h0 := (4 + k0)) (w := w) hX hC (MG.same (fun _ => rfl) (fun _ => rfl) hG) (by first | omega | (simp [up2, *]; done) | (simp [up2, *]; omega) | (simp only [up2_eq]; omega) | (split <;> omega)) (by first | omega | (simp [up2, *]; done) | (simp [up2, *]; omega) | (simp only [up2_eq]; omega) | (split <;> omega)) (by first | omega | (simp [up2, *]; done) | (simp [up2, *]; omega) | (simp only [up2_eq]; omega) | (split <;> omega))) pk_X4_isHolder qm_X4_66 0 8 rfl rfl wm_0 rfl rfl (Nat.le_of_ble_eq_true rfl) dX4_window_37 ⟨(Nat.le_of_ble_eq_true rfl), (Nat.le_of_ble_eq_true rfl)⟩ ⟨(Nat.le_of_ble_eq_true rfl), (Nat.le_of_ble_eq_true rfl)⟩ ?_
        refine r_w (w' := WM cy ba ra hf hq kn th sm ++ Y) rfl ?_
        refine r_ifN_eq (a := (hol f (4 + k0) w)) (tgt := 47) C (Nat.lt_of_le_of_lt (hol_le _ _ _) (by decide)) dX4_window_40 (by decide) (fun h40_4 => ?_) (fun h40_4 => ?_)
        · skip
          refine r_iconst (v := (nI 0)) C dX4_window_47 (by decide) ?_
          refine r_iconst (v := (nI 0)) C dX4_window_48 (by decide) ?_
          refine d_V (st := []) hX.1.stb C hE (D_fails0 (ba := ba) (ra := ra) (hf := hf) (hq := hq) (kn := kn) (th := th) (sm := sm) (Y := Y)  hX ) pk_X4_fails qm_X4_84 0 8 rfl rfl wm_0 rfl rfl (Nat.le_of_ble_eq_true rfl) dX4_window_49 ⟨(Nat.le_of_ble_eq_true rfl), (Nat.le_of_ble_eq_true rfl)⟩ ⟨(Nat.le_of_ble_eq_true rfl), (Nat.le_of_ble_eq_true rfl)⟩ ?_
          refine r_w (w' := WM cy ba ra hf hq kn (nI 0) sm ++ Y) rfl ?_
          refine r_ifN_eq (a := 0) (tgt := 57) C (by first | omega | (simp [up2, *]; done) | (simp [up2, *]; omega) | (simp only [up2_eq]; omega) | (split <;> omega)) dX4_window_52 (by decide) (fun h52_5 => ?_) (fun h52_5 => ?_)
          · skip
            refine r_iload_n C dX4_window_57 rfl ?_
            refine r_if_lt (tgt := 77) C dX4_window_58 (by decide) (fun h58_6 => ?_) (fun h58_6 => ?_)
            · first
              | exfalso; first | omega | contradiction
              | skip
                refine r_bipush (v := (nI 4294967287)) C dX4_window_77 (by decide) ?_
                exact r_iret C hr dX4_window_79 ⟨rfl, rfl⟩ (Nat.le_of_ble_eq_true rfl) (Nat.le_of_ble_eq_true rfl)
            · first
              | exfalso; first | omega | contradiction
              | skip
                refine r_iload_n C dX4_window_61 rfl ?_
                refine r_iload C dX4_window_62 rfl ?_
                refine r_ic_gt (tgt := 77) C dX4_window_64 (by decide) (fun h64_7 => ?_) (fun h64_7 => ?_)
                · first
                  | exfalso; first | omega | contradiction
                  | skip
                    refine r_bipush (v := (nI 4294967287)) C dX4_window_77 (by decide) ?_
                    exact r_iret C hr dX4_window_79 ⟨rfl, rfl⟩ (Nat.le_of_ble_eq_true rfl) (Nat.le_of_ble_eq_true rfl)
                · first
                  | exfalso; first | omega | contradiction
                  | skip
                    refine r_iload C dX4_window_67 rfl ?_
                    refine r_aload_n C dX4_window_69 rfl ?_
                    refine r_iload_n C dX4_window_70 rfl ?_
                    refine d_V (st := [.int y]) hX.1.stb C hE (D_sizeOf (ba := ba) (ra := ra) (hf := hf) (hq := hq) (kn := kn) (th := (nI 0)) (sm := sm) (Y := Y) (w := w) hX (by first | omega | (simp [up2, *]; done) | (simp [up2, *]; omega) | (simp only [up2_eq]; omega) | (split <;> omega))) pk_X4_sizeOf qm_X4_59 0 8 rfl rfl wm_0 rfl rfl (Nat.le_of_ble_eq_true rfl) dX4_window_71 ⟨(Nat.le_of_ble_eq_true rfl), (Nat.le_of_ble_eq_true rfl)⟩ ⟨(Nat.le_of_ble_eq_true rfl), (Nat.le_of_ble_eq_true rfl)⟩ ?_
                    refine r_w (w' := WM cy ba ra hf hq kn (nI 0) sm ++ Y) rfl ?_
                    refine r_ic_le (tgt := 80) C dX4_window_74 (by decide) (fun h74_8 => ?_) (fun h74_8 => ?_)
                    · exact absurd ⟨Int32.not_lt.mp (by assumption), Int32.not_lt.mp (by assumption), by rw [← qw.1]; exact h74_8⟩ hno
                    · skip
                      refine r_bipush (v := (nI 4294967287)) C dX4_window_77 (by decide) ?_
                      exact r_iret C hr dX4_window_79 ⟨rfl, rfl⟩ (Nat.le_of_ble_eq_true rfl) (Nat.le_of_ble_eq_true rfl)
          · exact absurd h52_5 (by first | omega | (simp [up2, *]; done) | (simp [up2, *]; omega) | (simp only [up2_eq]; omega) | (split <;> omega))
        · exact absurd hh0 h40_4
    · exact absurd h14_2 (by first | omega | (simp [up2, *]; done) | (simp [up2, *]; omega) | (simp only [up2_eq]; omega) | (split <;> omega))
theorem dX4_window_80 : decode cX4_window 80 = .ok (.aload_n 0, 1) := dqo_42 (kb_X4_window_1 16 rfl)
theorem dX4_window_81 : decode cX4_window 81 = .ok (.getfield 18, 3) := dqo_180 0 18 (kb_X4_window_1 17 rfl) (kb_X4_window_1 18 rfl) (kb_X4_window_1 19 rfl)
theorem dX4_window_84 : decode cX4_window 84 = .ok (.iload_n 1, 1) := dqo_27 (kb_X4_window_1 20 rfl)
theorem dX4_window_85 : decode cX4_window 85 = .ok (.baload, 1) := dqo_51 (kb_X4_window_1 21 rfl)
theorem dX4_window_86 : decode cX4_window 86 = .ok (.ifCond .eq 8, 3) := dqo_153 0 8 (by decide) (kb_X4_window_1 22 rfl) (kb_X4_window_1 23 rfl) (kb_X4_window_1 24 rfl)
theorem dX4_window_94 : decode cX4_window 94 = .ok (.aload_n 0, 1) := dqo_42 (kb_X4_window_1 30 rfl)
theorem dX4_window_95 : decode cX4_window 95 = .ok (.getfield 18, 3) := dqo_180 0 18 (kb_X4_window_1 31 rfl) (kb_X4_window_1 32 rfl) (kb_X4_window_1 33 rfl)
theorem dX4_window_98 : decode cX4_window 98 = .ok (.iload_n 1, 1) := dqo_27 (kb_X4_window_1 34 rfl)
theorem dX4_window_99 : decode cX4_window 99 = .ok (.iconst 1, 1) := dqo_4 (kb_X4_window_1 35 rfl)
theorem dX4_window_100 : decode cX4_window 100 = .ok (.bastore, 1) := dqo_84 (kb_X4_window_1 36 rfl)
theorem dX4_window_101 : decode cX4_window 101 = .ok (.aload_n 0, 1) := dqo_42 (kb_X4_window_1 37 rfl)
theorem dX4_window_102 : decode cX4_window 102 = .ok (.getfield 22, 3) := dqo_180 0 22 (kb_X4_window_1 38 rfl) (kb_X4_window_1 39 rfl) (kb_X4_window_1 40 rfl)
theorem dX4_window_105 : decode cX4_window 105 = .ok (.iload_n 1, 1) := dqo_27 (kb_X4_window_1 41 rfl)
theorem dX4_window_106 : decode cX4_window 106 = .ok (.iload_n 2, 1) := dqo_28 (kb_X4_window_1 42 rfl)
theorem dX4_window_107 : decode cX4_window 107 = .ok (.iastore, 1) := dqo_79 (kb_X4_window_1 43 rfl)
theorem dX4_window_108 : decode cX4_window 108 = .ok (.aload_n 0, 1) := dqo_42 (kb_X4_window_1 44 rfl)
theorem dX4_window_109 : decode cX4_window 109 = .ok (.getfield 26, 3) := dqo_180 0 26 (kb_X4_window_1 45 rfl) (kb_X4_window_1 46 rfl) (kb_X4_window_1 47 rfl)
theorem dX4_window_112 : decode cX4_window 112 = .ok (.iload_n 1, 1) := dqo_27 (kb_X4_window_1 48 rfl)
theorem dX4_window_113 : decode cX4_window 113 = .ok (.iload_n 3, 1) := dqo_29 (kb_X4_window_1 49 rfl)
theorem dX4_window_114 : decode cX4_window 114 = .ok (.iastore, 1) := dqo_79 (kb_X4_window_1 50 rfl)
theorem dX4_window_115 : decode cX4_window 115 = .ok (.aload_n 0, 1) := dqo_42 (kb_X4_window_1 51 rfl)
theorem dX4_window_116 : decode cX4_window 116 = .ok (.getfield 29, 3) := dqo_180 0 29 (kb_X4_window_1 52 rfl) (kb_X4_window_1 53 rfl) (kb_X4_window_1 54 rfl)
theorem dX4_window_119 : decode cX4_window 119 = .ok (.iload_n 1, 1) := dqo_27 (kb_X4_window_1 55 rfl)
theorem dX4_window_120 : decode cX4_window 120 = .ok (.iload 4, 2) := dqo_21 4 (kb_X4_window_1 56 rfl) (kb_X4_window_1 57 rfl)
theorem dX4_window_122 : decode cX4_window 122 = .ok (.iload_n 3, 1) := dqo_29 (kb_X4_window_1 58 rfl)
theorem dX4_window_123 : decode cX4_window 123 = .ok (.isub, 1) := dqo_100 (kb_X4_window_1 59 rfl)
theorem dX4_window_124 : decode cX4_window 124 = .ok (.iastore, 1) := dqo_79 (kb_X4_window_1 60 rfl)
theorem dX4_window_125 : decode cX4_window 125 = .ok (.iload 4, 2) := dqo_21 4 (kb_X4_window_1 61 rfl) (kb_X4_window_1 62 rfl)
theorem dX4_window_127 : decode cX4_window 127 = .ok (.iload_n 3, 1) := dqo_29 (kb_X4_window_1 63 rfl)
theorem dX4_window_128 : decode cX4_window 128 = .ok (.isub, 1) := dqo_100 (kb_X4_window_2 0 rfl)
theorem dX4_window_129 : decode cX4_window 129 = .ok (.ireturn, 1) := dqo_172 (kb_X4_window_2 1 rfl)
set_option maxRecDepth 100000 in
set_option maxHeartbeats 4000000 in
theorem D_window_okn {l : Launch} {D : va_G} {cy : Nat → ClassId} {X : (Nat → Prop) → State → Heap → Prop} {ba ra : Nat → Nat} {hf : Nat → Nat → Nat} {hq : Nat → Nat → Int32} {kn th : Int32} {sm : Int64} {Y : va_W} {f : Nat → Nat → Nat} {r : Nat → Nat → Int32} {k0 : Nat} {w : Nat} {p0 : Nat} {q0 : Nat} (hX : EnvM X cy) (hC : CInv f) (hM : MR f r hf hq) (hk4 : k0 < 4) (hw : w < 8) (h5w : f 5 w = 1) (hh0 : hol f (4 + k0) w = 0) (hp : p0 ≤ q0) (hq0 : q0 ≤ f 4 w) (hz : f 5 (4 + k0) = 0) : Cd l D cy X yX4_window cX4_window 6 (some .int) (rmk 9 4 48 420) [.ref (ba 9), .int (nI k0), .int (nI w), .int (nI p0), .int (nI q0)] (WM cy ba ra hf hq kn th sm ++ Y) (some (.int (nI (q0 - p0)))) (WM cy ba ra (up2 (up2 (up2 (up2 hf 5 (4 + k0) 1) 2 (4 + k0) w) 3 (4 + k0) p0) 4 (4 + k0) (q0 - p0)) hq kn (nI 0) sm ++ Y) := by
  have hG := hM.1
  have h5M := hM.h5M hC
  have h4M := hC.h4M
  have h9a := hM.h9a hC
  have h6a := hM.h6a
  have hU := hM.hU hC
  have qw := hM.wh hC hw h5w
  have q7 := h5M (4 + k0) (by omega) (by omega)
  refine Cm.of [some (.ref (ba 9)), some (.int (nI k0)), some (.int (nI w)), some (.int (nI p0)), some (.int (nI q0)), none] pn_X4 rfl (Nat.le_of_ble_eq_true rfl) ?_
  intro p e s m args below meth c A C hE hr hnt hn
  refine r_iload_n C dX4_window_0 rfl ?_
  refine r_iconst (v := (nI 0)) C dX4_window_1 (by decide) ?_
  refine r_iconst (v := (nI 3)) C dX4_window_2 (by decide) ?_
  refine d_S (st := []) hX.1.stb C hE (D_isInN (ba := ba) (ra := ra) (hf := hf) (hq := hq) (kn := kn) (th := th) (sm := sm) (Y := Y) (a0 := k0) (b0 := 0) (d0 := 3) hX (by first | omega | (simp [up2, *]; done) | (simp [up2, *]; omega) | (simp only [up2_eq]; omega) | (split <;> omega)) (by first | omega | (simp [up2, *]; done) | (simp [up2, *]; omega) | (simp only [up2_eq]; omega) | (split <;> omega)) (by first | omega | (simp [up2, *]; done) | (simp [up2, *]; omega) | (simp only [up2_eq]; omega) | (split <;> omega))) pk_X4_isIn qm_X4_1 rfl rfl (Nat.le_of_ble_eq_true rfl) dX4_window_3 ⟨(Nat.le_of_ble_eq_true rfl), (Nat.le_of_ble_eq_true rfl)⟩ ⟨(Nat.le_of_ble_eq_true rfl), (Nat.le_of_ble_eq_true rfl)⟩ ?_
  refine r_w (w' := WM cy ba ra hf hq kn th sm ++ Y) rfl ?_
  refine r_ifN_eq (a := 1) (tgt := 17) C (by first | omega | (simp [up2, *]; done) | (simp [up2, *]; omega) | (simp only [up2_eq]; omega) | (split <;> omega)) dX4_window_6 (by decide) (fun h6_1 => ?_) (fun h6_1 => ?_)
  · exact absurd h6_1 (by first | omega | (simp [up2, *]; done) | (simp [up2, *]; omega) | (simp only [up2_eq]; omega) | (split <;> omega))
  · skip
    refine r_aload_n C dX4_window_9 rfl ?_
    refine r_iload_n C dX4_window_10 rfl ?_
    refine d_V (st := []) hX.1.stb C hE (D_isNoWhere0 (ba := ba) (ra := ra) (hf := hf) (hq := hq) (kn := kn) (th := th) (sm := sm) (Y := Y) (w := w) hX (by first | omega | (simp [up2, *]; done) | (simp [up2, *]; omega) | (simp only [up2_eq]; omega) | (split <;> omega)) (by first | omega | (simp [up2, *]; done) | (simp [up2, *]; omega) | (simp only [up2_eq]; omega) | (split <;> omega))) pk_X4_isNoWhere qm_X4_55 0 8 rfl rfl wm_0 rfl rfl (Nat.le_of_ble_eq_true rfl) dX4_window_11 ⟨(Nat.le_of_ble_eq_true rfl), (Nat.le_of_ble_eq_true rfl)⟩ ⟨(Nat.le_of_ble_eq_true rfl), (Nat.le_of_ble_eq_true rfl)⟩ ?_
    refine r_w (w' := WM cy ba ra hf hq kn th sm ++ Y) rfl ?_
    refine r_ifN_eq (a := 0) (tgt := 21) C (by first | omega | (simp [up2, *]; done) | (simp [up2, *]; omega) | (simp only [up2_eq]; omega) | (split <;> omega)) dX4_window_14 (by decide) (fun h14_2 => ?_) (fun h14_2 => ?_)
    · skip
      refine r_iconst (v := (nI 0)) C dX4_window_21 (by decide) ?_
      refine r_istore C dX4_window_22 (by decide) rfl ?_
      refine r_aload_n C dX4_window_24 rfl ?_
      refine r_iload C dX4_window_25 rfl ?_
      refine r_iload C dX4_window_27 rfl ?_
      refine r_ifN_ne (a := 0) (tgt := 47) C (by first | omega | (simp [up2, *]; done) | (simp [up2, *]; omega) | (simp only [up2_eq]; omega) | (split <;> omega)) dX4_window_29 (by decide) (fun h29_3 => ?_) (fun h29_3 => ?_)
      · exact absurd h29_3 (by first | omega | (simp [up2, *]; done) | (simp [up2, *]; omega) | (simp only [up2_eq]; omega) | (split <;> omega))
      · skip
        refine r_aload_n C dX4_window_32 rfl ?_
        refine r_iconst (v := (nI 4)) C dX4_window_33 (by decide) ?_
        refine r_iload_n C dX4_window_34 rfl ?_
        refine r_iaddN C dX4_window_35 ?_
        refine r_iload_n C dX4_window_36 rfl ?_
        refine d_V (st := [.int (nI 0), .ref (ba 9)]) hX.1.stb C hE (D_isHolder (ba := ba) (ra := ra) (hf := hf) (hq := hq) (kn := kn) (th := th) (sm := sm) (Y := Y) (f := f) (h0 := (4 + k0)) (w := w) hX hC (MG.same (fun _ => rfl) (fun _ => rfl) hG) (by first | omega | (simp [up2, *]; done) | (simp [up2, *]; omega) | (simp only [up2_eq]; omega) | (split <;> omega)) (by first | omega | (simp [up2, *]; done) | (simp [up2, *]; omega) | (simp only [up2_eq]; omega) | (split <;> omega)) (by first | omega | (simp [up2, *]; done) | (simp [up2, *]; omega) | (simp only [up2_eq]; omega) | (split <;> omega))) pk_X4_isHolder qm_X4_66 0 8 rfl rfl wm_0 rfl rfl (Nat.le_of_ble_eq_true rfl) dX4_window_37 ⟨(Nat.le_of_ble_eq_true rfl), (Nat.le_of_ble_eq_true rfl)⟩ ⟨(Nat.le_of_ble_eq_true rfl), (Nat.le_of_ble_eq_true rfl)⟩ ?_
        refine r_w (w' := WM cy ba ra hf hq kn th sm ++ Y) rfl ?_
        refine r_ifN_eq (a := (hol f (4 + k0) w)) (tgt := 47) C (Nat.lt_of_le_of_lt (hol_le _ _ _) (by decide)) dX4_window_40 (by decide) (fun h40_4 => ?_) (fun h40_4 => ?_)
        · skip
          refine r_iconst (v := (nI 0)) C dX4_window_47 (by decide) ?_
          refine r_iconst (v := (nI 0)) C dX4_window_48 (by decide) ?_
          refine d_V (st := []) hX.1.stb C hE (D_fails0 (ba := ba) (ra := ra) (hf := hf) (hq := hq) (kn := kn) (th := th) (sm := sm) (Y := Y)  hX ) pk_X4_fails qm_X4_84 0 8 rfl rfl wm_0 rfl rfl (Nat.le_of_ble_eq_true rfl) dX4_window_49 ⟨(Nat.le_of_ble_eq_true rfl), (Nat.le_of_ble_eq_true rfl)⟩ ⟨(Nat.le_of_ble_eq_true rfl), (Nat.le_of_ble_eq_true rfl)⟩ ?_
          refine r_w (w' := WM cy ba ra hf hq kn (nI 0) sm ++ Y) rfl ?_
          refine r_ifN_eq (a := 0) (tgt := 57) C (by first | omega | (simp [up2, *]; done) | (simp [up2, *]; omega) | (simp only [up2_eq]; omega) | (split <;> omega)) dX4_window_52 (by decide) (fun h52_5 => ?_) (fun h52_5 => ?_)
          · skip
            refine r_iload_n C dX4_window_57 rfl ?_
            refine r_ifN_lt (a := p0) (tgt := 77) C (by first | omega | (simp [up2, *]; done) | (simp [up2, *]; omega) | (simp only [up2_eq]; omega) | (split <;> omega)) dX4_window_58 (by decide) (fun h58_6 => ?_) (fun h58_6 => ?_)
            · exact h58_6.elim
            · skip
              refine r_iload_n C dX4_window_61 rfl ?_
              refine r_iload C dX4_window_62 rfl ?_
              refine r_icN_gt (a := p0) (b := q0) (tgt := 77) C (by first | omega | (simp [up2, *]; done) | (simp [up2, *]; omega) | (simp only [up2_eq]; omega) | (split <;> omega)) (by first | omega | (simp [up2, *]; done) | (simp [up2, *]; omega) | (simp only [up2_eq]; omega) | (split <;> omega)) dX4_window_64 (by decide) (fun h64_7 => ?_) (fun h64_7 => ?_)
              · exact absurd h64_7 (by first | omega | (simp [up2, *]; done) | (simp [up2, *]; omega) | (simp only [up2_eq]; omega) | (split <;> omega))
              · skip
                refine r_iload C dX4_window_67 rfl ?_
                refine r_aload_n C dX4_window_69 rfl ?_
                refine r_iload_n C dX4_window_70 rfl ?_
                refine d_V (st := [.int (nI q0)]) hX.1.stb C hE (D_sizeOf (ba := ba) (ra := ra) (hf := hf) (hq := hq) (kn := kn) (th := (nI 0)) (sm := sm) (Y := Y) (w := w) hX (by first | omega | (simp [up2, *]; done) | (simp [up2, *]; omega) | (simp only [up2_eq]; omega) | (split <;> omega))) pk_X4_sizeOf qm_X4_59 0 8 rfl rfl wm_0 rfl rfl (Nat.le_of_ble_eq_true rfl) dX4_window_71 ⟨(Nat.le_of_ble_eq_true rfl), (Nat.le_of_ble_eq_true rfl)⟩ ⟨(Nat.le_of_ble_eq_true rfl), (Nat.le_of_ble_eq_true rfl)⟩ ?_
                refine r_w (w' := WM cy ba ra hf hq kn (nI 0) sm ++ Y) rfl ?_
                refine r_icN_le (a := q0) (b := (hf 4 w)) (tgt := 80) C (by first | omega | (simp [up2, *]; done) | (simp [up2, *]; omega) | (simp only [up2_eq]; omega) | (split <;> omega)) (by first | omega | (simp [up2, *]; done) | (simp [up2, *]; omega) | (simp only [up2_eq]; omega) | (split <;> omega)) dX4_window_74 (by decide) (fun h74_8 => ?_) (fun h74_8 => ?_)
                · skip
                  refine r_aload_n C dX4_window_80 rfl ?_
                  refine m_get (v := .ref (ba 1)) C 1 (by decide) qf_X4_18 rfl rfl dX4_window_81 ?_
                  refine r_iload_n C dX4_window_84 rfl ?_
                  refine m_zld (i := k0) (z := 4 + k0) (v := hf 5 (4 + k0)) C 0 (by decide) (by decide) (show k0 < 4 from (by first | omega | (simp [up2, *]; done) | (simp [up2, *]; omega) | (simp only [up2_eq]; omega) | (split <;> omega))) (show 4 + k0 = 4 + k0 from (by omega)) rfl dX4_window_85 ?_
                  refine r_ifN_eq (a := (hf 5 (4 + k0))) (tgt := 94) C (by first | omega | (simp [up2, *]; done) | (simp [up2, *]; omega) | (simp only [up2_eq]; omega) | (split <;> omega)) dX4_window_86 (by decide) (fun h86_9 => ?_) (fun h86_9 => ?_)
                  · skip
                    refine r_aload_n C dX4_window_94 rfl ?_
                    refine m_get (v := .ref (ba 1)) C 1 (by decide) qf_X4_18 rfl rfl dX4_window_95 ?_
                    refine r_iload_n C dX4_window_98 rfl ?_
                    refine r_iconst (v := (nI 1)) C dX4_window_99 (by decide) ?_
                    refine m_zst (i := k0) (z := 4 + k0) (v := 1) C 0 (by decide) (by decide) (show k0 < 4 from (by first | omega | (simp [up2, *]; done) | (simp [up2, *]; omega) | (simp only [up2_eq]; omega) | (split <;> omega))) (show 4 + k0 = 4 + k0 from (by omega)) (by first | omega | (simp [up2, *]; done) | (simp [up2, *]; omega) | (simp only [up2_eq]; omega) | (split <;> omega)) dX4_window_100 ?_
                    refine r_w (w' := WM cy ba ra (up2 hf 5 (4 + k0) 1) hq kn (nI 0) sm ++ Y) rfl ?_
                    refine r_aload_n C dX4_window_101 rfl ?_
                    refine m_get (v := .ref (ba 2)) C 2 (by decide) qf_X4_22 rfl rfl dX4_window_102 ?_
                    refine r_iload_n C dX4_window_105 rfl ?_
                    refine r_iload_n C dX4_window_106 rfl ?_
                    refine m_ast (i := k0) (z := 4 + k0) (v := w) C 1 (by decide) (by decide) (show k0 < 4 from (by first | omega | (simp [up2, *]; done) | (simp [up2, *]; omega) | (simp only [up2_eq]; omega) | (split <;> omega))) (show 4 + k0 = 4 + k0 from (by omega)) dX4_window_107 ?_
                    refine r_w (w' := WM cy ba ra (up2 (up2 hf 5 (4 + k0) 1) 2 (4 + k0) w) hq kn (nI 0) sm ++ Y) rfl ?_
                    refine r_aload_n C dX4_window_108 rfl ?_
                    refine m_get (v := .ref (ba 3)) C 3 (by decide) qf_X4_26 rfl rfl dX4_window_109 ?_
                    refine r_iload_n C dX4_window_112 rfl ?_
                    refine r_iload_n C dX4_window_113 rfl ?_
                    refine m_ast (i := k0) (z := 4 + k0) (v := p0) C 2 (by decide) (by decide) (show k0 < 4 from (by first | omega | (simp [up2, *]; done) | (simp [up2, *]; omega) | (simp only [up2_eq]; omega) | (split <;> omega))) (show 4 + k0 = 4 + k0 from (by omega)) dX4_window_114 ?_
                    refine r_w (w' := WM cy ba ra (up2 (up2 (up2 hf 5 (4 + k0) 1) 2 (4 + k0) w) 3 (4 + k0) p0) hq kn (nI 0) sm ++ Y) rfl ?_
                    refine r_aload_n C dX4_window_115 rfl ?_
                    refine m_get (v := .ref (ba 4)) C 4 (by decide) qf_X4_29 rfl rfl dX4_window_116 ?_
                    refine r_iload_n C dX4_window_119 rfl ?_
                    refine r_iload C dX4_window_120 rfl ?_
                    refine r_iload_n C dX4_window_122 rfl ?_
                    refine r_isubN C dX4_window_123 (by first | omega | (simp [up2, *]; done) | (simp [up2, *]; omega) | (simp only [up2_eq]; omega) | (split <;> omega)) ?_
                    refine m_ast (i := k0) (z := 4 + k0) (v := q0 - p0) C 3 (by decide) (by decide) (show k0 < 4 from (by first | omega | (simp [up2, *]; done) | (simp [up2, *]; omega) | (simp only [up2_eq]; omega) | (split <;> omega))) (show 4 + k0 = 4 + k0 from (by omega)) dX4_window_124 ?_
                    refine r_w (w' := WM cy ba ra (up2 (up2 (up2 (up2 hf 5 (4 + k0) 1) 2 (4 + k0) w) 3 (4 + k0) p0) 4 (4 + k0) (q0 - p0)) hq kn (nI 0) sm ++ Y) rfl ?_
                    refine r_iload C dX4_window_125 rfl ?_
                    refine r_iload_n C dX4_window_127 rfl ?_
                    refine r_isubN C dX4_window_128 (by first | omega | (simp [up2, *]; done) | (simp [up2, *]; omega) | (simp only [up2_eq]; omega) | (split <;> omega)) ?_
                    exact r_iret C hr dX4_window_129 ⟨rfl, rfl⟩ (Nat.le_of_ble_eq_true rfl) (Nat.le_of_ble_eq_true rfl)
                  · exact absurd h86_9 (by first | omega | (simp [up2, *]; done) | (simp [up2, *]; omega) | (simp only [up2_eq]; omega) | (split <;> omega))
                · exact absurd h74_8 (by first | omega | (simp [up2, *]; done) | (simp [up2, *]; omega) | (simp only [up2_eq]; omega) | (split <;> omega))
          · exact absurd h52_5 (by first | omega | (simp [up2, *]; done) | (simp [up2, *]; omega) | (simp only [up2_eq]; omega) | (split <;> omega))
        · exact absurd hh0 h40_4
    · exact absurd h14_2 (by first | omega | (simp [up2, *]; done) | (simp [up2, *]; omega) | (simp only [up2_eq]; omega) | (split <;> omega))
theorem pk_X4_goneWithAll : PkV RX4 yX4_goneWithAll cX4_goneWithAll 3 none 1 := ⟨⟨qi_X4_goneWithAll, qs_X4_goneWithAll, qz_X4, qc_X4_goneWithAll⟩, rfl, mh_X4.1, mh_X4.2, pd_6⟩
theorem dX4_window_89 : decode cX4_window 89 = .ok (.aload_n 0, 1) := dqo_42 (kb_X4_window_1 25 rfl)
theorem dX4_window_90 : decode cX4_window 90 = .ok (.iload_n 1, 1) := dqo_27 (kb_X4_window_1 26 rfl)
theorem dX4_window_91 : decode cX4_window 91 = .ok (.invokevirtual 183, 3) := dqo_182 0 183 (kb_X4_window_1 27 rfl) (kb_X4_window_1 28 rfl) (kb_X4_window_1 29 rfl)
set_option maxRecDepth 100000 in
set_option maxHeartbeats 4000000 in
theorem D_window_oky {l : Launch} {D : va_G} {cy : Nat → ClassId} {X : (Nat → Prop) → State → Heap → Prop} {ba ra : Nat → Nat} {hf : Nat → Nat → Nat} {hq : Nat → Nat → Int32} {kn th : Int32} {sm : Int64} {Y : va_W} {f : Nat → Nat → Nat} {r : Nat → Nat → Int32} {k0 : Nat} {w : Nat} {p0 : Nat} {q0 : Nat} (hX : EnvM X cy) (hC : CInv f) (hM : MR f r hf hq) (hk4 : k0 < 4) (hw : w < 8) (h5w : f 5 w = 1) (hh0 : hol f (4 + k0) w = 0) (hp : p0 ≤ q0) (hq0 : q0 ≤ f 4 w) (hz : f 5 (4 + k0) = 1) : Cd l D cy X yX4_window cX4_window 6 (some .int) (rmk 9 4 48 420) [.ref (ba 9), .int (nI k0), .int (nI w), .int (nI p0), .int (nI q0)] (WM cy ba ra hf hq kn th sm ++ Y) (some (.int (nI (q0 - p0)))) (WM cy ba ra (up2 (up2 (up2 (up2 (dcF (up2 (gaF f hf (4 + k0) 4) 5 (4 + k0) 0) (4 + k0) 3) 5 (4 + k0) 1) 2 (4 + k0) w) 3 (4 + k0) p0) 4 (4 + k0) (q0 - p0)) hq kn (nI 0) sm ++ Y) := by
  have hG := hM.1
  have h5M := hM.h5M hC
  have h4M := hC.h4M
  have h9a := hM.h9a hC
  have h6a := hM.h6a
  have hU := hM.hU hC
  have qw := hM.wh hC hw h5w
  have q7 := h5M (4 + k0) (by omega) (by omega)
  refine Cm.of [some (.ref (ba 9)), some (.int (nI k0)), some (.int (nI w)), some (.int (nI p0)), some (.int (nI q0)), none] pn_X4 rfl (Nat.le_of_ble_eq_true rfl) ?_
  intro p e s m args below meth c A C hE hr hnt hn
  refine r_iload_n C dX4_window_0 rfl ?_
  refine r_iconst (v := (nI 0)) C dX4_window_1 (by decide) ?_
  refine r_iconst (v := (nI 3)) C dX4_window_2 (by decide) ?_
  refine d_S (st := []) hX.1.stb C hE (D_isInN (ba := ba) (ra := ra) (hf := hf) (hq := hq) (kn := kn) (th := th) (sm := sm) (Y := Y) (a0 := k0) (b0 := 0) (d0 := 3) hX (by first | omega | (simp [up2, *]; done) | (simp [up2, *]; omega) | (simp only [up2_eq]; omega) | (split <;> omega)) (by first | omega | (simp [up2, *]; done) | (simp [up2, *]; omega) | (simp only [up2_eq]; omega) | (split <;> omega)) (by first | omega | (simp [up2, *]; done) | (simp [up2, *]; omega) | (simp only [up2_eq]; omega) | (split <;> omega))) pk_X4_isIn qm_X4_1 rfl rfl (Nat.le_of_ble_eq_true rfl) dX4_window_3 ⟨(Nat.le_of_ble_eq_true rfl), (Nat.le_of_ble_eq_true rfl)⟩ ⟨(Nat.le_of_ble_eq_true rfl), (Nat.le_of_ble_eq_true rfl)⟩ ?_
  refine r_w (w' := WM cy ba ra hf hq kn th sm ++ Y) rfl ?_
  refine r_ifN_eq (a := 1) (tgt := 17) C (by first | omega | (simp [up2, *]; done) | (simp [up2, *]; omega) | (simp only [up2_eq]; omega) | (split <;> omega)) dX4_window_6 (by decide) (fun h6_1 => ?_) (fun h6_1 => ?_)
  · exact absurd h6_1 (by first | omega | (simp [up2, *]; done) | (simp [up2, *]; omega) | (simp only [up2_eq]; omega) | (split <;> omega))
  · skip
    refine r_aload_n C dX4_window_9 rfl ?_
    refine r_iload_n C dX4_window_10 rfl ?_
    refine d_V (st := []) hX.1.stb C hE (D_isNoWhere0 (ba := ba) (ra := ra) (hf := hf) (hq := hq) (kn := kn) (th := th) (sm := sm) (Y := Y) (w := w) hX (by first | omega | (simp [up2, *]; done) | (simp [up2, *]; omega) | (simp only [up2_eq]; omega) | (split <;> omega)) (by first | omega | (simp [up2, *]; done) | (simp [up2, *]; omega) | (simp only [up2_eq]; omega) | (split <;> omega))) pk_X4_isNoWhere qm_X4_55 0 8 rfl rfl wm_0 rfl rfl (Nat.le_of_ble_eq_true rfl) dX4_window_11 ⟨(Nat.le_of_ble_eq_true rfl), (Nat.le_of_ble_eq_true rfl)⟩ ⟨(Nat.le_of_ble_eq_true rfl), (Nat.le_of_ble_eq_true rfl)⟩ ?_
    refine r_w (w' := WM cy ba ra hf hq kn th sm ++ Y) rfl ?_
    refine r_ifN_eq (a := 0) (tgt := 21) C (by first | omega | (simp [up2, *]; done) | (simp [up2, *]; omega) | (simp only [up2_eq]; omega) | (split <;> omega)) dX4_window_14 (by decide) (fun h14_2 => ?_) (fun h14_2 => ?_)
    · skip
      refine r_iconst (v := (nI 0)) C dX4_window_21 (by decide) ?_
      refine r_istore C dX4_window_22 (by decide) rfl ?_
      refine r_aload_n C dX4_window_24 rfl ?_
      refine r_iload C dX4_window_25 rfl ?_
      refine r_iload C dX4_window_27 rfl ?_
      refine r_ifN_ne (a := 0) (tgt := 47) C (by first | omega | (simp [up2, *]; done) | (simp [up2, *]; omega) | (simp only [up2_eq]; omega) | (split <;> omega)) dX4_window_29 (by decide) (fun h29_3 => ?_) (fun h29_3 => ?_)
      · exact absurd h29_3 (by first | omega | (simp [up2, *]; done) | (simp [up2, *]; omega) | (simp only [up2_eq]; omega) | (split <;> omega))
      · skip
        refine r_aload_n C dX4_window_32 rfl ?_
        refine r_iconst (v := (nI 4)) C dX4_window_33 (by decide) ?_
        refine r_iload_n C dX4_window_34 rfl ?_
        refine r_iaddN C dX4_window_35 ?_
        refine r_iload_n C dX4_window_36 rfl ?_
        refine d_V (st := [.int (nI 0), .ref (ba 9)]) hX.1.stb C hE (D_isHolder (ba := ba) (ra := ra) (hf := hf) (hq := hq) (kn := kn) (th := th) (sm := sm) (Y := Y) (f := f) (h0 := (4 + k0)) (w := w) hX hC (MG.same (fun _ => rfl) (fun _ => rfl) hG) (by first | omega | (simp [up2, *]; done) | (simp [up2, *]; omega) | (simp only [up2_eq]; omega) | (split <;> omega)) (by first | omega | (simp [up2, *]; done) | (simp [up2, *]; omega) | (simp only [up2_eq]; omega) | (split <;> omega)) (by first | omega | (simp [up2, *]; done) | (simp [up2, *]; omega) | (simp only [up2_eq]; omega) | (split <;> omega))) pk_X4_isHolder qm_X4_66 0 8 rfl rfl wm_0 rfl rfl (Nat.le_of_ble_eq_true rfl) dX4_window_37 ⟨(Nat.le_of_ble_eq_true rfl), (Nat.le_of_ble_eq_true rfl)⟩ ⟨(Nat.le_of_ble_eq_true rfl), (Nat.le_of_ble_eq_true rfl)⟩ ?_
        refine r_w (w' := WM cy ba ra hf hq kn th sm ++ Y) rfl ?_
        refine r_ifN_eq (a := (hol f (4 + k0) w)) (tgt := 47) C (Nat.lt_of_le_of_lt (hol_le _ _ _) (by decide)) dX4_window_40 (by decide) (fun h40_4 => ?_) (fun h40_4 => ?_)
        · skip
          refine r_iconst (v := (nI 0)) C dX4_window_47 (by decide) ?_
          refine r_iconst (v := (nI 0)) C dX4_window_48 (by decide) ?_
          refine d_V (st := []) hX.1.stb C hE (D_fails0 (ba := ba) (ra := ra) (hf := hf) (hq := hq) (kn := kn) (th := th) (sm := sm) (Y := Y)  hX ) pk_X4_fails qm_X4_84 0 8 rfl rfl wm_0 rfl rfl (Nat.le_of_ble_eq_true rfl) dX4_window_49 ⟨(Nat.le_of_ble_eq_true rfl), (Nat.le_of_ble_eq_true rfl)⟩ ⟨(Nat.le_of_ble_eq_true rfl), (Nat.le_of_ble_eq_true rfl)⟩ ?_
          refine r_w (w' := WM cy ba ra hf hq kn (nI 0) sm ++ Y) rfl ?_
          refine r_ifN_eq (a := 0) (tgt := 57) C (by first | omega | (simp [up2, *]; done) | (simp [up2, *]; omega) | (simp only [up2_eq]; omega) | (split <;> omega)) dX4_window_52 (by decide) (fun h52_5 => ?_) (fun h52_5 => ?_)
          · skip
            refine r_iload_n C dX4_window_57 rfl ?_
            refine r_ifN_lt (a := p0) (tgt := 77) C (by first | omega | (simp [up2, *]; done) | (simp [up2, *]; omega) | (simp only [up2_eq]; omega) | (split <;> omega)) dX4_window_58 (by decide) (fun h58_6 => ?_) (fun h58_6 => ?_)
            · exact h58_6.elim
            · skip
              refine r_iload_n C dX4_window_61 rfl ?_
              refine r_iload C dX4_window_62 rfl ?_
              refine r_icN_gt (a := p0) (b := q0) (tgt := 77) C (by first | omega | (simp [up2, *]; done) | (simp [up2, *]; omega) | (simp only [up2_eq]; omega) | (split <;> omega)) (by first | omega | (simp [up2, *]; done) | (simp [up2, *]; omega) | (simp only [up2_eq]; omega) | (split <;> omega)) dX4_window_64 (by decide) (fun h64_7 => ?_) (fun h64_7 => ?_)
              · exact absurd h64_7 (by first | omega | (simp [up2, *]; done) | (simp [up2, *]; omega) | (simp only [up2_eq]; omega) | (split <;> omega))
              · skip
                refine r_iload C dX4_window_67 rfl ?_
                refine r_aload_n C dX4_window_69 rfl ?_
                refine r_iload_n C dX4_window_70 rfl ?_
                refine d_V (st := [.int (nI q0)]) hX.1.stb C hE (D_sizeOf (ba := ba) (ra := ra) (hf := hf) (hq := hq) (kn := kn) (th := (nI 0)) (sm := sm) (Y := Y) (w := w) hX (by first | omega | (simp [up2, *]; done) | (simp [up2, *]; omega) | (simp only [up2_eq]; omega) | (split <;> omega))) pk_X4_sizeOf qm_X4_59 0 8 rfl rfl wm_0 rfl rfl (Nat.le_of_ble_eq_true rfl) dX4_window_71 ⟨(Nat.le_of_ble_eq_true rfl), (Nat.le_of_ble_eq_true rfl)⟩ ⟨(Nat.le_of_ble_eq_true rfl), (Nat.le_of_ble_eq_true rfl)⟩ ?_
                refine r_w (w' := WM cy ba ra hf hq kn (nI 0) sm ++ Y) rfl ?_
                refine r_icN_le (a := q0) (b := (hf 4 w)) (tgt := 80) C (by first | omega | (simp [up2, *]; done) | (simp [up2, *]; omega) | (simp only [up2_eq]; omega) | (split <;> omega)) (by first | omega | (simp [up2, *]; done) | (simp [up2, *]; omega) | (simp only [up2_eq]; omega) | (split <;> omega)) dX4_window_74 (by decide) (fun h74_8 => ?_) (fun h74_8 => ?_)
                · skip
                  refine r_aload_n C dX4_window_80 rfl ?_
                  refine m_get (v := .ref (ba 1)) C 1 (by decide) qf_X4_18 rfl rfl dX4_window_81 ?_
                  refine r_iload_n C dX4_window_84 rfl ?_
                  refine m_zld (i := k0) (z := 4 + k0) (v := hf 5 (4 + k0)) C 0 (by decide) (by decide) (show k0 < 4 from (by first | omega | (simp [up2, *]; done) | (simp [up2, *]; omega) | (simp only [up2_eq]; omega) | (split <;> omega))) (show 4 + k0 = 4 + k0 from (by omega)) rfl dX4_window_85 ?_
                  refine r_ifN_eq (a := (hf 5 (4 + k0))) (tgt := 94) C (by first | omega | (simp [up2, *]; done) | (simp [up2, *]; omega) | (simp only [up2_eq]; omega) | (split <;> omega)) dX4_window_86 (by decide) (fun h86_9 => ?_) (fun h86_9 => ?_)
                  · exact absurd h86_9 (by first | omega | (simp [up2, *]; done) | (simp [up2, *]; omega) | (simp only [up2_eq]; omega) | (split <;> omega))
                  · skip
                    refine r_aload_n C dX4_window_89 rfl ?_
                    refine r_iload_n C dX4_window_90 rfl ?_
                    refine d_Vv (st := []) hX.1.stb C hE (D_goneWithAll (ba := ba) (ra := ra) (hf := hf) (hq := hq) (kn := kn) (th := (nI 0)) (sm := sm) (Y := Y) (f := f) (g0 := k0) hX hC (MG.same (fun _ => rfl) (fun _ => rfl) hG) hk4 h5M h9a h6a) pk_X4_goneWithAll qm_X4_183 0 8 rfl rfl wm_0 rfl rfl (Nat.le_of_ble_eq_true rfl) dX4_window_91 ⟨(Nat.le_of_ble_eq_true rfl), (Nat.le_of_ble_eq_true rfl)⟩ ⟨(Nat.le_of_ble_eq_true rfl), (Nat.le_of_ble_eq_true rfl)⟩ ?_
                    refine r_w (w' := WM cy ba ra (dcF (up2 (gaF f hf (4 + k0) 4) 5 (4 + k0) 0) (4 + k0) 3) hq kn (nI 0) sm ++ Y) rfl ?_
                    refine r_aload_n C dX4_window_94 rfl ?_
                    refine m_get (v := .ref (ba 1)) C 1 (by decide) qf_X4_18 rfl rfl dX4_window_95 ?_
                    refine r_iload_n C dX4_window_98 rfl ?_
                    refine r_iconst (v := (nI 1)) C dX4_window_99 (by decide) ?_
                    refine m_zst (i := k0) (z := 4 + k0) (v := 1) C 0 (by decide) (by decide) (show k0 < 4 from (by first | omega | (simp [up2, *]; done) | (simp [up2, *]; omega) | (simp only [up2_eq]; omega) | (split <;> omega))) (show 4 + k0 = 4 + k0 from (by omega)) (by first | omega | (simp [up2, *]; done) | (simp [up2, *]; omega) | (simp only [up2_eq]; omega) | (split <;> omega)) dX4_window_100 ?_
                    refine r_w (w' := WM cy ba ra (up2 (dcF (up2 (gaF f hf (4 + k0) 4) 5 (4 + k0) 0) (4 + k0) 3) 5 (4 + k0) 1) hq kn (nI 0) sm ++ Y) rfl ?_
                    refine r_aload_n C dX4_window_101 rfl ?_
                    refine m_get (v := .ref (ba 2)) C 2 (by decide) qf_X4_22 rfl rfl dX4_window_102 ?_
                    refine r_iload_n C dX4_window_105 rfl ?_
                    refine r_iload_n C dX4_window_106 rfl ?_
                    refine m_ast (i := k0) (z := 4 + k0) (v := w) C 1 (by decide) (by decide) (show k0 < 4 from (by first | omega | (simp [up2, *]; done) | (simp [up2, *]; omega) | (simp only [up2_eq]; omega) | (split <;> omega))) (show 4 + k0 = 4 + k0 from (by omega)) dX4_window_107 ?_
                    refine r_w (w' := WM cy ba ra (up2 (up2 (dcF (up2 (gaF f hf (4 + k0) 4) 5 (4 + k0) 0) (4 + k0) 3) 5 (4 + k0) 1) 2 (4 + k0) w) hq kn (nI 0) sm ++ Y) rfl ?_
                    refine r_aload_n C dX4_window_108 rfl ?_
                    refine m_get (v := .ref (ba 3)) C 3 (by decide) qf_X4_26 rfl rfl dX4_window_109 ?_
                    refine r_iload_n C dX4_window_112 rfl ?_
                    refine r_iload_n C dX4_window_113 rfl ?_
                    refine m_ast (i := k0) (z := 4 + k0) (v := p0) C 2 (by decide) (by decide) (show k0 < 4 from (by first | omega | (simp [up2, *]; done) | (simp [up2, *]; omega) | (simp only [up2_eq]; omega) | (split <;> omega))) (show 4 + k0 = 4 + k0 from (by omega)) dX4_window_114 ?_
                    refine r_w (w' := WM cy ba ra (up2 (up2 (up2 (dcF (up2 (gaF f hf (4 + k0) 4) 5 (4 + k0) 0) (4 + k0) 3) 5 (4 + k0) 1) 2 (4 + k0) w) 3 (4 + k0) p0) hq kn (nI 0) sm ++ Y) rfl ?_
                    refine r_aload_n C dX4_window_115 rfl ?_
                    refine m_get (v := .ref (ba 4)) C 4 (by decide) qf_X4_29 rfl rfl dX4_window_116 ?_
                    refine r_iload_n C dX4_window_119 rfl ?_
                    refine r_iload C dX4_window_120 rfl ?_
                    refine r_iload_n C dX4_window_122 rfl ?_
                    refine r_isubN C dX4_window_123 (by first | omega | (simp [up2, *]; done) | (simp [up2, *]; omega) | (simp only [up2_eq]; omega) | (split <;> omega)) ?_
                    refine m_ast (i := k0) (z := 4 + k0) (v := q0 - p0) C 3 (by decide) (by decide) (show k0 < 4 from (by first | omega | (simp [up2, *]; done) | (simp [up2, *]; omega) | (simp only [up2_eq]; omega) | (split <;> omega))) (show 4 + k0 = 4 + k0 from (by omega)) dX4_window_124 ?_
                    refine r_w (w' := WM cy ba ra (up2 (up2 (up2 (up2 (dcF (up2 (gaF f hf (4 + k0) 4) 5 (4 + k0) 0) (4 + k0) 3) 5 (4 + k0) 1) 2 (4 + k0) w) 3 (4 + k0) p0) 4 (4 + k0) (q0 - p0)) hq kn (nI 0) sm ++ Y) rfl ?_
                    refine r_iload C dX4_window_125 rfl ?_
                    refine r_iload_n C dX4_window_127 rfl ?_
                    refine r_isubN C dX4_window_128 (by first | omega | (simp [up2, *]; done) | (simp [up2, *]; omega) | (simp only [up2_eq]; omega) | (split <;> omega)) ?_
                    exact r_iret C hr dX4_window_129 ⟨rfl, rfl⟩ (Nat.le_of_ble_eq_true rfl) (Nat.le_of_ble_eq_true rfl)
                · exact absurd h74_8 (by first | omega | (simp [up2, *]; done) | (simp [up2, *]; omega) | (simp only [up2_eq]; omega) | (split <;> omega))
          · exact absurd h52_5 (by first | omega | (simp [up2, *]; done) | (simp [up2, *]; omega) | (simp only [up2_eq]; omega) | (split <;> omega))
        · exact absurd hh0 h40_4
    · exact absurd h14_2 (by first | omega | (simp [up2, *]; done) | (simp [up2, *]; omega) | (simp only [up2_eq]; omega) | (split <;> omega))
theorem dX4_close_0 : decode cX4_close 0 = .ok (.aload_n 0, 1) := dqo_42 (kb_of ke_X4_close 0 rfl)
theorem dX4_close_1 : decode cX4_close 1 = .ok (.iload_n 1, 1) := dqo_27 (kb_of ke_X4_close 1 rfl)
theorem dX4_close_2 : decode cX4_close 2 = .ok (.iconst 0, 1) := dqo_3 (kb_of ke_X4_close 2 rfl)
theorem dX4_close_3 : decode cX4_close 3 = .ok (.iconst 3, 1) := dqo_6 (kb_of ke_X4_close 3 rfl)
theorem dX4_close_4 : decode cX4_close 4 = .ok (.invokestatic 1, 3) := dqo_184 0 1 (kb_of ke_X4_close 4 rfl) (kb_of ke_X4_close 5 rfl) (kb_of ke_X4_close 6 rfl)
theorem dX4_close_7 : decode cX4_close 7 = .ok (.ifCond .ne 7, 3) := dqo_154 0 7 (by decide) (kb_of ke_X4_close 7 rfl) (kb_of ke_X4_close 8 rfl) (kb_of ke_X4_close 9 rfl)
theorem dX4_close_10 : decode cX4_close 10 = .ok (.iconst 1, 1) := dqo_4 (kb_of ke_X4_close 10 rfl)
theorem dX4_close_11 : decode cX4_close 11 = .ok (.goto 4, 3) := dqo_167 0 4 (by decide) (kb_of ke_X4_close 11 rfl) (kb_of ke_X4_close 12 rfl) (kb_of ke_X4_close 13 rfl)
theorem dX4_close_15 : decode cX4_close 15 = .ok (.iconst 0, 1) := dqo_3 (kb_of ke_X4_close 15 rfl)
theorem dX4_close_16 : decode cX4_close 16 = .ok (.iconst 0, 1) := dqo_3 (kb_of ke_X4_close 16 rfl)
theorem dX4_close_17 : decode cX4_close 17 = .ok (.invokevirtual 84, 3) := dqo_182 0 84 (kb_of ke_X4_close 17 rfl) (kb_of ke_X4_close 18 rfl) (kb_of ke_X4_close 19 rfl)
theorem dX4_close_20 : decode cX4_close 20 = .ok (.ifCond .eq 5, 3) := dqo_153 0 5 (by decide) (kb_of ke_X4_close 20 rfl) (kb_of ke_X4_close 21 rfl) (kb_of ke_X4_close 22 rfl)
theorem dX4_close_23 : decode cX4_close 23 = .ok (.iconst 0, 1) := dqo_3 (kb_of ke_X4_close 23 rfl)
theorem dX4_close_24 : decode cX4_close 24 = .ok (.ireturn, 1) := dqo_172 (kb_of ke_X4_close 24 rfl)
set_option maxRecDepth 100000 in
set_option maxHeartbeats 4000000 in
theorem D_close_noK {l : Launch} {D : va_G} {cy : Nat → ClassId} {X : (Nat → Prop) → State → Heap → Prop} {ba ra : Nat → Nat} {hf : Nat → Nat → Nat} {hq : Nat → Nat → Int32} {kn th : Int32} {sm : Int64} {Y : va_W} {f : Nat → Nat → Nat} {r : Nat → Nat → Int32} {x : Int32} (hX : EnvM X cy) (hC : CInv f) (hM : MR f r hf hq) (hno : ¬ (0 ≤ x ∧ x < nI 4)) : Cd l D cy X yX4_close cX4_close 2 (some .int) (rmk 9 4 48 420) [.ref (ba 9), .int x] (WM cy ba ra hf hq kn th sm ++ Y) (some (.int (nI 0))) (WM cy ba ra hf hq kn (nI 1) sm ++ Y) := by
  have hG := hM.1
  have h5M := hM.h5M hC
  have h4M := hC.h4M
  have h9a := hM.h9a hC
  have h6a := hM.h6a
  have hU := hM.hU hC
  refine Cm.of [some (.ref (ba 9)), some (.int x)] pn_X4 rfl (Nat.le_of_ble_eq_true rfl) ?_
  intro p e s m args below meth c A C hE hr hnt hn
  refine r_aload_n C dX4_close_0 rfl ?_
  refine r_iload_n C dX4_close_1 rfl ?_
  refine r_iconst (v := (nI 0)) C dX4_close_2 (by decide) ?_
  refine r_iconst (v := (nI 3)) C dX4_close_3 (by decide) ?_
  refine d_S (st := [.ref (ba 9)]) hX.1.stb C hE (D_isIn0 (ba := ba) (ra := ra) (hf := hf) (hq := hq) (kn := kn) (th := th) (sm := sm) (Y := Y) (x := (x)) (y := ((nI 0))) (z := ((nI 3))) hX (fun z => hno ⟨z.1, Int32.lt_of_le_of_lt z.2 (by decide)⟩)) pk_X4_isIn qm_X4_1 rfl rfl (Nat.le_of_ble_eq_true rfl) dX4_close_4 ⟨(Nat.le_of_ble_eq_true rfl), (Nat.le_of_ble_eq_true rfl)⟩ ⟨(Nat.le_of_ble_eq_true rfl), (Nat.le_of_ble_eq_true rfl)⟩ ?_
  refine r_w (w' := WM cy ba ra hf hq kn th sm ++ Y) rfl ?_
  refine r_ifN_ne (a := 0) (tgt := 14) C (by first | omega | (simp [up2, *]; done) | (simp [up2, *]; omega) | (simp only [up2_eq]; omega) | (split <;> omega)) dX4_close_7 (by decide) (fun h7_1 => ?_) (fun h7_1 => ?_)
  · exact absurd h7_1 (by first | omega | (simp [up2, *]; done) | (simp [up2, *]; omega) | (simp only [up2_eq]; omega) | (split <;> omega))
  · skip
    refine r_iconst (v := (nI 1)) C dX4_close_10 (by decide) ?_
    refine r_goto (tgt := 15) C dX4_close_11 (by decide) ?_
    refine r_iconst (v := (nI 0)) C dX4_close_15 (by decide) ?_
    refine r_iconst (v := (nI 0)) C dX4_close_16 (by decide) ?_
    refine d_V (st := []) hX.1.stb C hE (D_fails1 (ba := ba) (ra := ra) (hf := hf) (hq := hq) (kn := kn) (th := th) (sm := sm) (Y := Y) (b0 := 0) (d0 := 0) hX ) pk_X4_fails qm_X4_84 0 8 rfl rfl wm_0 rfl rfl (Nat.le_of_ble_eq_true rfl) dX4_close_17 ⟨(Nat.le_of_ble_eq_true rfl), (Nat.le_of_ble_eq_true rfl)⟩ ⟨(Nat.le_of_ble_eq_true rfl), (Nat.le_of_ble_eq_true rfl)⟩ ?_
    refine r_w (w' := WM cy ba ra hf hq kn (nI 1) sm ++ Y) rfl ?_
    refine r_ifN_eq (a := 1) (tgt := 25) C (by first | omega | (simp [up2, *]; done) | (simp [up2, *]; omega) | (simp only [up2_eq]; omega) | (split <;> omega)) dX4_close_20 (by decide) (fun h20_2 => ?_) (fun h20_2 => ?_)
    · exact absurd h20_2 (by first | omega | (simp [up2, *]; done) | (simp [up2, *]; omega) | (simp only [up2_eq]; omega) | (split <;> omega))
    · skip
      refine r_iconst (v := (nI 0)) C dX4_close_23 (by decide) ?_
      exact r_iret C hr dX4_close_24 ⟨rfl, rfl⟩ (Nat.le_of_ble_eq_true rfl) (Nat.le_of_ble_eq_true rfl)
theorem dX4_close_14 : decode cX4_close 14 = .ok (.iconst 0, 1) := dqo_3 (kb_of ke_X4_close 14 rfl)
theorem dX4_close_25 : decode cX4_close 25 = .ok (.aload_n 0, 1) := dqo_42 (kb_of ke_X4_close 25 rfl)
theorem dX4_close_26 : decode cX4_close 26 = .ok (.getfield 18, 3) := dqo_180 0 18 (kb_of ke_X4_close 26 rfl) (kb_of ke_X4_close 27 rfl) (kb_of ke_X4_close 28 rfl)
theorem dX4_close_29 : decode cX4_close 29 = .ok (.iload_n 1, 1) := dqo_27 (kb_of ke_X4_close 29 rfl)
theorem dX4_close_30 : decode cX4_close 30 = .ok (.baload, 1) := dqo_51 (kb_of ke_X4_close 30 rfl)
theorem dX4_close_31 : decode cX4_close 31 = .ok (.ifCond .ne 6, 3) := dqo_154 0 6 (by decide) (kb_of ke_X4_close 31 rfl) (kb_of ke_X4_close 32 rfl) (kb_of ke_X4_close 33 rfl)
theorem dX4_close_34 : decode cX4_close 34 = .ok (.bipush (-9), 2) := dqo_16 247 (by decide) (kb_of ke_X4_close 34 rfl) (kb_of ke_X4_close 35 rfl)
theorem dX4_close_36 : decode cX4_close 36 = .ok (.ireturn, 1) := dqo_172 (kb_of ke_X4_close 36 rfl)
set_option maxRecDepth 100000 in
set_option maxHeartbeats 4000000 in
theorem D_close_ref {l : Launch} {D : va_G} {cy : Nat → ClassId} {X : (Nat → Prop) → State → Heap → Prop} {ba ra : Nat → Nat} {hf : Nat → Nat → Nat} {hq : Nat → Nat → Int32} {kn th : Int32} {sm : Int64} {Y : va_W} {f : Nat → Nat → Nat} {r : Nat → Nat → Int32} {k0 : Nat} (hX : EnvM X cy) (hC : CInv f) (hM : MR f r hf hq) (hk4 : k0 < 4) (hz : f 5 (4 + k0) = 0) : Cd l D cy X yX4_close cX4_close 2 (some .int) (rmk 9 4 48 420) [.ref (ba 9), .int (nI k0)] (WM cy ba ra hf hq kn th sm ++ Y) (some (.int (nI 4294967287))) (WM cy ba ra hf hq kn (nI 0) sm ++ Y) := by
  have hG := hM.1
  have h5M := hM.h5M hC
  have h4M := hC.h4M
  have h9a := hM.h9a hC
  have h6a := hM.h6a
  have hU := hM.hU hC
  have q7 := h5M (4 + k0) (by omega) (by omega)
  refine Cm.of [some (.ref (ba 9)), some (.int (nI k0))] pn_X4 rfl (Nat.le_of_ble_eq_true rfl) ?_
  intro p e s m args below meth c A C hE hr hnt hn
  refine r_aload_n C dX4_close_0 rfl ?_
  refine r_iload_n C dX4_close_1 rfl ?_
  refine r_iconst (v := (nI 0)) C dX4_close_2 (by decide) ?_
  refine r_iconst (v := (nI 3)) C dX4_close_3 (by decide) ?_
  refine d_S (st := [.ref (ba 9)]) hX.1.stb C hE (D_isInN (ba := ba) (ra := ra) (hf := hf) (hq := hq) (kn := kn) (th := th) (sm := sm) (Y := Y) (a0 := k0) (b0 := 0) (d0 := 3) hX (by first | omega | (simp [up2, *]; done) | (simp [up2, *]; omega) | (simp only [up2_eq]; omega) | (split <;> omega)) (by first | omega | (simp [up2, *]; done) | (simp [up2, *]; omega) | (simp only [up2_eq]; omega) | (split <;> omega)) (by first | omega | (simp [up2, *]; done) | (simp [up2, *]; omega) | (simp only [up2_eq]; omega) | (split <;> omega))) pk_X4_isIn qm_X4_1 rfl rfl (Nat.le_of_ble_eq_true rfl) dX4_close_4 ⟨(Nat.le_of_ble_eq_true rfl), (Nat.le_of_ble_eq_true rfl)⟩ ⟨(Nat.le_of_ble_eq_true rfl), (Nat.le_of_ble_eq_true rfl)⟩ ?_
  refine r_w (w' := WM cy ba ra hf hq kn th sm ++ Y) rfl ?_
  refine r_ifN_ne (a := 1) (tgt := 14) C (by first | omega | (simp [up2, *]; done) | (simp [up2, *]; omega) | (simp only [up2_eq]; omega) | (split <;> omega)) dX4_close_7 (by decide) (fun h7_1 => ?_) (fun h7_1 => ?_)
  · skip
    refine r_iconst (v := (nI 0)) C dX4_close_14 (by decide) ?_
    refine r_iconst (v := (nI 0)) C dX4_close_15 (by decide) ?_
    refine r_iconst (v := (nI 0)) C dX4_close_16 (by decide) ?_
    refine d_V (st := []) hX.1.stb C hE (D_fails0 (ba := ba) (ra := ra) (hf := hf) (hq := hq) (kn := kn) (th := th) (sm := sm) (Y := Y)  hX ) pk_X4_fails qm_X4_84 0 8 rfl rfl wm_0 rfl rfl (Nat.le_of_ble_eq_true rfl) dX4_close_17 ⟨(Nat.le_of_ble_eq_true rfl), (Nat.le_of_ble_eq_true rfl)⟩ ⟨(Nat.le_of_ble_eq_true rfl), (Nat.le_of_ble_eq_true rfl)⟩ ?_
    refine r_w (w' := WM cy ba ra hf hq kn (nI 0) sm ++ Y) rfl ?_
    refine r_ifN_eq (a := 0) (tgt := 25) C (by first | omega | (simp [up2, *]; done) | (simp [up2, *]; omega) | (simp only [up2_eq]; omega) | (split <;> omega)) dX4_close_20 (by decide) (fun h20_2 => ?_) (fun h20_2 => ?_)
    · skip
      refine r_aload_n C dX4_close_25 rfl ?_
      refine m_get (v := .ref (ba 1)) C 1 (by decide) qf_X4_18 rfl rfl dX4_close_26 ?_
      refine r_iload_n C dX4_close_29 rfl ?_
      refine m_zld (i := k0) (z := 4 + k0) (v := hf 5 (4 + k0)) C 0 (by decide) (by decide) (show k0 < 4 from (by first | omega | (simp [up2, *]; done) | (simp [up2, *]; omega) | (simp only [up2_eq]; omega) | (split <;> omega))) (show 4 + k0 = 4 + k0 from (by omega)) rfl dX4_close_30 ?_
      refine r_ifN_ne (a := (hf 5 (4 + k0))) (tgt := 37) C (by first | omega | (simp [up2, *]; done) | (simp [up2, *]; omega) | (simp only [up2_eq]; omega) | (split <;> omega)) dX4_close_31 (by decide) (fun h31_3 => ?_) (fun h31_3 => ?_)
      · exact absurd h31_3 (by first | omega | (simp [up2, *]; done) | (simp [up2, *]; omega) | (simp only [up2_eq]; omega) | (split <;> omega))
      · skip
        refine r_bipush (v := (nI 4294967287)) C dX4_close_34 (by decide) ?_
        exact r_iret C hr dX4_close_36 ⟨rfl, rfl⟩ (Nat.le_of_ble_eq_true rfl) (Nat.le_of_ble_eq_true rfl)
    · exact absurd h20_2 (by first | omega | (simp [up2, *]; done) | (simp [up2, *]; omega) | (simp only [up2_eq]; omega) | (split <;> omega))
  · exact absurd h7_1 (by first | omega | (simp [up2, *]; done) | (simp [up2, *]; omega) | (simp only [up2_eq]; omega) | (split <;> omega))
theorem pk_X4_windows : PkV RX4 yX4_windows cX4_windows 6 (some .int) 0 := ⟨⟨qi_X4_windows, qs_X4_windows, qz_X4, qc_X4_windows⟩, rfl, mh_X4.1, mh_X4.2, pd_10⟩
theorem dX4_close_37 : decode cX4_close 37 = .ok (.aload_n 0, 1) := dqo_42 (kb_of ke_X4_close 37 rfl)
theorem dX4_close_38 : decode cX4_close 38 = .ok (.iload_n 1, 1) := dqo_27 (kb_of ke_X4_close 38 rfl)
theorem dX4_close_39 : decode cX4_close 39 = .ok (.invokevirtual 183, 3) := dqo_182 0 183 (kb_of ke_X4_close 39 rfl) (kb_of ke_X4_close 40 rfl) (kb_of ke_X4_close 41 rfl)
theorem dX4_close_42 : decode cX4_close 42 = .ok (.aload_n 0, 1) := dqo_42 (kb_of ke_X4_close 42 rfl)
theorem dX4_close_43 : decode cX4_close 43 = .ok (.invokevirtual 186, 3) := dqo_182 0 186 (kb_of ke_X4_close 43 rfl) (kb_of ke_X4_close 44 rfl) (kb_of ke_X4_close 45 rfl)
theorem dX4_close_46 : decode cX4_close 46 = .ok (.ireturn, 1) := dqo_172 (kb_of ke_X4_close 46 rfl)
set_option maxRecDepth 100000 in
set_option maxHeartbeats 4000000 in
theorem D_close_ok {l : Launch} {D : va_G} {cy : Nat → ClassId} {X : (Nat → Prop) → State → Heap → Prop} {ba ra : Nat → Nat} {hf : Nat → Nat → Nat} {hq : Nat → Nat → Int32} {kn th : Int32} {sm : Int64} {Y : va_W} {f : Nat → Nat → Nat} {r : Nat → Nat → Int32} {k0 : Nat} (hX : EnvM X cy) (hC : CInv f) (hM : MR f r hf hq) (hk4 : k0 < 4) (hz : f 5 (4 + k0) = 1) : Cd l D cy X yX4_close cX4_close 2 (some .int) (rmk 9 4 48 420) [.ref (ba 9), .int (nI k0)] (WM cy ba ra hf hq kn th sm ++ Y) (some (.int (nI (smF ((dcF (up2 (gaF f hf (4 + k0) 4) 5 (4 + k0) 0) (4 + k0) 3) 5) 4 4 0)))) (WM cy ba ra (dcF (up2 (gaF f hf (4 + k0) 4) 5 (4 + k0) 0) (4 + k0) 3) hq kn (nI 0) sm ++ Y) := by
  have hG := hM.1
  have h5M := hM.h5M hC
  have h4M := hC.h4M
  have h9a := hM.h9a hC
  have h6a := hM.h6a
  have hU := hM.hU hC
  have q7 := h5M (4 + k0) (by omega) (by omega)
  refine Cm.of [some (.ref (ba 9)), some (.int (nI k0))] pn_X4 rfl (Nat.le_of_ble_eq_true rfl) ?_
  intro p e s m args below meth c A C hE hr hnt hn
  refine r_aload_n C dX4_close_0 rfl ?_
  refine r_iload_n C dX4_close_1 rfl ?_
  refine r_iconst (v := (nI 0)) C dX4_close_2 (by decide) ?_
  refine r_iconst (v := (nI 3)) C dX4_close_3 (by decide) ?_
  refine d_S (st := [.ref (ba 9)]) hX.1.stb C hE (D_isInN (ba := ba) (ra := ra) (hf := hf) (hq := hq) (kn := kn) (th := th) (sm := sm) (Y := Y) (a0 := k0) (b0 := 0) (d0 := 3) hX (by first | omega | (simp [up2, *]; done) | (simp [up2, *]; omega) | (simp only [up2_eq]; omega) | (split <;> omega)) (by first | omega | (simp [up2, *]; done) | (simp [up2, *]; omega) | (simp only [up2_eq]; omega) | (split <;> omega)) (by first | omega | (simp [up2, *]; done) | (simp [up2, *]; omega) | (simp only [up2_eq]; omega) | (split <;> omega))) pk_X4_isIn qm_X4_1 rfl rfl (Nat.le_of_ble_eq_true rfl) dX4_close_4 ⟨(Nat.le_of_ble_eq_true rfl), (Nat.le_of_ble_eq_true rfl)⟩ ⟨(Nat.le_of_ble_eq_true rfl), (Nat.le_of_ble_eq_true rfl)⟩ ?_
  refine r_w (w' := WM cy ba ra hf hq kn th sm ++ Y) rfl ?_
  refine r_ifN_ne (a := 1) (tgt := 14) C (by first | omega | (simp [up2, *]; done) | (simp [up2, *]; omega) | (simp only [up2_eq]; omega) | (split <;> omega)) dX4_close_7 (by decide) (fun h7_1 => ?_) (fun h7_1 => ?_)
  · skip
    refine r_iconst (v := (nI 0)) C dX4_close_14 (by decide) ?_
    refine r_iconst (v := (nI 0)) C dX4_close_15 (by decide) ?_
    refine r_iconst (v := (nI 0)) C dX4_close_16 (by decide) ?_
    refine d_V (st := []) hX.1.stb C hE (D_fails0 (ba := ba) (ra := ra) (hf := hf) (hq := hq) (kn := kn) (th := th) (sm := sm) (Y := Y)  hX ) pk_X4_fails qm_X4_84 0 8 rfl rfl wm_0 rfl rfl (Nat.le_of_ble_eq_true rfl) dX4_close_17 ⟨(Nat.le_of_ble_eq_true rfl), (Nat.le_of_ble_eq_true rfl)⟩ ⟨(Nat.le_of_ble_eq_true rfl), (Nat.le_of_ble_eq_true rfl)⟩ ?_
    refine r_w (w' := WM cy ba ra hf hq kn (nI 0) sm ++ Y) rfl ?_
    refine r_ifN_eq (a := 0) (tgt := 25) C (by first | omega | (simp [up2, *]; done) | (simp [up2, *]; omega) | (simp only [up2_eq]; omega) | (split <;> omega)) dX4_close_20 (by decide) (fun h20_2 => ?_) (fun h20_2 => ?_)
    · skip
      refine r_aload_n C dX4_close_25 rfl ?_
      refine m_get (v := .ref (ba 1)) C 1 (by decide) qf_X4_18 rfl rfl dX4_close_26 ?_
      refine r_iload_n C dX4_close_29 rfl ?_
      refine m_zld (i := k0) (z := 4 + k0) (v := hf 5 (4 + k0)) C 0 (by decide) (by decide) (show k0 < 4 from (by first | omega | (simp [up2, *]; done) | (simp [up2, *]; omega) | (simp only [up2_eq]; omega) | (split <;> omega))) (show 4 + k0 = 4 + k0 from (by omega)) rfl dX4_close_30 ?_
      refine r_ifN_ne (a := (hf 5 (4 + k0))) (tgt := 37) C (by first | omega | (simp [up2, *]; done) | (simp [up2, *]; omega) | (simp only [up2_eq]; omega) | (split <;> omega)) dX4_close_31 (by decide) (fun h31_3 => ?_) (fun h31_3 => ?_)
      · skip
        refine r_aload_n C dX4_close_37 rfl ?_
        refine r_iload_n C dX4_close_38 rfl ?_
        refine d_Vv (st := []) hX.1.stb C hE (D_goneWithAll (ba := ba) (ra := ra) (hf := hf) (hq := hq) (kn := kn) (th := (nI 0)) (sm := sm) (Y := Y) (f := f) (g0 := k0) hX hC (MG.same (fun _ => rfl) (fun _ => rfl) hG) hk4 h5M h9a h6a) pk_X4_goneWithAll qm_X4_183 0 8 rfl rfl wm_0 rfl rfl (Nat.le_of_ble_eq_true rfl) dX4_close_39 ⟨(Nat.le_of_ble_eq_true rfl), (Nat.le_of_ble_eq_true rfl)⟩ ⟨(Nat.le_of_ble_eq_true rfl), (Nat.le_of_ble_eq_true rfl)⟩ ?_
        refine r_w (w' := WM cy ba ra (dcF (up2 (gaF f hf (4 + k0) 4) 5 (4 + k0) 0) (4 + k0) 3) hq kn (nI 0) sm ++ Y) rfl ?_
        refine r_aload_n C dX4_close_42 rfl ?_
        refine d_V (st := []) hX.1.stb C hE (D_windows (ba := ba) (ra := ra) (hf := (dcF (up2 (gaF f hf (4 + k0) 4) 5 (4 + k0) 0) (4 + k0) 3)) (hq := hq) (kn := kn) (th := (nI 0)) (sm := sm) (Y := Y)  hX (fun w a b => gwd5_ (by have h8 := h5M w a b; omega))) pk_X4_windows qm_X4_186 0 8 rfl rfl wm_0 rfl rfl (Nat.le_of_ble_eq_true rfl) dX4_close_43 ⟨(Nat.le_of_ble_eq_true rfl), (Nat.le_of_ble_eq_true rfl)⟩ ⟨(Nat.le_of_ble_eq_true rfl), (Nat.le_of_ble_eq_true rfl)⟩ ?_
        refine r_w (w' := WM cy ba ra (dcF (up2 (gaF f hf (4 + k0) 4) 5 (4 + k0) 0) (4 + k0) 3) hq kn (nI 0) sm ++ Y) rfl ?_
        exact r_iret C hr dX4_close_46 ⟨rfl, rfl⟩ (Nat.le_of_ble_eq_true rfl) (Nat.le_of_ble_eq_true rfl)
      · exact absurd h31_3 (by first | omega | (simp [up2, *]; done) | (simp [up2, *]; omega) | (simp only [up2_eq]; omega) | (split <;> omega))
    · exact absurd h20_2 (by first | omega | (simp [up2, *]; done) | (simp [up2, *]; omega) | (simp only [up2_eq]; omega) | (split <;> omega))
  · exact absurd h7_1 (by first | omega | (simp [up2, *]; done) | (simp [up2, *]; omega) | (simp only [up2_eq]; omega) | (split <;> omega))
theorem dX4_windowNow_0 : decode cX4_windowNow 0 = .ok (.aload_n 0, 1) := dqo_42 (kb_of ke_X4_windowNow 0 rfl)
theorem dX4_windowNow_1 : decode cX4_windowNow 1 = .ok (.getfield 18, 3) := dqo_180 0 18 (kb_of ke_X4_windowNow 1 rfl) (kb_of ke_X4_windowNow 2 rfl) (kb_of ke_X4_windowNow 3 rfl)
theorem dX4_windowNow_4 : decode cX4_windowNow 4 = .ok (.iload_n 1, 1) := dqo_27 (kb_of ke_X4_windowNow 4 rfl)
theorem dX4_windowNow_5 : decode cX4_windowNow 5 = .ok (.baload, 1) := dqo_51 (kb_of ke_X4_windowNow 5 rfl)
theorem dX4_windowNow_6 : decode cX4_windowNow 6 = .ok (.ifCond .ne 7, 3) := dqo_154 0 7 (by decide) (kb_of ke_X4_windowNow 6 rfl) (kb_of ke_X4_windowNow 7 rfl) (kb_of ke_X4_windowNow 8 rfl)
theorem dX4_windowNow_9 : decode cX4_windowNow 9 = .ok (.iconst (-1), 1) := dqo_2 (kb_of ke_X4_windowNow 9 rfl)
theorem dX4_windowNow_10 : decode cX4_windowNow 10 = .ok (.goto 37, 3) := dqo_167 0 37 (by decide) (kb_of ke_X4_windowNow 10 rfl) (kb_of ke_X4_windowNow 11 rfl) (kb_of ke_X4_windowNow 12 rfl)
theorem dX4_windowNow_13 : decode cX4_windowNow 13 = .ok (.iload_n 2, 1) := dqo_28 (kb_of ke_X4_windowNow 13 rfl)
theorem dX4_windowNow_14 : decode cX4_windowNow 14 = .ok (.ifCond .ne 12, 3) := dqo_154 0 12 (by decide) (kb_of ke_X4_windowNow 14 rfl) (kb_of ke_X4_windowNow 15 rfl) (kb_of ke_X4_windowNow 16 rfl)
theorem dX4_windowNow_17 : decode cX4_windowNow 17 = .ok (.aload_n 0, 1) := dqo_42 (kb_of ke_X4_windowNow 17 rfl)
theorem dX4_windowNow_18 : decode cX4_windowNow 18 = .ok (.getfield 22, 3) := dqo_180 0 22 (kb_of ke_X4_windowNow 18 rfl) (kb_of ke_X4_windowNow 19 rfl) (kb_of ke_X4_windowNow 20 rfl)
theorem dX4_windowNow_21 : decode cX4_windowNow 21 = .ok (.iload_n 1, 1) := dqo_27 (kb_of ke_X4_windowNow 21 rfl)
theorem dX4_windowNow_22 : decode cX4_windowNow 22 = .ok (.iaload, 1) := dqo_46 (kb_of ke_X4_windowNow 22 rfl)
theorem dX4_windowNow_23 : decode cX4_windowNow 23 = .ok (.goto 24, 3) := dqo_167 0 24 (by decide) (kb_of ke_X4_windowNow 23 rfl) (kb_of ke_X4_windowNow 24 rfl) (kb_of ke_X4_windowNow 25 rfl)
theorem dX4_windowNow_47 : decode cX4_windowNow 47 = .ok (.ireturn, 1) := dqo_172 (kb_of ke_X4_windowNow 47 rfl)
set_option maxRecDepth 100000 in
set_option maxHeartbeats 4000000 in
theorem D_windowNow_0 {l : Launch} {D : va_G} {cy : Nat → ClassId} {X : (Nat → Prop) → State → Heap → Prop} {ba ra : Nat → Nat} {hf : Nat → Nat → Nat} {hq : Nat → Nat → Int32} {kn th : Int32} {sm : Int64} {Y : va_W} {f : Nat → Nat → Nat} {r : Nat → Nat → Int32} {k0 : Nat} (hX : EnvM X cy) (hC : CInv f) (hM : MR f r hf hq) (hk4 : k0 < 4) : Cd l D cy X yX4_windowNow cX4_windowNow 3 (some .int) (rmz 6 190) [.ref (ba 9), .int (nI k0), .int (nI 0)] (WM cy ba ra hf hq kn th sm ++ Y) (some (.int (nI (wqM f hf k0 0)))) (WM cy ba ra hf hq kn th sm ++ Y) := by
  have hG := hM.1
  have h5M := hM.h5M hC
  have h4M := hC.h4M
  have h9a := hM.h9a hC
  have h6a := hM.h6a
  have hU := hM.hU hC
  have q7 := h5M (4 + k0) (by omega) (by omega)
  refine Cm.of [some (.ref (ba 9)), some (.int (nI k0)), some (.int (nI 0))] pn_X4 rfl (Nat.le_of_ble_eq_true rfl) ?_
  intro p e s m args below meth c A C hE hr hnt hn
  refine r_aload_n C dX4_windowNow_0 rfl ?_
  refine m_get (v := .ref (ba 1)) C 1 (by decide) qf_X4_18 rfl rfl dX4_windowNow_1 ?_
  refine r_iload_n C dX4_windowNow_4 rfl ?_
  refine m_zld (i := k0) (z := 4 + k0) (v := hf 5 (4 + k0)) C 0 (by decide) (by decide) (show k0 < 4 from (by first | omega | (simp [up2, *]; done) | (simp [up2, *]; omega) | (simp only [up2_eq]; omega) | (split <;> omega))) (show 4 + k0 = 4 + k0 from (by omega)) rfl dX4_windowNow_5 ?_
  refine r_ifN_ne (a := (hf 5 (4 + k0))) (tgt := 13) C (by omega) dX4_windowNow_6 (by decide) (fun h6_1 => ?_) (fun h6_1 => ?_)
  · first
    | exfalso; first | omega | contradiction
    | skip
      refine r_iload_n C dX4_windowNow_13 rfl ?_
      refine r_ifN_ne (a := 0) (tgt := 26) C (by first | omega | (simp [up2, *]; done) | (simp [up2, *]; omega) | (simp only [up2_eq]; omega) | (split <;> omega)) dX4_windowNow_14 (by decide) (fun h14_2 => ?_) (fun h14_2 => ?_)
      · exact absurd h14_2 (by first | omega | (simp [up2, *]; done) | (simp [up2, *]; omega) | (simp only [up2_eq]; omega) | (split <;> omega))
      · skip
        refine r_aload_n C dX4_windowNow_17 rfl ?_
        refine m_get (v := .ref (ba 2)) C 2 (by decide) qf_X4_22 rfl rfl dX4_windowNow_18 ?_
        refine r_iload_n C dX4_windowNow_21 rfl ?_
        refine m_ald (i := k0) (z := 4 + k0) (v := hf 2 (4 + k0)) C 1 (by decide) (by decide) (show k0 < 4 from (by first | omega | (simp [up2, *]; done) | (simp [up2, *]; omega) | (simp only [up2_eq]; omega) | (split <;> omega))) (show 4 + k0 = 4 + k0 from (by omega)) rfl dX4_windowNow_22 ?_
        refine r_goto (tgt := 47) C dX4_windowNow_23 (by decide) ?_
        exact r_iret C hr dX4_windowNow_47 ⟨by unfold wqM; rw [if_neg (by omega), if_pos rfl], rfl⟩ (Nat.le_of_ble_eq_true rfl) (Nat.le_of_ble_eq_true rfl)
  · first
    | exfalso; first | omega | contradiction
    | skip
      refine r_iconst (v := (nI 4294967295)) C dX4_windowNow_9 (by decide) ?_
      refine r_goto (tgt := 47) C dX4_windowNow_10 (by decide) ?_
      exact r_iret C hr dX4_windowNow_47 ⟨by unfold wqM; rw [if_pos (by omega)], rfl⟩ (Nat.le_of_ble_eq_true rfl) (Nat.le_of_ble_eq_true rfl)
theorem dX4_windowNow_26 : decode cX4_windowNow 26 = .ok (.iload_n 2, 1) := dqo_28 (kb_of ke_X4_windowNow 26 rfl)
theorem dX4_windowNow_27 : decode cX4_windowNow 27 = .ok (.iconst 1, 1) := dqo_4 (kb_of ke_X4_windowNow 27 rfl)
theorem dX4_windowNow_28 : decode cX4_windowNow 28 = .ok (.if_icmp .ne 13, 3) := dqo_160 0 13 (by decide) (kb_of ke_X4_windowNow 28 rfl) (kb_of ke_X4_windowNow 29 rfl) (kb_of ke_X4_windowNow 30 rfl)
theorem dX4_windowNow_31 : decode cX4_windowNow 31 = .ok (.aload_n 0, 1) := dqo_42 (kb_of ke_X4_windowNow 31 rfl)
theorem dX4_windowNow_32 : decode cX4_windowNow 32 = .ok (.iconst 4, 1) := dqo_7 (kb_of ke_X4_windowNow 32 rfl)
theorem dX4_windowNow_33 : decode cX4_windowNow 33 = .ok (.iload_n 1, 1) := dqo_27 (kb_of ke_X4_windowNow 33 rfl)
theorem dX4_windowNow_34 : decode cX4_windowNow 34 = .ok (.iadd, 1) := dqo_96 (kb_of ke_X4_windowNow 34 rfl)
theorem dX4_windowNow_35 : decode cX4_windowNow 35 = .ok (.invokevirtual 48, 3) := dqo_182 0 48 (kb_of ke_X4_windowNow 35 rfl) (kb_of ke_X4_windowNow 36 rfl) (kb_of ke_X4_windowNow 37 rfl)
theorem dX4_windowNow_38 : decode cX4_windowNow 38 = .ok (.goto 9, 3) := dqo_167 0 9 (by decide) (kb_of ke_X4_windowNow 38 rfl) (kb_of ke_X4_windowNow 39 rfl) (kb_of ke_X4_windowNow 40 rfl)
set_option maxRecDepth 100000 in
set_option maxHeartbeats 4000000 in
theorem D_windowNow_1 {l : Launch} {D : va_G} {cy : Nat → ClassId} {X : (Nat → Prop) → State → Heap → Prop} {ba ra : Nat → Nat} {hf : Nat → Nat → Nat} {hq : Nat → Nat → Int32} {kn th : Int32} {sm : Int64} {Y : va_W} {f : Nat → Nat → Nat} {r : Nat → Nat → Int32} {k0 : Nat} (hX : EnvM X cy) (hC : CInv f) (hM : MR f r hf hq) (hk4 : k0 < 4) : Cd l D cy X yX4_windowNow cX4_windowNow 3 (some .int) (rmz 6 190) [.ref (ba 9), .int (nI k0), .int (nI 1)] (WM cy ba ra hf hq kn th sm ++ Y) (some (.int (nI (wqM f hf k0 1)))) (WM cy ba ra hf hq kn th sm ++ Y) := by
  have hG := hM.1
  have h5M := hM.h5M hC
  have h4M := hC.h4M
  have h9a := hM.h9a hC
  have h6a := hM.h6a
  have hU := hM.hU hC
  have q7 := h5M (4 + k0) (by omega) (by omega)
  refine Cm.of [some (.ref (ba 9)), some (.int (nI k0)), some (.int (nI 1))] pn_X4 rfl (Nat.le_of_ble_eq_true rfl) ?_
  intro p e s m args below meth c A C hE hr hnt hn
  refine r_aload_n C dX4_windowNow_0 rfl ?_
  refine m_get (v := .ref (ba 1)) C 1 (by decide) qf_X4_18 rfl rfl dX4_windowNow_1 ?_
  refine r_iload_n C dX4_windowNow_4 rfl ?_
  refine m_zld (i := k0) (z := 4 + k0) (v := hf 5 (4 + k0)) C 0 (by decide) (by decide) (show k0 < 4 from (by first | omega | (simp [up2, *]; done) | (simp [up2, *]; omega) | (simp only [up2_eq]; omega) | (split <;> omega))) (show 4 + k0 = 4 + k0 from (by omega)) rfl dX4_windowNow_5 ?_
  refine r_ifN_ne (a := (hf 5 (4 + k0))) (tgt := 13) C (by omega) dX4_windowNow_6 (by decide) (fun h6_1 => ?_) (fun h6_1 => ?_)
  · first
    | exfalso; first | omega | contradiction
    | skip
      refine r_iload_n C dX4_windowNow_13 rfl ?_
      refine r_ifN_ne (a := 1) (tgt := 26) C (by first | omega | (simp [up2, *]; done) | (simp [up2, *]; omega) | (simp only [up2_eq]; omega) | (split <;> omega)) dX4_windowNow_14 (by decide) (fun h14_2 => ?_) (fun h14_2 => ?_)
      · skip
        refine r_iload_n C dX4_windowNow_26 rfl ?_
        refine r_iconst (v := (nI 1)) C dX4_windowNow_27 (by decide) ?_
        refine r_icN_ne (a := 1) (b := 1) (tgt := 41) C (by first | omega | (simp [up2, *]; done) | (simp [up2, *]; omega) | (simp only [up2_eq]; omega) | (split <;> omega)) (by first | omega | (simp [up2, *]; done) | (simp [up2, *]; omega) | (simp only [up2_eq]; omega) | (split <;> omega)) dX4_windowNow_28 (by decide) (fun h28_3 => ?_) (fun h28_3 => ?_)
        · exact absurd h28_3 (by first | omega | (simp [up2, *]; done) | (simp [up2, *]; omega) | (simp only [up2_eq]; omega) | (split <;> omega))
        · skip
          refine r_aload_n C dX4_windowNow_31 rfl ?_
          refine r_iconst (v := (nI 4)) C dX4_windowNow_32 (by decide) ?_
          refine r_iload_n C dX4_windowNow_33 rfl ?_
          refine r_iaddN C dX4_windowNow_34 ?_
          refine d_V (st := []) hX.1.stb C hE (D_rowOf (ba := ba) (ra := ra) (hf := hf) (hq := hq) (kn := kn) (th := th) (sm := sm) (Y := Y) (f := f) (w := (4 + k0)) hX hC (MG.same (fun _ => rfl) (fun _ => rfl) hG) (show 4 + k0 < 8 by omega) (show f 5 (4 + k0) = 1 by omega)) pk_X4_rowOf qm_X4_48 0 8 rfl rfl wm_0 rfl rfl (Nat.le_of_ble_eq_true rfl) dX4_windowNow_35 ⟨(Nat.le_of_ble_eq_true rfl), (Nat.le_of_ble_eq_true rfl)⟩ ⟨(Nat.le_of_ble_eq_true rfl), (Nat.le_of_ble_eq_true rfl)⟩ ?_
          refine r_w (w' := WM cy ba ra hf hq kn th sm ++ Y) rfl ?_
          refine r_goto (tgt := 47) C dX4_windowNow_38 (by decide) ?_
          exact r_iret C hr dX4_windowNow_47 ⟨by unfold wqM; rw [if_neg (by omega), if_neg (by decide), if_pos rfl], rfl⟩ (Nat.le_of_ble_eq_true rfl) (Nat.le_of_ble_eq_true rfl)
      · exact absurd h14_2 (by first | omega | (simp [up2, *]; done) | (simp [up2, *]; omega) | (simp only [up2_eq]; omega) | (split <;> omega))
  · first
    | exfalso; first | omega | contradiction
    | skip
      refine r_iconst (v := (nI 4294967295)) C dX4_windowNow_9 (by decide) ?_
      refine r_goto (tgt := 47) C dX4_windowNow_10 (by decide) ?_
      exact r_iret C hr dX4_windowNow_47 ⟨by unfold wqM; rw [if_pos (by omega)], rfl⟩ (Nat.le_of_ble_eq_true rfl) (Nat.le_of_ble_eq_true rfl)
theorem dX4_windowNow_41 : decode cX4_windowNow 41 = .ok (.aload_n 0, 1) := dqo_42 (kb_of ke_X4_windowNow 41 rfl)
theorem dX4_windowNow_42 : decode cX4_windowNow 42 = .ok (.getfield 29, 3) := dqo_180 0 29 (kb_of ke_X4_windowNow 42 rfl) (kb_of ke_X4_windowNow 43 rfl) (kb_of ke_X4_windowNow 44 rfl)
theorem dX4_windowNow_45 : decode cX4_windowNow 45 = .ok (.iload_n 1, 1) := dqo_27 (kb_of ke_X4_windowNow 45 rfl)
theorem dX4_windowNow_46 : decode cX4_windowNow 46 = .ok (.iaload, 1) := dqo_46 (kb_of ke_X4_windowNow 46 rfl)
set_option maxRecDepth 100000 in
set_option maxHeartbeats 4000000 in
theorem D_windowNow_2 {l : Launch} {D : va_G} {cy : Nat → ClassId} {X : (Nat → Prop) → State → Heap → Prop} {ba ra : Nat → Nat} {hf : Nat → Nat → Nat} {hq : Nat → Nat → Int32} {kn th : Int32} {sm : Int64} {Y : va_W} {f : Nat → Nat → Nat} {r : Nat → Nat → Int32} {k0 : Nat} (hX : EnvM X cy) (hC : CInv f) (hM : MR f r hf hq) (hk4 : k0 < 4) : Cd l D cy X yX4_windowNow cX4_windowNow 3 (some .int) (rmz 6 190) [.ref (ba 9), .int (nI k0), .int (nI 2)] (WM cy ba ra hf hq kn th sm ++ Y) (some (.int (nI (wqM f hf k0 2)))) (WM cy ba ra hf hq kn th sm ++ Y) := by
  have hG := hM.1
  have h5M := hM.h5M hC
  have h4M := hC.h4M
  have h9a := hM.h9a hC
  have h6a := hM.h6a
  have hU := hM.hU hC
  have q7 := h5M (4 + k0) (by omega) (by omega)
  refine Cm.of [some (.ref (ba 9)), some (.int (nI k0)), some (.int (nI 2))] pn_X4 rfl (Nat.le_of_ble_eq_true rfl) ?_
  intro p e s m args below meth c A C hE hr hnt hn
  refine r_aload_n C dX4_windowNow_0 rfl ?_
  refine m_get (v := .ref (ba 1)) C 1 (by decide) qf_X4_18 rfl rfl dX4_windowNow_1 ?_
  refine r_iload_n C dX4_windowNow_4 rfl ?_
  refine m_zld (i := k0) (z := 4 + k0) (v := hf 5 (4 + k0)) C 0 (by decide) (by decide) (show k0 < 4 from (by first | omega | (simp [up2, *]; done) | (simp [up2, *]; omega) | (simp only [up2_eq]; omega) | (split <;> omega))) (show 4 + k0 = 4 + k0 from (by omega)) rfl dX4_windowNow_5 ?_
  refine r_ifN_ne (a := (hf 5 (4 + k0))) (tgt := 13) C (by omega) dX4_windowNow_6 (by decide) (fun h6_1 => ?_) (fun h6_1 => ?_)
  · first
    | exfalso; first | omega | contradiction
    | skip
      refine r_iload_n C dX4_windowNow_13 rfl ?_
      refine r_ifN_ne (a := 2) (tgt := 26) C (by first | omega | (simp [up2, *]; done) | (simp [up2, *]; omega) | (simp only [up2_eq]; omega) | (split <;> omega)) dX4_windowNow_14 (by decide) (fun h14_2 => ?_) (fun h14_2 => ?_)
      · skip
        refine r_iload_n C dX4_windowNow_26 rfl ?_
        refine r_iconst (v := (nI 1)) C dX4_windowNow_27 (by decide) ?_
        refine r_icN_ne (a := 2) (b := 1) (tgt := 41) C (by first | omega | (simp [up2, *]; done) | (simp [up2, *]; omega) | (simp only [up2_eq]; omega) | (split <;> omega)) (by first | omega | (simp [up2, *]; done) | (simp [up2, *]; omega) | (simp only [up2_eq]; omega) | (split <;> omega)) dX4_windowNow_28 (by decide) (fun h28_3 => ?_) (fun h28_3 => ?_)
        · skip
          refine r_aload_n C dX4_windowNow_41 rfl ?_
          refine m_get (v := .ref (ba 4)) C 4 (by decide) qf_X4_29 rfl rfl dX4_windowNow_42 ?_
          refine r_iload_n C dX4_windowNow_45 rfl ?_
          refine m_ald (i := k0) (z := 4 + k0) (v := hf 4 (4 + k0)) C 3 (by decide) (by decide) (show k0 < 4 from (by first | omega | (simp [up2, *]; done) | (simp [up2, *]; omega) | (simp only [up2_eq]; omega) | (split <;> omega))) (show 4 + k0 = 4 + k0 from (by omega)) rfl dX4_windowNow_46 ?_
          exact r_iret C hr dX4_windowNow_47 ⟨by unfold wqM; rw [if_neg (by omega), if_neg (by decide), if_neg (by decide)], rfl⟩ (Nat.le_of_ble_eq_true rfl) (Nat.le_of_ble_eq_true rfl)
        · exact absurd h28_3 (by first | omega | (simp [up2, *]; done) | (simp [up2, *]; omega) | (simp only [up2_eq]; omega) | (split <;> omega))
      · exact absurd h14_2 (by first | omega | (simp [up2, *]; done) | (simp [up2, *]; omega) | (simp only [up2_eq]; omega) | (split <;> omega))
  · first
    | exfalso; first | omega | contradiction
    | skip
      refine r_iconst (v := (nI 4294967295)) C dX4_windowNow_9 (by decide) ?_
      refine r_goto (tgt := 47) C dX4_windowNow_10 (by decide) ?_
      exact r_iret C hr dX4_windowNow_47 ⟨by unfold wqM; rw [if_pos (by omega)], rfl⟩ (Nat.le_of_ble_eq_true rfl) (Nat.le_of_ble_eq_true rfl)
theorem D_windowNow {l : Launch} {D : va_G} {cy : Nat → ClassId} {X : (Nat → Prop) → State → Heap → Prop} {ba ra : Nat → Nat} {hf : Nat → Nat → Nat} {hq : Nat → Nat → Int32} {kn th : Int32} {sm : Int64} {Y : va_W} {f : Nat → Nat → Nat} {r : Nat → Nat → Int32} {k0 q0 : Nat} (hX : EnvM X cy) (hC : CInv f) (hM : MR f r hf hq) (hk4 : k0 < 4) (hq3 : q0 < 3) : Cd l D cy X yX4_windowNow cX4_windowNow 3 (some .int) (rmz 6 190) [.ref (ba 9), .int (nI k0), .int (nI q0)] (WM cy ba ra hf hq kn th sm ++ Y) (some (.int (nI (wqM f hf k0 q0)))) (WM cy ba ra hf hq kn th sm ++ Y) := by
  obtain rfl | rfl | rfl : q0 = 0 ∨ q0 = 1 ∨ q0 = 2 := by omega
  · exact D_windowNow_0 hX hC hM hk4
  · exact D_windowNow_1 hX hC hM hk4
  · exact D_windowNow_2 hX hC hM hk4
theorem dX4_ofWindow_0 : decode cX4_ofWindow 0 = .ok (.aload_n 0, 1) := dqo_42 (kb_of ke_X4_ofWindow 0 rfl)
theorem dX4_ofWindow_1 : decode cX4_ofWindow 1 = .ok (.iload_n 1, 1) := dqo_27 (kb_of ke_X4_ofWindow 1 rfl)
theorem dX4_ofWindow_2 : decode cX4_ofWindow 2 = .ok (.iconst 0, 1) := dqo_3 (kb_of ke_X4_ofWindow 2 rfl)
theorem dX4_ofWindow_3 : decode cX4_ofWindow 3 = .ok (.iconst 3, 1) := dqo_6 (kb_of ke_X4_ofWindow 3 rfl)
theorem dX4_ofWindow_4 : decode cX4_ofWindow 4 = .ok (.invokestatic 1, 3) := dqo_184 0 1 (kb_of ke_X4_ofWindow 4 rfl) (kb_of ke_X4_ofWindow 5 rfl) (kb_of ke_X4_ofWindow 6 rfl)
theorem dX4_ofWindow_7 : decode cX4_ofWindow 7 = .ok (.ifCond .ne 7, 3) := dqo_154 0 7 (by decide) (kb_of ke_X4_ofWindow 7 rfl) (kb_of ke_X4_ofWindow 8 rfl) (kb_of ke_X4_ofWindow 9 rfl)
theorem dX4_ofWindow_10 : decode cX4_ofWindow 10 = .ok (.iconst 1, 1) := dqo_4 (kb_of ke_X4_ofWindow 10 rfl)
theorem dX4_ofWindow_11 : decode cX4_ofWindow 11 = .ok (.goto 4, 3) := dqo_167 0 4 (by decide) (kb_of ke_X4_ofWindow 11 rfl) (kb_of ke_X4_ofWindow 12 rfl) (kb_of ke_X4_ofWindow 13 rfl)
theorem dX4_ofWindow_15 : decode cX4_ofWindow 15 = .ok (.iload_n 2, 1) := dqo_28 (kb_of ke_X4_ofWindow 15 rfl)
theorem dX4_ofWindow_16 : decode cX4_ofWindow 16 = .ok (.iconst 0, 1) := dqo_3 (kb_of ke_X4_ofWindow 16 rfl)
theorem dX4_ofWindow_17 : decode cX4_ofWindow 17 = .ok (.iconst 2, 1) := dqo_5 (kb_of ke_X4_ofWindow 17 rfl)
theorem dX4_ofWindow_18 : decode cX4_ofWindow 18 = .ok (.invokestatic 1, 3) := dqo_184 0 1 (kb_of ke_X4_ofWindow 18 rfl) (kb_of ke_X4_ofWindow 19 rfl) (kb_of ke_X4_ofWindow 20 rfl)
theorem dX4_ofWindow_21 : decode cX4_ofWindow 21 = .ok (.ifCond .ne 7, 3) := dqo_154 0 7 (by decide) (kb_of ke_X4_ofWindow 21 rfl) (kb_of ke_X4_ofWindow 22 rfl) (kb_of ke_X4_ofWindow 23 rfl)
theorem dX4_ofWindow_24 : decode cX4_ofWindow 24 = .ok (.iconst 1, 1) := dqo_4 (kb_of ke_X4_ofWindow 24 rfl)
theorem dX4_ofWindow_25 : decode cX4_ofWindow 25 = .ok (.goto 4, 3) := dqo_167 0 4 (by decide) (kb_of ke_X4_ofWindow 25 rfl) (kb_of ke_X4_ofWindow 26 rfl) (kb_of ke_X4_ofWindow 27 rfl)
theorem dX4_ofWindow_28 : decode cX4_ofWindow 28 = .ok (.iconst 0, 1) := dqo_3 (kb_of ke_X4_ofWindow 28 rfl)
theorem dX4_ofWindow_29 : decode cX4_ofWindow 29 = .ok (.iconst 0, 1) := dqo_3 (kb_of ke_X4_ofWindow 29 rfl)
theorem dX4_ofWindow_30 : decode cX4_ofWindow 30 = .ok (.invokevirtual 84, 3) := dqo_182 0 84 (kb_of ke_X4_ofWindow 30 rfl) (kb_of ke_X4_ofWindow 31 rfl) (kb_of ke_X4_ofWindow 32 rfl)
theorem dX4_ofWindow_33 : decode cX4_ofWindow 33 = .ok (.ifCond .eq 7, 3) := dqo_153 0 7 (by decide) (kb_of ke_X4_ofWindow 33 rfl) (kb_of ke_X4_ofWindow 34 rfl) (kb_of ke_X4_ofWindow 35 rfl)
theorem dX4_ofWindow_36 : decode cX4_ofWindow 36 = .ok (.iconst 0, 1) := dqo_3 (kb_of ke_X4_ofWindow 36 rfl)
theorem dX4_ofWindow_37 : decode cX4_ofWindow 37 = .ok (.goto 9, 3) := dqo_167 0 9 (by decide) (kb_of ke_X4_ofWindow 37 rfl) (kb_of ke_X4_ofWindow 38 rfl) (kb_of ke_X4_ofWindow 39 rfl)
theorem dX4_ofWindow_46 : decode cX4_ofWindow 46 = .ok (.ireturn, 1) := dqo_172 (kb_of ke_X4_ofWindow 46 rfl)
set_option maxRecDepth 100000 in
set_option maxHeartbeats 4000000 in
theorem D_ofWindow_noK {l : Launch} {D : va_G} {cy : Nat → ClassId} {X : (Nat → Prop) → State → Heap → Prop} {ba ra : Nat → Nat} {hf : Nat → Nat → Nat} {hq : Nat → Nat → Int32} {kn th : Int32} {sm : Int64} {Y : va_W} {f : Nat → Nat → Nat} {r : Nat → Nat → Int32} {x : Int32} {y0 : Int32} (hX : EnvM X cy) (hC : CInv f) (hM : MR f r hf hq) (hno : ¬ (0 ≤ x ∧ x < nI 4)) : Cd l D cy X yX4_ofWindow cX4_ofWindow 3 (some .int) (rmk 9 4 48 420) [.ref (ba 9), .int x, .int y0] (WM cy ba ra hf hq kn th sm ++ Y) (some (.int (nI 0))) (WM cy ba ra hf hq kn (nI 1) sm ++ Y) := by
  have hG := hM.1
  have h5M := hM.h5M hC
  have h4M := hC.h4M
  have h9a := hM.h9a hC
  have h6a := hM.h6a
  have hU := hM.hU hC
  refine Cm.of [some (.ref (ba 9)), some (.int x), some (.int y0)] pn_X4 rfl (Nat.le_of_ble_eq_true rfl) ?_
  intro p e s m args below meth c A C hE hr hnt hn
  refine r_aload_n C dX4_ofWindow_0 rfl ?_
  refine r_iload_n C dX4_ofWindow_1 rfl ?_
  refine r_iconst (v := (nI 0)) C dX4_ofWindow_2 (by decide) ?_
  refine r_iconst (v := (nI 3)) C dX4_ofWindow_3 (by decide) ?_
  refine d_S (st := [.ref (ba 9)]) hX.1.stb C hE (D_isIn0 (ba := ba) (ra := ra) (hf := hf) (hq := hq) (kn := kn) (th := th) (sm := sm) (Y := Y) (x := (x)) (y := ((nI 0))) (z := ((nI 3))) hX (fun z => hno ⟨z.1, Int32.lt_of_le_of_lt z.2 (by decide)⟩)) pk_X4_isIn qm_X4_1 rfl rfl (Nat.le_of_ble_eq_true rfl) dX4_ofWindow_4 ⟨(Nat.le_of_ble_eq_true rfl), (Nat.le_of_ble_eq_true rfl)⟩ ⟨(Nat.le_of_ble_eq_true rfl), (Nat.le_of_ble_eq_true rfl)⟩ ?_
  refine r_w (w' := WM cy ba ra hf hq kn th sm ++ Y) rfl ?_
  refine r_ifN_ne (a := 0) (tgt := 14) C (by first | omega | (simp [up2, *]; done) | (simp [up2, *]; omega) | (simp only [up2_eq]; omega) | (split <;> omega)) dX4_ofWindow_7 (by decide) (fun h7_1 => ?_) (fun h7_1 => ?_)
  · exact absurd h7_1 (by first | omega | (simp [up2, *]; done) | (simp [up2, *]; omega) | (simp only [up2_eq]; omega) | (split <;> omega))
  · skip
    refine r_iconst (v := (nI 1)) C dX4_ofWindow_10 (by decide) ?_
    refine r_goto (tgt := 15) C dX4_ofWindow_11 (by decide) ?_
    refine r_iload_n C dX4_ofWindow_15 rfl ?_
    refine r_iconst (v := (nI 0)) C dX4_ofWindow_16 (by decide) ?_
    refine r_iconst (v := (nI 2)) C dX4_ofWindow_17 (by decide) ?_
    refine d_S (st := [.int (nI 1), .ref (ba 9)]) hX.1.stb C hE (D_isInX (ba := ba) (ra := ra) (hf := hf) (hq := hq) (kn := kn) (th := th) (sm := sm) (Y := Y) (x := (y0)) (y := ((nI 0))) (z := ((nI 2))) hX ) pk_X4_isIn qm_X4_1 rfl rfl (Nat.le_of_ble_eq_true rfl) dX4_ofWindow_18 ⟨(Nat.le_of_ble_eq_true rfl), (Nat.le_of_ble_eq_true rfl)⟩ ⟨(Nat.le_of_ble_eq_true rfl), (Nat.le_of_ble_eq_true rfl)⟩ ?_
    refine r_w (w' := WM cy ba ra hf hq kn th sm ++ Y) rfl ?_
    refine r_ifN_ne (a := (if ((nI 0)) ≤ (y0) ∧ (y0) ≤ ((nI 2)) then 1 else 0)) (tgt := 28) C (by first | omega | (simp [up2, *]; done) | (simp [up2, *]; omega) | (simp only [up2_eq]; omega) | (split <;> omega)) dX4_ofWindow_21 (by decide) (fun h21_2 => ?_) (fun h21_2 => ?_)
    · first
      | exfalso; first | omega | contradiction
      | skip
        refine r_iconst (v := (nI 0)) C dX4_ofWindow_28 (by decide) ?_
        refine r_iconst (v := (nI 0)) C dX4_ofWindow_29 (by decide) ?_
        refine d_V (st := []) hX.1.stb C hE (D_fails1 (ba := ba) (ra := ra) (hf := hf) (hq := hq) (kn := kn) (th := th) (sm := sm) (Y := Y) (b0 := 0) (d0 := 0) hX ) pk_X4_fails qm_X4_84 0 8 rfl rfl wm_0 rfl rfl (Nat.le_of_ble_eq_true rfl) dX4_ofWindow_30 ⟨(Nat.le_of_ble_eq_true rfl), (Nat.le_of_ble_eq_true rfl)⟩ ⟨(Nat.le_of_ble_eq_true rfl), (Nat.le_of_ble_eq_true rfl)⟩ ?_
        refine r_w (w' := WM cy ba ra hf hq kn (nI 1) sm ++ Y) rfl ?_
        refine r_ifN_eq (a := 1) (tgt := 40) C (by first | omega | (simp [up2, *]; done) | (simp [up2, *]; omega) | (simp only [up2_eq]; omega) | (split <;> omega)) dX4_ofWindow_33 (by decide) (fun h33_3 => ?_) (fun h33_3 => ?_)
        · exact absurd h33_3 (by first | omega | (simp [up2, *]; done) | (simp [up2, *]; omega) | (simp only [up2_eq]; omega) | (split <;> omega))
        · skip
          refine r_iconst (v := (nI 0)) C dX4_ofWindow_36 (by decide) ?_
          refine r_goto (tgt := 46) C dX4_ofWindow_37 (by decide) ?_
          exact r_iret C hr dX4_ofWindow_46 ⟨rfl, rfl⟩ (Nat.le_of_ble_eq_true rfl) (Nat.le_of_ble_eq_true rfl)
    · first
      | exfalso; first | omega | contradiction
      | skip
        refine r_iconst (v := (nI 1)) C dX4_ofWindow_24 (by decide) ?_
        refine r_goto (tgt := 29) C dX4_ofWindow_25 (by decide) ?_
        refine r_iconst (v := (nI 0)) C dX4_ofWindow_29 (by decide) ?_
        refine d_V (st := []) hX.1.stb C hE (D_fails1 (ba := ba) (ra := ra) (hf := hf) (hq := hq) (kn := kn) (th := th) (sm := sm) (Y := Y) (b0 := 1) (d0 := 0) hX ) pk_X4_fails qm_X4_84 0 8 rfl rfl wm_0 rfl rfl (Nat.le_of_ble_eq_true rfl) dX4_ofWindow_30 ⟨(Nat.le_of_ble_eq_true rfl), (Nat.le_of_ble_eq_true rfl)⟩ ⟨(Nat.le_of_ble_eq_true rfl), (Nat.le_of_ble_eq_true rfl)⟩ ?_
        refine r_w (w' := WM cy ba ra hf hq kn (nI 1) sm ++ Y) rfl ?_
        refine r_ifN_eq (a := 1) (tgt := 40) C (by first | omega | (simp [up2, *]; done) | (simp [up2, *]; omega) | (simp only [up2_eq]; omega) | (split <;> omega)) dX4_ofWindow_33 (by decide) (fun h33_4 => ?_) (fun h33_4 => ?_)
        · exact absurd h33_4 (by first | omega | (simp [up2, *]; done) | (simp [up2, *]; omega) | (simp only [up2_eq]; omega) | (split <;> omega))
        · skip
          refine r_iconst (v := (nI 0)) C dX4_ofWindow_36 (by decide) ?_
          refine r_goto (tgt := 46) C dX4_ofWindow_37 (by decide) ?_
          exact r_iret C hr dX4_ofWindow_46 ⟨rfl, rfl⟩ (Nat.le_of_ble_eq_true rfl) (Nat.le_of_ble_eq_true rfl)
theorem dX4_ofWindow_14 : decode cX4_ofWindow 14 = .ok (.iconst 0, 1) := dqo_3 (kb_of ke_X4_ofWindow 14 rfl)
set_option maxRecDepth 100000 in
set_option maxHeartbeats 4000000 in
theorem D_ofWindow_noQ {l : Launch} {D : va_G} {cy : Nat → ClassId} {X : (Nat → Prop) → State → Heap → Prop} {ba ra : Nat → Nat} {hf : Nat → Nat → Nat} {hq : Nat → Nat → Int32} {kn th : Int32} {sm : Int64} {Y : va_W} {f : Nat → Nat → Nat} {r : Nat → Nat → Int32} {k0 : Nat} {x : Int32} (hX : EnvM X cy) (hC : CInv f) (hM : MR f r hf hq) (hk4 : k0 < 4) (hno : ¬ (0 ≤ x ∧ x < nI 3)) : Cd l D cy X yX4_ofWindow cX4_ofWindow 3 (some .int) (rmk 9 4 48 420) [.ref (ba 9), .int (nI k0), .int x] (WM cy ba ra hf hq kn th sm ++ Y) (some (.int (nI 0))) (WM cy ba ra hf hq kn (nI 2) sm ++ Y) := by
  have hG := hM.1
  have h5M := hM.h5M hC
  have h4M := hC.h4M
  have h9a := hM.h9a hC
  have h6a := hM.h6a
  have hU := hM.hU hC
  refine Cm.of [some (.ref (ba 9)), some (.int (nI k0)), some (.int x)] pn_X4 rfl (Nat.le_of_ble_eq_true rfl) ?_
  intro p e s m args below meth c A C hE hr hnt hn
  refine r_aload_n C dX4_ofWindow_0 rfl ?_
  refine r_iload_n C dX4_ofWindow_1 rfl ?_
  refine r_iconst (v := (nI 0)) C dX4_ofWindow_2 (by decide) ?_
  refine r_iconst (v := (nI 3)) C dX4_ofWindow_3 (by decide) ?_
  refine d_S (st := [.ref (ba 9)]) hX.1.stb C hE (D_isInN (ba := ba) (ra := ra) (hf := hf) (hq := hq) (kn := kn) (th := th) (sm := sm) (Y := Y) (a0 := k0) (b0 := 0) (d0 := 3) hX (by first | omega | (simp [up2, *]; done) | (simp [up2, *]; omega) | (simp only [up2_eq]; omega) | (split <;> omega)) (by first | omega | (simp [up2, *]; done) | (simp [up2, *]; omega) | (simp only [up2_eq]; omega) | (split <;> omega)) (by first | omega | (simp [up2, *]; done) | (simp [up2, *]; omega) | (simp only [up2_eq]; omega) | (split <;> omega))) pk_X4_isIn qm_X4_1 rfl rfl (Nat.le_of_ble_eq_true rfl) dX4_ofWindow_4 ⟨(Nat.le_of_ble_eq_true rfl), (Nat.le_of_ble_eq_true rfl)⟩ ⟨(Nat.le_of_ble_eq_true rfl), (Nat.le_of_ble_eq_true rfl)⟩ ?_
  refine r_w (w' := WM cy ba ra hf hq kn th sm ++ Y) rfl ?_
  refine r_ifN_ne (a := 1) (tgt := 14) C (by first | omega | (simp [up2, *]; done) | (simp [up2, *]; omega) | (simp only [up2_eq]; omega) | (split <;> omega)) dX4_ofWindow_7 (by decide) (fun h7_1 => ?_) (fun h7_1 => ?_)
  · skip
    refine r_iconst (v := (nI 0)) C dX4_ofWindow_14 (by decide) ?_
    refine r_iload_n C dX4_ofWindow_15 rfl ?_
    refine r_iconst (v := (nI 0)) C dX4_ofWindow_16 (by decide) ?_
    refine r_iconst (v := (nI 2)) C dX4_ofWindow_17 (by decide) ?_
    refine d_S (st := [.int (nI 0), .ref (ba 9)]) hX.1.stb C hE (D_isIn0 (ba := ba) (ra := ra) (hf := hf) (hq := hq) (kn := kn) (th := th) (sm := sm) (Y := Y) (x := (x)) (y := ((nI 0))) (z := ((nI 2))) hX (fun z => hno ⟨z.1, Int32.lt_of_le_of_lt z.2 (by decide)⟩)) pk_X4_isIn qm_X4_1 rfl rfl (Nat.le_of_ble_eq_true rfl) dX4_ofWindow_18 ⟨(Nat.le_of_ble_eq_true rfl), (Nat.le_of_ble_eq_true rfl)⟩ ⟨(Nat.le_of_ble_eq_true rfl), (Nat.le_of_ble_eq_true rfl)⟩ ?_
    refine r_w (w' := WM cy ba ra hf hq kn th sm ++ Y) rfl ?_
    refine r_ifN_ne (a := 0) (tgt := 28) C (by first | omega | (simp [up2, *]; done) | (simp [up2, *]; omega) | (simp only [up2_eq]; omega) | (split <;> omega)) dX4_ofWindow_21 (by decide) (fun h21_2 => ?_) (fun h21_2 => ?_)
    · exact absurd h21_2 (by first | omega | (simp [up2, *]; done) | (simp [up2, *]; omega) | (simp only [up2_eq]; omega) | (split <;> omega))
    · skip
      refine r_iconst (v := (nI 1)) C dX4_ofWindow_24 (by decide) ?_
      refine r_goto (tgt := 29) C dX4_ofWindow_25 (by decide) ?_
      refine r_iconst (v := (nI 0)) C dX4_ofWindow_29 (by decide) ?_
      refine d_V (st := []) hX.1.stb C hE (D_fails2 (ba := ba) (ra := ra) (hf := hf) (hq := hq) (kn := kn) (th := th) (sm := sm) (Y := Y) (d0 := 0) hX ) pk_X4_fails qm_X4_84 0 8 rfl rfl wm_0 rfl rfl (Nat.le_of_ble_eq_true rfl) dX4_ofWindow_30 ⟨(Nat.le_of_ble_eq_true rfl), (Nat.le_of_ble_eq_true rfl)⟩ ⟨(Nat.le_of_ble_eq_true rfl), (Nat.le_of_ble_eq_true rfl)⟩ ?_
      refine r_w (w' := WM cy ba ra hf hq kn (nI 2) sm ++ Y) rfl ?_
      refine r_ifN_eq (a := 1) (tgt := 40) C (by first | omega | (simp [up2, *]; done) | (simp [up2, *]; omega) | (simp only [up2_eq]; omega) | (split <;> omega)) dX4_ofWindow_33 (by decide) (fun h33_3 => ?_) (fun h33_3 => ?_)
      · exact absurd h33_3 (by first | omega | (simp [up2, *]; done) | (simp [up2, *]; omega) | (simp only [up2_eq]; omega) | (split <;> omega))
      · skip
        refine r_iconst (v := (nI 0)) C dX4_ofWindow_36 (by decide) ?_
        refine r_goto (tgt := 46) C dX4_ofWindow_37 (by decide) ?_
        exact r_iret C hr dX4_ofWindow_46 ⟨rfl, rfl⟩ (Nat.le_of_ble_eq_true rfl) (Nat.le_of_ble_eq_true rfl)
  · exact absurd h7_1 (by first | omega | (simp [up2, *]; done) | (simp [up2, *]; omega) | (simp only [up2_eq]; omega) | (split <;> omega))
theorem pk_X4_windowNow : PkV RX4 yX4_windowNow cX4_windowNow 3 (some .int) 2 := ⟨⟨qi_X4_windowNow, qs_X4_windowNow, qz_X4, qc_X4_windowNow⟩, rfl, mh_X4.1, mh_X4.2, pd_0⟩
theorem dX4_ofWindow_40 : decode cX4_ofWindow 40 = .ok (.aload_n 0, 1) := dqo_42 (kb_of ke_X4_ofWindow 40 rfl)
theorem dX4_ofWindow_41 : decode cX4_ofWindow 41 = .ok (.iload_n 1, 1) := dqo_27 (kb_of ke_X4_ofWindow 41 rfl)
theorem dX4_ofWindow_42 : decode cX4_ofWindow 42 = .ok (.iload_n 2, 1) := dqo_28 (kb_of ke_X4_ofWindow 42 rfl)
theorem dX4_ofWindow_43 : decode cX4_ofWindow 43 = .ok (.invokevirtual 190, 3) := dqo_182 0 190 (kb_of ke_X4_ofWindow 43 rfl) (kb_of ke_X4_ofWindow 44 rfl) (kb_of ke_X4_ofWindow 45 rfl)
set_option maxRecDepth 100000 in
set_option maxHeartbeats 4000000 in
theorem D_ofWindow_ok {l : Launch} {D : va_G} {cy : Nat → ClassId} {X : (Nat → Prop) → State → Heap → Prop} {ba ra : Nat → Nat} {hf : Nat → Nat → Nat} {hq : Nat → Nat → Int32} {kn th : Int32} {sm : Int64} {Y : va_W} {f : Nat → Nat → Nat} {r : Nat → Nat → Int32} {k0 : Nat} {q0 : Nat} (hX : EnvM X cy) (hC : CInv f) (hM : MR f r hf hq) (hk4 : k0 < 4) (hq3 : q0 < 3) : Cd l D cy X yX4_ofWindow cX4_ofWindow 3 (some .int) (rmk 9 4 48 420) [.ref (ba 9), .int (nI k0), .int (nI q0)] (WM cy ba ra hf hq kn th sm ++ Y) (some (.int (nI (wqM f hf k0 q0)))) (WM cy ba ra hf hq kn (nI 0) sm ++ Y) := by
  have hG := hM.1
  have h5M := hM.h5M hC
  have h4M := hC.h4M
  have h9a := hM.h9a hC
  have h6a := hM.h6a
  have hU := hM.hU hC
  refine Cm.of [some (.ref (ba 9)), some (.int (nI k0)), some (.int (nI q0))] pn_X4 rfl (Nat.le_of_ble_eq_true rfl) ?_
  intro p e s m args below meth c A C hE hr hnt hn
  refine r_aload_n C dX4_ofWindow_0 rfl ?_
  refine r_iload_n C dX4_ofWindow_1 rfl ?_
  refine r_iconst (v := (nI 0)) C dX4_ofWindow_2 (by decide) ?_
  refine r_iconst (v := (nI 3)) C dX4_ofWindow_3 (by decide) ?_
  refine d_S (st := [.ref (ba 9)]) hX.1.stb C hE (D_isInN (ba := ba) (ra := ra) (hf := hf) (hq := hq) (kn := kn) (th := th) (sm := sm) (Y := Y) (a0 := k0) (b0 := 0) (d0 := 3) hX (by first | omega | (simp [up2, *]; done) | (simp [up2, *]; omega) | (simp only [up2_eq]; omega) | (split <;> omega)) (by first | omega | (simp [up2, *]; done) | (simp [up2, *]; omega) | (simp only [up2_eq]; omega) | (split <;> omega)) (by first | omega | (simp [up2, *]; done) | (simp [up2, *]; omega) | (simp only [up2_eq]; omega) | (split <;> omega))) pk_X4_isIn qm_X4_1 rfl rfl (Nat.le_of_ble_eq_true rfl) dX4_ofWindow_4 ⟨(Nat.le_of_ble_eq_true rfl), (Nat.le_of_ble_eq_true rfl)⟩ ⟨(Nat.le_of_ble_eq_true rfl), (Nat.le_of_ble_eq_true rfl)⟩ ?_
  refine r_w (w' := WM cy ba ra hf hq kn th sm ++ Y) rfl ?_
  refine r_ifN_ne (a := 1) (tgt := 14) C (by first | omega | (simp [up2, *]; done) | (simp [up2, *]; omega) | (simp only [up2_eq]; omega) | (split <;> omega)) dX4_ofWindow_7 (by decide) (fun h7_1 => ?_) (fun h7_1 => ?_)
  · skip
    refine r_iconst (v := (nI 0)) C dX4_ofWindow_14 (by decide) ?_
    refine r_iload_n C dX4_ofWindow_15 rfl ?_
    refine r_iconst (v := (nI 0)) C dX4_ofWindow_16 (by decide) ?_
    refine r_iconst (v := (nI 2)) C dX4_ofWindow_17 (by decide) ?_
    refine d_S (st := [.int (nI 0), .ref (ba 9)]) hX.1.stb C hE (D_isInN (ba := ba) (ra := ra) (hf := hf) (hq := hq) (kn := kn) (th := th) (sm := sm) (Y := Y) (a0 := q0) (b0 := 0) (d0 := 2) hX (by first | omega | (simp [up2, *]; done) | (simp [up2, *]; omega) | (simp only [up2_eq]; omega) | (split <;> omega)) (by first | omega | (simp [up2, *]; done) | (simp [up2, *]; omega) | (simp only [up2_eq]; omega) | (split <;> omega)) (by first | omega | (simp [up2, *]; done) | (simp [up2, *]; omega) | (simp only [up2_eq]; omega) | (split <;> omega))) pk_X4_isIn qm_X4_1 rfl rfl (Nat.le_of_ble_eq_true rfl) dX4_ofWindow_18 ⟨(Nat.le_of_ble_eq_true rfl), (Nat.le_of_ble_eq_true rfl)⟩ ⟨(Nat.le_of_ble_eq_true rfl), (Nat.le_of_ble_eq_true rfl)⟩ ?_
    refine r_w (w' := WM cy ba ra hf hq kn th sm ++ Y) rfl ?_
    refine r_ifN_ne (a := 1) (tgt := 28) C (by first | omega | (simp [up2, *]; done) | (simp [up2, *]; omega) | (simp only [up2_eq]; omega) | (split <;> omega)) dX4_ofWindow_21 (by decide) (fun h21_2 => ?_) (fun h21_2 => ?_)
    · skip
      refine r_iconst (v := (nI 0)) C dX4_ofWindow_28 (by decide) ?_
      refine r_iconst (v := (nI 0)) C dX4_ofWindow_29 (by decide) ?_
      refine d_V (st := []) hX.1.stb C hE (D_fails0 (ba := ba) (ra := ra) (hf := hf) (hq := hq) (kn := kn) (th := th) (sm := sm) (Y := Y)  hX ) pk_X4_fails qm_X4_84 0 8 rfl rfl wm_0 rfl rfl (Nat.le_of_ble_eq_true rfl) dX4_ofWindow_30 ⟨(Nat.le_of_ble_eq_true rfl), (Nat.le_of_ble_eq_true rfl)⟩ ⟨(Nat.le_of_ble_eq_true rfl), (Nat.le_of_ble_eq_true rfl)⟩ ?_
      refine r_w (w' := WM cy ba ra hf hq kn (nI 0) sm ++ Y) rfl ?_
      refine r_ifN_eq (a := 0) (tgt := 40) C (by first | omega | (simp [up2, *]; done) | (simp [up2, *]; omega) | (simp only [up2_eq]; omega) | (split <;> omega)) dX4_ofWindow_33 (by decide) (fun h33_3 => ?_) (fun h33_3 => ?_)
      · skip
        refine r_aload_n C dX4_ofWindow_40 rfl ?_
        refine r_iload_n C dX4_ofWindow_41 rfl ?_
        refine r_iload_n C dX4_ofWindow_42 rfl ?_
        refine d_V (st := []) hX.1.stb C hE (D_windowNow (ba := ba) (ra := ra) (hf := hf) (hq := hq) (kn := kn) (th := (nI 0)) (sm := sm) (Y := Y) (f := f) (k0 := k0) (q0 := q0) hX hC hM (by first | omega | (simp [up2, *]; done) | (simp [up2, *]; omega) | (simp only [up2_eq]; omega) | (split <;> omega)) (by first | omega | (simp [up2, *]; done) | (simp [up2, *]; omega) | (simp only [up2_eq]; omega) | (split <;> omega))) pk_X4_windowNow qm_X4_190 0 8 rfl rfl wm_0 rfl rfl (Nat.le_of_ble_eq_true rfl) dX4_ofWindow_43 ⟨(Nat.le_of_ble_eq_true rfl), (Nat.le_of_ble_eq_true rfl)⟩ ⟨(Nat.le_of_ble_eq_true rfl), (Nat.le_of_ble_eq_true rfl)⟩ ?_
        refine r_w (w' := WM cy ba ra hf hq kn (nI 0) sm ++ Y) rfl ?_
        exact r_iret C hr dX4_ofWindow_46 ⟨rfl, rfl⟩ (Nat.le_of_ble_eq_true rfl) (Nat.le_of_ble_eq_true rfl)
      · exact absurd h33_3 (by first | omega | (simp [up2, *]; done) | (simp [up2, *]; omega) | (simp only [up2_eq]; omega) | (split <;> omega))
    · exact absurd h21_2 (by first | omega | (simp [up2, *]; done) | (simp [up2, *]; omega) | (simp only [up2_eq]; omega) | (split <;> omega))
  · exact absurd h7_1 (by first | omega | (simp [up2, *]; done) | (simp [up2, *]; omega) | (simp only [up2_eq]; omega) | (split <;> omega))
