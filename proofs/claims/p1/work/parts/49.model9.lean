/-! CONTRACTS of the model: its calls on rows, more -/
theorem dX4_longer_0 : decode cX4_longer 0 = .ok (.aload_n 0, 1) := dqo_42 (kb_of ke_X4_longer 0 rfl)
theorem dX4_longer_1 : decode cX4_longer 1 = .ok (.arraylength, 1) := dqo_190 (kb_of ke_X4_longer 1 rfl)
theorem dX4_longer_2 : decode cX4_longer 2 = .ok (.iconst 1, 1) := dqo_4 (kb_of ke_X4_longer 2 rfl)
theorem dX4_longer_3 : decode cX4_longer 3 = .ok (.iadd, 1) := dqo_96 (kb_of ke_X4_longer 3 rfl)
theorem dX4_longer_4 : decode cX4_longer 4 = .ok (.newarray .int, 2) := dqo_188_10 (kb_of ke_X4_longer 4 rfl) (kb_of ke_X4_longer 5 rfl)
theorem dX4_longer_6 : decode cX4_longer 6 = .ok (.astore_n 2, 1) := dqo_77 (kb_of ke_X4_longer 6 rfl)
theorem dX4_longer_7 : decode cX4_longer 7 = .ok (.iconst 0, 1) := dqo_3 (kb_of ke_X4_longer 7 rfl)
theorem dX4_longer_8 : decode cX4_longer 8 = .ok (.istore_n 3, 1) := dqo_62 (kb_of ke_X4_longer 8 rfl)
theorem dX4_longer_9 : decode cX4_longer 9 = .ok (.iload_n 3, 1) := dqo_29 (kb_of ke_X4_longer 9 rfl)
theorem dX4_longer_10 : decode cX4_longer 10 = .ok (.aload_n 0, 1) := dqo_42 (kb_of ke_X4_longer 10 rfl)
theorem dX4_longer_11 : decode cX4_longer 11 = .ok (.arraylength, 1) := dqo_190 (kb_of ke_X4_longer 11 rfl)
theorem dX4_longer_12 : decode cX4_longer 12 = .ok (.if_icmp .ge 15, 3) := dqo_162 0 15 (by decide) (kb_of ke_X4_longer 12 rfl) (kb_of ke_X4_longer 13 rfl) (kb_of ke_X4_longer 14 rfl)
theorem dX4_longer_15 : decode cX4_longer 15 = .ok (.aload_n 2, 1) := dqo_44 (kb_of ke_X4_longer 15 rfl)
theorem dX4_longer_16 : decode cX4_longer 16 = .ok (.iload_n 3, 1) := dqo_29 (kb_of ke_X4_longer 16 rfl)
theorem dX4_longer_17 : decode cX4_longer 17 = .ok (.aload_n 0, 1) := dqo_42 (kb_of ke_X4_longer 17 rfl)
theorem dX4_longer_18 : decode cX4_longer 18 = .ok (.iload_n 3, 1) := dqo_29 (kb_of ke_X4_longer 18 rfl)
theorem dX4_longer_19 : decode cX4_longer 19 = .ok (.iaload, 1) := dqo_46 (kb_of ke_X4_longer 19 rfl)
theorem dX4_longer_20 : decode cX4_longer 20 = .ok (.iastore, 1) := dqo_79 (kb_of ke_X4_longer 20 rfl)
theorem dX4_longer_21 : decode cX4_longer 21 = .ok (.iinc 3 1, 3) := dqo_132 3 1 (by decide) (kb_of ke_X4_longer 21 rfl) (kb_of ke_X4_longer 22 rfl) (kb_of ke_X4_longer 23 rfl)
theorem dX4_longer_24 : decode cX4_longer 24 = .ok (.goto (-15), 3) := dqo_167 255 241 (by decide) (kb_of ke_X4_longer 24 rfl) (kb_of ke_X4_longer 25 rfl) (kb_of ke_X4_longer 26 rfl)
theorem dX4_longer_27 : decode cX4_longer 27 = .ok (.aload_n 2, 1) := dqo_44 (kb_of ke_X4_longer 27 rfl)
theorem dX4_longer_28 : decode cX4_longer 28 = .ok (.aload_n 0, 1) := dqo_42 (kb_of ke_X4_longer 28 rfl)
theorem dX4_longer_29 : decode cX4_longer 29 = .ok (.arraylength, 1) := dqo_190 (kb_of ke_X4_longer 29 rfl)
theorem dX4_longer_30 : decode cX4_longer 30 = .ok (.iload_n 1, 1) := dqo_27 (kb_of ke_X4_longer 30 rfl)
theorem dX4_longer_31 : decode cX4_longer 31 = .ok (.iastore, 1) := dqo_79 (kb_of ke_X4_longer 31 rfl)
theorem dX4_longer_32 : decode cX4_longer 32 = .ok (.aload_n 2, 1) := dqo_44 (kb_of ke_X4_longer 32 rfl)
theorem dX4_longer_33 : decode cX4_longer 33 = .ok (.areturn, 1) := dqo_176 (kb_of ke_X4_longer 33 rfl)
set_option maxRecDepth 100000 in
set_option maxHeartbeats 4000000 in
theorem D_longer {l : Launch} {D : va_G} {cy : Nat → ClassId} {X : (Nat → Prop) → State → Heap → Prop} {ba ra : Nat → Nat} {hf : Nat → Nat → Nat} {hq : Nat → Nat → Int32} {kn th : Int32} {sm : Int64} {Y : va_W} {b0 : Nat} {n0 : Nat} {g0 : Nat → Int32} {j0 : Nat} {x : Int32} (hX : EnvM X cy) (hn11 : n0 ≤ 11) (hy : Y[j0]? = some (b0, .inl (cy 1, n0, .inl g0))) : Cm l D cy X yX4_longer cX4_longer 4 (some (.array .int)) (rmk 0 1 12 0) [.ref b0, .int x] (WM cy ba ra hf hq kn th sm ++ Y) (fun v1 w1 => ∃ b9 : Nat, v1 = some (.ref b9) ∧ w1 = WM cy ba ra hf hq kn th sm ++ (Y ++ [(b9, .inl (cy 1, n0 + 1, .inl (lgF g0 n0 x)))])) (fun _ => False) := by
  refine Cm.of [some (.ref b0), some (.int x), none, none] pn_X4 rfl (Nat.le_of_ble_eq_true rfl) ?_
  intro p e s m args below meth c A C hE hr hnt hn
  refine r_aload_n C dX4_longer_0 rfl ?_
  refine y_len C j0 hy dX4_longer_1 ?_
  refine r_iconst (v := (nI 1)) C dX4_longer_2 (by decide) ?_
  refine r_iaddN C dX4_longer_3 ?_
  refine r_newT C .int .int 1 rfl (by simp) qa_int (n := n0 + 1) (show n0 + 1 < 1000000 from Nat.lt_of_le_of_lt (show n0 + 1 ≤ 12 from by first | omega | (simp [up2, *]; done) | (simp [up2, *]; omega) | (simp only [up2_eq]; omega) | (split <;> omega)) (by decide)) (1) (12) (Nat.le_of_ble_eq_true rfl) (Nat.add_le_add (Nat.le_refl _) (show n0 + 1 ≤ 12 from by first | omega | (simp [up2, *]; done) | (simp [up2, *]; omega) | (simp only [up2_eq]; omega) | (split <;> omega))) (Nat.le_of_ble_eq_true rfl) (Nat.le_of_ble_eq_true rfl) dX4_longer_4 (fun b_1 => ?_)
  refine r_w (w' := WM cy ba ra hf hq kn th sm ++ (Y ++ [(b_1, .inl (cy 1, n0 + 1, .inl (fun _ => 0)))])) (by simp only [List.append_assoc, List.cons_append, List.nil_append]) ?_
  refine r_astore_n C dX4_longer_6 (by decide) rfl ?_
  refine r_iconst (v := (nI 0)) C dX4_longer_7 (by decide) ?_
  refine r_istore_n C dX4_longer_8 (by decide) rfl ?_
  refine r_w (w' := WM cy ba ra hf hq kn th sm ++ (Y ++ [(b_1, .inl (cy 1, n0 + 1, .inl (cutF g0 0)))])) (by rw [cutF_0]) ?_
  have L9 : ∀ (d : Nat) (k : Nat), (hk : k + d = n0) → vC p l e (rmk 0 1 12 0) s m args below meth c D A (vx_MQ below (vG (fun v1 w1 => ∃ b9 : Nat, v1 = some (.ref b9) ∧ w1 = WM cy ba ra hf hq kn th sm ++ (Y ++ [(b9, .inl (cy 1, n0 + 1, .inl (lgF g0 n0 x)))])) D vwCl A) (vGX (fun _ => False) D vwCl (WM cy ba ra hf hq kn th sm ++ Y) A) args s (rmk 0 1 12 0).cells (rmk 0 1 12 0).slots A) 4 1 12 (WM cy ba ra hf hq kn th sm ++ (Y ++ [(b_1, .inl (cy 1, n0 + 1, .inl (cutF g0 k)))])) [some (.ref b0), some (.int x), some (.ref b_1), some (.int (nI k))] 9 [] := by
    intro d
    induction d with
    | zero =>
      intro k hk
      refine r_iload_n C dX4_longer_9 rfl ?_
      refine r_aload_n C dX4_longer_10 rfl ?_
      refine y_len C j0 (ya_l hy) dX4_longer_11 ?_
      refine r_icN_ge (a := k) (b := n0) (tgt := 27) C (by first | omega | (simp [up2, *]; done) | (simp [up2, *]; omega) | (simp only [up2_eq]; omega) | (split <;> omega)) (by first | omega | (simp [up2, *]; done) | (simp [up2, *]; omega) | (simp only [up2_eq]; omega) | (split <;> omega)) dX4_longer_12 (by decide) (fun h12_2 => ?_) (fun h12_2 => ?_)
      · first
        | exfalso; first | omega | contradiction
        | skip
          have e9 : k = n0 := by omega
          refine r_w (w' := WM cy ba ra hf hq kn th sm ++ (Y ++ [(b_1, .inl (cy 1, n0 + 1, .inl (cutF g0 n0)))])) (by rw [e9]) ?_
          refine r_aload_n C dX4_longer_27 rfl ?_
          refine r_aload_n C dX4_longer_28 rfl ?_
          refine y_len C j0 (ya_l hy) dX4_longer_29 ?_
          refine r_iload_n C dX4_longer_30 rfl ?_
          refine x_ast C (i := n0) (f := cutF g0 n0) (E' := [(b_1, .inl (cy 1, n0 + 1, .inl (upd (cutF g0 n0) n0 x)))]) 0 rfl (by first | omega | (simp [up2, *]; done) | (simp [up2, *]; omega) | (simp only [up2_eq]; omega) | (split <;> omega)) (by first | omega | (simp [up2, *]; done) | (simp [up2, *]; omega) | (simp only [up2_eq]; omega) | (split <;> omega)) rfl dX4_longer_31 ?_
          refine r_aload_n C dX4_longer_32 rfl ?_
          exact r_aret C hr (Or.inr ⟨_, rfl⟩) dX4_longer_33 ⟨_, rfl, rfl⟩ (Nat.le_of_ble_eq_true rfl) (Nat.le_of_ble_eq_true rfl)
      · first
        | exfalso; first | omega | contradiction
        | skip
          refine r_aload_n C dX4_longer_15 rfl ?_
          refine r_iload_n C dX4_longer_16 rfl ?_
          refine r_aload_n C dX4_longer_17 rfl ?_
          refine r_iload_n C dX4_longer_18 rfl ?_
          refine y_ald C (i := k) (f := g0) j0 (ya_l hy) (by first | omega | (simp [up2, *]; done) | (simp [up2, *]; omega) | (simp only [up2_eq]; omega) | (split <;> omega)) (by first | omega | (simp [up2, *]; done) | (simp [up2, *]; omega) | (simp only [up2_eq]; omega) | (split <;> omega)) dX4_longer_19 ?_
          refine x_ast C (i := k) (f := cutF g0 k) (E' := [(b_1, .inl (cy 1, n0 + 1, .inl (upd (cutF g0 k) k (g0 k))))]) 0 rfl (by first | omega | (simp [up2, *]; done) | (simp [up2, *]; omega) | (simp only [up2_eq]; omega) | (split <;> omega)) (by first | omega | (simp [up2, *]; done) | (simp [up2, *]; omega) | (simp only [up2_eq]; omega) | (split <;> omega)) rfl dX4_longer_20 ?_
          refine r_iincN C dX4_longer_21 rfl (by decide) rfl ?_
          refine r_goto (tgt := 9) C dX4_longer_24 (by decide) ?_
          refine r_w (w' := WM cy ba ra hf hq kn th sm ++ (Y ++ [(b_1, .inl (cy 1, n0 + 1, .inl (cutF g0 (k + 1))))])) (by rw [cutF_up (F := g0) (by rfl)]) ?_
          exact (Nat.not_lt_zero _ (by omega)).elim
    | succ d ih_L9 =>
      intro k hk
      refine r_iload_n C dX4_longer_9 rfl ?_
      refine r_aload_n C dX4_longer_10 rfl ?_
      refine y_len C j0 (ya_l hy) dX4_longer_11 ?_
      refine r_icN_ge (a := k) (b := n0) (tgt := 27) C (by first | omega | (simp [up2, *]; done) | (simp [up2, *]; omega) | (simp only [up2_eq]; omega) | (split <;> omega)) (by first | omega | (simp [up2, *]; done) | (simp [up2, *]; omega) | (simp only [up2_eq]; omega) | (split <;> omega)) dX4_longer_12 (by decide) (fun h12_3 => ?_) (fun h12_3 => ?_)
      · first
        | exfalso; first | omega | contradiction
        | skip
          have e9 : k = n0 := by omega
          refine r_w (w' := WM cy ba ra hf hq kn th sm ++ (Y ++ [(b_1, .inl (cy 1, n0 + 1, .inl (cutF g0 n0)))])) (by rw [e9]) ?_
          refine r_aload_n C dX4_longer_27 rfl ?_
          refine r_aload_n C dX4_longer_28 rfl ?_
          refine y_len C j0 (ya_l hy) dX4_longer_29 ?_
          refine r_iload_n C dX4_longer_30 rfl ?_
          refine x_ast C (i := n0) (f := cutF g0 n0) (E' := [(b_1, .inl (cy 1, n0 + 1, .inl (upd (cutF g0 n0) n0 x)))]) 0 rfl (by first | omega | (simp [up2, *]; done) | (simp [up2, *]; omega) | (simp only [up2_eq]; omega) | (split <;> omega)) (by first | omega | (simp [up2, *]; done) | (simp [up2, *]; omega) | (simp only [up2_eq]; omega) | (split <;> omega)) rfl dX4_longer_31 ?_
          refine r_aload_n C dX4_longer_32 rfl ?_
          exact r_aret C hr (Or.inr ⟨_, rfl⟩) dX4_longer_33 ⟨_, rfl, rfl⟩ (Nat.le_of_ble_eq_true rfl) (Nat.le_of_ble_eq_true rfl)
      · first
        | exfalso; first | omega | contradiction
        | skip
          refine r_aload_n C dX4_longer_15 rfl ?_
          refine r_iload_n C dX4_longer_16 rfl ?_
          refine r_aload_n C dX4_longer_17 rfl ?_
          refine r_iload_n C dX4_longer_18 rfl ?_
          refine y_ald C (i := k) (f := g0) j0 (ya_l hy) (by first | omega | (simp [up2, *]; done) | (simp [up2, *]; omega) | (simp only [up2_eq]; omega) | (split <;> omega)) (by first | omega | (simp [up2, *]; done) | (simp [up2, *]; omega) | (simp only [up2_eq]; omega) | (split <;> omega)) dX4_longer_19 ?_
          refine x_ast C (i := k) (f := cutF g0 k) (E' := [(b_1, .inl (cy 1, n0 + 1, .inl (upd (cutF g0 k) k (g0 k))))]) 0 rfl (by first | omega | (simp [up2, *]; done) | (simp [up2, *]; omega) | (simp only [up2_eq]; omega) | (split <;> omega)) (by first | omega | (simp [up2, *]; done) | (simp [up2, *]; omega) | (simp only [up2_eq]; omega) | (split <;> omega)) rfl dX4_longer_20 ?_
          refine r_iincN C dX4_longer_21 rfl (by decide) rfl ?_
          refine r_goto (tgt := 9) C dX4_longer_24 (by decide) ?_
          refine r_w (w' := WM cy ba ra hf hq kn th sm ++ (Y ++ [(b_1, .inl (cy 1, n0 + 1, .inl (cutF g0 (k + 1))))])) (by rw [cutF_up (F := g0) (by rfl)]) ?_
          exact ih_L9 (k + 1) (by first | omega | (simp [up2, *]; done) | (simp [up2, *]; omega) | (simp only [up2_eq]; omega) | (split <;> omega))
  exact L9 n0 0 (by first | omega | (simp [up2, *]; done) | (simp [up2, *]; omega) | (simp only [up2_eq]; omega) | (split <;> omega))
theorem pk_X4_longer : PkS yX4_longer cX4_longer 4 (some (.array .int)) 2 := ⟨⟨qt_X4_longer, qz_X4, qc_X4_longer⟩, mh_X4.1, mh_X4.2, pd_25⟩
theorem dX4_kept_0 : decode cX4_kept 0 = .ok (.aload_n 0, 1) := dqo_42 (kb_X4_kept_0 0 rfl)
theorem dX4_kept_1 : decode cX4_kept 1 = .ok (.getfield 15, 3) := dqo_180 0 15 (kb_X4_kept_0 1 rfl) (kb_X4_kept_0 2 rfl) (kb_X4_kept_0 3 rfl)
theorem dX4_kept_4 : decode cX4_kept 4 = .ok (.iload_n 1, 1) := dqo_27 (kb_X4_kept_0 4 rfl)
theorem dX4_kept_5 : decode cX4_kept 5 = .ok (.aaload, 1) := dqo_50 (kb_X4_kept_0 5 rfl)
theorem dX4_kept_6 : decode cX4_kept 6 = .ok (.astore 4, 2) := dqo_58 4 (kb_X4_kept_0 6 rfl) (kb_X4_kept_0 7 rfl)
theorem dX4_kept_8 : decode cX4_kept 8 = .ok (.iconst 0, 1) := dqo_3 (kb_X4_kept_0 8 rfl)
theorem dX4_kept_9 : decode cX4_kept 9 = .ok (.newarray .int, 2) := dqo_188_10 (kb_X4_kept_0 9 rfl) (kb_X4_kept_0 10 rfl)
theorem dX4_kept_11 : decode cX4_kept 11 = .ok (.astore 5, 2) := dqo_58 5 (kb_X4_kept_0 11 rfl) (kb_X4_kept_0 12 rfl)
theorem dX4_kept_13 : decode cX4_kept 13 = .ok (.aload 4, 2) := dqo_25 4 (kb_X4_kept_0 13 rfl) (kb_X4_kept_0 14 rfl)
theorem dX4_kept_15 : decode cX4_kept 15 = .ok (.astore 6, 2) := dqo_58 6 (kb_X4_kept_0 15 rfl) (kb_X4_kept_0 16 rfl)
theorem dX4_kept_17 : decode cX4_kept 17 = .ok (.aload 6, 2) := dqo_25 6 (kb_X4_kept_0 17 rfl) (kb_X4_kept_0 18 rfl)
theorem dX4_kept_19 : decode cX4_kept 19 = .ok (.arraylength, 1) := dqo_190 (kb_X4_kept_0 19 rfl)
theorem dX4_kept_20 : decode cX4_kept 20 = .ok (.istore 7, 2) := dqo_54 7 (kb_X4_kept_0 20 rfl) (kb_X4_kept_0 21 rfl)
theorem dX4_kept_22 : decode cX4_kept 22 = .ok (.iconst 0, 1) := dqo_3 (kb_X4_kept_0 22 rfl)
theorem dX4_kept_23 : decode cX4_kept 23 = .ok (.istore 8, 2) := dqo_54 8 (kb_X4_kept_0 23 rfl) (kb_X4_kept_0 24 rfl)
theorem dX4_kept_25 : decode cX4_kept 25 = .ok (.iload 8, 2) := dqo_21 8 (kb_X4_kept_0 25 rfl) (kb_X4_kept_0 26 rfl)
theorem dX4_kept_27 : decode cX4_kept 27 = .ok (.iload 7, 2) := dqo_21 7 (kb_X4_kept_0 27 rfl) (kb_X4_kept_0 28 rfl)
theorem dX4_kept_29 : decode cX4_kept 29 = .ok (.if_icmp .ge 46, 3) := dqo_162 0 46 (by decide) (kb_X4_kept_0 29 rfl) (kb_X4_kept_0 30 rfl) (kb_X4_kept_0 31 rfl)
theorem dX4_kept_32 : decode cX4_kept 32 = .ok (.aload 6, 2) := dqo_25 6 (kb_X4_kept_0 32 rfl) (kb_X4_kept_0 33 rfl)
theorem dX4_kept_34 : decode cX4_kept 34 = .ok (.iload 8, 2) := dqo_21 8 (kb_X4_kept_0 34 rfl) (kb_X4_kept_0 35 rfl)
theorem dX4_kept_36 : decode cX4_kept 36 = .ok (.iaload, 1) := dqo_46 (kb_X4_kept_0 36 rfl)
theorem dX4_kept_37 : decode cX4_kept 37 = .ok (.istore 9, 2) := dqo_54 9 (kb_X4_kept_0 37 rfl) (kb_X4_kept_0 38 rfl)
theorem dX4_kept_39 : decode cX4_kept 39 = .ok (.aload_n 0, 1) := dqo_42 (kb_X4_kept_0 39 rfl)
theorem dX4_kept_40 : decode cX4_kept 40 = .ok (.iload_n 2, 1) := dqo_28 (kb_X4_kept_0 40 rfl)
theorem dX4_kept_41 : decode cX4_kept 41 = .ok (.iload 9, 2) := dqo_21 9 (kb_X4_kept_0 41 rfl) (kb_X4_kept_0 42 rfl)
theorem dX4_kept_43 : decode cX4_kept 43 = .ok (.iconst 0, 1) := dqo_3 (kb_X4_kept_0 43 rfl)
theorem dX4_kept_44 : decode cX4_kept 44 = .ok (.invokevirtual 122, 3) := dqo_182 0 122 (kb_X4_kept_0 44 rfl) (kb_X4_kept_0 45 rfl) (kb_X4_kept_0 46 rfl)
theorem dX4_kept_47 : decode cX4_kept 47 = .ok (.iconst (-1), 1) := dqo_2 (kb_X4_kept_0 47 rfl)
theorem dX4_kept_48 : decode cX4_kept 48 = .ok (.if_icmp .eq 7, 3) := dqo_159 0 7 (by decide) (kb_X4_kept_0 48 rfl) (kb_X4_kept_0 49 rfl) (kb_X4_kept_0 50 rfl)
theorem dX4_kept_51 : decode cX4_kept 51 = .ok (.iconst 1, 1) := dqo_4 (kb_X4_kept_0 51 rfl)
theorem dX4_kept_52 : decode cX4_kept 52 = .ok (.goto 4, 3) := dqo_167 0 4 (by decide) (kb_X4_kept_0 52 rfl) (kb_X4_kept_0 53 rfl) (kb_X4_kept_0 54 rfl)
theorem dX4_kept_55 : decode cX4_kept 55 = .ok (.iconst 0, 1) := dqo_3 (kb_X4_kept_0 55 rfl)
theorem dX4_kept_56 : decode cX4_kept 56 = .ok (.iload_n 3, 1) := dqo_29 (kb_X4_kept_0 56 rfl)
theorem dX4_kept_57 : decode cX4_kept 57 = .ok (.if_icmp .ne 12, 3) := dqo_160 0 12 (by decide) (kb_X4_kept_0 57 rfl) (kb_X4_kept_0 58 rfl) (kb_X4_kept_0 59 rfl)
theorem dX4_kept_60 : decode cX4_kept 60 = .ok (.aload 5, 2) := dqo_25 5 (kb_X4_kept_0 60 rfl) (kb_X4_kept_0 61 rfl)
theorem dX4_kept_62 : decode cX4_kept 62 = .ok (.iload 9, 2) := dqo_21 9 (kb_X4_kept_0 62 rfl) (kb_X4_kept_0 63 rfl)
theorem dX4_kept_64 : decode cX4_kept 64 = .ok (.invokestatic 126, 3) := dqo_184 0 126 (kb_X4_kept_1 0 rfl) (kb_X4_kept_1 1 rfl) (kb_X4_kept_1 2 rfl)
theorem dX4_kept_67 : decode cX4_kept 67 = .ok (.astore 5, 2) := dqo_58 5 (kb_X4_kept_1 3 rfl) (kb_X4_kept_1 4 rfl)
theorem dX4_kept_69 : decode cX4_kept 69 = .ok (.iinc 8 1, 3) := dqo_132 8 1 (by decide) (kb_X4_kept_1 5 rfl) (kb_X4_kept_1 6 rfl) (kb_X4_kept_1 7 rfl)
theorem dX4_kept_72 : decode cX4_kept 72 = .ok (.goto (-47), 3) := dqo_167 255 209 (by decide) (kb_X4_kept_1 8 rfl) (kb_X4_kept_1 9 rfl) (kb_X4_kept_1 10 rfl)
theorem dX4_kept_75 : decode cX4_kept 75 = .ok (.aload_n 0, 1) := dqo_42 (kb_X4_kept_1 11 rfl)
theorem dX4_kept_76 : decode cX4_kept 76 = .ok (.iload_n 1, 1) := dqo_27 (kb_X4_kept_1 12 rfl)
theorem dX4_kept_77 : decode cX4_kept 77 = .ok (.aload 5, 2) := dqo_25 5 (kb_X4_kept_1 13 rfl) (kb_X4_kept_1 14 rfl)
theorem dX4_kept_79 : decode cX4_kept 79 = .ok (.invokevirtual 130, 3) := dqo_182 0 130 (kb_X4_kept_1 15 rfl) (kb_X4_kept_1 16 rfl) (kb_X4_kept_1 17 rfl)
theorem dX4_kept_82 : decode cX4_kept 82 = .ok (.aload 4, 2) := dqo_25 4 (kb_X4_kept_1 18 rfl) (kb_X4_kept_1 19 rfl)
theorem dX4_kept_84 : decode cX4_kept 84 = .ok (.arraylength, 1) := dqo_190 (kb_X4_kept_1 20 rfl)
theorem dX4_kept_85 : decode cX4_kept 85 = .ok (.aload 5, 2) := dqo_25 5 (kb_X4_kept_1 21 rfl) (kb_X4_kept_1 22 rfl)
theorem dX4_kept_87 : decode cX4_kept 87 = .ok (.arraylength, 1) := dqo_190 (kb_X4_kept_1 23 rfl)
theorem dX4_kept_88 : decode cX4_kept 88 = .ok (.isub, 1) := dqo_100 (kb_X4_kept_1 24 rfl)
theorem dX4_kept_89 : decode cX4_kept 89 = .ok (.ireturn, 1) := dqo_172 (kb_X4_kept_1 25 rfl)
set_option maxRecDepth 100000 in
set_option maxHeartbeats 4000000 in
theorem D_kept0 {l : Launch} {D : va_G} {cy : Nat → ClassId} {X : (Nat → Prop) → State → Heap → Prop} {ba ra : Nat → Nat} {hf : Nat → Nat → Nat} {hq : Nat → Nat → Int32} {kn th : Int32} {sm : Int64} {Y : va_W} {f : Nat → Nat → Nat} {r : Nat → Nat → Int32} {i : Nat} {j : Nat} (hX : EnvM X cy) (hC : CInv f) (hM : MR f r hf hq) (hi4 : i < 4) (hj4 : j < 4) : Cm l D cy X yX4_kept cX4_kept 10 (some .int) (rmk 8 20 190 390) [.ref (ba 9), .int (nI i), .int (nI j), .int (nI 0)] (WM cy ba ra hf hq kn th sm ++ Y) (fun v1 w1 => ∃ ra9 : Nat → Nat, v1 = some (.int (nI ((hf 4 i) - (siC (hqP hq (hf 4 j) j) 0 (hq i) (hf 4 i) 0 0)))) ∧ w1 = WM cy ba ra9 (up2 (chM f hf i 4294967295) 4 i (siC (hqP hq (hf 4 j) j) 0 (hq i) (hf 4 i) 0 0)) (upR hq i (siA (hqP hq (hf 4 j) j) 0 (hq i) (hf 4 i) 0 0 (fun _ => 0))) kn th sm ++ Y) (fun _ => False) := by
  have hG := hM.1
  have h5M := hM.h5M hC
  have h4M := hC.h4M
  have h9a := hM.h9a hC
  have h6a := hM.h6a
  have hU := hM.hU hC
  have qi := hC.rw hi4
  have pi := (hM.2.1 i hi4).1
  have ei : hf 4 (f 1 i) = hf 4 i := by rw [qi.2.1]
  have wi := hM.wh hC (w := i) (by omega) qi.2.2.2.2.2
  have qj := hC.rw hj4
  have pj := (hM.2.1 j hj4).1
  have ej : hf 4 (f 1 j) = hf 4 j := by rw [qj.2.1]
  have wj := hM.wh hC (w := j) (by omega) qj.2.2.2.2.2
  refine Cm.of [some (.ref (ba 9)), some (.int (nI i)), some (.int (nI j)), some (.int (nI 0)), none, none, none, none, none, none] pn_X4 rfl (Nat.le_of_ble_eq_true rfl) ?_
  intro p e s m args below meth c A C hE hr hnt hn
  refine r_aload_n C dX4_kept_0 rfl ?_
  refine m_get (v := .ref (ba 0)) C 0 (by decide) qf_X4_15 rfl rfl dX4_kept_1 ?_
  refine r_iload_n C dX4_kept_4 rfl ?_
  refine m_rows (i := i) C (by first | omega | (simp [up2, *]; done) | (simp [up2, *]; omega) | (simp only [up2_eq]; omega) | (split <;> omega)) dX4_kept_5 ?_
  refine r_astore C dX4_kept_6 (by decide) rfl ?_
  refine r_iconst (v := (nI 0)) C dX4_kept_8 (by decide) ?_
  refine r_newT C .int .int 1 rfl (by simp) qa_int (n := 0) (show 0 < 1000000 from Nat.lt_of_le_of_lt (show 0 ≤ 0 from by first | omega | (simp [up2, *]; done) | (simp [up2, *]; omega) | (simp only [up2_eq]; omega) | (split <;> omega)) (by decide)) (1) (0) (Nat.le_of_ble_eq_true rfl) (Nat.add_le_add (Nat.le_refl _) (show 0 ≤ 0 from by first | omega | (simp [up2, *]; done) | (simp [up2, *]; omega) | (simp only [up2_eq]; omega) | (split <;> omega))) (Nat.le_of_ble_eq_true rfl) (Nat.le_of_ble_eq_true rfl) dX4_kept_9 (fun b_1 => ?_)
  refine r_w (w' := WM cy ba ra hf hq kn th sm ++ (Y ++ [(b_1, .inl (cy 1, 0, .inl (fun _ => 0)))])) (by simp only [List.append_assoc, List.cons_append, List.nil_append]) ?_
  refine r_astore C dX4_kept_11 (by decide) rfl ?_
  refine r_aload C dX4_kept_13 rfl ?_
  refine r_astore C dX4_kept_15 (by decide) rfl ?_
  refine r_aload C dX4_kept_17 rfl ?_
  refine m_rlen (i := i) (v := hf 4 i) C (by first | omega | (simp [up2, *]; done) | (simp [up2, *]; omega) | (simp only [up2_eq]; omega) | (split <;> omega)) rfl dX4_kept_19 ?_
  refine r_istore C dX4_kept_20 (by decide) rfl ?_
  refine r_iconst (v := (nI 0)) C dX4_kept_22 (by decide) ?_
  refine r_istore C dX4_kept_23 (by decide) rfl ?_
  have L25 : ∀ (d : Nat) (k : Nat) (bm : Nat) (c0 : Nat) (A0 : Nat → Int32), (hk : k + d = hf 4 i) → (hc : c0 ≤ k) → (hF : siC (hqP hq (hf 4 j) j) 0 (hq i) d k c0 = siC (hqP hq (hf 4 j) j) 0 (hq i) (hf 4 i) 0 0) → (hF2 : siA (hqP hq (hf 4 j) j) 0 (hq i) d k c0 A0 = siA (hqP hq (hf 4 j) j) 0 (hq i) (hf 4 i) 0 0 (fun _ => 0)) → vC p l e (rmk 8 20 190 390) s m args below meth c D A (vx_MQ below (vG (fun v1 w1 => ∃ ra9 : Nat → Nat, v1 = some (.int (nI ((hf 4 i) - (siC (hqP hq (hf 4 j) j) 0 (hq i) (hf 4 i) 0 0)))) ∧ w1 = WM cy ba ra9 (up2 (chM f hf i 4294967295) 4 i (siC (hqP hq (hf 4 j) j) 0 (hq i) (hf 4 i) 0 0)) (upR hq i (siA (hqP hq (hf 4 j) j) 0 (hq i) (hf 4 i) 0 0 (fun _ => 0))) kn th sm ++ Y) D vwCl A) (vGX (fun _ => False) D vwCl (WM cy ba ra hf hq kn th sm ++ Y) A) args s (rmk 8 20 190 390).cells (rmk 8 20 190 390).slots A) 10 (1 + k) (12 * k) (WM cy ba ra hf hq kn th sm ++ (Y ++ [(bm, .inl (cy 1, c0, .inl A0))])) [some (.ref (ba 9)), some (.int (nI i)), some (.int (nI j)), some (.int (nI 0)), some (.ref (ra i)), some (.ref bm), some (.ref (ra i)), some (.int (nI (hf 4 i))), some (.int (nI k)), none] 25 [] := by
    intro d
    induction d with
    | zero =>
      intro k bm c0 A0 hk hc hF hF2
      refine r_iload C dX4_kept_25 rfl ?_
      refine r_iload C dX4_kept_27 rfl ?_
      refine r_icN_ge (a := k) (b := (hf 4 i)) (tgt := 75) C (by first | omega | (simp [up2, *]; done) | (simp [up2, *]; omega) | (simp only [up2_eq]; omega) | (split <;> omega)) (by first | omega | (simp [up2, *]; done) | (simp [up2, *]; omega) | (simp only [up2_eq]; omega) | (split <;> omega)) dX4_kept_29 (by decide) (fun h29_2 => ?_) (fun h29_2 => ?_)
      · first
        | exfalso; first | omega | contradiction
        | skip
          refine r_widen (k := 14) (n := 180) (by omega) (by omega) ?_
          refine r_w (w' := WM cy ba ra hf hq kn th sm ++ (Y ++ [(bm, .inl (cy 1, siC (hqP hq (hf 4 j) j) 0 (hq i) (hf 4 i) 0 0, .inl (siA (hqP hq (hf 4 j) j) 0 (hq i) (hf 4 i) 0 0 (fun _ => 0))))])) (by rw [← hF, ← hF2]; rfl) ?_
          have q8 := siC_le (hqP hq (hf 4 j) j) 0 (hq i) (hf 4 i) 0 0
          refine r_aload_n C dX4_kept_75 rfl ?_
          refine r_iload_n C dX4_kept_76 rfl ?_
          refine r_aload C dX4_kept_77 rfl ?_
          refine d_Vv (st := []) hX.1.stb C hE (D_become (ba := ba) (ra := ra) (hf := hf) (hq := hq) (kn := kn) (th := th) (sm := sm) (Y := Y) (f := f) (i := i) (b0 := bm) (n0 := (siC (hqP hq (hf 4 j) j) 0 (hq i) (hf 4 i) 0 0)) (g0 := (siA (hqP hq (hf 4 j) j) 0 (hq i) (hf 4 i) 0 0 (fun _ => 0))) hX hC (MG.same (fun _ => rfl) (fun _ => rfl) hG) (by first | omega | (simp [up2, *]; done) | (simp [up2, *]; omega) | (simp only [up2_eq]; omega) | (split <;> omega)) h5M h9a hU) pk_X4_become qm_X4_130 0 8 rfl rfl wm_0 rfl rfl (Nat.le_of_ble_eq_true rfl) dX4_kept_79 ⟨(Nat.le_of_ble_eq_true rfl), (Nat.le_of_ble_eq_true rfl)⟩ ⟨(Nat.le_of_ble_eq_true rfl), (Nat.le_of_ble_eq_true rfl)⟩ ?_
          refine r_w (w' := WM cy ba (upR ra i bm) (up2 (chM f hf i 4294967295) 4 i (siC (hqP hq (hf 4 j) j) 0 (hq i) (hf 4 i) 0 0)) (upR hq i (siA (hqP hq (hf 4 j) j) 0 (hq i) (hf 4 i) 0 0 (fun _ => 0))) kn th sm ++ (Y ++ [(ra i, .inl (cy 1, hf 4 i, .inl (hq i)))])) rfl ?_
          refine r_aload C dX4_kept_82 rfl ?_
          refine x_len C (t0 := 1) 0 rfl rfl dX4_kept_84 ?_
          refine r_aload C dX4_kept_85 rfl ?_
          refine r_st (st' := [.ref (upR ra i bm i), .int (nI (hf 4 i))]) (by rw [upR_me]) ?_
          refine m_rlen (i := i) (v := siC (hqP hq (hf 4 j) j) 0 (hq i) (hf 4 i) 0 0) C (by first | omega | (simp [up2, *]; done) | (simp [up2, *]; omega) | (simp only [up2_eq]; omega) | (split <;> omega)) (show (up2 (chM f hf i 4294967295) 4 i (siC (hqP hq (hf 4 j) j) 0 (hq i) (hf 4 i) 0 0)) 4 i = siC (hqP hq (hf 4 j) j) 0 (hq i) (hf 4 i) 0 0 by simp [up2, *]) dX4_kept_87 ?_
          refine r_isubN C dX4_kept_88 (by first | omega | (simp [up2, *]; done) | (simp [up2, *]; omega) | (simp only [up2_eq]; omega) | (split <;> omega)) ?_
          refine r_pre ?_
          exact r_iret C hr dX4_kept_89 ⟨_, rfl, rfl⟩ (Nat.le_of_ble_eq_true rfl) (Nat.le_of_ble_eq_true rfl)
      · first
        | exfalso; first | omega | contradiction
        | skip
          refine r_aload C dX4_kept_32 rfl ?_
          refine r_iload C dX4_kept_34 rfl ?_
          refine m_rld (i := i) (n := k) C (by first | omega | (simp [up2, *]; done) | (simp [up2, *]; omega) | (simp only [up2_eq]; omega) | (split <;> omega)) (by first | omega | (simp [up2, *]; done) | (simp [up2, *]; omega) | (simp only [up2_eq]; omega) | (split <;> omega)) (by first | omega | (simp [up2, *]; done) | (simp [up2, *]; omega) | (simp only [up2_eq]; omega) | (split <;> omega)) dX4_kept_36 ?_
          refine r_istore C dX4_kept_37 (by decide) rfl ?_
          refine r_aload_n C dX4_kept_39 rfl ?_
          refine r_iload_n C dX4_kept_40 rfl ?_
          refine r_iload C dX4_kept_41 rfl ?_
          refine r_iconst (v := (nI 0)) C dX4_kept_43 (by decide) ?_
          refine d_V (st := []) hX.1.stb C hE (D_find0 (ba := ba) (ra := ra) (hf := hf) (hq := hq) (kn := kn) (th := th) (sm := sm) (i := j) (y := ((hq i k))) hX (by first | omega | (simp [up2, *]; done) | (simp [up2, *]; omega) | (simp only [up2_eq]; omega) | (split <;> omega)) (by first | omega | (simp [up2, *]; done) | (simp [up2, *]; omega) | (simp only [up2_eq]; omega) | (split <;> omega))) pk_X4_find qm_X4_122 0 8 rfl rfl wm_0 rfl rfl (Nat.le_of_ble_eq_true rfl) dX4_kept_44 ⟨(Nat.le_of_ble_eq_true rfl), (Nat.le_of_ble_eq_true rfl)⟩ ⟨(by first | omega | (dsimp only [rmk, rmz]; omega) | (simp only [rmk, rmz]; omega)), (by first | omega | (dsimp only [rmk, rmz]; omega) | (simp only [rmk, rmz]; omega))⟩ ?_
          refine r_w (w' := WM cy ba ra hf hq kn th sm ++ (Y ++ [(bm, .inl (cy 1, c0, .inl A0))])) rfl ?_
          refine r_iconst (v := (nI 4294967295)) C dX4_kept_47 (by decide) ?_
          refine r_icN_eq (a := (fpF (hq j) ((hq i k)) (hf 4 j) 0)) (b := 4294967295) (tgt := 55) C (fpF_b (by omega)) (by first | omega | (simp [up2, *]; done) | (simp [up2, *]; omega) | (simp only [up2_eq]; omega) | (split <;> omega)) dX4_kept_48 (by decide) (fun h48_3 => ?_) (fun h48_3 => ?_)
          · first
            | exfalso; first | omega | contradiction
            | skip
              refine r_iconst (v := (nI 0)) C dX4_kept_55 (by decide) ?_
              have hP9 : (hqP hq (hf 4 j) j) (hq i k) = 0 := (by unfold hqP; rw [if_pos (by assumption)])
              have hP : (hqP hq (hf 4 j) j) (hq i k) = 0 := hP9
              refine r_iload_n C dX4_kept_56 rfl ?_
              refine r_icN_ne (a := 0) (b := 0) (tgt := 69) C (by first | omega | (simp [up2, *]; done) | (simp [up2, *]; omega) | (simp only [up2_eq]; omega) | (split <;> omega)) (by first | omega | (simp [up2, *]; done) | (simp [up2, *]; omega) | (simp only [up2_eq]; omega) | (split <;> omega)) dX4_kept_57 (by decide) (fun h57_4 => ?_) (fun h57_4 => ?_)
              · exact absurd h57_4 (by first | omega | (simp [up2, *]; done) | (simp [up2, *]; omega) | (simp only [up2_eq]; omega) | (split <;> omega))
              · skip
                refine r_aload C dX4_kept_60 rfl ?_
                refine r_iload C dX4_kept_62 rfl ?_
                refine e_S (st := []) hX.1.stb C hE (D_longer (ba := ba) (ra := ra) (hf := hf) (hq := hq) (kn := kn) (th := th) (sm := sm) (b0 := bm) (n0 := c0) (g0 := A0) (j0 := (Y.length + 0)) (x := ((hq i k))) hX (by first | omega | (simp [up2, *]; done) | (simp [up2, *]; omega) | (simp only [up2_eq]; omega) | (split <;> omega)) ((ya_x 0).trans rfl)) pk_X4_longer qm_X4_126 rfl rfl (Nat.le_of_ble_eq_true rfl) dX4_kept_64 ⟨(Nat.le_of_ble_eq_true rfl), (Nat.le_of_ble_eq_true rfl)⟩ ⟨(by first | omega | (dsimp only [rmk, rmz]; omega) | (simp only [rmk, rmz]; omega)), (by first | omega | (dsimp only [rmk, rmz]; omega) | (simp only [rmk, rmz]; omega))⟩ (fun b_5 => ?_)
                refine r_w (w' := WM cy ba ra hf hq kn th sm ++ (Y ++ [(bm, .inl (cy 1, c0, .inl A0)), (b_5, .inl (cy 1, c0 + 1, .inl (lgF A0 c0 ((hq i k)))))])) (by simp only [List.append_assoc, List.cons_append, List.nil_append]) ?_
                refine r_st (st' := [.ref b_5]) rfl ?_
                refine r_astore C dX4_kept_67 (by decide) rfl ?_
                refine r_iincN C dX4_kept_69 rfl (by decide) rfl ?_
                refine r_goto (tgt := 25) C dX4_kept_72 (by decide) ?_
                refine r_keep (E' := [(b_5, .inl (cy 1, c0 + 1, .inl (lgF A0 c0 ((hq i k)))))]) (fun k => 1 + k) (fun k q h => match k, h with | 0, h => h | k + 1, h => by simp at h) (fun i j hi hj _ => by simp at hi hj; omega) ?_
                refine r_drop 9 ?_
                exact (Nat.not_lt_zero _ (by omega)).elim
          · first
            | exfalso; first | omega | contradiction
            | skip
              refine r_iconst (v := (nI 1)) C dX4_kept_51 (by decide) ?_
              refine r_goto (tgt := 56) C dX4_kept_52 (by decide) ?_
              have hP9 : (hqP hq (hf 4 j) j) (hq i k) = 1 := (by unfold hqP; rw [if_neg (by assumption)])
              have hP : (hqP hq (hf 4 j) j) (hq i k) ≠ 0 := by rw [hP9]; decide
              refine r_iload_n C dX4_kept_56 rfl ?_
              refine r_icN_ne (a := 1) (b := 0) (tgt := 69) C (by first | omega | (simp [up2, *]; done) | (simp [up2, *]; omega) | (simp only [up2_eq]; omega) | (split <;> omega)) (by first | omega | (simp [up2, *]; done) | (simp [up2, *]; omega) | (simp only [up2_eq]; omega) | (split <;> omega)) dX4_kept_57 (by decide) (fun h57_6 => ?_) (fun h57_6 => ?_)
              · skip
                refine r_iincN C dX4_kept_69 rfl (by decide) rfl ?_
                refine r_goto (tgt := 25) C dX4_kept_72 (by decide) ?_
                refine r_drop 9 ?_
                exact (Nat.not_lt_zero _ (by omega)).elim
              · exact absurd h57_6 (by first | omega | (simp [up2, *]; done) | (simp [up2, *]; omega) | (simp only [up2_eq]; omega) | (split <;> omega))
    | succ d ih_L25 =>
      intro k bm c0 A0 hk hc hF hF2
      refine r_iload C dX4_kept_25 rfl ?_
      refine r_iload C dX4_kept_27 rfl ?_
      refine r_icN_ge (a := k) (b := (hf 4 i)) (tgt := 75) C (by first | omega | (simp [up2, *]; done) | (simp [up2, *]; omega) | (simp only [up2_eq]; omega) | (split <;> omega)) (by first | omega | (simp [up2, *]; done) | (simp [up2, *]; omega) | (simp only [up2_eq]; omega) | (split <;> omega)) dX4_kept_29 (by decide) (fun h29_7 => ?_) (fun h29_7 => ?_)
      · first
        | exfalso; first | omega | contradiction
        | skip
          refine r_widen (k := 14) (n := 180) (by omega) (by omega) ?_
          refine r_w (w' := WM cy ba ra hf hq kn th sm ++ (Y ++ [(bm, .inl (cy 1, siC (hqP hq (hf 4 j) j) 0 (hq i) (hf 4 i) 0 0, .inl (siA (hqP hq (hf 4 j) j) 0 (hq i) (hf 4 i) 0 0 (fun _ => 0))))])) (by rw [← hF, ← hF2]; rfl) ?_
          have q8 := siC_le (hqP hq (hf 4 j) j) 0 (hq i) (hf 4 i) 0 0
          refine r_aload_n C dX4_kept_75 rfl ?_
          refine r_iload_n C dX4_kept_76 rfl ?_
          refine r_aload C dX4_kept_77 rfl ?_
          refine d_Vv (st := []) hX.1.stb C hE (D_become (ba := ba) (ra := ra) (hf := hf) (hq := hq) (kn := kn) (th := th) (sm := sm) (Y := Y) (f := f) (i := i) (b0 := bm) (n0 := (siC (hqP hq (hf 4 j) j) 0 (hq i) (hf 4 i) 0 0)) (g0 := (siA (hqP hq (hf 4 j) j) 0 (hq i) (hf 4 i) 0 0 (fun _ => 0))) hX hC (MG.same (fun _ => rfl) (fun _ => rfl) hG) (by first | omega | (simp [up2, *]; done) | (simp [up2, *]; omega) | (simp only [up2_eq]; omega) | (split <;> omega)) h5M h9a hU) pk_X4_become qm_X4_130 0 8 rfl rfl wm_0 rfl rfl (Nat.le_of_ble_eq_true rfl) dX4_kept_79 ⟨(Nat.le_of_ble_eq_true rfl), (Nat.le_of_ble_eq_true rfl)⟩ ⟨(Nat.le_of_ble_eq_true rfl), (Nat.le_of_ble_eq_true rfl)⟩ ?_
          refine r_w (w' := WM cy ba (upR ra i bm) (up2 (chM f hf i 4294967295) 4 i (siC (hqP hq (hf 4 j) j) 0 (hq i) (hf 4 i) 0 0)) (upR hq i (siA (hqP hq (hf 4 j) j) 0 (hq i) (hf 4 i) 0 0 (fun _ => 0))) kn th sm ++ (Y ++ [(ra i, .inl (cy 1, hf 4 i, .inl (hq i)))])) rfl ?_
          refine r_aload C dX4_kept_82 rfl ?_
          refine x_len C (t0 := 1) 0 rfl rfl dX4_kept_84 ?_
          refine r_aload C dX4_kept_85 rfl ?_
          refine r_st (st' := [.ref (upR ra i bm i), .int (nI (hf 4 i))]) (by rw [upR_me]) ?_
          refine m_rlen (i := i) (v := siC (hqP hq (hf 4 j) j) 0 (hq i) (hf 4 i) 0 0) C (by first | omega | (simp [up2, *]; done) | (simp [up2, *]; omega) | (simp only [up2_eq]; omega) | (split <;> omega)) (show (up2 (chM f hf i 4294967295) 4 i (siC (hqP hq (hf 4 j) j) 0 (hq i) (hf 4 i) 0 0)) 4 i = siC (hqP hq (hf 4 j) j) 0 (hq i) (hf 4 i) 0 0 by simp [up2, *]) dX4_kept_87 ?_
          refine r_isubN C dX4_kept_88 (by first | omega | (simp [up2, *]; done) | (simp [up2, *]; omega) | (simp only [up2_eq]; omega) | (split <;> omega)) ?_
          refine r_pre ?_
          exact r_iret C hr dX4_kept_89 ⟨_, rfl, rfl⟩ (Nat.le_of_ble_eq_true rfl) (Nat.le_of_ble_eq_true rfl)
      · first
        | exfalso; first | omega | contradiction
        | skip
          refine r_aload C dX4_kept_32 rfl ?_
          refine r_iload C dX4_kept_34 rfl ?_
          refine m_rld (i := i) (n := k) C (by first | omega | (simp [up2, *]; done) | (simp [up2, *]; omega) | (simp only [up2_eq]; omega) | (split <;> omega)) (by first | omega | (simp [up2, *]; done) | (simp [up2, *]; omega) | (simp only [up2_eq]; omega) | (split <;> omega)) (by first | omega | (simp [up2, *]; done) | (simp [up2, *]; omega) | (simp only [up2_eq]; omega) | (split <;> omega)) dX4_kept_36 ?_
          refine r_istore C dX4_kept_37 (by decide) rfl ?_
          refine r_aload_n C dX4_kept_39 rfl ?_
          refine r_iload_n C dX4_kept_40 rfl ?_
          refine r_iload C dX4_kept_41 rfl ?_
          refine r_iconst (v := (nI 0)) C dX4_kept_43 (by decide) ?_
          refine d_V (st := []) hX.1.stb C hE (D_find0 (ba := ba) (ra := ra) (hf := hf) (hq := hq) (kn := kn) (th := th) (sm := sm) (i := j) (y := ((hq i k))) hX (by first | omega | (simp [up2, *]; done) | (simp [up2, *]; omega) | (simp only [up2_eq]; omega) | (split <;> omega)) (by first | omega | (simp [up2, *]; done) | (simp [up2, *]; omega) | (simp only [up2_eq]; omega) | (split <;> omega))) pk_X4_find qm_X4_122 0 8 rfl rfl wm_0 rfl rfl (Nat.le_of_ble_eq_true rfl) dX4_kept_44 ⟨(Nat.le_of_ble_eq_true rfl), (Nat.le_of_ble_eq_true rfl)⟩ ⟨(by first | omega | (dsimp only [rmk, rmz]; omega) | (simp only [rmk, rmz]; omega)), (by first | omega | (dsimp only [rmk, rmz]; omega) | (simp only [rmk, rmz]; omega))⟩ ?_
          refine r_w (w' := WM cy ba ra hf hq kn th sm ++ (Y ++ [(bm, .inl (cy 1, c0, .inl A0))])) rfl ?_
          refine r_iconst (v := (nI 4294967295)) C dX4_kept_47 (by decide) ?_
          refine r_icN_eq (a := (fpF (hq j) ((hq i k)) (hf 4 j) 0)) (b := 4294967295) (tgt := 55) C (fpF_b (by omega)) (by first | omega | (simp [up2, *]; done) | (simp [up2, *]; omega) | (simp only [up2_eq]; omega) | (split <;> omega)) dX4_kept_48 (by decide) (fun h48_8 => ?_) (fun h48_8 => ?_)
          · first
            | exfalso; first | omega | contradiction
            | skip
              refine r_iconst (v := (nI 0)) C dX4_kept_55 (by decide) ?_
              have hP9 : (hqP hq (hf 4 j) j) (hq i k) = 0 := (by unfold hqP; rw [if_pos (by assumption)])
              have hP : (hqP hq (hf 4 j) j) (hq i k) = 0 := hP9
              refine r_iload_n C dX4_kept_56 rfl ?_
              refine r_icN_ne (a := 0) (b := 0) (tgt := 69) C (by first | omega | (simp [up2, *]; done) | (simp [up2, *]; omega) | (simp only [up2_eq]; omega) | (split <;> omega)) (by first | omega | (simp [up2, *]; done) | (simp [up2, *]; omega) | (simp only [up2_eq]; omega) | (split <;> omega)) dX4_kept_57 (by decide) (fun h57_9 => ?_) (fun h57_9 => ?_)
              · exact absurd h57_9 (by first | omega | (simp [up2, *]; done) | (simp [up2, *]; omega) | (simp only [up2_eq]; omega) | (split <;> omega))
              · skip
                refine r_aload C dX4_kept_60 rfl ?_
                refine r_iload C dX4_kept_62 rfl ?_
                refine e_S (st := []) hX.1.stb C hE (D_longer (ba := ba) (ra := ra) (hf := hf) (hq := hq) (kn := kn) (th := th) (sm := sm) (b0 := bm) (n0 := c0) (g0 := A0) (j0 := (Y.length + 0)) (x := ((hq i k))) hX (by first | omega | (simp [up2, *]; done) | (simp [up2, *]; omega) | (simp only [up2_eq]; omega) | (split <;> omega)) ((ya_x 0).trans rfl)) pk_X4_longer qm_X4_126 rfl rfl (Nat.le_of_ble_eq_true rfl) dX4_kept_64 ⟨(Nat.le_of_ble_eq_true rfl), (Nat.le_of_ble_eq_true rfl)⟩ ⟨(by first | omega | (dsimp only [rmk, rmz]; omega) | (simp only [rmk, rmz]; omega)), (by first | omega | (dsimp only [rmk, rmz]; omega) | (simp only [rmk, rmz]; omega))⟩ (fun b_10 => ?_)
                refine r_w (w' := WM cy ba ra hf hq kn th sm ++ (Y ++ [(bm, .inl (cy 1, c0, .inl A0)), (b_10, .inl (cy 1, c0 + 1, .inl (lgF A0 c0 ((hq i k)))))])) (by simp only [List.append_assoc, List.cons_append, List.nil_append]) ?_
                refine r_st (st' := [.ref b_10]) rfl ?_
                refine r_astore C dX4_kept_67 (by decide) rfl ?_
                refine r_iincN C dX4_kept_69 rfl (by decide) rfl ?_
                refine r_goto (tgt := 25) C dX4_kept_72 (by decide) ?_
                refine r_keep (E' := [(b_10, .inl (cy 1, c0 + 1, .inl (lgF A0 c0 ((hq i k)))))]) (fun k => 1 + k) (fun k q h => match k, h with | 0, h => h | k + 1, h => by simp at h) (fun i j hi hj _ => by simp at hi hj; omega) ?_
                refine r_drop 9 ?_
                refine r_widen (k := 1 + (k + 1)) (n := 12 * (k + 1)) (by first | omega | (dsimp only [rmk, rmz]; omega) | (simp only [rmk, rmz]; omega)) (by first | omega | (dsimp only [rmk, rmz]; omega) | (simp only [rmk, rmz]; omega)) ?_
                exact ih_L25 (k + 1) b_10 (c0 + 1) (lgF A0 c0 (hq i k)) (by first | omega | (simp [up2, *]; done) | (simp [up2, *]; omega) | (simp only [up2_eq]; omega) | (split <;> omega)) (by omega) (by rw [← hF]; exact si_yes hP) (by rw [← hF2]; exact sa_yes hP)
          · first
            | exfalso; first | omega | contradiction
            | skip
              refine r_iconst (v := (nI 1)) C dX4_kept_51 (by decide) ?_
              refine r_goto (tgt := 56) C dX4_kept_52 (by decide) ?_
              have hP9 : (hqP hq (hf 4 j) j) (hq i k) = 1 := (by unfold hqP; rw [if_neg (by assumption)])
              have hP : (hqP hq (hf 4 j) j) (hq i k) ≠ 0 := by rw [hP9]; decide
              refine r_iload_n C dX4_kept_56 rfl ?_
              refine r_icN_ne (a := 1) (b := 0) (tgt := 69) C (by first | omega | (simp [up2, *]; done) | (simp [up2, *]; omega) | (simp only [up2_eq]; omega) | (split <;> omega)) (by first | omega | (simp [up2, *]; done) | (simp [up2, *]; omega) | (simp only [up2_eq]; omega) | (split <;> omega)) dX4_kept_57 (by decide) (fun h57_11 => ?_) (fun h57_11 => ?_)
              · skip
                refine r_iincN C dX4_kept_69 rfl (by decide) rfl ?_
                refine r_goto (tgt := 25) C dX4_kept_72 (by decide) ?_
                refine r_drop 9 ?_
                refine r_widen (k := 1 + (k + 1)) (n := 12 * (k + 1)) (by first | omega | (dsimp only [rmk, rmz]; omega) | (simp only [rmk, rmz]; omega)) (by first | omega | (dsimp only [rmk, rmz]; omega) | (simp only [rmk, rmz]; omega)) ?_
                exact ih_L25 (k + 1) bm c0 A0 (by first | omega | (simp [up2, *]; done) | (simp [up2, *]; omega) | (simp only [up2_eq]; omega) | (split <;> omega)) (by omega) (by rw [← hF]; exact si_no hP) (by rw [← hF2]; exact sa_no hP)
              · exact absurd h57_11 (by first | omega | (simp [up2, *]; done) | (simp [up2, *]; omega) | (simp only [up2_eq]; omega) | (split <;> omega))
  exact L25 (hf 4 i) 0 b_1 0 (fun _ => 0) (by first | omega | (simp [up2, *]; done) | (simp [up2, *]; omega) | (simp only [up2_eq]; omega) | (split <;> omega)) (by omega) rfl rfl
set_option maxRecDepth 100000 in
set_option maxHeartbeats 4000000 in
theorem D_kept1 {l : Launch} {D : va_G} {cy : Nat → ClassId} {X : (Nat → Prop) → State → Heap → Prop} {ba ra : Nat → Nat} {hf : Nat → Nat → Nat} {hq : Nat → Nat → Int32} {kn th : Int32} {sm : Int64} {Y : va_W} {f : Nat → Nat → Nat} {r : Nat → Nat → Int32} {i : Nat} {j : Nat} (hX : EnvM X cy) (hC : CInv f) (hM : MR f r hf hq) (hi4 : i < 4) (hj4 : j < 4) : Cm l D cy X yX4_kept cX4_kept 10 (some .int) (rmk 8 20 190 390) [.ref (ba 9), .int (nI i), .int (nI j), .int (nI 1)] (WM cy ba ra hf hq kn th sm ++ Y) (fun v1 w1 => ∃ ra9 : Nat → Nat, v1 = some (.int (nI ((hf 4 i) - (siC (hqP hq (hf 4 j) j) 1 (hq i) (hf 4 i) 0 0)))) ∧ w1 = WM cy ba ra9 (up2 (chM f hf i 4294967295) 4 i (siC (hqP hq (hf 4 j) j) 1 (hq i) (hf 4 i) 0 0)) (upR hq i (siA (hqP hq (hf 4 j) j) 1 (hq i) (hf 4 i) 0 0 (fun _ => 0))) kn th sm ++ Y) (fun _ => False) := by
  have hG := hM.1
  have h5M := hM.h5M hC
  have h4M := hC.h4M
  have h9a := hM.h9a hC
  have h6a := hM.h6a
  have hU := hM.hU hC
  have qi := hC.rw hi4
  have pi := (hM.2.1 i hi4).1
  have ei : hf 4 (f 1 i) = hf 4 i := by rw [qi.2.1]
  have wi := hM.wh hC (w := i) (by omega) qi.2.2.2.2.2
  have qj := hC.rw hj4
  have pj := (hM.2.1 j hj4).1
  have ej : hf 4 (f 1 j) = hf 4 j := by rw [qj.2.1]
  have wj := hM.wh hC (w := j) (by omega) qj.2.2.2.2.2
  refine Cm.of [some (.ref (ba 9)), some (.int (nI i)), some (.int (nI j)), some (.int (nI 1)), none, none, none, none, none, none] pn_X4 rfl (Nat.le_of_ble_eq_true rfl) ?_
  intro p e s m args below meth c A C hE hr hnt hn
  refine r_aload_n C dX4_kept_0 rfl ?_
  refine m_get (v := .ref (ba 0)) C 0 (by decide) qf_X4_15 rfl rfl dX4_kept_1 ?_
  refine r_iload_n C dX4_kept_4 rfl ?_
  refine m_rows (i := i) C (by first | omega | (simp [up2, *]; done) | (simp [up2, *]; omega) | (simp only [up2_eq]; omega) | (split <;> omega)) dX4_kept_5 ?_
  refine r_astore C dX4_kept_6 (by decide) rfl ?_
  refine r_iconst (v := (nI 0)) C dX4_kept_8 (by decide) ?_
  refine r_newT C .int .int 1 rfl (by simp) qa_int (n := 0) (show 0 < 1000000 from Nat.lt_of_le_of_lt (show 0 ≤ 0 from by first | omega | (simp [up2, *]; done) | (simp [up2, *]; omega) | (simp only [up2_eq]; omega) | (split <;> omega)) (by decide)) (1) (0) (Nat.le_of_ble_eq_true rfl) (Nat.add_le_add (Nat.le_refl _) (show 0 ≤ 0 from by first | omega | (simp [up2, *]; done) | (simp [up2, *]; omega) | (simp only [up2_eq]; omega) | (split <;> omega))) (Nat.le_of_ble_eq_true rfl) (Nat.le_of_ble_eq_true rfl) dX4_kept_9 (fun b_1 => ?_)
  refine r_w (w' := WM cy ba ra hf hq kn th sm ++ (Y ++ [(b_1, .inl (cy 1, 0, .inl (fun _ => 0)))])) (by simp only [List.append_assoc, List.cons_append, List.nil_append]) ?_
  refine r_astore C dX4_kept_11 (by decide) rfl ?_
  refine r_aload C dX4_kept_13 rfl ?_
  refine r_astore C dX4_kept_15 (by decide) rfl ?_
  refine r_aload C dX4_kept_17 rfl ?_
  refine m_rlen (i := i) (v := hf 4 i) C (by first | omega | (simp [up2, *]; done) | (simp [up2, *]; omega) | (simp only [up2_eq]; omega) | (split <;> omega)) rfl dX4_kept_19 ?_
  refine r_istore C dX4_kept_20 (by decide) rfl ?_
  refine r_iconst (v := (nI 0)) C dX4_kept_22 (by decide) ?_
  refine r_istore C dX4_kept_23 (by decide) rfl ?_
  have L25 : ∀ (d : Nat) (k : Nat) (bm : Nat) (c0 : Nat) (A0 : Nat → Int32), (hk : k + d = hf 4 i) → (hc : c0 ≤ k) → (hF : siC (hqP hq (hf 4 j) j) 1 (hq i) d k c0 = siC (hqP hq (hf 4 j) j) 1 (hq i) (hf 4 i) 0 0) → (hF2 : siA (hqP hq (hf 4 j) j) 1 (hq i) d k c0 A0 = siA (hqP hq (hf 4 j) j) 1 (hq i) (hf 4 i) 0 0 (fun _ => 0)) → vC p l e (rmk 8 20 190 390) s m args below meth c D A (vx_MQ below (vG (fun v1 w1 => ∃ ra9 : Nat → Nat, v1 = some (.int (nI ((hf 4 i) - (siC (hqP hq (hf 4 j) j) 1 (hq i) (hf 4 i) 0 0)))) ∧ w1 = WM cy ba ra9 (up2 (chM f hf i 4294967295) 4 i (siC (hqP hq (hf 4 j) j) 1 (hq i) (hf 4 i) 0 0)) (upR hq i (siA (hqP hq (hf 4 j) j) 1 (hq i) (hf 4 i) 0 0 (fun _ => 0))) kn th sm ++ Y) D vwCl A) (vGX (fun _ => False) D vwCl (WM cy ba ra hf hq kn th sm ++ Y) A) args s (rmk 8 20 190 390).cells (rmk 8 20 190 390).slots A) 10 (1 + k) (12 * k) (WM cy ba ra hf hq kn th sm ++ (Y ++ [(bm, .inl (cy 1, c0, .inl A0))])) [some (.ref (ba 9)), some (.int (nI i)), some (.int (nI j)), some (.int (nI 1)), some (.ref (ra i)), some (.ref bm), some (.ref (ra i)), some (.int (nI (hf 4 i))), some (.int (nI k)), none] 25 [] := by
    intro d
    induction d with
    | zero =>
      intro k bm c0 A0 hk hc hF hF2
      refine r_iload C dX4_kept_25 rfl ?_
      refine r_iload C dX4_kept_27 rfl ?_
      refine r_icN_ge (a := k) (b := (hf 4 i)) (tgt := 75) C (by first | omega | (simp [up2, *]; done) | (simp [up2, *]; omega) | (simp only [up2_eq]; omega) | (split <;> omega)) (by first | omega | (simp [up2, *]; done) | (simp [up2, *]; omega) | (simp only [up2_eq]; omega) | (split <;> omega)) dX4_kept_29 (by decide) (fun h29_2 => ?_) (fun h29_2 => ?_)
      · first
        | exfalso; first | omega | contradiction
        | skip
          refine r_widen (k := 14) (n := 180) (by omega) (by omega) ?_
          refine r_w (w' := WM cy ba ra hf hq kn th sm ++ (Y ++ [(bm, .inl (cy 1, siC (hqP hq (hf 4 j) j) 1 (hq i) (hf 4 i) 0 0, .inl (siA (hqP hq (hf 4 j) j) 1 (hq i) (hf 4 i) 0 0 (fun _ => 0))))])) (by rw [← hF, ← hF2]; rfl) ?_
          have q8 := siC_le (hqP hq (hf 4 j) j) 1 (hq i) (hf 4 i) 0 0
          refine r_aload_n C dX4_kept_75 rfl ?_
          refine r_iload_n C dX4_kept_76 rfl ?_
          refine r_aload C dX4_kept_77 rfl ?_
          refine d_Vv (st := []) hX.1.stb C hE (D_become (ba := ba) (ra := ra) (hf := hf) (hq := hq) (kn := kn) (th := th) (sm := sm) (Y := Y) (f := f) (i := i) (b0 := bm) (n0 := (siC (hqP hq (hf 4 j) j) 1 (hq i) (hf 4 i) 0 0)) (g0 := (siA (hqP hq (hf 4 j) j) 1 (hq i) (hf 4 i) 0 0 (fun _ => 0))) hX hC (MG.same (fun _ => rfl) (fun _ => rfl) hG) (by first | omega | (simp [up2, *]; done) | (simp [up2, *]; omega) | (simp only [up2_eq]; omega) | (split <;> omega)) h5M h9a hU) pk_X4_become qm_X4_130 0 8 rfl rfl wm_0 rfl rfl (Nat.le_of_ble_eq_true rfl) dX4_kept_79 ⟨(Nat.le_of_ble_eq_true rfl), (Nat.le_of_ble_eq_true rfl)⟩ ⟨(Nat.le_of_ble_eq_true rfl), (Nat.le_of_ble_eq_true rfl)⟩ ?_
          refine r_w (w' := WM cy ba (upR ra i bm) (up2 (chM f hf i 4294967295) 4 i (siC (hqP hq (hf 4 j) j) 1 (hq i) (hf 4 i) 0 0)) (upR hq i (siA (hqP hq (hf 4 j) j) 1 (hq i) (hf 4 i) 0 0 (fun _ => 0))) kn th sm ++ (Y ++ [(ra i, .inl (cy 1, hf 4 i, .inl (hq i)))])) rfl ?_
          refine r_aload C dX4_kept_82 rfl ?_
          refine x_len C (t0 := 1) 0 rfl rfl dX4_kept_84 ?_
          refine r_aload C dX4_kept_85 rfl ?_
          refine r_st (st' := [.ref (upR ra i bm i), .int (nI (hf 4 i))]) (by rw [upR_me]) ?_
          refine m_rlen (i := i) (v := siC (hqP hq (hf 4 j) j) 1 (hq i) (hf 4 i) 0 0) C (by first | omega | (simp [up2, *]; done) | (simp [up2, *]; omega) | (simp only [up2_eq]; omega) | (split <;> omega)) (show (up2 (chM f hf i 4294967295) 4 i (siC (hqP hq (hf 4 j) j) 1 (hq i) (hf 4 i) 0 0)) 4 i = siC (hqP hq (hf 4 j) j) 1 (hq i) (hf 4 i) 0 0 by simp [up2, *]) dX4_kept_87 ?_
          refine r_isubN C dX4_kept_88 (by first | omega | (simp [up2, *]; done) | (simp [up2, *]; omega) | (simp only [up2_eq]; omega) | (split <;> omega)) ?_
          refine r_pre ?_
          exact r_iret C hr dX4_kept_89 ⟨_, rfl, rfl⟩ (Nat.le_of_ble_eq_true rfl) (Nat.le_of_ble_eq_true rfl)
      · first
        | exfalso; first | omega | contradiction
        | skip
          refine r_aload C dX4_kept_32 rfl ?_
          refine r_iload C dX4_kept_34 rfl ?_
          refine m_rld (i := i) (n := k) C (by first | omega | (simp [up2, *]; done) | (simp [up2, *]; omega) | (simp only [up2_eq]; omega) | (split <;> omega)) (by first | omega | (simp [up2, *]; done) | (simp [up2, *]; omega) | (simp only [up2_eq]; omega) | (split <;> omega)) (by first | omega | (simp [up2, *]; done) | (simp [up2, *]; omega) | (simp only [up2_eq]; omega) | (split <;> omega)) dX4_kept_36 ?_
          refine r_istore C dX4_kept_37 (by decide) rfl ?_
          refine r_aload_n C dX4_kept_39 rfl ?_
          refine r_iload_n C dX4_kept_40 rfl ?_
          refine r_iload C dX4_kept_41 rfl ?_
          refine r_iconst (v := (nI 0)) C dX4_kept_43 (by decide) ?_
          refine d_V (st := []) hX.1.stb C hE (D_find0 (ba := ba) (ra := ra) (hf := hf) (hq := hq) (kn := kn) (th := th) (sm := sm) (i := j) (y := ((hq i k))) hX (by first | omega | (simp [up2, *]; done) | (simp [up2, *]; omega) | (simp only [up2_eq]; omega) | (split <;> omega)) (by first | omega | (simp [up2, *]; done) | (simp [up2, *]; omega) | (simp only [up2_eq]; omega) | (split <;> omega))) pk_X4_find qm_X4_122 0 8 rfl rfl wm_0 rfl rfl (Nat.le_of_ble_eq_true rfl) dX4_kept_44 ⟨(Nat.le_of_ble_eq_true rfl), (Nat.le_of_ble_eq_true rfl)⟩ ⟨(by first | omega | (dsimp only [rmk, rmz]; omega) | (simp only [rmk, rmz]; omega)), (by first | omega | (dsimp only [rmk, rmz]; omega) | (simp only [rmk, rmz]; omega))⟩ ?_
          refine r_w (w' := WM cy ba ra hf hq kn th sm ++ (Y ++ [(bm, .inl (cy 1, c0, .inl A0))])) rfl ?_
          refine r_iconst (v := (nI 4294967295)) C dX4_kept_47 (by decide) ?_
          refine r_icN_eq (a := (fpF (hq j) ((hq i k)) (hf 4 j) 0)) (b := 4294967295) (tgt := 55) C (fpF_b (by omega)) (by first | omega | (simp [up2, *]; done) | (simp [up2, *]; omega) | (simp only [up2_eq]; omega) | (split <;> omega)) dX4_kept_48 (by decide) (fun h48_3 => ?_) (fun h48_3 => ?_)
          · first
            | exfalso; first | omega | contradiction
            | skip
              refine r_iconst (v := (nI 0)) C dX4_kept_55 (by decide) ?_
              have hP9 : (hqP hq (hf 4 j) j) (hq i k) = 0 := (by unfold hqP; rw [if_pos (by assumption)])
              have hP : (hqP hq (hf 4 j) j) (hq i k) ≠ 1 := by rw [hP9]; decide
              refine r_iload_n C dX4_kept_56 rfl ?_
              refine r_icN_ne (a := 0) (b := 1) (tgt := 69) C (by first | omega | (simp [up2, *]; done) | (simp [up2, *]; omega) | (simp only [up2_eq]; omega) | (split <;> omega)) (by first | omega | (simp [up2, *]; done) | (simp [up2, *]; omega) | (simp only [up2_eq]; omega) | (split <;> omega)) dX4_kept_57 (by decide) (fun h57_4 => ?_) (fun h57_4 => ?_)
              · skip
                refine r_iincN C dX4_kept_69 rfl (by decide) rfl ?_
                refine r_goto (tgt := 25) C dX4_kept_72 (by decide) ?_
                refine r_drop 9 ?_
                exact (Nat.not_lt_zero _ (by omega)).elim
              · exact absurd h57_4 (by first | omega | (simp [up2, *]; done) | (simp [up2, *]; omega) | (simp only [up2_eq]; omega) | (split <;> omega))
          · first
            | exfalso; first | omega | contradiction
            | skip
              refine r_iconst (v := (nI 1)) C dX4_kept_51 (by decide) ?_
              refine r_goto (tgt := 56) C dX4_kept_52 (by decide) ?_
              have hP9 : (hqP hq (hf 4 j) j) (hq i k) = 1 := (by unfold hqP; rw [if_neg (by assumption)])
              have hP : (hqP hq (hf 4 j) j) (hq i k) = 1 := hP9
              refine r_iload_n C dX4_kept_56 rfl ?_
              refine r_icN_ne (a := 1) (b := 1) (tgt := 69) C (by first | omega | (simp [up2, *]; done) | (simp [up2, *]; omega) | (simp only [up2_eq]; omega) | (split <;> omega)) (by first | omega | (simp [up2, *]; done) | (simp [up2, *]; omega) | (simp only [up2_eq]; omega) | (split <;> omega)) dX4_kept_57 (by decide) (fun h57_5 => ?_) (fun h57_5 => ?_)
              · exact absurd h57_5 (by first | omega | (simp [up2, *]; done) | (simp [up2, *]; omega) | (simp only [up2_eq]; omega) | (split <;> omega))
              · skip
                refine r_aload C dX4_kept_60 rfl ?_
                refine r_iload C dX4_kept_62 rfl ?_
                refine e_S (st := []) hX.1.stb C hE (D_longer (ba := ba) (ra := ra) (hf := hf) (hq := hq) (kn := kn) (th := th) (sm := sm) (b0 := bm) (n0 := c0) (g0 := A0) (j0 := (Y.length + 0)) (x := ((hq i k))) hX (by first | omega | (simp [up2, *]; done) | (simp [up2, *]; omega) | (simp only [up2_eq]; omega) | (split <;> omega)) ((ya_x 0).trans rfl)) pk_X4_longer qm_X4_126 rfl rfl (Nat.le_of_ble_eq_true rfl) dX4_kept_64 ⟨(Nat.le_of_ble_eq_true rfl), (Nat.le_of_ble_eq_true rfl)⟩ ⟨(by first | omega | (dsimp only [rmk, rmz]; omega) | (simp only [rmk, rmz]; omega)), (by first | omega | (dsimp only [rmk, rmz]; omega) | (simp only [rmk, rmz]; omega))⟩ (fun b_6 => ?_)
                refine r_w (w' := WM cy ba ra hf hq kn th sm ++ (Y ++ [(bm, .inl (cy 1, c0, .inl A0)), (b_6, .inl (cy 1, c0 + 1, .inl (lgF A0 c0 ((hq i k)))))])) (by simp only [List.append_assoc, List.cons_append, List.nil_append]) ?_
                refine r_st (st' := [.ref b_6]) rfl ?_
                refine r_astore C dX4_kept_67 (by decide) rfl ?_
                refine r_iincN C dX4_kept_69 rfl (by decide) rfl ?_
                refine r_goto (tgt := 25) C dX4_kept_72 (by decide) ?_
                refine r_keep (E' := [(b_6, .inl (cy 1, c0 + 1, .inl (lgF A0 c0 ((hq i k)))))]) (fun k => 1 + k) (fun k q h => match k, h with | 0, h => h | k + 1, h => by simp at h) (fun i j hi hj _ => by simp at hi hj; omega) ?_
                refine r_drop 9 ?_
                exact (Nat.not_lt_zero _ (by omega)).elim
    | succ d ih_L25 =>
      intro k bm c0 A0 hk hc hF hF2
      refine r_iload C dX4_kept_25 rfl ?_
      refine r_iload C dX4_kept_27 rfl ?_
      refine r_icN_ge (a := k) (b := (hf 4 i)) (tgt := 75) C (by first | omega | (simp [up2, *]; done) | (simp [up2, *]; omega) | (simp only [up2_eq]; omega) | (split <;> omega)) (by first | omega | (simp [up2, *]; done) | (simp [up2, *]; omega) | (simp only [up2_eq]; omega) | (split <;> omega)) dX4_kept_29 (by decide) (fun h29_7 => ?_) (fun h29_7 => ?_)
      · first
        | exfalso; first | omega | contradiction
        | skip
          refine r_widen (k := 14) (n := 180) (by omega) (by omega) ?_
          refine r_w (w' := WM cy ba ra hf hq kn th sm ++ (Y ++ [(bm, .inl (cy 1, siC (hqP hq (hf 4 j) j) 1 (hq i) (hf 4 i) 0 0, .inl (siA (hqP hq (hf 4 j) j) 1 (hq i) (hf 4 i) 0 0 (fun _ => 0))))])) (by rw [← hF, ← hF2]; rfl) ?_
          have q8 := siC_le (hqP hq (hf 4 j) j) 1 (hq i) (hf 4 i) 0 0
          refine r_aload_n C dX4_kept_75 rfl ?_
          refine r_iload_n C dX4_kept_76 rfl ?_
          refine r_aload C dX4_kept_77 rfl ?_
          refine d_Vv (st := []) hX.1.stb C hE (D_become (ba := ba) (ra := ra) (hf := hf) (hq := hq) (kn := kn) (th := th) (sm := sm) (Y := Y) (f := f) (i := i) (b0 := bm) (n0 := (siC (hqP hq (hf 4 j) j) 1 (hq i) (hf 4 i) 0 0)) (g0 := (siA (hqP hq (hf 4 j) j) 1 (hq i) (hf 4 i) 0 0 (fun _ => 0))) hX hC (MG.same (fun _ => rfl) (fun _ => rfl) hG) (by first | omega | (simp [up2, *]; done) | (simp [up2, *]; omega) | (simp only [up2_eq]; omega) | (split <;> omega)) h5M h9a hU) pk_X4_become qm_X4_130 0 8 rfl rfl wm_0 rfl rfl (Nat.le_of_ble_eq_true rfl) dX4_kept_79 ⟨(Nat.le_of_ble_eq_true rfl), (Nat.le_of_ble_eq_true rfl)⟩ ⟨(Nat.le_of_ble_eq_true rfl), (Nat.le_of_ble_eq_true rfl)⟩ ?_
          refine r_w (w' := WM cy ba (upR ra i bm) (up2 (chM f hf i 4294967295) 4 i (siC (hqP hq (hf 4 j) j) 1 (hq i) (hf 4 i) 0 0)) (upR hq i (siA (hqP hq (hf 4 j) j) 1 (hq i) (hf 4 i) 0 0 (fun _ => 0))) kn th sm ++ (Y ++ [(ra i, .inl (cy 1, hf 4 i, .inl (hq i)))])) rfl ?_
          refine r_aload C dX4_kept_82 rfl ?_
          refine x_len C (t0 := 1) 0 rfl rfl dX4_kept_84 ?_
          refine r_aload C dX4_kept_85 rfl ?_
          refine r_st (st' := [.ref (upR ra i bm i), .int (nI (hf 4 i))]) (by rw [upR_me]) ?_
          refine m_rlen (i := i) (v := siC (hqP hq (hf 4 j) j) 1 (hq i) (hf 4 i) 0 0) C (by first | omega | (simp [up2, *]; done) | (simp [up2, *]; omega) | (simp only [up2_eq]; omega) | (split <;> omega)) (show (up2 (chM f hf i 4294967295) 4 i (siC (hqP hq (hf 4 j) j) 1 (hq i) (hf 4 i) 0 0)) 4 i = siC (hqP hq (hf 4 j) j) 1 (hq i) (hf 4 i) 0 0 by simp [up2, *]) dX4_kept_87 ?_
          refine r_isubN C dX4_kept_88 (by first | omega | (simp [up2, *]; done) | (simp [up2, *]; omega) | (simp only [up2_eq]; omega) | (split <;> omega)) ?_
          refine r_pre ?_
          exact r_iret C hr dX4_kept_89 ⟨_, rfl, rfl⟩ (Nat.le_of_ble_eq_true rfl) (Nat.le_of_ble_eq_true rfl)
      · first
        | exfalso; first | omega | contradiction
        | skip
          refine r_aload C dX4_kept_32 rfl ?_
          refine r_iload C dX4_kept_34 rfl ?_
          refine m_rld (i := i) (n := k) C (by first | omega | (simp [up2, *]; done) | (simp [up2, *]; omega) | (simp only [up2_eq]; omega) | (split <;> omega)) (by first | omega | (simp [up2, *]; done) | (simp [up2, *]; omega) | (simp only [up2_eq]; omega) | (split <;> omega)) (by first | omega | (simp [up2, *]; done) | (simp [up2, *]; omega) | (simp only [up2_eq]; omega) | (split <;> omega)) dX4_kept_36 ?_
          refine r_istore C dX4_kept_37 (by decide) rfl ?_
          refine r_aload_n C dX4_kept_39 rfl ?_
          refine r_iload_n C dX4_kept_40 rfl ?_
          refine r_iload C dX4_kept_41 rfl ?_
          refine r_iconst (v := (nI 0)) C dX4_kept_43 (by decide) ?_
          refine d_V (st := []) hX.1.stb C hE (D_find0 (ba := ba) (ra := ra) (hf := hf) (hq := hq) (kn := kn) (th := th) (sm := sm) (i := j) (y := ((hq i k))) hX (by first | omega | (simp [up2, *]; done) | (simp [up2, *]; omega) | (simp only [up2_eq]; omega) | (split <;> omega)) (by first | omega | (simp [up2, *]; done) | (simp [up2, *]; omega) | (simp only [up2_eq]; omega) | (split <;> omega))) pk_X4_find qm_X4_122 0 8 rfl rfl wm_0 rfl rfl (Nat.le_of_ble_eq_true rfl) dX4_kept_44 ⟨(Nat.le_of_ble_eq_true rfl), (Nat.le_of_ble_eq_true rfl)⟩ ⟨(by first | omega | (dsimp only [rmk, rmz]; omega) | (simp only [rmk, rmz]; omega)), (by first | omega | (dsimp only [rmk, rmz]; omega) | (simp only [rmk, rmz]; omega))⟩ ?_
          refine r_w (w' := WM cy ba ra hf hq kn th sm ++ (Y ++ [(bm, .inl (cy 1, c0, .inl A0))])) rfl ?_
          refine r_iconst (v := (nI 4294967295)) C dX4_kept_47 (by decide) ?_
          refine r_icN_eq (a := (fpF (hq j) ((hq i k)) (hf 4 j) 0)) (b := 4294967295) (tgt := 55) C (fpF_b (by omega)) (by first | omega | (simp [up2, *]; done) | (simp [up2, *]; omega) | (simp only [up2_eq]; omega) | (split <;> omega)) dX4_kept_48 (by decide) (fun h48_8 => ?_) (fun h48_8 => ?_)
          · first
            | exfalso; first | omega | contradiction
            | skip
              refine r_iconst (v := (nI 0)) C dX4_kept_55 (by decide) ?_
              have hP9 : (hqP hq (hf 4 j) j) (hq i k) = 0 := (by unfold hqP; rw [if_pos (by assumption)])
              have hP : (hqP hq (hf 4 j) j) (hq i k) ≠ 1 := by rw [hP9]; decide
              refine r_iload_n C dX4_kept_56 rfl ?_
              refine r_icN_ne (a := 0) (b := 1) (tgt := 69) C (by first | omega | (simp [up2, *]; done) | (simp [up2, *]; omega) | (simp only [up2_eq]; omega) | (split <;> omega)) (by first | omega | (simp [up2, *]; done) | (simp [up2, *]; omega) | (simp only [up2_eq]; omega) | (split <;> omega)) dX4_kept_57 (by decide) (fun h57_9 => ?_) (fun h57_9 => ?_)
              · skip
                refine r_iincN C dX4_kept_69 rfl (by decide) rfl ?_
                refine r_goto (tgt := 25) C dX4_kept_72 (by decide) ?_
                refine r_drop 9 ?_
                refine r_widen (k := 1 + (k + 1)) (n := 12 * (k + 1)) (by first | omega | (dsimp only [rmk, rmz]; omega) | (simp only [rmk, rmz]; omega)) (by first | omega | (dsimp only [rmk, rmz]; omega) | (simp only [rmk, rmz]; omega)) ?_
                exact ih_L25 (k + 1) bm c0 A0 (by first | omega | (simp [up2, *]; done) | (simp [up2, *]; omega) | (simp only [up2_eq]; omega) | (split <;> omega)) (by omega) (by rw [← hF]; exact si_no hP) (by rw [← hF2]; exact sa_no hP)
              · exact absurd h57_9 (by first | omega | (simp [up2, *]; done) | (simp [up2, *]; omega) | (simp only [up2_eq]; omega) | (split <;> omega))
          · first
            | exfalso; first | omega | contradiction
            | skip
              refine r_iconst (v := (nI 1)) C dX4_kept_51 (by decide) ?_
              refine r_goto (tgt := 56) C dX4_kept_52 (by decide) ?_
              have hP9 : (hqP hq (hf 4 j) j) (hq i k) = 1 := (by unfold hqP; rw [if_neg (by assumption)])
              have hP : (hqP hq (hf 4 j) j) (hq i k) = 1 := hP9
              refine r_iload_n C dX4_kept_56 rfl ?_
              refine r_icN_ne (a := 1) (b := 1) (tgt := 69) C (by first | omega | (simp [up2, *]; done) | (simp [up2, *]; omega) | (simp only [up2_eq]; omega) | (split <;> omega)) (by first | omega | (simp [up2, *]; done) | (simp [up2, *]; omega) | (simp only [up2_eq]; omega) | (split <;> omega)) dX4_kept_57 (by decide) (fun h57_10 => ?_) (fun h57_10 => ?_)
              · exact absurd h57_10 (by first | omega | (simp [up2, *]; done) | (simp [up2, *]; omega) | (simp only [up2_eq]; omega) | (split <;> omega))
              · skip
                refine r_aload C dX4_kept_60 rfl ?_
                refine r_iload C dX4_kept_62 rfl ?_
                refine e_S (st := []) hX.1.stb C hE (D_longer (ba := ba) (ra := ra) (hf := hf) (hq := hq) (kn := kn) (th := th) (sm := sm) (b0 := bm) (n0 := c0) (g0 := A0) (j0 := (Y.length + 0)) (x := ((hq i k))) hX (by first | omega | (simp [up2, *]; done) | (simp [up2, *]; omega) | (simp only [up2_eq]; omega) | (split <;> omega)) ((ya_x 0).trans rfl)) pk_X4_longer qm_X4_126 rfl rfl (Nat.le_of_ble_eq_true rfl) dX4_kept_64 ⟨(Nat.le_of_ble_eq_true rfl), (Nat.le_of_ble_eq_true rfl)⟩ ⟨(by first | omega | (dsimp only [rmk, rmz]; omega) | (simp only [rmk, rmz]; omega)), (by first | omega | (dsimp only [rmk, rmz]; omega) | (simp only [rmk, rmz]; omega))⟩ (fun b_11 => ?_)
                refine r_w (w' := WM cy ba ra hf hq kn th sm ++ (Y ++ [(bm, .inl (cy 1, c0, .inl A0)), (b_11, .inl (cy 1, c0 + 1, .inl (lgF A0 c0 ((hq i k)))))])) (by simp only [List.append_assoc, List.cons_append, List.nil_append]) ?_
                refine r_st (st' := [.ref b_11]) rfl ?_
                refine r_astore C dX4_kept_67 (by decide) rfl ?_
                refine r_iincN C dX4_kept_69 rfl (by decide) rfl ?_
                refine r_goto (tgt := 25) C dX4_kept_72 (by decide) ?_
                refine r_keep (E' := [(b_11, .inl (cy 1, c0 + 1, .inl (lgF A0 c0 ((hq i k)))))]) (fun k => 1 + k) (fun k q h => match k, h with | 0, h => h | k + 1, h => by simp at h) (fun i j hi hj _ => by simp at hi hj; omega) ?_
                refine r_drop 9 ?_
                refine r_widen (k := 1 + (k + 1)) (n := 12 * (k + 1)) (by first | omega | (dsimp only [rmk, rmz]; omega) | (simp only [rmk, rmz]; omega)) (by first | omega | (dsimp only [rmk, rmz]; omega) | (simp only [rmk, rmz]; omega)) ?_
                exact ih_L25 (k + 1) b_11 (c0 + 1) (lgF A0 c0 (hq i k)) (by first | omega | (simp [up2, *]; done) | (simp [up2, *]; omega) | (simp only [up2_eq]; omega) | (split <;> omega)) (by omega) (by rw [← hF]; exact si_yes hP) (by rw [← hF2]; exact sa_yes hP)
  exact L25 (hf 4 i) 0 b_1 0 (fun _ => 0) (by first | omega | (simp [up2, *]; done) | (simp [up2, *]; omega) | (simp only [up2_eq]; omega) | (split <;> omega)) (by omega) rfl rfl
theorem dX4_removeAll_0 : decode cX4_removeAll 0 = .ok (.aload_n 0, 1) := dqo_42 (kb_of ke_X4_removeAll 0 rfl)
theorem dX4_removeAll_1 : decode cX4_removeAll 1 = .ok (.iload_n 1, 1) := dqo_27 (kb_of ke_X4_removeAll 1 rfl)
theorem dX4_removeAll_2 : decode cX4_removeAll 2 = .ok (.invokestatic 119, 3) := dqo_184 0 119 (kb_of ke_X4_removeAll 2 rfl) (kb_of ke_X4_removeAll 3 rfl) (kb_of ke_X4_removeAll 4 rfl)
theorem dX4_removeAll_5 : decode cX4_removeAll 5 = .ok (.ifCond .ne 10, 3) := dqo_154 0 10 (by decide) (kb_of ke_X4_removeAll 5 rfl) (kb_of ke_X4_removeAll 6 rfl) (kb_of ke_X4_removeAll 7 rfl)
theorem dX4_removeAll_15 : decode cX4_removeAll 15 = .ok (.iconst 1, 1) := dqo_4 (kb_of ke_X4_removeAll 15 rfl)
theorem dX4_removeAll_16 : decode cX4_removeAll 16 = .ok (.goto 4, 3) := dqo_167 0 4 (by decide) (kb_of ke_X4_removeAll 16 rfl) (kb_of ke_X4_removeAll 17 rfl) (kb_of ke_X4_removeAll 18 rfl)
theorem dX4_removeAll_20 : decode cX4_removeAll 20 = .ok (.iconst 0, 1) := dqo_3 (kb_of ke_X4_removeAll 20 rfl)
theorem dX4_removeAll_21 : decode cX4_removeAll 21 = .ok (.iconst 0, 1) := dqo_3 (kb_of ke_X4_removeAll 21 rfl)
theorem dX4_removeAll_22 : decode cX4_removeAll 22 = .ok (.invokevirtual 84, 3) := dqo_182 0 84 (kb_of ke_X4_removeAll 22 rfl) (kb_of ke_X4_removeAll 23 rfl) (kb_of ke_X4_removeAll 24 rfl)
theorem dX4_removeAll_25 : decode cX4_removeAll 25 = .ok (.ifCond .eq 7, 3) := dqo_153 0 7 (by decide) (kb_of ke_X4_removeAll 25 rfl) (kb_of ke_X4_removeAll 26 rfl) (kb_of ke_X4_removeAll 27 rfl)
theorem dX4_removeAll_28 : decode cX4_removeAll 28 = .ok (.iconst 0, 1) := dqo_3 (kb_of ke_X4_removeAll 28 rfl)
theorem dX4_removeAll_29 : decode cX4_removeAll 29 = .ok (.goto 10, 3) := dqo_167 0 10 (by decide) (kb_of ke_X4_removeAll 29 rfl) (kb_of ke_X4_removeAll 30 rfl) (kb_of ke_X4_removeAll 31 rfl)
theorem dX4_removeAll_39 : decode cX4_removeAll 39 = .ok (.ireturn, 1) := dqo_172 (kb_of ke_X4_removeAll 39 rfl)
set_option maxRecDepth 100000 in
set_option maxHeartbeats 4000000 in
theorem D_removeAll_noR {l : Launch} {D : va_G} {cy : Nat → ClassId} {X : (Nat → Prop) → State → Heap → Prop} {ba ra : Nat → Nat} {hf : Nat → Nat → Nat} {hq : Nat → Nat → Int32} {kn th : Int32} {sm : Int64} {Y : va_W} {f : Nat → Nat → Nat} {r : Nat → Nat → Int32} {x : Int32} {y0 : Int32} (hX : EnvM X cy) (hC : CInv f) (hM : MR f r hf hq) (hno : ¬ (0 ≤ x ∧ x < nI 4)) : Cd l D cy X yX4_removeAll cX4_removeAll 3 (some .int) (rmk 9 4 48 420) [.ref (ba 9), .int x, .int y0] (WM cy ba ra hf hq kn th sm ++ Y) (some (.int (nI 0))) (WM cy ba ra hf hq kn (nI 1) sm ++ Y) := by
  have hG := hM.1
  have h5M := hM.h5M hC
  have h4M := hC.h4M
  have h9a := hM.h9a hC
  have h6a := hM.h6a
  have hU := hM.hU hC
  refine Cm.of [some (.ref (ba 9)), some (.int x), some (.int y0)] pn_X4 rfl (Nat.le_of_ble_eq_true rfl) ?_
  intro p e s m args below meth c A C hE hr hnt hn
  refine r_aload_n C dX4_removeAll_0 rfl ?_
  refine r_iload_n C dX4_removeAll_1 rfl ?_
  refine d_S (st := [.ref (ba 9)]) hX.1.stb C hE (D_isNoRow1 (ba := ba) (ra := ra) (hf := hf) (hq := hq) (kn := kn) (th := th) (sm := sm) (Y := Y) (x := (x)) hX hno) pk_X4_isNoRow qm_X4_119 rfl rfl (Nat.le_of_ble_eq_true rfl) dX4_removeAll_2 ⟨(Nat.le_of_ble_eq_true rfl), (Nat.le_of_ble_eq_true rfl)⟩ ⟨(Nat.le_of_ble_eq_true rfl), (Nat.le_of_ble_eq_true rfl)⟩ ?_
  refine r_w (w' := WM cy ba ra hf hq kn th sm ++ Y) rfl ?_
  refine r_ifN_ne (a := 1) (tgt := 15) C (by first | omega | (simp [up2, *]; done) | (simp [up2, *]; omega) | (simp only [up2_eq]; omega) | (split <;> omega)) dX4_removeAll_5 (by decide) (fun h5_1 => ?_) (fun h5_1 => ?_)
  · skip
    refine r_iconst (v := (nI 1)) C dX4_removeAll_15 (by decide) ?_
    refine r_goto (tgt := 20) C dX4_removeAll_16 (by decide) ?_
    refine r_iconst (v := (nI 0)) C dX4_removeAll_20 (by decide) ?_
    refine r_iconst (v := (nI 0)) C dX4_removeAll_21 (by decide) ?_
    refine d_V (st := []) hX.1.stb C hE (D_fails1 (ba := ba) (ra := ra) (hf := hf) (hq := hq) (kn := kn) (th := th) (sm := sm) (Y := Y) (b0 := 0) (d0 := 0) hX ) pk_X4_fails qm_X4_84 0 8 rfl rfl wm_0 rfl rfl (Nat.le_of_ble_eq_true rfl) dX4_removeAll_22 ⟨(Nat.le_of_ble_eq_true rfl), (Nat.le_of_ble_eq_true rfl)⟩ ⟨(Nat.le_of_ble_eq_true rfl), (Nat.le_of_ble_eq_true rfl)⟩ ?_
    refine r_w (w' := WM cy ba ra hf hq kn (nI 1) sm ++ Y) rfl ?_
    refine r_ifN_eq (a := 1) (tgt := 32) C (by first | omega | (simp [up2, *]; done) | (simp [up2, *]; omega) | (simp only [up2_eq]; omega) | (split <;> omega)) dX4_removeAll_25 (by decide) (fun h25_2 => ?_) (fun h25_2 => ?_)
    · exact absurd h25_2 (by first | omega | (simp [up2, *]; done) | (simp [up2, *]; omega) | (simp only [up2_eq]; omega) | (split <;> omega))
    · skip
      refine r_iconst (v := (nI 0)) C dX4_removeAll_28 (by decide) ?_
      refine r_goto (tgt := 39) C dX4_removeAll_29 (by decide) ?_
      exact r_iret C hr dX4_removeAll_39 ⟨rfl, rfl⟩ (Nat.le_of_ble_eq_true rfl) (Nat.le_of_ble_eq_true rfl)
  · exact absurd h5_1 (by first | omega | (simp [up2, *]; done) | (simp [up2, *]; omega) | (simp only [up2_eq]; omega) | (split <;> omega))
theorem dX4_removeAll_8 : decode cX4_removeAll 8 = .ok (.iload_n 2, 1) := dqo_28 (kb_of ke_X4_removeAll 8 rfl)
theorem dX4_removeAll_9 : decode cX4_removeAll 9 = .ok (.invokestatic 119, 3) := dqo_184 0 119 (kb_of ke_X4_removeAll 9 rfl) (kb_of ke_X4_removeAll 10 rfl) (kb_of ke_X4_removeAll 11 rfl)
theorem dX4_removeAll_12 : decode cX4_removeAll 12 = .ok (.ifCond .eq 7, 3) := dqo_153 0 7 (by decide) (kb_of ke_X4_removeAll 12 rfl) (kb_of ke_X4_removeAll 13 rfl) (kb_of ke_X4_removeAll 14 rfl)
set_option maxRecDepth 100000 in
set_option maxHeartbeats 4000000 in
theorem D_removeAll_noR2 {l : Launch} {D : va_G} {cy : Nat → ClassId} {X : (Nat → Prop) → State → Heap → Prop} {ba ra : Nat → Nat} {hf : Nat → Nat → Nat} {hq : Nat → Nat → Int32} {kn th : Int32} {sm : Int64} {Y : va_W} {f : Nat → Nat → Nat} {r : Nat → Nat → Int32} {i : Nat} {x : Int32} (hX : EnvM X cy) (hC : CInv f) (hM : MR f r hf hq) (hi4 : i < 4) (hno : ¬ (0 ≤ x ∧ x < nI 4)) : Cd l D cy X yX4_removeAll cX4_removeAll 3 (some .int) (rmk 9 4 48 420) [.ref (ba 9), .int (nI i), .int x] (WM cy ba ra hf hq kn th sm ++ Y) (some (.int (nI 0))) (WM cy ba ra hf hq kn (nI 1) sm ++ Y) := by
  have hG := hM.1
  have h5M := hM.h5M hC
  have h4M := hC.h4M
  have h9a := hM.h9a hC
  have h6a := hM.h6a
  have hU := hM.hU hC
  have qi := hC.rw hi4
  have pi := (hM.2.1 i hi4).1
  have ei : hf 4 (f 1 i) = hf 4 i := by rw [qi.2.1]
  have wi := hM.wh hC (w := i) (by omega) qi.2.2.2.2.2
  refine Cm.of [some (.ref (ba 9)), some (.int (nI i)), some (.int x)] pn_X4 rfl (Nat.le_of_ble_eq_true rfl) ?_
  intro p e s m args below meth c A C hE hr hnt hn
  refine r_aload_n C dX4_removeAll_0 rfl ?_
  refine r_iload_n C dX4_removeAll_1 rfl ?_
  refine d_S (st := [.ref (ba 9)]) hX.1.stb C hE (D_isNoRow0 (ba := ba) (ra := ra) (hf := hf) (hq := hq) (kn := kn) (th := th) (sm := sm) (Y := Y) (i := i) hX (by first | omega | (simp [up2, *]; done) | (simp [up2, *]; omega) | (simp only [up2_eq]; omega) | (split <;> omega))) pk_X4_isNoRow qm_X4_119 rfl rfl (Nat.le_of_ble_eq_true rfl) dX4_removeAll_2 ⟨(Nat.le_of_ble_eq_true rfl), (Nat.le_of_ble_eq_true rfl)⟩ ⟨(Nat.le_of_ble_eq_true rfl), (Nat.le_of_ble_eq_true rfl)⟩ ?_
  refine r_w (w' := WM cy ba ra hf hq kn th sm ++ Y) rfl ?_
  refine r_ifN_ne (a := 0) (tgt := 15) C (by first | omega | (simp [up2, *]; done) | (simp [up2, *]; omega) | (simp only [up2_eq]; omega) | (split <;> omega)) dX4_removeAll_5 (by decide) (fun h5_1 => ?_) (fun h5_1 => ?_)
  · exact absurd h5_1 (by first | omega | (simp [up2, *]; done) | (simp [up2, *]; omega) | (simp only [up2_eq]; omega) | (split <;> omega))
  · skip
    refine r_iload_n C dX4_removeAll_8 rfl ?_
    refine d_S (st := [.ref (ba 9)]) hX.1.stb C hE (D_isNoRow1 (ba := ba) (ra := ra) (hf := hf) (hq := hq) (kn := kn) (th := th) (sm := sm) (Y := Y) (x := (x)) hX hno) pk_X4_isNoRow qm_X4_119 rfl rfl (Nat.le_of_ble_eq_true rfl) dX4_removeAll_9 ⟨(Nat.le_of_ble_eq_true rfl), (Nat.le_of_ble_eq_true rfl)⟩ ⟨(Nat.le_of_ble_eq_true rfl), (Nat.le_of_ble_eq_true rfl)⟩ ?_
    refine r_w (w' := WM cy ba ra hf hq kn th sm ++ Y) rfl ?_
    refine r_ifN_eq (a := 1) (tgt := 19) C (by first | omega | (simp [up2, *]; done) | (simp [up2, *]; omega) | (simp only [up2_eq]; omega) | (split <;> omega)) dX4_removeAll_12 (by decide) (fun h12_2 => ?_) (fun h12_2 => ?_)
    · exact absurd h12_2 (by first | omega | (simp [up2, *]; done) | (simp [up2, *]; omega) | (simp only [up2_eq]; omega) | (split <;> omega))
    · skip
      refine r_iconst (v := (nI 1)) C dX4_removeAll_15 (by decide) ?_
      refine r_goto (tgt := 20) C dX4_removeAll_16 (by decide) ?_
      refine r_iconst (v := (nI 0)) C dX4_removeAll_20 (by decide) ?_
      refine r_iconst (v := (nI 0)) C dX4_removeAll_21 (by decide) ?_
      refine d_V (st := []) hX.1.stb C hE (D_fails1 (ba := ba) (ra := ra) (hf := hf) (hq := hq) (kn := kn) (th := th) (sm := sm) (Y := Y) (b0 := 0) (d0 := 0) hX ) pk_X4_fails qm_X4_84 0 8 rfl rfl wm_0 rfl rfl (Nat.le_of_ble_eq_true rfl) dX4_removeAll_22 ⟨(Nat.le_of_ble_eq_true rfl), (Nat.le_of_ble_eq_true rfl)⟩ ⟨(Nat.le_of_ble_eq_true rfl), (Nat.le_of_ble_eq_true rfl)⟩ ?_
      refine r_w (w' := WM cy ba ra hf hq kn (nI 1) sm ++ Y) rfl ?_
      refine r_ifN_eq (a := 1) (tgt := 32) C (by first | omega | (simp [up2, *]; done) | (simp [up2, *]; omega) | (simp only [up2_eq]; omega) | (split <;> omega)) dX4_removeAll_25 (by decide) (fun h25_3 => ?_) (fun h25_3 => ?_)
      · exact absurd h25_3 (by first | omega | (simp [up2, *]; done) | (simp [up2, *]; omega) | (simp only [up2_eq]; omega) | (split <;> omega))
      · skip
        refine r_iconst (v := (nI 0)) C dX4_removeAll_28 (by decide) ?_
        refine r_goto (tgt := 39) C dX4_removeAll_29 (by decide) ?_
        exact r_iret C hr dX4_removeAll_39 ⟨rfl, rfl⟩ (Nat.le_of_ble_eq_true rfl) (Nat.le_of_ble_eq_true rfl)
theorem pk_X4_kept : PkV RX4 yX4_kept cX4_kept 10 (some .int) 3 := ⟨⟨qi_X4_kept, qs_X4_kept, qz_X4, qc_X4_kept⟩, rfl, mh_X4.1, mh_X4.2, pd_13⟩
theorem dX4_removeAll_19 : decode cX4_removeAll 19 = .ok (.iconst 0, 1) := dqo_3 (kb_of ke_X4_removeAll 19 rfl)
theorem dX4_removeAll_32 : decode cX4_removeAll 32 = .ok (.aload_n 0, 1) := dqo_42 (kb_of ke_X4_removeAll 32 rfl)
theorem dX4_removeAll_33 : decode cX4_removeAll 33 = .ok (.iload_n 1, 1) := dqo_27 (kb_of ke_X4_removeAll 33 rfl)
theorem dX4_removeAll_34 : decode cX4_removeAll 34 = .ok (.iload_n 2, 1) := dqo_28 (kb_of ke_X4_removeAll 34 rfl)
theorem dX4_removeAll_35 : decode cX4_removeAll 35 = .ok (.iconst 0, 1) := dqo_3 (kb_of ke_X4_removeAll 35 rfl)
theorem dX4_removeAll_36 : decode cX4_removeAll 36 = .ok (.invokevirtual 133, 3) := dqo_182 0 133 (kb_of ke_X4_removeAll 36 rfl) (kb_of ke_X4_removeAll 37 rfl) (kb_of ke_X4_removeAll 38 rfl)
set_option maxRecDepth 100000 in
set_option maxHeartbeats 4000000 in
theorem D_removeAll_ok {l : Launch} {D : va_G} {cy : Nat → ClassId} {X : (Nat → Prop) → State → Heap → Prop} {ba ra : Nat → Nat} {hf : Nat → Nat → Nat} {hq : Nat → Nat → Int32} {kn th : Int32} {sm : Int64} {Y : va_W} {f : Nat → Nat → Nat} {r : Nat → Nat → Int32} {i : Nat} {j : Nat} (hX : EnvM X cy) (hC : CInv f) (hM : MR f r hf hq) (hi4 : i < 4) (hj4 : j < 4) : Cm l D cy X yX4_removeAll cX4_removeAll 3 (some .int) (rmk 9 20 190 420) [.ref (ba 9), .int (nI i), .int (nI j)] (WM cy ba ra hf hq kn th sm ++ Y) (fun v1 w1 => ∃ ra9 : Nat → Nat, v1 = some (.int (nI ((hf 4 i) - (siC (hqP hq (hf 4 j) j) 0 (hq i) (hf 4 i) 0 0)))) ∧ w1 = WM cy ba ra9 (up2 (chM f hf i 4294967295) 4 i (siC (hqP hq (hf 4 j) j) 0 (hq i) (hf 4 i) 0 0)) (upR hq i (siA (hqP hq (hf 4 j) j) 0 (hq i) (hf 4 i) 0 0 (fun _ => 0))) kn (nI 0) sm ++ Y) (fun _ => False) := by
  have hG := hM.1
  have h5M := hM.h5M hC
  have h4M := hC.h4M
  have h9a := hM.h9a hC
  have h6a := hM.h6a
  have hU := hM.hU hC
  have qi := hC.rw hi4
  have pi := (hM.2.1 i hi4).1
  have ei : hf 4 (f 1 i) = hf 4 i := by rw [qi.2.1]
  have wi := hM.wh hC (w := i) (by omega) qi.2.2.2.2.2
  have qj := hC.rw hj4
  have pj := (hM.2.1 j hj4).1
  have ej : hf 4 (f 1 j) = hf 4 j := by rw [qj.2.1]
  have wj := hM.wh hC (w := j) (by omega) qj.2.2.2.2.2
  refine Cm.of [some (.ref (ba 9)), some (.int (nI i)), some (.int (nI j))] pn_X4 rfl (Nat.le_of_ble_eq_true rfl) ?_
  intro p e s m args below meth c A C hE hr hnt hn
  refine r_aload_n C dX4_removeAll_0 rfl ?_
  refine r_iload_n C dX4_removeAll_1 rfl ?_
  refine d_S (st := [.ref (ba 9)]) hX.1.stb C hE (D_isNoRow0 (ba := ba) (ra := ra) (hf := hf) (hq := hq) (kn := kn) (th := th) (sm := sm) (Y := Y) (i := i) hX (by first | omega | (simp [up2, *]; done) | (simp [up2, *]; omega) | (simp only [up2_eq]; omega) | (split <;> omega))) pk_X4_isNoRow qm_X4_119 rfl rfl (Nat.le_of_ble_eq_true rfl) dX4_removeAll_2 ⟨(Nat.le_of_ble_eq_true rfl), (Nat.le_of_ble_eq_true rfl)⟩ ⟨(Nat.le_of_ble_eq_true rfl), (Nat.le_of_ble_eq_true rfl)⟩ ?_
  refine r_w (w' := WM cy ba ra hf hq kn th sm ++ Y) rfl ?_
  refine r_ifN_ne (a := 0) (tgt := 15) C (by first | omega | (simp [up2, *]; done) | (simp [up2, *]; omega) | (simp only [up2_eq]; omega) | (split <;> omega)) dX4_removeAll_5 (by decide) (fun h5_1 => ?_) (fun h5_1 => ?_)
  · exact absurd h5_1 (by first | omega | (simp [up2, *]; done) | (simp [up2, *]; omega) | (simp only [up2_eq]; omega) | (split <;> omega))
  · skip
    refine r_iload_n C dX4_removeAll_8 rfl ?_
    refine d_S (st := [.ref (ba 9)]) hX.1.stb C hE (D_isNoRow0 (ba := ba) (ra := ra) (hf := hf) (hq := hq) (kn := kn) (th := th) (sm := sm) (Y := Y) (i := j) hX (by first | omega | (simp [up2, *]; done) | (simp [up2, *]; omega) | (simp only [up2_eq]; omega) | (split <;> omega))) pk_X4_isNoRow qm_X4_119 rfl rfl (Nat.le_of_ble_eq_true rfl) dX4_removeAll_9 ⟨(Nat.le_of_ble_eq_true rfl), (Nat.le_of_ble_eq_true rfl)⟩ ⟨(Nat.le_of_ble_eq_true rfl), (Nat.le_of_ble_eq_true rfl)⟩ ?_
    refine r_w (w' := WM cy ba ra hf hq kn th sm ++ Y) rfl ?_
    refine r_ifN_eq (a := 0) (tgt := 19) C (by first | omega | (simp [up2, *]; done) | (simp [up2, *]; omega) | (simp only [up2_eq]; omega) | (split <;> omega)) dX4_removeAll_12 (by decide) (fun h12_2 => ?_) (fun h12_2 => ?_)
    · skip
      refine r_iconst (v := (nI 0)) C dX4_removeAll_19 (by decide) ?_
      refine r_iconst (v := (nI 0)) C dX4_removeAll_20 (by decide) ?_
      refine r_iconst (v := (nI 0)) C dX4_removeAll_21 (by decide) ?_
      refine d_V (st := []) hX.1.stb C hE (D_fails0 (ba := ba) (ra := ra) (hf := hf) (hq := hq) (kn := kn) (th := th) (sm := sm) (Y := Y)  hX ) pk_X4_fails qm_X4_84 0 8 rfl rfl wm_0 rfl rfl (Nat.le_of_ble_eq_true rfl) dX4_removeAll_22 ⟨(Nat.le_of_ble_eq_true rfl), (Nat.le_of_ble_eq_true rfl)⟩ ⟨(Nat.le_of_ble_eq_true rfl), (Nat.le_of_ble_eq_true rfl)⟩ ?_
      refine r_w (w' := WM cy ba ra hf hq kn (nI 0) sm ++ Y) rfl ?_
      refine r_ifN_eq (a := 0) (tgt := 32) C (by first | omega | (simp [up2, *]; done) | (simp [up2, *]; omega) | (simp only [up2_eq]; omega) | (split <;> omega)) dX4_removeAll_25 (by decide) (fun h25_3 => ?_) (fun h25_3 => ?_)
      · skip
        refine r_aload_n C dX4_removeAll_32 rfl ?_
        refine r_iload_n C dX4_removeAll_33 rfl ?_
        refine r_iload_n C dX4_removeAll_34 rfl ?_
        refine r_iconst (v := (nI 0)) C dX4_removeAll_35 (by decide) ?_
        refine e_V (st := []) hX.1.stb C hE (D_kept0 (ba := ba) (ra := ra) (hf := hf) (hq := hq) (kn := kn) (th := (nI 0)) (sm := sm) (Y := Y) (f := f) (i := i) (j := j) hX hC hM hi4 hj4) pk_X4_kept qm_X4_133 0 8 rfl rfl wm_0 rfl rfl (Nat.le_of_ble_eq_true rfl) dX4_removeAll_36 ⟨(Nat.le_of_ble_eq_true rfl), (Nat.le_of_ble_eq_true rfl)⟩ ⟨(Nat.le_of_ble_eq_true rfl), (Nat.le_of_ble_eq_true rfl)⟩ (fun ra_4 => ?_)
        refine r_w (w' := WM cy ba ra_4 (up2 (chM f hf i 4294967295) 4 i (siC (hqP hq (hf 4 j) j) 0 (hq i) (hf 4 i) 0 0)) (upR hq i (siA (hqP hq (hf 4 j) j) 0 (hq i) (hf 4 i) 0 0 (fun _ => 0))) kn (nI 0) sm ++ Y) rfl ?_
        refine r_st (st' := [.int (nI ((hf 4 i) - (siC (hqP hq (hf 4 j) j) 0 (hq i) (hf 4 i) 0 0)))]) rfl ?_
        exact r_iret C hr dX4_removeAll_39 ⟨_, rfl, rfl⟩ (Nat.le_of_ble_eq_true rfl) (Nat.le_of_ble_eq_true rfl)
      · exact absurd h25_3 (by first | omega | (simp [up2, *]; done) | (simp [up2, *]; omega) | (simp only [up2_eq]; omega) | (split <;> omega))
    · exact absurd h12_2 (by first | omega | (simp [up2, *]; done) | (simp [up2, *]; omega) | (simp only [up2_eq]; omega) | (split <;> omega))
theorem dX4_retainAll_0 : decode cX4_retainAll 0 = .ok (.aload_n 0, 1) := dqo_42 (kb_of ke_X4_retainAll 0 rfl)
theorem dX4_retainAll_1 : decode cX4_retainAll 1 = .ok (.iload_n 1, 1) := dqo_27 (kb_of ke_X4_retainAll 1 rfl)
theorem dX4_retainAll_2 : decode cX4_retainAll 2 = .ok (.invokestatic 119, 3) := dqo_184 0 119 (kb_of ke_X4_retainAll 2 rfl) (kb_of ke_X4_retainAll 3 rfl) (kb_of ke_X4_retainAll 4 rfl)
theorem dX4_retainAll_5 : decode cX4_retainAll 5 = .ok (.ifCond .ne 10, 3) := dqo_154 0 10 (by decide) (kb_of ke_X4_retainAll 5 rfl) (kb_of ke_X4_retainAll 6 rfl) (kb_of ke_X4_retainAll 7 rfl)
theorem dX4_retainAll_15 : decode cX4_retainAll 15 = .ok (.iconst 1, 1) := dqo_4 (kb_of ke_X4_retainAll 15 rfl)
theorem dX4_retainAll_16 : decode cX4_retainAll 16 = .ok (.goto 4, 3) := dqo_167 0 4 (by decide) (kb_of ke_X4_retainAll 16 rfl) (kb_of ke_X4_retainAll 17 rfl) (kb_of ke_X4_retainAll 18 rfl)
theorem dX4_retainAll_20 : decode cX4_retainAll 20 = .ok (.iconst 0, 1) := dqo_3 (kb_of ke_X4_retainAll 20 rfl)
theorem dX4_retainAll_21 : decode cX4_retainAll 21 = .ok (.iconst 0, 1) := dqo_3 (kb_of ke_X4_retainAll 21 rfl)
theorem dX4_retainAll_22 : decode cX4_retainAll 22 = .ok (.invokevirtual 84, 3) := dqo_182 0 84 (kb_of ke_X4_retainAll 22 rfl) (kb_of ke_X4_retainAll 23 rfl) (kb_of ke_X4_retainAll 24 rfl)
theorem dX4_retainAll_25 : decode cX4_retainAll 25 = .ok (.ifCond .eq 7, 3) := dqo_153 0 7 (by decide) (kb_of ke_X4_retainAll 25 rfl) (kb_of ke_X4_retainAll 26 rfl) (kb_of ke_X4_retainAll 27 rfl)
theorem dX4_retainAll_28 : decode cX4_retainAll 28 = .ok (.iconst 0, 1) := dqo_3 (kb_of ke_X4_retainAll 28 rfl)
theorem dX4_retainAll_29 : decode cX4_retainAll 29 = .ok (.goto 10, 3) := dqo_167 0 10 (by decide) (kb_of ke_X4_retainAll 29 rfl) (kb_of ke_X4_retainAll 30 rfl) (kb_of ke_X4_retainAll 31 rfl)
theorem dX4_retainAll_39 : decode cX4_retainAll 39 = .ok (.ireturn, 1) := dqo_172 (kb_of ke_X4_retainAll 39 rfl)
set_option maxRecDepth 100000 in
set_option maxHeartbeats 4000000 in
theorem D_retainAll_noR {l : Launch} {D : va_G} {cy : Nat → ClassId} {X : (Nat → Prop) → State → Heap → Prop} {ba ra : Nat → Nat} {hf : Nat → Nat → Nat} {hq : Nat → Nat → Int32} {kn th : Int32} {sm : Int64} {Y : va_W} {f : Nat → Nat → Nat} {r : Nat → Nat → Int32} {x : Int32} {y0 : Int32} (hX : EnvM X cy) (hC : CInv f) (hM : MR f r hf hq) (hno : ¬ (0 ≤ x ∧ x < nI 4)) : Cd l D cy X yX4_retainAll cX4_retainAll 3 (some .int) (rmk 9 4 48 420) [.ref (ba 9), .int x, .int y0] (WM cy ba ra hf hq kn th sm ++ Y) (some (.int (nI 0))) (WM cy ba ra hf hq kn (nI 1) sm ++ Y) := by
  have hG := hM.1
  have h5M := hM.h5M hC
  have h4M := hC.h4M
  have h9a := hM.h9a hC
  have h6a := hM.h6a
  have hU := hM.hU hC
  refine Cm.of [some (.ref (ba 9)), some (.int x), some (.int y0)] pn_X4 rfl (Nat.le_of_ble_eq_true rfl) ?_
  intro p e s m args below meth c A C hE hr hnt hn
  refine r_aload_n C dX4_retainAll_0 rfl ?_
  refine r_iload_n C dX4_retainAll_1 rfl ?_
  refine d_S (st := [.ref (ba 9)]) hX.1.stb C hE (D_isNoRow1 (ba := ba) (ra := ra) (hf := hf) (hq := hq) (kn := kn) (th := th) (sm := sm) (Y := Y) (x := (x)) hX hno) pk_X4_isNoRow qm_X4_119 rfl rfl (Nat.le_of_ble_eq_true rfl) dX4_retainAll_2 ⟨(Nat.le_of_ble_eq_true rfl), (Nat.le_of_ble_eq_true rfl)⟩ ⟨(Nat.le_of_ble_eq_true rfl), (Nat.le_of_ble_eq_true rfl)⟩ ?_
  refine r_w (w' := WM cy ba ra hf hq kn th sm ++ Y) rfl ?_
  refine r_ifN_ne (a := 1) (tgt := 15) C (by first | omega | (simp [up2, *]; done) | (simp [up2, *]; omega) | (simp only [up2_eq]; omega) | (split <;> omega)) dX4_retainAll_5 (by decide) (fun h5_1 => ?_) (fun h5_1 => ?_)
  · skip
    refine r_iconst (v := (nI 1)) C dX4_retainAll_15 (by decide) ?_
    refine r_goto (tgt := 20) C dX4_retainAll_16 (by decide) ?_
    refine r_iconst (v := (nI 0)) C dX4_retainAll_20 (by decide) ?_
    refine r_iconst (v := (nI 0)) C dX4_retainAll_21 (by decide) ?_
    refine d_V (st := []) hX.1.stb C hE (D_fails1 (ba := ba) (ra := ra) (hf := hf) (hq := hq) (kn := kn) (th := th) (sm := sm) (Y := Y) (b0 := 0) (d0 := 0) hX ) pk_X4_fails qm_X4_84 0 8 rfl rfl wm_0 rfl rfl (Nat.le_of_ble_eq_true rfl) dX4_retainAll_22 ⟨(Nat.le_of_ble_eq_true rfl), (Nat.le_of_ble_eq_true rfl)⟩ ⟨(Nat.le_of_ble_eq_true rfl), (Nat.le_of_ble_eq_true rfl)⟩ ?_
    refine r_w (w' := WM cy ba ra hf hq kn (nI 1) sm ++ Y) rfl ?_
    refine r_ifN_eq (a := 1) (tgt := 32) C (by first | omega | (simp [up2, *]; done) | (simp [up2, *]; omega) | (simp only [up2_eq]; omega) | (split <;> omega)) dX4_retainAll_25 (by decide) (fun h25_2 => ?_) (fun h25_2 => ?_)
    · exact absurd h25_2 (by first | omega | (simp [up2, *]; done) | (simp [up2, *]; omega) | (simp only [up2_eq]; omega) | (split <;> omega))
    · skip
      refine r_iconst (v := (nI 0)) C dX4_retainAll_28 (by decide) ?_
      refine r_goto (tgt := 39) C dX4_retainAll_29 (by decide) ?_
      exact r_iret C hr dX4_retainAll_39 ⟨rfl, rfl⟩ (Nat.le_of_ble_eq_true rfl) (Nat.le_of_ble_eq_true rfl)
  · exact absurd h5_1 (by first | omega | (simp [up2, *]; done) | (simp [up2, *]; omega) | (simp only [up2_eq]; omega) | (split <;> omega))
theorem dX4_retainAll_8 : decode cX4_retainAll 8 = .ok (.iload_n 2, 1) := dqo_28 (kb_of ke_X4_retainAll 8 rfl)
theorem dX4_retainAll_9 : decode cX4_retainAll 9 = .ok (.invokestatic 119, 3) := dqo_184 0 119 (kb_of ke_X4_retainAll 9 rfl) (kb_of ke_X4_retainAll 10 rfl) (kb_of ke_X4_retainAll 11 rfl)
theorem dX4_retainAll_12 : decode cX4_retainAll 12 = .ok (.ifCond .eq 7, 3) := dqo_153 0 7 (by decide) (kb_of ke_X4_retainAll 12 rfl) (kb_of ke_X4_retainAll 13 rfl) (kb_of ke_X4_retainAll 14 rfl)
set_option maxRecDepth 100000 in
set_option maxHeartbeats 4000000 in
theorem D_retainAll_noR2 {l : Launch} {D : va_G} {cy : Nat → ClassId} {X : (Nat → Prop) → State → Heap → Prop} {ba ra : Nat → Nat} {hf : Nat → Nat → Nat} {hq : Nat → Nat → Int32} {kn th : Int32} {sm : Int64} {Y : va_W} {f : Nat → Nat → Nat} {r : Nat → Nat → Int32} {i : Nat} {x : Int32} (hX : EnvM X cy) (hC : CInv f) (hM : MR f r hf hq) (hi4 : i < 4) (hno : ¬ (0 ≤ x ∧ x < nI 4)) : Cd l D cy X yX4_retainAll cX4_retainAll 3 (some .int) (rmk 9 4 48 420) [.ref (ba 9), .int (nI i), .int x] (WM cy ba ra hf hq kn th sm ++ Y) (some (.int (nI 0))) (WM cy ba ra hf hq kn (nI 1) sm ++ Y) := by
  have hG := hM.1
  have h5M := hM.h5M hC
  have h4M := hC.h4M
  have h9a := hM.h9a hC
  have h6a := hM.h6a
  have hU := hM.hU hC
  have qi := hC.rw hi4
  have pi := (hM.2.1 i hi4).1
  have ei : hf 4 (f 1 i) = hf 4 i := by rw [qi.2.1]
  have wi := hM.wh hC (w := i) (by omega) qi.2.2.2.2.2
  refine Cm.of [some (.ref (ba 9)), some (.int (nI i)), some (.int x)] pn_X4 rfl (Nat.le_of_ble_eq_true rfl) ?_
  intro p e s m args below meth c A C hE hr hnt hn
  refine r_aload_n C dX4_retainAll_0 rfl ?_
  refine r_iload_n C dX4_retainAll_1 rfl ?_
  refine d_S (st := [.ref (ba 9)]) hX.1.stb C hE (D_isNoRow0 (ba := ba) (ra := ra) (hf := hf) (hq := hq) (kn := kn) (th := th) (sm := sm) (Y := Y) (i := i) hX (by first | omega | (simp [up2, *]; done) | (simp [up2, *]; omega) | (simp only [up2_eq]; omega) | (split <;> omega))) pk_X4_isNoRow qm_X4_119 rfl rfl (Nat.le_of_ble_eq_true rfl) dX4_retainAll_2 ⟨(Nat.le_of_ble_eq_true rfl), (Nat.le_of_ble_eq_true rfl)⟩ ⟨(Nat.le_of_ble_eq_true rfl), (Nat.le_of_ble_eq_true rfl)⟩ ?_
  refine r_w (w' := WM cy ba ra hf hq kn th sm ++ Y) rfl ?_
  refine r_ifN_ne (a := 0) (tgt := 15) C (by first | omega | (simp [up2, *]; done) | (simp [up2, *]; omega) | (simp only [up2_eq]; omega) | (split <;> omega)) dX4_retainAll_5 (by decide) (fun h5_1 => ?_) (fun h5_1 => ?_)
  · exact absurd h5_1 (by first | omega | (simp [up2, *]; done) | (simp [up2, *]; omega) | (simp only [up2_eq]; omega) | (split <;> omega))
  · skip
    refine r_iload_n C dX4_retainAll_8 rfl ?_
    refine d_S (st := [.ref (ba 9)]) hX.1.stb C hE (D_isNoRow1 (ba := ba) (ra := ra) (hf := hf) (hq := hq) (kn := kn) (th := th) (sm := sm) (Y := Y) (x := (x)) hX hno) pk_X4_isNoRow qm_X4_119 rfl rfl (Nat.le_of_ble_eq_true rfl) dX4_retainAll_9 ⟨(Nat.le_of_ble_eq_true rfl), (Nat.le_of_ble_eq_true rfl)⟩ ⟨(Nat.le_of_ble_eq_true rfl), (Nat.le_of_ble_eq_true rfl)⟩ ?_
    refine r_w (w' := WM cy ba ra hf hq kn th sm ++ Y) rfl ?_
    refine r_ifN_eq (a := 1) (tgt := 19) C (by first | omega | (simp [up2, *]; done) | (simp [up2, *]; omega) | (simp only [up2_eq]; omega) | (split <;> omega)) dX4_retainAll_12 (by decide) (fun h12_2 => ?_) (fun h12_2 => ?_)
    · exact absurd h12_2 (by first | omega | (simp [up2, *]; done) | (simp [up2, *]; omega) | (simp only [up2_eq]; omega) | (split <;> omega))
    · skip
      refine r_iconst (v := (nI 1)) C dX4_retainAll_15 (by decide) ?_
      refine r_goto (tgt := 20) C dX4_retainAll_16 (by decide) ?_
      refine r_iconst (v := (nI 0)) C dX4_retainAll_20 (by decide) ?_
      refine r_iconst (v := (nI 0)) C dX4_retainAll_21 (by decide) ?_
      refine d_V (st := []) hX.1.stb C hE (D_fails1 (ba := ba) (ra := ra) (hf := hf) (hq := hq) (kn := kn) (th := th) (sm := sm) (Y := Y) (b0 := 0) (d0 := 0) hX ) pk_X4_fails qm_X4_84 0 8 rfl rfl wm_0 rfl rfl (Nat.le_of_ble_eq_true rfl) dX4_retainAll_22 ⟨(Nat.le_of_ble_eq_true rfl), (Nat.le_of_ble_eq_true rfl)⟩ ⟨(Nat.le_of_ble_eq_true rfl), (Nat.le_of_ble_eq_true rfl)⟩ ?_
      refine r_w (w' := WM cy ba ra hf hq kn (nI 1) sm ++ Y) rfl ?_
      refine r_ifN_eq (a := 1) (tgt := 32) C (by first | omega | (simp [up2, *]; done) | (simp [up2, *]; omega) | (simp only [up2_eq]; omega) | (split <;> omega)) dX4_retainAll_25 (by decide) (fun h25_3 => ?_) (fun h25_3 => ?_)
      · exact absurd h25_3 (by first | omega | (simp [up2, *]; done) | (simp [up2, *]; omega) | (simp only [up2_eq]; omega) | (split <;> omega))
      · skip
        refine r_iconst (v := (nI 0)) C dX4_retainAll_28 (by decide) ?_
        refine r_goto (tgt := 39) C dX4_retainAll_29 (by decide) ?_
        exact r_iret C hr dX4_retainAll_39 ⟨rfl, rfl⟩ (Nat.le_of_ble_eq_true rfl) (Nat.le_of_ble_eq_true rfl)
theorem dX4_retainAll_19 : decode cX4_retainAll 19 = .ok (.iconst 0, 1) := dqo_3 (kb_of ke_X4_retainAll 19 rfl)
theorem dX4_retainAll_32 : decode cX4_retainAll 32 = .ok (.aload_n 0, 1) := dqo_42 (kb_of ke_X4_retainAll 32 rfl)
theorem dX4_retainAll_33 : decode cX4_retainAll 33 = .ok (.iload_n 1, 1) := dqo_27 (kb_of ke_X4_retainAll 33 rfl)
theorem dX4_retainAll_34 : decode cX4_retainAll 34 = .ok (.iload_n 2, 1) := dqo_28 (kb_of ke_X4_retainAll 34 rfl)
theorem dX4_retainAll_35 : decode cX4_retainAll 35 = .ok (.iconst 1, 1) := dqo_4 (kb_of ke_X4_retainAll 35 rfl)
theorem dX4_retainAll_36 : decode cX4_retainAll 36 = .ok (.invokevirtual 133, 3) := dqo_182 0 133 (kb_of ke_X4_retainAll 36 rfl) (kb_of ke_X4_retainAll 37 rfl) (kb_of ke_X4_retainAll 38 rfl)
set_option maxRecDepth 100000 in
set_option maxHeartbeats 4000000 in
theorem D_retainAll_ok {l : Launch} {D : va_G} {cy : Nat → ClassId} {X : (Nat → Prop) → State → Heap → Prop} {ba ra : Nat → Nat} {hf : Nat → Nat → Nat} {hq : Nat → Nat → Int32} {kn th : Int32} {sm : Int64} {Y : va_W} {f : Nat → Nat → Nat} {r : Nat → Nat → Int32} {i : Nat} {j : Nat} (hX : EnvM X cy) (hC : CInv f) (hM : MR f r hf hq) (hi4 : i < 4) (hj4 : j < 4) : Cm l D cy X yX4_retainAll cX4_retainAll 3 (some .int) (rmk 9 20 190 420) [.ref (ba 9), .int (nI i), .int (nI j)] (WM cy ba ra hf hq kn th sm ++ Y) (fun v1 w1 => ∃ ra9 : Nat → Nat, v1 = some (.int (nI ((hf 4 i) - (siC (hqP hq (hf 4 j) j) 1 (hq i) (hf 4 i) 0 0)))) ∧ w1 = WM cy ba ra9 (up2 (chM f hf i 4294967295) 4 i (siC (hqP hq (hf 4 j) j) 1 (hq i) (hf 4 i) 0 0)) (upR hq i (siA (hqP hq (hf 4 j) j) 1 (hq i) (hf 4 i) 0 0 (fun _ => 0))) kn (nI 0) sm ++ Y) (fun _ => False) := by
  have hG := hM.1
  have h5M := hM.h5M hC
  have h4M := hC.h4M
  have h9a := hM.h9a hC
  have h6a := hM.h6a
  have hU := hM.hU hC
  have qi := hC.rw hi4
  have pi := (hM.2.1 i hi4).1
  have ei : hf 4 (f 1 i) = hf 4 i := by rw [qi.2.1]
  have wi := hM.wh hC (w := i) (by omega) qi.2.2.2.2.2
  have qj := hC.rw hj4
  have pj := (hM.2.1 j hj4).1
  have ej : hf 4 (f 1 j) = hf 4 j := by rw [qj.2.1]
  have wj := hM.wh hC (w := j) (by omega) qj.2.2.2.2.2
  refine Cm.of [some (.ref (ba 9)), some (.int (nI i)), some (.int (nI j))] pn_X4 rfl (Nat.le_of_ble_eq_true rfl) ?_
  intro p e s m args below meth c A C hE hr hnt hn
  refine r_aload_n C dX4_retainAll_0 rfl ?_
  refine r_iload_n C dX4_retainAll_1 rfl ?_
  refine d_S (st := [.ref (ba 9)]) hX.1.stb C hE (D_isNoRow0 (ba := ba) (ra := ra) (hf := hf) (hq := hq) (kn := kn) (th := th) (sm := sm) (Y := Y) (i := i) hX (by first | omega | (simp [up2, *]; done) | (simp [up2, *]; omega) | (simp only [up2_eq]; omega) | (split <;> omega))) pk_X4_isNoRow qm_X4_119 rfl rfl (Nat.le_of_ble_eq_true rfl) dX4_retainAll_2 ⟨(Nat.le_of_ble_eq_true rfl), (Nat.le_of_ble_eq_true rfl)⟩ ⟨(Nat.le_of_ble_eq_true rfl), (Nat.le_of_ble_eq_true rfl)⟩ ?_
  refine r_w (w' := WM cy ba ra hf hq kn th sm ++ Y) rfl ?_
  refine r_ifN_ne (a := 0) (tgt := 15) C (by first | omega | (simp [up2, *]; done) | (simp [up2, *]; omega) | (simp only [up2_eq]; omega) | (split <;> omega)) dX4_retainAll_5 (by decide) (fun h5_1 => ?_) (fun h5_1 => ?_)
  · exact absurd h5_1 (by first | omega | (simp [up2, *]; done) | (simp [up2, *]; omega) | (simp only [up2_eq]; omega) | (split <;> omega))
  · skip
    refine r_iload_n C dX4_retainAll_8 rfl ?_
    refine d_S (st := [.ref (ba 9)]) hX.1.stb C hE (D_isNoRow0 (ba := ba) (ra := ra) (hf := hf) (hq := hq) (kn := kn) (th := th) (sm := sm) (Y := Y) (i := j) hX (by first | omega | (simp [up2, *]; done) | (simp [up2, *]; omega) | (simp only [up2_eq]; omega) | (split <;> omega))) pk_X4_isNoRow qm_X4_119 rfl rfl (Nat.le_of_ble_eq_true rfl) dX4_retainAll_9 ⟨(Nat.le_of_ble_eq_true rfl), (Nat.le_of_ble_eq_true rfl)⟩ ⟨(Nat.le_of_ble_eq_true rfl), (Nat.le_of_ble_eq_true rfl)⟩ ?_
    refine r_w (w' := WM cy ba ra hf hq kn th sm ++ Y) rfl ?_
    refine r_ifN_eq (a := 0) (tgt := 19) C (by first | omega | (simp [up2, *]; done) | (simp [up2, *]; omega) | (simp only [up2_eq]; omega) | (split <;> omega)) dX4_retainAll_12 (by decide) (fun h12_2 => ?_) (fun h12_2 => ?_)
    · skip
      refine r_iconst (v := (nI 0)) C dX4_retainAll_19 (by decide) ?_
      refine r_iconst (v := (nI 0)) C dX4_retainAll_20 (by decide) ?_
      refine r_iconst (v := (nI 0)) C dX4_retainAll_21 (by decide) ?_
      refine d_V (st := []) hX.1.stb C hE (D_fails0 (ba := ba) (ra := ra) (hf := hf) (hq := hq) (kn := kn) (th := th) (sm := sm) (Y := Y)  hX ) pk_X4_fails qm_X4_84 0 8 rfl rfl wm_0 rfl rfl (Nat.le_of_ble_eq_true rfl) dX4_retainAll_22 ⟨(Nat.le_of_ble_eq_true rfl), (Nat.le_of_ble_eq_true rfl)⟩ ⟨(Nat.le_of_ble_eq_true rfl), (Nat.le_of_ble_eq_true rfl)⟩ ?_
      refine r_w (w' := WM cy ba ra hf hq kn (nI 0) sm ++ Y) rfl ?_
      refine r_ifN_eq (a := 0) (tgt := 32) C (by first | omega | (simp [up2, *]; done) | (simp [up2, *]; omega) | (simp only [up2_eq]; omega) | (split <;> omega)) dX4_retainAll_25 (by decide) (fun h25_3 => ?_) (fun h25_3 => ?_)
      · skip
        refine r_aload_n C dX4_retainAll_32 rfl ?_
        refine r_iload_n C dX4_retainAll_33 rfl ?_
        refine r_iload_n C dX4_retainAll_34 rfl ?_
        refine r_iconst (v := (nI 1)) C dX4_retainAll_35 (by decide) ?_
        refine e_V (st := []) hX.1.stb C hE (D_kept1 (ba := ba) (ra := ra) (hf := hf) (hq := hq) (kn := kn) (th := (nI 0)) (sm := sm) (Y := Y) (f := f) (i := i) (j := j) hX hC hM hi4 hj4) pk_X4_kept qm_X4_133 0 8 rfl rfl wm_0 rfl rfl (Nat.le_of_ble_eq_true rfl) dX4_retainAll_36 ⟨(Nat.le_of_ble_eq_true rfl), (Nat.le_of_ble_eq_true rfl)⟩ ⟨(Nat.le_of_ble_eq_true rfl), (Nat.le_of_ble_eq_true rfl)⟩ (fun ra_4 => ?_)
        refine r_w (w' := WM cy ba ra_4 (up2 (chM f hf i 4294967295) 4 i (siC (hqP hq (hf 4 j) j) 1 (hq i) (hf 4 i) 0 0)) (upR hq i (siA (hqP hq (hf 4 j) j) 1 (hq i) (hf 4 i) 0 0 (fun _ => 0))) kn (nI 0) sm ++ Y) rfl ?_
        refine r_st (st' := [.int (nI ((hf 4 i) - (siC (hqP hq (hf 4 j) j) 1 (hq i) (hf 4 i) 0 0)))]) rfl ?_
        exact r_iret C hr dX4_retainAll_39 ⟨_, rfl, rfl⟩ (Nat.le_of_ble_eq_true rfl) (Nat.le_of_ble_eq_true rfl)
      · exact absurd h25_3 (by first | omega | (simp [up2, *]; done) | (simp [up2, *]; omega) | (simp only [up2_eq]; omega) | (split <;> omega))
    · exact absurd h12_2 (by first | omega | (simp [up2, *]; done) | (simp [up2, *]; omega) | (simp only [up2_eq]; omega) | (split <;> omega))
theorem dX4_places_0 : decode cX4_places 0 = .ok (.aload_n 0, 1) := dqo_42 (kb_of ke_X4_places 0 rfl)
theorem dX4_places_1 : decode cX4_places 1 = .ok (.iload_n 1, 1) := dqo_27 (kb_of ke_X4_places 1 rfl)
theorem dX4_places_2 : decode cX4_places 2 = .ok (.invokestatic 119, 3) := dqo_184 0 119 (kb_of ke_X4_places 2 rfl) (kb_of ke_X4_places 3 rfl) (kb_of ke_X4_places 4 rfl)
theorem dX4_places_5 : decode cX4_places 5 = .ok (.iload_n 2, 1) := dqo_28 (kb_of ke_X4_places 5 rfl)
theorem dX4_places_6 : decode cX4_places 6 = .ok (.iconst 0, 1) := dqo_3 (kb_of ke_X4_places 6 rfl)
theorem dX4_places_7 : decode cX4_places 7 = .ok (.bipush 12, 2) := dqo_16 12 (by decide) (kb_of ke_X4_places 7 rfl) (kb_of ke_X4_places 8 rfl)
theorem dX4_places_9 : decode cX4_places 9 = .ok (.invokestatic 1, 3) := dqo_184 0 1 (kb_of ke_X4_places 9 rfl) (kb_of ke_X4_places 10 rfl) (kb_of ke_X4_places 11 rfl)
theorem dX4_places_12 : decode cX4_places 12 = .ok (.ifCond .ne 7, 3) := dqo_154 0 7 (by decide) (kb_of ke_X4_places 12 rfl) (kb_of ke_X4_places 13 rfl) (kb_of ke_X4_places 14 rfl)
theorem dX4_places_15 : decode cX4_places 15 = .ok (.iconst 1, 1) := dqo_4 (kb_of ke_X4_places 15 rfl)
theorem dX4_places_16 : decode cX4_places 16 = .ok (.goto 4, 3) := dqo_167 0 4 (by decide) (kb_of ke_X4_places 16 rfl) (kb_of ke_X4_places 17 rfl) (kb_of ke_X4_places 18 rfl)
theorem dX4_places_19 : decode cX4_places 19 = .ok (.iconst 0, 1) := dqo_3 (kb_of ke_X4_places 19 rfl)
theorem dX4_places_20 : decode cX4_places 20 = .ok (.iconst 0, 1) := dqo_3 (kb_of ke_X4_places 20 rfl)
theorem dX4_places_21 : decode cX4_places 21 = .ok (.invokevirtual 84, 3) := dqo_182 0 84 (kb_of ke_X4_places 21 rfl) (kb_of ke_X4_places 22 rfl) (kb_of ke_X4_places 23 rfl)
theorem dX4_places_24 : decode cX4_places 24 = .ok (.ifCond .eq 5, 3) := dqo_153 0 5 (by decide) (kb_of ke_X4_places 24 rfl) (kb_of ke_X4_places 25 rfl) (kb_of ke_X4_places 26 rfl)
theorem dX4_places_27 : decode cX4_places 27 = .ok (.iconst 0, 1) := dqo_3 (kb_of ke_X4_places 27 rfl)
theorem dX4_places_28 : decode cX4_places 28 = .ok (.ireturn, 1) := dqo_172 (kb_of ke_X4_places 28 rfl)
set_option maxRecDepth 100000 in
set_option maxHeartbeats 4000000 in
theorem D_places_noR {l : Launch} {D : va_G} {cy : Nat → ClassId} {X : (Nat → Prop) → State → Heap → Prop} {ba ra : Nat → Nat} {hf : Nat → Nat → Nat} {hq : Nat → Nat → Int32} {kn th : Int32} {sm : Int64} {Y : va_W} {f : Nat → Nat → Nat} {r : Nat → Nat → Int32} {x : Int32} {y : Int32} (hX : EnvM X cy) (hC : CInv f) (hM : MR f r hf hq) (hno : ¬ (0 ≤ x ∧ x < nI 4)) : Cd l D cy X yX4_places cX4_places 5 (some .int) (rmk 9 4 48 420) [.ref (ba 9), .int x, .int y] (WM cy ba ra hf hq kn th sm ++ Y) (some (.int (nI 0))) (WM cy ba ra hf hq kn (nI 1) sm ++ Y) := by
  have hG := hM.1
  have h5M := hM.h5M hC
  have h4M := hC.h4M
  have h9a := hM.h9a hC
  have h6a := hM.h6a
  have hU := hM.hU hC
  refine Cm.of [some (.ref (ba 9)), some (.int x), some (.int y), none, none] pn_X4 rfl (Nat.le_of_ble_eq_true rfl) ?_
  intro p e s m args below meth c A C hE hr hnt hn
  refine r_aload_n C dX4_places_0 rfl ?_
  refine r_iload_n C dX4_places_1 rfl ?_
  refine d_S (st := [.ref (ba 9)]) hX.1.stb C hE (D_isNoRow1 (ba := ba) (ra := ra) (hf := hf) (hq := hq) (kn := kn) (th := th) (sm := sm) (Y := Y) (x := (x)) hX hno) pk_X4_isNoRow qm_X4_119 rfl rfl (Nat.le_of_ble_eq_true rfl) dX4_places_2 ⟨(Nat.le_of_ble_eq_true rfl), (Nat.le_of_ble_eq_true rfl)⟩ ⟨(Nat.le_of_ble_eq_true rfl), (Nat.le_of_ble_eq_true rfl)⟩ ?_
  refine r_w (w' := WM cy ba ra hf hq kn th sm ++ Y) rfl ?_
  refine r_iload_n C dX4_places_5 rfl ?_
  refine r_iconst (v := (nI 0)) C dX4_places_6 (by decide) ?_
  refine r_bipush (v := (nI 12)) C dX4_places_7 (by decide) ?_
  refine d_S (st := [.int (nI 1), .ref (ba 9)]) hX.1.stb C hE (D_isInX (ba := ba) (ra := ra) (hf := hf) (hq := hq) (kn := kn) (th := th) (sm := sm) (Y := Y) (x := (y)) (y := ((nI 0))) (z := ((nI 12))) hX ) pk_X4_isIn qm_X4_1 rfl rfl (Nat.le_of_ble_eq_true rfl) dX4_places_9 ⟨(Nat.le_of_ble_eq_true rfl), (Nat.le_of_ble_eq_true rfl)⟩ ⟨(Nat.le_of_ble_eq_true rfl), (Nat.le_of_ble_eq_true rfl)⟩ ?_
  refine r_w (w' := WM cy ba ra hf hq kn th sm ++ Y) rfl ?_
  refine r_ifN_ne (a := (if ((nI 0)) ≤ (y) ∧ (y) ≤ ((nI 12)) then 1 else 0)) (tgt := 19) C (by first | omega | (simp [up2, *]; done) | (simp [up2, *]; omega) | (simp only [up2_eq]; omega) | (split <;> omega)) dX4_places_12 (by decide) (fun h12_1 => ?_) (fun h12_1 => ?_)
  · first
    | exfalso; first | omega | contradiction
    | skip
      refine r_iconst (v := (nI 0)) C dX4_places_19 (by decide) ?_
      refine r_iconst (v := (nI 0)) C dX4_places_20 (by decide) ?_
      refine d_V (st := []) hX.1.stb C hE (D_fails1 (ba := ba) (ra := ra) (hf := hf) (hq := hq) (kn := kn) (th := th) (sm := sm) (Y := Y) (b0 := 0) (d0 := 0) hX ) pk_X4_fails qm_X4_84 0 8 rfl rfl wm_0 rfl rfl (Nat.le_of_ble_eq_true rfl) dX4_places_21 ⟨(Nat.le_of_ble_eq_true rfl), (Nat.le_of_ble_eq_true rfl)⟩ ⟨(Nat.le_of_ble_eq_true rfl), (Nat.le_of_ble_eq_true rfl)⟩ ?_
      refine r_w (w' := WM cy ba ra hf hq kn (nI 1) sm ++ Y) rfl ?_
      refine r_ifN_eq (a := 1) (tgt := 29) C (by first | omega | (simp [up2, *]; done) | (simp [up2, *]; omega) | (simp only [up2_eq]; omega) | (split <;> omega)) dX4_places_24 (by decide) (fun h24_2 => ?_) (fun h24_2 => ?_)
      · exact absurd h24_2 (by first | omega | (simp [up2, *]; done) | (simp [up2, *]; omega) | (simp only [up2_eq]; omega) | (split <;> omega))
      · skip
        refine r_iconst (v := (nI 0)) C dX4_places_27 (by decide) ?_
        exact r_iret C hr dX4_places_28 ⟨rfl, rfl⟩ (Nat.le_of_ble_eq_true rfl) (Nat.le_of_ble_eq_true rfl)
  · first
    | exfalso; first | omega | contradiction
    | skip
      refine r_iconst (v := (nI 1)) C dX4_places_15 (by decide) ?_
      refine r_goto (tgt := 20) C dX4_places_16 (by decide) ?_
      refine r_iconst (v := (nI 0)) C dX4_places_20 (by decide) ?_
      refine d_V (st := []) hX.1.stb C hE (D_fails1 (ba := ba) (ra := ra) (hf := hf) (hq := hq) (kn := kn) (th := th) (sm := sm) (Y := Y) (b0 := 1) (d0 := 0) hX ) pk_X4_fails qm_X4_84 0 8 rfl rfl wm_0 rfl rfl (Nat.le_of_ble_eq_true rfl) dX4_places_21 ⟨(Nat.le_of_ble_eq_true rfl), (Nat.le_of_ble_eq_true rfl)⟩ ⟨(Nat.le_of_ble_eq_true rfl), (Nat.le_of_ble_eq_true rfl)⟩ ?_
      refine r_w (w' := WM cy ba ra hf hq kn (nI 1) sm ++ Y) rfl ?_
      refine r_ifN_eq (a := 1) (tgt := 29) C (by first | omega | (simp [up2, *]; done) | (simp [up2, *]; omega) | (simp only [up2_eq]; omega) | (split <;> omega)) dX4_places_24 (by decide) (fun h24_3 => ?_) (fun h24_3 => ?_)
      · exact absurd h24_3 (by first | omega | (simp [up2, *]; done) | (simp [up2, *]; omega) | (simp only [up2_eq]; omega) | (split <;> omega))
      · skip
        refine r_iconst (v := (nI 0)) C dX4_places_27 (by decide) ?_
        exact r_iret C hr dX4_places_28 ⟨rfl, rfl⟩ (Nat.le_of_ble_eq_true rfl) (Nat.le_of_ble_eq_true rfl)
set_option maxRecDepth 100000 in
set_option maxHeartbeats 4000000 in
theorem D_places_noM {l : Launch} {D : va_G} {cy : Nat → ClassId} {X : (Nat → Prop) → State → Heap → Prop} {ba ra : Nat → Nat} {hf : Nat → Nat → Nat} {hq : Nat → Nat → Int32} {kn th : Int32} {sm : Int64} {Y : va_W} {f : Nat → Nat → Nat} {r : Nat → Nat → Int32} {i : Nat} {y : Int32} (hX : EnvM X cy) (hC : CInv f) (hM : MR f r hf hq) (hi4 : i < 4) (hno : ¬ (0 ≤ y ∧ y ≤ nI 12)) : Cd l D cy X yX4_places cX4_places 5 (some .int) (rmk 9 4 48 420) [.ref (ba 9), .int (nI i), .int y] (WM cy ba ra hf hq kn th sm ++ Y) (some (.int (nI 0))) (WM cy ba ra hf hq kn (nI 2) sm ++ Y) := by
  have hG := hM.1
  have h5M := hM.h5M hC
  have h4M := hC.h4M
  have h9a := hM.h9a hC
  have h6a := hM.h6a
  have hU := hM.hU hC
  have qi := hC.rw hi4
  have pi := (hM.2.1 i hi4).1
  have ei : hf 4 (f 1 i) = hf 4 i := by rw [qi.2.1]
  have wi := hM.wh hC (w := i) (by omega) qi.2.2.2.2.2
  refine Cm.of [some (.ref (ba 9)), some (.int (nI i)), some (.int y), none, none] pn_X4 rfl (Nat.le_of_ble_eq_true rfl) ?_
  intro p e s m args below meth c A C hE hr hnt hn
  refine r_aload_n C dX4_places_0 rfl ?_
  refine r_iload_n C dX4_places_1 rfl ?_
  refine d_S (st := [.ref (ba 9)]) hX.1.stb C hE (D_isNoRow0 (ba := ba) (ra := ra) (hf := hf) (hq := hq) (kn := kn) (th := th) (sm := sm) (Y := Y) (i := i) hX (by first | omega | (simp [up2, *]; done) | (simp [up2, *]; omega) | (simp only [up2_eq]; omega) | (split <;> omega))) pk_X4_isNoRow qm_X4_119 rfl rfl (Nat.le_of_ble_eq_true rfl) dX4_places_2 ⟨(Nat.le_of_ble_eq_true rfl), (Nat.le_of_ble_eq_true rfl)⟩ ⟨(Nat.le_of_ble_eq_true rfl), (Nat.le_of_ble_eq_true rfl)⟩ ?_
  refine r_w (w' := WM cy ba ra hf hq kn th sm ++ Y) rfl ?_
  refine r_iload_n C dX4_places_5 rfl ?_
  refine r_iconst (v := (nI 0)) C dX4_places_6 (by decide) ?_
  refine r_bipush (v := (nI 12)) C dX4_places_7 (by decide) ?_
  refine d_S (st := [.int (nI 0), .ref (ba 9)]) hX.1.stb C hE (D_isIn0 (ba := ba) (ra := ra) (hf := hf) (hq := hq) (kn := kn) (th := th) (sm := sm) (Y := Y) (x := (y)) (y := ((nI 0))) (z := ((nI 12))) hX hno) pk_X4_isIn qm_X4_1 rfl rfl (Nat.le_of_ble_eq_true rfl) dX4_places_9 ⟨(Nat.le_of_ble_eq_true rfl), (Nat.le_of_ble_eq_true rfl)⟩ ⟨(Nat.le_of_ble_eq_true rfl), (Nat.le_of_ble_eq_true rfl)⟩ ?_
  refine r_w (w' := WM cy ba ra hf hq kn th sm ++ Y) rfl ?_
  refine r_ifN_ne (a := 0) (tgt := 19) C (by first | omega | (simp [up2, *]; done) | (simp [up2, *]; omega) | (simp only [up2_eq]; omega) | (split <;> omega)) dX4_places_12 (by decide) (fun h12_1 => ?_) (fun h12_1 => ?_)
  · exact absurd h12_1 (by first | omega | (simp [up2, *]; done) | (simp [up2, *]; omega) | (simp only [up2_eq]; omega) | (split <;> omega))
  · skip
    refine r_iconst (v := (nI 1)) C dX4_places_15 (by decide) ?_
    refine r_goto (tgt := 20) C dX4_places_16 (by decide) ?_
    refine r_iconst (v := (nI 0)) C dX4_places_20 (by decide) ?_
    refine d_V (st := []) hX.1.stb C hE (D_fails2 (ba := ba) (ra := ra) (hf := hf) (hq := hq) (kn := kn) (th := th) (sm := sm) (Y := Y) (d0 := 0) hX ) pk_X4_fails qm_X4_84 0 8 rfl rfl wm_0 rfl rfl (Nat.le_of_ble_eq_true rfl) dX4_places_21 ⟨(Nat.le_of_ble_eq_true rfl), (Nat.le_of_ble_eq_true rfl)⟩ ⟨(Nat.le_of_ble_eq_true rfl), (Nat.le_of_ble_eq_true rfl)⟩ ?_
    refine r_w (w' := WM cy ba ra hf hq kn (nI 2) sm ++ Y) rfl ?_
    refine r_ifN_eq (a := 1) (tgt := 29) C (by first | omega | (simp [up2, *]; done) | (simp [up2, *]; omega) | (simp only [up2_eq]; omega) | (split <;> omega)) dX4_places_24 (by decide) (fun h24_2 => ?_) (fun h24_2 => ?_)
    · exact absurd h24_2 (by first | omega | (simp [up2, *]; done) | (simp [up2, *]; omega) | (simp only [up2_eq]; omega) | (split <;> omega))
    · skip
      refine r_iconst (v := (nI 0)) C dX4_places_27 (by decide) ?_
      exact r_iret C hr dX4_places_28 ⟨rfl, rfl⟩ (Nat.le_of_ble_eq_true rfl) (Nat.le_of_ble_eq_true rfl)
theorem dX4_places_29 : decode cX4_places 29 = .ok (.iload_n 2, 1) := dqo_28 (kb_of ke_X4_places 29 rfl)
theorem dX4_places_30 : decode cX4_places 30 = .ok (.newarray .int, 2) := dqo_188_10 (kb_of ke_X4_places 30 rfl) (kb_of ke_X4_places 31 rfl)
theorem dX4_places_32 : decode cX4_places 32 = .ok (.astore_n 3, 1) := dqo_78 (kb_of ke_X4_places 32 rfl)
theorem dX4_places_33 : decode cX4_places 33 = .ok (.iconst 0, 1) := dqo_3 (kb_of ke_X4_places 33 rfl)
theorem dX4_places_34 : decode cX4_places 34 = .ok (.istore 4, 2) := dqo_54 4 (kb_of ke_X4_places 34 rfl) (kb_of ke_X4_places 35 rfl)
theorem dX4_places_36 : decode cX4_places 36 = .ok (.iload 4, 2) := dqo_21 4 (kb_of ke_X4_places 36 rfl) (kb_of ke_X4_places 37 rfl)
theorem dX4_places_38 : decode cX4_places 38 = .ok (.iload_n 2, 1) := dqo_28 (kb_of ke_X4_places 38 rfl)
theorem dX4_places_39 : decode cX4_places 39 = .ok (.if_icmp .ge 15, 3) := dqo_162 0 15 (by decide) (kb_of ke_X4_places 39 rfl) (kb_of ke_X4_places 40 rfl) (kb_of ke_X4_places 41 rfl)
theorem dX4_places_42 : decode cX4_places 42 = .ok (.aload_n 3, 1) := dqo_45 (kb_of ke_X4_places 42 rfl)
theorem dX4_places_43 : decode cX4_places 43 = .ok (.iload 4, 2) := dqo_21 4 (kb_of ke_X4_places 43 rfl) (kb_of ke_X4_places 44 rfl)
theorem dX4_places_45 : decode cX4_places 45 = .ok (.iload 4, 2) := dqo_21 4 (kb_of ke_X4_places 45 rfl) (kb_of ke_X4_places 46 rfl)
theorem dX4_places_47 : decode cX4_places 47 = .ok (.iastore, 1) := dqo_79 (kb_of ke_X4_places 47 rfl)
theorem dX4_places_48 : decode cX4_places 48 = .ok (.iinc 4 1, 3) := dqo_132 4 1 (by decide) (kb_of ke_X4_places 48 rfl) (kb_of ke_X4_places 49 rfl) (kb_of ke_X4_places 50 rfl)
theorem dX4_places_51 : decode cX4_places 51 = .ok (.goto (-15), 3) := dqo_167 255 241 (by decide) (kb_of ke_X4_places 51 rfl) (kb_of ke_X4_places 52 rfl) (kb_of ke_X4_places 53 rfl)
theorem dX4_places_54 : decode cX4_places 54 = .ok (.aload_n 0, 1) := dqo_42 (kb_of ke_X4_places 54 rfl)
theorem dX4_places_55 : decode cX4_places 55 = .ok (.iload_n 1, 1) := dqo_27 (kb_of ke_X4_places 55 rfl)
theorem dX4_places_56 : decode cX4_places 56 = .ok (.aload_n 3, 1) := dqo_45 (kb_of ke_X4_places 56 rfl)
theorem dX4_places_57 : decode cX4_places 57 = .ok (.invokevirtual 130, 3) := dqo_182 0 130 (kb_of ke_X4_places 57 rfl) (kb_of ke_X4_places 58 rfl) (kb_of ke_X4_places 59 rfl)
theorem dX4_places_60 : decode cX4_places 60 = .ok (.iload_n 2, 1) := dqo_28 (kb_of ke_X4_places 60 rfl)
theorem dX4_places_61 : decode cX4_places 61 = .ok (.ireturn, 1) := dqo_172 (kb_of ke_X4_places 61 rfl)
set_option maxRecDepth 100000 in
set_option maxHeartbeats 4000000 in
theorem D_places_ok {l : Launch} {D : va_G} {cy : Nat → ClassId} {X : (Nat → Prop) → State → Heap → Prop} {ba ra : Nat → Nat} {hf : Nat → Nat → Nat} {hq : Nat → Nat → Int32} {kn th : Int32} {sm : Int64} {Y : va_W} {f : Nat → Nat → Nat} {r : Nat → Nat → Int32} {i : Nat} {k0 : Nat} (hX : EnvM X cy) (hC : CInv f) (hM : MR f r hf hq) (hi4 : i < 4) (hk0 : k0 ≤ 12) : Cm l D cy X yX4_places cX4_places 5 (some .int) (rmk 9 4 48 420) [.ref (ba 9), .int (nI i), .int (nI k0)] (WM cy ba ra hf hq kn th sm ++ Y) (fun v1 w1 => ∃ ra9 : Nat → Nat, v1 = some (.int (nI k0)) ∧ w1 = WM cy ba ra9 (up2 (chM f hf i 4294967295) 4 i k0) (upR hq i (cutF nI k0)) kn (nI 0) sm ++ Y) (fun _ => False) := by
  have hG := hM.1
  have h5M := hM.h5M hC
  have h4M := hC.h4M
  have h9a := hM.h9a hC
  have h6a := hM.h6a
  have hU := hM.hU hC
  have qi := hC.rw hi4
  have pi := (hM.2.1 i hi4).1
  have ei : hf 4 (f 1 i) = hf 4 i := by rw [qi.2.1]
  have wi := hM.wh hC (w := i) (by omega) qi.2.2.2.2.2
  refine Cm.of [some (.ref (ba 9)), some (.int (nI i)), some (.int (nI k0)), none, none] pn_X4 rfl (Nat.le_of_ble_eq_true rfl) ?_
  intro p e s m args below meth c A C hE hr hnt hn
  refine r_aload_n C dX4_places_0 rfl ?_
  refine r_iload_n C dX4_places_1 rfl ?_
  refine d_S (st := [.ref (ba 9)]) hX.1.stb C hE (D_isNoRow0 (ba := ba) (ra := ra) (hf := hf) (hq := hq) (kn := kn) (th := th) (sm := sm) (Y := Y) (i := i) hX (by first | omega | (simp [up2, *]; done) | (simp [up2, *]; omega) | (simp only [up2_eq]; omega) | (split <;> omega))) pk_X4_isNoRow qm_X4_119 rfl rfl (Nat.le_of_ble_eq_true rfl) dX4_places_2 ⟨(Nat.le_of_ble_eq_true rfl), (Nat.le_of_ble_eq_true rfl)⟩ ⟨(Nat.le_of_ble_eq_true rfl), (Nat.le_of_ble_eq_true rfl)⟩ ?_
  refine r_w (w' := WM cy ba ra hf hq kn th sm ++ Y) rfl ?_
  refine r_iload_n C dX4_places_5 rfl ?_
  refine r_iconst (v := (nI 0)) C dX4_places_6 (by decide) ?_
  refine r_bipush (v := (nI 12)) C dX4_places_7 (by decide) ?_
  refine d_S (st := [.int (nI 0), .ref (ba 9)]) hX.1.stb C hE (D_isInN (ba := ba) (ra := ra) (hf := hf) (hq := hq) (kn := kn) (th := th) (sm := sm) (Y := Y) (a0 := k0) (b0 := 0) (d0 := 12) hX (by first | omega | (simp [up2, *]; done) | (simp [up2, *]; omega) | (simp only [up2_eq]; omega) | (split <;> omega)) (by first | omega | (simp [up2, *]; done) | (simp [up2, *]; omega) | (simp only [up2_eq]; omega) | (split <;> omega)) (by first | omega | (simp [up2, *]; done) | (simp [up2, *]; omega) | (simp only [up2_eq]; omega) | (split <;> omega))) pk_X4_isIn qm_X4_1 rfl rfl (Nat.le_of_ble_eq_true rfl) dX4_places_9 ⟨(Nat.le_of_ble_eq_true rfl), (Nat.le_of_ble_eq_true rfl)⟩ ⟨(Nat.le_of_ble_eq_true rfl), (Nat.le_of_ble_eq_true rfl)⟩ ?_
  refine r_w (w' := WM cy ba ra hf hq kn th sm ++ Y) rfl ?_
  refine r_ifN_ne (a := 1) (tgt := 19) C (by first | omega | (simp [up2, *]; done) | (simp [up2, *]; omega) | (simp only [up2_eq]; omega) | (split <;> omega)) dX4_places_12 (by decide) (fun h12_1 => ?_) (fun h12_1 => ?_)
  · skip
    refine r_iconst (v := (nI 0)) C dX4_places_19 (by decide) ?_
    refine r_iconst (v := (nI 0)) C dX4_places_20 (by decide) ?_
    refine d_V (st := []) hX.1.stb C hE (D_fails0 (ba := ba) (ra := ra) (hf := hf) (hq := hq) (kn := kn) (th := th) (sm := sm) (Y := Y)  hX ) pk_X4_fails qm_X4_84 0 8 rfl rfl wm_0 rfl rfl (Nat.le_of_ble_eq_true rfl) dX4_places_21 ⟨(Nat.le_of_ble_eq_true rfl), (Nat.le_of_ble_eq_true rfl)⟩ ⟨(Nat.le_of_ble_eq_true rfl), (Nat.le_of_ble_eq_true rfl)⟩ ?_
    refine r_w (w' := WM cy ba ra hf hq kn (nI 0) sm ++ Y) rfl ?_
    refine r_ifN_eq (a := 0) (tgt := 29) C (by first | omega | (simp [up2, *]; done) | (simp [up2, *]; omega) | (simp only [up2_eq]; omega) | (split <;> omega)) dX4_places_24 (by decide) (fun h24_2 => ?_) (fun h24_2 => ?_)
    · skip
      refine r_iload_n C dX4_places_29 rfl ?_
      refine r_newT C .int .int 1 rfl (by simp) qa_int (n := k0) (show k0 < 1000000 from Nat.lt_of_le_of_lt (show k0 ≤ 12 from by first | omega | (simp [up2, *]; done) | (simp [up2, *]; omega) | (simp only [up2_eq]; omega) | (split <;> omega)) (by decide)) (1) (12) (Nat.le_of_ble_eq_true rfl) (Nat.add_le_add (Nat.le_refl _) (show k0 ≤ 12 from by first | omega | (simp [up2, *]; done) | (simp [up2, *]; omega) | (simp only [up2_eq]; omega) | (split <;> omega))) (Nat.le_of_ble_eq_true rfl) (Nat.le_of_ble_eq_true rfl) dX4_places_30 (fun b_3 => ?_)
      refine r_w (w' := WM cy ba ra hf hq kn (nI 0) sm ++ (Y ++ [(b_3, .inl (cy 1, k0, .inl (fun _ => 0)))])) (by simp only [List.append_assoc, List.cons_append, List.nil_append]) ?_
      refine r_astore_n C dX4_places_32 (by decide) rfl ?_
      refine r_iconst (v := (nI 0)) C dX4_places_33 (by decide) ?_
      refine r_istore C dX4_places_34 (by decide) rfl ?_
      refine r_w (w' := WM cy ba ra hf hq kn (nI 0) sm ++ (Y ++ [(b_3, .inl (cy 1, k0, .inl (cutF nI 0)))])) (by rw [cutF_0]) ?_
      have L36 : ∀ (d : Nat) (k : Nat), (hk : k + d = k0) → vC p l e (rmk 9 4 48 420) s m args below meth c D A (vx_MQ below (vG (fun v1 w1 => ∃ ra9 : Nat → Nat, v1 = some (.int (nI k0)) ∧ w1 = WM cy ba ra9 (up2 (chM f hf i 4294967295) 4 i k0) (upR hq i (cutF nI k0)) kn (nI 0) sm ++ Y) D vwCl A) (vGX (fun _ => False) D vwCl (WM cy ba ra hf hq kn th sm ++ Y) A) args s (rmk 9 4 48 420).cells (rmk 9 4 48 420).slots A) 5 1 12 (WM cy ba ra hf hq kn (nI 0) sm ++ (Y ++ [(b_3, .inl (cy 1, k0, .inl (cutF nI k)))])) [some (.ref (ba 9)), some (.int (nI i)), some (.int (nI k0)), some (.ref b_3), some (.int (nI k))] 36 [] := by
        intro d
        induction d with
        | zero =>
          intro k hk
          refine r_iload C dX4_places_36 rfl ?_
          refine r_iload_n C dX4_places_38 rfl ?_
          refine r_icN_ge (a := k) (b := k0) (tgt := 54) C (by first | omega | (simp [up2, *]; done) | (simp [up2, *]; omega) | (simp only [up2_eq]; omega) | (split <;> omega)) (by first | omega | (simp [up2, *]; done) | (simp [up2, *]; omega) | (simp only [up2_eq]; omega) | (split <;> omega)) dX4_places_39 (by decide) (fun h39_4 => ?_) (fun h39_4 => ?_)
          · first
            | exfalso; first | omega | contradiction
            | skip
              have e9 : k = k0 := by omega
              refine r_w (w' := WM cy ba ra hf hq kn (nI 0) sm ++ (Y ++ [(b_3, .inl (cy 1, k0, .inl (cutF nI k0)))])) (by rw [e9]) ?_
              refine r_aload_n C dX4_places_54 rfl ?_
              refine r_iload_n C dX4_places_55 rfl ?_
              refine r_aload_n C dX4_places_56 rfl ?_
              refine d_Vv (st := []) hX.1.stb C hE (D_become (ba := ba) (ra := ra) (hf := hf) (hq := hq) (kn := kn) (th := (nI 0)) (sm := sm) (Y := Y) (f := f) (i := i) (b0 := b_3) (n0 := k0) (g0 := (cutF nI k0)) hX hC (MG.same (fun _ => rfl) (fun _ => rfl) hG) (by first | omega | (simp [up2, *]; done) | (simp [up2, *]; omega) | (simp only [up2_eq]; omega) | (split <;> omega)) h5M h9a hU) pk_X4_become qm_X4_130 0 8 rfl rfl wm_0 rfl rfl (Nat.le_of_ble_eq_true rfl) dX4_places_57 ⟨(Nat.le_of_ble_eq_true rfl), (Nat.le_of_ble_eq_true rfl)⟩ ⟨(Nat.le_of_ble_eq_true rfl), (Nat.le_of_ble_eq_true rfl)⟩ ?_
              refine r_w (w' := WM cy ba (upR ra i b_3) (up2 (chM f hf i 4294967295) 4 i k0) (upR hq i (cutF nI k0)) kn (nI 0) sm ++ (Y ++ [(ra i, .inl (cy 1, hf 4 i, .inl (hq i)))])) rfl ?_
              refine r_iload_n C dX4_places_60 rfl ?_
              refine r_pre ?_
              exact r_iret C hr dX4_places_61 ⟨_, rfl, rfl⟩ (Nat.le_of_ble_eq_true rfl) (Nat.le_of_ble_eq_true rfl)
          · first
            | exfalso; first | omega | contradiction
            | skip
              refine r_aload_n C dX4_places_42 rfl ?_
              refine r_iload C dX4_places_43 rfl ?_
              refine r_iload C dX4_places_45 rfl ?_
              refine x_ast C (i := k) (f := cutF nI k) (E' := [(b_3, .inl (cy 1, k0, .inl (upd (cutF nI k) k (nI k))))]) 0 rfl (by first | omega | (simp [up2, *]; done) | (simp [up2, *]; omega) | (simp only [up2_eq]; omega) | (split <;> omega)) (by first | omega | (simp [up2, *]; done) | (simp [up2, *]; omega) | (simp only [up2_eq]; omega) | (split <;> omega)) rfl dX4_places_47 ?_
              refine r_iincN C dX4_places_48 rfl (by decide) rfl ?_
              refine r_goto (tgt := 36) C dX4_places_51 (by decide) ?_
              refine r_w (w' := WM cy ba ra hf hq kn (nI 0) sm ++ (Y ++ [(b_3, .inl (cy 1, k0, .inl (cutF nI (k + 1))))])) (by rw [cutF_up (F := nI) (by rfl)]) ?_
              exact (Nat.not_lt_zero _ (by omega)).elim
        | succ d ih_L36 =>
          intro k hk
          refine r_iload C dX4_places_36 rfl ?_
          refine r_iload_n C dX4_places_38 rfl ?_
          refine r_icN_ge (a := k) (b := k0) (tgt := 54) C (by first | omega | (simp [up2, *]; done) | (simp [up2, *]; omega) | (simp only [up2_eq]; omega) | (split <;> omega)) (by first | omega | (simp [up2, *]; done) | (simp [up2, *]; omega) | (simp only [up2_eq]; omega) | (split <;> omega)) dX4_places_39 (by decide) (fun h39_5 => ?_) (fun h39_5 => ?_)
          · first
            | exfalso; first | omega | contradiction
            | skip
              have e9 : k = k0 := by omega
              refine r_w (w' := WM cy ba ra hf hq kn (nI 0) sm ++ (Y ++ [(b_3, .inl (cy 1, k0, .inl (cutF nI k0)))])) (by rw [e9]) ?_
              refine r_aload_n C dX4_places_54 rfl ?_
              refine r_iload_n C dX4_places_55 rfl ?_
              refine r_aload_n C dX4_places_56 rfl ?_
              refine d_Vv (st := []) hX.1.stb C hE (D_become (ba := ba) (ra := ra) (hf := hf) (hq := hq) (kn := kn) (th := (nI 0)) (sm := sm) (Y := Y) (f := f) (i := i) (b0 := b_3) (n0 := k0) (g0 := (cutF nI k0)) hX hC (MG.same (fun _ => rfl) (fun _ => rfl) hG) (by first | omega | (simp [up2, *]; done) | (simp [up2, *]; omega) | (simp only [up2_eq]; omega) | (split <;> omega)) h5M h9a hU) pk_X4_become qm_X4_130 0 8 rfl rfl wm_0 rfl rfl (Nat.le_of_ble_eq_true rfl) dX4_places_57 ⟨(Nat.le_of_ble_eq_true rfl), (Nat.le_of_ble_eq_true rfl)⟩ ⟨(Nat.le_of_ble_eq_true rfl), (Nat.le_of_ble_eq_true rfl)⟩ ?_
              refine r_w (w' := WM cy ba (upR ra i b_3) (up2 (chM f hf i 4294967295) 4 i k0) (upR hq i (cutF nI k0)) kn (nI 0) sm ++ (Y ++ [(ra i, .inl (cy 1, hf 4 i, .inl (hq i)))])) rfl ?_
              refine r_iload_n C dX4_places_60 rfl ?_
              refine r_pre ?_
              exact r_iret C hr dX4_places_61 ⟨_, rfl, rfl⟩ (Nat.le_of_ble_eq_true rfl) (Nat.le_of_ble_eq_true rfl)
          · first
            | exfalso; first | omega | contradiction
            | skip
              refine r_aload_n C dX4_places_42 rfl ?_
              refine r_iload C dX4_places_43 rfl ?_
              refine r_iload C dX4_places_45 rfl ?_
              refine x_ast C (i := k) (f := cutF nI k) (E' := [(b_3, .inl (cy 1, k0, .inl (upd (cutF nI k) k (nI k))))]) 0 rfl (by first | omega | (simp [up2, *]; done) | (simp [up2, *]; omega) | (simp only [up2_eq]; omega) | (split <;> omega)) (by first | omega | (simp [up2, *]; done) | (simp [up2, *]; omega) | (simp only [up2_eq]; omega) | (split <;> omega)) rfl dX4_places_47 ?_
              refine r_iincN C dX4_places_48 rfl (by decide) rfl ?_
              refine r_goto (tgt := 36) C dX4_places_51 (by decide) ?_
              refine r_w (w' := WM cy ba ra hf hq kn (nI 0) sm ++ (Y ++ [(b_3, .inl (cy 1, k0, .inl (cutF nI (k + 1))))])) (by rw [cutF_up (F := nI) (by rfl)]) ?_
              exact ih_L36 (k + 1) (by first | omega | (simp [up2, *]; done) | (simp [up2, *]; omega) | (simp only [up2_eq]; omega) | (split <;> omega))
      exact L36 k0 0 (by first | omega | (simp [up2, *]; done) | (simp [up2, *]; omega) | (simp only [up2_eq]; omega) | (split <;> omega))
    · exact absurd h24_2 (by first | omega | (simp [up2, *]; done) | (simp [up2, *]; omega) | (simp only [up2_eq]; omega) | (split <;> omega))
  · exact absurd h12_1 (by first | omega | (simp [up2, *]; done) | (simp [up2, *]; omega) | (simp only [up2_eq]; omega) | (split <;> omega))
theorem dX4_through_0 : decode cX4_through 0 = .ok (.aload_n 0, 1) := dqo_42 (kb_X4_through_0 0 rfl)
theorem dX4_through_1 : decode cX4_through 1 = .ok (.aload_n 0, 1) := dqo_42 (kb_X4_through_0 1 rfl)
theorem dX4_through_2 : decode cX4_through 2 = .ok (.iload_n 1, 1) := dqo_27 (kb_X4_through_0 2 rfl)
theorem dX4_through_3 : decode cX4_through 3 = .ok (.invokevirtual 55, 3) := dqo_182 0 55 (kb_X4_through_0 3 rfl) (kb_X4_through_0 4 rfl) (kb_X4_through_0 5 rfl)
theorem dX4_through_6 : decode cX4_through 6 = .ok (.ifCond .ne 18, 3) := dqo_154 0 18 (by decide) (kb_X4_through_0 6 rfl) (kb_X4_through_0 7 rfl) (kb_X4_through_0 8 rfl)
theorem dX4_through_24 : decode cX4_through 24 = .ok (.iconst 1, 1) := dqo_4 (kb_X4_through_0 24 rfl)
theorem dX4_through_25 : decode cX4_through 25 = .ok (.goto 4, 3) := dqo_167 0 4 (by decide) (kb_X4_through_0 25 rfl) (kb_X4_through_0 26 rfl) (kb_X4_through_0 27 rfl)
theorem dX4_through_29 : decode cX4_through 29 = .ok (.iconst 0, 1) := dqo_3 (kb_X4_through_0 29 rfl)
theorem dX4_through_30 : decode cX4_through 30 = .ok (.iconst 0, 1) := dqo_3 (kb_X4_through_0 30 rfl)
theorem dX4_through_31 : decode cX4_through 31 = .ok (.invokevirtual 84, 3) := dqo_182 0 84 (kb_X4_through_0 31 rfl) (kb_X4_through_0 32 rfl) (kb_X4_through_0 33 rfl)
theorem dX4_through_34 : decode cX4_through 34 = .ok (.ifCond .eq 5, 3) := dqo_153 0 5 (by decide) (kb_X4_through_0 34 rfl) (kb_X4_through_0 35 rfl) (kb_X4_through_0 36 rfl)
theorem dX4_through_37 : decode cX4_through 37 = .ok (.iconst 0, 1) := dqo_3 (kb_X4_through_0 37 rfl)
theorem dX4_through_38 : decode cX4_through 38 = .ok (.ireturn, 1) := dqo_172 (kb_X4_through_0 38 rfl)
set_option maxRecDepth 100000 in
set_option maxHeartbeats 4000000 in
theorem D_through_noW {l : Launch} {D : va_G} {cy : Nat → ClassId} {X : (Nat → Prop) → State → Heap → Prop} {ba ra : Nat → Nat} {hf : Nat → Nat → Nat} {hq : Nat → Nat → Int32} {kn th : Int32} {sm : Int64} {Y : va_W} {f : Nat → Nat → Nat} {r : Nat → Nat → Int32} {x : Int32} {y0 : Int32} {y1 : Int32} (hX : EnvM X cy) (hC : CInv f) (hM : MR f r hf hq) (hno : noW f x) : Cd l D cy X yX4_through cX4_through 7 (some .int) (rmk 9 4 48 420) [.ref (ba 9), .int x, .int y0, .int y1] (WM cy ba ra hf hq kn th sm ++ Y) (some (.int (nI 0))) (WM cy ba ra hf hq kn (nI 1) sm ++ Y) := by
  have hG := hM.1
  have h5M := hM.h5M hC
  have h4M := hC.h4M
  have h9a := hM.h9a hC
  have h6a := hM.h6a
  have hU := hM.hU hC
  refine Cm.of [some (.ref (ba 9)), some (.int x), some (.int y0), some (.int y1), none, none, none] pn_X4 rfl (Nat.le_of_ble_eq_true rfl) ?_
  intro p e s m args below meth c A C hE hr hnt hn
  refine r_aload_n C dX4_through_0 rfl ?_
  refine r_aload_n C dX4_through_1 rfl ?_
  refine r_iload_n C dX4_through_2 rfl ?_
  refine d_V (st := [.ref (ba 9)]) hX.1.stb C hE (D_isNoWhere1 (ba := ba) (ra := ra) (hf := hf) (hq := hq) (kn := kn) (th := th) (sm := sm) (Y := Y) (f := f) (x := (x)) hX h5M h4M hno) pk_X4_isNoWhere qm_X4_55 0 8 rfl rfl wm_0 rfl rfl (Nat.le_of_ble_eq_true rfl) dX4_through_3 ⟨(Nat.le_of_ble_eq_true rfl), (Nat.le_of_ble_eq_true rfl)⟩ ⟨(Nat.le_of_ble_eq_true rfl), (Nat.le_of_ble_eq_true rfl)⟩ ?_
  refine r_w (w' := WM cy ba ra hf hq kn th sm ++ Y) rfl ?_
  refine r_ifN_ne (a := 1) (tgt := 24) C (by first | omega | (simp [up2, *]; done) | (simp [up2, *]; omega) | (simp only [up2_eq]; omega) | (split <;> omega)) dX4_through_6 (by decide) (fun h6_1 => ?_) (fun h6_1 => ?_)
  · skip
    refine r_iconst (v := (nI 1)) C dX4_through_24 (by decide) ?_
    refine r_goto (tgt := 29) C dX4_through_25 (by decide) ?_
    refine r_iconst (v := (nI 0)) C dX4_through_29 (by decide) ?_
    refine r_iconst (v := (nI 0)) C dX4_through_30 (by decide) ?_
    refine d_V (st := []) hX.1.stb C hE (D_fails1 (ba := ba) (ra := ra) (hf := hf) (hq := hq) (kn := kn) (th := th) (sm := sm) (Y := Y) (b0 := 0) (d0 := 0) hX ) pk_X4_fails qm_X4_84 0 8 rfl rfl wm_0 rfl rfl (Nat.le_of_ble_eq_true rfl) dX4_through_31 ⟨(Nat.le_of_ble_eq_true rfl), (Nat.le_of_ble_eq_true rfl)⟩ ⟨(Nat.le_of_ble_eq_true rfl), (Nat.le_of_ble_eq_true rfl)⟩ ?_
    refine r_w (w' := WM cy ba ra hf hq kn (nI 1) sm ++ Y) rfl ?_
    refine r_ifN_eq (a := 1) (tgt := 39) C (by first | omega | (simp [up2, *]; done) | (simp [up2, *]; omega) | (simp only [up2_eq]; omega) | (split <;> omega)) dX4_through_34 (by decide) (fun h34_2 => ?_) (fun h34_2 => ?_)
    · exact absurd h34_2 (by first | omega | (simp [up2, *]; done) | (simp [up2, *]; omega) | (simp only [up2_eq]; omega) | (split <;> omega))
    · skip
      refine r_iconst (v := (nI 0)) C dX4_through_37 (by decide) ?_
      exact r_iret C hr dX4_through_38 ⟨rfl, rfl⟩ (Nat.le_of_ble_eq_true rfl) (Nat.le_of_ble_eq_true rfl)
  · exact absurd h6_1 (by first | omega | (simp [up2, *]; done) | (simp [up2, *]; omega) | (simp only [up2_eq]; omega) | (split <;> omega))
theorem dX4_through_9 : decode cX4_through 9 = .ok (.aload_n 0, 1) := dqo_42 (kb_X4_through_0 9 rfl)
theorem dX4_through_10 : decode cX4_through 10 = .ok (.iload_n 2, 1) := dqo_28 (kb_X4_through_0 10 rfl)
theorem dX4_through_11 : decode cX4_through 11 = .ok (.invokevirtual 55, 3) := dqo_182 0 55 (kb_X4_through_0 11 rfl) (kb_X4_through_0 12 rfl) (kb_X4_through_0 13 rfl)
theorem dX4_through_14 : decode cX4_through 14 = .ok (.ifCond .ne 10, 3) := dqo_154 0 10 (by decide) (kb_X4_through_0 14 rfl) (kb_X4_through_0 15 rfl) (kb_X4_through_0 16 rfl)
set_option maxRecDepth 100000 in
set_option maxHeartbeats 4000000 in
theorem D_through_noW2 {l : Launch} {D : va_G} {cy : Nat → ClassId} {X : (Nat → Prop) → State → Heap → Prop} {ba ra : Nat → Nat} {hf : Nat → Nat → Nat} {hq : Nat → Nat → Int32} {kn th : Int32} {sm : Int64} {Y : va_W} {f : Nat → Nat → Nat} {r : Nat → Nat → Int32} {w : Nat} {x : Int32} {y : Int32} (hX : EnvM X cy) (hC : CInv f) (hM : MR f r hf hq) (hw : w < 8) (h5w : f 5 w = 1) (hno : noW f x) : Cd l D cy X yX4_through cX4_through 7 (some .int) (rmk 9 4 48 420) [.ref (ba 9), .int (nI w), .int x, .int y] (WM cy ba ra hf hq kn th sm ++ Y) (some (.int (nI 0))) (WM cy ba ra hf hq kn (nI 1) sm ++ Y) := by
  have hG := hM.1
  have h5M := hM.h5M hC
  have h4M := hC.h4M
  have h9a := hM.h9a hC
  have h6a := hM.h6a
  have hU := hM.hU hC
  have qw := hM.wh hC hw h5w
  refine Cm.of [some (.ref (ba 9)), some (.int (nI w)), some (.int x), some (.int y), none, none, none] pn_X4 rfl (Nat.le_of_ble_eq_true rfl) ?_
  intro p e s m args below meth c A C hE hr hnt hn
  refine r_aload_n C dX4_through_0 rfl ?_
  refine r_aload_n C dX4_through_1 rfl ?_
  refine r_iload_n C dX4_through_2 rfl ?_
  refine d_V (st := [.ref (ba 9)]) hX.1.stb C hE (D_isNoWhere0 (ba := ba) (ra := ra) (hf := hf) (hq := hq) (kn := kn) (th := th) (sm := sm) (Y := Y) (w := w) hX (by first | omega | (simp [up2, *]; done) | (simp [up2, *]; omega) | (simp only [up2_eq]; omega) | (split <;> omega)) (by first | omega | (simp [up2, *]; done) | (simp [up2, *]; omega) | (simp only [up2_eq]; omega) | (split <;> omega))) pk_X4_isNoWhere qm_X4_55 0 8 rfl rfl wm_0 rfl rfl (Nat.le_of_ble_eq_true rfl) dX4_through_3 ⟨(Nat.le_of_ble_eq_true rfl), (Nat.le_of_ble_eq_true rfl)⟩ ⟨(Nat.le_of_ble_eq_true rfl), (Nat.le_of_ble_eq_true rfl)⟩ ?_
  refine r_w (w' := WM cy ba ra hf hq kn th sm ++ Y) rfl ?_
  refine r_ifN_ne (a := 0) (tgt := 24) C (by first | omega | (simp [up2, *]; done) | (simp [up2, *]; omega) | (simp only [up2_eq]; omega) | (split <;> omega)) dX4_through_6 (by decide) (fun h6_1 => ?_) (fun h6_1 => ?_)
  · exact absurd h6_1 (by first | omega | (simp [up2, *]; done) | (simp [up2, *]; omega) | (simp only [up2_eq]; omega) | (split <;> omega))
  · skip
    refine r_aload_n C dX4_through_9 rfl ?_
    refine r_iload_n C dX4_through_10 rfl ?_
    refine d_V (st := [.ref (ba 9)]) hX.1.stb C hE (D_isNoWhere1 (ba := ba) (ra := ra) (hf := hf) (hq := hq) (kn := kn) (th := th) (sm := sm) (Y := Y) (f := f) (x := (x)) hX h5M h4M hno) pk_X4_isNoWhere qm_X4_55 0 8 rfl rfl wm_0 rfl rfl (Nat.le_of_ble_eq_true rfl) dX4_through_11 ⟨(Nat.le_of_ble_eq_true rfl), (Nat.le_of_ble_eq_true rfl)⟩ ⟨(Nat.le_of_ble_eq_true rfl), (Nat.le_of_ble_eq_true rfl)⟩ ?_
    refine r_w (w' := WM cy ba ra hf hq kn th sm ++ Y) rfl ?_
    refine r_ifN_ne (a := 1) (tgt := 24) C (by first | omega | (simp [up2, *]; done) | (simp [up2, *]; omega) | (simp only [up2_eq]; omega) | (split <;> omega)) dX4_through_14 (by decide) (fun h14_2 => ?_) (fun h14_2 => ?_)
    · skip
      refine r_iconst (v := (nI 1)) C dX4_through_24 (by decide) ?_
      refine r_goto (tgt := 29) C dX4_through_25 (by decide) ?_
      refine r_iconst (v := (nI 0)) C dX4_through_29 (by decide) ?_
      refine r_iconst (v := (nI 0)) C dX4_through_30 (by decide) ?_
      refine d_V (st := []) hX.1.stb C hE (D_fails1 (ba := ba) (ra := ra) (hf := hf) (hq := hq) (kn := kn) (th := th) (sm := sm) (Y := Y) (b0 := 0) (d0 := 0) hX ) pk_X4_fails qm_X4_84 0 8 rfl rfl wm_0 rfl rfl (Nat.le_of_ble_eq_true rfl) dX4_through_31 ⟨(Nat.le_of_ble_eq_true rfl), (Nat.le_of_ble_eq_true rfl)⟩ ⟨(Nat.le_of_ble_eq_true rfl), (Nat.le_of_ble_eq_true rfl)⟩ ?_
      refine r_w (w' := WM cy ba ra hf hq kn (nI 1) sm ++ Y) rfl ?_
      refine r_ifN_eq (a := 1) (tgt := 39) C (by first | omega | (simp [up2, *]; done) | (simp [up2, *]; omega) | (simp only [up2_eq]; omega) | (split <;> omega)) dX4_through_34 (by decide) (fun h34_3 => ?_) (fun h34_3 => ?_)
      · exact absurd h34_3 (by first | omega | (simp [up2, *]; done) | (simp [up2, *]; omega) | (simp only [up2_eq]; omega) | (split <;> omega))
      · skip
        refine r_iconst (v := (nI 0)) C dX4_through_37 (by decide) ?_
        exact r_iret C hr dX4_through_38 ⟨rfl, rfl⟩ (Nat.le_of_ble_eq_true rfl) (Nat.le_of_ble_eq_true rfl)
    · exact absurd h14_2 (by first | omega | (simp [up2, *]; done) | (simp [up2, *]; omega) | (simp only [up2_eq]; omega) | (split <;> omega))
theorem dX4_through_17 : decode cX4_through 17 = .ok (.iload_n 3, 1) := dqo_29 (kb_X4_through_0 17 rfl)
theorem dX4_through_18 : decode cX4_through 18 = .ok (.invokestatic 119, 3) := dqo_184 0 119 (kb_X4_through_0 18 rfl) (kb_X4_through_0 19 rfl) (kb_X4_through_0 20 rfl)
theorem dX4_through_21 : decode cX4_through 21 = .ok (.ifCond .eq 7, 3) := dqo_153 0 7 (by decide) (kb_X4_through_0 21 rfl) (kb_X4_through_0 22 rfl) (kb_X4_through_0 23 rfl)
set_option maxRecDepth 100000 in
set_option maxHeartbeats 4000000 in
theorem D_through_noR {l : Launch} {D : va_G} {cy : Nat → ClassId} {X : (Nat → Prop) → State → Heap → Prop} {ba ra : Nat → Nat} {hf : Nat → Nat → Nat} {hq : Nat → Nat → Int32} {kn th : Int32} {sm : Int64} {Y : va_W} {f : Nat → Nat → Nat} {r : Nat → Nat → Int32} {w : Nat} {v : Nat} {x : Int32} (hX : EnvM X cy) (hC : CInv f) (hM : MR f r hf hq) (hw : w < 8) (h5w : f 5 w = 1) (hv : v < 8) (h5v : f 5 v = 1) (hno : ¬ (0 ≤ x ∧ x < nI 4)) : Cd l D cy X yX4_through cX4_through 7 (some .int) (rmk 9 4 48 420) [.ref (ba 9), .int (nI w), .int (nI v), .int x] (WM cy ba ra hf hq kn th sm ++ Y) (some (.int (nI 0))) (WM cy ba ra hf hq kn (nI 1) sm ++ Y) := by
  have hG := hM.1
  have h5M := hM.h5M hC
  have h4M := hC.h4M
  have h9a := hM.h9a hC
  have h6a := hM.h6a
  have hU := hM.hU hC
  have qw := hM.wh hC hw h5w
  have qv := hM.wh hC hv h5v
  refine Cm.of [some (.ref (ba 9)), some (.int (nI w)), some (.int (nI v)), some (.int x), none, none, none] pn_X4 rfl (Nat.le_of_ble_eq_true rfl) ?_
  intro p e s m args below meth c A C hE hr hnt hn
  refine r_aload_n C dX4_through_0 rfl ?_
  refine r_aload_n C dX4_through_1 rfl ?_
  refine r_iload_n C dX4_through_2 rfl ?_
  refine d_V (st := [.ref (ba 9)]) hX.1.stb C hE (D_isNoWhere0 (ba := ba) (ra := ra) (hf := hf) (hq := hq) (kn := kn) (th := th) (sm := sm) (Y := Y) (w := w) hX (by first | omega | (simp [up2, *]; done) | (simp [up2, *]; omega) | (simp only [up2_eq]; omega) | (split <;> omega)) (by first | omega | (simp [up2, *]; done) | (simp [up2, *]; omega) | (simp only [up2_eq]; omega) | (split <;> omega))) pk_X4_isNoWhere qm_X4_55 0 8 rfl rfl wm_0 rfl rfl (Nat.le_of_ble_eq_true rfl) dX4_through_3 ⟨(Nat.le_of_ble_eq_true rfl), (Nat.le_of_ble_eq_true rfl)⟩ ⟨(Nat.le_of_ble_eq_true rfl), (Nat.le_of_ble_eq_true rfl)⟩ ?_
  refine r_w (w' := WM cy ba ra hf hq kn th sm ++ Y) rfl ?_
  refine r_ifN_ne (a := 0) (tgt := 24) C (by first | omega | (simp [up2, *]; done) | (simp [up2, *]; omega) | (simp only [up2_eq]; omega) | (split <;> omega)) dX4_through_6 (by decide) (fun h6_1 => ?_) (fun h6_1 => ?_)
  · exact absurd h6_1 (by first | omega | (simp [up2, *]; done) | (simp [up2, *]; omega) | (simp only [up2_eq]; omega) | (split <;> omega))
  · skip
    refine r_aload_n C dX4_through_9 rfl ?_
    refine r_iload_n C dX4_through_10 rfl ?_
    refine d_V (st := [.ref (ba 9)]) hX.1.stb C hE (D_isNoWhere0 (ba := ba) (ra := ra) (hf := hf) (hq := hq) (kn := kn) (th := th) (sm := sm) (Y := Y) (w := v) hX (by first | omega | (simp [up2, *]; done) | (simp [up2, *]; omega) | (simp only [up2_eq]; omega) | (split <;> omega)) (by first | omega | (simp [up2, *]; done) | (simp [up2, *]; omega) | (simp only [up2_eq]; omega) | (split <;> omega))) pk_X4_isNoWhere qm_X4_55 0 8 rfl rfl wm_0 rfl rfl (Nat.le_of_ble_eq_true rfl) dX4_through_11 ⟨(Nat.le_of_ble_eq_true rfl), (Nat.le_of_ble_eq_true rfl)⟩ ⟨(Nat.le_of_ble_eq_true rfl), (Nat.le_of_ble_eq_true rfl)⟩ ?_
    refine r_w (w' := WM cy ba ra hf hq kn th sm ++ Y) rfl ?_
    refine r_ifN_ne (a := 0) (tgt := 24) C (by first | omega | (simp [up2, *]; done) | (simp [up2, *]; omega) | (simp only [up2_eq]; omega) | (split <;> omega)) dX4_through_14 (by decide) (fun h14_2 => ?_) (fun h14_2 => ?_)
    · exact absurd h14_2 (by first | omega | (simp [up2, *]; done) | (simp [up2, *]; omega) | (simp only [up2_eq]; omega) | (split <;> omega))
    · skip
      refine r_iload_n C dX4_through_17 rfl ?_
      refine d_S (st := [.ref (ba 9)]) hX.1.stb C hE (D_isNoRow1 (ba := ba) (ra := ra) (hf := hf) (hq := hq) (kn := kn) (th := th) (sm := sm) (Y := Y) (x := (x)) hX hno) pk_X4_isNoRow qm_X4_119 rfl rfl (Nat.le_of_ble_eq_true rfl) dX4_through_18 ⟨(Nat.le_of_ble_eq_true rfl), (Nat.le_of_ble_eq_true rfl)⟩ ⟨(Nat.le_of_ble_eq_true rfl), (Nat.le_of_ble_eq_true rfl)⟩ ?_
      refine r_w (w' := WM cy ba ra hf hq kn th sm ++ Y) rfl ?_
      refine r_ifN_eq (a := 1) (tgt := 28) C (by first | omega | (simp [up2, *]; done) | (simp [up2, *]; omega) | (simp only [up2_eq]; omega) | (split <;> omega)) dX4_through_21 (by decide) (fun h21_3 => ?_) (fun h21_3 => ?_)
      · exact absurd h21_3 (by first | omega | (simp [up2, *]; done) | (simp [up2, *]; omega) | (simp only [up2_eq]; omega) | (split <;> omega))
      · skip
        refine r_iconst (v := (nI 1)) C dX4_through_24 (by decide) ?_
        refine r_goto (tgt := 29) C dX4_through_25 (by decide) ?_
        refine r_iconst (v := (nI 0)) C dX4_through_29 (by decide) ?_
        refine r_iconst (v := (nI 0)) C dX4_through_30 (by decide) ?_
        refine d_V (st := []) hX.1.stb C hE (D_fails1 (ba := ba) (ra := ra) (hf := hf) (hq := hq) (kn := kn) (th := th) (sm := sm) (Y := Y) (b0 := 0) (d0 := 0) hX ) pk_X4_fails qm_X4_84 0 8 rfl rfl wm_0 rfl rfl (Nat.le_of_ble_eq_true rfl) dX4_through_31 ⟨(Nat.le_of_ble_eq_true rfl), (Nat.le_of_ble_eq_true rfl)⟩ ⟨(Nat.le_of_ble_eq_true rfl), (Nat.le_of_ble_eq_true rfl)⟩ ?_
        refine r_w (w' := WM cy ba ra hf hq kn (nI 1) sm ++ Y) rfl ?_
        refine r_ifN_eq (a := 1) (tgt := 39) C (by first | omega | (simp [up2, *]; done) | (simp [up2, *]; omega) | (simp only [up2_eq]; omega) | (split <;> omega)) dX4_through_34 (by decide) (fun h34_4 => ?_) (fun h34_4 => ?_)
        · exact absurd h34_4 (by first | omega | (simp [up2, *]; done) | (simp [up2, *]; omega) | (simp only [up2_eq]; omega) | (split <;> omega))
        · skip
          refine r_iconst (v := (nI 0)) C dX4_through_37 (by decide) ?_
          exact r_iret C hr dX4_through_38 ⟨rfl, rfl⟩ (Nat.le_of_ble_eq_true rfl) (Nat.le_of_ble_eq_true rfl)
theorem dX4_through_28 : decode cX4_through 28 = .ok (.iconst 0, 1) := dqo_3 (kb_X4_through_0 28 rfl)
theorem dX4_through_39 : decode cX4_through 39 = .ok (.aload_n 0, 1) := dqo_42 (kb_X4_through_0 39 rfl)
theorem dX4_through_40 : decode cX4_through 40 = .ok (.iload_n 1, 1) := dqo_27 (kb_X4_through_0 40 rfl)
theorem dX4_through_41 : decode cX4_through 41 = .ok (.invokevirtual 95, 3) := dqo_182 0 95 (kb_X4_through_0 41 rfl) (kb_X4_through_0 42 rfl) (kb_X4_through_0 43 rfl)
theorem dX4_through_44 : decode cX4_through 44 = .ok (.astore 4, 2) := dqo_58 4 (kb_X4_through_0 44 rfl) (kb_X4_through_0 45 rfl)
theorem dX4_through_46 : decode cX4_through 46 = .ok (.aload_n 0, 1) := dqo_42 (kb_X4_through_0 46 rfl)
theorem dX4_through_47 : decode cX4_through 47 = .ok (.iload_n 2, 1) := dqo_28 (kb_X4_through_0 47 rfl)
theorem dX4_through_48 : decode cX4_through 48 = .ok (.invokevirtual 95, 3) := dqo_182 0 95 (kb_X4_through_0 48 rfl) (kb_X4_through_0 49 rfl) (kb_X4_through_0 50 rfl)
theorem dX4_through_51 : decode cX4_through 51 = .ok (.astore 5, 2) := dqo_58 5 (kb_X4_through_0 51 rfl) (kb_X4_through_0 52 rfl)
theorem dX4_through_53 : decode cX4_through 53 = .ok (.iconst 0, 1) := dqo_3 (kb_X4_through_0 53 rfl)
theorem dX4_through_54 : decode cX4_through 54 = .ok (.istore 6, 2) := dqo_54 6 (kb_X4_through_0 54 rfl) (kb_X4_through_0 55 rfl)
theorem dX4_through_56 : decode cX4_through 56 = .ok (.iload 6, 2) := dqo_21 6 (kb_X4_through_0 56 rfl) (kb_X4_through_0 57 rfl)
theorem dX4_through_58 : decode cX4_through 58 = .ok (.aload 5, 2) := dqo_25 5 (kb_X4_through_0 58 rfl) (kb_X4_through_0 59 rfl)
theorem dX4_through_60 : decode cX4_through 60 = .ok (.arraylength, 1) := dqo_190 (kb_X4_through_0 60 rfl)
theorem dX4_through_61 : decode cX4_through 61 = .ok (.if_icmp .ge 52, 3) := dqo_162 0 52 (by decide) (kb_X4_through_0 61 rfl) (kb_X4_through_0 62 rfl) (kb_X4_through_0 63 rfl)
theorem dX4_through_64 : decode cX4_through 64 = .ok (.aload 5, 2) := dqo_25 5 (kb_X4_through_1 0 rfl) (kb_X4_through_1 1 rfl)
theorem dX4_through_66 : decode cX4_through 66 = .ok (.iload 6, 2) := dqo_21 6 (kb_X4_through_1 2 rfl) (kb_X4_through_1 3 rfl)
theorem dX4_through_68 : decode cX4_through 68 = .ok (.iaload, 1) := dqo_46 (kb_X4_through_1 4 rfl)
theorem dX4_through_69 : decode cX4_through 69 = .ok (.aload 4, 2) := dqo_25 4 (kb_X4_through_1 5 rfl) (kb_X4_through_1 6 rfl)
theorem dX4_through_71 : decode cX4_through 71 = .ok (.arraylength, 1) := dqo_190 (kb_X4_through_1 7 rfl)
theorem dX4_through_72 : decode cX4_through 72 = .ok (.if_icmp .lt 6, 3) := dqo_161 0 6 (by decide) (kb_X4_through_1 8 rfl) (kb_X4_through_1 9 rfl) (kb_X4_through_1 10 rfl)
theorem dX4_through_78 : decode cX4_through 78 = .ok (.aload 5, 2) := dqo_25 5 (kb_X4_through_1 14 rfl) (kb_X4_through_1 15 rfl)
theorem dX4_through_80 : decode cX4_through 80 = .ok (.iload 6, 2) := dqo_21 6 (kb_X4_through_1 16 rfl) (kb_X4_through_1 17 rfl)
theorem dX4_through_82 : decode cX4_through 82 = .ok (.aload 5, 2) := dqo_25 5 (kb_X4_through_1 18 rfl) (kb_X4_through_1 19 rfl)
theorem dX4_through_84 : decode cX4_through 84 = .ok (.iload 6, 2) := dqo_21 6 (kb_X4_through_1 20 rfl) (kb_X4_through_1 21 rfl)
theorem dX4_through_86 : decode cX4_through 86 = .ok (.iaload, 1) := dqo_46 (kb_X4_through_1 22 rfl)
theorem dX4_through_87 : decode cX4_through 87 = .ok (.ifCond .ge 11, 3) := dqo_156 0 11 (by decide) (kb_X4_through_1 23 rfl) (kb_X4_through_1 24 rfl) (kb_X4_through_1 25 rfl)
theorem dX4_through_90 : decode cX4_through 90 = .ok (.aload 5, 2) := dqo_25 5 (kb_X4_through_1 26 rfl) (kb_X4_through_1 27 rfl)
theorem dX4_through_92 : decode cX4_through 92 = .ok (.iload 6, 2) := dqo_21 6 (kb_X4_through_1 28 rfl) (kb_X4_through_1 29 rfl)
theorem dX4_through_94 : decode cX4_through 94 = .ok (.iaload, 1) := dqo_46 (kb_X4_through_1 30 rfl)
theorem dX4_through_95 : decode cX4_through 95 = .ok (.goto 11, 3) := dqo_167 0 11 (by decide) (kb_X4_through_1 31 rfl) (kb_X4_through_1 32 rfl) (kb_X4_through_1 33 rfl)
theorem dX4_through_98 : decode cX4_through 98 = .ok (.aload 4, 2) := dqo_25 4 (kb_X4_through_1 34 rfl) (kb_X4_through_1 35 rfl)
theorem dX4_through_100 : decode cX4_through 100 = .ok (.aload 5, 2) := dqo_25 5 (kb_X4_through_1 36 rfl) (kb_X4_through_1 37 rfl)
theorem dX4_through_102 : decode cX4_through 102 = .ok (.iload 6, 2) := dqo_21 6 (kb_X4_through_1 38 rfl) (kb_X4_through_1 39 rfl)
theorem dX4_through_104 : decode cX4_through 104 = .ok (.iaload, 1) := dqo_46 (kb_X4_through_1 40 rfl)
theorem dX4_through_105 : decode cX4_through 105 = .ok (.iaload, 1) := dqo_46 (kb_X4_through_1 41 rfl)
theorem dX4_through_106 : decode cX4_through 106 = .ok (.iastore, 1) := dqo_79 (kb_X4_through_1 42 rfl)
theorem dX4_through_107 : decode cX4_through 107 = .ok (.iinc 6 1, 3) := dqo_132 6 1 (by decide) (kb_X4_through_1 43 rfl) (kb_X4_through_1 44 rfl) (kb_X4_through_1 45 rfl)
theorem dX4_through_110 : decode cX4_through 110 = .ok (.goto (-54), 3) := dqo_167 255 202 (by decide) (kb_X4_through_1 46 rfl) (kb_X4_through_1 47 rfl) (kb_X4_through_1 48 rfl)
theorem dX4_through_113 : decode cX4_through 113 = .ok (.aload_n 0, 1) := dqo_42 (kb_X4_through_1 49 rfl)
theorem dX4_through_114 : decode cX4_through 114 = .ok (.iload_n 3, 1) := dqo_29 (kb_X4_through_1 50 rfl)
theorem dX4_through_115 : decode cX4_through 115 = .ok (.aload 5, 2) := dqo_25 5 (kb_X4_through_1 51 rfl) (kb_X4_through_1 52 rfl)
theorem dX4_through_117 : decode cX4_through 117 = .ok (.invokevirtual 130, 3) := dqo_182 0 130 (kb_X4_through_1 53 rfl) (kb_X4_through_1 54 rfl) (kb_X4_through_1 55 rfl)
theorem dX4_through_120 : decode cX4_through 120 = .ok (.aload 5, 2) := dqo_25 5 (kb_X4_through_1 56 rfl) (kb_X4_through_1 57 rfl)
theorem dX4_through_122 : decode cX4_through 122 = .ok (.arraylength, 1) := dqo_190 (kb_X4_through_1 58 rfl)
theorem dX4_through_123 : decode cX4_through 123 = .ok (.ireturn, 1) := dqo_172 (kb_X4_through_1 59 rfl)
set_option maxRecDepth 100000 in
set_option maxHeartbeats 4000000 in
theorem D_through_ok {l : Launch} {D : va_G} {cy : Nat → ClassId} {X : (Nat → Prop) → State → Heap → Prop} {ba ra : Nat → Nat} {hf : Nat → Nat → Nat} {hq : Nat → Nat → Int32} {kn th : Int32} {sm : Int64} {Y : va_W} {f : Nat → Nat → Nat} {r : Nat → Nat → Int32} {w : Nat} {v : Nat} {i : Nat} (hX : EnvM X cy) (hC : CInv f) (hM : MR f r hf hq) (hw : w < 8) (h5w : f 5 w = 1) (hv : v < 8) (h5v : f 5 v = 1) (hi4 : i < 4) (hlt : ∀ q, q < hf 4 v → (cutF (fun z => hq (f 1 v) (f 3 v + z)) (hf 4 v)) q < nI (hf 4 w)) : Cm l D cy X yX4_through cX4_through 7 (some .int) (rmk 9 4 48 420) [.ref (ba 9), .int (nI w), .int (nI v), .int (nI i)] (WM cy ba ra hf hq kn th sm ++ Y) (fun v1 w1 => ∃ ra9 : Nat → Nat, v1 = some (.int (nI (hf 4 v))) ∧ w1 = WM cy ba ra9 (up2 (chM f hf i 4294967295) 4 i (hf 4 v)) (upR hq i (thT (fun q => tvF (cutF (fun z => hq (f 1 w) (f 3 w + z)) (hf 4 w)) ((cutF (fun z => hq (f 1 v) (f 3 v + z)) (hf 4 v)) q)) (cutF (fun z => hq (f 1 v) (f 3 v + z)) (hf 4 v)) (hf 4 v))) kn (nI 0) sm ++ Y) (fun _ => False) := by
  have hG := hM.1
  have h5M := hM.h5M hC
  have h4M := hC.h4M
  have h9a := hM.h9a hC
  have h6a := hM.h6a
  have hU := hM.hU hC
  have qw := hM.wh hC hw h5w
  have qv := hM.wh hC hv h5v
  have qi := hC.rw hi4
  have pi := (hM.2.1 i hi4).1
  have ei : hf 4 (f 1 i) = hf 4 i := by rw [qi.2.1]
  have wi := hM.wh hC (w := i) (by omega) qi.2.2.2.2.2
  refine Cm.of [some (.ref (ba 9)), some (.int (nI w)), some (.int (nI v)), some (.int (nI i)), none, none, none] pn_X4 rfl (Nat.le_of_ble_eq_true rfl) ?_
  intro p e s m args below meth c A C hE hr hnt hn
  refine r_aload_n C dX4_through_0 rfl ?_
  refine r_aload_n C dX4_through_1 rfl ?_
  refine r_iload_n C dX4_through_2 rfl ?_
  refine d_V (st := [.ref (ba 9)]) hX.1.stb C hE (D_isNoWhere0 (ba := ba) (ra := ra) (hf := hf) (hq := hq) (kn := kn) (th := th) (sm := sm) (Y := Y) (w := w) hX (by first | omega | (simp [up2, *]; done) | (simp [up2, *]; omega) | (simp only [up2_eq]; omega) | (split <;> omega)) (by first | omega | (simp [up2, *]; done) | (simp [up2, *]; omega) | (simp only [up2_eq]; omega) | (split <;> omega))) pk_X4_isNoWhere qm_X4_55 0 8 rfl rfl wm_0 rfl rfl (Nat.le_of_ble_eq_true rfl) dX4_through_3 ⟨(Nat.le_of_ble_eq_true rfl), (Nat.le_of_ble_eq_true rfl)⟩ ⟨(Nat.le_of_ble_eq_true rfl), (Nat.le_of_ble_eq_true rfl)⟩ ?_
  refine r_w (w' := WM cy ba ra hf hq kn th sm ++ Y) rfl ?_
  refine r_ifN_ne (a := 0) (tgt := 24) C (by first | omega | (simp [up2, *]; done) | (simp [up2, *]; omega) | (simp only [up2_eq]; omega) | (split <;> omega)) dX4_through_6 (by decide) (fun h6_1 => ?_) (fun h6_1 => ?_)
  · exact absurd h6_1 (by first | omega | (simp [up2, *]; done) | (simp [up2, *]; omega) | (simp only [up2_eq]; omega) | (split <;> omega))
  · skip
    refine r_aload_n C dX4_through_9 rfl ?_
    refine r_iload_n C dX4_through_10 rfl ?_
    refine d_V (st := [.ref (ba 9)]) hX.1.stb C hE (D_isNoWhere0 (ba := ba) (ra := ra) (hf := hf) (hq := hq) (kn := kn) (th := th) (sm := sm) (Y := Y) (w := v) hX (by first | omega | (simp [up2, *]; done) | (simp [up2, *]; omega) | (simp only [up2_eq]; omega) | (split <;> omega)) (by first | omega | (simp [up2, *]; done) | (simp [up2, *]; omega) | (simp only [up2_eq]; omega) | (split <;> omega))) pk_X4_isNoWhere qm_X4_55 0 8 rfl rfl wm_0 rfl rfl (Nat.le_of_ble_eq_true rfl) dX4_through_11 ⟨(Nat.le_of_ble_eq_true rfl), (Nat.le_of_ble_eq_true rfl)⟩ ⟨(Nat.le_of_ble_eq_true rfl), (Nat.le_of_ble_eq_true rfl)⟩ ?_
    refine r_w (w' := WM cy ba ra hf hq kn th sm ++ Y) rfl ?_
    refine r_ifN_ne (a := 0) (tgt := 24) C (by first | omega | (simp [up2, *]; done) | (simp [up2, *]; omega) | (simp only [up2_eq]; omega) | (split <;> omega)) dX4_through_14 (by decide) (fun h14_2 => ?_) (fun h14_2 => ?_)
    · exact absurd h14_2 (by first | omega | (simp [up2, *]; done) | (simp [up2, *]; omega) | (simp only [up2_eq]; omega) | (split <;> omega))
    · skip
      refine r_iload_n C dX4_through_17 rfl ?_
      refine d_S (st := [.ref (ba 9)]) hX.1.stb C hE (D_isNoRow0 (ba := ba) (ra := ra) (hf := hf) (hq := hq) (kn := kn) (th := th) (sm := sm) (Y := Y) (i := i) hX (by first | omega | (simp [up2, *]; done) | (simp [up2, *]; omega) | (simp only [up2_eq]; omega) | (split <;> omega))) pk_X4_isNoRow qm_X4_119 rfl rfl (Nat.le_of_ble_eq_true rfl) dX4_through_18 ⟨(Nat.le_of_ble_eq_true rfl), (Nat.le_of_ble_eq_true rfl)⟩ ⟨(Nat.le_of_ble_eq_true rfl), (Nat.le_of_ble_eq_true rfl)⟩ ?_
      refine r_w (w' := WM cy ba ra hf hq kn th sm ++ Y) rfl ?_
      refine r_ifN_eq (a := 0) (tgt := 28) C (by first | omega | (simp [up2, *]; done) | (simp [up2, *]; omega) | (simp only [up2_eq]; omega) | (split <;> omega)) dX4_through_21 (by decide) (fun h21_3 => ?_) (fun h21_3 => ?_)
      · skip
        refine r_iconst (v := (nI 0)) C dX4_through_28 (by decide) ?_
        refine r_iconst (v := (nI 0)) C dX4_through_29 (by decide) ?_
        refine r_iconst (v := (nI 0)) C dX4_through_30 (by decide) ?_
        refine d_V (st := []) hX.1.stb C hE (D_fails0 (ba := ba) (ra := ra) (hf := hf) (hq := hq) (kn := kn) (th := th) (sm := sm) (Y := Y)  hX ) pk_X4_fails qm_X4_84 0 8 rfl rfl wm_0 rfl rfl (Nat.le_of_ble_eq_true rfl) dX4_through_31 ⟨(Nat.le_of_ble_eq_true rfl), (Nat.le_of_ble_eq_true rfl)⟩ ⟨(Nat.le_of_ble_eq_true rfl), (Nat.le_of_ble_eq_true rfl)⟩ ?_
        refine r_w (w' := WM cy ba ra hf hq kn (nI 0) sm ++ Y) rfl ?_
        refine r_ifN_eq (a := 0) (tgt := 39) C (by first | omega | (simp [up2, *]; done) | (simp [up2, *]; omega) | (simp only [up2_eq]; omega) | (split <;> omega)) dX4_through_34 (by decide) (fun h34_4 => ?_) (fun h34_4 => ?_)
        · skip
          refine r_aload_n C dX4_through_39 rfl ?_
          refine r_iload_n C dX4_through_40 rfl ?_
          refine e_V (st := []) hX.1.stb C hE (D_items (ba := ba) (ra := ra) (hf := hf) (hq := hq) (kn := kn) (th := (nI 0)) (sm := sm) (Y := Y) (f := f) (w := w) hX hC (MG.same (fun _ => rfl) (fun _ => rfl) hG) (by first | omega | (simp [up2, *]; done) | (simp [up2, *]; omega) | (simp only [up2_eq]; omega) | (split <;> omega)) (by first | omega | (simp [up2, *]; done) | (simp [up2, *]; omega) | (simp only [up2_eq]; omega) | (split <;> omega)) (by first | omega | (simp [up2, *]; done) | (simp [up2, *]; omega) | (simp only [up2_eq]; omega) | (split <;> omega)) (by first | omega | (simp [up2, *]; done) | (simp [up2, *]; omega) | (simp only [up2_eq]; omega) | (split <;> omega))) pk_X4_items qm_X4_95 0 8 rfl rfl wm_0 rfl rfl (Nat.le_of_ble_eq_true rfl) dX4_through_41 ⟨(Nat.le_of_ble_eq_true rfl), (Nat.le_of_ble_eq_true rfl)⟩ ⟨(Nat.le_of_ble_eq_true rfl), (Nat.le_of_ble_eq_true rfl)⟩ (fun b_5 => ?_)
          refine r_w (w' := WM cy ba ra hf hq kn (nI 0) sm ++ (Y ++ [(b_5, .inl (cy 1, hf 4 w, .inl (cutF (fun z => hq (f 1 w) (f 3 w + z)) (hf 4 w))))])) (by simp only [List.append_assoc, List.cons_append, List.nil_append]) ?_
          refine r_st (st' := [.ref b_5]) rfl ?_
          refine r_astore C dX4_through_44 (by decide) rfl ?_
          refine r_aload_n C dX4_through_46 rfl ?_
          refine r_iload_n C dX4_through_47 rfl ?_
          refine e_V (st := []) hX.1.stb C hE (D_items (ba := ba) (ra := ra) (hf := hf) (hq := hq) (kn := kn) (th := (nI 0)) (sm := sm) (f := f) (w := v) hX hC (MG.same (fun _ => rfl) (fun _ => rfl) hG) hv h5v (by first | omega | (simp [up2, *]; done) | (simp [up2, *]; omega) | (simp only [up2_eq]; omega) | (split <;> omega)) (by first | omega | (simp [up2, *]; done) | (simp [up2, *]; omega) | (simp only [up2_eq]; omega) | (split <;> omega))) pk_X4_items qm_X4_95 0 8 rfl rfl wm_0 rfl rfl (Nat.le_of_ble_eq_true rfl) dX4_through_48 ⟨(Nat.le_of_ble_eq_true rfl), (Nat.le_of_ble_eq_true rfl)⟩ ⟨(Nat.le_of_ble_eq_true rfl), (Nat.le_of_ble_eq_true rfl)⟩ (fun b_6 => ?_)
          refine r_w (w' := WM cy ba ra hf hq kn (nI 0) sm ++ (Y ++ [(b_5, .inl (cy 1, hf 4 w, .inl (cutF (fun z => hq (f 1 w) (f 3 w + z)) (hf 4 w)))), (b_6, .inl (cy 1, hf 4 v, .inl (cutF (fun z => hq (f 1 v) (f 3 v + z)) (hf 4 v))))])) (by simp only [List.append_assoc, List.cons_append, List.nil_append]) ?_
          refine r_st (st' := [.ref b_6]) rfl ?_
          refine r_astore C dX4_through_51 (by decide) rfl ?_
          refine r_iconst (v := (nI 0)) C dX4_through_53 (by decide) ?_
          refine r_istore C dX4_through_54 (by decide) rfl ?_
          refine r_w (w' := WM cy ba ra hf hq kn (nI 0) sm ++ (Y ++ [(b_5, .inl (cy 1, hf 4 w, .inl (cutF (fun z => hq (f 1 w) (f 3 w + z)) (hf 4 w)))), (b_6, .inl (cy 1, hf 4 v, .inl (thT (fun q => tvF (cutF (fun z => hq (f 1 w) (f 3 w + z)) (hf 4 w)) ((cutF (fun z => hq (f 1 v) (f 3 v + z)) (hf 4 v)) q)) (cutF (fun z => hq (f 1 v) (f 3 v + z)) (hf 4 v)) 0)))])) (by rw [thT_0]) ?_
          have L56 : ∀ (d : Nat) (k : Nat), (hk : k + d = hf 4 v) → vC p l e (rmk 9 4 48 420) s m args below meth c D A (vx_MQ below (vG (fun v1 w1 => ∃ ra9 : Nat → Nat, v1 = some (.int (nI (hf 4 v))) ∧ w1 = WM cy ba ra9 (up2 (chM f hf i 4294967295) 4 i (hf 4 v)) (upR hq i (thT (fun q => tvF (cutF (fun z => hq (f 1 w) (f 3 w + z)) (hf 4 w)) ((cutF (fun z => hq (f 1 v) (f 3 v + z)) (hf 4 v)) q)) (cutF (fun z => hq (f 1 v) (f 3 v + z)) (hf 4 v)) (hf 4 v))) kn (nI 0) sm ++ Y) D vwCl A) (vGX (fun _ => False) D vwCl (WM cy ba ra hf hq kn th sm ++ Y) A) args s (rmk 9 4 48 420).cells (rmk 9 4 48 420).slots A) 7 2 24 (WM cy ba ra hf hq kn (nI 0) sm ++ (Y ++ [(b_5, .inl (cy 1, hf 4 w, .inl (cutF (fun z => hq (f 1 w) (f 3 w + z)) (hf 4 w)))), (b_6, .inl (cy 1, hf 4 v, .inl (thT (fun q => tvF (cutF (fun z => hq (f 1 w) (f 3 w + z)) (hf 4 w)) ((cutF (fun z => hq (f 1 v) (f 3 v + z)) (hf 4 v)) q)) (cutF (fun z => hq (f 1 v) (f 3 v + z)) (hf 4 v)) k)))])) [some (.ref (ba 9)), some (.int (nI w)), some (.int (nI v)), some (.int (nI i)), some (.ref b_5), some (.ref b_6), some (.int (nI k))] 56 [] := by
            intro d
            induction d with
            | zero =>
              intro k hk
              refine r_iload C dX4_through_56 rfl ?_
              refine r_aload C dX4_through_58 rfl ?_
              refine x_len C (t0 := 1) 1 rfl rfl dX4_through_60 ?_
              refine r_icN_ge (a := k) (b := (hf 4 v)) (tgt := 113) C (by first | omega | (simp [up2, *]; done) | (simp [up2, *]; omega) | (simp only [up2_eq]; omega) | (split <;> omega)) (by first | omega | (simp [up2, *]; done) | (simp [up2, *]; omega) | (simp only [up2_eq]; omega) | (split <;> omega)) dX4_through_61 (by decide) (fun h61_7 => ?_) (fun h61_7 => ?_)
              · first
                | exfalso; first | omega | contradiction
                | skip
                  have e9 : k = hf 4 v := by omega
                  refine r_w (w' := WM cy ba ra hf hq kn (nI 0) sm ++ (Y ++ [(b_5, .inl (cy 1, hf 4 w, .inl (cutF (fun z => hq (f 1 w) (f 3 w + z)) (hf 4 w)))), (b_6, .inl (cy 1, hf 4 v, .inl (thT (fun q => tvF (cutF (fun z => hq (f 1 w) (f 3 w + z)) (hf 4 w)) ((cutF (fun z => hq (f 1 v) (f 3 v + z)) (hf 4 v)) q)) (cutF (fun z => hq (f 1 v) (f 3 v + z)) (hf 4 v)) (hf 4 v))))])) (by rw [e9]) ?_
                  refine r_aload_n C dX4_through_113 rfl ?_
                  refine r_iload_n C dX4_through_114 rfl ?_
                  refine r_aload C dX4_through_115 rfl ?_
                  refine r_keep (E' := [(b_6, .inl (cy 1, hf 4 v, .inl (thT (fun q => tvF (cutF (fun z => hq (f 1 w) (f 3 w + z)) (hf 4 w)) ((cutF (fun z => hq (f 1 v) (f 3 v + z)) (hf 4 v)) q)) (cutF (fun z => hq (f 1 v) (f 3 v + z)) (hf 4 v)) (hf 4 v))))]) (fun k => 1 + k) (fun k q h => match k, h with | 0, h => h | k + 1, h => by simp at h) (fun i j hi hj _ => by simp at hi hj; omega) ?_
                  refine d_Vv (st := []) hX.1.stb C hE (D_become (ba := ba) (ra := ra) (hf := hf) (hq := hq) (kn := kn) (th := (nI 0)) (sm := sm) (Y := Y) (f := f) (i := i) (b0 := b_6) (n0 := (hf 4 v)) (g0 := (thT (fun q => tvF (cutF (fun z => hq (f 1 w) (f 3 w + z)) (hf 4 w)) ((cutF (fun z => hq (f 1 v) (f 3 v + z)) (hf 4 v)) q)) (cutF (fun z => hq (f 1 v) (f 3 v + z)) (hf 4 v)) (hf 4 v))) hX hC (MG.same (fun _ => rfl) (fun _ => rfl) hG) (by first | omega | (simp [up2, *]; done) | (simp [up2, *]; omega) | (simp only [up2_eq]; omega) | (split <;> omega)) h5M h9a hU) pk_X4_become qm_X4_130 0 8 rfl rfl wm_0 rfl rfl (Nat.le_of_ble_eq_true rfl) dX4_through_117 ⟨(Nat.le_of_ble_eq_true rfl), (Nat.le_of_ble_eq_true rfl)⟩ ⟨(Nat.le_of_ble_eq_true rfl), (Nat.le_of_ble_eq_true rfl)⟩ ?_
                  refine r_w (w' := WM cy ba (upR ra i b_6) (up2 (chM f hf i 4294967295) 4 i (hf 4 v)) (upR hq i (thT (fun q => tvF (cutF (fun z => hq (f 1 w) (f 3 w + z)) (hf 4 w)) ((cutF (fun z => hq (f 1 v) (f 3 v + z)) (hf 4 v)) q)) (cutF (fun z => hq (f 1 v) (f 3 v + z)) (hf 4 v)) (hf 4 v))) kn (nI 0) sm ++ (Y ++ [(ra i, .inl (cy 1, hf 4 i, .inl (hq i)))])) rfl ?_
                  refine r_aload C dX4_through_120 rfl ?_
                  refine r_st (st' := [.ref (upR ra i b_6 i)]) (by rw [upR_me]) ?_
                  refine m_rlen (i := i) (v := hf 4 v) C (by first | omega | (simp [up2, *]; done) | (simp [up2, *]; omega) | (simp only [up2_eq]; omega) | (split <;> omega)) (show (up2 (chM f hf i 4294967295) 4 i (hf 4 v)) 4 i = hf 4 v by simp [up2, *]) dX4_through_122 ?_
                  refine r_pre ?_
                  exact r_iret C hr dX4_through_123 ⟨_, rfl, rfl⟩ (Nat.le_of_ble_eq_true rfl) (Nat.le_of_ble_eq_true rfl)
              · first
                | exfalso; first | omega | contradiction
                | skip
                  refine r_aload C dX4_through_64 rfl ?_
                  refine r_iload C dX4_through_66 rfl ?_
                  refine x_ald C (i := k) (f := thT (fun q => tvF (cutF (fun z => hq (f 1 w) (f 3 w + z)) (hf 4 w)) ((cutF (fun z => hq (f 1 v) (f 3 v + z)) (hf 4 v)) q)) (cutF (fun z => hq (f 1 v) (f 3 v + z)) (hf 4 v)) k) 1 rfl (by first | omega | (simp [up2, *]; done) | (simp [up2, *]; omega) | (simp only [up2_eq]; omega) | (split <;> omega)) (by first | omega | (simp [up2, *]; done) | (simp [up2, *]; omega) | (simp only [up2_eq]; omega) | (split <;> omega)) dX4_through_68 ?_
                  refine r_eqi (show (thT (fun q => tvF (cutF (fun z => hq (f 1 w) (f 3 w + z)) (hf 4 w)) ((cutF (fun z => hq (f 1 v) (f 3 v + z)) (hf 4 v)) q)) (cutF (fun z => hq (f 1 v) (f 3 v + z)) (hf 4 v)) k) k = ((cutF (fun z => hq (f 1 v) (f 3 v + z)) (hf 4 v)) k) from thT_at) ?_
                  refine r_aload C dX4_through_69 rfl ?_
                  refine x_len C (t0 := 1) 0 rfl rfl dX4_through_71 ?_
                  refine r_ic_lt (tgt := 78) C dX4_through_72 (by decide) (fun h72_8 => ?_) (fun h72_8 => ?_)
                  · skip
                    refine r_aload C dX4_through_78 rfl ?_
                    refine r_iload C dX4_through_80 rfl ?_
                    refine r_aload C dX4_through_82 rfl ?_
                    refine r_iload C dX4_through_84 rfl ?_
                    refine x_ald C (i := k) (f := thT (fun q => tvF (cutF (fun z => hq (f 1 w) (f 3 w + z)) (hf 4 w)) ((cutF (fun z => hq (f 1 v) (f 3 v + z)) (hf 4 v)) q)) (cutF (fun z => hq (f 1 v) (f 3 v + z)) (hf 4 v)) k) 1 rfl (by first | omega | (simp [up2, *]; done) | (simp [up2, *]; omega) | (simp only [up2_eq]; omega) | (split <;> omega)) (by first | omega | (simp [up2, *]; done) | (simp [up2, *]; omega) | (simp only [up2_eq]; omega) | (split <;> omega)) dX4_through_86 ?_
                    refine r_eqi (show (thT (fun q => tvF (cutF (fun z => hq (f 1 w) (f 3 w + z)) (hf 4 w)) ((cutF (fun z => hq (f 1 v) (f 3 v + z)) (hf 4 v)) q)) (cutF (fun z => hq (f 1 v) (f 3 v + z)) (hf 4 v)) k) k = ((cutF (fun z => hq (f 1 v) (f 3 v + z)) (hf 4 v)) k) from thT_at) ?_
                    refine r_if_ge (tgt := 98) C dX4_through_87 (by decide) (fun h87_9 => ?_) (fun h87_9 => ?_)
                    · first
                      | exfalso; first | omega | contradiction
                      | skip
                        refine r_aload C dX4_through_98 rfl ?_
                        refine r_aload C dX4_through_100 rfl ?_
                        refine r_iload C dX4_through_102 rfl ?_
                        refine x_ald C (i := k) (f := thT (fun q => tvF (cutF (fun z => hq (f 1 w) (f 3 w + z)) (hf 4 w)) ((cutF (fun z => hq (f 1 v) (f 3 v + z)) (hf 4 v)) q)) (cutF (fun z => hq (f 1 v) (f 3 v + z)) (hf 4 v)) k) 1 rfl (by first | omega | (simp [up2, *]; done) | (simp [up2, *]; omega) | (simp only [up2_eq]; omega) | (split <;> omega)) (by first | omega | (simp [up2, *]; done) | (simp [up2, *]; omega) | (simp only [up2_eq]; omega) | (split <;> omega)) dX4_through_104 ?_
                        refine r_eqi (show (thT (fun q => tvF (cutF (fun z => hq (f 1 w) (f 3 w + z)) (hf 4 w)) ((cutF (fun z => hq (f 1 v) (f 3 v + z)) (hf 4 v)) q)) (cutF (fun z => hq (f 1 v) (f 3 v + z)) (hf 4 v)) k) k = ((cutF (fun z => hq (f 1 v) (f 3 v + z)) (hf 4 v)) k) from thT_at) ?_
                        have hcl := cl_nI (x := (cutF (fun z => hq (f 1 v) (f 3 v + z)) (hf 4 v)) k) (n := hf 4 w) (by omega) (by assumption) (hlt k (by omega))
                        refine r_eqi hcl.1 ?_
                        refine x_ald C (i := ((cutF (fun z => hq (f 1 v) (f 3 v + z)) (hf 4 v)) k).toNatClampNeg) (f := cutF (fun z => hq (f 1 w) (f 3 w + z)) (hf 4 w)) 0 rfl (hcl.2) (by first | omega | (simp [up2, *]; done) | (simp [up2, *]; omega) | (simp only [up2_eq]; omega) | (split <;> omega)) dX4_through_105 ?_
                        refine x_ast C (i := k) (f := thT (fun q => tvF (cutF (fun z => hq (f 1 w) (f 3 w + z)) (hf 4 w)) ((cutF (fun z => hq (f 1 v) (f 3 v + z)) (hf 4 v)) q)) (cutF (fun z => hq (f 1 v) (f 3 v + z)) (hf 4 v)) k) (E' := [(b_5, .inl (cy 1, hf 4 w, .inl (cutF (fun z => hq (f 1 w) (f 3 w + z)) (hf 4 w)))), (b_6, .inl (cy 1, hf 4 v, .inl (upd (thT (fun q => tvF (cutF (fun z => hq (f 1 w) (f 3 w + z)) (hf 4 w)) ((cutF (fun z => hq (f 1 v) (f 3 v + z)) (hf 4 v)) q)) (cutF (fun z => hq (f 1 v) (f 3 v + z)) (hf 4 v)) k) k ((cutF (fun z => hq (f 1 w) (f 3 w + z)) (hf 4 w)) (((cutF (fun z => hq (f 1 v) (f 3 v + z)) (hf 4 v)) k).toNatClampNeg)))))]) 1 rfl (by first | omega | (simp [up2, *]; done) | (simp [up2, *]; omega) | (simp only [up2_eq]; omega) | (split <;> omega)) (by first | omega | (simp [up2, *]; done) | (simp [up2, *]; omega) | (simp only [up2_eq]; omega) | (split <;> omega)) rfl dX4_through_106 ?_
                        refine r_iincN C dX4_through_107 rfl (by decide) rfl ?_
                        refine r_goto (tgt := 56) C dX4_through_110 (by decide) ?_
                        refine r_w (w' := WM cy ba ra hf hq kn (nI 0) sm ++ (Y ++ [(b_5, .inl (cy 1, hf 4 w, .inl (cutF (fun z => hq (f 1 w) (f 3 w + z)) (hf 4 w)))), (b_6, .inl (cy 1, hf 4 v, .inl (thT (fun q => tvF (cutF (fun z => hq (f 1 w) (f 3 w + z)) (hf 4 w)) ((cutF (fun z => hq (f 1 v) (f 3 v + z)) (hf 4 v)) q)) (cutF (fun z => hq (f 1 v) (f 3 v + z)) (hf 4 v)) (k + 1))))])) (by rw [thT_up (v := (fun q => tvF (cutF (fun z => hq (f 1 w) (f 3 w + z)) (hf 4 w)) ((cutF (fun z => hq (f 1 v) (f 3 v + z)) (hf 4 v)) q))) (by unfold tvF; rw [if_neg (Int32.not_lt.mpr (by assumption))])]) ?_
                        exact (Nat.not_lt_zero _ (by omega)).elim
                    · first
                      | exfalso; first | omega | contradiction
                      | skip
                        refine r_aload C dX4_through_90 rfl ?_
                        refine r_iload C dX4_through_92 rfl ?_
                        refine x_ald C (i := k) (f := thT (fun q => tvF (cutF (fun z => hq (f 1 w) (f 3 w + z)) (hf 4 w)) ((cutF (fun z => hq (f 1 v) (f 3 v + z)) (hf 4 v)) q)) (cutF (fun z => hq (f 1 v) (f 3 v + z)) (hf 4 v)) k) 1 rfl (by first | omega | (simp [up2, *]; done) | (simp [up2, *]; omega) | (simp only [up2_eq]; omega) | (split <;> omega)) (by first | omega | (simp [up2, *]; done) | (simp [up2, *]; omega) | (simp only [up2_eq]; omega) | (split <;> omega)) dX4_through_94 ?_
                        refine r_eqi (show (thT (fun q => tvF (cutF (fun z => hq (f 1 w) (f 3 w + z)) (hf 4 w)) ((cutF (fun z => hq (f 1 v) (f 3 v + z)) (hf 4 v)) q)) (cutF (fun z => hq (f 1 v) (f 3 v + z)) (hf 4 v)) k) k = ((cutF (fun z => hq (f 1 v) (f 3 v + z)) (hf 4 v)) k) from thT_at) ?_
                        refine r_goto (tgt := 106) C dX4_through_95 (by decide) ?_
                        refine x_ast C (i := k) (f := thT (fun q => tvF (cutF (fun z => hq (f 1 w) (f 3 w + z)) (hf 4 w)) ((cutF (fun z => hq (f 1 v) (f 3 v + z)) (hf 4 v)) q)) (cutF (fun z => hq (f 1 v) (f 3 v + z)) (hf 4 v)) k) (E' := [(b_5, .inl (cy 1, hf 4 w, .inl (cutF (fun z => hq (f 1 w) (f 3 w + z)) (hf 4 w)))), (b_6, .inl (cy 1, hf 4 v, .inl (upd (thT (fun q => tvF (cutF (fun z => hq (f 1 w) (f 3 w + z)) (hf 4 w)) ((cutF (fun z => hq (f 1 v) (f 3 v + z)) (hf 4 v)) q)) (cutF (fun z => hq (f 1 v) (f 3 v + z)) (hf 4 v)) k) k ((cutF (fun z => hq (f 1 v) (f 3 v + z)) (hf 4 v)) k))))]) 1 rfl (by first | omega | (simp [up2, *]; done) | (simp [up2, *]; omega) | (simp only [up2_eq]; omega) | (split <;> omega)) (by first | omega | (simp [up2, *]; done) | (simp [up2, *]; omega) | (simp only [up2_eq]; omega) | (split <;> omega)) rfl dX4_through_106 ?_
                        refine r_iincN C dX4_through_107 rfl (by decide) rfl ?_
                        refine r_goto (tgt := 56) C dX4_through_110 (by decide) ?_
                        refine r_w (w' := WM cy ba ra hf hq kn (nI 0) sm ++ (Y ++ [(b_5, .inl (cy 1, hf 4 w, .inl (cutF (fun z => hq (f 1 w) (f 3 w + z)) (hf 4 w)))), (b_6, .inl (cy 1, hf 4 v, .inl (thT (fun q => tvF (cutF (fun z => hq (f 1 w) (f 3 w + z)) (hf 4 w)) ((cutF (fun z => hq (f 1 v) (f 3 v + z)) (hf 4 v)) q)) (cutF (fun z => hq (f 1 v) (f 3 v + z)) (hf 4 v)) (k + 1))))])) (by rw [thT_up (v := (fun q => tvF (cutF (fun z => hq (f 1 w) (f 3 w + z)) (hf 4 w)) ((cutF (fun z => hq (f 1 v) (f 3 v + z)) (hf 4 v)) q))) (by unfold tvF; rw [if_pos (Int32.not_le.mp (by assumption))])]) ?_
                        exact (Nat.not_lt_zero _ (by omega)).elim
                  · exact absurd (hlt k (by omega)) (Int32.not_lt.mpr (by first | assumption | exact Int32.not_lt.mp h72_8))
            | succ d ih_L56 =>
              intro k hk
              refine r_iload C dX4_through_56 rfl ?_
              refine r_aload C dX4_through_58 rfl ?_
              refine x_len C (t0 := 1) 1 rfl rfl dX4_through_60 ?_
              refine r_icN_ge (a := k) (b := (hf 4 v)) (tgt := 113) C (by first | omega | (simp [up2, *]; done) | (simp [up2, *]; omega) | (simp only [up2_eq]; omega) | (split <;> omega)) (by first | omega | (simp [up2, *]; done) | (simp [up2, *]; omega) | (simp only [up2_eq]; omega) | (split <;> omega)) dX4_through_61 (by decide) (fun h61_10 => ?_) (fun h61_10 => ?_)
              · first
                | exfalso; first | omega | contradiction
                | skip
                  have e9 : k = hf 4 v := by omega
                  refine r_w (w' := WM cy ba ra hf hq kn (nI 0) sm ++ (Y ++ [(b_5, .inl (cy 1, hf 4 w, .inl (cutF (fun z => hq (f 1 w) (f 3 w + z)) (hf 4 w)))), (b_6, .inl (cy 1, hf 4 v, .inl (thT (fun q => tvF (cutF (fun z => hq (f 1 w) (f 3 w + z)) (hf 4 w)) ((cutF (fun z => hq (f 1 v) (f 3 v + z)) (hf 4 v)) q)) (cutF (fun z => hq (f 1 v) (f 3 v + z)) (hf 4 v)) (hf 4 v))))])) (by rw [e9]) ?_
                  refine r_aload_n C dX4_through_113 rfl ?_
                  refine r_iload_n C dX4_through_114 rfl ?_
                  refine r_aload C dX4_through_115 rfl ?_
                  refine r_keep (E' := [(b_6, .inl (cy 1, hf 4 v, .inl (thT (fun q => tvF (cutF (fun z => hq (f 1 w) (f 3 w + z)) (hf 4 w)) ((cutF (fun z => hq (f 1 v) (f 3 v + z)) (hf 4 v)) q)) (cutF (fun z => hq (f 1 v) (f 3 v + z)) (hf 4 v)) (hf 4 v))))]) (fun k => 1 + k) (fun k q h => match k, h with | 0, h => h | k + 1, h => by simp at h) (fun i j hi hj _ => by simp at hi hj; omega) ?_
                  refine d_Vv (st := []) hX.1.stb C hE (D_become (ba := ba) (ra := ra) (hf := hf) (hq := hq) (kn := kn) (th := (nI 0)) (sm := sm) (Y := Y) (f := f) (i := i) (b0 := b_6) (n0 := (hf 4 v)) (g0 := (thT (fun q => tvF (cutF (fun z => hq (f 1 w) (f 3 w + z)) (hf 4 w)) ((cutF (fun z => hq (f 1 v) (f 3 v + z)) (hf 4 v)) q)) (cutF (fun z => hq (f 1 v) (f 3 v + z)) (hf 4 v)) (hf 4 v))) hX hC (MG.same (fun _ => rfl) (fun _ => rfl) hG) (by first | omega | (simp [up2, *]; done) | (simp [up2, *]; omega) | (simp only [up2_eq]; omega) | (split <;> omega)) h5M h9a hU) pk_X4_become qm_X4_130 0 8 rfl rfl wm_0 rfl rfl (Nat.le_of_ble_eq_true rfl) dX4_through_117 ⟨(Nat.le_of_ble_eq_true rfl), (Nat.le_of_ble_eq_true rfl)⟩ ⟨(Nat.le_of_ble_eq_true rfl), (Nat.le_of_ble_eq_true rfl)⟩ ?_
                  refine r_w (w' := WM cy ba (upR ra i b_6) (up2 (chM f hf i 4294967295) 4 i (hf 4 v)) (upR hq i (thT (fun q => tvF (cutF (fun z => hq (f 1 w) (f 3 w + z)) (hf 4 w)) ((cutF (fun z => hq (f 1 v) (f 3 v + z)) (hf 4 v)) q)) (cutF (fun z => hq (f 1 v) (f 3 v + z)) (hf 4 v)) (hf 4 v))) kn (nI 0) sm ++ (Y ++ [(ra i, .inl (cy 1, hf 4 i, .inl (hq i)))])) rfl ?_
                  refine r_aload C dX4_through_120 rfl ?_
                  refine r_st (st' := [.ref (upR ra i b_6 i)]) (by rw [upR_me]) ?_
                  refine m_rlen (i := i) (v := hf 4 v) C (by first | omega | (simp [up2, *]; done) | (simp [up2, *]; omega) | (simp only [up2_eq]; omega) | (split <;> omega)) (show (up2 (chM f hf i 4294967295) 4 i (hf 4 v)) 4 i = hf 4 v by simp [up2, *]) dX4_through_122 ?_
                  refine r_pre ?_
                  exact r_iret C hr dX4_through_123 ⟨_, rfl, rfl⟩ (Nat.le_of_ble_eq_true rfl) (Nat.le_of_ble_eq_true rfl)
              · first
                | exfalso; first | omega | contradiction
                | skip
                  refine r_aload C dX4_through_64 rfl ?_
                  refine r_iload C dX4_through_66 rfl ?_
                  refine x_ald C (i := k) (f := thT (fun q => tvF (cutF (fun z => hq (f 1 w) (f 3 w + z)) (hf 4 w)) ((cutF (fun z => hq (f 1 v) (f 3 v + z)) (hf 4 v)) q)) (cutF (fun z => hq (f 1 v) (f 3 v + z)) (hf 4 v)) k) 1 rfl (by first | omega | (simp [up2, *]; done) | (simp [up2, *]; omega) | (simp only [up2_eq]; omega) | (split <;> omega)) (by first | omega | (simp [up2, *]; done) | (simp [up2, *]; omega) | (simp only [up2_eq]; omega) | (split <;> omega)) dX4_through_68 ?_
                  refine r_eqi (show (thT (fun q => tvF (cutF (fun z => hq (f 1 w) (f 3 w + z)) (hf 4 w)) ((cutF (fun z => hq (f 1 v) (f 3 v + z)) (hf 4 v)) q)) (cutF (fun z => hq (f 1 v) (f 3 v + z)) (hf 4 v)) k) k = ((cutF (fun z => hq (f 1 v) (f 3 v + z)) (hf 4 v)) k) from thT_at) ?_
                  refine r_aload C dX4_through_69 rfl ?_
                  refine x_len C (t0 := 1) 0 rfl rfl dX4_through_71 ?_
                  refine r_ic_lt (tgt := 78) C dX4_through_72 (by decide) (fun h72_11 => ?_) (fun h72_11 => ?_)
                  · skip
                    refine r_aload C dX4_through_78 rfl ?_
                    refine r_iload C dX4_through_80 rfl ?_
                    refine r_aload C dX4_through_82 rfl ?_
                    refine r_iload C dX4_through_84 rfl ?_
                    refine x_ald C (i := k) (f := thT (fun q => tvF (cutF (fun z => hq (f 1 w) (f 3 w + z)) (hf 4 w)) ((cutF (fun z => hq (f 1 v) (f 3 v + z)) (hf 4 v)) q)) (cutF (fun z => hq (f 1 v) (f 3 v + z)) (hf 4 v)) k) 1 rfl (by first | omega | (simp [up2, *]; done) | (simp [up2, *]; omega) | (simp only [up2_eq]; omega) | (split <;> omega)) (by first | omega | (simp [up2, *]; done) | (simp [up2, *]; omega) | (simp only [up2_eq]; omega) | (split <;> omega)) dX4_through_86 ?_
                    refine r_eqi (show (thT (fun q => tvF (cutF (fun z => hq (f 1 w) (f 3 w + z)) (hf 4 w)) ((cutF (fun z => hq (f 1 v) (f 3 v + z)) (hf 4 v)) q)) (cutF (fun z => hq (f 1 v) (f 3 v + z)) (hf 4 v)) k) k = ((cutF (fun z => hq (f 1 v) (f 3 v + z)) (hf 4 v)) k) from thT_at) ?_
                    refine r_if_ge (tgt := 98) C dX4_through_87 (by decide) (fun h87_12 => ?_) (fun h87_12 => ?_)
                    · first
                      | exfalso; first | omega | contradiction
                      | skip
                        refine r_aload C dX4_through_98 rfl ?_
                        refine r_aload C dX4_through_100 rfl ?_
                        refine r_iload C dX4_through_102 rfl ?_
                        refine x_ald C (i := k) (f := thT (fun q => tvF (cutF (fun z => hq (f 1 w) (f 3 w + z)) (hf 4 w)) ((cutF (fun z => hq (f 1 v) (f 3 v + z)) (hf 4 v)) q)) (cutF (fun z => hq (f 1 v) (f 3 v + z)) (hf 4 v)) k) 1 rfl (by first | omega | (simp [up2, *]; done) | (simp [up2, *]; omega) | (simp only [up2_eq]; omega) | (split <;> omega)) (by first | omega | (simp [up2, *]; done) | (simp [up2, *]; omega) | (simp only [up2_eq]; omega) | (split <;> omega)) dX4_through_104 ?_
                        refine r_eqi (show (thT (fun q => tvF (cutF (fun z => hq (f 1 w) (f 3 w + z)) (hf 4 w)) ((cutF (fun z => hq (f 1 v) (f 3 v + z)) (hf 4 v)) q)) (cutF (fun z => hq (f 1 v) (f 3 v + z)) (hf 4 v)) k) k = ((cutF (fun z => hq (f 1 v) (f 3 v + z)) (hf 4 v)) k) from thT_at) ?_
                        have hcl := cl_nI (x := (cutF (fun z => hq (f 1 v) (f 3 v + z)) (hf 4 v)) k) (n := hf 4 w) (by omega) (by assumption) (hlt k (by omega))
                        refine r_eqi hcl.1 ?_
                        refine x_ald C (i := ((cutF (fun z => hq (f 1 v) (f 3 v + z)) (hf 4 v)) k).toNatClampNeg) (f := cutF (fun z => hq (f 1 w) (f 3 w + z)) (hf 4 w)) 0 rfl (hcl.2) (by first | omega | (simp [up2, *]; done) | (simp [up2, *]; omega) | (simp only [up2_eq]; omega) | (split <;> omega)) dX4_through_105 ?_
                        refine x_ast C (i := k) (f := thT (fun q => tvF (cutF (fun z => hq (f 1 w) (f 3 w + z)) (hf 4 w)) ((cutF (fun z => hq (f 1 v) (f 3 v + z)) (hf 4 v)) q)) (cutF (fun z => hq (f 1 v) (f 3 v + z)) (hf 4 v)) k) (E' := [(b_5, .inl (cy 1, hf 4 w, .inl (cutF (fun z => hq (f 1 w) (f 3 w + z)) (hf 4 w)))), (b_6, .inl (cy 1, hf 4 v, .inl (upd (thT (fun q => tvF (cutF (fun z => hq (f 1 w) (f 3 w + z)) (hf 4 w)) ((cutF (fun z => hq (f 1 v) (f 3 v + z)) (hf 4 v)) q)) (cutF (fun z => hq (f 1 v) (f 3 v + z)) (hf 4 v)) k) k ((cutF (fun z => hq (f 1 w) (f 3 w + z)) (hf 4 w)) (((cutF (fun z => hq (f 1 v) (f 3 v + z)) (hf 4 v)) k).toNatClampNeg)))))]) 1 rfl (by first | omega | (simp [up2, *]; done) | (simp [up2, *]; omega) | (simp only [up2_eq]; omega) | (split <;> omega)) (by first | omega | (simp [up2, *]; done) | (simp [up2, *]; omega) | (simp only [up2_eq]; omega) | (split <;> omega)) rfl dX4_through_106 ?_
                        refine r_iincN C dX4_through_107 rfl (by decide) rfl ?_
                        refine r_goto (tgt := 56) C dX4_through_110 (by decide) ?_
                        refine r_w (w' := WM cy ba ra hf hq kn (nI 0) sm ++ (Y ++ [(b_5, .inl (cy 1, hf 4 w, .inl (cutF (fun z => hq (f 1 w) (f 3 w + z)) (hf 4 w)))), (b_6, .inl (cy 1, hf 4 v, .inl (thT (fun q => tvF (cutF (fun z => hq (f 1 w) (f 3 w + z)) (hf 4 w)) ((cutF (fun z => hq (f 1 v) (f 3 v + z)) (hf 4 v)) q)) (cutF (fun z => hq (f 1 v) (f 3 v + z)) (hf 4 v)) (k + 1))))])) (by rw [thT_up (v := (fun q => tvF (cutF (fun z => hq (f 1 w) (f 3 w + z)) (hf 4 w)) ((cutF (fun z => hq (f 1 v) (f 3 v + z)) (hf 4 v)) q))) (by unfold tvF; rw [if_neg (Int32.not_lt.mpr (by assumption))])]) ?_
                        exact ih_L56 (k + 1) (by first | omega | (simp [up2, *]; done) | (simp [up2, *]; omega) | (simp only [up2_eq]; omega) | (split <;> omega))
                    · first
                      | exfalso; first | omega | contradiction
                      | skip
                        refine r_aload C dX4_through_90 rfl ?_
                        refine r_iload C dX4_through_92 rfl ?_
                        refine x_ald C (i := k) (f := thT (fun q => tvF (cutF (fun z => hq (f 1 w) (f 3 w + z)) (hf 4 w)) ((cutF (fun z => hq (f 1 v) (f 3 v + z)) (hf 4 v)) q)) (cutF (fun z => hq (f 1 v) (f 3 v + z)) (hf 4 v)) k) 1 rfl (by first | omega | (simp [up2, *]; done) | (simp [up2, *]; omega) | (simp only [up2_eq]; omega) | (split <;> omega)) (by first | omega | (simp [up2, *]; done) | (simp [up2, *]; omega) | (simp only [up2_eq]; omega) | (split <;> omega)) dX4_through_94 ?_
                        refine r_eqi (show (thT (fun q => tvF (cutF (fun z => hq (f 1 w) (f 3 w + z)) (hf 4 w)) ((cutF (fun z => hq (f 1 v) (f 3 v + z)) (hf 4 v)) q)) (cutF (fun z => hq (f 1 v) (f 3 v + z)) (hf 4 v)) k) k = ((cutF (fun z => hq (f 1 v) (f 3 v + z)) (hf 4 v)) k) from thT_at) ?_
                        refine r_goto (tgt := 106) C dX4_through_95 (by decide) ?_
                        refine x_ast C (i := k) (f := thT (fun q => tvF (cutF (fun z => hq (f 1 w) (f 3 w + z)) (hf 4 w)) ((cutF (fun z => hq (f 1 v) (f 3 v + z)) (hf 4 v)) q)) (cutF (fun z => hq (f 1 v) (f 3 v + z)) (hf 4 v)) k) (E' := [(b_5, .inl (cy 1, hf 4 w, .inl (cutF (fun z => hq (f 1 w) (f 3 w + z)) (hf 4 w)))), (b_6, .inl (cy 1, hf 4 v, .inl (upd (thT (fun q => tvF (cutF (fun z => hq (f 1 w) (f 3 w + z)) (hf 4 w)) ((cutF (fun z => hq (f 1 v) (f 3 v + z)) (hf 4 v)) q)) (cutF (fun z => hq (f 1 v) (f 3 v + z)) (hf 4 v)) k) k ((cutF (fun z => hq (f 1 v) (f 3 v + z)) (hf 4 v)) k))))]) 1 rfl (by first | omega | (simp [up2, *]; done) | (simp [up2, *]; omega) | (simp only [up2_eq]; omega) | (split <;> omega)) (by first | omega | (simp [up2, *]; done) | (simp [up2, *]; omega) | (simp only [up2_eq]; omega) | (split <;> omega)) rfl dX4_through_106 ?_
                        refine r_iincN C dX4_through_107 rfl (by decide) rfl ?_
                        refine r_goto (tgt := 56) C dX4_through_110 (by decide) ?_
                        refine r_w (w' := WM cy ba ra hf hq kn (nI 0) sm ++ (Y ++ [(b_5, .inl (cy 1, hf 4 w, .inl (cutF (fun z => hq (f 1 w) (f 3 w + z)) (hf 4 w)))), (b_6, .inl (cy 1, hf 4 v, .inl (thT (fun q => tvF (cutF (fun z => hq (f 1 w) (f 3 w + z)) (hf 4 w)) ((cutF (fun z => hq (f 1 v) (f 3 v + z)) (hf 4 v)) q)) (cutF (fun z => hq (f 1 v) (f 3 v + z)) (hf 4 v)) (k + 1))))])) (by rw [thT_up (v := (fun q => tvF (cutF (fun z => hq (f 1 w) (f 3 w + z)) (hf 4 w)) ((cutF (fun z => hq (f 1 v) (f 3 v + z)) (hf 4 v)) q))) (by unfold tvF; rw [if_pos (Int32.not_le.mp (by assumption))])]) ?_
                        exact ih_L56 (k + 1) (by first | omega | (simp [up2, *]; done) | (simp [up2, *]; omega) | (simp only [up2_eq]; omega) | (split <;> omega))
                  · exact absurd (hlt k (by omega)) (Int32.not_lt.mpr (by first | assumption | exact Int32.not_lt.mp h72_11))
          exact L56 (hf 4 v) 0 (by first | omega | (simp [up2, *]; done) | (simp [up2, *]; omega) | (simp only [up2_eq]; omega) | (split <;> omega))
        · exact absurd h34_4 (by first | omega | (simp [up2, *]; done) | (simp [up2, *]; omega) | (simp only [up2_eq]; omega) | (split <;> omega))
      · exact absurd h21_3 (by first | omega | (simp [up2, *]; done) | (simp [up2, *]; omega) | (simp only [up2_eq]; omega) | (split <;> omega))
theorem dX4_through_75 : decode cX4_through 75 = .ok (.bipush (-9), 2) := dqo_16 247 (by decide) (kb_X4_through_1 11 rfl) (kb_X4_through_1 12 rfl)
theorem dX4_through_77 : decode cX4_through 77 = .ok (.ireturn, 1) := dqo_172 (kb_X4_through_1 13 rfl)
set_option maxRecDepth 100000 in
set_option maxHeartbeats 4000000 in
theorem D_through_ref {l : Launch} {D : va_G} {cy : Nat → ClassId} {X : (Nat → Prop) → State → Heap → Prop} {ba ra : Nat → Nat} {hf : Nat → Nat → Nat} {hq : Nat → Nat → Int32} {kn th : Int32} {sm : Int64} {Y : va_W} {f : Nat → Nat → Nat} {r : Nat → Nat → Int32} {w : Nat} {v : Nat} {i : Nat} {m0 : Nat} (hX : EnvM X cy) (hC : CInv f) (hM : MR f r hf hq) (hw : w < 8) (h5w : f 5 w = 1) (hv : v < 8) (h5v : f 5 v = 1) (hi4 : i < 4) (hm0 : m0 < hf 4 v) (hlt0 : ∀ q, q < m0 → (cutF (fun z => hq (f 1 v) (f 3 v + z)) (hf 4 v)) q < nI (hf 4 w)) (hno : nI (hf 4 w) ≤ (cutF (fun z => hq (f 1 v) (f 3 v + z)) (hf 4 v)) m0) : Cd l D cy X yX4_through cX4_through 7 (some .int) (rmk 9 4 48 420) [.ref (ba 9), .int (nI w), .int (nI v), .int (nI i)] (WM cy ba ra hf hq kn th sm ++ Y) (some (.int (nI 4294967287))) (WM cy ba ra hf hq kn (nI 0) sm ++ Y) := by
  have hG := hM.1
  have h5M := hM.h5M hC
  have h4M := hC.h4M
  have h9a := hM.h9a hC
  have h6a := hM.h6a
  have hU := hM.hU hC
  have qw := hM.wh hC hw h5w
  have qv := hM.wh hC hv h5v
  have qi := hC.rw hi4
  have pi := (hM.2.1 i hi4).1
  have ei : hf 4 (f 1 i) = hf 4 i := by rw [qi.2.1]
  have wi := hM.wh hC (w := i) (by omega) qi.2.2.2.2.2
  refine Cm.of [some (.ref (ba 9)), some (.int (nI w)), some (.int (nI v)), some (.int (nI i)), none, none, none] pn_X4 rfl (Nat.le_of_ble_eq_true rfl) ?_
  intro p e s m args below meth c A C hE hr hnt hn
  refine r_aload_n C dX4_through_0 rfl ?_
  refine r_aload_n C dX4_through_1 rfl ?_
  refine r_iload_n C dX4_through_2 rfl ?_
  refine d_V (st := [.ref (ba 9)]) hX.1.stb C hE (D_isNoWhere0 (ba := ba) (ra := ra) (hf := hf) (hq := hq) (kn := kn) (th := th) (sm := sm) (Y := Y) (w := w) hX (by first | omega | (simp [up2, *]; done) | (simp [up2, *]; omega) | (simp only [up2_eq]; omega) | (split <;> omega)) (by first | omega | (simp [up2, *]; done) | (simp [up2, *]; omega) | (simp only [up2_eq]; omega) | (split <;> omega))) pk_X4_isNoWhere qm_X4_55 0 8 rfl rfl wm_0 rfl rfl (Nat.le_of_ble_eq_true rfl) dX4_through_3 ⟨(Nat.le_of_ble_eq_true rfl), (Nat.le_of_ble_eq_true rfl)⟩ ⟨(Nat.le_of_ble_eq_true rfl), (Nat.le_of_ble_eq_true rfl)⟩ ?_
  refine r_w (w' := WM cy ba ra hf hq kn th sm ++ Y) rfl ?_
  refine r_ifN_ne (a := 0) (tgt := 24) C (by first | omega | (simp [up2, *]; done) | (simp [up2, *]; omega) | (simp only [up2_eq]; omega) | (split <;> omega)) dX4_through_6 (by decide) (fun h6_1 => ?_) (fun h6_1 => ?_)
  · exact absurd h6_1 (by first | omega | (simp [up2, *]; done) | (simp [up2, *]; omega) | (simp only [up2_eq]; omega) | (split <;> omega))
  · skip
    refine r_aload_n C dX4_through_9 rfl ?_
    refine r_iload_n C dX4_through_10 rfl ?_
    refine d_V (st := [.ref (ba 9)]) hX.1.stb C hE (D_isNoWhere0 (ba := ba) (ra := ra) (hf := hf) (hq := hq) (kn := kn) (th := th) (sm := sm) (Y := Y) (w := v) hX (by first | omega | (simp [up2, *]; done) | (simp [up2, *]; omega) | (simp only [up2_eq]; omega) | (split <;> omega)) (by first | omega | (simp [up2, *]; done) | (simp [up2, *]; omega) | (simp only [up2_eq]; omega) | (split <;> omega))) pk_X4_isNoWhere qm_X4_55 0 8 rfl rfl wm_0 rfl rfl (Nat.le_of_ble_eq_true rfl) dX4_through_11 ⟨(Nat.le_of_ble_eq_true rfl), (Nat.le_of_ble_eq_true rfl)⟩ ⟨(Nat.le_of_ble_eq_true rfl), (Nat.le_of_ble_eq_true rfl)⟩ ?_
    refine r_w (w' := WM cy ba ra hf hq kn th sm ++ Y) rfl ?_
    refine r_ifN_ne (a := 0) (tgt := 24) C (by first | omega | (simp [up2, *]; done) | (simp [up2, *]; omega) | (simp only [up2_eq]; omega) | (split <;> omega)) dX4_through_14 (by decide) (fun h14_2 => ?_) (fun h14_2 => ?_)
    · exact absurd h14_2 (by first | omega | (simp [up2, *]; done) | (simp [up2, *]; omega) | (simp only [up2_eq]; omega) | (split <;> omega))
    · skip
      refine r_iload_n C dX4_through_17 rfl ?_
      refine d_S (st := [.ref (ba 9)]) hX.1.stb C hE (D_isNoRow0 (ba := ba) (ra := ra) (hf := hf) (hq := hq) (kn := kn) (th := th) (sm := sm) (Y := Y) (i := i) hX (by first | omega | (simp [up2, *]; done) | (simp [up2, *]; omega) | (simp only [up2_eq]; omega) | (split <;> omega))) pk_X4_isNoRow qm_X4_119 rfl rfl (Nat.le_of_ble_eq_true rfl) dX4_through_18 ⟨(Nat.le_of_ble_eq_true rfl), (Nat.le_of_ble_eq_true rfl)⟩ ⟨(Nat.le_of_ble_eq_true rfl), (Nat.le_of_ble_eq_true rfl)⟩ ?_
      refine r_w (w' := WM cy ba ra hf hq kn th sm ++ Y) rfl ?_
      refine r_ifN_eq (a := 0) (tgt := 28) C (by first | omega | (simp [up2, *]; done) | (simp [up2, *]; omega) | (simp only [up2_eq]; omega) | (split <;> omega)) dX4_through_21 (by decide) (fun h21_3 => ?_) (fun h21_3 => ?_)
      · skip
        refine r_iconst (v := (nI 0)) C dX4_through_28 (by decide) ?_
        refine r_iconst (v := (nI 0)) C dX4_through_29 (by decide) ?_
        refine r_iconst (v := (nI 0)) C dX4_through_30 (by decide) ?_
        refine d_V (st := []) hX.1.stb C hE (D_fails0 (ba := ba) (ra := ra) (hf := hf) (hq := hq) (kn := kn) (th := th) (sm := sm) (Y := Y)  hX ) pk_X4_fails qm_X4_84 0 8 rfl rfl wm_0 rfl rfl (Nat.le_of_ble_eq_true rfl) dX4_through_31 ⟨(Nat.le_of_ble_eq_true rfl), (Nat.le_of_ble_eq_true rfl)⟩ ⟨(Nat.le_of_ble_eq_true rfl), (Nat.le_of_ble_eq_true rfl)⟩ ?_
        refine r_w (w' := WM cy ba ra hf hq kn (nI 0) sm ++ Y) rfl ?_
        refine r_ifN_eq (a := 0) (tgt := 39) C (by first | omega | (simp [up2, *]; done) | (simp [up2, *]; omega) | (simp only [up2_eq]; omega) | (split <;> omega)) dX4_through_34 (by decide) (fun h34_4 => ?_) (fun h34_4 => ?_)
        · skip
          refine r_aload_n C dX4_through_39 rfl ?_
          refine r_iload_n C dX4_through_40 rfl ?_
          refine e_V (st := []) hX.1.stb C hE (D_items (ba := ba) (ra := ra) (hf := hf) (hq := hq) (kn := kn) (th := (nI 0)) (sm := sm) (Y := Y) (f := f) (w := w) hX hC (MG.same (fun _ => rfl) (fun _ => rfl) hG) (by first | omega | (simp [up2, *]; done) | (simp [up2, *]; omega) | (simp only [up2_eq]; omega) | (split <;> omega)) (by first | omega | (simp [up2, *]; done) | (simp [up2, *]; omega) | (simp only [up2_eq]; omega) | (split <;> omega)) (by first | omega | (simp [up2, *]; done) | (simp [up2, *]; omega) | (simp only [up2_eq]; omega) | (split <;> omega)) (by first | omega | (simp [up2, *]; done) | (simp [up2, *]; omega) | (simp only [up2_eq]; omega) | (split <;> omega))) pk_X4_items qm_X4_95 0 8 rfl rfl wm_0 rfl rfl (Nat.le_of_ble_eq_true rfl) dX4_through_41 ⟨(Nat.le_of_ble_eq_true rfl), (Nat.le_of_ble_eq_true rfl)⟩ ⟨(Nat.le_of_ble_eq_true rfl), (Nat.le_of_ble_eq_true rfl)⟩ (fun b_5 => ?_)
          refine r_w (w' := WM cy ba ra hf hq kn (nI 0) sm ++ (Y ++ [(b_5, .inl (cy 1, hf 4 w, .inl (cutF (fun z => hq (f 1 w) (f 3 w + z)) (hf 4 w))))])) (by simp only [List.append_assoc, List.cons_append, List.nil_append]) ?_
          refine r_st (st' := [.ref b_5]) rfl ?_
          refine r_astore C dX4_through_44 (by decide) rfl ?_
          refine r_aload_n C dX4_through_46 rfl ?_
          refine r_iload_n C dX4_through_47 rfl ?_
          refine e_V (st := []) hX.1.stb C hE (D_items (ba := ba) (ra := ra) (hf := hf) (hq := hq) (kn := kn) (th := (nI 0)) (sm := sm) (f := f) (w := v) hX hC (MG.same (fun _ => rfl) (fun _ => rfl) hG) hv h5v (by first | omega | (simp [up2, *]; done) | (simp [up2, *]; omega) | (simp only [up2_eq]; omega) | (split <;> omega)) (by first | omega | (simp [up2, *]; done) | (simp [up2, *]; omega) | (simp only [up2_eq]; omega) | (split <;> omega))) pk_X4_items qm_X4_95 0 8 rfl rfl wm_0 rfl rfl (Nat.le_of_ble_eq_true rfl) dX4_through_48 ⟨(Nat.le_of_ble_eq_true rfl), (Nat.le_of_ble_eq_true rfl)⟩ ⟨(Nat.le_of_ble_eq_true rfl), (Nat.le_of_ble_eq_true rfl)⟩ (fun b_6 => ?_)
          refine r_w (w' := WM cy ba ra hf hq kn (nI 0) sm ++ (Y ++ [(b_5, .inl (cy 1, hf 4 w, .inl (cutF (fun z => hq (f 1 w) (f 3 w + z)) (hf 4 w)))), (b_6, .inl (cy 1, hf 4 v, .inl (cutF (fun z => hq (f 1 v) (f 3 v + z)) (hf 4 v))))])) (by simp only [List.append_assoc, List.cons_append, List.nil_append]) ?_
          refine r_st (st' := [.ref b_6]) rfl ?_
          refine r_astore C dX4_through_51 (by decide) rfl ?_
          refine r_iconst (v := (nI 0)) C dX4_through_53 (by decide) ?_
          refine r_istore C dX4_through_54 (by decide) rfl ?_
          refine r_w (w' := WM cy ba ra hf hq kn (nI 0) sm ++ (Y ++ [(b_5, .inl (cy 1, hf 4 w, .inl (cutF (fun z => hq (f 1 w) (f 3 w + z)) (hf 4 w)))), (b_6, .inl (cy 1, hf 4 v, .inl (thT (fun q => tvF (cutF (fun z => hq (f 1 w) (f 3 w + z)) (hf 4 w)) ((cutF (fun z => hq (f 1 v) (f 3 v + z)) (hf 4 v)) q)) (cutF (fun z => hq (f 1 v) (f 3 v + z)) (hf 4 v)) 0)))])) (by rw [thT_0]) ?_
          have L56 : ∀ (d : Nat) (k : Nat), (hk : k + d = hf 4 v) → (hkm : k ≤ m0) → vC p l e (rmk 9 4 48 420) s m args below meth c D A (vx_MQ below (vG (fun v1 w1 => v1 = (some (.int (nI 4294967287))) ∧ w1 = WM cy ba ra hf hq kn (nI 0) sm ++ Y) D vwCl A) (vGX (fun _ => False) D vwCl (WM cy ba ra hf hq kn th sm ++ Y) A) args s (rmk 9 4 48 420).cells (rmk 9 4 48 420).slots A) 7 2 24 (WM cy ba ra hf hq kn (nI 0) sm ++ (Y ++ [(b_5, .inl (cy 1, hf 4 w, .inl (cutF (fun z => hq (f 1 w) (f 3 w + z)) (hf 4 w)))), (b_6, .inl (cy 1, hf 4 v, .inl (thT (fun q => tvF (cutF (fun z => hq (f 1 w) (f 3 w + z)) (hf 4 w)) ((cutF (fun z => hq (f 1 v) (f 3 v + z)) (hf 4 v)) q)) (cutF (fun z => hq (f 1 v) (f 3 v + z)) (hf 4 v)) k)))])) [some (.ref (ba 9)), some (.int (nI w)), some (.int (nI v)), some (.int (nI i)), some (.ref b_5), some (.ref b_6), some (.int (nI k))] 56 [] := by
            intro d
            induction d with
            | zero =>
              intro k hk hkm
              refine r_iload C dX4_through_56 rfl ?_
              refine r_aload C dX4_through_58 rfl ?_
              refine x_len C (t0 := 1) 1 rfl rfl dX4_through_60 ?_
              refine r_icN_ge (a := k) (b := (hf 4 v)) (tgt := 113) C (by first | omega | (simp [up2, *]; done) | (simp [up2, *]; omega) | (simp only [up2_eq]; omega) | (split <;> omega)) (by first | omega | (simp [up2, *]; done) | (simp [up2, *]; omega) | (simp only [up2_eq]; omega) | (split <;> omega)) dX4_through_61 (by decide) (fun h61_7 => ?_) (fun h61_7 => ?_)
              · exact absurd h61_7 (by first | omega | (simp [up2, *]; done) | (simp [up2, *]; omega) | (simp only [up2_eq]; omega) | (split <;> omega))
              · skip
                refine r_aload C dX4_through_64 rfl ?_
                refine r_iload C dX4_through_66 rfl ?_
                refine x_ald C (i := k) (f := thT (fun q => tvF (cutF (fun z => hq (f 1 w) (f 3 w + z)) (hf 4 w)) ((cutF (fun z => hq (f 1 v) (f 3 v + z)) (hf 4 v)) q)) (cutF (fun z => hq (f 1 v) (f 3 v + z)) (hf 4 v)) k) 1 rfl (by first | omega | (simp [up2, *]; done) | (simp [up2, *]; omega) | (simp only [up2_eq]; omega) | (split <;> omega)) (by first | omega | (simp [up2, *]; done) | (simp [up2, *]; omega) | (simp only [up2_eq]; omega) | (split <;> omega)) dX4_through_68 ?_
                refine r_eqi (show (thT (fun q => tvF (cutF (fun z => hq (f 1 w) (f 3 w + z)) (hf 4 w)) ((cutF (fun z => hq (f 1 v) (f 3 v + z)) (hf 4 v)) q)) (cutF (fun z => hq (f 1 v) (f 3 v + z)) (hf 4 v)) k) k = ((cutF (fun z => hq (f 1 v) (f 3 v + z)) (hf 4 v)) k) from thT_at) ?_
                refine r_aload C dX4_through_69 rfl ?_
                refine x_len C (t0 := 1) 0 rfl rfl dX4_through_71 ?_
                refine r_ic_lt (tgt := 78) C dX4_through_72 (by decide) (fun h72_8 => ?_) (fun h72_8 => ?_)
                · first
                  | exfalso; first | omega | contradiction
                  | skip
                    have h8 : k < m0 := by
                      rcases Nat.lt_or_ge k m0 with h8 | h8
                      · exact h8
                      · exact absurd (show (cutF (fun z => hq (f 1 v) (f 3 v + z)) (hf 4 v)) k < nI (hf 4 w) by assumption) (Int32.not_lt.mpr ((show k = m0 by omega) ▸ hno))
                    have hlt := fun q (_ : q < hf 4 v) (h9 : q < m0) => hlt0 q h9
                    refine r_aload C dX4_through_78 rfl ?_
                    refine r_iload C dX4_through_80 rfl ?_
                    refine r_aload C dX4_through_82 rfl ?_
                    refine r_iload C dX4_through_84 rfl ?_
                    refine x_ald C (i := k) (f := thT (fun q => tvF (cutF (fun z => hq (f 1 w) (f 3 w + z)) (hf 4 w)) ((cutF (fun z => hq (f 1 v) (f 3 v + z)) (hf 4 v)) q)) (cutF (fun z => hq (f 1 v) (f 3 v + z)) (hf 4 v)) k) 1 rfl (by first | omega | (simp [up2, *]; done) | (simp [up2, *]; omega) | (simp only [up2_eq]; omega) | (split <;> omega)) (by first | omega | (simp [up2, *]; done) | (simp [up2, *]; omega) | (simp only [up2_eq]; omega) | (split <;> omega)) dX4_through_86 ?_
                    refine r_eqi (show (thT (fun q => tvF (cutF (fun z => hq (f 1 w) (f 3 w + z)) (hf 4 w)) ((cutF (fun z => hq (f 1 v) (f 3 v + z)) (hf 4 v)) q)) (cutF (fun z => hq (f 1 v) (f 3 v + z)) (hf 4 v)) k) k = ((cutF (fun z => hq (f 1 v) (f 3 v + z)) (hf 4 v)) k) from thT_at) ?_
                    refine r_if_ge (tgt := 98) C dX4_through_87 (by decide) (fun h87_9 => ?_) (fun h87_9 => ?_)
                    · first
                      | exfalso; first | omega | contradiction
                      | skip
                        refine r_aload C dX4_through_98 rfl ?_
                        refine r_aload C dX4_through_100 rfl ?_
                        refine r_iload C dX4_through_102 rfl ?_
                        refine x_ald C (i := k) (f := thT (fun q => tvF (cutF (fun z => hq (f 1 w) (f 3 w + z)) (hf 4 w)) ((cutF (fun z => hq (f 1 v) (f 3 v + z)) (hf 4 v)) q)) (cutF (fun z => hq (f 1 v) (f 3 v + z)) (hf 4 v)) k) 1 rfl (by first | omega | (simp [up2, *]; done) | (simp [up2, *]; omega) | (simp only [up2_eq]; omega) | (split <;> omega)) (by first | omega | (simp [up2, *]; done) | (simp [up2, *]; omega) | (simp only [up2_eq]; omega) | (split <;> omega)) dX4_through_104 ?_
                        refine r_eqi (show (thT (fun q => tvF (cutF (fun z => hq (f 1 w) (f 3 w + z)) (hf 4 w)) ((cutF (fun z => hq (f 1 v) (f 3 v + z)) (hf 4 v)) q)) (cutF (fun z => hq (f 1 v) (f 3 v + z)) (hf 4 v)) k) k = ((cutF (fun z => hq (f 1 v) (f 3 v + z)) (hf 4 v)) k) from thT_at) ?_
                        have hcl := cl_nI (x := (cutF (fun z => hq (f 1 v) (f 3 v + z)) (hf 4 v)) k) (n := hf 4 w) (by omega) (by assumption) (hlt0 k h8)
                        refine r_eqi hcl.1 ?_
                        refine x_ald C (i := ((cutF (fun z => hq (f 1 v) (f 3 v + z)) (hf 4 v)) k).toNatClampNeg) (f := cutF (fun z => hq (f 1 w) (f 3 w + z)) (hf 4 w)) 0 rfl (hcl.2) (by first | omega | (simp [up2, *]; done) | (simp [up2, *]; omega) | (simp only [up2_eq]; omega) | (split <;> omega)) dX4_through_105 ?_
                        refine x_ast C (i := k) (f := thT (fun q => tvF (cutF (fun z => hq (f 1 w) (f 3 w + z)) (hf 4 w)) ((cutF (fun z => hq (f 1 v) (f 3 v + z)) (hf 4 v)) q)) (cutF (fun z => hq (f 1 v) (f 3 v + z)) (hf 4 v)) k) (E' := [(b_5, .inl (cy 1, hf 4 w, .inl (cutF (fun z => hq (f 1 w) (f 3 w + z)) (hf 4 w)))), (b_6, .inl (cy 1, hf 4 v, .inl (upd (thT (fun q => tvF (cutF (fun z => hq (f 1 w) (f 3 w + z)) (hf 4 w)) ((cutF (fun z => hq (f 1 v) (f 3 v + z)) (hf 4 v)) q)) (cutF (fun z => hq (f 1 v) (f 3 v + z)) (hf 4 v)) k) k ((cutF (fun z => hq (f 1 w) (f 3 w + z)) (hf 4 w)) (((cutF (fun z => hq (f 1 v) (f 3 v + z)) (hf 4 v)) k).toNatClampNeg)))))]) 1 rfl (by first | omega | (simp [up2, *]; done) | (simp [up2, *]; omega) | (simp only [up2_eq]; omega) | (split <;> omega)) (by first | omega | (simp [up2, *]; done) | (simp [up2, *]; omega) | (simp only [up2_eq]; omega) | (split <;> omega)) rfl dX4_through_106 ?_
                        refine r_iincN C dX4_through_107 rfl (by decide) rfl ?_
                        refine r_goto (tgt := 56) C dX4_through_110 (by decide) ?_
                        refine r_w (w' := WM cy ba ra hf hq kn (nI 0) sm ++ (Y ++ [(b_5, .inl (cy 1, hf 4 w, .inl (cutF (fun z => hq (f 1 w) (f 3 w + z)) (hf 4 w)))), (b_6, .inl (cy 1, hf 4 v, .inl (thT (fun q => tvF (cutF (fun z => hq (f 1 w) (f 3 w + z)) (hf 4 w)) ((cutF (fun z => hq (f 1 v) (f 3 v + z)) (hf 4 v)) q)) (cutF (fun z => hq (f 1 v) (f 3 v + z)) (hf 4 v)) (k + 1))))])) (by rw [thT_up (v := (fun q => tvF (cutF (fun z => hq (f 1 w) (f 3 w + z)) (hf 4 w)) ((cutF (fun z => hq (f 1 v) (f 3 v + z)) (hf 4 v)) q))) (by unfold tvF; rw [if_neg (Int32.not_lt.mpr (by assumption))])]) ?_
                        exact (Nat.not_lt_zero _ (by omega)).elim
                    · first
                      | exfalso; first | omega | contradiction
                      | skip
                        refine r_aload C dX4_through_90 rfl ?_
                        refine r_iload C dX4_through_92 rfl ?_
                        refine x_ald C (i := k) (f := thT (fun q => tvF (cutF (fun z => hq (f 1 w) (f 3 w + z)) (hf 4 w)) ((cutF (fun z => hq (f 1 v) (f 3 v + z)) (hf 4 v)) q)) (cutF (fun z => hq (f 1 v) (f 3 v + z)) (hf 4 v)) k) 1 rfl (by first | omega | (simp [up2, *]; done) | (simp [up2, *]; omega) | (simp only [up2_eq]; omega) | (split <;> omega)) (by first | omega | (simp [up2, *]; done) | (simp [up2, *]; omega) | (simp only [up2_eq]; omega) | (split <;> omega)) dX4_through_94 ?_
                        refine r_eqi (show (thT (fun q => tvF (cutF (fun z => hq (f 1 w) (f 3 w + z)) (hf 4 w)) ((cutF (fun z => hq (f 1 v) (f 3 v + z)) (hf 4 v)) q)) (cutF (fun z => hq (f 1 v) (f 3 v + z)) (hf 4 v)) k) k = ((cutF (fun z => hq (f 1 v) (f 3 v + z)) (hf 4 v)) k) from thT_at) ?_
                        refine r_goto (tgt := 106) C dX4_through_95 (by decide) ?_
                        refine x_ast C (i := k) (f := thT (fun q => tvF (cutF (fun z => hq (f 1 w) (f 3 w + z)) (hf 4 w)) ((cutF (fun z => hq (f 1 v) (f 3 v + z)) (hf 4 v)) q)) (cutF (fun z => hq (f 1 v) (f 3 v + z)) (hf 4 v)) k) (E' := [(b_5, .inl (cy 1, hf 4 w, .inl (cutF (fun z => hq (f 1 w) (f 3 w + z)) (hf 4 w)))), (b_6, .inl (cy 1, hf 4 v, .inl (upd (thT (fun q => tvF (cutF (fun z => hq (f 1 w) (f 3 w + z)) (hf 4 w)) ((cutF (fun z => hq (f 1 v) (f 3 v + z)) (hf 4 v)) q)) (cutF (fun z => hq (f 1 v) (f 3 v + z)) (hf 4 v)) k) k ((cutF (fun z => hq (f 1 v) (f 3 v + z)) (hf 4 v)) k))))]) 1 rfl (by first | omega | (simp [up2, *]; done) | (simp [up2, *]; omega) | (simp only [up2_eq]; omega) | (split <;> omega)) (by first | omega | (simp [up2, *]; done) | (simp [up2, *]; omega) | (simp only [up2_eq]; omega) | (split <;> omega)) rfl dX4_through_106 ?_
                        refine r_iincN C dX4_through_107 rfl (by decide) rfl ?_
                        refine r_goto (tgt := 56) C dX4_through_110 (by decide) ?_
                        refine r_w (w' := WM cy ba ra hf hq kn (nI 0) sm ++ (Y ++ [(b_5, .inl (cy 1, hf 4 w, .inl (cutF (fun z => hq (f 1 w) (f 3 w + z)) (hf 4 w)))), (b_6, .inl (cy 1, hf 4 v, .inl (thT (fun q => tvF (cutF (fun z => hq (f 1 w) (f 3 w + z)) (hf 4 w)) ((cutF (fun z => hq (f 1 v) (f 3 v + z)) (hf 4 v)) q)) (cutF (fun z => hq (f 1 v) (f 3 v + z)) (hf 4 v)) (k + 1))))])) (by rw [thT_up (v := (fun q => tvF (cutF (fun z => hq (f 1 w) (f 3 w + z)) (hf 4 w)) ((cutF (fun z => hq (f 1 v) (f 3 v + z)) (hf 4 v)) q))) (by unfold tvF; rw [if_pos (Int32.not_le.mp (by assumption))])]) ?_
                        exact (Nat.not_lt_zero _ (by omega)).elim
                · first
                  | exfalso; first | omega | contradiction
                  | skip
                    refine r_bipush (v := (nI 4294967287)) C dX4_through_75 (by decide) ?_
                    refine r_pre ?_
                    exact r_iret C hr dX4_through_77 ⟨rfl, rfl⟩ (Nat.le_of_ble_eq_true rfl) (Nat.le_of_ble_eq_true rfl)
            | succ d ih_L56 =>
              intro k hk hkm
              refine r_iload C dX4_through_56 rfl ?_
              refine r_aload C dX4_through_58 rfl ?_
              refine x_len C (t0 := 1) 1 rfl rfl dX4_through_60 ?_
              refine r_icN_ge (a := k) (b := (hf 4 v)) (tgt := 113) C (by first | omega | (simp [up2, *]; done) | (simp [up2, *]; omega) | (simp only [up2_eq]; omega) | (split <;> omega)) (by first | omega | (simp [up2, *]; done) | (simp [up2, *]; omega) | (simp only [up2_eq]; omega) | (split <;> omega)) dX4_through_61 (by decide) (fun h61_10 => ?_) (fun h61_10 => ?_)
              · exact absurd h61_10 (by first | omega | (simp [up2, *]; done) | (simp [up2, *]; omega) | (simp only [up2_eq]; omega) | (split <;> omega))
              · skip
                refine r_aload C dX4_through_64 rfl ?_
                refine r_iload C dX4_through_66 rfl ?_
                refine x_ald C (i := k) (f := thT (fun q => tvF (cutF (fun z => hq (f 1 w) (f 3 w + z)) (hf 4 w)) ((cutF (fun z => hq (f 1 v) (f 3 v + z)) (hf 4 v)) q)) (cutF (fun z => hq (f 1 v) (f 3 v + z)) (hf 4 v)) k) 1 rfl (by first | omega | (simp [up2, *]; done) | (simp [up2, *]; omega) | (simp only [up2_eq]; omega) | (split <;> omega)) (by first | omega | (simp [up2, *]; done) | (simp [up2, *]; omega) | (simp only [up2_eq]; omega) | (split <;> omega)) dX4_through_68 ?_
                refine r_eqi (show (thT (fun q => tvF (cutF (fun z => hq (f 1 w) (f 3 w + z)) (hf 4 w)) ((cutF (fun z => hq (f 1 v) (f 3 v + z)) (hf 4 v)) q)) (cutF (fun z => hq (f 1 v) (f 3 v + z)) (hf 4 v)) k) k = ((cutF (fun z => hq (f 1 v) (f 3 v + z)) (hf 4 v)) k) from thT_at) ?_
                refine r_aload C dX4_through_69 rfl ?_
                refine x_len C (t0 := 1) 0 rfl rfl dX4_through_71 ?_
                refine r_ic_lt (tgt := 78) C dX4_through_72 (by decide) (fun h72_11 => ?_) (fun h72_11 => ?_)
                · first
                  | exfalso; first | omega | contradiction
                  | skip
                    have h8 : k < m0 := by
                      rcases Nat.lt_or_ge k m0 with h8 | h8
                      · exact h8
                      · exact absurd (show (cutF (fun z => hq (f 1 v) (f 3 v + z)) (hf 4 v)) k < nI (hf 4 w) by assumption) (Int32.not_lt.mpr ((show k = m0 by omega) ▸ hno))
                    have hlt := fun q (_ : q < hf 4 v) (h9 : q < m0) => hlt0 q h9
                    refine r_aload C dX4_through_78 rfl ?_
                    refine r_iload C dX4_through_80 rfl ?_
                    refine r_aload C dX4_through_82 rfl ?_
                    refine r_iload C dX4_through_84 rfl ?_
                    refine x_ald C (i := k) (f := thT (fun q => tvF (cutF (fun z => hq (f 1 w) (f 3 w + z)) (hf 4 w)) ((cutF (fun z => hq (f 1 v) (f 3 v + z)) (hf 4 v)) q)) (cutF (fun z => hq (f 1 v) (f 3 v + z)) (hf 4 v)) k) 1 rfl (by first | omega | (simp [up2, *]; done) | (simp [up2, *]; omega) | (simp only [up2_eq]; omega) | (split <;> omega)) (by first | omega | (simp [up2, *]; done) | (simp [up2, *]; omega) | (simp only [up2_eq]; omega) | (split <;> omega)) dX4_through_86 ?_
                    refine r_eqi (show (thT (fun q => tvF (cutF (fun z => hq (f 1 w) (f 3 w + z)) (hf 4 w)) ((cutF (fun z => hq (f 1 v) (f 3 v + z)) (hf 4 v)) q)) (cutF (fun z => hq (f 1 v) (f 3 v + z)) (hf 4 v)) k) k = ((cutF (fun z => hq (f 1 v) (f 3 v + z)) (hf 4 v)) k) from thT_at) ?_
                    refine r_if_ge (tgt := 98) C dX4_through_87 (by decide) (fun h87_12 => ?_) (fun h87_12 => ?_)
                    · first
                      | exfalso; first | omega | contradiction
                      | skip
                        refine r_aload C dX4_through_98 rfl ?_
                        refine r_aload C dX4_through_100 rfl ?_
                        refine r_iload C dX4_through_102 rfl ?_
                        refine x_ald C (i := k) (f := thT (fun q => tvF (cutF (fun z => hq (f 1 w) (f 3 w + z)) (hf 4 w)) ((cutF (fun z => hq (f 1 v) (f 3 v + z)) (hf 4 v)) q)) (cutF (fun z => hq (f 1 v) (f 3 v + z)) (hf 4 v)) k) 1 rfl (by first | omega | (simp [up2, *]; done) | (simp [up2, *]; omega) | (simp only [up2_eq]; omega) | (split <;> omega)) (by first | omega | (simp [up2, *]; done) | (simp [up2, *]; omega) | (simp only [up2_eq]; omega) | (split <;> omega)) dX4_through_104 ?_
                        refine r_eqi (show (thT (fun q => tvF (cutF (fun z => hq (f 1 w) (f 3 w + z)) (hf 4 w)) ((cutF (fun z => hq (f 1 v) (f 3 v + z)) (hf 4 v)) q)) (cutF (fun z => hq (f 1 v) (f 3 v + z)) (hf 4 v)) k) k = ((cutF (fun z => hq (f 1 v) (f 3 v + z)) (hf 4 v)) k) from thT_at) ?_
                        have hcl := cl_nI (x := (cutF (fun z => hq (f 1 v) (f 3 v + z)) (hf 4 v)) k) (n := hf 4 w) (by omega) (by assumption) (hlt0 k h8)
                        refine r_eqi hcl.1 ?_
                        refine x_ald C (i := ((cutF (fun z => hq (f 1 v) (f 3 v + z)) (hf 4 v)) k).toNatClampNeg) (f := cutF (fun z => hq (f 1 w) (f 3 w + z)) (hf 4 w)) 0 rfl (hcl.2) (by first | omega | (simp [up2, *]; done) | (simp [up2, *]; omega) | (simp only [up2_eq]; omega) | (split <;> omega)) dX4_through_105 ?_
                        refine x_ast C (i := k) (f := thT (fun q => tvF (cutF (fun z => hq (f 1 w) (f 3 w + z)) (hf 4 w)) ((cutF (fun z => hq (f 1 v) (f 3 v + z)) (hf 4 v)) q)) (cutF (fun z => hq (f 1 v) (f 3 v + z)) (hf 4 v)) k) (E' := [(b_5, .inl (cy 1, hf 4 w, .inl (cutF (fun z => hq (f 1 w) (f 3 w + z)) (hf 4 w)))), (b_6, .inl (cy 1, hf 4 v, .inl (upd (thT (fun q => tvF (cutF (fun z => hq (f 1 w) (f 3 w + z)) (hf 4 w)) ((cutF (fun z => hq (f 1 v) (f 3 v + z)) (hf 4 v)) q)) (cutF (fun z => hq (f 1 v) (f 3 v + z)) (hf 4 v)) k) k ((cutF (fun z => hq (f 1 w) (f 3 w + z)) (hf 4 w)) (((cutF (fun z => hq (f 1 v) (f 3 v + z)) (hf 4 v)) k).toNatClampNeg)))))]) 1 rfl (by first | omega | (simp [up2, *]; done) | (simp [up2, *]; omega) | (simp only [up2_eq]; omega) | (split <;> omega)) (by first | omega | (simp [up2, *]; done) | (simp [up2, *]; omega) | (simp only [up2_eq]; omega) | (split <;> omega)) rfl dX4_through_106 ?_
                        refine r_iincN C dX4_through_107 rfl (by decide) rfl ?_
                        refine r_goto (tgt := 56) C dX4_through_110 (by decide) ?_
                        refine r_w (w' := WM cy ba ra hf hq kn (nI 0) sm ++ (Y ++ [(b_5, .inl (cy 1, hf 4 w, .inl (cutF (fun z => hq (f 1 w) (f 3 w + z)) (hf 4 w)))), (b_6, .inl (cy 1, hf 4 v, .inl (thT (fun q => tvF (cutF (fun z => hq (f 1 w) (f 3 w + z)) (hf 4 w)) ((cutF (fun z => hq (f 1 v) (f 3 v + z)) (hf 4 v)) q)) (cutF (fun z => hq (f 1 v) (f 3 v + z)) (hf 4 v)) (k + 1))))])) (by rw [thT_up (v := (fun q => tvF (cutF (fun z => hq (f 1 w) (f 3 w + z)) (hf 4 w)) ((cutF (fun z => hq (f 1 v) (f 3 v + z)) (hf 4 v)) q))) (by unfold tvF; rw [if_neg (Int32.not_lt.mpr (by assumption))])]) ?_
                        exact ih_L56 (k + 1) (by first | omega | (simp [up2, *]; done) | (simp [up2, *]; omega) | (simp only [up2_eq]; omega) | (split <;> omega)) (by rcases Nat.lt_or_ge (k + 1) (m0 + 1) with h8 | h8 <;> omega)
                    · first
                      | exfalso; first | omega | contradiction
                      | skip
                        refine r_aload C dX4_through_90 rfl ?_
                        refine r_iload C dX4_through_92 rfl ?_
                        refine x_ald C (i := k) (f := thT (fun q => tvF (cutF (fun z => hq (f 1 w) (f 3 w + z)) (hf 4 w)) ((cutF (fun z => hq (f 1 v) (f 3 v + z)) (hf 4 v)) q)) (cutF (fun z => hq (f 1 v) (f 3 v + z)) (hf 4 v)) k) 1 rfl (by first | omega | (simp [up2, *]; done) | (simp [up2, *]; omega) | (simp only [up2_eq]; omega) | (split <;> omega)) (by first | omega | (simp [up2, *]; done) | (simp [up2, *]; omega) | (simp only [up2_eq]; omega) | (split <;> omega)) dX4_through_94 ?_
                        refine r_eqi (show (thT (fun q => tvF (cutF (fun z => hq (f 1 w) (f 3 w + z)) (hf 4 w)) ((cutF (fun z => hq (f 1 v) (f 3 v + z)) (hf 4 v)) q)) (cutF (fun z => hq (f 1 v) (f 3 v + z)) (hf 4 v)) k) k = ((cutF (fun z => hq (f 1 v) (f 3 v + z)) (hf 4 v)) k) from thT_at) ?_
                        refine r_goto (tgt := 106) C dX4_through_95 (by decide) ?_
                        refine x_ast C (i := k) (f := thT (fun q => tvF (cutF (fun z => hq (f 1 w) (f 3 w + z)) (hf 4 w)) ((cutF (fun z => hq (f 1 v) (f 3 v + z)) (hf 4 v)) q)) (cutF (fun z => hq (f 1 v) (f 3 v + z)) (hf 4 v)) k) (E' := [(b_5, .inl (cy 1, hf 4 w, .inl (cutF (fun z => hq (f 1 w) (f 3 w + z)) (hf 4 w)))), (b_6, .inl (cy 1, hf 4 v, .inl (upd (thT (fun q => tvF (cutF (fun z => hq (f 1 w) (f 3 w + z)) (hf 4 w)) ((cutF (fun z => hq (f 1 v) (f 3 v + z)) (hf 4 v)) q)) (cutF (fun z => hq (f 1 v) (f 3 v + z)) (hf 4 v)) k) k ((cutF (fun z => hq (f 1 v) (f 3 v + z)) (hf 4 v)) k))))]) 1 rfl (by first | omega | (simp [up2, *]; done) | (simp [up2, *]; omega) | (simp only [up2_eq]; omega) | (split <;> omega)) (by first | omega | (simp [up2, *]; done) | (simp [up2, *]; omega) | (simp only [up2_eq]; omega) | (split <;> omega)) rfl dX4_through_106 ?_
                        refine r_iincN C dX4_through_107 rfl (by decide) rfl ?_
                        refine r_goto (tgt := 56) C dX4_through_110 (by decide) ?_
                        refine r_w (w' := WM cy ba ra hf hq kn (nI 0) sm ++ (Y ++ [(b_5, .inl (cy 1, hf 4 w, .inl (cutF (fun z => hq (f 1 w) (f 3 w + z)) (hf 4 w)))), (b_6, .inl (cy 1, hf 4 v, .inl (thT (fun q => tvF (cutF (fun z => hq (f 1 w) (f 3 w + z)) (hf 4 w)) ((cutF (fun z => hq (f 1 v) (f 3 v + z)) (hf 4 v)) q)) (cutF (fun z => hq (f 1 v) (f 3 v + z)) (hf 4 v)) (k + 1))))])) (by rw [thT_up (v := (fun q => tvF (cutF (fun z => hq (f 1 w) (f 3 w + z)) (hf 4 w)) ((cutF (fun z => hq (f 1 v) (f 3 v + z)) (hf 4 v)) q))) (by unfold tvF; rw [if_pos (Int32.not_le.mp (by assumption))])]) ?_
                        exact ih_L56 (k + 1) (by first | omega | (simp [up2, *]; done) | (simp [up2, *]; omega) | (simp only [up2_eq]; omega) | (split <;> omega)) (by rcases Nat.lt_or_ge (k + 1) (m0 + 1) with h8 | h8 <;> omega)
                · first
                  | exfalso; first | omega | contradiction
                  | skip
                    refine r_bipush (v := (nI 4294967287)) C dX4_through_75 (by decide) ?_
                    refine r_pre ?_
                    exact r_iret C hr dX4_through_77 ⟨rfl, rfl⟩ (Nat.le_of_ble_eq_true rfl) (Nat.le_of_ble_eq_true rfl)
          exact L56 (hf 4 v) 0 (by first | omega | (simp [up2, *]; done) | (simp [up2, *]; omega) | (simp only [up2_eq]; omega) | (split <;> omega)) (Nat.zero_le _)
        · exact absurd h34_4 (by first | omega | (simp [up2, *]; done) | (simp [up2, *]; omega) | (simp only [up2_eq]; omega) | (split <;> omega))
      · exact absurd h21_3 (by first | omega | (simp [up2, *]; done) | (simp [up2, *]; omega) | (simp only [up2_eq]; omega) | (split <;> omega))
