/-! CONTRACTS of the model: cursors asked, the house, soundness -/
theorem dX4_cursorNow_0 : decode cX4_cursorNow 0 = .ok (.aload_n 0, 1) := dqo_42 (kb_X4_cursorNow_0 0 rfl)
theorem dX4_cursorNow_1 : decode cX4_cursorNow 1 = .ok (.getfield 32, 3) := dqo_180 0 32 (kb_X4_cursorNow_0 1 rfl) (kb_X4_cursorNow_0 2 rfl) (kb_X4_cursorNow_0 3 rfl)
theorem dX4_cursorNow_4 : decode cX4_cursorNow 4 = .ok (.iload_n 1, 1) := dqo_27 (kb_X4_cursorNow_0 4 rfl)
theorem dX4_cursorNow_5 : decode cX4_cursorNow 5 = .ok (.baload, 1) := dqo_51 (kb_X4_cursorNow_0 5 rfl)
theorem dX4_cursorNow_6 : decode cX4_cursorNow 6 = .ok (.ifCond .ne 5, 3) := dqo_154 0 5 (by decide) (kb_X4_cursorNow_0 6 rfl) (kb_X4_cursorNow_0 7 rfl) (kb_X4_cursorNow_0 8 rfl)
theorem dX4_cursorNow_9 : decode cX4_cursorNow 9 = .ok (.iconst (-1), 1) := dqo_2 (kb_X4_cursorNow_0 9 rfl)
theorem dX4_cursorNow_10 : decode cX4_cursorNow 10 = .ok (.ireturn, 1) := dqo_172 (kb_X4_cursorNow_0 10 rfl)
theorem dX4_cursorNow_11 : decode cX4_cursorNow 11 = .ok (.iconst 5, 1) := dqo_8 (kb_X4_cursorNow_0 11 rfl)
theorem dX4_cursorNow_12 : decode cX4_cursorNow 12 = .ok (.newarray .int, 2) := dqo_188_10 (kb_X4_cursorNow_0 12 rfl) (kb_X4_cursorNow_0 13 rfl)
theorem dX4_cursorNow_14 : decode cX4_cursorNow 14 = .ok (.dup, 1) := dqo_89 (kb_X4_cursorNow_0 14 rfl)
theorem dX4_cursorNow_15 : decode cX4_cursorNow 15 = .ok (.iconst 0, 1) := dqo_3 (kb_X4_cursorNow_0 15 rfl)
theorem dX4_cursorNow_16 : decode cX4_cursorNow 16 = .ok (.aload_n 0, 1) := dqo_42 (kb_X4_cursorNow_0 16 rfl)
theorem dX4_cursorNow_17 : decode cX4_cursorNow 17 = .ok (.getfield 35, 3) := dqo_180 0 35 (kb_X4_cursorNow_0 17 rfl) (kb_X4_cursorNow_0 18 rfl) (kb_X4_cursorNow_0 19 rfl)
theorem dX4_cursorNow_20 : decode cX4_cursorNow 20 = .ok (.iload_n 1, 1) := dqo_27 (kb_X4_cursorNow_0 20 rfl)
theorem dX4_cursorNow_21 : decode cX4_cursorNow 21 = .ok (.iaload, 1) := dqo_46 (kb_X4_cursorNow_0 21 rfl)
theorem dX4_cursorNow_22 : decode cX4_cursorNow 22 = .ok (.iastore, 1) := dqo_79 (kb_X4_cursorNow_0 22 rfl)
theorem dX4_cursorNow_23 : decode cX4_cursorNow 23 = .ok (.dup, 1) := dqo_89 (kb_X4_cursorNow_0 23 rfl)
theorem dX4_cursorNow_24 : decode cX4_cursorNow 24 = .ok (.iconst 1, 1) := dqo_4 (kb_X4_cursorNow_0 24 rfl)
theorem dX4_cursorNow_25 : decode cX4_cursorNow 25 = .ok (.aload_n 0, 1) := dqo_42 (kb_X4_cursorNow_0 25 rfl)
theorem dX4_cursorNow_26 : decode cX4_cursorNow 26 = .ok (.getfield 38, 3) := dqo_180 0 38 (kb_X4_cursorNow_0 26 rfl) (kb_X4_cursorNow_0 27 rfl) (kb_X4_cursorNow_0 28 rfl)
theorem dX4_cursorNow_29 : decode cX4_cursorNow 29 = .ok (.iload_n 1, 1) := dqo_27 (kb_X4_cursorNow_0 29 rfl)
theorem dX4_cursorNow_30 : decode cX4_cursorNow 30 = .ok (.iaload, 1) := dqo_46 (kb_X4_cursorNow_0 30 rfl)
theorem dX4_cursorNow_31 : decode cX4_cursorNow 31 = .ok (.iastore, 1) := dqo_79 (kb_X4_cursorNow_0 31 rfl)
theorem dX4_cursorNow_32 : decode cX4_cursorNow 32 = .ok (.dup, 1) := dqo_89 (kb_X4_cursorNow_0 32 rfl)
theorem dX4_cursorNow_33 : decode cX4_cursorNow 33 = .ok (.iconst 2, 1) := dqo_5 (kb_X4_cursorNow_0 33 rfl)
theorem dX4_cursorNow_34 : decode cX4_cursorNow 34 = .ok (.aload_n 0, 1) := dqo_42 (kb_X4_cursorNow_0 34 rfl)
theorem dX4_cursorNow_35 : decode cX4_cursorNow 35 = .ok (.getfield 38, 3) := dqo_180 0 38 (kb_X4_cursorNow_0 35 rfl) (kb_X4_cursorNow_0 36 rfl) (kb_X4_cursorNow_0 37 rfl)
theorem dX4_cursorNow_38 : decode cX4_cursorNow 38 = .ok (.iload_n 1, 1) := dqo_27 (kb_X4_cursorNow_0 38 rfl)
theorem dX4_cursorNow_39 : decode cX4_cursorNow 39 = .ok (.iaload, 1) := dqo_46 (kb_X4_cursorNow_0 39 rfl)
theorem dX4_cursorNow_40 : decode cX4_cursorNow 40 = .ok (.iconst 1, 1) := dqo_4 (kb_X4_cursorNow_0 40 rfl)
theorem dX4_cursorNow_41 : decode cX4_cursorNow 41 = .ok (.isub, 1) := dqo_100 (kb_X4_cursorNow_0 41 rfl)
theorem dX4_cursorNow_42 : decode cX4_cursorNow 42 = .ok (.iastore, 1) := dqo_79 (kb_X4_cursorNow_0 42 rfl)
theorem dX4_cursorNow_43 : decode cX4_cursorNow 43 = .ok (.dup, 1) := dqo_89 (kb_X4_cursorNow_0 43 rfl)
theorem dX4_cursorNow_44 : decode cX4_cursorNow 44 = .ok (.iconst 3, 1) := dqo_6 (kb_X4_cursorNow_0 44 rfl)
theorem dX4_cursorNow_45 : decode cX4_cursorNow 45 = .ok (.aload_n 0, 1) := dqo_42 (kb_X4_cursorNow_0 45 rfl)
theorem dX4_cursorNow_46 : decode cX4_cursorNow 46 = .ok (.getfield 38, 3) := dqo_180 0 38 (kb_X4_cursorNow_0 46 rfl) (kb_X4_cursorNow_0 47 rfl) (kb_X4_cursorNow_0 48 rfl)
theorem dX4_cursorNow_49 : decode cX4_cursorNow 49 = .ok (.iload_n 1, 1) := dqo_27 (kb_X4_cursorNow_0 49 rfl)
theorem dX4_cursorNow_50 : decode cX4_cursorNow 50 = .ok (.iaload, 1) := dqo_46 (kb_X4_cursorNow_0 50 rfl)
theorem dX4_cursorNow_51 : decode cX4_cursorNow 51 = .ok (.aload_n 0, 1) := dqo_42 (kb_X4_cursorNow_0 51 rfl)
theorem dX4_cursorNow_52 : decode cX4_cursorNow 52 = .ok (.aload_n 0, 1) := dqo_42 (kb_X4_cursorNow_0 52 rfl)
theorem dX4_cursorNow_53 : decode cX4_cursorNow 53 = .ok (.getfield 35, 3) := dqo_180 0 35 (kb_X4_cursorNow_0 53 rfl) (kb_X4_cursorNow_0 54 rfl) (kb_X4_cursorNow_0 55 rfl)
theorem dX4_cursorNow_56 : decode cX4_cursorNow 56 = .ok (.iload_n 1, 1) := dqo_27 (kb_X4_cursorNow_0 56 rfl)
theorem dX4_cursorNow_57 : decode cX4_cursorNow 57 = .ok (.iaload, 1) := dqo_46 (kb_X4_cursorNow_0 57 rfl)
theorem dX4_cursorNow_58 : decode cX4_cursorNow 58 = .ok (.invokevirtual 59, 3) := dqo_182 0 59 (kb_X4_cursorNow_0 58 rfl) (kb_X4_cursorNow_0 59 rfl) (kb_X4_cursorNow_0 60 rfl)
theorem dX4_cursorNow_61 : decode cX4_cursorNow 61 = .ok (.if_icmp .ge 7, 3) := dqo_162 0 7 (by decide) (kb_X4_cursorNow_0 61 rfl) (kb_X4_cursorNow_0 62 rfl) (kb_X4_cursorNow_0 63 rfl)
theorem dX4_cursorNow_64 : decode cX4_cursorNow 64 = .ok (.iconst 1, 1) := dqo_4 (kb_X4_cursorNow_1 0 rfl)
theorem dX4_cursorNow_65 : decode cX4_cursorNow 65 = .ok (.goto 4, 3) := dqo_167 0 4 (by decide) (kb_X4_cursorNow_1 1 rfl) (kb_X4_cursorNow_1 2 rfl) (kb_X4_cursorNow_1 3 rfl)
theorem dX4_cursorNow_68 : decode cX4_cursorNow 68 = .ok (.iconst 0, 1) := dqo_3 (kb_X4_cursorNow_1 4 rfl)
theorem dX4_cursorNow_69 : decode cX4_cursorNow 69 = .ok (.invokestatic 136, 3) := dqo_184 0 136 (kb_X4_cursorNow_1 5 rfl) (kb_X4_cursorNow_1 6 rfl) (kb_X4_cursorNow_1 7 rfl)
theorem dX4_cursorNow_72 : decode cX4_cursorNow 72 = .ok (.iastore, 1) := dqo_79 (kb_X4_cursorNow_1 8 rfl)
theorem dX4_cursorNow_73 : decode cX4_cursorNow 73 = .ok (.dup, 1) := dqo_89 (kb_X4_cursorNow_1 9 rfl)
theorem dX4_cursorNow_74 : decode cX4_cursorNow 74 = .ok (.iconst 4, 1) := dqo_7 (kb_X4_cursorNow_1 10 rfl)
theorem dX4_cursorNow_75 : decode cX4_cursorNow 75 = .ok (.aload_n 0, 1) := dqo_42 (kb_X4_cursorNow_1 11 rfl)
theorem dX4_cursorNow_76 : decode cX4_cursorNow 76 = .ok (.getfield 38, 3) := dqo_180 0 38 (kb_X4_cursorNow_1 12 rfl) (kb_X4_cursorNow_1 13 rfl) (kb_X4_cursorNow_1 14 rfl)
theorem dX4_cursorNow_79 : decode cX4_cursorNow 79 = .ok (.iload_n 1, 1) := dqo_27 (kb_X4_cursorNow_1 15 rfl)
theorem dX4_cursorNow_80 : decode cX4_cursorNow 80 = .ok (.iaload, 1) := dqo_46 (kb_X4_cursorNow_1 16 rfl)
theorem dX4_cursorNow_81 : decode cX4_cursorNow 81 = .ok (.ifCond .le 7, 3) := dqo_158 0 7 (by decide) (kb_X4_cursorNow_1 17 rfl) (kb_X4_cursorNow_1 18 rfl) (kb_X4_cursorNow_1 19 rfl)
theorem dX4_cursorNow_84 : decode cX4_cursorNow 84 = .ok (.iconst 1, 1) := dqo_4 (kb_X4_cursorNow_1 20 rfl)
theorem dX4_cursorNow_85 : decode cX4_cursorNow 85 = .ok (.goto 4, 3) := dqo_167 0 4 (by decide) (kb_X4_cursorNow_1 21 rfl) (kb_X4_cursorNow_1 22 rfl) (kb_X4_cursorNow_1 23 rfl)
theorem dX4_cursorNow_88 : decode cX4_cursorNow 88 = .ok (.iconst 0, 1) := dqo_3 (kb_X4_cursorNow_1 24 rfl)
theorem dX4_cursorNow_89 : decode cX4_cursorNow 89 = .ok (.invokestatic 136, 3) := dqo_184 0 136 (kb_X4_cursorNow_1 25 rfl) (kb_X4_cursorNow_1 26 rfl) (kb_X4_cursorNow_1 27 rfl)
theorem dX4_cursorNow_92 : decode cX4_cursorNow 92 = .ok (.iastore, 1) := dqo_79 (kb_X4_cursorNow_1 28 rfl)
theorem dX4_cursorNow_93 : decode cX4_cursorNow 93 = .ok (.astore_n 3, 1) := dqo_78 (kb_X4_cursorNow_1 29 rfl)
theorem dX4_cursorNow_94 : decode cX4_cursorNow 94 = .ok (.aload_n 3, 1) := dqo_45 (kb_X4_cursorNow_1 30 rfl)
theorem dX4_cursorNow_95 : decode cX4_cursorNow 95 = .ok (.iload_n 2, 1) := dqo_28 (kb_X4_cursorNow_1 31 rfl)
theorem dX4_cursorNow_96 : decode cX4_cursorNow 96 = .ok (.iaload, 1) := dqo_46 (kb_X4_cursorNow_1 32 rfl)
theorem dX4_cursorNow_97 : decode cX4_cursorNow 97 = .ok (.ireturn, 1) := dqo_172 (kb_X4_cursorNow_1 33 rfl)
set_option maxRecDepth 100000 in
set_option maxHeartbeats 4000000 in
theorem D_cursorNow_0 {l : Launch} {D : va_G} {cy : Nat → ClassId} {X : (Nat → Prop) → State → Heap → Prop} {ba ra : Nat → Nat} {hf : Nat → Nat → Nat} {hq : Nat → Nat → Int32} {kn th : Int32} {sm : Int64} {Y : va_W} {f : Nat → Nat → Nat} {r : Nat → Nat → Int32} {k0 : Nat} (hX : EnvM X cy) (hC : CInv f) (hM : MR f r hf hq) (hk3 : k0 < 3) : Cd l D cy X yX4_cursorNow cX4_cursorNow 4 (some .int) (rmk 1 1 5 40) [.ref (ba 9), .int (nI k0), .int (nI 0)] (WM cy ba ra hf hq kn th sm ++ Y) (some (.int (cqM hf k0 0))) (WM cy ba ra hf hq kn th sm ++ Y) := by
  have hG := hM.1
  have h5M := hM.h5M hC
  have h4M := hC.h4M
  have h9a := hM.h9a hC
  have h6a := hM.h6a
  have hU := hM.hU hC
  have qu := hM.cu hC hk3
  refine Cm.of [some (.ref (ba 9)), some (.int (nI k0)), some (.int (nI 0)), none] pn_X4 rfl (Nat.le_of_ble_eq_true rfl) ?_
  intro p e s m args below meth c A C hE hr hnt hn
  refine r_aload_n C dX4_cursorNow_0 rfl ?_
  refine m_get (v := .ref (ba 5)) C 5 (by decide) qf_X4_32 rfl rfl dX4_cursorNow_1 ?_
  refine r_iload_n C dX4_cursorNow_4 rfl ?_
  refine m_zld (i := k0) (z := k0) (v := hf 9 k0) C 4 (by decide) (by decide) (show k0 < 3 from (by first | omega | (simp [up2, *]; done) | (simp [up2, *]; omega) | (simp only [up2_eq]; omega) | (split <;> omega))) (show 0 + k0 = k0 from (by omega)) rfl dX4_cursorNow_5 ?_
  refine r_ifN_ne (a := (hf 9 k0)) (tgt := 11) C (by omega) dX4_cursorNow_6 (by decide) (fun h6_1 => ?_) (fun h6_1 => ?_)
  · first
    | exfalso; first | omega | contradiction
    | skip
      refine r_iconst (v := (nI 5)) C dX4_cursorNow_11 (by decide) ?_
      refine r_newT C .int .int 1 rfl (by simp) qa_int (n := 5) (show 5 < 1000000 from Nat.lt_of_le_of_lt (show 5 ≤ 5 from (Nat.le_refl _)) (by decide)) (1) (5) (Nat.le_of_ble_eq_true rfl) (Nat.add_le_add (Nat.le_refl _) (show 5 ≤ 5 from (Nat.le_refl _))) (Nat.le_of_ble_eq_true rfl) (Nat.le_of_ble_eq_true rfl) dX4_cursorNow_12 (fun b_2 => ?_)
      refine r_w (w' := WM cy ba ra hf hq kn th sm ++ (Y ++ [(b_2, .inl (cy 1, 5, .inl (fun _ => 0)))])) (by simp only [List.append_assoc, List.cons_append, List.nil_append]) ?_
      refine r_dup C dX4_cursorNow_14 rfl ?_
      refine r_iconst (v := (nI 0)) C dX4_cursorNow_15 (by decide) ?_
      have qo := qu.2.2.2 (by omega)
      have hou := qu.2.2.1
      have h5u : f 5 (hf 6 k0) = 1 := by rw [qo.1]; exact qo.2.2.2.2.1
      have wu := hM.wh hC hou h5u
      have e6 : f 4 (hf 6 k0) = f 4 (f 6 k0) := by rw [qo.1]
      refine r_aload_n C dX4_cursorNow_16 rfl ?_
      refine m_get (v := .ref (ba 6)) C 6 (by decide) qf_X4_35 rfl rfl dX4_cursorNow_17 ?_
      refine r_iload_n C dX4_cursorNow_20 rfl ?_
      refine m_ald (i := k0) (z := k0) (v := hf 6 k0) C 5 (by decide) (by decide) (show k0 < 3 from (by first | omega | (simp [up2, *]; done) | (simp [up2, *]; omega) | (simp only [up2_eq]; omega) | (split <;> omega))) (show 0 + k0 = k0 from (by omega)) rfl dX4_cursorNow_21 ?_
      refine x_ast C (i := 0) (f := fun _ => 0) (E' := [(b_2, .inl (cy 1, 5, .inl (upd (fun _ => 0) 0 (nI (hf 6 k0)))))]) 0 rfl (by first | omega | (simp [up2, *]; done) | (simp [up2, *]; omega) | (simp only [up2_eq]; omega) | (split <;> omega)) (by first | omega | (simp [up2, *]; done) | (simp [up2, *]; omega) | (simp only [up2_eq]; omega) | (split <;> omega)) rfl dX4_cursorNow_22 ?_
      refine r_dup C dX4_cursorNow_23 rfl ?_
      refine r_iconst (v := (nI 1)) C dX4_cursorNow_24 (by decide) ?_
      refine r_aload_n C dX4_cursorNow_25 rfl ?_
      refine m_get (v := .ref (ba 7)) C 7 (by decide) qf_X4_38 rfl rfl dX4_cursorNow_26 ?_
      refine r_iload_n C dX4_cursorNow_29 rfl ?_
      refine m_ald (i := k0) (z := k0) (v := hf 7 k0) C 6 (by decide) (by decide) (show k0 < 3 from (by first | omega | (simp [up2, *]; done) | (simp [up2, *]; omega) | (simp only [up2_eq]; omega) | (split <;> omega))) (show 0 + k0 = k0 from (by omega)) rfl dX4_cursorNow_30 ?_
      refine x_ast C (i := 1) (f := upd (fun _ => 0) 0 (nI (hf 6 k0))) (E' := [(b_2, .inl (cy 1, 5, .inl (upd (upd (fun _ => 0) 0 (nI (hf 6 k0))) 1 (nI (hf 7 k0)))))]) 0 rfl (by first | omega | (simp [up2, *]; done) | (simp [up2, *]; omega) | (simp only [up2_eq]; omega) | (split <;> omega)) (by first | omega | (simp [up2, *]; done) | (simp [up2, *]; omega) | (simp only [up2_eq]; omega) | (split <;> omega)) rfl dX4_cursorNow_31 ?_
      refine r_dup C dX4_cursorNow_32 rfl ?_
      refine r_iconst (v := (nI 2)) C dX4_cursorNow_33 (by decide) ?_
      refine r_aload_n C dX4_cursorNow_34 rfl ?_
      refine m_get (v := .ref (ba 7)) C 7 (by decide) qf_X4_38 rfl rfl dX4_cursorNow_35 ?_
      refine r_iload_n C dX4_cursorNow_38 rfl ?_
      refine m_ald (i := k0) (z := k0) (v := hf 7 k0) C 6 (by decide) (by decide) (show k0 < 3 from (by first | omega | (simp [up2, *]; done) | (simp [up2, *]; omega) | (simp only [up2_eq]; omega) | (split <;> omega))) (show 0 + k0 = k0 from (by omega)) rfl dX4_cursorNow_39 ?_
      refine r_iconst (v := (nI 1)) C dX4_cursorNow_40 (by decide) ?_
      refine r_isub C dX4_cursorNow_41 ?_
      refine x_ast C (i := 2) (f := upd (upd (fun _ => 0) 0 (nI (hf 6 k0))) 1 (nI (hf 7 k0))) (E' := [(b_2, .inl (cy 1, 5, .inl (upd (upd (upd (fun _ => 0) 0 (nI (hf 6 k0))) 1 (nI (hf 7 k0))) 2 ((nI (hf 7 k0)) - (nI 1)))))]) 0 rfl (by first | omega | (simp [up2, *]; done) | (simp [up2, *]; omega) | (simp only [up2_eq]; omega) | (split <;> omega)) (by first | omega | (simp [up2, *]; done) | (simp [up2, *]; omega) | (simp only [up2_eq]; omega) | (split <;> omega)) rfl dX4_cursorNow_42 ?_
      refine r_dup C dX4_cursorNow_43 rfl ?_
      refine r_iconst (v := (nI 3)) C dX4_cursorNow_44 (by decide) ?_
      refine r_aload_n C dX4_cursorNow_45 rfl ?_
      refine m_get (v := .ref (ba 7)) C 7 (by decide) qf_X4_38 rfl rfl dX4_cursorNow_46 ?_
      refine r_iload_n C dX4_cursorNow_49 rfl ?_
      refine m_ald (i := k0) (z := k0) (v := hf 7 k0) C 6 (by decide) (by decide) (show k0 < 3 from (by first | omega | (simp [up2, *]; done) | (simp [up2, *]; omega) | (simp only [up2_eq]; omega) | (split <;> omega))) (show 0 + k0 = k0 from (by omega)) rfl dX4_cursorNow_50 ?_
      refine r_aload_n C dX4_cursorNow_51 rfl ?_
      refine r_aload_n C dX4_cursorNow_52 rfl ?_
      refine m_get (v := .ref (ba 6)) C 6 (by decide) qf_X4_35 rfl rfl dX4_cursorNow_53 ?_
      refine r_iload_n C dX4_cursorNow_56 rfl ?_
      refine m_ald (i := k0) (z := k0) (v := hf 6 k0) C 5 (by decide) (by decide) (show k0 < 3 from (by first | omega | (simp [up2, *]; done) | (simp [up2, *]; omega) | (simp only [up2_eq]; omega) | (split <;> omega))) (show 0 + k0 = k0 from (by omega)) rfl dX4_cursorNow_57 ?_
      refine d_V (st := [.int (nI (hf 7 k0)), .int (nI 3), .ref b_2, .ref b_2]) hX.1.stb C hE (D_sizeOf (ba := ba) (ra := ra) (hf := hf) (hq := hq) (kn := kn) (th := th) (sm := sm) (w := (hf 6 k0)) hX hou) pk_X4_sizeOf qm_X4_59 0 8 rfl rfl wm_0 rfl rfl (Nat.le_of_ble_eq_true rfl) dX4_cursorNow_58 ⟨(Nat.le_of_ble_eq_true rfl), (Nat.le_of_ble_eq_true rfl)⟩ ⟨(Nat.le_of_ble_eq_true rfl), (Nat.le_of_ble_eq_true rfl)⟩ ?_
      refine r_w (w' := WM cy ba ra hf hq kn th sm ++ (Y ++ [(b_2, .inl (cy 1, 5, .inl (upd (upd (upd (fun _ => 0) 0 (nI (hf 6 k0))) 1 (nI (hf 7 k0))) 2 ((nI (hf 7 k0)) - (nI 1)))))])) rfl ?_
      refine r_icN_ge (a := (hf 7 k0)) (b := (hf 4 (hf 6 k0))) (tgt := 68) C (by first | omega | (simp [up2, *]; done) | (simp [up2, *]; omega) | (simp only [up2_eq]; omega) | (split <;> omega)) (by first | omega | (simp [up2, *]; done) | (simp [up2, *]; omega) | (simp only [up2_eq]; omega) | (split <;> omega)) dX4_cursorNow_61 (by decide) (fun h61_3 => ?_) (fun h61_3 => ?_)
      · first
        | exfalso; first | omega | contradiction
        | skip
          refine r_iconst (v := (nI 0)) C dX4_cursorNow_68 (by decide) ?_
          refine d_S (st := [.int (nI 3), .ref b_2, .ref b_2]) hX.1.stb C hE (D_one (ba := ba) (ra := ra) (hf := hf) (hq := hq) (kn := kn) (th := th) (sm := sm) (b0 := 0) hX (by first | omega | (simp [up2, *]; done) | (simp [up2, *]; omega) | (simp only [up2_eq]; omega) | (split <;> omega))) pk_X4_one qm_X4_136 rfl rfl (Nat.le_of_ble_eq_true rfl) dX4_cursorNow_69 ⟨(Nat.le_of_ble_eq_true rfl), (Nat.le_of_ble_eq_true rfl)⟩ ⟨(Nat.le_of_ble_eq_true rfl), (Nat.le_of_ble_eq_true rfl)⟩ ?_
          refine r_w (w' := WM cy ba ra hf hq kn th sm ++ (Y ++ [(b_2, .inl (cy 1, 5, .inl (upd (upd (upd (fun _ => 0) 0 (nI (hf 6 k0))) 1 (nI (hf 7 k0))) 2 ((nI (hf 7 k0)) - (nI 1)))))])) rfl ?_
          refine x_ast C (i := 3) (f := upd (upd (upd (fun _ => 0) 0 (nI (hf 6 k0))) 1 (nI (hf 7 k0))) 2 ((nI (hf 7 k0)) - (nI 1))) (E' := [(b_2, .inl (cy 1, 5, .inl (upd (upd (upd (upd (fun _ => 0) 0 (nI (hf 6 k0))) 1 (nI (hf 7 k0))) 2 ((nI (hf 7 k0)) - (nI 1))) 3 (nI 0))))]) 0 rfl (by first | omega | (simp [up2, *]; done) | (simp [up2, *]; omega) | (simp only [up2_eq]; omega) | (split <;> omega)) (by first | omega | (simp [up2, *]; done) | (simp [up2, *]; omega) | (simp only [up2_eq]; omega) | (split <;> omega)) rfl dX4_cursorNow_72 ?_
          refine r_dup C dX4_cursorNow_73 rfl ?_
          refine r_iconst (v := (nI 4)) C dX4_cursorNow_74 (by decide) ?_
          refine r_aload_n C dX4_cursorNow_75 rfl ?_
          refine m_get (v := .ref (ba 7)) C 7 (by decide) qf_X4_38 rfl rfl dX4_cursorNow_76 ?_
          refine r_iload_n C dX4_cursorNow_79 rfl ?_
          refine m_ald (i := k0) (z := k0) (v := hf 7 k0) C 6 (by decide) (by decide) (show k0 < 3 from (by first | omega | (simp [up2, *]; done) | (simp [up2, *]; omega) | (simp only [up2_eq]; omega) | (split <;> omega))) (show 0 + k0 = k0 from (by omega)) rfl dX4_cursorNow_80 ?_
          refine r_ifN_le (a := (hf 7 k0)) (tgt := 88) C (by first | omega | (simp [up2, *]; done) | (simp [up2, *]; omega) | (simp only [up2_eq]; omega) | (split <;> omega)) dX4_cursorNow_81 (by decide) (fun h81_4 => ?_) (fun h81_4 => ?_)
          · first
            | exfalso; first | omega | contradiction
            | skip
              refine r_iconst (v := (nI 0)) C dX4_cursorNow_88 (by decide) ?_
              refine d_S (st := [.int (nI 4), .ref b_2, .ref b_2]) hX.1.stb C hE (D_one (ba := ba) (ra := ra) (hf := hf) (hq := hq) (kn := kn) (th := th) (sm := sm) (b0 := 0) hX (by first | omega | (simp [up2, *]; done) | (simp [up2, *]; omega) | (simp only [up2_eq]; omega) | (split <;> omega))) pk_X4_one qm_X4_136 rfl rfl (Nat.le_of_ble_eq_true rfl) dX4_cursorNow_89 ⟨(Nat.le_of_ble_eq_true rfl), (Nat.le_of_ble_eq_true rfl)⟩ ⟨(Nat.le_of_ble_eq_true rfl), (Nat.le_of_ble_eq_true rfl)⟩ ?_
              refine r_w (w' := WM cy ba ra hf hq kn th sm ++ (Y ++ [(b_2, .inl (cy 1, 5, .inl (upd (upd (upd (upd (fun _ => 0) 0 (nI (hf 6 k0))) 1 (nI (hf 7 k0))) 2 ((nI (hf 7 k0)) - (nI 1))) 3 (nI 0))))])) rfl ?_
              refine x_ast C (i := 4) (f := upd (upd (upd (upd (fun _ => 0) 0 (nI (hf 6 k0))) 1 (nI (hf 7 k0))) 2 ((nI (hf 7 k0)) - (nI 1))) 3 (nI 0)) (E' := [(b_2, .inl (cy 1, 5, .inl (upd (upd (upd (upd (upd (fun _ => 0) 0 (nI (hf 6 k0))) 1 (nI (hf 7 k0))) 2 ((nI (hf 7 k0)) - (nI 1))) 3 (nI 0)) 4 (nI 0))))]) 0 rfl (by first | omega | (simp [up2, *]; done) | (simp [up2, *]; omega) | (simp only [up2_eq]; omega) | (split <;> omega)) (by first | omega | (simp [up2, *]; done) | (simp [up2, *]; omega) | (simp only [up2_eq]; omega) | (split <;> omega)) rfl dX4_cursorNow_92 ?_
              refine r_astore_n C dX4_cursorNow_93 (by decide) rfl ?_
              refine r_aload_n C dX4_cursorNow_94 rfl ?_
              refine r_iload_n C dX4_cursorNow_95 rfl ?_
              refine x_ald C (i := 0) (f := upd (upd (upd (upd (upd (fun _ => 0) 0 (nI (hf 6 k0))) 1 (nI (hf 7 k0))) 2 ((nI (hf 7 k0)) - (nI 1))) 3 (nI 0)) 4 (nI 0)) 0 rfl (by first | omega | (simp [up2, *]; done) | (simp [up2, *]; omega) | (simp only [up2_eq]; omega) | (split <;> omega)) (by first | omega | (simp [up2, *]; done) | (simp [up2, *]; omega) | (simp only [up2_eq]; omega) | (split <;> omega)) dX4_cursorNow_96 ?_
              refine r_eqi (show (upd (upd (upd (upd (upd (fun _ => 0) 0 (nI (hf 6 k0))) 1 (nI (hf 7 k0))) 2 ((nI (hf 7 k0)) - (nI 1))) 3 (nI 0)) 4 (nI 0)) 0 = (nI (hf 6 k0)) from rfl) ?_
              refine r_pre ?_
              exact r_iret C hr dX4_cursorNow_97 ⟨by unfold cqM; rw [if_neg (by omega), if_pos rfl], rfl⟩ (Nat.le_of_ble_eq_true rfl) (Nat.le_of_ble_eq_true rfl)
          · first
            | exfalso; first | omega | contradiction
            | skip
              refine r_iconst (v := (nI 1)) C dX4_cursorNow_84 (by decide) ?_
              refine r_goto (tgt := 89) C dX4_cursorNow_85 (by decide) ?_
              refine d_S (st := [.int (nI 4), .ref b_2, .ref b_2]) hX.1.stb C hE (D_one (ba := ba) (ra := ra) (hf := hf) (hq := hq) (kn := kn) (th := th) (sm := sm) (b0 := 1) hX (by first | omega | (simp [up2, *]; done) | (simp [up2, *]; omega) | (simp only [up2_eq]; omega) | (split <;> omega))) pk_X4_one qm_X4_136 rfl rfl (Nat.le_of_ble_eq_true rfl) dX4_cursorNow_89 ⟨(Nat.le_of_ble_eq_true rfl), (Nat.le_of_ble_eq_true rfl)⟩ ⟨(Nat.le_of_ble_eq_true rfl), (Nat.le_of_ble_eq_true rfl)⟩ ?_
              refine r_w (w' := WM cy ba ra hf hq kn th sm ++ (Y ++ [(b_2, .inl (cy 1, 5, .inl (upd (upd (upd (upd (fun _ => 0) 0 (nI (hf 6 k0))) 1 (nI (hf 7 k0))) 2 ((nI (hf 7 k0)) - (nI 1))) 3 (nI 0))))])) rfl ?_
              refine x_ast C (i := 4) (f := upd (upd (upd (upd (fun _ => 0) 0 (nI (hf 6 k0))) 1 (nI (hf 7 k0))) 2 ((nI (hf 7 k0)) - (nI 1))) 3 (nI 0)) (E' := [(b_2, .inl (cy 1, 5, .inl (upd (upd (upd (upd (upd (fun _ => 0) 0 (nI (hf 6 k0))) 1 (nI (hf 7 k0))) 2 ((nI (hf 7 k0)) - (nI 1))) 3 (nI 0)) 4 (nI 1))))]) 0 rfl (by first | omega | (simp [up2, *]; done) | (simp [up2, *]; omega) | (simp only [up2_eq]; omega) | (split <;> omega)) (by first | omega | (simp [up2, *]; done) | (simp [up2, *]; omega) | (simp only [up2_eq]; omega) | (split <;> omega)) rfl dX4_cursorNow_92 ?_
              refine r_astore_n C dX4_cursorNow_93 (by decide) rfl ?_
              refine r_aload_n C dX4_cursorNow_94 rfl ?_
              refine r_iload_n C dX4_cursorNow_95 rfl ?_
              refine x_ald C (i := 0) (f := upd (upd (upd (upd (upd (fun _ => 0) 0 (nI (hf 6 k0))) 1 (nI (hf 7 k0))) 2 ((nI (hf 7 k0)) - (nI 1))) 3 (nI 0)) 4 (nI 1)) 0 rfl (by first | omega | (simp [up2, *]; done) | (simp [up2, *]; omega) | (simp only [up2_eq]; omega) | (split <;> omega)) (by first | omega | (simp [up2, *]; done) | (simp [up2, *]; omega) | (simp only [up2_eq]; omega) | (split <;> omega)) dX4_cursorNow_96 ?_
              refine r_eqi (show (upd (upd (upd (upd (upd (fun _ => 0) 0 (nI (hf 6 k0))) 1 (nI (hf 7 k0))) 2 ((nI (hf 7 k0)) - (nI 1))) 3 (nI 0)) 4 (nI 1)) 0 = (nI (hf 6 k0)) from rfl) ?_
              refine r_pre ?_
              exact r_iret C hr dX4_cursorNow_97 ⟨by unfold cqM; rw [if_neg (by omega), if_pos rfl], rfl⟩ (Nat.le_of_ble_eq_true rfl) (Nat.le_of_ble_eq_true rfl)
      · first
        | exfalso; first | omega | contradiction
        | skip
          refine r_iconst (v := (nI 1)) C dX4_cursorNow_64 (by decide) ?_
          refine r_goto (tgt := 69) C dX4_cursorNow_65 (by decide) ?_
          refine d_S (st := [.int (nI 3), .ref b_2, .ref b_2]) hX.1.stb C hE (D_one (ba := ba) (ra := ra) (hf := hf) (hq := hq) (kn := kn) (th := th) (sm := sm) (b0 := 1) hX (by first | omega | (simp [up2, *]; done) | (simp [up2, *]; omega) | (simp only [up2_eq]; omega) | (split <;> omega))) pk_X4_one qm_X4_136 rfl rfl (Nat.le_of_ble_eq_true rfl) dX4_cursorNow_69 ⟨(Nat.le_of_ble_eq_true rfl), (Nat.le_of_ble_eq_true rfl)⟩ ⟨(Nat.le_of_ble_eq_true rfl), (Nat.le_of_ble_eq_true rfl)⟩ ?_
          refine r_w (w' := WM cy ba ra hf hq kn th sm ++ (Y ++ [(b_2, .inl (cy 1, 5, .inl (upd (upd (upd (fun _ => 0) 0 (nI (hf 6 k0))) 1 (nI (hf 7 k0))) 2 ((nI (hf 7 k0)) - (nI 1)))))])) rfl ?_
          refine x_ast C (i := 3) (f := upd (upd (upd (fun _ => 0) 0 (nI (hf 6 k0))) 1 (nI (hf 7 k0))) 2 ((nI (hf 7 k0)) - (nI 1))) (E' := [(b_2, .inl (cy 1, 5, .inl (upd (upd (upd (upd (fun _ => 0) 0 (nI (hf 6 k0))) 1 (nI (hf 7 k0))) 2 ((nI (hf 7 k0)) - (nI 1))) 3 (nI 1))))]) 0 rfl (by first | omega | (simp [up2, *]; done) | (simp [up2, *]; omega) | (simp only [up2_eq]; omega) | (split <;> omega)) (by first | omega | (simp [up2, *]; done) | (simp [up2, *]; omega) | (simp only [up2_eq]; omega) | (split <;> omega)) rfl dX4_cursorNow_72 ?_
          refine r_dup C dX4_cursorNow_73 rfl ?_
          refine r_iconst (v := (nI 4)) C dX4_cursorNow_74 (by decide) ?_
          refine r_aload_n C dX4_cursorNow_75 rfl ?_
          refine m_get (v := .ref (ba 7)) C 7 (by decide) qf_X4_38 rfl rfl dX4_cursorNow_76 ?_
          refine r_iload_n C dX4_cursorNow_79 rfl ?_
          refine m_ald (i := k0) (z := k0) (v := hf 7 k0) C 6 (by decide) (by decide) (show k0 < 3 from (by first | omega | (simp [up2, *]; done) | (simp [up2, *]; omega) | (simp only [up2_eq]; omega) | (split <;> omega))) (show 0 + k0 = k0 from (by omega)) rfl dX4_cursorNow_80 ?_
          refine r_ifN_le (a := (hf 7 k0)) (tgt := 88) C (by first | omega | (simp [up2, *]; done) | (simp [up2, *]; omega) | (simp only [up2_eq]; omega) | (split <;> omega)) dX4_cursorNow_81 (by decide) (fun h81_5 => ?_) (fun h81_5 => ?_)
          · first
            | exfalso; first | omega | contradiction
            | skip
              refine r_iconst (v := (nI 0)) C dX4_cursorNow_88 (by decide) ?_
              refine d_S (st := [.int (nI 4), .ref b_2, .ref b_2]) hX.1.stb C hE (D_one (ba := ba) (ra := ra) (hf := hf) (hq := hq) (kn := kn) (th := th) (sm := sm) (b0 := 0) hX (by first | omega | (simp [up2, *]; done) | (simp [up2, *]; omega) | (simp only [up2_eq]; omega) | (split <;> omega))) pk_X4_one qm_X4_136 rfl rfl (Nat.le_of_ble_eq_true rfl) dX4_cursorNow_89 ⟨(Nat.le_of_ble_eq_true rfl), (Nat.le_of_ble_eq_true rfl)⟩ ⟨(Nat.le_of_ble_eq_true rfl), (Nat.le_of_ble_eq_true rfl)⟩ ?_
              refine r_w (w' := WM cy ba ra hf hq kn th sm ++ (Y ++ [(b_2, .inl (cy 1, 5, .inl (upd (upd (upd (upd (fun _ => 0) 0 (nI (hf 6 k0))) 1 (nI (hf 7 k0))) 2 ((nI (hf 7 k0)) - (nI 1))) 3 (nI 1))))])) rfl ?_
              refine x_ast C (i := 4) (f := upd (upd (upd (upd (fun _ => 0) 0 (nI (hf 6 k0))) 1 (nI (hf 7 k0))) 2 ((nI (hf 7 k0)) - (nI 1))) 3 (nI 1)) (E' := [(b_2, .inl (cy 1, 5, .inl (upd (upd (upd (upd (upd (fun _ => 0) 0 (nI (hf 6 k0))) 1 (nI (hf 7 k0))) 2 ((nI (hf 7 k0)) - (nI 1))) 3 (nI 1)) 4 (nI 0))))]) 0 rfl (by first | omega | (simp [up2, *]; done) | (simp [up2, *]; omega) | (simp only [up2_eq]; omega) | (split <;> omega)) (by first | omega | (simp [up2, *]; done) | (simp [up2, *]; omega) | (simp only [up2_eq]; omega) | (split <;> omega)) rfl dX4_cursorNow_92 ?_
              refine r_astore_n C dX4_cursorNow_93 (by decide) rfl ?_
              refine r_aload_n C dX4_cursorNow_94 rfl ?_
              refine r_iload_n C dX4_cursorNow_95 rfl ?_
              refine x_ald C (i := 0) (f := upd (upd (upd (upd (upd (fun _ => 0) 0 (nI (hf 6 k0))) 1 (nI (hf 7 k0))) 2 ((nI (hf 7 k0)) - (nI 1))) 3 (nI 1)) 4 (nI 0)) 0 rfl (by first | omega | (simp [up2, *]; done) | (simp [up2, *]; omega) | (simp only [up2_eq]; omega) | (split <;> omega)) (by first | omega | (simp [up2, *]; done) | (simp [up2, *]; omega) | (simp only [up2_eq]; omega) | (split <;> omega)) dX4_cursorNow_96 ?_
              refine r_eqi (show (upd (upd (upd (upd (upd (fun _ => 0) 0 (nI (hf 6 k0))) 1 (nI (hf 7 k0))) 2 ((nI (hf 7 k0)) - (nI 1))) 3 (nI 1)) 4 (nI 0)) 0 = (nI (hf 6 k0)) from rfl) ?_
              refine r_pre ?_
              exact r_iret C hr dX4_cursorNow_97 ⟨by unfold cqM; rw [if_neg (by omega), if_pos rfl], rfl⟩ (Nat.le_of_ble_eq_true rfl) (Nat.le_of_ble_eq_true rfl)
          · first
            | exfalso; first | omega | contradiction
            | skip
              refine r_iconst (v := (nI 1)) C dX4_cursorNow_84 (by decide) ?_
              refine r_goto (tgt := 89) C dX4_cursorNow_85 (by decide) ?_
              refine d_S (st := [.int (nI 4), .ref b_2, .ref b_2]) hX.1.stb C hE (D_one (ba := ba) (ra := ra) (hf := hf) (hq := hq) (kn := kn) (th := th) (sm := sm) (b0 := 1) hX (by first | omega | (simp [up2, *]; done) | (simp [up2, *]; omega) | (simp only [up2_eq]; omega) | (split <;> omega))) pk_X4_one qm_X4_136 rfl rfl (Nat.le_of_ble_eq_true rfl) dX4_cursorNow_89 ⟨(Nat.le_of_ble_eq_true rfl), (Nat.le_of_ble_eq_true rfl)⟩ ⟨(Nat.le_of_ble_eq_true rfl), (Nat.le_of_ble_eq_true rfl)⟩ ?_
              refine r_w (w' := WM cy ba ra hf hq kn th sm ++ (Y ++ [(b_2, .inl (cy 1, 5, .inl (upd (upd (upd (upd (fun _ => 0) 0 (nI (hf 6 k0))) 1 (nI (hf 7 k0))) 2 ((nI (hf 7 k0)) - (nI 1))) 3 (nI 1))))])) rfl ?_
              refine x_ast C (i := 4) (f := upd (upd (upd (upd (fun _ => 0) 0 (nI (hf 6 k0))) 1 (nI (hf 7 k0))) 2 ((nI (hf 7 k0)) - (nI 1))) 3 (nI 1)) (E' := [(b_2, .inl (cy 1, 5, .inl (upd (upd (upd (upd (upd (fun _ => 0) 0 (nI (hf 6 k0))) 1 (nI (hf 7 k0))) 2 ((nI (hf 7 k0)) - (nI 1))) 3 (nI 1)) 4 (nI 1))))]) 0 rfl (by first | omega | (simp [up2, *]; done) | (simp [up2, *]; omega) | (simp only [up2_eq]; omega) | (split <;> omega)) (by first | omega | (simp [up2, *]; done) | (simp [up2, *]; omega) | (simp only [up2_eq]; omega) | (split <;> omega)) rfl dX4_cursorNow_92 ?_
              refine r_astore_n C dX4_cursorNow_93 (by decide) rfl ?_
              refine r_aload_n C dX4_cursorNow_94 rfl ?_
              refine r_iload_n C dX4_cursorNow_95 rfl ?_
              refine x_ald C (i := 0) (f := upd (upd (upd (upd (upd (fun _ => 0) 0 (nI (hf 6 k0))) 1 (nI (hf 7 k0))) 2 ((nI (hf 7 k0)) - (nI 1))) 3 (nI 1)) 4 (nI 1)) 0 rfl (by first | omega | (simp [up2, *]; done) | (simp [up2, *]; omega) | (simp only [up2_eq]; omega) | (split <;> omega)) (by first | omega | (simp [up2, *]; done) | (simp [up2, *]; omega) | (simp only [up2_eq]; omega) | (split <;> omega)) dX4_cursorNow_96 ?_
              refine r_eqi (show (upd (upd (upd (upd (upd (fun _ => 0) 0 (nI (hf 6 k0))) 1 (nI (hf 7 k0))) 2 ((nI (hf 7 k0)) - (nI 1))) 3 (nI 1)) 4 (nI 1)) 0 = (nI (hf 6 k0)) from rfl) ?_
              refine r_pre ?_
              exact r_iret C hr dX4_cursorNow_97 ⟨by unfold cqM; rw [if_neg (by omega), if_pos rfl], rfl⟩ (Nat.le_of_ble_eq_true rfl) (Nat.le_of_ble_eq_true rfl)
  · first
    | exfalso; first | omega | contradiction
    | skip
      refine r_iconst (v := (nI 4294967295)) C dX4_cursorNow_9 (by decide) ?_
      exact r_iret C hr dX4_cursorNow_10 ⟨by unfold cqM; rw [if_pos (by omega)], rfl⟩ (Nat.le_of_ble_eq_true rfl) (Nat.le_of_ble_eq_true rfl)
set_option maxRecDepth 100000 in
set_option maxHeartbeats 4000000 in
theorem D_cursorNow_1 {l : Launch} {D : va_G} {cy : Nat → ClassId} {X : (Nat → Prop) → State → Heap → Prop} {ba ra : Nat → Nat} {hf : Nat → Nat → Nat} {hq : Nat → Nat → Int32} {kn th : Int32} {sm : Int64} {Y : va_W} {f : Nat → Nat → Nat} {r : Nat → Nat → Int32} {k0 : Nat} (hX : EnvM X cy) (hC : CInv f) (hM : MR f r hf hq) (hk3 : k0 < 3) : Cd l D cy X yX4_cursorNow cX4_cursorNow 4 (some .int) (rmk 1 1 5 40) [.ref (ba 9), .int (nI k0), .int (nI 1)] (WM cy ba ra hf hq kn th sm ++ Y) (some (.int (cqM hf k0 1))) (WM cy ba ra hf hq kn th sm ++ Y) := by
  have hG := hM.1
  have h5M := hM.h5M hC
  have h4M := hC.h4M
  have h9a := hM.h9a hC
  have h6a := hM.h6a
  have hU := hM.hU hC
  have qu := hM.cu hC hk3
  refine Cm.of [some (.ref (ba 9)), some (.int (nI k0)), some (.int (nI 1)), none] pn_X4 rfl (Nat.le_of_ble_eq_true rfl) ?_
  intro p e s m args below meth c A C hE hr hnt hn
  refine r_aload_n C dX4_cursorNow_0 rfl ?_
  refine m_get (v := .ref (ba 5)) C 5 (by decide) qf_X4_32 rfl rfl dX4_cursorNow_1 ?_
  refine r_iload_n C dX4_cursorNow_4 rfl ?_
  refine m_zld (i := k0) (z := k0) (v := hf 9 k0) C 4 (by decide) (by decide) (show k0 < 3 from (by first | omega | (simp [up2, *]; done) | (simp [up2, *]; omega) | (simp only [up2_eq]; omega) | (split <;> omega))) (show 0 + k0 = k0 from (by omega)) rfl dX4_cursorNow_5 ?_
  refine r_ifN_ne (a := (hf 9 k0)) (tgt := 11) C (by omega) dX4_cursorNow_6 (by decide) (fun h6_1 => ?_) (fun h6_1 => ?_)
  · first
    | exfalso; first | omega | contradiction
    | skip
      refine r_iconst (v := (nI 5)) C dX4_cursorNow_11 (by decide) ?_
      refine r_newT C .int .int 1 rfl (by simp) qa_int (n := 5) (show 5 < 1000000 from Nat.lt_of_le_of_lt (show 5 ≤ 5 from (Nat.le_refl _)) (by decide)) (1) (5) (Nat.le_of_ble_eq_true rfl) (Nat.add_le_add (Nat.le_refl _) (show 5 ≤ 5 from (Nat.le_refl _))) (Nat.le_of_ble_eq_true rfl) (Nat.le_of_ble_eq_true rfl) dX4_cursorNow_12 (fun b_2 => ?_)
      refine r_w (w' := WM cy ba ra hf hq kn th sm ++ (Y ++ [(b_2, .inl (cy 1, 5, .inl (fun _ => 0)))])) (by simp only [List.append_assoc, List.cons_append, List.nil_append]) ?_
      refine r_dup C dX4_cursorNow_14 rfl ?_
      refine r_iconst (v := (nI 0)) C dX4_cursorNow_15 (by decide) ?_
      have qo := qu.2.2.2 (by omega)
      have hou := qu.2.2.1
      have h5u : f 5 (hf 6 k0) = 1 := by rw [qo.1]; exact qo.2.2.2.2.1
      have wu := hM.wh hC hou h5u
      have e6 : f 4 (hf 6 k0) = f 4 (f 6 k0) := by rw [qo.1]
      refine r_aload_n C dX4_cursorNow_16 rfl ?_
      refine m_get (v := .ref (ba 6)) C 6 (by decide) qf_X4_35 rfl rfl dX4_cursorNow_17 ?_
      refine r_iload_n C dX4_cursorNow_20 rfl ?_
      refine m_ald (i := k0) (z := k0) (v := hf 6 k0) C 5 (by decide) (by decide) (show k0 < 3 from (by first | omega | (simp [up2, *]; done) | (simp [up2, *]; omega) | (simp only [up2_eq]; omega) | (split <;> omega))) (show 0 + k0 = k0 from (by omega)) rfl dX4_cursorNow_21 ?_
      refine x_ast C (i := 0) (f := fun _ => 0) (E' := [(b_2, .inl (cy 1, 5, .inl (upd (fun _ => 0) 0 (nI (hf 6 k0)))))]) 0 rfl (by first | omega | (simp [up2, *]; done) | (simp [up2, *]; omega) | (simp only [up2_eq]; omega) | (split <;> omega)) (by first | omega | (simp [up2, *]; done) | (simp [up2, *]; omega) | (simp only [up2_eq]; omega) | (split <;> omega)) rfl dX4_cursorNow_22 ?_
      refine r_dup C dX4_cursorNow_23 rfl ?_
      refine r_iconst (v := (nI 1)) C dX4_cursorNow_24 (by decide) ?_
      refine r_aload_n C dX4_cursorNow_25 rfl ?_
      refine m_get (v := .ref (ba 7)) C 7 (by decide) qf_X4_38 rfl rfl dX4_cursorNow_26 ?_
      refine r_iload_n C dX4_cursorNow_29 rfl ?_
      refine m_ald (i := k0) (z := k0) (v := hf 7 k0) C 6 (by decide) (by decide) (show k0 < 3 from (by first | omega | (simp [up2, *]; done) | (simp [up2, *]; omega) | (simp only [up2_eq]; omega) | (split <;> omega))) (show 0 + k0 = k0 from (by omega)) rfl dX4_cursorNow_30 ?_
      refine x_ast C (i := 1) (f := upd (fun _ => 0) 0 (nI (hf 6 k0))) (E' := [(b_2, .inl (cy 1, 5, .inl (upd (upd (fun _ => 0) 0 (nI (hf 6 k0))) 1 (nI (hf 7 k0)))))]) 0 rfl (by first | omega | (simp [up2, *]; done) | (simp [up2, *]; omega) | (simp only [up2_eq]; omega) | (split <;> omega)) (by first | omega | (simp [up2, *]; done) | (simp [up2, *]; omega) | (simp only [up2_eq]; omega) | (split <;> omega)) rfl dX4_cursorNow_31 ?_
      refine r_dup C dX4_cursorNow_32 rfl ?_
      refine r_iconst (v := (nI 2)) C dX4_cursorNow_33 (by decide) ?_
      refine r_aload_n C dX4_cursorNow_34 rfl ?_
      refine m_get (v := .ref (ba 7)) C 7 (by decide) qf_X4_38 rfl rfl dX4_cursorNow_35 ?_
      refine r_iload_n C dX4_cursorNow_38 rfl ?_
      refine m_ald (i := k0) (z := k0) (v := hf 7 k0) C 6 (by decide) (by decide) (show k0 < 3 from (by first | omega | (simp [up2, *]; done) | (simp [up2, *]; omega) | (simp only [up2_eq]; omega) | (split <;> omega))) (show 0 + k0 = k0 from (by omega)) rfl dX4_cursorNow_39 ?_
      refine r_iconst (v := (nI 1)) C dX4_cursorNow_40 (by decide) ?_
      refine r_isub C dX4_cursorNow_41 ?_
      refine x_ast C (i := 2) (f := upd (upd (fun _ => 0) 0 (nI (hf 6 k0))) 1 (nI (hf 7 k0))) (E' := [(b_2, .inl (cy 1, 5, .inl (upd (upd (upd (fun _ => 0) 0 (nI (hf 6 k0))) 1 (nI (hf 7 k0))) 2 ((nI (hf 7 k0)) - (nI 1)))))]) 0 rfl (by first | omega | (simp [up2, *]; done) | (simp [up2, *]; omega) | (simp only [up2_eq]; omega) | (split <;> omega)) (by first | omega | (simp [up2, *]; done) | (simp [up2, *]; omega) | (simp only [up2_eq]; omega) | (split <;> omega)) rfl dX4_cursorNow_42 ?_
      refine r_dup C dX4_cursorNow_43 rfl ?_
      refine r_iconst (v := (nI 3)) C dX4_cursorNow_44 (by decide) ?_
      refine r_aload_n C dX4_cursorNow_45 rfl ?_
      refine m_get (v := .ref (ba 7)) C 7 (by decide) qf_X4_38 rfl rfl dX4_cursorNow_46 ?_
      refine r_iload_n C dX4_cursorNow_49 rfl ?_
      refine m_ald (i := k0) (z := k0) (v := hf 7 k0) C 6 (by decide) (by decide) (show k0 < 3 from (by first | omega | (simp [up2, *]; done) | (simp [up2, *]; omega) | (simp only [up2_eq]; omega) | (split <;> omega))) (show 0 + k0 = k0 from (by omega)) rfl dX4_cursorNow_50 ?_
      refine r_aload_n C dX4_cursorNow_51 rfl ?_
      refine r_aload_n C dX4_cursorNow_52 rfl ?_
      refine m_get (v := .ref (ba 6)) C 6 (by decide) qf_X4_35 rfl rfl dX4_cursorNow_53 ?_
      refine r_iload_n C dX4_cursorNow_56 rfl ?_
      refine m_ald (i := k0) (z := k0) (v := hf 6 k0) C 5 (by decide) (by decide) (show k0 < 3 from (by first | omega | (simp [up2, *]; done) | (simp [up2, *]; omega) | (simp only [up2_eq]; omega) | (split <;> omega))) (show 0 + k0 = k0 from (by omega)) rfl dX4_cursorNow_57 ?_
      refine d_V (st := [.int (nI (hf 7 k0)), .int (nI 3), .ref b_2, .ref b_2]) hX.1.stb C hE (D_sizeOf (ba := ba) (ra := ra) (hf := hf) (hq := hq) (kn := kn) (th := th) (sm := sm) (w := (hf 6 k0)) hX hou) pk_X4_sizeOf qm_X4_59 0 8 rfl rfl wm_0 rfl rfl (Nat.le_of_ble_eq_true rfl) dX4_cursorNow_58 ⟨(Nat.le_of_ble_eq_true rfl), (Nat.le_of_ble_eq_true rfl)⟩ ⟨(Nat.le_of_ble_eq_true rfl), (Nat.le_of_ble_eq_true rfl)⟩ ?_
      refine r_w (w' := WM cy ba ra hf hq kn th sm ++ (Y ++ [(b_2, .inl (cy 1, 5, .inl (upd (upd (upd (fun _ => 0) 0 (nI (hf 6 k0))) 1 (nI (hf 7 k0))) 2 ((nI (hf 7 k0)) - (nI 1)))))])) rfl ?_
      refine r_icN_ge (a := (hf 7 k0)) (b := (hf 4 (hf 6 k0))) (tgt := 68) C (by first | omega | (simp [up2, *]; done) | (simp [up2, *]; omega) | (simp only [up2_eq]; omega) | (split <;> omega)) (by first | omega | (simp [up2, *]; done) | (simp [up2, *]; omega) | (simp only [up2_eq]; omega) | (split <;> omega)) dX4_cursorNow_61 (by decide) (fun h61_3 => ?_) (fun h61_3 => ?_)
      · first
        | exfalso; first | omega | contradiction
        | skip
          refine r_iconst (v := (nI 0)) C dX4_cursorNow_68 (by decide) ?_
          refine d_S (st := [.int (nI 3), .ref b_2, .ref b_2]) hX.1.stb C hE (D_one (ba := ba) (ra := ra) (hf := hf) (hq := hq) (kn := kn) (th := th) (sm := sm) (b0 := 0) hX (by first | omega | (simp [up2, *]; done) | (simp [up2, *]; omega) | (simp only [up2_eq]; omega) | (split <;> omega))) pk_X4_one qm_X4_136 rfl rfl (Nat.le_of_ble_eq_true rfl) dX4_cursorNow_69 ⟨(Nat.le_of_ble_eq_true rfl), (Nat.le_of_ble_eq_true rfl)⟩ ⟨(Nat.le_of_ble_eq_true rfl), (Nat.le_of_ble_eq_true rfl)⟩ ?_
          refine r_w (w' := WM cy ba ra hf hq kn th sm ++ (Y ++ [(b_2, .inl (cy 1, 5, .inl (upd (upd (upd (fun _ => 0) 0 (nI (hf 6 k0))) 1 (nI (hf 7 k0))) 2 ((nI (hf 7 k0)) - (nI 1)))))])) rfl ?_
          refine x_ast C (i := 3) (f := upd (upd (upd (fun _ => 0) 0 (nI (hf 6 k0))) 1 (nI (hf 7 k0))) 2 ((nI (hf 7 k0)) - (nI 1))) (E' := [(b_2, .inl (cy 1, 5, .inl (upd (upd (upd (upd (fun _ => 0) 0 (nI (hf 6 k0))) 1 (nI (hf 7 k0))) 2 ((nI (hf 7 k0)) - (nI 1))) 3 (nI 0))))]) 0 rfl (by first | omega | (simp [up2, *]; done) | (simp [up2, *]; omega) | (simp only [up2_eq]; omega) | (split <;> omega)) (by first | omega | (simp [up2, *]; done) | (simp [up2, *]; omega) | (simp only [up2_eq]; omega) | (split <;> omega)) rfl dX4_cursorNow_72 ?_
          refine r_dup C dX4_cursorNow_73 rfl ?_
          refine r_iconst (v := (nI 4)) C dX4_cursorNow_74 (by decide) ?_
          refine r_aload_n C dX4_cursorNow_75 rfl ?_
          refine m_get (v := .ref (ba 7)) C 7 (by decide) qf_X4_38 rfl rfl dX4_cursorNow_76 ?_
          refine r_iload_n C dX4_cursorNow_79 rfl ?_
          refine m_ald (i := k0) (z := k0) (v := hf 7 k0) C 6 (by decide) (by decide) (show k0 < 3 from (by first | omega | (simp [up2, *]; done) | (simp [up2, *]; omega) | (simp only [up2_eq]; omega) | (split <;> omega))) (show 0 + k0 = k0 from (by omega)) rfl dX4_cursorNow_80 ?_
          refine r_ifN_le (a := (hf 7 k0)) (tgt := 88) C (by first | omega | (simp [up2, *]; done) | (simp [up2, *]; omega) | (simp only [up2_eq]; omega) | (split <;> omega)) dX4_cursorNow_81 (by decide) (fun h81_4 => ?_) (fun h81_4 => ?_)
          · first
            | exfalso; first | omega | contradiction
            | skip
              refine r_iconst (v := (nI 0)) C dX4_cursorNow_88 (by decide) ?_
              refine d_S (st := [.int (nI 4), .ref b_2, .ref b_2]) hX.1.stb C hE (D_one (ba := ba) (ra := ra) (hf := hf) (hq := hq) (kn := kn) (th := th) (sm := sm) (b0 := 0) hX (by first | omega | (simp [up2, *]; done) | (simp [up2, *]; omega) | (simp only [up2_eq]; omega) | (split <;> omega))) pk_X4_one qm_X4_136 rfl rfl (Nat.le_of_ble_eq_true rfl) dX4_cursorNow_89 ⟨(Nat.le_of_ble_eq_true rfl), (Nat.le_of_ble_eq_true rfl)⟩ ⟨(Nat.le_of_ble_eq_true rfl), (Nat.le_of_ble_eq_true rfl)⟩ ?_
              refine r_w (w' := WM cy ba ra hf hq kn th sm ++ (Y ++ [(b_2, .inl (cy 1, 5, .inl (upd (upd (upd (upd (fun _ => 0) 0 (nI (hf 6 k0))) 1 (nI (hf 7 k0))) 2 ((nI (hf 7 k0)) - (nI 1))) 3 (nI 0))))])) rfl ?_
              refine x_ast C (i := 4) (f := upd (upd (upd (upd (fun _ => 0) 0 (nI (hf 6 k0))) 1 (nI (hf 7 k0))) 2 ((nI (hf 7 k0)) - (nI 1))) 3 (nI 0)) (E' := [(b_2, .inl (cy 1, 5, .inl (upd (upd (upd (upd (upd (fun _ => 0) 0 (nI (hf 6 k0))) 1 (nI (hf 7 k0))) 2 ((nI (hf 7 k0)) - (nI 1))) 3 (nI 0)) 4 (nI 0))))]) 0 rfl (by first | omega | (simp [up2, *]; done) | (simp [up2, *]; omega) | (simp only [up2_eq]; omega) | (split <;> omega)) (by first | omega | (simp [up2, *]; done) | (simp [up2, *]; omega) | (simp only [up2_eq]; omega) | (split <;> omega)) rfl dX4_cursorNow_92 ?_
              refine r_astore_n C dX4_cursorNow_93 (by decide) rfl ?_
              refine r_aload_n C dX4_cursorNow_94 rfl ?_
              refine r_iload_n C dX4_cursorNow_95 rfl ?_
              refine x_ald C (i := 1) (f := upd (upd (upd (upd (upd (fun _ => 0) 0 (nI (hf 6 k0))) 1 (nI (hf 7 k0))) 2 ((nI (hf 7 k0)) - (nI 1))) 3 (nI 0)) 4 (nI 0)) 0 rfl (by first | omega | (simp [up2, *]; done) | (simp [up2, *]; omega) | (simp only [up2_eq]; omega) | (split <;> omega)) (by first | omega | (simp [up2, *]; done) | (simp [up2, *]; omega) | (simp only [up2_eq]; omega) | (split <;> omega)) dX4_cursorNow_96 ?_
              refine r_eqi (show (upd (upd (upd (upd (upd (fun _ => 0) 0 (nI (hf 6 k0))) 1 (nI (hf 7 k0))) 2 ((nI (hf 7 k0)) - (nI 1))) 3 (nI 0)) 4 (nI 0)) 1 = (nI (hf 7 k0)) from rfl) ?_
              refine r_pre ?_
              exact r_iret C hr dX4_cursorNow_97 ⟨by unfold cqM; rw [if_neg (by omega), if_neg (by decide), if_pos rfl], rfl⟩ (Nat.le_of_ble_eq_true rfl) (Nat.le_of_ble_eq_true rfl)
          · first
            | exfalso; first | omega | contradiction
            | skip
              refine r_iconst (v := (nI 1)) C dX4_cursorNow_84 (by decide) ?_
              refine r_goto (tgt := 89) C dX4_cursorNow_85 (by decide) ?_
              refine d_S (st := [.int (nI 4), .ref b_2, .ref b_2]) hX.1.stb C hE (D_one (ba := ba) (ra := ra) (hf := hf) (hq := hq) (kn := kn) (th := th) (sm := sm) (b0 := 1) hX (by first | omega | (simp [up2, *]; done) | (simp [up2, *]; omega) | (simp only [up2_eq]; omega) | (split <;> omega))) pk_X4_one qm_X4_136 rfl rfl (Nat.le_of_ble_eq_true rfl) dX4_cursorNow_89 ⟨(Nat.le_of_ble_eq_true rfl), (Nat.le_of_ble_eq_true rfl)⟩ ⟨(Nat.le_of_ble_eq_true rfl), (Nat.le_of_ble_eq_true rfl)⟩ ?_
              refine r_w (w' := WM cy ba ra hf hq kn th sm ++ (Y ++ [(b_2, .inl (cy 1, 5, .inl (upd (upd (upd (upd (fun _ => 0) 0 (nI (hf 6 k0))) 1 (nI (hf 7 k0))) 2 ((nI (hf 7 k0)) - (nI 1))) 3 (nI 0))))])) rfl ?_
              refine x_ast C (i := 4) (f := upd (upd (upd (upd (fun _ => 0) 0 (nI (hf 6 k0))) 1 (nI (hf 7 k0))) 2 ((nI (hf 7 k0)) - (nI 1))) 3 (nI 0)) (E' := [(b_2, .inl (cy 1, 5, .inl (upd (upd (upd (upd (upd (fun _ => 0) 0 (nI (hf 6 k0))) 1 (nI (hf 7 k0))) 2 ((nI (hf 7 k0)) - (nI 1))) 3 (nI 0)) 4 (nI 1))))]) 0 rfl (by first | omega | (simp [up2, *]; done) | (simp [up2, *]; omega) | (simp only [up2_eq]; omega) | (split <;> omega)) (by first | omega | (simp [up2, *]; done) | (simp [up2, *]; omega) | (simp only [up2_eq]; omega) | (split <;> omega)) rfl dX4_cursorNow_92 ?_
              refine r_astore_n C dX4_cursorNow_93 (by decide) rfl ?_
              refine r_aload_n C dX4_cursorNow_94 rfl ?_
              refine r_iload_n C dX4_cursorNow_95 rfl ?_
              refine x_ald C (i := 1) (f := upd (upd (upd (upd (upd (fun _ => 0) 0 (nI (hf 6 k0))) 1 (nI (hf 7 k0))) 2 ((nI (hf 7 k0)) - (nI 1))) 3 (nI 0)) 4 (nI 1)) 0 rfl (by first | omega | (simp [up2, *]; done) | (simp [up2, *]; omega) | (simp only [up2_eq]; omega) | (split <;> omega)) (by first | omega | (simp [up2, *]; done) | (simp [up2, *]; omega) | (simp only [up2_eq]; omega) | (split <;> omega)) dX4_cursorNow_96 ?_
              refine r_eqi (show (upd (upd (upd (upd (upd (fun _ => 0) 0 (nI (hf 6 k0))) 1 (nI (hf 7 k0))) 2 ((nI (hf 7 k0)) - (nI 1))) 3 (nI 0)) 4 (nI 1)) 1 = (nI (hf 7 k0)) from rfl) ?_
              refine r_pre ?_
              exact r_iret C hr dX4_cursorNow_97 ⟨by unfold cqM; rw [if_neg (by omega), if_neg (by decide), if_pos rfl], rfl⟩ (Nat.le_of_ble_eq_true rfl) (Nat.le_of_ble_eq_true rfl)
      · first
        | exfalso; first | omega | contradiction
        | skip
          refine r_iconst (v := (nI 1)) C dX4_cursorNow_64 (by decide) ?_
          refine r_goto (tgt := 69) C dX4_cursorNow_65 (by decide) ?_
          refine d_S (st := [.int (nI 3), .ref b_2, .ref b_2]) hX.1.stb C hE (D_one (ba := ba) (ra := ra) (hf := hf) (hq := hq) (kn := kn) (th := th) (sm := sm) (b0 := 1) hX (by first | omega | (simp [up2, *]; done) | (simp [up2, *]; omega) | (simp only [up2_eq]; omega) | (split <;> omega))) pk_X4_one qm_X4_136 rfl rfl (Nat.le_of_ble_eq_true rfl) dX4_cursorNow_69 ⟨(Nat.le_of_ble_eq_true rfl), (Nat.le_of_ble_eq_true rfl)⟩ ⟨(Nat.le_of_ble_eq_true rfl), (Nat.le_of_ble_eq_true rfl)⟩ ?_
          refine r_w (w' := WM cy ba ra hf hq kn th sm ++ (Y ++ [(b_2, .inl (cy 1, 5, .inl (upd (upd (upd (fun _ => 0) 0 (nI (hf 6 k0))) 1 (nI (hf 7 k0))) 2 ((nI (hf 7 k0)) - (nI 1)))))])) rfl ?_
          refine x_ast C (i := 3) (f := upd (upd (upd (fun _ => 0) 0 (nI (hf 6 k0))) 1 (nI (hf 7 k0))) 2 ((nI (hf 7 k0)) - (nI 1))) (E' := [(b_2, .inl (cy 1, 5, .inl (upd (upd (upd (upd (fun _ => 0) 0 (nI (hf 6 k0))) 1 (nI (hf 7 k0))) 2 ((nI (hf 7 k0)) - (nI 1))) 3 (nI 1))))]) 0 rfl (by first | omega | (simp [up2, *]; done) | (simp [up2, *]; omega) | (simp only [up2_eq]; omega) | (split <;> omega)) (by first | omega | (simp [up2, *]; done) | (simp [up2, *]; omega) | (simp only [up2_eq]; omega) | (split <;> omega)) rfl dX4_cursorNow_72 ?_
          refine r_dup C dX4_cursorNow_73 rfl ?_
          refine r_iconst (v := (nI 4)) C dX4_cursorNow_74 (by decide) ?_
          refine r_aload_n C dX4_cursorNow_75 rfl ?_
          refine m_get (v := .ref (ba 7)) C 7 (by decide) qf_X4_38 rfl rfl dX4_cursorNow_76 ?_
          refine r_iload_n C dX4_cursorNow_79 rfl ?_
          refine m_ald (i := k0) (z := k0) (v := hf 7 k0) C 6 (by decide) (by decide) (show k0 < 3 from (by first | omega | (simp [up2, *]; done) | (simp [up2, *]; omega) | (simp only [up2_eq]; omega) | (split <;> omega))) (show 0 + k0 = k0 from (by omega)) rfl dX4_cursorNow_80 ?_
          refine r_ifN_le (a := (hf 7 k0)) (tgt := 88) C (by first | omega | (simp [up2, *]; done) | (simp [up2, *]; omega) | (simp only [up2_eq]; omega) | (split <;> omega)) dX4_cursorNow_81 (by decide) (fun h81_5 => ?_) (fun h81_5 => ?_)
          · first
            | exfalso; first | omega | contradiction
            | skip
              refine r_iconst (v := (nI 0)) C dX4_cursorNow_88 (by decide) ?_
              refine d_S (st := [.int (nI 4), .ref b_2, .ref b_2]) hX.1.stb C hE (D_one (ba := ba) (ra := ra) (hf := hf) (hq := hq) (kn := kn) (th := th) (sm := sm) (b0 := 0) hX (by first | omega | (simp [up2, *]; done) | (simp [up2, *]; omega) | (simp only [up2_eq]; omega) | (split <;> omega))) pk_X4_one qm_X4_136 rfl rfl (Nat.le_of_ble_eq_true rfl) dX4_cursorNow_89 ⟨(Nat.le_of_ble_eq_true rfl), (Nat.le_of_ble_eq_true rfl)⟩ ⟨(Nat.le_of_ble_eq_true rfl), (Nat.le_of_ble_eq_true rfl)⟩ ?_
              refine r_w (w' := WM cy ba ra hf hq kn th sm ++ (Y ++ [(b_2, .inl (cy 1, 5, .inl (upd (upd (upd (upd (fun _ => 0) 0 (nI (hf 6 k0))) 1 (nI (hf 7 k0))) 2 ((nI (hf 7 k0)) - (nI 1))) 3 (nI 1))))])) rfl ?_
              refine x_ast C (i := 4) (f := upd (upd (upd (upd (fun _ => 0) 0 (nI (hf 6 k0))) 1 (nI (hf 7 k0))) 2 ((nI (hf 7 k0)) - (nI 1))) 3 (nI 1)) (E' := [(b_2, .inl (cy 1, 5, .inl (upd (upd (upd (upd (upd (fun _ => 0) 0 (nI (hf 6 k0))) 1 (nI (hf 7 k0))) 2 ((nI (hf 7 k0)) - (nI 1))) 3 (nI 1)) 4 (nI 0))))]) 0 rfl (by first | omega | (simp [up2, *]; done) | (simp [up2, *]; omega) | (simp only [up2_eq]; omega) | (split <;> omega)) (by first | omega | (simp [up2, *]; done) | (simp [up2, *]; omega) | (simp only [up2_eq]; omega) | (split <;> omega)) rfl dX4_cursorNow_92 ?_
              refine r_astore_n C dX4_cursorNow_93 (by decide) rfl ?_
              refine r_aload_n C dX4_cursorNow_94 rfl ?_
              refine r_iload_n C dX4_cursorNow_95 rfl ?_
              refine x_ald C (i := 1) (f := upd (upd (upd (upd (upd (fun _ => 0) 0 (nI (hf 6 k0))) 1 (nI (hf 7 k0))) 2 ((nI (hf 7 k0)) - (nI 1))) 3 (nI 1)) 4 (nI 0)) 0 rfl (by first | omega | (simp [up2, *]; done) | (simp [up2, *]; omega) | (simp only [up2_eq]; omega) | (split <;> omega)) (by first | omega | (simp [up2, *]; done) | (simp [up2, *]; omega) | (simp only [up2_eq]; omega) | (split <;> omega)) dX4_cursorNow_96 ?_
              refine r_eqi (show (upd (upd (upd (upd (upd (fun _ => 0) 0 (nI (hf 6 k0))) 1 (nI (hf 7 k0))) 2 ((nI (hf 7 k0)) - (nI 1))) 3 (nI 1)) 4 (nI 0)) 1 = (nI (hf 7 k0)) from rfl) ?_
              refine r_pre ?_
              exact r_iret C hr dX4_cursorNow_97 ⟨by unfold cqM; rw [if_neg (by omega), if_neg (by decide), if_pos rfl], rfl⟩ (Nat.le_of_ble_eq_true rfl) (Nat.le_of_ble_eq_true rfl)
          · first
            | exfalso; first | omega | contradiction
            | skip
              refine r_iconst (v := (nI 1)) C dX4_cursorNow_84 (by decide) ?_
              refine r_goto (tgt := 89) C dX4_cursorNow_85 (by decide) ?_
              refine d_S (st := [.int (nI 4), .ref b_2, .ref b_2]) hX.1.stb C hE (D_one (ba := ba) (ra := ra) (hf := hf) (hq := hq) (kn := kn) (th := th) (sm := sm) (b0 := 1) hX (by first | omega | (simp [up2, *]; done) | (simp [up2, *]; omega) | (simp only [up2_eq]; omega) | (split <;> omega))) pk_X4_one qm_X4_136 rfl rfl (Nat.le_of_ble_eq_true rfl) dX4_cursorNow_89 ⟨(Nat.le_of_ble_eq_true rfl), (Nat.le_of_ble_eq_true rfl)⟩ ⟨(Nat.le_of_ble_eq_true rfl), (Nat.le_of_ble_eq_true rfl)⟩ ?_
              refine r_w (w' := WM cy ba ra hf hq kn th sm ++ (Y ++ [(b_2, .inl (cy 1, 5, .inl (upd (upd (upd (upd (fun _ => 0) 0 (nI (hf 6 k0))) 1 (nI (hf 7 k0))) 2 ((nI (hf 7 k0)) - (nI 1))) 3 (nI 1))))])) rfl ?_
              refine x_ast C (i := 4) (f := upd (upd (upd (upd (fun _ => 0) 0 (nI (hf 6 k0))) 1 (nI (hf 7 k0))) 2 ((nI (hf 7 k0)) - (nI 1))) 3 (nI 1)) (E' := [(b_2, .inl (cy 1, 5, .inl (upd (upd (upd (upd (upd (fun _ => 0) 0 (nI (hf 6 k0))) 1 (nI (hf 7 k0))) 2 ((nI (hf 7 k0)) - (nI 1))) 3 (nI 1)) 4 (nI 1))))]) 0 rfl (by first | omega | (simp [up2, *]; done) | (simp [up2, *]; omega) | (simp only [up2_eq]; omega) | (split <;> omega)) (by first | omega | (simp [up2, *]; done) | (simp [up2, *]; omega) | (simp only [up2_eq]; omega) | (split <;> omega)) rfl dX4_cursorNow_92 ?_
              refine r_astore_n C dX4_cursorNow_93 (by decide) rfl ?_
              refine r_aload_n C dX4_cursorNow_94 rfl ?_
              refine r_iload_n C dX4_cursorNow_95 rfl ?_
              refine x_ald C (i := 1) (f := upd (upd (upd (upd (upd (fun _ => 0) 0 (nI (hf 6 k0))) 1 (nI (hf 7 k0))) 2 ((nI (hf 7 k0)) - (nI 1))) 3 (nI 1)) 4 (nI 1)) 0 rfl (by first | omega | (simp [up2, *]; done) | (simp [up2, *]; omega) | (simp only [up2_eq]; omega) | (split <;> omega)) (by first | omega | (simp [up2, *]; done) | (simp [up2, *]; omega) | (simp only [up2_eq]; omega) | (split <;> omega)) dX4_cursorNow_96 ?_
              refine r_eqi (show (upd (upd (upd (upd (upd (fun _ => 0) 0 (nI (hf 6 k0))) 1 (nI (hf 7 k0))) 2 ((nI (hf 7 k0)) - (nI 1))) 3 (nI 1)) 4 (nI 1)) 1 = (nI (hf 7 k0)) from rfl) ?_
              refine r_pre ?_
              exact r_iret C hr dX4_cursorNow_97 ⟨by unfold cqM; rw [if_neg (by omega), if_neg (by decide), if_pos rfl], rfl⟩ (Nat.le_of_ble_eq_true rfl) (Nat.le_of_ble_eq_true rfl)
  · first
    | exfalso; first | omega | contradiction
    | skip
      refine r_iconst (v := (nI 4294967295)) C dX4_cursorNow_9 (by decide) ?_
      exact r_iret C hr dX4_cursorNow_10 ⟨by unfold cqM; rw [if_pos (by omega)], rfl⟩ (Nat.le_of_ble_eq_true rfl) (Nat.le_of_ble_eq_true rfl)
set_option maxRecDepth 100000 in
set_option maxHeartbeats 4000000 in
theorem D_cursorNow_2 {l : Launch} {D : va_G} {cy : Nat → ClassId} {X : (Nat → Prop) → State → Heap → Prop} {ba ra : Nat → Nat} {hf : Nat → Nat → Nat} {hq : Nat → Nat → Int32} {kn th : Int32} {sm : Int64} {Y : va_W} {f : Nat → Nat → Nat} {r : Nat → Nat → Int32} {k0 : Nat} (hX : EnvM X cy) (hC : CInv f) (hM : MR f r hf hq) (hk3 : k0 < 3) : Cd l D cy X yX4_cursorNow cX4_cursorNow 4 (some .int) (rmk 1 1 5 40) [.ref (ba 9), .int (nI k0), .int (nI 2)] (WM cy ba ra hf hq kn th sm ++ Y) (some (.int (cqM hf k0 2))) (WM cy ba ra hf hq kn th sm ++ Y) := by
  have hG := hM.1
  have h5M := hM.h5M hC
  have h4M := hC.h4M
  have h9a := hM.h9a hC
  have h6a := hM.h6a
  have hU := hM.hU hC
  have qu := hM.cu hC hk3
  refine Cm.of [some (.ref (ba 9)), some (.int (nI k0)), some (.int (nI 2)), none] pn_X4 rfl (Nat.le_of_ble_eq_true rfl) ?_
  intro p e s m args below meth c A C hE hr hnt hn
  refine r_aload_n C dX4_cursorNow_0 rfl ?_
  refine m_get (v := .ref (ba 5)) C 5 (by decide) qf_X4_32 rfl rfl dX4_cursorNow_1 ?_
  refine r_iload_n C dX4_cursorNow_4 rfl ?_
  refine m_zld (i := k0) (z := k0) (v := hf 9 k0) C 4 (by decide) (by decide) (show k0 < 3 from (by first | omega | (simp [up2, *]; done) | (simp [up2, *]; omega) | (simp only [up2_eq]; omega) | (split <;> omega))) (show 0 + k0 = k0 from (by omega)) rfl dX4_cursorNow_5 ?_
  refine r_ifN_ne (a := (hf 9 k0)) (tgt := 11) C (by omega) dX4_cursorNow_6 (by decide) (fun h6_1 => ?_) (fun h6_1 => ?_)
  · first
    | exfalso; first | omega | contradiction
    | skip
      refine r_iconst (v := (nI 5)) C dX4_cursorNow_11 (by decide) ?_
      refine r_newT C .int .int 1 rfl (by simp) qa_int (n := 5) (show 5 < 1000000 from Nat.lt_of_le_of_lt (show 5 ≤ 5 from (Nat.le_refl _)) (by decide)) (1) (5) (Nat.le_of_ble_eq_true rfl) (Nat.add_le_add (Nat.le_refl _) (show 5 ≤ 5 from (Nat.le_refl _))) (Nat.le_of_ble_eq_true rfl) (Nat.le_of_ble_eq_true rfl) dX4_cursorNow_12 (fun b_2 => ?_)
      refine r_w (w' := WM cy ba ra hf hq kn th sm ++ (Y ++ [(b_2, .inl (cy 1, 5, .inl (fun _ => 0)))])) (by simp only [List.append_assoc, List.cons_append, List.nil_append]) ?_
      refine r_dup C dX4_cursorNow_14 rfl ?_
      refine r_iconst (v := (nI 0)) C dX4_cursorNow_15 (by decide) ?_
      have qo := qu.2.2.2 (by omega)
      have hou := qu.2.2.1
      have h5u : f 5 (hf 6 k0) = 1 := by rw [qo.1]; exact qo.2.2.2.2.1
      have wu := hM.wh hC hou h5u
      have e6 : f 4 (hf 6 k0) = f 4 (f 6 k0) := by rw [qo.1]
      refine r_aload_n C dX4_cursorNow_16 rfl ?_
      refine m_get (v := .ref (ba 6)) C 6 (by decide) qf_X4_35 rfl rfl dX4_cursorNow_17 ?_
      refine r_iload_n C dX4_cursorNow_20 rfl ?_
      refine m_ald (i := k0) (z := k0) (v := hf 6 k0) C 5 (by decide) (by decide) (show k0 < 3 from (by first | omega | (simp [up2, *]; done) | (simp [up2, *]; omega) | (simp only [up2_eq]; omega) | (split <;> omega))) (show 0 + k0 = k0 from (by omega)) rfl dX4_cursorNow_21 ?_
      refine x_ast C (i := 0) (f := fun _ => 0) (E' := [(b_2, .inl (cy 1, 5, .inl (upd (fun _ => 0) 0 (nI (hf 6 k0)))))]) 0 rfl (by first | omega | (simp [up2, *]; done) | (simp [up2, *]; omega) | (simp only [up2_eq]; omega) | (split <;> omega)) (by first | omega | (simp [up2, *]; done) | (simp [up2, *]; omega) | (simp only [up2_eq]; omega) | (split <;> omega)) rfl dX4_cursorNow_22 ?_
      refine r_dup C dX4_cursorNow_23 rfl ?_
      refine r_iconst (v := (nI 1)) C dX4_cursorNow_24 (by decide) ?_
      refine r_aload_n C dX4_cursorNow_25 rfl ?_
      refine m_get (v := .ref (ba 7)) C 7 (by decide) qf_X4_38 rfl rfl dX4_cursorNow_26 ?_
      refine r_iload_n C dX4_cursorNow_29 rfl ?_
      refine m_ald (i := k0) (z := k0) (v := hf 7 k0) C 6 (by decide) (by decide) (show k0 < 3 from (by first | omega | (simp [up2, *]; done) | (simp [up2, *]; omega) | (simp only [up2_eq]; omega) | (split <;> omega))) (show 0 + k0 = k0 from (by omega)) rfl dX4_cursorNow_30 ?_
      refine x_ast C (i := 1) (f := upd (fun _ => 0) 0 (nI (hf 6 k0))) (E' := [(b_2, .inl (cy 1, 5, .inl (upd (upd (fun _ => 0) 0 (nI (hf 6 k0))) 1 (nI (hf 7 k0)))))]) 0 rfl (by first | omega | (simp [up2, *]; done) | (simp [up2, *]; omega) | (simp only [up2_eq]; omega) | (split <;> omega)) (by first | omega | (simp [up2, *]; done) | (simp [up2, *]; omega) | (simp only [up2_eq]; omega) | (split <;> omega)) rfl dX4_cursorNow_31 ?_
      refine r_dup C dX4_cursorNow_32 rfl ?_
      refine r_iconst (v := (nI 2)) C dX4_cursorNow_33 (by decide) ?_
      refine r_aload_n C dX4_cursorNow_34 rfl ?_
      refine m_get (v := .ref (ba 7)) C 7 (by decide) qf_X4_38 rfl rfl dX4_cursorNow_35 ?_
      refine r_iload_n C dX4_cursorNow_38 rfl ?_
      refine m_ald (i := k0) (z := k0) (v := hf 7 k0) C 6 (by decide) (by decide) (show k0 < 3 from (by first | omega | (simp [up2, *]; done) | (simp [up2, *]; omega) | (simp only [up2_eq]; omega) | (split <;> omega))) (show 0 + k0 = k0 from (by omega)) rfl dX4_cursorNow_39 ?_
      refine r_iconst (v := (nI 1)) C dX4_cursorNow_40 (by decide) ?_
      refine r_isub C dX4_cursorNow_41 ?_
      refine x_ast C (i := 2) (f := upd (upd (fun _ => 0) 0 (nI (hf 6 k0))) 1 (nI (hf 7 k0))) (E' := [(b_2, .inl (cy 1, 5, .inl (upd (upd (upd (fun _ => 0) 0 (nI (hf 6 k0))) 1 (nI (hf 7 k0))) 2 ((nI (hf 7 k0)) - (nI 1)))))]) 0 rfl (by first | omega | (simp [up2, *]; done) | (simp [up2, *]; omega) | (simp only [up2_eq]; omega) | (split <;> omega)) (by first | omega | (simp [up2, *]; done) | (simp [up2, *]; omega) | (simp only [up2_eq]; omega) | (split <;> omega)) rfl dX4_cursorNow_42 ?_
      refine r_dup C dX4_cursorNow_43 rfl ?_
      refine r_iconst (v := (nI 3)) C dX4_cursorNow_44 (by decide) ?_
      refine r_aload_n C dX4_cursorNow_45 rfl ?_
      refine m_get (v := .ref (ba 7)) C 7 (by decide) qf_X4_38 rfl rfl dX4_cursorNow_46 ?_
      refine r_iload_n C dX4_cursorNow_49 rfl ?_
      refine m_ald (i := k0) (z := k0) (v := hf 7 k0) C 6 (by decide) (by decide) (show k0 < 3 from (by first | omega | (simp [up2, *]; done) | (simp [up2, *]; omega) | (simp only [up2_eq]; omega) | (split <;> omega))) (show 0 + k0 = k0 from (by omega)) rfl dX4_cursorNow_50 ?_
      refine r_aload_n C dX4_cursorNow_51 rfl ?_
      refine r_aload_n C dX4_cursorNow_52 rfl ?_
      refine m_get (v := .ref (ba 6)) C 6 (by decide) qf_X4_35 rfl rfl dX4_cursorNow_53 ?_
      refine r_iload_n C dX4_cursorNow_56 rfl ?_
      refine m_ald (i := k0) (z := k0) (v := hf 6 k0) C 5 (by decide) (by decide) (show k0 < 3 from (by first | omega | (simp [up2, *]; done) | (simp [up2, *]; omega) | (simp only [up2_eq]; omega) | (split <;> omega))) (show 0 + k0 = k0 from (by omega)) rfl dX4_cursorNow_57 ?_
      refine d_V (st := [.int (nI (hf 7 k0)), .int (nI 3), .ref b_2, .ref b_2]) hX.1.stb C hE (D_sizeOf (ba := ba) (ra := ra) (hf := hf) (hq := hq) (kn := kn) (th := th) (sm := sm) (w := (hf 6 k0)) hX hou) pk_X4_sizeOf qm_X4_59 0 8 rfl rfl wm_0 rfl rfl (Nat.le_of_ble_eq_true rfl) dX4_cursorNow_58 ⟨(Nat.le_of_ble_eq_true rfl), (Nat.le_of_ble_eq_true rfl)⟩ ⟨(Nat.le_of_ble_eq_true rfl), (Nat.le_of_ble_eq_true rfl)⟩ ?_
      refine r_w (w' := WM cy ba ra hf hq kn th sm ++ (Y ++ [(b_2, .inl (cy 1, 5, .inl (upd (upd (upd (fun _ => 0) 0 (nI (hf 6 k0))) 1 (nI (hf 7 k0))) 2 ((nI (hf 7 k0)) - (nI 1)))))])) rfl ?_
      refine r_icN_ge (a := (hf 7 k0)) (b := (hf 4 (hf 6 k0))) (tgt := 68) C (by first | omega | (simp [up2, *]; done) | (simp [up2, *]; omega) | (simp only [up2_eq]; omega) | (split <;> omega)) (by first | omega | (simp [up2, *]; done) | (simp [up2, *]; omega) | (simp only [up2_eq]; omega) | (split <;> omega)) dX4_cursorNow_61 (by decide) (fun h61_3 => ?_) (fun h61_3 => ?_)
      · first
        | exfalso; first | omega | contradiction
        | skip
          refine r_iconst (v := (nI 0)) C dX4_cursorNow_68 (by decide) ?_
          refine d_S (st := [.int (nI 3), .ref b_2, .ref b_2]) hX.1.stb C hE (D_one (ba := ba) (ra := ra) (hf := hf) (hq := hq) (kn := kn) (th := th) (sm := sm) (b0 := 0) hX (by first | omega | (simp [up2, *]; done) | (simp [up2, *]; omega) | (simp only [up2_eq]; omega) | (split <;> omega))) pk_X4_one qm_X4_136 rfl rfl (Nat.le_of_ble_eq_true rfl) dX4_cursorNow_69 ⟨(Nat.le_of_ble_eq_true rfl), (Nat.le_of_ble_eq_true rfl)⟩ ⟨(Nat.le_of_ble_eq_true rfl), (Nat.le_of_ble_eq_true rfl)⟩ ?_
          refine r_w (w' := WM cy ba ra hf hq kn th sm ++ (Y ++ [(b_2, .inl (cy 1, 5, .inl (upd (upd (upd (fun _ => 0) 0 (nI (hf 6 k0))) 1 (nI (hf 7 k0))) 2 ((nI (hf 7 k0)) - (nI 1)))))])) rfl ?_
          refine x_ast C (i := 3) (f := upd (upd (upd (fun _ => 0) 0 (nI (hf 6 k0))) 1 (nI (hf 7 k0))) 2 ((nI (hf 7 k0)) - (nI 1))) (E' := [(b_2, .inl (cy 1, 5, .inl (upd (upd (upd (upd (fun _ => 0) 0 (nI (hf 6 k0))) 1 (nI (hf 7 k0))) 2 ((nI (hf 7 k0)) - (nI 1))) 3 (nI 0))))]) 0 rfl (by first | omega | (simp [up2, *]; done) | (simp [up2, *]; omega) | (simp only [up2_eq]; omega) | (split <;> omega)) (by first | omega | (simp [up2, *]; done) | (simp [up2, *]; omega) | (simp only [up2_eq]; omega) | (split <;> omega)) rfl dX4_cursorNow_72 ?_
          refine r_dup C dX4_cursorNow_73 rfl ?_
          refine r_iconst (v := (nI 4)) C dX4_cursorNow_74 (by decide) ?_
          refine r_aload_n C dX4_cursorNow_75 rfl ?_
          refine m_get (v := .ref (ba 7)) C 7 (by decide) qf_X4_38 rfl rfl dX4_cursorNow_76 ?_
          refine r_iload_n C dX4_cursorNow_79 rfl ?_
          refine m_ald (i := k0) (z := k0) (v := hf 7 k0) C 6 (by decide) (by decide) (show k0 < 3 from (by first | omega | (simp [up2, *]; done) | (simp [up2, *]; omega) | (simp only [up2_eq]; omega) | (split <;> omega))) (show 0 + k0 = k0 from (by omega)) rfl dX4_cursorNow_80 ?_
          refine r_ifN_le (a := (hf 7 k0)) (tgt := 88) C (by first | omega | (simp [up2, *]; done) | (simp [up2, *]; omega) | (simp only [up2_eq]; omega) | (split <;> omega)) dX4_cursorNow_81 (by decide) (fun h81_4 => ?_) (fun h81_4 => ?_)
          · first
            | exfalso; first | omega | contradiction
            | skip
              refine r_iconst (v := (nI 0)) C dX4_cursorNow_88 (by decide) ?_
              refine d_S (st := [.int (nI 4), .ref b_2, .ref b_2]) hX.1.stb C hE (D_one (ba := ba) (ra := ra) (hf := hf) (hq := hq) (kn := kn) (th := th) (sm := sm) (b0 := 0) hX (by first | omega | (simp [up2, *]; done) | (simp [up2, *]; omega) | (simp only [up2_eq]; omega) | (split <;> omega))) pk_X4_one qm_X4_136 rfl rfl (Nat.le_of_ble_eq_true rfl) dX4_cursorNow_89 ⟨(Nat.le_of_ble_eq_true rfl), (Nat.le_of_ble_eq_true rfl)⟩ ⟨(Nat.le_of_ble_eq_true rfl), (Nat.le_of_ble_eq_true rfl)⟩ ?_
              refine r_w (w' := WM cy ba ra hf hq kn th sm ++ (Y ++ [(b_2, .inl (cy 1, 5, .inl (upd (upd (upd (upd (fun _ => 0) 0 (nI (hf 6 k0))) 1 (nI (hf 7 k0))) 2 ((nI (hf 7 k0)) - (nI 1))) 3 (nI 0))))])) rfl ?_
              refine x_ast C (i := 4) (f := upd (upd (upd (upd (fun _ => 0) 0 (nI (hf 6 k0))) 1 (nI (hf 7 k0))) 2 ((nI (hf 7 k0)) - (nI 1))) 3 (nI 0)) (E' := [(b_2, .inl (cy 1, 5, .inl (upd (upd (upd (upd (upd (fun _ => 0) 0 (nI (hf 6 k0))) 1 (nI (hf 7 k0))) 2 ((nI (hf 7 k0)) - (nI 1))) 3 (nI 0)) 4 (nI 0))))]) 0 rfl (by first | omega | (simp [up2, *]; done) | (simp [up2, *]; omega) | (simp only [up2_eq]; omega) | (split <;> omega)) (by first | omega | (simp [up2, *]; done) | (simp [up2, *]; omega) | (simp only [up2_eq]; omega) | (split <;> omega)) rfl dX4_cursorNow_92 ?_
              refine r_astore_n C dX4_cursorNow_93 (by decide) rfl ?_
              refine r_aload_n C dX4_cursorNow_94 rfl ?_
              refine r_iload_n C dX4_cursorNow_95 rfl ?_
              refine x_ald C (i := 2) (f := upd (upd (upd (upd (upd (fun _ => 0) 0 (nI (hf 6 k0))) 1 (nI (hf 7 k0))) 2 ((nI (hf 7 k0)) - (nI 1))) 3 (nI 0)) 4 (nI 0)) 0 rfl (by first | omega | (simp [up2, *]; done) | (simp [up2, *]; omega) | (simp only [up2_eq]; omega) | (split <;> omega)) (by first | omega | (simp [up2, *]; done) | (simp [up2, *]; omega) | (simp only [up2_eq]; omega) | (split <;> omega)) dX4_cursorNow_96 ?_
              refine r_eqi (show (upd (upd (upd (upd (upd (fun _ => 0) 0 (nI (hf 6 k0))) 1 (nI (hf 7 k0))) 2 ((nI (hf 7 k0)) - (nI 1))) 3 (nI 0)) 4 (nI 0)) 2 = ((nI (hf 7 k0)) - (nI 1)) from rfl) ?_
              refine r_pre ?_
              exact r_iret C hr dX4_cursorNow_97 ⟨by unfold cqM; rw [if_neg (by omega), if_neg (by decide), if_neg (by decide), if_pos rfl], rfl⟩ (Nat.le_of_ble_eq_true rfl) (Nat.le_of_ble_eq_true rfl)
          · first
            | exfalso; first | omega | contradiction
            | skip
              refine r_iconst (v := (nI 1)) C dX4_cursorNow_84 (by decide) ?_
              refine r_goto (tgt := 89) C dX4_cursorNow_85 (by decide) ?_
              refine d_S (st := [.int (nI 4), .ref b_2, .ref b_2]) hX.1.stb C hE (D_one (ba := ba) (ra := ra) (hf := hf) (hq := hq) (kn := kn) (th := th) (sm := sm) (b0 := 1) hX (by first | omega | (simp [up2, *]; done) | (simp [up2, *]; omega) | (simp only [up2_eq]; omega) | (split <;> omega))) pk_X4_one qm_X4_136 rfl rfl (Nat.le_of_ble_eq_true rfl) dX4_cursorNow_89 ⟨(Nat.le_of_ble_eq_true rfl), (Nat.le_of_ble_eq_true rfl)⟩ ⟨(Nat.le_of_ble_eq_true rfl), (Nat.le_of_ble_eq_true rfl)⟩ ?_
              refine r_w (w' := WM cy ba ra hf hq kn th sm ++ (Y ++ [(b_2, .inl (cy 1, 5, .inl (upd (upd (upd (upd (fun _ => 0) 0 (nI (hf 6 k0))) 1 (nI (hf 7 k0))) 2 ((nI (hf 7 k0)) - (nI 1))) 3 (nI 0))))])) rfl ?_
              refine x_ast C (i := 4) (f := upd (upd (upd (upd (fun _ => 0) 0 (nI (hf 6 k0))) 1 (nI (hf 7 k0))) 2 ((nI (hf 7 k0)) - (nI 1))) 3 (nI 0)) (E' := [(b_2, .inl (cy 1, 5, .inl (upd (upd (upd (upd (upd (fun _ => 0) 0 (nI (hf 6 k0))) 1 (nI (hf 7 k0))) 2 ((nI (hf 7 k0)) - (nI 1))) 3 (nI 0)) 4 (nI 1))))]) 0 rfl (by first | omega | (simp [up2, *]; done) | (simp [up2, *]; omega) | (simp only [up2_eq]; omega) | (split <;> omega)) (by first | omega | (simp [up2, *]; done) | (simp [up2, *]; omega) | (simp only [up2_eq]; omega) | (split <;> omega)) rfl dX4_cursorNow_92 ?_
              refine r_astore_n C dX4_cursorNow_93 (by decide) rfl ?_
              refine r_aload_n C dX4_cursorNow_94 rfl ?_
              refine r_iload_n C dX4_cursorNow_95 rfl ?_
              refine x_ald C (i := 2) (f := upd (upd (upd (upd (upd (fun _ => 0) 0 (nI (hf 6 k0))) 1 (nI (hf 7 k0))) 2 ((nI (hf 7 k0)) - (nI 1))) 3 (nI 0)) 4 (nI 1)) 0 rfl (by first | omega | (simp [up2, *]; done) | (simp [up2, *]; omega) | (simp only [up2_eq]; omega) | (split <;> omega)) (by first | omega | (simp [up2, *]; done) | (simp [up2, *]; omega) | (simp only [up2_eq]; omega) | (split <;> omega)) dX4_cursorNow_96 ?_
              refine r_eqi (show (upd (upd (upd (upd (upd (fun _ => 0) 0 (nI (hf 6 k0))) 1 (nI (hf 7 k0))) 2 ((nI (hf 7 k0)) - (nI 1))) 3 (nI 0)) 4 (nI 1)) 2 = ((nI (hf 7 k0)) - (nI 1)) from rfl) ?_
              refine r_pre ?_
              exact r_iret C hr dX4_cursorNow_97 ⟨by unfold cqM; rw [if_neg (by omega), if_neg (by decide), if_neg (by decide), if_pos rfl], rfl⟩ (Nat.le_of_ble_eq_true rfl) (Nat.le_of_ble_eq_true rfl)
      · first
        | exfalso; first | omega | contradiction
        | skip
          refine r_iconst (v := (nI 1)) C dX4_cursorNow_64 (by decide) ?_
          refine r_goto (tgt := 69) C dX4_cursorNow_65 (by decide) ?_
          refine d_S (st := [.int (nI 3), .ref b_2, .ref b_2]) hX.1.stb C hE (D_one (ba := ba) (ra := ra) (hf := hf) (hq := hq) (kn := kn) (th := th) (sm := sm) (b0 := 1) hX (by first | omega | (simp [up2, *]; done) | (simp [up2, *]; omega) | (simp only [up2_eq]; omega) | (split <;> omega))) pk_X4_one qm_X4_136 rfl rfl (Nat.le_of_ble_eq_true rfl) dX4_cursorNow_69 ⟨(Nat.le_of_ble_eq_true rfl), (Nat.le_of_ble_eq_true rfl)⟩ ⟨(Nat.le_of_ble_eq_true rfl), (Nat.le_of_ble_eq_true rfl)⟩ ?_
          refine r_w (w' := WM cy ba ra hf hq kn th sm ++ (Y ++ [(b_2, .inl (cy 1, 5, .inl (upd (upd (upd (fun _ => 0) 0 (nI (hf 6 k0))) 1 (nI (hf 7 k0))) 2 ((nI (hf 7 k0)) - (nI 1)))))])) rfl ?_
          refine x_ast C (i := 3) (f := upd (upd (upd (fun _ => 0) 0 (nI (hf 6 k0))) 1 (nI (hf 7 k0))) 2 ((nI (hf 7 k0)) - (nI 1))) (E' := [(b_2, .inl (cy 1, 5, .inl (upd (upd (upd (upd (fun _ => 0) 0 (nI (hf 6 k0))) 1 (nI (hf 7 k0))) 2 ((nI (hf 7 k0)) - (nI 1))) 3 (nI 1))))]) 0 rfl (by first | omega | (simp [up2, *]; done) | (simp [up2, *]; omega) | (simp only [up2_eq]; omega) | (split <;> omega)) (by first | omega | (simp [up2, *]; done) | (simp [up2, *]; omega) | (simp only [up2_eq]; omega) | (split <;> omega)) rfl dX4_cursorNow_72 ?_
          refine r_dup C dX4_cursorNow_73 rfl ?_
          refine r_iconst (v := (nI 4)) C dX4_cursorNow_74 (by decide) ?_
          refine r_aload_n C dX4_cursorNow_75 rfl ?_
          refine m_get (v := .ref (ba 7)) C 7 (by decide) qf_X4_38 rfl rfl dX4_cursorNow_76 ?_
          refine r_iload_n C dX4_cursorNow_79 rfl ?_
          refine m_ald (i := k0) (z := k0) (v := hf 7 k0) C 6 (by decide) (by decide) (show k0 < 3 from (by first | omega | (simp [up2, *]; done) | (simp [up2, *]; omega) | (simp only [up2_eq]; omega) | (split <;> omega))) (show 0 + k0 = k0 from (by omega)) rfl dX4_cursorNow_80 ?_
          refine r_ifN_le (a := (hf 7 k0)) (tgt := 88) C (by first | omega | (simp [up2, *]; done) | (simp [up2, *]; omega) | (simp only [up2_eq]; omega) | (split <;> omega)) dX4_cursorNow_81 (by decide) (fun h81_5 => ?_) (fun h81_5 => ?_)
          · first
            | exfalso; first | omega | contradiction
            | skip
              refine r_iconst (v := (nI 0)) C dX4_cursorNow_88 (by decide) ?_
              refine d_S (st := [.int (nI 4), .ref b_2, .ref b_2]) hX.1.stb C hE (D_one (ba := ba) (ra := ra) (hf := hf) (hq := hq) (kn := kn) (th := th) (sm := sm) (b0 := 0) hX (by first | omega | (simp [up2, *]; done) | (simp [up2, *]; omega) | (simp only [up2_eq]; omega) | (split <;> omega))) pk_X4_one qm_X4_136 rfl rfl (Nat.le_of_ble_eq_true rfl) dX4_cursorNow_89 ⟨(Nat.le_of_ble_eq_true rfl), (Nat.le_of_ble_eq_true rfl)⟩ ⟨(Nat.le_of_ble_eq_true rfl), (Nat.le_of_ble_eq_true rfl)⟩ ?_
              refine r_w (w' := WM cy ba ra hf hq kn th sm ++ (Y ++ [(b_2, .inl (cy 1, 5, .inl (upd (upd (upd (upd (fun _ => 0) 0 (nI (hf 6 k0))) 1 (nI (hf 7 k0))) 2 ((nI (hf 7 k0)) - (nI 1))) 3 (nI 1))))])) rfl ?_
              refine x_ast C (i := 4) (f := upd (upd (upd (upd (fun _ => 0) 0 (nI (hf 6 k0))) 1 (nI (hf 7 k0))) 2 ((nI (hf 7 k0)) - (nI 1))) 3 (nI 1)) (E' := [(b_2, .inl (cy 1, 5, .inl (upd (upd (upd (upd (upd (fun _ => 0) 0 (nI (hf 6 k0))) 1 (nI (hf 7 k0))) 2 ((nI (hf 7 k0)) - (nI 1))) 3 (nI 1)) 4 (nI 0))))]) 0 rfl (by first | omega | (simp [up2, *]; done) | (simp [up2, *]; omega) | (simp only [up2_eq]; omega) | (split <;> omega)) (by first | omega | (simp [up2, *]; done) | (simp [up2, *]; omega) | (simp only [up2_eq]; omega) | (split <;> omega)) rfl dX4_cursorNow_92 ?_
              refine r_astore_n C dX4_cursorNow_93 (by decide) rfl ?_
              refine r_aload_n C dX4_cursorNow_94 rfl ?_
              refine r_iload_n C dX4_cursorNow_95 rfl ?_
              refine x_ald C (i := 2) (f := upd (upd (upd (upd (upd (fun _ => 0) 0 (nI (hf 6 k0))) 1 (nI (hf 7 k0))) 2 ((nI (hf 7 k0)) - (nI 1))) 3 (nI 1)) 4 (nI 0)) 0 rfl (by first | omega | (simp [up2, *]; done) | (simp [up2, *]; omega) | (simp only [up2_eq]; omega) | (split <;> omega)) (by first | omega | (simp [up2, *]; done) | (simp [up2, *]; omega) | (simp only [up2_eq]; omega) | (split <;> omega)) dX4_cursorNow_96 ?_
              refine r_eqi (show (upd (upd (upd (upd (upd (fun _ => 0) 0 (nI (hf 6 k0))) 1 (nI (hf 7 k0))) 2 ((nI (hf 7 k0)) - (nI 1))) 3 (nI 1)) 4 (nI 0)) 2 = ((nI (hf 7 k0)) - (nI 1)) from rfl) ?_
              refine r_pre ?_
              exact r_iret C hr dX4_cursorNow_97 ⟨by unfold cqM; rw [if_neg (by omega), if_neg (by decide), if_neg (by decide), if_pos rfl], rfl⟩ (Nat.le_of_ble_eq_true rfl) (Nat.le_of_ble_eq_true rfl)
          · first
            | exfalso; first | omega | contradiction
            | skip
              refine r_iconst (v := (nI 1)) C dX4_cursorNow_84 (by decide) ?_
              refine r_goto (tgt := 89) C dX4_cursorNow_85 (by decide) ?_
              refine d_S (st := [.int (nI 4), .ref b_2, .ref b_2]) hX.1.stb C hE (D_one (ba := ba) (ra := ra) (hf := hf) (hq := hq) (kn := kn) (th := th) (sm := sm) (b0 := 1) hX (by first | omega | (simp [up2, *]; done) | (simp [up2, *]; omega) | (simp only [up2_eq]; omega) | (split <;> omega))) pk_X4_one qm_X4_136 rfl rfl (Nat.le_of_ble_eq_true rfl) dX4_cursorNow_89 ⟨(Nat.le_of_ble_eq_true rfl), (Nat.le_of_ble_eq_true rfl)⟩ ⟨(Nat.le_of_ble_eq_true rfl), (Nat.le_of_ble_eq_true rfl)⟩ ?_
              refine r_w (w' := WM cy ba ra hf hq kn th sm ++ (Y ++ [(b_2, .inl (cy 1, 5, .inl (upd (upd (upd (upd (fun _ => 0) 0 (nI (hf 6 k0))) 1 (nI (hf 7 k0))) 2 ((nI (hf 7 k0)) - (nI 1))) 3 (nI 1))))])) rfl ?_
              refine x_ast C (i := 4) (f := upd (upd (upd (upd (fun _ => 0) 0 (nI (hf 6 k0))) 1 (nI (hf 7 k0))) 2 ((nI (hf 7 k0)) - (nI 1))) 3 (nI 1)) (E' := [(b_2, .inl (cy 1, 5, .inl (upd (upd (upd (upd (upd (fun _ => 0) 0 (nI (hf 6 k0))) 1 (nI (hf 7 k0))) 2 ((nI (hf 7 k0)) - (nI 1))) 3 (nI 1)) 4 (nI 1))))]) 0 rfl (by first | omega | (simp [up2, *]; done) | (simp [up2, *]; omega) | (simp only [up2_eq]; omega) | (split <;> omega)) (by first | omega | (simp [up2, *]; done) | (simp [up2, *]; omega) | (simp only [up2_eq]; omega) | (split <;> omega)) rfl dX4_cursorNow_92 ?_
              refine r_astore_n C dX4_cursorNow_93 (by decide) rfl ?_
              refine r_aload_n C dX4_cursorNow_94 rfl ?_
              refine r_iload_n C dX4_cursorNow_95 rfl ?_
              refine x_ald C (i := 2) (f := upd (upd (upd (upd (upd (fun _ => 0) 0 (nI (hf 6 k0))) 1 (nI (hf 7 k0))) 2 ((nI (hf 7 k0)) - (nI 1))) 3 (nI 1)) 4 (nI 1)) 0 rfl (by first | omega | (simp [up2, *]; done) | (simp [up2, *]; omega) | (simp only [up2_eq]; omega) | (split <;> omega)) (by first | omega | (simp [up2, *]; done) | (simp [up2, *]; omega) | (simp only [up2_eq]; omega) | (split <;> omega)) dX4_cursorNow_96 ?_
              refine r_eqi (show (upd (upd (upd (upd (upd (fun _ => 0) 0 (nI (hf 6 k0))) 1 (nI (hf 7 k0))) 2 ((nI (hf 7 k0)) - (nI 1))) 3 (nI 1)) 4 (nI 1)) 2 = ((nI (hf 7 k0)) - (nI 1)) from rfl) ?_
              refine r_pre ?_
              exact r_iret C hr dX4_cursorNow_97 ⟨by unfold cqM; rw [if_neg (by omega), if_neg (by decide), if_neg (by decide), if_pos rfl], rfl⟩ (Nat.le_of_ble_eq_true rfl) (Nat.le_of_ble_eq_true rfl)
  · first
    | exfalso; first | omega | contradiction
    | skip
      refine r_iconst (v := (nI 4294967295)) C dX4_cursorNow_9 (by decide) ?_
      exact r_iret C hr dX4_cursorNow_10 ⟨by unfold cqM; rw [if_pos (by omega)], rfl⟩ (Nat.le_of_ble_eq_true rfl) (Nat.le_of_ble_eq_true rfl)
set_option maxRecDepth 100000 in
set_option maxHeartbeats 4000000 in
theorem D_cursorNow_3 {l : Launch} {D : va_G} {cy : Nat → ClassId} {X : (Nat → Prop) → State → Heap → Prop} {ba ra : Nat → Nat} {hf : Nat → Nat → Nat} {hq : Nat → Nat → Int32} {kn th : Int32} {sm : Int64} {Y : va_W} {f : Nat → Nat → Nat} {r : Nat → Nat → Int32} {k0 : Nat} (hX : EnvM X cy) (hC : CInv f) (hM : MR f r hf hq) (hk3 : k0 < 3) : Cd l D cy X yX4_cursorNow cX4_cursorNow 4 (some .int) (rmk 1 1 5 40) [.ref (ba 9), .int (nI k0), .int (nI 3)] (WM cy ba ra hf hq kn th sm ++ Y) (some (.int (cqM hf k0 3))) (WM cy ba ra hf hq kn th sm ++ Y) := by
  have hG := hM.1
  have h5M := hM.h5M hC
  have h4M := hC.h4M
  have h9a := hM.h9a hC
  have h6a := hM.h6a
  have hU := hM.hU hC
  have qu := hM.cu hC hk3
  refine Cm.of [some (.ref (ba 9)), some (.int (nI k0)), some (.int (nI 3)), none] pn_X4 rfl (Nat.le_of_ble_eq_true rfl) ?_
  intro p e s m args below meth c A C hE hr hnt hn
  refine r_aload_n C dX4_cursorNow_0 rfl ?_
  refine m_get (v := .ref (ba 5)) C 5 (by decide) qf_X4_32 rfl rfl dX4_cursorNow_1 ?_
  refine r_iload_n C dX4_cursorNow_4 rfl ?_
  refine m_zld (i := k0) (z := k0) (v := hf 9 k0) C 4 (by decide) (by decide) (show k0 < 3 from (by first | omega | (simp [up2, *]; done) | (simp [up2, *]; omega) | (simp only [up2_eq]; omega) | (split <;> omega))) (show 0 + k0 = k0 from (by omega)) rfl dX4_cursorNow_5 ?_
  refine r_ifN_ne (a := (hf 9 k0)) (tgt := 11) C (by omega) dX4_cursorNow_6 (by decide) (fun h6_1 => ?_) (fun h6_1 => ?_)
  · first
    | exfalso; first | omega | contradiction
    | skip
      refine r_iconst (v := (nI 5)) C dX4_cursorNow_11 (by decide) ?_
      refine r_newT C .int .int 1 rfl (by simp) qa_int (n := 5) (show 5 < 1000000 from Nat.lt_of_le_of_lt (show 5 ≤ 5 from (Nat.le_refl _)) (by decide)) (1) (5) (Nat.le_of_ble_eq_true rfl) (Nat.add_le_add (Nat.le_refl _) (show 5 ≤ 5 from (Nat.le_refl _))) (Nat.le_of_ble_eq_true rfl) (Nat.le_of_ble_eq_true rfl) dX4_cursorNow_12 (fun b_2 => ?_)
      refine r_w (w' := WM cy ba ra hf hq kn th sm ++ (Y ++ [(b_2, .inl (cy 1, 5, .inl (fun _ => 0)))])) (by simp only [List.append_assoc, List.cons_append, List.nil_append]) ?_
      refine r_dup C dX4_cursorNow_14 rfl ?_
      refine r_iconst (v := (nI 0)) C dX4_cursorNow_15 (by decide) ?_
      have qo := qu.2.2.2 (by omega)
      have hou := qu.2.2.1
      have h5u : f 5 (hf 6 k0) = 1 := by rw [qo.1]; exact qo.2.2.2.2.1
      have wu := hM.wh hC hou h5u
      have e6 : f 4 (hf 6 k0) = f 4 (f 6 k0) := by rw [qo.1]
      refine r_aload_n C dX4_cursorNow_16 rfl ?_
      refine m_get (v := .ref (ba 6)) C 6 (by decide) qf_X4_35 rfl rfl dX4_cursorNow_17 ?_
      refine r_iload_n C dX4_cursorNow_20 rfl ?_
      refine m_ald (i := k0) (z := k0) (v := hf 6 k0) C 5 (by decide) (by decide) (show k0 < 3 from (by first | omega | (simp [up2, *]; done) | (simp [up2, *]; omega) | (simp only [up2_eq]; omega) | (split <;> omega))) (show 0 + k0 = k0 from (by omega)) rfl dX4_cursorNow_21 ?_
      refine x_ast C (i := 0) (f := fun _ => 0) (E' := [(b_2, .inl (cy 1, 5, .inl (upd (fun _ => 0) 0 (nI (hf 6 k0)))))]) 0 rfl (by first | omega | (simp [up2, *]; done) | (simp [up2, *]; omega) | (simp only [up2_eq]; omega) | (split <;> omega)) (by first | omega | (simp [up2, *]; done) | (simp [up2, *]; omega) | (simp only [up2_eq]; omega) | (split <;> omega)) rfl dX4_cursorNow_22 ?_
      refine r_dup C dX4_cursorNow_23 rfl ?_
      refine r_iconst (v := (nI 1)) C dX4_cursorNow_24 (by decide) ?_
      refine r_aload_n C dX4_cursorNow_25 rfl ?_
      refine m_get (v := .ref (ba 7)) C 7 (by decide) qf_X4_38 rfl rfl dX4_cursorNow_26 ?_
      refine r_iload_n C dX4_cursorNow_29 rfl ?_
      refine m_ald (i := k0) (z := k0) (v := hf 7 k0) C 6 (by decide) (by decide) (show k0 < 3 from (by first | omega | (simp [up2, *]; done) | (simp [up2, *]; omega) | (simp only [up2_eq]; omega) | (split <;> omega))) (show 0 + k0 = k0 from (by omega)) rfl dX4_cursorNow_30 ?_
      refine x_ast C (i := 1) (f := upd (fun _ => 0) 0 (nI (hf 6 k0))) (E' := [(b_2, .inl (cy 1, 5, .inl (upd (upd (fun _ => 0) 0 (nI (hf 6 k0))) 1 (nI (hf 7 k0)))))]) 0 rfl (by first | omega | (simp [up2, *]; done) | (simp [up2, *]; omega) | (simp only [up2_eq]; omega) | (split <;> omega)) (by first | omega | (simp [up2, *]; done) | (simp [up2, *]; omega) | (simp only [up2_eq]; omega) | (split <;> omega)) rfl dX4_cursorNow_31 ?_
      refine r_dup C dX4_cursorNow_32 rfl ?_
      refine r_iconst (v := (nI 2)) C dX4_cursorNow_33 (by decide) ?_
      refine r_aload_n C dX4_cursorNow_34 rfl ?_
      refine m_get (v := .ref (ba 7)) C 7 (by decide) qf_X4_38 rfl rfl dX4_cursorNow_35 ?_
      refine r_iload_n C dX4_cursorNow_38 rfl ?_
      refine m_ald (i := k0) (z := k0) (v := hf 7 k0) C 6 (by decide) (by decide) (show k0 < 3 from (by first | omega | (simp [up2, *]; done) | (simp [up2, *]; omega) | (simp only [up2_eq]; omega) | (split <;> omega))) (show 0 + k0 = k0 from (by omega)) rfl dX4_cursorNow_39 ?_
      refine r_iconst (v := (nI 1)) C dX4_cursorNow_40 (by decide) ?_
      refine r_isub C dX4_cursorNow_41 ?_
      refine x_ast C (i := 2) (f := upd (upd (fun _ => 0) 0 (nI (hf 6 k0))) 1 (nI (hf 7 k0))) (E' := [(b_2, .inl (cy 1, 5, .inl (upd (upd (upd (fun _ => 0) 0 (nI (hf 6 k0))) 1 (nI (hf 7 k0))) 2 ((nI (hf 7 k0)) - (nI 1)))))]) 0 rfl (by first | omega | (simp [up2, *]; done) | (simp [up2, *]; omega) | (simp only [up2_eq]; omega) | (split <;> omega)) (by first | omega | (simp [up2, *]; done) | (simp [up2, *]; omega) | (simp only [up2_eq]; omega) | (split <;> omega)) rfl dX4_cursorNow_42 ?_
      refine r_dup C dX4_cursorNow_43 rfl ?_
      refine r_iconst (v := (nI 3)) C dX4_cursorNow_44 (by decide) ?_
      refine r_aload_n C dX4_cursorNow_45 rfl ?_
      refine m_get (v := .ref (ba 7)) C 7 (by decide) qf_X4_38 rfl rfl dX4_cursorNow_46 ?_
      refine r_iload_n C dX4_cursorNow_49 rfl ?_
      refine m_ald (i := k0) (z := k0) (v := hf 7 k0) C 6 (by decide) (by decide) (show k0 < 3 from (by first | omega | (simp [up2, *]; done) | (simp [up2, *]; omega) | (simp only [up2_eq]; omega) | (split <;> omega))) (show 0 + k0 = k0 from (by omega)) rfl dX4_cursorNow_50 ?_
      refine r_aload_n C dX4_cursorNow_51 rfl ?_
      refine r_aload_n C dX4_cursorNow_52 rfl ?_
      refine m_get (v := .ref (ba 6)) C 6 (by decide) qf_X4_35 rfl rfl dX4_cursorNow_53 ?_
      refine r_iload_n C dX4_cursorNow_56 rfl ?_
      refine m_ald (i := k0) (z := k0) (v := hf 6 k0) C 5 (by decide) (by decide) (show k0 < 3 from (by first | omega | (simp [up2, *]; done) | (simp [up2, *]; omega) | (simp only [up2_eq]; omega) | (split <;> omega))) (show 0 + k0 = k0 from (by omega)) rfl dX4_cursorNow_57 ?_
      refine d_V (st := [.int (nI (hf 7 k0)), .int (nI 3), .ref b_2, .ref b_2]) hX.1.stb C hE (D_sizeOf (ba := ba) (ra := ra) (hf := hf) (hq := hq) (kn := kn) (th := th) (sm := sm) (w := (hf 6 k0)) hX hou) pk_X4_sizeOf qm_X4_59 0 8 rfl rfl wm_0 rfl rfl (Nat.le_of_ble_eq_true rfl) dX4_cursorNow_58 ⟨(Nat.le_of_ble_eq_true rfl), (Nat.le_of_ble_eq_true rfl)⟩ ⟨(Nat.le_of_ble_eq_true rfl), (Nat.le_of_ble_eq_true rfl)⟩ ?_
      refine r_w (w' := WM cy ba ra hf hq kn th sm ++ (Y ++ [(b_2, .inl (cy 1, 5, .inl (upd (upd (upd (fun _ => 0) 0 (nI (hf 6 k0))) 1 (nI (hf 7 k0))) 2 ((nI (hf 7 k0)) - (nI 1)))))])) rfl ?_
      refine r_icN_ge (a := (hf 7 k0)) (b := (hf 4 (hf 6 k0))) (tgt := 68) C (by first | omega | (simp [up2, *]; done) | (simp [up2, *]; omega) | (simp only [up2_eq]; omega) | (split <;> omega)) (by first | omega | (simp [up2, *]; done) | (simp [up2, *]; omega) | (simp only [up2_eq]; omega) | (split <;> omega)) dX4_cursorNow_61 (by decide) (fun h61_3 => ?_) (fun h61_3 => ?_)
      · first
        | exfalso; first | omega | contradiction
        | skip
          refine r_iconst (v := (nI 0)) C dX4_cursorNow_68 (by decide) ?_
          refine d_S (st := [.int (nI 3), .ref b_2, .ref b_2]) hX.1.stb C hE (D_one (ba := ba) (ra := ra) (hf := hf) (hq := hq) (kn := kn) (th := th) (sm := sm) (b0 := 0) hX (by first | omega | (simp [up2, *]; done) | (simp [up2, *]; omega) | (simp only [up2_eq]; omega) | (split <;> omega))) pk_X4_one qm_X4_136 rfl rfl (Nat.le_of_ble_eq_true rfl) dX4_cursorNow_69 ⟨(Nat.le_of_ble_eq_true rfl), (Nat.le_of_ble_eq_true rfl)⟩ ⟨(Nat.le_of_ble_eq_true rfl), (Nat.le_of_ble_eq_true rfl)⟩ ?_
          refine r_w (w' := WM cy ba ra hf hq kn th sm ++ (Y ++ [(b_2, .inl (cy 1, 5, .inl (upd (upd (upd (fun _ => 0) 0 (nI (hf 6 k0))) 1 (nI (hf 7 k0))) 2 ((nI (hf 7 k0)) - (nI 1)))))])) rfl ?_
          refine x_ast C (i := 3) (f := upd (upd (upd (fun _ => 0) 0 (nI (hf 6 k0))) 1 (nI (hf 7 k0))) 2 ((nI (hf 7 k0)) - (nI 1))) (E' := [(b_2, .inl (cy 1, 5, .inl (upd (upd (upd (upd (fun _ => 0) 0 (nI (hf 6 k0))) 1 (nI (hf 7 k0))) 2 ((nI (hf 7 k0)) - (nI 1))) 3 (nI 0))))]) 0 rfl (by first | omega | (simp [up2, *]; done) | (simp [up2, *]; omega) | (simp only [up2_eq]; omega) | (split <;> omega)) (by first | omega | (simp [up2, *]; done) | (simp [up2, *]; omega) | (simp only [up2_eq]; omega) | (split <;> omega)) rfl dX4_cursorNow_72 ?_
          refine r_dup C dX4_cursorNow_73 rfl ?_
          refine r_iconst (v := (nI 4)) C dX4_cursorNow_74 (by decide) ?_
          refine r_aload_n C dX4_cursorNow_75 rfl ?_
          refine m_get (v := .ref (ba 7)) C 7 (by decide) qf_X4_38 rfl rfl dX4_cursorNow_76 ?_
          refine r_iload_n C dX4_cursorNow_79 rfl ?_
          refine m_ald (i := k0) (z := k0) (v := hf 7 k0) C 6 (by decide) (by decide) (show k0 < 3 from (by first | omega | (simp [up2, *]; done) | (simp [up2, *]; omega) | (simp only [up2_eq]; omega) | (split <;> omega))) (show 0 + k0 = k0 from (by omega)) rfl dX4_cursorNow_80 ?_
          refine r_ifN_le (a := (hf 7 k0)) (tgt := 88) C (by first | omega | (simp [up2, *]; done) | (simp [up2, *]; omega) | (simp only [up2_eq]; omega) | (split <;> omega)) dX4_cursorNow_81 (by decide) (fun h81_4 => ?_) (fun h81_4 => ?_)
          · first
            | exfalso; first | omega | contradiction
            | skip
              refine r_iconst (v := (nI 0)) C dX4_cursorNow_88 (by decide) ?_
              refine d_S (st := [.int (nI 4), .ref b_2, .ref b_2]) hX.1.stb C hE (D_one (ba := ba) (ra := ra) (hf := hf) (hq := hq) (kn := kn) (th := th) (sm := sm) (b0 := 0) hX (by first | omega | (simp [up2, *]; done) | (simp [up2, *]; omega) | (simp only [up2_eq]; omega) | (split <;> omega))) pk_X4_one qm_X4_136 rfl rfl (Nat.le_of_ble_eq_true rfl) dX4_cursorNow_89 ⟨(Nat.le_of_ble_eq_true rfl), (Nat.le_of_ble_eq_true rfl)⟩ ⟨(Nat.le_of_ble_eq_true rfl), (Nat.le_of_ble_eq_true rfl)⟩ ?_
              refine r_w (w' := WM cy ba ra hf hq kn th sm ++ (Y ++ [(b_2, .inl (cy 1, 5, .inl (upd (upd (upd (upd (fun _ => 0) 0 (nI (hf 6 k0))) 1 (nI (hf 7 k0))) 2 ((nI (hf 7 k0)) - (nI 1))) 3 (nI 0))))])) rfl ?_
              refine x_ast C (i := 4) (f := upd (upd (upd (upd (fun _ => 0) 0 (nI (hf 6 k0))) 1 (nI (hf 7 k0))) 2 ((nI (hf 7 k0)) - (nI 1))) 3 (nI 0)) (E' := [(b_2, .inl (cy 1, 5, .inl (upd (upd (upd (upd (upd (fun _ => 0) 0 (nI (hf 6 k0))) 1 (nI (hf 7 k0))) 2 ((nI (hf 7 k0)) - (nI 1))) 3 (nI 0)) 4 (nI 0))))]) 0 rfl (by first | omega | (simp [up2, *]; done) | (simp [up2, *]; omega) | (simp only [up2_eq]; omega) | (split <;> omega)) (by first | omega | (simp [up2, *]; done) | (simp [up2, *]; omega) | (simp only [up2_eq]; omega) | (split <;> omega)) rfl dX4_cursorNow_92 ?_
              refine r_astore_n C dX4_cursorNow_93 (by decide) rfl ?_
              refine r_aload_n C dX4_cursorNow_94 rfl ?_
              refine r_iload_n C dX4_cursorNow_95 rfl ?_
              refine x_ald C (i := 3) (f := upd (upd (upd (upd (upd (fun _ => 0) 0 (nI (hf 6 k0))) 1 (nI (hf 7 k0))) 2 ((nI (hf 7 k0)) - (nI 1))) 3 (nI 0)) 4 (nI 0)) 0 rfl (by first | omega | (simp [up2, *]; done) | (simp [up2, *]; omega) | (simp only [up2_eq]; omega) | (split <;> omega)) (by first | omega | (simp [up2, *]; done) | (simp [up2, *]; omega) | (simp only [up2_eq]; omega) | (split <;> omega)) dX4_cursorNow_96 ?_
              refine r_eqi (show (upd (upd (upd (upd (upd (fun _ => 0) 0 (nI (hf 6 k0))) 1 (nI (hf 7 k0))) 2 ((nI (hf 7 k0)) - (nI 1))) 3 (nI 0)) 4 (nI 0)) 3 = (nI 0) from rfl) ?_
              refine r_pre ?_
              exact r_iret C hr dX4_cursorNow_97 ⟨by unfold cqM; rw [if_neg (by omega), if_neg (by decide), if_neg (by decide), if_neg (by decide), if_pos rfl]; first | rw [if_pos (by assumption)] | rw [if_neg (Nat.not_lt.mpr (by assumption))], rfl⟩ (Nat.le_of_ble_eq_true rfl) (Nat.le_of_ble_eq_true rfl)
          · first
            | exfalso; first | omega | contradiction
            | skip
              refine r_iconst (v := (nI 1)) C dX4_cursorNow_84 (by decide) ?_
              refine r_goto (tgt := 89) C dX4_cursorNow_85 (by decide) ?_
              refine d_S (st := [.int (nI 4), .ref b_2, .ref b_2]) hX.1.stb C hE (D_one (ba := ba) (ra := ra) (hf := hf) (hq := hq) (kn := kn) (th := th) (sm := sm) (b0 := 1) hX (by first | omega | (simp [up2, *]; done) | (simp [up2, *]; omega) | (simp only [up2_eq]; omega) | (split <;> omega))) pk_X4_one qm_X4_136 rfl rfl (Nat.le_of_ble_eq_true rfl) dX4_cursorNow_89 ⟨(Nat.le_of_ble_eq_true rfl), (Nat.le_of_ble_eq_true rfl)⟩ ⟨(Nat.le_of_ble_eq_true rfl), (Nat.le_of_ble_eq_true rfl)⟩ ?_
              refine r_w (w' := WM cy ba ra hf hq kn th sm ++ (Y ++ [(b_2, .inl (cy 1, 5, .inl (upd (upd (upd (upd (fun _ => 0) 0 (nI (hf 6 k0))) 1 (nI (hf 7 k0))) 2 ((nI (hf 7 k0)) - (nI 1))) 3 (nI 0))))])) rfl ?_
              refine x_ast C (i := 4) (f := upd (upd (upd (upd (fun _ => 0) 0 (nI (hf 6 k0))) 1 (nI (hf 7 k0))) 2 ((nI (hf 7 k0)) - (nI 1))) 3 (nI 0)) (E' := [(b_2, .inl (cy 1, 5, .inl (upd (upd (upd (upd (upd (fun _ => 0) 0 (nI (hf 6 k0))) 1 (nI (hf 7 k0))) 2 ((nI (hf 7 k0)) - (nI 1))) 3 (nI 0)) 4 (nI 1))))]) 0 rfl (by first | omega | (simp [up2, *]; done) | (simp [up2, *]; omega) | (simp only [up2_eq]; omega) | (split <;> omega)) (by first | omega | (simp [up2, *]; done) | (simp [up2, *]; omega) | (simp only [up2_eq]; omega) | (split <;> omega)) rfl dX4_cursorNow_92 ?_
              refine r_astore_n C dX4_cursorNow_93 (by decide) rfl ?_
              refine r_aload_n C dX4_cursorNow_94 rfl ?_
              refine r_iload_n C dX4_cursorNow_95 rfl ?_
              refine x_ald C (i := 3) (f := upd (upd (upd (upd (upd (fun _ => 0) 0 (nI (hf 6 k0))) 1 (nI (hf 7 k0))) 2 ((nI (hf 7 k0)) - (nI 1))) 3 (nI 0)) 4 (nI 1)) 0 rfl (by first | omega | (simp [up2, *]; done) | (simp [up2, *]; omega) | (simp only [up2_eq]; omega) | (split <;> omega)) (by first | omega | (simp [up2, *]; done) | (simp [up2, *]; omega) | (simp only [up2_eq]; omega) | (split <;> omega)) dX4_cursorNow_96 ?_
              refine r_eqi (show (upd (upd (upd (upd (upd (fun _ => 0) 0 (nI (hf 6 k0))) 1 (nI (hf 7 k0))) 2 ((nI (hf 7 k0)) - (nI 1))) 3 (nI 0)) 4 (nI 1)) 3 = (nI 0) from rfl) ?_
              refine r_pre ?_
              exact r_iret C hr dX4_cursorNow_97 ⟨by unfold cqM; rw [if_neg (by omega), if_neg (by decide), if_neg (by decide), if_neg (by decide), if_pos rfl]; first | rw [if_pos (by assumption)] | rw [if_neg (Nat.not_lt.mpr (by assumption))], rfl⟩ (Nat.le_of_ble_eq_true rfl) (Nat.le_of_ble_eq_true rfl)
      · first
        | exfalso; first | omega | contradiction
        | skip
          refine r_iconst (v := (nI 1)) C dX4_cursorNow_64 (by decide) ?_
          refine r_goto (tgt := 69) C dX4_cursorNow_65 (by decide) ?_
          refine d_S (st := [.int (nI 3), .ref b_2, .ref b_2]) hX.1.stb C hE (D_one (ba := ba) (ra := ra) (hf := hf) (hq := hq) (kn := kn) (th := th) (sm := sm) (b0 := 1) hX (by first | omega | (simp [up2, *]; done) | (simp [up2, *]; omega) | (simp only [up2_eq]; omega) | (split <;> omega))) pk_X4_one qm_X4_136 rfl rfl (Nat.le_of_ble_eq_true rfl) dX4_cursorNow_69 ⟨(Nat.le_of_ble_eq_true rfl), (Nat.le_of_ble_eq_true rfl)⟩ ⟨(Nat.le_of_ble_eq_true rfl), (Nat.le_of_ble_eq_true rfl)⟩ ?_
          refine r_w (w' := WM cy ba ra hf hq kn th sm ++ (Y ++ [(b_2, .inl (cy 1, 5, .inl (upd (upd (upd (fun _ => 0) 0 (nI (hf 6 k0))) 1 (nI (hf 7 k0))) 2 ((nI (hf 7 k0)) - (nI 1)))))])) rfl ?_
          refine x_ast C (i := 3) (f := upd (upd (upd (fun _ => 0) 0 (nI (hf 6 k0))) 1 (nI (hf 7 k0))) 2 ((nI (hf 7 k0)) - (nI 1))) (E' := [(b_2, .inl (cy 1, 5, .inl (upd (upd (upd (upd (fun _ => 0) 0 (nI (hf 6 k0))) 1 (nI (hf 7 k0))) 2 ((nI (hf 7 k0)) - (nI 1))) 3 (nI 1))))]) 0 rfl (by first | omega | (simp [up2, *]; done) | (simp [up2, *]; omega) | (simp only [up2_eq]; omega) | (split <;> omega)) (by first | omega | (simp [up2, *]; done) | (simp [up2, *]; omega) | (simp only [up2_eq]; omega) | (split <;> omega)) rfl dX4_cursorNow_72 ?_
          refine r_dup C dX4_cursorNow_73 rfl ?_
          refine r_iconst (v := (nI 4)) C dX4_cursorNow_74 (by decide) ?_
          refine r_aload_n C dX4_cursorNow_75 rfl ?_
          refine m_get (v := .ref (ba 7)) C 7 (by decide) qf_X4_38 rfl rfl dX4_cursorNow_76 ?_
          refine r_iload_n C dX4_cursorNow_79 rfl ?_
          refine m_ald (i := k0) (z := k0) (v := hf 7 k0) C 6 (by decide) (by decide) (show k0 < 3 from (by first | omega | (simp [up2, *]; done) | (simp [up2, *]; omega) | (simp only [up2_eq]; omega) | (split <;> omega))) (show 0 + k0 = k0 from (by omega)) rfl dX4_cursorNow_80 ?_
          refine r_ifN_le (a := (hf 7 k0)) (tgt := 88) C (by first | omega | (simp [up2, *]; done) | (simp [up2, *]; omega) | (simp only [up2_eq]; omega) | (split <;> omega)) dX4_cursorNow_81 (by decide) (fun h81_5 => ?_) (fun h81_5 => ?_)
          · first
            | exfalso; first | omega | contradiction
            | skip
              refine r_iconst (v := (nI 0)) C dX4_cursorNow_88 (by decide) ?_
              refine d_S (st := [.int (nI 4), .ref b_2, .ref b_2]) hX.1.stb C hE (D_one (ba := ba) (ra := ra) (hf := hf) (hq := hq) (kn := kn) (th := th) (sm := sm) (b0 := 0) hX (by first | omega | (simp [up2, *]; done) | (simp [up2, *]; omega) | (simp only [up2_eq]; omega) | (split <;> omega))) pk_X4_one qm_X4_136 rfl rfl (Nat.le_of_ble_eq_true rfl) dX4_cursorNow_89 ⟨(Nat.le_of_ble_eq_true rfl), (Nat.le_of_ble_eq_true rfl)⟩ ⟨(Nat.le_of_ble_eq_true rfl), (Nat.le_of_ble_eq_true rfl)⟩ ?_
              refine r_w (w' := WM cy ba ra hf hq kn th sm ++ (Y ++ [(b_2, .inl (cy 1, 5, .inl (upd (upd (upd (upd (fun _ => 0) 0 (nI (hf 6 k0))) 1 (nI (hf 7 k0))) 2 ((nI (hf 7 k0)) - (nI 1))) 3 (nI 1))))])) rfl ?_
              refine x_ast C (i := 4) (f := upd (upd (upd (upd (fun _ => 0) 0 (nI (hf 6 k0))) 1 (nI (hf 7 k0))) 2 ((nI (hf 7 k0)) - (nI 1))) 3 (nI 1)) (E' := [(b_2, .inl (cy 1, 5, .inl (upd (upd (upd (upd (upd (fun _ => 0) 0 (nI (hf 6 k0))) 1 (nI (hf 7 k0))) 2 ((nI (hf 7 k0)) - (nI 1))) 3 (nI 1)) 4 (nI 0))))]) 0 rfl (by first | omega | (simp [up2, *]; done) | (simp [up2, *]; omega) | (simp only [up2_eq]; omega) | (split <;> omega)) (by first | omega | (simp [up2, *]; done) | (simp [up2, *]; omega) | (simp only [up2_eq]; omega) | (split <;> omega)) rfl dX4_cursorNow_92 ?_
              refine r_astore_n C dX4_cursorNow_93 (by decide) rfl ?_
              refine r_aload_n C dX4_cursorNow_94 rfl ?_
              refine r_iload_n C dX4_cursorNow_95 rfl ?_
              refine x_ald C (i := 3) (f := upd (upd (upd (upd (upd (fun _ => 0) 0 (nI (hf 6 k0))) 1 (nI (hf 7 k0))) 2 ((nI (hf 7 k0)) - (nI 1))) 3 (nI 1)) 4 (nI 0)) 0 rfl (by first | omega | (simp [up2, *]; done) | (simp [up2, *]; omega) | (simp only [up2_eq]; omega) | (split <;> omega)) (by first | omega | (simp [up2, *]; done) | (simp [up2, *]; omega) | (simp only [up2_eq]; omega) | (split <;> omega)) dX4_cursorNow_96 ?_
              refine r_eqi (show (upd (upd (upd (upd (upd (fun _ => 0) 0 (nI (hf 6 k0))) 1 (nI (hf 7 k0))) 2 ((nI (hf 7 k0)) - (nI 1))) 3 (nI 1)) 4 (nI 0)) 3 = (nI 1) from rfl) ?_
              refine r_pre ?_
              exact r_iret C hr dX4_cursorNow_97 ⟨by unfold cqM; rw [if_neg (by omega), if_neg (by decide), if_neg (by decide), if_neg (by decide), if_pos rfl]; first | rw [if_pos (by assumption)] | rw [if_neg (Nat.not_lt.mpr (by assumption))], rfl⟩ (Nat.le_of_ble_eq_true rfl) (Nat.le_of_ble_eq_true rfl)
          · first
            | exfalso; first | omega | contradiction
            | skip
              refine r_iconst (v := (nI 1)) C dX4_cursorNow_84 (by decide) ?_
              refine r_goto (tgt := 89) C dX4_cursorNow_85 (by decide) ?_
              refine d_S (st := [.int (nI 4), .ref b_2, .ref b_2]) hX.1.stb C hE (D_one (ba := ba) (ra := ra) (hf := hf) (hq := hq) (kn := kn) (th := th) (sm := sm) (b0 := 1) hX (by first | omega | (simp [up2, *]; done) | (simp [up2, *]; omega) | (simp only [up2_eq]; omega) | (split <;> omega))) pk_X4_one qm_X4_136 rfl rfl (Nat.le_of_ble_eq_true rfl) dX4_cursorNow_89 ⟨(Nat.le_of_ble_eq_true rfl), (Nat.le_of_ble_eq_true rfl)⟩ ⟨(Nat.le_of_ble_eq_true rfl), (Nat.le_of_ble_eq_true rfl)⟩ ?_
              refine r_w (w' := WM cy ba ra hf hq kn th sm ++ (Y ++ [(b_2, .inl (cy 1, 5, .inl (upd (upd (upd (upd (fun _ => 0) 0 (nI (hf 6 k0))) 1 (nI (hf 7 k0))) 2 ((nI (hf 7 k0)) - (nI 1))) 3 (nI 1))))])) rfl ?_
              refine x_ast C (i := 4) (f := upd (upd (upd (upd (fun _ => 0) 0 (nI (hf 6 k0))) 1 (nI (hf 7 k0))) 2 ((nI (hf 7 k0)) - (nI 1))) 3 (nI 1)) (E' := [(b_2, .inl (cy 1, 5, .inl (upd (upd (upd (upd (upd (fun _ => 0) 0 (nI (hf 6 k0))) 1 (nI (hf 7 k0))) 2 ((nI (hf 7 k0)) - (nI 1))) 3 (nI 1)) 4 (nI 1))))]) 0 rfl (by first | omega | (simp [up2, *]; done) | (simp [up2, *]; omega) | (simp only [up2_eq]; omega) | (split <;> omega)) (by first | omega | (simp [up2, *]; done) | (simp [up2, *]; omega) | (simp only [up2_eq]; omega) | (split <;> omega)) rfl dX4_cursorNow_92 ?_
              refine r_astore_n C dX4_cursorNow_93 (by decide) rfl ?_
              refine r_aload_n C dX4_cursorNow_94 rfl ?_
              refine r_iload_n C dX4_cursorNow_95 rfl ?_
              refine x_ald C (i := 3) (f := upd (upd (upd (upd (upd (fun _ => 0) 0 (nI (hf 6 k0))) 1 (nI (hf 7 k0))) 2 ((nI (hf 7 k0)) - (nI 1))) 3 (nI 1)) 4 (nI 1)) 0 rfl (by first | omega | (simp [up2, *]; done) | (simp [up2, *]; omega) | (simp only [up2_eq]; omega) | (split <;> omega)) (by first | omega | (simp [up2, *]; done) | (simp [up2, *]; omega) | (simp only [up2_eq]; omega) | (split <;> omega)) dX4_cursorNow_96 ?_
              refine r_eqi (show (upd (upd (upd (upd (upd (fun _ => 0) 0 (nI (hf 6 k0))) 1 (nI (hf 7 k0))) 2 ((nI (hf 7 k0)) - (nI 1))) 3 (nI 1)) 4 (nI 1)) 3 = (nI 1) from rfl) ?_
              refine r_pre ?_
              exact r_iret C hr dX4_cursorNow_97 ⟨by unfold cqM; rw [if_neg (by omega), if_neg (by decide), if_neg (by decide), if_neg (by decide), if_pos rfl]; first | rw [if_pos (by assumption)] | rw [if_neg (Nat.not_lt.mpr (by assumption))], rfl⟩ (Nat.le_of_ble_eq_true rfl) (Nat.le_of_ble_eq_true rfl)
  · first
    | exfalso; first | omega | contradiction
    | skip
      refine r_iconst (v := (nI 4294967295)) C dX4_cursorNow_9 (by decide) ?_
      exact r_iret C hr dX4_cursorNow_10 ⟨by unfold cqM; rw [if_pos (by omega)], rfl⟩ (Nat.le_of_ble_eq_true rfl) (Nat.le_of_ble_eq_true rfl)
set_option maxRecDepth 100000 in
set_option maxHeartbeats 4000000 in
theorem D_cursorNow_4 {l : Launch} {D : va_G} {cy : Nat → ClassId} {X : (Nat → Prop) → State → Heap → Prop} {ba ra : Nat → Nat} {hf : Nat → Nat → Nat} {hq : Nat → Nat → Int32} {kn th : Int32} {sm : Int64} {Y : va_W} {f : Nat → Nat → Nat} {r : Nat → Nat → Int32} {k0 : Nat} (hX : EnvM X cy) (hC : CInv f) (hM : MR f r hf hq) (hk3 : k0 < 3) : Cd l D cy X yX4_cursorNow cX4_cursorNow 4 (some .int) (rmk 1 1 5 40) [.ref (ba 9), .int (nI k0), .int (nI 4)] (WM cy ba ra hf hq kn th sm ++ Y) (some (.int (cqM hf k0 4))) (WM cy ba ra hf hq kn th sm ++ Y) := by
  have hG := hM.1
  have h5M := hM.h5M hC
  have h4M := hC.h4M
  have h9a := hM.h9a hC
  have h6a := hM.h6a
  have hU := hM.hU hC
  have qu := hM.cu hC hk3
  refine Cm.of [some (.ref (ba 9)), some (.int (nI k0)), some (.int (nI 4)), none] pn_X4 rfl (Nat.le_of_ble_eq_true rfl) ?_
  intro p e s m args below meth c A C hE hr hnt hn
  refine r_aload_n C dX4_cursorNow_0 rfl ?_
  refine m_get (v := .ref (ba 5)) C 5 (by decide) qf_X4_32 rfl rfl dX4_cursorNow_1 ?_
  refine r_iload_n C dX4_cursorNow_4 rfl ?_
  refine m_zld (i := k0) (z := k0) (v := hf 9 k0) C 4 (by decide) (by decide) (show k0 < 3 from (by first | omega | (simp [up2, *]; done) | (simp [up2, *]; omega) | (simp only [up2_eq]; omega) | (split <;> omega))) (show 0 + k0 = k0 from (by omega)) rfl dX4_cursorNow_5 ?_
  refine r_ifN_ne (a := (hf 9 k0)) (tgt := 11) C (by omega) dX4_cursorNow_6 (by decide) (fun h6_1 => ?_) (fun h6_1 => ?_)
  · first
    | exfalso; first | omega | contradiction
    | skip
      refine r_iconst (v := (nI 5)) C dX4_cursorNow_11 (by decide) ?_
      refine r_newT C .int .int 1 rfl (by simp) qa_int (n := 5) (show 5 < 1000000 from Nat.lt_of_le_of_lt (show 5 ≤ 5 from (Nat.le_refl _)) (by decide)) (1) (5) (Nat.le_of_ble_eq_true rfl) (Nat.add_le_add (Nat.le_refl _) (show 5 ≤ 5 from (Nat.le_refl _))) (Nat.le_of_ble_eq_true rfl) (Nat.le_of_ble_eq_true rfl) dX4_cursorNow_12 (fun b_2 => ?_)
      refine r_w (w' := WM cy ba ra hf hq kn th sm ++ (Y ++ [(b_2, .inl (cy 1, 5, .inl (fun _ => 0)))])) (by simp only [List.append_assoc, List.cons_append, List.nil_append]) ?_
      refine r_dup C dX4_cursorNow_14 rfl ?_
      refine r_iconst (v := (nI 0)) C dX4_cursorNow_15 (by decide) ?_
      have qo := qu.2.2.2 (by omega)
      have hou := qu.2.2.1
      have h5u : f 5 (hf 6 k0) = 1 := by rw [qo.1]; exact qo.2.2.2.2.1
      have wu := hM.wh hC hou h5u
      have e6 : f 4 (hf 6 k0) = f 4 (f 6 k0) := by rw [qo.1]
      refine r_aload_n C dX4_cursorNow_16 rfl ?_
      refine m_get (v := .ref (ba 6)) C 6 (by decide) qf_X4_35 rfl rfl dX4_cursorNow_17 ?_
      refine r_iload_n C dX4_cursorNow_20 rfl ?_
      refine m_ald (i := k0) (z := k0) (v := hf 6 k0) C 5 (by decide) (by decide) (show k0 < 3 from (by first | omega | (simp [up2, *]; done) | (simp [up2, *]; omega) | (simp only [up2_eq]; omega) | (split <;> omega))) (show 0 + k0 = k0 from (by omega)) rfl dX4_cursorNow_21 ?_
      refine x_ast C (i := 0) (f := fun _ => 0) (E' := [(b_2, .inl (cy 1, 5, .inl (upd (fun _ => 0) 0 (nI (hf 6 k0)))))]) 0 rfl (by first | omega | (simp [up2, *]; done) | (simp [up2, *]; omega) | (simp only [up2_eq]; omega) | (split <;> omega)) (by first | omega | (simp [up2, *]; done) | (simp [up2, *]; omega) | (simp only [up2_eq]; omega) | (split <;> omega)) rfl dX4_cursorNow_22 ?_
      refine r_dup C dX4_cursorNow_23 rfl ?_
      refine r_iconst (v := (nI 1)) C dX4_cursorNow_24 (by decide) ?_
      refine r_aload_n C dX4_cursorNow_25 rfl ?_
      refine m_get (v := .ref (ba 7)) C 7 (by decide) qf_X4_38 rfl rfl dX4_cursorNow_26 ?_
      refine r_iload_n C dX4_cursorNow_29 rfl ?_
      refine m_ald (i := k0) (z := k0) (v := hf 7 k0) C 6 (by decide) (by decide) (show k0 < 3 from (by first | omega | (simp [up2, *]; done) | (simp [up2, *]; omega) | (simp only [up2_eq]; omega) | (split <;> omega))) (show 0 + k0 = k0 from (by omega)) rfl dX4_cursorNow_30 ?_
      refine x_ast C (i := 1) (f := upd (fun _ => 0) 0 (nI (hf 6 k0))) (E' := [(b_2, .inl (cy 1, 5, .inl (upd (upd (fun _ => 0) 0 (nI (hf 6 k0))) 1 (nI (hf 7 k0)))))]) 0 rfl (by first | omega | (simp [up2, *]; done) | (simp [up2, *]; omega) | (simp only [up2_eq]; omega) | (split <;> omega)) (by first | omega | (simp [up2, *]; done) | (simp [up2, *]; omega) | (simp only [up2_eq]; omega) | (split <;> omega)) rfl dX4_cursorNow_31 ?_
      refine r_dup C dX4_cursorNow_32 rfl ?_
      refine r_iconst (v := (nI 2)) C dX4_cursorNow_33 (by decide) ?_
      refine r_aload_n C dX4_cursorNow_34 rfl ?_
      refine m_get (v := .ref (ba 7)) C 7 (by decide) qf_X4_38 rfl rfl dX4_cursorNow_35 ?_
      refine r_iload_n C dX4_cursorNow_38 rfl ?_
      refine m_ald (i := k0) (z := k0) (v := hf 7 k0) C 6 (by decide) (by decide) (show k0 < 3 from (by first | omega | (simp [up2, *]; done) | (simp [up2, *]; omega) | (simp only [up2_eq]; omega) | (split <;> omega))) (show 0 + k0 = k0 from (by omega)) rfl dX4_cursorNow_39 ?_
      refine r_iconst (v := (nI 1)) C dX4_cursorNow_40 (by decide) ?_
      refine r_isub C dX4_cursorNow_41 ?_
      refine x_ast C (i := 2) (f := upd (upd (fun _ => 0) 0 (nI (hf 6 k0))) 1 (nI (hf 7 k0))) (E' := [(b_2, .inl (cy 1, 5, .inl (upd (upd (upd (fun _ => 0) 0 (nI (hf 6 k0))) 1 (nI (hf 7 k0))) 2 ((nI (hf 7 k0)) - (nI 1)))))]) 0 rfl (by first | omega | (simp [up2, *]; done) | (simp [up2, *]; omega) | (simp only [up2_eq]; omega) | (split <;> omega)) (by first | omega | (simp [up2, *]; done) | (simp [up2, *]; omega) | (simp only [up2_eq]; omega) | (split <;> omega)) rfl dX4_cursorNow_42 ?_
      refine r_dup C dX4_cursorNow_43 rfl ?_
      refine r_iconst (v := (nI 3)) C dX4_cursorNow_44 (by decide) ?_
      refine r_aload_n C dX4_cursorNow_45 rfl ?_
      refine m_get (v := .ref (ba 7)) C 7 (by decide) qf_X4_38 rfl rfl dX4_cursorNow_46 ?_
      refine r_iload_n C dX4_cursorNow_49 rfl ?_
      refine m_ald (i := k0) (z := k0) (v := hf 7 k0) C 6 (by decide) (by decide) (show k0 < 3 from (by first | omega | (simp [up2, *]; done) | (simp [up2, *]; omega) | (simp only [up2_eq]; omega) | (split <;> omega))) (show 0 + k0 = k0 from (by omega)) rfl dX4_cursorNow_50 ?_
      refine r_aload_n C dX4_cursorNow_51 rfl ?_
      refine r_aload_n C dX4_cursorNow_52 rfl ?_
      refine m_get (v := .ref (ba 6)) C 6 (by decide) qf_X4_35 rfl rfl dX4_cursorNow_53 ?_
      refine r_iload_n C dX4_cursorNow_56 rfl ?_
      refine m_ald (i := k0) (z := k0) (v := hf 6 k0) C 5 (by decide) (by decide) (show k0 < 3 from (by first | omega | (simp [up2, *]; done) | (simp [up2, *]; omega) | (simp only [up2_eq]; omega) | (split <;> omega))) (show 0 + k0 = k0 from (by omega)) rfl dX4_cursorNow_57 ?_
      refine d_V (st := [.int (nI (hf 7 k0)), .int (nI 3), .ref b_2, .ref b_2]) hX.1.stb C hE (D_sizeOf (ba := ba) (ra := ra) (hf := hf) (hq := hq) (kn := kn) (th := th) (sm := sm) (w := (hf 6 k0)) hX hou) pk_X4_sizeOf qm_X4_59 0 8 rfl rfl wm_0 rfl rfl (Nat.le_of_ble_eq_true rfl) dX4_cursorNow_58 ⟨(Nat.le_of_ble_eq_true rfl), (Nat.le_of_ble_eq_true rfl)⟩ ⟨(Nat.le_of_ble_eq_true rfl), (Nat.le_of_ble_eq_true rfl)⟩ ?_
      refine r_w (w' := WM cy ba ra hf hq kn th sm ++ (Y ++ [(b_2, .inl (cy 1, 5, .inl (upd (upd (upd (fun _ => 0) 0 (nI (hf 6 k0))) 1 (nI (hf 7 k0))) 2 ((nI (hf 7 k0)) - (nI 1)))))])) rfl ?_
      refine r_icN_ge (a := (hf 7 k0)) (b := (hf 4 (hf 6 k0))) (tgt := 68) C (by first | omega | (simp [up2, *]; done) | (simp [up2, *]; omega) | (simp only [up2_eq]; omega) | (split <;> omega)) (by first | omega | (simp [up2, *]; done) | (simp [up2, *]; omega) | (simp only [up2_eq]; omega) | (split <;> omega)) dX4_cursorNow_61 (by decide) (fun h61_3 => ?_) (fun h61_3 => ?_)
      · first
        | exfalso; first | omega | contradiction
        | skip
          refine r_iconst (v := (nI 0)) C dX4_cursorNow_68 (by decide) ?_
          refine d_S (st := [.int (nI 3), .ref b_2, .ref b_2]) hX.1.stb C hE (D_one (ba := ba) (ra := ra) (hf := hf) (hq := hq) (kn := kn) (th := th) (sm := sm) (b0 := 0) hX (by first | omega | (simp [up2, *]; done) | (simp [up2, *]; omega) | (simp only [up2_eq]; omega) | (split <;> omega))) pk_X4_one qm_X4_136 rfl rfl (Nat.le_of_ble_eq_true rfl) dX4_cursorNow_69 ⟨(Nat.le_of_ble_eq_true rfl), (Nat.le_of_ble_eq_true rfl)⟩ ⟨(Nat.le_of_ble_eq_true rfl), (Nat.le_of_ble_eq_true rfl)⟩ ?_
          refine r_w (w' := WM cy ba ra hf hq kn th sm ++ (Y ++ [(b_2, .inl (cy 1, 5, .inl (upd (upd (upd (fun _ => 0) 0 (nI (hf 6 k0))) 1 (nI (hf 7 k0))) 2 ((nI (hf 7 k0)) - (nI 1)))))])) rfl ?_
          refine x_ast C (i := 3) (f := upd (upd (upd (fun _ => 0) 0 (nI (hf 6 k0))) 1 (nI (hf 7 k0))) 2 ((nI (hf 7 k0)) - (nI 1))) (E' := [(b_2, .inl (cy 1, 5, .inl (upd (upd (upd (upd (fun _ => 0) 0 (nI (hf 6 k0))) 1 (nI (hf 7 k0))) 2 ((nI (hf 7 k0)) - (nI 1))) 3 (nI 0))))]) 0 rfl (by first | omega | (simp [up2, *]; done) | (simp [up2, *]; omega) | (simp only [up2_eq]; omega) | (split <;> omega)) (by first | omega | (simp [up2, *]; done) | (simp [up2, *]; omega) | (simp only [up2_eq]; omega) | (split <;> omega)) rfl dX4_cursorNow_72 ?_
          refine r_dup C dX4_cursorNow_73 rfl ?_
          refine r_iconst (v := (nI 4)) C dX4_cursorNow_74 (by decide) ?_
          refine r_aload_n C dX4_cursorNow_75 rfl ?_
          refine m_get (v := .ref (ba 7)) C 7 (by decide) qf_X4_38 rfl rfl dX4_cursorNow_76 ?_
          refine r_iload_n C dX4_cursorNow_79 rfl ?_
          refine m_ald (i := k0) (z := k0) (v := hf 7 k0) C 6 (by decide) (by decide) (show k0 < 3 from (by first | omega | (simp [up2, *]; done) | (simp [up2, *]; omega) | (simp only [up2_eq]; omega) | (split <;> omega))) (show 0 + k0 = k0 from (by omega)) rfl dX4_cursorNow_80 ?_
          refine r_ifN_le (a := (hf 7 k0)) (tgt := 88) C (by first | omega | (simp [up2, *]; done) | (simp [up2, *]; omega) | (simp only [up2_eq]; omega) | (split <;> omega)) dX4_cursorNow_81 (by decide) (fun h81_4 => ?_) (fun h81_4 => ?_)
          · first
            | exfalso; first | omega | contradiction
            | skip
              refine r_iconst (v := (nI 0)) C dX4_cursorNow_88 (by decide) ?_
              refine d_S (st := [.int (nI 4), .ref b_2, .ref b_2]) hX.1.stb C hE (D_one (ba := ba) (ra := ra) (hf := hf) (hq := hq) (kn := kn) (th := th) (sm := sm) (b0 := 0) hX (by first | omega | (simp [up2, *]; done) | (simp [up2, *]; omega) | (simp only [up2_eq]; omega) | (split <;> omega))) pk_X4_one qm_X4_136 rfl rfl (Nat.le_of_ble_eq_true rfl) dX4_cursorNow_89 ⟨(Nat.le_of_ble_eq_true rfl), (Nat.le_of_ble_eq_true rfl)⟩ ⟨(Nat.le_of_ble_eq_true rfl), (Nat.le_of_ble_eq_true rfl)⟩ ?_
              refine r_w (w' := WM cy ba ra hf hq kn th sm ++ (Y ++ [(b_2, .inl (cy 1, 5, .inl (upd (upd (upd (upd (fun _ => 0) 0 (nI (hf 6 k0))) 1 (nI (hf 7 k0))) 2 ((nI (hf 7 k0)) - (nI 1))) 3 (nI 0))))])) rfl ?_
              refine x_ast C (i := 4) (f := upd (upd (upd (upd (fun _ => 0) 0 (nI (hf 6 k0))) 1 (nI (hf 7 k0))) 2 ((nI (hf 7 k0)) - (nI 1))) 3 (nI 0)) (E' := [(b_2, .inl (cy 1, 5, .inl (upd (upd (upd (upd (upd (fun _ => 0) 0 (nI (hf 6 k0))) 1 (nI (hf 7 k0))) 2 ((nI (hf 7 k0)) - (nI 1))) 3 (nI 0)) 4 (nI 0))))]) 0 rfl (by first | omega | (simp [up2, *]; done) | (simp [up2, *]; omega) | (simp only [up2_eq]; omega) | (split <;> omega)) (by first | omega | (simp [up2, *]; done) | (simp [up2, *]; omega) | (simp only [up2_eq]; omega) | (split <;> omega)) rfl dX4_cursorNow_92 ?_
              refine r_astore_n C dX4_cursorNow_93 (by decide) rfl ?_
              refine r_aload_n C dX4_cursorNow_94 rfl ?_
              refine r_iload_n C dX4_cursorNow_95 rfl ?_
              refine x_ald C (i := 4) (f := upd (upd (upd (upd (upd (fun _ => 0) 0 (nI (hf 6 k0))) 1 (nI (hf 7 k0))) 2 ((nI (hf 7 k0)) - (nI 1))) 3 (nI 0)) 4 (nI 0)) 0 rfl (by first | omega | (simp [up2, *]; done) | (simp [up2, *]; omega) | (simp only [up2_eq]; omega) | (split <;> omega)) (by first | omega | (simp [up2, *]; done) | (simp [up2, *]; omega) | (simp only [up2_eq]; omega) | (split <;> omega)) dX4_cursorNow_96 ?_
              refine r_eqi (show (upd (upd (upd (upd (upd (fun _ => 0) 0 (nI (hf 6 k0))) 1 (nI (hf 7 k0))) 2 ((nI (hf 7 k0)) - (nI 1))) 3 (nI 0)) 4 (nI 0)) 4 = (nI 0) from rfl) ?_
              refine r_pre ?_
              exact r_iret C hr dX4_cursorNow_97 ⟨by unfold cqM; rw [if_neg (by omega), if_neg (by decide), if_neg (by decide), if_neg (by decide), if_neg (by decide)]; first | rw [if_pos (by omega)] | rw [if_neg (by omega)], rfl⟩ (Nat.le_of_ble_eq_true rfl) (Nat.le_of_ble_eq_true rfl)
          · first
            | exfalso; first | omega | contradiction
            | skip
              refine r_iconst (v := (nI 1)) C dX4_cursorNow_84 (by decide) ?_
              refine r_goto (tgt := 89) C dX4_cursorNow_85 (by decide) ?_
              refine d_S (st := [.int (nI 4), .ref b_2, .ref b_2]) hX.1.stb C hE (D_one (ba := ba) (ra := ra) (hf := hf) (hq := hq) (kn := kn) (th := th) (sm := sm) (b0 := 1) hX (by first | omega | (simp [up2, *]; done) | (simp [up2, *]; omega) | (simp only [up2_eq]; omega) | (split <;> omega))) pk_X4_one qm_X4_136 rfl rfl (Nat.le_of_ble_eq_true rfl) dX4_cursorNow_89 ⟨(Nat.le_of_ble_eq_true rfl), (Nat.le_of_ble_eq_true rfl)⟩ ⟨(Nat.le_of_ble_eq_true rfl), (Nat.le_of_ble_eq_true rfl)⟩ ?_
              refine r_w (w' := WM cy ba ra hf hq kn th sm ++ (Y ++ [(b_2, .inl (cy 1, 5, .inl (upd (upd (upd (upd (fun _ => 0) 0 (nI (hf 6 k0))) 1 (nI (hf 7 k0))) 2 ((nI (hf 7 k0)) - (nI 1))) 3 (nI 0))))])) rfl ?_
              refine x_ast C (i := 4) (f := upd (upd (upd (upd (fun _ => 0) 0 (nI (hf 6 k0))) 1 (nI (hf 7 k0))) 2 ((nI (hf 7 k0)) - (nI 1))) 3 (nI 0)) (E' := [(b_2, .inl (cy 1, 5, .inl (upd (upd (upd (upd (upd (fun _ => 0) 0 (nI (hf 6 k0))) 1 (nI (hf 7 k0))) 2 ((nI (hf 7 k0)) - (nI 1))) 3 (nI 0)) 4 (nI 1))))]) 0 rfl (by first | omega | (simp [up2, *]; done) | (simp [up2, *]; omega) | (simp only [up2_eq]; omega) | (split <;> omega)) (by first | omega | (simp [up2, *]; done) | (simp [up2, *]; omega) | (simp only [up2_eq]; omega) | (split <;> omega)) rfl dX4_cursorNow_92 ?_
              refine r_astore_n C dX4_cursorNow_93 (by decide) rfl ?_
              refine r_aload_n C dX4_cursorNow_94 rfl ?_
              refine r_iload_n C dX4_cursorNow_95 rfl ?_
              refine x_ald C (i := 4) (f := upd (upd (upd (upd (upd (fun _ => 0) 0 (nI (hf 6 k0))) 1 (nI (hf 7 k0))) 2 ((nI (hf 7 k0)) - (nI 1))) 3 (nI 0)) 4 (nI 1)) 0 rfl (by first | omega | (simp [up2, *]; done) | (simp [up2, *]; omega) | (simp only [up2_eq]; omega) | (split <;> omega)) (by first | omega | (simp [up2, *]; done) | (simp [up2, *]; omega) | (simp only [up2_eq]; omega) | (split <;> omega)) dX4_cursorNow_96 ?_
              refine r_eqi (show (upd (upd (upd (upd (upd (fun _ => 0) 0 (nI (hf 6 k0))) 1 (nI (hf 7 k0))) 2 ((nI (hf 7 k0)) - (nI 1))) 3 (nI 0)) 4 (nI 1)) 4 = (nI 1) from rfl) ?_
              refine r_pre ?_
              exact r_iret C hr dX4_cursorNow_97 ⟨by unfold cqM; rw [if_neg (by omega), if_neg (by decide), if_neg (by decide), if_neg (by decide), if_neg (by decide)]; first | rw [if_pos (by omega)] | rw [if_neg (by omega)], rfl⟩ (Nat.le_of_ble_eq_true rfl) (Nat.le_of_ble_eq_true rfl)
      · first
        | exfalso; first | omega | contradiction
        | skip
          refine r_iconst (v := (nI 1)) C dX4_cursorNow_64 (by decide) ?_
          refine r_goto (tgt := 69) C dX4_cursorNow_65 (by decide) ?_
          refine d_S (st := [.int (nI 3), .ref b_2, .ref b_2]) hX.1.stb C hE (D_one (ba := ba) (ra := ra) (hf := hf) (hq := hq) (kn := kn) (th := th) (sm := sm) (b0 := 1) hX (by first | omega | (simp [up2, *]; done) | (simp [up2, *]; omega) | (simp only [up2_eq]; omega) | (split <;> omega))) pk_X4_one qm_X4_136 rfl rfl (Nat.le_of_ble_eq_true rfl) dX4_cursorNow_69 ⟨(Nat.le_of_ble_eq_true rfl), (Nat.le_of_ble_eq_true rfl)⟩ ⟨(Nat.le_of_ble_eq_true rfl), (Nat.le_of_ble_eq_true rfl)⟩ ?_
          refine r_w (w' := WM cy ba ra hf hq kn th sm ++ (Y ++ [(b_2, .inl (cy 1, 5, .inl (upd (upd (upd (fun _ => 0) 0 (nI (hf 6 k0))) 1 (nI (hf 7 k0))) 2 ((nI (hf 7 k0)) - (nI 1)))))])) rfl ?_
          refine x_ast C (i := 3) (f := upd (upd (upd (fun _ => 0) 0 (nI (hf 6 k0))) 1 (nI (hf 7 k0))) 2 ((nI (hf 7 k0)) - (nI 1))) (E' := [(b_2, .inl (cy 1, 5, .inl (upd (upd (upd (upd (fun _ => 0) 0 (nI (hf 6 k0))) 1 (nI (hf 7 k0))) 2 ((nI (hf 7 k0)) - (nI 1))) 3 (nI 1))))]) 0 rfl (by first | omega | (simp [up2, *]; done) | (simp [up2, *]; omega) | (simp only [up2_eq]; omega) | (split <;> omega)) (by first | omega | (simp [up2, *]; done) | (simp [up2, *]; omega) | (simp only [up2_eq]; omega) | (split <;> omega)) rfl dX4_cursorNow_72 ?_
          refine r_dup C dX4_cursorNow_73 rfl ?_
          refine r_iconst (v := (nI 4)) C dX4_cursorNow_74 (by decide) ?_
          refine r_aload_n C dX4_cursorNow_75 rfl ?_
          refine m_get (v := .ref (ba 7)) C 7 (by decide) qf_X4_38 rfl rfl dX4_cursorNow_76 ?_
          refine r_iload_n C dX4_cursorNow_79 rfl ?_
          refine m_ald (i := k0) (z := k0) (v := hf 7 k0) C 6 (by decide) (by decide) (show k0 < 3 from (by first | omega | (simp [up2, *]; done) | (simp [up2, *]; omega) | (simp only [up2_eq]; omega) | (split <;> omega))) (show 0 + k0 = k0 from (by omega)) rfl dX4_cursorNow_80 ?_
          refine r_ifN_le (a := (hf 7 k0)) (tgt := 88) C (by first | omega | (simp [up2, *]; done) | (simp [up2, *]; omega) | (simp only [up2_eq]; omega) | (split <;> omega)) dX4_cursorNow_81 (by decide) (fun h81_5 => ?_) (fun h81_5 => ?_)
          · first
            | exfalso; first | omega | contradiction
            | skip
              refine r_iconst (v := (nI 0)) C dX4_cursorNow_88 (by decide) ?_
              refine d_S (st := [.int (nI 4), .ref b_2, .ref b_2]) hX.1.stb C hE (D_one (ba := ba) (ra := ra) (hf := hf) (hq := hq) (kn := kn) (th := th) (sm := sm) (b0 := 0) hX (by first | omega | (simp [up2, *]; done) | (simp [up2, *]; omega) | (simp only [up2_eq]; omega) | (split <;> omega))) pk_X4_one qm_X4_136 rfl rfl (Nat.le_of_ble_eq_true rfl) dX4_cursorNow_89 ⟨(Nat.le_of_ble_eq_true rfl), (Nat.le_of_ble_eq_true rfl)⟩ ⟨(Nat.le_of_ble_eq_true rfl), (Nat.le_of_ble_eq_true rfl)⟩ ?_
              refine r_w (w' := WM cy ba ra hf hq kn th sm ++ (Y ++ [(b_2, .inl (cy 1, 5, .inl (upd (upd (upd (upd (fun _ => 0) 0 (nI (hf 6 k0))) 1 (nI (hf 7 k0))) 2 ((nI (hf 7 k0)) - (nI 1))) 3 (nI 1))))])) rfl ?_
              refine x_ast C (i := 4) (f := upd (upd (upd (upd (fun _ => 0) 0 (nI (hf 6 k0))) 1 (nI (hf 7 k0))) 2 ((nI (hf 7 k0)) - (nI 1))) 3 (nI 1)) (E' := [(b_2, .inl (cy 1, 5, .inl (upd (upd (upd (upd (upd (fun _ => 0) 0 (nI (hf 6 k0))) 1 (nI (hf 7 k0))) 2 ((nI (hf 7 k0)) - (nI 1))) 3 (nI 1)) 4 (nI 0))))]) 0 rfl (by first | omega | (simp [up2, *]; done) | (simp [up2, *]; omega) | (simp only [up2_eq]; omega) | (split <;> omega)) (by first | omega | (simp [up2, *]; done) | (simp [up2, *]; omega) | (simp only [up2_eq]; omega) | (split <;> omega)) rfl dX4_cursorNow_92 ?_
              refine r_astore_n C dX4_cursorNow_93 (by decide) rfl ?_
              refine r_aload_n C dX4_cursorNow_94 rfl ?_
              refine r_iload_n C dX4_cursorNow_95 rfl ?_
              refine x_ald C (i := 4) (f := upd (upd (upd (upd (upd (fun _ => 0) 0 (nI (hf 6 k0))) 1 (nI (hf 7 k0))) 2 ((nI (hf 7 k0)) - (nI 1))) 3 (nI 1)) 4 (nI 0)) 0 rfl (by first | omega | (simp [up2, *]; done) | (simp [up2, *]; omega) | (simp only [up2_eq]; omega) | (split <;> omega)) (by first | omega | (simp [up2, *]; done) | (simp [up2, *]; omega) | (simp only [up2_eq]; omega) | (split <;> omega)) dX4_cursorNow_96 ?_
              refine r_eqi (show (upd (upd (upd (upd (upd (fun _ => 0) 0 (nI (hf 6 k0))) 1 (nI (hf 7 k0))) 2 ((nI (hf 7 k0)) - (nI 1))) 3 (nI 1)) 4 (nI 0)) 4 = (nI 0) from rfl) ?_
              refine r_pre ?_
              exact r_iret C hr dX4_cursorNow_97 ⟨by unfold cqM; rw [if_neg (by omega), if_neg (by decide), if_neg (by decide), if_neg (by decide), if_neg (by decide)]; first | rw [if_pos (by omega)] | rw [if_neg (by omega)], rfl⟩ (Nat.le_of_ble_eq_true rfl) (Nat.le_of_ble_eq_true rfl)
          · first
            | exfalso; first | omega | contradiction
            | skip
              refine r_iconst (v := (nI 1)) C dX4_cursorNow_84 (by decide) ?_
              refine r_goto (tgt := 89) C dX4_cursorNow_85 (by decide) ?_
              refine d_S (st := [.int (nI 4), .ref b_2, .ref b_2]) hX.1.stb C hE (D_one (ba := ba) (ra := ra) (hf := hf) (hq := hq) (kn := kn) (th := th) (sm := sm) (b0 := 1) hX (by first | omega | (simp [up2, *]; done) | (simp [up2, *]; omega) | (simp only [up2_eq]; omega) | (split <;> omega))) pk_X4_one qm_X4_136 rfl rfl (Nat.le_of_ble_eq_true rfl) dX4_cursorNow_89 ⟨(Nat.le_of_ble_eq_true rfl), (Nat.le_of_ble_eq_true rfl)⟩ ⟨(Nat.le_of_ble_eq_true rfl), (Nat.le_of_ble_eq_true rfl)⟩ ?_
              refine r_w (w' := WM cy ba ra hf hq kn th sm ++ (Y ++ [(b_2, .inl (cy 1, 5, .inl (upd (upd (upd (upd (fun _ => 0) 0 (nI (hf 6 k0))) 1 (nI (hf 7 k0))) 2 ((nI (hf 7 k0)) - (nI 1))) 3 (nI 1))))])) rfl ?_
              refine x_ast C (i := 4) (f := upd (upd (upd (upd (fun _ => 0) 0 (nI (hf 6 k0))) 1 (nI (hf 7 k0))) 2 ((nI (hf 7 k0)) - (nI 1))) 3 (nI 1)) (E' := [(b_2, .inl (cy 1, 5, .inl (upd (upd (upd (upd (upd (fun _ => 0) 0 (nI (hf 6 k0))) 1 (nI (hf 7 k0))) 2 ((nI (hf 7 k0)) - (nI 1))) 3 (nI 1)) 4 (nI 1))))]) 0 rfl (by first | omega | (simp [up2, *]; done) | (simp [up2, *]; omega) | (simp only [up2_eq]; omega) | (split <;> omega)) (by first | omega | (simp [up2, *]; done) | (simp [up2, *]; omega) | (simp only [up2_eq]; omega) | (split <;> omega)) rfl dX4_cursorNow_92 ?_
              refine r_astore_n C dX4_cursorNow_93 (by decide) rfl ?_
              refine r_aload_n C dX4_cursorNow_94 rfl ?_
              refine r_iload_n C dX4_cursorNow_95 rfl ?_
              refine x_ald C (i := 4) (f := upd (upd (upd (upd (upd (fun _ => 0) 0 (nI (hf 6 k0))) 1 (nI (hf 7 k0))) 2 ((nI (hf 7 k0)) - (nI 1))) 3 (nI 1)) 4 (nI 1)) 0 rfl (by first | omega | (simp [up2, *]; done) | (simp [up2, *]; omega) | (simp only [up2_eq]; omega) | (split <;> omega)) (by first | omega | (simp [up2, *]; done) | (simp [up2, *]; omega) | (simp only [up2_eq]; omega) | (split <;> omega)) dX4_cursorNow_96 ?_
              refine r_eqi (show (upd (upd (upd (upd (upd (fun _ => 0) 0 (nI (hf 6 k0))) 1 (nI (hf 7 k0))) 2 ((nI (hf 7 k0)) - (nI 1))) 3 (nI 1)) 4 (nI 1)) 4 = (nI 1) from rfl) ?_
              refine r_pre ?_
              exact r_iret C hr dX4_cursorNow_97 ⟨by unfold cqM; rw [if_neg (by omega), if_neg (by decide), if_neg (by decide), if_neg (by decide), if_neg (by decide)]; first | rw [if_pos (by omega)] | rw [if_neg (by omega)], rfl⟩ (Nat.le_of_ble_eq_true rfl) (Nat.le_of_ble_eq_true rfl)
  · first
    | exfalso; first | omega | contradiction
    | skip
      refine r_iconst (v := (nI 4294967295)) C dX4_cursorNow_9 (by decide) ?_
      exact r_iret C hr dX4_cursorNow_10 ⟨by unfold cqM; rw [if_pos (by omega)], rfl⟩ (Nat.le_of_ble_eq_true rfl) (Nat.le_of_ble_eq_true rfl)
theorem D_cursorNow {l : Launch} {D : va_G} {cy : Nat → ClassId} {X : (Nat → Prop) → State → Heap → Prop} {ba ra : Nat → Nat} {hf : Nat → Nat → Nat} {hq : Nat → Nat → Int32} {kn th : Int32} {sm : Int64} {Y : va_W} {f : Nat → Nat → Nat} {r : Nat → Nat → Int32} {k0 q0 : Nat} (hX : EnvM X cy) (hC : CInv f) (hM : MR f r hf hq) (hk3 : k0 < 3) (hq5 : q0 < 5) : Cd l D cy X yX4_cursorNow cX4_cursorNow 4 (some .int) (rmk 1 1 5 40) [.ref (ba 9), .int (nI k0), .int (nI q0)] (WM cy ba ra hf hq kn th sm ++ Y) (some (.int (cqM hf k0 q0))) (WM cy ba ra hf hq kn th sm ++ Y) := by
  obtain rfl | rfl | rfl | rfl | rfl : q0 = 0 ∨ q0 = 1 ∨ q0 = 2 ∨ q0 = 3 ∨ q0 = 4 := by omega
  · exact D_cursorNow_0 hX hC hM hk3
  · exact D_cursorNow_1 hX hC hM hk3
  · exact D_cursorNow_2 hX hC hM hk3
  · exact D_cursorNow_3 hX hC hM hk3
  · exact D_cursorNow_4 hX hC hM hk3
theorem dX4_ofCursor_0 : decode cX4_ofCursor 0 = .ok (.aload_n 0, 1) := dqo_42 (kb_of ke_X4_ofCursor 0 rfl)
theorem dX4_ofCursor_1 : decode cX4_ofCursor 1 = .ok (.iload_n 1, 1) := dqo_27 (kb_of ke_X4_ofCursor 1 rfl)
theorem dX4_ofCursor_2 : decode cX4_ofCursor 2 = .ok (.invokestatic 193, 3) := dqo_184 0 193 (kb_of ke_X4_ofCursor 2 rfl) (kb_of ke_X4_ofCursor 3 rfl) (kb_of ke_X4_ofCursor 4 rfl)
theorem dX4_ofCursor_5 : decode cX4_ofCursor 5 = .ok (.iload_n 2, 1) := dqo_28 (kb_of ke_X4_ofCursor 5 rfl)
theorem dX4_ofCursor_6 : decode cX4_ofCursor 6 = .ok (.iconst 0, 1) := dqo_3 (kb_of ke_X4_ofCursor 6 rfl)
theorem dX4_ofCursor_7 : decode cX4_ofCursor 7 = .ok (.iconst 4, 1) := dqo_7 (kb_of ke_X4_ofCursor 7 rfl)
theorem dX4_ofCursor_8 : decode cX4_ofCursor 8 = .ok (.invokestatic 1, 3) := dqo_184 0 1 (kb_of ke_X4_ofCursor 8 rfl) (kb_of ke_X4_ofCursor 9 rfl) (kb_of ke_X4_ofCursor 10 rfl)
theorem dX4_ofCursor_11 : decode cX4_ofCursor 11 = .ok (.ifCond .ne 7, 3) := dqo_154 0 7 (by decide) (kb_of ke_X4_ofCursor 11 rfl) (kb_of ke_X4_ofCursor 12 rfl) (kb_of ke_X4_ofCursor 13 rfl)
theorem dX4_ofCursor_14 : decode cX4_ofCursor 14 = .ok (.iconst 1, 1) := dqo_4 (kb_of ke_X4_ofCursor 14 rfl)
theorem dX4_ofCursor_15 : decode cX4_ofCursor 15 = .ok (.goto 4, 3) := dqo_167 0 4 (by decide) (kb_of ke_X4_ofCursor 15 rfl) (kb_of ke_X4_ofCursor 16 rfl) (kb_of ke_X4_ofCursor 17 rfl)
theorem dX4_ofCursor_18 : decode cX4_ofCursor 18 = .ok (.iconst 0, 1) := dqo_3 (kb_of ke_X4_ofCursor 18 rfl)
theorem dX4_ofCursor_19 : decode cX4_ofCursor 19 = .ok (.iconst 0, 1) := dqo_3 (kb_of ke_X4_ofCursor 19 rfl)
theorem dX4_ofCursor_20 : decode cX4_ofCursor 20 = .ok (.invokevirtual 84, 3) := dqo_182 0 84 (kb_of ke_X4_ofCursor 20 rfl) (kb_of ke_X4_ofCursor 21 rfl) (kb_of ke_X4_ofCursor 22 rfl)
theorem dX4_ofCursor_23 : decode cX4_ofCursor 23 = .ok (.ifCond .eq 7, 3) := dqo_153 0 7 (by decide) (kb_of ke_X4_ofCursor 23 rfl) (kb_of ke_X4_ofCursor 24 rfl) (kb_of ke_X4_ofCursor 25 rfl)
theorem dX4_ofCursor_26 : decode cX4_ofCursor 26 = .ok (.iconst 0, 1) := dqo_3 (kb_of ke_X4_ofCursor 26 rfl)
theorem dX4_ofCursor_27 : decode cX4_ofCursor 27 = .ok (.goto 9, 3) := dqo_167 0 9 (by decide) (kb_of ke_X4_ofCursor 27 rfl) (kb_of ke_X4_ofCursor 28 rfl) (kb_of ke_X4_ofCursor 29 rfl)
theorem dX4_ofCursor_36 : decode cX4_ofCursor 36 = .ok (.ireturn, 1) := dqo_172 (kb_of ke_X4_ofCursor 36 rfl)
set_option maxRecDepth 100000 in
set_option maxHeartbeats 4000000 in
theorem D_ofCursor_noC {l : Launch} {D : va_G} {cy : Nat → ClassId} {X : (Nat → Prop) → State → Heap → Prop} {ba ra : Nat → Nat} {hf : Nat → Nat → Nat} {hq : Nat → Nat → Int32} {kn th : Int32} {sm : Int64} {Y : va_W} {f : Nat → Nat → Nat} {r : Nat → Nat → Int32} {x : Int32} {y0 : Int32} (hX : EnvM X cy) (hC : CInv f) (hM : MR f r hf hq) (hno : ¬ (0 ≤ x ∧ x < nI 3)) : Cd l D cy X yX4_ofCursor cX4_ofCursor 3 (some .int) (rmk 9 4 48 420) [.ref (ba 9), .int x, .int y0] (WM cy ba ra hf hq kn th sm ++ Y) (some (.int (nI 0))) (WM cy ba ra hf hq kn (nI 1) sm ++ Y) := by
  have hG := hM.1
  have h5M := hM.h5M hC
  have h4M := hC.h4M
  have h9a := hM.h9a hC
  have h6a := hM.h6a
  have hU := hM.hU hC
  refine Cm.of [some (.ref (ba 9)), some (.int x), some (.int y0)] pn_X4 rfl (Nat.le_of_ble_eq_true rfl) ?_
  intro p e s m args below meth c A C hE hr hnt hn
  refine r_aload_n C dX4_ofCursor_0 rfl ?_
  refine r_iload_n C dX4_ofCursor_1 rfl ?_
  refine d_S (st := [.ref (ba 9)]) hX.1.stb C hE (D_isNoCursor1 (ba := ba) (ra := ra) (hf := hf) (hq := hq) (kn := kn) (th := th) (sm := sm) (Y := Y) (x := (x)) hX hno) pk_X4_isNoCursor qm_X4_193 rfl rfl (Nat.le_of_ble_eq_true rfl) dX4_ofCursor_2 ⟨(Nat.le_of_ble_eq_true rfl), (Nat.le_of_ble_eq_true rfl)⟩ ⟨(Nat.le_of_ble_eq_true rfl), (Nat.le_of_ble_eq_true rfl)⟩ ?_
  refine r_w (w' := WM cy ba ra hf hq kn th sm ++ Y) rfl ?_
  refine r_iload_n C dX4_ofCursor_5 rfl ?_
  refine r_iconst (v := (nI 0)) C dX4_ofCursor_6 (by decide) ?_
  refine r_iconst (v := (nI 4)) C dX4_ofCursor_7 (by decide) ?_
  refine d_S (st := [.int (nI 1), .ref (ba 9)]) hX.1.stb C hE (D_isInX (ba := ba) (ra := ra) (hf := hf) (hq := hq) (kn := kn) (th := th) (sm := sm) (Y := Y) (x := (y0)) (y := ((nI 0))) (z := ((nI 4))) hX ) pk_X4_isIn qm_X4_1 rfl rfl (Nat.le_of_ble_eq_true rfl) dX4_ofCursor_8 ⟨(Nat.le_of_ble_eq_true rfl), (Nat.le_of_ble_eq_true rfl)⟩ ⟨(Nat.le_of_ble_eq_true rfl), (Nat.le_of_ble_eq_true rfl)⟩ ?_
  refine r_w (w' := WM cy ba ra hf hq kn th sm ++ Y) rfl ?_
  refine r_ifN_ne (a := (if ((nI 0)) ≤ (y0) ∧ (y0) ≤ ((nI 4)) then 1 else 0)) (tgt := 18) C (by first | omega | (simp [up2, *]; done) | (simp [up2, *]; omega) | (simp only [up2_eq]; omega) | (split <;> omega)) dX4_ofCursor_11 (by decide) (fun h11_1 => ?_) (fun h11_1 => ?_)
  · first
    | exfalso; first | omega | contradiction
    | skip
      refine r_iconst (v := (nI 0)) C dX4_ofCursor_18 (by decide) ?_
      refine r_iconst (v := (nI 0)) C dX4_ofCursor_19 (by decide) ?_
      refine d_V (st := []) hX.1.stb C hE (D_fails1 (ba := ba) (ra := ra) (hf := hf) (hq := hq) (kn := kn) (th := th) (sm := sm) (Y := Y) (b0 := 0) (d0 := 0) hX ) pk_X4_fails qm_X4_84 0 8 rfl rfl wm_0 rfl rfl (Nat.le_of_ble_eq_true rfl) dX4_ofCursor_20 ⟨(Nat.le_of_ble_eq_true rfl), (Nat.le_of_ble_eq_true rfl)⟩ ⟨(Nat.le_of_ble_eq_true rfl), (Nat.le_of_ble_eq_true rfl)⟩ ?_
      refine r_w (w' := WM cy ba ra hf hq kn (nI 1) sm ++ Y) rfl ?_
      refine r_ifN_eq (a := 1) (tgt := 30) C (by first | omega | (simp [up2, *]; done) | (simp [up2, *]; omega) | (simp only [up2_eq]; omega) | (split <;> omega)) dX4_ofCursor_23 (by decide) (fun h23_2 => ?_) (fun h23_2 => ?_)
      · exact absurd h23_2 (by first | omega | (simp [up2, *]; done) | (simp [up2, *]; omega) | (simp only [up2_eq]; omega) | (split <;> omega))
      · skip
        refine r_iconst (v := (nI 0)) C dX4_ofCursor_26 (by decide) ?_
        refine r_goto (tgt := 36) C dX4_ofCursor_27 (by decide) ?_
        exact r_iret C hr dX4_ofCursor_36 ⟨rfl, rfl⟩ (Nat.le_of_ble_eq_true rfl) (Nat.le_of_ble_eq_true rfl)
  · first
    | exfalso; first | omega | contradiction
    | skip
      refine r_iconst (v := (nI 1)) C dX4_ofCursor_14 (by decide) ?_
      refine r_goto (tgt := 19) C dX4_ofCursor_15 (by decide) ?_
      refine r_iconst (v := (nI 0)) C dX4_ofCursor_19 (by decide) ?_
      refine d_V (st := []) hX.1.stb C hE (D_fails1 (ba := ba) (ra := ra) (hf := hf) (hq := hq) (kn := kn) (th := th) (sm := sm) (Y := Y) (b0 := 1) (d0 := 0) hX ) pk_X4_fails qm_X4_84 0 8 rfl rfl wm_0 rfl rfl (Nat.le_of_ble_eq_true rfl) dX4_ofCursor_20 ⟨(Nat.le_of_ble_eq_true rfl), (Nat.le_of_ble_eq_true rfl)⟩ ⟨(Nat.le_of_ble_eq_true rfl), (Nat.le_of_ble_eq_true rfl)⟩ ?_
      refine r_w (w' := WM cy ba ra hf hq kn (nI 1) sm ++ Y) rfl ?_
      refine r_ifN_eq (a := 1) (tgt := 30) C (by first | omega | (simp [up2, *]; done) | (simp [up2, *]; omega) | (simp only [up2_eq]; omega) | (split <;> omega)) dX4_ofCursor_23 (by decide) (fun h23_3 => ?_) (fun h23_3 => ?_)
      · exact absurd h23_3 (by first | omega | (simp [up2, *]; done) | (simp [up2, *]; omega) | (simp only [up2_eq]; omega) | (split <;> omega))
      · skip
        refine r_iconst (v := (nI 0)) C dX4_ofCursor_26 (by decide) ?_
        refine r_goto (tgt := 36) C dX4_ofCursor_27 (by decide) ?_
        exact r_iret C hr dX4_ofCursor_36 ⟨rfl, rfl⟩ (Nat.le_of_ble_eq_true rfl) (Nat.le_of_ble_eq_true rfl)
set_option maxRecDepth 100000 in
set_option maxHeartbeats 4000000 in
theorem D_ofCursor_noQ {l : Launch} {D : va_G} {cy : Nat → ClassId} {X : (Nat → Prop) → State → Heap → Prop} {ba ra : Nat → Nat} {hf : Nat → Nat → Nat} {hq : Nat → Nat → Int32} {kn th : Int32} {sm : Int64} {Y : va_W} {f : Nat → Nat → Nat} {r : Nat → Nat → Int32} {k0 : Nat} {x : Int32} (hX : EnvM X cy) (hC : CInv f) (hM : MR f r hf hq) (hk3 : k0 < 3) (hno : ¬ (0 ≤ x ∧ x < nI 5)) : Cd l D cy X yX4_ofCursor cX4_ofCursor 3 (some .int) (rmk 9 4 48 420) [.ref (ba 9), .int (nI k0), .int x] (WM cy ba ra hf hq kn th sm ++ Y) (some (.int (nI 0))) (WM cy ba ra hf hq kn (nI 2) sm ++ Y) := by
  have hG := hM.1
  have h5M := hM.h5M hC
  have h4M := hC.h4M
  have h9a := hM.h9a hC
  have h6a := hM.h6a
  have hU := hM.hU hC
  refine Cm.of [some (.ref (ba 9)), some (.int (nI k0)), some (.int x)] pn_X4 rfl (Nat.le_of_ble_eq_true rfl) ?_
  intro p e s m args below meth c A C hE hr hnt hn
  refine r_aload_n C dX4_ofCursor_0 rfl ?_
  refine r_iload_n C dX4_ofCursor_1 rfl ?_
  refine d_S (st := [.ref (ba 9)]) hX.1.stb C hE (D_isNoCursor0 (ba := ba) (ra := ra) (hf := hf) (hq := hq) (kn := kn) (th := th) (sm := sm) (Y := Y) (i := k0) hX (by first | omega | (simp [up2, *]; done) | (simp [up2, *]; omega) | (simp only [up2_eq]; omega) | (split <;> omega))) pk_X4_isNoCursor qm_X4_193 rfl rfl (Nat.le_of_ble_eq_true rfl) dX4_ofCursor_2 ⟨(Nat.le_of_ble_eq_true rfl), (Nat.le_of_ble_eq_true rfl)⟩ ⟨(Nat.le_of_ble_eq_true rfl), (Nat.le_of_ble_eq_true rfl)⟩ ?_
  refine r_w (w' := WM cy ba ra hf hq kn th sm ++ Y) rfl ?_
  refine r_iload_n C dX4_ofCursor_5 rfl ?_
  refine r_iconst (v := (nI 0)) C dX4_ofCursor_6 (by decide) ?_
  refine r_iconst (v := (nI 4)) C dX4_ofCursor_7 (by decide) ?_
  refine d_S (st := [.int (nI 0), .ref (ba 9)]) hX.1.stb C hE (D_isIn0 (ba := ba) (ra := ra) (hf := hf) (hq := hq) (kn := kn) (th := th) (sm := sm) (Y := Y) (x := (x)) (y := ((nI 0))) (z := ((nI 4))) hX (fun z => hno ⟨z.1, Int32.lt_of_le_of_lt z.2 (by decide)⟩)) pk_X4_isIn qm_X4_1 rfl rfl (Nat.le_of_ble_eq_true rfl) dX4_ofCursor_8 ⟨(Nat.le_of_ble_eq_true rfl), (Nat.le_of_ble_eq_true rfl)⟩ ⟨(Nat.le_of_ble_eq_true rfl), (Nat.le_of_ble_eq_true rfl)⟩ ?_
  refine r_w (w' := WM cy ba ra hf hq kn th sm ++ Y) rfl ?_
  refine r_ifN_ne (a := 0) (tgt := 18) C (by first | omega | (simp [up2, *]; done) | (simp [up2, *]; omega) | (simp only [up2_eq]; omega) | (split <;> omega)) dX4_ofCursor_11 (by decide) (fun h11_1 => ?_) (fun h11_1 => ?_)
  · exact absurd h11_1 (by first | omega | (simp [up2, *]; done) | (simp [up2, *]; omega) | (simp only [up2_eq]; omega) | (split <;> omega))
  · skip
    refine r_iconst (v := (nI 1)) C dX4_ofCursor_14 (by decide) ?_
    refine r_goto (tgt := 19) C dX4_ofCursor_15 (by decide) ?_
    refine r_iconst (v := (nI 0)) C dX4_ofCursor_19 (by decide) ?_
    refine d_V (st := []) hX.1.stb C hE (D_fails2 (ba := ba) (ra := ra) (hf := hf) (hq := hq) (kn := kn) (th := th) (sm := sm) (Y := Y) (d0 := 0) hX ) pk_X4_fails qm_X4_84 0 8 rfl rfl wm_0 rfl rfl (Nat.le_of_ble_eq_true rfl) dX4_ofCursor_20 ⟨(Nat.le_of_ble_eq_true rfl), (Nat.le_of_ble_eq_true rfl)⟩ ⟨(Nat.le_of_ble_eq_true rfl), (Nat.le_of_ble_eq_true rfl)⟩ ?_
    refine r_w (w' := WM cy ba ra hf hq kn (nI 2) sm ++ Y) rfl ?_
    refine r_ifN_eq (a := 1) (tgt := 30) C (by first | omega | (simp [up2, *]; done) | (simp [up2, *]; omega) | (simp only [up2_eq]; omega) | (split <;> omega)) dX4_ofCursor_23 (by decide) (fun h23_2 => ?_) (fun h23_2 => ?_)
    · exact absurd h23_2 (by first | omega | (simp [up2, *]; done) | (simp [up2, *]; omega) | (simp only [up2_eq]; omega) | (split <;> omega))
    · skip
      refine r_iconst (v := (nI 0)) C dX4_ofCursor_26 (by decide) ?_
      refine r_goto (tgt := 36) C dX4_ofCursor_27 (by decide) ?_
      exact r_iret C hr dX4_ofCursor_36 ⟨rfl, rfl⟩ (Nat.le_of_ble_eq_true rfl) (Nat.le_of_ble_eq_true rfl)
theorem pk_X4_cursorNow : PkV RX4 yX4_cursorNow cX4_cursorNow 4 (some .int) 2 := ⟨⟨qi_X4_cursorNow, qs_X4_cursorNow, qz_X4, qc_X4_cursorNow⟩, rfl, mh_X4.1, mh_X4.2, pd_0⟩
theorem dX4_ofCursor_30 : decode cX4_ofCursor 30 = .ok (.aload_n 0, 1) := dqo_42 (kb_of ke_X4_ofCursor 30 rfl)
theorem dX4_ofCursor_31 : decode cX4_ofCursor 31 = .ok (.iload_n 1, 1) := dqo_27 (kb_of ke_X4_ofCursor 31 rfl)
theorem dX4_ofCursor_32 : decode cX4_ofCursor 32 = .ok (.iload_n 2, 1) := dqo_28 (kb_of ke_X4_ofCursor 32 rfl)
theorem dX4_ofCursor_33 : decode cX4_ofCursor 33 = .ok (.invokevirtual 199, 3) := dqo_182 0 199 (kb_of ke_X4_ofCursor 33 rfl) (kb_of ke_X4_ofCursor 34 rfl) (kb_of ke_X4_ofCursor 35 rfl)
set_option maxRecDepth 100000 in
set_option maxHeartbeats 4000000 in
theorem D_ofCursor_ok {l : Launch} {D : va_G} {cy : Nat → ClassId} {X : (Nat → Prop) → State → Heap → Prop} {ba ra : Nat → Nat} {hf : Nat → Nat → Nat} {hq : Nat → Nat → Int32} {kn th : Int32} {sm : Int64} {Y : va_W} {f : Nat → Nat → Nat} {r : Nat → Nat → Int32} {k0 : Nat} {q0 : Nat} (hX : EnvM X cy) (hC : CInv f) (hM : MR f r hf hq) (hk3 : k0 < 3) (hq5 : q0 < 5) : Cd l D cy X yX4_ofCursor cX4_ofCursor 3 (some .int) (rmk 9 4 48 420) [.ref (ba 9), .int (nI k0), .int (nI q0)] (WM cy ba ra hf hq kn th sm ++ Y) (some (.int (cqM hf k0 q0))) (WM cy ba ra hf hq kn (nI 0) sm ++ Y) := by
  have hG := hM.1
  have h5M := hM.h5M hC
  have h4M := hC.h4M
  have h9a := hM.h9a hC
  have h6a := hM.h6a
  have hU := hM.hU hC
  refine Cm.of [some (.ref (ba 9)), some (.int (nI k0)), some (.int (nI q0))] pn_X4 rfl (Nat.le_of_ble_eq_true rfl) ?_
  intro p e s m args below meth c A C hE hr hnt hn
  refine r_aload_n C dX4_ofCursor_0 rfl ?_
  refine r_iload_n C dX4_ofCursor_1 rfl ?_
  refine d_S (st := [.ref (ba 9)]) hX.1.stb C hE (D_isNoCursor0 (ba := ba) (ra := ra) (hf := hf) (hq := hq) (kn := kn) (th := th) (sm := sm) (Y := Y) (i := k0) hX (by first | omega | (simp [up2, *]; done) | (simp [up2, *]; omega) | (simp only [up2_eq]; omega) | (split <;> omega))) pk_X4_isNoCursor qm_X4_193 rfl rfl (Nat.le_of_ble_eq_true rfl) dX4_ofCursor_2 ⟨(Nat.le_of_ble_eq_true rfl), (Nat.le_of_ble_eq_true rfl)⟩ ⟨(Nat.le_of_ble_eq_true rfl), (Nat.le_of_ble_eq_true rfl)⟩ ?_
  refine r_w (w' := WM cy ba ra hf hq kn th sm ++ Y) rfl ?_
  refine r_iload_n C dX4_ofCursor_5 rfl ?_
  refine r_iconst (v := (nI 0)) C dX4_ofCursor_6 (by decide) ?_
  refine r_iconst (v := (nI 4)) C dX4_ofCursor_7 (by decide) ?_
  refine d_S (st := [.int (nI 0), .ref (ba 9)]) hX.1.stb C hE (D_isInN (ba := ba) (ra := ra) (hf := hf) (hq := hq) (kn := kn) (th := th) (sm := sm) (Y := Y) (a0 := q0) (b0 := 0) (d0 := 4) hX (by first | omega | (simp [up2, *]; done) | (simp [up2, *]; omega) | (simp only [up2_eq]; omega) | (split <;> omega)) (by first | omega | (simp [up2, *]; done) | (simp [up2, *]; omega) | (simp only [up2_eq]; omega) | (split <;> omega)) (by first | omega | (simp [up2, *]; done) | (simp [up2, *]; omega) | (simp only [up2_eq]; omega) | (split <;> omega))) pk_X4_isIn qm_X4_1 rfl rfl (Nat.le_of_ble_eq_true rfl) dX4_ofCursor_8 ⟨(Nat.le_of_ble_eq_true rfl), (Nat.le_of_ble_eq_true rfl)⟩ ⟨(Nat.le_of_ble_eq_true rfl), (Nat.le_of_ble_eq_true rfl)⟩ ?_
  refine r_w (w' := WM cy ba ra hf hq kn th sm ++ Y) rfl ?_
  refine r_ifN_ne (a := 1) (tgt := 18) C (by first | omega | (simp [up2, *]; done) | (simp [up2, *]; omega) | (simp only [up2_eq]; omega) | (split <;> omega)) dX4_ofCursor_11 (by decide) (fun h11_1 => ?_) (fun h11_1 => ?_)
  · skip
    refine r_iconst (v := (nI 0)) C dX4_ofCursor_18 (by decide) ?_
    refine r_iconst (v := (nI 0)) C dX4_ofCursor_19 (by decide) ?_
    refine d_V (st := []) hX.1.stb C hE (D_fails0 (ba := ba) (ra := ra) (hf := hf) (hq := hq) (kn := kn) (th := th) (sm := sm) (Y := Y)  hX ) pk_X4_fails qm_X4_84 0 8 rfl rfl wm_0 rfl rfl (Nat.le_of_ble_eq_true rfl) dX4_ofCursor_20 ⟨(Nat.le_of_ble_eq_true rfl), (Nat.le_of_ble_eq_true rfl)⟩ ⟨(Nat.le_of_ble_eq_true rfl), (Nat.le_of_ble_eq_true rfl)⟩ ?_
    refine r_w (w' := WM cy ba ra hf hq kn (nI 0) sm ++ Y) rfl ?_
    refine r_ifN_eq (a := 0) (tgt := 30) C (by first | omega | (simp [up2, *]; done) | (simp [up2, *]; omega) | (simp only [up2_eq]; omega) | (split <;> omega)) dX4_ofCursor_23 (by decide) (fun h23_2 => ?_) (fun h23_2 => ?_)
    · skip
      refine r_aload_n C dX4_ofCursor_30 rfl ?_
      refine r_iload_n C dX4_ofCursor_31 rfl ?_
      refine r_iload_n C dX4_ofCursor_32 rfl ?_
      refine d_V (st := []) hX.1.stb C hE (D_cursorNow (ba := ba) (ra := ra) (hf := hf) (hq := hq) (kn := kn) (th := (nI 0)) (sm := sm) (Y := Y) (f := f) (k0 := k0) (q0 := q0) hX hC hM (by first | omega | (simp [up2, *]; done) | (simp [up2, *]; omega) | (simp only [up2_eq]; omega) | (split <;> omega)) (by first | omega | (simp [up2, *]; done) | (simp [up2, *]; omega) | (simp only [up2_eq]; omega) | (split <;> omega))) pk_X4_cursorNow qm_X4_199 0 8 rfl rfl wm_0 rfl rfl (Nat.le_of_ble_eq_true rfl) dX4_ofCursor_33 ⟨(Nat.le_of_ble_eq_true rfl), (Nat.le_of_ble_eq_true rfl)⟩ ⟨(Nat.le_of_ble_eq_true rfl), (Nat.le_of_ble_eq_true rfl)⟩ ?_
      refine r_w (w' := WM cy ba ra hf hq kn (nI 0) sm ++ Y) rfl ?_
      exact r_iret C hr dX4_ofCursor_36 ⟨rfl, rfl⟩ (Nat.le_of_ble_eq_true rfl) (Nat.le_of_ble_eq_true rfl)
    · exact absurd h23_2 (by first | omega | (simp [up2, *]; done) | (simp [up2, *]; omega) | (simp only [up2_eq]; omega) | (split <;> omega))
  · exact absurd h11_1 (by first | omega | (simp [up2, *]; done) | (simp [up2, *]; omega) | (simp only [up2_eq]; omega) | (split <;> omega))
theorem dX4_houseNow_0 : decode cX4_houseNow 0 = .ok (.iconst 0, 1) := dqo_3 (kb_X4_houseNow_0 0 rfl)
theorem dX4_houseNow_1 : decode cX4_houseNow 1 = .ok (.istore_n 2, 1) := dqo_61 (kb_X4_houseNow_0 1 rfl)
theorem dX4_houseNow_2 : decode cX4_houseNow 2 = .ok (.aload_n 0, 1) := dqo_42 (kb_X4_houseNow_0 2 rfl)
theorem dX4_houseNow_3 : decode cX4_houseNow 3 = .ok (.getfield 15, 3) := dqo_180 0 15 (kb_X4_houseNow_0 3 rfl) (kb_X4_houseNow_0 4 rfl) (kb_X4_houseNow_0 5 rfl)
theorem dX4_houseNow_6 : decode cX4_houseNow 6 = .ok (.astore_n 3, 1) := dqo_78 (kb_X4_houseNow_0 6 rfl)
theorem dX4_houseNow_7 : decode cX4_houseNow 7 = .ok (.aload_n 3, 1) := dqo_45 (kb_X4_houseNow_0 7 rfl)
theorem dX4_houseNow_8 : decode cX4_houseNow 8 = .ok (.arraylength, 1) := dqo_190 (kb_X4_houseNow_0 8 rfl)
theorem dX4_houseNow_9 : decode cX4_houseNow 9 = .ok (.istore 4, 2) := dqo_54 4 (kb_X4_houseNow_0 9 rfl) (kb_X4_houseNow_0 10 rfl)
theorem dX4_houseNow_11 : decode cX4_houseNow 11 = .ok (.iconst 0, 1) := dqo_3 (kb_X4_houseNow_0 11 rfl)
theorem dX4_houseNow_12 : decode cX4_houseNow 12 = .ok (.istore 5, 2) := dqo_54 5 (kb_X4_houseNow_0 12 rfl) (kb_X4_houseNow_0 13 rfl)
theorem dX4_houseNow_14 : decode cX4_houseNow 14 = .ok (.iload 5, 2) := dqo_21 5 (kb_X4_houseNow_0 14 rfl) (kb_X4_houseNow_0 15 rfl)
theorem dX4_houseNow_16 : decode cX4_houseNow 16 = .ok (.iload 4, 2) := dqo_21 4 (kb_X4_houseNow_0 16 rfl) (kb_X4_houseNow_0 17 rfl)
theorem dX4_houseNow_18 : decode cX4_houseNow 18 = .ok (.if_icmp .ge 21, 3) := dqo_162 0 21 (by decide) (kb_X4_houseNow_0 18 rfl) (kb_X4_houseNow_0 19 rfl) (kb_X4_houseNow_0 20 rfl)
theorem dX4_houseNow_21 : decode cX4_houseNow 21 = .ok (.aload_n 3, 1) := dqo_45 (kb_X4_houseNow_0 21 rfl)
theorem dX4_houseNow_22 : decode cX4_houseNow 22 = .ok (.iload 5, 2) := dqo_21 5 (kb_X4_houseNow_0 22 rfl) (kb_X4_houseNow_0 23 rfl)
theorem dX4_houseNow_24 : decode cX4_houseNow 24 = .ok (.aaload, 1) := dqo_50 (kb_X4_houseNow_0 24 rfl)
theorem dX4_houseNow_25 : decode cX4_houseNow 25 = .ok (.astore 6, 2) := dqo_58 6 (kb_X4_houseNow_0 25 rfl) (kb_X4_houseNow_0 26 rfl)
theorem dX4_houseNow_27 : decode cX4_houseNow 27 = .ok (.iload_n 2, 1) := dqo_28 (kb_X4_houseNow_0 27 rfl)
theorem dX4_houseNow_28 : decode cX4_houseNow 28 = .ok (.aload 6, 2) := dqo_25 6 (kb_X4_houseNow_0 28 rfl) (kb_X4_houseNow_0 29 rfl)
theorem dX4_houseNow_30 : decode cX4_houseNow 30 = .ok (.arraylength, 1) := dqo_190 (kb_X4_houseNow_0 30 rfl)
theorem dX4_houseNow_31 : decode cX4_houseNow 31 = .ok (.iadd, 1) := dqo_96 (kb_X4_houseNow_0 31 rfl)
theorem dX4_houseNow_32 : decode cX4_houseNow 32 = .ok (.istore_n 2, 1) := dqo_61 (kb_X4_houseNow_0 32 rfl)
theorem dX4_houseNow_33 : decode cX4_houseNow 33 = .ok (.iinc 5 1, 3) := dqo_132 5 1 (by decide) (kb_X4_houseNow_0 33 rfl) (kb_X4_houseNow_0 34 rfl) (kb_X4_houseNow_0 35 rfl)
theorem dX4_houseNow_36 : decode cX4_houseNow 36 = .ok (.goto (-22), 3) := dqo_167 255 234 (by decide) (kb_X4_houseNow_0 36 rfl) (kb_X4_houseNow_0 37 rfl) (kb_X4_houseNow_0 38 rfl)
theorem dX4_houseNow_39 : decode cX4_houseNow 39 = .ok (.iconst 0, 1) := dqo_3 (kb_X4_houseNow_0 39 rfl)
theorem dX4_houseNow_40 : decode cX4_houseNow 40 = .ok (.istore_n 3, 1) := dqo_62 (kb_X4_houseNow_0 40 rfl)
theorem dX4_houseNow_41 : decode cX4_houseNow 41 = .ok (.aload_n 0, 1) := dqo_42 (kb_X4_houseNow_0 41 rfl)
theorem dX4_houseNow_42 : decode cX4_houseNow 42 = .ok (.getfield 32, 3) := dqo_180 0 32 (kb_X4_houseNow_0 42 rfl) (kb_X4_houseNow_0 43 rfl) (kb_X4_houseNow_0 44 rfl)
theorem dX4_houseNow_45 : decode cX4_houseNow 45 = .ok (.astore 4, 2) := dqo_58 4 (kb_X4_houseNow_0 45 rfl) (kb_X4_houseNow_0 46 rfl)
theorem dX4_houseNow_47 : decode cX4_houseNow 47 = .ok (.aload 4, 2) := dqo_25 4 (kb_X4_houseNow_0 47 rfl) (kb_X4_houseNow_0 48 rfl)
theorem dX4_houseNow_49 : decode cX4_houseNow 49 = .ok (.arraylength, 1) := dqo_190 (kb_X4_houseNow_0 49 rfl)
theorem dX4_houseNow_50 : decode cX4_houseNow 50 = .ok (.istore 5, 2) := dqo_54 5 (kb_X4_houseNow_0 50 rfl) (kb_X4_houseNow_0 51 rfl)
theorem dX4_houseNow_52 : decode cX4_houseNow 52 = .ok (.iconst 0, 1) := dqo_3 (kb_X4_houseNow_0 52 rfl)
theorem dX4_houseNow_53 : decode cX4_houseNow 53 = .ok (.istore 6, 2) := dqo_54 6 (kb_X4_houseNow_0 53 rfl) (kb_X4_houseNow_0 54 rfl)
theorem dX4_houseNow_55 : decode cX4_houseNow 55 = .ok (.iload 6, 2) := dqo_21 6 (kb_X4_houseNow_0 55 rfl) (kb_X4_houseNow_0 56 rfl)
theorem dX4_houseNow_57 : decode cX4_houseNow 57 = .ok (.iload 5, 2) := dqo_21 5 (kb_X4_houseNow_0 57 rfl) (kb_X4_houseNow_0 58 rfl)
theorem dX4_houseNow_59 : decode cX4_houseNow 59 = .ok (.if_icmp .ge 24, 3) := dqo_162 0 24 (by decide) (kb_X4_houseNow_0 59 rfl) (kb_X4_houseNow_0 60 rfl) (kb_X4_houseNow_0 61 rfl)
theorem dX4_houseNow_62 : decode cX4_houseNow 62 = .ok (.aload 4, 2) := dqo_25 4 (kb_X4_houseNow_0 62 rfl) (kb_X4_houseNow_0 63 rfl)
theorem dX4_houseNow_64 : decode cX4_houseNow 64 = .ok (.iload 6, 2) := dqo_21 6 (kb_X4_houseNow_1 0 rfl) (kb_X4_houseNow_1 1 rfl)
theorem dX4_houseNow_66 : decode cX4_houseNow 66 = .ok (.baload, 1) := dqo_51 (kb_X4_houseNow_1 2 rfl)
theorem dX4_houseNow_67 : decode cX4_houseNow 67 = .ok (.istore 7, 2) := dqo_54 7 (kb_X4_houseNow_1 3 rfl) (kb_X4_houseNow_1 4 rfl)
theorem dX4_houseNow_69 : decode cX4_houseNow 69 = .ok (.iload_n 3, 1) := dqo_29 (kb_X4_houseNow_1 5 rfl)
theorem dX4_houseNow_70 : decode cX4_houseNow 70 = .ok (.iload 7, 2) := dqo_21 7 (kb_X4_houseNow_1 6 rfl) (kb_X4_houseNow_1 7 rfl)
theorem dX4_houseNow_72 : decode cX4_houseNow 72 = .ok (.invokestatic 136, 3) := dqo_184 0 136 (kb_X4_houseNow_1 8 rfl) (kb_X4_houseNow_1 9 rfl) (kb_X4_houseNow_1 10 rfl)
theorem dX4_houseNow_75 : decode cX4_houseNow 75 = .ok (.iadd, 1) := dqo_96 (kb_X4_houseNow_1 11 rfl)
theorem dX4_houseNow_76 : decode cX4_houseNow 76 = .ok (.istore_n 3, 1) := dqo_62 (kb_X4_houseNow_1 12 rfl)
theorem dX4_houseNow_77 : decode cX4_houseNow 77 = .ok (.iinc 6 1, 3) := dqo_132 6 1 (by decide) (kb_X4_houseNow_1 13 rfl) (kb_X4_houseNow_1 14 rfl) (kb_X4_houseNow_1 15 rfl)
theorem dX4_houseNow_80 : decode cX4_houseNow 80 = .ok (.goto (-25), 3) := dqo_167 255 231 (by decide) (kb_X4_houseNow_1 16 rfl) (kb_X4_houseNow_1 17 rfl) (kb_X4_houseNow_1 18 rfl)
theorem dX4_houseNow_83 : decode cX4_houseNow 83 = .ok (.iconst 4, 1) := dqo_7 (kb_X4_houseNow_1 19 rfl)
theorem dX4_houseNow_84 : decode cX4_houseNow 84 = .ok (.newarray .int, 2) := dqo_188_10 (kb_X4_houseNow_1 20 rfl) (kb_X4_houseNow_1 21 rfl)
theorem dX4_houseNow_86 : decode cX4_houseNow 86 = .ok (.dup, 1) := dqo_89 (kb_X4_houseNow_1 22 rfl)
theorem dX4_houseNow_87 : decode cX4_houseNow 87 = .ok (.iconst 0, 1) := dqo_3 (kb_X4_houseNow_1 23 rfl)
theorem dX4_houseNow_88 : decode cX4_houseNow 88 = .ok (.iload_n 2, 1) := dqo_28 (kb_X4_houseNow_1 24 rfl)
theorem dX4_houseNow_89 : decode cX4_houseNow 89 = .ok (.iastore, 1) := dqo_79 (kb_X4_houseNow_1 25 rfl)
theorem dX4_houseNow_90 : decode cX4_houseNow 90 = .ok (.dup, 1) := dqo_89 (kb_X4_houseNow_1 26 rfl)
theorem dX4_houseNow_91 : decode cX4_houseNow 91 = .ok (.iconst 1, 1) := dqo_4 (kb_X4_houseNow_1 27 rfl)
theorem dX4_houseNow_92 : decode cX4_houseNow 92 = .ok (.aload_n 0, 1) := dqo_42 (kb_X4_houseNow_1 28 rfl)
theorem dX4_houseNow_93 : decode cX4_houseNow 93 = .ok (.invokevirtual 186, 3) := dqo_182 0 186 (kb_X4_houseNow_1 29 rfl) (kb_X4_houseNow_1 30 rfl) (kb_X4_houseNow_1 31 rfl)
theorem dX4_houseNow_96 : decode cX4_houseNow 96 = .ok (.iastore, 1) := dqo_79 (kb_X4_houseNow_1 32 rfl)
theorem dX4_houseNow_97 : decode cX4_houseNow 97 = .ok (.dup, 1) := dqo_89 (kb_X4_houseNow_1 33 rfl)
theorem dX4_houseNow_98 : decode cX4_houseNow 98 = .ok (.iconst 2, 1) := dqo_5 (kb_X4_houseNow_1 34 rfl)
theorem dX4_houseNow_99 : decode cX4_houseNow 99 = .ok (.iload_n 3, 1) := dqo_29 (kb_X4_houseNow_1 35 rfl)
theorem dX4_houseNow_100 : decode cX4_houseNow 100 = .ok (.iastore, 1) := dqo_79 (kb_X4_houseNow_1 36 rfl)
theorem dX4_houseNow_101 : decode cX4_houseNow 101 = .ok (.dup, 1) := dqo_89 (kb_X4_houseNow_1 37 rfl)
theorem dX4_houseNow_102 : decode cX4_houseNow 102 = .ok (.iconst 3, 1) := dqo_6 (kb_X4_houseNow_1 38 rfl)
theorem dX4_houseNow_103 : decode cX4_houseNow 103 = .ok (.aload_n 0, 1) := dqo_42 (kb_X4_houseNow_1 39 rfl)
theorem dX4_houseNow_104 : decode cX4_houseNow 104 = .ok (.getfield 202, 3) := dqo_180 0 202 (kb_X4_houseNow_1 40 rfl) (kb_X4_houseNow_1 41 rfl) (kb_X4_houseNow_1 42 rfl)
theorem dX4_houseNow_107 : decode cX4_houseNow 107 = .ok (.iastore, 1) := dqo_79 (kb_X4_houseNow_1 43 rfl)
theorem dX4_houseNow_108 : decode cX4_houseNow 108 = .ok (.astore 4, 2) := dqo_58 4 (kb_X4_houseNow_1 44 rfl) (kb_X4_houseNow_1 45 rfl)
theorem dX4_houseNow_110 : decode cX4_houseNow 110 = .ok (.aload 4, 2) := dqo_25 4 (kb_X4_houseNow_1 46 rfl) (kb_X4_houseNow_1 47 rfl)
theorem dX4_houseNow_112 : decode cX4_houseNow 112 = .ok (.iload_n 1, 1) := dqo_27 (kb_X4_houseNow_1 48 rfl)
theorem dX4_houseNow_113 : decode cX4_houseNow 113 = .ok (.iaload, 1) := dqo_46 (kb_X4_houseNow_1 49 rfl)
theorem dX4_houseNow_114 : decode cX4_houseNow 114 = .ok (.ireturn, 1) := dqo_172 (kb_X4_houseNow_1 50 rfl)
set_option maxRecDepth 100000 in
set_option maxHeartbeats 4000000 in
theorem D_houseNow_0 {l : Launch} {D : va_G} {cy : Nat → ClassId} {X : (Nat → Prop) → State → Heap → Prop} {ba ra : Nat → Nat} {hf : Nat → Nat → Nat} {hq : Nat → Nat → Int32} {kn th : Int32} {sm : Int64} {Y : va_W} {f : Nat → Nat → Nat} {r : Nat → Nat → Int32}  (hX : EnvM X cy) (hC : CInv f) (hM : MR f r hf hq) : Cd l D cy X yX4_houseNow cX4_houseNow 8 (some .int) (rmk 3 1 4 90) [.ref (ba 9), .int (nI 0)] (WM cy ba ra hf hq kn th sm ++ Y) (some (.int (hoM hf kn 0))) (WM cy ba ra hf hq kn th sm ++ Y) := by
  have hG := hM.1
  have h5M := hM.h5M hC
  have h4M := hC.h4M
  have h9a := hM.h9a hC
  have h6a := hM.h6a
  have hU := hM.hU hC
  refine Cm.of [some (.ref (ba 9)), some (.int (nI 0)), none, none, none, none, none, none] pn_X4 rfl (Nat.le_of_ble_eq_true rfl) ?_
  intro p e s m args below meth c A C hE hr hnt hn
  refine r_iconst (v := (nI 0)) C dX4_houseNow_0 (by decide) ?_
  refine r_istore_n C dX4_houseNow_1 (by decide) rfl ?_
  refine r_aload_n C dX4_houseNow_2 rfl ?_
  refine m_get (v := .ref (ba 0)) C 0 (by decide) qf_X4_15 rfl rfl dX4_houseNow_3 ?_
  refine r_astore_n C dX4_houseNow_6 (by decide) rfl ?_
  refine r_aload_n C dX4_houseNow_7 rfl ?_
  refine m_olen C dX4_houseNow_8 ?_
  refine r_istore C dX4_houseNow_9 (by decide) rfl ?_
  refine r_iconst (v := (nI 0)) C dX4_houseNow_11 (by decide) ?_
  refine r_istore C dX4_houseNow_12 (by decide) rfl ?_
  have L14 : ∀ (d : Nat) (k : Nat) (z : Nat), (hk : k + d = 4) → (hz : z ≤ 12 * k) → (hF : smF (hf 4) d k z = smF (hf 4) 4 0 0) → vC p l e (rmk 3 1 4 90) s m args below meth c D A (vx_MQ below (vG (fun v1 w1 => v1 = (some (.int (hoM hf kn 0))) ∧ w1 = WM cy ba ra hf hq kn th sm ++ Y) D vwCl A) (vGX (fun _ => False) D vwCl (WM cy ba ra hf hq kn th sm ++ Y) A) args s (rmk 3 1 4 90).cells (rmk 3 1 4 90).slots A) 8 0 0 (WM cy ba ra hf hq kn th sm ++ Y) [some (.ref (ba 9)), some (.int (nI 0)), some (.int (nI z)), some (.ref (ba 0)), some (.int (nI 4)), some (.int (nI k)), none, none] 14 [] := by
    intro d
    induction d with
    | zero =>
      intro k z hk hz hF
      refine r_iload C dX4_houseNow_14 rfl ?_
      refine r_iload C dX4_houseNow_16 rfl ?_
      refine r_icN_ge (a := k) (b := 4) (tgt := 39) C (by first | omega | (simp [up2, *]; done) | (simp [up2, *]; omega) | (simp only [up2_eq]; omega) | (split <;> omega)) (by first | omega | (simp [up2, *]; done) | (simp [up2, *]; omega) | (simp only [up2_eq]; omega) | (split <;> omega)) dX4_houseNow_18 (by decide) (fun h18_1 => ?_) (fun h18_1 => ?_)
      · first
        | exfalso; first | omega | contradiction
        | skip
          have e9 : z = smF (hf 4) 4 0 0 := hF
          subst e9
          refine r_iconst (v := (nI 0)) C dX4_houseNow_39 (by decide) ?_
          refine r_istore_n C dX4_houseNow_40 (by decide) rfl ?_
          refine r_aload_n C dX4_houseNow_41 rfl ?_
          refine m_get (v := .ref (ba 5)) C 5 (by decide) qf_X4_32 rfl rfl dX4_houseNow_42 ?_
          refine r_astore C dX4_houseNow_45 (by decide) rfl ?_
          refine r_aload C dX4_houseNow_47 rfl ?_
          refine m_alen C 4 (by decide) dX4_houseNow_49 ?_
          refine r_istore C dX4_houseNow_50 (by decide) rfl ?_
          refine r_iconst (v := (nI 0)) C dX4_houseNow_52 (by decide) ?_
          refine r_istore C dX4_houseNow_53 (by decide) rfl ?_
          have L55 : ∀ (d : Nat) (k : Nat) (z3 : Nat), (hk3 : k + d = 3) → (hz3 : z3 ≤ k) → (hF3 : smF (hf 9) d k z3 = smF (hf 9) 3 0 0) → vC p l e (rmk 3 1 4 90) s m args below meth c D A (vx_MQ below (vG (fun v1 w1 => v1 = (some (.int (hoM hf kn 0))) ∧ w1 = WM cy ba ra hf hq kn th sm ++ Y) D vwCl A) (vGX (fun _ => False) D vwCl (WM cy ba ra hf hq kn th sm ++ Y) A) args s (rmk 3 1 4 90).cells (rmk 3 1 4 90).slots A) 8 0 0 (WM cy ba ra hf hq kn th sm ++ Y) [some (.ref (ba 9)), some (.int (nI 0)), some (.int (nI (smF (hf 4) 4 0 0))), some (.int (nI z3)), some (.ref (ba 5)), some (.int (nI 3)), some (.int (nI k)), none] 55 [] := by
            intro d
            induction d with
            | zero =>
              intro k z3 hk3 hz3 hF3
              refine r_iload C dX4_houseNow_55 rfl ?_
              refine r_iload C dX4_houseNow_57 rfl ?_
              refine r_icN_ge (a := k) (b := 3) (tgt := 83) C (by first | omega | (simp [up2, *]; done) | (simp [up2, *]; omega) | (simp only [up2_eq]; omega) | (split <;> omega)) (by first | omega | (simp [up2, *]; done) | (simp [up2, *]; omega) | (simp only [up2_eq]; omega) | (split <;> omega)) dX4_houseNow_59 (by decide) (fun h59_2 => ?_) (fun h59_2 => ?_)
              · first
                | exfalso; first | omega | contradiction
                | skip
                  have e9 : z3 = smF (hf 9) 3 0 0 := hF3
                  subst e9
                  refine r_iconst (v := (nI 4)) C dX4_houseNow_83 (by decide) ?_
                  refine r_newT C .int .int 1 rfl (by simp) qa_int (n := 4) (show 4 < 1000000 from Nat.lt_of_le_of_lt (show 4 ≤ 4 from (Nat.le_refl _)) (by decide)) (1) (4) (Nat.le_of_ble_eq_true rfl) (Nat.add_le_add (Nat.le_refl _) (show 4 ≤ 4 from (Nat.le_refl _))) (Nat.le_of_ble_eq_true rfl) (Nat.le_of_ble_eq_true rfl) dX4_houseNow_84 (fun b_3 => ?_)
                  refine r_w (w' := WM cy ba ra hf hq kn th sm ++ (Y ++ [(b_3, .inl (cy 1, 4, .inl (fun _ => 0)))])) (by simp only [List.append_assoc, List.cons_append, List.nil_append]) ?_
                  refine r_dup C dX4_houseNow_86 rfl ?_
                  refine r_iconst (v := (nI 0)) C dX4_houseNow_87 (by decide) ?_
                  refine r_iload_n C dX4_houseNow_88 rfl ?_
                  refine x_ast C (i := 0) (f := fun _ => 0) (E' := [(b_3, .inl (cy 1, 4, .inl (upd (fun _ => 0) 0 (nI (smF (hf 4) 4 0 0)))))]) 0 rfl (by first | omega | (simp [up2, *]; done) | (simp [up2, *]; omega) | (simp only [up2_eq]; omega) | (split <;> omega)) (by first | omega | (simp [up2, *]; done) | (simp [up2, *]; omega) | (simp only [up2_eq]; omega) | (split <;> omega)) rfl dX4_houseNow_89 ?_
                  refine r_dup C dX4_houseNow_90 rfl ?_
                  refine r_iconst (v := (nI 1)) C dX4_houseNow_91 (by decide) ?_
                  refine r_aload_n C dX4_houseNow_92 rfl ?_
                  refine d_V (st := [.int (nI 1), .ref b_3, .ref b_3]) hX.1.stb C hE (D_windows (ba := ba) (ra := ra) (hf := hf) (hq := hq) (kn := kn) (th := th) (sm := sm)  hX (fun w a b => by have h8 := h5M w a b; omega)) pk_X4_windows qm_X4_186 0 8 rfl rfl wm_0 rfl rfl (Nat.le_of_ble_eq_true rfl) dX4_houseNow_93 ⟨(Nat.le_of_ble_eq_true rfl), (Nat.le_of_ble_eq_true rfl)⟩ ⟨(Nat.le_of_ble_eq_true rfl), (Nat.le_of_ble_eq_true rfl)⟩ ?_
                  refine r_w (w' := WM cy ba ra hf hq kn th sm ++ (Y ++ [(b_3, .inl (cy 1, 4, .inl (upd (fun _ => 0) 0 (nI (smF (hf 4) 4 0 0)))))])) rfl ?_
                  refine x_ast C (i := 1) (f := upd (fun _ => 0) 0 (nI (smF (hf 4) 4 0 0))) (E' := [(b_3, .inl (cy 1, 4, .inl (upd (upd (fun _ => 0) 0 (nI (smF (hf 4) 4 0 0))) 1 (nI (smF (hf 5) 4 4 0)))))]) 0 rfl (by first | omega | (simp [up2, *]; done) | (simp [up2, *]; omega) | (simp only [up2_eq]; omega) | (split <;> omega)) (by first | omega | (simp [up2, *]; done) | (simp [up2, *]; omega) | (simp only [up2_eq]; omega) | (split <;> omega)) rfl dX4_houseNow_96 ?_
                  refine r_dup C dX4_houseNow_97 rfl ?_
                  refine r_iconst (v := (nI 2)) C dX4_houseNow_98 (by decide) ?_
                  refine r_iload_n C dX4_houseNow_99 rfl ?_
                  refine x_ast C (i := 2) (f := upd (upd (fun _ => 0) 0 (nI (smF (hf 4) 4 0 0))) 1 (nI (smF (hf 5) 4 4 0))) (E' := [(b_3, .inl (cy 1, 4, .inl (upd (upd (upd (fun _ => 0) 0 (nI (smF (hf 4) 4 0 0))) 1 (nI (smF (hf 5) 4 4 0))) 2 (nI (smF (hf 9) 3 0 0)))))]) 0 rfl (by first | omega | (simp [up2, *]; done) | (simp [up2, *]; omega) | (simp only [up2_eq]; omega) | (split <;> omega)) (by first | omega | (simp [up2, *]; done) | (simp [up2, *]; omega) | (simp only [up2_eq]; omega) | (split <;> omega)) rfl dX4_houseNow_100 ?_
                  refine r_dup C dX4_houseNow_101 rfl ?_
                  refine r_iconst (v := (nI 3)) C dX4_houseNow_102 (by decide) ?_
                  refine r_aload_n C dX4_houseNow_103 rfl ?_
                  refine m_get (v := .int kn) C 9 (by decide) qf_X4_202 rfl rfl dX4_houseNow_104 ?_
                  refine x_ast C (i := 3) (f := upd (upd (upd (fun _ => 0) 0 (nI (smF (hf 4) 4 0 0))) 1 (nI (smF (hf 5) 4 4 0))) 2 (nI (smF (hf 9) 3 0 0))) (E' := [(b_3, .inl (cy 1, 4, .inl (upd (upd (upd (upd (fun _ => 0) 0 (nI (smF (hf 4) 4 0 0))) 1 (nI (smF (hf 5) 4 4 0))) 2 (nI (smF (hf 9) 3 0 0))) 3 kn)))]) 0 rfl (by first | omega | (simp [up2, *]; done) | (simp [up2, *]; omega) | (simp only [up2_eq]; omega) | (split <;> omega)) (by first | omega | (simp [up2, *]; done) | (simp [up2, *]; omega) | (simp only [up2_eq]; omega) | (split <;> omega)) rfl dX4_houseNow_107 ?_
                  refine r_astore C dX4_houseNow_108 (by decide) rfl ?_
                  refine r_aload C dX4_houseNow_110 rfl ?_
                  refine r_iload_n C dX4_houseNow_112 rfl ?_
                  refine x_ald C (i := 0) (f := upd (upd (upd (upd (fun _ => 0) 0 (nI (smF (hf 4) 4 0 0))) 1 (nI (smF (hf 5) 4 4 0))) 2 (nI (smF (hf 9) 3 0 0))) 3 kn) 0 rfl (by first | omega | (simp [up2, *]; done) | (simp [up2, *]; omega) | (simp only [up2_eq]; omega) | (split <;> omega)) (by first | omega | (simp [up2, *]; done) | (simp [up2, *]; omega) | (simp only [up2_eq]; omega) | (split <;> omega)) dX4_houseNow_113 ?_
                  refine r_eqi (show (upd (upd (upd (upd (fun _ => 0) 0 (nI (smF (hf 4) 4 0 0))) 1 (nI (smF (hf 5) 4 4 0))) 2 (nI (smF (hf 9) 3 0 0))) 3 kn) 0 = (nI (smF (hf 4) 4 0 0)) from rfl) ?_
                  refine r_pre ?_
                  exact r_iret C hr dX4_houseNow_114 ⟨rfl, rfl⟩ (Nat.le_of_ble_eq_true rfl) (Nat.le_of_ble_eq_true rfl)
              · first
                | exfalso; first | omega | contradiction
                | skip
                  refine r_aload C dX4_houseNow_62 rfl ?_
                  refine r_iload C dX4_houseNow_64 rfl ?_
                  refine m_zld (i := k) (z := k) (v := hf 9 k) C 4 (by decide) (by decide) (show k < 3 from (by first | omega | (simp [up2, *]; done) | (simp [up2, *]; omega) | (simp only [up2_eq]; omega) | (split <;> omega))) (show 0 + k = k from (by omega)) rfl dX4_houseNow_66 ?_
                  refine r_istore C dX4_houseNow_67 (by decide) rfl ?_
                  refine r_iload_n C dX4_houseNow_69 rfl ?_
                  refine r_iload C dX4_houseNow_70 rfl ?_
                  refine d_S (st := [.int (nI z3)]) hX.1.stb C hE (D_one (ba := ba) (ra := ra) (hf := hf) (hq := hq) (kn := kn) (th := th) (sm := sm) (Y := Y) (b0 := (hf 9 k)) hX (h9a k (by omega))) pk_X4_one qm_X4_136 rfl rfl (Nat.le_of_ble_eq_true rfl) dX4_houseNow_72 ⟨(Nat.le_of_ble_eq_true rfl), (Nat.le_of_ble_eq_true rfl)⟩ ⟨(Nat.le_of_ble_eq_true rfl), (Nat.le_of_ble_eq_true rfl)⟩ ?_
                  refine r_w (w' := WM cy ba ra hf hq kn th sm ++ Y) rfl ?_
                  refine r_iaddN C dX4_houseNow_75 ?_
                  refine r_istore_n C dX4_houseNow_76 (by decide) rfl ?_
                  refine r_iincN C dX4_houseNow_77 rfl (by decide) rfl ?_
                  refine r_goto (tgt := 55) C dX4_houseNow_80 (by decide) ?_
                  refine r_drop 7 ?_
                  exact (Nat.not_lt_zero _ (by omega)).elim
            | succ d ih_L55 =>
              intro k z3 hk3 hz3 hF3
              refine r_iload C dX4_houseNow_55 rfl ?_
              refine r_iload C dX4_houseNow_57 rfl ?_
              refine r_icN_ge (a := k) (b := 3) (tgt := 83) C (by first | omega | (simp [up2, *]; done) | (simp [up2, *]; omega) | (simp only [up2_eq]; omega) | (split <;> omega)) (by first | omega | (simp [up2, *]; done) | (simp [up2, *]; omega) | (simp only [up2_eq]; omega) | (split <;> omega)) dX4_houseNow_59 (by decide) (fun h59_4 => ?_) (fun h59_4 => ?_)
              · first
                | exfalso; first | omega | contradiction
                | skip
                  have e9 : z3 = smF (hf 9) 3 0 0 := hF3
                  subst e9
                  refine r_iconst (v := (nI 4)) C dX4_houseNow_83 (by decide) ?_
                  refine r_newT C .int .int 1 rfl (by simp) qa_int (n := 4) (show 4 < 1000000 from Nat.lt_of_le_of_lt (show 4 ≤ 4 from (Nat.le_refl _)) (by decide)) (1) (4) (Nat.le_of_ble_eq_true rfl) (Nat.add_le_add (Nat.le_refl _) (show 4 ≤ 4 from (Nat.le_refl _))) (Nat.le_of_ble_eq_true rfl) (Nat.le_of_ble_eq_true rfl) dX4_houseNow_84 (fun b_5 => ?_)
                  refine r_w (w' := WM cy ba ra hf hq kn th sm ++ (Y ++ [(b_5, .inl (cy 1, 4, .inl (fun _ => 0)))])) (by simp only [List.append_assoc, List.cons_append, List.nil_append]) ?_
                  refine r_dup C dX4_houseNow_86 rfl ?_
                  refine r_iconst (v := (nI 0)) C dX4_houseNow_87 (by decide) ?_
                  refine r_iload_n C dX4_houseNow_88 rfl ?_
                  refine x_ast C (i := 0) (f := fun _ => 0) (E' := [(b_5, .inl (cy 1, 4, .inl (upd (fun _ => 0) 0 (nI (smF (hf 4) 4 0 0)))))]) 0 rfl (by first | omega | (simp [up2, *]; done) | (simp [up2, *]; omega) | (simp only [up2_eq]; omega) | (split <;> omega)) (by first | omega | (simp [up2, *]; done) | (simp [up2, *]; omega) | (simp only [up2_eq]; omega) | (split <;> omega)) rfl dX4_houseNow_89 ?_
                  refine r_dup C dX4_houseNow_90 rfl ?_
                  refine r_iconst (v := (nI 1)) C dX4_houseNow_91 (by decide) ?_
                  refine r_aload_n C dX4_houseNow_92 rfl ?_
                  refine d_V (st := [.int (nI 1), .ref b_5, .ref b_5]) hX.1.stb C hE (D_windows (ba := ba) (ra := ra) (hf := hf) (hq := hq) (kn := kn) (th := th) (sm := sm)  hX (fun w a b => by have h8 := h5M w a b; omega)) pk_X4_windows qm_X4_186 0 8 rfl rfl wm_0 rfl rfl (Nat.le_of_ble_eq_true rfl) dX4_houseNow_93 ⟨(Nat.le_of_ble_eq_true rfl), (Nat.le_of_ble_eq_true rfl)⟩ ⟨(Nat.le_of_ble_eq_true rfl), (Nat.le_of_ble_eq_true rfl)⟩ ?_
                  refine r_w (w' := WM cy ba ra hf hq kn th sm ++ (Y ++ [(b_5, .inl (cy 1, 4, .inl (upd (fun _ => 0) 0 (nI (smF (hf 4) 4 0 0)))))])) rfl ?_
                  refine x_ast C (i := 1) (f := upd (fun _ => 0) 0 (nI (smF (hf 4) 4 0 0))) (E' := [(b_5, .inl (cy 1, 4, .inl (upd (upd (fun _ => 0) 0 (nI (smF (hf 4) 4 0 0))) 1 (nI (smF (hf 5) 4 4 0)))))]) 0 rfl (by first | omega | (simp [up2, *]; done) | (simp [up2, *]; omega) | (simp only [up2_eq]; omega) | (split <;> omega)) (by first | omega | (simp [up2, *]; done) | (simp [up2, *]; omega) | (simp only [up2_eq]; omega) | (split <;> omega)) rfl dX4_houseNow_96 ?_
                  refine r_dup C dX4_houseNow_97 rfl ?_
                  refine r_iconst (v := (nI 2)) C dX4_houseNow_98 (by decide) ?_
                  refine r_iload_n C dX4_houseNow_99 rfl ?_
                  refine x_ast C (i := 2) (f := upd (upd (fun _ => 0) 0 (nI (smF (hf 4) 4 0 0))) 1 (nI (smF (hf 5) 4 4 0))) (E' := [(b_5, .inl (cy 1, 4, .inl (upd (upd (upd (fun _ => 0) 0 (nI (smF (hf 4) 4 0 0))) 1 (nI (smF (hf 5) 4 4 0))) 2 (nI (smF (hf 9) 3 0 0)))))]) 0 rfl (by first | omega | (simp [up2, *]; done) | (simp [up2, *]; omega) | (simp only [up2_eq]; omega) | (split <;> omega)) (by first | omega | (simp [up2, *]; done) | (simp [up2, *]; omega) | (simp only [up2_eq]; omega) | (split <;> omega)) rfl dX4_houseNow_100 ?_
                  refine r_dup C dX4_houseNow_101 rfl ?_
                  refine r_iconst (v := (nI 3)) C dX4_houseNow_102 (by decide) ?_
                  refine r_aload_n C dX4_houseNow_103 rfl ?_
                  refine m_get (v := .int kn) C 9 (by decide) qf_X4_202 rfl rfl dX4_houseNow_104 ?_
                  refine x_ast C (i := 3) (f := upd (upd (upd (fun _ => 0) 0 (nI (smF (hf 4) 4 0 0))) 1 (nI (smF (hf 5) 4 4 0))) 2 (nI (smF (hf 9) 3 0 0))) (E' := [(b_5, .inl (cy 1, 4, .inl (upd (upd (upd (upd (fun _ => 0) 0 (nI (smF (hf 4) 4 0 0))) 1 (nI (smF (hf 5) 4 4 0))) 2 (nI (smF (hf 9) 3 0 0))) 3 kn)))]) 0 rfl (by first | omega | (simp [up2, *]; done) | (simp [up2, *]; omega) | (simp only [up2_eq]; omega) | (split <;> omega)) (by first | omega | (simp [up2, *]; done) | (simp [up2, *]; omega) | (simp only [up2_eq]; omega) | (split <;> omega)) rfl dX4_houseNow_107 ?_
                  refine r_astore C dX4_houseNow_108 (by decide) rfl ?_
                  refine r_aload C dX4_houseNow_110 rfl ?_
                  refine r_iload_n C dX4_houseNow_112 rfl ?_
                  refine x_ald C (i := 0) (f := upd (upd (upd (upd (fun _ => 0) 0 (nI (smF (hf 4) 4 0 0))) 1 (nI (smF (hf 5) 4 4 0))) 2 (nI (smF (hf 9) 3 0 0))) 3 kn) 0 rfl (by first | omega | (simp [up2, *]; done) | (simp [up2, *]; omega) | (simp only [up2_eq]; omega) | (split <;> omega)) (by first | omega | (simp [up2, *]; done) | (simp [up2, *]; omega) | (simp only [up2_eq]; omega) | (split <;> omega)) dX4_houseNow_113 ?_
                  refine r_eqi (show (upd (upd (upd (upd (fun _ => 0) 0 (nI (smF (hf 4) 4 0 0))) 1 (nI (smF (hf 5) 4 4 0))) 2 (nI (smF (hf 9) 3 0 0))) 3 kn) 0 = (nI (smF (hf 4) 4 0 0)) from rfl) ?_
                  refine r_pre ?_
                  exact r_iret C hr dX4_houseNow_114 ⟨rfl, rfl⟩ (Nat.le_of_ble_eq_true rfl) (Nat.le_of_ble_eq_true rfl)
              · first
                | exfalso; first | omega | contradiction
                | skip
                  refine r_aload C dX4_houseNow_62 rfl ?_
                  refine r_iload C dX4_houseNow_64 rfl ?_
                  refine m_zld (i := k) (z := k) (v := hf 9 k) C 4 (by decide) (by decide) (show k < 3 from (by first | omega | (simp [up2, *]; done) | (simp [up2, *]; omega) | (simp only [up2_eq]; omega) | (split <;> omega))) (show 0 + k = k from (by omega)) rfl dX4_houseNow_66 ?_
                  refine r_istore C dX4_houseNow_67 (by decide) rfl ?_
                  refine r_iload_n C dX4_houseNow_69 rfl ?_
                  refine r_iload C dX4_houseNow_70 rfl ?_
                  refine d_S (st := [.int (nI z3)]) hX.1.stb C hE (D_one (ba := ba) (ra := ra) (hf := hf) (hq := hq) (kn := kn) (th := th) (sm := sm) (Y := Y) (b0 := (hf 9 k)) hX (h9a k (by omega))) pk_X4_one qm_X4_136 rfl rfl (Nat.le_of_ble_eq_true rfl) dX4_houseNow_72 ⟨(Nat.le_of_ble_eq_true rfl), (Nat.le_of_ble_eq_true rfl)⟩ ⟨(Nat.le_of_ble_eq_true rfl), (Nat.le_of_ble_eq_true rfl)⟩ ?_
                  refine r_w (w' := WM cy ba ra hf hq kn th sm ++ Y) rfl ?_
                  refine r_iaddN C dX4_houseNow_75 ?_
                  refine r_istore_n C dX4_houseNow_76 (by decide) rfl ?_
                  refine r_iincN C dX4_houseNow_77 rfl (by decide) rfl ?_
                  refine r_goto (tgt := 55) C dX4_houseNow_80 (by decide) ?_
                  refine r_drop 7 ?_
                  exact ih_L55 (k + 1) (z3 + (hf 9 k)) (by first | omega | (simp [up2, *]; done) | (simp [up2, *]; omega) | (simp only [up2_eq]; omega) | (split <;> omega)) (by have h8 := h9a k (by omega); omega) (by rw [← hF3]; rfl)
          exact L55 3 0 0 (by first | omega | (simp [up2, *]; done) | (simp [up2, *]; omega) | (simp only [up2_eq]; omega) | (split <;> omega)) (by omega) rfl
      · first
        | exfalso; first | omega | contradiction
        | skip
          refine r_aload_n C dX4_houseNow_21 rfl ?_
          refine r_iload C dX4_houseNow_22 rfl ?_
          refine m_rows (i := k) C (by first | omega | (simp [up2, *]; done) | (simp [up2, *]; omega) | (simp only [up2_eq]; omega) | (split <;> omega)) dX4_houseNow_24 ?_
          refine r_astore C dX4_houseNow_25 (by decide) rfl ?_
          refine r_iload_n C dX4_houseNow_27 rfl ?_
          refine r_aload C dX4_houseNow_28 rfl ?_
          refine m_rlen (i := k) (v := hf 4 k) C (by first | omega | (simp [up2, *]; done) | (simp [up2, *]; omega) | (simp only [up2_eq]; omega) | (split <;> omega)) rfl dX4_houseNow_30 ?_
          refine r_iaddN C dX4_houseNow_31 ?_
          refine r_istore_n C dX4_houseNow_32 (by decide) rfl ?_
          refine r_iincN C dX4_houseNow_33 rfl (by decide) rfl ?_
          refine r_goto (tgt := 14) C dX4_houseNow_36 (by decide) ?_
          refine r_drop 6 ?_
          exact (Nat.not_lt_zero _ (by omega)).elim
    | succ d ih_L14 =>
      intro k z hk hz hF
      refine r_iload C dX4_houseNow_14 rfl ?_
      refine r_iload C dX4_houseNow_16 rfl ?_
      refine r_icN_ge (a := k) (b := 4) (tgt := 39) C (by first | omega | (simp [up2, *]; done) | (simp [up2, *]; omega) | (simp only [up2_eq]; omega) | (split <;> omega)) (by first | omega | (simp [up2, *]; done) | (simp [up2, *]; omega) | (simp only [up2_eq]; omega) | (split <;> omega)) dX4_houseNow_18 (by decide) (fun h18_6 => ?_) (fun h18_6 => ?_)
      · first
        | exfalso; first | omega | contradiction
        | skip
          have e9 : z = smF (hf 4) 4 0 0 := hF
          subst e9
          refine r_iconst (v := (nI 0)) C dX4_houseNow_39 (by decide) ?_
          refine r_istore_n C dX4_houseNow_40 (by decide) rfl ?_
          refine r_aload_n C dX4_houseNow_41 rfl ?_
          refine m_get (v := .ref (ba 5)) C 5 (by decide) qf_X4_32 rfl rfl dX4_houseNow_42 ?_
          refine r_astore C dX4_houseNow_45 (by decide) rfl ?_
          refine r_aload C dX4_houseNow_47 rfl ?_
          refine m_alen C 4 (by decide) dX4_houseNow_49 ?_
          refine r_istore C dX4_houseNow_50 (by decide) rfl ?_
          refine r_iconst (v := (nI 0)) C dX4_houseNow_52 (by decide) ?_
          refine r_istore C dX4_houseNow_53 (by decide) rfl ?_
          have L55 : ∀ (d : Nat) (k : Nat) (z3 : Nat), (hk3 : k + d = 3) → (hz3 : z3 ≤ k) → (hF3 : smF (hf 9) d k z3 = smF (hf 9) 3 0 0) → vC p l e (rmk 3 1 4 90) s m args below meth c D A (vx_MQ below (vG (fun v1 w1 => v1 = (some (.int (hoM hf kn 0))) ∧ w1 = WM cy ba ra hf hq kn th sm ++ Y) D vwCl A) (vGX (fun _ => False) D vwCl (WM cy ba ra hf hq kn th sm ++ Y) A) args s (rmk 3 1 4 90).cells (rmk 3 1 4 90).slots A) 8 0 0 (WM cy ba ra hf hq kn th sm ++ Y) [some (.ref (ba 9)), some (.int (nI 0)), some (.int (nI (smF (hf 4) 4 0 0))), some (.int (nI z3)), some (.ref (ba 5)), some (.int (nI 3)), some (.int (nI k)), none] 55 [] := by
            intro d
            induction d with
            | zero =>
              intro k z3 hk3 hz3 hF3
              refine r_iload C dX4_houseNow_55 rfl ?_
              refine r_iload C dX4_houseNow_57 rfl ?_
              refine r_icN_ge (a := k) (b := 3) (tgt := 83) C (by first | omega | (simp [up2, *]; done) | (simp [up2, *]; omega) | (simp only [up2_eq]; omega) | (split <;> omega)) (by first | omega | (simp [up2, *]; done) | (simp [up2, *]; omega) | (simp only [up2_eq]; omega) | (split <;> omega)) dX4_houseNow_59 (by decide) (fun h59_7 => ?_) (fun h59_7 => ?_)
              · first
                | exfalso; first | omega | contradiction
                | skip
                  have e9 : z3 = smF (hf 9) 3 0 0 := hF3
                  subst e9
                  refine r_iconst (v := (nI 4)) C dX4_houseNow_83 (by decide) ?_
                  refine r_newT C .int .int 1 rfl (by simp) qa_int (n := 4) (show 4 < 1000000 from Nat.lt_of_le_of_lt (show 4 ≤ 4 from (Nat.le_refl _)) (by decide)) (1) (4) (Nat.le_of_ble_eq_true rfl) (Nat.add_le_add (Nat.le_refl _) (show 4 ≤ 4 from (Nat.le_refl _))) (Nat.le_of_ble_eq_true rfl) (Nat.le_of_ble_eq_true rfl) dX4_houseNow_84 (fun b_8 => ?_)
                  refine r_w (w' := WM cy ba ra hf hq kn th sm ++ (Y ++ [(b_8, .inl (cy 1, 4, .inl (fun _ => 0)))])) (by simp only [List.append_assoc, List.cons_append, List.nil_append]) ?_
                  refine r_dup C dX4_houseNow_86 rfl ?_
                  refine r_iconst (v := (nI 0)) C dX4_houseNow_87 (by decide) ?_
                  refine r_iload_n C dX4_houseNow_88 rfl ?_
                  refine x_ast C (i := 0) (f := fun _ => 0) (E' := [(b_8, .inl (cy 1, 4, .inl (upd (fun _ => 0) 0 (nI (smF (hf 4) 4 0 0)))))]) 0 rfl (by first | omega | (simp [up2, *]; done) | (simp [up2, *]; omega) | (simp only [up2_eq]; omega) | (split <;> omega)) (by first | omega | (simp [up2, *]; done) | (simp [up2, *]; omega) | (simp only [up2_eq]; omega) | (split <;> omega)) rfl dX4_houseNow_89 ?_
                  refine r_dup C dX4_houseNow_90 rfl ?_
                  refine r_iconst (v := (nI 1)) C dX4_houseNow_91 (by decide) ?_
                  refine r_aload_n C dX4_houseNow_92 rfl ?_
                  refine d_V (st := [.int (nI 1), .ref b_8, .ref b_8]) hX.1.stb C hE (D_windows (ba := ba) (ra := ra) (hf := hf) (hq := hq) (kn := kn) (th := th) (sm := sm)  hX (fun w a b => by have h8 := h5M w a b; omega)) pk_X4_windows qm_X4_186 0 8 rfl rfl wm_0 rfl rfl (Nat.le_of_ble_eq_true rfl) dX4_houseNow_93 ⟨(Nat.le_of_ble_eq_true rfl), (Nat.le_of_ble_eq_true rfl)⟩ ⟨(Nat.le_of_ble_eq_true rfl), (Nat.le_of_ble_eq_true rfl)⟩ ?_
                  refine r_w (w' := WM cy ba ra hf hq kn th sm ++ (Y ++ [(b_8, .inl (cy 1, 4, .inl (upd (fun _ => 0) 0 (nI (smF (hf 4) 4 0 0)))))])) rfl ?_
                  refine x_ast C (i := 1) (f := upd (fun _ => 0) 0 (nI (smF (hf 4) 4 0 0))) (E' := [(b_8, .inl (cy 1, 4, .inl (upd (upd (fun _ => 0) 0 (nI (smF (hf 4) 4 0 0))) 1 (nI (smF (hf 5) 4 4 0)))))]) 0 rfl (by first | omega | (simp [up2, *]; done) | (simp [up2, *]; omega) | (simp only [up2_eq]; omega) | (split <;> omega)) (by first | omega | (simp [up2, *]; done) | (simp [up2, *]; omega) | (simp only [up2_eq]; omega) | (split <;> omega)) rfl dX4_houseNow_96 ?_
                  refine r_dup C dX4_houseNow_97 rfl ?_
                  refine r_iconst (v := (nI 2)) C dX4_houseNow_98 (by decide) ?_
                  refine r_iload_n C dX4_houseNow_99 rfl ?_
                  refine x_ast C (i := 2) (f := upd (upd (fun _ => 0) 0 (nI (smF (hf 4) 4 0 0))) 1 (nI (smF (hf 5) 4 4 0))) (E' := [(b_8, .inl (cy 1, 4, .inl (upd (upd (upd (fun _ => 0) 0 (nI (smF (hf 4) 4 0 0))) 1 (nI (smF (hf 5) 4 4 0))) 2 (nI (smF (hf 9) 3 0 0)))))]) 0 rfl (by first | omega | (simp [up2, *]; done) | (simp [up2, *]; omega) | (simp only [up2_eq]; omega) | (split <;> omega)) (by first | omega | (simp [up2, *]; done) | (simp [up2, *]; omega) | (simp only [up2_eq]; omega) | (split <;> omega)) rfl dX4_houseNow_100 ?_
                  refine r_dup C dX4_houseNow_101 rfl ?_
                  refine r_iconst (v := (nI 3)) C dX4_houseNow_102 (by decide) ?_
                  refine r_aload_n C dX4_houseNow_103 rfl ?_
                  refine m_get (v := .int kn) C 9 (by decide) qf_X4_202 rfl rfl dX4_houseNow_104 ?_
                  refine x_ast C (i := 3) (f := upd (upd (upd (fun _ => 0) 0 (nI (smF (hf 4) 4 0 0))) 1 (nI (smF (hf 5) 4 4 0))) 2 (nI (smF (hf 9) 3 0 0))) (E' := [(b_8, .inl (cy 1, 4, .inl (upd (upd (upd (upd (fun _ => 0) 0 (nI (smF (hf 4) 4 0 0))) 1 (nI (smF (hf 5) 4 4 0))) 2 (nI (smF (hf 9) 3 0 0))) 3 kn)))]) 0 rfl (by first | omega | (simp [up2, *]; done) | (simp [up2, *]; omega) | (simp only [up2_eq]; omega) | (split <;> omega)) (by first | omega | (simp [up2, *]; done) | (simp [up2, *]; omega) | (simp only [up2_eq]; omega) | (split <;> omega)) rfl dX4_houseNow_107 ?_
                  refine r_astore C dX4_houseNow_108 (by decide) rfl ?_
                  refine r_aload C dX4_houseNow_110 rfl ?_
                  refine r_iload_n C dX4_houseNow_112 rfl ?_
                  refine x_ald C (i := 0) (f := upd (upd (upd (upd (fun _ => 0) 0 (nI (smF (hf 4) 4 0 0))) 1 (nI (smF (hf 5) 4 4 0))) 2 (nI (smF (hf 9) 3 0 0))) 3 kn) 0 rfl (by first | omega | (simp [up2, *]; done) | (simp [up2, *]; omega) | (simp only [up2_eq]; omega) | (split <;> omega)) (by first | omega | (simp [up2, *]; done) | (simp [up2, *]; omega) | (simp only [up2_eq]; omega) | (split <;> omega)) dX4_houseNow_113 ?_
                  refine r_eqi (show (upd (upd (upd (upd (fun _ => 0) 0 (nI (smF (hf 4) 4 0 0))) 1 (nI (smF (hf 5) 4 4 0))) 2 (nI (smF (hf 9) 3 0 0))) 3 kn) 0 = (nI (smF (hf 4) 4 0 0)) from rfl) ?_
                  refine r_pre ?_
                  exact r_iret C hr dX4_houseNow_114 ⟨rfl, rfl⟩ (Nat.le_of_ble_eq_true rfl) (Nat.le_of_ble_eq_true rfl)
              · first
                | exfalso; first | omega | contradiction
                | skip
                  refine r_aload C dX4_houseNow_62 rfl ?_
                  refine r_iload C dX4_houseNow_64 rfl ?_
                  refine m_zld (i := k) (z := k) (v := hf 9 k) C 4 (by decide) (by decide) (show k < 3 from (by first | omega | (simp [up2, *]; done) | (simp [up2, *]; omega) | (simp only [up2_eq]; omega) | (split <;> omega))) (show 0 + k = k from (by omega)) rfl dX4_houseNow_66 ?_
                  refine r_istore C dX4_houseNow_67 (by decide) rfl ?_
                  refine r_iload_n C dX4_houseNow_69 rfl ?_
                  refine r_iload C dX4_houseNow_70 rfl ?_
                  refine d_S (st := [.int (nI z3)]) hX.1.stb C hE (D_one (ba := ba) (ra := ra) (hf := hf) (hq := hq) (kn := kn) (th := th) (sm := sm) (Y := Y) (b0 := (hf 9 k)) hX (h9a k (by omega))) pk_X4_one qm_X4_136 rfl rfl (Nat.le_of_ble_eq_true rfl) dX4_houseNow_72 ⟨(Nat.le_of_ble_eq_true rfl), (Nat.le_of_ble_eq_true rfl)⟩ ⟨(Nat.le_of_ble_eq_true rfl), (Nat.le_of_ble_eq_true rfl)⟩ ?_
                  refine r_w (w' := WM cy ba ra hf hq kn th sm ++ Y) rfl ?_
                  refine r_iaddN C dX4_houseNow_75 ?_
                  refine r_istore_n C dX4_houseNow_76 (by decide) rfl ?_
                  refine r_iincN C dX4_houseNow_77 rfl (by decide) rfl ?_
                  refine r_goto (tgt := 55) C dX4_houseNow_80 (by decide) ?_
                  refine r_drop 7 ?_
                  exact (Nat.not_lt_zero _ (by omega)).elim
            | succ d ih_L55 =>
              intro k z3 hk3 hz3 hF3
              refine r_iload C dX4_houseNow_55 rfl ?_
              refine r_iload C dX4_houseNow_57 rfl ?_
              refine r_icN_ge (a := k) (b := 3) (tgt := 83) C (by first | omega | (simp [up2, *]; done) | (simp [up2, *]; omega) | (simp only [up2_eq]; omega) | (split <;> omega)) (by first | omega | (simp [up2, *]; done) | (simp [up2, *]; omega) | (simp only [up2_eq]; omega) | (split <;> omega)) dX4_houseNow_59 (by decide) (fun h59_9 => ?_) (fun h59_9 => ?_)
              · first
                | exfalso; first | omega | contradiction
                | skip
                  have e9 : z3 = smF (hf 9) 3 0 0 := hF3
                  subst e9
                  refine r_iconst (v := (nI 4)) C dX4_houseNow_83 (by decide) ?_
                  refine r_newT C .int .int 1 rfl (by simp) qa_int (n := 4) (show 4 < 1000000 from Nat.lt_of_le_of_lt (show 4 ≤ 4 from (Nat.le_refl _)) (by decide)) (1) (4) (Nat.le_of_ble_eq_true rfl) (Nat.add_le_add (Nat.le_refl _) (show 4 ≤ 4 from (Nat.le_refl _))) (Nat.le_of_ble_eq_true rfl) (Nat.le_of_ble_eq_true rfl) dX4_houseNow_84 (fun b_10 => ?_)
                  refine r_w (w' := WM cy ba ra hf hq kn th sm ++ (Y ++ [(b_10, .inl (cy 1, 4, .inl (fun _ => 0)))])) (by simp only [List.append_assoc, List.cons_append, List.nil_append]) ?_
                  refine r_dup C dX4_houseNow_86 rfl ?_
                  refine r_iconst (v := (nI 0)) C dX4_houseNow_87 (by decide) ?_
                  refine r_iload_n C dX4_houseNow_88 rfl ?_
                  refine x_ast C (i := 0) (f := fun _ => 0) (E' := [(b_10, .inl (cy 1, 4, .inl (upd (fun _ => 0) 0 (nI (smF (hf 4) 4 0 0)))))]) 0 rfl (by first | omega | (simp [up2, *]; done) | (simp [up2, *]; omega) | (simp only [up2_eq]; omega) | (split <;> omega)) (by first | omega | (simp [up2, *]; done) | (simp [up2, *]; omega) | (simp only [up2_eq]; omega) | (split <;> omega)) rfl dX4_houseNow_89 ?_
                  refine r_dup C dX4_houseNow_90 rfl ?_
                  refine r_iconst (v := (nI 1)) C dX4_houseNow_91 (by decide) ?_
                  refine r_aload_n C dX4_houseNow_92 rfl ?_
                  refine d_V (st := [.int (nI 1), .ref b_10, .ref b_10]) hX.1.stb C hE (D_windows (ba := ba) (ra := ra) (hf := hf) (hq := hq) (kn := kn) (th := th) (sm := sm)  hX (fun w a b => by have h8 := h5M w a b; omega)) pk_X4_windows qm_X4_186 0 8 rfl rfl wm_0 rfl rfl (Nat.le_of_ble_eq_true rfl) dX4_houseNow_93 ⟨(Nat.le_of_ble_eq_true rfl), (Nat.le_of_ble_eq_true rfl)⟩ ⟨(Nat.le_of_ble_eq_true rfl), (Nat.le_of_ble_eq_true rfl)⟩ ?_
                  refine r_w (w' := WM cy ba ra hf hq kn th sm ++ (Y ++ [(b_10, .inl (cy 1, 4, .inl (upd (fun _ => 0) 0 (nI (smF (hf 4) 4 0 0)))))])) rfl ?_
                  refine x_ast C (i := 1) (f := upd (fun _ => 0) 0 (nI (smF (hf 4) 4 0 0))) (E' := [(b_10, .inl (cy 1, 4, .inl (upd (upd (fun _ => 0) 0 (nI (smF (hf 4) 4 0 0))) 1 (nI (smF (hf 5) 4 4 0)))))]) 0 rfl (by first | omega | (simp [up2, *]; done) | (simp [up2, *]; omega) | (simp only [up2_eq]; omega) | (split <;> omega)) (by first | omega | (simp [up2, *]; done) | (simp [up2, *]; omega) | (simp only [up2_eq]; omega) | (split <;> omega)) rfl dX4_houseNow_96 ?_
                  refine r_dup C dX4_houseNow_97 rfl ?_
                  refine r_iconst (v := (nI 2)) C dX4_houseNow_98 (by decide) ?_
                  refine r_iload_n C dX4_houseNow_99 rfl ?_
                  refine x_ast C (i := 2) (f := upd (upd (fun _ => 0) 0 (nI (smF (hf 4) 4 0 0))) 1 (nI (smF (hf 5) 4 4 0))) (E' := [(b_10, .inl (cy 1, 4, .inl (upd (upd (upd (fun _ => 0) 0 (nI (smF (hf 4) 4 0 0))) 1 (nI (smF (hf 5) 4 4 0))) 2 (nI (smF (hf 9) 3 0 0)))))]) 0 rfl (by first | omega | (simp [up2, *]; done) | (simp [up2, *]; omega) | (simp only [up2_eq]; omega) | (split <;> omega)) (by first | omega | (simp [up2, *]; done) | (simp [up2, *]; omega) | (simp only [up2_eq]; omega) | (split <;> omega)) rfl dX4_houseNow_100 ?_
                  refine r_dup C dX4_houseNow_101 rfl ?_
                  refine r_iconst (v := (nI 3)) C dX4_houseNow_102 (by decide) ?_
                  refine r_aload_n C dX4_houseNow_103 rfl ?_
                  refine m_get (v := .int kn) C 9 (by decide) qf_X4_202 rfl rfl dX4_houseNow_104 ?_
                  refine x_ast C (i := 3) (f := upd (upd (upd (fun _ => 0) 0 (nI (smF (hf 4) 4 0 0))) 1 (nI (smF (hf 5) 4 4 0))) 2 (nI (smF (hf 9) 3 0 0))) (E' := [(b_10, .inl (cy 1, 4, .inl (upd (upd (upd (upd (fun _ => 0) 0 (nI (smF (hf 4) 4 0 0))) 1 (nI (smF (hf 5) 4 4 0))) 2 (nI (smF (hf 9) 3 0 0))) 3 kn)))]) 0 rfl (by first | omega | (simp [up2, *]; done) | (simp [up2, *]; omega) | (simp only [up2_eq]; omega) | (split <;> omega)) (by first | omega | (simp [up2, *]; done) | (simp [up2, *]; omega) | (simp only [up2_eq]; omega) | (split <;> omega)) rfl dX4_houseNow_107 ?_
                  refine r_astore C dX4_houseNow_108 (by decide) rfl ?_
                  refine r_aload C dX4_houseNow_110 rfl ?_
                  refine r_iload_n C dX4_houseNow_112 rfl ?_
                  refine x_ald C (i := 0) (f := upd (upd (upd (upd (fun _ => 0) 0 (nI (smF (hf 4) 4 0 0))) 1 (nI (smF (hf 5) 4 4 0))) 2 (nI (smF (hf 9) 3 0 0))) 3 kn) 0 rfl (by first | omega | (simp [up2, *]; done) | (simp [up2, *]; omega) | (simp only [up2_eq]; omega) | (split <;> omega)) (by first | omega | (simp [up2, *]; done) | (simp [up2, *]; omega) | (simp only [up2_eq]; omega) | (split <;> omega)) dX4_houseNow_113 ?_
                  refine r_eqi (show (upd (upd (upd (upd (fun _ => 0) 0 (nI (smF (hf 4) 4 0 0))) 1 (nI (smF (hf 5) 4 4 0))) 2 (nI (smF (hf 9) 3 0 0))) 3 kn) 0 = (nI (smF (hf 4) 4 0 0)) from rfl) ?_
                  refine r_pre ?_
                  exact r_iret C hr dX4_houseNow_114 ⟨rfl, rfl⟩ (Nat.le_of_ble_eq_true rfl) (Nat.le_of_ble_eq_true rfl)
              · first
                | exfalso; first | omega | contradiction
                | skip
                  refine r_aload C dX4_houseNow_62 rfl ?_
                  refine r_iload C dX4_houseNow_64 rfl ?_
                  refine m_zld (i := k) (z := k) (v := hf 9 k) C 4 (by decide) (by decide) (show k < 3 from (by first | omega | (simp [up2, *]; done) | (simp [up2, *]; omega) | (simp only [up2_eq]; omega) | (split <;> omega))) (show 0 + k = k from (by omega)) rfl dX4_houseNow_66 ?_
                  refine r_istore C dX4_houseNow_67 (by decide) rfl ?_
                  refine r_iload_n C dX4_houseNow_69 rfl ?_
                  refine r_iload C dX4_houseNow_70 rfl ?_
                  refine d_S (st := [.int (nI z3)]) hX.1.stb C hE (D_one (ba := ba) (ra := ra) (hf := hf) (hq := hq) (kn := kn) (th := th) (sm := sm) (Y := Y) (b0 := (hf 9 k)) hX (h9a k (by omega))) pk_X4_one qm_X4_136 rfl rfl (Nat.le_of_ble_eq_true rfl) dX4_houseNow_72 ⟨(Nat.le_of_ble_eq_true rfl), (Nat.le_of_ble_eq_true rfl)⟩ ⟨(Nat.le_of_ble_eq_true rfl), (Nat.le_of_ble_eq_true rfl)⟩ ?_
                  refine r_w (w' := WM cy ba ra hf hq kn th sm ++ Y) rfl ?_
                  refine r_iaddN C dX4_houseNow_75 ?_
                  refine r_istore_n C dX4_houseNow_76 (by decide) rfl ?_
                  refine r_iincN C dX4_houseNow_77 rfl (by decide) rfl ?_
                  refine r_goto (tgt := 55) C dX4_houseNow_80 (by decide) ?_
                  refine r_drop 7 ?_
                  exact ih_L55 (k + 1) (z3 + (hf 9 k)) (by first | omega | (simp [up2, *]; done) | (simp [up2, *]; omega) | (simp only [up2_eq]; omega) | (split <;> omega)) (by have h8 := h9a k (by omega); omega) (by rw [← hF3]; rfl)
          exact L55 3 0 0 (by first | omega | (simp [up2, *]; done) | (simp [up2, *]; omega) | (simp only [up2_eq]; omega) | (split <;> omega)) (by omega) rfl
      · first
        | exfalso; first | omega | contradiction
        | skip
          refine r_aload_n C dX4_houseNow_21 rfl ?_
          refine r_iload C dX4_houseNow_22 rfl ?_
          refine m_rows (i := k) C (by first | omega | (simp [up2, *]; done) | (simp [up2, *]; omega) | (simp only [up2_eq]; omega) | (split <;> omega)) dX4_houseNow_24 ?_
          refine r_astore C dX4_houseNow_25 (by decide) rfl ?_
          refine r_iload_n C dX4_houseNow_27 rfl ?_
          refine r_aload C dX4_houseNow_28 rfl ?_
          refine m_rlen (i := k) (v := hf 4 k) C (by first | omega | (simp [up2, *]; done) | (simp [up2, *]; omega) | (simp only [up2_eq]; omega) | (split <;> omega)) rfl dX4_houseNow_30 ?_
          refine r_iaddN C dX4_houseNow_31 ?_
          refine r_istore_n C dX4_houseNow_32 (by decide) rfl ?_
          refine r_iincN C dX4_houseNow_33 rfl (by decide) rfl ?_
          refine r_goto (tgt := 14) C dX4_houseNow_36 (by decide) ?_
          refine r_drop 6 ?_
          exact ih_L14 (k + 1) (z + (hf 4 k)) (by first | omega | (simp [up2, *]; done) | (simp [up2, *]; omega) | (simp only [up2_eq]; omega) | (split <;> omega)) (by have h8 := (hM.2.1 k (by omega)).1; have h7 := hC.rw (i := k) (by omega); omega) (by rw [← hF]; rfl)
  exact L14 4 0 0 (by first | omega | (simp [up2, *]; done) | (simp [up2, *]; omega) | (simp only [up2_eq]; omega) | (split <;> omega)) (by omega) rfl
set_option maxRecDepth 100000 in
set_option maxHeartbeats 4000000 in
theorem D_houseNow_1 {l : Launch} {D : va_G} {cy : Nat → ClassId} {X : (Nat → Prop) → State → Heap → Prop} {ba ra : Nat → Nat} {hf : Nat → Nat → Nat} {hq : Nat → Nat → Int32} {kn th : Int32} {sm : Int64} {Y : va_W} {f : Nat → Nat → Nat} {r : Nat → Nat → Int32}  (hX : EnvM X cy) (hC : CInv f) (hM : MR f r hf hq) : Cd l D cy X yX4_houseNow cX4_houseNow 8 (some .int) (rmk 3 1 4 90) [.ref (ba 9), .int (nI 1)] (WM cy ba ra hf hq kn th sm ++ Y) (some (.int (hoM hf kn 1))) (WM cy ba ra hf hq kn th sm ++ Y) := by
  have hG := hM.1
  have h5M := hM.h5M hC
  have h4M := hC.h4M
  have h9a := hM.h9a hC
  have h6a := hM.h6a
  have hU := hM.hU hC
  refine Cm.of [some (.ref (ba 9)), some (.int (nI 1)), none, none, none, none, none, none] pn_X4 rfl (Nat.le_of_ble_eq_true rfl) ?_
  intro p e s m args below meth c A C hE hr hnt hn
  refine r_iconst (v := (nI 0)) C dX4_houseNow_0 (by decide) ?_
  refine r_istore_n C dX4_houseNow_1 (by decide) rfl ?_
  refine r_aload_n C dX4_houseNow_2 rfl ?_
  refine m_get (v := .ref (ba 0)) C 0 (by decide) qf_X4_15 rfl rfl dX4_houseNow_3 ?_
  refine r_astore_n C dX4_houseNow_6 (by decide) rfl ?_
  refine r_aload_n C dX4_houseNow_7 rfl ?_
  refine m_olen C dX4_houseNow_8 ?_
  refine r_istore C dX4_houseNow_9 (by decide) rfl ?_
  refine r_iconst (v := (nI 0)) C dX4_houseNow_11 (by decide) ?_
  refine r_istore C dX4_houseNow_12 (by decide) rfl ?_
  have L14 : ∀ (d : Nat) (k : Nat) (z : Nat), (hk : k + d = 4) → (hz : z ≤ 12 * k) → (hF : smF (hf 4) d k z = smF (hf 4) 4 0 0) → vC p l e (rmk 3 1 4 90) s m args below meth c D A (vx_MQ below (vG (fun v1 w1 => v1 = (some (.int (hoM hf kn 1))) ∧ w1 = WM cy ba ra hf hq kn th sm ++ Y) D vwCl A) (vGX (fun _ => False) D vwCl (WM cy ba ra hf hq kn th sm ++ Y) A) args s (rmk 3 1 4 90).cells (rmk 3 1 4 90).slots A) 8 0 0 (WM cy ba ra hf hq kn th sm ++ Y) [some (.ref (ba 9)), some (.int (nI 1)), some (.int (nI z)), some (.ref (ba 0)), some (.int (nI 4)), some (.int (nI k)), none, none] 14 [] := by
    intro d
    induction d with
    | zero =>
      intro k z hk hz hF
      refine r_iload C dX4_houseNow_14 rfl ?_
      refine r_iload C dX4_houseNow_16 rfl ?_
      refine r_icN_ge (a := k) (b := 4) (tgt := 39) C (by first | omega | (simp [up2, *]; done) | (simp [up2, *]; omega) | (simp only [up2_eq]; omega) | (split <;> omega)) (by first | omega | (simp [up2, *]; done) | (simp [up2, *]; omega) | (simp only [up2_eq]; omega) | (split <;> omega)) dX4_houseNow_18 (by decide) (fun h18_1 => ?_) (fun h18_1 => ?_)
      · first
        | exfalso; first | omega | contradiction
        | skip
          have e9 : z = smF (hf 4) 4 0 0 := hF
          subst e9
          refine r_iconst (v := (nI 0)) C dX4_houseNow_39 (by decide) ?_
          refine r_istore_n C dX4_houseNow_40 (by decide) rfl ?_
          refine r_aload_n C dX4_houseNow_41 rfl ?_
          refine m_get (v := .ref (ba 5)) C 5 (by decide) qf_X4_32 rfl rfl dX4_houseNow_42 ?_
          refine r_astore C dX4_houseNow_45 (by decide) rfl ?_
          refine r_aload C dX4_houseNow_47 rfl ?_
          refine m_alen C 4 (by decide) dX4_houseNow_49 ?_
          refine r_istore C dX4_houseNow_50 (by decide) rfl ?_
          refine r_iconst (v := (nI 0)) C dX4_houseNow_52 (by decide) ?_
          refine r_istore C dX4_houseNow_53 (by decide) rfl ?_
          have L55 : ∀ (d : Nat) (k : Nat) (z3 : Nat), (hk3 : k + d = 3) → (hz3 : z3 ≤ k) → (hF3 : smF (hf 9) d k z3 = smF (hf 9) 3 0 0) → vC p l e (rmk 3 1 4 90) s m args below meth c D A (vx_MQ below (vG (fun v1 w1 => v1 = (some (.int (hoM hf kn 1))) ∧ w1 = WM cy ba ra hf hq kn th sm ++ Y) D vwCl A) (vGX (fun _ => False) D vwCl (WM cy ba ra hf hq kn th sm ++ Y) A) args s (rmk 3 1 4 90).cells (rmk 3 1 4 90).slots A) 8 0 0 (WM cy ba ra hf hq kn th sm ++ Y) [some (.ref (ba 9)), some (.int (nI 1)), some (.int (nI (smF (hf 4) 4 0 0))), some (.int (nI z3)), some (.ref (ba 5)), some (.int (nI 3)), some (.int (nI k)), none] 55 [] := by
            intro d
            induction d with
            | zero =>
              intro k z3 hk3 hz3 hF3
              refine r_iload C dX4_houseNow_55 rfl ?_
              refine r_iload C dX4_houseNow_57 rfl ?_
              refine r_icN_ge (a := k) (b := 3) (tgt := 83) C (by first | omega | (simp [up2, *]; done) | (simp [up2, *]; omega) | (simp only [up2_eq]; omega) | (split <;> omega)) (by first | omega | (simp [up2, *]; done) | (simp [up2, *]; omega) | (simp only [up2_eq]; omega) | (split <;> omega)) dX4_houseNow_59 (by decide) (fun h59_2 => ?_) (fun h59_2 => ?_)
              · first
                | exfalso; first | omega | contradiction
                | skip
                  have e9 : z3 = smF (hf 9) 3 0 0 := hF3
                  subst e9
                  refine r_iconst (v := (nI 4)) C dX4_houseNow_83 (by decide) ?_
                  refine r_newT C .int .int 1 rfl (by simp) qa_int (n := 4) (show 4 < 1000000 from Nat.lt_of_le_of_lt (show 4 ≤ 4 from (Nat.le_refl _)) (by decide)) (1) (4) (Nat.le_of_ble_eq_true rfl) (Nat.add_le_add (Nat.le_refl _) (show 4 ≤ 4 from (Nat.le_refl _))) (Nat.le_of_ble_eq_true rfl) (Nat.le_of_ble_eq_true rfl) dX4_houseNow_84 (fun b_3 => ?_)
                  refine r_w (w' := WM cy ba ra hf hq kn th sm ++ (Y ++ [(b_3, .inl (cy 1, 4, .inl (fun _ => 0)))])) (by simp only [List.append_assoc, List.cons_append, List.nil_append]) ?_
                  refine r_dup C dX4_houseNow_86 rfl ?_
                  refine r_iconst (v := (nI 0)) C dX4_houseNow_87 (by decide) ?_
                  refine r_iload_n C dX4_houseNow_88 rfl ?_
                  refine x_ast C (i := 0) (f := fun _ => 0) (E' := [(b_3, .inl (cy 1, 4, .inl (upd (fun _ => 0) 0 (nI (smF (hf 4) 4 0 0)))))]) 0 rfl (by first | omega | (simp [up2, *]; done) | (simp [up2, *]; omega) | (simp only [up2_eq]; omega) | (split <;> omega)) (by first | omega | (simp [up2, *]; done) | (simp [up2, *]; omega) | (simp only [up2_eq]; omega) | (split <;> omega)) rfl dX4_houseNow_89 ?_
                  refine r_dup C dX4_houseNow_90 rfl ?_
                  refine r_iconst (v := (nI 1)) C dX4_houseNow_91 (by decide) ?_
                  refine r_aload_n C dX4_houseNow_92 rfl ?_
                  refine d_V (st := [.int (nI 1), .ref b_3, .ref b_3]) hX.1.stb C hE (D_windows (ba := ba) (ra := ra) (hf := hf) (hq := hq) (kn := kn) (th := th) (sm := sm)  hX (fun w a b => by have h8 := h5M w a b; omega)) pk_X4_windows qm_X4_186 0 8 rfl rfl wm_0 rfl rfl (Nat.le_of_ble_eq_true rfl) dX4_houseNow_93 ⟨(Nat.le_of_ble_eq_true rfl), (Nat.le_of_ble_eq_true rfl)⟩ ⟨(Nat.le_of_ble_eq_true rfl), (Nat.le_of_ble_eq_true rfl)⟩ ?_
                  refine r_w (w' := WM cy ba ra hf hq kn th sm ++ (Y ++ [(b_3, .inl (cy 1, 4, .inl (upd (fun _ => 0) 0 (nI (smF (hf 4) 4 0 0)))))])) rfl ?_
                  refine x_ast C (i := 1) (f := upd (fun _ => 0) 0 (nI (smF (hf 4) 4 0 0))) (E' := [(b_3, .inl (cy 1, 4, .inl (upd (upd (fun _ => 0) 0 (nI (smF (hf 4) 4 0 0))) 1 (nI (smF (hf 5) 4 4 0)))))]) 0 rfl (by first | omega | (simp [up2, *]; done) | (simp [up2, *]; omega) | (simp only [up2_eq]; omega) | (split <;> omega)) (by first | omega | (simp [up2, *]; done) | (simp [up2, *]; omega) | (simp only [up2_eq]; omega) | (split <;> omega)) rfl dX4_houseNow_96 ?_
                  refine r_dup C dX4_houseNow_97 rfl ?_
                  refine r_iconst (v := (nI 2)) C dX4_houseNow_98 (by decide) ?_
                  refine r_iload_n C dX4_houseNow_99 rfl ?_
                  refine x_ast C (i := 2) (f := upd (upd (fun _ => 0) 0 (nI (smF (hf 4) 4 0 0))) 1 (nI (smF (hf 5) 4 4 0))) (E' := [(b_3, .inl (cy 1, 4, .inl (upd (upd (upd (fun _ => 0) 0 (nI (smF (hf 4) 4 0 0))) 1 (nI (smF (hf 5) 4 4 0))) 2 (nI (smF (hf 9) 3 0 0)))))]) 0 rfl (by first | omega | (simp [up2, *]; done) | (simp [up2, *]; omega) | (simp only [up2_eq]; omega) | (split <;> omega)) (by first | omega | (simp [up2, *]; done) | (simp [up2, *]; omega) | (simp only [up2_eq]; omega) | (split <;> omega)) rfl dX4_houseNow_100 ?_
                  refine r_dup C dX4_houseNow_101 rfl ?_
                  refine r_iconst (v := (nI 3)) C dX4_houseNow_102 (by decide) ?_
                  refine r_aload_n C dX4_houseNow_103 rfl ?_
                  refine m_get (v := .int kn) C 9 (by decide) qf_X4_202 rfl rfl dX4_houseNow_104 ?_
                  refine x_ast C (i := 3) (f := upd (upd (upd (fun _ => 0) 0 (nI (smF (hf 4) 4 0 0))) 1 (nI (smF (hf 5) 4 4 0))) 2 (nI (smF (hf 9) 3 0 0))) (E' := [(b_3, .inl (cy 1, 4, .inl (upd (upd (upd (upd (fun _ => 0) 0 (nI (smF (hf 4) 4 0 0))) 1 (nI (smF (hf 5) 4 4 0))) 2 (nI (smF (hf 9) 3 0 0))) 3 kn)))]) 0 rfl (by first | omega | (simp [up2, *]; done) | (simp [up2, *]; omega) | (simp only [up2_eq]; omega) | (split <;> omega)) (by first | omega | (simp [up2, *]; done) | (simp [up2, *]; omega) | (simp only [up2_eq]; omega) | (split <;> omega)) rfl dX4_houseNow_107 ?_
                  refine r_astore C dX4_houseNow_108 (by decide) rfl ?_
                  refine r_aload C dX4_houseNow_110 rfl ?_
                  refine r_iload_n C dX4_houseNow_112 rfl ?_
                  refine x_ald C (i := 1) (f := upd (upd (upd (upd (fun _ => 0) 0 (nI (smF (hf 4) 4 0 0))) 1 (nI (smF (hf 5) 4 4 0))) 2 (nI (smF (hf 9) 3 0 0))) 3 kn) 0 rfl (by first | omega | (simp [up2, *]; done) | (simp [up2, *]; omega) | (simp only [up2_eq]; omega) | (split <;> omega)) (by first | omega | (simp [up2, *]; done) | (simp [up2, *]; omega) | (simp only [up2_eq]; omega) | (split <;> omega)) dX4_houseNow_113 ?_
                  refine r_eqi (show (upd (upd (upd (upd (fun _ => 0) 0 (nI (smF (hf 4) 4 0 0))) 1 (nI (smF (hf 5) 4 4 0))) 2 (nI (smF (hf 9) 3 0 0))) 3 kn) 1 = (nI (smF (hf 5) 4 4 0)) from rfl) ?_
                  refine r_pre ?_
                  exact r_iret C hr dX4_houseNow_114 ⟨rfl, rfl⟩ (Nat.le_of_ble_eq_true rfl) (Nat.le_of_ble_eq_true rfl)
              · first
                | exfalso; first | omega | contradiction
                | skip
                  refine r_aload C dX4_houseNow_62 rfl ?_
                  refine r_iload C dX4_houseNow_64 rfl ?_
                  refine m_zld (i := k) (z := k) (v := hf 9 k) C 4 (by decide) (by decide) (show k < 3 from (by first | omega | (simp [up2, *]; done) | (simp [up2, *]; omega) | (simp only [up2_eq]; omega) | (split <;> omega))) (show 0 + k = k from (by omega)) rfl dX4_houseNow_66 ?_
                  refine r_istore C dX4_houseNow_67 (by decide) rfl ?_
                  refine r_iload_n C dX4_houseNow_69 rfl ?_
                  refine r_iload C dX4_houseNow_70 rfl ?_
                  refine d_S (st := [.int (nI z3)]) hX.1.stb C hE (D_one (ba := ba) (ra := ra) (hf := hf) (hq := hq) (kn := kn) (th := th) (sm := sm) (Y := Y) (b0 := (hf 9 k)) hX (h9a k (by omega))) pk_X4_one qm_X4_136 rfl rfl (Nat.le_of_ble_eq_true rfl) dX4_houseNow_72 ⟨(Nat.le_of_ble_eq_true rfl), (Nat.le_of_ble_eq_true rfl)⟩ ⟨(Nat.le_of_ble_eq_true rfl), (Nat.le_of_ble_eq_true rfl)⟩ ?_
                  refine r_w (w' := WM cy ba ra hf hq kn th sm ++ Y) rfl ?_
                  refine r_iaddN C dX4_houseNow_75 ?_
                  refine r_istore_n C dX4_houseNow_76 (by decide) rfl ?_
                  refine r_iincN C dX4_houseNow_77 rfl (by decide) rfl ?_
                  refine r_goto (tgt := 55) C dX4_houseNow_80 (by decide) ?_
                  refine r_drop 7 ?_
                  exact (Nat.not_lt_zero _ (by omega)).elim
            | succ d ih_L55 =>
              intro k z3 hk3 hz3 hF3
              refine r_iload C dX4_houseNow_55 rfl ?_
              refine r_iload C dX4_houseNow_57 rfl ?_
              refine r_icN_ge (a := k) (b := 3) (tgt := 83) C (by first | omega | (simp [up2, *]; done) | (simp [up2, *]; omega) | (simp only [up2_eq]; omega) | (split <;> omega)) (by first | omega | (simp [up2, *]; done) | (simp [up2, *]; omega) | (simp only [up2_eq]; omega) | (split <;> omega)) dX4_houseNow_59 (by decide) (fun h59_4 => ?_) (fun h59_4 => ?_)
              · first
                | exfalso; first | omega | contradiction
                | skip
                  have e9 : z3 = smF (hf 9) 3 0 0 := hF3
                  subst e9
                  refine r_iconst (v := (nI 4)) C dX4_houseNow_83 (by decide) ?_
                  refine r_newT C .int .int 1 rfl (by simp) qa_int (n := 4) (show 4 < 1000000 from Nat.lt_of_le_of_lt (show 4 ≤ 4 from (Nat.le_refl _)) (by decide)) (1) (4) (Nat.le_of_ble_eq_true rfl) (Nat.add_le_add (Nat.le_refl _) (show 4 ≤ 4 from (Nat.le_refl _))) (Nat.le_of_ble_eq_true rfl) (Nat.le_of_ble_eq_true rfl) dX4_houseNow_84 (fun b_5 => ?_)
                  refine r_w (w' := WM cy ba ra hf hq kn th sm ++ (Y ++ [(b_5, .inl (cy 1, 4, .inl (fun _ => 0)))])) (by simp only [List.append_assoc, List.cons_append, List.nil_append]) ?_
                  refine r_dup C dX4_houseNow_86 rfl ?_
                  refine r_iconst (v := (nI 0)) C dX4_houseNow_87 (by decide) ?_
                  refine r_iload_n C dX4_houseNow_88 rfl ?_
                  refine x_ast C (i := 0) (f := fun _ => 0) (E' := [(b_5, .inl (cy 1, 4, .inl (upd (fun _ => 0) 0 (nI (smF (hf 4) 4 0 0)))))]) 0 rfl (by first | omega | (simp [up2, *]; done) | (simp [up2, *]; omega) | (simp only [up2_eq]; omega) | (split <;> omega)) (by first | omega | (simp [up2, *]; done) | (simp [up2, *]; omega) | (simp only [up2_eq]; omega) | (split <;> omega)) rfl dX4_houseNow_89 ?_
                  refine r_dup C dX4_houseNow_90 rfl ?_
                  refine r_iconst (v := (nI 1)) C dX4_houseNow_91 (by decide) ?_
                  refine r_aload_n C dX4_houseNow_92 rfl ?_
                  refine d_V (st := [.int (nI 1), .ref b_5, .ref b_5]) hX.1.stb C hE (D_windows (ba := ba) (ra := ra) (hf := hf) (hq := hq) (kn := kn) (th := th) (sm := sm)  hX (fun w a b => by have h8 := h5M w a b; omega)) pk_X4_windows qm_X4_186 0 8 rfl rfl wm_0 rfl rfl (Nat.le_of_ble_eq_true rfl) dX4_houseNow_93 ⟨(Nat.le_of_ble_eq_true rfl), (Nat.le_of_ble_eq_true rfl)⟩ ⟨(Nat.le_of_ble_eq_true rfl), (Nat.le_of_ble_eq_true rfl)⟩ ?_
                  refine r_w (w' := WM cy ba ra hf hq kn th sm ++ (Y ++ [(b_5, .inl (cy 1, 4, .inl (upd (fun _ => 0) 0 (nI (smF (hf 4) 4 0 0)))))])) rfl ?_
                  refine x_ast C (i := 1) (f := upd (fun _ => 0) 0 (nI (smF (hf 4) 4 0 0))) (E' := [(b_5, .inl (cy 1, 4, .inl (upd (upd (fun _ => 0) 0 (nI (smF (hf 4) 4 0 0))) 1 (nI (smF (hf 5) 4 4 0)))))]) 0 rfl (by first | omega | (simp [up2, *]; done) | (simp [up2, *]; omega) | (simp only [up2_eq]; omega) | (split <;> omega)) (by first | omega | (simp [up2, *]; done) | (simp [up2, *]; omega) | (simp only [up2_eq]; omega) | (split <;> omega)) rfl dX4_houseNow_96 ?_
                  refine r_dup C dX4_houseNow_97 rfl ?_
                  refine r_iconst (v := (nI 2)) C dX4_houseNow_98 (by decide) ?_
                  refine r_iload_n C dX4_houseNow_99 rfl ?_
                  refine x_ast C (i := 2) (f := upd (upd (fun _ => 0) 0 (nI (smF (hf 4) 4 0 0))) 1 (nI (smF (hf 5) 4 4 0))) (E' := [(b_5, .inl (cy 1, 4, .inl (upd (upd (upd (fun _ => 0) 0 (nI (smF (hf 4) 4 0 0))) 1 (nI (smF (hf 5) 4 4 0))) 2 (nI (smF (hf 9) 3 0 0)))))]) 0 rfl (by first | omega | (simp [up2, *]; done) | (simp [up2, *]; omega) | (simp only [up2_eq]; omega) | (split <;> omega)) (by first | omega | (simp [up2, *]; done) | (simp [up2, *]; omega) | (simp only [up2_eq]; omega) | (split <;> omega)) rfl dX4_houseNow_100 ?_
                  refine r_dup C dX4_houseNow_101 rfl ?_
                  refine r_iconst (v := (nI 3)) C dX4_houseNow_102 (by decide) ?_
                  refine r_aload_n C dX4_houseNow_103 rfl ?_
                  refine m_get (v := .int kn) C 9 (by decide) qf_X4_202 rfl rfl dX4_houseNow_104 ?_
                  refine x_ast C (i := 3) (f := upd (upd (upd (fun _ => 0) 0 (nI (smF (hf 4) 4 0 0))) 1 (nI (smF (hf 5) 4 4 0))) 2 (nI (smF (hf 9) 3 0 0))) (E' := [(b_5, .inl (cy 1, 4, .inl (upd (upd (upd (upd (fun _ => 0) 0 (nI (smF (hf 4) 4 0 0))) 1 (nI (smF (hf 5) 4 4 0))) 2 (nI (smF (hf 9) 3 0 0))) 3 kn)))]) 0 rfl (by first | omega | (simp [up2, *]; done) | (simp [up2, *]; omega) | (simp only [up2_eq]; omega) | (split <;> omega)) (by first | omega | (simp [up2, *]; done) | (simp [up2, *]; omega) | (simp only [up2_eq]; omega) | (split <;> omega)) rfl dX4_houseNow_107 ?_
                  refine r_astore C dX4_houseNow_108 (by decide) rfl ?_
                  refine r_aload C dX4_houseNow_110 rfl ?_
                  refine r_iload_n C dX4_houseNow_112 rfl ?_
                  refine x_ald C (i := 1) (f := upd (upd (upd (upd (fun _ => 0) 0 (nI (smF (hf 4) 4 0 0))) 1 (nI (smF (hf 5) 4 4 0))) 2 (nI (smF (hf 9) 3 0 0))) 3 kn) 0 rfl (by first | omega | (simp [up2, *]; done) | (simp [up2, *]; omega) | (simp only [up2_eq]; omega) | (split <;> omega)) (by first | omega | (simp [up2, *]; done) | (simp [up2, *]; omega) | (simp only [up2_eq]; omega) | (split <;> omega)) dX4_houseNow_113 ?_
                  refine r_eqi (show (upd (upd (upd (upd (fun _ => 0) 0 (nI (smF (hf 4) 4 0 0))) 1 (nI (smF (hf 5) 4 4 0))) 2 (nI (smF (hf 9) 3 0 0))) 3 kn) 1 = (nI (smF (hf 5) 4 4 0)) from rfl) ?_
                  refine r_pre ?_
                  exact r_iret C hr dX4_houseNow_114 ⟨rfl, rfl⟩ (Nat.le_of_ble_eq_true rfl) (Nat.le_of_ble_eq_true rfl)
              · first
                | exfalso; first | omega | contradiction
                | skip
                  refine r_aload C dX4_houseNow_62 rfl ?_
                  refine r_iload C dX4_houseNow_64 rfl ?_
                  refine m_zld (i := k) (z := k) (v := hf 9 k) C 4 (by decide) (by decide) (show k < 3 from (by first | omega | (simp [up2, *]; done) | (simp [up2, *]; omega) | (simp only [up2_eq]; omega) | (split <;> omega))) (show 0 + k = k from (by omega)) rfl dX4_houseNow_66 ?_
                  refine r_istore C dX4_houseNow_67 (by decide) rfl ?_
                  refine r_iload_n C dX4_houseNow_69 rfl ?_
                  refine r_iload C dX4_houseNow_70 rfl ?_
                  refine d_S (st := [.int (nI z3)]) hX.1.stb C hE (D_one (ba := ba) (ra := ra) (hf := hf) (hq := hq) (kn := kn) (th := th) (sm := sm) (Y := Y) (b0 := (hf 9 k)) hX (h9a k (by omega))) pk_X4_one qm_X4_136 rfl rfl (Nat.le_of_ble_eq_true rfl) dX4_houseNow_72 ⟨(Nat.le_of_ble_eq_true rfl), (Nat.le_of_ble_eq_true rfl)⟩ ⟨(Nat.le_of_ble_eq_true rfl), (Nat.le_of_ble_eq_true rfl)⟩ ?_
                  refine r_w (w' := WM cy ba ra hf hq kn th sm ++ Y) rfl ?_
                  refine r_iaddN C dX4_houseNow_75 ?_
                  refine r_istore_n C dX4_houseNow_76 (by decide) rfl ?_
                  refine r_iincN C dX4_houseNow_77 rfl (by decide) rfl ?_
                  refine r_goto (tgt := 55) C dX4_houseNow_80 (by decide) ?_
                  refine r_drop 7 ?_
                  exact ih_L55 (k + 1) (z3 + (hf 9 k)) (by first | omega | (simp [up2, *]; done) | (simp [up2, *]; omega) | (simp only [up2_eq]; omega) | (split <;> omega)) (by have h8 := h9a k (by omega); omega) (by rw [← hF3]; rfl)
          exact L55 3 0 0 (by first | omega | (simp [up2, *]; done) | (simp [up2, *]; omega) | (simp only [up2_eq]; omega) | (split <;> omega)) (by omega) rfl
      · first
        | exfalso; first | omega | contradiction
        | skip
          refine r_aload_n C dX4_houseNow_21 rfl ?_
          refine r_iload C dX4_houseNow_22 rfl ?_
          refine m_rows (i := k) C (by first | omega | (simp [up2, *]; done) | (simp [up2, *]; omega) | (simp only [up2_eq]; omega) | (split <;> omega)) dX4_houseNow_24 ?_
          refine r_astore C dX4_houseNow_25 (by decide) rfl ?_
          refine r_iload_n C dX4_houseNow_27 rfl ?_
          refine r_aload C dX4_houseNow_28 rfl ?_
          refine m_rlen (i := k) (v := hf 4 k) C (by first | omega | (simp [up2, *]; done) | (simp [up2, *]; omega) | (simp only [up2_eq]; omega) | (split <;> omega)) rfl dX4_houseNow_30 ?_
          refine r_iaddN C dX4_houseNow_31 ?_
          refine r_istore_n C dX4_houseNow_32 (by decide) rfl ?_
          refine r_iincN C dX4_houseNow_33 rfl (by decide) rfl ?_
          refine r_goto (tgt := 14) C dX4_houseNow_36 (by decide) ?_
          refine r_drop 6 ?_
          exact (Nat.not_lt_zero _ (by omega)).elim
    | succ d ih_L14 =>
      intro k z hk hz hF
      refine r_iload C dX4_houseNow_14 rfl ?_
      refine r_iload C dX4_houseNow_16 rfl ?_
      refine r_icN_ge (a := k) (b := 4) (tgt := 39) C (by first | omega | (simp [up2, *]; done) | (simp [up2, *]; omega) | (simp only [up2_eq]; omega) | (split <;> omega)) (by first | omega | (simp [up2, *]; done) | (simp [up2, *]; omega) | (simp only [up2_eq]; omega) | (split <;> omega)) dX4_houseNow_18 (by decide) (fun h18_6 => ?_) (fun h18_6 => ?_)
      · first
        | exfalso; first | omega | contradiction
        | skip
          have e9 : z = smF (hf 4) 4 0 0 := hF
          subst e9
          refine r_iconst (v := (nI 0)) C dX4_houseNow_39 (by decide) ?_
          refine r_istore_n C dX4_houseNow_40 (by decide) rfl ?_
          refine r_aload_n C dX4_houseNow_41 rfl ?_
          refine m_get (v := .ref (ba 5)) C 5 (by decide) qf_X4_32 rfl rfl dX4_houseNow_42 ?_
          refine r_astore C dX4_houseNow_45 (by decide) rfl ?_
          refine r_aload C dX4_houseNow_47 rfl ?_
          refine m_alen C 4 (by decide) dX4_houseNow_49 ?_
          refine r_istore C dX4_houseNow_50 (by decide) rfl ?_
          refine r_iconst (v := (nI 0)) C dX4_houseNow_52 (by decide) ?_
          refine r_istore C dX4_houseNow_53 (by decide) rfl ?_
          have L55 : ∀ (d : Nat) (k : Nat) (z3 : Nat), (hk3 : k + d = 3) → (hz3 : z3 ≤ k) → (hF3 : smF (hf 9) d k z3 = smF (hf 9) 3 0 0) → vC p l e (rmk 3 1 4 90) s m args below meth c D A (vx_MQ below (vG (fun v1 w1 => v1 = (some (.int (hoM hf kn 1))) ∧ w1 = WM cy ba ra hf hq kn th sm ++ Y) D vwCl A) (vGX (fun _ => False) D vwCl (WM cy ba ra hf hq kn th sm ++ Y) A) args s (rmk 3 1 4 90).cells (rmk 3 1 4 90).slots A) 8 0 0 (WM cy ba ra hf hq kn th sm ++ Y) [some (.ref (ba 9)), some (.int (nI 1)), some (.int (nI (smF (hf 4) 4 0 0))), some (.int (nI z3)), some (.ref (ba 5)), some (.int (nI 3)), some (.int (nI k)), none] 55 [] := by
            intro d
            induction d with
            | zero =>
              intro k z3 hk3 hz3 hF3
              refine r_iload C dX4_houseNow_55 rfl ?_
              refine r_iload C dX4_houseNow_57 rfl ?_
              refine r_icN_ge (a := k) (b := 3) (tgt := 83) C (by first | omega | (simp [up2, *]; done) | (simp [up2, *]; omega) | (simp only [up2_eq]; omega) | (split <;> omega)) (by first | omega | (simp [up2, *]; done) | (simp [up2, *]; omega) | (simp only [up2_eq]; omega) | (split <;> omega)) dX4_houseNow_59 (by decide) (fun h59_7 => ?_) (fun h59_7 => ?_)
              · first
                | exfalso; first | omega | contradiction
                | skip
                  have e9 : z3 = smF (hf 9) 3 0 0 := hF3
                  subst e9
                  refine r_iconst (v := (nI 4)) C dX4_houseNow_83 (by decide) ?_
                  refine r_newT C .int .int 1 rfl (by simp) qa_int (n := 4) (show 4 < 1000000 from Nat.lt_of_le_of_lt (show 4 ≤ 4 from (Nat.le_refl _)) (by decide)) (1) (4) (Nat.le_of_ble_eq_true rfl) (Nat.add_le_add (Nat.le_refl _) (show 4 ≤ 4 from (Nat.le_refl _))) (Nat.le_of_ble_eq_true rfl) (Nat.le_of_ble_eq_true rfl) dX4_houseNow_84 (fun b_8 => ?_)
                  refine r_w (w' := WM cy ba ra hf hq kn th sm ++ (Y ++ [(b_8, .inl (cy 1, 4, .inl (fun _ => 0)))])) (by simp only [List.append_assoc, List.cons_append, List.nil_append]) ?_
                  refine r_dup C dX4_houseNow_86 rfl ?_
                  refine r_iconst (v := (nI 0)) C dX4_houseNow_87 (by decide) ?_
                  refine r_iload_n C dX4_houseNow_88 rfl ?_
                  refine x_ast C (i := 0) (f := fun _ => 0) (E' := [(b_8, .inl (cy 1, 4, .inl (upd (fun _ => 0) 0 (nI (smF (hf 4) 4 0 0)))))]) 0 rfl (by first | omega | (simp [up2, *]; done) | (simp [up2, *]; omega) | (simp only [up2_eq]; omega) | (split <;> omega)) (by first | omega | (simp [up2, *]; done) | (simp [up2, *]; omega) | (simp only [up2_eq]; omega) | (split <;> omega)) rfl dX4_houseNow_89 ?_
                  refine r_dup C dX4_houseNow_90 rfl ?_
                  refine r_iconst (v := (nI 1)) C dX4_houseNow_91 (by decide) ?_
                  refine r_aload_n C dX4_houseNow_92 rfl ?_
                  refine d_V (st := [.int (nI 1), .ref b_8, .ref b_8]) hX.1.stb C hE (D_windows (ba := ba) (ra := ra) (hf := hf) (hq := hq) (kn := kn) (th := th) (sm := sm)  hX (fun w a b => by have h8 := h5M w a b; omega)) pk_X4_windows qm_X4_186 0 8 rfl rfl wm_0 rfl rfl (Nat.le_of_ble_eq_true rfl) dX4_houseNow_93 ⟨(Nat.le_of_ble_eq_true rfl), (Nat.le_of_ble_eq_true rfl)⟩ ⟨(Nat.le_of_ble_eq_true rfl), (Nat.le_of_ble_eq_true rfl)⟩ ?_
                  refine r_w (w' := WM cy ba ra hf hq kn th sm ++ (Y ++ [(b_8, .inl (cy 1, 4, .inl (upd (fun _ => 0) 0 (nI (smF (hf 4) 4 0 0)))))])) rfl ?_
                  refine x_ast C (i := 1) (f := upd (fun _ => 0) 0 (nI (smF (hf 4) 4 0 0))) (E' := [(b_8, .inl (cy 1, 4, .inl (upd (upd (fun _ => 0) 0 (nI (smF (hf 4) 4 0 0))) 1 (nI (smF (hf 5) 4 4 0)))))]) 0 rfl (by first | omega | (simp [up2, *]; done) | (simp [up2, *]; omega) | (simp only [up2_eq]; omega) | (split <;> omega)) (by first | omega | (simp [up2, *]; done) | (simp [up2, *]; omega) | (simp only [up2_eq]; omega) | (split <;> omega)) rfl dX4_houseNow_96 ?_
                  refine r_dup C dX4_houseNow_97 rfl ?_
                  refine r_iconst (v := (nI 2)) C dX4_houseNow_98 (by decide) ?_
                  refine r_iload_n C dX4_houseNow_99 rfl ?_
                  refine x_ast C (i := 2) (f := upd (upd (fun _ => 0) 0 (nI (smF (hf 4) 4 0 0))) 1 (nI (smF (hf 5) 4 4 0))) (E' := [(b_8, .inl (cy 1, 4, .inl (upd (upd (upd (fun _ => 0) 0 (nI (smF (hf 4) 4 0 0))) 1 (nI (smF (hf 5) 4 4 0))) 2 (nI (smF (hf 9) 3 0 0)))))]) 0 rfl (by first | omega | (simp [up2, *]; done) | (simp [up2, *]; omega) | (simp only [up2_eq]; omega) | (split <;> omega)) (by first | omega | (simp [up2, *]; done) | (simp [up2, *]; omega) | (simp only [up2_eq]; omega) | (split <;> omega)) rfl dX4_houseNow_100 ?_
                  refine r_dup C dX4_houseNow_101 rfl ?_
                  refine r_iconst (v := (nI 3)) C dX4_houseNow_102 (by decide) ?_
                  refine r_aload_n C dX4_houseNow_103 rfl ?_
                  refine m_get (v := .int kn) C 9 (by decide) qf_X4_202 rfl rfl dX4_houseNow_104 ?_
                  refine x_ast C (i := 3) (f := upd (upd (upd (fun _ => 0) 0 (nI (smF (hf 4) 4 0 0))) 1 (nI (smF (hf 5) 4 4 0))) 2 (nI (smF (hf 9) 3 0 0))) (E' := [(b_8, .inl (cy 1, 4, .inl (upd (upd (upd (upd (fun _ => 0) 0 (nI (smF (hf 4) 4 0 0))) 1 (nI (smF (hf 5) 4 4 0))) 2 (nI (smF (hf 9) 3 0 0))) 3 kn)))]) 0 rfl (by first | omega | (simp [up2, *]; done) | (simp [up2, *]; omega) | (simp only [up2_eq]; omega) | (split <;> omega)) (by first | omega | (simp [up2, *]; done) | (simp [up2, *]; omega) | (simp only [up2_eq]; omega) | (split <;> omega)) rfl dX4_houseNow_107 ?_
                  refine r_astore C dX4_houseNow_108 (by decide) rfl ?_
                  refine r_aload C dX4_houseNow_110 rfl ?_
                  refine r_iload_n C dX4_houseNow_112 rfl ?_
                  refine x_ald C (i := 1) (f := upd (upd (upd (upd (fun _ => 0) 0 (nI (smF (hf 4) 4 0 0))) 1 (nI (smF (hf 5) 4 4 0))) 2 (nI (smF (hf 9) 3 0 0))) 3 kn) 0 rfl (by first | omega | (simp [up2, *]; done) | (simp [up2, *]; omega) | (simp only [up2_eq]; omega) | (split <;> omega)) (by first | omega | (simp [up2, *]; done) | (simp [up2, *]; omega) | (simp only [up2_eq]; omega) | (split <;> omega)) dX4_houseNow_113 ?_
                  refine r_eqi (show (upd (upd (upd (upd (fun _ => 0) 0 (nI (smF (hf 4) 4 0 0))) 1 (nI (smF (hf 5) 4 4 0))) 2 (nI (smF (hf 9) 3 0 0))) 3 kn) 1 = (nI (smF (hf 5) 4 4 0)) from rfl) ?_
                  refine r_pre ?_
                  exact r_iret C hr dX4_houseNow_114 ⟨rfl, rfl⟩ (Nat.le_of_ble_eq_true rfl) (Nat.le_of_ble_eq_true rfl)
              · first
                | exfalso; first | omega | contradiction
                | skip
                  refine r_aload C dX4_houseNow_62 rfl ?_
                  refine r_iload C dX4_houseNow_64 rfl ?_
                  refine m_zld (i := k) (z := k) (v := hf 9 k) C 4 (by decide) (by decide) (show k < 3 from (by first | omega | (simp [up2, *]; done) | (simp [up2, *]; omega) | (simp only [up2_eq]; omega) | (split <;> omega))) (show 0 + k = k from (by omega)) rfl dX4_houseNow_66 ?_
                  refine r_istore C dX4_houseNow_67 (by decide) rfl ?_
                  refine r_iload_n C dX4_houseNow_69 rfl ?_
                  refine r_iload C dX4_houseNow_70 rfl ?_
                  refine d_S (st := [.int (nI z3)]) hX.1.stb C hE (D_one (ba := ba) (ra := ra) (hf := hf) (hq := hq) (kn := kn) (th := th) (sm := sm) (Y := Y) (b0 := (hf 9 k)) hX (h9a k (by omega))) pk_X4_one qm_X4_136 rfl rfl (Nat.le_of_ble_eq_true rfl) dX4_houseNow_72 ⟨(Nat.le_of_ble_eq_true rfl), (Nat.le_of_ble_eq_true rfl)⟩ ⟨(Nat.le_of_ble_eq_true rfl), (Nat.le_of_ble_eq_true rfl)⟩ ?_
                  refine r_w (w' := WM cy ba ra hf hq kn th sm ++ Y) rfl ?_
                  refine r_iaddN C dX4_houseNow_75 ?_
                  refine r_istore_n C dX4_houseNow_76 (by decide) rfl ?_
                  refine r_iincN C dX4_houseNow_77 rfl (by decide) rfl ?_
                  refine r_goto (tgt := 55) C dX4_houseNow_80 (by decide) ?_
                  refine r_drop 7 ?_
                  exact (Nat.not_lt_zero _ (by omega)).elim
            | succ d ih_L55 =>
              intro k z3 hk3 hz3 hF3
              refine r_iload C dX4_houseNow_55 rfl ?_
              refine r_iload C dX4_houseNow_57 rfl ?_
              refine r_icN_ge (a := k) (b := 3) (tgt := 83) C (by first | omega | (simp [up2, *]; done) | (simp [up2, *]; omega) | (simp only [up2_eq]; omega) | (split <;> omega)) (by first | omega | (simp [up2, *]; done) | (simp [up2, *]; omega) | (simp only [up2_eq]; omega) | (split <;> omega)) dX4_houseNow_59 (by decide) (fun h59_9 => ?_) (fun h59_9 => ?_)
              · first
                | exfalso; first | omega | contradiction
                | skip
                  have e9 : z3 = smF (hf 9) 3 0 0 := hF3
                  subst e9
                  refine r_iconst (v := (nI 4)) C dX4_houseNow_83 (by decide) ?_
                  refine r_newT C .int .int 1 rfl (by simp) qa_int (n := 4) (show 4 < 1000000 from Nat.lt_of_le_of_lt (show 4 ≤ 4 from (Nat.le_refl _)) (by decide)) (1) (4) (Nat.le_of_ble_eq_true rfl) (Nat.add_le_add (Nat.le_refl _) (show 4 ≤ 4 from (Nat.le_refl _))) (Nat.le_of_ble_eq_true rfl) (Nat.le_of_ble_eq_true rfl) dX4_houseNow_84 (fun b_10 => ?_)
                  refine r_w (w' := WM cy ba ra hf hq kn th sm ++ (Y ++ [(b_10, .inl (cy 1, 4, .inl (fun _ => 0)))])) (by simp only [List.append_assoc, List.cons_append, List.nil_append]) ?_
                  refine r_dup C dX4_houseNow_86 rfl ?_
                  refine r_iconst (v := (nI 0)) C dX4_houseNow_87 (by decide) ?_
                  refine r_iload_n C dX4_houseNow_88 rfl ?_
                  refine x_ast C (i := 0) (f := fun _ => 0) (E' := [(b_10, .inl (cy 1, 4, .inl (upd (fun _ => 0) 0 (nI (smF (hf 4) 4 0 0)))))]) 0 rfl (by first | omega | (simp [up2, *]; done) | (simp [up2, *]; omega) | (simp only [up2_eq]; omega) | (split <;> omega)) (by first | omega | (simp [up2, *]; done) | (simp [up2, *]; omega) | (simp only [up2_eq]; omega) | (split <;> omega)) rfl dX4_houseNow_89 ?_
                  refine r_dup C dX4_houseNow_90 rfl ?_
                  refine r_iconst (v := (nI 1)) C dX4_houseNow_91 (by decide) ?_
                  refine r_aload_n C dX4_houseNow_92 rfl ?_
                  refine d_V (st := [.int (nI 1), .ref b_10, .ref b_10]) hX.1.stb C hE (D_windows (ba := ba) (ra := ra) (hf := hf) (hq := hq) (kn := kn) (th := th) (sm := sm)  hX (fun w a b => by have h8 := h5M w a b; omega)) pk_X4_windows qm_X4_186 0 8 rfl rfl wm_0 rfl rfl (Nat.le_of_ble_eq_true rfl) dX4_houseNow_93 ⟨(Nat.le_of_ble_eq_true rfl), (Nat.le_of_ble_eq_true rfl)⟩ ⟨(Nat.le_of_ble_eq_true rfl), (Nat.le_of_ble_eq_true rfl)⟩ ?_
                  refine r_w (w' := WM cy ba ra hf hq kn th sm ++ (Y ++ [(b_10, .inl (cy 1, 4, .inl (upd (fun _ => 0) 0 (nI (smF (hf 4) 4 0 0)))))])) rfl ?_
                  refine x_ast C (i := 1) (f := upd (fun _ => 0) 0 (nI (smF (hf 4) 4 0 0))) (E' := [(b_10, .inl (cy 1, 4, .inl (upd (upd (fun _ => 0) 0 (nI (smF (hf 4) 4 0 0))) 1 (nI (smF (hf 5) 4 4 0)))))]) 0 rfl (by first | omega | (simp [up2, *]; done) | (simp [up2, *]; omega) | (simp only [up2_eq]; omega) | (split <;> omega)) (by first | omega | (simp [up2, *]; done) | (simp [up2, *]; omega) | (simp only [up2_eq]; omega) | (split <;> omega)) rfl dX4_houseNow_96 ?_
                  refine r_dup C dX4_houseNow_97 rfl ?_
                  refine r_iconst (v := (nI 2)) C dX4_houseNow_98 (by decide) ?_
                  refine r_iload_n C dX4_houseNow_99 rfl ?_
                  refine x_ast C (i := 2) (f := upd (upd (fun _ => 0) 0 (nI (smF (hf 4) 4 0 0))) 1 (nI (smF (hf 5) 4 4 0))) (E' := [(b_10, .inl (cy 1, 4, .inl (upd (upd (upd (fun _ => 0) 0 (nI (smF (hf 4) 4 0 0))) 1 (nI (smF (hf 5) 4 4 0))) 2 (nI (smF (hf 9) 3 0 0)))))]) 0 rfl (by first | omega | (simp [up2, *]; done) | (simp [up2, *]; omega) | (simp only [up2_eq]; omega) | (split <;> omega)) (by first | omega | (simp [up2, *]; done) | (simp [up2, *]; omega) | (simp only [up2_eq]; omega) | (split <;> omega)) rfl dX4_houseNow_100 ?_
                  refine r_dup C dX4_houseNow_101 rfl ?_
                  refine r_iconst (v := (nI 3)) C dX4_houseNow_102 (by decide) ?_
                  refine r_aload_n C dX4_houseNow_103 rfl ?_
                  refine m_get (v := .int kn) C 9 (by decide) qf_X4_202 rfl rfl dX4_houseNow_104 ?_
                  refine x_ast C (i := 3) (f := upd (upd (upd (fun _ => 0) 0 (nI (smF (hf 4) 4 0 0))) 1 (nI (smF (hf 5) 4 4 0))) 2 (nI (smF (hf 9) 3 0 0))) (E' := [(b_10, .inl (cy 1, 4, .inl (upd (upd (upd (upd (fun _ => 0) 0 (nI (smF (hf 4) 4 0 0))) 1 (nI (smF (hf 5) 4 4 0))) 2 (nI (smF (hf 9) 3 0 0))) 3 kn)))]) 0 rfl (by first | omega | (simp [up2, *]; done) | (simp [up2, *]; omega) | (simp only [up2_eq]; omega) | (split <;> omega)) (by first | omega | (simp [up2, *]; done) | (simp [up2, *]; omega) | (simp only [up2_eq]; omega) | (split <;> omega)) rfl dX4_houseNow_107 ?_
                  refine r_astore C dX4_houseNow_108 (by decide) rfl ?_
                  refine r_aload C dX4_houseNow_110 rfl ?_
                  refine r_iload_n C dX4_houseNow_112 rfl ?_
                  refine x_ald C (i := 1) (f := upd (upd (upd (upd (fun _ => 0) 0 (nI (smF (hf 4) 4 0 0))) 1 (nI (smF (hf 5) 4 4 0))) 2 (nI (smF (hf 9) 3 0 0))) 3 kn) 0 rfl (by first | omega | (simp [up2, *]; done) | (simp [up2, *]; omega) | (simp only [up2_eq]; omega) | (split <;> omega)) (by first | omega | (simp [up2, *]; done) | (simp [up2, *]; omega) | (simp only [up2_eq]; omega) | (split <;> omega)) dX4_houseNow_113 ?_
                  refine r_eqi (show (upd (upd (upd (upd (fun _ => 0) 0 (nI (smF (hf 4) 4 0 0))) 1 (nI (smF (hf 5) 4 4 0))) 2 (nI (smF (hf 9) 3 0 0))) 3 kn) 1 = (nI (smF (hf 5) 4 4 0)) from rfl) ?_
                  refine r_pre ?_
                  exact r_iret C hr dX4_houseNow_114 ⟨rfl, rfl⟩ (Nat.le_of_ble_eq_true rfl) (Nat.le_of_ble_eq_true rfl)
              · first
                | exfalso; first | omega | contradiction
                | skip
                  refine r_aload C dX4_houseNow_62 rfl ?_
                  refine r_iload C dX4_houseNow_64 rfl ?_
                  refine m_zld (i := k) (z := k) (v := hf 9 k) C 4 (by decide) (by decide) (show k < 3 from (by first | omega | (simp [up2, *]; done) | (simp [up2, *]; omega) | (simp only [up2_eq]; omega) | (split <;> omega))) (show 0 + k = k from (by omega)) rfl dX4_houseNow_66 ?_
                  refine r_istore C dX4_houseNow_67 (by decide) rfl ?_
                  refine r_iload_n C dX4_houseNow_69 rfl ?_
                  refine r_iload C dX4_houseNow_70 rfl ?_
                  refine d_S (st := [.int (nI z3)]) hX.1.stb C hE (D_one (ba := ba) (ra := ra) (hf := hf) (hq := hq) (kn := kn) (th := th) (sm := sm) (Y := Y) (b0 := (hf 9 k)) hX (h9a k (by omega))) pk_X4_one qm_X4_136 rfl rfl (Nat.le_of_ble_eq_true rfl) dX4_houseNow_72 ⟨(Nat.le_of_ble_eq_true rfl), (Nat.le_of_ble_eq_true rfl)⟩ ⟨(Nat.le_of_ble_eq_true rfl), (Nat.le_of_ble_eq_true rfl)⟩ ?_
                  refine r_w (w' := WM cy ba ra hf hq kn th sm ++ Y) rfl ?_
                  refine r_iaddN C dX4_houseNow_75 ?_
                  refine r_istore_n C dX4_houseNow_76 (by decide) rfl ?_
                  refine r_iincN C dX4_houseNow_77 rfl (by decide) rfl ?_
                  refine r_goto (tgt := 55) C dX4_houseNow_80 (by decide) ?_
                  refine r_drop 7 ?_
                  exact ih_L55 (k + 1) (z3 + (hf 9 k)) (by first | omega | (simp [up2, *]; done) | (simp [up2, *]; omega) | (simp only [up2_eq]; omega) | (split <;> omega)) (by have h8 := h9a k (by omega); omega) (by rw [← hF3]; rfl)
          exact L55 3 0 0 (by first | omega | (simp [up2, *]; done) | (simp [up2, *]; omega) | (simp only [up2_eq]; omega) | (split <;> omega)) (by omega) rfl
      · first
        | exfalso; first | omega | contradiction
        | skip
          refine r_aload_n C dX4_houseNow_21 rfl ?_
          refine r_iload C dX4_houseNow_22 rfl ?_
          refine m_rows (i := k) C (by first | omega | (simp [up2, *]; done) | (simp [up2, *]; omega) | (simp only [up2_eq]; omega) | (split <;> omega)) dX4_houseNow_24 ?_
          refine r_astore C dX4_houseNow_25 (by decide) rfl ?_
          refine r_iload_n C dX4_houseNow_27 rfl ?_
          refine r_aload C dX4_houseNow_28 rfl ?_
          refine m_rlen (i := k) (v := hf 4 k) C (by first | omega | (simp [up2, *]; done) | (simp [up2, *]; omega) | (simp only [up2_eq]; omega) | (split <;> omega)) rfl dX4_houseNow_30 ?_
          refine r_iaddN C dX4_houseNow_31 ?_
          refine r_istore_n C dX4_houseNow_32 (by decide) rfl ?_
          refine r_iincN C dX4_houseNow_33 rfl (by decide) rfl ?_
          refine r_goto (tgt := 14) C dX4_houseNow_36 (by decide) ?_
          refine r_drop 6 ?_
          exact ih_L14 (k + 1) (z + (hf 4 k)) (by first | omega | (simp [up2, *]; done) | (simp [up2, *]; omega) | (simp only [up2_eq]; omega) | (split <;> omega)) (by have h8 := (hM.2.1 k (by omega)).1; have h7 := hC.rw (i := k) (by omega); omega) (by rw [← hF]; rfl)
  exact L14 4 0 0 (by first | omega | (simp [up2, *]; done) | (simp [up2, *]; omega) | (simp only [up2_eq]; omega) | (split <;> omega)) (by omega) rfl
set_option maxRecDepth 100000 in
set_option maxHeartbeats 4000000 in
theorem D_houseNow_2 {l : Launch} {D : va_G} {cy : Nat → ClassId} {X : (Nat → Prop) → State → Heap → Prop} {ba ra : Nat → Nat} {hf : Nat → Nat → Nat} {hq : Nat → Nat → Int32} {kn th : Int32} {sm : Int64} {Y : va_W} {f : Nat → Nat → Nat} {r : Nat → Nat → Int32}  (hX : EnvM X cy) (hC : CInv f) (hM : MR f r hf hq) : Cd l D cy X yX4_houseNow cX4_houseNow 8 (some .int) (rmk 3 1 4 90) [.ref (ba 9), .int (nI 2)] (WM cy ba ra hf hq kn th sm ++ Y) (some (.int (hoM hf kn 2))) (WM cy ba ra hf hq kn th sm ++ Y) := by
  have hG := hM.1
  have h5M := hM.h5M hC
  have h4M := hC.h4M
  have h9a := hM.h9a hC
  have h6a := hM.h6a
  have hU := hM.hU hC
  refine Cm.of [some (.ref (ba 9)), some (.int (nI 2)), none, none, none, none, none, none] pn_X4 rfl (Nat.le_of_ble_eq_true rfl) ?_
  intro p e s m args below meth c A C hE hr hnt hn
  refine r_iconst (v := (nI 0)) C dX4_houseNow_0 (by decide) ?_
  refine r_istore_n C dX4_houseNow_1 (by decide) rfl ?_
  refine r_aload_n C dX4_houseNow_2 rfl ?_
  refine m_get (v := .ref (ba 0)) C 0 (by decide) qf_X4_15 rfl rfl dX4_houseNow_3 ?_
  refine r_astore_n C dX4_houseNow_6 (by decide) rfl ?_
  refine r_aload_n C dX4_houseNow_7 rfl ?_
  refine m_olen C dX4_houseNow_8 ?_
  refine r_istore C dX4_houseNow_9 (by decide) rfl ?_
  refine r_iconst (v := (nI 0)) C dX4_houseNow_11 (by decide) ?_
  refine r_istore C dX4_houseNow_12 (by decide) rfl ?_
  have L14 : ∀ (d : Nat) (k : Nat) (z : Nat), (hk : k + d = 4) → (hz : z ≤ 12 * k) → (hF : smF (hf 4) d k z = smF (hf 4) 4 0 0) → vC p l e (rmk 3 1 4 90) s m args below meth c D A (vx_MQ below (vG (fun v1 w1 => v1 = (some (.int (hoM hf kn 2))) ∧ w1 = WM cy ba ra hf hq kn th sm ++ Y) D vwCl A) (vGX (fun _ => False) D vwCl (WM cy ba ra hf hq kn th sm ++ Y) A) args s (rmk 3 1 4 90).cells (rmk 3 1 4 90).slots A) 8 0 0 (WM cy ba ra hf hq kn th sm ++ Y) [some (.ref (ba 9)), some (.int (nI 2)), some (.int (nI z)), some (.ref (ba 0)), some (.int (nI 4)), some (.int (nI k)), none, none] 14 [] := by
    intro d
    induction d with
    | zero =>
      intro k z hk hz hF
      refine r_iload C dX4_houseNow_14 rfl ?_
      refine r_iload C dX4_houseNow_16 rfl ?_
      refine r_icN_ge (a := k) (b := 4) (tgt := 39) C (by first | omega | (simp [up2, *]; done) | (simp [up2, *]; omega) | (simp only [up2_eq]; omega) | (split <;> omega)) (by first | omega | (simp [up2, *]; done) | (simp [up2, *]; omega) | (simp only [up2_eq]; omega) | (split <;> omega)) dX4_houseNow_18 (by decide) (fun h18_1 => ?_) (fun h18_1 => ?_)
      · first
        | exfalso; first | omega | contradiction
        | skip
          have e9 : z = smF (hf 4) 4 0 0 := hF
          subst e9
          refine r_iconst (v := (nI 0)) C dX4_houseNow_39 (by decide) ?_
          refine r_istore_n C dX4_houseNow_40 (by decide) rfl ?_
          refine r_aload_n C dX4_houseNow_41 rfl ?_
          refine m_get (v := .ref (ba 5)) C 5 (by decide) qf_X4_32 rfl rfl dX4_houseNow_42 ?_
          refine r_astore C dX4_houseNow_45 (by decide) rfl ?_
          refine r_aload C dX4_houseNow_47 rfl ?_
          refine m_alen C 4 (by decide) dX4_houseNow_49 ?_
          refine r_istore C dX4_houseNow_50 (by decide) rfl ?_
          refine r_iconst (v := (nI 0)) C dX4_houseNow_52 (by decide) ?_
          refine r_istore C dX4_houseNow_53 (by decide) rfl ?_
          have L55 : ∀ (d : Nat) (k : Nat) (z3 : Nat), (hk3 : k + d = 3) → (hz3 : z3 ≤ k) → (hF3 : smF (hf 9) d k z3 = smF (hf 9) 3 0 0) → vC p l e (rmk 3 1 4 90) s m args below meth c D A (vx_MQ below (vG (fun v1 w1 => v1 = (some (.int (hoM hf kn 2))) ∧ w1 = WM cy ba ra hf hq kn th sm ++ Y) D vwCl A) (vGX (fun _ => False) D vwCl (WM cy ba ra hf hq kn th sm ++ Y) A) args s (rmk 3 1 4 90).cells (rmk 3 1 4 90).slots A) 8 0 0 (WM cy ba ra hf hq kn th sm ++ Y) [some (.ref (ba 9)), some (.int (nI 2)), some (.int (nI (smF (hf 4) 4 0 0))), some (.int (nI z3)), some (.ref (ba 5)), some (.int (nI 3)), some (.int (nI k)), none] 55 [] := by
            intro d
            induction d with
            | zero =>
              intro k z3 hk3 hz3 hF3
              refine r_iload C dX4_houseNow_55 rfl ?_
              refine r_iload C dX4_houseNow_57 rfl ?_
              refine r_icN_ge (a := k) (b := 3) (tgt := 83) C (by first | omega | (simp [up2, *]; done) | (simp [up2, *]; omega) | (simp only [up2_eq]; omega) | (split <;> omega)) (by first | omega | (simp [up2, *]; done) | (simp [up2, *]; omega) | (simp only [up2_eq]; omega) | (split <;> omega)) dX4_houseNow_59 (by decide) (fun h59_2 => ?_) (fun h59_2 => ?_)
              · first
                | exfalso; first | omega | contradiction
                | skip
                  have e9 : z3 = smF (hf 9) 3 0 0 := hF3
                  subst e9
                  refine r_iconst (v := (nI 4)) C dX4_houseNow_83 (by decide) ?_
                  refine r_newT C .int .int 1 rfl (by simp) qa_int (n := 4) (show 4 < 1000000 from Nat.lt_of_le_of_lt (show 4 ≤ 4 from (Nat.le_refl _)) (by decide)) (1) (4) (Nat.le_of_ble_eq_true rfl) (Nat.add_le_add (Nat.le_refl _) (show 4 ≤ 4 from (Nat.le_refl _))) (Nat.le_of_ble_eq_true rfl) (Nat.le_of_ble_eq_true rfl) dX4_houseNow_84 (fun b_3 => ?_)
                  refine r_w (w' := WM cy ba ra hf hq kn th sm ++ (Y ++ [(b_3, .inl (cy 1, 4, .inl (fun _ => 0)))])) (by simp only [List.append_assoc, List.cons_append, List.nil_append]) ?_
                  refine r_dup C dX4_houseNow_86 rfl ?_
                  refine r_iconst (v := (nI 0)) C dX4_houseNow_87 (by decide) ?_
                  refine r_iload_n C dX4_houseNow_88 rfl ?_
                  refine x_ast C (i := 0) (f := fun _ => 0) (E' := [(b_3, .inl (cy 1, 4, .inl (upd (fun _ => 0) 0 (nI (smF (hf 4) 4 0 0)))))]) 0 rfl (by first | omega | (simp [up2, *]; done) | (simp [up2, *]; omega) | (simp only [up2_eq]; omega) | (split <;> omega)) (by first | omega | (simp [up2, *]; done) | (simp [up2, *]; omega) | (simp only [up2_eq]; omega) | (split <;> omega)) rfl dX4_houseNow_89 ?_
                  refine r_dup C dX4_houseNow_90 rfl ?_
                  refine r_iconst (v := (nI 1)) C dX4_houseNow_91 (by decide) ?_
                  refine r_aload_n C dX4_houseNow_92 rfl ?_
                  refine d_V (st := [.int (nI 1), .ref b_3, .ref b_3]) hX.1.stb C hE (D_windows (ba := ba) (ra := ra) (hf := hf) (hq := hq) (kn := kn) (th := th) (sm := sm)  hX (fun w a b => by have h8 := h5M w a b; omega)) pk_X4_windows qm_X4_186 0 8 rfl rfl wm_0 rfl rfl (Nat.le_of_ble_eq_true rfl) dX4_houseNow_93 ⟨(Nat.le_of_ble_eq_true rfl), (Nat.le_of_ble_eq_true rfl)⟩ ⟨(Nat.le_of_ble_eq_true rfl), (Nat.le_of_ble_eq_true rfl)⟩ ?_
                  refine r_w (w' := WM cy ba ra hf hq kn th sm ++ (Y ++ [(b_3, .inl (cy 1, 4, .inl (upd (fun _ => 0) 0 (nI (smF (hf 4) 4 0 0)))))])) rfl ?_
                  refine x_ast C (i := 1) (f := upd (fun _ => 0) 0 (nI (smF (hf 4) 4 0 0))) (E' := [(b_3, .inl (cy 1, 4, .inl (upd (upd (fun _ => 0) 0 (nI (smF (hf 4) 4 0 0))) 1 (nI (smF (hf 5) 4 4 0)))))]) 0 rfl (by first | omega | (simp [up2, *]; done) | (simp [up2, *]; omega) | (simp only [up2_eq]; omega) | (split <;> omega)) (by first | omega | (simp [up2, *]; done) | (simp [up2, *]; omega) | (simp only [up2_eq]; omega) | (split <;> omega)) rfl dX4_houseNow_96 ?_
                  refine r_dup C dX4_houseNow_97 rfl ?_
                  refine r_iconst (v := (nI 2)) C dX4_houseNow_98 (by decide) ?_
                  refine r_iload_n C dX4_houseNow_99 rfl ?_
                  refine x_ast C (i := 2) (f := upd (upd (fun _ => 0) 0 (nI (smF (hf 4) 4 0 0))) 1 (nI (smF (hf 5) 4 4 0))) (E' := [(b_3, .inl (cy 1, 4, .inl (upd (upd (upd (fun _ => 0) 0 (nI (smF (hf 4) 4 0 0))) 1 (nI (smF (hf 5) 4 4 0))) 2 (nI (smF (hf 9) 3 0 0)))))]) 0 rfl (by first | omega | (simp [up2, *]; done) | (simp [up2, *]; omega) | (simp only [up2_eq]; omega) | (split <;> omega)) (by first | omega | (simp [up2, *]; done) | (simp [up2, *]; omega) | (simp only [up2_eq]; omega) | (split <;> omega)) rfl dX4_houseNow_100 ?_
                  refine r_dup C dX4_houseNow_101 rfl ?_
                  refine r_iconst (v := (nI 3)) C dX4_houseNow_102 (by decide) ?_
                  refine r_aload_n C dX4_houseNow_103 rfl ?_
                  refine m_get (v := .int kn) C 9 (by decide) qf_X4_202 rfl rfl dX4_houseNow_104 ?_
                  refine x_ast C (i := 3) (f := upd (upd (upd (fun _ => 0) 0 (nI (smF (hf 4) 4 0 0))) 1 (nI (smF (hf 5) 4 4 0))) 2 (nI (smF (hf 9) 3 0 0))) (E' := [(b_3, .inl (cy 1, 4, .inl (upd (upd (upd (upd (fun _ => 0) 0 (nI (smF (hf 4) 4 0 0))) 1 (nI (smF (hf 5) 4 4 0))) 2 (nI (smF (hf 9) 3 0 0))) 3 kn)))]) 0 rfl (by first | omega | (simp [up2, *]; done) | (simp [up2, *]; omega) | (simp only [up2_eq]; omega) | (split <;> omega)) (by first | omega | (simp [up2, *]; done) | (simp [up2, *]; omega) | (simp only [up2_eq]; omega) | (split <;> omega)) rfl dX4_houseNow_107 ?_
                  refine r_astore C dX4_houseNow_108 (by decide) rfl ?_
                  refine r_aload C dX4_houseNow_110 rfl ?_
                  refine r_iload_n C dX4_houseNow_112 rfl ?_
                  refine x_ald C (i := 2) (f := upd (upd (upd (upd (fun _ => 0) 0 (nI (smF (hf 4) 4 0 0))) 1 (nI (smF (hf 5) 4 4 0))) 2 (nI (smF (hf 9) 3 0 0))) 3 kn) 0 rfl (by first | omega | (simp [up2, *]; done) | (simp [up2, *]; omega) | (simp only [up2_eq]; omega) | (split <;> omega)) (by first | omega | (simp [up2, *]; done) | (simp [up2, *]; omega) | (simp only [up2_eq]; omega) | (split <;> omega)) dX4_houseNow_113 ?_
                  refine r_eqi (show (upd (upd (upd (upd (fun _ => 0) 0 (nI (smF (hf 4) 4 0 0))) 1 (nI (smF (hf 5) 4 4 0))) 2 (nI (smF (hf 9) 3 0 0))) 3 kn) 2 = (nI (smF (hf 9) 3 0 0)) from rfl) ?_
                  refine r_pre ?_
                  exact r_iret C hr dX4_houseNow_114 ⟨rfl, rfl⟩ (Nat.le_of_ble_eq_true rfl) (Nat.le_of_ble_eq_true rfl)
              · first
                | exfalso; first | omega | contradiction
                | skip
                  refine r_aload C dX4_houseNow_62 rfl ?_
                  refine r_iload C dX4_houseNow_64 rfl ?_
                  refine m_zld (i := k) (z := k) (v := hf 9 k) C 4 (by decide) (by decide) (show k < 3 from (by first | omega | (simp [up2, *]; done) | (simp [up2, *]; omega) | (simp only [up2_eq]; omega) | (split <;> omega))) (show 0 + k = k from (by omega)) rfl dX4_houseNow_66 ?_
                  refine r_istore C dX4_houseNow_67 (by decide) rfl ?_
                  refine r_iload_n C dX4_houseNow_69 rfl ?_
                  refine r_iload C dX4_houseNow_70 rfl ?_
                  refine d_S (st := [.int (nI z3)]) hX.1.stb C hE (D_one (ba := ba) (ra := ra) (hf := hf) (hq := hq) (kn := kn) (th := th) (sm := sm) (Y := Y) (b0 := (hf 9 k)) hX (h9a k (by omega))) pk_X4_one qm_X4_136 rfl rfl (Nat.le_of_ble_eq_true rfl) dX4_houseNow_72 ⟨(Nat.le_of_ble_eq_true rfl), (Nat.le_of_ble_eq_true rfl)⟩ ⟨(Nat.le_of_ble_eq_true rfl), (Nat.le_of_ble_eq_true rfl)⟩ ?_
                  refine r_w (w' := WM cy ba ra hf hq kn th sm ++ Y) rfl ?_
                  refine r_iaddN C dX4_houseNow_75 ?_
                  refine r_istore_n C dX4_houseNow_76 (by decide) rfl ?_
                  refine r_iincN C dX4_houseNow_77 rfl (by decide) rfl ?_
                  refine r_goto (tgt := 55) C dX4_houseNow_80 (by decide) ?_
                  refine r_drop 7 ?_
                  exact (Nat.not_lt_zero _ (by omega)).elim
            | succ d ih_L55 =>
              intro k z3 hk3 hz3 hF3
              refine r_iload C dX4_houseNow_55 rfl ?_
              refine r_iload C dX4_houseNow_57 rfl ?_
              refine r_icN_ge (a := k) (b := 3) (tgt := 83) C (by first | omega | (simp [up2, *]; done) | (simp [up2, *]; omega) | (simp only [up2_eq]; omega) | (split <;> omega)) (by first | omega | (simp [up2, *]; done) | (simp [up2, *]; omega) | (simp only [up2_eq]; omega) | (split <;> omega)) dX4_houseNow_59 (by decide) (fun h59_4 => ?_) (fun h59_4 => ?_)
              · first
                | exfalso; first | omega | contradiction
                | skip
                  have e9 : z3 = smF (hf 9) 3 0 0 := hF3
                  subst e9
                  refine r_iconst (v := (nI 4)) C dX4_houseNow_83 (by decide) ?_
                  refine r_newT C .int .int 1 rfl (by simp) qa_int (n := 4) (show 4 < 1000000 from Nat.lt_of_le_of_lt (show 4 ≤ 4 from (Nat.le_refl _)) (by decide)) (1) (4) (Nat.le_of_ble_eq_true rfl) (Nat.add_le_add (Nat.le_refl _) (show 4 ≤ 4 from (Nat.le_refl _))) (Nat.le_of_ble_eq_true rfl) (Nat.le_of_ble_eq_true rfl) dX4_houseNow_84 (fun b_5 => ?_)
                  refine r_w (w' := WM cy ba ra hf hq kn th sm ++ (Y ++ [(b_5, .inl (cy 1, 4, .inl (fun _ => 0)))])) (by simp only [List.append_assoc, List.cons_append, List.nil_append]) ?_
                  refine r_dup C dX4_houseNow_86 rfl ?_
                  refine r_iconst (v := (nI 0)) C dX4_houseNow_87 (by decide) ?_
                  refine r_iload_n C dX4_houseNow_88 rfl ?_
                  refine x_ast C (i := 0) (f := fun _ => 0) (E' := [(b_5, .inl (cy 1, 4, .inl (upd (fun _ => 0) 0 (nI (smF (hf 4) 4 0 0)))))]) 0 rfl (by first | omega | (simp [up2, *]; done) | (simp [up2, *]; omega) | (simp only [up2_eq]; omega) | (split <;> omega)) (by first | omega | (simp [up2, *]; done) | (simp [up2, *]; omega) | (simp only [up2_eq]; omega) | (split <;> omega)) rfl dX4_houseNow_89 ?_
                  refine r_dup C dX4_houseNow_90 rfl ?_
                  refine r_iconst (v := (nI 1)) C dX4_houseNow_91 (by decide) ?_
                  refine r_aload_n C dX4_houseNow_92 rfl ?_
                  refine d_V (st := [.int (nI 1), .ref b_5, .ref b_5]) hX.1.stb C hE (D_windows (ba := ba) (ra := ra) (hf := hf) (hq := hq) (kn := kn) (th := th) (sm := sm)  hX (fun w a b => by have h8 := h5M w a b; omega)) pk_X4_windows qm_X4_186 0 8 rfl rfl wm_0 rfl rfl (Nat.le_of_ble_eq_true rfl) dX4_houseNow_93 ⟨(Nat.le_of_ble_eq_true rfl), (Nat.le_of_ble_eq_true rfl)⟩ ⟨(Nat.le_of_ble_eq_true rfl), (Nat.le_of_ble_eq_true rfl)⟩ ?_
                  refine r_w (w' := WM cy ba ra hf hq kn th sm ++ (Y ++ [(b_5, .inl (cy 1, 4, .inl (upd (fun _ => 0) 0 (nI (smF (hf 4) 4 0 0)))))])) rfl ?_
                  refine x_ast C (i := 1) (f := upd (fun _ => 0) 0 (nI (smF (hf 4) 4 0 0))) (E' := [(b_5, .inl (cy 1, 4, .inl (upd (upd (fun _ => 0) 0 (nI (smF (hf 4) 4 0 0))) 1 (nI (smF (hf 5) 4 4 0)))))]) 0 rfl (by first | omega | (simp [up2, *]; done) | (simp [up2, *]; omega) | (simp only [up2_eq]; omega) | (split <;> omega)) (by first | omega | (simp [up2, *]; done) | (simp [up2, *]; omega) | (simp only [up2_eq]; omega) | (split <;> omega)) rfl dX4_houseNow_96 ?_
                  refine r_dup C dX4_houseNow_97 rfl ?_
                  refine r_iconst (v := (nI 2)) C dX4_houseNow_98 (by decide) ?_
                  refine r_iload_n C dX4_houseNow_99 rfl ?_
                  refine x_ast C (i := 2) (f := upd (upd (fun _ => 0) 0 (nI (smF (hf 4) 4 0 0))) 1 (nI (smF (hf 5) 4 4 0))) (E' := [(b_5, .inl (cy 1, 4, .inl (upd (upd (upd (fun _ => 0) 0 (nI (smF (hf 4) 4 0 0))) 1 (nI (smF (hf 5) 4 4 0))) 2 (nI (smF (hf 9) 3 0 0)))))]) 0 rfl (by first | omega | (simp [up2, *]; done) | (simp [up2, *]; omega) | (simp only [up2_eq]; omega) | (split <;> omega)) (by first | omega | (simp [up2, *]; done) | (simp [up2, *]; omega) | (simp only [up2_eq]; omega) | (split <;> omega)) rfl dX4_houseNow_100 ?_
                  refine r_dup C dX4_houseNow_101 rfl ?_
                  refine r_iconst (v := (nI 3)) C dX4_houseNow_102 (by decide) ?_
                  refine r_aload_n C dX4_houseNow_103 rfl ?_
                  refine m_get (v := .int kn) C 9 (by decide) qf_X4_202 rfl rfl dX4_houseNow_104 ?_
                  refine x_ast C (i := 3) (f := upd (upd (upd (fun _ => 0) 0 (nI (smF (hf 4) 4 0 0))) 1 (nI (smF (hf 5) 4 4 0))) 2 (nI (smF (hf 9) 3 0 0))) (E' := [(b_5, .inl (cy 1, 4, .inl (upd (upd (upd (upd (fun _ => 0) 0 (nI (smF (hf 4) 4 0 0))) 1 (nI (smF (hf 5) 4 4 0))) 2 (nI (smF (hf 9) 3 0 0))) 3 kn)))]) 0 rfl (by first | omega | (simp [up2, *]; done) | (simp [up2, *]; omega) | (simp only [up2_eq]; omega) | (split <;> omega)) (by first | omega | (simp [up2, *]; done) | (simp [up2, *]; omega) | (simp only [up2_eq]; omega) | (split <;> omega)) rfl dX4_houseNow_107 ?_
                  refine r_astore C dX4_houseNow_108 (by decide) rfl ?_
                  refine r_aload C dX4_houseNow_110 rfl ?_
                  refine r_iload_n C dX4_houseNow_112 rfl ?_
                  refine x_ald C (i := 2) (f := upd (upd (upd (upd (fun _ => 0) 0 (nI (smF (hf 4) 4 0 0))) 1 (nI (smF (hf 5) 4 4 0))) 2 (nI (smF (hf 9) 3 0 0))) 3 kn) 0 rfl (by first | omega | (simp [up2, *]; done) | (simp [up2, *]; omega) | (simp only [up2_eq]; omega) | (split <;> omega)) (by first | omega | (simp [up2, *]; done) | (simp [up2, *]; omega) | (simp only [up2_eq]; omega) | (split <;> omega)) dX4_houseNow_113 ?_
                  refine r_eqi (show (upd (upd (upd (upd (fun _ => 0) 0 (nI (smF (hf 4) 4 0 0))) 1 (nI (smF (hf 5) 4 4 0))) 2 (nI (smF (hf 9) 3 0 0))) 3 kn) 2 = (nI (smF (hf 9) 3 0 0)) from rfl) ?_
                  refine r_pre ?_
                  exact r_iret C hr dX4_houseNow_114 ⟨rfl, rfl⟩ (Nat.le_of_ble_eq_true rfl) (Nat.le_of_ble_eq_true rfl)
              · first
                | exfalso; first | omega | contradiction
                | skip
                  refine r_aload C dX4_houseNow_62 rfl ?_
                  refine r_iload C dX4_houseNow_64 rfl ?_
                  refine m_zld (i := k) (z := k) (v := hf 9 k) C 4 (by decide) (by decide) (show k < 3 from (by first | omega | (simp [up2, *]; done) | (simp [up2, *]; omega) | (simp only [up2_eq]; omega) | (split <;> omega))) (show 0 + k = k from (by omega)) rfl dX4_houseNow_66 ?_
                  refine r_istore C dX4_houseNow_67 (by decide) rfl ?_
                  refine r_iload_n C dX4_houseNow_69 rfl ?_
                  refine r_iload C dX4_houseNow_70 rfl ?_
                  refine d_S (st := [.int (nI z3)]) hX.1.stb C hE (D_one (ba := ba) (ra := ra) (hf := hf) (hq := hq) (kn := kn) (th := th) (sm := sm) (Y := Y) (b0 := (hf 9 k)) hX (h9a k (by omega))) pk_X4_one qm_X4_136 rfl rfl (Nat.le_of_ble_eq_true rfl) dX4_houseNow_72 ⟨(Nat.le_of_ble_eq_true rfl), (Nat.le_of_ble_eq_true rfl)⟩ ⟨(Nat.le_of_ble_eq_true rfl), (Nat.le_of_ble_eq_true rfl)⟩ ?_
                  refine r_w (w' := WM cy ba ra hf hq kn th sm ++ Y) rfl ?_
                  refine r_iaddN C dX4_houseNow_75 ?_
                  refine r_istore_n C dX4_houseNow_76 (by decide) rfl ?_
                  refine r_iincN C dX4_houseNow_77 rfl (by decide) rfl ?_
                  refine r_goto (tgt := 55) C dX4_houseNow_80 (by decide) ?_
                  refine r_drop 7 ?_
                  exact ih_L55 (k + 1) (z3 + (hf 9 k)) (by first | omega | (simp [up2, *]; done) | (simp [up2, *]; omega) | (simp only [up2_eq]; omega) | (split <;> omega)) (by have h8 := h9a k (by omega); omega) (by rw [← hF3]; rfl)
          exact L55 3 0 0 (by first | omega | (simp [up2, *]; done) | (simp [up2, *]; omega) | (simp only [up2_eq]; omega) | (split <;> omega)) (by omega) rfl
      · first
        | exfalso; first | omega | contradiction
        | skip
          refine r_aload_n C dX4_houseNow_21 rfl ?_
          refine r_iload C dX4_houseNow_22 rfl ?_
          refine m_rows (i := k) C (by first | omega | (simp [up2, *]; done) | (simp [up2, *]; omega) | (simp only [up2_eq]; omega) | (split <;> omega)) dX4_houseNow_24 ?_
          refine r_astore C dX4_houseNow_25 (by decide) rfl ?_
          refine r_iload_n C dX4_houseNow_27 rfl ?_
          refine r_aload C dX4_houseNow_28 rfl ?_
          refine m_rlen (i := k) (v := hf 4 k) C (by first | omega | (simp [up2, *]; done) | (simp [up2, *]; omega) | (simp only [up2_eq]; omega) | (split <;> omega)) rfl dX4_houseNow_30 ?_
          refine r_iaddN C dX4_houseNow_31 ?_
          refine r_istore_n C dX4_houseNow_32 (by decide) rfl ?_
          refine r_iincN C dX4_houseNow_33 rfl (by decide) rfl ?_
          refine r_goto (tgt := 14) C dX4_houseNow_36 (by decide) ?_
          refine r_drop 6 ?_
          exact (Nat.not_lt_zero _ (by omega)).elim
    | succ d ih_L14 =>
      intro k z hk hz hF
      refine r_iload C dX4_houseNow_14 rfl ?_
      refine r_iload C dX4_houseNow_16 rfl ?_
      refine r_icN_ge (a := k) (b := 4) (tgt := 39) C (by first | omega | (simp [up2, *]; done) | (simp [up2, *]; omega) | (simp only [up2_eq]; omega) | (split <;> omega)) (by first | omega | (simp [up2, *]; done) | (simp [up2, *]; omega) | (simp only [up2_eq]; omega) | (split <;> omega)) dX4_houseNow_18 (by decide) (fun h18_6 => ?_) (fun h18_6 => ?_)
      · first
        | exfalso; first | omega | contradiction
        | skip
          have e9 : z = smF (hf 4) 4 0 0 := hF
          subst e9
          refine r_iconst (v := (nI 0)) C dX4_houseNow_39 (by decide) ?_
          refine r_istore_n C dX4_houseNow_40 (by decide) rfl ?_
          refine r_aload_n C dX4_houseNow_41 rfl ?_
          refine m_get (v := .ref (ba 5)) C 5 (by decide) qf_X4_32 rfl rfl dX4_houseNow_42 ?_
          refine r_astore C dX4_houseNow_45 (by decide) rfl ?_
          refine r_aload C dX4_houseNow_47 rfl ?_
          refine m_alen C 4 (by decide) dX4_houseNow_49 ?_
          refine r_istore C dX4_houseNow_50 (by decide) rfl ?_
          refine r_iconst (v := (nI 0)) C dX4_houseNow_52 (by decide) ?_
          refine r_istore C dX4_houseNow_53 (by decide) rfl ?_
          have L55 : ∀ (d : Nat) (k : Nat) (z3 : Nat), (hk3 : k + d = 3) → (hz3 : z3 ≤ k) → (hF3 : smF (hf 9) d k z3 = smF (hf 9) 3 0 0) → vC p l e (rmk 3 1 4 90) s m args below meth c D A (vx_MQ below (vG (fun v1 w1 => v1 = (some (.int (hoM hf kn 2))) ∧ w1 = WM cy ba ra hf hq kn th sm ++ Y) D vwCl A) (vGX (fun _ => False) D vwCl (WM cy ba ra hf hq kn th sm ++ Y) A) args s (rmk 3 1 4 90).cells (rmk 3 1 4 90).slots A) 8 0 0 (WM cy ba ra hf hq kn th sm ++ Y) [some (.ref (ba 9)), some (.int (nI 2)), some (.int (nI (smF (hf 4) 4 0 0))), some (.int (nI z3)), some (.ref (ba 5)), some (.int (nI 3)), some (.int (nI k)), none] 55 [] := by
            intro d
            induction d with
            | zero =>
              intro k z3 hk3 hz3 hF3
              refine r_iload C dX4_houseNow_55 rfl ?_
              refine r_iload C dX4_houseNow_57 rfl ?_
              refine r_icN_ge (a := k) (b := 3) (tgt := 83) C (by first | omega | (simp [up2, *]; done) | (simp [up2, *]; omega) | (simp only [up2_eq]; omega) | (split <;> omega)) (by first | omega | (simp [up2, *]; done) | (simp [up2, *]; omega) | (simp only [up2_eq]; omega) | (split <;> omega)) dX4_houseNow_59 (by decide) (fun h59_7 => ?_) (fun h59_7 => ?_)
              · first
                | exfalso; first | omega | contradiction
                | skip
                  have e9 : z3 = smF (hf 9) 3 0 0 := hF3
                  subst e9
                  refine r_iconst (v := (nI 4)) C dX4_houseNow_83 (by decide) ?_
                  refine r_newT C .int .int 1 rfl (by simp) qa_int (n := 4) (show 4 < 1000000 from Nat.lt_of_le_of_lt (show 4 ≤ 4 from (Nat.le_refl _)) (by decide)) (1) (4) (Nat.le_of_ble_eq_true rfl) (Nat.add_le_add (Nat.le_refl _) (show 4 ≤ 4 from (Nat.le_refl _))) (Nat.le_of_ble_eq_true rfl) (Nat.le_of_ble_eq_true rfl) dX4_houseNow_84 (fun b_8 => ?_)
                  refine r_w (w' := WM cy ba ra hf hq kn th sm ++ (Y ++ [(b_8, .inl (cy 1, 4, .inl (fun _ => 0)))])) (by simp only [List.append_assoc, List.cons_append, List.nil_append]) ?_
                  refine r_dup C dX4_houseNow_86 rfl ?_
                  refine r_iconst (v := (nI 0)) C dX4_houseNow_87 (by decide) ?_
                  refine r_iload_n C dX4_houseNow_88 rfl ?_
                  refine x_ast C (i := 0) (f := fun _ => 0) (E' := [(b_8, .inl (cy 1, 4, .inl (upd (fun _ => 0) 0 (nI (smF (hf 4) 4 0 0)))))]) 0 rfl (by first | omega | (simp [up2, *]; done) | (simp [up2, *]; omega) | (simp only [up2_eq]; omega) | (split <;> omega)) (by first | omega | (simp [up2, *]; done) | (simp [up2, *]; omega) | (simp only [up2_eq]; omega) | (split <;> omega)) rfl dX4_houseNow_89 ?_
                  refine r_dup C dX4_houseNow_90 rfl ?_
                  refine r_iconst (v := (nI 1)) C dX4_houseNow_91 (by decide) ?_
                  refine r_aload_n C dX4_houseNow_92 rfl ?_
                  refine d_V (st := [.int (nI 1), .ref b_8, .ref b_8]) hX.1.stb C hE (D_windows (ba := ba) (ra := ra) (hf := hf) (hq := hq) (kn := kn) (th := th) (sm := sm)  hX (fun w a b => by have h8 := h5M w a b; omega)) pk_X4_windows qm_X4_186 0 8 rfl rfl wm_0 rfl rfl (Nat.le_of_ble_eq_true rfl) dX4_houseNow_93 ⟨(Nat.le_of_ble_eq_true rfl), (Nat.le_of_ble_eq_true rfl)⟩ ⟨(Nat.le_of_ble_eq_true rfl), (Nat.le_of_ble_eq_true rfl)⟩ ?_
                  refine r_w (w' := WM cy ba ra hf hq kn th sm ++ (Y ++ [(b_8, .inl (cy 1, 4, .inl (upd (fun _ => 0) 0 (nI (smF (hf 4) 4 0 0)))))])) rfl ?_
                  refine x_ast C (i := 1) (f := upd (fun _ => 0) 0 (nI (smF (hf 4) 4 0 0))) (E' := [(b_8, .inl (cy 1, 4, .inl (upd (upd (fun _ => 0) 0 (nI (smF (hf 4) 4 0 0))) 1 (nI (smF (hf 5) 4 4 0)))))]) 0 rfl (by first | omega | (simp [up2, *]; done) | (simp [up2, *]; omega) | (simp only [up2_eq]; omega) | (split <;> omega)) (by first | omega | (simp [up2, *]; done) | (simp [up2, *]; omega) | (simp only [up2_eq]; omega) | (split <;> omega)) rfl dX4_houseNow_96 ?_
                  refine r_dup C dX4_houseNow_97 rfl ?_
                  refine r_iconst (v := (nI 2)) C dX4_houseNow_98 (by decide) ?_
                  refine r_iload_n C dX4_houseNow_99 rfl ?_
                  refine x_ast C (i := 2) (f := upd (upd (fun _ => 0) 0 (nI (smF (hf 4) 4 0 0))) 1 (nI (smF (hf 5) 4 4 0))) (E' := [(b_8, .inl (cy 1, 4, .inl (upd (upd (upd (fun _ => 0) 0 (nI (smF (hf 4) 4 0 0))) 1 (nI (smF (hf 5) 4 4 0))) 2 (nI (smF (hf 9) 3 0 0)))))]) 0 rfl (by first | omega | (simp [up2, *]; done) | (simp [up2, *]; omega) | (simp only [up2_eq]; omega) | (split <;> omega)) (by first | omega | (simp [up2, *]; done) | (simp [up2, *]; omega) | (simp only [up2_eq]; omega) | (split <;> omega)) rfl dX4_houseNow_100 ?_
                  refine r_dup C dX4_houseNow_101 rfl ?_
                  refine r_iconst (v := (nI 3)) C dX4_houseNow_102 (by decide) ?_
                  refine r_aload_n C dX4_houseNow_103 rfl ?_
                  refine m_get (v := .int kn) C 9 (by decide) qf_X4_202 rfl rfl dX4_houseNow_104 ?_
                  refine x_ast C (i := 3) (f := upd (upd (upd (fun _ => 0) 0 (nI (smF (hf 4) 4 0 0))) 1 (nI (smF (hf 5) 4 4 0))) 2 (nI (smF (hf 9) 3 0 0))) (E' := [(b_8, .inl (cy 1, 4, .inl (upd (upd (upd (upd (fun _ => 0) 0 (nI (smF (hf 4) 4 0 0))) 1 (nI (smF (hf 5) 4 4 0))) 2 (nI (smF (hf 9) 3 0 0))) 3 kn)))]) 0 rfl (by first | omega | (simp [up2, *]; done) | (simp [up2, *]; omega) | (simp only [up2_eq]; omega) | (split <;> omega)) (by first | omega | (simp [up2, *]; done) | (simp [up2, *]; omega) | (simp only [up2_eq]; omega) | (split <;> omega)) rfl dX4_houseNow_107 ?_
                  refine r_astore C dX4_houseNow_108 (by decide) rfl ?_
                  refine r_aload C dX4_houseNow_110 rfl ?_
                  refine r_iload_n C dX4_houseNow_112 rfl ?_
                  refine x_ald C (i := 2) (f := upd (upd (upd (upd (fun _ => 0) 0 (nI (smF (hf 4) 4 0 0))) 1 (nI (smF (hf 5) 4 4 0))) 2 (nI (smF (hf 9) 3 0 0))) 3 kn) 0 rfl (by first | omega | (simp [up2, *]; done) | (simp [up2, *]; omega) | (simp only [up2_eq]; omega) | (split <;> omega)) (by first | omega | (simp [up2, *]; done) | (simp [up2, *]; omega) | (simp only [up2_eq]; omega) | (split <;> omega)) dX4_houseNow_113 ?_
                  refine r_eqi (show (upd (upd (upd (upd (fun _ => 0) 0 (nI (smF (hf 4) 4 0 0))) 1 (nI (smF (hf 5) 4 4 0))) 2 (nI (smF (hf 9) 3 0 0))) 3 kn) 2 = (nI (smF (hf 9) 3 0 0)) from rfl) ?_
                  refine r_pre ?_
                  exact r_iret C hr dX4_houseNow_114 ⟨rfl, rfl⟩ (Nat.le_of_ble_eq_true rfl) (Nat.le_of_ble_eq_true rfl)
              · first
                | exfalso; first | omega | contradiction
                | skip
                  refine r_aload C dX4_houseNow_62 rfl ?_
                  refine r_iload C dX4_houseNow_64 rfl ?_
                  refine m_zld (i := k) (z := k) (v := hf 9 k) C 4 (by decide) (by decide) (show k < 3 from (by first | omega | (simp [up2, *]; done) | (simp [up2, *]; omega) | (simp only [up2_eq]; omega) | (split <;> omega))) (show 0 + k = k from (by omega)) rfl dX4_houseNow_66 ?_
                  refine r_istore C dX4_houseNow_67 (by decide) rfl ?_
                  refine r_iload_n C dX4_houseNow_69 rfl ?_
                  refine r_iload C dX4_houseNow_70 rfl ?_
                  refine d_S (st := [.int (nI z3)]) hX.1.stb C hE (D_one (ba := ba) (ra := ra) (hf := hf) (hq := hq) (kn := kn) (th := th) (sm := sm) (Y := Y) (b0 := (hf 9 k)) hX (h9a k (by omega))) pk_X4_one qm_X4_136 rfl rfl (Nat.le_of_ble_eq_true rfl) dX4_houseNow_72 ⟨(Nat.le_of_ble_eq_true rfl), (Nat.le_of_ble_eq_true rfl)⟩ ⟨(Nat.le_of_ble_eq_true rfl), (Nat.le_of_ble_eq_true rfl)⟩ ?_
                  refine r_w (w' := WM cy ba ra hf hq kn th sm ++ Y) rfl ?_
                  refine r_iaddN C dX4_houseNow_75 ?_
                  refine r_istore_n C dX4_houseNow_76 (by decide) rfl ?_
                  refine r_iincN C dX4_houseNow_77 rfl (by decide) rfl ?_
                  refine r_goto (tgt := 55) C dX4_houseNow_80 (by decide) ?_
                  refine r_drop 7 ?_
                  exact (Nat.not_lt_zero _ (by omega)).elim
            | succ d ih_L55 =>
              intro k z3 hk3 hz3 hF3
              refine r_iload C dX4_houseNow_55 rfl ?_
              refine r_iload C dX4_houseNow_57 rfl ?_
              refine r_icN_ge (a := k) (b := 3) (tgt := 83) C (by first | omega | (simp [up2, *]; done) | (simp [up2, *]; omega) | (simp only [up2_eq]; omega) | (split <;> omega)) (by first | omega | (simp [up2, *]; done) | (simp [up2, *]; omega) | (simp only [up2_eq]; omega) | (split <;> omega)) dX4_houseNow_59 (by decide) (fun h59_9 => ?_) (fun h59_9 => ?_)
              · first
                | exfalso; first | omega | contradiction
                | skip
                  have e9 : z3 = smF (hf 9) 3 0 0 := hF3
                  subst e9
                  refine r_iconst (v := (nI 4)) C dX4_houseNow_83 (by decide) ?_
                  refine r_newT C .int .int 1 rfl (by simp) qa_int (n := 4) (show 4 < 1000000 from Nat.lt_of_le_of_lt (show 4 ≤ 4 from (Nat.le_refl _)) (by decide)) (1) (4) (Nat.le_of_ble_eq_true rfl) (Nat.add_le_add (Nat.le_refl _) (show 4 ≤ 4 from (Nat.le_refl _))) (Nat.le_of_ble_eq_true rfl) (Nat.le_of_ble_eq_true rfl) dX4_houseNow_84 (fun b_10 => ?_)
                  refine r_w (w' := WM cy ba ra hf hq kn th sm ++ (Y ++ [(b_10, .inl (cy 1, 4, .inl (fun _ => 0)))])) (by simp only [List.append_assoc, List.cons_append, List.nil_append]) ?_
                  refine r_dup C dX4_houseNow_86 rfl ?_
                  refine r_iconst (v := (nI 0)) C dX4_houseNow_87 (by decide) ?_
                  refine r_iload_n C dX4_houseNow_88 rfl ?_
                  refine x_ast C (i := 0) (f := fun _ => 0) (E' := [(b_10, .inl (cy 1, 4, .inl (upd (fun _ => 0) 0 (nI (smF (hf 4) 4 0 0)))))]) 0 rfl (by first | omega | (simp [up2, *]; done) | (simp [up2, *]; omega) | (simp only [up2_eq]; omega) | (split <;> omega)) (by first | omega | (simp [up2, *]; done) | (simp [up2, *]; omega) | (simp only [up2_eq]; omega) | (split <;> omega)) rfl dX4_houseNow_89 ?_
                  refine r_dup C dX4_houseNow_90 rfl ?_
                  refine r_iconst (v := (nI 1)) C dX4_houseNow_91 (by decide) ?_
                  refine r_aload_n C dX4_houseNow_92 rfl ?_
                  refine d_V (st := [.int (nI 1), .ref b_10, .ref b_10]) hX.1.stb C hE (D_windows (ba := ba) (ra := ra) (hf := hf) (hq := hq) (kn := kn) (th := th) (sm := sm)  hX (fun w a b => by have h8 := h5M w a b; omega)) pk_X4_windows qm_X4_186 0 8 rfl rfl wm_0 rfl rfl (Nat.le_of_ble_eq_true rfl) dX4_houseNow_93 ⟨(Nat.le_of_ble_eq_true rfl), (Nat.le_of_ble_eq_true rfl)⟩ ⟨(Nat.le_of_ble_eq_true rfl), (Nat.le_of_ble_eq_true rfl)⟩ ?_
                  refine r_w (w' := WM cy ba ra hf hq kn th sm ++ (Y ++ [(b_10, .inl (cy 1, 4, .inl (upd (fun _ => 0) 0 (nI (smF (hf 4) 4 0 0)))))])) rfl ?_
                  refine x_ast C (i := 1) (f := upd (fun _ => 0) 0 (nI (smF (hf 4) 4 0 0))) (E' := [(b_10, .inl (cy 1, 4, .inl (upd (upd (fun _ => 0) 0 (nI (smF (hf 4) 4 0 0))) 1 (nI (smF (hf 5) 4 4 0)))))]) 0 rfl (by first | omega | (simp [up2, *]; done) | (simp [up2, *]; omega) | (simp only [up2_eq]; omega) | (split <;> omega)) (by first | omega | (simp [up2, *]; done) | (simp [up2, *]; omega) | (simp only [up2_eq]; omega) | (split <;> omega)) rfl dX4_houseNow_96 ?_
                  refine r_dup C dX4_houseNow_97 rfl ?_
                  refine r_iconst (v := (nI 2)) C dX4_houseNow_98 (by decide) ?_
                  refine r_iload_n C dX4_houseNow_99 rfl ?_
                  refine x_ast C (i := 2) (f := upd (upd (fun _ => 0) 0 (nI (smF (hf 4) 4 0 0))) 1 (nI (smF (hf 5) 4 4 0))) (E' := [(b_10, .inl (cy 1, 4, .inl (upd (upd (upd (fun _ => 0) 0 (nI (smF (hf 4) 4 0 0))) 1 (nI (smF (hf 5) 4 4 0))) 2 (nI (smF (hf 9) 3 0 0)))))]) 0 rfl (by first | omega | (simp [up2, *]; done) | (simp [up2, *]; omega) | (simp only [up2_eq]; omega) | (split <;> omega)) (by first | omega | (simp [up2, *]; done) | (simp [up2, *]; omega) | (simp only [up2_eq]; omega) | (split <;> omega)) rfl dX4_houseNow_100 ?_
                  refine r_dup C dX4_houseNow_101 rfl ?_
                  refine r_iconst (v := (nI 3)) C dX4_houseNow_102 (by decide) ?_
                  refine r_aload_n C dX4_houseNow_103 rfl ?_
                  refine m_get (v := .int kn) C 9 (by decide) qf_X4_202 rfl rfl dX4_houseNow_104 ?_
                  refine x_ast C (i := 3) (f := upd (upd (upd (fun _ => 0) 0 (nI (smF (hf 4) 4 0 0))) 1 (nI (smF (hf 5) 4 4 0))) 2 (nI (smF (hf 9) 3 0 0))) (E' := [(b_10, .inl (cy 1, 4, .inl (upd (upd (upd (upd (fun _ => 0) 0 (nI (smF (hf 4) 4 0 0))) 1 (nI (smF (hf 5) 4 4 0))) 2 (nI (smF (hf 9) 3 0 0))) 3 kn)))]) 0 rfl (by first | omega | (simp [up2, *]; done) | (simp [up2, *]; omega) | (simp only [up2_eq]; omega) | (split <;> omega)) (by first | omega | (simp [up2, *]; done) | (simp [up2, *]; omega) | (simp only [up2_eq]; omega) | (split <;> omega)) rfl dX4_houseNow_107 ?_
                  refine r_astore C dX4_houseNow_108 (by decide) rfl ?_
                  refine r_aload C dX4_houseNow_110 rfl ?_
                  refine r_iload_n C dX4_houseNow_112 rfl ?_
                  refine x_ald C (i := 2) (f := upd (upd (upd (upd (fun _ => 0) 0 (nI (smF (hf 4) 4 0 0))) 1 (nI (smF (hf 5) 4 4 0))) 2 (nI (smF (hf 9) 3 0 0))) 3 kn) 0 rfl (by first | omega | (simp [up2, *]; done) | (simp [up2, *]; omega) | (simp only [up2_eq]; omega) | (split <;> omega)) (by first | omega | (simp [up2, *]; done) | (simp [up2, *]; omega) | (simp only [up2_eq]; omega) | (split <;> omega)) dX4_houseNow_113 ?_
                  refine r_eqi (show (upd (upd (upd (upd (fun _ => 0) 0 (nI (smF (hf 4) 4 0 0))) 1 (nI (smF (hf 5) 4 4 0))) 2 (nI (smF (hf 9) 3 0 0))) 3 kn) 2 = (nI (smF (hf 9) 3 0 0)) from rfl) ?_
                  refine r_pre ?_
                  exact r_iret C hr dX4_houseNow_114 ⟨rfl, rfl⟩ (Nat.le_of_ble_eq_true rfl) (Nat.le_of_ble_eq_true rfl)
              · first
                | exfalso; first | omega | contradiction
                | skip
                  refine r_aload C dX4_houseNow_62 rfl ?_
                  refine r_iload C dX4_houseNow_64 rfl ?_
                  refine m_zld (i := k) (z := k) (v := hf 9 k) C 4 (by decide) (by decide) (show k < 3 from (by first | omega | (simp [up2, *]; done) | (simp [up2, *]; omega) | (simp only [up2_eq]; omega) | (split <;> omega))) (show 0 + k = k from (by omega)) rfl dX4_houseNow_66 ?_
                  refine r_istore C dX4_houseNow_67 (by decide) rfl ?_
                  refine r_iload_n C dX4_houseNow_69 rfl ?_
                  refine r_iload C dX4_houseNow_70 rfl ?_
                  refine d_S (st := [.int (nI z3)]) hX.1.stb C hE (D_one (ba := ba) (ra := ra) (hf := hf) (hq := hq) (kn := kn) (th := th) (sm := sm) (Y := Y) (b0 := (hf 9 k)) hX (h9a k (by omega))) pk_X4_one qm_X4_136 rfl rfl (Nat.le_of_ble_eq_true rfl) dX4_houseNow_72 ⟨(Nat.le_of_ble_eq_true rfl), (Nat.le_of_ble_eq_true rfl)⟩ ⟨(Nat.le_of_ble_eq_true rfl), (Nat.le_of_ble_eq_true rfl)⟩ ?_
                  refine r_w (w' := WM cy ba ra hf hq kn th sm ++ Y) rfl ?_
                  refine r_iaddN C dX4_houseNow_75 ?_
                  refine r_istore_n C dX4_houseNow_76 (by decide) rfl ?_
                  refine r_iincN C dX4_houseNow_77 rfl (by decide) rfl ?_
                  refine r_goto (tgt := 55) C dX4_houseNow_80 (by decide) ?_
                  refine r_drop 7 ?_
                  exact ih_L55 (k + 1) (z3 + (hf 9 k)) (by first | omega | (simp [up2, *]; done) | (simp [up2, *]; omega) | (simp only [up2_eq]; omega) | (split <;> omega)) (by have h8 := h9a k (by omega); omega) (by rw [← hF3]; rfl)
          exact L55 3 0 0 (by first | omega | (simp [up2, *]; done) | (simp [up2, *]; omega) | (simp only [up2_eq]; omega) | (split <;> omega)) (by omega) rfl
      · first
        | exfalso; first | omega | contradiction
        | skip
          refine r_aload_n C dX4_houseNow_21 rfl ?_
          refine r_iload C dX4_houseNow_22 rfl ?_
          refine m_rows (i := k) C (by first | omega | (simp [up2, *]; done) | (simp [up2, *]; omega) | (simp only [up2_eq]; omega) | (split <;> omega)) dX4_houseNow_24 ?_
          refine r_astore C dX4_houseNow_25 (by decide) rfl ?_
          refine r_iload_n C dX4_houseNow_27 rfl ?_
          refine r_aload C dX4_houseNow_28 rfl ?_
          refine m_rlen (i := k) (v := hf 4 k) C (by first | omega | (simp [up2, *]; done) | (simp [up2, *]; omega) | (simp only [up2_eq]; omega) | (split <;> omega)) rfl dX4_houseNow_30 ?_
          refine r_iaddN C dX4_houseNow_31 ?_
          refine r_istore_n C dX4_houseNow_32 (by decide) rfl ?_
          refine r_iincN C dX4_houseNow_33 rfl (by decide) rfl ?_
          refine r_goto (tgt := 14) C dX4_houseNow_36 (by decide) ?_
          refine r_drop 6 ?_
          exact ih_L14 (k + 1) (z + (hf 4 k)) (by first | omega | (simp [up2, *]; done) | (simp [up2, *]; omega) | (simp only [up2_eq]; omega) | (split <;> omega)) (by have h8 := (hM.2.1 k (by omega)).1; have h7 := hC.rw (i := k) (by omega); omega) (by rw [← hF]; rfl)
  exact L14 4 0 0 (by first | omega | (simp [up2, *]; done) | (simp [up2, *]; omega) | (simp only [up2_eq]; omega) | (split <;> omega)) (by omega) rfl
set_option maxRecDepth 100000 in
set_option maxHeartbeats 4000000 in
theorem D_houseNow_3 {l : Launch} {D : va_G} {cy : Nat → ClassId} {X : (Nat → Prop) → State → Heap → Prop} {ba ra : Nat → Nat} {hf : Nat → Nat → Nat} {hq : Nat → Nat → Int32} {kn th : Int32} {sm : Int64} {Y : va_W} {f : Nat → Nat → Nat} {r : Nat → Nat → Int32}  (hX : EnvM X cy) (hC : CInv f) (hM : MR f r hf hq) : Cd l D cy X yX4_houseNow cX4_houseNow 8 (some .int) (rmk 3 1 4 90) [.ref (ba 9), .int (nI 3)] (WM cy ba ra hf hq kn th sm ++ Y) (some (.int (hoM hf kn 3))) (WM cy ba ra hf hq kn th sm ++ Y) := by
  have hG := hM.1
  have h5M := hM.h5M hC
  have h4M := hC.h4M
  have h9a := hM.h9a hC
  have h6a := hM.h6a
  have hU := hM.hU hC
  refine Cm.of [some (.ref (ba 9)), some (.int (nI 3)), none, none, none, none, none, none] pn_X4 rfl (Nat.le_of_ble_eq_true rfl) ?_
  intro p e s m args below meth c A C hE hr hnt hn
  refine r_iconst (v := (nI 0)) C dX4_houseNow_0 (by decide) ?_
  refine r_istore_n C dX4_houseNow_1 (by decide) rfl ?_
  refine r_aload_n C dX4_houseNow_2 rfl ?_
  refine m_get (v := .ref (ba 0)) C 0 (by decide) qf_X4_15 rfl rfl dX4_houseNow_3 ?_
  refine r_astore_n C dX4_houseNow_6 (by decide) rfl ?_
  refine r_aload_n C dX4_houseNow_7 rfl ?_
  refine m_olen C dX4_houseNow_8 ?_
  refine r_istore C dX4_houseNow_9 (by decide) rfl ?_
  refine r_iconst (v := (nI 0)) C dX4_houseNow_11 (by decide) ?_
  refine r_istore C dX4_houseNow_12 (by decide) rfl ?_
  have L14 : ∀ (d : Nat) (k : Nat) (z : Nat), (hk : k + d = 4) → (hz : z ≤ 12 * k) → (hF : smF (hf 4) d k z = smF (hf 4) 4 0 0) → vC p l e (rmk 3 1 4 90) s m args below meth c D A (vx_MQ below (vG (fun v1 w1 => v1 = (some (.int (hoM hf kn 3))) ∧ w1 = WM cy ba ra hf hq kn th sm ++ Y) D vwCl A) (vGX (fun _ => False) D vwCl (WM cy ba ra hf hq kn th sm ++ Y) A) args s (rmk 3 1 4 90).cells (rmk 3 1 4 90).slots A) 8 0 0 (WM cy ba ra hf hq kn th sm ++ Y) [some (.ref (ba 9)), some (.int (nI 3)), some (.int (nI z)), some (.ref (ba 0)), some (.int (nI 4)), some (.int (nI k)), none, none] 14 [] := by
    intro d
    induction d with
    | zero =>
      intro k z hk hz hF
      refine r_iload C dX4_houseNow_14 rfl ?_
      refine r_iload C dX4_houseNow_16 rfl ?_
      refine r_icN_ge (a := k) (b := 4) (tgt := 39) C (by first | omega | (simp [up2, *]; done) | (simp [up2, *]; omega) | (simp only [up2_eq]; omega) | (split <;> omega)) (by first | omega | (simp [up2, *]; done) | (simp [up2, *]; omega) | (simp only [up2_eq]; omega) | (split <;> omega)) dX4_houseNow_18 (by decide) (fun h18_1 => ?_) (fun h18_1 => ?_)
      · first
        | exfalso; first | omega | contradiction
        | skip
          have e9 : z = smF (hf 4) 4 0 0 := hF
          subst e9
          refine r_iconst (v := (nI 0)) C dX4_houseNow_39 (by decide) ?_
          refine r_istore_n C dX4_houseNow_40 (by decide) rfl ?_
          refine r_aload_n C dX4_houseNow_41 rfl ?_
          refine m_get (v := .ref (ba 5)) C 5 (by decide) qf_X4_32 rfl rfl dX4_houseNow_42 ?_
          refine r_astore C dX4_houseNow_45 (by decide) rfl ?_
          refine r_aload C dX4_houseNow_47 rfl ?_
          refine m_alen C 4 (by decide) dX4_houseNow_49 ?_
          refine r_istore C dX4_houseNow_50 (by decide) rfl ?_
          refine r_iconst (v := (nI 0)) C dX4_houseNow_52 (by decide) ?_
          refine r_istore C dX4_houseNow_53 (by decide) rfl ?_
          have L55 : ∀ (d : Nat) (k : Nat) (z3 : Nat), (hk3 : k + d = 3) → (hz3 : z3 ≤ k) → (hF3 : smF (hf 9) d k z3 = smF (hf 9) 3 0 0) → vC p l e (rmk 3 1 4 90) s m args below meth c D A (vx_MQ below (vG (fun v1 w1 => v1 = (some (.int (hoM hf kn 3))) ∧ w1 = WM cy ba ra hf hq kn th sm ++ Y) D vwCl A) (vGX (fun _ => False) D vwCl (WM cy ba ra hf hq kn th sm ++ Y) A) args s (rmk 3 1 4 90).cells (rmk 3 1 4 90).slots A) 8 0 0 (WM cy ba ra hf hq kn th sm ++ Y) [some (.ref (ba 9)), some (.int (nI 3)), some (.int (nI (smF (hf 4) 4 0 0))), some (.int (nI z3)), some (.ref (ba 5)), some (.int (nI 3)), some (.int (nI k)), none] 55 [] := by
            intro d
            induction d with
            | zero =>
              intro k z3 hk3 hz3 hF3
              refine r_iload C dX4_houseNow_55 rfl ?_
              refine r_iload C dX4_houseNow_57 rfl ?_
              refine r_icN_ge (a := k) (b := 3) (tgt := 83) C (by first | omega | (simp [up2, *]; done) | (simp [up2, *]; omega) | (simp only [up2_eq]; omega) | (split <;> omega)) (by first | omega | (simp [up2, *]; done) | (simp [up2, *]; omega) | (simp only [up2_eq]; omega) | (split <;> omega)) dX4_houseNow_59 (by decide) (fun h59_2 => ?_) (fun h59_2 => ?_)
              · first
                | exfalso; first | omega | contradiction
                | skip
                  have e9 : z3 = smF (hf 9) 3 0 0 := hF3
                  subst e9
                  refine r_iconst (v := (nI 4)) C dX4_houseNow_83 (by decide) ?_
                  refine r_newT C .int .int 1 rfl (by simp) qa_int (n := 4) (show 4 < 1000000 from Nat.lt_of_le_of_lt (show 4 ≤ 4 from (Nat.le_refl _)) (by decide)) (1) (4) (Nat.le_of_ble_eq_true rfl) (Nat.add_le_add (Nat.le_refl _) (show 4 ≤ 4 from (Nat.le_refl _))) (Nat.le_of_ble_eq_true rfl) (Nat.le_of_ble_eq_true rfl) dX4_houseNow_84 (fun b_3 => ?_)
                  refine r_w (w' := WM cy ba ra hf hq kn th sm ++ (Y ++ [(b_3, .inl (cy 1, 4, .inl (fun _ => 0)))])) (by simp only [List.append_assoc, List.cons_append, List.nil_append]) ?_
                  refine r_dup C dX4_houseNow_86 rfl ?_
                  refine r_iconst (v := (nI 0)) C dX4_houseNow_87 (by decide) ?_
                  refine r_iload_n C dX4_houseNow_88 rfl ?_
                  refine x_ast C (i := 0) (f := fun _ => 0) (E' := [(b_3, .inl (cy 1, 4, .inl (upd (fun _ => 0) 0 (nI (smF (hf 4) 4 0 0)))))]) 0 rfl (by first | omega | (simp [up2, *]; done) | (simp [up2, *]; omega) | (simp only [up2_eq]; omega) | (split <;> omega)) (by first | omega | (simp [up2, *]; done) | (simp [up2, *]; omega) | (simp only [up2_eq]; omega) | (split <;> omega)) rfl dX4_houseNow_89 ?_
                  refine r_dup C dX4_houseNow_90 rfl ?_
                  refine r_iconst (v := (nI 1)) C dX4_houseNow_91 (by decide) ?_
                  refine r_aload_n C dX4_houseNow_92 rfl ?_
                  refine d_V (st := [.int (nI 1), .ref b_3, .ref b_3]) hX.1.stb C hE (D_windows (ba := ba) (ra := ra) (hf := hf) (hq := hq) (kn := kn) (th := th) (sm := sm)  hX (fun w a b => by have h8 := h5M w a b; omega)) pk_X4_windows qm_X4_186 0 8 rfl rfl wm_0 rfl rfl (Nat.le_of_ble_eq_true rfl) dX4_houseNow_93 ⟨(Nat.le_of_ble_eq_true rfl), (Nat.le_of_ble_eq_true rfl)⟩ ⟨(Nat.le_of_ble_eq_true rfl), (Nat.le_of_ble_eq_true rfl)⟩ ?_
                  refine r_w (w' := WM cy ba ra hf hq kn th sm ++ (Y ++ [(b_3, .inl (cy 1, 4, .inl (upd (fun _ => 0) 0 (nI (smF (hf 4) 4 0 0)))))])) rfl ?_
                  refine x_ast C (i := 1) (f := upd (fun _ => 0) 0 (nI (smF (hf 4) 4 0 0))) (E' := [(b_3, .inl (cy 1, 4, .inl (upd (upd (fun _ => 0) 0 (nI (smF (hf 4) 4 0 0))) 1 (nI (smF (hf 5) 4 4 0)))))]) 0 rfl (by first | omega | (simp [up2, *]; done) | (simp [up2, *]; omega) | (simp only [up2_eq]; omega) | (split <;> omega)) (by first | omega | (simp [up2, *]; done) | (simp [up2, *]; omega) | (simp only [up2_eq]; omega) | (split <;> omega)) rfl dX4_houseNow_96 ?_
                  refine r_dup C dX4_houseNow_97 rfl ?_
                  refine r_iconst (v := (nI 2)) C dX4_houseNow_98 (by decide) ?_
                  refine r_iload_n C dX4_houseNow_99 rfl ?_
                  refine x_ast C (i := 2) (f := upd (upd (fun _ => 0) 0 (nI (smF (hf 4) 4 0 0))) 1 (nI (smF (hf 5) 4 4 0))) (E' := [(b_3, .inl (cy 1, 4, .inl (upd (upd (upd (fun _ => 0) 0 (nI (smF (hf 4) 4 0 0))) 1 (nI (smF (hf 5) 4 4 0))) 2 (nI (smF (hf 9) 3 0 0)))))]) 0 rfl (by first | omega | (simp [up2, *]; done) | (simp [up2, *]; omega) | (simp only [up2_eq]; omega) | (split <;> omega)) (by first | omega | (simp [up2, *]; done) | (simp [up2, *]; omega) | (simp only [up2_eq]; omega) | (split <;> omega)) rfl dX4_houseNow_100 ?_
                  refine r_dup C dX4_houseNow_101 rfl ?_
                  refine r_iconst (v := (nI 3)) C dX4_houseNow_102 (by decide) ?_
                  refine r_aload_n C dX4_houseNow_103 rfl ?_
                  refine m_get (v := .int kn) C 9 (by decide) qf_X4_202 rfl rfl dX4_houseNow_104 ?_
                  refine x_ast C (i := 3) (f := upd (upd (upd (fun _ => 0) 0 (nI (smF (hf 4) 4 0 0))) 1 (nI (smF (hf 5) 4 4 0))) 2 (nI (smF (hf 9) 3 0 0))) (E' := [(b_3, .inl (cy 1, 4, .inl (upd (upd (upd (upd (fun _ => 0) 0 (nI (smF (hf 4) 4 0 0))) 1 (nI (smF (hf 5) 4 4 0))) 2 (nI (smF (hf 9) 3 0 0))) 3 kn)))]) 0 rfl (by first | omega | (simp [up2, *]; done) | (simp [up2, *]; omega) | (simp only [up2_eq]; omega) | (split <;> omega)) (by first | omega | (simp [up2, *]; done) | (simp [up2, *]; omega) | (simp only [up2_eq]; omega) | (split <;> omega)) rfl dX4_houseNow_107 ?_
                  refine r_astore C dX4_houseNow_108 (by decide) rfl ?_
                  refine r_aload C dX4_houseNow_110 rfl ?_
                  refine r_iload_n C dX4_houseNow_112 rfl ?_
                  refine x_ald C (i := 3) (f := upd (upd (upd (upd (fun _ => 0) 0 (nI (smF (hf 4) 4 0 0))) 1 (nI (smF (hf 5) 4 4 0))) 2 (nI (smF (hf 9) 3 0 0))) 3 kn) 0 rfl (by first | omega | (simp [up2, *]; done) | (simp [up2, *]; omega) | (simp only [up2_eq]; omega) | (split <;> omega)) (by first | omega | (simp [up2, *]; done) | (simp [up2, *]; omega) | (simp only [up2_eq]; omega) | (split <;> omega)) dX4_houseNow_113 ?_
                  refine r_eqi (show (upd (upd (upd (upd (fun _ => 0) 0 (nI (smF (hf 4) 4 0 0))) 1 (nI (smF (hf 5) 4 4 0))) 2 (nI (smF (hf 9) 3 0 0))) 3 kn) 3 = kn from rfl) ?_
                  refine r_pre ?_
                  exact r_iret C hr dX4_houseNow_114 ⟨rfl, rfl⟩ (Nat.le_of_ble_eq_true rfl) (Nat.le_of_ble_eq_true rfl)
              · first
                | exfalso; first | omega | contradiction
                | skip
                  refine r_aload C dX4_houseNow_62 rfl ?_
                  refine r_iload C dX4_houseNow_64 rfl ?_
                  refine m_zld (i := k) (z := k) (v := hf 9 k) C 4 (by decide) (by decide) (show k < 3 from (by first | omega | (simp [up2, *]; done) | (simp [up2, *]; omega) | (simp only [up2_eq]; omega) | (split <;> omega))) (show 0 + k = k from (by omega)) rfl dX4_houseNow_66 ?_
                  refine r_istore C dX4_houseNow_67 (by decide) rfl ?_
                  refine r_iload_n C dX4_houseNow_69 rfl ?_
                  refine r_iload C dX4_houseNow_70 rfl ?_
                  refine d_S (st := [.int (nI z3)]) hX.1.stb C hE (D_one (ba := ba) (ra := ra) (hf := hf) (hq := hq) (kn := kn) (th := th) (sm := sm) (Y := Y) (b0 := (hf 9 k)) hX (h9a k (by omega))) pk_X4_one qm_X4_136 rfl rfl (Nat.le_of_ble_eq_true rfl) dX4_houseNow_72 ⟨(Nat.le_of_ble_eq_true rfl), (Nat.le_of_ble_eq_true rfl)⟩ ⟨(Nat.le_of_ble_eq_true rfl), (Nat.le_of_ble_eq_true rfl)⟩ ?_
                  refine r_w (w' := WM cy ba ra hf hq kn th sm ++ Y) rfl ?_
                  refine r_iaddN C dX4_houseNow_75 ?_
                  refine r_istore_n C dX4_houseNow_76 (by decide) rfl ?_
                  refine r_iincN C dX4_houseNow_77 rfl (by decide) rfl ?_
                  refine r_goto (tgt := 55) C dX4_houseNow_80 (by decide) ?_
                  refine r_drop 7 ?_
                  exact (Nat.not_lt_zero _ (by omega)).elim
            | succ d ih_L55 =>
              intro k z3 hk3 hz3 hF3
              refine r_iload C dX4_houseNow_55 rfl ?_
              refine r_iload C dX4_houseNow_57 rfl ?_
              refine r_icN_ge (a := k) (b := 3) (tgt := 83) C (by first | omega | (simp [up2, *]; done) | (simp [up2, *]; omega) | (simp only [up2_eq]; omega) | (split <;> omega)) (by first | omega | (simp [up2, *]; done) | (simp [up2, *]; omega) | (simp only [up2_eq]; omega) | (split <;> omega)) dX4_houseNow_59 (by decide) (fun h59_4 => ?_) (fun h59_4 => ?_)
              · first
                | exfalso; first | omega | contradiction
                | skip
                  have e9 : z3 = smF (hf 9) 3 0 0 := hF3
                  subst e9
                  refine r_iconst (v := (nI 4)) C dX4_houseNow_83 (by decide) ?_
                  refine r_newT C .int .int 1 rfl (by simp) qa_int (n := 4) (show 4 < 1000000 from Nat.lt_of_le_of_lt (show 4 ≤ 4 from (Nat.le_refl _)) (by decide)) (1) (4) (Nat.le_of_ble_eq_true rfl) (Nat.add_le_add (Nat.le_refl _) (show 4 ≤ 4 from (Nat.le_refl _))) (Nat.le_of_ble_eq_true rfl) (Nat.le_of_ble_eq_true rfl) dX4_houseNow_84 (fun b_5 => ?_)
                  refine r_w (w' := WM cy ba ra hf hq kn th sm ++ (Y ++ [(b_5, .inl (cy 1, 4, .inl (fun _ => 0)))])) (by simp only [List.append_assoc, List.cons_append, List.nil_append]) ?_
                  refine r_dup C dX4_houseNow_86 rfl ?_
                  refine r_iconst (v := (nI 0)) C dX4_houseNow_87 (by decide) ?_
                  refine r_iload_n C dX4_houseNow_88 rfl ?_
                  refine x_ast C (i := 0) (f := fun _ => 0) (E' := [(b_5, .inl (cy 1, 4, .inl (upd (fun _ => 0) 0 (nI (smF (hf 4) 4 0 0)))))]) 0 rfl (by first | omega | (simp [up2, *]; done) | (simp [up2, *]; omega) | (simp only [up2_eq]; omega) | (split <;> omega)) (by first | omega | (simp [up2, *]; done) | (simp [up2, *]; omega) | (simp only [up2_eq]; omega) | (split <;> omega)) rfl dX4_houseNow_89 ?_
                  refine r_dup C dX4_houseNow_90 rfl ?_
                  refine r_iconst (v := (nI 1)) C dX4_houseNow_91 (by decide) ?_
                  refine r_aload_n C dX4_houseNow_92 rfl ?_
                  refine d_V (st := [.int (nI 1), .ref b_5, .ref b_5]) hX.1.stb C hE (D_windows (ba := ba) (ra := ra) (hf := hf) (hq := hq) (kn := kn) (th := th) (sm := sm)  hX (fun w a b => by have h8 := h5M w a b; omega)) pk_X4_windows qm_X4_186 0 8 rfl rfl wm_0 rfl rfl (Nat.le_of_ble_eq_true rfl) dX4_houseNow_93 ⟨(Nat.le_of_ble_eq_true rfl), (Nat.le_of_ble_eq_true rfl)⟩ ⟨(Nat.le_of_ble_eq_true rfl), (Nat.le_of_ble_eq_true rfl)⟩ ?_
                  refine r_w (w' := WM cy ba ra hf hq kn th sm ++ (Y ++ [(b_5, .inl (cy 1, 4, .inl (upd (fun _ => 0) 0 (nI (smF (hf 4) 4 0 0)))))])) rfl ?_
                  refine x_ast C (i := 1) (f := upd (fun _ => 0) 0 (nI (smF (hf 4) 4 0 0))) (E' := [(b_5, .inl (cy 1, 4, .inl (upd (upd (fun _ => 0) 0 (nI (smF (hf 4) 4 0 0))) 1 (nI (smF (hf 5) 4 4 0)))))]) 0 rfl (by first | omega | (simp [up2, *]; done) | (simp [up2, *]; omega) | (simp only [up2_eq]; omega) | (split <;> omega)) (by first | omega | (simp [up2, *]; done) | (simp [up2, *]; omega) | (simp only [up2_eq]; omega) | (split <;> omega)) rfl dX4_houseNow_96 ?_
                  refine r_dup C dX4_houseNow_97 rfl ?_
                  refine r_iconst (v := (nI 2)) C dX4_houseNow_98 (by decide) ?_
                  refine r_iload_n C dX4_houseNow_99 rfl ?_
                  refine x_ast C (i := 2) (f := upd (upd (fun _ => 0) 0 (nI (smF (hf 4) 4 0 0))) 1 (nI (smF (hf 5) 4 4 0))) (E' := [(b_5, .inl (cy 1, 4, .inl (upd (upd (upd (fun _ => 0) 0 (nI (smF (hf 4) 4 0 0))) 1 (nI (smF (hf 5) 4 4 0))) 2 (nI (smF (hf 9) 3 0 0)))))]) 0 rfl (by first | omega | (simp [up2, *]; done) | (simp [up2, *]; omega) | (simp only [up2_eq]; omega) | (split <;> omega)) (by first | omega | (simp [up2, *]; done) | (simp [up2, *]; omega) | (simp only [up2_eq]; omega) | (split <;> omega)) rfl dX4_houseNow_100 ?_
                  refine r_dup C dX4_houseNow_101 rfl ?_
                  refine r_iconst (v := (nI 3)) C dX4_houseNow_102 (by decide) ?_
                  refine r_aload_n C dX4_houseNow_103 rfl ?_
                  refine m_get (v := .int kn) C 9 (by decide) qf_X4_202 rfl rfl dX4_houseNow_104 ?_
                  refine x_ast C (i := 3) (f := upd (upd (upd (fun _ => 0) 0 (nI (smF (hf 4) 4 0 0))) 1 (nI (smF (hf 5) 4 4 0))) 2 (nI (smF (hf 9) 3 0 0))) (E' := [(b_5, .inl (cy 1, 4, .inl (upd (upd (upd (upd (fun _ => 0) 0 (nI (smF (hf 4) 4 0 0))) 1 (nI (smF (hf 5) 4 4 0))) 2 (nI (smF (hf 9) 3 0 0))) 3 kn)))]) 0 rfl (by first | omega | (simp [up2, *]; done) | (simp [up2, *]; omega) | (simp only [up2_eq]; omega) | (split <;> omega)) (by first | omega | (simp [up2, *]; done) | (simp [up2, *]; omega) | (simp only [up2_eq]; omega) | (split <;> omega)) rfl dX4_houseNow_107 ?_
                  refine r_astore C dX4_houseNow_108 (by decide) rfl ?_
                  refine r_aload C dX4_houseNow_110 rfl ?_
                  refine r_iload_n C dX4_houseNow_112 rfl ?_
                  refine x_ald C (i := 3) (f := upd (upd (upd (upd (fun _ => 0) 0 (nI (smF (hf 4) 4 0 0))) 1 (nI (smF (hf 5) 4 4 0))) 2 (nI (smF (hf 9) 3 0 0))) 3 kn) 0 rfl (by first | omega | (simp [up2, *]; done) | (simp [up2, *]; omega) | (simp only [up2_eq]; omega) | (split <;> omega)) (by first | omega | (simp [up2, *]; done) | (simp [up2, *]; omega) | (simp only [up2_eq]; omega) | (split <;> omega)) dX4_houseNow_113 ?_
                  refine r_eqi (show (upd (upd (upd (upd (fun _ => 0) 0 (nI (smF (hf 4) 4 0 0))) 1 (nI (smF (hf 5) 4 4 0))) 2 (nI (smF (hf 9) 3 0 0))) 3 kn) 3 = kn from rfl) ?_
                  refine r_pre ?_
                  exact r_iret C hr dX4_houseNow_114 ⟨rfl, rfl⟩ (Nat.le_of_ble_eq_true rfl) (Nat.le_of_ble_eq_true rfl)
              · first
                | exfalso; first | omega | contradiction
                | skip
                  refine r_aload C dX4_houseNow_62 rfl ?_
                  refine r_iload C dX4_houseNow_64 rfl ?_
                  refine m_zld (i := k) (z := k) (v := hf 9 k) C 4 (by decide) (by decide) (show k < 3 from (by first | omega | (simp [up2, *]; done) | (simp [up2, *]; omega) | (simp only [up2_eq]; omega) | (split <;> omega))) (show 0 + k = k from (by omega)) rfl dX4_houseNow_66 ?_
                  refine r_istore C dX4_houseNow_67 (by decide) rfl ?_
                  refine r_iload_n C dX4_houseNow_69 rfl ?_
                  refine r_iload C dX4_houseNow_70 rfl ?_
                  refine d_S (st := [.int (nI z3)]) hX.1.stb C hE (D_one (ba := ba) (ra := ra) (hf := hf) (hq := hq) (kn := kn) (th := th) (sm := sm) (Y := Y) (b0 := (hf 9 k)) hX (h9a k (by omega))) pk_X4_one qm_X4_136 rfl rfl (Nat.le_of_ble_eq_true rfl) dX4_houseNow_72 ⟨(Nat.le_of_ble_eq_true rfl), (Nat.le_of_ble_eq_true rfl)⟩ ⟨(Nat.le_of_ble_eq_true rfl), (Nat.le_of_ble_eq_true rfl)⟩ ?_
                  refine r_w (w' := WM cy ba ra hf hq kn th sm ++ Y) rfl ?_
                  refine r_iaddN C dX4_houseNow_75 ?_
                  refine r_istore_n C dX4_houseNow_76 (by decide) rfl ?_
                  refine r_iincN C dX4_houseNow_77 rfl (by decide) rfl ?_
                  refine r_goto (tgt := 55) C dX4_houseNow_80 (by decide) ?_
                  refine r_drop 7 ?_
                  exact ih_L55 (k + 1) (z3 + (hf 9 k)) (by first | omega | (simp [up2, *]; done) | (simp [up2, *]; omega) | (simp only [up2_eq]; omega) | (split <;> omega)) (by have h8 := h9a k (by omega); omega) (by rw [← hF3]; rfl)
          exact L55 3 0 0 (by first | omega | (simp [up2, *]; done) | (simp [up2, *]; omega) | (simp only [up2_eq]; omega) | (split <;> omega)) (by omega) rfl
      · first
        | exfalso; first | omega | contradiction
        | skip
          refine r_aload_n C dX4_houseNow_21 rfl ?_
          refine r_iload C dX4_houseNow_22 rfl ?_
          refine m_rows (i := k) C (by first | omega | (simp [up2, *]; done) | (simp [up2, *]; omega) | (simp only [up2_eq]; omega) | (split <;> omega)) dX4_houseNow_24 ?_
          refine r_astore C dX4_houseNow_25 (by decide) rfl ?_
          refine r_iload_n C dX4_houseNow_27 rfl ?_
          refine r_aload C dX4_houseNow_28 rfl ?_
          refine m_rlen (i := k) (v := hf 4 k) C (by first | omega | (simp [up2, *]; done) | (simp [up2, *]; omega) | (simp only [up2_eq]; omega) | (split <;> omega)) rfl dX4_houseNow_30 ?_
          refine r_iaddN C dX4_houseNow_31 ?_
          refine r_istore_n C dX4_houseNow_32 (by decide) rfl ?_
          refine r_iincN C dX4_houseNow_33 rfl (by decide) rfl ?_
          refine r_goto (tgt := 14) C dX4_houseNow_36 (by decide) ?_
          refine r_drop 6 ?_
          exact (Nat.not_lt_zero _ (by omega)).elim
    | succ d ih_L14 =>
      intro k z hk hz hF
      refine r_iload C dX4_houseNow_14 rfl ?_
      refine r_iload C dX4_houseNow_16 rfl ?_
      refine r_icN_ge (a := k) (b := 4) (tgt := 39) C (by first | omega | (simp [up2, *]; done) | (simp [up2, *]; omega) | (simp only [up2_eq]; omega) | (split <;> omega)) (by first | omega | (simp [up2, *]; done) | (simp [up2, *]; omega) | (simp only [up2_eq]; omega) | (split <;> omega)) dX4_houseNow_18 (by decide) (fun h18_6 => ?_) (fun h18_6 => ?_)
      · first
        | exfalso; first | omega | contradiction
        | skip
          have e9 : z = smF (hf 4) 4 0 0 := hF
          subst e9
          refine r_iconst (v := (nI 0)) C dX4_houseNow_39 (by decide) ?_
          refine r_istore_n C dX4_houseNow_40 (by decide) rfl ?_
          refine r_aload_n C dX4_houseNow_41 rfl ?_
          refine m_get (v := .ref (ba 5)) C 5 (by decide) qf_X4_32 rfl rfl dX4_houseNow_42 ?_
          refine r_astore C dX4_houseNow_45 (by decide) rfl ?_
          refine r_aload C dX4_houseNow_47 rfl ?_
          refine m_alen C 4 (by decide) dX4_houseNow_49 ?_
          refine r_istore C dX4_houseNow_50 (by decide) rfl ?_
          refine r_iconst (v := (nI 0)) C dX4_houseNow_52 (by decide) ?_
          refine r_istore C dX4_houseNow_53 (by decide) rfl ?_
          have L55 : ∀ (d : Nat) (k : Nat) (z3 : Nat), (hk3 : k + d = 3) → (hz3 : z3 ≤ k) → (hF3 : smF (hf 9) d k z3 = smF (hf 9) 3 0 0) → vC p l e (rmk 3 1 4 90) s m args below meth c D A (vx_MQ below (vG (fun v1 w1 => v1 = (some (.int (hoM hf kn 3))) ∧ w1 = WM cy ba ra hf hq kn th sm ++ Y) D vwCl A) (vGX (fun _ => False) D vwCl (WM cy ba ra hf hq kn th sm ++ Y) A) args s (rmk 3 1 4 90).cells (rmk 3 1 4 90).slots A) 8 0 0 (WM cy ba ra hf hq kn th sm ++ Y) [some (.ref (ba 9)), some (.int (nI 3)), some (.int (nI (smF (hf 4) 4 0 0))), some (.int (nI z3)), some (.ref (ba 5)), some (.int (nI 3)), some (.int (nI k)), none] 55 [] := by
            intro d
            induction d with
            | zero =>
              intro k z3 hk3 hz3 hF3
              refine r_iload C dX4_houseNow_55 rfl ?_
              refine r_iload C dX4_houseNow_57 rfl ?_
              refine r_icN_ge (a := k) (b := 3) (tgt := 83) C (by first | omega | (simp [up2, *]; done) | (simp [up2, *]; omega) | (simp only [up2_eq]; omega) | (split <;> omega)) (by first | omega | (simp [up2, *]; done) | (simp [up2, *]; omega) | (simp only [up2_eq]; omega) | (split <;> omega)) dX4_houseNow_59 (by decide) (fun h59_7 => ?_) (fun h59_7 => ?_)
              · first
                | exfalso; first | omega | contradiction
                | skip
                  have e9 : z3 = smF (hf 9) 3 0 0 := hF3
                  subst e9
                  refine r_iconst (v := (nI 4)) C dX4_houseNow_83 (by decide) ?_
                  refine r_newT C .int .int 1 rfl (by simp) qa_int (n := 4) (show 4 < 1000000 from Nat.lt_of_le_of_lt (show 4 ≤ 4 from (Nat.le_refl _)) (by decide)) (1) (4) (Nat.le_of_ble_eq_true rfl) (Nat.add_le_add (Nat.le_refl _) (show 4 ≤ 4 from (Nat.le_refl _))) (Nat.le_of_ble_eq_true rfl) (Nat.le_of_ble_eq_true rfl) dX4_houseNow_84 (fun b_8 => ?_)
                  refine r_w (w' := WM cy ba ra hf hq kn th sm ++ (Y ++ [(b_8, .inl (cy 1, 4, .inl (fun _ => 0)))])) (by simp only [List.append_assoc, List.cons_append, List.nil_append]) ?_
                  refine r_dup C dX4_houseNow_86 rfl ?_
                  refine r_iconst (v := (nI 0)) C dX4_houseNow_87 (by decide) ?_
                  refine r_iload_n C dX4_houseNow_88 rfl ?_
                  refine x_ast C (i := 0) (f := fun _ => 0) (E' := [(b_8, .inl (cy 1, 4, .inl (upd (fun _ => 0) 0 (nI (smF (hf 4) 4 0 0)))))]) 0 rfl (by first | omega | (simp [up2, *]; done) | (simp [up2, *]; omega) | (simp only [up2_eq]; omega) | (split <;> omega)) (by first | omega | (simp [up2, *]; done) | (simp [up2, *]; omega) | (simp only [up2_eq]; omega) | (split <;> omega)) rfl dX4_houseNow_89 ?_
                  refine r_dup C dX4_houseNow_90 rfl ?_
                  refine r_iconst (v := (nI 1)) C dX4_houseNow_91 (by decide) ?_
                  refine r_aload_n C dX4_houseNow_92 rfl ?_
                  refine d_V (st := [.int (nI 1), .ref b_8, .ref b_8]) hX.1.stb C hE (D_windows (ba := ba) (ra := ra) (hf := hf) (hq := hq) (kn := kn) (th := th) (sm := sm)  hX (fun w a b => by have h8 := h5M w a b; omega)) pk_X4_windows qm_X4_186 0 8 rfl rfl wm_0 rfl rfl (Nat.le_of_ble_eq_true rfl) dX4_houseNow_93 ⟨(Nat.le_of_ble_eq_true rfl), (Nat.le_of_ble_eq_true rfl)⟩ ⟨(Nat.le_of_ble_eq_true rfl), (Nat.le_of_ble_eq_true rfl)⟩ ?_
                  refine r_w (w' := WM cy ba ra hf hq kn th sm ++ (Y ++ [(b_8, .inl (cy 1, 4, .inl (upd (fun _ => 0) 0 (nI (smF (hf 4) 4 0 0)))))])) rfl ?_
                  refine x_ast C (i := 1) (f := upd (fun _ => 0) 0 (nI (smF (hf 4) 4 0 0))) (E' := [(b_8, .inl (cy 1, 4, .inl (upd (upd (fun _ => 0) 0 (nI (smF (hf 4) 4 0 0))) 1 (nI (smF (hf 5) 4 4 0)))))]) 0 rfl (by first | omega | (simp [up2, *]; done) | (simp [up2, *]; omega) | (simp only [up2_eq]; omega) | (split <;> omega)) (by first | omega | (simp [up2, *]; done) | (simp [up2, *]; omega) | (simp only [up2_eq]; omega) | (split <;> omega)) rfl dX4_houseNow_96 ?_
                  refine r_dup C dX4_houseNow_97 rfl ?_
                  refine r_iconst (v := (nI 2)) C dX4_houseNow_98 (by decide) ?_
                  refine r_iload_n C dX4_houseNow_99 rfl ?_
                  refine x_ast C (i := 2) (f := upd (upd (fun _ => 0) 0 (nI (smF (hf 4) 4 0 0))) 1 (nI (smF (hf 5) 4 4 0))) (E' := [(b_8, .inl (cy 1, 4, .inl (upd (upd (upd (fun _ => 0) 0 (nI (smF (hf 4) 4 0 0))) 1 (nI (smF (hf 5) 4 4 0))) 2 (nI (smF (hf 9) 3 0 0)))))]) 0 rfl (by first | omega | (simp [up2, *]; done) | (simp [up2, *]; omega) | (simp only [up2_eq]; omega) | (split <;> omega)) (by first | omega | (simp [up2, *]; done) | (simp [up2, *]; omega) | (simp only [up2_eq]; omega) | (split <;> omega)) rfl dX4_houseNow_100 ?_
                  refine r_dup C dX4_houseNow_101 rfl ?_
                  refine r_iconst (v := (nI 3)) C dX4_houseNow_102 (by decide) ?_
                  refine r_aload_n C dX4_houseNow_103 rfl ?_
                  refine m_get (v := .int kn) C 9 (by decide) qf_X4_202 rfl rfl dX4_houseNow_104 ?_
                  refine x_ast C (i := 3) (f := upd (upd (upd (fun _ => 0) 0 (nI (smF (hf 4) 4 0 0))) 1 (nI (smF (hf 5) 4 4 0))) 2 (nI (smF (hf 9) 3 0 0))) (E' := [(b_8, .inl (cy 1, 4, .inl (upd (upd (upd (upd (fun _ => 0) 0 (nI (smF (hf 4) 4 0 0))) 1 (nI (smF (hf 5) 4 4 0))) 2 (nI (smF (hf 9) 3 0 0))) 3 kn)))]) 0 rfl (by first | omega | (simp [up2, *]; done) | (simp [up2, *]; omega) | (simp only [up2_eq]; omega) | (split <;> omega)) (by first | omega | (simp [up2, *]; done) | (simp [up2, *]; omega) | (simp only [up2_eq]; omega) | (split <;> omega)) rfl dX4_houseNow_107 ?_
                  refine r_astore C dX4_houseNow_108 (by decide) rfl ?_
                  refine r_aload C dX4_houseNow_110 rfl ?_
                  refine r_iload_n C dX4_houseNow_112 rfl ?_
                  refine x_ald C (i := 3) (f := upd (upd (upd (upd (fun _ => 0) 0 (nI (smF (hf 4) 4 0 0))) 1 (nI (smF (hf 5) 4 4 0))) 2 (nI (smF (hf 9) 3 0 0))) 3 kn) 0 rfl (by first | omega | (simp [up2, *]; done) | (simp [up2, *]; omega) | (simp only [up2_eq]; omega) | (split <;> omega)) (by first | omega | (simp [up2, *]; done) | (simp [up2, *]; omega) | (simp only [up2_eq]; omega) | (split <;> omega)) dX4_houseNow_113 ?_
                  refine r_eqi (show (upd (upd (upd (upd (fun _ => 0) 0 (nI (smF (hf 4) 4 0 0))) 1 (nI (smF (hf 5) 4 4 0))) 2 (nI (smF (hf 9) 3 0 0))) 3 kn) 3 = kn from rfl) ?_
                  refine r_pre ?_
                  exact r_iret C hr dX4_houseNow_114 ⟨rfl, rfl⟩ (Nat.le_of_ble_eq_true rfl) (Nat.le_of_ble_eq_true rfl)
              · first
                | exfalso; first | omega | contradiction
                | skip
                  refine r_aload C dX4_houseNow_62 rfl ?_
                  refine r_iload C dX4_houseNow_64 rfl ?_
                  refine m_zld (i := k) (z := k) (v := hf 9 k) C 4 (by decide) (by decide) (show k < 3 from (by first | omega | (simp [up2, *]; done) | (simp [up2, *]; omega) | (simp only [up2_eq]; omega) | (split <;> omega))) (show 0 + k = k from (by omega)) rfl dX4_houseNow_66 ?_
                  refine r_istore C dX4_houseNow_67 (by decide) rfl ?_
                  refine r_iload_n C dX4_houseNow_69 rfl ?_
                  refine r_iload C dX4_houseNow_70 rfl ?_
                  refine d_S (st := [.int (nI z3)]) hX.1.stb C hE (D_one (ba := ba) (ra := ra) (hf := hf) (hq := hq) (kn := kn) (th := th) (sm := sm) (Y := Y) (b0 := (hf 9 k)) hX (h9a k (by omega))) pk_X4_one qm_X4_136 rfl rfl (Nat.le_of_ble_eq_true rfl) dX4_houseNow_72 ⟨(Nat.le_of_ble_eq_true rfl), (Nat.le_of_ble_eq_true rfl)⟩ ⟨(Nat.le_of_ble_eq_true rfl), (Nat.le_of_ble_eq_true rfl)⟩ ?_
                  refine r_w (w' := WM cy ba ra hf hq kn th sm ++ Y) rfl ?_
                  refine r_iaddN C dX4_houseNow_75 ?_
                  refine r_istore_n C dX4_houseNow_76 (by decide) rfl ?_
                  refine r_iincN C dX4_houseNow_77 rfl (by decide) rfl ?_
                  refine r_goto (tgt := 55) C dX4_houseNow_80 (by decide) ?_
                  refine r_drop 7 ?_
                  exact (Nat.not_lt_zero _ (by omega)).elim
            | succ d ih_L55 =>
              intro k z3 hk3 hz3 hF3
              refine r_iload C dX4_houseNow_55 rfl ?_
              refine r_iload C dX4_houseNow_57 rfl ?_
              refine r_icN_ge (a := k) (b := 3) (tgt := 83) C (by first | omega | (simp [up2, *]; done) | (simp [up2, *]; omega) | (simp only [up2_eq]; omega) | (split <;> omega)) (by first | omega | (simp [up2, *]; done) | (simp [up2, *]; omega) | (simp only [up2_eq]; omega) | (split <;> omega)) dX4_houseNow_59 (by decide) (fun h59_9 => ?_) (fun h59_9 => ?_)
              · first
                | exfalso; first | omega | contradiction
                | skip
                  have e9 : z3 = smF (hf 9) 3 0 0 := hF3
                  subst e9
                  refine r_iconst (v := (nI 4)) C dX4_houseNow_83 (by decide) ?_
                  refine r_newT C .int .int 1 rfl (by simp) qa_int (n := 4) (show 4 < 1000000 from Nat.lt_of_le_of_lt (show 4 ≤ 4 from (Nat.le_refl _)) (by decide)) (1) (4) (Nat.le_of_ble_eq_true rfl) (Nat.add_le_add (Nat.le_refl _) (show 4 ≤ 4 from (Nat.le_refl _))) (Nat.le_of_ble_eq_true rfl) (Nat.le_of_ble_eq_true rfl) dX4_houseNow_84 (fun b_10 => ?_)
                  refine r_w (w' := WM cy ba ra hf hq kn th sm ++ (Y ++ [(b_10, .inl (cy 1, 4, .inl (fun _ => 0)))])) (by simp only [List.append_assoc, List.cons_append, List.nil_append]) ?_
                  refine r_dup C dX4_houseNow_86 rfl ?_
                  refine r_iconst (v := (nI 0)) C dX4_houseNow_87 (by decide) ?_
                  refine r_iload_n C dX4_houseNow_88 rfl ?_
                  refine x_ast C (i := 0) (f := fun _ => 0) (E' := [(b_10, .inl (cy 1, 4, .inl (upd (fun _ => 0) 0 (nI (smF (hf 4) 4 0 0)))))]) 0 rfl (by first | omega | (simp [up2, *]; done) | (simp [up2, *]; omega) | (simp only [up2_eq]; omega) | (split <;> omega)) (by first | omega | (simp [up2, *]; done) | (simp [up2, *]; omega) | (simp only [up2_eq]; omega) | (split <;> omega)) rfl dX4_houseNow_89 ?_
                  refine r_dup C dX4_houseNow_90 rfl ?_
                  refine r_iconst (v := (nI 1)) C dX4_houseNow_91 (by decide) ?_
                  refine r_aload_n C dX4_houseNow_92 rfl ?_
                  refine d_V (st := [.int (nI 1), .ref b_10, .ref b_10]) hX.1.stb C hE (D_windows (ba := ba) (ra := ra) (hf := hf) (hq := hq) (kn := kn) (th := th) (sm := sm)  hX (fun w a b => by have h8 := h5M w a b; omega)) pk_X4_windows qm_X4_186 0 8 rfl rfl wm_0 rfl rfl (Nat.le_of_ble_eq_true rfl) dX4_houseNow_93 ⟨(Nat.le_of_ble_eq_true rfl), (Nat.le_of_ble_eq_true rfl)⟩ ⟨(Nat.le_of_ble_eq_true rfl), (Nat.le_of_ble_eq_true rfl)⟩ ?_
                  refine r_w (w' := WM cy ba ra hf hq kn th sm ++ (Y ++ [(b_10, .inl (cy 1, 4, .inl (upd (fun _ => 0) 0 (nI (smF (hf 4) 4 0 0)))))])) rfl ?_
                  refine x_ast C (i := 1) (f := upd (fun _ => 0) 0 (nI (smF (hf 4) 4 0 0))) (E' := [(b_10, .inl (cy 1, 4, .inl (upd (upd (fun _ => 0) 0 (nI (smF (hf 4) 4 0 0))) 1 (nI (smF (hf 5) 4 4 0)))))]) 0 rfl (by first | omega | (simp [up2, *]; done) | (simp [up2, *]; omega) | (simp only [up2_eq]; omega) | (split <;> omega)) (by first | omega | (simp [up2, *]; done) | (simp [up2, *]; omega) | (simp only [up2_eq]; omega) | (split <;> omega)) rfl dX4_houseNow_96 ?_
                  refine r_dup C dX4_houseNow_97 rfl ?_
                  refine r_iconst (v := (nI 2)) C dX4_houseNow_98 (by decide) ?_
                  refine r_iload_n C dX4_houseNow_99 rfl ?_
                  refine x_ast C (i := 2) (f := upd (upd (fun _ => 0) 0 (nI (smF (hf 4) 4 0 0))) 1 (nI (smF (hf 5) 4 4 0))) (E' := [(b_10, .inl (cy 1, 4, .inl (upd (upd (upd (fun _ => 0) 0 (nI (smF (hf 4) 4 0 0))) 1 (nI (smF (hf 5) 4 4 0))) 2 (nI (smF (hf 9) 3 0 0)))))]) 0 rfl (by first | omega | (simp [up2, *]; done) | (simp [up2, *]; omega) | (simp only [up2_eq]; omega) | (split <;> omega)) (by first | omega | (simp [up2, *]; done) | (simp [up2, *]; omega) | (simp only [up2_eq]; omega) | (split <;> omega)) rfl dX4_houseNow_100 ?_
                  refine r_dup C dX4_houseNow_101 rfl ?_
                  refine r_iconst (v := (nI 3)) C dX4_houseNow_102 (by decide) ?_
                  refine r_aload_n C dX4_houseNow_103 rfl ?_
                  refine m_get (v := .int kn) C 9 (by decide) qf_X4_202 rfl rfl dX4_houseNow_104 ?_
                  refine x_ast C (i := 3) (f := upd (upd (upd (fun _ => 0) 0 (nI (smF (hf 4) 4 0 0))) 1 (nI (smF (hf 5) 4 4 0))) 2 (nI (smF (hf 9) 3 0 0))) (E' := [(b_10, .inl (cy 1, 4, .inl (upd (upd (upd (upd (fun _ => 0) 0 (nI (smF (hf 4) 4 0 0))) 1 (nI (smF (hf 5) 4 4 0))) 2 (nI (smF (hf 9) 3 0 0))) 3 kn)))]) 0 rfl (by first | omega | (simp [up2, *]; done) | (simp [up2, *]; omega) | (simp only [up2_eq]; omega) | (split <;> omega)) (by first | omega | (simp [up2, *]; done) | (simp [up2, *]; omega) | (simp only [up2_eq]; omega) | (split <;> omega)) rfl dX4_houseNow_107 ?_
                  refine r_astore C dX4_houseNow_108 (by decide) rfl ?_
                  refine r_aload C dX4_houseNow_110 rfl ?_
                  refine r_iload_n C dX4_houseNow_112 rfl ?_
                  refine x_ald C (i := 3) (f := upd (upd (upd (upd (fun _ => 0) 0 (nI (smF (hf 4) 4 0 0))) 1 (nI (smF (hf 5) 4 4 0))) 2 (nI (smF (hf 9) 3 0 0))) 3 kn) 0 rfl (by first | omega | (simp [up2, *]; done) | (simp [up2, *]; omega) | (simp only [up2_eq]; omega) | (split <;> omega)) (by first | omega | (simp [up2, *]; done) | (simp [up2, *]; omega) | (simp only [up2_eq]; omega) | (split <;> omega)) dX4_houseNow_113 ?_
                  refine r_eqi (show (upd (upd (upd (upd (fun _ => 0) 0 (nI (smF (hf 4) 4 0 0))) 1 (nI (smF (hf 5) 4 4 0))) 2 (nI (smF (hf 9) 3 0 0))) 3 kn) 3 = kn from rfl) ?_
                  refine r_pre ?_
                  exact r_iret C hr dX4_houseNow_114 ⟨rfl, rfl⟩ (Nat.le_of_ble_eq_true rfl) (Nat.le_of_ble_eq_true rfl)
              · first
                | exfalso; first | omega | contradiction
                | skip
                  refine r_aload C dX4_houseNow_62 rfl ?_
                  refine r_iload C dX4_houseNow_64 rfl ?_
                  refine m_zld (i := k) (z := k) (v := hf 9 k) C 4 (by decide) (by decide) (show k < 3 from (by first | omega | (simp [up2, *]; done) | (simp [up2, *]; omega) | (simp only [up2_eq]; omega) | (split <;> omega))) (show 0 + k = k from (by omega)) rfl dX4_houseNow_66 ?_
                  refine r_istore C dX4_houseNow_67 (by decide) rfl ?_
                  refine r_iload_n C dX4_houseNow_69 rfl ?_
                  refine r_iload C dX4_houseNow_70 rfl ?_
                  refine d_S (st := [.int (nI z3)]) hX.1.stb C hE (D_one (ba := ba) (ra := ra) (hf := hf) (hq := hq) (kn := kn) (th := th) (sm := sm) (Y := Y) (b0 := (hf 9 k)) hX (h9a k (by omega))) pk_X4_one qm_X4_136 rfl rfl (Nat.le_of_ble_eq_true rfl) dX4_houseNow_72 ⟨(Nat.le_of_ble_eq_true rfl), (Nat.le_of_ble_eq_true rfl)⟩ ⟨(Nat.le_of_ble_eq_true rfl), (Nat.le_of_ble_eq_true rfl)⟩ ?_
                  refine r_w (w' := WM cy ba ra hf hq kn th sm ++ Y) rfl ?_
                  refine r_iaddN C dX4_houseNow_75 ?_
                  refine r_istore_n C dX4_houseNow_76 (by decide) rfl ?_
                  refine r_iincN C dX4_houseNow_77 rfl (by decide) rfl ?_
                  refine r_goto (tgt := 55) C dX4_houseNow_80 (by decide) ?_
                  refine r_drop 7 ?_
                  exact ih_L55 (k + 1) (z3 + (hf 9 k)) (by first | omega | (simp [up2, *]; done) | (simp [up2, *]; omega) | (simp only [up2_eq]; omega) | (split <;> omega)) (by have h8 := h9a k (by omega); omega) (by rw [← hF3]; rfl)
          exact L55 3 0 0 (by first | omega | (simp [up2, *]; done) | (simp [up2, *]; omega) | (simp only [up2_eq]; omega) | (split <;> omega)) (by omega) rfl
      · first
        | exfalso; first | omega | contradiction
        | skip
          refine r_aload_n C dX4_houseNow_21 rfl ?_
          refine r_iload C dX4_houseNow_22 rfl ?_
          refine m_rows (i := k) C (by first | omega | (simp [up2, *]; done) | (simp [up2, *]; omega) | (simp only [up2_eq]; omega) | (split <;> omega)) dX4_houseNow_24 ?_
          refine r_astore C dX4_houseNow_25 (by decide) rfl ?_
          refine r_iload_n C dX4_houseNow_27 rfl ?_
          refine r_aload C dX4_houseNow_28 rfl ?_
          refine m_rlen (i := k) (v := hf 4 k) C (by first | omega | (simp [up2, *]; done) | (simp [up2, *]; omega) | (simp only [up2_eq]; omega) | (split <;> omega)) rfl dX4_houseNow_30 ?_
          refine r_iaddN C dX4_houseNow_31 ?_
          refine r_istore_n C dX4_houseNow_32 (by decide) rfl ?_
          refine r_iincN C dX4_houseNow_33 rfl (by decide) rfl ?_
          refine r_goto (tgt := 14) C dX4_houseNow_36 (by decide) ?_
          refine r_drop 6 ?_
          exact ih_L14 (k + 1) (z + (hf 4 k)) (by first | omega | (simp [up2, *]; done) | (simp [up2, *]; omega) | (simp only [up2_eq]; omega) | (split <;> omega)) (by have h8 := (hM.2.1 k (by omega)).1; have h7 := hC.rw (i := k) (by omega); omega) (by rw [← hF]; rfl)
  exact L14 4 0 0 (by first | omega | (simp [up2, *]; done) | (simp [up2, *]; omega) | (simp only [up2_eq]; omega) | (split <;> omega)) (by omega) rfl
theorem D_houseNow {l : Launch} {D : va_G} {cy : Nat → ClassId} {X : (Nat → Prop) → State → Heap → Prop} {ba ra : Nat → Nat} {hf : Nat → Nat → Nat} {hq : Nat → Nat → Int32} {kn th : Int32} {sm : Int64} {Y : va_W} {f : Nat → Nat → Nat} {r : Nat → Nat → Int32} {q0 : Nat} (hX : EnvM X cy) (hC : CInv f) (hM : MR f r hf hq) (hq4 : q0 < 4) : Cd l D cy X yX4_houseNow cX4_houseNow 8 (some .int) (rmk 3 1 4 90) [.ref (ba 9), .int (nI q0)] (WM cy ba ra hf hq kn th sm ++ Y) (some (.int (hoM hf kn q0))) (WM cy ba ra hf hq kn th sm ++ Y) := by
  obtain rfl | rfl | rfl | rfl : q0 = 0 ∨ q0 = 1 ∨ q0 = 2 ∨ q0 = 3 := by omega
  · exact D_houseNow_0 hX hC hM
  · exact D_houseNow_1 hX hC hM
  · exact D_houseNow_2 hX hC hM
  · exact D_houseNow_3 hX hC hM
theorem dX4_house_0 : decode cX4_house 0 = .ok (.aload_n 0, 1) := dqo_42 (kb_of ke_X4_house 0 rfl)
theorem dX4_house_1 : decode cX4_house 1 = .ok (.iload_n 1, 1) := dqo_27 (kb_of ke_X4_house 1 rfl)
theorem dX4_house_2 : decode cX4_house 2 = .ok (.iconst 0, 1) := dqo_3 (kb_of ke_X4_house 2 rfl)
theorem dX4_house_3 : decode cX4_house 3 = .ok (.iconst 3, 1) := dqo_6 (kb_of ke_X4_house 3 rfl)
theorem dX4_house_4 : decode cX4_house 4 = .ok (.invokestatic 1, 3) := dqo_184 0 1 (kb_of ke_X4_house 4 rfl) (kb_of ke_X4_house 5 rfl) (kb_of ke_X4_house 6 rfl)
theorem dX4_house_7 : decode cX4_house 7 = .ok (.ifCond .ne 7, 3) := dqo_154 0 7 (by decide) (kb_of ke_X4_house 7 rfl) (kb_of ke_X4_house 8 rfl) (kb_of ke_X4_house 9 rfl)
theorem dX4_house_10 : decode cX4_house 10 = .ok (.iconst 1, 1) := dqo_4 (kb_of ke_X4_house 10 rfl)
theorem dX4_house_11 : decode cX4_house 11 = .ok (.goto 4, 3) := dqo_167 0 4 (by decide) (kb_of ke_X4_house 11 rfl) (kb_of ke_X4_house 12 rfl) (kb_of ke_X4_house 13 rfl)
theorem dX4_house_15 : decode cX4_house 15 = .ok (.iconst 0, 1) := dqo_3 (kb_of ke_X4_house 15 rfl)
theorem dX4_house_16 : decode cX4_house 16 = .ok (.iconst 0, 1) := dqo_3 (kb_of ke_X4_house 16 rfl)
theorem dX4_house_17 : decode cX4_house 17 = .ok (.invokevirtual 84, 3) := dqo_182 0 84 (kb_of ke_X4_house 17 rfl) (kb_of ke_X4_house 18 rfl) (kb_of ke_X4_house 19 rfl)
theorem dX4_house_20 : decode cX4_house 20 = .ok (.ifCond .eq 7, 3) := dqo_153 0 7 (by decide) (kb_of ke_X4_house 20 rfl) (kb_of ke_X4_house 21 rfl) (kb_of ke_X4_house 22 rfl)
theorem dX4_house_23 : decode cX4_house 23 = .ok (.iconst 0, 1) := dqo_3 (kb_of ke_X4_house 23 rfl)
theorem dX4_house_24 : decode cX4_house 24 = .ok (.goto 8, 3) := dqo_167 0 8 (by decide) (kb_of ke_X4_house 24 rfl) (kb_of ke_X4_house 25 rfl) (kb_of ke_X4_house 26 rfl)
theorem dX4_house_32 : decode cX4_house 32 = .ok (.ireturn, 1) := dqo_172 (kb_of ke_X4_house 32 rfl)
set_option maxRecDepth 100000 in
set_option maxHeartbeats 4000000 in
theorem D_house_noQ {l : Launch} {D : va_G} {cy : Nat → ClassId} {X : (Nat → Prop) → State → Heap → Prop} {ba ra : Nat → Nat} {hf : Nat → Nat → Nat} {hq : Nat → Nat → Int32} {kn th : Int32} {sm : Int64} {Y : va_W} {f : Nat → Nat → Nat} {r : Nat → Nat → Int32} {x : Int32} (hX : EnvM X cy) (hC : CInv f) (hM : MR f r hf hq) (hno : ¬ (0 ≤ x ∧ x < nI 4)) : Cd l D cy X yX4_house cX4_house 2 (some .int) (rmk 9 4 48 420) [.ref (ba 9), .int x] (WM cy ba ra hf hq kn th sm ++ Y) (some (.int (nI 0))) (WM cy ba ra hf hq kn (nI 1) sm ++ Y) := by
  have hG := hM.1
  have h5M := hM.h5M hC
  have h4M := hC.h4M
  have h9a := hM.h9a hC
  have h6a := hM.h6a
  have hU := hM.hU hC
  refine Cm.of [some (.ref (ba 9)), some (.int x)] pn_X4 rfl (Nat.le_of_ble_eq_true rfl) ?_
  intro p e s m args below meth c A C hE hr hnt hn
  refine r_aload_n C dX4_house_0 rfl ?_
  refine r_iload_n C dX4_house_1 rfl ?_
  refine r_iconst (v := (nI 0)) C dX4_house_2 (by decide) ?_
  refine r_iconst (v := (nI 3)) C dX4_house_3 (by decide) ?_
  refine d_S (st := [.ref (ba 9)]) hX.1.stb C hE (D_isIn0 (ba := ba) (ra := ra) (hf := hf) (hq := hq) (kn := kn) (th := th) (sm := sm) (Y := Y) (x := (x)) (y := ((nI 0))) (z := ((nI 3))) hX (fun z => hno ⟨z.1, Int32.lt_of_le_of_lt z.2 (by decide)⟩)) pk_X4_isIn qm_X4_1 rfl rfl (Nat.le_of_ble_eq_true rfl) dX4_house_4 ⟨(Nat.le_of_ble_eq_true rfl), (Nat.le_of_ble_eq_true rfl)⟩ ⟨(Nat.le_of_ble_eq_true rfl), (Nat.le_of_ble_eq_true rfl)⟩ ?_
  refine r_w (w' := WM cy ba ra hf hq kn th sm ++ Y) rfl ?_
  refine r_ifN_ne (a := 0) (tgt := 14) C (by first | omega | (simp [up2, *]; done) | (simp [up2, *]; omega) | (simp only [up2_eq]; omega) | (split <;> omega)) dX4_house_7 (by decide) (fun h7_1 => ?_) (fun h7_1 => ?_)
  · exact absurd h7_1 (by first | omega | (simp [up2, *]; done) | (simp [up2, *]; omega) | (simp only [up2_eq]; omega) | (split <;> omega))
  · skip
    refine r_iconst (v := (nI 1)) C dX4_house_10 (by decide) ?_
    refine r_goto (tgt := 15) C dX4_house_11 (by decide) ?_
    refine r_iconst (v := (nI 0)) C dX4_house_15 (by decide) ?_
    refine r_iconst (v := (nI 0)) C dX4_house_16 (by decide) ?_
    refine d_V (st := []) hX.1.stb C hE (D_fails1 (ba := ba) (ra := ra) (hf := hf) (hq := hq) (kn := kn) (th := th) (sm := sm) (Y := Y) (b0 := 0) (d0 := 0) hX ) pk_X4_fails qm_X4_84 0 8 rfl rfl wm_0 rfl rfl (Nat.le_of_ble_eq_true rfl) dX4_house_17 ⟨(Nat.le_of_ble_eq_true rfl), (Nat.le_of_ble_eq_true rfl)⟩ ⟨(Nat.le_of_ble_eq_true rfl), (Nat.le_of_ble_eq_true rfl)⟩ ?_
    refine r_w (w' := WM cy ba ra hf hq kn (nI 1) sm ++ Y) rfl ?_
    refine r_ifN_eq (a := 1) (tgt := 27) C (by first | omega | (simp [up2, *]; done) | (simp [up2, *]; omega) | (simp only [up2_eq]; omega) | (split <;> omega)) dX4_house_20 (by decide) (fun h20_2 => ?_) (fun h20_2 => ?_)
    · exact absurd h20_2 (by first | omega | (simp [up2, *]; done) | (simp [up2, *]; omega) | (simp only [up2_eq]; omega) | (split <;> omega))
    · skip
      refine r_iconst (v := (nI 0)) C dX4_house_23 (by decide) ?_
      refine r_goto (tgt := 32) C dX4_house_24 (by decide) ?_
      exact r_iret C hr dX4_house_32 ⟨rfl, rfl⟩ (Nat.le_of_ble_eq_true rfl) (Nat.le_of_ble_eq_true rfl)
theorem pk_X4_houseNow : PkV RX4 yX4_houseNow cX4_houseNow 8 (some .int) 1 := ⟨⟨qi_X4_houseNow, qs_X4_houseNow, qz_X4, qc_X4_houseNow⟩, rfl, mh_X4.1, mh_X4.2, pd_1⟩
theorem dX4_house_14 : decode cX4_house 14 = .ok (.iconst 0, 1) := dqo_3 (kb_of ke_X4_house 14 rfl)
theorem dX4_house_27 : decode cX4_house 27 = .ok (.aload_n 0, 1) := dqo_42 (kb_of ke_X4_house 27 rfl)
theorem dX4_house_28 : decode cX4_house 28 = .ok (.iload_n 1, 1) := dqo_27 (kb_of ke_X4_house 28 rfl)
theorem dX4_house_29 : decode cX4_house 29 = .ok (.invokevirtual 205, 3) := dqo_182 0 205 (kb_of ke_X4_house 29 rfl) (kb_of ke_X4_house 30 rfl) (kb_of ke_X4_house 31 rfl)
set_option maxRecDepth 100000 in
set_option maxHeartbeats 4000000 in
theorem D_house_ok {l : Launch} {D : va_G} {cy : Nat → ClassId} {X : (Nat → Prop) → State → Heap → Prop} {ba ra : Nat → Nat} {hf : Nat → Nat → Nat} {hq : Nat → Nat → Int32} {kn th : Int32} {sm : Int64} {Y : va_W} {f : Nat → Nat → Nat} {r : Nat → Nat → Int32} {q0 : Nat} (hX : EnvM X cy) (hC : CInv f) (hM : MR f r hf hq) (hq4 : q0 < 4) : Cd l D cy X yX4_house cX4_house 2 (some .int) (rmk 9 4 48 420) [.ref (ba 9), .int (nI q0)] (WM cy ba ra hf hq kn th sm ++ Y) (some (.int (hoM hf kn q0))) (WM cy ba ra hf hq kn (nI 0) sm ++ Y) := by
  have hG := hM.1
  have h5M := hM.h5M hC
  have h4M := hC.h4M
  have h9a := hM.h9a hC
  have h6a := hM.h6a
  have hU := hM.hU hC
  refine Cm.of [some (.ref (ba 9)), some (.int (nI q0))] pn_X4 rfl (Nat.le_of_ble_eq_true rfl) ?_
  intro p e s m args below meth c A C hE hr hnt hn
  refine r_aload_n C dX4_house_0 rfl ?_
  refine r_iload_n C dX4_house_1 rfl ?_
  refine r_iconst (v := (nI 0)) C dX4_house_2 (by decide) ?_
  refine r_iconst (v := (nI 3)) C dX4_house_3 (by decide) ?_
  refine d_S (st := [.ref (ba 9)]) hX.1.stb C hE (D_isInN (ba := ba) (ra := ra) (hf := hf) (hq := hq) (kn := kn) (th := th) (sm := sm) (Y := Y) (a0 := q0) (b0 := 0) (d0 := 3) hX (by first | omega | (simp [up2, *]; done) | (simp [up2, *]; omega) | (simp only [up2_eq]; omega) | (split <;> omega)) (by first | omega | (simp [up2, *]; done) | (simp [up2, *]; omega) | (simp only [up2_eq]; omega) | (split <;> omega)) (by first | omega | (simp [up2, *]; done) | (simp [up2, *]; omega) | (simp only [up2_eq]; omega) | (split <;> omega))) pk_X4_isIn qm_X4_1 rfl rfl (Nat.le_of_ble_eq_true rfl) dX4_house_4 ⟨(Nat.le_of_ble_eq_true rfl), (Nat.le_of_ble_eq_true rfl)⟩ ⟨(Nat.le_of_ble_eq_true rfl), (Nat.le_of_ble_eq_true rfl)⟩ ?_
  refine r_w (w' := WM cy ba ra hf hq kn th sm ++ Y) rfl ?_
  refine r_ifN_ne (a := 1) (tgt := 14) C (by first | omega | (simp [up2, *]; done) | (simp [up2, *]; omega) | (simp only [up2_eq]; omega) | (split <;> omega)) dX4_house_7 (by decide) (fun h7_1 => ?_) (fun h7_1 => ?_)
  · skip
    refine r_iconst (v := (nI 0)) C dX4_house_14 (by decide) ?_
    refine r_iconst (v := (nI 0)) C dX4_house_15 (by decide) ?_
    refine r_iconst (v := (nI 0)) C dX4_house_16 (by decide) ?_
    refine d_V (st := []) hX.1.stb C hE (D_fails0 (ba := ba) (ra := ra) (hf := hf) (hq := hq) (kn := kn) (th := th) (sm := sm) (Y := Y)  hX ) pk_X4_fails qm_X4_84 0 8 rfl rfl wm_0 rfl rfl (Nat.le_of_ble_eq_true rfl) dX4_house_17 ⟨(Nat.le_of_ble_eq_true rfl), (Nat.le_of_ble_eq_true rfl)⟩ ⟨(Nat.le_of_ble_eq_true rfl), (Nat.le_of_ble_eq_true rfl)⟩ ?_
    refine r_w (w' := WM cy ba ra hf hq kn (nI 0) sm ++ Y) rfl ?_
    refine r_ifN_eq (a := 0) (tgt := 27) C (by first | omega | (simp [up2, *]; done) | (simp [up2, *]; omega) | (simp only [up2_eq]; omega) | (split <;> omega)) dX4_house_20 (by decide) (fun h20_2 => ?_) (fun h20_2 => ?_)
    · skip
      refine r_aload_n C dX4_house_27 rfl ?_
      refine r_iload_n C dX4_house_28 rfl ?_
      refine d_V (st := []) hX.1.stb C hE (D_houseNow (ba := ba) (ra := ra) (hf := hf) (hq := hq) (kn := kn) (th := (nI 0)) (sm := sm) (Y := Y) (f := f) (q0 := q0) hX hC hM (by first | omega | (simp [up2, *]; done) | (simp [up2, *]; omega) | (simp only [up2_eq]; omega) | (split <;> omega))) pk_X4_houseNow qm_X4_205 0 8 rfl rfl wm_0 rfl rfl (Nat.le_of_ble_eq_true rfl) dX4_house_29 ⟨(Nat.le_of_ble_eq_true rfl), (Nat.le_of_ble_eq_true rfl)⟩ ⟨(Nat.le_of_ble_eq_true rfl), (Nat.le_of_ble_eq_true rfl)⟩ ?_
      refine r_w (w' := WM cy ba ra hf hq kn (nI 0) sm ++ Y) rfl ?_
      exact r_iret C hr dX4_house_32 ⟨rfl, rfl⟩ (Nat.le_of_ble_eq_true rfl) (Nat.le_of_ble_eq_true rfl)
    · exact absurd h20_2 (by first | omega | (simp [up2, *]; done) | (simp [up2, *]; omega) | (simp only [up2_eq]; omega) | (split <;> omega))
  · exact absurd h7_1 (by first | omega | (simp [up2, *]; done) | (simp [up2, *]; omega) | (simp only [up2_eq]; omega) | (split <;> omega))
theorem dX4_knock_0 : decode cX4_knock 0 = .ok (.aload_n 0, 1) := dqo_42 (kb_of ke_X4_knock 0 rfl)
theorem dX4_knock_1 : decode cX4_knock 1 = .ok (.iconst 0, 1) := dqo_3 (kb_of ke_X4_knock 1 rfl)
theorem dX4_knock_2 : decode cX4_knock 2 = .ok (.putfield 44, 3) := dqo_181 0 44 (kb_of ke_X4_knock 2 rfl) (kb_of ke_X4_knock 3 rfl) (kb_of ke_X4_knock 4 rfl)
theorem dX4_knock_5 : decode cX4_knock 5 = .ok (.aload_n 0, 1) := dqo_42 (kb_of ke_X4_knock 5 rfl)
theorem dX4_knock_6 : decode cX4_knock 6 = .ok (.dup, 1) := dqo_89 (kb_of ke_X4_knock 6 rfl)
theorem dX4_knock_7 : decode cX4_knock 7 = .ok (.getfield 202, 3) := dqo_180 0 202 (kb_of ke_X4_knock 7 rfl) (kb_of ke_X4_knock 8 rfl) (kb_of ke_X4_knock 9 rfl)
theorem dX4_knock_10 : decode cX4_knock 10 = .ok (.iconst 1, 1) := dqo_4 (kb_of ke_X4_knock 10 rfl)
theorem dX4_knock_11 : decode cX4_knock 11 = .ok (.iadd, 1) := dqo_96 (kb_of ke_X4_knock 11 rfl)
theorem dX4_knock_12 : decode cX4_knock 12 = .ok (.putfield 202, 3) := dqo_181 0 202 (kb_of ke_X4_knock 12 rfl) (kb_of ke_X4_knock 13 rfl) (kb_of ke_X4_knock 14 rfl)
theorem dX4_knock_15 : decode cX4_knock 15 = .ok (.aload_n 0, 1) := dqo_42 (kb_of ke_X4_knock 15 rfl)
theorem dX4_knock_16 : decode cX4_knock 16 = .ok (.getfield 202, 3) := dqo_180 0 202 (kb_of ke_X4_knock 16 rfl) (kb_of ke_X4_knock 17 rfl) (kb_of ke_X4_knock 18 rfl)
theorem dX4_knock_19 : decode cX4_knock 19 = .ok (.ireturn, 1) := dqo_172 (kb_of ke_X4_knock 19 rfl)
set_option maxRecDepth 100000 in
set_option maxHeartbeats 4000000 in
theorem D_knock {l : Launch} {D : va_G} {cy : Nat → ClassId} {X : (Nat → Prop) → State → Heap → Prop} {ba ra : Nat → Nat} {hf : Nat → Nat → Nat} {hq : Nat → Nat → Int32} {kn th : Int32} {sm : Int64} {Y : va_W}  (hX : EnvM X cy)  : Cd l D cy X yX4_knock cX4_knock 1 (some .int) (rmz 0 0) [.ref (ba 9)] (WM cy ba ra hf hq kn th sm ++ Y) (some (.int (kn + (nI 1)))) (WM cy ba ra hf hq (kn + (nI 1)) (nI 0) sm ++ Y) := by
  refine Cm.of [some (.ref (ba 9))] pn_X4 rfl (Nat.le_of_ble_eq_true rfl) ?_
  intro p e s m args below meth c A C hE hr hnt hn
  refine r_aload_n C dX4_knock_0 rfl ?_
  refine r_iconst (v := (nI 0)) C dX4_knock_1 (by decide) ?_
  refine m_putT C qf_X4_44 dX4_knock_2 ?_
  refine r_aload_n C dX4_knock_5 rfl ?_
  refine r_dup C dX4_knock_6 rfl ?_
  refine m_get (v := .int kn) C 9 (by decide) qf_X4_202 rfl rfl dX4_knock_7 ?_
  refine r_iconst (v := (nI 1)) C dX4_knock_10 (by decide) ?_
  refine r_iadd C dX4_knock_11 ?_
  refine m_putK C qf_X4_202 dX4_knock_12 ?_
  refine r_aload_n C dX4_knock_15 rfl ?_
  refine m_get (v := .int (kn + (nI 1))) C 9 (by decide) qf_X4_202 rfl rfl dX4_knock_16 ?_
  exact r_iret C hr dX4_knock_19 ⟨rfl, rfl⟩ (Nat.le_of_ble_eq_true rfl) (Nat.le_of_ble_eq_true rfl)
theorem dX4_isWhole_0 : decode cX4_isWhole 0 = .ok (.iconst 1, 1) := dqo_4 (kb_X4_isWhole_0 0 rfl)
theorem dX4_isWhole_1 : decode cX4_isWhole 1 = .ok (.istore_n 1, 1) := dqo_60 (kb_X4_isWhole_0 1 rfl)
theorem dX4_isWhole_2 : decode cX4_isWhole 2 = .ok (.iconst 0, 1) := dqo_3 (kb_X4_isWhole_0 2 rfl)
theorem dX4_isWhole_3 : decode cX4_isWhole 3 = .ok (.istore_n 2, 1) := dqo_61 (kb_X4_isWhole_0 3 rfl)
theorem dX4_isWhole_4 : decode cX4_isWhole 4 = .ok (.iload_n 2, 1) := dqo_28 (kb_X4_isWhole_0 4 rfl)
theorem dX4_isWhole_5 : decode cX4_isWhole 5 = .ok (.iconst 4, 1) := dqo_7 (kb_X4_isWhole_0 5 rfl)
theorem dX4_isWhole_6 : decode cX4_isWhole 6 = .ok (.if_icmp .ge 70, 3) := dqo_162 0 70 (by decide) (kb_X4_isWhole_0 6 rfl) (kb_X4_isWhole_0 7 rfl) (kb_X4_isWhole_0 8 rfl)
theorem dX4_isWhole_9 : decode cX4_isWhole 9 = .ok (.iload_n 1, 1) := dqo_27 (kb_X4_isWhole_0 9 rfl)
theorem dX4_isWhole_10 : decode cX4_isWhole 10 = .ok (.aload_n 0, 1) := dqo_42 (kb_X4_isWhole_0 10 rfl)
theorem dX4_isWhole_11 : decode cX4_isWhole 11 = .ok (.getfield 18, 3) := dqo_180 0 18 (kb_X4_isWhole_0 11 rfl) (kb_X4_isWhole_0 12 rfl) (kb_X4_isWhole_0 13 rfl)
theorem dX4_isWhole_14 : decode cX4_isWhole 14 = .ok (.iload_n 2, 1) := dqo_28 (kb_X4_isWhole_0 14 rfl)
theorem dX4_isWhole_15 : decode cX4_isWhole 15 = .ok (.baload, 1) := dqo_51 (kb_X4_isWhole_0 15 rfl)
theorem dX4_isWhole_16 : decode cX4_isWhole 16 = .ok (.ifCond .eq 47, 3) := dqo_153 0 47 (by decide) (kb_X4_isWhole_0 16 rfl) (kb_X4_isWhole_0 17 rfl) (kb_X4_isWhole_0 18 rfl)
theorem dX4_isWhole_19 : decode cX4_isWhole 19 = .ok (.aload_n 0, 1) := dqo_42 (kb_X4_isWhole_0 19 rfl)
theorem dX4_isWhole_20 : decode cX4_isWhole 20 = .ok (.getfield 26, 3) := dqo_180 0 26 (kb_X4_isWhole_0 20 rfl) (kb_X4_isWhole_0 21 rfl) (kb_X4_isWhole_0 22 rfl)
theorem dX4_isWhole_23 : decode cX4_isWhole 23 = .ok (.iload_n 2, 1) := dqo_28 (kb_X4_isWhole_0 23 rfl)
theorem dX4_isWhole_24 : decode cX4_isWhole 24 = .ok (.iaload, 1) := dqo_46 (kb_X4_isWhole_0 24 rfl)
theorem dX4_isWhole_25 : decode cX4_isWhole 25 = .ok (.ifCond .lt 42, 3) := dqo_155 0 42 (by decide) (kb_X4_isWhole_0 25 rfl) (kb_X4_isWhole_0 26 rfl) (kb_X4_isWhole_0 27 rfl)
theorem dX4_isWhole_28 : decode cX4_isWhole 28 = .ok (.aload_n 0, 1) := dqo_42 (kb_X4_isWhole_0 28 rfl)
theorem dX4_isWhole_29 : decode cX4_isWhole 29 = .ok (.getfield 29, 3) := dqo_180 0 29 (kb_X4_isWhole_0 29 rfl) (kb_X4_isWhole_0 30 rfl) (kb_X4_isWhole_0 31 rfl)
theorem dX4_isWhole_32 : decode cX4_isWhole 32 = .ok (.iload_n 2, 1) := dqo_28 (kb_X4_isWhole_0 32 rfl)
theorem dX4_isWhole_33 : decode cX4_isWhole 33 = .ok (.iaload, 1) := dqo_46 (kb_X4_isWhole_0 33 rfl)
theorem dX4_isWhole_34 : decode cX4_isWhole 34 = .ok (.ifCond .lt 33, 3) := dqo_155 0 33 (by decide) (kb_X4_isWhole_0 34 rfl) (kb_X4_isWhole_0 35 rfl) (kb_X4_isWhole_0 36 rfl)
theorem dX4_isWhole_37 : decode cX4_isWhole 37 = .ok (.aload_n 0, 1) := dqo_42 (kb_X4_isWhole_0 37 rfl)
theorem dX4_isWhole_38 : decode cX4_isWhole 38 = .ok (.getfield 26, 3) := dqo_180 0 26 (kb_X4_isWhole_0 38 rfl) (kb_X4_isWhole_0 39 rfl) (kb_X4_isWhole_0 40 rfl)
theorem dX4_isWhole_41 : decode cX4_isWhole 41 = .ok (.iload_n 2, 1) := dqo_28 (kb_X4_isWhole_0 41 rfl)
theorem dX4_isWhole_42 : decode cX4_isWhole 42 = .ok (.iaload, 1) := dqo_46 (kb_X4_isWhole_0 42 rfl)
theorem dX4_isWhole_43 : decode cX4_isWhole 43 = .ok (.aload_n 0, 1) := dqo_42 (kb_X4_isWhole_0 43 rfl)
theorem dX4_isWhole_44 : decode cX4_isWhole 44 = .ok (.getfield 29, 3) := dqo_180 0 29 (kb_X4_isWhole_0 44 rfl) (kb_X4_isWhole_0 45 rfl) (kb_X4_isWhole_0 46 rfl)
theorem dX4_isWhole_47 : decode cX4_isWhole 47 = .ok (.iload_n 2, 1) := dqo_28 (kb_X4_isWhole_0 47 rfl)
theorem dX4_isWhole_48 : decode cX4_isWhole 48 = .ok (.iaload, 1) := dqo_46 (kb_X4_isWhole_0 48 rfl)
theorem dX4_isWhole_49 : decode cX4_isWhole 49 = .ok (.iadd, 1) := dqo_96 (kb_X4_isWhole_0 49 rfl)
theorem dX4_isWhole_50 : decode cX4_isWhole 50 = .ok (.aload_n 0, 1) := dqo_42 (kb_X4_isWhole_0 50 rfl)
theorem dX4_isWhole_51 : decode cX4_isWhole 51 = .ok (.aload_n 0, 1) := dqo_42 (kb_X4_isWhole_0 51 rfl)
theorem dX4_isWhole_52 : decode cX4_isWhole 52 = .ok (.getfield 22, 3) := dqo_180 0 22 (kb_X4_isWhole_0 52 rfl) (kb_X4_isWhole_0 53 rfl) (kb_X4_isWhole_0 54 rfl)
theorem dX4_isWhole_55 : decode cX4_isWhole 55 = .ok (.iload_n 2, 1) := dqo_28 (kb_X4_isWhole_0 55 rfl)
theorem dX4_isWhole_56 : decode cX4_isWhole 56 = .ok (.iaload, 1) := dqo_46 (kb_X4_isWhole_0 56 rfl)
theorem dX4_isWhole_57 : decode cX4_isWhole 57 = .ok (.invokevirtual 59, 3) := dqo_182 0 59 (kb_X4_isWhole_0 57 rfl) (kb_X4_isWhole_0 58 rfl) (kb_X4_isWhole_0 59 rfl)
theorem dX4_isWhole_60 : decode cX4_isWhole 60 = .ok (.if_icmp .gt 7, 3) := dqo_163 0 7 (by decide) (kb_X4_isWhole_0 60 rfl) (kb_X4_isWhole_0 61 rfl) (kb_X4_isWhole_0 62 rfl)
theorem dX4_isWhole_63 : decode cX4_isWhole 63 = .ok (.iconst 1, 1) := dqo_4 (kb_X4_isWhole_0 63 rfl)
theorem dX4_isWhole_64 : decode cX4_isWhole 64 = .ok (.goto 4, 3) := dqo_167 0 4 (by decide) (kb_X4_isWhole_1 0 rfl) (kb_X4_isWhole_1 1 rfl) (kb_X4_isWhole_1 2 rfl)
theorem dX4_isWhole_68 : decode cX4_isWhole 68 = .ok (.iand, 1) := dqo_126 (kb_X4_isWhole_1 4 rfl)
theorem dX4_isWhole_69 : decode cX4_isWhole 69 = .ok (.istore_n 1, 1) := dqo_60 (kb_X4_isWhole_1 5 rfl)
theorem dX4_isWhole_70 : decode cX4_isWhole 70 = .ok (.iinc 2 1, 3) := dqo_132 2 1 (by decide) (kb_X4_isWhole_1 6 rfl) (kb_X4_isWhole_1 7 rfl) (kb_X4_isWhole_1 8 rfl)
theorem dX4_isWhole_73 : decode cX4_isWhole 73 = .ok (.goto (-69), 3) := dqo_167 255 187 (by decide) (kb_X4_isWhole_1 9 rfl) (kb_X4_isWhole_1 10 rfl) (kb_X4_isWhole_1 11 rfl)
theorem dX4_isWhole_76 : decode cX4_isWhole 76 = .ok (.iload_n 1, 1) := dqo_27 (kb_X4_isWhole_1 12 rfl)
theorem dX4_isWhole_77 : decode cX4_isWhole 77 = .ok (.ireturn, 1) := dqo_172 (kb_X4_isWhole_1 13 rfl)
set_option maxRecDepth 100000 in
set_option maxHeartbeats 4000000 in
theorem D_isWhole {l : Launch} {D : va_G} {cy : Nat → ClassId} {X : (Nat → Prop) → State → Heap → Prop} {ba ra : Nat → Nat} {hf : Nat → Nat → Nat} {hq : Nat → Nat → Int32} {kn th : Int32} {sm : Int64} {Y : va_W} {f : Nat → Nat → Nat} {r : Nat → Nat → Int32}  (hX : EnvM X cy) (hC : CInv f) (hM : MR f r hf hq) : Cd l D cy X yX4_isWhole cX4_isWhole 3 (some .boolean) (rmz 1 30) [.ref (ba 9)] (WM cy ba ra hf hq kn th sm ++ Y) (some (.int (nI 1))) (WM cy ba ra hf hq kn th sm ++ Y) := by
  have hG := hM.1
  have h5M := hM.h5M hC
  have h4M := hC.h4M
  have h9a := hM.h9a hC
  have h6a := hM.h6a
  have hU := hM.hU hC
  refine Cm.of [some (.ref (ba 9)), none, none] pn_X4 rfl (Nat.le_of_ble_eq_true rfl) ?_
  intro p e s m args below meth c A C hE hr hnt hn
  refine r_iconst (v := (nI 1)) C dX4_isWhole_0 (by decide) ?_
  refine r_istore_n C dX4_isWhole_1 (by decide) rfl ?_
  refine r_iconst (v := (nI 0)) C dX4_isWhole_2 (by decide) ?_
  refine r_istore_n C dX4_isWhole_3 (by decide) rfl ?_
  have L4 : ∀ (d : Nat) (k : Nat), (hk : k + d = 4) → vC p l e (rmz 1 30) s m args below meth c D A (vx_MQ below (vG (fun v1 w1 => v1 = (some (.int (nI 1))) ∧ w1 = WM cy ba ra hf hq kn th sm ++ Y) D vwCl A) (vGX (fun _ => False) D vwCl (WM cy ba ra hf hq kn th sm ++ Y) A) args s (rmz 1 30).cells (rmz 1 30).slots A) 3 0 0 (WM cy ba ra hf hq kn th sm ++ Y) [some (.ref (ba 9)), some (.int (nI 1)), some (.int (nI k))] 4 [] := by
    intro d
    induction d with
    | zero =>
      intro k hk
      refine r_iload_n C dX4_isWhole_4 rfl ?_
      refine r_iconst (v := (nI 4)) C dX4_isWhole_5 (by decide) ?_
      refine r_icN_ge (a := k) (b := 4) (tgt := 76) C (by first | omega | (simp [up2, *]; done) | (simp [up2, *]; omega) | (simp only [up2_eq]; omega) | (split <;> omega)) (by first | omega | (simp [up2, *]; done) | (simp [up2, *]; omega) | (simp only [up2_eq]; omega) | (split <;> omega)) dX4_isWhole_6 (by decide) (fun h6_1 => ?_) (fun h6_1 => ?_)
      · first
        | exfalso; first | omega | contradiction
        | skip
          refine r_iload_n C dX4_isWhole_76 rfl ?_
          exact r_zret C hr (by first | omega | (simp [up2, *]; done) | (simp [up2, *]; omega) | (simp only [up2_eq]; omega) | (split <;> omega)) dX4_isWhole_77 ⟨rfl, rfl⟩ (Nat.le_of_ble_eq_true rfl) (Nat.le_of_ble_eq_true rfl)
      · first
        | exfalso; first | omega | contradiction
        | skip
          have q5 := h5M (4 + k) (by omega) (by omega)
          refine r_iload_n C dX4_isWhole_9 rfl ?_
          refine r_aload_n C dX4_isWhole_10 rfl ?_
          refine m_get (v := .ref (ba 1)) C 1 (by decide) qf_X4_18 rfl rfl dX4_isWhole_11 ?_
          refine r_iload_n C dX4_isWhole_14 rfl ?_
          refine m_zld (i := k) (z := 4 + k) (v := hf 5 (4 + k)) C 0 (by decide) (by decide) (show k < 4 from (by first | omega | (simp [up2, *]; done) | (simp [up2, *]; omega) | (simp only [up2_eq]; omega) | (split <;> omega))) (show 4 + k = 4 + k from (by omega)) rfl dX4_isWhole_15 ?_
          refine r_ifN_eq (a := (hf 5 (4 + k))) (tgt := 63) C (by omega) dX4_isWhole_16 (by decide) (fun h16_2 => ?_) (fun h16_2 => ?_)
          · first
            | exfalso; first | omega | contradiction
            | skip
              refine r_iconst (v := (nI 1)) C dX4_isWhole_63 (by decide) ?_
              refine r_goto (tgt := 68) C dX4_isWhole_64 (by decide) ?_
              refine r_iandB (a := 1) (b := 1) (v := 1) C (by first | omega | (simp [up2, *]; done) | (simp [up2, *]; omega) | (simp only [up2_eq]; omega) | (split <;> omega)) (by first | omega | (simp [up2, *]; done) | (simp [up2, *]; omega) | (simp only [up2_eq]; omega) | (split <;> omega)) rfl dX4_isWhole_68 ?_
              refine r_istore_n C dX4_isWhole_69 (by decide) rfl ?_
              refine r_iincN C dX4_isWhole_70 rfl (by decide) rfl ?_
              refine r_goto (tgt := 4) C dX4_isWhole_73 (by decide) ?_
              exact (Nat.not_lt_zero _ (by omega)).elim
          · first
            | exfalso; first | omega | contradiction
            | skip
              have q6 := hM.wn hC (w := 4 + k) (by omega) (by omega) (by omega)
              refine r_aload_n C dX4_isWhole_19 rfl ?_
              refine m_get (v := .ref (ba 3)) C 3 (by decide) qf_X4_26 rfl rfl dX4_isWhole_20 ?_
              refine r_iload_n C dX4_isWhole_23 rfl ?_
              refine m_ald (i := k) (z := 4 + k) (v := hf 3 (4 + k)) C 2 (by decide) (by decide) (show k < 4 from (by first | omega | (simp [up2, *]; done) | (simp [up2, *]; omega) | (simp only [up2_eq]; omega) | (split <;> omega))) (show 4 + k = 4 + k from (by omega)) rfl dX4_isWhole_24 ?_
              refine r_ifN_lt (a := (hf 3 (4 + k))) (tgt := 67) C (by first | omega | (simp [up2, *]; done) | (simp [up2, *]; omega) | (simp only [up2_eq]; omega) | (split <;> omega)) dX4_isWhole_25 (by decide) (fun h25_3 => ?_) (fun h25_3 => ?_)
              · exact h25_3.elim
              · skip
                refine r_aload_n C dX4_isWhole_28 rfl ?_
                refine m_get (v := .ref (ba 4)) C 4 (by decide) qf_X4_29 rfl rfl dX4_isWhole_29 ?_
                refine r_iload_n C dX4_isWhole_32 rfl ?_
                refine m_ald (i := k) (z := 4 + k) (v := hf 4 (4 + k)) C 3 (by decide) (by decide) (show k < 4 from (by first | omega | (simp [up2, *]; done) | (simp [up2, *]; omega) | (simp only [up2_eq]; omega) | (split <;> omega))) (show 4 + k = 4 + k from (by omega)) rfl dX4_isWhole_33 ?_
                refine r_ifN_lt (a := (hf 4 (4 + k))) (tgt := 67) C (by first | omega | (simp [up2, *]; done) | (simp [up2, *]; omega) | (simp only [up2_eq]; omega) | (split <;> omega)) dX4_isWhole_34 (by decide) (fun h34_4 => ?_) (fun h34_4 => ?_)
                · exact h34_4.elim
                · skip
                  refine r_aload_n C dX4_isWhole_37 rfl ?_
                  refine m_get (v := .ref (ba 3)) C 3 (by decide) qf_X4_26 rfl rfl dX4_isWhole_38 ?_
                  refine r_iload_n C dX4_isWhole_41 rfl ?_
                  refine m_ald (i := k) (z := 4 + k) (v := hf 3 (4 + k)) C 2 (by decide) (by decide) (show k < 4 from (by first | omega | (simp [up2, *]; done) | (simp [up2, *]; omega) | (simp only [up2_eq]; omega) | (split <;> omega))) (show 4 + k = 4 + k from (by omega)) rfl dX4_isWhole_42 ?_
                  refine r_aload_n C dX4_isWhole_43 rfl ?_
                  refine m_get (v := .ref (ba 4)) C 4 (by decide) qf_X4_29 rfl rfl dX4_isWhole_44 ?_
                  refine r_iload_n C dX4_isWhole_47 rfl ?_
                  refine m_ald (i := k) (z := 4 + k) (v := hf 4 (4 + k)) C 3 (by decide) (by decide) (show k < 4 from (by first | omega | (simp [up2, *]; done) | (simp [up2, *]; omega) | (simp only [up2_eq]; omega) | (split <;> omega))) (show 4 + k = 4 + k from (by omega)) rfl dX4_isWhole_48 ?_
                  refine r_iaddN C dX4_isWhole_49 ?_
                  refine r_aload_n C dX4_isWhole_50 rfl ?_
                  refine r_aload_n C dX4_isWhole_51 rfl ?_
                  refine m_get (v := .ref (ba 2)) C 2 (by decide) qf_X4_22 rfl rfl dX4_isWhole_52 ?_
                  refine r_iload_n C dX4_isWhole_55 rfl ?_
                  refine m_ald (i := k) (z := 4 + k) (v := hf 2 (4 + k)) C 1 (by decide) (by decide) (show k < 4 from (by first | omega | (simp [up2, *]; done) | (simp [up2, *]; omega) | (simp only [up2_eq]; omega) | (split <;> omega))) (show 4 + k = 4 + k from (by omega)) rfl dX4_isWhole_56 ?_
                  refine d_V (st := [.int (nI ((hf 3 (4 + k)) + (hf 4 (4 + k)))), .int (nI 1)]) hX.1.stb C hE (D_sizeOf (ba := ba) (ra := ra) (hf := hf) (hq := hq) (kn := kn) (th := th) (sm := sm) (Y := Y) (w := (hf 2 (4 + k))) hX q6.2.1) pk_X4_sizeOf qm_X4_59 0 8 rfl rfl wm_0 rfl rfl (Nat.le_of_ble_eq_true rfl) dX4_isWhole_57 ⟨(Nat.le_of_ble_eq_true rfl), (Nat.le_of_ble_eq_true rfl)⟩ ⟨(Nat.le_of_ble_eq_true rfl), (Nat.le_of_ble_eq_true rfl)⟩ ?_
                  refine r_w (w' := WM cy ba ra hf hq kn th sm ++ Y) rfl ?_
                  refine r_icN_gt (a := ((hf 3 (4 + k)) + (hf 4 (4 + k)))) (b := (hf 4 (hf 2 (4 + k)))) (tgt := 67) C (by first | omega | (simp [up2, *]; done) | (simp [up2, *]; omega) | (simp only [up2_eq]; omega) | (split <;> omega)) (by first | omega | (simp [up2, *]; done) | (simp [up2, *]; omega) | (simp only [up2_eq]; omega) | (split <;> omega)) dX4_isWhole_60 (by decide) (fun h60_5 => ?_) (fun h60_5 => ?_)
                  · exact absurd h60_5 (by first | omega | (simp [up2, *]; done) | (simp [up2, *]; omega) | (simp only [up2_eq]; omega) | (split <;> omega))
                  · skip
                    refine r_iconst (v := (nI 1)) C dX4_isWhole_63 (by decide) ?_
                    refine r_goto (tgt := 68) C dX4_isWhole_64 (by decide) ?_
                    refine r_iandB (a := 1) (b := 1) (v := 1) C (by first | omega | (simp [up2, *]; done) | (simp [up2, *]; omega) | (simp only [up2_eq]; omega) | (split <;> omega)) (by first | omega | (simp [up2, *]; done) | (simp [up2, *]; omega) | (simp only [up2_eq]; omega) | (split <;> omega)) rfl dX4_isWhole_68 ?_
                    refine r_istore_n C dX4_isWhole_69 (by decide) rfl ?_
                    refine r_iincN C dX4_isWhole_70 rfl (by decide) rfl ?_
                    refine r_goto (tgt := 4) C dX4_isWhole_73 (by decide) ?_
                    exact (Nat.not_lt_zero _ (by omega)).elim
    | succ d ih_L4 =>
      intro k hk
      refine r_iload_n C dX4_isWhole_4 rfl ?_
      refine r_iconst (v := (nI 4)) C dX4_isWhole_5 (by decide) ?_
      refine r_icN_ge (a := k) (b := 4) (tgt := 76) C (by first | omega | (simp [up2, *]; done) | (simp [up2, *]; omega) | (simp only [up2_eq]; omega) | (split <;> omega)) (by first | omega | (simp [up2, *]; done) | (simp [up2, *]; omega) | (simp only [up2_eq]; omega) | (split <;> omega)) dX4_isWhole_6 (by decide) (fun h6_6 => ?_) (fun h6_6 => ?_)
      · first
        | exfalso; first | omega | contradiction
        | skip
          refine r_iload_n C dX4_isWhole_76 rfl ?_
          exact r_zret C hr (by first | omega | (simp [up2, *]; done) | (simp [up2, *]; omega) | (simp only [up2_eq]; omega) | (split <;> omega)) dX4_isWhole_77 ⟨rfl, rfl⟩ (Nat.le_of_ble_eq_true rfl) (Nat.le_of_ble_eq_true rfl)
      · first
        | exfalso; first | omega | contradiction
        | skip
          have q5 := h5M (4 + k) (by omega) (by omega)
          refine r_iload_n C dX4_isWhole_9 rfl ?_
          refine r_aload_n C dX4_isWhole_10 rfl ?_
          refine m_get (v := .ref (ba 1)) C 1 (by decide) qf_X4_18 rfl rfl dX4_isWhole_11 ?_
          refine r_iload_n C dX4_isWhole_14 rfl ?_
          refine m_zld (i := k) (z := 4 + k) (v := hf 5 (4 + k)) C 0 (by decide) (by decide) (show k < 4 from (by first | omega | (simp [up2, *]; done) | (simp [up2, *]; omega) | (simp only [up2_eq]; omega) | (split <;> omega))) (show 4 + k = 4 + k from (by omega)) rfl dX4_isWhole_15 ?_
          refine r_ifN_eq (a := (hf 5 (4 + k))) (tgt := 63) C (by omega) dX4_isWhole_16 (by decide) (fun h16_7 => ?_) (fun h16_7 => ?_)
          · first
            | exfalso; first | omega | contradiction
            | skip
              refine r_iconst (v := (nI 1)) C dX4_isWhole_63 (by decide) ?_
              refine r_goto (tgt := 68) C dX4_isWhole_64 (by decide) ?_
              refine r_iandB (a := 1) (b := 1) (v := 1) C (by first | omega | (simp [up2, *]; done) | (simp [up2, *]; omega) | (simp only [up2_eq]; omega) | (split <;> omega)) (by first | omega | (simp [up2, *]; done) | (simp [up2, *]; omega) | (simp only [up2_eq]; omega) | (split <;> omega)) rfl dX4_isWhole_68 ?_
              refine r_istore_n C dX4_isWhole_69 (by decide) rfl ?_
              refine r_iincN C dX4_isWhole_70 rfl (by decide) rfl ?_
              refine r_goto (tgt := 4) C dX4_isWhole_73 (by decide) ?_
              exact ih_L4 (k + 1) (by first | omega | (simp [up2, *]; done) | (simp [up2, *]; omega) | (simp only [up2_eq]; omega) | (split <;> omega))
          · first
            | exfalso; first | omega | contradiction
            | skip
              have q6 := hM.wn hC (w := 4 + k) (by omega) (by omega) (by omega)
              refine r_aload_n C dX4_isWhole_19 rfl ?_
              refine m_get (v := .ref (ba 3)) C 3 (by decide) qf_X4_26 rfl rfl dX4_isWhole_20 ?_
              refine r_iload_n C dX4_isWhole_23 rfl ?_
              refine m_ald (i := k) (z := 4 + k) (v := hf 3 (4 + k)) C 2 (by decide) (by decide) (show k < 4 from (by first | omega | (simp [up2, *]; done) | (simp [up2, *]; omega) | (simp only [up2_eq]; omega) | (split <;> omega))) (show 4 + k = 4 + k from (by omega)) rfl dX4_isWhole_24 ?_
              refine r_ifN_lt (a := (hf 3 (4 + k))) (tgt := 67) C (by first | omega | (simp [up2, *]; done) | (simp [up2, *]; omega) | (simp only [up2_eq]; omega) | (split <;> omega)) dX4_isWhole_25 (by decide) (fun h25_8 => ?_) (fun h25_8 => ?_)
              · exact h25_8.elim
              · skip
                refine r_aload_n C dX4_isWhole_28 rfl ?_
                refine m_get (v := .ref (ba 4)) C 4 (by decide) qf_X4_29 rfl rfl dX4_isWhole_29 ?_
                refine r_iload_n C dX4_isWhole_32 rfl ?_
                refine m_ald (i := k) (z := 4 + k) (v := hf 4 (4 + k)) C 3 (by decide) (by decide) (show k < 4 from (by first | omega | (simp [up2, *]; done) | (simp [up2, *]; omega) | (simp only [up2_eq]; omega) | (split <;> omega))) (show 4 + k = 4 + k from (by omega)) rfl dX4_isWhole_33 ?_
                refine r_ifN_lt (a := (hf 4 (4 + k))) (tgt := 67) C (by first | omega | (simp [up2, *]; done) | (simp [up2, *]; omega) | (simp only [up2_eq]; omega) | (split <;> omega)) dX4_isWhole_34 (by decide) (fun h34_9 => ?_) (fun h34_9 => ?_)
                · exact h34_9.elim
                · skip
                  refine r_aload_n C dX4_isWhole_37 rfl ?_
                  refine m_get (v := .ref (ba 3)) C 3 (by decide) qf_X4_26 rfl rfl dX4_isWhole_38 ?_
                  refine r_iload_n C dX4_isWhole_41 rfl ?_
                  refine m_ald (i := k) (z := 4 + k) (v := hf 3 (4 + k)) C 2 (by decide) (by decide) (show k < 4 from (by first | omega | (simp [up2, *]; done) | (simp [up2, *]; omega) | (simp only [up2_eq]; omega) | (split <;> omega))) (show 4 + k = 4 + k from (by omega)) rfl dX4_isWhole_42 ?_
                  refine r_aload_n C dX4_isWhole_43 rfl ?_
                  refine m_get (v := .ref (ba 4)) C 4 (by decide) qf_X4_29 rfl rfl dX4_isWhole_44 ?_
                  refine r_iload_n C dX4_isWhole_47 rfl ?_
                  refine m_ald (i := k) (z := 4 + k) (v := hf 4 (4 + k)) C 3 (by decide) (by decide) (show k < 4 from (by first | omega | (simp [up2, *]; done) | (simp [up2, *]; omega) | (simp only [up2_eq]; omega) | (split <;> omega))) (show 4 + k = 4 + k from (by omega)) rfl dX4_isWhole_48 ?_
                  refine r_iaddN C dX4_isWhole_49 ?_
                  refine r_aload_n C dX4_isWhole_50 rfl ?_
                  refine r_aload_n C dX4_isWhole_51 rfl ?_
                  refine m_get (v := .ref (ba 2)) C 2 (by decide) qf_X4_22 rfl rfl dX4_isWhole_52 ?_
                  refine r_iload_n C dX4_isWhole_55 rfl ?_
                  refine m_ald (i := k) (z := 4 + k) (v := hf 2 (4 + k)) C 1 (by decide) (by decide) (show k < 4 from (by first | omega | (simp [up2, *]; done) | (simp [up2, *]; omega) | (simp only [up2_eq]; omega) | (split <;> omega))) (show 4 + k = 4 + k from (by omega)) rfl dX4_isWhole_56 ?_
                  refine d_V (st := [.int (nI ((hf 3 (4 + k)) + (hf 4 (4 + k)))), .int (nI 1)]) hX.1.stb C hE (D_sizeOf (ba := ba) (ra := ra) (hf := hf) (hq := hq) (kn := kn) (th := th) (sm := sm) (Y := Y) (w := (hf 2 (4 + k))) hX q6.2.1) pk_X4_sizeOf qm_X4_59 0 8 rfl rfl wm_0 rfl rfl (Nat.le_of_ble_eq_true rfl) dX4_isWhole_57 ⟨(Nat.le_of_ble_eq_true rfl), (Nat.le_of_ble_eq_true rfl)⟩ ⟨(Nat.le_of_ble_eq_true rfl), (Nat.le_of_ble_eq_true rfl)⟩ ?_
                  refine r_w (w' := WM cy ba ra hf hq kn th sm ++ Y) rfl ?_
                  refine r_icN_gt (a := ((hf 3 (4 + k)) + (hf 4 (4 + k)))) (b := (hf 4 (hf 2 (4 + k)))) (tgt := 67) C (by first | omega | (simp [up2, *]; done) | (simp [up2, *]; omega) | (simp only [up2_eq]; omega) | (split <;> omega)) (by first | omega | (simp [up2, *]; done) | (simp [up2, *]; omega) | (simp only [up2_eq]; omega) | (split <;> omega)) dX4_isWhole_60 (by decide) (fun h60_10 => ?_) (fun h60_10 => ?_)
                  · exact absurd h60_10 (by first | omega | (simp [up2, *]; done) | (simp [up2, *]; omega) | (simp only [up2_eq]; omega) | (split <;> omega))
                  · skip
                    refine r_iconst (v := (nI 1)) C dX4_isWhole_63 (by decide) ?_
                    refine r_goto (tgt := 68) C dX4_isWhole_64 (by decide) ?_
                    refine r_iandB (a := 1) (b := 1) (v := 1) C (by first | omega | (simp [up2, *]; done) | (simp [up2, *]; omega) | (simp only [up2_eq]; omega) | (split <;> omega)) (by first | omega | (simp [up2, *]; done) | (simp [up2, *]; omega) | (simp only [up2_eq]; omega) | (split <;> omega)) rfl dX4_isWhole_68 ?_
                    refine r_istore_n C dX4_isWhole_69 (by decide) rfl ?_
                    refine r_iincN C dX4_isWhole_70 rfl (by decide) rfl ?_
                    refine r_goto (tgt := 4) C dX4_isWhole_73 (by decide) ?_
                    exact ih_L4 (k + 1) (by first | omega | (simp [up2, *]; done) | (simp [up2, *]; omega) | (simp only [up2_eq]; omega) | (split <;> omega))
  exact L4 4 0 (by first | omega | (simp [up2, *]; done) | (simp [up2, *]; omega) | (simp only [up2_eq]; omega) | (split <;> omega))
theorem pk_X4_isWhole : PkV RX4 yX4_isWhole cX4_isWhole 3 (some .boolean) 0 := ⟨⟨qi_X4_isWhole, qs_X4_isWhole, qz_X4, qc_X4_isWhole⟩, rfl, mh_X4.1, mh_X4.2, pd_27⟩
theorem dX4_isSound_0 : decode cX4_isSound 0 = .ok (.aload_n 0, 1) := dqo_42 (kb_of ke_X4_isSound 0 rfl)
theorem dX4_isSound_1 : decode cX4_isSound 1 = .ok (.iconst 0, 1) := dqo_3 (kb_of ke_X4_isSound 1 rfl)
theorem dX4_isSound_2 : decode cX4_isSound 2 = .ok (.putfield 44, 3) := dqo_181 0 44 (kb_of ke_X4_isSound 2 rfl) (kb_of ke_X4_isSound 3 rfl) (kb_of ke_X4_isSound 4 rfl)
theorem dX4_isSound_5 : decode cX4_isSound 5 = .ok (.aload_n 0, 1) := dqo_42 (kb_of ke_X4_isSound 5 rfl)
theorem dX4_isSound_6 : decode cX4_isSound 6 = .ok (.invokevirtual 208, 3) := dqo_182 0 208 (kb_of ke_X4_isSound 6 rfl) (kb_of ke_X4_isSound 7 rfl) (kb_of ke_X4_isSound 8 rfl)
theorem dX4_isSound_9 : decode cX4_isSound 9 = .ok (.ireturn, 1) := dqo_172 (kb_of ke_X4_isSound 9 rfl)
set_option maxRecDepth 100000 in
set_option maxHeartbeats 4000000 in
theorem D_isSound {l : Launch} {D : va_G} {cy : Nat → ClassId} {X : (Nat → Prop) → State → Heap → Prop} {ba ra : Nat → Nat} {hf : Nat → Nat → Nat} {hq : Nat → Nat → Int32} {kn th : Int32} {sm : Int64} {Y : va_W} {f : Nat → Nat → Nat} {r : Nat → Nat → Int32}  (hX : EnvM X cy) (hC : CInv f) (hM : MR f r hf hq) : Cd l D cy X yX4_isSound cX4_isSound 1 (some .boolean) (rmz 2 60) [.ref (ba 9)] (WM cy ba ra hf hq kn th sm ++ Y) (some (.int (nI 1))) (WM cy ba ra hf hq kn (nI 0) sm ++ Y) := by
  have hG := hM.1
  have h5M := hM.h5M hC
  have h4M := hC.h4M
  have h9a := hM.h9a hC
  have h6a := hM.h6a
  have hU := hM.hU hC
  refine Cm.of [some (.ref (ba 9))] pn_X4 rfl (Nat.le_of_ble_eq_true rfl) ?_
  intro p e s m args below meth c A C hE hr hnt hn
  refine r_aload_n C dX4_isSound_0 rfl ?_
  refine r_iconst (v := (nI 0)) C dX4_isSound_1 (by decide) ?_
  refine m_putT C qf_X4_44 dX4_isSound_2 ?_
  refine r_aload_n C dX4_isSound_5 rfl ?_
  refine d_V (st := []) hX.1.stb C hE (D_isWhole (ba := ba) (ra := ra) (hf := hf) (hq := hq) (kn := kn) (th := (nI 0)) (sm := sm) (Y := Y) (f := f)  hX hC hM) pk_X4_isWhole qm_X4_208 0 8 rfl rfl wm_0 rfl rfl (Nat.le_of_ble_eq_true rfl) dX4_isSound_6 ⟨(Nat.le_of_ble_eq_true rfl), (Nat.le_of_ble_eq_true rfl)⟩ ⟨(Nat.le_of_ble_eq_true rfl), (Nat.le_of_ble_eq_true rfl)⟩ ?_
  refine r_w (w' := WM cy ba ra hf hq kn (nI 0) sm ++ Y) rfl ?_
  exact r_zret C hr (by first | omega | (simp [up2, *]; done) | (simp [up2, *]; omega) | (simp only [up2_eq]; omega) | (split <;> omega)) dX4_isSound_9 ⟨rfl, rfl⟩ (Nat.le_of_ble_eq_true rfl) (Nat.le_of_ble_eq_true rfl)
