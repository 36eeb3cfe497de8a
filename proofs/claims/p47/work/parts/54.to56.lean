/-! ===== 54.model13 -/
section PT_54
/-! CONTRACTS of the model: cursors asked, the house, soundness -/
theorem dX4_cursorNow_0 : decode cX4_cursorNow 0 = .ok (.aload_n 0, 1) := dqo_42 (kb_X4_cursorNow_0 0 rfl)
theorem dX4_cursorNow_1 : decode cX4_cursorNow 1 = .ok (.getfield 32, 3) := dqo_180 0 32 (kb_X4_cursorNow_0 1 rfl) (kb_X4_cursorNow_0 2 rfl) (kb_X4_cursorNow_0 3 rfl)
theorem dX4_cursorNow_4 : decode cX4_cursorNow 4 = .ok (.iload_n 1, 1) := dqo_27 (kb_X4_cursorNow_0 4 rfl)
theorem dX4_cursorNow_5 : decode cX4_cursorNow 5 = .ok (.baload, 1) := dqo_51 (kb_X4_cursorNow_0 5 rfl)
theorem dX4_cursorNow_6 : decode cX4_cursorNow 6 = .ok (.ifCond .ne 5, 3) := dqo_154 0 5 (by decide) (kb_X4_cursorNow_0 6 rfl) (kb_X4_cursorNow_0 7 rfl) (kb_X4_cursorNow_0 8 rfl)
theorem dX4_cursorNow_9 : decode cX4_cursorNow 9 = .ok (.iconst (-1), 1) := dqo_2 (kb_X4_cursorNow_0 9 rfl)
theorem dX4_cursorNow_10 : decode cX4_cursorNow 10 = .ok (.ireturn, 1) := dqo_172 (kb_X4_cursorNow_0 10 rfl)
theorem dX4_cursorNow_11 : decode cX4_cursorNow 11 = .ok (.iconst 5, 1) := dqo_8 (kb_X4_cursorNow_0 11 rfl)
theorem dX4_cursorNow_12 : decode cX4_cursorNow 12 = .ok (.newarray .int, 2) := dqo_188_10 (kb_X4_cursorNow_0 12 rfl) (kb_X4_cursorNow_0 13 rfl)
theorem dX4_cursorNow_14 : decode cX4_cursorNow 14 = .ok (.dup, 1) := dqo_89 (kb_X4_cursorNow_0 14 rfl)
theorem dX4_cursorNow_15 : decode cX4_cursorNow 15 = .ok (.iconst 0, 1) := dqo_3 (kb_X4_cursorNow_0 15 rfl)
theorem dX4_cursorNow_16 : decode cX4_cursorNow 16 = .ok (.aload_n 0, 1) := dqo_42 (kb_X4_cursorNow_0 16 rfl)
theorem dX4_cursorNow_17 : decode cX4_cursorNow 17 = .ok (.getfield 35, 3) := dqo_180 0 35 (kb_X4_cursorNow_0 17 rfl) (kb_X4_cursorNow_0 18 rfl) (kb_X4_cursorNow_0 19 rfl)
theorem dX4_cursorNow_20 : decode cX4_cursorNow 20 = .ok (.iload_n 1, 1) := dqo_27 (kb_X4_cursorNow_0 20 rfl)
theorem dX4_cursorNow_21 : decode cX4_cursorNow 21 = .ok (.iaload, 1) := dqo_46 (kb_X4_cursorNow_0 21 rfl)
theorem dX4_cursorNow_22 : decode cX4_cursorNow 22 = .ok (.iastore, 1) := dqo_79 (kb_X4_cursorNow_0 22 rfl)
theorem dX4_cursorNow_23 : decode cX4_cursorNow 23 = .ok (.dup, 1) := dqo_89 (kb_X4_cursorNow_0 23 rfl)
theorem dX4_cursorNow_24 : decode cX4_cursorNow 24 = .ok (.iconst 1, 1) := dqo_4 (kb_X4_cursorNow_0 24 rfl)
theorem dX4_cursorNow_25 : decode cX4_cursorNow 25 = .ok (.aload_n 0, 1) := dqo_42 (kb_X4_cursorNow_0 25 rfl)
theorem dX4_cursorNow_26 : decode cX4_cursorNow 26 = .ok (.getfield 38, 3) := dqo_180 0 38 (kb_X4_cursorNow_0 26 rfl) (kb_X4_cursorNow_0 27 rfl) (kb_X4_cursorNow_0 28 rfl)
theorem dX4_cursorNow_29 : decode cX4_cursorNow 29 = .ok (.iload_n 1, 1) := dqo_27 (kb_X4_cursorNow_0 29 rfl)
theorem dX4_cursorNow_30 : decode cX4_cursorNow 30 = .ok (.iaload, 1) := dqo_46 (kb_X4_cursorNow_0 30 rfl)
theorem dX4_cursorNow_31 : decode cX4_cursorNow 31 = .ok (.iastore, 1) := dqo_79 (kb_X4_cursorNow_0 31 rfl)
theorem dX4_cursorNow_32 : decode cX4_cursorNow 32 = .ok (.dup, 1) := dqo_89 (kb_X4_cursorNow_0 32 rfl)
theorem dX4_cursorNow_33 : decode cX4_cursorNow 33 = .ok (.iconst 2, 1) := dqo_5 (kb_X4_cursorNow_0 33 rfl)
theorem dX4_cursorNow_34 : decode cX4_cursorNow 34 = .ok (.aload_n 0, 1) := dqo_42 (kb_X4_cursorNow_0 34 rfl)
theorem dX4_cursorNow_35 : decode cX4_cursorNow 35 = .ok (.getfield 38, 3) := dqo_180 0 38 (kb_X4_cursorNow_0 35 rfl) (kb_X4_cursorNow_0 36 rfl) (kb_X4_cursorNow_0 37 rfl)
theorem dX4_cursorNow_38 : decode cX4_cursorNow 38 = .ok (.iload_n 1, 1) := dqo_27 (kb_X4_cursorNow_0 38 rfl)
theorem dX4_cursorNow_39 : decode cX4_cursorNow 39 = .ok (.iaload, 1) := dqo_46 (kb_X4_cursorNow_0 39 rfl)
theorem dX4_cursorNow_40 : decode cX4_cursorNow 40 = .ok (.iconst 1, 1) := dqo_4 (kb_X4_cursorNow_0 40 rfl)
theorem dX4_cursorNow_41 : decode cX4_cursorNow 41 = .ok (.isub, 1) := dqo_100 (kb_X4_cursorNow_0 41 rfl)
theorem dX4_cursorNow_42 : decode cX4_cursorNow 42 = .ok (.iastore, 1) := dqo_79 (kb_X4_cursorNow_0 42 rfl)
theorem dX4_cursorNow_43 : decode cX4_cursorNow 43 = .ok (.dup, 1) := dqo_89 (kb_X4_cursorNow_0 43 rfl)
theorem dX4_cursorNow_44 : decode cX4_cursorNow 44 = .ok (.iconst 3, 1) := dqo_6 (kb_X4_cursorNow_0 44 rfl)
theorem dX4_cursorNow_45 : decode cX4_cursorNow 45 = .ok (.aload_n 0, 1) := dqo_42 (kb_X4_cursorNow_0 45 rfl)
theorem dX4_cursorNow_46 : decode cX4_cursorNow 46 = .ok (.getfield 38, 3) := dqo_180 0 38 (kb_X4_cursorNow_0 46 rfl) (kb_X4_cursorNow_0 47 rfl) (kb_X4_cursorNow_0 48 rfl)
theorem dX4_cursorNow_49 : decode cX4_cursorNow 49 = .ok (.iload_n 1, 1) := dqo_27 (kb_X4_cursorNow_0 49 rfl)
theorem dX4_cursorNow_50 : decode cX4_cursorNow 50 = .ok (.iaload, 1) := dqo_46 (kb_X4_cursorNow_0 50 rfl)
theorem dX4_cursorNow_51 : decode cX4_cursorNow 51 = .ok (.aload_n 0, 1) := dqo_42 (kb_X4_cursorNow_0 51 rfl)
theorem dX4_cursorNow_52 : decode cX4_cursorNow 52 = .ok (.aload_n 0, 1) := dqo_42 (kb_X4_cursorNow_0 52 rfl)
theorem dX4_cursorNow_53 : decode cX4_cursorNow 53 = .ok (.getfield 35, 3) := dqo_180 0 35 (kb_X4_cursorNow_0 53 rfl) (kb_X4_cursorNow_0 54 rfl) (kb_X4_cursorNow_0 55 rfl)
theorem dX4_cursorNow_56 : decode cX4_cursorNow 56 = .ok (.iload_n 1, 1) := dqo_27 (kb_X4_cursorNow_0 56 rfl)
theorem dX4_cursorNow_57 : decode cX4_cursorNow 57 = .ok (.iaload, 1) := dqo_46 (kb_X4_cursorNow_0 57 rfl)
theorem dX4_cursorNow_58 : decode cX4_cursorNow 58 = .ok (.invokevirtual 59, 3) := dqo_182 0 59 (kb_X4_cursorNow_0 58 rfl) (kb_X4_cursorNow_0 59 rfl) (kb_X4_cursorNow_0 60 rfl)
theorem dX4_cursorNow_61 : decode cX4_cursorNow 61 = .ok (.if_icmp .ge 7, 3) := dqo_162 0 7 (by decide) (kb_X4_cursorNow_0 61 rfl) (kb_X4_cursorNow_0 62 rfl) (kb_X4_cursorNow_0 63 rfl)
theorem dX4_cursorNow_64 : decode cX4_cursorNow 64 = .ok (.iconst 1, 1) := dqo_4 (kb_X4_cursorNow_1 0 rfl)
theorem dX4_cursorNow_65 : decode cX4_cursorNow 65 = .ok (.goto 4, 3) := dqo_167 0 4 (by decide) (kb_X4_cursorNow_1 1 rfl) (kb_X4_cursorNow_1 2 rfl) (kb_X4_cursorNow_1 3 rfl)
theorem dX4_cursorNow_68 : decode cX4_cursorNow 68 = .ok (.iconst 0, 1) := dqo_3 (kb_X4_cursorNow_1 4 rfl)
theorem dX4_cursorNow_69 : decode cX4_cursorNow 69 = .ok (.invokestatic 136, 3) := dqo_184 0 136 (kb_X4_cursorNow_1 5 rfl) (kb_X4_cursorNow_1 6 rfl) (kb_X4_cursorNow_1 7 rfl)
theorem dX4_cursorNow_72 : decode cX4_cursorNow 72 = .ok (.iastore, 1) := dqo_79 (kb_X4_cursorNow_1 8 rfl)
theorem dX4_cursorNow_73 : decode cX4_cursorNow 73 = .ok (.dup, 1) := dqo_89 (kb_X4_cursorNow_1 9 rfl)
theorem dX4_cursorNow_74 : decode cX4_cursorNow 74 = .ok (.iconst 4, 1) := dqo_7 (kb_X4_cursorNow_1 10 rfl)
theorem dX4_cursorNow_75 : decode cX4_cursorNow 75 = .ok (.aload_n 0, 1) := dqo_42 (kb_X4_cursorNow_1 11 rfl)
theorem dX4_cursorNow_76 : decode cX4_cursorNow 76 = .ok (.getfield 38, 3) := dqo_180 0 38 (kb_X4_cursorNow_1 12 rfl) (kb_X4_cursorNow_1 13 rfl) (kb_X4_cursorNow_1 14 rfl)
theorem dX4_cursorNow_79 : decode cX4_cursorNow 79 = .ok (.iload_n 1, 1) := dqo_27 (kb_X4_cursorNow_1 15 rfl)
theorem dX4_cursorNow_80 : decode cX4_cursorNow 80 = .ok (.iaload, 1) := dqo_46 (kb_X4_cursorNow_1 16 rfl)
theorem dX4_cursorNow_81 : decode cX4_cursorNow 81 = .ok (.ifCond .le 7, 3) := dqo_158 0 7 (by decide) (kb_X4_cursorNow_1 17 rfl) (kb_X4_cursorNow_1 18 rfl) (kb_X4_cursorNow_1 19 rfl)
theorem dX4_cursorNow_84 : decode cX4_cursorNow 84 = .ok (.iconst 1, 1) := dqo_4 (kb_X4_cursorNow_1 20 rfl)
theorem dX4_cursorNow_85 : decode cX4_cursorNow 85 = .ok (.goto 4, 3) := dqo_167 0 4 (by decide) (kb_X4_cursorNow_1 21 rfl) (kb_X4_cursorNow_1 22 rfl) (kb_X4_cursorNow_1 23 rfl)
theorem dX4_cursorNow_88 : decode cX4_cursorNow 88 = .ok (.iconst 0, 1) := dqo_3 (kb_X4_cursorNow_1 24 rfl)
theorem dX4_cursorNow_89 : decode cX4_cursorNow 89 = .ok (.invokestatic 136, 3) := dqo_184 0 136 (kb_X4_cursorNow_1 25 rfl) (kb_X4_cursorNow_1 26 rfl) (kb_X4_cursorNow_1 27 rfl)
theorem dX4_cursorNow_92 : decode cX4_cursorNow 92 = .ok (.iastore, 1) := dqo_79 (kb_X4_cursorNow_1 28 rfl)
theorem dX4_cursorNow_93 : decode cX4_cursorNow 93 = .ok (.astore_n 3, 1) := dqo_78 (kb_X4_cursorNow_1 29 rfl)
theorem dX4_cursorNow_94 : decode cX4_cursorNow 94 = .ok (.aload_n 3, 1) := dqo_45 (kb_X4_cursorNow_1 30 rfl)
theorem dX4_cursorNow_95 : decode cX4_cursorNow 95 = .ok (.iload_n 2, 1) := dqo_28 (kb_X4_cursorNow_1 31 rfl)
theorem dX4_cursorNow_96 : decode cX4_cursorNow 96 = .ok (.iaload, 1) := dqo_46 (kb_X4_cursorNow_1 32 rfl)
theorem dX4_cursorNow_97 : decode cX4_cursorNow 97 = .ok (.ireturn, 1) := dqo_172 (kb_X4_cursorNow_1 33 rfl)
set_option maxRecDepth 100000 in
set_option maxHeartbeats 4000000 in
theorem D_cursorNow_0 {l : Launch} {D : va_G} {cy : Nat → ClassId} {X : (Nat → Prop) → State → Heap → Prop} {ba ra : Nat → Nat} {hf : Nat → Nat → Nat} {hq : Nat → Nat → Int32} {kn th : Int32} {sm : Int64} {Y : va_W} {f : Nat → Nat → Nat} {r : Nat → Nat → Int32} {k0 : Nat} (hX : EnvM X cy) (hC : CInv f) (hM : MR f r hf hq) (hk3 : k0 < 3) : Cd l D cy X yX4_cursorNow cX4_cursorNow 4 (some .int) (rmk 1 1 5 40) [.ref (ba 9), .int (nI k0), .int (nI 0)] (WM cy ba ra hf hq kn th sm ++ Y) (some (.int (cqM hf k0 0))) (WM cy ba ra hf hq kn th sm ++ Y) := by
  have hG := hM.1
  have h5M := hM.h5M hC
  have h4M := hC.h4M
  have h9a := hM.h9a hC
  have h6a := hM.h6a
  have hU := hM.hU hC
  have qu := hM.cu hC hk3
  refine Cm.of [some (.ref (ba 9)), some (.int (nI k0)), some (.int (nI 0)), none] pn_X4 rfl (Nat.le_of_ble_eq_true rfl) ?_
  intro p e s m args below meth c A C hE hr hnt hn
  refine r_aload_n C dX4_cursorNow_0 rfl ?_
  refine m_get (v := .ref (ba 5)) C 5 (by decide) qf_X4_32 rfl rfl dX4_cursorNow_1 ?_
  refine r_iload_n C dX4_cursorNow_4 rfl ?_
  refine m_zld (i := k0) (z := k0) (v := hf 9 k0) C 4 (by decide) (by decide) (show k0 < 3 from (by first | omega | (simp [up2, *]; done) | (simp [up2, *]; omega) | (simp only [up2_eq]; omega) | (split <;> omega))) (show 0 + k0 = k0 from (by omega)) rfl dX4_cursorNow_5 ?_
  refine r_ifN_ne (a := (hf 9 k0)) (tgt := 11) C (by omega) dX4_cursorNow_6 (by decide) (fun h6_1 => ?_) (fun h6_1 => ?_)
  · first
    | exfalso; first | omega | contradiction
    | skip
      refine r_iconst (v := (nI 5)) C dX4_cursorNow_11 (by decide) ?_
      refine r_newT C .int .int 1 rfl (by simp) qa_int (n := 5) (show 5 < 1000000 from Nat.lt_of_le_of_lt (show 5 ≤ 5 from (Nat.le_refl _)) (by decide)) (1) (5) (Nat.le_of_ble_eq_true rfl) (Nat.add_le_add (Nat.le_refl _) (show 5 ≤ 5 from (Nat.le_refl _))) (Nat.le_of_ble_eq_true rfl) (Nat.le_of_ble_eq_true rfl) dX4_cursorNow_12 (fun b_2 => ?_)
      refine r_w (w' := WM cy ba ra hf hq kn th sm ++ (Y ++ [(b_2, .inl (cy 1, 5, .inl (fun _ => 0)))])) (by simp only [List.append_assoc, List.cons_append, List.nil_append]) ?_
      refine r_dup C dX4_cursorNow_14 rfl ?_
      refine r_iconst (v := (nI 0)) C dX4_cursorNow_15 (by decide) ?_
      have qo := qu.2.2.2 (by omega)
      have hou := qu.2.2.1
      have h5u : f 5 (hf 6 k0) = 1 := by rw [qo.1]; exact qo.2.2.2.2.1
      have wu := hM.wh hC hou h5u
      have e6 : f 4 (hf 6 k0) = f 4 (f 6 k0) := by rw [qo.1]
      refine r_aload_n C dX4_cursorNow_16 rfl ?_
      refine m_get (v := .ref (ba 6)) C 6 (by decide) qf_X4_35 rfl rfl dX4_cursorNow_17 ?_
      refine r_iload_n C dX4_cursorNow_20 rfl ?_
      refine m_ald (i := k0) (z := k0) (v := hf 6 k0) C 5 (by decide) (by decide) (show k0 < 3 from (by first | omega | (simp [up2, *]; done) | (simp [up2, *]; omega) | (simp only [up2_eq]; omega) | (split <;> omega))) (show 0 + k0 = k0 from (by omega)) rfl dX4_cursorNow_21 ?_
      refine x_ast C (i := 0) (f := fun _ => 0) (E' := [(b_2, .inl (cy 1, 5, .inl (upd (fun _ => 0) 0 (nI (hf 6 k0)))))]) 0 rfl (by first | omega | (simp [up2, *]; done) | (simp [up2, *]; omega) | (simp only [up2_eq]; omega) | (split <;> omega)) (by first | omega | (simp [up2, *]; done) | (simp [up2, *]; omega) | (simp only [up2_eq]; omega) | (split <;> omega)) rfl dX4_cursorNow_22 ?_
      refine r_dup C dX4_cursorNow_23 rfl ?_
      refine r_iconst (v := (nI 1)) C dX4_cursorNow_24 (by decide) ?_
      refine r_aload_n C dX4_cursorNow_25 rfl ?_
      refine m_get (v := .ref (ba 7)) C 7 (by decide) qf_X4_38 rfl rfl dX4_cursorNow_26 ?_
      refine r_iload_n C dX4_cursorNow_29 rfl ?_
      refine m_ald (i := k0) (z := k0) (v := hf 7 k0) C 6 (by decide) (by decide) (show k0 < 3 from (by first | omega | (simp [up2, *]; done) | (simp [up2, *]; omega) | (simp only [up2_eq]; omega) | (split <;> omega))) (show 0 + k0 = k0 from (by omega)) rfl dX4_cursorNow_30 ?_
      refine x_ast C (i := 1) (f := upd (fun _ => 0) 0 (nI (hf 6 k0))) (E' := [(b_2, .inl (cy 1, 5, .inl (upd (upd (fun _ => 0) 0 (nI (hf 6 k0))) 1 (nI (hf 7 k0)))))]) 0 rfl (by first | omega | (simp [up2, *]; done) | (simp [up2, *]; omega) | (simp only [up2_eq]; omega) | (split <;> omega)) (by first | omega | (simp [up2, *]; done) | (simp [up2, *]; omega) | (simp only [up2_eq]; omega) | (split <;> omega)) rfl dX4_cursorNow_31 ?_
      refine r_dup C dX4_cursorNow_32 rfl ?_
      refine r_iconst (v := (nI 2)) C dX4_cursorNow_33 (by decide) ?_
      refine r_aload_n C dX4_cursorNow_34 rfl ?_
      refine m_get (v := .ref (ba 7)) C 7 (by decide) qf_X4_38 rfl rfl dX4_cursorNow_35 ?_
      refine r_iload_n C dX4_cursorNow_38 rfl ?_
      refine m_ald (i := k0) (z := k0) (v := hf 7 k0) C 6 (by decide) (by decide) (show k0 < 3 from (by first | omega | (simp [up2, *]; done) | (simp [up2, *]; omega) | (simp only [up2_eq]; omega) | (split <;> omega))) (show 0 + k0 = k0 from (by omega)) rfl dX4_cursorNow_39 ?_
      refine r_iconst (v := (nI 1)) C dX4_cursorNow_40 (by decide) ?_
      refine r_isub C dX4_cursorNow_41 ?_
      refine x_ast C (i := 2) (f := upd (upd (fun _ => 0) 0 (nI (hf 6 k0))) 1 (nI (hf 7 k0))) (E' := [(b_2, .inl (cy 1, 5, .inl (upd (upd (upd (fun _ => 0) 0 (nI (hf 6 k0))) 1 (nI (hf 7 k0))) 2 ((nI (hf 7 k0)) - (nI 1)))))]) 0 rfl (by first | omega | (simp [up2, *]; done) | (simp [up2, *]; omega) | (simp only [up2_eq]; omega) | (split <;> omega)) (by first | omega | (simp [up2, *]; done) | (simp [up2, *]; omega) | (simp only [up2_eq]; omega) | (split <;> omega)) rfl dX4_cursorNow_42 ?_
      refine r_dup C dX4_cursorNow_43 rfl ?_
      refine r_iconst (v := (nI 3)) C dX4_cursorNow_44 (by decide) ?_
      refine r_aload_n C dX4_cursorNow_45 rfl ?_
      refine m_get (v := .ref (ba 7)) C 7 (by decide) qf_X4_38 rfl rfl dX4_cursorNow_46 ?_
      refine r_iload_n C dX4_cursorNow_49 rfl ?_
      refine m_ald (i := k0) (z := k0) (v := hf 7 k0) C 6 (by decide) (by decide) (show k0 < 3 from (by first | omega | (simp [up2, *]; done) | (simp [up2, *]; omega) | (simp only [up2_eq]; omega) | (split <;> omega))) (show 0 + k0 = k0 from (by omega)) rfl dX4_cursorNow_50 ?_
      refine r_aload_n C dX4_cursorNow_51 rfl ?_
      refine r_aload_n C dX4_cursorNow_52 rfl ?_
      refine m_get (v := .ref (ba 6)) C 6 (by decide) qf_X4_35 rfl rfl dX4_cursorNow_53 ?_
      refine r_iload_n C dX4_cursorNow_56 rfl ?_
      refine m_ald (i := k0) (z := k0) (v := hf 6 k0) C 5 (by decide) (by decide) (show k0 < 3 from (by first | omega | (simp [up2, *]; done) | (simp [up2, *]; omega) | (simp only [up2_eq]; omega) | (split <;> omega))) (show 0 + k0 = k0 from (by omega)) rfl dX4_cursorNow_57 ?_
      refine d_V (st := [.int (nI (hf 7 k0)), .int (nI 3), .ref b_2, .ref b_2]) hX.1.stb C hE (D_sizeOf (ba := ba) (ra := ra) (hf := hf) (hq := hq) (kn := kn) (th := th) (sm := sm) (w := (hf 6 k0)) hX hou) pk_X4_sizeOf qm_X4_59 0 8 rfl rfl wm_0 rfl rfl (Nat.le_of_ble_eq_true rfl) dX4_cursorNow_58 ⟨(Nat.le_of_ble_eq_true rfl), (Nat.le_of_ble_eq_true rfl)⟩ ⟨(Nat.le_of_ble_eq_true rfl), (Nat.le_of_ble_eq_true rfl)⟩ ?_
      refine r_w (w' := WM cy ba ra hf hq kn th sm ++ (Y ++ [(b_2, .inl (cy 1, 5, .inl (upd (upd (upd (fun _ => 0) 0 (nI (hf 6 k0))) 1 (nI (hf 7 k0))) 2 ((nI (hf 7 k0)) - (nI 1)))))])) rfl ?_
      refine r_icN_ge (a := (hf 7 k0)) (b := (hf 4 (hf 6 k0))) (tgt := 68) C (by first | omega | (simp [up2, *]; done) | (simp [up2, *]; omega) | (simp only [up2_eq]; omega) | (split <;> omega)) (by first | omega | (simp [up2, *]; done) | (simp [up2, *]; omega) | (simp only [up2_eq]; omega) | (split <;> omega)) dX4_cursorNow_61 (by decide) (fun h61_3 => ?_) (fun h61_3 => ?_)
      · first
        | exfalso; first | omega | contradiction
        | skip
          refine r_iconst (v := (nI 0)) C dX4_cursorNow_68 (by decide) ?_
          refine d_S (st := [.int (nI 3), .ref b_2, .ref b_2]) hX.1.stb C hE (D_one (ba := ba) (ra := ra) (hf := hf) (hq := hq) (kn := kn) (th := th) (sm := sm) (b0 := 0) hX (by first | omega | (simp [up2, *]; done) | (simp [up2, *]; omega) | (simp only [up2_eq]; omega) | (split <;> omega))) pk_X4_one qm_X4_136 rfl rfl (Nat.le_of_ble_eq_true rfl) dX4_cursorNow_69 ⟨(Nat.le_of_ble_eq_true rfl), (Nat.le_of_ble_eq_true rfl)⟩ ⟨(Nat.le_of_ble_eq_true rfl), (Nat.le_of_ble_eq_true rfl)⟩ ?_
          refine r_w (w' := WM cy ba ra hf hq kn th sm ++ (Y ++ [(b_2, .inl (cy 1, 5, .inl (upd (upd (upd (fun _ => 0) 0 (nI (hf 6 k0))) 1 (nI (hf 7 k0))) 2 ((nI (hf 7 k0)) - (nI 1)))))])) rfl ?_
          refine x_ast C (i := 3) (f := upd (upd (upd (fun _ => 0) 0 (nI (hf 6 k0))) 1 (nI (hf 7 k0))) 2 ((nI (hf 7 k0)) - (nI 1))) (E' := [(b_2, .inl (cy 1, 5, .inl (upd (upd (upd (upd (fun _ => 0) 0 (nI (hf 6 k0))) 1 (nI (hf 7 k0))) 2 ((nI (hf 7 k0)) - (nI 1))) 3 (nI 0))))]) 0 rfl (by first | omega | (simp [up2, *]; done) | (simp [up2, *]; omega) | (simp only [up2_eq]; omega) | (split <;> omega)) (by first | omega | (simp [up2, *]; done) | (simp [up2, *]; omega) | (simp only [up2_eq]; omega) | (split <;> omega)) rfl dX4_cursorNow_72 ?_
          refine r_dup C dX4_cursorNow_73 rfl ?_
          refine r_iconst (v := (nI 4)) C dX4_cursorNow_74 (by decide) ?_
          refine r_aload_n C dX4_cursorNow_75 rfl ?_
          refine m_get (v := .ref (ba 7)) C 7 (by decide) qf_X4_38 rfl rfl dX4_cursorNow_76 ?_
          refine r_iload_n C dX4_cursorNow_79 rfl ?_
          refine m_ald (i := k0) (z := k0) (v := hf 7 k0) C 6 (by decide) (by decide) (show k0 < 3 from (by first | omega | (simp [up2, *]; done) | (simp [up2, *]; omega) | (simp only [up2_eq]; omega) | (split <;> omega))) (show 0 + k0 = k0 from (by omega)) rfl dX4_cursorNow_80 ?_
          refine r_ifN_le (a := (hf 7 k0)) (tgt := 88) C (by first | omega | (simp [up2, *]; done) | (simp [up2, *]; omega) | (simp only [up2_eq]; omega) | (split <;> omega)) dX4_cursorNow_81 (by decide) (fun h81_4 => ?_) (fun h81_4 => ?_)
          · first
            | exfalso; first | omega | contradiction
            | skip
              refine r_iconst (v := (nI 0)) C dX4_cursorNow_88 (by decide) ?_
              refine d_S (st := [.int (nI 4), .ref b_2, .ref b_2]) hX.1.stb C hE (D_one (ba := ba) (ra := ra) (hf := hf) (hq := hq) (kn := kn) (th := th) (sm := sm) (b0 := 0) hX (by first | omega | (simp [up2, *]; done) | (simp [up2, *]; omega) | (simp only [up2_eq]; omega) | (split <;> omega))) pk_X4_one qm_X4_136 rfl rfl (Nat.le_of_ble_eq_true rfl) dX4_cursorNow_89 ⟨(Nat.le_of_ble_eq_true rfl), (Nat.le_of_ble_eq_true rfl)⟩ ⟨(Nat.le_of_ble_eq_true rfl), (Nat.le_of_ble_eq_true rfl)⟩ ?_
              refine r_w (w' := WM cy ba ra hf hq kn th sm ++ (Y ++ [(b_2, .inl (cy 1, 5, .inl (upd (upd (upd (upd (fun _ => 0) 0 (nI (hf 6 k0))) 1 (nI (hf 7 k0))) 2 ((nI (hf 7 k0)) - (nI 1))) 3 (nI 0))))])) rfl ?_
              refine x_ast C (i := 4) (f := upd (upd (upd (upd (fun _ => 0) 0 (nI (hf 6 k0))) 1 (nI (hf 7 k0))) 2 ((nI (hf 7 k0)) - (nI 1))) 3 (nI 0)) (E' := [(b_2, .inl (cy 1, 5, .inl (upd (upd (upd (upd (upd (fun _ => 0) 0 (nI (hf 6 k0))) 1 (nI (hf 7 k0))) 2 ((nI (hf 7 k0)) - (nI 1))) 3 (nI 0)) 4 (nI 0))))]) 0 rfl (by first | omega | (simp [up2, *]; done) | (simp [up2, *]; omega) | (simp only [up2_eq]; omega) | (split <;> omega)) (by first | omega | (simp [up2, *]; done) | (simp [up2, *]; omega) | (simp only [up2_eq]; omega) | (split <;> omega)) rfl dX4_cursorNow_92 ?_
              refine r_astore_n C dX4_cursorNow_93 (by decide) rfl ?_
              refine r_aload_n C dX4_cursorNow_94 rfl ?_
              refine r_iload_n C dX4_cursorNow_95 rfl ?_
              refine x_ald C (i := 0) (f := upd (upd (upd (upd (upd (fun _ => 0) 0 (nI (hf 6 k0))) 1 (nI (hf 7 k0))) 2 ((nI (hf 7 k0)) - (nI 1))) 3 (nI 0)) 4 (nI 0)) 0 rfl (by first | omega | (simp [up2, *]; done) | (simp [up2, *]; omega) | (simp only [up2_eq]; omega) | (split <;> omega)) (by first | omega | (simp [up2, *]; done) | (simp [up2, *]; omega) | (simp only [up2_eq]; omega) | (split <;> omega)) dX4_cursorNow_96 ?_
              refine r_eqi (show (upd (upd (upd (upd (upd (fun _ => 0) 0 (nI (hf 6 k0))) 1 (nI (hf 7 k0))) 2 ((nI (hf 7 k0)) - (nI 1))) 3 (nI 0)) 4 (nI 0)) 0 = (nI (hf 6 k0)) from rfl) ?_
              refine r_pre ?_
              exact r_iret C hr dX4_cursorNow_97 ⟨by unfold cqM; rw [if_neg (by omega), if_pos rfl], rfl⟩ (Nat.le_of_ble_eq_true rfl) (Nat.le_of_ble_eq_true rfl)
          · first
            | exfalso; first | omega | contradiction
            | skip
              refine r_iconst (v := (nI 1)) C dX4_cursorNow_84 (by decide) ?_
              refine r_goto (tgt := 89) C dX4_cursorNow_85 (by decide) ?_
              refine d_S (st := [.int (nI 4), .ref b_2, .ref b_2]) hX.1.stb C hE (D_one (ba := ba) (ra := ra) (hf := hf) (hq := hq) (kn := kn) (th := th) (sm := sm) (b0 := 1) hX (by first | omega | (simp [up2, *]; done) | (simp [up2, *]; omega) | (simp only [up2_eq]; omega) | (split <;> omega))) pk_X4_one qm_X4_136 rfl rfl (Nat.le_of_ble_eq_true rfl) dX4_cursorNow_89 ⟨(Nat.le_of_ble_eq_true rfl), (Nat.le_of_ble_eq_true rfl)⟩ ⟨(Nat.le_of_ble_eq_true rfl), (Nat.le_of_ble_eq_true rfl)⟩ ?_
              refine r_w (w' := WM cy ba ra hf hq kn th sm ++ (Y ++ [(b_2, .inl (cy 1, 5, .inl (upd (upd (upd (upd (fun _ => 0) 0 (nI (hf 6 k0))) 1 (nI (hf 7 k0))) 2 ((nI (hf 7 k0)) - (nI 1))) 3 (nI 0))))])) rfl ?_
              refine x_ast C (i := 4) (f := upd (upd (upd (upd (fun _ => 0) 0 (nI (hf 6 k0))) 1 (nI (hf 7 k0))) 2 ((nI (hf 7 k0)) - (nI 1))) 3 (nI 0)) (E' := [(b_2, .inl (cy 1, 5, .inl (upd (upd (upd (upd (upd (fun _ => 0) 0 (nI (hf 6 k0))) 1 (nI (hf 7 k0))) 2 ((nI (hf 7 k0)) - (nI 1))) 3 (nI 0)) 4 (nI 1))))]) 0 rfl (by first | omega | (simp [up2, *]; done) | (simp [up2, *]; omega) | (simp only [up2_eq]; omega) | (split <;> omega)) (by first | omega | (simp [up2, *]; done) | (simp [up2, *]; omega) | (simp only [up2_eq]; omega) | (split <;> omega)) rfl dX4_cursorNow_92 ?_
              refine r_astore_n C dX4_cursorNow_93 (by decide) rfl ?_
              refine r_aload_n C dX4_cursorNow_94 rfl ?_
              refine r_iload_n C dX4_cursorNow_95 rfl ?_
              refine x_ald C (i := 0) (f := upd (upd (upd (upd (upd (fun _ => 0) 0 (nI (hf 6 k0))) 1 (nI (hf 7 k0))) 2 ((nI (hf 7 k0)) - (nI 1))) 3 (nI 0)) 4 (nI 1)) 0 rfl (by first | omega | (simp [up2, *]; done) | (simp [up2, *]; omega) | (simp only [up2_eq]; omega) | (split <;> omega)) (by first | omega | (simp [up2, *]; done) | (simp [up2, *]; omega) | (simp only [up2_eq]; omega) | (split <;> omega)) dX4_cursorNow_96 ?_
              refine r_eqi (show (upd (upd (upd (upd (upd (fun _ => 0) 0 (nI (hf 6 k0))) 1 (nI (hf 7 k0))) 2 ((nI (hf 7 k0)) - (nI 1))) 3 (nI 0)) 4 (nI 1)) 0 = (nI (hf 6 k0)) from rfl) ?_
              refine r_pre ?_
              exact r_iret C hr dX4_cursorNow_97 ⟨by unfold cqM; rw [if_neg (by omega), if_pos rfl], rfl⟩ (Nat.le_of_ble_eq_true rfl) (Nat.le_of_ble_eq_true rfl)
      · first
        | exfalso; first | omega | contradiction
        | skip
          refine r_iconst (v := (nI 1)) C dX4_cursorNow_64 (by decide) ?_
          refine r_goto (tgt := 69) C dX4_cursorNow_65 (by decide) ?_
          refine d_S (st := [.int (nI 3), .ref b_2, .ref b_2]) hX.1.stb C hE (D_one (ba := ba) (ra := ra) (hf := hf) (hq := hq) (kn := kn) (th := th) (sm := sm) (b0 := 1) hX (by first | omega | (simp [up2, *]; done) | (simp [up2, *]; omega) | (simp only [up2_eq]; omega) | (split <;> omega))) pk_X4_one qm_X4_136 rfl rfl (Nat.le_of_ble_eq_true rfl) dX4_cursorNow_69 ⟨(Nat.le_of_ble_eq_true rfl), (Nat.le_of_ble_eq_true rfl)⟩ ⟨(Nat.le_of_ble_eq_true rfl), (Nat.le_of_ble_eq_true rfl)⟩ ?_
          refine r_w (w' := WM cy ba ra hf hq kn th sm ++ (Y ++ [(b_2, .inl (cy 1, 5, .inl (upd (upd (upd (fun _ => 0) 0 (nI (hf 6 k0))) 1 (nI (hf 7 k0))) 2 ((nI (hf 7 k0)) - (nI 1)))))])) rfl ?_
          refine x_ast C (i := 3) (f := upd (upd (upd (fun _ => 0) 0 (nI (hf 6 k0))) 1 (nI (hf 7 k0))) 2 ((nI (hf 7 k0)) - (nI 1))) (E' := [(b_2, .inl (cy 1, 5, .inl (upd (upd (upd (upd (fun _ => 0) 0 (nI (hf 6 k0))) 1 (nI (hf 7 k0))) 2 ((nI (hf 7 k0)) - (nI 1))) 3 (nI 1))))]) 0 rfl (by first | omega | (simp [up2, *]; done) | (simp [up2, *]; omega) | (simp only [up2_eq]; omega) | (split <;> omega)) (by first | omega | (simp [up2, *]; done) | (simp [up2, *]; omega) | (simp only [up2_eq]; omega) | (split <;> omega)) rfl dX4_cursorNow_72 ?_
          refine r_dup C dX4_cursorNow_73 rfl ?_
          refine r_iconst (v := (nI 4)) C dX4_cursorNow_74 (by decide) ?_
          refine r_aload_n C dX4_cursorNow_75 rfl ?_
          refine m_get (v := .ref (ba 7)) C 7 (by decide) qf_X4_38 rfl rfl dX4_cursorNow_76 ?_
          refine r_iload_n C dX4_cursorNow_79 rfl ?_
          refine m_ald (i := k0) (z := k0) (v := hf 7 k0) C 6 (by decide) (by decide) (show k0 < 3 from (by first | omega | (simp [up2, *]; done) | (simp [up2, *]; omega) | (simp only [up2_eq]; omega) | (split <;> omega))) (show 0 + k0 = k0 from (by omega)) rfl dX4_cursorNow_80 ?_
          refine r_ifN_le (a := (hf 7 k0)) (tgt := 88) C (by first | omega | (simp [up2, *]; done) | (simp [up2, *]; omega) | (simp only [up2_eq]; omega) | (split <;> omega)) dX4_cursorNow_81 (by decide) (fun h81_5 => ?_) (fun h81_5 => ?_)
          · first
            | exfalso; first | omega | contradiction
            | skip
              refine r_iconst (v := (nI 0)) C dX4_cursorNow_88 (by decide) ?_
              refine d_S (st := [.int (nI 4), .ref b_2, .ref b_2]) hX.1.stb C hE (D_one (ba := ba) (ra := ra) (hf := hf) (hq := hq) (kn := kn) (th := th) (sm := sm) (b0 := 0) hX (by first | omega | (simp [up2, *]; done) | (simp [up2, *]; omega) | (simp only [up2_eq]; omega) | (split <;> omega))) pk_X4_one qm_X4_136 rfl rfl (Nat.le_of_ble_eq_true rfl) dX4_cursorNow_89 ⟨(Nat.le_of_ble_eq_true rfl), (Nat.le_of_ble_eq_true rfl)⟩ ⟨(Nat.le_of_ble_eq_true rfl), (Nat.le_of_ble_eq_true rfl)⟩ ?_
              refine r_w (w' := WM cy ba ra hf hq kn th sm ++ (Y ++ [(b_2, .inl (cy 1, 5, .inl (upd (upd (upd (upd (fun _ => 0) 0 (nI (hf 6 k0))) 1 (nI (hf 7 k0))) 2 ((nI (hf 7 k0)) - (nI 1))) 3 (nI 1))))])) rfl ?_
              refine x_ast C (i := 4) (f := upd (upd (upd (upd (fun _ => 0) 0 (nI (hf 6 k0))) 1 (nI (hf 7 k0))) 2 ((nI (hf 7 k0)) - (nI 1))) 3 (nI 1)) (E' := [(b_2, .inl (cy 1, 5, .inl (upd (upd (upd (upd (upd (fun _ => 0) 0 (nI (hf 6 k0))) 1 (nI (hf 7 k0))) 2 ((nI (hf 7 k0)) - (nI 1))) 3 (nI 1)) 4 (nI 0))))]) 0 rfl (by first | omega | (simp [up2, *]; done) | (simp [up2, *]; omega) | (simp only [up2_eq]; omega) | (split <;> omega)) (by first | omega | (simp [up2, *]; done) | (simp [up2, *]; omega) | (simp only [up2_eq]; omega) | (split <;> omega)) rfl dX4_cursorNow_92 ?_
              refine r_astore_n C dX4_cursorNow_93 (by decide) rfl ?_
              refine r_aload_n C dX4_cursorNow_94 rfl ?_
              refine r_iload_n C dX4_cursorNow_95 rfl ?_
              refine x_ald C (i := 0) (f := upd (upd (upd (upd (upd (fun _ => 0) 0 (nI (hf 6 k0))) 1 (nI (hf 7 k0))) 2 ((nI (hf 7 k0)) - (nI 1))) 3 (nI 1)) 4 (nI 0)) 0 rfl (by first | omega | (simp [up2, *]; done) | (simp [up2, *]; omega) | (simp only [up2_eq]; omega) | (split <;> omega)) (by first | omega | (simp [up2, *]; done) | (simp [up2, *]; omega) | (simp only [up2_eq]; omega) | (split <;> omega)) dX4_cursorNow_96 ?_
              refine r_eqi (show (upd (upd (upd (upd (upd (fun _ => 0) 0 (nI (hf 6 k0))) 1 (nI (hf 7 k0))) 2 ((nI (hf 7 k0)) - (nI 1))) 3 (nI 1)) 4 (nI 0)) 0 = (nI (hf 6 k0)) from rfl) ?_
              refine r_pre ?_
              exact r_iret C hr dX4_cursorNow_97 ⟨by unfold cqM; rw [if_neg (by omega), if_pos rfl], rfl⟩ (Nat.le_of_ble_eq_true rfl) (Nat.le_of_ble_eq_true rfl)
          · first
            | exfalso; first | omega | contradiction
            | skip
              refine r_iconst (v := (nI 1)) C dX4_cursorNow_84 (by decide) ?_
              refine r_goto (tgt := 89) C dX4_cursorNow_85 (by decide) ?_
              refine d_S (st := [.int (nI 4), .ref b_2, .ref b_2]) hX.1.stb C hE (D_one (ba := ba) (ra := ra) (hf := hf) (hq := hq) (kn := kn) (th := th) (sm := sm) (b0 := 1) hX (by first | omega | (simp [up2, *]; done) | (simp [up2, *]; omega) | (simp only [up2_eq]; omega) | (split <;> omega))) pk_X4_one qm_X4_136 rfl rfl (Nat.le_of_ble_eq_true rfl) dX4_cursorNow_89 ⟨(Nat.le_of_ble_eq_true rfl), (Nat.le_of_ble_eq_true rfl)⟩ ⟨(Nat.le_of_ble_eq_true rfl), (Nat.le_of_ble_eq_true rfl)⟩ ?_
              refine r_w (w' := WM cy ba ra hf hq kn th sm ++ (Y ++ [(b_2, .inl (cy 1, 5, .inl (upd (upd (upd (upd (fun _ => 0) 0 (nI (hf 6 k0))) 1 (nI (hf 7 k0))) 2 ((nI (hf 7 k0)) - (nI 1))) 3 (nI 1))))])) rfl ?_
              refine x_ast C (i := 4) (f := upd (upd (upd (upd (fun _ => 0) 0 (nI (hf 6 k0))) 1 (nI (hf 7 k0))) 2 ((nI (hf 7 k0)) - (nI 1))) 3 (nI 1)) (E' := [(b_2, .inl (cy 1, 5, .inl (upd (upd (upd (upd (upd (fun _ => 0) 0 (nI (hf 6 k0))) 1 (nI (hf 7 k0))) 2 ((nI (hf 7 k0)) - (nI 1))) 3 (nI 1)) 4 (nI 1))))]) 0 rfl (by first | omega | (simp [up2, *]; done) | (simp [up2, *]; omega) | (simp only [up2_eq]; omega) | (split <;> omega)) (by first | omega | (simp [up2, *]; done) | (simp [up2, *]; omega) | (simp only [up2_eq]; omega) | (split <;> omega)) rfl dX4_cursorNow_92 ?_
              refine r_astore_n C dX4_cursorNow_93 (by decide) rfl ?_
              refine r_aload_n C dX4_cursorNow_94 rfl ?_
              refine r_iload_n C dX4_cursorNow_95 rfl ?_
              refine x_ald C (i := 0) (f := upd (upd (upd (upd (upd (fun _ => 0) 0 (nI (hf 6 k0))) 1 (nI (hf 7 k0))) 2 ((nI (hf 7 k0)) - (nI 1))) 3 (nI 1)) 4 (nI 1)) 0 rfl (by first | omega | (simp [up2, *]; done) | (simp [up2, *]; omega) | (simp only [up2_eq]; omega) | (split <;> omega)) (by first | omega | (simp [up2, *]; done) | (simp [up2, *]; omega) | (simp only [up2_eq]; omega) | (split <;> omega)) dX4_cursorNow_96 ?_
              refine r_eqi (show (upd (upd (upd (upd (upd (fun _ => 0) 0 (nI (hf 6 k0))) 1 (nI (hf 7 k0))) 2 ((nI (hf 7 k0)) - (nI 1))) 3 (nI 1)) 4 (nI 1)) 0 = (nI (hf 6 k0)) from rfl) ?_
              refine r_pre ?_
              exact r_iret C hr dX4_cursorNow_97 ⟨by unfold cqM; rw [if_neg (by omega), if_pos rfl], rfl⟩ (Nat.le_of_ble_eq_true rfl) (Nat.le_of_ble_eq_true rfl)
  · first
    | exfalso; first | omega | contradiction
    | skip
      refine r_iconst (v := (nI 4294967295)) C dX4_cursorNow_9 (by decide) ?_
      exact r_iret C hr dX4_cursorNow_10 ⟨by unfold cqM; rw [if_pos (by omega)], rfl⟩ (Nat.le_of_ble_eq_true rfl) (Nat.le_of_ble_eq_true rfl)
set_option maxRecDepth 100000 in
set_option maxHeartbeats 4000000 in
theorem D_cursorNow_1 {l : Launch} {D : va_G} {cy : Nat → ClassId} {X : (Nat → Prop) → State → Heap → Prop} {ba ra : Nat → Nat} {hf : Nat → Nat → Nat} {hq : Nat → Nat → Int32} {kn th : Int32} {sm : Int64} {Y : va_W} {f : Nat → Nat → Nat} {r : Nat → Nat → Int32} {k0 : Nat} (hX : EnvM X cy) (hC : CInv f) (hM : MR f r hf hq) (hk3 : k0 < 3) : Cd l D cy X yX4_cursorNow cX4_cursorNow 4 (some .int) (rmk 1 1 5 40) [.ref (ba 9), .int (nI k0), .int (nI 1)] (WM cy ba ra hf hq kn th sm ++ Y) (some (.int (cqM hf k0 1))) (WM cy ba ra hf hq kn th sm ++ Y) := by
  have hG := hM.1
  have h5M := hM.h5M hC
  have h4M := hC.h4M
  have h9a := hM.h9a hC
  have h6a := hM.h6a
  have hU := hM.hU hC
  have qu := hM.cu hC hk3
  refine Cm.of [some (.ref (ba 9)), some (.int (nI k0)), some (.int (nI 1)), none] pn_X4 rfl (Nat.le_of_ble_eq_true rfl) ?_
  intro p e s m args below meth c A C hE hr hnt hn
  refine r_aload_n C dX4_cursorNow_0 rfl ?_
  refine m_get (v := .ref (ba 5)) C 5 (by decide) qf_X4_32 rfl rfl dX4_cursorNow_1 ?_
  refine r_iload_n C dX4_cursorNow_4 rfl ?_
  refine m_zld (i := k0) (z := k0) (v := hf 9 k0) C 4 (by decide) (by decide) (show k0 < 3 from (by first | omega | (simp [up2, *]; done) | (simp [up2, *]; omega) | (simp only [up2_eq]; omega) | (split <;> omega))) (show 0 + k0 = k0 from (by omega)) rfl dX4_cursorNow_5 ?_
  refine r_ifN_ne (a := (hf 9 k0)) (tgt := 11) C (by omega) dX4_cursorNow_6 (by decide) (fun h6_1 => ?_) (fun h6_1 => ?_)
  · first
    | exfalso; first | omega | contradiction
    | skip
      refine r_iconst (v := (nI 5)) C dX4_cursorNow_11 (by decide) ?_
      refine r_newT C .int .int 1 rfl (by simp) qa_int (n := 5) (show 5 < 1000000 from Nat.lt_of_le_of_lt (show 5 ≤ 5 from (Nat.le_refl _)) (by decide)) (1) (5) (Nat.le_of_ble_eq_true rfl) (Nat.add_le_add (Nat.le_refl _) (show 5 ≤ 5 from (Nat.le_refl _))) (Nat.le_of_ble_eq_true rfl) (Nat.le_of_ble_eq_true rfl) dX4_cursorNow_12 (fun b_2 => ?_)
      refine r_w (w' := WM cy ba ra hf hq kn th sm ++ (Y ++ [(b_2, .inl (cy 1, 5, .inl (fun _ => 0)))])) (by simp only [List.append_assoc, List.cons_append, List.nil_append]) ?_
      refine r_dup C dX4_cursorNow_14 rfl ?_
      refine r_iconst (v := (nI 0)) C dX4_cursorNow_15 (by decide) ?_
      have qo := qu.2.2.2 (by omega)
      have hou := qu.2.2.1
      have h5u : f 5 (hf 6 k0) = 1 := by rw [qo.1]; exact qo.2.2.2.2.1
      have wu := hM.wh hC hou h5u
      have e6 : f 4 (hf 6 k0) = f 4 (f 6 k0) := by rw [qo.1]
      refine r_aload_n C dX4_cursorNow_16 rfl ?_
      refine m_get (v := .ref (ba 6)) C 6 (by decide) qf_X4_35 rfl rfl dX4_cursorNow_17 ?_
      refine r_iload_n C dX4_cursorNow_20 rfl ?_
      refine m_ald (i := k0) (z := k0) (v := hf 6 k0) C 5 (by decide) (by decide) (show k0 < 3 from (by first | omega | (simp [up2, *]; done) | (simp [up2, *]; omega) | (simp only [up2_eq]; omega) | (split <;> omega))) (show 0 + k0 = k0 from (by omega)) rfl dX4_cursorNow_21 ?_
      refine x_ast C (i := 0) (f := fun _ => 0) (E' := [(b_2, .inl (cy 1, 5, .inl (upd (fun _ => 0) 0 (nI (hf 6 k0)))))]) 0 rfl (by first | omega | (simp [up2, *]; done) | (simp [up2, *]; omega) | (simp only [up2_eq]; omega) | (split <;> omega)) (by first | omega | (simp [up2, *]; done) | (simp [up2, *]; omega) | (simp only [up2_eq]; omega) | (split <;> omega)) rfl dX4_cursorNow_22 ?_
      refine r_dup C dX4_cursorNow_23 rfl ?_
      refine r_iconst (v := (nI 1)) C dX4_cursorNow_24 (by decide) ?_
      refine r_aload_n C dX4_cursorNow_25 rfl ?_
      refine m_get (v := .ref (ba 7)) C 7 (by decide) qf_X4_38 rfl rfl dX4_cursorNow_26 ?_
      refine r_iload_n C dX4_cursorNow_29 rfl ?_
      refine m_ald (i := k0) (z := k0) (v := hf 7 k0) C 6 (by decide) (by decide) (show k0 < 3 from (by first | omega | (simp [up2, *]; done) | (simp [up2, *]; omega) | (simp only [up2_eq]; omega) | (split <;> omega))) (show 0 + k0 = k0 from (by omega)) rfl dX4_cursorNow_30 ?_
      refine x_ast C (i := 1) (f := upd (fun _ => 0) 0 (nI (hf 6 k0))) (E' := [(b_2, .inl (cy 1, 5, .inl (upd (upd (fun _ => 0) 0 (nI (hf 6 k0))) 1 (nI (hf 7 k0)))))]) 0 rfl (by first | omega | (simp [up2, *]; done) | (simp [up2, *]; omega) | (simp only [up2_eq]; omega) | (split <;> omega)) (by first | omega | (simp [up2, *]; done) | (simp [up2, *]; omega) | (simp only [up2_eq]; omega) | (split <;> omega)) rfl dX4_cursorNow_31 ?_
      refine r_dup C dX4_cursorNow_32 rfl ?_
      refine r_iconst (v := (nI 2)) C dX4_cursorNow_33 (by decide) ?_
      refine r_aload_n C dX4_cursorNow_34 rfl ?_
      refine m_get (v := .ref (ba 7)) C 7 (by decide) qf_X4_38 rfl rfl dX4_cursorNow_35 ?_
      refine r_iload_n C dX4_cursorNow_38 rfl ?_
      refine m_ald (i := k0) (z := k0) (v := hf 7 k0) C 6 (by decide) (by decide) (show k0 < 3 from (by first | omega | (simp [up2, *]; done) | (simp [up2, *]; omega) | (simp only [up2_eq]; omega) | (split <;> omega))) (show 0 + k0 = k0 from (by omega)) rfl dX4_cursorNow_39 ?_
      refine r_iconst (v := (nI 1)) C dX4_cursorNow_40 (by decide) ?_
      refine r_isub C dX4_cursorNow_41 ?_
      refine x_ast C (i := 2) (f := upd (upd (fun _ => 0) 0 (nI (hf 6 k0))) 1 (nI (hf 7 k0))) (E' := [(b_2, .inl (cy 1, 5, .inl (upd (upd (upd (fun _ => 0) 0 (nI (hf 6 k0))) 1 (nI (hf 7 k0))) 2 ((nI (hf 7 k0)) - (nI 1)))))]) 0 rfl (by first | omega | (simp [up2, *]; done) | (simp [up2, *]; omega) | (simp only [up2_eq]; omega) | (split <;> omega)) (by first | omega | (simp [up2, *]; done) | (simp [up2, *]; omega) | (simp only [up2_eq]; omega) | (split <;> omega)) rfl dX4_cursorNow_42 ?_
      refine r_dup C dX4_cursorNow_43 rfl ?_
      refine r_iconst (v := (nI 3)) C dX4_cursorNow_44 (by decide) ?_
      refine r_aload_n C dX4_cursorNow_45 rfl ?_
      refine m_get (v := .ref (ba 7)) C 7 (by decide) qf_X4_38 rfl rfl dX4_cursorNow_46 ?_
      refine r_iload_n C dX4_cursorNow_49 rfl ?_
      refine m_ald (i := k0) (z := k0) (v := hf 7 k0) C 6 (by decide) (by decide) (show k0 < 3 from (by first | omega | (simp [up2, *]; done) | (simp [up2, *]; omega) | (simp only [up2_eq]; omega) | (split <;> omega))) (show 0 + k0 = k0 from (by omega)) rfl dX4_cursorNow_50 ?_
      refine r_aload_n C dX4_cursorNow_51 rfl ?_
      refine r_aload_n C dX4_cursorNow_52 rfl ?_
      refine m_get (v := .ref (ba 6)) C 6 (by decide) qf_X4_35 rfl rfl dX4_cursorNow_53 ?_
      refine r_iload_n C dX4_cursorNow_56 rfl ?_
      refine m_ald (i := k0) (z := k0) (v := hf 6 k0) C 5 (by decide) (by decide) (show k0 < 3 from (by first | omega | (simp [up2, *]; done) | (simp [up2, *]; omega) | (simp only [up2_eq]; omega) | (split <;> omega))) (show 0 + k0 = k0 from (by omega)) rfl dX4_cursorNow_57 ?_
      refine d_V (st := [.int (nI (hf 7 k0)), .int (nI 3), .ref b_2, .ref b_2]) hX.1.stb C hE (D_sizeOf (ba := ba) (ra := ra) (hf := hf) (hq := hq) (kn := kn) (th := th) (sm := sm) (w := (hf 6 k0)) hX hou) pk_X4_sizeOf qm_X4_59 0 8 rfl rfl wm_0 rfl rfl (Nat.le_of_ble_eq_true rfl) dX4_cursorNow_58 ⟨(Nat.le_of_ble_eq_true rfl), (Nat.le_of_ble_eq_true rfl)⟩ ⟨(Nat.le_of_ble_eq_true rfl), (Nat.le_of_ble_eq_true rfl)⟩ ?_
      refine r_w (w' := WM cy ba ra hf hq kn th sm ++ (Y ++ [(b_2, .inl (cy 1, 5, .inl (upd (upd (upd (fun _ => 0) 0 (nI (hf 6 k0))) 1 (nI (hf 7 k0))) 2 ((nI (hf 7 k0)) - (nI 1)))))])) rfl ?_
      refine r_icN_ge (a := (hf 7 k0)) (b := (hf 4 (hf 6 k0))) (tgt := 68) C (by first | omega | (simp [up2, *]; done) | (simp [up2, *]; omega) | (simp only [up2_eq]; omega) | (split <;> omega)) (by first | omega | (simp [up2, *]; done) | (simp [up2, *]; omega) | (simp only [up2_eq]; omega) | (split <;> omega)) dX4_cursorNow_61 (by decide) (fun h61_3 => ?_) (fun h61_3 => ?_)
      · first
        | exfalso; first | omega | contradiction
        | skip
          refine r_iconst (v := (nI 0)) C dX4_cursorNow_68 (by decide) ?_
          refine d_S (st := [.int (nI 3), .ref b_2, .ref b_2]) hX.1.stb C hE (D_one (ba := ba) (ra := ra) (hf := hf) (hq := hq) (kn := kn) (th := th) (sm := sm) (b0 := 0) hX (by first | omega | (simp [up2, *]; done) | (simp [up2, *]; omega) | (simp only [up2_eq]; omega) | (split <;> omega))) pk_X4_one qm_X4_136 rfl rfl (Nat.le_of_ble_eq_true rfl) dX4_cursorNow_69 ⟨(Nat.le_of_ble_eq_true rfl), (Nat.le_of_ble_eq_true rfl)⟩ ⟨(Nat.le_of_ble_eq_true rfl), (Nat.le_of_ble_eq_true rfl)⟩ ?_
          refine r_w (w' := WM cy ba ra hf hq kn th sm ++ (Y ++ [(b_2, .inl (cy 1, 5, .inl (upd (upd (upd (fun _ => 0) 0 (nI (hf 6 k0))) 1 (nI (hf 7 k0))) 2 ((nI (hf 7 k0)) - (nI 1)))))])) rfl ?_
          refine x_ast C (i := 3) (f := upd (upd (upd (fun _ => 0) 0 (nI (hf 6 k0))) 1 (nI (hf 7 k0))) 2 ((nI (hf 7 k0)) - (nI 1))) (E' := [(b_2, .inl (cy 1, 5, .inl (upd (upd (upd (upd (fun _ => 0) 0 (nI (hf 6 k0))) 1 (nI (hf 7 k0))) 2 ((nI (hf 7 k0)) - (nI 1))) 3 (nI 0))))]) 0 rfl (by first | omega | (simp [up2, *]; done) | (simp [up2, *]; omega) | (simp only [up2_eq]; omega) | (split <;> omega)) (by first | omega | (simp [up2, *]; done) | (simp [up2, *]; omega) | (simp only [up2_eq]; omega) | (split <;> omega)) rfl dX4_cursorNow_72 ?_
          refine r_dup C dX4_cursorNow_73 rfl ?_
          refine r_iconst (v := (nI 4)) C dX4_cursorNow_74 (by decide) ?_
          refine r_aload_n C dX4_cursorNow_75 rfl ?_
          refine m_get (v := .ref (ba 7)) C 7 (by decide) qf_X4_38 rfl rfl dX4_cursorNow_76 ?_
          refine r_iload_n C dX4_cursorNow_79 rfl ?_
          refine m_ald (i := k0) (z := k0) (v := hf 7 k0) C 6 (by decide) (by decide) (show k0 < 3 from (by first | omega | (simp [up2, *]; done) | (simp [up2, *]; omega) | (simp only [up2_eq]; omega) | (split <;> omega))) (show 0 + k0 = k0 from (by omega)) rfl dX4_cursorNow_80 ?_
          refine r_ifN_le (a := (hf 7 k0)) (tgt := 88) C (by first | omega | (simp [up2, *]; done) | (simp [up2, *]; omega) | (simp only [up2_eq]; omega) | (split <;> omega)) dX4_cursorNow_81 (by decide) (fun h81_4 => ?_) (fun h81_4 => ?_)
          · first
            | exfalso; first | omega | contradiction
            | skip
              refine r_iconst (v := (nI 0)) C dX4_cursorNow_88 (by decide) ?_
              refine d_S (st := [.int (nI 4), .ref b_2, .ref b_2]) hX.1.stb C hE (D_one (ba := ba) (ra := ra) (hf := hf) (hq := hq) (kn := kn) (th := th) (sm := sm) (b0 := 0) hX (by first | omega | (simp [up2, *]; done) | (simp [up2, *]; omega) | (simp only [up2_eq]; omega) | (split <;> omega))) pk_X4_one qm_X4_136 rfl rfl (Nat.le_of_ble_eq_true rfl) dX4_cursorNow_89 ⟨(Nat.le_of_ble_eq_true rfl), (Nat.le_of_ble_eq_true rfl)⟩ ⟨(Nat.le_of_ble_eq_true rfl), (Nat.le_of_ble_eq_true rfl)⟩ ?_
              refine r_w (w' := WM cy ba ra hf hq kn th sm ++ (Y ++ [(b_2, .inl (cy 1, 5, .inl (upd (upd (upd (upd (fun _ => 0) 0 (nI (hf 6 k0))) 1 (nI (hf 7 k0))) 2 ((nI (hf 7 k0)) - (nI 1))) 3 (nI 0))))])) rfl ?_
              refine x_ast C (i := 4) (f := upd (upd (upd (upd (fun _ => 0) 0 (nI (hf 6 k0))) 1 (nI (hf 7 k0))) 2 ((nI (hf 7 k0)) - (nI 1))) 3 (nI 0)) (E' := [(b_2, .inl (cy 1, 5, .inl (upd (upd (upd (upd (upd (fun _ => 0) 0 (nI (hf 6 k0))) 1 (nI (hf 7 k0))) 2 ((nI (hf 7 k0)) - (nI 1))) 3 (nI 0)) 4 (nI 0))))]) 0 rfl (by first | omega | (simp [up2, *]; done) | (simp [up2, *]; omega) | (simp only [up2_eq]; omega) | (split <;> omega)) (by first | omega | (simp [up2, *]; done) | (simp [up2, *]; omega) | (simp only [up2_eq]; omega) | (split <;> omega)) rfl dX4_cursorNow_92 ?_
              refine r_astore_n C dX4_cursorNow_93 (by decide) rfl ?_
              refine r_aload_n C dX4_cursorNow_94 rfl ?_
              refine r_iload_n C dX4_cursorNow_95 rfl ?_
              refine x_ald C (i := 1) (f := upd (upd (upd (upd (upd (fun _ => 0) 0 (nI (hf 6 k0))) 1 (nI (hf 7 k0))) 2 ((nI (hf 7 k0)) - (nI 1))) 3 (nI 0)) 4 (nI 0)) 0 rfl (by first | omega | (simp [up2, *]; done) | (simp [up2, *]; omega) | (simp only [up2_eq]; omega) | (split <;> omega)) (by first | omega | (simp [up2, *]; done) | (simp [up2, *]; omega) | (simp only [up2_eq]; omega) | (split <;> omega)) dX4_cursorNow_96 ?_
              refine r_eqi (show (upd (upd (upd (upd (upd (fun _ => 0) 0 (nI (hf 6 k0))) 1 (nI (hf 7 k0))) 2 ((nI (hf 7 k0)) - (nI 1))) 3 (nI 0)) 4 (nI 0)) 1 = (nI (hf 7 k0)) from rfl) ?_
              refine r_pre ?_
              exact r_iret C hr dX4_cursorNow_97 ⟨by unfold cqM; rw [if_neg (by omega), if_neg (by decide), if_pos rfl], rfl⟩ (Nat.le_of_ble_eq_true rfl) (Nat.le_of_ble_eq_true rfl)
          · first
            | exfalso; first | omega | contradiction
            | skip
              refine r_iconst (v := (nI 1)) C dX4_cursorNow_84 (by decide) ?_
              refine r_goto (tgt := 89) C dX4_cursorNow_85 (by decide) ?_
              refine d_S (st := [.int (nI 4), .ref b_2, .ref b_2]) hX.1.stb C hE (D_one (ba := ba) (ra := ra) (hf := hf) (hq := hq) (kn := kn) (th := th) (sm := sm) (b0 := 1) hX (by first | omega | (simp [up2, *]; done) | (simp [up2, *]; omega) | (simp only [up2_eq]; omega) | (split <;> omega))) pk_X4_one qm_X4_136 rfl rfl (Nat.le_of_ble_eq_true rfl) dX4_cursorNow_89 ⟨(Nat.le_of_ble_eq_true rfl), (Nat.le_of_ble_eq_true rfl)⟩ ⟨(Nat.le_of_ble_eq_true rfl), (Nat.le_of_ble_eq_true rfl)⟩ ?_
              refine r_w (w' := WM cy ba ra hf hq kn th sm ++ (Y ++ [(b_2, .inl (cy 1, 5, .inl (upd (upd (upd (upd (fun _ => 0) 0 (nI (hf 6 k0))) 1 (nI (hf 7 k0))) 2 ((nI (hf 7 k0)) - (nI 1))) 3 (nI 0))))])) rfl ?_
              refine x_ast C (i := 4) (f := upd (upd (upd (upd (fun _ => 0) 0 (nI (hf 6 k0))) 1 (nI (hf 7 k0))) 2 ((nI (hf 7 k0)) - (nI 1))) 3 (nI 0)) (E' := [(b_2, .inl (cy 1, 5, .inl (upd (upd (upd (upd (upd (fun _ => 0) 0 (nI (hf 6 k0))) 1 (nI (hf 7 k0))) 2 ((nI (hf 7 k0)) - (nI 1))) 3 (nI 0)) 4 (nI 1))))]) 0 rfl (by first | omega | (simp [up2, *]; done) | (simp [up2, *]; omega) | (simp only [up2_eq]; omega) | (split <;> omega)) (by first | omega | (simp [up2, *]; done) | (simp [up2, *]; omega) | (simp only [up2_eq]; omega) | (split <;> omega)) rfl dX4_cursorNow_92 ?_
              refine r_astore_n C dX4_cursorNow_93 (by decide) rfl ?_
              refine r_aload_n C dX4_cursorNow_94 rfl ?_
              refine r_iload_n C dX4_cursorNow_95 rfl ?_
              refine x_ald C (i := 1) (f := upd (upd (upd (upd (upd (fun _ => 0) 0 (nI (hf 6 k0))) 1 (nI (hf 7 k0))) 2 ((nI (hf 7 k0)) - (nI 1))) 3 (nI 0)) 4 (nI 1)) 0 rfl (by first | omega | (simp [up2, *]; done) | (simp [up2, *]; omega) | (simp only [up2_eq]; omega) | (split <;> omega)) (by first | omega | (simp [up2, *]; done) | (simp [up2, *]; omega) | (simp only [up2_eq]; omega) | (split <;> omega)) dX4_cursorNow_96 ?_
              refine r_eqi (show (upd (upd (upd (upd (upd (fun _ => 0) 0 (nI (hf 6 k0))) 1 (nI (hf 7 k0))) 2 ((nI (hf 7 k0)) - (nI 1))) 3 (nI 0)) 4 (nI 1)) 1 = (nI (hf 7 k0)) from rfl) ?_
              refine r_pre ?_
              exact r_iret C hr dX4_cursorNow_97 ⟨by unfold cqM; rw [if_neg (by omega), if_neg (by decide), if_pos rfl], rfl⟩ (Nat.le_of_ble_eq_true rfl) (Nat.le_of_ble_eq_true rfl)
      · first
        | exfalso; first | omega | contradiction
        | skip
          refine r_iconst (v := (nI 1)) C dX4_cursorNow_64 (by decide) ?_
          refine r_goto (tgt := 69) C dX4_cursorNow_65 (by decide) ?_
          refine d_S (st := [.int (nI 3), .ref b_2, .ref b_2]) hX.1.stb C hE (D_one (ba := ba) (ra := ra) (hf := hf) (hq := hq) (kn := kn) (th := th) (sm := sm) (b0 := 1) hX (by first | omega | (simp [up2, *]; done) | (simp [up2, *]; omega) | (simp only [up2_eq]; omega) | (split <;> omega))) pk_X4_one qm_X4_136 rfl rfl (Nat.le_of_ble_eq_true rfl) dX4_cursorNow_69 ⟨(Nat.le_of_ble_eq_true rfl), (Nat.le_of_ble_eq_true rfl)⟩ ⟨(Nat.le_of_ble_eq_true rfl), (Nat.le_of_ble_eq_true rfl)⟩ ?_
          refine r_w (w' := WM cy ba ra hf hq kn th sm ++ (Y ++ [(b_2, .inl (cy 1, 5, .inl (upd (upd (upd (fun _ => 0) 0 (nI (hf 6 k0))) 1 (nI (hf 7 k0))) 2 ((nI (hf 7 k0)) - (nI 1)))))])) rfl ?_
          refine x_ast C (i := 3) (f := upd (upd (upd (fun _ => 0) 0 (nI (hf 6 k0))) 1 (nI (hf 7 k0))) 2 ((nI (hf 7 k0)) - (nI 1))) (E' := [(b_2, .inl (cy 1, 5, .inl (upd (upd (upd (upd (fun _ => 0) 0 (nI (hf 6 k0))) 1 (nI (hf 7 k0))) 2 ((nI (hf 7 k0)) - (nI 1))) 3 (nI 1))))]) 0 rfl (by first | omega | (simp [up2, *]; done) | (simp [up2, *]; omega) | (simp only [up2_eq]; omega) | (split <;> omega)) (by first | omega | (simp [up2, *]; done) | (simp [up2, *]; omega) | (simp only [up2_eq]; omega) | (split <;> omega)) rfl dX4_cursorNow_72 ?_
          refine r_dup C dX4_cursorNow_73 rfl ?_
          refine r_iconst (v := (nI 4)) C dX4_cursorNow_74 (by decide) ?_
          refine r_aload_n C dX4_cursorNow_75 rfl ?_
          refine m_get (v := .ref (ba 7)) C 7 (by decide) qf_X4_38 rfl rfl dX4_cursorNow_76 ?_
          refine r_iload_n C dX4_cursorNow_79 rfl ?_
          refine m_ald (i := k0) (z := k0) (v := hf 7 k0) C 6 (by decide) (by decide) (show k0 < 3 from (by first | omega | (simp [up2, *]; done) | (simp [up2, *]; omega) | (simp only [up2_eq]; omega) | (split <;> omega))) (show 0 + k0 = k0 from (by omega)) rfl dX4_cursorNow_80 ?_
          refine r_ifN_le (a := (hf 7 k0)) (tgt := 88) C (by first | omega | (simp [up2, *]; done) | (simp [up2, *]; omega) | (simp only [up2_eq]; omega) | (split <;> omega)) dX4_cursorNow_81 (by decide) (fun h81_5 => ?_) (fun h81_5 => ?_)
          · first
            | exfalso; first | omega | contradiction
            | skip
              refine r_iconst (v := (nI 0)) C dX4_cursorNow_88 (by decide) ?_
              refine d_S (st := [.int (nI 4), .ref b_2, .ref b_2]) hX.1.stb C hE (D_one (ba := ba) (ra := ra) (hf := hf) (hq := hq) (kn := kn) (th := th) (sm := sm) (b0 := 0) hX (by first | omega | (simp [up2, *]; done) | (simp [up2, *]; omega) | (simp only [up2_eq]; omega) | (split <;> omega))) pk_X4_one qm_X4_136 rfl rfl (Nat.le_of_ble_eq_true rfl) dX4_cursorNow_89 ⟨(Nat.le_of_ble_eq_true rfl), (Nat.le_of_ble_eq_true rfl)⟩ ⟨(Nat.le_of_ble_eq_true rfl), (Nat.le_of_ble_eq_true rfl)⟩ ?_
              refine r_w (w' := WM cy ba ra hf hq kn th sm ++ (Y ++ [(b_2, .inl (cy 1, 5, .inl (upd (upd (upd (upd (fun _ => 0) 0 (nI (hf 6 k0))) 1 (nI (hf 7 k0))) 2 ((nI (hf 7 k0)) - (nI 1))) 3 (nI 1))))])) rfl ?_
              refine x_ast C (i := 4) (f := upd (upd (upd (upd (fun _ => 0) 0 (nI (hf 6 k0))) 1 (nI (hf 7 k0))) 2 ((nI (hf 7 k0)) - (nI 1))) 3 (nI 1)) (E' := [(b_2, .inl (cy 1, 5, .inl (upd (upd (upd (upd (upd (fun _ => 0) 0 (nI (hf 6 k0))) 1 (nI (hf 7 k0))) 2 ((nI (hf 7 k0)) - (nI 1))) 3 (nI 1)) 4 (nI 0))))]) 0 rfl (by first | omega | (simp [up2, *]; done) | (simp [up2, *]; omega) | (simp only [up2_eq]; omega) | (split <;> omega)) (by first | omega | (simp [up2, *]; done) | (simp [up2, *]; omega) | (simp only [up2_eq]; omega) | (split <;> omega)) rfl dX4_cursorNow_92 ?_
              refine r_astore_n C dX4_cursorNow_93 (by decide) rfl ?_
              refine r_aload_n C dX4_cursorNow_94 rfl ?_
              refine r_iload_n C dX4_cursorNow_95 rfl ?_
              refine x_ald C (i := 1) (f := upd (upd (upd (upd (upd (fun _ => 0) 0 (nI (hf 6 k0))) 1 (nI (hf 7 k0))) 2 ((nI (hf 7 k0)) - (nI 1))) 3 (nI 1)) 4 (nI 0)) 0 rfl (by first | omega | (simp [up2, *]; done) | (simp [up2, *]; omega) | (simp only [up2_eq]; omega) | (split <;> omega)) (by first | omega | (simp [up2, *]; done) | (simp [up2, *]; omega) | (simp only [up2_eq]; omega) | (split <;> omega)) dX4_cursorNow_96 ?_
              refine r_eqi (show (upd (upd (upd (upd (upd (fun _ => 0) 0 (nI (hf 6 k0))) 1 (nI (hf 7 k0))) 2 ((nI (hf 7 k0)) - (nI 1))) 3 (nI 1)) 4 (nI 0)) 1 = (nI (hf 7 k0)) from rfl) ?_
              refine r_pre ?_
              exact r_iret C hr dX4_cursorNow_97 ⟨by unfold cqM; rw [if_neg (by omega), if_neg (by decide), if_pos rfl], rfl⟩ (Nat.le_of_ble_eq_true rfl) (Nat.le_of_ble_eq_true rfl)
          · first
            | exfalso; first | omega | contradiction
            | skip
              refine r_iconst (v := (nI 1)) C dX4_cursorNow_84 (by decide) ?_
              refine r_goto (tgt := 89) C dX4_cursorNow_85 (by decide) ?_
              refine d_S (st := [.int (nI 4), .ref b_2, .ref b_2]) hX.1.stb C hE (D_one (ba := ba) (ra := ra) (hf := hf) (hq := hq) (kn := kn) (th := th) (sm := sm) (b0 := 1) hX (by first | omega | (simp [up2, *]; done) | (simp [up2, *]; omega) | (simp only [up2_eq]; omega) | (split <;> omega))) pk_X4_one qm_X4_136 rfl rfl (Nat.le_of_ble_eq_true rfl) dX4_cursorNow_89 ⟨(Nat.le_of_ble_eq_true rfl), (Nat.le_of_ble_eq_true rfl)⟩ ⟨(Nat.le_of_ble_eq_true rfl), (Nat.le_of_ble_eq_true rfl)⟩ ?_
              refine r_w (w' := WM cy ba ra hf hq kn th sm ++ (Y ++ [(b_2, .inl (cy 1, 5, .inl (upd (upd (upd (upd (fun _ => 0) 0 (nI (hf 6 k0))) 1 (nI (hf 7 k0))) 2 ((nI (hf 7 k0)) - (nI 1))) 3 (nI 1))))])) rfl ?_
              refine x_ast C (i := 4) (f := upd (upd (upd (upd (fun _ => 0) 0 (nI (hf 6 k0))) 1 (nI (hf 7 k0))) 2 ((nI (hf 7 k0)) - (nI 1))) 3 (nI 1)) (E' := [(b_2, .inl (cy 1, 5, .inl (upd (upd (upd (upd (upd (fun _ => 0) 0 (nI (hf 6 k0))) 1 (nI (hf 7 k0))) 2 ((nI (hf 7 k0)) - (nI 1))) 3 (nI 1)) 4 (nI 1))))]) 0 rfl (by first | omega | (simp [up2, *]; done) | (simp [up2, *]; omega) | (simp only [up2_eq]; omega) | (split <;> omega)) (by first | omega | (simp [up2, *]; done) | (simp [up2, *]; omega) | (simp only [up2_eq]; omega) | (split <;> omega)) rfl dX4_cursorNow_92 ?_
              refine r_astore_n C dX4_cursorNow_93 (by decide) rfl ?_
              refine r_aload_n C dX4_cursorNow_94 rfl ?_
              refine r_iload_n C dX4_cursorNow_95 rfl ?_
              refine x_ald C (i := 1) (f := upd (upd (upd (upd (upd (fun _ => 0) 0 (nI (hf 6 k0))) 1 (nI (hf 7 k0))) 2 ((nI (hf 7 k0)) - (nI 1))) 3 (nI 1)) 4 (nI 1)) 0 rfl (by first | omega | (simp [up2, *]; done) | (simp [up2, *]; omega) | (simp only [up2_eq]; omega) | (split <;> omega)) (by first | omega | (simp [up2, *]; done) | (simp [up2, *]; omega) | (simp only [up2_eq]; omega) | (split <;> omega)) dX4_cursorNow_96 ?_
              refine r_eqi (show (upd (upd (upd (upd (upd (fun _ => 0) 0 (nI (hf 6 k0))) 1 (nI (hf 7 k0))) 2 ((nI (hf 7 k0)) - (nI 1))) 3 (nI 1)) 4 (nI 1)) 1 = (nI (hf 7 k0)) from rfl) ?_
              refine r_pre ?_
              exact r_iret C hr dX4_cursorNow_97 ⟨by unfold cqM; rw [if_neg (by omega), if_neg (by decide), if_pos rfl], rfl⟩ (Nat.le_of_ble_eq_true rfl) (Nat.le_of_ble_eq_true rfl)
  · first
    | exfalso; first | omega | contradiction
    | skip
      refine r_iconst (v := (nI 4294967295)) C dX4_cursorNow_9 (by decide) ?_
      exact r_iret C hr dX4_cursorNow_10 ⟨by unfold cqM; rw [if_pos (by omega)], rfl⟩ (Nat.le_of_ble_eq_true rfl) (Nat.le_of_ble_eq_true rfl)
set_option maxRecDepth 100000 in
set_option maxHeartbeats 4000000 in
theorem D_cursorNow_2 {l : Launch} {D : va_G} {cy : Nat → ClassId} {X : (Nat → Prop) → State → Heap → Prop} {ba ra : Nat → Nat} {hf : Nat → Nat → Nat} {hq : Nat → Nat → Int32} {kn th : Int32} {sm : Int64} {Y : va_W} {f : Nat → Nat → Nat} {r : Nat → Nat → Int32} {k0 : Nat} (hX : EnvM X cy) (hC : CInv f) (hM : MR f r hf hq) (hk3 : k0 < 3) : Cd l D cy X yX4_cursorNow cX4_cursorNow 4 (some .int) (rmk 1 1 5 40) [.ref (ba 9), .int (nI k0), .int (nI 2)] (WM cy ba ra hf hq kn th sm ++ Y) (some (.int (cqM hf k0 2))) (WM cy ba ra hf hq kn th sm ++ Y) := by
  have hG := hM.1
  have h5M := hM.h5M hC
  have h4M := hC.h4M
  have h9a := hM.h9a hC
  have h6a := hM.h6a
  have hU := hM.hU hC
  have qu := hM.cu hC hk3
  refine Cm.of [some (.ref (ba 9)), some (.int (nI k0)), some (.int (nI 2)), none] pn_X4 rfl (Nat.le_of_ble_eq_true rfl) ?_
  intro p e s m args below meth c A C hE hr hnt hn
  refine r_aload_n C dX4_cursorNow_0 rfl ?_
  refine m_get (v := .ref (ba 5)) C 5 (by decide) qf_X4_32 rfl rfl dX4_cursorNow_1 ?_
  refine r_iload_n C dX4_cursorNow_4 rfl ?_
  refine m_zld (i := k0) (z := k0) (v := hf 9 k0) C 4 (by decide) (by decide) (show k0 < 3 from (by first | omega | (simp [up2, *]; done) | (simp [up2, *]; omega) | (simp only [up2_eq]; omega) | (split <;> omega))) (show 0 + k0 = k0 from (by omega)) rfl dX4_cursorNow_5 ?_
  refine r_ifN_ne (a := (hf 9 k0)) (tgt := 11) C (by omega) dX4_cursorNow_6 (by decide) (fun h6_1 => ?_) (fun h6_1 => ?_)
  · first
    | exfalso; first | omega | contradiction
    | skip
      refine r_iconst (v := (nI 5)) C dX4_cursorNow_11 (by decide) ?_
      refine r_newT C .int .int 1 rfl (by simp) qa_int (n := 5) (show 5 < 1000000 from Nat.lt_of_le_of_lt (show 5 ≤ 5 from (Nat.le_refl _)) (by decide)) (1) (5) (Nat.le_of_ble_eq_true rfl) (Nat.add_le_add (Nat.le_refl _) (show 5 ≤ 5 from (Nat.le_refl _))) (Nat.le_of_ble_eq_true rfl) (Nat.le_of_ble_eq_true rfl) dX4_cursorNow_12 (fun b_2 => ?_)
      refine r_w (w' := WM cy ba ra hf hq kn th sm ++ (Y ++ [(b_2, .inl (cy 1, 5, .inl (fun _ => 0)))])) (by simp only [List.append_assoc, List.cons_append, List.nil_append]) ?_
      refine r_dup C dX4_cursorNow_14 rfl ?_
      refine r_iconst (v := (nI 0)) C dX4_cursorNow_15 (by decide) ?_
      have qo := qu.2.2.2 (by omega)
      have hou := qu.2.2.1
      have h5u : f 5 (hf 6 k0) = 1 := by rw [qo.1]; exact qo.2.2.2.2.1
      have wu := hM.wh hC hou h5u
      have e6 : f 4 (hf 6 k0) = f 4 (f 6 k0) := by rw [qo.1]
      refine r_aload_n C dX4_cursorNow_16 rfl ?_
      refine m_get (v := .ref (ba 6)) C 6 (by decide) qf_X4_35 rfl rfl dX4_cursorNow_17 ?_
      refine r_iload_n C dX4_cursorNow_20 rfl ?_
      refine m_ald (i := k0) (z := k0) (v := hf 6 k0) C 5 (by decide) (by decide) (show k0 < 3 from (by first | omega | (simp [up2, *]; done) | (simp [up2, *]; omega) | (simp only [up2_eq]; omega) | (split <;> omega))) (show 0 + k0 = k0 from (by omega)) rfl dX4_cursorNow_21 ?_
      refine x_ast C (i := 0) (f := fun _ => 0) (E' := [(b_2, .inl (cy 1, 5, .inl (upd (fun _ => 0) 0 (nI (hf 6 k0)))))]) 0 rfl (by first | omega | (simp [up2, *]; done) | (simp [up2, *]; omega) | (simp only [up2_eq]; omega) | (split <;> omega)) (by first | omega | (simp [up2, *]; done) | (simp [up2, *]; omega) | (simp only [up2_eq]; omega) | (split <;> omega)) rfl dX4_cursorNow_22 ?_
      refine r_dup C dX4_cursorNow_23 rfl ?_
      refine r_iconst (v := (nI 1)) C dX4_cursorNow_24 (by decide) ?_
      refine r_aload_n C dX4_cursorNow_25 rfl ?_
      refine m_get (v := .ref (ba 7)) C 7 (by decide) qf_X4_38 rfl rfl dX4_cursorNow_26 ?_
      refine r_iload_n C dX4_cursorNow_29 rfl ?_
      refine m_ald (i := k0) (z := k0) (v := hf 7 k0) C 6 (by decide) (by decide) (show k0 < 3 from (by first | omega | (simp [up2, *]; done) | (simp [up2, *]; omega) | (simp only [up2_eq]; omega) | (split <;> omega))) (show 0 + k0 = k0 from (by omega)) rfl dX4_cursorNow_30 ?_
      refine x_ast C (i := 1) (f := upd (fun _ => 0) 0 (nI (hf 6 k0))) (E' := [(b_2, .inl (cy 1, 5, .inl (upd (upd (fun _ => 0) 0 (nI (hf 6 k0))) 1 (nI (hf 7 k0)))))]) 0 rfl (by first | omega | (simp [up2, *]; done) | (simp [up2, *]; omega) | (simp only [up2_eq]; omega) | (split <;> omega)) (by first | omega | (simp [up2, *]; done) | (simp [up2, *]; omega) | (simp only [up2_eq]; omega) | (split <;> omega)) rfl dX4_cursorNow_31 ?_
      refine r_dup C dX4_cursorNow_32 rfl ?_
      refine r_iconst (v := (nI 2)) C dX4_cursorNow_33 (by decide) ?_
      refine r_aload_n C dX4_cursorNow_34 rfl ?_
      refine m_get (v := .ref (ba 7)) C 7 (by decide) qf_X4_38 rfl rfl dX4_cursorNow_35 ?_
      refine r_iload_n C dX4_cursorNow_38 rfl ?_
      refine m_ald (i := k0) (z := k0) (v := hf 7 k0) C 6 (by decide) (by decide) (show k0 < 3 from (by first | omega | (simp [up2, *]; done) | (simp [up2, *]; omega) | (simp only [up2_eq]; omega) | (split <;> omega))) (show 0 + k0 = k0 from (by omega)) rfl dX4_cursorNow_39 ?_
      refine r_iconst (v := (nI 1)) C dX4_cursorNow_40 (by decide) ?_
      refine r_isub C dX4_cursorNow_41 ?_
      refine x_ast C (i := 2) (f := upd (upd (fun _ => 0) 0 (nI (hf 6 k0))) 1 (nI (hf 7 k0))) (E' := [(b_2, .inl (cy 1, 5, .inl (upd (upd (upd (fun _ => 0) 0 (nI (hf 6 k0))) 1 (nI (hf 7 k0))) 2 ((nI (hf 7 k0)) - (nI 1)))))]) 0 rfl (by first | omega | (simp [up2, *]; done) | (simp [up2, *]; omega) | (simp only [up2_eq]; omega) | (split <;> omega)) (by first | omega | (simp [up2, *]; done) | (simp [up2, *]; omega) | (simp only [up2_eq]; omega) | (split <;> omega)) rfl dX4_cursorNow_42 ?_
      refine r_dup C dX4_cursorNow_43 rfl ?_
      refine r_iconst (v := (nI 3)) C dX4_cursorNow_44 (by decide) ?_
      refine r_aload_n C dX4_cursorNow_45 rfl ?_
      refine m_get (v := .ref (ba 7)) C 7 (by decide) qf_X4_38 rfl rfl dX4_cursorNow_46 ?_
      refine r_iload_n C dX4_cursorNow_49 rfl ?_
      refine m_ald (i := k0) (z := k0) (v := hf 7 k0) C 6 (by decide) (by decide) (show k0 < 3 from (by first | omega | (simp [up2, *]; done) | (simp [up2, *]; omega) | (simp only [up2_eq]; omega) | (split <;> omega))) (show 0 + k0 = k0 from (by omega)) rfl dX4_cursorNow_50 ?_
      refine r_aload_n C dX4_cursorNow_51 rfl ?_
      refine r_aload_n C dX4_cursorNow_52 rfl ?_
      refine m_get (v := .ref (ba 6)) C 6 (by decide) qf_X4_35 rfl rfl dX4_cursorNow_53 ?_
      refine r_iload_n C dX4_cursorNow_56 rfl ?_
      refine m_ald (i := k0) (z := k0) (v := hf 6 k0) C 5 (by decide) (by decide) (show k0 < 3 from (by first | omega | (simp [up2, *]; done) | (simp [up2, *]; omega) | (simp only [up2_eq]; omega) | (split <;> omega))) (show 0 + k0 = k0 from (by omega)) rfl dX4_cursorNow_57 ?_
      refine d_V (st := [.int (nI (hf 7 k0)), .int (nI 3), .ref b_2, .ref b_2]) hX.1.stb C hE (D_sizeOf (ba := ba) (ra := ra) (hf := hf) (hq := hq) (kn := kn) (th := th) (sm := sm) (w := (hf 6 k0)) hX hou) pk_X4_sizeOf qm_X4_59 0 8 rfl rfl wm_0 rfl rfl (Nat.le_of_ble_eq_true rfl) dX4_cursorNow_58 ⟨(Nat.le_of_ble_eq_true rfl), (Nat.le_of_ble_eq_true rfl)⟩ ⟨(Nat.le_of_ble_eq_true rfl), (Nat.le_of_ble_eq_true rfl)⟩ ?_
      refine r_w (w' := WM cy ba ra hf hq kn th sm ++ (Y ++ [(b_2, .inl (cy 1, 5, .inl (upd (upd (upd (fun _ => 0) 0 (nI (hf 6 k0))) 1 (nI (hf 7 k0))) 2 ((nI (hf 7 k0)) - (nI 1)))))])) rfl ?_
      refine r_icN_ge (a := (hf 7 k0)) (b := (hf 4 (hf 6 k0))) (tgt := 68) C (by first | omega | (simp [up2, *]; done) | (simp [up2, *]; omega) | (simp only [up2_eq]; omega) | (split <;> omega)) (by first | omega | (simp [up2, *]; done) | (simp [up2, *]; omega) | (simp only [up2_eq]; omega) | (split <;> omega)) dX4_cursorNow_61 (by decide) (fun h61_3 => ?_) (fun h61_3 => ?_)
      · first
        | exfalso; first | omega | contradiction
        | skip
          refine r_iconst (v := (nI 0)) C dX4_cursorNow_68 (by decide) ?_
          refine d_S (st := [.int (nI 3), .ref b_2, .ref b_2]) hX.1.stb C hE (D_one (ba := ba) (ra := ra) (hf := hf) (hq := hq) (kn := kn) (th := th) (sm := sm) (b0 := 0) hX (by first | omega | (simp [up2, *]; done) | (simp [up2, *]; omega) | (simp only [up2_eq]; omega) | (split <;> omega))) pk_X4_one qm_X4_136 rfl rfl (Nat.le_of_ble_eq_true rfl) dX4_cursorNow_69 ⟨(Nat.le_of_ble_eq_true rfl), (Nat.le_of_ble_eq_true rfl)⟩ ⟨(Nat.le_of_ble_eq_true rfl), (Nat.le_of_ble_eq_true rfl)⟩ ?_
          refine r_w (w' := WM cy ba ra hf hq kn th sm ++ (Y ++ [(b_2, .inl (cy 1, 5, .inl (upd (upd (upd (fun _ => 0) 0 (nI (hf 6 k0))) 1 (nI (hf 7 k0))) 2 ((nI (hf 7 k0)) - (nI 1)))))])) rfl ?_
          refine x_ast C (i := 3) (f := upd (upd (upd (fun _ => 0) 0 (nI (hf 6 k0))) 1 (nI (hf 7 k0))) 2 ((nI (hf 7 k0)) - (nI 1))) (E' := [(b_2, .inl (cy 1, 5, .inl (upd (upd (upd (upd (fun _ => 0) 0 (nI (hf 6 k0))) 1 (nI (hf 7 k0))) 2 ((nI (hf 7 k0)) - (nI 1))) 3 (nI 0))))]) 0 rfl (by first | omega | (simp [up2, *]; done) | (simp [up2, *]; omega) | (simp only [up2_eq]; omega) | (split <;> omega)) (by first | omega | (simp [up2, *]; done) | (simp [up2, *]; omega) | (simp only [up2_eq]; omega) | (split <;> omega)) rfl dX4_cursorNow_72 ?_
          refine r_dup C dX4_cursorNow_73 rfl ?_
          refine r_iconst (v := (nI 4)) C dX4_cursorNow_74 (by decide) ?_
          refine r_aload_n C dX4_cursorNow_75 rfl ?_
          refine m_get (v := .ref (ba 7)) C 7 (by decide) qf_X4_38 rfl rfl dX4_cursorNow_76 ?_
          refine r_iload_n C dX4_cursorNow_79 rfl ?_
          refine m_ald (i := k0) (z := k0) (v := hf 7 k0) C 6 (by decide) (by decide) (show k0 < 3 from (by first | omega | (simp [up2, *]; done) | (simp [up2, *]; omega) | (simp only [up2_eq]; omega) | (split <;> omega))) (show 0 + k0 = k0 from (by omega)) rfl dX4_cursorNow_80 ?_
          refine r_ifN_le (a := (hf 7 k0)) (tgt := 88) C (by first | omega | (simp [up2, *]; done) | (simp [up2, *]; omega) | (simp only [up2_eq]; omega) | (split <;> omega)) dX4_cursorNow_81 (by decide) (fun h81_4 => ?_) (fun h81_4 => ?_)
          · first
            | exfalso; first | omega | contradiction
            | skip
              refine r_iconst (v := (nI 0)) C dX4_cursorNow_88 (by decide) ?_
              refine d_S (st := [.int (nI 4), .ref b_2, .ref b_2]) hX.1.stb C hE (D_one (ba := ba) (ra := ra) (hf := hf) (hq := hq) (kn := kn) (th := th) (sm := sm) (b0 := 0) hX (by first | omega | (simp [up2, *]; done) | (simp [up2, *]; omega) | (simp only [up2_eq]; omega) | (split <;> omega))) pk_X4_one qm_X4_136 rfl rfl (Nat.le_of_ble_eq_true rfl) dX4_cursorNow_89 ⟨(Nat.le_of_ble_eq_true rfl), (Nat.le_of_ble_eq_true rfl)⟩ ⟨(Nat.le_of_ble_eq_true rfl), (Nat.le_of_ble_eq_true rfl)⟩ ?_
              refine r_w (w' := WM cy ba ra hf hq kn th sm ++ (Y ++ [(b_2, .inl (cy 1, 5, .inl (upd (upd (upd (upd (fun _ => 0) 0 (nI (hf 6 k0))) 1 (nI (hf 7 k0))) 2 ((nI (hf 7 k0)) - (nI 1))) 3 (nI 0))))])) rfl ?_
              refine x_ast C (i := 4) (f := upd (upd (upd (upd (fun _ => 0) 0 (nI (hf 6 k0))) 1 (nI (hf 7 k0))) 2 ((nI (hf 7 k0)) - (nI 1))) 3 (nI 0)) (E' := [(b_2, .inl (cy 1, 5, .inl (upd (upd (upd (upd (upd (fun _ => 0) 0 (nI (hf 6 k0))) 1 (nI (hf 7 k0))) 2 ((nI (hf 7 k0)) - (nI 1))) 3 (nI 0)) 4 (nI 0))))]) 0 rfl (by first | omega | (simp [up2, *]; done) | (simp [up2, *]; omega) | (simp only [up2_eq]; omega) | (split <;> omega)) (by first | omega | (simp [up2, *]; done) | (simp [up2, *]; omega) | (simp only [up2_eq]; omega) | (split <;> omega)) rfl dX4_cursorNow_92 ?_
              refine r_astore_n C dX4_cursorNow_93 (by decide) rfl ?_
              refine r_aload_n C dX4_cursorNow_94 rfl ?_
              refine r_iload_n C dX4_cursorNow_95 rfl ?_
              refine x_ald C (i := 2) (f := upd (upd (upd (upd (upd (fun _ => 0) 0 (nI (hf 6 k0))) 1 (nI (hf 7 k0))) 2 ((nI (hf 7 k0)) - (nI 1))) 3 (nI 0)) 4 (nI 0)) 0 rfl (by first | omega | (simp [up2, *]; done) | (simp [up2, *]; omega) | (simp only [up2_eq]; omega) | (split <;> omega)) (by first | omega | (simp [up2, *]; done) | (simp [up2, *]; omega) | (simp only [up2_eq]; omega) | (split <;> omega)) dX4_cursorNow_96 ?_
              refine r_eqi (show (upd (upd (upd (upd (upd (fun _ => 0) 0 (nI (hf 6 k0))) 1 (nI (hf 7 k0))) 2 ((nI (hf 7 k0)) - (nI 1))) 3 (nI 0)) 4 (nI 0)) 2 = ((nI (hf 7 k0)) - (nI 1)) from rfl) ?_
              refine r_pre ?_
              exact r_iret C hr dX4_cursorNow_97 ⟨by unfold cqM; rw [if_neg (by omega), if_neg (by decide), if_neg (by decide), if_pos rfl], rfl⟩ (Nat.le_of_ble_eq_true rfl) (Nat.le_of_ble_eq_true rfl)
          · first
            | exfalso; first | omega | contradiction
            | skip
              refine r_iconst (v := (nI 1)) C dX4_cursorNow_84 (by decide) ?_
              refine r_goto (tgt := 89) C dX4_cursorNow_85 (by decide) ?_
              refine d_S (st := [.int (nI 4), .ref b_2, .ref b_2]) hX.1.stb C hE (D_one (ba := ba) (ra := ra) (hf := hf) (hq := hq) (kn := kn) (th := th) (sm := sm) (b0 := 1) hX (by first | omega | (simp [up2, *]; done) | (simp [up2, *]; omega) | (simp only [up2_eq]; omega) | (split <;> omega))) pk_X4_one qm_X4_136 rfl rfl (Nat.le_of_ble_eq_true rfl) dX4_cursorNow_89 ⟨(Nat.le_of_ble_eq_true rfl), (Nat.le_of_ble_eq_true rfl)⟩ ⟨(Nat.le_of_ble_eq_true rfl), (Nat.le_of_ble_eq_true rfl)⟩ ?_
              refine r_w (w' := WM cy ba ra hf hq kn th sm ++ (Y ++ [(b_2, .inl (cy 1, 5, .inl (upd (upd (upd (upd (fun _ => 0) 0 (nI (hf 6 k0))) 1 (nI (hf 7 k0))) 2 ((nI (hf 7 k0)) - (nI 1))) 3 (nI 0))))])) rfl ?_
              refine x_ast C (i := 4) (f := upd (upd (upd (upd (fun _ => 0) 0 (nI (hf 6 k0))) 1 (nI (hf 7 k0))) 2 ((nI (hf 7 k0)) - (nI 1))) 3 (nI 0)) (E' := [(b_2, .inl (cy 1, 5, .inl (upd (upd (upd (upd (upd (fun _ => 0) 0 (nI (hf 6 k0))) 1 (nI (hf 7 k0))) 2 ((nI (hf 7 k0)) - (nI 1))) 3 (nI 0)) 4 (nI 1))))]) 0 rfl (by first | omega | (simp [up2, *]; done) | (simp [up2, *]; omega) | (simp only [up2_eq]; omega) | (split <;> omega)) (by first | omega | (simp [up2, *]; done) | (simp [up2, *]; omega) | (simp only [up2_eq]; omega) | (split <;> omega)) rfl dX4_cursorNow_92 ?_
              refine r_astore_n C dX4_cursorNow_93 (by decide) rfl ?_
              refine r_aload_n C dX4_cursorNow_94 rfl ?_
              refine r_iload_n C dX4_cursorNow_95 rfl ?_
              refine x_ald C (i := 2) (f := upd (upd (upd (upd (upd (fun _ => 0) 0 (nI (hf 6 k0))) 1 (nI (hf 7 k0))) 2 ((nI (hf 7 k0)) - (nI 1))) 3 (nI 0)) 4 (nI 1)) 0 rfl (by first | omega | (simp [up2, *]; done) | (simp [up2, *]; omega) | (simp only [up2_eq]; omega) | (split <;> omega)) (by first | omega | (simp [up2, *]; done) | (simp [up2, *]; omega) | (simp only [up2_eq]; omega) | (split <;> omega)) dX4_cursorNow_96 ?_
              refine r_eqi (show (upd (upd (upd (upd (upd (fun _ => 0) 0 (nI (hf 6 k0))) 1 (nI (hf 7 k0))) 2 ((nI (hf 7 k0)) - (nI 1))) 3 (nI 0)) 4 (nI 1)) 2 = ((nI (hf 7 k0)) - (nI 1)) from rfl) ?_
              refine r_pre ?_
              exact r_iret C hr dX4_cursorNow_97 ⟨by unfold cqM; rw [if_neg (by omega), if_neg (by decide), if_neg (by decide), if_pos rfl], rfl⟩ (Nat.le_of_ble_eq_true rfl) (Nat.le_of_ble_eq_true rfl)
      · first
        | exfalso; first | omega | contradiction
        | skip
          refine r_iconst (v := (nI 1)) C dX4_cursorNow_64 (by decide) ?_
          refine r_goto (tgt := 69) C dX4_cursorNow_65 (by decide) ?_
          refine d_S (st := [.int (nI 3), .ref b_2, .ref b_2]) hX.1.stb C hE (D_one (ba := ba) (ra := ra) (hf := hf) (hq := hq) (kn := kn) (th := th) (sm := sm) (b0 := 1) hX (by first | omega | (simp [up2, *]; done) | (simp [up2, *]; omega) | (simp only [up2_eq]; omega) | (split <;> omega))) pk_X4_one qm_X4_136 rfl rfl (Nat.le_of_ble_eq_true rfl) dX4_cursorNow_69 ⟨(Nat.le_of_ble_eq_true rfl), (Nat.le_of_ble_eq_true rfl)⟩ ⟨(Nat.le_of_ble_eq_true rfl), (Nat.le_of_ble_eq_true rfl)⟩ ?_
          refine r_w (w' := WM cy ba ra hf hq kn th sm ++ (Y ++ [(b_2, .inl (cy 1, 5, .inl (upd (upd (upd (fun _ => 0) 0 (nI (hf 6 k0))) 1 (nI (hf 7 k0))) 2 ((nI (hf 7 k0)) - (nI 1)))))])) rfl ?_
          refine x_ast C (i := 3) (f := upd (upd (upd (fun _ => 0) 0 (nI (hf 6 k0))) 1 (nI (hf 7 k0))) 2 ((nI (hf 7 k0)) - (nI 1))) (E' := [(b_2, .inl (cy 1, 5, .inl (upd (upd (upd (upd (fun _ => 0) 0 (nI (hf 6 k0))) 1 (nI (hf 7 k0))) 2 ((nI (hf 7 k0)) - (nI 1))) 3 (nI 1))))]) 0 rfl (by first | omega | (simp [up2, *]; done) | (simp [up2, *]; omega) | (simp only [up2_eq]; omega) | (split <;> omega)) (by first | omega | (simp [up2, *]; done) | (simp [up2, *]; omega) | (simp only [up2_eq]; omega) | (split <;> omega)) rfl dX4_cursorNow_72 ?_
          refine r_dup C dX4_cursorNow_73 rfl ?_
          refine r_iconst (v := (nI 4)) C dX4_cursorNow_74 (by decide) ?_
          refine r_aload_n C dX4_cursorNow_75 rfl ?_
          refine m_get (v := .ref (ba 7)) C 7 (by decide) qf_X4_38 rfl rfl dX4_cursorNow_76 ?_
          refine r_iload_n C dX4_cursorNow_79 rfl ?_
          refine m_ald (i := k0) (z := k0) (v := hf 7 k0) C 6 (by decide) (by decide) (show k0 < 3 from (by first | omega | (simp [up2, *]; done) | (simp [up2, *]; omega) | (simp only [up2_eq]; omega) | (split <;> omega))) (show 0 + k0 = k0 from (by omega)) rfl dX4_cursorNow_80 ?_
          refine r_ifN_le (a := (hf 7 k0)) (tgt := 88) C (by first | omega | (simp [up2, *]; done) | (simp [up2, *]; omega) | (simp only [up2_eq]; omega) | (split <;> omega)) dX4_cursorNow_81 (by decide) (fun h81_5 => ?_) (fun h81_5 => ?_)
          · first
            | exfalso; first | omega | contradiction
            | skip
              refine r_iconst (v := (nI 0)) C dX4_cursorNow_88 (by decide) ?_
              refine d_S (st := [.int (nI 4), .ref b_2, .ref b_2]) hX.1.stb C hE (D_one (ba := ba) (ra := ra) (hf := hf) (hq := hq) (kn := kn) (th := th) (sm := sm) (b0 := 0) hX (by first | omega | (simp [up2, *]; done) | (simp [up2, *]; omega) | (simp only [up2_eq]; omega) | (split <;> omega))) pk_X4_one qm_X4_136 rfl rfl (Nat.le_of_ble_eq_true rfl) dX4_cursorNow_89 ⟨(Nat.le_of_ble_eq_true rfl), (Nat.le_of_ble_eq_true rfl)⟩ ⟨(Nat.le_of_ble_eq_true rfl), (Nat.le_of_ble_eq_true rfl)⟩ ?_
              refine r_w (w' := WM cy ba ra hf hq kn th sm ++ (Y ++ [(b_2, .inl (cy 1, 5, .inl (upd (upd (upd (upd (fun _ => 0) 0 (nI (hf 6 k0))) 1 (nI (hf 7 k0))) 2 ((nI (hf 7 k0)) - (nI 1))) 3 (nI 1))))])) rfl ?_
              refine x_ast C (i := 4) (f := upd (upd (upd (upd (fun _ => 0) 0 (nI (hf 6 k0))) 1 (nI (hf 7 k0))) 2 ((nI (hf 7 k0)) - (nI 1))) 3 (nI 1)) (E' := [(b_2, .inl (cy 1, 5, .inl (upd (upd (upd (upd (upd (fun _ => 0) 0 (nI (hf 6 k0))) 1 (nI (hf 7 k0))) 2 ((nI (hf 7 k0)) - (nI 1))) 3 (nI 1)) 4 (nI 0))))]) 0 rfl (by first | omega | (simp [up2, *]; done) | (simp [up2, *]; omega) | (simp only [up2_eq]; omega) | (split <;> omega)) (by first | omega | (simp [up2, *]; done) | (simp [up2, *]; omega) | (simp only [up2_eq]; omega) | (split <;> omega)) rfl dX4_cursorNow_92 ?_
              refine r_astore_n C dX4_cursorNow_93 (by decide) rfl ?_
              refine r_aload_n C dX4_cursorNow_94 rfl ?_
              refine r_iload_n C dX4_cursorNow_95 rfl ?_
              refine x_ald C (i := 2) (f := upd (upd (upd (upd (upd (fun _ => 0) 0 (nI (hf 6 k0))) 1 (nI (hf 7 k0))) 2 ((nI (hf 7 k0)) - (nI 1))) 3 (nI 1)) 4 (nI 0)) 0 rfl (by first | omega | (simp [up2, *]; done) | (simp [up2, *]; omega) | (simp only [up2_eq]; omega) | (split <;> omega)) (by first | omega | (simp [up2, *]; done) | (simp [up2, *]; omega) | (simp only [up2_eq]; omega) | (split <;> omega)) dX4_cursorNow_96 ?_
              refine r_eqi (show (upd (upd (upd (upd (upd (fun _ => 0) 0 (nI (hf 6 k0))) 1 (nI (hf 7 k0))) 2 ((nI (hf 7 k0)) - (nI 1))) 3 (nI 1)) 4 (nI 0)) 2 = ((nI (hf 7 k0)) - (nI 1)) from rfl) ?_
              refine r_pre ?_
              exact r_iret C hr dX4_cursorNow_97 ⟨by unfold cqM; rw [if_neg (by omega), if_neg (by decide), if_neg (by decide), if_pos rfl], rfl⟩ (Nat.le_of_ble_eq_true rfl) (Nat.le_of_ble_eq_true rfl)
          · first
            | exfalso; first | omega | contradiction
            | skip
              refine r_iconst (v := (nI 1)) C dX4_cursorNow_84 (by decide) ?_
              refine r_goto (tgt := 89) C dX4_cursorNow_85 (by decide) ?_
              refine d_S (st := [.int (nI 4), .ref b_2, .ref b_2]) hX.1.stb C hE (D_one (ba := ba) (ra := ra) (hf := hf) (hq := hq) (kn := kn) (th := th) (sm := sm) (b0 := 1) hX (by first | omega | (simp [up2, *]; done) | (simp [up2, *]; omega) | (simp only [up2_eq]; omega) | (split <;> omega))) pk_X4_one qm_X4_136 rfl rfl (Nat.le_of_ble_eq_true rfl) dX4_cursorNow_89 ⟨(Nat.le_of_ble_eq_true rfl), (Nat.le_of_ble_eq_true rfl)⟩ ⟨(Nat.le_of_ble_eq_true rfl), (Nat.le_of_ble_eq_true rfl)⟩ ?_
              refine r_w (w' := WM cy ba ra hf hq kn th sm ++ (Y ++ [(b_2, .inl (cy 1, 5, .inl (upd (upd (upd (upd (fun _ => 0) 0 (nI (hf 6 k0))) 1 (nI (hf 7 k0))) 2 ((nI (hf 7 k0)) - (nI 1))) 3 (nI 1))))])) rfl ?_
              refine x_ast C (i := 4) (f := upd (upd (upd (upd (fun _ => 0) 0 (nI (hf 6 k0))) 1 (nI (hf 7 k0))) 2 ((nI (hf 7 k0)) - (nI 1))) 3 (nI 1)) (E' := [(b_2, .inl (cy 1, 5, .inl (upd (upd (upd (upd (upd (fun _ => 0) 0 (nI (hf 6 k0))) 1 (nI (hf 7 k0))) 2 ((nI (hf 7 k0)) - (nI 1))) 3 (nI 1)) 4 (nI 1))))]) 0 rfl (by first | omega | (simp [up2, *]; done) | (simp [up2, *]; omega) | (simp only [up2_eq]; omega) | (split <;> omega)) (by first | omega | (simp [up2, *]; done) | (simp [up2, *]; omega) | (simp only [up2_eq]; omega) | (split <;> omega)) rfl dX4_cursorNow_92 ?_
              refine r_astore_n C dX4_cursorNow_93 (by decide) rfl ?_
              refine r_aload_n C dX4_cursorNow_94 rfl ?_
              refine r_iload_n C dX4_cursorNow_95 rfl ?_
              refine x_ald C (i := 2) (f := upd (upd (upd (upd (upd (fun _ => 0) 0 (nI (hf 6 k0))) 1 (nI (hf 7 k0))) 2 ((nI (hf 7 k0)) - (nI 1))) 3 (nI 1)) 4 (nI 1)) 0 rfl (by first | omega | (simp [up2, *]; done) | (simp [up2, *]; omega) | (simp only [up2_eq]; omega) | (split <;> omega)) (by first | omega | (simp [up2, *]; done) | (simp [up2, *]; omega) | (simp only [up2_eq]; omega) | (split <;> omega)) dX4_cursorNow_96 ?_
              refine r_eqi (show (upd (upd (upd (upd (upd (fun _ => 0) 0 (nI (hf 6 k0))) 1 (nI (hf 7 k0))) 2 ((nI (hf 7 k0)) - (nI 1))) 3 (nI 1)) 4 (nI 1)) 2 = ((nI (hf 7 k0)) - (nI 1)) from rfl) ?_
              refine r_pre ?_
              exact r_iret C hr dX4_cursorNow_97 ⟨by unfold cqM; rw [if_neg (by omega), if_neg (by decide), if_neg (by decide), if_pos rfl], rfl⟩ (Nat.le_of_ble_eq_true rfl) (Nat.le_of_ble_eq_true rfl)
  · first
    | exfalso; first | omega | contradiction
    | skip
      refine r_iconst (v := (nI 4294967295)) C dX4_cursorNow_9 (by decide) ?_
      exact r_iret C hr dX4_cursorNow_10 ⟨by unfold cqM; rw [if_pos (by omega)], rfl⟩ (Nat.le_of_ble_eq_true rfl) (Nat.le_of_ble_eq_true rfl)
set_option maxRecDepth 100000 in
set_option maxHeartbeats 4000000 in
theorem D_cursorNow_3 {l : Launch} {D : va_G} {cy : Nat → ClassId} {X : (Nat → Prop) → State → Heap → Prop} {ba ra : Nat → Nat} {hf : Nat → Nat → Nat} {hq : Nat → Nat → Int32} {kn th : Int32} {sm : Int64} {Y : va_W} {f : Nat → Nat → Nat} {r : Nat → Nat → Int32} {k0 : Nat} (hX : EnvM X cy) (hC : CInv f) (hM : MR f r hf hq) (hk3 : k0 < 3) : Cd l D cy X yX4_cursorNow cX4_cursorNow 4 (some .int) (rmk 1 1 5 40) [.ref (ba 9), .int (nI k0), .int (nI 3)] (WM cy ba ra hf hq kn th sm ++ Y) (some (.int (cqM hf k0 3))) (WM cy ba ra hf hq kn th sm ++ Y) := by
  have hG := hM.1
  have h5M := hM.h5M hC
  have h4M := hC.h4M
  have h9a := hM.h9a hC
  have h6a := hM.h6a
  have hU := hM.hU hC
  have qu := hM.cu hC hk3
  refine Cm.of [some (.ref (ba 9)), some (.int (nI k0)), some (.int (nI 3)), none] pn_X4 rfl (Nat.le_of_ble_eq_true rfl) ?_
  intro p e s m args below meth c A C hE hr hnt hn
  refine r_aload_n C dX4_cursorNow_0 rfl ?_
  refine m_get (v := .ref (ba 5)) C 5 (by decide) qf_X4_32 rfl rfl dX4_cursorNow_1 ?_
  refine r_iload_n C dX4_cursorNow_4 rfl ?_
  refine m_zld (i := k0) (z := k0) (v := hf 9 k0) C 4 (by decide) (by decide) (show k0 < 3 from (by first | omega | (simp [up2, *]; done) | (simp [up2, *]; omega) | (simp only [up2_eq]; omega) | (split <;> omega))) (show 0 + k0 = k0 from (by omega)) rfl dX4_cursorNow_5 ?_
  refine r_ifN_ne (a := (hf 9 k0)) (tgt := 11) C (by omega) dX4_cursorNow_6 (by decide) (fun h6_1 => ?_) (fun h6_1 => ?_)
  · first
    | exfalso; first | omega | contradiction
    | skip
      refine r_iconst (v := (nI 5)) C dX4_cursorNow_11 (by decide) ?_
      refine r_newT C .int .int 1 rfl (by simp) qa_int (n := 5) (show 5 < 1000000 from Nat.lt_of_le_of_lt (show 5 ≤ 5 from (Nat.le_refl _)) (by decide)) (1) (5) (Nat.le_of_ble_eq_true rfl) (Nat.add_le_add (Nat.le_refl _) (show 5 ≤ 5 from (Nat.le_refl _))) (Nat.le_of_ble_eq_true rfl) (Nat.le_of_ble_eq_true rfl) dX4_cursorNow_12 (fun b_2 => ?_)
      refine r_w (w' := WM cy ba ra hf hq kn th sm ++ (Y ++ [(b_2, .inl (cy 1, 5, .inl (fun _ => 0)))])) (by simp only [List.append_assoc, List.cons_append, List.nil_append]) ?_
      refine r_dup C dX4_cursorNow_14 rfl ?_
      refine r_iconst (v := (nI 0)) C dX4_cursorNow_15 (by decide) ?_
      have qo := qu.2.2.2 (by omega)
      have hou := qu.2.2.1
      have h5u : f 5 (hf 6 k0) = 1 := by rw [qo.1]; exact qo.2.2.2.2.1
      have wu := hM.wh hC hou h5u
      have e6 : f 4 (hf 6 k0) = f 4 (f 6 k0) := by rw [qo.1]
      refine r_aload_n C dX4_cursorNow_16 rfl ?_
      refine m_get (v := .ref (ba 6)) C 6 (by decide) qf_X4_35 rfl rfl dX4_cursorNow_17 ?_
      refine r_iload_n C dX4_cursorNow_20 rfl ?_
      refine m_ald (i := k0) (z := k0) (v := hf 6 k0) C 5 (by decide) (by decide) (show k0 < 3 from (by first | omega | (simp [up2, *]; done) | (simp [up2, *]; omega) | (simp only [up2_eq]; omega) | (split <;> omega))) (show 0 + k0 = k0 from (by omega)) rfl dX4_cursorNow_21 ?_
      refine x_ast C (i := 0) (f := fun _ => 0) (E' := [(b_2, .inl (cy 1, 5, .inl (upd (fun _ => 0) 0 (nI (hf 6 k0)))))]) 0 rfl (by first | omega | (simp [up2, *]; done) | (simp [up2, *]; omega) | (simp only [up2_eq]; omega) | (split <;> omega)) (by first | omega | (simp [up2, *]; done) | (simp [up2, *]; omega) | (simp only [up2_eq]; omega) | (split <;> omega)) rfl dX4_cursorNow_22 ?_
      refine r_dup C dX4_cursorNow_23 rfl ?_
      refine r_iconst (v := (nI 1)) C dX4_cursorNow_24 (by decide) ?_
      refine r_aload_n C dX4_cursorNow_25 rfl ?_
      refine m_get (v := .ref (ba 7)) C 7 (by decide) qf_X4_38 rfl rfl dX4_cursorNow_26 ?_
      refine r_iload_n C dX4_cursorNow_29 rfl ?_
      refine m_ald (i := k0) (z := k0) (v := hf 7 k0) C 6 (by decide) (by decide) (show k0 < 3 from (by first | omega | (simp [up2, *]; done) | (simp [up2, *]; omega) | (simp only [up2_eq]; omega) | (split <;> omega))) (show 0 + k0 = k0 from (by omega)) rfl dX4_cursorNow_30 ?_
      refine x_ast C (i := 1) (f := upd (fun _ => 0) 0 (nI (hf 6 k0))) (E' := [(b_2, .inl (cy 1, 5, .inl (upd (upd (fun _ => 0) 0 (nI (hf 6 k0))) 1 (nI (hf 7 k0)))))]) 0 rfl (by first | omega | (simp [up2, *]; done) | (simp [up2, *]; omega) | (simp only [up2_eq]; omega) | (split <;> omega)) (by first | omega | (simp [up2, *]; done) | (simp [up2, *]; omega) | (simp only [up2_eq]; omega) | (split <;> omega)) rfl dX4_cursorNow_31 ?_
      refine r_dup C dX4_cursorNow_32 rfl ?_
      refine r_iconst (v := (nI 2)) C dX4_cursorNow_33 (by decide) ?_
      refine r_aload_n C dX4_cursorNow_34 rfl ?_
      refine m_get (v := .ref (ba 7)) C 7 (by decide) qf_X4_38 rfl rfl dX4_cursorNow_35 ?_
      refine r_iload_n C dX4_cursorNow_38 rfl ?_
      refine m_ald (i := k0) (z := k0) (v := hf 7 k0) C 6 (by decide) (by decide) (show k0 < 3 from (by first | omega | (simp [up2, *]; done) | (simp [up2, *]; omega) | (simp only [up2_eq]; omega) | (split <;> omega))) (show 0 + k0 = k0 from (by omega)) rfl dX4_cursorNow_39 ?_
      refine r_iconst (v := (nI 1)) C dX4_cursorNow_40 (by decide) ?_
      refine r_isub C dX4_cursorNow_41 ?_
      refine x_ast C (i := 2) (f := upd (upd (fun _ => 0) 0 (nI (hf 6 k0))) 1 (nI (hf 7 k0))) (E' := [(b_2, .inl (cy 1, 5, .inl (upd (upd (upd (fun _ => 0) 0 (nI (hf 6 k0))) 1 (nI (hf 7 k0))) 2 ((nI (hf 7 k0)) - (nI 1)))))]) 0 rfl (by first | omega | (simp [up2, *]; done) | (simp [up2, *]; omega) | (simp only [up2_eq]; omega) | (split <;> omega)) (by first | omega | (simp [up2, *]; done) | (simp [up2, *]; omega) | (simp only [up2_eq]; omega) | (split <;> omega)) rfl dX4_cursorNow_42 ?_
      refine r_dup C dX4_cursorNow_43 rfl ?_
      refine r_iconst (v := (nI 3)) C dX4_cursorNow_44 (by decide) ?_
      refine r_aload_n C dX4_cursorNow_45 rfl ?_
      refine m_get (v := .ref (ba 7)) C 7 (by decide) qf_X4_38 rfl rfl dX4_cursorNow_46 ?_
      refine r_iload_n C dX4_cursorNow_49 rfl ?_
      refine m_ald (i := k0) (z := k0) (v := hf 7 k0) C 6 (by decide) (by decide) (show k0 < 3 from (by first | omega | (simp [up2, *]; done) | (simp [up2, *]; omega) | (simp only [up2_eq]; omega) | (split <;> omega))) (show 0 + k0 = k0 from (by omega)) rfl dX4_cursorNow_50 ?_
      refine r_aload_n C dX4_cursorNow_51 rfl ?_
      refine r_aload_n C dX4_cursorNow_52 rfl ?_
      refine m_get (v := .ref (ba 6)) C 6 (by decide) qf_X4_35 rfl rfl dX4_cursorNow_53 ?_
      refine r_iload_n C dX4_cursorNow_56 rfl ?_
      refine m_ald (i := k0) (z := k0) (v := hf 6 k0) C 5 (by decide) (by decide) (show k0 < 3 from (by first | omega | (simp [up2, *]; done) | (simp [up2, *]; omega) | (simp only [up2_eq]; omega) | (split <;> omega))) (show 0 + k0 = k0 from (by omega)) rfl dX4_cursorNow_57 ?_
      refine d_V (st := [.int (nI (hf 7 k0)), .int (nI 3), .ref b_2, .ref b_2]) hX.1.stb C hE (D_sizeOf (ba := ba) (ra := ra) (hf := hf) (hq := hq) (kn := kn) (th := th) (sm := sm) (w := (hf 6 k0)) hX hou) pk_X4_sizeOf qm_X4_59 0 8 rfl rfl wm_0 rfl rfl (Nat.le_of_ble_eq_true rfl) dX4_cursorNow_58 ⟨(Nat.le_of_ble_eq_true rfl), (Nat.le_of_ble_eq_true rfl)⟩ ⟨(Nat.le_of_ble_eq_true rfl), (Nat.le_of_ble_eq_true rfl)⟩ ?_
      refine r_w (w' := WM cy ba ra hf hq kn th sm ++ (Y ++ [(b_2, .inl (cy 1, 5, .inl (upd (upd (upd (fun _ => 0) 0 (nI (hf 6 k0))) 1 (nI (hf 7 k0))) 2 ((nI (hf 7 k0)) - (nI 1)))))])) rfl ?_
      refine r_icN_ge (a := (hf 7 k0)) (b := (hf 4 (hf 6 k0))) (tgt := 68) C (by first | omega | (simp [up2, *]; done) | (simp [up2, *]; omega) | (simp only [up2_eq]; omega) | (split <;> omega)) (by first | omega | (simp [up2, *]; done) | (simp [up2, *]; omega) | (simp only [up2_eq]; omega) | (split <;> omega)) dX4_cursorNow_61 (by decide) (fun h61_3 => ?_) (fun h61_3 => ?_)
      · first
        | exfalso; first | omega | contradiction
        | skip
          refine r_iconst (v := (nI 0)) C dX4_cursorNow_68 (by decide) ?_
          refine d_S (st := [.int (nI 3), .ref b_2, .ref b_2]) hX.1.stb C hE (D_one (ba := ba) (ra := ra) (hf := hf) (hq := hq) (kn := kn) (th := th) (sm := sm) (b0 := 0) hX (by first | omega | (simp [up2, *]; done) | (simp [up2, *]; omega) | (simp only [up2_eq]; omega) | (split <;> omega))) pk_X4_one qm_X4_136 rfl rfl (Nat.le_of_ble_eq_true rfl) dX4_cursorNow_69 ⟨(Nat.le_of_ble_eq_true rfl), (Nat.le_of_ble_eq_true rfl)⟩ ⟨(Nat.le_of_ble_eq_true rfl), (Nat.le_of_ble_eq_true rfl)⟩ ?_
          refine r_w (w' := WM cy ba ra hf hq kn th sm ++ (Y ++ [(b_2, .inl (cy 1, 5, .inl (upd (upd (upd (fun _ => 0) 0 (nI (hf 6 k0))) 1 (nI (hf 7 k0))) 2 ((nI (hf 7 k0)) - (nI 1)))))])) rfl ?_
          refine x_ast C (i := 3) (f := upd (upd (upd (fun _ => 0) 0 (nI (hf 6 k0))) 1 (nI (hf 7 k0))) 2 ((nI (hf 7 k0)) - (nI 1))) (E' := [(b_2, .inl (cy 1, 5, .inl (upd (upd (upd (upd (fun _ => 0) 0 (nI (hf 6 k0))) 1 (nI (hf 7 k0))) 2 ((nI (hf 7 k0)) - (nI 1))) 3 (nI 0))))]) 0 rfl (by first | omega | (simp [up2, *]; done) | (simp [up2, *]; omega) | (simp only [up2_eq]; omega) | (split <;> omega)) (by first | omega | (simp [up2, *]; done) | (simp [up2, *]; omega) | (simp only [up2_eq]; omega) | (split <;> omega)) rfl dX4_cursorNow_72 ?_
          refine r_dup C dX4_cursorNow_73 rfl ?_
          refine r_iconst (v := (nI 4)) C dX4_cursorNow_74 (by decide) ?_
          refine r_aload_n C dX4_cursorNow_75 rfl ?_
          refine m_get (v := .ref (ba 7)) C 7 (by decide) qf_X4_38 rfl rfl dX4_cursorNow_76 ?_
          refine r_iload_n C dX4_cursorNow_79 rfl ?_
          refine m_ald (i := k0) (z := k0) (v := hf 7 k0) C 6 (by decide) (by decide) (show k0 < 3 from (by first | omega | (simp [up2, *]; done) | (simp [up2, *]; omega) | (simp only [up2_eq]; omega) | (split <;> omega))) (show 0 + k0 = k0 from (by omega)) rfl dX4_cursorNow_80 ?_
          refine r_ifN_le (a := (hf 7 k0)) (tgt := 88) C (by first | omega | (simp [up2, *]; done) | (simp [up2, *]; omega) | (simp only [up2_eq]; omega) | (split <;> omega)) dX4_cursorNow_81 (by decide) (fun h81_4 => ?_) (fun h81_4 => ?_)
          · first
            | exfalso; first | omega | contradiction
            | skip
              refine r_iconst (v := (nI 0)) C dX4_cursorNow_88 (by decide) ?_
              refine d_S (st := [.int (nI 4), .ref b_2, .ref b_2]) hX.1.stb C hE (D_one (ba := ba) (ra := ra) (hf := hf) (hq := hq) (kn := kn) (th := th) (sm := sm) (b0 := 0) hX (by first | omega | (simp [up2, *]; done) | (simp [up2, *]; omega) | (simp only [up2_eq]; omega) | (split <;> omega))) pk_X4_one qm_X4_136 rfl rfl (Nat.le_of_ble_eq_true rfl) dX4_cursorNow_89 ⟨(Nat.le_of_ble_eq_true rfl), (Nat.le_of_ble_eq_true rfl)⟩ ⟨(Nat.le_of_ble_eq_true rfl), (Nat.le_of_ble_eq_true rfl)⟩ ?_
              refine r_w (w' := WM cy ba ra hf hq kn th sm ++ (Y ++ [(b_2, .inl (cy 1, 5, .inl (upd (upd (upd (upd (fun _ => 0) 0 (nI (hf 6 k0))) 1 (nI (hf 7 k0))) 2 ((nI (hf 7 k0)) - (nI 1))) 3 (nI 0))))])) rfl ?_
              refine x_ast C (i := 4) (f := upd (upd (upd (upd (fun _ => 0) 0 (nI (hf 6 k0))) 1 (nI (hf 7 k0))) 2 ((nI (hf 7 k0)) - (nI 1))) 3 (nI 0)) (E' := [(b_2, .inl (cy 1, 5, .inl (upd (upd (upd (upd (upd (fun _ => 0) 0 (nI (hf 6 k0))) 1 (nI (hf 7 k0))) 2 ((nI (hf 7 k0)) - (nI 1))) 3 (nI 0)) 4 (nI 0))))]) 0 rfl (by first | omega | (simp [up2, *]; done) | (simp [up2, *]; omega) | (simp only [up2_eq]; omega) | (split <;> omega)) (by first | omega | (simp [up2, *]; done) | (simp [up2, *]; omega) | (simp only [up2_eq]; omega) | (split <;> omega)) rfl dX4_cursorNow_92 ?_
              refine r_astore_n C dX4_cursorNow_93 (by decide) rfl ?_
              refine r_aload_n C dX4_cursorNow_94 rfl ?_
              refine r_iload_n C dX4_cursorNow_95 rfl ?_
              refine x_ald C (i := 3) (f := upd (upd (upd (upd (upd (fun _ => 0) 0 (nI (hf 6 k0))) 1 (nI (hf 7 k0))) 2 ((nI (hf 7 k0)) - (nI 1))) 3 (nI 0)) 4 (nI 0)) 0 rfl (by first | omega | (simp [up2, *]; done) | (simp [up2, *]; omega) | (simp only [up2_eq]; omega) | (split <;> omega)) (by first | omega | (simp [up2, *]; done) | (simp [up2, *]; omega) | (simp only [up2_eq]; omega) | (split <;> omega)) dX4_cursorNow_96 ?_
              refine r_eqi (show (upd (upd (upd (upd (upd (fun _ => 0) 0 (nI (hf 6 k0))) 1 (nI (hf 7 k0))) 2 ((nI (hf 7 k0)) - (nI 1))) 3 (nI 0)) 4 (nI 0)) 3 = (nI 0) from rfl) ?_
              refine r_pre ?_
              exact r_iret C hr dX4_cursorNow_97 ⟨by unfold cqM; rw [if_neg (by omega), if_neg (by decide), if_neg (by decide), if_neg (by decide), if_pos rfl]; first | rw [if_pos (by assumption)] | rw [if_neg (Nat.not_lt.mpr (by assumption))], rfl⟩ (Nat.le_of_ble_eq_true rfl) (Nat.le_of_ble_eq_true rfl)
          · first
            | exfalso; first | omega | contradiction
            | skip
              refine r_iconst (v := (nI 1)) C dX4_cursorNow_84 (by decide) ?_
              refine r_goto (tgt := 89) C dX4_cursorNow_85 (by decide) ?_
              refine d_S (st := [.int (nI 4), .ref b_2, .ref b_2]) hX.1.stb C hE (D_one (ba := ba) (ra := ra) (hf := hf) (hq := hq) (kn := kn) (th := th) (sm := sm) (b0 := 1) hX (by first | omega | (simp [up2, *]; done) | (simp [up2, *]; omega) | (simp only [up2_eq]; omega) | (split <;> omega))) pk_X4_one qm_X4_136 rfl rfl (Nat.le_of_ble_eq_true rfl) dX4_cursorNow_89 ⟨(Nat.le_of_ble_eq_true rfl), (Nat.le_of_ble_eq_true rfl)⟩ ⟨(Nat.le_of_ble_eq_true rfl), (Nat.le_of_ble_eq_true rfl)⟩ ?_
              refine r_w (w' := WM cy ba ra hf hq kn th sm ++ (Y ++ [(b_2, .inl (cy 1, 5, .inl (upd (upd (upd (upd (fun _ => 0) 0 (nI (hf 6 k0))) 1 (nI (hf 7 k0))) 2 ((nI (hf 7 k0)) - (nI 1))) 3 (nI 0))))])) rfl ?_
              refine x_ast C (i := 4) (f := upd (upd (upd (upd (fun _ => 0) 0 (nI (hf 6 k0))) 1 (nI (hf 7 k0))) 2 ((nI (hf 7 k0)) - (nI 1))) 3 (nI 0)) (E' := [(b_2, .inl (cy 1, 5, .inl (upd (upd (upd (upd (upd (fun _ => 0) 0 (nI (hf 6 k0))) 1 (nI (hf 7 k0))) 2 ((nI (hf 7 k0)) - (nI 1))) 3 (nI 0)) 4 (nI 1))))]) 0 rfl (by first | omega | (simp [up2, *]; done) | (simp [up2, *]; omega) | (simp only [up2_eq]; omega) | (split <;> omega)) (by first | omega | (simp [up2, *]; done) | (simp [up2, *]; omega) | (simp only [up2_eq]; omega) | (split <;> omega)) rfl dX4_cursorNow_92 ?_
              refine r_astore_n C dX4_cursorNow_93 (by decide) rfl ?_
              refine r_aload_n C dX4_cursorNow_94 rfl ?_
              refine r_iload_n C dX4_cursorNow_95 rfl ?_
              refine x_ald C (i := 3) (f := upd (upd (upd (upd (upd (fun _ => 0) 0 (nI (hf 6 k0))) 1 (nI (hf 7 k0))) 2 ((nI (hf 7 k0)) - (nI 1))) 3 (nI 0)) 4 (nI 1)) 0 rfl (by first | omega | (simp [up2, *]; done) | (simp [up2, *]; omega) | (simp only [up2_eq]; omega) | (split <;> omega)) (by first | omega | (simp [up2, *]; done) | (simp [up2, *]; omega) | (simp only [up2_eq]; omega) | (split <;> omega)) dX4_cursorNow_96 ?_
              refine r_eqi (show (upd (upd (upd (upd (upd (fun _ => 0) 0 (nI (hf 6 k0))) 1 (nI (hf 7 k0))) 2 ((nI (hf 7 k0)) - (nI 1))) 3 (nI 0)) 4 (nI 1)) 3 = (nI 0) from rfl) ?_
              refine r_pre ?_
              exact r_iret C hr dX4_cursorNow_97 ⟨by unfold cqM; rw [if_neg (by omega), if_neg (by decide), if_neg (by decide), if_neg (by decide), if_pos rfl]; first | rw [if_pos (by assumption)] | rw [if_neg (Nat.not_lt.mpr (by assumption))], rfl⟩ (Nat.le_of_ble_eq_true rfl) (Nat.le_of_ble_eq_true rfl)
      · first
        | exfalso; first | omega | contradiction
        | skip
          refine r_iconst (v := (nI 1)) C dX4_cursorNow_64 (by decide) ?_
          refine r_goto (tgt := 69) C dX4_cursorNow_65 (by decide) ?_
          refine d_S (st := [.int (nI 3), .ref b_2, .ref b_2]) hX.1.stb C hE (D_one (ba := ba) (ra := ra) (hf := hf) (hq := hq) (kn := kn) (th := th) (sm := sm) (b0 := 1) hX (by first | omega | (simp [up2, *]; done) | (simp [up2, *]; omega) | (simp only [up2_eq]; omega) | (split <;> omega))) pk_X4_one qm_X4_136 rfl rfl (Nat.le_of_ble_eq_true rfl) dX4_cursorNow_69 ⟨(Nat.le_of_ble_eq_true rfl), (Nat.le_of_ble_eq_true rfl)⟩ ⟨(Nat.le_of_ble_eq_true rfl), (Nat.le_of_ble_eq_true rfl)⟩ ?_
          refine r_w (w' := WM cy ba ra hf hq kn th sm ++ (Y ++ [(b_2, .inl (cy 1, 5, .inl (upd (upd (upd (fun _ => 0) 0 (nI (hf 6 k0))) 1 (nI (hf 7 k0))) 2 ((nI (hf 7 k0)) - (nI 1)))))])) rfl ?_
          refine x_ast C (i := 3) (f := upd (upd (upd (fun _ => 0) 0 (nI (hf 6 k0))) 1 (nI (hf 7 k0))) 2 ((nI (hf 7 k0)) - (nI 1))) (E' := [(b_2, .inl (cy 1, 5, .inl (upd (upd (upd (upd (fun _ => 0) 0 (nI (hf 6 k0))) 1 (nI (hf 7 k0))) 2 ((nI (hf 7 k0)) - (nI 1))) 3 (nI 1))))]) 0 rfl (by first | omega | (simp [up2, *]; done) | (simp [up2, *]; omega) | (simp only [up2_eq]; omega) | (split <;> omega)) (by first | omega | (simp [up2, *]; done) | (simp [up2, *]; omega) | (simp only [up2_eq]; omega) | (split <;> omega)) rfl dX4_cursorNow_72 ?_
          refine r_dup C dX4_cursorNow_73 rfl ?_
          refine r_iconst (v := (nI 4)) C dX4_cursorNow_74 (by decide) ?_
          refine r_aload_n C dX4_cursorNow_75 rfl ?_
          refine m_get (v := .ref (ba 7)) C 7 (by decide) qf_X4_38 rfl rfl dX4_cursorNow_76 ?_
          refine r_iload_n C dX4_cursorNow_79 rfl ?_
          refine m_ald (i := k0) (z := k0) (v := hf 7 k0) C 6 (by decide) (by decide) (show k0 < 3 from (by first | omega | (simp [up2, *]; done) | (simp [up2, *]; omega) | (simp only [up2_eq]; omega) | (split <;> omega))) (show 0 + k0 = k0 from (by omega)) rfl dX4_cursorNow_80 ?_
          refine r_ifN_le (a := (hf 7 k0)) (tgt := 88) C (by first | omega | (simp [up2, *]; done) | (simp [up2, *]; omega) | (simp only [up2_eq]; omega) | (split <;> omega)) dX4_cursorNow_81 (by decide) (fun h81_5 => ?_) (fun h81_5 => ?_)
          · first
            | exfalso; first | omega | contradiction
            | skip
              refine r_iconst (v := (nI 0)) C dX4_cursorNow_88 (by decide) ?_
              refine d_S (st := [.int (nI 4), .ref b_2, .ref b_2]) hX.1.stb C hE (D_one (ba := ba) (ra := ra) (hf := hf) (hq := hq) (kn := kn) (th := th) (sm := sm) (b0 := 0) hX (by first | omega | (simp [up2, *]; done) | (simp [up2, *]; omega) | (simp only [up2_eq]; omega) | (split <;> omega))) pk_X4_one qm_X4_136 rfl rfl (Nat.le_of_ble_eq_true rfl) dX4_cursorNow_89 ⟨(Nat.le_of_ble_eq_true rfl), (Nat.le_of_ble_eq_true rfl)⟩ ⟨(Nat.le_of_ble_eq_true rfl), (Nat.le_of_ble_eq_true rfl)⟩ ?_
              refine r_w (w' := WM cy ba ra hf hq kn th sm ++ (Y ++ [(b_2, .inl (cy 1, 5, .inl (upd (upd (upd (upd (fun _ => 0) 0 (nI (hf 6 k0))) 1 (nI (hf 7 k0))) 2 ((nI (hf 7 k0)) - (nI 1))) 3 (nI 1))))])) rfl ?_
              refine x_ast C (i := 4) (f := upd (upd (upd (upd (fun _ => 0) 0 (nI (hf 6 k0))) 1 (nI (hf 7 k0))) 2 ((nI (hf 7 k0)) - (nI 1))) 3 (nI 1)) (E' := [(b_2, .inl (cy 1, 5, .inl (upd (upd (upd (upd (upd (fun _ => 0) 0 (nI (hf 6 k0))) 1 (nI (hf 7 k0))) 2 ((nI (hf 7 k0)) - (nI 1))) 3 (nI 1)) 4 (nI 0))))]) 0 rfl (by first | omega | (simp [up2, *]; done) | (simp [up2, *]; omega) | (simp only [up2_eq]; omega) | (split <;> omega)) (by first | omega | (simp [up2, *]; done) | (simp [up2, *]; omega) | (simp only [up2_eq]; omega) | (split <;> omega)) rfl dX4_cursorNow_92 ?_
              refine r_astore_n C dX4_cursorNow_93 (by decide) rfl ?_
              refine r_aload_n C dX4_cursorNow_94 rfl ?_
              refine r_iload_n C dX4_cursorNow_95 rfl ?_
              refine x_ald C (i := 3) (f := upd (upd (upd (upd (upd (fun _ => 0) 0 (nI (hf 6 k0))) 1 (nI (hf 7 k0))) 2 ((nI (hf 7 k0)) - (nI 1))) 3 (nI 1)) 4 (nI 0)) 0 rfl (by first | omega | (simp [up2, *]; done) | (simp [up2, *]; omega) | (simp only [up2_eq]; omega) | (split <;> omega)) (by first | omega | (simp [up2, *]; done) | (simp [up2, *]; omega) | (simp only [up2_eq]; omega) | (split <;> omega)) dX4_cursorNow_96 ?_
              refine r_eqi (show (upd (upd (upd (upd (upd (fun _ => 0) 0 (nI (hf 6 k0))) 1 (nI (hf 7 k0))) 2 ((nI (hf 7 k0)) - (nI 1))) 3 (nI 1)) 4 (nI 0)) 3 = (nI 1) from rfl) ?_
              refine r_pre ?_
              exact r_iret C hr dX4_cursorNow_97 ⟨by unfold cqM; rw [if_neg (by omega), if_neg (by decide), if_neg (by decide), if_neg (by decide), if_pos rfl]; first | rw [if_pos (by assumption)] | rw [if_neg (Nat.not_lt.mpr (by assumption))], rfl⟩ (Nat.le_of_ble_eq_true rfl) (Nat.le_of_ble_eq_true rfl)
          · first
            | exfalso; first | omega | contradiction
            | skip
              refine r_iconst (v := (nI 1)) C dX4_cursorNow_84 (by decide) ?_
              refine r_goto (tgt := 89) C dX4_cursorNow_85 (by decide) ?_
              refine d_S (st := [.int (nI 4), .ref b_2, .ref b_2]) hX.1.stb C hE (D_one (ba := ba) (ra := ra) (hf := hf) (hq := hq) (kn := kn) (th := th) (sm := sm) (b0 := 1) hX (by first | omega | (simp [up2, *]; done) | (simp [up2, *]; omega) | (simp only [up2_eq]; omega) | (split <;> omega))) pk_X4_one qm_X4_136 rfl rfl (Nat.le_of_ble_eq_true rfl) dX4_cursorNow_89 ⟨(Nat.le_of_ble_eq_true rfl), (Nat.le_of_ble_eq_true rfl)⟩ ⟨(Nat.le_of_ble_eq_true rfl), (Nat.le_of_ble_eq_true rfl)⟩ ?_
              refine r_w (w' := WM cy ba ra hf hq kn th sm ++ (Y ++ [(b_2, .inl (cy 1, 5, .inl (upd (upd (upd (upd (fun _ => 0) 0 (nI (hf 6 k0))) 1 (nI (hf 7 k0))) 2 ((nI (hf 7 k0)) - (nI 1))) 3 (nI 1))))])) rfl ?_
              refine x_ast C (i := 4) (f := upd (upd (upd (upd (fun _ => 0) 0 (nI (hf 6 k0))) 1 (nI (hf 7 k0))) 2 ((nI (hf 7 k0)) - (nI 1))) 3 (nI 1)) (E' := [(b_2, .inl (cy 1, 5, .inl (upd (upd (upd (upd (upd (fun _ => 0) 0 (nI (hf 6 k0))) 1 (nI (hf 7 k0))) 2 ((nI (hf 7 k0)) - (nI 1))) 3 (nI 1)) 4 (nI 1))))]) 0 rfl (by first | omega | (simp [up2, *]; done) | (simp [up2, *]; omega) | (simp only [up2_eq]; omega) | (split <;> omega)) (by first | omega | (simp [up2, *]; done) | (simp [up2, *]; omega) | (simp only [up2_eq]; omega) | (split <;> omega)) rfl dX4_cursorNow_92 ?_
              refine r_astore_n C dX4_cursorNow_93 (by decide) rfl ?_
              refine r_aload_n C dX4_cursorNow_94 rfl ?_
              refine r_iload_n C dX4_cursorNow_95 rfl ?_
              refine x_ald C (i := 3) (f := upd (upd (upd (upd (upd (fun _ => 0) 0 (nI (hf 6 k0))) 1 (nI (hf 7 k0))) 2 ((nI (hf 7 k0)) - (nI 1))) 3 (nI 1)) 4 (nI 1)) 0 rfl (by first | omega | (simp [up2, *]; done) | (simp [up2, *]; omega) | (simp only [up2_eq]; omega) | (split <;> omega)) (by first | omega | (simp [up2, *]; done) | (simp [up2, *]; omega) | (simp only [up2_eq]; omega) | (split <;> omega)) dX4_cursorNow_96 ?_
              refine r_eqi (show (upd (upd (upd (upd (upd (fun _ => 0) 0 (nI (hf 6 k0))) 1 (nI (hf 7 k0))) 2 ((nI (hf 7 k0)) - (nI 1))) 3 (nI 1)) 4 (nI 1)) 3 = (nI 1) from rfl) ?_
              refine r_pre ?_
              exact r_iret C hr dX4_cursorNow_97 ⟨by unfold cqM; rw [if_neg (by omega), if_neg (by decide), if_neg (by decide), if_neg (by decide), if_pos rfl]; first | rw [if_pos (by assumption)] | rw [if_neg (Nat.not_lt.mpr (by assumption))], rfl⟩ (Nat.le_of_ble_eq_true rfl) (Nat.le_of_ble_eq_true rfl)
  · first
    | exfalso; first | omega | contradiction
    | skip
      refine r_iconst (v := (nI 4294967295)) C dX4_cursorNow_9 (by decide) ?_
      exact r_iret C hr dX4_cursorNow_10 ⟨by unfold cqM; rw [if_pos (by omega)], rfl⟩ (Nat.le_of_ble_eq_true rfl) (Nat.le_of_ble_eq_true rfl)
set_option maxRecDepth 100000 in
set_option maxHeartbeats 4000000 in
theorem D_cursorNow_4 {l : Launch} {D : va_G} {cy : Nat → ClassId} {X : (Nat → Prop) → State → Heap → Prop} {ba ra : Nat → Nat} {hf : Nat → Nat → Nat} {hq : Nat → Nat → Int32} {kn th : Int32} {sm : Int64} {Y : va_W} {f : Nat → Nat → Nat} {r : Nat → Nat → Int32} {k0 : Nat} (hX : EnvM X cy) (hC : CInv f) (hM : MR f r hf hq) (hk3 : k0 < 3) : Cd l D cy X yX4_cursorNow cX4_cursorNow 4 (some .int) (rmk 1 1 5 40) [.ref (ba 9), .int (nI k0), .int (nI 4)] (WM cy ba ra hf hq kn th sm ++ Y) (some (.int (cqM hf k0 4))) (WM cy ba ra hf hq kn th sm ++ Y) := by
  have hG := hM.1
  have h5M := hM.h5M hC
  have h4M := hC.h4M
  have h9a := hM.h9a hC
  have h6a := hM.h6a
  have hU := hM.hU hC
  have qu := hM.cu hC hk3
  refine Cm.of [some (.ref (ba 9)), some (.int (nI k0)), some (.int (nI 4)), none] pn_X4 rfl (Nat.le_of_ble_eq_true rfl) ?_
  intro p e s m args below meth c A C hE hr hnt hn
  refine r_aload_n C dX4_cursorNow_0 rfl ?_
  refine m_get (v := .ref (ba 5)) C 5 (by decide) qf_X4_32 rfl rfl dX4_cursorNow_1 ?_
  refine r_iload_n C dX4_cursorNow_4 rfl ?_
  refine m_zld (i := k0) (z := k0) (v := hf 9 k0) C 4 (by decide) (by decide) (show k0 < 3 from (by first | omega | (simp [up2, *]; done) | (simp [up2, *]; omega) | (simp only [up2_eq]; omega) | (split <;> omega))) (show 0 + k0 = k0 from (by omega)) rfl dX4_cursorNow_5 ?_
  refine r_ifN_ne (a := (hf 9 k0)) (tgt := 11) C (by omega) dX4_cursorNow_6 (by decide) (fun h6_1 => ?_) (fun h6_1 => ?_)
  · first
    | exfalso; first | omega | contradiction
    | skip
      refine r_iconst (v := (nI 5)) C dX4_cursorNow_11 (by decide) ?_
      refine r_newT C .int .int 1 rfl (by simp) qa_int (n := 5) (show 5 < 1000000 from Nat.lt_of_le_of_lt (show 5 ≤ 5 from (Nat.le_refl _)) (by decide)) (1) (5) (Nat.le_of_ble_eq_true rfl) (Nat.add_le_add (Nat.le_refl _) (show 5 ≤ 5 from (Nat.le_refl _))) (Nat.le_of_ble_eq_true rfl) (Nat.le_of_ble_eq_true rfl) dX4_cursorNow_12 (fun b_2 => ?_)
      refine r_w (w' := WM cy ba ra hf hq kn th sm ++ (Y ++ [(b_2, .inl (cy 1, 5, .inl (fun _ => 0)))])) (by simp only [List.append_assoc, List.cons_append, List.nil_append]) ?_
      refine r_dup C dX4_cursorNow_14 rfl ?_
      refine r_iconst (v := (nI 0)) C dX4_cursorNow_15 (by decide) ?_
      have qo := qu.2.2.2 (by omega)
      have hou := qu.2.2.1
      have h5u : f 5 (hf 6 k0) = 1 := by rw [qo.1]; exact qo.2.2.2.2.1
      have wu := hM.wh hC hou h5u
      have e6 : f 4 (hf 6 k0) = f 4 (f 6 k0) := by rw [qo.1]
      refine r_aload_n C dX4_cursorNow_16 rfl ?_
      refine m_get (v := .ref (ba 6)) C 6 (by decide) qf_X4_35 rfl rfl dX4_cursorNow_17 ?_
      refine r_iload_n C dX4_cursorNow_20 rfl ?_
      refine m_ald (i := k0) (z := k0) (v := hf 6 k0) C 5 (by decide) (by decide) (show k0 < 3 from (by first | omega | (simp [up2, *]; done) | (simp [up2, *]; omega) | (simp only [up2_eq]; omega) | (split <;> omega))) (show 0 + k0 = k0 from (by omega)) rfl dX4_cursorNow_21 ?_
      refine x_ast C (i := 0) (f := fun _ => 0) (E' := [(b_2, .inl (cy 1, 5, .inl (upd (fun _ => 0) 0 (nI (hf 6 k0)))))]) 0 rfl (by first | omega | (simp [up2, *]; done) | (simp [up2, *]; omega) | (simp only [up2_eq]; omega) | (split <;> omega)) (by first | omega | (simp [up2, *]; done) | (simp [up2, *]; omega) | (simp only [up2_eq]; omega) | (split <;> omega)) rfl dX4_cursorNow_22 ?_
      refine r_dup C dX4_cursorNow_23 rfl ?_
      refine r_iconst (v := (nI 1)) C dX4_cursorNow_24 (by decide) ?_
      refine r_aload_n C dX4_cursorNow_25 rfl ?_
      refine m_get (v := .ref (ba 7)) C 7 (by decide) qf_X4_38 rfl rfl dX4_cursorNow_26 ?_
      refine r_iload_n C dX4_cursorNow_29 rfl ?_
      refine m_ald (i := k0) (z := k0) (v := hf 7 k0) C 6 (by decide) (by decide) (show k0 < 3 from (by first | omega | (simp [up2, *]; done) | (simp [up2, *]; omega) | (simp only [up2_eq]; omega) | (split <;> omega))) (show 0 + k0 = k0 from (by omega)) rfl dX4_cursorNow_30 ?_
      refine x_ast C (i := 1) (f := upd (fun _ => 0) 0 (nI (hf 6 k0))) (E' := [(b_2, .inl (cy 1, 5, .inl (upd (upd (fun _ => 0) 0 (nI (hf 6 k0))) 1 (nI (hf 7 k0)))))]) 0 rfl (by first | omega | (simp [up2, *]; done) | (simp [up2, *]; omega) | (simp only [up2_eq]; omega) | (split <;> omega)) (by first | omega | (simp [up2, *]; done) | (simp [up2, *]; omega) | (simp only [up2_eq]; omega) | (split <;> omega)) rfl dX4_cursorNow_31 ?_
      refine r_dup C dX4_cursorNow_32 rfl ?_
      refine r_iconst (v := (nI 2)) C dX4_cursorNow_33 (by decide) ?_
      refine r_aload_n C dX4_cursorNow_34 rfl ?_
      refine m_get (v := .ref (ba 7)) C 7 (by decide) qf_X4_38 rfl rfl dX4_cursorNow_35 ?_
      refine r_iload_n C dX4_cursorNow_38 rfl ?_
      refine m_ald (i := k0) (z := k0) (v := hf 7 k0) C 6 (by decide) (by decide) (show k0 < 3 from (by first | omega | (simp [up2, *]; done) | (simp [up2, *]; omega) | (simp only [up2_eq]; omega) | (split <;> omega))) (show 0 + k0 = k0 from (by omega)) rfl dX4_cursorNow_39 ?_
      refine r_iconst (v := (nI 1)) C dX4_cursorNow_40 (by decide) ?_
      refine r_isub C dX4_cursorNow_41 ?_
      refine x_ast C (i := 2) (f := upd (upd (fun _ => 0) 0 (nI (hf 6 k0))) 1 (nI (hf 7 k0))) (E' := [(b_2, .inl (cy 1, 5, .inl (upd (upd (upd (fun _ => 0) 0 (nI (hf 6 k0))) 1 (nI (hf 7 k0))) 2 ((nI (hf 7 k0)) - (nI 1)))))]) 0 rfl (by first | omega | (simp [up2, *]; done) | (simp [up2, *]; omega) | (simp only [up2_eq]; omega) | (split <;> omega)) (by first | omega | (simp [up2, *]; done) | (simp [up2, *]; omega) | (simp only [up2_eq]; omega) | (split <;> omega)) rfl dX4_cursorNow_42 ?_
      refine r_dup C dX4_cursorNow_43 rfl ?_
      refine r_iconst (v := (nI 3)) C dX4_cursorNow_44 (by decide) ?_
      refine r_aload_n C dX4_cursorNow_45 rfl ?_
      refine m_get (v := .ref (ba 7)) C 7 (by decide) qf_X4_38 rfl rfl dX4_cursorNow_46 ?_
      refine r_iload_n C dX4_cursorNow_49 rfl ?_
      refine m_ald (i := k0) (z := k0) (v := hf 7 k0) C 6 (by decide) (by decide) (show k0 < 3 from (by first | omega | (simp [up2, *]; done) | (simp [up2, *]; omega) | (simp only [up2_eq]; omega) | (split <;> omega))) (show 0 + k0 = k0 from (by omega)) rfl dX4_cursorNow_50 ?_
      refine r_aload_n C dX4_cursorNow_51 rfl ?_
      refine r_aload_n C dX4_cursorNow_52 rfl ?_
      refine m_get (v := .ref (ba 6)) C 6 (by decide) qf_X4_35 rfl rfl dX4_cursorNow_53 ?_
      refine r_iload_n C dX4_cursorNow_56 rfl ?_
      refine m_ald (i := k0) (z := k0) (v := hf 6 k0) C 5 (by decide) (by decide) (show k0 < 3 from (by first | omega | (simp [up2, *]; done) | (simp [up2, *]; omega) | (simp only [up2_eq]; omega) | (split <;> omega))) (show 0 + k0 = k0 from (by omega)) rfl dX4_cursorNow_57 ?_
      refine d_V (st := [.int (nI (hf 7 k0)), .int (nI 3), .ref b_2, .ref b_2]) hX.1.stb C hE (D_sizeOf (ba := ba) (ra := ra) (hf := hf) (hq := hq) (kn := kn) (th := th) (sm := sm) (w := (hf 6 k0)) hX hou) pk_X4_sizeOf qm_X4_59 0 8 rfl rfl wm_0 rfl rfl (Nat.le_of_ble_eq_true rfl) dX4_cursorNow_58 ⟨(Nat.le_of_ble_eq_true rfl), (Nat.le_of_ble_eq_true rfl)⟩ ⟨(Nat.le_of_ble_eq_true rfl), (Nat.le_of_ble_eq_true rfl)⟩ ?_
      refine r_w (w' := WM cy ba ra hf hq kn th sm ++ (Y ++ [(b_2, .inl (cy 1, 5, .inl (upd (upd (upd (fun _ => 0) 0 (nI (hf 6 k0))) 1 (nI (hf 7 k0))) 2 ((nI (hf 7 k0)) - (nI 1)))))])) rfl ?_
      refine r_icN_ge (a := (hf 7 k0)) (b := (hf 4 (hf 6 k0))) (tgt := 68) C (by first | omega | (simp [up2, *]; done) | (simp [up2, *]; omega) | (simp only [up2_eq]; omega) | (split <;> omega)) (by first | omega | (simp [up2, *]; done) | (simp [up2, *]; omega) | (simp only [up2_eq]; omega) | (split <;> omega)) dX4_cursorNow_61 (by decide) (fun h61_3 => ?_) (fun h61_3 => ?_)
      · first
        | exfalso; first | omega | contradiction
        | skip
          refine r_iconst (v := (nI 0)) C dX4_cursorNow_68 (by decide) ?_
          refine d_S (st := [.int (nI 3), .ref b_2, .ref b_2]) hX.1.stb C hE (D_one (ba := ba) (ra := ra) (hf := hf) (hq := hq) (kn := kn) (th := th) (sm := sm) (b0 := 0) hX (by first | omega | (simp [up2, *]; done) | (simp [up2, *]; omega) | (simp only [up2_eq]; omega) | (split <;> omega))) pk_X4_one qm_X4_136 rfl rfl (Nat.le_of_ble_eq_true rfl) dX4_cursorNow_69 ⟨(Nat.le_of_ble_eq_true rfl), (Nat.le_of_ble_eq_true rfl)⟩ ⟨(Nat.le_of_ble_eq_true rfl), (Nat.le_of_ble_eq_true rfl)⟩ ?_
          refine r_w (w' := WM cy ba ra hf hq kn th sm ++ (Y ++ [(b_2, .inl (cy 1, 5, .inl (upd (upd (upd (fun _ => 0) 0 (nI (hf 6 k0))) 1 (nI (hf 7 k0))) 2 ((nI (hf 7 k0)) - (nI 1)))))])) rfl ?_
          refine x_ast C (i := 3) (f := upd (upd (upd (fun _ => 0) 0 (nI (hf 6 k0))) 1 (nI (hf 7 k0))) 2 ((nI (hf 7 k0)) - (nI 1))) (E' := [(b_2, .inl (cy 1, 5, .inl (upd (upd (upd (upd (fun _ => 0) 0 (nI (hf 6 k0))) 1 (nI (hf 7 k0))) 2 ((nI (hf 7 k0)) - (nI 1))) 3 (nI 0))))]) 0 rfl (by first | omega | (simp [up2, *]; done) | (simp [up2, *]; omega) | (simp only [up2_eq]; omega) | (split <;> omega)) (by first | omega | (simp [up2, *]; done) | (simp [up2, *]; omega) | (simp only [up2_eq]; omega) | (split <;> omega)) rfl dX4_cursorNow_72 ?_
          refine r_dup C dX4_cursorNow_73 rfl ?_
          refine r_iconst (v := (nI 4)) C dX4_cursorNow_74 (by decide) ?_
          refine r_aload_n C dX4_cursorNow_75 rfl ?_
          refine m_get (v := .ref (ba 7)) C 7 (by decide) qf_X4_38 rfl rfl dX4_cursorNow_76 ?_
          refine r_iload_n C dX4_cursorNow_79 rfl ?_
          refine m_ald (i := k0) (z := k0) (v := hf 7 k0) C 6 (by decide) (by decide) (show k0 < 3 from (by first | omega | (simp [up2, *]; done) | (simp [up2, *]; omega) | (simp only [up2_eq]; omega) | (split <;> omega))) (show 0 + k0 = k0 from (by omega)) rfl dX4_cursorNow_80 ?_
          refine r_ifN_le (a := (hf 7 k0)) (tgt := 88) C (by first | omega | (simp [up2, *]; done) | (simp [up2, *]; omega) | (simp only [up2_eq]; omega) | (split <;> omega)) dX4_cursorNow_81 (by decide) (fun h81_4 => ?_) (fun h81_4 => ?_)
          · first
            | exfalso; first | omega | contradiction
            | skip
              refine r_iconst (v := (nI 0)) C dX4_cursorNow_88 (by decide) ?_
              refine d_S (st := [.int (nI 4), .ref b_2, .ref b_2]) hX.1.stb C hE (D_one (ba := ba) (ra := ra) (hf := hf) (hq := hq) (kn := kn) (th := th) (sm := sm) (b0 := 0) hX (by first | omega | (simp [up2, *]; done) | (simp [up2, *]; omega) | (simp only [up2_eq]; omega) | (split <;> omega))) pk_X4_one qm_X4_136 rfl rfl (Nat.le_of_ble_eq_true rfl) dX4_cursorNow_89 ⟨(Nat.le_of_ble_eq_true rfl), (Nat.le_of_ble_eq_true rfl)⟩ ⟨(Nat.le_of_ble_eq_true rfl), (Nat.le_of_ble_eq_true rfl)⟩ ?_
              refine r_w (w' := WM cy ba ra hf hq kn th sm ++ (Y ++ [(b_2, .inl (cy 1, 5, .inl (upd (upd (upd (upd (fun _ => 0) 0 (nI (hf 6 k0))) 1 (nI (hf 7 k0))) 2 ((nI (hf 7 k0)) - (nI 1))) 3 (nI 0))))])) rfl ?_
              refine x_ast C (i := 4) (f := upd (upd (upd (upd (fun _ => 0) 0 (nI (hf 6 k0))) 1 (nI (hf 7 k0))) 2 ((nI (hf 7 k0)) - (nI 1))) 3 (nI 0)) (E' := [(b_2, .inl (cy 1, 5, .inl (upd (upd (upd (upd (upd (fun _ => 0) 0 (nI (hf 6 k0))) 1 (nI (hf 7 k0))) 2 ((nI (hf 7 k0)) - (nI 1))) 3 (nI 0)) 4 (nI 0))))]) 0 rfl (by first | omega | (simp [up2, *]; done) | (simp [up2, *]; omega) | (simp only [up2_eq]; omega) | (split <;> omega)) (by first | omega | (simp [up2, *]; done) | (simp [up2, *]; omega) | (simp only [up2_eq]; omega) | (split <;> omega)) rfl dX4_cursorNow_92 ?_
              refine r_astore_n C dX4_cursorNow_93 (by decide) rfl ?_
              refine r_aload_n C dX4_cursorNow_94 rfl ?_
              refine r_iload_n C dX4_cursorNow_95 rfl ?_
              refine x_ald C (i := 4) (f := upd (upd (upd (upd (upd (fun _ => 0) 0 (nI (hf 6 k0))) 1 (nI (hf 7 k0))) 2 ((nI (hf 7 k0)) - (nI 1))) 3 (nI 0)) 4 (nI 0)) 0 rfl (by first | omega | (simp [up2, *]; done) | (simp [up2, *]; omega) | (simp only [up2_eq]; omega) | (split <;> omega)) (by first | omega | (simp [up2, *]; done) | (simp [up2, *]; omega) | (simp only [up2_eq]; omega) | (split <;> omega)) dX4_cursorNow_96 ?_
              refine r_eqi (show (upd (upd (upd (upd (upd (fun _ => 0) 0 (nI (hf 6 k0))) 1 (nI (hf 7 k0))) 2 ((nI (hf 7 k0)) - (nI 1))) 3 (nI 0)) 4 (nI 0)) 4 = (nI 0) from rfl) ?_
              refine r_pre ?_
              exact r_iret C hr dX4_cursorNow_97 ⟨by unfold cqM; rw [if_neg (by omega), if_neg (by decide), if_neg (by decide), if_neg (by decide), if_neg (by decide)]; first | rw [if_pos (by omega)] | rw [if_neg (by omega)], rfl⟩ (Nat.le_of_ble_eq_true rfl) (Nat.le_of_ble_eq_true rfl)
          · first
            | exfalso; first | omega | contradiction
            | skip
              refine r_iconst (v := (nI 1)) C dX4_cursorNow_84 (by decide) ?_
              refine r_goto (tgt := 89) C dX4_cursorNow_85 (by decide) ?_
              refine d_S (st := [.int (nI 4), .ref b_2, .ref b_2]) hX.1.stb C hE (D_one (ba := ba) (ra := ra) (hf := hf) (hq := hq) (kn := kn) (th := th) (sm := sm) (b0 := 1) hX (by first | omega | (simp [up2, *]; done) | (simp [up2, *]; omega) | (simp only [up2_eq]; omega) | (split <;> omega))) pk_X4_one qm_X4_136 rfl rfl (Nat.le_of_ble_eq_true rfl) dX4_cursorNow_89 ⟨(Nat.le_of_ble_eq_true rfl), (Nat.le_of_ble_eq_true rfl)⟩ ⟨(Nat.le_of_ble_eq_true rfl), (Nat.le_of_ble_eq_true rfl)⟩ ?_
              refine r_w (w' := WM cy ba ra hf hq kn th sm ++ (Y ++ [(b_2, .inl (cy 1, 5, .inl (upd (upd (upd (upd (fun _ => 0) 0 (nI (hf 6 k0))) 1 (nI (hf 7 k0))) 2 ((nI (hf 7 k0)) - (nI 1))) 3 (nI 0))))])) rfl ?_
              refine x_ast C (i := 4) (f := upd (upd (upd (upd (fun _ => 0) 0 (nI (hf 6 k0))) 1 (nI (hf 7 k0))) 2 ((nI (hf 7 k0)) - (nI 1))) 3 (nI 0)) (E' := [(b_2, .inl (cy 1, 5, .inl (upd (upd (upd (upd (upd (fun _ => 0) 0 (nI (hf 6 k0))) 1 (nI (hf 7 k0))) 2 ((nI (hf 7 k0)) - (nI 1))) 3 (nI 0)) 4 (nI 1))))]) 0 rfl (by first | omega | (simp [up2, *]; done) | (simp [up2, *]; omega) | (simp only [up2_eq]; omega) | (split <;> omega)) (by first | omega | (simp [up2, *]; done) | (simp [up2, *]; omega) | (simp only [up2_eq]; omega) | (split <;> omega)) rfl dX4_cursorNow_92 ?_
              refine r_astore_n C dX4_cursorNow_93 (by decide) rfl ?_
              refine r_aload_n C dX4_cursorNow_94 rfl ?_
              refine r_iload_n C dX4_cursorNow_95 rfl ?_
              refine x_ald C (i := 4) (f := upd (upd (upd (upd (upd (fun _ => 0) 0 (nI (hf 6 k0))) 1 (nI (hf 7 k0))) 2 ((nI (hf 7 k0)) - (nI 1))) 3 (nI 0)) 4 (nI 1)) 0 rfl (by first | omega | (simp [up2, *]; done) | (simp [up2, *]; omega) | (simp only [up2_eq]; omega) | (split <;> omega)) (by first | omega | (simp [up2, *]; done) | (simp [up2, *]; omega) | (simp only [up2_eq]; omega) | (split <;> omega)) dX4_cursorNow_96 ?_
              refine r_eqi (show (upd (upd (upd (upd (upd (fun _ => 0) 0 (nI (hf 6 k0))) 1 (nI (hf 7 k0))) 2 ((nI (hf 7 k0)) - (nI 1))) 3 (nI 0)) 4 (nI 1)) 4 = (nI 1) from rfl) ?_
              refine r_pre ?_
              exact r_iret C hr dX4_cursorNow_97 ⟨by unfold cqM; rw [if_neg (by omega), if_neg (by decide), if_neg (by decide), if_neg (by decide), if_neg (by decide)]; first | rw [if_pos (by omega)] | rw [if_neg (by omega)], rfl⟩ (Nat.le_of_ble_eq_true rfl) (Nat.le_of_ble_eq_true rfl)
      · first
        | exfalso; first | omega | contradiction
        | skip
          refine r_iconst (v := (nI 1)) C dX4_cursorNow_64 (by decide) ?_
          refine r_goto (tgt := 69) C dX4_cursorNow_65 (by decide) ?_
          refine d_S (st := [.int (nI 3), .ref b_2, .ref b_2]) hX.1.stb C hE (D_one (ba := ba) (ra := ra) (hf := hf) (hq := hq) (kn := kn) (th := th) (sm := sm) (b0 := 1) hX (by first | omega | (simp [up2, *]; done) | (simp [up2, *]; omega) | (simp only [up2_eq]; omega) | (split <;> omega))) pk_X4_one qm_X4_136 rfl rfl (Nat.le_of_ble_eq_true rfl) dX4_cursorNow_69 ⟨(Nat.le_of_ble_eq_true rfl), (Nat.le_of_ble_eq_true rfl)⟩ ⟨(Nat.le_of_ble_eq_true rfl), (Nat.le_of_ble_eq_true rfl)⟩ ?_
          refine r_w (w' := WM cy ba ra hf hq kn th sm ++ (Y ++ [(b_2, .inl (cy 1, 5, .inl (upd (upd (upd (fun _ => 0) 0 (nI (hf 6 k0))) 1 (nI (hf 7 k0))) 2 ((nI (hf 7 k0)) - (nI 1)))))])) rfl ?_
          refine x_ast C (i := 3) (f := upd (upd (upd (fun _ => 0) 0 (nI (hf 6 k0))) 1 (nI (hf 7 k0))) 2 ((nI (hf 7 k0)) - (nI 1))) (E' := [(b_2, .inl (cy 1, 5, .inl (upd (upd (upd (upd (fun _ => 0) 0 (nI (hf 6 k0))) 1 (nI (hf 7 k0))) 2 ((nI (hf 7 k0)) - (nI 1))) 3 (nI 1))))]) 0 rfl (by first | omega | (simp [up2, *]; done) | (simp [up2, *]; omega) | (simp only [up2_eq]; omega) | (split <;> omega)) (by first | omega | (simp [up2, *]; done) | (simp [up2, *]; omega) | (simp only [up2_eq]; omega) | (split <;> omega)) rfl dX4_cursorNow_72 ?_
          refine r_dup C dX4_cursorNow_73 rfl ?_
          refine r_iconst (v := (nI 4)) C dX4_cursorNow_74 (by decide) ?_
          refine r_aload_n C dX4_cursorNow_75 rfl ?_
          refine m_get (v := .ref (ba 7)) C 7 (by decide) qf_X4_38 rfl rfl dX4_cursorNow_76 ?_
          refine r_iload_n C dX4_cursorNow_79 rfl ?_
          refine m_ald (i := k0) (z := k0) (v := hf 7 k0) C 6 (by decide) (by decide) (show k0 < 3 from (by first | omega | (simp [up2, *]; done) | (simp [up2, *]; omega) | (simp only [up2_eq]; omega) | (split <;> omega))) (show 0 + k0 = k0 from (by omega)) rfl dX4_cursorNow_80 ?_
          refine r_ifN_le (a := (hf 7 k0)) (tgt := 88) C (by first | omega | (simp [up2, *]; done) | (simp [up2, *]; omega) | (simp only [up2_eq]; omega) | (split <;> omega)) dX4_cursorNow_81 (by decide) (fun h81_5 => ?_) (fun h81_5 => ?_)
          · first
            | exfalso; first | omega | contradiction
            | skip
              refine r_iconst (v := (nI 0)) C dX4_cursorNow_88 (by decide) ?_
              refine d_S (st := [.int (nI 4), .ref b_2, .ref b_2]) hX.1.stb C hE (D_one (ba := ba) (ra := ra) (hf := hf) (hq := hq) (kn := kn) (th := th) (sm := sm) (b0 := 0) hX (by first | omega | (simp [up2, *]; done) | (simp [up2, *]; omega) | (simp only [up2_eq]; omega) | (split <;> omega))) pk_X4_one qm_X4_136 rfl rfl (Nat.le_of_ble_eq_true rfl) dX4_cursorNow_89 ⟨(Nat.le_of_ble_eq_true rfl), (Nat.le_of_ble_eq_true rfl)⟩ ⟨(Nat.le_of_ble_eq_true rfl), (Nat.le_of_ble_eq_true rfl)⟩ ?_
              refine r_w (w' := WM cy ba ra hf hq kn th sm ++ (Y ++ [(b_2, .inl (cy 1, 5, .inl (upd (upd (upd (upd (fun _ => 0) 0 (nI (hf 6 k0))) 1 (nI (hf 7 k0))) 2 ((nI (hf 7 k0)) - (nI 1))) 3 (nI 1))))])) rfl ?_
              refine x_ast C (i := 4) (f := upd (upd (upd (upd (fun _ => 0) 0 (nI (hf 6 k0))) 1 (nI (hf 7 k0))) 2 ((nI (hf 7 k0)) - (nI 1))) 3 (nI 1)) (E' := [(b_2, .inl (cy 1, 5, .inl (upd (upd (upd (upd (upd (fun _ => 0) 0 (nI (hf 6 k0))) 1 (nI (hf 7 k0))) 2 ((nI (hf 7 k0)) - (nI 1))) 3 (nI 1)) 4 (nI 0))))]) 0 rfl (by first | omega | (simp [up2, *]; done) | (simp [up2, *]; omega) | (simp only [up2_eq]; omega) | (split <;> omega)) (by first | omega | (simp [up2, *]; done) | (simp [up2, *]; omega) | (simp only [up2_eq]; omega) | (split <;> omega)) rfl dX4_cursorNow_92 ?_
              refine r_astore_n C dX4_cursorNow_93 (by decide) rfl ?_
              refine r_aload_n C dX4_cursorNow_94 rfl ?_
              refine r_iload_n C dX4_cursorNow_95 rfl ?_
              refine x_ald C (i := 4) (f := upd (upd (upd (upd (upd (fun _ => 0) 0 (nI (hf 6 k0))) 1 (nI (hf 7 k0))) 2 ((nI (hf 7 k0)) - (nI 1))) 3 (nI 1)) 4 (nI 0)) 0 rfl (by first | omega | (simp [up2, *]; done) | (simp [up2, *]; omega) | (simp only [up2_eq]; omega) | (split <;> omega)) (by first | omega | (simp [up2, *]; done) | (simp [up2, *]; omega) | (simp only [up2_eq]; omega) | (split <;> omega)) dX4_cursorNow_96 ?_
              refine r_eqi (show (upd (upd (upd (upd (upd (fun _ => 0) 0 (nI (hf 6 k0))) 1 (nI (hf 7 k0))) 2 ((nI (hf 7 k0)) - (nI 1))) 3 (nI 1)) 4 (nI 0)) 4 = (nI 0) from rfl) ?_
              refine r_pre ?_
              exact r_iret C hr dX4_cursorNow_97 ⟨by unfold cqM; rw [if_neg (by omega), if_neg (by decide), if_neg (by decide), if_neg (by decide), if_neg (by decide)]; first | rw [if_pos (by omega)] | rw [if_neg (by omega)], rfl⟩ (Nat.le_of_ble_eq_true rfl) (Nat.le_of_ble_eq_true rfl)
          · first
            | exfalso; first | omega | contradiction
            | skip
              refine r_iconst (v := (nI 1)) C dX4_cursorNow_84 (by decide) ?_
              refine r_goto (tgt := 89) C dX4_cursorNow_85 (by decide) ?_
              refine d_S (st := [.int (nI 4), .ref b_2, .ref b_2]) hX.1.stb C hE (D_one (ba := ba) (ra := ra) (hf := hf) (hq := hq) (kn := kn) (th := th) (sm := sm) (b0 := 1) hX (by first | omega | (simp [up2, *]; done) | (simp [up2, *]; omega) | (simp only [up2_eq]; omega) | (split <;> omega))) pk_X4_one qm_X4_136 rfl rfl (Nat.le_of_ble_eq_true rfl) dX4_cursorNow_89 ⟨(Nat.le_of_ble_eq_true rfl), (Nat.le_of_ble_eq_true rfl)⟩ ⟨(Nat.le_of_ble_eq_true rfl), (Nat.le_of_ble_eq_true rfl)⟩ ?_
              refine r_w (w' := WM cy ba ra hf hq kn th sm ++ (Y ++ [(b_2, .inl (cy 1, 5, .inl (upd (upd (upd (upd (fun _ => 0) 0 (nI (hf 6 k0))) 1 (nI (hf 7 k0))) 2 ((nI (hf 7 k0)) - (nI 1))) 3 (nI 1))))])) rfl ?_
              refine x_ast C (i := 4) (f := upd (upd (upd (upd (fun _ => 0) 0 (nI (hf 6 k0))) 1 (nI (hf 7 k0))) 2 ((nI (hf 7 k0)) - (nI 1))) 3 (nI 1)) (E' := [(b_2, .inl (cy 1, 5, .inl (upd (upd (upd (upd (upd (fun _ => 0) 0 (nI (hf 6 k0))) 1 (nI (hf 7 k0))) 2 ((nI (hf 7 k0)) - (nI 1))) 3 (nI 1)) 4 (nI 1))))]) 0 rfl (by first | omega | (simp [up2, *]; done) | (simp [up2, *]; omega) | (simp only [up2_eq]; omega) | (split <;> omega)) (by first | omega | (simp [up2, *]; done) | (simp [up2, *]; omega) | (simp only [up2_eq]; omega) | (split <;> omega)) rfl dX4_cursorNow_92 ?_
              refine r_astore_n C dX4_cursorNow_93 (by decide) rfl ?_
              refine r_aload_n C dX4_cursorNow_94 rfl ?_
              refine r_iload_n C dX4_cursorNow_95 rfl ?_
              refine x_ald C (i := 4) (f := upd (upd (upd (upd (upd (fun _ => 0) 0 (nI (hf 6 k0))) 1 (nI (hf 7 k0))) 2 ((nI (hf 7 k0)) - (nI 1))) 3 (nI 1)) 4 (nI 1)) 0 rfl (by first | omega | (simp [up2, *]; done) | (simp [up2, *]; omega) | (simp only [up2_eq]; omega) | (split <;> omega)) (by first | omega | (simp [up2, *]; done) | (simp [up2, *]; omega) | (simp only [up2_eq]; omega) | (split <;> omega)) dX4_cursorNow_96 ?_
              refine r_eqi (show (upd (upd (upd (upd (upd (fun _ => 0) 0 (nI (hf 6 k0))) 1 (nI (hf 7 k0))) 2 ((nI (hf 7 k0)) - (nI 1))) 3 (nI 1)) 4 (nI 1)) 4 = (nI 1) from rfl) ?_
              refine r_pre ?_
              exact r_iret C hr dX4_cursorNow_97 ⟨by unfold cqM; rw [if_neg (by omega), if_neg (by decide), if_neg (by decide), if_neg (by decide), if_neg (by decide)]; first | rw [if_pos (by omega)] | rw [if_neg (by omega)], rfl⟩ (Nat.le_of_ble_eq_true rfl) (Nat.le_of_ble_eq_true rfl)
  · first
    | exfalso; first | omega | contradiction
    | skip
      refine r_iconst (v := (nI 4294967295)) C dX4_cursorNow_9 (by decide) ?_
      exact r_iret C hr dX4_cursorNow_10 ⟨by unfold cqM; rw [if_pos (by omega)], rfl⟩ (Nat.le_of_ble_eq_true rfl) (Nat.le_of_ble_eq_true rfl)
theorem D_cursorNow {l : Launch} {D : va_G} {cy : Nat → ClassId} {X : (Nat → Prop) → State → Heap → Prop} {ba ra : Nat → Nat} {hf : Nat → Nat → Nat} {hq : Nat → Nat → Int32} {kn th : Int32} {sm : Int64} {Y : va_W} {f : Nat → Nat → Nat} {r : Nat → Nat → Int32} {k0 q0 : Nat} (hX : EnvM X cy) (hC : CInv f) (hM : MR f r hf hq) (hk3 : k0 < 3) (hq5 : q0 < 5) : Cd l D cy X yX4_cursorNow cX4_cursorNow 4 (some .int) (rmk 1 1 5 40) [.ref (ba 9), .int (nI k0), .int (nI q0)] (WM cy ba ra hf hq kn th sm ++ Y) (some (.int (cqM hf k0 q0))) (WM cy ba ra hf hq kn th sm ++ Y) := by
  obtain rfl | rfl | rfl | rfl | rfl : q0 = 0 ∨ q0 = 1 ∨ q0 = 2 ∨ q0 = 3 ∨ q0 = 4 := by omega
  · exact D_cursorNow_0 hX hC hM hk3
  · exact D_cursorNow_1 hX hC hM hk3
  · exact D_cursorNow_2 hX hC hM hk3
  · exact D_cursorNow_3 hX hC hM hk3
  · exact D_cursorNow_4 hX hC hM hk3
theorem dX4_ofCursor_0 : decode cX4_ofCursor 0 = .ok (.aload_n 0, 1) := dqo_42 (kb_of ke_X4_ofCursor 0 rfl)
theorem dX4_ofCursor_1 : decode cX4_ofCursor 1 = .ok (.iload_n 1, 1) := dqo_27 (kb_of ke_X4_ofCursor 1 rfl)
theorem dX4_ofCursor_2 : decode cX4_ofCursor 2 = .ok (.invokestatic 193, 3) := dqo_184 0 193 (kb_of ke_X4_ofCursor 2 rfl) (kb_of ke_X4_ofCursor 3 rfl) (kb_of ke_X4_ofCursor 4 rfl)
theorem dX4_ofCursor_5 : decode cX4_ofCursor 5 = .ok (.iload_n 2, 1) := dqo_28 (kb_of ke_X4_ofCursor 5 rfl)
theorem dX4_ofCursor_6 : decode cX4_ofCursor 6 = .ok (.iconst 0, 1) := dqo_3 (kb_of ke_X4_ofCursor 6 rfl)
theorem dX4_ofCursor_7 : decode cX4_ofCursor 7 = .ok (.iconst 4, 1) := dqo_7 (kb_of ke_X4_ofCursor 7 rfl)
theorem dX4_ofCursor_8 : decode cX4_ofCursor 8 = .ok (.invokestatic 1, 3) := dqo_184 0 1 (kb_of ke_X4_ofCursor 8 rfl) (kb_of ke_X4_ofCursor 9 rfl) (kb_of ke_X4_ofCursor 10 rfl)
theorem dX4_ofCursor_11 : decode cX4_ofCursor 11 = .ok (.ifCond .ne 7, 3) := dqo_154 0 7 (by decide) (kb_of ke_X4_ofCursor 11 rfl) (kb_of ke_X4_ofCursor 12 rfl) (kb_of ke_X4_ofCursor 13 rfl)
theorem dX4_ofCursor_14 : decode cX4_ofCursor 14 = .ok (.iconst 1, 1) := dqo_4 (kb_of ke_X4_ofCursor 14 rfl)
theorem dX4_ofCursor_15 : decode cX4_ofCursor 15 = .ok (.goto 4, 3) := dqo_167 0 4 (by decide) (kb_of ke_X4_ofCursor 15 rfl) (kb_of ke_X4_ofCursor 16 rfl) (kb_of ke_X4_ofCursor 17 rfl)
theorem dX4_ofCursor_18 : decode cX4_ofCursor 18 = .ok (.iconst 0, 1) := dqo_3 (kb_of ke_X4_ofCursor 18 rfl)
theorem dX4_ofCursor_19 : decode cX4_ofCursor 19 = .ok (.iconst 0, 1) := dqo_3 (kb_of ke_X4_ofCursor 19 rfl)
theorem dX4_ofCursor_20 : decode cX4_ofCursor 20 = .ok (.invokevirtual 84, 3) := dqo_182 0 84 (kb_of ke_X4_ofCursor 20 rfl) (kb_of ke_X4_ofCursor 21 rfl) (kb_of ke_X4_ofCursor 22 rfl)
theorem dX4_ofCursor_23 : decode cX4_ofCursor 23 = .ok (.ifCond .eq 7, 3) := dqo_153 0 7 (by decide) (kb_of ke_X4_ofCursor 23 rfl) (kb_of ke_X4_ofCursor 24 rfl) (kb_of ke_X4_ofCursor 25 rfl)
theorem dX4_ofCursor_26 : decode cX4_ofCursor 26 = .ok (.iconst 0, 1) := dqo_3 (kb_of ke_X4_ofCursor 26 rfl)
theorem dX4_ofCursor_27 : decode cX4_ofCursor 27 = .ok (.goto 9, 3) := dqo_167 0 9 (by decide) (kb_of ke_X4_ofCursor 27 rfl) (kb_of ke_X4_ofCursor 28 rfl) (kb_of ke_X4_ofCursor 29 rfl)
theorem dX4_ofCursor_36 : decode cX4_ofCursor 36 = .ok (.ireturn, 1) := dqo_172 (kb_of ke_X4_ofCursor 36 rfl)
set_option maxRecDepth 100000 in
set_option maxHeartbeats 4000000 in
theorem D_ofCursor_noC {l : Launch} {D : va_G} {cy : Nat → ClassId} {X : (Nat → Prop) → State → Heap → Prop} {ba ra : Nat → Nat} {hf : Nat → Nat → Nat} {hq : Nat → Nat → Int32} {kn th : Int32} {sm : Int64} {Y : va_W} {f : Nat → Nat → Nat} {r : Nat → Nat → Int32} {x : Int32} {y0 : Int32} (hX : EnvM X cy) (hC : CInv f) (hM : MR f r hf hq) (hno : ¬ (0 ≤ x ∧ x < nI 3)) : Cd l D cy X yX4_ofCursor cX4_ofCursor 3 (some .int) (rmk 9 4 48 420) [.ref (ba 9), .int x, .int y0] (WM cy ba ra hf hq kn th sm ++ Y) (some (.int (nI 0))) (WM cy ba ra hf hq kn (nI 1) sm ++ Y) := by
  have hG := hM.1
  have h5M := hM.h5M hC
  have h4M := hC.h4M
  have h9a := hM.h9a hC
  have h6a := hM.h6a
  have hU := hM.hU hC
  refine Cm.of [some (.ref (ba 9)), some (.int x), some (.int y0)] pn_X4 rfl (Nat.le_of_ble_eq_true rfl) ?_
  intro p e s m args below meth c A C hE hr hnt hn
  refine r_aload_n C dX4_ofCursor_0 rfl ?_
  refine r_iload_n C dX4_ofCursor_1 rfl ?_
  refine d_S (st := [.ref (ba 9)]) hX.1.stb C hE (D_isNoCursor1 (ba := ba) (ra := ra) (hf := hf) (hq := hq) (kn := kn) (th := th) (sm := sm) (Y := Y) (x := (x)) hX hno) pk_X4_isNoCursor qm_X4_193 rfl rfl (Nat.le_of_ble_eq_true rfl) dX4_ofCursor_2 ⟨(Nat.le_of_ble_eq_true rfl), (Nat.le_of_ble_eq_true rfl)⟩ ⟨(Nat.le_of_ble_eq_true rfl), (Nat.le_of_ble_eq_true rfl)⟩ ?_
  refine r_w (w' := WM cy ba ra hf hq kn th sm ++ Y) rfl ?_
  refine r_iload_n C dX4_ofCursor_5 rfl ?_
  refine r_iconst (v := (nI 0)) C dX4_ofCursor_6 (by decide) ?_
  refine r_iconst (v := (nI 4)) C dX4_ofCursor_7 (by decide) ?_
  refine d_S (st := [.int (nI 1), .ref (ba 9)]) hX.1.stb C hE (D_isInX (ba := ba) (ra := ra) (hf := hf) (hq := hq) (kn := kn) (th := th) (sm := sm) (Y := Y) (x := (y0)) (y := ((nI 0))) (z := ((nI 4))) hX ) pk_X4_isIn qm_X4_1 rfl rfl (Nat.le_of_ble_eq_true rfl) dX4_ofCursor_8 ⟨(Nat.le_of_ble_eq_true rfl), (Nat.le_of_ble_eq_true rfl)⟩ ⟨(Nat.le_of_ble_eq_true rfl), (Nat.le_of_ble_eq_true rfl)⟩ ?_
  refine r_w (w' := WM cy ba ra hf hq kn th sm ++ Y) rfl ?_
  refine r_ifN_ne (a := (if ((nI 0)) ≤ (y0) ∧ (y0) ≤ ((nI 4)) then 1 else 0)) (tgt := 18) C (by first | omega | (simp [up2, *]; done) | (simp [up2, *]; omega) | (simp only [up2_eq]; omega) | (split <;> omega)) dX4_ofCursor_11 (by decide) (fun h11_1 => ?_) (fun h11_1 => ?_)
  · first
    | exfalso; first | omega | contradiction
    | skip
      refine r_iconst (v := (nI 0)) C dX4_ofCursor_18 (by decide) ?_
      refine r_iconst (v := (nI 0)) C dX4_ofCursor_19 (by decide) ?_
      refine d_V (st := []) hX.1.stb C hE (D_fails1 (ba := ba) (ra := ra) (hf := hf) (hq := hq) (kn := kn) (th := th) (sm := sm) (Y := Y) (b0 := 0) (d0 := 0) hX ) pk_X4_fails qm_X4_84 0 8 rfl rfl wm_0 rfl rfl (Nat.le_of_ble_eq_true rfl) dX4_ofCursor_20 ⟨(Nat.le_of_ble_eq_true rfl), (Nat.le_of_ble_eq_true rfl)⟩ ⟨(Nat.le_of_ble_eq_true rfl), (Nat.le_of_ble_eq_true rfl)⟩ ?_
      refine r_w (w' := WM cy ba ra hf hq kn (nI 1) sm ++ Y) rfl ?_
      refine r_ifN_eq (a := 1) (tgt := 30) C (by first | omega | (simp [up2, *]; done) | (simp [up2, *]; omega) | (simp only [up2_eq]; omega) | (split <;> omega)) dX4_ofCursor_23 (by decide) (fun h23_2 => ?_) (fun h23_2 => ?_)
      · exact absurd h23_2 (by first | omega | (simp [up2, *]; done) | (simp [up2, *]; omega) | (simp only [up2_eq]; omega) | (split <;> omega))
      · skip
        refine r_iconst (v := (nI 0)) C dX4_ofCursor_26 (by decide) ?_
        refine r_goto (tgt := 36) C dX4_ofCursor_27 (by decide) ?_
        exact r_iret C hr dX4_ofCursor_36 ⟨rfl, rfl⟩ (Nat.le_of_ble_eq_true rfl) (Nat.le_of_ble_eq_true rfl)
  · first
    | exfalso; first | omega | contradiction
    | skip
      refine r_iconst (v := (nI 1)) C dX4_ofCursor_14 (by decide) ?_
      refine r_goto (tgt := 19) C dX4_ofCursor_15 (by decide) ?_
      refine r_iconst (v := (nI 0)) C dX4_ofCursor_19 (by decide) ?_
      refine d_V (st := []) hX.1.stb C hE (D_fails1 (ba := ba) (ra := ra) (hf := hf) (hq := hq) (kn := kn) (th := th) (sm := sm) (Y := Y) (b0 := 1) (d0 := 0) hX ) pk_X4_fails qm_X4_84 0 8 rfl rfl wm_0 rfl rfl (Nat.le_of_ble_eq_true rfl) dX4_ofCursor_20 ⟨(Nat.le_of_ble_eq_true rfl), (Nat.le_of_ble_eq_true rfl)⟩ ⟨(Nat.le_of_ble_eq_true rfl), (Nat.le_of_ble_eq_true rfl)⟩ ?_
      refine r_w (w' := WM cy ba ra hf hq kn (nI 1) sm ++ Y) rfl ?_
      refine r_ifN_eq (a := 1) (tgt := 30) C (by first | omega | (simp [up2, *]; done) | (simp [up2, *]; omega) | (simp only [up2_eq]; omega) | (split <;> omega)) dX4_ofCursor_23 (by decide) (fun h23_3 => ?_) (fun h23_3 => ?_)
      · exact absurd h23_3 (by first | omega | (simp [up2, *]; done) | (simp [up2, *]; omega) | (simp only [up2_eq]; omega) | (split <;> omega))
      · skip
        refine r_iconst (v := (nI 0)) C dX4_ofCursor_26 (by decide) ?_
        refine r_goto (tgt := 36) C dX4_ofCursor_27 (by decide) ?_
        exact r_iret C hr dX4_ofCursor_36 ⟨rfl, rfl⟩ (Nat.le_of_ble_eq_true rfl) (Nat.le_of_ble_eq_true rfl)
set_option maxRecDepth 100000 in
set_option maxHeartbeats 4000000 in
theorem D_ofCursor_noQ {l : Launch} {D : va_G} {cy : Nat → ClassId} {X : (Nat → Prop) → State → Heap → Prop} {ba ra : Nat → Nat} {hf : Nat → Nat → Nat} {hq : Nat → Nat → Int32} {kn th : Int32} {sm : Int64} {Y : va_W} {f : Nat → Nat → Nat} {r : Nat → Nat → Int32} {k0 : Nat} {x : Int32} (hX : EnvM X cy) (hC : CInv f) (hM : MR f r hf hq) (hk3 : k0 < 3) (hno : ¬ (0 ≤ x ∧ x < nI 5)) : Cd l D cy X yX4_ofCursor cX4_ofCursor 3 (some .int) (rmk 9 4 48 420) [.ref (ba 9), .int (nI k0), .int x] (WM cy ba ra hf hq kn th sm ++ Y) (some (.int (nI 0))) (WM cy ba ra hf hq kn (nI 2) sm ++ Y) := by
  have hG := hM.1
  have h5M := hM.h5M hC
  have h4M := hC.h4M
  have h9a := hM.h9a hC
  have h6a := hM.h6a
  have hU := hM.hU hC
  refine Cm.of [some (.ref (ba 9)), some (.int (nI k0)), some (.int x)] pn_X4 rfl (Nat.le_of_ble_eq_true rfl) ?_
  intro p e s m args below meth c A C hE hr hnt hn
  refine r_aload_n C dX4_ofCursor_0 rfl ?_
  refine r_iload_n C dX4_ofCursor_1 rfl ?_
  refine d_S (st := [.ref (ba 9)]) hX.1.stb C hE (D_isNoCursor0 (ba := ba) (ra := ra) (hf := hf) (hq := hq) (kn := kn) (th := th) (sm := sm) (Y := Y) (i := k0) hX (by first | omega | (simp [up2, *]; done) | (simp [up2, *]; omega) | (simp only [up2_eq]; omega) | (split <;> omega))) pk_X4_isNoCursor qm_X4_193 rfl rfl (Nat.le_of_ble_eq_true rfl) dX4_ofCursor_2 ⟨(Nat.le_of_ble_eq_true rfl), (Nat.le_of_ble_eq_true rfl)⟩ ⟨(Nat.le_of_ble_eq_true rfl), (Nat.le_of_ble_eq_true rfl)⟩ ?_
  refine r_w (w' := WM cy ba ra hf hq kn th sm ++ Y) rfl ?_
  refine r_iload_n C dX4_ofCursor_5 rfl ?_
  refine r_iconst (v := (nI 0)) C dX4_ofCursor_6 (by decide) ?_
  refine r_iconst (v := (nI 4)) C dX4_ofCursor_7 (by decide) ?_
  refine d_S (st := [.int (nI 0), .ref (ba 9)]) hX.1.stb C hE (D_isIn0 (ba := ba) (ra := ra) (hf := hf) (hq := hq) (kn := kn) (th := th) (sm := sm) (Y := Y) (x := (x)) (y := ((nI 0))) (z := ((nI 4))) hX (fun z => hno ⟨z.1, Int32.lt_of_le_of_lt z.2 (by decide)⟩)) pk_X4_isIn qm_X4_1 rfl rfl (Nat.le_of_ble_eq_true rfl) dX4_ofCursor_8 ⟨(Nat.le_of_ble_eq_true rfl), (Nat.le_of_ble_eq_true rfl)⟩ ⟨(Nat.le_of_ble_eq_true rfl), (Nat.le_of_ble_eq_true rfl)⟩ ?_
  refine r_w (w' := WM cy ba ra hf hq kn th sm ++ Y) rfl ?_
  refine r_ifN_ne (a := 0) (tgt := 18) C (by first | omega | (simp [up2, *]; done) | (simp [up2, *]; omega) | (simp only [up2_eq]; omega) | (split <;> omega)) dX4_ofCursor_11 (by decide) (fun h11_1 => ?_) (fun h11_1 => ?_)
  · exact absurd h11_1 (by first | omega | (simp [up2, *]; done) | (simp [up2, *]; omega) | (simp only [up2_eq]; omega) | (split <;> omega))
  · skip
    refine r_iconst (v := (nI 1)) C dX4_ofCursor_14 (by decide) ?_
    refine r_goto (tgt := 19) C dX4_ofCursor_15 (by decide) ?_
    refine r_iconst (v := (nI 0)) C dX4_ofCursor_19 (by decide) ?_
    refine d_V (st := []) hX.1.stb C hE (D_fails2 (ba := ba) (ra := ra) (hf := hf) (hq := hq) (kn := kn) (th := th) (sm := sm) (Y := Y) (d0 := 0) hX ) pk_X4_fails qm_X4_84 0 8 rfl rfl wm_0 rfl rfl (Nat.le_of_ble_eq_true rfl) dX4_ofCursor_20 ⟨(Nat.le_of_ble_eq_true rfl), (Nat.le_of_ble_eq_true rfl)⟩ ⟨(Nat.le_of_ble_eq_true rfl), (Nat.le_of_ble_eq_true rfl)⟩ ?_
    refine r_w (w' := WM cy ba ra hf hq kn (nI 2) sm ++ Y) rfl ?_
    refine r_ifN_eq (a := 1) (tgt := 30) C (by first | omega | (simp [up2, *]; done) | (simp [up2, *]; omega) | (simp only [up2_eq]; omega) | (split <;> omega)) dX4_ofCursor_23 (by decide) (fun h23_2 => ?_) (fun h23_2 => ?_)
    · exact absurd h23_2 (by first | omega | (simp [up2, *]; done) | (simp [up2, *]; omega) | (simp only [up2_eq]; omega) | (split <;> omega))
    · skip
      refine r_iconst (v := (nI 0)) C dX4_ofCursor_26 (by decide) ?_
      refine r_goto (tgt := 36) C dX4_ofCursor_27 (by decide) ?_
      exact r_iret C hr dX4_ofCursor_36 ⟨rfl, rfl⟩ (Nat.le_of_ble_eq_true rfl) (Nat.le_of_ble_eq_true rfl)
theorem pk_X4_cursorNow : PkV RX4 yX4_cursorNow cX4_cursorNow 4 (some .int) 2 := ⟨⟨qi_X4_cursorNow, qs_X4_cursorNow, qz_X4, qc_X4_cursorNow⟩, rfl, mh_X4.1, mh_X4.2, pd_0⟩
theorem dX4_ofCursor_30 : decode cX4_ofCursor 30 = .ok (.aload_n 0, 1) := dqo_42 (kb_of ke_X4_ofCursor 30 rfl)
theorem dX4_ofCursor_31 : decode cX4_ofCursor 31 = .ok (.iload_n 1, 1) := dqo_27 (kb_of ke_X4_ofCursor 31 rfl)
theorem dX4_ofCursor_32 : decode cX4_ofCursor 32 = .ok (.iload_n 2, 1) := dqo_28 (kb_of ke_X4_ofCursor 32 rfl)
theorem dX4_ofCursor_33 : decode cX4_ofCursor 33 = .ok (.invokevirtual 199, 3) := dqo_182 0 199 (kb_of ke_X4_ofCursor 33 rfl) (kb_of ke_X4_ofCursor 34 rfl) (kb_of ke_X4_ofCursor 35 rfl)
set_option maxRecDepth 100000 in
set_option maxHeartbeats 4000000 in
theorem D_ofCursor_ok {l : Launch} {D : va_G} {cy : Nat → ClassId} {X : (Nat → Prop) → State → Heap → Prop} {ba ra : Nat → Nat} {hf : Nat → Nat → Nat} {hq : Nat → Nat → Int32} {kn th : Int32} {sm : Int64} {Y : va_W} {f : Nat → Nat → Nat} {r : Nat → Nat → Int32} {k0 : Nat} {q0 : Nat} (hX : EnvM X cy) (hC : CInv f) (hM : MR f r hf hq) (hk3 : k0 < 3) (hq5 : q0 < 5) : Cd l D cy X yX4_ofCursor cX4_ofCursor 3 (some .int) (rmk 9 4 48 420) [.ref (ba 9), .int (nI k0), .int (nI q0)] (WM cy ba ra hf hq kn th sm ++ Y) (some (.int (cqM hf k0 q0))) (WM cy ba ra hf hq kn (nI 0) sm ++ Y) := by
  have hG := hM.1
  have h5M := hM.h5M hC
  have h4M := hC.h4M
  have h9a := hM.h9a hC
  have h6a := hM.h6a
  have hU := hM.hU hC
  refine Cm.of [some (.ref (ba 9)), some (.int (nI k0)), some (.int (nI q0))] pn_X4 rfl (Nat.le_of_ble_eq_true rfl) ?_
  intro p e s m args below meth c A C hE hr hnt hn
  refine r_aload_n C dX4_ofCursor_0 rfl ?_
  refine r_iload_n C dX4_ofCursor_1 rfl ?_
  refine d_S (st := [.ref (ba 9)]) hX.1.stb C hE (D_isNoCursor0 (ba := ba) (ra := ra) (hf := hf) (hq := hq) (kn := kn) (th := th) (sm := sm) (Y := Y) (i := k0) hX (by first | omega | (simp [up2, *]; done) | (simp [up2, *]; omega) | (simp only [up2_eq]; omega) | (split <;> omega))) pk_X4_isNoCursor qm_X4_193 rfl rfl (Nat.le_of_ble_eq_true rfl) dX4_ofCursor_2 ⟨(Nat.le_of_ble_eq_true rfl), (Nat.le_of_ble_eq_true rfl)⟩ ⟨(Nat.le_of_ble_eq_true rfl), (Nat.le_of_ble_eq_true rfl)⟩ ?_
  refine r_w (w' := WM cy ba ra hf hq kn th sm ++ Y) rfl ?_
  refine r_iload_n C dX4_ofCursor_5 rfl ?_
  refine r_iconst (v := (nI 0)) C dX4_ofCursor_6 (by decide) ?_
  refine r_iconst (v := (nI 4)) C dX4_ofCursor_7 (by decide) ?_
  refine d_S (st := [.int (nI 0), .ref (ba 9)]) hX.1.stb C hE (D_isInN (ba := ba) (ra := ra) (hf := hf) (hq := hq) (kn := kn) (th := th) (sm := sm) (Y := Y) (a0 := q0) (b0 := 0) (d0 := 4) hX (by first | omega | (simp [up2, *]; done) | (simp [up2, *]; omega) | (simp only [up2_eq]; omega) | (split <;> omega)) (by first | omega | (simp [up2, *]; done) | (simp [up2, *]; omega) | (simp only [up2_eq]; omega) | (split <;> omega)) (by first | omega | (simp [up2, *]; done) | (simp [up2, *]; omega) | (simp only [up2_eq]; omega) | (split <;> omega))) pk_X4_isIn qm_X4_1 rfl rfl (Nat.le_of_ble_eq_true rfl) dX4_ofCursor_8 ⟨(Nat.le_of_ble_eq_true rfl), (Nat.le_of_ble_eq_true rfl)⟩ ⟨(Nat.le_of_ble_eq_true rfl), (Nat.le_of_ble_eq_true rfl)⟩ ?_
  refine r_w (w' := WM cy ba ra hf hq kn th sm ++ Y) rfl ?_
  refine r_ifN_ne (a := 1) (tgt := 18) C (by first | omega | (simp [up2, *]; done) | (simp [up2, *]; omega) | (simp only [up2_eq]; omega) | (split <;> omega)) dX4_ofCursor_11 (by decide) (fun h11_1 => ?_) (fun h11_1 => ?_)
  · skip
    refine r_iconst (v := (nI 0)) C dX4_ofCursor_18 (by decide) ?_
    refine r_iconst (v := (nI 0)) C dX4_ofCursor_19 (by decide) ?_
    refine d_V (st := []) hX.1.stb C hE (D_fails0 (ba := ba) (ra := ra) (hf := hf) (hq := hq) (kn := kn) (th := th) (sm := sm) (Y := Y)  hX ) pk_X4_fails qm_X4_84 0 8 rfl rfl wm_0 rfl rfl (Nat.le_of_ble_eq_true rfl) dX4_ofCursor_20 ⟨(Nat.le_of_ble_eq_true rfl), (Nat.le_of_ble_eq_true rfl)⟩ ⟨(Nat.le_of_ble_eq_true rfl), (Nat.le_of_ble_eq_true rfl)⟩ ?_
    refine r_w (w' := WM cy ba ra hf hq kn (nI 0) sm ++ Y) rfl ?_
    refine r_ifN_eq (a := 0) (tgt := 30) C (by first | omega | (simp [up2, *]; done) | (simp [up2, *]; omega) | (simp only [up2_eq]; omega) | (split <;> omega)) dX4_ofCursor_23 (by decide) (fun h23_2 => ?_) (fun h23_2 => ?_)
    · skip
      refine r_aload_n C dX4_ofCursor_30 rfl ?_
      refine r_iload_n C dX4_ofCursor_31 rfl ?_
      refine r_iload_n C dX4_ofCursor_32 rfl ?_
      refine d_V (st := []) hX.1.stb C hE (D_cursorNow (ba := ba) (ra := ra) (hf := hf) (hq := hq) (kn := kn) (th := (nI 0)) (sm := sm) (Y := Y) (f := f) (k0 := k0) (q0 := q0) hX hC hM (by first | omega | (simp [up2, *]; done) | (simp [up2, *]; omega) | (simp only [up2_eq]; omega) | (split <;> omega)) (by first | omega | (simp [up2, *]; done) | (simp [up2, *]; omega) | (simp only [up2_eq]; omega) | (split <;> omega))) pk_X4_cursorNow qm_X4_199 0 8 rfl rfl wm_0 rfl rfl (Nat.le_of_ble_eq_true rfl) dX4_ofCursor_33 ⟨(Nat.le_of_ble_eq_true rfl), (Nat.le_of_ble_eq_true rfl)⟩ ⟨(Nat.le_of_ble_eq_true rfl), (Nat.le_of_ble_eq_true rfl)⟩ ?_
      refine r_w (w' := WM cy ba ra hf hq kn (nI 0) sm ++ Y) rfl ?_
      exact r_iret C hr dX4_ofCursor_36 ⟨rfl, rfl⟩ (Nat.le_of_ble_eq_true rfl) (Nat.le_of_ble_eq_true rfl)
    · exact absurd h23_2 (by first | omega | (simp [up2, *]; done) | (simp [up2, *]; omega) | (simp only [up2_eq]; omega) | (split <;> omega))
  · exact absurd h11_1 (by first | omega | (simp [up2, *]; done) | (simp [up2, *]; omega) | (simp only [up2_eq]; omega) | (split <;> omega))
theorem dX4_houseNow_0 : decode cX4_houseNow 0 = .ok (.iconst 0, 1) := dqo_3 (kb_X4_houseNow_0 0 rfl)
theorem dX4_houseNow_1 : decode cX4_houseNow 1 = .ok (.istore_n 2, 1) := dqo_61 (kb_X4_houseNow_0 1 rfl)
theorem dX4_houseNow_2 : decode cX4_houseNow 2 = .ok (.aload_n 0, 1) := dqo_42 (kb_X4_houseNow_0 2 rfl)
theorem dX4_houseNow_3 : decode cX4_houseNow 3 = .ok (.getfield 15, 3) := dqo_180 0 15 (kb_X4_houseNow_0 3 rfl) (kb_X4_houseNow_0 4 rfl) (kb_X4_houseNow_0 5 rfl)
theorem dX4_houseNow_6 : decode cX4_houseNow 6 = .ok (.astore_n 3, 1) := dqo_78 (kb_X4_houseNow_0 6 rfl)
theorem dX4_houseNow_7 : decode cX4_houseNow 7 = .ok (.aload_n 3, 1) := dqo_45 (kb_X4_houseNow_0 7 rfl)
theorem dX4_houseNow_8 : decode cX4_houseNow 8 = .ok (.arraylength, 1) := dqo_190 (kb_X4_houseNow_0 8 rfl)
theorem dX4_houseNow_9 : decode cX4_houseNow 9 = .ok (.istore 4, 2) := dqo_54 4 (kb_X4_houseNow_0 9 rfl) (kb_X4_houseNow_0 10 rfl)
theorem dX4_houseNow_11 : decode cX4_houseNow 11 = .ok (.iconst 0, 1) := dqo_3 (kb_X4_houseNow_0 11 rfl)
theorem dX4_houseNow_12 : decode cX4_houseNow 12 = .ok (.istore 5, 2) := dqo_54 5 (kb_X4_houseNow_0 12 rfl) (kb_X4_houseNow_0 13 rfl)
theorem dX4_houseNow_14 : decode cX4_houseNow 14 = .ok (.iload 5, 2) := dqo_21 5 (kb_X4_houseNow_0 14 rfl) (kb_X4_houseNow_0 15 rfl)
theorem dX4_houseNow_16 : decode cX4_houseNow 16 = .ok (.iload 4, 2) := dqo_21 4 (kb_X4_houseNow_0 16 rfl) (kb_X4_houseNow_0 17 rfl)
theorem dX4_houseNow_18 : decode cX4_houseNow 18 = .ok (.if_icmp .ge 21, 3) := dqo_162 0 21 (by decide) (kb_X4_houseNow_0 18 rfl) (kb_X4_houseNow_0 19 rfl) (kb_X4_houseNow_0 20 rfl)
theorem dX4_houseNow_21 : decode cX4_houseNow 21 = .ok (.aload_n 3, 1) := dqo_45 (kb_X4_houseNow_0 21 rfl)
theorem dX4_houseNow_22 : decode cX4_houseNow 22 = .ok (.iload 5, 2) := dqo_21 5 (kb_X4_houseNow_0 22 rfl) (kb_X4_houseNow_0 23 rfl)
theorem dX4_houseNow_24 : decode cX4_houseNow 24 = .ok (.aaload, 1) := dqo_50 (kb_X4_houseNow_0 24 rfl)
theorem dX4_houseNow_25 : decode cX4_houseNow 25 = .ok (.astore 6, 2) := dqo_58 6 (kb_X4_houseNow_0 25 rfl) (kb_X4_houseNow_0 26 rfl)
theorem dX4_houseNow_27 : decode cX4_houseNow 27 = .ok (.iload_n 2, 1) := dqo_28 (kb_X4_houseNow_0 27 rfl)
theorem dX4_houseNow_28 : decode cX4_houseNow 28 = .ok (.aload 6, 2) := dqo_25 6 (kb_X4_houseNow_0 28 rfl) (kb_X4_houseNow_0 29 rfl)
theorem dX4_houseNow_30 : decode cX4_houseNow 30 = .ok (.arraylength, 1) := dqo_190 (kb_X4_houseNow_0 30 rfl)
theorem dX4_houseNow_31 : decode cX4_houseNow 31 = .ok (.iadd, 1) := dqo_96 (kb_X4_houseNow_0 31 rfl)
theorem dX4_houseNow_32 : decode cX4_houseNow 32 = .ok (.istore_n 2, 1) := dqo_61 (kb_X4_houseNow_0 32 rfl)
theorem dX4_houseNow_33 : decode cX4_houseNow 33 = .ok (.iinc 5 1, 3) := dqo_132 5 1 (by decide) (kb_X4_houseNow_0 33 rfl) (kb_X4_houseNow_0 34 rfl) (kb_X4_houseNow_0 35 rfl)
theorem dX4_houseNow_36 : decode cX4_houseNow 36 = .ok (.goto (-22), 3) := dqo_167 255 234 (by decide) (kb_X4_houseNow_0 36 rfl) (kb_X4_houseNow_0 37 rfl) (kb_X4_houseNow_0 38 rfl)
theorem dX4_houseNow_39 : decode cX4_houseNow 39 = .ok (.iconst 0, 1) := dqo_3 (kb_X4_houseNow_0 39 rfl)
theorem dX4_houseNow_40 : decode cX4_houseNow 40 = .ok (.istore_n 3, 1) := dqo_62 (kb_X4_houseNow_0 40 rfl)
theorem dX4_houseNow_41 : decode cX4_houseNow 41 = .ok (.aload_n 0, 1) := dqo_42 (kb_X4_houseNow_0 41 rfl)
theorem dX4_houseNow_42 : decode cX4_houseNow 42 = .ok (.getfield 32, 3) := dqo_180 0 32 (kb_X4_houseNow_0 42 rfl) (kb_X4_houseNow_0 43 rfl) (kb_X4_houseNow_0 44 rfl)
theorem dX4_houseNow_45 : decode cX4_houseNow 45 = .ok (.astore 4, 2) := dqo_58 4 (kb_X4_houseNow_0 45 rfl) (kb_X4_houseNow_0 46 rfl)
theorem dX4_houseNow_47 : decode cX4_houseNow 47 = .ok (.aload 4, 2) := dqo_25 4 (kb_X4_houseNow_0 47 rfl) (kb_X4_houseNow_0 48 rfl)
theorem dX4_houseNow_49 : decode cX4_houseNow 49 = .ok (.arraylength, 1) := dqo_190 (kb_X4_houseNow_0 49 rfl)
theorem dX4_houseNow_50 : decode cX4_houseNow 50 = .ok (.istore 5, 2) := dqo_54 5 (kb_X4_houseNow_0 50 rfl) (kb_X4_houseNow_0 51 rfl)
theorem dX4_houseNow_52 : decode cX4_houseNow 52 = .ok (.iconst 0, 1) := dqo_3 (kb_X4_houseNow_0 52 rfl)
theorem dX4_houseNow_53 : decode cX4_houseNow 53 = .ok (.istore 6, 2) := dqo_54 6 (kb_X4_houseNow_0 53 rfl) (kb_X4_houseNow_0 54 rfl)
theorem dX4_houseNow_55 : decode cX4_houseNow 55 = .ok (.iload 6, 2) := dqo_21 6 (kb_X4_houseNow_0 55 rfl) (kb_X4_houseNow_0 56 rfl)
theorem dX4_houseNow_57 : decode cX4_houseNow 57 = .ok (.iload 5, 2) := dqo_21 5 (kb_X4_houseNow_0 57 rfl) (kb_X4_houseNow_0 58 rfl)
theorem dX4_houseNow_59 : decode cX4_houseNow 59 = .ok (.if_icmp .ge 24, 3) := dqo_162 0 24 (by decide) (kb_X4_houseNow_0 59 rfl) (kb_X4_houseNow_0 60 rfl) (kb_X4_houseNow_0 61 rfl)
theorem dX4_houseNow_62 : decode cX4_houseNow 62 = .ok (.aload 4, 2) := dqo_25 4 (kb_X4_houseNow_0 62 rfl) (kb_X4_houseNow_0 63 rfl)
theorem dX4_houseNow_64 : decode cX4_houseNow 64 = .ok (.iload 6, 2) := dqo_21 6 (kb_X4_houseNow_1 0 rfl) (kb_X4_houseNow_1 1 rfl)
theorem dX4_houseNow_66 : decode cX4_houseNow 66 = .ok (.baload, 1) := dqo_51 (kb_X4_houseNow_1 2 rfl)
theorem dX4_houseNow_67 : decode cX4_houseNow 67 = .ok (.istore 7, 2) := dqo_54 7 (kb_X4_houseNow_1 3 rfl) (kb_X4_houseNow_1 4 rfl)
theorem dX4_houseNow_69 : decode cX4_houseNow 69 = .ok (.iload_n 3, 1) := dqo_29 (kb_X4_houseNow_1 5 rfl)
theorem dX4_houseNow_70 : decode cX4_houseNow 70 = .ok (.iload 7, 2) := dqo_21 7 (kb_X4_houseNow_1 6 rfl) (kb_X4_houseNow_1 7 rfl)
theorem dX4_houseNow_72 : decode cX4_houseNow 72 = .ok (.invokestatic 136, 3) := dqo_184 0 136 (kb_X4_houseNow_1 8 rfl) (kb_X4_houseNow_1 9 rfl) (kb_X4_houseNow_1 10 rfl)
theorem dX4_houseNow_75 : decode cX4_houseNow 75 = .ok (.iadd, 1) := dqo_96 (kb_X4_houseNow_1 11 rfl)
theorem dX4_houseNow_76 : decode cX4_houseNow 76 = .ok (.istore_n 3, 1) := dqo_62 (kb_X4_houseNow_1 12 rfl)
theorem dX4_houseNow_77 : decode cX4_houseNow 77 = .ok (.iinc 6 1, 3) := dqo_132 6 1 (by decide) (kb_X4_houseNow_1 13 rfl) (kb_X4_houseNow_1 14 rfl) (kb_X4_houseNow_1 15 rfl)
theorem dX4_houseNow_80 : decode cX4_houseNow 80 = .ok (.goto (-25), 3) := dqo_167 255 231 (by decide) (kb_X4_houseNow_1 16 rfl) (kb_X4_houseNow_1 17 rfl) (kb_X4_houseNow_1 18 rfl)
theorem dX4_houseNow_83 : decode cX4_houseNow 83 = .ok (.iconst 4, 1) := dqo_7 (kb_X4_houseNow_1 19 rfl)
theorem dX4_houseNow_84 : decode cX4_houseNow 84 = .ok (.newarray .int, 2) := dqo_188_10 (kb_X4_houseNow_1 20 rfl) (kb_X4_houseNow_1 21 rfl)
theorem dX4_houseNow_86 : decode cX4_houseNow 86 = .ok (.dup, 1) := dqo_89 (kb_X4_houseNow_1 22 rfl)
theorem dX4_houseNow_87 : decode cX4_houseNow 87 = .ok (.iconst 0, 1) := dqo_3 (kb_X4_houseNow_1 23 rfl)
theorem dX4_houseNow_88 : decode cX4_houseNow 88 = .ok (.iload_n 2, 1) := dqo_28 (kb_X4_houseNow_1 24 rfl)
theorem dX4_houseNow_89 : decode cX4_houseNow 89 = .ok (.iastore, 1) := dqo_79 (kb_X4_houseNow_1 25 rfl)
theorem dX4_houseNow_90 : decode cX4_houseNow 90 = .ok (.dup, 1) := dqo_89 (kb_X4_houseNow_1 26 rfl)
theorem dX4_houseNow_91 : decode cX4_houseNow 91 = .ok (.iconst 1, 1) := dqo_4 (kb_X4_houseNow_1 27 rfl)
theorem dX4_houseNow_92 : decode cX4_houseNow 92 = .ok (.aload_n 0, 1) := dqo_42 (kb_X4_houseNow_1 28 rfl)
theorem dX4_houseNow_93 : decode cX4_houseNow 93 = .ok (.invokevirtual 186, 3) := dqo_182 0 186 (kb_X4_houseNow_1 29 rfl) (kb_X4_houseNow_1 30 rfl) (kb_X4_houseNow_1 31 rfl)
theorem dX4_houseNow_96 : decode cX4_houseNow 96 = .ok (.iastore, 1) := dqo_79 (kb_X4_houseNow_1 32 rfl)
theorem dX4_houseNow_97 : decode cX4_houseNow 97 = .ok (.dup, 1) := dqo_89 (kb_X4_houseNow_1 33 rfl)
theorem dX4_houseNow_98 : decode cX4_houseNow 98 = .ok (.iconst 2, 1) := dqo_5 (kb_X4_houseNow_1 34 rfl)
theorem dX4_houseNow_99 : decode cX4_houseNow 99 = .ok (.iload_n 3, 1) := dqo_29 (kb_X4_houseNow_1 35 rfl)
theorem dX4_houseNow_100 : decode cX4_houseNow 100 = .ok (.iastore, 1) := dqo_79 (kb_X4_houseNow_1 36 rfl)
theorem dX4_houseNow_101 : decode cX4_houseNow 101 = .ok (.dup, 1) := dqo_89 (kb_X4_houseNow_1 37 rfl)
theorem dX4_houseNow_102 : decode cX4_houseNow 102 = .ok (.iconst 3, 1) := dqo_6 (kb_X4_houseNow_1 38 rfl)
theorem dX4_houseNow_103 : decode cX4_houseNow 103 = .ok (.aload_n 0, 1) := dqo_42 (kb_X4_houseNow_1 39 rfl)
theorem dX4_houseNow_104 : decode cX4_houseNow 104 = .ok (.getfield 202, 3) := dqo_180 0 202 (kb_X4_houseNow_1 40 rfl) (kb_X4_houseNow_1 41 rfl) (kb_X4_houseNow_1 42 rfl)
theorem dX4_houseNow_107 : decode cX4_houseNow 107 = .ok (.iastore, 1) := dqo_79 (kb_X4_houseNow_1 43 rfl)
theorem dX4_houseNow_108 : decode cX4_houseNow 108 = .ok (.astore 4, 2) := dqo_58 4 (kb_X4_houseNow_1 44 rfl) (kb_X4_houseNow_1 45 rfl)
theorem dX4_houseNow_110 : decode cX4_houseNow 110 = .ok (.aload 4, 2) := dqo_25 4 (kb_X4_houseNow_1 46 rfl) (kb_X4_houseNow_1 47 rfl)
theorem dX4_houseNow_112 : decode cX4_houseNow 112 = .ok (.iload_n 1, 1) := dqo_27 (kb_X4_houseNow_1 48 rfl)
theorem dX4_houseNow_113 : decode cX4_houseNow 113 = .ok (.iaload, 1) := dqo_46 (kb_X4_houseNow_1 49 rfl)
theorem dX4_houseNow_114 : decode cX4_houseNow 114 = .ok (.ireturn, 1) := dqo_172 (kb_X4_houseNow_1 50 rfl)
set_option maxRecDepth 100000 in
set_option maxHeartbeats 4000000 in
theorem D_houseNow_0 {l : Launch} {D : va_G} {cy : Nat → ClassId} {X : (Nat → Prop) → State → Heap → Prop} {ba ra : Nat → Nat} {hf : Nat → Nat → Nat} {hq : Nat → Nat → Int32} {kn th : Int32} {sm : Int64} {Y : va_W} {f : Nat → Nat → Nat} {r : Nat → Nat → Int32}  (hX : EnvM X cy) (hC : CInv f) (hM : MR f r hf hq) : Cd l D cy X yX4_houseNow cX4_houseNow 8 (some .int) (rmk 3 1 4 90) [.ref (ba 9), .int (nI 0)] (WM cy ba ra hf hq kn th sm ++ Y) (some (.int (hoM hf kn 0))) (WM cy ba ra hf hq kn th sm ++ Y) := by
  have hG := hM.1
  have h5M := hM.h5M hC
  have h4M := hC.h4M
  have h9a := hM.h9a hC
  have h6a := hM.h6a
  have hU := hM.hU hC
  refine Cm.of [some (.ref (ba 9)), some (.int (nI 0)), none, none, none, none, none, none] pn_X4 rfl (Nat.le_of_ble_eq_true rfl) ?_
  intro p e s m args below meth c A C hE hr hnt hn
  refine r_iconst (v := (nI 0)) C dX4_houseNow_0 (by decide) ?_
  refine r_istore_n C dX4_houseNow_1 (by decide) rfl ?_
  refine r_aload_n C dX4_houseNow_2 rfl ?_
  refine m_get (v := .ref (ba 0)) C 0 (by decide) qf_X4_15 rfl rfl dX4_houseNow_3 ?_
  refine r_astore_n C dX4_houseNow_6 (by decide) rfl ?_
  refine r_aload_n C dX4_houseNow_7 rfl ?_
  refine m_olen C dX4_houseNow_8 ?_
  refine r_istore C dX4_houseNow_9 (by decide) rfl ?_
  refine r_iconst (v := (nI 0)) C dX4_houseNow_11 (by decide) ?_
  refine r_istore C dX4_houseNow_12 (by decide) rfl ?_
  have L14 : ∀ (d : Nat) (k : Nat) (z : Nat), (hk : k + d = 4) → (hz : z ≤ 12 * k) → (hF : smF (hf 4) d k z = smF (hf 4) 4 0 0) → vC p l e (rmk 3 1 4 90) s m args below meth c D A (vx_MQ below (vG (fun v1 w1 => v1 = (some (.int (hoM hf kn 0))) ∧ w1 = WM cy ba ra hf hq kn th sm ++ Y) D vwCl A) (vGX (fun _ => False) D vwCl (WM cy ba ra hf hq kn th sm ++ Y) A) args s (rmk 3 1 4 90).cells (rmk 3 1 4 90).slots A) 8 0 0 (WM cy ba ra hf hq kn th sm ++ Y) [some (.ref (ba 9)), some (.int (nI 0)), some (.int (nI z)), some (.ref (ba 0)), some (.int (nI 4)), some (.int (nI k)), none, none] 14 [] := by
    intro d
    induction d with
    | zero =>
      intro k z hk hz hF
      refine r_iload C dX4_houseNow_14 rfl ?_
      refine r_iload C dX4_houseNow_16 rfl ?_
      refine r_icN_ge (a := k) (b := 4) (tgt := 39) C (by first | omega | (simp [up2, *]; done) | (simp [up2, *]; omega) | (simp only [up2_eq]; omega) | (split <;> omega)) (by first | omega | (simp [up2, *]; done) | (simp [up2, *]; omega) | (simp only [up2_eq]; omega) | (split <;> omega)) dX4_houseNow_18 (by decide) (fun h18_1 => ?_) (fun h18_1 => ?_)
      · first
        | exfalso; first | omega | contradiction
        | skip
          have e9 : z = smF (hf 4) 4 0 0 := hF
          subst e9
          refine r_iconst (v := (nI 0)) C dX4_houseNow_39 (by decide) ?_
          refine r_istore_n C dX4_houseNow_40 (by decide) rfl ?_
          refine r_aload_n C dX4_houseNow_41 rfl ?_
          refine m_get (v := .ref (ba 5)) C 5 (by decide) qf_X4_32 rfl rfl dX4_houseNow_42 ?_
          refine r_astore C dX4_houseNow_45 (by decide) rfl ?_
          refine r_aload C dX4_houseNow_47 rfl ?_
          refine m_alen C 4 (by decide) dX4_houseNow_49 ?_
          refine r_istore C dX4_houseNow_50 (by decide) rfl ?_
          refine r_iconst (v := (nI 0)) C dX4_houseNow_52 (by decide) ?_
          refine r_istore C dX4_houseNow_53 (by decide) rfl ?_
          have L55 : ∀ (d : Nat) (k : Nat) (z3 : Nat), (hk3 : k + d = 3) → (hz3 : z3 ≤ k) → (hF3 : smF (hf 9) d k z3 = smF (hf 9) 3 0 0) → vC p l e (rmk 3 1 4 90) s m args below meth c D A (vx_MQ below (vG (fun v1 w1 => v1 = (some (.int (hoM hf kn 0))) ∧ w1 = WM cy ba ra hf hq kn th sm ++ Y) D vwCl A) (vGX (fun _ => False) D vwCl (WM cy ba ra hf hq kn th sm ++ Y) A) args s (rmk 3 1 4 90).cells (rmk 3 1 4 90).slots A) 8 0 0 (WM cy ba ra hf hq kn th sm ++ Y) [some (.ref (ba 9)), some (.int (nI 0)), some (.int (nI (smF (hf 4) 4 0 0))), some (.int (nI z3)), some (.ref (ba 5)), some (.int (nI 3)), some (.int (nI k)), none] 55 [] := by
            intro d
            induction d with
            | zero =>
              intro k z3 hk3 hz3 hF3
              refine r_iload C dX4_houseNow_55 rfl ?_
              refine r_iload C dX4_houseNow_57 rfl ?_
              refine r_icN_ge (a := k) (b := 3) (tgt := 83) C (by first | omega | (simp [up2, *]; done) | (simp [up2, *]; omega) | (simp only [up2_eq]; omega) | (split <;> omega)) (by first | omega | (simp [up2, *]; done) | (simp [up2, *]; omega) | (simp only [up2_eq]; omega) | (split <;> omega)) dX4_houseNow_59 (by decide) (fun h59_2 => ?_) (fun h59_2 => ?_)
              · first
                | exfalso; first | omega | contradiction
                | skip
                  have e9 : z3 = smF (hf 9) 3 0 0 := hF3
                  subst e9
                  refine r_iconst (v := (nI 4)) C dX4_houseNow_83 (by decide) ?_
                  refine r_newT C .int .int 1 rfl (by simp) qa_int (n := 4) (show 4 < 1000000 from Nat.lt_of_le_of_lt (show 4 ≤ 4 from (Nat.le_refl _)) (by decide)) (1) (4) (Nat.le_of_ble_eq_true rfl) (Nat.add_le_add (Nat.le_refl _) (show 4 ≤ 4 from (Nat.le_refl _))) (Nat.le_of_ble_eq_true rfl) (Nat.le_of_ble_eq_true rfl) dX4_houseNow_84 (fun b_3 => ?_)
                  refine r_w (w' := WM cy ba ra hf hq kn th sm ++ (Y ++ [(b_3, .inl (cy 1, 4, .inl (fun _ => 0)))])) (by simp only [List.append_assoc, List.cons_append, List.nil_append]) ?_
                  refine r_dup C dX4_houseNow_86 rfl ?_
                  refine r_iconst (v := (nI 0)) C dX4_houseNow_87 (by decide) ?_
                  refine r_iload_n C dX4_houseNow_88 rfl ?_
                  refine x_ast C (i := 0) (f := fun _ => 0) (E' := [(b_3, .inl (cy 1, 4, .inl (upd (fun _ => 0) 0 (nI (smF (hf 4) 4 0 0)))))]) 0 rfl (by first | omega | (simp [up2, *]; done) | (simp [up2, *]; omega) | (simp only [up2_eq]; omega) | (split <;> omega)) (by first | omega | (simp [up2, *]; done) | (simp [up2, *]; omega) | (simp only [up2_eq]; omega) | (split <;> omega)) rfl dX4_houseNow_89 ?_
                  refine r_dup C dX4_houseNow_90 rfl ?_
                  refine r_iconst (v := (nI 1)) C dX4_houseNow_91 (by decide) ?_
                  refine r_aload_n C dX4_houseNow_92 rfl ?_
                  refine d_V (st := [.int (nI 1), .ref b_3, .ref b_3]) hX.1.stb C hE (D_windows (ba := ba) (ra := ra) (hf := hf) (hq := hq) (kn := kn) (th := th) (sm := sm)  hX (fun w a b => by have h8 := h5M w a b; omega)) pk_X4_windows qm_X4_186 0 8 rfl rfl wm_0 rfl rfl (Nat.le_of_ble_eq_true rfl) dX4_houseNow_93 ⟨(Nat.le_of_ble_eq_true rfl), (Nat.le_of_ble_eq_true rfl)⟩ ⟨(Nat.le_of_ble_eq_true rfl), (Nat.le_of_ble_eq_true rfl)⟩ ?_
                  refine r_w (w' := WM cy ba ra hf hq kn th sm ++ (Y ++ [(b_3, .inl (cy 1, 4, .inl (upd (fun _ => 0) 0 (nI (smF (hf 4) 4 0 0)))))])) rfl ?_
                  refine x_ast C (i := 1) (f := upd (fun _ => 0) 0 (nI (smF (hf 4) 4 0 0))) (E' := [(b_3, .inl (cy 1, 4, .inl (upd (upd (fun _ => 0) 0 (nI (smF (hf 4) 4 0 0))) 1 (nI (smF (hf 5) 4 4 0)))))]) 0 rfl (by first | omega | (simp [up2, *]; done) | (simp [up2, *]; omega) | (simp only [up2_eq]; omega) | (split <;> omega)) (by first | omega | (simp [up2, *]; done) | (simp [up2, *]; omega) | (simp only [up2_eq]; omega) | (split <;> omega)) rfl dX4_houseNow_96 ?_
                  refine r_dup C dX4_houseNow_97 rfl ?_
                  refine r_iconst (v := (nI 2)) C dX4_houseNow_98 (by decide) ?_
                  refine r_iload_n C dX4_houseNow_99 rfl ?_
                  refine x_ast C (i := 2) (f := upd (upd (fun _ => 0) 0 (nI (smF (hf 4) 4 0 0))) 1 (nI (smF (hf 5) 4 4 0))) (E' := [(b_3, .inl (cy 1, 4, .inl (upd (upd (upd (fun _ => 0) 0 (nI (smF (hf 4) 4 0 0))) 1 (nI (smF (hf 5) 4 4 0))) 2 (nI (smF (hf 9) 3 0 0)))))]) 0 rfl (by first | omega | (simp [up2, *]; done) | (simp [up2, *]; omega) | (simp only [up2_eq]; omega) | (split <;> omega)) (by first | omega | (simp [up2, *]; done) | (simp [up2, *]; omega) | (simp only [up2_eq]; omega) | (split <;> omega)) rfl dX4_houseNow_100 ?_
                  refine r_dup C dX4_houseNow_101 rfl ?_
                  refine r_iconst (v := (nI 3)) C dX4_houseNow_102 (by decide) ?_
                  refine r_aload_n C dX4_houseNow_103 rfl ?_
                  refine m_get (v := .int kn) C 9 (by decide) qf_X4_202 rfl rfl dX4_houseNow_104 ?_
                  refine x_ast C (i := 3) (f := upd (upd (upd (fun _ => 0) 0 (nI (smF (hf 4) 4 0 0))) 1 (nI (smF (hf 5) 4 4 0))) 2 (nI (smF (hf 9) 3 0 0))) (E' := [(b_3, .inl (cy 1, 4, .inl (upd (upd (upd (upd (fun _ => 0) 0 (nI (smF (hf 4) 4 0 0))) 1 (nI (smF (hf 5) 4 4 0))) 2 (nI (smF (hf 9) 3 0 0))) 3 kn)))]) 0 rfl (by first | omega | (simp [up2, *]; done) | (simp [up2, *]; omega) | (simp only [up2_eq]; omega) | (split <;> omega)) (by first | omega | (simp [up2, *]; done) | (simp [up2, *]; omega) | (simp only [up2_eq]; omega) | (split <;> omega)) rfl dX4_houseNow_107 ?_
                  refine r_astore C dX4_houseNow_108 (by decide) rfl ?_
                  refine r_aload C dX4_houseNow_110 rfl ?_
                  refine r_iload_n C dX4_houseNow_112 rfl ?_
                  refine x_ald C (i := 0) (f := upd (upd (upd (upd (fun _ => 0) 0 (nI (smF (hf 4) 4 0 0))) 1 (nI (smF (hf 5) 4 4 0))) 2 (nI (smF (hf 9) 3 0 0))) 3 kn) 0 rfl (by first | omega | (simp [up2, *]; done) | (simp [up2, *]; omega) | (simp only [up2_eq]; omega) | (split <;> omega)) (by first | omega | (simp [up2, *]; done) | (simp [up2, *]; omega) | (simp only [up2_eq]; omega) | (split <;> omega)) dX4_houseNow_113 ?_
                  refine r_eqi (show (upd (upd (upd (upd (fun _ => 0) 0 (nI (smF (hf 4) 4 0 0))) 1 (nI (smF (hf 5) 4 4 0))) 2 (nI (smF (hf 9) 3 0 0))) 3 kn) 0 = (nI (smF (hf 4) 4 0 0)) from rfl) ?_
                  refine r_pre ?_
                  exact r_iret C hr dX4_houseNow_114 ⟨rfl, rfl⟩ (Nat.le_of_ble_eq_true rfl) (Nat.le_of_ble_eq_true rfl)
              · first
                | exfalso; first | omega | contradiction
                | skip
                  refine r_aload C dX4_houseNow_62 rfl ?_
                  refine r_iload C dX4_houseNow_64 rfl ?_
                  refine m_zld (i := k) (z := k) (v := hf 9 k) C 4 (by decide) (by decide) (show k < 3 from (by first | omega | (simp [up2, *]; done) | (simp [up2, *]; omega) | (simp only [up2_eq]; omega) | (split <;> omega))) (show 0 + k = k from (by omega)) rfl dX4_houseNow_66 ?_
                  refine r_istore C dX4_houseNow_67 (by decide) rfl ?_
                  refine r_iload_n C dX4_houseNow_69 rfl ?_
                  refine r_iload C dX4_houseNow_70 rfl ?_
                  refine d_S (st := [.int (nI z3)]) hX.1.stb C hE (D_one (ba := ba) (ra := ra) (hf := hf) (hq := hq) (kn := kn) (th := th) (sm := sm) (Y := Y) (b0 := (hf 9 k)) hX (h9a k (by omega))) pk_X4_one qm_X4_136 rfl rfl (Nat.le_of_ble_eq_true rfl) dX4_houseNow_72 ⟨(Nat.le_of_ble_eq_true rfl), (Nat.le_of_ble_eq_true rfl)⟩ ⟨(Nat.le_of_ble_eq_true rfl), (Nat.le_of_ble_eq_true rfl)⟩ ?_
                  refine r_w (w' := WM cy ba ra hf hq kn th sm ++ Y) rfl ?_
                  refine r_iaddN C dX4_houseNow_75 ?_
                  refine r_istore_n C dX4_houseNow_76 (by decide) rfl ?_
                  refine r_iincN C dX4_houseNow_77 rfl (by decide) rfl ?_
                  refine r_goto (tgt := 55) C dX4_houseNow_80 (by decide) ?_
                  refine r_drop 7 ?_
                  exact (Nat.not_lt_zero _ (by omega)).elim
            | succ d ih_L55 =>
              intro k z3 hk3 hz3 hF3
              refine r_iload C dX4_houseNow_55 rfl ?_
              refine r_iload C dX4_houseNow_57 rfl ?_
              refine r_icN_ge (a := k) (b := 3) (tgt := 83) C (by first | omega | (simp [up2, *]; done) | (simp [up2, *]; omega) | (simp only [up2_eq]; omega) | (split <;> omega)) (by first | omega | (simp [up2, *]; done) | (simp [up2, *]; omega) | (simp only [up2_eq]; omega) | (split <;> omega)) dX4_houseNow_59 (by decide) (fun h59_4 => ?_) (fun h59_4 => ?_)
              · first
                | exfalso; first | omega | contradiction
                | skip
                  have e9 : z3 = smF (hf 9) 3 0 0 := hF3
                  subst e9
                  refine r_iconst (v := (nI 4)) C dX4_houseNow_83 (by decide) ?_
                  refine r_newT C .int .int 1 rfl (by simp) qa_int (n := 4) (show 4 < 1000000 from Nat.lt_of_le_of_lt (show 4 ≤ 4 from (Nat.le_refl _)) (by decide)) (1) (4) (Nat.le_of_ble_eq_true rfl) (Nat.add_le_add (Nat.le_refl _) (show 4 ≤ 4 from (Nat.le_refl _))) (Nat.le_of_ble_eq_true rfl) (Nat.le_of_ble_eq_true rfl) dX4_houseNow_84 (fun b_5 => ?_)
                  refine r_w (w' := WM cy ba ra hf hq kn th sm ++ (Y ++ [(b_5, .inl (cy 1, 4, .inl (fun _ => 0)))])) (by simp only [List.append_assoc, List.cons_append, List.nil_append]) ?_
                  refine r_dup C dX4_houseNow_86 rfl ?_
                  refine r_iconst (v := (nI 0)) C dX4_houseNow_87 (by decide) ?_
                  refine r_iload_n C dX4_houseNow_88 rfl ?_
                  refine x_ast C (i := 0) (f := fun _ => 0) (E' := [(b_5, .inl (cy 1, 4, .inl (upd (fun _ => 0) 0 (nI (smF (hf 4) 4 0 0)))))]) 0 rfl (by first | omega | (simp [up2, *]; done) | (simp [up2, *]; omega) | (simp only [up2_eq]; omega) | (split <;> omega)) (by first | omega | (simp [up2, *]; done) | (simp [up2, *]; omega) | (simp only [up2_eq]; omega) | (split <;> omega)) rfl dX4_houseNow_89 ?_
                  refine r_dup C dX4_houseNow_90 rfl ?_
                  refine r_iconst (v := (nI 1)) C dX4_houseNow_91 (by decide) ?_
                  refine r_aload_n C dX4_houseNow_92 rfl ?_
                  refine d_V (st := [.int (nI 1), .ref b_5, .ref b_5]) hX.1.stb C hE (D_windows (ba := ba) (ra := ra) (hf := hf) (hq := hq) (kn := kn) (th := th) (sm := sm)  hX (fun w a b => by have h8 := h5M w a b; omega)) pk_X4_windows qm_X4_186 0 8 rfl rfl wm_0 rfl rfl (Nat.le_of_ble_eq_true rfl) dX4_houseNow_93 ⟨(Nat.le_of_ble_eq_true rfl), (Nat.le_of_ble_eq_true rfl)⟩ ⟨(Nat.le_of_ble_eq_true rfl), (Nat.le_of_ble_eq_true rfl)⟩ ?_
                  refine r_w (w' := WM cy ba ra hf hq kn th sm ++ (Y ++ [(b_5, .inl (cy 1, 4, .inl (upd (fun _ => 0) 0 (nI (smF (hf 4) 4 0 0)))))])) rfl ?_
                  refine x_ast C (i := 1) (f := upd (fun _ => 0) 0 (nI (smF (hf 4) 4 0 0))) (E' := [(b_5, .inl (cy 1, 4, .inl (upd (upd (fun _ => 0) 0 (nI (smF (hf 4) 4 0 0))) 1 (nI (smF (hf 5) 4 4 0)))))]) 0 rfl (by first | omega | (simp [up2, *]; done) | (simp [up2, *]; omega) | (simp only [up2_eq]; omega) | (split <;> omega)) (by first | omega | (simp [up2, *]; done) | (simp [up2, *]; omega) | (simp only [up2_eq]; omega) | (split <;> omega)) rfl dX4_houseNow_96 ?_
                  refine r_dup C dX4_houseNow_97 rfl ?_
                  refine r_iconst (v := (nI 2)) C dX4_houseNow_98 (by decide) ?_
                  refine r_iload_n C dX4_houseNow_99 rfl ?_
                  refine x_ast C (i := 2) (f := upd (upd (fun _ => 0) 0 (nI (smF (hf 4) 4 0 0))) 1 (nI (smF (hf 5) 4 4 0))) (E' := [(b_5, .inl (cy 1, 4, .inl (upd (upd (upd (fun _ => 0) 0 (nI (smF (hf 4) 4 0 0))) 1 (nI (smF (hf 5) 4 4 0))) 2 (nI (smF (hf 9) 3 0 0)))))]) 0 rfl (by first | omega | (simp [up2, *]; done) | (simp [up2, *]; omega) | (simp only [up2_eq]; omega) | (split <;> omega)) (by first | omega | (simp [up2, *]; done) | (simp [up2, *]; omega) | (simp only [up2_eq]; omega) | (split <;> omega)) rfl dX4_houseNow_100 ?_
                  refine r_dup C dX4_houseNow_101 rfl ?_
                  refine r_iconst (v := (nI 3)) C dX4_houseNow_102 (by decide) ?_
                  refine r_aload_n C dX4_houseNow_103 rfl ?_
                  refine m_get (v := .int kn) C 9 (by decide) qf_X4_202 rfl rfl dX4_houseNow_104 ?_
                  refine x_ast C (i := 3) (f := upd (upd (upd (fun _ => 0) 0 (nI (smF (hf 4) 4 0 0))) 1 (nI (smF (hf 5) 4 4 0))) 2 (nI (smF (hf 9) 3 0 0))) (E' := [(b_5, .inl (cy 1, 4, .inl (upd (upd (upd (upd (fun _ => 0) 0 (nI (smF (hf 4) 4 0 0))) 1 (nI (smF (hf 5) 4 4 0))) 2 (nI (smF (hf 9) 3 0 0))) 3 kn)))]) 0 rfl (by first | omega | (simp [up2, *]; done) | (simp [up2, *]; omega) | (simp only [up2_eq]; omega) | (split <;> omega)) (by first | omega | (simp [up2, *]; done) | (simp [up2, *]; omega) | (simp only [up2_eq]; omega) | (split <;> omega)) rfl dX4_houseNow_107 ?_
                  refine r_astore C dX4_houseNow_108 (by decide) rfl ?_
                  refine r_aload C dX4_houseNow_110 rfl ?_
                  refine r_iload_n C dX4_houseNow_112 rfl ?_
                  refine x_ald C (i := 0) (f := upd (upd (upd (upd (fun _ => 0) 0 (nI (smF (hf 4) 4 0 0))) 1 (nI (smF (hf 5) 4 4 0))) 2 (nI (smF (hf 9) 3 0 0))) 3 kn) 0 rfl (by first | omega | (simp [up2, *]; done) | (simp [up2, *]; omega) | (simp only [up2_eq]; omega) | (split <;> omega)) (by first | omega | (simp [up2, *]; done) | (simp [up2, *]; omega) | (simp only [up2_eq]; omega) | (split <;> omega)) dX4_houseNow_113 ?_
                  refine r_eqi (show (upd (upd (upd (upd (fun _ => 0) 0 (nI (smF (hf 4) 4 0 0))) 1 (nI (smF (hf 5) 4 4 0))) 2 (nI (smF (hf 9) 3 0 0))) 3 kn) 0 = (nI (smF (hf 4) 4 0 0)) from rfl) ?_
                  refine r_pre ?_
                  exact r_iret C hr dX4_houseNow_114 ⟨rfl, rfl⟩ (Nat.le_of_ble_eq_true rfl) (Nat.le_of_ble_eq_true rfl)
              · first
                | exfalso; first | omega | contradiction
                | skip
                  refine r_aload C dX4_houseNow_62 rfl ?_
                  refine r_iload C dX4_houseNow_64 rfl ?_
                  refine m_zld (i := k) (z := k) (v := hf 9 k) C 4 (by decide) (by decide) (show k < 3 from (by first | omega | (simp [up2, *]; done) | (simp [up2, *]; omega) | (simp only [up2_eq]; omega) | (split <;> omega))) (show 0 + k = k from (by omega)) rfl dX4_houseNow_66 ?_
                  refine r_istore C dX4_houseNow_67 (by decide) rfl ?_
                  refine r_iload_n C dX4_houseNow_69 rfl ?_
                  refine r_iload C dX4_houseNow_70 rfl ?_
                  refine d_S (st := [.int (nI z3)]) hX.1.stb C hE (D_one (ba := ba) (ra := ra) (hf := hf) (hq := hq) (kn := kn) (th := th) (sm := sm) (Y := Y) (b0 := (hf 9 k)) hX (h9a k (by omega))) pk_X4_one qm_X4_136 rfl rfl (Nat.le_of_ble_eq_true rfl) dX4_houseNow_72 ⟨(Nat.le_of_ble_eq_true rfl), (Nat.le_of_ble_eq_true rfl)⟩ ⟨(Nat.le_of_ble_eq_true rfl), (Nat.le_of_ble_eq_true rfl)⟩ ?_
                  refine r_w (w' := WM cy ba ra hf hq kn th sm ++ Y) rfl ?_
                  refine r_iaddN C dX4_houseNow_75 ?_
                  refine r_istore_n C dX4_houseNow_76 (by decide) rfl ?_
                  refine r_iincN C dX4_houseNow_77 rfl (by decide) rfl ?_
                  refine r_goto (tgt := 55) C dX4_houseNow_80 (by decide) ?_
                  refine r_drop 7 ?_
                  exact ih_L55 (k + 1) (z3 + (hf 9 k)) (by first | omega | (simp [up2, *]; done) | (simp [up2, *]; omega) | (simp only [up2_eq]; omega) | (split <;> omega)) (by have h8 := h9a k (by omega); omega) (by rw [← hF3]; rfl)
          exact L55 3 0 0 (by first | omega | (simp [up2, *]; done) | (simp [up2, *]; omega) | (simp only [up2_eq]; omega) | (split <;> omega)) (by omega) rfl
      · first
        | exfalso; first | omega | contradiction
        | skip
          refine r_aload_n C dX4_houseNow_21 rfl ?_
          refine r_iload C dX4_houseNow_22 rfl ?_
          refine m_rows (i := k) C (by first | omega | (simp [up2, *]; done) | (simp [up2, *]; omega) | (simp only [up2_eq]; omega) | (split <;> omega)) dX4_houseNow_24 ?_
          refine r_astore C dX4_houseNow_25 (by decide) rfl ?_
          refine r_iload_n C dX4_houseNow_27 rfl ?_
          refine r_aload C dX4_houseNow_28 rfl ?_
          refine m_rlen (i := k) (v := hf 4 k) C (by first | omega | (simp [up2, *]; done) | (simp [up2, *]; omega) | (simp only [up2_eq]; omega) | (split <;> omega)) rfl dX4_houseNow_30 ?_
          refine r_iaddN C dX4_houseNow_31 ?_
          refine r_istore_n C dX4_houseNow_32 (by decide) rfl ?_
          refine r_iincN C dX4_houseNow_33 rfl (by decide) rfl ?_
          refine r_goto (tgt := 14) C dX4_houseNow_36 (by decide) ?_
          refine r_drop 6 ?_
          exact (Nat.not_lt_zero _ (by omega)).elim
    | succ d ih_L14 =>
      intro k z hk hz hF
      refine r_iload C dX4_houseNow_14 rfl ?_
      refine r_iload C dX4_houseNow_16 rfl ?_
      refine r_icN_ge (a := k) (b := 4) (tgt := 39) C (by first | omega | (simp [up2, *]; done) | (simp [up2, *]; omega) | (simp only [up2_eq]; omega) | (split <;> omega)) (by first | omega | (simp [up2, *]; done) | (simp [up2, *]; omega) | (simp only [up2_eq]; omega) | (split <;> omega)) dX4_houseNow_18 (by decide) (fun h18_6 => ?_) (fun h18_6 => ?_)
      · first
        | exfalso; first | omega | contradiction
        | skip
          have e9 : z = smF (hf 4) 4 0 0 := hF
          subst e9
          refine r_iconst (v := (nI 0)) C dX4_houseNow_39 (by decide) ?_
          refine r_istore_n C dX4_houseNow_40 (by decide) rfl ?_
          refine r_aload_n C dX4_houseNow_41 rfl ?_
          refine m_get (v := .ref (ba 5)) C 5 (by decide) qf_X4_32 rfl rfl dX4_houseNow_42 ?_
          refine r_astore C dX4_houseNow_45 (by decide) rfl ?_
          refine r_aload C dX4_houseNow_47 rfl ?_
          refine m_alen C 4 (by decide) dX4_houseNow_49 ?_
          refine r_istore C dX4_houseNow_50 (by decide) rfl ?_
          refine r_iconst (v := (nI 0)) C dX4_houseNow_52 (by decide) ?_
          refine r_istore C dX4_houseNow_53 (by decide) rfl ?_
          have L55 : ∀ (d : Nat) (k : Nat) (z3 : Nat), (hk3 : k + d = 3) → (hz3 : z3 ≤ k) → (hF3 : smF (hf 9) d k z3 = smF (hf 9) 3 0 0) → vC p l e (rmk 3 1 4 90) s m args below meth c D A (vx_MQ below (vG (fun v1 w1 => v1 = (some (.int (hoM hf kn 0))) ∧ w1 = WM cy ba ra hf hq kn th sm ++ Y) D vwCl A) (vGX (fun _ => False) D vwCl (WM cy ba ra hf hq kn th sm ++ Y) A) args s (rmk 3 1 4 90).cells (rmk 3 1 4 90).slots A) 8 0 0 (WM cy ba ra hf hq kn th sm ++ Y) [some (.ref (ba 9)), some (.int (nI 0)), some (.int (nI (smF (hf 4) 4 0 0))), some (.int (nI z3)), some (.ref (ba 5)), some (.int (nI 3)), some (.int (nI k)), none] 55 [] := by
            intro d
            induction d with
            | zero =>
              intro k z3 hk3 hz3 hF3
              refine r_iload C dX4_houseNow_55 rfl ?_
              refine r_iload C dX4_houseNow_57 rfl ?_
              refine r_icN_ge (a := k) (b := 3) (tgt := 83) C (by first | omega | (simp [up2, *]; done) | (simp [up2, *]; omega) | (simp only [up2_eq]; omega) | (split <;> omega)) (by first | omega | (simp [up2, *]; done) | (simp [up2, *]; omega) | (simp only [up2_eq]; omega) | (split <;> omega)) dX4_houseNow_59 (by decide) (fun h59_7 => ?_) (fun h59_7 => ?_)
              · first
                | exfalso; first | omega | contradiction
                | skip
                  have e9 : z3 = smF (hf 9) 3 0 0 := hF3
                  subst e9
                  refine r_iconst (v := (nI 4)) C dX4_houseNow_83 (by decide) ?_
                  refine r_newT C .int .int 1 rfl (by simp) qa_int (n := 4) (show 4 < 1000000 from Nat.lt_of_le_of_lt (show 4 ≤ 4 from (Nat.le_refl _)) (by decide)) (1) (4) (Nat.le_of_ble_eq_true rfl) (Nat.add_le_add (Nat.le_refl _) (show 4 ≤ 4 from (Nat.le_refl _))) (Nat.le_of_ble_eq_true rfl) (Nat.le_of_ble_eq_true rfl) dX4_houseNow_84 (fun b_8 => ?_)
                  refine r_w (w' := WM cy ba ra hf hq kn th sm ++ (Y ++ [(b_8, .inl (cy 1, 4, .inl (fun _ => 0)))])) (by simp only [List.append_assoc, List.cons_append, List.nil_append]) ?_
                  refine r_dup C dX4_houseNow_86 rfl ?_
                  refine r_iconst (v := (nI 0)) C dX4_houseNow_87 (by decide) ?_
                  refine r_iload_n C dX4_houseNow_88 rfl ?_
                  refine x_ast C (i := 0) (f := fun _ => 0) (E' := [(b_8, .inl (cy 1, 4, .inl (upd (fun _ => 0) 0 (nI (smF (hf 4) 4 0 0)))))]) 0 rfl (by first | omega | (simp [up2, *]; done) | (simp [up2, *]; omega) | (simp only [up2_eq]; omega) | (split <;> omega)) (by first | omega | (simp [up2, *]; done) | (simp [up2, *]; omega) | (simp only [up2_eq]; omega) | (split <;> omega)) rfl dX4_houseNow_89 ?_
                  refine r_dup C dX4_houseNow_90 rfl ?_
                  refine r_iconst (v := (nI 1)) C dX4_houseNow_91 (by decide) ?_
                  refine r_aload_n C dX4_houseNow_92 rfl ?_
                  refine d_V (st := [.int (nI 1), .ref b_8, .ref b_8]) hX.1.stb C hE (D_windows (ba := ba) (ra := ra) (hf := hf) (hq := hq) (kn := kn) (th := th) (sm := sm)  hX (fun w a b => by have h8 := h5M w a b; omega)) pk_X4_windows qm_X4_186 0 8 rfl rfl wm_0 rfl rfl (Nat.le_of_ble_eq_true rfl) dX4_houseNow_93 ⟨(Nat.le_of_ble_eq_true rfl), (Nat.le_of_ble_eq_true rfl)⟩ ⟨(Nat.le_of_ble_eq_true rfl), (Nat.le_of_ble_eq_true rfl)⟩ ?_
                  refine r_w (w' := WM cy ba ra hf hq kn th sm ++ (Y ++ [(b_8, .inl (cy 1, 4, .inl (upd (fun _ => 0) 0 (nI (smF (hf 4) 4 0 0)))))])) rfl ?_
                  refine x_ast C (i := 1) (f := upd (fun _ => 0) 0 (nI (smF (hf 4) 4 0 0))) (E' := [(b_8, .inl (cy 1, 4, .inl (upd (upd (fun _ => 0) 0 (nI (smF (hf 4) 4 0 0))) 1 (nI (smF (hf 5) 4 4 0)))))]) 0 rfl (by first | omega | (simp [up2, *]; done) | (simp [up2, *]; omega) | (simp only [up2_eq]; omega) | (split <;> omega)) (by first | omega | (simp [up2, *]; done) | (simp [up2, *]; omega) | (simp only [up2_eq]; omega) | (split <;> omega)) rfl dX4_houseNow_96 ?_
                  refine r_dup C dX4_houseNow_97 rfl ?_
                  refine r_iconst (v := (nI 2)) C dX4_houseNow_98 (by decide) ?_
                  refine r_iload_n C dX4_houseNow_99 rfl ?_
                  refine x_ast C (i := 2) (f := upd (upd (fun _ => 0) 0 (nI (smF (hf 4) 4 0 0))) 1 (nI (smF (hf 5) 4 4 0))) (E' := [(b_8, .inl (cy 1, 4, .inl (upd (upd (upd (fun _ => 0) 0 (nI (smF (hf 4) 4 0 0))) 1 (nI (smF (hf 5) 4 4 0))) 2 (nI (smF (hf 9) 3 0 0)))))]) 0 rfl (by first | omega | (simp [up2, *]; done) | (simp [up2, *]; omega) | (simp only [up2_eq]; omega) | (split <;> omega)) (by first | omega | (simp [up2, *]; done) | (simp [up2, *]; omega) | (simp only [up2_eq]; omega) | (split <;> omega)) rfl dX4_houseNow_100 ?_
                  refine r_dup C dX4_houseNow_101 rfl ?_
                  refine r_iconst (v := (nI 3)) C dX4_houseNow_102 (by decide) ?_
                  refine r_aload_n C dX4_houseNow_103 rfl ?_
                  refine m_get (v := .int kn) C 9 (by decide) qf_X4_202 rfl rfl dX4_houseNow_104 ?_
                  refine x_ast C (i := 3) (f := upd (upd (upd (fun _ => 0) 0 (nI (smF (hf 4) 4 0 0))) 1 (nI (smF (hf 5) 4 4 0))) 2 (nI (smF (hf 9) 3 0 0))) (E' := [(b_8, .inl (cy 1, 4, .inl (upd (upd (upd (upd (fun _ => 0) 0 (nI (smF (hf 4) 4 0 0))) 1 (nI (smF (hf 5) 4 4 0))) 2 (nI (smF (hf 9) 3 0 0))) 3 kn)))]) 0 rfl (by first | omega | (simp [up2, *]; done) | (simp [up2, *]; omega) | (simp only [up2_eq]; omega) | (split <;> omega)) (by first | omega | (simp [up2, *]; done) | (simp [up2, *]; omega) | (simp only [up2_eq]; omega) | (split <;> omega)) rfl dX4_houseNow_107 ?_
                  refine r_astore C dX4_houseNow_108 (by decide) rfl ?_
                  refine r_aload C dX4_houseNow_110 rfl ?_
                  refine r_iload_n C dX4_houseNow_112 rfl ?_
                  refine x_ald C (i := 0) (f := upd (upd (upd (upd (fun _ => 0) 0 (nI (smF (hf 4) 4 0 0))) 1 (nI (smF (hf 5) 4 4 0))) 2 (nI (smF (hf 9) 3 0 0))) 3 kn) 0 rfl (by first | omega | (simp [up2, *]; done) | (simp [up2, *]; omega) | (simp only [up2_eq]; omega) | (split <;> omega)) (by first | omega | (simp [up2, *]; done) | (simp [up2, *]; omega) | (simp only [up2_eq]; omega) | (split <;> omega)) dX4_houseNow_113 ?_
                  refine r_eqi (show (upd (upd (upd (upd (fun _ => 0) 0 (nI (smF (hf 4) 4 0 0))) 1 (nI (smF (hf 5) 4 4 0))) 2 (nI (smF (hf 9) 3 0 0))) 3 kn) 0 = (nI (smF (hf 4) 4 0 0)) from rfl) ?_
                  refine r_pre ?_
                  exact r_iret C hr dX4_houseNow_114 ⟨rfl, rfl⟩ (Nat.le_of_ble_eq_true rfl) (Nat.le_of_ble_eq_true rfl)
              · first
                | exfalso; first | omega | contradiction
                | skip
                  refine r_aload C dX4_houseNow_62 rfl ?_
                  refine r_iload C dX4_houseNow_64 rfl ?_
                  refine m_zld (i := k) (z := k) (v := hf 9 k) C 4 (by decide) (by decide) (show k < 3 from (by first | omega | (simp [up2, *]; done) | (simp [up2, *]; omega) | (simp only [up2_eq]; omega) | (split <;> omega))) (show 0 + k = k from (by omega)) rfl dX4_houseNow_66 ?_
                  refine r_istore C dX4_houseNow_67 (by decide) rfl ?_
                  refine r_iload_n C dX4_houseNow_69 rfl ?_
                  refine r_iload C dX4_houseNow_70 rfl ?_
                  refine d_S (st := [.int (nI z3)]) hX.1.stb C hE (D_one (ba := ba) (ra := ra) (hf := hf) (hq := hq) (kn := kn) (th := th) (sm := sm) (Y := Y) (b0 := (hf 9 k)) hX (h9a k (by omega))) pk_X4_one qm_X4_136 rfl rfl (Nat.le_of_ble_eq_true rfl) dX4_houseNow_72 ⟨(Nat.le_of_ble_eq_true rfl), (Nat.le_of_ble_eq_true rfl)⟩ ⟨(Nat.le_of_ble_eq_true rfl), (Nat.le_of_ble_eq_true rfl)⟩ ?_
                  refine r_w (w' := WM cy ba ra hf hq kn th sm ++ Y) rfl ?_
                  refine r_iaddN C dX4_houseNow_75 ?_
                  refine r_istore_n C dX4_houseNow_76 (by decide) rfl ?_
                  refine r_iincN C dX4_houseNow_77 rfl (by decide) rfl ?_
                  refine r_goto (tgt := 55) C dX4_houseNow_80 (by decide) ?_
                  refine r_drop 7 ?_
                  exact (Nat.not_lt_zero _ (by omega)).elim
            | succ d ih_L55 =>
              intro k z3 hk3 hz3 hF3
              refine r_iload C dX4_houseNow_55 rfl ?_
              refine r_iload C dX4_houseNow_57 rfl ?_
              refine r_icN_ge (a := k) (b := 3) (tgt := 83) C (by first | omega | (simp [up2, *]; done) | (simp [up2, *]; omega) | (simp only [up2_eq]; omega) | (split <;> omega)) (by first | omega | (simp [up2, *]; done) | (simp [up2, *]; omega) | (simp only [up2_eq]; omega) | (split <;> omega)) dX4_houseNow_59 (by decide) (fun h59_9 => ?_) (fun h59_9 => ?_)
              · first
                | exfalso; first | omega | contradiction
                | skip
                  have e9 : z3 = smF (hf 9) 3 0 0 := hF3
                  subst e9
                  refine r_iconst (v := (nI 4)) C dX4_houseNow_83 (by decide) ?_
                  refine r_newT C .int .int 1 rfl (by simp) qa_int (n := 4) (show 4 < 1000000 from Nat.lt_of_le_of_lt (show 4 ≤ 4 from (Nat.le_refl _)) (by decide)) (1) (4) (Nat.le_of_ble_eq_true rfl) (Nat.add_le_add (Nat.le_refl _) (show 4 ≤ 4 from (Nat.le_refl _))) (Nat.le_of_ble_eq_true rfl) (Nat.le_of_ble_eq_true rfl) dX4_houseNow_84 (fun b_10 => ?_)
                  refine r_w (w' := WM cy ba ra hf hq kn th sm ++ (Y ++ [(b_10, .inl (cy 1, 4, .inl (fun _ => 0)))])) (by simp only [List.append_assoc, List.cons_append, List.nil_append]) ?_
                  refine r_dup C dX4_houseNow_86 rfl ?_
                  refine r_iconst (v := (nI 0)) C dX4_houseNow_87 (by decide) ?_
                  refine r_iload_n C dX4_houseNow_88 rfl ?_
                  refine x_ast C (i := 0) (f := fun _ => 0) (E' := [(b_10, .inl (cy 1, 4, .inl (upd (fun _ => 0) 0 (nI (smF (hf 4) 4 0 0)))))]) 0 rfl (by first | omega | (simp [up2, *]; done) | (simp [up2, *]; omega) | (simp only [up2_eq]; omega) | (split <;> omega)) (by first | omega | (simp [up2, *]; done) | (simp [up2, *]; omega) | (simp only [up2_eq]; omega) | (split <;> omega)) rfl dX4_houseNow_89 ?_
                  refine r_dup C dX4_houseNow_90 rfl ?_
                  refine r_iconst (v := (nI 1)) C dX4_houseNow_91 (by decide) ?_
                  refine r_aload_n C dX4_houseNow_92 rfl ?_
                  refine d_V (st := [.int (nI 1), .ref b_10, .ref b_10]) hX.1.stb C hE (D_windows (ba := ba) (ra := ra) (hf := hf) (hq := hq) (kn := kn) (th := th) (sm := sm)  hX (fun w a b => by have h8 := h5M w a b; omega)) pk_X4_windows qm_X4_186 0 8 rfl rfl wm_0 rfl rfl (Nat.le_of_ble_eq_true rfl) dX4_houseNow_93 ⟨(Nat.le_of_ble_eq_true rfl), (Nat.le_of_ble_eq_true rfl)⟩ ⟨(Nat.le_of_ble_eq_true rfl), (Nat.le_of_ble_eq_true rfl)⟩ ?_
                  refine r_w (w' := WM cy ba ra hf hq kn th sm ++ (Y ++ [(b_10, .inl (cy 1, 4, .inl (upd (fun _ => 0) 0 (nI (smF (hf 4) 4 0 0)))))])) rfl ?_
                  refine x_ast C (i := 1) (f := upd (fun _ => 0) 0 (nI (smF (hf 4) 4 0 0))) (E' := [(b_10, .inl (cy 1, 4, .inl (upd (upd (fun _ => 0) 0 (nI (smF (hf 4) 4 0 0))) 1 (nI (smF (hf 5) 4 4 0)))))]) 0 rfl (by first | omega | (simp [up2, *]; done) | (simp [up2, *]; omega) | (simp only [up2_eq]; omega) | (split <;> omega)) (by first | omega | (simp [up2, *]; done) | (simp [up2, *]; omega) | (simp only [up2_eq]; omega) | (split <;> omega)) rfl dX4_houseNow_96 ?_
                  refine r_dup C dX4_houseNow_97 rfl ?_
                  refine r_iconst (v := (nI 2)) C dX4_houseNow_98 (by decide) ?_
                  refine r_iload_n C dX4_houseNow_99 rfl ?_
                  refine x_ast C (i := 2) (f := upd (upd (fun _ => 0) 0 (nI (smF (hf 4) 4 0 0))) 1 (nI (smF (hf 5) 4 4 0))) (E' := [(b_10, .inl (cy 1, 4, .inl (upd (upd (upd (fun _ => 0) 0 (nI (smF (hf 4) 4 0 0))) 1 (nI (smF (hf 5) 4 4 0))) 2 (nI (smF (hf 9) 3 0 0)))))]) 0 rfl (by first | omega | (simp [up2, *]; done) | (simp [up2, *]; omega) | (simp only [up2_eq]; omega) | (split <;> omega)) (by first | omega | (simp [up2, *]; done) | (simp [up2, *]; omega) | (simp only [up2_eq]; omega) | (split <;> omega)) rfl dX4_houseNow_100 ?_
                  refine r_dup C dX4_houseNow_101 rfl ?_
                  refine r_iconst (v := (nI 3)) C dX4_houseNow_102 (by decide) ?_
                  refine r_aload_n C dX4_houseNow_103 rfl ?_
                  refine m_get (v := .int kn) C 9 (by decide) qf_X4_202 rfl rfl dX4_houseNow_104 ?_
                  refine x_ast C (i := 3) (f := upd (upd (upd (fun _ => 0) 0 (nI (smF (hf 4) 4 0 0))) 1 (nI (smF (hf 5) 4 4 0))) 2 (nI (smF (hf 9) 3 0 0))) (E' := [(b_10, .inl (cy 1, 4, .inl (upd (upd (upd (upd (fun _ => 0) 0 (nI (smF (hf 4) 4 0 0))) 1 (nI (smF (hf 5) 4 4 0))) 2 (nI (smF (hf 9) 3 0 0))) 3 kn)))]) 0 rfl (by first | omega | (simp [up2, *]; done) | (simp [up2, *]; omega) | (simp only [up2_eq]; omega) | (split <;> omega)) (by first | omega | (simp [up2, *]; done) | (simp [up2, *]; omega) | (simp only [up2_eq]; omega) | (split <;> omega)) rfl dX4_houseNow_107 ?_
                  refine r_astore C dX4_houseNow_108 (by decide) rfl ?_
                  refine r_aload C dX4_houseNow_110 rfl ?_
                  refine r_iload_n C dX4_houseNow_112 rfl ?_
                  refine x_ald C (i := 0) (f := upd (upd (upd (upd (fun _ => 0) 0 (nI (smF (hf 4) 4 0 0))) 1 (nI (smF (hf 5) 4 4 0))) 2 (nI (smF (hf 9) 3 0 0))) 3 kn) 0 rfl (by first | omega | (simp [up2, *]; done) | (simp [up2, *]; omega) | (simp only [up2_eq]; omega) | (split <;> omega)) (by first | omega | (simp [up2, *]; done) | (simp [up2, *]; omega) | (simp only [up2_eq]; omega) | (split <;> omega)) dX4_houseNow_113 ?_
                  refine r_eqi (show (upd (upd (upd (upd (fun _ => 0) 0 (nI (smF (hf 4) 4 0 0))) 1 (nI (smF (hf 5) 4 4 0))) 2 (nI (smF (hf 9) 3 0 0))) 3 kn) 0 = (nI (smF (hf 4) 4 0 0)) from rfl) ?_
                  refine r_pre ?_
                  exact r_iret C hr dX4_houseNow_114 ⟨rfl, rfl⟩ (Nat.le_of_ble_eq_true rfl) (Nat.le_of_ble_eq_true rfl)
              · first
                | exfalso; first | omega | contradiction
                | skip
                  refine r_aload C dX4_houseNow_62 rfl ?_
                  refine r_iload C dX4_houseNow_64 rfl ?_
                  refine m_zld (i := k) (z := k) (v := hf 9 k) C 4 (by decide) (by decide) (show k < 3 from (by first | omega | (simp [up2, *]; done) | (simp [up2, *]; omega) | (simp only [up2_eq]; omega) | (split <;> omega))) (show 0 + k = k from (by omega)) rfl dX4_houseNow_66 ?_
                  refine r_istore C dX4_houseNow_67 (by decide) rfl ?_
                  refine r_iload_n C dX4_houseNow_69 rfl ?_
                  refine r_iload C dX4_houseNow_70 rfl ?_
                  refine d_S (st := [.int (nI z3)]) hX.1.stb C hE (D_one (ba := ba) (ra := ra) (hf := hf) (hq := hq) (kn := kn) (th := th) (sm := sm) (Y := Y) (b0 := (hf 9 k)) hX (h9a k (by omega))) pk_X4_one qm_X4_136 rfl rfl (Nat.le_of_ble_eq_true rfl) dX4_houseNow_72 ⟨(Nat.le_of_ble_eq_true rfl), (Nat.le_of_ble_eq_true rfl)⟩ ⟨(Nat.le_of_ble_eq_true rfl), (Nat.le_of_ble_eq_true rfl)⟩ ?_
                  refine r_w (w' := WM cy ba ra hf hq kn th sm ++ Y) rfl ?_
                  refine r_iaddN C dX4_houseNow_75 ?_
                  refine r_istore_n C dX4_houseNow_76 (by decide) rfl ?_
                  refine r_iincN C dX4_houseNow_77 rfl (by decide) rfl ?_
                  refine r_goto (tgt := 55) C dX4_houseNow_80 (by decide) ?_
                  refine r_drop 7 ?_
                  exact ih_L55 (k + 1) (z3 + (hf 9 k)) (by first | omega | (simp [up2, *]; done) | (simp [up2, *]; omega) | (simp only [up2_eq]; omega) | (split <;> omega)) (by have h8 := h9a k (by omega); omega) (by rw [← hF3]; rfl)
          exact L55 3 0 0 (by first | omega | (simp [up2, *]; done) | (simp [up2, *]; omega) | (simp only [up2_eq]; omega) | (split <;> omega)) (by omega) rfl
      · first
        | exfalso; first | omega | contradiction
        | skip
          refine r_aload_n C dX4_houseNow_21 rfl ?_
          refine r_iload C dX4_houseNow_22 rfl ?_
          refine m_rows (i := k) C (by first | omega | (simp [up2, *]; done) | (simp [up2, *]; omega) | (simp only [up2_eq]; omega) | (split <;> omega)) dX4_houseNow_24 ?_
          refine r_astore C dX4_houseNow_25 (by decide) rfl ?_
          refine r_iload_n C dX4_houseNow_27 rfl ?_
          refine r_aload C dX4_houseNow_28 rfl ?_
          refine m_rlen (i := k) (v := hf 4 k) C (by first | omega | (simp [up2, *]; done) | (simp [up2, *]; omega) | (simp only [up2_eq]; omega) | (split <;> omega)) rfl dX4_houseNow_30 ?_
          refine r_iaddN C dX4_houseNow_31 ?_
          refine r_istore_n C dX4_houseNow_32 (by decide) rfl ?_
          refine r_iincN C dX4_houseNow_33 rfl (by decide) rfl ?_
          refine r_goto (tgt := 14) C dX4_houseNow_36 (by decide) ?_
          refine r_drop 6 ?_
          exact ih_L14 (k + 1) (z + (hf 4 k)) (by first | omega | (simp [up2, *]; done) | (simp [up2, *]; omega) | (simp only [up2_eq]; omega) | (split <;> omega)) (by have h8 := (hM.2.1 k (by omega)).1; have h7 := hC.rw (i := k) (by omega); omega) (by rw [← hF]; rfl)
  exact L14 4 0 0 (by first | omega | (simp [up2, *]; done) | (simp [up2, *]; omega) | (simp only [up2_eq]; omega) | (split <;> omega)) (by omega) rfl
set_option maxRecDepth 100000 in
set_option maxHeartbeats 4000000 in
theorem D_houseNow_1 {l : Launch} {D : va_G} {cy : Nat → ClassId} {X : (Nat → Prop) → State → Heap → Prop} {ba ra : Nat → Nat} {hf : Nat → Nat → Nat} {hq : Nat → Nat → Int32} {kn th : Int32} {sm : Int64} {Y : va_W} {f : Nat → Nat → Nat} {r : Nat → Nat → Int32}  (hX : EnvM X cy) (hC : CInv f) (hM : MR f r hf hq) : Cd l D cy X yX4_houseNow cX4_houseNow 8 (some .int) (rmk 3 1 4 90) [.ref (ba 9), .int (nI 1)] (WM cy ba ra hf hq kn th sm ++ Y) (some (.int (hoM hf kn 1))) (WM cy ba ra hf hq kn th sm ++ Y) := by
  have hG := hM.1
  have h5M := hM.h5M hC
  have h4M := hC.h4M
  have h9a := hM.h9a hC
  have h6a := hM.h6a
  have hU := hM.hU hC
  refine Cm.of [some (.ref (ba 9)), some (.int (nI 1)), none, none, none, none, none, none] pn_X4 rfl (Nat.le_of_ble_eq_true rfl) ?_
  intro p e s m args below meth c A C hE hr hnt hn
  refine r_iconst (v := (nI 0)) C dX4_houseNow_0 (by decide) ?_
  refine r_istore_n C dX4_houseNow_1 (by decide) rfl ?_
  refine r_aload_n C dX4_houseNow_2 rfl ?_
  refine m_get (v := .ref (ba 0)) C 0 (by decide) qf_X4_15 rfl rfl dX4_houseNow_3 ?_
  refine r_astore_n C dX4_houseNow_6 (by decide) rfl ?_
  refine r_aload_n C dX4_houseNow_7 rfl ?_
  refine m_olen C dX4_houseNow_8 ?_
  refine r_istore C dX4_houseNow_9 (by decide) rfl ?_
  refine r_iconst (v := (nI 0)) C dX4_houseNow_11 (by decide) ?_
  refine r_istore C dX4_houseNow_12 (by decide) rfl ?_
  have L14 : ∀ (d : Nat) (k : Nat) (z : Nat), (hk : k + d = 4) → (hz : z ≤ 12 * k) → (hF : smF (hf 4) d k z = smF (hf 4) 4 0 0) → vC p l e (rmk 3 1 4 90) s m args below meth c D A (vx_MQ below (vG (fun v1 w1 => v1 = (some (.int (hoM hf kn 1))) ∧ w1 = WM cy ba ra hf hq kn th sm ++ Y) D vwCl A) (vGX (fun _ => False) D vwCl (WM cy ba ra hf hq kn th sm ++ Y) A) args s (rmk 3 1 4 90).cells (rmk 3 1 4 90).slots A) 8 0 0 (WM cy ba ra hf hq kn th sm ++ Y) [some (.ref (ba 9)), some (.int (nI 1)), some (.int (nI z)), some (.ref (ba 0)), some (.int (nI 4)), some (.int (nI k)), none, none] 14 [] := by
    intro d
    induction d with
    | zero =>
      intro k z hk hz hF
      refine r_iload C dX4_houseNow_14 rfl ?_
      refine r_iload C dX4_houseNow_16 rfl ?_
      refine r_icN_ge (a := k) (b := 4) (tgt := 39) C (by first | omega | (simp [up2, *]; done) | (simp [up2, *]; omega) | (simp only [up2_eq]; omega) | (split <;> omega)) (by first | omega | (simp [up2, *]; done) | (simp [up2, *]; omega) | (simp only [up2_eq]; omega) | (split <;> omega)) dX4_houseNow_18 (by decide) (fun h18_1 => ?_) (fun h18_1 => ?_)
      · first
        | exfalso; first | omega | contradiction
        | skip
          have e9 : z = smF (hf 4) 4 0 0 := hF
          subst e9
          refine r_iconst (v := (nI 0)) C dX4_houseNow_39 (by decide) ?_
          refine r_istore_n C dX4_houseNow_40 (by decide) rfl ?_
          refine r_aload_n C dX4_houseNow_41 rfl ?_
          refine m_get (v := .ref (ba 5)) C 5 (by decide) qf_X4_32 rfl rfl dX4_houseNow_42 ?_
          refine r_astore C dX4_houseNow_45 (by decide) rfl ?_
          refine r_aload C dX4_houseNow_47 rfl ?_
          refine m_alen C 4 (by decide) dX4_houseNow_49 ?_
          refine r_istore C dX4_houseNow_50 (by decide) rfl ?_
          refine r_iconst (v := (nI 0)) C dX4_houseNow_52 (by decide) ?_
          refine r_istore C dX4_houseNow_53 (by decide) rfl ?_
          have L55 : ∀ (d : Nat) (k : Nat) (z3 : Nat), (hk3 : k + d = 3) → (hz3 : z3 ≤ k) → (hF3 : smF (hf 9) d k z3 = smF (hf 9) 3 0 0) → vC p l e (rmk 3 1 4 90) s m args below meth c D A (vx_MQ below (vG (fun v1 w1 => v1 = (some (.int (hoM hf kn 1))) ∧ w1 = WM cy ba ra hf hq kn th sm ++ Y) D vwCl A) (vGX (fun _ => False) D vwCl (WM cy ba ra hf hq kn th sm ++ Y) A) args s (rmk 3 1 4 90).cells (rmk 3 1 4 90).slots A) 8 0 0 (WM cy ba ra hf hq kn th sm ++ Y) [some (.ref (ba 9)), some (.int (nI 1)), some (.int (nI (smF (hf 4) 4 0 0))), some (.int (nI z3)), some (.ref (ba 5)), some (.int (nI 3)), some (.int (nI k)), none] 55 [] := by
            intro d
            induction d with
            | zero =>
              intro k z3 hk3 hz3 hF3
              refine r_iload C dX4_houseNow_55 rfl ?_
              refine r_iload C dX4_houseNow_57 rfl ?_
              refine r_icN_ge (a := k) (b := 3) (tgt := 83) C (by first | omega | (simp [up2, *]; done) | (simp [up2, *]; omega) | (simp only [up2_eq]; omega) | (split <;> omega)) (by first | omega | (simp [up2, *]; done) | (simp [up2, *]; omega) | (simp only [up2_eq]; omega) | (split <;> omega)) dX4_houseNow_59 (by decide) (fun h59_2 => ?_) (fun h59_2 => ?_)
              · first
                | exfalso; first | omega | contradiction
                | skip
                  have e9 : z3 = smF (hf 9) 3 0 0 := hF3
                  subst e9
                  refine r_iconst (v := (nI 4)) C dX4_houseNow_83 (by decide) ?_
                  refine r_newT C .int .int 1 rfl (by simp) qa_int (n := 4) (show 4 < 1000000 from Nat.lt_of_le_of_lt (show 4 ≤ 4 from (Nat.le_refl _)) (by decide)) (1) (4) (Nat.le_of_ble_eq_true rfl) (Nat.add_le_add (Nat.le_refl _) (show 4 ≤ 4 from (Nat.le_refl _))) (Nat.le_of_ble_eq_true rfl) (Nat.le_of_ble_eq_true rfl) dX4_houseNow_84 (fun b_3 => ?_)
                  refine r_w (w' := WM cy ba ra hf hq kn th sm ++ (Y ++ [(b_3, .inl (cy 1, 4, .inl (fun _ => 0)))])) (by simp only [List.append_assoc, List.cons_append, List.nil_append]) ?_
                  refine r_dup C dX4_houseNow_86 rfl ?_
                  refine r_iconst (v := (nI 0)) C dX4_houseNow_87 (by decide) ?_
                  refine r_iload_n C dX4_houseNow_88 rfl ?_
                  refine x_ast C (i := 0) (f := fun _ => 0) (E' := [(b_3, .inl (cy 1, 4, .inl (upd (fun _ => 0) 0 (nI (smF (hf 4) 4 0 0)))))]) 0 rfl (by first | omega | (simp [up2, *]; done) | (simp [up2, *]; omega) | (simp only [up2_eq]; omega) | (split <;> omega)) (by first | omega | (simp [up2, *]; done) | (simp [up2, *]; omega) | (simp only [up2_eq]; omega) | (split <;> omega)) rfl dX4_houseNow_89 ?_
                  refine r_dup C dX4_houseNow_90 rfl ?_
                  refine r_iconst (v := (nI 1)) C dX4_houseNow_91 (by decide) ?_
                  refine r_aload_n C dX4_houseNow_92 rfl ?_
                  refine d_V (st := [.int (nI 1), .ref b_3, .ref b_3]) hX.1.stb C hE (D_windows (ba := ba) (ra := ra) (hf := hf) (hq := hq) (kn := kn) (th := th) (sm := sm)  hX (fun w a b => by have h8 := h5M w a b; omega)) pk_X4_windows qm_X4_186 0 8 rfl rfl wm_0 rfl rfl (Nat.le_of_ble_eq_true rfl) dX4_houseNow_93 ⟨(Nat.le_of_ble_eq_true rfl), (Nat.le_of_ble_eq_true rfl)⟩ ⟨(Nat.le_of_ble_eq_true rfl), (Nat.le_of_ble_eq_true rfl)⟩ ?_
                  refine r_w (w' := WM cy ba ra hf hq kn th sm ++ (Y ++ [(b_3, .inl (cy 1, 4, .inl (upd (fun _ => 0) 0 (nI (smF (hf 4) 4 0 0)))))])) rfl ?_
                  refine x_ast C (i := 1) (f := upd (fun _ => 0) 0 (nI (smF (hf 4) 4 0 0))) (E' := [(b_3, .inl (cy 1, 4, .inl (upd (upd (fun _ => 0) 0 (nI (smF (hf 4) 4 0 0))) 1 (nI (smF (hf 5) 4 4 0)))))]) 0 rfl (by first | omega | (simp [up2, *]; done) | (simp [up2, *]; omega) | (simp only [up2_eq]; omega) | (split <;> omega)) (by first | omega | (simp [up2, *]; done) | (simp [up2, *]; omega) | (simp only [up2_eq]; omega) | (split <;> omega)) rfl dX4_houseNow_96 ?_
                  refine r_dup C dX4_houseNow_97 rfl ?_
                  refine r_iconst (v := (nI 2)) C dX4_houseNow_98 (by decide) ?_
                  refine r_iload_n C dX4_houseNow_99 rfl ?_
                  refine x_ast C (i := 2) (f := upd (upd (fun _ => 0) 0 (nI (smF (hf 4) 4 0 0))) 1 (nI (smF (hf 5) 4 4 0))) (E' := [(b_3, .inl (cy 1, 4, .inl (upd (upd (upd (fun _ => 0) 0 (nI (smF (hf 4) 4 0 0))) 1 (nI (smF (hf 5) 4 4 0))) 2 (nI (smF (hf 9) 3 0 0)))))]) 0 rfl (by first | omega | (simp [up2, *]; done) | (simp [up2, *]; omega) | (simp only [up2_eq]; omega) | (split <;> omega)) (by first | omega | (simp [up2, *]; done) | (simp [up2, *]; omega) | (simp only [up2_eq]; omega) | (split <;> omega)) rfl dX4_houseNow_100 ?_
                  refine r_dup C dX4_houseNow_101 rfl ?_
                  refine r_iconst (v := (nI 3)) C dX4_houseNow_102 (by decide) ?_
                  refine r_aload_n C dX4_houseNow_103 rfl ?_
                  refine m_get (v := .int kn) C 9 (by decide) qf_X4_202 rfl rfl dX4_houseNow_104 ?_
                  refine x_ast C (i := 3) (f := upd (upd (upd (fun _ => 0) 0 (nI (smF (hf 4) 4 0 0))) 1 (nI (smF (hf 5) 4 4 0))) 2 (nI (smF (hf 9) 3 0 0))) (E' := [(b_3, .inl (cy 1, 4, .inl (upd (upd (upd (upd (fun _ => 0) 0 (nI (smF (hf 4) 4 0 0))) 1 (nI (smF (hf 5) 4 4 0))) 2 (nI (smF (hf 9) 3 0 0))) 3 kn)))]) 0 rfl (by first | omega | (simp [up2, *]; done) | (simp [up2, *]; omega) | (simp only [up2_eq]; omega) | (split <;> omega)) (by first | omega | (simp [up2, *]; done) | (simp [up2, *]; omega) | (simp only [up2_eq]; omega) | (split <;> omega)) rfl dX4_houseNow_107 ?_
                  refine r_astore C dX4_houseNow_108 (by decide) rfl ?_
                  refine r_aload C dX4_houseNow_110 rfl ?_
                  refine r_iload_n C dX4_houseNow_112 rfl ?_
                  refine x_ald C (i := 1) (f := upd (upd (upd (upd (fun _ => 0) 0 (nI (smF (hf 4) 4 0 0))) 1 (nI (smF (hf 5) 4 4 0))) 2 (nI (smF (hf 9) 3 0 0))) 3 kn) 0 rfl (by first | omega | (simp [up2, *]; done) | (simp [up2, *]; omega) | (simp only [up2_eq]; omega) | (split <;> omega)) (by first | omega | (simp [up2, *]; done) | (simp [up2, *]; omega) | (simp only [up2_eq]; omega) | (split <;> omega)) dX4_houseNow_113 ?_
                  refine r_eqi (show (upd (upd (upd (upd (fun _ => 0) 0 (nI (smF (hf 4) 4 0 0))) 1 (nI (smF (hf 5) 4 4 0))) 2 (nI (smF (hf 9) 3 0 0))) 3 kn) 1 = (nI (smF (hf 5) 4 4 0)) from rfl) ?_
                  refine r_pre ?_
                  exact r_iret C hr dX4_houseNow_114 ⟨rfl, rfl⟩ (Nat.le_of_ble_eq_true rfl) (Nat.le_of_ble_eq_true rfl)
              · first
                | exfalso; first | omega | contradiction
                | skip
                  refine r_aload C dX4_houseNow_62 rfl ?_
                  refine r_iload C dX4_houseNow_64 rfl ?_
                  refine m_zld (i := k) (z := k) (v := hf 9 k) C 4 (by decide) (by decide) (show k < 3 from (by first | omega | (simp [up2, *]; done) | (simp [up2, *]; omega) | (simp only [up2_eq]; omega) | (split <;> omega))) (show 0 + k = k from (by omega)) rfl dX4_houseNow_66 ?_
                  refine r_istore C dX4_houseNow_67 (by decide) rfl ?_
                  refine r_iload_n C dX4_houseNow_69 rfl ?_
                  refine r_iload C dX4_houseNow_70 rfl ?_
                  refine d_S (st := [.int (nI z3)]) hX.1.stb C hE (D_one (ba := ba) (ra := ra) (hf := hf) (hq := hq) (kn := kn) (th := th) (sm := sm) (Y := Y) (b0 := (hf 9 k)) hX (h9a k (by omega))) pk_X4_one qm_X4_136 rfl rfl (Nat.le_of_ble_eq_true rfl) dX4_houseNow_72 ⟨(Nat.le_of_ble_eq_true rfl), (Nat.le_of_ble_eq_true rfl)⟩ ⟨(Nat.le_of_ble_eq_true rfl), (Nat.le_of_ble_eq_true rfl)⟩ ?_
                  refine r_w (w' := WM cy ba ra hf hq kn th sm ++ Y) rfl ?_
                  refine r_iaddN C dX4_houseNow_75 ?_
                  refine r_istore_n C dX4_houseNow_76 (by decide) rfl ?_
                  refine r_iincN C dX4_houseNow_77 rfl (by decide) rfl ?_
                  refine r_goto (tgt := 55) C dX4_houseNow_80 (by decide) ?_
                  refine r_drop 7 ?_
                  exact (Nat.not_lt_zero _ (by omega)).elim
            | succ d ih_L55 =>
              intro k z3 hk3 hz3 hF3
              refine r_iload C dX4_houseNow_55 rfl ?_
              refine r_iload C dX4_houseNow_57 rfl ?_
              refine r_icN_ge (a := k) (b := 3) (tgt := 83) C (by first | omega | (simp [up2, *]; done) | (simp [up2, *]; omega) | (simp only [up2_eq]; omega) | (split <;> omega)) (by first | omega | (simp [up2, *]; done) | (simp [up2, *]; omega) | (simp only [up2_eq]; omega) | (split <;> omega)) dX4_houseNow_59 (by decide) (fun h59_4 => ?_) (fun h59_4 => ?_)
              · first
                | exfalso; first | omega | contradiction
                | skip
                  have e9 : z3 = smF (hf 9) 3 0 0 := hF3
                  subst e9
                  refine r_iconst (v := (nI 4)) C dX4_houseNow_83 (by decide) ?_
                  refine r_newT C .int .int 1 rfl (by simp) qa_int (n := 4) (show 4 < 1000000 from Nat.lt_of_le_of_lt (show 4 ≤ 4 from (Nat.le_refl _)) (by decide)) (1) (4) (Nat.le_of_ble_eq_true rfl) (Nat.add_le_add (Nat.le_refl _) (show 4 ≤ 4 from (Nat.le_refl _))) (Nat.le_of_ble_eq_true rfl) (Nat.le_of_ble_eq_true rfl) dX4_houseNow_84 (fun b_5 => ?_)
                  refine r_w (w' := WM cy ba ra hf hq kn th sm ++ (Y ++ [(b_5, .inl (cy 1, 4, .inl (fun _ => 0)))])) (by simp only [List.append_assoc, List.cons_append, List.nil_append]) ?_
                  refine r_dup C dX4_houseNow_86 rfl ?_
                  refine r_iconst (v := (nI 0)) C dX4_houseNow_87 (by decide) ?_
                  refine r_iload_n C dX4_houseNow_88 rfl ?_
                  refine x_ast C (i := 0) (f := fun _ => 0) (E' := [(b_5, .inl (cy 1, 4, .inl (upd (fun _ => 0) 0 (nI (smF (hf 4) 4 0 0)))))]) 0 rfl (by first | omega | (simp [up2, *]; done) | (simp [up2, *]; omega) | (simp only [up2_eq]; omega) | (split <;> omega)) (by first | omega | (simp [up2, *]; done) | (simp [up2, *]; omega) | (simp only [up2_eq]; omega) | (split <;> omega)) rfl dX4_houseNow_89 ?_
                  refine r_dup C dX4_houseNow_90 rfl ?_
                  refine r_iconst (v := (nI 1)) C dX4_houseNow_91 (by decide) ?_
                  refine r_aload_n C dX4_houseNow_92 rfl ?_
                  refine d_V (st := [.int (nI 1), .ref b_5, .ref b_5]) hX.1.stb C hE (D_windows (ba := ba) (ra := ra) (hf := hf) (hq := hq) (kn := kn) (th := th) (sm := sm)  hX (fun w a b => by have h8 := h5M w a b; omega)) pk_X4_windows qm_X4_186 0 8 rfl rfl wm_0 rfl rfl (Nat.le_of_ble_eq_true rfl) dX4_houseNow_93 ⟨(Nat.le_of_ble_eq_true rfl), (Nat.le_of_ble_eq_true rfl)⟩ ⟨(Nat.le_of_ble_eq_true rfl), (Nat.le_of_ble_eq_true rfl)⟩ ?_
                  refine r_w (w' := WM cy ba ra hf hq kn th sm ++ (Y ++ [(b_5, .inl (cy 1, 4, .inl (upd (fun _ => 0) 0 (nI (smF (hf 4) 4 0 0)))))])) rfl ?_
                  refine x_ast C (i := 1) (f := upd (fun _ => 0) 0 (nI (smF (hf 4) 4 0 0))) (E' := [(b_5, .inl (cy 1, 4, .inl (upd (upd (fun _ => 0) 0 (nI (smF (hf 4) 4 0 0))) 1 (nI (smF (hf 5) 4 4 0)))))]) 0 rfl (by first | omega | (simp [up2, *]; done) | (simp [up2, *]; omega) | (simp only [up2_eq]; omega) | (split <;> omega)) (by first | omega | (simp [up2, *]; done) | (simp [up2, *]; omega) | (simp only [up2_eq]; omega) | (split <;> omega)) rfl dX4_houseNow_96 ?_
                  refine r_dup C dX4_houseNow_97 rfl ?_
                  refine r_iconst (v := (nI 2)) C dX4_houseNow_98 (by decide) ?_
                  refine r_iload_n C dX4_houseNow_99 rfl ?_
                  refine x_ast C (i := 2) (f := upd (upd (fun _ => 0) 0 (nI (smF (hf 4) 4 0 0))) 1 (nI (smF (hf 5) 4 4 0))) (E' := [(b_5, .inl (cy 1, 4, .inl (upd (upd (upd (fun _ => 0) 0 (nI (smF (hf 4) 4 0 0))) 1 (nI (smF (hf 5) 4 4 0))) 2 (nI (smF (hf 9) 3 0 0)))))]) 0 rfl (by first | omega | (simp [up2, *]; done) | (simp [up2, *]; omega) | (simp only [up2_eq]; omega) | (split <;> omega)) (by first | omega | (simp [up2, *]; done) | (simp [up2, *]; omega) | (simp only [up2_eq]; omega) | (split <;> omega)) rfl dX4_houseNow_100 ?_
                  refine r_dup C dX4_houseNow_101 rfl ?_
                  refine r_iconst (v := (nI 3)) C dX4_houseNow_102 (by decide) ?_
                  refine r_aload_n C dX4_houseNow_103 rfl ?_
                  refine m_get (v := .int kn) C 9 (by decide) qf_X4_202 rfl rfl dX4_houseNow_104 ?_
                  refine x_ast C (i := 3) (f := upd (upd (upd (fun _ => 0) 0 (nI (smF (hf 4) 4 0 0))) 1 (nI (smF (hf 5) 4 4 0))) 2 (nI (smF (hf 9) 3 0 0))) (E' := [(b_5, .inl (cy 1, 4, .inl (upd (upd (upd (upd (fun _ => 0) 0 (nI (smF (hf 4) 4 0 0))) 1 (nI (smF (hf 5) 4 4 0))) 2 (nI (smF (hf 9) 3 0 0))) 3 kn)))]) 0 rfl (by first | omega | (simp [up2, *]; done) | (simp [up2, *]; omega) | (simp only [up2_eq]; omega) | (split <;> omega)) (by first | omega | (simp [up2, *]; done) | (simp [up2, *]; omega) | (simp only [up2_eq]; omega) | (split <;> omega)) rfl dX4_houseNow_107 ?_
                  refine r_astore C dX4_houseNow_108 (by decide) rfl ?_
                  refine r_aload C dX4_houseNow_110 rfl ?_
                  refine r_iload_n C dX4_houseNow_112 rfl ?_
                  refine x_ald C (i := 1) (f := upd (upd (upd (upd (fun _ => 0) 0 (nI (smF (hf 4) 4 0 0))) 1 (nI (smF (hf 5) 4 4 0))) 2 (nI (smF (hf 9) 3 0 0))) 3 kn) 0 rfl (by first | omega | (simp [up2, *]; done) | (simp [up2, *]; omega) | (simp only [up2_eq]; omega) | (split <;> omega)) (by first | omega | (simp [up2, *]; done) | (simp [up2, *]; omega) | (simp only [up2_eq]; omega) | (split <;> omega)) dX4_houseNow_113 ?_
                  refine r_eqi (show (upd (upd (upd (upd (fun _ => 0) 0 (nI (smF (hf 4) 4 0 0))) 1 (nI (smF (hf 5) 4 4 0))) 2 (nI (smF (hf 9) 3 0 0))) 3 kn) 1 = (nI (smF (hf 5) 4 4 0)) from rfl) ?_
                  refine r_pre ?_
                  exact r_iret C hr dX4_houseNow_114 ⟨rfl, rfl⟩ (Nat.le_of_ble_eq_true rfl) (Nat.le_of_ble_eq_true rfl)
              · first
                | exfalso; first | omega | contradiction
                | skip
                  refine r_aload C dX4_houseNow_62 rfl ?_
                  refine r_iload C dX4_houseNow_64 rfl ?_
                  refine m_zld (i := k) (z := k) (v := hf 9 k) C 4 (by decide) (by decide) (show k < 3 from (by first | omega | (simp [up2, *]; done) | (simp [up2, *]; omega) | (simp only [up2_eq]; omega) | (split <;> omega))) (show 0 + k = k from (by omega)) rfl dX4_houseNow_66 ?_
                  refine r_istore C dX4_houseNow_67 (by decide) rfl ?_
                  refine r_iload_n C dX4_houseNow_69 rfl ?_
                  refine r_iload C dX4_houseNow_70 rfl ?_
                  refine d_S (st := [.int (nI z3)]) hX.1.stb C hE (D_one (ba := ba) (ra := ra) (hf := hf) (hq := hq) (kn := kn) (th := th) (sm := sm) (Y := Y) (b0 := (hf 9 k)) hX (h9a k (by omega))) pk_X4_one qm_X4_136 rfl rfl (Nat.le_of_ble_eq_true rfl) dX4_houseNow_72 ⟨(Nat.le_of_ble_eq_true rfl), (Nat.le_of_ble_eq_true rfl)⟩ ⟨(Nat.le_of_ble_eq_true rfl), (Nat.le_of_ble_eq_true rfl)⟩ ?_
                  refine r_w (w' := WM cy ba ra hf hq kn th sm ++ Y) rfl ?_
                  refine r_iaddN C dX4_houseNow_75 ?_
                  refine r_istore_n C dX4_houseNow_76 (by decide) rfl ?_
                  refine r_iincN C dX4_houseNow_77 rfl (by decide) rfl ?_
                  refine r_goto (tgt := 55) C dX4_houseNow_80 (by decide) ?_
                  refine r_drop 7 ?_
                  exact ih_L55 (k + 1) (z3 + (hf 9 k)) (by first | omega | (simp [up2, *]; done) | (simp [up2, *]; omega) | (simp only [up2_eq]; omega) | (split <;> omega)) (by have h8 := h9a k (by omega); omega) (by rw [← hF3]; rfl)
          exact L55 3 0 0 (by first | omega | (simp [up2, *]; done) | (simp [up2, *]; omega) | (simp only [up2_eq]; omega) | (split <;> omega)) (by omega) rfl
      · first
        | exfalso; first | omega | contradiction
        | skip
          refine r_aload_n C dX4_houseNow_21 rfl ?_
          refine r_iload C dX4_houseNow_22 rfl ?_
          refine m_rows (i := k) C (by first | omega | (simp [up2, *]; done) | (simp [up2, *]; omega) | (simp only [up2_eq]; omega) | (split <;> omega)) dX4_houseNow_24 ?_
          refine r_astore C dX4_houseNow_25 (by decide) rfl ?_
          refine r_iload_n C dX4_houseNow_27 rfl ?_
          refine r_aload C dX4_houseNow_28 rfl ?_
          refine m_rlen (i := k) (v := hf 4 k) C (by first | omega | (simp [up2, *]; done) | (simp [up2, *]; omega) | (simp only [up2_eq]; omega) | (split <;> omega)) rfl dX4_houseNow_30 ?_
          refine r_iaddN C dX4_houseNow_31 ?_
          refine r_istore_n C dX4_houseNow_32 (by decide) rfl ?_
          refine r_iincN C dX4_houseNow_33 rfl (by decide) rfl ?_
          refine r_goto (tgt := 14) C dX4_houseNow_36 (by decide) ?_
          refine r_drop 6 ?_
          exact (Nat.not_lt_zero _ (by omega)).elim
    | succ d ih_L14 =>
      intro k z hk hz hF
      refine r_iload C dX4_houseNow_14 rfl ?_
      refine r_iload C dX4_houseNow_16 rfl ?_
      refine r_icN_ge (a := k) (b := 4) (tgt := 39) C (by first | omega | (simp [up2, *]; done) | (simp [up2, *]; omega) | (simp only [up2_eq]; omega) | (split <;> omega)) (by first | omega | (simp [up2, *]; done) | (simp [up2, *]; omega) | (simp only [up2_eq]; omega) | (split <;> omega)) dX4_houseNow_18 (by decide) (fun h18_6 => ?_) (fun h18_6 => ?_)
      · first
        | exfalso; first | omega | contradiction
        | skip
          have e9 : z = smF (hf 4) 4 0 0 := hF
          subst e9
          refine r_iconst (v := (nI 0)) C dX4_houseNow_39 (by decide) ?_
          refine r_istore_n C dX4_houseNow_40 (by decide) rfl ?_
          refine r_aload_n C dX4_houseNow_41 rfl ?_
          refine m_get (v := .ref (ba 5)) C 5 (by decide) qf_X4_32 rfl rfl dX4_houseNow_42 ?_
          refine r_astore C dX4_houseNow_45 (by decide) rfl ?_
          refine r_aload C dX4_houseNow_47 rfl ?_
          refine m_alen C 4 (by decide) dX4_houseNow_49 ?_
          refine r_istore C dX4_houseNow_50 (by decide) rfl ?_
          refine r_iconst (v := (nI 0)) C dX4_houseNow_52 (by decide) ?_
          refine r_istore C dX4_houseNow_53 (by decide) rfl ?_
          have L55 : ∀ (d : Nat) (k : Nat) (z3 : Nat), (hk3 : k + d = 3) → (hz3 : z3 ≤ k) → (hF3 : smF (hf 9) d k z3 = smF (hf 9) 3 0 0) → vC p l e (rmk 3 1 4 90) s m args below meth c D A (vx_MQ below (vG (fun v1 w1 => v1 = (some (.int (hoM hf kn 1))) ∧ w1 = WM cy ba ra hf hq kn th sm ++ Y) D vwCl A) (vGX (fun _ => False) D vwCl (WM cy ba ra hf hq kn th sm ++ Y) A) args s (rmk 3 1 4 90).cells (rmk 3 1 4 90).slots A) 8 0 0 (WM cy ba ra hf hq kn th sm ++ Y) [some (.ref (ba 9)), some (.int (nI 1)), some (.int (nI (smF (hf 4) 4 0 0))), some (.int (nI z3)), some (.ref (ba 5)), some (.int (nI 3)), some (.int (nI k)), none] 55 [] := by
            intro d
            induction d with
            | zero =>
              intro k z3 hk3 hz3 hF3
              refine r_iload C dX4_houseNow_55 rfl ?_
              refine r_iload C dX4_houseNow_57 rfl ?_
              refine r_icN_ge (a := k) (b := 3) (tgt := 83) C (by first | omega | (simp [up2, *]; done) | (simp [up2, *]; omega) | (simp only [up2_eq]; omega) | (split <;> omega)) (by first | omega | (simp [up2, *]; done) | (simp [up2, *]; omega) | (simp only [up2_eq]; omega) | (split <;> omega)) dX4_houseNow_59 (by decide) (fun h59_7 => ?_) (fun h59_7 => ?_)
              · first
                | exfalso; first | omega | contradiction
                | skip
                  have e9 : z3 = smF (hf 9) 3 0 0 := hF3
                  subst e9
                  refine r_iconst (v := (nI 4)) C dX4_houseNow_83 (by decide) ?_
                  refine r_newT C .int .int 1 rfl (by simp) qa_int (n := 4) (show 4 < 1000000 from Nat.lt_of_le_of_lt (show 4 ≤ 4 from (Nat.le_refl _)) (by decide)) (1) (4) (Nat.le_of_ble_eq_true rfl) (Nat.add_le_add (Nat.le_refl _) (show 4 ≤ 4 from (Nat.le_refl _))) (Nat.le_of_ble_eq_true rfl) (Nat.le_of_ble_eq_true rfl) dX4_houseNow_84 (fun b_8 => ?_)
                  refine r_w (w' := WM cy ba ra hf hq kn th sm ++ (Y ++ [(b_8, .inl (cy 1, 4, .inl (fun _ => 0)))])) (by simp only [List.append_assoc, List.cons_append, List.nil_append]) ?_
                  refine r_dup C dX4_houseNow_86 rfl ?_
                  refine r_iconst (v := (nI 0)) C dX4_houseNow_87 (by decide) ?_
                  refine r_iload_n C dX4_houseNow_88 rfl ?_
                  refine x_ast C (i := 0) (f := fun _ => 0) (E' := [(b_8, .inl (cy 1, 4, .inl (upd (fun _ => 0) 0 (nI (smF (hf 4) 4 0 0)))))]) 0 rfl (by first | omega | (simp [up2, *]; done) | (simp [up2, *]; omega) | (simp only [up2_eq]; omega) | (split <;> omega)) (by first | omega | (simp [up2, *]; done) | (simp [up2, *]; omega) | (simp only [up2_eq]; omega) | (split <;> omega)) rfl dX4_houseNow_89 ?_
                  refine r_dup C dX4_houseNow_90 rfl ?_
                  refine r_iconst (v := (nI 1)) C dX4_houseNow_91 (by decide) ?_
                  refine r_aload_n C dX4_houseNow_92 rfl ?_
                  refine d_V (st := [.int (nI 1), .ref b_8, .ref b_8]) hX.1.stb C hE (D_windows (ba := ba) (ra := ra) (hf := hf) (hq := hq) (kn := kn) (th := th) (sm := sm)  hX (fun w a b => by have h8 := h5M w a b; omega)) pk_X4_windows qm_X4_186 0 8 rfl rfl wm_0 rfl rfl (Nat.le_of_ble_eq_true rfl) dX4_houseNow_93 ⟨(Nat.le_of_ble_eq_true rfl), (Nat.le_of_ble_eq_true rfl)⟩ ⟨(Nat.le_of_ble_eq_true rfl), (Nat.le_of_ble_eq_true rfl)⟩ ?_
                  refine r_w (w' := WM cy ba ra hf hq kn th sm ++ (Y ++ [(b_8, .inl (cy 1, 4, .inl (upd (fun _ => 0) 0 (nI (smF (hf 4) 4 0 0)))))])) rfl ?_
                  refine x_ast C (i := 1) (f := upd (fun _ => 0) 0 (nI (smF (hf 4) 4 0 0))) (E' := [(b_8, .inl (cy 1, 4, .inl (upd (upd (fun _ => 0) 0 (nI (smF (hf 4) 4 0 0))) 1 (nI (smF (hf 5) 4 4 0)))))]) 0 rfl (by first | omega | (simp [up2, *]; done) | (simp [up2, *]; omega) | (simp only [up2_eq]; omega) | (split <;> omega)) (by first | omega | (simp [up2, *]; done) | (simp [up2, *]; omega) | (simp only [up2_eq]; omega) | (split <;> omega)) rfl dX4_houseNow_96 ?_
                  refine r_dup C dX4_houseNow_97 rfl ?_
                  refine r_iconst (v := (nI 2)) C dX4_houseNow_98 (by decide) ?_
                  refine r_iload_n C dX4_houseNow_99 rfl ?_
                  refine x_ast C (i := 2) (f := upd (upd (fun _ => 0) 0 (nI (smF (hf 4) 4 0 0))) 1 (nI (smF (hf 5) 4 4 0))) (E' := [(b_8, .inl (cy 1, 4, .inl (upd (upd (upd (fun _ => 0) 0 (nI (smF (hf 4) 4 0 0))) 1 (nI (smF (hf 5) 4 4 0))) 2 (nI (smF (hf 9) 3 0 0)))))]) 0 rfl (by first | omega | (simp [up2, *]; done) | (simp [up2, *]; omega) | (simp only [up2_eq]; omega) | (split <;> omega)) (by first | omega | (simp [up2, *]; done) | (simp [up2, *]; omega) | (simp only [up2_eq]; omega) | (split <;> omega)) rfl dX4_houseNow_100 ?_
                  refine r_dup C dX4_houseNow_101 rfl ?_
                  refine r_iconst (v := (nI 3)) C dX4_houseNow_102 (by decide) ?_
                  refine r_aload_n C dX4_houseNow_103 rfl ?_
                  refine m_get (v := .int kn) C 9 (by decide) qf_X4_202 rfl rfl dX4_houseNow_104 ?_
                  refine x_ast C (i := 3) (f := upd (upd (upd (fun _ => 0) 0 (nI (smF (hf 4) 4 0 0))) 1 (nI (smF (hf 5) 4 4 0))) 2 (nI (smF (hf 9) 3 0 0))) (E' := [(b_8, .inl (cy 1, 4, .inl (upd (upd (upd (upd (fun _ => 0) 0 (nI (smF (hf 4) 4 0 0))) 1 (nI (smF (hf 5) 4 4 0))) 2 (nI (smF (hf 9) 3 0 0))) 3 kn)))]) 0 rfl (by first | omega | (simp [up2, *]; done) | (simp [up2, *]; omega) | (simp only [up2_eq]; omega) | (split <;> omega)) (by first | omega | (simp [up2, *]; done) | (simp [up2, *]; omega) | (simp only [up2_eq]; omega) | (split <;> omega)) rfl dX4_houseNow_107 ?_
                  refine r_astore C dX4_houseNow_108 (by decide) rfl ?_
                  refine r_aload C dX4_houseNow_110 rfl ?_
                  refine r_iload_n C dX4_houseNow_112 rfl ?_
                  refine x_ald C (i := 1) (f := upd (upd (upd (upd (fun _ => 0) 0 (nI (smF (hf 4) 4 0 0))) 1 (nI (smF (hf 5) 4 4 0))) 2 (nI (smF (hf 9) 3 0 0))) 3 kn) 0 rfl (by first | omega | (simp [up2, *]; done) | (simp [up2, *]; omega) | (simp only [up2_eq]; omega) | (split <;> omega)) (by first | omega | (simp [up2, *]; done) | (simp [up2, *]; omega) | (simp only [up2_eq]; omega) | (split <;> omega)) dX4_houseNow_113 ?_
                  refine r_eqi (show (upd (upd (upd (upd (fun _ => 0) 0 (nI (smF (hf 4) 4 0 0))) 1 (nI (smF (hf 5) 4 4 0))) 2 (nI (smF (hf 9) 3 0 0))) 3 kn) 1 = (nI (smF (hf 5) 4 4 0)) from rfl) ?_
                  refine r_pre ?_
                  exact r_iret C hr dX4_houseNow_114 ⟨rfl, rfl⟩ (Nat.le_of_ble_eq_true rfl) (Nat.le_of_ble_eq_true rfl)
              · first
                | exfalso; first | omega | contradiction
                | skip
                  refine r_aload C dX4_houseNow_62 rfl ?_
                  refine r_iload C dX4_houseNow_64 rfl ?_
                  refine m_zld (i := k) (z := k) (v := hf 9 k) C 4 (by decide) (by decide) (show k < 3 from (by first | omega | (simp [up2, *]; done) | (simp [up2, *]; omega) | (simp only [up2_eq]; omega) | (split <;> omega))) (show 0 + k = k from (by omega)) rfl dX4_houseNow_66 ?_
                  refine r_istore C dX4_houseNow_67 (by decide) rfl ?_
                  refine r_iload_n C dX4_houseNow_69 rfl ?_
                  refine r_iload C dX4_houseNow_70 rfl ?_
                  refine d_S (st := [.int (nI z3)]) hX.1.stb C hE (D_one (ba := ba) (ra := ra) (hf := hf) (hq := hq) (kn := kn) (th := th) (sm := sm) (Y := Y) (b0 := (hf 9 k)) hX (h9a k (by omega))) pk_X4_one qm_X4_136 rfl rfl (Nat.le_of_ble_eq_true rfl) dX4_houseNow_72 ⟨(Nat.le_of_ble_eq_true rfl), (Nat.le_of_ble_eq_true rfl)⟩ ⟨(Nat.le_of_ble_eq_true rfl), (Nat.le_of_ble_eq_true rfl)⟩ ?_
                  refine r_w (w' := WM cy ba ra hf hq kn th sm ++ Y) rfl ?_
                  refine r_iaddN C dX4_houseNow_75 ?_
                  refine r_istore_n C dX4_houseNow_76 (by decide) rfl ?_
                  refine r_iincN C dX4_houseNow_77 rfl (by decide) rfl ?_
                  refine r_goto (tgt := 55) C dX4_houseNow_80 (by decide) ?_
                  refine r_drop 7 ?_
                  exact (Nat.not_lt_zero _ (by omega)).elim
            | succ d ih_L55 =>
              intro k z3 hk3 hz3 hF3
              refine r_iload C dX4_houseNow_55 rfl ?_
              refine r_iload C dX4_houseNow_57 rfl ?_
              refine r_icN_ge (a := k) (b := 3) (tgt := 83) C (by first | omega | (simp [up2, *]; done) | (simp [up2, *]; omega) | (simp only [up2_eq]; omega) | (split <;> omega)) (by first | omega | (simp [up2, *]; done) | (simp [up2, *]; omega) | (simp only [up2_eq]; omega) | (split <;> omega)) dX4_houseNow_59 (by decide) (fun h59_9 => ?_) (fun h59_9 => ?_)
              · first
                | exfalso; first | omega | contradiction
                | skip
                  have e9 : z3 = smF (hf 9) 3 0 0 := hF3
                  subst e9
                  refine r_iconst (v := (nI 4)) C dX4_houseNow_83 (by decide) ?_
                  refine r_newT C .int .int 1 rfl (by simp) qa_int (n := 4) (show 4 < 1000000 from Nat.lt_of_le_of_lt (show 4 ≤ 4 from (Nat.le_refl _)) (by decide)) (1) (4) (Nat.le_of_ble_eq_true rfl) (Nat.add_le_add (Nat.le_refl _) (show 4 ≤ 4 from (Nat.le_refl _))) (Nat.le_of_ble_eq_true rfl) (Nat.le_of_ble_eq_true rfl) dX4_houseNow_84 (fun b_10 => ?_)
                  refine r_w (w' := WM cy ba ra hf hq kn th sm ++ (Y ++ [(b_10, .inl (cy 1, 4, .inl (fun _ => 0)))])) (by simp only [List.append_assoc, List.cons_append, List.nil_append]) ?_
                  refine r_dup C dX4_houseNow_86 rfl ?_
                  refine r_iconst (v := (nI 0)) C dX4_houseNow_87 (by decide) ?_
                  refine r_iload_n C dX4_houseNow_88 rfl ?_
                  refine x_ast C (i := 0) (f := fun _ => 0) (E' := [(b_10, .inl (cy 1, 4, .inl (upd (fun _ => 0) 0 (nI (smF (hf 4) 4 0 0)))))]) 0 rfl (by first | omega | (simp [up2, *]; done) | (simp [up2, *]; omega) | (simp only [up2_eq]; omega) | (split <;> omega)) (by first | omega | (simp [up2, *]; done) | (simp [up2, *]; omega) | (simp only [up2_eq]; omega) | (split <;> omega)) rfl dX4_houseNow_89 ?_
                  refine r_dup C dX4_houseNow_90 rfl ?_
                  refine r_iconst (v := (nI 1)) C dX4_houseNow_91 (by decide) ?_
                  refine r_aload_n C dX4_houseNow_92 rfl ?_
                  refine d_V (st := [.int (nI 1), .ref b_10, .ref b_10]) hX.1.stb C hE (D_windows (ba := ba) (ra := ra) (hf := hf) (hq := hq) (kn := kn) (th := th) (sm := sm)  hX (fun w a b => by have h8 := h5M w a b; omega)) pk_X4_windows qm_X4_186 0 8 rfl rfl wm_0 rfl rfl (Nat.le_of_ble_eq_true rfl) dX4_houseNow_93 ⟨(Nat.le_of_ble_eq_true rfl), (Nat.le_of_ble_eq_true rfl)⟩ ⟨(Nat.le_of_ble_eq_true rfl), (Nat.le_of_ble_eq_true rfl)⟩ ?_
                  refine r_w (w' := WM cy ba ra hf hq kn th sm ++ (Y ++ [(b_10, .inl (cy 1, 4, .inl (upd (fun _ => 0) 0 (nI (smF (hf 4) 4 0 0)))))])) rfl ?_
                  refine x_ast C (i := 1) (f := upd (fun _ => 0) 0 (nI (smF (hf 4) 4 0 0))) (E' := [(b_10, .inl (cy 1, 4, .inl (upd (upd (fun _ => 0) 0 (nI (smF (hf 4) 4 0 0))) 1 (nI (smF (hf 5) 4 4 0)))))]) 0 rfl (by first | omega | (simp [up2, *]; done) | (simp [up2, *]; omega) | (simp only [up2_eq]; omega) | (split <;> omega)) (by first | omega | (simp [up2, *]; done) | (simp [up2, *]; omega) | (simp only [up2_eq]; omega) | (split <;> omega)) rfl dX4_houseNow_96 ?_
                  refine r_dup C dX4_houseNow_97 rfl ?_
                  refine r_iconst (v := (nI 2)) C dX4_houseNow_98 (by decide) ?_
                  refine r_iload_n C dX4_houseNow_99 rfl ?_
                  refine x_ast C (i := 2) (f := upd (upd (fun _ => 0) 0 (nI (smF (hf 4) 4 0 0))) 1 (nI (smF (hf 5) 4 4 0))) (E' := [(b_10, .inl (cy 1, 4, .inl (upd (upd (upd (fun _ => 0) 0 (nI (smF (hf 4) 4 0 0))) 1 (nI (smF (hf 5) 4 4 0))) 2 (nI (smF (hf 9) 3 0 0)))))]) 0 rfl (by first | omega | (simp [up2, *]; done) | (simp [up2, *]; omega) | (simp only [up2_eq]; omega) | (split <;> omega)) (by first | omega | (simp [up2, *]; done) | (simp [up2, *]; omega) | (simp only [up2_eq]; omega) | (split <;> omega)) rfl dX4_houseNow_100 ?_
                  refine r_dup C dX4_houseNow_101 rfl ?_
                  refine r_iconst (v := (nI 3)) C dX4_houseNow_102 (by decide) ?_
                  refine r_aload_n C dX4_houseNow_103 rfl ?_
                  refine m_get (v := .int kn) C 9 (by decide) qf_X4_202 rfl rfl dX4_houseNow_104 ?_
                  refine x_ast C (i := 3) (f := upd (upd (upd (fun _ => 0) 0 (nI (smF (hf 4) 4 0 0))) 1 (nI (smF (hf 5) 4 4 0))) 2 (nI (smF (hf 9) 3 0 0))) (E' := [(b_10, .inl (cy 1, 4, .inl (upd (upd (upd (upd (fun _ => 0) 0 (nI (smF (hf 4) 4 0 0))) 1 (nI (smF (hf 5) 4 4 0))) 2 (nI (smF (hf 9) 3 0 0))) 3 kn)))]) 0 rfl (by first | omega | (simp [up2, *]; done) | (simp [up2, *]; omega) | (simp only [up2_eq]; omega) | (split <;> omega)) (by first | omega | (simp [up2, *]; done) | (simp [up2, *]; omega) | (simp only [up2_eq]; omega) | (split <;> omega)) rfl dX4_houseNow_107 ?_
                  refine r_astore C dX4_houseNow_108 (by decide) rfl ?_
                  refine r_aload C dX4_houseNow_110 rfl ?_
                  refine r_iload_n C dX4_houseNow_112 rfl ?_
                  refine x_ald C (i := 1) (f := upd (upd (upd (upd (fun _ => 0) 0 (nI (smF (hf 4) 4 0 0))) 1 (nI (smF (hf 5) 4 4 0))) 2 (nI (smF (hf 9) 3 0 0))) 3 kn) 0 rfl (by first | omega | (simp [up2, *]; done) | (simp [up2, *]; omega) | (simp only [up2_eq]; omega) | (split <;> omega)) (by first | omega | (simp [up2, *]; done) | (simp [up2, *]; omega) | (simp only [up2_eq]; omega) | (split <;> omega)) dX4_houseNow_113 ?_
                  refine r_eqi (show (upd (upd (upd (upd (fun _ => 0) 0 (nI (smF (hf 4) 4 0 0))) 1 (nI (smF (hf 5) 4 4 0))) 2 (nI (smF (hf 9) 3 0 0))) 3 kn) 1 = (nI (smF (hf 5) 4 4 0)) from rfl) ?_
                  refine r_pre ?_
                  exact r_iret C hr dX4_houseNow_114 ⟨rfl, rfl⟩ (Nat.le_of_ble_eq_true rfl) (Nat.le_of_ble_eq_true rfl)
              · first
                | exfalso; first | omega | contradiction
                | skip
                  refine r_aload C dX4_houseNow_62 rfl ?_
                  refine r_iload C dX4_houseNow_64 rfl ?_
                  refine m_zld (i := k) (z := k) (v := hf 9 k) C 4 (by decide) (by decide) (show k < 3 from (by first | omega | (simp [up2, *]; done) | (simp [up2, *]; omega) | (simp only [up2_eq]; omega) | (split <;> omega))) (show 0 + k = k from (by omega)) rfl dX4_houseNow_66 ?_
                  refine r_istore C dX4_houseNow_67 (by decide) rfl ?_
                  refine r_iload_n C dX4_houseNow_69 rfl ?_
                  refine r_iload C dX4_houseNow_70 rfl ?_
                  refine d_S (st := [.int (nI z3)]) hX.1.stb C hE (D_one (ba := ba) (ra := ra) (hf := hf) (hq := hq) (kn := kn) (th := th) (sm := sm) (Y := Y) (b0 := (hf 9 k)) hX (h9a k (by omega))) pk_X4_one qm_X4_136 rfl rfl (Nat.le_of_ble_eq_true rfl) dX4_houseNow_72 ⟨(Nat.le_of_ble_eq_true rfl), (Nat.le_of_ble_eq_true rfl)⟩ ⟨(Nat.le_of_ble_eq_true rfl), (Nat.le_of_ble_eq_true rfl)⟩ ?_
                  refine r_w (w' := WM cy ba ra hf hq kn th sm ++ Y) rfl ?_
                  refine r_iaddN C dX4_houseNow_75 ?_
                  refine r_istore_n C dX4_houseNow_76 (by decide) rfl ?_
                  refine r_iincN C dX4_houseNow_77 rfl (by decide) rfl ?_
                  refine r_goto (tgt := 55) C dX4_houseNow_80 (by decide) ?_
                  refine r_drop 7 ?_
                  exact ih_L55 (k + 1) (z3 + (hf 9 k)) (by first | omega | (simp [up2, *]; done) | (simp [up2, *]; omega) | (simp only [up2_eq]; omega) | (split <;> omega)) (by have h8 := h9a k (by omega); omega) (by rw [← hF3]; rfl)
          exact L55 3 0 0 (by first | omega | (simp [up2, *]; done) | (simp [up2, *]; omega) | (simp only [up2_eq]; omega) | (split <;> omega)) (by omega) rfl
      · first
        | exfalso; first | omega | contradiction
        | skip
          refine r_aload_n C dX4_houseNow_21 rfl ?_
          refine r_iload C dX4_houseNow_22 rfl ?_
          refine m_rows (i := k) C (by first | omega | (simp [up2, *]; done) | (simp [up2, *]; omega) | (simp only [up2_eq]; omega) | (split <;> omega)) dX4_houseNow_24 ?_
          refine r_astore C dX4_houseNow_25 (by decide) rfl ?_
          refine r_iload_n C dX4_houseNow_27 rfl ?_
          refine r_aload C dX4_houseNow_28 rfl ?_
          refine m_rlen (i := k) (v := hf 4 k) C (by first | omega | (simp [up2, *]; done) | (simp [up2, *]; omega) | (simp only [up2_eq]; omega) | (split <;> omega)) rfl dX4_houseNow_30 ?_
          refine r_iaddN C dX4_houseNow_31 ?_
          refine r_istore_n C dX4_houseNow_32 (by decide) rfl ?_
          refine r_iincN C dX4_houseNow_33 rfl (by decide) rfl ?_
          refine r_goto (tgt := 14) C dX4_houseNow_36 (by decide) ?_
          refine r_drop 6 ?_
          exact ih_L14 (k + 1) (z + (hf 4 k)) (by first | omega | (simp [up2, *]; done) | (simp [up2, *]; omega) | (simp only [up2_eq]; omega) | (split <;> omega)) (by have h8 := (hM.2.1 k (by omega)).1; have h7 := hC.rw (i := k) (by omega); omega) (by rw [← hF]; rfl)
  exact L14 4 0 0 (by first | omega | (simp [up2, *]; done) | (simp [up2, *]; omega) | (simp only [up2_eq]; omega) | (split <;> omega)) (by omega) rfl
set_option maxRecDepth 100000 in
set_option maxHeartbeats 4000000 in
theorem D_houseNow_2 {l : Launch} {D : va_G} {cy : Nat → ClassId} {X : (Nat → Prop) → State → Heap → Prop} {ba ra : Nat → Nat} {hf : Nat → Nat → Nat} {hq : Nat → Nat → Int32} {kn th : Int32} {sm : Int64} {Y : va_W} {f : Nat → Nat → Nat} {r : Nat → Nat → Int32}  (hX : EnvM X cy) (hC : CInv f) (hM : MR f r hf hq) : Cd l D cy X yX4_houseNow cX4_houseNow 8 (some .int) (rmk 3 1 4 90) [.ref (ba 9), .int (nI 2)] (WM cy ba ra hf hq kn th sm ++ Y) (some (.int (hoM hf kn 2))) (WM cy ba ra hf hq kn th sm ++ Y) := by
  have hG := hM.1
  have h5M := hM.h5M hC
  have h4M := hC.h4M
  have h9a := hM.h9a hC
  have h6a := hM.h6a
  have hU := hM.hU hC
  refine Cm.of [some (.ref (ba 9)), some (.int (nI 2)), none, none, none, none, none, none] pn_X4 rfl (Nat.le_of_ble_eq_true rfl) ?_
  intro p e s m args below meth c A C hE hr hnt hn
  refine r_iconst (v := (nI 0)) C dX4_houseNow_0 (by decide) ?_
  refine r_istore_n C dX4_houseNow_1 (by decide) rfl ?_
  refine r_aload_n C dX4_houseNow_2 rfl ?_
  refine m_get (v := .ref (ba 0)) C 0 (by decide) qf_X4_15 rfl rfl dX4_houseNow_3 ?_
  refine r_astore_n C dX4_houseNow_6 (by decide) rfl ?_
  refine r_aload_n C dX4_houseNow_7 rfl ?_
  refine m_olen C dX4_houseNow_8 ?_
  refine r_istore C dX4_houseNow_9 (by decide) rfl ?_
  refine r_iconst (v := (nI 0)) C dX4_houseNow_11 (by decide) ?_
  refine r_istore C dX4_houseNow_12 (by decide) rfl ?_
  have L14 : ∀ (d : Nat) (k : Nat) (z : Nat), (hk : k + d = 4) → (hz : z ≤ 12 * k) → (hF : smF (hf 4) d k z = smF (hf 4) 4 0 0) → vC p l e (rmk 3 1 4 90) s m args below meth c D A (vx_MQ below (vG (fun v1 w1 => v1 = (some (.int (hoM hf kn 2))) ∧ w1 = WM cy ba ra hf hq kn th sm ++ Y) D vwCl A) (vGX (fun _ => False) D vwCl (WM cy ba ra hf hq kn th sm ++ Y) A) args s (rmk 3 1 4 90).cells (rmk 3 1 4 90).slots A) 8 0 0 (WM cy ba ra hf hq kn th sm ++ Y) [some (.ref (ba 9)), some (.int (nI 2)), some (.int (nI z)), some (.ref (ba 0)), some (.int (nI 4)), some (.int (nI k)), none, none] 14 [] := by
    intro d
    induction d with
    | zero =>
      intro k z hk hz hF
      refine r_iload C dX4_houseNow_14 rfl ?_
      refine r_iload C dX4_houseNow_16 rfl ?_
      refine r_icN_ge (a := k) (b := 4) (tgt := 39) C (by first | omega | (simp [up2, *]; done) | (simp [up2, *]; omega) | (simp only [up2_eq]; omega) | (split <;> omega)) (by first | omega | (simp [up2, *]; done) | (simp [up2, *]; omega) | (simp only [up2_eq]; omega) | (split <;> omega)) dX4_houseNow_18 (by decide) (fun h18_1 => ?_) (fun h18_1 => ?_)
      · first
        | exfalso; first | omega | contradiction
        | skip
          have e9 : z = smF (hf 4) 4 0 0 := hF
          subst e9
          refine r_iconst (v := (nI 0)) C dX4_houseNow_39 (by decide) ?_
          refine r_istore_n C dX4_houseNow_40 (by decide) rfl ?_
          refine r_aload_n C dX4_houseNow_41 rfl ?_
          refine m_get (v := .ref (ba 5)) C 5 (by decide) qf_X4_32 rfl rfl dX4_houseNow_42 ?_
          refine r_astore C dX4_houseNow_45 (by decide) rfl ?_
          refine r_aload C dX4_houseNow_47 rfl ?_
          refine m_alen C 4 (by decide) dX4_houseNow_49 ?_
          refine r_istore C dX4_houseNow_50 (by decide) rfl ?_
          refine r_iconst (v := (nI 0)) C dX4_houseNow_52 (by decide) ?_
          refine r_istore C dX4_houseNow_53 (by decide) rfl ?_
          have L55 : ∀ (d : Nat) (k : Nat) (z3 : Nat), (hk3 : k + d = 3) → (hz3 : z3 ≤ k) → (hF3 : smF (hf 9) d k z3 = smF (hf 9) 3 0 0) → vC p l e (rmk 3 1 4 90) s m args below meth c D A (vx_MQ below (vG (fun v1 w1 => v1 = (some (.int (hoM hf kn 2))) ∧ w1 = WM cy ba ra hf hq kn th sm ++ Y) D vwCl A) (vGX (fun _ => False) D vwCl (WM cy ba ra hf hq kn th sm ++ Y) A) args s (rmk 3 1 4 90).cells (rmk 3 1 4 90).slots A) 8 0 0 (WM cy ba ra hf hq kn th sm ++ Y) [some (.ref (ba 9)), some (.int (nI 2)), some (.int (nI (smF (hf 4) 4 0 0))), some (.int (nI z3)), some (.ref (ba 5)), some (.int (nI 3)), some (.int (nI k)), none] 55 [] := by
            intro d
            induction d with
            | zero =>
              intro k z3 hk3 hz3 hF3
              refine r_iload C dX4_houseNow_55 rfl ?_
              refine r_iload C dX4_houseNow_57 rfl ?_
              refine r_icN_ge (a := k) (b := 3) (tgt := 83) C (by first | omega | (simp [up2, *]; done) | (simp [up2, *]; omega) | (simp only [up2_eq]; omega) | (split <;> omega)) (by first | omega | (simp [up2, *]; done) | (simp [up2, *]; omega) | (simp only [up2_eq]; omega) | (split <;> omega)) dX4_houseNow_59 (by decide) (fun h59_2 => ?_) (fun h59_2 => ?_)
              · first
                | exfalso; first | omega | contradiction
                | skip
                  have e9 : z3 = smF (hf 9) 3 0 0 := hF3
                  subst e9
                  refine r_iconst (v := (nI 4)) C dX4_houseNow_83 (by decide) ?_
                  refine r_newT C .int .int 1 rfl (by simp) qa_int (n := 4) (show 4 < 1000000 from Nat.lt_of_le_of_lt (show 4 ≤ 4 from (Nat.le_refl _)) (by decide)) (1) (4) (Nat.le_of_ble_eq_true rfl) (Nat.add_le_add (Nat.le_refl _) (show 4 ≤ 4 from (Nat.le_refl _))) (Nat.le_of_ble_eq_true rfl) (Nat.le_of_ble_eq_true rfl) dX4_houseNow_84 (fun b_3 => ?_)
                  refine r_w (w' := WM cy ba ra hf hq kn th sm ++ (Y ++ [(b_3, .inl (cy 1, 4, .inl (fun _ => 0)))])) (by simp only [List.append_assoc, List.cons_append, List.nil_append]) ?_
                  refine r_dup C dX4_houseNow_86 rfl ?_
                  refine r_iconst (v := (nI 0)) C dX4_houseNow_87 (by decide) ?_
                  refine r_iload_n C dX4_houseNow_88 rfl ?_
                  refine x_ast C (i := 0) (f := fun _ => 0) (E' := [(b_3, .inl (cy 1, 4, .inl (upd (fun _ => 0) 0 (nI (smF (hf 4) 4 0 0)))))]) 0 rfl (by first | omega | (simp [up2, *]; done) | (simp [up2, *]; omega) | (simp only [up2_eq]; omega) | (split <;> omega)) (by first | omega | (simp [up2, *]; done) | (simp [up2, *]; omega) | (simp only [up2_eq]; omega) | (split <;> omega)) rfl dX4_houseNow_89 ?_
                  refine r_dup C dX4_houseNow_90 rfl ?_
                  refine r_iconst (v := (nI 1)) C dX4_houseNow_91 (by decide) ?_
                  refine r_aload_n C dX4_houseNow_92 rfl ?_
                  refine d_V (st := [.int (nI 1), .ref b_3, .ref b_3]) hX.1.stb C hE (D_windows (ba := ba) (ra := ra) (hf := hf) (hq := hq) (kn := kn) (th := th) (sm := sm)  hX (fun w a b => by have h8 := h5M w a b; omega)) pk_X4_windows qm_X4_186 0 8 rfl rfl wm_0 rfl rfl (Nat.le_of_ble_eq_true rfl) dX4_houseNow_93 ⟨(Nat.le_of_ble_eq_true rfl), (Nat.le_of_ble_eq_true rfl)⟩ ⟨(Nat.le_of_ble_eq_true rfl), (Nat.le_of_ble_eq_true rfl)⟩ ?_
                  refine r_w (w' := WM cy ba ra hf hq kn th sm ++ (Y ++ [(b_3, .inl (cy 1, 4, .inl (upd (fun _ => 0) 0 (nI (smF (hf 4) 4 0 0)))))])) rfl ?_
                  refine x_ast C (i := 1) (f := upd (fun _ => 0) 0 (nI (smF (hf 4) 4 0 0))) (E' := [(b_3, .inl (cy 1, 4, .inl (upd (upd (fun _ => 0) 0 (nI (smF (hf 4) 4 0 0))) 1 (nI (smF (hf 5) 4 4 0)))))]) 0 rfl (by first | omega | (simp [up2, *]; done) | (simp [up2, *]; omega) | (simp only [up2_eq]; omega) | (split <;> omega)) (by first | omega | (simp [up2, *]; done) | (simp [up2, *]; omega) | (simp only [up2_eq]; omega) | (split <;> omega)) rfl dX4_houseNow_96 ?_
                  refine r_dup C dX4_houseNow_97 rfl ?_
                  refine r_iconst (v := (nI 2)) C dX4_houseNow_98 (by decide) ?_
                  refine r_iload_n C dX4_houseNow_99 rfl ?_
                  refine x_ast C (i := 2) (f := upd (upd (fun _ => 0) 0 (nI (smF (hf 4) 4 0 0))) 1 (nI (smF (hf 5) 4 4 0))) (E' := [(b_3, .inl (cy 1, 4, .inl (upd (upd (upd (fun _ => 0) 0 (nI (smF (hf 4) 4 0 0))) 1 (nI (smF (hf 5) 4 4 0))) 2 (nI (smF (hf 9) 3 0 0)))))]) 0 rfl (by first | omega | (simp [up2, *]; done) | (simp [up2, *]; omega) | (simp only [up2_eq]; omega) | (split <;> omega)) (by first | omega | (simp [up2, *]; done) | (simp [up2, *]; omega) | (simp only [up2_eq]; omega) | (split <;> omega)) rfl dX4_houseNow_100 ?_
                  refine r_dup C dX4_houseNow_101 rfl ?_
                  refine r_iconst (v := (nI 3)) C dX4_houseNow_102 (by decide) ?_
                  refine r_aload_n C dX4_houseNow_103 rfl ?_
                  refine m_get (v := .int kn) C 9 (by decide) qf_X4_202 rfl rfl dX4_houseNow_104 ?_
                  refine x_ast C (i := 3) (f := upd (upd (upd (fun _ => 0) 0 (nI (smF (hf 4) 4 0 0))) 1 (nI (smF (hf 5) 4 4 0))) 2 (nI (smF (hf 9) 3 0 0))) (E' := [(b_3, .inl (cy 1, 4, .inl (upd (upd (upd (upd (fun _ => 0) 0 (nI (smF (hf 4) 4 0 0))) 1 (nI (smF (hf 5) 4 4 0))) 2 (nI (smF (hf 9) 3 0 0))) 3 kn)))]) 0 rfl (by first | omega | (simp [up2, *]; done) | (simp [up2, *]; omega) | (simp only [up2_eq]; omega) | (split <;> omega)) (by first | omega | (simp [up2, *]; done) | (simp [up2, *]; omega) | (simp only [up2_eq]; omega) | (split <;> omega)) rfl dX4_houseNow_107 ?_
                  refine r_astore C dX4_houseNow_108 (by decide) rfl ?_
                  refine r_aload C dX4_houseNow_110 rfl ?_
                  refine r_iload_n C dX4_houseNow_112 rfl ?_
                  refine x_ald C (i := 2) (f := upd (upd (upd (upd (fun _ => 0) 0 (nI (smF (hf 4) 4 0 0))) 1 (nI (smF (hf 5) 4 4 0))) 2 (nI (smF (hf 9) 3 0 0))) 3 kn) 0 rfl (by first | omega | (simp [up2, *]; done) | (simp [up2, *]; omega) | (simp only [up2_eq]; omega) | (split <;> omega)) (by first | omega | (simp [up2, *]; done) | (simp [up2, *]; omega) | (simp only [up2_eq]; omega) | (split <;> omega)) dX4_houseNow_113 ?_
                  refine r_eqi (show (upd (upd (upd (upd (fun _ => 0) 0 (nI (smF (hf 4) 4 0 0))) 1 (nI (smF (hf 5) 4 4 0))) 2 (nI (smF (hf 9) 3 0 0))) 3 kn) 2 = (nI (smF (hf 9) 3 0 0)) from rfl) ?_
                  refine r_pre ?_
                  exact r_iret C hr dX4_houseNow_114 ⟨rfl, rfl⟩ (Nat.le_of_ble_eq_true rfl) (Nat.le_of_ble_eq_true rfl)
              · first
                | exfalso; first | omega | contradiction
                | skip
                  refine r_aload C dX4_houseNow_62 rfl ?_
                  refine r_iload C dX4_houseNow_64 rfl ?_
                  refine m_zld (i := k) (z := k) (v := hf 9 k) C 4 (by decide) (by decide) (show k < 3 from (by first | omega | (simp [up2, *]; done) | (simp [up2, *]; omega) | (simp only [up2_eq]; omega) | (split <;> omega))) (show 0 + k = k from (by omega)) rfl dX4_houseNow_66 ?_
                  refine r_istore C dX4_houseNow_67 (by decide) rfl ?_
                  refine r_iload_n C dX4_houseNow_69 rfl ?_
                  refine r_iload C dX4_houseNow_70 rfl ?_
                  refine d_S (st := [.int (nI z3)]) hX.1.stb C hE (D_one (ba := ba) (ra := ra) (hf := hf) (hq := hq) (kn := kn) (th := th) (sm := sm) (Y := Y) (b0 := (hf 9 k)) hX (h9a k (by omega))) pk_X4_one qm_X4_136 rfl rfl (Nat.le_of_ble_eq_true rfl) dX4_houseNow_72 ⟨(Nat.le_of_ble_eq_true rfl), (Nat.le_of_ble_eq_true rfl)⟩ ⟨(Nat.le_of_ble_eq_true rfl), (Nat.le_of_ble_eq_true rfl)⟩ ?_
                  refine r_w (w' := WM cy ba ra hf hq kn th sm ++ Y) rfl ?_
                  refine r_iaddN C dX4_houseNow_75 ?_
                  refine r_istore_n C dX4_houseNow_76 (by decide) rfl ?_
                  refine r_iincN C dX4_houseNow_77 rfl (by decide) rfl ?_
                  refine r_goto (tgt := 55) C dX4_houseNow_80 (by decide) ?_
                  refine r_drop 7 ?_
                  exact (Nat.not_lt_zero _ (by omega)).elim
            | succ d ih_L55 =>
              intro k z3 hk3 hz3 hF3
              refine r_iload C dX4_houseNow_55 rfl ?_
              refine r_iload C dX4_houseNow_57 rfl ?_
              refine r_icN_ge (a := k) (b := 3) (tgt := 83) C (by first | omega | (simp [up2, *]; done) | (simp [up2, *]; omega) | (simp only [up2_eq]; omega) | (split <;> omega)) (by first | omega | (simp [up2, *]; done) | (simp [up2, *]; omega) | (simp only [up2_eq]; omega) | (split <;> omega)) dX4_houseNow_59 (by decide) (fun h59_4 => ?_) (fun h59_4 => ?_)
              · first
                | exfalso; first | omega | contradiction
                | skip
                  have e9 : z3 = smF (hf 9) 3 0 0 := hF3
                  subst e9
                  refine r_iconst (v := (nI 4)) C dX4_houseNow_83 (by decide) ?_
                  refine r_newT C .int .int 1 rfl (by simp) qa_int (n := 4) (show 4 < 1000000 from Nat.lt_of_le_of_lt (show 4 ≤ 4 from (Nat.le_refl _)) (by decide)) (1) (4) (Nat.le_of_ble_eq_true rfl) (Nat.add_le_add (Nat.le_refl _) (show 4 ≤ 4 from (Nat.le_refl _))) (Nat.le_of_ble_eq_true rfl) (Nat.le_of_ble_eq_true rfl) dX4_houseNow_84 (fun b_5 => ?_)
                  refine r_w (w' := WM cy ba ra hf hq kn th sm ++ (Y ++ [(b_5, .inl (cy 1, 4, .inl (fun _ => 0)))])) (by simp only [List.append_assoc, List.cons_append, List.nil_append]) ?_
                  refine r_dup C dX4_houseNow_86 rfl ?_
                  refine r_iconst (v := (nI 0)) C dX4_houseNow_87 (by decide) ?_
                  refine r_iload_n C dX4_houseNow_88 rfl ?_
                  refine x_ast C (i := 0) (f := fun _ => 0) (E' := [(b_5, .inl (cy 1, 4, .inl (upd (fun _ => 0) 0 (nI (smF (hf 4) 4 0 0)))))]) 0 rfl (by first | omega | (simp [up2, *]; done) | (simp [up2, *]; omega) | (simp only [up2_eq]; omega) | (split <;> omega)) (by first | omega | (simp [up2, *]; done) | (simp [up2, *]; omega) | (simp only [up2_eq]; omega) | (split <;> omega)) rfl dX4_houseNow_89 ?_
                  refine r_dup C dX4_houseNow_90 rfl ?_
                  refine r_iconst (v := (nI 1)) C dX4_houseNow_91 (by decide) ?_
                  refine r_aload_n C dX4_houseNow_92 rfl ?_
                  refine d_V (st := [.int (nI 1), .ref b_5, .ref b_5]) hX.1.stb C hE (D_windows (ba := ba) (ra := ra) (hf := hf) (hq := hq) (kn := kn) (th := th) (sm := sm)  hX (fun w a b => by have h8 := h5M w a b; omega)) pk_X4_windows qm_X4_186 0 8 rfl rfl wm_0 rfl rfl (Nat.le_of_ble_eq_true rfl) dX4_houseNow_93 ⟨(Nat.le_of_ble_eq_true rfl), (Nat.le_of_ble_eq_true rfl)⟩ ⟨(Nat.le_of_ble_eq_true rfl), (Nat.le_of_ble_eq_true rfl)⟩ ?_
                  refine r_w (w' := WM cy ba ra hf hq kn th sm ++ (Y ++ [(b_5, .inl (cy 1, 4, .inl (upd (fun _ => 0) 0 (nI (smF (hf 4) 4 0 0)))))])) rfl ?_
                  refine x_ast C (i := 1) (f := upd (fun _ => 0) 0 (nI (smF (hf 4) 4 0 0))) (E' := [(b_5, .inl (cy 1, 4, .inl (upd (upd (fun _ => 0) 0 (nI (smF (hf 4) 4 0 0))) 1 (nI (smF (hf 5) 4 4 0)))))]) 0 rfl (by first | omega | (simp [up2, *]; done) | (simp [up2, *]; omega) | (simp only [up2_eq]; omega) | (split <;> omega)) (by first | omega | (simp [up2, *]; done) | (simp [up2, *]; omega) | (simp only [up2_eq]; omega) | (split <;> omega)) rfl dX4_houseNow_96 ?_
                  refine r_dup C dX4_houseNow_97 rfl ?_
                  refine r_iconst (v := (nI 2)) C dX4_houseNow_98 (by decide) ?_
                  refine r_iload_n C dX4_houseNow_99 rfl ?_
                  refine x_ast C (i := 2) (f := upd (upd (fun _ => 0) 0 (nI (smF (hf 4) 4 0 0))) 1 (nI (smF (hf 5) 4 4 0))) (E' := [(b_5, .inl (cy 1, 4, .inl (upd (upd (upd (fun _ => 0) 0 (nI (smF (hf 4) 4 0 0))) 1 (nI (smF (hf 5) 4 4 0))) 2 (nI (smF (hf 9) 3 0 0)))))]) 0 rfl (by first | omega | (simp [up2, *]; done) | (simp [up2, *]; omega) | (simp only [up2_eq]; omega) | (split <;> omega)) (by first | omega | (simp [up2, *]; done) | (simp [up2, *]; omega) | (simp only [up2_eq]; omega) | (split <;> omega)) rfl dX4_houseNow_100 ?_
                  refine r_dup C dX4_houseNow_101 rfl ?_
                  refine r_iconst (v := (nI 3)) C dX4_houseNow_102 (by decide) ?_
                  refine r_aload_n C dX4_houseNow_103 rfl ?_
                  refine m_get (v := .int kn) C 9 (by decide) qf_X4_202 rfl rfl dX4_houseNow_104 ?_
                  refine x_ast C (i := 3) (f := upd (upd (upd (fun _ => 0) 0 (nI (smF (hf 4) 4 0 0))) 1 (nI (smF (hf 5) 4 4 0))) 2 (nI (smF (hf 9) 3 0 0))) (E' := [(b_5, .inl (cy 1, 4, .inl (upd (upd (upd (upd (fun _ => 0) 0 (nI (smF (hf 4) 4 0 0))) 1 (nI (smF (hf 5) 4 4 0))) 2 (nI (smF (hf 9) 3 0 0))) 3 kn)))]) 0 rfl (by first | omega | (simp [up2, *]; done) | (simp [up2, *]; omega) | (simp only [up2_eq]; omega) | (split <;> omega)) (by first | omega | (simp [up2, *]; done) | (simp [up2, *]; omega) | (simp only [up2_eq]; omega) | (split <;> omega)) rfl dX4_houseNow_107 ?_
                  refine r_astore C dX4_houseNow_108 (by decide) rfl ?_
                  refine r_aload C dX4_houseNow_110 rfl ?_
                  refine r_iload_n C dX4_houseNow_112 rfl ?_
                  refine x_ald C (i := 2) (f := upd (upd (upd (upd (fun _ => 0) 0 (nI (smF (hf 4) 4 0 0))) 1 (nI (smF (hf 5) 4 4 0))) 2 (nI (smF (hf 9) 3 0 0))) 3 kn) 0 rfl (by first | omega | (simp [up2, *]; done) | (simp [up2, *]; omega) | (simp only [up2_eq]; omega) | (split <;> omega)) (by first | omega | (simp [up2, *]; done) | (simp [up2, *]; omega) | (simp only [up2_eq]; omega) | (split <;> omega)) dX4_houseNow_113 ?_
                  refine r_eqi (show (upd (upd (upd (upd (fun _ => 0) 0 (nI (smF (hf 4) 4 0 0))) 1 (nI (smF (hf 5) 4 4 0))) 2 (nI (smF (hf 9) 3 0 0))) 3 kn) 2 = (nI (smF (hf 9) 3 0 0)) from rfl) ?_
                  refine r_pre ?_
                  exact r_iret C hr dX4_houseNow_114 ⟨rfl, rfl⟩ (Nat.le_of_ble_eq_true rfl) (Nat.le_of_ble_eq_true rfl)
              · first
                | exfalso; first | omega | contradiction
                | skip
                  refine r_aload C dX4_houseNow_62 rfl ?_
                  refine r_iload C dX4_houseNow_64 rfl ?_
                  refine m_zld (i := k) (z := k) (v := hf 9 k) C 4 (by decide) (by decide) (show k < 3 from (by first | omega | (simp [up2, *]; done) | (simp [up2, *]; omega) | (simp only [up2_eq]; omega) | (split <;> omega))) (show 0 + k = k from (by omega)) rfl dX4_houseNow_66 ?_
                  refine r_istore C dX4_houseNow_67 (by decide) rfl ?_
                  refine r_iload_n C dX4_houseNow_69 rfl ?_
                  refine r_iload C dX4_houseNow_70 rfl ?_
                  refine d_S (st := [.int (nI z3)]) hX.1.stb C hE (D_one (ba := ba) (ra := ra) (hf := hf) (hq := hq) (kn := kn) (th := th) (sm := sm) (Y := Y) (b0 := (hf 9 k)) hX (h9a k (by omega))) pk_X4_one qm_X4_136 rfl rfl (Nat.le_of_ble_eq_true rfl) dX4_houseNow_72 ⟨(Nat.le_of_ble_eq_true rfl), (Nat.le_of_ble_eq_true rfl)⟩ ⟨(Nat.le_of_ble_eq_true rfl), (Nat.le_of_ble_eq_true rfl)⟩ ?_
                  refine r_w (w' := WM cy ba ra hf hq kn th sm ++ Y) rfl ?_
                  refine r_iaddN C dX4_houseNow_75 ?_
                  refine r_istore_n C dX4_houseNow_76 (by decide) rfl ?_
                  refine r_iincN C dX4_houseNow_77 rfl (by decide) rfl ?_
                  refine r_goto (tgt := 55) C dX4_houseNow_80 (by decide) ?_
                  refine r_drop 7 ?_
                  exact ih_L55 (k + 1) (z3 + (hf 9 k)) (by first | omega | (simp [up2, *]; done) | (simp [up2, *]; omega) | (simp only [up2_eq]; omega) | (split <;> omega)) (by have h8 := h9a k (by omega); omega) (by rw [← hF3]; rfl)
          exact L55 3 0 0 (by first | omega | (simp [up2, *]; done) | (simp [up2, *]; omega) | (simp only [up2_eq]; omega) | (split <;> omega)) (by omega) rfl
      · first
        | exfalso; first | omega | contradiction
        | skip
          refine r_aload_n C dX4_houseNow_21 rfl ?_
          refine r_iload C dX4_houseNow_22 rfl ?_
          refine m_rows (i := k) C (by first | omega | (simp [up2, *]; done) | (simp [up2, *]; omega) | (simp only [up2_eq]; omega) | (split <;> omega)) dX4_houseNow_24 ?_
          refine r_astore C dX4_houseNow_25 (by decide) rfl ?_
          refine r_iload_n C dX4_houseNow_27 rfl ?_
          refine r_aload C dX4_houseNow_28 rfl ?_
          refine m_rlen (i := k) (v := hf 4 k) C (by first | omega | (simp [up2, *]; done) | (simp [up2, *]; omega) | (simp only [up2_eq]; omega) | (split <;> omega)) rfl dX4_houseNow_30 ?_
          refine r_iaddN C dX4_houseNow_31 ?_
          refine r_istore_n C dX4_houseNow_32 (by decide) rfl ?_
          refine r_iincN C dX4_houseNow_33 rfl (by decide) rfl ?_
          refine r_goto (tgt := 14) C dX4_houseNow_36 (by decide) ?_
          refine r_drop 6 ?_
          exact (Nat.not_lt_zero _ (by omega)).elim
    | succ d ih_L14 =>
      intro k z hk hz hF
      refine r_iload C dX4_houseNow_14 rfl ?_
      refine r_iload C dX4_houseNow_16 rfl ?_
      refine r_icN_ge (a := k) (b := 4) (tgt := 39) C (by first | omega | (simp [up2, *]; done) | (simp [up2, *]; omega) | (simp only [up2_eq]; omega) | (split <;> omega)) (by first | omega | (simp [up2, *]; done) | (simp [up2, *]; omega) | (simp only [up2_eq]; omega) | (split <;> omega)) dX4_houseNow_18 (by decide) (fun h18_6 => ?_) (fun h18_6 => ?_)
      · first
        | exfalso; first | omega | contradiction
        | skip
          have e9 : z = smF (hf 4) 4 0 0 := hF
          subst e9
          refine r_iconst (v := (nI 0)) C dX4_houseNow_39 (by decide) ?_
          refine r_istore_n C dX4_houseNow_40 (by decide) rfl ?_
          refine r_aload_n C dX4_houseNow_41 rfl ?_
          refine m_get (v := .ref (ba 5)) C 5 (by decide) qf_X4_32 rfl rfl dX4_houseNow_42 ?_
          refine r_astore C dX4_houseNow_45 (by decide) rfl ?_
          refine r_aload C dX4_houseNow_47 rfl ?_
          refine m_alen C 4 (by decide) dX4_houseNow_49 ?_
          refine r_istore C dX4_houseNow_50 (by decide) rfl ?_
          refine r_iconst (v := (nI 0)) C dX4_houseNow_52 (by decide) ?_
          refine r_istore C dX4_houseNow_53 (by decide) rfl ?_
          have L55 : ∀ (d : Nat) (k : Nat) (z3 : Nat), (hk3 : k + d = 3) → (hz3 : z3 ≤ k) → (hF3 : smF (hf 9) d k z3 = smF (hf 9) 3 0 0) → vC p l e (rmk 3 1 4 90) s m args below meth c D A (vx_MQ below (vG (fun v1 w1 => v1 = (some (.int (hoM hf kn 2))) ∧ w1 = WM cy ba ra hf hq kn th sm ++ Y) D vwCl A) (vGX (fun _ => False) D vwCl (WM cy ba ra hf hq kn th sm ++ Y) A) args s (rmk 3 1 4 90).cells (rmk 3 1 4 90).slots A) 8 0 0 (WM cy ba ra hf hq kn th sm ++ Y) [some (.ref (ba 9)), some (.int (nI 2)), some (.int (nI (smF (hf 4) 4 0 0))), some (.int (nI z3)), some (.ref (ba 5)), some (.int (nI 3)), some (.int (nI k)), none] 55 [] := by
            intro d
            induction d with
            | zero =>
              intro k z3 hk3 hz3 hF3
              refine r_iload C dX4_houseNow_55 rfl ?_
              refine r_iload C dX4_houseNow_57 rfl ?_
              refine r_icN_ge (a := k) (b := 3) (tgt := 83) C (by first | omega | (simp [up2, *]; done) | (simp [up2, *]; omega) | (simp only [up2_eq]; omega) | (split <;> omega)) (by first | omega | (simp [up2, *]; done) | (simp [up2, *]; omega) | (simp only [up2_eq]; omega) | (split <;> omega)) dX4_houseNow_59 (by decide) (fun h59_7 => ?_) (fun h59_7 => ?_)
              · first
                | exfalso; first | omega | contradiction
                | skip
                  have e9 : z3 = smF (hf 9) 3 0 0 := hF3
                  subst e9
                  refine r_iconst (v := (nI 4)) C dX4_houseNow_83 (by decide) ?_
                  refine r_newT C .int .int 1 rfl (by simp) qa_int (n := 4) (show 4 < 1000000 from Nat.lt_of_le_of_lt (show 4 ≤ 4 from (Nat.le_refl _)) (by decide)) (1) (4) (Nat.le_of_ble_eq_true rfl) (Nat.add_le_add (Nat.le_refl _) (show 4 ≤ 4 from (Nat.le_refl _))) (Nat.le_of_ble_eq_true rfl) (Nat.le_of_ble_eq_true rfl) dX4_houseNow_84 (fun b_8 => ?_)
                  refine r_w (w' := WM cy ba ra hf hq kn th sm ++ (Y ++ [(b_8, .inl (cy 1, 4, .inl (fun _ => 0)))])) (by simp only [List.append_assoc, List.cons_append, List.nil_append]) ?_
                  refine r_dup C dX4_houseNow_86 rfl ?_
                  refine r_iconst (v := (nI 0)) C dX4_houseNow_87 (by decide) ?_
                  refine r_iload_n C dX4_houseNow_88 rfl ?_
                  refine x_ast C (i := 0) (f := fun _ => 0) (E' := [(b_8, .inl (cy 1, 4, .inl (upd (fun _ => 0) 0 (nI (smF (hf 4) 4 0 0)))))]) 0 rfl (by first | omega | (simp [up2, *]; done) | (simp [up2, *]; omega) | (simp only [up2_eq]; omega) | (split <;> omega)) (by first | omega | (simp [up2, *]; done) | (simp [up2, *]; omega) | (simp only [up2_eq]; omega) | (split <;> omega)) rfl dX4_houseNow_89 ?_
                  refine r_dup C dX4_houseNow_90 rfl ?_
                  refine r_iconst (v := (nI 1)) C dX4_houseNow_91 (by decide) ?_
                  refine r_aload_n C dX4_houseNow_92 rfl ?_
                  refine d_V (st := [.int (nI 1), .ref b_8, .ref b_8]) hX.1.stb C hE (D_windows (ba := ba) (ra := ra) (hf := hf) (hq := hq) (kn := kn) (th := th) (sm := sm)  hX (fun w a b => by have h8 := h5M w a b; omega)) pk_X4_windows qm_X4_186 0 8 rfl rfl wm_0 rfl rfl (Nat.le_of_ble_eq_true rfl) dX4_houseNow_93 ⟨(Nat.le_of_ble_eq_true rfl), (Nat.le_of_ble_eq_true rfl)⟩ ⟨(Nat.le_of_ble_eq_true rfl), (Nat.le_of_ble_eq_true rfl)⟩ ?_
                  refine r_w (w' := WM cy ba ra hf hq kn th sm ++ (Y ++ [(b_8, .inl (cy 1, 4, .inl (upd (fun _ => 0) 0 (nI (smF (hf 4) 4 0 0)))))])) rfl ?_
                  refine x_ast C (i := 1) (f := upd (fun _ => 0) 0 (nI (smF (hf 4) 4 0 0))) (E' := [(b_8, .inl (cy 1, 4, .inl (upd (upd (fun _ => 0) 0 (nI (smF (hf 4) 4 0 0))) 1 (nI (smF (hf 5) 4 4 0)))))]) 0 rfl (by first | omega | (simp [up2, *]; done) | (simp [up2, *]; omega) | (simp only [up2_eq]; omega) | (split <;> omega)) (by first | omega | (simp [up2, *]; done) | (simp [up2, *]; omega) | (simp only [up2_eq]; omega) | (split <;> omega)) rfl dX4_houseNow_96 ?_
                  refine r_dup C dX4_houseNow_97 rfl ?_
                  refine r_iconst (v := (nI 2)) C dX4_houseNow_98 (by decide) ?_
                  refine r_iload_n C dX4_houseNow_99 rfl ?_
                  refine x_ast C (i := 2) (f := upd (upd (fun _ => 0) 0 (nI (smF (hf 4) 4 0 0))) 1 (nI (smF (hf 5) 4 4 0))) (E' := [(b_8, .inl (cy 1, 4, .inl (upd (upd (upd (fun _ => 0) 0 (nI (smF (hf 4) 4 0 0))) 1 (nI (smF (hf 5) 4 4 0))) 2 (nI (smF (hf 9) 3 0 0)))))]) 0 rfl (by first | omega | (simp [up2, *]; done) | (simp [up2, *]; omega) | (simp only [up2_eq]; omega) | (split <;> omega)) (by first | omega | (simp [up2, *]; done) | (simp [up2, *]; omega) | (simp only [up2_eq]; omega) | (split <;> omega)) rfl dX4_houseNow_100 ?_
                  refine r_dup C dX4_houseNow_101 rfl ?_
                  refine r_iconst (v := (nI 3)) C dX4_houseNow_102 (by decide) ?_
                  refine r_aload_n C dX4_houseNow_103 rfl ?_
                  refine m_get (v := .int kn) C 9 (by decide) qf_X4_202 rfl rfl dX4_houseNow_104 ?_
                  refine x_ast C (i := 3) (f := upd (upd (upd (fun _ => 0) 0 (nI (smF (hf 4) 4 0 0))) 1 (nI (smF (hf 5) 4 4 0))) 2 (nI (smF (hf 9) 3 0 0))) (E' := [(b_8, .inl (cy 1, 4, .inl (upd (upd (upd (upd (fun _ => 0) 0 (nI (smF (hf 4) 4 0 0))) 1 (nI (smF (hf 5) 4 4 0))) 2 (nI (smF (hf 9) 3 0 0))) 3 kn)))]) 0 rfl (by first | omega | (simp [up2, *]; done) | (simp [up2, *]; omega) | (simp only [up2_eq]; omega) | (split <;> omega)) (by first | omega | (simp [up2, *]; done) | (simp [up2, *]; omega) | (simp only [up2_eq]; omega) | (split <;> omega)) rfl dX4_houseNow_107 ?_
                  refine r_astore C dX4_houseNow_108 (by decide) rfl ?_
                  refine r_aload C dX4_houseNow_110 rfl ?_
                  refine r_iload_n C dX4_houseNow_112 rfl ?_
                  refine x_ald C (i := 2) (f := upd (upd (upd (upd (fun _ => 0) 0 (nI (smF (hf 4) 4 0 0))) 1 (nI (smF (hf 5) 4 4 0))) 2 (nI (smF (hf 9) 3 0 0))) 3 kn) 0 rfl (by first | omega | (simp [up2, *]; done) | (simp [up2, *]; omega) | (simp only [up2_eq]; omega) | (split <;> omega)) (by first | omega | (simp [up2, *]; done) | (simp [up2, *]; omega) | (simp only [up2_eq]; omega) | (split <;> omega)) dX4_houseNow_113 ?_
                  refine r_eqi (show (upd (upd (upd (upd (fun _ => 0) 0 (nI (smF (hf 4) 4 0 0))) 1 (nI (smF (hf 5) 4 4 0))) 2 (nI (smF (hf 9) 3 0 0))) 3 kn) 2 = (nI (smF (hf 9) 3 0 0)) from rfl) ?_
                  refine r_pre ?_
                  exact r_iret C hr dX4_houseNow_114 ⟨rfl, rfl⟩ (Nat.le_of_ble_eq_true rfl) (Nat.le_of_ble_eq_true rfl)
              · first
                | exfalso; first | omega | contradiction
                | skip
                  refine r_aload C dX4_houseNow_62 rfl ?_
                  refine r_iload C dX4_houseNow_64 rfl ?_
                  refine m_zld (i := k) (z := k) (v := hf 9 k) C 4 (by decide) (by decide) (show k < 3 from (by first | omega | (simp [up2, *]; done) | (simp [up2, *]; omega) | (simp only [up2_eq]; omega) | (split <;> omega))) (show 0 + k = k from (by omega)) rfl dX4_houseNow_66 ?_
                  refine r_istore C dX4_houseNow_67 (by decide) rfl ?_
                  refine r_iload_n C dX4_houseNow_69 rfl ?_
                  refine r_iload C dX4_houseNow_70 rfl ?_
                  refine d_S (st := [.int (nI z3)]) hX.1.stb C hE (D_one (ba := ba) (ra := ra) (hf := hf) (hq := hq) (kn := kn) (th := th) (sm := sm) (Y := Y) (b0 := (hf 9 k)) hX (h9a k (by omega))) pk_X4_one qm_X4_136 rfl rfl (Nat.le_of_ble_eq_true rfl) dX4_houseNow_72 ⟨(Nat.le_of_ble_eq_true rfl), (Nat.le_of_ble_eq_true rfl)⟩ ⟨(Nat.le_of_ble_eq_true rfl), (Nat.le_of_ble_eq_true rfl)⟩ ?_
                  refine r_w (w' := WM cy ba ra hf hq kn th sm ++ Y) rfl ?_
                  refine r_iaddN C dX4_houseNow_75 ?_
                  refine r_istore_n C dX4_houseNow_76 (by decide) rfl ?_
                  refine r_iincN C dX4_houseNow_77 rfl (by decide) rfl ?_
                  refine r_goto (tgt := 55) C dX4_houseNow_80 (by decide) ?_
                  refine r_drop 7 ?_
                  exact (Nat.not_lt_zero _ (by omega)).elim
            | succ d ih_L55 =>
              intro k z3 hk3 hz3 hF3
              refine r_iload C dX4_houseNow_55 rfl ?_
              refine r_iload C dX4_houseNow_57 rfl ?_
              refine r_icN_ge (a := k) (b := 3) (tgt := 83) C (by first | omega | (simp [up2, *]; done) | (simp [up2, *]; omega) | (simp only [up2_eq]; omega) | (split <;> omega)) (by first | omega | (simp [up2, *]; done) | (simp [up2, *]; omega) | (simp only [up2_eq]; omega) | (split <;> omega)) dX4_houseNow_59 (by decide) (fun h59_9 => ?_) (fun h59_9 => ?_)
              · first
                | exfalso; first | omega | contradiction
                | skip
                  have e9 : z3 = smF (hf 9) 3 0 0 := hF3
                  subst e9
                  refine r_iconst (v := (nI 4)) C dX4_houseNow_83 (by decide) ?_
                  refine r_newT C .int .int 1 rfl (by simp) qa_int (n := 4) (show 4 < 1000000 from Nat.lt_of_le_of_lt (show 4 ≤ 4 from (Nat.le_refl _)) (by decide)) (1) (4) (Nat.le_of_ble_eq_true rfl) (Nat.add_le_add (Nat.le_refl _) (show 4 ≤ 4 from (Nat.le_refl _))) (Nat.le_of_ble_eq_true rfl) (Nat.le_of_ble_eq_true rfl) dX4_houseNow_84 (fun b_10 => ?_)
                  refine r_w (w' := WM cy ba ra hf hq kn th sm ++ (Y ++ [(b_10, .inl (cy 1, 4, .inl (fun _ => 0)))])) (by simp only [List.append_assoc, List.cons_append, List.nil_append]) ?_
                  refine r_dup C dX4_houseNow_86 rfl ?_
                  refine r_iconst (v := (nI 0)) C dX4_houseNow_87 (by decide) ?_
                  refine r_iload_n C dX4_houseNow_88 rfl ?_
                  refine x_ast C (i := 0) (f := fun _ => 0) (E' := [(b_10, .inl (cy 1, 4, .inl (upd (fun _ => 0) 0 (nI (smF (hf 4) 4 0 0)))))]) 0 rfl (by first | omega | (simp [up2, *]; done) | (simp [up2, *]; omega) | (simp only [up2_eq]; omega) | (split <;> omega)) (by first | omega | (simp [up2, *]; done) | (simp [up2, *]; omega) | (simp only [up2_eq]; omega) | (split <;> omega)) rfl dX4_houseNow_89 ?_
                  refine r_dup C dX4_houseNow_90 rfl ?_
                  refine r_iconst (v := (nI 1)) C dX4_houseNow_91 (by decide) ?_
                  refine r_aload_n C dX4_houseNow_92 rfl ?_
                  refine d_V (st := [.int (nI 1), .ref b_10, .ref b_10]) hX.1.stb C hE (D_windows (ba := ba) (ra := ra) (hf := hf) (hq := hq) (kn := kn) (th := th) (sm := sm)  hX (fun w a b => by have h8 := h5M w a b; omega)) pk_X4_windows qm_X4_186 0 8 rfl rfl wm_0 rfl rfl (Nat.le_of_ble_eq_true rfl) dX4_houseNow_93 ⟨(Nat.le_of_ble_eq_true rfl), (Nat.le_of_ble_eq_true rfl)⟩ ⟨(Nat.le_of_ble_eq_true rfl), (Nat.le_of_ble_eq_true rfl)⟩ ?_
                  refine r_w (w' := WM cy ba ra hf hq kn th sm ++ (Y ++ [(b_10, .inl (cy 1, 4, .inl (upd (fun _ => 0) 0 (nI (smF (hf 4) 4 0 0)))))])) rfl ?_
                  refine x_ast C (i := 1) (f := upd (fun _ => 0) 0 (nI (smF (hf 4) 4 0 0))) (E' := [(b_10, .inl (cy 1, 4, .inl (upd (upd (fun _ => 0) 0 (nI (smF (hf 4) 4 0 0))) 1 (nI (smF (hf 5) 4 4 0)))))]) 0 rfl (by first | omega | (simp [up2, *]; done) | (simp [up2, *]; omega) | (simp only [up2_eq]; omega) | (split <;> omega)) (by first | omega | (simp [up2, *]; done) | (simp [up2, *]; omega) | (simp only [up2_eq]; omega) | (split <;> omega)) rfl dX4_houseNow_96 ?_
                  refine r_dup C dX4_houseNow_97 rfl ?_
                  refine r_iconst (v := (nI 2)) C dX4_houseNow_98 (by decide) ?_
                  refine r_iload_n C dX4_houseNow_99 rfl ?_
                  refine x_ast C (i := 2) (f := upd (upd (fun _ => 0) 0 (nI (smF (hf 4) 4 0 0))) 1 (nI (smF (hf 5) 4 4 0))) (E' := [(b_10, .inl (cy 1, 4, .inl (upd (upd (upd (fun _ => 0) 0 (nI (smF (hf 4) 4 0 0))) 1 (nI (smF (hf 5) 4 4 0))) 2 (nI (smF (hf 9) 3 0 0)))))]) 0 rfl (by first | omega | (simp [up2, *]; done) | (simp [up2, *]; omega) | (simp only [up2_eq]; omega) | (split <;> omega)) (by first | omega | (simp [up2, *]; done) | (simp [up2, *]; omega) | (simp only [up2_eq]; omega) | (split <;> omega)) rfl dX4_houseNow_100 ?_
                  refine r_dup C dX4_houseNow_101 rfl ?_
                  refine r_iconst (v := (nI 3)) C dX4_houseNow_102 (by decide) ?_
                  refine r_aload_n C dX4_houseNow_103 rfl ?_
                  refine m_get (v := .int kn) C 9 (by decide) qf_X4_202 rfl rfl dX4_houseNow_104 ?_
                  refine x_ast C (i := 3) (f := upd (upd (upd (fun _ => 0) 0 (nI (smF (hf 4) 4 0 0))) 1 (nI (smF (hf 5) 4 4 0))) 2 (nI (smF (hf 9) 3 0 0))) (E' := [(b_10, .inl (cy 1, 4, .inl (upd (upd (upd (upd (fun _ => 0) 0 (nI (smF (hf 4) 4 0 0))) 1 (nI (smF (hf 5) 4 4 0))) 2 (nI (smF (hf 9) 3 0 0))) 3 kn)))]) 0 rfl (by first | omega | (simp [up2, *]; done) | (simp [up2, *]; omega) | (simp only [up2_eq]; omega) | (split <;> omega)) (by first | omega | (simp [up2, *]; done) | (simp [up2, *]; omega) | (simp only [up2_eq]; omega) | (split <;> omega)) rfl dX4_houseNow_107 ?_
                  refine r_astore C dX4_houseNow_108 (by decide) rfl ?_
                  refine r_aload C dX4_houseNow_110 rfl ?_
                  refine r_iload_n C dX4_houseNow_112 rfl ?_
                  refine x_ald C (i := 2) (f := upd (upd (upd (upd (fun _ => 0) 0 (nI (smF (hf 4) 4 0 0))) 1 (nI (smF (hf 5) 4 4 0))) 2 (nI (smF (hf 9) 3 0 0))) 3 kn) 0 rfl (by first | omega | (simp [up2, *]; done) | (simp [up2, *]; omega) | (simp only [up2_eq]; omega) | (split <;> omega)) (by first | omega | (simp [up2, *]; done) | (simp [up2, *]; omega) | (simp only [up2_eq]; omega) | (split <;> omega)) dX4_houseNow_113 ?_
                  refine r_eqi (show (upd (upd (upd (upd (fun _ => 0) 0 (nI (smF (hf 4) 4 0 0))) 1 (nI (smF (hf 5) 4 4 0))) 2 (nI (smF (hf 9) 3 0 0))) 3 kn) 2 = (nI (smF (hf 9) 3 0 0)) from rfl) ?_
                  refine r_pre ?_
                  exact r_iret C hr dX4_houseNow_114 ⟨rfl, rfl⟩ (Nat.le_of_ble_eq_true rfl) (Nat.le_of_ble_eq_true rfl)
              · first
                | exfalso; first | omega | contradiction
                | skip
                  refine r_aload C dX4_houseNow_62 rfl ?_
                  refine r_iload C dX4_houseNow_64 rfl ?_
                  refine m_zld (i := k) (z := k) (v := hf 9 k) C 4 (by decide) (by decide) (show k < 3 from (by first | omega | (simp [up2, *]; done) | (simp [up2, *]; omega) | (simp only [up2_eq]; omega) | (split <;> omega))) (show 0 + k = k from (by omega)) rfl dX4_houseNow_66 ?_
                  refine r_istore C dX4_houseNow_67 (by decide) rfl ?_
                  refine r_iload_n C dX4_houseNow_69 rfl ?_
                  refine r_iload C dX4_houseNow_70 rfl ?_
                  refine d_S (st := [.int (nI z3)]) hX.1.stb C hE (D_one (ba := ba) (ra := ra) (hf := hf) (hq := hq) (kn := kn) (th := th) (sm := sm) (Y := Y) (b0 := (hf 9 k)) hX (h9a k (by omega))) pk_X4_one qm_X4_136 rfl rfl (Nat.le_of_ble_eq_true rfl) dX4_houseNow_72 ⟨(Nat.le_of_ble_eq_true rfl), (Nat.le_of_ble_eq_true rfl)⟩ ⟨(Nat.le_of_ble_eq_true rfl), (Nat.le_of_ble_eq_true rfl)⟩ ?_
                  refine r_w (w' := WM cy ba ra hf hq kn th sm ++ Y) rfl ?_
                  refine r_iaddN C dX4_houseNow_75 ?_
                  refine r_istore_n C dX4_houseNow_76 (by decide) rfl ?_
                  refine r_iincN C dX4_houseNow_77 rfl (by decide) rfl ?_
                  refine r_goto (tgt := 55) C dX4_houseNow_80 (by decide) ?_
                  refine r_drop 7 ?_
                  exact ih_L55 (k + 1) (z3 + (hf 9 k)) (by first | omega | (simp [up2, *]; done) | (simp [up2, *]; omega) | (simp only [up2_eq]; omega) | (split <;> omega)) (by have h8 := h9a k (by omega); omega) (by rw [← hF3]; rfl)
          exact L55 3 0 0 (by first | omega | (simp [up2, *]; done) | (simp [up2, *]; omega) | (simp only [up2_eq]; omega) | (split <;> omega)) (by omega) rfl
      · first
        | exfalso; first | omega | contradiction
        | skip
          refine r_aload_n C dX4_houseNow_21 rfl ?_
          refine r_iload C dX4_houseNow_22 rfl ?_
          refine m_rows (i := k) C (by first | omega | (simp [up2, *]; done) | (simp [up2, *]; omega) | (simp only [up2_eq]; omega) | (split <;> omega)) dX4_houseNow_24 ?_
          refine r_astore C dX4_houseNow_25 (by decide) rfl ?_
          refine r_iload_n C dX4_houseNow_27 rfl ?_
          refine r_aload C dX4_houseNow_28 rfl ?_
          refine m_rlen (i := k) (v := hf 4 k) C (by first | omega | (simp [up2, *]; done) | (simp [up2, *]; omega) | (simp only [up2_eq]; omega) | (split <;> omega)) rfl dX4_houseNow_30 ?_
          refine r_iaddN C dX4_houseNow_31 ?_
          refine r_istore_n C dX4_houseNow_32 (by decide) rfl ?_
          refine r_iincN C dX4_houseNow_33 rfl (by decide) rfl ?_
          refine r_goto (tgt := 14) C dX4_houseNow_36 (by decide) ?_
          refine r_drop 6 ?_
          exact ih_L14 (k + 1) (z + (hf 4 k)) (by first | omega | (simp [up2, *]; done) | (simp [up2, *]; omega) | (simp only [up2_eq]; omega) | (split <;> omega)) (by have h8 := (hM.2.1 k (by omega)).1; have h7 := hC.rw (i := k) (by omega); omega) (by rw [← hF]; rfl)
  exact L14 4 0 0 (by first | omega | (simp [up2, *]; done) | (simp [up2, *]; omega) | (simp only [up2_eq]; omega) | (split <;> omega)) (by omega) rfl
set_option maxRecDepth 100000 in
set_option maxHeartbeats 4000000 in
theorem D_houseNow_3 {l : Launch} {D : va_G} {cy : Nat → ClassId} {X : (Nat → Prop) → State → Heap → Prop} {ba ra : Nat → Nat} {hf : Nat → Nat → Nat} {hq : Nat → Nat → Int32} {kn th : Int32} {sm : Int64} {Y : va_W} {f : Nat → Nat → Nat} {r : Nat → Nat → Int32}  (hX : EnvM X cy) (hC : CInv f) (hM : MR f r hf hq) : Cd l D cy X yX4_houseNow cX4_houseNow 8 (some .int) (rmk 3 1 4 90) [.ref (ba 9), .int (nI 3)] (WM cy ba ra hf hq kn th sm ++ Y) (some (.int (hoM hf kn 3))) (WM cy ba ra hf hq kn th sm ++ Y) := by
  have hG := hM.1
  have h5M := hM.h5M hC
  have h4M := hC.h4M
  have h9a := hM.h9a hC
  have h6a := hM.h6a
  have hU := hM.hU hC
  refine Cm.of [some (.ref (ba 9)), some (.int (nI 3)), none, none, none, none, none, none] pn_X4 rfl (Nat.le_of_ble_eq_true rfl) ?_
  intro p e s m args below meth c A C hE hr hnt hn
  refine r_iconst (v := (nI 0)) C dX4_houseNow_0 (by decide) ?_
  refine r_istore_n C dX4_houseNow_1 (by decide) rfl ?_
  refine r_aload_n C dX4_houseNow_2 rfl ?_
  refine m_get (v := .ref (ba 0)) C 0 (by decide) qf_X4_15 rfl rfl dX4_houseNow_3 ?_
  refine r_astore_n C dX4_houseNow_6 (by decide) rfl ?_
  refine r_aload_n C dX4_houseNow_7 rfl ?_
  refine m_olen C dX4_houseNow_8 ?_
  refine r_istore C dX4_houseNow_9 (by decide) rfl ?_
  refine r_iconst (v := (nI 0)) C dX4_houseNow_11 (by decide) ?_
  refine r_istore C dX4_houseNow_12 (by decide) rfl ?_
  have L14 : ∀ (d : Nat) (k : Nat) (z : Nat), (hk : k + d = 4) → (hz : z ≤ 12 * k) → (hF : smF (hf 4) d k z = smF (hf 4) 4 0 0) → vC p l e (rmk 3 1 4 90) s m args below meth c D A (vx_MQ below (vG (fun v1 w1 => v1 = (some (.int (hoM hf kn 3))) ∧ w1 = WM cy ba ra hf hq kn th sm ++ Y) D vwCl A) (vGX (fun _ => False) D vwCl (WM cy ba ra hf hq kn th sm ++ Y) A) args s (rmk 3 1 4 90).cells (rmk 3 1 4 90).slots A) 8 0 0 (WM cy ba ra hf hq kn th sm ++ Y) [some (.ref (ba 9)), some (.int (nI 3)), some (.int (nI z)), some (.ref (ba 0)), some (.int (nI 4)), some (.int (nI k)), none, none] 14 [] := by
    intro d
    induction d with
    | zero =>
      intro k z hk hz hF
      refine r_iload C dX4_houseNow_14 rfl ?_
      refine r_iload C dX4_houseNow_16 rfl ?_
      refine r_icN_ge (a := k) (b := 4) (tgt := 39) C (by first | omega | (simp [up2, *]; done) | (simp [up2, *]; omega) | (simp only [up2_eq]; omega) | (split <;> omega)) (by first | omega | (simp [up2, *]; done) | (simp [up2, *]; omega) | (simp only [up2_eq]; omega) | (split <;> omega)) dX4_houseNow_18 (by decide) (fun h18_1 => ?_) (fun h18_1 => ?_)
      · first
        | exfalso; first | omega | contradiction
        | skip
          have e9 : z = smF (hf 4) 4 0 0 := hF
          subst e9
          refine r_iconst (v := (nI 0)) C dX4_houseNow_39 (by decide) ?_
          refine r_istore_n C dX4_houseNow_40 (by decide) rfl ?_
          refine r_aload_n C dX4_houseNow_41 rfl ?_
          refine m_get (v := .ref (ba 5)) C 5 (by decide) qf_X4_32 rfl rfl dX4_houseNow_42 ?_
          refine r_astore C dX4_houseNow_45 (by decide) rfl ?_
          refine r_aload C dX4_houseNow_47 rfl ?_
          refine m_alen C 4 (by decide) dX4_houseNow_49 ?_
          refine r_istore C dX4_houseNow_50 (by decide) rfl ?_
          refine r_iconst (v := (nI 0)) C dX4_houseNow_52 (by decide) ?_
          refine r_istore C dX4_houseNow_53 (by decide) rfl ?_
          have L55 : ∀ (d : Nat) (k : Nat) (z3 : Nat), (hk3 : k + d = 3) → (hz3 : z3 ≤ k) → (hF3 : smF (hf 9) d k z3 = smF (hf 9) 3 0 0) → vC p l e (rmk 3 1 4 90) s m args below meth c D A (vx_MQ below (vG (fun v1 w1 => v1 = (some (.int (hoM hf kn 3))) ∧ w1 = WM cy ba ra hf hq kn th sm ++ Y) D vwCl A) (vGX (fun _ => False) D vwCl (WM cy ba ra hf hq kn th sm ++ Y) A) args s (rmk 3 1 4 90).cells (rmk 3 1 4 90).slots A) 8 0 0 (WM cy ba ra hf hq kn th sm ++ Y) [some (.ref (ba 9)), some (.int (nI 3)), some (.int (nI (smF (hf 4) 4 0 0))), some (.int (nI z3)), some (.ref (ba 5)), some (.int (nI 3)), some (.int (nI k)), none] 55 [] := by
            intro d
            induction d with
            | zero =>
              intro k z3 hk3 hz3 hF3
              refine r_iload C dX4_houseNow_55 rfl ?_
              refine r_iload C dX4_houseNow_57 rfl ?_
              refine r_icN_ge (a := k) (b := 3) (tgt := 83) C (by first | omega | (simp [up2, *]; done) | (simp [up2, *]; omega) | (simp only [up2_eq]; omega) | (split <;> omega)) (by first | omega | (simp [up2, *]; done) | (simp [up2, *]; omega) | (simp only [up2_eq]; omega) | (split <;> omega)) dX4_houseNow_59 (by decide) (fun h59_2 => ?_) (fun h59_2 => ?_)
              · first
                | exfalso; first | omega | contradiction
                | skip
                  have e9 : z3 = smF (hf 9) 3 0 0 := hF3
                  subst e9
                  refine r_iconst (v := (nI 4)) C dX4_houseNow_83 (by decide) ?_
                  refine r_newT C .int .int 1 rfl (by simp) qa_int (n := 4) (show 4 < 1000000 from Nat.lt_of_le_of_lt (show 4 ≤ 4 from (Nat.le_refl _)) (by decide)) (1) (4) (Nat.le_of_ble_eq_true rfl) (Nat.add_le_add (Nat.le_refl _) (show 4 ≤ 4 from (Nat.le_refl _))) (Nat.le_of_ble_eq_true rfl) (Nat.le_of_ble_eq_true rfl) dX4_houseNow_84 (fun b_3 => ?_)
                  refine r_w (w' := WM cy ba ra hf hq kn th sm ++ (Y ++ [(b_3, .inl (cy 1, 4, .inl (fun _ => 0)))])) (by simp only [List.append_assoc, List.cons_append, List.nil_append]) ?_
                  refine r_dup C dX4_houseNow_86 rfl ?_
                  refine r_iconst (v := (nI 0)) C dX4_houseNow_87 (by decide) ?_
                  refine r_iload_n C dX4_houseNow_88 rfl ?_
                  refine x_ast C (i := 0) (f := fun _ => 0) (E' := [(b_3, .inl (cy 1, 4, .inl (upd (fun _ => 0) 0 (nI (smF (hf 4) 4 0 0)))))]) 0 rfl (by first | omega | (simp [up2, *]; done) | (simp [up2, *]; omega) | (simp only [up2_eq]; omega) | (split <;> omega)) (by first | omega | (simp [up2, *]; done) | (simp [up2, *]; omega) | (simp only [up2_eq]; omega) | (split <;> omega)) rfl dX4_houseNow_89 ?_
                  refine r_dup C dX4_houseNow_90 rfl ?_
                  refine r_iconst (v := (nI 1)) C dX4_houseNow_91 (by decide) ?_
                  refine r_aload_n C dX4_houseNow_92 rfl ?_
                  refine d_V (st := [.int (nI 1), .ref b_3, .ref b_3]) hX.1.stb C hE (D_windows (ba := ba) (ra := ra) (hf := hf) (hq := hq) (kn := kn) (th := th) (sm := sm)  hX (fun w a b => by have h8 := h5M w a b; omega)) pk_X4_windows qm_X4_186 0 8 rfl rfl wm_0 rfl rfl (Nat.le_of_ble_eq_true rfl) dX4_houseNow_93 ⟨(Nat.le_of_ble_eq_true rfl), (Nat.le_of_ble_eq_true rfl)⟩ ⟨(Nat.le_of_ble_eq_true rfl), (Nat.le_of_ble_eq_true rfl)⟩ ?_
                  refine r_w (w' := WM cy ba ra hf hq kn th sm ++ (Y ++ [(b_3, .inl (cy 1, 4, .inl (upd (fun _ => 0) 0 (nI (smF (hf 4) 4 0 0)))))])) rfl ?_
                  refine x_ast C (i := 1) (f := upd (fun _ => 0) 0 (nI (smF (hf 4) 4 0 0))) (E' := [(b_3, .inl (cy 1, 4, .inl (upd (upd (fun _ => 0) 0 (nI (smF (hf 4) 4 0 0))) 1 (nI (smF (hf 5) 4 4 0)))))]) 0 rfl (by first | omega | (simp [up2, *]; done) | (simp [up2, *]; omega) | (simp only [up2_eq]; omega) | (split <;> omega)) (by first | omega | (simp [up2, *]; done) | (simp [up2, *]; omega) | (simp only [up2_eq]; omega) | (split <;> omega)) rfl dX4_houseNow_96 ?_
                  refine r_dup C dX4_houseNow_97 rfl ?_
                  refine r_iconst (v := (nI 2)) C dX4_houseNow_98 (by decide) ?_
                  refine r_iload_n C dX4_houseNow_99 rfl ?_
                  refine x_ast C (i := 2) (f := upd (upd (fun _ => 0) 0 (nI (smF (hf 4) 4 0 0))) 1 (nI (smF (hf 5) 4 4 0))) (E' := [(b_3, .inl (cy 1, 4, .inl (upd (upd (upd (fun _ => 0) 0 (nI (smF (hf 4) 4 0 0))) 1 (nI (smF (hf 5) 4 4 0))) 2 (nI (smF (hf 9) 3 0 0)))))]) 0 rfl (by first | omega | (simp [up2, *]; done) | (simp [up2, *]; omega) | (simp only [up2_eq]; omega) | (split <;> omega)) (by first | omega | (simp [up2, *]; done) | (simp [up2, *]; omega) | (simp only [up2_eq]; omega) | (split <;> omega)) rfl dX4_houseNow_100 ?_
                  refine r_dup C dX4_houseNow_101 rfl ?_
                  refine r_iconst (v := (nI 3)) C dX4_houseNow_102 (by decide) ?_
                  refine r_aload_n C dX4_houseNow_103 rfl ?_
                  refine m_get (v := .int kn) C 9 (by decide) qf_X4_202 rfl rfl dX4_houseNow_104 ?_
                  refine x_ast C (i := 3) (f := upd (upd (upd (fun _ => 0) 0 (nI (smF (hf 4) 4 0 0))) 1 (nI (smF (hf 5) 4 4 0))) 2 (nI (smF (hf 9) 3 0 0))) (E' := [(b_3, .inl (cy 1, 4, .inl (upd (upd (upd (upd (fun _ => 0) 0 (nI (smF (hf 4) 4 0 0))) 1 (nI (smF (hf 5) 4 4 0))) 2 (nI (smF (hf 9) 3 0 0))) 3 kn)))]) 0 rfl (by first | omega | (simp [up2, *]; done) | (simp [up2, *]; omega) | (simp only [up2_eq]; omega) | (split <;> omega)) (by first | omega | (simp [up2, *]; done) | (simp [up2, *]; omega) | (simp only [up2_eq]; omega) | (split <;> omega)) rfl dX4_houseNow_107 ?_
                  refine r_astore C dX4_houseNow_108 (by decide) rfl ?_
                  refine r_aload C dX4_houseNow_110 rfl ?_
                  refine r_iload_n C dX4_houseNow_112 rfl ?_
                  refine x_ald C (i := 3) (f := upd (upd (upd (upd (fun _ => 0) 0 (nI (smF (hf 4) 4 0 0))) 1 (nI (smF (hf 5) 4 4 0))) 2 (nI (smF (hf 9) 3 0 0))) 3 kn) 0 rfl (by first | omega | (simp [up2, *]; done) | (simp [up2, *]; omega) | (simp only [up2_eq]; omega) | (split <;> omega)) (by first | omega | (simp [up2, *]; done) | (simp [up2, *]; omega) | (simp only [up2_eq]; omega) | (split <;> omega)) dX4_houseNow_113 ?_
                  refine r_eqi (show (upd (upd (upd (upd (fun _ => 0) 0 (nI (smF (hf 4) 4 0 0))) 1 (nI (smF (hf 5) 4 4 0))) 2 (nI (smF (hf 9) 3 0 0))) 3 kn) 3 = kn from rfl) ?_
                  refine r_pre ?_
                  exact r_iret C hr dX4_houseNow_114 ⟨rfl, rfl⟩ (Nat.le_of_ble_eq_true rfl) (Nat.le_of_ble_eq_true rfl)
              · first
                | exfalso; first | omega | contradiction
                | skip
                  refine r_aload C dX4_houseNow_62 rfl ?_
                  refine r_iload C dX4_houseNow_64 rfl ?_
                  refine m_zld (i := k) (z := k) (v := hf 9 k) C 4 (by decide) (by decide) (show k < 3 from (by first | omega | (simp [up2, *]; done) | (simp [up2, *]; omega) | (simp only [up2_eq]; omega) | (split <;> omega))) (show 0 + k = k from (by omega)) rfl dX4_houseNow_66 ?_
                  refine r_istore C dX4_houseNow_67 (by decide) rfl ?_
                  refine r_iload_n C dX4_houseNow_69 rfl ?_
                  refine r_iload C dX4_houseNow_70 rfl ?_
                  refine d_S (st := [.int (nI z3)]) hX.1.stb C hE (D_one (ba := ba) (ra := ra) (hf := hf) (hq := hq) (kn := kn) (th := th) (sm := sm) (Y := Y) (b0 := (hf 9 k)) hX (h9a k (by omega))) pk_X4_one qm_X4_136 rfl rfl (Nat.le_of_ble_eq_true rfl) dX4_houseNow_72 ⟨(Nat.le_of_ble_eq_true rfl), (Nat.le_of_ble_eq_true rfl)⟩ ⟨(Nat.le_of_ble_eq_true rfl), (Nat.le_of_ble_eq_true rfl)⟩ ?_
                  refine r_w (w' := WM cy ba ra hf hq kn th sm ++ Y) rfl ?_
                  refine r_iaddN C dX4_houseNow_75 ?_
                  refine r_istore_n C dX4_houseNow_76 (by decide) rfl ?_
                  refine r_iincN C dX4_houseNow_77 rfl (by decide) rfl ?_
                  refine r_goto (tgt := 55) C dX4_houseNow_80 (by decide) ?_
                  refine r_drop 7 ?_
                  exact (Nat.not_lt_zero _ (by omega)).elim
            | succ d ih_L55 =>
              intro k z3 hk3 hz3 hF3
              refine r_iload C dX4_houseNow_55 rfl ?_
              refine r_iload C dX4_houseNow_57 rfl ?_
              refine r_icN_ge (a := k) (b := 3) (tgt := 83) C (by first | omega | (simp [up2, *]; done) | (simp [up2, *]; omega) | (simp only [up2_eq]; omega) | (split <;> omega)) (by first | omega | (simp [up2, *]; done) | (simp [up2, *]; omega) | (simp only [up2_eq]; omega) | (split <;> omega)) dX4_houseNow_59 (by decide) (fun h59_4 => ?_) (fun h59_4 => ?_)
              · first
                | exfalso; first | omega | contradiction
                | skip
                  have e9 : z3 = smF (hf 9) 3 0 0 := hF3
                  subst e9
                  refine r_iconst (v := (nI 4)) C dX4_houseNow_83 (by decide) ?_
                  refine r_newT C .int .int 1 rfl (by simp) qa_int (n := 4) (show 4 < 1000000 from Nat.lt_of_le_of_lt (show 4 ≤ 4 from (Nat.le_refl _)) (by decide)) (1) (4) (Nat.le_of_ble_eq_true rfl) (Nat.add_le_add (Nat.le_refl _) (show 4 ≤ 4 from (Nat.le_refl _))) (Nat.le_of_ble_eq_true rfl) (Nat.le_of_ble_eq_true rfl) dX4_houseNow_84 (fun b_5 => ?_)
                  refine r_w (w' := WM cy ba ra hf hq kn th sm ++ (Y ++ [(b_5, .inl (cy 1, 4, .inl (fun _ => 0)))])) (by simp only [List.append_assoc, List.cons_append, List.nil_append]) ?_
                  refine r_dup C dX4_houseNow_86 rfl ?_
                  refine r_iconst (v := (nI 0)) C dX4_houseNow_87 (by decide) ?_
                  refine r_iload_n C dX4_houseNow_88 rfl ?_
                  refine x_ast C (i := 0) (f := fun _ => 0) (E' := [(b_5, .inl (cy 1, 4, .inl (upd (fun _ => 0) 0 (nI (smF (hf 4) 4 0 0)))))]) 0 rfl (by first | omega | (simp [up2, *]; done) | (simp [up2, *]; omega) | (simp only [up2_eq]; omega) | (split <;> omega)) (by first | omega | (simp [up2, *]; done) | (simp [up2, *]; omega) | (simp only [up2_eq]; omega) | (split <;> omega)) rfl dX4_houseNow_89 ?_
                  refine r_dup C dX4_houseNow_90 rfl ?_
                  refine r_iconst (v := (nI 1)) C dX4_houseNow_91 (by decide) ?_
                  refine r_aload_n C dX4_houseNow_92 rfl ?_
                  refine d_V (st := [.int (nI 1), .ref b_5, .ref b_5]) hX.1.stb C hE (D_windows (ba := ba) (ra := ra) (hf := hf) (hq := hq) (kn := kn) (th := th) (sm := sm)  hX (fun w a b => by have h8 := h5M w a b; omega)) pk_X4_windows qm_X4_186 0 8 rfl rfl wm_0 rfl rfl (Nat.le_of_ble_eq_true rfl) dX4_houseNow_93 ⟨(Nat.le_of_ble_eq_true rfl), (Nat.le_of_ble_eq_true rfl)⟩ ⟨(Nat.le_of_ble_eq_true rfl), (Nat.le_of_ble_eq_true rfl)⟩ ?_
                  refine r_w (w' := WM cy ba ra hf hq kn th sm ++ (Y ++ [(b_5, .inl (cy 1, 4, .inl (upd (fun _ => 0) 0 (nI (smF (hf 4) 4 0 0)))))])) rfl ?_
                  refine x_ast C (i := 1) (f := upd (fun _ => 0) 0 (nI (smF (hf 4) 4 0 0))) (E' := [(b_5, .inl (cy 1, 4, .inl (upd (upd (fun _ => 0) 0 (nI (smF (hf 4) 4 0 0))) 1 (nI (smF (hf 5) 4 4 0)))))]) 0 rfl (by first | omega | (simp [up2, *]; done) | (simp [up2, *]; omega) | (simp only [up2_eq]; omega) | (split <;> omega)) (by first | omega | (simp [up2, *]; done) | (simp [up2, *]; omega) | (simp only [up2_eq]; omega) | (split <;> omega)) rfl dX4_houseNow_96 ?_
                  refine r_dup C dX4_houseNow_97 rfl ?_
                  refine r_iconst (v := (nI 2)) C dX4_houseNow_98 (by decide) ?_
                  refine r_iload_n C dX4_houseNow_99 rfl ?_
                  refine x_ast C (i := 2) (f := upd (upd (fun _ => 0) 0 (nI (smF (hf 4) 4 0 0))) 1 (nI (smF (hf 5) 4 4 0))) (E' := [(b_5, .inl (cy 1, 4, .inl (upd (upd (upd (fun _ => 0) 0 (nI (smF (hf 4) 4 0 0))) 1 (nI (smF (hf 5) 4 4 0))) 2 (nI (smF (hf 9) 3 0 0)))))]) 0 rfl (by first | omega | (simp [up2, *]; done) | (simp [up2, *]; omega) | (simp only [up2_eq]; omega) | (split <;> omega)) (by first | omega | (simp [up2, *]; done) | (simp [up2, *]; omega) | (simp only [up2_eq]; omega) | (split <;> omega)) rfl dX4_houseNow_100 ?_
                  refine r_dup C dX4_houseNow_101 rfl ?_
                  refine r_iconst (v := (nI 3)) C dX4_houseNow_102 (by decide) ?_
                  refine r_aload_n C dX4_houseNow_103 rfl ?_
                  refine m_get (v := .int kn) C 9 (by decide) qf_X4_202 rfl rfl dX4_houseNow_104 ?_
                  refine x_ast C (i := 3) (f := upd (upd (upd (fun _ => 0) 0 (nI (smF (hf 4) 4 0 0))) 1 (nI (smF (hf 5) 4 4 0))) 2 (nI (smF (hf 9) 3 0 0))) (E' := [(b_5, .inl (cy 1, 4, .inl (upd (upd (upd (upd (fun _ => 0) 0 (nI (smF (hf 4) 4 0 0))) 1 (nI (smF (hf 5) 4 4 0))) 2 (nI (smF (hf 9) 3 0 0))) 3 kn)))]) 0 rfl (by first | omega | (simp [up2, *]; done) | (simp [up2, *]; omega) | (simp only [up2_eq]; omega) | (split <;> omega)) (by first | omega | (simp [up2, *]; done) | (simp [up2, *]; omega) | (simp only [up2_eq]; omega) | (split <;> omega)) rfl dX4_houseNow_107 ?_
                  refine r_astore C dX4_houseNow_108 (by decide) rfl ?_
                  refine r_aload C dX4_houseNow_110 rfl ?_
                  refine r_iload_n C dX4_houseNow_112 rfl ?_
                  refine x_ald C (i := 3) (f := upd (upd (upd (upd (fun _ => 0) 0 (nI (smF (hf 4) 4 0 0))) 1 (nI (smF (hf 5) 4 4 0))) 2 (nI (smF (hf 9) 3 0 0))) 3 kn) 0 rfl (by first | omega | (simp [up2, *]; done) | (simp [up2, *]; omega) | (simp only [up2_eq]; omega) | (split <;> omega)) (by first | omega | (simp [up2, *]; done) | (simp [up2, *]; omega) | (simp only [up2_eq]; omega) | (split <;> omega)) dX4_houseNow_113 ?_
                  refine r_eqi (show (upd (upd (upd (upd (fun _ => 0) 0 (nI (smF (hf 4) 4 0 0))) 1 (nI (smF (hf 5) 4 4 0))) 2 (nI (smF (hf 9) 3 0 0))) 3 kn) 3 = kn from rfl) ?_
                  refine r_pre ?_
                  exact r_iret C hr dX4_houseNow_114 ⟨rfl, rfl⟩ (Nat.le_of_ble_eq_true rfl) (Nat.le_of_ble_eq_true rfl)
              · first
                | exfalso; first | omega | contradiction
                | skip
                  refine r_aload C dX4_houseNow_62 rfl ?_
                  refine r_iload C dX4_houseNow_64 rfl ?_
                  refine m_zld (i := k) (z := k) (v := hf 9 k) C 4 (by decide) (by decide) (show k < 3 from (by first | omega | (simp [up2, *]; done) | (simp [up2, *]; omega) | (simp only [up2_eq]; omega) | (split <;> omega))) (show 0 + k = k from (by omega)) rfl dX4_houseNow_66 ?_
                  refine r_istore C dX4_houseNow_67 (by decide) rfl ?_
                  refine r_iload_n C dX4_houseNow_69 rfl ?_
                  refine r_iload C dX4_houseNow_70 rfl ?_
                  refine d_S (st := [.int (nI z3)]) hX.1.stb C hE (D_one (ba := ba) (ra := ra) (hf := hf) (hq := hq) (kn := kn) (th := th) (sm := sm) (Y := Y) (b0 := (hf 9 k)) hX (h9a k (by omega))) pk_X4_one qm_X4_136 rfl rfl (Nat.le_of_ble_eq_true rfl) dX4_houseNow_72 ⟨(Nat.le_of_ble_eq_true rfl), (Nat.le_of_ble_eq_true rfl)⟩ ⟨(Nat.le_of_ble_eq_true rfl), (Nat.le_of_ble_eq_true rfl)⟩ ?_
                  refine r_w (w' := WM cy ba ra hf hq kn th sm ++ Y) rfl ?_
                  refine r_iaddN C dX4_houseNow_75 ?_
                  refine r_istore_n C dX4_houseNow_76 (by decide) rfl ?_
                  refine r_iincN C dX4_houseNow_77 rfl (by decide) rfl ?_
                  refine r_goto (tgt := 55) C dX4_houseNow_80 (by decide) ?_
                  refine r_drop 7 ?_
                  exact ih_L55 (k + 1) (z3 + (hf 9 k)) (by first | omega | (simp [up2, *]; done) | (simp [up2, *]; omega) | (simp only [up2_eq]; omega) | (split <;> omega)) (by have h8 := h9a k (by omega); omega) (by rw [← hF3]; rfl)
          exact L55 3 0 0 (by first | omega | (simp [up2, *]; done) | (simp [up2, *]; omega) | (simp only [up2_eq]; omega) | (split <;> omega)) (by omega) rfl
      · first
        | exfalso; first | omega | contradiction
        | skip
          refine r_aload_n C dX4_houseNow_21 rfl ?_
          refine r_iload C dX4_houseNow_22 rfl ?_
          refine m_rows (i := k) C (by first | omega | (simp [up2, *]; done) | (simp [up2, *]; omega) | (simp only [up2_eq]; omega) | (split <;> omega)) dX4_houseNow_24 ?_
          refine r_astore C dX4_houseNow_25 (by decide) rfl ?_
          refine r_iload_n C dX4_houseNow_27 rfl ?_
          refine r_aload C dX4_houseNow_28 rfl ?_
          refine m_rlen (i := k) (v := hf 4 k) C (by first | omega | (simp [up2, *]; done) | (simp [up2, *]; omega) | (simp only [up2_eq]; omega) | (split <;> omega)) rfl dX4_houseNow_30 ?_
          refine r_iaddN C dX4_houseNow_31 ?_
          refine r_istore_n C dX4_houseNow_32 (by decide) rfl ?_
          refine r_iincN C dX4_houseNow_33 rfl (by decide) rfl ?_
          refine r_goto (tgt := 14) C dX4_houseNow_36 (by decide) ?_
          refine r_drop 6 ?_
          exact (Nat.not_lt_zero _ (by omega)).elim
    | succ d ih_L14 =>
      intro k z hk hz hF
      refine r_iload C dX4_houseNow_14 rfl ?_
      refine r_iload C dX4_houseNow_16 rfl ?_
      refine r_icN_ge (a := k) (b := 4) (tgt := 39) C (by first | omega | (simp [up2, *]; done) | (simp [up2, *]; omega) | (simp only [up2_eq]; omega) | (split <;> omega)) (by first | omega | (simp [up2, *]; done) | (simp [up2, *]; omega) | (simp only [up2_eq]; omega) | (split <;> omega)) dX4_houseNow_18 (by decide) (fun h18_6 => ?_) (fun h18_6 => ?_)
      · first
        | exfalso; first | omega | contradiction
        | skip
          have e9 : z = smF (hf 4) 4 0 0 := hF
          subst e9
          refine r_iconst (v := (nI 0)) C dX4_houseNow_39 (by decide) ?_
          refine r_istore_n C dX4_houseNow_40 (by decide) rfl ?_
          refine r_aload_n C dX4_houseNow_41 rfl ?_
          refine m_get (v := .ref (ba 5)) C 5 (by decide) qf_X4_32 rfl rfl dX4_houseNow_42 ?_
          refine r_astore C dX4_houseNow_45 (by decide) rfl ?_
          refine r_aload C dX4_houseNow_47 rfl ?_
          refine m_alen C 4 (by decide) dX4_houseNow_49 ?_
          refine r_istore C dX4_houseNow_50 (by decide) rfl ?_
          refine r_iconst (v := (nI 0)) C dX4_houseNow_52 (by decide) ?_
          refine r_istore C dX4_houseNow_53 (by decide) rfl ?_
          have L55 : ∀ (d : Nat) (k : Nat) (z3 : Nat), (hk3 : k + d = 3) → (hz3 : z3 ≤ k) → (hF3 : smF (hf 9) d k z3 = smF (hf 9) 3 0 0) → vC p l e (rmk 3 1 4 90) s m args below meth c D A (vx_MQ below (vG (fun v1 w1 => v1 = (some (.int (hoM hf kn 3))) ∧ w1 = WM cy ba ra hf hq kn th sm ++ Y) D vwCl A) (vGX (fun _ => False) D vwCl (WM cy ba ra hf hq kn th sm ++ Y) A) args s (rmk 3 1 4 90).cells (rmk 3 1 4 90).slots A) 8 0 0 (WM cy ba ra hf hq kn th sm ++ Y) [some (.ref (ba 9)), some (.int (nI 3)), some (.int (nI (smF (hf 4) 4 0 0))), some (.int (nI z3)), some (.ref (ba 5)), some (.int (nI 3)), some (.int (nI k)), none] 55 [] := by
            intro d
            induction d with
            | zero =>
              intro k z3 hk3 hz3 hF3
              refine r_iload C dX4_houseNow_55 rfl ?_
              refine r_iload C dX4_houseNow_57 rfl ?_
              refine r_icN_ge (a := k) (b := 3) (tgt := 83) C (by first | omega | (simp [up2, *]; done) | (simp [up2, *]; omega) | (simp only [up2_eq]; omega) | (split <;> omega)) (by first | omega | (simp [up2, *]; done) | (simp [up2, *]; omega) | (simp only [up2_eq]; omega) | (split <;> omega)) dX4_houseNow_59 (by decide) (fun h59_7 => ?_) (fun h59_7 => ?_)
              · first
                | exfalso; first | omega | contradiction
                | skip
                  have e9 : z3 = smF (hf 9) 3 0 0 := hF3
                  subst e9
                  refine r_iconst (v := (nI 4)) C dX4_houseNow_83 (by decide) ?_
                  refine r_newT C .int .int 1 rfl (by simp) qa_int (n := 4) (show 4 < 1000000 from Nat.lt_of_le_of_lt (show 4 ≤ 4 from (Nat.le_refl _)) (by decide)) (1) (4) (Nat.le_of_ble_eq_true rfl) (Nat.add_le_add (Nat.le_refl _) (show 4 ≤ 4 from (Nat.le_refl _))) (Nat.le_of_ble_eq_true rfl) (Nat.le_of_ble_eq_true rfl) dX4_houseNow_84 (fun b_8 => ?_)
                  refine r_w (w' := WM cy ba ra hf hq kn th sm ++ (Y ++ [(b_8, .inl (cy 1, 4, .inl (fun _ => 0)))])) (by simp only [List.append_assoc, List.cons_append, List.nil_append]) ?_
                  refine r_dup C dX4_houseNow_86 rfl ?_
                  refine r_iconst (v := (nI 0)) C dX4_houseNow_87 (by decide) ?_
                  refine r_iload_n C dX4_houseNow_88 rfl ?_
                  refine x_ast C (i := 0) (f := fun _ => 0) (E' := [(b_8, .inl (cy 1, 4, .inl (upd (fun _ => 0) 0 (nI (smF (hf 4) 4 0 0)))))]) 0 rfl (by first | omega | (simp [up2, *]; done) | (simp [up2, *]; omega) | (simp only [up2_eq]; omega) | (split <;> omega)) (by first | omega | (simp [up2, *]; done) | (simp [up2, *]; omega) | (simp only [up2_eq]; omega) | (split <;> omega)) rfl dX4_houseNow_89 ?_
                  refine r_dup C dX4_houseNow_90 rfl ?_
                  refine r_iconst (v := (nI 1)) C dX4_houseNow_91 (by decide) ?_
                  refine r_aload_n C dX4_houseNow_92 rfl ?_
                  refine d_V (st := [.int (nI 1), .ref b_8, .ref b_8]) hX.1.stb C hE (D_windows (ba := ba) (ra := ra) (hf := hf) (hq := hq) (kn := kn) (th := th) (sm := sm)  hX (fun w a b => by have h8 := h5M w a b; omega)) pk_X4_windows qm_X4_186 0 8 rfl rfl wm_0 rfl rfl (Nat.le_of_ble_eq_true rfl) dX4_houseNow_93 ⟨(Nat.le_of_ble_eq_true rfl), (Nat.le_of_ble_eq_true rfl)⟩ ⟨(Nat.le_of_ble_eq_true rfl), (Nat.le_of_ble_eq_true rfl)⟩ ?_
                  refine r_w (w' := WM cy ba ra hf hq kn th sm ++ (Y ++ [(b_8, .inl (cy 1, 4, .inl (upd (fun _ => 0) 0 (nI (smF (hf 4) 4 0 0)))))])) rfl ?_
                  refine x_ast C (i := 1) (f := upd (fun _ => 0) 0 (nI (smF (hf 4) 4 0 0))) (E' := [(b_8, .inl (cy 1, 4, .inl (upd (upd (fun _ => 0) 0 (nI (smF (hf 4) 4 0 0))) 1 (nI (smF (hf 5) 4 4 0)))))]) 0 rfl (by first | omega | (simp [up2, *]; done) | (simp [up2, *]; omega) | (simp only [up2_eq]; omega) | (split <;> omega)) (by first | omega | (simp [up2, *]; done) | (simp [up2, *]; omega) | (simp only [up2_eq]; omega) | (split <;> omega)) rfl dX4_houseNow_96 ?_
                  refine r_dup C dX4_houseNow_97 rfl ?_
                  refine r_iconst (v := (nI 2)) C dX4_houseNow_98 (by decide) ?_
                  refine r_iload_n C dX4_houseNow_99 rfl ?_
                  refine x_ast C (i := 2) (f := upd (upd (fun _ => 0) 0 (nI (smF (hf 4) 4 0 0))) 1 (nI (smF (hf 5) 4 4 0))) (E' := [(b_8, .inl (cy 1, 4, .inl (upd (upd (upd (fun _ => 0) 0 (nI (smF (hf 4) 4 0 0))) 1 (nI (smF (hf 5) 4 4 0))) 2 (nI (smF (hf 9) 3 0 0)))))]) 0 rfl (by first | omega | (simp [up2, *]; done) | (simp [up2, *]; omega) | (simp only [up2_eq]; omega) | (split <;> omega)) (by first | omega | (simp [up2, *]; done) | (simp [up2, *]; omega) | (simp only [up2_eq]; omega) | (split <;> omega)) rfl dX4_houseNow_100 ?_
                  refine r_dup C dX4_houseNow_101 rfl ?_
                  refine r_iconst (v := (nI 3)) C dX4_houseNow_102 (by decide) ?_
                  refine r_aload_n C dX4_houseNow_103 rfl ?_
                  refine m_get (v := .int kn) C 9 (by decide) qf_X4_202 rfl rfl dX4_houseNow_104 ?_
                  refine x_ast C (i := 3) (f := upd (upd (upd (fun _ => 0) 0 (nI (smF (hf 4) 4 0 0))) 1 (nI (smF (hf 5) 4 4 0))) 2 (nI (smF (hf 9) 3 0 0))) (E' := [(b_8, .inl (cy 1, 4, .inl (upd (upd (upd (upd (fun _ => 0) 0 (nI (smF (hf 4) 4 0 0))) 1 (nI (smF (hf 5) 4 4 0))) 2 (nI (smF (hf 9) 3 0 0))) 3 kn)))]) 0 rfl (by first | omega | (simp [up2, *]; done) | (simp [up2, *]; omega) | (simp only [up2_eq]; omega) | (split <;> omega)) (by first | omega | (simp [up2, *]; done) | (simp [up2, *]; omega) | (simp only [up2_eq]; omega) | (split <;> omega)) rfl dX4_houseNow_107 ?_
                  refine r_astore C dX4_houseNow_108 (by decide) rfl ?_
                  refine r_aload C dX4_houseNow_110 rfl ?_
                  refine r_iload_n C dX4_houseNow_112 rfl ?_
                  refine x_ald C (i := 3) (f := upd (upd (upd (upd (fun _ => 0) 0 (nI (smF (hf 4) 4 0 0))) 1 (nI (smF (hf 5) 4 4 0))) 2 (nI (smF (hf 9) 3 0 0))) 3 kn) 0 rfl (by first | omega | (simp [up2, *]; done) | (simp [up2, *]; omega) | (simp only [up2_eq]; omega) | (split <;> omega)) (by first | omega | (simp [up2, *]; done) | (simp [up2, *]; omega) | (simp only [up2_eq]; omega) | (split <;> omega)) dX4_houseNow_113 ?_
                  refine r_eqi (show (upd (upd (upd (upd (fun _ => 0) 0 (nI (smF (hf 4) 4 0 0))) 1 (nI (smF (hf 5) 4 4 0))) 2 (nI (smF (hf 9) 3 0 0))) 3 kn) 3 = kn from rfl) ?_
                  refine r_pre ?_
                  exact r_iret C hr dX4_houseNow_114 ⟨rfl, rfl⟩ (Nat.le_of_ble_eq_true rfl) (Nat.le_of_ble_eq_true rfl)
              · first
                | exfalso; first | omega | contradiction
                | skip
                  refine r_aload C dX4_houseNow_62 rfl ?_
                  refine r_iload C dX4_houseNow_64 rfl ?_
                  refine m_zld (i := k) (z := k) (v := hf 9 k) C 4 (by decide) (by decide) (show k < 3 from (by first | omega | (simp [up2, *]; done) | (simp [up2, *]; omega) | (simp only [up2_eq]; omega) | (split <;> omega))) (show 0 + k = k from (by omega)) rfl dX4_houseNow_66 ?_
                  refine r_istore C dX4_houseNow_67 (by decide) rfl ?_
                  refine r_iload_n C dX4_houseNow_69 rfl ?_
                  refine r_iload C dX4_houseNow_70 rfl ?_
                  refine d_S (st := [.int (nI z3)]) hX.1.stb C hE (D_one (ba := ba) (ra := ra) (hf := hf) (hq := hq) (kn := kn) (th := th) (sm := sm) (Y := Y) (b0 := (hf 9 k)) hX (h9a k (by omega))) pk_X4_one qm_X4_136 rfl rfl (Nat.le_of_ble_eq_true rfl) dX4_houseNow_72 ⟨(Nat.le_of_ble_eq_true rfl), (Nat.le_of_ble_eq_true rfl)⟩ ⟨(Nat.le_of_ble_eq_true rfl), (Nat.le_of_ble_eq_true rfl)⟩ ?_
                  refine r_w (w' := WM cy ba ra hf hq kn th sm ++ Y) rfl ?_
                  refine r_iaddN C dX4_houseNow_75 ?_
                  refine r_istore_n C dX4_houseNow_76 (by decide) rfl ?_
                  refine r_iincN C dX4_houseNow_77 rfl (by decide) rfl ?_
                  refine r_goto (tgt := 55) C dX4_houseNow_80 (by decide) ?_
                  refine r_drop 7 ?_
                  exact (Nat.not_lt_zero _ (by omega)).elim
            | succ d ih_L55 =>
              intro k z3 hk3 hz3 hF3
              refine r_iload C dX4_houseNow_55 rfl ?_
              refine r_iload C dX4_houseNow_57 rfl ?_
              refine r_icN_ge (a := k) (b := 3) (tgt := 83) C (by first | omega | (simp [up2, *]; done) | (simp [up2, *]; omega) | (simp only [up2_eq]; omega) | (split <;> omega)) (by first | omega | (simp [up2, *]; done) | (simp [up2, *]; omega) | (simp only [up2_eq]; omega) | (split <;> omega)) dX4_houseNow_59 (by decide) (fun h59_9 => ?_) (fun h59_9 => ?_)
              · first
                | exfalso; first | omega | contradiction
                | skip
                  have e9 : z3 = smF (hf 9) 3 0 0 := hF3
                  subst e9
                  refine r_iconst (v := (nI 4)) C dX4_houseNow_83 (by decide) ?_
                  refine r_newT C .int .int 1 rfl (by simp) qa_int (n := 4) (show 4 < 1000000 from Nat.lt_of_le_of_lt (show 4 ≤ 4 from (Nat.le_refl _)) (by decide)) (1) (4) (Nat.le_of_ble_eq_true rfl) (Nat.add_le_add (Nat.le_refl _) (show 4 ≤ 4 from (Nat.le_refl _))) (Nat.le_of_ble_eq_true rfl) (Nat.le_of_ble_eq_true rfl) dX4_houseNow_84 (fun b_10 => ?_)
                  refine r_w (w' := WM cy ba ra hf hq kn th sm ++ (Y ++ [(b_10, .inl (cy 1, 4, .inl (fun _ => 0)))])) (by simp only [List.append_assoc, List.cons_append, List.nil_append]) ?_
                  refine r_dup C dX4_houseNow_86 rfl ?_
                  refine r_iconst (v := (nI 0)) C dX4_houseNow_87 (by decide) ?_
                  refine r_iload_n C dX4_houseNow_88 rfl ?_
                  refine x_ast C (i := 0) (f := fun _ => 0) (E' := [(b_10, .inl (cy 1, 4, .inl (upd (fun _ => 0) 0 (nI (smF (hf 4) 4 0 0)))))]) 0 rfl (by first | omega | (simp [up2, *]; done) | (simp [up2, *]; omega) | (simp only [up2_eq]; omega) | (split <;> omega)) (by first | omega | (simp [up2, *]; done) | (simp [up2, *]; omega) | (simp only [up2_eq]; omega) | (split <;> omega)) rfl dX4_houseNow_89 ?_
                  refine r_dup C dX4_houseNow_90 rfl ?_
                  refine r_iconst (v := (nI 1)) C dX4_houseNow_91 (by decide) ?_
                  refine r_aload_n C dX4_houseNow_92 rfl ?_
                  refine d_V (st := [.int (nI 1), .ref b_10, .ref b_10]) hX.1.stb C hE (D_windows (ba := ba) (ra := ra) (hf := hf) (hq := hq) (kn := kn) (th := th) (sm := sm)  hX (fun w a b => by have h8 := h5M w a b; omega)) pk_X4_windows qm_X4_186 0 8 rfl rfl wm_0 rfl rfl (Nat.le_of_ble_eq_true rfl) dX4_houseNow_93 ⟨(Nat.le_of_ble_eq_true rfl), (Nat.le_of_ble_eq_true rfl)⟩ ⟨(Nat.le_of_ble_eq_true rfl), (Nat.le_of_ble_eq_true rfl)⟩ ?_
                  refine r_w (w' := WM cy ba ra hf hq kn th sm ++ (Y ++ [(b_10, .inl (cy 1, 4, .inl (upd (fun _ => 0) 0 (nI (smF (hf 4) 4 0 0)))))])) rfl ?_
                  refine x_ast C (i := 1) (f := upd (fun _ => 0) 0 (nI (smF (hf 4) 4 0 0))) (E' := [(b_10, .inl (cy 1, 4, .inl (upd (upd (fun _ => 0) 0 (nI (smF (hf 4) 4 0 0))) 1 (nI (smF (hf 5) 4 4 0)))))]) 0 rfl (by first | omega | (simp [up2, *]; done) | (simp [up2, *]; omega) | (simp only [up2_eq]; omega) | (split <;> omega)) (by first | omega | (simp [up2, *]; done) | (simp [up2, *]; omega) | (simp only [up2_eq]; omega) | (split <;> omega)) rfl dX4_houseNow_96 ?_
                  refine r_dup C dX4_houseNow_97 rfl ?_
                  refine r_iconst (v := (nI 2)) C dX4_houseNow_98 (by decide) ?_
                  refine r_iload_n C dX4_houseNow_99 rfl ?_
                  refine x_ast C (i := 2) (f := upd (upd (fun _ => 0) 0 (nI (smF (hf 4) 4 0 0))) 1 (nI (smF (hf 5) 4 4 0))) (E' := [(b_10, .inl (cy 1, 4, .inl (upd (upd (upd (fun _ => 0) 0 (nI (smF (hf 4) 4 0 0))) 1 (nI (smF (hf 5) 4 4 0))) 2 (nI (smF (hf 9) 3 0 0)))))]) 0 rfl (by first | omega | (simp [up2, *]; done) | (simp [up2, *]; omega) | (simp only [up2_eq]; omega) | (split <;> omega)) (by first | omega | (simp [up2, *]; done) | (simp [up2, *]; omega) | (simp only [up2_eq]; omega) | (split <;> omega)) rfl dX4_houseNow_100 ?_
                  refine r_dup C dX4_houseNow_101 rfl ?_
                  refine r_iconst (v := (nI 3)) C dX4_houseNow_102 (by decide) ?_
                  refine r_aload_n C dX4_houseNow_103 rfl ?_
                  refine m_get (v := .int kn) C 9 (by decide) qf_X4_202 rfl rfl dX4_houseNow_104 ?_
                  refine x_ast C (i := 3) (f := upd (upd (upd (fun _ => 0) 0 (nI (smF (hf 4) 4 0 0))) 1 (nI (smF (hf 5) 4 4 0))) 2 (nI (smF (hf 9) 3 0 0))) (E' := [(b_10, .inl (cy 1, 4, .inl (upd (upd (upd (upd (fun _ => 0) 0 (nI (smF (hf 4) 4 0 0))) 1 (nI (smF (hf 5) 4 4 0))) 2 (nI (smF (hf 9) 3 0 0))) 3 kn)))]) 0 rfl (by first | omega | (simp [up2, *]; done) | (simp [up2, *]; omega) | (simp only [up2_eq]; omega) | (split <;> omega)) (by first | omega | (simp [up2, *]; done) | (simp [up2, *]; omega) | (simp only [up2_eq]; omega) | (split <;> omega)) rfl dX4_houseNow_107 ?_
                  refine r_astore C dX4_houseNow_108 (by decide) rfl ?_
                  refine r_aload C dX4_houseNow_110 rfl ?_
                  refine r_iload_n C dX4_houseNow_112 rfl ?_
                  refine x_ald C (i := 3) (f := upd (upd (upd (upd (fun _ => 0) 0 (nI (smF (hf 4) 4 0 0))) 1 (nI (smF (hf 5) 4 4 0))) 2 (nI (smF (hf 9) 3 0 0))) 3 kn) 0 rfl (by first | omega | (simp [up2, *]; done) | (simp [up2, *]; omega) | (simp only [up2_eq]; omega) | (split <;> omega)) (by first | omega | (simp [up2, *]; done) | (simp [up2, *]; omega) | (simp only [up2_eq]; omega) | (split <;> omega)) dX4_houseNow_113 ?_
                  refine r_eqi (show (upd (upd (upd (upd (fun _ => 0) 0 (nI (smF (hf 4) 4 0 0))) 1 (nI (smF (hf 5) 4 4 0))) 2 (nI (smF (hf 9) 3 0 0))) 3 kn) 3 = kn from rfl) ?_
                  refine r_pre ?_
                  exact r_iret C hr dX4_houseNow_114 ⟨rfl, rfl⟩ (Nat.le_of_ble_eq_true rfl) (Nat.le_of_ble_eq_true rfl)
              · first
                | exfalso; first | omega | contradiction
                | skip
                  refine r_aload C dX4_houseNow_62 rfl ?_
                  refine r_iload C dX4_houseNow_64 rfl ?_
                  refine m_zld (i := k) (z := k) (v := hf 9 k) C 4 (by decide) (by decide) (show k < 3 from (by first | omega | (simp [up2, *]; done) | (simp [up2, *]; omega) | (simp only [up2_eq]; omega) | (split <;> omega))) (show 0 + k = k from (by omega)) rfl dX4_houseNow_66 ?_
                  refine r_istore C dX4_houseNow_67 (by decide) rfl ?_
                  refine r_iload_n C dX4_houseNow_69 rfl ?_
                  refine r_iload C dX4_houseNow_70 rfl ?_
                  refine d_S (st := [.int (nI z3)]) hX.1.stb C hE (D_one (ba := ba) (ra := ra) (hf := hf) (hq := hq) (kn := kn) (th := th) (sm := sm) (Y := Y) (b0 := (hf 9 k)) hX (h9a k (by omega))) pk_X4_one qm_X4_136 rfl rfl (Nat.le_of_ble_eq_true rfl) dX4_houseNow_72 ⟨(Nat.le_of_ble_eq_true rfl), (Nat.le_of_ble_eq_true rfl)⟩ ⟨(Nat.le_of_ble_eq_true rfl), (Nat.le_of_ble_eq_true rfl)⟩ ?_
                  refine r_w (w' := WM cy ba ra hf hq kn th sm ++ Y) rfl ?_
                  refine r_iaddN C dX4_houseNow_75 ?_
                  refine r_istore_n C dX4_houseNow_76 (by decide) rfl ?_
                  refine r_iincN C dX4_houseNow_77 rfl (by decide) rfl ?_
                  refine r_goto (tgt := 55) C dX4_houseNow_80 (by decide) ?_
                  refine r_drop 7 ?_
                  exact ih_L55 (k + 1) (z3 + (hf 9 k)) (by first | omega | (simp [up2, *]; done) | (simp [up2, *]; omega) | (simp only [up2_eq]; omega) | (split <;> omega)) (by have h8 := h9a k (by omega); omega) (by rw [← hF3]; rfl)
          exact L55 3 0 0 (by first | omega | (simp [up2, *]; done) | (simp [up2, *]; omega) | (simp only [up2_eq]; omega) | (split <;> omega)) (by omega) rfl
      · first
        | exfalso; first | omega | contradiction
        | skip
          refine r_aload_n C dX4_houseNow_21 rfl ?_
          refine r_iload C dX4_houseNow_22 rfl ?_
          refine m_rows (i := k) C (by first | omega | (simp [up2, *]; done) | (simp [up2, *]; omega) | (simp only [up2_eq]; omega) | (split <;> omega)) dX4_houseNow_24 ?_
          refine r_astore C dX4_houseNow_25 (by decide) rfl ?_
          refine r_iload_n C dX4_houseNow_27 rfl ?_
          refine r_aload C dX4_houseNow_28 rfl ?_
          refine m_rlen (i := k) (v := hf 4 k) C (by first | omega | (simp [up2, *]; done) | (simp [up2, *]; omega) | (simp only [up2_eq]; omega) | (split <;> omega)) rfl dX4_houseNow_30 ?_
          refine r_iaddN C dX4_houseNow_31 ?_
          refine r_istore_n C dX4_houseNow_32 (by decide) rfl ?_
          refine r_iincN C dX4_houseNow_33 rfl (by decide) rfl ?_
          refine r_goto (tgt := 14) C dX4_houseNow_36 (by decide) ?_
          refine r_drop 6 ?_
          exact ih_L14 (k + 1) (z + (hf 4 k)) (by first | omega | (simp [up2, *]; done) | (simp [up2, *]; omega) | (simp only [up2_eq]; omega) | (split <;> omega)) (by have h8 := (hM.2.1 k (by omega)).1; have h7 := hC.rw (i := k) (by omega); omega) (by rw [← hF]; rfl)
  exact L14 4 0 0 (by first | omega | (simp [up2, *]; done) | (simp [up2, *]; omega) | (simp only [up2_eq]; omega) | (split <;> omega)) (by omega) rfl
theorem D_houseNow {l : Launch} {D : va_G} {cy : Nat → ClassId} {X : (Nat → Prop) → State → Heap → Prop} {ba ra : Nat → Nat} {hf : Nat → Nat → Nat} {hq : Nat → Nat → Int32} {kn th : Int32} {sm : Int64} {Y : va_W} {f : Nat → Nat → Nat} {r : Nat → Nat → Int32} {q0 : Nat} (hX : EnvM X cy) (hC : CInv f) (hM : MR f r hf hq) (hq4 : q0 < 4) : Cd l D cy X yX4_houseNow cX4_houseNow 8 (some .int) (rmk 3 1 4 90) [.ref (ba 9), .int (nI q0)] (WM cy ba ra hf hq kn th sm ++ Y) (some (.int (hoM hf kn q0))) (WM cy ba ra hf hq kn th sm ++ Y) := by
  obtain rfl | rfl | rfl | rfl : q0 = 0 ∨ q0 = 1 ∨ q0 = 2 ∨ q0 = 3 := by omega
  · exact D_houseNow_0 hX hC hM
  · exact D_houseNow_1 hX hC hM
  · exact D_houseNow_2 hX hC hM
  · exact D_houseNow_3 hX hC hM
theorem dX4_house_0 : decode cX4_house 0 = .ok (.aload_n 0, 1) := dqo_42 (kb_of ke_X4_house 0 rfl)
theorem dX4_house_1 : decode cX4_house 1 = .ok (.iload_n 1, 1) := dqo_27 (kb_of ke_X4_house 1 rfl)
theorem dX4_house_2 : decode cX4_house 2 = .ok (.iconst 0, 1) := dqo_3 (kb_of ke_X4_house 2 rfl)
theorem dX4_house_3 : decode cX4_house 3 = .ok (.iconst 3, 1) := dqo_6 (kb_of ke_X4_house 3 rfl)
theorem dX4_house_4 : decode cX4_house 4 = .ok (.invokestatic 1, 3) := dqo_184 0 1 (kb_of ke_X4_house 4 rfl) (kb_of ke_X4_house 5 rfl) (kb_of ke_X4_house 6 rfl)
theorem dX4_house_7 : decode cX4_house 7 = .ok (.ifCond .ne 7, 3) := dqo_154 0 7 (by decide) (kb_of ke_X4_house 7 rfl) (kb_of ke_X4_house 8 rfl) (kb_of ke_X4_house 9 rfl)
theorem dX4_house_10 : decode cX4_house 10 = .ok (.iconst 1, 1) := dqo_4 (kb_of ke_X4_house 10 rfl)
theorem dX4_house_11 : decode cX4_house 11 = .ok (.goto 4, 3) := dqo_167 0 4 (by decide) (kb_of ke_X4_house 11 rfl) (kb_of ke_X4_house 12 rfl) (kb_of ke_X4_house 13 rfl)
theorem dX4_house_15 : decode cX4_house 15 = .ok (.iconst 0, 1) := dqo_3 (kb_of ke_X4_house 15 rfl)
theorem dX4_house_16 : decode cX4_house 16 = .ok (.iconst 0, 1) := dqo_3 (kb_of ke_X4_house 16 rfl)
theorem dX4_house_17 : decode cX4_house 17 = .ok (.invokevirtual 84, 3) := dqo_182 0 84 (kb_of ke_X4_house 17 rfl) (kb_of ke_X4_house 18 rfl) (kb_of ke_X4_house 19 rfl)
theorem dX4_house_20 : decode cX4_house 20 = .ok (.ifCond .eq 7, 3) := dqo_153 0 7 (by decide) (kb_of ke_X4_house 20 rfl) (kb_of ke_X4_house 21 rfl) (kb_of ke_X4_house 22 rfl)
theorem dX4_house_23 : decode cX4_house 23 = .ok (.iconst 0, 1) := dqo_3 (kb_of ke_X4_house 23 rfl)
theorem dX4_house_24 : decode cX4_house 24 = .ok (.goto 8, 3) := dqo_167 0 8 (by decide) (kb_of ke_X4_house 24 rfl) (kb_of ke_X4_house 25 rfl) (kb_of ke_X4_house 26 rfl)
theorem dX4_house_32 : decode cX4_house 32 = .ok (.ireturn, 1) := dqo_172 (kb_of ke_X4_house 32 rfl)
set_option maxRecDepth 100000 in
set_option maxHeartbeats 4000000 in
theorem D_house_noQ {l : Launch} {D : va_G} {cy : Nat → ClassId} {X : (Nat → Prop) → State → Heap → Prop} {ba ra : Nat → Nat} {hf : Nat → Nat → Nat} {hq : Nat → Nat → Int32} {kn th : Int32} {sm : Int64} {Y : va_W} {f : Nat → Nat → Nat} {r : Nat → Nat → Int32} {x : Int32} (hX : EnvM X cy) (hC : CInv f) (hM : MR f r hf hq) (hno : ¬ (0 ≤ x ∧ x < nI 4)) : Cd l D cy X yX4_house cX4_house 2 (some .int) (rmk 9 4 48 420) [.ref (ba 9), .int x] (WM cy ba ra hf hq kn th sm ++ Y) (some (.int (nI 0))) (WM cy ba ra hf hq kn (nI 1) sm ++ Y) := by
  have hG := hM.1
  have h5M := hM.h5M hC
  have h4M := hC.h4M
  have h9a := hM.h9a hC
  have h6a := hM.h6a
  have hU := hM.hU hC
  refine Cm.of [some (.ref (ba 9)), some (.int x)] pn_X4 rfl (Nat.le_of_ble_eq_true rfl) ?_
  intro p e s m args below meth c A C hE hr hnt hn
  refine r_aload_n C dX4_house_0 rfl ?_
  refine r_iload_n C dX4_house_1 rfl ?_
  refine r_iconst (v := (nI 0)) C dX4_house_2 (by decide) ?_
  refine r_iconst (v := (nI 3)) C dX4_house_3 (by decide) ?_
  refine d_S (st := [.ref (ba 9)]) hX.1.stb C hE (D_isIn0 (ba := ba) (ra := ra) (hf := hf) (hq := hq) (kn := kn) (th := th) (sm := sm) (Y := Y) (x := (x)) (y := ((nI 0))) (z := ((nI 3))) hX (fun z => hno ⟨z.1, Int32.lt_of_le_of_lt z.2 (by decide)⟩)) pk_X4_isIn qm_X4_1 rfl rfl (Nat.le_of_ble_eq_true rfl) dX4_house_4 ⟨(Nat.le_of_ble_eq_true rfl), (Nat.le_of_ble_eq_true rfl)⟩ ⟨(Nat.le_of_ble_eq_true rfl), (Nat.le_of_ble_eq_true rfl)⟩ ?_
  refine r_w (w' := WM cy ba ra hf hq kn th sm ++ Y) rfl ?_
  refine r_ifN_ne (a := 0) (tgt := 14) C (by first | omega | (simp [up2, *]; done) | (simp [up2, *]; omega) | (simp only [up2_eq]; omega) | (split <;> omega)) dX4_house_7 (by decide) (fun h7_1 => ?_) (fun h7_1 => ?_)
  · exact absurd h7_1 (by first | omega | (simp [up2, *]; done) | (simp [up2, *]; omega) | (simp only [up2_eq]; omega) | (split <;> omega))
  · skip
    refine r_iconst (v := (nI 1)) C dX4_house_10 (by decide) ?_
    refine r_goto (tgt := 15) C dX4_house_11 (by decide) ?_
    refine r_iconst (v := (nI 0)) C dX4_house_15 (by decide) ?_
    refine r_iconst (v := (nI 0)) C dX4_house_16 (by decide) ?_
    refine d_V (st := []) hX.1.stb C hE (D_fails1 (ba := ba) (ra := ra) (hf := hf) (hq := hq) (kn := kn) (th := th) (sm := sm) (Y := Y) (b0 := 0) (d0 := 0) hX ) pk_X4_fails qm_X4_84 0 8 rfl rfl wm_0 rfl rfl (Nat.le_of_ble_eq_true rfl) dX4_house_17 ⟨(Nat.le_of_ble_eq_true rfl), (Nat.le_of_ble_eq_true rfl)⟩ ⟨(Nat.le_of_ble_eq_true rfl), (Nat.le_of_ble_eq_true rfl)⟩ ?_
    refine r_w (w' := WM cy ba ra hf hq kn (nI 1) sm ++ Y) rfl ?_
    refine r_ifN_eq (a := 1) (tgt := 27) C (by first | omega | (simp [up2, *]; done) | (simp [up2, *]; omega) | (simp only [up2_eq]; omega) | (split <;> omega)) dX4_house_20 (by decide) (fun h20_2 => ?_) (fun h20_2 => ?_)
    · exact absurd h20_2 (by first | omega | (simp [up2, *]; done) | (simp [up2, *]; omega) | (simp only [up2_eq]; omega) | (split <;> omega))
    · skip
      refine r_iconst (v := (nI 0)) C dX4_house_23 (by decide) ?_
      refine r_goto (tgt := 32) C dX4_house_24 (by decide) ?_
      exact r_iret C hr dX4_house_32 ⟨rfl, rfl⟩ (Nat.le_of_ble_eq_true rfl) (Nat.le_of_ble_eq_true rfl)
theorem pk_X4_houseNow : PkV RX4 yX4_houseNow cX4_houseNow 8 (some .int) 1 := ⟨⟨qi_X4_houseNow, qs_X4_houseNow, qz_X4, qc_X4_houseNow⟩, rfl, mh_X4.1, mh_X4.2, pd_1⟩
theorem dX4_house_14 : decode cX4_house 14 = .ok (.iconst 0, 1) := dqo_3 (kb_of ke_X4_house 14 rfl)
theorem dX4_house_27 : decode cX4_house 27 = .ok (.aload_n 0, 1) := dqo_42 (kb_of ke_X4_house 27 rfl)
theorem dX4_house_28 : decode cX4_house 28 = .ok (.iload_n 1, 1) := dqo_27 (kb_of ke_X4_house 28 rfl)
theorem dX4_house_29 : decode cX4_house 29 = .ok (.invokevirtual 205, 3) := dqo_182 0 205 (kb_of ke_X4_house 29 rfl) (kb_of ke_X4_house 30 rfl) (kb_of ke_X4_house 31 rfl)
set_option maxRecDepth 100000 in
set_option maxHeartbeats 4000000 in
theorem D_house_ok {l : Launch} {D : va_G} {cy : Nat → ClassId} {X : (Nat → Prop) → State → Heap → Prop} {ba ra : Nat → Nat} {hf : Nat → Nat → Nat} {hq : Nat → Nat → Int32} {kn th : Int32} {sm : Int64} {Y : va_W} {f : Nat → Nat → Nat} {r : Nat → Nat → Int32} {q0 : Nat} (hX : EnvM X cy) (hC : CInv f) (hM : MR f r hf hq) (hq4 : q0 < 4) : Cd l D cy X yX4_house cX4_house 2 (some .int) (rmk 9 4 48 420) [.ref (ba 9), .int (nI q0)] (WM cy ba ra hf hq kn th sm ++ Y) (some (.int (hoM hf kn q0))) (WM cy ba ra hf hq kn (nI 0) sm ++ Y) := by
  have hG := hM.1
  have h5M := hM.h5M hC
  have h4M := hC.h4M
  have h9a := hM.h9a hC
  have h6a := hM.h6a
  have hU := hM.hU hC
  refine Cm.of [some (.ref (ba 9)), some (.int (nI q0))] pn_X4 rfl (Nat.le_of_ble_eq_true rfl) ?_
  intro p e s m args below meth c A C hE hr hnt hn
  refine r_aload_n C dX4_house_0 rfl ?_
  refine r_iload_n C dX4_house_1 rfl ?_
  refine r_iconst (v := (nI 0)) C dX4_house_2 (by decide) ?_
  refine r_iconst (v := (nI 3)) C dX4_house_3 (by decide) ?_
  refine d_S (st := [.ref (ba 9)]) hX.1.stb C hE (D_isInN (ba := ba) (ra := ra) (hf := hf) (hq := hq) (kn := kn) (th := th) (sm := sm) (Y := Y) (a0 := q0) (b0 := 0) (d0 := 3) hX (by first | omega | (simp [up2, *]; done) | (simp [up2, *]; omega) | (simp only [up2_eq]; omega) | (split <;> omega)) (by first | omega | (simp [up2, *]; done) | (simp [up2, *]; omega) | (simp only [up2_eq]; omega) | (split <;> omega)) (by first | omega | (simp [up2, *]; done) | (simp [up2, *]; omega) | (simp only [up2_eq]; omega) | (split <;> omega))) pk_X4_isIn qm_X4_1 rfl rfl (Nat.le_of_ble_eq_true rfl) dX4_house_4 ⟨(Nat.le_of_ble_eq_true rfl), (Nat.le_of_ble_eq_true rfl)⟩ ⟨(Nat.le_of_ble_eq_true rfl), (Nat.le_of_ble_eq_true rfl)⟩ ?_
  refine r_w (w' := WM cy ba ra hf hq kn th sm ++ Y) rfl ?_
  refine r_ifN_ne (a := 1) (tgt := 14) C (by first | omega | (simp [up2, *]; done) | (simp [up2, *]; omega) | (simp only [up2_eq]; omega) | (split <;> omega)) dX4_house_7 (by decide) (fun h7_1 => ?_) (fun h7_1 => ?_)
  · skip
    refine r_iconst (v := (nI 0)) C dX4_house_14 (by decide) ?_
    refine r_iconst (v := (nI 0)) C dX4_house_15 (by decide) ?_
    refine r_iconst (v := (nI 0)) C dX4_house_16 (by decide) ?_
    refine d_V (st := []) hX.1.stb C hE (D_fails0 (ba := ba) (ra := ra) (hf := hf) (hq := hq) (kn := kn) (th := th) (sm := sm) (Y := Y)  hX ) pk_X4_fails qm_X4_84 0 8 rfl rfl wm_0 rfl rfl (Nat.le_of_ble_eq_true rfl) dX4_house_17 ⟨(Nat.le_of_ble_eq_true rfl), (Nat.le_of_ble_eq_true rfl)⟩ ⟨(Nat.le_of_ble_eq_true rfl), (Nat.le_of_ble_eq_true rfl)⟩ ?_
    refine r_w (w' := WM cy ba ra hf hq kn (nI 0) sm ++ Y) rfl ?_
    refine r_ifN_eq (a := 0) (tgt := 27) C (by first | omega | (simp [up2, *]; done) | (simp [up2, *]; omega) | (simp only [up2_eq]; omega) | (split <;> omega)) dX4_house_20 (by decide) (fun h20_2 => ?_) (fun h20_2 => ?_)
    · skip
      refine r_aload_n C dX4_house_27 rfl ?_
      refine r_iload_n C dX4_house_28 rfl ?_
      refine d_V (st := []) hX.1.stb C hE (D_houseNow (ba := ba) (ra := ra) (hf := hf) (hq := hq) (kn := kn) (th := (nI 0)) (sm := sm) (Y := Y) (f := f) (q0 := q0) hX hC hM (by first | omega | (simp [up2, *]; done) | (simp [up2, *]; omega) | (simp only [up2_eq]; omega) | (split <;> omega))) pk_X4_houseNow qm_X4_205 0 8 rfl rfl wm_0 rfl rfl (Nat.le_of_ble_eq_true rfl) dX4_house_29 ⟨(Nat.le_of_ble_eq_true rfl), (Nat.le_of_ble_eq_true rfl)⟩ ⟨(Nat.le_of_ble_eq_true rfl), (Nat.le_of_ble_eq_true rfl)⟩ ?_
      refine r_w (w' := WM cy ba ra hf hq kn (nI 0) sm ++ Y) rfl ?_
      exact r_iret C hr dX4_house_32 ⟨rfl, rfl⟩ (Nat.le_of_ble_eq_true rfl) (Nat.le_of_ble_eq_true rfl)
    · exact absurd h20_2 (by first | omega | (simp [up2, *]; done) | (simp [up2, *]; omega) | (simp only [up2_eq]; omega) | (split <;> omega))
  · exact absurd h7_1 (by first | omega | (simp [up2, *]; done) | (simp [up2, *]; omega) | (simp only [up2_eq]; omega) | (split <;> omega))
theorem dX4_knock_0 : decode cX4_knock 0 = .ok (.aload_n 0, 1) := dqo_42 (kb_of ke_X4_knock 0 rfl)
theorem dX4_knock_1 : decode cX4_knock 1 = .ok (.iconst 0, 1) := dqo_3 (kb_of ke_X4_knock 1 rfl)
theorem dX4_knock_2 : decode cX4_knock 2 = .ok (.putfield 44, 3) := dqo_181 0 44 (kb_of ke_X4_knock 2 rfl) (kb_of ke_X4_knock 3 rfl) (kb_of ke_X4_knock 4 rfl)
theorem dX4_knock_5 : decode cX4_knock 5 = .ok (.aload_n 0, 1) := dqo_42 (kb_of ke_X4_knock 5 rfl)
theorem dX4_knock_6 : decode cX4_knock 6 = .ok (.dup, 1) := dqo_89 (kb_of ke_X4_knock 6 rfl)
theorem dX4_knock_7 : decode cX4_knock 7 = .ok (.getfield 202, 3) := dqo_180 0 202 (kb_of ke_X4_knock 7 rfl) (kb_of ke_X4_knock 8 rfl) (kb_of ke_X4_knock 9 rfl)
theorem dX4_knock_10 : decode cX4_knock 10 = .ok (.iconst 1, 1) := dqo_4 (kb_of ke_X4_knock 10 rfl)
theorem dX4_knock_11 : decode cX4_knock 11 = .ok (.iadd, 1) := dqo_96 (kb_of ke_X4_knock 11 rfl)
theorem dX4_knock_12 : decode cX4_knock 12 = .ok (.putfield 202, 3) := dqo_181 0 202 (kb_of ke_X4_knock 12 rfl) (kb_of ke_X4_knock 13 rfl) (kb_of ke_X4_knock 14 rfl)
theorem dX4_knock_15 : decode cX4_knock 15 = .ok (.aload_n 0, 1) := dqo_42 (kb_of ke_X4_knock 15 rfl)
theorem dX4_knock_16 : decode cX4_knock 16 = .ok (.getfield 202, 3) := dqo_180 0 202 (kb_of ke_X4_knock 16 rfl) (kb_of ke_X4_knock 17 rfl) (kb_of ke_X4_knock 18 rfl)
theorem dX4_knock_19 : decode cX4_knock 19 = .ok (.ireturn, 1) := dqo_172 (kb_of ke_X4_knock 19 rfl)
set_option maxRecDepth 100000 in
set_option maxHeartbeats 4000000 in
theorem D_knock {l : Launch} {D : va_G} {cy : Nat → ClassId} {X : (Nat → Prop) → State → Heap → Prop} {ba ra : Nat → Nat} {hf : Nat → Nat → Nat} {hq : Nat → Nat → Int32} {kn th : Int32} {sm : Int64} {Y : va_W}  (hX : EnvM X cy)  : Cd l D cy X yX4_knock cX4_knock 1 (some .int) (rmz 0 0) [.ref (ba 9)] (WM cy ba ra hf hq kn th sm ++ Y) (some (.int (kn + (nI 1)))) (WM cy ba ra hf hq (kn + (nI 1)) (nI 0) sm ++ Y) := by
  refine Cm.of [some (.ref (ba 9))] pn_X4 rfl (Nat.le_of_ble_eq_true rfl) ?_
  intro p e s m args below meth c A C hE hr hnt hn
  refine r_aload_n C dX4_knock_0 rfl ?_
  refine r_iconst (v := (nI 0)) C dX4_knock_1 (by decide) ?_
  refine m_putT C qf_X4_44 dX4_knock_2 ?_
  refine r_aload_n C dX4_knock_5 rfl ?_
  refine r_dup C dX4_knock_6 rfl ?_
  refine m_get (v := .int kn) C 9 (by decide) qf_X4_202 rfl rfl dX4_knock_7 ?_
  refine r_iconst (v := (nI 1)) C dX4_knock_10 (by decide) ?_
  refine r_iadd C dX4_knock_11 ?_
  refine m_putK C qf_X4_202 dX4_knock_12 ?_
  refine r_aload_n C dX4_knock_15 rfl ?_
  refine m_get (v := .int (kn + (nI 1))) C 9 (by decide) qf_X4_202 rfl rfl dX4_knock_16 ?_
  exact r_iret C hr dX4_knock_19 ⟨rfl, rfl⟩ (Nat.le_of_ble_eq_true rfl) (Nat.le_of_ble_eq_true rfl)
theorem dX4_isWhole_0 : decode cX4_isWhole 0 = .ok (.iconst 1, 1) := dqo_4 (kb_X4_isWhole_0 0 rfl)
theorem dX4_isWhole_1 : decode cX4_isWhole 1 = .ok (.istore_n 1, 1) := dqo_60 (kb_X4_isWhole_0 1 rfl)
theorem dX4_isWhole_2 : decode cX4_isWhole 2 = .ok (.iconst 0, 1) := dqo_3 (kb_X4_isWhole_0 2 rfl)
theorem dX4_isWhole_3 : decode cX4_isWhole 3 = .ok (.istore_n 2, 1) := dqo_61 (kb_X4_isWhole_0 3 rfl)
theorem dX4_isWhole_4 : decode cX4_isWhole 4 = .ok (.iload_n 2, 1) := dqo_28 (kb_X4_isWhole_0 4 rfl)
theorem dX4_isWhole_5 : decode cX4_isWhole 5 = .ok (.iconst 4, 1) := dqo_7 (kb_X4_isWhole_0 5 rfl)
theorem dX4_isWhole_6 : decode cX4_isWhole 6 = .ok (.if_icmp .ge 70, 3) := dqo_162 0 70 (by decide) (kb_X4_isWhole_0 6 rfl) (kb_X4_isWhole_0 7 rfl) (kb_X4_isWhole_0 8 rfl)
theorem dX4_isWhole_9 : decode cX4_isWhole 9 = .ok (.iload_n 1, 1) := dqo_27 (kb_X4_isWhole_0 9 rfl)
theorem dX4_isWhole_10 : decode cX4_isWhole 10 = .ok (.aload_n 0, 1) := dqo_42 (kb_X4_isWhole_0 10 rfl)
theorem dX4_isWhole_11 : decode cX4_isWhole 11 = .ok (.getfield 18, 3) := dqo_180 0 18 (kb_X4_isWhole_0 11 rfl) (kb_X4_isWhole_0 12 rfl) (kb_X4_isWhole_0 13 rfl)
theorem dX4_isWhole_14 : decode cX4_isWhole 14 = .ok (.iload_n 2, 1) := dqo_28 (kb_X4_isWhole_0 14 rfl)
theorem dX4_isWhole_15 : decode cX4_isWhole 15 = .ok (.baload, 1) := dqo_51 (kb_X4_isWhole_0 15 rfl)
theorem dX4_isWhole_16 : decode cX4_isWhole 16 = .ok (.ifCond .eq 47, 3) := dqo_153 0 47 (by decide) (kb_X4_isWhole_0 16 rfl) (kb_X4_isWhole_0 17 rfl) (kb_X4_isWhole_0 18 rfl)
theorem dX4_isWhole_19 : decode cX4_isWhole 19 = .ok (.aload_n 0, 1) := dqo_42 (kb_X4_isWhole_0 19 rfl)
theorem dX4_isWhole_20 : decode cX4_isWhole 20 = .ok (.getfield 26, 3) := dqo_180 0 26 (kb_X4_isWhole_0 20 rfl) (kb_X4_isWhole_0 21 rfl) (kb_X4_isWhole_0 22 rfl)
theorem dX4_isWhole_23 : decode cX4_isWhole 23 = .ok (.iload_n 2, 1) := dqo_28 (kb_X4_isWhole_0 23 rfl)
theorem dX4_isWhole_24 : decode cX4_isWhole 24 = .ok (.iaload, 1) := dqo_46 (kb_X4_isWhole_0 24 rfl)
theorem dX4_isWhole_25 : decode cX4_isWhole 25 = .ok (.ifCond .lt 42, 3) := dqo_155 0 42 (by decide) (kb_X4_isWhole_0 25 rfl) (kb_X4_isWhole_0 26 rfl) (kb_X4_isWhole_0 27 rfl)
theorem dX4_isWhole_28 : decode cX4_isWhole 28 = .ok (.aload_n 0, 1) := dqo_42 (kb_X4_isWhole_0 28 rfl)
theorem dX4_isWhole_29 : decode cX4_isWhole 29 = .ok (.getfield 29, 3) := dqo_180 0 29 (kb_X4_isWhole_0 29 rfl) (kb_X4_isWhole_0 30 rfl) (kb_X4_isWhole_0 31 rfl)
theorem dX4_isWhole_32 : decode cX4_isWhole 32 = .ok (.iload_n 2, 1) := dqo_28 (kb_X4_isWhole_0 32 rfl)
theorem dX4_isWhole_33 : decode cX4_isWhole 33 = .ok (.iaload, 1) := dqo_46 (kb_X4_isWhole_0 33 rfl)
theorem dX4_isWhole_34 : decode cX4_isWhole 34 = .ok (.ifCond .lt 33, 3) := dqo_155 0 33 (by decide) (kb_X4_isWhole_0 34 rfl) (kb_X4_isWhole_0 35 rfl) (kb_X4_isWhole_0 36 rfl)
theorem dX4_isWhole_37 : decode cX4_isWhole 37 = .ok (.aload_n 0, 1) := dqo_42 (kb_X4_isWhole_0 37 rfl)
theorem dX4_isWhole_38 : decode cX4_isWhole 38 = .ok (.getfield 26, 3) := dqo_180 0 26 (kb_X4_isWhole_0 38 rfl) (kb_X4_isWhole_0 39 rfl) (kb_X4_isWhole_0 40 rfl)
theorem dX4_isWhole_41 : decode cX4_isWhole 41 = .ok (.iload_n 2, 1) := dqo_28 (kb_X4_isWhole_0 41 rfl)
theorem dX4_isWhole_42 : decode cX4_isWhole 42 = .ok (.iaload, 1) := dqo_46 (kb_X4_isWhole_0 42 rfl)
theorem dX4_isWhole_43 : decode cX4_isWhole 43 = .ok (.aload_n 0, 1) := dqo_42 (kb_X4_isWhole_0 43 rfl)
theorem dX4_isWhole_44 : decode cX4_isWhole 44 = .ok (.getfield 29, 3) := dqo_180 0 29 (kb_X4_isWhole_0 44 rfl) (kb_X4_isWhole_0 45 rfl) (kb_X4_isWhole_0 46 rfl)
theorem dX4_isWhole_47 : decode cX4_isWhole 47 = .ok (.iload_n 2, 1) := dqo_28 (kb_X4_isWhole_0 47 rfl)
theorem dX4_isWhole_48 : decode cX4_isWhole 48 = .ok (.iaload, 1) := dqo_46 (kb_X4_isWhole_0 48 rfl)
theorem dX4_isWhole_49 : decode cX4_isWhole 49 = .ok (.iadd, 1) := dqo_96 (kb_X4_isWhole_0 49 rfl)
theorem dX4_isWhole_50 : decode cX4_isWhole 50 = .ok (.aload_n 0, 1) := dqo_42 (kb_X4_isWhole_0 50 rfl)
theorem dX4_isWhole_51 : decode cX4_isWhole 51 = .ok (.aload_n 0, 1) := dqo_42 (kb_X4_isWhole_0 51 rfl)
theorem dX4_isWhole_52 : decode cX4_isWhole 52 = .ok (.getfield 22, 3) := dqo_180 0 22 (kb_X4_isWhole_0 52 rfl) (kb_X4_isWhole_0 53 rfl) (kb_X4_isWhole_0 54 rfl)
theorem dX4_isWhole_55 : decode cX4_isWhole 55 = .ok (.iload_n 2, 1) := dqo_28 (kb_X4_isWhole_0 55 rfl)
theorem dX4_isWhole_56 : decode cX4_isWhole 56 = .ok (.iaload, 1) := dqo_46 (kb_X4_isWhole_0 56 rfl)
theorem dX4_isWhole_57 : decode cX4_isWhole 57 = .ok (.invokevirtual 59, 3) := dqo_182 0 59 (kb_X4_isWhole_0 57 rfl) (kb_X4_isWhole_0 58 rfl) (kb_X4_isWhole_0 59 rfl)
theorem dX4_isWhole_60 : decode cX4_isWhole 60 = .ok (.if_icmp .gt 7, 3) := dqo_163 0 7 (by decide) (kb_X4_isWhole_0 60 rfl) (kb_X4_isWhole_0 61 rfl) (kb_X4_isWhole_0 62 rfl)
theorem dX4_isWhole_63 : decode cX4_isWhole 63 = .ok (.iconst 1, 1) := dqo_4 (kb_X4_isWhole_0 63 rfl)
theorem dX4_isWhole_64 : decode cX4_isWhole 64 = .ok (.goto 4, 3) := dqo_167 0 4 (by decide) (kb_X4_isWhole_1 0 rfl) (kb_X4_isWhole_1 1 rfl) (kb_X4_isWhole_1 2 rfl)
theorem dX4_isWhole_68 : decode cX4_isWhole 68 = .ok (.iand, 1) := dqo_126 (kb_X4_isWhole_1 4 rfl)
theorem dX4_isWhole_69 : decode cX4_isWhole 69 = .ok (.istore_n 1, 1) := dqo_60 (kb_X4_isWhole_1 5 rfl)
theorem dX4_isWhole_70 : decode cX4_isWhole 70 = .ok (.iinc 2 1, 3) := dqo_132 2 1 (by decide) (kb_X4_isWhole_1 6 rfl) (kb_X4_isWhole_1 7 rfl) (kb_X4_isWhole_1 8 rfl)
theorem dX4_isWhole_73 : decode cX4_isWhole 73 = .ok (.goto (-69), 3) := dqo_167 255 187 (by decide) (kb_X4_isWhole_1 9 rfl) (kb_X4_isWhole_1 10 rfl) (kb_X4_isWhole_1 11 rfl)
theorem dX4_isWhole_76 : decode cX4_isWhole 76 = .ok (.iload_n 1, 1) := dqo_27 (kb_X4_isWhole_1 12 rfl)
theorem dX4_isWhole_77 : decode cX4_isWhole 77 = .ok (.ireturn, 1) := dqo_172 (kb_X4_isWhole_1 13 rfl)
set_option maxRecDepth 100000 in
set_option maxHeartbeats 4000000 in
theorem D_isWhole {l : Launch} {D : va_G} {cy : Nat → ClassId} {X : (Nat → Prop) → State → Heap → Prop} {ba ra : Nat → Nat} {hf : Nat → Nat → Nat} {hq : Nat → Nat → Int32} {kn th : Int32} {sm : Int64} {Y : va_W} {f : Nat → Nat → Nat} {r : Nat → Nat → Int32}  (hX : EnvM X cy) (hC : CInv f) (hM : MR f r hf hq) : Cd l D cy X yX4_isWhole cX4_isWhole 3 (some .boolean) (rmz 1 30) [.ref (ba 9)] (WM cy ba ra hf hq kn th sm ++ Y) (some (.int (nI 1))) (WM cy ba ra hf hq kn th sm ++ Y) := by
  have hG := hM.1
  have h5M := hM.h5M hC
  have h4M := hC.h4M
  have h9a := hM.h9a hC
  have h6a := hM.h6a
  have hU := hM.hU hC
  refine Cm.of [some (.ref (ba 9)), none, none] pn_X4 rfl (Nat.le_of_ble_eq_true rfl) ?_
  intro p e s m args below meth c A C hE hr hnt hn
  refine r_iconst (v := (nI 1)) C dX4_isWhole_0 (by decide) ?_
  refine r_istore_n C dX4_isWhole_1 (by decide) rfl ?_
  refine r_iconst (v := (nI 0)) C dX4_isWhole_2 (by decide) ?_
  refine r_istore_n C dX4_isWhole_3 (by decide) rfl ?_
  have L4 : ∀ (d : Nat) (k : Nat), (hk : k + d = 4) → vC p l e (rmz 1 30) s m args below meth c D A (vx_MQ below (vG (fun v1 w1 => v1 = (some (.int (nI 1))) ∧ w1 = WM cy ba ra hf hq kn th sm ++ Y) D vwCl A) (vGX (fun _ => False) D vwCl (WM cy ba ra hf hq kn th sm ++ Y) A) args s (rmz 1 30).cells (rmz 1 30).slots A) 3 0 0 (WM cy ba ra hf hq kn th sm ++ Y) [some (.ref (ba 9)), some (.int (nI 1)), some (.int (nI k))] 4 [] := by
    intro d
    induction d with
    | zero =>
      intro k hk
      refine r_iload_n C dX4_isWhole_4 rfl ?_
      refine r_iconst (v := (nI 4)) C dX4_isWhole_5 (by decide) ?_
      refine r_icN_ge (a := k) (b := 4) (tgt := 76) C (by first | omega | (simp [up2, *]; done) | (simp [up2, *]; omega) | (simp only [up2_eq]; omega) | (split <;> omega)) (by first | omega | (simp [up2, *]; done) | (simp [up2, *]; omega) | (simp only [up2_eq]; omega) | (split <;> omega)) dX4_isWhole_6 (by decide) (fun h6_1 => ?_) (fun h6_1 => ?_)
      · first
        | exfalso; first | omega | contradiction
        | skip
          refine r_iload_n C dX4_isWhole_76 rfl ?_
          exact r_zret C hr (by first | omega | (simp [up2, *]; done) | (simp [up2, *]; omega) | (simp only [up2_eq]; omega) | (split <;> omega)) dX4_isWhole_77 ⟨rfl, rfl⟩ (Nat.le_of_ble_eq_true rfl) (Nat.le_of_ble_eq_true rfl)
      · first
        | exfalso; first | omega | contradiction
        | skip
          have q5 := h5M (4 + k) (by omega) (by omega)
          refine r_iload_n C dX4_isWhole_9 rfl ?_
          refine r_aload_n C dX4_isWhole_10 rfl ?_
          refine m_get (v := .ref (ba 1)) C 1 (by decide) qf_X4_18 rfl rfl dX4_isWhole_11 ?_
          refine r_iload_n C dX4_isWhole_14 rfl ?_
          refine m_zld (i := k) (z := 4 + k) (v := hf 5 (4 + k)) C 0 (by decide) (by decide) (show k < 4 from (by first | omega | (simp [up2, *]; done) | (simp [up2, *]; omega) | (simp only [up2_eq]; omega) | (split <;> omega))) (show 4 + k = 4 + k from (by omega)) rfl dX4_isWhole_15 ?_
          refine r_ifN_eq (a := (hf 5 (4 + k))) (tgt := 63) C (by omega) dX4_isWhole_16 (by decide) (fun h16_2 => ?_) (fun h16_2 => ?_)
          · first
            | exfalso; first | omega | contradiction
            | skip
              refine r_iconst (v := (nI 1)) C dX4_isWhole_63 (by decide) ?_
              refine r_goto (tgt := 68) C dX4_isWhole_64 (by decide) ?_
              refine r_iandB (a := 1) (b := 1) (v := 1) C (by first | omega | (simp [up2, *]; done) | (simp [up2, *]; omega) | (simp only [up2_eq]; omega) | (split <;> omega)) (by first | omega | (simp [up2, *]; done) | (simp [up2, *]; omega) | (simp only [up2_eq]; omega) | (split <;> omega)) rfl dX4_isWhole_68 ?_
              refine r_istore_n C dX4_isWhole_69 (by decide) rfl ?_
              refine r_iincN C dX4_isWhole_70 rfl (by decide) rfl ?_
              refine r_goto (tgt := 4) C dX4_isWhole_73 (by decide) ?_
              exact (Nat.not_lt_zero _ (by omega)).elim
          · first
            | exfalso; first | omega | contradiction
            | skip
              have q6 := hM.wn hC (w := 4 + k) (by omega) (by omega) (by omega)
              refine r_aload_n C dX4_isWhole_19 rfl ?_
              refine m_get (v := .ref (ba 3)) C 3 (by decide) qf_X4_26 rfl rfl dX4_isWhole_20 ?_
              refine r_iload_n C dX4_isWhole_23 rfl ?_
              refine m_ald (i := k) (z := 4 + k) (v := hf 3 (4 + k)) C 2 (by decide) (by decide) (show k < 4 from (by first | omega | (simp [up2, *]; done) | (simp [up2, *]; omega) | (simp only [up2_eq]; omega) | (split <;> omega))) (show 4 + k = 4 + k from (by omega)) rfl dX4_isWhole_24 ?_
              refine r_ifN_lt (a := (hf 3 (4 + k))) (tgt := 67) C (by first | omega | (simp [up2, *]; done) | (simp [up2, *]; omega) | (simp only [up2_eq]; omega) | (split <;> omega)) dX4_isWhole_25 (by decide) (fun h25_3 => ?_) (fun h25_3 => ?_)
              · exact h25_3.elim
              · skip
                refine r_aload_n C dX4_isWhole_28 rfl ?_
                refine m_get (v := .ref (ba 4)) C 4 (by decide) qf_X4_29 rfl rfl dX4_isWhole_29 ?_
                refine r_iload_n C dX4_isWhole_32 rfl ?_
                refine m_ald (i := k) (z := 4 + k) (v := hf 4 (4 + k)) C 3 (by decide) (by decide) (show k < 4 from (by first | omega | (simp [up2, *]; done) | (simp [up2, *]; omega) | (simp only [up2_eq]; omega) | (split <;> omega))) (show 4 + k = 4 + k from (by omega)) rfl dX4_isWhole_33 ?_
                refine r_ifN_lt (a := (hf 4 (4 + k))) (tgt := 67) C (by first | omega | (simp [up2, *]; done) | (simp [up2, *]; omega) | (simp only [up2_eq]; omega) | (split <;> omega)) dX4_isWhole_34 (by decide) (fun h34_4 => ?_) (fun h34_4 => ?_)
                · exact h34_4.elim
                · skip
                  refine r_aload_n C dX4_isWhole_37 rfl ?_
                  refine m_get (v := .ref (ba 3)) C 3 (by decide) qf_X4_26 rfl rfl dX4_isWhole_38 ?_
                  refine r_iload_n C dX4_isWhole_41 rfl ?_
                  refine m_ald (i := k) (z := 4 + k) (v := hf 3 (4 + k)) C 2 (by decide) (by decide) (show k < 4 from (by first | omega | (simp [up2, *]; done) | (simp [up2, *]; omega) | (simp only [up2_eq]; omega) | (split <;> omega))) (show 4 + k = 4 + k from (by omega)) rfl dX4_isWhole_42 ?_
                  refine r_aload_n C dX4_isWhole_43 rfl ?_
                  refine m_get (v := .ref (ba 4)) C 4 (by decide) qf_X4_29 rfl rfl dX4_isWhole_44 ?_
                  refine r_iload_n C dX4_isWhole_47 rfl ?_
                  refine m_ald (i := k) (z := 4 + k) (v := hf 4 (4 + k)) C 3 (by decide) (by decide) (show k < 4 from (by first | omega | (simp [up2, *]; done) | (simp [up2, *]; omega) | (simp only [up2_eq]; omega) | (split <;> omega))) (show 4 + k = 4 + k from (by omega)) rfl dX4_isWhole_48 ?_
                  refine r_iaddN C dX4_isWhole_49 ?_
                  refine r_aload_n C dX4_isWhole_50 rfl ?_
                  refine r_aload_n C dX4_isWhole_51 rfl ?_
                  refine m_get (v := .ref (ba 2)) C 2 (by decide) qf_X4_22 rfl rfl dX4_isWhole_52 ?_
                  refine r_iload_n C dX4_isWhole_55 rfl ?_
                  refine m_ald (i := k) (z := 4 + k) (v := hf 2 (4 + k)) C 1 (by decide) (by decide) (show k < 4 from (by first | omega | (simp [up2, *]; done) | (simp [up2, *]; omega) | (simp only [up2_eq]; omega) | (split <;> omega))) (show 4 + k = 4 + k from (by omega)) rfl dX4_isWhole_56 ?_
                  refine d_V (st := [.int (nI ((hf 3 (4 + k)) + (hf 4 (4 + k)))), .int (nI 1)]) hX.1.stb C hE (D_sizeOf (ba := ba) (ra := ra) (hf := hf) (hq := hq) (kn := kn) (th := th) (sm := sm) (Y := Y) (w := (hf 2 (4 + k))) hX q6.2.1) pk_X4_sizeOf qm_X4_59 0 8 rfl rfl wm_0 rfl rfl (Nat.le_of_ble_eq_true rfl) dX4_isWhole_57 ⟨(Nat.le_of_ble_eq_true rfl), (Nat.le_of_ble_eq_true rfl)⟩ ⟨(Nat.le_of_ble_eq_true rfl), (Nat.le_of_ble_eq_true rfl)⟩ ?_
                  refine r_w (w' := WM cy ba ra hf hq kn th sm ++ Y) rfl ?_
                  refine r_icN_gt (a := ((hf 3 (4 + k)) + (hf 4 (4 + k)))) (b := (hf 4 (hf 2 (4 + k)))) (tgt := 67) C (by first | omega | (simp [up2, *]; done) | (simp [up2, *]; omega) | (simp only [up2_eq]; omega) | (split <;> omega)) (by first | omega | (simp [up2, *]; done) | (simp [up2, *]; omega) | (simp only [up2_eq]; omega) | (split <;> omega)) dX4_isWhole_60 (by decide) (fun h60_5 => ?_) (fun h60_5 => ?_)
                  · exact absurd h60_5 (by first | omega | (simp [up2, *]; done) | (simp [up2, *]; omega) | (simp only [up2_eq]; omega) | (split <;> omega))
                  · skip
                    refine r_iconst (v := (nI 1)) C dX4_isWhole_63 (by decide) ?_
                    refine r_goto (tgt := 68) C dX4_isWhole_64 (by decide) ?_
                    refine r_iandB (a := 1) (b := 1) (v := 1) C (by first | omega | (simp [up2, *]; done) | (simp [up2, *]; omega) | (simp only [up2_eq]; omega) | (split <;> omega)) (by first | omega | (simp [up2, *]; done) | (simp [up2, *]; omega) | (simp only [up2_eq]; omega) | (split <;> omega)) rfl dX4_isWhole_68 ?_
                    refine r_istore_n C dX4_isWhole_69 (by decide) rfl ?_
                    refine r_iincN C dX4_isWhole_70 rfl (by decide) rfl ?_
                    refine r_goto (tgt := 4) C dX4_isWhole_73 (by decide) ?_
                    exact (Nat.not_lt_zero _ (by omega)).elim
    | succ d ih_L4 =>
      intro k hk
      refine r_iload_n C dX4_isWhole_4 rfl ?_
      refine r_iconst (v := (nI 4)) C dX4_isWhole_5 (by decide) ?_
      refine r_icN_ge (a := k) (b := 4) (tgt := 76) C (by first | omega | (simp [up2, *]; done) | (simp [up2, *]; omega) | (simp only [up2_eq]; omega) | (split <;> omega)) (by first | omega | (simp [up2, *]; done) | (simp [up2, *]; omega) | (simp only [up2_eq]; omega) | (split <;> omega)) dX4_isWhole_6 (by decide) (fun h6_6 => ?_) (fun h6_6 => ?_)
      · first
        | exfalso; first | omega | contradiction
        | skip
          refine r_iload_n C dX4_isWhole_76 rfl ?_
          exact r_zret C hr (by first | omega | (simp [up2, *]; done) | (simp [up2, *]; omega) | (simp only [up2_eq]; omega) | (split <;> omega)) dX4_isWhole_77 ⟨rfl, rfl⟩ (Nat.le_of_ble_eq_true rfl) (Nat.le_of_ble_eq_true rfl)
      · first
        | exfalso; first | omega | contradiction
        | skip
          have q5 := h5M (4 + k) (by omega) (by omega)
          refine r_iload_n C dX4_isWhole_9 rfl ?_
          refine r_aload_n C dX4_isWhole_10 rfl ?_
          refine m_get (v := .ref (ba 1)) C 1 (by decide) qf_X4_18 rfl rfl dX4_isWhole_11 ?_
          refine r_iload_n C dX4_isWhole_14 rfl ?_
          refine m_zld (i := k) (z := 4 + k) (v := hf 5 (4 + k)) C 0 (by decide) (by decide) (show k < 4 from (by first | omega | (simp [up2, *]; done) | (simp [up2, *]; omega) | (simp only [up2_eq]; omega) | (split <;> omega))) (show 4 + k = 4 + k from (by omega)) rfl dX4_isWhole_15 ?_
          refine r_ifN_eq (a := (hf 5 (4 + k))) (tgt := 63) C (by omega) dX4_isWhole_16 (by decide) (fun h16_7 => ?_) (fun h16_7 => ?_)
          · first
            | exfalso; first | omega | contradiction
            | skip
              refine r_iconst (v := (nI 1)) C dX4_isWhole_63 (by decide) ?_
              refine r_goto (tgt := 68) C dX4_isWhole_64 (by decide) ?_
              refine r_iandB (a := 1) (b := 1) (v := 1) C (by first | omega | (simp [up2, *]; done) | (simp [up2, *]; omega) | (simp only [up2_eq]; omega) | (split <;> omega)) (by first | omega | (simp [up2, *]; done) | (simp [up2, *]; omega) | (simp only [up2_eq]; omega) | (split <;> omega)) rfl dX4_isWhole_68 ?_
              refine r_istore_n C dX4_isWhole_69 (by decide) rfl ?_
              refine r_iincN C dX4_isWhole_70 rfl (by decide) rfl ?_
              refine r_goto (tgt := 4) C dX4_isWhole_73 (by decide) ?_
              exact ih_L4 (k + 1) (by first | omega | (simp [up2, *]; done) | (simp [up2, *]; omega) | (simp only [up2_eq]; omega) | (split <;> omega))
          · first
            | exfalso; first | omega | contradiction
            | skip
              have q6 := hM.wn hC (w := 4 + k) (by omega) (by omega) (by omega)
              refine r_aload_n C dX4_isWhole_19 rfl ?_
              refine m_get (v := .ref (ba 3)) C 3 (by decide) qf_X4_26 rfl rfl dX4_isWhole_20 ?_
              refine r_iload_n C dX4_isWhole_23 rfl ?_
              refine m_ald (i := k) (z := 4 + k) (v := hf 3 (4 + k)) C 2 (by decide) (by decide) (show k < 4 from (by first | omega | (simp [up2, *]; done) | (simp [up2, *]; omega) | (simp only [up2_eq]; omega) | (split <;> omega))) (show 4 + k = 4 + k from (by omega)) rfl dX4_isWhole_24 ?_
              refine r_ifN_lt (a := (hf 3 (4 + k))) (tgt := 67) C (by first | omega | (simp [up2, *]; done) | (simp [up2, *]; omega) | (simp only [up2_eq]; omega) | (split <;> omega)) dX4_isWhole_25 (by decide) (fun h25_8 => ?_) (fun h25_8 => ?_)
              · exact h25_8.elim
              · skip
                refine r_aload_n C dX4_isWhole_28 rfl ?_
                refine m_get (v := .ref (ba 4)) C 4 (by decide) qf_X4_29 rfl rfl dX4_isWhole_29 ?_
                refine r_iload_n C dX4_isWhole_32 rfl ?_
                refine m_ald (i := k) (z := 4 + k) (v := hf 4 (4 + k)) C 3 (by decide) (by decide) (show k < 4 from (by first | omega | (simp [up2, *]; done) | (simp [up2, *]; omega) | (simp only [up2_eq]; omega) | (split <;> omega))) (show 4 + k = 4 + k from (by omega)) rfl dX4_isWhole_33 ?_
                refine r_ifN_lt (a := (hf 4 (4 + k))) (tgt := 67) C (by first | omega | (simp [up2, *]; done) | (simp [up2, *]; omega) | (simp only [up2_eq]; omega) | (split <;> omega)) dX4_isWhole_34 (by decide) (fun h34_9 => ?_) (fun h34_9 => ?_)
                · exact h34_9.elim
                · skip
                  refine r_aload_n C dX4_isWhole_37 rfl ?_
                  refine m_get (v := .ref (ba 3)) C 3 (by decide) qf_X4_26 rfl rfl dX4_isWhole_38 ?_
                  refine r_iload_n C dX4_isWhole_41 rfl ?_
                  refine m_ald (i := k) (z := 4 + k) (v := hf 3 (4 + k)) C 2 (by decide) (by decide) (show k < 4 from (by first | omega | (simp [up2, *]; done) | (simp [up2, *]; omega) | (simp only [up2_eq]; omega) | (split <;> omega))) (show 4 + k = 4 + k from (by omega)) rfl dX4_isWhole_42 ?_
                  refine r_aload_n C dX4_isWhole_43 rfl ?_
                  refine m_get (v := .ref (ba 4)) C 4 (by decide) qf_X4_29 rfl rfl dX4_isWhole_44 ?_
                  refine r_iload_n C dX4_isWhole_47 rfl ?_
                  refine m_ald (i := k) (z := 4 + k) (v := hf 4 (4 + k)) C 3 (by decide) (by decide) (show k < 4 from (by first | omega | (simp [up2, *]; done) | (simp [up2, *]; omega) | (simp only [up2_eq]; omega) | (split <;> omega))) (show 4 + k = 4 + k from (by omega)) rfl dX4_isWhole_48 ?_
                  refine r_iaddN C dX4_isWhole_49 ?_
                  refine r_aload_n C dX4_isWhole_50 rfl ?_
                  refine r_aload_n C dX4_isWhole_51 rfl ?_
                  refine m_get (v := .ref (ba 2)) C 2 (by decide) qf_X4_22 rfl rfl dX4_isWhole_52 ?_
                  refine r_iload_n C dX4_isWhole_55 rfl ?_
                  refine m_ald (i := k) (z := 4 + k) (v := hf 2 (4 + k)) C 1 (by decide) (by decide) (show k < 4 from (by first | omega | (simp [up2, *]; done) | (simp [up2, *]; omega) | (simp only [up2_eq]; omega) | (split <;> omega))) (show 4 + k = 4 + k from (by omega)) rfl dX4_isWhole_56 ?_
                  refine d_V (st := [.int (nI ((hf 3 (4 + k)) + (hf 4 (4 + k)))), .int (nI 1)]) hX.1.stb C hE (D_sizeOf (ba := ba) (ra := ra) (hf := hf) (hq := hq) (kn := kn) (th := th) (sm := sm) (Y := Y) (w := (hf 2 (4 + k))) hX q6.2.1) pk_X4_sizeOf qm_X4_59 0 8 rfl rfl wm_0 rfl rfl (Nat.le_of_ble_eq_true rfl) dX4_isWhole_57 ⟨(Nat.le_of_ble_eq_true rfl), (Nat.le_of_ble_eq_true rfl)⟩ ⟨(Nat.le_of_ble_eq_true rfl), (Nat.le_of_ble_eq_true rfl)⟩ ?_
                  refine r_w (w' := WM cy ba ra hf hq kn th sm ++ Y) rfl ?_
                  refine r_icN_gt (a := ((hf 3 (4 + k)) + (hf 4 (4 + k)))) (b := (hf 4 (hf 2 (4 + k)))) (tgt := 67) C (by first | omega | (simp [up2, *]; done) | (simp [up2, *]; omega) | (simp only [up2_eq]; omega) | (split <;> omega)) (by first | omega | (simp [up2, *]; done) | (simp [up2, *]; omega) | (simp only [up2_eq]; omega) | (split <;> omega)) dX4_isWhole_60 (by decide) (fun h60_10 => ?_) (fun h60_10 => ?_)
                  · exact absurd h60_10 (by first | omega | (simp [up2, *]; done) | (simp [up2, *]; omega) | (simp only [up2_eq]; omega) | (split <;> omega))
                  · skip
                    refine r_iconst (v := (nI 1)) C dX4_isWhole_63 (by decide) ?_
                    refine r_goto (tgt := 68) C dX4_isWhole_64 (by decide) ?_
                    refine r_iandB (a := 1) (b := 1) (v := 1) C (by first | omega | (simp [up2, *]; done) | (simp [up2, *]; omega) | (simp only [up2_eq]; omega) | (split <;> omega)) (by first | omega | (simp [up2, *]; done) | (simp [up2, *]; omega) | (simp only [up2_eq]; omega) | (split <;> omega)) rfl dX4_isWhole_68 ?_
                    refine r_istore_n C dX4_isWhole_69 (by decide) rfl ?_
                    refine r_iincN C dX4_isWhole_70 rfl (by decide) rfl ?_
                    refine r_goto (tgt := 4) C dX4_isWhole_73 (by decide) ?_
                    exact ih_L4 (k + 1) (by first | omega | (simp [up2, *]; done) | (simp [up2, *]; omega) | (simp only [up2_eq]; omega) | (split <;> omega))
  exact L4 4 0 (by first | omega | (simp [up2, *]; done) | (simp [up2, *]; omega) | (simp only [up2_eq]; omega) | (split <;> omega))
theorem pk_X4_isWhole : PkV RX4 yX4_isWhole cX4_isWhole 3 (some .boolean) 0 := ⟨⟨qi_X4_isWhole, qs_X4_isWhole, qz_X4, qc_X4_isWhole⟩, rfl, mh_X4.1, mh_X4.2, pd_27⟩
theorem dX4_isSound_0 : decode cX4_isSound 0 = .ok (.aload_n 0, 1) := dqo_42 (kb_of ke_X4_isSound 0 rfl)
theorem dX4_isSound_1 : decode cX4_isSound 1 = .ok (.iconst 0, 1) := dqo_3 (kb_of ke_X4_isSound 1 rfl)
theorem dX4_isSound_2 : decode cX4_isSound 2 = .ok (.putfield 44, 3) := dqo_181 0 44 (kb_of ke_X4_isSound 2 rfl) (kb_of ke_X4_isSound 3 rfl) (kb_of ke_X4_isSound 4 rfl)
theorem dX4_isSound_5 : decode cX4_isSound 5 = .ok (.aload_n 0, 1) := dqo_42 (kb_of ke_X4_isSound 5 rfl)
theorem dX4_isSound_6 : decode cX4_isSound 6 = .ok (.invokevirtual 208, 3) := dqo_182 0 208 (kb_of ke_X4_isSound 6 rfl) (kb_of ke_X4_isSound 7 rfl) (kb_of ke_X4_isSound 8 rfl)
theorem dX4_isSound_9 : decode cX4_isSound 9 = .ok (.ireturn, 1) := dqo_172 (kb_of ke_X4_isSound 9 rfl)
set_option maxRecDepth 100000 in
set_option maxHeartbeats 4000000 in
theorem D_isSound {l : Launch} {D : va_G} {cy : Nat → ClassId} {X : (Nat → Prop) → State → Heap → Prop} {ba ra : Nat → Nat} {hf : Nat → Nat → Nat} {hq : Nat → Nat → Int32} {kn th : Int32} {sm : Int64} {Y : va_W} {f : Nat → Nat → Nat} {r : Nat → Nat → Int32}  (hX : EnvM X cy) (hC : CInv f) (hM : MR f r hf hq) : Cd l D cy X yX4_isSound cX4_isSound 1 (some .boolean) (rmz 2 60) [.ref (ba 9)] (WM cy ba ra hf hq kn th sm ++ Y) (some (.int (nI 1))) (WM cy ba ra hf hq kn (nI 0) sm ++ Y) := by
  have hG := hM.1
  have h5M := hM.h5M hC
  have h4M := hC.h4M
  have h9a := hM.h9a hC
  have h6a := hM.h6a
  have hU := hM.hU hC
  refine Cm.of [some (.ref (ba 9))] pn_X4 rfl (Nat.le_of_ble_eq_true rfl) ?_
  intro p e s m args below meth c A C hE hr hnt hn
  refine r_aload_n C dX4_isSound_0 rfl ?_
  refine r_iconst (v := (nI 0)) C dX4_isSound_1 (by decide) ?_
  refine m_putT C qf_X4_44 dX4_isSound_2 ?_
  refine r_aload_n C dX4_isSound_5 rfl ?_
  refine d_V (st := []) hX.1.stb C hE (D_isWhole (ba := ba) (ra := ra) (hf := hf) (hq := hq) (kn := kn) (th := (nI 0)) (sm := sm) (Y := Y) (f := f)  hX hC hM) pk_X4_isWhole qm_X4_208 0 8 rfl rfl wm_0 rfl rfl (Nat.le_of_ble_eq_true rfl) dX4_isSound_6 ⟨(Nat.le_of_ble_eq_true rfl), (Nat.le_of_ble_eq_true rfl)⟩ ⟨(Nat.le_of_ble_eq_true rfl), (Nat.le_of_ble_eq_true rfl)⟩ ?_
  refine r_w (w' := WM cy ba ra hf hq kn (nI 0) sm ++ Y) rfl ?_
  exact r_zret C hr (by first | omega | (simp [up2, *]; done) | (simp [up2, *]; omega) | (simp only [up2_eq]; omega) | (split <;> omega)) dX4_isSound_9 ⟨rfl, rfl⟩ (Nat.le_of_ble_eq_true rfl) (Nat.le_of_ble_eq_true rfl)
end PT_54
/-! ===== 55.text0 -/
section PT_55
/-! ROWS FOR TEXTS -/
def pvk : Cond → Bool
  | .privateMethod _ => true
  | _ => false
def PVL : List Cond := tables_1.filter pvk
theorem pv_t {w : Cond} (i : Nat) (h : tables_1[i]? = some w) (g : pvk w = true) : w ∈ PVL := List.mem_filter.mpr ⟨List.mem_of_getElem? h, g⟩
theorem qo_J4x : Cond.instantiable RJ4 4 ∈ GW := gw_2 66 rfl rfl
theorem qp_J4 : Cond.superclass RJ4 RJ5 ∈ GW := gw_2 96 rfl rfl
theorem qr_J5_appendNull_278bc : Cond.privateMethod yJ5_appendNull_278bc ∈ PVL := List.mem_filter.mpr ⟨(gm_2 124 rfl), rfl⟩
theorem qr_J5_ensureCapacityInternal_d00df : Cond.privateMethod yJ5_ensureCapacityInternal_d00df ∈ PVL := List.mem_filter.mpr ⟨(gm_2 128 rfl), rfl⟩
theorem qr_J5_newCapacity_0f7a4 : Cond.privateMethod yJ5_newCapacity_0f7a4 ∈ PVL := List.mem_filter.mpr ⟨(gm_2 132 rfl), rfl⟩
theorem qm_clone : Cond.methodLink RJ7 310 ⟨"[B", "clone", "()Ljava/lang/Object;"⟩ ∈ GW := gw_2 149 rfl rfl
theorem qe_clone : Cond.sameMethod "[B" "java/lang/Object" "clone" "()Ljava/lang/Object;" ∈ GW := gw_2 150 rfl rfl
theorem qv_clone : Cond.native ⟨"java/lang/Object", "clone", "()Ljava/lang/Object;"⟩ ∈ GW := gw_2 151 rfl rfl
theorem qi_clone : Cond.instanceMethod ⟨"java/lang/Object", "clone", "()Ljava/lang/Object;"⟩ ∈ GW := gw_2 152 rfl rfl
theorem qs_clone : Cond.selects "[B" ⟨"[B", "clone", "()Ljava/lang/Object;"⟩ ⟨"java/lang/Object", "clone", "()Ljava/lang/Object;"⟩ ∈ GW := gw_2 153 rfl rfl
theorem qn_clone : Cond.castable "[B" "java/lang/Cloneable" ∈ NWL := List.mem_filter.mpr ⟨(gm_2 154 rfl), rfl⟩
theorem qk_B : Cond.classLink RJ7 311 "[B" ∈ GW := gw_2 155 rfl rfl
theorem qe_J5_isLatin1_aae02 : Cond.sameMethod yJ5_isLatin1_aae02.cls yJ5_isLatin1_aae02.cls yJ5_isLatin1_aae02.name yJ5_isLatin1_aae02.desc ∈ GW := gw_2 162 rfl rfl
theorem qs_J5_isLatin1_aae02 : Cond.selects RJ4 yJ5_isLatin1_aae02 yJ5_isLatin1_aae02 ∈ GW := gw_2 163 rfl rfl
theorem qr_J5_putStringAt_47b60 : Cond.privateMethod yJ5_putStringAt_47b60 ∈ PVL := List.mem_filter.mpr ⟨(gm_2 201 rfl), rfl⟩
theorem qr_J5_inflateIfNeededFor_a7421 : Cond.privateMethod yJ5_inflateIfNeededFor_a7421 ∈ PVL := List.mem_filter.mpr ⟨(gm_2 205 rfl), rfl⟩
theorem qr_J5_inflate_da8c8 : Cond.privateMethod yJ5_inflate_da8c8 ∈ PVL := List.mem_filter.mpr ⟨(gm_2 210 rfl), rfl⟩
theorem qe_J5_getValue_6d5f1 : Cond.sameMethod yJ5_getValue_6d5f1.cls yJ5_getValue_6d5f1.cls yJ5_getValue_6d5f1.name yJ5_getValue_6d5f1.desc ∈ GW := gw_3 34 rfl rfl
theorem qs_J5_getValue_6d5f1 : Cond.selects RJ4 yJ5_getValue_6d5f1 yJ5_getValue_6d5f1 ∈ GW := gw_3 35 rfl rfl
theorem qe_J5_length_8abf5 : Cond.sameMethod yJ5_length_8abf5.cls yJ5_length_8abf5.cls yJ5_length_8abf5.name yJ5_length_8abf5.desc ∈ GW := gw_3 39 rfl rfl
theorem qs2_length : Cond.selects RJ4 yJ5_length_8abf5 yJ4_length_8abf5 ∈ GW := gw_3 40 rfl rfl
theorem qe_J5_setLength_d00df : Cond.sameMethod yJ5_setLength_d00df.cls yJ5_setLength_d00df.cls yJ5_setLength_d00df.name yJ5_setLength_d00df.desc ∈ GW := gw_7 115 rfl rfl
theorem qe_J5_append_cf1ce : Cond.sameMethod yJ5_append_cf1ce.cls yJ5_append_cf1ce.cls yJ5_append_cf1ce.name yJ5_append_cf1ce.desc ∈ GW := gw_7 116 rfl rfl
theorem qe_J5_appendNull_278bc : Cond.sameMethod yJ5_appendNull_278bc.cls yJ5_appendNull_278bc.cls yJ5_appendNull_278bc.name yJ5_appendNull_278bc.desc ∈ GW := gw_7 117 rfl rfl
theorem qe_J5_ensureCapacityInternal_d00df : Cond.sameMethod yJ5_ensureCapacityInternal_d00df.cls yJ5_ensureCapacityInternal_d00df.cls yJ5_ensureCapacityInternal_d00df.name yJ5_ensureCapacityInternal_d00df.desc ∈ GW := gw_7 118 rfl rfl
theorem qe_J5_newCapacity_0f7a4 : Cond.sameMethod yJ5_newCapacity_0f7a4.cls yJ5_newCapacity_0f7a4.cls yJ5_newCapacity_0f7a4.name yJ5_newCapacity_0f7a4.desc ∈ GW := gw_7 119 rfl rfl
theorem qe_J5_putStringAt_47b60 : Cond.sameMethod yJ5_putStringAt_47b60.cls yJ5_putStringAt_47b60.cls yJ5_putStringAt_47b60.name yJ5_putStringAt_47b60.desc ∈ GW := gw_7 120 rfl rfl
theorem qe_J5_inflateIfNeededFor_a7421 : Cond.sameMethod yJ5_inflateIfNeededFor_a7421.cls yJ5_inflateIfNeededFor_a7421.cls yJ5_inflateIfNeededFor_a7421.name yJ5_inflateIfNeededFor_a7421.desc ∈ GW := gw_7 121 rfl rfl
theorem qe_J5_inflate_da8c8 : Cond.sameMethod yJ5_inflate_da8c8.cls yJ5_inflate_da8c8.cls yJ5_inflate_da8c8.name yJ5_inflate_da8c8.desc ∈ GW := gw_7 122 rfl rfl
theorem qe_J5_append_c97b9 : Cond.sameMethod yJ5_append_c97b9.cls yJ5_append_c97b9.cls yJ5_append_c97b9.name yJ5_append_c97b9.desc ∈ GW := gw_7 123 rfl rfl
theorem qe_J5_append_3fe6f : Cond.sameMethod yJ5_append_3fe6f.cls yJ5_append_3fe6f.cls yJ5_append_3fe6f.name yJ5_append_3fe6f.desc ∈ GW := gw_7 124 rfl rfl
/-! texts: a builder, its bytes, a String -/
abbrev SBO (b v : Nat) (ml : Int32) (n : Nat) : Nat × va_E := (b, .inr (1, [.ref v, .int (nI 0), .int ml, .int (nI n)]))
abbrev BYO (cy : Nat → ClassId) (v m : Nat) (g : Nat → Int32) : Nat × va_E := (v, .inl (cy 0, m, .inl g))
abbrev STO (b v : Nat) (h z : Int32) : Nat × va_E := (b, .inr (0, [.ref v, .int (nI 0), .int h, .int z]))
def KSL : List (String × Nat × String) := [("Splicemonoid$Part", 75, ", "), ("SplicemonoidModel", 151, ""), ("SplicemonoidModel", 166, ", "), ("SplicemonoidModel", 175, "["), ("SplicemonoidModel", 177, "]")]
def KSN : List Nat := [2, 0, 2, 1, 1]
def KSB : List (List Int32) := [[44, 32], [], [44, 32], [91], [93]]
/-- a constant's object, its coder, its bytes, each for itself: two of one text are one object -/
def KS1 (N : Nat) (aK aV : Nat → Nat) (A : Nat → Prop) (U : State) (H : Heap) : Prop := ∀ i : Nat, i < N → vk_S 1 [KSN.getD i 0] [KSB.getD i []] (fun _ => aK i) (fun _ => aV i) A U H
theorem ks_at {N : Nat} {aK aV : Nat → Nat} {A : Nat → Prop} {U : State} {H : Heap} (h : KS1 N aK aV A U H) {i : Nat} (hi : i < N) : va_O "java/lang/String" (aK i) A U H ∧ va_OF "java/lang/String" "coder" "B" (.int 0) (aK i) A U H ∧ va_OF "java/lang/String" "value" "[B" (.ref (aV i)) (aK i) A U H ∧ va_T .byte (aV i) (KSN.getD i 0) (fun j => .int ((KSB.getD i []).getD j 0)) A U H := (h i hi).1 0 (by decide)
/-- what is known beside EnvM: these constants, compact strings, the digits -/
def EnvS (X : (Nat → Prop) → State → Heap → Prop) (cy : Nat → ClassId) (aK aV : Nat → Nat) (tO tT : Nat) (gO gT : Nat → Int32) : Prop := EnvM X cy ∧ (∀ (A : Nat → Prop) (U : State) (H : Heap), X A U H → KS1 5 aK aV A U H ∧ (∀ (i : Nat) (q : String × Nat × String), KSL[i]? = some q → vk_R q.1 q.2.1 q.2.2 (aK i) U) ∧ va_Z "java/lang/String" "COMPACT_STRINGS" "Z" (.int 1) A U H ∧ va_Z "java/lang/Integer" "DigitOnes" "[B" (.ref tO) A U H ∧ va_T .byte tO 100 (fun j => .int (gO j)) A U H ∧ va_Z "java/lang/Integer" "DigitTens" "[B" (.ref tT) A U H ∧ va_T .byte tT 100 (fun j => .int (gT j)) A U H) ∧ ∀ w ∈ PVL, ∀ (A : Nat → Prop) (U : State) (H : Heap), X A U H → va_Nw w U
theorem us_s {U E : va_W} (k : Nat) (e : Nat × va_E) : (U ++ E).set (U.length + k) e = U ++ E.set k e := by
  rw [List.set_append_right _ _ (by omega), show U.length + k - U.length = k by omega]
theorem j_priv {C : String} {x y : MethodName} {s : State} {args : Array Value} {n : Nat} (hy : y.cls ≠ "java/lang/invoke/MethodHandle" ∧ y.cls ≠ "java/lang/invoke/VarHandle") (hx : x.cls ≠ "java/lang/invoke/MethodHandle" ∧ x.cls ≠ "java/lang/invoke/VarHandle") (hxy : x.cls = y.cls)
    (hsx : (Cond.selects C x x).before args s = true) (hix : (Cond.instanceMethod x).before args s = true)
    (hins : (Cond.instantiable C n).before args s = true) (hpriv : (Cond.privateMethod y).before args s = true) (hinst : (Cond.instanceMethod y).before args s = true) :
    (Cond.selects C y y).before args s = true := by
  obtain ⟨c, k, hc, hk, -, hniab, -, -⟩ := Cond.instantiable_spec hins
  obtain ⟨mk, methM, hnamed, hmethM, -, -⟩ := Cond.instanceMethod_spec hinst
  obtain ⟨mx, methX, hnamedx, hmethX, -, -⟩ := Cond.instanceMethod_spec hix
  have hfound : s.methodFound? y.cls y.name y.desc = some mk := State.methodFound?_of_named hnamed hy
  have hfoundx : s.methodFound? x.cls x.name x.desc = some mx := State.methodFound?_of_named hnamedx hx
  have hsel : selectMethod {} s.vm c mk = .method mk := selectMethod_private hmethM (Cond.privateMethod_at hpriv mk methM hnamed hmethM)
  have hcl : mk.cls = mx.cls := Option.some.inj ((findClass_of_methodNamed hnamed).symm.trans ((congrArg s.vm.findClass hxy.symm).trans (findClass_of_methodNamed hnamedx)))
  simp only [Cond.before, Cond.holds, Cond.value, hc, hfoundx, hnamedx, hk] at hsx
  simp only [Cond.before, Cond.holds, Cond.value, hc, hfound, hnamed, hsel, hk]
  rw [hcl]
  split at hsx
  · have h4 := ((Bool.and_eq_true _ _).mp (Option.some.inj (beq_iff_eq.mp hsx))).2
    rw [h4]
    simp
  · cases hsx
section TXR
variable {p : Program} {l : Launch} {e : Env} {R : Room} {s : State} {m : MethodId} {args : Array Value} {below : List Frame} {meth : Method} {c : Code} {D : va_G} {cy : Nat → ClassId} {A : Nat → Prop} {Q : State → Prop} {nL cells slots : Nat} {lv : List (Option Value)} {pc : Nat} {st : List Value} {cc : ByteArray} {own : String} {X : (Nat → Prop) → State → Heap → Prop} {w : va_W} {aK aV : Nat → Nat} {tO tT : Nat} {gO gT : Nat → Int32}
theorem g_bst (C : Fg p s m args meth c cc nL own D cy A) {b n i : Nat} {f : Nat → Int32} {x : Int32} (q0 : Nat) (he : w[q0]? = some (b, .inl (cy 0, n, .inl f))) (hi : i < n) (hn : n < 2147483648) (d : decode cc pc = .ok (.bastore, 1)) {w' : va_W} (hw : w.set q0 (b, .inl (cy 0, n, .inl (upd f i (vp_nar .byte x)))) = w') (kk : vW p l e R s m args below meth c D vwCl A Q nL cells slots w' lv (pc + 1) st) : vW p l e R s m args below meth c D vwCl A Q nL cells slots w lv pc (.int x :: .int (nI i) :: .ref b :: st) := fun H locs ls hP hD hS hl =>
  va_bast C.1 C.2.1 C.2.2.2.2.2.1 hP hD hS q0 0 he rfl (vp_in_nI hi hn) d (fun H1 locs1 hP hD hS => by
    rw [nI_clamp (by omega)] at hP hD
    exact kk H1 locs1 ls (hw ▸ hP) (hw ▸ hD) hS hl)
theorem bf_up {f : Nat → Int32} {i : Nat} {x : Int32} (h : sb_Fit f) : sb_Fit (upd f i (vp_nar .byte x)) := sb_fitU h (by rw [vp_nar_byte]; exact pk_fb x)
/-- bytes from one array to another -/
theorem g_bcp (C : Fg p s m args meth c cc nL own D cy A) {index a0 a1 n0 n1 sp dp n : Nat} {f g : Nat → Int32} (q0 q1 : Nat) (hq : Cond.methodLink own index arraycopyName ∈ GW) (he0 : w[q0]? = some (a0, .inl (cy 0, n0, .inl f))) (he1 : w[q1]? = some (a1, .inl (cy 0, n1, .inl g))) (hfit : sb_Fit f) (hsp : sp + n ≤ n0) (hdp : dp + n ≤ n1) (hn0 : n0 < 2147483648) (hn1 : n1 < 2147483648) (hf : 1 ≤ R.frames) (hlo : (st.map fun v => v.category).sum + (nativeFrameWords "java/lang/System" "arraycopy" 5 + 11) ≤ R.locals) (d : decode cc pc = .ok (.invokestatic index, 3)) {w' : va_W} (hw : w.set q1 (a1, .inl (cy 0, n1, .inl (va_cpy f g sp dp n))) = w')
    (kk : vW p l e R s m args below meth c D vwCl A Q nL cells slots w' lv (pc + 3) st) : vW p l e R s m args below meth c D vwCl A Q nL cells slots w lv pc (.int (nI n) :: .int (nI dp) :: .ref a1 :: .int (nI sp) :: .ref a0 :: st) := fun H locs ls hP hD hS hl => by
  have c0 : (nI sp).toNatClampNeg = sp := nI_clamp (by omega)
  have c1 : (nI dp).toNatClampNeg = dp := nI_clamp (by omega)
  have c2 : (nI n).toNatClampNeg = n := nI_clamp (by omega)
  refine va_copyi C.1 C.2.1 (C.2.2.1.trans hl.1.symm) C.2.2.2.1 (C.2.2.2.2.1 _ hq) (C.2.2.2.2.1 _ qv_arraycopyName) (C.2.2.2.2.1 _ qt_arraycopyName) (C.2.2.2.2.1 _ qz_J10) C.2.2.2.2.2.1 hP hD hS q0 q1 0 0 he0 he1 rfl rfl rfl (nI_pos (by omega)) (nI_pos (by omega)) (nI_pos (by omega)) (by rw [c0, c2]; exact hsp) (by rw [c1, c2]; exact hdp) (fun _ _ => hfit _) hf hlo d (fun H1 locs1 hP hD hS => ?_)
  rw [c0, c1, c2] at hP hD
  exact kk H1 locs1 ls (hw ▸ hP) (hw ▸ hD) hS hl
/-- bytes of a constant's -/
theorem k_bcp (hX : EnvS X cy aK aV tO tT gO gT) (C : Fg p s m args meth c cc nL own D cy A) (hE : X A s s.heap) {index a1 n1 dp i : Nat} {g : Nat → Int32} (q1 : Nat) (hi : i < KSN.length) (hq : Cond.methodLink own index arraycopyName ∈ GW) (he1 : w[q1]? = some (a1, .inl (cy 0, n1, .inl g))) (hdp : dp + KSN.getD i 0 ≤ n1) (hn1 : n1 < 2147483648) (hf : 1 ≤ R.frames) (hlo : (st.map fun v => v.category).sum + (nativeFrameWords "java/lang/System" "arraycopy" 5 + 11) ≤ R.locals) (d : decode cc pc = .ok (.invokestatic index, 3)) {w' : va_W} (hw : w.set q1 (a1, .inl (cy 0, n1, .inl (va_cpy (fun j => (KSB.getD i []).getD j 0) g 0 dp (KSN.getD i 0)))) = w')
    (kk : vW p l e R s m args below meth c D vwCl A Q nL cells slots w' lv (pc + 3) st) : vW p l e R s m args below meth c D vwCl A Q nL cells slots w lv pc (.int (nI (KSN.getD i 0)) :: .int (nI dp) :: .ref a1 :: .int (nI 0) :: .ref (aV i) :: st) := fun H locs ls hP hD hS hl => by
  have hlen : KSN.getD i 0 < 100 := by
    have : ∀ j, j < KSN.length → KSN.getD j 0 < 100 := by decide
    exact this i hi
  have c0 : (nI 0).toNatClampNeg = 0 := nI_clamp (by omega)
  have c1 : (nI dp).toNatClampNeg = dp := nI_clamp (by omega)
  have c2 : (nI (KSN.getD i 0)).toNatClampNeg = KSN.getD i 0 := nI_clamp (by omega)
  have hT := (ks_at (hX.2.1 A s s.heap hE).1 hi).2.2.2
  refine vk_copyt C.1 C.2.1 (C.2.2.1.trans hl.1.symm) C.2.2.2.1 (C.2.2.2.2.1 _ hq) (C.2.2.2.2.1 _ qv_arraycopyName) (C.2.2.2.2.1 _ qt_arraycopyName) (C.2.2.2.2.1 _ qz_J10) C.2.2.2.2.2.1 hP hD hS hT q1 0 he1 rfl (nI_pos (by omega)) (nI_pos (by omega)) (nI_pos (by omega)) (by rw [c0, c2]; omega) (by rw [c1, c2]; exact hdp) (fun j hj => ?_) hf hlo d (fun H1 locs1 hP hD hS => ?_)
  · rw [c2] at hj
    rw [c0, Nat.zero_add]
    have hall : ∀ i, i < KSN.length → ∀ j, j < KSN.getD i 0 → fits .byte (.int ((KSB.getD i []).getD j 0)) = true := by decide
    exact hall i hi j hj
  · rw [c0, c1, c2] at hP hD
    exact kk H1 locs1 ls (hw ▸ hP) (hw ▸ hD) hS hl
theorem kb_fit {i dp : Nat} {g : Nat → Int32} (hi : i < KSN.length) (hg : sb_Fit g) : sb_Fit (va_cpy (fun j => (KSB.getD i []).getD j 0) g 0 dp (KSN.getD i 0)) := by
  have hall : ∀ i, i < KSN.length → ∀ j, j < KSN.getD i 0 → fits .byte (.int ((KSB.getD i []).getD j 0)) = true := by decide
  intro q
  unfold va_cpy
  split
  · rename_i h
    have h2 : 0 + (q - dp) < KSN.getD i 0 := by omega
    exact hall i hi _ h2
  · exact hg q
/-- statics -/
theorem j_cs (hX : EnvS X cy aK aV tO tT gO gT) (C : Fg p s m args meth c cc nL own D cy A) (hE : X A s s.heap) {index : Nat} (hq : Cond.fieldLink own index "java/lang/String" "COMPACT_STRINGS" "Z" ∈ GW) (d : decode cc pc = .ok (.getstatic index, 3)) (kk : vW p l e R s m args below meth c D vwCl A Q nL cells slots w lv (pc + 3) (.int (nI 1) :: st)) : vW p l e R s m args below meth c D vwCl A Q nL cells slots w lv pc st := fun H locs ls hP hD hS hl =>
  va_gets C.1 C.2.1 (hX.2.1 A s s.heap hE).2.2.1 hS C.2.2.2.1 (C.2.2.2.2.1 _ hq) (fun _ h => h) d (kk H locs ls hP hD hS hl)
theorem j_do (hX : EnvS X cy aK aV tO tT gO gT) (C : Fg p s m args meth c cc nL own D cy A) (hE : X A s s.heap) {index : Nat} (hq : Cond.fieldLink own index "java/lang/Integer" "DigitOnes" "[B" ∈ GW) (d : decode cc pc = .ok (.getstatic index, 3)) (kk : vW p l e R s m args below meth c D vwCl A Q nL cells slots w lv (pc + 3) (.ref tO :: st)) : vW p l e R s m args below meth c D vwCl A Q nL cells slots w lv pc st := fun H locs ls hP hD hS hl =>
  va_gets C.1 C.2.1 (hX.2.1 A s s.heap hE).2.2.2.1 hS C.2.2.2.1 (C.2.2.2.2.1 _ hq) (fun _ h => h) d (kk H locs ls hP hD hS hl)
theorem j_dt (hX : EnvS X cy aK aV tO tT gO gT) (C : Fg p s m args meth c cc nL own D cy A) (hE : X A s s.heap) {index : Nat} (hq : Cond.fieldLink own index "java/lang/Integer" "DigitTens" "[B" ∈ GW) (d : decode cc pc = .ok (.getstatic index, 3)) (kk : vW p l e R s m args below meth c D vwCl A Q nL cells slots w lv (pc + 3) (.ref tT :: st)) : vW p l e R s m args below meth c D vwCl A Q nL cells slots w lv pc st := fun H locs ls hP hD hS hl =>
  va_gets C.1 C.2.1 (hX.2.1 A s s.heap hE).2.2.2.2.2.1 hS C.2.2.2.1 (C.2.2.2.2.1 _ hq) (fun _ h => h) d (kk H locs ls hP hD hS hl)
theorem j_dol (hX : EnvS X cy aK aV tO tT gO gT) (C : Fg p s m args meth c cc nL own D cy A) (hE : X A s s.heap) {i : Nat} (hi : i < 100) (d : decode cc pc = .ok (.baload, 1)) (kk : vW p l e R s m args below meth c D vwCl A Q nL cells slots w lv (pc + 1) (.int (gO i) :: st)) : vW p l e R s m args below meth c D vwCl A Q nL cells slots w lv pc (.int (nI i) :: .ref tO :: st) := fun H locs ls hP hD hS hl =>
  va_tb C.1 C.2.1 (hX.2.1 A s s.heap hE).2.2.2.2.1 hS (vp_in_nI hi (by omega)) (by rw [nI_clamp (by omega)]) d (kk H locs ls hP hD hS hl)
theorem j_dtl (hX : EnvS X cy aK aV tO tT gO gT) (C : Fg p s m args meth c cc nL own D cy A) (hE : X A s s.heap) {i : Nat} (hi : i < 100) (d : decode cc pc = .ok (.baload, 1)) (kk : vW p l e R s m args below meth c D vwCl A Q nL cells slots w lv (pc + 1) (.int (gT i) :: st)) : vW p l e R s m args below meth c D vwCl A Q nL cells slots w lv pc (.int (nI i) :: .ref tT :: st) := fun H locs ls hP hD hS hl =>
  va_tb C.1 C.2.1 (hX.2.1 A s s.heap hE).2.2.2.2.2.2 hS (vp_in_nI hi (by omega)) (by rw [nI_clamp (by omega)]) d (kk H locs ls hP hD hS hl)
/-- constants -/
theorem j_ldc (C : Fg p s m args meth c cc nL own D cy A) {index : Nat} {v : Int32} (hq : Cond.constant own index v ∈ GW) (d : decode cc pc = .ok (.ldc index, 2)) (kk : vW p l e R s m args below meth c D vwCl A Q nL cells slots w lv (pc + 2) (.int v :: st)) : vW p l e R s m args below meth c D vwCl A Q nL cells slots w lv pc st := fun H locs ls hP hD hS hl =>
  lv_ldc C.1 C.2.1 C.2.2.2.1 (C.2.2.2.2.1 _ hq) d (kk H locs ls hP hD hS hl)
theorem j_ldcS (hX : EnvS X cy aK aV tO tT gO gT) (C : Fg p s m args meth c cc nL own D cy A) (hE : X A s s.heap) {index i : Nat} {tx : String} (hi : KSL[i]? = some (own, index, tx)) (d : decode cc pc = .ok (.ldc index, 2)) (kk : vW p l e R s m args below meth c D vwCl A Q nL cells slots w lv (pc + 2) (.ref (aK i) :: st)) : vW p l e R s m args below meth c D vwCl A Q nL cells slots w lv pc st := fun H locs ls hP hD hS hl =>
  va_ldcS C.1 C.2.1 C.2.2.2.1 (show vk_R own index tx (aK i) s from (hX.2.1 A s s.heap hE).2.1 i (own, index, tx) hi) d (kk H locs ls hP hD hS hl)
theorem j_null (C : Fg p s m args meth c cc nL own D cy A) (d : decode cc pc = .ok (.aconst_null, 1)) (kk : vW p l e R s m args below meth c D vwCl A Q nL cells slots w lv (pc + 1) (.null :: st)) : vW p l e R s m args below meth c D vwCl A Q nL cells slots w lv pc st := fun H locs ls hP hD hS hl =>
  lv_null C.1 C.2.1 d (kk H locs ls hP hD hS hl)
/-- a constant's fields -/
theorem k_val (hX : EnvS X cy aK aV tO tT gO gT) (C : Fg p s m args meth c cc nL own D cy A) (hE : X A s s.heap) {index i : Nat} (hi : i < KSN.length) (hq : Cond.fieldLink own index "java/lang/String" "value" "[B" ∈ GW) (d : decode cc pc = .ok (.getfield index, 3)) (kk : vW p l e R s m args below meth c D vwCl A Q nL cells slots w lv (pc + 3) (.ref (aV i) :: st)) : vW p l e R s m args below meth c D vwCl A Q nL cells slots w lv pc (.ref (aK i) :: st) := fun H locs ls hP hD hS hl =>
  vk_getf C.1 C.2.1 (ks_at (hX.2.1 A s s.heap hE).1 hi).2.2.1 hS C.2.2.2.1 (C.2.2.2.2.1 _ hq) (fun _ h => h) d (kk H locs ls hP hD hS hl)
theorem k_cod (hX : EnvS X cy aK aV tO tT gO gT) (C : Fg p s m args meth c cc nL own D cy A) (hE : X A s s.heap) {index i : Nat} (hi : i < KSN.length) (hq : Cond.fieldLink own index "java/lang/String" "coder" "B" ∈ GW) (d : decode cc pc = .ok (.getfield index, 3)) (kk : vW p l e R s m args below meth c D vwCl A Q nL cells slots w lv (pc + 3) (.int (nI 0) :: st)) : vW p l e R s m args below meth c D vwCl A Q nL cells slots w lv pc (.ref (aK i) :: st) := fun H locs ls hP hD hS hl =>
  vk_getf C.1 C.2.1 (ks_at (hX.2.1 A s s.heap hE).1 hi).2.1 hS C.2.2.2.1 (C.2.2.2.2.1 _ hq) (fun _ h => h) d (kk H locs ls hP hD hS hl)
/-- a constant's length -/
theorem k_len (hX : EnvS X cy aK aV tO tT gO gT) (C : Fg p s m args meth c cc nL own D cy A) (hE : X A s s.heap) {i : Nat} (hi : i < KSN.length) (d : decode cc pc = .ok (.arraylength, 1)) (kk : vW p l e R s m args below meth c D vwCl A Q nL cells slots w lv (pc + 1) (.int (nI (KSN.getD i 0)) :: st)) : vW p l e R s m args below meth c D vwCl A Q nL cells slots w lv pc (.ref (aV i) :: st) := fun H locs ls hP hD hS hl =>
  va_tlen C.1 C.2.1 (ks_at (hX.2.1 A s s.heap hE).1 hi).2.2.2 hS rfl d (kk H locs ls hP hD hS hl)
end TXR
end PT_55
/-! ===== 56.text1 -/
section PT_56
/-! ROWS FOR TEXTS, CALLS -/
theorem us_g {U L : va_W} {k : Nat} {e : Nat × va_E} (h : L[k]? = some e) : (U ++ L)[U.length + k]? = some e := by
  rw [List.getElem?_append_right (by omega), show U.length + k - U.length = k by omega]
  exact h
theorem us_t {U L L' : va_W} {k : Nat} {e : Nat × va_E} (h : L.set k e = L') : (U ++ L).set (U.length + k) e = U ++ L' := by rw [us_s, h]
/-- a method of the builder's class above, that a builder runs -/
def PkU (y : MethodName) (bytes : ByteArray) (maxL : Nat) (ret : Option FieldType) (n : Nat) : Prop :=
  (Cond.sameMethod y.cls y.cls y.name y.desc ∈ GW ∧ Cond.instanceMethod y ∈ GW ∧ Cond.code y bytes maxL ret ∈ GW) ∧ (Cond.selects RJ4 y y ∈ GW ∨ Cond.privateMethod y ∈ PVL) ∧ y.cls = RJ5 ∧ y.name ≠ "<init>" ∧ (parseMethodDescriptor y.desc).map (fun d => d.parameters.length) = some n
/-- the same, by super -/
def PkSU (y : MethodName) (bytes : ByteArray) (maxL : Nat) (ret : Option FieldType) (n : Nat) : Prop :=
  (Cond.sameMethod y.cls y.cls y.name y.desc ∈ GW ∧ Cond.instanceMethod y ∈ GW ∧ Cond.code y bytes maxL ret ∈ GW) ∧ y.cls = RJ5 ∧ y.name ≠ "<init>" ∧ (parseMethodDescriptor y.desc).map (fun d => d.parameters.length) = some n
section TX1
variable {p : Program} {l : Launch} {e : Env} {R : Room} {s : State} {m : MethodId} {args : Array Value} {below : List Frame} {meth : Method} {c : Code} {D : va_G} {cy : Nat → ClassId} {A : Nat → Prop} {Q : State → Prop} {nL cells slots : Nat} {lv : List (Option Value)} {pc : Nat} {st : List Value} {cc : ByteArray} {own : String} {X : (Nat → Prop) → State → Heap → Prop} {w : va_W} {aK aV : Nat → Nat} {tO tT : Nat} {gO gT : Nat → Int32}
variable {y : MethodName} {bytes : ByteArray} {maxL index n b : Nat} {ret : Option FieldType} {rm : Room} {As st0 : List Value} {post : Option Value → va_W → Prop} {px : String → Prop} {U L L' : va_W}
theorem cw_U (hP : ∀ w ∈ PVL, w.before args s = true) (ht : ∀ w ∈ GW, w.before args s = true) (pk : PkU y bytes maxL ret n) (qm : Cond.methodLink own index y ∈ GW) (hR : rm.frames + 1 ≤ R.frames ∧ 8 + (maxL + 11) + rm.locals ≤ R.locals) : va_CU R s args own RJ4 RJ5 index y y bytes maxL ret (Cond.code y bytes maxL ret :: GW) rm rm.cells rm.slots n := by
  obtain ⟨⟨q1, q2, q3⟩, q4, q5, -, q6⟩ := pk
  have hG := gw_cons q3
  have hmh : RJ5 ≠ "java/lang/invoke/MethodHandle" ∧ RJ5 ≠ "java/lang/invoke/VarHandle" := by decide +kernel
  refine ⟨⟨rfl, rfl, hR.1, hR.2, pay_in ht hG, List.mem_cons_self⟩, ht _ q3, ?_, hmh, fun sig h => ?_, ht _ qm, ?_, ?_, ?_, ht _ q2⟩
  · rw [q5]; exact ht _ qz_J5
  · rw [h] at q6
    exact (Option.some.inj q6).symm
  · rw [← q5]; exact ht _ q1
  · rw [← q5]; exact va_Decl.of (ht _ q2) (ht _ q3)
  · rcases q4 with q4 | q4
    · exact ht _ q4
    · exact j_priv (x := yJ5_isLatin1_aae02) (by rw [q5]; exact hmh) (by decide +kernel) (by rw [q5]; rfl) (ht _ qs_J5_isLatin1_aae02) (ht _ qi_J5_isLatin1_aae02) (ht _ qo_J4x) (hP _ q4) (ht _ q2)
theorem EnvS.pv (hX : EnvS X cy aK aV tO tT gO gT) (hE : X A s s.heap) : ∀ w ∈ PVL, w.before args s = true := fun w hw => va_Nw.use (by
  have := (List.mem_filter.mp hw).2
  cases w <;> first | rfl | (simp [pvk] at this)) (hX.2.2 w hw A s s.heap hE)
theorem EnvS.stb (hX : EnvS X cy aK aV tO tT gO gT) : Stb X := hX.1.1.stb
/-- an inherited or private method of the class above, on a builder -/
theorem c_U (hX : EnvS X cy aK aV tO tT gO gT) (C : Fg p s m args meth c cc nL own D cy A) (hE : X A s s.heap) (ct : Cm l D cy X y bytes maxL ret rm (.ref b :: As) w post px) (pk : PkU y bytes maxL ret n) (qm : Cond.methodLink own index y ∈ GW)
    (q0 : Nat) {fs : List Value} (he : w[q0]? = some (b, .inr (1, fs))) (hn : As.length = n) (hstack : st0 = As.reverse ++ .ref b :: st) (hcat : (st.map fun v => v.category).sum ≤ 8)
    (d : decode cc pc = .ok (.invokevirtual index, 3)) (hR : rm.frames + 1 ≤ R.frames ∧ 8 + (maxL + 11) + rm.locals ≤ R.locals) (hf : cells + rm.cells ≤ R.cells ∧ slots + rm.slots ≤ R.slots)
    (kk : ∀ (v : Option Value) (w' : va_W), post v w' → vW p l e R s m args below meth c D vwCl A Q nL (cells + rm.cells) (slots + rm.slots) w' lv (pc + 3) (v.toList ++ st))
    (kx : ∀ E : String, px E → vX p l e R s m args below meth c D vwCl A Q nL (cells + rm.cells) (slots + rm.slots) w lv pc st E) : vW p l e R s m args below meth c D vwCl A Q nL cells slots w lv pc st0 :=
  r_run C (fun H locs ls hP hD hS hl => vx_runU (As := As) (rest := st) (g := F0 m pc ls st0) ⟨C.1, C.2.1, C.2.2.1, C.2.2.2.1, C.2.2.2.2.1⟩ (ct H.size) (cw_U (hX.pv hE) C.2.2.2.2.1 pk qm hR) ⟨vPre_blind hX.stb _ _ _, va_recv C.2.2.2.2.2.1 hP (ci := 1) (q := (RJ4, TJ4, 4)) rfl he, fun U hU hW => ⟨rfl, vPre_at hX.stb C hE hP hD hS U hU hW⟩⟩ rfl hn hl.1 hstack (lv_room hcat) d hf) kk kx
/-- length() of the class above, on a builder: the builder's own is run -/
theorem c_UL (hX : EnvS X cy aK aV tO tT gO gT) (C : Fg p s m args meth c cc nL own D cy A) (hE : X A s s.heap) (ct : Cm l D cy X yJ4_length_8abf5 bytes maxL ret rm (.ref b :: As) w post px) (pk : PkV RJ4 yJ4_length_8abf5 bytes maxL ret n) (qm : Cond.methodLink own index yJ5_length_8abf5 ∈ GW)
    (q0 : Nat) {fs : List Value} (he : w[q0]? = some (b, .inr (1, fs))) (hn : As.length = n) (hstack : st0 = As.reverse ++ .ref b :: st) (hcat : (st.map fun v => v.category).sum ≤ 8)
    (d : decode cc pc = .ok (.invokevirtual index, 3)) (hR : rm.frames + 1 ≤ R.frames ∧ 8 + (maxL + 11) + rm.locals ≤ R.locals) (hf : cells + rm.cells ≤ R.cells ∧ slots + rm.slots ≤ R.slots)
    (kk : ∀ (v : Option Value) (w' : va_W), post v w' → vW p l e R s m args below meth c D vwCl A Q nL (cells + rm.cells) (slots + rm.slots) w' lv (pc + 3) (v.toList ++ st))
    (kx : ∀ E : String, px E → vX p l e R s m args below meth c D vwCl A Q nL (cells + rm.cells) (slots + rm.slots) w lv pc st E) : vW p l e R s m args below meth c D vwCl A Q nL cells slots w lv pc st0 := by
  obtain ⟨⟨q1, q2, q3, q4⟩, -, -, -, q6⟩ := pk
  have ht := C.2.2.2.2.1
  have hmh : RJ5 ≠ "java/lang/invoke/MethodHandle" ∧ RJ5 ≠ "java/lang/invoke/VarHandle" := by decide +kernel
  have cw : va_CU R s args own RJ4 RJ5 index yJ5_length_8abf5 yJ4_length_8abf5 bytes maxL ret (Cond.code yJ4_length_8abf5 bytes maxL ret :: GW) rm rm.cells rm.slots n :=
    ⟨⟨rfl, rfl, hR.1, hR.2, pay_in ht (gw_cons q4), List.mem_cons_self⟩, ht _ q4, ht _ q3, hmh, fun sig h => by
      have h9 : parseMethodDescriptor yJ4_length_8abf5.desc = some sig := h
      rw [h9] at q6
      exact (Option.some.inj q6).symm, ht _ qm, ht _ qe_J5_length_8abf5, va_Decl.of (ht _ qi_J5_length_8abf5) (ht _ qc_J5_length_8abf5), ht _ qs2_length, ht _ q1⟩
  exact r_run C (fun H locs ls hP hD hS hl => vx_runU (As := As) (rest := st) (g := F0 m pc ls st0) ⟨C.1, C.2.1, C.2.2.1, C.2.2.2.1, C.2.2.2.2.1⟩ (ct H.size) cw ⟨vPre_blind hX.stb _ _ _, va_recv C.2.2.2.2.2.1 hP (ci := 1) (q := (RJ4, TJ4, 4)) rfl he, fun U hU hW => ⟨rfl, vPre_at hX.stb C hE hP hD hS U hU hW⟩⟩ rfl hn hl.1 hstack (lv_room hcat) d hf) kk kx
/-- the same by super -/
theorem c_SU (hX : EnvS X cy aK aV tO tT gO gT) (C : Fg p s m args meth c cc nL RJ4 D cy A) (hE : X A s s.heap) (ct : Cm l D cy X y bytes maxL ret rm (.ref b :: As) w post px) (pk : PkSU y bytes maxL ret n) (qm : Cond.methodLink RJ4 index y ∈ GW)
    (q0 : Nat) {fs : List Value} (he : w[q0]? = some (b, .inr (1, fs))) (hn : As.length = n) (hstack : st0 = As.reverse ++ .ref b :: st) (hcat : (st.map fun v => v.category).sum ≤ 8)
    (d : decode cc pc = .ok (.invokespecial index, 3)) (hR : rm.frames + 1 ≤ R.frames ∧ 8 + (maxL + 11) + rm.locals ≤ R.locals) (hf : cells + rm.cells ≤ R.cells ∧ slots + rm.slots ≤ R.slots)
    (kk : ∀ (v : Option Value) (w' : va_W), post v w' → vW p l e R s m args below meth c D vwCl A Q nL (cells + rm.cells) (slots + rm.slots) w' lv (pc + 3) (v.toList ++ st))
    (kx : ∀ E : String, px E → vX p l e R s m args below meth c D vwCl A Q nL (cells + rm.cells) (slots + rm.slots) w lv pc st E) : vW p l e R s m args below meth c D vwCl A Q nL cells slots w lv pc st0 := by
  obtain ⟨⟨q1, q2, q3⟩, q5, q7, q6⟩ := pk
  have ht := C.2.2.2.2.1
  have cw : va_CS R s args RJ4 index y bytes maxL ret (Cond.code y bytes maxL ret :: GW) rm rm.cells rm.slots n :=
    ⟨⟨rfl, rfl, hR.1, hR.2, pay_in ht (gw_cons q3), List.mem_cons_self⟩, ht _ qm, ht _ q1, by rw [q5]; exact ht _ qp_J4, ht _ q2, by rw [q5]; exact ht _ qz_J5, ht _ q3, q7, fun sig h => by
      rw [h] at q6
      exact (Option.some.inj q6).symm⟩
  exact r_run C (fun H locs ls hP hD hS hl => vx_runSU (As := As) (rest := st) (g := F0 m pc ls st0) (C.2.2.2.2.2.1.1 1 (RJ4, TJ4, 4) rfl).2 ⟨C.1, C.2.1, C.2.2.1, C.2.2.2.1, C.2.2.2.2.1⟩ (ct H.size) cw ⟨vPre_blind hX.stb _ _ _, va_recv C.2.2.2.2.2.1 hP (ci := 1) (q := (RJ4, TJ4, 4)) rfl he, fun U hU hW => ⟨rfl, vPre_at hX.stb C hE hP hD hS U hU hW⟩⟩ rfl hn hl.1 hstack (lv_room hcat) d hf) kk kx
/-- a method of String's, on a constant -/
theorem c_VK (hX : EnvS X cy aK aV tO tT gO gT) (C : Fg p s m args meth c cc nL own D cy A) (hE : X A s s.heap) {i : Nat} (hi : i < KSN.length) (ct : Cm l D cy X y bytes maxL ret rm (.ref (aK i) :: As) w post px) (pk : PkV RJ0 y bytes maxL ret n) (qm : Cond.methodLink own index y ∈ GW)
    (hn : As.length = n) (hstack : st0 = As.reverse ++ .ref (aK i) :: st) (hcat : (st.map fun v => v.category).sum ≤ 8)
    (d : decode cc pc = .ok (.invokevirtual index, 3)) (hR : rm.frames + 1 ≤ R.frames ∧ 8 + (maxL + 11) + rm.locals ≤ R.locals) (hf : cells + rm.cells ≤ R.cells ∧ slots + rm.slots ≤ R.slots)
    (kk : ∀ (v : Option Value) (w' : va_W), post v w' → vW p l e R s m args below meth c D vwCl A Q nL (cells + rm.cells) (slots + rm.slots) w' lv (pc + 3) (v.toList ++ st))
    (kx : ∀ E : String, px E → vX p l e R s m args below meth c D vwCl A Q nL (cells + rm.cells) (slots + rm.slots) w lv pc st E) : vW p l e R s m args below meth c D vwCl A Q nL cells slots w lv pc st0 :=
  r_run C (fun H locs ls hP hD hS hl => vx_runV (As := As) (rest := st) (g := F0 m pc ls st0) ⟨C.1, C.2.1, C.2.2.1, C.2.2.2.1, C.2.2.2.2.1⟩ (ct H.size) (cw_V C.2.2.2.2.1 pk qm hR) ⟨vPre_blind hX.stb _ _ _, vk_recv (adK := fun _ => aK i) ((hX.2.1 A s s.heap hE).1 i hi) (show 0 < 1 by decide) hS, fun U hU hW => ⟨rfl, vPre_at hX.stb C hE hP hD hS U hU hW⟩⟩ rfl hn hl.1 hstack (lv_room hcat) d hf) kk kx
/-- shifts by a coder 0 -/
theorem t_ishr (C : Fg p s m args meth c cc nL own D cy A) {x : Int32} (d : decode cc pc = .ok (.ishr, 1)) (kk : vW p l e R s m args below meth c D vwCl A Q nL cells slots w lv (pc + 1) (.int x :: st)) : vW p l e R s m args below meth c D vwCl A Q nL cells slots w lv pc (.int (nI 0) :: .int x :: st) :=
  r_ishr C d (by rw [show nI 0 = (0 : Int32) from rfl, sb_shr0]; exact kk)
theorem t_ishl (C : Fg p s m args meth c cc nL own D cy A) {x : Int32} (d : decode cc pc = .ok (.ishl, 1)) (kk : vW p l e R s m args below meth c D vwCl A Q nL cells slots w lv (pc + 1) (.int x :: st)) : vW p l e R s m args below meth c D vwCl A Q nL cells slots w lv pc (.int (nI 0) :: .int x :: st) :=
  r_ishl C d (by rw [show nI 0 = (0 : Int32) from rfl, sb_shl0]; exact kk)
/-- the world's order -/
theorem t_perm {E : va_W} (P P' : va_W) (gl : List Nat) (hm : P'.map some = gl.map (fun i => P[i]?)) (hnd : gl.Nodup) {w w' : va_W} (hw : w = U ++ (P ++ E)) (hw' : w' = U ++ (P' ++ E)) (kk : vW p l e R s m args below meth c D vwCl A Q nL cells slots w' lv pc st) : vW p l e R s m args below meth c D vwCl A Q nL cells slots w lv pc st := by
  subst hw
  subst hw'
  have hlen : P'.length = gl.length := by
    have := congrArg List.length hm
    simpa using this
  have hat : ∀ (k : Nat) (q : Nat × va_E), P'[k]? = some q → ∃ i : Nat, gl[k]? = some i ∧ P[i]? = some q := by
    intro k q h
    have h1 : (P'.map some)[k]? = some (some q) := by rw [List.getElem?_map, h]; rfl
    rw [hm, List.getElem?_map] at h1
    cases h2 : gl[k]? with
    | none => rw [h2] at h1; cases h1
    | some i =>
      rw [h2] at h1
      exact ⟨i, rfl, Option.some.inj h1⟩
  have hlt : ∀ k, k < gl.length → gl.getD k 0 < P.length := by
    intro k hk
    obtain ⟨i, h1, h2⟩ := hat k _ (List.getElem?_eq_getElem (by omega))
    rw [List.getD_eq_getElem?_getD, h1]
    exact (List.getElem?_eq_some_iff.mp h2).1
  refine r_by (fun k => if k < U.length then k else if k < U.length + gl.length then U.length + gl.getD (k - U.length) 0 else k - gl.length + P.length) (fun k q h => ?_) (fun i j hi hj h => ?_) kk
  · by_cases h1 : k < U.length
    · simp only [if_pos h1]
      rw [List.getElem?_append_left h1] at h ⊢
      exact h
    · by_cases h2 : k < U.length + gl.length
      · simp only [if_neg h1, if_pos h2]
        rw [List.getElem?_append_right (by omega), List.getElem?_append_left (by omega)] at h
        obtain ⟨i, h3, h4⟩ := hat _ _ h
        have h5 := (List.getElem?_eq_some_iff.mp h4).1
        rw [List.getElem?_append_right (by omega), List.getD_eq_getElem?_getD, h3]
        show (P ++ E)[U.length + i - U.length]? = _
        rw [show U.length + i - U.length = i by omega, List.getElem?_append_left h5]
        exact h4
      · simp only [if_neg h1, if_neg h2]
        rw [List.getElem?_append_right (by omega), List.getElem?_append_right (by omega)] at h ⊢
        rw [← h]
        congr 1
        omega
  · have e1 := hlt (i - U.length)
    have e2 := hlt (j - U.length)
    try simp only at h
    by_cases a1 : i < U.length <;> by_cases a2 : j < U.length <;> by_cases b1 : i < U.length + gl.length <;> by_cases b2 : j < U.length + gl.length <;> simp only [a1, a2, b1, b2, if_true, if_false] at h <;> try omega
    have h9 : gl.getD (i - U.length) 0 = gl.getD (j - U.length) 0 := by omega
    have n1 : i - U.length < gl.length := by omega
    have n2 : j - U.length < gl.length := by omega
    rw [List.getD_eq_getElem?_getD, List.getD_eq_getElem?_getD, List.getElem?_eq_getElem n1, List.getElem?_eq_getElem n2] at h9
    have := (List.getElem_inj hnd).mp h9
    omega
theorem t_front {x : Nat × va_E} (kk : vW p l e R s m args below meth c D vwCl A Q nL cells slots (U ++ (x :: L)) lv pc st) : vW p l e R s m args below meth c D vwCl A Q nL cells slots ((U ++ L) ++ [x]) lv pc st := by
  refine r_by (fun k => if k < U.length then k else if k = U.length then U.length + L.length else k - 1) (fun k q h => ?_) (fun i j hi hj h => ?_) kk
  · by_cases h1 : k < U.length
    · simp only [if_pos h1]
      rw [List.getElem?_append_left h1] at h
      rw [List.getElem?_append_left (by rw [List.length_append]; omega), List.getElem?_append_left h1]
      exact h
    · by_cases h2 : k = U.length
      · simp only [if_neg h1, if_pos h2]
        subst h2
        rw [List.getElem?_append_right (by omega), Nat.sub_self] at h
        rw [List.getElem?_append_right (by rw [List.length_append]; omega), List.length_append, Nat.sub_self]
        exact h
      · simp only [if_neg h1, if_neg h2]
        have hk := (List.getElem?_eq_some_iff.mp h).1
        rw [List.length_append, List.length_cons] at hk
        rw [List.getElem?_append_right (by omega), show k - U.length = (k - 1 - U.length) + 1 by omega, List.getElem?_cons_succ] at h
        rw [List.getElem?_append_left (by rw [List.length_append]; omega), List.getElem?_append_right (by omega)]
        exact h
  · rw [List.length_append, List.length_cons] at hi hj
    try simp only at h
    (repeat' split at h) <;> omega
/-- fields of a builder and a String behind U -/
theorem t_sbg (C : Fg p s m args meth c cc nL own D cy A) {fs : List Value} {v : Value} (j k : Nat) (he : L[j]? = some (b, .inr (1, fs))) (hk : k < 4) (hq : Cond.fieldLink own index RJ5 (TJ4 k).2.1 (TJ4 k).2.2.1 ∈ GW) (hs : (TJ4 k).1 = RJ5) (hv : fs[k]? = some v) (d : decode cc pc = .ok (.getfield index, 3)) (kk : vW p l e R s m args below meth c D vwCl A Q nL cells slots (U ++ L) lv (pc + 3) (v :: st)) : vW p l e R s m args below meth c D vwCl A Q nL cells slots (U ++ L) lv pc (.ref b :: st) :=
  g_get C qu_J4 (ci := 1) rfl (U.length + j) (us_g he) k hk hq hs hv d kk
theorem t_stg (C : Fg p s m args meth c cc nL own D cy A) {fs : List Value} {v : Value} (j k : Nat) (he : L[j]? = some (b, .inr (0, fs))) (hk : k < 4) (hq : Cond.fieldLink own index RJ0 (TJ0 k).2.1 (TJ0 k).2.2.1 ∈ GW) (hs : (TJ0 k).1 = RJ0) (hv : fs[k]? = some v) (d : decode cc pc = .ok (.getfield index, 3)) (kk : vW p l e R s m args below meth c D vwCl A Q nL cells slots (U ++ L) lv (pc + 3) (v :: st)) : vW p l e R s m args below meth c D vwCl A Q nL cells slots (U ++ L) lv pc (.ref b :: st) :=
  g_get C qu_J0 (ci := 0) rfl (U.length + j) (us_g he) k hk hq hs hv d kk
theorem t_sbp (C : Fg p s m args meth c cc nL own D cy A) {fs : List Value} {v : Value} {ty : FieldType} (j k : Nat) (he : L[j]? = some (b, .inr (1, fs))) (hk : k < 4) (hl : fs.length = 4) (hq : Cond.fieldLink own index RJ5 (TJ4 k).2.1 (TJ4 k).2.2.1 ∈ GW) (hs : (TJ4 k).1 = RJ5) (hfin : (TJ4 k).2.2.2 = false) (hd : parseFieldDescriptor (TJ4 k).2.2.1 = some ty) (hn : narrow ty v = v) (hfit : fits ty v = true) (d : decode cc pc = .ok (.putfield index, 3)) (hw : L.set j (b, .inr (1, fs.set k v)) = L') (kk : vW p l e R s m args below meth c D vwCl A Q nL cells slots (U ++ L') lv (pc + 3) st) : vW p l e R s m args below meth c D vwCl A Q nL cells slots (U ++ L) lv pc (v :: .ref b :: st) :=
  g_put C qu_J4 tyJ4 tyJ4_ok nmJ4 (ci := 1) rfl (U.length + j) (us_g he) k hk hq hs hfin hd hn hfit (by rw [hl]; exact hk) d (us_t hw) kk
theorem t_stp (C : Fg p s m args meth c cc nL RJ0 D cy A) {fs : List Value} {v : Value} {ty : FieldType} (j k : Nat) (he : L[j]? = some (b, .inr (0, fs))) (hk : k < 4) (hl : fs.length = 4) (hq : Cond.fieldLink RJ0 index RJ0 (TJ0 k).2.1 (TJ0 k).2.2.1 ∈ GW) (hs : (TJ0 k).1 = RJ0) (hfin : (TJ0 k).2.2.2 = true) (hin2 : meth.name = "<init>") (hd : parseFieldDescriptor (TJ0 k).2.2.1 = some ty) (hn : narrow ty v = v) (hfit : fits ty v = true) (d : decode cc pc = .ok (.putfield index, 3)) (hw : L.set j (b, .inr (0, fs.set k v)) = L') (kk : vW p l e R s m args below meth c D vwCl A Q nL cells slots (U ++ L') lv (pc + 3) st) : vW p l e R s m args below meth c D vwCl A Q nL cells slots (U ++ L) lv pc (v :: .ref b :: st) :=
  g_putF C qu_J0 tyJ0 tyJ0_ok nmJ0 (ci := 0) rfl (U.length + j) (us_g he) k hk hq hs hfin hin2 hs hd hn hfit (by rw [hl]; exact hk) d (us_t hw) kk
/-- arrays of bytes behind U -/
theorem t_blen (C : Fg p s m args meth c cc nL own D cy A) {n : Nat} {g : Nat → Int32} (j : Nat) (he : L[j]? = some (b, .inl (cy 0, n, .inl g))) (d : decode cc pc = .ok (.arraylength, 1)) (kk : vW p l e R s m args below meth c D vwCl A Q nL cells slots (U ++ L) lv (pc + 1) (.int (nI n) :: st)) : vW p l e R s m args below meth c D vwCl A Q nL cells slots (U ++ L) lv pc (.ref b :: st) :=
  g_alen C (t0 := 0) (U.length + j) (us_g he) rfl d kk
theorem t_bst (C : Fg p s m args meth c cc nL own D cy A) {n i : Nat} {g : Nat → Int32} {x : Int32} (j : Nat) (he : L[j]? = some (b, .inl (cy 0, n, .inl g))) (hi : i < n) (hn : n < 2147483648) (d : decode cc pc = .ok (.bastore, 1)) (hw : L.set j (b, .inl (cy 0, n, .inl (upd g i (vp_nar .byte x)))) = L') (kk : vW p l e R s m args below meth c D vwCl A Q nL cells slots (U ++ L') lv (pc + 1) st) : vW p l e R s m args below meth c D vwCl A Q nL cells slots (U ++ L) lv pc (.int x :: .int (nI i) :: .ref b :: st) :=
  g_bst C (U.length + j) (us_g he) hi hn d (us_t hw) kk
theorem t_bcp (C : Fg p s m args meth c cc nL own D cy A) {a0 a1 n0 n1 sp dp n : Nat} {f g : Nat → Int32} (j0 j1 : Nat) (hq : Cond.methodLink own index arraycopyName ∈ GW) (he0 : L[j0]? = some (a0, .inl (cy 0, n0, .inl f))) (he1 : L[j1]? = some (a1, .inl (cy 0, n1, .inl g))) (hfit : sb_Fit f) (hsp : sp + n ≤ n0) (hdp : dp + n ≤ n1) (hn0 : n0 < 2147483648) (hn1 : n1 < 2147483648) (hf : 1 ≤ R.frames) (hlo : (st.map fun v => v.category).sum + (nativeFrameWords "java/lang/System" "arraycopy" 5 + 11) ≤ R.locals) (d : decode cc pc = .ok (.invokestatic index, 3)) (hw : L.set j1 (a1, .inl (cy 0, n1, .inl (va_cpy f g sp dp n))) = L')
    (kk : vW p l e R s m args below meth c D vwCl A Q nL cells slots (U ++ L') lv (pc + 3) st) : vW p l e R s m args below meth c D vwCl A Q nL cells slots (U ++ L) lv pc (.int (nI n) :: .int (nI dp) :: .ref a1 :: .int (nI sp) :: .ref a0 :: st) :=
  g_bcp C (U.length + j0) (U.length + j1) hq (us_g he0) (us_g he1) hfit hsp hdp hn0 hn1 hf hlo d (us_t hw) kk
theorem t_newB (C : Fg p s m args meth c cc nL own D cy A) (harr2 : Cond.arrayClass (newarray.typeOf .byte) ∈ GW) {n : Nat} (hn : n < 1000000) (hcells : cells + 1 ≤ R.cells) (hslots : slots + n ≤ R.slots) (d : decode cc pc = .ok (.newarray .byte, 2))
    (kk : ∀ q : Nat, vW p l e R s m args below meth c D vwCl A Q nL (cells + 1) (slots + n) (U ++ ((q, .inl (cy 0, n, .inl (fun _ => 0))) :: L)) lv (pc + 2) (.ref q :: st)) : vW p l e R s m args below meth c D vwCl A Q nL cells slots (U ++ L) lv pc (.int (nI n) :: st) :=
  r_newB C harr2 hn hcells hslots d (fun q => t_front (kk q))
end TX1
end PT_56
