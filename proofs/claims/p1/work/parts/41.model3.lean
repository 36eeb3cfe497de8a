/-! CONTRACTS of the model: changes -/
theorem dX4_changed_0 : decode cX4_changed 0 = .ok (.aload_n 0, 1) := dqo_42 (kb_X4_changed_0 0 rfl)
theorem dX4_changed_1 : decode cX4_changed 1 = .ok (.iload_n 1, 1) := dqo_27 (kb_X4_changed_0 1 rfl)
theorem dX4_changed_2 : decode cX4_changed 2 = .ok (.invokevirtual 48, 3) := dqo_182 0 48 (kb_X4_changed_0 2 rfl) (kb_X4_changed_0 3 rfl) (kb_X4_changed_0 4 rfl)
theorem dX4_changed_5 : decode cX4_changed 5 = .ok (.istore_n 3, 1) := dqo_62 (kb_X4_changed_0 5 rfl)
theorem dX4_changed_6 : decode cX4_changed 6 = .ok (.iconst 0, 1) := dqo_3 (kb_X4_changed_0 6 rfl)
theorem dX4_changed_7 : decode cX4_changed 7 = .ok (.istore 4, 2) := dqo_54 4 (kb_X4_changed_0 7 rfl) (kb_X4_changed_0 8 rfl)
theorem dX4_changed_9 : decode cX4_changed 9 = .ok (.iload 4, 2) := dqo_21 4 (kb_X4_changed_0 9 rfl) (kb_X4_changed_0 10 rfl)
theorem dX4_changed_11 : decode cX4_changed 11 = .ok (.iconst 3, 1) := dqo_6 (kb_X4_changed_0 11 rfl)
theorem dX4_changed_12 : decode cX4_changed 12 = .ok (.if_icmp .ge 48, 3) := dqo_162 0 48 (by decide) (kb_X4_changed_0 12 rfl) (kb_X4_changed_0 13 rfl) (kb_X4_changed_0 14 rfl)
theorem dX4_changed_15 : decode cX4_changed 15 = .ok (.iload 4, 2) := dqo_21 4 (kb_X4_changed_0 15 rfl) (kb_X4_changed_0 16 rfl)
theorem dX4_changed_17 : decode cX4_changed 17 = .ok (.iload_n 2, 1) := dqo_28 (kb_X4_changed_0 17 rfl)
theorem dX4_changed_18 : decode cX4_changed 18 = .ok (.if_icmp .eq 36, 3) := dqo_159 0 36 (by decide) (kb_X4_changed_0 18 rfl) (kb_X4_changed_0 19 rfl) (kb_X4_changed_0 20 rfl)
theorem dX4_changed_21 : decode cX4_changed 21 = .ok (.aload_n 0, 1) := dqo_42 (kb_X4_changed_0 21 rfl)
theorem dX4_changed_22 : decode cX4_changed 22 = .ok (.getfield 32, 3) := dqo_180 0 32 (kb_X4_changed_0 22 rfl) (kb_X4_changed_0 23 rfl) (kb_X4_changed_0 24 rfl)
theorem dX4_changed_25 : decode cX4_changed 25 = .ok (.iload 4, 2) := dqo_21 4 (kb_X4_changed_0 25 rfl) (kb_X4_changed_0 26 rfl)
theorem dX4_changed_27 : decode cX4_changed 27 = .ok (.baload, 1) := dqo_51 (kb_X4_changed_0 27 rfl)
theorem dX4_changed_28 : decode cX4_changed 28 = .ok (.ifCond .eq 26, 3) := dqo_153 0 26 (by decide) (kb_X4_changed_0 28 rfl) (kb_X4_changed_0 29 rfl) (kb_X4_changed_0 30 rfl)
theorem dX4_changed_31 : decode cX4_changed 31 = .ok (.aload_n 0, 1) := dqo_42 (kb_X4_changed_0 31 rfl)
theorem dX4_changed_32 : decode cX4_changed 32 = .ok (.aload_n 0, 1) := dqo_42 (kb_X4_changed_0 32 rfl)
theorem dX4_changed_33 : decode cX4_changed 33 = .ok (.getfield 35, 3) := dqo_180 0 35 (kb_X4_changed_0 33 rfl) (kb_X4_changed_0 34 rfl) (kb_X4_changed_0 35 rfl)
theorem dX4_changed_36 : decode cX4_changed 36 = .ok (.iload 4, 2) := dqo_21 4 (kb_X4_changed_0 36 rfl) (kb_X4_changed_0 37 rfl)
theorem dX4_changed_38 : decode cX4_changed 38 = .ok (.iaload, 1) := dqo_46 (kb_X4_changed_0 38 rfl)
theorem dX4_changed_39 : decode cX4_changed 39 = .ok (.invokevirtual 48, 3) := dqo_182 0 48 (kb_X4_changed_0 39 rfl) (kb_X4_changed_0 40 rfl) (kb_X4_changed_0 41 rfl)
theorem dX4_changed_42 : decode cX4_changed 42 = .ok (.iload_n 3, 1) := dqo_29 (kb_X4_changed_0 42 rfl)
theorem dX4_changed_43 : decode cX4_changed 43 = .ok (.if_icmp .ne 11, 3) := dqo_160 0 11 (by decide) (kb_X4_changed_0 43 rfl) (kb_X4_changed_0 44 rfl) (kb_X4_changed_0 45 rfl)
theorem dX4_changed_46 : decode cX4_changed 46 = .ok (.aload_n 0, 1) := dqo_42 (kb_X4_changed_0 46 rfl)
theorem dX4_changed_47 : decode cX4_changed 47 = .ok (.getfield 32, 3) := dqo_180 0 32 (kb_X4_changed_0 47 rfl) (kb_X4_changed_0 48 rfl) (kb_X4_changed_0 49 rfl)
theorem dX4_changed_50 : decode cX4_changed 50 = .ok (.iload 4, 2) := dqo_21 4 (kb_X4_changed_0 50 rfl) (kb_X4_changed_0 51 rfl)
theorem dX4_changed_52 : decode cX4_changed 52 = .ok (.iconst 0, 1) := dqo_3 (kb_X4_changed_0 52 rfl)
theorem dX4_changed_53 : decode cX4_changed 53 = .ok (.bastore, 1) := dqo_84 (kb_X4_changed_0 53 rfl)
theorem dX4_changed_54 : decode cX4_changed 54 = .ok (.iinc 4 1, 3) := dqo_132 4 1 (by decide) (kb_X4_changed_0 54 rfl) (kb_X4_changed_0 55 rfl) (kb_X4_changed_0 56 rfl)
theorem dX4_changed_57 : decode cX4_changed 57 = .ok (.goto (-48), 3) := dqo_167 255 208 (by decide) (kb_X4_changed_0 57 rfl) (kb_X4_changed_0 58 rfl) (kb_X4_changed_0 59 rfl)
theorem dX4_changed_60 : decode cX4_changed 60 = .ok (.iconst 4, 1) := dqo_7 (kb_X4_changed_0 60 rfl)
theorem dX4_changed_61 : decode cX4_changed 61 = .ok (.newarray .boolean, 2) := dqo_188_4 (kb_X4_changed_0 61 rfl) (kb_X4_changed_0 62 rfl)
theorem dX4_changed_63 : decode cX4_changed 63 = .ok (.astore 4, 2) := dqo_58 4 (kb_X4_changed_0 63 rfl) (kb_X4_changed_1 0 rfl)
theorem dX4_changed_65 : decode cX4_changed 65 = .ok (.iconst 0, 1) := dqo_3 (kb_X4_changed_1 1 rfl)
theorem dX4_changed_66 : decode cX4_changed 66 = .ok (.istore 5, 2) := dqo_54 5 (kb_X4_changed_1 2 rfl) (kb_X4_changed_1 3 rfl)
theorem dX4_changed_68 : decode cX4_changed 68 = .ok (.iload 5, 2) := dqo_21 5 (kb_X4_changed_1 4 rfl) (kb_X4_changed_1 5 rfl)
theorem dX4_changed_70 : decode cX4_changed 70 = .ok (.iconst 4, 1) := dqo_7 (kb_X4_changed_1 6 rfl)
theorem dX4_changed_71 : decode cX4_changed 71 = .ok (.if_icmp .ge 53, 3) := dqo_162 0 53 (by decide) (kb_X4_changed_1 7 rfl) (kb_X4_changed_1 8 rfl) (kb_X4_changed_1 9 rfl)
theorem dX4_changed_74 : decode cX4_changed 74 = .ok (.aload 4, 2) := dqo_25 4 (kb_X4_changed_1 10 rfl) (kb_X4_changed_1 11 rfl)
theorem dX4_changed_76 : decode cX4_changed 76 = .ok (.iload 5, 2) := dqo_21 5 (kb_X4_changed_1 12 rfl) (kb_X4_changed_1 13 rfl)
theorem dX4_changed_78 : decode cX4_changed 78 = .ok (.aload_n 0, 1) := dqo_42 (kb_X4_changed_1 14 rfl)
theorem dX4_changed_79 : decode cX4_changed 79 = .ok (.getfield 18, 3) := dqo_180 0 18 (kb_X4_changed_1 15 rfl) (kb_X4_changed_1 16 rfl) (kb_X4_changed_1 17 rfl)
theorem dX4_changed_82 : decode cX4_changed 82 = .ok (.iload 5, 2) := dqo_21 5 (kb_X4_changed_1 18 rfl) (kb_X4_changed_1 19 rfl)
theorem dX4_changed_84 : decode cX4_changed 84 = .ok (.baload, 1) := dqo_51 (kb_X4_changed_1 20 rfl)
theorem dX4_changed_85 : decode cX4_changed 85 = .ok (.ifCond .eq 31, 3) := dqo_153 0 31 (by decide) (kb_X4_changed_1 21 rfl) (kb_X4_changed_1 22 rfl) (kb_X4_changed_1 23 rfl)
theorem dX4_changed_88 : decode cX4_changed 88 = .ok (.aload_n 0, 1) := dqo_42 (kb_X4_changed_1 24 rfl)
theorem dX4_changed_89 : decode cX4_changed 89 = .ok (.iconst 4, 1) := dqo_7 (kb_X4_changed_1 25 rfl)
theorem dX4_changed_90 : decode cX4_changed 90 = .ok (.iload 5, 2) := dqo_21 5 (kb_X4_changed_1 26 rfl) (kb_X4_changed_1 27 rfl)
theorem dX4_changed_92 : decode cX4_changed 92 = .ok (.iadd, 1) := dqo_96 (kb_X4_changed_1 28 rfl)
theorem dX4_changed_93 : decode cX4_changed 93 = .ok (.invokevirtual 48, 3) := dqo_182 0 48 (kb_X4_changed_1 29 rfl) (kb_X4_changed_1 30 rfl) (kb_X4_changed_1 31 rfl)
theorem dX4_changed_96 : decode cX4_changed 96 = .ok (.iload_n 3, 1) := dqo_29 (kb_X4_changed_1 32 rfl)
theorem dX4_changed_97 : decode cX4_changed 97 = .ok (.if_icmp .ne 19, 3) := dqo_160 0 19 (by decide) (kb_X4_changed_1 33 rfl) (kb_X4_changed_1 34 rfl) (kb_X4_changed_1 35 rfl)
theorem dX4_changed_100 : decode cX4_changed 100 = .ok (.aload_n 0, 1) := dqo_42 (kb_X4_changed_1 36 rfl)
theorem dX4_changed_101 : decode cX4_changed 101 = .ok (.iconst 4, 1) := dqo_7 (kb_X4_changed_1 37 rfl)
theorem dX4_changed_102 : decode cX4_changed 102 = .ok (.iload 5, 2) := dqo_21 5 (kb_X4_changed_1 38 rfl) (kb_X4_changed_1 39 rfl)
theorem dX4_changed_104 : decode cX4_changed 104 = .ok (.iadd, 1) := dqo_96 (kb_X4_changed_1 40 rfl)
theorem dX4_changed_105 : decode cX4_changed 105 = .ok (.iload_n 1, 1) := dqo_27 (kb_X4_changed_1 41 rfl)
theorem dX4_changed_106 : decode cX4_changed 106 = .ok (.invokevirtual 66, 3) := dqo_182 0 66 (kb_X4_changed_1 42 rfl) (kb_X4_changed_1 43 rfl) (kb_X4_changed_1 44 rfl)
theorem dX4_changed_109 : decode cX4_changed 109 = .ok (.ifCond .ne 7, 3) := dqo_154 0 7 (by decide) (kb_X4_changed_1 45 rfl) (kb_X4_changed_1 46 rfl) (kb_X4_changed_1 47 rfl)
theorem dX4_changed_112 : decode cX4_changed 112 = .ok (.iconst 1, 1) := dqo_4 (kb_X4_changed_1 48 rfl)
theorem dX4_changed_113 : decode cX4_changed 113 = .ok (.goto 4, 3) := dqo_167 0 4 (by decide) (kb_X4_changed_1 49 rfl) (kb_X4_changed_1 50 rfl) (kb_X4_changed_1 51 rfl)
theorem dX4_changed_116 : decode cX4_changed 116 = .ok (.iconst 0, 1) := dqo_3 (kb_X4_changed_1 52 rfl)
theorem dX4_changed_117 : decode cX4_changed 117 = .ok (.bastore, 1) := dqo_84 (kb_X4_changed_1 53 rfl)
theorem dX4_changed_118 : decode cX4_changed 118 = .ok (.iinc 5 1, 3) := dqo_132 5 1 (by decide) (kb_X4_changed_1 54 rfl) (kb_X4_changed_1 55 rfl) (kb_X4_changed_1 56 rfl)
theorem dX4_changed_121 : decode cX4_changed 121 = .ok (.goto (-53), 3) := dqo_167 255 203 (by decide) (kb_X4_changed_1 57 rfl) (kb_X4_changed_1 58 rfl) (kb_X4_changed_1 59 rfl)
theorem dX4_changed_124 : decode cX4_changed 124 = .ok (.iconst 0, 1) := dqo_3 (kb_X4_changed_1 60 rfl)
theorem dX4_changed_125 : decode cX4_changed 125 = .ok (.istore 5, 2) := dqo_54 5 (kb_X4_changed_1 61 rfl) (kb_X4_changed_1 62 rfl)
theorem dX4_changed_127 : decode cX4_changed 127 = .ok (.iload 5, 2) := dqo_21 5 (kb_X4_changed_1 63 rfl) (kb_X4_changed_2 0 rfl)
theorem dX4_changed_129 : decode cX4_changed 129 = .ok (.iconst 4, 1) := dqo_7 (kb_X4_changed_2 1 rfl)
theorem dX4_changed_130 : decode cX4_changed 130 = .ok (.if_icmp .ge 25, 3) := dqo_162 0 25 (by decide) (kb_X4_changed_2 2 rfl) (kb_X4_changed_2 3 rfl) (kb_X4_changed_2 4 rfl)
theorem dX4_changed_133 : decode cX4_changed 133 = .ok (.aload 4, 2) := dqo_25 4 (kb_X4_changed_2 5 rfl) (kb_X4_changed_2 6 rfl)
theorem dX4_changed_135 : decode cX4_changed 135 = .ok (.iload 5, 2) := dqo_21 5 (kb_X4_changed_2 7 rfl) (kb_X4_changed_2 8 rfl)
theorem dX4_changed_137 : decode cX4_changed 137 = .ok (.baload, 1) := dqo_51 (kb_X4_changed_2 9 rfl)
theorem dX4_changed_138 : decode cX4_changed 138 = .ok (.ifCond .eq 11, 3) := dqo_153 0 11 (by decide) (kb_X4_changed_2 10 rfl) (kb_X4_changed_2 11 rfl) (kb_X4_changed_2 12 rfl)
theorem dX4_changed_141 : decode cX4_changed 141 = .ok (.aload_n 0, 1) := dqo_42 (kb_X4_changed_2 13 rfl)
theorem dX4_changed_142 : decode cX4_changed 142 = .ok (.getfield 18, 3) := dqo_180 0 18 (kb_X4_changed_2 14 rfl) (kb_X4_changed_2 15 rfl) (kb_X4_changed_2 16 rfl)
theorem dX4_changed_145 : decode cX4_changed 145 = .ok (.iload 5, 2) := dqo_21 5 (kb_X4_changed_2 17 rfl) (kb_X4_changed_2 18 rfl)
theorem dX4_changed_147 : decode cX4_changed 147 = .ok (.iconst 0, 1) := dqo_3 (kb_X4_changed_2 19 rfl)
theorem dX4_changed_148 : decode cX4_changed 148 = .ok (.bastore, 1) := dqo_84 (kb_X4_changed_2 20 rfl)
theorem dX4_changed_149 : decode cX4_changed 149 = .ok (.iinc 5 1, 3) := dqo_132 5 1 (by decide) (kb_X4_changed_2 21 rfl) (kb_X4_changed_2 22 rfl) (kb_X4_changed_2 23 rfl)
theorem dX4_changed_152 : decode cX4_changed 152 = .ok (.goto (-25), 3) := dqo_167 255 231 (by decide) (kb_X4_changed_2 24 rfl) (kb_X4_changed_2 25 rfl) (kb_X4_changed_2 26 rfl)
theorem dX4_changed_155 : decode cX4_changed 155 = .ok (.return_, 1) := dqo_177 (kb_X4_changed_2 27 rfl)
set_option maxRecDepth 100000 in
set_option maxHeartbeats 4000000 in
theorem D_changed {l : Launch} {D : va_G} {cy : Nat → ClassId} {X : (Nat → Prop) → State → Heap → Prop} {ba ra : Nat → Nat} {hf : Nat → Nat → Nat} {hq : Nat → Nat → Int32} {kn th : Int32} {sm : Int64} {Y : va_W} {f : Nat → Nat → Nat} {w : Nat} {d0 : Nat} (hX : EnvM X cy) (hC : CInv f) (hG : MG f hf) (hw : w < 8) (h5w : f 5 w = 1) (hd0 : d0 < 4294967296) (h5M : ∀ w, 4 ≤ w → w < 8 → hf 5 w = f 5 w ∧ f 5 w ≤ 1) (h9a : ∀ k, k < 3 → hf 9 k ≤ 1) (hU : ∀ k, k < 3 → hf 9 k ≠ 0 → hf 6 k < 8 ∧ f 5 (hf 6 k) = 1) : Cd l D cy X yX4_changed cX4_changed 6 none (rmk 5 1 4 170) [.ref (ba 9), .int (nI w), .int (nI d0)] (WM cy ba ra hf hq kn th sm ++ Y) none (WM cy ba ra (chM f hf w d0) hq kn th sm ++ Y) := by
  have q1 := hC.al hw
  refine Cm.of [some (.ref (ba 9)), some (.int (nI w)), some (.int (nI d0)), none, none, none] pn_X4 rfl (Nat.le_of_ble_eq_true rfl) ?_
  intro p e s m args below meth c A C hE hr hnt hn
  refine r_aload_n C dX4_changed_0 rfl ?_
  refine r_iload_n C dX4_changed_1 rfl ?_
  refine d_V (st := []) hX.1.stb C hE (D_rowOf (ba := ba) (ra := ra) (hf := hf) (hq := hq) (kn := kn) (th := th) (sm := sm) (Y := Y) (f := f) (w := w) hX hC (MG.same (fun _ => rfl) (fun _ => rfl) hG) (by first | omega | (simp [up2, *]; done) | (simp [up2, *]; omega) | (simp only [up2_eq]; omega) | (split <;> omega)) (by first | omega | (simp [up2, *]; done) | (simp [up2, *]; omega) | (simp only [up2_eq]; omega) | (split <;> omega))) pk_X4_rowOf qm_X4_48 0 8 rfl rfl wm_0 rfl rfl (Nat.le_of_ble_eq_true rfl) dX4_changed_2 ⟨(Nat.le_of_ble_eq_true rfl), (Nat.le_of_ble_eq_true rfl)⟩ ⟨(Nat.le_of_ble_eq_true rfl), (Nat.le_of_ble_eq_true rfl)⟩ ?_
  refine r_w (w' := WM cy ba ra hf hq kn th sm ++ Y) rfl ?_
  refine r_istore_n C dX4_changed_5 (by decide) rfl ?_
  refine r_iconst (v := (nI 0)) C dX4_changed_6 (by decide) ?_
  refine r_istore C dX4_changed_7 (by decide) rfl ?_
  refine r_w (w' := WM cy ba ra (chO f hf w d0 0) hq kn th sm ++ Y) (by rw [chO_0]) ?_
  have L9 : ∀ (d : Nat) (k : Nat), (hk : k + d = 3) → vC p l e (rmk 5 1 4 170) s m args below meth c D A (vx_MQ below (vG (fun v1 w1 => v1 = none ∧ w1 = WM cy ba ra (chM f hf w d0) hq kn th sm ++ Y) D vwCl A) (vGX (fun _ => False) D vwCl (WM cy ba ra hf hq kn th sm ++ Y) A) args s (rmk 5 1 4 170).cells (rmk 5 1 4 170).slots A) 6 0 0 (WM cy ba ra (chO f hf w d0 k) hq kn th sm ++ Y) [some (.ref (ba 9)), some (.int (nI w)), some (.int (nI d0)), some (.int (nI (f 1 w))), some (.int (nI k)), none] 9 [] := by
    intro d
    induction d with
    | zero =>
      intro k hk
      refine r_iload C dX4_changed_9 rfl ?_
      refine r_iconst (v := (nI 3)) C dX4_changed_11 (by decide) ?_
      refine r_icN_ge (a := k) (b := 3) (tgt := 60) C (by first | omega | (simp [up2, *]; done) | (simp [up2, *]; omega) | (simp only [up2_eq]; omega) | (split <;> omega)) (by first | omega | (simp [up2, *]; done) | (simp [up2, *]; omega) | (simp only [up2_eq]; omega) | (split <;> omega)) dX4_changed_12 (by decide) (fun h12_1 => ?_) (fun h12_1 => ?_)
      · first
        | exfalso; first | omega | contradiction
        | skip
          have e9 : k = 3 := by omega
          subst e9
          refine r_iconst (v := (nI 4)) C dX4_changed_60 (by decide) ?_
          refine r_newT C .boolean .boolean 2 rfl (by simp) qa_boolean (n := 4) (show 4 < 1000000 from Nat.lt_of_le_of_lt (show 4 ≤ 4 from by first | omega | (simp [up2, *]; done) | (simp [up2, *]; omega) | (simp only [up2_eq]; omega) | (split <;> omega)) (by decide)) (1) (4) (Nat.le_of_ble_eq_true rfl) (Nat.add_le_add (Nat.le_refl _) (show 4 ≤ 4 from by first | omega | (simp [up2, *]; done) | (simp [up2, *]; omega) | (simp only [up2_eq]; omega) | (split <;> omega))) (Nat.le_of_ble_eq_true rfl) (Nat.le_of_ble_eq_true rfl) dX4_changed_61 (fun b_2 => ?_)
          refine r_w (w' := WM cy ba ra (chO f hf w d0 3) hq kn th sm ++ (Y ++ [(b_2, .inl (cy 2, 4, .inl (fun _ => 0)))])) (by simp only [List.append_assoc, List.cons_append, List.nil_append]) ?_
          refine r_astore C dX4_changed_63 (by decide) rfl ?_
          refine r_iconst (v := (nI 0)) C dX4_changed_65 (by decide) ?_
          refine r_istore C dX4_changed_66 (by decide) rfl ?_
          refine r_w (w' := WM cy ba ra (chO f hf w d0 3) hq kn th sm ++ (Y ++ [(b_2, .inl (cy 2, 4, .inl (gcF f (chO f hf w d0 3) w 0)))])) (by rw [gcF_0]) ?_
          have L68 : ∀ (d : Nat) (k : Nat), (hk : k + d = 4) → vC p l e (rmk 5 1 4 170) s m args below meth c D A (vx_MQ below (vG (fun v1 w1 => v1 = none ∧ w1 = WM cy ba ra (chM f hf w d0) hq kn th sm ++ Y) D vwCl A) (vGX (fun _ => False) D vwCl (WM cy ba ra hf hq kn th sm ++ Y) A) args s (rmk 5 1 4 170).cells (rmk 5 1 4 170).slots A) 6 1 4 (WM cy ba ra (chO f hf w d0 3) hq kn th sm ++ (Y ++ [(b_2, .inl (cy 2, 4, .inl (gcF f (chO f hf w d0 3) w k)))])) [some (.ref (ba 9)), some (.int (nI w)), some (.int (nI d0)), some (.int (nI (f 1 w))), some (.ref b_2), some (.int (nI k))] 68 [] := by
            intro d
            induction d with
            | zero =>
              intro k hk
              refine r_iload C dX4_changed_68 rfl ?_
              refine r_iconst (v := (nI 4)) C dX4_changed_70 (by decide) ?_
              refine r_icN_ge (a := k) (b := 4) (tgt := 124) C (by first | omega | (simp [up2, *]; done) | (simp [up2, *]; omega) | (simp only [up2_eq]; omega) | (split <;> omega)) (by first | omega | (simp [up2, *]; done) | (simp [up2, *]; omega) | (simp only [up2_eq]; omega) | (split <;> omega)) dX4_changed_71 (by decide) (fun h71_3 => ?_) (fun h71_3 => ?_)
              · first
                | exfalso; first | omega | contradiction
                | skip
                  have e9 : k = 4 := by omega
                  subst e9
                  refine r_iconst (v := (nI 0)) C dX4_changed_124 (by decide) ?_
                  refine r_istore C dX4_changed_125 (by decide) rfl ?_
                  refine r_w (w' := WM cy ba ra (chT f (chO f hf w d0 3) w 0) hq kn th sm ++ (Y ++ [(b_2, .inl (cy 2, 4, .inl (gcF f (chO f hf w d0 3) w 4)))])) (by rw [chT_0]) ?_
                  have L127 : ∀ (d : Nat) (k : Nat), (hk : k + d = 4) → vC p l e (rmk 5 1 4 170) s m args below meth c D A (vx_MQ below (vG (fun v1 w1 => v1 = none ∧ w1 = WM cy ba ra (chM f hf w d0) hq kn th sm ++ Y) D vwCl A) (vGX (fun _ => False) D vwCl (WM cy ba ra hf hq kn th sm ++ Y) A) args s (rmk 5 1 4 170).cells (rmk 5 1 4 170).slots A) 6 1 4 (WM cy ba ra (chT f (chO f hf w d0 3) w k) hq kn th sm ++ (Y ++ [(b_2, .inl (cy 2, 4, .inl (gcF f (chO f hf w d0 3) w 4)))])) [some (.ref (ba 9)), some (.int (nI w)), some (.int (nI d0)), some (.int (nI (f 1 w))), some (.ref b_2), some (.int (nI k))] 127 [] := by
                    intro d
                    induction d with
                    | zero =>
                      intro k hk
                      refine r_iload C dX4_changed_127 rfl ?_
                      refine r_iconst (v := (nI 4)) C dX4_changed_129 (by decide) ?_
                      refine r_icN_ge (a := k) (b := 4) (tgt := 155) C (by first | omega | (simp [up2, *]; done) | (simp [up2, *]; omega) | (simp only [up2_eq]; omega) | (split <;> omega)) (by first | omega | (simp [up2, *]; done) | (simp [up2, *]; omega) | (simp only [up2_eq]; omega) | (split <;> omega)) dX4_changed_130 (by decide) (fun h130_4 => ?_) (fun h130_4 => ?_)
                      · first
                        | exfalso; first | omega | contradiction
                        | skip
                          have e9 : k = 4 := by omega
                          subst e9
                          refine r_pre ?_
                          exact r_vret C hr dX4_changed_155 ⟨rfl, rfl⟩ (Nat.le_of_ble_eq_true rfl) (Nat.le_of_ble_eq_true rfl)
                      · first
                        | exfalso; first | omega | contradiction
                        | skip
                          refine r_aload C dX4_changed_133 rfl ?_
                          refine r_iload C dX4_changed_135 rfl ?_
                          refine x_zld C (i := k) (f := gcF f (chO f hf w d0 3) w 4) 0 rfl (by first | omega | (simp [up2, *]; done) | (simp [up2, *]; omega) | (simp only [up2_eq]; omega) | (split <;> omega)) (by first | omega | (simp [up2, *]; done) | (simp [up2, *]; omega) | (simp only [up2_eq]; omega) | (split <;> omega)) dX4_changed_137 ?_
                          refine r_eqi (show (gcF f (chO f hf w d0 3) w 4) k = (nI (goF f (chO f hf w d0 3) w k)) from gcF_at (by omega)) ?_
                          refine r_ifN_eq (a := (goF f (chO f hf w d0 3) w k)) (tgt := 149) C (Nat.lt_of_le_of_lt (goF_le _ _ _ _) (by decide)) dX4_changed_138 (by decide) (fun h138_5 => ?_) (fun h138_5 => ?_)
                          · first
                            | exfalso; first | omega | contradiction
                            | skip
                              refine r_iincN C dX4_changed_149 rfl (by decide) rfl ?_
                              refine r_goto (tgt := 127) C dX4_changed_152 (by decide) ?_
                              refine r_w (w' := WM cy ba ra (chT f (chO f hf w d0 3) w (k + 1)) hq kn th sm ++ (Y ++ [(b_2, .inl (cy 2, 4, .inl (gcF f (chO f hf w d0 3) w 4)))])) (by rw [chT_no (by assumption)]) ?_
                              exact (Nat.not_lt_zero _ (by omega)).elim
                          · first
                            | exfalso; first | omega | contradiction
                            | skip
                              refine r_aload_n C dX4_changed_141 rfl ?_
                              refine m_get (v := .ref (ba 1)) C 1 (by decide) qf_X4_18 rfl rfl dX4_changed_142 ?_
                              refine r_iload C dX4_changed_145 rfl ?_
                              refine r_iconst (v := (nI 0)) C dX4_changed_147 (by decide) ?_
                              refine m_zst (i := k) (z := 4 + k) (v := 0) C 0 (by decide) (by decide) (show k < 4 from (by first | omega | (simp [up2, *]; done) | (simp [up2, *]; omega) | (simp only [up2_eq]; omega) | (split <;> omega))) (show 4 + k = 4 + k from (by omega)) (by first | omega | (simp [up2, *]; done) | (simp [up2, *]; omega) | (simp only [up2_eq]; omega) | (split <;> omega)) dX4_changed_148 ?_
                              refine r_w (w' := WM cy ba ra (up2 (chT f (chO f hf w d0 3) w k) 5 (4 + k) 0) hq kn th sm ++ (Y ++ [(b_2, .inl (cy 2, 4, .inl (gcF f (chO f hf w d0 3) w 4)))])) rfl ?_
                              refine r_iincN C dX4_changed_149 rfl (by decide) rfl ?_
                              refine r_goto (tgt := 127) C dX4_changed_152 (by decide) ?_
                              refine r_w (w' := WM cy ba ra (chT f (chO f hf w d0 3) w (k + 1)) hq kn th sm ++ (Y ++ [(b_2, .inl (cy 2, 4, .inl (gcF f (chO f hf w d0 3) w 4)))])) (by rw [chT_yes (by assumption)]) ?_
                              exact (Nat.not_lt_zero _ (by omega)).elim
                    | succ d ih_L127 =>
                      intro k hk
                      refine r_iload C dX4_changed_127 rfl ?_
                      refine r_iconst (v := (nI 4)) C dX4_changed_129 (by decide) ?_
                      refine r_icN_ge (a := k) (b := 4) (tgt := 155) C (by first | omega | (simp [up2, *]; done) | (simp [up2, *]; omega) | (simp only [up2_eq]; omega) | (split <;> omega)) (by first | omega | (simp [up2, *]; done) | (simp [up2, *]; omega) | (simp only [up2_eq]; omega) | (split <;> omega)) dX4_changed_130 (by decide) (fun h130_6 => ?_) (fun h130_6 => ?_)
                      · first
                        | exfalso; first | omega | contradiction
                        | skip
                          have e9 : k = 4 := by omega
                          subst e9
                          refine r_pre ?_
                          exact r_vret C hr dX4_changed_155 ⟨rfl, rfl⟩ (Nat.le_of_ble_eq_true rfl) (Nat.le_of_ble_eq_true rfl)
                      · first
                        | exfalso; first | omega | contradiction
                        | skip
                          refine r_aload C dX4_changed_133 rfl ?_
                          refine r_iload C dX4_changed_135 rfl ?_
                          refine x_zld C (i := k) (f := gcF f (chO f hf w d0 3) w 4) 0 rfl (by first | omega | (simp [up2, *]; done) | (simp [up2, *]; omega) | (simp only [up2_eq]; omega) | (split <;> omega)) (by first | omega | (simp [up2, *]; done) | (simp [up2, *]; omega) | (simp only [up2_eq]; omega) | (split <;> omega)) dX4_changed_137 ?_
                          refine r_eqi (show (gcF f (chO f hf w d0 3) w 4) k = (nI (goF f (chO f hf w d0 3) w k)) from gcF_at (by omega)) ?_
                          refine r_ifN_eq (a := (goF f (chO f hf w d0 3) w k)) (tgt := 149) C (Nat.lt_of_le_of_lt (goF_le _ _ _ _) (by decide)) dX4_changed_138 (by decide) (fun h138_7 => ?_) (fun h138_7 => ?_)
                          · first
                            | exfalso; first | omega | contradiction
                            | skip
                              refine r_iincN C dX4_changed_149 rfl (by decide) rfl ?_
                              refine r_goto (tgt := 127) C dX4_changed_152 (by decide) ?_
                              refine r_w (w' := WM cy ba ra (chT f (chO f hf w d0 3) w (k + 1)) hq kn th sm ++ (Y ++ [(b_2, .inl (cy 2, 4, .inl (gcF f (chO f hf w d0 3) w 4)))])) (by rw [chT_no (by assumption)]) ?_
                              exact ih_L127 (k + 1) (by first | omega | (simp [up2, *]; done) | (simp [up2, *]; omega) | (simp only [up2_eq]; omega) | (split <;> omega))
                          · first
                            | exfalso; first | omega | contradiction
                            | skip
                              refine r_aload_n C dX4_changed_141 rfl ?_
                              refine m_get (v := .ref (ba 1)) C 1 (by decide) qf_X4_18 rfl rfl dX4_changed_142 ?_
                              refine r_iload C dX4_changed_145 rfl ?_
                              refine r_iconst (v := (nI 0)) C dX4_changed_147 (by decide) ?_
                              refine m_zst (i := k) (z := 4 + k) (v := 0) C 0 (by decide) (by decide) (show k < 4 from (by first | omega | (simp [up2, *]; done) | (simp [up2, *]; omega) | (simp only [up2_eq]; omega) | (split <;> omega))) (show 4 + k = 4 + k from (by omega)) (by first | omega | (simp [up2, *]; done) | (simp [up2, *]; omega) | (simp only [up2_eq]; omega) | (split <;> omega)) dX4_changed_148 ?_
                              refine r_w (w' := WM cy ba ra (up2 (chT f (chO f hf w d0 3) w k) 5 (4 + k) 0) hq kn th sm ++ (Y ++ [(b_2, .inl (cy 2, 4, .inl (gcF f (chO f hf w d0 3) w 4)))])) rfl ?_
                              refine r_iincN C dX4_changed_149 rfl (by decide) rfl ?_
                              refine r_goto (tgt := 127) C dX4_changed_152 (by decide) ?_
                              refine r_w (w' := WM cy ba ra (chT f (chO f hf w d0 3) w (k + 1)) hq kn th sm ++ (Y ++ [(b_2, .inl (cy 2, 4, .inl (gcF f (chO f hf w d0 3) w 4)))])) (by rw [chT_yes (by assumption)]) ?_
                              exact ih_L127 (k + 1) (by first | omega | (simp [up2, *]; done) | (simp [up2, *]; omega) | (simp only [up2_eq]; omega) | (split <;> omega))
                  exact L127 4 0 (by first | omega | (simp [up2, *]; done) | (simp [up2, *]; omega) | (simp only [up2_eq]; omega) | (split <;> omega))
              · first
                | exfalso; first | omega | contradiction
                | skip
                  refine r_aload C dX4_changed_74 rfl ?_
                  refine r_iload C dX4_changed_76 rfl ?_
                  refine r_aload_n C dX4_changed_78 rfl ?_
                  refine m_get (v := .ref (ba 1)) C 1 (by decide) qf_X4_18 rfl rfl dX4_changed_79 ?_
                  refine r_iload C dX4_changed_82 rfl ?_
                  refine m_zld (i := k) (z := 4 + k) (v := hf 5 (4 + k)) C 0 (by decide) (by decide) (show k < 4 from (by first | omega | (simp [up2, *]; done) | (simp [up2, *]; omega) | (simp only [up2_eq]; omega) | (split <;> omega))) (show 4 + k = 4 + k from (by omega)) rfl dX4_changed_84 ?_
                  refine r_ifN_eq (a := (hf 5 (4 + k))) (tgt := 116) C (by have := h5M (4 + k) (by omega) (by omega); omega) dX4_changed_85 (by decide) (fun h85_8 => ?_) (fun h85_8 => ?_)
                  · first
                    | exfalso; first | omega | contradiction
                    | skip
                      refine r_iconst (v := (nI 0)) C dX4_changed_116 (by decide) ?_
                      refine x_zst C (i := k) (v := 0) (f := gcF f (chO f hf w d0 3) w k) (E' := [(b_2, .inl (cy 2, 4, .inl (upd (gcF f (chO f hf w d0 3) w k) k (nI 0))))]) 0 rfl (by first | omega | (simp [up2, *]; done) | (simp [up2, *]; omega) | (simp only [up2_eq]; omega) | (split <;> omega)) (by first | omega | (simp [up2, *]; done) | (simp [up2, *]; omega) | (simp only [up2_eq]; omega) | (split <;> omega)) (by first | omega | (simp [up2, *]; done) | (simp [up2, *]; omega) | (simp only [up2_eq]; omega) | (split <;> omega)) rfl dX4_changed_117 ?_
                      refine r_iincN C dX4_changed_118 rfl (by decide) rfl ?_
                      refine r_goto (tgt := 68) C dX4_changed_121 (by decide) ?_
                      refine r_w (w' := WM cy ba ra (chO f hf w d0 3) hq kn th sm ++ (Y ++ [(b_2, .inl (cy 2, 4, .inl (gcF f (chO f hf w d0 3) w (k + 1))))])) (by rw [gcF_up (go0 (hf := chO f hf w d0 3) (show hf 5 (4 + k) = 0 ∨ f 1 (4 + k) ≠ f 1 w ∨ hol f (4 + k) w ≠ 0 by omega))]) ?_
                      exact (Nat.not_lt_zero _ (by omega)).elim
                  · first
                    | exfalso; first | omega | contradiction
                    | skip
                      refine r_aload_n C dX4_changed_88 rfl ?_
                      refine r_iconst (v := (nI 4)) C dX4_changed_89 (by decide) ?_
                      refine r_iload C dX4_changed_90 rfl ?_
                      refine r_iaddN C dX4_changed_92 ?_
                      refine d_V (st := [.int (nI k), .ref b_2]) hX.1.stb C hE (D_rowOf (ba := ba) (ra := ra) (hf := (chO f hf w d0 3)) (hq := hq) (kn := kn) (th := th) (sm := sm) (f := f) (w := (4 + k)) hX hC (MG.same (fun _ => rfl) (fun _ => rfl) hG) (by first | omega | (simp [up2, *]; done) | (simp [up2, *]; omega) | (simp only [up2_eq]; omega) | (split <;> omega)) (by have := h5M (4 + k) (by omega) (by omega); omega)) pk_X4_rowOf qm_X4_48 0 8 rfl rfl wm_0 rfl rfl (Nat.le_of_ble_eq_true rfl) dX4_changed_93 ⟨(Nat.le_of_ble_eq_true rfl), (Nat.le_of_ble_eq_true rfl)⟩ ⟨(Nat.le_of_ble_eq_true rfl), (Nat.le_of_ble_eq_true rfl)⟩ ?_
                      refine r_w (w' := WM cy ba ra (chO f hf w d0 3) hq kn th sm ++ (Y ++ [(b_2, .inl (cy 2, 4, .inl (gcF f (chO f hf w d0 3) w k)))])) rfl ?_
                      refine r_iload_n C dX4_changed_96 rfl ?_
                      refine r_icN_ne (a := (f 1 (4 + k))) (b := (f 1 w)) (tgt := 116) C (by have := hC.al (i := 4 + k) (by omega); omega) (by first | omega | (simp [up2, *]; done) | (simp [up2, *]; omega) | (simp only [up2_eq]; omega) | (split <;> omega)) dX4_changed_97 (by decide) (fun h97_9 => ?_) (fun h97_9 => ?_)
                      · first
                        | exfalso; first | omega | contradiction
                        | skip
                          refine r_iconst (v := (nI 0)) C dX4_changed_116 (by decide) ?_
                          refine x_zst C (i := k) (v := 0) (f := gcF f (chO f hf w d0 3) w k) (E' := [(b_2, .inl (cy 2, 4, .inl (upd (gcF f (chO f hf w d0 3) w k) k (nI 0))))]) 0 rfl (by first | omega | (simp [up2, *]; done) | (simp [up2, *]; omega) | (simp only [up2_eq]; omega) | (split <;> omega)) (by first | omega | (simp [up2, *]; done) | (simp [up2, *]; omega) | (simp only [up2_eq]; omega) | (split <;> omega)) (by first | omega | (simp [up2, *]; done) | (simp [up2, *]; omega) | (simp only [up2_eq]; omega) | (split <;> omega)) rfl dX4_changed_117 ?_
                          refine r_iincN C dX4_changed_118 rfl (by decide) rfl ?_
                          refine r_goto (tgt := 68) C dX4_changed_121 (by decide) ?_
                          refine r_w (w' := WM cy ba ra (chO f hf w d0 3) hq kn th sm ++ (Y ++ [(b_2, .inl (cy 2, 4, .inl (gcF f (chO f hf w d0 3) w (k + 1))))])) (by rw [gcF_up (go0 (hf := chO f hf w d0 3) (show hf 5 (4 + k) = 0 ∨ f 1 (4 + k) ≠ f 1 w ∨ hol f (4 + k) w ≠ 0 by omega))]) ?_
                          exact (Nat.not_lt_zero _ (by omega)).elim
                      · first
                        | exfalso; first | omega | contradiction
                        | skip
                          refine r_aload_n C dX4_changed_100 rfl ?_
                          refine r_iconst (v := (nI 4)) C dX4_changed_101 (by decide) ?_
                          refine r_iload C dX4_changed_102 rfl ?_
                          refine r_iaddN C dX4_changed_104 ?_
                          refine r_iload_n C dX4_changed_105 rfl ?_
                          refine d_V (st := [.int (nI k), .ref b_2]) hX.1.stb C hE (D_isHolder (ba := ba) (ra := ra) (hf := (chO f hf w d0 3)) (hq := hq) (kn := kn) (th := th) (sm := sm) (f := f) (h0 := (4 + k)) (w := w) hX hC (MG.same (fun _ => rfl) (fun _ => rfl) hG) (by first | omega | (simp [up2, *]; done) | (simp [up2, *]; omega) | (simp only [up2_eq]; omega) | (split <;> omega)) (by first | omega | (simp [up2, *]; done) | (simp [up2, *]; omega) | (simp only [up2_eq]; omega) | (split <;> omega)) (by first | omega | (simp [up2, *]; done) | (simp [up2, *]; omega) | (simp only [up2_eq]; omega) | (split <;> omega))) pk_X4_isHolder qm_X4_66 0 8 rfl rfl wm_0 rfl rfl (Nat.le_of_ble_eq_true rfl) dX4_changed_106 ⟨(Nat.le_of_ble_eq_true rfl), (Nat.le_of_ble_eq_true rfl)⟩ ⟨(Nat.le_of_ble_eq_true rfl), (Nat.le_of_ble_eq_true rfl)⟩ ?_
                          refine r_w (w' := WM cy ba ra (chO f hf w d0 3) hq kn th sm ++ (Y ++ [(b_2, .inl (cy 2, 4, .inl (gcF f (chO f hf w d0 3) w k)))])) rfl ?_
                          refine r_ifN_ne (a := (hol f (4 + k) w)) (tgt := 116) C (Nat.lt_of_le_of_lt (hol_le _ _ _) (by decide)) dX4_changed_109 (by decide) (fun h109_10 => ?_) (fun h109_10 => ?_)
                          · first
                            | exfalso; first | omega | contradiction
                            | skip
                              refine r_iconst (v := (nI 0)) C dX4_changed_116 (by decide) ?_
                              refine x_zst C (i := k) (v := 0) (f := gcF f (chO f hf w d0 3) w k) (E' := [(b_2, .inl (cy 2, 4, .inl (upd (gcF f (chO f hf w d0 3) w k) k (nI 0))))]) 0 rfl (by first | omega | (simp [up2, *]; done) | (simp [up2, *]; omega) | (simp only [up2_eq]; omega) | (split <;> omega)) (by first | omega | (simp [up2, *]; done) | (simp [up2, *]; omega) | (simp only [up2_eq]; omega) | (split <;> omega)) (by first | omega | (simp [up2, *]; done) | (simp [up2, *]; omega) | (simp only [up2_eq]; omega) | (split <;> omega)) rfl dX4_changed_117 ?_
                              refine r_iincN C dX4_changed_118 rfl (by decide) rfl ?_
                              refine r_goto (tgt := 68) C dX4_changed_121 (by decide) ?_
                              refine r_w (w' := WM cy ba ra (chO f hf w d0 3) hq kn th sm ++ (Y ++ [(b_2, .inl (cy 2, 4, .inl (gcF f (chO f hf w d0 3) w (k + 1))))])) (by rw [gcF_up (go0 (hf := chO f hf w d0 3) (show hf 5 (4 + k) = 0 ∨ f 1 (4 + k) ≠ f 1 w ∨ hol f (4 + k) w ≠ 0 by omega))]) ?_
                              exact (Nat.not_lt_zero _ (by omega)).elim
                          · first
                            | exfalso; first | omega | contradiction
                            | skip
                              refine r_iconst (v := (nI 1)) C dX4_changed_112 (by decide) ?_
                              refine r_goto (tgt := 117) C dX4_changed_113 (by decide) ?_
                              refine x_zst C (i := k) (v := 1) (f := gcF f (chO f hf w d0 3) w k) (E' := [(b_2, .inl (cy 2, 4, .inl (upd (gcF f (chO f hf w d0 3) w k) k (nI 1))))]) 0 rfl (by first | omega | (simp [up2, *]; done) | (simp [up2, *]; omega) | (simp only [up2_eq]; omega) | (split <;> omega)) (by first | omega | (simp [up2, *]; done) | (simp [up2, *]; omega) | (simp only [up2_eq]; omega) | (split <;> omega)) (by first | omega | (simp [up2, *]; done) | (simp [up2, *]; omega) | (simp only [up2_eq]; omega) | (split <;> omega)) rfl dX4_changed_117 ?_
                              refine r_iincN C dX4_changed_118 rfl (by decide) rfl ?_
                              refine r_goto (tgt := 68) C dX4_changed_121 (by decide) ?_
                              refine r_w (w' := WM cy ba ra (chO f hf w d0 3) hq kn th sm ++ (Y ++ [(b_2, .inl (cy 2, 4, .inl (gcF f (chO f hf w d0 3) w (k + 1))))])) (by rw [gcF_up (go1 (hf := chO f hf w d0 3) (show hf 5 (4 + k) ≠ 0 by assumption) (by assumption) (by omega))]) ?_
                              exact (Nat.not_lt_zero _ (by omega)).elim
            | succ d ih_L68 =>
              intro k hk
              refine r_iload C dX4_changed_68 rfl ?_
              refine r_iconst (v := (nI 4)) C dX4_changed_70 (by decide) ?_
              refine r_icN_ge (a := k) (b := 4) (tgt := 124) C (by first | omega | (simp [up2, *]; done) | (simp [up2, *]; omega) | (simp only [up2_eq]; omega) | (split <;> omega)) (by first | omega | (simp [up2, *]; done) | (simp [up2, *]; omega) | (simp only [up2_eq]; omega) | (split <;> omega)) dX4_changed_71 (by decide) (fun h71_11 => ?_) (fun h71_11 => ?_)
              · first
                | exfalso; first | omega | contradiction
                | skip
                  have e9 : k = 4 := by omega
                  subst e9
                  refine r_iconst (v := (nI 0)) C dX4_changed_124 (by decide) ?_
                  refine r_istore C dX4_changed_125 (by decide) rfl ?_
                  refine r_w (w' := WM cy ba ra (chT f (chO f hf w d0 3) w 0) hq kn th sm ++ (Y ++ [(b_2, .inl (cy 2, 4, .inl (gcF f (chO f hf w d0 3) w 4)))])) (by rw [chT_0]) ?_
                  have L127 : ∀ (d : Nat) (k : Nat), (hk : k + d = 4) → vC p l e (rmk 5 1 4 170) s m args below meth c D A (vx_MQ below (vG (fun v1 w1 => v1 = none ∧ w1 = WM cy ba ra (chM f hf w d0) hq kn th sm ++ Y) D vwCl A) (vGX (fun _ => False) D vwCl (WM cy ba ra hf hq kn th sm ++ Y) A) args s (rmk 5 1 4 170).cells (rmk 5 1 4 170).slots A) 6 1 4 (WM cy ba ra (chT f (chO f hf w d0 3) w k) hq kn th sm ++ (Y ++ [(b_2, .inl (cy 2, 4, .inl (gcF f (chO f hf w d0 3) w 4)))])) [some (.ref (ba 9)), some (.int (nI w)), some (.int (nI d0)), some (.int (nI (f 1 w))), some (.ref b_2), some (.int (nI k))] 127 [] := by
                    intro d
                    induction d with
                    | zero =>
                      intro k hk
                      refine r_iload C dX4_changed_127 rfl ?_
                      refine r_iconst (v := (nI 4)) C dX4_changed_129 (by decide) ?_
                      refine r_icN_ge (a := k) (b := 4) (tgt := 155) C (by first | omega | (simp [up2, *]; done) | (simp [up2, *]; omega) | (simp only [up2_eq]; omega) | (split <;> omega)) (by first | omega | (simp [up2, *]; done) | (simp [up2, *]; omega) | (simp only [up2_eq]; omega) | (split <;> omega)) dX4_changed_130 (by decide) (fun h130_12 => ?_) (fun h130_12 => ?_)
                      · first
                        | exfalso; first | omega | contradiction
                        | skip
                          have e9 : k = 4 := by omega
                          subst e9
                          refine r_pre ?_
                          exact r_vret C hr dX4_changed_155 ⟨rfl, rfl⟩ (Nat.le_of_ble_eq_true rfl) (Nat.le_of_ble_eq_true rfl)
                      · first
                        | exfalso; first | omega | contradiction
                        | skip
                          refine r_aload C dX4_changed_133 rfl ?_
                          refine r_iload C dX4_changed_135 rfl ?_
                          refine x_zld C (i := k) (f := gcF f (chO f hf w d0 3) w 4) 0 rfl (by first | omega | (simp [up2, *]; done) | (simp [up2, *]; omega) | (simp only [up2_eq]; omega) | (split <;> omega)) (by first | omega | (simp [up2, *]; done) | (simp [up2, *]; omega) | (simp only [up2_eq]; omega) | (split <;> omega)) dX4_changed_137 ?_
                          refine r_eqi (show (gcF f (chO f hf w d0 3) w 4) k = (nI (goF f (chO f hf w d0 3) w k)) from gcF_at (by omega)) ?_
                          refine r_ifN_eq (a := (goF f (chO f hf w d0 3) w k)) (tgt := 149) C (Nat.lt_of_le_of_lt (goF_le _ _ _ _) (by decide)) dX4_changed_138 (by decide) (fun h138_13 => ?_) (fun h138_13 => ?_)
                          · first
                            | exfalso; first | omega | contradiction
                            | skip
                              refine r_iincN C dX4_changed_149 rfl (by decide) rfl ?_
                              refine r_goto (tgt := 127) C dX4_changed_152 (by decide) ?_
                              refine r_w (w' := WM cy ba ra (chT f (chO f hf w d0 3) w (k + 1)) hq kn th sm ++ (Y ++ [(b_2, .inl (cy 2, 4, .inl (gcF f (chO f hf w d0 3) w 4)))])) (by rw [chT_no (by assumption)]) ?_
                              exact (Nat.not_lt_zero _ (by omega)).elim
                          · first
                            | exfalso; first | omega | contradiction
                            | skip
                              refine r_aload_n C dX4_changed_141 rfl ?_
                              refine m_get (v := .ref (ba 1)) C 1 (by decide) qf_X4_18 rfl rfl dX4_changed_142 ?_
                              refine r_iload C dX4_changed_145 rfl ?_
                              refine r_iconst (v := (nI 0)) C dX4_changed_147 (by decide) ?_
                              refine m_zst (i := k) (z := 4 + k) (v := 0) C 0 (by decide) (by decide) (show k < 4 from (by first | omega | (simp [up2, *]; done) | (simp [up2, *]; omega) | (simp only [up2_eq]; omega) | (split <;> omega))) (show 4 + k = 4 + k from (by omega)) (by first | omega | (simp [up2, *]; done) | (simp [up2, *]; omega) | (simp only [up2_eq]; omega) | (split <;> omega)) dX4_changed_148 ?_
                              refine r_w (w' := WM cy ba ra (up2 (chT f (chO f hf w d0 3) w k) 5 (4 + k) 0) hq kn th sm ++ (Y ++ [(b_2, .inl (cy 2, 4, .inl (gcF f (chO f hf w d0 3) w 4)))])) rfl ?_
                              refine r_iincN C dX4_changed_149 rfl (by decide) rfl ?_
                              refine r_goto (tgt := 127) C dX4_changed_152 (by decide) ?_
                              refine r_w (w' := WM cy ba ra (chT f (chO f hf w d0 3) w (k + 1)) hq kn th sm ++ (Y ++ [(b_2, .inl (cy 2, 4, .inl (gcF f (chO f hf w d0 3) w 4)))])) (by rw [chT_yes (by assumption)]) ?_
                              exact (Nat.not_lt_zero _ (by omega)).elim
                    | succ d ih_L127 =>
                      intro k hk
                      refine r_iload C dX4_changed_127 rfl ?_
                      refine r_iconst (v := (nI 4)) C dX4_changed_129 (by decide) ?_
                      refine r_icN_ge (a := k) (b := 4) (tgt := 155) C (by first | omega | (simp [up2, *]; done) | (simp [up2, *]; omega) | (simp only [up2_eq]; omega) | (split <;> omega)) (by first | omega | (simp [up2, *]; done) | (simp [up2, *]; omega) | (simp only [up2_eq]; omega) | (split <;> omega)) dX4_changed_130 (by decide) (fun h130_14 => ?_) (fun h130_14 => ?_)
                      · first
                        | exfalso; first | omega | contradiction
                        | skip
                          have e9 : k = 4 := by omega
                          subst e9
                          refine r_pre ?_
                          exact r_vret C hr dX4_changed_155 ⟨rfl, rfl⟩ (Nat.le_of_ble_eq_true rfl) (Nat.le_of_ble_eq_true rfl)
                      · first
                        | exfalso; first | omega | contradiction
                        | skip
                          refine r_aload C dX4_changed_133 rfl ?_
                          refine r_iload C dX4_changed_135 rfl ?_
                          refine x_zld C (i := k) (f := gcF f (chO f hf w d0 3) w 4) 0 rfl (by first | omega | (simp [up2, *]; done) | (simp [up2, *]; omega) | (simp only [up2_eq]; omega) | (split <;> omega)) (by first | omega | (simp [up2, *]; done) | (simp [up2, *]; omega) | (simp only [up2_eq]; omega) | (split <;> omega)) dX4_changed_137 ?_
                          refine r_eqi (show (gcF f (chO f hf w d0 3) w 4) k = (nI (goF f (chO f hf w d0 3) w k)) from gcF_at (by omega)) ?_
                          refine r_ifN_eq (a := (goF f (chO f hf w d0 3) w k)) (tgt := 149) C (Nat.lt_of_le_of_lt (goF_le _ _ _ _) (by decide)) dX4_changed_138 (by decide) (fun h138_15 => ?_) (fun h138_15 => ?_)
                          · first
                            | exfalso; first | omega | contradiction
                            | skip
                              refine r_iincN C dX4_changed_149 rfl (by decide) rfl ?_
                              refine r_goto (tgt := 127) C dX4_changed_152 (by decide) ?_
                              refine r_w (w' := WM cy ba ra (chT f (chO f hf w d0 3) w (k + 1)) hq kn th sm ++ (Y ++ [(b_2, .inl (cy 2, 4, .inl (gcF f (chO f hf w d0 3) w 4)))])) (by rw [chT_no (by assumption)]) ?_
                              exact ih_L127 (k + 1) (by first | omega | (simp [up2, *]; done) | (simp [up2, *]; omega) | (simp only [up2_eq]; omega) | (split <;> omega))
                          · first
                            | exfalso; first | omega | contradiction
                            | skip
                              refine r_aload_n C dX4_changed_141 rfl ?_
                              refine m_get (v := .ref (ba 1)) C 1 (by decide) qf_X4_18 rfl rfl dX4_changed_142 ?_
                              refine r_iload C dX4_changed_145 rfl ?_
                              refine r_iconst (v := (nI 0)) C dX4_changed_147 (by decide) ?_
                              refine m_zst (i := k) (z := 4 + k) (v := 0) C 0 (by decide) (by decide) (show k < 4 from (by first | omega | (simp [up2, *]; done) | (simp [up2, *]; omega) | (simp only [up2_eq]; omega) | (split <;> omega))) (show 4 + k = 4 + k from (by omega)) (by first | omega | (simp [up2, *]; done) | (simp [up2, *]; omega) | (simp only [up2_eq]; omega) | (split <;> omega)) dX4_changed_148 ?_
                              refine r_w (w' := WM cy ba ra (up2 (chT f (chO f hf w d0 3) w k) 5 (4 + k) 0) hq kn th sm ++ (Y ++ [(b_2, .inl (cy 2, 4, .inl (gcF f (chO f hf w d0 3) w 4)))])) rfl ?_
                              refine r_iincN C dX4_changed_149 rfl (by decide) rfl ?_
                              refine r_goto (tgt := 127) C dX4_changed_152 (by decide) ?_
                              refine r_w (w' := WM cy ba ra (chT f (chO f hf w d0 3) w (k + 1)) hq kn th sm ++ (Y ++ [(b_2, .inl (cy 2, 4, .inl (gcF f (chO f hf w d0 3) w 4)))])) (by rw [chT_yes (by assumption)]) ?_
                              exact ih_L127 (k + 1) (by first | omega | (simp [up2, *]; done) | (simp [up2, *]; omega) | (simp only [up2_eq]; omega) | (split <;> omega))
                  exact L127 4 0 (by first | omega | (simp [up2, *]; done) | (simp [up2, *]; omega) | (simp only [up2_eq]; omega) | (split <;> omega))
              · first
                | exfalso; first | omega | contradiction
                | skip
                  refine r_aload C dX4_changed_74 rfl ?_
                  refine r_iload C dX4_changed_76 rfl ?_
                  refine r_aload_n C dX4_changed_78 rfl ?_
                  refine m_get (v := .ref (ba 1)) C 1 (by decide) qf_X4_18 rfl rfl dX4_changed_79 ?_
                  refine r_iload C dX4_changed_82 rfl ?_
                  refine m_zld (i := k) (z := 4 + k) (v := hf 5 (4 + k)) C 0 (by decide) (by decide) (show k < 4 from (by first | omega | (simp [up2, *]; done) | (simp [up2, *]; omega) | (simp only [up2_eq]; omega) | (split <;> omega))) (show 4 + k = 4 + k from (by omega)) rfl dX4_changed_84 ?_
                  refine r_ifN_eq (a := (hf 5 (4 + k))) (tgt := 116) C (by have := h5M (4 + k) (by omega) (by omega); omega) dX4_changed_85 (by decide) (fun h85_16 => ?_) (fun h85_16 => ?_)
                  · first
                    | exfalso; first | omega | contradiction
                    | skip
                      refine r_iconst (v := (nI 0)) C dX4_changed_116 (by decide) ?_
                      refine x_zst C (i := k) (v := 0) (f := gcF f (chO f hf w d0 3) w k) (E' := [(b_2, .inl (cy 2, 4, .inl (upd (gcF f (chO f hf w d0 3) w k) k (nI 0))))]) 0 rfl (by first | omega | (simp [up2, *]; done) | (simp [up2, *]; omega) | (simp only [up2_eq]; omega) | (split <;> omega)) (by first | omega | (simp [up2, *]; done) | (simp [up2, *]; omega) | (simp only [up2_eq]; omega) | (split <;> omega)) (by first | omega | (simp [up2, *]; done) | (simp [up2, *]; omega) | (simp only [up2_eq]; omega) | (split <;> omega)) rfl dX4_changed_117 ?_
                      refine r_iincN C dX4_changed_118 rfl (by decide) rfl ?_
                      refine r_goto (tgt := 68) C dX4_changed_121 (by decide) ?_
                      refine r_w (w' := WM cy ba ra (chO f hf w d0 3) hq kn th sm ++ (Y ++ [(b_2, .inl (cy 2, 4, .inl (gcF f (chO f hf w d0 3) w (k + 1))))])) (by rw [gcF_up (go0 (hf := chO f hf w d0 3) (show hf 5 (4 + k) = 0 ∨ f 1 (4 + k) ≠ f 1 w ∨ hol f (4 + k) w ≠ 0 by omega))]) ?_
                      exact ih_L68 (k + 1) (by first | omega | (simp [up2, *]; done) | (simp [up2, *]; omega) | (simp only [up2_eq]; omega) | (split <;> omega))
                  · first
                    | exfalso; first | omega | contradiction
                    | skip
                      refine r_aload_n C dX4_changed_88 rfl ?_
                      refine r_iconst (v := (nI 4)) C dX4_changed_89 (by decide) ?_
                      refine r_iload C dX4_changed_90 rfl ?_
                      refine r_iaddN C dX4_changed_92 ?_
                      refine d_V (st := [.int (nI k), .ref b_2]) hX.1.stb C hE (D_rowOf (ba := ba) (ra := ra) (hf := (chO f hf w d0 3)) (hq := hq) (kn := kn) (th := th) (sm := sm) (f := f) (w := (4 + k)) hX hC (MG.same (fun _ => rfl) (fun _ => rfl) hG) (by first | omega | (simp [up2, *]; done) | (simp [up2, *]; omega) | (simp only [up2_eq]; omega) | (split <;> omega)) (by have := h5M (4 + k) (by omega) (by omega); omega)) pk_X4_rowOf qm_X4_48 0 8 rfl rfl wm_0 rfl rfl (Nat.le_of_ble_eq_true rfl) dX4_changed_93 ⟨(Nat.le_of_ble_eq_true rfl), (Nat.le_of_ble_eq_true rfl)⟩ ⟨(Nat.le_of_ble_eq_true rfl), (Nat.le_of_ble_eq_true rfl)⟩ ?_
                      refine r_w (w' := WM cy ba ra (chO f hf w d0 3) hq kn th sm ++ (Y ++ [(b_2, .inl (cy 2, 4, .inl (gcF f (chO f hf w d0 3) w k)))])) rfl ?_
                      refine r_iload_n C dX4_changed_96 rfl ?_
                      refine r_icN_ne (a := (f 1 (4 + k))) (b := (f 1 w)) (tgt := 116) C (by have := hC.al (i := 4 + k) (by omega); omega) (by first | omega | (simp [up2, *]; done) | (simp [up2, *]; omega) | (simp only [up2_eq]; omega) | (split <;> omega)) dX4_changed_97 (by decide) (fun h97_17 => ?_) (fun h97_17 => ?_)
                      · first
                        | exfalso; first | omega | contradiction
                        | skip
                          refine r_iconst (v := (nI 0)) C dX4_changed_116 (by decide) ?_
                          refine x_zst C (i := k) (v := 0) (f := gcF f (chO f hf w d0 3) w k) (E' := [(b_2, .inl (cy 2, 4, .inl (upd (gcF f (chO f hf w d0 3) w k) k (nI 0))))]) 0 rfl (by first | omega | (simp [up2, *]; done) | (simp [up2, *]; omega) | (simp only [up2_eq]; omega) | (split <;> omega)) (by first | omega | (simp [up2, *]; done) | (simp [up2, *]; omega) | (simp only [up2_eq]; omega) | (split <;> omega)) (by first | omega | (simp [up2, *]; done) | (simp [up2, *]; omega) | (simp only [up2_eq]; omega) | (split <;> omega)) rfl dX4_changed_117 ?_
                          refine r_iincN C dX4_changed_118 rfl (by decide) rfl ?_
                          refine r_goto (tgt := 68) C dX4_changed_121 (by decide) ?_
                          refine r_w (w' := WM cy ba ra (chO f hf w d0 3) hq kn th sm ++ (Y ++ [(b_2, .inl (cy 2, 4, .inl (gcF f (chO f hf w d0 3) w (k + 1))))])) (by rw [gcF_up (go0 (hf := chO f hf w d0 3) (show hf 5 (4 + k) = 0 ∨ f 1 (4 + k) ≠ f 1 w ∨ hol f (4 + k) w ≠ 0 by omega))]) ?_
                          exact ih_L68 (k + 1) (by first | omega | (simp [up2, *]; done) | (simp [up2, *]; omega) | (simp only [up2_eq]; omega) | (split <;> omega))
                      · first
                        | exfalso; first | omega | contradiction
                        | skip
                          refine r_aload_n C dX4_changed_100 rfl ?_
                          refine r_iconst (v := (nI 4)) C dX4_changed_101 (by decide) ?_
                          refine r_iload C dX4_changed_102 rfl ?_
                          refine r_iaddN C dX4_changed_104 ?_
                          refine r_iload_n C dX4_changed_105 rfl ?_
                          refine d_V (st := [.int (nI k), .ref b_2]) hX.1.stb C hE (D_isHolder (ba := ba) (ra := ra) (hf := (chO f hf w d0 3)) (hq := hq) (kn := kn) (th := th) (sm := sm) (f := f) (h0 := (4 + k)) (w := w) hX hC (MG.same (fun _ => rfl) (fun _ => rfl) hG) (by first | omega | (simp [up2, *]; done) | (simp [up2, *]; omega) | (simp only [up2_eq]; omega) | (split <;> omega)) (by first | omega | (simp [up2, *]; done) | (simp [up2, *]; omega) | (simp only [up2_eq]; omega) | (split <;> omega)) (by first | omega | (simp [up2, *]; done) | (simp [up2, *]; omega) | (simp only [up2_eq]; omega) | (split <;> omega))) pk_X4_isHolder qm_X4_66 0 8 rfl rfl wm_0 rfl rfl (Nat.le_of_ble_eq_true rfl) dX4_changed_106 ⟨(Nat.le_of_ble_eq_true rfl), (Nat.le_of_ble_eq_true rfl)⟩ ⟨(Nat.le_of_ble_eq_true rfl), (Nat.le_of_ble_eq_true rfl)⟩ ?_
                          refine r_w (w' := WM cy ba ra (chO f hf w d0 3) hq kn th sm ++ (Y ++ [(b_2, .inl (cy 2, 4, .inl (gcF f (chO f hf w d0 3) w k)))])) rfl ?_
                          refine r_ifN_ne (a := (hol f (4 + k) w)) (tgt := 116) C (Nat.lt_of_le_of_lt (hol_le _ _ _) (by decide)) dX4_changed_109 (by decide) (fun h109_18 => ?_) (fun h109_18 => ?_)
                          · first
                            | exfalso; first | omega | contradiction
                            | skip
                              refine r_iconst (v := (nI 0)) C dX4_changed_116 (by decide) ?_
                              refine x_zst C (i := k) (v := 0) (f := gcF f (chO f hf w d0 3) w k) (E' := [(b_2, .inl (cy 2, 4, .inl (upd (gcF f (chO f hf w d0 3) w k) k (nI 0))))]) 0 rfl (by first | omega | (simp [up2, *]; done) | (simp [up2, *]; omega) | (simp only [up2_eq]; omega) | (split <;> omega)) (by first | omega | (simp [up2, *]; done) | (simp [up2, *]; omega) | (simp only [up2_eq]; omega) | (split <;> omega)) (by first | omega | (simp [up2, *]; done) | (simp [up2, *]; omega) | (simp only [up2_eq]; omega) | (split <;> omega)) rfl dX4_changed_117 ?_
                              refine r_iincN C dX4_changed_118 rfl (by decide) rfl ?_
                              refine r_goto (tgt := 68) C dX4_changed_121 (by decide) ?_
                              refine r_w (w' := WM cy ba ra (chO f hf w d0 3) hq kn th sm ++ (Y ++ [(b_2, .inl (cy 2, 4, .inl (gcF f (chO f hf w d0 3) w (k + 1))))])) (by rw [gcF_up (go0 (hf := chO f hf w d0 3) (show hf 5 (4 + k) = 0 ∨ f 1 (4 + k) ≠ f 1 w ∨ hol f (4 + k) w ≠ 0 by omega))]) ?_
                              exact ih_L68 (k + 1) (by first | omega | (simp [up2, *]; done) | (simp [up2, *]; omega) | (simp only [up2_eq]; omega) | (split <;> omega))
                          · first
                            | exfalso; first | omega | contradiction
                            | skip
                              refine r_iconst (v := (nI 1)) C dX4_changed_112 (by decide) ?_
                              refine r_goto (tgt := 117) C dX4_changed_113 (by decide) ?_
                              refine x_zst C (i := k) (v := 1) (f := gcF f (chO f hf w d0 3) w k) (E' := [(b_2, .inl (cy 2, 4, .inl (upd (gcF f (chO f hf w d0 3) w k) k (nI 1))))]) 0 rfl (by first | omega | (simp [up2, *]; done) | (simp [up2, *]; omega) | (simp only [up2_eq]; omega) | (split <;> omega)) (by first | omega | (simp [up2, *]; done) | (simp [up2, *]; omega) | (simp only [up2_eq]; omega) | (split <;> omega)) (by first | omega | (simp [up2, *]; done) | (simp [up2, *]; omega) | (simp only [up2_eq]; omega) | (split <;> omega)) rfl dX4_changed_117 ?_
                              refine r_iincN C dX4_changed_118 rfl (by decide) rfl ?_
                              refine r_goto (tgt := 68) C dX4_changed_121 (by decide) ?_
                              refine r_w (w' := WM cy ba ra (chO f hf w d0 3) hq kn th sm ++ (Y ++ [(b_2, .inl (cy 2, 4, .inl (gcF f (chO f hf w d0 3) w (k + 1))))])) (by rw [gcF_up (go1 (hf := chO f hf w d0 3) (show hf 5 (4 + k) ≠ 0 by assumption) (by assumption) (by omega))]) ?_
                              exact ih_L68 (k + 1) (by first | omega | (simp [up2, *]; done) | (simp [up2, *]; omega) | (simp only [up2_eq]; omega) | (split <;> omega))
          exact L68 4 0 (by first | omega | (simp [up2, *]; done) | (simp [up2, *]; omega) | (simp only [up2_eq]; omega) | (split <;> omega))
      · first
        | exfalso; first | omega | contradiction
        | skip
          refine r_iload C dX4_changed_15 rfl ?_
          refine r_iload_n C dX4_changed_17 rfl ?_
          refine r_icN_eq (a := k) (b := d0) (tgt := 54) C (by first | omega | (simp [up2, *]; done) | (simp [up2, *]; omega) | (simp only [up2_eq]; omega) | (split <;> omega)) (by first | omega | (simp [up2, *]; done) | (simp [up2, *]; omega) | (simp only [up2_eq]; omega) | (split <;> omega)) dX4_changed_18 (by decide) (fun h18_19 => ?_) (fun h18_19 => ?_)
          · first
            | exfalso; first | omega | contradiction
            | skip
              refine r_iincN C dX4_changed_54 rfl (by decide) rfl ?_
              refine r_goto (tgt := 9) C dX4_changed_57 (by decide) ?_
              refine r_w (w' := WM cy ba ra (chO f hf w d0 (k + 1)) hq kn th sm ++ Y) (by rw [chO_no (f := f) (hf := hf) (by omega)]) ?_
              exact (Nat.not_lt_zero _ (by omega)).elim
          · first
            | exfalso; first | omega | contradiction
            | skip
              refine r_aload_n C dX4_changed_21 rfl ?_
              refine m_get (v := .ref (ba 5)) C 5 (by decide) qf_X4_32 rfl rfl dX4_changed_22 ?_
              refine r_iload C dX4_changed_25 rfl ?_
              refine m_zld (i := k) (z := k) (v := hf 9 k) C 4 (by decide) (by decide) (show k < 3 from (by first | omega | (simp [up2, *]; done) | (simp [up2, *]; omega) | (simp only [up2_eq]; omega) | (split <;> omega))) (show 0 + k = k from (by omega)) chO_at dX4_changed_27 ?_
              refine r_ifN_eq (a := (hf 9 k)) (tgt := 54) C (by have := h9a k (by omega); omega) dX4_changed_28 (by decide) (fun h28_20 => ?_) (fun h28_20 => ?_)
              · first
                | exfalso; first | omega | contradiction
                | skip
                  refine r_iincN C dX4_changed_54 rfl (by decide) rfl ?_
                  refine r_goto (tgt := 9) C dX4_changed_57 (by decide) ?_
                  refine r_w (w' := WM cy ba ra (chO f hf w d0 (k + 1)) hq kn th sm ++ Y) (by rw [chO_no (f := f) (hf := hf) (by omega)]) ?_
                  exact (Nat.not_lt_zero _ (by omega)).elim
              · first
                | exfalso; first | omega | contradiction
                | skip
                  refine r_aload_n C dX4_changed_31 rfl ?_
                  refine r_aload_n C dX4_changed_32 rfl ?_
                  refine m_get (v := .ref (ba 6)) C 6 (by decide) qf_X4_35 rfl rfl dX4_changed_33 ?_
                  refine r_iload C dX4_changed_36 rfl ?_
                  refine m_ald (i := k) (z := k) (v := hf 6 k) C 5 (by decide) (by decide) (show k < 3 from (by first | omega | (simp [up2, *]; done) | (simp [up2, *]; omega) | (simp only [up2_eq]; omega) | (split <;> omega))) (show 0 + k = k from (by omega)) rfl dX4_changed_38 ?_
                  refine d_V (st := []) hX.1.stb C hE (D_rowOf (ba := ba) (ra := ra) (hf := (chO f hf w d0 k)) (hq := hq) (kn := kn) (th := th) (sm := sm) (Y := Y) (f := f) (w := (hf 6 k)) hX hC (MG.same (fun _ => rfl) (fun _ => rfl) hG) (hU k (by omega) (by assumption)).1 (hU k (by omega) (by assumption)).2) pk_X4_rowOf qm_X4_48 0 8 rfl rfl wm_0 rfl rfl (Nat.le_of_ble_eq_true rfl) dX4_changed_39 ⟨(Nat.le_of_ble_eq_true rfl), (Nat.le_of_ble_eq_true rfl)⟩ ⟨(Nat.le_of_ble_eq_true rfl), (Nat.le_of_ble_eq_true rfl)⟩ ?_
                  refine r_w (w' := WM cy ba ra (chO f hf w d0 k) hq kn th sm ++ Y) rfl ?_
                  refine r_iload_n C dX4_changed_42 rfl ?_
                  refine r_icN_ne (a := (f 1 (hf 6 k))) (b := (f 1 w)) (tgt := 54) C (by have := hC.al (hU k (by omega) (by assumption)).1; omega) (by first | omega | (simp [up2, *]; done) | (simp [up2, *]; omega) | (simp only [up2_eq]; omega) | (split <;> omega)) dX4_changed_43 (by decide) (fun h43_21 => ?_) (fun h43_21 => ?_)
                  · first
                    | exfalso; first | omega | contradiction
                    | skip
                      refine r_iincN C dX4_changed_54 rfl (by decide) rfl ?_
                      refine r_goto (tgt := 9) C dX4_changed_57 (by decide) ?_
                      refine r_w (w' := WM cy ba ra (chO f hf w d0 (k + 1)) hq kn th sm ++ Y) (by rw [chO_no (f := f) (hf := hf) (by omega)]) ?_
                      exact (Nat.not_lt_zero _ (by omega)).elim
                  · first
                    | exfalso; first | omega | contradiction
                    | skip
                      refine r_aload_n C dX4_changed_46 rfl ?_
                      refine m_get (v := .ref (ba 5)) C 5 (by decide) qf_X4_32 rfl rfl dX4_changed_47 ?_
                      refine r_iload C dX4_changed_50 rfl ?_
                      refine r_iconst (v := (nI 0)) C dX4_changed_52 (by decide) ?_
                      refine m_zst (i := k) (z := k) (v := 0) C 4 (by decide) (by decide) (show k < 3 from (by first | omega | (simp [up2, *]; done) | (simp [up2, *]; omega) | (simp only [up2_eq]; omega) | (split <;> omega))) (show 0 + k = k from (by omega)) (by first | omega | (simp [up2, *]; done) | (simp [up2, *]; omega) | (simp only [up2_eq]; omega) | (split <;> omega)) dX4_changed_53 ?_
                      refine r_w (w' := WM cy ba ra (up2 (chO f hf w d0 k) 9 k 0) hq kn th sm ++ Y) rfl ?_
                      refine r_iincN C dX4_changed_54 rfl (by decide) rfl ?_
                      refine r_goto (tgt := 9) C dX4_changed_57 (by decide) ?_
                      refine r_w (w' := WM cy ba ra (chO f hf w d0 (k + 1)) hq kn th sm ++ Y) (by rw [chO_yes (by omega) (by assumption) (by assumption)]) ?_
                      exact (Nat.not_lt_zero _ (by omega)).elim
    | succ d ih_L9 =>
      intro k hk
      refine r_iload C dX4_changed_9 rfl ?_
      refine r_iconst (v := (nI 3)) C dX4_changed_11 (by decide) ?_
      refine r_icN_ge (a := k) (b := 3) (tgt := 60) C (by first | omega | (simp [up2, *]; done) | (simp [up2, *]; omega) | (simp only [up2_eq]; omega) | (split <;> omega)) (by first | omega | (simp [up2, *]; done) | (simp [up2, *]; omega) | (simp only [up2_eq]; omega) | (split <;> omega)) dX4_changed_12 (by decide) (fun h12_22 => ?_) (fun h12_22 => ?_)
      · first
        | exfalso; first | omega | contradiction
        | skip
          have e9 : k = 3 := by omega
          subst e9
          refine r_iconst (v := (nI 4)) C dX4_changed_60 (by decide) ?_
          refine r_newT C .boolean .boolean 2 rfl (by simp) qa_boolean (n := 4) (show 4 < 1000000 from Nat.lt_of_le_of_lt (show 4 ≤ 4 from by first | omega | (simp [up2, *]; done) | (simp [up2, *]; omega) | (simp only [up2_eq]; omega) | (split <;> omega)) (by decide)) (1) (4) (Nat.le_of_ble_eq_true rfl) (Nat.add_le_add (Nat.le_refl _) (show 4 ≤ 4 from by first | omega | (simp [up2, *]; done) | (simp [up2, *]; omega) | (simp only [up2_eq]; omega) | (split <;> omega))) (Nat.le_of_ble_eq_true rfl) (Nat.le_of_ble_eq_true rfl) dX4_changed_61 (fun b_23 => ?_)
          refine r_w (w' := WM cy ba ra (chO f hf w d0 3) hq kn th sm ++ (Y ++ [(b_23, .inl (cy 2, 4, .inl (fun _ => 0)))])) (by simp only [List.append_assoc, List.cons_append, List.nil_append]) ?_
          refine r_astore C dX4_changed_63 (by decide) rfl ?_
          refine r_iconst (v := (nI 0)) C dX4_changed_65 (by decide) ?_
          refine r_istore C dX4_changed_66 (by decide) rfl ?_
          refine r_w (w' := WM cy ba ra (chO f hf w d0 3) hq kn th sm ++ (Y ++ [(b_23, .inl (cy 2, 4, .inl (gcF f (chO f hf w d0 3) w 0)))])) (by rw [gcF_0]) ?_
          have L68 : ∀ (d : Nat) (k : Nat), (hk : k + d = 4) → vC p l e (rmk 5 1 4 170) s m args below meth c D A (vx_MQ below (vG (fun v1 w1 => v1 = none ∧ w1 = WM cy ba ra (chM f hf w d0) hq kn th sm ++ Y) D vwCl A) (vGX (fun _ => False) D vwCl (WM cy ba ra hf hq kn th sm ++ Y) A) args s (rmk 5 1 4 170).cells (rmk 5 1 4 170).slots A) 6 1 4 (WM cy ba ra (chO f hf w d0 3) hq kn th sm ++ (Y ++ [(b_23, .inl (cy 2, 4, .inl (gcF f (chO f hf w d0 3) w k)))])) [some (.ref (ba 9)), some (.int (nI w)), some (.int (nI d0)), some (.int (nI (f 1 w))), some (.ref b_23), some (.int (nI k))] 68 [] := by
            intro d
            induction d with
            | zero =>
              intro k hk
              refine r_iload C dX4_changed_68 rfl ?_
              refine r_iconst (v := (nI 4)) C dX4_changed_70 (by decide) ?_
              refine r_icN_ge (a := k) (b := 4) (tgt := 124) C (by first | omega | (simp [up2, *]; done) | (simp [up2, *]; omega) | (simp only [up2_eq]; omega) | (split <;> omega)) (by first | omega | (simp [up2, *]; done) | (simp [up2, *]; omega) | (simp only [up2_eq]; omega) | (split <;> omega)) dX4_changed_71 (by decide) (fun h71_24 => ?_) (fun h71_24 => ?_)
              · first
                | exfalso; first | omega | contradiction
                | skip
                  have e9 : k = 4 := by omega
                  subst e9
                  refine r_iconst (v := (nI 0)) C dX4_changed_124 (by decide) ?_
                  refine r_istore C dX4_changed_125 (by decide) rfl ?_
                  refine r_w (w' := WM cy ba ra (chT f (chO f hf w d0 3) w 0) hq kn th sm ++ (Y ++ [(b_23, .inl (cy 2, 4, .inl (gcF f (chO f hf w d0 3) w 4)))])) (by rw [chT_0]) ?_
                  have L127 : ∀ (d : Nat) (k : Nat), (hk : k + d = 4) → vC p l e (rmk 5 1 4 170) s m args below meth c D A (vx_MQ below (vG (fun v1 w1 => v1 = none ∧ w1 = WM cy ba ra (chM f hf w d0) hq kn th sm ++ Y) D vwCl A) (vGX (fun _ => False) D vwCl (WM cy ba ra hf hq kn th sm ++ Y) A) args s (rmk 5 1 4 170).cells (rmk 5 1 4 170).slots A) 6 1 4 (WM cy ba ra (chT f (chO f hf w d0 3) w k) hq kn th sm ++ (Y ++ [(b_23, .inl (cy 2, 4, .inl (gcF f (chO f hf w d0 3) w 4)))])) [some (.ref (ba 9)), some (.int (nI w)), some (.int (nI d0)), some (.int (nI (f 1 w))), some (.ref b_23), some (.int (nI k))] 127 [] := by
                    intro d
                    induction d with
                    | zero =>
                      intro k hk
                      refine r_iload C dX4_changed_127 rfl ?_
                      refine r_iconst (v := (nI 4)) C dX4_changed_129 (by decide) ?_
                      refine r_icN_ge (a := k) (b := 4) (tgt := 155) C (by first | omega | (simp [up2, *]; done) | (simp [up2, *]; omega) | (simp only [up2_eq]; omega) | (split <;> omega)) (by first | omega | (simp [up2, *]; done) | (simp [up2, *]; omega) | (simp only [up2_eq]; omega) | (split <;> omega)) dX4_changed_130 (by decide) (fun h130_25 => ?_) (fun h130_25 => ?_)
                      · first
                        | exfalso; first | omega | contradiction
                        | skip
                          have e9 : k = 4 := by omega
                          subst e9
                          refine r_pre ?_
                          exact r_vret C hr dX4_changed_155 ⟨rfl, rfl⟩ (Nat.le_of_ble_eq_true rfl) (Nat.le_of_ble_eq_true rfl)
                      · first
                        | exfalso; first | omega | contradiction
                        | skip
                          refine r_aload C dX4_changed_133 rfl ?_
                          refine r_iload C dX4_changed_135 rfl ?_
                          refine x_zld C (i := k) (f := gcF f (chO f hf w d0 3) w 4) 0 rfl (by first | omega | (simp [up2, *]; done) | (simp [up2, *]; omega) | (simp only [up2_eq]; omega) | (split <;> omega)) (by first | omega | (simp [up2, *]; done) | (simp [up2, *]; omega) | (simp only [up2_eq]; omega) | (split <;> omega)) dX4_changed_137 ?_
                          refine r_eqi (show (gcF f (chO f hf w d0 3) w 4) k = (nI (goF f (chO f hf w d0 3) w k)) from gcF_at (by omega)) ?_
                          refine r_ifN_eq (a := (goF f (chO f hf w d0 3) w k)) (tgt := 149) C (Nat.lt_of_le_of_lt (goF_le _ _ _ _) (by decide)) dX4_changed_138 (by decide) (fun h138_26 => ?_) (fun h138_26 => ?_)
                          · first
                            | exfalso; first | omega | contradiction
                            | skip
                              refine r_iincN C dX4_changed_149 rfl (by decide) rfl ?_
                              refine r_goto (tgt := 127) C dX4_changed_152 (by decide) ?_
                              refine r_w (w' := WM cy ba ra (chT f (chO f hf w d0 3) w (k + 1)) hq kn th sm ++ (Y ++ [(b_23, .inl (cy 2, 4, .inl (gcF f (chO f hf w d0 3) w 4)))])) (by rw [chT_no (by assumption)]) ?_
                              exact (Nat.not_lt_zero _ (by omega)).elim
                          · first
                            | exfalso; first | omega | contradiction
                            | skip
                              refine r_aload_n C dX4_changed_141 rfl ?_
                              refine m_get (v := .ref (ba 1)) C 1 (by decide) qf_X4_18 rfl rfl dX4_changed_142 ?_
                              refine r_iload C dX4_changed_145 rfl ?_
                              refine r_iconst (v := (nI 0)) C dX4_changed_147 (by decide) ?_
                              refine m_zst (i := k) (z := 4 + k) (v := 0) C 0 (by decide) (by decide) (show k < 4 from (by first | omega | (simp [up2, *]; done) | (simp [up2, *]; omega) | (simp only [up2_eq]; omega) | (split <;> omega))) (show 4 + k = 4 + k from (by omega)) (by first | omega | (simp [up2, *]; done) | (simp [up2, *]; omega) | (simp only [up2_eq]; omega) | (split <;> omega)) dX4_changed_148 ?_
                              refine r_w (w' := WM cy ba ra (up2 (chT f (chO f hf w d0 3) w k) 5 (4 + k) 0) hq kn th sm ++ (Y ++ [(b_23, .inl (cy 2, 4, .inl (gcF f (chO f hf w d0 3) w 4)))])) rfl ?_
                              refine r_iincN C dX4_changed_149 rfl (by decide) rfl ?_
                              refine r_goto (tgt := 127) C dX4_changed_152 (by decide) ?_
                              refine r_w (w' := WM cy ba ra (chT f (chO f hf w d0 3) w (k + 1)) hq kn th sm ++ (Y ++ [(b_23, .inl (cy 2, 4, .inl (gcF f (chO f hf w d0 3) w 4)))])) (by rw [chT_yes (by assumption)]) ?_
                              exact (Nat.not_lt_zero _ (by omega)).elim
                    | succ d ih_L127 =>
                      intro k hk
                      refine r_iload C dX4_changed_127 rfl ?_
                      refine r_iconst (v := (nI 4)) C dX4_changed_129 (by decide) ?_
                      refine r_icN_ge (a := k) (b := 4) (tgt := 155) C (by first | omega | (simp [up2, *]; done) | (simp [up2, *]; omega) | (simp only [up2_eq]; omega) | (split <;> omega)) (by first | omega | (simp [up2, *]; done) | (simp [up2, *]; omega) | (simp only [up2_eq]; omega) | (split <;> omega)) dX4_changed_130 (by decide) (fun h130_27 => ?_) (fun h130_27 => ?_)
                      · first
                        | exfalso; first | omega | contradiction
                        | skip
                          have e9 : k = 4 := by omega
                          subst e9
                          refine r_pre ?_
                          exact r_vret C hr dX4_changed_155 ⟨rfl, rfl⟩ (Nat.le_of_ble_eq_true rfl) (Nat.le_of_ble_eq_true rfl)
                      · first
                        | exfalso; first | omega | contradiction
                        | skip
                          refine r_aload C dX4_changed_133 rfl ?_
                          refine r_iload C dX4_changed_135 rfl ?_
                          refine x_zld C (i := k) (f := gcF f (chO f hf w d0 3) w 4) 0 rfl (by first | omega | (simp [up2, *]; done) | (simp [up2, *]; omega) | (simp only [up2_eq]; omega) | (split <;> omega)) (by first | omega | (simp [up2, *]; done) | (simp [up2, *]; omega) | (simp only [up2_eq]; omega) | (split <;> omega)) dX4_changed_137 ?_
                          refine r_eqi (show (gcF f (chO f hf w d0 3) w 4) k = (nI (goF f (chO f hf w d0 3) w k)) from gcF_at (by omega)) ?_
                          refine r_ifN_eq (a := (goF f (chO f hf w d0 3) w k)) (tgt := 149) C (Nat.lt_of_le_of_lt (goF_le _ _ _ _) (by decide)) dX4_changed_138 (by decide) (fun h138_28 => ?_) (fun h138_28 => ?_)
                          · first
                            | exfalso; first | omega | contradiction
                            | skip
                              refine r_iincN C dX4_changed_149 rfl (by decide) rfl ?_
                              refine r_goto (tgt := 127) C dX4_changed_152 (by decide) ?_
                              refine r_w (w' := WM cy ba ra (chT f (chO f hf w d0 3) w (k + 1)) hq kn th sm ++ (Y ++ [(b_23, .inl (cy 2, 4, .inl (gcF f (chO f hf w d0 3) w 4)))])) (by rw [chT_no (by assumption)]) ?_
                              exact ih_L127 (k + 1) (by first | omega | (simp [up2, *]; done) | (simp [up2, *]; omega) | (simp only [up2_eq]; omega) | (split <;> omega))
                          · first
                            | exfalso; first | omega | contradiction
                            | skip
                              refine r_aload_n C dX4_changed_141 rfl ?_
                              refine m_get (v := .ref (ba 1)) C 1 (by decide) qf_X4_18 rfl rfl dX4_changed_142 ?_
                              refine r_iload C dX4_changed_145 rfl ?_
                              refine r_iconst (v := (nI 0)) C dX4_changed_147 (by decide) ?_
                              refine m_zst (i := k) (z := 4 + k) (v := 0) C 0 (by decide) (by decide) (show k < 4 from (by first | omega | (simp [up2, *]; done) | (simp [up2, *]; omega) | (simp only [up2_eq]; omega) | (split <;> omega))) (show 4 + k = 4 + k from (by omega)) (by first | omega | (simp [up2, *]; done) | (simp [up2, *]; omega) | (simp only [up2_eq]; omega) | (split <;> omega)) dX4_changed_148 ?_
                              refine r_w (w' := WM cy ba ra (up2 (chT f (chO f hf w d0 3) w k) 5 (4 + k) 0) hq kn th sm ++ (Y ++ [(b_23, .inl (cy 2, 4, .inl (gcF f (chO f hf w d0 3) w 4)))])) rfl ?_
                              refine r_iincN C dX4_changed_149 rfl (by decide) rfl ?_
                              refine r_goto (tgt := 127) C dX4_changed_152 (by decide) ?_
                              refine r_w (w' := WM cy ba ra (chT f (chO f hf w d0 3) w (k + 1)) hq kn th sm ++ (Y ++ [(b_23, .inl (cy 2, 4, .inl (gcF f (chO f hf w d0 3) w 4)))])) (by rw [chT_yes (by assumption)]) ?_
                              exact ih_L127 (k + 1) (by first | omega | (simp [up2, *]; done) | (simp [up2, *]; omega) | (simp only [up2_eq]; omega) | (split <;> omega))
                  exact L127 4 0 (by first | omega | (simp [up2, *]; done) | (simp [up2, *]; omega) | (simp only [up2_eq]; omega) | (split <;> omega))
              · first
                | exfalso; first | omega | contradiction
                | skip
                  refine r_aload C dX4_changed_74 rfl ?_
                  refine r_iload C dX4_changed_76 rfl ?_
                  refine r_aload_n C dX4_changed_78 rfl ?_
                  refine m_get (v := .ref (ba 1)) C 1 (by decide) qf_X4_18 rfl rfl dX4_changed_79 ?_
                  refine r_iload C dX4_changed_82 rfl ?_
                  refine m_zld (i := k) (z := 4 + k) (v := hf 5 (4 + k)) C 0 (by decide) (by decide) (show k < 4 from (by first | omega | (simp [up2, *]; done) | (simp [up2, *]; omega) | (simp only [up2_eq]; omega) | (split <;> omega))) (show 4 + k = 4 + k from (by omega)) rfl dX4_changed_84 ?_
                  refine r_ifN_eq (a := (hf 5 (4 + k))) (tgt := 116) C (by have := h5M (4 + k) (by omega) (by omega); omega) dX4_changed_85 (by decide) (fun h85_29 => ?_) (fun h85_29 => ?_)
                  · first
                    | exfalso; first | omega | contradiction
                    | skip
                      refine r_iconst (v := (nI 0)) C dX4_changed_116 (by decide) ?_
                      refine x_zst C (i := k) (v := 0) (f := gcF f (chO f hf w d0 3) w k) (E' := [(b_23, .inl (cy 2, 4, .inl (upd (gcF f (chO f hf w d0 3) w k) k (nI 0))))]) 0 rfl (by first | omega | (simp [up2, *]; done) | (simp [up2, *]; omega) | (simp only [up2_eq]; omega) | (split <;> omega)) (by first | omega | (simp [up2, *]; done) | (simp [up2, *]; omega) | (simp only [up2_eq]; omega) | (split <;> omega)) (by first | omega | (simp [up2, *]; done) | (simp [up2, *]; omega) | (simp only [up2_eq]; omega) | (split <;> omega)) rfl dX4_changed_117 ?_
                      refine r_iincN C dX4_changed_118 rfl (by decide) rfl ?_
                      refine r_goto (tgt := 68) C dX4_changed_121 (by decide) ?_
                      refine r_w (w' := WM cy ba ra (chO f hf w d0 3) hq kn th sm ++ (Y ++ [(b_23, .inl (cy 2, 4, .inl (gcF f (chO f hf w d0 3) w (k + 1))))])) (by rw [gcF_up (go0 (hf := chO f hf w d0 3) (show hf 5 (4 + k) = 0 ∨ f 1 (4 + k) ≠ f 1 w ∨ hol f (4 + k) w ≠ 0 by omega))]) ?_
                      exact (Nat.not_lt_zero _ (by omega)).elim
                  · first
                    | exfalso; first | omega | contradiction
                    | skip
                      refine r_aload_n C dX4_changed_88 rfl ?_
                      refine r_iconst (v := (nI 4)) C dX4_changed_89 (by decide) ?_
                      refine r_iload C dX4_changed_90 rfl ?_
                      refine r_iaddN C dX4_changed_92 ?_
                      refine d_V (st := [.int (nI k), .ref b_23]) hX.1.stb C hE (D_rowOf (ba := ba) (ra := ra) (hf := (chO f hf w d0 3)) (hq := hq) (kn := kn) (th := th) (sm := sm) (f := f) (w := (4 + k)) hX hC (MG.same (fun _ => rfl) (fun _ => rfl) hG) (by first | omega | (simp [up2, *]; done) | (simp [up2, *]; omega) | (simp only [up2_eq]; omega) | (split <;> omega)) (by have := h5M (4 + k) (by omega) (by omega); omega)) pk_X4_rowOf qm_X4_48 0 8 rfl rfl wm_0 rfl rfl (Nat.le_of_ble_eq_true rfl) dX4_changed_93 ⟨(Nat.le_of_ble_eq_true rfl), (Nat.le_of_ble_eq_true rfl)⟩ ⟨(Nat.le_of_ble_eq_true rfl), (Nat.le_of_ble_eq_true rfl)⟩ ?_
                      refine r_w (w' := WM cy ba ra (chO f hf w d0 3) hq kn th sm ++ (Y ++ [(b_23, .inl (cy 2, 4, .inl (gcF f (chO f hf w d0 3) w k)))])) rfl ?_
                      refine r_iload_n C dX4_changed_96 rfl ?_
                      refine r_icN_ne (a := (f 1 (4 + k))) (b := (f 1 w)) (tgt := 116) C (by have := hC.al (i := 4 + k) (by omega); omega) (by first | omega | (simp [up2, *]; done) | (simp [up2, *]; omega) | (simp only [up2_eq]; omega) | (split <;> omega)) dX4_changed_97 (by decide) (fun h97_30 => ?_) (fun h97_30 => ?_)
                      · first
                        | exfalso; first | omega | contradiction
                        | skip
                          refine r_iconst (v := (nI 0)) C dX4_changed_116 (by decide) ?_
                          refine x_zst C (i := k) (v := 0) (f := gcF f (chO f hf w d0 3) w k) (E' := [(b_23, .inl (cy 2, 4, .inl (upd (gcF f (chO f hf w d0 3) w k) k (nI 0))))]) 0 rfl (by first | omega | (simp [up2, *]; done) | (simp [up2, *]; omega) | (simp only [up2_eq]; omega) | (split <;> omega)) (by first | omega | (simp [up2, *]; done) | (simp [up2, *]; omega) | (simp only [up2_eq]; omega) | (split <;> omega)) (by first | omega | (simp [up2, *]; done) | (simp [up2, *]; omega) | (simp only [up2_eq]; omega) | (split <;> omega)) rfl dX4_changed_117 ?_
                          refine r_iincN C dX4_changed_118 rfl (by decide) rfl ?_
                          refine r_goto (tgt := 68) C dX4_changed_121 (by decide) ?_
                          refine r_w (w' := WM cy ba ra (chO f hf w d0 3) hq kn th sm ++ (Y ++ [(b_23, .inl (cy 2, 4, .inl (gcF f (chO f hf w d0 3) w (k + 1))))])) (by rw [gcF_up (go0 (hf := chO f hf w d0 3) (show hf 5 (4 + k) = 0 ∨ f 1 (4 + k) ≠ f 1 w ∨ hol f (4 + k) w ≠ 0 by omega))]) ?_
                          exact (Nat.not_lt_zero _ (by omega)).elim
                      · first
                        | exfalso; first | omega | contradiction
                        | skip
                          refine r_aload_n C dX4_changed_100 rfl ?_
                          refine r_iconst (v := (nI 4)) C dX4_changed_101 (by decide) ?_
                          refine r_iload C dX4_changed_102 rfl ?_
                          refine r_iaddN C dX4_changed_104 ?_
                          refine r_iload_n C dX4_changed_105 rfl ?_
                          refine d_V (st := [.int (nI k), .ref b_23]) hX.1.stb C hE (D_isHolder (ba := ba) (ra := ra) (hf := (chO f hf w d0 3)) (hq := hq) (kn := kn) (th := th) (sm := sm) (f := f) (h0 := (4 + k)) (w := w) hX hC (MG.same (fun _ => rfl) (fun _ => rfl) hG) (by first | omega | (simp [up2, *]; done) | (simp [up2, *]; omega) | (simp only [up2_eq]; omega) | (split <;> omega)) (by first | omega | (simp [up2, *]; done) | (simp [up2, *]; omega) | (simp only [up2_eq]; omega) | (split <;> omega)) (by first | omega | (simp [up2, *]; done) | (simp [up2, *]; omega) | (simp only [up2_eq]; omega) | (split <;> omega))) pk_X4_isHolder qm_X4_66 0 8 rfl rfl wm_0 rfl rfl (Nat.le_of_ble_eq_true rfl) dX4_changed_106 ⟨(Nat.le_of_ble_eq_true rfl), (Nat.le_of_ble_eq_true rfl)⟩ ⟨(Nat.le_of_ble_eq_true rfl), (Nat.le_of_ble_eq_true rfl)⟩ ?_
                          refine r_w (w' := WM cy ba ra (chO f hf w d0 3) hq kn th sm ++ (Y ++ [(b_23, .inl (cy 2, 4, .inl (gcF f (chO f hf w d0 3) w k)))])) rfl ?_
                          refine r_ifN_ne (a := (hol f (4 + k) w)) (tgt := 116) C (Nat.lt_of_le_of_lt (hol_le _ _ _) (by decide)) dX4_changed_109 (by decide) (fun h109_31 => ?_) (fun h109_31 => ?_)
                          · first
                            | exfalso; first | omega | contradiction
                            | skip
                              refine r_iconst (v := (nI 0)) C dX4_changed_116 (by decide) ?_
                              refine x_zst C (i := k) (v := 0) (f := gcF f (chO f hf w d0 3) w k) (E' := [(b_23, .inl (cy 2, 4, .inl (upd (gcF f (chO f hf w d0 3) w k) k (nI 0))))]) 0 rfl (by first | omega | (simp [up2, *]; done) | (simp [up2, *]; omega) | (simp only [up2_eq]; omega) | (split <;> omega)) (by first | omega | (simp [up2, *]; done) | (simp [up2, *]; omega) | (simp only [up2_eq]; omega) | (split <;> omega)) (by first | omega | (simp [up2, *]; done) | (simp [up2, *]; omega) | (simp only [up2_eq]; omega) | (split <;> omega)) rfl dX4_changed_117 ?_
                              refine r_iincN C dX4_changed_118 rfl (by decide) rfl ?_
                              refine r_goto (tgt := 68) C dX4_changed_121 (by decide) ?_
                              refine r_w (w' := WM cy ba ra (chO f hf w d0 3) hq kn th sm ++ (Y ++ [(b_23, .inl (cy 2, 4, .inl (gcF f (chO f hf w d0 3) w (k + 1))))])) (by rw [gcF_up (go0 (hf := chO f hf w d0 3) (show hf 5 (4 + k) = 0 ∨ f 1 (4 + k) ≠ f 1 w ∨ hol f (4 + k) w ≠ 0 by omega))]) ?_
                              exact (Nat.not_lt_zero _ (by omega)).elim
                          · first
                            | exfalso; first | omega | contradiction
                            | skip
                              refine r_iconst (v := (nI 1)) C dX4_changed_112 (by decide) ?_
                              refine r_goto (tgt := 117) C dX4_changed_113 (by decide) ?_
                              refine x_zst C (i := k) (v := 1) (f := gcF f (chO f hf w d0 3) w k) (E' := [(b_23, .inl (cy 2, 4, .inl (upd (gcF f (chO f hf w d0 3) w k) k (nI 1))))]) 0 rfl (by first | omega | (simp [up2, *]; done) | (simp [up2, *]; omega) | (simp only [up2_eq]; omega) | (split <;> omega)) (by first | omega | (simp [up2, *]; done) | (simp [up2, *]; omega) | (simp only [up2_eq]; omega) | (split <;> omega)) (by first | omega | (simp [up2, *]; done) | (simp [up2, *]; omega) | (simp only [up2_eq]; omega) | (split <;> omega)) rfl dX4_changed_117 ?_
                              refine r_iincN C dX4_changed_118 rfl (by decide) rfl ?_
                              refine r_goto (tgt := 68) C dX4_changed_121 (by decide) ?_
                              refine r_w (w' := WM cy ba ra (chO f hf w d0 3) hq kn th sm ++ (Y ++ [(b_23, .inl (cy 2, 4, .inl (gcF f (chO f hf w d0 3) w (k + 1))))])) (by rw [gcF_up (go1 (hf := chO f hf w d0 3) (show hf 5 (4 + k) ≠ 0 by assumption) (by assumption) (by omega))]) ?_
                              exact (Nat.not_lt_zero _ (by omega)).elim
            | succ d ih_L68 =>
              intro k hk
              refine r_iload C dX4_changed_68 rfl ?_
              refine r_iconst (v := (nI 4)) C dX4_changed_70 (by decide) ?_
              refine r_icN_ge (a := k) (b := 4) (tgt := 124) C (by first | omega | (simp [up2, *]; done) | (simp [up2, *]; omega) | (simp only [up2_eq]; omega) | (split <;> omega)) (by first | omega | (simp [up2, *]; done) | (simp [up2, *]; omega) | (simp only [up2_eq]; omega) | (split <;> omega)) dX4_changed_71 (by decide) (fun h71_32 => ?_) (fun h71_32 => ?_)
              · first
                | exfalso; first | omega | contradiction
                | skip
                  have e9 : k = 4 := by omega
                  subst e9
                  refine r_iconst (v := (nI 0)) C dX4_changed_124 (by decide) ?_
                  refine r_istore C dX4_changed_125 (by decide) rfl ?_
                  refine r_w (w' := WM cy ba ra (chT f (chO f hf w d0 3) w 0) hq kn th sm ++ (Y ++ [(b_23, .inl (cy 2, 4, .inl (gcF f (chO f hf w d0 3) w 4)))])) (by rw [chT_0]) ?_
                  have L127 : ∀ (d : Nat) (k : Nat), (hk : k + d = 4) → vC p l e (rmk 5 1 4 170) s m args below meth c D A (vx_MQ below (vG (fun v1 w1 => v1 = none ∧ w1 = WM cy ba ra (chM f hf w d0) hq kn th sm ++ Y) D vwCl A) (vGX (fun _ => False) D vwCl (WM cy ba ra hf hq kn th sm ++ Y) A) args s (rmk 5 1 4 170).cells (rmk 5 1 4 170).slots A) 6 1 4 (WM cy ba ra (chT f (chO f hf w d0 3) w k) hq kn th sm ++ (Y ++ [(b_23, .inl (cy 2, 4, .inl (gcF f (chO f hf w d0 3) w 4)))])) [some (.ref (ba 9)), some (.int (nI w)), some (.int (nI d0)), some (.int (nI (f 1 w))), some (.ref b_23), some (.int (nI k))] 127 [] := by
                    intro d
                    induction d with
                    | zero =>
                      intro k hk
                      refine r_iload C dX4_changed_127 rfl ?_
                      refine r_iconst (v := (nI 4)) C dX4_changed_129 (by decide) ?_
                      refine r_icN_ge (a := k) (b := 4) (tgt := 155) C (by first | omega | (simp [up2, *]; done) | (simp [up2, *]; omega) | (simp only [up2_eq]; omega) | (split <;> omega)) (by first | omega | (simp [up2, *]; done) | (simp [up2, *]; omega) | (simp only [up2_eq]; omega) | (split <;> omega)) dX4_changed_130 (by decide) (fun h130_33 => ?_) (fun h130_33 => ?_)
                      · first
                        | exfalso; first | omega | contradiction
                        | skip
                          have e9 : k = 4 := by omega
                          subst e9
                          refine r_pre ?_
                          exact r_vret C hr dX4_changed_155 ⟨rfl, rfl⟩ (Nat.le_of_ble_eq_true rfl) (Nat.le_of_ble_eq_true rfl)
                      · first
                        | exfalso; first | omega | contradiction
                        | skip
                          refine r_aload C dX4_changed_133 rfl ?_
                          refine r_iload C dX4_changed_135 rfl ?_
                          refine x_zld C (i := k) (f := gcF f (chO f hf w d0 3) w 4) 0 rfl (by first | omega | (simp [up2, *]; done) | (simp [up2, *]; omega) | (simp only [up2_eq]; omega) | (split <;> omega)) (by first | omega | (simp [up2, *]; done) | (simp [up2, *]; omega) | (simp only [up2_eq]; omega) | (split <;> omega)) dX4_changed_137 ?_
                          refine r_eqi (show (gcF f (chO f hf w d0 3) w 4) k = (nI (goF f (chO f hf w d0 3) w k)) from gcF_at (by omega)) ?_
                          refine r_ifN_eq (a := (goF f (chO f hf w d0 3) w k)) (tgt := 149) C (Nat.lt_of_le_of_lt (goF_le _ _ _ _) (by decide)) dX4_changed_138 (by decide) (fun h138_34 => ?_) (fun h138_34 => ?_)
                          · first
                            | exfalso; first | omega | contradiction
                            | skip
                              refine r_iincN C dX4_changed_149 rfl (by decide) rfl ?_
                              refine r_goto (tgt := 127) C dX4_changed_152 (by decide) ?_
                              refine r_w (w' := WM cy ba ra (chT f (chO f hf w d0 3) w (k + 1)) hq kn th sm ++ (Y ++ [(b_23, .inl (cy 2, 4, .inl (gcF f (chO f hf w d0 3) w 4)))])) (by rw [chT_no (by assumption)]) ?_
                              exact (Nat.not_lt_zero _ (by omega)).elim
                          · first
                            | exfalso; first | omega | contradiction
                            | skip
                              refine r_aload_n C dX4_changed_141 rfl ?_
                              refine m_get (v := .ref (ba 1)) C 1 (by decide) qf_X4_18 rfl rfl dX4_changed_142 ?_
                              refine r_iload C dX4_changed_145 rfl ?_
                              refine r_iconst (v := (nI 0)) C dX4_changed_147 (by decide) ?_
                              refine m_zst (i := k) (z := 4 + k) (v := 0) C 0 (by decide) (by decide) (show k < 4 from (by first | omega | (simp [up2, *]; done) | (simp [up2, *]; omega) | (simp only [up2_eq]; omega) | (split <;> omega))) (show 4 + k = 4 + k from (by omega)) (by first | omega | (simp [up2, *]; done) | (simp [up2, *]; omega) | (simp only [up2_eq]; omega) | (split <;> omega)) dX4_changed_148 ?_
                              refine r_w (w' := WM cy ba ra (up2 (chT f (chO f hf w d0 3) w k) 5 (4 + k) 0) hq kn th sm ++ (Y ++ [(b_23, .inl (cy 2, 4, .inl (gcF f (chO f hf w d0 3) w 4)))])) rfl ?_
                              refine r_iincN C dX4_changed_149 rfl (by decide) rfl ?_
                              refine r_goto (tgt := 127) C dX4_changed_152 (by decide) ?_
                              refine r_w (w' := WM cy ba ra (chT f (chO f hf w d0 3) w (k + 1)) hq kn th sm ++ (Y ++ [(b_23, .inl (cy 2, 4, .inl (gcF f (chO f hf w d0 3) w 4)))])) (by rw [chT_yes (by assumption)]) ?_
                              exact (Nat.not_lt_zero _ (by omega)).elim
                    | succ d ih_L127 =>
                      intro k hk
                      refine r_iload C dX4_changed_127 rfl ?_
                      refine r_iconst (v := (nI 4)) C dX4_changed_129 (by decide) ?_
                      refine r_icN_ge (a := k) (b := 4) (tgt := 155) C (by first | omega | (simp [up2, *]; done) | (simp [up2, *]; omega) | (simp only [up2_eq]; omega) | (split <;> omega)) (by first | omega | (simp [up2, *]; done) | (simp [up2, *]; omega) | (simp only [up2_eq]; omega) | (split <;> omega)) dX4_changed_130 (by decide) (fun h130_35 => ?_) (fun h130_35 => ?_)
                      · first
                        | exfalso; first | omega | contradiction
                        | skip
                          have e9 : k = 4 := by omega
                          subst e9
                          refine r_pre ?_
                          exact r_vret C hr dX4_changed_155 ⟨rfl, rfl⟩ (Nat.le_of_ble_eq_true rfl) (Nat.le_of_ble_eq_true rfl)
                      · first
                        | exfalso; first | omega | contradiction
                        | skip
                          refine r_aload C dX4_changed_133 rfl ?_
                          refine r_iload C dX4_changed_135 rfl ?_
                          refine x_zld C (i := k) (f := gcF f (chO f hf w d0 3) w 4) 0 rfl (by first | omega | (simp [up2, *]; done) | (simp [up2, *]; omega) | (simp only [up2_eq]; omega) | (split <;> omega)) (by first | omega | (simp [up2, *]; done) | (simp [up2, *]; omega) | (simp only [up2_eq]; omega) | (split <;> omega)) dX4_changed_137 ?_
                          refine r_eqi (show (gcF f (chO f hf w d0 3) w 4) k = (nI (goF f (chO f hf w d0 3) w k)) from gcF_at (by omega)) ?_
                          refine r_ifN_eq (a := (goF f (chO f hf w d0 3) w k)) (tgt := 149) C (Nat.lt_of_le_of_lt (goF_le _ _ _ _) (by decide)) dX4_changed_138 (by decide) (fun h138_36 => ?_) (fun h138_36 => ?_)
                          · first
                            | exfalso; first | omega | contradiction
                            | skip
                              refine r_iincN C dX4_changed_149 rfl (by decide) rfl ?_
                              refine r_goto (tgt := 127) C dX4_changed_152 (by decide) ?_
                              refine r_w (w' := WM cy ba ra (chT f (chO f hf w d0 3) w (k + 1)) hq kn th sm ++ (Y ++ [(b_23, .inl (cy 2, 4, .inl (gcF f (chO f hf w d0 3) w 4)))])) (by rw [chT_no (by assumption)]) ?_
                              exact ih_L127 (k + 1) (by first | omega | (simp [up2, *]; done) | (simp [up2, *]; omega) | (simp only [up2_eq]; omega) | (split <;> omega))
                          · first
                            | exfalso; first | omega | contradiction
                            | skip
                              refine r_aload_n C dX4_changed_141 rfl ?_
                              refine m_get (v := .ref (ba 1)) C 1 (by decide) qf_X4_18 rfl rfl dX4_changed_142 ?_
                              refine r_iload C dX4_changed_145 rfl ?_
                              refine r_iconst (v := (nI 0)) C dX4_changed_147 (by decide) ?_
                              refine m_zst (i := k) (z := 4 + k) (v := 0) C 0 (by decide) (by decide) (show k < 4 from (by first | omega | (simp [up2, *]; done) | (simp [up2, *]; omega) | (simp only [up2_eq]; omega) | (split <;> omega))) (show 4 + k = 4 + k from (by omega)) (by first | omega | (simp [up2, *]; done) | (simp [up2, *]; omega) | (simp only [up2_eq]; omega) | (split <;> omega)) dX4_changed_148 ?_
                              refine r_w (w' := WM cy ba ra (up2 (chT f (chO f hf w d0 3) w k) 5 (4 + k) 0) hq kn th sm ++ (Y ++ [(b_23, .inl (cy 2, 4, .inl (gcF f (chO f hf w d0 3) w 4)))])) rfl ?_
                              refine r_iincN C dX4_changed_149 rfl (by decide) rfl ?_
                              refine r_goto (tgt := 127) C dX4_changed_152 (by decide) ?_
                              refine r_w (w' := WM cy ba ra (chT f (chO f hf w d0 3) w (k + 1)) hq kn th sm ++ (Y ++ [(b_23, .inl (cy 2, 4, .inl (gcF f (chO f hf w d0 3) w 4)))])) (by rw [chT_yes (by assumption)]) ?_
                              exact ih_L127 (k + 1) (by first | omega | (simp [up2, *]; done) | (simp [up2, *]; omega) | (simp only [up2_eq]; omega) | (split <;> omega))
                  exact L127 4 0 (by first | omega | (simp [up2, *]; done) | (simp [up2, *]; omega) | (simp only [up2_eq]; omega) | (split <;> omega))
              · first
                | exfalso; first | omega | contradiction
                | skip
                  refine r_aload C dX4_changed_74 rfl ?_
                  refine r_iload C dX4_changed_76 rfl ?_
                  refine r_aload_n C dX4_changed_78 rfl ?_
                  refine m_get (v := .ref (ba 1)) C 1 (by decide) qf_X4_18 rfl rfl dX4_changed_79 ?_
                  refine r_iload C dX4_changed_82 rfl ?_
                  refine m_zld (i := k) (z := 4 + k) (v := hf 5 (4 + k)) C 0 (by decide) (by decide) (show k < 4 from (by first | omega | (simp [up2, *]; done) | (simp [up2, *]; omega) | (simp only [up2_eq]; omega) | (split <;> omega))) (show 4 + k = 4 + k from (by omega)) rfl dX4_changed_84 ?_
                  refine r_ifN_eq (a := (hf 5 (4 + k))) (tgt := 116) C (by have := h5M (4 + k) (by omega) (by omega); omega) dX4_changed_85 (by decide) (fun h85_37 => ?_) (fun h85_37 => ?_)
                  · first
                    | exfalso; first | omega | contradiction
                    | skip
                      refine r_iconst (v := (nI 0)) C dX4_changed_116 (by decide) ?_
                      refine x_zst C (i := k) (v := 0) (f := gcF f (chO f hf w d0 3) w k) (E' := [(b_23, .inl (cy 2, 4, .inl (upd (gcF f (chO f hf w d0 3) w k) k (nI 0))))]) 0 rfl (by first | omega | (simp [up2, *]; done) | (simp [up2, *]; omega) | (simp only [up2_eq]; omega) | (split <;> omega)) (by first | omega | (simp [up2, *]; done) | (simp [up2, *]; omega) | (simp only [up2_eq]; omega) | (split <;> omega)) (by first | omega | (simp [up2, *]; done) | (simp [up2, *]; omega) | (simp only [up2_eq]; omega) | (split <;> omega)) rfl dX4_changed_117 ?_
                      refine r_iincN C dX4_changed_118 rfl (by decide) rfl ?_
                      refine r_goto (tgt := 68) C dX4_changed_121 (by decide) ?_
                      refine r_w (w' := WM cy ba ra (chO f hf w d0 3) hq kn th sm ++ (Y ++ [(b_23, .inl (cy 2, 4, .inl (gcF f (chO f hf w d0 3) w (k + 1))))])) (by rw [gcF_up (go0 (hf := chO f hf w d0 3) (show hf 5 (4 + k) = 0 ∨ f 1 (4 + k) ≠ f 1 w ∨ hol f (4 + k) w ≠ 0 by omega))]) ?_
                      exact ih_L68 (k + 1) (by first | omega | (simp [up2, *]; done) | (simp [up2, *]; omega) | (simp only [up2_eq]; omega) | (split <;> omega))
                  · first
                    | exfalso; first | omega | contradiction
                    | skip
                      refine r_aload_n C dX4_changed_88 rfl ?_
                      refine r_iconst (v := (nI 4)) C dX4_changed_89 (by decide) ?_
                      refine r_iload C dX4_changed_90 rfl ?_
                      refine r_iaddN C dX4_changed_92 ?_
                      refine d_V (st := [.int (nI k), .ref b_23]) hX.1.stb C hE (D_rowOf (ba := ba) (ra := ra) (hf := (chO f hf w d0 3)) (hq := hq) (kn := kn) (th := th) (sm := sm) (f := f) (w := (4 + k)) hX hC (MG.same (fun _ => rfl) (fun _ => rfl) hG) (by first | omega | (simp [up2, *]; done) | (simp [up2, *]; omega) | (simp only [up2_eq]; omega) | (split <;> omega)) (by have := h5M (4 + k) (by omega) (by omega); omega)) pk_X4_rowOf qm_X4_48 0 8 rfl rfl wm_0 rfl rfl (Nat.le_of_ble_eq_true rfl) dX4_changed_93 ⟨(Nat.le_of_ble_eq_true rfl), (Nat.le_of_ble_eq_true rfl)⟩ ⟨(Nat.le_of_ble_eq_true rfl), (Nat.le_of_ble_eq_true rfl)⟩ ?_
                      refine r_w (w' := WM cy ba ra (chO f hf w d0 3) hq kn th sm ++ (Y ++ [(b_23, .inl (cy 2, 4, .inl (gcF f (chO f hf w d0 3) w k)))])) rfl ?_
                      refine r_iload_n C dX4_changed_96 rfl ?_
                      refine r_icN_ne (a := (f 1 (4 + k))) (b := (f 1 w)) (tgt := 116) C (by have := hC.al (i := 4 + k) (by omega); omega) (by first | omega | (simp [up2, *]; done) | (simp [up2, *]; omega) | (simp only [up2_eq]; omega) | (split <;> omega)) dX4_changed_97 (by decide) (fun h97_38 => ?_) (fun h97_38 => ?_)
                      · first
                        | exfalso; first | omega | contradiction
                        | skip
                          refine r_iconst (v := (nI 0)) C dX4_changed_116 (by decide) ?_
                          refine x_zst C (i := k) (v := 0) (f := gcF f (chO f hf w d0 3) w k) (E' := [(b_23, .inl (cy 2, 4, .inl (upd (gcF f (chO f hf w d0 3) w k) k (nI 0))))]) 0 rfl (by first | omega | (simp [up2, *]; done) | (simp [up2, *]; omega) | (simp only [up2_eq]; omega) | (split <;> omega)) (by first | omega | (simp [up2, *]; done) | (simp [up2, *]; omega) | (simp only [up2_eq]; omega) | (split <;> omega)) (by first | omega | (simp [up2, *]; done) | (simp [up2, *]; omega) | (simp only [up2_eq]; omega) | (split <;> omega)) rfl dX4_changed_117 ?_
                          refine r_iincN C dX4_changed_118 rfl (by decide) rfl ?_
                          refine r_goto (tgt := 68) C dX4_changed_121 (by decide) ?_
                          refine r_w (w' := WM cy ba ra (chO f hf w d0 3) hq kn th sm ++ (Y ++ [(b_23, .inl (cy 2, 4, .inl (gcF f (chO f hf w d0 3) w (k + 1))))])) (by rw [gcF_up (go0 (hf := chO f hf w d0 3) (show hf 5 (4 + k) = 0 ∨ f 1 (4 + k) ≠ f 1 w ∨ hol f (4 + k) w ≠ 0 by omega))]) ?_
                          exact ih_L68 (k + 1) (by first | omega | (simp [up2, *]; done) | (simp [up2, *]; omega) | (simp only [up2_eq]; omega) | (split <;> omega))
                      · first
                        | exfalso; first | omega | contradiction
                        | skip
                          refine r_aload_n C dX4_changed_100 rfl ?_
                          refine r_iconst (v := (nI 4)) C dX4_changed_101 (by decide) ?_
                          refine r_iload C dX4_changed_102 rfl ?_
                          refine r_iaddN C dX4_changed_104 ?_
                          refine r_iload_n C dX4_changed_105 rfl ?_
                          refine d_V (st := [.int (nI k), .ref b_23]) hX.1.stb C hE (D_isHolder (ba := ba) (ra := ra) (hf := (chO f hf w d0 3)) (hq := hq) (kn := kn) (th := th) (sm := sm) (f := f) (h0 := (4 + k)) (w := w) hX hC (MG.same (fun _ => rfl) (fun _ => rfl) hG) (by first | omega | (simp [up2, *]; done) | (simp [up2, *]; omega) | (simp only [up2_eq]; omega) | (split <;> omega)) (by first | omega | (simp [up2, *]; done) | (simp [up2, *]; omega) | (simp only [up2_eq]; omega) | (split <;> omega)) (by first | omega | (simp [up2, *]; done) | (simp [up2, *]; omega) | (simp only [up2_eq]; omega) | (split <;> omega))) pk_X4_isHolder qm_X4_66 0 8 rfl rfl wm_0 rfl rfl (Nat.le_of_ble_eq_true rfl) dX4_changed_106 ⟨(Nat.le_of_ble_eq_true rfl), (Nat.le_of_ble_eq_true rfl)⟩ ⟨(Nat.le_of_ble_eq_true rfl), (Nat.le_of_ble_eq_true rfl)⟩ ?_
                          refine r_w (w' := WM cy ba ra (chO f hf w d0 3) hq kn th sm ++ (Y ++ [(b_23, .inl (cy 2, 4, .inl (gcF f (chO f hf w d0 3) w k)))])) rfl ?_
                          refine r_ifN_ne (a := (hol f (4 + k) w)) (tgt := 116) C (Nat.lt_of_le_of_lt (hol_le _ _ _) (by decide)) dX4_changed_109 (by decide) (fun h109_39 => ?_) (fun h109_39 => ?_)
                          · first
                            | exfalso; first | omega | contradiction
                            | skip
                              refine r_iconst (v := (nI 0)) C dX4_changed_116 (by decide) ?_
                              refine x_zst C (i := k) (v := 0) (f := gcF f (chO f hf w d0 3) w k) (E' := [(b_23, .inl (cy 2, 4, .inl (upd (gcF f (chO f hf w d0 3) w k) k (nI 0))))]) 0 rfl (by first | omega | (simp [up2, *]; done) | (simp [up2, *]; omega) | (simp only [up2_eq]; omega) | (split <;> omega)) (by first | omega | (simp [up2, *]; done) | (simp [up2, *]; omega) | (simp only [up2_eq]; omega) | (split <;> omega)) (by first | omega | (simp [up2, *]; done) | (simp [up2, *]; omega) | (simp only [up2_eq]; omega) | (split <;> omega)) rfl dX4_changed_117 ?_
                              refine r_iincN C dX4_changed_118 rfl (by decide) rfl ?_
                              refine r_goto (tgt := 68) C dX4_changed_121 (by decide) ?_
                              refine r_w (w' := WM cy ba ra (chO f hf w d0 3) hq kn th sm ++ (Y ++ [(b_23, .inl (cy 2, 4, .inl (gcF f (chO f hf w d0 3) w (k + 1))))])) (by rw [gcF_up (go0 (hf := chO f hf w d0 3) (show hf 5 (4 + k) = 0 ∨ f 1 (4 + k) ≠ f 1 w ∨ hol f (4 + k) w ≠ 0 by omega))]) ?_
                              exact ih_L68 (k + 1) (by first | omega | (simp [up2, *]; done) | (simp [up2, *]; omega) | (simp only [up2_eq]; omega) | (split <;> omega))
                          · first
                            | exfalso; first | omega | contradiction
                            | skip
                              refine r_iconst (v := (nI 1)) C dX4_changed_112 (by decide) ?_
                              refine r_goto (tgt := 117) C dX4_changed_113 (by decide) ?_
                              refine x_zst C (i := k) (v := 1) (f := gcF f (chO f hf w d0 3) w k) (E' := [(b_23, .inl (cy 2, 4, .inl (upd (gcF f (chO f hf w d0 3) w k) k (nI 1))))]) 0 rfl (by first | omega | (simp [up2, *]; done) | (simp [up2, *]; omega) | (simp only [up2_eq]; omega) | (split <;> omega)) (by first | omega | (simp [up2, *]; done) | (simp [up2, *]; omega) | (simp only [up2_eq]; omega) | (split <;> omega)) (by first | omega | (simp [up2, *]; done) | (simp [up2, *]; omega) | (simp only [up2_eq]; omega) | (split <;> omega)) rfl dX4_changed_117 ?_
                              refine r_iincN C dX4_changed_118 rfl (by decide) rfl ?_
                              refine r_goto (tgt := 68) C dX4_changed_121 (by decide) ?_
                              refine r_w (w' := WM cy ba ra (chO f hf w d0 3) hq kn th sm ++ (Y ++ [(b_23, .inl (cy 2, 4, .inl (gcF f (chO f hf w d0 3) w (k + 1))))])) (by rw [gcF_up (go1 (hf := chO f hf w d0 3) (show hf 5 (4 + k) ≠ 0 by assumption) (by assumption) (by omega))]) ?_
                              exact ih_L68 (k + 1) (by first | omega | (simp [up2, *]; done) | (simp [up2, *]; omega) | (simp only [up2_eq]; omega) | (split <;> omega))
          exact L68 4 0 (by first | omega | (simp [up2, *]; done) | (simp [up2, *]; omega) | (simp only [up2_eq]; omega) | (split <;> omega))
      · first
        | exfalso; first | omega | contradiction
        | skip
          refine r_iload C dX4_changed_15 rfl ?_
          refine r_iload_n C dX4_changed_17 rfl ?_
          refine r_icN_eq (a := k) (b := d0) (tgt := 54) C (by first | omega | (simp [up2, *]; done) | (simp [up2, *]; omega) | (simp only [up2_eq]; omega) | (split <;> omega)) (by first | omega | (simp [up2, *]; done) | (simp [up2, *]; omega) | (simp only [up2_eq]; omega) | (split <;> omega)) dX4_changed_18 (by decide) (fun h18_40 => ?_) (fun h18_40 => ?_)
          · first
            | exfalso; first | omega | contradiction
            | skip
              refine r_iincN C dX4_changed_54 rfl (by decide) rfl ?_
              refine r_goto (tgt := 9) C dX4_changed_57 (by decide) ?_
              refine r_w (w' := WM cy ba ra (chO f hf w d0 (k + 1)) hq kn th sm ++ Y) (by rw [chO_no (f := f) (hf := hf) (by omega)]) ?_
              exact ih_L9 (k + 1) (by first | omega | (simp [up2, *]; done) | (simp [up2, *]; omega) | (simp only [up2_eq]; omega) | (split <;> omega))
          · first
            | exfalso; first | omega | contradiction
            | skip
              refine r_aload_n C dX4_changed_21 rfl ?_
              refine m_get (v := .ref (ba 5)) C 5 (by decide) qf_X4_32 rfl rfl dX4_changed_22 ?_
              refine r_iload C dX4_changed_25 rfl ?_
              refine m_zld (i := k) (z := k) (v := hf 9 k) C 4 (by decide) (by decide) (show k < 3 from (by first | omega | (simp [up2, *]; done) | (simp [up2, *]; omega) | (simp only [up2_eq]; omega) | (split <;> omega))) (show 0 + k = k from (by omega)) chO_at dX4_changed_27 ?_
              refine r_ifN_eq (a := (hf 9 k)) (tgt := 54) C (by have := h9a k (by omega); omega) dX4_changed_28 (by decide) (fun h28_41 => ?_) (fun h28_41 => ?_)
              · first
                | exfalso; first | omega | contradiction
                | skip
                  refine r_iincN C dX4_changed_54 rfl (by decide) rfl ?_
                  refine r_goto (tgt := 9) C dX4_changed_57 (by decide) ?_
                  refine r_w (w' := WM cy ba ra (chO f hf w d0 (k + 1)) hq kn th sm ++ Y) (by rw [chO_no (f := f) (hf := hf) (by omega)]) ?_
                  exact ih_L9 (k + 1) (by first | omega | (simp [up2, *]; done) | (simp [up2, *]; omega) | (simp only [up2_eq]; omega) | (split <;> omega))
              · first
                | exfalso; first | omega | contradiction
                | skip
                  refine r_aload_n C dX4_changed_31 rfl ?_
                  refine r_aload_n C dX4_changed_32 rfl ?_
                  refine m_get (v := .ref (ba 6)) C 6 (by decide) qf_X4_35 rfl rfl dX4_changed_33 ?_
                  refine r_iload C dX4_changed_36 rfl ?_
                  refine m_ald (i := k) (z := k) (v := hf 6 k) C 5 (by decide) (by decide) (show k < 3 from (by first | omega | (simp [up2, *]; done) | (simp [up2, *]; omega) | (simp only [up2_eq]; omega) | (split <;> omega))) (show 0 + k = k from (by omega)) rfl dX4_changed_38 ?_
                  refine d_V (st := []) hX.1.stb C hE (D_rowOf (ba := ba) (ra := ra) (hf := (chO f hf w d0 k)) (hq := hq) (kn := kn) (th := th) (sm := sm) (Y := Y) (f := f) (w := (hf 6 k)) hX hC (MG.same (fun _ => rfl) (fun _ => rfl) hG) (hU k (by omega) (by assumption)).1 (hU k (by omega) (by assumption)).2) pk_X4_rowOf qm_X4_48 0 8 rfl rfl wm_0 rfl rfl (Nat.le_of_ble_eq_true rfl) dX4_changed_39 ⟨(Nat.le_of_ble_eq_true rfl), (Nat.le_of_ble_eq_true rfl)⟩ ⟨(Nat.le_of_ble_eq_true rfl), (Nat.le_of_ble_eq_true rfl)⟩ ?_
                  refine r_w (w' := WM cy ba ra (chO f hf w d0 k) hq kn th sm ++ Y) rfl ?_
                  refine r_iload_n C dX4_changed_42 rfl ?_
                  refine r_icN_ne (a := (f 1 (hf 6 k))) (b := (f 1 w)) (tgt := 54) C (by have := hC.al (hU k (by omega) (by assumption)).1; omega) (by first | omega | (simp [up2, *]; done) | (simp [up2, *]; omega) | (simp only [up2_eq]; omega) | (split <;> omega)) dX4_changed_43 (by decide) (fun h43_42 => ?_) (fun h43_42 => ?_)
                  · first
                    | exfalso; first | omega | contradiction
                    | skip
                      refine r_iincN C dX4_changed_54 rfl (by decide) rfl ?_
                      refine r_goto (tgt := 9) C dX4_changed_57 (by decide) ?_
                      refine r_w (w' := WM cy ba ra (chO f hf w d0 (k + 1)) hq kn th sm ++ Y) (by rw [chO_no (f := f) (hf := hf) (by omega)]) ?_
                      exact ih_L9 (k + 1) (by first | omega | (simp [up2, *]; done) | (simp [up2, *]; omega) | (simp only [up2_eq]; omega) | (split <;> omega))
                  · first
                    | exfalso; first | omega | contradiction
                    | skip
                      refine r_aload_n C dX4_changed_46 rfl ?_
                      refine m_get (v := .ref (ba 5)) C 5 (by decide) qf_X4_32 rfl rfl dX4_changed_47 ?_
                      refine r_iload C dX4_changed_50 rfl ?_
                      refine r_iconst (v := (nI 0)) C dX4_changed_52 (by decide) ?_
                      refine m_zst (i := k) (z := k) (v := 0) C 4 (by decide) (by decide) (show k < 3 from (by first | omega | (simp [up2, *]; done) | (simp [up2, *]; omega) | (simp only [up2_eq]; omega) | (split <;> omega))) (show 0 + k = k from (by omega)) (by first | omega | (simp [up2, *]; done) | (simp [up2, *]; omega) | (simp only [up2_eq]; omega) | (split <;> omega)) dX4_changed_53 ?_
                      refine r_w (w' := WM cy ba ra (up2 (chO f hf w d0 k) 9 k 0) hq kn th sm ++ Y) rfl ?_
                      refine r_iincN C dX4_changed_54 rfl (by decide) rfl ?_
                      refine r_goto (tgt := 9) C dX4_changed_57 (by decide) ?_
                      refine r_w (w' := WM cy ba ra (chO f hf w d0 (k + 1)) hq kn th sm ++ Y) (by rw [chO_yes (by omega) (by assumption) (by assumption)]) ?_
                      exact ih_L9 (k + 1) (by first | omega | (simp [up2, *]; done) | (simp [up2, *]; omega) | (simp only [up2_eq]; omega) | (split <;> omega))
  exact L9 3 0 (by first | omega | (simp [up2, *]; done) | (simp [up2, *]; omega) | (simp only [up2_eq]; omega) | (split <;> omega))
theorem dX4_lay_0 : decode cX4_lay 0 = .ok (.aload_n 0, 1) := dqo_42 (kb_X4_lay_0 0 rfl)
theorem dX4_lay_1 : decode cX4_lay 1 = .ok (.iload_n 1, 1) := dqo_27 (kb_X4_lay_0 1 rfl)
theorem dX4_lay_2 : decode cX4_lay 2 = .ok (.invokevirtual 48, 3) := dqo_182 0 48 (kb_X4_lay_0 2 rfl) (kb_X4_lay_0 3 rfl) (kb_X4_lay_0 4 rfl)
theorem dX4_lay_5 : decode cX4_lay 5 = .ok (.istore 5, 2) := dqo_54 5 (kb_X4_lay_0 5 rfl) (kb_X4_lay_0 6 rfl)
theorem dX4_lay_7 : decode cX4_lay 7 = .ok (.aload_n 0, 1) := dqo_42 (kb_X4_lay_0 7 rfl)
theorem dX4_lay_8 : decode cX4_lay 8 = .ok (.iload_n 1, 1) := dqo_27 (kb_X4_lay_0 8 rfl)
theorem dX4_lay_9 : decode cX4_lay 9 = .ok (.invokevirtual 52, 3) := dqo_182 0 52 (kb_X4_lay_0 9 rfl) (kb_X4_lay_0 10 rfl) (kb_X4_lay_0 11 rfl)
theorem dX4_lay_12 : decode cX4_lay 12 = .ok (.iload_n 2, 1) := dqo_28 (kb_X4_lay_0 12 rfl)
theorem dX4_lay_13 : decode cX4_lay 13 = .ok (.iadd, 1) := dqo_96 (kb_X4_lay_0 13 rfl)
theorem dX4_lay_14 : decode cX4_lay 14 = .ok (.istore 6, 2) := dqo_54 6 (kb_X4_lay_0 14 rfl) (kb_X4_lay_0 15 rfl)
theorem dX4_lay_16 : decode cX4_lay 16 = .ok (.aload_n 0, 1) := dqo_42 (kb_X4_lay_0 16 rfl)
theorem dX4_lay_17 : decode cX4_lay 17 = .ok (.getfield 15, 3) := dqo_180 0 15 (kb_X4_lay_0 17 rfl) (kb_X4_lay_0 18 rfl) (kb_X4_lay_0 19 rfl)
theorem dX4_lay_20 : decode cX4_lay 20 = .ok (.iload 5, 2) := dqo_21 5 (kb_X4_lay_0 20 rfl) (kb_X4_lay_0 21 rfl)
theorem dX4_lay_22 : decode cX4_lay 22 = .ok (.aaload, 1) := dqo_50 (kb_X4_lay_0 22 rfl)
theorem dX4_lay_23 : decode cX4_lay 23 = .ok (.astore 7, 2) := dqo_58 7 (kb_X4_lay_0 23 rfl) (kb_X4_lay_0 24 rfl)
theorem dX4_lay_25 : decode cX4_lay 25 = .ok (.aload 7, 2) := dqo_25 7 (kb_X4_lay_0 25 rfl) (kb_X4_lay_0 26 rfl)
theorem dX4_lay_27 : decode cX4_lay 27 = .ok (.arraylength, 1) := dqo_190 (kb_X4_lay_0 27 rfl)
theorem dX4_lay_28 : decode cX4_lay 28 = .ok (.iload_n 3, 1) := dqo_29 (kb_X4_lay_0 28 rfl)
theorem dX4_lay_29 : decode cX4_lay 29 = .ok (.isub, 1) := dqo_100 (kb_X4_lay_0 29 rfl)
theorem dX4_lay_30 : decode cX4_lay 30 = .ok (.aload 4, 2) := dqo_25 4 (kb_X4_lay_0 30 rfl) (kb_X4_lay_0 31 rfl)
theorem dX4_lay_32 : decode cX4_lay 32 = .ok (.arraylength, 1) := dqo_190 (kb_X4_lay_0 32 rfl)
theorem dX4_lay_33 : decode cX4_lay 33 = .ok (.iadd, 1) := dqo_96 (kb_X4_lay_0 33 rfl)
theorem dX4_lay_34 : decode cX4_lay 34 = .ok (.newarray .int, 2) := dqo_188_10 (kb_X4_lay_0 34 rfl) (kb_X4_lay_0 35 rfl)
theorem dX4_lay_36 : decode cX4_lay 36 = .ok (.astore 8, 2) := dqo_58 8 (kb_X4_lay_0 36 rfl) (kb_X4_lay_0 37 rfl)
theorem dX4_lay_38 : decode cX4_lay 38 = .ok (.iconst 0, 1) := dqo_3 (kb_X4_lay_0 38 rfl)
theorem dX4_lay_39 : decode cX4_lay 39 = .ok (.istore 9, 2) := dqo_54 9 (kb_X4_lay_0 39 rfl) (kb_X4_lay_0 40 rfl)
theorem dX4_lay_41 : decode cX4_lay 41 = .ok (.iload 9, 2) := dqo_21 9 (kb_X4_lay_0 41 rfl) (kb_X4_lay_0 42 rfl)
theorem dX4_lay_43 : decode cX4_lay 43 = .ok (.aload 8, 2) := dqo_25 8 (kb_X4_lay_0 43 rfl) (kb_X4_lay_0 44 rfl)
theorem dX4_lay_45 : decode cX4_lay 45 = .ok (.arraylength, 1) := dqo_190 (kb_X4_lay_0 45 rfl)
theorem dX4_lay_46 : decode cX4_lay 46 = .ok (.if_icmp .ge 62, 3) := dqo_162 0 62 (by decide) (kb_X4_lay_0 46 rfl) (kb_X4_lay_0 47 rfl) (kb_X4_lay_0 48 rfl)
theorem dX4_lay_49 : decode cX4_lay 49 = .ok (.aload 8, 2) := dqo_25 8 (kb_X4_lay_0 49 rfl) (kb_X4_lay_0 50 rfl)
theorem dX4_lay_51 : decode cX4_lay 51 = .ok (.iload 9, 2) := dqo_21 9 (kb_X4_lay_0 51 rfl) (kb_X4_lay_0 52 rfl)
theorem dX4_lay_53 : decode cX4_lay 53 = .ok (.iload 9, 2) := dqo_21 9 (kb_X4_lay_0 53 rfl) (kb_X4_lay_0 54 rfl)
theorem dX4_lay_55 : decode cX4_lay 55 = .ok (.iload 6, 2) := dqo_21 6 (kb_X4_lay_0 55 rfl) (kb_X4_lay_0 56 rfl)
theorem dX4_lay_57 : decode cX4_lay 57 = .ok (.if_icmp .ge 11, 3) := dqo_162 0 11 (by decide) (kb_X4_lay_0 57 rfl) (kb_X4_lay_0 58 rfl) (kb_X4_lay_0 59 rfl)
theorem dX4_lay_60 : decode cX4_lay 60 = .ok (.aload 7, 2) := dqo_25 7 (kb_X4_lay_0 60 rfl) (kb_X4_lay_0 61 rfl)
theorem dX4_lay_62 : decode cX4_lay 62 = .ok (.iload 9, 2) := dqo_21 9 (kb_X4_lay_0 62 rfl) (kb_X4_lay_0 63 rfl)
theorem dX4_lay_64 : decode cX4_lay 64 = .ok (.iaload, 1) := dqo_46 (kb_X4_lay_1 0 rfl)
theorem dX4_lay_65 : decode cX4_lay 65 = .ok (.goto 36, 3) := dqo_167 0 36 (by decide) (kb_X4_lay_1 1 rfl) (kb_X4_lay_1 2 rfl) (kb_X4_lay_1 3 rfl)
theorem dX4_lay_68 : decode cX4_lay 68 = .ok (.iload 9, 2) := dqo_21 9 (kb_X4_lay_1 4 rfl) (kb_X4_lay_1 5 rfl)
theorem dX4_lay_70 : decode cX4_lay 70 = .ok (.iload 6, 2) := dqo_21 6 (kb_X4_lay_1 6 rfl) (kb_X4_lay_1 7 rfl)
theorem dX4_lay_72 : decode cX4_lay 72 = .ok (.aload 4, 2) := dqo_25 4 (kb_X4_lay_1 8 rfl) (kb_X4_lay_1 9 rfl)
theorem dX4_lay_74 : decode cX4_lay 74 = .ok (.arraylength, 1) := dqo_190 (kb_X4_lay_1 10 rfl)
theorem dX4_lay_75 : decode cX4_lay 75 = .ok (.iadd, 1) := dqo_96 (kb_X4_lay_1 11 rfl)
theorem dX4_lay_76 : decode cX4_lay 76 = .ok (.if_icmp .ge 14, 3) := dqo_162 0 14 (by decide) (kb_X4_lay_1 12 rfl) (kb_X4_lay_1 13 rfl) (kb_X4_lay_1 14 rfl)
theorem dX4_lay_79 : decode cX4_lay 79 = .ok (.aload 4, 2) := dqo_25 4 (kb_X4_lay_1 15 rfl) (kb_X4_lay_1 16 rfl)
theorem dX4_lay_81 : decode cX4_lay 81 = .ok (.iload 9, 2) := dqo_21 9 (kb_X4_lay_1 17 rfl) (kb_X4_lay_1 18 rfl)
theorem dX4_lay_83 : decode cX4_lay 83 = .ok (.iload 6, 2) := dqo_21 6 (kb_X4_lay_1 19 rfl) (kb_X4_lay_1 20 rfl)
theorem dX4_lay_85 : decode cX4_lay 85 = .ok (.isub, 1) := dqo_100 (kb_X4_lay_1 21 rfl)
theorem dX4_lay_86 : decode cX4_lay 86 = .ok (.iaload, 1) := dqo_46 (kb_X4_lay_1 22 rfl)
theorem dX4_lay_87 : decode cX4_lay 87 = .ok (.goto 14, 3) := dqo_167 0 14 (by decide) (kb_X4_lay_1 23 rfl) (kb_X4_lay_1 24 rfl) (kb_X4_lay_1 25 rfl)
theorem dX4_lay_90 : decode cX4_lay 90 = .ok (.aload 7, 2) := dqo_25 7 (kb_X4_lay_1 26 rfl) (kb_X4_lay_1 27 rfl)
theorem dX4_lay_92 : decode cX4_lay 92 = .ok (.iload 9, 2) := dqo_21 9 (kb_X4_lay_1 28 rfl) (kb_X4_lay_1 29 rfl)
theorem dX4_lay_94 : decode cX4_lay 94 = .ok (.aload 4, 2) := dqo_25 4 (kb_X4_lay_1 30 rfl) (kb_X4_lay_1 31 rfl)
theorem dX4_lay_96 : decode cX4_lay 96 = .ok (.arraylength, 1) := dqo_190 (kb_X4_lay_1 32 rfl)
theorem dX4_lay_97 : decode cX4_lay 97 = .ok (.isub, 1) := dqo_100 (kb_X4_lay_1 33 rfl)
theorem dX4_lay_98 : decode cX4_lay 98 = .ok (.iload_n 3, 1) := dqo_29 (kb_X4_lay_1 34 rfl)
theorem dX4_lay_99 : decode cX4_lay 99 = .ok (.iadd, 1) := dqo_96 (kb_X4_lay_1 35 rfl)
theorem dX4_lay_100 : decode cX4_lay 100 = .ok (.iaload, 1) := dqo_46 (kb_X4_lay_1 36 rfl)
theorem dX4_lay_101 : decode cX4_lay 101 = .ok (.iastore, 1) := dqo_79 (kb_X4_lay_1 37 rfl)
theorem dX4_lay_102 : decode cX4_lay 102 = .ok (.iinc 9 1, 3) := dqo_132 9 1 (by decide) (kb_X4_lay_1 38 rfl) (kb_X4_lay_1 39 rfl) (kb_X4_lay_1 40 rfl)
theorem dX4_lay_105 : decode cX4_lay 105 = .ok (.goto (-64), 3) := dqo_167 255 192 (by decide) (kb_X4_lay_1 41 rfl) (kb_X4_lay_1 42 rfl) (kb_X4_lay_1 43 rfl)
theorem dX4_lay_108 : decode cX4_lay 108 = .ok (.aload_n 0, 1) := dqo_42 (kb_X4_lay_1 44 rfl)
theorem dX4_lay_109 : decode cX4_lay 109 = .ok (.getfield 15, 3) := dqo_180 0 15 (kb_X4_lay_1 45 rfl) (kb_X4_lay_1 46 rfl) (kb_X4_lay_1 47 rfl)
theorem dX4_lay_112 : decode cX4_lay 112 = .ok (.iload 5, 2) := dqo_21 5 (kb_X4_lay_1 48 rfl) (kb_X4_lay_1 49 rfl)
theorem dX4_lay_114 : decode cX4_lay 114 = .ok (.aload 8, 2) := dqo_25 8 (kb_X4_lay_1 50 rfl) (kb_X4_lay_1 51 rfl)
theorem dX4_lay_116 : decode cX4_lay 116 = .ok (.aastore, 1) := dqo_83 (kb_X4_lay_1 52 rfl)
theorem dX4_lay_117 : decode cX4_lay 117 = .ok (.iload_n 1, 1) := dqo_27 (kb_X4_lay_1 53 rfl)
theorem dX4_lay_118 : decode cX4_lay 118 = .ok (.istore 9, 2) := dqo_54 9 (kb_X4_lay_1 54 rfl) (kb_X4_lay_1 55 rfl)
theorem dX4_lay_120 : decode cX4_lay 120 = .ok (.iload 9, 2) := dqo_21 9 (kb_X4_lay_1 56 rfl) (kb_X4_lay_1 57 rfl)
theorem dX4_lay_122 : decode cX4_lay 122 = .ok (.iconst 3, 1) := dqo_6 (kb_X4_lay_1 58 rfl)
theorem dX4_lay_123 : decode cX4_lay 123 = .ok (.if_icmp .le 34, 3) := dqo_164 0 34 (by decide) (kb_X4_lay_1 59 rfl) (kb_X4_lay_1 60 rfl) (kb_X4_lay_1 61 rfl)
theorem dX4_lay_126 : decode cX4_lay 126 = .ok (.aload_n 0, 1) := dqo_42 (kb_X4_lay_1 62 rfl)
theorem dX4_lay_127 : decode cX4_lay 127 = .ok (.getfield 29, 3) := dqo_180 0 29 (kb_X4_lay_1 63 rfl) (kb_X4_lay_2 0 rfl) (kb_X4_lay_2 1 rfl)
theorem dX4_lay_130 : decode cX4_lay 130 = .ok (.iload 9, 2) := dqo_21 9 (kb_X4_lay_2 2 rfl) (kb_X4_lay_2 3 rfl)
theorem dX4_lay_132 : decode cX4_lay 132 = .ok (.iconst 4, 1) := dqo_7 (kb_X4_lay_2 4 rfl)
theorem dX4_lay_133 : decode cX4_lay 133 = .ok (.isub, 1) := dqo_100 (kb_X4_lay_2 5 rfl)
theorem dX4_lay_134 : decode cX4_lay 134 = .ok (.dup2, 1) := dqo_92 (kb_X4_lay_2 6 rfl)
theorem dX4_lay_135 : decode cX4_lay 135 = .ok (.iaload, 1) := dqo_46 (kb_X4_lay_2 7 rfl)
theorem dX4_lay_136 : decode cX4_lay 136 = .ok (.aload 4, 2) := dqo_25 4 (kb_X4_lay_2 8 rfl) (kb_X4_lay_2 9 rfl)
theorem dX4_lay_138 : decode cX4_lay 138 = .ok (.arraylength, 1) := dqo_190 (kb_X4_lay_2 10 rfl)
theorem dX4_lay_139 : decode cX4_lay 139 = .ok (.iload_n 3, 1) := dqo_29 (kb_X4_lay_2 11 rfl)
theorem dX4_lay_140 : decode cX4_lay 140 = .ok (.isub, 1) := dqo_100 (kb_X4_lay_2 12 rfl)
theorem dX4_lay_141 : decode cX4_lay 141 = .ok (.iadd, 1) := dqo_96 (kb_X4_lay_2 13 rfl)
theorem dX4_lay_142 : decode cX4_lay 142 = .ok (.iastore, 1) := dqo_79 (kb_X4_lay_2 14 rfl)
theorem dX4_lay_143 : decode cX4_lay 143 = .ok (.aload_n 0, 1) := dqo_42 (kb_X4_lay_2 15 rfl)
theorem dX4_lay_144 : decode cX4_lay 144 = .ok (.getfield 22, 3) := dqo_180 0 22 (kb_X4_lay_2 16 rfl) (kb_X4_lay_2 17 rfl) (kb_X4_lay_2 18 rfl)
theorem dX4_lay_147 : decode cX4_lay 147 = .ok (.iload 9, 2) := dqo_21 9 (kb_X4_lay_2 19 rfl) (kb_X4_lay_2 20 rfl)
theorem dX4_lay_149 : decode cX4_lay 149 = .ok (.iconst 4, 1) := dqo_7 (kb_X4_lay_2 21 rfl)
theorem dX4_lay_150 : decode cX4_lay 150 = .ok (.isub, 1) := dqo_100 (kb_X4_lay_2 22 rfl)
theorem dX4_lay_151 : decode cX4_lay 151 = .ok (.iaload, 1) := dqo_46 (kb_X4_lay_2 23 rfl)
theorem dX4_lay_152 : decode cX4_lay 152 = .ok (.istore 9, 2) := dqo_54 9 (kb_X4_lay_2 24 rfl) (kb_X4_lay_2 25 rfl)
theorem dX4_lay_154 : decode cX4_lay 154 = .ok (.goto (-34), 3) := dqo_167 255 222 (by decide) (kb_X4_lay_2 26 rfl) (kb_X4_lay_2 27 rfl) (kb_X4_lay_2 28 rfl)
theorem dX4_lay_157 : decode cX4_lay 157 = .ok (.return_, 1) := dqo_177 (kb_X4_lay_2 29 rfl)
set_option maxRecDepth 100000 in
set_option maxHeartbeats 4000000 in
theorem D_lay {l : Launch} {D : va_G} {cy : Nat → ClassId} {X : (Nat → Prop) → State → Heap → Prop} {ba ra : Nat → Nat} {hf : Nat → Nat → Nat} {hq : Nat → Nat → Int32} {kn th : Int32} {sm : Int64} {Y : va_W} {f : Nat → Nat → Nat} {w : Nat} {p0 : Nat} {o0 : Nat} {b0 : Nat} {n0 : Nat} {g0 : Nat → Int32} {j0 : Nat} (hX : EnvM X cy) (hC : CInv f) (hG : MG f hf) (hw : w < 8) (h5w : f 5 w = 1) (hat : f 3 w + p0 + o0 ≤ hf 4 (f 1 w)) (h12 : hf 4 (f 1 w) ≤ 12) (hfit : hf 4 (f 1 w) - o0 + n0 ≤ 12) (hsz : ∀ x, x < 8 → hol f x w ≠ 0 → o0 ≤ hf 4 x + n0) (hy : Y[j0]? = some (b0, .inl (cy 1, n0, .inl g0))) : Cm l D cy X yX4_lay cX4_lay 10 none (rmk 5 1 12 190) [.ref (ba 9), .int (nI w), .int (nI p0), .int (nI o0), .ref b0] (WM cy ba ra hf hq kn th sm ++ Y) (fun v1 w1 => ∃ ra9 : Nat → Nat, v1 = none ∧ w1 = WM cy ba ra9 (lyM f (up2 hf 4 (f 1 w) (hf 4 (f 1 w) - o0 + n0)) w n0 o0) (upR hq (f 1 w) (layF (hq (f 1 w)) g0 (f 3 w + p0) n0 o0 (hf 4 (f 1 w) - o0 + n0))) kn th sm ++ Y) (fun _ => False) := by
  have q1 := hC.al hw
  refine Cm.of [some (.ref (ba 9)), some (.int (nI w)), some (.int (nI p0)), some (.int (nI o0)), some (.ref b0), none, none, none, none, none] pn_X4 rfl (Nat.le_of_ble_eq_true rfl) ?_
  intro p e s m args below meth c A C hE hr hnt hn
  refine r_aload_n C dX4_lay_0 rfl ?_
  refine r_iload_n C dX4_lay_1 rfl ?_
  refine d_V (st := []) hX.1.stb C hE (D_rowOf (ba := ba) (ra := ra) (hf := hf) (hq := hq) (kn := kn) (th := th) (sm := sm) (Y := Y) (f := f) (w := w) hX hC (MG.same (fun _ => rfl) (fun _ => rfl) hG) (by first | omega | (simp [up2, *]; done) | (simp [up2, *]; omega) | (simp only [up2_eq]; omega) | (split <;> omega)) (by first | omega | (simp [up2, *]; done) | (simp [up2, *]; omega) | (simp only [up2_eq]; omega) | (split <;> omega))) pk_X4_rowOf qm_X4_48 0 8 rfl rfl wm_0 rfl rfl (Nat.le_of_ble_eq_true rfl) dX4_lay_2 ⟨(Nat.le_of_ble_eq_true rfl), (Nat.le_of_ble_eq_true rfl)⟩ ⟨(Nat.le_of_ble_eq_true rfl), (Nat.le_of_ble_eq_true rfl)⟩ ?_
  refine r_w (w' := WM cy ba ra hf hq kn th sm ++ Y) rfl ?_
  refine r_istore C dX4_lay_5 (by decide) rfl ?_
  refine r_aload_n C dX4_lay_7 rfl ?_
  refine r_iload_n C dX4_lay_8 rfl ?_
  refine d_V (st := []) hX.1.stb C hE (D_begin (ba := ba) (ra := ra) (hf := hf) (hq := hq) (kn := kn) (th := th) (sm := sm) (Y := Y) (f := f) (w := w) hX hC (MG.same (fun _ => rfl) (fun _ => rfl) hG) (by first | omega | (simp [up2, *]; done) | (simp [up2, *]; omega) | (simp only [up2_eq]; omega) | (split <;> omega)) (by first | omega | (simp [up2, *]; done) | (simp [up2, *]; omega) | (simp only [up2_eq]; omega) | (split <;> omega))) pk_X4_begin qm_X4_52 0 8 rfl rfl wm_0 rfl rfl (Nat.le_of_ble_eq_true rfl) dX4_lay_9 ⟨(Nat.le_of_ble_eq_true rfl), (Nat.le_of_ble_eq_true rfl)⟩ ⟨(Nat.le_of_ble_eq_true rfl), (Nat.le_of_ble_eq_true rfl)⟩ ?_
  refine r_w (w' := WM cy ba ra hf hq kn th sm ++ Y) rfl ?_
  refine r_iload_n C dX4_lay_12 rfl ?_
  refine r_iaddN C dX4_lay_13 ?_
  refine r_istore C dX4_lay_14 (by decide) rfl ?_
  refine r_aload_n C dX4_lay_16 rfl ?_
  refine m_get (v := .ref (ba 0)) C 0 (by decide) qf_X4_15 rfl rfl dX4_lay_17 ?_
  refine r_iload C dX4_lay_20 rfl ?_
  refine m_rows (i := f 1 w) C (by first | omega | (simp [up2, *]; done) | (simp [up2, *]; omega) | (simp only [up2_eq]; omega) | (split <;> omega)) dX4_lay_22 ?_
  refine r_astore C dX4_lay_23 (by decide) rfl ?_
  refine r_aload C dX4_lay_25 rfl ?_
  refine m_rlen (i := f 1 w) (v := hf 4 (f 1 w)) C (by first | omega | (simp [up2, *]; done) | (simp [up2, *]; omega) | (simp only [up2_eq]; omega) | (split <;> omega)) rfl dX4_lay_27 ?_
  refine r_iload_n C dX4_lay_28 rfl ?_
  refine r_isubN C dX4_lay_29 (by first | omega | (simp [up2, *]; done) | (simp [up2, *]; omega) | (simp only [up2_eq]; omega) | (split <;> omega)) ?_
  refine r_aload C dX4_lay_30 rfl ?_
  refine y_len C j0 hy dX4_lay_32 ?_
  refine r_iaddN C dX4_lay_33 ?_
  refine r_newT C .int .int 1 rfl (by simp) qa_int (n := ((hf 4 (f 1 w)) - o0) + n0) (show ((hf 4 (f 1 w)) - o0) + n0 < 1000000 from Nat.lt_of_le_of_lt (show ((hf 4 (f 1 w)) - o0) + n0 ≤ 12 from by first | omega | (simp [up2, *]; done) | (simp [up2, *]; omega) | (simp only [up2_eq]; omega) | (split <;> omega)) (by decide)) (1) (12) (Nat.le_of_ble_eq_true rfl) (Nat.add_le_add (Nat.le_refl _) (show ((hf 4 (f 1 w)) - o0) + n0 ≤ 12 from by first | omega | (simp [up2, *]; done) | (simp [up2, *]; omega) | (simp only [up2_eq]; omega) | (split <;> omega))) (Nat.le_of_ble_eq_true rfl) (Nat.le_of_ble_eq_true rfl) dX4_lay_34 (fun b_1 => ?_)
  refine r_w (w' := WM cy ba ra hf hq kn th sm ++ (Y ++ [(b_1, .inl (cy 1, ((hf 4 (f 1 w)) - o0) + n0, .inl (fun _ => 0)))])) (by simp only [List.append_assoc, List.cons_append, List.nil_append]) ?_
  refine r_astore C dX4_lay_36 (by decide) rfl ?_
  refine r_iconst (v := (nI 0)) C dX4_lay_38 (by decide) ?_
  refine r_istore C dX4_lay_39 (by decide) rfl ?_
  refine r_w (w' := WM cy ba ra hf hq kn th sm ++ (Y ++ [(b_1, .inl (cy 1, ((hf 4 (f 1 w)) - o0) + n0, .inl (layF (hq (f 1 w)) g0 (f 3 w + p0) n0 o0 0)))])) (by rw [layF_0]) ?_
  have L41 : ∀ (d : Nat) (k : Nat), (hk : k + d = hf 4 (f 1 w) - o0 + n0) → vC p l e (rmk 5 1 12 190) s m args below meth c D A (vx_MQ below (vG (fun v1 w1 => ∃ ra9 : Nat → Nat, v1 = none ∧ w1 = WM cy ba ra9 (lyM f (up2 hf 4 (f 1 w) (hf 4 (f 1 w) - o0 + n0)) w n0 o0) (upR hq (f 1 w) (layF (hq (f 1 w)) g0 (f 3 w + p0) n0 o0 (hf 4 (f 1 w) - o0 + n0))) kn th sm ++ Y) D vwCl A) (vGX (fun _ => False) D vwCl (WM cy ba ra hf hq kn th sm ++ Y) A) args s (rmk 5 1 12 190).cells (rmk 5 1 12 190).slots A) 10 1 12 (WM cy ba ra hf hq kn th sm ++ (Y ++ [(b_1, .inl (cy 1, hf 4 (f 1 w) - o0 + n0, .inl (layF (hq (f 1 w)) g0 (f 3 w + p0) n0 o0 k)))])) [some (.ref (ba 9)), some (.int (nI w)), some (.int (nI p0)), some (.int (nI o0)), some (.ref b0), some (.int (nI (f 1 w))), some (.int (nI ((f 3 w) + p0))), some (.ref (ra (f 1 w))), some (.ref b_1), some (.int (nI k))] 41 [] := by
    intro d
    induction d with
    | zero =>
      intro k hk
      refine r_iload C dX4_lay_41 rfl ?_
      refine r_aload C dX4_lay_43 rfl ?_
      refine x_len C (t0 := 1) 0 rfl rfl dX4_lay_45 ?_
      refine r_icN_ge (a := k) (b := (hf 4 (f 1 w) - o0 + n0)) (tgt := 108) C (by first | omega | (simp [up2, *]; done) | (simp [up2, *]; omega) | (simp only [up2_eq]; omega) | (split <;> omega)) (by first | omega | (simp [up2, *]; done) | (simp [up2, *]; omega) | (simp only [up2_eq]; omega) | (split <;> omega)) dX4_lay_46 (by decide) (fun h46_2 => ?_) (fun h46_2 => ?_)
      · first
        | exfalso; first | omega | contradiction
        | skip
          have e9 : k = hf 4 (f 1 w) - o0 + n0 := by omega
          subst e9
          refine r_aload_n C dX4_lay_108 rfl ?_
          refine m_get (v := .ref (ba 0)) C 0 (by decide) qf_X4_15 rfl rfl dX4_lay_109 ?_
          refine r_iload C dX4_lay_112 rfl ?_
          refine r_aload C dX4_lay_114 rfl ?_
          refine m_setRow hX C hE (i := f 1 w) (f := layF (hq (f 1 w)) g0 (f 3 w + p0) n0 o0 (hf 4 (f 1 w) - o0 + n0)) 0 rfl (by first | omega | (simp [up2, *]; done) | (simp [up2, *]; omega) | (simp only [up2_eq]; omega) | (split <;> omega)) dX4_lay_116 ?_
          refine r_w (w' := WM cy ba (upR ra (f 1 w) b_1) (up2 hf 4 (f 1 w) (hf 4 (f 1 w) - o0 + n0)) (upR hq (f 1 w) (layF (hq (f 1 w)) g0 (f 3 w + p0) n0 o0 (hf 4 (f 1 w) - o0 + n0))) kn th sm ++ Y) (congrArg _ (List.append_nil Y)) ?_
          refine r_iload_n C dX4_lay_117 rfl ?_
          refine r_istore C dX4_lay_118 (by decide) rfl ?_
          refine r_w (w' := WM cy ba (upR ra (f 1 w) b_1) (lyT f (up2 hf 4 (f 1 w) (hf 4 (f 1 w) - o0 + n0)) w w n0 o0) (upR hq (f 1 w) (layF (hq (f 1 w)) g0 (f 3 w + p0) n0 o0 (hf 4 (f 1 w) - o0 + n0))) kn th sm ++ Y) (by rw [lyT_0]) ?_
          have L120 : ∀ (d : Nat) (x : Nat), (hx8 : x < 8) → (hx5 : f 5 x = 1) → (hxh : hol f x w ≠ 0) → (hch : chN f (d + 1) x) → vC p l e (rmk 5 1 12 190) s m args below meth c D A (vx_MQ below (vG (fun v1 w1 => ∃ ra9 : Nat → Nat, v1 = none ∧ w1 = WM cy ba ra9 (lyM f (up2 hf 4 (f 1 w) (hf 4 (f 1 w) - o0 + n0)) w n0 o0) (upR hq (f 1 w) (layF (hq (f 1 w)) g0 (f 3 w + p0) n0 o0 (hf 4 (f 1 w) - o0 + n0))) kn th sm ++ Y) D vwCl A) (vGX (fun _ => False) D vwCl (WM cy ba ra hf hq kn th sm ++ Y) A) args s (rmk 5 1 12 190).cells (rmk 5 1 12 190).slots A) 10 1 12 (WM cy ba (upR ra (f 1 w) b_1) (lyT f (up2 hf 4 (f 1 w) (hf 4 (f 1 w) - o0 + n0)) w x n0 o0) (upR hq (f 1 w) (layF (hq (f 1 w)) g0 (f 3 w + p0) n0 o0 (hf 4 (f 1 w) - o0 + n0))) kn th sm ++ Y) [some (.ref (ba 9)), some (.int (nI w)), some (.int (nI p0)), some (.int (nI o0)), some (.ref b0), none, none, none, none, some (.int (nI x))] 120 [] := by
            intro d
            induction d with
            | zero =>
              intro x hx8 hx5 hxh hch
              refine r_iload C dX4_lay_120 rfl ?_
              refine r_iconst (v := (nI 3)) C dX4_lay_122 (by decide) ?_
              refine r_icN_le (a := x) (b := 3) (tgt := 157) C (by first | omega | (simp [up2, *]; done) | (simp [up2, *]; omega) | (simp only [up2_eq]; omega) | (split <;> omega)) (by first | omega | (simp [up2, *]; done) | (simp [up2, *]; omega) | (simp only [up2_eq]; omega) | (split <;> omega)) dX4_lay_123 (by decide) (fun h123_3 => ?_) (fun h123_3 => ?_)
              · first
                | exfalso; first | omega | contradiction
                | skip
                  refine r_w (w' := WM cy ba (upR ra (f 1 w) b_1) (lyM f (up2 hf 4 (f 1 w) (hf 4 (f 1 w) - o0 + n0)) w n0 o0) (upR hq (f 1 w) (layF (hq (f 1 w)) g0 (f 3 w + p0) n0 o0 (hf 4 (f 1 w) - o0 + n0))) kn th sm ++ Y) (by rw [lyT_end hC (by omega)]) ?_
                  exact r_vret C hr dX4_lay_157 ⟨_, rfl, rfl⟩ (Nat.le_of_ble_eq_true rfl) (Nat.le_of_ble_eq_true rfl)
              · first
                | exfalso; first | omega | contradiction
                | skip
                  have q3 := chN_step hch (by omega)
                  have q4 := hC.wi (by omega) hx8 hx5
                  have q5 := hsz x hx8 hxh
                  have q6 := hG x (by omega) hx8 hx5
                  refine r_aload_n C dX4_lay_126 rfl ?_
                  refine m_get (v := .ref (ba 4)) C 4 (by decide) qf_X4_29 rfl rfl dX4_lay_127 ?_
                  refine r_iload C dX4_lay_130 rfl ?_
                  refine r_iconst (v := (nI 4)) C dX4_lay_132 (by decide) ?_
                  refine r_isubN C dX4_lay_133 (by first | omega | (simp [up2, *]; done) | (simp [up2, *]; omega) | (simp only [up2_eq]; omega) | (split <;> omega)) ?_
                  refine r_dup2 C dX4_lay_134 rfl rfl ?_
                  refine m_ald (i := x - 4) (z := x) (v := hf 4 x) C 3 (by decide) (by decide) (show x - 4 < 4 from (by first | omega | (simp [up2, *]; done) | (simp [up2, *]; omega) | (simp only [up2_eq]; omega) | (split <;> omega))) (show 4 + (x - 4) = x from (by omega)) ((lyT_at hx8).trans (up2_i _ _ _ _ (by omega))) dX4_lay_135 ?_
                  refine r_aload C dX4_lay_136 rfl ?_
                  refine y_len C j0 hy dX4_lay_138 ?_
                  refine r_iload_n C dX4_lay_139 rfl ?_
                  refine r_isub C dX4_lay_140 ?_
                  refine r_iadd C dX4_lay_141 ?_
                  refine r_eqi (nI_adj (by omega)) ?_
                  refine m_ast (i := x - 4) (z := x) (v := hf 4 x + n0 - o0) C 3 (by decide) (by decide) (show x - 4 < 4 from (by first | omega | (simp [up2, *]; done) | (simp [up2, *]; omega) | (simp only [up2_eq]; omega) | (split <;> omega))) (show 4 + (x - 4) = x from (by omega)) dX4_lay_142 ?_
                  refine r_w (w' := WM cy ba (upR ra (f 1 w) b_1) (up2 (lyT f (up2 hf 4 (f 1 w) (hf 4 (f 1 w) - o0 + n0)) w x n0 o0) 4 x (hf 4 x + n0 - o0)) (upR hq (f 1 w) (layF (hq (f 1 w)) g0 (f 3 w + p0) n0 o0 (hf 4 (f 1 w) - o0 + n0))) kn th sm ++ Y) rfl ?_
                  refine r_aload_n C dX4_lay_143 rfl ?_
                  refine m_get (v := .ref (ba 2)) C 2 (by decide) qf_X4_22 rfl rfl dX4_lay_144 ?_
                  refine r_iload C dX4_lay_147 rfl ?_
                  refine r_iconst (v := (nI 4)) C dX4_lay_149 (by decide) ?_
                  refine r_isubN C dX4_lay_150 (by first | omega | (simp [up2, *]; done) | (simp [up2, *]; omega) | (simp only [up2_eq]; omega) | (split <;> omega)) ?_
                  refine m_ald (i := x - 4) (z := x) (v := f 2 x) C 1 (by decide) (by decide) (show x - 4 < 4 from (by first | omega | (simp [up2, *]; done) | (simp [up2, *]; omega) | (simp only [up2_eq]; omega) | (split <;> omega))) (show 4 + (x - 4) = x from (by omega)) (show hf 2 x = f 2 x from q6.1) dX4_lay_151 ?_
                  refine r_istore C dX4_lay_152 (by decide) rfl ?_
                  refine r_goto (tgt := 120) C dX4_lay_154 (by decide) ?_
                  refine r_w (w' := WM cy ba (upR ra (f 1 w) b_1) (lyT f (up2 hf 4 (f 1 w) (hf 4 (f 1 w) - o0 + n0)) w (f 2 x) n0 o0) (upR hq (f 1 w) (layF (hq (f 1 w)) g0 (f 3 w + p0) n0 o0 (hf 4 (f 1 w) - o0 + n0))) kn th sm ++ Y) (by rw [lyT_step2 (hf := up2 hf 4 (f 1 w) (hf 4 (f 1 w) - o0 + n0)) hC (by omega) hx8 hx5 hxh (up2_i _ _ _ _ (by omega))]) ?_
                  exact q3.2.2.elim
            | succ d ih_L120 =>
              intro x hx8 hx5 hxh hch
              refine r_iload C dX4_lay_120 rfl ?_
              refine r_iconst (v := (nI 3)) C dX4_lay_122 (by decide) ?_
              refine r_icN_le (a := x) (b := 3) (tgt := 157) C (by first | omega | (simp [up2, *]; done) | (simp [up2, *]; omega) | (simp only [up2_eq]; omega) | (split <;> omega)) (by first | omega | (simp [up2, *]; done) | (simp [up2, *]; omega) | (simp only [up2_eq]; omega) | (split <;> omega)) dX4_lay_123 (by decide) (fun h123_4 => ?_) (fun h123_4 => ?_)
              · first
                | exfalso; first | omega | contradiction
                | skip
                  refine r_w (w' := WM cy ba (upR ra (f 1 w) b_1) (lyM f (up2 hf 4 (f 1 w) (hf 4 (f 1 w) - o0 + n0)) w n0 o0) (upR hq (f 1 w) (layF (hq (f 1 w)) g0 (f 3 w + p0) n0 o0 (hf 4 (f 1 w) - o0 + n0))) kn th sm ++ Y) (by rw [lyT_end hC (by omega)]) ?_
                  exact r_vret C hr dX4_lay_157 ⟨_, rfl, rfl⟩ (Nat.le_of_ble_eq_true rfl) (Nat.le_of_ble_eq_true rfl)
              · first
                | exfalso; first | omega | contradiction
                | skip
                  have q3 := chN_step hch (by omega)
                  have q4 := hC.wi (by omega) hx8 hx5
                  have q5 := hsz x hx8 hxh
                  have q6 := hG x (by omega) hx8 hx5
                  refine r_aload_n C dX4_lay_126 rfl ?_
                  refine m_get (v := .ref (ba 4)) C 4 (by decide) qf_X4_29 rfl rfl dX4_lay_127 ?_
                  refine r_iload C dX4_lay_130 rfl ?_
                  refine r_iconst (v := (nI 4)) C dX4_lay_132 (by decide) ?_
                  refine r_isubN C dX4_lay_133 (by first | omega | (simp [up2, *]; done) | (simp [up2, *]; omega) | (simp only [up2_eq]; omega) | (split <;> omega)) ?_
                  refine r_dup2 C dX4_lay_134 rfl rfl ?_
                  refine m_ald (i := x - 4) (z := x) (v := hf 4 x) C 3 (by decide) (by decide) (show x - 4 < 4 from (by first | omega | (simp [up2, *]; done) | (simp [up2, *]; omega) | (simp only [up2_eq]; omega) | (split <;> omega))) (show 4 + (x - 4) = x from (by omega)) ((lyT_at hx8).trans (up2_i _ _ _ _ (by omega))) dX4_lay_135 ?_
                  refine r_aload C dX4_lay_136 rfl ?_
                  refine y_len C j0 hy dX4_lay_138 ?_
                  refine r_iload_n C dX4_lay_139 rfl ?_
                  refine r_isub C dX4_lay_140 ?_
                  refine r_iadd C dX4_lay_141 ?_
                  refine r_eqi (nI_adj (by omega)) ?_
                  refine m_ast (i := x - 4) (z := x) (v := hf 4 x + n0 - o0) C 3 (by decide) (by decide) (show x - 4 < 4 from (by first | omega | (simp [up2, *]; done) | (simp [up2, *]; omega) | (simp only [up2_eq]; omega) | (split <;> omega))) (show 4 + (x - 4) = x from (by omega)) dX4_lay_142 ?_
                  refine r_w (w' := WM cy ba (upR ra (f 1 w) b_1) (up2 (lyT f (up2 hf 4 (f 1 w) (hf 4 (f 1 w) - o0 + n0)) w x n0 o0) 4 x (hf 4 x + n0 - o0)) (upR hq (f 1 w) (layF (hq (f 1 w)) g0 (f 3 w + p0) n0 o0 (hf 4 (f 1 w) - o0 + n0))) kn th sm ++ Y) rfl ?_
                  refine r_aload_n C dX4_lay_143 rfl ?_
                  refine m_get (v := .ref (ba 2)) C 2 (by decide) qf_X4_22 rfl rfl dX4_lay_144 ?_
                  refine r_iload C dX4_lay_147 rfl ?_
                  refine r_iconst (v := (nI 4)) C dX4_lay_149 (by decide) ?_
                  refine r_isubN C dX4_lay_150 (by first | omega | (simp [up2, *]; done) | (simp [up2, *]; omega) | (simp only [up2_eq]; omega) | (split <;> omega)) ?_
                  refine m_ald (i := x - 4) (z := x) (v := f 2 x) C 1 (by decide) (by decide) (show x - 4 < 4 from (by first | omega | (simp [up2, *]; done) | (simp [up2, *]; omega) | (simp only [up2_eq]; omega) | (split <;> omega))) (show 4 + (x - 4) = x from (by omega)) (show hf 2 x = f 2 x from q6.1) dX4_lay_151 ?_
                  refine r_istore C dX4_lay_152 (by decide) rfl ?_
                  refine r_goto (tgt := 120) C dX4_lay_154 (by decide) ?_
                  refine r_w (w' := WM cy ba (upR ra (f 1 w) b_1) (lyT f (up2 hf 4 (f 1 w) (hf 4 (f 1 w) - o0 + n0)) w (f 2 x) n0 o0) (upR hq (f 1 w) (layF (hq (f 1 w)) g0 (f 3 w + p0) n0 o0 (hf 4 (f 1 w) - o0 + n0))) kn th sm ++ Y) (by rw [lyT_step2 (hf := up2 hf 4 (f 1 w) (hf 4 (f 1 w) - o0 + n0)) hC (by omega) hx8 hx5 hxh (up2_i _ _ _ _ (by omega))]) ?_
                  exact ih_L120 (f 2 x) q4.1 q4.2.1 (hol_next hC hw h5w (by omega) hxh) q3.2.2
          refine r_drop 5 ?_
          refine r_drop 6 ?_
          refine r_drop 7 ?_
          refine r_drop 8 ?_
          exact L120 4 w hw h5w (by rw [hol_self hw]; decide) (hC.ch hw h5w)
      · first
        | exfalso; first | omega | contradiction
        | skip
          refine r_aload C dX4_lay_49 rfl ?_
          refine r_iload C dX4_lay_51 rfl ?_
          refine r_iload C dX4_lay_53 rfl ?_
          refine r_iload C dX4_lay_55 rfl ?_
          refine r_icN_ge (a := k) (b := ((f 3 w) + p0)) (tgt := 68) C (by first | omega | (simp [up2, *]; done) | (simp [up2, *]; omega) | (simp only [up2_eq]; omega) | (split <;> omega)) (by first | omega | (simp [up2, *]; done) | (simp [up2, *]; omega) | (simp only [up2_eq]; omega) | (split <;> omega)) dX4_lay_57 (by decide) (fun h57_5 => ?_) (fun h57_5 => ?_)
          · first
            | exfalso; first | omega | contradiction
            | skip
              refine r_iload C dX4_lay_68 rfl ?_
              refine r_iload C dX4_lay_70 rfl ?_
              refine r_aload C dX4_lay_72 rfl ?_
              refine y_len C j0 (ya_l hy) dX4_lay_74 ?_
              refine r_iaddN C dX4_lay_75 ?_
              refine r_icN_ge (a := k) (b := (((f 3 w) + p0) + n0)) (tgt := 90) C (by first | omega | (simp [up2, *]; done) | (simp [up2, *]; omega) | (simp only [up2_eq]; omega) | (split <;> omega)) (by first | omega | (simp [up2, *]; done) | (simp [up2, *]; omega) | (simp only [up2_eq]; omega) | (split <;> omega)) dX4_lay_76 (by decide) (fun h76_6 => ?_) (fun h76_6 => ?_)
              · first
                | exfalso; first | omega | contradiction
                | skip
                  refine r_aload C dX4_lay_90 rfl ?_
                  refine r_iload C dX4_lay_92 rfl ?_
                  refine r_aload C dX4_lay_94 rfl ?_
                  refine y_len C j0 (ya_l hy) dX4_lay_96 ?_
                  refine r_isubN C dX4_lay_97 (by first | omega | (simp [up2, *]; done) | (simp [up2, *]; omega) | (simp only [up2_eq]; omega) | (split <;> omega)) ?_
                  refine r_iload_n C dX4_lay_98 rfl ?_
                  refine r_iaddN C dX4_lay_99 ?_
                  refine m_rld (i := f 1 w) (n := (k - n0) + o0) C (by first | omega | (simp [up2, *]; done) | (simp [up2, *]; omega) | (simp only [up2_eq]; omega) | (split <;> omega)) (by first | omega | (simp [up2, *]; done) | (simp [up2, *]; omega) | (simp only [up2_eq]; omega) | (split <;> omega)) (by first | omega | (simp [up2, *]; done) | (simp [up2, *]; omega) | (simp only [up2_eq]; omega) | (split <;> omega)) dX4_lay_100 ?_
                  refine x_ast C (i := k) (f := layF (hq (f 1 w)) g0 (f 3 w + p0) n0 o0 k) (E' := [(b_1, .inl (cy 1, hf 4 (f 1 w) - o0 + n0, .inl (upd (layF (hq (f 1 w)) g0 (f 3 w + p0) n0 o0 k) k (hq (f 1 w) ((k - n0) + o0)))))]) 0 rfl (by first | omega | (simp [up2, *]; done) | (simp [up2, *]; omega) | (simp only [up2_eq]; omega) | (split <;> omega)) (by first | omega | (simp [up2, *]; done) | (simp [up2, *]; omega) | (simp only [up2_eq]; omega) | (split <;> omega)) rfl dX4_lay_101 ?_
                  refine r_iincN C dX4_lay_102 rfl (by decide) rfl ?_
                  refine r_goto (tgt := 41) C dX4_lay_105 (by decide) ?_
                  refine r_w (w' := WM cy ba ra hf hq kn th sm ++ (Y ++ [(b_1, .inl (cy 1, hf 4 (f 1 w) - o0 + n0, .inl (layF (hq (f 1 w)) g0 (f 3 w + p0) n0 o0 (k + 1))))])) (by rw [layF_up (g := hq (f 1 w)) (h := g0) (a := f 3 w + p0) (c := n0) (o := o0) (n := 0) (k := k) (x := (hq (f 1 w) ((k - n0) + o0))) (by first | rw [if_pos (by omega)] | rw [if_neg (by omega), if_pos (by omega)] | rw [if_neg (by omega), if_neg (by omega)])]) ?_
                  exact (Nat.not_lt_zero _ (by omega)).elim
              · first
                | exfalso; first | omega | contradiction
                | skip
                  refine r_aload C dX4_lay_79 rfl ?_
                  refine r_iload C dX4_lay_81 rfl ?_
                  refine r_iload C dX4_lay_83 rfl ?_
                  refine r_isubN C dX4_lay_85 (by first | omega | (simp [up2, *]; done) | (simp [up2, *]; omega) | (simp only [up2_eq]; omega) | (split <;> omega)) ?_
                  refine y_ald C (i := k - ((f 3 w) + p0)) (f := g0) j0 (ya_l hy) (by first | omega | (simp [up2, *]; done) | (simp [up2, *]; omega) | (simp only [up2_eq]; omega) | (split <;> omega)) (by first | omega | (simp [up2, *]; done) | (simp [up2, *]; omega) | (simp only [up2_eq]; omega) | (split <;> omega)) dX4_lay_86 ?_
                  refine r_goto (tgt := 101) C dX4_lay_87 (by decide) ?_
                  refine x_ast C (i := k) (f := layF (hq (f 1 w)) g0 (f 3 w + p0) n0 o0 k) (E' := [(b_1, .inl (cy 1, hf 4 (f 1 w) - o0 + n0, .inl (upd (layF (hq (f 1 w)) g0 (f 3 w + p0) n0 o0 k) k (g0 (k - ((f 3 w) + p0))))))]) 0 rfl (by first | omega | (simp [up2, *]; done) | (simp [up2, *]; omega) | (simp only [up2_eq]; omega) | (split <;> omega)) (by first | omega | (simp [up2, *]; done) | (simp [up2, *]; omega) | (simp only [up2_eq]; omega) | (split <;> omega)) rfl dX4_lay_101 ?_
                  refine r_iincN C dX4_lay_102 rfl (by decide) rfl ?_
                  refine r_goto (tgt := 41) C dX4_lay_105 (by decide) ?_
                  refine r_w (w' := WM cy ba ra hf hq kn th sm ++ (Y ++ [(b_1, .inl (cy 1, hf 4 (f 1 w) - o0 + n0, .inl (layF (hq (f 1 w)) g0 (f 3 w + p0) n0 o0 (k + 1))))])) (by rw [layF_up (g := hq (f 1 w)) (h := g0) (a := f 3 w + p0) (c := n0) (o := o0) (n := 0) (k := k) (x := (g0 (k - ((f 3 w) + p0)))) (by first | rw [if_pos (by omega)] | rw [if_neg (by omega), if_pos (by omega)] | rw [if_neg (by omega), if_neg (by omega)])]) ?_
                  exact (Nat.not_lt_zero _ (by omega)).elim
          · first
            | exfalso; first | omega | contradiction
            | skip
              refine r_aload C dX4_lay_60 rfl ?_
              refine r_iload C dX4_lay_62 rfl ?_
              refine m_rld (i := f 1 w) (n := k) C (by first | omega | (simp [up2, *]; done) | (simp [up2, *]; omega) | (simp only [up2_eq]; omega) | (split <;> omega)) (by first | omega | (simp [up2, *]; done) | (simp [up2, *]; omega) | (simp only [up2_eq]; omega) | (split <;> omega)) (by first | omega | (simp [up2, *]; done) | (simp [up2, *]; omega) | (simp only [up2_eq]; omega) | (split <;> omega)) dX4_lay_64 ?_
              refine r_goto (tgt := 101) C dX4_lay_65 (by decide) ?_
              refine x_ast C (i := k) (f := layF (hq (f 1 w)) g0 (f 3 w + p0) n0 o0 k) (E' := [(b_1, .inl (cy 1, hf 4 (f 1 w) - o0 + n0, .inl (upd (layF (hq (f 1 w)) g0 (f 3 w + p0) n0 o0 k) k (hq (f 1 w) k))))]) 0 rfl (by first | omega | (simp [up2, *]; done) | (simp [up2, *]; omega) | (simp only [up2_eq]; omega) | (split <;> omega)) (by first | omega | (simp [up2, *]; done) | (simp [up2, *]; omega) | (simp only [up2_eq]; omega) | (split <;> omega)) rfl dX4_lay_101 ?_
              refine r_iincN C dX4_lay_102 rfl (by decide) rfl ?_
              refine r_goto (tgt := 41) C dX4_lay_105 (by decide) ?_
              refine r_w (w' := WM cy ba ra hf hq kn th sm ++ (Y ++ [(b_1, .inl (cy 1, hf 4 (f 1 w) - o0 + n0, .inl (layF (hq (f 1 w)) g0 (f 3 w + p0) n0 o0 (k + 1))))])) (by rw [layF_up (g := hq (f 1 w)) (h := g0) (a := f 3 w + p0) (c := n0) (o := o0) (n := 0) (k := k) (x := (hq (f 1 w) k)) (by first | rw [if_pos (by omega)] | rw [if_neg (by omega), if_pos (by omega)] | rw [if_neg (by omega), if_neg (by omega)])]) ?_
              exact (Nat.not_lt_zero _ (by omega)).elim
    | succ d ih_L41 =>
      intro k hk
      refine r_iload C dX4_lay_41 rfl ?_
      refine r_aload C dX4_lay_43 rfl ?_
      refine x_len C (t0 := 1) 0 rfl rfl dX4_lay_45 ?_
      refine r_icN_ge (a := k) (b := (hf 4 (f 1 w) - o0 + n0)) (tgt := 108) C (by first | omega | (simp [up2, *]; done) | (simp [up2, *]; omega) | (simp only [up2_eq]; omega) | (split <;> omega)) (by first | omega | (simp [up2, *]; done) | (simp [up2, *]; omega) | (simp only [up2_eq]; omega) | (split <;> omega)) dX4_lay_46 (by decide) (fun h46_7 => ?_) (fun h46_7 => ?_)
      · first
        | exfalso; first | omega | contradiction
        | skip
          have e9 : k = hf 4 (f 1 w) - o0 + n0 := by omega
          subst e9
          refine r_aload_n C dX4_lay_108 rfl ?_
          refine m_get (v := .ref (ba 0)) C 0 (by decide) qf_X4_15 rfl rfl dX4_lay_109 ?_
          refine r_iload C dX4_lay_112 rfl ?_
          refine r_aload C dX4_lay_114 rfl ?_
          refine m_setRow hX C hE (i := f 1 w) (f := layF (hq (f 1 w)) g0 (f 3 w + p0) n0 o0 (hf 4 (f 1 w) - o0 + n0)) 0 rfl (by first | omega | (simp [up2, *]; done) | (simp [up2, *]; omega) | (simp only [up2_eq]; omega) | (split <;> omega)) dX4_lay_116 ?_
          refine r_w (w' := WM cy ba (upR ra (f 1 w) b_1) (up2 hf 4 (f 1 w) (hf 4 (f 1 w) - o0 + n0)) (upR hq (f 1 w) (layF (hq (f 1 w)) g0 (f 3 w + p0) n0 o0 (hf 4 (f 1 w) - o0 + n0))) kn th sm ++ Y) (congrArg _ (List.append_nil Y)) ?_
          refine r_iload_n C dX4_lay_117 rfl ?_
          refine r_istore C dX4_lay_118 (by decide) rfl ?_
          refine r_w (w' := WM cy ba (upR ra (f 1 w) b_1) (lyT f (up2 hf 4 (f 1 w) (hf 4 (f 1 w) - o0 + n0)) w w n0 o0) (upR hq (f 1 w) (layF (hq (f 1 w)) g0 (f 3 w + p0) n0 o0 (hf 4 (f 1 w) - o0 + n0))) kn th sm ++ Y) (by rw [lyT_0]) ?_
          have L120 : ∀ (d : Nat) (x : Nat), (hx8 : x < 8) → (hx5 : f 5 x = 1) → (hxh : hol f x w ≠ 0) → (hch : chN f (d + 1) x) → vC p l e (rmk 5 1 12 190) s m args below meth c D A (vx_MQ below (vG (fun v1 w1 => ∃ ra9 : Nat → Nat, v1 = none ∧ w1 = WM cy ba ra9 (lyM f (up2 hf 4 (f 1 w) (hf 4 (f 1 w) - o0 + n0)) w n0 o0) (upR hq (f 1 w) (layF (hq (f 1 w)) g0 (f 3 w + p0) n0 o0 (hf 4 (f 1 w) - o0 + n0))) kn th sm ++ Y) D vwCl A) (vGX (fun _ => False) D vwCl (WM cy ba ra hf hq kn th sm ++ Y) A) args s (rmk 5 1 12 190).cells (rmk 5 1 12 190).slots A) 10 1 12 (WM cy ba (upR ra (f 1 w) b_1) (lyT f (up2 hf 4 (f 1 w) (hf 4 (f 1 w) - o0 + n0)) w x n0 o0) (upR hq (f 1 w) (layF (hq (f 1 w)) g0 (f 3 w + p0) n0 o0 (hf 4 (f 1 w) - o0 + n0))) kn th sm ++ Y) [some (.ref (ba 9)), some (.int (nI w)), some (.int (nI p0)), some (.int (nI o0)), some (.ref b0), none, none, none, none, some (.int (nI x))] 120 [] := by
            intro d
            induction d with
            | zero =>
              intro x hx8 hx5 hxh hch
              refine r_iload C dX4_lay_120 rfl ?_
              refine r_iconst (v := (nI 3)) C dX4_lay_122 (by decide) ?_
              refine r_icN_le (a := x) (b := 3) (tgt := 157) C (by first | omega | (simp [up2, *]; done) | (simp [up2, *]; omega) | (simp only [up2_eq]; omega) | (split <;> omega)) (by first | omega | (simp [up2, *]; done) | (simp [up2, *]; omega) | (simp only [up2_eq]; omega) | (split <;> omega)) dX4_lay_123 (by decide) (fun h123_8 => ?_) (fun h123_8 => ?_)
              · first
                | exfalso; first | omega | contradiction
                | skip
                  refine r_w (w' := WM cy ba (upR ra (f 1 w) b_1) (lyM f (up2 hf 4 (f 1 w) (hf 4 (f 1 w) - o0 + n0)) w n0 o0) (upR hq (f 1 w) (layF (hq (f 1 w)) g0 (f 3 w + p0) n0 o0 (hf 4 (f 1 w) - o0 + n0))) kn th sm ++ Y) (by rw [lyT_end hC (by omega)]) ?_
                  exact r_vret C hr dX4_lay_157 ⟨_, rfl, rfl⟩ (Nat.le_of_ble_eq_true rfl) (Nat.le_of_ble_eq_true rfl)
              · first
                | exfalso; first | omega | contradiction
                | skip
                  have q3 := chN_step hch (by omega)
                  have q4 := hC.wi (by omega) hx8 hx5
                  have q5 := hsz x hx8 hxh
                  have q6 := hG x (by omega) hx8 hx5
                  refine r_aload_n C dX4_lay_126 rfl ?_
                  refine m_get (v := .ref (ba 4)) C 4 (by decide) qf_X4_29 rfl rfl dX4_lay_127 ?_
                  refine r_iload C dX4_lay_130 rfl ?_
                  refine r_iconst (v := (nI 4)) C dX4_lay_132 (by decide) ?_
                  refine r_isubN C dX4_lay_133 (by first | omega | (simp [up2, *]; done) | (simp [up2, *]; omega) | (simp only [up2_eq]; omega) | (split <;> omega)) ?_
                  refine r_dup2 C dX4_lay_134 rfl rfl ?_
                  refine m_ald (i := x - 4) (z := x) (v := hf 4 x) C 3 (by decide) (by decide) (show x - 4 < 4 from (by first | omega | (simp [up2, *]; done) | (simp [up2, *]; omega) | (simp only [up2_eq]; omega) | (split <;> omega))) (show 4 + (x - 4) = x from (by omega)) ((lyT_at hx8).trans (up2_i _ _ _ _ (by omega))) dX4_lay_135 ?_
                  refine r_aload C dX4_lay_136 rfl ?_
                  refine y_len C j0 hy dX4_lay_138 ?_
                  refine r_iload_n C dX4_lay_139 rfl ?_
                  refine r_isub C dX4_lay_140 ?_
                  refine r_iadd C dX4_lay_141 ?_
                  refine r_eqi (nI_adj (by omega)) ?_
                  refine m_ast (i := x - 4) (z := x) (v := hf 4 x + n0 - o0) C 3 (by decide) (by decide) (show x - 4 < 4 from (by first | omega | (simp [up2, *]; done) | (simp [up2, *]; omega) | (simp only [up2_eq]; omega) | (split <;> omega))) (show 4 + (x - 4) = x from (by omega)) dX4_lay_142 ?_
                  refine r_w (w' := WM cy ba (upR ra (f 1 w) b_1) (up2 (lyT f (up2 hf 4 (f 1 w) (hf 4 (f 1 w) - o0 + n0)) w x n0 o0) 4 x (hf 4 x + n0 - o0)) (upR hq (f 1 w) (layF (hq (f 1 w)) g0 (f 3 w + p0) n0 o0 (hf 4 (f 1 w) - o0 + n0))) kn th sm ++ Y) rfl ?_
                  refine r_aload_n C dX4_lay_143 rfl ?_
                  refine m_get (v := .ref (ba 2)) C 2 (by decide) qf_X4_22 rfl rfl dX4_lay_144 ?_
                  refine r_iload C dX4_lay_147 rfl ?_
                  refine r_iconst (v := (nI 4)) C dX4_lay_149 (by decide) ?_
                  refine r_isubN C dX4_lay_150 (by first | omega | (simp [up2, *]; done) | (simp [up2, *]; omega) | (simp only [up2_eq]; omega) | (split <;> omega)) ?_
                  refine m_ald (i := x - 4) (z := x) (v := f 2 x) C 1 (by decide) (by decide) (show x - 4 < 4 from (by first | omega | (simp [up2, *]; done) | (simp [up2, *]; omega) | (simp only [up2_eq]; omega) | (split <;> omega))) (show 4 + (x - 4) = x from (by omega)) (show hf 2 x = f 2 x from q6.1) dX4_lay_151 ?_
                  refine r_istore C dX4_lay_152 (by decide) rfl ?_
                  refine r_goto (tgt := 120) C dX4_lay_154 (by decide) ?_
                  refine r_w (w' := WM cy ba (upR ra (f 1 w) b_1) (lyT f (up2 hf 4 (f 1 w) (hf 4 (f 1 w) - o0 + n0)) w (f 2 x) n0 o0) (upR hq (f 1 w) (layF (hq (f 1 w)) g0 (f 3 w + p0) n0 o0 (hf 4 (f 1 w) - o0 + n0))) kn th sm ++ Y) (by rw [lyT_step2 (hf := up2 hf 4 (f 1 w) (hf 4 (f 1 w) - o0 + n0)) hC (by omega) hx8 hx5 hxh (up2_i _ _ _ _ (by omega))]) ?_
                  exact q3.2.2.elim
            | succ d ih_L120 =>
              intro x hx8 hx5 hxh hch
              refine r_iload C dX4_lay_120 rfl ?_
              refine r_iconst (v := (nI 3)) C dX4_lay_122 (by decide) ?_
              refine r_icN_le (a := x) (b := 3) (tgt := 157) C (by first | omega | (simp [up2, *]; done) | (simp [up2, *]; omega) | (simp only [up2_eq]; omega) | (split <;> omega)) (by first | omega | (simp [up2, *]; done) | (simp [up2, *]; omega) | (simp only [up2_eq]; omega) | (split <;> omega)) dX4_lay_123 (by decide) (fun h123_9 => ?_) (fun h123_9 => ?_)
              · first
                | exfalso; first | omega | contradiction
                | skip
                  refine r_w (w' := WM cy ba (upR ra (f 1 w) b_1) (lyM f (up2 hf 4 (f 1 w) (hf 4 (f 1 w) - o0 + n0)) w n0 o0) (upR hq (f 1 w) (layF (hq (f 1 w)) g0 (f 3 w + p0) n0 o0 (hf 4 (f 1 w) - o0 + n0))) kn th sm ++ Y) (by rw [lyT_end hC (by omega)]) ?_
                  exact r_vret C hr dX4_lay_157 ⟨_, rfl, rfl⟩ (Nat.le_of_ble_eq_true rfl) (Nat.le_of_ble_eq_true rfl)
              · first
                | exfalso; first | omega | contradiction
                | skip
                  have q3 := chN_step hch (by omega)
                  have q4 := hC.wi (by omega) hx8 hx5
                  have q5 := hsz x hx8 hxh
                  have q6 := hG x (by omega) hx8 hx5
                  refine r_aload_n C dX4_lay_126 rfl ?_
                  refine m_get (v := .ref (ba 4)) C 4 (by decide) qf_X4_29 rfl rfl dX4_lay_127 ?_
                  refine r_iload C dX4_lay_130 rfl ?_
                  refine r_iconst (v := (nI 4)) C dX4_lay_132 (by decide) ?_
                  refine r_isubN C dX4_lay_133 (by first | omega | (simp [up2, *]; done) | (simp [up2, *]; omega) | (simp only [up2_eq]; omega) | (split <;> omega)) ?_
                  refine r_dup2 C dX4_lay_134 rfl rfl ?_
                  refine m_ald (i := x - 4) (z := x) (v := hf 4 x) C 3 (by decide) (by decide) (show x - 4 < 4 from (by first | omega | (simp [up2, *]; done) | (simp [up2, *]; omega) | (simp only [up2_eq]; omega) | (split <;> omega))) (show 4 + (x - 4) = x from (by omega)) ((lyT_at hx8).trans (up2_i _ _ _ _ (by omega))) dX4_lay_135 ?_
                  refine r_aload C dX4_lay_136 rfl ?_
                  refine y_len C j0 hy dX4_lay_138 ?_
                  refine r_iload_n C dX4_lay_139 rfl ?_
                  refine r_isub C dX4_lay_140 ?_
                  refine r_iadd C dX4_lay_141 ?_
                  refine r_eqi (nI_adj (by omega)) ?_
                  refine m_ast (i := x - 4) (z := x) (v := hf 4 x + n0 - o0) C 3 (by decide) (by decide) (show x - 4 < 4 from (by first | omega | (simp [up2, *]; done) | (simp [up2, *]; omega) | (simp only [up2_eq]; omega) | (split <;> omega))) (show 4 + (x - 4) = x from (by omega)) dX4_lay_142 ?_
                  refine r_w (w' := WM cy ba (upR ra (f 1 w) b_1) (up2 (lyT f (up2 hf 4 (f 1 w) (hf 4 (f 1 w) - o0 + n0)) w x n0 o0) 4 x (hf 4 x + n0 - o0)) (upR hq (f 1 w) (layF (hq (f 1 w)) g0 (f 3 w + p0) n0 o0 (hf 4 (f 1 w) - o0 + n0))) kn th sm ++ Y) rfl ?_
                  refine r_aload_n C dX4_lay_143 rfl ?_
                  refine m_get (v := .ref (ba 2)) C 2 (by decide) qf_X4_22 rfl rfl dX4_lay_144 ?_
                  refine r_iload C dX4_lay_147 rfl ?_
                  refine r_iconst (v := (nI 4)) C dX4_lay_149 (by decide) ?_
                  refine r_isubN C dX4_lay_150 (by first | omega | (simp [up2, *]; done) | (simp [up2, *]; omega) | (simp only [up2_eq]; omega) | (split <;> omega)) ?_
                  refine m_ald (i := x - 4) (z := x) (v := f 2 x) C 1 (by decide) (by decide) (show x - 4 < 4 from (by first | omega | (simp [up2, *]; done) | (simp [up2, *]; omega) | (simp only [up2_eq]; omega) | (split <;> omega))) (show 4 + (x - 4) = x from (by omega)) (show hf 2 x = f 2 x from q6.1) dX4_lay_151 ?_
                  refine r_istore C dX4_lay_152 (by decide) rfl ?_
                  refine r_goto (tgt := 120) C dX4_lay_154 (by decide) ?_
                  refine r_w (w' := WM cy ba (upR ra (f 1 w) b_1) (lyT f (up2 hf 4 (f 1 w) (hf 4 (f 1 w) - o0 + n0)) w (f 2 x) n0 o0) (upR hq (f 1 w) (layF (hq (f 1 w)) g0 (f 3 w + p0) n0 o0 (hf 4 (f 1 w) - o0 + n0))) kn th sm ++ Y) (by rw [lyT_step2 (hf := up2 hf 4 (f 1 w) (hf 4 (f 1 w) - o0 + n0)) hC (by omega) hx8 hx5 hxh (up2_i _ _ _ _ (by omega))]) ?_
                  exact ih_L120 (f 2 x) q4.1 q4.2.1 (hol_next hC hw h5w (by omega) hxh) q3.2.2
          refine r_drop 5 ?_
          refine r_drop 6 ?_
          refine r_drop 7 ?_
          refine r_drop 8 ?_
          exact L120 4 w hw h5w (by rw [hol_self hw]; decide) (hC.ch hw h5w)
      · first
        | exfalso; first | omega | contradiction
        | skip
          refine r_aload C dX4_lay_49 rfl ?_
          refine r_iload C dX4_lay_51 rfl ?_
          refine r_iload C dX4_lay_53 rfl ?_
          refine r_iload C dX4_lay_55 rfl ?_
          refine r_icN_ge (a := k) (b := ((f 3 w) + p0)) (tgt := 68) C (by first | omega | (simp [up2, *]; done) | (simp [up2, *]; omega) | (simp only [up2_eq]; omega) | (split <;> omega)) (by first | omega | (simp [up2, *]; done) | (simp [up2, *]; omega) | (simp only [up2_eq]; omega) | (split <;> omega)) dX4_lay_57 (by decide) (fun h57_10 => ?_) (fun h57_10 => ?_)
          · first
            | exfalso; first | omega | contradiction
            | skip
              refine r_iload C dX4_lay_68 rfl ?_
              refine r_iload C dX4_lay_70 rfl ?_
              refine r_aload C dX4_lay_72 rfl ?_
              refine y_len C j0 (ya_l hy) dX4_lay_74 ?_
              refine r_iaddN C dX4_lay_75 ?_
              refine r_icN_ge (a := k) (b := (((f 3 w) + p0) + n0)) (tgt := 90) C (by first | omega | (simp [up2, *]; done) | (simp [up2, *]; omega) | (simp only [up2_eq]; omega) | (split <;> omega)) (by first | omega | (simp [up2, *]; done) | (simp [up2, *]; omega) | (simp only [up2_eq]; omega) | (split <;> omega)) dX4_lay_76 (by decide) (fun h76_11 => ?_) (fun h76_11 => ?_)
              · first
                | exfalso; first | omega | contradiction
                | skip
                  refine r_aload C dX4_lay_90 rfl ?_
                  refine r_iload C dX4_lay_92 rfl ?_
                  refine r_aload C dX4_lay_94 rfl ?_
                  refine y_len C j0 (ya_l hy) dX4_lay_96 ?_
                  refine r_isubN C dX4_lay_97 (by first | omega | (simp [up2, *]; done) | (simp [up2, *]; omega) | (simp only [up2_eq]; omega) | (split <;> omega)) ?_
                  refine r_iload_n C dX4_lay_98 rfl ?_
                  refine r_iaddN C dX4_lay_99 ?_
                  refine m_rld (i := f 1 w) (n := (k - n0) + o0) C (by first | omega | (simp [up2, *]; done) | (simp [up2, *]; omega) | (simp only [up2_eq]; omega) | (split <;> omega)) (by first | omega | (simp [up2, *]; done) | (simp [up2, *]; omega) | (simp only [up2_eq]; omega) | (split <;> omega)) (by first | omega | (simp [up2, *]; done) | (simp [up2, *]; omega) | (simp only [up2_eq]; omega) | (split <;> omega)) dX4_lay_100 ?_
                  refine x_ast C (i := k) (f := layF (hq (f 1 w)) g0 (f 3 w + p0) n0 o0 k) (E' := [(b_1, .inl (cy 1, hf 4 (f 1 w) - o0 + n0, .inl (upd (layF (hq (f 1 w)) g0 (f 3 w + p0) n0 o0 k) k (hq (f 1 w) ((k - n0) + o0)))))]) 0 rfl (by first | omega | (simp [up2, *]; done) | (simp [up2, *]; omega) | (simp only [up2_eq]; omega) | (split <;> omega)) (by first | omega | (simp [up2, *]; done) | (simp [up2, *]; omega) | (simp only [up2_eq]; omega) | (split <;> omega)) rfl dX4_lay_101 ?_
                  refine r_iincN C dX4_lay_102 rfl (by decide) rfl ?_
                  refine r_goto (tgt := 41) C dX4_lay_105 (by decide) ?_
                  refine r_w (w' := WM cy ba ra hf hq kn th sm ++ (Y ++ [(b_1, .inl (cy 1, hf 4 (f 1 w) - o0 + n0, .inl (layF (hq (f 1 w)) g0 (f 3 w + p0) n0 o0 (k + 1))))])) (by rw [layF_up (g := hq (f 1 w)) (h := g0) (a := f 3 w + p0) (c := n0) (o := o0) (n := 0) (k := k) (x := (hq (f 1 w) ((k - n0) + o0))) (by first | rw [if_pos (by omega)] | rw [if_neg (by omega), if_pos (by omega)] | rw [if_neg (by omega), if_neg (by omega)])]) ?_
                  exact ih_L41 (k + 1) (by first | omega | (simp [up2, *]; done) | (simp [up2, *]; omega) | (simp only [up2_eq]; omega) | (split <;> omega))
              · first
                | exfalso; first | omega | contradiction
                | skip
                  refine r_aload C dX4_lay_79 rfl ?_
                  refine r_iload C dX4_lay_81 rfl ?_
                  refine r_iload C dX4_lay_83 rfl ?_
                  refine r_isubN C dX4_lay_85 (by first | omega | (simp [up2, *]; done) | (simp [up2, *]; omega) | (simp only [up2_eq]; omega) | (split <;> omega)) ?_
                  refine y_ald C (i := k - ((f 3 w) + p0)) (f := g0) j0 (ya_l hy) (by first | omega | (simp [up2, *]; done) | (simp [up2, *]; omega) | (simp only [up2_eq]; omega) | (split <;> omega)) (by first | omega | (simp [up2, *]; done) | (simp [up2, *]; omega) | (simp only [up2_eq]; omega) | (split <;> omega)) dX4_lay_86 ?_
                  refine r_goto (tgt := 101) C dX4_lay_87 (by decide) ?_
                  refine x_ast C (i := k) (f := layF (hq (f 1 w)) g0 (f 3 w + p0) n0 o0 k) (E' := [(b_1, .inl (cy 1, hf 4 (f 1 w) - o0 + n0, .inl (upd (layF (hq (f 1 w)) g0 (f 3 w + p0) n0 o0 k) k (g0 (k - ((f 3 w) + p0))))))]) 0 rfl (by first | omega | (simp [up2, *]; done) | (simp [up2, *]; omega) | (simp only [up2_eq]; omega) | (split <;> omega)) (by first | omega | (simp [up2, *]; done) | (simp [up2, *]; omega) | (simp only [up2_eq]; omega) | (split <;> omega)) rfl dX4_lay_101 ?_
                  refine r_iincN C dX4_lay_102 rfl (by decide) rfl ?_
                  refine r_goto (tgt := 41) C dX4_lay_105 (by decide) ?_
                  refine r_w (w' := WM cy ba ra hf hq kn th sm ++ (Y ++ [(b_1, .inl (cy 1, hf 4 (f 1 w) - o0 + n0, .inl (layF (hq (f 1 w)) g0 (f 3 w + p0) n0 o0 (k + 1))))])) (by rw [layF_up (g := hq (f 1 w)) (h := g0) (a := f 3 w + p0) (c := n0) (o := o0) (n := 0) (k := k) (x := (g0 (k - ((f 3 w) + p0)))) (by first | rw [if_pos (by omega)] | rw [if_neg (by omega), if_pos (by omega)] | rw [if_neg (by omega), if_neg (by omega)])]) ?_
                  exact ih_L41 (k + 1) (by first | omega | (simp [up2, *]; done) | (simp [up2, *]; omega) | (simp only [up2_eq]; omega) | (split <;> omega))
          · first
            | exfalso; first | omega | contradiction
            | skip
              refine r_aload C dX4_lay_60 rfl ?_
              refine r_iload C dX4_lay_62 rfl ?_
              refine m_rld (i := f 1 w) (n := k) C (by first | omega | (simp [up2, *]; done) | (simp [up2, *]; omega) | (simp only [up2_eq]; omega) | (split <;> omega)) (by first | omega | (simp [up2, *]; done) | (simp [up2, *]; omega) | (simp only [up2_eq]; omega) | (split <;> omega)) (by first | omega | (simp [up2, *]; done) | (simp [up2, *]; omega) | (simp only [up2_eq]; omega) | (split <;> omega)) dX4_lay_64 ?_
              refine r_goto (tgt := 101) C dX4_lay_65 (by decide) ?_
              refine x_ast C (i := k) (f := layF (hq (f 1 w)) g0 (f 3 w + p0) n0 o0 k) (E' := [(b_1, .inl (cy 1, hf 4 (f 1 w) - o0 + n0, .inl (upd (layF (hq (f 1 w)) g0 (f 3 w + p0) n0 o0 k) k (hq (f 1 w) k))))]) 0 rfl (by first | omega | (simp [up2, *]; done) | (simp [up2, *]; omega) | (simp only [up2_eq]; omega) | (split <;> omega)) (by first | omega | (simp [up2, *]; done) | (simp [up2, *]; omega) | (simp only [up2_eq]; omega) | (split <;> omega)) rfl dX4_lay_101 ?_
              refine r_iincN C dX4_lay_102 rfl (by decide) rfl ?_
              refine r_goto (tgt := 41) C dX4_lay_105 (by decide) ?_
              refine r_w (w' := WM cy ba ra hf hq kn th sm ++ (Y ++ [(b_1, .inl (cy 1, hf 4 (f 1 w) - o0 + n0, .inl (layF (hq (f 1 w)) g0 (f 3 w + p0) n0 o0 (k + 1))))])) (by rw [layF_up (g := hq (f 1 w)) (h := g0) (a := f 3 w + p0) (c := n0) (o := o0) (n := 0) (k := k) (x := (hq (f 1 w) k)) (by first | rw [if_pos (by omega)] | rw [if_neg (by omega), if_pos (by omega)] | rw [if_neg (by omega), if_neg (by omega)])]) ?_
              exact ih_L41 (k + 1) (by first | omega | (simp [up2, *]; done) | (simp [up2, *]; omega) | (simp only [up2_eq]; omega) | (split <;> omega))
  exact L41 (hf 4 (f 1 w) - o0 + n0) 0 (by first | omega | (simp [up2, *]; done) | (simp [up2, *]; omega) | (simp only [up2_eq]; omega) | (split <;> omega))
theorem dX4_put_0 : decode cX4_put 0 = .ok (.iconst 0, 1) := dqo_3 (kb_of ke_X4_put 0 rfl)
theorem dX4_put_1 : decode cX4_put 1 = .ok (.istore_n 3, 1) := dqo_62 (kb_of ke_X4_put 1 rfl)
theorem dX4_put_2 : decode cX4_put 2 = .ok (.iload_n 3, 1) := dqo_29 (kb_of ke_X4_put 2 rfl)
theorem dX4_put_3 : decode cX4_put 3 = .ok (.aload_n 2, 1) := dqo_44 (kb_of ke_X4_put 3 rfl)
theorem dX4_put_4 : decode cX4_put 4 = .ok (.arraylength, 1) := dqo_190 (kb_of ke_X4_put 4 rfl)
theorem dX4_put_5 : decode cX4_put 5 = .ok (.if_icmp .ge 30, 3) := dqo_162 0 30 (by decide) (kb_of ke_X4_put 5 rfl) (kb_of ke_X4_put 6 rfl) (kb_of ke_X4_put 7 rfl)
theorem dX4_put_8 : decode cX4_put 8 = .ok (.aload_n 0, 1) := dqo_42 (kb_of ke_X4_put 8 rfl)
theorem dX4_put_9 : decode cX4_put 9 = .ok (.getfield 15, 3) := dqo_180 0 15 (kb_of ke_X4_put 9 rfl) (kb_of ke_X4_put 10 rfl) (kb_of ke_X4_put 11 rfl)
theorem dX4_put_12 : decode cX4_put 12 = .ok (.aload_n 0, 1) := dqo_42 (kb_of ke_X4_put 12 rfl)
theorem dX4_put_13 : decode cX4_put 13 = .ok (.iload_n 1, 1) := dqo_27 (kb_of ke_X4_put 13 rfl)
theorem dX4_put_14 : decode cX4_put 14 = .ok (.invokevirtual 48, 3) := dqo_182 0 48 (kb_of ke_X4_put 14 rfl) (kb_of ke_X4_put 15 rfl) (kb_of ke_X4_put 16 rfl)
theorem dX4_put_17 : decode cX4_put 17 = .ok (.aaload, 1) := dqo_50 (kb_of ke_X4_put 17 rfl)
theorem dX4_put_18 : decode cX4_put 18 = .ok (.aload_n 0, 1) := dqo_42 (kb_of ke_X4_put 18 rfl)
theorem dX4_put_19 : decode cX4_put 19 = .ok (.iload_n 1, 1) := dqo_27 (kb_of ke_X4_put 19 rfl)
theorem dX4_put_20 : decode cX4_put 20 = .ok (.invokevirtual 52, 3) := dqo_182 0 52 (kb_of ke_X4_put 20 rfl) (kb_of ke_X4_put 21 rfl) (kb_of ke_X4_put 22 rfl)
theorem dX4_put_23 : decode cX4_put 23 = .ok (.iload_n 3, 1) := dqo_29 (kb_of ke_X4_put 23 rfl)
theorem dX4_put_24 : decode cX4_put 24 = .ok (.iadd, 1) := dqo_96 (kb_of ke_X4_put 24 rfl)
theorem dX4_put_25 : decode cX4_put 25 = .ok (.aload_n 2, 1) := dqo_44 (kb_of ke_X4_put 25 rfl)
theorem dX4_put_26 : decode cX4_put 26 = .ok (.iload_n 3, 1) := dqo_29 (kb_of ke_X4_put 26 rfl)
theorem dX4_put_27 : decode cX4_put 27 = .ok (.iaload, 1) := dqo_46 (kb_of ke_X4_put 27 rfl)
theorem dX4_put_28 : decode cX4_put 28 = .ok (.iastore, 1) := dqo_79 (kb_of ke_X4_put 28 rfl)
theorem dX4_put_29 : decode cX4_put 29 = .ok (.iinc 3 1, 3) := dqo_132 3 1 (by decide) (kb_of ke_X4_put 29 rfl) (kb_of ke_X4_put 30 rfl) (kb_of ke_X4_put 31 rfl)
theorem dX4_put_32 : decode cX4_put 32 = .ok (.goto (-30), 3) := dqo_167 255 226 (by decide) (kb_of ke_X4_put 32 rfl) (kb_of ke_X4_put 33 rfl) (kb_of ke_X4_put 34 rfl)
theorem dX4_put_35 : decode cX4_put 35 = .ok (.return_, 1) := dqo_177 (kb_of ke_X4_put 35 rfl)
set_option maxRecDepth 100000 in
set_option maxHeartbeats 4000000 in
theorem D_put {l : Launch} {D : va_G} {cy : Nat → ClassId} {X : (Nat → Prop) → State → Heap → Prop} {ba ra : Nat → Nat} {hf : Nat → Nat → Nat} {hq : Nat → Nat → Int32} {kn th : Int32} {sm : Int64} {Y : va_W} {f : Nat → Nat → Nat} {w : Nat} {b0 : Nat} {n0 : Nat} {g0 : Nat → Int32} {j0 : Nat} (hX : EnvM X cy) (hC : CInv f) (hG : MG f hf) (hw : w < 8) (h5w : f 5 w = 1) (hpn : f 3 w + n0 ≤ hf 4 (f 1 w)) (h12 : hf 4 (f 1 w) ≤ 12) (hy : Y[j0]? = some (b0, .inl (cy 1, n0, .inl g0))) : Cd l D cy X yX4_put cX4_put 4 none (rmz 5 160) [.ref (ba 9), .int (nI w), .ref b0] (WM cy ba ra hf hq kn th sm ++ Y) none (WM cy ba ra hf (wrR hq (f 1 w) (f 3 w) n0 g0) kn th sm ++ Y) := by
  have q1 := hC.al hw
  refine Cm.of [some (.ref (ba 9)), some (.int (nI w)), some (.ref b0), none] pn_X4 rfl (Nat.le_of_ble_eq_true rfl) ?_
  intro p e s m args below meth c A C hE hr hnt hn
  refine r_iconst (v := (nI 0)) C dX4_put_0 (by decide) ?_
  refine r_istore_n C dX4_put_1 (by decide) rfl ?_
  refine r_w (w' := WM cy ba ra hf (wrR hq (f 1 w) (f 3 w) 0 g0) kn th sm ++ Y) (by rw [wrR_0]) ?_
  have L2 : ∀ (d : Nat) (k : Nat), (hk : k + d = n0) → vC p l e (rmz 5 160) s m args below meth c D A (vx_MQ below (vG (fun v1 w1 => v1 = none ∧ w1 = WM cy ba ra hf (wrR hq (f 1 w) (f 3 w) n0 g0) kn th sm ++ Y) D vwCl A) (vGX (fun _ => False) D vwCl (WM cy ba ra hf hq kn th sm ++ Y) A) args s (rmz 5 160).cells (rmz 5 160).slots A) 4 0 0 (WM cy ba ra hf (wrR hq (f 1 w) (f 3 w) k g0) kn th sm ++ Y) [some (.ref (ba 9)), some (.int (nI w)), some (.ref b0), some (.int (nI k))] 2 [] := by
    intro d
    induction d with
    | zero =>
      intro k hk
      refine r_iload_n C dX4_put_2 rfl ?_
      refine r_aload_n C dX4_put_3 rfl ?_
      refine y_len C j0 hy dX4_put_4 ?_
      refine r_icN_ge (a := k) (b := n0) (tgt := 35) C (by first | omega | (simp [up2, *]; done) | (simp [up2, *]; omega) | (simp only [up2_eq]; omega) | (split <;> omega)) (by first | omega | (simp [up2, *]; done) | (simp [up2, *]; omega) | (simp only [up2_eq]; omega) | (split <;> omega)) dX4_put_5 (by decide) (fun h5_1 => ?_) (fun h5_1 => ?_)
      · first
        | exfalso; first | omega | contradiction
        | skip
          have e9 : n0 = k := by omega
          refine r_w (w' := WM cy ba ra hf (wrR hq (f 1 w) (f 3 w) n0 g0) kn th sm ++ Y) (by rw [e9]) ?_
          exact r_vret C hr dX4_put_35 ⟨rfl, rfl⟩ (Nat.le_of_ble_eq_true rfl) (Nat.le_of_ble_eq_true rfl)
      · first
        | exfalso; first | omega | contradiction
        | skip
          refine r_aload_n C dX4_put_8 rfl ?_
          refine m_get (v := .ref (ba 0)) C 0 (by decide) qf_X4_15 rfl rfl dX4_put_9 ?_
          refine r_aload_n C dX4_put_12 rfl ?_
          refine r_iload_n C dX4_put_13 rfl ?_
          refine d_V (st := [.ref (ba 0)]) hX.1.stb C hE (D_rowOf (ba := ba) (ra := ra) (hf := hf) (hq := (wrR hq (f 1 w) (f 3 w) k g0)) (kn := kn) (th := th) (sm := sm) (Y := Y) (f := f) (w := w) hX hC (MG.same (fun _ => rfl) (fun _ => rfl) hG) (by first | omega | (simp [up2, *]; done) | (simp [up2, *]; omega) | (simp only [up2_eq]; omega) | (split <;> omega)) (by first | omega | (simp [up2, *]; done) | (simp [up2, *]; omega) | (simp only [up2_eq]; omega) | (split <;> omega))) pk_X4_rowOf qm_X4_48 0 8 rfl rfl wm_0 rfl rfl (Nat.le_of_ble_eq_true rfl) dX4_put_14 ⟨(Nat.le_of_ble_eq_true rfl), (Nat.le_of_ble_eq_true rfl)⟩ ⟨(Nat.le_of_ble_eq_true rfl), (Nat.le_of_ble_eq_true rfl)⟩ ?_
          refine r_w (w' := WM cy ba ra hf (wrR hq (f 1 w) (f 3 w) k g0) kn th sm ++ Y) rfl ?_
          refine m_rows (i := f 1 w) C (by first | omega | (simp [up2, *]; done) | (simp [up2, *]; omega) | (simp only [up2_eq]; omega) | (split <;> omega)) dX4_put_17 ?_
          refine r_aload_n C dX4_put_18 rfl ?_
          refine r_iload_n C dX4_put_19 rfl ?_
          refine d_V (st := [.ref (ra (f 1 w))]) hX.1.stb C hE (D_begin (ba := ba) (ra := ra) (hf := hf) (hq := (wrR hq (f 1 w) (f 3 w) k g0)) (kn := kn) (th := th) (sm := sm) (Y := Y) (f := f) (w := w) hX hC (MG.same (fun _ => rfl) (fun _ => rfl) hG) (by first | omega | (simp [up2, *]; done) | (simp [up2, *]; omega) | (simp only [up2_eq]; omega) | (split <;> omega)) (by first | omega | (simp [up2, *]; done) | (simp [up2, *]; omega) | (simp only [up2_eq]; omega) | (split <;> omega))) pk_X4_begin qm_X4_52 0 8 rfl rfl wm_0 rfl rfl (Nat.le_of_ble_eq_true rfl) dX4_put_20 ⟨(Nat.le_of_ble_eq_true rfl), (Nat.le_of_ble_eq_true rfl)⟩ ⟨(Nat.le_of_ble_eq_true rfl), (Nat.le_of_ble_eq_true rfl)⟩ ?_
          refine r_w (w' := WM cy ba ra hf (wrR hq (f 1 w) (f 3 w) k g0) kn th sm ++ Y) rfl ?_
          refine r_iload_n C dX4_put_23 rfl ?_
          refine r_iaddN C dX4_put_24 ?_
          refine r_aload_n C dX4_put_25 rfl ?_
          refine r_iload_n C dX4_put_26 rfl ?_
          refine y_ald C (i := k) (f := g0) j0 hy (by first | omega | (simp [up2, *]; done) | (simp [up2, *]; omega) | (simp only [up2_eq]; omega) | (split <;> omega)) (by first | omega | (simp [up2, *]; done) | (simp [up2, *]; omega) | (simp only [up2_eq]; omega) | (split <;> omega)) dX4_put_27 ?_
          refine m_rst (i := f 1 w) (n := (f 3 w) + k) (x := (g0 k)) C (by first | omega | (simp [up2, *]; done) | (simp [up2, *]; omega) | (simp only [up2_eq]; omega) | (split <;> omega)) (by first | omega | (simp [up2, *]; done) | (simp [up2, *]; omega) | (simp only [up2_eq]; omega) | (split <;> omega)) (by first | omega | (simp [up2, *]; done) | (simp [up2, *]; omega) | (simp only [up2_eq]; omega) | (split <;> omega)) dX4_put_28 ?_
          refine r_iincN C dX4_put_29 rfl (by decide) rfl ?_
          refine r_goto (tgt := 2) C dX4_put_32 (by decide) ?_
          refine r_w (w' := WM cy ba ra hf (wrR hq (f 1 w) (f 3 w) (k + 1) g0) kn th sm ++ Y) (by rw [wrR_up rfl]) ?_
          exact (Nat.not_lt_zero _ (by omega)).elim
    | succ d ih_L2 =>
      intro k hk
      refine r_iload_n C dX4_put_2 rfl ?_
      refine r_aload_n C dX4_put_3 rfl ?_
      refine y_len C j0 hy dX4_put_4 ?_
      refine r_icN_ge (a := k) (b := n0) (tgt := 35) C (by first | omega | (simp [up2, *]; done) | (simp [up2, *]; omega) | (simp only [up2_eq]; omega) | (split <;> omega)) (by first | omega | (simp [up2, *]; done) | (simp [up2, *]; omega) | (simp only [up2_eq]; omega) | (split <;> omega)) dX4_put_5 (by decide) (fun h5_2 => ?_) (fun h5_2 => ?_)
      · first
        | exfalso; first | omega | contradiction
        | skip
          have e9 : n0 = k := by omega
          refine r_w (w' := WM cy ba ra hf (wrR hq (f 1 w) (f 3 w) n0 g0) kn th sm ++ Y) (by rw [e9]) ?_
          exact r_vret C hr dX4_put_35 ⟨rfl, rfl⟩ (Nat.le_of_ble_eq_true rfl) (Nat.le_of_ble_eq_true rfl)
      · first
        | exfalso; first | omega | contradiction
        | skip
          refine r_aload_n C dX4_put_8 rfl ?_
          refine m_get (v := .ref (ba 0)) C 0 (by decide) qf_X4_15 rfl rfl dX4_put_9 ?_
          refine r_aload_n C dX4_put_12 rfl ?_
          refine r_iload_n C dX4_put_13 rfl ?_
          refine d_V (st := [.ref (ba 0)]) hX.1.stb C hE (D_rowOf (ba := ba) (ra := ra) (hf := hf) (hq := (wrR hq (f 1 w) (f 3 w) k g0)) (kn := kn) (th := th) (sm := sm) (Y := Y) (f := f) (w := w) hX hC (MG.same (fun _ => rfl) (fun _ => rfl) hG) (by first | omega | (simp [up2, *]; done) | (simp [up2, *]; omega) | (simp only [up2_eq]; omega) | (split <;> omega)) (by first | omega | (simp [up2, *]; done) | (simp [up2, *]; omega) | (simp only [up2_eq]; omega) | (split <;> omega))) pk_X4_rowOf qm_X4_48 0 8 rfl rfl wm_0 rfl rfl (Nat.le_of_ble_eq_true rfl) dX4_put_14 ⟨(Nat.le_of_ble_eq_true rfl), (Nat.le_of_ble_eq_true rfl)⟩ ⟨(Nat.le_of_ble_eq_true rfl), (Nat.le_of_ble_eq_true rfl)⟩ ?_
          refine r_w (w' := WM cy ba ra hf (wrR hq (f 1 w) (f 3 w) k g0) kn th sm ++ Y) rfl ?_
          refine m_rows (i := f 1 w) C (by first | omega | (simp [up2, *]; done) | (simp [up2, *]; omega) | (simp only [up2_eq]; omega) | (split <;> omega)) dX4_put_17 ?_
          refine r_aload_n C dX4_put_18 rfl ?_
          refine r_iload_n C dX4_put_19 rfl ?_
          refine d_V (st := [.ref (ra (f 1 w))]) hX.1.stb C hE (D_begin (ba := ba) (ra := ra) (hf := hf) (hq := (wrR hq (f 1 w) (f 3 w) k g0)) (kn := kn) (th := th) (sm := sm) (Y := Y) (f := f) (w := w) hX hC (MG.same (fun _ => rfl) (fun _ => rfl) hG) (by first | omega | (simp [up2, *]; done) | (simp [up2, *]; omega) | (simp only [up2_eq]; omega) | (split <;> omega)) (by first | omega | (simp [up2, *]; done) | (simp [up2, *]; omega) | (simp only [up2_eq]; omega) | (split <;> omega))) pk_X4_begin qm_X4_52 0 8 rfl rfl wm_0 rfl rfl (Nat.le_of_ble_eq_true rfl) dX4_put_20 ⟨(Nat.le_of_ble_eq_true rfl), (Nat.le_of_ble_eq_true rfl)⟩ ⟨(Nat.le_of_ble_eq_true rfl), (Nat.le_of_ble_eq_true rfl)⟩ ?_
          refine r_w (w' := WM cy ba ra hf (wrR hq (f 1 w) (f 3 w) k g0) kn th sm ++ Y) rfl ?_
          refine r_iload_n C dX4_put_23 rfl ?_
          refine r_iaddN C dX4_put_24 ?_
          refine r_aload_n C dX4_put_25 rfl ?_
          refine r_iload_n C dX4_put_26 rfl ?_
          refine y_ald C (i := k) (f := g0) j0 hy (by first | omega | (simp [up2, *]; done) | (simp [up2, *]; omega) | (simp only [up2_eq]; omega) | (split <;> omega)) (by first | omega | (simp [up2, *]; done) | (simp [up2, *]; omega) | (simp only [up2_eq]; omega) | (split <;> omega)) dX4_put_27 ?_
          refine m_rst (i := f 1 w) (n := (f 3 w) + k) (x := (g0 k)) C (by first | omega | (simp [up2, *]; done) | (simp [up2, *]; omega) | (simp only [up2_eq]; omega) | (split <;> omega)) (by first | omega | (simp [up2, *]; done) | (simp [up2, *]; omega) | (simp only [up2_eq]; omega) | (split <;> omega)) (by first | omega | (simp [up2, *]; done) | (simp [up2, *]; omega) | (simp only [up2_eq]; omega) | (split <;> omega)) dX4_put_28 ?_
          refine r_iincN C dX4_put_29 rfl (by decide) rfl ?_
          refine r_goto (tgt := 2) C dX4_put_32 (by decide) ?_
          refine r_w (w' := WM cy ba ra hf (wrR hq (f 1 w) (f 3 w) (k + 1) g0) kn th sm ++ Y) (by rw [wrR_up rfl]) ?_
          exact ih_L2 (k + 1) (by first | omega | (simp [up2, *]; done) | (simp [up2, *]; omega) | (simp only [up2_eq]; omega) | (split <;> omega))
  exact L2 n0 0 (by first | omega | (simp [up2, *]; done) | (simp [up2, *]; omega) | (simp only [up2_eq]; omega) | (split <;> omega))
theorem pk_X4_changed : PkV RX4 yX4_changed cX4_changed 6 none 2 := ⟨⟨qi_X4_changed, qs_X4_changed, qz_X4, qc_X4_changed⟩, rfl, mh_X4.1, mh_X4.2, pd_2⟩
theorem dX4_become_0 : decode cX4_become 0 = .ok (.aload_n 0, 1) := dqo_42 (kb_of ke_X4_become 0 rfl)
theorem dX4_become_1 : decode cX4_become 1 = .ok (.iload_n 1, 1) := dqo_27 (kb_of ke_X4_become 1 rfl)
theorem dX4_become_2 : decode cX4_become 2 = .ok (.iconst (-1), 1) := dqo_2 (kb_of ke_X4_become 2 rfl)
theorem dX4_become_3 : decode cX4_become 3 = .ok (.invokevirtual 74, 3) := dqo_182 0 74 (kb_of ke_X4_become 3 rfl) (kb_of ke_X4_become 4 rfl) (kb_of ke_X4_become 5 rfl)
theorem dX4_become_6 : decode cX4_become 6 = .ok (.aload_n 0, 1) := dqo_42 (kb_of ke_X4_become 6 rfl)
theorem dX4_become_7 : decode cX4_become 7 = .ok (.getfield 15, 3) := dqo_180 0 15 (kb_of ke_X4_become 7 rfl) (kb_of ke_X4_become 8 rfl) (kb_of ke_X4_become 9 rfl)
theorem dX4_become_10 : decode cX4_become 10 = .ok (.iload_n 1, 1) := dqo_27 (kb_of ke_X4_become 10 rfl)
theorem dX4_become_11 : decode cX4_become 11 = .ok (.aload_n 2, 1) := dqo_44 (kb_of ke_X4_become 11 rfl)
theorem dX4_become_12 : decode cX4_become 12 = .ok (.aastore, 1) := dqo_83 (kb_of ke_X4_become 12 rfl)
theorem dX4_become_13 : decode cX4_become 13 = .ok (.return_, 1) := dqo_177 (kb_of ke_X4_become 13 rfl)
set_option maxRecDepth 100000 in
set_option maxHeartbeats 4000000 in
theorem D_become {l : Launch} {D : va_G} {cy : Nat → ClassId} {X : (Nat → Prop) → State → Heap → Prop} {ba ra : Nat → Nat} {hf : Nat → Nat → Nat} {hq : Nat → Nat → Int32} {kn th : Int32} {sm : Int64} {Y : va_W} {f : Nat → Nat → Nat} {i : Nat} {b0 : Nat} {n0 : Nat} {g0 : Nat → Int32} (hX : EnvM X cy) (hC : CInv f) (hG : MG f hf) (hi4 : i < 4) (h5M : ∀ w, 4 ≤ w → w < 8 → hf 5 w = f 5 w ∧ f 5 w ≤ 1) (h9a : ∀ k, k < 3 → hf 9 k ≤ 1) (hU : ∀ k, k < 3 → hf 9 k ≠ 0 → hf 6 k < 8 ∧ f 5 (hf 6 k) = 1) : Cd l D cy X yX4_become cX4_become 3 none (rmk 6 1 4 210) [.ref (ba 9), .int (nI i), .ref b0] (WM cy ba ra hf hq kn th sm ++ (Y ++ [(b0, .inl (cy 1, n0, .inl g0))])) none (WM cy ba (upR ra i b0) (up2 (chM f hf i 4294967295) 4 i n0) (upR hq i g0) kn th sm ++ (Y ++ [(ra i, .inl (cy 1, hf 4 i, .inl (hq i)))])) := by
  refine Cm.of [some (.ref (ba 9)), some (.int (nI i)), some (.ref b0)] pn_X4 rfl (Nat.le_of_ble_eq_true rfl) ?_
  intro p e s m args below meth c A C hE hr hnt hn
  refine r_aload_n C dX4_become_0 rfl ?_
  refine r_iload_n C dX4_become_1 rfl ?_
  refine r_iconst (v := (nI 4294967295)) C dX4_become_2 (by decide) ?_
  refine d_Vv (st := []) hX.1.stb C hE (D_changed (ba := ba) (ra := ra) (hf := hf) (hq := hq) (kn := kn) (th := th) (sm := sm) (f := f) (w := i) (d0 := 4294967295) hX hC (MG.same (fun _ => rfl) (fun _ => rfl) hG) (by first | omega | (simp [up2, *]; done) | (simp [up2, *]; omega) | (simp only [up2_eq]; omega) | (split <;> omega)) (hC.rw hi4).2.2.2.2.2 (by first | omega | (simp [up2, *]; done) | (simp [up2, *]; omega) | (simp only [up2_eq]; omega) | (split <;> omega)) h5M h9a hU) pk_X4_changed qm_X4_74 0 8 rfl rfl wm_0 rfl rfl (Nat.le_of_ble_eq_true rfl) dX4_become_3 ⟨(Nat.le_of_ble_eq_true rfl), (Nat.le_of_ble_eq_true rfl)⟩ ⟨(Nat.le_of_ble_eq_true rfl), (Nat.le_of_ble_eq_true rfl)⟩ ?_
  refine r_w (w' := WM cy ba ra (chM f hf i 4294967295) hq kn th sm ++ (Y ++ [(b0, .inl (cy 1, n0, .inl g0))])) rfl ?_
  refine r_aload_n C dX4_become_6 rfl ?_
  refine m_get (v := .ref (ba 0)) C 0 (by decide) qf_X4_15 rfl rfl dX4_become_7 ?_
  refine r_iload_n C dX4_become_10 rfl ?_
  refine r_aload_n C dX4_become_11 rfl ?_
  refine m_swapRow hX C hE (i := i) (f := g0) 0 rfl (by first | omega | (simp [up2, *]; done) | (simp [up2, *]; omega) | (simp only [up2_eq]; omega) | (split <;> omega)) dX4_become_12 ?_
  refine r_w (w' := WM cy ba (upR ra i b0) (up2 (chM f hf i 4294967295) 4 i n0) (upR hq i g0) kn th sm ++ (Y ++ [(ra i, .inl (cy 1, hf 4 i, .inl (hq i)))])) rfl ?_
  exact r_vret C hr dX4_become_13 ⟨rfl, rfl⟩ (Nat.le_of_ble_eq_true rfl) (Nat.le_of_ble_eq_true rfl)
