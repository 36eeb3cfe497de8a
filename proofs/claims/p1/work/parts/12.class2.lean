/-! CONTRACTS of the class: exchanges, a row that becomes another one -/
theorem dX2_exchangeForSpare_0 : decode cX2_exchangeForSpare 0 = .ok (.aload_n 0, 1) := dqo_42 (kb_X2_exchangeForSpare_0 0 rfl)
theorem dX2_exchangeForSpare_1 : decode cX2_exchangeForSpare 1 = .ok (.getfield 11, 3) := dqo_180 0 11 (kb_X2_exchangeForSpare_0 1 rfl) (kb_X2_exchangeForSpare_0 2 rfl) (kb_X2_exchangeForSpare_0 3 rfl)
theorem dX2_exchangeForSpare_4 : decode cX2_exchangeForSpare 4 = .ok (.aload_n 0, 1) := dqo_42 (kb_X2_exchangeForSpare_0 4 rfl)
theorem dX2_exchangeForSpare_5 : decode cX2_exchangeForSpare 5 = .ok (.getfield 11, 3) := dqo_180 0 11 (kb_X2_exchangeForSpare_0 5 rfl) (kb_X2_exchangeForSpare_0 6 rfl) (kb_X2_exchangeForSpare_0 7 rfl)
theorem dX2_exchangeForSpare_8 : decode cX2_exchangeForSpare 8 = .ok (.iload_n 1, 1) := dqo_27 (kb_X2_exchangeForSpare_0 8 rfl)
theorem dX2_exchangeForSpare_9 : decode cX2_exchangeForSpare 9 = .ok (.aaload, 1) := dqo_50 (kb_X2_exchangeForSpare_0 9 rfl)
theorem dX2_exchangeForSpare_10 : decode cX2_exchangeForSpare 10 = .ok (.getfield 207, 3) := dqo_180 0 207 (kb_X2_exchangeForSpare_0 10 rfl) (kb_X2_exchangeForSpare_0 11 rfl) (kb_X2_exchangeForSpare_0 12 rfl)
theorem dX2_exchangeForSpare_13 : decode cX2_exchangeForSpare 13 = .ok (.aaload, 1) := dqo_50 (kb_X2_exchangeForSpare_0 13 rfl)
theorem dX2_exchangeForSpare_14 : decode cX2_exchangeForSpare 14 = .ok (.astore 4, 2) := dqo_58 4 (kb_X2_exchangeForSpare_0 14 rfl) (kb_X2_exchangeForSpare_0 15 rfl)
theorem dX2_exchangeForSpare_16 : decode cX2_exchangeForSpare 16 = .ok (.aload_n 0, 1) := dqo_42 (kb_X2_exchangeForSpare_0 16 rfl)
theorem dX2_exchangeForSpare_17 : decode cX2_exchangeForSpare 17 = .ok (.getfield 11, 3) := dqo_180 0 11 (kb_X2_exchangeForSpare_0 17 rfl) (kb_X2_exchangeForSpare_0 18 rfl) (kb_X2_exchangeForSpare_0 19 rfl)
theorem dX2_exchangeForSpare_20 : decode cX2_exchangeForSpare 20 = .ok (.iload_n 1, 1) := dqo_27 (kb_X2_exchangeForSpare_0 20 rfl)
theorem dX2_exchangeForSpare_21 : decode cX2_exchangeForSpare 21 = .ok (.aaload, 1) := dqo_50 (kb_X2_exchangeForSpare_0 21 rfl)
theorem dX2_exchangeForSpare_22 : decode cX2_exchangeForSpare 22 = .ok (.getfield 296, 3) := dqo_180 1 40 (kb_X2_exchangeForSpare_0 22 rfl) (kb_X2_exchangeForSpare_0 23 rfl) (kb_X2_exchangeForSpare_0 24 rfl)
theorem dX2_exchangeForSpare_25 : decode cX2_exchangeForSpare 25 = .ok (.iload_n 2, 1) := dqo_28 (kb_X2_exchangeForSpare_0 25 rfl)
theorem dX2_exchangeForSpare_26 : decode cX2_exchangeForSpare 26 = .ok (.iadd, 1) := dqo_96 (kb_X2_exchangeForSpare_0 26 rfl)
theorem dX2_exchangeForSpare_27 : decode cX2_exchangeForSpare 27 = .ok (.istore 5, 2) := dqo_54 5 (kb_X2_exchangeForSpare_0 27 rfl) (kb_X2_exchangeForSpare_0 28 rfl)
theorem dX2_exchangeForSpare_29 : decode cX2_exchangeForSpare 29 = .ok (.aload_n 0, 1) := dqo_42 (kb_X2_exchangeForSpare_0 29 rfl)
theorem dX2_exchangeForSpare_30 : decode cX2_exchangeForSpare 30 = .ok (.getfield 11, 3) := dqo_180 0 11 (kb_X2_exchangeForSpare_0 30 rfl) (kb_X2_exchangeForSpare_0 31 rfl) (kb_X2_exchangeForSpare_0 32 rfl)
theorem dX2_exchangeForSpare_33 : decode cX2_exchangeForSpare 33 = .ok (.iload_n 1, 1) := dqo_27 (kb_X2_exchangeForSpare_0 33 rfl)
theorem dX2_exchangeForSpare_34 : decode cX2_exchangeForSpare 34 = .ok (.aaload, 1) := dqo_50 (kb_X2_exchangeForSpare_0 34 rfl)
theorem dX2_exchangeForSpare_35 : decode cX2_exchangeForSpare 35 = .ok (.getfield 296, 3) := dqo_180 1 40 (kb_X2_exchangeForSpare_0 35 rfl) (kb_X2_exchangeForSpare_0 36 rfl) (kb_X2_exchangeForSpare_0 37 rfl)
theorem dX2_exchangeForSpare_38 : decode cX2_exchangeForSpare 38 = .ok (.iload_n 3, 1) := dqo_29 (kb_X2_exchangeForSpare_0 38 rfl)
theorem dX2_exchangeForSpare_39 : decode cX2_exchangeForSpare 39 = .ok (.iadd, 1) := dqo_96 (kb_X2_exchangeForSpare_0 39 rfl)
theorem dX2_exchangeForSpare_40 : decode cX2_exchangeForSpare 40 = .ok (.istore 6, 2) := dqo_54 6 (kb_X2_exchangeForSpare_0 40 rfl) (kb_X2_exchangeForSpare_0 41 rfl)
theorem dX2_exchangeForSpare_42 : decode cX2_exchangeForSpare 42 = .ok (.aload_n 0, 1) := dqo_42 (kb_X2_exchangeForSpare_0 42 rfl)
theorem dX2_exchangeForSpare_43 : decode cX2_exchangeForSpare 43 = .ok (.getfield 29, 3) := dqo_180 0 29 (kb_X2_exchangeForSpare_0 43 rfl) (kb_X2_exchangeForSpare_0 44 rfl) (kb_X2_exchangeForSpare_0 45 rfl)
theorem dX2_exchangeForSpare_46 : decode cX2_exchangeForSpare 46 = .ok (.getfield 50, 3) := dqo_180 0 50 (kb_X2_exchangeForSpare_0 46 rfl) (kb_X2_exchangeForSpare_0 47 rfl) (kb_X2_exchangeForSpare_0 48 rfl)
theorem dX2_exchangeForSpare_49 : decode cX2_exchangeForSpare 49 = .ok (.istore 7, 2) := dqo_54 7 (kb_X2_exchangeForSpare_0 49 rfl) (kb_X2_exchangeForSpare_0 50 rfl)
theorem dX2_exchangeForSpare_51 : decode cX2_exchangeForSpare 51 = .ok (.aload 4, 2) := dqo_25 4 (kb_X2_exchangeForSpare_0 51 rfl) (kb_X2_exchangeForSpare_0 52 rfl)
theorem dX2_exchangeForSpare_53 : decode cX2_exchangeForSpare 53 = .ok (.getfield 18, 3) := dqo_180 0 18 (kb_X2_exchangeForSpare_0 53 rfl) (kb_X2_exchangeForSpare_0 54 rfl) (kb_X2_exchangeForSpare_0 55 rfl)
theorem dX2_exchangeForSpare_56 : decode cX2_exchangeForSpare 56 = .ok (.iload 6, 2) := dqo_21 6 (kb_X2_exchangeForSpare_0 56 rfl) (kb_X2_exchangeForSpare_0 57 rfl)
theorem dX2_exchangeForSpare_58 : decode cX2_exchangeForSpare 58 = .ok (.aload 4, 2) := dqo_25 4 (kb_X2_exchangeForSpare_0 58 rfl) (kb_X2_exchangeForSpare_0 59 rfl)
theorem dX2_exchangeForSpare_60 : decode cX2_exchangeForSpare 60 = .ok (.getfield 18, 3) := dqo_180 0 18 (kb_X2_exchangeForSpare_0 60 rfl) (kb_X2_exchangeForSpare_0 61 rfl) (kb_X2_exchangeForSpare_0 62 rfl)
theorem dX2_exchangeForSpare_63 : decode cX2_exchangeForSpare 63 = .ok (.iload 5, 2) := dqo_21 5 (kb_X2_exchangeForSpare_0 63 rfl) (kb_X2_exchangeForSpare_1 0 rfl)
theorem dX2_exchangeForSpare_65 : decode cX2_exchangeForSpare 65 = .ok (.iload 7, 2) := dqo_21 7 (kb_X2_exchangeForSpare_1 1 rfl) (kb_X2_exchangeForSpare_1 2 rfl)
theorem dX2_exchangeForSpare_67 : decode cX2_exchangeForSpare 67 = .ok (.iadd, 1) := dqo_96 (kb_X2_exchangeForSpare_1 3 rfl)
theorem dX2_exchangeForSpare_68 : decode cX2_exchangeForSpare 68 = .ok (.aload 4, 2) := dqo_25 4 (kb_X2_exchangeForSpare_1 4 rfl) (kb_X2_exchangeForSpare_1 5 rfl)
theorem dX2_exchangeForSpare_70 : decode cX2_exchangeForSpare 70 = .ok (.getfield 50, 3) := dqo_180 0 50 (kb_X2_exchangeForSpare_1 6 rfl) (kb_X2_exchangeForSpare_1 7 rfl) (kb_X2_exchangeForSpare_1 8 rfl)
theorem dX2_exchangeForSpare_73 : decode cX2_exchangeForSpare 73 = .ok (.iload 6, 2) := dqo_21 6 (kb_X2_exchangeForSpare_1 9 rfl) (kb_X2_exchangeForSpare_1 10 rfl)
theorem dX2_exchangeForSpare_75 : decode cX2_exchangeForSpare 75 = .ok (.isub, 1) := dqo_100 (kb_X2_exchangeForSpare_1 11 rfl)
theorem dX2_exchangeForSpare_76 : decode cX2_exchangeForSpare 76 = .ok (.invokestatic 299, 3) := dqo_184 1 43 (kb_X2_exchangeForSpare_1 12 rfl) (kb_X2_exchangeForSpare_1 13 rfl) (kb_X2_exchangeForSpare_1 14 rfl)
theorem dX2_exchangeForSpare_79 : decode cX2_exchangeForSpare 79 = .ok (.aload_n 0, 1) := dqo_42 (kb_X2_exchangeForSpare_1 15 rfl)
theorem dX2_exchangeForSpare_80 : decode cX2_exchangeForSpare 80 = .ok (.getfield 29, 3) := dqo_180 0 29 (kb_X2_exchangeForSpare_1 16 rfl) (kb_X2_exchangeForSpare_1 17 rfl) (kb_X2_exchangeForSpare_1 18 rfl)
theorem dX2_exchangeForSpare_83 : decode cX2_exchangeForSpare 83 = .ok (.getfield 18, 3) := dqo_180 0 18 (kb_X2_exchangeForSpare_1 19 rfl) (kb_X2_exchangeForSpare_1 20 rfl) (kb_X2_exchangeForSpare_1 21 rfl)
theorem dX2_exchangeForSpare_86 : decode cX2_exchangeForSpare 86 = .ok (.iconst 0, 1) := dqo_3 (kb_X2_exchangeForSpare_1 22 rfl)
theorem dX2_exchangeForSpare_87 : decode cX2_exchangeForSpare 87 = .ok (.aload 4, 2) := dqo_25 4 (kb_X2_exchangeForSpare_1 23 rfl) (kb_X2_exchangeForSpare_1 24 rfl)
theorem dX2_exchangeForSpare_89 : decode cX2_exchangeForSpare 89 = .ok (.getfield 18, 3) := dqo_180 0 18 (kb_X2_exchangeForSpare_1 25 rfl) (kb_X2_exchangeForSpare_1 26 rfl) (kb_X2_exchangeForSpare_1 27 rfl)
theorem dX2_exchangeForSpare_92 : decode cX2_exchangeForSpare 92 = .ok (.iload 5, 2) := dqo_21 5 (kb_X2_exchangeForSpare_1 28 rfl) (kb_X2_exchangeForSpare_1 29 rfl)
theorem dX2_exchangeForSpare_94 : decode cX2_exchangeForSpare 94 = .ok (.iload 7, 2) := dqo_21 7 (kb_X2_exchangeForSpare_1 30 rfl) (kb_X2_exchangeForSpare_1 31 rfl)
theorem dX2_exchangeForSpare_96 : decode cX2_exchangeForSpare 96 = .ok (.invokestatic 299, 3) := dqo_184 1 43 (kb_X2_exchangeForSpare_1 32 rfl) (kb_X2_exchangeForSpare_1 33 rfl) (kb_X2_exchangeForSpare_1 34 rfl)
theorem dX2_exchangeForSpare_99 : decode cX2_exchangeForSpare 99 = .ok (.iconst 0, 1) := dqo_3 (kb_X2_exchangeForSpare_1 35 rfl)
theorem dX2_exchangeForSpare_100 : decode cX2_exchangeForSpare 100 = .ok (.istore 8, 2) := dqo_54 8 (kb_X2_exchangeForSpare_1 36 rfl) (kb_X2_exchangeForSpare_1 37 rfl)
theorem dX2_exchangeForSpare_102 : decode cX2_exchangeForSpare 102 = .ok (.iload 8, 2) := dqo_21 8 (kb_X2_exchangeForSpare_1 38 rfl) (kb_X2_exchangeForSpare_1 39 rfl)
theorem dX2_exchangeForSpare_104 : decode cX2_exchangeForSpare 104 = .ok (.bipush 8, 2) := dqo_16 8 (by decide) (kb_X2_exchangeForSpare_1 40 rfl) (kb_X2_exchangeForSpare_1 41 rfl)
theorem dX2_exchangeForSpare_106 : decode cX2_exchangeForSpare 106 = .ok (.if_icmp .ge 40, 3) := dqo_162 0 40 (by decide) (kb_X2_exchangeForSpare_1 42 rfl) (kb_X2_exchangeForSpare_1 43 rfl) (kb_X2_exchangeForSpare_1 44 rfl)
theorem dX2_exchangeForSpare_109 : decode cX2_exchangeForSpare 109 = .ok (.aload_n 0, 1) := dqo_42 (kb_X2_exchangeForSpare_1 45 rfl)
theorem dX2_exchangeForSpare_110 : decode cX2_exchangeForSpare 110 = .ok (.iload 8, 2) := dqo_21 8 (kb_X2_exchangeForSpare_1 46 rfl) (kb_X2_exchangeForSpare_1 47 rfl)
theorem dX2_exchangeForSpare_112 : decode cX2_exchangeForSpare 112 = .ok (.iload_n 1, 1) := dqo_27 (kb_X2_exchangeForSpare_1 48 rfl)
theorem dX2_exchangeForSpare_113 : decode cX2_exchangeForSpare 113 = .ok (.invokevirtual 182, 3) := dqo_182 0 182 (kb_X2_exchangeForSpare_1 49 rfl) (kb_X2_exchangeForSpare_1 50 rfl) (kb_X2_exchangeForSpare_1 51 rfl)
theorem dX2_exchangeForSpare_116 : decode cX2_exchangeForSpare 116 = .ok (.ifCond .eq 24, 3) := dqo_153 0 24 (by decide) (kb_X2_exchangeForSpare_1 52 rfl) (kb_X2_exchangeForSpare_1 53 rfl) (kb_X2_exchangeForSpare_1 54 rfl)
theorem dX2_exchangeForSpare_119 : decode cX2_exchangeForSpare 119 = .ok (.aload_n 0, 1) := dqo_42 (kb_X2_exchangeForSpare_1 55 rfl)
theorem dX2_exchangeForSpare_120 : decode cX2_exchangeForSpare 120 = .ok (.getfield 11, 3) := dqo_180 0 11 (kb_X2_exchangeForSpare_1 56 rfl) (kb_X2_exchangeForSpare_1 57 rfl) (kb_X2_exchangeForSpare_1 58 rfl)
theorem dX2_exchangeForSpare_123 : decode cX2_exchangeForSpare 123 = .ok (.iload 8, 2) := dqo_21 8 (kb_X2_exchangeForSpare_1 59 rfl) (kb_X2_exchangeForSpare_1 60 rfl)
theorem dX2_exchangeForSpare_125 : decode cX2_exchangeForSpare 125 = .ok (.aaload, 1) := dqo_50 (kb_X2_exchangeForSpare_1 61 rfl)
theorem dX2_exchangeForSpare_126 : decode cX2_exchangeForSpare 126 = .ok (.dup, 1) := dqo_89 (kb_X2_exchangeForSpare_1 62 rfl)
theorem dX2_exchangeForSpare_127 : decode cX2_exchangeForSpare 127 = .ok (.getfield 50, 3) := dqo_180 0 50 (kb_X2_exchangeForSpare_1 63 rfl) (kb_X2_exchangeForSpare_2 0 rfl) (kb_X2_exchangeForSpare_2 1 rfl)
theorem dX2_exchangeForSpare_130 : decode cX2_exchangeForSpare 130 = .ok (.iload 7, 2) := dqo_21 7 (kb_X2_exchangeForSpare_2 2 rfl) (kb_X2_exchangeForSpare_2 3 rfl)
theorem dX2_exchangeForSpare_132 : decode cX2_exchangeForSpare 132 = .ok (.iload_n 3, 1) := dqo_29 (kb_X2_exchangeForSpare_2 4 rfl)
theorem dX2_exchangeForSpare_133 : decode cX2_exchangeForSpare 133 = .ok (.iload_n 2, 1) := dqo_28 (kb_X2_exchangeForSpare_2 5 rfl)
theorem dX2_exchangeForSpare_134 : decode cX2_exchangeForSpare 134 = .ok (.isub, 1) := dqo_100 (kb_X2_exchangeForSpare_2 6 rfl)
theorem dX2_exchangeForSpare_135 : decode cX2_exchangeForSpare 135 = .ok (.isub, 1) := dqo_100 (kb_X2_exchangeForSpare_2 7 rfl)
theorem dX2_exchangeForSpare_136 : decode cX2_exchangeForSpare 136 = .ok (.iadd, 1) := dqo_96 (kb_X2_exchangeForSpare_2 8 rfl)
theorem dX2_exchangeForSpare_137 : decode cX2_exchangeForSpare 137 = .ok (.putfield 50, 3) := dqo_181 0 50 (kb_X2_exchangeForSpare_2 9 rfl) (kb_X2_exchangeForSpare_2 10 rfl) (kb_X2_exchangeForSpare_2 11 rfl)
theorem dX2_exchangeForSpare_140 : decode cX2_exchangeForSpare 140 = .ok (.iinc 8 1, 3) := dqo_132 8 1 (by decide) (kb_X2_exchangeForSpare_2 12 rfl) (kb_X2_exchangeForSpare_2 13 rfl) (kb_X2_exchangeForSpare_2 14 rfl)
theorem dX2_exchangeForSpare_143 : decode cX2_exchangeForSpare 143 = .ok (.goto (-41), 3) := dqo_167 255 215 (by decide) (kb_X2_exchangeForSpare_2 15 rfl) (kb_X2_exchangeForSpare_2 16 rfl) (kb_X2_exchangeForSpare_2 17 rfl)
theorem dX2_exchangeForSpare_146 : decode cX2_exchangeForSpare 146 = .ok (.return_, 1) := dqo_177 (kb_X2_exchangeForSpare_2 18 rfl)
set_option maxRecDepth 100000 in
set_option maxHeartbeats 4000000 in
theorem C_exchange {l : Launch} {D : va_G} {cy : Nat → ClassId} {X : (Nat → Prop) → State → Heap → Prop} {a f : Nat → Nat → Nat} {r : Nat → Nat → Int32} {kn : Int32} {Y : va_W} {w : Nat} {p0 : Nat} {q0 : Nat} (hX : EnvX X) (hw : w < 8) (h1 : ∀ i, i < 8 → f 1 i < 4) (hG : ∀ i, i < 8 → f 2 i < 8 ∨ f 2 i = 4294967295) (hI : ∀ i, i < 4 → f 0 i < 7) (hI8 : f 0 8 < 7) (h38 : f 3 8 = 0) (hp : p0 ≤ q0) (hq : f 3 w + q0 ≤ f 4 (f 1 w)) (hrow : f 4 (f 1 w) ≤ 12) (h48 : f 4 8 ≤ 12) (hfit : f 4 (f 1 w) + f 4 8 ≤ 12 + (q0 - p0)) (hhol : ∀ i, i < 8 → hol f i w ≠ 0 → q0 - p0 ≤ f 4 i + f 4 8 ∧ f 4 i ≤ 12) : Cd l D cy X yX2_exchangeForSpare cX2_exchangeForSpare 9 none (rmz 1 60) [.ref (a 0 0), .int (nI w), .int (nI p0), .int (nI q0)] (WC cy a f r kn ++ Y) none (WC cy a (exL f w (f 4 8) (q0 - p0) 8) (exR f r w p0 q0 (f 4 8)) kn ++ Y) := by
  have hr1 := h1 w hw
  have hi1 := hI (f 1 w) hr1
  refine Cm.of [some (.ref (a 0 0)), some (.int (nI w)), some (.int (nI p0)), some (.int (nI q0)), none, none, none, none, none] pn_X2 rfl (Nat.le_of_ble_eq_true rfl) ?_
  intro p e s m args below meth c A C hE hr hnt hn
  refine r_aload_n C dX2_exchangeForSpare_0 rfl ?_
  refine s_get C 0 (by decide) qf_X2_11 rfl rfl dX2_exchangeForSpare_1 ?_
  refine r_aload_n C dX2_exchangeForSpare_4 rfl ?_
  refine s_get C 0 (by decide) qf_X2_11 rfl rfl dX2_exchangeForSpare_5 ?_
  refine r_iload_n C dX2_exchangeForSpare_8 rfl ?_
  refine s_parts C (by first | omega | (simp [up2, *]; done) | (simp [up2, *]; omega) | (simp only [up2_eq]; omega)) dX2_exchangeForSpare_9 ?_
  refine p_getN (v := .int (nI (f 1 w))) hX C hE 1 (by first | omega | (simp [up2, *]; done) | (simp [up2, *]; omega) | (simp only [up2_eq]; omega)) (by decide) qn_X2_207 rfl rfl dX2_exchangeForSpare_10 ?_
  refine s_parts C (by first | omega | (simp [up2, *]; done) | (simp [up2, *]; omega) | (simp only [up2_eq]; omega)) dX2_exchangeForSpare_13 ?_
  refine r_astore C dX2_exchangeForSpare_14 (by decide) rfl ?_
  refine r_aload_n C dX2_exchangeForSpare_16 rfl ?_
  refine s_get C 0 (by decide) qf_X2_11 rfl rfl dX2_exchangeForSpare_17 ?_
  refine r_iload_n C dX2_exchangeForSpare_20 rfl ?_
  refine s_parts C (by first | omega | (simp [up2, *]; done) | (simp [up2, *]; omega) | (simp only [up2_eq]; omega)) dX2_exchangeForSpare_21 ?_
  refine p_getN (v := .int (nI (f 3 w))) hX C hE 3 (by first | omega | (simp [up2, *]; done) | (simp [up2, *]; omega) | (simp only [up2_eq]; omega)) (by decide) qn_X2_296 rfl rfl dX2_exchangeForSpare_22 ?_
  refine r_iload_n C dX2_exchangeForSpare_25 rfl ?_
  refine r_iaddN C dX2_exchangeForSpare_26 ?_
  refine r_istore C dX2_exchangeForSpare_27 (by decide) rfl ?_
  refine r_aload_n C dX2_exchangeForSpare_29 rfl ?_
  refine s_get C 0 (by decide) qf_X2_11 rfl rfl dX2_exchangeForSpare_30 ?_
  refine r_iload_n C dX2_exchangeForSpare_33 rfl ?_
  refine s_parts C (by first | omega | (simp [up2, *]; done) | (simp [up2, *]; omega) | (simp only [up2_eq]; omega)) dX2_exchangeForSpare_34 ?_
  refine p_getN (v := .int (nI (f 3 w))) hX C hE 3 (by first | omega | (simp [up2, *]; done) | (simp [up2, *]; omega) | (simp only [up2_eq]; omega)) (by decide) qn_X2_296 rfl rfl dX2_exchangeForSpare_35 ?_
  refine r_iload_n C dX2_exchangeForSpare_38 rfl ?_
  refine r_iaddN C dX2_exchangeForSpare_39 ?_
  refine r_istore C dX2_exchangeForSpare_40 (by decide) rfl ?_
  refine r_aload_n C dX2_exchangeForSpare_42 rfl ?_
  refine s_get C 2 (by decide) qf_X2_29 rfl rfl dX2_exchangeForSpare_43 ?_
  refine p_getN (v := .int (nI (f 4 8))) hX C hE 4 (by first | omega | (simp [up2, *]; done) | (simp [up2, *]; omega) | (simp only [up2_eq]; omega)) (by decide) qn_X2_50 rfl rfl dX2_exchangeForSpare_46 ?_
  refine r_istore C dX2_exchangeForSpare_49 (by decide) rfl ?_
  refine r_aload C dX2_exchangeForSpare_51 rfl ?_
  refine p_getN (v := .ref (a 2 (f 0 (f 1 w)))) hX C hE 0 (by first | omega | (simp [up2, *]; done) | (simp [up2, *]; omega) | (simp only [up2_eq]; omega)) (by decide) qn_X2_18 rfl rfl dX2_exchangeForSpare_53 ?_
  refine r_iload C dX2_exchangeForSpare_56 rfl ?_
  refine r_aload C dX2_exchangeForSpare_58 rfl ?_
  refine p_getN (v := .ref (a 2 (f 0 (f 1 w)))) hX C hE 0 (by first | omega | (simp [up2, *]; done) | (simp [up2, *]; omega) | (simp only [up2_eq]; omega)) (by decide) qn_X2_18 rfl rfl dX2_exchangeForSpare_60 ?_
  refine r_iload C dX2_exchangeForSpare_63 rfl ?_
  refine r_iload C dX2_exchangeForSpare_65 rfl ?_
  refine r_iaddN C dX2_exchangeForSpare_67 ?_
  refine r_aload C dX2_exchangeForSpare_68 rfl ?_
  refine p_getN (v := .int (nI (f 4 (f 1 w)))) hX C hE 4 (by first | omega | (simp [up2, *]; done) | (simp [up2, *]; omega) | (simp only [up2_eq]; omega)) (by decide) qn_X2_50 rfl rfl dX2_exchangeForSpare_70 ?_
  refine r_iload C dX2_exchangeForSpare_73 rfl ?_
  refine r_isubN C dX2_exchangeForSpare_75 (by first | omega | (simp [up2, *]; done) | (simp [up2, *]; omega) | (simp only [up2_eq]; omega)) ?_
  refine s_copy (j0 := (f 0 (f 1 w))) (j1 := (f 0 (f 1 w))) (sp := ((f 3 w) + q0)) (dp := (((f 3 w) + p0) + (f 4 8))) (n := ((f 4 (f 1 w)) - ((f 3 w) + q0))) (st := []) C qm_X2_299 (by first | omega | (simp [up2, *]; done) | (simp [up2, *]; omega) | (simp only [up2_eq]; omega)) (by first | omega | (simp [up2, *]; done) | (simp [up2, *]; omega) | (simp only [up2_eq]; omega)) (by first | omega | (simp [up2, *]; done) | (simp [up2, *]; omega) | (simp only [up2_eq]; omega)) (by first | omega | (simp [up2, *]; done) | (simp [up2, *]; omega) | (simp only [up2_eq]; omega)) (by decide) (Nat.le_of_ble_eq_true rfl) dX2_exchangeForSpare_76 ?_
  refine r_aload_n C dX2_exchangeForSpare_79 rfl ?_
  refine s_get C 2 (by decide) qf_X2_29 rfl rfl dX2_exchangeForSpare_80 ?_
  refine p_getN (v := .ref (a 2 (f 0 8))) hX C hE 0 (by first | omega | (simp [up2, *]; done) | (simp [up2, *]; omega) | (simp only [up2_eq]; omega)) (by decide) qn_X2_18 rfl rfl dX2_exchangeForSpare_83 ?_
  refine r_iconst (v := (nI 0)) C dX2_exchangeForSpare_86 (by decide) ?_
  refine r_aload C dX2_exchangeForSpare_87 rfl ?_
  refine p_getN (v := .ref (a 2 (f 0 (f 1 w)))) hX C hE 0 (by first | omega | (simp [up2, *]; done) | (simp [up2, *]; omega) | (simp only [up2_eq]; omega)) (by decide) qn_X2_18 rfl rfl dX2_exchangeForSpare_89 ?_
  refine r_iload C dX2_exchangeForSpare_92 rfl ?_
  refine r_iload C dX2_exchangeForSpare_94 rfl ?_
  refine s_copy (j0 := (f 0 8)) (j1 := (f 0 (f 1 w))) (sp := 0) (dp := ((f 3 w) + p0)) (n := (f 4 8)) (st := []) C qm_X2_299 (by first | omega | (simp [up2, *]; done) | (simp [up2, *]; omega) | (simp only [up2_eq]; omega)) (by first | omega | (simp [up2, *]; done) | (simp [up2, *]; omega) | (simp only [up2_eq]; omega)) (by first | omega | (simp [up2, *]; done) | (simp [up2, *]; omega) | (simp only [up2_eq]; omega)) (by first | omega | (simp [up2, *]; done) | (simp [up2, *]; omega) | (simp only [up2_eq]; omega)) (by decide) (Nat.le_of_ble_eq_true rfl) dX2_exchangeForSpare_96 ?_
  refine r_iconst (v := (nI 0)) C dX2_exchangeForSpare_99 (by decide) ?_
  refine r_istore C dX2_exchangeForSpare_100 (by decide) rfl ?_
  refine r_w (congrArg (fun z => WC cy a z (exR f r w p0 q0 (f 4 8)) kn ++ Y) (exL_0 f w (f 4 8) (q0 - p0)).symm) ?_
  have L102 : ∀ (d : Nat) (k : Nat), (hk : k + d = 8) → vC p l e (rmz 1 60) s m args below meth c D A (vx_MQ below (vG (fun v1 w1 => v1 = none ∧ w1 = WC cy a (exL f w (f 4 8) (q0 - p0) 8) (exR f r w p0 q0 (f 4 8)) kn ++ Y) D vwCl A) (vGX (fun _ => False) D vwCl (WC cy a f r kn ++ Y) A) args s (rmz 1 60).cells (rmz 1 60).slots A) 9 0 0 (WC cy a (exL f w (f 4 8) (q0 - p0) k) (exR f r w p0 q0 (f 4 8)) kn ++ Y) [some (.ref (a 0 0)), some (.int (nI w)), some (.int (nI p0)), some (.int (nI q0)), some (.ref (a 1 (f 1 w))), some (.int (nI (f 3 w + p0))), some (.int (nI (f 3 w + q0))), some (.int (nI (f 4 8))), some (.int (nI k))] 102 [] := by
    intro d
    induction d with
    | zero =>
      intro k hk
      refine r_iload C dX2_exchangeForSpare_102 rfl ?_
      refine r_bipush (v := (nI 8)) C dX2_exchangeForSpare_104 (by decide) ?_
      refine r_icN_ge (a := k) (b := 8) (tgt := 146) C (by first | omega | (simp [up2, *]; done) | (simp [up2, *]; omega) | (simp only [up2_eq]; omega)) (by first | omega | (simp [up2, *]; done) | (simp [up2, *]; omega) | (simp only [up2_eq]; omega)) dX2_exchangeForSpare_106 (by decide) (fun h106_1 => ?_) (fun h106_1 => ?_)
      · first
        | exfalso; first | omega | contradiction
        | skip
          have e8 : k = 8 := by omega
          subst e8
          exact r_vret C hr dX2_exchangeForSpare_146 ⟨rfl, rfl⟩ (Nat.le_of_ble_eq_true rfl) (Nat.le_of_ble_eq_true rfl)
      · first
        | exfalso; first | omega | contradiction
        | skip
          refine r_aload_n C dX2_exchangeForSpare_109 rfl ?_
          refine r_iload C dX2_exchangeForSpare_110 rfl ?_
          refine r_iload_n C dX2_exchangeForSpare_112 rfl ?_
          refine d_V (st := []) hX.stb C hE (C_isHolder (f := (exL f w (f 4 8) (q0 - p0) k)) (r := (exR f r w p0 q0 (f 4 8))) (kn := kn) (h := k) (w := w) hX (by first | omega | (simp [up2, *]; done) | (simp [up2, *]; omega) | (simp only [up2_eq]; omega)) (by first | omega | (simp [up2, *]; done) | (simp [up2, *]; omega) | (simp only [up2_eq]; omega)) hG) pk_X2_isHolder qm_X2_182 0 6 rfl rfl wc_0 rfl rfl (Nat.le_of_ble_eq_true rfl) dX2_exchangeForSpare_113 ⟨Nat.le_of_ble_eq_true rfl, Nat.le_of_ble_eq_true rfl⟩ ⟨Nat.le_of_ble_eq_true rfl, Nat.le_of_ble_eq_true rfl⟩ ?_
          refine r_ifN_eq (a := (hol f k w)) (tgt := 140) C (Nat.lt_of_le_of_lt (hol_le _ _ _) (by decide)) dX2_exchangeForSpare_116 (by decide) (fun h116_2 => ?_) (fun h116_2 => ?_)
          · first
            | exfalso; first | omega | contradiction
            | skip
              refine r_iincN C dX2_exchangeForSpare_140 rfl (by decide) rfl ?_
              refine r_goto (tgt := 102) C dX2_exchangeForSpare_143 (by decide) ?_
              refine r_w (congrArg (fun z => WC cy a z (exR f r w p0 q0 (f 4 8)) kn ++ Y) (exL_no (by assumption))) ?_
              exact (Nat.not_lt_zero _ (by omega)).elim
          · first
            | exfalso; first | omega | contradiction
            | skip
              refine r_aload_n C dX2_exchangeForSpare_119 rfl ?_
              refine s_get C 0 (by decide) qf_X2_11 rfl rfl dX2_exchangeForSpare_120 ?_
              refine r_iload C dX2_exchangeForSpare_123 rfl ?_
              refine s_parts C (by first | omega | (simp [up2, *]; done) | (simp [up2, *]; omega) | (simp only [up2_eq]; omega)) dX2_exchangeForSpare_125 ?_
              refine r_dup C dX2_exchangeForSpare_126 rfl ?_
              refine p_getN (v := .int (nI (f 4 k))) hX C hE 4 (by first | omega | (simp [up2, *]; done) | (simp [up2, *]; omega) | (simp only [up2_eq]; omega)) (by decide) qn_X2_50 rfl (congrArg (fun z => some (Value.int (nI z))) (show (exL f w (f 4 8) (q0 - p0) k) 4 k = f 4 k by simp [up2, exL_at, dmF_at, *])) dX2_exchangeForSpare_127 ?_
              refine r_iload C dX2_exchangeForSpare_130 rfl ?_
              refine r_iload_n C dX2_exchangeForSpare_132 rfl ?_
              refine r_iload_n C dX2_exchangeForSpare_133 rfl ?_
              refine r_isubN C dX2_exchangeForSpare_134 (by first | omega | (simp [up2, *]; done) | (simp [up2, *]; omega) | (simp only [up2_eq]; omega)) ?_
              refine r_isub C dX2_exchangeForSpare_135 ?_
              refine r_iadd C dX2_exchangeForSpare_136 ?_
              refine r_eqi (nI_adj (by have h7 := hhol k (by omega) (by assumption); omega)) ?_
              refine p_putN hX C hE 4 (by first | omega | (simp [up2, *]; done) | (simp [up2, *]; omega) | (simp only [up2_eq]; omega)) (by decide) (by decide) qn_X2_50 rfl rfl rfl dX2_exchangeForSpare_137 ?_
              refine r_iincN C dX2_exchangeForSpare_140 rfl (by decide) rfl ?_
              refine r_goto (tgt := 102) C dX2_exchangeForSpare_143 (by decide) ?_
              refine r_w (congrArg (fun z => WC cy a z (exR f r w p0 q0 (f 4 8)) kn ++ Y) (exL_yes (by assumption))) ?_
              exact (Nat.not_lt_zero _ (by omega)).elim
    | succ d ih_L102 =>
      intro k hk
      refine r_iload C dX2_exchangeForSpare_102 rfl ?_
      refine r_bipush (v := (nI 8)) C dX2_exchangeForSpare_104 (by decide) ?_
      refine r_icN_ge (a := k) (b := 8) (tgt := 146) C (by first | omega | (simp [up2, *]; done) | (simp [up2, *]; omega) | (simp only [up2_eq]; omega)) (by first | omega | (simp [up2, *]; done) | (simp [up2, *]; omega) | (simp only [up2_eq]; omega)) dX2_exchangeForSpare_106 (by decide) (fun h106_3 => ?_) (fun h106_3 => ?_)
      · first
        | exfalso; first | omega | contradiction
        | skip
          have e8 : k = 8 := by omega
          subst e8
          exact r_vret C hr dX2_exchangeForSpare_146 ⟨rfl, rfl⟩ (Nat.le_of_ble_eq_true rfl) (Nat.le_of_ble_eq_true rfl)
      · first
        | exfalso; first | omega | contradiction
        | skip
          refine r_aload_n C dX2_exchangeForSpare_109 rfl ?_
          refine r_iload C dX2_exchangeForSpare_110 rfl ?_
          refine r_iload_n C dX2_exchangeForSpare_112 rfl ?_
          refine d_V (st := []) hX.stb C hE (C_isHolder (f := (exL f w (f 4 8) (q0 - p0) k)) (r := (exR f r w p0 q0 (f 4 8))) (kn := kn) (h := k) (w := w) hX (by first | omega | (simp [up2, *]; done) | (simp [up2, *]; omega) | (simp only [up2_eq]; omega)) (by first | omega | (simp [up2, *]; done) | (simp [up2, *]; omega) | (simp only [up2_eq]; omega)) hG) pk_X2_isHolder qm_X2_182 0 6 rfl rfl wc_0 rfl rfl (Nat.le_of_ble_eq_true rfl) dX2_exchangeForSpare_113 ⟨Nat.le_of_ble_eq_true rfl, Nat.le_of_ble_eq_true rfl⟩ ⟨Nat.le_of_ble_eq_true rfl, Nat.le_of_ble_eq_true rfl⟩ ?_
          refine r_ifN_eq (a := (hol f k w)) (tgt := 140) C (Nat.lt_of_le_of_lt (hol_le _ _ _) (by decide)) dX2_exchangeForSpare_116 (by decide) (fun h116_4 => ?_) (fun h116_4 => ?_)
          · first
            | exfalso; first | omega | contradiction
            | skip
              refine r_iincN C dX2_exchangeForSpare_140 rfl (by decide) rfl ?_
              refine r_goto (tgt := 102) C dX2_exchangeForSpare_143 (by decide) ?_
              refine r_w (congrArg (fun z => WC cy a z (exR f r w p0 q0 (f 4 8)) kn ++ Y) (exL_no (by assumption))) ?_
              exact ih_L102 (k + 1) (by omega)
          · first
            | exfalso; first | omega | contradiction
            | skip
              refine r_aload_n C dX2_exchangeForSpare_119 rfl ?_
              refine s_get C 0 (by decide) qf_X2_11 rfl rfl dX2_exchangeForSpare_120 ?_
              refine r_iload C dX2_exchangeForSpare_123 rfl ?_
              refine s_parts C (by first | omega | (simp [up2, *]; done) | (simp [up2, *]; omega) | (simp only [up2_eq]; omega)) dX2_exchangeForSpare_125 ?_
              refine r_dup C dX2_exchangeForSpare_126 rfl ?_
              refine p_getN (v := .int (nI (f 4 k))) hX C hE 4 (by first | omega | (simp [up2, *]; done) | (simp [up2, *]; omega) | (simp only [up2_eq]; omega)) (by decide) qn_X2_50 rfl (congrArg (fun z => some (Value.int (nI z))) (show (exL f w (f 4 8) (q0 - p0) k) 4 k = f 4 k by simp [up2, exL_at, dmF_at, *])) dX2_exchangeForSpare_127 ?_
              refine r_iload C dX2_exchangeForSpare_130 rfl ?_
              refine r_iload_n C dX2_exchangeForSpare_132 rfl ?_
              refine r_iload_n C dX2_exchangeForSpare_133 rfl ?_
              refine r_isubN C dX2_exchangeForSpare_134 (by first | omega | (simp [up2, *]; done) | (simp [up2, *]; omega) | (simp only [up2_eq]; omega)) ?_
              refine r_isub C dX2_exchangeForSpare_135 ?_
              refine r_iadd C dX2_exchangeForSpare_136 ?_
              refine r_eqi (nI_adj (by have h7 := hhol k (by omega) (by assumption); omega)) ?_
              refine p_putN hX C hE 4 (by first | omega | (simp [up2, *]; done) | (simp [up2, *]; omega) | (simp only [up2_eq]; omega)) (by decide) (by decide) qn_X2_50 rfl rfl rfl dX2_exchangeForSpare_137 ?_
              refine r_iincN C dX2_exchangeForSpare_140 rfl (by decide) rfl ?_
              refine r_goto (tgt := 102) C dX2_exchangeForSpare_143 (by decide) ?_
              refine r_w (congrArg (fun z => WC cy a z (exR f r w p0 q0 (f 4 8)) kn ++ Y) (exL_yes (by assumption))) ?_
              exact ih_L102 (k + 1) (by omega)
  exact L102 8 0 rfl
theorem pk_X1_append : PkV RX1 yX1_append cX1_append 2 none 1 := ⟨⟨qi_X1_append, qs_X1_append, qz_X1, qc_X1_append⟩, rfl, mh_X1.1, mh_X1.2, pd_6⟩
theorem pk_X2_exchangeForSpare : PkV RX2 yX2_exchangeForSpare cX2_exchangeForSpare 9 none 3 := ⟨⟨qi_X2_exchangeForSpare, qs_X2_exchangeForSpare, qz_X2, qc_X2_exchangeForSpare⟩, rfl, mh_X2.1, mh_X2.2, pd_7⟩
theorem pk_X2_settle : PkV RX2 yX2_settle cX2_settle 5 none 2 := ⟨⟨qi_X2_settle, qs_X2_settle, qz_X2, qc_X2_settle⟩, rfl, mh_X2.1, mh_X2.2, pd_2⟩
theorem dX2_putIn_0 : decode cX2_putIn 0 = .ok (.aload_n 0, 1) := dqo_42 (kb_of ke_X2_putIn 0 rfl)
theorem dX2_putIn_1 : decode cX2_putIn 1 = .ok (.getfield 29, 3) := dqo_180 0 29 (kb_of ke_X2_putIn 1 rfl) (kb_of ke_X2_putIn 2 rfl) (kb_of ke_X2_putIn 3 rfl)
theorem dX2_putIn_4 : decode cX2_putIn 4 = .ok (.iconst 0, 1) := dqo_3 (kb_of ke_X2_putIn 4 rfl)
theorem dX2_putIn_5 : decode cX2_putIn 5 = .ok (.putfield 50, 3) := dqo_181 0 50 (kb_of ke_X2_putIn 5 rfl) (kb_of ke_X2_putIn 6 rfl) (kb_of ke_X2_putIn 7 rfl)
theorem dX2_putIn_8 : decode cX2_putIn 8 = .ok (.aload_n 0, 1) := dqo_42 (kb_of ke_X2_putIn 8 rfl)
theorem dX2_putIn_9 : decode cX2_putIn 9 = .ok (.getfield 29, 3) := dqo_180 0 29 (kb_of ke_X2_putIn 9 rfl) (kb_of ke_X2_putIn 10 rfl) (kb_of ke_X2_putIn 11 rfl)
theorem dX2_putIn_12 : decode cX2_putIn 12 = .ok (.iload_n 3, 1) := dqo_29 (kb_of ke_X2_putIn 12 rfl)
theorem dX2_putIn_13 : decode cX2_putIn 13 = .ok (.invokevirtual 141, 3) := dqo_182 0 141 (kb_of ke_X2_putIn 13 rfl) (kb_of ke_X2_putIn 14 rfl) (kb_of ke_X2_putIn 15 rfl)
theorem dX2_putIn_16 : decode cX2_putIn 16 = .ok (.aload_n 0, 1) := dqo_42 (kb_of ke_X2_putIn 16 rfl)
theorem dX2_putIn_17 : decode cX2_putIn 17 = .ok (.iload_n 1, 1) := dqo_27 (kb_of ke_X2_putIn 17 rfl)
theorem dX2_putIn_18 : decode cX2_putIn 18 = .ok (.iload_n 2, 1) := dqo_28 (kb_of ke_X2_putIn 18 rfl)
theorem dX2_putIn_19 : decode cX2_putIn 19 = .ok (.iload_n 2, 1) := dqo_28 (kb_of ke_X2_putIn 19 rfl)
theorem dX2_putIn_20 : decode cX2_putIn 20 = .ok (.invokevirtual 83, 3) := dqo_182 0 83 (kb_of ke_X2_putIn 20 rfl) (kb_of ke_X2_putIn 21 rfl) (kb_of ke_X2_putIn 22 rfl)
theorem dX2_putIn_23 : decode cX2_putIn 23 = .ok (.aload_n 0, 1) := dqo_42 (kb_of ke_X2_putIn 23 rfl)
theorem dX2_putIn_24 : decode cX2_putIn 24 = .ok (.iload_n 1, 1) := dqo_27 (kb_of ke_X2_putIn 24 rfl)
theorem dX2_putIn_25 : decode cX2_putIn 25 = .ok (.iload 4, 2) := dqo_21 4 (kb_of ke_X2_putIn 25 rfl) (kb_of ke_X2_putIn 26 rfl)
theorem dX2_putIn_27 : decode cX2_putIn 27 = .ok (.invokevirtual 87, 3) := dqo_182 0 87 (kb_of ke_X2_putIn 27 rfl) (kb_of ke_X2_putIn 28 rfl) (kb_of ke_X2_putIn 29 rfl)
theorem dX2_putIn_30 : decode cX2_putIn 30 = .ok (.return_, 1) := dqo_177 (kb_of ke_X2_putIn 30 rfl)
set_option maxRecDepth 100000 in
set_option maxHeartbeats 4000000 in
theorem C_putIn {l : Launch} {D : va_G} {cy : Nat → ClassId} {X : (Nat → Prop) → State → Heap → Prop} {a f : Nat → Nat → Nat} {r : Nat → Nat → Int32} {kn : Int32} {Y : va_W} {w : Nat} {k : Nat} {x : Int32} {d0 : Nat} (hX : EnvX X) (hw : w < 8) (h1 : ∀ i, i < 8 → f 1 i < 4) (hG : ∀ i, i < 8 → f 2 i < 8 ∨ f 2 i = 4294967295) (hI : ∀ i, i < 4 → f 0 i < 7) (hI8 : f 0 8 < 7) (h38 : f 3 8 = 0) (hkk : f 3 w + k ≤ f 4 (f 1 w)) (hrow : f 4 (f 1 w) < 12) (hhol : ∀ i, i < 8 → hol f i w ≠ 0 → f 4 i ≤ 12) (hd : d0 < 4294967296) (hU : ∀ k, k < 3 → f 6 k < 8) : Cd l D cy X yX2_putIn cX2_putIn 5 none (rmz 2 90) [.ref (a 0 0), .int (nI w), .int (nI k), .int x, .int (nI d0)] (WC cy a f r kn ++ Y) none (WC cy a (settleF (exL (up2 f 4 8 1) w 1 0 8) w d0) (exR (up2 f 4 8 1) (up2 r (f 0 8) 0 x) w k k 1) kn ++ Y) := by
  have hr1 := h1 w hw
  refine Cm.of [some (.ref (a 0 0)), some (.int (nI w)), some (.int (nI k)), some (.int x), some (.int (nI d0))] pn_X2 rfl (Nat.le_of_ble_eq_true rfl) ?_
  intro p e s m args below meth c A C hE hr hnt hn
  refine r_aload_n C dX2_putIn_0 rfl ?_
  refine s_get C 2 (by decide) qf_X2_29 rfl rfl dX2_putIn_1 ?_
  refine r_iconst (v := (nI 0)) C dX2_putIn_4 (by decide) ?_
  refine p_putN hX C hE 4 (by first | omega | (simp [up2, *]; done) | (simp [up2, *]; omega) | (simp only [up2_eq]; omega)) (by decide) (by decide) qn_X2_50 rfl rfl rfl dX2_putIn_5 ?_
  refine r_aload_n C dX2_putIn_8 rfl ?_
  refine s_get C 2 (by decide) qf_X2_29 rfl rfl dX2_putIn_9 ?_
  refine r_iload_n C dX2_putIn_12 rfl ?_
  refine d_Vv (st := []) hX.stb C hE (C_append (f := (up2 f 4 8 0)) (r := r) (kn := kn) (i := 8) (x := (x)) hX (by first | omega | (simp [up2, *]; done) | (simp [up2, *]; omega) | (simp only [up2_eq]; omega)) (by first | omega | (simp [up2, *]; done) | (simp [up2, *]; omega) | (simp only [up2_eq]; omega)) (by first | omega | (simp [up2, *]; done) | (simp [up2, *]; omega) | (simp only [up2_eq]; omega))) pk_X1_append qm_X2_141 (3 + 8) 5 rfl rfl (wc_p (by first | omega | (simp [up2, *]; done) | (simp [up2, *]; omega) | (simp only [up2_eq]; omega))) rfl rfl (Nat.le_of_ble_eq_true rfl) dX2_putIn_13 ⟨Nat.le_of_ble_eq_true rfl, Nat.le_of_ble_eq_true rfl⟩ ⟨Nat.le_of_ble_eq_true rfl, Nat.le_of_ble_eq_true rfl⟩ ?_
  refine r_w (congrArg (fun z => WC cy a z (up2 r (f 0 8) (0) (x)) kn ++ Y) (up2_up2 f 4 8 0 (0 + 1))) ?_
  refine r_aload_n C dX2_putIn_16 rfl ?_
  refine r_iload_n C dX2_putIn_17 rfl ?_
  refine r_iload_n C dX2_putIn_18 rfl ?_
  refine r_iload_n C dX2_putIn_19 rfl ?_
  refine d_Vv (st := []) hX.stb C hE (C_exchange (f := (up2 f 4 8 1)) (r := (up2 r (f 0 8) 0 x)) (kn := kn) (w := w) (p0 := k) (q0 := k) hX (by first | omega | (simp [up2, *]; done) | (simp [up2, *]; omega) | (simp only [up2_eq]; omega)) h1 hG hI hI8 h38 (Nat.le_refl _) (show f 3 w + k ≤ up2 f 4 8 1 4 (f 1 w) by rw [up2_i _ _ _ _ (by omega)]; exact hkk) (show up2 f 4 8 1 4 (f 1 w) ≤ 12 by rw [up2_i _ _ _ _ (by omega)]; omega) (show up2 f 4 8 1 4 8 ≤ 12 by rw [up2_eq]; omega) (show up2 f 4 8 1 4 (f 1 w) + up2 f 4 8 1 4 8 ≤ 12 + (k - k) by rw [up2_i _ _ _ _ (by omega), up2_eq]; omega) (fun i hi h => ⟨by rw [Nat.sub_self]; exact Nat.zero_le _, by have h6 := hhol i hi h; rw [up2_i _ _ _ _ (by omega)]; exact h6⟩)) pk_X2_exchangeForSpare qm_X2_83 0 6 rfl rfl wc_0 rfl rfl (Nat.le_of_ble_eq_true rfl) dX2_putIn_20 ⟨Nat.le_of_ble_eq_true rfl, Nat.le_of_ble_eq_true rfl⟩ ⟨Nat.le_of_ble_eq_true rfl, Nat.le_of_ble_eq_true rfl⟩ ?_
  refine r_w (congrArg (fun z => WC cy a z (exR (up2 f 4 8 1) (up2 r (f 0 8) 0 x) w k k ((up2 f 4 8 1) 4 8)) kn ++ Y) (show exL (up2 f 4 8 1) w (up2 f 4 8 1 4 8) (k - k) 8 = exL (up2 f 4 8 1) w 1 0 8 by rw [up2_eq, Nat.sub_self])) ?_
  refine r_w (congrArg (fun z => WC cy a (exL (up2 f 4 8 1) w 1 0 8) z kn ++ Y) (show _ = exR (up2 f 4 8 1) (up2 r (f 0 8) 0 x) w k k 1 by rw [up2_eq])) ?_
  refine r_aload_n C dX2_putIn_23 rfl ?_
  refine r_iload_n C dX2_putIn_24 rfl ?_
  refine r_iload C dX2_putIn_25 rfl ?_
  refine d_Vv (st := []) hX.stb C hE (C_settle (f := (exL (up2 f 4 8 1) w 1 0 8)) (r := (exR (up2 f 4 8 1) (up2 r (f 0 8) 0 x) w k k 1)) (kn := kn) (w := w) (d0 := d0) hX (by first | omega | (simp [up2, *]; done) | (simp [up2, *]; omega) | (simp only [up2_eq]; omega)) (by first | omega | (simp [up2, *]; done) | (simp [up2, *]; omega) | (simp only [up2_eq]; omega)) h1 hU hG) pk_X2_settle qm_X2_87 0 6 rfl rfl wc_0 rfl rfl (Nat.le_of_ble_eq_true rfl) dX2_putIn_27 ⟨Nat.le_of_ble_eq_true rfl, Nat.le_of_ble_eq_true rfl⟩ ⟨Nat.le_of_ble_eq_true rfl, Nat.le_of_ble_eq_true rfl⟩ ?_
  exact r_vret C hr dX2_putIn_30 ⟨rfl, rfl⟩ (Nat.le_of_ble_eq_true rfl) (Nat.le_of_ble_eq_true rfl)
theorem dX2_takeOut_0 : decode cX2_takeOut 0 = .ok (.aload_n 0, 1) := dqo_42 (kb_of ke_X2_takeOut 0 rfl)
theorem dX2_takeOut_1 : decode cX2_takeOut 1 = .ok (.getfield 29, 3) := dqo_180 0 29 (kb_of ke_X2_takeOut 1 rfl) (kb_of ke_X2_takeOut 2 rfl) (kb_of ke_X2_takeOut 3 rfl)
theorem dX2_takeOut_4 : decode cX2_takeOut 4 = .ok (.iconst 0, 1) := dqo_3 (kb_of ke_X2_takeOut 4 rfl)
theorem dX2_takeOut_5 : decode cX2_takeOut 5 = .ok (.putfield 50, 3) := dqo_181 0 50 (kb_of ke_X2_takeOut 5 rfl) (kb_of ke_X2_takeOut 6 rfl) (kb_of ke_X2_takeOut 7 rfl)
theorem dX2_takeOut_8 : decode cX2_takeOut 8 = .ok (.aload_n 0, 1) := dqo_42 (kb_of ke_X2_takeOut 8 rfl)
theorem dX2_takeOut_9 : decode cX2_takeOut 9 = .ok (.iload_n 1, 1) := dqo_27 (kb_of ke_X2_takeOut 9 rfl)
theorem dX2_takeOut_10 : decode cX2_takeOut 10 = .ok (.iload_n 2, 1) := dqo_28 (kb_of ke_X2_takeOut 10 rfl)
theorem dX2_takeOut_11 : decode cX2_takeOut 11 = .ok (.iload_n 3, 1) := dqo_29 (kb_of ke_X2_takeOut 11 rfl)
theorem dX2_takeOut_12 : decode cX2_takeOut 12 = .ok (.invokevirtual 83, 3) := dqo_182 0 83 (kb_of ke_X2_takeOut 12 rfl) (kb_of ke_X2_takeOut 13 rfl) (kb_of ke_X2_takeOut 14 rfl)
theorem dX2_takeOut_15 : decode cX2_takeOut 15 = .ok (.aload_n 0, 1) := dqo_42 (kb_of ke_X2_takeOut 15 rfl)
theorem dX2_takeOut_16 : decode cX2_takeOut 16 = .ok (.iload_n 1, 1) := dqo_27 (kb_of ke_X2_takeOut 16 rfl)
theorem dX2_takeOut_17 : decode cX2_takeOut 17 = .ok (.iload 4, 2) := dqo_21 4 (kb_of ke_X2_takeOut 17 rfl) (kb_of ke_X2_takeOut 18 rfl)
theorem dX2_takeOut_19 : decode cX2_takeOut 19 = .ok (.invokevirtual 87, 3) := dqo_182 0 87 (kb_of ke_X2_takeOut 19 rfl) (kb_of ke_X2_takeOut 20 rfl) (kb_of ke_X2_takeOut 21 rfl)
theorem dX2_takeOut_22 : decode cX2_takeOut 22 = .ok (.return_, 1) := dqo_177 (kb_of ke_X2_takeOut 22 rfl)
set_option maxRecDepth 100000 in
set_option maxHeartbeats 4000000 in
theorem C_takeOut {l : Launch} {D : va_G} {cy : Nat → ClassId} {X : (Nat → Prop) → State → Heap → Prop} {a f : Nat → Nat → Nat} {r : Nat → Nat → Int32} {kn : Int32} {Y : va_W} {w : Nat} {p0 : Nat} {q0 : Nat} {d0 : Nat} (hX : EnvX X) (hw : w < 8) (h1 : ∀ i, i < 8 → f 1 i < 4) (hG : ∀ i, i < 8 → f 2 i < 8 ∨ f 2 i = 4294967295) (hI : ∀ i, i < 4 → f 0 i < 7) (hI8 : f 0 8 < 7) (h38 : f 3 8 = 0) (hp : p0 ≤ q0) (hq : f 3 w + q0 ≤ f 4 (f 1 w)) (hrow : f 4 (f 1 w) ≤ 12) (hhol : ∀ i, i < 8 → hol f i w ≠ 0 → q0 - p0 ≤ f 4 i ∧ f 4 i ≤ 12) (hd : d0 < 4294967296) (hU : ∀ k, k < 3 → f 6 k < 8) : Cd l D cy X yX2_takeOut cX2_takeOut 5 none (rmz 2 90) [.ref (a 0 0), .int (nI w), .int (nI p0), .int (nI q0), .int (nI d0)] (WC cy a f r kn ++ Y) none (WC cy a (settleF (exL (up2 f 4 8 0) w 0 (q0 - p0) 8) w d0) (exR (up2 f 4 8 0) r w p0 q0 0) kn ++ Y) := by
  have hr1 := h1 w hw
  refine Cm.of [some (.ref (a 0 0)), some (.int (nI w)), some (.int (nI p0)), some (.int (nI q0)), some (.int (nI d0))] pn_X2 rfl (Nat.le_of_ble_eq_true rfl) ?_
  intro p e s m args below meth c A C hE hr hnt hn
  refine r_aload_n C dX2_takeOut_0 rfl ?_
  refine s_get C 2 (by decide) qf_X2_29 rfl rfl dX2_takeOut_1 ?_
  refine r_iconst (v := (nI 0)) C dX2_takeOut_4 (by decide) ?_
  refine p_putN hX C hE 4 (by first | omega | (simp [up2, *]; done) | (simp [up2, *]; omega) | (simp only [up2_eq]; omega)) (by decide) (by decide) qn_X2_50 rfl rfl rfl dX2_takeOut_5 ?_
  refine r_aload_n C dX2_takeOut_8 rfl ?_
  refine r_iload_n C dX2_takeOut_9 rfl ?_
  refine r_iload_n C dX2_takeOut_10 rfl ?_
  refine r_iload_n C dX2_takeOut_11 rfl ?_
  refine d_Vv (st := []) hX.stb C hE (C_exchange (f := (up2 f 4 8 0)) (r := r) (kn := kn) (w := w) (p0 := p0) (q0 := q0) hX (by first | omega | (simp [up2, *]; done) | (simp [up2, *]; omega) | (simp only [up2_eq]; omega)) h1 hG hI hI8 h38 hp (show f 3 w + q0 ≤ up2 f 4 8 0 4 (f 1 w) by rw [up2_i _ _ _ _ (by omega)]; exact hq) (show up2 f 4 8 0 4 (f 1 w) ≤ 12 by rw [up2_i _ _ _ _ (by omega)]; omega) (show up2 f 4 8 0 4 8 ≤ 12 by rw [up2_eq]; omega) (show up2 f 4 8 0 4 (f 1 w) + up2 f 4 8 0 4 8 ≤ 12 + (q0 - p0) by rw [up2_i _ _ _ _ (by omega), up2_eq]; omega) (fun i hi h => by have h6 := hhol i hi h; rw [up2_i _ _ _ _ (by omega)]; omega)) pk_X2_exchangeForSpare qm_X2_83 0 6 rfl rfl wc_0 rfl rfl (Nat.le_of_ble_eq_true rfl) dX2_takeOut_12 ⟨Nat.le_of_ble_eq_true rfl, Nat.le_of_ble_eq_true rfl⟩ ⟨Nat.le_of_ble_eq_true rfl, Nat.le_of_ble_eq_true rfl⟩ ?_
  refine r_w (congrArg (fun z => WC cy a z (exR (up2 f 4 8 0) r w p0 q0 ((up2 f 4 8 0) 4 8)) kn ++ Y) (show exL (up2 f 4 8 0) w (up2 f 4 8 0 4 8) (q0 - p0) 8 = exL (up2 f 4 8 0) w 0 (q0 - p0) 8 by rw [up2_eq])) ?_
  refine r_w (congrArg (fun z => WC cy a (exL (up2 f 4 8 0) w 0 (q0 - p0) 8) z kn ++ Y) (show _ = exR (up2 f 4 8 0) r w p0 q0 0 by rw [up2_eq])) ?_
  refine r_aload_n C dX2_takeOut_15 rfl ?_
  refine r_iload_n C dX2_takeOut_16 rfl ?_
  refine r_iload C dX2_takeOut_17 rfl ?_
  refine d_Vv (st := []) hX.stb C hE (C_settle (f := (exL (up2 f 4 8 0) w 0 (q0 - p0) 8)) (r := (exR (up2 f 4 8 0) r w p0 q0 0)) (kn := kn) (w := w) (d0 := d0) hX (by first | omega | (simp [up2, *]; done) | (simp [up2, *]; omega) | (simp only [up2_eq]; omega)) (by first | omega | (simp [up2, *]; done) | (simp [up2, *]; omega) | (simp only [up2_eq]; omega)) h1 hU hG) pk_X2_settle qm_X2_87 0 6 rfl rfl wc_0 rfl rfl (Nat.le_of_ble_eq_true rfl) dX2_takeOut_19 ⟨Nat.le_of_ble_eq_true rfl, Nat.le_of_ble_eq_true rfl⟩ ⟨Nat.le_of_ble_eq_true rfl, Nat.le_of_ble_eq_true rfl⟩ ?_
  exact r_vret C hr dX2_takeOut_22 ⟨rfl, rfl⟩ (Nat.le_of_ble_eq_true rfl) (Nat.le_of_ble_eq_true rfl)
theorem dX2_becomeSpare_0 : decode cX2_becomeSpare 0 = .ok (.aload_n 0, 1) := dqo_42 (kb_of ke_X2_becomeSpare 0 rfl)
theorem dX2_becomeSpare_1 : decode cX2_becomeSpare 1 = .ok (.getfield 11, 3) := dqo_180 0 11 (kb_of ke_X2_becomeSpare 1 rfl) (kb_of ke_X2_becomeSpare 2 rfl) (kb_of ke_X2_becomeSpare 3 rfl)
theorem dX2_becomeSpare_4 : decode cX2_becomeSpare 4 = .ok (.iload_n 1, 1) := dqo_27 (kb_of ke_X2_becomeSpare 4 rfl)
theorem dX2_becomeSpare_5 : decode cX2_becomeSpare 5 = .ok (.aaload, 1) := dqo_50 (kb_of ke_X2_becomeSpare 5 rfl)
theorem dX2_becomeSpare_6 : decode cX2_becomeSpare 6 = .ok (.aload_n 0, 1) := dqo_42 (kb_of ke_X2_becomeSpare 6 rfl)
theorem dX2_becomeSpare_7 : decode cX2_becomeSpare 7 = .ok (.getfield 29, 3) := dqo_180 0 29 (kb_of ke_X2_becomeSpare 7 rfl) (kb_of ke_X2_becomeSpare 8 rfl) (kb_of ke_X2_becomeSpare 9 rfl)
theorem dX2_becomeSpare_10 : decode cX2_becomeSpare 10 = .ok (.invokevirtual 79, 3) := dqo_182 0 79 (kb_of ke_X2_becomeSpare 10 rfl) (kb_of ke_X2_becomeSpare 11 rfl) (kb_of ke_X2_becomeSpare 12 rfl)
theorem dX2_becomeSpare_13 : decode cX2_becomeSpare 13 = .ok (.aload_n 0, 1) := dqo_42 (kb_of ke_X2_becomeSpare 13 rfl)
theorem dX2_becomeSpare_14 : decode cX2_becomeSpare 14 = .ok (.iload_n 1, 1) := dqo_27 (kb_of ke_X2_becomeSpare 14 rfl)
theorem dX2_becomeSpare_15 : decode cX2_becomeSpare 15 = .ok (.iconst (-1), 1) := dqo_2 (kb_of ke_X2_becomeSpare 15 rfl)
theorem dX2_becomeSpare_16 : decode cX2_becomeSpare 16 = .ok (.invokevirtual 87, 3) := dqo_182 0 87 (kb_of ke_X2_becomeSpare 16 rfl) (kb_of ke_X2_becomeSpare 17 rfl) (kb_of ke_X2_becomeSpare 18 rfl)
theorem dX2_becomeSpare_19 : decode cX2_becomeSpare 19 = .ok (.aload_n 0, 1) := dqo_42 (kb_of ke_X2_becomeSpare 19 rfl)
theorem dX2_becomeSpare_20 : decode cX2_becomeSpare 20 = .ok (.getfield 11, 3) := dqo_180 0 11 (kb_of ke_X2_becomeSpare 20 rfl) (kb_of ke_X2_becomeSpare 21 rfl) (kb_of ke_X2_becomeSpare 22 rfl)
theorem dX2_becomeSpare_23 : decode cX2_becomeSpare 23 = .ok (.iload_n 1, 1) := dqo_27 (kb_of ke_X2_becomeSpare 23 rfl)
theorem dX2_becomeSpare_24 : decode cX2_becomeSpare 24 = .ok (.aaload, 1) := dqo_50 (kb_of ke_X2_becomeSpare 24 rfl)
theorem dX2_becomeSpare_25 : decode cX2_becomeSpare 25 = .ok (.getfield 50, 3) := dqo_180 0 50 (kb_of ke_X2_becomeSpare 25 rfl) (kb_of ke_X2_becomeSpare 26 rfl) (kb_of ke_X2_becomeSpare 27 rfl)
theorem dX2_becomeSpare_28 : decode cX2_becomeSpare 28 = .ok (.ireturn, 1) := dqo_172 (kb_of ke_X2_becomeSpare 28 rfl)
set_option maxRecDepth 100000 in
set_option maxHeartbeats 4000000 in
theorem C_becomeSpare {l : Launch} {D : va_G} {cy : Nat → ClassId} {X : (Nat → Prop) → State → Heap → Prop} {a f : Nat → Nat → Nat} {r : Nat → Nat → Int32} {kn : Int32} {Y : va_W} {i : Nat} (hX : EnvX X) (hi4 : i < 4) (h0 : f 0 i < 7) (h3i : f 3 i = 0) (h1 : ∀ i, i < 8 → f 1 i < 4) (hG : ∀ i, i < 8 → f 2 i < 8 ∨ f 2 i = 4294967295) (hU : ∀ k, k < 3 → f 6 k < 8) (hI8 : f 0 8 < 7) (h38 : f 3 8 = 0) (h48 : f 4 8 ≤ 12) : Cd l D cy X yX2_becomeSpare cX2_becomeSpare 2 (some .int) (rmz 2 90) [.ref (a 0 0), .int (nI i)] (WC cy a f r kn ++ Y) (some (.int (nI (f 4 8)))) (WC cy a (settleF (up2 f 4 i (f 4 8)) i 4294967295) (cpy2 r (f 0 8) (f 3 8) (f 0 i) (f 3 i) (f 4 8)) kn ++ Y) := by
  refine Cm.of [some (.ref (a 0 0)), some (.int (nI i))] pn_X2 rfl (Nat.le_of_ble_eq_true rfl) ?_
  intro p e s m args below meth c A C hE hr hnt hn
  refine r_aload_n C dX2_becomeSpare_0 rfl ?_
  refine s_get C 0 (by decide) qf_X2_11 rfl rfl dX2_becomeSpare_1 ?_
  refine r_iload_n C dX2_becomeSpare_4 rfl ?_
  refine s_parts C (by first | omega | (simp [up2, *]; done) | (simp [up2, *]; omega) | (simp only [up2_eq]; omega)) dX2_becomeSpare_5 ?_
  refine r_aload_n C dX2_becomeSpare_6 rfl ?_
  refine s_get C 2 (by decide) qf_X2_29 rfl rfl dX2_becomeSpare_7 ?_
  refine d_Vv (st := []) hX.stb C hE (C_becomeLike (f := f) (r := r) (kn := kn) (i := i) (j := 8) hX (by first | omega | (simp [up2, *]; done) | (simp [up2, *]; omega) | (simp only [up2_eq]; omega)) (by first | omega | (simp [up2, *]; done) | (simp [up2, *]; omega) | (simp only [up2_eq]; omega)) (by first | omega | (simp [up2, *]; done) | (simp [up2, *]; omega) | (simp only [up2_eq]; omega)) (by first | omega | (simp [up2, *]; done) | (simp [up2, *]; omega) | (simp only [up2_eq]; omega)) (by omega) (by omega)) pk_X1_becomeLike qm_X2_79 (3 + i) 5 rfl rfl (wc_p (by first | omega | (simp [up2, *]; done) | (simp [up2, *]; omega) | (simp only [up2_eq]; omega))) rfl rfl (Nat.le_of_ble_eq_true rfl) dX2_becomeSpare_10 ⟨Nat.le_of_ble_eq_true rfl, Nat.le_of_ble_eq_true rfl⟩ ⟨Nat.le_of_ble_eq_true rfl, Nat.le_of_ble_eq_true rfl⟩ ?_
  refine r_aload_n C dX2_becomeSpare_13 rfl ?_
  refine r_iload_n C dX2_becomeSpare_14 rfl ?_
  refine r_iconst (v := (nI 4294967295)) C dX2_becomeSpare_15 (by decide) ?_
  refine d_Vv (st := []) hX.stb C hE (C_settle (f := (up2 f 4 i (f 4 8))) (r := (cpy2 r (f 0 8) (f 3 8) (f 0 i) (f 3 i) (f 4 8))) (kn := kn) (w := i) (d0 := 4294967295) hX (by first | omega | (simp [up2, *]; done) | (simp [up2, *]; omega) | (simp only [up2_eq]; omega)) (by first | omega | (simp [up2, *]; done) | (simp [up2, *]; omega) | (simp only [up2_eq]; omega)) h1 hU hG) pk_X2_settle qm_X2_87 0 6 rfl rfl wc_0 rfl rfl (Nat.le_of_ble_eq_true rfl) dX2_becomeSpare_16 ⟨Nat.le_of_ble_eq_true rfl, Nat.le_of_ble_eq_true rfl⟩ ⟨Nat.le_of_ble_eq_true rfl, Nat.le_of_ble_eq_true rfl⟩ ?_
  refine r_aload_n C dX2_becomeSpare_19 rfl ?_
  refine s_get C 0 (by decide) qf_X2_11 rfl rfl dX2_becomeSpare_20 ?_
  refine r_iload_n C dX2_becomeSpare_23 rfl ?_
  refine s_parts C (by first | omega | (simp [up2, *]; done) | (simp [up2, *]; omega) | (simp only [up2_eq]; omega)) dX2_becomeSpare_24 ?_
  refine p_getN (v := .int (nI (f 4 8))) hX C hE 4 (by first | omega | (simp [up2, *]; done) | (simp [up2, *]; omega) | (simp only [up2_eq]; omega)) (by decide) qn_X2_50 rfl (congrArg (fun z => some (Value.int (nI z))) (show (up2 f 4 i (f 4 8)) 4 i = f 4 8 by simp [up2, exL_at, dmF_at, *])) dX2_becomeSpare_25 ?_
  exact r_iret C hr dX2_becomeSpare_28 ⟨rfl, rfl⟩ (Nat.le_of_ble_eq_true rfl) (Nat.le_of_ble_eq_true rfl)
theorem pk_X1_has : PkV RX1 yX1_has cX1_has 2 (some .boolean) 1 := ⟨⟨qi_X1_has, qs_X1_has, qz_X1, qc_X1_has⟩, rfl, mh_X1.1, mh_X1.2, pd_8⟩
theorem pk_X2_becomeSpare : PkV RX2 yX2_becomeSpare cX2_becomeSpare 2 (some .int) 1 := ⟨⟨qi_X2_becomeSpare, qs_X2_becomeSpare, qz_X2, qc_X2_becomeSpare⟩, rfl, mh_X2.1, mh_X2.2, pd_1⟩
theorem dX2_sift_0 : decode cX2_sift 0 = .ok (.aload_n 0, 1) := dqo_42 (kb_X2_sift_0 0 rfl)
theorem dX2_sift_1 : decode cX2_sift 1 = .ok (.getfield 11, 3) := dqo_180 0 11 (kb_X2_sift_0 1 rfl) (kb_X2_sift_0 2 rfl) (kb_X2_sift_0 3 rfl)
theorem dX2_sift_4 : decode cX2_sift 4 = .ok (.iload_n 1, 1) := dqo_27 (kb_X2_sift_0 4 rfl)
theorem dX2_sift_5 : decode cX2_sift 5 = .ok (.aaload, 1) := dqo_50 (kb_X2_sift_0 5 rfl)
theorem dX2_sift_6 : decode cX2_sift 6 = .ok (.getfield 50, 3) := dqo_180 0 50 (kb_X2_sift_0 6 rfl) (kb_X2_sift_0 7 rfl) (kb_X2_sift_0 8 rfl)
theorem dX2_sift_9 : decode cX2_sift 9 = .ok (.istore 4, 2) := dqo_54 4 (kb_X2_sift_0 9 rfl) (kb_X2_sift_0 10 rfl)
theorem dX2_sift_11 : decode cX2_sift 11 = .ok (.aload_n 0, 1) := dqo_42 (kb_X2_sift_0 11 rfl)
theorem dX2_sift_12 : decode cX2_sift 12 = .ok (.getfield 29, 3) := dqo_180 0 29 (kb_X2_sift_0 12 rfl) (kb_X2_sift_0 13 rfl) (kb_X2_sift_0 14 rfl)
theorem dX2_sift_15 : decode cX2_sift 15 = .ok (.iconst 0, 1) := dqo_3 (kb_X2_sift_0 15 rfl)
theorem dX2_sift_16 : decode cX2_sift 16 = .ok (.putfield 50, 3) := dqo_181 0 50 (kb_X2_sift_0 16 rfl) (kb_X2_sift_0 17 rfl) (kb_X2_sift_0 18 rfl)
theorem dX2_sift_19 : decode cX2_sift 19 = .ok (.iconst 0, 1) := dqo_3 (kb_X2_sift_0 19 rfl)
theorem dX2_sift_20 : decode cX2_sift 20 = .ok (.istore 5, 2) := dqo_54 5 (kb_X2_sift_0 20 rfl) (kb_X2_sift_0 21 rfl)
theorem dX2_sift_22 : decode cX2_sift 22 = .ok (.iload 5, 2) := dqo_21 5 (kb_X2_sift_0 22 rfl) (kb_X2_sift_0 23 rfl)
theorem dX2_sift_24 : decode cX2_sift 24 = .ok (.iload 4, 2) := dqo_21 4 (kb_X2_sift_0 24 rfl) (kb_X2_sift_0 25 rfl)
theorem dX2_sift_26 : decode cX2_sift 26 = .ok (.if_icmp .ge 46, 3) := dqo_162 0 46 (by decide) (kb_X2_sift_0 26 rfl) (kb_X2_sift_0 27 rfl) (kb_X2_sift_0 28 rfl)
theorem dX2_sift_29 : decode cX2_sift 29 = .ok (.aload_n 0, 1) := dqo_42 (kb_X2_sift_0 29 rfl)
theorem dX2_sift_30 : decode cX2_sift 30 = .ok (.getfield 11, 3) := dqo_180 0 11 (kb_X2_sift_0 30 rfl) (kb_X2_sift_0 31 rfl) (kb_X2_sift_0 32 rfl)
theorem dX2_sift_33 : decode cX2_sift 33 = .ok (.iload_n 1, 1) := dqo_27 (kb_X2_sift_0 33 rfl)
theorem dX2_sift_34 : decode cX2_sift 34 = .ok (.aaload, 1) := dqo_50 (kb_X2_sift_0 34 rfl)
theorem dX2_sift_35 : decode cX2_sift 35 = .ok (.iload 5, 2) := dqo_21 5 (kb_X2_sift_0 35 rfl) (kb_X2_sift_0 36 rfl)
theorem dX2_sift_37 : decode cX2_sift 37 = .ok (.invokevirtual 65, 3) := dqo_182 0 65 (kb_X2_sift_0 37 rfl) (kb_X2_sift_0 38 rfl) (kb_X2_sift_0 39 rfl)
theorem dX2_sift_40 : decode cX2_sift 40 = .ok (.istore 6, 2) := dqo_54 6 (kb_X2_sift_0 40 rfl) (kb_X2_sift_0 41 rfl)
theorem dX2_sift_42 : decode cX2_sift 42 = .ok (.aload_n 0, 1) := dqo_42 (kb_X2_sift_0 42 rfl)
theorem dX2_sift_43 : decode cX2_sift 43 = .ok (.getfield 11, 3) := dqo_180 0 11 (kb_X2_sift_0 43 rfl) (kb_X2_sift_0 44 rfl) (kb_X2_sift_0 45 rfl)
theorem dX2_sift_46 : decode cX2_sift 46 = .ok (.iload_n 2, 1) := dqo_28 (kb_X2_sift_0 46 rfl)
theorem dX2_sift_47 : decode cX2_sift 47 = .ok (.aaload, 1) := dqo_50 (kb_X2_sift_0 47 rfl)
theorem dX2_sift_48 : decode cX2_sift 48 = .ok (.iload 6, 2) := dqo_21 6 (kb_X2_sift_0 48 rfl) (kb_X2_sift_0 49 rfl)
theorem dX2_sift_50 : decode cX2_sift 50 = .ok (.invokevirtual 144, 3) := dqo_182 0 144 (kb_X2_sift_0 50 rfl) (kb_X2_sift_0 51 rfl) (kb_X2_sift_0 52 rfl)
theorem dX2_sift_53 : decode cX2_sift 53 = .ok (.iload_n 3, 1) := dqo_29 (kb_X2_sift_0 53 rfl)
theorem dX2_sift_54 : decode cX2_sift 54 = .ok (.if_icmp .ne 12, 3) := dqo_160 0 12 (by decide) (kb_X2_sift_0 54 rfl) (kb_X2_sift_0 55 rfl) (kb_X2_sift_0 56 rfl)
theorem dX2_sift_57 : decode cX2_sift 57 = .ok (.aload_n 0, 1) := dqo_42 (kb_X2_sift_0 57 rfl)
theorem dX2_sift_58 : decode cX2_sift 58 = .ok (.getfield 29, 3) := dqo_180 0 29 (kb_X2_sift_0 58 rfl) (kb_X2_sift_0 59 rfl) (kb_X2_sift_0 60 rfl)
theorem dX2_sift_61 : decode cX2_sift 61 = .ok (.iload 6, 2) := dqo_21 6 (kb_X2_sift_0 61 rfl) (kb_X2_sift_0 62 rfl)
theorem dX2_sift_63 : decode cX2_sift 63 = .ok (.invokevirtual 141, 3) := dqo_182 0 141 (kb_X2_sift_0 63 rfl) (kb_X2_sift_1 0 rfl) (kb_X2_sift_1 1 rfl)
theorem dX2_sift_66 : decode cX2_sift 66 = .ok (.iinc 5 1, 3) := dqo_132 5 1 (by decide) (kb_X2_sift_1 2 rfl) (kb_X2_sift_1 3 rfl) (kb_X2_sift_1 4 rfl)
theorem dX2_sift_69 : decode cX2_sift 69 = .ok (.goto (-47), 3) := dqo_167 255 209 (by decide) (kb_X2_sift_1 5 rfl) (kb_X2_sift_1 6 rfl) (kb_X2_sift_1 7 rfl)
theorem dX2_sift_72 : decode cX2_sift 72 = .ok (.iload 4, 2) := dqo_21 4 (kb_X2_sift_1 8 rfl) (kb_X2_sift_1 9 rfl)
theorem dX2_sift_74 : decode cX2_sift 74 = .ok (.aload_n 0, 1) := dqo_42 (kb_X2_sift_1 10 rfl)
theorem dX2_sift_75 : decode cX2_sift 75 = .ok (.iload_n 1, 1) := dqo_27 (kb_X2_sift_1 11 rfl)
theorem dX2_sift_76 : decode cX2_sift 76 = .ok (.invokevirtual 136, 3) := dqo_182 0 136 (kb_X2_sift_1 12 rfl) (kb_X2_sift_1 13 rfl) (kb_X2_sift_1 14 rfl)
theorem dX2_sift_79 : decode cX2_sift 79 = .ok (.isub, 1) := dqo_100 (kb_X2_sift_1 15 rfl)
theorem dX2_sift_80 : decode cX2_sift 80 = .ok (.ireturn, 1) := dqo_172 (kb_X2_sift_1 16 rfl)
set_option maxRecDepth 100000 in
set_option maxHeartbeats 4000000 in
theorem C_sift {l : Launch} {D : va_G} {cy : Nat → ClassId} {X : (Nat → Prop) → State → Heap → Prop} {a f : Nat → Nat → Nat} {r : Nat → Nat → Int32} {kn : Int32} {Y : va_W} {i : Nat} {j : Nat} {b : Nat} (hX : EnvX X) (hi4 : i < 4) (h0 : f 0 i < 7) (h3i : f 3 i = 0) (h1 : ∀ i, i < 8 → f 1 i < 4) (hG : ∀ i, i < 8 → f 2 i < 8 ∨ f 2 i = 4294967295) (hU : ∀ k, k < 3 → f 6 k < 8) (hI8 : f 0 8 < 7) (h38 : f 3 8 = 0) (hj4 : j < 4) (h0j : f 0 j < 7) (h3j : f 3 j = 0) (h4i : f 4 i ≤ 12) (h4j : f 4 j ≤ 12) (hni : f 0 i ≠ f 0 8) (hnj : f 0 j ≠ f 0 8) (hb1 : b ≤ 1) : Cd l D cy X yX2_sift cX2_sift 7 (some .int) (rmz 3 120) [.ref (a 0 0), .int (nI i), .int (nI j), .int (nI b)] (WC cy a f r kn ++ Y) (some (.int (nI (f 4 i - siC (hsP r f j) b (fun q => r (f 0 i) (f 3 i + q)) (f 4 i) 0 0)))) (WC cy a (settleF (up2 (up2 f 4 8 (siC (hsP r f j) b (fun q => r (f 0 i) (f 3 i + q)) (f 4 i) 0 0)) 4 i (siC (hsP r f j) b (fun q => r (f 0 i) (f 3 i + q)) (f 4 i) 0 0)) i 4294967295) (cpy2 (siR (hsP r f j) b (fun q => r (f 0 i) (f 3 i + q)) (f 0 8) (f 4 i) 0 0 r) (f 0 8) (f 3 8) (f 0 i) (f 3 i) (siC (hsP r f j) b (fun q => r (f 0 i) (f 3 i + q)) (f 4 i) 0 0)) kn ++ Y) := by
  refine Cm.of [some (.ref (a 0 0)), some (.int (nI i)), some (.int (nI j)), some (.int (nI b)), none, none, none] pn_X2 rfl (Nat.le_of_ble_eq_true rfl) ?_
  intro p e s m args below meth c A C hE hr hnt hn
  refine r_aload_n C dX2_sift_0 rfl ?_
  refine s_get C 0 (by decide) qf_X2_11 rfl rfl dX2_sift_1 ?_
  refine r_iload_n C dX2_sift_4 rfl ?_
  refine s_parts C (by first | omega | (simp [up2, *]; done) | (simp [up2, *]; omega) | (simp only [up2_eq]; omega)) dX2_sift_5 ?_
  refine p_getN (v := .int (nI (f 4 i))) hX C hE 4 (by first | omega | (simp [up2, *]; done) | (simp [up2, *]; omega) | (simp only [up2_eq]; omega)) (by decide) qn_X2_50 rfl rfl dX2_sift_6 ?_
  refine r_istore C dX2_sift_9 (by decide) rfl ?_
  refine r_aload_n C dX2_sift_11 rfl ?_
  refine s_get C 2 (by decide) qf_X2_29 rfl rfl dX2_sift_12 ?_
  refine r_iconst (v := (nI 0)) C dX2_sift_15 (by decide) ?_
  refine p_putN hX C hE 4 (by first | omega | (simp [up2, *]; done) | (simp [up2, *]; omega) | (simp only [up2_eq]; omega)) (by decide) (by decide) qn_X2_50 rfl rfl rfl dX2_sift_16 ?_
  refine r_iconst (v := (nI 0)) C dX2_sift_19 (by decide) ?_
  refine r_istore C dX2_sift_20 (by decide) rfl ?_
  have L22 : ∀ (d : Nat) (k : Nat) (c0 : Nat) (r1 : Nat → Nat → Int32), (hk : k + d = f 4 i) → (hc0 : c0 ≤ k) → (hr1 : ∀ z, z ≠ f 0 8 → r1 z = r z) → (hF : siC (hsP r f j) b (fun q => r (f 0 i) (f 3 i + q)) d k c0 = siC (hsP r f j) b (fun q => r (f 0 i) (f 3 i + q)) (f 4 i) 0 0) → (hF2 : siR (hsP r f j) b (fun q => r (f 0 i) (f 3 i + q)) (f 0 8) d k c0 r1 = siR (hsP r f j) b (fun q => r (f 0 i) (f 3 i + q)) (f 0 8) (f 4 i) 0 0 r) → vC p l e (rmz 3 120) s m args below meth c D A (vx_MQ below (vG (fun v1 w1 => v1 = (some (.int (nI (f 4 i - siC (hsP r f j) b (fun q => r (f 0 i) (f 3 i + q)) (f 4 i) 0 0)))) ∧ w1 = WC cy a (settleF (up2 (up2 f 4 8 (siC (hsP r f j) b (fun q => r (f 0 i) (f 3 i + q)) (f 4 i) 0 0)) 4 i (siC (hsP r f j) b (fun q => r (f 0 i) (f 3 i + q)) (f 4 i) 0 0)) i 4294967295) (cpy2 (siR (hsP r f j) b (fun q => r (f 0 i) (f 3 i + q)) (f 0 8) (f 4 i) 0 0 r) (f 0 8) (f 3 8) (f 0 i) (f 3 i) (siC (hsP r f j) b (fun q => r (f 0 i) (f 3 i + q)) (f 4 i) 0 0)) kn ++ Y) D vwCl A) (vGX (fun _ => False) D vwCl (WC cy a f r kn ++ Y) A) args s (rmz 3 120).cells (rmz 3 120).slots A) 7 0 0 (WC cy a (up2 f 4 8 c0) r1 kn ++ Y) [some (.ref (a 0 0)), some (.int (nI i)), some (.int (nI j)), some (.int (nI b)), some (.int (nI (f 4 i))), some (.int (nI k)), none] 22 [] := by
    intro d
    induction d with
    | zero =>
      intro k c0 r1 hk hc0 hr1 hF hF2
      refine r_iload C dX2_sift_22 rfl ?_
      refine r_iload C dX2_sift_24 rfl ?_
      refine r_icN_ge (a := k) (b := (f 4 i)) (tgt := 72) C (by first | omega | (simp [up2, *]; done) | (simp [up2, *]; omega) | (simp only [up2_eq]; omega)) (by first | omega | (simp [up2, *]; done) | (simp [up2, *]; omega) | (simp only [up2_eq]; omega)) dX2_sift_26 (by decide) (fun h26_1 => ?_) (fun h26_1 => ?_)
      · first
        | exfalso; first | omega | contradiction
        | skip
          have e1 : c0 = siC (hsP r f j) b (fun q => r (f 0 i) (f 3 i + q)) (f 4 i) 0 0 := hF
          have e2 : r1 = siR (hsP r f j) b (fun q => r (f 0 i) (f 3 i + q)) (f 0 8) (f 4 i) 0 0 r := hF2
          subst e1
          subst e2
          have hle := siC_le (hsP r f j) b (fun q => r (f 0 i) (f 3 i + q)) (f 4 i) 0 0
          refine r_iload C dX2_sift_72 rfl ?_
          refine r_aload_n C dX2_sift_74 rfl ?_
          refine r_iload_n C dX2_sift_75 rfl ?_
          refine d_V (st := [.int (nI (f 4 i))]) hX.stb C hE (C_becomeSpare (f := (up2 f 4 8 (siC (hsP r f j) b (fun q => r (f 0 i) (f 3 i + q)) (f 4 i) 0 0))) (r := (siR (hsP r f j) b (fun q => r (f 0 i) (f 3 i + q)) (f 0 8) (f 4 i) 0 0 r)) (kn := kn) (i := i) hX (by first | omega | (simp [up2, *]; done) | (simp [up2, *]; omega) | (simp only [up2_eq]; omega)) (by first | omega | (simp [up2, *]; done) | (simp [up2, *]; omega) | (simp only [up2_eq]; omega)) (by first | omega | (simp [up2, *]; done) | (simp [up2, *]; omega) | (simp only [up2_eq]; omega)) (by first | omega | (simp [up2, *]; done) | (simp [up2, *]; omega) | (simp only [up2_eq]; omega)) (by first | omega | (simp [up2, *]; done) | (simp [up2, *]; omega) | (simp only [up2_eq]; omega)) (by first | omega | (simp [up2, *]; done) | (simp [up2, *]; omega) | (simp only [up2_eq]; omega)) (by first | omega | (simp [up2, *]; done) | (simp [up2, *]; omega) | (simp only [up2_eq]; omega)) (by first | omega | (simp [up2, *]; done) | (simp [up2, *]; omega) | (simp only [up2_eq]; omega)) (by first | omega | (simp [up2, *]; done) | (simp [up2, *]; omega) | (simp only [up2_eq]; omega))) pk_X2_becomeSpare qm_X2_136 0 6 rfl rfl wc_0 rfl rfl (Nat.le_of_ble_eq_true rfl) dX2_sift_76 ⟨Nat.le_of_ble_eq_true rfl, Nat.le_of_ble_eq_true rfl⟩ ⟨Nat.le_of_ble_eq_true rfl, Nat.le_of_ble_eq_true rfl⟩ ?_
          refine r_isubN C dX2_sift_79 (by first | omega | (simp [up2, *]; done) | (simp [up2, *]; omega) | (simp only [up2_eq]; omega)) ?_
          exact r_iret C hr dX2_sift_80 ⟨rfl, rfl⟩ (Nat.le_of_ble_eq_true rfl) (Nat.le_of_ble_eq_true rfl)
      · first
        | exfalso; first | omega | contradiction
        | skip
          refine r_aload_n C dX2_sift_29 rfl ?_
          refine s_get C 0 (by decide) qf_X2_11 rfl rfl dX2_sift_30 ?_
          refine r_iload_n C dX2_sift_33 rfl ?_
          refine s_parts C (by first | omega | (simp [up2, *]; done) | (simp [up2, *]; omega) | (simp only [up2_eq]; omega)) dX2_sift_34 ?_
          refine r_iload C dX2_sift_35 rfl ?_
          refine d_V (st := []) hX.stb C hE (C_itemAt (f := (up2 f 4 8 c0)) (r := r1) (kn := kn) (i := i) (k := k) hX (by first | omega | (simp [up2, *]; done) | (simp [up2, *]; omega) | (simp only [up2_eq]; omega)) (by first | omega | (simp [up2, *]; done) | (simp [up2, *]; omega) | (simp only [up2_eq]; omega)) (by first | omega | (simp [up2, *]; done) | (simp [up2, *]; omega) | (simp only [up2_eq]; omega))) pk_X1_itemAt qm_X2_65 (3 + i) 5 rfl rfl (wc_p (by first | omega | (simp [up2, *]; done) | (simp [up2, *]; omega) | (simp only [up2_eq]; omega))) rfl rfl (Nat.le_of_ble_eq_true rfl) dX2_sift_37 ⟨Nat.le_of_ble_eq_true rfl, Nat.le_of_ble_eq_true rfl⟩ ⟨Nat.le_of_ble_eq_true rfl, Nat.le_of_ble_eq_true rfl⟩ ?_
          rw [show r1 (up2 f 4 8 c0 0 i) (up2 f 4 8 c0 3 i + k) = r (f 0 i) (f 3 i + k) from congrFun (hr1 (f 0 i) hni) (f 3 i + k)]
          refine r_istore C dX2_sift_40 (by decide) rfl ?_
          refine r_aload_n C dX2_sift_42 rfl ?_
          refine s_get C 0 (by decide) qf_X2_11 rfl rfl dX2_sift_43 ?_
          refine r_iload_n C dX2_sift_46 rfl ?_
          refine s_parts C (by first | omega | (simp [up2, *]; done) | (simp [up2, *]; omega) | (simp only [up2_eq]; omega)) dX2_sift_47 ?_
          refine r_iload C dX2_sift_48 rfl ?_
          refine d_V (st := []) hX.stb C hE (C_has (f := (up2 f 4 8 c0)) (r := r1) (kn := kn) (i := j) (x := ((r (f 0 i) (f 3 i + k)))) hX (by first | omega | (simp [up2, *]; done) | (simp [up2, *]; omega) | (simp only [up2_eq]; omega)) (by first | omega | (simp [up2, *]; done) | (simp [up2, *]; omega) | (simp only [up2_eq]; omega)) (by rw [show up2 f 4 8 c0 4 j = f 4 j from up2_i _ _ _ _ (show j ≠ 8 by omega)]; show f 3 j + f 4 j ≤ 12; omega)) pk_X1_has qm_X2_144 (3 + j) 5 rfl rfl (wc_p (by first | omega | (simp [up2, *]; done) | (simp [up2, *]; omega) | (simp only [up2_eq]; omega))) rfl rfl (Nat.le_of_ble_eq_true rfl) dX2_sift_50 ⟨Nat.le_of_ble_eq_true rfl, Nat.le_of_ble_eq_true rfl⟩ ⟨Nat.le_of_ble_eq_true rfl, Nat.le_of_ble_eq_true rfl⟩ ?_
          refine r_eqi (y := nI (hsP r f j (r (f 0 i) (f 3 i + k)))) (by rw [show r1 (up2 f 4 8 c0 0 j) = r (f 0 j) from hr1 (f 0 j) hnj, show up2 f 4 8 c0 4 j = f 4 j from up2_i _ _ _ _ (show j ≠ 8 by omega)]; rfl) ?_
          refine r_iload_n C dX2_sift_53 rfl ?_
          refine r_icN_ne (a := (hsP r f j (r (f 0 i) (f 3 i + k)))) (b := b) (tgt := 66) C (by unfold hsP; split <;> omega) (by first | omega | (simp [up2, *]; done) | (simp [up2, *]; omega) | (simp only [up2_eq]; omega)) dX2_sift_54 (by decide) (fun h54_2 => ?_) (fun h54_2 => ?_)
          · first
            | exfalso; first | omega | contradiction
            | skip
              have hb9 := h54_2
              refine r_iincN C dX2_sift_66 rfl (by decide) rfl ?_
              refine r_goto (tgt := 22) C dX2_sift_69 (by decide) ?_
              refine r_drop 6 ?_
              exact (Nat.not_lt_zero _ (by omega)).elim
          · first
            | exfalso; first | omega | contradiction
            | skip
              have hb9 := h54_2
              refine r_aload_n C dX2_sift_57 rfl ?_
              refine s_get C 2 (by decide) qf_X2_29 rfl rfl dX2_sift_58 ?_
              refine r_iload C dX2_sift_61 rfl ?_
              refine d_Vv (st := []) hX.stb C hE (C_append (f := (up2 f 4 8 c0)) (r := r1) (kn := kn) (i := 8) (x := ((r (f 0 i) (f 3 i + k)))) hX (by first | omega | (simp [up2, *]; done) | (simp [up2, *]; omega) | (simp only [up2_eq]; omega)) (by first | omega | (simp [up2, *]; done) | (simp [up2, *]; omega) | (simp only [up2_eq]; omega)) (by first | omega | (simp [up2, *]; done) | (simp [up2, *]; omega) | (simp only [up2_eq]; omega))) pk_X1_append qm_X2_141 (3 + 8) 5 rfl rfl (wc_p (by first | omega | (simp [up2, *]; done) | (simp [up2, *]; omega) | (simp only [up2_eq]; omega))) rfl rfl (Nat.le_of_ble_eq_true rfl) dX2_sift_63 ⟨Nat.le_of_ble_eq_true rfl, Nat.le_of_ble_eq_true rfl⟩ ⟨Nat.le_of_ble_eq_true rfl, Nat.le_of_ble_eq_true rfl⟩ ?_
              refine r_iincN C dX2_sift_66 rfl (by decide) rfl ?_
              refine r_goto (tgt := 22) C dX2_sift_69 (by decide) ?_
              refine r_w (congrArg (fun z => WC cy a z (up2 r1 (f 0 8) (c0) ((r (f 0 i) (f 3 i + k)))) kn ++ Y) (up2_up2 f 4 8 c0 (c0 + 1))) ?_
              refine r_drop 6 ?_
              exact (Nat.not_lt_zero _ (by omega)).elim
    | succ d ih_L22 =>
      intro k c0 r1 hk hc0 hr1 hF hF2
      refine r_iload C dX2_sift_22 rfl ?_
      refine r_iload C dX2_sift_24 rfl ?_
      refine r_icN_ge (a := k) (b := (f 4 i)) (tgt := 72) C (by first | omega | (simp [up2, *]; done) | (simp [up2, *]; omega) | (simp only [up2_eq]; omega)) (by first | omega | (simp [up2, *]; done) | (simp [up2, *]; omega) | (simp only [up2_eq]; omega)) dX2_sift_26 (by decide) (fun h26_3 => ?_) (fun h26_3 => ?_)
      · first
        | exfalso; first | omega | contradiction
        | skip
          have e1 : c0 = siC (hsP r f j) b (fun q => r (f 0 i) (f 3 i + q)) (f 4 i) 0 0 := hF
          have e2 : r1 = siR (hsP r f j) b (fun q => r (f 0 i) (f 3 i + q)) (f 0 8) (f 4 i) 0 0 r := hF2
          subst e1
          subst e2
          have hle := siC_le (hsP r f j) b (fun q => r (f 0 i) (f 3 i + q)) (f 4 i) 0 0
          refine r_iload C dX2_sift_72 rfl ?_
          refine r_aload_n C dX2_sift_74 rfl ?_
          refine r_iload_n C dX2_sift_75 rfl ?_
          refine d_V (st := [.int (nI (f 4 i))]) hX.stb C hE (C_becomeSpare (f := (up2 f 4 8 (siC (hsP r f j) b (fun q => r (f 0 i) (f 3 i + q)) (f 4 i) 0 0))) (r := (siR (hsP r f j) b (fun q => r (f 0 i) (f 3 i + q)) (f 0 8) (f 4 i) 0 0 r)) (kn := kn) (i := i) hX (by first | omega | (simp [up2, *]; done) | (simp [up2, *]; omega) | (simp only [up2_eq]; omega)) (by first | omega | (simp [up2, *]; done) | (simp [up2, *]; omega) | (simp only [up2_eq]; omega)) (by first | omega | (simp [up2, *]; done) | (simp [up2, *]; omega) | (simp only [up2_eq]; omega)) (by first | omega | (simp [up2, *]; done) | (simp [up2, *]; omega) | (simp only [up2_eq]; omega)) (by first | omega | (simp [up2, *]; done) | (simp [up2, *]; omega) | (simp only [up2_eq]; omega)) (by first | omega | (simp [up2, *]; done) | (simp [up2, *]; omega) | (simp only [up2_eq]; omega)) (by first | omega | (simp [up2, *]; done) | (simp [up2, *]; omega) | (simp only [up2_eq]; omega)) (by first | omega | (simp [up2, *]; done) | (simp [up2, *]; omega) | (simp only [up2_eq]; omega)) (by first | omega | (simp [up2, *]; done) | (simp [up2, *]; omega) | (simp only [up2_eq]; omega))) pk_X2_becomeSpare qm_X2_136 0 6 rfl rfl wc_0 rfl rfl (Nat.le_of_ble_eq_true rfl) dX2_sift_76 ⟨Nat.le_of_ble_eq_true rfl, Nat.le_of_ble_eq_true rfl⟩ ⟨Nat.le_of_ble_eq_true rfl, Nat.le_of_ble_eq_true rfl⟩ ?_
          refine r_isubN C dX2_sift_79 (by first | omega | (simp [up2, *]; done) | (simp [up2, *]; omega) | (simp only [up2_eq]; omega)) ?_
          exact r_iret C hr dX2_sift_80 ⟨rfl, rfl⟩ (Nat.le_of_ble_eq_true rfl) (Nat.le_of_ble_eq_true rfl)
      · first
        | exfalso; first | omega | contradiction
        | skip
          refine r_aload_n C dX2_sift_29 rfl ?_
          refine s_get C 0 (by decide) qf_X2_11 rfl rfl dX2_sift_30 ?_
          refine r_iload_n C dX2_sift_33 rfl ?_
          refine s_parts C (by first | omega | (simp [up2, *]; done) | (simp [up2, *]; omega) | (simp only [up2_eq]; omega)) dX2_sift_34 ?_
          refine r_iload C dX2_sift_35 rfl ?_
          refine d_V (st := []) hX.stb C hE (C_itemAt (f := (up2 f 4 8 c0)) (r := r1) (kn := kn) (i := i) (k := k) hX (by first | omega | (simp [up2, *]; done) | (simp [up2, *]; omega) | (simp only [up2_eq]; omega)) (by first | omega | (simp [up2, *]; done) | (simp [up2, *]; omega) | (simp only [up2_eq]; omega)) (by first | omega | (simp [up2, *]; done) | (simp [up2, *]; omega) | (simp only [up2_eq]; omega))) pk_X1_itemAt qm_X2_65 (3 + i) 5 rfl rfl (wc_p (by first | omega | (simp [up2, *]; done) | (simp [up2, *]; omega) | (simp only [up2_eq]; omega))) rfl rfl (Nat.le_of_ble_eq_true rfl) dX2_sift_37 ⟨Nat.le_of_ble_eq_true rfl, Nat.le_of_ble_eq_true rfl⟩ ⟨Nat.le_of_ble_eq_true rfl, Nat.le_of_ble_eq_true rfl⟩ ?_
          rw [show r1 (up2 f 4 8 c0 0 i) (up2 f 4 8 c0 3 i + k) = r (f 0 i) (f 3 i + k) from congrFun (hr1 (f 0 i) hni) (f 3 i + k)]
          refine r_istore C dX2_sift_40 (by decide) rfl ?_
          refine r_aload_n C dX2_sift_42 rfl ?_
          refine s_get C 0 (by decide) qf_X2_11 rfl rfl dX2_sift_43 ?_
          refine r_iload_n C dX2_sift_46 rfl ?_
          refine s_parts C (by first | omega | (simp [up2, *]; done) | (simp [up2, *]; omega) | (simp only [up2_eq]; omega)) dX2_sift_47 ?_
          refine r_iload C dX2_sift_48 rfl ?_
          refine d_V (st := []) hX.stb C hE (C_has (f := (up2 f 4 8 c0)) (r := r1) (kn := kn) (i := j) (x := ((r (f 0 i) (f 3 i + k)))) hX (by first | omega | (simp [up2, *]; done) | (simp [up2, *]; omega) | (simp only [up2_eq]; omega)) (by first | omega | (simp [up2, *]; done) | (simp [up2, *]; omega) | (simp only [up2_eq]; omega)) (by rw [show up2 f 4 8 c0 4 j = f 4 j from up2_i _ _ _ _ (show j ≠ 8 by omega)]; show f 3 j + f 4 j ≤ 12; omega)) pk_X1_has qm_X2_144 (3 + j) 5 rfl rfl (wc_p (by first | omega | (simp [up2, *]; done) | (simp [up2, *]; omega) | (simp only [up2_eq]; omega))) rfl rfl (Nat.le_of_ble_eq_true rfl) dX2_sift_50 ⟨Nat.le_of_ble_eq_true rfl, Nat.le_of_ble_eq_true rfl⟩ ⟨Nat.le_of_ble_eq_true rfl, Nat.le_of_ble_eq_true rfl⟩ ?_
          refine r_eqi (y := nI (hsP r f j (r (f 0 i) (f 3 i + k)))) (by rw [show r1 (up2 f 4 8 c0 0 j) = r (f 0 j) from hr1 (f 0 j) hnj, show up2 f 4 8 c0 4 j = f 4 j from up2_i _ _ _ _ (show j ≠ 8 by omega)]; rfl) ?_
          refine r_iload_n C dX2_sift_53 rfl ?_
          refine r_icN_ne (a := (hsP r f j (r (f 0 i) (f 3 i + k)))) (b := b) (tgt := 66) C (by unfold hsP; split <;> omega) (by first | omega | (simp [up2, *]; done) | (simp [up2, *]; omega) | (simp only [up2_eq]; omega)) dX2_sift_54 (by decide) (fun h54_4 => ?_) (fun h54_4 => ?_)
          · first
            | exfalso; first | omega | contradiction
            | skip
              have hb9 := h54_4
              refine r_iincN C dX2_sift_66 rfl (by decide) rfl ?_
              refine r_goto (tgt := 22) C dX2_sift_69 (by decide) ?_
              refine r_drop 6 ?_
              exact ih_L22 (k + 1) c0 r1 (by omega) (by omega) hr1 (by rw [← hF]; simp only [siC]; rw [if_neg hb9]) (by rw [← hF2]; simp only [siR]; rw [if_neg hb9])
          · first
            | exfalso; first | omega | contradiction
            | skip
              have hb9 := h54_4
              refine r_aload_n C dX2_sift_57 rfl ?_
              refine s_get C 2 (by decide) qf_X2_29 rfl rfl dX2_sift_58 ?_
              refine r_iload C dX2_sift_61 rfl ?_
              refine d_Vv (st := []) hX.stb C hE (C_append (f := (up2 f 4 8 c0)) (r := r1) (kn := kn) (i := 8) (x := ((r (f 0 i) (f 3 i + k)))) hX (by first | omega | (simp [up2, *]; done) | (simp [up2, *]; omega) | (simp only [up2_eq]; omega)) (by first | omega | (simp [up2, *]; done) | (simp [up2, *]; omega) | (simp only [up2_eq]; omega)) (by first | omega | (simp [up2, *]; done) | (simp [up2, *]; omega) | (simp only [up2_eq]; omega))) pk_X1_append qm_X2_141 (3 + 8) 5 rfl rfl (wc_p (by first | omega | (simp [up2, *]; done) | (simp [up2, *]; omega) | (simp only [up2_eq]; omega))) rfl rfl (Nat.le_of_ble_eq_true rfl) dX2_sift_63 ⟨Nat.le_of_ble_eq_true rfl, Nat.le_of_ble_eq_true rfl⟩ ⟨Nat.le_of_ble_eq_true rfl, Nat.le_of_ble_eq_true rfl⟩ ?_
              refine r_iincN C dX2_sift_66 rfl (by decide) rfl ?_
              refine r_goto (tgt := 22) C dX2_sift_69 (by decide) ?_
              refine r_w (congrArg (fun z => WC cy a z (up2 r1 (f 0 8) (c0) ((r (f 0 i) (f 3 i + k)))) kn ++ Y) (up2_up2 f 4 8 c0 (c0 + 1))) ?_
              refine r_drop 6 ?_
              exact ih_L22 (k + 1) (c0 + 1) (up2 r1 (f 0 8) c0 (r (f 0 i) (f 3 i + k))) (by omega) (by omega) (up2_off hr1) (by rw [← hF]; simp only [siC]; rw [if_pos hb9]) (by rw [← hF2]; simp only [siR]; rw [if_pos hb9])
  exact L22 (f 4 i) 0 0 r (by omega) (Nat.le_refl _) (fun _ _ => rfl) rfl rfl
