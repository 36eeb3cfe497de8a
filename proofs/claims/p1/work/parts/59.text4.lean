/-! TEXTS: numbers appended -/
theorem nk_toInt {k : Nat} (h : k < 1000) : (-(nI k)).toInt = -(k : Int) := by
  rw [Int32.toInt_neg, nI_toInt (by omega)]
  exact Int.bmod_eq_of_le (by omega) (by omega)
theorem nk_le {k : Nat} (h : k < 1000) : (-(nI k) ≤ (-10 : Int32)) ↔ 10 ≤ k := by
  rw [Int32.le_iff_toInt_le, nk_toInt h, show (-10 : Int32).toInt = -10 from rfl]
  omega
theorem nk_le2 {k : Nat} (h : k < 1000) : (-(nI k) ≤ nI 10 * (-10 : Int32)) ↔ 100 ≤ k := by
  rw [Int32.le_iff_toInt_le, nk_toInt h, show (nI 10 * (-10 : Int32)).toInt = -100 from by decide]
  omega
theorem nk_lt0 {k : Nat} (h : k < 1000) : (-(nI k) < (0 : Int32)) ↔ 0 < k := by
  rw [Int32.lt_iff_toInt_lt, nk_toInt h, show (0 : Int32).toInt = 0 from rfl]
  omega
theorem nk_ge0 {k : Nat} (h : k < 1000) : ((0 : Int32) ≤ -(nI k)) ↔ k = 0 := by
  rw [Int32.le_iff_toInt_le, nk_toInt h, show (0 : Int32).toInt = 0 from rfl]
  omega
theorem nk_gt100 {k : Nat} (h : k < 1000) : ((-100 : Int32) < -(nI k)) ↔ k < 100 := by
  rw [Int32.lt_iff_toInt_lt, nk_toInt h, show (-100 : Int32).toInt = -100 from rfl]
  omega
theorem nk_ge9 {k : Nat} (h : k < 1000) : ((-9 : Int32) ≤ -(nI k)) ↔ k ≤ 9 := by
  rw [Int32.le_iff_toInt_le, nk_toInt h, show (-9 : Int32).toInt = -9 from rfl]
  omega
def sz9 (x : Int32) : Nat := (if x.toInt < 0 then 1 else 0) + (if x.toInt.natAbs < 10 then 1 else 2)
theorem fs0_J4 : ∀ j, j < 4 → defaultValue (tyJ4 j) = vp_V [.null, .int (nI 0), .int (nI 0), .int (nI 0)] j := fun j hj => by
  have : j = 0 ∨ j = 1 ∨ j = 2 ∨ j = 3 := by omega
  rcases this with rfl | rfl | rfl | rfl <;> rfl
theorem fs0_J0 : ∀ j, j < 4 → defaultValue (tyJ0 j) = vp_V [.null, .int (nI 0), .int (nI 0), .int (nI 0)] j := fun j hj => by
  have : j = 0 ∨ j = 1 ∨ j = 2 ∨ j = 3 := by omega
  rcases this with rfl | rfl | rfl | rfl <;> rfl
section CLN
variable {p : Program} {l : Launch} {e : Env} {R : Room} {s : State} {m : MethodId} {args : Array Value} {below : List Frame} {meth : Method} {c : Code} {D : va_G} {cy : Nat → ClassId} {A : Nat → Prop} {Q : State → Prop} {nL cells slots : Nat} {lv : List (Option Value)} {pc : Nat} {st : List Value} {cc : ByteArray} {own : String} {X : (Nat → Prop) → State → Heap → Prop} {aK aV : Nat → Nat} {tO tT : Nat} {gO gT : Nat → Int32} {U L : va_W}
/-- a copy of all the bytes -/
theorem t_clone (hX : EnvS X cy aK aV tO tT gO gT) (C : Fg p s m args meth c cc nL RJ7 D cy A) (hE : X A s s.heap) {b n : Nat} {g : Nat → Int32} (j : Nat) (he : L[j]? = some (b, .inl (cy 0, n, .inl g))) (hfit : sb_Fit g) (hf : 1 ≤ R.frames) (hlo : (st.map fun v => v.category).sum + 14 ≤ R.locals) (hcells : cells + 1 ≤ R.cells) (hslots : slots + n ≤ R.slots) (d : decode cc pc = .ok (.invokevirtual 310, 3))
    (kk : ∀ q : Nat, vW p l e R s m args below meth c D vwCl A Q nL (cells + 1) (slots + n) (U ++ ((q, .inl (cy 0, n, .inl g)) :: L)) lv (pc + 3) (.ref q :: st)) : vW p l e R s m args below meth c D vwCl A Q nL cells slots (U ++ L) lv pc (.ref b :: st) := fun H locs ls hP hD hS hl =>
  va_clone C.1 C.2.1 (C.2.2.1.trans hl.1.symm) C.2.2.2.1 (C.2.2.2.2.1 _ qm_clone) (C.2.2.2.2.1 _ qe_clone) (C.2.2.2.2.1 _ qv_clone) (C.2.2.2.2.1 _ qi_clone) (C.2.2.2.2.1 _ qs_clone) (hX.1.1.2.1 _ qn_clone A s s.heap hE) C.2.2.2.2.2.1 hP hD hS C.2.2.2.2.2.2.2 (U.length + j) 0 (us_g he) rfl (C.2.2.2.2.2.1.2 0 (cy 0, .byte) rfl).2 (fun i v h => by
    have h2 : (arrV (cy 0) n fun j => Value.int (g j)).slots[i]? = some v := h
    have hlt : i < n := by
      have h3 := (Array.getElem?_eq_some_iff.mp h2).1
      rw [arrV_size] at h3
      exact h3
    rw [arrV_read _ _ hlt] at h2
    exact (Option.some.inj h2) ▸ hfit i) hf hlo hcells hslots d (fun q H1 hK hP hD hS => (t_front (kk q)) H1 locs ls hP hD hS hl)
theorem t_castB (C : Fg p s m args meth c cc nL own D cy A) {b n index : Nat} {g : Nat → Int32} (j : Nat) (he : L[j]? = some (b, .inl (cy 0, n, .inl g))) (hq : Cond.classLink own index "[B" ∈ GW) (d : decode cc pc = .ok (.checkcast index, 3))
    (kk : vW p l e R s m args below meth c D vwCl A Q nL cells slots (U ++ L) lv (pc + 3) (.ref b :: st)) : vW p l e R s m args below meth c D vwCl A Q nL cells slots (U ++ L) lv pc (.ref b :: st) := fun H locs ls hP hD hS hl =>
  va_castA C.1 C.2.1 C.2.2.2.1 (C.2.2.2.2.1 _ hq) hP (U.length + j) (us_g he) (C.2.2.2.2.2.1.2 0 (cy 0, .byte) rfl).2 d (kk H locs ls hP hD hS hl)
end CLN

theorem dJ6_stringSize_0f7a4_0 : decode cJ6_stringSize_0f7a4 0 = .ok (.iconst 1, 1) := dqo_4 (kb_of ke_J6_stringSize_0f7a4 0 rfl)
theorem dJ6_stringSize_0f7a4_1 : decode cJ6_stringSize_0f7a4 1 = .ok (.istore_n 1, 1) := dqo_60 (kb_of ke_J6_stringSize_0f7a4 1 rfl)
theorem dJ6_stringSize_0f7a4_2 : decode cJ6_stringSize_0f7a4 2 = .ok (.iload_n 0, 1) := dqo_26 (kb_of ke_J6_stringSize_0f7a4 2 rfl)
theorem dJ6_stringSize_0f7a4_3 : decode cJ6_stringSize_0f7a4 3 = .ok (.ifCond .lt 8, 3) := dqo_155 0 8 (by decide) (kb_of ke_J6_stringSize_0f7a4 3 rfl) (kb_of ke_J6_stringSize_0f7a4 4 rfl) (kb_of ke_J6_stringSize_0f7a4 5 rfl)
theorem dJ6_stringSize_0f7a4_6 : decode cJ6_stringSize_0f7a4 6 = .ok (.iconst 0, 1) := dqo_3 (kb_of ke_J6_stringSize_0f7a4 6 rfl)
theorem dJ6_stringSize_0f7a4_7 : decode cJ6_stringSize_0f7a4 7 = .ok (.istore_n 1, 1) := dqo_60 (kb_of ke_J6_stringSize_0f7a4 7 rfl)
theorem dJ6_stringSize_0f7a4_8 : decode cJ6_stringSize_0f7a4 8 = .ok (.iload_n 0, 1) := dqo_26 (kb_of ke_J6_stringSize_0f7a4 8 rfl)
theorem dJ6_stringSize_0f7a4_9 : decode cJ6_stringSize_0f7a4 9 = .ok (.ineg, 1) := dqo_116 (kb_of ke_J6_stringSize_0f7a4 9 rfl)
theorem dJ6_stringSize_0f7a4_10 : decode cJ6_stringSize_0f7a4 10 = .ok (.istore_n 0, 1) := dqo_59 (kb_of ke_J6_stringSize_0f7a4 10 rfl)
theorem dJ6_stringSize_0f7a4_11 : decode cJ6_stringSize_0f7a4 11 = .ok (.bipush (-10), 2) := dqo_16 246 (by decide) (kb_of ke_J6_stringSize_0f7a4 11 rfl) (kb_of ke_J6_stringSize_0f7a4 12 rfl)
theorem dJ6_stringSize_0f7a4_13 : decode cJ6_stringSize_0f7a4 13 = .ok (.istore_n 2, 1) := dqo_61 (kb_of ke_J6_stringSize_0f7a4 13 rfl)
theorem dJ6_stringSize_0f7a4_14 : decode cJ6_stringSize_0f7a4 14 = .ok (.iconst 1, 1) := dqo_4 (kb_of ke_J6_stringSize_0f7a4 14 rfl)
theorem dJ6_stringSize_0f7a4_15 : decode cJ6_stringSize_0f7a4 15 = .ok (.istore_n 3, 1) := dqo_62 (kb_of ke_J6_stringSize_0f7a4 15 rfl)
theorem dJ6_stringSize_0f7a4_16 : decode cJ6_stringSize_0f7a4 16 = .ok (.iload_n 3, 1) := dqo_29 (kb_of ke_J6_stringSize_0f7a4 16 rfl)
theorem dJ6_stringSize_0f7a4_17 : decode cJ6_stringSize_0f7a4 17 = .ok (.bipush 10, 2) := dqo_16 10 (by decide) (kb_of ke_J6_stringSize_0f7a4 17 rfl) (kb_of ke_J6_stringSize_0f7a4 18 rfl)
theorem dJ6_stringSize_0f7a4_19 : decode cJ6_stringSize_0f7a4 19 = .ok (.if_icmp .ge 23, 3) := dqo_162 0 23 (by decide) (kb_of ke_J6_stringSize_0f7a4 19 rfl) (kb_of ke_J6_stringSize_0f7a4 20 rfl) (kb_of ke_J6_stringSize_0f7a4 21 rfl)
theorem dJ6_stringSize_0f7a4_22 : decode cJ6_stringSize_0f7a4 22 = .ok (.iload_n 0, 1) := dqo_26 (kb_of ke_J6_stringSize_0f7a4 22 rfl)
theorem dJ6_stringSize_0f7a4_23 : decode cJ6_stringSize_0f7a4 23 = .ok (.iload_n 2, 1) := dqo_28 (kb_of ke_J6_stringSize_0f7a4 23 rfl)
theorem dJ6_stringSize_0f7a4_24 : decode cJ6_stringSize_0f7a4 24 = .ok (.if_icmp .le 7, 3) := dqo_164 0 7 (by decide) (kb_of ke_J6_stringSize_0f7a4 24 rfl) (kb_of ke_J6_stringSize_0f7a4 25 rfl) (kb_of ke_J6_stringSize_0f7a4 26 rfl)
theorem dJ6_stringSize_0f7a4_27 : decode cJ6_stringSize_0f7a4 27 = .ok (.iload_n 3, 1) := dqo_29 (kb_of ke_J6_stringSize_0f7a4 27 rfl)
theorem dJ6_stringSize_0f7a4_28 : decode cJ6_stringSize_0f7a4 28 = .ok (.iload_n 1, 1) := dqo_27 (kb_of ke_J6_stringSize_0f7a4 28 rfl)
theorem dJ6_stringSize_0f7a4_29 : decode cJ6_stringSize_0f7a4 29 = .ok (.iadd, 1) := dqo_96 (kb_of ke_J6_stringSize_0f7a4 29 rfl)
theorem dJ6_stringSize_0f7a4_30 : decode cJ6_stringSize_0f7a4 30 = .ok (.ireturn, 1) := dqo_172 (kb_of ke_J6_stringSize_0f7a4 30 rfl)
set_option maxRecDepth 100000 in
set_option maxHeartbeats 400000 in
theorem C_size_p1 {l : Launch} {D : va_G} {cy : Nat → ClassId} {X : (Nat → Prop) → State → Heap → Prop} {w : va_W} {x : Int32} {k : Nat}  (hx : x = nI k) (hk : k < 10) : Cm l D cy X yJ6_stringSize_0f7a4 cJ6_stringSize_0f7a4 4 (some .int) (rmz 0 0) [.int x] (w) (fun v1 w1 => v1 = some (.int (nI 1)) ∧ w1 = w) (fun _ => False) := by
  subst hx
  refine Cm.ofF [some (.int (nI k)), none, none, none] (plainFor_of_name pn_J6) rfl (Nat.le_of_ble_eq_true rfl) ?_
  intro p e s mI args below meth c A C hE hr hnt hn
  refine r_iconst (v := (nI 1)) C dJ6_stringSize_0f7a4_0 (by decide) ?_
  refine r_istore_n C dJ6_stringSize_0f7a4_1 (by decide) rfl ?_
  refine r_iload_n C dJ6_stringSize_0f7a4_2 rfl ?_
  refine r_ifN_lt (a := k) (tgt := 11) C (by first | omega | (simp [up2, *]; done) | (simp [up2, *]; omega) | (simp only [up2_eq]; omega) | (split <;> omega)) dJ6_stringSize_0f7a4_3 (by decide) (fun h3_1 => ?_) (fun h3_1 => ?_)
  · exact absurd h3_1 (by first | omega | (simp [up2, *]; done) | (simp [up2, *]; omega) | (simp only [up2_eq]; omega) | (split <;> omega))
  · skip
    refine r_iconst (v := (nI 0)) C dJ6_stringSize_0f7a4_6 (by decide) ?_
    refine r_istore_n C dJ6_stringSize_0f7a4_7 (by decide) rfl ?_
    refine r_iload_n C dJ6_stringSize_0f7a4_8 rfl ?_
    refine r_ineg C dJ6_stringSize_0f7a4_9 ?_
    refine r_istore_n C dJ6_stringSize_0f7a4_10 (by decide) rfl ?_
    refine r_bipush (v := (-10)) C dJ6_stringSize_0f7a4_11 (by decide) ?_
    refine r_istore_n C dJ6_stringSize_0f7a4_13 (by decide) rfl ?_
    refine r_iconst (v := (nI 1)) C dJ6_stringSize_0f7a4_14 (by decide) ?_
    refine r_istore_n C dJ6_stringSize_0f7a4_15 (by decide) rfl ?_
    refine r_iload_n C dJ6_stringSize_0f7a4_16 rfl ?_
    refine r_bipush (v := (nI 10)) C dJ6_stringSize_0f7a4_17 (by decide) ?_
    refine r_icN_ge (a := 1) (b := 10) (tgt := 42) C (by first | omega | (simp [up2, *]; done) | (simp [up2, *]; omega) | (simp only [up2_eq]; omega) | (split <;> omega)) (by first | omega | (simp [up2, *]; done) | (simp [up2, *]; omega) | (simp only [up2_eq]; omega) | (split <;> omega)) dJ6_stringSize_0f7a4_19 (by decide) (fun h19_2 => ?_) (fun h19_2 => ?_)
    · exact absurd h19_2 (by first | omega | (simp [up2, *]; done) | (simp [up2, *]; omega) | (simp only [up2_eq]; omega) | (split <;> omega))
    · skip
      refine r_iload_n C dJ6_stringSize_0f7a4_22 rfl ?_
      refine r_iload_n C dJ6_stringSize_0f7a4_23 rfl ?_
      refine r_ic_le (tgt := 31) C dJ6_stringSize_0f7a4_24 (by decide) (fun h24_3 => ?_) (fun h24_3 => ?_)
      · exact absurd ((nk_le (by omega)).mp h24_3) (by omega)
      · skip
        refine r_iload_n C dJ6_stringSize_0f7a4_27 rfl ?_
        refine r_iload_n C dJ6_stringSize_0f7a4_28 rfl ?_
        refine r_iaddN C dJ6_stringSize_0f7a4_29 ?_
        exact r_iret C hr dJ6_stringSize_0f7a4_30 ⟨rfl, rfl⟩ (by first | (simp only [rmk, rmz]; omega) | (simp only [rmk, rmz]; done) | omega) (by first | (simp only [rmk, rmz]; omega) | (simp only [rmk, rmz]; done) | omega)
theorem dJ6_getChars_ba4f3_0 : decode cJ6_getChars_ba4f3 0 = .ok (.iload_n 1, 1) := dqo_27 (kb_J6_getChars_ba4f3_0 0 rfl)
theorem dJ6_getChars_ba4f3_1 : decode cJ6_getChars_ba4f3 1 = .ok (.istore 5, 2) := dqo_54 5 (kb_J6_getChars_ba4f3_0 1 rfl) (kb_J6_getChars_ba4f3_0 2 rfl)
theorem dJ6_getChars_ba4f3_3 : decode cJ6_getChars_ba4f3 3 = .ok (.iload_n 0, 1) := dqo_26 (kb_J6_getChars_ba4f3_0 3 rfl)
theorem dJ6_getChars_ba4f3_4 : decode cJ6_getChars_ba4f3 4 = .ok (.ifCond .ge 7, 3) := dqo_156 0 7 (by decide) (kb_J6_getChars_ba4f3_0 4 rfl) (kb_J6_getChars_ba4f3_0 5 rfl) (kb_J6_getChars_ba4f3_0 6 rfl)
theorem dJ6_getChars_ba4f3_11 : decode cJ6_getChars_ba4f3 11 = .ok (.iconst 0, 1) := dqo_3 (kb_J6_getChars_ba4f3_0 11 rfl)
theorem dJ6_getChars_ba4f3_12 : decode cJ6_getChars_ba4f3 12 = .ok (.istore 6, 2) := dqo_54 6 (kb_J6_getChars_ba4f3_0 12 rfl) (kb_J6_getChars_ba4f3_0 13 rfl)
theorem dJ6_getChars_ba4f3_14 : decode cJ6_getChars_ba4f3 14 = .ok (.iload 6, 2) := dqo_21 6 (kb_J6_getChars_ba4f3_0 14 rfl) (kb_J6_getChars_ba4f3_0 15 rfl)
theorem dJ6_getChars_ba4f3_16 : decode cJ6_getChars_ba4f3 16 = .ok (.ifCond .ne 6, 3) := dqo_154 0 6 (by decide) (kb_J6_getChars_ba4f3_0 16 rfl) (kb_J6_getChars_ba4f3_0 17 rfl) (kb_J6_getChars_ba4f3_0 18 rfl)
theorem dJ6_getChars_ba4f3_19 : decode cJ6_getChars_ba4f3 19 = .ok (.iload_n 0, 1) := dqo_26 (kb_J6_getChars_ba4f3_0 19 rfl)
theorem dJ6_getChars_ba4f3_20 : decode cJ6_getChars_ba4f3 20 = .ok (.ineg, 1) := dqo_116 (kb_J6_getChars_ba4f3_0 20 rfl)
theorem dJ6_getChars_ba4f3_21 : decode cJ6_getChars_ba4f3 21 = .ok (.istore_n 0, 1) := dqo_59 (kb_J6_getChars_ba4f3_0 21 rfl)
theorem dJ6_getChars_ba4f3_22 : decode cJ6_getChars_ba4f3 22 = .ok (.iload_n 0, 1) := dqo_26 (kb_J6_getChars_ba4f3_0 22 rfl)
theorem dJ6_getChars_ba4f3_23 : decode cJ6_getChars_ba4f3 23 = .ok (.bipush (-100), 2) := dqo_16 156 (by decide) (kb_J6_getChars_ba4f3_0 23 rfl) (kb_J6_getChars_ba4f3_0 24 rfl)
theorem dJ6_getChars_ba4f3_25 : decode cJ6_getChars_ba4f3 25 = .ok (.if_icmp .gt 47, 3) := dqo_163 0 47 (by decide) (kb_J6_getChars_ba4f3_0 25 rfl) (kb_J6_getChars_ba4f3_0 26 rfl) (kb_J6_getChars_ba4f3_0 27 rfl)
theorem dJ6_getChars_ba4f3_72 : decode cJ6_getChars_ba4f3 72 = .ok (.aload_n 2, 1) := dqo_44 (kb_J6_getChars_ba4f3_1 8 rfl)
theorem dJ6_getChars_ba4f3_73 : decode cJ6_getChars_ba4f3 73 = .ok (.iinc 5 (-1), 3) := dqo_132 5 255 (by decide) (kb_J6_getChars_ba4f3_1 9 rfl) (kb_J6_getChars_ba4f3_1 10 rfl) (kb_J6_getChars_ba4f3_1 11 rfl)
theorem dJ6_getChars_ba4f3_76 : decode cJ6_getChars_ba4f3 76 = .ok (.iload 5, 2) := dqo_21 5 (kb_J6_getChars_ba4f3_1 12 rfl) (kb_J6_getChars_ba4f3_1 13 rfl)
theorem dJ6_getChars_ba4f3_78 : decode cJ6_getChars_ba4f3 78 = .ok (.getstatic 83, 3) := dqo_178 0 83 (kb_J6_getChars_ba4f3_1 14 rfl) (kb_J6_getChars_ba4f3_1 15 rfl) (kb_J6_getChars_ba4f3_1 16 rfl)
theorem dJ6_getChars_ba4f3_81 : decode cJ6_getChars_ba4f3 81 = .ok (.iload_n 0, 1) := dqo_26 (kb_J6_getChars_ba4f3_1 17 rfl)
theorem dJ6_getChars_ba4f3_82 : decode cJ6_getChars_ba4f3 82 = .ok (.ineg, 1) := dqo_116 (kb_J6_getChars_ba4f3_1 18 rfl)
theorem dJ6_getChars_ba4f3_83 : decode cJ6_getChars_ba4f3 83 = .ok (.baload, 1) := dqo_51 (kb_J6_getChars_ba4f3_1 19 rfl)
theorem dJ6_getChars_ba4f3_84 : decode cJ6_getChars_ba4f3 84 = .ok (.bastore, 1) := dqo_84 (kb_J6_getChars_ba4f3_1 20 rfl)
theorem dJ6_getChars_ba4f3_85 : decode cJ6_getChars_ba4f3 85 = .ok (.iload_n 0, 1) := dqo_26 (kb_J6_getChars_ba4f3_1 21 rfl)
theorem dJ6_getChars_ba4f3_86 : decode cJ6_getChars_ba4f3 86 = .ok (.bipush (-9), 2) := dqo_16 247 (by decide) (kb_J6_getChars_ba4f3_1 22 rfl) (kb_J6_getChars_ba4f3_1 23 rfl)
theorem dJ6_getChars_ba4f3_88 : decode cJ6_getChars_ba4f3 88 = .ok (.if_icmp .ge 16, 3) := dqo_162 0 16 (by decide) (kb_J6_getChars_ba4f3_1 24 rfl) (kb_J6_getChars_ba4f3_1 25 rfl) (kb_J6_getChars_ba4f3_1 26 rfl)
theorem dJ6_getChars_ba4f3_104 : decode cJ6_getChars_ba4f3 104 = .ok (.iload 6, 2) := dqo_21 6 (kb_J6_getChars_ba4f3_1 40 rfl) (kb_J6_getChars_ba4f3_1 41 rfl)
theorem dJ6_getChars_ba4f3_106 : decode cJ6_getChars_ba4f3 106 = .ok (.ifCond .eq 12, 3) := dqo_153 0 12 (by decide) (kb_J6_getChars_ba4f3_1 42 rfl) (kb_J6_getChars_ba4f3_1 43 rfl) (kb_J6_getChars_ba4f3_1 44 rfl)
theorem dJ6_getChars_ba4f3_118 : decode cJ6_getChars_ba4f3 118 = .ok (.iload 5, 2) := dqo_21 5 (kb_J6_getChars_ba4f3_1 54 rfl) (kb_J6_getChars_ba4f3_1 55 rfl)
theorem dJ6_getChars_ba4f3_120 : decode cJ6_getChars_ba4f3 120 = .ok (.ireturn, 1) := dqo_172 (kb_J6_getChars_ba4f3_1 56 rfl)
set_option maxRecDepth 100000 in
set_option maxHeartbeats 400000 in
theorem C_chars_p1 {l : Launch} {D : va_G} {cy : Nat → ClassId} {X : (Nat → Prop) → State → Heap → Prop} {aK aV : Nat → Nat} {tO tT : Nat} {gO gT : Nat → Int32} {U E : va_W} {x : Int32} {k : Nat} {ix : Nat} {v : Nat} {m : Nat} {g : Nat → Int32} {tl : List Int32} (hX : EnvS X cy aK aV tO tT gO gT) (hx : x = nI k) (hk : k < 10) (hix : 1 ≤ ix) (him : ix ≤ m) (hm : m < 536870912) (hf : TXT g (ix - 1) tl) : Cm l D cy X yJ6_getChars_ba4f3 cJ6_getChars_ba4f3 7 (some .int) (rmz 0 0) [.int x, .int (nI ix), .ref v] (U ++ (BYO cy v m g :: E)) (fun v1 w1 => ∃ g9 : Nat → Int32, (TXT g9 ix (tl ++ dgP1 gO k)) ∧ v1 = some (.int (nI (ix - 1))) ∧ w1 = U ++ (BYO cy v m g9 :: E)) (fun _ => False) := by
  subst hx
  refine Cm.ofF [some (.int (nI k)), some (.int (nI ix)), some (.ref v), none, none, none, none] (plainFor_of_name pn_J6) rfl (Nat.le_of_ble_eq_true rfl) ?_
  intro p e s mI args below meth c A C hE hr hnt hn
  refine r_iload_n C dJ6_getChars_ba4f3_0 rfl ?_
  refine r_istore C dJ6_getChars_ba4f3_1 (by decide) rfl ?_
  refine r_iload_n C dJ6_getChars_ba4f3_3 rfl ?_
  refine r_ifN_ge (a := k) (tgt := 11) C (by first | omega | (simp [up2, *]; done) | (simp [up2, *]; omega) | (simp only [up2_eq]; omega) | (split <;> omega)) dJ6_getChars_ba4f3_4 (by decide) (fun h4_1 => ?_) (fun h4_1 => ?_)
  · skip
    refine r_iconst (v := (nI 0)) C dJ6_getChars_ba4f3_11 (by decide) ?_
    refine r_istore C dJ6_getChars_ba4f3_12 (by decide) rfl ?_
    refine r_iload C dJ6_getChars_ba4f3_14 rfl ?_
    refine r_ifN_ne (a := 0) (tgt := 22) C (by first | omega | (simp [up2, *]; done) | (simp [up2, *]; omega) | (simp only [up2_eq]; omega) | (split <;> omega)) dJ6_getChars_ba4f3_16 (by decide) (fun h16_2 => ?_) (fun h16_2 => ?_)
    · exact absurd h16_2 (by first | omega | (simp [up2, *]; done) | (simp [up2, *]; omega) | (simp only [up2_eq]; omega) | (split <;> omega))
    · skip
      refine r_iload_n C dJ6_getChars_ba4f3_19 rfl ?_
      refine r_ineg C dJ6_getChars_ba4f3_20 ?_
      refine r_istore_n C dJ6_getChars_ba4f3_21 (by decide) rfl ?_
      refine r_iload_n C dJ6_getChars_ba4f3_22 rfl ?_
      refine r_bipush (v := (-100)) C dJ6_getChars_ba4f3_23 (by decide) ?_
      refine r_ic_gt (tgt := 72) C dJ6_getChars_ba4f3_25 (by decide) (fun h25_3 => ?_) (fun h25_3 => ?_)
      · skip
        refine r_aload_n C dJ6_getChars_ba4f3_72 rfl ?_
        refine r_idecP C dJ6_getChars_ba4f3_73 rfl (by first | omega | (simp [up2, *]; done) | (simp [up2, *]; omega) | (simp only [up2_eq]; omega) | (split <;> omega)) (by decide) rfl ?_
        refine r_iload C dJ6_getChars_ba4f3_76 rfl ?_
        refine j_do hX C hE qf_J6_83 dJ6_getChars_ba4f3_78 ?_
        refine r_iload_n C dJ6_getChars_ba4f3_81 rfl ?_
        refine r_ineg C dJ6_getChars_ba4f3_82 ?_
        refine r_eqi (y := nI k) (Int32.neg_neg) ?_
        refine j_dol hX C hE (by first | omega | (simp [up2, *]; done) | (simp [up2, *]; omega) | (simp only [up2_eq]; omega) | (split <;> omega)) dJ6_getChars_ba4f3_83 ?_
        refine t_bst C 0 rfl (by first | omega | (simp [up2, *]; done) | (simp [up2, *]; omega) | (simp only [up2_eq]; omega) | (split <;> omega)) (by first | omega | (simp [up2, *]; done) | (simp [up2, *]; omega) | (simp only [up2_eq]; omega) | (split <;> omega)) dJ6_getChars_ba4f3_84 rfl ?_
        refine r_iload_n C dJ6_getChars_ba4f3_85 rfl ?_
        refine r_bipush (v := (-9)) C dJ6_getChars_ba4f3_86 (by decide) ?_
        refine r_ic_ge (tgt := 104) C dJ6_getChars_ba4f3_88 (by decide) (fun h88_4 => ?_) (fun h88_4 => ?_)
        · skip
          refine r_iload C dJ6_getChars_ba4f3_104 rfl ?_
          refine r_ifN_eq (a := 0) (tgt := 118) C (by first | omega | (simp [up2, *]; done) | (simp [up2, *]; omega) | (simp only [up2_eq]; omega) | (split <;> omega)) dJ6_getChars_ba4f3_106 (by decide) (fun h106_5 => ?_) (fun h106_5 => ?_)
          · skip
            refine r_iload C dJ6_getChars_ba4f3_118 rfl ?_
            exact r_iret C hr dJ6_getChars_ba4f3_120 ⟨_, TXT.dn1 hix hf, (by first | rfl | simp only [Nat.sub_sub]), rfl⟩ (by first | (simp only [rmk, rmz]; omega) | (simp only [rmk, rmz]; done) | omega) (by first | (simp only [rmk, rmz]; omega) | (simp only [rmk, rmz]; done) | omega)
          · exact absurd h106_5 (by first | omega | (simp [up2, *]; done) | (simp [up2, *]; omega) | (simp only [up2_eq]; omega) | (split <;> omega))
        · exact absurd ((nk_ge9 (by omega)).mpr (by omega)) h88_4
      · exact absurd ((nk_gt100 (by omega)).mpr (by omega)) h25_3
  · exact absurd h4_1 (by first | omega | (simp [up2, *]; done) | (simp [up2, *]; omega) | (simp only [up2_eq]; omega) | (split <;> omega))
theorem dJ6_stringSize_0f7a4_31 : decode cJ6_stringSize_0f7a4 31 = .ok (.bipush 10, 2) := dqo_16 10 (by decide) (kb_of ke_J6_stringSize_0f7a4 31 rfl) (kb_of ke_J6_stringSize_0f7a4 32 rfl)
theorem dJ6_stringSize_0f7a4_33 : decode cJ6_stringSize_0f7a4 33 = .ok (.iload_n 2, 1) := dqo_28 (kb_of ke_J6_stringSize_0f7a4 33 rfl)
theorem dJ6_stringSize_0f7a4_34 : decode cJ6_stringSize_0f7a4 34 = .ok (.imul, 1) := dqo_104 (kb_of ke_J6_stringSize_0f7a4 34 rfl)
theorem dJ6_stringSize_0f7a4_35 : decode cJ6_stringSize_0f7a4 35 = .ok (.istore_n 2, 1) := dqo_61 (kb_of ke_J6_stringSize_0f7a4 35 rfl)
theorem dJ6_stringSize_0f7a4_36 : decode cJ6_stringSize_0f7a4 36 = .ok (.iinc 3 1, 3) := dqo_132 3 1 (by decide) (kb_of ke_J6_stringSize_0f7a4 36 rfl) (kb_of ke_J6_stringSize_0f7a4 37 rfl) (kb_of ke_J6_stringSize_0f7a4 38 rfl)
theorem dJ6_stringSize_0f7a4_39 : decode cJ6_stringSize_0f7a4 39 = .ok (.goto (-23), 3) := dqo_167 255 233 (by decide) (kb_of ke_J6_stringSize_0f7a4 39 rfl) (kb_of ke_J6_stringSize_0f7a4 40 rfl) (kb_of ke_J6_stringSize_0f7a4 41 rfl)
set_option maxRecDepth 100000 in
set_option maxHeartbeats 400000 in
theorem C_size_p2 {l : Launch} {D : va_G} {cy : Nat → ClassId} {X : (Nat → Prop) → State → Heap → Prop} {w : va_W} {x : Int32} {k : Nat}  (hx : x = nI k) (hk0 : 10 ≤ k) (hk : k < 100) : Cm l D cy X yJ6_stringSize_0f7a4 cJ6_stringSize_0f7a4 4 (some .int) (rmz 0 0) [.int x] (w) (fun v1 w1 => v1 = some (.int (nI 2)) ∧ w1 = w) (fun _ => False) := by
  subst hx
  refine Cm.ofF [some (.int (nI k)), none, none, none] (plainFor_of_name pn_J6) rfl (Nat.le_of_ble_eq_true rfl) ?_
  intro p e s mI args below meth c A C hE hr hnt hn
  refine r_iconst (v := (nI 1)) C dJ6_stringSize_0f7a4_0 (by decide) ?_
  refine r_istore_n C dJ6_stringSize_0f7a4_1 (by decide) rfl ?_
  refine r_iload_n C dJ6_stringSize_0f7a4_2 rfl ?_
  refine r_ifN_lt (a := k) (tgt := 11) C (by first | omega | (simp [up2, *]; done) | (simp [up2, *]; omega) | (simp only [up2_eq]; omega) | (split <;> omega)) dJ6_stringSize_0f7a4_3 (by decide) (fun h3_1 => ?_) (fun h3_1 => ?_)
  · exact absurd h3_1 (by first | omega | (simp [up2, *]; done) | (simp [up2, *]; omega) | (simp only [up2_eq]; omega) | (split <;> omega))
  · skip
    refine r_iconst (v := (nI 0)) C dJ6_stringSize_0f7a4_6 (by decide) ?_
    refine r_istore_n C dJ6_stringSize_0f7a4_7 (by decide) rfl ?_
    refine r_iload_n C dJ6_stringSize_0f7a4_8 rfl ?_
    refine r_ineg C dJ6_stringSize_0f7a4_9 ?_
    refine r_istore_n C dJ6_stringSize_0f7a4_10 (by decide) rfl ?_
    refine r_bipush (v := (-10)) C dJ6_stringSize_0f7a4_11 (by decide) ?_
    refine r_istore_n C dJ6_stringSize_0f7a4_13 (by decide) rfl ?_
    refine r_iconst (v := (nI 1)) C dJ6_stringSize_0f7a4_14 (by decide) ?_
    refine r_istore_n C dJ6_stringSize_0f7a4_15 (by decide) rfl ?_
    refine r_iload_n C dJ6_stringSize_0f7a4_16 rfl ?_
    refine r_bipush (v := (nI 10)) C dJ6_stringSize_0f7a4_17 (by decide) ?_
    refine r_icN_ge (a := 1) (b := 10) (tgt := 42) C (by first | omega | (simp [up2, *]; done) | (simp [up2, *]; omega) | (simp only [up2_eq]; omega) | (split <;> omega)) (by first | omega | (simp [up2, *]; done) | (simp [up2, *]; omega) | (simp only [up2_eq]; omega) | (split <;> omega)) dJ6_stringSize_0f7a4_19 (by decide) (fun h19_2 => ?_) (fun h19_2 => ?_)
    · exact absurd h19_2 (by first | omega | (simp [up2, *]; done) | (simp [up2, *]; omega) | (simp only [up2_eq]; omega) | (split <;> omega))
    · skip
      refine r_iload_n C dJ6_stringSize_0f7a4_22 rfl ?_
      refine r_iload_n C dJ6_stringSize_0f7a4_23 rfl ?_
      refine r_ic_le (tgt := 31) C dJ6_stringSize_0f7a4_24 (by decide) (fun h24_3 => ?_) (fun h24_3 => ?_)
      · skip
        refine r_bipush (v := (nI 10)) C dJ6_stringSize_0f7a4_31 (by decide) ?_
        refine r_iload_n C dJ6_stringSize_0f7a4_33 rfl ?_
        refine r_imul C dJ6_stringSize_0f7a4_34 ?_
        refine r_istore_n C dJ6_stringSize_0f7a4_35 (by decide) rfl ?_
        refine r_iincN C dJ6_stringSize_0f7a4_36 rfl (by decide) rfl ?_
        refine r_goto (tgt := 16) C dJ6_stringSize_0f7a4_39 (by decide) ?_
        refine r_iload_n C dJ6_stringSize_0f7a4_16 rfl ?_
        refine r_bipush (v := (nI 10)) C dJ6_stringSize_0f7a4_17 (by decide) ?_
        refine r_icN_ge (a := (1 + 1)) (b := 10) (tgt := 42) C (by first | omega | (simp [up2, *]; done) | (simp [up2, *]; omega) | (simp only [up2_eq]; omega) | (split <;> omega)) (by first | omega | (simp [up2, *]; done) | (simp [up2, *]; omega) | (simp only [up2_eq]; omega) | (split <;> omega)) dJ6_stringSize_0f7a4_19 (by decide) (fun h19_4 => ?_) (fun h19_4 => ?_)
        · exact absurd h19_4 (by first | omega | (simp [up2, *]; done) | (simp [up2, *]; omega) | (simp only [up2_eq]; omega) | (split <;> omega))
        · skip
          refine r_iload_n C dJ6_stringSize_0f7a4_22 rfl ?_
          refine r_iload_n C dJ6_stringSize_0f7a4_23 rfl ?_
          refine r_ic_le (tgt := 31) C dJ6_stringSize_0f7a4_24 (by decide) (fun h24_5 => ?_) (fun h24_5 => ?_)
          · exact absurd ((nk_le2 (by omega)).mp h24_5) (by omega)
          · skip
            refine r_iload_n C dJ6_stringSize_0f7a4_27 rfl ?_
            refine r_iload_n C dJ6_stringSize_0f7a4_28 rfl ?_
            refine r_iaddN C dJ6_stringSize_0f7a4_29 ?_
            exact r_iret C hr dJ6_stringSize_0f7a4_30 ⟨rfl, rfl⟩ (by first | (simp only [rmk, rmz]; omega) | (simp only [rmk, rmz]; done) | omega) (by first | (simp only [rmk, rmz]; omega) | (simp only [rmk, rmz]; done) | omega)
      · exact absurd ((nk_le (by omega)).mpr (by omega)) h24_3
theorem dJ6_getChars_ba4f3_91 : decode cJ6_getChars_ba4f3 91 = .ok (.aload_n 2, 1) := dqo_44 (kb_J6_getChars_ba4f3_1 27 rfl)
theorem dJ6_getChars_ba4f3_92 : decode cJ6_getChars_ba4f3 92 = .ok (.iinc 5 (-1), 3) := dqo_132 5 255 (by decide) (kb_J6_getChars_ba4f3_1 28 rfl) (kb_J6_getChars_ba4f3_1 29 rfl) (kb_J6_getChars_ba4f3_1 30 rfl)
theorem dJ6_getChars_ba4f3_95 : decode cJ6_getChars_ba4f3 95 = .ok (.iload 5, 2) := dqo_21 5 (kb_J6_getChars_ba4f3_1 31 rfl) (kb_J6_getChars_ba4f3_1 32 rfl)
theorem dJ6_getChars_ba4f3_97 : decode cJ6_getChars_ba4f3 97 = .ok (.getstatic 87, 3) := dqo_178 0 87 (kb_J6_getChars_ba4f3_1 33 rfl) (kb_J6_getChars_ba4f3_1 34 rfl) (kb_J6_getChars_ba4f3_1 35 rfl)
theorem dJ6_getChars_ba4f3_100 : decode cJ6_getChars_ba4f3 100 = .ok (.iload_n 0, 1) := dqo_26 (kb_J6_getChars_ba4f3_1 36 rfl)
theorem dJ6_getChars_ba4f3_101 : decode cJ6_getChars_ba4f3 101 = .ok (.ineg, 1) := dqo_116 (kb_J6_getChars_ba4f3_1 37 rfl)
theorem dJ6_getChars_ba4f3_102 : decode cJ6_getChars_ba4f3 102 = .ok (.baload, 1) := dqo_51 (kb_J6_getChars_ba4f3_1 38 rfl)
theorem dJ6_getChars_ba4f3_103 : decode cJ6_getChars_ba4f3 103 = .ok (.bastore, 1) := dqo_84 (kb_J6_getChars_ba4f3_1 39 rfl)
set_option maxRecDepth 100000 in
set_option maxHeartbeats 400000 in
theorem C_chars_p2 {l : Launch} {D : va_G} {cy : Nat → ClassId} {X : (Nat → Prop) → State → Heap → Prop} {aK aV : Nat → Nat} {tO tT : Nat} {gO gT : Nat → Int32} {U E : va_W} {x : Int32} {k : Nat} {ix : Nat} {v : Nat} {m : Nat} {g : Nat → Int32} {tl : List Int32} (hX : EnvS X cy aK aV tO tT gO gT) (hx : x = nI k) (hk0 : 10 ≤ k) (hk : k < 100) (hix : 2 ≤ ix) (him : ix ≤ m) (hm : m < 536870912) (hf : TXT g (ix - 2) tl) : Cm l D cy X yJ6_getChars_ba4f3 cJ6_getChars_ba4f3 7 (some .int) (rmz 0 0) [.int x, .int (nI ix), .ref v] (U ++ (BYO cy v m g :: E)) (fun v1 w1 => ∃ g9 : Nat → Int32, (TXT g9 ix (tl ++ dgP2 gO gT k)) ∧ v1 = some (.int (nI (ix - 2))) ∧ w1 = U ++ (BYO cy v m g9 :: E)) (fun _ => False) := by
  subst hx
  refine Cm.ofF [some (.int (nI k)), some (.int (nI ix)), some (.ref v), none, none, none, none] (plainFor_of_name pn_J6) rfl (Nat.le_of_ble_eq_true rfl) ?_
  intro p e s mI args below meth c A C hE hr hnt hn
  refine r_iload_n C dJ6_getChars_ba4f3_0 rfl ?_
  refine r_istore C dJ6_getChars_ba4f3_1 (by decide) rfl ?_
  refine r_iload_n C dJ6_getChars_ba4f3_3 rfl ?_
  refine r_ifN_ge (a := k) (tgt := 11) C (by first | omega | (simp [up2, *]; done) | (simp [up2, *]; omega) | (simp only [up2_eq]; omega) | (split <;> omega)) dJ6_getChars_ba4f3_4 (by decide) (fun h4_1 => ?_) (fun h4_1 => ?_)
  · skip
    refine r_iconst (v := (nI 0)) C dJ6_getChars_ba4f3_11 (by decide) ?_
    refine r_istore C dJ6_getChars_ba4f3_12 (by decide) rfl ?_
    refine r_iload C dJ6_getChars_ba4f3_14 rfl ?_
    refine r_ifN_ne (a := 0) (tgt := 22) C (by first | omega | (simp [up2, *]; done) | (simp [up2, *]; omega) | (simp only [up2_eq]; omega) | (split <;> omega)) dJ6_getChars_ba4f3_16 (by decide) (fun h16_2 => ?_) (fun h16_2 => ?_)
    · exact absurd h16_2 (by first | omega | (simp [up2, *]; done) | (simp [up2, *]; omega) | (simp only [up2_eq]; omega) | (split <;> omega))
    · skip
      refine r_iload_n C dJ6_getChars_ba4f3_19 rfl ?_
      refine r_ineg C dJ6_getChars_ba4f3_20 ?_
      refine r_istore_n C dJ6_getChars_ba4f3_21 (by decide) rfl ?_
      refine r_iload_n C dJ6_getChars_ba4f3_22 rfl ?_
      refine r_bipush (v := (-100)) C dJ6_getChars_ba4f3_23 (by decide) ?_
      refine r_ic_gt (tgt := 72) C dJ6_getChars_ba4f3_25 (by decide) (fun h25_3 => ?_) (fun h25_3 => ?_)
      · skip
        refine r_aload_n C dJ6_getChars_ba4f3_72 rfl ?_
        refine r_idecP C dJ6_getChars_ba4f3_73 rfl (by first | omega | (simp [up2, *]; done) | (simp [up2, *]; omega) | (simp only [up2_eq]; omega) | (split <;> omega)) (by decide) rfl ?_
        refine r_iload C dJ6_getChars_ba4f3_76 rfl ?_
        refine j_do hX C hE qf_J6_83 dJ6_getChars_ba4f3_78 ?_
        refine r_iload_n C dJ6_getChars_ba4f3_81 rfl ?_
        refine r_ineg C dJ6_getChars_ba4f3_82 ?_
        refine r_eqi (y := nI k) (Int32.neg_neg) ?_
        refine j_dol hX C hE (by first | omega | (simp [up2, *]; done) | (simp [up2, *]; omega) | (simp only [up2_eq]; omega) | (split <;> omega)) dJ6_getChars_ba4f3_83 ?_
        refine t_bst C 0 rfl (by first | omega | (simp [up2, *]; done) | (simp [up2, *]; omega) | (simp only [up2_eq]; omega) | (split <;> omega)) (by first | omega | (simp [up2, *]; done) | (simp [up2, *]; omega) | (simp only [up2_eq]; omega) | (split <;> omega)) dJ6_getChars_ba4f3_84 rfl ?_
        refine r_iload_n C dJ6_getChars_ba4f3_85 rfl ?_
        refine r_bipush (v := (-9)) C dJ6_getChars_ba4f3_86 (by decide) ?_
        refine r_ic_ge (tgt := 104) C dJ6_getChars_ba4f3_88 (by decide) (fun h88_4 => ?_) (fun h88_4 => ?_)
        · exact absurd ((nk_ge9 (by omega)).mp h88_4) (by omega)
        · skip
          refine r_aload_n C dJ6_getChars_ba4f3_91 rfl ?_
          refine r_idecP C dJ6_getChars_ba4f3_92 rfl (by first | omega | (simp [up2, *]; done) | (simp [up2, *]; omega) | (simp only [up2_eq]; omega) | (split <;> omega)) (by decide) rfl ?_
          refine r_iload C dJ6_getChars_ba4f3_95 rfl ?_
          refine j_dt hX C hE qf_J6_87 dJ6_getChars_ba4f3_97 ?_
          refine r_iload_n C dJ6_getChars_ba4f3_100 rfl ?_
          refine r_ineg C dJ6_getChars_ba4f3_101 ?_
          refine r_eqi (y := nI k) (Int32.neg_neg) ?_
          refine j_dtl hX C hE (by first | omega | (simp [up2, *]; done) | (simp [up2, *]; omega) | (simp only [up2_eq]; omega) | (split <;> omega)) dJ6_getChars_ba4f3_102 ?_
          refine t_bst C 0 rfl (by first | omega | (simp [up2, *]; done) | (simp [up2, *]; omega) | (simp only [up2_eq]; omega) | (split <;> omega)) (by first | omega | (simp [up2, *]; done) | (simp [up2, *]; omega) | (simp only [up2_eq]; omega) | (split <;> omega)) dJ6_getChars_ba4f3_103 rfl ?_
          refine r_iload C dJ6_getChars_ba4f3_104 rfl ?_
          refine r_ifN_eq (a := 0) (tgt := 118) C (by first | omega | (simp [up2, *]; done) | (simp [up2, *]; omega) | (simp only [up2_eq]; omega) | (split <;> omega)) dJ6_getChars_ba4f3_106 (by decide) (fun h106_5 => ?_) (fun h106_5 => ?_)
          · skip
            refine r_iload C dJ6_getChars_ba4f3_118 rfl ?_
            exact r_iret C hr dJ6_getChars_ba4f3_120 ⟨_, TXT.dn2 hix hf, (by first | rfl | simp only [Nat.sub_sub]), rfl⟩ (by first | (simp only [rmk, rmz]; omega) | (simp only [rmk, rmz]; done) | omega) (by first | (simp only [rmk, rmz]; omega) | (simp only [rmk, rmz]; done) | omega)
          · exact absurd h106_5 (by first | omega | (simp [up2, *]; done) | (simp [up2, *]; omega) | (simp only [up2_eq]; omega) | (split <;> omega))
      · exact absurd ((nk_gt100 (by omega)).mpr (by omega)) h25_3
  · exact absurd h4_1 (by first | omega | (simp [up2, *]; done) | (simp [up2, *]; omega) | (simp only [up2_eq]; omega) | (split <;> omega))
set_option maxRecDepth 100000 in
set_option maxHeartbeats 400000 in
theorem C_size_n1 {l : Launch} {D : va_G} {cy : Nat → ClassId} {X : (Nat → Prop) → State → Heap → Prop} {w : va_W} {x : Int32} {k : Nat}  (hx : x = -(nI k)) (hk0 : 0 < k) (hk : k < 10) : Cm l D cy X yJ6_stringSize_0f7a4 cJ6_stringSize_0f7a4 4 (some .int) (rmz 0 0) [.int x] (w) (fun v1 w1 => v1 = some (.int (nI 2)) ∧ w1 = w) (fun _ => False) := by
  subst hx
  refine Cm.ofF [some (.int (-(nI k))), none, none, none] (plainFor_of_name pn_J6) rfl (Nat.le_of_ble_eq_true rfl) ?_
  intro p e s mI args below meth c A C hE hr hnt hn
  refine r_iconst (v := (nI 1)) C dJ6_stringSize_0f7a4_0 (by decide) ?_
  refine r_istore_n C dJ6_stringSize_0f7a4_1 (by decide) rfl ?_
  refine r_iload_n C dJ6_stringSize_0f7a4_2 rfl ?_
  refine r_if_lt (tgt := 11) C dJ6_stringSize_0f7a4_3 (by decide) (fun h3_1 => ?_) (fun h3_1 => ?_)
  · skip
    refine r_bipush (v := (-10)) C dJ6_stringSize_0f7a4_11 (by decide) ?_
    refine r_istore_n C dJ6_stringSize_0f7a4_13 (by decide) rfl ?_
    refine r_iconst (v := (nI 1)) C dJ6_stringSize_0f7a4_14 (by decide) ?_
    refine r_istore_n C dJ6_stringSize_0f7a4_15 (by decide) rfl ?_
    refine r_iload_n C dJ6_stringSize_0f7a4_16 rfl ?_
    refine r_bipush (v := (nI 10)) C dJ6_stringSize_0f7a4_17 (by decide) ?_
    refine r_icN_ge (a := 1) (b := 10) (tgt := 42) C (by first | omega | (simp [up2, *]; done) | (simp [up2, *]; omega) | (simp only [up2_eq]; omega) | (split <;> omega)) (by first | omega | (simp [up2, *]; done) | (simp [up2, *]; omega) | (simp only [up2_eq]; omega) | (split <;> omega)) dJ6_stringSize_0f7a4_19 (by decide) (fun h19_2 => ?_) (fun h19_2 => ?_)
    · exact absurd h19_2 (by first | omega | (simp [up2, *]; done) | (simp [up2, *]; omega) | (simp only [up2_eq]; omega) | (split <;> omega))
    · skip
      refine r_iload_n C dJ6_stringSize_0f7a4_22 rfl ?_
      refine r_iload_n C dJ6_stringSize_0f7a4_23 rfl ?_
      refine r_ic_le (tgt := 31) C dJ6_stringSize_0f7a4_24 (by decide) (fun h24_3 => ?_) (fun h24_3 => ?_)
      · exact absurd ((nk_le (by omega)).mp h24_3) (by omega)
      · skip
        refine r_iload_n C dJ6_stringSize_0f7a4_27 rfl ?_
        refine r_iload_n C dJ6_stringSize_0f7a4_28 rfl ?_
        refine r_iaddN C dJ6_stringSize_0f7a4_29 ?_
        exact r_iret C hr dJ6_stringSize_0f7a4_30 ⟨rfl, rfl⟩ (by first | (simp only [rmk, rmz]; omega) | (simp only [rmk, rmz]; done) | omega) (by first | (simp only [rmk, rmz]; omega) | (simp only [rmk, rmz]; done) | omega)
  · exact absurd ((nk_lt0 (by omega)).mpr (by omega)) h3_1
theorem dJ6_getChars_ba4f3_7 : decode cJ6_getChars_ba4f3 7 = .ok (.iconst 1, 1) := dqo_4 (kb_J6_getChars_ba4f3_0 7 rfl)
theorem dJ6_getChars_ba4f3_8 : decode cJ6_getChars_ba4f3 8 = .ok (.goto 4, 3) := dqo_167 0 4 (by decide) (kb_J6_getChars_ba4f3_0 8 rfl) (kb_J6_getChars_ba4f3_0 9 rfl) (kb_J6_getChars_ba4f3_0 10 rfl)
theorem dJ6_getChars_ba4f3_109 : decode cJ6_getChars_ba4f3 109 = .ok (.aload_n 2, 1) := dqo_44 (kb_J6_getChars_ba4f3_1 45 rfl)
theorem dJ6_getChars_ba4f3_110 : decode cJ6_getChars_ba4f3 110 = .ok (.iinc 5 (-1), 3) := dqo_132 5 255 (by decide) (kb_J6_getChars_ba4f3_1 46 rfl) (kb_J6_getChars_ba4f3_1 47 rfl) (kb_J6_getChars_ba4f3_1 48 rfl)
theorem dJ6_getChars_ba4f3_113 : decode cJ6_getChars_ba4f3 113 = .ok (.iload 5, 2) := dqo_21 5 (kb_J6_getChars_ba4f3_1 49 rfl) (kb_J6_getChars_ba4f3_1 50 rfl)
theorem dJ6_getChars_ba4f3_115 : decode cJ6_getChars_ba4f3 115 = .ok (.bipush 45, 2) := dqo_16 45 (by decide) (kb_J6_getChars_ba4f3_1 51 rfl) (kb_J6_getChars_ba4f3_1 52 rfl)
theorem dJ6_getChars_ba4f3_117 : decode cJ6_getChars_ba4f3 117 = .ok (.bastore, 1) := dqo_84 (kb_J6_getChars_ba4f3_1 53 rfl)
set_option maxRecDepth 100000 in
set_option maxHeartbeats 400000 in
theorem C_chars_n1 {l : Launch} {D : va_G} {cy : Nat → ClassId} {X : (Nat → Prop) → State → Heap → Prop} {aK aV : Nat → Nat} {tO tT : Nat} {gO gT : Nat → Int32} {U E : va_W} {x : Int32} {k : Nat} {ix : Nat} {v : Nat} {m : Nat} {g : Nat → Int32} {tl : List Int32} (hX : EnvS X cy aK aV tO tT gO gT) (hx : x = -(nI k)) (hk0 : 0 < k) (hk : k < 10) (hix : 2 ≤ ix) (him : ix ≤ m) (hm : m < 536870912) (hf : TXT g (ix - 2) tl) : Cm l D cy X yJ6_getChars_ba4f3 cJ6_getChars_ba4f3 7 (some .int) (rmz 0 0) [.int x, .int (nI ix), .ref v] (U ++ (BYO cy v m g :: E)) (fun v1 w1 => ∃ g9 : Nat → Int32, (TXT g9 ix (tl ++ dgN1 gO k)) ∧ v1 = some (.int (nI (ix - 2))) ∧ w1 = U ++ (BYO cy v m g9 :: E)) (fun _ => False) := by
  subst hx
  refine Cm.ofF [some (.int (-(nI k))), some (.int (nI ix)), some (.ref v), none, none, none, none] (plainFor_of_name pn_J6) rfl (Nat.le_of_ble_eq_true rfl) ?_
  intro p e s mI args below meth c A C hE hr hnt hn
  refine r_iload_n C dJ6_getChars_ba4f3_0 rfl ?_
  refine r_istore C dJ6_getChars_ba4f3_1 (by decide) rfl ?_
  refine r_iload_n C dJ6_getChars_ba4f3_3 rfl ?_
  refine r_if_ge (tgt := 11) C dJ6_getChars_ba4f3_4 (by decide) (fun h4_1 => ?_) (fun h4_1 => ?_)
  · exact absurd ((nk_ge0 (by omega)).mp h4_1) (by omega)
  · skip
    refine r_iconst (v := (nI 1)) C dJ6_getChars_ba4f3_7 (by decide) ?_
    refine r_goto (tgt := 12) C dJ6_getChars_ba4f3_8 (by decide) ?_
    refine r_istore C dJ6_getChars_ba4f3_12 (by decide) rfl ?_
    refine r_iload C dJ6_getChars_ba4f3_14 rfl ?_
    refine r_ifN_ne (a := 1) (tgt := 22) C (by first | omega | (simp [up2, *]; done) | (simp [up2, *]; omega) | (simp only [up2_eq]; omega) | (split <;> omega)) dJ6_getChars_ba4f3_16 (by decide) (fun h16_2 => ?_) (fun h16_2 => ?_)
    · skip
      refine r_iload_n C dJ6_getChars_ba4f3_22 rfl ?_
      refine r_bipush (v := (-100)) C dJ6_getChars_ba4f3_23 (by decide) ?_
      refine r_ic_gt (tgt := 72) C dJ6_getChars_ba4f3_25 (by decide) (fun h25_3 => ?_) (fun h25_3 => ?_)
      · skip
        refine r_aload_n C dJ6_getChars_ba4f3_72 rfl ?_
        refine r_idecP C dJ6_getChars_ba4f3_73 rfl (by first | omega | (simp [up2, *]; done) | (simp [up2, *]; omega) | (simp only [up2_eq]; omega) | (split <;> omega)) (by decide) rfl ?_
        refine r_iload C dJ6_getChars_ba4f3_76 rfl ?_
        refine j_do hX C hE qf_J6_83 dJ6_getChars_ba4f3_78 ?_
        refine r_iload_n C dJ6_getChars_ba4f3_81 rfl ?_
        refine r_ineg C dJ6_getChars_ba4f3_82 ?_
        refine r_eqi (y := nI k) (Int32.neg_neg) ?_
        refine j_dol hX C hE (by first | omega | (simp [up2, *]; done) | (simp [up2, *]; omega) | (simp only [up2_eq]; omega) | (split <;> omega)) dJ6_getChars_ba4f3_83 ?_
        refine t_bst C 0 rfl (by first | omega | (simp [up2, *]; done) | (simp [up2, *]; omega) | (simp only [up2_eq]; omega) | (split <;> omega)) (by first | omega | (simp [up2, *]; done) | (simp [up2, *]; omega) | (simp only [up2_eq]; omega) | (split <;> omega)) dJ6_getChars_ba4f3_84 rfl ?_
        refine r_iload_n C dJ6_getChars_ba4f3_85 rfl ?_
        refine r_bipush (v := (-9)) C dJ6_getChars_ba4f3_86 (by decide) ?_
        refine r_ic_ge (tgt := 104) C dJ6_getChars_ba4f3_88 (by decide) (fun h88_4 => ?_) (fun h88_4 => ?_)
        · skip
          refine r_iload C dJ6_getChars_ba4f3_104 rfl ?_
          refine r_ifN_eq (a := 1) (tgt := 118) C (by first | omega | (simp [up2, *]; done) | (simp [up2, *]; omega) | (simp only [up2_eq]; omega) | (split <;> omega)) dJ6_getChars_ba4f3_106 (by decide) (fun h106_5 => ?_) (fun h106_5 => ?_)
          · exact absurd h106_5 (by first | omega | (simp [up2, *]; done) | (simp [up2, *]; omega) | (simp only [up2_eq]; omega) | (split <;> omega))
          · skip
            refine r_aload_n C dJ6_getChars_ba4f3_109 rfl ?_
            refine r_idecP C dJ6_getChars_ba4f3_110 rfl (by first | omega | (simp [up2, *]; done) | (simp [up2, *]; omega) | (simp only [up2_eq]; omega) | (split <;> omega)) (by decide) rfl ?_
            refine r_iload C dJ6_getChars_ba4f3_113 rfl ?_
            refine r_bipush (v := (nI 45)) C dJ6_getChars_ba4f3_115 (by decide) ?_
            refine t_bst C 0 rfl (by first | omega | (simp [up2, *]; done) | (simp [up2, *]; omega) | (simp only [up2_eq]; omega) | (split <;> omega)) (by first | omega | (simp [up2, *]; done) | (simp [up2, *]; omega) | (simp only [up2_eq]; omega) | (split <;> omega)) dJ6_getChars_ba4f3_117 rfl ?_
            refine r_iload C dJ6_getChars_ba4f3_118 rfl ?_
            exact r_iret C hr dJ6_getChars_ba4f3_120 ⟨_, TXT.dn2 hix hf, (by first | rfl | simp only [Nat.sub_sub]), rfl⟩ (by first | (simp only [rmk, rmz]; omega) | (simp only [rmk, rmz]; done) | omega) (by first | (simp only [rmk, rmz]; omega) | (simp only [rmk, rmz]; done) | omega)
        · exact absurd ((nk_ge9 (by omega)).mpr (by omega)) h88_4
      · exact absurd ((nk_gt100 (by omega)).mpr (by omega)) h25_3
    · exact absurd h16_2 (by first | omega | (simp [up2, *]; done) | (simp [up2, *]; omega) | (simp only [up2_eq]; omega) | (split <;> omega))
set_option maxRecDepth 100000 in
set_option maxHeartbeats 400000 in
theorem C_size_n2 {l : Launch} {D : va_G} {cy : Nat → ClassId} {X : (Nat → Prop) → State → Heap → Prop} {w : va_W} {x : Int32} {k : Nat}  (hx : x = -(nI k)) (hk0 : 10 ≤ k) (hk : k < 100) : Cm l D cy X yJ6_stringSize_0f7a4 cJ6_stringSize_0f7a4 4 (some .int) (rmz 0 0) [.int x] (w) (fun v1 w1 => v1 = some (.int (nI 3)) ∧ w1 = w) (fun _ => False) := by
  subst hx
  refine Cm.ofF [some (.int (-(nI k))), none, none, none] (plainFor_of_name pn_J6) rfl (Nat.le_of_ble_eq_true rfl) ?_
  intro p e s mI args below meth c A C hE hr hnt hn
  refine r_iconst (v := (nI 1)) C dJ6_stringSize_0f7a4_0 (by decide) ?_
  refine r_istore_n C dJ6_stringSize_0f7a4_1 (by decide) rfl ?_
  refine r_iload_n C dJ6_stringSize_0f7a4_2 rfl ?_
  refine r_if_lt (tgt := 11) C dJ6_stringSize_0f7a4_3 (by decide) (fun h3_1 => ?_) (fun h3_1 => ?_)
  · skip
    refine r_bipush (v := (-10)) C dJ6_stringSize_0f7a4_11 (by decide) ?_
    refine r_istore_n C dJ6_stringSize_0f7a4_13 (by decide) rfl ?_
    refine r_iconst (v := (nI 1)) C dJ6_stringSize_0f7a4_14 (by decide) ?_
    refine r_istore_n C dJ6_stringSize_0f7a4_15 (by decide) rfl ?_
    refine r_iload_n C dJ6_stringSize_0f7a4_16 rfl ?_
    refine r_bipush (v := (nI 10)) C dJ6_stringSize_0f7a4_17 (by decide) ?_
    refine r_icN_ge (a := 1) (b := 10) (tgt := 42) C (by first | omega | (simp [up2, *]; done) | (simp [up2, *]; omega) | (simp only [up2_eq]; omega) | (split <;> omega)) (by first | omega | (simp [up2, *]; done) | (simp [up2, *]; omega) | (simp only [up2_eq]; omega) | (split <;> omega)) dJ6_stringSize_0f7a4_19 (by decide) (fun h19_2 => ?_) (fun h19_2 => ?_)
    · exact absurd h19_2 (by first | omega | (simp [up2, *]; done) | (simp [up2, *]; omega) | (simp only [up2_eq]; omega) | (split <;> omega))
    · skip
      refine r_iload_n C dJ6_stringSize_0f7a4_22 rfl ?_
      refine r_iload_n C dJ6_stringSize_0f7a4_23 rfl ?_
      refine r_ic_le (tgt := 31) C dJ6_stringSize_0f7a4_24 (by decide) (fun h24_3 => ?_) (fun h24_3 => ?_)
      · skip
        refine r_bipush (v := (nI 10)) C dJ6_stringSize_0f7a4_31 (by decide) ?_
        refine r_iload_n C dJ6_stringSize_0f7a4_33 rfl ?_
        refine r_imul C dJ6_stringSize_0f7a4_34 ?_
        refine r_istore_n C dJ6_stringSize_0f7a4_35 (by decide) rfl ?_
        refine r_iincN C dJ6_stringSize_0f7a4_36 rfl (by decide) rfl ?_
        refine r_goto (tgt := 16) C dJ6_stringSize_0f7a4_39 (by decide) ?_
        refine r_iload_n C dJ6_stringSize_0f7a4_16 rfl ?_
        refine r_bipush (v := (nI 10)) C dJ6_stringSize_0f7a4_17 (by decide) ?_
        refine r_icN_ge (a := (1 + 1)) (b := 10) (tgt := 42) C (by first | omega | (simp [up2, *]; done) | (simp [up2, *]; omega) | (simp only [up2_eq]; omega) | (split <;> omega)) (by first | omega | (simp [up2, *]; done) | (simp [up2, *]; omega) | (simp only [up2_eq]; omega) | (split <;> omega)) dJ6_stringSize_0f7a4_19 (by decide) (fun h19_4 => ?_) (fun h19_4 => ?_)
        · exact absurd h19_4 (by first | omega | (simp [up2, *]; done) | (simp [up2, *]; omega) | (simp only [up2_eq]; omega) | (split <;> omega))
        · skip
          refine r_iload_n C dJ6_stringSize_0f7a4_22 rfl ?_
          refine r_iload_n C dJ6_stringSize_0f7a4_23 rfl ?_
          refine r_ic_le (tgt := 31) C dJ6_stringSize_0f7a4_24 (by decide) (fun h24_5 => ?_) (fun h24_5 => ?_)
          · exact absurd ((nk_le2 (by omega)).mp h24_5) (by omega)
          · skip
            refine r_iload_n C dJ6_stringSize_0f7a4_27 rfl ?_
            refine r_iload_n C dJ6_stringSize_0f7a4_28 rfl ?_
            refine r_iaddN C dJ6_stringSize_0f7a4_29 ?_
            exact r_iret C hr dJ6_stringSize_0f7a4_30 ⟨rfl, rfl⟩ (by first | (simp only [rmk, rmz]; omega) | (simp only [rmk, rmz]; done) | omega) (by first | (simp only [rmk, rmz]; omega) | (simp only [rmk, rmz]; done) | omega)
      · exact absurd ((nk_le (by omega)).mpr (by omega)) h24_3
  · exact absurd ((nk_lt0 (by omega)).mpr (by omega)) h3_1
set_option maxRecDepth 100000 in
set_option maxHeartbeats 400000 in
theorem C_chars_n2 {l : Launch} {D : va_G} {cy : Nat → ClassId} {X : (Nat → Prop) → State → Heap → Prop} {aK aV : Nat → Nat} {tO tT : Nat} {gO gT : Nat → Int32} {U E : va_W} {x : Int32} {k : Nat} {ix : Nat} {v : Nat} {m : Nat} {g : Nat → Int32} {tl : List Int32} (hX : EnvS X cy aK aV tO tT gO gT) (hx : x = -(nI k)) (hk0 : 10 ≤ k) (hk : k < 100) (hix : 3 ≤ ix) (him : ix ≤ m) (hm : m < 536870912) (hf : TXT g (ix - 3) tl) : Cm l D cy X yJ6_getChars_ba4f3 cJ6_getChars_ba4f3 7 (some .int) (rmz 0 0) [.int x, .int (nI ix), .ref v] (U ++ (BYO cy v m g :: E)) (fun v1 w1 => ∃ g9 : Nat → Int32, (TXT g9 ix (tl ++ dgN2 gO gT k)) ∧ v1 = some (.int (nI (ix - 3))) ∧ w1 = U ++ (BYO cy v m g9 :: E)) (fun _ => False) := by
  subst hx
  refine Cm.ofF [some (.int (-(nI k))), some (.int (nI ix)), some (.ref v), none, none, none, none] (plainFor_of_name pn_J6) rfl (Nat.le_of_ble_eq_true rfl) ?_
  intro p e s mI args below meth c A C hE hr hnt hn
  refine r_iload_n C dJ6_getChars_ba4f3_0 rfl ?_
  refine r_istore C dJ6_getChars_ba4f3_1 (by decide) rfl ?_
  refine r_iload_n C dJ6_getChars_ba4f3_3 rfl ?_
  refine r_if_ge (tgt := 11) C dJ6_getChars_ba4f3_4 (by decide) (fun h4_1 => ?_) (fun h4_1 => ?_)
  · exact absurd ((nk_ge0 (by omega)).mp h4_1) (by omega)
  · skip
    refine r_iconst (v := (nI 1)) C dJ6_getChars_ba4f3_7 (by decide) ?_
    refine r_goto (tgt := 12) C dJ6_getChars_ba4f3_8 (by decide) ?_
    refine r_istore C dJ6_getChars_ba4f3_12 (by decide) rfl ?_
    refine r_iload C dJ6_getChars_ba4f3_14 rfl ?_
    refine r_ifN_ne (a := 1) (tgt := 22) C (by first | omega | (simp [up2, *]; done) | (simp [up2, *]; omega) | (simp only [up2_eq]; omega) | (split <;> omega)) dJ6_getChars_ba4f3_16 (by decide) (fun h16_2 => ?_) (fun h16_2 => ?_)
    · skip
      refine r_iload_n C dJ6_getChars_ba4f3_22 rfl ?_
      refine r_bipush (v := (-100)) C dJ6_getChars_ba4f3_23 (by decide) ?_
      refine r_ic_gt (tgt := 72) C dJ6_getChars_ba4f3_25 (by decide) (fun h25_3 => ?_) (fun h25_3 => ?_)
      · skip
        refine r_aload_n C dJ6_getChars_ba4f3_72 rfl ?_
        refine r_idecP C dJ6_getChars_ba4f3_73 rfl (by first | omega | (simp [up2, *]; done) | (simp [up2, *]; omega) | (simp only [up2_eq]; omega) | (split <;> omega)) (by decide) rfl ?_
        refine r_iload C dJ6_getChars_ba4f3_76 rfl ?_
        refine j_do hX C hE qf_J6_83 dJ6_getChars_ba4f3_78 ?_
        refine r_iload_n C dJ6_getChars_ba4f3_81 rfl ?_
        refine r_ineg C dJ6_getChars_ba4f3_82 ?_
        refine r_eqi (y := nI k) (Int32.neg_neg) ?_
        refine j_dol hX C hE (by first | omega | (simp [up2, *]; done) | (simp [up2, *]; omega) | (simp only [up2_eq]; omega) | (split <;> omega)) dJ6_getChars_ba4f3_83 ?_
        refine t_bst C 0 rfl (by first | omega | (simp [up2, *]; done) | (simp [up2, *]; omega) | (simp only [up2_eq]; omega) | (split <;> omega)) (by first | omega | (simp [up2, *]; done) | (simp [up2, *]; omega) | (simp only [up2_eq]; omega) | (split <;> omega)) dJ6_getChars_ba4f3_84 rfl ?_
        refine r_iload_n C dJ6_getChars_ba4f3_85 rfl ?_
        refine r_bipush (v := (-9)) C dJ6_getChars_ba4f3_86 (by decide) ?_
        refine r_ic_ge (tgt := 104) C dJ6_getChars_ba4f3_88 (by decide) (fun h88_4 => ?_) (fun h88_4 => ?_)
        · exact absurd ((nk_ge9 (by omega)).mp h88_4) (by omega)
        · skip
          refine r_aload_n C dJ6_getChars_ba4f3_91 rfl ?_
          refine r_idecP C dJ6_getChars_ba4f3_92 rfl (by first | omega | (simp [up2, *]; done) | (simp [up2, *]; omega) | (simp only [up2_eq]; omega) | (split <;> omega)) (by decide) rfl ?_
          refine r_iload C dJ6_getChars_ba4f3_95 rfl ?_
          refine j_dt hX C hE qf_J6_87 dJ6_getChars_ba4f3_97 ?_
          refine r_iload_n C dJ6_getChars_ba4f3_100 rfl ?_
          refine r_ineg C dJ6_getChars_ba4f3_101 ?_
          refine r_eqi (y := nI k) (Int32.neg_neg) ?_
          refine j_dtl hX C hE (by first | omega | (simp [up2, *]; done) | (simp [up2, *]; omega) | (simp only [up2_eq]; omega) | (split <;> omega)) dJ6_getChars_ba4f3_102 ?_
          refine t_bst C 0 rfl (by first | omega | (simp [up2, *]; done) | (simp [up2, *]; omega) | (simp only [up2_eq]; omega) | (split <;> omega)) (by first | omega | (simp [up2, *]; done) | (simp [up2, *]; omega) | (simp only [up2_eq]; omega) | (split <;> omega)) dJ6_getChars_ba4f3_103 rfl ?_
          refine r_iload C dJ6_getChars_ba4f3_104 rfl ?_
          refine r_ifN_eq (a := 1) (tgt := 118) C (by first | omega | (simp [up2, *]; done) | (simp [up2, *]; omega) | (simp only [up2_eq]; omega) | (split <;> omega)) dJ6_getChars_ba4f3_106 (by decide) (fun h106_5 => ?_) (fun h106_5 => ?_)
          · exact absurd h106_5 (by first | omega | (simp [up2, *]; done) | (simp [up2, *]; omega) | (simp only [up2_eq]; omega) | (split <;> omega))
          · skip
            refine r_aload_n C dJ6_getChars_ba4f3_109 rfl ?_
            refine r_idecP C dJ6_getChars_ba4f3_110 rfl (by first | omega | (simp [up2, *]; done) | (simp [up2, *]; omega) | (simp only [up2_eq]; omega) | (split <;> omega)) (by decide) rfl ?_
            refine r_iload C dJ6_getChars_ba4f3_113 rfl ?_
            refine r_bipush (v := (nI 45)) C dJ6_getChars_ba4f3_115 (by decide) ?_
            refine t_bst C 0 rfl (by first | omega | (simp [up2, *]; done) | (simp [up2, *]; omega) | (simp only [up2_eq]; omega) | (split <;> omega)) (by first | omega | (simp [up2, *]; done) | (simp [up2, *]; omega) | (simp only [up2_eq]; omega) | (split <;> omega)) dJ6_getChars_ba4f3_117 rfl ?_
            refine r_iload C dJ6_getChars_ba4f3_118 rfl ?_
            exact r_iret C hr dJ6_getChars_ba4f3_120 ⟨_, TXT.dn3 hix hf, (by first | rfl | simp only [Nat.sub_sub]), rfl⟩ (by first | (simp only [rmk, rmz]; omega) | (simp only [rmk, rmz]; done) | omega) (by first | (simp only [rmk, rmz]; omega) | (simp only [rmk, rmz]; done) | omega)
      · exact absurd ((nk_gt100 (by omega)).mpr (by omega)) h25_3
    · exact absurd h16_2 (by first | omega | (simp [up2, *]; done) | (simp [up2, *]; omega) | (simp only [up2_eq]; omega) | (split <;> omega))
theorem dJ5_append_c97b9_0 : decode cJ5_append_c97b9 0 = .ok (.aload_n 0, 1) := dqo_42 (kb_of ke_J5_append_c97b9 0 rfl)
theorem dJ5_append_c97b9_1 : decode cJ5_append_c97b9 1 = .ok (.getfield 79, 3) := dqo_180 0 79 (kb_of ke_J5_append_c97b9 1 rfl) (kb_of ke_J5_append_c97b9 2 rfl) (kb_of ke_J5_append_c97b9 3 rfl)
theorem dJ5_append_c97b9_4 : decode cJ5_append_c97b9 4 = .ok (.istore_n 2, 1) := dqo_61 (kb_of ke_J5_append_c97b9 4 rfl)
theorem dJ5_append_c97b9_5 : decode cJ5_append_c97b9 5 = .ok (.iload_n 2, 1) := dqo_28 (kb_of ke_J5_append_c97b9 5 rfl)
theorem dJ5_append_c97b9_6 : decode cJ5_append_c97b9 6 = .ok (.iload_n 1, 1) := dqo_27 (kb_of ke_J5_append_c97b9 6 rfl)
theorem dJ5_append_c97b9_7 : decode cJ5_append_c97b9 7 = .ok (.invokestatic 245, 3) := dqo_184 0 245 (kb_of ke_J5_append_c97b9 7 rfl) (kb_of ke_J5_append_c97b9 8 rfl) (kb_of ke_J5_append_c97b9 9 rfl)
theorem dJ5_append_c97b9_10 : decode cJ5_append_c97b9 10 = .ok (.iadd, 1) := dqo_96 (kb_of ke_J5_append_c97b9 10 rfl)
theorem dJ5_append_c97b9_11 : decode cJ5_append_c97b9 11 = .ok (.istore_n 3, 1) := dqo_62 (kb_of ke_J5_append_c97b9 11 rfl)
theorem dJ5_append_c97b9_12 : decode cJ5_append_c97b9 12 = .ok (.aload_n 0, 1) := dqo_42 (kb_of ke_J5_append_c97b9 12 rfl)
theorem dJ5_append_c97b9_13 : decode cJ5_append_c97b9 13 = .ok (.iload_n 3, 1) := dqo_29 (kb_of ke_J5_append_c97b9 13 rfl)
theorem dJ5_append_c97b9_14 : decode cJ5_append_c97b9 14 = .ok (.invokevirtual 100, 3) := dqo_182 0 100 (kb_of ke_J5_append_c97b9 14 rfl) (kb_of ke_J5_append_c97b9 15 rfl) (kb_of ke_J5_append_c97b9 16 rfl)
theorem dJ5_append_c97b9_17 : decode cJ5_append_c97b9 17 = .ok (.aload_n 0, 1) := dqo_42 (kb_of ke_J5_append_c97b9 17 rfl)
theorem dJ5_append_c97b9_18 : decode cJ5_append_c97b9 18 = .ok (.invokevirtual 83, 3) := dqo_182 0 83 (kb_of ke_J5_append_c97b9 18 rfl) (kb_of ke_J5_append_c97b9 19 rfl) (kb_of ke_J5_append_c97b9 20 rfl)
theorem dJ5_append_c97b9_21 : decode cJ5_append_c97b9 21 = .ok (.ifCond .eq 16, 3) := dqo_153 0 16 (by decide) (kb_of ke_J5_append_c97b9 21 rfl) (kb_of ke_J5_append_c97b9 22 rfl) (kb_of ke_J5_append_c97b9 23 rfl)
theorem dJ5_append_c97b9_24 : decode cJ5_append_c97b9 24 = .ok (.iload_n 1, 1) := dqo_27 (kb_of ke_J5_append_c97b9 24 rfl)
theorem dJ5_append_c97b9_25 : decode cJ5_append_c97b9 25 = .ok (.iload_n 3, 1) := dqo_29 (kb_of ke_J5_append_c97b9 25 rfl)
theorem dJ5_append_c97b9_26 : decode cJ5_append_c97b9 26 = .ok (.aload_n 0, 1) := dqo_42 (kb_of ke_J5_append_c97b9 26 rfl)
theorem dJ5_append_c97b9_27 : decode cJ5_append_c97b9 27 = .ok (.getfield 15, 3) := dqo_180 0 15 (kb_of ke_J5_append_c97b9 27 rfl) (kb_of ke_J5_append_c97b9 28 rfl) (kb_of ke_J5_append_c97b9 29 rfl)
theorem dJ5_append_c97b9_30 : decode cJ5_append_c97b9 30 = .ok (.invokestatic 248, 3) := dqo_184 0 248 (kb_of ke_J5_append_c97b9 30 rfl) (kb_of ke_J5_append_c97b9 31 rfl) (kb_of ke_J5_append_c97b9 32 rfl)
theorem dJ5_append_c97b9_33 : decode cJ5_append_c97b9 33 = .ok (.pop, 1) := dqo_87 (kb_of ke_J5_append_c97b9 33 rfl)
theorem dJ5_append_c97b9_34 : decode cJ5_append_c97b9 34 = .ok (.goto 14, 3) := dqo_167 0 14 (by decide) (kb_of ke_J5_append_c97b9 34 rfl) (kb_of ke_J5_append_c97b9 35 rfl) (kb_of ke_J5_append_c97b9 36 rfl)
theorem dJ5_append_c97b9_48 : decode cJ5_append_c97b9 48 = .ok (.aload_n 0, 1) := dqo_42 (kb_of ke_J5_append_c97b9 48 rfl)
theorem dJ5_append_c97b9_49 : decode cJ5_append_c97b9 49 = .ok (.iload_n 3, 1) := dqo_29 (kb_of ke_J5_append_c97b9 49 rfl)
theorem dJ5_append_c97b9_50 : decode cJ5_append_c97b9 50 = .ok (.putfield 79, 3) := dqo_181 0 79 (kb_of ke_J5_append_c97b9 50 rfl) (kb_of ke_J5_append_c97b9 51 rfl) (kb_of ke_J5_append_c97b9 52 rfl)
theorem dJ5_append_c97b9_53 : decode cJ5_append_c97b9 53 = .ok (.aload_n 0, 1) := dqo_42 (kb_of ke_J5_append_c97b9 53 rfl)
theorem dJ5_append_c97b9_54 : decode cJ5_append_c97b9 54 = .ok (.areturn, 1) := dqo_176 (kb_of ke_J5_append_c97b9 54 rfl)
theorem pk_J6_getChars_ba4f3 : PkS yJ6_getChars_ba4f3 cJ6_getChars_ba4f3 7 (some .int) 3 := ⟨⟨qt_J6_getChars_ba4f3, qz_J6, qc_J6_getChars_ba4f3⟩, mh_J6.1, mh_J6.2, pd_33⟩
theorem pk_J6_stringSize_0f7a4 : PkS yJ6_stringSize_0f7a4 cJ6_stringSize_0f7a4 4 (some .int) 1 := ⟨⟨qt_J6_stringSize_0f7a4, qz_J6, qc_J6_stringSize_0f7a4⟩, mh_J6.1, mh_J6.2, pd_1⟩
set_option maxRecDepth 100000 in
set_option maxHeartbeats 400000 in
theorem C_asbInt_p1 {l : Launch} {D : va_G} {cy : Nat → ClassId} {X : (Nat → Prop) → State → Heap → Prop} {aK aV : Nat → Nat} {tO tT : Nat} {gO gT : Nat → Int32} {U E : va_W} {b : Nat} {v : Nat} {m : Nat} {n : Nat} {g : Nat → Int32} {ml : Int32} {tl : List Int32} {x : Int32} {k : Nat} (hX : EnvS X cy aK aV tO tT gO gT) (hm : m ≤ 65536) (hnm : n ≤ m) (hf : TXT g n tl) (hx : x = nI k) (hk : k < 10) : Cm l D cy X yJ5_append_c97b9 cJ5_append_c97b9 4 (some (.object "java/lang/AbstractStringBuilder")) (rmk 4 (gC (n + 1) m) (gS (n + 1) m) 160) [.ref b, .int x] (U ++ (SBO b v ml n :: BYO cy v m g :: E)) (fun v1 w1 => ∃ v9 : Nat, ∃ g9 : Nat → Int32, (TXT g9 (n + 1) (tl ++ dgP1 gO k)) ∧ v1 = some (.ref b) ∧ w1 = U ++ (SBO b v9 ml (n + 1) :: BYO cy v9 (sb_cap (n + 1) m) g9 :: E)) (fun _ => False) := by
  refine Cm.ofF [some (.ref b), some (.int x), none, none] (plainFor_of_name pn_J5) rfl (Nat.le_of_ble_eq_true rfl) ?_
  intro p e s mI args below meth c A C hE hr hnt hn
  refine r_aload_n C dJ5_append_c97b9_0 rfl ?_
  refine t_sbg C 0 3 rfl (by decide) qf_J5_79 rfl rfl dJ5_append_c97b9_1 ?_
  refine r_istore_n C dJ5_append_c97b9_4 (by decide) rfl ?_
  refine r_iload_n C dJ5_append_c97b9_5 rfl ?_
  refine r_iload_n C dJ5_append_c97b9_6 rfl ?_
  refine c_S (st := [.int (nI n)]) hX.stb C hE (C_size_p1 (w := U ++ (SBO b v ml n :: BYO cy v m g :: E)) (x := x) hx (by first | omega | (simp [up2, *]; done) | (simp [up2, *]; omega) | (simp only [up2_eq]; omega) | (split <;> omega))) pk_J6_stringSize_0f7a4 qm_J5_245 rfl rfl (Nat.le_of_ble_eq_true rfl) dJ5_append_c97b9_7 ⟨Nat.le_of_ble_eq_true rfl, Nat.le_of_ble_eq_true rfl⟩ ⟨by first | (simp only [rmk, rmz]; omega) | (simp only [rmk, rmz]; done) | omega, by first | (simp only [rmk, rmz]; omega) | (simp only [rmk, rmz]; done) | omega⟩ (fun v9 w9 h9 => ?_) (fun _ h9 => h9.elim)
  obtain ⟨rfl, rfl⟩ := h9
  refine r_iaddN C dJ5_append_c97b9_10 ?_
  refine r_istore_n C dJ5_append_c97b9_11 (by decide) rfl ?_
  refine r_aload_n C dJ5_append_c97b9_12 rfl ?_
  refine r_iload_n C dJ5_append_c97b9_13 rfl ?_
  refine c_U (st := []) hX C hE (C_ensure (U := U) (E := E) (b := b) (v := v) (m := m) (n := n) (g := g) (ml := ml) (q := (n + 1)) hX (by first | omega | (simp [up2, *]; done) | (simp [up2, *]; omega) | (simp only [up2_eq]; omega) | (split <;> omega)) (by first | omega | (simp [up2, *]; done) | (simp [up2, *]; omega) | (simp only [up2_eq]; omega) | (split <;> omega)) hf.1) pk_J5_ensureCapacityInternal_d00df qm_J5_100 (U.length + 0) (us_g rfl) rfl rfl (Nat.le_of_ble_eq_true rfl) dJ5_append_c97b9_14 ⟨Nat.le_of_ble_eq_true rfl, Nat.le_of_ble_eq_true rfl⟩ ⟨by first | (simp only [rmk, rmz]; omega) | (simp only [rmk, rmz]; done) | omega, by first | (simp only [rmk, rmz]; omega) | (simp only [rmk, rmz]; done) | omega⟩ (fun v9 w9 h9 => ?_) (fun _ h9 => h9.elim)
  obtain ⟨v9_1, g9_2, f_3, rfl, rfl⟩ := h9
  have hcg := sb_cap_ge (n + 1) m
  have hcl := cap_lt (q := n + 1) hm (by omega)
  refine r_aload_n C dJ5_append_c97b9_17 rfl ?_
  refine c_U (st := []) hX C hE (C_isLatin1 (U := U) (E := (BYO cy v9_1 (sb_cap (n + 1) m) g9_2 :: E)) (b := b) (v := v9_1) (n := n) (ml := ml) hX ) pk_J5_isLatin1_aae02 qm_J5_83 (U.length + 0) (us_g rfl) rfl rfl (Nat.le_of_ble_eq_true rfl) dJ5_append_c97b9_18 ⟨Nat.le_of_ble_eq_true rfl, Nat.le_of_ble_eq_true rfl⟩ ⟨by first | (simp only [rmk, rmz]; omega) | (simp only [rmk, rmz]; done) | omega, by first | (simp only [rmk, rmz]; omega) | (simp only [rmk, rmz]; done) | omega⟩ (fun v9 w9 h9 => ?_) (fun _ h9 => h9.elim)
  obtain ⟨rfl, rfl⟩ := h9
  refine r_ifN_eq (a := 1) (tgt := 37) C (by first | omega | (simp [up2, *]; done) | (simp [up2, *]; omega) | (simp only [up2_eq]; omega) | (split <;> omega)) dJ5_append_c97b9_21 (by decide) (fun h21_4 => ?_) (fun h21_4 => ?_)
  · exact absurd h21_4 (by first | omega | (simp [up2, *]; done) | (simp [up2, *]; omega) | (simp only [up2_eq]; omega) | (split <;> omega))
  · skip
    refine r_iload_n C dJ5_append_c97b9_24 rfl ?_
    refine r_iload_n C dJ5_append_c97b9_25 rfl ?_
    refine r_aload_n C dJ5_append_c97b9_26 rfl ?_
    refine t_sbg C 0 0 rfl (by decide) qf_J5_15 rfl rfl dJ5_append_c97b9_27 ?_
    refine t_perm [SBO b v9_1 ml n, BYO cy v9_1 (sb_cap (n + 1) m) g9_2] [BYO cy v9_1 (sb_cap (n + 1) m) g9_2, SBO b v9_1 ml n] [1, 0] rfl (by decide) rfl (w' := U ++ (BYO cy v9_1 (sb_cap (n + 1) m) g9_2 :: SBO b v9_1 ml n :: E)) rfl ?_
    refine c_S (st := []) hX.stb C hE (C_chars_p1 (U := U) (E := (SBO b v9_1 ml n :: E)) (x := x) (ix := (n + 1)) (v := v9_1) (m := (sb_cap (n + 1) m)) (g := g9_2) hX hx (by first | omega | (simp [up2, *]; done) | (simp [up2, *]; omega) | (simp only [up2_eq]; omega) | (split <;> omega)) (by first | omega | (simp [up2, *]; done) | (simp [up2, *]; omega) | (simp only [up2_eq]; omega) | (split <;> omega)) (by omega) (by omega) (hf.keep f_3.1 (fun q hq => f_3.2 q (by omega)))) pk_J6_getChars_ba4f3 qm_J5_248 rfl rfl (Nat.le_of_ble_eq_true rfl) dJ5_append_c97b9_30 ⟨Nat.le_of_ble_eq_true rfl, Nat.le_of_ble_eq_true rfl⟩ ⟨by first | (simp only [rmk, rmz]; omega) | (simp only [rmk, rmz]; done) | omega, by first | (simp only [rmk, rmz]; omega) | (simp only [rmk, rmz]; done) | omega⟩ (fun v9 w9 h9 => ?_) (fun _ h9 => h9.elim)
    obtain ⟨g9_5, f_6, rfl, rfl⟩ := h9
    refine r_pop C dJ5_append_c97b9_33 rfl ?_
    refine r_goto (tgt := 48) C dJ5_append_c97b9_34 (by decide) ?_
    refine t_perm [BYO cy v9_1 (sb_cap (n + 1) m) g9_5, SBO b v9_1 ml n] [SBO b v9_1 ml n, BYO cy v9_1 (sb_cap (n + 1) m) g9_5] [1, 0] rfl (by decide) rfl (w' := U ++ (SBO b v9_1 ml n :: BYO cy v9_1 (sb_cap (n + 1) m) g9_5 :: E)) rfl ?_
    refine r_aload_n C dJ5_append_c97b9_48 rfl ?_
    refine r_iload_n C dJ5_append_c97b9_49 rfl ?_
    refine t_sbp (ty := .int) C 0 3 rfl (by decide) rfl qf_J5_79 rfl rfl rfl rfl rfl dJ5_append_c97b9_50 (L' := (SBO b v9_1 ml (n + 1) :: BYO cy v9_1 (sb_cap (n + 1) m) g9_5 :: E)) rfl ?_
    refine r_aload_n C dJ5_append_c97b9_53 rfl ?_
    exact r_aret C hr (Or.inl ⟨_, rfl⟩) dJ5_append_c97b9_54 ⟨v9_1, g9_5, f_6, rfl, rfl⟩ (by first | (simp only [rmk, rmz]; omega) | (simp only [rmk, rmz]; done) | omega) (by first | (simp only [rmk, rmz]; omega) | (simp only [rmk, rmz]; done) | omega)
set_option maxRecDepth 100000 in
set_option maxHeartbeats 400000 in
theorem C_asbInt_p2 {l : Launch} {D : va_G} {cy : Nat → ClassId} {X : (Nat → Prop) → State → Heap → Prop} {aK aV : Nat → Nat} {tO tT : Nat} {gO gT : Nat → Int32} {U E : va_W} {b : Nat} {v : Nat} {m : Nat} {n : Nat} {g : Nat → Int32} {ml : Int32} {tl : List Int32} {x : Int32} {k : Nat} (hX : EnvS X cy aK aV tO tT gO gT) (hm : m ≤ 65536) (hnm : n ≤ m) (hf : TXT g n tl) (hx : x = nI k) (hk0 : 10 ≤ k) (hk : k < 100) : Cm l D cy X yJ5_append_c97b9 cJ5_append_c97b9 4 (some (.object "java/lang/AbstractStringBuilder")) (rmk 4 (gC (n + 2) m) (gS (n + 2) m) 160) [.ref b, .int x] (U ++ (SBO b v ml n :: BYO cy v m g :: E)) (fun v1 w1 => ∃ v9 : Nat, ∃ g9 : Nat → Int32, (TXT g9 (n + 2) (tl ++ dgP2 gO gT k)) ∧ v1 = some (.ref b) ∧ w1 = U ++ (SBO b v9 ml (n + 2) :: BYO cy v9 (sb_cap (n + 2) m) g9 :: E)) (fun _ => False) := by
  refine Cm.ofF [some (.ref b), some (.int x), none, none] (plainFor_of_name pn_J5) rfl (Nat.le_of_ble_eq_true rfl) ?_
  intro p e s mI args below meth c A C hE hr hnt hn
  refine r_aload_n C dJ5_append_c97b9_0 rfl ?_
  refine t_sbg C 0 3 rfl (by decide) qf_J5_79 rfl rfl dJ5_append_c97b9_1 ?_
  refine r_istore_n C dJ5_append_c97b9_4 (by decide) rfl ?_
  refine r_iload_n C dJ5_append_c97b9_5 rfl ?_
  refine r_iload_n C dJ5_append_c97b9_6 rfl ?_
  refine c_S (st := [.int (nI n)]) hX.stb C hE (C_size_p2 (w := U ++ (SBO b v ml n :: BYO cy v m g :: E)) (x := x) hx (by first | omega | (simp [up2, *]; done) | (simp [up2, *]; omega) | (simp only [up2_eq]; omega) | (split <;> omega)) (by first | omega | (simp [up2, *]; done) | (simp [up2, *]; omega) | (simp only [up2_eq]; omega) | (split <;> omega))) pk_J6_stringSize_0f7a4 qm_J5_245 rfl rfl (Nat.le_of_ble_eq_true rfl) dJ5_append_c97b9_7 ⟨Nat.le_of_ble_eq_true rfl, Nat.le_of_ble_eq_true rfl⟩ ⟨by first | (simp only [rmk, rmz]; omega) | (simp only [rmk, rmz]; done) | omega, by first | (simp only [rmk, rmz]; omega) | (simp only [rmk, rmz]; done) | omega⟩ (fun v9 w9 h9 => ?_) (fun _ h9 => h9.elim)
  obtain ⟨rfl, rfl⟩ := h9
  refine r_iaddN C dJ5_append_c97b9_10 ?_
  refine r_istore_n C dJ5_append_c97b9_11 (by decide) rfl ?_
  refine r_aload_n C dJ5_append_c97b9_12 rfl ?_
  refine r_iload_n C dJ5_append_c97b9_13 rfl ?_
  refine c_U (st := []) hX C hE (C_ensure (U := U) (E := E) (b := b) (v := v) (m := m) (n := n) (g := g) (ml := ml) (q := (n + 2)) hX (by first | omega | (simp [up2, *]; done) | (simp [up2, *]; omega) | (simp only [up2_eq]; omega) | (split <;> omega)) (by first | omega | (simp [up2, *]; done) | (simp [up2, *]; omega) | (simp only [up2_eq]; omega) | (split <;> omega)) hf.1) pk_J5_ensureCapacityInternal_d00df qm_J5_100 (U.length + 0) (us_g rfl) rfl rfl (Nat.le_of_ble_eq_true rfl) dJ5_append_c97b9_14 ⟨Nat.le_of_ble_eq_true rfl, Nat.le_of_ble_eq_true rfl⟩ ⟨by first | (simp only [rmk, rmz]; omega) | (simp only [rmk, rmz]; done) | omega, by first | (simp only [rmk, rmz]; omega) | (simp only [rmk, rmz]; done) | omega⟩ (fun v9 w9 h9 => ?_) (fun _ h9 => h9.elim)
  obtain ⟨v9_1, g9_2, f_3, rfl, rfl⟩ := h9
  have hcg := sb_cap_ge (n + 2) m
  have hcl := cap_lt (q := n + 2) hm (by omega)
  refine r_aload_n C dJ5_append_c97b9_17 rfl ?_
  refine c_U (st := []) hX C hE (C_isLatin1 (U := U) (E := (BYO cy v9_1 (sb_cap (n + 2) m) g9_2 :: E)) (b := b) (v := v9_1) (n := n) (ml := ml) hX ) pk_J5_isLatin1_aae02 qm_J5_83 (U.length + 0) (us_g rfl) rfl rfl (Nat.le_of_ble_eq_true rfl) dJ5_append_c97b9_18 ⟨Nat.le_of_ble_eq_true rfl, Nat.le_of_ble_eq_true rfl⟩ ⟨by first | (simp only [rmk, rmz]; omega) | (simp only [rmk, rmz]; done) | omega, by first | (simp only [rmk, rmz]; omega) | (simp only [rmk, rmz]; done) | omega⟩ (fun v9 w9 h9 => ?_) (fun _ h9 => h9.elim)
  obtain ⟨rfl, rfl⟩ := h9
  refine r_ifN_eq (a := 1) (tgt := 37) C (by first | omega | (simp [up2, *]; done) | (simp [up2, *]; omega) | (simp only [up2_eq]; omega) | (split <;> omega)) dJ5_append_c97b9_21 (by decide) (fun h21_4 => ?_) (fun h21_4 => ?_)
  · exact absurd h21_4 (by first | omega | (simp [up2, *]; done) | (simp [up2, *]; omega) | (simp only [up2_eq]; omega) | (split <;> omega))
  · skip
    refine r_iload_n C dJ5_append_c97b9_24 rfl ?_
    refine r_iload_n C dJ5_append_c97b9_25 rfl ?_
    refine r_aload_n C dJ5_append_c97b9_26 rfl ?_
    refine t_sbg C 0 0 rfl (by decide) qf_J5_15 rfl rfl dJ5_append_c97b9_27 ?_
    refine t_perm [SBO b v9_1 ml n, BYO cy v9_1 (sb_cap (n + 2) m) g9_2] [BYO cy v9_1 (sb_cap (n + 2) m) g9_2, SBO b v9_1 ml n] [1, 0] rfl (by decide) rfl (w' := U ++ (BYO cy v9_1 (sb_cap (n + 2) m) g9_2 :: SBO b v9_1 ml n :: E)) rfl ?_
    refine c_S (st := []) hX.stb C hE (C_chars_p2 (U := U) (E := (SBO b v9_1 ml n :: E)) (x := x) (ix := (n + 2)) (v := v9_1) (m := (sb_cap (n + 2) m)) (g := g9_2) hX hx (by first | omega | (simp [up2, *]; done) | (simp [up2, *]; omega) | (simp only [up2_eq]; omega) | (split <;> omega)) (by first | omega | (simp [up2, *]; done) | (simp [up2, *]; omega) | (simp only [up2_eq]; omega) | (split <;> omega)) (by first | omega | (simp [up2, *]; done) | (simp [up2, *]; omega) | (simp only [up2_eq]; omega) | (split <;> omega)) (by omega) (by omega) (hf.keep f_3.1 (fun q hq => f_3.2 q (by omega)))) pk_J6_getChars_ba4f3 qm_J5_248 rfl rfl (Nat.le_of_ble_eq_true rfl) dJ5_append_c97b9_30 ⟨Nat.le_of_ble_eq_true rfl, Nat.le_of_ble_eq_true rfl⟩ ⟨by first | (simp only [rmk, rmz]; omega) | (simp only [rmk, rmz]; done) | omega, by first | (simp only [rmk, rmz]; omega) | (simp only [rmk, rmz]; done) | omega⟩ (fun v9 w9 h9 => ?_) (fun _ h9 => h9.elim)
    obtain ⟨g9_5, f_6, rfl, rfl⟩ := h9
    refine r_pop C dJ5_append_c97b9_33 rfl ?_
    refine r_goto (tgt := 48) C dJ5_append_c97b9_34 (by decide) ?_
    refine t_perm [BYO cy v9_1 (sb_cap (n + 2) m) g9_5, SBO b v9_1 ml n] [SBO b v9_1 ml n, BYO cy v9_1 (sb_cap (n + 2) m) g9_5] [1, 0] rfl (by decide) rfl (w' := U ++ (SBO b v9_1 ml n :: BYO cy v9_1 (sb_cap (n + 2) m) g9_5 :: E)) rfl ?_
    refine r_aload_n C dJ5_append_c97b9_48 rfl ?_
    refine r_iload_n C dJ5_append_c97b9_49 rfl ?_
    refine t_sbp (ty := .int) C 0 3 rfl (by decide) rfl qf_J5_79 rfl rfl rfl rfl rfl dJ5_append_c97b9_50 (L' := (SBO b v9_1 ml (n + 2) :: BYO cy v9_1 (sb_cap (n + 2) m) g9_5 :: E)) rfl ?_
    refine r_aload_n C dJ5_append_c97b9_53 rfl ?_
    exact r_aret C hr (Or.inl ⟨_, rfl⟩) dJ5_append_c97b9_54 ⟨v9_1, g9_5, f_6, rfl, rfl⟩ (by first | (simp only [rmk, rmz]; omega) | (simp only [rmk, rmz]; done) | omega) (by first | (simp only [rmk, rmz]; omega) | (simp only [rmk, rmz]; done) | omega)
set_option maxRecDepth 100000 in
set_option maxHeartbeats 400000 in
theorem C_asbInt_n1 {l : Launch} {D : va_G} {cy : Nat → ClassId} {X : (Nat → Prop) → State → Heap → Prop} {aK aV : Nat → Nat} {tO tT : Nat} {gO gT : Nat → Int32} {U E : va_W} {b : Nat} {v : Nat} {m : Nat} {n : Nat} {g : Nat → Int32} {ml : Int32} {tl : List Int32} {x : Int32} {k : Nat} (hX : EnvS X cy aK aV tO tT gO gT) (hm : m ≤ 65536) (hnm : n ≤ m) (hf : TXT g n tl) (hx : x = -(nI k)) (hk0 : 0 < k) (hk : k < 10) : Cm l D cy X yJ5_append_c97b9 cJ5_append_c97b9 4 (some (.object "java/lang/AbstractStringBuilder")) (rmk 4 (gC (n + 2) m) (gS (n + 2) m) 160) [.ref b, .int x] (U ++ (SBO b v ml n :: BYO cy v m g :: E)) (fun v1 w1 => ∃ v9 : Nat, ∃ g9 : Nat → Int32, (TXT g9 (n + 2) (tl ++ dgN1 gO k)) ∧ v1 = some (.ref b) ∧ w1 = U ++ (SBO b v9 ml (n + 2) :: BYO cy v9 (sb_cap (n + 2) m) g9 :: E)) (fun _ => False) := by
  refine Cm.ofF [some (.ref b), some (.int x), none, none] (plainFor_of_name pn_J5) rfl (Nat.le_of_ble_eq_true rfl) ?_
  intro p e s mI args below meth c A C hE hr hnt hn
  refine r_aload_n C dJ5_append_c97b9_0 rfl ?_
  refine t_sbg C 0 3 rfl (by decide) qf_J5_79 rfl rfl dJ5_append_c97b9_1 ?_
  refine r_istore_n C dJ5_append_c97b9_4 (by decide) rfl ?_
  refine r_iload_n C dJ5_append_c97b9_5 rfl ?_
  refine r_iload_n C dJ5_append_c97b9_6 rfl ?_
  refine c_S (st := [.int (nI n)]) hX.stb C hE (C_size_n1 (w := U ++ (SBO b v ml n :: BYO cy v m g :: E)) (x := x) hx (by first | omega | (simp [up2, *]; done) | (simp [up2, *]; omega) | (simp only [up2_eq]; omega) | (split <;> omega)) (by first | omega | (simp [up2, *]; done) | (simp [up2, *]; omega) | (simp only [up2_eq]; omega) | (split <;> omega))) pk_J6_stringSize_0f7a4 qm_J5_245 rfl rfl (Nat.le_of_ble_eq_true rfl) dJ5_append_c97b9_7 ⟨Nat.le_of_ble_eq_true rfl, Nat.le_of_ble_eq_true rfl⟩ ⟨by first | (simp only [rmk, rmz]; omega) | (simp only [rmk, rmz]; done) | omega, by first | (simp only [rmk, rmz]; omega) | (simp only [rmk, rmz]; done) | omega⟩ (fun v9 w9 h9 => ?_) (fun _ h9 => h9.elim)
  obtain ⟨rfl, rfl⟩ := h9
  refine r_iaddN C dJ5_append_c97b9_10 ?_
  refine r_istore_n C dJ5_append_c97b9_11 (by decide) rfl ?_
  refine r_aload_n C dJ5_append_c97b9_12 rfl ?_
  refine r_iload_n C dJ5_append_c97b9_13 rfl ?_
  refine c_U (st := []) hX C hE (C_ensure (U := U) (E := E) (b := b) (v := v) (m := m) (n := n) (g := g) (ml := ml) (q := (n + 2)) hX (by first | omega | (simp [up2, *]; done) | (simp [up2, *]; omega) | (simp only [up2_eq]; omega) | (split <;> omega)) (by first | omega | (simp [up2, *]; done) | (simp [up2, *]; omega) | (simp only [up2_eq]; omega) | (split <;> omega)) hf.1) pk_J5_ensureCapacityInternal_d00df qm_J5_100 (U.length + 0) (us_g rfl) rfl rfl (Nat.le_of_ble_eq_true rfl) dJ5_append_c97b9_14 ⟨Nat.le_of_ble_eq_true rfl, Nat.le_of_ble_eq_true rfl⟩ ⟨by first | (simp only [rmk, rmz]; omega) | (simp only [rmk, rmz]; done) | omega, by first | (simp only [rmk, rmz]; omega) | (simp only [rmk, rmz]; done) | omega⟩ (fun v9 w9 h9 => ?_) (fun _ h9 => h9.elim)
  obtain ⟨v9_1, g9_2, f_3, rfl, rfl⟩ := h9
  have hcg := sb_cap_ge (n + 2) m
  have hcl := cap_lt (q := n + 2) hm (by omega)
  refine r_aload_n C dJ5_append_c97b9_17 rfl ?_
  refine c_U (st := []) hX C hE (C_isLatin1 (U := U) (E := (BYO cy v9_1 (sb_cap (n + 2) m) g9_2 :: E)) (b := b) (v := v9_1) (n := n) (ml := ml) hX ) pk_J5_isLatin1_aae02 qm_J5_83 (U.length + 0) (us_g rfl) rfl rfl (Nat.le_of_ble_eq_true rfl) dJ5_append_c97b9_18 ⟨Nat.le_of_ble_eq_true rfl, Nat.le_of_ble_eq_true rfl⟩ ⟨by first | (simp only [rmk, rmz]; omega) | (simp only [rmk, rmz]; done) | omega, by first | (simp only [rmk, rmz]; omega) | (simp only [rmk, rmz]; done) | omega⟩ (fun v9 w9 h9 => ?_) (fun _ h9 => h9.elim)
  obtain ⟨rfl, rfl⟩ := h9
  refine r_ifN_eq (a := 1) (tgt := 37) C (by first | omega | (simp [up2, *]; done) | (simp [up2, *]; omega) | (simp only [up2_eq]; omega) | (split <;> omega)) dJ5_append_c97b9_21 (by decide) (fun h21_4 => ?_) (fun h21_4 => ?_)
  · exact absurd h21_4 (by first | omega | (simp [up2, *]; done) | (simp [up2, *]; omega) | (simp only [up2_eq]; omega) | (split <;> omega))
  · skip
    refine r_iload_n C dJ5_append_c97b9_24 rfl ?_
    refine r_iload_n C dJ5_append_c97b9_25 rfl ?_
    refine r_aload_n C dJ5_append_c97b9_26 rfl ?_
    refine t_sbg C 0 0 rfl (by decide) qf_J5_15 rfl rfl dJ5_append_c97b9_27 ?_
    refine t_perm [SBO b v9_1 ml n, BYO cy v9_1 (sb_cap (n + 2) m) g9_2] [BYO cy v9_1 (sb_cap (n + 2) m) g9_2, SBO b v9_1 ml n] [1, 0] rfl (by decide) rfl (w' := U ++ (BYO cy v9_1 (sb_cap (n + 2) m) g9_2 :: SBO b v9_1 ml n :: E)) rfl ?_
    refine c_S (st := []) hX.stb C hE (C_chars_n1 (U := U) (E := (SBO b v9_1 ml n :: E)) (x := x) (ix := (n + 2)) (v := v9_1) (m := (sb_cap (n + 2) m)) (g := g9_2) hX hx (by first | omega | (simp [up2, *]; done) | (simp [up2, *]; omega) | (simp only [up2_eq]; omega) | (split <;> omega)) (by first | omega | (simp [up2, *]; done) | (simp [up2, *]; omega) | (simp only [up2_eq]; omega) | (split <;> omega)) (by first | omega | (simp [up2, *]; done) | (simp [up2, *]; omega) | (simp only [up2_eq]; omega) | (split <;> omega)) (by omega) (by omega) (hf.keep f_3.1 (fun q hq => f_3.2 q (by omega)))) pk_J6_getChars_ba4f3 qm_J5_248 rfl rfl (Nat.le_of_ble_eq_true rfl) dJ5_append_c97b9_30 ⟨Nat.le_of_ble_eq_true rfl, Nat.le_of_ble_eq_true rfl⟩ ⟨by first | (simp only [rmk, rmz]; omega) | (simp only [rmk, rmz]; done) | omega, by first | (simp only [rmk, rmz]; omega) | (simp only [rmk, rmz]; done) | omega⟩ (fun v9 w9 h9 => ?_) (fun _ h9 => h9.elim)
    obtain ⟨g9_5, f_6, rfl, rfl⟩ := h9
    refine r_pop C dJ5_append_c97b9_33 rfl ?_
    refine r_goto (tgt := 48) C dJ5_append_c97b9_34 (by decide) ?_
    refine t_perm [BYO cy v9_1 (sb_cap (n + 2) m) g9_5, SBO b v9_1 ml n] [SBO b v9_1 ml n, BYO cy v9_1 (sb_cap (n + 2) m) g9_5] [1, 0] rfl (by decide) rfl (w' := U ++ (SBO b v9_1 ml n :: BYO cy v9_1 (sb_cap (n + 2) m) g9_5 :: E)) rfl ?_
    refine r_aload_n C dJ5_append_c97b9_48 rfl ?_
    refine r_iload_n C dJ5_append_c97b9_49 rfl ?_
    refine t_sbp (ty := .int) C 0 3 rfl (by decide) rfl qf_J5_79 rfl rfl rfl rfl rfl dJ5_append_c97b9_50 (L' := (SBO b v9_1 ml (n + 2) :: BYO cy v9_1 (sb_cap (n + 2) m) g9_5 :: E)) rfl ?_
    refine r_aload_n C dJ5_append_c97b9_53 rfl ?_
    exact r_aret C hr (Or.inl ⟨_, rfl⟩) dJ5_append_c97b9_54 ⟨v9_1, g9_5, f_6, rfl, rfl⟩ (by first | (simp only [rmk, rmz]; omega) | (simp only [rmk, rmz]; done) | omega) (by first | (simp only [rmk, rmz]; omega) | (simp only [rmk, rmz]; done) | omega)
set_option maxRecDepth 100000 in
set_option maxHeartbeats 400000 in
theorem C_asbInt_n2 {l : Launch} {D : va_G} {cy : Nat → ClassId} {X : (Nat → Prop) → State → Heap → Prop} {aK aV : Nat → Nat} {tO tT : Nat} {gO gT : Nat → Int32} {U E : va_W} {b : Nat} {v : Nat} {m : Nat} {n : Nat} {g : Nat → Int32} {ml : Int32} {tl : List Int32} {x : Int32} {k : Nat} (hX : EnvS X cy aK aV tO tT gO gT) (hm : m ≤ 65536) (hnm : n ≤ m) (hf : TXT g n tl) (hx : x = -(nI k)) (hk0 : 10 ≤ k) (hk : k < 100) : Cm l D cy X yJ5_append_c97b9 cJ5_append_c97b9 4 (some (.object "java/lang/AbstractStringBuilder")) (rmk 4 (gC (n + 3) m) (gS (n + 3) m) 160) [.ref b, .int x] (U ++ (SBO b v ml n :: BYO cy v m g :: E)) (fun v1 w1 => ∃ v9 : Nat, ∃ g9 : Nat → Int32, (TXT g9 (n + 3) (tl ++ dgN2 gO gT k)) ∧ v1 = some (.ref b) ∧ w1 = U ++ (SBO b v9 ml (n + 3) :: BYO cy v9 (sb_cap (n + 3) m) g9 :: E)) (fun _ => False) := by
  refine Cm.ofF [some (.ref b), some (.int x), none, none] (plainFor_of_name pn_J5) rfl (Nat.le_of_ble_eq_true rfl) ?_
  intro p e s mI args below meth c A C hE hr hnt hn
  refine r_aload_n C dJ5_append_c97b9_0 rfl ?_
  refine t_sbg C 0 3 rfl (by decide) qf_J5_79 rfl rfl dJ5_append_c97b9_1 ?_
  refine r_istore_n C dJ5_append_c97b9_4 (by decide) rfl ?_
  refine r_iload_n C dJ5_append_c97b9_5 rfl ?_
  refine r_iload_n C dJ5_append_c97b9_6 rfl ?_
  refine c_S (st := [.int (nI n)]) hX.stb C hE (C_size_n2 (w := U ++ (SBO b v ml n :: BYO cy v m g :: E)) (x := x) hx (by first | omega | (simp [up2, *]; done) | (simp [up2, *]; omega) | (simp only [up2_eq]; omega) | (split <;> omega)) (by first | omega | (simp [up2, *]; done) | (simp [up2, *]; omega) | (simp only [up2_eq]; omega) | (split <;> omega))) pk_J6_stringSize_0f7a4 qm_J5_245 rfl rfl (Nat.le_of_ble_eq_true rfl) dJ5_append_c97b9_7 ⟨Nat.le_of_ble_eq_true rfl, Nat.le_of_ble_eq_true rfl⟩ ⟨by first | (simp only [rmk, rmz]; omega) | (simp only [rmk, rmz]; done) | omega, by first | (simp only [rmk, rmz]; omega) | (simp only [rmk, rmz]; done) | omega⟩ (fun v9 w9 h9 => ?_) (fun _ h9 => h9.elim)
  obtain ⟨rfl, rfl⟩ := h9
  refine r_iaddN C dJ5_append_c97b9_10 ?_
  refine r_istore_n C dJ5_append_c97b9_11 (by decide) rfl ?_
  refine r_aload_n C dJ5_append_c97b9_12 rfl ?_
  refine r_iload_n C dJ5_append_c97b9_13 rfl ?_
  refine c_U (st := []) hX C hE (C_ensure (U := U) (E := E) (b := b) (v := v) (m := m) (n := n) (g := g) (ml := ml) (q := (n + 3)) hX (by first | omega | (simp [up2, *]; done) | (simp [up2, *]; omega) | (simp only [up2_eq]; omega) | (split <;> omega)) (by first | omega | (simp [up2, *]; done) | (simp [up2, *]; omega) | (simp only [up2_eq]; omega) | (split <;> omega)) hf.1) pk_J5_ensureCapacityInternal_d00df qm_J5_100 (U.length + 0) (us_g rfl) rfl rfl (Nat.le_of_ble_eq_true rfl) dJ5_append_c97b9_14 ⟨Nat.le_of_ble_eq_true rfl, Nat.le_of_ble_eq_true rfl⟩ ⟨by first | (simp only [rmk, rmz]; omega) | (simp only [rmk, rmz]; done) | omega, by first | (simp only [rmk, rmz]; omega) | (simp only [rmk, rmz]; done) | omega⟩ (fun v9 w9 h9 => ?_) (fun _ h9 => h9.elim)
  obtain ⟨v9_1, g9_2, f_3, rfl, rfl⟩ := h9
  have hcg := sb_cap_ge (n + 3) m
  have hcl := cap_lt (q := n + 3) hm (by omega)
  refine r_aload_n C dJ5_append_c97b9_17 rfl ?_
  refine c_U (st := []) hX C hE (C_isLatin1 (U := U) (E := (BYO cy v9_1 (sb_cap (n + 3) m) g9_2 :: E)) (b := b) (v := v9_1) (n := n) (ml := ml) hX ) pk_J5_isLatin1_aae02 qm_J5_83 (U.length + 0) (us_g rfl) rfl rfl (Nat.le_of_ble_eq_true rfl) dJ5_append_c97b9_18 ⟨Nat.le_of_ble_eq_true rfl, Nat.le_of_ble_eq_true rfl⟩ ⟨by first | (simp only [rmk, rmz]; omega) | (simp only [rmk, rmz]; done) | omega, by first | (simp only [rmk, rmz]; omega) | (simp only [rmk, rmz]; done) | omega⟩ (fun v9 w9 h9 => ?_) (fun _ h9 => h9.elim)
  obtain ⟨rfl, rfl⟩ := h9
  refine r_ifN_eq (a := 1) (tgt := 37) C (by first | omega | (simp [up2, *]; done) | (simp [up2, *]; omega) | (simp only [up2_eq]; omega) | (split <;> omega)) dJ5_append_c97b9_21 (by decide) (fun h21_4 => ?_) (fun h21_4 => ?_)
  · exact absurd h21_4 (by first | omega | (simp [up2, *]; done) | (simp [up2, *]; omega) | (simp only [up2_eq]; omega) | (split <;> omega))
  · skip
    refine r_iload_n C dJ5_append_c97b9_24 rfl ?_
    refine r_iload_n C dJ5_append_c97b9_25 rfl ?_
    refine r_aload_n C dJ5_append_c97b9_26 rfl ?_
    refine t_sbg C 0 0 rfl (by decide) qf_J5_15 rfl rfl dJ5_append_c97b9_27 ?_
    refine t_perm [SBO b v9_1 ml n, BYO cy v9_1 (sb_cap (n + 3) m) g9_2] [BYO cy v9_1 (sb_cap (n + 3) m) g9_2, SBO b v9_1 ml n] [1, 0] rfl (by decide) rfl (w' := U ++ (BYO cy v9_1 (sb_cap (n + 3) m) g9_2 :: SBO b v9_1 ml n :: E)) rfl ?_
    refine c_S (st := []) hX.stb C hE (C_chars_n2 (U := U) (E := (SBO b v9_1 ml n :: E)) (x := x) (ix := (n + 3)) (v := v9_1) (m := (sb_cap (n + 3) m)) (g := g9_2) hX hx (by first | omega | (simp [up2, *]; done) | (simp [up2, *]; omega) | (simp only [up2_eq]; omega) | (split <;> omega)) (by first | omega | (simp [up2, *]; done) | (simp [up2, *]; omega) | (simp only [up2_eq]; omega) | (split <;> omega)) (by first | omega | (simp [up2, *]; done) | (simp [up2, *]; omega) | (simp only [up2_eq]; omega) | (split <;> omega)) (by omega) (by omega) (hf.keep f_3.1 (fun q hq => f_3.2 q (by omega)))) pk_J6_getChars_ba4f3 qm_J5_248 rfl rfl (Nat.le_of_ble_eq_true rfl) dJ5_append_c97b9_30 ⟨Nat.le_of_ble_eq_true rfl, Nat.le_of_ble_eq_true rfl⟩ ⟨by first | (simp only [rmk, rmz]; omega) | (simp only [rmk, rmz]; done) | omega, by first | (simp only [rmk, rmz]; omega) | (simp only [rmk, rmz]; done) | omega⟩ (fun v9 w9 h9 => ?_) (fun _ h9 => h9.elim)
    obtain ⟨g9_5, f_6, rfl, rfl⟩ := h9
    refine r_pop C dJ5_append_c97b9_33 rfl ?_
    refine r_goto (tgt := 48) C dJ5_append_c97b9_34 (by decide) ?_
    refine t_perm [BYO cy v9_1 (sb_cap (n + 3) m) g9_5, SBO b v9_1 ml n] [SBO b v9_1 ml n, BYO cy v9_1 (sb_cap (n + 3) m) g9_5] [1, 0] rfl (by decide) rfl (w' := U ++ (SBO b v9_1 ml n :: BYO cy v9_1 (sb_cap (n + 3) m) g9_5 :: E)) rfl ?_
    refine r_aload_n C dJ5_append_c97b9_48 rfl ?_
    refine r_iload_n C dJ5_append_c97b9_49 rfl ?_
    refine t_sbp (ty := .int) C 0 3 rfl (by decide) rfl qf_J5_79 rfl rfl rfl rfl rfl dJ5_append_c97b9_50 (L' := (SBO b v9_1 ml (n + 3) :: BYO cy v9_1 (sb_cap (n + 3) m) g9_5 :: E)) rfl ?_
    refine r_aload_n C dJ5_append_c97b9_53 rfl ?_
    exact r_aret C hr (Or.inl ⟨_, rfl⟩) dJ5_append_c97b9_54 ⟨v9_1, g9_5, f_6, rfl, rfl⟩ (by first | (simp only [rmk, rmz]; omega) | (simp only [rmk, rmz]; done) | omega) (by first | (simp only [rmk, rmz]; omega) | (simp only [rmk, rmz]; done) | omega)
