/-! ===== 26.weak -/
section PT_26
/-! CONTRACTS THAT LEAVE THE SCRATCH OPEN -/
theorem Cm.imp {l : Launch} {D : va_G} {cy : Nat → ClassId} {X : (Nat → Prop) → State → Heap → Prop} {y : MethodName} {cc : ByteArray} {maxL : Nat} {ret : Option FieldType} {rm : Room} {av : List Value} {w : va_W} {post post' : Option Value → va_W → Prop} {px : String → Prop} (h : Cm l D cy X y cc maxL ret rm av w post px) (hp : ∀ v w1, post v w1 → post' v w1) : Cm l D cy X y cc maxL ret rm av w post' px := by
  intro sz p e ha hc hk s m args below hf happ hP hK
  obtain ⟨n, o, h1, h2, h3, h4⟩ := h sz p e ha hc hk s m args below hf happ hP hK
  refine ⟨n, o, h1, h2, h3, ?_⟩
  rcases h4 with ⟨⟨⟨v, w', e1, e2, e3, e4⟩, e5⟩, e6⟩ | h4
  · exact Or.inl ⟨⟨⟨v, w', e1, hp v w' e2, e3, e4⟩, e5⟩, e6⟩
  · exact Or.inr h4
/-- equal but of the spare parts' lengths and items -/
def Scr (f : Nat → Nat → Nat) (r : Nat → Nat → Int32) (f' : Nat → Nat → Nat) (r' : Nat → Nat → Int32) : Prop :=
  (∀ fl i, fl ≠ 4 ∨ i < 8 → f' fl i = f fl i) ∧ (f' 4 8 ≤ 12 ∧ f' 4 9 ≤ 12 ∧ f' 4 10 ≤ 12) ∧ (∀ j q, j < 4 → r' j q = r j q) ∧ (RB r → RB r')
theorem Scr.inv {f f' : Nat → Nat → Nat} {r r' : Nat → Nat → Int32} (h : Scr f r f' r') (hC : CInv f) : CInv f' := hC.scr h.1 h.2.1
theorem Scr.trans {f f' f2 : Nat → Nat → Nat} {r r' r2 : Nat → Nat → Int32} (h : Scr f r f' r') (h2 : Scr f' r' f2 r2) : Scr f r f2 r2 :=
  ⟨fun fl i z => (h2.1 fl i z).trans (h.1 fl i z), h2.2.1, fun j q z => (h2.2.2.1 j q z).trans (h.2.2.1 j q z), fun z => h2.2.2.2 (h.2.2.2 z)⟩
theorem Scr.refl {f : Nat → Nat → Nat} {r : Nat → Nat → Int32} (hC : CInv f) : Scr f r f r := by
  have := hC.sp
  exact ⟨fun _ _ _ => rfl, by omega, fun _ _ _ => rfl, id⟩
theorem K_isTurnSound {l : Launch} {D : va_G} {cy : Nat → ClassId} {X : (Nat → Prop) → State → Heap → Prop} {a f : Nat → Nat → Nat} {r : Nat → Nat → Int32} {kn : Int32} {Y : va_W} {i : Nat} (hX : EnvX X) (hC : CInv f) (hi4 : i < 4) : Cm l D cy X yX2_isTurnSound cX2_isTurnSound 2 (some .boolean) (rmz 4 200) [.ref (a 0 0), .ref (a 1 i)] (WC cy a f r kn ++ Y) (fun v w1 => v = some (.int (nI 1)) ∧ ∃ f' r', w1 = WC cy a f' r' kn ++ Y ∧ Scr f r f' r') (fun _ => False) := by
  have sp := hC.sp
  have q1 := hC.rw hi4
  have hF : ∀ fl k, fl ≠ 4 ∨ k < 8 → up2 f 4 9 (f 4 i) fl k = f fl k := fun fl k z => by
    show (if fl = 4 ∧ k = 9 then f 4 i else f fl k) = f fl k
    rw [if_neg (by omega)]
  have hL : up2 f 4 9 (f 4 i) 4 8 ≤ 12 ∧ up2 f 4 9 (f 4 i) 4 9 ≤ 12 ∧ up2 f 4 9 (f 4 i) 4 10 ≤ 12 := by
    rw [up2_eq, up2_i _ _ _ _ (by omega), up2_i _ _ _ _ (by omega)]
    omega
  rcases Nat.eq_zero_or_pos (f 4 i) with hz | hz
  · refine (C_isTurnSound_0 hX hC hi4 hz).imp (fun v w1 h => ⟨h.1, _, _, h.2, hF, hL, fun j q hj => ?_, fun hB => ?_⟩)
    · rw [cpy2_off (by omega)]
    · exact hB.cpy _ _ _ _ _
  · refine (C_isTurnSound_ok hX hC hi4 hz).imp (fun v w1 h => ⟨h.1, _, _, h.2, hF, hL, fun j q hj => ?_, fun hB => ?_⟩)
    · rw [cpy2_off (by omega)]
    · exact hB.cpy _ _ _ _ _
theorem K_isRiffleSound {l : Launch} {D : va_G} {cy : Nat → ClassId} {X : (Nat → Prop) → State → Heap → Prop} {a f : Nat → Nat → Nat} {r : Nat → Nat → Int32} {kn : Int32} {Y : va_W} {i : Nat} (hX : EnvX X) (hC : CInv f) (hi4 : i < 4) : Cm l D cy X yX2_isRiffleSound cX2_isRiffleSound 2 (some .boolean) (rmz 4 200) [.ref (a 0 0), .ref (a 1 i)] (WC cy a f r kn ++ Y) (fun v w1 => v = some (.int (nI 1)) ∧ ∃ f' r', w1 = WC cy a f' r' kn ++ Y ∧ Scr f r f' r') (fun _ => False) := by
  have sp := hC.sp
  have q1 := hC.rw hi4
  refine (C_isRiffleSound hX hC hi4).imp (fun v w1 h => ⟨h.1, _, _, h.2, fun fl k z => ?_, ?_, fun j q hj => ?_, fun hB => ?_⟩)
  · show (if fl = 4 ∧ k = 8 then f 4 i else if fl = 4 ∧ k = 8 then f 4 i else if fl = 4 ∧ k = 9 then f 4 i else f fl k) = f fl k
    rw [if_neg (by omega), if_neg (by omega), if_neg (by omega)]
  · rw [up2_eq, up2_i _ _ _ _ (by omega), up2_i _ _ _ _ (by omega), up2_eq, up2_i _ _ _ _ (by omega), up2_i _ _ _ _ (by omega), up2_i _ _ _ _ (by omega)]
    omega
  · rw [lay_off _ (by omega) (by omega), cpy2_off (by omega)]
  · have b1 := hB.cpy (f 0 i) (f 3 i) (f 0 9) (f 3 9) (f 4 i)
    have b2 := (b1.cpy (f 0 9) (f 3 9) (f 0 8) (f 3 8) (f 4 i)).sc (f 0 9) (f 3 9) (f 4 i) (fun t => t) (g := fun q => cpy2 r (f 0 i) (f 3 i) (f 0 9) (f 3 9) (f 4 i) (f 0 9) (f 3 9 + layN (f 4 i) q)) (fun q => b1 _ _)
    exact (b2.cpy _ _ _ _ _).sc _ _ _ _ (fun q => b2 _ _)
theorem K_isOrderSound {l : Launch} {D : va_G} {cy : Nat → ClassId} {X : (Nat → Prop) → State → Heap → Prop} {a f : Nat → Nat → Nat} {r : Nat → Nat → Int32} {kn : Int32} {Y : va_W} {i : Nat} (hX : EnvX X) (hC : CInv f) (hi4 : i < 4) (hR : ∀ q, q < f 4 i → -99 ≤ (r (f 0 i) (f 3 i + q)).toInt ∧ (r (f 0 i) (f 3 i + q)).toInt ≤ 99) : Cm l D cy X yX2_isOrderSound cX2_isOrderSound 2 (some .boolean) (rmz 4 200) [.ref (a 0 0), .ref (a 1 i)] (WC cy a f r kn ++ Y) (fun v w1 => v = some (.int (nI 1)) ∧ ∃ f' r', w1 = WC cy a f' r' kn ++ Y ∧ Scr f r f' r') (fun _ => False) := by
  have sp := hC.sp
  have q1 := hC.rw hi4
  have e4 : up2 f 4 9 (f 4 i) 4 i = f 4 i := up2_i _ _ _ _ (by omega)
  have hF : ∀ fl k, fl ≠ 4 ∨ k < 8 → up2 (up2 f 4 9 (f 4 i)) 4 10 (f 4 i) fl k = f fl k := fun fl k z => by
    show (if fl = 4 ∧ k = 10 then f 4 i else if fl = 4 ∧ k = 9 then f 4 i else f fl k) = f fl k
    rw [if_neg (by omega), if_neg (by omega)]
  have hL : up2 (up2 f 4 9 (f 4 i)) 4 10 (f 4 i) 4 8 ≤ 12 ∧ up2 (up2 f 4 9 (f 4 i)) 4 10 (f 4 i) 4 9 ≤ 12 ∧ up2 (up2 f 4 9 (f 4 i)) 4 10 (f 4 i) 4 10 ≤ 12 := by
    rw [up2_eq, up2_i _ _ _ _ (by omega), up2_i _ _ _ _ (by omega), up2_i _ _ _ _ (by omega), up2_eq]
    omega
  rcases Nat.eq_zero_or_pos (f 4 i) with hz | hz
  · refine (C_isOrderSound_0 hX hC hi4 hz).imp (fun v w1 h => ⟨h.1, _, _, h.2, by rw [e4]; exact hF, by rw [e4]; exact hL, fun j q hj => ?_, fun hB => ?_⟩)
    · rw [srF_off (by omega), cpy2_off (by omega), srF_off (by omega), cpy2_off (by omega)]
    · exact RB.sr _ _ _ _ _ ((RB.sr _ _ _ _ _ (hB.cpy _ _ _ _ _)).cpy _ _ _ _ _)
  · refine (C_isOrderSound_ok hX hC hi4 hz hR).imp (fun v w1 h => ⟨h.1, _, _, h.2, hF, hL, fun j q hj => ?_, fun hB => ?_⟩)
    · rw [revS_off (by omega), srF_off (by omega), cpy2_off (by omega), srF_off (by omega), cpy2_off (by omega)]
    · exact (RB.sr _ _ _ _ _ ((RB.sr _ _ _ _ _ (hB.cpy _ _ _ _ _)).cpy _ _ _ _ _)).rev _ _ _
theorem K_isMoveSound {l : Launch} {D : va_G} {cy : Nat → ClassId} {X : (Nat → Prop) → State → Heap → Prop} {a f : Nat → Nat → Nat} {r : Nat → Nat → Int32} {kn : Int32} {Y : va_W} {i n0 : Nat} (hX : EnvX X) (hC : CInv f) (hi4 : i < 4) (hc : n0 < 1000) : Cm l D cy X yX2_isMoveSound cX2_isMoveSound 5 (some .boolean) (rmz 4 220) [.ref (a 0 0), .ref (a 1 i), .int (nI n0)] (WC cy a f r kn ++ Y) (fun v w1 => v = some (.int (nI 1)) ∧ ∃ f' r', w1 = WC cy a f' r' kn ++ Y ∧ Scr f r f' r') (fun _ => False) := by
  have sp := hC.sp
  have q1 := hC.rw hi4
  have e4 : up2 f 4 9 (f 4 i) 4 i = f 4 i := up2_i _ _ _ _ (by omega)
  have hF0 : ∀ fl k, fl ≠ 4 ∨ k < 8 → up2 (up2 f 4 9 (f 4 i)) 4 10 (f 4 i) fl k = f fl k := fun fl k z => by
    show (if fl = 4 ∧ k = 10 then f 4 i else if fl = 4 ∧ k = 9 then f 4 i else f fl k) = f fl k
    rw [if_neg (by omega), if_neg (by omega)]
  have hL0 : up2 (up2 f 4 9 (f 4 i)) 4 10 (f 4 i) 4 8 ≤ 12 ∧ up2 (up2 f 4 9 (f 4 i)) 4 10 (f 4 i) 4 9 ≤ 12 ∧ up2 (up2 f 4 9 (f 4 i)) 4 10 (f 4 i) 4 10 ≤ 12 := by
    rw [up2_eq, up2_i _ _ _ _ (by omega), up2_i _ _ _ _ (by omega), up2_i _ _ _ _ (by omega), up2_eq]
    omega
  have hF : ∀ fl k, fl ≠ 4 ∨ k < 8 → up2 (up2 (up2 f 4 9 (f 4 i)) 4 8 (f 4 i)) 4 10 (f 4 i) fl k = f fl k := fun fl k z => by
    show (if fl = 4 ∧ k = 10 then f 4 i else if fl = 4 ∧ k = 8 then f 4 i else if fl = 4 ∧ k = 9 then f 4 i else f fl k) = f fl k
    rw [if_neg (by omega), if_neg (by omega), if_neg (by omega)]
  have hL : up2 (up2 (up2 f 4 9 (f 4 i)) 4 8 (f 4 i)) 4 10 (f 4 i) 4 8 ≤ 12 ∧ up2 (up2 (up2 f 4 9 (f 4 i)) 4 8 (f 4 i)) 4 10 (f 4 i) 4 9 ≤ 12 ∧ up2 (up2 (up2 f 4 9 (f 4 i)) 4 8 (f 4 i)) 4 10 (f 4 i) 4 10 ≤ 12 := by
    rw [up2_eq, up2_i _ _ _ _ (by omega), up2_eq, up2_i _ _ _ _ (by omega), up2_i _ _ _ _ (by omega), up2_eq]
    omega
  rcases Nat.eq_zero_or_pos (f 4 i) with hz | hz
  · refine (C_isMoveSound_0 hX hC hi4 hz hc).imp (fun v w1 h => ⟨h.1, _, _, h.2, by rw [e4]; exact hF0, by rw [e4]; exact hL0, fun j q hj => ?_, fun hB => ?_⟩)
    · rw [cpy2_off (by omega), cpy2_off (by omega)]
    · exact (hB.cpy _ _ _ _ _).cpy _ _ _ _ _
  · rcases Nat.eq_zero_or_pos (n0 % f 4 i) with hk | hk
    · refine (C_isMoveSound_a hX hC hi4 hz hc hk).imp (fun v w1 h => ⟨h.1, _, _, h.2, hF, hL, fun j q hj => ?_, fun hB => ?_⟩)
      · rw [revS_off (by omega), revS_off (by omega), cpy2_off (by omega), scS_off (by omega), cpy2_off (by omega), cpy2_off (by omega)]
      · have b1 := hB.cpy (f 0 i) (f 3 i) (f 0 9) (f 3 9) (f 4 i)
        exact ((((b1.cpy _ _ _ _ _).sc _ _ _ _ (fun q => b1 _ _)).cpy _ _ _ _ _).rev _ _ _).rev _ _ _
    · refine (C_isMoveSound_b hX hC hi4 hz hc hk (Nat.mod_lt _ hz)).imp (fun v w1 h => ⟨h.1, _, _, h.2, hF, hL, fun j q hj => ?_, fun hB => ?_⟩)
      · rw [revS_off (by omega), revS_off (by omega), revS_off (by omega), cpy2_off (by omega), scS_off (by omega), cpy2_off (by omega), cpy2_off (by omega)]
      · have b1 := hB.cpy (f 0 i) (f 3 i) (f 0 9) (f 3 9) (f 4 i)
        exact (((((b1.cpy _ _ _ _ _).sc _ _ _ _ (fun q => b1 _ _)).cpy _ _ _ _ _).rev _ _ _).rev _ _ _).rev _ _ _
end PT_26
/-! ===== 27.rowsound -/
section PT_27
/-! A CALL THAT LEAVES THE SCRATCH OPEN -/
section DVE
variable {l : Launch} {D : va_G} {cy : Nat → ClassId} {X : (Nat → Prop) → State → Heap → Prop} {p : Program} {e : Env} {R : Room} {s : State} {m : MethodId} {args : Array Value} {below : List Frame} {meth : Method} {c : Code} {A : Nat → Prop} {Q : State → Prop} {nL cells slots : Nat} {cc : ByteArray} {own : String}
theorem d_VE {a : Nat → Nat → Nat} {f : Nat → Nat → Nat} {r : Nat → Nat → Int32} {kn : Int32} {Y : va_W} {y : MethodName} {bytes : ByteArray} {maxL n index b pc : Nat} {ret : Option FieldType} {rm : Room} {As st st0 : List Value} {v0 : Value} {lv : List (Option Value)} {Cn : String} (hX : Stb X) (C : Fg p s m args meth c cc nL own D cy A) (hE : X A s s.heap) (ct : Cm l D cy X y bytes maxL ret rm (.ref b :: As) (WC cy a f r kn ++ Y) (fun v w1 => v = some v0 ∧ ∃ f' r', w1 = WC cy a f' r' kn ++ Y ∧ Scr f r f' r') (fun _ => False)) (pk : PkV Cn y bytes maxL ret n) (qm : Cond.methodLink own index y ∈ GW)
    (q0 ci : Nat) {fs : List Value} {q : vw_C} (hc : vwCl[ci]? = some q) (hq : q.1 = Cn) (he : (WC cy a f r kn ++ Y)[q0]? = some (b, .inr (ci, fs))) (hn : As.length = n) (hstack : st0 = As.reverse ++ .ref b :: st) (hcat : (st.map fun v => v.category).sum ≤ 8)
    (d : decode cc pc = .ok (.invokevirtual index, 3)) (hR : rm.frames + 1 ≤ R.frames ∧ 8 + (maxL + 11) + rm.locals ≤ R.locals) (hf : cells + rm.cells ≤ R.cells ∧ slots + rm.slots ≤ R.slots)
    (kk : ∀ f' r', Scr f r f' r' → vW p l e R s m args below meth c D vwCl A Q nL (cells + rm.cells) (slots + rm.slots) (WC cy a f' r' kn ++ Y) lv (pc + 3) (v0 :: st)) : vW p l e R s m args below meth c D vwCl A Q nL cells slots (WC cy a f r kn ++ Y) lv pc st0 :=
  c_V hX C hE ct pk qm q0 ci hc hq he hn hstack hcat d hR hf (fun v w1 h => by
    obtain ⟨rfl, f', r', rfl, h2⟩ := h
    exact kk f' r' h2) (fun _ h => h.elim)
end DVE
end PT_27
/-! ===== 28.rowsound2 -/
section PT_28
/-! CONTRACTS of the class: a row is sound -/
theorem pk_X2_isMoveSound : PkV RX2 yX2_isMoveSound cX2_isMoveSound 5 (some .boolean) 2 := ⟨⟨qi_X2_isMoveSound, qs_X2_isMoveSound, qz_X2, qc_X2_isMoveSound⟩, rfl, mh_X2.1, mh_X2.2, pd_18⟩
theorem pk_X2_isOrderSound : PkV RX2 yX2_isOrderSound cX2_isOrderSound 2 (some .boolean) 1 := ⟨⟨qi_X2_isOrderSound, qs_X2_isOrderSound, qz_X2, qc_X2_isOrderSound⟩, rfl, mh_X2.1, mh_X2.2, pd_14⟩
theorem pk_X2_isRiffleSound : PkV RX2 yX2_isRiffleSound cX2_isRiffleSound 2 (some .boolean) 1 := ⟨⟨qi_X2_isRiffleSound, qs_X2_isRiffleSound, qz_X2, qc_X2_isRiffleSound⟩, rfl, mh_X2.1, mh_X2.2, pd_14⟩
theorem pk_X2_isTurnSound : PkV RX2 yX2_isTurnSound cX2_isTurnSound 2 (some .boolean) 1 := ⟨⟨qi_X2_isTurnSound, qs_X2_isTurnSound, qz_X2, qc_X2_isTurnSound⟩, rfl, mh_X2.1, mh_X2.2, pd_14⟩
theorem dX2_isRowSound_0 : decode cX2_isRowSound 0 = .ok (.aload_n 0, 1) := dqo_42 (kb_of ke_X2_isRowSound 0 rfl)
theorem dX2_isRowSound_1 : decode cX2_isRowSound 1 = .ok (.aload_n 1, 1) := dqo_43 (kb_of ke_X2_isRowSound 1 rfl)
theorem dX2_isRowSound_2 : decode cX2_isRowSound 2 = .ok (.iconst 1, 1) := dqo_4 (kb_of ke_X2_isRowSound 2 rfl)
theorem dX2_isRowSound_3 : decode cX2_isRowSound 3 = .ok (.invokevirtual 308, 3) := dqo_182 1 52 (kb_of ke_X2_isRowSound 3 rfl) (kb_of ke_X2_isRowSound 4 rfl) (kb_of ke_X2_isRowSound 5 rfl)
theorem dX2_isRowSound_6 : decode cX2_isRowSound 6 = .ok (.ifCond .eq 49, 3) := dqo_153 0 49 (by decide) (kb_of ke_X2_isRowSound 6 rfl) (kb_of ke_X2_isRowSound 7 rfl) (kb_of ke_X2_isRowSound 8 rfl)
theorem dX2_isRowSound_9 : decode cX2_isRowSound 9 = .ok (.aload_n 0, 1) := dqo_42 (kb_of ke_X2_isRowSound 9 rfl)
theorem dX2_isRowSound_10 : decode cX2_isRowSound 10 = .ok (.aload_n 1, 1) := dqo_43 (kb_of ke_X2_isRowSound 10 rfl)
theorem dX2_isRowSound_11 : decode cX2_isRowSound 11 = .ok (.iconst 2, 1) := dqo_5 (kb_of ke_X2_isRowSound 11 rfl)
theorem dX2_isRowSound_12 : decode cX2_isRowSound 12 = .ok (.invokevirtual 308, 3) := dqo_182 1 52 (kb_of ke_X2_isRowSound 12 rfl) (kb_of ke_X2_isRowSound 13 rfl) (kb_of ke_X2_isRowSound 14 rfl)
theorem dX2_isRowSound_15 : decode cX2_isRowSound 15 = .ok (.ifCond .eq 40, 3) := dqo_153 0 40 (by decide) (kb_of ke_X2_isRowSound 15 rfl) (kb_of ke_X2_isRowSound 16 rfl) (kb_of ke_X2_isRowSound 17 rfl)
theorem dX2_isRowSound_18 : decode cX2_isRowSound 18 = .ok (.aload_n 0, 1) := dqo_42 (kb_of ke_X2_isRowSound 18 rfl)
theorem dX2_isRowSound_19 : decode cX2_isRowSound 19 = .ok (.aload_n 1, 1) := dqo_43 (kb_of ke_X2_isRowSound 19 rfl)
theorem dX2_isRowSound_20 : decode cX2_isRowSound 20 = .ok (.iconst 5, 1) := dqo_8 (kb_of ke_X2_isRowSound 20 rfl)
theorem dX2_isRowSound_21 : decode cX2_isRowSound 21 = .ok (.invokevirtual 308, 3) := dqo_182 1 52 (kb_of ke_X2_isRowSound 21 rfl) (kb_of ke_X2_isRowSound 22 rfl) (kb_of ke_X2_isRowSound 23 rfl)
theorem dX2_isRowSound_24 : decode cX2_isRowSound 24 = .ok (.ifCond .eq 31, 3) := dqo_153 0 31 (by decide) (kb_of ke_X2_isRowSound 24 rfl) (kb_of ke_X2_isRowSound 25 rfl) (kb_of ke_X2_isRowSound 26 rfl)
theorem dX2_isRowSound_27 : decode cX2_isRowSound 27 = .ok (.aload_n 0, 1) := dqo_42 (kb_of ke_X2_isRowSound 27 rfl)
theorem dX2_isRowSound_28 : decode cX2_isRowSound 28 = .ok (.aload_n 1, 1) := dqo_43 (kb_of ke_X2_isRowSound 28 rfl)
theorem dX2_isRowSound_29 : decode cX2_isRowSound 29 = .ok (.invokevirtual 312, 3) := dqo_182 1 56 (kb_of ke_X2_isRowSound 29 rfl) (kb_of ke_X2_isRowSound 30 rfl) (kb_of ke_X2_isRowSound 31 rfl)
theorem dX2_isRowSound_32 : decode cX2_isRowSound 32 = .ok (.ifCond .eq 23, 3) := dqo_153 0 23 (by decide) (kb_of ke_X2_isRowSound 32 rfl) (kb_of ke_X2_isRowSound 33 rfl) (kb_of ke_X2_isRowSound 34 rfl)
theorem dX2_isRowSound_35 : decode cX2_isRowSound 35 = .ok (.aload_n 0, 1) := dqo_42 (kb_of ke_X2_isRowSound 35 rfl)
theorem dX2_isRowSound_36 : decode cX2_isRowSound 36 = .ok (.aload_n 1, 1) := dqo_43 (kb_of ke_X2_isRowSound 36 rfl)
theorem dX2_isRowSound_37 : decode cX2_isRowSound 37 = .ok (.invokevirtual 315, 3) := dqo_182 1 59 (kb_of ke_X2_isRowSound 37 rfl) (kb_of ke_X2_isRowSound 38 rfl) (kb_of ke_X2_isRowSound 39 rfl)
theorem dX2_isRowSound_40 : decode cX2_isRowSound 40 = .ok (.ifCond .eq 15, 3) := dqo_153 0 15 (by decide) (kb_of ke_X2_isRowSound 40 rfl) (kb_of ke_X2_isRowSound 41 rfl) (kb_of ke_X2_isRowSound 42 rfl)
theorem dX2_isRowSound_43 : decode cX2_isRowSound 43 = .ok (.aload_n 0, 1) := dqo_42 (kb_of ke_X2_isRowSound 43 rfl)
theorem dX2_isRowSound_44 : decode cX2_isRowSound 44 = .ok (.aload_n 1, 1) := dqo_43 (kb_of ke_X2_isRowSound 44 rfl)
theorem dX2_isRowSound_45 : decode cX2_isRowSound 45 = .ok (.invokevirtual 318, 3) := dqo_182 1 62 (kb_of ke_X2_isRowSound 45 rfl) (kb_of ke_X2_isRowSound 46 rfl) (kb_of ke_X2_isRowSound 47 rfl)
theorem dX2_isRowSound_48 : decode cX2_isRowSound 48 = .ok (.ifCond .eq 7, 3) := dqo_153 0 7 (by decide) (kb_of ke_X2_isRowSound 48 rfl) (kb_of ke_X2_isRowSound 49 rfl) (kb_of ke_X2_isRowSound 50 rfl)
theorem dX2_isRowSound_51 : decode cX2_isRowSound 51 = .ok (.iconst 1, 1) := dqo_4 (kb_of ke_X2_isRowSound 51 rfl)
theorem dX2_isRowSound_52 : decode cX2_isRowSound 52 = .ok (.goto 4, 3) := dqo_167 0 4 (by decide) (kb_of ke_X2_isRowSound 52 rfl) (kb_of ke_X2_isRowSound 53 rfl) (kb_of ke_X2_isRowSound 54 rfl)
theorem dX2_isRowSound_56 : decode cX2_isRowSound 56 = .ok (.ireturn, 1) := dqo_172 (kb_of ke_X2_isRowSound 56 rfl)
set_option maxRecDepth 100000 in
set_option maxHeartbeats 4000000 in
theorem K_isRowSound {l : Launch} {D : va_G} {cy : Nat → ClassId} {X : (Nat → Prop) → State → Heap → Prop} {a f : Nat → Nat → Nat} {r : Nat → Nat → Int32} {kn : Int32} {Y : va_W} {i : Nat} (hX : EnvX X) (hC : CInv f) (hi4 : i < 4) (hR : ∀ q, q < f 4 i → -99 ≤ (r (f 0 i) (f 3 i + q)).toInt ∧ (r (f 0 i) (f 3 i + q)).toInt ≤ 99) : Cm l D cy X yX2_isRowSound cX2_isRowSound 2 (some .boolean) (rmz 5 260) [.ref (a 0 0), .ref (a 1 i)] (WC cy a f r kn ++ Y) (fun v w1 => v = some (.int (nI 1)) ∧ ∃ f' r', w1 = WC cy a f' r' kn ++ Y ∧ Scr f r f' r') (fun _ => False) := by
  have q3 := hC.sp
  have q1 := hC.rw hi4
  refine Cm.of [some (.ref (a 0 0)), some (.ref (a 1 i))] pn_X2 rfl (Nat.le_of_ble_eq_true rfl) ?_
  intro p e s m args below meth c A C hE hr hnt hn
  refine r_aload_n C dX2_isRowSound_0 rfl ?_
  refine r_aload_n C dX2_isRowSound_1 rfl ?_
  refine r_iconst (v := (nI 1)) C dX2_isRowSound_2 (by decide) ?_
  refine d_VE (st := []) hX.stb C hE (K_isMoveSound (f := f) (r := r) (kn := kn) (i := i) (n0 := 1) hX hC hi4 (by decide)) pk_X2_isMoveSound qm_X2_308 0 6 rfl rfl wc_0 rfl rfl (Nat.le_of_ble_eq_true rfl) dX2_isRowSound_3 ⟨Nat.le_of_ble_eq_true rfl, Nat.le_of_ble_eq_true rfl⟩ ⟨Nat.le_of_ble_eq_true rfl, Nat.le_of_ble_eq_true rfl⟩ ?_
  intro f1 r1 t1
  have u1 := t1
  have hC1 := u1.inv hC
  refine r_ifN_eq (a := 1) (tgt := 55) C (by first | omega | (simp [up2, *]; done) | (simp [up2, *]; omega) | (simp only [up2_eq]; omega) | (split <;> omega)) dX2_isRowSound_6 (by decide) (fun h6_1 => ?_) (fun h6_1 => ?_)
  · exact absurd h6_1 (by first | omega | (simp [up2, *]; done) | (simp [up2, *]; omega) | (simp only [up2_eq]; omega) | (split <;> omega))
  · skip
    refine r_aload_n C dX2_isRowSound_9 rfl ?_
    refine r_aload_n C dX2_isRowSound_10 rfl ?_
    refine r_iconst (v := (nI 2)) C dX2_isRowSound_11 (by decide) ?_
    refine d_VE (st := []) hX.stb C hE (K_isMoveSound (f := f1) (r := r1) (kn := kn) (i := i) (n0 := 2) hX hC1 hi4 (by decide)) pk_X2_isMoveSound qm_X2_308 0 6 rfl rfl wc_0 rfl rfl (Nat.le_of_ble_eq_true rfl) dX2_isRowSound_12 ⟨Nat.le_of_ble_eq_true rfl, Nat.le_of_ble_eq_true rfl⟩ ⟨Nat.le_of_ble_eq_true rfl, Nat.le_of_ble_eq_true rfl⟩ ?_
    intro f2 r2 t2
    have u2 := u1.trans t2
    have hC2 := u2.inv hC
    refine r_ifN_eq (a := 1) (tgt := 55) C (by first | omega | (simp [up2, *]; done) | (simp [up2, *]; omega) | (simp only [up2_eq]; omega) | (split <;> omega)) dX2_isRowSound_15 (by decide) (fun h15_2 => ?_) (fun h15_2 => ?_)
    · exact absurd h15_2 (by first | omega | (simp [up2, *]; done) | (simp [up2, *]; omega) | (simp only [up2_eq]; omega) | (split <;> omega))
    · skip
      refine r_aload_n C dX2_isRowSound_18 rfl ?_
      refine r_aload_n C dX2_isRowSound_19 rfl ?_
      refine r_iconst (v := (nI 5)) C dX2_isRowSound_20 (by decide) ?_
      refine d_VE (st := []) hX.stb C hE (K_isMoveSound (f := f2) (r := r2) (kn := kn) (i := i) (n0 := 5) hX hC2 hi4 (by decide)) pk_X2_isMoveSound qm_X2_308 0 6 rfl rfl wc_0 rfl rfl (Nat.le_of_ble_eq_true rfl) dX2_isRowSound_21 ⟨Nat.le_of_ble_eq_true rfl, Nat.le_of_ble_eq_true rfl⟩ ⟨Nat.le_of_ble_eq_true rfl, Nat.le_of_ble_eq_true rfl⟩ ?_
      intro f3 r3 t3
      have u3 := u2.trans t3
      have hC3 := u3.inv hC
      refine r_ifN_eq (a := 1) (tgt := 55) C (by first | omega | (simp [up2, *]; done) | (simp [up2, *]; omega) | (simp only [up2_eq]; omega) | (split <;> omega)) dX2_isRowSound_24 (by decide) (fun h24_3 => ?_) (fun h24_3 => ?_)
      · exact absurd h24_3 (by first | omega | (simp [up2, *]; done) | (simp [up2, *]; omega) | (simp only [up2_eq]; omega) | (split <;> omega))
      · skip
        refine r_aload_n C dX2_isRowSound_27 rfl ?_
        refine r_aload_n C dX2_isRowSound_28 rfl ?_
        refine d_VE (st := []) hX.stb C hE (K_isRiffleSound (f := f3) (r := r3) (kn := kn) (i := i) hX hC3 hi4) pk_X2_isRiffleSound qm_X2_312 0 6 rfl rfl wc_0 rfl rfl (Nat.le_of_ble_eq_true rfl) dX2_isRowSound_29 ⟨Nat.le_of_ble_eq_true rfl, Nat.le_of_ble_eq_true rfl⟩ ⟨Nat.le_of_ble_eq_true rfl, Nat.le_of_ble_eq_true rfl⟩ ?_
        intro f4 r4 t4
        have u4 := u3.trans t4
        have hC4 := u4.inv hC
        refine r_ifN_eq (a := 1) (tgt := 55) C (by first | omega | (simp [up2, *]; done) | (simp [up2, *]; omega) | (simp only [up2_eq]; omega) | (split <;> omega)) dX2_isRowSound_32 (by decide) (fun h32_4 => ?_) (fun h32_4 => ?_)
        · exact absurd h32_4 (by first | omega | (simp [up2, *]; done) | (simp [up2, *]; omega) | (simp only [up2_eq]; omega) | (split <;> omega))
        · skip
          refine r_aload_n C dX2_isRowSound_35 rfl ?_
          refine r_aload_n C dX2_isRowSound_36 rfl ?_
          refine d_VE (st := []) hX.stb C hE (K_isTurnSound (f := f4) (r := r4) (kn := kn) (i := i) hX hC4 hi4) pk_X2_isTurnSound qm_X2_315 0 6 rfl rfl wc_0 rfl rfl (Nat.le_of_ble_eq_true rfl) dX2_isRowSound_37 ⟨Nat.le_of_ble_eq_true rfl, Nat.le_of_ble_eq_true rfl⟩ ⟨Nat.le_of_ble_eq_true rfl, Nat.le_of_ble_eq_true rfl⟩ ?_
          intro f5 r5 t5
          have u5 := u4.trans t5
          have hC5 := u5.inv hC
          refine r_ifN_eq (a := 1) (tgt := 55) C (by first | omega | (simp [up2, *]; done) | (simp [up2, *]; omega) | (simp only [up2_eq]; omega) | (split <;> omega)) dX2_isRowSound_40 (by decide) (fun h40_5 => ?_) (fun h40_5 => ?_)
          · exact absurd h40_5 (by first | omega | (simp [up2, *]; done) | (simp [up2, *]; omega) | (simp only [up2_eq]; omega) | (split <;> omega))
          · skip
            refine r_aload_n C dX2_isRowSound_43 rfl ?_
            refine r_aload_n C dX2_isRowSound_44 rfl ?_
            refine d_VE (st := []) hX.stb C hE (K_isOrderSound (f := f5) (r := r5) (kn := kn) (i := i) hX hC5 hi4 (fun q hq => by rw [u5.1 0 i (Or.inl (by decide)), u5.1 3 i (Or.inl (by decide)), u5.2.2.1 _ _ (by omega)]; exact hR q (by rw [← u5.1 4 i (Or.inr (by omega))]; exact hq))) pk_X2_isOrderSound qm_X2_318 0 6 rfl rfl wc_0 rfl rfl (Nat.le_of_ble_eq_true rfl) dX2_isRowSound_45 ⟨Nat.le_of_ble_eq_true rfl, Nat.le_of_ble_eq_true rfl⟩ ⟨Nat.le_of_ble_eq_true rfl, Nat.le_of_ble_eq_true rfl⟩ ?_
            intro f6 r6 t6
            have u6 := u5.trans t6
            have hC6 := u6.inv hC
            refine r_ifN_eq (a := 1) (tgt := 55) C (by first | omega | (simp [up2, *]; done) | (simp [up2, *]; omega) | (simp only [up2_eq]; omega) | (split <;> omega)) dX2_isRowSound_48 (by decide) (fun h48_6 => ?_) (fun h48_6 => ?_)
            · exact absurd h48_6 (by first | omega | (simp [up2, *]; done) | (simp [up2, *]; omega) | (simp only [up2_eq]; omega) | (split <;> omega))
            · skip
              refine r_iconst (v := (nI 1)) C dX2_isRowSound_51 (by decide) ?_
              refine r_goto (tgt := 56) C dX2_isRowSound_52 (by decide) ?_
              exact r_zret C hr (by first | omega | (simp [up2, *]; done) | (simp [up2, *]; omega) | (simp only [up2_eq]; omega) | (split <;> omega)) dX2_isRowSound_56 ⟨rfl, f6, r6, rfl, u6⟩ (Nat.le_of_ble_eq_true rfl) (Nat.le_of_ble_eq_true rfl)
end PT_28
/-! ===== 29.place -/
section PT_29
/-! A WINDOW LIES IN ITS GROUND -/
theorem poF_ne {g : Nat → Nat} : ∀ d k, k + d < 4294967295 → (∃ q, k ≤ q ∧ q < k + d ∧ g q ≠ 0) → poF g d k < k + d
  | 0, k, _, h => by
    obtain ⟨q, h1, h2, _⟩ := h
    omega
  | d + 1, k, hk, h => by
    unfold poF
    by_cases z : g k = 0
    · have := poF_ne (g := g) d (k + 1) (by omega) (by
        obtain ⟨q, h1, h2, h3⟩ := h
        refine ⟨q, ?_, by omega, h3⟩
        rcases Nat.lt_or_ge k q with h4 | h4
        · omega
        · exact absurd z (by rw [show k = q by omega]; exact h3))
      first
      | rw [if_pos z]; omega
      | rw [if_neg (by omega)]; omega
    · first
      | rw [if_neg z]; omega
      | rw [if_pos (by omega)]; omega
theorem win_place {f : Nat → Nat → Nat} {r : Nat → Nat → Int32} (h : CInv f) {i : Nat} (h4 : 4 ≤ i) (hi : i < 8) (h5 : f 5 i = 1) : poF (fun k => stF (fun q => r (f 0 (f 2 i)) (f 3 (f 2 i) + (k + q))) (fun q => r (f 0 i) (f 3 i + q)) (f 4 i) 0) (f 4 (f 2 i) + 1 - f 4 i) 0 < 13 := by
  have hw := h.wi h4 hi h5
  have hg := h.th hw.1 hw.2.1
  have ha := h.al hi
  have hb := h.al hw.1
  have h0 : f 0 (f 2 i) = f 0 i := by rw [ha.2.2.1, hb.2.2.1, hw.2.2.1]
  have hp := poF_ne (g := fun k => stF (fun q => r (f 0 (f 2 i)) (f 3 (f 2 i) + (k + q))) (fun q => r (f 0 i) (f 3 i + q)) (f 4 i) 0) (f 4 (f 2 i) + 1 - f 4 i) 0 (by omega) ⟨f 3 i - f 3 (f 2 i), by omega, by omega, by
    have e := stF_all (g := fun q => r (f 0 (f 2 i)) (f 3 (f 2 i) + (f 3 i - f 3 (f 2 i) + q))) (h := fun q => r (f 0 i) (f 3 i + q)) (f 4 i) 0 (fun q _ _ => by
      show r (f 0 (f 2 i)) (f 3 (f 2 i) + (f 3 i - f 3 (f 2 i) + q)) = r (f 0 i) (f 3 i + q)
      rw [h0, show f 3 (f 2 i) + (f 3 i - f 3 (f 2 i) + q) = f 3 i + q by omega])
    show stF _ _ _ _ ≠ 0
    omega⟩
  omega
end PT_29
/-! ===== 30.issound -/
section PT_30
/-! CONTRACTS of the class: it is sound -/
theorem pk_X2_isRowSound : PkV RX2 yX2_isRowSound cX2_isRowSound 2 (some .boolean) 1 := ⟨⟨qi_X2_isRowSound, qs_X2_isRowSound, qz_X2, qc_X2_isRowSound⟩, rfl, mh_X2.1, mh_X2.2, pd_14⟩
theorem dX2_isSound_0 : decode cX2_isSound 0 = .ok (.iconst 0, 1) := dqo_3 (kb_X2_isSound_0 0 rfl)
theorem dX2_isSound_1 : decode cX2_isSound 1 = .ok (.istore_n 1, 1) := dqo_60 (kb_X2_isSound_0 1 rfl)
theorem dX2_isSound_2 : decode cX2_isSound 2 = .ok (.iload_n 1, 1) := dqo_27 (kb_X2_isSound_0 2 rfl)
theorem dX2_isSound_3 : decode cX2_isSound 3 = .ok (.iconst 4, 1) := dqo_7 (kb_X2_isSound_0 3 rfl)
theorem dX2_isSound_4 : decode cX2_isSound 4 = .ok (.if_icmp .ge 24, 3) := dqo_162 0 24 (by decide) (kb_X2_isSound_0 4 rfl) (kb_X2_isSound_0 5 rfl) (kb_X2_isSound_0 6 rfl)
theorem dX2_isSound_7 : decode cX2_isSound 7 = .ok (.aload_n 0, 1) := dqo_42 (kb_X2_isSound_0 7 rfl)
theorem dX2_isSound_8 : decode cX2_isSound 8 = .ok (.aload_n 0, 1) := dqo_42 (kb_X2_isSound_0 8 rfl)
theorem dX2_isSound_9 : decode cX2_isSound 9 = .ok (.getfield 11, 3) := dqo_180 0 11 (kb_X2_isSound_0 9 rfl) (kb_X2_isSound_0 10 rfl) (kb_X2_isSound_0 11 rfl)
theorem dX2_isSound_12 : decode cX2_isSound 12 = .ok (.iload_n 1, 1) := dqo_27 (kb_X2_isSound_0 12 rfl)
theorem dX2_isSound_13 : decode cX2_isSound 13 = .ok (.aaload, 1) := dqo_50 (kb_X2_isSound_0 13 rfl)
theorem dX2_isSound_14 : decode cX2_isSound 14 = .ok (.invokevirtual 249, 3) := dqo_182 0 249 (kb_X2_isSound_0 14 rfl) (kb_X2_isSound_0 15 rfl) (kb_X2_isSound_0 16 rfl)
theorem dX2_isSound_17 : decode cX2_isSound 17 = .ok (.ifCond .ne 5, 3) := dqo_154 0 5 (by decide) (kb_X2_isSound_0 17 rfl) (kb_X2_isSound_0 18 rfl) (kb_X2_isSound_0 19 rfl)
theorem dX2_isSound_22 : decode cX2_isSound 22 = .ok (.iinc 1 1, 3) := dqo_132 1 1 (by decide) (kb_X2_isSound_0 22 rfl) (kb_X2_isSound_0 23 rfl) (kb_X2_isSound_0 24 rfl)
theorem dX2_isSound_25 : decode cX2_isSound 25 = .ok (.goto (-23), 3) := dqo_167 255 233 (by decide) (kb_X2_isSound_0 25 rfl) (kb_X2_isSound_0 26 rfl) (kb_X2_isSound_0 27 rfl)
theorem dX2_isSound_28 : decode cX2_isSound 28 = .ok (.iconst 4, 1) := dqo_7 (kb_X2_isSound_0 28 rfl)
theorem dX2_isSound_29 : decode cX2_isSound 29 = .ok (.istore_n 1, 1) := dqo_60 (kb_X2_isSound_0 29 rfl)
theorem dX2_isSound_30 : decode cX2_isSound 30 = .ok (.iload_n 1, 1) := dqo_27 (kb_X2_isSound_0 30 rfl)
theorem dX2_isSound_31 : decode cX2_isSound 31 = .ok (.bipush 8, 2) := dqo_16 8 (by decide) (kb_X2_isSound_0 31 rfl) (kb_X2_isSound_0 32 rfl)
theorem dX2_isSound_33 : decode cX2_isSound 33 = .ok (.if_icmp .ge 42, 3) := dqo_162 0 42 (by decide) (kb_X2_isSound_0 33 rfl) (kb_X2_isSound_0 34 rfl) (kb_X2_isSound_0 35 rfl)
theorem dX2_isSound_36 : decode cX2_isSound 36 = .ok (.aload_n 0, 1) := dqo_42 (kb_X2_isSound_0 36 rfl)
theorem dX2_isSound_37 : decode cX2_isSound 37 = .ok (.getfield 11, 3) := dqo_180 0 11 (kb_X2_isSound_0 37 rfl) (kb_X2_isSound_0 38 rfl) (kb_X2_isSound_0 39 rfl)
theorem dX2_isSound_40 : decode cX2_isSound 40 = .ok (.iload_n 1, 1) := dqo_27 (kb_X2_isSound_0 40 rfl)
theorem dX2_isSound_41 : decode cX2_isSound 41 = .ok (.aaload, 1) := dqo_50 (kb_X2_isSound_0 41 rfl)
theorem dX2_isSound_42 : decode cX2_isSound 42 = .ok (.astore_n 2, 1) := dqo_77 (kb_X2_isSound_0 42 rfl)
theorem dX2_isSound_43 : decode cX2_isSound 43 = .ok (.aload_n 2, 1) := dqo_44 (kb_X2_isSound_0 43 rfl)
theorem dX2_isSound_44 : decode cX2_isSound 44 = .ok (.getfield 194, 3) := dqo_180 0 194 (kb_X2_isSound_0 44 rfl) (kb_X2_isSound_0 45 rfl) (kb_X2_isSound_0 46 rfl)
theorem dX2_isSound_47 : decode cX2_isSound 47 = .ok (.ifCond .eq 22, 3) := dqo_153 0 22 (by decide) (kb_X2_isSound_0 47 rfl) (kb_X2_isSound_0 48 rfl) (kb_X2_isSound_0 49 rfl)
theorem dX2_isSound_50 : decode cX2_isSound 50 = .ok (.aload_n 0, 1) := dqo_42 (kb_X2_isSound_0 50 rfl)
theorem dX2_isSound_51 : decode cX2_isSound 51 = .ok (.getfield 11, 3) := dqo_180 0 11 (kb_X2_isSound_0 51 rfl) (kb_X2_isSound_0 52 rfl) (kb_X2_isSound_0 53 rfl)
theorem dX2_isSound_54 : decode cX2_isSound 54 = .ok (.aload_n 2, 1) := dqo_44 (kb_X2_isSound_0 54 rfl)
theorem dX2_isSound_55 : decode cX2_isSound 55 = .ok (.getfield 204, 3) := dqo_180 0 204 (kb_X2_isSound_0 55 rfl) (kb_X2_isSound_0 56 rfl) (kb_X2_isSound_0 57 rfl)
theorem dX2_isSound_58 : decode cX2_isSound 58 = .ok (.aaload, 1) := dqo_50 (kb_X2_isSound_0 58 rfl)
theorem dX2_isSound_59 : decode cX2_isSound 59 = .ok (.aload_n 2, 1) := dqo_44 (kb_X2_isSound_0 59 rfl)
theorem dX2_isSound_60 : decode cX2_isSound 60 = .ok (.invokevirtual 122, 3) := dqo_182 0 122 (kb_X2_isSound_0 60 rfl) (kb_X2_isSound_0 61 rfl) (kb_X2_isSound_0 62 rfl)
theorem dX2_isSound_63 : decode cX2_isSound 63 = .ok (.iconst (-1), 1) := dqo_2 (kb_X2_isSound_0 63 rfl)
theorem dX2_isSound_64 : decode cX2_isSound 64 = .ok (.if_icmp .ne 5, 3) := dqo_160 0 5 (by decide) (kb_X2_isSound_1 0 rfl) (kb_X2_isSound_1 1 rfl) (kb_X2_isSound_1 2 rfl)
theorem dX2_isSound_69 : decode cX2_isSound 69 = .ok (.iinc 1 1, 3) := dqo_132 1 1 (by decide) (kb_X2_isSound_1 5 rfl) (kb_X2_isSound_1 6 rfl) (kb_X2_isSound_1 7 rfl)
theorem dX2_isSound_72 : decode cX2_isSound 72 = .ok (.goto (-42), 3) := dqo_167 255 214 (by decide) (kb_X2_isSound_1 8 rfl) (kb_X2_isSound_1 9 rfl) (kb_X2_isSound_1 10 rfl)
theorem dX2_isSound_75 : decode cX2_isSound 75 = .ok (.iconst 1, 1) := dqo_4 (kb_X2_isSound_1 11 rfl)
theorem dX2_isSound_76 : decode cX2_isSound 76 = .ok (.ireturn, 1) := dqo_172 (kb_X2_isSound_1 12 rfl)
set_option maxRecDepth 100000 in
set_option maxHeartbeats 4000000 in
theorem K_isSound {l : Launch} {D : va_G} {cy : Nat → ClassId} {X : (Nat → Prop) → State → Heap → Prop} {a f : Nat → Nat → Nat} {r : Nat → Nat → Int32} {kn : Int32} {Y : va_W}  (hX : EnvX X) (hC : CInv f) (hR : ∀ i q, i < 4 → q < f 4 i → -99 ≤ (r (f 0 i) (f 3 i + q)).toInt ∧ (r (f 0 i) (f 3 i + q)).toInt ≤ 99) : Cm l D cy X yX2_isSound cX2_isSound 3 (some .boolean) (rmz 6 320) [.ref (a 0 0)] (WC cy a f r kn ++ Y) (fun v w1 => v = some (.int (nI 1)) ∧ ∃ f' r', w1 = WC cy a f' r' kn ++ Y ∧ Scr f r f' r') (fun _ => False) := by
  have q3 := hC.sp
  refine Cm.of [some (.ref (a 0 0)), none, none] pn_X2 rfl (Nat.le_of_ble_eq_true rfl) ?_
  intro p e s m args below meth c A C hE hr hnt hn
  refine r_iconst (v := (nI 0)) C dX2_isSound_0 (by decide) ?_
  refine r_istore_n C dX2_isSound_1 (by decide) rfl ?_
  have L2 : ∀ (d : Nat) (t : Nat) (f1 : Nat → Nat → Nat) (r1 : Nat → Nat → Int32), (ht : t + d = 4) → (hs : Scr f r f1 r1) → vC p l e (rmz 6 320) s m args below meth c D A (vx_MQ below (vG (fun v1 w1 => v1 = (some (.int (nI 1))) ∧ ∃ f' r', w1 = WC cy a f' r' kn ++ Y ∧ Scr f r f' r') D vwCl A) (vGX (fun _ => False) D vwCl (WC cy a f r kn ++ Y) A) args s (rmz 6 320).cells (rmz 6 320).slots A) 3 0 0 (WC cy a f1 r1 kn ++ Y) [some (.ref (a 0 0)), some (.int (nI t)), none] 2 [] := by
    intro d
    induction d with
    | zero =>
      intro t f1 r1 ht hs
      refine r_iload_n C dX2_isSound_2 rfl ?_
      refine r_iconst (v := (nI 4)) C dX2_isSound_3 (by decide) ?_
      refine r_icN_ge (a := t) (b := 4) (tgt := 28) C (by first | omega | (simp [up2, *]; done) | (simp [up2, *]; omega) | (simp only [up2_eq]; omega) | (split <;> omega)) (by first | omega | (simp [up2, *]; done) | (simp [up2, *]; omega) | (simp only [up2_eq]; omega) | (split <;> omega)) dX2_isSound_4 (by decide) (fun h4_1 => ?_) (fun h4_1 => ?_)
      · first
        | exfalso; first | omega | contradiction
        | skip
          have hD := hs.inv hC
          refine r_iconst (v := (nI 4)) C dX2_isSound_28 (by decide) ?_
          refine r_istore_n C dX2_isSound_29 (by decide) rfl ?_
          have L30 : ∀ (d : Nat) (t : Nat), (ht : t + d = 8 ∧ 4 ≤ t) → vC p l e (rmz 6 320) s m args below meth c D A (vx_MQ below (vG (fun v1 w1 => v1 = (some (.int (nI 1))) ∧ ∃ f' r', w1 = WC cy a f' r' kn ++ Y ∧ Scr f r f' r') D vwCl A) (vGX (fun _ => False) D vwCl (WC cy a f r kn ++ Y) A) args s (rmz 6 320).cells (rmz 6 320).slots A) 3 0 0 (WC cy a f1 r1 kn ++ Y) [some (.ref (a 0 0)), some (.int (nI t)), none] 30 [] := by
            intro d
            induction d with
            | zero =>
              intro t ht
              refine r_iload_n C dX2_isSound_30 rfl ?_
              refine r_bipush (v := (nI 8)) C dX2_isSound_31 (by decide) ?_
              refine r_icN_ge (a := t) (b := 8) (tgt := 75) C (by first | omega | (simp [up2, *]; done) | (simp [up2, *]; omega) | (simp only [up2_eq]; omega) | (split <;> omega)) (by first | omega | (simp [up2, *]; done) | (simp [up2, *]; omega) | (simp only [up2_eq]; omega) | (split <;> omega)) dX2_isSound_33 (by decide) (fun h33_2 => ?_) (fun h33_2 => ?_)
              · first
                | exfalso; first | omega | contradiction
                | skip
                  refine r_iconst (v := (nI 1)) C dX2_isSound_75 (by decide) ?_
                  exact r_zret C hr (by first | omega | (simp [up2, *]; done) | (simp [up2, *]; omega) | (simp only [up2_eq]; omega) | (split <;> omega)) dX2_isSound_76 ⟨rfl, f1, r1, rfl, hs⟩ (Nat.le_of_ble_eq_true rfl) (Nat.le_of_ble_eq_true rfl)
              · first
                | exfalso; first | omega | contradiction
                | skip
                  refine r_aload_n C dX2_isSound_36 rfl ?_
                  refine s_get C 0 (by decide) qf_X2_11 rfl rfl dX2_isSound_37 ?_
                  refine r_iload_n C dX2_isSound_40 rfl ?_
                  refine s_parts C (by first | omega | (simp [up2, *]; done) | (simp [up2, *]; omega) | (simp only [up2_eq]; omega) | (split <;> omega)) dX2_isSound_41 ?_
                  refine r_astore_n C dX2_isSound_42 (by decide) rfl ?_
                  refine r_aload_n C dX2_isSound_43 rfl ?_
                  refine p_getN (v := .int (nI (f1 5 t))) hX C hE 5 (by first | omega | (simp [up2, *]; done) | (simp [up2, *]; omega) | (simp only [up2_eq]; omega) | (split <;> omega)) (by decide) qn_X2_194 rfl rfl dX2_isSound_44 ?_
                  have q1 := hD.h5 t (by omega)
                  refine r_ifN_eq (a := (f1 5 t)) (tgt := 69) C (by first | omega | (simp [up2, *]; done) | (simp [up2, *]; omega) | (simp only [up2_eq]; omega) | (split <;> omega)) dX2_isSound_47 (by decide) (fun h47_3 => ?_) (fun h47_3 => ?_)
                  · first
                    | exfalso; first | omega | contradiction
                    | skip
                      refine r_iincN C dX2_isSound_69 rfl (by decide) rfl ?_
                      refine r_goto (tgt := 30) C dX2_isSound_72 (by decide) ?_
                      refine r_drop 2 ?_
                      exact (Nat.not_lt_zero _ (by omega)).elim
                  · first
                    | exfalso; first | omega | contradiction
                    | skip
                      have q2 := hD.wi (i := t) (by omega) (by omega) (by omega)
                      have q3 := hD.th (i := t) (by omega) (by omega)
                      have q4 := hD.th q2.1 q2.2.1
                      have q5 := win_place (r := r1) hD (i := t) (by omega) (by omega) (by omega)
                      refine r_aload_n C dX2_isSound_50 rfl ?_
                      refine s_get C 0 (by decide) qf_X2_11 rfl rfl dX2_isSound_51 ?_
                      refine r_aload_n C dX2_isSound_54 rfl ?_
                      refine p_getN (v := .int (nI (f1 2 t))) hX C hE 2 (by first | omega | (simp [up2, *]; done) | (simp [up2, *]; omega) | (simp only [up2_eq]; omega) | (split <;> omega)) (by decide) qn_X2_204 rfl rfl dX2_isSound_55 ?_
                      refine s_parts C (by first | omega | (simp [up2, *]; done) | (simp [up2, *]; omega) | (simp only [up2_eq]; omega) | (split <;> omega)) dX2_isSound_58 ?_
                      refine r_aload_n C dX2_isSound_59 rfl ?_
                      refine d_V (st := []) hX.stb C hE (C_placeOfAll (f := f1) (r := r1) (kn := kn) (i := (f1 2 t)) (j := t) hX (by first | omega | (simp [up2, *]; done) | (simp [up2, *]; omega) | (simp only [up2_eq]; omega) | (split <;> omega)) (by first | omega | (simp [up2, *]; done) | (simp [up2, *]; omega) | (simp only [up2_eq]; omega) | (split <;> omega)) (by first | omega | (simp [up2, *]; done) | (simp [up2, *]; omega) | (simp only [up2_eq]; omega) | (split <;> omega)) (by first | omega | (simp [up2, *]; done) | (simp [up2, *]; omega) | (simp only [up2_eq]; omega) | (split <;> omega)) (by first | omega | (simp [up2, *]; done) | (simp [up2, *]; omega) | (simp only [up2_eq]; omega) | (split <;> omega)) (by first | omega | (simp [up2, *]; done) | (simp [up2, *]; omega) | (simp only [up2_eq]; omega) | (split <;> omega))) pk_X1_placeOfAll qm_X2_122 (3 + (f1 2 t)) 5 rfl rfl (wc_p (by first | omega | (simp [up2, *]; done) | (simp [up2, *]; omega) | (simp only [up2_eq]; omega) | (split <;> omega))) rfl rfl (Nat.le_of_ble_eq_true rfl) dX2_isSound_60 ⟨Nat.le_of_ble_eq_true rfl, Nat.le_of_ble_eq_true rfl⟩ ⟨Nat.le_of_ble_eq_true rfl, Nat.le_of_ble_eq_true rfl⟩ ?_
                      refine r_iconst (v := (nI 4294967295)) C dX2_isSound_63 (by decide) ?_
                      refine r_icN_ne (a := (poF (fun k => stF (fun q => r1 (f1 0 (f1 2 t)) (f1 3 (f1 2 t) + (k + q))) (fun q => r1 (f1 0 t) (f1 3 t + q)) (f1 4 t) 0) (f1 4 (f1 2 t) + 1 - f1 4 t) 0)) (b := 4294967295) (tgt := 69) C (by first | omega | (simp [up2, *]; done) | (simp [up2, *]; omega) | (simp only [up2_eq]; omega) | (split <;> omega)) (by first | omega | (simp [up2, *]; done) | (simp [up2, *]; omega) | (simp only [up2_eq]; omega) | (split <;> omega)) dX2_isSound_64 (by decide) (fun h64_4 => ?_) (fun h64_4 => ?_)
                      · skip
                        refine r_iincN C dX2_isSound_69 rfl (by decide) rfl ?_
                        refine r_goto (tgt := 30) C dX2_isSound_72 (by decide) ?_
                        refine r_drop 2 ?_
                        exact (Nat.not_lt_zero _ (by omega)).elim
                      · exact absurd h64_4 (by first | omega | (simp [up2, *]; done) | (simp [up2, *]; omega) | (simp only [up2_eq]; omega) | (split <;> omega))
            | succ d ih_L30 =>
              intro t ht
              refine r_iload_n C dX2_isSound_30 rfl ?_
              refine r_bipush (v := (nI 8)) C dX2_isSound_31 (by decide) ?_
              refine r_icN_ge (a := t) (b := 8) (tgt := 75) C (by first | omega | (simp [up2, *]; done) | (simp [up2, *]; omega) | (simp only [up2_eq]; omega) | (split <;> omega)) (by first | omega | (simp [up2, *]; done) | (simp [up2, *]; omega) | (simp only [up2_eq]; omega) | (split <;> omega)) dX2_isSound_33 (by decide) (fun h33_5 => ?_) (fun h33_5 => ?_)
              · first
                | exfalso; first | omega | contradiction
                | skip
                  refine r_iconst (v := (nI 1)) C dX2_isSound_75 (by decide) ?_
                  exact r_zret C hr (by first | omega | (simp [up2, *]; done) | (simp [up2, *]; omega) | (simp only [up2_eq]; omega) | (split <;> omega)) dX2_isSound_76 ⟨rfl, f1, r1, rfl, hs⟩ (Nat.le_of_ble_eq_true rfl) (Nat.le_of_ble_eq_true rfl)
              · first
                | exfalso; first | omega | contradiction
                | skip
                  refine r_aload_n C dX2_isSound_36 rfl ?_
                  refine s_get C 0 (by decide) qf_X2_11 rfl rfl dX2_isSound_37 ?_
                  refine r_iload_n C dX2_isSound_40 rfl ?_
                  refine s_parts C (by first | omega | (simp [up2, *]; done) | (simp [up2, *]; omega) | (simp only [up2_eq]; omega) | (split <;> omega)) dX2_isSound_41 ?_
                  refine r_astore_n C dX2_isSound_42 (by decide) rfl ?_
                  refine r_aload_n C dX2_isSound_43 rfl ?_
                  refine p_getN (v := .int (nI (f1 5 t))) hX C hE 5 (by first | omega | (simp [up2, *]; done) | (simp [up2, *]; omega) | (simp only [up2_eq]; omega) | (split <;> omega)) (by decide) qn_X2_194 rfl rfl dX2_isSound_44 ?_
                  have q1 := hD.h5 t (by omega)
                  refine r_ifN_eq (a := (f1 5 t)) (tgt := 69) C (by first | omega | (simp [up2, *]; done) | (simp [up2, *]; omega) | (simp only [up2_eq]; omega) | (split <;> omega)) dX2_isSound_47 (by decide) (fun h47_6 => ?_) (fun h47_6 => ?_)
                  · first
                    | exfalso; first | omega | contradiction
                    | skip
                      refine r_iincN C dX2_isSound_69 rfl (by decide) rfl ?_
                      refine r_goto (tgt := 30) C dX2_isSound_72 (by decide) ?_
                      refine r_drop 2 ?_
                      exact ih_L30 (t + 1) (by omega)
                  · first
                    | exfalso; first | omega | contradiction
                    | skip
                      have q2 := hD.wi (i := t) (by omega) (by omega) (by omega)
                      have q3 := hD.th (i := t) (by omega) (by omega)
                      have q4 := hD.th q2.1 q2.2.1
                      have q5 := win_place (r := r1) hD (i := t) (by omega) (by omega) (by omega)
                      refine r_aload_n C dX2_isSound_50 rfl ?_
                      refine s_get C 0 (by decide) qf_X2_11 rfl rfl dX2_isSound_51 ?_
                      refine r_aload_n C dX2_isSound_54 rfl ?_
                      refine p_getN (v := .int (nI (f1 2 t))) hX C hE 2 (by first | omega | (simp [up2, *]; done) | (simp [up2, *]; omega) | (simp only [up2_eq]; omega) | (split <;> omega)) (by decide) qn_X2_204 rfl rfl dX2_isSound_55 ?_
                      refine s_parts C (by first | omega | (simp [up2, *]; done) | (simp [up2, *]; omega) | (simp only [up2_eq]; omega) | (split <;> omega)) dX2_isSound_58 ?_
                      refine r_aload_n C dX2_isSound_59 rfl ?_
                      refine d_V (st := []) hX.stb C hE (C_placeOfAll (f := f1) (r := r1) (kn := kn) (i := (f1 2 t)) (j := t) hX (by first | omega | (simp [up2, *]; done) | (simp [up2, *]; omega) | (simp only [up2_eq]; omega) | (split <;> omega)) (by first | omega | (simp [up2, *]; done) | (simp [up2, *]; omega) | (simp only [up2_eq]; omega) | (split <;> omega)) (by first | omega | (simp [up2, *]; done) | (simp [up2, *]; omega) | (simp only [up2_eq]; omega) | (split <;> omega)) (by first | omega | (simp [up2, *]; done) | (simp [up2, *]; omega) | (simp only [up2_eq]; omega) | (split <;> omega)) (by first | omega | (simp [up2, *]; done) | (simp [up2, *]; omega) | (simp only [up2_eq]; omega) | (split <;> omega)) (by first | omega | (simp [up2, *]; done) | (simp [up2, *]; omega) | (simp only [up2_eq]; omega) | (split <;> omega))) pk_X1_placeOfAll qm_X2_122 (3 + (f1 2 t)) 5 rfl rfl (wc_p (by first | omega | (simp [up2, *]; done) | (simp [up2, *]; omega) | (simp only [up2_eq]; omega) | (split <;> omega))) rfl rfl (Nat.le_of_ble_eq_true rfl) dX2_isSound_60 ⟨Nat.le_of_ble_eq_true rfl, Nat.le_of_ble_eq_true rfl⟩ ⟨Nat.le_of_ble_eq_true rfl, Nat.le_of_ble_eq_true rfl⟩ ?_
                      refine r_iconst (v := (nI 4294967295)) C dX2_isSound_63 (by decide) ?_
                      refine r_icN_ne (a := (poF (fun k => stF (fun q => r1 (f1 0 (f1 2 t)) (f1 3 (f1 2 t) + (k + q))) (fun q => r1 (f1 0 t) (f1 3 t + q)) (f1 4 t) 0) (f1 4 (f1 2 t) + 1 - f1 4 t) 0)) (b := 4294967295) (tgt := 69) C (by first | omega | (simp [up2, *]; done) | (simp [up2, *]; omega) | (simp only [up2_eq]; omega) | (split <;> omega)) (by first | omega | (simp [up2, *]; done) | (simp [up2, *]; omega) | (simp only [up2_eq]; omega) | (split <;> omega)) dX2_isSound_64 (by decide) (fun h64_7 => ?_) (fun h64_7 => ?_)
                      · skip
                        refine r_iincN C dX2_isSound_69 rfl (by decide) rfl ?_
                        refine r_goto (tgt := 30) C dX2_isSound_72 (by decide) ?_
                        refine r_drop 2 ?_
                        exact ih_L30 (t + 1) (by omega)
                      · exact absurd h64_7 (by first | omega | (simp [up2, *]; done) | (simp [up2, *]; omega) | (simp only [up2_eq]; omega) | (split <;> omega))
          exact L30 4 4 (by omega)
      · first
        | exfalso; first | omega | contradiction
        | skip
          refine r_aload_n C dX2_isSound_7 rfl ?_
          refine r_aload_n C dX2_isSound_8 rfl ?_
          refine s_get C 0 (by decide) qf_X2_11 rfl rfl dX2_isSound_9 ?_
          refine r_iload_n C dX2_isSound_12 rfl ?_
          refine s_parts C (by first | omega | (simp [up2, *]; done) | (simp [up2, *]; omega) | (simp only [up2_eq]; omega) | (split <;> omega)) dX2_isSound_13 ?_
          refine d_VE (st := []) hX.stb C hE (K_isRowSound (f := f1) (r := r1) (kn := kn) (i := t) hX (hs.inv hC) (by omega) (fun q hq => by rw [hs.1 0 t (Or.inl (by decide)), hs.1 3 t (Or.inl (by decide)), hs.2.2.1 _ _ (by have := hC.rw (i := t) (by omega); omega)]; exact hR t q (by omega) (by rw [← hs.1 4 t (Or.inr (by omega))]; exact hq))) pk_X2_isRowSound qm_X2_249 0 6 rfl rfl wc_0 rfl rfl (Nat.le_of_ble_eq_true rfl) dX2_isSound_14 ⟨Nat.le_of_ble_eq_true rfl, Nat.le_of_ble_eq_true rfl⟩ ⟨Nat.le_of_ble_eq_true rfl, Nat.le_of_ble_eq_true rfl⟩ ?_
          intro f2 r2 t2
          refine r_ifN_ne (a := 1) (tgt := 22) C (by first | omega | (simp [up2, *]; done) | (simp [up2, *]; omega) | (simp only [up2_eq]; omega) | (split <;> omega)) dX2_isSound_17 (by decide) (fun h17_8 => ?_) (fun h17_8 => ?_)
          · skip
            refine r_iincN C dX2_isSound_22 rfl (by decide) rfl ?_
            refine r_goto (tgt := 2) C dX2_isSound_25 (by decide) ?_
            exact (Nat.not_lt_zero _ (by omega)).elim
          · exact absurd h17_8 (by first | omega | (simp [up2, *]; done) | (simp [up2, *]; omega) | (simp only [up2_eq]; omega) | (split <;> omega))
    | succ d ih_L2 =>
      intro t f1 r1 ht hs
      refine r_iload_n C dX2_isSound_2 rfl ?_
      refine r_iconst (v := (nI 4)) C dX2_isSound_3 (by decide) ?_
      refine r_icN_ge (a := t) (b := 4) (tgt := 28) C (by first | omega | (simp [up2, *]; done) | (simp [up2, *]; omega) | (simp only [up2_eq]; omega) | (split <;> omega)) (by first | omega | (simp [up2, *]; done) | (simp [up2, *]; omega) | (simp only [up2_eq]; omega) | (split <;> omega)) dX2_isSound_4 (by decide) (fun h4_9 => ?_) (fun h4_9 => ?_)
      · first
        | exfalso; first | omega | contradiction
        | skip
          have hD := hs.inv hC
          refine r_iconst (v := (nI 4)) C dX2_isSound_28 (by decide) ?_
          refine r_istore_n C dX2_isSound_29 (by decide) rfl ?_
          have L30 : ∀ (d : Nat) (t : Nat), (ht : t + d = 8 ∧ 4 ≤ t) → vC p l e (rmz 6 320) s m args below meth c D A (vx_MQ below (vG (fun v1 w1 => v1 = (some (.int (nI 1))) ∧ ∃ f' r', w1 = WC cy a f' r' kn ++ Y ∧ Scr f r f' r') D vwCl A) (vGX (fun _ => False) D vwCl (WC cy a f r kn ++ Y) A) args s (rmz 6 320).cells (rmz 6 320).slots A) 3 0 0 (WC cy a f1 r1 kn ++ Y) [some (.ref (a 0 0)), some (.int (nI t)), none] 30 [] := by
            intro d
            induction d with
            | zero =>
              intro t ht
              refine r_iload_n C dX2_isSound_30 rfl ?_
              refine r_bipush (v := (nI 8)) C dX2_isSound_31 (by decide) ?_
              refine r_icN_ge (a := t) (b := 8) (tgt := 75) C (by first | omega | (simp [up2, *]; done) | (simp [up2, *]; omega) | (simp only [up2_eq]; omega) | (split <;> omega)) (by first | omega | (simp [up2, *]; done) | (simp [up2, *]; omega) | (simp only [up2_eq]; omega) | (split <;> omega)) dX2_isSound_33 (by decide) (fun h33_10 => ?_) (fun h33_10 => ?_)
              · first
                | exfalso; first | omega | contradiction
                | skip
                  refine r_iconst (v := (nI 1)) C dX2_isSound_75 (by decide) ?_
                  exact r_zret C hr (by first | omega | (simp [up2, *]; done) | (simp [up2, *]; omega) | (simp only [up2_eq]; omega) | (split <;> omega)) dX2_isSound_76 ⟨rfl, f1, r1, rfl, hs⟩ (Nat.le_of_ble_eq_true rfl) (Nat.le_of_ble_eq_true rfl)
              · first
                | exfalso; first | omega | contradiction
                | skip
                  refine r_aload_n C dX2_isSound_36 rfl ?_
                  refine s_get C 0 (by decide) qf_X2_11 rfl rfl dX2_isSound_37 ?_
                  refine r_iload_n C dX2_isSound_40 rfl ?_
                  refine s_parts C (by first | omega | (simp [up2, *]; done) | (simp [up2, *]; omega) | (simp only [up2_eq]; omega) | (split <;> omega)) dX2_isSound_41 ?_
                  refine r_astore_n C dX2_isSound_42 (by decide) rfl ?_
                  refine r_aload_n C dX2_isSound_43 rfl ?_
                  refine p_getN (v := .int (nI (f1 5 t))) hX C hE 5 (by first | omega | (simp [up2, *]; done) | (simp [up2, *]; omega) | (simp only [up2_eq]; omega) | (split <;> omega)) (by decide) qn_X2_194 rfl rfl dX2_isSound_44 ?_
                  have q1 := hD.h5 t (by omega)
                  refine r_ifN_eq (a := (f1 5 t)) (tgt := 69) C (by first | omega | (simp [up2, *]; done) | (simp [up2, *]; omega) | (simp only [up2_eq]; omega) | (split <;> omega)) dX2_isSound_47 (by decide) (fun h47_11 => ?_) (fun h47_11 => ?_)
                  · first
                    | exfalso; first | omega | contradiction
                    | skip
                      refine r_iincN C dX2_isSound_69 rfl (by decide) rfl ?_
                      refine r_goto (tgt := 30) C dX2_isSound_72 (by decide) ?_
                      refine r_drop 2 ?_
                      exact (Nat.not_lt_zero _ (by omega)).elim
                  · first
                    | exfalso; first | omega | contradiction
                    | skip
                      have q2 := hD.wi (i := t) (by omega) (by omega) (by omega)
                      have q3 := hD.th (i := t) (by omega) (by omega)
                      have q4 := hD.th q2.1 q2.2.1
                      have q5 := win_place (r := r1) hD (i := t) (by omega) (by omega) (by omega)
                      refine r_aload_n C dX2_isSound_50 rfl ?_
                      refine s_get C 0 (by decide) qf_X2_11 rfl rfl dX2_isSound_51 ?_
                      refine r_aload_n C dX2_isSound_54 rfl ?_
                      refine p_getN (v := .int (nI (f1 2 t))) hX C hE 2 (by first | omega | (simp [up2, *]; done) | (simp [up2, *]; omega) | (simp only [up2_eq]; omega) | (split <;> omega)) (by decide) qn_X2_204 rfl rfl dX2_isSound_55 ?_
                      refine s_parts C (by first | omega | (simp [up2, *]; done) | (simp [up2, *]; omega) | (simp only [up2_eq]; omega) | (split <;> omega)) dX2_isSound_58 ?_
                      refine r_aload_n C dX2_isSound_59 rfl ?_
                      refine d_V (st := []) hX.stb C hE (C_placeOfAll (f := f1) (r := r1) (kn := kn) (i := (f1 2 t)) (j := t) hX (by first | omega | (simp [up2, *]; done) | (simp [up2, *]; omega) | (simp only [up2_eq]; omega) | (split <;> omega)) (by first | omega | (simp [up2, *]; done) | (simp [up2, *]; omega) | (simp only [up2_eq]; omega) | (split <;> omega)) (by first | omega | (simp [up2, *]; done) | (simp [up2, *]; omega) | (simp only [up2_eq]; omega) | (split <;> omega)) (by first | omega | (simp [up2, *]; done) | (simp [up2, *]; omega) | (simp only [up2_eq]; omega) | (split <;> omega)) (by first | omega | (simp [up2, *]; done) | (simp [up2, *]; omega) | (simp only [up2_eq]; omega) | (split <;> omega)) (by first | omega | (simp [up2, *]; done) | (simp [up2, *]; omega) | (simp only [up2_eq]; omega) | (split <;> omega))) pk_X1_placeOfAll qm_X2_122 (3 + (f1 2 t)) 5 rfl rfl (wc_p (by first | omega | (simp [up2, *]; done) | (simp [up2, *]; omega) | (simp only [up2_eq]; omega) | (split <;> omega))) rfl rfl (Nat.le_of_ble_eq_true rfl) dX2_isSound_60 ⟨Nat.le_of_ble_eq_true rfl, Nat.le_of_ble_eq_true rfl⟩ ⟨Nat.le_of_ble_eq_true rfl, Nat.le_of_ble_eq_true rfl⟩ ?_
                      refine r_iconst (v := (nI 4294967295)) C dX2_isSound_63 (by decide) ?_
                      refine r_icN_ne (a := (poF (fun k => stF (fun q => r1 (f1 0 (f1 2 t)) (f1 3 (f1 2 t) + (k + q))) (fun q => r1 (f1 0 t) (f1 3 t + q)) (f1 4 t) 0) (f1 4 (f1 2 t) + 1 - f1 4 t) 0)) (b := 4294967295) (tgt := 69) C (by first | omega | (simp [up2, *]; done) | (simp [up2, *]; omega) | (simp only [up2_eq]; omega) | (split <;> omega)) (by first | omega | (simp [up2, *]; done) | (simp [up2, *]; omega) | (simp only [up2_eq]; omega) | (split <;> omega)) dX2_isSound_64 (by decide) (fun h64_12 => ?_) (fun h64_12 => ?_)
                      · skip
                        refine r_iincN C dX2_isSound_69 rfl (by decide) rfl ?_
                        refine r_goto (tgt := 30) C dX2_isSound_72 (by decide) ?_
                        refine r_drop 2 ?_
                        exact (Nat.not_lt_zero _ (by omega)).elim
                      · exact absurd h64_12 (by first | omega | (simp [up2, *]; done) | (simp [up2, *]; omega) | (simp only [up2_eq]; omega) | (split <;> omega))
            | succ d ih_L30 =>
              intro t ht
              refine r_iload_n C dX2_isSound_30 rfl ?_
              refine r_bipush (v := (nI 8)) C dX2_isSound_31 (by decide) ?_
              refine r_icN_ge (a := t) (b := 8) (tgt := 75) C (by first | omega | (simp [up2, *]; done) | (simp [up2, *]; omega) | (simp only [up2_eq]; omega) | (split <;> omega)) (by first | omega | (simp [up2, *]; done) | (simp [up2, *]; omega) | (simp only [up2_eq]; omega) | (split <;> omega)) dX2_isSound_33 (by decide) (fun h33_13 => ?_) (fun h33_13 => ?_)
              · first
                | exfalso; first | omega | contradiction
                | skip
                  refine r_iconst (v := (nI 1)) C dX2_isSound_75 (by decide) ?_
                  exact r_zret C hr (by first | omega | (simp [up2, *]; done) | (simp [up2, *]; omega) | (simp only [up2_eq]; omega) | (split <;> omega)) dX2_isSound_76 ⟨rfl, f1, r1, rfl, hs⟩ (Nat.le_of_ble_eq_true rfl) (Nat.le_of_ble_eq_true rfl)
              · first
                | exfalso; first | omega | contradiction
                | skip
                  refine r_aload_n C dX2_isSound_36 rfl ?_
                  refine s_get C 0 (by decide) qf_X2_11 rfl rfl dX2_isSound_37 ?_
                  refine r_iload_n C dX2_isSound_40 rfl ?_
                  refine s_parts C (by first | omega | (simp [up2, *]; done) | (simp [up2, *]; omega) | (simp only [up2_eq]; omega) | (split <;> omega)) dX2_isSound_41 ?_
                  refine r_astore_n C dX2_isSound_42 (by decide) rfl ?_
                  refine r_aload_n C dX2_isSound_43 rfl ?_
                  refine p_getN (v := .int (nI (f1 5 t))) hX C hE 5 (by first | omega | (simp [up2, *]; done) | (simp [up2, *]; omega) | (simp only [up2_eq]; omega) | (split <;> omega)) (by decide) qn_X2_194 rfl rfl dX2_isSound_44 ?_
                  have q1 := hD.h5 t (by omega)
                  refine r_ifN_eq (a := (f1 5 t)) (tgt := 69) C (by first | omega | (simp [up2, *]; done) | (simp [up2, *]; omega) | (simp only [up2_eq]; omega) | (split <;> omega)) dX2_isSound_47 (by decide) (fun h47_14 => ?_) (fun h47_14 => ?_)
                  · first
                    | exfalso; first | omega | contradiction
                    | skip
                      refine r_iincN C dX2_isSound_69 rfl (by decide) rfl ?_
                      refine r_goto (tgt := 30) C dX2_isSound_72 (by decide) ?_
                      refine r_drop 2 ?_
                      exact ih_L30 (t + 1) (by omega)
                  · first
                    | exfalso; first | omega | contradiction
                    | skip
                      have q2 := hD.wi (i := t) (by omega) (by omega) (by omega)
                      have q3 := hD.th (i := t) (by omega) (by omega)
                      have q4 := hD.th q2.1 q2.2.1
                      have q5 := win_place (r := r1) hD (i := t) (by omega) (by omega) (by omega)
                      refine r_aload_n C dX2_isSound_50 rfl ?_
                      refine s_get C 0 (by decide) qf_X2_11 rfl rfl dX2_isSound_51 ?_
                      refine r_aload_n C dX2_isSound_54 rfl ?_
                      refine p_getN (v := .int (nI (f1 2 t))) hX C hE 2 (by first | omega | (simp [up2, *]; done) | (simp [up2, *]; omega) | (simp only [up2_eq]; omega) | (split <;> omega)) (by decide) qn_X2_204 rfl rfl dX2_isSound_55 ?_
                      refine s_parts C (by first | omega | (simp [up2, *]; done) | (simp [up2, *]; omega) | (simp only [up2_eq]; omega) | (split <;> omega)) dX2_isSound_58 ?_
                      refine r_aload_n C dX2_isSound_59 rfl ?_
                      refine d_V (st := []) hX.stb C hE (C_placeOfAll (f := f1) (r := r1) (kn := kn) (i := (f1 2 t)) (j := t) hX (by first | omega | (simp [up2, *]; done) | (simp [up2, *]; omega) | (simp only [up2_eq]; omega) | (split <;> omega)) (by first | omega | (simp [up2, *]; done) | (simp [up2, *]; omega) | (simp only [up2_eq]; omega) | (split <;> omega)) (by first | omega | (simp [up2, *]; done) | (simp [up2, *]; omega) | (simp only [up2_eq]; omega) | (split <;> omega)) (by first | omega | (simp [up2, *]; done) | (simp [up2, *]; omega) | (simp only [up2_eq]; omega) | (split <;> omega)) (by first | omega | (simp [up2, *]; done) | (simp [up2, *]; omega) | (simp only [up2_eq]; omega) | (split <;> omega)) (by first | omega | (simp [up2, *]; done) | (simp [up2, *]; omega) | (simp only [up2_eq]; omega) | (split <;> omega))) pk_X1_placeOfAll qm_X2_122 (3 + (f1 2 t)) 5 rfl rfl (wc_p (by first | omega | (simp [up2, *]; done) | (simp [up2, *]; omega) | (simp only [up2_eq]; omega) | (split <;> omega))) rfl rfl (Nat.le_of_ble_eq_true rfl) dX2_isSound_60 ⟨Nat.le_of_ble_eq_true rfl, Nat.le_of_ble_eq_true rfl⟩ ⟨Nat.le_of_ble_eq_true rfl, Nat.le_of_ble_eq_true rfl⟩ ?_
                      refine r_iconst (v := (nI 4294967295)) C dX2_isSound_63 (by decide) ?_
                      refine r_icN_ne (a := (poF (fun k => stF (fun q => r1 (f1 0 (f1 2 t)) (f1 3 (f1 2 t) + (k + q))) (fun q => r1 (f1 0 t) (f1 3 t + q)) (f1 4 t) 0) (f1 4 (f1 2 t) + 1 - f1 4 t) 0)) (b := 4294967295) (tgt := 69) C (by first | omega | (simp [up2, *]; done) | (simp [up2, *]; omega) | (simp only [up2_eq]; omega) | (split <;> omega)) (by first | omega | (simp [up2, *]; done) | (simp [up2, *]; omega) | (simp only [up2_eq]; omega) | (split <;> omega)) dX2_isSound_64 (by decide) (fun h64_15 => ?_) (fun h64_15 => ?_)
                      · skip
                        refine r_iincN C dX2_isSound_69 rfl (by decide) rfl ?_
                        refine r_goto (tgt := 30) C dX2_isSound_72 (by decide) ?_
                        refine r_drop 2 ?_
                        exact ih_L30 (t + 1) (by omega)
                      · exact absurd h64_15 (by first | omega | (simp [up2, *]; done) | (simp [up2, *]; omega) | (simp only [up2_eq]; omega) | (split <;> omega))
          exact L30 4 4 (by omega)
      · first
        | exfalso; first | omega | contradiction
        | skip
          refine r_aload_n C dX2_isSound_7 rfl ?_
          refine r_aload_n C dX2_isSound_8 rfl ?_
          refine s_get C 0 (by decide) qf_X2_11 rfl rfl dX2_isSound_9 ?_
          refine r_iload_n C dX2_isSound_12 rfl ?_
          refine s_parts C (by first | omega | (simp [up2, *]; done) | (simp [up2, *]; omega) | (simp only [up2_eq]; omega) | (split <;> omega)) dX2_isSound_13 ?_
          refine d_VE (st := []) hX.stb C hE (K_isRowSound (f := f1) (r := r1) (kn := kn) (i := t) hX (hs.inv hC) (by omega) (fun q hq => by rw [hs.1 0 t (Or.inl (by decide)), hs.1 3 t (Or.inl (by decide)), hs.2.2.1 _ _ (by have := hC.rw (i := t) (by omega); omega)]; exact hR t q (by omega) (by rw [← hs.1 4 t (Or.inr (by omega))]; exact hq))) pk_X2_isRowSound qm_X2_249 0 6 rfl rfl wc_0 rfl rfl (Nat.le_of_ble_eq_true rfl) dX2_isSound_14 ⟨Nat.le_of_ble_eq_true rfl, Nat.le_of_ble_eq_true rfl⟩ ⟨Nat.le_of_ble_eq_true rfl, Nat.le_of_ble_eq_true rfl⟩ ?_
          intro f2 r2 t2
          refine r_ifN_ne (a := 1) (tgt := 22) C (by first | omega | (simp [up2, *]; done) | (simp [up2, *]; omega) | (simp only [up2_eq]; omega) | (split <;> omega)) dX2_isSound_17 (by decide) (fun h17_16 => ?_) (fun h17_16 => ?_)
          · skip
            refine r_iincN C dX2_isSound_22 rfl (by decide) rfl ?_
            refine r_goto (tgt := 2) C dX2_isSound_25 (by decide) ?_
            exact ih_L2 (t + 1) f2 r2 (by omega) (hs.trans t2)
          · exact absurd h17_16 (by first | omega | (simp [up2, *]; done) | (simp [up2, *]; omega) | (simp only [up2_eq]; omega) | (split <;> omega))
  exact L2 4 0 f r (by omega) (Scr.refl hC)
end PT_30
/-! ===== 32.new -/
section PT_32
/-! NEW OBJECTS -/
section NEW
variable {p : Program} {l : Launch} {e : Env} {R : Room} {s : State} {m : MethodId} {args : Array Value} {below : List Frame} {meth : Method} {c : Code} {D : va_G} {cy : Nat → ClassId} {A : Nat → Prop} {Q : State → Prop} {nL cells slots : Nat} {w : va_W} {lv : List (Option Value)} {pc : Nat} {st : List Value} {cc : ByteArray} {own : String}
theorem r_new (C : Fg p s m args meth c cc nL own D cy A) {Cn : String} {T : u_T} {N ci index : Nat} (hin : ∀ w ∈ u_ws Cn T N, w ∈ GW) (ty : Nat → FieldType) (hty : ∀ k, k < N → parseFieldDescriptor (T k).2.2.1 = some (ty k)) (hcl : Cond.classLink own index Cn ∈ GW) (hinst : Cond.instantiable Cn N ∈ GW) (hini : Cond.initialized Cn ∈ GW) (hc : vwCl[ci]? = some (Cn, T, N)) {fs : List Value} (hfs : ∀ j, j < N → defaultValue (ty j) = vp_V fs j) (hcells : cells + 1 ≤ R.cells) (hslots : slots + N ≤ R.slots) (d : decode cc pc = .ok (.new index, 3))
    (kk : ∀ q : Nat, vW p l e R s m args below meth c D vwCl A Q nL (cells + 1) (slots + N) (w ++ [(q, .inr (ci, fs))]) lv (pc + 3) (.ref q :: st)) : vW p l e R s m args below meth c D vwCl A Q nL cells slots w lv pc st := fun H locs ls hP hD hS hl =>
  va_new C.1 C.2.1 C.2.2.2.2.1 hin ty hty C.2.2.2.1 (C.2.2.2.2.1 _ hcl) (C.2.2.2.2.1 _ hinst) (C.2.2.2.2.1 _ hini) C.2.2.2.2.2.1 hP hD hS C.2.2.2.2.2.2.2 hc hfs hcells hslots d (fun q H1 hP hD hS => kk q H1 locs ls hP hD hS hl)
theorem r_newB (C : Fg p s m args meth c cc nL own D cy A) (harr2 : Cond.arrayClass (newarray.typeOf .byte) ∈ GW) {n : Nat} (hn : n < 1000000) (hcells : cells + 1 ≤ R.cells) (hslots : slots + n ≤ R.slots) (d : decode cc pc = .ok (.newarray .byte, 2))
    (kk : ∀ q : Nat, vW p l e R s m args below meth c D vwCl A Q nL (cells + 1) (slots + n) (w ++ [(q, .inl (cy 0, n, .inl (fun _ => 0)))]) lv (pc + 2) (.ref q :: st)) : vW p l e R s m args below meth c D vwCl A Q nL cells slots w lv pc (.int (nI n) :: st) := fun H locs ls hP hD hS hl =>
  va_newa C.1 C.2.1 (C.2.2.2.2.1 _ harr2) (ty := .byte) rfl C.2.2.2.2.2.1 hP hD hS C.2.2.2.2.2.2.2 (N' := n) (a0 := (n, .inl (fun _ => 0))) (fun _ => rfl) (fun z => by rw [Int32.lt_iff_toInt_lt, nI_toInt (by omega)] at z; have : (0 : Int32).toInt = 0 := rfl; omega) (nI_clamp (by omega)) (by show n * 1 ≤ _; omega) hcells hslots d (fun q cA H1 hK hP hD hS => by
    have h1 := (hK.2 6 (cA, .byte) rfl).2
    have h2 := (hK.2 0 (cy 0, .byte) rfl).2
    have e : cA = cy 0 := Option.some.inj (h1.symm.trans h2)
    subst e
    exact kk q H1 locs ls hP hD hS hl)
end NEW
end PT_32
/-! ===== 33.erase -/
section PT_33
/-! WHAT IS NO LONGER NEEDED IS FORGOTTEN -/
section ERA
variable {p : Program} {l : Launch} {e : Env} {R : Room} {s : State} {m : MethodId} {args : Array Value} {below : List Frame} {meth : Method} {c : Code} {D : va_G} {cl : List vw_C} {A : Nat → Prop} {Q : State → Prop} {nL cells slots : Nat} {w : va_W} {lv : List (Option Value)} {pc : Nat} {st : List Value}
theorem era_at (w : va_W) (k i : Nat) : (w.eraseIdx k)[i]? = w[if i < k then i else i + 1]? := by
  rw [List.getElem?_eraseIdx]
  split <;> rfl
theorem r_erase (k : Nat) (kk : vW p l e R s m args below meth c D cl A Q nL cells slots (w.eraseIdx k) lv pc st) : vW p l e R s m args below meth c D cl A Q nL cells slots w lv pc st := fun H locs ls hP hD hS hl =>
  kk H locs ls (fun i q hi => hP _ q ((era_at w k i).symm.trans hi)) ⟨fun i j x y hi hj e => by
    have := hD.1 _ _ x y ((era_at w k i).symm.trans hi) ((era_at w k j).symm.trans hj) e
    split at this <;> split at this <;> omega, fun i q hi => hD.2 _ q ((era_at w k i).symm.trans hi)⟩ hS hl
end ERA
end PT_33
/-! ===== 34.init -/
section PT_34
/-! A CALL OF A CONSTRUCTOR -/
section INI
variable {p : Program} {l : Launch} {e : Env} {R : Room} {s : State} {m : MethodId} {args : Array Value} {below : List Frame} {meth : Method} {c : Code} {D : va_G} {cy : Nat → ClassId} {A : Nat → Prop} {Q : State → Prop} {nL cells slots : Nat} {w : va_W} {lv : List (Option Value)} {pc : Nat} {st : List Value} {cc : ByteArray} {own : String} {X : (Nat → Prop) → State → Heap → Prop}
variable {y : MethodName} {bytes : ByteArray} {maxL index n b : Nat} {rm : Room} {As st0 : List Value} {post : Option Value → va_W → Prop} {px : String → Prop} {w' : va_W}
theorem c_I (hX : Stb X) (C : Fg p s m args meth c cc nL own D cy A) (hE : X A s s.heap) (ct : Cm l D cy X y bytes maxL none rm (.ref b :: As) w post px) (pk : PkI y bytes maxL n) (qm : Cond.methodLink own index y ∈ GW)
    (hn : As.length = n) (hstack : st0 = As.reverse ++ .ref b :: st) (hcat : (st.map fun v => v.category).sum ≤ 8)
    (d : decode cc pc = .ok (.invokespecial index, 3)) (hR : rm.frames + 1 ≤ R.frames ∧ 8 + (maxL + 11) + rm.locals ≤ R.locals) (hf : cells + rm.cells ≤ R.cells ∧ slots + rm.slots ≤ R.slots)
    (kk : ∀ (v : Option Value) (w' : va_W), post v w' → vW p l e R s m args below meth c D vwCl A Q nL (cells + rm.cells) (slots + rm.slots) w' lv (pc + 3) (v.toList ++ st))
    (kx : ∀ E : String, px E → vX p l e R s m args below meth c D vwCl A Q nL (cells + rm.cells) (slots + rm.slots) w lv pc st E) : vW p l e R s m args below meth c D vwCl A Q nL cells slots w lv pc st0 :=
  r_run C (fun H locs ls hP hD hS hl => vx_runI (As := As) (rest := st) (g := F0 m pc ls st0) ⟨C.1, C.2.1, C.2.2.1, C.2.2.2.1, C.2.2.2.2.1⟩ (ct H.size) (cw_I C.2.2.2.2.1 pk qm hR) ⟨vPre_blind hX _ _ _, fun U hU hW => ⟨rfl, vPre_at hX C hE hP hD hS U hU hW⟩⟩ rfl hn hl.1 hstack (lv_room hcat) d hf) kk kx
theorem d_I (hX : Stb X) (C : Fg p s m args meth c cc nL own D cy A) (hE : X A s s.heap) (ct : Cd l D cy X y bytes maxL none rm (.ref b :: As) w none w') (pk : PkI y bytes maxL n) (qm : Cond.methodLink own index y ∈ GW)
    (hn : As.length = n) (hstack : st0 = As.reverse ++ .ref b :: st) (hcat : (st.map fun v => v.category).sum ≤ 8)
    (d : decode cc pc = .ok (.invokespecial index, 3)) (hR : rm.frames + 1 ≤ R.frames ∧ 8 + (maxL + 11) + rm.locals ≤ R.locals) (hf : cells + rm.cells ≤ R.cells ∧ slots + rm.slots ≤ R.slots)
    (kk : vW p l e R s m args below meth c D vwCl A Q nL (cells + rm.cells) (slots + rm.slots) w' lv (pc + 3) st) : vW p l e R s m args below meth c D vwCl A Q nL cells slots w lv pc st0 :=
  c_I hX C hE ct pk qm hn hstack hcat d hR hf (fun v w1 h => by obtain ⟨rfl, rfl⟩ := h; exact kk) (fun _ h => h.elim)
end INI
section OI
variable {p : Program} {l : Launch} {e : Env} {R : Room} {s : State} {m : MethodId} {args : Array Value} {below : List Frame} {meth : Method} {c : Code} {D : va_G} {cy : Nat → ClassId} {A : Nat → Prop} {Q : State → Prop} {nL cells slots : Nat} {w : va_W} {lv : List (Option Value)} {pc : Nat} {st : List Value} {cc : ByteArray} {own : String} {X : (Nat → Prop) → State → Heap → Prop}
/-- Object's constructor -/
theorem r_objI (C : Fg p s m args meth c cc nL own D cy A) {index a : Nat} (qm : Cond.methodLink own index objectInit ∈ GW) (d : decode cc pc = .ok (.invokespecial index, 3)) (hf : 1 ≤ R.frames) (hlo : (st.map fun v => v.category).sum + 12 ≤ R.locals)
    (kk : vW p l e R s m args below meth c D vwCl A Q nL cells slots w lv (pc + 3) st) : vW p l e R s m args below meth c D vwCl A Q nL cells slots w lv pc (.ref a :: st) := fun H locs ls hP hD hS hl =>
  W.objInit C.1 C.2.1 C.2.2.2.1 (C.2.2.2.2.1 _ qm) (C.2.2.2.2.1 _ qi_objectInit) (C.2.2.2.2.1 _ qc_objectInit) rfl (hl.1.trans C.2.2.1.symm) rfl d hf (by show 2 * 0 + _ + 12 ≤ _; omega) (kk H locs ls hP hD hS hl)
end OI
end PT_34
/-! ===== 35.model -/
section PT_35
/-! THE MODEL'S WORLD. ba: addresses (9: this; 0: the array of rows; 1 isThere, 2 ground, 3 from, 4 many, 5 isOpen, 6 over, 7 index, 8 last); ra: the rows' arrays; hf: numbers, by the class's kinds (2 ground, 3 from, 4 how many, 5 isThere of where i; 6 over, 7 index, 8 last, 9 isOpen of cursor k); hq: items; kn, th, sm: knocks, thrown, sum -/
def upR {α : Type} (f : Nat → α) (i : Nat) (v : α) : Nat → α := fun j => if j = i then v else f j
def mcl (k : Nat) : Nat := if k = 1 ∨ k = 5 then 2 else 1
def mle (k : Nat) : Nat := if k ≤ 4 then 4 else 3
def mfl (k : Nat) : Nat := if k = 1 then 5 else if k = 5 then 9 else k
def mof (k : Nat) : Nat := if k ≤ 4 then 4 else 0
def mV (ba : Nat → Nat) (kn th : Int32) (sm : Int64) : List Value := [.ref (ba 0), .ref (ba 1), .ref (ba 2), .ref (ba 3), .ref (ba 4), .ref (ba 5), .ref (ba 6), .ref (ba 7), .ref (ba 8), .int kn, .int th, .long sm]
def mA (cy : Nat → ClassId) (ba : Nat → Nat) (hf : Nat → Nat → Nat) (k : Nat) : Nat × va_E := (ba (k + 1), .inl (cy (mcl (k + 1)), mle (k + 1), .inl (fun i => nI (hf (mfl (k + 1)) (mof (k + 1) + i)))))
def mR (cy : Nat → ClassId) (ra : Nat → Nat) (hf : Nat → Nat → Nat) (hq : Nat → Nat → Int32) (i : Nat) : Nat × va_E := (ra i, .inl (cy 1, hf 4 i, .inl (hq i)))
def WM (cy : Nat → ClassId) (ba ra : Nat → Nat) (hf : Nat → Nat → Nat) (hq : Nat → Nat → Int32) (kn th : Int32) (sm : Int64) : va_W :=
  (ba 9, .inr (8, mV ba kn th sm)) :: (ba 0, .inl (cy 5, 4, .inr (.inr (.inr (.inr (fun i => some (ra i))))))) ::
    ((List.range 8).map (mA cy ba hf) ++ (List.range 4).map (mR cy ra hf hq))
section MW
variable {cy : Nat → ClassId} {ba ra : Nat → Nat} {hf : Nat → Nat → Nat} {hq : Nat → Nat → Int32} {kn th : Int32} {sm : Int64} {Y : va_W}
theorem wm_len : (WM cy ba ra hf hq kn th sm).length = 14 := by simp [WM]
theorem wm_in {k : Nat} (h : k < 14) : (WM cy ba ra hf hq kn th sm ++ Y)[k]? = (WM cy ba ra hf hq kn th sm)[k]? := List.getElem?_append_left (by rw [wm_len]; exact h)
theorem wm_0 : (WM cy ba ra hf hq kn th sm ++ Y)[0]? = some (ba 9, .inr (8, mV ba kn th sm)) := rfl
theorem wm_1 : (WM cy ba ra hf hq kn th sm ++ Y)[1]? = some (ba 0, .inl (cy 5, 4, .inr (.inr (.inr (.inr (fun i => some (ra i))))))) := rfl
theorem wm_a {k : Nat} (h : k < 8) : (WM cy ba ra hf hq kn th sm ++ Y)[2 + k]? = some (mA cy ba hf k) := by
  rw [wm_in (by omega), show 2 + k = k + 1 + 1 by omega, WM, List.getElem?_cons_succ, List.getElem?_cons_succ, List.getElem?_append_left (by simp; exact h), List.getElem?_map, List.getElem?_range h]
  rfl
theorem wm_r {i : Nat} (h : i < 4) : (WM cy ba ra hf hq kn th sm ++ Y)[10 + i]? = some (mR cy ra hf hq i) := by
  rw [wm_in (by omega), show 10 + i = (8 + i) + 1 + 1 by omega, WM, List.getElem?_cons_succ, List.getElem?_cons_succ, List.getElem?_append_right (by simp), List.getElem?_map, List.length_map, List.length_range, show 8 + i - 8 = i by omega, List.getElem?_range h]
  rfl
theorem wm_x {E : va_W} (k : Nat) : (WM cy ba ra hf hq kn th sm ++ (Y ++ E))[14 + (Y.length + k)]? = E[k]? := by
  rw [List.getElem?_append_right (by rw [wm_len]; omega), wm_len, show 14 + (Y.length + k) - 14 = Y.length + k by omega, List.getElem?_append_right (by omega), show Y.length + k - Y.length = k by omega]
theorem wm_xs {E : va_W} (k : Nat) (e : Nat × va_E) : (WM cy ba ra hf hq kn th sm ++ (Y ++ E)).set (14 + (Y.length + k)) e = WM cy ba ra hf hq kn th sm ++ (Y ++ E.set k e) := by
  rw [List.set_append_right _ _ (by rw [wm_len]; omega), wm_len, show 14 + (Y.length + k) - 14 = Y.length + k by omega, List.set_append_right _ _ (by omega), show Y.length + k - Y.length = k by omega]
theorem wm_setX {k : Nat} {x : Nat × va_E} (h : k < 14) : (WM cy ba ra hf hq kn th sm ++ Y).set k x = (WM cy ba ra hf hq kn th sm).set k x ++ Y := List.set_append_left _ _ (by rw [wm_len]; exact h)
theorem wm_sa {hf' : Nat → Nat → Nat} {k : Nat} (h : k < 8) (ha : ∀ j, j < 8 → j ≠ k → mA cy ba hf' j = mA cy ba hf j) (hr : ∀ i, i < 4 → hf' 4 i = hf 4 i) : (WM cy ba ra hf hq kn th sm ++ Y).set (2 + k) (mA cy ba hf' k) = WM cy ba ra hf' hq kn th sm ++ Y := by
  rw [wm_setX (by omega), show 2 + k = k + 1 + 1 by omega, WM, List.set_cons_succ, List.set_cons_succ, List.set_append_left _ _ (by simp; exact h), map_set ha, WM, List.map_congr_left (l := List.range 4) (fun i hi => show mR cy ra hf hq i = mR cy ra hf' hq i by unfold mR; rw [hr i (List.mem_range.mp hi)])]
theorem wm_sr {hq' : Nat → Nat → Int32} {i : Nat} (h : i < 4) (hr : ∀ j, j < 4 → j ≠ i → hq' j = hq j) : (WM cy ba ra hf hq kn th sm ++ Y).set (10 + i) (mR cy ra hf hq' i) = WM cy ba ra hf hq' kn th sm ++ Y := by
  rw [wm_setX (by omega), show 10 + i = (8 + i) + 1 + 1 by omega, WM, List.set_cons_succ, List.set_cons_succ, List.set_append_right _ _ (by simp), List.length_map, List.length_range, show 8 + i - 8 = i by omega, map_set (fun j hj hji => by show mR cy ra hf hq' j = mR cy ra hf hq j; unfold mR; rw [hr j hj hji]), WM]
theorem wm_put {k i v : Nat} (hk : k < 8) : (WM cy ba ra hf hq kn th sm ++ Y).set (2 + k) (ba (k + 1), .inl (cy (mcl (k + 1)), mle (k + 1), .inl (upd (fun i => nI (hf (mfl (k + 1)) (mof (k + 1) + i))) i (nI v)))) = WM cy ba ra (up2 hf (mfl (k + 1)) (mof (k + 1) + i) v) hq kn th sm ++ Y := by
  rw [← wm_sa (hf' := up2 hf (mfl (k + 1)) (mof (k + 1) + i) v) hk]
  · congr 1
    unfold mA
    congr 5
    funext j
    by_cases hj : j = i
    · simp [upd, up2, hj]
    · simp [upd, up2, hj]
  · intro j hj hjk
    have e : ∀ z, up2 hf (mfl (k + 1)) (mof (k + 1) + i) v (mfl (j + 1)) z = hf (mfl (j + 1)) z := fun z => by
      refine up2_k _ _ _ _ ?_
      rcases (show k = 0 ∨ k = 1 ∨ k = 2 ∨ k = 3 ∨ k = 4 ∨ k = 5 ∨ k = 6 ∨ k = 7 by omega) with rfl | rfl | rfl | rfl | rfl | rfl | rfl | rfl <;>
        rcases (show j = 0 ∨ j = 1 ∨ j = 2 ∨ j = 3 ∨ j = 4 ∨ j = 5 ∨ j = 6 ∨ j = 7 by omega) with rfl | rfl | rfl | rfl | rfl | rfl | rfl | rfl <;> first | decide | (exact absurd rfl hjk)
    unfold mA
    simp only [e]
  · intro j hj
    by_cases e : mfl (k + 1) = 4
    · have h4 : mof (k + 1) = 4 := by
        rcases (show k = 0 ∨ k = 1 ∨ k = 2 ∨ k = 3 ∨ k = 4 ∨ k = 5 ∨ k = 6 ∨ k = 7 by omega) with rfl | rfl | rfl | rfl | rfl | rfl | rfl | rfl <;> first | rfl | (exact absurd e (by decide))
      rw [e, h4]
      exact up2_i _ _ _ _ (by omega)
    · exact up2_k _ _ _ _ (fun h => e h.symm)
theorem wm_putR {i n : Nat} {x : Int32} (hi : i < 4) : (WM cy ba ra hf hq kn th sm ++ Y).set (10 + i) (ra i, .inl (cy 1, hf 4 i, .inl (upd (hq i) n x))) = WM cy ba ra hf (up2 hq i n x) kn th sm ++ Y := by
  have e1 : up2 hq i n x i = upd (hq i) n x := by
    funext j
    by_cases hj : j = n <;> simp [upd, up2, hj]
  rw [← wm_sr (hq := hq) (hq' := up2 hq i n x) hi (fun j _ hj => by funext z; simp [up2, hj]), ← e1]
  rfl
end MW
section MRW
variable {p : Program} {l : Launch} {e : Env} {R : Room} {s : State} {m : MethodId} {args : Array Value} {below : List Frame} {meth : Method} {c : Code} {D : va_G} {cy : Nat → ClassId} {A : Nat → Prop} {Q : State → Prop} {nL cells slots : Nat} {Y : va_W} {lv : List (Option Value)} {pc : Nat} {st : List Value} {cc : ByteArray} {own : String} {X : (Nat → Prop) → State → Heap → Prop} {w : va_W}
variable {ba ra : Nat → Nat} {hf : Nat → Nat → Nat} {hq : Nat → Nat → Int32} {kn th : Int32} {sm : Int64}
/-- fields of this -/
theorem m_get (C : Fg p s m args meth c cc nL RX4 D cy A) {index : Nat} (k : Nat) {v : Value} (hk : k < 12) (hq0 : Cond.fieldLink RX4 index RX4 (TX4 k).2.1 (TX4 k).2.2.1 ∈ GW) (hs : (TX4 k).1 = RX4) (hv : (mV ba kn th sm)[k]? = some v) (d : decode cc pc = .ok (.getfield index, 3)) (kk : vC p l e R s m args below meth c D A Q nL cells slots (WM cy ba ra hf hq kn th sm ++ Y) lv (pc + 3) (v :: st)) : vC p l e R s m args below meth c D A Q nL cells slots (WM cy ba ra hf hq kn th sm ++ Y) lv pc (.ref (ba 9) :: st) :=
  g_get C qu_X4 (ci := 8) rfl 0 wm_0 k hk hq0 hs hv d kk
theorem m_putK (C : Fg p s m args meth c cc nL RX4 D cy A) {index : Nat} {x : Int32} (hq0 : Cond.fieldLink RX4 index RX4 "knocks" "I" ∈ GW) (d : decode cc pc = .ok (.putfield index, 3)) (kk : vC p l e R s m args below meth c D A Q nL cells slots (WM cy ba ra hf hq x th sm ++ Y) lv (pc + 3) st) : vC p l e R s m args below meth c D A Q nL cells slots (WM cy ba ra hf hq kn th sm ++ Y) lv pc (.int x :: .ref (ba 9) :: st) :=
  g_put C qu_X4 tyX4 tyX4_ok nmX4 (ci := 8) rfl 0 wm_0 9 (by omega) hq0 rfl rfl (ty := .int) rfl rfl rfl (show 9 < 12 by omega) d rfl kk
theorem m_putT (C : Fg p s m args meth c cc nL RX4 D cy A) {index : Nat} {x : Int32} (hq0 : Cond.fieldLink RX4 index RX4 "thrown" "I" ∈ GW) (d : decode cc pc = .ok (.putfield index, 3)) (kk : vC p l e R s m args below meth c D A Q nL cells slots (WM cy ba ra hf hq kn x sm ++ Y) lv (pc + 3) st) : vC p l e R s m args below meth c D A Q nL cells slots (WM cy ba ra hf hq kn th sm ++ Y) lv pc (.int x :: .ref (ba 9) :: st) :=
  g_put C qu_X4 tyX4 tyX4_ok nmX4 (ci := 8) rfl 0 wm_0 10 (by omega) hq0 rfl rfl (ty := .int) rfl rfl rfl (show 10 < 12 by omega) d rfl kk
theorem m_putS (C : Fg p s m args meth c cc nL RX4 D cy A) {index : Nat} {x : Int64} (hq0 : Cond.fieldLink RX4 index RX4 "sum" "J" ∈ GW) (d : decode cc pc = .ok (.putfield index, 3)) (kk : vC p l e R s m args below meth c D A Q nL cells slots (WM cy ba ra hf hq kn th x ++ Y) lv (pc + 3) st) : vC p l e R s m args below meth c D A Q nL cells slots (WM cy ba ra hf hq kn th sm ++ Y) lv pc (.long x :: .ref (ba 9) :: st) :=
  g_put C qu_X4 tyX4 tyX4_ok nmX4 (ci := 8) rfl 0 wm_0 11 (by omega) hq0 rfl rfl (ty := .long) rfl rfl rfl (show 11 < 12 by omega) d rfl kk
/-- its arrays: k the array's number less 1; i the index, z the place of it -/
theorem m_ald (C : Fg p s m args meth c cc nL own D cy A) {i z v : Nat} (k : Nat) (hk : k < 8) (hc : mcl (k + 1) = 1) (hi : i < mle (k + 1)) (hz : mof (k + 1) + i = z) (hv : hf (mfl (k + 1)) z = v) (d : decode cc pc = .ok (.iaload, 1)) (kk : vC p l e R s m args below meth c D A Q nL cells slots (WM cy ba ra hf hq kn th sm ++ Y) lv (pc + 1) (.int (nI v) :: st)) : vC p l e R s m args below meth c D A Q nL cells slots (WM cy ba ra hf hq kn th sm ++ Y) lv pc (.int (nI i) :: .ref (ba (k + 1)) :: st) := by
  subst hz
  subst hv
  have hm : mle (k + 1) < 2147483648 := by unfold mle; split <;> omega
  refine g_iald C (f := fun i => nI (hf (mfl (k + 1)) (mof (k + 1) + i))) (n := mle (k + 1)) (2 + k) ((wm_a hk).trans ?_) hi hm d kk
  unfold mA
  rw [hc]
theorem m_zld (C : Fg p s m args meth c cc nL own D cy A) {i z v : Nat} (k : Nat) (hk : k < 8) (hc : mcl (k + 1) = 2) (hi : i < mle (k + 1)) (hz : mof (k + 1) + i = z) (hv : hf (mfl (k + 1)) z = v) (d : decode cc pc = .ok (.baload, 1)) (kk : vC p l e R s m args below meth c D A Q nL cells slots (WM cy ba ra hf hq kn th sm ++ Y) lv (pc + 1) (.int (nI v) :: st)) : vC p l e R s m args below meth c D A Q nL cells slots (WM cy ba ra hf hq kn th sm ++ Y) lv pc (.int (nI i) :: .ref (ba (k + 1)) :: st) := by
  subst hz
  subst hv
  have hm : mle (k + 1) < 2147483648 := by unfold mle; split <;> omega
  refine g_zald C (f := fun i => nI (hf (mfl (k + 1)) (mof (k + 1) + i))) (n := mle (k + 1)) (2 + k) ((wm_a hk).trans ?_) hi hm d kk
  unfold mA
  rw [hc]
theorem m_ast (C : Fg p s m args meth c cc nL own D cy A) {i z v : Nat} (k : Nat) (hk : k < 8) (hc : mcl (k + 1) = 1) (hi : i < mle (k + 1)) (hz : mof (k + 1) + i = z) (d : decode cc pc = .ok (.iastore, 1)) (kk : vC p l e R s m args below meth c D A Q nL cells slots (WM cy ba ra (up2 hf (mfl (k + 1)) z v) hq kn th sm ++ Y) lv (pc + 1) st) : vC p l e R s m args below meth c D A Q nL cells slots (WM cy ba ra hf hq kn th sm ++ Y) lv pc (.int (nI v) :: .int (nI i) :: .ref (ba (k + 1)) :: st) := by
  subst hz
  have hm : mle (k + 1) < 2147483648 := by unfold mle; split <;> omega
  refine g_iast C (f := fun i => nI (hf (mfl (k + 1)) (mof (k + 1) + i))) (n := mle (k + 1)) (2 + k) ((wm_a hk).trans ?_) hi hm d ?_ kk
  · unfold mA
    rw [hc]
  · have e := wm_put (cy := cy) (ba := ba) (ra := ra) (hf := hf) (hq := hq) (kn := kn) (th := th) (sm := sm) (Y := Y) (i := i) (v := v) hk
    rw [hc] at e
    exact e
theorem m_zst (C : Fg p s m args meth c cc nL own D cy A) {i z v : Nat} (k : Nat) (hk : k < 8) (hc : mcl (k + 1) = 2) (hi : i < mle (k + 1)) (hz : mof (k + 1) + i = z) (hv : v ≤ 1) (d : decode cc pc = .ok (.bastore, 1)) (kk : vC p l e R s m args below meth c D A Q nL cells slots (WM cy ba ra (up2 hf (mfl (k + 1)) z v) hq kn th sm ++ Y) lv (pc + 1) st) : vC p l e R s m args below meth c D A Q nL cells slots (WM cy ba ra hf hq kn th sm ++ Y) lv pc (.int (nI v) :: .int (nI i) :: .ref (ba (k + 1)) :: st) := by
  subst hz
  have hm : mle (k + 1) < 2147483648 := by unfold mle; split <;> omega
  refine g_zast C (f := fun i => nI (hf (mfl (k + 1)) (mof (k + 1) + i))) (n := mle (k + 1)) (2 + k) ((wm_a hk).trans ?_) hi hm hv d ?_ kk
  · unfold mA
    rw [hc]
  · have e := wm_put (cy := cy) (ba := ba) (ra := ra) (hf := hf) (hq := hq) (kn := kn) (th := th) (sm := sm) (Y := Y) (i := i) (v := v) hk
    rw [hc] at e
    exact e
/-- rows -/
theorem va_aldR (hexec : p.tables.exec = Jvm.exec) (hb : c.code = cc) {H : Heap} {locs : List Loc} {a : Nat} {ls : Array Slot} {rest : List Value} {cl : List vw_C} {tys : List (ClassId × FieldType)} {ws : va_W} (hK : va_K D cl tys s) (hP : va_P D cl ws H) (q0 t0 : Nat) {cA : ClassId} {ty : FieldType} {n : Nat} {f : Nat → Option Nat} (ha : ws[q0]? = some (a, .inl (cA, n, .inr (.inr (.inr (.inr f)))))) (ht : tys[t0]? = some (cA, .array ty)) {i : Int32} (hin : vp_in i n) (hdg : decode cc pc = .ok (.aaload, 1))
    (kk : W p l e R s m args below meth c H locs cells slots Q (F0 m (pc + 1) ls (va_rf (f i.toNatClampNeg) :: rest))) : W p l e R s m args below meth c H locs cells slots Q (F0 m pc ls (.int i :: .ref a :: rest)) := by
  have hlt : i.toNatClampNeg < n := Nat.not_le.mp fun q => hin (Or.inr q)
  exact W.aald (v := va_rf (f i.toNatClampNeg)) (ty := .array ty) hexec hb (hP q0 _ ha) ((hK.2 t0 _ ht).1 n (fun j => va_rf (f j))) rfl (fun q => by cases q) (by show ¬ (i < 0 ∨ (arrV _ _ _).slots.size ≤ _); rw [arrV_size]; exact hin) (by show (arrV _ _ _).slots[_]? = _; rw [arrV_read _ _ hlt]) rfl rfl hdg kk
theorem m_rows (C : Fg p s m args meth c cc nL own D cy A) {i : Nat} (hi : i < 4) (d : decode cc pc = .ok (.aaload, 1)) (kk : vC p l e R s m args below meth c D A Q nL cells slots (WM cy ba ra hf hq kn th sm ++ Y) lv (pc + 1) (.ref (ra i) :: st)) : vC p l e R s m args below meth c D A Q nL cells slots (WM cy ba ra hf hq kn th sm ++ Y) lv pc (.int (nI i) :: .ref (ba 0) :: st) := fun H locs ls hP hD hS hl =>
  va_aldR C.1 C.2.1 C.2.2.2.2.2.1 hP 1 5 wm_1 rfl (vp_in_nI hi (by omega)) d (by rw [nI_clamp (by omega)]; exact kk H locs ls hP hD hS hl)
theorem m_rlen (C : Fg p s m args meth c cc nL own D cy A) {i v : Nat} (hi : i < 4) (hv : hf 4 i = v) (d : decode cc pc = .ok (.arraylength, 1)) (kk : vC p l e R s m args below meth c D A Q nL cells slots (WM cy ba ra hf hq kn th sm ++ Y) lv (pc + 1) (.int (nI v) :: st)) : vC p l e R s m args below meth c D A Q nL cells slots (WM cy ba ra hf hq kn th sm ++ Y) lv pc (.ref (ra i) :: st) := by
  subst hv
  exact g_alen C (t0 := 1) (10 + i) (wm_r hi) rfl d kk
theorem m_alen (C : Fg p s m args meth c cc nL own D cy A) (k : Nat) (hk : k < 8) (d : decode cc pc = .ok (.arraylength, 1)) (kk : vC p l e R s m args below meth c D A Q nL cells slots (WM cy ba ra hf hq kn th sm ++ Y) lv (pc + 1) (.int (nI (mle (k + 1))) :: st)) : vC p l e R s m args below meth c D A Q nL cells slots (WM cy ba ra hf hq kn th sm ++ Y) lv pc (.ref (ba (k + 1)) :: st) := by
  by_cases h : mcl (k + 1) = 2
  · exact g_alen C (t0 := 2) (2 + k) (wm_a hk) (by rw [h]; rfl) d kk
  · have h1 : mcl (k + 1) = 1 := by
      unfold mcl at h ⊢
      split at h
      · exact absurd rfl h
      · rw [if_neg (by assumption)]
    exact g_alen C (t0 := 1) (2 + k) (wm_a hk) (by rw [h1]; rfl) d kk
theorem m_olen (C : Fg p s m args meth c cc nL own D cy A) (d : decode cc pc = .ok (.arraylength, 1)) (kk : vC p l e R s m args below meth c D A Q nL cells slots (WM cy ba ra hf hq kn th sm ++ Y) lv (pc + 1) (.int (nI 4) :: st)) : vC p l e R s m args below meth c D A Q nL cells slots (WM cy ba ra hf hq kn th sm ++ Y) lv pc (.ref (ba 0) :: st) :=
  g_alen C (t0 := 5) 1 wm_1 rfl d kk
theorem m_rld (C : Fg p s m args meth c cc nL own D cy A) {i n : Nat} (hi : i < 4) (hn : n < hf 4 i) (hs : hf 4 i ≤ 12) (d : decode cc pc = .ok (.iaload, 1)) (kk : vC p l e R s m args below meth c D A Q nL cells slots (WM cy ba ra hf hq kn th sm ++ Y) lv (pc + 1) (.int (hq i n) :: st)) : vC p l e R s m args below meth c D A Q nL cells slots (WM cy ba ra hf hq kn th sm ++ Y) lv pc (.int (nI n) :: .ref (ra i) :: st) :=
  g_iald C (10 + i) (wm_r hi) hn (by omega) d kk
theorem m_rst (C : Fg p s m args meth c cc nL own D cy A) {i n : Nat} {x : Int32} (hi : i < 4) (hn : n < hf 4 i) (hs : hf 4 i ≤ 12) (d : decode cc pc = .ok (.iastore, 1)) (kk : vC p l e R s m args below meth c D A Q nL cells slots (WM cy ba ra hf (up2 hq i n x) kn th sm ++ Y) lv (pc + 1) st) : vC p l e R s m args below meth c D A Q nL cells slots (WM cy ba ra hf hq kn th sm ++ Y) lv pc (.int x :: .int (nI n) :: .ref (ra i) :: st) :=
  g_iast C (10 + i) (wm_r hi) hn (by omega) d (wm_putR hi) kk
/-- arrays behind the world -/
theorem x_ald (C : Fg p s m args meth c cc nL own D cy A) {E : va_W} {b n i : Nat} {f : Nat → Int32} (k : Nat) (he : E[k]? = some (b, .inl (cy 1, n, .inl f))) (hi : i < n) (hn : n < 2147483648) (d : decode cc pc = .ok (.iaload, 1)) (kk : vC p l e R s m args below meth c D A Q nL cells slots (WM cy ba ra hf hq kn th sm ++ (Y ++ E)) lv (pc + 1) (.int (f i) :: st)) : vC p l e R s m args below meth c D A Q nL cells slots (WM cy ba ra hf hq kn th sm ++ (Y ++ E)) lv pc (.int (nI i) :: .ref b :: st) :=
  g_iald C (14 + (Y.length + k)) ((wm_x k).trans he) hi hn d kk
theorem x_zld (C : Fg p s m args meth c cc nL own D cy A) {E : va_W} {b n i : Nat} {f : Nat → Int32} (k : Nat) (he : E[k]? = some (b, .inl (cy 2, n, .inl f))) (hi : i < n) (hn : n < 2147483648) (d : decode cc pc = .ok (.baload, 1)) (kk : vC p l e R s m args below meth c D A Q nL cells slots (WM cy ba ra hf hq kn th sm ++ (Y ++ E)) lv (pc + 1) (.int (f i) :: st)) : vC p l e R s m args below meth c D A Q nL cells slots (WM cy ba ra hf hq kn th sm ++ (Y ++ E)) lv pc (.int (nI i) :: .ref b :: st) :=
  g_zald C (14 + (Y.length + k)) ((wm_x k).trans he) hi hn d kk
theorem x_ast (C : Fg p s m args meth c cc nL own D cy A) {E E' : va_W} {b n i : Nat} {f : Nat → Int32} {x : Int32} (k : Nat) (he : E[k]? = some (b, .inl (cy 1, n, .inl f))) (hi : i < n) (hn : n < 2147483648) (hE : E.set k (b, .inl (cy 1, n, .inl (upd f i x))) = E') (d : decode cc pc = .ok (.iastore, 1)) (kk : vC p l e R s m args below meth c D A Q nL cells slots (WM cy ba ra hf hq kn th sm ++ (Y ++ E')) lv (pc + 1) st) : vC p l e R s m args below meth c D A Q nL cells slots (WM cy ba ra hf hq kn th sm ++ (Y ++ E)) lv pc (.int x :: .int (nI i) :: .ref b :: st) :=
  g_iast C (14 + (Y.length + k)) ((wm_x k).trans he) hi hn d ((wm_xs k _).trans (by rw [hE])) kk
theorem x_zst (C : Fg p s m args meth c cc nL own D cy A) {E E' : va_W} {b n i v : Nat} {f : Nat → Int32} (k : Nat) (he : E[k]? = some (b, .inl (cy 2, n, .inl f))) (hi : i < n) (hn : n < 2147483648) (hv : v ≤ 1) (hE : E.set k (b, .inl (cy 2, n, .inl (upd f i (nI v)))) = E') (d : decode cc pc = .ok (.bastore, 1)) (kk : vC p l e R s m args below meth c D A Q nL cells slots (WM cy ba ra hf hq kn th sm ++ (Y ++ E')) lv (pc + 1) st) : vC p l e R s m args below meth c D A Q nL cells slots (WM cy ba ra hf hq kn th sm ++ (Y ++ E)) lv pc (.int (nI v) :: .int (nI i) :: .ref b :: st) :=
  g_zast C (14 + (Y.length + k)) ((wm_x k).trans he) hi hn hv d ((wm_xs k _).trans (by rw [hE])) kk
theorem x_len (C : Fg p s m args meth c cc nL own D cy A) {E : va_W} {b n t0 : Nat} {ty : FieldType} {f : Nat → Int32} {cA : ClassId} (k : Nat) (he : E[k]? = some (b, .inl (cA, n, .inl f))) (ht : (tysL cy)[t0]? = some (cA, ty)) (d : decode cc pc = .ok (.arraylength, 1)) (kk : vC p l e R s m args below meth c D A Q nL cells slots (WM cy ba ra hf hq kn th sm ++ (Y ++ E)) lv (pc + 1) (.int (nI n) :: st)) : vC p l e R s m args below meth c D A Q nL cells slots (WM cy ba ra hf hq kn th sm ++ (Y ++ E)) lv pc (.ref b :: st) :=
  g_alen C (x := (n, .inl f)) (14 + (Y.length + k)) ((wm_x k).trans he) ht d kk
theorem ya_x {E : va_W} (k : Nat) : (Y ++ E)[Y.length + k]? = E[k]? := by
  rw [List.getElem?_append_right (by omega), show Y.length + k - Y.length = k by omega]
theorem ya_l {E : va_W} {j : Nat} {x : Nat × va_E} (h : Y[j]? = some x) : (Y ++ E)[j]? = some x := (List.getElem?_append_left (List.getElem?_eq_some_iff.mp h).1).trans h
theorem wm_y (j : Nat) : (WM cy ba ra hf hq kn th sm ++ Y)[14 + j]? = Y[j]? := by
  rw [List.getElem?_append_right (by rw [wm_len]; omega), wm_len, show 14 + j - 14 = j by omega]
theorem y_ald (C : Fg p s m args meth c cc nL own D cy A) {b n i : Nat} {f : Nat → Int32} (k : Nat) (he : Y[k]? = some (b, .inl (cy 1, n, .inl f))) (hi : i < n) (hn : n < 2147483648) (d : decode cc pc = .ok (.iaload, 1)) (kk : vC p l e R s m args below meth c D A Q nL cells slots (WM cy ba ra hf hq kn th sm ++ Y) lv (pc + 1) (.int (f i) :: st)) : vC p l e R s m args below meth c D A Q nL cells slots (WM cy ba ra hf hq kn th sm ++ Y) lv pc (.int (nI i) :: .ref b :: st) :=
  g_iald C (14 + k) ((wm_y k).trans he) hi hn d kk
theorem y_len (C : Fg p s m args meth c cc nL own D cy A) {b n : Nat} {f : Nat → Int32} (k : Nat) (he : Y[k]? = some (b, .inl (cy 1, n, .inl f))) (d : decode cc pc = .ok (.arraylength, 1)) (kk : vC p l e R s m args below meth c D A Q nL cells slots (WM cy ba ra hf hq kn th sm ++ Y) lv (pc + 1) (.int (nI n) :: st)) : vC p l e R s m args below meth c D A Q nL cells slots (WM cy ba ra hf hq kn th sm ++ Y) lv pc (.ref b :: st) :=
  g_alen C (t0 := 1) (x := (n, .inl f)) (14 + k) ((wm_y k).trans he) rfl d kk
theorem r_st {st' : List Value} (h : st = st') (kk : vW p l e R s m args below meth c D vwCl A Q nL cells slots w lv pc st') : vW p l e R s m args below meth c D vwCl A Q nL cells slots w lv pc st := h ▸ kk
theorem r_iandB (C : Fg p s m args meth c cc nL own D cy A) {a b v : Nat} (ha : a ≤ 1) (hb : b ≤ 1) (hv : (if b = 0 then 0 else a) = v) (d : decode cc pc = .ok (.iand, 1)) (kk : vC p l e R s m args below meth c D A Q nL cells slots w lv (pc + 1) (.int (nI v) :: st)) : vC p l e R s m args below meth c D A Q nL cells slots w lv pc (.int (nI b) :: .int (nI a) :: st) := by
  have h : nI a &&& nI b = nI v := by
    subst hv
    rcases (show a = 0 ∨ a = 1 by omega) with rfl | rfl <;> rcases (show b = 0 ∨ b = 1 by omega) with rfl | rfl <;> decide
  exact r_iand C d (h ▸ kk)
/-! calls that make places of their own choice -/
section ECALL
variable {y : MethodName} {bytes : ByteArray} {maxL index n b : Nat} {ret : Option FieldType} {rm : Room} {Cn : String} {As st0 : List Value} {α : Type} {V0 : α → Option Value} {W0 : α → va_W}
theorem e_V (hX : Stb X) (C : Fg p s m args meth c cc nL own D cy A) (hE : X A s s.heap) (ct : Cm l D cy X y bytes maxL ret rm (.ref b :: As) w (fun v w1 => ∃ x : α, v = V0 x ∧ w1 = W0 x) (fun _ => False)) (pk : PkV Cn y bytes maxL ret n) (qm : Cond.methodLink own index y ∈ GW)
    (q0 ci : Nat) {fs : List Value} {q : vw_C} (hc : vwCl[ci]? = some q) (hq0 : q.1 = Cn) (he : w[q0]? = some (b, .inr (ci, fs))) (hn : As.length = n) (hstack : st0 = As.reverse ++ .ref b :: st) (hcat : (st.map fun v => v.category).sum ≤ 8)
    (d : decode cc pc = .ok (.invokevirtual index, 3)) (hR : rm.frames + 1 ≤ R.frames ∧ 8 + (maxL + 11) + rm.locals ≤ R.locals) (hf0 : cells + rm.cells ≤ R.cells ∧ slots + rm.slots ≤ R.slots)
    (kk : ∀ x : α, vW p l e R s m args below meth c D vwCl A Q nL (cells + rm.cells) (slots + rm.slots) (W0 x) lv (pc + 3) ((V0 x).toList ++ st)) : vW p l e R s m args below meth c D vwCl A Q nL cells slots w lv pc st0 :=
  c_V hX C hE ct pk qm q0 ci hc hq0 he hn hstack hcat d hR hf0 (fun v w1 h => by obtain ⟨x, rfl, rfl⟩ := h; exact kk x) (fun _ h => h.elim)
theorem e_S (hX : Stb X) (C : Fg p s m args meth c cc nL own D cy A) (hE : X A s s.heap) (ct : Cm l D cy X y bytes maxL ret rm As w (fun v w1 => ∃ x : α, v = V0 x ∧ w1 = W0 x) (fun _ => False)) (pk : PkS y bytes maxL ret n) (qm : Cond.methodLink own index y ∈ GW)
    (hn : As.length = n) (hstack : st0 = As.reverse ++ st) (hcat : (st.map fun v => v.category).sum ≤ 8)
    (d : decode cc pc = .ok (.invokestatic index, 3)) (hR : rm.frames + 1 ≤ R.frames ∧ 8 + (maxL + 11) + rm.locals ≤ R.locals) (hf0 : cells + rm.cells ≤ R.cells ∧ slots + rm.slots ≤ R.slots)
    (kk : ∀ x : α, vW p l e R s m args below meth c D vwCl A Q nL (cells + rm.cells) (slots + rm.slots) (W0 x) lv (pc + 3) ((V0 x).toList ++ st)) : vW p l e R s m args below meth c D vwCl A Q nL cells slots w lv pc st0 :=
  c_S hX C hE ct pk qm hn hstack hcat d hR hf0 (fun v w1 h => by obtain ⟨x, rfl, rfl⟩ := h; exact kk x) (fun _ h => h.elim)
end ECALL
/-- new arrays -/
theorem r_newT (C : Fg p s m args meth c cc nL own D cy A) (at0 : ArrayType) (ty : FieldType) (t0 : Nat) (hat : newarray.typeOf at0 = ty) (hty : ty = .int ∧ t0 = 1 ∧ at0 = .int ∨ ty = .boolean ∧ t0 = 2 ∧ at0 = .boolean ∨ ty = .byte ∧ t0 = 0 ∧ at0 = .byte) (harr2 : Cond.arrayClass ty ∈ GW) {n : Nat} (hn : n < 1000000) (cells1 slots1 : Nat) (h1 : cells + 1 ≤ cells1) (h2 : slots + n ≤ slots1) (hcells : cells1 ≤ R.cells) (hslots : slots1 ≤ R.slots) (d : decode cc pc = .ok (.newarray at0, 2))
    (kk : ∀ q : Nat, vC p l e R s m args below meth c D A Q nL cells1 slots1 (w ++ [(q, .inl (cy t0, n, .inl (fun _ => 0)))]) lv (pc + 2) (.ref q :: st)) : vC p l e R s m args below meth c D A Q nL cells slots w lv pc (.int (nI n) :: st) := by
  rcases hty with ⟨rfl, rfl, rfl⟩ | ⟨rfl, rfl, rfl⟩ | ⟨rfl, rfl, rfl⟩
  · exact fun H locs ls hP hD hS hl => va_newa C.1 C.2.1 (C.2.2.2.2.1 _ harr2) (atype := .int) (ty := .int) rfl C.2.2.2.2.2.1 hP hD hS C.2.2.2.2.2.2.2 (N' := n) (a0 := (n, .inl (fun _ => 0))) (fun _ => rfl) (fun z => by rw [Int32.lt_iff_toInt_lt, nI_toInt (by omega)] at z; have : (0 : Int32).toInt = 0 := rfl; omega) (nI_clamp (by omega)) (by show n * 4 ≤ _; omega) (Nat.le_trans h1 hcells) (Nat.le_trans h2 hslots) d (fun q cA H1 hK hP hD hS => by
      have h1' := h1
      have h2' := h2
      have h1 := (hK.2 6 (cA, .int) rfl).2
      have h2 := (hK.2 1 (cy 1, .int) rfl).2
      have e : cA = cy 1 := Option.some.inj (h1.symm.trans h2)
      subst e
      exact r_widen h1' h2' (kk q) H1 locs ls hP hD hS hl)
  · exact fun H locs ls hP hD hS hl => va_newa C.1 C.2.1 (C.2.2.2.2.1 _ harr2) (atype := .boolean) (ty := .boolean) rfl C.2.2.2.2.2.1 hP hD hS C.2.2.2.2.2.2.2 (N' := n) (a0 := (n, .inl (fun _ => 0))) (fun _ => rfl) (fun z => by rw [Int32.lt_iff_toInt_lt, nI_toInt (by omega)] at z; have : (0 : Int32).toInt = 0 := rfl; omega) (nI_clamp (by omega)) (by show n * 1 ≤ _; omega) (Nat.le_trans h1 hcells) (Nat.le_trans h2 hslots) d (fun q cA H1 hK hP hD hS => by
      have h1' := h1
      have h2' := h2
      have h1 := (hK.2 6 (cA, .boolean) rfl).2
      have h2 := (hK.2 2 (cy 2, .boolean) rfl).2
      have e : cA = cy 2 := Option.some.inj (h1.symm.trans h2)
      subst e
      exact r_widen h1' h2' (kk q) H1 locs ls hP hD hS hl)
  · exact r_newB C harr2 hn (Nat.le_trans h1 hcells) (Nat.le_trans h2 hslots) d (fun q => r_widen h1 h2 (kk q))
/-- the world less some of its cells -/
theorem r_by {w' : va_W} (g : Nat → Nat) (hg : ∀ (k : Nat) (q : Nat × va_E), w'[k]? = some q → w[g k]? = some q) (hi : ∀ i j : Nat, i < w'.length → j < w'.length → g i = g j → i = j) (kk : vC p l e R s m args below meth c D A Q nL cells slots w' lv pc st) : vC p l e R s m args below meth c D A Q nL cells slots w lv pc st :=
  r_sub (fun _ hP => hP.by g hg) (fun hD => hD.by g hg hi) kk
theorem r_pre {B E : va_W} (kk : vC p l e R s m args below meth c D A Q nL cells slots (B ++ Y) lv pc st) : vC p l e R s m args below meth c D A Q nL cells slots (B ++ (Y ++ E)) lv pc st :=
  r_by (fun k => k) (fun k q h => by rw [← List.append_assoc]; exact (List.getElem?_append_left (List.getElem?_eq_some_iff.mp h).1).trans h) (fun _ _ _ _ h => h) kk
/-- the part E' of E alone is kept: is says which -/
theorem r_keep {B E E' : va_W} (g : Nat → Nat) (hg : ∀ k q, E'[k]? = some q → E[g k]? = some q) (hi : ∀ i j : Nat, i < E'.length → j < E'.length → g i = g j → i = j) (kk : vC p l e R s m args below meth c D A Q nL cells slots (B ++ (Y ++ E')) lv pc st) : vC p l e R s m args below meth c D A Q nL cells slots (B ++ (Y ++ E)) lv pc st := by
  refine r_by (fun k => if k < B.length + Y.length then k else B.length + Y.length + g (k - (B.length + Y.length))) (fun k q h => ?_) (fun i j hi1 hj1 h => ?_) kk
  · by_cases hk : k < B.length + Y.length
    · simp only [if_pos hk]
      rw [← List.append_assoc] at h ⊢
      rw [List.getElem?_append_left (by rw [List.length_append]; exact hk)] at h
      rw [List.getElem?_append_left (by rw [List.length_append]; exact hk)]
      exact h
    · simp only [if_neg hk]
      rw [← List.append_assoc] at h ⊢
      rw [List.getElem?_append_right (by rw [List.length_append]; omega), List.length_append] at h
      rw [List.getElem?_append_right (by rw [List.length_append]; omega), List.length_append, show B.length + Y.length + g (k - (B.length + Y.length)) - (B.length + Y.length) = g (k - (B.length + Y.length)) by omega]
      exact hg _ _ h
  · simp only [List.length_append] at hi1 hj1
    by_cases h1 : i < B.length + Y.length <;> by_cases h2 : j < B.length + Y.length
    · simpa [h1, h2] using h
    · simp only [if_pos h1, if_neg h2] at h
      omega
    · simp only [if_neg h1, if_pos h2] at h
      omega
    · simp only [if_neg h1, if_neg h2] at h
      have := hi (i - (B.length + Y.length)) (j - (B.length + Y.length)) (by omega) (by omega) (by omega)
      omega
/-- an array of ints into the array of rows -/
def AOI (cy : Nat → ClassId) (U : State) : Prop := ∃ (kA kc : Class) (comp : ClassId), U.vm.classes[cy 5]? = some kA ∧ kA.kind = .array comp (.array .int) ∧ U.vm.findClass "[I" = some comp ∧ U.vm.classes[comp]? = some kc
def EnvM (X : (Nat → Prop) → State → Heap → Prop) (cy : Nat → ClassId) : Prop := EnvX X ∧ ∀ (A : Nat → Prop) (U : State) (H : Heap), X A U H → AOI cy U
theorem upR_up (ra : Nat → Nat) (i x : Nat) : va_up (fun j => some (ra j)) i (some x) = fun j => some (upR ra i x j) := by
  funext j
  by_cases h : j = i <;> simp [va_up, upR, h]
theorem m_setRow (hX : EnvM X cy) (C : Fg p s m args meth c cc nL own D cy A) (hE : X A s s.heap) {E : va_W} {b n i : Nat} {f : Nat → Int32} (k : Nat) (he : E[k]? = some (b, .inl (cy 1, n, .inl f))) (hi : i < 4) (d : decode cc pc = .ok (.aastore, 1))
    (kk : vC p l e R s m args below meth c D A Q nL cells slots (WM cy ba (upR ra i b) (up2 hf 4 i n) (upR hq i f) kn th sm ++ (Y ++ E.eraseIdx k)) lv (pc + 1) st) : vC p l e R s m args below meth c D A Q nL cells slots (WM cy ba ra hf hq kn th sm ++ (Y ++ E)) lv pc (.ref b :: .int (nI i) :: .ref (ba 0) :: st) := by
  intro H locs ls hP hD hS hl
  obtain ⟨kA, kc, comp, a1, a2, a3, a4⟩ := hX.2 A s s.heap hE
  have hcy : comp = cy 1 := Option.some.inj (a3.symm.trans (C.2.2.2.2.2.1.2 1 (cy 1, .int) rfl).2)
  subst hcy
  have hx := (wm_x (cy := cy) (ba := ba) (ra := ra) (hf := hf) (hq := hq) (kn := kn) (th := th) (sm := sm) (Y := Y) k).trans he
  have c0 : (nI i).toNatClampNeg = i := nI_clamp (by omega)
  refine W.aast C.1 C.2.1 (hP 1 _ wm_1) (fun q h => by cases h) (fun h => by cases h) a1 a2 rfl a4 ⟨fun z => by rw [Int32.lt_iff_toInt_lt, nI_toInt (by omega)] at z; have : (0 : Int32).toInt = 0 := rfl; omega, by show _ < (arrV _ _ _).slots.size; rw [arrV_size, c0]; exact hi⟩ (hP _ _ hx) (fun q h => by cases h) a4 (va_asg _ _) rfl rfl d fun H1 e1 z oq => ?_
  have hP1 : va_P D vwCl ((WM cy ba ra hf hq kn th sm ++ (Y ++ E)).set 1 (ba 0, .inl (cy 5, 4, .inr (.inr (.inr (.inr (fun j => some (upR ra i b j)))))))) H1 := by
    refine hP.set hD wm_1 ?_ oq
    show H1[ba 0]? = some (vp_cell _ _)
    rw [e1, c0]
    rw [vp_cell_q, vp_cell_q, arrV_store]
    congr 2
    funext q
    by_cases hqi : q = i
    · subst hqi
      simp [updV, upR, va_rf]
    · simp [updV, upR, hqi, va_rf]
  have hD1 := hD.set (e := .inl (cy 5, 4, .inr (.inr (.inr (.inr (fun j => some (upR ra i b j))))))) wm_1
  have hS1 := hS.put (k := (nI i).toNatClampNeg) z oq (hD.2 1 _ wm_1)
  refine r_by (fun j => if j = 10 + i then 14 + (Y.length + k) else if j < 14 + (Y.length + k) then j else j + 1) (fun j q hj => ?_) (fun j1 j2 h1 h2 h => ?_) kk H1 _ ls hP1 hD1 hS1 hl
  · have hb : E.length > k := (List.getElem?_eq_some_iff.mp he).1
    by_cases hj1 : j = 10 + i
    · subst hj1
      rw [if_pos rfl, List.getElem?_set_ne (by omega), hx]
      rw [wm_r hi] at hj
      rw [← hj]
      unfold mR
      simp [upR, up2]
    · rw [if_neg hj1]
      by_cases hj2 : j < 14
      · rw [if_pos (by omega)]
        by_cases hj3 : j = 1
        · subst hj3
          rw [wm_1] at hj
          rw [← hj]
          exact List.getElem?_set_self (by rw [List.length_append, wm_len]; omega)
        · rw [List.getElem?_set_ne (fun q => hj3 q.symm)]
          by_cases hj4 : j = 0
          · subst hj4
            exact hj
          · by_cases hj5 : j < 10
            · obtain ⟨j', rfl⟩ : ∃ j', j = 2 + j' := ⟨j - 2, by omega⟩
              rw [wm_a (by omega)] at hj ⊢
              rw [← hj]
              congr 1
              unfold mA
              congr 5
              funext z9
              by_cases hm : mfl (j' + 1) = 4
              · have h4 : mof (j' + 1) = 4 := by
                  rcases (show j' = 0 ∨ j' = 1 ∨ j' = 2 ∨ j' = 3 ∨ j' = 4 ∨ j' = 5 ∨ j' = 6 ∨ j' = 7 by omega) with rfl | rfl | rfl | rfl | rfl | rfl | rfl | rfl <;> first | rfl | (exact absurd hm (by decide))
                rw [hm, h4, up2_i _ _ _ _ (by omega)]
              · rw [up2_k _ _ _ _ hm]
            · obtain ⟨j', rfl⟩ : ∃ j', j = 10 + j' := ⟨j - 10, by omega⟩
              rw [wm_r (by omega)] at hj ⊢
              rw [← hj]
              unfold mR
              simp [upR, up2, show j' ≠ i by omega]
      · have hlen : 14 ≤ j := by omega
        rw [List.getElem?_append_right (by rw [wm_len]; omega), wm_len] at hj
        by_cases hj3 : j < 14 + (Y.length + k)
        · rw [if_pos hj3, List.getElem?_set_ne (by omega), List.getElem?_append_right (by rw [wm_len]; omega), wm_len]
          by_cases hj4 : j - 14 < Y.length
          · rw [List.getElem?_append_left hj4] at hj ⊢
            exact hj
          · rw [List.getElem?_append_right (by omega)] at hj ⊢
            rw [List.getElem?_eraseIdx, if_pos (by omega)] at hj
            exact hj
        · rw [if_neg hj3, List.getElem?_set_ne (by omega), List.getElem?_append_right (by rw [wm_len]; omega), wm_len]
          rw [List.getElem?_append_right (by omega)] at hj ⊢
          rw [List.getElem?_eraseIdx, if_neg (by omega)] at hj
          rw [show j + 1 - 14 - Y.length = j - 14 - Y.length + 1 by omega]
          exact hj
  · split at h <;> split at h <;> (try split at h) <;> (try split at h) <;> omega
end MRW
end PT_35
/-! ===== 36.mpure -/
section PT_36
/-! THE MODEL AGAINST THE CLASS'S NUMBERS -/
/-- windows that are there: the same grounds; where they begin in their grounds -/
def MG (f hf : Nat → Nat → Nat) : Prop := ∀ w, 4 ≤ w → w < 8 → f 5 w = 1 → hf 2 w = f 2 w ∧ f 3 w = f 3 (f 2 w) + hf 3 w
theorem MG.same {f hf hf' : Nat → Nat → Nat} (h2 : ∀ i, hf' 2 i = hf 2 i) (h3 : ∀ i, hf' 3 i = hf 3 i) (h : MG f hf) : MG f hf' := fun w a b d => by
  rw [h2, h3]
  exact h w a b d
/-- the model's state is the class's -/
def MR (f : Nat → Nat → Nat) (r : Nat → Nat → Int32) (hf : Nat → Nat → Nat) (hq : Nat → Nat → Int32) : Prop :=
  MG f hf ∧ (∀ i, i < 4 → hf 4 i = f 4 i ∧ ∀ k, k < f 4 i → hq i k = r i k) ∧
  (∀ w, 4 ≤ w → w < 8 → hf 5 w = f 5 w ∧ hf 2 w < 8 ∧ (f 5 w = 1 → hf 4 w = f 4 w)) ∧
  (∀ k, k < 3 → hf 9 k = f 9 k ∧ hf 6 k < 8 ∧ (f 9 k = 1 → hf 6 k = f 6 k ∧ hf 7 k = f 7 k ∧ hf 8 k = f 8 k))
theorem chN_up {f : Nat → Nat → Nat} : ∀ (n w : Nat), chN f n w → chN f (n + 1) w
  | 0, _, h => h.elim
  | n + 1, w, h => by
    rcases h with h | ⟨a, b, d⟩
    · exact Or.inl h
    · exact Or.inr ⟨a, b, chN_up n _ d⟩
/-- what a where that is there looks like in the model -/
theorem MR.wh {f : Nat → Nat → Nat} {r : Nat → Nat → Int32} {hf : Nat → Nat → Nat} {hq : Nat → Nat → Int32} (hM : MR f r hf hq) (hC : CInv f) {w : Nat} (hw : w < 8) (h5 : f 5 w = 1) : hf 4 w = f 4 w ∧ hf 4 (f 1 w) = f 4 (f 1 w) ∧ f 1 w < 4 ∧ f 3 w + f 4 w ≤ f 4 (f 1 w) ∧ f 4 (f 1 w) ≤ 12 ∧ f 0 w = f 1 w ∧ (4 ≤ w → hf 5 w = 1) := by
  have h1 := hC.th hw h5
  have h2 := hC.al hw
  have h3 := hM.2.1 (f 1 w) h2.2.1
  refine ⟨?_, h3.1, h2.2.1, h1.1, h1.2.1, h2.2.2.1, fun h4 => (hM.2.2.1 w h4 hw).1.trans h5⟩
  by_cases h4 : w < 4
  · exact (hM.2.1 w h4).1
  · exact (hM.2.2.1 w (by omega) hw).2.2 h5
theorem MR.it {f : Nat → Nat → Nat} {r : Nat → Nat → Int32} {hf : Nat → Nat → Nat} {hq : Nat → Nat → Int32} (hM : MR f r hf hq) (hC : CInv f) {w k : Nat} (hw : w < 8) (h5 : f 5 w = 1) (hk : k < f 4 w) : hq (f 1 w) (f 3 w + k) = r (f 0 w) (f 3 w + k) := by
  have h1 := hM.wh hC hw h5
  rw [h1.2.2.2.2.2.1]
  exact (hM.2.1 (f 1 w) h1.2.2.1).2 _ (by omega)
/-- the first n of F, 0 behind them -/
def cutF (F : Nat → Int32) (n : Nat) : Nat → Int32 := fun j => if j < n then F j else 0
theorem cutF_0 (F : Nat → Int32) : cutF F 0 = fun _ => 0 := by
  funext j
  unfold cutF
  rw [if_neg (by omega)]
theorem cutF_up {F : Nat → Int32} {k : Nat} {x : Int32} (h : F k = x) : upd (cutF F k) k x = cutF F (k + 1) := by
  funext j
  unfold upd cutF
  by_cases hj : j = k
  · subst hj
    rw [if_pos rfl, if_pos (by omega), h]
  · rw [if_neg hj]
    by_cases h1 : j < k
    · rw [if_pos h1, if_pos (by omega)]
    · rw [if_neg h1, if_neg (by omega)]
theorem cutF_at {F : Nat → Int32} {n k : Nat} (h : k < n) : cutF F n k = F k := if_pos h
/-- n places, of which those have got their item whose number σ is below k -/
def scA (σ : Nat → Nat) (G : Nat → Int32) (n k : Nat) : Nat → Int32 := fun j => if j < n ∧ σ j < k then G (σ j) else 0
theorem scA_0 (σ : Nat → Nat) (G : Nat → Int32) (n : Nat) : scA σ G n 0 = fun _ => 0 := by
  funext j
  unfold scA
  rw [if_neg (by omega)]
theorem scA_up {σ : Nat → Nat} {G : Nat → Int32} {n k t : Nat} {x : Int32} (ht : t < n) (hs : σ t = k) (hi : ∀ j, j < n → σ j = k → j = t) (h : G k = x) : upd (scA σ G n k) t x = scA σ G n (k + 1) := by
  funext j
  unfold upd scA
  by_cases hj : j = t
  · subst hj
    rw [if_pos rfl, if_pos ⟨ht, by omega⟩, hs, h]
  · rw [if_neg hj]
    by_cases h1 : j < n ∧ σ j < k
    · rw [if_pos h1, if_pos ⟨h1.1, by omega⟩]
    · rw [if_neg h1, if_neg (fun h2 => hj (hi j h2.1 (by omega)))]
theorem scA_end {σ : Nat → Nat} {G : Nat → Int32} {n : Nat} (h : ∀ j, j < n → σ j < n) : scA σ G n n = cutF (fun j => G (σ j)) n := by
  funext j
  unfold scA cutF
  by_cases h1 : j < n
  · rw [if_pos ⟨h1, h j h1⟩, if_pos h1]
  · rw [if_neg (fun h2 => h1 h2.1), if_neg h1]
/-- items g come to the row i, from place b on, n of them -/
def wrR (hq : Nat → Nat → Int32) (i b n : Nat) (g : Nat → Int32) : Nat → Nat → Int32 := fun j k => if j = i ∧ b ≤ k ∧ k < b + n then g (k - b) else hq j k
theorem wrR_0 (hq : Nat → Nat → Int32) (i b : Nat) (g : Nat → Int32) : wrR hq i b 0 g = hq := by
  funext j k
  unfold wrR
  rw [if_neg (by omega)]
theorem wrR_up {hq : Nat → Nat → Int32} {i b n : Nat} {g : Nat → Int32} {x : Int32} (h : g n = x) : up2 (wrR hq i b n g) i (b + n) x = wrR hq i b (n + 1) g := by
  funext j k
  unfold up2 wrR
  by_cases h1 : j = i ∧ k = b + n
  · rw [if_pos h1, if_pos ⟨h1.1, by omega, by omega⟩, h1.2, Nat.add_sub_cancel_left, h]
  · rw [if_neg h1]
    by_cases h2 : j = i ∧ b ≤ k ∧ k < b + n
    · rw [if_pos h2, if_pos ⟨h2.1, h2.2.1, by omega⟩]
    · rw [if_neg h2, if_neg (fun h3 => h2 ⟨h3.1, h3.2.1, by have := fun e => h1 ⟨h3.1, e⟩; omega⟩)]
/-- cursors below k of the row of w are gone, but d; the cursors that are there alone count -/
def chO (f hf : Nat → Nat → Nat) (w d k : Nat) : Nat → Nat → Nat := fun fl i => if fl = 9 ∧ i < k ∧ i ≠ d ∧ hf 9 i ≠ 0 ∧ f 1 (hf 6 i) = f 1 w then 0 else hf fl i
theorem chO_0 (f hf : Nat → Nat → Nat) (w d : Nat) : chO f hf w d 0 = hf := by
  funext fl i
  unfold chO
  rw [if_neg (by omega)]
theorem chO_yes {f hf : Nat → Nat → Nat} {w d k : Nat} (h1 : k ≠ d) (h3 : hf 9 k ≠ 0) (h2 : f 1 (hf 6 k) = f 1 w) : up2 (chO f hf w d k) 9 k 0 = chO f hf w d (k + 1) := by
  funext fl i
  unfold up2 chO
  by_cases h : fl = 9 ∧ i = k
  · obtain ⟨rfl, rfl⟩ := h
    rw [if_pos ⟨rfl, rfl⟩, if_pos ⟨rfl, by omega, h1, h3, h2⟩]
  · rw [if_neg h]
    by_cases h4 : fl = 9 ∧ i < k ∧ i ≠ d ∧ hf 9 i ≠ 0 ∧ f 1 (hf 6 i) = f 1 w
    · rw [if_pos h4, if_pos ⟨h4.1, by omega, h4.2.2⟩]
    · rw [if_neg h4, if_neg (fun h5 => h4 ⟨h5.1, by have := fun e => h ⟨h5.1, e⟩; omega, h5.2.2⟩)]
theorem chO_no {f hf : Nat → Nat → Nat} {w d k : Nat} (h1 : k = d ∨ hf 9 k = 0 ∨ f 1 (hf 6 k) ≠ f 1 w) : chO f hf w d k = chO f hf w d (k + 1) := by
  funext fl i
  unfold chO
  by_cases h4 : fl = 9 ∧ i < k ∧ i ≠ d ∧ hf 9 i ≠ 0 ∧ f 1 (hf 6 i) = f 1 w
  · rw [if_pos h4, if_pos ⟨h4.1, by omega, h4.2.2⟩]
  · rw [if_neg h4, if_neg (fun h5 => h4 ⟨h5.1, by
      have : i ≠ k := fun e => by
        subst e
        rcases h1 with h1 | h1 | h1
        · exact h5.2.2.1 h1
        · exact h5.2.2.2.1 h1
        · exact h1 h5.2.2.2.2
      omega, h5.2.2⟩)]
/-- which windows go -/
def goF (f hf : Nat → Nat → Nat) (w k : Nat) : Nat := if hf 5 (4 + k) ≠ 0 ∧ f 1 (4 + k) = f 1 w ∧ hol f (4 + k) w = 0 then 1 else 0
theorem goF_le (f hf : Nat → Nat → Nat) (w k : Nat) : goF f hf w k ≤ 1 := by
  unfold goF
  split <;> omega
/-- windows below k that go are gone -/
def chT (f hf : Nat → Nat → Nat) (w k : Nat) : Nat → Nat → Nat := fun fl i => if fl = 5 ∧ 4 ≤ i ∧ i < 4 + k ∧ goF f hf w (i - 4) ≠ 0 then 0 else hf fl i
theorem chT_0 (f hf : Nat → Nat → Nat) (w : Nat) : chT f hf w 0 = hf := by
  funext fl i
  unfold chT
  rw [if_neg (by omega)]
theorem chT_yes {f hf : Nat → Nat → Nat} {w k : Nat} (h : goF f hf w k ≠ 0) : up2 (chT f hf w k) 5 (4 + k) 0 = chT f hf w (k + 1) := by
  funext fl i
  unfold up2 chT
  by_cases h1 : fl = 5 ∧ i = 4 + k
  · obtain ⟨rfl, rfl⟩ := h1
    rw [if_pos ⟨rfl, rfl⟩, if_pos ⟨rfl, by omega, by omega, by rw [Nat.add_sub_cancel_left]; exact h⟩]
  · rw [if_neg h1]
    by_cases h4 : fl = 5 ∧ 4 ≤ i ∧ i < 4 + k ∧ goF f hf w (i - 4) ≠ 0
    · rw [if_pos h4, if_pos ⟨h4.1, h4.2.1, by omega, h4.2.2.2⟩]
    · rw [if_neg h4, if_neg (fun h5 => h4 ⟨h5.1, h5.2.1, by have := fun e => h1 ⟨h5.1, e⟩; omega, h5.2.2.2⟩)]
theorem chT_no {f hf : Nat → Nat → Nat} {w k : Nat} (h : goF f hf w k = 0) : chT f hf w k = chT f hf w (k + 1) := by
  funext fl i
  unfold chT
  by_cases h4 : fl = 5 ∧ 4 ≤ i ∧ i < 4 + k ∧ goF f hf w (i - 4) ≠ 0
  · rw [if_pos h4, if_pos ⟨h4.1, h4.2.1, by omega, h4.2.2.2⟩]
  · rw [if_neg h4, if_neg (fun h5 => h4 ⟨h5.1, h5.2.1, by
      have : i ≠ 4 + k := fun e => by
        subst e
        rw [Nat.add_sub_cancel_left] at h5
        exact h5.2.2.2 h
      omega, h5.2.2.2⟩)]
/-- what is done by 'changed' -/
def chM (f hf : Nat → Nat → Nat) (w d : Nat) : Nat → Nat → Nat := chT f (chO f hf w d 3) w 4
/-- the holders of w have c more, g less -/
def lyM (f hf : Nat → Nat → Nat) (w c g : Nat) : Nat → Nat → Nat := fun fl i => if fl = 4 ∧ 4 ≤ i ∧ i < 8 ∧ hol f i w ≠ 0 then hf 4 i + c - g else hf fl i
/-- the row w of 'lay' -/
def layF (g h : Nat → Int32) (at0 c o n : Nat) : Nat → Int32 := cutF (fun k => if k < at0 then g k else if k < at0 + c then h (k - at0) else g (k - c + o)) n
theorem le_pred {n : Nat} {y : Int32} (hn : n ≤ 12) : y ≤ nI n - nI 1 ↔ y < nI n := by
  have e1 : (nI n).toInt = (n : Int) := nI_toInt (by omega)
  have e2 : (nI n - nI 1).toInt = (n : Int) - 1 := by
    have e3 : (nI n - nI 1).toInt = ((nI n).toInt - (nI 1).toInt).bmod (2 ^ 32) := Int32.toInt_sub _ _
    rw [e3, e1, show (nI 1).toInt = 1 from rfl]
    exact Int.bmod_eq_of_le (by omega) (by omega)
  rw [Int32.le_iff_toInt_le, Int32.lt_iff_toInt_lt, e1, e2]
  omega
theorem noW_cases {f hf : Nat → Nat → Nat} {x : Int32} (h5 : ∀ w, 4 ≤ w → w < 8 → hf 5 w = f 5 w ∧ f 5 w ≤ 1) (h4 : ∀ w, w < 4 → f 5 w = 1) (hno : noW f x) : ¬ (nI 0 ≤ x ∧ x ≤ nI 7) ∨ ∃ w, 4 ≤ w ∧ w < 8 ∧ x = nI w ∧ hf 5 w = 0 := by
  by_cases h : nI 0 ≤ x ∧ x ≤ nI 7
  · right
    obtain ⟨h1, h2⟩ := h
    rw [Int32.le_iff_toInt_le] at h1 h2
    rw [show (nI 0).toInt = 0 from rfl] at h1
    rw [show (nI 7).toInt = 7 from rfl] at h2
    have hx : x = nI x.toInt.toNat := by
      rw [← Int32.toInt_inj, nI_toInt (by omega)]
      omega
    have hlt : x.toInt.toNat < 8 := by omega
    have hn : ¬ f 5 x.toInt.toNat = 1 := fun e => hno ⟨_, hlt, hx, e⟩
    have h4' : 4 ≤ x.toInt.toNat := by
      rcases Nat.lt_or_ge x.toInt.toNat 4 with a | a
      · exact absurd (h4 _ a) hn
      · exact a
    have := h5 _ h4' hlt
    exact ⟨_, h4', hlt, hx, by omega⟩
  · exact Or.inl h
theorem chN_step {f : Nat → Nat → Nat} {n w : Nat} (h : chN f (n + 1) w) (h4 : 4 ≤ w) : w < 8 ∧ f 5 w = 1 ∧ chN f n (f 2 w) := by
  rcases h with h | h
  · omega
  · exact h
theorem hlC_row {f : Nat → Nat → Nat} (hC : CInv f) {h w d : Nat} (hw : w < 4) (hne : h ≠ w) (hd : 1 ≤ d) : hlC (f 2) h d w = 0 := by
  obtain ⟨d, rfl⟩ : ∃ d', d = d' + 1 := ⟨d - 1, by omega⟩
  unfold hlC
  rw [if_neg (by omega), if_neg (fun e => hne e.symm), (hC.rw hw).2.2.1]
  cases d with
  | zero => rfl
  | succ d =>
    unfold hlC
    rw [if_pos rfl]
theorem hlC_self {g : Nat → Nat} {h d : Nat} (hw : h < 8) (hd : 1 ≤ d) : hlC g h d h = 1 := by
  obtain ⟨d, rfl⟩ : ∃ d', d = d' + 1 := ⟨d - 1, by omega⟩
  unfold hlC
  rw [if_neg (by omega), if_pos rfl]
theorem hlC_step {g : Nat → Nat} {h w d : Nat} (hw : w < 8) (hne : h ≠ w) (hd : 1 ≤ d) : hlC g h d w = hlC g h (d - 1) (g w) := by
  obtain ⟨d, rfl⟩ : ∃ d', d = d' + 1 := ⟨d - 1, by omega⟩
  conv => lhs; unfold hlC
  rw [if_neg (by omega), if_neg (fun e => hne e.symm)]
  rfl
end PT_36
/-! ===== 37.model1 -/
section PT_37
/-! CONTRACTS of the model: small things, the row of a where -/
theorem dX4_isIn_0 : decode cX4_isIn 0 = .ok (.iload_n 0, 1) := dqo_26 (kb_of ke_X4_isIn 0 rfl)
theorem dX4_isIn_1 : decode cX4_isIn 1 = .ok (.iload_n 1, 1) := dqo_27 (kb_of ke_X4_isIn 1 rfl)
theorem dX4_isIn_2 : decode cX4_isIn 2 = .ok (.if_icmp .lt 12, 3) := dqo_161 0 12 (by decide) (kb_of ke_X4_isIn 2 rfl) (kb_of ke_X4_isIn 3 rfl) (kb_of ke_X4_isIn 4 rfl)
theorem dX4_isIn_5 : decode cX4_isIn 5 = .ok (.iload_n 0, 1) := dqo_26 (kb_of ke_X4_isIn 5 rfl)
theorem dX4_isIn_6 : decode cX4_isIn 6 = .ok (.iload_n 2, 1) := dqo_28 (kb_of ke_X4_isIn 6 rfl)
theorem dX4_isIn_7 : decode cX4_isIn 7 = .ok (.if_icmp .gt 7, 3) := dqo_163 0 7 (by decide) (kb_of ke_X4_isIn 7 rfl) (kb_of ke_X4_isIn 8 rfl) (kb_of ke_X4_isIn 9 rfl)
theorem dX4_isIn_10 : decode cX4_isIn 10 = .ok (.iconst 1, 1) := dqo_4 (kb_of ke_X4_isIn 10 rfl)
theorem dX4_isIn_11 : decode cX4_isIn 11 = .ok (.goto 4, 3) := dqo_167 0 4 (by decide) (kb_of ke_X4_isIn 11 rfl) (kb_of ke_X4_isIn 12 rfl) (kb_of ke_X4_isIn 13 rfl)
theorem dX4_isIn_15 : decode cX4_isIn 15 = .ok (.ireturn, 1) := dqo_172 (kb_of ke_X4_isIn 15 rfl)
set_option maxRecDepth 100000 in
set_option maxHeartbeats 4000000 in
theorem D_isIn1 {l : Launch} {D : va_G} {cy : Nat → ClassId} {X : (Nat → Prop) → State → Heap → Prop} {ba ra : Nat → Nat} {hf : Nat → Nat → Nat} {hq : Nat → Nat → Int32} {kn th : Int32} {sm : Int64} {Y : va_W} {x : Int32} {y : Int32} {z : Int32} (hX : EnvM X cy) (h1 : y ≤ x) (h2 : x ≤ z) : Cd l D cy X yX4_isIn cX4_isIn 3 (some .boolean) (rmz 0 0) [.int x, .int y, .int z] (WM cy ba ra hf hq kn th sm ++ Y) (some (.int (nI 1))) (WM cy ba ra hf hq kn th sm ++ Y) := by
  refine Cm.of [some (.int x), some (.int y), some (.int z)] pn_X4 rfl (Nat.le_of_ble_eq_true rfl) ?_
  intro p e s m args below meth c A C hE hr hnt hn
  refine r_iload_n C dX4_isIn_0 rfl ?_
  refine r_iload_n C dX4_isIn_1 rfl ?_
  refine r_ic_lt (tgt := 14) C dX4_isIn_2 (by decide) (fun h2_1 => ?_) (fun h2_1 => ?_)
  · exact absurd h2_1 (Int32.not_lt.mpr h1)
  · skip
    refine r_iload_n C dX4_isIn_5 rfl ?_
    refine r_iload_n C dX4_isIn_6 rfl ?_
    refine r_ic_gt (tgt := 14) C dX4_isIn_7 (by decide) (fun h7_2 => ?_) (fun h7_2 => ?_)
    · exact absurd h7_2 (Int32.not_lt.mpr h2)
    · skip
      refine r_iconst (v := (nI 1)) C dX4_isIn_10 (by decide) ?_
      refine r_goto (tgt := 15) C dX4_isIn_11 (by decide) ?_
      exact r_zret C hr (by first | omega | (simp [up2, *]; done) | (simp [up2, *]; omega) | (simp only [up2_eq]; omega) | (split <;> omega)) dX4_isIn_15 ⟨rfl, rfl⟩ (Nat.le_of_ble_eq_true rfl) (Nat.le_of_ble_eq_true rfl)
theorem dX4_isIn_14 : decode cX4_isIn 14 = .ok (.iconst 0, 1) := dqo_3 (kb_of ke_X4_isIn 14 rfl)
set_option maxRecDepth 100000 in
set_option maxHeartbeats 4000000 in
theorem D_isIn0 {l : Launch} {D : va_G} {cy : Nat → ClassId} {X : (Nat → Prop) → State → Heap → Prop} {ba ra : Nat → Nat} {hf : Nat → Nat → Nat} {hq : Nat → Nat → Int32} {kn th : Int32} {sm : Int64} {Y : va_W} {x : Int32} {y : Int32} {z : Int32} (hX : EnvM X cy) (hno : ¬ (y ≤ x ∧ x ≤ z)) : Cd l D cy X yX4_isIn cX4_isIn 3 (some .boolean) (rmz 0 0) [.int x, .int y, .int z] (WM cy ba ra hf hq kn th sm ++ Y) (some (.int (nI 0))) (WM cy ba ra hf hq kn th sm ++ Y) := by
  refine Cm.of [some (.int x), some (.int y), some (.int z)] pn_X4 rfl (Nat.le_of_ble_eq_true rfl) ?_
  intro p e s m args below meth c A C hE hr hnt hn
  refine r_iload_n C dX4_isIn_0 rfl ?_
  refine r_iload_n C dX4_isIn_1 rfl ?_
  refine r_ic_lt (tgt := 14) C dX4_isIn_2 (by decide) (fun h2_1 => ?_) (fun h2_1 => ?_)
  · first
    | exfalso; first | omega | contradiction
    | skip
      refine r_iconst (v := (nI 0)) C dX4_isIn_14 (by decide) ?_
      exact r_zret C hr (by first | omega | (simp [up2, *]; done) | (simp [up2, *]; omega) | (simp only [up2_eq]; omega) | (split <;> omega)) dX4_isIn_15 ⟨rfl, rfl⟩ (Nat.le_of_ble_eq_true rfl) (Nat.le_of_ble_eq_true rfl)
  · first
    | exfalso; first | omega | contradiction
    | skip
      refine r_iload_n C dX4_isIn_5 rfl ?_
      refine r_iload_n C dX4_isIn_6 rfl ?_
      refine r_ic_gt (tgt := 14) C dX4_isIn_7 (by decide) (fun h7_2 => ?_) (fun h7_2 => ?_)
      · skip
        refine r_iconst (v := (nI 0)) C dX4_isIn_14 (by decide) ?_
        exact r_zret C hr (by first | omega | (simp [up2, *]; done) | (simp [up2, *]; omega) | (simp only [up2_eq]; omega) | (split <;> omega)) dX4_isIn_15 ⟨rfl, rfl⟩ (Nat.le_of_ble_eq_true rfl) (Nat.le_of_ble_eq_true rfl)
      · exact absurd ⟨Int32.not_lt.mp (by assumption), by first | assumption | exact Int32.not_lt.mp (by assumption)⟩ hno
set_option maxRecDepth 100000 in
set_option maxHeartbeats 4000000 in
theorem D_isInN {l : Launch} {D : va_G} {cy : Nat → ClassId} {X : (Nat → Prop) → State → Heap → Prop} {ba ra : Nat → Nat} {hf : Nat → Nat → Nat} {hq : Nat → Nat → Int32} {kn th : Int32} {sm : Int64} {Y : va_W} {a0 : Nat} {b0 : Nat} {d0 : Nat} (hX : EnvM X cy) (h1 : b0 ≤ a0) (h2 : a0 ≤ d0) (h3 : d0 < 2147483648) : Cd l D cy X yX4_isIn cX4_isIn 3 (some .boolean) (rmz 0 0) [.int (nI a0), .int (nI b0), .int (nI d0)] (WM cy ba ra hf hq kn th sm ++ Y) (some (.int (nI 1))) (WM cy ba ra hf hq kn th sm ++ Y) := by
  refine Cm.of [some (.int (nI a0)), some (.int (nI b0)), some (.int (nI d0))] pn_X4 rfl (Nat.le_of_ble_eq_true rfl) ?_
  intro p e s m args below meth c A C hE hr hnt hn
  refine r_iload_n C dX4_isIn_0 rfl ?_
  refine r_iload_n C dX4_isIn_1 rfl ?_
  refine r_icN_lt (a := a0) (b := b0) (tgt := 14) C (by first | omega | (simp [up2, *]; done) | (simp [up2, *]; omega) | (simp only [up2_eq]; omega) | (split <;> omega)) (by first | omega | (simp [up2, *]; done) | (simp [up2, *]; omega) | (simp only [up2_eq]; omega) | (split <;> omega)) dX4_isIn_2 (by decide) (fun h2_1 => ?_) (fun h2_1 => ?_)
  · first
    | exfalso; first | omega | contradiction
    | skip
      refine r_iconst (v := (nI 0)) C dX4_isIn_14 (by decide) ?_
      exact r_zret C hr (by first | omega | (simp [up2, *]; done) | (simp [up2, *]; omega) | (simp only [up2_eq]; omega) | (split <;> omega)) dX4_isIn_15 ⟨rfl, rfl⟩ (Nat.le_of_ble_eq_true rfl) (Nat.le_of_ble_eq_true rfl)
  · first
    | exfalso; first | omega | contradiction
    | skip
      refine r_iload_n C dX4_isIn_5 rfl ?_
      refine r_iload_n C dX4_isIn_6 rfl ?_
      refine r_icN_gt (a := a0) (b := d0) (tgt := 14) C (by first | omega | (simp [up2, *]; done) | (simp [up2, *]; omega) | (simp only [up2_eq]; omega) | (split <;> omega)) (by first | omega | (simp [up2, *]; done) | (simp [up2, *]; omega) | (simp only [up2_eq]; omega) | (split <;> omega)) dX4_isIn_7 (by decide) (fun h7_2 => ?_) (fun h7_2 => ?_)
      · first
        | exfalso; first | omega | contradiction
        | skip
          refine r_iconst (v := (nI 0)) C dX4_isIn_14 (by decide) ?_
          exact r_zret C hr (by first | omega | (simp [up2, *]; done) | (simp [up2, *]; omega) | (simp only [up2_eq]; omega) | (split <;> omega)) dX4_isIn_15 ⟨rfl, rfl⟩ (Nat.le_of_ble_eq_true rfl) (Nat.le_of_ble_eq_true rfl)
      · first
        | exfalso; first | omega | contradiction
        | skip
          refine r_iconst (v := (nI 1)) C dX4_isIn_10 (by decide) ?_
          refine r_goto (tgt := 15) C dX4_isIn_11 (by decide) ?_
          exact r_zret C hr (by first | omega | (simp [up2, *]; done) | (simp [up2, *]; omega) | (simp only [up2_eq]; omega) | (split <;> omega)) dX4_isIn_15 ⟨rfl, rfl⟩ (Nat.le_of_ble_eq_true rfl) (Nat.le_of_ble_eq_true rfl)
theorem dX4_one_0 : decode cX4_one 0 = .ok (.iload_n 0, 1) := dqo_26 (kb_of ke_X4_one 0 rfl)
theorem dX4_one_1 : decode cX4_one 1 = .ok (.ifCond .eq 7, 3) := dqo_153 0 7 (by decide) (kb_of ke_X4_one 1 rfl) (kb_of ke_X4_one 2 rfl) (kb_of ke_X4_one 3 rfl)
theorem dX4_one_4 : decode cX4_one 4 = .ok (.iconst 1, 1) := dqo_4 (kb_of ke_X4_one 4 rfl)
theorem dX4_one_5 : decode cX4_one 5 = .ok (.goto 4, 3) := dqo_167 0 4 (by decide) (kb_of ke_X4_one 5 rfl) (kb_of ke_X4_one 6 rfl) (kb_of ke_X4_one 7 rfl)
theorem dX4_one_8 : decode cX4_one 8 = .ok (.iconst 0, 1) := dqo_3 (kb_of ke_X4_one 8 rfl)
theorem dX4_one_9 : decode cX4_one 9 = .ok (.ireturn, 1) := dqo_172 (kb_of ke_X4_one 9 rfl)
set_option maxRecDepth 100000 in
set_option maxHeartbeats 4000000 in
theorem D_one {l : Launch} {D : va_G} {cy : Nat → ClassId} {X : (Nat → Prop) → State → Heap → Prop} {ba ra : Nat → Nat} {hf : Nat → Nat → Nat} {hq : Nat → Nat → Int32} {kn th : Int32} {sm : Int64} {Y : va_W} {b0 : Nat} (hX : EnvM X cy) (hb : b0 ≤ 1) : Cd l D cy X yX4_one cX4_one 1 (some .int) (rmz 0 0) [.int (nI b0)] (WM cy ba ra hf hq kn th sm ++ Y) (some (.int (nI b0))) (WM cy ba ra hf hq kn th sm ++ Y) := by
  refine Cm.of [some (.int (nI b0))] pn_X4 rfl (Nat.le_of_ble_eq_true rfl) ?_
  intro p e s m args below meth c A C hE hr hnt hn
  refine r_iload_n C dX4_one_0 rfl ?_
  refine r_ifN_eq (a := b0) (tgt := 8) C (by first | omega | (simp [up2, *]; done) | (simp [up2, *]; omega) | (simp only [up2_eq]; omega) | (split <;> omega)) dX4_one_1 (by decide) (fun h1_1 => ?_) (fun h1_1 => ?_)
  · first
    | exfalso; first | omega | contradiction
    | skip
      refine r_iconst (v := (nI 0)) C dX4_one_8 (by decide) ?_
      exact r_iret C hr dX4_one_9 ⟨by first | rw [show b0 = 0 by omega] | rw [show b0 = 1 by omega], rfl⟩ (Nat.le_of_ble_eq_true rfl) (Nat.le_of_ble_eq_true rfl)
  · first
    | exfalso; first | omega | contradiction
    | skip
      refine r_iconst (v := (nI 1)) C dX4_one_4 (by decide) ?_
      refine r_goto (tgt := 9) C dX4_one_5 (by decide) ?_
      exact r_iret C hr dX4_one_9 ⟨by first | rw [show b0 = 0 by omega] | rw [show b0 = 1 by omega], rfl⟩ (Nat.le_of_ble_eq_true rfl) (Nat.le_of_ble_eq_true rfl)
theorem pk_X4_isIn : PkS yX4_isIn cX4_isIn 3 (some .boolean) 3 := ⟨⟨qt_X4_isIn, qz_X4, qc_X4_isIn⟩, mh_X4.1, mh_X4.2, pd_19⟩
theorem dX4_isNoItem_0 : decode cX4_isNoItem 0 = .ok (.iload_n 0, 1) := dqo_26 (kb_of ke_X4_isNoItem 0 rfl)
theorem dX4_isNoItem_1 : decode cX4_isNoItem 1 = .ok (.bipush (-99), 2) := dqo_16 157 (by decide) (kb_of ke_X4_isNoItem 1 rfl) (kb_of ke_X4_isNoItem 2 rfl)
theorem dX4_isNoItem_3 : decode cX4_isNoItem 3 = .ok (.bipush 99, 2) := dqo_16 99 (by decide) (kb_of ke_X4_isNoItem 3 rfl) (kb_of ke_X4_isNoItem 4 rfl)
theorem dX4_isNoItem_5 : decode cX4_isNoItem 5 = .ok (.invokestatic 1, 3) := dqo_184 0 1 (kb_of ke_X4_isNoItem 5 rfl) (kb_of ke_X4_isNoItem 6 rfl) (kb_of ke_X4_isNoItem 7 rfl)
theorem dX4_isNoItem_8 : decode cX4_isNoItem 8 = .ok (.ifCond .ne 7, 3) := dqo_154 0 7 (by decide) (kb_of ke_X4_isNoItem 8 rfl) (kb_of ke_X4_isNoItem 9 rfl) (kb_of ke_X4_isNoItem 10 rfl)
theorem dX4_isNoItem_15 : decode cX4_isNoItem 15 = .ok (.iconst 0, 1) := dqo_3 (kb_of ke_X4_isNoItem 15 rfl)
theorem dX4_isNoItem_16 : decode cX4_isNoItem 16 = .ok (.ireturn, 1) := dqo_172 (kb_of ke_X4_isNoItem 16 rfl)
set_option maxRecDepth 100000 in
set_option maxHeartbeats 4000000 in
theorem D_isNoItem0 {l : Launch} {D : va_G} {cy : Nat → ClassId} {X : (Nat → Prop) → State → Heap → Prop} {ba ra : Nat → Nat} {hf : Nat → Nat → Nat} {hq : Nat → Nat → Int32} {kn th : Int32} {sm : Int64} {Y : va_W} {y : Int32} (hX : EnvM X cy) (ho : okI y) : Cd l D cy X yX4_isNoItem cX4_isNoItem 1 (some .boolean) (rmz 1 30) [.int y] (WM cy ba ra hf hq kn th sm ++ Y) (some (.int (nI 0))) (WM cy ba ra hf hq kn th sm ++ Y) := by
  refine Cm.of [some (.int y)] pn_X4 rfl (Nat.le_of_ble_eq_true rfl) ?_
  intro p e s m args below meth c A C hE hr hnt hn
  refine r_iload_n C dX4_isNoItem_0 rfl ?_
  refine r_bipush (v := (nI 4294967197)) C dX4_isNoItem_1 (by decide) ?_
  refine r_bipush (v := (nI 99)) C dX4_isNoItem_3 (by decide) ?_
  refine d_S (st := []) hX.1.stb C hE (D_isIn1 (ba := ba) (ra := ra) (hf := hf) (hq := hq) (kn := kn) (th := th) (sm := sm) (Y := Y) (x := (y)) (y := ((nI 4294967197))) (z := ((nI 99))) hX (Int32.not_lt.mp ho.1) (Int32.not_lt.mp ho.2)) pk_X4_isIn qm_X4_1 rfl rfl (Nat.le_of_ble_eq_true rfl) dX4_isNoItem_5 ⟨(Nat.le_of_ble_eq_true rfl), (Nat.le_of_ble_eq_true rfl)⟩ ⟨(Nat.le_of_ble_eq_true rfl), (Nat.le_of_ble_eq_true rfl)⟩ ?_
  refine r_w (w' := WM cy ba ra hf hq kn th sm ++ Y) rfl ?_
  refine r_ifN_ne (a := 1) (tgt := 15) C (by first | omega | (simp [up2, *]; done) | (simp [up2, *]; omega) | (simp only [up2_eq]; omega) | (split <;> omega)) dX4_isNoItem_8 (by decide) (fun h8_1 => ?_) (fun h8_1 => ?_)
  · skip
    refine r_iconst (v := (nI 0)) C dX4_isNoItem_15 (by decide) ?_
    exact r_zret C hr (by first | omega | (simp [up2, *]; done) | (simp [up2, *]; omega) | (simp only [up2_eq]; omega) | (split <;> omega)) dX4_isNoItem_16 ⟨rfl, rfl⟩ (Nat.le_of_ble_eq_true rfl) (Nat.le_of_ble_eq_true rfl)
  · exact absurd h8_1 (by first | omega | (simp [up2, *]; done) | (simp [up2, *]; omega) | (simp only [up2_eq]; omega) | (split <;> omega))
theorem dX4_isNoItem_11 : decode cX4_isNoItem 11 = .ok (.iconst 1, 1) := dqo_4 (kb_of ke_X4_isNoItem 11 rfl)
theorem dX4_isNoItem_12 : decode cX4_isNoItem 12 = .ok (.goto 4, 3) := dqo_167 0 4 (by decide) (kb_of ke_X4_isNoItem 12 rfl) (kb_of ke_X4_isNoItem 13 rfl) (kb_of ke_X4_isNoItem 14 rfl)
set_option maxRecDepth 100000 in
set_option maxHeartbeats 4000000 in
theorem D_isNoItem1 {l : Launch} {D : va_G} {cy : Nat → ClassId} {X : (Nat → Prop) → State → Heap → Prop} {ba ra : Nat → Nat} {hf : Nat → Nat → Nat} {hq : Nat → Nat → Int32} {kn th : Int32} {sm : Int64} {Y : va_W} {y : Int32} (hX : EnvM X cy) (ho : ¬ okI y) : Cd l D cy X yX4_isNoItem cX4_isNoItem 1 (some .boolean) (rmz 1 30) [.int y] (WM cy ba ra hf hq kn th sm ++ Y) (some (.int (nI 1))) (WM cy ba ra hf hq kn th sm ++ Y) := by
  refine Cm.of [some (.int y)] pn_X4 rfl (Nat.le_of_ble_eq_true rfl) ?_
  intro p e s m args below meth c A C hE hr hnt hn
  refine r_iload_n C dX4_isNoItem_0 rfl ?_
  refine r_bipush (v := (nI 4294967197)) C dX4_isNoItem_1 (by decide) ?_
  refine r_bipush (v := (nI 99)) C dX4_isNoItem_3 (by decide) ?_
  refine d_S (st := []) hX.1.stb C hE (D_isIn0 (ba := ba) (ra := ra) (hf := hf) (hq := hq) (kn := kn) (th := th) (sm := sm) (Y := Y) (x := (y)) (y := ((nI 4294967197))) (z := ((nI 99))) hX (fun z => ho ⟨Int32.not_lt.mpr z.1, Int32.not_lt.mpr z.2⟩)) pk_X4_isIn qm_X4_1 rfl rfl (Nat.le_of_ble_eq_true rfl) dX4_isNoItem_5 ⟨(Nat.le_of_ble_eq_true rfl), (Nat.le_of_ble_eq_true rfl)⟩ ⟨(Nat.le_of_ble_eq_true rfl), (Nat.le_of_ble_eq_true rfl)⟩ ?_
  refine r_w (w' := WM cy ba ra hf hq kn th sm ++ Y) rfl ?_
  refine r_ifN_ne (a := 0) (tgt := 15) C (by first | omega | (simp [up2, *]; done) | (simp [up2, *]; omega) | (simp only [up2_eq]; omega) | (split <;> omega)) dX4_isNoItem_8 (by decide) (fun h8_1 => ?_) (fun h8_1 => ?_)
  · exact absurd h8_1 (by first | omega | (simp [up2, *]; done) | (simp [up2, *]; omega) | (simp only [up2_eq]; omega) | (split <;> omega))
  · skip
    refine r_iconst (v := (nI 1)) C dX4_isNoItem_11 (by decide) ?_
    refine r_goto (tgt := 16) C dX4_isNoItem_12 (by decide) ?_
    exact r_zret C hr (by first | omega | (simp [up2, *]; done) | (simp [up2, *]; omega) | (simp only [up2_eq]; omega) | (split <;> omega)) dX4_isNoItem_16 ⟨rfl, rfl⟩ (Nat.le_of_ble_eq_true rfl) (Nat.le_of_ble_eq_true rfl)
theorem dX4_isNoRow_0 : decode cX4_isNoRow 0 = .ok (.iload_n 0, 1) := dqo_26 (kb_of ke_X4_isNoRow 0 rfl)
theorem dX4_isNoRow_1 : decode cX4_isNoRow 1 = .ok (.iconst 0, 1) := dqo_3 (kb_of ke_X4_isNoRow 1 rfl)
theorem dX4_isNoRow_2 : decode cX4_isNoRow 2 = .ok (.iconst 3, 1) := dqo_6 (kb_of ke_X4_isNoRow 2 rfl)
theorem dX4_isNoRow_3 : decode cX4_isNoRow 3 = .ok (.invokestatic 1, 3) := dqo_184 0 1 (kb_of ke_X4_isNoRow 3 rfl) (kb_of ke_X4_isNoRow 4 rfl) (kb_of ke_X4_isNoRow 5 rfl)
theorem dX4_isNoRow_6 : decode cX4_isNoRow 6 = .ok (.ifCond .ne 7, 3) := dqo_154 0 7 (by decide) (kb_of ke_X4_isNoRow 6 rfl) (kb_of ke_X4_isNoRow 7 rfl) (kb_of ke_X4_isNoRow 8 rfl)
theorem dX4_isNoRow_13 : decode cX4_isNoRow 13 = .ok (.iconst 0, 1) := dqo_3 (kb_of ke_X4_isNoRow 13 rfl)
theorem dX4_isNoRow_14 : decode cX4_isNoRow 14 = .ok (.ireturn, 1) := dqo_172 (kb_of ke_X4_isNoRow 14 rfl)
set_option maxRecDepth 100000 in
set_option maxHeartbeats 4000000 in
theorem D_isNoRow0 {l : Launch} {D : va_G} {cy : Nat → ClassId} {X : (Nat → Prop) → State → Heap → Prop} {ba ra : Nat → Nat} {hf : Nat → Nat → Nat} {hq : Nat → Nat → Int32} {kn th : Int32} {sm : Int64} {Y : va_W} {i : Nat} (hX : EnvM X cy) (hi : i < 4) : Cd l D cy X yX4_isNoRow cX4_isNoRow 1 (some .boolean) (rmz 1 30) [.int (nI i)] (WM cy ba ra hf hq kn th sm ++ Y) (some (.int (nI 0))) (WM cy ba ra hf hq kn th sm ++ Y) := by
  refine Cm.of [some (.int (nI i))] pn_X4 rfl (Nat.le_of_ble_eq_true rfl) ?_
  intro p e s m args below meth c A C hE hr hnt hn
  refine r_iload_n C dX4_isNoRow_0 rfl ?_
  refine r_iconst (v := (nI 0)) C dX4_isNoRow_1 (by decide) ?_
  refine r_iconst (v := (nI 3)) C dX4_isNoRow_2 (by decide) ?_
  refine d_S (st := []) hX.1.stb C hE (D_isInN (ba := ba) (ra := ra) (hf := hf) (hq := hq) (kn := kn) (th := th) (sm := sm) (Y := Y) (a0 := i) (b0 := 0) (d0 := 3) hX (by first | omega | (simp [up2, *]; done) | (simp [up2, *]; omega) | (simp only [up2_eq]; omega) | (split <;> omega)) (by first | omega | (simp [up2, *]; done) | (simp [up2, *]; omega) | (simp only [up2_eq]; omega) | (split <;> omega)) (by first | omega | (simp [up2, *]; done) | (simp [up2, *]; omega) | (simp only [up2_eq]; omega) | (split <;> omega))) pk_X4_isIn qm_X4_1 rfl rfl (Nat.le_of_ble_eq_true rfl) dX4_isNoRow_3 ⟨(Nat.le_of_ble_eq_true rfl), (Nat.le_of_ble_eq_true rfl)⟩ ⟨(Nat.le_of_ble_eq_true rfl), (Nat.le_of_ble_eq_true rfl)⟩ ?_
  refine r_w (w' := WM cy ba ra hf hq kn th sm ++ Y) rfl ?_
  refine r_ifN_ne (a := 1) (tgt := 13) C (by first | omega | (simp [up2, *]; done) | (simp [up2, *]; omega) | (simp only [up2_eq]; omega) | (split <;> omega)) dX4_isNoRow_6 (by decide) (fun h6_1 => ?_) (fun h6_1 => ?_)
  · skip
    refine r_iconst (v := (nI 0)) C dX4_isNoRow_13 (by decide) ?_
    exact r_zret C hr (by first | omega | (simp [up2, *]; done) | (simp [up2, *]; omega) | (simp only [up2_eq]; omega) | (split <;> omega)) dX4_isNoRow_14 ⟨rfl, rfl⟩ (Nat.le_of_ble_eq_true rfl) (Nat.le_of_ble_eq_true rfl)
  · exact absurd h6_1 (by first | omega | (simp [up2, *]; done) | (simp [up2, *]; omega) | (simp only [up2_eq]; omega) | (split <;> omega))
theorem dX4_isNoRow_9 : decode cX4_isNoRow 9 = .ok (.iconst 1, 1) := dqo_4 (kb_of ke_X4_isNoRow 9 rfl)
theorem dX4_isNoRow_10 : decode cX4_isNoRow 10 = .ok (.goto 4, 3) := dqo_167 0 4 (by decide) (kb_of ke_X4_isNoRow 10 rfl) (kb_of ke_X4_isNoRow 11 rfl) (kb_of ke_X4_isNoRow 12 rfl)
set_option maxRecDepth 100000 in
set_option maxHeartbeats 4000000 in
theorem D_isNoRow1 {l : Launch} {D : va_G} {cy : Nat → ClassId} {X : (Nat → Prop) → State → Heap → Prop} {ba ra : Nat → Nat} {hf : Nat → Nat → Nat} {hq : Nat → Nat → Int32} {kn th : Int32} {sm : Int64} {Y : va_W} {x : Int32} (hX : EnvM X cy) (hno : ¬ (0 ≤ x ∧ x < nI 4)) : Cd l D cy X yX4_isNoRow cX4_isNoRow 1 (some .boolean) (rmz 1 30) [.int x] (WM cy ba ra hf hq kn th sm ++ Y) (some (.int (nI 1))) (WM cy ba ra hf hq kn th sm ++ Y) := by
  refine Cm.of [some (.int x)] pn_X4 rfl (Nat.le_of_ble_eq_true rfl) ?_
  intro p e s m args below meth c A C hE hr hnt hn
  refine r_iload_n C dX4_isNoRow_0 rfl ?_
  refine r_iconst (v := (nI 0)) C dX4_isNoRow_1 (by decide) ?_
  refine r_iconst (v := (nI 3)) C dX4_isNoRow_2 (by decide) ?_
  refine d_S (st := []) hX.1.stb C hE (D_isIn0 (ba := ba) (ra := ra) (hf := hf) (hq := hq) (kn := kn) (th := th) (sm := sm) (Y := Y) (x := (x)) (y := ((nI 0))) (z := ((nI 3))) hX (fun z => hno ⟨z.1, Int32.lt_of_le_of_lt z.2 (by decide)⟩)) pk_X4_isIn qm_X4_1 rfl rfl (Nat.le_of_ble_eq_true rfl) dX4_isNoRow_3 ⟨(Nat.le_of_ble_eq_true rfl), (Nat.le_of_ble_eq_true rfl)⟩ ⟨(Nat.le_of_ble_eq_true rfl), (Nat.le_of_ble_eq_true rfl)⟩ ?_
  refine r_w (w' := WM cy ba ra hf hq kn th sm ++ Y) rfl ?_
  refine r_ifN_ne (a := 0) (tgt := 13) C (by first | omega | (simp [up2, *]; done) | (simp [up2, *]; omega) | (simp only [up2_eq]; omega) | (split <;> omega)) dX4_isNoRow_6 (by decide) (fun h6_1 => ?_) (fun h6_1 => ?_)
  · exact absurd h6_1 (by first | omega | (simp [up2, *]; done) | (simp [up2, *]; omega) | (simp only [up2_eq]; omega) | (split <;> omega))
  · skip
    refine r_iconst (v := (nI 1)) C dX4_isNoRow_9 (by decide) ?_
    refine r_goto (tgt := 14) C dX4_isNoRow_10 (by decide) ?_
    exact r_zret C hr (by first | omega | (simp [up2, *]; done) | (simp [up2, *]; omega) | (simp only [up2_eq]; omega) | (split <;> omega)) dX4_isNoRow_14 ⟨rfl, rfl⟩ (Nat.le_of_ble_eq_true rfl) (Nat.le_of_ble_eq_true rfl)
theorem dX4_isNoCursor_0 : decode cX4_isNoCursor 0 = .ok (.iload_n 0, 1) := dqo_26 (kb_of ke_X4_isNoCursor 0 rfl)
theorem dX4_isNoCursor_1 : decode cX4_isNoCursor 1 = .ok (.iconst 0, 1) := dqo_3 (kb_of ke_X4_isNoCursor 1 rfl)
theorem dX4_isNoCursor_2 : decode cX4_isNoCursor 2 = .ok (.iconst 2, 1) := dqo_5 (kb_of ke_X4_isNoCursor 2 rfl)
theorem dX4_isNoCursor_3 : decode cX4_isNoCursor 3 = .ok (.invokestatic 1, 3) := dqo_184 0 1 (kb_of ke_X4_isNoCursor 3 rfl) (kb_of ke_X4_isNoCursor 4 rfl) (kb_of ke_X4_isNoCursor 5 rfl)
theorem dX4_isNoCursor_6 : decode cX4_isNoCursor 6 = .ok (.ifCond .ne 7, 3) := dqo_154 0 7 (by decide) (kb_of ke_X4_isNoCursor 6 rfl) (kb_of ke_X4_isNoCursor 7 rfl) (kb_of ke_X4_isNoCursor 8 rfl)
theorem dX4_isNoCursor_13 : decode cX4_isNoCursor 13 = .ok (.iconst 0, 1) := dqo_3 (kb_of ke_X4_isNoCursor 13 rfl)
theorem dX4_isNoCursor_14 : decode cX4_isNoCursor 14 = .ok (.ireturn, 1) := dqo_172 (kb_of ke_X4_isNoCursor 14 rfl)
set_option maxRecDepth 100000 in
set_option maxHeartbeats 4000000 in
theorem D_isNoCursor0 {l : Launch} {D : va_G} {cy : Nat → ClassId} {X : (Nat → Prop) → State → Heap → Prop} {ba ra : Nat → Nat} {hf : Nat → Nat → Nat} {hq : Nat → Nat → Int32} {kn th : Int32} {sm : Int64} {Y : va_W} {i : Nat} (hX : EnvM X cy) (hi : i < 3) : Cd l D cy X yX4_isNoCursor cX4_isNoCursor 1 (some .boolean) (rmz 1 30) [.int (nI i)] (WM cy ba ra hf hq kn th sm ++ Y) (some (.int (nI 0))) (WM cy ba ra hf hq kn th sm ++ Y) := by
  refine Cm.of [some (.int (nI i))] pn_X4 rfl (Nat.le_of_ble_eq_true rfl) ?_
  intro p e s m args below meth c A C hE hr hnt hn
  refine r_iload_n C dX4_isNoCursor_0 rfl ?_
  refine r_iconst (v := (nI 0)) C dX4_isNoCursor_1 (by decide) ?_
  refine r_iconst (v := (nI 2)) C dX4_isNoCursor_2 (by decide) ?_
  refine d_S (st := []) hX.1.stb C hE (D_isInN (ba := ba) (ra := ra) (hf := hf) (hq := hq) (kn := kn) (th := th) (sm := sm) (Y := Y) (a0 := i) (b0 := 0) (d0 := 2) hX (by first | omega | (simp [up2, *]; done) | (simp [up2, *]; omega) | (simp only [up2_eq]; omega) | (split <;> omega)) (by first | omega | (simp [up2, *]; done) | (simp [up2, *]; omega) | (simp only [up2_eq]; omega) | (split <;> omega)) (by first | omega | (simp [up2, *]; done) | (simp [up2, *]; omega) | (simp only [up2_eq]; omega) | (split <;> omega))) pk_X4_isIn qm_X4_1 rfl rfl (Nat.le_of_ble_eq_true rfl) dX4_isNoCursor_3 ⟨(Nat.le_of_ble_eq_true rfl), (Nat.le_of_ble_eq_true rfl)⟩ ⟨(Nat.le_of_ble_eq_true rfl), (Nat.le_of_ble_eq_true rfl)⟩ ?_
  refine r_w (w' := WM cy ba ra hf hq kn th sm ++ Y) rfl ?_
  refine r_ifN_ne (a := 1) (tgt := 13) C (by first | omega | (simp [up2, *]; done) | (simp [up2, *]; omega) | (simp only [up2_eq]; omega) | (split <;> omega)) dX4_isNoCursor_6 (by decide) (fun h6_1 => ?_) (fun h6_1 => ?_)
  · skip
    refine r_iconst (v := (nI 0)) C dX4_isNoCursor_13 (by decide) ?_
    exact r_zret C hr (by first | omega | (simp [up2, *]; done) | (simp [up2, *]; omega) | (simp only [up2_eq]; omega) | (split <;> omega)) dX4_isNoCursor_14 ⟨rfl, rfl⟩ (Nat.le_of_ble_eq_true rfl) (Nat.le_of_ble_eq_true rfl)
  · exact absurd h6_1 (by first | omega | (simp [up2, *]; done) | (simp [up2, *]; omega) | (simp only [up2_eq]; omega) | (split <;> omega))
theorem dX4_isNoCursor_9 : decode cX4_isNoCursor 9 = .ok (.iconst 1, 1) := dqo_4 (kb_of ke_X4_isNoCursor 9 rfl)
theorem dX4_isNoCursor_10 : decode cX4_isNoCursor 10 = .ok (.goto 4, 3) := dqo_167 0 4 (by decide) (kb_of ke_X4_isNoCursor 10 rfl) (kb_of ke_X4_isNoCursor 11 rfl) (kb_of ke_X4_isNoCursor 12 rfl)
set_option maxRecDepth 100000 in
set_option maxHeartbeats 4000000 in
theorem D_isNoCursor1 {l : Launch} {D : va_G} {cy : Nat → ClassId} {X : (Nat → Prop) → State → Heap → Prop} {ba ra : Nat → Nat} {hf : Nat → Nat → Nat} {hq : Nat → Nat → Int32} {kn th : Int32} {sm : Int64} {Y : va_W} {x : Int32} (hX : EnvM X cy) (hno : ¬ (0 ≤ x ∧ x < nI 3)) : Cd l D cy X yX4_isNoCursor cX4_isNoCursor 1 (some .boolean) (rmz 1 30) [.int x] (WM cy ba ra hf hq kn th sm ++ Y) (some (.int (nI 1))) (WM cy ba ra hf hq kn th sm ++ Y) := by
  refine Cm.of [some (.int x)] pn_X4 rfl (Nat.le_of_ble_eq_true rfl) ?_
  intro p e s m args below meth c A C hE hr hnt hn
  refine r_iload_n C dX4_isNoCursor_0 rfl ?_
  refine r_iconst (v := (nI 0)) C dX4_isNoCursor_1 (by decide) ?_
  refine r_iconst (v := (nI 2)) C dX4_isNoCursor_2 (by decide) ?_
  refine d_S (st := []) hX.1.stb C hE (D_isIn0 (ba := ba) (ra := ra) (hf := hf) (hq := hq) (kn := kn) (th := th) (sm := sm) (Y := Y) (x := (x)) (y := ((nI 0))) (z := ((nI 2))) hX (fun z => hno ⟨z.1, Int32.lt_of_le_of_lt z.2 (by decide)⟩)) pk_X4_isIn qm_X4_1 rfl rfl (Nat.le_of_ble_eq_true rfl) dX4_isNoCursor_3 ⟨(Nat.le_of_ble_eq_true rfl), (Nat.le_of_ble_eq_true rfl)⟩ ⟨(Nat.le_of_ble_eq_true rfl), (Nat.le_of_ble_eq_true rfl)⟩ ?_
  refine r_w (w' := WM cy ba ra hf hq kn th sm ++ Y) rfl ?_
  refine r_ifN_ne (a := 0) (tgt := 13) C (by first | omega | (simp [up2, *]; done) | (simp [up2, *]; omega) | (simp only [up2_eq]; omega) | (split <;> omega)) dX4_isNoCursor_6 (by decide) (fun h6_1 => ?_) (fun h6_1 => ?_)
  · exact absurd h6_1 (by first | omega | (simp [up2, *]; done) | (simp [up2, *]; omega) | (simp only [up2_eq]; omega) | (split <;> omega))
  · skip
    refine r_iconst (v := (nI 1)) C dX4_isNoCursor_9 (by decide) ?_
    refine r_goto (tgt := 14) C dX4_isNoCursor_10 (by decide) ?_
    exact r_zret C hr (by first | omega | (simp [up2, *]; done) | (simp [up2, *]; omega) | (simp only [up2_eq]; omega) | (split <;> omega)) dX4_isNoCursor_14 ⟨rfl, rfl⟩ (Nat.le_of_ble_eq_true rfl) (Nat.le_of_ble_eq_true rfl)
theorem dX4_fails_0 : decode cX4_fails 0 = .ok (.aload_n 0, 1) := dqo_42 (kb_of ke_X4_fails 0 rfl)
theorem dX4_fails_1 : decode cX4_fails 1 = .ok (.iload_n 1, 1) := dqo_27 (kb_of ke_X4_fails 1 rfl)
theorem dX4_fails_2 : decode cX4_fails 2 = .ok (.ifCond .eq 7, 3) := dqo_153 0 7 (by decide) (kb_of ke_X4_fails 2 rfl) (kb_of ke_X4_fails 3 rfl) (kb_of ke_X4_fails 4 rfl)
theorem dX4_fails_5 : decode cX4_fails 5 = .ok (.iconst 1, 1) := dqo_4 (kb_of ke_X4_fails 5 rfl)
theorem dX4_fails_6 : decode cX4_fails 6 = .ok (.goto 20, 3) := dqo_167 0 20 (by decide) (kb_of ke_X4_fails 6 rfl) (kb_of ke_X4_fails 7 rfl) (kb_of ke_X4_fails 8 rfl)
theorem dX4_fails_26 : decode cX4_fails 26 = .ok (.putfield 44, 3) := dqo_181 0 44 (kb_of ke_X4_fails 26 rfl) (kb_of ke_X4_fails 27 rfl) (kb_of ke_X4_fails 28 rfl)
theorem dX4_fails_29 : decode cX4_fails 29 = .ok (.aload_n 0, 1) := dqo_42 (kb_of ke_X4_fails 29 rfl)
theorem dX4_fails_30 : decode cX4_fails 30 = .ok (.getfield 44, 3) := dqo_180 0 44 (kb_of ke_X4_fails 30 rfl) (kb_of ke_X4_fails 31 rfl) (kb_of ke_X4_fails 32 rfl)
theorem dX4_fails_33 : decode cX4_fails 33 = .ok (.ifCond .le 7, 3) := dqo_158 0 7 (by decide) (kb_of ke_X4_fails 33 rfl) (kb_of ke_X4_fails 34 rfl) (kb_of ke_X4_fails 35 rfl)
theorem dX4_fails_36 : decode cX4_fails 36 = .ok (.iconst 1, 1) := dqo_4 (kb_of ke_X4_fails 36 rfl)
theorem dX4_fails_37 : decode cX4_fails 37 = .ok (.goto 4, 3) := dqo_167 0 4 (by decide) (kb_of ke_X4_fails 37 rfl) (kb_of ke_X4_fails 38 rfl) (kb_of ke_X4_fails 39 rfl)
theorem dX4_fails_41 : decode cX4_fails 41 = .ok (.ireturn, 1) := dqo_172 (kb_of ke_X4_fails 41 rfl)
set_option maxRecDepth 100000 in
set_option maxHeartbeats 4000000 in
theorem D_fails1 {l : Launch} {D : va_G} {cy : Nat → ClassId} {X : (Nat → Prop) → State → Heap → Prop} {ba ra : Nat → Nat} {hf : Nat → Nat → Nat} {hq : Nat → Nat → Int32} {kn th : Int32} {sm : Int64} {Y : va_W} {b0 : Nat} {d0 : Nat} (hX : EnvM X cy)  : Cd l D cy X yX4_fails cX4_fails 4 (some .boolean) (rmz 0 0) [.ref (ba 9), .int (nI 1), .int (nI b0), .int (nI d0)] (WM cy ba ra hf hq kn th sm ++ Y) (some (.int (nI 1))) (WM cy ba ra hf hq kn (nI 1) sm ++ Y) := by
  refine Cm.of [some (.ref (ba 9)), some (.int (nI 1)), some (.int (nI b0)), some (.int (nI d0))] pn_X4 rfl (Nat.le_of_ble_eq_true rfl) ?_
  intro p e s m args below meth c A C hE hr hnt hn
  refine r_aload_n C dX4_fails_0 rfl ?_
  refine r_iload_n C dX4_fails_1 rfl ?_
  refine r_ifN_eq (a := 1) (tgt := 9) C (by first | omega | (simp [up2, *]; done) | (simp [up2, *]; omega) | (simp only [up2_eq]; omega) | (split <;> omega)) dX4_fails_2 (by decide) (fun h2_1 => ?_) (fun h2_1 => ?_)
  · exact absurd h2_1 (by first | omega | (simp [up2, *]; done) | (simp [up2, *]; omega) | (simp only [up2_eq]; omega) | (split <;> omega))
  · skip
    refine r_iconst (v := (nI 1)) C dX4_fails_5 (by decide) ?_
    refine r_goto (tgt := 26) C dX4_fails_6 (by decide) ?_
    refine m_putT C qf_X4_44 dX4_fails_26 ?_
    refine r_aload_n C dX4_fails_29 rfl ?_
    refine m_get (v := .int (nI 1)) C 10 (by decide) qf_X4_44 rfl rfl dX4_fails_30 ?_
    refine r_ifN_le (a := 1) (tgt := 40) C (by first | omega | (simp [up2, *]; done) | (simp [up2, *]; omega) | (simp only [up2_eq]; omega) | (split <;> omega)) dX4_fails_33 (by decide) (fun h33_2 => ?_) (fun h33_2 => ?_)
    · exact absurd h33_2 (by first | omega | (simp [up2, *]; done) | (simp [up2, *]; omega) | (simp only [up2_eq]; omega) | (split <;> omega))
    · skip
      refine r_iconst (v := (nI 1)) C dX4_fails_36 (by decide) ?_
      refine r_goto (tgt := 41) C dX4_fails_37 (by decide) ?_
      exact r_zret C hr (by first | omega | (simp [up2, *]; done) | (simp [up2, *]; omega) | (simp only [up2_eq]; omega) | (split <;> omega)) dX4_fails_41 ⟨rfl, rfl⟩ (Nat.le_of_ble_eq_true rfl) (Nat.le_of_ble_eq_true rfl)
theorem dX4_fails_9 : decode cX4_fails 9 = .ok (.iload_n 2, 1) := dqo_28 (kb_of ke_X4_fails 9 rfl)
theorem dX4_fails_10 : decode cX4_fails 10 = .ok (.ifCond .eq 7, 3) := dqo_153 0 7 (by decide) (kb_of ke_X4_fails 10 rfl) (kb_of ke_X4_fails 11 rfl) (kb_of ke_X4_fails 12 rfl)
theorem dX4_fails_13 : decode cX4_fails 13 = .ok (.iconst 2, 1) := dqo_5 (kb_of ke_X4_fails 13 rfl)
theorem dX4_fails_14 : decode cX4_fails 14 = .ok (.goto 12, 3) := dqo_167 0 12 (by decide) (kb_of ke_X4_fails 14 rfl) (kb_of ke_X4_fails 15 rfl) (kb_of ke_X4_fails 16 rfl)
set_option maxRecDepth 100000 in
set_option maxHeartbeats 4000000 in
theorem D_fails2 {l : Launch} {D : va_G} {cy : Nat → ClassId} {X : (Nat → Prop) → State → Heap → Prop} {ba ra : Nat → Nat} {hf : Nat → Nat → Nat} {hq : Nat → Nat → Int32} {kn th : Int32} {sm : Int64} {Y : va_W} {d0 : Nat} (hX : EnvM X cy)  : Cd l D cy X yX4_fails cX4_fails 4 (some .boolean) (rmz 0 0) [.ref (ba 9), .int (nI 0), .int (nI 1), .int (nI d0)] (WM cy ba ra hf hq kn th sm ++ Y) (some (.int (nI 1))) (WM cy ba ra hf hq kn (nI 2) sm ++ Y) := by
  refine Cm.of [some (.ref (ba 9)), some (.int (nI 0)), some (.int (nI 1)), some (.int (nI d0))] pn_X4 rfl (Nat.le_of_ble_eq_true rfl) ?_
  intro p e s m args below meth c A C hE hr hnt hn
  refine r_aload_n C dX4_fails_0 rfl ?_
  refine r_iload_n C dX4_fails_1 rfl ?_
  refine r_ifN_eq (a := 0) (tgt := 9) C (by first | omega | (simp [up2, *]; done) | (simp [up2, *]; omega) | (simp only [up2_eq]; omega) | (split <;> omega)) dX4_fails_2 (by decide) (fun h2_1 => ?_) (fun h2_1 => ?_)
  · skip
    refine r_iload_n C dX4_fails_9 rfl ?_
    refine r_ifN_eq (a := 1) (tgt := 17) C (by first | omega | (simp [up2, *]; done) | (simp [up2, *]; omega) | (simp only [up2_eq]; omega) | (split <;> omega)) dX4_fails_10 (by decide) (fun h10_2 => ?_) (fun h10_2 => ?_)
    · exact absurd h10_2 (by first | omega | (simp [up2, *]; done) | (simp [up2, *]; omega) | (simp only [up2_eq]; omega) | (split <;> omega))
    · skip
      refine r_iconst (v := (nI 2)) C dX4_fails_13 (by decide) ?_
      refine r_goto (tgt := 26) C dX4_fails_14 (by decide) ?_
      refine m_putT C qf_X4_44 dX4_fails_26 ?_
      refine r_aload_n C dX4_fails_29 rfl ?_
      refine m_get (v := .int (nI 2)) C 10 (by decide) qf_X4_44 rfl rfl dX4_fails_30 ?_
      refine r_ifN_le (a := 2) (tgt := 40) C (by first | omega | (simp [up2, *]; done) | (simp [up2, *]; omega) | (simp only [up2_eq]; omega) | (split <;> omega)) dX4_fails_33 (by decide) (fun h33_3 => ?_) (fun h33_3 => ?_)
      · exact absurd h33_3 (by first | omega | (simp [up2, *]; done) | (simp [up2, *]; omega) | (simp only [up2_eq]; omega) | (split <;> omega))
      · skip
        refine r_iconst (v := (nI 1)) C dX4_fails_36 (by decide) ?_
        refine r_goto (tgt := 41) C dX4_fails_37 (by decide) ?_
        exact r_zret C hr (by first | omega | (simp [up2, *]; done) | (simp [up2, *]; omega) | (simp only [up2_eq]; omega) | (split <;> omega)) dX4_fails_41 ⟨rfl, rfl⟩ (Nat.le_of_ble_eq_true rfl) (Nat.le_of_ble_eq_true rfl)
  · exact absurd h2_1 (by first | omega | (simp [up2, *]; done) | (simp [up2, *]; omega) | (simp only [up2_eq]; omega) | (split <;> omega))
theorem dX4_fails_17 : decode cX4_fails 17 = .ok (.iload_n 3, 1) := dqo_29 (kb_of ke_X4_fails 17 rfl)
theorem dX4_fails_18 : decode cX4_fails 18 = .ok (.ifCond .eq 7, 3) := dqo_153 0 7 (by decide) (kb_of ke_X4_fails 18 rfl) (kb_of ke_X4_fails 19 rfl) (kb_of ke_X4_fails 20 rfl)
theorem dX4_fails_21 : decode cX4_fails 21 = .ok (.iconst 3, 1) := dqo_6 (kb_of ke_X4_fails 21 rfl)
theorem dX4_fails_22 : decode cX4_fails 22 = .ok (.goto 4, 3) := dqo_167 0 4 (by decide) (kb_of ke_X4_fails 22 rfl) (kb_of ke_X4_fails 23 rfl) (kb_of ke_X4_fails 24 rfl)
set_option maxRecDepth 100000 in
set_option maxHeartbeats 4000000 in
theorem D_fails3 {l : Launch} {D : va_G} {cy : Nat → ClassId} {X : (Nat → Prop) → State → Heap → Prop} {ba ra : Nat → Nat} {hf : Nat → Nat → Nat} {hq : Nat → Nat → Int32} {kn th : Int32} {sm : Int64} {Y : va_W}  (hX : EnvM X cy)  : Cd l D cy X yX4_fails cX4_fails 4 (some .boolean) (rmz 0 0) [.ref (ba 9), .int (nI 0), .int (nI 0), .int (nI 1)] (WM cy ba ra hf hq kn th sm ++ Y) (some (.int (nI 1))) (WM cy ba ra hf hq kn (nI 3) sm ++ Y) := by
  refine Cm.of [some (.ref (ba 9)), some (.int (nI 0)), some (.int (nI 0)), some (.int (nI 1))] pn_X4 rfl (Nat.le_of_ble_eq_true rfl) ?_
  intro p e s m args below meth c A C hE hr hnt hn
  refine r_aload_n C dX4_fails_0 rfl ?_
  refine r_iload_n C dX4_fails_1 rfl ?_
  refine r_ifN_eq (a := 0) (tgt := 9) C (by first | omega | (simp [up2, *]; done) | (simp [up2, *]; omega) | (simp only [up2_eq]; omega) | (split <;> omega)) dX4_fails_2 (by decide) (fun h2_1 => ?_) (fun h2_1 => ?_)
  · skip
    refine r_iload_n C dX4_fails_9 rfl ?_
    refine r_ifN_eq (a := 0) (tgt := 17) C (by first | omega | (simp [up2, *]; done) | (simp [up2, *]; omega) | (simp only [up2_eq]; omega) | (split <;> omega)) dX4_fails_10 (by decide) (fun h10_2 => ?_) (fun h10_2 => ?_)
    · skip
      refine r_iload_n C dX4_fails_17 rfl ?_
      refine r_ifN_eq (a := 1) (tgt := 25) C (by first | omega | (simp [up2, *]; done) | (simp [up2, *]; omega) | (simp only [up2_eq]; omega) | (split <;> omega)) dX4_fails_18 (by decide) (fun h18_3 => ?_) (fun h18_3 => ?_)
      · exact absurd h18_3 (by first | omega | (simp [up2, *]; done) | (simp [up2, *]; omega) | (simp only [up2_eq]; omega) | (split <;> omega))
      · skip
        refine r_iconst (v := (nI 3)) C dX4_fails_21 (by decide) ?_
        refine r_goto (tgt := 26) C dX4_fails_22 (by decide) ?_
        refine m_putT C qf_X4_44 dX4_fails_26 ?_
        refine r_aload_n C dX4_fails_29 rfl ?_
        refine m_get (v := .int (nI 3)) C 10 (by decide) qf_X4_44 rfl rfl dX4_fails_30 ?_
        refine r_ifN_le (a := 3) (tgt := 40) C (by first | omega | (simp [up2, *]; done) | (simp [up2, *]; omega) | (simp only [up2_eq]; omega) | (split <;> omega)) dX4_fails_33 (by decide) (fun h33_4 => ?_) (fun h33_4 => ?_)
        · exact absurd h33_4 (by first | omega | (simp [up2, *]; done) | (simp [up2, *]; omega) | (simp only [up2_eq]; omega) | (split <;> omega))
        · skip
          refine r_iconst (v := (nI 1)) C dX4_fails_36 (by decide) ?_
          refine r_goto (tgt := 41) C dX4_fails_37 (by decide) ?_
          exact r_zret C hr (by first | omega | (simp [up2, *]; done) | (simp [up2, *]; omega) | (simp only [up2_eq]; omega) | (split <;> omega)) dX4_fails_41 ⟨rfl, rfl⟩ (Nat.le_of_ble_eq_true rfl) (Nat.le_of_ble_eq_true rfl)
    · exact absurd h10_2 (by first | omega | (simp [up2, *]; done) | (simp [up2, *]; omega) | (simp only [up2_eq]; omega) | (split <;> omega))
  · exact absurd h2_1 (by first | omega | (simp [up2, *]; done) | (simp [up2, *]; omega) | (simp only [up2_eq]; omega) | (split <;> omega))
theorem dX4_fails_25 : decode cX4_fails 25 = .ok (.iconst 0, 1) := dqo_3 (kb_of ke_X4_fails 25 rfl)
theorem dX4_fails_40 : decode cX4_fails 40 = .ok (.iconst 0, 1) := dqo_3 (kb_of ke_X4_fails 40 rfl)
set_option maxRecDepth 100000 in
set_option maxHeartbeats 4000000 in
theorem D_fails0 {l : Launch} {D : va_G} {cy : Nat → ClassId} {X : (Nat → Prop) → State → Heap → Prop} {ba ra : Nat → Nat} {hf : Nat → Nat → Nat} {hq : Nat → Nat → Int32} {kn th : Int32} {sm : Int64} {Y : va_W}  (hX : EnvM X cy)  : Cd l D cy X yX4_fails cX4_fails 4 (some .boolean) (rmz 0 0) [.ref (ba 9), .int (nI 0), .int (nI 0), .int (nI 0)] (WM cy ba ra hf hq kn th sm ++ Y) (some (.int (nI 0))) (WM cy ba ra hf hq kn (nI 0) sm ++ Y) := by
  refine Cm.of [some (.ref (ba 9)), some (.int (nI 0)), some (.int (nI 0)), some (.int (nI 0))] pn_X4 rfl (Nat.le_of_ble_eq_true rfl) ?_
  intro p e s m args below meth c A C hE hr hnt hn
  refine r_aload_n C dX4_fails_0 rfl ?_
  refine r_iload_n C dX4_fails_1 rfl ?_
  refine r_ifN_eq (a := 0) (tgt := 9) C (by first | omega | (simp [up2, *]; done) | (simp [up2, *]; omega) | (simp only [up2_eq]; omega) | (split <;> omega)) dX4_fails_2 (by decide) (fun h2_1 => ?_) (fun h2_1 => ?_)
  · skip
    refine r_iload_n C dX4_fails_9 rfl ?_
    refine r_ifN_eq (a := 0) (tgt := 17) C (by first | omega | (simp [up2, *]; done) | (simp [up2, *]; omega) | (simp only [up2_eq]; omega) | (split <;> omega)) dX4_fails_10 (by decide) (fun h10_2 => ?_) (fun h10_2 => ?_)
    · skip
      refine r_iload_n C dX4_fails_17 rfl ?_
      refine r_ifN_eq (a := 0) (tgt := 25) C (by first | omega | (simp [up2, *]; done) | (simp [up2, *]; omega) | (simp only [up2_eq]; omega) | (split <;> omega)) dX4_fails_18 (by decide) (fun h18_3 => ?_) (fun h18_3 => ?_)
      · skip
        refine r_iconst (v := (nI 0)) C dX4_fails_25 (by decide) ?_
        refine m_putT C qf_X4_44 dX4_fails_26 ?_
        refine r_aload_n C dX4_fails_29 rfl ?_
        refine m_get (v := .int (nI 0)) C 10 (by decide) qf_X4_44 rfl rfl dX4_fails_30 ?_
        refine r_ifN_le (a := 0) (tgt := 40) C (by first | omega | (simp [up2, *]; done) | (simp [up2, *]; omega) | (simp only [up2_eq]; omega) | (split <;> omega)) dX4_fails_33 (by decide) (fun h33_4 => ?_) (fun h33_4 => ?_)
        · skip
          refine r_iconst (v := (nI 0)) C dX4_fails_40 (by decide) ?_
          exact r_zret C hr (by first | omega | (simp [up2, *]; done) | (simp [up2, *]; omega) | (simp only [up2_eq]; omega) | (split <;> omega)) dX4_fails_41 ⟨rfl, rfl⟩ (Nat.le_of_ble_eq_true rfl) (Nat.le_of_ble_eq_true rfl)
        · exact absurd h33_4 (by first | omega | (simp [up2, *]; done) | (simp [up2, *]; omega) | (simp only [up2_eq]; omega) | (split <;> omega))
      · exact absurd h18_3 (by first | omega | (simp [up2, *]; done) | (simp [up2, *]; omega) | (simp only [up2_eq]; omega) | (split <;> omega))
    · exact absurd h10_2 (by first | omega | (simp [up2, *]; done) | (simp [up2, *]; omega) | (simp only [up2_eq]; omega) | (split <;> omega))
  · exact absurd h2_1 (by first | omega | (simp [up2, *]; done) | (simp [up2, *]; omega) | (simp only [up2_eq]; omega) | (split <;> omega))
theorem dX4_isNoWhere_0 : decode cX4_isNoWhere 0 = .ok (.iload_n 1, 1) := dqo_27 (kb_of ke_X4_isNoWhere 0 rfl)
theorem dX4_isNoWhere_1 : decode cX4_isNoWhere 1 = .ok (.iconst 0, 1) := dqo_3 (kb_of ke_X4_isNoWhere 1 rfl)
theorem dX4_isNoWhere_2 : decode cX4_isNoWhere 2 = .ok (.bipush 7, 2) := dqo_16 7 (by decide) (kb_of ke_X4_isNoWhere 2 rfl) (kb_of ke_X4_isNoWhere 3 rfl)
theorem dX4_isNoWhere_4 : decode cX4_isNoWhere 4 = .ok (.invokestatic 1, 3) := dqo_184 0 1 (kb_of ke_X4_isNoWhere 4 rfl) (kb_of ke_X4_isNoWhere 5 rfl) (kb_of ke_X4_isNoWhere 6 rfl)
theorem dX4_isNoWhere_7 : decode cX4_isNoWhere 7 = .ok (.ifCond .eq 19, 3) := dqo_153 0 19 (by decide) (kb_of ke_X4_isNoWhere 7 rfl) (kb_of ke_X4_isNoWhere 8 rfl) (kb_of ke_X4_isNoWhere 9 rfl)
theorem dX4_isNoWhere_10 : decode cX4_isNoWhere 10 = .ok (.iload_n 1, 1) := dqo_27 (kb_of ke_X4_isNoWhere 10 rfl)
theorem dX4_isNoWhere_11 : decode cX4_isNoWhere 11 = .ok (.iconst 3, 1) := dqo_6 (kb_of ke_X4_isNoWhere 11 rfl)
theorem dX4_isNoWhere_12 : decode cX4_isNoWhere 12 = .ok (.if_icmp .le 18, 3) := dqo_164 0 18 (by decide) (kb_of ke_X4_isNoWhere 12 rfl) (kb_of ke_X4_isNoWhere 13 rfl) (kb_of ke_X4_isNoWhere 14 rfl)
theorem dX4_isNoWhere_15 : decode cX4_isNoWhere 15 = .ok (.aload_n 0, 1) := dqo_42 (kb_of ke_X4_isNoWhere 15 rfl)
theorem dX4_isNoWhere_16 : decode cX4_isNoWhere 16 = .ok (.getfield 18, 3) := dqo_180 0 18 (kb_of ke_X4_isNoWhere 16 rfl) (kb_of ke_X4_isNoWhere 17 rfl) (kb_of ke_X4_isNoWhere 18 rfl)
theorem dX4_isNoWhere_19 : decode cX4_isNoWhere 19 = .ok (.iload_n 1, 1) := dqo_27 (kb_of ke_X4_isNoWhere 19 rfl)
theorem dX4_isNoWhere_20 : decode cX4_isNoWhere 20 = .ok (.iconst 4, 1) := dqo_7 (kb_of ke_X4_isNoWhere 20 rfl)
theorem dX4_isNoWhere_21 : decode cX4_isNoWhere 21 = .ok (.isub, 1) := dqo_100 (kb_of ke_X4_isNoWhere 21 rfl)
theorem dX4_isNoWhere_22 : decode cX4_isNoWhere 22 = .ok (.baload, 1) := dqo_51 (kb_of ke_X4_isNoWhere 22 rfl)
theorem dX4_isNoWhere_23 : decode cX4_isNoWhere 23 = .ok (.ifCond .ne 7, 3) := dqo_154 0 7 (by decide) (kb_of ke_X4_isNoWhere 23 rfl) (kb_of ke_X4_isNoWhere 24 rfl) (kb_of ke_X4_isNoWhere 25 rfl)
theorem dX4_isNoWhere_30 : decode cX4_isNoWhere 30 = .ok (.iconst 0, 1) := dqo_3 (kb_of ke_X4_isNoWhere 30 rfl)
theorem dX4_isNoWhere_31 : decode cX4_isNoWhere 31 = .ok (.ireturn, 1) := dqo_172 (kb_of ke_X4_isNoWhere 31 rfl)
set_option maxRecDepth 100000 in
set_option maxHeartbeats 4000000 in
theorem D_isNoWhere0 {l : Launch} {D : va_G} {cy : Nat → ClassId} {X : (Nat → Prop) → State → Heap → Prop} {ba ra : Nat → Nat} {hf : Nat → Nat → Nat} {hq : Nat → Nat → Int32} {kn th : Int32} {sm : Int64} {Y : va_W} {w : Nat} (hX : EnvM X cy) (hw : w < 8) (h5w : 4 ≤ w → hf 5 w = 1) : Cd l D cy X yX4_isNoWhere cX4_isNoWhere 2 (some .boolean) (rmz 1 30) [.ref (ba 9), .int (nI w)] (WM cy ba ra hf hq kn th sm ++ Y) (some (.int (nI 0))) (WM cy ba ra hf hq kn th sm ++ Y) := by
  refine Cm.of [some (.ref (ba 9)), some (.int (nI w))] pn_X4 rfl (Nat.le_of_ble_eq_true rfl) ?_
  intro p e s m args below meth c A C hE hr hnt hn
  refine r_iload_n C dX4_isNoWhere_0 rfl ?_
  refine r_iconst (v := (nI 0)) C dX4_isNoWhere_1 (by decide) ?_
  refine r_bipush (v := (nI 7)) C dX4_isNoWhere_2 (by decide) ?_
  refine d_S (st := []) hX.1.stb C hE (D_isInN (ba := ba) (ra := ra) (hf := hf) (hq := hq) (kn := kn) (th := th) (sm := sm) (Y := Y) (a0 := w) (b0 := 0) (d0 := 7) hX (by first | omega | (simp [up2, *]; done) | (simp [up2, *]; omega) | (simp only [up2_eq]; omega) | (split <;> omega)) (by first | omega | (simp [up2, *]; done) | (simp [up2, *]; omega) | (simp only [up2_eq]; omega) | (split <;> omega)) (by first | omega | (simp [up2, *]; done) | (simp [up2, *]; omega) | (simp only [up2_eq]; omega) | (split <;> omega))) pk_X4_isIn qm_X4_1 rfl rfl (Nat.le_of_ble_eq_true rfl) dX4_isNoWhere_4 ⟨(Nat.le_of_ble_eq_true rfl), (Nat.le_of_ble_eq_true rfl)⟩ ⟨(Nat.le_of_ble_eq_true rfl), (Nat.le_of_ble_eq_true rfl)⟩ ?_
  refine r_w (w' := WM cy ba ra hf hq kn th sm ++ Y) rfl ?_
  refine r_ifN_eq (a := 1) (tgt := 26) C (by first | omega | (simp [up2, *]; done) | (simp [up2, *]; omega) | (simp only [up2_eq]; omega) | (split <;> omega)) dX4_isNoWhere_7 (by decide) (fun h7_1 => ?_) (fun h7_1 => ?_)
  · exact absurd h7_1 (by first | omega | (simp [up2, *]; done) | (simp [up2, *]; omega) | (simp only [up2_eq]; omega) | (split <;> omega))
  · skip
    refine r_iload_n C dX4_isNoWhere_10 rfl ?_
    refine r_iconst (v := (nI 3)) C dX4_isNoWhere_11 (by decide) ?_
    refine r_icN_le (a := w) (b := 3) (tgt := 30) C (by first | omega | (simp [up2, *]; done) | (simp [up2, *]; omega) | (simp only [up2_eq]; omega) | (split <;> omega)) (by first | omega | (simp [up2, *]; done) | (simp [up2, *]; omega) | (simp only [up2_eq]; omega) | (split <;> omega)) dX4_isNoWhere_12 (by decide) (fun h12_2 => ?_) (fun h12_2 => ?_)
    · first
      | exfalso; first | omega | contradiction
      | skip
        refine r_iconst (v := (nI 0)) C dX4_isNoWhere_30 (by decide) ?_
        exact r_zret C hr (by first | omega | (simp [up2, *]; done) | (simp [up2, *]; omega) | (simp only [up2_eq]; omega) | (split <;> omega)) dX4_isNoWhere_31 ⟨rfl, rfl⟩ (Nat.le_of_ble_eq_true rfl) (Nat.le_of_ble_eq_true rfl)
    · first
      | exfalso; first | omega | contradiction
      | skip
        have q1 := h5w (by omega)
        refine r_aload_n C dX4_isNoWhere_15 rfl ?_
        refine m_get (v := .ref (ba 1)) C 1 (by decide) qf_X4_18 rfl rfl dX4_isNoWhere_16 ?_
        refine r_iload_n C dX4_isNoWhere_19 rfl ?_
        refine r_iconst (v := (nI 4)) C dX4_isNoWhere_20 (by decide) ?_
        refine r_isubN C dX4_isNoWhere_21 (by first | omega | (simp [up2, *]; done) | (simp [up2, *]; omega) | (simp only [up2_eq]; omega) | (split <;> omega)) ?_
        refine m_zld (i := w - 4) (z := w) (v := hf 5 w) C 0 (by decide) (by decide) (show w - 4 < 4 from (by first | omega | (simp [up2, *]; done) | (simp [up2, *]; omega) | (simp only [up2_eq]; omega) | (split <;> omega))) (show 4 + (w - 4) = w from (by omega)) rfl dX4_isNoWhere_22 ?_
        refine r_ifN_ne (a := (hf 5 w)) (tgt := 30) C (by omega) dX4_isNoWhere_23 (by decide) (fun h23_3 => ?_) (fun h23_3 => ?_)
        · skip
          refine r_iconst (v := (nI 0)) C dX4_isNoWhere_30 (by decide) ?_
          exact r_zret C hr (by first | omega | (simp [up2, *]; done) | (simp [up2, *]; omega) | (simp only [up2_eq]; omega) | (split <;> omega)) dX4_isNoWhere_31 ⟨rfl, rfl⟩ (Nat.le_of_ble_eq_true rfl) (Nat.le_of_ble_eq_true rfl)
        · exact absurd h23_3 (by first | omega | (simp [up2, *]; done) | (simp [up2, *]; omega) | (simp only [up2_eq]; omega) | (split <;> omega))
theorem dX4_isNoWhere_26 : decode cX4_isNoWhere 26 = .ok (.iconst 1, 1) := dqo_4 (kb_of ke_X4_isNoWhere 26 rfl)
theorem dX4_isNoWhere_27 : decode cX4_isNoWhere 27 = .ok (.goto 4, 3) := dqo_167 0 4 (by decide) (kb_of ke_X4_isNoWhere 27 rfl) (kb_of ke_X4_isNoWhere 28 rfl) (kb_of ke_X4_isNoWhere 29 rfl)
set_option maxRecDepth 100000 in
set_option maxHeartbeats 4000000 in
theorem D_isNoWhereA {l : Launch} {D : va_G} {cy : Nat → ClassId} {X : (Nat → Prop) → State → Heap → Prop} {ba ra : Nat → Nat} {hf : Nat → Nat → Nat} {hq : Nat → Nat → Int32} {kn th : Int32} {sm : Int64} {Y : va_W} {x : Int32} (hX : EnvM X cy) (hno : ¬ (nI 0 ≤ x ∧ x ≤ nI 7)) : Cd l D cy X yX4_isNoWhere cX4_isNoWhere 2 (some .boolean) (rmz 1 30) [.ref (ba 9), .int x] (WM cy ba ra hf hq kn th sm ++ Y) (some (.int (nI 1))) (WM cy ba ra hf hq kn th sm ++ Y) := by
  refine Cm.of [some (.ref (ba 9)), some (.int x)] pn_X4 rfl (Nat.le_of_ble_eq_true rfl) ?_
  intro p e s m args below meth c A C hE hr hnt hn
  refine r_iload_n C dX4_isNoWhere_0 rfl ?_
  refine r_iconst (v := (nI 0)) C dX4_isNoWhere_1 (by decide) ?_
  refine r_bipush (v := (nI 7)) C dX4_isNoWhere_2 (by decide) ?_
  refine d_S (st := []) hX.1.stb C hE (D_isIn0 (ba := ba) (ra := ra) (hf := hf) (hq := hq) (kn := kn) (th := th) (sm := sm) (Y := Y) (x := (x)) (y := ((nI 0))) (z := ((nI 7))) hX hno) pk_X4_isIn qm_X4_1 rfl rfl (Nat.le_of_ble_eq_true rfl) dX4_isNoWhere_4 ⟨(Nat.le_of_ble_eq_true rfl), (Nat.le_of_ble_eq_true rfl)⟩ ⟨(Nat.le_of_ble_eq_true rfl), (Nat.le_of_ble_eq_true rfl)⟩ ?_
  refine r_w (w' := WM cy ba ra hf hq kn th sm ++ Y) rfl ?_
  refine r_ifN_eq (a := 0) (tgt := 26) C (by first | omega | (simp [up2, *]; done) | (simp [up2, *]; omega) | (simp only [up2_eq]; omega) | (split <;> omega)) dX4_isNoWhere_7 (by decide) (fun h7_1 => ?_) (fun h7_1 => ?_)
  · skip
    refine r_iconst (v := (nI 1)) C dX4_isNoWhere_26 (by decide) ?_
    refine r_goto (tgt := 31) C dX4_isNoWhere_27 (by decide) ?_
    exact r_zret C hr (by first | omega | (simp [up2, *]; done) | (simp [up2, *]; omega) | (simp only [up2_eq]; omega) | (split <;> omega)) dX4_isNoWhere_31 ⟨rfl, rfl⟩ (Nat.le_of_ble_eq_true rfl) (Nat.le_of_ble_eq_true rfl)
  · exact absurd h7_1 (by first | omega | (simp [up2, *]; done) | (simp [up2, *]; omega) | (simp only [up2_eq]; omega) | (split <;> omega))
set_option maxRecDepth 100000 in
set_option maxHeartbeats 4000000 in
theorem D_isNoWhereB {l : Launch} {D : va_G} {cy : Nat → ClassId} {X : (Nat → Prop) → State → Heap → Prop} {ba ra : Nat → Nat} {hf : Nat → Nat → Nat} {hq : Nat → Nat → Int32} {kn th : Int32} {sm : Int64} {Y : va_W} {w : Nat} (hX : EnvM X cy) (hw : w < 8) (h4w : 4 ≤ w) (h5w : hf 5 w = 0) : Cd l D cy X yX4_isNoWhere cX4_isNoWhere 2 (some .boolean) (rmz 1 30) [.ref (ba 9), .int (nI w)] (WM cy ba ra hf hq kn th sm ++ Y) (some (.int (nI 1))) (WM cy ba ra hf hq kn th sm ++ Y) := by
  refine Cm.of [some (.ref (ba 9)), some (.int (nI w))] pn_X4 rfl (Nat.le_of_ble_eq_true rfl) ?_
  intro p e s m args below meth c A C hE hr hnt hn
  refine r_iload_n C dX4_isNoWhere_0 rfl ?_
  refine r_iconst (v := (nI 0)) C dX4_isNoWhere_1 (by decide) ?_
  refine r_bipush (v := (nI 7)) C dX4_isNoWhere_2 (by decide) ?_
  refine d_S (st := []) hX.1.stb C hE (D_isInN (ba := ba) (ra := ra) (hf := hf) (hq := hq) (kn := kn) (th := th) (sm := sm) (Y := Y) (a0 := w) (b0 := 0) (d0 := 7) hX (by first | omega | (simp [up2, *]; done) | (simp [up2, *]; omega) | (simp only [up2_eq]; omega) | (split <;> omega)) (by first | omega | (simp [up2, *]; done) | (simp [up2, *]; omega) | (simp only [up2_eq]; omega) | (split <;> omega)) (by first | omega | (simp [up2, *]; done) | (simp [up2, *]; omega) | (simp only [up2_eq]; omega) | (split <;> omega))) pk_X4_isIn qm_X4_1 rfl rfl (Nat.le_of_ble_eq_true rfl) dX4_isNoWhere_4 ⟨(Nat.le_of_ble_eq_true rfl), (Nat.le_of_ble_eq_true rfl)⟩ ⟨(Nat.le_of_ble_eq_true rfl), (Nat.le_of_ble_eq_true rfl)⟩ ?_
  refine r_w (w' := WM cy ba ra hf hq kn th sm ++ Y) rfl ?_
  refine r_ifN_eq (a := 1) (tgt := 26) C (by first | omega | (simp [up2, *]; done) | (simp [up2, *]; omega) | (simp only [up2_eq]; omega) | (split <;> omega)) dX4_isNoWhere_7 (by decide) (fun h7_1 => ?_) (fun h7_1 => ?_)
  · exact absurd h7_1 (by first | omega | (simp [up2, *]; done) | (simp [up2, *]; omega) | (simp only [up2_eq]; omega) | (split <;> omega))
  · skip
    refine r_iload_n C dX4_isNoWhere_10 rfl ?_
    refine r_iconst (v := (nI 3)) C dX4_isNoWhere_11 (by decide) ?_
    refine r_icN_le (a := w) (b := 3) (tgt := 30) C (by first | omega | (simp [up2, *]; done) | (simp [up2, *]; omega) | (simp only [up2_eq]; omega) | (split <;> omega)) (by first | omega | (simp [up2, *]; done) | (simp [up2, *]; omega) | (simp only [up2_eq]; omega) | (split <;> omega)) dX4_isNoWhere_12 (by decide) (fun h12_2 => ?_) (fun h12_2 => ?_)
    · first
      | exfalso; first | omega | contradiction
      | skip
        refine r_iconst (v := (nI 0)) C dX4_isNoWhere_30 (by decide) ?_
        exact r_zret C hr (by first | omega | (simp [up2, *]; done) | (simp [up2, *]; omega) | (simp only [up2_eq]; omega) | (split <;> omega)) dX4_isNoWhere_31 ⟨rfl, rfl⟩ (Nat.le_of_ble_eq_true rfl) (Nat.le_of_ble_eq_true rfl)
    · first
      | exfalso; first | omega | contradiction
      | skip
        refine r_aload_n C dX4_isNoWhere_15 rfl ?_
        refine m_get (v := .ref (ba 1)) C 1 (by decide) qf_X4_18 rfl rfl dX4_isNoWhere_16 ?_
        refine r_iload_n C dX4_isNoWhere_19 rfl ?_
        refine r_iconst (v := (nI 4)) C dX4_isNoWhere_20 (by decide) ?_
        refine r_isubN C dX4_isNoWhere_21 (by first | omega | (simp [up2, *]; done) | (simp [up2, *]; omega) | (simp only [up2_eq]; omega) | (split <;> omega)) ?_
        refine m_zld (i := w - 4) (z := w) (v := hf 5 w) C 0 (by decide) (by decide) (show w - 4 < 4 from (by first | omega | (simp [up2, *]; done) | (simp [up2, *]; omega) | (simp only [up2_eq]; omega) | (split <;> omega))) (show 4 + (w - 4) = w from (by omega)) rfl dX4_isNoWhere_22 ?_
        refine r_ifN_ne (a := (hf 5 w)) (tgt := 30) C (by omega) dX4_isNoWhere_23 (by decide) (fun h23_3 => ?_) (fun h23_3 => ?_)
        · exact absurd h23_3 (by first | omega | (simp [up2, *]; done) | (simp [up2, *]; omega) | (simp only [up2_eq]; omega) | (split <;> omega))
        · skip
          refine r_iconst (v := (nI 1)) C dX4_isNoWhere_26 (by decide) ?_
          refine r_goto (tgt := 31) C dX4_isNoWhere_27 (by decide) ?_
          exact r_zret C hr (by first | omega | (simp [up2, *]; done) | (simp [up2, *]; omega) | (simp only [up2_eq]; omega) | (split <;> omega)) dX4_isNoWhere_31 ⟨rfl, rfl⟩ (Nat.le_of_ble_eq_true rfl) (Nat.le_of_ble_eq_true rfl)
theorem D_isNoWhere1 {l : Launch} {D : va_G} {cy : Nat → ClassId} {X : (Nat → Prop) → State → Heap → Prop} {ba ra : Nat → Nat} {hf : Nat → Nat → Nat} {hq : Nat → Nat → Int32} {kn th : Int32} {sm : Int64} {Y : va_W} {f : Nat → Nat → Nat} {x : Int32} (hX : EnvM X cy) (h5M : ∀ w, 4 ≤ w → w < 8 → hf 5 w = f 5 w ∧ f 5 w ≤ 1) (h4M : ∀ w, w < 4 → f 5 w = 1) (hno : noW f x) : Cd l D cy X yX4_isNoWhere cX4_isNoWhere 2 (some .boolean) (rmz 1 30) [.ref (ba 9), .int x] (WM cy ba ra hf hq kn th sm ++ Y) (some (.int (nI 1))) (WM cy ba ra hf hq kn th sm ++ Y) := by
  rcases noW_cases h5M h4M hno with h | ⟨w, h4, h8, rfl, h5⟩
  · exact D_isNoWhereA hX h
  · exact D_isNoWhereB hX h8 h4 h5
theorem dX4_rowOf_0 : decode cX4_rowOf 0 = .ok (.iload_n 1, 1) := dqo_27 (kb_of ke_X4_rowOf 0 rfl)
theorem dX4_rowOf_1 : decode cX4_rowOf 1 = .ok (.iconst 4, 1) := dqo_7 (kb_of ke_X4_rowOf 1 rfl)
theorem dX4_rowOf_2 : decode cX4_rowOf 2 = .ok (.if_icmp .ge 7, 3) := dqo_162 0 7 (by decide) (kb_of ke_X4_rowOf 2 rfl) (kb_of ke_X4_rowOf 3 rfl) (kb_of ke_X4_rowOf 4 rfl)
theorem dX4_rowOf_5 : decode cX4_rowOf 5 = .ok (.iload_n 1, 1) := dqo_27 (kb_of ke_X4_rowOf 5 rfl)
theorem dX4_rowOf_6 : decode cX4_rowOf 6 = .ok (.goto 15, 3) := dqo_167 0 15 (by decide) (kb_of ke_X4_rowOf 6 rfl) (kb_of ke_X4_rowOf 7 rfl) (kb_of ke_X4_rowOf 8 rfl)
theorem dX4_rowOf_21 : decode cX4_rowOf 21 = .ok (.ireturn, 1) := dqo_172 (kb_of ke_X4_rowOf 21 rfl)
set_option maxRecDepth 100000 in
set_option maxHeartbeats 4000000 in
theorem D_rowOf_1 {l : Launch} {D : va_G} {cy : Nat → ClassId} {X : (Nat → Prop) → State → Heap → Prop} {ba ra : Nat → Nat} {hf : Nat → Nat → Nat} {hq : Nat → Nat → Int32} {kn th : Int32} {sm : Int64} {Y : va_W} {f : Nat → Nat → Nat} {w : Nat} (hX : EnvM X cy) (hC : CInv f) (hG : MG f hf) (hw : w < 8) (hch : chN f 1 w) : Cd l D cy X yX4_rowOf cX4_rowOf 2 (some .int) (rmz 0 0) [.ref (ba 9), .int (nI w)] (WM cy ba ra hf hq kn th sm ++ Y) (some (.int (nI (f 1 w)))) (WM cy ba ra hf hq kn th sm ++ Y) := by
  refine Cm.of [some (.ref (ba 9)), some (.int (nI w))] pn_X4 rfl (Nat.le_of_ble_eq_true rfl) ?_
  intro p e s m args below meth c A C hE hr hnt hn
  refine r_iload_n C dX4_rowOf_0 rfl ?_
  refine r_iconst (v := (nI 4)) C dX4_rowOf_1 (by decide) ?_
  refine r_icN_ge (a := w) (b := 4) (tgt := 9) C (by first | omega | (simp [up2, *]; done) | (simp [up2, *]; omega) | (simp only [up2_eq]; omega) | (split <;> omega)) (by first | omega | (simp [up2, *]; done) | (simp [up2, *]; omega) | (simp only [up2_eq]; omega) | (split <;> omega)) dX4_rowOf_2 (by decide) (fun h2_1 => ?_) (fun h2_1 => ?_)
  · exact absurd (chN_step hch h2_1).2.2 id
  · skip
    refine r_iload_n C dX4_rowOf_5 rfl ?_
    refine r_goto (tgt := 21) C dX4_rowOf_6 (by decide) ?_
    exact r_iret C hr dX4_rowOf_21 ⟨by first | exact congrArg (fun z => some (Value.int (nI z))) ((hC.rw (by omega)).2.1.symm) | exact congrArg (fun z => some (Value.int (nI z))) (q3.2.2.1.symm), rfl⟩ (Nat.le_of_ble_eq_true rfl) (Nat.le_of_ble_eq_true rfl)
theorem dX4_begin_0 : decode cX4_begin 0 = .ok (.iload_n 1, 1) := dqo_27 (kb_of ke_X4_begin 0 rfl)
theorem dX4_begin_1 : decode cX4_begin 1 = .ok (.iconst 4, 1) := dqo_7 (kb_of ke_X4_begin 1 rfl)
theorem dX4_begin_2 : decode cX4_begin 2 = .ok (.if_icmp .ge 7, 3) := dqo_162 0 7 (by decide) (kb_of ke_X4_begin 2 rfl) (kb_of ke_X4_begin 3 rfl) (kb_of ke_X4_begin 4 rfl)
theorem dX4_begin_5 : decode cX4_begin 5 = .ok (.iconst 0, 1) := dqo_3 (kb_of ke_X4_begin 5 rfl)
theorem dX4_begin_6 : decode cX4_begin 6 = .ok (.goto 24, 3) := dqo_167 0 24 (by decide) (kb_of ke_X4_begin 6 rfl) (kb_of ke_X4_begin 7 rfl) (kb_of ke_X4_begin 8 rfl)
theorem dX4_begin_30 : decode cX4_begin 30 = .ok (.ireturn, 1) := dqo_172 (kb_of ke_X4_begin 30 rfl)
set_option maxRecDepth 100000 in
set_option maxHeartbeats 4000000 in
theorem D_begin_1 {l : Launch} {D : va_G} {cy : Nat → ClassId} {X : (Nat → Prop) → State → Heap → Prop} {ba ra : Nat → Nat} {hf : Nat → Nat → Nat} {hq : Nat → Nat → Int32} {kn th : Int32} {sm : Int64} {Y : va_W} {f : Nat → Nat → Nat} {w : Nat} (hX : EnvM X cy) (hC : CInv f) (hG : MG f hf) (hw : w < 8) (hch : chN f 1 w) : Cd l D cy X yX4_begin cX4_begin 2 (some .int) (rmz 0 0) [.ref (ba 9), .int (nI w)] (WM cy ba ra hf hq kn th sm ++ Y) (some (.int (nI (f 3 w)))) (WM cy ba ra hf hq kn th sm ++ Y) := by
  refine Cm.of [some (.ref (ba 9)), some (.int (nI w))] pn_X4 rfl (Nat.le_of_ble_eq_true rfl) ?_
  intro p e s m args below meth c A C hE hr hnt hn
  refine r_iload_n C dX4_begin_0 rfl ?_
  refine r_iconst (v := (nI 4)) C dX4_begin_1 (by decide) ?_
  refine r_icN_ge (a := w) (b := 4) (tgt := 9) C (by first | omega | (simp [up2, *]; done) | (simp [up2, *]; omega) | (simp only [up2_eq]; omega) | (split <;> omega)) (by first | omega | (simp [up2, *]; done) | (simp [up2, *]; omega) | (simp only [up2_eq]; omega) | (split <;> omega)) dX4_begin_2 (by decide) (fun h2_1 => ?_) (fun h2_1 => ?_)
  · exact absurd (chN_step hch h2_1).2.2 id
  · skip
    refine r_iconst (v := (nI 0)) C dX4_begin_5 (by decide) ?_
    refine r_goto (tgt := 30) C dX4_begin_6 (by decide) ?_
    exact r_iret C hr dX4_begin_30 ⟨by first | exact congrArg (fun z => some (Value.int (nI z))) ((hC.rw (by omega)).2.2.2.1.symm) | exact congrArg (fun z => some (Value.int (nI z))) ((by omega)), rfl⟩ (Nat.le_of_ble_eq_true rfl) (Nat.le_of_ble_eq_true rfl)
theorem dX4_isHolder_0 : decode cX4_isHolder 0 = .ok (.iload_n 1, 1) := dqo_27 (kb_of ke_X4_isHolder 0 rfl)
theorem dX4_isHolder_1 : decode cX4_isHolder 1 = .ok (.iload_n 2, 1) := dqo_28 (kb_of ke_X4_isHolder 1 rfl)
theorem dX4_isHolder_2 : decode cX4_isHolder 2 = .ok (.if_icmp .eq 24, 3) := dqo_159 0 24 (by decide) (kb_of ke_X4_isHolder 2 rfl) (kb_of ke_X4_isHolder 3 rfl) (kb_of ke_X4_isHolder 4 rfl)
theorem dX4_isHolder_5 : decode cX4_isHolder 5 = .ok (.iload_n 2, 1) := dqo_28 (kb_of ke_X4_isHolder 5 rfl)
theorem dX4_isHolder_6 : decode cX4_isHolder 6 = .ok (.iconst 3, 1) := dqo_6 (kb_of ke_X4_isHolder 6 rfl)
theorem dX4_isHolder_7 : decode cX4_isHolder 7 = .ok (.if_icmp .le 23, 3) := dqo_164 0 23 (by decide) (kb_of ke_X4_isHolder 7 rfl) (kb_of ke_X4_isHolder 8 rfl) (kb_of ke_X4_isHolder 9 rfl)
theorem dX4_isHolder_26 : decode cX4_isHolder 26 = .ok (.iconst 1, 1) := dqo_4 (kb_of ke_X4_isHolder 26 rfl)
theorem dX4_isHolder_27 : decode cX4_isHolder 27 = .ok (.goto 4, 3) := dqo_167 0 4 (by decide) (kb_of ke_X4_isHolder 27 rfl) (kb_of ke_X4_isHolder 28 rfl) (kb_of ke_X4_isHolder 29 rfl)
theorem dX4_isHolder_30 : decode cX4_isHolder 30 = .ok (.iconst 0, 1) := dqo_3 (kb_of ke_X4_isHolder 30 rfl)
theorem dX4_isHolder_31 : decode cX4_isHolder 31 = .ok (.ireturn, 1) := dqo_172 (kb_of ke_X4_isHolder 31 rfl)
set_option maxRecDepth 100000 in
set_option maxHeartbeats 4000000 in
theorem D_isHolder_1 {l : Launch} {D : va_G} {cy : Nat → ClassId} {X : (Nat → Prop) → State → Heap → Prop} {ba ra : Nat → Nat} {hf : Nat → Nat → Nat} {hq : Nat → Nat → Int32} {kn th : Int32} {sm : Int64} {Y : va_W} {f : Nat → Nat → Nat} {h0 : Nat} {w : Nat} {d0 : Nat} (hX : EnvM X cy) (hC : CInv f) (hG : MG f hf) (hh : h0 < 8) (hw : w < 8) (hch : chN f 1 w) (hd : 1 ≤ d0) : Cd l D cy X yX4_isHolder cX4_isHolder 3 (some .boolean) (rmz 0 0) [.ref (ba 9), .int (nI h0), .int (nI w)] (WM cy ba ra hf hq kn th sm ++ Y) (some (.int (nI (hlC (f 2) h0 d0 w)))) (WM cy ba ra hf hq kn th sm ++ Y) := by
  refine Cm.of [some (.ref (ba 9)), some (.int (nI h0)), some (.int (nI w))] pn_X4 rfl (Nat.le_of_ble_eq_true rfl) ?_
  intro p e s m args below meth c A C hE hr hnt hn
  refine r_iload_n C dX4_isHolder_0 rfl ?_
  refine r_iload_n C dX4_isHolder_1 rfl ?_
  refine r_icN_eq (a := h0) (b := w) (tgt := 26) C (by first | omega | (simp [up2, *]; done) | (simp [up2, *]; omega) | (simp only [up2_eq]; omega) | (split <;> omega)) (by first | omega | (simp [up2, *]; done) | (simp [up2, *]; omega) | (simp only [up2_eq]; omega) | (split <;> omega)) dX4_isHolder_2 (by decide) (fun h2_1 => ?_) (fun h2_1 => ?_)
  · first
    | exfalso; first | omega | contradiction
    | skip
      refine r_iconst (v := (nI 1)) C dX4_isHolder_26 (by decide) ?_
      refine r_goto (tgt := 31) C dX4_isHolder_27 (by decide) ?_
      exact r_zret C hr (by first | omega | (simp [up2, *]; done) | (simp [up2, *]; omega) | (simp only [up2_eq]; omega) | (split <;> omega)) dX4_isHolder_31 ⟨congrArg (fun z => some (Value.int (nI z))) (by first | (subst_vars; exact (hlC_self hh (by omega)).symm) | exact (hlC_row hC (by omega) (by omega) (by omega)).symm | (rw [hlC_step hw (by omega) (by omega)]; have q8 := hlC_le (f 2) h0 (d0 - 1) (f 2 w); omega)), rfl⟩ (Nat.le_of_ble_eq_true rfl) (Nat.le_of_ble_eq_true rfl)
  · first
    | exfalso; first | omega | contradiction
    | skip
      refine r_iload_n C dX4_isHolder_5 rfl ?_
      refine r_iconst (v := (nI 3)) C dX4_isHolder_6 (by decide) ?_
      refine r_icN_le (a := w) (b := 3) (tgt := 30) C (by first | omega | (simp [up2, *]; done) | (simp [up2, *]; omega) | (simp only [up2_eq]; omega) | (split <;> omega)) (by first | omega | (simp [up2, *]; done) | (simp [up2, *]; omega) | (simp only [up2_eq]; omega) | (split <;> omega)) dX4_isHolder_7 (by decide) (fun h7_2 => ?_) (fun h7_2 => ?_)
      · skip
        refine r_iconst (v := (nI 0)) C dX4_isHolder_30 (by decide) ?_
        exact r_zret C hr (by first | omega | (simp [up2, *]; done) | (simp [up2, *]; omega) | (simp only [up2_eq]; omega) | (split <;> omega)) dX4_isHolder_31 ⟨congrArg (fun z => some (Value.int (nI z))) (by first | (subst_vars; exact (hlC_self hh (by omega)).symm) | exact (hlC_row hC (by omega) (by omega) (by omega)).symm | (rw [hlC_step hw (by omega) (by omega)]; have q8 := hlC_le (f 2) h0 (d0 - 1) (f 2 w); omega)), rfl⟩ (Nat.le_of_ble_eq_true rfl) (Nat.le_of_ble_eq_true rfl)
      · exact absurd (chN_step hch (by omega)).2.2 id
theorem pk_X4_rowOf : PkV RX4 yX4_rowOf cX4_rowOf 2 (some .int) 1 := ⟨⟨qi_X4_rowOf, qs_X4_rowOf, qz_X4, qc_X4_rowOf⟩, rfl, mh_X4.1, mh_X4.2, pd_1⟩
theorem dX4_rowOf_9 : decode cX4_rowOf 9 = .ok (.aload_n 0, 1) := dqo_42 (kb_of ke_X4_rowOf 9 rfl)
theorem dX4_rowOf_10 : decode cX4_rowOf 10 = .ok (.aload_n 0, 1) := dqo_42 (kb_of ke_X4_rowOf 10 rfl)
theorem dX4_rowOf_11 : decode cX4_rowOf 11 = .ok (.getfield 22, 3) := dqo_180 0 22 (kb_of ke_X4_rowOf 11 rfl) (kb_of ke_X4_rowOf 12 rfl) (kb_of ke_X4_rowOf 13 rfl)
theorem dX4_rowOf_14 : decode cX4_rowOf 14 = .ok (.iload_n 1, 1) := dqo_27 (kb_of ke_X4_rowOf 14 rfl)
theorem dX4_rowOf_15 : decode cX4_rowOf 15 = .ok (.iconst 4, 1) := dqo_7 (kb_of ke_X4_rowOf 15 rfl)
theorem dX4_rowOf_16 : decode cX4_rowOf 16 = .ok (.isub, 1) := dqo_100 (kb_of ke_X4_rowOf 16 rfl)
theorem dX4_rowOf_17 : decode cX4_rowOf 17 = .ok (.iaload, 1) := dqo_46 (kb_of ke_X4_rowOf 17 rfl)
theorem dX4_rowOf_18 : decode cX4_rowOf 18 = .ok (.invokevirtual 48, 3) := dqo_182 0 48 (kb_of ke_X4_rowOf 18 rfl) (kb_of ke_X4_rowOf 19 rfl) (kb_of ke_X4_rowOf 20 rfl)
set_option maxRecDepth 100000 in
set_option maxHeartbeats 4000000 in
theorem D_rowOf_2 {l : Launch} {D : va_G} {cy : Nat → ClassId} {X : (Nat → Prop) → State → Heap → Prop} {ba ra : Nat → Nat} {hf : Nat → Nat → Nat} {hq : Nat → Nat → Int32} {kn th : Int32} {sm : Int64} {Y : va_W} {f : Nat → Nat → Nat} {w : Nat} (hX : EnvM X cy) (hC : CInv f) (hG : MG f hf) (hw : w < 8) (hch : chN f 2 w) : Cd l D cy X yX4_rowOf cX4_rowOf 2 (some .int) (rmz 1 30) [.ref (ba 9), .int (nI w)] (WM cy ba ra hf hq kn th sm ++ Y) (some (.int (nI (f 1 w)))) (WM cy ba ra hf hq kn th sm ++ Y) := by
  refine Cm.of [some (.ref (ba 9)), some (.int (nI w))] pn_X4 rfl (Nat.le_of_ble_eq_true rfl) ?_
  intro p e s m args below meth c A C hE hr hnt hn
  refine r_iload_n C dX4_rowOf_0 rfl ?_
  refine r_iconst (v := (nI 4)) C dX4_rowOf_1 (by decide) ?_
  refine r_icN_ge (a := w) (b := 4) (tgt := 9) C (by first | omega | (simp [up2, *]; done) | (simp [up2, *]; omega) | (simp only [up2_eq]; omega) | (split <;> omega)) (by first | omega | (simp [up2, *]; done) | (simp [up2, *]; omega) | (simp only [up2_eq]; omega) | (split <;> omega)) dX4_rowOf_2 (by decide) (fun h2_1 => ?_) (fun h2_1 => ?_)
  · first
    | exfalso; first | omega | contradiction
    | skip
      have q1 := chN_step hch (by omega)
      have q2 := hG w (by omega) hw q1.2.1
      have q3 := hC.wi (by omega) hw q1.2.1
      refine r_aload_n C dX4_rowOf_9 rfl ?_
      refine r_aload_n C dX4_rowOf_10 rfl ?_
      refine m_get (v := .ref (ba 2)) C 2 (by decide) qf_X4_22 rfl rfl dX4_rowOf_11 ?_
      refine r_iload_n C dX4_rowOf_14 rfl ?_
      refine r_iconst (v := (nI 4)) C dX4_rowOf_15 (by decide) ?_
      refine r_isubN C dX4_rowOf_16 (by first | omega | (simp [up2, *]; done) | (simp [up2, *]; omega) | (simp only [up2_eq]; omega) | (split <;> omega)) ?_
      refine m_ald (i := w - 4) (z := w) (v := hf 2 w) C 1 (by decide) (by decide) (show w - 4 < 4 from (by first | omega | (simp [up2, *]; done) | (simp [up2, *]; omega) | (simp only [up2_eq]; omega) | (split <;> omega))) (show 4 + (w - 4) = w from (by omega)) rfl dX4_rowOf_17 ?_
      refine r_eqi (congrArg nI q2.1) ?_
      refine d_V (st := []) hX.1.stb C hE (D_rowOf_1 (ba := ba) (ra := ra) (hf := hf) (hq := hq) (kn := kn) (th := th) (sm := sm) (Y := Y) (f := f) (w := (f 2 w)) hX hC (MG.same (fun _ => rfl) (fun _ => rfl) hG) q3.1 q1.2.2) pk_X4_rowOf qm_X4_48 0 8 rfl rfl wm_0 rfl rfl (Nat.le_of_ble_eq_true rfl) dX4_rowOf_18 ⟨(Nat.le_of_ble_eq_true rfl), (Nat.le_of_ble_eq_true rfl)⟩ ⟨(Nat.le_of_ble_eq_true rfl), (Nat.le_of_ble_eq_true rfl)⟩ ?_
      refine r_w (w' := WM cy ba ra hf hq kn th sm ++ Y) rfl ?_
      exact r_iret C hr dX4_rowOf_21 ⟨by first | exact congrArg (fun z => some (Value.int (nI z))) ((hC.rw (by omega)).2.1.symm) | exact congrArg (fun z => some (Value.int (nI z))) (q3.2.2.1.symm), rfl⟩ (Nat.le_of_ble_eq_true rfl) (Nat.le_of_ble_eq_true rfl)
  · first
    | exfalso; first | omega | contradiction
    | skip
      refine r_iload_n C dX4_rowOf_5 rfl ?_
      refine r_goto (tgt := 21) C dX4_rowOf_6 (by decide) ?_
      exact r_iret C hr dX4_rowOf_21 ⟨by first | exact congrArg (fun z => some (Value.int (nI z))) ((hC.rw (by omega)).2.1.symm) | exact congrArg (fun z => some (Value.int (nI z))) (q3.2.2.1.symm), rfl⟩ (Nat.le_of_ble_eq_true rfl) (Nat.le_of_ble_eq_true rfl)
theorem pk_X4_begin : PkV RX4 yX4_begin cX4_begin 2 (some .int) 1 := ⟨⟨qi_X4_begin, qs_X4_begin, qz_X4, qc_X4_begin⟩, rfl, mh_X4.1, mh_X4.2, pd_1⟩
theorem dX4_begin_9 : decode cX4_begin 9 = .ok (.aload_n 0, 1) := dqo_42 (kb_of ke_X4_begin 9 rfl)
theorem dX4_begin_10 : decode cX4_begin 10 = .ok (.getfield 26, 3) := dqo_180 0 26 (kb_of ke_X4_begin 10 rfl) (kb_of ke_X4_begin 11 rfl) (kb_of ke_X4_begin 12 rfl)
theorem dX4_begin_13 : decode cX4_begin 13 = .ok (.iload_n 1, 1) := dqo_27 (kb_of ke_X4_begin 13 rfl)
theorem dX4_begin_14 : decode cX4_begin 14 = .ok (.iconst 4, 1) := dqo_7 (kb_of ke_X4_begin 14 rfl)
theorem dX4_begin_15 : decode cX4_begin 15 = .ok (.isub, 1) := dqo_100 (kb_of ke_X4_begin 15 rfl)
theorem dX4_begin_16 : decode cX4_begin 16 = .ok (.iaload, 1) := dqo_46 (kb_of ke_X4_begin 16 rfl)
theorem dX4_begin_17 : decode cX4_begin 17 = .ok (.aload_n 0, 1) := dqo_42 (kb_of ke_X4_begin 17 rfl)
theorem dX4_begin_18 : decode cX4_begin 18 = .ok (.aload_n 0, 1) := dqo_42 (kb_of ke_X4_begin 18 rfl)
theorem dX4_begin_19 : decode cX4_begin 19 = .ok (.getfield 22, 3) := dqo_180 0 22 (kb_of ke_X4_begin 19 rfl) (kb_of ke_X4_begin 20 rfl) (kb_of ke_X4_begin 21 rfl)
theorem dX4_begin_22 : decode cX4_begin 22 = .ok (.iload_n 1, 1) := dqo_27 (kb_of ke_X4_begin 22 rfl)
theorem dX4_begin_23 : decode cX4_begin 23 = .ok (.iconst 4, 1) := dqo_7 (kb_of ke_X4_begin 23 rfl)
theorem dX4_begin_24 : decode cX4_begin 24 = .ok (.isub, 1) := dqo_100 (kb_of ke_X4_begin 24 rfl)
theorem dX4_begin_25 : decode cX4_begin 25 = .ok (.iaload, 1) := dqo_46 (kb_of ke_X4_begin 25 rfl)
theorem dX4_begin_26 : decode cX4_begin 26 = .ok (.invokevirtual 52, 3) := dqo_182 0 52 (kb_of ke_X4_begin 26 rfl) (kb_of ke_X4_begin 27 rfl) (kb_of ke_X4_begin 28 rfl)
theorem dX4_begin_29 : decode cX4_begin 29 = .ok (.iadd, 1) := dqo_96 (kb_of ke_X4_begin 29 rfl)
set_option maxRecDepth 100000 in
set_option maxHeartbeats 4000000 in
theorem D_begin_2 {l : Launch} {D : va_G} {cy : Nat → ClassId} {X : (Nat → Prop) → State → Heap → Prop} {ba ra : Nat → Nat} {hf : Nat → Nat → Nat} {hq : Nat → Nat → Int32} {kn th : Int32} {sm : Int64} {Y : va_W} {f : Nat → Nat → Nat} {w : Nat} (hX : EnvM X cy) (hC : CInv f) (hG : MG f hf) (hw : w < 8) (hch : chN f 2 w) : Cd l D cy X yX4_begin cX4_begin 2 (some .int) (rmz 1 30) [.ref (ba 9), .int (nI w)] (WM cy ba ra hf hq kn th sm ++ Y) (some (.int (nI (f 3 w)))) (WM cy ba ra hf hq kn th sm ++ Y) := by
  refine Cm.of [some (.ref (ba 9)), some (.int (nI w))] pn_X4 rfl (Nat.le_of_ble_eq_true rfl) ?_
  intro p e s m args below meth c A C hE hr hnt hn
  refine r_iload_n C dX4_begin_0 rfl ?_
  refine r_iconst (v := (nI 4)) C dX4_begin_1 (by decide) ?_
  refine r_icN_ge (a := w) (b := 4) (tgt := 9) C (by first | omega | (simp [up2, *]; done) | (simp [up2, *]; omega) | (simp only [up2_eq]; omega) | (split <;> omega)) (by first | omega | (simp [up2, *]; done) | (simp [up2, *]; omega) | (simp only [up2_eq]; omega) | (split <;> omega)) dX4_begin_2 (by decide) (fun h2_1 => ?_) (fun h2_1 => ?_)
  · first
    | exfalso; first | omega | contradiction
    | skip
      have q1 := chN_step hch (by omega)
      have q2 := hG w (by omega) hw q1.2.1
      have q3 := hC.wi (by omega) hw q1.2.1
      refine r_aload_n C dX4_begin_9 rfl ?_
      refine m_get (v := .ref (ba 3)) C 3 (by decide) qf_X4_26 rfl rfl dX4_begin_10 ?_
      refine r_iload_n C dX4_begin_13 rfl ?_
      refine r_iconst (v := (nI 4)) C dX4_begin_14 (by decide) ?_
      refine r_isubN C dX4_begin_15 (by first | omega | (simp [up2, *]; done) | (simp [up2, *]; omega) | (simp only [up2_eq]; omega) | (split <;> omega)) ?_
      refine m_ald (i := w - 4) (z := w) (v := hf 3 w) C 2 (by decide) (by decide) (show w - 4 < 4 from (by first | omega | (simp [up2, *]; done) | (simp [up2, *]; omega) | (simp only [up2_eq]; omega) | (split <;> omega))) (show 4 + (w - 4) = w from (by omega)) rfl dX4_begin_16 ?_
      refine r_aload_n C dX4_begin_17 rfl ?_
      refine r_aload_n C dX4_begin_18 rfl ?_
      refine m_get (v := .ref (ba 2)) C 2 (by decide) qf_X4_22 rfl rfl dX4_begin_19 ?_
      refine r_iload_n C dX4_begin_22 rfl ?_
      refine r_iconst (v := (nI 4)) C dX4_begin_23 (by decide) ?_
      refine r_isubN C dX4_begin_24 (by first | omega | (simp [up2, *]; done) | (simp [up2, *]; omega) | (simp only [up2_eq]; omega) | (split <;> omega)) ?_
      refine m_ald (i := w - 4) (z := w) (v := hf 2 w) C 1 (by decide) (by decide) (show w - 4 < 4 from (by first | omega | (simp [up2, *]; done) | (simp [up2, *]; omega) | (simp only [up2_eq]; omega) | (split <;> omega))) (show 4 + (w - 4) = w from (by omega)) rfl dX4_begin_25 ?_
      refine r_eqi (congrArg nI q2.1) ?_
      refine d_V (st := [.int (nI (hf 3 w))]) hX.1.stb C hE (D_begin_1 (ba := ba) (ra := ra) (hf := hf) (hq := hq) (kn := kn) (th := th) (sm := sm) (Y := Y) (f := f) (w := (f 2 w)) hX hC (MG.same (fun _ => rfl) (fun _ => rfl) hG) q3.1 q1.2.2) pk_X4_begin qm_X4_52 0 8 rfl rfl wm_0 rfl rfl (Nat.le_of_ble_eq_true rfl) dX4_begin_26 ⟨(Nat.le_of_ble_eq_true rfl), (Nat.le_of_ble_eq_true rfl)⟩ ⟨(Nat.le_of_ble_eq_true rfl), (Nat.le_of_ble_eq_true rfl)⟩ ?_
      refine r_w (w' := WM cy ba ra hf hq kn th sm ++ Y) rfl ?_
      refine r_iaddN C dX4_begin_29 ?_
      exact r_iret C hr dX4_begin_30 ⟨by first | exact congrArg (fun z => some (Value.int (nI z))) ((hC.rw (by omega)).2.2.2.1.symm) | exact congrArg (fun z => some (Value.int (nI z))) ((by omega)), rfl⟩ (Nat.le_of_ble_eq_true rfl) (Nat.le_of_ble_eq_true rfl)
  · first
    | exfalso; first | omega | contradiction
    | skip
      refine r_iconst (v := (nI 0)) C dX4_begin_5 (by decide) ?_
      refine r_goto (tgt := 30) C dX4_begin_6 (by decide) ?_
      exact r_iret C hr dX4_begin_30 ⟨by first | exact congrArg (fun z => some (Value.int (nI z))) ((hC.rw (by omega)).2.2.2.1.symm) | exact congrArg (fun z => some (Value.int (nI z))) ((by omega)), rfl⟩ (Nat.le_of_ble_eq_true rfl) (Nat.le_of_ble_eq_true rfl)
theorem pk_X4_isHolder : PkV RX4 yX4_isHolder cX4_isHolder 3 (some .boolean) 2 := ⟨⟨qi_X4_isHolder, qs_X4_isHolder, qz_X4, qc_X4_isHolder⟩, rfl, mh_X4.1, mh_X4.2, pd_5⟩
theorem dX4_isHolder_10 : decode cX4_isHolder 10 = .ok (.aload_n 0, 1) := dqo_42 (kb_of ke_X4_isHolder 10 rfl)
theorem dX4_isHolder_11 : decode cX4_isHolder 11 = .ok (.iload_n 1, 1) := dqo_27 (kb_of ke_X4_isHolder 11 rfl)
theorem dX4_isHolder_12 : decode cX4_isHolder 12 = .ok (.aload_n 0, 1) := dqo_42 (kb_of ke_X4_isHolder 12 rfl)
theorem dX4_isHolder_13 : decode cX4_isHolder 13 = .ok (.getfield 22, 3) := dqo_180 0 22 (kb_of ke_X4_isHolder 13 rfl) (kb_of ke_X4_isHolder 14 rfl) (kb_of ke_X4_isHolder 15 rfl)
theorem dX4_isHolder_16 : decode cX4_isHolder 16 = .ok (.iload_n 2, 1) := dqo_28 (kb_of ke_X4_isHolder 16 rfl)
theorem dX4_isHolder_17 : decode cX4_isHolder 17 = .ok (.iconst 4, 1) := dqo_7 (kb_of ke_X4_isHolder 17 rfl)
theorem dX4_isHolder_18 : decode cX4_isHolder 18 = .ok (.isub, 1) := dqo_100 (kb_of ke_X4_isHolder 18 rfl)
theorem dX4_isHolder_19 : decode cX4_isHolder 19 = .ok (.iaload, 1) := dqo_46 (kb_of ke_X4_isHolder 19 rfl)
theorem dX4_isHolder_20 : decode cX4_isHolder 20 = .ok (.invokevirtual 66, 3) := dqo_182 0 66 (kb_of ke_X4_isHolder 20 rfl) (kb_of ke_X4_isHolder 21 rfl) (kb_of ke_X4_isHolder 22 rfl)
theorem dX4_isHolder_23 : decode cX4_isHolder 23 = .ok (.ifCond .eq 7, 3) := dqo_153 0 7 (by decide) (kb_of ke_X4_isHolder 23 rfl) (kb_of ke_X4_isHolder 24 rfl) (kb_of ke_X4_isHolder 25 rfl)
set_option maxRecDepth 100000 in
set_option maxHeartbeats 4000000 in
theorem D_isHolder_2 {l : Launch} {D : va_G} {cy : Nat → ClassId} {X : (Nat → Prop) → State → Heap → Prop} {ba ra : Nat → Nat} {hf : Nat → Nat → Nat} {hq : Nat → Nat → Int32} {kn th : Int32} {sm : Int64} {Y : va_W} {f : Nat → Nat → Nat} {h0 : Nat} {w : Nat} {d0 : Nat} (hX : EnvM X cy) (hC : CInv f) (hG : MG f hf) (hh : h0 < 8) (hw : w < 8) (hch : chN f 2 w) (hd : 2 ≤ d0) : Cd l D cy X yX4_isHolder cX4_isHolder 3 (some .boolean) (rmz 1 30) [.ref (ba 9), .int (nI h0), .int (nI w)] (WM cy ba ra hf hq kn th sm ++ Y) (some (.int (nI (hlC (f 2) h0 d0 w)))) (WM cy ba ra hf hq kn th sm ++ Y) := by
  refine Cm.of [some (.ref (ba 9)), some (.int (nI h0)), some (.int (nI w))] pn_X4 rfl (Nat.le_of_ble_eq_true rfl) ?_
  intro p e s m args below meth c A C hE hr hnt hn
  refine r_iload_n C dX4_isHolder_0 rfl ?_
  refine r_iload_n C dX4_isHolder_1 rfl ?_
  refine r_icN_eq (a := h0) (b := w) (tgt := 26) C (by first | omega | (simp [up2, *]; done) | (simp [up2, *]; omega) | (simp only [up2_eq]; omega) | (split <;> omega)) (by first | omega | (simp [up2, *]; done) | (simp [up2, *]; omega) | (simp only [up2_eq]; omega) | (split <;> omega)) dX4_isHolder_2 (by decide) (fun h2_1 => ?_) (fun h2_1 => ?_)
  · first
    | exfalso; first | omega | contradiction
    | skip
      refine r_iconst (v := (nI 1)) C dX4_isHolder_26 (by decide) ?_
      refine r_goto (tgt := 31) C dX4_isHolder_27 (by decide) ?_
      exact r_zret C hr (by first | omega | (simp [up2, *]; done) | (simp [up2, *]; omega) | (simp only [up2_eq]; omega) | (split <;> omega)) dX4_isHolder_31 ⟨congrArg (fun z => some (Value.int (nI z))) (by first | (subst_vars; exact (hlC_self hh (by omega)).symm) | exact (hlC_row hC (by omega) (by omega) (by omega)).symm | (rw [hlC_step hw (by omega) (by omega)]; have q8 := hlC_le (f 2) h0 (d0 - 1) (f 2 w); omega)), rfl⟩ (Nat.le_of_ble_eq_true rfl) (Nat.le_of_ble_eq_true rfl)
  · first
    | exfalso; first | omega | contradiction
    | skip
      refine r_iload_n C dX4_isHolder_5 rfl ?_
      refine r_iconst (v := (nI 3)) C dX4_isHolder_6 (by decide) ?_
      refine r_icN_le (a := w) (b := 3) (tgt := 30) C (by first | omega | (simp [up2, *]; done) | (simp [up2, *]; omega) | (simp only [up2_eq]; omega) | (split <;> omega)) (by first | omega | (simp [up2, *]; done) | (simp [up2, *]; omega) | (simp only [up2_eq]; omega) | (split <;> omega)) dX4_isHolder_7 (by decide) (fun h7_2 => ?_) (fun h7_2 => ?_)
      · first
        | exfalso; first | omega | contradiction
        | skip
          refine r_iconst (v := (nI 0)) C dX4_isHolder_30 (by decide) ?_
          exact r_zret C hr (by first | omega | (simp [up2, *]; done) | (simp [up2, *]; omega) | (simp only [up2_eq]; omega) | (split <;> omega)) dX4_isHolder_31 ⟨congrArg (fun z => some (Value.int (nI z))) (by first | (subst_vars; exact (hlC_self hh (by omega)).symm) | exact (hlC_row hC (by omega) (by omega) (by omega)).symm | (rw [hlC_step hw (by omega) (by omega)]; have q8 := hlC_le (f 2) h0 (d0 - 1) (f 2 w); omega)), rfl⟩ (Nat.le_of_ble_eq_true rfl) (Nat.le_of_ble_eq_true rfl)
      · first
        | exfalso; first | omega | contradiction
        | skip
          have q1 := chN_step hch (by omega)
          have q2 := hG w (by omega) hw q1.2.1
          have q3 := hC.wi (by omega) hw q1.2.1
          refine r_aload_n C dX4_isHolder_10 rfl ?_
          refine r_iload_n C dX4_isHolder_11 rfl ?_
          refine r_aload_n C dX4_isHolder_12 rfl ?_
          refine m_get (v := .ref (ba 2)) C 2 (by decide) qf_X4_22 rfl rfl dX4_isHolder_13 ?_
          refine r_iload_n C dX4_isHolder_16 rfl ?_
          refine r_iconst (v := (nI 4)) C dX4_isHolder_17 (by decide) ?_
          refine r_isubN C dX4_isHolder_18 (by first | omega | (simp [up2, *]; done) | (simp [up2, *]; omega) | (simp only [up2_eq]; omega) | (split <;> omega)) ?_
          refine m_ald (i := w - 4) (z := w) (v := hf 2 w) C 1 (by decide) (by decide) (show w - 4 < 4 from (by first | omega | (simp [up2, *]; done) | (simp [up2, *]; omega) | (simp only [up2_eq]; omega) | (split <;> omega))) (show 4 + (w - 4) = w from (by omega)) rfl dX4_isHolder_19 ?_
          refine r_eqi (congrArg nI q2.1) ?_
          refine d_V (st := []) hX.1.stb C hE (D_isHolder_1 (ba := ba) (ra := ra) (hf := hf) (hq := hq) (kn := kn) (th := th) (sm := sm) (Y := Y) (f := f) (h0 := h0) (w := (f 2 w)) (d0 := (d0 - 1)) hX hC (MG.same (fun _ => rfl) (fun _ => rfl) hG) hh q3.1 q1.2.2 (by omega)) pk_X4_isHolder qm_X4_66 0 8 rfl rfl wm_0 rfl rfl (Nat.le_of_ble_eq_true rfl) dX4_isHolder_20 ⟨(Nat.le_of_ble_eq_true rfl), (Nat.le_of_ble_eq_true rfl)⟩ ⟨(Nat.le_of_ble_eq_true rfl), (Nat.le_of_ble_eq_true rfl)⟩ ?_
          refine r_w (w' := WM cy ba ra hf hq kn th sm ++ Y) rfl ?_
          refine r_ifN_eq (a := (hlC (f 2) h0 (d0 - 1) (f 2 w))) (tgt := 30) C (Nat.lt_of_le_of_lt (hlC_le _ _ _ _) (by decide)) dX4_isHolder_23 (by decide) (fun h23_3 => ?_) (fun h23_3 => ?_)
          · first
            | exfalso; first | omega | contradiction
            | skip
              refine r_iconst (v := (nI 0)) C dX4_isHolder_30 (by decide) ?_
              exact r_zret C hr (by first | omega | (simp [up2, *]; done) | (simp [up2, *]; omega) | (simp only [up2_eq]; omega) | (split <;> omega)) dX4_isHolder_31 ⟨congrArg (fun z => some (Value.int (nI z))) (by first | (subst_vars; exact (hlC_self hh (by omega)).symm) | exact (hlC_row hC (by omega) (by omega) (by omega)).symm | (rw [hlC_step hw (by omega) (by omega)]; have q8 := hlC_le (f 2) h0 (d0 - 1) (f 2 w); omega)), rfl⟩ (Nat.le_of_ble_eq_true rfl) (Nat.le_of_ble_eq_true rfl)
          · first
            | exfalso; first | omega | contradiction
            | skip
              refine r_iconst (v := (nI 1)) C dX4_isHolder_26 (by decide) ?_
              refine r_goto (tgt := 31) C dX4_isHolder_27 (by decide) ?_
              exact r_zret C hr (by first | omega | (simp [up2, *]; done) | (simp [up2, *]; omega) | (simp only [up2_eq]; omega) | (split <;> omega)) dX4_isHolder_31 ⟨congrArg (fun z => some (Value.int (nI z))) (by first | (subst_vars; exact (hlC_self hh (by omega)).symm) | exact (hlC_row hC (by omega) (by omega) (by omega)).symm | (rw [hlC_step hw (by omega) (by omega)]; have q8 := hlC_le (f 2) h0 (d0 - 1) (f 2 w); omega)), rfl⟩ (Nat.le_of_ble_eq_true rfl) (Nat.le_of_ble_eq_true rfl)
set_option maxRecDepth 100000 in
set_option maxHeartbeats 4000000 in
theorem D_rowOf_3 {l : Launch} {D : va_G} {cy : Nat → ClassId} {X : (Nat → Prop) → State → Heap → Prop} {ba ra : Nat → Nat} {hf : Nat → Nat → Nat} {hq : Nat → Nat → Int32} {kn th : Int32} {sm : Int64} {Y : va_W} {f : Nat → Nat → Nat} {w : Nat} (hX : EnvM X cy) (hC : CInv f) (hG : MG f hf) (hw : w < 8) (hch : chN f 3 w) : Cd l D cy X yX4_rowOf cX4_rowOf 2 (some .int) (rmz 2 60) [.ref (ba 9), .int (nI w)] (WM cy ba ra hf hq kn th sm ++ Y) (some (.int (nI (f 1 w)))) (WM cy ba ra hf hq kn th sm ++ Y) := by
  refine Cm.of [some (.ref (ba 9)), some (.int (nI w))] pn_X4 rfl (Nat.le_of_ble_eq_true rfl) ?_
  intro p e s m args below meth c A C hE hr hnt hn
  refine r_iload_n C dX4_rowOf_0 rfl ?_
  refine r_iconst (v := (nI 4)) C dX4_rowOf_1 (by decide) ?_
  refine r_icN_ge (a := w) (b := 4) (tgt := 9) C (by first | omega | (simp [up2, *]; done) | (simp [up2, *]; omega) | (simp only [up2_eq]; omega) | (split <;> omega)) (by first | omega | (simp [up2, *]; done) | (simp [up2, *]; omega) | (simp only [up2_eq]; omega) | (split <;> omega)) dX4_rowOf_2 (by decide) (fun h2_1 => ?_) (fun h2_1 => ?_)
  · first
    | exfalso; first | omega | contradiction
    | skip
      have q1 := chN_step hch (by omega)
      have q2 := hG w (by omega) hw q1.2.1
      have q3 := hC.wi (by omega) hw q1.2.1
      refine r_aload_n C dX4_rowOf_9 rfl ?_
      refine r_aload_n C dX4_rowOf_10 rfl ?_
      refine m_get (v := .ref (ba 2)) C 2 (by decide) qf_X4_22 rfl rfl dX4_rowOf_11 ?_
      refine r_iload_n C dX4_rowOf_14 rfl ?_
      refine r_iconst (v := (nI 4)) C dX4_rowOf_15 (by decide) ?_
      refine r_isubN C dX4_rowOf_16 (by first | omega | (simp [up2, *]; done) | (simp [up2, *]; omega) | (simp only [up2_eq]; omega) | (split <;> omega)) ?_
      refine m_ald (i := w - 4) (z := w) (v := hf 2 w) C 1 (by decide) (by decide) (show w - 4 < 4 from (by first | omega | (simp [up2, *]; done) | (simp [up2, *]; omega) | (simp only [up2_eq]; omega) | (split <;> omega))) (show 4 + (w - 4) = w from (by omega)) rfl dX4_rowOf_17 ?_
      refine r_eqi (congrArg nI q2.1) ?_
      refine d_V (st := []) hX.1.stb C hE (D_rowOf_2 (ba := ba) (ra := ra) (hf := hf) (hq := hq) (kn := kn) (th := th) (sm := sm) (Y := Y) (f := f) (w := (f 2 w)) hX hC (MG.same (fun _ => rfl) (fun _ => rfl) hG) q3.1 q1.2.2) pk_X4_rowOf qm_X4_48 0 8 rfl rfl wm_0 rfl rfl (Nat.le_of_ble_eq_true rfl) dX4_rowOf_18 ⟨(Nat.le_of_ble_eq_true rfl), (Nat.le_of_ble_eq_true rfl)⟩ ⟨(Nat.le_of_ble_eq_true rfl), (Nat.le_of_ble_eq_true rfl)⟩ ?_
      refine r_w (w' := WM cy ba ra hf hq kn th sm ++ Y) rfl ?_
      exact r_iret C hr dX4_rowOf_21 ⟨by first | exact congrArg (fun z => some (Value.int (nI z))) ((hC.rw (by omega)).2.1.symm) | exact congrArg (fun z => some (Value.int (nI z))) (q3.2.2.1.symm), rfl⟩ (Nat.le_of_ble_eq_true rfl) (Nat.le_of_ble_eq_true rfl)
  · first
    | exfalso; first | omega | contradiction
    | skip
      refine r_iload_n C dX4_rowOf_5 rfl ?_
      refine r_goto (tgt := 21) C dX4_rowOf_6 (by decide) ?_
      exact r_iret C hr dX4_rowOf_21 ⟨by first | exact congrArg (fun z => some (Value.int (nI z))) ((hC.rw (by omega)).2.1.symm) | exact congrArg (fun z => some (Value.int (nI z))) (q3.2.2.1.symm), rfl⟩ (Nat.le_of_ble_eq_true rfl) (Nat.le_of_ble_eq_true rfl)
set_option maxRecDepth 100000 in
set_option maxHeartbeats 4000000 in
theorem D_begin_3 {l : Launch} {D : va_G} {cy : Nat → ClassId} {X : (Nat → Prop) → State → Heap → Prop} {ba ra : Nat → Nat} {hf : Nat → Nat → Nat} {hq : Nat → Nat → Int32} {kn th : Int32} {sm : Int64} {Y : va_W} {f : Nat → Nat → Nat} {w : Nat} (hX : EnvM X cy) (hC : CInv f) (hG : MG f hf) (hw : w < 8) (hch : chN f 3 w) : Cd l D cy X yX4_begin cX4_begin 2 (some .int) (rmz 2 60) [.ref (ba 9), .int (nI w)] (WM cy ba ra hf hq kn th sm ++ Y) (some (.int (nI (f 3 w)))) (WM cy ba ra hf hq kn th sm ++ Y) := by
  refine Cm.of [some (.ref (ba 9)), some (.int (nI w))] pn_X4 rfl (Nat.le_of_ble_eq_true rfl) ?_
  intro p e s m args below meth c A C hE hr hnt hn
  refine r_iload_n C dX4_begin_0 rfl ?_
  refine r_iconst (v := (nI 4)) C dX4_begin_1 (by decide) ?_
  refine r_icN_ge (a := w) (b := 4) (tgt := 9) C (by first | omega | (simp [up2, *]; done) | (simp [up2, *]; omega) | (simp only [up2_eq]; omega) | (split <;> omega)) (by first | omega | (simp [up2, *]; done) | (simp [up2, *]; omega) | (simp only [up2_eq]; omega) | (split <;> omega)) dX4_begin_2 (by decide) (fun h2_1 => ?_) (fun h2_1 => ?_)
  · first
    | exfalso; first | omega | contradiction
    | skip
      have q1 := chN_step hch (by omega)
      have q2 := hG w (by omega) hw q1.2.1
      have q3 := hC.wi (by omega) hw q1.2.1
      refine r_aload_n C dX4_begin_9 rfl ?_
      refine m_get (v := .ref (ba 3)) C 3 (by decide) qf_X4_26 rfl rfl dX4_begin_10 ?_
      refine r_iload_n C dX4_begin_13 rfl ?_
      refine r_iconst (v := (nI 4)) C dX4_begin_14 (by decide) ?_
      refine r_isubN C dX4_begin_15 (by first | omega | (simp [up2, *]; done) | (simp [up2, *]; omega) | (simp only [up2_eq]; omega) | (split <;> omega)) ?_
      refine m_ald (i := w - 4) (z := w) (v := hf 3 w) C 2 (by decide) (by decide) (show w - 4 < 4 from (by first | omega | (simp [up2, *]; done) | (simp [up2, *]; omega) | (simp only [up2_eq]; omega) | (split <;> omega))) (show 4 + (w - 4) = w from (by omega)) rfl dX4_begin_16 ?_
      refine r_aload_n C dX4_begin_17 rfl ?_
      refine r_aload_n C dX4_begin_18 rfl ?_
      refine m_get (v := .ref (ba 2)) C 2 (by decide) qf_X4_22 rfl rfl dX4_begin_19 ?_
      refine r_iload_n C dX4_begin_22 rfl ?_
      refine r_iconst (v := (nI 4)) C dX4_begin_23 (by decide) ?_
      refine r_isubN C dX4_begin_24 (by first | omega | (simp [up2, *]; done) | (simp [up2, *]; omega) | (simp only [up2_eq]; omega) | (split <;> omega)) ?_
      refine m_ald (i := w - 4) (z := w) (v := hf 2 w) C 1 (by decide) (by decide) (show w - 4 < 4 from (by first | omega | (simp [up2, *]; done) | (simp [up2, *]; omega) | (simp only [up2_eq]; omega) | (split <;> omega))) (show 4 + (w - 4) = w from (by omega)) rfl dX4_begin_25 ?_
      refine r_eqi (congrArg nI q2.1) ?_
      refine d_V (st := [.int (nI (hf 3 w))]) hX.1.stb C hE (D_begin_2 (ba := ba) (ra := ra) (hf := hf) (hq := hq) (kn := kn) (th := th) (sm := sm) (Y := Y) (f := f) (w := (f 2 w)) hX hC (MG.same (fun _ => rfl) (fun _ => rfl) hG) q3.1 q1.2.2) pk_X4_begin qm_X4_52 0 8 rfl rfl wm_0 rfl rfl (Nat.le_of_ble_eq_true rfl) dX4_begin_26 ⟨(Nat.le_of_ble_eq_true rfl), (Nat.le_of_ble_eq_true rfl)⟩ ⟨(Nat.le_of_ble_eq_true rfl), (Nat.le_of_ble_eq_true rfl)⟩ ?_
      refine r_w (w' := WM cy ba ra hf hq kn th sm ++ Y) rfl ?_
      refine r_iaddN C dX4_begin_29 ?_
      exact r_iret C hr dX4_begin_30 ⟨by first | exact congrArg (fun z => some (Value.int (nI z))) ((hC.rw (by omega)).2.2.2.1.symm) | exact congrArg (fun z => some (Value.int (nI z))) ((by omega)), rfl⟩ (Nat.le_of_ble_eq_true rfl) (Nat.le_of_ble_eq_true rfl)
  · first
    | exfalso; first | omega | contradiction
    | skip
      refine r_iconst (v := (nI 0)) C dX4_begin_5 (by decide) ?_
      refine r_goto (tgt := 30) C dX4_begin_6 (by decide) ?_
      exact r_iret C hr dX4_begin_30 ⟨by first | exact congrArg (fun z => some (Value.int (nI z))) ((hC.rw (by omega)).2.2.2.1.symm) | exact congrArg (fun z => some (Value.int (nI z))) ((by omega)), rfl⟩ (Nat.le_of_ble_eq_true rfl) (Nat.le_of_ble_eq_true rfl)
set_option maxRecDepth 100000 in
set_option maxHeartbeats 4000000 in
theorem D_isHolder_3 {l : Launch} {D : va_G} {cy : Nat → ClassId} {X : (Nat → Prop) → State → Heap → Prop} {ba ra : Nat → Nat} {hf : Nat → Nat → Nat} {hq : Nat → Nat → Int32} {kn th : Int32} {sm : Int64} {Y : va_W} {f : Nat → Nat → Nat} {h0 : Nat} {w : Nat} {d0 : Nat} (hX : EnvM X cy) (hC : CInv f) (hG : MG f hf) (hh : h0 < 8) (hw : w < 8) (hch : chN f 3 w) (hd : 3 ≤ d0) : Cd l D cy X yX4_isHolder cX4_isHolder 3 (some .boolean) (rmz 2 60) [.ref (ba 9), .int (nI h0), .int (nI w)] (WM cy ba ra hf hq kn th sm ++ Y) (some (.int (nI (hlC (f 2) h0 d0 w)))) (WM cy ba ra hf hq kn th sm ++ Y) := by
  refine Cm.of [some (.ref (ba 9)), some (.int (nI h0)), some (.int (nI w))] pn_X4 rfl (Nat.le_of_ble_eq_true rfl) ?_
  intro p e s m args below meth c A C hE hr hnt hn
  refine r_iload_n C dX4_isHolder_0 rfl ?_
  refine r_iload_n C dX4_isHolder_1 rfl ?_
  refine r_icN_eq (a := h0) (b := w) (tgt := 26) C (by first | omega | (simp [up2, *]; done) | (simp [up2, *]; omega) | (simp only [up2_eq]; omega) | (split <;> omega)) (by first | omega | (simp [up2, *]; done) | (simp [up2, *]; omega) | (simp only [up2_eq]; omega) | (split <;> omega)) dX4_isHolder_2 (by decide) (fun h2_1 => ?_) (fun h2_1 => ?_)
  · first
    | exfalso; first | omega | contradiction
    | skip
      refine r_iconst (v := (nI 1)) C dX4_isHolder_26 (by decide) ?_
      refine r_goto (tgt := 31) C dX4_isHolder_27 (by decide) ?_
      exact r_zret C hr (by first | omega | (simp [up2, *]; done) | (simp [up2, *]; omega) | (simp only [up2_eq]; omega) | (split <;> omega)) dX4_isHolder_31 ⟨congrArg (fun z => some (Value.int (nI z))) (by first | (subst_vars; exact (hlC_self hh (by omega)).symm) | exact (hlC_row hC (by omega) (by omega) (by omega)).symm | (rw [hlC_step hw (by omega) (by omega)]; have q8 := hlC_le (f 2) h0 (d0 - 1) (f 2 w); omega)), rfl⟩ (Nat.le_of_ble_eq_true rfl) (Nat.le_of_ble_eq_true rfl)
  · first
    | exfalso; first | omega | contradiction
    | skip
      refine r_iload_n C dX4_isHolder_5 rfl ?_
      refine r_iconst (v := (nI 3)) C dX4_isHolder_6 (by decide) ?_
      refine r_icN_le (a := w) (b := 3) (tgt := 30) C (by first | omega | (simp [up2, *]; done) | (simp [up2, *]; omega) | (simp only [up2_eq]; omega) | (split <;> omega)) (by first | omega | (simp [up2, *]; done) | (simp [up2, *]; omega) | (simp only [up2_eq]; omega) | (split <;> omega)) dX4_isHolder_7 (by decide) (fun h7_2 => ?_) (fun h7_2 => ?_)
      · first
        | exfalso; first | omega | contradiction
        | skip
          refine r_iconst (v := (nI 0)) C dX4_isHolder_30 (by decide) ?_
          exact r_zret C hr (by first | omega | (simp [up2, *]; done) | (simp [up2, *]; omega) | (simp only [up2_eq]; omega) | (split <;> omega)) dX4_isHolder_31 ⟨congrArg (fun z => some (Value.int (nI z))) (by first | (subst_vars; exact (hlC_self hh (by omega)).symm) | exact (hlC_row hC (by omega) (by omega) (by omega)).symm | (rw [hlC_step hw (by omega) (by omega)]; have q8 := hlC_le (f 2) h0 (d0 - 1) (f 2 w); omega)), rfl⟩ (Nat.le_of_ble_eq_true rfl) (Nat.le_of_ble_eq_true rfl)
      · first
        | exfalso; first | omega | contradiction
        | skip
          have q1 := chN_step hch (by omega)
          have q2 := hG w (by omega) hw q1.2.1
          have q3 := hC.wi (by omega) hw q1.2.1
          refine r_aload_n C dX4_isHolder_10 rfl ?_
          refine r_iload_n C dX4_isHolder_11 rfl ?_
          refine r_aload_n C dX4_isHolder_12 rfl ?_
          refine m_get (v := .ref (ba 2)) C 2 (by decide) qf_X4_22 rfl rfl dX4_isHolder_13 ?_
          refine r_iload_n C dX4_isHolder_16 rfl ?_
          refine r_iconst (v := (nI 4)) C dX4_isHolder_17 (by decide) ?_
          refine r_isubN C dX4_isHolder_18 (by first | omega | (simp [up2, *]; done) | (simp [up2, *]; omega) | (simp only [up2_eq]; omega) | (split <;> omega)) ?_
          refine m_ald (i := w - 4) (z := w) (v := hf 2 w) C 1 (by decide) (by decide) (show w - 4 < 4 from (by first | omega | (simp [up2, *]; done) | (simp [up2, *]; omega) | (simp only [up2_eq]; omega) | (split <;> omega))) (show 4 + (w - 4) = w from (by omega)) rfl dX4_isHolder_19 ?_
          refine r_eqi (congrArg nI q2.1) ?_
          refine d_V (st := []) hX.1.stb C hE (D_isHolder_2 (ba := ba) (ra := ra) (hf := hf) (hq := hq) (kn := kn) (th := th) (sm := sm) (Y := Y) (f := f) (h0 := h0) (w := (f 2 w)) (d0 := (d0 - 1)) hX hC (MG.same (fun _ => rfl) (fun _ => rfl) hG) hh q3.1 q1.2.2 (by omega)) pk_X4_isHolder qm_X4_66 0 8 rfl rfl wm_0 rfl rfl (Nat.le_of_ble_eq_true rfl) dX4_isHolder_20 ⟨(Nat.le_of_ble_eq_true rfl), (Nat.le_of_ble_eq_true rfl)⟩ ⟨(Nat.le_of_ble_eq_true rfl), (Nat.le_of_ble_eq_true rfl)⟩ ?_
          refine r_w (w' := WM cy ba ra hf hq kn th sm ++ Y) rfl ?_
          refine r_ifN_eq (a := (hlC (f 2) h0 (d0 - 1) (f 2 w))) (tgt := 30) C (Nat.lt_of_le_of_lt (hlC_le _ _ _ _) (by decide)) dX4_isHolder_23 (by decide) (fun h23_3 => ?_) (fun h23_3 => ?_)
          · first
            | exfalso; first | omega | contradiction
            | skip
              refine r_iconst (v := (nI 0)) C dX4_isHolder_30 (by decide) ?_
              exact r_zret C hr (by first | omega | (simp [up2, *]; done) | (simp [up2, *]; omega) | (simp only [up2_eq]; omega) | (split <;> omega)) dX4_isHolder_31 ⟨congrArg (fun z => some (Value.int (nI z))) (by first | (subst_vars; exact (hlC_self hh (by omega)).symm) | exact (hlC_row hC (by omega) (by omega) (by omega)).symm | (rw [hlC_step hw (by omega) (by omega)]; have q8 := hlC_le (f 2) h0 (d0 - 1) (f 2 w); omega)), rfl⟩ (Nat.le_of_ble_eq_true rfl) (Nat.le_of_ble_eq_true rfl)
          · first
            | exfalso; first | omega | contradiction
            | skip
              refine r_iconst (v := (nI 1)) C dX4_isHolder_26 (by decide) ?_
              refine r_goto (tgt := 31) C dX4_isHolder_27 (by decide) ?_
              exact r_zret C hr (by first | omega | (simp [up2, *]; done) | (simp [up2, *]; omega) | (simp only [up2_eq]; omega) | (split <;> omega)) dX4_isHolder_31 ⟨congrArg (fun z => some (Value.int (nI z))) (by first | (subst_vars; exact (hlC_self hh (by omega)).symm) | exact (hlC_row hC (by omega) (by omega) (by omega)).symm | (rw [hlC_step hw (by omega) (by omega)]; have q8 := hlC_le (f 2) h0 (d0 - 1) (f 2 w); omega)), rfl⟩ (Nat.le_of_ble_eq_true rfl) (Nat.le_of_ble_eq_true rfl)
set_option maxRecDepth 100000 in
set_option maxHeartbeats 4000000 in
theorem D_rowOf_4 {l : Launch} {D : va_G} {cy : Nat → ClassId} {X : (Nat → Prop) → State → Heap → Prop} {ba ra : Nat → Nat} {hf : Nat → Nat → Nat} {hq : Nat → Nat → Int32} {kn th : Int32} {sm : Int64} {Y : va_W} {f : Nat → Nat → Nat} {w : Nat} (hX : EnvM X cy) (hC : CInv f) (hG : MG f hf) (hw : w < 8) (hch : chN f 4 w) : Cd l D cy X yX4_rowOf cX4_rowOf 2 (some .int) (rmz 3 90) [.ref (ba 9), .int (nI w)] (WM cy ba ra hf hq kn th sm ++ Y) (some (.int (nI (f 1 w)))) (WM cy ba ra hf hq kn th sm ++ Y) := by
  refine Cm.of [some (.ref (ba 9)), some (.int (nI w))] pn_X4 rfl (Nat.le_of_ble_eq_true rfl) ?_
  intro p e s m args below meth c A C hE hr hnt hn
  refine r_iload_n C dX4_rowOf_0 rfl ?_
  refine r_iconst (v := (nI 4)) C dX4_rowOf_1 (by decide) ?_
  refine r_icN_ge (a := w) (b := 4) (tgt := 9) C (by first | omega | (simp [up2, *]; done) | (simp [up2, *]; omega) | (simp only [up2_eq]; omega) | (split <;> omega)) (by first | omega | (simp [up2, *]; done) | (simp [up2, *]; omega) | (simp only [up2_eq]; omega) | (split <;> omega)) dX4_rowOf_2 (by decide) (fun h2_1 => ?_) (fun h2_1 => ?_)
  · first
    | exfalso; first | omega | contradiction
    | skip
      have q1 := chN_step hch (by omega)
      have q2 := hG w (by omega) hw q1.2.1
      have q3 := hC.wi (by omega) hw q1.2.1
      refine r_aload_n C dX4_rowOf_9 rfl ?_
      refine r_aload_n C dX4_rowOf_10 rfl ?_
      refine m_get (v := .ref (ba 2)) C 2 (by decide) qf_X4_22 rfl rfl dX4_rowOf_11 ?_
      refine r_iload_n C dX4_rowOf_14 rfl ?_
      refine r_iconst (v := (nI 4)) C dX4_rowOf_15 (by decide) ?_
      refine r_isubN C dX4_rowOf_16 (by first | omega | (simp [up2, *]; done) | (simp [up2, *]; omega) | (simp only [up2_eq]; omega) | (split <;> omega)) ?_
      refine m_ald (i := w - 4) (z := w) (v := hf 2 w) C 1 (by decide) (by decide) (show w - 4 < 4 from (by first | omega | (simp [up2, *]; done) | (simp [up2, *]; omega) | (simp only [up2_eq]; omega) | (split <;> omega))) (show 4 + (w - 4) = w from (by omega)) rfl dX4_rowOf_17 ?_
      refine r_eqi (congrArg nI q2.1) ?_
      refine d_V (st := []) hX.1.stb C hE (D_rowOf_3 (ba := ba) (ra := ra) (hf := hf) (hq := hq) (kn := kn) (th := th) (sm := sm) (Y := Y) (f := f) (w := (f 2 w)) hX hC (MG.same (fun _ => rfl) (fun _ => rfl) hG) q3.1 q1.2.2) pk_X4_rowOf qm_X4_48 0 8 rfl rfl wm_0 rfl rfl (Nat.le_of_ble_eq_true rfl) dX4_rowOf_18 ⟨(Nat.le_of_ble_eq_true rfl), (Nat.le_of_ble_eq_true rfl)⟩ ⟨(Nat.le_of_ble_eq_true rfl), (Nat.le_of_ble_eq_true rfl)⟩ ?_
      refine r_w (w' := WM cy ba ra hf hq kn th sm ++ Y) rfl ?_
      exact r_iret C hr dX4_rowOf_21 ⟨by first | exact congrArg (fun z => some (Value.int (nI z))) ((hC.rw (by omega)).2.1.symm) | exact congrArg (fun z => some (Value.int (nI z))) (q3.2.2.1.symm), rfl⟩ (Nat.le_of_ble_eq_true rfl) (Nat.le_of_ble_eq_true rfl)
  · first
    | exfalso; first | omega | contradiction
    | skip
      refine r_iload_n C dX4_rowOf_5 rfl ?_
      refine r_goto (tgt := 21) C dX4_rowOf_6 (by decide) ?_
      exact r_iret C hr dX4_rowOf_21 ⟨by first | exact congrArg (fun z => some (Value.int (nI z))) ((hC.rw (by omega)).2.1.symm) | exact congrArg (fun z => some (Value.int (nI z))) (q3.2.2.1.symm), rfl⟩ (Nat.le_of_ble_eq_true rfl) (Nat.le_of_ble_eq_true rfl)
set_option maxRecDepth 100000 in
set_option maxHeartbeats 4000000 in
theorem D_begin_4 {l : Launch} {D : va_G} {cy : Nat → ClassId} {X : (Nat → Prop) → State → Heap → Prop} {ba ra : Nat → Nat} {hf : Nat → Nat → Nat} {hq : Nat → Nat → Int32} {kn th : Int32} {sm : Int64} {Y : va_W} {f : Nat → Nat → Nat} {w : Nat} (hX : EnvM X cy) (hC : CInv f) (hG : MG f hf) (hw : w < 8) (hch : chN f 4 w) : Cd l D cy X yX4_begin cX4_begin 2 (some .int) (rmz 3 90) [.ref (ba 9), .int (nI w)] (WM cy ba ra hf hq kn th sm ++ Y) (some (.int (nI (f 3 w)))) (WM cy ba ra hf hq kn th sm ++ Y) := by
  refine Cm.of [some (.ref (ba 9)), some (.int (nI w))] pn_X4 rfl (Nat.le_of_ble_eq_true rfl) ?_
  intro p e s m args below meth c A C hE hr hnt hn
  refine r_iload_n C dX4_begin_0 rfl ?_
  refine r_iconst (v := (nI 4)) C dX4_begin_1 (by decide) ?_
  refine r_icN_ge (a := w) (b := 4) (tgt := 9) C (by first | omega | (simp [up2, *]; done) | (simp [up2, *]; omega) | (simp only [up2_eq]; omega) | (split <;> omega)) (by first | omega | (simp [up2, *]; done) | (simp [up2, *]; omega) | (simp only [up2_eq]; omega) | (split <;> omega)) dX4_begin_2 (by decide) (fun h2_1 => ?_) (fun h2_1 => ?_)
  · first
    | exfalso; first | omega | contradiction
    | skip
      have q1 := chN_step hch (by omega)
      have q2 := hG w (by omega) hw q1.2.1
      have q3 := hC.wi (by omega) hw q1.2.1
      refine r_aload_n C dX4_begin_9 rfl ?_
      refine m_get (v := .ref (ba 3)) C 3 (by decide) qf_X4_26 rfl rfl dX4_begin_10 ?_
      refine r_iload_n C dX4_begin_13 rfl ?_
      refine r_iconst (v := (nI 4)) C dX4_begin_14 (by decide) ?_
      refine r_isubN C dX4_begin_15 (by first | omega | (simp [up2, *]; done) | (simp [up2, *]; omega) | (simp only [up2_eq]; omega) | (split <;> omega)) ?_
      refine m_ald (i := w - 4) (z := w) (v := hf 3 w) C 2 (by decide) (by decide) (show w - 4 < 4 from (by first | omega | (simp [up2, *]; done) | (simp [up2, *]; omega) | (simp only [up2_eq]; omega) | (split <;> omega))) (show 4 + (w - 4) = w from (by omega)) rfl dX4_begin_16 ?_
      refine r_aload_n C dX4_begin_17 rfl ?_
      refine r_aload_n C dX4_begin_18 rfl ?_
      refine m_get (v := .ref (ba 2)) C 2 (by decide) qf_X4_22 rfl rfl dX4_begin_19 ?_
      refine r_iload_n C dX4_begin_22 rfl ?_
      refine r_iconst (v := (nI 4)) C dX4_begin_23 (by decide) ?_
      refine r_isubN C dX4_begin_24 (by first | omega | (simp [up2, *]; done) | (simp [up2, *]; omega) | (simp only [up2_eq]; omega) | (split <;> omega)) ?_
      refine m_ald (i := w - 4) (z := w) (v := hf 2 w) C 1 (by decide) (by decide) (show w - 4 < 4 from (by first | omega | (simp [up2, *]; done) | (simp [up2, *]; omega) | (simp only [up2_eq]; omega) | (split <;> omega))) (show 4 + (w - 4) = w from (by omega)) rfl dX4_begin_25 ?_
      refine r_eqi (congrArg nI q2.1) ?_
      refine d_V (st := [.int (nI (hf 3 w))]) hX.1.stb C hE (D_begin_3 (ba := ba) (ra := ra) (hf := hf) (hq := hq) (kn := kn) (th := th) (sm := sm) (Y := Y) (f := f) (w := (f 2 w)) hX hC (MG.same (fun _ => rfl) (fun _ => rfl) hG) q3.1 q1.2.2) pk_X4_begin qm_X4_52 0 8 rfl rfl wm_0 rfl rfl (Nat.le_of_ble_eq_true rfl) dX4_begin_26 ⟨(Nat.le_of_ble_eq_true rfl), (Nat.le_of_ble_eq_true rfl)⟩ ⟨(Nat.le_of_ble_eq_true rfl), (Nat.le_of_ble_eq_true rfl)⟩ ?_
      refine r_w (w' := WM cy ba ra hf hq kn th sm ++ Y) rfl ?_
      refine r_iaddN C dX4_begin_29 ?_
      exact r_iret C hr dX4_begin_30 ⟨by first | exact congrArg (fun z => some (Value.int (nI z))) ((hC.rw (by omega)).2.2.2.1.symm) | exact congrArg (fun z => some (Value.int (nI z))) ((by omega)), rfl⟩ (Nat.le_of_ble_eq_true rfl) (Nat.le_of_ble_eq_true rfl)
  · first
    | exfalso; first | omega | contradiction
    | skip
      refine r_iconst (v := (nI 0)) C dX4_begin_5 (by decide) ?_
      refine r_goto (tgt := 30) C dX4_begin_6 (by decide) ?_
      exact r_iret C hr dX4_begin_30 ⟨by first | exact congrArg (fun z => some (Value.int (nI z))) ((hC.rw (by omega)).2.2.2.1.symm) | exact congrArg (fun z => some (Value.int (nI z))) ((by omega)), rfl⟩ (Nat.le_of_ble_eq_true rfl) (Nat.le_of_ble_eq_true rfl)
set_option maxRecDepth 100000 in
set_option maxHeartbeats 4000000 in
theorem D_isHolder_4 {l : Launch} {D : va_G} {cy : Nat → ClassId} {X : (Nat → Prop) → State → Heap → Prop} {ba ra : Nat → Nat} {hf : Nat → Nat → Nat} {hq : Nat → Nat → Int32} {kn th : Int32} {sm : Int64} {Y : va_W} {f : Nat → Nat → Nat} {h0 : Nat} {w : Nat} {d0 : Nat} (hX : EnvM X cy) (hC : CInv f) (hG : MG f hf) (hh : h0 < 8) (hw : w < 8) (hch : chN f 4 w) (hd : 4 ≤ d0) : Cd l D cy X yX4_isHolder cX4_isHolder 3 (some .boolean) (rmz 3 90) [.ref (ba 9), .int (nI h0), .int (nI w)] (WM cy ba ra hf hq kn th sm ++ Y) (some (.int (nI (hlC (f 2) h0 d0 w)))) (WM cy ba ra hf hq kn th sm ++ Y) := by
  refine Cm.of [some (.ref (ba 9)), some (.int (nI h0)), some (.int (nI w))] pn_X4 rfl (Nat.le_of_ble_eq_true rfl) ?_
  intro p e s m args below meth c A C hE hr hnt hn
  refine r_iload_n C dX4_isHolder_0 rfl ?_
  refine r_iload_n C dX4_isHolder_1 rfl ?_
  refine r_icN_eq (a := h0) (b := w) (tgt := 26) C (by first | omega | (simp [up2, *]; done) | (simp [up2, *]; omega) | (simp only [up2_eq]; omega) | (split <;> omega)) (by first | omega | (simp [up2, *]; done) | (simp [up2, *]; omega) | (simp only [up2_eq]; omega) | (split <;> omega)) dX4_isHolder_2 (by decide) (fun h2_1 => ?_) (fun h2_1 => ?_)
  · first
    | exfalso; first | omega | contradiction
    | skip
      refine r_iconst (v := (nI 1)) C dX4_isHolder_26 (by decide) ?_
      refine r_goto (tgt := 31) C dX4_isHolder_27 (by decide) ?_
      exact r_zret C hr (by first | omega | (simp [up2, *]; done) | (simp [up2, *]; omega) | (simp only [up2_eq]; omega) | (split <;> omega)) dX4_isHolder_31 ⟨congrArg (fun z => some (Value.int (nI z))) (by first | (subst_vars; exact (hlC_self hh (by omega)).symm) | exact (hlC_row hC (by omega) (by omega) (by omega)).symm | (rw [hlC_step hw (by omega) (by omega)]; have q8 := hlC_le (f 2) h0 (d0 - 1) (f 2 w); omega)), rfl⟩ (Nat.le_of_ble_eq_true rfl) (Nat.le_of_ble_eq_true rfl)
  · first
    | exfalso; first | omega | contradiction
    | skip
      refine r_iload_n C dX4_isHolder_5 rfl ?_
      refine r_iconst (v := (nI 3)) C dX4_isHolder_6 (by decide) ?_
      refine r_icN_le (a := w) (b := 3) (tgt := 30) C (by first | omega | (simp [up2, *]; done) | (simp [up2, *]; omega) | (simp only [up2_eq]; omega) | (split <;> omega)) (by first | omega | (simp [up2, *]; done) | (simp [up2, *]; omega) | (simp only [up2_eq]; omega) | (split <;> omega)) dX4_isHolder_7 (by decide) (fun h7_2 => ?_) (fun h7_2 => ?_)
      · first
        | exfalso; first | omega | contradiction
        | skip
          refine r_iconst (v := (nI 0)) C dX4_isHolder_30 (by decide) ?_
          exact r_zret C hr (by first | omega | (simp [up2, *]; done) | (simp [up2, *]; omega) | (simp only [up2_eq]; omega) | (split <;> omega)) dX4_isHolder_31 ⟨congrArg (fun z => some (Value.int (nI z))) (by first | (subst_vars; exact (hlC_self hh (by omega)).symm) | exact (hlC_row hC (by omega) (by omega) (by omega)).symm | (rw [hlC_step hw (by omega) (by omega)]; have q8 := hlC_le (f 2) h0 (d0 - 1) (f 2 w); omega)), rfl⟩ (Nat.le_of_ble_eq_true rfl) (Nat.le_of_ble_eq_true rfl)
      · first
        | exfalso; first | omega | contradiction
        | skip
          have q1 := chN_step hch (by omega)
          have q2 := hG w (by omega) hw q1.2.1
          have q3 := hC.wi (by omega) hw q1.2.1
          refine r_aload_n C dX4_isHolder_10 rfl ?_
          refine r_iload_n C dX4_isHolder_11 rfl ?_
          refine r_aload_n C dX4_isHolder_12 rfl ?_
          refine m_get (v := .ref (ba 2)) C 2 (by decide) qf_X4_22 rfl rfl dX4_isHolder_13 ?_
          refine r_iload_n C dX4_isHolder_16 rfl ?_
          refine r_iconst (v := (nI 4)) C dX4_isHolder_17 (by decide) ?_
          refine r_isubN C dX4_isHolder_18 (by first | omega | (simp [up2, *]; done) | (simp [up2, *]; omega) | (simp only [up2_eq]; omega) | (split <;> omega)) ?_
          refine m_ald (i := w - 4) (z := w) (v := hf 2 w) C 1 (by decide) (by decide) (show w - 4 < 4 from (by first | omega | (simp [up2, *]; done) | (simp [up2, *]; omega) | (simp only [up2_eq]; omega) | (split <;> omega))) (show 4 + (w - 4) = w from (by omega)) rfl dX4_isHolder_19 ?_
          refine r_eqi (congrArg nI q2.1) ?_
          refine d_V (st := []) hX.1.stb C hE (D_isHolder_3 (ba := ba) (ra := ra) (hf := hf) (hq := hq) (kn := kn) (th := th) (sm := sm) (Y := Y) (f := f) (h0 := h0) (w := (f 2 w)) (d0 := (d0 - 1)) hX hC (MG.same (fun _ => rfl) (fun _ => rfl) hG) hh q3.1 q1.2.2 (by omega)) pk_X4_isHolder qm_X4_66 0 8 rfl rfl wm_0 rfl rfl (Nat.le_of_ble_eq_true rfl) dX4_isHolder_20 ⟨(Nat.le_of_ble_eq_true rfl), (Nat.le_of_ble_eq_true rfl)⟩ ⟨(Nat.le_of_ble_eq_true rfl), (Nat.le_of_ble_eq_true rfl)⟩ ?_
          refine r_w (w' := WM cy ba ra hf hq kn th sm ++ Y) rfl ?_
          refine r_ifN_eq (a := (hlC (f 2) h0 (d0 - 1) (f 2 w))) (tgt := 30) C (Nat.lt_of_le_of_lt (hlC_le _ _ _ _) (by decide)) dX4_isHolder_23 (by decide) (fun h23_3 => ?_) (fun h23_3 => ?_)
          · first
            | exfalso; first | omega | contradiction
            | skip
              refine r_iconst (v := (nI 0)) C dX4_isHolder_30 (by decide) ?_
              exact r_zret C hr (by first | omega | (simp [up2, *]; done) | (simp [up2, *]; omega) | (simp only [up2_eq]; omega) | (split <;> omega)) dX4_isHolder_31 ⟨congrArg (fun z => some (Value.int (nI z))) (by first | (subst_vars; exact (hlC_self hh (by omega)).symm) | exact (hlC_row hC (by omega) (by omega) (by omega)).symm | (rw [hlC_step hw (by omega) (by omega)]; have q8 := hlC_le (f 2) h0 (d0 - 1) (f 2 w); omega)), rfl⟩ (Nat.le_of_ble_eq_true rfl) (Nat.le_of_ble_eq_true rfl)
          · first
            | exfalso; first | omega | contradiction
            | skip
              refine r_iconst (v := (nI 1)) C dX4_isHolder_26 (by decide) ?_
              refine r_goto (tgt := 31) C dX4_isHolder_27 (by decide) ?_
              exact r_zret C hr (by first | omega | (simp [up2, *]; done) | (simp [up2, *]; omega) | (simp only [up2_eq]; omega) | (split <;> omega)) dX4_isHolder_31 ⟨congrArg (fun z => some (Value.int (nI z))) (by first | (subst_vars; exact (hlC_self hh (by omega)).symm) | exact (hlC_row hC (by omega) (by omega) (by omega)).symm | (rw [hlC_step hw (by omega) (by omega)]; have q8 := hlC_le (f 2) h0 (d0 - 1) (f 2 w); omega)), rfl⟩ (Nat.le_of_ble_eq_true rfl) (Nat.le_of_ble_eq_true rfl)
set_option maxRecDepth 100000 in
set_option maxHeartbeats 4000000 in
theorem D_rowOf_5 {l : Launch} {D : va_G} {cy : Nat → ClassId} {X : (Nat → Prop) → State → Heap → Prop} {ba ra : Nat → Nat} {hf : Nat → Nat → Nat} {hq : Nat → Nat → Int32} {kn th : Int32} {sm : Int64} {Y : va_W} {f : Nat → Nat → Nat} {w : Nat} (hX : EnvM X cy) (hC : CInv f) (hG : MG f hf) (hw : w < 8) (hch : chN f 5 w) : Cd l D cy X yX4_rowOf cX4_rowOf 2 (some .int) (rmz 4 120) [.ref (ba 9), .int (nI w)] (WM cy ba ra hf hq kn th sm ++ Y) (some (.int (nI (f 1 w)))) (WM cy ba ra hf hq kn th sm ++ Y) := by
  refine Cm.of [some (.ref (ba 9)), some (.int (nI w))] pn_X4 rfl (Nat.le_of_ble_eq_true rfl) ?_
  intro p e s m args below meth c A C hE hr hnt hn
  refine r_iload_n C dX4_rowOf_0 rfl ?_
  refine r_iconst (v := (nI 4)) C dX4_rowOf_1 (by decide) ?_
  refine r_icN_ge (a := w) (b := 4) (tgt := 9) C (by first | omega | (simp [up2, *]; done) | (simp [up2, *]; omega) | (simp only [up2_eq]; omega) | (split <;> omega)) (by first | omega | (simp [up2, *]; done) | (simp [up2, *]; omega) | (simp only [up2_eq]; omega) | (split <;> omega)) dX4_rowOf_2 (by decide) (fun h2_1 => ?_) (fun h2_1 => ?_)
  · first
    | exfalso; first | omega | contradiction
    | skip
      have q1 := chN_step hch (by omega)
      have q2 := hG w (by omega) hw q1.2.1
      have q3 := hC.wi (by omega) hw q1.2.1
      refine r_aload_n C dX4_rowOf_9 rfl ?_
      refine r_aload_n C dX4_rowOf_10 rfl ?_
      refine m_get (v := .ref (ba 2)) C 2 (by decide) qf_X4_22 rfl rfl dX4_rowOf_11 ?_
      refine r_iload_n C dX4_rowOf_14 rfl ?_
      refine r_iconst (v := (nI 4)) C dX4_rowOf_15 (by decide) ?_
      refine r_isubN C dX4_rowOf_16 (by first | omega | (simp [up2, *]; done) | (simp [up2, *]; omega) | (simp only [up2_eq]; omega) | (split <;> omega)) ?_
      refine m_ald (i := w - 4) (z := w) (v := hf 2 w) C 1 (by decide) (by decide) (show w - 4 < 4 from (by first | omega | (simp [up2, *]; done) | (simp [up2, *]; omega) | (simp only [up2_eq]; omega) | (split <;> omega))) (show 4 + (w - 4) = w from (by omega)) rfl dX4_rowOf_17 ?_
      refine r_eqi (congrArg nI q2.1) ?_
      refine d_V (st := []) hX.1.stb C hE (D_rowOf_4 (ba := ba) (ra := ra) (hf := hf) (hq := hq) (kn := kn) (th := th) (sm := sm) (Y := Y) (f := f) (w := (f 2 w)) hX hC (MG.same (fun _ => rfl) (fun _ => rfl) hG) q3.1 q1.2.2) pk_X4_rowOf qm_X4_48 0 8 rfl rfl wm_0 rfl rfl (Nat.le_of_ble_eq_true rfl) dX4_rowOf_18 ⟨(Nat.le_of_ble_eq_true rfl), (Nat.le_of_ble_eq_true rfl)⟩ ⟨(Nat.le_of_ble_eq_true rfl), (Nat.le_of_ble_eq_true rfl)⟩ ?_
      refine r_w (w' := WM cy ba ra hf hq kn th sm ++ Y) rfl ?_
      exact r_iret C hr dX4_rowOf_21 ⟨by first | exact congrArg (fun z => some (Value.int (nI z))) ((hC.rw (by omega)).2.1.symm) | exact congrArg (fun z => some (Value.int (nI z))) (q3.2.2.1.symm), rfl⟩ (Nat.le_of_ble_eq_true rfl) (Nat.le_of_ble_eq_true rfl)
  · first
    | exfalso; first | omega | contradiction
    | skip
      refine r_iload_n C dX4_rowOf_5 rfl ?_
      refine r_goto (tgt := 21) C dX4_rowOf_6 (by decide) ?_
      exact r_iret C hr dX4_rowOf_21 ⟨by first | exact congrArg (fun z => some (Value.int (nI z))) ((hC.rw (by omega)).2.1.symm) | exact congrArg (fun z => some (Value.int (nI z))) (q3.2.2.1.symm), rfl⟩ (Nat.le_of_ble_eq_true rfl) (Nat.le_of_ble_eq_true rfl)
set_option maxRecDepth 100000 in
set_option maxHeartbeats 4000000 in
theorem D_begin_5 {l : Launch} {D : va_G} {cy : Nat → ClassId} {X : (Nat → Prop) → State → Heap → Prop} {ba ra : Nat → Nat} {hf : Nat → Nat → Nat} {hq : Nat → Nat → Int32} {kn th : Int32} {sm : Int64} {Y : va_W} {f : Nat → Nat → Nat} {w : Nat} (hX : EnvM X cy) (hC : CInv f) (hG : MG f hf) (hw : w < 8) (hch : chN f 5 w) : Cd l D cy X yX4_begin cX4_begin 2 (some .int) (rmz 4 120) [.ref (ba 9), .int (nI w)] (WM cy ba ra hf hq kn th sm ++ Y) (some (.int (nI (f 3 w)))) (WM cy ba ra hf hq kn th sm ++ Y) := by
  refine Cm.of [some (.ref (ba 9)), some (.int (nI w))] pn_X4 rfl (Nat.le_of_ble_eq_true rfl) ?_
  intro p e s m args below meth c A C hE hr hnt hn
  refine r_iload_n C dX4_begin_0 rfl ?_
  refine r_iconst (v := (nI 4)) C dX4_begin_1 (by decide) ?_
  refine r_icN_ge (a := w) (b := 4) (tgt := 9) C (by first | omega | (simp [up2, *]; done) | (simp [up2, *]; omega) | (simp only [up2_eq]; omega) | (split <;> omega)) (by first | omega | (simp [up2, *]; done) | (simp [up2, *]; omega) | (simp only [up2_eq]; omega) | (split <;> omega)) dX4_begin_2 (by decide) (fun h2_1 => ?_) (fun h2_1 => ?_)
  · first
    | exfalso; first | omega | contradiction
    | skip
      have q1 := chN_step hch (by omega)
      have q2 := hG w (by omega) hw q1.2.1
      have q3 := hC.wi (by omega) hw q1.2.1
      refine r_aload_n C dX4_begin_9 rfl ?_
      refine m_get (v := .ref (ba 3)) C 3 (by decide) qf_X4_26 rfl rfl dX4_begin_10 ?_
      refine r_iload_n C dX4_begin_13 rfl ?_
      refine r_iconst (v := (nI 4)) C dX4_begin_14 (by decide) ?_
      refine r_isubN C dX4_begin_15 (by first | omega | (simp [up2, *]; done) | (simp [up2, *]; omega) | (simp only [up2_eq]; omega) | (split <;> omega)) ?_
      refine m_ald (i := w - 4) (z := w) (v := hf 3 w) C 2 (by decide) (by decide) (show w - 4 < 4 from (by first | omega | (simp [up2, *]; done) | (simp [up2, *]; omega) | (simp only [up2_eq]; omega) | (split <;> omega))) (show 4 + (w - 4) = w from (by omega)) rfl dX4_begin_16 ?_
      refine r_aload_n C dX4_begin_17 rfl ?_
      refine r_aload_n C dX4_begin_18 rfl ?_
      refine m_get (v := .ref (ba 2)) C 2 (by decide) qf_X4_22 rfl rfl dX4_begin_19 ?_
      refine r_iload_n C dX4_begin_22 rfl ?_
      refine r_iconst (v := (nI 4)) C dX4_begin_23 (by decide) ?_
      refine r_isubN C dX4_begin_24 (by first | omega | (simp [up2, *]; done) | (simp [up2, *]; omega) | (simp only [up2_eq]; omega) | (split <;> omega)) ?_
      refine m_ald (i := w - 4) (z := w) (v := hf 2 w) C 1 (by decide) (by decide) (show w - 4 < 4 from (by first | omega | (simp [up2, *]; done) | (simp [up2, *]; omega) | (simp only [up2_eq]; omega) | (split <;> omega))) (show 4 + (w - 4) = w from (by omega)) rfl dX4_begin_25 ?_
      refine r_eqi (congrArg nI q2.1) ?_
      refine d_V (st := [.int (nI (hf 3 w))]) hX.1.stb C hE (D_begin_4 (ba := ba) (ra := ra) (hf := hf) (hq := hq) (kn := kn) (th := th) (sm := sm) (Y := Y) (f := f) (w := (f 2 w)) hX hC (MG.same (fun _ => rfl) (fun _ => rfl) hG) q3.1 q1.2.2) pk_X4_begin qm_X4_52 0 8 rfl rfl wm_0 rfl rfl (Nat.le_of_ble_eq_true rfl) dX4_begin_26 ⟨(Nat.le_of_ble_eq_true rfl), (Nat.le_of_ble_eq_true rfl)⟩ ⟨(Nat.le_of_ble_eq_true rfl), (Nat.le_of_ble_eq_true rfl)⟩ ?_
      refine r_w (w' := WM cy ba ra hf hq kn th sm ++ Y) rfl ?_
      refine r_iaddN C dX4_begin_29 ?_
      exact r_iret C hr dX4_begin_30 ⟨by first | exact congrArg (fun z => some (Value.int (nI z))) ((hC.rw (by omega)).2.2.2.1.symm) | exact congrArg (fun z => some (Value.int (nI z))) ((by omega)), rfl⟩ (Nat.le_of_ble_eq_true rfl) (Nat.le_of_ble_eq_true rfl)
  · first
    | exfalso; first | omega | contradiction
    | skip
      refine r_iconst (v := (nI 0)) C dX4_begin_5 (by decide) ?_
      refine r_goto (tgt := 30) C dX4_begin_6 (by decide) ?_
      exact r_iret C hr dX4_begin_30 ⟨by first | exact congrArg (fun z => some (Value.int (nI z))) ((hC.rw (by omega)).2.2.2.1.symm) | exact congrArg (fun z => some (Value.int (nI z))) ((by omega)), rfl⟩ (Nat.le_of_ble_eq_true rfl) (Nat.le_of_ble_eq_true rfl)
set_option maxRecDepth 100000 in
set_option maxHeartbeats 4000000 in
theorem D_isHolder_5 {l : Launch} {D : va_G} {cy : Nat → ClassId} {X : (Nat → Prop) → State → Heap → Prop} {ba ra : Nat → Nat} {hf : Nat → Nat → Nat} {hq : Nat → Nat → Int32} {kn th : Int32} {sm : Int64} {Y : va_W} {f : Nat → Nat → Nat} {h0 : Nat} {w : Nat} {d0 : Nat} (hX : EnvM X cy) (hC : CInv f) (hG : MG f hf) (hh : h0 < 8) (hw : w < 8) (hch : chN f 5 w) (hd : 5 ≤ d0) : Cd l D cy X yX4_isHolder cX4_isHolder 3 (some .boolean) (rmz 4 120) [.ref (ba 9), .int (nI h0), .int (nI w)] (WM cy ba ra hf hq kn th sm ++ Y) (some (.int (nI (hlC (f 2) h0 d0 w)))) (WM cy ba ra hf hq kn th sm ++ Y) := by
  refine Cm.of [some (.ref (ba 9)), some (.int (nI h0)), some (.int (nI w))] pn_X4 rfl (Nat.le_of_ble_eq_true rfl) ?_
  intro p e s m args below meth c A C hE hr hnt hn
  refine r_iload_n C dX4_isHolder_0 rfl ?_
  refine r_iload_n C dX4_isHolder_1 rfl ?_
  refine r_icN_eq (a := h0) (b := w) (tgt := 26) C (by first | omega | (simp [up2, *]; done) | (simp [up2, *]; omega) | (simp only [up2_eq]; omega) | (split <;> omega)) (by first | omega | (simp [up2, *]; done) | (simp [up2, *]; omega) | (simp only [up2_eq]; omega) | (split <;> omega)) dX4_isHolder_2 (by decide) (fun h2_1 => ?_) (fun h2_1 => ?_)
  · first
    | exfalso; first | omega | contradiction
    | skip
      refine r_iconst (v := (nI 1)) C dX4_isHolder_26 (by decide) ?_
      refine r_goto (tgt := 31) C dX4_isHolder_27 (by decide) ?_
      exact r_zret C hr (by first | omega | (simp [up2, *]; done) | (simp [up2, *]; omega) | (simp only [up2_eq]; omega) | (split <;> omega)) dX4_isHolder_31 ⟨congrArg (fun z => some (Value.int (nI z))) (by first | (subst_vars; exact (hlC_self hh (by omega)).symm) | exact (hlC_row hC (by omega) (by omega) (by omega)).symm | (rw [hlC_step hw (by omega) (by omega)]; have q8 := hlC_le (f 2) h0 (d0 - 1) (f 2 w); omega)), rfl⟩ (Nat.le_of_ble_eq_true rfl) (Nat.le_of_ble_eq_true rfl)
  · first
    | exfalso; first | omega | contradiction
    | skip
      refine r_iload_n C dX4_isHolder_5 rfl ?_
      refine r_iconst (v := (nI 3)) C dX4_isHolder_6 (by decide) ?_
      refine r_icN_le (a := w) (b := 3) (tgt := 30) C (by first | omega | (simp [up2, *]; done) | (simp [up2, *]; omega) | (simp only [up2_eq]; omega) | (split <;> omega)) (by first | omega | (simp [up2, *]; done) | (simp [up2, *]; omega) | (simp only [up2_eq]; omega) | (split <;> omega)) dX4_isHolder_7 (by decide) (fun h7_2 => ?_) (fun h7_2 => ?_)
      · first
        | exfalso; first | omega | contradiction
        | skip
          refine r_iconst (v := (nI 0)) C dX4_isHolder_30 (by decide) ?_
          exact r_zret C hr (by first | omega | (simp [up2, *]; done) | (simp [up2, *]; omega) | (simp only [up2_eq]; omega) | (split <;> omega)) dX4_isHolder_31 ⟨congrArg (fun z => some (Value.int (nI z))) (by first | (subst_vars; exact (hlC_self hh (by omega)).symm) | exact (hlC_row hC (by omega) (by omega) (by omega)).symm | (rw [hlC_step hw (by omega) (by omega)]; have q8 := hlC_le (f 2) h0 (d0 - 1) (f 2 w); omega)), rfl⟩ (Nat.le_of_ble_eq_true rfl) (Nat.le_of_ble_eq_true rfl)
      · first
        | exfalso; first | omega | contradiction
        | skip
          have q1 := chN_step hch (by omega)
          have q2 := hG w (by omega) hw q1.2.1
          have q3 := hC.wi (by omega) hw q1.2.1
          refine r_aload_n C dX4_isHolder_10 rfl ?_
          refine r_iload_n C dX4_isHolder_11 rfl ?_
          refine r_aload_n C dX4_isHolder_12 rfl ?_
          refine m_get (v := .ref (ba 2)) C 2 (by decide) qf_X4_22 rfl rfl dX4_isHolder_13 ?_
          refine r_iload_n C dX4_isHolder_16 rfl ?_
          refine r_iconst (v := (nI 4)) C dX4_isHolder_17 (by decide) ?_
          refine r_isubN C dX4_isHolder_18 (by first | omega | (simp [up2, *]; done) | (simp [up2, *]; omega) | (simp only [up2_eq]; omega) | (split <;> omega)) ?_
          refine m_ald (i := w - 4) (z := w) (v := hf 2 w) C 1 (by decide) (by decide) (show w - 4 < 4 from (by first | omega | (simp [up2, *]; done) | (simp [up2, *]; omega) | (simp only [up2_eq]; omega) | (split <;> omega))) (show 4 + (w - 4) = w from (by omega)) rfl dX4_isHolder_19 ?_
          refine r_eqi (congrArg nI q2.1) ?_
          refine d_V (st := []) hX.1.stb C hE (D_isHolder_4 (ba := ba) (ra := ra) (hf := hf) (hq := hq) (kn := kn) (th := th) (sm := sm) (Y := Y) (f := f) (h0 := h0) (w := (f 2 w)) (d0 := (d0 - 1)) hX hC (MG.same (fun _ => rfl) (fun _ => rfl) hG) hh q3.1 q1.2.2 (by omega)) pk_X4_isHolder qm_X4_66 0 8 rfl rfl wm_0 rfl rfl (Nat.le_of_ble_eq_true rfl) dX4_isHolder_20 ⟨(Nat.le_of_ble_eq_true rfl), (Nat.le_of_ble_eq_true rfl)⟩ ⟨(Nat.le_of_ble_eq_true rfl), (Nat.le_of_ble_eq_true rfl)⟩ ?_
          refine r_w (w' := WM cy ba ra hf hq kn th sm ++ Y) rfl ?_
          refine r_ifN_eq (a := (hlC (f 2) h0 (d0 - 1) (f 2 w))) (tgt := 30) C (Nat.lt_of_le_of_lt (hlC_le _ _ _ _) (by decide)) dX4_isHolder_23 (by decide) (fun h23_3 => ?_) (fun h23_3 => ?_)
          · first
            | exfalso; first | omega | contradiction
            | skip
              refine r_iconst (v := (nI 0)) C dX4_isHolder_30 (by decide) ?_
              exact r_zret C hr (by first | omega | (simp [up2, *]; done) | (simp [up2, *]; omega) | (simp only [up2_eq]; omega) | (split <;> omega)) dX4_isHolder_31 ⟨congrArg (fun z => some (Value.int (nI z))) (by first | (subst_vars; exact (hlC_self hh (by omega)).symm) | exact (hlC_row hC (by omega) (by omega) (by omega)).symm | (rw [hlC_step hw (by omega) (by omega)]; have q8 := hlC_le (f 2) h0 (d0 - 1) (f 2 w); omega)), rfl⟩ (Nat.le_of_ble_eq_true rfl) (Nat.le_of_ble_eq_true rfl)
          · first
            | exfalso; first | omega | contradiction
            | skip
              refine r_iconst (v := (nI 1)) C dX4_isHolder_26 (by decide) ?_
              refine r_goto (tgt := 31) C dX4_isHolder_27 (by decide) ?_
              exact r_zret C hr (by first | omega | (simp [up2, *]; done) | (simp [up2, *]; omega) | (simp only [up2_eq]; omega) | (split <;> omega)) dX4_isHolder_31 ⟨congrArg (fun z => some (Value.int (nI z))) (by first | (subst_vars; exact (hlC_self hh (by omega)).symm) | exact (hlC_row hC (by omega) (by omega) (by omega)).symm | (rw [hlC_step hw (by omega) (by omega)]; have q8 := hlC_le (f 2) h0 (d0 - 1) (f 2 w); omega)), rfl⟩ (Nat.le_of_ble_eq_true rfl) (Nat.le_of_ble_eq_true rfl)
theorem D_rowOf {l : Launch} {D : va_G} {cy : Nat → ClassId} {X : (Nat → Prop) → State → Heap → Prop} {ba ra : Nat → Nat} {hf : Nat → Nat → Nat} {hq : Nat → Nat → Int32} {kn th : Int32} {sm : Int64} {Y : va_W} {f : Nat → Nat → Nat} {w : Nat} (hX : EnvM X cy) (hC : CInv f) (hG : MG f hf) (hw : w < 8) (h5w : f 5 w = 1) : Cd l D cy X yX4_rowOf cX4_rowOf 2 (some .int) (rmz 4 120) [.ref (ba 9), .int (nI w)] (WM cy ba ra hf hq kn th sm ++ Y) (some (.int (nI (f 1 w)))) (WM cy ba ra hf hq kn th sm ++ Y) := D_rowOf_5 hX hC hG hw (hC.ch hw h5w)
theorem D_begin {l : Launch} {D : va_G} {cy : Nat → ClassId} {X : (Nat → Prop) → State → Heap → Prop} {ba ra : Nat → Nat} {hf : Nat → Nat → Nat} {hq : Nat → Nat → Int32} {kn th : Int32} {sm : Int64} {Y : va_W} {f : Nat → Nat → Nat} {w : Nat} (hX : EnvM X cy) (hC : CInv f) (hG : MG f hf) (hw : w < 8) (h5w : f 5 w = 1) : Cd l D cy X yX4_begin cX4_begin 2 (some .int) (rmz 4 120) [.ref (ba 9), .int (nI w)] (WM cy ba ra hf hq kn th sm ++ Y) (some (.int (nI (f 3 w)))) (WM cy ba ra hf hq kn th sm ++ Y) := D_begin_5 hX hC hG hw (hC.ch hw h5w)
theorem D_isHolder {l : Launch} {D : va_G} {cy : Nat → ClassId} {X : (Nat → Prop) → State → Heap → Prop} {ba ra : Nat → Nat} {hf : Nat → Nat → Nat} {hq : Nat → Nat → Int32} {kn th : Int32} {sm : Int64} {Y : va_W} {f : Nat → Nat → Nat} {h0 w : Nat} (hX : EnvM X cy) (hC : CInv f) (hG : MG f hf) (hh : h0 < 8) (hw : w < 8) (h5w : f 5 w = 1) : Cd l D cy X yX4_isHolder cX4_isHolder 3 (some .boolean) (rmz 4 120) [.ref (ba 9), .int (nI h0), .int (nI w)] (WM cy ba ra hf hq kn th sm ++ Y) (some (.int (nI (hol f h0 w)))) (WM cy ba ra hf hq kn th sm ++ Y) := D_isHolder_5 hX hC hG hh hw (hC.ch hw h5w) (by decide)
end PT_37
/-! ===== 38.mpure2 -/
section PT_38
/-! holders, one step at a time; what 'lay', 'gone' and 'goneWithAll' leave -/
theorem hol_step {f : Nat → Nat → Nat} (h : CInv f) {i x : Nat} (h4 : 4 ≤ x) (hx : x < 8) (h5 : f 5 x = 1) : hol f i x = if i = x then 1 else hol f i (f 2 x) := by
  have h1 := h.wi h4 hx h5
  have h2 := (chN_step h1.2.2.2.2.2 h4).2.2
  split
  · subst_vars
    exact hol_self hx
  · rename_i hne
    unfold hol
    rw [hlC_step hx hne (by decide)]
    exact hl_more h 4 7 8 (f 2 x) h1.1 h2 (by decide) (by decide)
theorem ch_hol {f : Nat → Nat → Nat} {x : Nat} (h4 : 4 ≤ x) (h : CInv f) : ∀ (d n y : Nat), y < 8 → chN f n y → hlC (f 2) x d y ≠ 0 → chN f n x
  | 0, _, _, _, _, hh => absurd rfl hh
  | d + 1, 0, _, _, hc, _ => hc.elim
  | d + 1, n + 1, y, hy, hc, hh => by
    by_cases e : x = y
    · subst e
      exact hc
    · rw [hlC_step hy e (by omega)] at hh
      by_cases hy4 : y < 4
      · exfalso
        rw [(h.rw hy4).2.2.1, hl_none] at hh
        exact hh rfl
      · obtain ⟨h1, h2, h3⟩ := chN_step hc (by omega)
        exact chN_up n x (ch_hol h4 h d n (f 2 y) (h.wi (by omega) hy h2).1 h3 hh)
theorem hol_acyc {f : Nat → Nat → Nat} (h : CInv f) {x : Nat} (h4 : 4 ≤ x) (hx : x < 8) (h5 : f 5 x = 1) : hol f x (f 2 x) = 0 := by
  rcases Nat.eq_zero_or_pos (hol f x (f 2 x)) with h0 | h0
  · exact h0
  · exfalso
    have hn : ∀ n, ¬ chN f n x := fun n => by
      induction n with
      | zero => exact id
      | succ n ih =>
        intro hc
        obtain ⟨h1, h2, h3⟩ := chN_step hc h4
        exact ih (ch_hol h4 h 8 n (f 2 x) (h.wi h4 hx h2).1 h3 (by unfold hol at h0; omega))
    exact hn 5 (h.ch hx h5)
/-- the holders of w that are none of x have c more, o less -/
def lyT (f hf : Nat → Nat → Nat) (w x c o : Nat) : Nat → Nat → Nat := fun fl i => if fl = 4 ∧ 4 ≤ i ∧ i < 8 ∧ hol f i w ≠ 0 ∧ hol f i x = 0 then hf 4 i + c - o else hf fl i
theorem lyT_0 (f hf : Nat → Nat → Nat) (w c o : Nat) : lyT f hf w w c o = hf := by
  funext fl i
  unfold lyT
  rw [if_neg (fun h => h.2.2.2.1 h.2.2.2.2)]
theorem lyT_at {f hf : Nat → Nat → Nat} {w x c o : Nat} (hx : x < 8) : lyT f hf w x c o 4 x = hf 4 x := by
  unfold lyT
  rw [if_neg (fun h => by have := hol_self (f := f) hx; omega)]
theorem lyT_step {f hf : Nat → Nat → Nat} {w x c o : Nat} (h : CInv f) (h4 : 4 ≤ x) (hx : x < 8) (h5 : f 5 x = 1) (hh : hol f x w ≠ 0) : up2 (lyT f hf w x c o) 4 x (hf 4 x + c - o) = lyT f hf w (f 2 x) c o := by
  have hs := fun i => hol_step h (i := i) h4 hx h5
  have ha := hol_acyc h h4 hx h5
  funext fl i
  unfold up2 lyT
  by_cases e : fl = 4 ∧ i = x
  · obtain ⟨rfl, rfl⟩ := e
    rw [if_pos ⟨rfl, rfl⟩, if_pos ⟨rfl, h4, hx, hh, ha⟩]
  · rw [if_neg e]
    by_cases e2 : fl = 4 ∧ 4 ≤ i ∧ i < 8 ∧ hol f i w ≠ 0 ∧ hol f i x = 0
    · rw [if_pos e2, if_pos]
      refine ⟨e2.1, e2.2.1, e2.2.2.1, e2.2.2.2.1, ?_⟩
      have := hs i
      rw [if_neg (fun q => e ⟨e2.1, q⟩)] at this
      omega
    · rw [if_neg e2, if_neg]
      intro e3
      refine e2 ⟨e3.1, e3.2.1, e3.2.2.1, e3.2.2.2.1, ?_⟩
      rw [hs i, if_neg (fun q => e ⟨e3.1, q⟩)]
      exact e3.2.2.2.2
theorem lyT_end {f hf : Nat → Nat → Nat} {w x c o : Nat} (h : CInv f) (hx : x < 4) : lyT f hf w x c o = lyM f hf w c o := by
  funext fl i
  unfold lyT lyM
  by_cases e : fl = 4 ∧ 4 ≤ i ∧ i < 8 ∧ hol f i w ≠ 0
  · rw [if_pos e, if_pos ⟨e.1, e.2.1, e.2.2.1, e.2.2.2, by
      rcases Nat.eq_zero_or_pos (hol f i x) with q | q
      · exact q
      · have := (hol_rowf h (j := i) hx).mp (by omega)
        omega⟩]
  · rw [if_neg e, if_neg (fun e2 => e ⟨e2.1, e2.2.1, e2.2.2.1, e2.2.2.2.1⟩)]
/-- the next holder up -/
theorem hol_next {f : Nat → Nat → Nat} (h : CInv f) {x w : Nat} (hw : w < 8) (h5w : f 5 w = 1) (h4 : 4 ≤ x) (hh : hol f x w ≠ 0) : hol f (f 2 x) w ≠ 0 := h.hu h4 hw h5w hh
theorem layF_up {g h : Nat → Int32} {a c o n k : Nat} {x : Int32} (hx : (if k < a then g k else if k < a + c then h (k - a) else g (k - c + o)) = x) : upd (layF g h a c o k) k x = layF g h a c o (k + 1) := cutF_up hx
theorem layF_0 (g h : Nat → Int32) (a c o : Nat) : layF g h a c o 0 = fun _ => 0 := cutF_0 _
/-- cursors over g are gone, of the first k -/
theorem up2_same {f : Nat → Nat → Nat} {k i : Nat} : up2 f k i (f k i) = f := by
  funext a b
  unfold up2
  by_cases h : a = k ∧ b = i
  · rw [if_pos h, h.1, h.2]
  · rw [if_neg h]
theorem dcF_le {f : Nat → Nat → Nat} {w k i : Nat} (h : f 9 i ≤ 1) : dcF f w k 9 i ≤ 1 := by
  unfold dcF
  split <;> omega
/-- windows below 4 + k that have g as a holder are gone, but g; and the cursors over them -/
def gaF (f hf : Nat → Nat → Nat) (g k : Nat) : Nat → Nat → Nat := fun fl i => if fl = 5 ∧ 4 ≤ i ∧ i < 4 + k ∧ i ≠ g ∧ hf 5 i ≠ 0 ∧ hol f g i ≠ 0 then 0 else if fl = 9 ∧ i < 3 ∧ 4 ≤ hf 6 i ∧ hf 6 i < 4 + k ∧ hf 6 i ≠ g ∧ hf 5 (hf 6 i) ≠ 0 ∧ hol f g (hf 6 i) ≠ 0 then 0 else hf fl i
theorem gaF_0 (f hf : Nat → Nat → Nat) (g : Nat) : gaF f hf g 0 = hf := by
  funext fl i
  unfold gaF
  rw [if_neg (by omega), if_neg (by omega)]
theorem gaF_at {f hf : Nat → Nat → Nat} {g k : Nat} : gaF f hf g k 5 (4 + k) = hf 5 (4 + k) := by
  unfold gaF
  rw [if_neg (by omega), if_neg (by omega)]
theorem gaF_9 {f hf : Nat → Nat → Nat} {g k i : Nat} (h : hf 9 i ≤ 1) : gaF f hf g k 9 i ≤ 1 := by
  unfold gaF
  split
  · omega
  · split <;> omega
theorem gaF_no {f hf : Nat → Nat → Nat} {g k : Nat} (h : 4 + k = g ∨ hf 5 (4 + k) = 0 ∨ hol f g (4 + k) = 0) : gaF f hf g k = gaF f hf g (k + 1) := by
  funext fl i
  unfold gaF
  have e1 : (fl = 5 ∧ 4 ≤ i ∧ i < 4 + k ∧ i ≠ g ∧ hf 5 i ≠ 0 ∧ hol f g i ≠ 0) ↔ (fl = 5 ∧ 4 ≤ i ∧ i < 4 + (k + 1) ∧ i ≠ g ∧ hf 5 i ≠ 0 ∧ hol f g i ≠ 0) := by
    by_cases hi : i = 4 + k
    · subst hi
      constructor
      · intro a; omega
      · rintro ⟨_, _, _, a, b, d⟩
        rcases h with h | h | h
        · exact absurd h a
        · exact absurd h b
        · exact absurd h d
    · constructor
      · rintro ⟨a, b, d, z⟩
        exact ⟨a, b, by omega, z⟩
      · rintro ⟨a, b, d, z⟩
        exact ⟨a, b, by omega, z⟩
  have e2 : (fl = 9 ∧ i < 3 ∧ 4 ≤ hf 6 i ∧ hf 6 i < 4 + k ∧ hf 6 i ≠ g ∧ hf 5 (hf 6 i) ≠ 0 ∧ hol f g (hf 6 i) ≠ 0) ↔ (fl = 9 ∧ i < 3 ∧ 4 ≤ hf 6 i ∧ hf 6 i < 4 + (k + 1) ∧ hf 6 i ≠ g ∧ hf 5 (hf 6 i) ≠ 0 ∧ hol f g (hf 6 i) ≠ 0) := by
    by_cases hi : hf 6 i = 4 + k
    · rw [hi]
      constructor
      · intro a; omega
      · rintro ⟨_, _, _, _, a, b, d⟩
        rcases h with h | h | h
        · exact absurd h a
        · exact absurd h b
        · exact absurd h d
    · constructor
      · rintro ⟨a, b, d, e, z⟩
        exact ⟨a, b, d, by omega, z⟩
      · rintro ⟨a, b, d, e, z⟩
        exact ⟨a, b, d, by omega, z⟩
  simp only [e1, e2]
theorem gaF_v9 (f hf : Nat → Nat → Nat) (g k i : Nat) : gaF f hf g k 9 i = if i < 3 ∧ 4 ≤ hf 6 i ∧ hf 6 i < 4 + k ∧ hf 6 i ≠ g ∧ hf 5 (hf 6 i) ≠ 0 ∧ hol f g (hf 6 i) ≠ 0 then 0 else hf 9 i := by
  simp only [gaF, show ¬ (9 = 5) by decide, false_and, if_false, true_and]
theorem gaF_v5 (f hf : Nat → Nat → Nat) (g k i : Nat) : gaF f hf g k 5 i = if 4 ≤ i ∧ i < 4 + k ∧ i ≠ g ∧ hf 5 i ≠ 0 ∧ hol f g i ≠ 0 then 0 else hf 5 i := by
  simp only [gaF, show ¬ (5 = 9) by decide, false_and, if_false, true_and]
theorem gaF_vo {f hf : Nat → Nat → Nat} {g k fl i : Nat} (h5 : fl ≠ 5) (h9 : fl ≠ 9) : gaF f hf g k fl i = hf fl i := by
  simp only [gaF, h5, h9, false_and, if_false]
theorem gaF_yes {f hf : Nat → Nat → Nat} {g k : Nat} (h1 : 4 + k ≠ g) (h2 : hf 5 (4 + k) ≠ 0) (h3 : hol f g (4 + k) ≠ 0) : dcF (up2 (gaF f hf g k) 5 (4 + k) 0) (4 + k) 3 = gaF f hf g (k + 1) := by
  funext fl i
  have e6 : ∀ i, up2 (gaF f hf g k) 5 (4 + k) 0 6 i = hf 6 i := fun _ => rfl
  unfold dcF
  rw [e6]
  by_cases h9 : fl = 9
  · subst h9
    rw [up2_k _ _ _ _ (by decide), gaF_v9, gaF_v9]
    by_cases hi : i < 3 ∧ hf 6 i = 4 + k
    · rw [if_pos ⟨rfl, hi⟩, if_pos]
      exact ⟨hi.1, by omega, by omega, by omega, by rw [hi.2]; exact h2, by rw [hi.2]; exact h3⟩
    · rw [if_neg (fun z => hi z.2)]
      by_cases z : i < 3 ∧ 4 ≤ hf 6 i ∧ hf 6 i < 4 + k ∧ hf 6 i ≠ g ∧ hf 5 (hf 6 i) ≠ 0 ∧ hol f g (hf 6 i) ≠ 0
      · rw [if_pos z, if_pos ⟨z.1, z.2.1, by omega, z.2.2.2⟩]
      · rw [if_neg z, if_neg (fun q => z ⟨q.1, q.2.1, by have := fun e => hi ⟨q.1, e⟩; omega, q.2.2.2⟩)]
  · rw [if_neg (fun z => h9 z.1)]
    by_cases h5 : fl = 5
    · subst h5
      rw [gaF_v5]
      by_cases hi : i = 4 + k
      · subst hi
        rw [up2_eq, if_pos ⟨by omega, by omega, h1, h2, h3⟩]
      · rw [up2_i _ _ _ _ hi, gaF_v5]
        by_cases z : 4 ≤ i ∧ i < 4 + k ∧ i ≠ g ∧ hf 5 i ≠ 0 ∧ hol f g i ≠ 0
        · rw [if_pos z, if_pos ⟨z.1, by omega, z.2.2⟩]
        · rw [if_neg z, if_neg (fun q => z ⟨q.1, by omega, q.2.2⟩)]
    · rw [up2_k _ _ _ _ h5, gaF_vo h5 h9, gaF_vo h5 h9]
/-- which go, as an array -/
def gcF (f hf : Nat → Nat → Nat) (w k : Nat) : Nat → Int32 := fun j => nI (if j < k then goF f hf w j else 0)
theorem gcF_0 (f hf : Nat → Nat → Nat) (w : Nat) : gcF f hf w 0 = fun _ => 0 := by
  funext j
  unfold gcF
  rw [if_neg (by omega)]
  rfl
theorem gcF_up {f hf : Nat → Nat → Nat} {w k v : Nat} (h : goF f hf w k = v) : upd (gcF f hf w k) k (nI v) = gcF f hf w (k + 1) := by
  funext j
  unfold upd gcF
  by_cases hj : j = k
  · subst hj
    rw [if_pos rfl, if_pos (by omega), h]
  · rw [if_neg hj]
    by_cases h1 : j < k
    · rw [if_pos h1, if_pos (by omega)]
    · rw [if_neg h1, if_neg (by omega)]
theorem gcF_at {f hf : Nat → Nat → Nat} {w k n : Nat} (h : k < n) : gcF f hf w n k = nI (goF f hf w k) := by
  unfold gcF
  rw [if_pos h]
theorem go1 {f hf : Nat → Nat → Nat} {w k : Nat} (h1 : hf 5 (4 + k) ≠ 0) (h2 : f 1 (4 + k) = f 1 w) (h3 : hol f (4 + k) w = 0) : goF f hf w k = 1 := if_pos ⟨h1, h2, h3⟩
theorem go0 {f hf : Nat → Nat → Nat} {w k : Nat} (h : hf 5 (4 + k) = 0 ∨ f 1 (4 + k) ≠ f 1 w ∨ hol f (4 + k) w ≠ 0) : goF f hf w k = 0 := if_neg (fun z => by
  rcases h with h | h | h
  · exact z.1 h
  · exact h z.2.1
  · exact h z.2.2)
end PT_38
