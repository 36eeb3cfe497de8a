/-! CONTRACTS THAT LEAVE THE SCRATCH OPEN -/
theorem Cm.imp {l : Launch} {D : va_G} {cy : Nat → ClassId} {X : (Nat → Prop) → State → Heap → Prop} {y : MethodName} {cc : ByteArray} {maxL : Nat} {ret : Option FieldType} {rm : Room} {av : List Value} {w : va_W} {post post' : Option Value → va_W → Prop} {px : String → Prop} (h : Cm l D cy X y cc maxL ret rm av w post px) (hp : ∀ v w1, post v w1 → post' v w1) : Cm l D cy X y cc maxL ret rm av w post' px := by
  intro sz p e ha hc hk s m args below hf happ hP hK
  obtain ⟨n, o, h1, h2, h3, h4⟩ := h sz p e ha hc hk s m args below hf happ hP hK
  refine ⟨n, o, h1, h2, h3, ?_⟩
  rcases h4 with ⟨⟨⟨v, w', e1, e2, e3, e4⟩, e5⟩, e6⟩ | h4
  · exact Or.inl ⟨⟨⟨v, w', e1, hp v w' e2, e3, e4⟩, e5⟩, e6⟩
  · exact Or.inr h4
/-- equal but of the spare parts' lengths and items -/
def Scr (f : Nat → Nat → Nat) (r : Nat → Nat → Int32) (f' : Nat → Nat → Nat) (r' : Nat → Nat → Int32) : Prop :=
  (∀ fl i, fl ≠ 4 ∨ i < 8 → f' fl i = f fl i) ∧ (f' 4 8 ≤ 12 ∧ f' 4 9 ≤ 12 ∧ f' 4 10 ≤ 12) ∧ (∀ j q, j < 4 → r' j q = r j q) ∧ (RB r → RB r')
theorem Scr.inv {f f' : Nat → Nat → Nat} {r r' : Nat → Nat → Int32} (h : Scr f r f' r') (hC : CInv f) : CInv f' := hC.scr h.1 h.2.1
theorem Scr.trans {f f' f2 : Nat → Nat → Nat} {r r' r2 : Nat → Nat → Int32} (h : Scr f r f' r') (h2 : Scr f' r' f2 r2) : Scr f r f2 r2 :=
  ⟨fun fl i z => (h2.1 fl i z).trans (h.1 fl i z), h2.2.1, fun j q z => (h2.2.2.1 j q z).trans (h.2.2.1 j q z), fun z => h2.2.2.2 (h.2.2.2 z)⟩
theorem Scr.refl {f : Nat → Nat → Nat} {r : Nat → Nat → Int32} (hC : CInv f) : Scr f r f r := by
  have := hC.sp
  exact ⟨fun _ _ _ => rfl, by omega, fun _ _ _ => rfl, id⟩
theorem K_isTurnSound {l : Launch} {D : va_G} {cy : Nat → ClassId} {X : (Nat → Prop) → State → Heap → Prop} {a f : Nat → Nat → Nat} {r : Nat → Nat → Int32} {kn : Int32} {Y : va_W} {i : Nat} (hX : EnvX X) (hC : CInv f) (hi4 : i < 4) : Cm l D cy X yX2_isTurnSound cX2_isTurnSound 2 (some .boolean) (rmz 4 200) [.ref (a 0 0), .ref (a 1 i)] (WC cy a f r kn ++ Y) (fun v w1 => v = some (.int (nI 1)) ∧ ∃ f' r', w1 = WC cy a f' r' kn ++ Y ∧ Scr f r f' r') (fun _ => False) := by
  have sp := hC.sp
  have q1 := hC.rw hi4
  have hF : ∀ fl k, fl ≠ 4 ∨ k < 8 → up2 f 4 9 (f 4 i) fl k = f fl k := fun fl k z => by
    show (if fl = 4 ∧ k = 9 then f 4 i else f fl k) = f fl k
    rw [if_neg (by omega)]
  have hL : up2 f 4 9 (f 4 i) 4 8 ≤ 12 ∧ up2 f 4 9 (f 4 i) 4 9 ≤ 12 ∧ up2 f 4 9 (f 4 i) 4 10 ≤ 12 := by
    rw [up2_eq, up2_i _ _ _ _ (by omega), up2_i _ _ _ _ (by omega)]
    omega
  rcases Nat.eq_zero_or_pos (f 4 i) with hz | hz
  · refine (C_isTurnSound_0 hX hC hi4 hz).imp (fun v w1 h => ⟨h.1, _, _, h.2, hF, hL, fun j q hj => ?_, fun hB => ?_⟩)
    · rw [cpy2_off (by omega)]
    · exact hB.cpy _ _ _ _ _
  · refine (C_isTurnSound_ok hX hC hi4 hz).imp (fun v w1 h => ⟨h.1, _, _, h.2, hF, hL, fun j q hj => ?_, fun hB => ?_⟩)
    · rw [cpy2_off (by omega)]
    · exact hB.cpy _ _ _ _ _
theorem K_isRiffleSound {l : Launch} {D : va_G} {cy : Nat → ClassId} {X : (Nat → Prop) → State → Heap → Prop} {a f : Nat → Nat → Nat} {r : Nat → Nat → Int32} {kn : Int32} {Y : va_W} {i : Nat} (hX : EnvX X) (hC : CInv f) (hi4 : i < 4) : Cm l D cy X yX2_isRiffleSound cX2_isRiffleSound 2 (some .boolean) (rmz 4 200) [.ref (a 0 0), .ref (a 1 i)] (WC cy a f r kn ++ Y) (fun v w1 => v = some (.int (nI 1)) ∧ ∃ f' r', w1 = WC cy a f' r' kn ++ Y ∧ Scr f r f' r') (fun _ => False) := by
  have sp := hC.sp
  have q1 := hC.rw hi4
  refine (C_isRiffleSound hX hC hi4).imp (fun v w1 h => ⟨h.1, _, _, h.2, fun fl k z => ?_, ?_, fun j q hj => ?_, fun hB => ?_⟩)
  · show (if fl = 4 ∧ k = 8 then f 4 i else if fl = 4 ∧ k = 8 then f 4 i else if fl = 4 ∧ k = 9 then f 4 i else f fl k) = f fl k
    rw [if_neg (by omega), if_neg (by omega), if_neg (by omega)]
  · rw [up2_eq, up2_i _ _ _ _ (by omega), up2_i _ _ _ _ (by omega), up2_eq, up2_i _ _ _ _ (by omega), up2_i _ _ _ _ (by omega), up2_i _ _ _ _ (by omega)]
    omega
  · rw [lay_off _ (by omega) (by omega), cpy2_off (by omega)]
  · have b1 := hB.cpy (f 0 i) (f 3 i) (f 0 9) (f 3 9) (f 4 i)
    have b2 := (b1.cpy (f 0 9) (f 3 9) (f 0 8) (f 3 8) (f 4 i)).sc (f 0 9) (f 3 9) (f 4 i) (fun t => t) (g := fun q => cpy2 r (f 0 i) (f 3 i) (f 0 9) (f 3 9) (f 4 i) (f 0 9) (f 3 9 + layN (f 4 i) q)) (fun q => b1 _ _)
    exact (b2.cpy _ _ _ _ _).sc _ _ _ _ (fun q => b2 _ _)
theorem K_isOrderSound {l : Launch} {D : va_G} {cy : Nat → ClassId} {X : (Nat → Prop) → State → Heap → Prop} {a f : Nat → Nat → Nat} {r : Nat → Nat → Int32} {kn : Int32} {Y : va_W} {i : Nat} (hX : EnvX X) (hC : CInv f) (hi4 : i < 4) (hR : ∀ q, q < f 4 i → -99 ≤ (r (f 0 i) (f 3 i + q)).toInt ∧ (r (f 0 i) (f 3 i + q)).toInt ≤ 99) : Cm l D cy X yX2_isOrderSound cX2_isOrderSound 2 (some .boolean) (rmz 4 200) [.ref (a 0 0), .ref (a 1 i)] (WC cy a f r kn ++ Y) (fun v w1 => v = some (.int (nI 1)) ∧ ∃ f' r', w1 = WC cy a f' r' kn ++ Y ∧ Scr f r f' r') (fun _ => False) := by
  have sp := hC.sp
  have q1 := hC.rw hi4
  have e4 : up2 f 4 9 (f 4 i) 4 i = f 4 i := up2_i _ _ _ _ (by omega)
  have hF : ∀ fl k, fl ≠ 4 ∨ k < 8 → up2 (up2 f 4 9 (f 4 i)) 4 10 (f 4 i) fl k = f fl k := fun fl k z => by
    show (if fl = 4 ∧ k = 10 then f 4 i else if fl = 4 ∧ k = 9 then f 4 i else f fl k) = f fl k
    rw [if_neg (by omega), if_neg (by omega)]
  have hL : up2 (up2 f 4 9 (f 4 i)) 4 10 (f 4 i) 4 8 ≤ 12 ∧ up2 (up2 f 4 9 (f 4 i)) 4 10 (f 4 i) 4 9 ≤ 12 ∧ up2 (up2 f 4 9 (f 4 i)) 4 10 (f 4 i) 4 10 ≤ 12 := by
    rw [up2_eq, up2_i _ _ _ _ (by omega), up2_i _ _ _ _ (by omega), up2_i _ _ _ _ (by omega), up2_eq]
    omega
  rcases Nat.eq_zero_or_pos (f 4 i) with hz | hz
  · refine (C_isOrderSound_0 hX hC hi4 hz).imp (fun v w1 h => ⟨h.1, _, _, h.2, by rw [e4]; exact hF, by rw [e4]; exact hL, fun j q hj => ?_, fun hB => ?_⟩)
    · rw [srF_off (by omega), cpy2_off (by omega), srF_off (by omega), cpy2_off (by omega)]
    · exact RB.sr _ _ _ _ _ ((RB.sr _ _ _ _ _ (hB.cpy _ _ _ _ _)).cpy _ _ _ _ _)
  · refine (C_isOrderSound_ok hX hC hi4 hz hR).imp (fun v w1 h => ⟨h.1, _, _, h.2, hF, hL, fun j q hj => ?_, fun hB => ?_⟩)
    · rw [revS_off (by omega), srF_off (by omega), cpy2_off (by omega), srF_off (by omega), cpy2_off (by omega)]
    · exact (RB.sr _ _ _ _ _ ((RB.sr _ _ _ _ _ (hB.cpy _ _ _ _ _)).cpy _ _ _ _ _)).rev _ _ _
theorem K_isMoveSound {l : Launch} {D : va_G} {cy : Nat → ClassId} {X : (Nat → Prop) → State → Heap → Prop} {a f : Nat → Nat → Nat} {r : Nat → Nat → Int32} {kn : Int32} {Y : va_W} {i n0 : Nat} (hX : EnvX X) (hC : CInv f) (hi4 : i < 4) (hc : n0 < 1000) : Cm l D cy X yX2_isMoveSound cX2_isMoveSound 5 (some .boolean) (rmz 4 220) [.ref (a 0 0), .ref (a 1 i), .int (nI n0)] (WC cy a f r kn ++ Y) (fun v w1 => v = some (.int (nI 1)) ∧ ∃ f' r', w1 = WC cy a f' r' kn ++ Y ∧ Scr f r f' r') (fun _ => False) := by
  have sp := hC.sp
  have q1 := hC.rw hi4
  have e4 : up2 f 4 9 (f 4 i) 4 i = f 4 i := up2_i _ _ _ _ (by omega)
  have hF0 : ∀ fl k, fl ≠ 4 ∨ k < 8 → up2 (up2 f 4 9 (f 4 i)) 4 10 (f 4 i) fl k = f fl k := fun fl k z => by
    show (if fl = 4 ∧ k = 10 then f 4 i else if fl = 4 ∧ k = 9 then f 4 i else f fl k) = f fl k
    rw [if_neg (by omega), if_neg (by omega)]
  have hL0 : up2 (up2 f 4 9 (f 4 i)) 4 10 (f 4 i) 4 8 ≤ 12 ∧ up2 (up2 f 4 9 (f 4 i)) 4 10 (f 4 i) 4 9 ≤ 12 ∧ up2 (up2 f 4 9 (f 4 i)) 4 10 (f 4 i) 4 10 ≤ 12 := by
    rw [up2_eq, up2_i _ _ _ _ (by omega), up2_i _ _ _ _ (by omega), up2_i _ _ _ _ (by omega), up2_eq]
    omega
  have hF : ∀ fl k, fl ≠ 4 ∨ k < 8 → up2 (up2 (up2 f 4 9 (f 4 i)) 4 8 (f 4 i)) 4 10 (f 4 i) fl k = f fl k := fun fl k z => by
    show (if fl = 4 ∧ k = 10 then f 4 i else if fl = 4 ∧ k = 8 then f 4 i else if fl = 4 ∧ k = 9 then f 4 i else f fl k) = f fl k
    rw [if_neg (by omega), if_neg (by omega), if_neg (by omega)]
  have hL : up2 (up2 (up2 f 4 9 (f 4 i)) 4 8 (f 4 i)) 4 10 (f 4 i) 4 8 ≤ 12 ∧ up2 (up2 (up2 f 4 9 (f 4 i)) 4 8 (f 4 i)) 4 10 (f 4 i) 4 9 ≤ 12 ∧ up2 (up2 (up2 f 4 9 (f 4 i)) 4 8 (f 4 i)) 4 10 (f 4 i) 4 10 ≤ 12 := by
    rw [up2_eq, up2_i _ _ _ _ (by omega), up2_eq, up2_i _ _ _ _ (by omega), up2_i _ _ _ _ (by omega), up2_eq]
    omega
  rcases Nat.eq_zero_or_pos (f 4 i) with hz | hz
  · refine (C_isMoveSound_0 hX hC hi4 hz hc).imp (fun v w1 h => ⟨h.1, _, _, h.2, by rw [e4]; exact hF0, by rw [e4]; exact hL0, fun j q hj => ?_, fun hB => ?_⟩)
    · rw [cpy2_off (by omega), cpy2_off (by omega)]
    · exact (hB.cpy _ _ _ _ _).cpy _ _ _ _ _
  · rcases Nat.eq_zero_or_pos (n0 % f 4 i) with hk | hk
    · refine (C_isMoveSound_a hX hC hi4 hz hc hk).imp (fun v w1 h => ⟨h.1, _, _, h.2, hF, hL, fun j q hj => ?_, fun hB => ?_⟩)
      · rw [revS_off (by omega), revS_off (by omega), cpy2_off (by omega), scS_off (by omega), cpy2_off (by omega), cpy2_off (by omega)]
      · have b1 := hB.cpy (f 0 i) (f 3 i) (f 0 9) (f 3 9) (f 4 i)
        exact ((((b1.cpy _ _ _ _ _).sc _ _ _ _ (fun q => b1 _ _)).cpy _ _ _ _ _).rev _ _ _).rev _ _ _
    · refine (C_isMoveSound_b hX hC hi4 hz hc hk (Nat.mod_lt _ hz)).imp (fun v w1 h => ⟨h.1, _, _, h.2, hF, hL, fun j q hj => ?_, fun hB => ?_⟩)
      · rw [revS_off (by omega), revS_off (by omega), revS_off (by omega), cpy2_off (by omega), scS_off (by omega), cpy2_off (by omega), cpy2_off (by omega)]
      · have b1 := hB.cpy (f 0 i) (f 3 i) (f 0 9) (f 3 9) (f 4 i)
        exact (((((b1.cpy _ _ _ _ _).sc _ _ _ _ (fun q => b1 _ _)).cpy _ _ _ _ _).rev _ _ _).rev _ _ _).rev _ _ _
