/-! WHAT IS KNOWN OUTSIDE THE WORLD: links between nest mates, the statics that a throw reads, the texts -/
def nwk : Cond → Bool
  | .fieldLinkNest .. => true
  | .castable .. => true
  | .declares .. => true
  | _ => false
def NWL : List Cond := tables_1.filter nwk
def SRL : List (String × Nat × String) := [("Splicemonoid", 286, "there is no such question"), ("java/lang/StringIndexOutOfBoundsException", 13, "String index out of range: "), ("java/util/Arrays", 337, " > "), ("java/util/Arrays", 48, "fromIndex("), ("java/util/Arrays", 57, ") > toIndex("), ("java/util/Arrays", 59, ")"), ("java/lang/ArrayIndexOutOfBoundsException", 13, "Array index out of range: "), ("Splicemonoid$Part", 75, ", "), ("Splicemonoid", 280, "there is no such window"), ("Splicemonoid", 282, "there is no such cursor"), ("Splicemonoid", 288, "there is no such row or window"), ("Splicemonoid", 284, "an item is from -99 to 99"), ("Splicemonoid", 292, "a row has at most 12 items"), ("Splicemonoid", 290, "there is no such place"), ("Splicemonoid", 92, "a turn goes from -99 to 99"), ("Splicemonoid", 120, "there are the orders 0 to 2"), ("Splicemonoid", 278, "there is no such row"), ("Splicemonoid", 139, "a row has 0 to 12 items"), ("Splicemonoid", 149, "the row has no items"), ("Splicemonoid", 185, "a window can't be seen through at itself"), ("Splicemonoid", 215, "a cursor can't stand there"), ("Splicemonoid", 294, "the cursor is not there"), ("SplicemonoidModel", 151, ""), ("SplicemonoidModel", 166, ", "), ("SplicemonoidModel", 175, "["), ("SplicemonoidModel", 177, "]")]
def EnvX (X : (Nat → Prop) → State → Heap → Prop) : Prop := Stb X ∧ (∀ w ∈ NWL, ∀ (A : Nat → Prop) (U : State) (H : Heap), X A U H → va_Nw w U) ∧ (∀ (A : Nat → Prop) (U : State) (H : Heap), X A U H → vx_Zq Bundle.tN "UNASSIGNED_STACK" Bundle.steD A U H ∧ vx_Zq Bundle.tN "SUPPRESSED_SENTINEL" Bundle.listD A U H) ∧ (∀ q ∈ SRL, ∀ (A : Nat → Prop) (U : State) (H : Heap), X A U H → ∃ sa, vk_R q.1 q.2.1 q.2.2 sa U)
theorem EnvX.stb {X : (Nat → Prop) → State → Heap → Prop} (h : EnvX X) : Stb X := h.1
theorem EnvX.nw {X : (Nat → Prop) → State → Heap → Prop} (h : EnvX X) {w : Cond} (hw : w ∈ NWL) (ho : w.onTables = true) {A : Nat → Prop} {U : State} {H : Heap} (hE : X A U H) {args : Array Value} : w.before args U = true := va_Nw.use ho (h.2.1 w hw A U H hE)
theorem EnvX.z {X : (Nat → Prop) → State → Heap → Prop} (h : EnvX X) {A : Nat → Prop} {U : State} {H : Heap} (hE : X A U H) : vx_Zq Bundle.tN "UNASSIGNED_STACK" Bundle.steD A U H ∧ vx_Zq Bundle.tN "SUPPRESSED_SENTINEL" Bundle.listD A U H := h.2.2.1 A U H hE
theorem EnvX.sr {X : (Nat → Prop) → State → Heap → Prop} (h : EnvX X) (q : String × Nat × String) (hq : q ∈ SRL) {A : Nat → Prop} {U : State} {H : Heap} (hE : X A U H) : ∃ sa, vk_R q.1 q.2.1 q.2.2 sa U := h.2.2.2 q hq A U H hE
theorem nw_t {w : Cond} (i : Nat) (h : tables_1[i]? = some w) (g : nwk w = true) : w ∈ NWL := List.mem_filter.mpr ⟨List.mem_of_getElem? h, g⟩
theorem qn_X2_18 : Cond.fieldLinkNest RX2 18 RX1 "items" "[I" "Splicemonoid" ∈ NWL := List.mem_filter.mpr ⟨(gm_1 41 rfl), rfl⟩
theorem qn_X2_207 : Cond.fieldLinkNest RX2 207 RX1 "row" "I" "Splicemonoid" ∈ NWL := List.mem_filter.mpr ⟨(gm_1 43 rfl), rfl⟩
theorem qn_X2_204 : Cond.fieldLinkNest RX2 204 RX1 "ground" "I" "Splicemonoid" ∈ NWL := List.mem_filter.mpr ⟨(gm_1 45 rfl), rfl⟩
theorem qn_X2_296 : Cond.fieldLinkNest RX2 296 RX1 "start" "I" "Splicemonoid" ∈ NWL := List.mem_filter.mpr ⟨(gm_1 47 rfl), rfl⟩
theorem qn_X2_50 : Cond.fieldLinkNest RX2 50 RX1 "length" "I" "Splicemonoid" ∈ NWL := List.mem_filter.mpr ⟨(gm_1 48 rfl), rfl⟩
theorem qn_X0_25 : Cond.fieldLinkNest RX0 25 RX1 "length" "I" "Splicemonoid" ∈ NWL := List.mem_filter.mpr ⟨(gm_1 50 rfl), rfl⟩
theorem qn_X2_194 : Cond.fieldLinkNest RX2 194 RX1 "isThere" "Z" "Splicemonoid" ∈ NWL := List.mem_filter.mpr ⟨(gm_1 52 rfl), rfl⟩
theorem qn_X2_225 : Cond.fieldLinkNest RX2 225 RX0 "where" "I" "Splicemonoid" ∈ NWL := List.mem_filter.mpr ⟨(gm_1 75 rfl), rfl⟩
theorem qn_X2_234 : Cond.fieldLinkNest RX2 234 RX0 "index" "I" "Splicemonoid" ∈ NWL := List.mem_filter.mpr ⟨(gm_1 77 rfl), rfl⟩
theorem qn_X2_237 : Cond.fieldLinkNest RX2 237 RX0 "last" "I" "Splicemonoid" ∈ NWL := List.mem_filter.mpr ⟨(gm_1 79 rfl), rfl⟩
theorem qn_X2_221 : Cond.fieldLinkNest RX2 221 RX0 "isThere" "Z" "Splicemonoid" ∈ NWL := List.mem_filter.mpr ⟨(gm_1 81 rfl), rfl⟩
theorem qn_L_13 : Cond.fieldLinkNest RL 13 RX3 "n" "J" "SplicemonoidLaw" ∈ NWL := List.mem_filter.mpr ⟨(gm_3 210 rfl), rfl⟩
theorem qn_L_127 : Cond.fieldLinkNest RL 127 RX3 "s" "Ljava/lang/String;" "SplicemonoidLaw" ∈ NWL := List.mem_filter.mpr ⟨(gm_3 211 rfl), rfl⟩
/-- a throw's words: in the list, or of the nest's kind -/
def thr_ok (own : String) (ik ic : Nat) (cls : String) (names : List String) : Bool :=
  (Cond.classLink own ik cls :: Cond.initialized cls :: vx_atS own ic cls names).all (fun w => (decide (w ∈ tables_1) || decide (w ∈ k2_sels lw_privs)) && ((goodWord w || nwk w) && vx_ot w))
theorem thr_hat {X : (Nat → Prop) → State → Heap → Prop} (hX : EnvX X) {own cls : String} {ik ic : Nat} {names : List String} (h : thr_ok own ik ic cls names = true) {A : Nat → Prop} {s : State} {args : Array Value} (hE : X A s s.heap) (ht : ∀ w ∈ GW, w.before args s = true) : ∀ w ∈ Cond.classLink own ik cls :: Cond.initialized cls :: vx_atS own ic cls names, w.before args s = true ∧ vx_ot w = true := by
  intro w hw
  have h1 := List.all_eq_true.mp h w hw
  simp only [Bool.and_eq_true, Bool.or_eq_true, decide_eq_true_eq] at h1
  obtain ⟨h1, h2, h3⟩ := h1
  refine ⟨?_, h3⟩
  rcases h2 with h2 | h2
  · refine ht w (List.mem_filter.mpr ⟨?_, h2⟩)
    rcases h1 with h1 | h1
    · exact List.mem_append_right _ h1
    · exact List.mem_append_left _ h1
  · rcases h1 with h1 | h1
    · refine hX.nw (List.mem_filter.mpr ⟨h1, h2⟩) ?_ hE
      simp only [vx_ot, Bool.or_eq_true] at h3
      cases w <;> first | rfl | (simp [nwk] at h2)
    · exfalso
      obtain ⟨q, -, hq⟩ := List.mem_map.mp h1
      subst hq
      simp [nwk] at h2
section THR
variable {p : Program} {l : Launch} {e : Env} {R : Room} {s : State} {m : MethodId} {args : Array Value} {below : List Frame} {meth : Method} {c : Code} {D : va_G} {cy : Nat → ClassId} {A : Nat → Prop} {nL cells slots : Nat} {w : va_W} {lv : List (Option Value)} {pc : Nat} {st : List Value} {cc : ByteArray} {own : String} {X : (Nat → Prop) → State → Heap → Prop}
theorem r_throwW {post : Option Value → va_W → Prop} {px : String → Prop} {w0 : va_W} {mc ms : Nat} {cls text : String} {names : List String} {ik is ic : Nat} (hX : EnvX X) (hl : l.stackTraces = false) (C : Fg p s m args meth c cc nL own D cy A) (hE : X A s s.heap) (hnt : ∀ x ∈ c.exceptionTable.toList, False)
    (hok : thr_ok own ik ic cls names = true) (hcls : Bundle.fit cls = true) (hnames : ∀ n ∈ names, Bundle.fit n = true) (hs : (own, is, text) ∈ SRL)
    (d0 : decode cc pc = .ok (.new ik, 3)) (d3 : decode cc (pc + 3) = .ok (.dup, 1)) (d4 : decode cc (pc + 4) = .ok (.ldc_w is, 3)) (d6 : decode cc (pc + 7) = .ok (.invokespecial ic, 3)) (d9 : decode cc (pc + 10) = .ok (.athrow, 1))
    (hRf : names.length + 3 < R.frames) (hRl : (st.map fun v => v.category).sum + (13 * (names.length + 1) + 43) ≤ R.locals) (hRc : cells + 1 ≤ R.cells) (hRs : slots + 6 ≤ R.slots) (hw : w = w0) (hp : px cls) (h1 : cells + 1 ≤ mc) (h2 : slots + 6 ≤ ms) :
    vW p l e R s m args below meth c D vwCl A (vx_MQ below (vG post D vwCl A) (vGX px D vwCl w0 A) args s mc ms A) nL cells slots w lv pc st := fun H locs ls hP hD hS hll => by
  have hat := thr_hat hX hok hE C.2.2.2.2.1
  obtain ⟨sa, hstr⟩ := hX.sr _ hs hE
  obtain ⟨hU, hN⟩ := hX.z hE
  exact vx_throwSW C.1 C.2.1 hl C.2.2.2.1 hcls hnames (hat _ List.mem_cons_self).1 (hat _ (List.mem_cons_of_mem _ List.mem_cons_self)).1 hstr (fun w hw => (hat w (List.mem_cons_of_mem _ (List.mem_cons_of_mem _ hw))).1) (fun w hw => (hat w hw).2) hU hN hS (hll.1.trans C.2.2.1.symm) d0 d3 d4 d6 d9 (fun x hx => (hnt x hx).elim) hRf hRl hRc hRs C.2.2.2.2.2.2.1 (fun t ht hz hk => ⟨hp, by subst hw; exact hP.kept (fun k q hq => hk q.1 (hP k q hq).lt), ⟨Nat.le_trans hS.1 hz, fun q h3 h4 => (hk q (Nat.lt_of_lt_of_le h3 hS.1)).trans (hS.2.1 q h3 h4)⟩⟩) hS.2.2 h1 h2
theorem r_throw {post : Option Value → va_W → Prop} {px : String → Prop} {w0 : va_W} {mc ms : Nat} {cls text : String} {names : List String} {ik is ic : Nat} (hX : EnvX X) (hl : l.stackTraces = false) (C : Fg p s m args meth c cc nL own D cy A) (hE : X A s s.heap) (hnt : ∀ x ∈ c.exceptionTable.toList, False)
    (hok : thr_ok own ik ic cls names = true) (hcls : Bundle.fit cls = true) (hnames : ∀ n ∈ names, Bundle.fit n = true) (hs : (own, is, text) ∈ SRL)
    (d0 : decode cc pc = .ok (.new ik, 3)) (d3 : decode cc (pc + 3) = .ok (.dup, 1)) (d4 : decode cc (pc + 4) = .ok (.ldc is, 2)) (d6 : decode cc (pc + 6) = .ok (.invokespecial ic, 3)) (d9 : decode cc (pc + 9) = .ok (.athrow, 1))
    (hRf : names.length + 3 < R.frames) (hRl : (st.map fun v => v.category).sum + (13 * (names.length + 1) + 43) ≤ R.locals) (hRc : cells + 1 ≤ R.cells) (hRs : slots + 6 ≤ R.slots) (hw : w = w0) (hp : px cls) (h1 : cells + 1 ≤ mc) (h2 : slots + 6 ≤ ms) :
    vW p l e R s m args below meth c D vwCl A (vx_MQ below (vG post D vwCl A) (vGX px D vwCl w0 A) args s mc ms A) nL cells slots w lv pc st := fun H locs ls hP hD hS hll => by
  have hat := thr_hat hX hok hE C.2.2.2.2.1
  obtain ⟨sa, hstr⟩ := hX.sr _ hs hE
  obtain ⟨hU, hN⟩ := hX.z hE
  exact vx_throwS C.1 C.2.1 hl C.2.2.2.1 hcls hnames (hat _ List.mem_cons_self).1 (hat _ (List.mem_cons_of_mem _ List.mem_cons_self)).1 hstr (fun w hw => (hat w (List.mem_cons_of_mem _ (List.mem_cons_of_mem _ hw))).1) (fun w hw => (hat w hw).2) hU hN hS (hll.1.trans C.2.2.1.symm) d0 d3 d4 d6 d9 (fun x hx => (hnt x hx).elim) hRf hRl hRc hRs C.2.2.2.2.2.2.1 (fun t ht hz hk => ⟨hp, by subst hw; exact hP.kept (fun k q hq => hk q.1 (hP k q hq).lt), ⟨Nat.le_trans hS.1 hz, fun q h3 h4 => (hk q (Nat.lt_of_lt_of_le h3 hS.1)).trans (hS.2.1 q h3 h4)⟩⟩) hS.2.2 h1 h2
end THR
theorem thr_of {own cls : String} {ik ic : Nat} {names : List String} (is : List Nat) (h : ixt (Cond.classLink own ik cls :: Cond.initialized cls :: vx_atS own ic cls names) is = true) (h2 : (Cond.classLink own ik cls :: Cond.initialized cls :: vx_atS own ic cls names).all (fun w => (goodWord w || nwk w) && vx_ot w) = true) : thr_ok own ik ic cls names = true := by
  unfold thr_ok
  rw [List.all_eq_true]
  intro w hw
  have a := ixt_spec _ is h w hw
  have b := List.all_eq_true.mp h2 w hw
  rw [Bool.and_eq_true, Bool.or_eq_true]
  exact ⟨Or.inl (decide_eq_true a), b⟩
