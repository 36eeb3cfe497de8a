/-! ===== 06.base -/
section PT_06
/-! CONTRACTS over one list of words; the kinds of arrays; the calls' rows -/
def tysL (cy : Nat → ClassId) : List (ClassId × FieldType) := [(cy 0, .byte), (cy 1, .int), (cy 2, .boolean), (cy 3, .object RX0), (cy 4, .object RX1), (cy 5, .array .int)]
def Cm (l : Launch) (D : va_G) (cy : Nat → ClassId) (X : (Nat → Prop) → State → Heap → Prop) (y : MethodName) (bytes : ByteArray) (maxL : Nat) (ret : Option FieldType) (rm : Room) (av : List Value) (w : va_W) (post : Option Value → va_W → Prop) (px : String → Prop) : Prop :=
  Ct l y (Cond.code y bytes maxL ret :: GW) rm D vwCl (tysL cy) X av w post px
/-- returns v with the world w', never throws -/
abbrev Cd (l : Launch) (D : va_G) (cy : Nat → ClassId) (X : (Nat → Prop) → State → Heap → Prop) (y : MethodName) (bytes : ByteArray) (maxL : Nat) (ret : Option FieldType) (rm : Room) (av : List Value) (w : va_W) (v : Option Value) (w' : va_W) : Prop :=
  Cm l D cy X y bytes maxL ret rm av w (fun v1 w1 => v1 = v ∧ w1 = w') (fun _ => False)
/-- throws E, and leaves the world -/
abbrev Ce (l : Launch) (D : va_G) (cy : Nat → ClassId) (X : (Nat → Prop) → State → Heap → Prop) (y : MethodName) (bytes : ByteArray) (maxL : Nat) (ret : Option FieldType) (rm : Room) (av : List Value) (w : va_W) (E : String) : Prop :=
  Cm l D cy X y bytes maxL ret rm av w (fun _ _ => False) (fun E1 => E1 = E)
abbrev rmz (f lo : Nat) : Room := { frames := f, cells := 0, slots := 0, locals := lo }
abbrev rmk (f c sl lo : Nat) : Room := { frames := f, cells := c, slots := sl, locals := lo }
theorem gw_cons {y : MethodName} {bytes : ByteArray} {maxL : Nat} {ret : Option FieldType} (hc : Cond.code y bytes maxL ret ∈ GW) : GoodIn GW (Cond.code y bytes maxL ret :: GW) := gw_good (fun _ h => h) (fun w h => (List.mem_cons.mp h).elim (fun e => e ▸ hc) (fun h => h))
/-- what a call of y wants, for an object's method and a static one -/
def PkV (Cn : String) (y : MethodName) (bytes : ByteArray) (maxL : Nat) (ret : Option FieldType) (n : Nat) : Prop :=
  (Cond.instanceMethod y ∈ GW ∧ Cond.selects Cn y y ∈ GW ∧ Cond.initialized Cn ∈ GW ∧ Cond.code y bytes maxL ret ∈ GW) ∧ y.cls = Cn ∧ y.cls ≠ "java/lang/invoke/MethodHandle" ∧ y.cls ≠ "java/lang/invoke/VarHandle" ∧ (parseMethodDescriptor y.desc).map (fun d => d.parameters.length) = some n
def PkS (y : MethodName) (bytes : ByteArray) (maxL : Nat) (ret : Option FieldType) (n : Nat) : Prop :=
  (Cond.static y ∈ GW ∧ Cond.initialized y.cls ∈ GW ∧ Cond.code y bytes maxL ret ∈ GW) ∧ y.cls ≠ "java/lang/invoke/MethodHandle" ∧ y.cls ≠ "java/lang/invoke/VarHandle" ∧ (parseMethodDescriptor y.desc).map (fun d => d.parameters.length) = some n
def PkI (y : MethodName) (bytes : ByteArray) (maxL : Nat) (n : Nat) : Prop :=
  (Cond.instanceMethod y ∈ GW ∧ Cond.initialized y.cls ∈ GW ∧ Cond.code y bytes maxL none ∈ GW) ∧ y.name = "<init>" ∧ y.cls ≠ "java/lang/invoke/MethodHandle" ∧ y.cls ≠ "java/lang/invoke/VarHandle" ∧ (parseMethodDescriptor y.desc).map (fun d => d.parameters.length) = some n
section BASE
variable {p : Program} {l : Launch} {e : Env} {R : Room} {s : State} {m : MethodId} {args : Array Value} {below : List Frame} {meth : Method} {c : Code} {D : va_G} {cy : Nat → ClassId} {A : Nat → Prop} {Q : State → Prop} {nL cells slots : Nat} {w : va_W} {lv : List (Option Value)} {pc : Nat} {st : List Value} {cc : ByteArray} {own : String} {X : (Nat → Prop) → State → Heap → Prop}
variable {y : MethodName} {bytes : ByteArray} {maxL index n b : Nat} {ret : Option FieldType} {rm : Room} {Cn : String} {As st0 : List Value} {post : Option Value → va_W → Prop} {px : String → Prop} {v0 : Value} {w' : va_W}
theorem cw_V (ht : ∀ w ∈ GW, w.before args s = true) (pk : PkV Cn y bytes maxL ret n) (qm : Cond.methodLink own index y ∈ GW) (hR : rm.frames + 1 ≤ R.frames ∧ 8 + (maxL + 11) + rm.locals ≤ R.locals) : CallW R s args own Cn index y bytes maxL ret (Cond.code y bytes maxL ret :: GW) rm rm.cells rm.slots n := by
  obtain ⟨⟨q1, q2, q3, q4⟩, hd⟩ := pk
  refine cwV n ht ?_ rfl rfl rfl hd hR
  refine gw_good (fun _ h => h) (fun w h => ?_)
  simp only [wsV, List.cons_append, List.nil_append, List.mem_cons] at h
  rcases h with h | h | h | h | h | h
  · exact h ▸ qm
  · exact h ▸ q1
  · exact h ▸ q2
  · exact h ▸ q3
  · exact h ▸ q4
  · exact h
theorem cw_S (ht : ∀ w ∈ GW, w.before args s = true) (pk : PkS y bytes maxL ret n) (qm : Cond.methodLink own index y ∈ GW) (hR : rm.frames + 1 ≤ R.frames ∧ 8 + (maxL + 11) + rm.locals ≤ R.locals) : CallB R s args own index y bytes maxL ret (Cond.code y bytes maxL ret :: GW) rm rm.cells rm.slots n ∧ (Cond.static y).before args s = true := by
  obtain ⟨⟨q1, q2, q3⟩, hd⟩ := pk
  exact ⟨callB_of n ht (gw_cons q3) rfl rfl rfl (ht _ q2) (ht _ qm) hd hR, ht _ q1⟩
theorem cw_I (ht : ∀ w ∈ GW, w.before args s = true) (pk : PkI y bytes maxL n) (qm : Cond.methodLink own index y ∈ GW) (hR : rm.frames + 1 ≤ R.frames ∧ 8 + (maxL + 11) + rm.locals ≤ R.locals) : CallB R s args own index y bytes maxL none (Cond.code y bytes maxL none :: GW) rm rm.cells rm.slots n ∧ y.name = "<init>" ∧ (Cond.instanceMethod y).before args s = true := by
  obtain ⟨⟨q1, q2, q3⟩, hn, hd⟩ := pk
  exact ⟨callB_of n ht (gw_cons q3) rfl rfl rfl (ht _ q2) (ht _ qm) hd hR, hn, ht _ q1⟩
abbrev Fg (p : Program) (s : State) (m : MethodId) (args : Array Value) (meth : Method) (c : Code) (cc : ByteArray) (nL : Nat) (own : String) (D : va_G) (cy : Nat → ClassId) (A : Nat → Prop) : Prop := Fx p s m args meth c cc nL own GW D vwCl (tysL cy) A
/-- a call of an object's method -/
theorem c_V (hX : Stb X) (C : Fg p s m args meth c cc nL own D cy A) (hE : X A s s.heap) (ct : Cm l D cy X y bytes maxL ret rm (.ref b :: As) w post px) (pk : PkV Cn y bytes maxL ret n) (qm : Cond.methodLink own index y ∈ GW)
    (q0 ci : Nat) {fs : List Value} {q : vw_C} (hc : vwCl[ci]? = some q) (hq : q.1 = Cn) (he : w[q0]? = some (b, .inr (ci, fs))) (hn : As.length = n) (hstack : st0 = As.reverse ++ .ref b :: st) (hcat : (st.map fun v => v.category).sum ≤ 8)
    (d : decode cc pc = .ok (.invokevirtual index, 3)) (hR : rm.frames + 1 ≤ R.frames ∧ 8 + (maxL + 11) + rm.locals ≤ R.locals) (hf : cells + rm.cells ≤ R.cells ∧ slots + rm.slots ≤ R.slots)
    (kk : ∀ (v : Option Value) (w' : va_W), post v w' → vW p l e R s m args below meth c D vwCl A Q nL (cells + rm.cells) (slots + rm.slots) w' lv (pc + 3) (v.toList ++ st))
    (kx : ∀ E : String, px E → vX p l e R s m args below meth c D vwCl A Q nL (cells + rm.cells) (slots + rm.slots) w lv pc st E) : vW p l e R s m args below meth c D vwCl A Q nL cells slots w lv pc st0 :=
  r_callV hX C hE ct (cw_V C.2.2.2.2.1 pk qm hR) q0 ci hc hq he hn hstack hcat d hf kk kx
theorem c_S (hX : Stb X) (C : Fg p s m args meth c cc nL own D cy A) (hE : X A s s.heap) (ct : Cm l D cy X y bytes maxL ret rm As w post px) (pk : PkS y bytes maxL ret n) (qm : Cond.methodLink own index y ∈ GW)
    (hn : As.length = n) (hstack : st0 = As.reverse ++ st) (hcat : (st.map fun v => v.category).sum ≤ 8)
    (d : decode cc pc = .ok (.invokestatic index, 3)) (hR : rm.frames + 1 ≤ R.frames ∧ 8 + (maxL + 11) + rm.locals ≤ R.locals) (hf : cells + rm.cells ≤ R.cells ∧ slots + rm.slots ≤ R.slots)
    (kk : ∀ (v : Option Value) (w' : va_W), post v w' → vW p l e R s m args below meth c D vwCl A Q nL (cells + rm.cells) (slots + rm.slots) w' lv (pc + 3) (v.toList ++ st))
    (kx : ∀ E : String, px E → vX p l e R s m args below meth c D vwCl A Q nL (cells + rm.cells) (slots + rm.slots) w lv pc st E) : vW p l e R s m args below meth c D vwCl A Q nL cells slots w lv pc st0 :=
  r_callS hX C hE ct (cw_S C.2.2.2.2.1 pk qm hR) hn hstack hcat d hf kk kx
/-- calls whose end is known: with an answer, without one; of an object's method, a static one -/
theorem d_V (hX : Stb X) (C : Fg p s m args meth c cc nL own D cy A) (hE : X A s s.heap) (ct : Cd l D cy X y bytes maxL ret rm (.ref b :: As) w (some v0) w') (pk : PkV Cn y bytes maxL ret n) (qm : Cond.methodLink own index y ∈ GW)
    (q0 ci : Nat) {fs : List Value} {q : vw_C} (hc : vwCl[ci]? = some q) (hq : q.1 = Cn) (he : w[q0]? = some (b, .inr (ci, fs))) (hn : As.length = n) (hstack : st0 = As.reverse ++ .ref b :: st) (hcat : (st.map fun v => v.category).sum ≤ 8)
    (d : decode cc pc = .ok (.invokevirtual index, 3)) (hR : rm.frames + 1 ≤ R.frames ∧ 8 + (maxL + 11) + rm.locals ≤ R.locals) (hf : cells + rm.cells ≤ R.cells ∧ slots + rm.slots ≤ R.slots)
    (kk : vW p l e R s m args below meth c D vwCl A Q nL (cells + rm.cells) (slots + rm.slots) w' lv (pc + 3) (v0 :: st)) : vW p l e R s m args below meth c D vwCl A Q nL cells slots w lv pc st0 :=
  c_V hX C hE ct pk qm q0 ci hc hq he hn hstack hcat d hR hf (fun v w1 h => by obtain ⟨rfl, rfl⟩ := h; exact kk) (fun _ h => h.elim)
theorem d_Vv (hX : Stb X) (C : Fg p s m args meth c cc nL own D cy A) (hE : X A s s.heap) (ct : Cd l D cy X y bytes maxL ret rm (.ref b :: As) w none w') (pk : PkV Cn y bytes maxL ret n) (qm : Cond.methodLink own index y ∈ GW)
    (q0 ci : Nat) {fs : List Value} {q : vw_C} (hc : vwCl[ci]? = some q) (hq : q.1 = Cn) (he : w[q0]? = some (b, .inr (ci, fs))) (hn : As.length = n) (hstack : st0 = As.reverse ++ .ref b :: st) (hcat : (st.map fun v => v.category).sum ≤ 8)
    (d : decode cc pc = .ok (.invokevirtual index, 3)) (hR : rm.frames + 1 ≤ R.frames ∧ 8 + (maxL + 11) + rm.locals ≤ R.locals) (hf : cells + rm.cells ≤ R.cells ∧ slots + rm.slots ≤ R.slots)
    (kk : vW p l e R s m args below meth c D vwCl A Q nL (cells + rm.cells) (slots + rm.slots) w' lv (pc + 3) st) : vW p l e R s m args below meth c D vwCl A Q nL cells slots w lv pc st0 :=
  c_V hX C hE ct pk qm q0 ci hc hq he hn hstack hcat d hR hf (fun v w1 h => by obtain ⟨rfl, rfl⟩ := h; exact kk) (fun _ h => h.elim)
theorem d_S (hX : Stb X) (C : Fg p s m args meth c cc nL own D cy A) (hE : X A s s.heap) (ct : Cd l D cy X y bytes maxL ret rm As w (some v0) w') (pk : PkS y bytes maxL ret n) (qm : Cond.methodLink own index y ∈ GW)
    (hn : As.length = n) (hstack : st0 = As.reverse ++ st) (hcat : (st.map fun v => v.category).sum ≤ 8)
    (d : decode cc pc = .ok (.invokestatic index, 3)) (hR : rm.frames + 1 ≤ R.frames ∧ 8 + (maxL + 11) + rm.locals ≤ R.locals) (hf : cells + rm.cells ≤ R.cells ∧ slots + rm.slots ≤ R.slots)
    (kk : vW p l e R s m args below meth c D vwCl A Q nL (cells + rm.cells) (slots + rm.slots) w' lv (pc + 3) (v0 :: st)) : vW p l e R s m args below meth c D vwCl A Q nL cells slots w lv pc st0 :=
  c_S hX C hE ct pk qm hn hstack hcat d hR hf (fun v w1 h => by obtain ⟨rfl, rfl⟩ := h; exact kk) (fun _ h => h.elim)
theorem d_Sv (hX : Stb X) (C : Fg p s m args meth c cc nL own D cy A) (hE : X A s s.heap) (ct : Cd l D cy X y bytes maxL ret rm As w none w') (pk : PkS y bytes maxL ret n) (qm : Cond.methodLink own index y ∈ GW)
    (hn : As.length = n) (hstack : st0 = As.reverse ++ st) (hcat : (st.map fun v => v.category).sum ≤ 8)
    (d : decode cc pc = .ok (.invokestatic index, 3)) (hR : rm.frames + 1 ≤ R.frames ∧ 8 + (maxL + 11) + rm.locals ≤ R.locals) (hf : cells + rm.cells ≤ R.cells ∧ slots + rm.slots ≤ R.slots)
    (kk : vW p l e R s m args below meth c D vwCl A Q nL (cells + rm.cells) (slots + rm.slots) w' lv (pc + 3) st) : vW p l e R s m args below meth c D vwCl A Q nL cells slots w lv pc st0 :=
  c_S hX C hE ct pk qm hn hstack hcat d hR hf (fun v w1 h => by obtain ⟨rfl, rfl⟩ := h; exact kk) (fun _ h => h.elim)
end BASE
/-- a body gives its contract, over the one list -/
theorem Cm.of {l : Launch} {D : va_G} {cy : Nat → ClassId} {X : (Nat → Prop) → State → Heap → Prop} {y : MethodName} {cc : ByteArray} {maxL : Nat} {ret : Option FieldType} {rm : Room} {av : List Value} {w : va_W} {post : Option Value → va_W → Prop} {px : String → Prop} (lv : List (Option Value))
    (hy : plainName y.cls = true) (hlv : lvl 0 lv = lv_args 0 av) (hlen : (lg_sl av).length ≤ maxL)
    (body : ∀ (p : Program) (e : Env) (s : State) (m : MethodId) (args : Array Value) (below : List Frame) (meth : Method) (c : Code) (A : Nat → Prop), Fg p s m args meth c cc maxL y.cls D cy A → X A s s.heap → meth.sig.returnType = ret → (∀ x ∈ c.exceptionTable.toList, False) → meth.name = y.name →
      vW p l e rm s m args below meth c D vwCl A (vx_MQ below (vG post D vwCl A) (vGX px D vwCl w A) args s rm.cells rm.slots A) maxL 0 0 w lv 0 []) : Cm l D cy X y cc maxL ret rm av w post px :=
  Ct.of hy rfl hlv hlen (fun p e s m args below meth c A C hE hr hnt hn => body p e s m args below meth c A ⟨C.1, C.2.1, C.2.2.1, C.2.2.2.1, fun w hw => C.2.2.2.2.1 w (List.mem_cons_of_mem _ hw), C.2.2.2.2.2⟩ hE hr hnt hn)
end PT_06
/-! ===== 07.env -/
section PT_07
/-! WHAT IS KNOWN OUTSIDE THE WORLD: links between nest mates, the statics that a throw reads, the texts -/
def nwk : Cond → Bool
  | .fieldLinkNest .. => true
  | .castable .. => true
  | .declares .. => true
  | _ => false
def NWL : List Cond := tables_1.filter nwk
def SRL : List (String × Nat × String) := [("Splicemonoid", 286, "there is no such question"), ("java/lang/StringIndexOutOfBoundsException", 13, "String index out of range: "), ("java/util/Arrays", 337, " > "), ("java/util/Arrays", 48, "fromIndex("), ("java/util/Arrays", 57, ") > toIndex("), ("java/util/Arrays", 59, ")"), ("java/lang/ArrayIndexOutOfBoundsException", 13, "Array index out of range: "), ("Splicemonoid$Part", 75, ", "), ("Splicemonoid", 280, "there is no such window"), ("Splicemonoid", 282, "there is no such cursor"), ("Splicemonoid", 288, "there is no such row or window"), ("Splicemonoid", 284, "an item is from -99 to 99"), ("Splicemonoid", 292, "a row has at most 12 items"), ("Splicemonoid", 290, "there is no such place"), ("Splicemonoid", 92, "a turn goes from -99 to 99"), ("Splicemonoid", 120, "there are the orders 0 to 2"), ("Splicemonoid", 278, "there is no such row"), ("Splicemonoid", 139, "a row has 0 to 12 items"), ("Splicemonoid", 149, "the row has no items"), ("Splicemonoid", 185, "a window can't be seen through at itself"), ("Splicemonoid", 215, "a cursor can't stand there"), ("Splicemonoid", 294, "the cursor is not there"), ("SplicemonoidModel", 151, ""), ("SplicemonoidModel", 166, ", "), ("SplicemonoidModel", 175, "["), ("SplicemonoidModel", 177, "]")]
def EnvX (X : (Nat → Prop) → State → Heap → Prop) : Prop := Stb X ∧ (∀ w ∈ NWL, ∀ (A : Nat → Prop) (U : State) (H : Heap), X A U H → va_Nw w U) ∧ (∀ (A : Nat → Prop) (U : State) (H : Heap), X A U H → vx_Zq Bundle.tN "UNASSIGNED_STACK" Bundle.steD A U H ∧ vx_Zq Bundle.tN "SUPPRESSED_SENTINEL" Bundle.listD A U H) ∧ (∀ q ∈ SRL, ∀ (A : Nat → Prop) (U : State) (H : Heap), X A U H → ∃ sa, vk_R q.1 q.2.1 q.2.2 sa U)
theorem EnvX.stb {X : (Nat → Prop) → State → Heap → Prop} (h : EnvX X) : Stb X := h.1
theorem EnvX.nw {X : (Nat → Prop) → State → Heap → Prop} (h : EnvX X) {w : Cond} (hw : w ∈ NWL) (ho : w.onTables = true) {A : Nat → Prop} {U : State} {H : Heap} (hE : X A U H) {args : Array Value} : w.before args U = true := va_Nw.use ho (h.2.1 w hw A U H hE)
theorem EnvX.z {X : (Nat → Prop) → State → Heap → Prop} (h : EnvX X) {A : Nat → Prop} {U : State} {H : Heap} (hE : X A U H) : vx_Zq Bundle.tN "UNASSIGNED_STACK" Bundle.steD A U H ∧ vx_Zq Bundle.tN "SUPPRESSED_SENTINEL" Bundle.listD A U H := h.2.2.1 A U H hE
theorem EnvX.sr {X : (Nat → Prop) → State → Heap → Prop} (h : EnvX X) (q : String × Nat × String) (hq : q ∈ SRL) {A : Nat → Prop} {U : State} {H : Heap} (hE : X A U H) : ∃ sa, vk_R q.1 q.2.1 q.2.2 sa U := h.2.2.2 q hq A U H hE
theorem nw_t {w : Cond} (i : Nat) (h : tables_1[i]? = some w) (g : nwk w = true) : w ∈ NWL := List.mem_filter.mpr ⟨List.mem_of_getElem? h, g⟩
theorem qn_X2_18 : Cond.fieldLinkNest RX2 18 RX1 "items" "[I" "Splicemonoid" ∈ NWL := List.mem_filter.mpr ⟨(gm_1 41 rfl), rfl⟩
theorem qn_X2_207 : Cond.fieldLinkNest RX2 207 RX1 "row" "I" "Splicemonoid" ∈ NWL := List.mem_filter.mpr ⟨(gm_1 43 rfl), rfl⟩
theorem qn_X2_204 : Cond.fieldLinkNest RX2 204 RX1 "ground" "I" "Splicemonoid" ∈ NWL := List.mem_filter.mpr ⟨(gm_1 45 rfl), rfl⟩
theorem qn_X2_296 : Cond.fieldLinkNest RX2 296 RX1 "start" "I" "Splicemonoid" ∈ NWL := List.mem_filter.mpr ⟨(gm_1 47 rfl), rfl⟩
theorem qn_X2_50 : Cond.fieldLinkNest RX2 50 RX1 "length" "I" "Splicemonoid" ∈ NWL := List.mem_filter.mpr ⟨(gm_1 48 rfl), rfl⟩
theorem qn_X0_25 : Cond.fieldLinkNest RX0 25 RX1 "length" "I" "Splicemonoid" ∈ NWL := List.mem_filter.mpr ⟨(gm_1 50 rfl), rfl⟩
theorem qn_X2_194 : Cond.fieldLinkNest RX2 194 RX1 "isThere" "Z" "Splicemonoid" ∈ NWL := List.mem_filter.mpr ⟨(gm_1 52 rfl), rfl⟩
theorem qn_X2_225 : Cond.fieldLinkNest RX2 225 RX0 "where" "I" "Splicemonoid" ∈ NWL := List.mem_filter.mpr ⟨(gm_1 75 rfl), rfl⟩
theorem qn_X2_234 : Cond.fieldLinkNest RX2 234 RX0 "index" "I" "Splicemonoid" ∈ NWL := List.mem_filter.mpr ⟨(gm_1 77 rfl), rfl⟩
theorem qn_X2_237 : Cond.fieldLinkNest RX2 237 RX0 "last" "I" "Splicemonoid" ∈ NWL := List.mem_filter.mpr ⟨(gm_1 79 rfl), rfl⟩
theorem qn_X2_221 : Cond.fieldLinkNest RX2 221 RX0 "isThere" "Z" "Splicemonoid" ∈ NWL := List.mem_filter.mpr ⟨(gm_1 81 rfl), rfl⟩
theorem qn_L_13 : Cond.fieldLinkNest RL 13 RX3 "n" "J" "SplicemonoidLaw" ∈ NWL := List.mem_filter.mpr ⟨(gm_3 210 rfl), rfl⟩
theorem qn_L_127 : Cond.fieldLinkNest RL 127 RX3 "s" "Ljava/lang/String;" "SplicemonoidLaw" ∈ NWL := List.mem_filter.mpr ⟨(gm_3 211 rfl), rfl⟩
/-- a throw's words: in the list, or of the nest's kind -/
def thr_ok (own : String) (ik ic : Nat) (cls : String) (names : List String) : Bool :=
  (Cond.classLink own ik cls :: Cond.initialized cls :: vx_atS own ic cls names).all (fun w => (decide (w ∈ tables_1) || decide (w ∈ k2_sels lw_privs)) && ((goodWord w || nwk w) && vx_ot w))
theorem thr_hat {X : (Nat → Prop) → State → Heap → Prop} (hX : EnvX X) {own cls : String} {ik ic : Nat} {names : List String} (h : thr_ok own ik ic cls names = true) {A : Nat → Prop} {s : State} {args : Array Value} (hE : X A s s.heap) (ht : ∀ w ∈ GW, w.before args s = true) : ∀ w ∈ Cond.classLink own ik cls :: Cond.initialized cls :: vx_atS own ic cls names, w.before args s = true ∧ vx_ot w = true := by
  intro w hw
  have h1 := List.all_eq_true.mp h w hw
  simp only [Bool.and_eq_true, Bool.or_eq_true, decide_eq_true_eq] at h1
  obtain ⟨h1, h2, h3⟩ := h1
  refine ⟨?_, h3⟩
  rcases h2 with h2 | h2
  · refine ht w (List.mem_filter.mpr ⟨?_, h2⟩)
    rcases h1 with h1 | h1
    · exact List.mem_append_right _ h1
    · exact List.mem_append_left _ h1
  · rcases h1 with h1 | h1
    · refine hX.nw (List.mem_filter.mpr ⟨h1, h2⟩) ?_ hE
      simp only [vx_ot, Bool.or_eq_true] at h3
      cases w <;> first | rfl | (simp [nwk] at h2)
    · exfalso
      obtain ⟨q, -, hq⟩ := List.mem_map.mp h1
      subst hq
      simp [nwk] at h2
section THR
variable {p : Program} {l : Launch} {e : Env} {R : Room} {s : State} {m : MethodId} {args : Array Value} {below : List Frame} {meth : Method} {c : Code} {D : va_G} {cy : Nat → ClassId} {A : Nat → Prop} {nL cells slots : Nat} {w : va_W} {lv : List (Option Value)} {pc : Nat} {st : List Value} {cc : ByteArray} {own : String} {X : (Nat → Prop) → State → Heap → Prop}
theorem r_throwW {post : Option Value → va_W → Prop} {px : String → Prop} {w0 : va_W} {mc ms : Nat} {cls text : String} {names : List String} {ik is ic : Nat} (hX : EnvX X) (hl : l.stackTraces = false) (C : Fg p s m args meth c cc nL own D cy A) (hE : X A s s.heap) (hnt : ∀ x ∈ c.exceptionTable.toList, False)
    (hok : thr_ok own ik ic cls names = true) (hcls : Bundle.fit cls = true) (hnames : ∀ n ∈ names, Bundle.fit n = true) (hs : (own, is, text) ∈ SRL)
    (d0 : decode cc pc = .ok (.new ik, 3)) (d3 : decode cc (pc + 3) = .ok (.dup, 1)) (d4 : decode cc (pc + 4) = .ok (.ldc_w is, 3)) (d6 : decode cc (pc + 7) = .ok (.invokespecial ic, 3)) (d9 : decode cc (pc + 10) = .ok (.athrow, 1))
    (hRf : names.length + 3 < R.frames) (hRl : (st.map fun v => v.category).sum + (13 * (names.length + 1) + 43) ≤ R.locals) (hRc : cells + 1 ≤ R.cells) (hRs : slots + 6 ≤ R.slots) (hw : w = w0) (hp : px cls) (h1 : cells + 1 ≤ mc) (h2 : slots + 6 ≤ ms) :
    vW p l e R s m args below meth c D vwCl A (vx_MQ below (vG post D vwCl A) (vGX px D vwCl w0 A) args s mc ms A) nL cells slots w lv pc st := fun H locs ls hP hD hS hll => by
  have hat := thr_hat hX hok hE C.2.2.2.2.1
  obtain ⟨sa, hstr⟩ := hX.sr _ hs hE
  obtain ⟨hU, hN⟩ := hX.z hE
  exact vx_throwSW C.1 C.2.1 hl C.2.2.2.1 hcls hnames (hat _ List.mem_cons_self).1 (hat _ (List.mem_cons_of_mem _ List.mem_cons_self)).1 hstr (fun w hw => (hat w (List.mem_cons_of_mem _ (List.mem_cons_of_mem _ hw))).1) (fun w hw => (hat w hw).2) hU hN hS (hll.1.trans C.2.2.1.symm) d0 d3 d4 d6 d9 (fun x hx => (hnt x hx).elim) hRf hRl hRc hRs C.2.2.2.2.2.2.1 (fun t ht hz hk => ⟨hp, by subst hw; exact hP.kept (fun k q hq => hk q.1 (hP k q hq).lt), ⟨Nat.le_trans hS.1 hz, fun q h3 h4 => (hk q (Nat.lt_of_lt_of_le h3 hS.1)).trans (hS.2.1 q h3 h4)⟩⟩) hS.2.2 h1 h2
theorem r_throw {post : Option Value → va_W → Prop} {px : String → Prop} {w0 : va_W} {mc ms : Nat} {cls text : String} {names : List String} {ik is ic : Nat} (hX : EnvX X) (hl : l.stackTraces = false) (C : Fg p s m args meth c cc nL own D cy A) (hE : X A s s.heap) (hnt : ∀ x ∈ c.exceptionTable.toList, False)
    (hok : thr_ok own ik ic cls names = true) (hcls : Bundle.fit cls = true) (hnames : ∀ n ∈ names, Bundle.fit n = true) (hs : (own, is, text) ∈ SRL)
    (d0 : decode cc pc = .ok (.new ik, 3)) (d3 : decode cc (pc + 3) = .ok (.dup, 1)) (d4 : decode cc (pc + 4) = .ok (.ldc is, 2)) (d6 : decode cc (pc + 6) = .ok (.invokespecial ic, 3)) (d9 : decode cc (pc + 9) = .ok (.athrow, 1))
    (hRf : names.length + 3 < R.frames) (hRl : (st.map fun v => v.category).sum + (13 * (names.length + 1) + 43) ≤ R.locals) (hRc : cells + 1 ≤ R.cells) (hRs : slots + 6 ≤ R.slots) (hw : w = w0) (hp : px cls) (h1 : cells + 1 ≤ mc) (h2 : slots + 6 ≤ ms) :
    vW p l e R s m args below meth c D vwCl A (vx_MQ below (vG post D vwCl A) (vGX px D vwCl w0 A) args s mc ms A) nL cells slots w lv pc st := fun H locs ls hP hD hS hll => by
  have hat := thr_hat hX hok hE C.2.2.2.2.1
  obtain ⟨sa, hstr⟩ := hX.sr _ hs hE
  obtain ⟨hU, hN⟩ := hX.z hE
  exact vx_throwS C.1 C.2.1 hl C.2.2.2.1 hcls hnames (hat _ List.mem_cons_self).1 (hat _ (List.mem_cons_of_mem _ List.mem_cons_self)).1 hstr (fun w hw => (hat w (List.mem_cons_of_mem _ (List.mem_cons_of_mem _ hw))).1) (fun w hw => (hat w hw).2) hU hN hS (hll.1.trans C.2.2.1.symm) d0 d3 d4 d6 d9 (fun x hx => (hnt x hx).elim) hRf hRl hRc hRs C.2.2.2.2.2.2.1 (fun t ht hz hk => ⟨hp, by subst hw; exact hP.kept (fun k q hq => hk q.1 (hP k q hq).lt), ⟨Nat.le_trans hS.1 hz, fun q h3 h4 => (hk q (Nat.lt_of_lt_of_le h3 hS.1)).trans (hS.2.1 q h3 h4)⟩⟩) hS.2.2 h1 h2
end THR
theorem thr_of {own cls : String} {ik ic : Nat} {names : List String} (is : List Nat) (h : ixt (Cond.classLink own ik cls :: Cond.initialized cls :: vx_atS own ic cls names) is = true) (h2 : (Cond.classLink own ik cls :: Cond.initialized cls :: vx_atS own ic cls names).all (fun w => (goodWord w || nwk w) && vx_ot w) = true) : thr_ok own ik ic cls names = true := by
  unfold thr_ok
  rw [List.all_eq_true]
  intro w hw
  have a := ixt_spec _ is h w hw
  have b := List.all_eq_true.mp h2 w hw
  rw [Bool.and_eq_true, Bool.or_eq_true]
  exact ⟨Or.inl (decide_eq_true a), b⟩
end PT_07
/-! ===== 08.classW -/
section PT_08
/-! THE CLASS'S WORLD. a: addresses (a 0: this, the two arrays of references; a 1 i: the Parts (0..3 rows, 4..7 windows, 8 spare, 9 left, 10 right); a 2 j: the arrays of items (0..3 rows, 4 spare, 5 left, 6 right); a 3 k: the Cursors).
f: numbers (f 0 i: whose items; 1 row, 2 ground, 3 start, 4 length, 5 isThere of Part i; 6 where, 7 index, 8 last, 9 isThere of Cursor k; -1 is 4294967295); r: items; kn: knocks -/
def up2 {α : Type} (f : Nat → Nat → α) (k i : Nat) (v : α) : Nat → Nat → α := fun k' i' => if k' = k ∧ i' = i then v else f k' i'
theorem up2_eq {α : Type} (f : Nat → Nat → α) (k i : Nat) (v : α) : up2 f k i v k i = v := by simp [up2]
theorem up2_k {α : Type} (f : Nat → Nat → α) {k k' : Nat} (i i' : Nat) (v : α) (h : k' ≠ k) : up2 f k i v k' i' = f k' i' := by simp [up2, h]
theorem up2_i {α : Type} (f : Nat → Nat → α) (k k' : Nat) {i i' : Nat} (v : α) (h : i' ≠ i) : up2 f k i v k' i' = f k' i' := by simp [up2, h]
def pV (a f : Nat → Nat → Nat) (i : Nat) : List Value := [.ref (a 2 (f 0 i)), .int (nI (f 1 i)), .int (nI (f 2 i)), .int (nI (f 3 i)), .int (nI (f 4 i)), .int (nI (f 5 i))]
def uV (f : Nat → Nat → Nat) (k : Nat) : List Value := [.int (nI (f 6 k)), .int (nI (f 7 k)), .int (nI (f 8 k)), .int (nI (f 9 k))]
def sV (a : Nat → Nat → Nat) (kn : Int32) : List Value := [.ref (a 0 1), .ref (a 0 2), .ref (a 1 8), .ref (a 1 9), .ref (a 1 10), .int kn]
def pC (a f : Nat → Nat → Nat) (i : Nat) : Nat × va_E := (a 1 i, .inr (5, pV a f i))
def rC (cy : Nat → ClassId) (a : Nat → Nat → Nat) (r : Nat → Nat → Int32) (j : Nat) : Nat × va_E := (a 2 j, .inl (cy 1, 12, .inl (r j)))
def uC (a f : Nat → Nat → Nat) (k : Nat) : Nat × va_E := (a 3 k, .inr (4, uV f k))
def WC (cy : Nat → ClassId) (a f : Nat → Nat → Nat) (r : Nat → Nat → Int32) (kn : Int32) : va_W :=
  (a 0 0, .inr (6, sV a kn)) :: (a 0 1, .inl (cy 4, 8, .inr (.inr (.inr (.inr (fun i => some (a 1 i))))))) :: (a 0 2, .inl (cy 3, 3, .inr (.inr (.inr (.inr (fun i => some (a 3 i))))))) ::
    ((List.range 11).map (pC a f) ++ ((List.range 7).map (rC cy a r) ++ (List.range 3).map (uC a f)))
section CW
variable {cy : Nat → ClassId} {a f : Nat → Nat → Nat} {r : Nat → Nat → Int32} {kn : Int32} {Y : va_W}
theorem wc_len : (WC cy a f r kn).length = 24 := by simp [WC]
theorem wc_in {k : Nat} (h : k < 24) : (WC cy a f r kn ++ Y)[k]? = (WC cy a f r kn)[k]? := List.getElem?_append_left (by rw [wc_len]; exact h)
theorem wc_p {i : Nat} (hi : i < 11) : (WC cy a f r kn ++ Y)[3 + i]? = some (pC a f i) := by
  rw [wc_in (by omega), show 3 + i = i + 1 + 1 + 1 by omega, WC, List.getElem?_cons_succ, List.getElem?_cons_succ, List.getElem?_cons_succ, List.getElem?_append_left (by simp; exact hi), List.getElem?_map, List.getElem?_range hi]
  rfl
theorem wc_r {j : Nat} (hj : j < 7) : (WC cy a f r kn ++ Y)[14 + j]? = some (rC cy a r j) := by
  rw [wc_in (by omega), show 14 + j = (11 + j) + 1 + 1 + 1 by omega, WC, List.getElem?_cons_succ, List.getElem?_cons_succ, List.getElem?_cons_succ, List.getElem?_append_right (by simp), List.getElem?_append_left (by simp; omega), List.getElem?_map, List.length_map, List.length_range, show 11 + j - 11 = j by omega, List.getElem?_range hj]
  rfl
theorem wc_u {k : Nat} (hk : k < 3) : (WC cy a f r kn ++ Y)[21 + k]? = some (uC a f k) := by
  rw [wc_in (by omega), show 21 + k = (18 + k) + 1 + 1 + 1 by omega, WC, List.getElem?_cons_succ, List.getElem?_cons_succ, List.getElem?_cons_succ, List.getElem?_append_right (by simp; omega), List.getElem?_append_right (by simp; omega), List.getElem?_map, List.length_map, List.length_range, List.length_map, List.length_range, show 18 + k - 11 - 7 = k by omega, List.getElem?_range hk]
  rfl
theorem wc_0 : (WC cy a f r kn ++ Y)[0]? = some (a 0 0, .inr (6, sV a kn)) := rfl
theorem wc_1 : (WC cy a f r kn ++ Y)[1]? = some (a 0 1, .inl (cy 4, 8, .inr (.inr (.inr (.inr (fun i => some (a 1 i))))))) := rfl
theorem wc_2 : (WC cy a f r kn ++ Y)[2]? = some (a 0 2, .inl (cy 3, 3, .inr (.inr (.inr (.inr (fun i => some (a 3 i))))))) := rfl
theorem map_set {α : Type} {n i : Nat} {g g' : Nat → α} (h : ∀ j, j < n → j ≠ i → g' j = g j) : ((List.range n).map g).set i (g' i) = (List.range n).map g' := by
  apply List.ext_getElem?
  intro j
  rw [List.getElem?_set]
  by_cases hj : j < n
  · by_cases hij : i = j
    · subst hij
      simp [hj]
    · simp [hij, hj, h j hj (fun q => hij q.symm)]
  · by_cases hij : i = j
    · subst hij
      simp [hj]
    · simp [hij, hj]
theorem wc_setX {k : Nat} {x : Nat × va_E} (h : k < 24) : (WC cy a f r kn ++ Y).set k x = (WC cy a f r kn).set k x ++ Y := List.set_append_left _ _ (by rw [wc_len]; exact h)
theorem wc_sp {f' : Nat → Nat → Nat} {i : Nat} (hi : i < 11) (hp : ∀ j, j < 11 → j ≠ i → pC a f' j = pC a f j) (hu : ∀ k, k < 3 → uC a f' k = uC a f k) : (WC cy a f r kn ++ Y).set (3 + i) (pC a f' i) = WC cy a f' r kn ++ Y := by
  rw [wc_setX (by omega), show 3 + i = i + 1 + 1 + 1 by omega, WC, List.set_cons_succ, List.set_cons_succ, List.set_cons_succ, List.set_append_left _ _ (by simp; exact hi), map_set hp, WC, List.map_congr_left (l := List.range 3) (fun k hk => (hu k (List.mem_range.mp hk)).symm)]
theorem wc_sr {r' : Nat → Nat → Int32} {j : Nat} (hj : j < 7) (hr : ∀ i, i < 7 → i ≠ j → rC cy a r' i = rC cy a r i) : (WC cy a f r kn ++ Y).set (14 + j) (rC cy a r' j) = WC cy a f r' kn ++ Y := by
  rw [wc_setX (by omega), show 14 + j = (11 + j) + 1 + 1 + 1 by omega, WC, List.set_cons_succ, List.set_cons_succ, List.set_cons_succ, List.set_append_right _ _ (by simp), List.set_append_left _ _ (by simp; omega), List.length_map, List.length_range, show 11 + j - 11 = j by omega, map_set hr, WC]
theorem wc_su {f' : Nat → Nat → Nat} {k : Nat} (hk : k < 3) (hp : ∀ j, j < 11 → pC a f' j = pC a f j) (hu : ∀ i, i < 3 → i ≠ k → uC a f' i = uC a f i) : (WC cy a f r kn ++ Y).set (21 + k) (uC a f' k) = WC cy a f' r kn ++ Y := by
  rw [wc_setX (by omega), show 21 + k = (18 + k) + 1 + 1 + 1 by omega, WC, List.set_cons_succ, List.set_cons_succ, List.set_cons_succ, List.set_append_right _ _ (by simp; omega), List.set_append_right _ _ (by simp; omega), List.length_map, List.length_range, List.length_map, List.length_range, show 18 + k - 11 - 7 = k by omega, map_set hu, WC, List.map_congr_left (l := List.range 11) (fun k hk => (hp k (List.mem_range.mp hk)).symm)]
theorem rC_eq {r' : Nat → Nat → Int32} {j : Nat} (h : r' j = r j) : rC cy a r' j = rC cy a r j := by
  unfold rC
  rw [h]
theorem wc_sk (kn' : Int32) : (WC cy a f r kn ++ Y).set 0 (a 0 0, .inr (6, sV a kn')) = WC cy a f r kn' ++ Y := rfl
end CW
section GR
variable {p : Program} {l : Launch} {e : Env} {R : Room} {s : State} {m : MethodId} {args : Array Value} {below : List Frame} {meth : Method} {c : Code} {D : va_G} {cy : Nat → ClassId} {A : Nat → Prop} {Q : State → Prop} {nL cells slots : Nat} {w : va_W} {lv : List (Option Value)} {pc : Nat} {st : List Value} {cc : ByteArray} {own : String} {X : (Nat → Prop) → State → Heap → Prop}
/-- fields, of any class -/
theorem g_get (C : Fg p s m args meth c cc nL own D cy A) {Cl ref : String} {T : u_T} {N ci b index : Nat} (hin : ∀ w ∈ u_ws Cl T N, w ∈ GW) (hc : vwCl[ci]? = some (Cl, T, N)) (q0 : Nat) {fs : List Value} (he : w[q0]? = some (b, .inr (ci, fs))) (k : Nat) (hk : k < N) (hq : Cond.fieldLink own index ref (T k).2.1 (T k).2.2.1 ∈ GW) (hs : (T k).1 = ref) {v : Value} (hv : fs[k]? = some v) (d : decode cc pc = .ok (.getfield index, 3))
    (kk : vW p l e R s m args below meth c D vwCl A Q nL cells slots w lv (pc + 3) (v :: st)) : vW p l e R s m args below meth c D vwCl A Q nL cells slots w lv pc (.ref b :: st) := fun H locs ls hP hD hS hl =>
  va_get C.1 C.2.1 C.2.2.2.2.1 hin C.2.2.2.1 C.2.2.2.2.2.1 hP q0 he hc k hk (C.2.2.2.2.1 _ hq) (fun x hx => by rw [← hs]; exact hx) hv d (kk H locs ls hP hD hS hl)
theorem g_getN (hX : EnvX X) (C : Fg p s m args meth c cc nL own D cy A) (hE : X A s s.heap) {Cl ref host : String} {T : u_T} {N ci b index : Nat} (hin : ∀ w ∈ u_ws Cl T N, w ∈ GW) (hc : vwCl[ci]? = some (Cl, T, N)) (q0 : Nat) {fs : List Value} (he : w[q0]? = some (b, .inr (ci, fs))) (k : Nat) (hk : k < N) (hq : Cond.fieldLinkNest own index ref (T k).2.1 (T k).2.2.1 host ∈ NWL) (hs : (T k).1 = ref) {v : Value} (hv : fs[k]? = some v) (d : decode cc pc = .ok (.getfield index, 3))
    (kk : vW p l e R s m args below meth c D vwCl A Q nL cells slots w lv (pc + 3) (v :: st)) : vW p l e R s m args below meth c D vwCl A Q nL cells slots w lv pc (.ref b :: st) := fun H locs ls hP hD hS hl =>
  va_getN C.1 C.2.1 C.2.2.2.2.1 hin C.2.2.2.1 C.2.2.2.2.2.1 hP q0 he hc k hk (hX.nw hq rfl hE) (fun x hx => by rw [← hs]; exact hx) hv d (kk H locs ls hP hD hS hl)
theorem g_put (C : Fg p s m args meth c cc nL own D cy A) {Cl ref : String} {T : u_T} {N ci b index : Nat} (hin : ∀ w ∈ u_ws Cl T N, w ∈ GW) (ty0 : Nat → FieldType) (hty : ∀ k, k < N → parseFieldDescriptor (T k).2.2.1 = some (ty0 k)) (hnm : ∀ a, a < N → ∀ b, b < N → a ≠ b → (T a).2.1 ≠ (T b).2.1) (hc : vwCl[ci]? = some (Cl, T, N)) (q0 : Nat) {fs : List Value} (he : w[q0]? = some (b, .inr (ci, fs))) (k : Nat) (hk : k < N) (hq : Cond.fieldLink own index ref (T k).2.1 (T k).2.2.1 ∈ GW) (hs : (T k).1 = ref) (hfin : (T k).2.2.2 = false) {ty : FieldType} {v : Value} (hd : parseFieldDescriptor (T k).2.2.1 = some ty) (hn : narrow ty v = v) (hfit : fits ty v = true) (hlen : k < fs.length) (d : decode cc pc = .ok (.putfield index, 3)) {w' : va_W} (hw : w.set q0 (b, .inr (ci, fs.set k v)) = w')
    (kk : vW p l e R s m args below meth c D vwCl A Q nL cells slots w' lv (pc + 3) st) : vW p l e R s m args below meth c D vwCl A Q nL cells slots w lv pc (v :: .ref b :: st) := fun H locs ls hP hD hS hl =>
  va_put C.1 C.2.1 C.2.2.2.2.1 hin ty0 hty hnm C.2.2.2.1 C.2.2.2.2.2.1 hP hD hS q0 he hc k hk (C.2.2.2.2.1 _ hq) (fun x hx => by rw [← hs]; exact hx) hfin hd hn hfit hlen d (fun H1 locs1 hP hD hS => kk H1 locs1 ls (hw ▸ hP) (hw ▸ hD) hS hl)
theorem g_putF (C : Fg p s m args meth c cc nL own D cy A) {Cl ref : String} {T : u_T} {N ci b index : Nat} (hin : ∀ w ∈ u_ws Cl T N, w ∈ GW) (ty0 : Nat → FieldType) (hty : ∀ k, k < N → parseFieldDescriptor (T k).2.2.1 = some (ty0 k)) (hnm : ∀ a, a < N → ∀ b, b < N → a ≠ b → (T a).2.1 ≠ (T b).2.1) (hc : vwCl[ci]? = some (Cl, T, N)) (q0 : Nat) {fs : List Value} (he : w[q0]? = some (b, .inr (ci, fs))) (k : Nat) (hk : k < N) (hq : Cond.fieldLink own index ref (T k).2.1 (T k).2.2.1 ∈ GW) (hs : (T k).1 = ref) (hfin : (T k).2.2.2 = true) (hin2 : meth.name = "<init>") (hdecl : (T k).1 = own) {ty : FieldType} {v : Value} (hd : parseFieldDescriptor (T k).2.2.1 = some ty) (hn : narrow ty v = v) (hfit : fits ty v = true) (hlen : k < fs.length) (d : decode cc pc = .ok (.putfield index, 3)) {w' : va_W} (hw : w.set q0 (b, .inr (ci, fs.set k v)) = w')
    (kk : vW p l e R s m args below meth c D vwCl A Q nL cells slots w' lv (pc + 3) st) : vW p l e R s m args below meth c D vwCl A Q nL cells slots w lv pc (v :: .ref b :: st) := fun H locs ls hP hD hS hl =>
  va_putF C.1 C.2.1 C.2.2.2.2.1 hin ty0 hty hnm C.2.2.2.1 C.2.2.2.2.2.1 hP hD hS q0 he hc k hk (C.2.2.2.2.1 _ hq) (fun x hx => by rw [← hs]; exact hx) hfin hin2 hdecl hd hn hfit hlen d (fun H1 locs1 hP hD hS => kk H1 locs1 ls (hw ▸ hP) (hw ▸ hD) hS hl)
theorem g_putN (hX : EnvX X) (C : Fg p s m args meth c cc nL own D cy A) (hE : X A s s.heap) {Cl ref host : String} {T : u_T} {N ci b index : Nat} (hin : ∀ w ∈ u_ws Cl T N, w ∈ GW) (ty0 : Nat → FieldType) (hty : ∀ k, k < N → parseFieldDescriptor (T k).2.2.1 = some (ty0 k)) (hnm : ∀ a, a < N → ∀ b, b < N → a ≠ b → (T a).2.1 ≠ (T b).2.1) (hc : vwCl[ci]? = some (Cl, T, N)) (q0 : Nat) {fs : List Value} (he : w[q0]? = some (b, .inr (ci, fs))) (k : Nat) (hk : k < N) (hq : Cond.fieldLinkNest own index ref (T k).2.1 (T k).2.2.1 host ∈ NWL) (hs : (T k).1 = ref) (hfin : (T k).2.2.2 = false) {ty : FieldType} {v : Value} (hd : parseFieldDescriptor (T k).2.2.1 = some ty) (hn : narrow ty v = v) (hfit : fits ty v = true) (hlen : k < fs.length) (d : decode cc pc = .ok (.putfield index, 3)) {w' : va_W} (hw : w.set q0 (b, .inr (ci, fs.set k v)) = w')
    (kk : vW p l e R s m args below meth c D vwCl A Q nL cells slots w' lv (pc + 3) st) : vW p l e R s m args below meth c D vwCl A Q nL cells slots w lv pc (v :: .ref b :: st) := fun H locs ls hP hD hS hl =>
  va_putN C.1 C.2.1 C.2.2.2.2.1 hin ty0 hty hnm C.2.2.2.1 C.2.2.2.2.2.1 hP hD hS q0 he hc k hk (hX.nw hq rfl hE) (fun x hx => by rw [← hs]; exact hx) hfin hd hn hfit hlen d (fun H1 locs1 hP hD hS => kk H1 locs1 ls (hw ▸ hP) (hw ▸ hD) hS hl)
/-- arrays: the index a natural -/
theorem g_iald (C : Fg p s m args meth c cc nL own D cy A) {b n i : Nat} {f : Nat → Int32} (q0 : Nat) (he : w[q0]? = some (b, .inl (cy 1, n, .inl f))) (hi : i < n) (hn : n < 2147483648) (d : decode cc pc = .ok (.iaload, 1)) (kk : vW p l e R s m args below meth c D vwCl A Q nL cells slots w lv (pc + 1) (.int (f i) :: st)) : vW p l e R s m args below meth c D vwCl A Q nL cells slots w lv pc (.int (nI i) :: .ref b :: st) := fun H locs ls hP hD hS hl =>
  va_iald C.1 C.2.1 C.2.2.2.2.2.1 hP q0 1 he rfl (vp_in_nI hi hn) d (by rw [nI_clamp (by omega)]; exact kk H locs ls hP hD hS hl)
theorem g_zald (C : Fg p s m args meth c cc nL own D cy A) {b n i : Nat} {f : Nat → Int32} (q0 : Nat) (he : w[q0]? = some (b, .inl (cy 2, n, .inl f))) (hi : i < n) (hn : n < 2147483648) (d : decode cc pc = .ok (.baload, 1)) (kk : vW p l e R s m args below meth c D vwCl A Q nL cells slots w lv (pc + 1) (.int (f i) :: st)) : vW p l e R s m args below meth c D vwCl A Q nL cells slots w lv pc (.int (nI i) :: .ref b :: st) := fun H locs ls hP hD hS hl =>
  va_zald C.1 C.2.1 C.2.2.2.2.2.1 hP q0 2 he rfl (vp_in_nI hi hn) d (by rw [nI_clamp (by omega)]; exact kk H locs ls hP hD hS hl)
theorem g_bald (C : Fg p s m args meth c cc nL own D cy A) {b n i : Nat} {f : Nat → Int32} (q0 : Nat) (he : w[q0]? = some (b, .inl (cy 0, n, .inl f))) (hi : i < n) (hn : n < 2147483648) (d : decode cc pc = .ok (.baload, 1)) (kk : vW p l e R s m args below meth c D vwCl A Q nL cells slots w lv (pc + 1) (.int (f i) :: st)) : vW p l e R s m args below meth c D vwCl A Q nL cells slots w lv pc (.int (nI i) :: .ref b :: st) := fun H locs ls hP hD hS hl =>
  va_bald C.1 C.2.1 C.2.2.2.2.2.1 hP q0 0 he rfl (vp_in_nI hi hn) d (by rw [nI_clamp (by omega)]; exact kk H locs ls hP hD hS hl)
theorem g_iast (C : Fg p s m args meth c cc nL own D cy A) {b n i : Nat} {f : Nat → Int32} {x : Int32} (q0 : Nat) (he : w[q0]? = some (b, .inl (cy 1, n, .inl f))) (hi : i < n) (hn : n < 2147483648) (d : decode cc pc = .ok (.iastore, 1)) {w' : va_W} (hw : w.set q0 (b, .inl (cy 1, n, .inl (upd f i x))) = w') (kk : vW p l e R s m args below meth c D vwCl A Q nL cells slots w' lv (pc + 1) st) : vW p l e R s m args below meth c D vwCl A Q nL cells slots w lv pc (.int x :: .int (nI i) :: .ref b :: st) := fun H locs ls hP hD hS hl =>
  va_iast C.1 C.2.1 C.2.2.2.2.2.1 hP hD hS q0 1 he rfl (vp_in_nI hi hn) d (fun H1 locs1 hP hD hS => by
    rw [nI_clamp (by omega)] at hP hD
    exact kk H1 locs1 ls (hw ▸ hP) (hw ▸ hD) hS hl)
theorem g_zast (C : Fg p s m args meth c cc nL own D cy A) {b n i v : Nat} {f : Nat → Int32} (q0 : Nat) (he : w[q0]? = some (b, .inl (cy 2, n, .inl f))) (hi : i < n) (hn : n < 2147483648) (hv : v ≤ 1) (d : decode cc pc = .ok (.bastore, 1)) {w' : va_W} (hw : w.set q0 (b, .inl (cy 2, n, .inl (upd f i (nI v)))) = w') (kk : vW p l e R s m args below meth c D vwCl A Q nL cells slots w' lv (pc + 1) st) : vW p l e R s m args below meth c D vwCl A Q nL cells slots w lv pc (.int (nI v) :: .int (nI i) :: .ref b :: st) := fun H locs ls hP hD hS hl =>
  va_zast C.1 C.2.1 C.2.2.2.2.2.1 hP hD hS q0 2 he rfl (vp_in_nI hi hn) d (fun H1 locs1 hP hD hS => by
    have hb : vp_nar .boolean (nI v) = nI v := by rcases (show v = 0 ∨ v = 1 by omega) with rfl | rfl <;> rfl
    rw [nI_clamp (by omega), hb] at hP hD
    exact kk H1 locs1 ls (hw ▸ hP) (hw ▸ hD) hS hl)
theorem g_alen (C : Fg p s m args meth c cc nL own D cy A) {b t0 : Nat} {ty : FieldType} {x : vp_A} {cA : ClassId} (q0 : Nat) (he : w[q0]? = some (b, .inl (cA, x))) (ht : (tysL cy)[t0]? = some (cA, ty)) (d : decode cc pc = .ok (.arraylength, 1)) (kk : vW p l e R s m args below meth c D vwCl A Q nL cells slots w lv (pc + 1) (.int (nI x.1) :: st)) : vW p l e R s m args below meth c D vwCl A Q nL cells slots w lv pc (.ref b :: st) := fun H locs ls hP hD hS hl =>
  va_alen C.1 C.2.1 C.2.2.2.2.2.1 hP q0 t0 he ht rfl d (kk H locs ls hP hD hS hl)
theorem g_aald (C : Fg p s m args meth c cc nL own D cy A) {b n i t0 : Nat} {cA : ClassId} {Cn : String} {f : Nat → Option Nat} {x : Nat} (q0 : Nat) (he : w[q0]? = some (b, .inl (cA, n, .inr (.inr (.inr (.inr f)))))) (ht : (tysL cy)[t0]? = some (cA, .object Cn)) (hi : i < n) (hn : n < 2147483648) (hx : f i = some x) (d : decode cc pc = .ok (.aaload, 1)) (kk : vW p l e R s m args below meth c D vwCl A Q nL cells slots w lv (pc + 1) (.ref x :: st)) : vW p l e R s m args below meth c D vwCl A Q nL cells slots w lv pc (.int (nI i) :: .ref b :: st) := fun H locs ls hP hD hS hl =>
  va_aldq C.1 C.2.1 C.2.2.2.2.2.1 hP q0 t0 he ht (vp_in_nI hi hn) d (by rw [nI_clamp (by omega), hx]; exact kk H locs ls hP hD hS hl)
end GR
section CR
variable {p : Program} {l : Launch} {e : Env} {R : Room} {s : State} {m : MethodId} {args : Array Value} {below : List Frame} {meth : Method} {c : Code} {D : va_G} {cy : Nat → ClassId} {A : Nat → Prop} {Q : State → Prop} {nL cells slots : Nat} {Y : va_W} {lv : List (Option Value)} {pc : Nat} {st : List Value} {cc : ByteArray} {own : String} {X : (Nat → Prop) → State → Heap → Prop} {a f : Nat → Nat → Nat} {r : Nat → Nat → Int32} {kn : Int32}
abbrev vC (p : Program) (l : Launch) (e : Env) (R : Room) (s : State) (m : MethodId) (args : Array Value) (below : List Frame) (meth : Method) (c : Code) (D : va_G) (A : Nat → Prop) (Q : State → Prop) (nL cells slots : Nat) (w : va_W) (lv : List (Option Value)) (pc : Nat) (st : List Value) : Prop := vW p l e R s m args below meth c D vwCl A Q nL cells slots w lv pc st
/-- a Part's field, from the Part itself and from its nest mates -/
theorem p_get (C : Fg p s m args meth c cc nL RX1 D cy A) {i index : Nat} (k : Nat) {v : Value} (hi : i < 11) (hk : k < 6) (hq : Cond.fieldLink RX1 index RX1 (TX1 k).2.1 (TX1 k).2.2.1 ∈ GW) (hs : (TX1 k).1 = RX1) (hv : (pV a f i)[k]? = some v) (d : decode cc pc = .ok (.getfield index, 3)) (kk : vC p l e R s m args below meth c D A Q nL cells slots (WC cy a f r kn ++ Y) lv (pc + 3) (v :: st)) : vC p l e R s m args below meth c D A Q nL cells slots (WC cy a f r kn ++ Y) lv pc (.ref (a 1 i) :: st) :=
  g_get C qu_X1 (ci := 5) rfl (3 + i) (wc_p hi) k hk hq hs hv d kk
theorem p_getN (hX : EnvX X) (C : Fg p s m args meth c cc nL own D cy A) (hE : X A s s.heap) {i index : Nat} (k : Nat) {v : Value} (hi : i < 11) (hk : k < 6) (hq : Cond.fieldLinkNest own index RX1 (TX1 k).2.1 (TX1 k).2.2.1 RX2 ∈ NWL) (hs : (TX1 k).1 = RX1) (hv : (pV a f i)[k]? = some v) (d : decode cc pc = .ok (.getfield index, 3)) (kk : vC p l e R s m args below meth c D A Q nL cells slots (WC cy a f r kn ++ Y) lv (pc + 3) (v :: st)) : vC p l e R s m args below meth c D A Q nL cells slots (WC cy a f r kn ++ Y) lv pc (.ref (a 1 i) :: st) :=
  g_getN hX C hE qu_X1 (ci := 5) rfl (3 + i) (wc_p hi) k hk hq hs hv d kk
theorem wc_put (k : Nat) {i v : Nat} (hi : i < 11) (hk : 0 < k) (hk6 : k < 6) : (WC cy a f r kn ++ Y).set (3 + i) (a 1 i, .inr (5, (pV a f i).set k (.int (nI v)))) = WC cy a (up2 f k i v) r kn ++ Y := by
  rw [← wc_sp (f' := up2 f k i v) hi]
  · congr 1
    unfold pC pV
    rcases (show k = 1 ∨ k = 2 ∨ k = 3 ∨ k = 4 ∨ k = 5 by omega) with rfl | rfl | rfl | rfl | rfl <;> simp [up2]
  · intro j _ hj
    unfold pC pV
    simp [up2, hj]
  · intro j _
    unfold uC uV
    simp [up2, show 6 ≠ k by omega, show 7 ≠ k by omega, show 8 ≠ k by omega, show 9 ≠ k by omega]
theorem wc_put0 {i v : Nat} (hi : i < 11) : (WC cy a f r kn ++ Y).set (3 + i) (a 1 i, .inr (5, (pV a f i).set 0 (.ref (a 2 v)))) = WC cy a (up2 f 0 i v) r kn ++ Y := by
  rw [← wc_sp (f' := up2 f 0 i v) hi]
  · congr 1
    unfold pC pV
    simp [up2]
  · intro j _ hj
    unfold pC pV
    simp [up2, hj]
  · intro j _
    unfold uC uV
    simp [up2]
theorem p_put (C : Fg p s m args meth c cc nL RX1 D cy A) {i index v : Nat} (k : Nat) (hi : i < 11) (hk : 0 < k) (hk5 : k < 5) (hq : Cond.fieldLink RX1 index RX1 (TX1 k).2.1 (TX1 k).2.2.1 ∈ GW) (hs : (TX1 k).1 = RX1) (hf : (TX1 k).2.2.2 = false) (hd : parseFieldDescriptor (TX1 k).2.2.1 = some .int) (d : decode cc pc = .ok (.putfield index, 3)) (kk : vC p l e R s m args below meth c D A Q nL cells slots (WC cy a (up2 f k i v) r kn ++ Y) lv (pc + 3) st) : vC p l e R s m args below meth c D A Q nL cells slots (WC cy a f r kn ++ Y) lv pc (.int (nI v) :: .ref (a 1 i) :: st) :=
  g_put C qu_X1 tyX1 tyX1_ok nmX1 (ci := 5) rfl (3 + i) (wc_p hi) k (by omega) hq hs hf hd rfl rfl (show k < 6 by omega) d (wc_put k hi hk (by omega)) kk
theorem p_putZ (C : Fg p s m args meth c cc nL RX1 D cy A) {i index v : Nat} (hi : i < 11) (hv : v ≤ 1) (hq : Cond.fieldLink RX1 index RX1 "isThere" "Z" ∈ GW) (d : decode cc pc = .ok (.putfield index, 3)) (kk : vC p l e R s m args below meth c D A Q nL cells slots (WC cy a (up2 f 5 i v) r kn ++ Y) lv (pc + 3) st) : vC p l e R s m args below meth c D A Q nL cells slots (WC cy a f r kn ++ Y) lv pc (.int (nI v) :: .ref (a 1 i) :: st) :=
  g_put C qu_X1 tyX1 tyX1_ok nmX1 (ci := 5) rfl (3 + i) (wc_p hi) 5 (by omega) hq rfl rfl (ty := .boolean) rfl (by rcases (show v = 0 ∨ v = 1 by omega) with rfl | rfl <;> rfl) (by rcases (show v = 0 ∨ v = 1 by omega) with rfl | rfl <;> rfl) (show 5 < 6 by omega) d (wc_put 5 hi (by omega) (by omega)) kk
theorem p_putR (C : Fg p s m args meth c cc nL RX1 D cy A) {i index v : Nat} (hi : i < 11) (hq : Cond.fieldLink RX1 index RX1 "items" "[I" ∈ GW) (d : decode cc pc = .ok (.putfield index, 3)) (kk : vC p l e R s m args below meth c D A Q nL cells slots (WC cy a (up2 f 0 i v) r kn ++ Y) lv (pc + 3) st) : vC p l e R s m args below meth c D A Q nL cells slots (WC cy a f r kn ++ Y) lv pc (.ref (a 2 v) :: .ref (a 1 i) :: st) :=
  g_put C qu_X1 tyX1 tyX1_ok nmX1 (ci := 5) rfl (3 + i) (wc_p hi) 0 (by omega) hq rfl rfl (ty := .array .int) rfl rfl rfl (show 0 < 6 by omega) d (wc_put0 hi) kk
theorem p_putN (hX : EnvX X) (C : Fg p s m args meth c cc nL own D cy A) (hE : X A s s.heap) {i index v : Nat} (k : Nat) (hi : i < 11) (hk : 0 < k) (hk5 : k < 5) (hq : Cond.fieldLinkNest own index RX1 (TX1 k).2.1 (TX1 k).2.2.1 RX2 ∈ NWL) (hs : (TX1 k).1 = RX1) (hf : (TX1 k).2.2.2 = false) (hd : parseFieldDescriptor (TX1 k).2.2.1 = some .int) (d : decode cc pc = .ok (.putfield index, 3)) (kk : vC p l e R s m args below meth c D A Q nL cells slots (WC cy a (up2 f k i v) r kn ++ Y) lv (pc + 3) st) : vC p l e R s m args below meth c D A Q nL cells slots (WC cy a f r kn ++ Y) lv pc (.int (nI v) :: .ref (a 1 i) :: st) :=
  g_putN hX C hE qu_X1 tyX1 tyX1_ok nmX1 (ci := 5) rfl (3 + i) (wc_p hi) k (by omega) hq hs hf hd rfl rfl (show k < 6 by omega) d (wc_put k hi hk (by omega)) kk
theorem p_putZN (hX : EnvX X) (C : Fg p s m args meth c cc nL own D cy A) (hE : X A s s.heap) {i index v : Nat} (hi : i < 11) (hv : v ≤ 1) (hq : Cond.fieldLinkNest own index RX1 "isThere" "Z" RX2 ∈ NWL) (d : decode cc pc = .ok (.putfield index, 3)) (kk : vC p l e R s m args below meth c D A Q nL cells slots (WC cy a (up2 f 5 i v) r kn ++ Y) lv (pc + 3) st) : vC p l e R s m args below meth c D A Q nL cells slots (WC cy a f r kn ++ Y) lv pc (.int (nI v) :: .ref (a 1 i) :: st) :=
  g_putN hX C hE qu_X1 tyX1 tyX1_ok nmX1 (ci := 5) rfl (3 + i) (wc_p hi) 5 (by omega) hq rfl rfl (ty := .boolean) rfl (by rcases (show v = 0 ∨ v = 1 by omega) with rfl | rfl <;> rfl) (by rcases (show v = 0 ∨ v = 1 by omega) with rfl | rfl <;> rfl) (show 5 < 6 by omega) d (wc_put 5 hi (by omega) (by omega)) kk
/-- a Cursor's field -/
theorem wc_putU (k : Nat) {i v : Nat} (hi : i < 3) (hk : k < 4) : (WC cy a f r kn ++ Y).set (21 + i) (a 3 i, .inr (4, (uV f i).set k (.int (nI v)))) = WC cy a (up2 f (6 + k) i v) r kn ++ Y := by
  rw [← wc_su (f' := up2 f (6 + k) i v) hi]
  · congr 1
    unfold uC uV
    rcases (show k = 0 ∨ k = 1 ∨ k = 2 ∨ k = 3 by omega) with rfl | rfl | rfl | rfl <;> simp [up2]
  · intro j _
    unfold pC pV
    simp [up2, show 0 ≠ 6 + k by omega, show 1 ≠ 6 + k by omega, show 2 ≠ 6 + k by omega, show 3 ≠ 6 + k by omega, show 4 ≠ 6 + k by omega, show 5 ≠ 6 + k by omega]
  · intro j _ hj
    unfold uC uV
    simp [up2, hj]
theorem u_get (C : Fg p s m args meth c cc nL RX0 D cy A) {i index : Nat} (k : Nat) {v : Value} (hi : i < 3) (hk : k < 4) (hq : Cond.fieldLink RX0 index RX0 (TX0 k).2.1 (TX0 k).2.2.1 ∈ GW) (hs : (TX0 k).1 = RX0) (hv : (uV f i)[k]? = some v) (d : decode cc pc = .ok (.getfield index, 3)) (kk : vC p l e R s m args below meth c D A Q nL cells slots (WC cy a f r kn ++ Y) lv (pc + 3) (v :: st)) : vC p l e R s m args below meth c D A Q nL cells slots (WC cy a f r kn ++ Y) lv pc (.ref (a 3 i) :: st) :=
  g_get C qu_X0 (ci := 4) rfl (21 + i) (wc_u hi) k hk hq hs hv d kk
theorem u_getN (hX : EnvX X) (C : Fg p s m args meth c cc nL own D cy A) (hE : X A s s.heap) {i index : Nat} (k : Nat) {v : Value} (hi : i < 3) (hk : k < 4) (hq : Cond.fieldLinkNest own index RX0 (TX0 k).2.1 (TX0 k).2.2.1 RX2 ∈ NWL) (hs : (TX0 k).1 = RX0) (hv : (uV f i)[k]? = some v) (d : decode cc pc = .ok (.getfield index, 3)) (kk : vC p l e R s m args below meth c D A Q nL cells slots (WC cy a f r kn ++ Y) lv (pc + 3) (v :: st)) : vC p l e R s m args below meth c D A Q nL cells slots (WC cy a f r kn ++ Y) lv pc (.ref (a 3 i) :: st) :=
  g_getN hX C hE qu_X0 (ci := 4) rfl (21 + i) (wc_u hi) k hk hq hs hv d kk
theorem u_put (C : Fg p s m args meth c cc nL RX0 D cy A) {i index v : Nat} (k : Nat) (hi : i < 3) (hk : k < 3) (hq : Cond.fieldLink RX0 index RX0 (TX0 k).2.1 (TX0 k).2.2.1 ∈ GW) (hs : (TX0 k).1 = RX0) (hf : (TX0 k).2.2.2 = false) (hd : parseFieldDescriptor (TX0 k).2.2.1 = some .int) (d : decode cc pc = .ok (.putfield index, 3)) (kk : vC p l e R s m args below meth c D A Q nL cells slots (WC cy a (up2 f (6 + k) i v) r kn ++ Y) lv (pc + 3) st) : vC p l e R s m args below meth c D A Q nL cells slots (WC cy a f r kn ++ Y) lv pc (.int (nI v) :: .ref (a 3 i) :: st) :=
  g_put C qu_X0 tyX0 tyX0_ok nmX0 (ci := 4) rfl (21 + i) (wc_u hi) k (by omega) hq hs hf hd rfl rfl (show k < 4 by omega) d (wc_putU k hi (by omega)) kk
theorem u_putZ (C : Fg p s m args meth c cc nL RX0 D cy A) {i index v : Nat} (hi : i < 3) (hv : v ≤ 1) (hq : Cond.fieldLink RX0 index RX0 "isThere" "Z" ∈ GW) (d : decode cc pc = .ok (.putfield index, 3)) (kk : vC p l e R s m args below meth c D A Q nL cells slots (WC cy a (up2 f 9 i v) r kn ++ Y) lv (pc + 3) st) : vC p l e R s m args below meth c D A Q nL cells slots (WC cy a f r kn ++ Y) lv pc (.int (nI v) :: .ref (a 3 i) :: st) :=
  g_put C qu_X0 tyX0 tyX0_ok nmX0 (ci := 4) rfl (21 + i) (wc_u hi) 3 (by omega) hq rfl rfl (ty := .boolean) rfl (by rcases (show v = 0 ∨ v = 1 by omega) with rfl | rfl <;> rfl) (by rcases (show v = 0 ∨ v = 1 by omega) with rfl | rfl <;> rfl) (show 3 < 4 by omega) d (wc_putU 3 hi (by omega)) kk
theorem u_putN (hX : EnvX X) (C : Fg p s m args meth c cc nL own D cy A) (hE : X A s s.heap) {i index v : Nat} (k : Nat) (hi : i < 3) (hk : k < 3) (hq : Cond.fieldLinkNest own index RX0 (TX0 k).2.1 (TX0 k).2.2.1 RX2 ∈ NWL) (hs : (TX0 k).1 = RX0) (hf : (TX0 k).2.2.2 = false) (hd : parseFieldDescriptor (TX0 k).2.2.1 = some .int) (d : decode cc pc = .ok (.putfield index, 3)) (kk : vC p l e R s m args below meth c D A Q nL cells slots (WC cy a (up2 f (6 + k) i v) r kn ++ Y) lv (pc + 3) st) : vC p l e R s m args below meth c D A Q nL cells slots (WC cy a f r kn ++ Y) lv pc (.int (nI v) :: .ref (a 3 i) :: st) :=
  g_putN hX C hE qu_X0 tyX0 tyX0_ok nmX0 (ci := 4) rfl (21 + i) (wc_u hi) k (by omega) hq hs hf hd rfl rfl (show k < 4 by omega) d (wc_putU k hi (by omega)) kk
theorem u_putZN (hX : EnvX X) (C : Fg p s m args meth c cc nL own D cy A) (hE : X A s s.heap) {i index v : Nat} (hi : i < 3) (hv : v ≤ 1) (hq : Cond.fieldLinkNest own index RX0 "isThere" "Z" RX2 ∈ NWL) (d : decode cc pc = .ok (.putfield index, 3)) (kk : vC p l e R s m args below meth c D A Q nL cells slots (WC cy a (up2 f 9 i v) r kn ++ Y) lv (pc + 3) st) : vC p l e R s m args below meth c D A Q nL cells slots (WC cy a f r kn ++ Y) lv pc (.int (nI v) :: .ref (a 3 i) :: st) :=
  g_putN hX C hE qu_X0 tyX0 tyX0_ok nmX0 (ci := 4) rfl (21 + i) (wc_u hi) 3 (by omega) hq rfl rfl (ty := .boolean) rfl (by rcases (show v = 0 ∨ v = 1 by omega) with rfl | rfl <;> rfl) (by rcases (show v = 0 ∨ v = 1 by omega) with rfl | rfl <;> rfl) (show 3 < 4 by omega) d (wc_putU 3 hi (by omega)) kk
/-- this -/
theorem s_get (C : Fg p s m args meth c cc nL RX2 D cy A) {index : Nat} (k : Nat) {v : Value} (hk : k < 6) (hq : Cond.fieldLink RX2 index RX2 (TX2 k).2.1 (TX2 k).2.2.1 ∈ GW) (hs : (TX2 k).1 = RX2) (hv : (sV a kn)[k]? = some v) (d : decode cc pc = .ok (.getfield index, 3)) (kk : vC p l e R s m args below meth c D A Q nL cells slots (WC cy a f r kn ++ Y) lv (pc + 3) (v :: st)) : vC p l e R s m args below meth c D A Q nL cells slots (WC cy a f r kn ++ Y) lv pc (.ref (a 0 0) :: st) :=
  g_get C qu_X2 (ci := 6) rfl 0 wc_0 k hk hq hs hv d kk
theorem s_putK (C : Fg p s m args meth c cc nL RX2 D cy A) {index : Nat} {x : Int32} (hq : Cond.fieldLink RX2 index RX2 "knocks" "I" ∈ GW) (d : decode cc pc = .ok (.putfield index, 3)) (kk : vC p l e R s m args below meth c D A Q nL cells slots (WC cy a f r x ++ Y) lv (pc + 3) st) : vC p l e R s m args below meth c D A Q nL cells slots (WC cy a f r kn ++ Y) lv pc (.int x :: .ref (a 0 0) :: st) :=
  g_put C qu_X2 tyX2 tyX2_ok nmX2 (ci := 6) rfl 0 wc_0 5 (by omega) hq rfl rfl (ty := .int) rfl rfl rfl (show 5 < 6 by omega) d (wc_sk x) kk
/-- arrays -/
theorem s_parts (C : Fg p s m args meth c cc nL own D cy A) {i : Nat} (hi : i < 8) (d : decode cc pc = .ok (.aaload, 1)) (kk : vC p l e R s m args below meth c D A Q nL cells slots (WC cy a f r kn ++ Y) lv (pc + 1) (.ref (a 1 i) :: st)) : vC p l e R s m args below meth c D A Q nL cells slots (WC cy a f r kn ++ Y) lv pc (.int (nI i) :: .ref (a 0 1) :: st) :=
  g_aald C 1 wc_1 (t0 := 4) rfl hi (by omega) rfl d kk
theorem s_curs (C : Fg p s m args meth c cc nL own D cy A) {i : Nat} (hi : i < 3) (d : decode cc pc = .ok (.aaload, 1)) (kk : vC p l e R s m args below meth c D A Q nL cells slots (WC cy a f r kn ++ Y) lv (pc + 1) (.ref (a 3 i) :: st)) : vC p l e R s m args below meth c D A Q nL cells slots (WC cy a f r kn ++ Y) lv pc (.int (nI i) :: .ref (a 0 2) :: st) :=
  g_aald C 2 wc_2 (t0 := 3) rfl hi (by omega) rfl d kk
theorem s_iald (C : Fg p s m args meth c cc nL own D cy A) {j i : Nat} (hj : j < 7) (hi : i < 12) (d : decode cc pc = .ok (.iaload, 1)) (kk : vC p l e R s m args below meth c D A Q nL cells slots (WC cy a f r kn ++ Y) lv (pc + 1) (.int (r j i) :: st)) : vC p l e R s m args below meth c D A Q nL cells slots (WC cy a f r kn ++ Y) lv pc (.int (nI i) :: .ref (a 2 j) :: st) :=
  g_iald C (14 + j) (wc_r hj) hi (by omega) d kk
theorem s_iast (C : Fg p s m args meth c cc nL own D cy A) {j i : Nat} {x : Int32} (hj : j < 7) (hi : i < 12) (d : decode cc pc = .ok (.iastore, 1)) (kk : vC p l e R s m args below meth c D A Q nL cells slots (WC cy a f (up2 r j i x) kn ++ Y) lv (pc + 1) st) : vC p l e R s m args below meth c D A Q nL cells slots (WC cy a f r kn ++ Y) lv pc (.int x :: .int (nI i) :: .ref (a 2 j) :: st) := by
  have e1 : up2 r j i x j = upd (r j) i x := by
    funext q
    by_cases hq : q = i <;> simp [upd, up2, hq]
  refine g_iast C (14 + j) (wc_r hj) hi (by omega) d (w' := WC cy a f (up2 r j i x) kn ++ Y) ?_ kk
  rw [← e1]
  exact wc_sr hj (fun z _ hz => rC_eq (by funext q; simp [up2, hz]))
/-- n items of the array j0, from sp on, into the array j1, at dp -/
def cpy2 (r : Nat → Nat → Int32) (j0 sp j1 dp n : Nat) : Nat → Nat → Int32 := fun j k => if j = j1 then (if dp ≤ k ∧ k < dp + n then r j0 (sp + (k - dp)) else r j1 k) else r j k
theorem s_copy (C : Fg p s m args meth c cc nL own D cy A) {index j0 j1 sp dp n : Nat} (hq : Cond.methodLink own index arraycopyName ∈ GW) (h0 : j0 < 7) (h1 : j1 < 7) (hsp : sp + n ≤ 12) (hdp : dp + n ≤ 12) (hf : 1 ≤ R.frames) (hlo : (st.map fun v => v.category).sum + (nativeFrameWords "java/lang/System" "arraycopy" 5 + 11) ≤ R.locals) (d : decode cc pc = .ok (.invokestatic index, 3))
    (kk : vC p l e R s m args below meth c D A Q nL cells slots (WC cy a f (cpy2 r j0 sp j1 dp n) kn ++ Y) lv (pc + 3) st) : vC p l e R s m args below meth c D A Q nL cells slots (WC cy a f r kn ++ Y) lv pc (.int (nI n) :: .int (nI dp) :: .ref (a 2 j1) :: .int (nI sp) :: .ref (a 2 j0) :: st) := fun H locs ls hP hD hS hl => by
  have c0 : (nI sp).toNatClampNeg = sp := nI_clamp (by omega)
  have c1 : (nI dp).toNatClampNeg = dp := nI_clamp (by omega)
  have c2 : (nI n).toNatClampNeg = n := nI_clamp (by omega)
  refine va_copyi C.1 C.2.1 (C.2.2.1.trans hl.1.symm) C.2.2.2.1 (C.2.2.2.2.1 _ hq) (C.2.2.2.2.1 _ qv_arraycopyName) (C.2.2.2.2.1 _ qt_arraycopyName) (C.2.2.2.2.1 _ qz_J10) C.2.2.2.2.2.1 hP hD hS (14 + j0) (14 + j1) 1 1 (wc_r h0) (wc_r h1) rfl rfl rfl (nI_pos (by omega)) (nI_pos (by omega)) (nI_pos (by omega)) (by rw [c0, c2]; exact hsp) (by rw [c1, c2]; exact hdp) (fun _ _ => rfl) hf hlo d (fun H1 locs1 hP hD hS => ?_)
  rw [c0, c1, c2] at hP hD
  have hw : (WC cy a f r kn ++ Y).set (14 + j1) (a 2 j1, .inl (cy 1, 12, .inl (va_cpy (r j0) (r j1) sp dp n))) = WC cy a f (cpy2 r j0 sp j1 dp n) kn ++ Y := by
    have e1 : cpy2 r j0 sp j1 dp n j1 = va_cpy (r j0) (r j1) sp dp n := by
      funext q
      simp [cpy2, va_cpy]
    rw [← e1]
    exact wc_sr h1 (fun z _ hz => rC_eq (by funext q; simp [cpy2, hz]))
  exact kk H1 locs1 ls (hw ▸ hP) (hw ▸ hD) hS hl
end CR
end PT_08
/-! ===== 085.pure -/
section PT_085
/-! WHAT THE PARTS' METHODS COMPUTE, in plain words -/
/-- the first place from k on, of d places, at which g is x; -1 without -/
def fpF (g : Nat → Int32) (x : Int32) : Nat → Nat → Nat
  | 0, _ => 4294967295
  | d + 1, k => if g k = x then k else fpF g x d (k + 1)
/-- 1 if g and h agree at d places from k on (h from 0 .. of its own) -/
def stF (g h : Nat → Int32) : Nat → Nat → Nat
  | 0, _ => 1
  | d + 1, k => if g k = h k then stF g h d (k + 1) else 0
theorem stF_le (g h : Nat → Int32) : ∀ d k, stF g h d k ≤ 1
  | 0, _ => Nat.le_refl 1
  | d + 1, k => by
    unfold stF
    split
    · exact stF_le g h d (k + 1)
    · exact Nat.zero_le 1
/-- the first of d places from k on at which s tells 1; -1 without -/
def poF (s : Nat → Nat) : Nat → Nat → Nat
  | 0, _ => 4294967295
  | d + 1, k => if s k = 0 then poF s d (k + 1) else k
def hsF (g : Nat → Int32) : Nat → Nat → Int32 → Int32
  | 0, _, h => h
  | d + 1, k, h => hsF g d (k + 1) (nI 31 * h + g k)
theorem fpF_or (g : Nat → Int32) (x : Int32) : ∀ d k, fpF g x d k = 4294967295 ∨ (k ≤ fpF g x d k ∧ fpF g x d k < k + d)
  | 0, k => Or.inl rfl
  | d + 1, k => by
    unfold fpF
    split
    · right
      omega
    · rcases fpF_or g x d (k + 1) with h | h
      · exact Or.inl h
      · right
        omega
theorem fpF_b {g : Nat → Int32} {x : Int32} {d k : Nat} (h : k + d ≤ 12) : fpF g x d k < 4294967296 := by
  rcases fpF_or g x d k with h1 | h1 <;> omega
theorem poF_or (s : Nat → Nat) : ∀ d k, poF s d k = 4294967295 ∨ (k ≤ poF s d k ∧ poF s d k < k + d)
  | 0, k => Or.inl rfl
  | d + 1, k => by
    unfold poF
    split
    · rcases poF_or s d (k + 1) with h | h
      · exact Or.inl h
      · right
        omega
    · right
      omega
theorem poF_b {s : Nat → Nat} {d k : Nat} (h : k + d ≤ 13) : poF s d k < 4294967296 := by
  rcases poF_or s d k with h1 | h1 <;> omega
def exch2 (r : Nat → Nat → Int32) (j k1 k2 : Nat) : Nat → Nat → Int32 := up2 (up2 r j k1 (r j k2)) j k2 (r j k1)
/-- the stretch from lo up to hi of the array j turned -/
def revS (r : Nat → Nat → Int32) (j lo hi : Nat) : Nat → Nat → Int32 := fun j' k => if j' = j ∧ lo ≤ k ∧ k < hi then r j (lo + hi - 1 - k) else r j' k
def revT (r : Nat → Nat → Int32) (j lo hi t : Nat) : Nat → Nat → Int32 := fun j' k => if j' = j ∧ ((lo ≤ k ∧ k < lo + t) ∨ (hi ≤ k + t ∧ k < hi)) then r j (lo + hi - 1 - k) else r j' k
theorem revT_0 (r : Nat → Nat → Int32) (j lo hi : Nat) : revT r j lo hi 0 = r := by
  funext j' k
  unfold revT
  rw [if_neg (by omega)]
theorem revT_step {r : Nat → Nat → Int32} {j lo hi t e1 e2 : Nat} (h1 : e1 = lo + t) (h2 : e2 + 1 + t = hi) (h : e1 < e2) : exch2 (revT r j lo hi t) j e1 e2 = revT r j lo hi (t + 1) := by
  subst h1
  funext j' k
  by_cases hj : j' = j
  · subst hj
    simp only [exch2, up2, revT, true_and]
    repeat' split
    all_goals first | rfl | (exfalso; omega) | (congr 1; omega)
  · simp [exch2, up2, revT, hj]
theorem revT_end {r : Nat → Nat → Int32} {j lo hi t : Nat} (h : hi ≤ lo + t + 1 + t) (ht : lo + t ≤ hi ∨ t = 0) : revT r j lo hi t = revS r j lo hi := by
  funext j' k
  unfold revT revS
  by_cases hj : j' = j
  · subst hj
    by_cases hc : lo ≤ k ∧ k < hi
    · rw [if_pos (c := _ ∧ lo ≤ k ∧ k < hi) ⟨rfl, hc⟩]
      by_cases hd : (lo ≤ k ∧ k < lo + t) ∨ (hi ≤ k + t ∧ k < hi)
      · rw [if_pos ⟨rfl, hd⟩]
      · rw [if_neg (fun q => hd q.2)]
        congr 1
        omega
    · rw [if_neg (c := _ ∧ lo ≤ k ∧ k < hi) (fun q => hc q.2)]
      by_cases hd : (lo ≤ k ∧ k < lo + t) ∨ (hi ≤ k + t ∧ k < hi)
      · rcases ht with ht | ht
        · omega
        · omega
      · rw [if_neg (fun q => hd q.2)]
  · rw [if_neg (fun q => hj q.1), if_neg (fun q => hj q.1)]
/-- of n places from lo on of the array j, those with src below k hold g of src -/
def scT (r : Nat → Nat → Int32) (j lo n : Nat) (src : Nat → Nat) (g : Nat → Int32) (k : Nat) : Nat → Nat → Int32 := fun j' q => if j' = j ∧ lo ≤ q ∧ q < lo + n ∧ src (q - lo) < k then g (src (q - lo)) else r j' q
def scS (r : Nat → Nat → Int32) (j lo n : Nat) (src : Nat → Nat) (g : Nat → Int32) : Nat → Nat → Int32 := fun j' q => if j' = j ∧ lo ≤ q ∧ q < lo + n then g (src (q - lo)) else r j' q
theorem scT_0 (r : Nat → Nat → Int32) (j lo n : Nat) (src : Nat → Nat) (g : Nat → Int32) : scT r j lo n src g 0 = r := by
  funext j' q
  unfold scT
  rw [if_neg (by omega)]
theorem scT_step {r : Nat → Nat → Int32} {j lo n k e : Nat} {src : Nat → Nat} {g : Nat → Int32} {x : Int32} (dk : Nat) (he : e = lo + dk) (hd : dk < n) (hs : src dk = k) (hinj : ∀ t, t < n → src t = k → t = dk) (hx : x = g k) : up2 (scT r j lo n src g k) j e x = scT r j lo n src g (k + 1) := by
  subst he
  subst hx
  funext j' q
  by_cases hj : j' = j
  · subst hj
    by_cases hq : q = lo + dk
    · subst hq
      have e1 : lo + dk - lo = dk := by omega
      have e2 : src (lo + dk - lo) = k := by rw [e1, hs]
      simp only [up2, scT, true_and]
      repeat' split
      all_goals first | rfl | (rw [e2]; done) | (exfalso; omega) | (exfalso; simp_all; done)
    · simp only [up2, scT, true_and]
      by_cases hc : lo ≤ q ∧ q < lo + n ∧ src (q - lo) < k
      · repeat' split
        all_goals first | rfl | (exfalso; omega)
      · have hne : ¬ (lo ≤ q ∧ q < lo + n ∧ src (q - lo) < k + 1) := by
          rintro ⟨z1, z2, z3⟩
          have h5 : src (q - lo) = k := by
            rcases Nat.lt_or_ge (src (q - lo)) k with h6 | h6
            · exact absurd ⟨z1, z2, h6⟩ hc
            · omega
          have := hinj (q - lo) (by omega) h5
          omega
        repeat' split
        all_goals first | rfl | (exfalso; omega)
  · simp [up2, scT, hj]
theorem scT_end {r : Nat → Nat → Int32} {j lo n k : Nat} {src : Nat → Nat} {g : Nat → Int32} (hk : n ≤ k) (hs : ∀ t, t < n → src t < n) : scT r j lo n src g k = scS r j lo n src g := by
  funext j' q
  unfold scT scS
  by_cases hc : j' = j ∧ lo ≤ q ∧ q < lo + n
  · rw [if_pos hc, if_pos ⟨hc.1, hc.2.1, hc.2.2, by have := hs (q - lo) (by omega); omega⟩]
  · rw [if_neg hc, if_neg (fun z => hc ⟨z.1, z.2.1, z.2.2.1⟩)]
theorem scT_off {r : Nat → Nat → Int32} {j lo n k j' q : Nat} {src : Nat → Nat} {g : Nat → Int32} (h : j' ≠ j) : scT r j lo n src g k j' q = r j' q := by simp [scT, h]
theorem cpy2_at {r : Nat → Nat → Int32} {j0 sp j1 dp n k : Nat} (h : k < n) : cpy2 r j0 sp j1 dp n j1 (dp + k) = r j0 (sp + k) := by
  unfold cpy2
  rw [if_pos rfl, if_pos (by omega), show dp + k - dp = k by omega]
theorem cpy2_off {r : Nat → Nat → Int32} {j0 sp j1 dp n j q : Nat} (h : j ≠ j1) : cpy2 r j0 sp j1 dp n j q = r j q := by
  unfold cpy2
  rw [if_neg h]
/-- where the halves' items go, and where they come from -/
def layN (n t : Nat) : Nat := if t % 2 = 0 then t / 2 else (n + 1) / 2 + t / 2
def unlN (n t : Nat) : Nat := if t < (n + 1) / 2 then 2 * t else 2 * (t - (n + 1) / 2) + 1
theorem layN_lt {n t : Nat} (h : t < n) : layN n t < n := by
  unfold layN
  split <;> omega
theorem unlN_lt {n t : Nat} (h : t < n) : unlN n t < n := by
  unfold unlN
  split <;> omega
theorem unl_lay {n t : Nat} (h : t < n) : unlN n (layN n t) = t := by
  unfold unlN layN
  split <;> split <;> omega
theorem lay_unl {n t : Nat} (h : t < n) : layN n (unlN n t) = t := by
  unfold unlN layN
  split <;> split <;> omega
/-- how far a number turns n places -/
def shN (b : Int32) (n : Nat) : Nat := (b.toInt % (n : Int)).toNat
def rotN (n s t : Nat) : Nat := (t + (n - s)) % n
theorem shN_lt (b : Int32) {n : Nat} (h : 0 < n) : shN b n < n := by
  unfold shN
  have h1 := Int.emod_lt_of_pos b.toInt (show (0 : Int) < n by omega)
  have h2 := Int.emod_nonneg b.toInt (show (n : Int) ≠ 0 by omega)
  omega
theorem md_small {x n : Nat} (h : x < n) : x % n = x := Nat.mod_eq_of_lt h
theorem md_big {x n : Nat} (h : n ≤ x) (h2 : x < n + n) : x % n = x - n := by
  rw [Nat.mod_eq_sub_mod h, Nat.mod_eq_of_lt (by omega)]
theorem rot_to {n s t : Nat} (hs : s < n) (ht : t < n) : rotN n s ((t + s) % n) = t := by
  unfold rotN
  rcases Nat.lt_or_ge (t + s) n with h | h
  · rw [md_small h, md_big (by omega) (by omega)]
    omega
  · rw [md_big h (by omega), md_small (by omega)]
    omega
theorem rot_inj {n s t k : Nat} (hs : s < n) (ht : t < n) (h : rotN n s t = k) : t = (k + s) % n := by
  subst h
  unfold rotN
  rcases Nat.lt_or_ge (t + (n - s)) n with h | h
  · rw [md_small h, md_big (by omega) (by omega)]
    omega
  · rw [md_big h (by omega), md_small (by omega)]
    omega
theorem rotN_lt {n s t : Nat} (h : 0 < n) : rotN n s t < n := Nat.mod_lt _ h
/-- by what the items are ordered -/
def rkF (b : Nat) (x : Int32) : Int32 := if b = 0 then -x else if b = 1 then nI (shN x 10) else if b = 2 then (if x < 0 then nI 0 else nI 1) else x
def inP (g : Nat → Int32) (b : Nat) (x : Int32) : Nat → Nat
  | 0 => 0
  | p + 1 => if rkF b (g p) ≤ rkF b x then p + 1 else inP g b x p
/-- the places behind p, up to e, hold what was one ahead -/
def shf (r : Nat → Nat → Int32) (j lo e p : Nat) : Nat → Nat → Int32 := fun j' q => if j' = j ∧ lo + p < q ∧ q ≤ lo + e then r j (q - 1) else r j' q
theorem shf_0 (r : Nat → Nat → Int32) (j lo e : Nat) : shf r j lo e e = r := by
  funext j' q
  unfold shf
  rw [if_neg (by omega)]
theorem shf_step {r : Nat → Nat → Int32} {j lo e p : Nat} (hp : p + 1 ≤ e) : up2 (shf r j lo e (p + 1)) j (lo + (p + 1)) (shf r j lo e (p + 1) j (lo + p)) = shf r j lo e p := by
  funext j' q
  by_cases hj : j' = j
  · subst hj
    simp only [up2, shf, true_and]
    repeat' split
    all_goals first | rfl | (exfalso; omega) | (congr 1; omega)
  · simp [up2, shf, hj]
theorem shf_lo {r : Nat → Nat → Int32} {j lo e p q : Nat} (h : q ≤ lo + p) : shf r j lo e p j q = r j q := by
  unfold shf
  rw [if_neg (by omega)]
/-- the item at e laid in among those ahead of it; then the next d ones -/
def in1 (r : Nat → Nat → Int32) (j lo b e : Nat) : Nat → Nat → Int32 := up2 (shf r j lo e (inP (fun q => r j (lo + q)) b (r j (lo + e)) e)) j (lo + inP (fun q => r j (lo + q)) b (r j (lo + e)) e) (r j (lo + e))
def srF (j lo b : Nat) : Nat → Nat → (Nat → Nat → Int32) → (Nat → Nat → Int32)
  | 0, _, r => r
  | d + 1, e, r => srF j lo b d (e + 1) (in1 r j lo b e)
theorem in1_of {r : Nat → Nat → Int32} {j lo b e p : Nat} (h : inP (fun q => r j (lo + q)) b (r j (lo + e)) e = p) : up2 (shf r j lo e p) j (lo + p) (r j (lo + e)) = in1 r j lo b e := by
  subst h
  rfl
theorem scb_val {r : Nat → Nat → Int32} {j0 sp j1 dp n k q : Nat} {src : Nat → Nat} {g : Nat → Int32} (hne : j1 ≠ j0) (hq : q < n) : scT (cpy2 r j0 sp j1 dp n) j0 sp n src g k j1 (dp + q) = r j0 (sp + q) := by
  rw [scT_off hne, cpy2_at hq]
theorem shN_add {x : Int32} {k n : Nat} (hk : k < 1000) (h0 : 0 < n) (h1 : -1000 ≤ x.toInt) (h2 : x.toInt ≤ 1000) : shN (nI k + x) n = (k + shN x n) % n := by
  have e1 : (nI k + x).toInt = (k : Int) + x.toInt := by
    rw [Int32.toInt_add, nI_toInt (by omega)]
    exact Int.bmod_eq_of_le (by omega) (by omega)
  unfold shN
  rw [e1]
  have h3 := Int.emod_nonneg x.toInt (show (n : Int) ≠ 0 by omega)
  have e2 : (((k + (x.toInt % (n : Int)).toNat) % n : Nat) : Int) = ((k : Int) + x.toInt) % (n : Int) := by
    rw [Int.natCast_emod, Int.natCast_add, Int.toNat_of_nonneg h3, Int.add_emod_emod]
  have h4 := Int.emod_nonneg ((k : Int) + x.toInt) (show (n : Int) ≠ 0 by omega)
  omega
end PT_085
/-! ===== 086.fm -/
section PT_086
/-! bodies of the JDK's methods (the proof follows vx_ofW of EXCEPTIONS.to-paste); Math.floorMod of an int by a positive one -/
theorem vx_ofWF {l : Launch} {y : MethodName} {ws ws' : List Cond} {rm : Room} {Pc : Array Value → State → Prop} {Qc : Array Value → State → Outcome → State → Prop} {XC : String → State → State → Prop} {mc ms : Nat} {free : Addr → Prop} {cc : ByteArray} {maxL : Nat} {ret : Option FieldType}
    (hy : plainFor y = true) (hw : ws = Cond.code y cc maxL ret :: ws')
    (body : ∀ p e s m args below meth c s₁, BodyLoose p l y (headSpec ws rm) cc maxL ret e s m args below meth c s₁ → c.maxLocals = maxL → (∀ x ∈ c.exceptionTable.toList, False) → Pc args s →
      W p l e (headSpec ws rm).room s m args below meth c s.heap [] 0 0 (vx_MQ below Qc XC args s mc ms free) (entryFrame m args maxL)) : vx_Met l y ws rm Pc Qc XC mc ms free := by
  refine MetFree.of_bodySF (code := cc) (maxLocals := maxL) (ret := ret) hy ?_ ?_
  · intro args s m h hn
    obtain ⟨meth, c, h1, h2, h3, h4, h5, h6, -, -⟩ := Cond.code_spec hn (atoms_spec (ws := ws) h _ (by rw [hw]; exact List.mem_cons_self))
    exact ⟨meth, c, h1, h2, h3, h4, h5, h6⟩
  · intro p e s m args below meth c s₁ B hml hP _
    have hh0 : s₁.heap = s.heap := by rw [B.state]; rfl
    have ht : ∀ x ∈ c.exceptionTable.toList, False := by
      obtain ⟨meth9, c9, h1, h2, -, -, -, -, h7, -⟩ := Cond.code_spec B.named (atoms_spec (ws := ws) B.pre _ (by rw [hw]; exact List.mem_cons_self))
      cases Option.some.inj (h1.symm.trans B.method)
      cases Option.some.inj (h2.symm.trans (Stand.of_body B).code)
      intro x hx
      rw [Array.isEmpty_iff.mp h7] at hx
      cases hx
    obtain ⟨t, a1, o, b1, b2, b3⟩ := body p e s m args below meth c s₁ B hml ht hP s₁ hh0 (Stand.of_body B)
    exact ⟨t, o, a1, b1, b2, b3⟩
theorem Cm.ofF {l : Launch} {D : va_G} {cy : Nat → ClassId} {X : (Nat → Prop) → State → Heap → Prop} {y : MethodName} {cc : ByteArray} {maxL : Nat} {ret : Option FieldType} {rm : Room} {av : List Value} {w : va_W} {post : Option Value → va_W → Prop} {px : String → Prop} (lv : List (Option Value))
    (hy : plainFor y = true) (hlv : lvl 0 lv = lv_args 0 av) (hlen : (lg_sl av).length ≤ maxL)
    (body : ∀ (p : Program) (e : Env) (s : State) (m : MethodId) (args : Array Value) (below : List Frame) (meth : Method) (c : Code) (A : Nat → Prop), Fg p s m args meth c cc maxL y.cls D cy A → X A s s.heap → meth.sig.returnType = ret → (∀ x ∈ c.exceptionTable.toList, False) → meth.name = y.name →
      vW p l e rm s m args below meth c D vwCl A (vx_MQ below (vG post D vwCl A) (vGX px D vwCl w A) args s rm.cells rm.slots A) maxL 0 0 w lv 0 []) : Cm l D cy X y cc maxL ret rm av w post px := by
  intro sz
  refine vx_ofWF (cc := cc) (maxL := maxL) (ret := ret) hy rfl ?_
  intro p e s m args below meth c s₁ B hml hnt hv
  obtain ⟨rfl, hsz, hP, hK, hD0, hX⟩ := hv
  subst hsz
  have hts := atoms_spec (ws := Cond.code y cc maxL ret :: GW) B.pre
  have hown : s.vm.findClass y.cls = some m.cls := findClass_of_methodNamed B.named
  have hD : va_D (va_A w s.heap.size) w := hD0.self
  rw [lg_entry_eq]
  exact body p e s m av.toArray below meth c (va_A w s.heap.size) ⟨B.exec, B.bytes, hml, hown, fun w hw => hts w (List.mem_cons_of_mem _ hw), hK, B.notSynchronized, fun q h => Or.inr h⟩ hX B.returns hnt (name_of_methodNamed B.named B.method).1 s.heap [] _ hP hD va_S.rf (lvh.of (lv_entry av hlen) hlv)
theorem xor_neg {x y : Int32} (hy : 0 ≤ y.toInt) : (x ^^^ y) < 0 ↔ x.toInt < 0 := by
  have h1 : (x ^^^ y) < 0 ↔ (x ^^^ y).toInt < 0 := by
    rw [Int32.lt_iff_toInt_lt]
    rfl
  rw [h1]
  have e1 : ∀ z : Int32, z.toInt < 0 ↔ z.toBitVec.msb = true := fun z => by
    rw [BitVec.msb_eq_toInt]
    simp only [decide_eq_true_eq]
    rfl
  rw [e1, e1]
  have e2 : y.toBitVec.msb = false := by
    rcases h : y.toBitVec.msb with _ | _
    · rfl
    · have := (e1 y).mpr h
      omega
  have e3 : (x ^^^ y).toBitVec = x.toBitVec ^^^ y.toBitVec := rfl
  rw [e3, BitVec.msb_xor, e2, Bool.xor_false]
theorem fm_mod {X t n : Int} (hn : 0 < n) (ht : t = X.tmod n) : X % n = if t < 0 then t + n else t := by
  have h1 : X % n = t % n := by
    rw [ht, Int.tmod_def, Int.sub_mul_emod_self_left]
  have hb := tmod_bounds (a := X) hn
  rw [← ht] at hb
  rw [h1]
  split
  · rw [← Int.add_emod_right, Int.emod_eq_of_lt (by omega) (by omega)]
  · exact Int.emod_eq_of_lt (by omega) (by omega)
theorem fm_val {x : Int32} {n : Nat} (h0 : 0 < n) (hn : n < 2147483648) {y : Int32} (hy : y.toInt = x.toInt % (n : Int)) : y = nI (shN x n) := by
  apply Int32.toInt_inj.mp
  have h1 := shN_lt x h0
  have h2 : ((shN x n : Nat) : Int) = x.toInt % (n : Int) := by
    unfold shN
    exact Int.toNat_of_nonneg (Int.emod_nonneg _ (by omega))
  rw [hy, nI_toInt (by omega), h2]
theorem dJ9_floorMod_7cf53_0 : decode cJ9_floorMod_7cf53 0 = .ok (.iload_n 0, 1) := dqo_26 (kb_of ke_J9_floorMod_7cf53 0 rfl)
theorem dJ9_floorMod_7cf53_1 : decode cJ9_floorMod_7cf53 1 = .ok (.iload_n 1, 1) := dqo_27 (kb_of ke_J9_floorMod_7cf53 1 rfl)
theorem dJ9_floorMod_7cf53_2 : decode cJ9_floorMod_7cf53 2 = .ok (.irem, 1) := dqo_112 (kb_of ke_J9_floorMod_7cf53 2 rfl)
theorem dJ9_floorMod_7cf53_3 : decode cJ9_floorMod_7cf53 3 = .ok (.istore_n 2, 1) := dqo_61 (kb_of ke_J9_floorMod_7cf53 3 rfl)
theorem dJ9_floorMod_7cf53_4 : decode cJ9_floorMod_7cf53 4 = .ok (.iload_n 0, 1) := dqo_26 (kb_of ke_J9_floorMod_7cf53 4 rfl)
theorem dJ9_floorMod_7cf53_5 : decode cJ9_floorMod_7cf53 5 = .ok (.iload_n 1, 1) := dqo_27 (kb_of ke_J9_floorMod_7cf53 5 rfl)
theorem dJ9_floorMod_7cf53_6 : decode cJ9_floorMod_7cf53 6 = .ok (.ixor, 1) := dqo_130 (kb_of ke_J9_floorMod_7cf53 6 rfl)
theorem dJ9_floorMod_7cf53_7 : decode cJ9_floorMod_7cf53 7 = .ok (.ifCond .ge 11, 3) := dqo_156 0 11 (by decide) (kb_of ke_J9_floorMod_7cf53 7 rfl) (kb_of ke_J9_floorMod_7cf53 8 rfl) (kb_of ke_J9_floorMod_7cf53 9 rfl)
theorem dJ9_floorMod_7cf53_10 : decode cJ9_floorMod_7cf53 10 = .ok (.iload_n 2, 1) := dqo_28 (kb_of ke_J9_floorMod_7cf53 10 rfl)
theorem dJ9_floorMod_7cf53_11 : decode cJ9_floorMod_7cf53 11 = .ok (.ifCond .eq 7, 3) := dqo_153 0 7 (by decide) (kb_of ke_J9_floorMod_7cf53 11 rfl) (kb_of ke_J9_floorMod_7cf53 12 rfl) (kb_of ke_J9_floorMod_7cf53 13 rfl)
theorem dJ9_floorMod_7cf53_14 : decode cJ9_floorMod_7cf53 14 = .ok (.iload_n 2, 1) := dqo_28 (kb_of ke_J9_floorMod_7cf53 14 rfl)
theorem dJ9_floorMod_7cf53_15 : decode cJ9_floorMod_7cf53 15 = .ok (.iload_n 1, 1) := dqo_27 (kb_of ke_J9_floorMod_7cf53 15 rfl)
theorem dJ9_floorMod_7cf53_16 : decode cJ9_floorMod_7cf53 16 = .ok (.iadd, 1) := dqo_96 (kb_of ke_J9_floorMod_7cf53 16 rfl)
theorem dJ9_floorMod_7cf53_17 : decode cJ9_floorMod_7cf53 17 = .ok (.ireturn, 1) := dqo_172 (kb_of ke_J9_floorMod_7cf53 17 rfl)
theorem dJ9_floorMod_7cf53_18 : decode cJ9_floorMod_7cf53 18 = .ok (.iload_n 2, 1) := dqo_28 (kb_of ke_J9_floorMod_7cf53 18 rfl)
theorem dJ9_floorMod_7cf53_19 : decode cJ9_floorMod_7cf53 19 = .ok (.ireturn, 1) := dqo_172 (kb_of ke_J9_floorMod_7cf53 19 rfl)
set_option maxRecDepth 100000 in
set_option maxHeartbeats 4000000 in
theorem C_floorMod {l : Launch} {D : va_G} {cy : Nat → ClassId} {X : (Nat → Prop) → State → Heap → Prop} {w : va_W} {x : Int32} {n : Nat} (h0 : 0 < n) (hn : n < 2147483648) : Cd l D cy X yJ9_floorMod_7cf53 cJ9_floorMod_7cf53 3 (some .int) (rmz 0 0) [.int x, .int (nI n)] w (some (.int (nI (shN x n)))) w := by
  refine Cm.ofF [some (.int x), some (.int (nI n)), none] (by decide +kernel) rfl (Nat.le_of_ble_eq_true rfl) ?_
  intro p e s m args below meth c A C hE hr hnt hnm
  have hnI : (nI n).toInt = (n : Int) := nI_toInt hn
  have hrt := rem_toInt x (nI n)
  rw [hnI] at hrt
  obtain ⟨t, ht⟩ : ∃ t, t = x - x / nI n * nI n := ⟨_, rfl⟩
  rw [← ht] at hrt
  have hfm := fm_mod (show (0 : Int) < n by omega) hrt
  have hb := tmod_bounds (a := x.toInt) (show (0 : Int) < n by omega)
  rw [← hrt] at hb
  refine r_iload_n C dJ9_floorMod_7cf53_0 rfl ?_
  refine r_iload_n C dJ9_floorMod_7cf53_1 rfl ?_
  refine r_irem C dJ9_floorMod_7cf53_2 (nI_ne0 h0 hn) ?_
  rw [← ht]
  refine r_istore_n C dJ9_floorMod_7cf53_3 (by decide) rfl ?_
  refine r_iload_n C dJ9_floorMod_7cf53_4 rfl ?_
  refine r_iload_n C dJ9_floorMod_7cf53_5 rfl ?_
  refine r_ixor C dJ9_floorMod_7cf53_6 ?_
  refine r_if_ge (tgt := 18) C dJ9_floorMod_7cf53_7 (by decide) (fun h => ?_) (fun h => ?_)
  · refine r_iload_n C dJ9_floorMod_7cf53_18 rfl ?_
    refine r_iret C hr dJ9_floorMod_7cf53_19 ⟨?_, rfl⟩ (Nat.le_refl _) (Nat.le_refl _)
    have hx : ¬ x.toInt < 0 := fun q => by
      have := (xor_neg (x := x) (y := nI n) (by omega)).mpr q
      exact absurd h (Int32.not_le.mpr this)
    have h3 : 0 ≤ t.toInt := by
      rw [hrt]
      exact Int.tmod_nonneg _ (by omega)
    rw [if_neg (by omega)] at hfm
    rw [fm_val h0 hn hfm.symm]
  · have hx : x.toInt < 0 := (xor_neg (x := x) (y := nI n) (by omega)).mp (Int32.not_le.mp h)
    refine r_iload_n C dJ9_floorMod_7cf53_10 rfl ?_
    refine r_if_eq (tgt := 18) C dJ9_floorMod_7cf53_11 (by decide) (fun h => ?_) (fun h => ?_)
    · refine r_iload_n C dJ9_floorMod_7cf53_18 rfl ?_
      refine r_iret C hr dJ9_floorMod_7cf53_19 ⟨?_, rfl⟩ (Nat.le_refl _) (Nat.le_refl _)
      have h4 : t.toInt = 0 := by rw [h]; rfl
      rw [if_neg (by omega)] at hfm
      rw [fm_val h0 hn hfm.symm]
    · refine r_iload_n C dJ9_floorMod_7cf53_14 rfl ?_
      refine r_iload_n C dJ9_floorMod_7cf53_15 rfl ?_
      refine r_iadd C dJ9_floorMod_7cf53_16 ?_
      refine r_iret C hr dJ9_floorMod_7cf53_17 ⟨?_, rfl⟩ (Nat.le_refl _) (Nat.le_refl _)
      have h4 : t.toInt ≠ 0 := fun q => h (Int32.toInt_inj.mp (by rw [q]; rfl))
      have h5 : t.toInt ≤ 0 := by
        rw [hrt]
        have h7 : (-x.toInt).tmod n = -(x.toInt.tmod n) := Int.neg_tmod _ _
        have h8 := Int.tmod_nonneg (a := -x.toInt) n (by omega)
        omega
      rw [if_pos (by omega)] at hfm
      have h6 : (t + nI n).toInt = t.toInt + n := by
        rw [Int32.toInt_add, hnI]
        exact Int.bmod_eq_of_le (by omega) (by omega)
      rw [fm_val h0 hn (h6.trans hfm.symm)]
theorem pk_J9_floorMod : PkS yJ9_floorMod_7cf53 cJ9_floorMod_7cf53 3 (some .int) 2 := ⟨⟨qt_J9_floorMod_7cf53, qz_J9, qc_J9_floorMod_7cf53⟩, mh_J9.1, mh_J9.2, pd_0⟩
/-- a local is forgotten -/
theorem r_drop {p : Program} {l : Launch} {e : Env} {R : Room} {s : State} {m : MethodId} {args : Array Value} {below : List Frame} {meth : Method} {c : Code} {D : va_G} {cl : List vw_C} {A : Nat → Prop} {Q : State → Prop} {nL cells slots : Nat} {w : va_W} {lv : List (Option Value)} {pc : Nat} {st : List Value} (k : Nat) (kk : vW p l e R s m args below meth c D cl A Q nL cells slots w (lv.set k none) pc st) : vW p l e R s m args below meth c D cl A Q nL cells slots w lv pc st :=
  r_lv (lv' := lv.set k none) (fun i v h => by
    rw [List.getElem?_set] at h
    split at h
    · split at h <;> cases h
    · exact h) kk
end PT_086
