/-! CONTRACTS over one list of words; the kinds of arrays; the calls' rows -/
def tysL (cy : Nat → ClassId) : List (ClassId × FieldType) := [(cy 0, .byte), (cy 1, .int), (cy 2, .boolean), (cy 3, .object RX0), (cy 4, .object RX1), (cy 5, .array .int)]
def Cm (l : Launch) (D : va_G) (cy : Nat → ClassId) (X : (Nat → Prop) → State → Heap → Prop) (y : MethodName) (bytes : ByteArray) (maxL : Nat) (ret : Option FieldType) (rm : Room) (av : List Value) (w : va_W) (post : Option Value → va_W → Prop) (px : String → Prop) : Prop :=
  Ct l y (Cond.code y bytes maxL ret :: GW) rm D vwCl (tysL cy) X av w post px
/-- returns v with the world w', never throws -/
abbrev Cd (l : Launch) (D : va_G) (cy : Nat → ClassId) (X : (Nat → Prop) → State → Heap → Prop) (y : MethodName) (bytes : ByteArray) (maxL : Nat) (ret : Option FieldType) (rm : Room) (av : List Value) (w : va_W) (v : Option Value) (w' : va_W) : Prop :=
  Cm l D cy X y bytes maxL ret rm av w (fun v1 w1 => v1 = v ∧ w1 = w') (fun _ => False)
/-- throws E, and leaves the world -/
abbrev Ce (l : Launch) (D : va_G) (cy : Nat → ClassId) (X : (Nat → Prop) → State → Heap → Prop) (y : MethodName) (bytes : ByteArray) (maxL : Nat) (ret : Option FieldType) (rm : Room) (av : List Value) (w : va_W) (E : String) : Prop :=
  Cm l D cy X y bytes maxL ret rm av w (fun _ _ => False) (fun E1 => E1 = E)
abbrev rmz (f lo : Nat) : Room := { frames := f, cells := 0, slots := 0, locals := lo }
abbrev rmk (f c sl lo : Nat) : Room := { frames := f, cells := c, slots := sl, locals := lo }
theorem gw_cons {y : MethodName} {bytes : ByteArray} {maxL : Nat} {ret : Option FieldType} (hc : Cond.code y bytes maxL ret ∈ GW) : GoodIn GW (Cond.code y bytes maxL ret :: GW) := gw_good (fun _ h => h) (fun w h => (List.mem_cons.mp h).elim (fun e => e ▸ hc) (fun h => h))
/-- what a call of y wants, for an object's method and a static one -/
def PkV (Cn : String) (y : MethodName) (bytes : ByteArray) (maxL : Nat) (ret : Option FieldType) (n : Nat) : Prop :=
  (Cond.instanceMethod y ∈ GW ∧ Cond.selects Cn y y ∈ GW ∧ Cond.initialized Cn ∈ GW ∧ Cond.code y bytes maxL ret ∈ GW) ∧ y.cls = Cn ∧ y.cls ≠ "java/lang/invoke/MethodHandle" ∧ y.cls ≠ "java/lang/invoke/VarHandle" ∧ (parseMethodDescriptor y.desc).map (fun d => d.parameters.length) = some n
def PkS (y : MethodName) (bytes : ByteArray) (maxL : Nat) (ret : Option FieldType) (n : Nat) : Prop :=
  (Cond.static y ∈ GW ∧ Cond.initialized y.cls ∈ GW ∧ Cond.code y bytes maxL ret ∈ GW) ∧ y.cls ≠ "java/lang/invoke/MethodHandle" ∧ y.cls ≠ "java/lang/invoke/VarHandle" ∧ (parseMethodDescriptor y.desc).map (fun d => d.parameters.length) = some n
def PkI (y : MethodName) (bytes : ByteArray) (maxL : Nat) (n : Nat) : Prop :=
  (Cond.instanceMethod y ∈ GW ∧ Cond.initialized y.cls ∈ GW ∧ Cond.code y bytes maxL none ∈ GW) ∧ y.name = "<init>" ∧ y.cls ≠ "java/lang/invoke/MethodHandle" ∧ y.cls ≠ "java/lang/invoke/VarHandle" ∧ (parseMethodDescriptor y.desc).map (fun d => d.parameters.length) = some n
section BASE
variable {p : Program} {l : Launch} {e : Env} {R : Room} {s : State} {m : MethodId} {args : Array Value} {below : List Frame} {meth : Method} {c : Code} {D : va_G} {cy : Nat → ClassId} {A : Nat → Prop} {Q : State → Prop} {nL cells slots : Nat} {w : va_W} {lv : List (Option Value)} {pc : Nat} {st : List Value} {cc : ByteArray} {own : String} {X : (Nat → Prop) → State → Heap → Prop}
variable {y : MethodName} {bytes : ByteArray} {maxL index n b : Nat} {ret : Option FieldType} {rm : Room} {Cn : String} {As st0 : List Value} {post : Option Value → va_W → Prop} {px : String → Prop} {v0 : Value} {w' : va_W}
theorem cw_V (ht : ∀ w ∈ GW, w.before args s = true) (pk : PkV Cn y bytes maxL ret n) (qm : Cond.methodLink own index y ∈ GW) (hR : rm.frames + 1 ≤ R.frames ∧ 8 + (maxL + 11) + rm.locals ≤ R.locals) : CallW R s args own Cn index y bytes maxL ret (Cond.code y bytes maxL ret :: GW) rm rm.cells rm.slots n := by
  obtain ⟨⟨q1, q2, q3, q4⟩, hd⟩ := pk
  refine cwV n ht ?_ rfl rfl rfl hd hR
  refine gw_good (fun _ h => h) (fun w h => ?_)
  simp only [wsV, List.cons_append, List.nil_append, List.mem_cons] at h
  rcases h with h | h | h | h | h | h
  · exact h ▸ qm
  · exact h ▸ q1
  · exact h ▸ q2
  · exact h ▸ q3
  · exact h ▸ q4
  · exact h
theorem cw_S (ht : ∀ w ∈ GW, w.before args s = true) (pk : PkS y bytes maxL ret n) (qm : Cond.methodLink own index y ∈ GW) (hR : rm.frames + 1 ≤ R.frames ∧ 8 + (maxL + 11) + rm.locals ≤ R.locals) : CallB R s args own index y bytes maxL ret (Cond.code y bytes maxL ret :: GW) rm rm.cells rm.slots n ∧ (Cond.static y).before args s = true := by
  obtain ⟨⟨q1, q2, q3⟩, hd⟩ := pk
  exact ⟨callB_of n ht (gw_cons q3) rfl rfl rfl (ht _ q2) (ht _ qm) hd hR, ht _ q1⟩
theorem cw_I (ht : ∀ w ∈ GW, w.before args s = true) (pk : PkI y bytes maxL n) (qm : Cond.methodLink own index y ∈ GW) (hR : rm.frames + 1 ≤ R.frames ∧ 8 + (maxL + 11) + rm.locals ≤ R.locals) : CallB R s args own index y bytes maxL none (Cond.code y bytes maxL none :: GW) rm rm.cells rm.slots n ∧ y.name = "<init>" ∧ (Cond.instanceMethod y).before args s = true := by
  obtain ⟨⟨q1, q2, q3⟩, hn, hd⟩ := pk
  exact ⟨callB_of n ht (gw_cons q3) rfl rfl rfl (ht _ q2) (ht _ qm) hd hR, hn, ht _ q1⟩
abbrev Fg (p : Program) (s : State) (m : MethodId) (args : Array Value) (meth : Method) (c : Code) (cc : ByteArray) (nL : Nat) (own : String) (D : va_G) (cy : Nat → ClassId) (A : Nat → Prop) : Prop := Fx p s m args meth c cc nL own GW D vwCl (tysL cy) A
/-- a call of an object's method -/
theorem c_V (hX : Stb X) (C : Fg p s m args meth c cc nL own D cy A) (hE : X A s s.heap) (ct : Cm l D cy X y bytes maxL ret rm (.ref b :: As) w post px) (pk : PkV Cn y bytes maxL ret n) (qm : Cond.methodLink own index y ∈ GW)
    (q0 ci : Nat) {fs : List Value} {q : vw_C} (hc : vwCl[ci]? = some q) (hq : q.1 = Cn) (he : w[q0]? = some (b, .inr (ci, fs))) (hn : As.length = n) (hstack : st0 = As.reverse ++ .ref b :: st) (hcat : (st.map fun v => v.category).sum ≤ 8)
    (d : decode cc pc = .ok (.invokevirtual index, 3)) (hR : rm.frames + 1 ≤ R.frames ∧ 8 + (maxL + 11) + rm.locals ≤ R.locals) (hf : cells + rm.cells ≤ R.cells ∧ slots + rm.slots ≤ R.slots)
    (kk : ∀ (v : Option Value) (w' : va_W), post v w' → vW p l e R s m args below meth c D vwCl A Q nL (cells + rm.cells) (slots + rm.slots) w' lv (pc + 3) (v.toList ++ st))
    (kx : ∀ E : String, px E → vX p l e R s m args below meth c D vwCl A Q nL (cells + rm.cells) (slots + rm.slots) w lv pc st E) : vW p l e R s m args below meth c D vwCl A Q nL cells slots w lv pc st0 :=
  r_callV hX C hE ct (cw_V C.2.2.2.2.1 pk qm hR) q0 ci hc hq he hn hstack hcat d hf kk kx
theorem c_S (hX : Stb X) (C : Fg p s m args meth c cc nL own D cy A) (hE : X A s s.heap) (ct : Cm l D cy X y bytes maxL ret rm As w post px) (pk : PkS y bytes maxL ret n) (qm : Cond.methodLink own index y ∈ GW)
    (hn : As.length = n) (hstack : st0 = As.reverse ++ st) (hcat : (st.map fun v => v.category).sum ≤ 8)
    (d : decode cc pc = .ok (.invokestatic index, 3)) (hR : rm.frames + 1 ≤ R.frames ∧ 8 + (maxL + 11) + rm.locals ≤ R.locals) (hf : cells + rm.cells ≤ R.cells ∧ slots + rm.slots ≤ R.slots)
    (kk : ∀ (v : Option Value) (w' : va_W), post v w' → vW p l e R s m args below meth c D vwCl A Q nL (cells + rm.cells) (slots + rm.slots) w' lv (pc + 3) (v.toList ++ st))
    (kx : ∀ E : String, px E → vX p l e R s m args below meth c D vwCl A Q nL (cells + rm.cells) (slots + rm.slots) w lv pc st E) : vW p l e R s m args below meth c D vwCl A Q nL cells slots w lv pc st0 :=
  r_callS hX C hE ct (cw_S C.2.2.2.2.1 pk qm hR) hn hstack hcat d hf kk kx
/-- calls whose end is known: with an answer, without one; of an object's method, a static one -/
theorem d_V (hX : Stb X) (C : Fg p s m args meth c cc nL own D cy A) (hE : X A s s.heap) (ct : Cd l D cy X y bytes maxL ret rm (.ref b :: As) w (some v0) w') (pk : PkV Cn y bytes maxL ret n) (qm : Cond.methodLink own index y ∈ GW)
    (q0 ci : Nat) {fs : List Value} {q : vw_C} (hc : vwCl[ci]? = some q) (hq : q.1 = Cn) (he : w[q0]? = some (b, .inr (ci, fs))) (hn : As.length = n) (hstack : st0 = As.reverse ++ .ref b :: st) (hcat : (st.map fun v => v.category).sum ≤ 8)
    (d : decode cc pc = .ok (.invokevirtual index, 3)) (hR : rm.frames + 1 ≤ R.frames ∧ 8 + (maxL + 11) + rm.locals ≤ R.locals) (hf : cells + rm.cells ≤ R.cells ∧ slots + rm.slots ≤ R.slots)
    (kk : vW p l e R s m args below meth c D vwCl A Q nL (cells + rm.cells) (slots + rm.slots) w' lv (pc + 3) (v0 :: st)) : vW p l e R s m args below meth c D vwCl A Q nL cells slots w lv pc st0 :=
  c_V hX C hE ct pk qm q0 ci hc hq he hn hstack hcat d hR hf (fun v w1 h => by obtain ⟨rfl, rfl⟩ := h; exact kk) (fun _ h => h.elim)
theorem d_Vv (hX : Stb X) (C : Fg p s m args meth c cc nL own D cy A) (hE : X A s s.heap) (ct : Cd l D cy X y bytes maxL ret rm (.ref b :: As) w none w') (pk : PkV Cn y bytes maxL ret n) (qm : Cond.methodLink own index y ∈ GW)
    (q0 ci : Nat) {fs : List Value} {q : vw_C} (hc : vwCl[ci]? = some q) (hq : q.1 = Cn) (he : w[q0]? = some (b, .inr (ci, fs))) (hn : As.length = n) (hstack : st0 = As.reverse ++ .ref b :: st) (hcat : (st.map fun v => v.category).sum ≤ 8)
    (d : decode cc pc = .ok (.invokevirtual index, 3)) (hR : rm.frames + 1 ≤ R.frames ∧ 8 + (maxL + 11) + rm.locals ≤ R.locals) (hf : cells + rm.cells ≤ R.cells ∧ slots + rm.slots ≤ R.slots)
    (kk : vW p l e R s m args below meth c D vwCl A Q nL (cells + rm.cells) (slots + rm.slots) w' lv (pc + 3) st) : vW p l e R s m args below meth c D vwCl A Q nL cells slots w lv pc st0 :=
  c_V hX C hE ct pk qm q0 ci hc hq he hn hstack hcat d hR hf (fun v w1 h => by obtain ⟨rfl, rfl⟩ := h; exact kk) (fun _ h => h.elim)
theorem d_S (hX : Stb X) (C : Fg p s m args meth c cc nL own D cy A) (hE : X A s s.heap) (ct : Cd l D cy X y bytes maxL ret rm As w (some v0) w') (pk : PkS y bytes maxL ret n) (qm : Cond.methodLink own index y ∈ GW)
    (hn : As.length = n) (hstack : st0 = As.reverse ++ st) (hcat : (st.map fun v => v.category).sum ≤ 8)
    (d : decode cc pc = .ok (.invokestatic index, 3)) (hR : rm.frames + 1 ≤ R.frames ∧ 8 + (maxL + 11) + rm.locals ≤ R.locals) (hf : cells + rm.cells ≤ R.cells ∧ slots + rm.slots ≤ R.slots)
    (kk : vW p l e R s m args below meth c D vwCl A Q nL (cells + rm.cells) (slots + rm.slots) w' lv (pc + 3) (v0 :: st)) : vW p l e R s m args below meth c D vwCl A Q nL cells slots w lv pc st0 :=
  c_S hX C hE ct pk qm hn hstack hcat d hR hf (fun v w1 h => by obtain ⟨rfl, rfl⟩ := h; exact kk) (fun _ h => h.elim)
theorem d_Sv (hX : Stb X) (C : Fg p s m args meth c cc nL own D cy A) (hE : X A s s.heap) (ct : Cd l D cy X y bytes maxL ret rm As w none w') (pk : PkS y bytes maxL ret n) (qm : Cond.methodLink own index y ∈ GW)
    (hn : As.length = n) (hstack : st0 = As.reverse ++ st) (hcat : (st.map fun v => v.category).sum ≤ 8)
    (d : decode cc pc = .ok (.invokestatic index, 3)) (hR : rm.frames + 1 ≤ R.frames ∧ 8 + (maxL + 11) + rm.locals ≤ R.locals) (hf : cells + rm.cells ≤ R.cells ∧ slots + rm.slots ≤ R.slots)
    (kk : vW p l e R s m args below meth c D vwCl A Q nL (cells + rm.cells) (slots + rm.slots) w' lv (pc + 3) st) : vW p l e R s m args below meth c D vwCl A Q nL cells slots w lv pc st0 :=
  c_S hX C hE ct pk qm hn hstack hcat d hR hf (fun v w1 h => by obtain ⟨rfl, rfl⟩ := h; exact kk) (fun _ h => h.elim)
end BASE
/-- a body gives its contract, over the one list -/
theorem Cm.of {l : Launch} {D : va_G} {cy : Nat → ClassId} {X : (Nat → Prop) → State → Heap → Prop} {y : MethodName} {cc : ByteArray} {maxL : Nat} {ret : Option FieldType} {rm : Room} {av : List Value} {w : va_W} {post : Option Value → va_W → Prop} {px : String → Prop} (lv : List (Option Value))
    (hy : plainName y.cls = true) (hlv : lvl 0 lv = lv_args 0 av) (hlen : (lg_sl av).length ≤ maxL)
    (body : ∀ (p : Program) (e : Env) (s : State) (m : MethodId) (args : Array Value) (below : List Frame) (meth : Method) (c : Code) (A : Nat → Prop), Fg p s m args meth c cc maxL y.cls D cy A → X A s s.heap → meth.sig.returnType = ret → (∀ x ∈ c.exceptionTable.toList, False) → meth.name = y.name →
      vW p l e rm s m args below meth c D vwCl A (vx_MQ below (vG post D vwCl A) (vGX px D vwCl w A) args s rm.cells rm.slots A) maxL 0 0 w lv 0 []) : Cm l D cy X y cc maxL ret rm av w post px :=
  Ct.of hy rfl hlv hlen (fun p e s m args below meth c A C hE hr hnt hn => body p e s m args below meth c A ⟨C.1, C.2.1, C.2.2.1, C.2.2.2.1, fun w hw => C.2.2.2.2.1 w (List.mem_cons_of_mem _ hw), C.2.2.2.2.2⟩ hE hr hnt hn)
