/-! THE LAW'S OWN ROWS -/
/-- the contract of a method with an exception table -/
def CmH (l : Launch) (D : va_G) (cy : Nat → ClassId) (X : (Nat → Prop) → State → Heap → Prop) (y : MethodName) (bytes : ByteArray) (maxL : Nat) (ret : Option FieldType) (hh : List (Nat × Nat × Nat × Nat)) (rm : Room) (av : List Value) (w : va_W) (post : Option Value → va_W → Prop) (px : String → Prop) : Prop :=
  Ct l y (Cond.codeWith y bytes maxL ret hh :: GW) rm D vwCl (tysL cy) X av w post px
def PkH (y : MethodName) (bytes : ByteArray) (maxL : Nat) (ret : Option FieldType) (hh : List (Nat × Nat × Nat × Nat)) (n : Nat) : Prop :=
  (Cond.static y ∈ GW ∧ Cond.initialized y.cls ∈ GW ∧ Cond.codeWith y bytes maxL ret hh ∈ GW) ∧ y.cls ≠ "java/lang/invoke/MethodHandle" ∧ y.cls ≠ "java/lang/invoke/VarHandle" ∧ (parseMethodDescriptor y.desc).map (fun d => d.parameters.length) = some n
theorem CmH.of {l : Launch} {D : va_G} {cy : Nat → ClassId} {X : (Nat → Prop) → State → Heap → Prop} {y : MethodName} {cc : ByteArray} {maxL : Nat} {ret : Option FieldType} {hh : List (Nat × Nat × Nat × Nat)} {rm : Room} {av : List Value} {w : va_W} {post : Option Value → va_W → Prop} {px : String → Prop} (lv : List (Option Value))
    (hy : plainName y.cls = true) (hlv : lvl 0 lv = lv_args 0 av) (hlen : (lg_sl av).length ≤ maxL)
    (body : ∀ (p : Program) (e : Env) (s : State) (m : MethodId) (args : Array Value) (below : List Frame) (meth : Method) (c : Code) (A : Nat → Prop), Fg p s m args meth c cc maxL y.cls D cy A → X A s s.heap → meth.sig.returnType = ret → c.exceptionTable.toList = tableOf hh →
      vW p l e rm s m args below meth c D vwCl A (vx_MQ below (vG post D vwCl A) (vGX px D vwCl w A) args s rm.cells rm.slots A) maxL 0 0 w lv 0 []) : CmH l D cy X y cc maxL ret hh rm av w post px := by
  intro sz
  refine vx_ofWH (cc := cc) (maxL := maxL) (ret := ret) (hh := hh) hy rfl ?_
  intro p e s m args below meth c s₁ B hml hv
  obtain ⟨rfl, hsz, hP, hK, hD0, hX⟩ := hv
  subst hsz
  have hts := atoms_spec (ws := Cond.codeWith y cc maxL ret hh :: GW) B.pre
  have hnt := vx_table (x := y) B (hts _ List.mem_cons_self)
  have hown : s.vm.findClass y.cls = some m.cls := findClass_of_methodNamed B.named
  have hD : va_D (va_A w s.heap.size) w := hD0.self
  rw [lg_entry_eq]
  exact body p e s m av.toArray below meth c (va_A w s.heap.size) ⟨B.exec, B.bytes, hml, hown, fun w hw => hts w (List.mem_cons_of_mem _ hw), hK, B.notSynchronized, fun q h => Or.inr h⟩ hX B.returns hnt s.heap [] _ hP hD va_S.rf (lvh.of (lv_entry av hlen) hlv)
/-- no such exception is one of the others -/
def NCL : List (String × String) := [("java/lang/IllegalArgumentException", "java/lang/IndexOutOfBoundsException"), ("java/lang/IllegalStateException", "java/lang/IndexOutOfBoundsException"), ("java/lang/IllegalStateException", "java/lang/IllegalArgumentException")]
def EnvN (X : (Nat → Prop) → State → Heap → Prop) : Prop := ∀ q ∈ NCL, ∀ (A : Nat → Prop) (U : State) (H : Heap), X A U H → va_Nc q.1 q.2 U
section LAWR
variable {p : Program} {l : Launch} {e : Env} {R : Room} {s : State} {m : MethodId} {args : Array Value} {below : List Frame} {meth : Method} {c : Code} {D : va_G} {cy : Nat → ClassId} {A : Nat → Prop} {Q : State → Prop} {nL cells slots : Nat} {w : va_W} {lv : List (Option Value)} {pc : Nat} {st : List Value} {cc : ByteArray} {own : String} {X : (Nat → Prop) → State → Heap → Prop}
variable {y : MethodName} {bytes : ByteArray} {maxL index n : Nat} {ret : Option FieldType} {hh : List (Nat × Nat × Nat × Nat)} {rm : Room} {As st0 : List Value} {post : Option Value → va_W → Prop} {px : String → Prop}
theorem c_SH (hX : Stb X) (C : Fg p s m args meth c cc nL own D cy A) (hE : X A s s.heap) (ct : CmH l D cy X y bytes maxL ret hh rm As w post px) (pk : PkH y bytes maxL ret hh n) (qm : Cond.methodLink own index y ∈ GW)
    (hn : As.length = n) (hstack : st0 = As.reverse ++ st) (hcat : (st.map fun v => v.category).sum ≤ 8)
    (d : decode cc pc = .ok (.invokestatic index, 3)) (hR : rm.frames + 1 ≤ R.frames ∧ 8 + (maxL + 11) + rm.locals ≤ R.locals) (hf : cells + rm.cells ≤ R.cells ∧ slots + rm.slots ≤ R.slots)
    (kk : ∀ (v : Option Value) (w' : va_W), post v w' → vW p l e R s m args below meth c D vwCl A Q nL (cells + rm.cells) (slots + rm.slots) w' lv (pc + 3) (v.toList ++ st))
    (kx : ∀ E : String, px E → vX p l e R s m args below meth c D vwCl A Q nL (cells + rm.cells) (slots + rm.slots) w lv pc st E) : vW p l e R s m args below meth c D vwCl A Q nL cells slots w lv pc st0 := by
  obtain ⟨⟨q1, q2, q3⟩, hd⟩ := pk
  have hG : GoodIn GW (va_wsS own index y (Cond.codeWith y bytes maxL ret hh :: GW)) := gw_good (fun _ h => h) (fun w h => by
    simp only [va_wsS, List.cons_append, List.nil_append, List.mem_cons] at h
    rcases h with h | h | h | h | h
    · exact h ▸ qm
    · exact h ▸ q1
    · exact h ▸ q2
    · exact h ▸ q3
    · exact h)
  have hcw := vx_cwSW (R := R) (rm := rm) n C.2.2.2.2.1 hG rfl rfl rfl hd hR
  exact r_run C (fun H locs ls hP hD hS hl => vx_runSX (As := As) (rest := st) (g := F0 m pc ls st0) ⟨C.1, C.2.1, C.2.2.1, C.2.2.2.1, C.2.2.2.2.1⟩ (ct H.size) hcw ⟨vPre_blind hX _ _ _, fun U hU hW => ⟨rfl, vPre_at hX C hE hP hD hS U hU hW⟩⟩ rfl hn hl.1 hstack (lv_room hcat) d hf) kk kx
theorem r_catch {name E : String} (C : Fg p s m args meth c cc nL own D cy A) (pre : List ExceptionTableEntry) (x : ExceptionTableEntry) (suf : List ExceptionTableEntry) (hsplit : c.exceptionTable.toList = pre ++ x :: suf)
    (hpass : ∀ z ∈ pre, covers z pc = false ∨ (z.catchType ≠ 0 ∧ ∃ nm : String, (Cond.classLink own z.catchType nm).before args s = true ∧ va_Nc E nm s)) (hx : covers x pc = true) (h0 : x.catchType ≠ 0)
    (hlink : (Cond.classLink own x.catchType name).before args s = true) (hcast : (Cond.castable E name).before args s = true)
    (kk : ∀ q : Nat, vW p l e R s m args below meth c D vwCl A Q nL cells slots w lv x.handlerPc [.ref q]) : vX p l e R s m args below meth c D vwCl A Q nL cells slots w lv pc st E := fun H locs ls q ce hP hD hS hl h3 h4 h5 =>
  vx_catch C.2.2.2.1 pre x suf hsplit hpass hx h0 hlink hcast h3 h4 h5 (kk q H locs ls hP hD hS hl)
/-- the script -/
theorem r_sld (C : Fg p s m args meth c cc nL own D cy A) {b L k : Nat} {xs : Nat → Int32} (hx : va_X b L xs s s.heap) (hbl : b < s.heap.size) (hbA : ¬ A b) (hk : k < L) (hL : L < 2147483648) (d : decode cc pc = .ok (.iaload, 1))
    (kk : vW p l e R s m args below meth c D vwCl A Q nL cells slots w lv (pc + 1) (.int (xs k) :: st)) : vW p l e R s m args below meth c D vwCl A Q nL cells slots w lv pc (.int (nI k) :: .ref b :: st) := fun H locs ls hP hD hS hl =>
  va_sld C.1 C.2.1 hx hbl hbA hS (vp_in_nI hk hL) d (by
    rw [nI_clamp (by omega)]
    exact kk H locs ls hP hD hS hl)
theorem r_slen (C : Fg p s m args meth c cc nL own D cy A) {b L : Nat} {xs : Nat → Int32} (hx : va_X b L xs s s.heap) (hbl : b < s.heap.size) (hbA : ¬ A b) (d : decode cc pc = .ok (.arraylength, 1))
    (kk : vW p l e R s m args below meth c D vwCl A Q nL cells slots w lv (pc + 1) (.int (nI L) :: st)) : vW p l e R s m args below meth c D vwCl A Q nL cells slots w lv pc (.ref b :: st) := fun H locs ls hP hD hS hl =>
  va_slen C.1 C.2.1 hx hbl hbA hS d (kk H locs ls hP hD hS hl)
end LAWR
/-- the law's own object -/
abbrev OUTo (o : Nat) (n : Int64) (v : Value) : Nat × va_E := (o, .inr (7, [.long n, v]))
/-- what a call leaves for the model's -/
def PN (l : Launch) (D : va_G) (cy : Nat → ClassId) (X : (Nat → Prop) → State → Heap → Prop) (ba ra : Nat → Nat) (hf : Nat → Nat → Nat) (hq : Nat → Nat → Int32) (kn th : Int32) (sm : Int64)
    (y4 : MethodName) (c4 : ByteArray) (m4 : Nat) (r4 : Option FieldType) (R4 : Room) (xs : List Value) (cv : Int32 → Int64) (f' : Nat → Nat → Nat) (r' : Nat → Nat → Int32) (k : Nat) (n1 : Int64) : Prop :=
  ∃ (hf' : Nat → Nat → Nat) (hq' : Nat → Nat → Int32) (n : Int32), CInv f' ∧ RB r' ∧ MR f' r' hf' hq' ∧ (k = 0 → n1 = cv n) ∧ k < 4 ∧
    ∀ Y : va_W, Cm l D cy X y4 c4 m4 r4 R4 (.ref (ba 9) :: xs) (WM cy ba ra hf hq kn th sm ++ Y) (fun v1 w1 => ∃ ra9 : Nat → Nat, v1 = some (.int n) ∧ w1 = WM cy ba ra9 hf' hq' kn (nI k) sm ++ Y) (fun _ => False)
def cvI (n : Int32) : Int64 := n.toInt64
def cvZ (n : Int32) : Int64 := if n = 0 then 0 else 1
theorem PR.two {l : Launch} {D : va_G} {cy : Nat → ClassId} {X : (Nat → Prop) → State → Heap → Prop} {a : Nat → Nat → Nat} {ba ra : Nat → Nat} {f : Nat → Nat → Nat} {r : Nat → Nat → Int32} {hf : Nat → Nat → Nat} {hq : Nat → Nat → Int32} {kn th : Int32} {sm : Int64}
    {y2 : MethodName} {c2 : ByteArray} {m2 : Nat} {r2 : Option FieldType} {y4 : MethodName} {c4 : ByteArray} {m4 : Nat} {r4 : Option FieldType} {R4 : Room} {xs : List Value} {tab : List (String × Nat)} (cv : Int32 → Int64) (ht : ∀ q ∈ tab, q.2 ≠ 0 ∧ q.2 < 4) (hC : CInv f) (hB : RB r) (hM : MR f r hf hq)
    (h : PR l D cy X a ba ra f r hf hq kn th sm y2 c2 m2 r2 y4 c4 m4 r4 R4 xs tab) :
    (∃ (E : String) (k : Nat), (E, k) ∈ tab ∧ (∀ Y : va_W, Ce l D cy X y2 c2 m2 r2 (rmk 8 1 6 170) (.ref (a 0 0) :: xs) (WC cy a f r kn ++ Y) E) ∧ ∀ n1, PN l D cy X ba ra hf hq kn th sm y4 c4 m4 r4 R4 xs cv f r k n1) ∨
    ∃ (f' : Nat → Nat → Nat) (r' : Nat → Nat → Int32) (n : Int32), (∀ Y : va_W, Cd l D cy X y2 c2 m2 r2 (rmz 6 240) (.ref (a 0 0) :: xs) (WC cy a f r kn ++ Y) (some (.int n)) (WC cy a f' r' kn ++ Y)) ∧ PN l D cy X ba ra hf hq kn th sm y4 c4 m4 r4 R4 xs cv f' r' 0 (cv n) := by
  rcases h with ⟨E, k, hm, h1, h2⟩ | ⟨f', r', hf', hq', n, hC', hB', hM', h1, h2⟩
  · exact Or.inl ⟨E, k, hm, h1, fun n1 => ⟨hf, hq, nI 0, hC, hB, hM, fun h0 => absurd h0 (ht _ hm).1, (ht _ hm).2, fun Y => (h2 Y).imp (fun v w1 h => ⟨ra, h.1, h.2⟩)⟩⟩
  · exact Or.inr ⟨f', r', n, h1, hf', hq', n, hC', hB', hM', fun _ => rfl, by decide, h2⟩
/-- class and model agree -/
def JW (cy : Nat → ClassId) (a : Nat → Nat → Nat) (ba : Nat → Nat) (o : Nat) (w : va_W) : Prop :=
  ∃ (f : Nat → Nat → Nat) (r : Nat → Nat → Int32) (hf : Nat → Nat → Nat) (hq : Nat → Nat → Int32) (kn : Int32) (ra : Nat → Nat) (th : Int32) (sm n : Int64) (v : Value), CInv f ∧ RB r ∧ MR f r hf hq ∧ w = WC cy a f r kn ++ (WM cy ba ra hf hq kn th sm ++ [OUTo o n v])
theorem outo_at {cy : Nat → ClassId} {a f : Nat → Nat → Nat} {r : Nat → Nat → Int32} {ba ra : Nat → Nat} {hf : Nat → Nat → Nat} {hq : Nat → Nat → Int32} {kn k2 th : Int32} {sm : Int64} {q : Nat × va_E} : (WC cy a f r kn ++ (WM cy ba ra hf hq k2 th sm ++ [q]))[38]? = some q := by
  rw [List.getElem?_append_right (by rw [wc_len]; omega), wc_len, List.getElem?_append_right (by rw [wm_len]; omega), wm_len]
  rfl
theorem outo_set {cy : Nat → ClassId} {a f : Nat → Nat → Nat} {r : Nat → Nat → Int32} {ba ra : Nat → Nat} {hf : Nat → Nat → Nat} {hq : Nat → Nat → Int32} {kn k2 th : Int32} {sm : Int64} {q q' : Nat × va_E} : (WC cy a f r kn ++ (WM cy ba ra hf hq k2 th sm ++ [q])).set 38 q' = WC cy a f r kn ++ (WM cy ba ra hf hq k2 th sm ++ [q']) := by
  rw [List.set_append_right _ _ (by rw [wc_len]; omega), wc_len, List.set_append_right _ _ (by rw [wm_len]; omega), wm_len]
  rfl

theorem qca_IOB : Cond.castable "java/lang/IndexOutOfBoundsException" "java/lang/IndexOutOfBoundsException" ∈ NWL := List.mem_filter.mpr ⟨(gm_3 180 rfl), rfl⟩
theorem qca_IAE : Cond.castable "java/lang/IllegalArgumentException" "java/lang/IllegalArgumentException" ∈ NWL := List.mem_filter.mpr ⟨(gm_1 217 rfl), rfl⟩
theorem qca_ISE : Cond.castable "java/lang/IllegalStateException" "java/lang/IllegalStateException" ∈ NWL := List.mem_filter.mpr ⟨(gm_4 2 rfl), rfl⟩
