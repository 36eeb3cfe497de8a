/-! A NEW ARRAY OF FOUR EMPTY ARRAYS -/
/-- the array of arrays with its first i places filled, the inner ones behind it -/
def q4C (cA : ClassId) (h0 : Nat) : Nat → Cell
  | 0 => { cls := cA, slots := Array.replicate 4 .null, vm := .none }
  | i + 1 => (q4C cA h0 i).setSlot i (.ref (h0 + 1 + i))
abbrev q4I (cI : ClassId) : Cell := { cls := cI, slots := Array.replicate 0 (.int 0), vm := .none }
def q4S (S : State) (cA cI : ClassId) : Nat → State
  | 0 => S.pushCell (q4C cA S.heap.size 0)
  | i + 1 => ((q4S S cA cI i).pushCell (q4I cI)).setCell S.heap.size (q4C cA S.heap.size (i + 1))
theorem q4C_is (cA : ClassId) (h0 : Nat) : ∀ i, (q4C cA h0 i).cls = cA ∧ (q4C cA h0 i).vm = .none ∧ (q4C cA h0 i).slots.size = 4
  | 0 => ⟨rfl, rfl, by simp [q4C]⟩
  | i + 1 => by
    obtain ⟨h1, h2, h3⟩ := q4C_is cA h0 i
    exact ⟨by simp [q4C, Cell.setSlot, h1], by simp [q4C, Cell.setSlot, h2], by simp [q4C, Cell.setSlot, h3]⟩
theorem q4C_arr (cA : ClassId) (h0 : Nat) : ∀ i, q4C cA h0 i = arrV cA 4 (fun j => va_rf (if j < i then some (h0 + 1 + j) else none))
  | 0 => by
    show ({ cls := cA, slots := Array.replicate 4 .null, vm := .none } : Cell) = _
    rw [arrV_new]
    refine congrArg (arrV cA 4) (funext fun j => ?_)
    simp [va_rf]
  | i + 1 => by
    show (q4C cA h0 i).setSlot i (.ref (h0 + 1 + i)) = _
    rw [q4C_arr cA h0 i, arrV_store]
    refine congrArg (arrV cA 4) (funext fun j => ?_)
    by_cases e : j = i
    · subst e
      simp [updV, va_rf]
    · by_cases h : j < i
      · simp [updV, e, h, Nat.lt_succ_of_lt h]
      · simp [updV, e, h, show ¬ j < i + 1 by omega]
theorem q4S_is (S : State) (cA cI : ClassId) : ∀ i, (q4S S cA cI i).heap.size = S.heap.size + 1 + i ∧ (q4S S cA cI i).heap[S.heap.size]? = some (q4C cA S.heap.size i) ∧ (q4S S cA cI i).vm = S.vm ∧ (q4S S cA cI i).slotsUsed = S.slotsUsed + 4
  | 0 => ⟨by simp [q4S], by simp [q4S], rfl, by simp [q4S, q4C]⟩
  | i + 1 => by
    obtain ⟨h1, h2, h3, h4⟩ := q4S_is S cA cI i
    have hlt : S.heap.size < (q4S S cA cI i).heap.size := by omega
    have hb : ((q4S S cA cI i).pushCell (q4I cI)).heap[S.heap.size]? = some (q4C cA S.heap.size i) := by rw [State.heap_pushCell_of_lt (h := hlt)]; exact h2
    refine ⟨?_, State.heap_setCell_self hb, by simp [q4S, h3], ?_⟩
    · simp [q4S, State.setCell, h1]
      omega
    · simp [q4S, h4]
theorem q4S_top (S : State) (f : JFrame) (cA cI : ClassId) : ∀ i, q4S (S.setTop f) cA cI i = (q4S S cA cI i).setTop f
  | 0 => rfl
  | i + 1 => by simp only [q4S, q4S_top S f cA cI i, State.heap_setTop, State.pushCell_setTop, State.setCell_setTop]
theorem q4S_old (S : State) (cA cI : ClassId) {a : Addr} (ha : a < S.heap.size) : ∀ i, (q4S S cA cI i).heap[a]? = S.heap[a]?
  | 0 => State.heap_pushCell_of_lt _ _ ha
  | i + 1 => by
    have h1 := (q4S_is S cA cI i).1
    show (((q4S S cA cI i).pushCell (q4I cI)).setCell S.heap.size _).heap[a]? = _
    have hlt : a < (q4S S cA cI i).heap.size := Nat.lt_of_lt_of_le ha (by rw [h1]; omega)
    rw [State.heap_setCell_other (Nat.ne_of_gt ha), State.heap_pushCell_of_lt (h := hlt)]
    exact q4S_old S cA cI ha i
theorem q4S_in (S : State) (cA cI : ClassId) : ∀ i j, j < i → (q4S S cA cI i).heap[S.heap.size + 1 + j]? = some (q4I cI)
  | 0, _, h => absurd h (Nat.not_lt_zero _)
  | i + 1, j, h => by
    have h1 := (q4S_is S cA cI i).1
    show (((q4S S cA cI i).pushCell (q4I cI)).setCell S.heap.size _).heap[S.heap.size + 1 + j]? = _
    rw [State.heap_setCell_other (show S.heap.size ≠ S.heap.size + 1 + j by omega)]
    by_cases hj : j < i
    · have hlt : S.heap.size + 1 + j < (q4S S cA cI i).heap.size := by rw [h1]; omega
      rw [State.heap_pushCell_of_lt (h := hlt)]
      exact q4S_in S cA cI i j hj
    · obtain rfl : j = i := by omega
      rw [← h1]
      exact State.heap_pushCell_size _ _
section Q4W
variable {E : CtlPost} {e : Env} {dd : Bool} {acts : List Action} {S : State}
theorem q4_new {cX comp : ClassId} {k : Class} {type : FieldType} {len : Nat} {init : Value} (hk : S.vm.classes[cX]? = some k) (hkind : k.kind = .array comp type) (hlimit : ¬ len > e.platform.arrayLengthLimit) (hheap : ¬ len * componentBytes type > e.platform.maxHeapBytes) (hfit : fits type init = true) (hdef : init.isDefault = true) {Q : Addr → Pre} (h1 : S.heap.size < e.platform.maxCells) (h2 : S.slotsUsed + len ≤ e.platform.maxSlots) (hq : Q S.heap.size dd acts (S.pushCell { cls := cX, slots := Array.replicate len init, vm := .none })) :
    wp (Jvm.newArray cX len init) Q E e dd acts S := by
  have hfits : ∀ i v, (Array.replicate len init)[i]? = some v → S.fitsSlot cX .none i v = true := by
    intro i v hv
    simp only [Array.getElem?_replicate] at hv
    split at hv
    · cases hv
      simp [State.fitsSlot, State.slotType?, hk, hkind, hfit]
    · cases hv
  have hda : allocActs (Array.replicate len init) S.heap.size acts = acts := by
    have hall : ((Array.replicate len init).all (·.isDefault)) = true := by
      rw [Array.all_replicate]
      split <;> simp [hdef]
    unfold allocActs
    rw [if_pos hall]
  simp only [Jvm.newArray, Jvm.arrayFits, wp_bind', W.ask, W.ite, hlimit, if_false, wp_pure', W.theClass, hk, hkind, hheap, W.alloc, W.stop, Option.some.injEq, exists_eq_left', Array.size_replicate, hda]
  rw [if_neg (by omega)]
  exact ⟨h1, h2, hfits, hq⟩
theorem q4_make {cA cI cc : ClassId} {kA kI : Class} (hkA : S.vm.classes[cA]? = some kA) (hkindA : kA.kind = .array cI (.array .int)) (hkI : S.vm.classes[cI]? = some kI) (hkindI : kI.kind = .array cc .int) (hl1 : ¬ 4 > e.platform.arrayLengthLimit) (hh1 : ¬ 4 * componentBytes (.array .int) > e.platform.maxHeapBytes) (hl2 : ¬ 0 > e.platform.arrayLengthLimit) (hh2 : ¬ 0 * componentBytes .int > e.platform.maxHeapBytes)
    (hc : S.heap.size + 1 + 4 ≤ e.platform.maxCells) (hs : S.slotsUsed + 4 ≤ e.platform.maxSlots) {Q : Addr → Pre} (hq : ∀ d' acts', Q S.heap.size d' acts' (q4S S cA cI 4)) : wp (multianewarray.make cA [4, 0]) Q E e dd acts S := by
  have h40 : ¬ (4 : Int32) < 0 := by decide
  have h00 : ¬ (0 : Int32) < 0 := by decide
  have h4n : (4 : Int32).toNatClampNeg = 4 := by decide
  have h0n : (0 : Int32).toNatClampNeg = 0 := by decide
  have hfind : ([(0 : Int32)].find? (· < 0)) = none := by decide
  rw [multianewarray.make]
  simp only [wp_bind', W.ite, h40, if_false, wp_pure', W.theClass, hkA, hkindA, Option.some.injEq, exists_eq_left', h4n]
  refine q4_new hkA hkindA hl1 hh1 rfl rfl (by omega) hs ?_
  simp only [hfind]
  rw [ite_self, wp_bind', Std.Legacy.Range.forIn_eq_forIn_range']
  have hsz : ([:4] : Std.Legacy.Range).size = 4 := by simp [Std.Legacy.Range.size]
  rw [hsz]
  show wp (forIn (List.range' 0 4 1) PUnit.unit _) _ E e dd acts _
  refine wp_forIn_inv (fun rest s' => ∃ i, i ≤ 4 ∧ rest = List.range' i (4 - i) ∧ s' = q4S S cA cI i) _ _ ⟨0, Nat.zero_le _, rfl, rfl⟩ ?_ ?_
  · rintro x rest s' d' acts' Q' ⟨i, hi, hl, rfl⟩ hnext
    have hlt : i < 4 := by
      rcases Nat.lt_or_ge i 4 with h | h
      · exact h
      · rw [show 4 - i = 0 by omega] at hl
        simp at hl
    obtain ⟨rfl, hrest⟩ : x = i ∧ rest = List.range' (i + 1) (4 - (i + 1)) := by
      rw [show 4 - i = (4 - (i + 1)) + 1 by omega, List.range'_succ] at hl
      exact ⟨(List.cons.inj hl).1, (List.cons.inj hl).2⟩
    obtain ⟨f1, f2, f3, f4⟩ := q4S_is S cA cI x
    obtain ⟨o1, o2, o3⟩ := q4C_is cA S.heap.size x
    simp only [wp_bind']
    rw [multianewarray.make]
    simp only [wp_bind', W.ite, h00, if_false, wp_pure', W.theClass, f3, hkI, hkindI, Option.some.injEq, exists_eq_left', h0n]
    refine q4_new (by rw [f3]; exact hkI) hkindI hl2 hh2 rfl rfl (by rw [f1]; omega) (by rw [f4]; omega) ?_
    have hlt0 : S.heap.size < (q4S S cA cI x).heap.size := by rw [f1]; omega
    simp only [wp_bind', W.writeLoc, wp_pure']
    refine ⟨q4C cA S.heap.size x, (State.heap_pushCell_of_lt _ _ hlt0).trans f2, by rw [o2]; simp, by rw [o3]; exact hlt, ?_, hnext _ _ _ ⟨x + 1, hlt, hrest, ?_⟩⟩
    · rw [o1, o2]
      simp [State.fitsSlot, State.slotType?, f3, hkA, hkindA, fits]
    · rw [f1]
      rfl
  · rintro s' d' acts' ⟨i, hi, hl, rfl⟩
    have hi4 : i = 4 := by
      rcases Nat.lt_or_ge i 4 with h | h
      · rw [show 4 - i = (4 - (i + 1)) + 1 by omega, List.range'_succ] at hl
        cases hl
      · omega
    subst hi4
    simp only [wp_pure']
    exact hq _ _
end Q4W
theorem q4_over {args : Array Value} {U : State} (h : (Cond.arrayOver (.array .int)).before args U = true) : ∃ comp c k, U.vm.findClass (FieldType.array .int).toString = some comp ∧ U.vm.classes[c]? = some k ∧ k.kind = .array comp (.array .int) ∧ U.vm.findClass ("[" ++ (FieldType.array .int).toString) = some c := by
  unfold Cond.before at h
  simp only [Cond.holds, Cond.value, beq_iff_eq] at h
  cases hc : U.vm.findClass (FieldType.array .int).toString with
  | none => simp [hc] at h
  | some comp =>
    simp only [hc, Option.bind_some, Option.bind_eq_some_iff, Option.map_eq_some_iff] at h
    obtain ⟨c, hi, k, hk, hb⟩ := h
    obtain ⟨hlt, hp, -⟩ := Array.findIdx?_eq_some_iff_getElem.mp hi
    have hkk : U.vm.classes[c] = k := (Array.getElem?_eq_some_iff.mp hk).2
    rw [hkk] at hp
    cases hkind : k.kind with
    | array component ty =>
      rw [hkind] at hb hp
      simp at hb hp
      exact ⟨comp, c, k, rfl, hk, by rw [hkind, hp, hb.1], hb.2⟩
    | _ => rw [hkind] at hb; simp at hb
section Q4V
variable {p : Program} {l : Launch} {e : Env} {R : Room} {s : State} {m : MethodId} {args : Array Value} {below : List Frame} {meth : Method} {c : Code} {T : State} {locs : List Loc} {cells slots : Nat}
theorem q4_stand (X : Stand p l e R s m args below meth c T locs cells slots) (cA cI : ClassId) : ∀ i, Stand p l e R s m args below meth c (q4S T cA cI i) (locs ++ (List.range i).map fun j => ⟨T.heap.size, j⟩) (cells + 1 + i) (slots + 4)
  | 0 => by
    have h := X.pushed (q4C cA T.heap.size 0)
    rw [(q4C_is cA T.heap.size 0).2.2] at h
    simpa [q4S] using h
  | i + 1 => by
    have Xi := q4_stand X cA cI i
    obtain ⟨f1, f2, f3, f4⟩ := q4S_is T cA cI i
    have hlt0 : T.heap.size < (q4S T cA cI i).heap.size := by rw [f1]; omega
    have hcell : ((q4S T cA cI i).pushCell (q4I cI)).heap[T.heap.size]? = some (q4C cA T.heap.size i) := by rw [State.heap_pushCell_of_lt (h := hlt0)]; exact f2
    have h := (Xi.pushed (q4I cI)).stored hcell i (.ref (T.heap.size + 1 + i))
    have e2 : (locs ++ (List.range (i + 1)).map fun j => (⟨T.heap.size, j⟩ : Loc)) = (locs ++ (List.range i).map fun j => (⟨T.heap.size, j⟩ : Loc)) ++ [⟨T.heap.size, i⟩] := by simp [List.range_succ, List.append_assoc]
    rw [e2]
    exact h
theorem q4_step (X : Stand p l e R s m args below meth c T locs cells slots) (hexec : p.tables.exec = Jvm.exec) {own : String} {index : Nat} (hown : s.vm.findClass own = some m.cls) (hclink : (Cond.classLink own index ("[" ++ (FieldType.array .int).toString)).before args s = true) (hover : (Cond.arrayOver (.array .int)).before args s = true) (harr : (Cond.arrayClass .int).before args s = true)
    {g : JFrame} (hg : g.method = m) (hdg : decode c.code g.pc = .ok (.multianewarray index 2, 4)) {rest : List Value} (hstack : g.stack = .int 0 :: .int 4 :: rest) (hcells : cells + (1 + 4) ≤ R.cells) (hslots : slots + 4 ≤ R.slots) :
    ∃ (vm₁ : Vm) (cA cI : ClassId), s.vm.findClass ("[" ++ (FieldType.array .int).toString) = some cA ∧ s.vm.findClass (FieldType.array .int).toString = some cI ∧ (∃ kA comp, s.vm.classes[cA]? = some kA ∧ kA.kind = .array comp (.array .int)) ∧
      Stand p l e R s m args below meth c (q4S (T.setVm vm₁) cA cI 4) locs (cells + 1 + 4) (slots + 4) ∧
      ∀ target, Steps p.tables e below ((q4S (T.setVm vm₁) cA cI 4).setTop { g with pc := g.pc + 4, stack := .ref T.heap.size :: rest }) target → Steps p.tables e below (T.setTop g) target := by
  subst hg
  have hpl : e.platform.magicAccessors = ({} : Platform).magicAccessors := by rw [X.admits.platform]
  obtain ⟨comp, cA, kA, hcomp, hkA, hkindA, hnameA⟩ := q4_over hover
  obtain ⟨comp', kC, cc, hcomp', hkC, hkindC⟩ := Cond.arrayClass_spec harr
  have ecomp : comp' = comp := Option.some.inj (hcomp'.symm.trans hcomp)
  subst ecomp
  obtain ⟨c0, hfc0, hcl⟩ := Cond.classLink_spec hown hclink e.platform hpl
  cases hnameA.symm.trans hfc0
  obtain ⟨hg₁, hwarm₁, hready₁⟩ := State.classEntry (e := e) X.warmed hcl
  generalize T.vm.noted g.method.cls index (.cls cA) = vm₁ at hg₁ hwarm₁ hready₁
  have hal : s.vm.Alike vm₁ := hwarm₁.alike
  obtain ⟨kA₁, hkA₁, heA⟩ := hal.2.2 _ _ hkA
  obtain ⟨kC₁, hkC₁, heC⟩ := hal.2.2 _ _ hkC
  have hkindA₁ : kA₁.kind = .array comp' (.array .int) := by rw [heA]; exact hkindA
  have hkindC₁ : kC₁.kind = .array cc .int := by rw [heC]; exact hkindC
  have X₁ := X.noted hwarm₁
  obtain ⟨hr1, hr2⟩ := X.roomAbove hcells hslots
  have XF := q4_stand X₁ cA comp' 4
  refine ⟨vm₁, cA, comp', hnameA, hcomp, ⟨kA, comp', hkA, hkindA⟩, XF.dropFresh (fun x hx => ?_), fun target hrest => ?_⟩
  · obtain ⟨j, -, rfl⟩ := List.mem_map.mp hx
    exact X.heapGrown
  have hl1 : ¬ 4 > e.platform.arrayLengthLimit := by rw [Launch.admits_arrayLengthLimit X.admits]; omega
  have hh1 : ¬ 4 * componentBytes (.array .int) > e.platform.maxHeapBytes := by
    rw [Launch.admits_maxHeapBytes X.admits]
    show ¬ 4 * 4 > 536870912
    omega
  have hl2 : ¬ 0 > e.platform.arrayLengthLimit := Nat.not_lt_zero _
  have hh2 : ¬ 0 * componentBytes .int > e.platform.maxHeapBytes := by rw [Nat.zero_mul]; exact Nat.not_lt_zero _
  jvm_step X.here [hexec, hdg]
  simp only [multianewarray.sem, wp_bind', W.resolveClassAt_links (State.method?_setTop g X.here.top) hg₁]
  rw [W.popN, if_neg (by decide)]
  refine ⟨g, State.topJava?_setTop' (s := T.setVm vm₁) g X.here.top, [.int 4, .int 0], rest, rfl, hstack, ?_⟩
  simp only [List.mapM_cons, List.mapM_nil, wp_bind', wp_pure']
  refine q4_make (kA := kA₁) (kI := kC₁) (cI := comp') (cc := cc) hkA₁ hkindA₁ hkC₁ hkindC₁ hl1 hh1 hl2 hh2 (by show T.heap.size + 1 + _ ≤ _; omega) (by show T.slotsUsed + _ ≤ _; omega) (fun d' acts' => ?_)
  have eS : ((T.setTop g).setVm vm₁).setTop { g with stack := rest } = (T.setVm vm₁).setTop { g with stack := rest } := by
    show ((T.setVm vm₁).setTop g).setTop _ = _
    rw [State.setTop_setTop]
  rw [eS, q4S_top]
  simp only [wp_bind', W.mark, W.pushRef, State.topJava?_setTop' _ XF.here.top, Option.some.injEq, exists_eq_left', State.setTop_setTop, State.heap_setTop]
  intro acts
  simp [jvm, XF.here.top]
  exact hrest
end Q4V
section Q4R
variable {p : Program} {l : Launch} {e : Env} {R : Room} {s : State} {m : MethodId} {args : Array Value} {below : List Frame} {meth : Method} {c : Code} {D : va_G} {cy : Nat → ClassId} {A : Nat → Prop} {Q : State → Prop} {nL cells slots : Nat} {w U L : va_W} {lv : List (Option Value)} {pc : Nat} {st : List Value} {cc : ByteArray} {own : String} {X : (Nat → Prop) → State → Heap → Prop}
/-- four empty arrays of ints in a new array -/
theorem r_new4 (C : Fg p s m args meth c cc nL own D cy A) (hA5 : AOI cy s) (hover : AOAI s) {index : Nat} (hcl : Cond.classLink own index "[[I" ∈ GW) (hcells : cells + 5 ≤ R.cells) (hslots : slots + 4 ≤ R.slots) (d : decode cc pc = .ok (.multianewarray index 2, 4))
    (kk : ∀ (q : Nat) (ra : Nat → Nat), vW p l e R s m args below meth c D vwCl A Q nL (cells + 5) (slots + 4) (w ++ ((q, .inl (cy 5, 4, .inr (.inr (.inr (.inr (fun i => some (ra i))))))) :: (List.range 4).map (fun i => (ra i, .inl (cy 1, 0, .inl (fun _ => 0)))))) lv (pc + 4) (.ref q :: st)) : vW p l e R s m args below meth c D vwCl A Q nL cells slots w lv pc (.int (nI 0) :: .int (nI 4) :: st) := by
  intro H locs ls hP hD hS hl T hT Xs
  have ht := C.2.2.2.2.1
  obtain ⟨vm₁, cA, cI, fA, fI, ⟨kA, comp, hkA, hkindA⟩, X', step⟩ := q4_step Xs C.1 C.2.2.2.1 (own := own) (index := index) (ht _ hcl) hover (ht _ qa_int) (g := F0 m pc ls (.int (nI 0) :: .int (nI 4) :: st)) rfl (by rw [C.2.1]; exact d) (rest := st) rfl hcells hslots
  have e1 : cI = cy 1 := Option.some.inj (fI.symm.trans (C.2.2.2.2.2.1.2 1 (cy 1, .int) rfl).2)
  have e5 : cA = cy 5 := Option.some.inj (fA.symm.trans (C.2.2.2.2.2.1.2 5 (cy 5, .array .int) rfl).2)
  subst e1
  subst e5
  generalize hF : q4S (T.setVm vm₁) (cy 5) (cy 1) 4 = F at X' step
  have hTh : (T.setVm vm₁).heap = H := hT
  obtain ⟨f1, f2, -, -⟩ := q4S_is (T.setVm vm₁) (cy 5) (cy 1) 4
  rw [hF, hTh] at f1 f2
  have hold : ∀ x : Nat, x < H.size → F.heap[x]? = H[x]? := fun x hx => by
    have := q4S_old (T.setVm vm₁) (cy 5) (cy 1) (a := x) (by rw [hTh]; exact hx) 4
    rw [hF, hTh] at this
    exact this
  have hrow : ∀ j : Nat, j < 4 → F.heap[H.size + 1 + j]? = some (vp_cell (cy 1) (0, .inl (fun _ => 0))) := fun j hj => by
    have := q4S_in (T.setVm vm₁) (cy 5) (cy 1) 4 j hj
    rw [hF, hTh] at this
    rw [this]
    show some (q4I (cy 1)) = some (arrV (cy 1) 0 (fun _ => Value.int 0))
    rw [← arrV_new]
  have hlt : ∀ (k : Nat) (x : Nat × va_E), w[k]? = some x → x.1 < H.size := fun k x hx => (hP k x hx).lt
  have hmap : ∀ k : Nat, ((List.range 4).map (fun i => ((H.size + 1 + i, .inl (cy 1, 0, .inl (fun _ => 0))) : Nat × va_E)))[k]? = if k < 4 then some (H.size + 1 + k, .inl (cy 1, 0, .inl (fun _ => 0))) else none := fun k => by
    by_cases hk : k < 4
    · rw [if_pos hk, List.getElem?_map, List.getElem?_range hk]
      rfl
    · rw [if_neg hk]
      exact List.getElem?_eq_none (by simp; omega)
  have hP2 : va_P D vwCl (w ++ ((H.size, .inl (cy 5, 4, .inr (.inr (.inr (.inr (fun i => some (H.size + 1 + i))))))) :: (List.range 4).map (fun i => (H.size + 1 + i, .inl (cy 1, 0, .inl (fun _ => 0)))))) F.heap := by
    refine (hP.kept (fun k x hx => hold x.1 (hlt k x hx))).app (fun k x hx => ?_)
    cases k with
    | zero =>
      cases hx
      show F.heap[H.size]? = some (vp_cell (cy 5) _)
      rw [f2, q4C_arr, vp_cell_q]
      exact congrArg some (arrV_cut (fun j hj => by rw [if_pos hj]))
    | succ k =>
      rw [List.getElem?_cons_succ, hmap] at hx
      split at hx
      · rename_i hk
        cases hx
        exact hrow k hk
      · cases hx
  have hD2 : va_D A (w ++ ((H.size, .inl (cy 5, 4, .inr (.inr (.inr (.inr (fun i => some (H.size + 1 + i))))))) :: (List.range 4).map (fun i => (H.size + 1 + i, .inl (cy 1, 0, .inl (fun _ => 0)))))) := by
    have hat : ∀ (k : Nat) (x : Nat × va_E), (w ++ ((H.size, .inl (cy 5, 4, .inr (.inr (.inr (.inr (fun i => some (H.size + 1 + i))))))) :: (List.range 4).map (fun i => (H.size + 1 + i, .inl (cy 1, 0, .inl (fun _ => 0))))))[k]? = some x → (k < w.length ∧ w[k]? = some x) ∨ (w.length ≤ k ∧ x.1 = H.size + (k - w.length)) := fun k x hx => by
      by_cases hk : k < w.length
      · rw [List.getElem?_append_left hk] at hx
        exact Or.inl ⟨hk, hx⟩
      · rw [List.getElem?_append_right (by omega)] at hx
        refine Or.inr ⟨by omega, ?_⟩
        generalize k - w.length = z at hx
        cases z with
        | zero =>
          cases hx
          rfl
        | succ z =>
          rw [List.getElem?_cons_succ, hmap] at hx
          split at hx
          · cases hx
            show H.size + 1 + z = H.size + (z + 1)
            omega
          · cases hx
    refine ⟨fun i j x y hx hy hxy => ?_, fun k x hx => ?_⟩
    · rcases hat i x hx with ⟨h1, h2⟩ | ⟨h1, h2⟩ <;> rcases hat j y hy with ⟨h3, h4⟩ | ⟨h3, h4⟩
      · exact hD.1 i j x y h2 h4 hxy
      · have := hlt _ _ h2
        omega
      · have := hlt _ _ h4
        omega
      · omega
    · rcases hat k x hx with ⟨h1, h2⟩ | ⟨h1, h2⟩
      · exact hD.2 k x h2
      · exact C.2.2.2.2.2.2.2 _ (by have := hS.1; omega)
  obtain ⟨t, a1, b1⟩ := kk H.size (fun i => H.size + 1 + i) F.heap locs ls hP2 hD2 ⟨by rw [f1]; have := hS.1; omega, fun x h1 h2 => (hold x (Nat.lt_of_lt_of_le h1 hS.1)).trans (hS.2.1 x h1 h2), hS.2.2⟩ hl F rfl X'
  refine ⟨t, step t ?_, b1⟩
  have e : T.heap.size = H.size := by rw [hT]
  rw [e]
  exact a1
end Q4R
