/-! ===== 03.frame -/
section PT_03
/-! THE FRAME: a judgement over pure data (world w, locals lv, stack st) on top of W, and its rows -/
def lvh (ls : Array Slot) (nL : Nat) (lv : List (Option Value)) : Prop := ls.size = nL ∧ lv_wf ls ∧ ∀ (i : Nat) (v : Value), lv[i]? = some (some v) → ls[i]? = some (.val v)
def lvl : Nat → List (Option Value) → List (Nat × Value)
  | _, [] => []
  | k, none :: t => lvl (k + 1) t
  | k, some v :: t => (k, v) :: lvl (k + 1) t
theorem lvl_mem : ∀ (lv : List (Option Value)) (k : Nat) (q : Nat × Value), q ∈ lvl k lv ↔ ∃ j, q.1 = k + j ∧ lv[j]? = some (some q.2)
  | [], k, q => by simp [lvl]
  | none :: t, k, q => by
    rw [lvl, lvl_mem t (k + 1) q]
    constructor
    · rintro ⟨j, h1, h2⟩
      exact ⟨j + 1, by omega, by simpa using h2⟩
    · rintro ⟨j, h1, h2⟩
      match j, h1, h2 with
      | 0, h1, h2 => simp at h2
      | j + 1, h1, h2 => exact ⟨j, by omega, by simpa using h2⟩
  | some v :: t, k, q => by
    rw [lvl, List.mem_cons, lvl_mem t (k + 1) q]
    constructor
    · rintro (h | ⟨j, h1, h2⟩)
      · subst h
        exact ⟨0, by simp, by simp⟩
      · exact ⟨j + 1, by omega, by simpa using h2⟩
    · rintro ⟨j, h1, h2⟩
      match j, h1, h2 with
      | 0, h1, h2 =>
        left
        obtain ⟨a, b⟩ := q
        simp at h1 h2
        simp [h1, h2]
      | j + 1, h1, h2 => exact Or.inr ⟨j, by omega, by simpa using h2⟩
theorem lvh.has {ls : Array Slot} {nL : Nat} {lv : List (Option Value)} (h : lvh ls nL lv) : lv_has ls nL (lvl 0 lv) := ⟨h.1, h.2.1, fun q hq => by
  obtain ⟨j, h1, h2⟩ := (lvl_mem lv 0 q).mp hq
  rw [h1, Nat.zero_add]
  exact h.2.2 j q.2 h2⟩
theorem lvh.of {ls : Array Slot} {nL : Nat} {lv : List (Option Value)} {l : List (Nat × Value)} (h : lv_has ls nL l) (hl : lvl 0 lv = l) : lvh ls nL lv := ⟨h.1, h.2.1, fun i v hv => by
  have : (i, v) ∈ l := by rw [← hl]; exact (lvl_mem lv 0 (i, v)).mpr ⟨i, by simp, hv⟩
  exact h.2.2 (i, v) this⟩
/-- the place ahead of i holds no long or double -/
def lvok (lv : List (Option Value)) : Nat → Bool
  | 0 => true
  | i + 1 => match lv[i]? with
    | some (some v) => v.category == 1
    | _ => true
theorem lvh.set1 {ls' : Array Slot} {nL i : Nat} {v : Value} {lv : List (Option Value)} (hok : lvok lv i = true) (h : lv_has ls' nL ((i, v) :: (lvl 0 lv).filter (fun q => !(q.1 == i) && !(q.1 + 1 == i && q.2.category == 2)))) : lvh ls' nL (lv.set i (some v)) := by
  refine ⟨h.1, h.2.1, fun j u hj => ?_⟩
  rw [List.getElem?_set] at hj
  by_cases hji : i = j
  · subst hji
    rw [if_pos rfl] at hj
    split at hj
    · have hu : v = u := by simpa using hj
      subst hu
      exact h.2.2 (i, v) List.mem_cons_self
    · cases hj
  · rw [if_neg hji] at hj
    refine h.2.2 (j, u) (List.mem_cons_of_mem _ (List.mem_filter.mpr ⟨(lvl_mem lv 0 (j, u)).mpr ⟨j, by simp, hj⟩, ?_⟩))
    have h1 : (j == i) = false := by simp; omega
    have h2 : (j + 1 == i && u.category == 2) = false := by
      by_cases hj1 : j + 1 = i
      · subst hj1
        have : u.category = 1 := by simpa [lvok, hj] using hok
        simp [this]
      · simp [hj1]
    show (!(j == i) && !(j + 1 == i && u.category == 2)) = true
    rw [h1, h2]
    rfl
theorem lvh.set2 {ls' : Array Slot} {nL i : Nat} {v : Value} {lv : List (Option Value)} (hok : lvok lv i = true) (h : lv_has ls' nL ((i, v) :: (lvl 0 lv).filter (fun q => !(q.1 == i) && (!(q.1 == i + 1) && !(q.1 + 1 == i && q.2.category == 2))))) : lvh ls' nL ((lv.set i (some v)).set (i + 1) none) := by
  refine ⟨h.1, h.2.1, fun j u hj => ?_⟩
  rw [List.getElem?_set] at hj
  by_cases hji1 : i + 1 = j
  · subst hji1
    rw [if_pos rfl] at hj
    split at hj
    · cases hj
    · cases hj
  · rw [if_neg hji1, List.getElem?_set] at hj
    by_cases hji : i = j
    · subst hji
      rw [if_pos rfl] at hj
      split at hj
      · have hu : v = u := by simpa using hj
        subst hu
        exact h.2.2 (i, v) List.mem_cons_self
      · cases hj
    · rw [if_neg hji] at hj
      refine h.2.2 (j, u) (List.mem_cons_of_mem _ (List.mem_filter.mpr ⟨(lvl_mem lv 0 (j, u)).mpr ⟨j, by simp, hj⟩, ?_⟩))
      have h1 : (j == i) = false := by simp; omega
      have h3 : (j == i + 1) = false := by simp; omega
      have h2 : (j + 1 == i && u.category == 2) = false := by
        by_cases hj1 : j + 1 = i
        · subst hj1
          have : u.category = 1 := by simpa [lvok, hj] using hok
          simp [this]
        · simp [hj1]
      show (!(j == i) && (!(j == i + 1) && !(j + 1 == i && u.category == 2))) = true
      rw [h1, h2, h3]
      rfl
theorem lvh.sub {ls : Array Slot} {nL : Nat} {lv lv' : List (Option Value)} (h : lvh ls nL lv) (hs : ∀ (i : Nat) (v : Value), lv'[i]? = some (some v) → lv[i]? = some (some v)) : lvh ls nL lv' := ⟨h.1, h.2.1, fun i v hv => h.2.2 i v (hs i v hv)⟩
/-- what stays the same in a method's body -/
def Fx (p : Program) (s : State) (m : MethodId) (args : Array Value) (meth : Method) (c : Code) (cc : ByteArray) (nL : Nat) (own : String) (Ts : List Cond) (D : va_G) (cl : List vw_C) (tys : List (ClassId × FieldType)) (A : Nat → Prop) : Prop :=
  p.tables.exec = Jvm.exec ∧ c.code = cc ∧ c.maxLocals = nL ∧ s.vm.findClass own = some m.cls ∧ (∀ w ∈ Ts, w.before args s = true) ∧ va_K D cl tys s ∧ meth.locks = false ∧ (∀ q, s.heap.size ≤ q → A q)
def vW (p : Program) (l : Launch) (e : Env) (R : Room) (s : State) (m : MethodId) (args : Array Value) (below : List Frame) (meth : Method) (c : Code) (D : va_G) (cl : List vw_C) (A : Nat → Prop) (Q : State → Prop) (nL cells slots : Nat) (w : va_W) (lv : List (Option Value)) (pc : Nat) (st : List Value) : Prop :=
  ∀ (H : Heap) (locs : List Loc) (ls : Array Slot), va_P D cl w H → va_D A w → va_S A s.heap H locs → lvh ls nL lv → W p l e R s m args below meth c H locs cells slots Q (F0 m pc ls st)
section VF
variable {p : Program} {l : Launch} {e : Env} {R : Room} {s : State} {m : MethodId} {args : Array Value} {below : List Frame} {meth : Method} {c : Code} {D : va_G} {cl : List vw_C} {A : Nat → Prop} {Q : State → Prop} {nL cells slots : Nat} {w : va_W} {lv : List (Option Value)} {pc : Nat} {st : List Value} {cc : ByteArray} {own : String} {Ts : List Cond} {tys : List (ClassId × FieldType)}

theorem r_iconst (C : Fx p s m args meth c cc nL own Ts D cl tys A) {n : Int} {v : Int32} (d : decode cc pc = .ok (.iconst n, 1)) (hv : Int32.ofInt n = v) (kk : vW p l e R s m args below meth c D cl A Q nL cells slots w (lv) (pc + 1) (.int v :: st)) : vW p l e R s m args below meth c D cl A Q nL cells slots w (lv) (pc) (st) := fun H locs ls hP hD hS hl => lv_iconst C.1 C.2.1 d hv (kk H locs ls hP hD hS hl)
theorem r_bipush (C : Fx p s m args meth c cc nL own Ts D cl tys A) {n : Int} {v : Int32} (d : decode cc pc = .ok (.bipush n, 2)) (hv : (Int8.ofInt n).toInt32 = v) (kk : vW p l e R s m args below meth c D cl A Q nL cells slots w (lv) (pc + 2) (.int v :: st)) : vW p l e R s m args below meth c D cl A Q nL cells slots w (lv) (pc) (st) := fun H locs ls hP hD hS hl => lv_bipush C.1 C.2.1 d hv (kk H locs ls hP hD hS hl)
theorem r_sipush (C : Fx p s m args meth c cc nL own Ts D cl tys A) {n : Int} {v : Int32} (d : decode cc pc = .ok (.sipush n, 3)) (hv : (Int16.ofInt n).toInt32 = v) (kk : vW p l e R s m args below meth c D cl A Q nL cells slots w (lv) (pc + 3) (.int v :: st)) : vW p l e R s m args below meth c D cl A Q nL cells slots w (lv) (pc) (st) := fun H locs ls hP hD hS hl => lv_sipush C.1 C.2.1 d hv (kk H locs ls hP hD hS hl)
theorem r_lconst (C : Fx p s m args meth c cc nL own Ts D cl tys A) {n : Fin 2} {v : Int64} (d : decode cc pc = .ok (.lconst n, 1)) (hv : Int64.ofNat (n : Nat) = v) (kk : vW p l e R s m args below meth c D cl A Q nL cells slots w (lv) (pc + 1) (.long v :: st)) : vW p l e R s m args below meth c D cl A Q nL cells slots w (lv) (pc) (st) := fun H locs ls hP hD hS hl => lv_lconst C.1 C.2.1 d hv (kk H locs ls hP hD hS hl)
theorem r_ldc2 (C : Fx p s m args meth c cc nL own Ts D cl tys A) {index : Nat} {v : Int64} (h : Jvm.Cond.constantLong own index v ∈ Ts) (d : decode cc pc = .ok (.ldc2_w index, 3)) (kk : vW p l e R s m args below meth c D cl A Q nL cells slots w (lv) (pc + 3) (.long v :: st)) : vW p l e R s m args below meth c D cl A Q nL cells slots w (lv) (pc) (st) := fun H locs ls hP hD hS hl => lv_ldc2 C.1 C.2.1 C.2.2.2.1 (C.2.2.2.2.1 _ h) d (kk H locs ls hP hD hS hl)
theorem r_iload_n (C : Fx p s m args meth c cc nL own Ts D cl tys A) {k : Fin 4} {x : Int32} (d : decode cc pc = .ok (.iload_n k, 1)) (h : lv[(k : Nat)]? = some (some (.int x))) (kk : vW p l e R s m args below meth c D cl A Q nL cells slots w (lv) (pc + 1) (.int x :: st)) : vW p l e R s m args below meth c D cl A Q nL cells slots w (lv) (pc) (st) := fun H locs ls hP hD hS hl => lv_iload_n C.1 C.2.1 d rfl (hl.2.2 _ _ h) (kk H locs ls hP hD hS hl)
theorem r_iload (C : Fx p s m args meth c cc nL own Ts D cl tys A) {k : Nat} {x : Int32} (d : decode cc pc = .ok (.iload k, 2)) (h : lv[k]? = some (some (.int x))) (kk : vW p l e R s m args below meth c D cl A Q nL cells slots w (lv) (pc + 2) (.int x :: st)) : vW p l e R s m args below meth c D cl A Q nL cells slots w (lv) (pc) (st) := fun H locs ls hP hD hS hl => lv_iload C.1 C.2.1 d (hl.2.2 _ _ h) (kk H locs ls hP hD hS hl)
theorem r_lload_n (C : Fx p s m args meth c cc nL own Ts D cl tys A) {k : Fin 4} {x : Int64} (d : decode cc pc = .ok (.lload_n k, 1)) (h : lv[(k : Nat)]? = some (some (.long x))) (kk : vW p l e R s m args below meth c D cl A Q nL cells slots w (lv) (pc + 1) (.long x :: st)) : vW p l e R s m args below meth c D cl A Q nL cells slots w (lv) (pc) (st) := fun H locs ls hP hD hS hl => lv_lload_n C.1 C.2.1 d rfl (hl.2.2 _ _ h) (kk H locs ls hP hD hS hl)
theorem r_lload (C : Fx p s m args meth c cc nL own Ts D cl tys A) {k : Nat} {x : Int64} (d : decode cc pc = .ok (.lload k, 2)) (h : lv[k]? = some (some (.long x))) (kk : vW p l e R s m args below meth c D cl A Q nL cells slots w (lv) (pc + 2) (.long x :: st)) : vW p l e R s m args below meth c D cl A Q nL cells slots w (lv) (pc) (st) := fun H locs ls hP hD hS hl => lv_lload C.1 C.2.1 d (hl.2.2 _ _ h) (kk H locs ls hP hD hS hl)
theorem r_aload_n (C : Fx p s m args meth c cc nL own Ts D cl tys A) {k : Fin 4} {x : Nat} (d : decode cc pc = .ok (.aload_n k, 1)) (h : lv[(k : Nat)]? = some (some (.ref x))) (kk : vW p l e R s m args below meth c D cl A Q nL cells slots w (lv) (pc + 1) (.ref x :: st)) : vW p l e R s m args below meth c D cl A Q nL cells slots w (lv) (pc) (st) := fun H locs ls hP hD hS hl => lv_aload_n C.1 C.2.1 d rfl (hl.2.2 _ _ h) (kk H locs ls hP hD hS hl)
theorem r_aload (C : Fx p s m args meth c cc nL own Ts D cl tys A) {k : Nat} {x : Nat} (d : decode cc pc = .ok (.aload k, 2)) (h : lv[k]? = some (some (.ref x))) (kk : vW p l e R s m args below meth c D cl A Q nL cells slots w (lv) (pc + 2) (.ref x :: st)) : vW p l e R s m args below meth c D cl A Q nL cells slots w (lv) (pc) (st) := fun H locs ls hP hD hS hl => lv_aload C.1 C.2.1 d (hl.2.2 _ _ h) (kk H locs ls hP hD hS hl)
theorem r_istore_n (C : Fx p s m args meth c cc nL own Ts D cl tys A) {k : Fin 4} {x : Int32} (d : decode cc pc = .ok (.istore_n k, 1)) (hn : (k : Nat) < nL) (hok : lvok lv (k : Nat) = true) (kk : vW p l e R s m args below meth c D cl A Q nL cells slots w (lv.set (k : Nat) (some (.int x))) (pc + 1) (st)) : vW p l e R s m args below meth c D cl A Q nL cells slots w (lv) (pc) (.int x :: st) := fun H locs ls hP hD hS hl => lv_istore_n C.1 C.2.1 d rfl hl.has hn rfl (fun ls' h' => kk H locs ls' hP hD hS (lvh.set1 hok h'))
theorem r_istore (C : Fx p s m args meth c cc nL own Ts D cl tys A) {k : Nat} {x : Int32} (d : decode cc pc = .ok (.istore k, 2)) (hn : k < nL) (hok : lvok lv k = true) (kk : vW p l e R s m args below meth c D cl A Q nL cells slots w (lv.set k (some (.int x))) (pc + 2) (st)) : vW p l e R s m args below meth c D cl A Q nL cells slots w (lv) (pc) (.int x :: st) := fun H locs ls hP hD hS hl => lv_istore C.1 C.2.1 d hl.has hn rfl (fun ls' h' => kk H locs ls' hP hD hS (lvh.set1 hok h'))
theorem r_lstore_n (C : Fx p s m args meth c cc nL own Ts D cl tys A) {k : Fin 4} {x : Int64} (d : decode cc pc = .ok (.lstore_n k, 1)) (hn : (k : Nat) + 1 < nL) (hok : lvok lv (k : Nat) = true) (kk : vW p l e R s m args below meth c D cl A Q nL cells slots w ((lv.set (k : Nat) (some (.long x))).set ((k : Nat) + 1) none) (pc + 1) (st)) : vW p l e R s m args below meth c D cl A Q nL cells slots w (lv) (pc) (.long x :: st) := fun H locs ls hP hD hS hl => lv_lstore_n C.1 C.2.1 d rfl hl.has hn rfl (fun ls' h' => kk H locs ls' hP hD hS (lvh.set2 hok h'))
theorem r_lstore (C : Fx p s m args meth c cc nL own Ts D cl tys A) {k : Nat} {x : Int64} (d : decode cc pc = .ok (.lstore k, 2)) (hn : k + 1 < nL) (hok : lvok lv k = true) (kk : vW p l e R s m args below meth c D cl A Q nL cells slots w ((lv.set k (some (.long x))).set (k + 1) none) (pc + 2) (st)) : vW p l e R s m args below meth c D cl A Q nL cells slots w (lv) (pc) (.long x :: st) := fun H locs ls hP hD hS hl => lv_lstore C.1 C.2.1 d hl.has hn rfl (fun ls' h' => kk H locs ls' hP hD hS (lvh.set2 hok h'))
theorem r_astore_n (C : Fx p s m args meth c cc nL own Ts D cl tys A) {k : Fin 4} {x : Nat} (d : decode cc pc = .ok (.astore_n k, 1)) (hn : (k : Nat) < nL) (hok : lvok lv (k : Nat) = true) (kk : vW p l e R s m args below meth c D cl A Q nL cells slots w (lv.set (k : Nat) (some (.ref x))) (pc + 1) (st)) : vW p l e R s m args below meth c D cl A Q nL cells slots w (lv) (pc) (.ref x :: st) := fun H locs ls hP hD hS hl => lv_astore_n C.1 C.2.1 d rfl hl.has hn rfl (fun ls' h' => kk H locs ls' hP hD hS (lvh.set1 hok h'))
theorem r_astore (C : Fx p s m args meth c cc nL own Ts D cl tys A) {k : Nat} {x : Nat} (d : decode cc pc = .ok (.astore k, 2)) (hn : k < nL) (hok : lvok lv k = true) (kk : vW p l e R s m args below meth c D cl A Q nL cells slots w (lv.set k (some (.ref x))) (pc + 2) (st)) : vW p l e R s m args below meth c D cl A Q nL cells slots w (lv) (pc) (.ref x :: st) := fun H locs ls hP hD hS hl => lv_astore C.1 C.2.1 d hl.has hn rfl (fun ls' h' => kk H locs ls' hP hD hS (lvh.set1 hok h'))
theorem r_iinc (C : Fx p s m args meth c cc nL own Ts D cl tys A) {k : Nat} {n : Int} {x v : Int32} (d : decode cc pc = .ok (.iinc k n, 3)) (h : lv[k]? = some (some (.int x))) (hv : x + Int32.ofInt n = v) (hn : k < nL) (hok : lvok lv k = true) (kk : vW p l e R s m args below meth c D cl A Q nL cells slots w (lv.set k (some (.int v))) (pc + 3) (st)) : vW p l e R s m args below meth c D cl A Q nL cells slots w (lv) (pc) (st) := fun H locs ls hP hD hS hl => by
  obtain ⟨j, hj⟩ := List.getElem?_of_mem ((lvl_mem lv 0 (k, .int x)).mpr ⟨k, by simp, h⟩)
  exact lv_iinc C.1 C.2.1 d hl.has (k := j) hj hv hn rfl (fun ls' h' => kk H locs ls' hP hD hS (lvh.set1 hok h'))
theorem r_iadd (C : Fx p s m args meth c cc nL own Ts D cl tys A) {x y : Int32} (d : decode cc pc = .ok (.iadd, 1)) (kk : vW p l e R s m args below meth c D cl A Q nL cells slots w (lv) (pc + 1) (.int (x + y) :: st)) : vW p l e R s m args below meth c D cl A Q nL cells slots w (lv) (pc) (.int y :: .int x :: st) := fun H locs ls hP hD hS hl => lv_iadd C.1 C.2.1 d (kk H locs ls hP hD hS hl)
theorem r_isub (C : Fx p s m args meth c cc nL own Ts D cl tys A) {x y : Int32} (d : decode cc pc = .ok (.isub, 1)) (kk : vW p l e R s m args below meth c D cl A Q nL cells slots w (lv) (pc + 1) (.int (x - y) :: st)) : vW p l e R s m args below meth c D cl A Q nL cells slots w (lv) (pc) (.int y :: .int x :: st) := fun H locs ls hP hD hS hl => lv_isub C.1 C.2.1 d (kk H locs ls hP hD hS hl)
theorem r_imul (C : Fx p s m args meth c cc nL own Ts D cl tys A) {x y : Int32} (d : decode cc pc = .ok (.imul, 1)) (kk : vW p l e R s m args below meth c D cl A Q nL cells slots w (lv) (pc + 1) (.int (x * y) :: st)) : vW p l e R s m args below meth c D cl A Q nL cells slots w (lv) (pc) (.int y :: .int x :: st) := fun H locs ls hP hD hS hl => lv_imul C.1 C.2.1 d (kk H locs ls hP hD hS hl)
theorem r_iand (C : Fx p s m args meth c cc nL own Ts D cl tys A) {x y : Int32} (d : decode cc pc = .ok (.iand, 1)) (kk : vW p l e R s m args below meth c D cl A Q nL cells slots w (lv) (pc + 1) (.int (x &&& y) :: st)) : vW p l e R s m args below meth c D cl A Q nL cells slots w (lv) (pc) (.int y :: .int x :: st) := fun H locs ls hP hD hS hl => lv_iand C.1 C.2.1 d (kk H locs ls hP hD hS hl)
theorem r_ior (C : Fx p s m args meth c cc nL own Ts D cl tys A) {x y : Int32} (d : decode cc pc = .ok (.ior, 1)) (kk : vW p l e R s m args below meth c D cl A Q nL cells slots w (lv) (pc + 1) (.int (x ||| y) :: st)) : vW p l e R s m args below meth c D cl A Q nL cells slots w (lv) (pc) (.int y :: .int x :: st) := fun H locs ls hP hD hS hl => lv_ior C.1 C.2.1 d (kk H locs ls hP hD hS hl)
theorem r_ixor (C : Fx p s m args meth c cc nL own Ts D cl tys A) {x y : Int32} (d : decode cc pc = .ok (.ixor, 1)) (kk : vW p l e R s m args below meth c D cl A Q nL cells slots w (lv) (pc + 1) (.int (x ^^^ y) :: st)) : vW p l e R s m args below meth c D cl A Q nL cells slots w (lv) (pc) (.int y :: .int x :: st) := fun H locs ls hP hD hS hl => lv_ixor C.1 C.2.1 d (kk H locs ls hP hD hS hl)
theorem r_ladd (C : Fx p s m args meth c cc nL own Ts D cl tys A) {x y : Int64} (d : decode cc pc = .ok (.ladd, 1)) (kk : vW p l e R s m args below meth c D cl A Q nL cells slots w (lv) (pc + 1) (.long (x + y) :: st)) : vW p l e R s m args below meth c D cl A Q nL cells slots w (lv) (pc) (.long y :: .long x :: st) := fun H locs ls hP hD hS hl => lv_ladd C.1 C.2.1 d (kk H locs ls hP hD hS hl)
theorem r_lmul (C : Fx p s m args meth c cc nL own Ts D cl tys A) {x y : Int64} (d : decode cc pc = .ok (.lmul, 1)) (kk : vW p l e R s m args below meth c D cl A Q nL cells slots w (lv) (pc + 1) (.long (x * y) :: st)) : vW p l e R s m args below meth c D cl A Q nL cells slots w (lv) (pc) (.long y :: .long x :: st) := fun H locs ls hP hD hS hl => lv_lmul C.1 C.2.1 d (kk H locs ls hP hD hS hl)
theorem r_idiv (C : Fx p s m args meth c cc nL own Ts D cl tys A) {x y : Int32} (d : decode cc pc = .ok (.idiv, 1)) (hne : ¬ y = 0) (kk : vW p l e R s m args below meth c D cl A Q nL cells slots w (lv) (pc + 1) (.int (x / y) :: st)) : vW p l e R s m args below meth c D cl A Q nL cells slots w (lv) (pc) (.int y :: .int x :: st) := fun H locs ls hP hD hS hl => lv_idiv C.1 C.2.1 d hne (kk H locs ls hP hD hS hl)
theorem r_irem (C : Fx p s m args meth c cc nL own Ts D cl tys A) {x y : Int32} (d : decode cc pc = .ok (.irem, 1)) (hne : ¬ y = 0) (kk : vW p l e R s m args below meth c D cl A Q nL cells slots w (lv) (pc + 1) (.int (x - x / y * y) :: st)) : vW p l e R s m args below meth c D cl A Q nL cells slots w (lv) (pc) (.int y :: .int x :: st) := fun H locs ls hP hD hS hl => lv_irem C.1 C.2.1 d hne (kk H locs ls hP hD hS hl)
theorem r_ineg (C : Fx p s m args meth c cc nL own Ts D cl tys A) {x : Int32} (d : decode cc pc = .ok (.ineg, 1)) (kk : vW p l e R s m args below meth c D cl A Q nL cells slots w (lv) (pc + 1) (.int (-x) :: st)) : vW p l e R s m args below meth c D cl A Q nL cells slots w (lv) (pc) (.int x :: st) := fun H locs ls hP hD hS hl => lv_ineg C.1 C.2.1 d (kk H locs ls hP hD hS hl)
theorem r_i2l (C : Fx p s m args meth c cc nL own Ts D cl tys A) {x : Int32} (d : decode cc pc = .ok (.i2l, 1)) (kk : vW p l e R s m args below meth c D cl A Q nL cells slots w (lv) (pc + 1) (.long x.toInt64 :: st)) : vW p l e R s m args below meth c D cl A Q nL cells slots w (lv) (pc) (.int x :: st) := fun H locs ls hP hD hS hl => lv_i2l C.1 C.2.1 d rfl (kk H locs ls hP hD hS hl)
theorem r_i2b (C : Fx p s m args meth c cc nL own Ts D cl tys A) {x : Int32} (d : decode cc pc = .ok (.i2b, 1)) (kk : vW p l e R s m args below meth c D cl A Q nL cells slots w (lv) (pc + 1) (.int x.toInt8.toInt32 :: st)) : vW p l e R s m args below meth c D cl A Q nL cells slots w (lv) (pc) (.int x :: st) := fun H locs ls hP hD hS hl => lv_i2b C.1 C.2.1 d rfl (kk H locs ls hP hD hS hl)
theorem r_i2c (C : Fx p s m args meth c cc nL own Ts D cl tys A) {x : Int32} (d : decode cc pc = .ok (.i2c, 1)) (kk : vW p l e R s m args below meth c D cl A Q nL cells slots w (lv) (pc + 1) (.int (x.toUInt32 % 65536).toInt32 :: st)) : vW p l e R s m args below meth c D cl A Q nL cells slots w (lv) (pc) (.int x :: st) := fun H locs ls hP hD hS hl => lv_i2c C.1 C.2.1 d rfl (kk H locs ls hP hD hS hl)
theorem r_ishl (C : Fx p s m args meth c cc nL own Ts D cl tys A) {x y : Int32} (d : decode cc pc = .ok (.ishl, 1)) (kk : vW p l e R s m args below meth c D cl A Q nL cells slots w (lv) (pc + 1) (.int (x <<< (y &&& 31)) :: st)) : vW p l e R s m args below meth c D cl A Q nL cells slots w (lv) (pc) (.int y :: .int x :: st) := fun H locs ls hP hD hS hl => lv_ishl C.1 C.2.1 d (kk H locs ls hP hD hS hl)
theorem r_ishr (C : Fx p s m args meth c cc nL own Ts D cl tys A) {x y : Int32} (d : decode cc pc = .ok (.ishr, 1)) (kk : vW p l e R s m args below meth c D cl A Q nL cells slots w (lv) (pc + 1) (.int (x >>> (y &&& 31)) :: st)) : vW p l e R s m args below meth c D cl A Q nL cells slots w (lv) (pc) (.int y :: .int x :: st) := fun H locs ls hP hD hS hl => lv_ishr C.1 C.2.1 d (kk H locs ls hP hD hS hl)
theorem r_dup (C : Fx p s m args meth c cc nL own Ts D cl tys A) {va : Value} (d : decode cc pc = .ok (.dup, 1)) (h : va.category = 1) (kk : vW p l e R s m args below meth c D cl A Q nL cells slots w (lv) (pc + 1) (va :: va :: st)) : vW p l e R s m args below meth c D cl A Q nL cells slots w (lv) (pc) (va :: st) := fun H locs ls hP hD hS hl => lv_dup C.1 C.2.1 d h (kk H locs ls hP hD hS hl)
theorem r_pop (C : Fx p s m args meth c cc nL own Ts D cl tys A) {va : Value} (d : decode cc pc = .ok (.pop, 1)) (h : va.category = 1) (kk : vW p l e R s m args below meth c D cl A Q nL cells slots w (lv) (pc + 1) (st)) : vW p l e R s m args below meth c D cl A Q nL cells slots w (lv) (pc) (va :: st) := fun H locs ls hP hD hS hl => lv_pop C.1 C.2.1 d h (kk H locs ls hP hD hS hl)
theorem r_pop2 (C : Fx p s m args meth c cc nL own Ts D cl tys A) {va : Value} (d : decode cc pc = .ok (.pop2, 1)) (h : va.category = 2) (kk : vW p l e R s m args below meth c D cl A Q nL cells slots w (lv) (pc + 1) (st)) : vW p l e R s m args below meth c D cl A Q nL cells slots w (lv) (pc) (va :: st) := fun H locs ls hP hD hS hl => lv_pop2_2 C.1 C.2.1 d h (kk H locs ls hP hD hS hl)
theorem r_dup_x1 (C : Fx p s m args meth c cc nL own Ts D cl tys A) {va vb : Value} (d : decode cc pc = .ok (.dup_x1, 1)) (h : va.category = 1) (h2 : vb.category = 1) (kk : vW p l e R s m args below meth c D cl A Q nL cells slots w (lv) (pc + 1) (va :: vb :: va :: st)) : vW p l e R s m args below meth c D cl A Q nL cells slots w (lv) (pc) (va :: vb :: st) := fun H locs ls hP hD hS hl => lv_dup_x1 C.1 C.2.1 d h h2 (kk H locs ls hP hD hS hl)
theorem r_dup_x2 (C : Fx p s m args meth c cc nL own Ts D cl tys A) {va vb vd : Value} (d : decode cc pc = .ok (.dup_x2, 1)) (h : va.category = 1) (h2 : vb.category = 1) (h3 : vd.category = 1) (kk : vW p l e R s m args below meth c D cl A Q nL cells slots w (lv) (pc + 1) (va :: vb :: vd :: va :: st)) : vW p l e R s m args below meth c D cl A Q nL cells slots w (lv) (pc) (va :: vb :: vd :: st) := fun H locs ls hP hD hS hl => lv_dup_x2 C.1 C.2.1 d h h2 h3 (kk H locs ls hP hD hS hl)
theorem r_dup2 (C : Fx p s m args meth c cc nL own Ts D cl tys A) {va vb : Value} (d : decode cc pc = .ok (.dup2, 1)) (h : va.category = 1) (h2 : vb.category = 1) (kk : vW p l e R s m args below meth c D cl A Q nL cells slots w (lv) (pc + 1) (va :: vb :: va :: vb :: st)) : vW p l e R s m args below meth c D cl A Q nL cells slots w (lv) (pc) (va :: vb :: st) := fun H locs ls hP hD hS hl => lv_dup2_11 C.1 C.2.1 d h h2 (kk H locs ls hP hD hS hl)
theorem r_goto (C : Fx p s m args meth c cc nL own Ts D cl tys A) {off : Int} {tgt : Nat} (d : decode cc pc = .ok (.goto off, 3)) (ht : (pc : Int) + off = (tgt : Int)) (kk : vW p l e R s m args below meth c D cl A Q nL cells slots w (lv) (tgt) (st)) : vW p l e R s m args below meth c D cl A Q nL cells slots w (lv) (pc) (st) := fun H locs ls hP hD hS hl => lv_goto C.1 C.2.1 d ht (kk H locs ls hP hD hS hl)
theorem r_ifnullN (C : Fx p s m args meth c cc nL own Ts D cl tys A) {off : Int} {tgt : Nat} (d : decode cc pc = .ok (.ifnull off, 3)) (ht : (pc : Int) + off = (tgt : Int)) (kk : vW p l e R s m args below meth c D cl A Q nL cells slots w (lv) (tgt) (st)) : vW p l e R s m args below meth c D cl A Q nL cells slots w (lv) (pc) (.null :: st) := fun H locs ls hP hD hS hl => lv_ifnullN C.1 C.2.1 d ht (kk H locs ls hP hD hS hl)
theorem r_ifnull (C : Fx p s m args meth c cc nL own Ts D cl tys A) {x : Nat} {off : Int} (d : decode cc pc = .ok (.ifnull off, 3)) (kk : vW p l e R s m args below meth c D cl A Q nL cells slots w (lv) (pc + 3) (st)) : vW p l e R s m args below meth c D cl A Q nL cells slots w (lv) (pc) (.ref x :: st) := fun H locs ls hP hD hS hl => lv_ifnull C.1 C.2.1 d (kk H locs ls hP hD hS hl)
theorem r_ifnonnull (C : Fx p s m args meth c cc nL own Ts D cl tys A) {x : Nat} {off : Int} {tgt : Nat} (d : decode cc pc = .ok (.ifnonnull off, 3)) (ht : (pc : Int) + off = (tgt : Int)) (kk : vW p l e R s m args below meth c D cl A Q nL cells slots w (lv) (tgt) (st)) : vW p l e R s m args below meth c D cl A Q nL cells slots w (lv) (pc) (.ref x :: st) := fun H locs ls hP hD hS hl => lv_ifnonnull C.1 C.2.1 d ht (kk H locs ls hP hD hS hl)
theorem r_lookup (C : Fx p s m args meth c cc nL own Ts D cl tys A) {dflt : Int} {ps : Array (Int × Int)} {len : Nat} {x : Int32} {off : Int} {tgt : Nat} (d : decode cc pc = .ok (.lookupswitch dflt ps, len)) (hp : (ps.toList.zip (ps.toList.drop 1)).all (fun (a, next) => a.1 < next.1) = true) (ho : Op.lookupswitch.offset ps.toList dflt x.toInt = off) (ht : (pc : Int) + off = (tgt : Int)) (kk : vW p l e R s m args below meth c D cl A Q nL cells slots w (lv) (tgt) (st)) : vW p l e R s m args below meth c D cl A Q nL cells slots w (lv) (pc) (.int x :: st) := fun H locs ls hP hD hS hl => lv_lookup C.1 C.2.1 d hp ho ht (kk H locs ls hP hD hS hl)
theorem r_tableIn (C : Fx p s m args meth c cc nL own Ts D cl tys A) {dflt lo hi : Int} {offs : Array Int} {len : Nat} {x : Int32} {off : Int} {tgt : Nat} (d : decode cc pc = .ok (.tableswitch dflt lo hi offs, len)) (h1 : ¬ x.toInt < lo) (h2 : ¬ hi < x.toInt) (ho : offs[(x.toInt - lo).toNat]? = some off) (ht : (pc : Int) + off = (tgt : Int)) (kk : vW p l e R s m args below meth c D cl A Q nL cells slots w (lv) (tgt) (st)) : vW p l e R s m args below meth c D cl A Q nL cells slots w (lv) (pc) (.int x :: st) := fun H locs ls hP hD hS hl => lv_tableIn C.1 C.2.1 d h1 h2 ho ht (kk H locs ls hP hD hS hl)
theorem r_tableOut (C : Fx p s m args meth c cc nL own Ts D cl tys A) {dflt lo hi : Int} {offs : Array Int} {len : Nat} {x : Int32} {tgt : Nat} (d : decode cc pc = .ok (.tableswitch dflt lo hi offs, len)) (h : x.toInt < lo ∨ hi < x.toInt) (ht : (pc : Int) + dflt = (tgt : Int)) (kk : vW p l e R s m args below meth c D cl A Q nL cells slots w (lv) (tgt) (st)) : vW p l e R s m args below meth c D cl A Q nL cells slots w (lv) (pc) (.int x :: st) := fun H locs ls hP hD hS hl => lv_tableOut C.1 C.2.1 d h ht (kk H locs ls hP hD hS hl)
theorem r_iaddN (C : Fx p s m args meth c cc nL own Ts D cl tys A) {a b : Nat} (d : decode cc pc = .ok (.iadd, 1)) (kk : vW p l e R s m args below meth c D cl A Q nL cells slots w (lv) (pc + 1) (.int (nI (a + b)) :: st)) : vW p l e R s m args below meth c D cl A Q nL cells slots w (lv) (pc) (.int (nI b) :: .int (nI a) :: st) := fun H locs ls hP hD hS hl => lv_iadd C.1 C.2.1 d (by rw [nI_add]; exact (kk H locs ls hP hD hS hl))
theorem r_isubN (C : Fx p s m args meth c cc nL own Ts D cl tys A) {a b : Nat} (d : decode cc pc = .ok (.isub, 1)) (h : b ≤ a) (kk : vW p l e R s m args below meth c D cl A Q nL cells slots w (lv) (pc + 1) (.int (nI (a - b)) :: st)) : vW p l e R s m args below meth c D cl A Q nL cells slots w (lv) (pc) (.int (nI b) :: .int (nI a) :: st) := fun H locs ls hP hD hS hl => lv_isub C.1 C.2.1 d (by rw [pk_sub h]; exact (kk H locs ls hP hD hS hl))
theorem r_idivN (C : Fx p s m args meth c cc nL own Ts D cl tys A) {a b : Nat} (d : decode cc pc = .ok (.idiv, 1)) (ha : a < 2147483648) (h0 : 0 < b) (hb : b < 2147483648) (kk : vW p l e R s m args below meth c D cl A Q nL cells slots w (lv) (pc + 1) (.int (nI (a / b)) :: st)) : vW p l e R s m args below meth c D cl A Q nL cells slots w (lv) (pc) (.int (nI b) :: .int (nI a) :: st) := fun H locs ls hP hD hS hl => lv_idiv C.1 C.2.1 d (nI_ne0 h0 hb) (by rw [pk_div ha h0 hb]; exact (kk H locs ls hP hD hS hl))
theorem r_iremN (C : Fx p s m args meth c cc nL own Ts D cl tys A) {a b : Nat} (d : decode cc pc = .ok (.irem, 1)) (ha : a < 2147483648) (h0 : 0 < b) (hb : b < 2147483648) (kk : vW p l e R s m args below meth c D cl A Q nL cells slots w (lv) (pc + 1) (.int (nI (a % b)) :: st)) : vW p l e R s m args below meth c D cl A Q nL cells slots w (lv) (pc) (.int (nI b) :: .int (nI a) :: st) := fun H locs ls hP hD hS hl => lv_irem C.1 C.2.1 d (nI_ne0 h0 hb) (by rw [pk_rem ha h0 hb]; exact (kk H locs ls hP hD hS hl))
theorem r_iincN (C : Fx p s m args meth c cc nL own Ts D cl tys A) {k a : Nat} (d : decode cc pc = .ok (.iinc k 1, 3)) (h : lv[k]? = some (some (.int (nI a)))) (hn : k < nL) (hok : lvok lv k = true) (kk : vW p l e R s m args below meth c D cl A Q nL cells slots w (lv.set k (some (.int (nI (a + 1))))) (pc + 3) (st)) : vW p l e R s m args below meth c D cl A Q nL cells slots w (lv) (pc) (st) := r_iinc C d h (by rw [show Int32.ofInt 1 = (1 : Int32) from rfl, nI_1]) hn hok kk
theorem r_idecN (C : Fx p s m args meth c cc nL own Ts D cl tys A) {k a : Nat} (d : decode cc pc = .ok (.iinc k (-1), 3)) (h : lv[k]? = some (some (.int (nI (a + 1))))) (hn : k < nL) (hok : lvok lv k = true) (kk : vW p l e R s m args below meth c D cl A Q nL cells slots w (lv.set k (some (.int (nI a)))) (pc + 3) (st)) : vW p l e R s m args below meth c D cl A Q nL cells slots w (lv) (pc) (st) := r_iinc C d h (by rw [show Int32.ofInt (-1) = (-1 : Int32) from rfl]; exact pk_m1 a) hn hok kk
theorem r_idecP (C : Fx p s m args meth c cc nL own Ts D cl tys A) {k a : Nat} (d : decode cc pc = .ok (.iinc k (-1), 3)) (h : lv[k]? = some (some (.int (nI a)))) (h1 : 1 ≤ a) (hn : k < nL) (hok : lvok lv k = true) (kk : vW p l e R s m args below meth c D cl A Q nL cells slots w (lv.set k (some (.int (nI (a - 1))))) (pc + 3) (st)) : vW p l e R s m args below meth c D cl A Q nL cells slots w (lv) (pc) (st) := r_iinc C d h (by rw [show Int32.ofInt (-1) = (-1 : Int32) from rfl]; obtain ⟨b, rfl⟩ : ∃ b, a = b + 1 := ⟨a - 1, by omega⟩; exact pk_m1 b) hn hok kk
theorem nI_32 {a b : Nat} (ha : a < 4294967296) (hb : b < 4294967296) : nI a = nI b ↔ a = b := by
  constructor
  · intro h
    have h2 : (nI a).toBitVec.toNat = (nI b).toBitVec.toNat := by rw [h]
    rw [pk_tn ha, pk_tn hb] at h2
    exact h2
  · intro h
    rw [h]
theorem r_ic_eq (C : Fx p s m args meth c cc nL own Ts D cl tys A) {x y : Int32} {off : Int} {tgt : Nat} (d : decode cc pc = .ok (.if_icmp .eq off, 3)) (ht : (pc : Int) + off = (tgt : Int)) (kt : x = y → vW p l e R s m args below meth c D cl A Q nL cells slots w (lv) (tgt) (st)) (kf : ¬ x = y → vW p l e R s m args below meth c D cl A Q nL cells slots w (lv) (pc + 3) (st)) : vW p l e R s m args below meth c D cl A Q nL cells slots w (lv) (pc) (.int y :: .int x :: st) := fun H locs ls hP hD hS hl => lv_icmp_eq C.1 C.2.1 d ht (fun h => kt (h) H locs ls hP hD hS hl) (fun h => kf (h) H locs ls hP hD hS hl)
theorem r_if_eq (C : Fx p s m args meth c cc nL own Ts D cl tys A) {x : Int32} {off : Int} {tgt : Nat} (d : decode cc pc = .ok (.ifCond .eq off, 3)) (ht : (pc : Int) + off = (tgt : Int)) (kt : x = 0 → vW p l e R s m args below meth c D cl A Q nL cells slots w (lv) (tgt) (st)) (kf : ¬ x = 0 → vW p l e R s m args below meth c D cl A Q nL cells slots w (lv) (pc + 3) (st)) : vW p l e R s m args below meth c D cl A Q nL cells slots w (lv) (pc) (.int x :: st) := fun H locs ls hP hD hS hl => lv_if_eq C.1 C.2.1 d ht (fun h => kt (h) H locs ls hP hD hS hl) (fun h => kf (h) H locs ls hP hD hS hl)
theorem r_icN_eq (C : Fx p s m args meth c cc nL own Ts D cl tys A) {a b : Nat} (ha : a < 4294967296) (hb : b < 4294967296) {off : Int} {tgt : Nat} (d : decode cc pc = .ok (.if_icmp .eq off, 3)) (ht : (pc : Int) + off = (tgt : Int)) (kt : a = b → vW p l e R s m args below meth c D cl A Q nL cells slots w (lv) (tgt) (st)) (kf : a ≠ b → vW p l e R s m args below meth c D cl A Q nL cells slots w (lv) (pc + 3) (st)) : vW p l e R s m args below meth c D cl A Q nL cells slots w (lv) (pc) (.int (nI b) :: .int (nI a) :: st) := fun H locs ls hP hD hS hl => lv_icmp_eq C.1 C.2.1 d ht (fun h => kt ((nI_32 ha hb).mp h) H locs ls hP hD hS hl) (fun h => kf (fun q => h (by rw [q])) H locs ls hP hD hS hl)
theorem r_ifN_eq (C : Fx p s m args meth c cc nL own Ts D cl tys A) {a : Nat} (ha : a < 4294967296) {off : Int} {tgt : Nat} (d : decode cc pc = .ok (.ifCond .eq off, 3)) (ht : (pc : Int) + off = (tgt : Int)) (kt : a = 0 → vW p l e R s m args below meth c D cl A Q nL cells slots w (lv) (tgt) (st)) (kf : a ≠ 0 → vW p l e R s m args below meth c D cl A Q nL cells slots w (lv) (pc + 3) (st)) : vW p l e R s m args below meth c D cl A Q nL cells slots w (lv) (pc) (.int (nI a) :: st) := fun H locs ls hP hD hS hl => lv_if_eq C.1 C.2.1 d ht (fun h => kt ((nI_32 ha (by decide)).mp h) H locs ls hP hD hS hl) (fun h => kf (fun q => h (by rw [q]; rfl)) H locs ls hP hD hS hl)
theorem r_ic_ne (C : Fx p s m args meth c cc nL own Ts D cl tys A) {x y : Int32} {off : Int} {tgt : Nat} (d : decode cc pc = .ok (.if_icmp .ne off, 3)) (ht : (pc : Int) + off = (tgt : Int)) (kt : ¬ x = y → vW p l e R s m args below meth c D cl A Q nL cells slots w (lv) (tgt) (st)) (kf : x = y → vW p l e R s m args below meth c D cl A Q nL cells slots w (lv) (pc + 3) (st)) : vW p l e R s m args below meth c D cl A Q nL cells slots w (lv) (pc) (.int y :: .int x :: st) := fun H locs ls hP hD hS hl => lv_icmp_ne C.1 C.2.1 d ht (fun h => kt (h) H locs ls hP hD hS hl) (fun h => kf (h) H locs ls hP hD hS hl)
theorem r_if_ne (C : Fx p s m args meth c cc nL own Ts D cl tys A) {x : Int32} {off : Int} {tgt : Nat} (d : decode cc pc = .ok (.ifCond .ne off, 3)) (ht : (pc : Int) + off = (tgt : Int)) (kt : ¬ x = 0 → vW p l e R s m args below meth c D cl A Q nL cells slots w (lv) (tgt) (st)) (kf : x = 0 → vW p l e R s m args below meth c D cl A Q nL cells slots w (lv) (pc + 3) (st)) : vW p l e R s m args below meth c D cl A Q nL cells slots w (lv) (pc) (.int x :: st) := fun H locs ls hP hD hS hl => lv_if_ne C.1 C.2.1 d ht (fun h => kt (h) H locs ls hP hD hS hl) (fun h => kf (h) H locs ls hP hD hS hl)
theorem r_icN_ne (C : Fx p s m args meth c cc nL own Ts D cl tys A) {a b : Nat} (ha : a < 4294967296) (hb : b < 4294967296) {off : Int} {tgt : Nat} (d : decode cc pc = .ok (.if_icmp .ne off, 3)) (ht : (pc : Int) + off = (tgt : Int)) (kt : a ≠ b → vW p l e R s m args below meth c D cl A Q nL cells slots w (lv) (tgt) (st)) (kf : a = b → vW p l e R s m args below meth c D cl A Q nL cells slots w (lv) (pc + 3) (st)) : vW p l e R s m args below meth c D cl A Q nL cells slots w (lv) (pc) (.int (nI b) :: .int (nI a) :: st) := fun H locs ls hP hD hS hl => lv_icmp_ne C.1 C.2.1 d ht (fun h => kt (fun q => h (by rw [q])) H locs ls hP hD hS hl) (fun h => kf ((nI_32 ha hb).mp h) H locs ls hP hD hS hl)
theorem r_ifN_ne (C : Fx p s m args meth c cc nL own Ts D cl tys A) {a : Nat} (ha : a < 4294967296) {off : Int} {tgt : Nat} (d : decode cc pc = .ok (.ifCond .ne off, 3)) (ht : (pc : Int) + off = (tgt : Int)) (kt : a ≠ 0 → vW p l e R s m args below meth c D cl A Q nL cells slots w (lv) (tgt) (st)) (kf : a = 0 → vW p l e R s m args below meth c D cl A Q nL cells slots w (lv) (pc + 3) (st)) : vW p l e R s m args below meth c D cl A Q nL cells slots w (lv) (pc) (.int (nI a) :: st) := fun H locs ls hP hD hS hl => lv_if_ne C.1 C.2.1 d ht (fun h => kt (fun q => h (by rw [q]; rfl)) H locs ls hP hD hS hl) (fun h => kf ((nI_32 ha (by decide)).mp h) H locs ls hP hD hS hl)
theorem r_ic_lt (C : Fx p s m args meth c cc nL own Ts D cl tys A) {x y : Int32} {off : Int} {tgt : Nat} (d : decode cc pc = .ok (.if_icmp .lt off, 3)) (ht : (pc : Int) + off = (tgt : Int)) (kt : x < y → vW p l e R s m args below meth c D cl A Q nL cells slots w (lv) (tgt) (st)) (kf : ¬ x < y → vW p l e R s m args below meth c D cl A Q nL cells slots w (lv) (pc + 3) (st)) : vW p l e R s m args below meth c D cl A Q nL cells slots w (lv) (pc) (.int y :: .int x :: st) := fun H locs ls hP hD hS hl => lv_icmp_lt C.1 C.2.1 d ht (fun h => kt (h) H locs ls hP hD hS hl) (fun h => kf (h) H locs ls hP hD hS hl)
theorem r_if_lt (C : Fx p s m args meth c cc nL own Ts D cl tys A) {x : Int32} {off : Int} {tgt : Nat} (d : decode cc pc = .ok (.ifCond .lt off, 3)) (ht : (pc : Int) + off = (tgt : Int)) (kt : x < 0 → vW p l e R s m args below meth c D cl A Q nL cells slots w (lv) (tgt) (st)) (kf : ¬ x < 0 → vW p l e R s m args below meth c D cl A Q nL cells slots w (lv) (pc + 3) (st)) : vW p l e R s m args below meth c D cl A Q nL cells slots w (lv) (pc) (.int x :: st) := fun H locs ls hP hD hS hl => lv_if_lt C.1 C.2.1 d ht (fun h => kt (h) H locs ls hP hD hS hl) (fun h => kf (h) H locs ls hP hD hS hl)
theorem r_icN_lt (C : Fx p s m args meth c cc nL own Ts D cl tys A) {a b : Nat} (ha : a < 2147483648) (hb : b < 2147483648) {off : Int} {tgt : Nat} (d : decode cc pc = .ok (.if_icmp .lt off, 3)) (ht : (pc : Int) + off = (tgt : Int)) (kt : a < b → vW p l e R s m args below meth c D cl A Q nL cells slots w (lv) (tgt) (st)) (kf : b ≤ a → vW p l e R s m args below meth c D cl A Q nL cells slots w (lv) (pc + 3) (st)) : vW p l e R s m args below meth c D cl A Q nL cells slots w (lv) (pc) (.int (nI b) :: .int (nI a) :: st) := fun H locs ls hP hD hS hl => lv_icmp_lt C.1 C.2.1 d ht (fun h => kt ((nI_ltI ha hb).mp h) H locs ls hP hD hS hl) (fun h => kf (Nat.not_lt.mp (fun q => h ((nI_ltI ha hb).mpr q))) H locs ls hP hD hS hl)
theorem r_ifN_lt (C : Fx p s m args meth c cc nL own Ts D cl tys A) {a : Nat} (ha : a < 2147483648) {off : Int} {tgt : Nat} (d : decode cc pc = .ok (.ifCond .lt off, 3)) (ht : (pc : Int) + off = (tgt : Int)) (kt : False → vW p l e R s m args below meth c D cl A Q nL cells slots w (lv) (tgt) (st)) (kf : True → vW p l e R s m args below meth c D cl A Q nL cells slots w (lv) (pc + 3) (st)) : vW p l e R s m args below meth c D cl A Q nL cells slots w (lv) (pc) (.int (nI a) :: st) := fun H locs ls hP hD hS hl => lv_if_lt C.1 C.2.1 d ht (fun h => kt (Nat.not_lt_zero a ((nI_ltI ha (by decide : 0 < 2147483648)).mp h)) H locs ls hP hD hS hl) (fun h => kf (trivial) H locs ls hP hD hS hl)
theorem r_ic_ge (C : Fx p s m args meth c cc nL own Ts D cl tys A) {x y : Int32} {off : Int} {tgt : Nat} (d : decode cc pc = .ok (.if_icmp .ge off, 3)) (ht : (pc : Int) + off = (tgt : Int)) (kt : y ≤ x → vW p l e R s m args below meth c D cl A Q nL cells slots w (lv) (tgt) (st)) (kf : ¬ y ≤ x → vW p l e R s m args below meth c D cl A Q nL cells slots w (lv) (pc + 3) (st)) : vW p l e R s m args below meth c D cl A Q nL cells slots w (lv) (pc) (.int y :: .int x :: st) := fun H locs ls hP hD hS hl => lv_icmp_ge C.1 C.2.1 d ht (fun h => kt (h) H locs ls hP hD hS hl) (fun h => kf (h) H locs ls hP hD hS hl)
theorem r_if_ge (C : Fx p s m args meth c cc nL own Ts D cl tys A) {x : Int32} {off : Int} {tgt : Nat} (d : decode cc pc = .ok (.ifCond .ge off, 3)) (ht : (pc : Int) + off = (tgt : Int)) (kt : 0 ≤ x → vW p l e R s m args below meth c D cl A Q nL cells slots w (lv) (tgt) (st)) (kf : ¬ 0 ≤ x → vW p l e R s m args below meth c D cl A Q nL cells slots w (lv) (pc + 3) (st)) : vW p l e R s m args below meth c D cl A Q nL cells slots w (lv) (pc) (.int x :: st) := fun H locs ls hP hD hS hl => lv_if_ge C.1 C.2.1 d ht (fun h => kt (h) H locs ls hP hD hS hl) (fun h => kf (h) H locs ls hP hD hS hl)
theorem r_icN_ge (C : Fx p s m args meth c cc nL own Ts D cl tys A) {a b : Nat} (ha : a < 2147483648) (hb : b < 2147483648) {off : Int} {tgt : Nat} (d : decode cc pc = .ok (.if_icmp .ge off, 3)) (ht : (pc : Int) + off = (tgt : Int)) (kt : b ≤ a → vW p l e R s m args below meth c D cl A Q nL cells slots w (lv) (tgt) (st)) (kf : a < b → vW p l e R s m args below meth c D cl A Q nL cells slots w (lv) (pc + 3) (st)) : vW p l e R s m args below meth c D cl A Q nL cells slots w (lv) (pc) (.int (nI b) :: .int (nI a) :: st) := fun H locs ls hP hD hS hl => lv_icmp_ge C.1 C.2.1 d ht (fun h => kt ((nI_leI hb ha).mp h) H locs ls hP hD hS hl) (fun h => kf (Nat.not_le.mp (fun q => h ((nI_leI hb ha).mpr q))) H locs ls hP hD hS hl)
theorem r_ifN_ge (C : Fx p s m args meth c cc nL own Ts D cl tys A) {a : Nat} (ha : a < 2147483648) {off : Int} {tgt : Nat} (d : decode cc pc = .ok (.ifCond .ge off, 3)) (ht : (pc : Int) + off = (tgt : Int)) (kt : True → vW p l e R s m args below meth c D cl A Q nL cells slots w (lv) (tgt) (st)) (kf : False → vW p l e R s m args below meth c D cl A Q nL cells slots w (lv) (pc + 3) (st)) : vW p l e R s m args below meth c D cl A Q nL cells slots w (lv) (pc) (.int (nI a) :: st) := fun H locs ls hP hD hS hl => lv_if_ge C.1 C.2.1 d ht (fun h => kt (trivial) H locs ls hP hD hS hl) (fun h => kf (h ((nI_leI (by decide : 0 < 2147483648) ha).mpr (Nat.zero_le a))) H locs ls hP hD hS hl)
theorem r_ic_gt (C : Fx p s m args meth c cc nL own Ts D cl tys A) {x y : Int32} {off : Int} {tgt : Nat} (d : decode cc pc = .ok (.if_icmp .gt off, 3)) (ht : (pc : Int) + off = (tgt : Int)) (kt : y < x → vW p l e R s m args below meth c D cl A Q nL cells slots w (lv) (tgt) (st)) (kf : ¬ y < x → vW p l e R s m args below meth c D cl A Q nL cells slots w (lv) (pc + 3) (st)) : vW p l e R s m args below meth c D cl A Q nL cells slots w (lv) (pc) (.int y :: .int x :: st) := fun H locs ls hP hD hS hl => lv_icmp_gt C.1 C.2.1 d ht (fun h => kt (h) H locs ls hP hD hS hl) (fun h => kf (h) H locs ls hP hD hS hl)
theorem r_if_gt (C : Fx p s m args meth c cc nL own Ts D cl tys A) {x : Int32} {off : Int} {tgt : Nat} (d : decode cc pc = .ok (.ifCond .gt off, 3)) (ht : (pc : Int) + off = (tgt : Int)) (kt : 0 < x → vW p l e R s m args below meth c D cl A Q nL cells slots w (lv) (tgt) (st)) (kf : ¬ 0 < x → vW p l e R s m args below meth c D cl A Q nL cells slots w (lv) (pc + 3) (st)) : vW p l e R s m args below meth c D cl A Q nL cells slots w (lv) (pc) (.int x :: st) := fun H locs ls hP hD hS hl => lv_if_gt C.1 C.2.1 d ht (fun h => kt (h) H locs ls hP hD hS hl) (fun h => kf (h) H locs ls hP hD hS hl)
theorem r_icN_gt (C : Fx p s m args meth c cc nL own Ts D cl tys A) {a b : Nat} (ha : a < 2147483648) (hb : b < 2147483648) {off : Int} {tgt : Nat} (d : decode cc pc = .ok (.if_icmp .gt off, 3)) (ht : (pc : Int) + off = (tgt : Int)) (kt : b < a → vW p l e R s m args below meth c D cl A Q nL cells slots w (lv) (tgt) (st)) (kf : a ≤ b → vW p l e R s m args below meth c D cl A Q nL cells slots w (lv) (pc + 3) (st)) : vW p l e R s m args below meth c D cl A Q nL cells slots w (lv) (pc) (.int (nI b) :: .int (nI a) :: st) := fun H locs ls hP hD hS hl => lv_icmp_gt C.1 C.2.1 d ht (fun h => kt ((nI_ltI hb ha).mp h) H locs ls hP hD hS hl) (fun h => kf (Nat.not_lt.mp (fun q => h ((nI_ltI hb ha).mpr q))) H locs ls hP hD hS hl)
theorem r_ifN_gt (C : Fx p s m args meth c cc nL own Ts D cl tys A) {a : Nat} (ha : a < 2147483648) {off : Int} {tgt : Nat} (d : decode cc pc = .ok (.ifCond .gt off, 3)) (ht : (pc : Int) + off = (tgt : Int)) (kt : 0 < a → vW p l e R s m args below meth c D cl A Q nL cells slots w (lv) (tgt) (st)) (kf : a = 0 → vW p l e R s m args below meth c D cl A Q nL cells slots w (lv) (pc + 3) (st)) : vW p l e R s m args below meth c D cl A Q nL cells slots w (lv) (pc) (.int (nI a) :: st) := fun H locs ls hP hD hS hl => lv_if_gt C.1 C.2.1 d ht (fun h => kt ((nI_ltI (by decide : 0 < 2147483648) ha).mp h) H locs ls hP hD hS hl) (fun h => kf (Nat.eq_zero_of_not_pos (fun q => h ((nI_ltI (by decide : 0 < 2147483648) ha).mpr q))) H locs ls hP hD hS hl)
theorem r_ic_le (C : Fx p s m args meth c cc nL own Ts D cl tys A) {x y : Int32} {off : Int} {tgt : Nat} (d : decode cc pc = .ok (.if_icmp .le off, 3)) (ht : (pc : Int) + off = (tgt : Int)) (kt : x ≤ y → vW p l e R s m args below meth c D cl A Q nL cells slots w (lv) (tgt) (st)) (kf : ¬ x ≤ y → vW p l e R s m args below meth c D cl A Q nL cells slots w (lv) (pc + 3) (st)) : vW p l e R s m args below meth c D cl A Q nL cells slots w (lv) (pc) (.int y :: .int x :: st) := fun H locs ls hP hD hS hl => lv_icmp_le C.1 C.2.1 d ht (fun h => kt (h) H locs ls hP hD hS hl) (fun h => kf (h) H locs ls hP hD hS hl)
theorem r_if_le (C : Fx p s m args meth c cc nL own Ts D cl tys A) {x : Int32} {off : Int} {tgt : Nat} (d : decode cc pc = .ok (.ifCond .le off, 3)) (ht : (pc : Int) + off = (tgt : Int)) (kt : x ≤ 0 → vW p l e R s m args below meth c D cl A Q nL cells slots w (lv) (tgt) (st)) (kf : ¬ x ≤ 0 → vW p l e R s m args below meth c D cl A Q nL cells slots w (lv) (pc + 3) (st)) : vW p l e R s m args below meth c D cl A Q nL cells slots w (lv) (pc) (.int x :: st) := fun H locs ls hP hD hS hl => lv_if_le C.1 C.2.1 d ht (fun h => kt (h) H locs ls hP hD hS hl) (fun h => kf (h) H locs ls hP hD hS hl)
theorem r_icN_le (C : Fx p s m args meth c cc nL own Ts D cl tys A) {a b : Nat} (ha : a < 2147483648) (hb : b < 2147483648) {off : Int} {tgt : Nat} (d : decode cc pc = .ok (.if_icmp .le off, 3)) (ht : (pc : Int) + off = (tgt : Int)) (kt : a ≤ b → vW p l e R s m args below meth c D cl A Q nL cells slots w (lv) (tgt) (st)) (kf : b < a → vW p l e R s m args below meth c D cl A Q nL cells slots w (lv) (pc + 3) (st)) : vW p l e R s m args below meth c D cl A Q nL cells slots w (lv) (pc) (.int (nI b) :: .int (nI a) :: st) := fun H locs ls hP hD hS hl => lv_icmp_le C.1 C.2.1 d ht (fun h => kt ((nI_leI ha hb).mp h) H locs ls hP hD hS hl) (fun h => kf (Nat.not_le.mp (fun q => h ((nI_leI ha hb).mpr q))) H locs ls hP hD hS hl)
theorem r_ifN_le (C : Fx p s m args meth c cc nL own Ts D cl tys A) {a : Nat} (ha : a < 2147483648) {off : Int} {tgt : Nat} (d : decode cc pc = .ok (.ifCond .le off, 3)) (ht : (pc : Int) + off = (tgt : Int)) (kt : a = 0 → vW p l e R s m args below meth c D cl A Q nL cells slots w (lv) (tgt) (st)) (kf : 0 < a → vW p l e R s m args below meth c D cl A Q nL cells slots w (lv) (pc + 3) (st)) : vW p l e R s m args below meth c D cl A Q nL cells slots w (lv) (pc) (.int (nI a) :: st) := fun H locs ls hP hD hS hl => lv_if_le C.1 C.2.1 d ht (fun h => kt (Nat.le_zero.mp ((nI_leI ha (by decide : 0 < 2147483648)).mp h)) H locs ls hP hD hS hl) (fun h => kf (Nat.pos_of_ne_zero (fun q => h ((nI_leI ha (by decide : 0 < 2147483648)).mpr (Nat.le_of_eq q)))) H locs ls hP hD hS hl)
theorem r_widen {k n : Nat} (h1 : cells ≤ k) (h2 : slots ≤ n) (kk : vW p l e R s m args below meth c D cl A Q nL k n w (lv) (pc) (st)) : vW p l e R s m args below meth c D cl A Q nL cells slots w (lv) (pc) (st) := fun H locs ls hP hD hS hl => W.widen h1 h2 (kk H locs ls hP hD hS hl)
theorem r_lv {lv' : List (Option Value)} (hs : ∀ (i : Nat) (v : Value), lv'[i]? = some (some v) → lv[i]? = some (some v)) (kk : vW p l e R s m args below meth c D cl A Q nL cells slots w (lv') (pc) (st)) : vW p l e R s m args below meth c D cl A Q nL cells slots w (lv) (pc) (st) := fun H locs ls hP hD hS hl => kk H locs ls hP hD hS (hl.sub hs)
theorem r_w {w' : va_W} (h : w = w') (kk : vW p l e R s m args below meth c D cl A Q nL cells slots w' (lv) (pc) (st)) : vW p l e R s m args below meth c D cl A Q nL cells slots w (lv) (pc) (st) := h ▸ kk

/-- a smaller world -/
theorem r_sub {w' : va_W} (hP' : ∀ (H : Heap), va_P D cl w H → va_P D cl w' H) (hD' : va_D A w → va_D A w') (kk : vW p l e R s m args below meth c D cl A Q nL cells slots w' lv pc st) : vW p l e R s m args below meth c D cl A Q nL cells slots w lv pc st := fun H locs ls hP hD hS hl => kk H locs ls (hP' H hP) (hD' hD) hS hl
/-- what a method leaves -/
def vG (post : Option Value → va_W → Prop) (D : va_G) (cl : List vw_C) (A : Nat → Prop) : Array Value → State → Outcome → State → Prop := fun _ st oc t => (∃ (v : Option Value) (w' : va_W), oc = .returned v ∧ post v w' ∧ va_P D cl w' t.heap ∧ va_D A w') ∧ va_F A st t
def vGX (px : String → Prop) (D : va_G) (cl : List vw_C) (w : va_W) (A : Nat → Prop) : String → State → State → Prop := fun E st t => px E ∧ va_P D cl w t.heap ∧ va_F A st t
/-- what is known of the cells outside the world, and stays so -/
def Stb (X : (Nat → Prop) → State → Heap → Prop) : Prop := ∀ (A B : Nat → Prop) (u U : State) (H H1 : Heap), (∀ q, B q → A q) → u.WarmedH U.vm → (∀ a : Nat, a < H.size → ¬ A a → H1[a]? = H[a]?) → X A u H → X B U H1
def vPre (D : va_G) (cl : List vw_C) (tys : List (ClassId × FieldType)) (X : (Nat → Prop) → State → Heap → Prop) (sz : Nat) (w : va_W) (U : State) : Prop := U.heap.size = sz ∧ va_P D cl w U.heap ∧ va_K D cl tys U ∧ va_D (fun _ => True) w ∧ X (va_A w sz) U U.heap
/-- a method's contract: from the world w it returns v with a world w' ('post v w''), or throws a class E ('px E') and leaves w -/
def Ct (l : Launch) (y : MethodName) (ws : List Cond) (rm : Room) (D : va_G) (cl : List vw_C) (tys : List (ClassId × FieldType)) (X : (Nat → Prop) → State → Heap → Prop) (av : List Value) (w : va_W) (post : Option Value → va_W → Prop) (px : String → Prop) : Prop :=
  ∀ sz : Nat, vx_Met l y ws rm (va_Pc av (vPre D cl tys X sz w)) (vG post D cl (va_A w sz)) (vGX px D cl w (va_A w sz)) rm.cells rm.slots (va_A w sz)
theorem va_A_free {A0 : Nat → Prop} {w0 : va_W} {H1 H2 : Heap} {locs2 : List Loc} (hD : va_D A0 w0) (hS : va_S A0 H1 H2 locs2) (hA : ∀ q, H1.size ≤ q → A0 q) : ∀ q, va_A w0 H2.size q → A0 q := by
  intro q h
  rcases h with ⟨k, e, h⟩ | h
  · exact hD.2 k (q, e) h
  · exact hA q (Nat.le_trans hS.1 h)
/-- the frame g with q thrown over it, on pure data -/
def vX (p : Program) (l : Launch) (e : Env) (R : Room) (s : State) (m : MethodId) (args : Array Value) (below : List Frame) (meth : Method) (c : Code) (D : va_G) (cl : List vw_C) (A : Nat → Prop) (Q : State → Prop) (nL cells slots : Nat) (w : va_W) (lv : List (Option Value)) (pc : Nat) (st : List Value) (E : String) : Prop :=
  ∀ (H : Heap) (locs : List Loc) (ls : Array Slot) (q : Nat) (ce : Cell), va_P D cl w H → va_D A w → va_S A s.heap H locs → lvh ls nL lv → H[q]? = some ce → ce.vm = .none → s.vm.findClass E = some ce.cls → vx_W p l e R s m args below meth c H locs cells slots Q (F0 m pc ls st) q
theorem vPre_blind {D : va_G} {cl : List vw_C} {tys : List (ClassId × FieldType)} {X : (Nat → Prop) → State → Heap → Prop} (hX : Stb X) (av : List Value) (sz : Nat) (w : va_W) : FrameBlind (va_Pc av (vPre D cl tys X sz w)) := by
  intro a U g mk q
  obtain ⟨q0, q1, q2, q3, q4, q5⟩ := q
  exact ⟨q0, q1, q2, va_K.moved (u := U) (U := U.calling g mk a) (Vm.Alike.refl U.vm) q3, q4, hX _ _ U (U.calling g mk a) _ _ (fun _ h => h) (State.WarmedH.refl U) (fun _ _ _ => rfl) q5⟩
theorem vPre_at {X : (Nat → Prop) → State → Heap → Prop} (hX : Stb X) {H : Heap} {locs : List Loc} (C : Fx p s m args meth c cc nL own Ts D cl tys A) (hE : X A s s.heap) (hP : va_P D cl w H) (hD : va_D A w) (hS : va_S A s.heap H locs) (U : State) (hU : U.heap = H) (hW : s.WarmedH U.vm) : vPre D cl tys X H.size w U := by
  refine ⟨by rw [hU], by rw [hU]; exact hP, va_K.moved hW.alike C.2.2.2.2.2.1, ⟨hD.1, fun _ _ _ => trivial⟩, ?_⟩
  rw [hU]
  exact hX A _ s U s.heap H (va_A_free hD hS C.2.2.2.2.2.2.2) hW (fun a h1 h2 => hS.2.1 a h1 h2) hE
theorem r_run {post : Option Value → va_W → Prop} {px : String → Prop} {mc ms : Nat} {st0 : List Value} {ar : Array Value}
    (C : Fx p s m args meth c cc nL own Ts D cl tys A)
    (hr : ∀ (H : Heap) (locs : List Loc) (ls : Array Slot), va_P D cl w H → va_D A w → va_S A s.heap H locs → lvh ls nL lv → vx_Run p l e R s m args below meth c H locs cells slots mc ms (F0 m pc ls st0) st (vG post D cl (va_A w H.size) ar) (vGX px D cl w (va_A w H.size)) (va_A w H.size))
    (kk : ∀ (v : Option Value) (w' : va_W), post v w' → vW p l e R s m args below meth c D cl A Q nL (cells + mc) (slots + ms) w' lv (pc + 3) (v.toList ++ st))
    (kx : ∀ E : String, px E → vX p l e R s m args below meth c D cl A Q nL (cells + mc) (slots + ms) w lv pc st E) : vW p l e R s m args below meth c D cl A Q nL cells slots w lv pc st0 := by
  intro H locs ls hP hD hS hl T hT X
  have hF := va_A_free hD hS C.2.2.2.2.2.2.2
  rcases hr H locs ls hP hD hS hl T hT X with ⟨v, st₀, t, T', L, h0, X', hL, e1, e2, ⟨⟨v', w', hv, hp, hP1, hD1⟩, hF1⟩, stp⟩ | ⟨q, st₀, t, T', L, E, ce, h0, X', hL, e1, e2, ⟨hp, hP1, hF1⟩, hce, hcv, hcl, stp⟩
  · obtain ⟨k1, k2, k3⟩ := vx_keep h0 e1 hS (fun q _ h => hF q h) (fun q h => hF q h) hL hF1
    cases hv
    obtain ⟨t2, a1, b1⟩ := kk v w' hp T'.heap (locs ++ L) ls (by rw [e1]; exact hP1) ⟨hD1.1, fun k q h => hF _ (hD1.2 k q h)⟩ k3 hl T' rfl X'
    exact ⟨t2, stp t2 a1, b1⟩
  · obtain ⟨k1, k2, k3⟩ := vx_keep h0 e1 hS (fun q _ h => hF q h) (fun q h => hF q h) hL hF1
    obtain ⟨t2, a1, b1⟩ := kx E hp T'.heap (locs ++ L) ls q ce (by rw [e1]; exact hP1) hD k3 hl (by rw [e1]; exact hce) hcv hcl T' rfl X'
    exact ⟨t2, stp.trans a1, b1⟩
theorem r_callV {X : (Nat → Prop) → State → Heap → Prop} {post : Option Value → va_W → Prop} {px : String → Prop} {y : MethodName} {bytes : ByteArray} {maxL index n b : Nat} {ret : Option FieldType} {ws : List Cond} {rm : Room} {Cn : String} {As st0 : List Value}
    (hX : Stb X) (C : Fx p s m args meth c cc nL own Ts D cl tys A) (hE : X A s s.heap) (ct : Ct l y ws rm D cl tys X (.ref b :: As) w post px) (cw : CallW R s args own Cn index y bytes maxL ret ws rm rm.cells rm.slots n)
    (q0 ci : Nat) {fs : List Value} {q : vw_C} (hc : cl[ci]? = some q) (hq : q.1 = Cn) (he : w[q0]? = some (b, .inr (ci, fs))) (hn : As.length = n) (hstack : st0 = As.reverse ++ .ref b :: st) (hcat : (st.map fun v => v.category).sum ≤ 8)
    (d : decode cc pc = .ok (.invokevirtual index, 3)) (hf : cells + rm.cells ≤ R.cells ∧ slots + rm.slots ≤ R.slots)
    (kk : ∀ (v : Option Value) (w' : va_W), post v w' → vW p l e R s m args below meth c D cl A Q nL (cells + rm.cells) (slots + rm.slots) w' lv (pc + 3) (v.toList ++ st))
    (kx : ∀ E : String, px E → vX p l e R s m args below meth c D cl A Q nL (cells + rm.cells) (slots + rm.slots) w lv pc st E) : vW p l e R s m args below meth c D cl A Q nL cells slots w lv pc st0 := by
  subst hq
  exact r_run C (fun H locs ls hP hD hS hl => vx_runV (As := As) (rest := st) (g := F0 m pc ls st0) ⟨C.1, C.2.1, C.2.2.1, C.2.2.2.1, C.2.2.2.2.1⟩ (ct H.size) cw ⟨vPre_blind hX _ _ _, va_recv C.2.2.2.2.2.1 hP hc he, fun U hU hW => ⟨rfl, vPre_at hX C hE hP hD hS U hU hW⟩⟩ rfl hn hl.1 hstack (lv_room hcat) d hf) kk kx
theorem r_callS {X : (Nat → Prop) → State → Heap → Prop} {post : Option Value → va_W → Prop} {px : String → Prop} {y : MethodName} {bytes : ByteArray} {maxL index n : Nat} {ret : Option FieldType} {ws : List Cond} {rm : Room} {As st0 : List Value}
    (hX : Stb X) (C : Fx p s m args meth c cc nL own Ts D cl tys A) (hE : X A s s.heap) (ct : Ct l y ws rm D cl tys X As w post px) (cw : CallB R s args own index y bytes maxL ret ws rm rm.cells rm.slots n ∧ (Cond.static y).before args s = true)
    (hn : As.length = n) (hstack : st0 = As.reverse ++ st) (hcat : (st.map fun v => v.category).sum ≤ 8)
    (d : decode cc pc = .ok (.invokestatic index, 3)) (hf : cells + rm.cells ≤ R.cells ∧ slots + rm.slots ≤ R.slots)
    (kk : ∀ (v : Option Value) (w' : va_W), post v w' → vW p l e R s m args below meth c D cl A Q nL (cells + rm.cells) (slots + rm.slots) w' lv (pc + 3) (v.toList ++ st))
    (kx : ∀ E : String, px E → vX p l e R s m args below meth c D cl A Q nL (cells + rm.cells) (slots + rm.slots) w lv pc st E) : vW p l e R s m args below meth c D cl A Q nL cells slots w lv pc st0 :=
  r_run C (fun H locs ls hP hD hS hl => vx_runS (As := As) (rest := st) (g := F0 m pc ls st0) ⟨C.1, C.2.1, C.2.2.1, C.2.2.2.1, C.2.2.2.2.1⟩ (ct H.size) cw ⟨vPre_blind hX _ _ _, fun U hU hW => ⟨rfl, vPre_at hX C hE hP hD hS U hU hW⟩⟩ rfl hn hl.1 hstack (lv_room hcat) d hf) kk kx
/-- ends -/
theorem r_iret {post : Option Value → va_W → Prop} {px : String → Prop} {w0 : va_W} {mc ms : Nat} {v : Int32} (C : Fx p s m args meth c cc nL own Ts D cl tys A) (hr : meth.sig.returnType = some .int) (d : decode cc pc = .ok (.ireturn, 1)) (hp : post (some (.int v)) w) (h1 : cells ≤ mc) (h2 : slots ≤ ms) :
    vW p l e R s m args below meth c D cl A (vx_MQ below (vG post D cl A) (vGX px D cl w0 A) args s mc ms A) nL cells slots w lv pc [.int v] := fun H locs ls hP hD hS hl =>
  W.widen h1 h2 (vx_ret (W.iret C.1 C.2.1 hr (fun t ht hW => ⟨⟨_, w, rfl, hp, by rw [ht]; exact hP, hD⟩, hS.F ht⟩) hS.2.2 d C.2.2.2.2.2.2.1))
theorem r_zret {post : Option Value → va_W → Prop} {px : String → Prop} {w0 : va_W} {mc ms a : Nat} (C : Fx p s m args meth c cc nL own Ts D cl tys A) (hr : meth.sig.returnType = some .boolean) (ha : a ≤ 1) (d : decode cc pc = .ok (.ireturn, 1)) (hp : post (some (.int (nI a))) w) (h1 : cells ≤ mc) (h2 : slots ≤ ms) :
    vW p l e R s m args below meth c D cl A (vx_MQ below (vG post D cl A) (vGX px D cl w0 A) args s mc ms A) nL cells slots w lv pc [.int (nI a)] := fun H locs ls hP hD hS hl =>
  W.widen h1 h2 (vx_ret (W.zret C.1 C.2.1 hr (by rcases (show a = 0 ∨ a = 1 by omega) with rfl | rfl <;> rfl) (fun t ht hW => ⟨⟨_, w, rfl, hp, by rw [ht]; exact hP, hD⟩, hS.F ht⟩) hS.2.2 d C.2.2.2.2.2.2.1))
theorem r_lret {post : Option Value → va_W → Prop} {px : String → Prop} {w0 : va_W} {mc ms : Nat} {v : Int64} (C : Fx p s m args meth c cc nL own Ts D cl tys A) (hr : meth.sig.returnType = some .long) (d : decode cc pc = .ok (.lreturn, 1)) (hp : post (some (.long v)) w) (h1 : cells ≤ mc) (h2 : slots ≤ ms) :
    vW p l e R s m args below meth c D cl A (vx_MQ below (vG post D cl A) (vGX px D cl w0 A) args s mc ms A) nL cells slots w lv pc [.long v] := fun H locs ls hP hD hS hl =>
  W.widen h1 h2 (vx_ret (W.lret C.1 C.2.1 hr (fun t ht hW => ⟨⟨_, w, rfl, hp, by rw [ht]; exact hP, hD⟩, hS.F ht⟩) hS.2.2 d C.2.2.2.2.2.2.1))
theorem r_vret {post : Option Value → va_W → Prop} {px : String → Prop} {w0 : va_W} {mc ms : Nat} (C : Fx p s m args meth c cc nL own Ts D cl tys A) (hr : meth.sig.returnType = none) (d : decode cc pc = .ok (.return_, 1)) (hp : post none w) (h1 : cells ≤ mc) (h2 : slots ≤ ms) :
    vW p l e R s m args below meth c D cl A (vx_MQ below (vG post D cl A) (vGX px D cl w0 A) args s mc ms A) nL cells slots w lv pc [] := fun H locs ls hP hD hS hl =>
  W.widen h1 h2 (vx_ret (W.vret C.1 C.2.1 hr (fun t ht hW => ⟨⟨_, w, rfl, hp, by rw [ht]; exact hP, hD⟩, hS.F ht⟩) hS.2.2 d C.2.2.2.2.2.2.1))
theorem r_aret {post : Option Value → va_W → Prop} {px : String → Prop} {w0 : va_W} {mc ms a : Nat} {rt : FieldType} (C : Fx p s m args meth c cc nL own Ts D cl tys A) (hr : meth.sig.returnType = some rt) (hrt : (∃ n, rt = .object n) ∨ ∃ t, rt = .array t) (d : decode cc pc = .ok (.areturn, 1)) (hp : post (some (.ref a)) w) (h1 : cells ≤ mc) (h2 : slots ≤ ms) :
    vW p l e R s m args below meth c D cl A (vx_MQ below (vG post D cl A) (vGX px D cl w0 A) args s mc ms A) nL cells slots w lv pc [.ref a] := fun H locs ls hP hD hS hl =>
  W.widen h1 h2 (vx_ret (W.aret C.1 C.2.1 hr hrt (Or.inr ⟨a, rfl⟩) (fun t ht hW => ⟨⟨_, w, rfl, hp, by rw [ht]; exact hP, hD⟩, hS.F ht⟩) hS.2.2 d C.2.2.2.2.2.2.1))
/-- a throw leaves a method without a table -/
theorem r_out {post : Option Value → va_W → Prop} {px : String → Prop} {w0 : va_W} {mc ms : Nat} {E : String} (C : Fx p s m args meth c cc nL own Ts D cl tys A) (hnt : ∀ x ∈ c.exceptionTable.toList, False) (hw : w = w0) (hp : px E) (h1 : cells ≤ mc) (h2 : slots ≤ ms) :
    vX p l e R s m args below meth c D cl A (vx_MQ below (vG post D cl A) (vGX px D cl w0 A) args s mc ms A) nL cells slots w lv pc st E := fun H locs ls q ce hP hD hS hl h3 h4 h5 =>
  vx_out (fun x hx => (hnt x hx).elim) C.2.2.2.2.2.2.1 h3 h4 h5 (fun t ht hW => ⟨hp, by rw [ht]; subst hw; exact hP, hS.F ht⟩) hS.2.2 h1 h2
theorem r_noX {E : String} (h : False) : vX p l e R s m args below meth c D cl A Q nL cells slots w lv pc st E := h.elim
end VF
/-- a body gives its contract -/
theorem Ct.of {l : Launch} {y : MethodName} {ws ws' : List Cond} {rm : Room} {D : va_G} {cl : List vw_C} {tys : List (ClassId × FieldType)} {X : (Nat → Prop) → State → Heap → Prop} {av : List Value} {w : va_W} {post : Option Value → va_W → Prop} {px : String → Prop} {cc : ByteArray} {maxL : Nat} {ret : Option FieldType} {lv : List (Option Value)}
    (hy : plainName y.cls = true) (hw : ws = Cond.code y cc maxL ret :: ws') (hlv : lvl 0 lv = lv_args 0 av) (hlen : (lg_sl av).length ≤ maxL)
    (body : ∀ (p : Program) (e : Env) (s : State) (m : MethodId) (args : Array Value) (below : List Frame) (meth : Method) (c : Code) (A : Nat → Prop), Fx p s m args meth c cc maxL y.cls ws D cl tys A → X A s s.heap → meth.sig.returnType = ret → (∀ x ∈ c.exceptionTable.toList, False) → meth.name = y.name →
      vW p l e rm s m args below meth c D cl A (vx_MQ below (vG post D cl A) (vGX px D cl w A) args s rm.cells rm.slots A) maxL 0 0 w lv 0 []) : Ct l y ws rm D cl tys X av w post px := by
  intro sz
  refine vx_ofW (cc := cc) (maxL := maxL) (ret := ret) hy hw ?_
  intro p e s m args below meth c s₁ B hml hnt hv
  obtain ⟨rfl, hsz, hP, hK, hD0, hX⟩ := hv
  subst hsz
  have hts := atoms_spec (ws := ws) B.pre
  have hown : s.vm.findClass y.cls = some m.cls := findClass_of_methodNamed B.named
  have hD : va_D (va_A w s.heap.size) w := hD0.self
  rw [lg_entry_eq]
  exact body p e s m av.toArray below meth c (va_A w s.heap.size) ⟨B.exec, B.bytes, hml, hown, hts, hK, B.notSynchronized, fun q h => Or.inr h⟩ hX B.returns hnt (name_of_methodNamed B.named B.method).1 s.heap [] _ hP hD va_S.rf (lvh.of (lv_entry av hlen) hlv)
end PT_03
/-! ===== 04.names -/
section PT_04
/-! names of classes, fields, methods -/
def RX0 : String := "Splicemonoid$Cursor"
def TX0 : u_T := fun k => match k with
  | 0 => ("Splicemonoid$Cursor", "where", "I", false)
  | 1 => ("Splicemonoid$Cursor", "index", "I", false)
  | 2 => ("Splicemonoid$Cursor", "last", "I", false)
  | _ => ("Splicemonoid$Cursor", "isThere", "Z", false)
def tyX0 : Nat → FieldType := fun k => match k with
  | 0 => .int
  | 1 => .int
  | 2 => .int
  | _ => .boolean
theorem nmX0 : ∀ a, a < 4 → ∀ b, b < 4 → a ≠ b → (TX0 a).2.1 ≠ (TX0 b).2.1 := by decide +kernel
theorem tyX0_ok : ∀ k, k < 4 → parseFieldDescriptor (TX0 k).2.2.1 = some (tyX0 k) := by decide +kernel
abbrev cX0_init : ByteArray := prog_2_method_1_code
def yX0_init : MethodName := ⟨RX0, "<init>", "()V"⟩
abbrev cX0_beginAt : ByteArray := prog_2_method_2_code
def yX0_beginAt : MethodName := ⟨RX0, "beginAt", "(II)V"⟩
abbrev cX0_goForth : ByteArray := prog_2_method_3_code
def yX0_goForth : MethodName := ⟨RX0, "goForth", "(LSplicemonoid$Part;)I"⟩
abbrev cX0_goBack : ByteArray := prog_2_method_4_code
def yX0_goBack : MethodName := ⟨RX0, "goBack", "(LSplicemonoid$Part;)I"⟩
def RX1 : String := "Splicemonoid$Part"
def TX1 : u_T := fun k => match k with
  | 0 => ("Splicemonoid$Part", "items", "[I", false)
  | 1 => ("Splicemonoid$Part", "row", "I", false)
  | 2 => ("Splicemonoid$Part", "ground", "I", false)
  | 3 => ("Splicemonoid$Part", "start", "I", false)
  | 4 => ("Splicemonoid$Part", "length", "I", false)
  | _ => ("Splicemonoid$Part", "isThere", "Z", false)
def tyX1 : Nat → FieldType := fun k => match k with
  | 0 => .array .int
  | 1 => .int
  | 2 => .int
  | 3 => .int
  | 4 => .int
  | _ => .boolean
theorem nmX1 : ∀ a, a < 6 → ∀ b, b < 6 → a ≠ b → (TX1 a).2.1 ≠ (TX1 b).2.1 := by decide +kernel
theorem tyX1_ok : ∀ k, k < 6 → parseFieldDescriptor (TX1 k).2.2.1 = some (tyX1 k) := by decide +kernel
abbrev cX1_init : ByteArray := prog_3_method_1_code
def yX1_init : MethodName := ⟨RX1, "<init>", "(I[IZ)V"⟩
abbrev cX1_lookAt : ByteArray := prog_3_method_2_code
def yX1_lookAt : MethodName := ⟨RX1, "lookAt", "(LSplicemonoid$Part;III)V"⟩
abbrev cX1_isGap : ByteArray := prog_3_method_3_code
def yX1_isGap : MethodName := ⟨RX1, "isGap", "(I)Z"⟩
abbrev cX1_isStretch : ByteArray := prog_3_method_4_code
def yX1_isStretch : MethodName := ⟨RX1, "isStretch", "(II)Z"⟩
abbrev cX1_itemAt : ByteArray := prog_3_method_5_code
def yX1_itemAt : MethodName := ⟨RX1, "itemAt", "(I)I"⟩
abbrev cX1_putAt : ByteArray := prog_3_method_6_code
def yX1_putAt : MethodName := ⟨RX1, "putAt", "(II)V"⟩
abbrev cX1_firstItem : ByteArray := prog_3_method_7_code
def yX1_firstItem : MethodName := ⟨RX1, "firstItem", "()I"⟩
abbrev cX1_append : ByteArray := prog_3_method_8_code
def yX1_append : MethodName := ⟨RX1, "append", "(I)V"⟩
abbrev cX1_becomeLike : ByteArray := prog_3_method_9_code
def yX1_becomeLike : MethodName := ⟨RX1, "becomeLike", "(LSplicemonoid$Part;)V"⟩
abbrev cX1_exchangeTwo : ByteArray := prog_3_method_10_code
def yX1_exchangeTwo : MethodName := ⟨RX1, "exchangeTwo", "(II)V"⟩
abbrev cX1_turn : ByteArray := prog_3_method_11_code
def yX1_turn : MethodName := ⟨RX1, "turn", "(II)V"⟩
abbrev cX1_moveUp : ByteArray := prog_3_method_12_code
def yX1_moveUp : MethodName := ⟨RX1, "moveUp", "(ILSplicemonoid$Part;)V"⟩
abbrev cX1_layHalvesTogether : ByteArray := prog_3_method_13_code
def yX1_layHalvesTogether : MethodName := ⟨RX1, "layHalvesTogether", "(LSplicemonoid$Part;)V"⟩
abbrev cX1_drawHalvesApart : ByteArray := prog_3_method_14_code
def yX1_drawHalvesApart : MethodName := ⟨RX1, "drawHalvesApart", "(LSplicemonoid$Part;)V"⟩
abbrev cX1_arrange : ByteArray := prog_3_method_15_code
def yX1_arrange : MethodName := ⟨RX1, "arrange", "(I)V"⟩
abbrev cX1_rank : ByteArray := prog_3_method_16_code
def yX1_rank : MethodName := ⟨RX1, "rank", "(II)I"⟩
abbrev cX1_firstPlaceOf : ByteArray := prog_3_method_17_code
def yX1_firstPlaceOf : MethodName := ⟨RX1, "firstPlaceOf", "(I)I"⟩
abbrev cX1_has : ByteArray := prog_3_method_18_code
def yX1_has : MethodName := ⟨RX1, "has", "(I)Z"⟩
abbrev cX1_standsAt : ByteArray := prog_3_method_19_code
def yX1_standsAt : MethodName := ⟨RX1, "standsAt", "(ILSplicemonoid$Part;)Z"⟩
abbrev cX1_placeOfAll : ByteArray := prog_3_method_20_code
def yX1_placeOfAll : MethodName := ⟨RX1, "placeOfAll", "(LSplicemonoid$Part;)I"⟩
abbrev cX1_isLike : ByteArray := prog_3_method_21_code
def yX1_isLike : MethodName := ⟨RX1, "isLike", "(LSplicemonoid$Part;)Z"⟩
abbrev cX1_hashOfItems : ByteArray := prog_3_method_22_code
def yX1_hashOfItems : MethodName := ⟨RX1, "hashOfItems", "()I"⟩
abbrev cX1_writeTo : ByteArray := prog_3_method_23_code
def yX1_writeTo : MethodName := ⟨RX1, "writeTo", "(Ljava/lang/StringBuilder;)V"⟩
def RX2 : String := "Splicemonoid"
def TX2 : u_T := fun k => match k with
  | 0 => ("Splicemonoid", "parts", "[LSplicemonoid$Part;", true)
  | 1 => ("Splicemonoid", "cursors", "[LSplicemonoid$Cursor;", true)
  | 2 => ("Splicemonoid", "spare", "LSplicemonoid$Part;", true)
  | 3 => ("Splicemonoid", "left", "LSplicemonoid$Part;", true)
  | 4 => ("Splicemonoid", "right", "LSplicemonoid$Part;", true)
  | _ => ("Splicemonoid", "knocks", "I", false)
def tyX2 : Nat → FieldType := fun k => match k with
  | 0 => .array (.object "Splicemonoid$Part")
  | 1 => .array (.object "Splicemonoid$Cursor")
  | 2 => .object "Splicemonoid$Part"
  | 3 => .object "Splicemonoid$Part"
  | 4 => .object "Splicemonoid$Part"
  | _ => .int
theorem nmX2 : ∀ a, a < 6 → ∀ b, b < 6 → a ≠ b → (TX2 a).2.1 ≠ (TX2 b).2.1 := by decide +kernel
theorem tyX2_ok : ∀ k, k < 6 → parseFieldDescriptor (TX2 k).2.2.1 = some (tyX2 k) := by decide +kernel
abbrev cX2_init : ByteArray := prog_1_method_1_code
def yX2_init : MethodName := ⟨RX2, "<init>", "()V"⟩
abbrev cX2_add : ByteArray := prog_1_method_2_code
def yX2_add : MethodName := ⟨RX2, "add", "(II)I"⟩
abbrev cX2_insert : ByteArray := prog_1_method_3_code
def yX2_insert : MethodName := ⟨RX2, "insert", "(III)I"⟩
abbrev cX2_set : ByteArray := prog_1_method_4_code
def yX2_set : MethodName := ⟨RX2, "set", "(III)I"⟩
abbrev cX2_remove : ByteArray := prog_1_method_5_code
def yX2_remove : MethodName := ⟨RX2, "remove", "(II)I"⟩
abbrev cX2_clear : ByteArray := prog_1_method_6_code
def yX2_clear : MethodName := ⟨RX2, "clear", "(I)I"⟩
abbrev cX2_splice : ByteArray := prog_1_method_7_code
def yX2_splice : MethodName := ⟨RX2, "splice", "(IIII)I"⟩
abbrev cX2_rotate : ByteArray := prog_1_method_8_code
def yX2_rotate : MethodName := ⟨RX2, "rotate", "(II)I"⟩
abbrev cX2_reverse : ByteArray := prog_1_method_9_code
def yX2_reverse : MethodName := ⟨RX2, "reverse", "(I)I"⟩
abbrev cX2_swap : ByteArray := prog_1_method_10_code
def yX2_swap : MethodName := ⟨RX2, "swap", "(III)I"⟩
abbrev cX2_riffle : ByteArray := prog_1_method_11_code
def yX2_riffle : MethodName := ⟨RX2, "riffle", "(I)I"⟩
abbrev cX2_unriffle : ByteArray := prog_1_method_12_code
def yX2_unriffle : MethodName := ⟨RX2, "unriffle", "(I)I"⟩
abbrev cX2_sort : ByteArray := prog_1_method_13_code
def yX2_sort : MethodName := ⟨RX2, "sort", "(I)I"⟩
abbrev cX2_sortBy : ByteArray := prog_1_method_14_code
def yX2_sortBy : MethodName := ⟨RX2, "sortBy", "(II)I"⟩
abbrev cX2_get : ByteArray := prog_1_method_15_code
def yX2_get : MethodName := ⟨RX2, "get", "(II)I"⟩
abbrev cX2_size : ByteArray := prog_1_method_16_code
def yX2_size : MethodName := ⟨RX2, "size", "(I)I"⟩
abbrev cX2_partAt : ByteArray := prog_1_method_17_code
def yX2_partAt : MethodName := ⟨RX2, "partAt", "(II)I"⟩
abbrev cX2_fill : ByteArray := prog_1_method_18_code
def yX2_fill : MethodName := ⟨RX2, "fill", "(II)I"⟩
abbrev cX2_removeItem : ByteArray := prog_1_method_19_code
def yX2_removeItem : MethodName := ⟨RX2, "removeItem", "(II)I"⟩
abbrev cX2_addAll : ByteArray := prog_1_method_20_code
def yX2_addAll : MethodName := ⟨RX2, "addAll", "(III)I"⟩
abbrev cX2_removeAll : ByteArray := prog_1_method_21_code
def yX2_removeAll : MethodName := ⟨RX2, "removeAll", "(II)I"⟩
abbrev cX2_retainAll : ByteArray := prog_1_method_22_code
def yX2_retainAll : MethodName := ⟨RX2, "retainAll", "(II)I"⟩
abbrev cX2_copy : ByteArray := prog_1_method_23_code
def yX2_copy : MethodName := ⟨RX2, "copy", "(II)I"⟩
abbrev cX2_places : ByteArray := prog_1_method_24_code
def yX2_places : MethodName := ⟨RX2, "places", "(II)I"⟩
abbrev cX2_through : ByteArray := prog_1_method_25_code
def yX2_through : MethodName := ⟨RX2, "through", "(III)I"⟩
abbrev cX2_indexOf : ByteArray := prog_1_method_26_code
def yX2_indexOf : MethodName := ⟨RX2, "indexOf", "(II)I"⟩
abbrev cX2_lastIndexOf : ByteArray := prog_1_method_27_code
def yX2_lastIndexOf : MethodName := ⟨RX2, "lastIndexOf", "(II)I"⟩
abbrev cX2_contains : ByteArray := prog_1_method_28_code
def yX2_contains : MethodName := ⟨RX2, "contains", "(II)Z"⟩
abbrev cX2_howOften : ByteArray := prog_1_method_29_code
def yX2_howOften : MethodName := ⟨RX2, "howOften", "(II)I"⟩
abbrev cX2_least : ByteArray := prog_1_method_30_code
def yX2_least : MethodName := ⟨RX2, "least", "(IZ)I"⟩
abbrev cX2_areApart : ByteArray := prog_1_method_31_code
def yX2_areApart : MethodName := ⟨RX2, "areApart", "(II)Z"⟩
abbrev cX2_areSame : ByteArray := prog_1_method_32_code
def yX2_areSame : MethodName := ⟨RX2, "areSame", "(II)Z"⟩
abbrev cX2_hash : ByteArray := prog_1_method_33_code
def yX2_hash : MethodName := ⟨RX2, "hash", "(I)I"⟩
abbrev cX2_text : ByteArray := prog_1_method_34_code
def yX2_text : MethodName := ⟨RX2, "text", "(I)Ljava/lang/String;"⟩
abbrev cX2_inArray : ByteArray := prog_1_method_35_code
def yX2_inArray : MethodName := ⟨RX2, "inArray", "(II)I"⟩
abbrev cX2_window : ByteArray := prog_1_method_36_code
def yX2_window : MethodName := ⟨RX2, "window", "(IIII)I"⟩
abbrev cX2_close : ByteArray := prog_1_method_37_code
def yX2_close : MethodName := ⟨RX2, "close", "(I)I"⟩
abbrev cX2_ofWindow : ByteArray := prog_1_method_38_code
def yX2_ofWindow : MethodName := ⟨RX2, "ofWindow", "(II)I"⟩
abbrev cX2_open : ByteArray := prog_1_method_39_code
def yX2_open : MethodName := ⟨RX2, "open", "(III)I"⟩
abbrev cX2_shut : ByteArray := prog_1_method_40_code
def yX2_shut : MethodName := ⟨RX2, "shut", "(I)I"⟩
abbrev cX2_next : ByteArray := prog_1_method_41_code
def yX2_next : MethodName := ⟨RX2, "next", "(I)I"⟩
abbrev cX2_previous : ByteArray := prog_1_method_42_code
def yX2_previous : MethodName := ⟨RX2, "previous", "(I)I"⟩
abbrev cX2_put : ByteArray := prog_1_method_43_code
def yX2_put : MethodName := ⟨RX2, "put", "(II)I"⟩
abbrev cX2_take : ByteArray := prog_1_method_44_code
def yX2_take : MethodName := ⟨RX2, "take", "(I)I"⟩
abbrev cX2_replace : ByteArray := prog_1_method_45_code
def yX2_replace : MethodName := ⟨RX2, "replace", "(II)I"⟩
abbrev cX2_ofCursor : ByteArray := prog_1_method_46_code
def yX2_ofCursor : MethodName := ⟨RX2, "ofCursor", "(II)I"⟩
abbrev cX2_house : ByteArray := prog_1_method_47_code
def yX2_house : MethodName := ⟨RX2, "house", "(I)I"⟩
abbrev cX2_knock : ByteArray := prog_1_method_48_code
def yX2_knock : MethodName := ⟨RX2, "knock", "()I"⟩
abbrev cX2_isSound : ByteArray := prog_1_method_49_code
def yX2_isSound : MethodName := ⟨RX2, "isSound", "()Z"⟩
abbrev cX2_digest : ByteArray := prog_1_method_50_code
def yX2_digest : MethodName := ⟨RX2, "digest", "()J"⟩
abbrev cX2_isBelow : ByteArray := prog_1_method_51_code
def yX2_isBelow : MethodName := ⟨RX2, "isBelow", "(II)Z"⟩
abbrev cX2_needRow : ByteArray := prog_1_method_52_code
def yX2_needRow : MethodName := ⟨RX2, "needRow", "(I)V"⟩
abbrev cX2_needWindow : ByteArray := prog_1_method_53_code
def yX2_needWindow : MethodName := ⟨RX2, "needWindow", "(I)V"⟩
abbrev cX2_needCursor : ByteArray := prog_1_method_54_code
def yX2_needCursor : MethodName := ⟨RX2, "needCursor", "(I)V"⟩
abbrev cX2_needItem : ByteArray := prog_1_method_55_code
def yX2_needItem : MethodName := ⟨RX2, "needItem", "(I)V"⟩
abbrev cX2_needQuestion : ByteArray := prog_1_method_56_code
def yX2_needQuestion : MethodName := ⟨RX2, "needQuestion", "(II)V"⟩
abbrev cX2_needWhere : ByteArray := prog_1_method_57_code
def yX2_needWhere : MethodName := ⟨RX2, "needWhere", "(I)V"⟩
abbrev cX2_needPlace : ByteArray := prog_1_method_58_code
def yX2_needPlace : MethodName := ⟨RX2, "needPlace", "(II)V"⟩
abbrev cX2_needRoom : ByteArray := prog_1_method_59_code
def yX2_needRoom : MethodName := ⟨RX2, "needRoom", "(II)V"⟩
abbrev cX2_needCursorThere : ByteArray := prog_1_method_60_code
def yX2_needCursorThere : MethodName := ⟨RX2, "needCursorThere", "(I)V"⟩
abbrev cX2_putIn : ByteArray := prog_1_method_61_code
def yX2_putIn : MethodName := ⟨RX2, "putIn", "(IIII)V"⟩
abbrev cX2_takeOut : ByteArray := prog_1_method_62_code
def yX2_takeOut : MethodName := ⟨RX2, "takeOut", "(IIII)V"⟩
abbrev cX2_exchangeForSpare : ByteArray := prog_1_method_63_code
def yX2_exchangeForSpare : MethodName := ⟨RX2, "exchangeForSpare", "(III)V"⟩
abbrev cX2_becomeSpare : ByteArray := prog_1_method_64_code
def yX2_becomeSpare : MethodName := ⟨RX2, "becomeSpare", "(I)I"⟩
abbrev cX2_sift : ByteArray := prog_1_method_65_code
def yX2_sift : MethodName := ⟨RX2, "sift", "(IIZ)I"⟩
abbrev cX2_isHolder : ByteArray := prog_1_method_66_code
def yX2_isHolder : MethodName := ⟨RX2, "isHolder", "(II)Z"⟩
abbrev cX2_settle : ByteArray := prog_1_method_67_code
def yX2_settle : MethodName := ⟨RX2, "settle", "(II)V"⟩
abbrev cX2_dismissWindow : ByteArray := prog_1_method_68_code
def yX2_dismissWindow : MethodName := ⟨RX2, "dismissWindow", "(I)V"⟩
abbrev cX2_dismissCursorsOver : ByteArray := prog_1_method_69_code
def yX2_dismissCursorsOver : MethodName := ⟨RX2, "dismissCursorsOver", "(I)V"⟩
abbrev cX2_itemsOfRows : ByteArray := prog_1_method_70_code
def yX2_itemsOfRows : MethodName := ⟨RX2, "itemsOfRows", "()I"⟩
abbrev cX2_windowsThere : ByteArray := prog_1_method_71_code
def yX2_windowsThere : MethodName := ⟨RX2, "windowsThere", "()I"⟩
abbrev cX2_cursorsThere : ByteArray := prog_1_method_72_code
def yX2_cursorsThere : MethodName := ⟨RX2, "cursorsThere", "()I"⟩
abbrev cX2_isRowSound : ByteArray := prog_1_method_73_code
def yX2_isRowSound : MethodName := ⟨RX2, "isRowSound", "(LSplicemonoid$Part;)Z"⟩
abbrev cX2_isMoveSound : ByteArray := prog_1_method_74_code
def yX2_isMoveSound : MethodName := ⟨RX2, "isMoveSound", "(LSplicemonoid$Part;I)Z"⟩
abbrev cX2_isRiffleSound : ByteArray := prog_1_method_75_code
def yX2_isRiffleSound : MethodName := ⟨RX2, "isRiffleSound", "(LSplicemonoid$Part;)Z"⟩
abbrev cX2_isTurnSound : ByteArray := prog_1_method_76_code
def yX2_isTurnSound : MethodName := ⟨RX2, "isTurnSound", "(LSplicemonoid$Part;)Z"⟩
abbrev cX2_isOrderSound : ByteArray := prog_1_method_77_code
def yX2_isOrderSound : MethodName := ⟨RX2, "isOrderSound", "(LSplicemonoid$Part;)Z"⟩
abbrev cX2_mix : ByteArray := prog_1_method_78_code
def yX2_mix : MethodName := ⟨RX2, "mix", "(JJ)J"⟩
abbrev cX2_mixItems : ByteArray := prog_1_method_79_code
def yX2_mixItems : MethodName := ⟨RX2, "mixItems", "(JLSplicemonoid$Part;)J"⟩
abbrev cX2_mixRows : ByteArray := prog_1_method_80_code
def yX2_mixRows : MethodName := ⟨RX2, "mixRows", "(J)J"⟩
abbrev cX2_mixWindows : ByteArray := prog_1_method_81_code
def yX2_mixWindows : MethodName := ⟨RX2, "mixWindows", "(J)J"⟩
abbrev cX2_mixCursors : ByteArray := prog_1_method_82_code
def yX2_mixCursors : MethodName := ⟨RX2, "mixCursors", "(J)J"⟩
def RX3 : String := "SplicemonoidLaw$Out"
def TX3 : u_T := fun k => match k with
  | 0 => ("SplicemonoidLaw$Out", "n", "J", false)
  | _ => ("SplicemonoidLaw$Out", "s", "Ljava/lang/String;", false)
def tyX3 : Nat → FieldType := fun k => match k with
  | 0 => .long
  | _ => .object "java/lang/String"
theorem nmX3 : ∀ a, a < 2 → ∀ b, b < 2 → a ≠ b → (TX3 a).2.1 ≠ (TX3 b).2.1 := by decide +kernel
theorem tyX3_ok : ∀ k, k < 2 → parseFieldDescriptor (TX3 k).2.2.1 = some (tyX3 k) := by decide +kernel
abbrev cX3_init : ByteArray := prog_5_method_1_code
def yX3_init : MethodName := ⟨RX3, "<init>", "()V"⟩
def RX4 : String := "SplicemonoidModel"
def TX4 : u_T := fun k => match k with
  | 0 => ("SplicemonoidModel", "rows", "[[I", true)
  | 1 => ("SplicemonoidModel", "isThere", "[Z", true)
  | 2 => ("SplicemonoidModel", "ground", "[I", true)
  | 3 => ("SplicemonoidModel", "from", "[I", true)
  | 4 => ("SplicemonoidModel", "many", "[I", true)
  | 5 => ("SplicemonoidModel", "isOpen", "[Z", true)
  | 6 => ("SplicemonoidModel", "over", "[I", true)
  | 7 => ("SplicemonoidModel", "index", "[I", true)
  | 8 => ("SplicemonoidModel", "last", "[I", true)
  | 9 => ("SplicemonoidModel", "knocks", "I", false)
  | 10 => ("SplicemonoidModel", "thrown", "I", false)
  | _ => ("SplicemonoidModel", "sum", "J", false)
def tyX4 : Nat → FieldType := fun k => match k with
  | 0 => .array (.array .int)
  | 1 => .array .boolean
  | 2 => .array .int
  | 3 => .array .int
  | 4 => .array .int
  | 5 => .array .boolean
  | 6 => .array .int
  | 7 => .array .int
  | 8 => .array .int
  | 9 => .int
  | 10 => .int
  | _ => .long
theorem nmX4 : ∀ a, a < 12 → ∀ b, b < 12 → a ≠ b → (TX4 a).2.1 ≠ (TX4 b).2.1 := by decide +kernel
theorem tyX4_ok : ∀ k, k < 12 → parseFieldDescriptor (TX4 k).2.2.1 = some (tyX4 k) := by decide +kernel
abbrev cX4_isIn : ByteArray := prog_6_method_1_code
def yX4_isIn : MethodName := ⟨RX4, "isIn", "(III)Z"⟩
abbrev cX4_one : ByteArray := prog_6_method_2_code
def yX4_one : MethodName := ⟨RX4, "one", "(Z)I"⟩
abbrev cX4_isNoItem : ByteArray := prog_6_method_3_code
def yX4_isNoItem : MethodName := ⟨RX4, "isNoItem", "(I)Z"⟩
abbrev cX4_init : ByteArray := prog_6_method_4_code
def yX4_init : MethodName := ⟨RX4, "<init>", "()V"⟩
abbrev cX4_thrown : ByteArray := prog_6_method_5_code
def yX4_thrown : MethodName := ⟨RX4, "thrown", "()I"⟩
abbrev cX4_fails : ByteArray := prog_6_method_6_code
def yX4_fails : MethodName := ⟨RX4, "fails", "(ZZZ)Z"⟩
abbrev cX4_isNoWhere : ByteArray := prog_6_method_7_code
def yX4_isNoWhere : MethodName := ⟨RX4, "isNoWhere", "(I)Z"⟩
abbrev cX4_isNoRow : ByteArray := prog_6_method_8_code
def yX4_isNoRow : MethodName := ⟨RX4, "isNoRow", "(I)Z"⟩
abbrev cX4_rowOf : ByteArray := prog_6_method_9_code
def yX4_rowOf : MethodName := ⟨RX4, "rowOf", "(I)I"⟩
abbrev cX4_begin : ByteArray := prog_6_method_10_code
def yX4_begin : MethodName := ⟨RX4, "begin", "(I)I"⟩
abbrev cX4_sizeOf : ByteArray := prog_6_method_11_code
def yX4_sizeOf : MethodName := ⟨RX4, "sizeOf", "(I)I"⟩
abbrev cX4_item : ByteArray := prog_6_method_12_code
def yX4_item : MethodName := ⟨RX4, "item", "(II)I"⟩
abbrev cX4_isNoPlace : ByteArray := prog_6_method_13_code
def yX4_isNoPlace : MethodName := ⟨RX4, "isNoPlace", "(II)Z"⟩
abbrev cX4_items : ByteArray := prog_6_method_14_code
def yX4_items : MethodName := ⟨RX4, "items", "(I)[I"⟩
abbrev cX4_isHolder : ByteArray := prog_6_method_15_code
def yX4_isHolder : MethodName := ⟨RX4, "isHolder", "(II)Z"⟩
abbrev cX4_isFull : ByteArray := prog_6_method_16_code
def yX4_isFull : MethodName := ⟨RX4, "isFull", "(I)Z"⟩
abbrev cX4_gone : ByteArray := prog_6_method_17_code
def yX4_gone : MethodName := ⟨RX4, "gone", "(I)V"⟩
abbrev cX4_goneWithAll : ByteArray := prog_6_method_18_code
def yX4_goneWithAll : MethodName := ⟨RX4, "goneWithAll", "(I)V"⟩
abbrev cX4_changed : ByteArray := prog_6_method_19_code
def yX4_changed : MethodName := ⟨RX4, "changed", "(II)V"⟩
abbrev cX4_lay : ByteArray := prog_6_method_20_code
def yX4_lay : MethodName := ⟨RX4, "lay", "(III[I)V"⟩
abbrev cX4_put : ByteArray := prog_6_method_21_code
def yX4_put : MethodName := ⟨RX4, "put", "(I[I)V"⟩
abbrev cX4_become : ByteArray := prog_6_method_22_code
def yX4_become : MethodName := ⟨RX4, "become", "(I[I)V"⟩
abbrev cX4_firstOf : ByteArray := prog_6_method_23_code
def yX4_firstOf : MethodName := ⟨RX4, "firstOf", "(I)I"⟩
abbrev cX4_add : ByteArray := prog_6_method_24_code
def yX4_add : MethodName := ⟨RX4, "add", "(II)I"⟩
abbrev cX4_insert : ByteArray := prog_6_method_25_code
def yX4_insert : MethodName := ⟨RX4, "insert", "(III)I"⟩
abbrev cX4_set : ByteArray := prog_6_method_26_code
def yX4_set : MethodName := ⟨RX4, "set", "(III)I"⟩
abbrev cX4_remove : ByteArray := prog_6_method_27_code
def yX4_remove : MethodName := ⟨RX4, "remove", "(II)I"⟩
abbrev cX4_clear : ByteArray := prog_6_method_28_code
def yX4_clear : MethodName := ⟨RX4, "clear", "(I)I"⟩
abbrev cX4_splice : ByteArray := prog_6_method_29_code
def yX4_splice : MethodName := ⟨RX4, "splice", "(IIII)I"⟩
abbrev cX4_rotate : ByteArray := prog_6_method_30_code
def yX4_rotate : MethodName := ⟨RX4, "rotate", "(II)I"⟩
abbrev cX4_turned : ByteArray := prog_6_method_31_code
def yX4_turned : MethodName := ⟨RX4, "turned", "([I)[I"⟩
abbrev cX4_reverse : ByteArray := prog_6_method_32_code
def yX4_reverse : MethodName := ⟨RX4, "reverse", "(I)I"⟩
abbrev cX4_swap : ByteArray := prog_6_method_33_code
def yX4_swap : MethodName := ⟨RX4, "swap", "(III)I"⟩
abbrev cX4_riffle : ByteArray := prog_6_method_34_code
def yX4_riffle : MethodName := ⟨RX4, "riffle", "(I)I"⟩
abbrev cX4_unriffle : ByteArray := prog_6_method_35_code
def yX4_unriffle : MethodName := ⟨RX4, "unriffle", "(I)I"⟩
abbrev cX4_isAhead : ByteArray := prog_6_method_36_code
def yX4_isAhead : MethodName := ⟨RX4, "isAhead", "(III)Z"⟩
abbrev cX4_sorted : ByteArray := prog_6_method_37_code
def yX4_sorted : MethodName := ⟨RX4, "sorted", "(II)I"⟩
abbrev cX4_sort : ByteArray := prog_6_method_38_code
def yX4_sort : MethodName := ⟨RX4, "sort", "(I)I"⟩
abbrev cX4_sortBy : ByteArray := prog_6_method_39_code
def yX4_sortBy : MethodName := ⟨RX4, "sortBy", "(II)I"⟩
abbrev cX4_get : ByteArray := prog_6_method_40_code
def yX4_get : MethodName := ⟨RX4, "get", "(II)I"⟩
abbrev cX4_size : ByteArray := prog_6_method_41_code
def yX4_size : MethodName := ⟨RX4, "size", "(I)I"⟩
abbrev cX4_partNow : ByteArray := prog_6_method_42_code
def yX4_partNow : MethodName := ⟨RX4, "partNow", "(II)I"⟩
abbrev cX4_partAt : ByteArray := prog_6_method_43_code
def yX4_partAt : MethodName := ⟨RX4, "partAt", "(II)I"⟩
abbrev cX4_fill : ByteArray := prog_6_method_44_code
def yX4_fill : MethodName := ⟨RX4, "fill", "(II)I"⟩
abbrev cX4_find : ByteArray := prog_6_method_45_code
def yX4_find : MethodName := ⟨RX4, "find", "(IIZ)I"⟩
abbrev cX4_removeItem : ByteArray := prog_6_method_46_code
def yX4_removeItem : MethodName := ⟨RX4, "removeItem", "(II)I"⟩
abbrev cX4_addAll : ByteArray := prog_6_method_47_code
def yX4_addAll : MethodName := ⟨RX4, "addAll", "(III)I"⟩
abbrev cX4_kept : ByteArray := prog_6_method_48_code
def yX4_kept : MethodName := ⟨RX4, "kept", "(IIZ)I"⟩
abbrev cX4_longer : ByteArray := prog_6_method_49_code
def yX4_longer : MethodName := ⟨RX4, "longer", "([II)[I"⟩
abbrev cX4_removeAll : ByteArray := prog_6_method_50_code
def yX4_removeAll : MethodName := ⟨RX4, "removeAll", "(II)I"⟩
abbrev cX4_retainAll : ByteArray := prog_6_method_51_code
def yX4_retainAll : MethodName := ⟨RX4, "retainAll", "(II)I"⟩
abbrev cX4_copy : ByteArray := prog_6_method_52_code
def yX4_copy : MethodName := ⟨RX4, "copy", "(II)I"⟩
abbrev cX4_places : ByteArray := prog_6_method_53_code
def yX4_places : MethodName := ⟨RX4, "places", "(II)I"⟩
abbrev cX4_through : ByteArray := prog_6_method_54_code
def yX4_through : MethodName := ⟨RX4, "through", "(III)I"⟩
abbrev cX4_indexOf : ByteArray := prog_6_method_55_code
def yX4_indexOf : MethodName := ⟨RX4, "indexOf", "(II)I"⟩
abbrev cX4_lastIndexOf : ByteArray := prog_6_method_56_code
def yX4_lastIndexOf : MethodName := ⟨RX4, "lastIndexOf", "(II)I"⟩
abbrev cX4_contains : ByteArray := prog_6_method_57_code
def yX4_contains : MethodName := ⟨RX4, "contains", "(II)Z"⟩
abbrev cX4_howOften : ByteArray := prog_6_method_58_code
def yX4_howOften : MethodName := ⟨RX4, "howOften", "(II)I"⟩
abbrev cX4_least : ByteArray := prog_6_method_59_code
def yX4_least : MethodName := ⟨RX4, "least", "(IZ)I"⟩
abbrev cX4_areApart : ByteArray := prog_6_method_60_code
def yX4_areApart : MethodName := ⟨RX4, "areApart", "(II)Z"⟩
abbrev cX4_areSame : ByteArray := prog_6_method_61_code
def yX4_areSame : MethodName := ⟨RX4, "areSame", "(II)Z"⟩
abbrev cX4_hashNow : ByteArray := prog_6_method_62_code
def yX4_hashNow : MethodName := ⟨RX4, "hashNow", "(I)I"⟩
abbrev cX4_hash : ByteArray := prog_6_method_63_code
def yX4_hash : MethodName := ⟨RX4, "hash", "(I)I"⟩
abbrev cX4_textNow : ByteArray := prog_6_method_64_code
def yX4_textNow : MethodName := ⟨RX4, "textNow", "(I)Ljava/lang/String;"⟩
abbrev cX4_text : ByteArray := prog_6_method_65_code
def yX4_text : MethodName := ⟨RX4, "text", "(I)Ljava/lang/String;"⟩
abbrev cX4_inArray : ByteArray := prog_6_method_66_code
def yX4_inArray : MethodName := ⟨RX4, "inArray", "(II)I"⟩
abbrev cX4_windows : ByteArray := prog_6_method_67_code
def yX4_windows : MethodName := ⟨RX4, "windows", "()I"⟩
abbrev cX4_window : ByteArray := prog_6_method_68_code
def yX4_window : MethodName := ⟨RX4, "window", "(IIII)I"⟩
abbrev cX4_close : ByteArray := prog_6_method_69_code
def yX4_close : MethodName := ⟨RX4, "close", "(I)I"⟩
abbrev cX4_windowNow : ByteArray := prog_6_method_70_code
def yX4_windowNow : MethodName := ⟨RX4, "windowNow", "(II)I"⟩
abbrev cX4_ofWindow : ByteArray := prog_6_method_71_code
def yX4_ofWindow : MethodName := ⟨RX4, "ofWindow", "(II)I"⟩
abbrev cX4_isNoCursor : ByteArray := prog_6_method_72_code
def yX4_isNoCursor : MethodName := ⟨RX4, "isNoCursor", "(I)Z"⟩
abbrev cX4_open : ByteArray := prog_6_method_73_code
def yX4_open : MethodName := ⟨RX4, "open", "(III)I"⟩
abbrev cX4_shut : ByteArray := prog_6_method_74_code
def yX4_shut : MethodName := ⟨RX4, "shut", "(I)I"⟩
abbrev cX4_isShut : ByteArray := prog_6_method_75_code
def yX4_isShut : MethodName := ⟨RX4, "isShut", "(I)Z"⟩
abbrev cX4_next : ByteArray := prog_6_method_76_code
def yX4_next : MethodName := ⟨RX4, "next", "(I)I"⟩
abbrev cX4_previous : ByteArray := prog_6_method_77_code
def yX4_previous : MethodName := ⟨RX4, "previous", "(I)I"⟩
abbrev cX4_put_ : ByteArray := prog_6_method_78_code
def yX4_put_ : MethodName := ⟨RX4, "put", "(II)I"⟩
abbrev cX4_take : ByteArray := prog_6_method_79_code
def yX4_take : MethodName := ⟨RX4, "take", "(I)I"⟩
abbrev cX4_replace : ByteArray := prog_6_method_80_code
def yX4_replace : MethodName := ⟨RX4, "replace", "(II)I"⟩
abbrev cX4_cursorNow : ByteArray := prog_6_method_81_code
def yX4_cursorNow : MethodName := ⟨RX4, "cursorNow", "(II)I"⟩
abbrev cX4_ofCursor : ByteArray := prog_6_method_82_code
def yX4_ofCursor : MethodName := ⟨RX4, "ofCursor", "(II)I"⟩
abbrev cX4_houseNow : ByteArray := prog_6_method_83_code
def yX4_houseNow : MethodName := ⟨RX4, "houseNow", "(I)I"⟩
abbrev cX4_house : ByteArray := prog_6_method_84_code
def yX4_house : MethodName := ⟨RX4, "house", "(I)I"⟩
abbrev cX4_knock : ByteArray := prog_6_method_85_code
def yX4_knock : MethodName := ⟨RX4, "knock", "()I"⟩
abbrev cX4_isWhole : ByteArray := prog_6_method_86_code
def yX4_isWhole : MethodName := ⟨RX4, "isWhole", "()Z"⟩
abbrev cX4_isSound : ByteArray := prog_6_method_87_code
def yX4_isSound : MethodName := ⟨RX4, "isSound", "()Z"⟩
abbrev cX4_add_ : ByteArray := prog_6_method_88_code
def yX4_add_ : MethodName := ⟨RX4, "add", "(J)V"⟩
abbrev cX4_digest : ByteArray := prog_6_method_89_code
def yX4_digest : MethodName := ⟨RX4, "digest", "()J"⟩
def RJ5 : String := "java/lang/AbstractStringBuilder"
def TJ5 : u_T := fun k => match k with
  | _ => ("", "", "", false)
def tyJ5 : Nat → FieldType := fun k => match k with
  | _ => .int
theorem nmJ5 : ∀ a, a < 0 → ∀ b, b < 0 → a ≠ b → (TJ5 a).2.1 ≠ (TJ5 b).2.1 := by decide +kernel
theorem tyJ5_ok : ∀ k, k < 0 → parseFieldDescriptor (TJ5 k).2.2.1 = some (tyJ5 k) := by decide +kernel
abbrev cJ5_init_d00df : ByteArray := prog_7_method_2_code
def yJ5_init_d00df : MethodName := ⟨RJ5, "<init>", "(I)V"⟩
abbrev cJ5_length_8abf5 : ByteArray := prog_7_method_6_code
def yJ5_length_8abf5 : MethodName := ⟨RJ5, "length", "()I"⟩
abbrev cJ5_ensureCapacityInternal_d00df : ByteArray := prog_7_method_9_code
def yJ5_ensureCapacityInternal_d00df : MethodName := ⟨RJ5, "ensureCapacityInternal", "(I)V"⟩
abbrev cJ5_newCapacity_0f7a4 : ByteArray := prog_7_method_10_code
def yJ5_newCapacity_0f7a4 : MethodName := ⟨RJ5, "newCapacity", "(I)I"⟩
abbrev cJ5_inflate_da8c8 : ByteArray := prog_7_method_11_code
def yJ5_inflate_da8c8 : MethodName := ⟨RJ5, "inflate", "()V"⟩
abbrev cJ5_setLength_d00df : ByteArray := prog_7_method_13_code
def yJ5_setLength_d00df : MethodName := ⟨RJ5, "setLength", "(I)V"⟩
abbrev cJ5_append_cf1ce : ByteArray := prog_7_method_22_code
def yJ5_append_cf1ce : MethodName := ⟨RJ5, "append", "(Ljava/lang/String;)Ljava/lang/AbstractStringBuilder;"⟩
abbrev cJ5_appendNull_278bc : ByteArray := prog_7_method_26_code
def yJ5_appendNull_278bc : MethodName := ⟨RJ5, "appendNull", "()Ljava/lang/AbstractStringBuilder;"⟩
abbrev cJ5_append_3fe6f : ByteArray := prog_7_method_31_code
def yJ5_append_3fe6f : MethodName := ⟨RJ5, "append", "(C)Ljava/lang/AbstractStringBuilder;"⟩
abbrev cJ5_append_c97b9 : ByteArray := prog_7_method_32_code
def yJ5_append_c97b9 : MethodName := ⟨RJ5, "append", "(I)Ljava/lang/AbstractStringBuilder;"⟩
abbrev cJ5_getValue_6d5f1 : ByteArray := prog_7_method_64_code
def yJ5_getValue_6d5f1 : MethodName := ⟨RJ5, "getValue", "()[B"⟩
abbrev cJ5_isLatin1_aae02 : ByteArray := prog_7_method_68_code
def yJ5_isLatin1_aae02 : MethodName := ⟨RJ5, "isLatin1", "()Z"⟩
abbrev cJ5_inflateIfNeededFor_a7421 : ByteArray := prog_7_method_71_code
def yJ5_inflateIfNeededFor_a7421 : MethodName := ⟨RJ5, "inflateIfNeededFor", "(Ljava/lang/String;)V"⟩
abbrev cJ5_putStringAt_47b60 : ByteArray := prog_7_method_73_code
def yJ5_putStringAt_47b60 : MethodName := ⟨RJ5, "putStringAt", "(ILjava/lang/String;)V"⟩
def RJx00060 : String := "java/lang/ArrayIndexOutOfBoundsException"
def TJx00060 : u_T := fun k => match k with
  | 0 => ("java/lang/Throwable", "cause", "Ljava/lang/Throwable;", false)
  | 1 => ("java/lang/Throwable", "stackTrace", "[Ljava/lang/StackTraceElement;", false)
  | 2 => ("java/lang/Throwable", "suppressedExceptions", "Ljava/util/List;", false)
  | 3 => ("java/lang/Throwable", "detailMessage", "Ljava/lang/String;", false)
  | 4 => ("java/lang/Throwable", "backtrace", "Ljava/lang/Object;", false)
  | _ => ("java/lang/Throwable", "depth", "I", false)
def tyJx00060 : Nat → FieldType := fun k => match k with
  | 0 => .object "java/lang/Throwable"
  | 1 => .array (.object "java/lang/StackTraceElement")
  | 2 => .object "java/util/List"
  | 3 => .object "java/lang/String"
  | 4 => .object "java/lang/Object"
  | _ => .int
theorem nmJx00060 : ∀ a, a < 6 → ∀ b, b < 6 → a ≠ b → (TJx00060 a).2.1 ≠ (TJx00060 b).2.1 := by decide +kernel
theorem tyJx00060_ok : ∀ k, k < 6 → parseFieldDescriptor (TJx00060 k).2.2.1 = some (tyJx00060 k) := by decide +kernel
abbrev cJx00060_init_d00df : ByteArray := prog_8_method_3_code
def yJx00060_init_d00df : MethodName := ⟨RJx00060, "<init>", "(I)V"⟩
def RJx8e188 : String := "java/lang/Cloneable"
def TJx8e188 : u_T := fun k => match k with
  | _ => ("", "", "", false)
def tyJx8e188 : Nat → FieldType := fun k => match k with
  | _ => .int
theorem nmJx8e188 : ∀ a, a < 0 → ∀ b, b < 0 → a ≠ b → (TJx8e188 a).2.1 ≠ (TJx8e188 b).2.1 := by decide +kernel
theorem tyJx8e188_ok : ∀ k, k < 0 → parseFieldDescriptor (TJx8e188 k).2.2.1 = some (tyJx8e188 k) := by decide +kernel
def RJ6 : String := "java/lang/Integer"
def TJ6 : u_T := fun k => match k with
  | _ => ("", "", "", false)
def tyJ6 : Nat → FieldType := fun k => match k with
  | _ => .int
theorem nmJ6 : ∀ a, a < 0 → ∀ b, b < 0 → a ≠ b → (TJ6 a).2.1 ≠ (TJ6 b).2.1 := by decide +kernel
theorem tyJ6_ok : ∀ k, k < 0 → parseFieldDescriptor (TJ6 k).2.2.1 = some (tyJ6 k) := by decide +kernel
abbrev cJ6_getChars_ba4f3 : ByteArray := prog_14_method_12_code
def yJ6_getChars_ba4f3 : MethodName := ⟨RJ6, "getChars", "(II[B)I"⟩
abbrev cJ6_stringSize_0f7a4 : ByteArray := prog_14_method_13_code
def yJ6_stringSize_0f7a4 : MethodName := ⟨RJ6, "stringSize", "(I)I"⟩
def RJ9 : String := "java/lang/Math"
def TJ9 : u_T := fun k => match k with
  | _ => ("", "", "", false)
def tyJ9 : Nat → FieldType := fun k => match k with
  | _ => .int
theorem nmJ9 : ∀ a, a < 0 → ∀ b, b < 0 → a ≠ b → (TJ9 a).2.1 ≠ (TJ9 b).2.1 := by decide +kernel
theorem tyJ9_ok : ∀ k, k < 0 → parseFieldDescriptor (TJ9 k).2.2.1 = some (tyJ9 k) := by decide +kernel
abbrev cJ9_floorMod_7cf53 : ByteArray := prog_15_method_50_code
def yJ9_floorMod_7cf53 : MethodName := ⟨RJ9, "floorMod", "(II)I"⟩
abbrev cJ9_max_7cf53 : ByteArray := prog_15_method_65_code
def yJ9_max_7cf53 : MethodName := ⟨RJ9, "max", "(II)I"⟩
abbrev cJ9_min_7cf53 : ByteArray := prog_15_method_69_code
def yJ9_min_7cf53 : MethodName := ⟨RJ9, "min", "(II)I"⟩
def RJ0 : String := "java/lang/String"
def TJ0 : u_T := fun k => match k with
  | 0 => ("java/lang/String", "value", "[B", true)
  | 1 => ("java/lang/String", "coder", "B", true)
  | 2 => ("java/lang/String", "hash", "I", false)
  | _ => ("java/lang/String", "hashIsZero", "Z", false)
def tyJ0 : Nat → FieldType := fun k => match k with
  | 0 => .array .byte
  | 1 => .byte
  | 2 => .int
  | _ => .boolean
theorem nmJ0 : ∀ a, a < 4 → ∀ b, b < 4 → a ≠ b → (TJ0 a).2.1 ≠ (TJ0 b).2.1 := by decide +kernel
theorem tyJ0_ok : ∀ k, k < 4 → parseFieldDescriptor (TJ0 k).2.2.1 = some (tyJ0 k) := by decide +kernel
abbrev cJ0_init_81219 : ByteArray := prog_17_method_53_code
def yJ0_init_81219 : MethodName := ⟨RJ0, "<init>", "(Ljava/lang/StringBuilder;)V"⟩
abbrev cJ0_length_8abf5 : ByteArray := prog_17_method_54_code
def yJ0_length_8abf5 : MethodName := ⟨RJ0, "length", "()I"⟩
abbrev cJ0_isEmpty_aae02 : ByteArray := prog_17_method_55_code
def yJ0_isEmpty_aae02 : MethodName := ⟨RJ0, "isEmpty", "()Z"⟩
abbrev cJ0_getBytes_840e7 : ByteArray := prog_17_method_147_code
def yJ0_getBytes_840e7 : MethodName := ⟨RJ0, "getBytes", "([BIB)V"⟩
abbrev cJ0_init_db425 : ByteArray := prog_17_method_150_code
def yJ0_init_db425 : MethodName := ⟨RJ0, "<init>", "(Ljava/lang/AbstractStringBuilder;Ljava/lang/Void;)V"⟩
abbrev cJ0_coder_7d493 : ByteArray := prog_17_method_152_code
def yJ0_coder_7d493 : MethodName := ⟨RJ0, "coder", "()B"⟩
abbrev cJ0_checkIndex_df160 : ByteArray := prog_17_method_155_code
def yJ0_checkIndex_df160 : MethodName := ⟨RJ0, "checkIndex", "(II)V"⟩
abbrev cJ0_checkBoundsOffCount_cabcc : ByteArray := prog_17_method_157_code
def yJ0_checkBoundsOffCount_cabcc : MethodName := ⟨RJ0, "checkBoundsOffCount", "(III)I"⟩
abbrev cJ0_checkBoundsBeginEnd_23922 : ByteArray := prog_17_method_158_code
def yJ0_checkBoundsBeginEnd_23922 : MethodName := ⟨RJ0, "checkBoundsBeginEnd", "(III)V"⟩
def RJ4 : String := "java/lang/StringBuilder"
def TJ4 : u_T := fun k => match k with
  | 0 => ("java/lang/AbstractStringBuilder", "value", "[B", false)
  | 1 => ("java/lang/AbstractStringBuilder", "coder", "B", false)
  | 2 => ("java/lang/AbstractStringBuilder", "maybeLatin1", "Z", false)
  | _ => ("java/lang/AbstractStringBuilder", "count", "I", false)
def tyJ4 : Nat → FieldType := fun k => match k with
  | 0 => .array .byte
  | 1 => .byte
  | 2 => .boolean
  | _ => .int
theorem nmJ4 : ∀ a, a < 4 → ∀ b, b < 4 → a ≠ b → (TJ4 a).2.1 ≠ (TJ4 b).2.1 := by decide +kernel
theorem tyJ4_ok : ∀ k, k < 4 → parseFieldDescriptor (TJ4 k).2.2.1 = some (tyJ4 k) := by decide +kernel
abbrev cJ4_init_da8c8 : ByteArray := prog_18_method_1_code
def yJ4_init_da8c8 : MethodName := ⟨RJ4, "<init>", "()V"⟩
abbrev cJ4_append_15ec4 : ByteArray := prog_18_method_7_code
def yJ4_append_15ec4 : MethodName := ⟨RJ4, "append", "(Ljava/lang/String;)Ljava/lang/StringBuilder;"⟩
abbrev cJ4_append_cf468 : ByteArray := prog_18_method_14_code
def yJ4_append_cf468 : MethodName := ⟨RJ4, "append", "(C)Ljava/lang/StringBuilder;"⟩
abbrev cJ4_append_bf812 : ByteArray := prog_18_method_15_code
def yJ4_append_bf812 : MethodName := ⟨RJ4, "append", "(I)Ljava/lang/StringBuilder;"⟩
abbrev cJ4_toString_0e30d : ByteArray := prog_18_method_42_code
def yJ4_toString_0e30d : MethodName := ⟨RJ4, "toString", "()Ljava/lang/String;"⟩
abbrev cJ4_setLength_d00df : ByteArray := prog_18_method_89_code
def yJ4_setLength_d00df : MethodName := ⟨RJ4, "setLength", "(I)V"⟩
abbrev cJ4_length_8abf5 : ByteArray := prog_18_method_93_code
def yJ4_length_8abf5 : MethodName := ⟨RJ4, "length", "()I"⟩
def RJx7c733 : String := "java/lang/StringIndexOutOfBoundsException"
def TJx7c733 : u_T := fun k => match k with
  | 0 => ("java/lang/Throwable", "backtrace", "Ljava/lang/Object;", false)
  | 1 => ("java/lang/Throwable", "detailMessage", "Ljava/lang/String;", false)
  | 2 => ("java/lang/Throwable", "cause", "Ljava/lang/Throwable;", false)
  | 3 => ("java/lang/Throwable", "stackTrace", "[Ljava/lang/StackTraceElement;", false)
  | 4 => ("java/lang/Throwable", "depth", "I", false)
  | _ => ("java/lang/Throwable", "suppressedExceptions", "Ljava/util/List;", false)
def tyJx7c733 : Nat → FieldType := fun k => match k with
  | 0 => .object "java/lang/Object"
  | 1 => .object "java/lang/String"
  | 2 => .object "java/lang/Throwable"
  | 3 => .array (.object "java/lang/StackTraceElement")
  | 4 => .int
  | _ => .object "java/util/List"
theorem nmJx7c733 : ∀ a, a < 6 → ∀ b, b < 6 → a ≠ b → (TJx7c733 a).2.1 ≠ (TJx7c733 b).2.1 := by decide +kernel
theorem tyJx7c733_ok : ∀ k, k < 6 → parseFieldDescriptor (TJx7c733 k).2.2.1 = some (tyJx7c733 k) := by decide +kernel
abbrev cJx7c733_init_d00df : ByteArray := prog_19_method_3_code
def yJx7c733_init_d00df : MethodName := ⟨RJx7c733, "<init>", "(I)V"⟩
def RJ1 : String := "java/lang/StringLatin1"
def TJ1 : u_T := fun k => match k with
  | _ => ("", "", "", false)
def tyJ1 : Nat → FieldType := fun k => match k with
  | _ => .int
theorem nmJ1 : ∀ a, a < 0 → ∀ b, b < 0 → a ≠ b → (TJ1 a).2.1 ≠ (TJ1 b).2.1 := by decide +kernel
theorem tyJ1_ok : ∀ k, k < 0 → parseFieldDescriptor (TJ1 k).2.2.1 = some (tyJ1 k) := by decide +kernel
abbrev cJ1_canEncode_fc78d : ByteArray := prog_20_method_3_code
def yJ1_canEncode_fc78d : MethodName := ⟨RJ1, "canEncode", "(C)Z"⟩
abbrev cJ1_fillNull_b72d1 : ByteArray := prog_20_method_48_code
def yJ1_fillNull_b72d1 : MethodName := ⟨RJ1, "fillNull", "([BII)V"⟩
abbrev cJ1_inflate_0e8fd : ByteArray := prog_20_method_50_code
def yJ1_inflate_0e8fd : MethodName := ⟨RJ1, "inflate", "([BI[BII)V"⟩
def RJ2 : String := "java/lang/StringUTF16"
def TJ2 : u_T := fun k => match k with
  | _ => ("", "", "", false)
def tyJ2 : Nat → FieldType := fun k => match k with
  | _ => .int
theorem nmJ2 : ∀ a, a < 0 → ∀ b, b < 0 → a ≠ b → (TJ2 a).2.1 ≠ (TJ2 b).2.1 := by decide +kernel
theorem tyJ2_ok : ∀ k, k < 0 → parseFieldDescriptor (TJ2 k).2.2.1 = some (tyJ2 k) := by decide +kernel
abbrev cJ2_newBytesFor_77867 : ByteArray := prog_21_method_2_code
def yJ2_newBytesFor_77867 : MethodName := ⟨RJ2, "newBytesFor", "(I)[B"⟩
abbrev cJ2_newBytesLength_0f7a4 : ByteArray := prog_21_method_3_code
def yJ2_newBytesLength_0f7a4 : MethodName := ⟨RJ2, "newBytesLength", "(I)I"⟩
abbrev cJ2_putChar_b72d1 : ByteArray := prog_21_method_4_code
def yJ2_putChar_b72d1 : MethodName := ⟨RJ2, "putChar", "([BII)V"⟩
abbrev cJ2_getChar_3b067 : ByteArray := prog_21_method_5_code
def yJ2_getChar_3b067 : MethodName := ⟨RJ2, "getChar", "([BI)C"⟩
abbrev cJ2_length_9d52b : ByteArray := prog_21_method_6_code
def yJ2_length_9d52b : MethodName := ⟨RJ2, "length", "([B)I"⟩
abbrev cJ2_coderFromArrayLen_85cad : ByteArray := prog_21_method_15_code
def yJ2_coderFromArrayLen_85cad : MethodName := ⟨RJ2, "coderFromArrayLen", "([BI)B"⟩
abbrev cJ2_compress_39247 : ByteArray := prog_21_method_17_code
def yJ2_compress_39247 : MethodName := ⟨RJ2, "compress", "([BII)[B"⟩
abbrev cJ2_compress_5af95 : ByteArray := prog_21_method_22_code
def yJ2_compress_5af95 : MethodName := ⟨RJ2, "compress", "([BI[BII)I"⟩
abbrev cJ2_fillNull_b72d1 : ByteArray := prog_21_method_70_code
def yJ2_fillNull_b72d1 : MethodName := ⟨RJ2, "fillNull", "([BII)V"⟩
abbrev cJ2_putCharSB_b72d1 : ByteArray := prog_21_method_71_code
def yJ2_putCharSB_b72d1 : MethodName := ⟨RJ2, "putCharSB", "([BII)V"⟩
abbrev cJ2_getChars_46870 : ByteArray := prog_21_method_77_code
def yJ2_getChars_46870 : MethodName := ⟨RJ2, "getChars", "(III[B)I"⟩
abbrev cJ2_putCharsAt_cd4e5 : ByteArray := prog_21_method_81_code
def yJ2_putCharsAt_cd4e5 : MethodName := ⟨RJ2, "putCharsAt", "([BICCCC)I"⟩
abbrev cJ2_inflate_0e8fd : ByteArray := prog_21_method_86_code
def yJ2_inflate_0e8fd : MethodName := ⟨RJ2, "inflate", "([BI[BII)V"⟩
abbrev cJ2_getChars_ba4f3 : ByteArray := prog_21_method_89_code
def yJ2_getChars_ba4f3 : MethodName := ⟨RJ2, "getChars", "(II[B)I"⟩
abbrev cJ2_checkIndex_2214a : ByteArray := prog_21_method_91_code
def yJ2_checkIndex_2214a : MethodName := ⟨RJ2, "checkIndex", "(I[B)V"⟩
abbrev cJ2_checkBoundsBeginEnd_d044e : ByteArray := prog_21_method_93_code
def yJ2_checkBoundsBeginEnd_d044e : MethodName := ⟨RJ2, "checkBoundsBeginEnd", "(II[B)V"⟩
abbrev cJ2_checkBoundsOffCount_d044e : ByteArray := prog_21_method_94_code
def yJ2_checkBoundsOffCount_d044e : MethodName := ⟨RJ2, "checkBoundsOffCount", "(II[B)V"⟩
def RJ10 : String := "java/lang/System"
def TJ10 : u_T := fun k => match k with
  | _ => ("", "", "", false)
def tyJ10 : Nat → FieldType := fun k => match k with
  | _ => .int
theorem nmJ10 : ∀ a, a < 0 → ∀ b, b < 0 → a ≠ b → (TJ10 a).2.1 ≠ (TJ10 b).2.1 := by decide +kernel
theorem tyJ10_ok : ∀ k, k < 0 → parseFieldDescriptor (TJ10 k).2.2.1 = some (tyJ10 k) := by decide +kernel
def RJ7 : String := "java/util/Arrays"
def TJ7 : u_T := fun k => match k with
  | _ => ("", "", "", false)
def tyJ7 : Nat → FieldType := fun k => match k with
  | _ => .int
theorem nmJ7 : ∀ a, a < 0 → ∀ b, b < 0 → a ≠ b → (TJ7 a).2.1 ≠ (TJ7 b).2.1 := by decide +kernel
theorem tyJ7_ok : ∀ k, k < 0 → parseFieldDescriptor (TJ7 k).2.2.1 = some (tyJ7 k) := by decide +kernel
abbrev cJ7_rangeCheck_23922 : ByteArray := prog_24_method_30_code
def yJ7_rangeCheck_23922 : MethodName := ⟨RJ7, "rangeCheck", "(III)V"⟩
abbrev cJ7_fill_eb02e : ByteArray := prog_24_method_110_code
def yJ7_fill_eb02e : MethodName := ⟨RJ7, "fill", "([BIIB)V"⟩
abbrev cJ7_copyOf_9075b : ByteArray := prog_24_method_121_code
def yJ7_copyOf_9075b : MethodName := ⟨RJ7, "copyOf", "([BI)[B"⟩
abbrev cJ7_checkLength_df160 : ByteArray := prog_24_method_131_code
def yJ7_checkLength_df160 : MethodName := ⟨RJ7, "checkLength", "(II)V"⟩
abbrev cJ7_copyOfRange_39247 : ByteArray := prog_24_method_132_code
def yJ7_copyOfRange_39247 : MethodName := ⟨RJ7, "copyOfRange", "([BII)[B"⟩
abbrev cJ7_copyOfRangeByte_39247 : ByteArray := prog_24_method_133_code
def yJ7_copyOfRangeByte_39247 : MethodName := ⟨RJ7, "copyOfRangeByte", "([BII)[B"⟩
def RJ8 : String := "jdk/internal/util/ArraysSupport"
def TJ8 : u_T := fun k => match k with
  | _ => ("", "", "", false)
def tyJ8 : Nat → FieldType := fun k => match k with
  | _ => .int
theorem nmJ8 : ∀ a, a < 0 → ∀ b, b < 0 → a ≠ b → (TJ8 a).2.1 ≠ (TJ8 b).2.1 := by decide +kernel
theorem tyJ8_ok : ∀ k, k < 0 → parseFieldDescriptor (TJ8 k).2.2.1 = some (tyJ8 k) := by decide +kernel
abbrev cJ8_newLength_cabcc : ByteArray := prog_25_method_27_code
def yJ8_newLength_cabcc : MethodName := ⟨RJ8, "newLength", "(III)I"⟩
abbrev cJ8_hugeLength_7cf53 : ByteArray := prog_25_method_28_code
def yJ8_hugeLength_7cf53 : MethodName := ⟨RJ8, "hugeLength", "(II)I"⟩
def RJ3 : String := "jdk/internal/util/Preconditions"
def TJ3 : u_T := fun k => match k with
  | _ => ("", "", "", false)
def tyJ3 : Nat → FieldType := fun k => match k with
  | _ => .int
theorem nmJ3 : ∀ a, a < 0 → ∀ b, b < 0 → a ≠ b → (TJ3 a).2.1 ≠ (TJ3 b).2.1 := by decide +kernel
theorem tyJ3_ok : ∀ k, k < 0 → parseFieldDescriptor (TJ3 k).2.2.1 = some (tyJ3 k) := by decide +kernel
abbrev cJ3_checkIndex_8e157 : ByteArray := prog_26_method_11_code
def yJ3_checkIndex_8e157 : MethodName := ⟨RJ3, "checkIndex", "(IILjava/util/function/BiFunction;)I"⟩
abbrev cJ3_checkFromToIndex_8c36e : ByteArray := prog_26_method_12_code
def yJ3_checkFromToIndex_8c36e : MethodName := ⟨RJ3, "checkFromToIndex", "(IIILjava/util/function/BiFunction;)I"⟩
abbrev cJ3_checkFromIndexSize_8c36e : ByteArray := prog_26_method_13_code
def yJ3_checkFromIndexSize_8c36e : MethodName := ⟨RJ3, "checkFromIndexSize", "(IIILjava/util/function/BiFunction;)I"⟩
def RL : String := "SplicemonoidLaw"
abbrev cL_add : ByteArray := method_2_code
def yL_add : MethodName := ⟨RL, "add", "(LSplicemonoid;IILSplicemonoidLaw$Out;)I"⟩
abbrev cL_insert : ByteArray := method_3_code
def yL_insert : MethodName := ⟨RL, "insert", "(LSplicemonoid;IIILSplicemonoidLaw$Out;)I"⟩
abbrev cL_set : ByteArray := method_4_code
def yL_set : MethodName := ⟨RL, "set", "(LSplicemonoid;IIILSplicemonoidLaw$Out;)I"⟩
abbrev cL_remove : ByteArray := method_5_code
def yL_remove : MethodName := ⟨RL, "remove", "(LSplicemonoid;IILSplicemonoidLaw$Out;)I"⟩
abbrev cL_clear : ByteArray := method_6_code
def yL_clear : MethodName := ⟨RL, "clear", "(LSplicemonoid;ILSplicemonoidLaw$Out;)I"⟩
abbrev cL_splice : ByteArray := method_7_code
def yL_splice : MethodName := ⟨RL, "splice", "(LSplicemonoid;IIIILSplicemonoidLaw$Out;)I"⟩
abbrev cL_rotate : ByteArray := method_8_code
def yL_rotate : MethodName := ⟨RL, "rotate", "(LSplicemonoid;IILSplicemonoidLaw$Out;)I"⟩
abbrev cL_reverse : ByteArray := method_9_code
def yL_reverse : MethodName := ⟨RL, "reverse", "(LSplicemonoid;ILSplicemonoidLaw$Out;)I"⟩
abbrev cL_swap : ByteArray := method_10_code
def yL_swap : MethodName := ⟨RL, "swap", "(LSplicemonoid;IIILSplicemonoidLaw$Out;)I"⟩
abbrev cL_riffle : ByteArray := method_11_code
def yL_riffle : MethodName := ⟨RL, "riffle", "(LSplicemonoid;ILSplicemonoidLaw$Out;)I"⟩
abbrev cL_unriffle : ByteArray := method_12_code
def yL_unriffle : MethodName := ⟨RL, "unriffle", "(LSplicemonoid;ILSplicemonoidLaw$Out;)I"⟩
abbrev cL_sort : ByteArray := method_13_code
def yL_sort : MethodName := ⟨RL, "sort", "(LSplicemonoid;ILSplicemonoidLaw$Out;)I"⟩
abbrev cL_sortBy : ByteArray := method_14_code
def yL_sortBy : MethodName := ⟨RL, "sortBy", "(LSplicemonoid;IILSplicemonoidLaw$Out;)I"⟩
abbrev cL_get : ByteArray := method_15_code
def yL_get : MethodName := ⟨RL, "get", "(LSplicemonoid;IILSplicemonoidLaw$Out;)I"⟩
abbrev cL_size : ByteArray := method_16_code
def yL_size : MethodName := ⟨RL, "size", "(LSplicemonoid;ILSplicemonoidLaw$Out;)I"⟩
abbrev cL_partAt : ByteArray := method_17_code
def yL_partAt : MethodName := ⟨RL, "partAt", "(LSplicemonoid;IILSplicemonoidLaw$Out;)I"⟩
abbrev cL_fill : ByteArray := method_18_code
def yL_fill : MethodName := ⟨RL, "fill", "(LSplicemonoid;IILSplicemonoidLaw$Out;)I"⟩
abbrev cL_removeItem : ByteArray := method_19_code
def yL_removeItem : MethodName := ⟨RL, "removeItem", "(LSplicemonoid;IILSplicemonoidLaw$Out;)I"⟩
abbrev cL_addAll : ByteArray := method_20_code
def yL_addAll : MethodName := ⟨RL, "addAll", "(LSplicemonoid;IIILSplicemonoidLaw$Out;)I"⟩
abbrev cL_removeAll : ByteArray := method_21_code
def yL_removeAll : MethodName := ⟨RL, "removeAll", "(LSplicemonoid;IILSplicemonoidLaw$Out;)I"⟩
abbrev cL_retainAll : ByteArray := method_22_code
def yL_retainAll : MethodName := ⟨RL, "retainAll", "(LSplicemonoid;IILSplicemonoidLaw$Out;)I"⟩
abbrev cL_copy : ByteArray := method_23_code
def yL_copy : MethodName := ⟨RL, "copy", "(LSplicemonoid;IILSplicemonoidLaw$Out;)I"⟩
abbrev cL_places : ByteArray := method_24_code
def yL_places : MethodName := ⟨RL, "places", "(LSplicemonoid;IILSplicemonoidLaw$Out;)I"⟩
abbrev cL_through : ByteArray := method_25_code
def yL_through : MethodName := ⟨RL, "through", "(LSplicemonoid;IIILSplicemonoidLaw$Out;)I"⟩
abbrev cL_indexOf : ByteArray := method_26_code
def yL_indexOf : MethodName := ⟨RL, "indexOf", "(LSplicemonoid;IILSplicemonoidLaw$Out;)I"⟩
abbrev cL_lastIndexOf : ByteArray := method_27_code
def yL_lastIndexOf : MethodName := ⟨RL, "lastIndexOf", "(LSplicemonoid;IILSplicemonoidLaw$Out;)I"⟩
abbrev cL_contains : ByteArray := method_28_code
def yL_contains : MethodName := ⟨RL, "contains", "(LSplicemonoid;IILSplicemonoidLaw$Out;)I"⟩
abbrev cL_howOften : ByteArray := method_29_code
def yL_howOften : MethodName := ⟨RL, "howOften", "(LSplicemonoid;IILSplicemonoidLaw$Out;)I"⟩
abbrev cL_least : ByteArray := method_30_code
def yL_least : MethodName := ⟨RL, "least", "(LSplicemonoid;IZLSplicemonoidLaw$Out;)I"⟩
abbrev cL_areApart : ByteArray := method_31_code
def yL_areApart : MethodName := ⟨RL, "areApart", "(LSplicemonoid;IILSplicemonoidLaw$Out;)I"⟩
abbrev cL_areSame : ByteArray := method_32_code
def yL_areSame : MethodName := ⟨RL, "areSame", "(LSplicemonoid;IILSplicemonoidLaw$Out;)I"⟩
abbrev cL_hash : ByteArray := method_33_code
def yL_hash : MethodName := ⟨RL, "hash", "(LSplicemonoid;ILSplicemonoidLaw$Out;)I"⟩
abbrev cL_text : ByteArray := method_34_code
def yL_text : MethodName := ⟨RL, "text", "(LSplicemonoid;ILSplicemonoidLaw$Out;)I"⟩
abbrev cL_inArray : ByteArray := method_35_code
def yL_inArray : MethodName := ⟨RL, "inArray", "(LSplicemonoid;IILSplicemonoidLaw$Out;)I"⟩
abbrev cL_window : ByteArray := method_36_code
def yL_window : MethodName := ⟨RL, "window", "(LSplicemonoid;IIIILSplicemonoidLaw$Out;)I"⟩
abbrev cL_close : ByteArray := method_37_code
def yL_close : MethodName := ⟨RL, "close", "(LSplicemonoid;ILSplicemonoidLaw$Out;)I"⟩
abbrev cL_ofWindow : ByteArray := method_38_code
def yL_ofWindow : MethodName := ⟨RL, "ofWindow", "(LSplicemonoid;IILSplicemonoidLaw$Out;)I"⟩
abbrev cL_open : ByteArray := method_39_code
def yL_open : MethodName := ⟨RL, "open", "(LSplicemonoid;IIILSplicemonoidLaw$Out;)I"⟩
abbrev cL_shut : ByteArray := method_40_code
def yL_shut : MethodName := ⟨RL, "shut", "(LSplicemonoid;ILSplicemonoidLaw$Out;)I"⟩
abbrev cL_next : ByteArray := method_41_code
def yL_next : MethodName := ⟨RL, "next", "(LSplicemonoid;ILSplicemonoidLaw$Out;)I"⟩
abbrev cL_previous : ByteArray := method_42_code
def yL_previous : MethodName := ⟨RL, "previous", "(LSplicemonoid;ILSplicemonoidLaw$Out;)I"⟩
abbrev cL_put : ByteArray := method_43_code
def yL_put : MethodName := ⟨RL, "put", "(LSplicemonoid;IILSplicemonoidLaw$Out;)I"⟩
abbrev cL_take : ByteArray := method_44_code
def yL_take : MethodName := ⟨RL, "take", "(LSplicemonoid;ILSplicemonoidLaw$Out;)I"⟩
abbrev cL_replace : ByteArray := method_45_code
def yL_replace : MethodName := ⟨RL, "replace", "(LSplicemonoid;IILSplicemonoidLaw$Out;)I"⟩
abbrev cL_ofCursor : ByteArray := method_46_code
def yL_ofCursor : MethodName := ⟨RL, "ofCursor", "(LSplicemonoid;IILSplicemonoidLaw$Out;)I"⟩
abbrev cL_house : ByteArray := method_47_code
def yL_house : MethodName := ⟨RL, "house", "(LSplicemonoid;ILSplicemonoidLaw$Out;)I"⟩
abbrev cL_law : ByteArray := code
def yL_law : MethodName := ⟨RL, "law", "([I)Z"⟩
abbrev vwCl : List vw_C := [(RJ0, TJ0, 4), (RJ4, TJ4, 4), (RJx00060, TJx00060, 6), (RJx7c733, TJx7c733, 6), (RX0, TX0, 4), (RX1, TX1, 6), (RX2, TX2, 6), (RX3, TX3, 2), (RX4, TX4, 12)]
end PT_04
/-! ===== 045.code -/
section PT_045
/-! BYTES BY 64s, and what they decode to -/
def cb (c : ByteArray) (p : Nat) : Option Nat := (c.data.toList.map UInt8.toNat)[p]?
theorem cb_u1 {c : ByteArray} {p b : Nat} (h : cb c p = some b) : (Reader.u1 : Decoder Nat) c p = Except.ok (b, p + 1) := by
  unfold cb at h
  rw [List.getElem?_map] at h
  obtain ⟨z, hz, hb⟩ := Option.map_eq_some_iff.mp h
  obtain ⟨hp, hz2⟩ := List.getElem?_eq_some_iff.mp hz
  have hp' : p < c.size := hp
  show (dite (p < c.size) (fun h => ((do set (p + 1); pure c[p].toNat) : Decoder Nat)) (fun _ => throw (HasTruncated.truncated p))) c p = _
  rw [dif_pos hp']
  show Except.ok (c[p].toNat, p + 1) = _
  have e : c[p] = z := hz2
  rw [e, hb]
theorem dq_fin {c : ByteArray} {pc n : Nat} {i : Instr} (h : Decoder.instr pc c pc = Except.ok (i, pc + n)) : decode c pc = .ok (i, n) := by
  have e : decode c pc = Except.bind (Decoder.instr pc c pc) (fun q => Except.ok (q.1, q.2 - pc)) := rfl
  rw [e, h]
  show Except.ok (i, pc + n - pc) = _
  rw [Nat.add_sub_cancel_left]
theorem dq_hd {c : ByteArray} {pc b : Nat} {k : Nat → Decoder Instr} (hk : Decoder.instr pc = Reader.u1 >>= k) (h : cb c pc = some b) : Decoder.instr pc c pc = k b c (pc + 1) := by
  have e : Decoder.instr pc c pc = Except.bind ((Reader.u1 : Decoder Nat) c pc) (fun q => k q.1 c q.2) := by
    rw [hk]
    rfl
  rw [e, cb_u1 h]
  rfl
theorem dq0 {c : ByteArray} {pc b : Nat} {i : Instr} {k : Nat → Decoder Instr} (hk : Decoder.instr pc = Reader.u1 >>= k) (hb : k b = Pure.pure i) (h : cb c pc = some b) : decode c pc = .ok (i, 1) := dq_fin (by
  rw [dq_hd hk h, hb]
  rfl)
theorem dq1 {c : ByteArray} {pc b a : Nat} {mk : Nat → Instr} {k : Nat → Decoder Instr} (hk : Decoder.instr pc = Reader.u1 >>= k) (hb : k b = Reader.u1 >>= fun a => Pure.pure (mk a)) (h : cb c pc = some b) (h1 : cb c (pc + 1) = some a) : decode c pc = .ok (mk a, 2) := dq_fin (by
  rw [dq_hd hk h, hb]
  have e : (Reader.u1 >>= fun a => Pure.pure (mk a) : Decoder Instr) c (pc + 1) = Except.bind ((Reader.u1 : Decoder Nat) c (pc + 1)) (fun q => Except.ok (mk q.1, q.2)) := rfl
  rw [e, cb_u1 h1]
  rfl)
theorem cb_u2 {c : ByteArray} {p a b : Nat} (h : cb c p = some a) (h1 : cb c (p + 1) = some b) : (Reader.u2 : Decoder Nat) c p = Except.ok (a * 256 + b, p + 2) := by
  have e : (Reader.u2 : Decoder Nat) c p = Except.bind ((Reader.u1 : Decoder Nat) c p) (fun q => Except.bind ((Reader.u1 : Decoder Nat) c q.2) (fun t => Except.ok (q.1 * 256 + t.1, t.2))) := rfl
  rw [e, cb_u1 h]
  show Except.bind ((Reader.u1 : Decoder Nat) c (p + 1)) (fun t => Except.ok (a * 256 + t.1, t.2)) = _
  rw [cb_u1 h1]
  rfl
theorem dq2 {c : ByteArray} {pc b x y : Nat} {mk : Nat → Instr} {k : Nat → Decoder Instr} (hk : Decoder.instr pc = Reader.u1 >>= k) (hb : k b = Reader.u2 >>= fun a => Pure.pure (mk a)) (h : cb c pc = some b) (h1 : cb c (pc + 1) = some x) (h2 : cb c (pc + 1 + 1) = some y) : decode c pc = .ok (mk (x * 256 + y), 3) := dq_fin (by
  rw [dq_hd hk h, hb]
  have e : (Reader.u2 >>= fun a => Pure.pure (mk a) : Decoder Instr) c (pc + 1) = Except.bind ((Reader.u2 : Decoder Nat) c (pc + 1)) (fun q => Except.ok (mk q.1, q.2)) := rfl
  rw [e, cb_u2 h1 h2]
  rfl)
theorem cb_s2 {c : ByteArray} {p a b : Nat} (h : cb c p = some a) (h1 : cb c (p + 1) = some b) : (Reader.s2 : Decoder Int) c p = Except.ok (Reader.signed 16 (a * 256 + b), p + 2) := by
  have e : (Reader.s2 : Decoder Int) c p = Except.bind ((Reader.u2 : Decoder Nat) c p) (fun q => Except.ok (Reader.signed 16 q.1, q.2)) := rfl
  rw [e, cb_u2 h h1]
  rfl
theorem dq2s {c : ByteArray} {pc b x y : Nat} {mk : Int → Instr} {k : Nat → Decoder Instr} (hk : Decoder.instr pc = Reader.u1 >>= k) (hb : k b = Reader.s2 >>= fun a => Pure.pure (mk a)) (h : cb c pc = some b) (h1 : cb c (pc + 1) = some x) (h2 : cb c (pc + 1 + 1) = some y) {o : Int} (ho : Reader.signed 16 (x * 256 + y) = o) : decode c pc = .ok (mk o, 3) := dq_fin (by
  rw [dq_hd hk h, hb]
  have e : (Reader.s2 >>= fun a => Pure.pure (mk a) : Decoder Instr) c (pc + 1) = Except.bind ((Reader.s2 : Decoder Int) c (pc + 1)) (fun q => Except.ok (mk q.1, q.2)) := rfl
  rw [e, cb_s2 h1 h2, ho]
  rfl)
theorem fl64 {R : List Nat} : ∀ {Ks : List (List Nat)}, (∀ K ∈ Ks, K.length = 64) → ∀ (q r : Nat), r < 64 → ∀ K : List Nat, Ks[q]? = some K → (Ks.flatten ++ R)[64 * q + r]? = K[r]?
  | [], _, q, _, _, _, h => by simp at h
  | K0 :: Ks, hK, 0, r, hr, K, h => by
    have e : K0 = K := by simpa using h
    subst e
    have h0 := hK K0 (List.mem_cons_self ..)
    rw [List.flatten_cons, List.append_assoc, Nat.mul_zero, Nat.zero_add, List.getElem?_append_left (by omega)]
  | K0 :: Ks, hK, q + 1, r, hr, K, h => by
    have h0 := hK K0 (List.mem_cons_self ..)
    rw [List.flatten_cons, List.append_assoc, List.getElem?_append_right (by omega), show 64 * (q + 1) + r - K0.length = 64 * q + r by omega]
    exact fl64 (fun K hm => hK K (List.mem_cons_of_mem _ hm)) q r hr K (by simpa using h)
theorem fl64_len : ∀ {Ks : List (List Nat)}, (∀ K ∈ Ks, K.length = 64) → Ks.flatten.length = 64 * Ks.length
  | [], _ => rfl
  | K0 :: Ks, h => by
    rw [List.flatten_cons, List.length_append, h K0 (List.mem_cons_self ..), fl64_len (fun K hm => h K (List.mem_cons_of_mem _ hm)), List.length_cons]
    omega
theorem kb_of {c : ByteArray} {K : List Nat} (e : c.data.toList.map UInt8.toNat = K) (r : Nat) {b : Nat} (h : K[r]? = some b) : cb c r = some b := by
  unfold cb
  rw [e]
  exact h
theorem kc_of {c : ByteArray} {Ks : List (List Nat)} {R : List Nat} (e : c.data.toList.map UInt8.toNat = Ks.flatten ++ R) (h64 : ∀ K ∈ Ks, K.length = 64) (i r : Nat) (K : List Nat) (hK : Ks[i]? = some K) {b : Nat} (h : K[r]? = some b) : cb c (64 * i + r) = some b := by
  have hr := (List.getElem?_eq_some_iff.mp h).1
  rw [h64 K (List.mem_of_getElem? hK)] at hr
  unfold cb
  rw [e, fl64 h64 i r hr K hK]
  exact h
theorem kr_of {c : ByteArray} {Ks : List (List Nat)} {R : List Nat} (e : c.data.toList.map UInt8.toNat = Ks.flatten ++ R) (h64 : ∀ K ∈ Ks, K.length = 64) (m r : Nat) (hm : Ks.length = m) {b : Nat} (h : R[r]? = some b) : cb c (64 * m + r) = some b := by
  have hl := fl64_len h64
  rw [hm] at hl
  unfold cb
  rw [e, List.getElem?_append_right (by omega), hl, Nat.add_sub_cancel_left]
  exact h
theorem cb_s1 {c : ByteArray} {p a : Nat} (h : cb c p = some a) : (Reader.s1 : Decoder Int) c p = Except.ok (Reader.signed 8 a, p + 1) := by
  have e : (Reader.s1 : Decoder Int) c p = Except.bind ((Reader.u1 : Decoder Nat) c p) (fun q => Except.ok (Reader.signed 8 q.1, q.2)) := rfl
  rw [e, cb_u1 h]
  rfl
theorem dq1s {c : ByteArray} {pc b x : Nat} {mk : Int → Instr} {k : Nat → Decoder Instr} (hk : Decoder.instr pc = Reader.u1 >>= k) (hb : k b = Reader.s1 >>= fun a => Pure.pure (mk a)) (h : cb c pc = some b) (h1 : cb c (pc + 1) = some x) {o : Int} (ho : Reader.signed 8 x = o) : decode c pc = .ok (mk o, 2) := dq_fin (by
  rw [dq_hd hk h, hb]
  have e : (Reader.s1 >>= fun a => Pure.pure (mk a) : Decoder Instr) c (pc + 1) = Except.bind ((Reader.s1 : Decoder Int) c (pc + 1)) (fun q => Except.ok (mk q.1, q.2)) := rfl
  rw [e, cb_s1 h1, ho]
  rfl)
theorem dq1k {c : ByteArray} {pc b a : Nat} {i : Instr} {k k2 : Nat → Decoder Instr} (hk : Decoder.instr pc = Reader.u1 >>= k) (hb : k b = Reader.u1 >>= k2) (hk2 : k2 a = Pure.pure i) (h : cb c pc = some b) (h1 : cb c (pc + 1) = some a) : decode c pc = .ok (i, 2) := dq_fin (by
  rw [dq_hd hk h, hb]
  have e : (Reader.u1 >>= k2 : Decoder Instr) c (pc + 1) = Except.bind ((Reader.u1 : Decoder Nat) c (pc + 1)) (fun q => k2 q.1 c q.2) := rfl
  rw [e, cb_u1 h1]
  show k2 a c (pc + 1 + 1) = _
  rw [hk2]
  rfl)
theorem dqi {c : ByteArray} {pc b a x : Nat} {mk : Nat → Int → Instr} {k : Nat → Decoder Instr} (hk : Decoder.instr pc = Reader.u1 >>= k) (hb : k b = Reader.u1 >>= fun a => Reader.s1 >>= fun z => Pure.pure (mk a z)) (h : cb c pc = some b) (h1 : cb c (pc + 1) = some a) (h2 : cb c (pc + 1 + 1) = some x) {o : Int} (ho : Reader.signed 8 x = o) : decode c pc = .ok (mk a o, 3) := dq_fin (by
  rw [dq_hd hk h, hb]
  have e : (Reader.u1 >>= fun a => Reader.s1 >>= fun z => Pure.pure (mk a z) : Decoder Instr) c (pc + 1) = Except.bind ((Reader.u1 : Decoder Nat) c (pc + 1)) (fun q => Except.bind ((Reader.s1 : Decoder Int) c q.2) (fun t => Except.ok (mk q.1 t.1, t.2))) := rfl
  rw [e, cb_u1 h1]
  show Except.bind ((Reader.s1 : Decoder Int) c (pc + 1 + 1)) (fun t => Except.ok (mk a t.1, t.2)) = _
  rw [cb_s1 h2, ho]
  rfl)
theorem cb_u4 {c : ByteArray} {p a b d e : Nat} (h0 : cb c p = some a) (h1 : cb c (p + 1) = some b) (h2 : cb c (p + 2) = some d) (h3 : cb c (p + 3) = some e) : (Reader.u4 : Decoder Nat) c p = Except.ok ((a * 256 + b) * 65536 + (d * 256 + e), p + 4) := by
  have e1 : (Reader.u4 : Decoder Nat) c p = Except.bind ((Reader.u2 : Decoder Nat) c p) (fun q => Except.bind ((Reader.u2 : Decoder Nat) c q.2) (fun t => Except.ok (q.1 * 65536 + t.1, t.2))) := rfl
  rw [e1, cb_u2 h0 h1]
  show Except.bind ((Reader.u2 : Decoder Nat) c (p + 2)) (fun t => Except.ok ((a * 256 + b) * 65536 + t.1, t.2)) = _
  rw [cb_u2 h2 (show cb c (p + 2 + 1) = some e from h3)]
  rfl
theorem cb_s4 {c : ByteArray} {p : Nat} (a b d e : Nat) {v : Int} (hv : Reader.signed 32 ((a * 256 + b) * 65536 + (d * 256 + e)) = v) (h0 : cb c p = some a) (h1 : cb c (p + 1) = some b) (h2 : cb c (p + 2) = some d) (h3 : cb c (p + 3) = some e) : (Reader.s4 : Decoder Int) c p = Except.ok (v, p + 4) := by
  have e1 : (Reader.s4 : Decoder Int) c p = Except.bind ((Reader.u4 : Decoder Nat) c p) (fun q => Except.ok (Reader.signed 32 q.1, q.2)) := rfl
  rw [e1, cb_u4 h0 h1 h2 h3, ← hv]
  rfl
def s4s (c : ByteArray) : Nat → List Int → Prop
  | _, [] => True
  | q, v :: vs => (Reader.s4 : Decoder Int) c q = Except.ok (v, q + 4) ∧ s4s c (q + 4) vs
theorem go_s4 {c : ByteArray} : ∀ (vs : List Int) (q : Nat) (acc : Array Int), s4s c q vs → (Reader.times.go (Reader.s4 : Decoder Int) vs.length acc : Decoder (Array Int)) c q = Except.ok (acc ++ vs.toArray, q + 4 * vs.length)
  | [], q, acc, _ => by
    show Except.ok (acc, q) = _
    simp
  | v :: vs, q, acc, h => by
    have e : (Reader.times.go (Reader.s4 : Decoder Int) (v :: vs).length acc : Decoder (Array Int)) c q = Except.bind ((Reader.s4 : Decoder Int) c q) (fun t => (Reader.times.go (Reader.s4 : Decoder Int) vs.length (acc.push t.1) : Decoder (Array Int)) c t.2) := rfl
    rw [e, h.1]
    show (Reader.times.go (Reader.s4 : Decoder Int) vs.length (acc.push v) : Decoder (Array Int)) c (q + 4) = _
    rw [go_s4 vs (q + 4) (acc.push v) h.2, show acc.push v ++ vs.toArray = acc ++ (v :: vs).toArray by simp, show q + 4 + 4 * vs.length = q + 4 * (v :: vs).length by simp only [List.length_cons]; omega]
theorem dbnd {α β : Type} {m : Decoder α} {k : α → Decoder β} {c : ByteArray} {p p2 : Nat} {a : α} (h : m c p = Except.ok (a, p2)) : (m >>= k) c p = k a c p2 := by
  have e : (m >>= k) c p = Except.bind (m c p) (fun q => k q.1 c q.2) := rfl
  rw [e, h]
  rfl
theorem dpad {c : ByteArray} {p b : Nat} (hp : (4 - p % 4) % 4 = 0) (h : cb c p = some b) : (Decoder.padding : Decoder Unit) c p = Except.ok ((), p) := by
  have hs : p < c.size := by
    unfold cb at h
    rw [List.getElem?_map] at h
    obtain ⟨z, hz, -⟩ := Option.map_eq_some_iff.mp h
    exact (List.getElem?_eq_some_iff.mp hz).1
  have e : (Decoder.padding : Decoder Unit) c p = Except.bind ((Reader.bytes ((4 - p % 4) % 4) : Decoder ByteArray) c p) (fun q => Except.ok ((), q.2)) := rfl
  rw [e, hp]
  have e2 : (Reader.bytes 0 : Decoder ByteArray) c p = if p + 0 ≤ c.size then Except.ok (c.extract p (p + 0), p + 0) else Except.error (HasTruncated.truncated c.size) := by
    show (ite (p + 0 ≤ c.size) (do set (p + 0); pure (c.extract p (p + 0)) : Decoder ByteArray) (throw (HasTruncated.truncated c.size))) c p = _
    split <;> rfl
  rw [e2, if_pos (by omega)]
  rfl
theorem dqo_1 {c : ByteArray} {pc : Nat} (h : cb c pc = some 1) : decode c pc = .ok (.aconst_null, 1) := dq0 rfl rfl h
theorem dqo_2 {c : ByteArray} {pc : Nat} (h : cb c pc = some 2) : decode c pc = .ok (.iconst (-1), 1) := dq0 rfl rfl h
theorem dqo_3 {c : ByteArray} {pc : Nat} (h : cb c pc = some 3) : decode c pc = .ok (.iconst 0, 1) := dq0 rfl rfl h
theorem dqo_4 {c : ByteArray} {pc : Nat} (h : cb c pc = some 4) : decode c pc = .ok (.iconst 1, 1) := dq0 rfl rfl h
theorem dqo_5 {c : ByteArray} {pc : Nat} (h : cb c pc = some 5) : decode c pc = .ok (.iconst 2, 1) := dq0 rfl rfl h
theorem dqo_6 {c : ByteArray} {pc : Nat} (h : cb c pc = some 6) : decode c pc = .ok (.iconst 3, 1) := dq0 rfl rfl h
theorem dqo_7 {c : ByteArray} {pc : Nat} (h : cb c pc = some 7) : decode c pc = .ok (.iconst 4, 1) := dq0 rfl rfl h
theorem dqo_8 {c : ByteArray} {pc : Nat} (h : cb c pc = some 8) : decode c pc = .ok (.iconst 5, 1) := dq0 rfl rfl h
theorem dqo_9 {c : ByteArray} {pc : Nat} (h : cb c pc = some 9) : decode c pc = .ok (.lconst 0, 1) := dq0 rfl rfl h
theorem dqo_10 {c : ByteArray} {pc : Nat} (h : cb c pc = some 10) : decode c pc = .ok (.lconst 1, 1) := dq0 rfl rfl h
theorem dqo_26 {c : ByteArray} {pc : Nat} (h : cb c pc = some 26) : decode c pc = .ok (.iload_n 0, 1) := dq0 rfl rfl h
theorem dqo_27 {c : ByteArray} {pc : Nat} (h : cb c pc = some 27) : decode c pc = .ok (.iload_n 1, 1) := dq0 rfl rfl h
theorem dqo_28 {c : ByteArray} {pc : Nat} (h : cb c pc = some 28) : decode c pc = .ok (.iload_n 2, 1) := dq0 rfl rfl h
theorem dqo_29 {c : ByteArray} {pc : Nat} (h : cb c pc = some 29) : decode c pc = .ok (.iload_n 3, 1) := dq0 rfl rfl h
theorem dqo_30 {c : ByteArray} {pc : Nat} (h : cb c pc = some 30) : decode c pc = .ok (.lload_n 0, 1) := dq0 rfl rfl h
theorem dqo_31 {c : ByteArray} {pc : Nat} (h : cb c pc = some 31) : decode c pc = .ok (.lload_n 1, 1) := dq0 rfl rfl h
theorem dqo_32 {c : ByteArray} {pc : Nat} (h : cb c pc = some 32) : decode c pc = .ok (.lload_n 2, 1) := dq0 rfl rfl h
theorem dqo_33 {c : ByteArray} {pc : Nat} (h : cb c pc = some 33) : decode c pc = .ok (.lload_n 3, 1) := dq0 rfl rfl h
theorem dqo_42 {c : ByteArray} {pc : Nat} (h : cb c pc = some 42) : decode c pc = .ok (.aload_n 0, 1) := dq0 rfl rfl h
theorem dqo_43 {c : ByteArray} {pc : Nat} (h : cb c pc = some 43) : decode c pc = .ok (.aload_n 1, 1) := dq0 rfl rfl h
theorem dqo_44 {c : ByteArray} {pc : Nat} (h : cb c pc = some 44) : decode c pc = .ok (.aload_n 2, 1) := dq0 rfl rfl h
theorem dqo_45 {c : ByteArray} {pc : Nat} (h : cb c pc = some 45) : decode c pc = .ok (.aload_n 3, 1) := dq0 rfl rfl h
theorem dqo_46 {c : ByteArray} {pc : Nat} (h : cb c pc = some 46) : decode c pc = .ok (.iaload, 1) := dq0 rfl rfl h
theorem dqo_47 {c : ByteArray} {pc : Nat} (h : cb c pc = some 47) : decode c pc = .ok (.laload, 1) := dq0 rfl rfl h
theorem dqo_50 {c : ByteArray} {pc : Nat} (h : cb c pc = some 50) : decode c pc = .ok (.aaload, 1) := dq0 rfl rfl h
theorem dqo_51 {c : ByteArray} {pc : Nat} (h : cb c pc = some 51) : decode c pc = .ok (.baload, 1) := dq0 rfl rfl h
theorem dqo_59 {c : ByteArray} {pc : Nat} (h : cb c pc = some 59) : decode c pc = .ok (.istore_n 0, 1) := dq0 rfl rfl h
theorem dqo_60 {c : ByteArray} {pc : Nat} (h : cb c pc = some 60) : decode c pc = .ok (.istore_n 1, 1) := dq0 rfl rfl h
theorem dqo_61 {c : ByteArray} {pc : Nat} (h : cb c pc = some 61) : decode c pc = .ok (.istore_n 2, 1) := dq0 rfl rfl h
theorem dqo_62 {c : ByteArray} {pc : Nat} (h : cb c pc = some 62) : decode c pc = .ok (.istore_n 3, 1) := dq0 rfl rfl h
theorem dqo_63 {c : ByteArray} {pc : Nat} (h : cb c pc = some 63) : decode c pc = .ok (.lstore_n 0, 1) := dq0 rfl rfl h
theorem dqo_64 {c : ByteArray} {pc : Nat} (h : cb c pc = some 64) : decode c pc = .ok (.lstore_n 1, 1) := dq0 rfl rfl h
theorem dqo_65 {c : ByteArray} {pc : Nat} (h : cb c pc = some 65) : decode c pc = .ok (.lstore_n 2, 1) := dq0 rfl rfl h
theorem dqo_66 {c : ByteArray} {pc : Nat} (h : cb c pc = some 66) : decode c pc = .ok (.lstore_n 3, 1) := dq0 rfl rfl h
theorem dqo_75 {c : ByteArray} {pc : Nat} (h : cb c pc = some 75) : decode c pc = .ok (.astore_n 0, 1) := dq0 rfl rfl h
theorem dqo_76 {c : ByteArray} {pc : Nat} (h : cb c pc = some 76) : decode c pc = .ok (.astore_n 1, 1) := dq0 rfl rfl h
theorem dqo_77 {c : ByteArray} {pc : Nat} (h : cb c pc = some 77) : decode c pc = .ok (.astore_n 2, 1) := dq0 rfl rfl h
theorem dqo_78 {c : ByteArray} {pc : Nat} (h : cb c pc = some 78) : decode c pc = .ok (.astore_n 3, 1) := dq0 rfl rfl h
theorem dqo_79 {c : ByteArray} {pc : Nat} (h : cb c pc = some 79) : decode c pc = .ok (.iastore, 1) := dq0 rfl rfl h
theorem dqo_80 {c : ByteArray} {pc : Nat} (h : cb c pc = some 80) : decode c pc = .ok (.lastore, 1) := dq0 rfl rfl h
theorem dqo_83 {c : ByteArray} {pc : Nat} (h : cb c pc = some 83) : decode c pc = .ok (.aastore, 1) := dq0 rfl rfl h
theorem dqo_84 {c : ByteArray} {pc : Nat} (h : cb c pc = some 84) : decode c pc = .ok (.bastore, 1) := dq0 rfl rfl h
theorem dqo_87 {c : ByteArray} {pc : Nat} (h : cb c pc = some 87) : decode c pc = .ok (.pop, 1) := dq0 rfl rfl h
theorem dqo_88 {c : ByteArray} {pc : Nat} (h : cb c pc = some 88) : decode c pc = .ok (.pop2, 1) := dq0 rfl rfl h
theorem dqo_89 {c : ByteArray} {pc : Nat} (h : cb c pc = some 89) : decode c pc = .ok (.dup, 1) := dq0 rfl rfl h
theorem dqo_90 {c : ByteArray} {pc : Nat} (h : cb c pc = some 90) : decode c pc = .ok (.dup_x1, 1) := dq0 rfl rfl h
theorem dqo_92 {c : ByteArray} {pc : Nat} (h : cb c pc = some 92) : decode c pc = .ok (.dup2, 1) := dq0 rfl rfl h
theorem dqo_96 {c : ByteArray} {pc : Nat} (h : cb c pc = some 96) : decode c pc = .ok (.iadd, 1) := dq0 rfl rfl h
theorem dqo_97 {c : ByteArray} {pc : Nat} (h : cb c pc = some 97) : decode c pc = .ok (.ladd, 1) := dq0 rfl rfl h
theorem dqo_100 {c : ByteArray} {pc : Nat} (h : cb c pc = some 100) : decode c pc = .ok (.isub, 1) := dq0 rfl rfl h
theorem dqo_101 {c : ByteArray} {pc : Nat} (h : cb c pc = some 101) : decode c pc = .ok (.lsub, 1) := dq0 rfl rfl h
theorem dqo_104 {c : ByteArray} {pc : Nat} (h : cb c pc = some 104) : decode c pc = .ok (.imul, 1) := dq0 rfl rfl h
theorem dqo_105 {c : ByteArray} {pc : Nat} (h : cb c pc = some 105) : decode c pc = .ok (.lmul, 1) := dq0 rfl rfl h
theorem dqo_108 {c : ByteArray} {pc : Nat} (h : cb c pc = some 108) : decode c pc = .ok (.idiv, 1) := dq0 rfl rfl h
theorem dqo_112 {c : ByteArray} {pc : Nat} (h : cb c pc = some 112) : decode c pc = .ok (.irem, 1) := dq0 rfl rfl h
theorem dqo_116 {c : ByteArray} {pc : Nat} (h : cb c pc = some 116) : decode c pc = .ok (.ineg, 1) := dq0 rfl rfl h
theorem dqo_120 {c : ByteArray} {pc : Nat} (h : cb c pc = some 120) : decode c pc = .ok (.ishl, 1) := dq0 rfl rfl h
theorem dqo_122 {c : ByteArray} {pc : Nat} (h : cb c pc = some 122) : decode c pc = .ok (.ishr, 1) := dq0 rfl rfl h
theorem dqo_124 {c : ByteArray} {pc : Nat} (h : cb c pc = some 124) : decode c pc = .ok (.iushr, 1) := dq0 rfl rfl h
theorem dqo_126 {c : ByteArray} {pc : Nat} (h : cb c pc = some 126) : decode c pc = .ok (.iand, 1) := dq0 rfl rfl h
theorem dqo_128 {c : ByteArray} {pc : Nat} (h : cb c pc = some 128) : decode c pc = .ok (.ior, 1) := dq0 rfl rfl h
theorem dqo_130 {c : ByteArray} {pc : Nat} (h : cb c pc = some 130) : decode c pc = .ok (.ixor, 1) := dq0 rfl rfl h
theorem dqo_133 {c : ByteArray} {pc : Nat} (h : cb c pc = some 133) : decode c pc = .ok (.i2l, 1) := dq0 rfl rfl h
theorem dqo_136 {c : ByteArray} {pc : Nat} (h : cb c pc = some 136) : decode c pc = .ok (.l2i, 1) := dq0 rfl rfl h
theorem dqo_145 {c : ByteArray} {pc : Nat} (h : cb c pc = some 145) : decode c pc = .ok (.i2b, 1) := dq0 rfl rfl h
theorem dqo_148 {c : ByteArray} {pc : Nat} (h : cb c pc = some 148) : decode c pc = .ok (.lcmp, 1) := dq0 rfl rfl h
theorem dqo_172 {c : ByteArray} {pc : Nat} (h : cb c pc = some 172) : decode c pc = .ok (.ireturn, 1) := dq0 rfl rfl h
theorem dqo_173 {c : ByteArray} {pc : Nat} (h : cb c pc = some 173) : decode c pc = .ok (.lreturn, 1) := dq0 rfl rfl h
theorem dqo_176 {c : ByteArray} {pc : Nat} (h : cb c pc = some 176) : decode c pc = .ok (.areturn, 1) := dq0 rfl rfl h
theorem dqo_177 {c : ByteArray} {pc : Nat} (h : cb c pc = some 177) : decode c pc = .ok (.return_, 1) := dq0 rfl rfl h
theorem dqo_190 {c : ByteArray} {pc : Nat} (h : cb c pc = some 190) : decode c pc = .ok (.arraylength, 1) := dq0 rfl rfl h
theorem dqo_191 {c : ByteArray} {pc : Nat} (h : cb c pc = some 191) : decode c pc = .ok (.athrow, 1) := dq0 rfl rfl h
theorem dqo_18 {c : ByteArray} {pc : Nat} (a : Nat) (h : cb c pc = some 18) (h1 : cb c (pc + 1) = some a) : decode c pc = .ok (.ldc a, 2) := dq1 (mk := .ldc) rfl rfl h h1
theorem dqo_21 {c : ByteArray} {pc : Nat} (a : Nat) (h : cb c pc = some 21) (h1 : cb c (pc + 1) = some a) : decode c pc = .ok (.iload a, 2) := dq1 (mk := .iload) rfl rfl h h1
theorem dqo_22 {c : ByteArray} {pc : Nat} (a : Nat) (h : cb c pc = some 22) (h1 : cb c (pc + 1) = some a) : decode c pc = .ok (.lload a, 2) := dq1 (mk := .lload) rfl rfl h h1
theorem dqo_25 {c : ByteArray} {pc : Nat} (a : Nat) (h : cb c pc = some 25) (h1 : cb c (pc + 1) = some a) : decode c pc = .ok (.aload a, 2) := dq1 (mk := .aload) rfl rfl h h1
theorem dqo_54 {c : ByteArray} {pc : Nat} (a : Nat) (h : cb c pc = some 54) (h1 : cb c (pc + 1) = some a) : decode c pc = .ok (.istore a, 2) := dq1 (mk := .istore) rfl rfl h h1
theorem dqo_55 {c : ByteArray} {pc : Nat} (a : Nat) (h : cb c pc = some 55) (h1 : cb c (pc + 1) = some a) : decode c pc = .ok (.lstore a, 2) := dq1 (mk := .lstore) rfl rfl h h1
theorem dqo_58 {c : ByteArray} {pc : Nat} (a : Nat) (h : cb c pc = some 58) (h1 : cb c (pc + 1) = some a) : decode c pc = .ok (.astore a, 2) := dq1 (mk := .astore) rfl rfl h h1
theorem dqo_19 {c : ByteArray} {pc : Nat} (x y : Nat) (h : cb c pc = some 19) (h1 : cb c (pc + 1) = some x) (h2 : cb c (pc + 1 + 1) = some y) : decode c pc = .ok (.ldc_w (x * 256 + y), 3) := dq2 (mk := .ldc_w) rfl rfl h h1 h2
theorem dqo_20 {c : ByteArray} {pc : Nat} (x y : Nat) (h : cb c pc = some 20) (h1 : cb c (pc + 1) = some x) (h2 : cb c (pc + 1 + 1) = some y) : decode c pc = .ok (.ldc2_w (x * 256 + y), 3) := dq2 (mk := .ldc2_w) rfl rfl h h1 h2
theorem dqo_178 {c : ByteArray} {pc : Nat} (x y : Nat) (h : cb c pc = some 178) (h1 : cb c (pc + 1) = some x) (h2 : cb c (pc + 1 + 1) = some y) : decode c pc = .ok (.getstatic (x * 256 + y), 3) := dq2 (mk := .getstatic) rfl rfl h h1 h2
theorem dqo_179 {c : ByteArray} {pc : Nat} (x y : Nat) (h : cb c pc = some 179) (h1 : cb c (pc + 1) = some x) (h2 : cb c (pc + 1 + 1) = some y) : decode c pc = .ok (.putstatic (x * 256 + y), 3) := dq2 (mk := .putstatic) rfl rfl h h1 h2
theorem dqo_180 {c : ByteArray} {pc : Nat} (x y : Nat) (h : cb c pc = some 180) (h1 : cb c (pc + 1) = some x) (h2 : cb c (pc + 1 + 1) = some y) : decode c pc = .ok (.getfield (x * 256 + y), 3) := dq2 (mk := .getfield) rfl rfl h h1 h2
theorem dqo_181 {c : ByteArray} {pc : Nat} (x y : Nat) (h : cb c pc = some 181) (h1 : cb c (pc + 1) = some x) (h2 : cb c (pc + 1 + 1) = some y) : decode c pc = .ok (.putfield (x * 256 + y), 3) := dq2 (mk := .putfield) rfl rfl h h1 h2
theorem dqo_182 {c : ByteArray} {pc : Nat} (x y : Nat) (h : cb c pc = some 182) (h1 : cb c (pc + 1) = some x) (h2 : cb c (pc + 1 + 1) = some y) : decode c pc = .ok (.invokevirtual (x * 256 + y), 3) := dq2 (mk := .invokevirtual) rfl rfl h h1 h2
theorem dqo_183 {c : ByteArray} {pc : Nat} (x y : Nat) (h : cb c pc = some 183) (h1 : cb c (pc + 1) = some x) (h2 : cb c (pc + 1 + 1) = some y) : decode c pc = .ok (.invokespecial (x * 256 + y), 3) := dq2 (mk := .invokespecial) rfl rfl h h1 h2
theorem dqo_184 {c : ByteArray} {pc : Nat} (x y : Nat) (h : cb c pc = some 184) (h1 : cb c (pc + 1) = some x) (h2 : cb c (pc + 1 + 1) = some y) : decode c pc = .ok (.invokestatic (x * 256 + y), 3) := dq2 (mk := .invokestatic) rfl rfl h h1 h2
theorem dqo_187 {c : ByteArray} {pc : Nat} (x y : Nat) (h : cb c pc = some 187) (h1 : cb c (pc + 1) = some x) (h2 : cb c (pc + 1 + 1) = some y) : decode c pc = .ok (.new (x * 256 + y), 3) := dq2 (mk := .new) rfl rfl h h1 h2
theorem dqo_189 {c : ByteArray} {pc : Nat} (x y : Nat) (h : cb c pc = some 189) (h1 : cb c (pc + 1) = some x) (h2 : cb c (pc + 1 + 1) = some y) : decode c pc = .ok (.anewarray (x * 256 + y), 3) := dq2 (mk := .anewarray) rfl rfl h h1 h2
theorem dqo_192 {c : ByteArray} {pc : Nat} (x y : Nat) (h : cb c pc = some 192) (h1 : cb c (pc + 1) = some x) (h2 : cb c (pc + 1 + 1) = some y) : decode c pc = .ok (.checkcast (x * 256 + y), 3) := dq2 (mk := .checkcast) rfl rfl h h1 h2
theorem dqo_193 {c : ByteArray} {pc : Nat} (x y : Nat) (h : cb c pc = some 193) (h1 : cb c (pc + 1) = some x) (h2 : cb c (pc + 1 + 1) = some y) : decode c pc = .ok (.instanceof (x * 256 + y), 3) := dq2 (mk := .instanceof) rfl rfl h h1 h2
theorem dqo_17 {c : ByteArray} {pc : Nat} (x y : Nat) {o : Int} (ho : Reader.signed 16 (x * 256 + y) = o) (h : cb c pc = some 17) (h1 : cb c (pc + 1) = some x) (h2 : cb c (pc + 1 + 1) = some y) : decode c pc = .ok (.sipush o, 3) := dq2s (mk := .sipush) rfl rfl h h1 h2 ho
theorem dqo_153 {c : ByteArray} {pc : Nat} (x y : Nat) {o : Int} (ho : Reader.signed 16 (x * 256 + y) = o) (h : cb c pc = some 153) (h1 : cb c (pc + 1) = some x) (h2 : cb c (pc + 1 + 1) = some y) : decode c pc = .ok (.ifCond .eq o, 3) := dq2s (mk := .ifCond .eq) rfl rfl h h1 h2 ho
theorem dqo_154 {c : ByteArray} {pc : Nat} (x y : Nat) {o : Int} (ho : Reader.signed 16 (x * 256 + y) = o) (h : cb c pc = some 154) (h1 : cb c (pc + 1) = some x) (h2 : cb c (pc + 1 + 1) = some y) : decode c pc = .ok (.ifCond .ne o, 3) := dq2s (mk := .ifCond .ne) rfl rfl h h1 h2 ho
theorem dqo_155 {c : ByteArray} {pc : Nat} (x y : Nat) {o : Int} (ho : Reader.signed 16 (x * 256 + y) = o) (h : cb c pc = some 155) (h1 : cb c (pc + 1) = some x) (h2 : cb c (pc + 1 + 1) = some y) : decode c pc = .ok (.ifCond .lt o, 3) := dq2s (mk := .ifCond .lt) rfl rfl h h1 h2 ho
theorem dqo_156 {c : ByteArray} {pc : Nat} (x y : Nat) {o : Int} (ho : Reader.signed 16 (x * 256 + y) = o) (h : cb c pc = some 156) (h1 : cb c (pc + 1) = some x) (h2 : cb c (pc + 1 + 1) = some y) : decode c pc = .ok (.ifCond .ge o, 3) := dq2s (mk := .ifCond .ge) rfl rfl h h1 h2 ho
theorem dqo_157 {c : ByteArray} {pc : Nat} (x y : Nat) {o : Int} (ho : Reader.signed 16 (x * 256 + y) = o) (h : cb c pc = some 157) (h1 : cb c (pc + 1) = some x) (h2 : cb c (pc + 1 + 1) = some y) : decode c pc = .ok (.ifCond .gt o, 3) := dq2s (mk := .ifCond .gt) rfl rfl h h1 h2 ho
theorem dqo_158 {c : ByteArray} {pc : Nat} (x y : Nat) {o : Int} (ho : Reader.signed 16 (x * 256 + y) = o) (h : cb c pc = some 158) (h1 : cb c (pc + 1) = some x) (h2 : cb c (pc + 1 + 1) = some y) : decode c pc = .ok (.ifCond .le o, 3) := dq2s (mk := .ifCond .le) rfl rfl h h1 h2 ho
theorem dqo_159 {c : ByteArray} {pc : Nat} (x y : Nat) {o : Int} (ho : Reader.signed 16 (x * 256 + y) = o) (h : cb c pc = some 159) (h1 : cb c (pc + 1) = some x) (h2 : cb c (pc + 1 + 1) = some y) : decode c pc = .ok (.if_icmp .eq o, 3) := dq2s (mk := .if_icmp .eq) rfl rfl h h1 h2 ho
theorem dqo_160 {c : ByteArray} {pc : Nat} (x y : Nat) {o : Int} (ho : Reader.signed 16 (x * 256 + y) = o) (h : cb c pc = some 160) (h1 : cb c (pc + 1) = some x) (h2 : cb c (pc + 1 + 1) = some y) : decode c pc = .ok (.if_icmp .ne o, 3) := dq2s (mk := .if_icmp .ne) rfl rfl h h1 h2 ho
theorem dqo_161 {c : ByteArray} {pc : Nat} (x y : Nat) {o : Int} (ho : Reader.signed 16 (x * 256 + y) = o) (h : cb c pc = some 161) (h1 : cb c (pc + 1) = some x) (h2 : cb c (pc + 1 + 1) = some y) : decode c pc = .ok (.if_icmp .lt o, 3) := dq2s (mk := .if_icmp .lt) rfl rfl h h1 h2 ho
theorem dqo_162 {c : ByteArray} {pc : Nat} (x y : Nat) {o : Int} (ho : Reader.signed 16 (x * 256 + y) = o) (h : cb c pc = some 162) (h1 : cb c (pc + 1) = some x) (h2 : cb c (pc + 1 + 1) = some y) : decode c pc = .ok (.if_icmp .ge o, 3) := dq2s (mk := .if_icmp .ge) rfl rfl h h1 h2 ho
theorem dqo_163 {c : ByteArray} {pc : Nat} (x y : Nat) {o : Int} (ho : Reader.signed 16 (x * 256 + y) = o) (h : cb c pc = some 163) (h1 : cb c (pc + 1) = some x) (h2 : cb c (pc + 1 + 1) = some y) : decode c pc = .ok (.if_icmp .gt o, 3) := dq2s (mk := .if_icmp .gt) rfl rfl h h1 h2 ho
theorem dqo_164 {c : ByteArray} {pc : Nat} (x y : Nat) {o : Int} (ho : Reader.signed 16 (x * 256 + y) = o) (h : cb c pc = some 164) (h1 : cb c (pc + 1) = some x) (h2 : cb c (pc + 1 + 1) = some y) : decode c pc = .ok (.if_icmp .le o, 3) := dq2s (mk := .if_icmp .le) rfl rfl h h1 h2 ho
theorem dqo_167 {c : ByteArray} {pc : Nat} (x y : Nat) {o : Int} (ho : Reader.signed 16 (x * 256 + y) = o) (h : cb c pc = some 167) (h1 : cb c (pc + 1) = some x) (h2 : cb c (pc + 1 + 1) = some y) : decode c pc = .ok (.goto o, 3) := dq2s (mk := .goto) rfl rfl h h1 h2 ho
theorem dqo_198 {c : ByteArray} {pc : Nat} (x y : Nat) {o : Int} (ho : Reader.signed 16 (x * 256 + y) = o) (h : cb c pc = some 198) (h1 : cb c (pc + 1) = some x) (h2 : cb c (pc + 1 + 1) = some y) : decode c pc = .ok (.ifnull o, 3) := dq2s (mk := .ifnull) rfl rfl h h1 h2 ho
theorem dqo_199 {c : ByteArray} {pc : Nat} (x y : Nat) {o : Int} (ho : Reader.signed 16 (x * 256 + y) = o) (h : cb c pc = some 199) (h1 : cb c (pc + 1) = some x) (h2 : cb c (pc + 1 + 1) = some y) : decode c pc = .ok (.ifnonnull o, 3) := dq2s (mk := .ifnonnull) rfl rfl h h1 h2 ho
theorem dqo_16 {c : ByteArray} {pc : Nat} (x : Nat) {o : Int} (ho : Reader.signed 8 x = o) (h : cb c pc = some 16) (h1 : cb c (pc + 1) = some x) : decode c pc = .ok (.bipush o, 2) := dq1s (mk := .bipush) rfl rfl h h1 ho
theorem dqo_132 {c : ByteArray} {pc : Nat} (a x : Nat) {o : Int} (ho : Reader.signed 8 x = o) (h : cb c pc = some 132) (h1 : cb c (pc + 1) = some a) (h2 : cb c (pc + 1 + 1) = some x) : decode c pc = .ok (.iinc a o, 3) := dqi (mk := .iinc) rfl rfl h h1 h2 ho
theorem dqo_188_4 {c : ByteArray} {pc : Nat} (h : cb c pc = some 188) (h1 : cb c (pc + 1) = some 4) : decode c pc = .ok (.newarray .boolean, 2) := dq1k rfl rfl rfl h h1
theorem dqo_188_8 {c : ByteArray} {pc : Nat} (h : cb c pc = some 188) (h1 : cb c (pc + 1) = some 8) : decode c pc = .ok (.newarray .byte, 2) := dq1k rfl rfl rfl h h1
theorem dqo_188_10 {c : ByteArray} {pc : Nat} (h : cb c pc = some 188) (h1 : cb c (pc + 1) = some 10) : decode c pc = .ok (.newarray .int, 2) := dq1k rfl rfl rfl h h1
theorem dqo_188_11 {c : ByteArray} {pc : Nat} (h : cb c pc = some 188) (h1 : cb c (pc + 1) = some 11) : decode c pc = .ok (.newarray .long, 2) := dq1k rfl rfl rfl h h1
end PT_045
