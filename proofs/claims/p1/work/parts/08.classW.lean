/-! THE CLASS'S WORLD. a: addresses (a 0: this, the two arrays of references; a 1 i: the Parts (0..3 rows, 4..7 windows, 8 spare, 9 left, 10 right); a 2 j: the arrays of items (0..3 rows, 4 spare, 5 left, 6 right); a 3 k: the Cursors).
f: numbers (f 0 i: whose items; 1 row, 2 ground, 3 start, 4 length, 5 isThere of Part i; 6 where, 7 index, 8 last, 9 isThere of Cursor k; -1 is 4294967295); r: items; kn: knocks -/
def up2 {α : Type} (f : Nat → Nat → α) (k i : Nat) (v : α) : Nat → Nat → α := fun k' i' => if k' = k ∧ i' = i then v else f k' i'
theorem up2_eq {α : Type} (f : Nat → Nat → α) (k i : Nat) (v : α) : up2 f k i v k i = v := by simp [up2]
theorem up2_k {α : Type} (f : Nat → Nat → α) {k k' : Nat} (i i' : Nat) (v : α) (h : k' ≠ k) : up2 f k i v k' i' = f k' i' := by simp [up2, h]
theorem up2_i {α : Type} (f : Nat → Nat → α) (k k' : Nat) {i i' : Nat} (v : α) (h : i' ≠ i) : up2 f k i v k' i' = f k' i' := by simp [up2, h]
def pV (a f : Nat → Nat → Nat) (i : Nat) : List Value := [.ref (a 2 (f 0 i)), .int (nI (f 1 i)), .int (nI (f 2 i)), .int (nI (f 3 i)), .int (nI (f 4 i)), .int (nI (f 5 i))]
def uV (f : Nat → Nat → Nat) (k : Nat) : List Value := [.int (nI (f 6 k)), .int (nI (f 7 k)), .int (nI (f 8 k)), .int (nI (f 9 k))]
def sV (a : Nat → Nat → Nat) (kn : Int32) : List Value := [.ref (a 0 1), .ref (a 0 2), .ref (a 1 8), .ref (a 1 9), .ref (a 1 10), .int kn]
def pC (a f : Nat → Nat → Nat) (i : Nat) : Nat × va_E := (a 1 i, .inr (5, pV a f i))
def rC (cy : Nat → ClassId) (a : Nat → Nat → Nat) (r : Nat → Nat → Int32) (j : Nat) : Nat × va_E := (a 2 j, .inl (cy 1, 12, .inl (r j)))
def uC (a f : Nat → Nat → Nat) (k : Nat) : Nat × va_E := (a 3 k, .inr (4, uV f k))
def WC (cy : Nat → ClassId) (a f : Nat → Nat → Nat) (r : Nat → Nat → Int32) (kn : Int32) : va_W :=
  (a 0 0, .inr (6, sV a kn)) :: (a 0 1, .inl (cy 4, 8, .inr (.inr (.inr (.inr (fun i => some (a 1 i))))))) :: (a 0 2, .inl (cy 3, 3, .inr (.inr (.inr (.inr (fun i => some (a 3 i))))))) ::
    ((List.range 11).map (pC a f) ++ ((List.range 7).map (rC cy a r) ++ (List.range 3).map (uC a f)))
section CW
variable {cy : Nat → ClassId} {a f : Nat → Nat → Nat} {r : Nat → Nat → Int32} {kn : Int32} {Y : va_W}
theorem wc_len : (WC cy a f r kn).length = 24 := by simp [WC]
theorem wc_in {k : Nat} (h : k < 24) : (WC cy a f r kn ++ Y)[k]? = (WC cy a f r kn)[k]? := List.getElem?_append_left (by rw [wc_len]; exact h)
theorem wc_p {i : Nat} (hi : i < 11) : (WC cy a f r kn ++ Y)[3 + i]? = some (pC a f i) := by
  rw [wc_in (by omega), show 3 + i = i + 1 + 1 + 1 by omega, WC, List.getElem?_cons_succ, List.getElem?_cons_succ, List.getElem?_cons_succ, List.getElem?_append_left (by simp; exact hi), List.getElem?_map, List.getElem?_range hi]
  rfl
theorem wc_r {j : Nat} (hj : j < 7) : (WC cy a f r kn ++ Y)[14 + j]? = some (rC cy a r j) := by
  rw [wc_in (by omega), show 14 + j = (11 + j) + 1 + 1 + 1 by omega, WC, List.getElem?_cons_succ, List.getElem?_cons_succ, List.getElem?_cons_succ, List.getElem?_append_right (by simp), List.getElem?_append_left (by simp; omega), List.getElem?_map, List.length_map, List.length_range, show 11 + j - 11 = j by omega, List.getElem?_range hj]
  rfl
theorem wc_u {k : Nat} (hk : k < 3) : (WC cy a f r kn ++ Y)[21 + k]? = some (uC a f k) := by
  rw [wc_in (by omega), show 21 + k = (18 + k) + 1 + 1 + 1 by omega, WC, List.getElem?_cons_succ, List.getElem?_cons_succ, List.getElem?_cons_succ, List.getElem?_append_right (by simp; omega), List.getElem?_append_right (by simp; omega), List.getElem?_map, List.length_map, List.length_range, List.length_map, List.length_range, show 18 + k - 11 - 7 = k by omega, List.getElem?_range hk]
  rfl
theorem wc_0 : (WC cy a f r kn ++ Y)[0]? = some (a 0 0, .inr (6, sV a kn)) := rfl
theorem wc_1 : (WC cy a f r kn ++ Y)[1]? = some (a 0 1, .inl (cy 4, 8, .inr (.inr (.inr (.inr (fun i => some (a 1 i))))))) := rfl
theorem wc_2 : (WC cy a f r kn ++ Y)[2]? = some (a 0 2, .inl (cy 3, 3, .inr (.inr (.inr (.inr (fun i => some (a 3 i))))))) := rfl
theorem map_set {α : Type} {n i : Nat} {g g' : Nat → α} (h : ∀ j, j < n → j ≠ i → g' j = g j) : ((List.range n).map g).set i (g' i) = (List.range n).map g' := by
  apply List.ext_getElem?
  intro j
  rw [List.getElem?_set]
  by_cases hj : j < n
  · by_cases hij : i = j
    · subst hij
      simp [hj]
    · simp [hij, hj, h j hj (fun q => hij q.symm)]
  · by_cases hij : i = j
    · subst hij
      simp [hj]
    · simp [hij, hj]
theorem wc_setX {k : Nat} {x : Nat × va_E} (h : k < 24) : (WC cy a f r kn ++ Y).set k x = (WC cy a f r kn).set k x ++ Y := List.set_append_left _ _ (by rw [wc_len]; exact h)
theorem wc_sp {f' : Nat → Nat → Nat} {i : Nat} (hi : i < 11) (hp : ∀ j, j < 11 → j ≠ i → pC a f' j = pC a f j) (hu : ∀ k, k < 3 → uC a f' k = uC a f k) : (WC cy a f r kn ++ Y).set (3 + i) (pC a f' i) = WC cy a f' r kn ++ Y := by
  rw [wc_setX (by omega), show 3 + i = i + 1 + 1 + 1 by omega, WC, List.set_cons_succ, List.set_cons_succ, List.set_cons_succ, List.set_append_left _ _ (by simp; exact hi), map_set hp, WC, List.map_congr_left (l := List.range 3) (fun k hk => (hu k (List.mem_range.mp hk)).symm)]
theorem wc_sr {r' : Nat → Nat → Int32} {j : Nat} (hj : j < 7) (hr : ∀ i, i < 7 → i ≠ j → rC cy a r' i = rC cy a r i) : (WC cy a f r kn ++ Y).set (14 + j) (rC cy a r' j) = WC cy a f r' kn ++ Y := by
  rw [wc_setX (by omega), show 14 + j = (11 + j) + 1 + 1 + 1 by omega, WC, List.set_cons_succ, List.set_cons_succ, List.set_cons_succ, List.set_append_right _ _ (by simp), List.set_append_left _ _ (by simp; omega), List.length_map, List.length_range, show 11 + j - 11 = j by omega, map_set hr, WC]
theorem wc_su {f' : Nat → Nat → Nat} {k : Nat} (hk : k < 3) (hp : ∀ j, j < 11 → pC a f' j = pC a f j) (hu : ∀ i, i < 3 → i ≠ k → uC a f' i = uC a f i) : (WC cy a f r kn ++ Y).set (21 + k) (uC a f' k) = WC cy a f' r kn ++ Y := by
  rw [wc_setX (by omega), show 21 + k = (18 + k) + 1 + 1 + 1 by omega, WC, List.set_cons_succ, List.set_cons_succ, List.set_cons_succ, List.set_append_right _ _ (by simp; omega), List.set_append_right _ _ (by simp; omega), List.length_map, List.length_range, List.length_map, List.length_range, show 18 + k - 11 - 7 = k by omega, map_set hu, WC, List.map_congr_left (l := List.range 11) (fun k hk => (hp k (List.mem_range.mp hk)).symm)]
theorem rC_eq {r' : Nat → Nat → Int32} {j : Nat} (h : r' j = r j) : rC cy a r' j = rC cy a r j := by
  unfold rC
  rw [h]
theorem wc_sk (kn' : Int32) : (WC cy a f r kn ++ Y).set 0 (a 0 0, .inr (6, sV a kn')) = WC cy a f r kn' ++ Y := rfl
end CW
section GR
variable {p : Program} {l : Launch} {e : Env} {R : Room} {s : State} {m : MethodId} {args : Array Value} {below : List Frame} {meth : Method} {c : Code} {D : va_G} {cy : Nat → ClassId} {A : Nat → Prop} {Q : State → Prop} {nL cells slots : Nat} {w : va_W} {lv : List (Option Value)} {pc : Nat} {st : List Value} {cc : ByteArray} {own : String} {X : (Nat → Prop) → State → Heap → Prop}
/-- fields, of any class -/
theorem g_get (C : Fg p s m args meth c cc nL own D cy A) {Cl ref : String} {T : u_T} {N ci b index : Nat} (hin : ∀ w ∈ u_ws Cl T N, w ∈ GW) (hc : vwCl[ci]? = some (Cl, T, N)) (q0 : Nat) {fs : List Value} (he : w[q0]? = some (b, .inr (ci, fs))) (k : Nat) (hk : k < N) (hq : Cond.fieldLink own index ref (T k).2.1 (T k).2.2.1 ∈ GW) (hs : (T k).1 = ref) {v : Value} (hv : fs[k]? = some v) (d : decode cc pc = .ok (.getfield index, 3))
    (kk : vW p l e R s m args below meth c D vwCl A Q nL cells slots w lv (pc + 3) (v :: st)) : vW p l e R s m args below meth c D vwCl A Q nL cells slots w lv pc (.ref b :: st) := fun H locs ls hP hD hS hl =>
  va_get C.1 C.2.1 C.2.2.2.2.1 hin C.2.2.2.1 C.2.2.2.2.2.1 hP q0 he hc k hk (C.2.2.2.2.1 _ hq) (fun x hx => by rw [← hs]; exact hx) hv d (kk H locs ls hP hD hS hl)
theorem g_getN (hX : EnvX X) (C : Fg p s m args meth c cc nL own D cy A) (hE : X A s s.heap) {Cl ref host : String} {T : u_T} {N ci b index : Nat} (hin : ∀ w ∈ u_ws Cl T N, w ∈ GW) (hc : vwCl[ci]? = some (Cl, T, N)) (q0 : Nat) {fs : List Value} (he : w[q0]? = some (b, .inr (ci, fs))) (k : Nat) (hk : k < N) (hq : Cond.fieldLinkNest own index ref (T k).2.1 (T k).2.2.1 host ∈ NWL) (hs : (T k).1 = ref) {v : Value} (hv : fs[k]? = some v) (d : decode cc pc = .ok (.getfield index, 3))
    (kk : vW p l e R s m args below meth c D vwCl A Q nL cells slots w lv (pc + 3) (v :: st)) : vW p l e R s m args below meth c D vwCl A Q nL cells slots w lv pc (.ref b :: st) := fun H locs ls hP hD hS hl =>
  va_getN C.1 C.2.1 C.2.2.2.2.1 hin C.2.2.2.1 C.2.2.2.2.2.1 hP q0 he hc k hk (hX.nw hq rfl hE) (fun x hx => by rw [← hs]; exact hx) hv d (kk H locs ls hP hD hS hl)
theorem g_put (C : Fg p s m args meth c cc nL own D cy A) {Cl ref : String} {T : u_T} {N ci b index : Nat} (hin : ∀ w ∈ u_ws Cl T N, w ∈ GW) (ty0 : Nat → FieldType) (hty : ∀ k, k < N → parseFieldDescriptor (T k).2.2.1 = some (ty0 k)) (hnm : ∀ a, a < N → ∀ b, b < N → a ≠ b → (T a).2.1 ≠ (T b).2.1) (hc : vwCl[ci]? = some (Cl, T, N)) (q0 : Nat) {fs : List Value} (he : w[q0]? = some (b, .inr (ci, fs))) (k : Nat) (hk : k < N) (hq : Cond.fieldLink own index ref (T k).2.1 (T k).2.2.1 ∈ GW) (hs : (T k).1 = ref) (hfin : (T k).2.2.2 = false) {ty : FieldType} {v : Value} (hd : parseFieldDescriptor (T k).2.2.1 = some ty) (hn : narrow ty v = v) (hfit : fits ty v = true) (hlen : k < fs.length) (d : decode cc pc = .ok (.putfield index, 3)) {w' : va_W} (hw : w.set q0 (b, .inr (ci, fs.set k v)) = w')
    (kk : vW p l e R s m args below meth c D vwCl A Q nL cells slots w' lv (pc + 3) st) : vW p l e R s m args below meth c D vwCl A Q nL cells slots w lv pc (v :: .ref b :: st) := fun H locs ls hP hD hS hl =>
  va_put C.1 C.2.1 C.2.2.2.2.1 hin ty0 hty hnm C.2.2.2.1 C.2.2.2.2.2.1 hP hD hS q0 he hc k hk (C.2.2.2.2.1 _ hq) (fun x hx => by rw [← hs]; exact hx) hfin hd hn hfit hlen d (fun H1 locs1 hP hD hS => kk H1 locs1 ls (hw ▸ hP) (hw ▸ hD) hS hl)
theorem g_putF (C : Fg p s m args meth c cc nL own D cy A) {Cl ref : String} {T : u_T} {N ci b index : Nat} (hin : ∀ w ∈ u_ws Cl T N, w ∈ GW) (ty0 : Nat → FieldType) (hty : ∀ k, k < N → parseFieldDescriptor (T k).2.2.1 = some (ty0 k)) (hnm : ∀ a, a < N → ∀ b, b < N → a ≠ b → (T a).2.1 ≠ (T b).2.1) (hc : vwCl[ci]? = some (Cl, T, N)) (q0 : Nat) {fs : List Value} (he : w[q0]? = some (b, .inr (ci, fs))) (k : Nat) (hk : k < N) (hq : Cond.fieldLink own index ref (T k).2.1 (T k).2.2.1 ∈ GW) (hs : (T k).1 = ref) (hfin : (T k).2.2.2 = true) (hin2 : meth.name = "<init>") (hdecl : (T k).1 = own) {ty : FieldType} {v : Value} (hd : parseFieldDescriptor (T k).2.2.1 = some ty) (hn : narrow ty v = v) (hfit : fits ty v = true) (hlen : k < fs.length) (d : decode cc pc = .ok (.putfield index, 3)) {w' : va_W} (hw : w.set q0 (b, .inr (ci, fs.set k v)) = w')
    (kk : vW p l e R s m args below meth c D vwCl A Q nL cells slots w' lv (pc + 3) st) : vW p l e R s m args below meth c D vwCl A Q nL cells slots w lv pc (v :: .ref b :: st) := fun H locs ls hP hD hS hl =>
  va_putF C.1 C.2.1 C.2.2.2.2.1 hin ty0 hty hnm C.2.2.2.1 C.2.2.2.2.2.1 hP hD hS q0 he hc k hk (C.2.2.2.2.1 _ hq) (fun x hx => by rw [← hs]; exact hx) hfin hin2 hdecl hd hn hfit hlen d (fun H1 locs1 hP hD hS => kk H1 locs1 ls (hw ▸ hP) (hw ▸ hD) hS hl)
theorem g_putN (hX : EnvX X) (C : Fg p s m args meth c cc nL own D cy A) (hE : X A s s.heap) {Cl ref host : String} {T : u_T} {N ci b index : Nat} (hin : ∀ w ∈ u_ws Cl T N, w ∈ GW) (ty0 : Nat → FieldType) (hty : ∀ k, k < N → parseFieldDescriptor (T k).2.2.1 = some (ty0 k)) (hnm : ∀ a, a < N → ∀ b, b < N → a ≠ b → (T a).2.1 ≠ (T b).2.1) (hc : vwCl[ci]? = some (Cl, T, N)) (q0 : Nat) {fs : List Value} (he : w[q0]? = some (b, .inr (ci, fs))) (k : Nat) (hk : k < N) (hq : Cond.fieldLinkNest own index ref (T k).2.1 (T k).2.2.1 host ∈ NWL) (hs : (T k).1 = ref) (hfin : (T k).2.2.2 = false) {ty : FieldType} {v : Value} (hd : parseFieldDescriptor (T k).2.2.1 = some ty) (hn : narrow ty v = v) (hfit : fits ty v = true) (hlen : k < fs.length) (d : decode cc pc = .ok (.putfield index, 3)) {w' : va_W} (hw : w.set q0 (b, .inr (ci, fs.set k v)) = w')
    (kk : vW p l e R s m args below meth c D vwCl A Q nL cells slots w' lv (pc + 3) st) : vW p l e R s m args below meth c D vwCl A Q nL cells slots w lv pc (v :: .ref b :: st) := fun H locs ls hP hD hS hl =>
  va_putN C.1 C.2.1 C.2.2.2.2.1 hin ty0 hty hnm C.2.2.2.1 C.2.2.2.2.2.1 hP hD hS q0 he hc k hk (hX.nw hq rfl hE) (fun x hx => by rw [← hs]; exact hx) hfin hd hn hfit hlen d (fun H1 locs1 hP hD hS => kk H1 locs1 ls (hw ▸ hP) (hw ▸ hD) hS hl)
/-- arrays: the index a natural -/
theorem g_iald (C : Fg p s m args meth c cc nL own D cy A) {b n i : Nat} {f : Nat → Int32} (q0 : Nat) (he : w[q0]? = some (b, .inl (cy 1, n, .inl f))) (hi : i < n) (hn : n < 2147483648) (d : decode cc pc = .ok (.iaload, 1)) (kk : vW p l e R s m args below meth c D vwCl A Q nL cells slots w lv (pc + 1) (.int (f i) :: st)) : vW p l e R s m args below meth c D vwCl A Q nL cells slots w lv pc (.int (nI i) :: .ref b :: st) := fun H locs ls hP hD hS hl =>
  va_iald C.1 C.2.1 C.2.2.2.2.2.1 hP q0 1 he rfl (vp_in_nI hi hn) d (by rw [nI_clamp (by omega)]; exact kk H locs ls hP hD hS hl)
theorem g_zald (C : Fg p s m args meth c cc nL own D cy A) {b n i : Nat} {f : Nat → Int32} (q0 : Nat) (he : w[q0]? = some (b, .inl (cy 2, n, .inl f))) (hi : i < n) (hn : n < 2147483648) (d : decode cc pc = .ok (.baload, 1)) (kk : vW p l e R s m args below meth c D vwCl A Q nL cells slots w lv (pc + 1) (.int (f i) :: st)) : vW p l e R s m args below meth c D vwCl A Q nL cells slots w lv pc (.int (nI i) :: .ref b :: st) := fun H locs ls hP hD hS hl =>
  va_zald C.1 C.2.1 C.2.2.2.2.2.1 hP q0 2 he rfl (vp_in_nI hi hn) d (by rw [nI_clamp (by omega)]; exact kk H locs ls hP hD hS hl)
theorem g_bald (C : Fg p s m args meth c cc nL own D cy A) {b n i : Nat} {f : Nat → Int32} (q0 : Nat) (he : w[q0]? = some (b, .inl (cy 0, n, .inl f))) (hi : i < n) (hn : n < 2147483648) (d : decode cc pc = .ok (.baload, 1)) (kk : vW p l e R s m args below meth c D vwCl A Q nL cells slots w lv (pc + 1) (.int (f i) :: st)) : vW p l e R s m args below meth c D vwCl A Q nL cells slots w lv pc (.int (nI i) :: .ref b :: st) := fun H locs ls hP hD hS hl =>
  va_bald C.1 C.2.1 C.2.2.2.2.2.1 hP q0 0 he rfl (vp_in_nI hi hn) d (by rw [nI_clamp (by omega)]; exact kk H locs ls hP hD hS hl)
theorem g_iast (C : Fg p s m args meth c cc nL own D cy A) {b n i : Nat} {f : Nat → Int32} {x : Int32} (q0 : Nat) (he : w[q0]? = some (b, .inl (cy 1, n, .inl f))) (hi : i < n) (hn : n < 2147483648) (d : decode cc pc = .ok (.iastore, 1)) {w' : va_W} (hw : w.set q0 (b, .inl (cy 1, n, .inl (upd f i x))) = w') (kk : vW p l e R s m args below meth c D vwCl A Q nL cells slots w' lv (pc + 1) st) : vW p l e R s m args below meth c D vwCl A Q nL cells slots w lv pc (.int x :: .int (nI i) :: .ref b :: st) := fun H locs ls hP hD hS hl =>
  va_iast C.1 C.2.1 C.2.2.2.2.2.1 hP hD hS q0 1 he rfl (vp_in_nI hi hn) d (fun H1 locs1 hP hD hS => by
    rw [nI_clamp (by omega)] at hP hD
    exact kk H1 locs1 ls (hw ▸ hP) (hw ▸ hD) hS hl)
theorem g_zast (C : Fg p s m args meth c cc nL own D cy A) {b n i v : Nat} {f : Nat → Int32} (q0 : Nat) (he : w[q0]? = some (b, .inl (cy 2, n, .inl f))) (hi : i < n) (hn : n < 2147483648) (hv : v ≤ 1) (d : decode cc pc = .ok (.bastore, 1)) {w' : va_W} (hw : w.set q0 (b, .inl (cy 2, n, .inl (upd f i (nI v)))) = w') (kk : vW p l e R s m args below meth c D vwCl A Q nL cells slots w' lv (pc + 1) st) : vW p l e R s m args below meth c D vwCl A Q nL cells slots w lv pc (.int (nI v) :: .int (nI i) :: .ref b :: st) := fun H locs ls hP hD hS hl =>
  va_zast C.1 C.2.1 C.2.2.2.2.2.1 hP hD hS q0 2 he rfl (vp_in_nI hi hn) d (fun H1 locs1 hP hD hS => by
    have hb : vp_nar .boolean (nI v) = nI v := by rcases (show v = 0 ∨ v = 1 by omega) with rfl | rfl <;> rfl
    rw [nI_clamp (by omega), hb] at hP hD
    exact kk H1 locs1 ls (hw ▸ hP) (hw ▸ hD) hS hl)
theorem g_alen (C : Fg p s m args meth c cc nL own D cy A) {b t0 : Nat} {ty : FieldType} {x : vp_A} {cA : ClassId} (q0 : Nat) (he : w[q0]? = some (b, .inl (cA, x))) (ht : (tysL cy)[t0]? = some (cA, ty)) (d : decode cc pc = .ok (.arraylength, 1)) (kk : vW p l e R s m args below meth c D vwCl A Q nL cells slots w lv (pc + 1) (.int (nI x.1) :: st)) : vW p l e R s m args below meth c D vwCl A Q nL cells slots w lv pc (.ref b :: st) := fun H locs ls hP hD hS hl =>
  va_alen C.1 C.2.1 C.2.2.2.2.2.1 hP q0 t0 he ht rfl d (kk H locs ls hP hD hS hl)
theorem g_aald (C : Fg p s m args meth c cc nL own D cy A) {b n i t0 : Nat} {cA : ClassId} {Cn : String} {f : Nat → Option Nat} {x : Nat} (q0 : Nat) (he : w[q0]? = some (b, .inl (cA, n, .inr (.inr (.inr (.inr f)))))) (ht : (tysL cy)[t0]? = some (cA, .object Cn)) (hi : i < n) (hn : n < 2147483648) (hx : f i = some x) (d : decode cc pc = .ok (.aaload, 1)) (kk : vW p l e R s m args below meth c D vwCl A Q nL cells slots w lv (pc + 1) (.ref x :: st)) : vW p l e R s m args below meth c D vwCl A Q nL cells slots w lv pc (.int (nI i) :: .ref b :: st) := fun H locs ls hP hD hS hl =>
  va_aldq C.1 C.2.1 C.2.2.2.2.2.1 hP q0 t0 he ht (vp_in_nI hi hn) d (by rw [nI_clamp (by omega), hx]; exact kk H locs ls hP hD hS hl)
end GR
section CR
variable {p : Program} {l : Launch} {e : Env} {R : Room} {s : State} {m : MethodId} {args : Array Value} {below : List Frame} {meth : Method} {c : Code} {D : va_G} {cy : Nat → ClassId} {A : Nat → Prop} {Q : State → Prop} {nL cells slots : Nat} {Y : va_W} {lv : List (Option Value)} {pc : Nat} {st : List Value} {cc : ByteArray} {own : String} {X : (Nat → Prop) → State → Heap → Prop} {a f : Nat → Nat → Nat} {r : Nat → Nat → Int32} {kn : Int32}
abbrev vC (p : Program) (l : Launch) (e : Env) (R : Room) (s : State) (m : MethodId) (args : Array Value) (below : List Frame) (meth : Method) (c : Code) (D : va_G) (A : Nat → Prop) (Q : State → Prop) (nL cells slots : Nat) (w : va_W) (lv : List (Option Value)) (pc : Nat) (st : List Value) : Prop := vW p l e R s m args below meth c D vwCl A Q nL cells slots w lv pc st
/-- a Part's field, from the Part itself and from its nest mates -/
theorem p_get (C : Fg p s m args meth c cc nL RX1 D cy A) {i index : Nat} (k : Nat) {v : Value} (hi : i < 11) (hk : k < 6) (hq : Cond.fieldLink RX1 index RX1 (TX1 k).2.1 (TX1 k).2.2.1 ∈ GW) (hs : (TX1 k).1 = RX1) (hv : (pV a f i)[k]? = some v) (d : decode cc pc = .ok (.getfield index, 3)) (kk : vC p l e R s m args below meth c D A Q nL cells slots (WC cy a f r kn ++ Y) lv (pc + 3) (v :: st)) : vC p l e R s m args below meth c D A Q nL cells slots (WC cy a f r kn ++ Y) lv pc (.ref (a 1 i) :: st) :=
  g_get C qu_X1 (ci := 5) rfl (3 + i) (wc_p hi) k hk hq hs hv d kk
theorem p_getN (hX : EnvX X) (C : Fg p s m args meth c cc nL own D cy A) (hE : X A s s.heap) {i index : Nat} (k : Nat) {v : Value} (hi : i < 11) (hk : k < 6) (hq : Cond.fieldLinkNest own index RX1 (TX1 k).2.1 (TX1 k).2.2.1 RX2 ∈ NWL) (hs : (TX1 k).1 = RX1) (hv : (pV a f i)[k]? = some v) (d : decode cc pc = .ok (.getfield index, 3)) (kk : vC p l e R s m args below meth c D A Q nL cells slots (WC cy a f r kn ++ Y) lv (pc + 3) (v :: st)) : vC p l e R s m args below meth c D A Q nL cells slots (WC cy a f r kn ++ Y) lv pc (.ref (a 1 i) :: st) :=
  g_getN hX C hE qu_X1 (ci := 5) rfl (3 + i) (wc_p hi) k hk hq hs hv d kk
theorem wc_put (k : Nat) {i v : Nat} (hi : i < 11) (hk : 0 < k) (hk6 : k < 6) : (WC cy a f r kn ++ Y).set (3 + i) (a 1 i, .inr (5, (pV a f i).set k (.int (nI v)))) = WC cy a (up2 f k i v) r kn ++ Y := by
  rw [← wc_sp (f' := up2 f k i v) hi]
  · congr 1
    unfold pC pV
    rcases (show k = 1 ∨ k = 2 ∨ k = 3 ∨ k = 4 ∨ k = 5 by omega) with rfl | rfl | rfl | rfl | rfl <;> simp [up2]
  · intro j _ hj
    unfold pC pV
    simp [up2, hj]
  · intro j _
    unfold uC uV
    simp [up2, show 6 ≠ k by omega, show 7 ≠ k by omega, show 8 ≠ k by omega, show 9 ≠ k by omega]
theorem wc_put0 {i v : Nat} (hi : i < 11) : (WC cy a f r kn ++ Y).set (3 + i) (a 1 i, .inr (5, (pV a f i).set 0 (.ref (a 2 v)))) = WC cy a (up2 f 0 i v) r kn ++ Y := by
  rw [← wc_sp (f' := up2 f 0 i v) hi]
  · congr 1
    unfold pC pV
    simp [up2]
  · intro j _ hj
    unfold pC pV
    simp [up2, hj]
  · intro j _
    unfold uC uV
    simp [up2]
theorem p_put (C : Fg p s m args meth c cc nL RX1 D cy A) {i index v : Nat} (k : Nat) (hi : i < 11) (hk : 0 < k) (hk5 : k < 5) (hq : Cond.fieldLink RX1 index RX1 (TX1 k).2.1 (TX1 k).2.2.1 ∈ GW) (hs : (TX1 k).1 = RX1) (hf : (TX1 k).2.2.2 = false) (hd : parseFieldDescriptor (TX1 k).2.2.1 = some .int) (d : decode cc pc = .ok (.putfield index, 3)) (kk : vC p l e R s m args below meth c D A Q nL cells slots (WC cy a (up2 f k i v) r kn ++ Y) lv (pc + 3) st) : vC p l e R s m args below meth c D A Q nL cells slots (WC cy a f r kn ++ Y) lv pc (.int (nI v) :: .ref (a 1 i) :: st) :=
  g_put C qu_X1 tyX1 tyX1_ok nmX1 (ci := 5) rfl (3 + i) (wc_p hi) k (by omega) hq hs hf hd rfl rfl (show k < 6 by omega) d (wc_put k hi hk (by omega)) kk
theorem p_putZ (C : Fg p s m args meth c cc nL RX1 D cy A) {i index v : Nat} (hi : i < 11) (hv : v ≤ 1) (hq : Cond.fieldLink RX1 index RX1 "isThere" "Z" ∈ GW) (d : decode cc pc = .ok (.putfield index, 3)) (kk : vC p l e R s m args below meth c D A Q nL cells slots (WC cy a (up2 f 5 i v) r kn ++ Y) lv (pc + 3) st) : vC p l e R s m args below meth c D A Q nL cells slots (WC cy a f r kn ++ Y) lv pc (.int (nI v) :: .ref (a 1 i) :: st) :=
  g_put C qu_X1 tyX1 tyX1_ok nmX1 (ci := 5) rfl (3 + i) (wc_p hi) 5 (by omega) hq rfl rfl (ty := .boolean) rfl (by rcases (show v = 0 ∨ v = 1 by omega) with rfl | rfl <;> rfl) (by rcases (show v = 0 ∨ v = 1 by omega) with rfl | rfl <;> rfl) (show 5 < 6 by omega) d (wc_put 5 hi (by omega) (by omega)) kk
theorem p_putR (C : Fg p s m args meth c cc nL RX1 D cy A) {i index v : Nat} (hi : i < 11) (hq : Cond.fieldLink RX1 index RX1 "items" "[I" ∈ GW) (d : decode cc pc = .ok (.putfield index, 3)) (kk : vC p l e R s m args below meth c D A Q nL cells slots (WC cy a (up2 f 0 i v) r kn ++ Y) lv (pc + 3) st) : vC p l e R s m args below meth c D A Q nL cells slots (WC cy a f r kn ++ Y) lv pc (.ref (a 2 v) :: .ref (a 1 i) :: st) :=
  g_put C qu_X1 tyX1 tyX1_ok nmX1 (ci := 5) rfl (3 + i) (wc_p hi) 0 (by omega) hq rfl rfl (ty := .array .int) rfl rfl rfl (show 0 < 6 by omega) d (wc_put0 hi) kk
theorem p_putN (hX : EnvX X) (C : Fg p s m args meth c cc nL own D cy A) (hE : X A s s.heap) {i index v : Nat} (k : Nat) (hi : i < 11) (hk : 0 < k) (hk5 : k < 5) (hq : Cond.fieldLinkNest own index RX1 (TX1 k).2.1 (TX1 k).2.2.1 RX2 ∈ NWL) (hs : (TX1 k).1 = RX1) (hf : (TX1 k).2.2.2 = false) (hd : parseFieldDescriptor (TX1 k).2.2.1 = some .int) (d : decode cc pc = .ok (.putfield index, 3)) (kk : vC p l e R s m args below meth c D A Q nL cells slots (WC cy a (up2 f k i v) r kn ++ Y) lv (pc + 3) st) : vC p l e R s m args below meth c D A Q nL cells slots (WC cy a f r kn ++ Y) lv pc (.int (nI v) :: .ref (a 1 i) :: st) :=
  g_putN hX C hE qu_X1 tyX1 tyX1_ok nmX1 (ci := 5) rfl (3 + i) (wc_p hi) k (by omega) hq hs hf hd rfl rfl (show k < 6 by omega) d (wc_put k hi hk (by omega)) kk
theorem p_putZN (hX : EnvX X) (C : Fg p s m args meth c cc nL own D cy A) (hE : X A s s.heap) {i index v : Nat} (hi : i < 11) (hv : v ≤ 1) (hq : Cond.fieldLinkNest own index RX1 "isThere" "Z" RX2 ∈ NWL) (d : decode cc pc = .ok (.putfield index, 3)) (kk : vC p l e R s m args below meth c D A Q nL cells slots (WC cy a (up2 f 5 i v) r kn ++ Y) lv (pc + 3) st) : vC p l e R s m args below meth c D A Q nL cells slots (WC cy a f r kn ++ Y) lv pc (.int (nI v) :: .ref (a 1 i) :: st) :=
  g_putN hX C hE qu_X1 tyX1 tyX1_ok nmX1 (ci := 5) rfl (3 + i) (wc_p hi) 5 (by omega) hq rfl rfl (ty := .boolean) rfl (by rcases (show v = 0 ∨ v = 1 by omega) with rfl | rfl <;> rfl) (by rcases (show v = 0 ∨ v = 1 by omega) with rfl | rfl <;> rfl) (show 5 < 6 by omega) d (wc_put 5 hi (by omega) (by omega)) kk
/-- a Cursor's field -/
theorem wc_putU (k : Nat) {i v : Nat} (hi : i < 3) (hk : k < 4) : (WC cy a f r kn ++ Y).set (21 + i) (a 3 i, .inr (4, (uV f i).set k (.int (nI v)))) = WC cy a (up2 f (6 + k) i v) r kn ++ Y := by
  rw [← wc_su (f' := up2 f (6 + k) i v) hi]
  · congr 1
    unfold uC uV
    rcases (show k = 0 ∨ k = 1 ∨ k = 2 ∨ k = 3 by omega) with rfl | rfl | rfl | rfl <;> simp [up2]
  · intro j _
    unfold pC pV
    simp [up2, show 0 ≠ 6 + k by omega, show 1 ≠ 6 + k by omega, show 2 ≠ 6 + k by omega, show 3 ≠ 6 + k by omega, show 4 ≠ 6 + k by omega, show 5 ≠ 6 + k by omega]
  · intro j _ hj
    unfold uC uV
    simp [up2, hj]
theorem u_get (C : Fg p s m args meth c cc nL RX0 D cy A) {i index : Nat} (k : Nat) {v : Value} (hi : i < 3) (hk : k < 4) (hq : Cond.fieldLink RX0 index RX0 (TX0 k).2.1 (TX0 k).2.2.1 ∈ GW) (hs : (TX0 k).1 = RX0) (hv : (uV f i)[k]? = some v) (d : decode cc pc = .ok (.getfield index, 3)) (kk : vC p l e R s m args below meth c D A Q nL cells slots (WC cy a f r kn ++ Y) lv (pc + 3) (v :: st)) : vC p l e R s m args below meth c D A Q nL cells slots (WC cy a f r kn ++ Y) lv pc (.ref (a 3 i) :: st) :=
  g_get C qu_X0 (ci := 4) rfl (21 + i) (wc_u hi) k hk hq hs hv d kk
theorem u_getN (hX : EnvX X) (C : Fg p s m args meth c cc nL own D cy A) (hE : X A s s.heap) {i index : Nat} (k : Nat) {v : Value} (hi : i < 3) (hk : k < 4) (hq : Cond.fieldLinkNest own index RX0 (TX0 k).2.1 (TX0 k).2.2.1 RX2 ∈ NWL) (hs : (TX0 k).1 = RX0) (hv : (uV f i)[k]? = some v) (d : decode cc pc = .ok (.getfield index, 3)) (kk : vC p l e R s m args below meth c D A Q nL cells slots (WC cy a f r kn ++ Y) lv (pc + 3) (v :: st)) : vC p l e R s m args below meth c D A Q nL cells slots (WC cy a f r kn ++ Y) lv pc (.ref (a 3 i) :: st) :=
  g_getN hX C hE qu_X0 (ci := 4) rfl (21 + i) (wc_u hi) k hk hq hs hv d kk
theorem u_put (C : Fg p s m args meth c cc nL RX0 D cy A) {i index v : Nat} (k : Nat) (hi : i < 3) (hk : k < 3) (hq : Cond.fieldLink RX0 index RX0 (TX0 k).2.1 (TX0 k).2.2.1 ∈ GW) (hs : (TX0 k).1 = RX0) (hf : (TX0 k).2.2.2 = false) (hd : parseFieldDescriptor (TX0 k).2.2.1 = some .int) (d : decode cc pc = .ok (.putfield index, 3)) (kk : vC p l e R s m args below meth c D A Q nL cells slots (WC cy a (up2 f (6 + k) i v) r kn ++ Y) lv (pc + 3) st) : vC p l e R s m args below meth c D A Q nL cells slots (WC cy a f r kn ++ Y) lv pc (.int (nI v) :: .ref (a 3 i) :: st) :=
  g_put C qu_X0 tyX0 tyX0_ok nmX0 (ci := 4) rfl (21 + i) (wc_u hi) k (by omega) hq hs hf hd rfl rfl (show k < 4 by omega) d (wc_putU k hi (by omega)) kk
theorem u_putZ (C : Fg p s m args meth c cc nL RX0 D cy A) {i index v : Nat} (hi : i < 3) (hv : v ≤ 1) (hq : Cond.fieldLink RX0 index RX0 "isThere" "Z" ∈ GW) (d : decode cc pc = .ok (.putfield index, 3)) (kk : vC p l e R s m args below meth c D A Q nL cells slots (WC cy a (up2 f 9 i v) r kn ++ Y) lv (pc + 3) st) : vC p l e R s m args below meth c D A Q nL cells slots (WC cy a f r kn ++ Y) lv pc (.int (nI v) :: .ref (a 3 i) :: st) :=
  g_put C qu_X0 tyX0 tyX0_ok nmX0 (ci := 4) rfl (21 + i) (wc_u hi) 3 (by omega) hq rfl rfl (ty := .boolean) rfl (by rcases (show v = 0 ∨ v = 1 by omega) with rfl | rfl <;> rfl) (by rcases (show v = 0 ∨ v = 1 by omega) with rfl | rfl <;> rfl) (show 3 < 4 by omega) d (wc_putU 3 hi (by omega)) kk
theorem u_putN (hX : EnvX X) (C : Fg p s m args meth c cc nL own D cy A) (hE : X A s s.heap) {i index v : Nat} (k : Nat) (hi : i < 3) (hk : k < 3) (hq : Cond.fieldLinkNest own index RX0 (TX0 k).2.1 (TX0 k).2.2.1 RX2 ∈ NWL) (hs : (TX0 k).1 = RX0) (hf : (TX0 k).2.2.2 = false) (hd : parseFieldDescriptor (TX0 k).2.2.1 = some .int) (d : decode cc pc = .ok (.putfield index, 3)) (kk : vC p l e R s m args below meth c D A Q nL cells slots (WC cy a (up2 f (6 + k) i v) r kn ++ Y) lv (pc + 3) st) : vC p l e R s m args below meth c D A Q nL cells slots (WC cy a f r kn ++ Y) lv pc (.int (nI v) :: .ref (a 3 i) :: st) :=
  g_putN hX C hE qu_X0 tyX0 tyX0_ok nmX0 (ci := 4) rfl (21 + i) (wc_u hi) k (by omega) hq hs hf hd rfl rfl (show k < 4 by omega) d (wc_putU k hi (by omega)) kk
theorem u_putZN (hX : EnvX X) (C : Fg p s m args meth c cc nL own D cy A) (hE : X A s s.heap) {i index v : Nat} (hi : i < 3) (hv : v ≤ 1) (hq : Cond.fieldLinkNest own index RX0 "isThere" "Z" RX2 ∈ NWL) (d : decode cc pc = .ok (.putfield index, 3)) (kk : vC p l e R s m args below meth c D A Q nL cells slots (WC cy a (up2 f 9 i v) r kn ++ Y) lv (pc + 3) st) : vC p l e R s m args below meth c D A Q nL cells slots (WC cy a f r kn ++ Y) lv pc (.int (nI v) :: .ref (a 3 i) :: st) :=
  g_putN hX C hE qu_X0 tyX0 tyX0_ok nmX0 (ci := 4) rfl (21 + i) (wc_u hi) 3 (by omega) hq rfl rfl (ty := .boolean) rfl (by rcases (show v = 0 ∨ v = 1 by omega) with rfl | rfl <;> rfl) (by rcases (show v = 0 ∨ v = 1 by omega) with rfl | rfl <;> rfl) (show 3 < 4 by omega) d (wc_putU 3 hi (by omega)) kk
/-- this -/
theorem s_get (C : Fg p s m args meth c cc nL RX2 D cy A) {index : Nat} (k : Nat) {v : Value} (hk : k < 6) (hq : Cond.fieldLink RX2 index RX2 (TX2 k).2.1 (TX2 k).2.2.1 ∈ GW) (hs : (TX2 k).1 = RX2) (hv : (sV a kn)[k]? = some v) (d : decode cc pc = .ok (.getfield index, 3)) (kk : vC p l e R s m args below meth c D A Q nL cells slots (WC cy a f r kn ++ Y) lv (pc + 3) (v :: st)) : vC p l e R s m args below meth c D A Q nL cells slots (WC cy a f r kn ++ Y) lv pc (.ref (a 0 0) :: st) :=
  g_get C qu_X2 (ci := 6) rfl 0 wc_0 k hk hq hs hv d kk
theorem s_putK (C : Fg p s m args meth c cc nL RX2 D cy A) {index : Nat} {x : Int32} (hq : Cond.fieldLink RX2 index RX2 "knocks" "I" ∈ GW) (d : decode cc pc = .ok (.putfield index, 3)) (kk : vC p l e R s m args below meth c D A Q nL cells slots (WC cy a f r x ++ Y) lv (pc + 3) st) : vC p l e R s m args below meth c D A Q nL cells slots (WC cy a f r kn ++ Y) lv pc (.int x :: .ref (a 0 0) :: st) :=
  g_put C qu_X2 tyX2 tyX2_ok nmX2 (ci := 6) rfl 0 wc_0 5 (by omega) hq rfl rfl (ty := .int) rfl rfl rfl (show 5 < 6 by omega) d (wc_sk x) kk
/-- arrays -/
theorem s_parts (C : Fg p s m args meth c cc nL own D cy A) {i : Nat} (hi : i < 8) (d : decode cc pc = .ok (.aaload, 1)) (kk : vC p l e R s m args below meth c D A Q nL cells slots (WC cy a f r kn ++ Y) lv (pc + 1) (.ref (a 1 i) :: st)) : vC p l e R s m args below meth c D A Q nL cells slots (WC cy a f r kn ++ Y) lv pc (.int (nI i) :: .ref (a 0 1) :: st) :=
  g_aald C 1 wc_1 (t0 := 4) rfl hi (by omega) rfl d kk
theorem s_curs (C : Fg p s m args meth c cc nL own D cy A) {i : Nat} (hi : i < 3) (d : decode cc pc = .ok (.aaload, 1)) (kk : vC p l e R s m args below meth c D A Q nL cells slots (WC cy a f r kn ++ Y) lv (pc + 1) (.ref (a 3 i) :: st)) : vC p l e R s m args below meth c D A Q nL cells slots (WC cy a f r kn ++ Y) lv pc (.int (nI i) :: .ref (a 0 2) :: st) :=
  g_aald C 2 wc_2 (t0 := 3) rfl hi (by omega) rfl d kk
theorem s_iald (C : Fg p s m args meth c cc nL own D cy A) {j i : Nat} (hj : j < 7) (hi : i < 12) (d : decode cc pc = .ok (.iaload, 1)) (kk : vC p l e R s m args below meth c D A Q nL cells slots (WC cy a f r kn ++ Y) lv (pc + 1) (.int (r j i) :: st)) : vC p l e R s m args below meth c D A Q nL cells slots (WC cy a f r kn ++ Y) lv pc (.int (nI i) :: .ref (a 2 j) :: st) :=
  g_iald C (14 + j) (wc_r hj) hi (by omega) d kk
theorem s_iast (C : Fg p s m args meth c cc nL own D cy A) {j i : Nat} {x : Int32} (hj : j < 7) (hi : i < 12) (d : decode cc pc = .ok (.iastore, 1)) (kk : vC p l e R s m args below meth c D A Q nL cells slots (WC cy a f (up2 r j i x) kn ++ Y) lv (pc + 1) st) : vC p l e R s m args below meth c D A Q nL cells slots (WC cy a f r kn ++ Y) lv pc (.int x :: .int (nI i) :: .ref (a 2 j) :: st) := by
  have e1 : up2 r j i x j = upd (r j) i x := by
    funext q
    by_cases hq : q = i <;> simp [upd, up2, hq]
  refine g_iast C (14 + j) (wc_r hj) hi (by omega) d (w' := WC cy a f (up2 r j i x) kn ++ Y) ?_ kk
  rw [← e1]
  exact wc_sr hj (fun z _ hz => rC_eq (by funext q; simp [up2, hz]))
/-- n items of the array j0, from sp on, into the array j1, at dp -/
def cpy2 (r : Nat → Nat → Int32) (j0 sp j1 dp n : Nat) : Nat → Nat → Int32 := fun j k => if j = j1 then (if dp ≤ k ∧ k < dp + n then r j0 (sp + (k - dp)) else r j1 k) else r j k
theorem s_copy (C : Fg p s m args meth c cc nL own D cy A) {index j0 j1 sp dp n : Nat} (hq : Cond.methodLink own index arraycopyName ∈ GW) (h0 : j0 < 7) (h1 : j1 < 7) (hsp : sp + n ≤ 12) (hdp : dp + n ≤ 12) (hf : 1 ≤ R.frames) (hlo : (st.map fun v => v.category).sum + (nativeFrameWords "java/lang/System" "arraycopy" 5 + 11) ≤ R.locals) (d : decode cc pc = .ok (.invokestatic index, 3))
    (kk : vC p l e R s m args below meth c D A Q nL cells slots (WC cy a f (cpy2 r j0 sp j1 dp n) kn ++ Y) lv (pc + 3) st) : vC p l e R s m args below meth c D A Q nL cells slots (WC cy a f r kn ++ Y) lv pc (.int (nI n) :: .int (nI dp) :: .ref (a 2 j1) :: .int (nI sp) :: .ref (a 2 j0) :: st) := fun H locs ls hP hD hS hl => by
  have c0 : (nI sp).toNatClampNeg = sp := nI_clamp (by omega)
  have c1 : (nI dp).toNatClampNeg = dp := nI_clamp (by omega)
  have c2 : (nI n).toNatClampNeg = n := nI_clamp (by omega)
  refine va_copyi C.1 C.2.1 (C.2.2.1.trans hl.1.symm) C.2.2.2.1 (C.2.2.2.2.1 _ hq) (C.2.2.2.2.1 _ qv_arraycopyName) (C.2.2.2.2.1 _ qt_arraycopyName) (C.2.2.2.2.1 _ qz_J10) C.2.2.2.2.2.1 hP hD hS (14 + j0) (14 + j1) 1 1 (wc_r h0) (wc_r h1) rfl rfl rfl (nI_pos (by omega)) (nI_pos (by omega)) (nI_pos (by omega)) (by rw [c0, c2]; exact hsp) (by rw [c1, c2]; exact hdp) (fun _ _ => rfl) hf hlo d (fun H1 locs1 hP hD hS => ?_)
  rw [c0, c1, c2] at hP hD
  have hw : (WC cy a f r kn ++ Y).set (14 + j1) (a 2 j1, .inl (cy 1, 12, .inl (va_cpy (r j0) (r j1) sp dp n))) = WC cy a f (cpy2 r j0 sp j1 dp n) kn ++ Y := by
    have e1 : cpy2 r j0 sp j1 dp n j1 = va_cpy (r j0) (r j1) sp dp n := by
      funext q
      simp [cpy2, va_cpy]
    rw [← e1]
    exact wc_sr h1 (fun z _ hz => rC_eq (by funext q; simp [cpy2, hz]))
  exact kk H1 locs1 ls (hw ▸ hP) (hw ▸ hD) hS hl
end CR
