/-! THE MODEL'S WORLD. ba: addresses (9: this; 0: the array of rows; 1 isThere, 2 ground, 3 from, 4 many, 5 isOpen, 6 over, 7 index, 8 last); ra: the rows' arrays; hf: numbers, by the class's kinds (2 ground, 3 from, 4 how many, 5 isThere of where i; 6 over, 7 index, 8 last, 9 isOpen of cursor k); hq: items; kn, th, sm: knocks, thrown, sum -/
def upR {α : Type} (f : Nat → α) (i : Nat) (v : α) : Nat → α := fun j => if j = i then v else f j
def mcl (k : Nat) : Nat := if k = 1 ∨ k = 5 then 2 else 1
def mle (k : Nat) : Nat := if k ≤ 4 then 4 else 3
def mfl (k : Nat) : Nat := if k = 1 then 5 else if k = 5 then 9 else k
def mof (k : Nat) : Nat := if k ≤ 4 then 4 else 0
def mV (ba : Nat → Nat) (kn th : Int32) (sm : Int64) : List Value := [.ref (ba 0), .ref (ba 1), .ref (ba 2), .ref (ba 3), .ref (ba 4), .ref (ba 5), .ref (ba 6), .ref (ba 7), .ref (ba 8), .int kn, .int th, .long sm]
def mA (cy : Nat → ClassId) (ba : Nat → Nat) (hf : Nat → Nat → Nat) (k : Nat) : Nat × va_E := (ba (k + 1), .inl (cy (mcl (k + 1)), mle (k + 1), .inl (fun i => nI (hf (mfl (k + 1)) (mof (k + 1) + i)))))
def mR (cy : Nat → ClassId) (ra : Nat → Nat) (hf : Nat → Nat → Nat) (hq : Nat → Nat → Int32) (i : Nat) : Nat × va_E := (ra i, .inl (cy 1, hf 4 i, .inl (hq i)))
def WM (cy : Nat → ClassId) (ba ra : Nat → Nat) (hf : Nat → Nat → Nat) (hq : Nat → Nat → Int32) (kn th : Int32) (sm : Int64) : va_W :=
  (ba 9, .inr (8, mV ba kn th sm)) :: (ba 0, .inl (cy 5, 4, .inr (.inr (.inr (.inr (fun i => some (ra i))))))) ::
    ((List.range 8).map (mA cy ba hf) ++ (List.range 4).map (mR cy ra hf hq))
section MW
variable {cy : Nat → ClassId} {ba ra : Nat → Nat} {hf : Nat → Nat → Nat} {hq : Nat → Nat → Int32} {kn th : Int32} {sm : Int64} {Y : va_W}
theorem wm_len : (WM cy ba ra hf hq kn th sm).length = 14 := by simp [WM]
theorem wm_in {k : Nat} (h : k < 14) : (WM cy ba ra hf hq kn th sm ++ Y)[k]? = (WM cy ba ra hf hq kn th sm)[k]? := List.getElem?_append_left (by rw [wm_len]; exact h)
theorem wm_0 : (WM cy ba ra hf hq kn th sm ++ Y)[0]? = some (ba 9, .inr (8, mV ba kn th sm)) := rfl
theorem wm_1 : (WM cy ba ra hf hq kn th sm ++ Y)[1]? = some (ba 0, .inl (cy 5, 4, .inr (.inr (.inr (.inr (fun i => some (ra i))))))) := rfl
theorem wm_a {k : Nat} (h : k < 8) : (WM cy ba ra hf hq kn th sm ++ Y)[2 + k]? = some (mA cy ba hf k) := by
  rw [wm_in (by omega), show 2 + k = k + 1 + 1 by omega, WM, List.getElem?_cons_succ, List.getElem?_cons_succ, List.getElem?_append_left (by simp; exact h), List.getElem?_map, List.getElem?_range h]
  rfl
theorem wm_r {i : Nat} (h : i < 4) : (WM cy ba ra hf hq kn th sm ++ Y)[10 + i]? = some (mR cy ra hf hq i) := by
  rw [wm_in (by omega), show 10 + i = (8 + i) + 1 + 1 by omega, WM, List.getElem?_cons_succ, List.getElem?_cons_succ, List.getElem?_append_right (by simp), List.getElem?_map, List.length_map, List.length_range, show 8 + i - 8 = i by omega, List.getElem?_range h]
  rfl
theorem wm_x {E : va_W} (k : Nat) : (WM cy ba ra hf hq kn th sm ++ (Y ++ E))[14 + (Y.length + k)]? = E[k]? := by
  rw [List.getElem?_append_right (by rw [wm_len]; omega), wm_len, show 14 + (Y.length + k) - 14 = Y.length + k by omega, List.getElem?_append_right (by omega), show Y.length + k - Y.length = k by omega]
theorem wm_xs {E : va_W} (k : Nat) (e : Nat × va_E) : (WM cy ba ra hf hq kn th sm ++ (Y ++ E)).set (14 + (Y.length + k)) e = WM cy ba ra hf hq kn th sm ++ (Y ++ E.set k e) := by
  rw [List.set_append_right _ _ (by rw [wm_len]; omega), wm_len, show 14 + (Y.length + k) - 14 = Y.length + k by omega, List.set_append_right _ _ (by omega), show Y.length + k - Y.length = k by omega]
theorem wm_setX {k : Nat} {x : Nat × va_E} (h : k < 14) : (WM cy ba ra hf hq kn th sm ++ Y).set k x = (WM cy ba ra hf hq kn th sm).set k x ++ Y := List.set_append_left _ _ (by rw [wm_len]; exact h)
theorem wm_sa {hf' : Nat → Nat → Nat} {k : Nat} (h : k < 8) (ha : ∀ j, j < 8 → j ≠ k → mA cy ba hf' j = mA cy ba hf j) (hr : ∀ i, i < 4 → hf' 4 i = hf 4 i) : (WM cy ba ra hf hq kn th sm ++ Y).set (2 + k) (mA cy ba hf' k) = WM cy ba ra hf' hq kn th sm ++ Y := by
  rw [wm_setX (by omega), show 2 + k = k + 1 + 1 by omega, WM, List.set_cons_succ, List.set_cons_succ, List.set_append_left _ _ (by simp; exact h), map_set ha, WM, List.map_congr_left (l := List.range 4) (fun i hi => show mR cy ra hf hq i = mR cy ra hf' hq i by unfold mR; rw [hr i (List.mem_range.mp hi)])]
theorem wm_sr {hq' : Nat → Nat → Int32} {i : Nat} (h : i < 4) (hr : ∀ j, j < 4 → j ≠ i → hq' j = hq j) : (WM cy ba ra hf hq kn th sm ++ Y).set (10 + i) (mR cy ra hf hq' i) = WM cy ba ra hf hq' kn th sm ++ Y := by
  rw [wm_setX (by omega), show 10 + i = (8 + i) + 1 + 1 by omega, WM, List.set_cons_succ, List.set_cons_succ, List.set_append_right _ _ (by simp), List.length_map, List.length_range, show 8 + i - 8 = i by omega, map_set (fun j hj hji => by show mR cy ra hf hq' j = mR cy ra hf hq j; unfold mR; rw [hr j hj hji]), WM]
theorem wm_put {k i v : Nat} (hk : k < 8) : (WM cy ba ra hf hq kn th sm ++ Y).set (2 + k) (ba (k + 1), .inl (cy (mcl (k + 1)), mle (k + 1), .inl (upd (fun i => nI (hf (mfl (k + 1)) (mof (k + 1) + i))) i (nI v)))) = WM cy ba ra (up2 hf (mfl (k + 1)) (mof (k + 1) + i) v) hq kn th sm ++ Y := by
  rw [← wm_sa (hf' := up2 hf (mfl (k + 1)) (mof (k + 1) + i) v) hk]
  · congr 1
    unfold mA
    congr 5
    funext j
    by_cases hj : j = i
    · simp [upd, up2, hj]
    · simp [upd, up2, hj]
  · intro j hj hjk
    have e : ∀ z, up2 hf (mfl (k + 1)) (mof (k + 1) + i) v (mfl (j + 1)) z = hf (mfl (j + 1)) z := fun z => by
      refine up2_k _ _ _ _ ?_
      rcases (show k = 0 ∨ k = 1 ∨ k = 2 ∨ k = 3 ∨ k = 4 ∨ k = 5 ∨ k = 6 ∨ k = 7 by omega) with rfl | rfl | rfl | rfl | rfl | rfl | rfl | rfl <;>
        rcases (show j = 0 ∨ j = 1 ∨ j = 2 ∨ j = 3 ∨ j = 4 ∨ j = 5 ∨ j = 6 ∨ j = 7 by omega) with rfl | rfl | rfl | rfl | rfl | rfl | rfl | rfl <;> first | decide | (exact absurd rfl hjk)
    unfold mA
    simp only [e]
  · intro j hj
    by_cases e : mfl (k + 1) = 4
    · have h4 : mof (k + 1) = 4 := by
        rcases (show k = 0 ∨ k = 1 ∨ k = 2 ∨ k = 3 ∨ k = 4 ∨ k = 5 ∨ k = 6 ∨ k = 7 by omega) with rfl | rfl | rfl | rfl | rfl | rfl | rfl | rfl <;> first | rfl | (exact absurd e (by decide))
      rw [e, h4]
      exact up2_i _ _ _ _ (by omega)
    · exact up2_k _ _ _ _ (fun h => e h.symm)
theorem wm_putR {i n : Nat} {x : Int32} (hi : i < 4) : (WM cy ba ra hf hq kn th sm ++ Y).set (10 + i) (ra i, .inl (cy 1, hf 4 i, .inl (upd (hq i) n x))) = WM cy ba ra hf (up2 hq i n x) kn th sm ++ Y := by
  have e1 : up2 hq i n x i = upd (hq i) n x := by
    funext j
    by_cases hj : j = n <;> simp [upd, up2, hj]
  rw [← wm_sr (hq := hq) (hq' := up2 hq i n x) hi (fun j _ hj => by funext z; simp [up2, hj]), ← e1]
  rfl
end MW
section MRW
variable {p : Program} {l : Launch} {e : Env} {R : Room} {s : State} {m : MethodId} {args : Array Value} {below : List Frame} {meth : Method} {c : Code} {D : va_G} {cy : Nat → ClassId} {A : Nat → Prop} {Q : State → Prop} {nL cells slots : Nat} {Y : va_W} {lv : List (Option Value)} {pc : Nat} {st : List Value} {cc : ByteArray} {own : String} {X : (Nat → Prop) → State → Heap → Prop} {w : va_W}
variable {ba ra : Nat → Nat} {hf : Nat → Nat → Nat} {hq : Nat → Nat → Int32} {kn th : Int32} {sm : Int64}
/-- fields of this -/
theorem m_get (C : Fg p s m args meth c cc nL RX4 D cy A) {index : Nat} (k : Nat) {v : Value} (hk : k < 12) (hq0 : Cond.fieldLink RX4 index RX4 (TX4 k).2.1 (TX4 k).2.2.1 ∈ GW) (hs : (TX4 k).1 = RX4) (hv : (mV ba kn th sm)[k]? = some v) (d : decode cc pc = .ok (.getfield index, 3)) (kk : vC p l e R s m args below meth c D A Q nL cells slots (WM cy ba ra hf hq kn th sm ++ Y) lv (pc + 3) (v :: st)) : vC p l e R s m args below meth c D A Q nL cells slots (WM cy ba ra hf hq kn th sm ++ Y) lv pc (.ref (ba 9) :: st) :=
  g_get C qu_X4 (ci := 8) rfl 0 wm_0 k hk hq0 hs hv d kk
theorem m_putK (C : Fg p s m args meth c cc nL RX4 D cy A) {index : Nat} {x : Int32} (hq0 : Cond.fieldLink RX4 index RX4 "knocks" "I" ∈ GW) (d : decode cc pc = .ok (.putfield index, 3)) (kk : vC p l e R s m args below meth c D A Q nL cells slots (WM cy ba ra hf hq x th sm ++ Y) lv (pc + 3) st) : vC p l e R s m args below meth c D A Q nL cells slots (WM cy ba ra hf hq kn th sm ++ Y) lv pc (.int x :: .ref (ba 9) :: st) :=
  g_put C qu_X4 tyX4 tyX4_ok nmX4 (ci := 8) rfl 0 wm_0 9 (by omega) hq0 rfl rfl (ty := .int) rfl rfl rfl (show 9 < 12 by omega) d rfl kk
theorem m_putT (C : Fg p s m args meth c cc nL RX4 D cy A) {index : Nat} {x : Int32} (hq0 : Cond.fieldLink RX4 index RX4 "thrown" "I" ∈ GW) (d : decode cc pc = .ok (.putfield index, 3)) (kk : vC p l e R s m args below meth c D A Q nL cells slots (WM cy ba ra hf hq kn x sm ++ Y) lv (pc + 3) st) : vC p l e R s m args below meth c D A Q nL cells slots (WM cy ba ra hf hq kn th sm ++ Y) lv pc (.int x :: .ref (ba 9) :: st) :=
  g_put C qu_X4 tyX4 tyX4_ok nmX4 (ci := 8) rfl 0 wm_0 10 (by omega) hq0 rfl rfl (ty := .int) rfl rfl rfl (show 10 < 12 by omega) d rfl kk
theorem m_putS (C : Fg p s m args meth c cc nL RX4 D cy A) {index : Nat} {x : Int64} (hq0 : Cond.fieldLink RX4 index RX4 "sum" "J" ∈ GW) (d : decode cc pc = .ok (.putfield index, 3)) (kk : vC p l e R s m args below meth c D A Q nL cells slots (WM cy ba ra hf hq kn th x ++ Y) lv (pc + 3) st) : vC p l e R s m args below meth c D A Q nL cells slots (WM cy ba ra hf hq kn th sm ++ Y) lv pc (.long x :: .ref (ba 9) :: st) :=
  g_put C qu_X4 tyX4 tyX4_ok nmX4 (ci := 8) rfl 0 wm_0 11 (by omega) hq0 rfl rfl (ty := .long) rfl rfl rfl (show 11 < 12 by omega) d rfl kk
/-- its arrays: k the array's number less 1; i the index, z the place of it -/
theorem m_ald (C : Fg p s m args meth c cc nL own D cy A) {i z v : Nat} (k : Nat) (hk : k < 8) (hc : mcl (k + 1) = 1) (hi : i < mle (k + 1)) (hz : mof (k + 1) + i = z) (hv : hf (mfl (k + 1)) z = v) (d : decode cc pc = .ok (.iaload, 1)) (kk : vC p l e R s m args below meth c D A Q nL cells slots (WM cy ba ra hf hq kn th sm ++ Y) lv (pc + 1) (.int (nI v) :: st)) : vC p l e R s m args below meth c D A Q nL cells slots (WM cy ba ra hf hq kn th sm ++ Y) lv pc (.int (nI i) :: .ref (ba (k + 1)) :: st) := by
  subst hz
  subst hv
  have hm : mle (k + 1) < 2147483648 := by unfold mle; split <;> omega
  refine g_iald C (f := fun i => nI (hf (mfl (k + 1)) (mof (k + 1) + i))) (n := mle (k + 1)) (2 + k) ((wm_a hk).trans ?_) hi hm d kk
  unfold mA
  rw [hc]
theorem m_zld (C : Fg p s m args meth c cc nL own D cy A) {i z v : Nat} (k : Nat) (hk : k < 8) (hc : mcl (k + 1) = 2) (hi : i < mle (k + 1)) (hz : mof (k + 1) + i = z) (hv : hf (mfl (k + 1)) z = v) (d : decode cc pc = .ok (.baload, 1)) (kk : vC p l e R s m args below meth c D A Q nL cells slots (WM cy ba ra hf hq kn th sm ++ Y) lv (pc + 1) (.int (nI v) :: st)) : vC p l e R s m args below meth c D A Q nL cells slots (WM cy ba ra hf hq kn th sm ++ Y) lv pc (.int (nI i) :: .ref (ba (k + 1)) :: st) := by
  subst hz
  subst hv
  have hm : mle (k + 1) < 2147483648 := by unfold mle; split <;> omega
  refine g_zald C (f := fun i => nI (hf (mfl (k + 1)) (mof (k + 1) + i))) (n := mle (k + 1)) (2 + k) ((wm_a hk).trans ?_) hi hm d kk
  unfold mA
  rw [hc]
theorem m_ast (C : Fg p s m args meth c cc nL own D cy A) {i z v : Nat} (k : Nat) (hk : k < 8) (hc : mcl (k + 1) = 1) (hi : i < mle (k + 1)) (hz : mof (k + 1) + i = z) (d : decode cc pc = .ok (.iastore, 1)) (kk : vC p l e R s m args below meth c D A Q nL cells slots (WM cy ba ra (up2 hf (mfl (k + 1)) z v) hq kn th sm ++ Y) lv (pc + 1) st) : vC p l e R s m args below meth c D A Q nL cells slots (WM cy ba ra hf hq kn th sm ++ Y) lv pc (.int (nI v) :: .int (nI i) :: .ref (ba (k + 1)) :: st) := by
  subst hz
  have hm : mle (k + 1) < 2147483648 := by unfold mle; split <;> omega
  refine g_iast C (f := fun i => nI (hf (mfl (k + 1)) (mof (k + 1) + i))) (n := mle (k + 1)) (2 + k) ((wm_a hk).trans ?_) hi hm d ?_ kk
  · unfold mA
    rw [hc]
  · have e := wm_put (cy := cy) (ba := ba) (ra := ra) (hf := hf) (hq := hq) (kn := kn) (th := th) (sm := sm) (Y := Y) (i := i) (v := v) hk
    rw [hc] at e
    exact e
theorem m_zst (C : Fg p s m args meth c cc nL own D cy A) {i z v : Nat} (k : Nat) (hk : k < 8) (hc : mcl (k + 1) = 2) (hi : i < mle (k + 1)) (hz : mof (k + 1) + i = z) (hv : v ≤ 1) (d : decode cc pc = .ok (.bastore, 1)) (kk : vC p l e R s m args below meth c D A Q nL cells slots (WM cy ba ra (up2 hf (mfl (k + 1)) z v) hq kn th sm ++ Y) lv (pc + 1) st) : vC p l e R s m args below meth c D A Q nL cells slots (WM cy ba ra hf hq kn th sm ++ Y) lv pc (.int (nI v) :: .int (nI i) :: .ref (ba (k + 1)) :: st) := by
  subst hz
  have hm : mle (k + 1) < 2147483648 := by unfold mle; split <;> omega
  refine g_zast C (f := fun i => nI (hf (mfl (k + 1)) (mof (k + 1) + i))) (n := mle (k + 1)) (2 + k) ((wm_a hk).trans ?_) hi hm hv d ?_ kk
  · unfold mA
    rw [hc]
  · have e := wm_put (cy := cy) (ba := ba) (ra := ra) (hf := hf) (hq := hq) (kn := kn) (th := th) (sm := sm) (Y := Y) (i := i) (v := v) hk
    rw [hc] at e
    exact e
/-- rows -/
theorem va_aldR (hexec : p.tables.exec = Jvm.exec) (hb : c.code = cc) {H : Heap} {locs : List Loc} {a : Nat} {ls : Array Slot} {rest : List Value} {cl : List vw_C} {tys : List (ClassId × FieldType)} {ws : va_W} (hK : va_K D cl tys s) (hP : va_P D cl ws H) (q0 t0 : Nat) {cA : ClassId} {ty : FieldType} {n : Nat} {f : Nat → Option Nat} (ha : ws[q0]? = some (a, .inl (cA, n, .inr (.inr (.inr (.inr f)))))) (ht : tys[t0]? = some (cA, .array ty)) {i : Int32} (hin : vp_in i n) (hdg : decode cc pc = .ok (.aaload, 1))
    (kk : W p l e R s m args below meth c H locs cells slots Q (F0 m (pc + 1) ls (va_rf (f i.toNatClampNeg) :: rest))) : W p l e R s m args below meth c H locs cells slots Q (F0 m pc ls (.int i :: .ref a :: rest)) := by
  have hlt : i.toNatClampNeg < n := Nat.not_le.mp fun q => hin (Or.inr q)
  exact W.aald (v := va_rf (f i.toNatClampNeg)) (ty := .array ty) hexec hb (hP q0 _ ha) ((hK.2 t0 _ ht).1 n (fun j => va_rf (f j))) rfl (fun q => by cases q) (by show ¬ (i < 0 ∨ (arrV _ _ _).slots.size ≤ _); rw [arrV_size]; exact hin) (by show (arrV _ _ _).slots[_]? = _; rw [arrV_read _ _ hlt]) rfl rfl hdg kk
theorem m_rows (C : Fg p s m args meth c cc nL own D cy A) {i : Nat} (hi : i < 4) (d : decode cc pc = .ok (.aaload, 1)) (kk : vC p l e R s m args below meth c D A Q nL cells slots (WM cy ba ra hf hq kn th sm ++ Y) lv (pc + 1) (.ref (ra i) :: st)) : vC p l e R s m args below meth c D A Q nL cells slots (WM cy ba ra hf hq kn th sm ++ Y) lv pc (.int (nI i) :: .ref (ba 0) :: st) := fun H locs ls hP hD hS hl =>
  va_aldR C.1 C.2.1 C.2.2.2.2.2.1 hP 1 5 wm_1 rfl (vp_in_nI hi (by omega)) d (by rw [nI_clamp (by omega)]; exact kk H locs ls hP hD hS hl)
theorem m_rlen (C : Fg p s m args meth c cc nL own D cy A) {i v : Nat} (hi : i < 4) (hv : hf 4 i = v) (d : decode cc pc = .ok (.arraylength, 1)) (kk : vC p l e R s m args below meth c D A Q nL cells slots (WM cy ba ra hf hq kn th sm ++ Y) lv (pc + 1) (.int (nI v) :: st)) : vC p l e R s m args below meth c D A Q nL cells slots (WM cy ba ra hf hq kn th sm ++ Y) lv pc (.ref (ra i) :: st) := by
  subst hv
  exact g_alen C (t0 := 1) (10 + i) (wm_r hi) rfl d kk
theorem m_alen (C : Fg p s m args meth c cc nL own D cy A) (k : Nat) (hk : k < 8) (d : decode cc pc = .ok (.arraylength, 1)) (kk : vC p l e R s m args below meth c D A Q nL cells slots (WM cy ba ra hf hq kn th sm ++ Y) lv (pc + 1) (.int (nI (mle (k + 1))) :: st)) : vC p l e R s m args below meth c D A Q nL cells slots (WM cy ba ra hf hq kn th sm ++ Y) lv pc (.ref (ba (k + 1)) :: st) := by
  by_cases h : mcl (k + 1) = 2
  · exact g_alen C (t0 := 2) (2 + k) (wm_a hk) (by rw [h]; rfl) d kk
  · have h1 : mcl (k + 1) = 1 := by
      unfold mcl at h ⊢
      split at h
      · exact absurd rfl h
      · rw [if_neg (by assumption)]
    exact g_alen C (t0 := 1) (2 + k) (wm_a hk) (by rw [h1]; rfl) d kk
theorem m_olen (C : Fg p s m args meth c cc nL own D cy A) (d : decode cc pc = .ok (.arraylength, 1)) (kk : vC p l e R s m args below meth c D A Q nL cells slots (WM cy ba ra hf hq kn th sm ++ Y) lv (pc + 1) (.int (nI 4) :: st)) : vC p l e R s m args below meth c D A Q nL cells slots (WM cy ba ra hf hq kn th sm ++ Y) lv pc (.ref (ba 0) :: st) :=
  g_alen C (t0 := 5) 1 wm_1 rfl d kk
theorem m_rld (C : Fg p s m args meth c cc nL own D cy A) {i n : Nat} (hi : i < 4) (hn : n < hf 4 i) (hs : hf 4 i ≤ 12) (d : decode cc pc = .ok (.iaload, 1)) (kk : vC p l e R s m args below meth c D A Q nL cells slots (WM cy ba ra hf hq kn th sm ++ Y) lv (pc + 1) (.int (hq i n) :: st)) : vC p l e R s m args below meth c D A Q nL cells slots (WM cy ba ra hf hq kn th sm ++ Y) lv pc (.int (nI n) :: .ref (ra i) :: st) :=
  g_iald C (10 + i) (wm_r hi) hn (by omega) d kk
theorem m_rst (C : Fg p s m args meth c cc nL own D cy A) {i n : Nat} {x : Int32} (hi : i < 4) (hn : n < hf 4 i) (hs : hf 4 i ≤ 12) (d : decode cc pc = .ok (.iastore, 1)) (kk : vC p l e R s m args below meth c D A Q nL cells slots (WM cy ba ra hf (up2 hq i n x) kn th sm ++ Y) lv (pc + 1) st) : vC p l e R s m args below meth c D A Q nL cells slots (WM cy ba ra hf hq kn th sm ++ Y) lv pc (.int x :: .int (nI n) :: .ref (ra i) :: st) :=
  g_iast C (10 + i) (wm_r hi) hn (by omega) d (wm_putR hi) kk
/-- arrays behind the world -/
theorem x_ald (C : Fg p s m args meth c cc nL own D cy A) {E : va_W} {b n i : Nat} {f : Nat → Int32} (k : Nat) (he : E[k]? = some (b, .inl (cy 1, n, .inl f))) (hi : i < n) (hn : n < 2147483648) (d : decode cc pc = .ok (.iaload, 1)) (kk : vC p l e R s m args below meth c D A Q nL cells slots (WM cy ba ra hf hq kn th sm ++ (Y ++ E)) lv (pc + 1) (.int (f i) :: st)) : vC p l e R s m args below meth c D A Q nL cells slots (WM cy ba ra hf hq kn th sm ++ (Y ++ E)) lv pc (.int (nI i) :: .ref b :: st) :=
  g_iald C (14 + (Y.length + k)) ((wm_x k).trans he) hi hn d kk
theorem x_zld (C : Fg p s m args meth c cc nL own D cy A) {E : va_W} {b n i : Nat} {f : Nat → Int32} (k : Nat) (he : E[k]? = some (b, .inl (cy 2, n, .inl f))) (hi : i < n) (hn : n < 2147483648) (d : decode cc pc = .ok (.baload, 1)) (kk : vC p l e R s m args below meth c D A Q nL cells slots (WM cy ba ra hf hq kn th sm ++ (Y ++ E)) lv (pc + 1) (.int (f i) :: st)) : vC p l e R s m args below meth c D A Q nL cells slots (WM cy ba ra hf hq kn th sm ++ (Y ++ E)) lv pc (.int (nI i) :: .ref b :: st) :=
  g_zald C (14 + (Y.length + k)) ((wm_x k).trans he) hi hn d kk
theorem x_ast (C : Fg p s m args meth c cc nL own D cy A) {E E' : va_W} {b n i : Nat} {f : Nat → Int32} {x : Int32} (k : Nat) (he : E[k]? = some (b, .inl (cy 1, n, .inl f))) (hi : i < n) (hn : n < 2147483648) (hE : E.set k (b, .inl (cy 1, n, .inl (upd f i x))) = E') (d : decode cc pc = .ok (.iastore, 1)) (kk : vC p l e R s m args below meth c D A Q nL cells slots (WM cy ba ra hf hq kn th sm ++ (Y ++ E')) lv (pc + 1) st) : vC p l e R s m args below meth c D A Q nL cells slots (WM cy ba ra hf hq kn th sm ++ (Y ++ E)) lv pc (.int x :: .int (nI i) :: .ref b :: st) :=
  g_iast C (14 + (Y.length + k)) ((wm_x k).trans he) hi hn d ((wm_xs k _).trans (by rw [hE])) kk
theorem x_zst (C : Fg p s m args meth c cc nL own D cy A) {E E' : va_W} {b n i v : Nat} {f : Nat → Int32} (k : Nat) (he : E[k]? = some (b, .inl (cy 2, n, .inl f))) (hi : i < n) (hn : n < 2147483648) (hv : v ≤ 1) (hE : E.set k (b, .inl (cy 2, n, .inl (upd f i (nI v)))) = E') (d : decode cc pc = .ok (.bastore, 1)) (kk : vC p l e R s m args below meth c D A Q nL cells slots (WM cy ba ra hf hq kn th sm ++ (Y ++ E')) lv (pc + 1) st) : vC p l e R s m args below meth c D A Q nL cells slots (WM cy ba ra hf hq kn th sm ++ (Y ++ E)) lv pc (.int (nI v) :: .int (nI i) :: .ref b :: st) :=
  g_zast C (14 + (Y.length + k)) ((wm_x k).trans he) hi hn hv d ((wm_xs k _).trans (by rw [hE])) kk
theorem x_len (C : Fg p s m args meth c cc nL own D cy A) {E : va_W} {b n t0 : Nat} {ty : FieldType} {f : Nat → Int32} {cA : ClassId} (k : Nat) (he : E[k]? = some (b, .inl (cA, n, .inl f))) (ht : (tysL cy)[t0]? = some (cA, ty)) (d : decode cc pc = .ok (.arraylength, 1)) (kk : vC p l e R s m args below meth c D A Q nL cells slots (WM cy ba ra hf hq kn th sm ++ (Y ++ E)) lv (pc + 1) (.int (nI n) :: st)) : vC p l e R s m args below meth c D A Q nL cells slots (WM cy ba ra hf hq kn th sm ++ (Y ++ E)) lv pc (.ref b :: st) :=
  g_alen C (x := (n, .inl f)) (14 + (Y.length + k)) ((wm_x k).trans he) ht d kk
theorem ya_x {E : va_W} (k : Nat) : (Y ++ E)[Y.length + k]? = E[k]? := by
  rw [List.getElem?_append_right (by omega), show Y.length + k - Y.length = k by omega]
theorem ya_l {E : va_W} {j : Nat} {x : Nat × va_E} (h : Y[j]? = some x) : (Y ++ E)[j]? = some x := (List.getElem?_append_left (List.getElem?_eq_some_iff.mp h).1).trans h
theorem wm_y (j : Nat) : (WM cy ba ra hf hq kn th sm ++ Y)[14 + j]? = Y[j]? := by
  rw [List.getElem?_append_right (by rw [wm_len]; omega), wm_len, show 14 + j - 14 = j by omega]
theorem y_ald (C : Fg p s m args meth c cc nL own D cy A) {b n i : Nat} {f : Nat → Int32} (k : Nat) (he : Y[k]? = some (b, .inl (cy 1, n, .inl f))) (hi : i < n) (hn : n < 2147483648) (d : decode cc pc = .ok (.iaload, 1)) (kk : vC p l e R s m args below meth c D A Q nL cells slots (WM cy ba ra hf hq kn th sm ++ Y) lv (pc + 1) (.int (f i) :: st)) : vC p l e R s m args below meth c D A Q nL cells slots (WM cy ba ra hf hq kn th sm ++ Y) lv pc (.int (nI i) :: .ref b :: st) :=
  g_iald C (14 + k) ((wm_y k).trans he) hi hn d kk
theorem y_len (C : Fg p s m args meth c cc nL own D cy A) {b n : Nat} {f : Nat → Int32} (k : Nat) (he : Y[k]? = some (b, .inl (cy 1, n, .inl f))) (d : decode cc pc = .ok (.arraylength, 1)) (kk : vC p l e R s m args below meth c D A Q nL cells slots (WM cy ba ra hf hq kn th sm ++ Y) lv (pc + 1) (.int (nI n) :: st)) : vC p l e R s m args below meth c D A Q nL cells slots (WM cy ba ra hf hq kn th sm ++ Y) lv pc (.ref b :: st) :=
  g_alen C (t0 := 1) (x := (n, .inl f)) (14 + k) ((wm_y k).trans he) rfl d kk
theorem r_st {st' : List Value} (h : st = st') (kk : vW p l e R s m args below meth c D vwCl A Q nL cells slots w lv pc st') : vW p l e R s m args below meth c D vwCl A Q nL cells slots w lv pc st := h ▸ kk
theorem r_iandB (C : Fg p s m args meth c cc nL own D cy A) {a b v : Nat} (ha : a ≤ 1) (hb : b ≤ 1) (hv : (if b = 0 then 0 else a) = v) (d : decode cc pc = .ok (.iand, 1)) (kk : vC p l e R s m args below meth c D A Q nL cells slots w lv (pc + 1) (.int (nI v) :: st)) : vC p l e R s m args below meth c D A Q nL cells slots w lv pc (.int (nI b) :: .int (nI a) :: st) := by
  have h : nI a &&& nI b = nI v := by
    subst hv
    rcases (show a = 0 ∨ a = 1 by omega) with rfl | rfl <;> rcases (show b = 0 ∨ b = 1 by omega) with rfl | rfl <;> decide
  exact r_iand C d (h ▸ kk)
/-! calls that make places of their own choice -/
section ECALL
variable {y : MethodName} {bytes : ByteArray} {maxL index n b : Nat} {ret : Option FieldType} {rm : Room} {Cn : String} {As st0 : List Value} {α : Type} {V0 : α → Option Value} {W0 : α → va_W}
theorem e_V (hX : Stb X) (C : Fg p s m args meth c cc nL own D cy A) (hE : X A s s.heap) (ct : Cm l D cy X y bytes maxL ret rm (.ref b :: As) w (fun v w1 => ∃ x : α, v = V0 x ∧ w1 = W0 x) (fun _ => False)) (pk : PkV Cn y bytes maxL ret n) (qm : Cond.methodLink own index y ∈ GW)
    (q0 ci : Nat) {fs : List Value} {q : vw_C} (hc : vwCl[ci]? = some q) (hq0 : q.1 = Cn) (he : w[q0]? = some (b, .inr (ci, fs))) (hn : As.length = n) (hstack : st0 = As.reverse ++ .ref b :: st) (hcat : (st.map fun v => v.category).sum ≤ 8)
    (d : decode cc pc = .ok (.invokevirtual index, 3)) (hR : rm.frames + 1 ≤ R.frames ∧ 8 + (maxL + 11) + rm.locals ≤ R.locals) (hf0 : cells + rm.cells ≤ R.cells ∧ slots + rm.slots ≤ R.slots)
    (kk : ∀ x : α, vW p l e R s m args below meth c D vwCl A Q nL (cells + rm.cells) (slots + rm.slots) (W0 x) lv (pc + 3) ((V0 x).toList ++ st)) : vW p l e R s m args below meth c D vwCl A Q nL cells slots w lv pc st0 :=
  c_V hX C hE ct pk qm q0 ci hc hq0 he hn hstack hcat d hR hf0 (fun v w1 h => by obtain ⟨x, rfl, rfl⟩ := h; exact kk x) (fun _ h => h.elim)
theorem e_S (hX : Stb X) (C : Fg p s m args meth c cc nL own D cy A) (hE : X A s s.heap) (ct : Cm l D cy X y bytes maxL ret rm As w (fun v w1 => ∃ x : α, v = V0 x ∧ w1 = W0 x) (fun _ => False)) (pk : PkS y bytes maxL ret n) (qm : Cond.methodLink own index y ∈ GW)
    (hn : As.length = n) (hstack : st0 = As.reverse ++ st) (hcat : (st.map fun v => v.category).sum ≤ 8)
    (d : decode cc pc = .ok (.invokestatic index, 3)) (hR : rm.frames + 1 ≤ R.frames ∧ 8 + (maxL + 11) + rm.locals ≤ R.locals) (hf0 : cells + rm.cells ≤ R.cells ∧ slots + rm.slots ≤ R.slots)
    (kk : ∀ x : α, vW p l e R s m args below meth c D vwCl A Q nL (cells + rm.cells) (slots + rm.slots) (W0 x) lv (pc + 3) ((V0 x).toList ++ st)) : vW p l e R s m args below meth c D vwCl A Q nL cells slots w lv pc st0 :=
  c_S hX C hE ct pk qm hn hstack hcat d hR hf0 (fun v w1 h => by obtain ⟨x, rfl, rfl⟩ := h; exact kk x) (fun _ h => h.elim)
end ECALL
/-- new arrays -/
theorem r_newT (C : Fg p s m args meth c cc nL own D cy A) (at0 : ArrayType) (ty : FieldType) (t0 : Nat) (hat : newarray.typeOf at0 = ty) (hty : ty = .int ∧ t0 = 1 ∧ at0 = .int ∨ ty = .boolean ∧ t0 = 2 ∧ at0 = .boolean ∨ ty = .byte ∧ t0 = 0 ∧ at0 = .byte) (harr2 : Cond.arrayClass ty ∈ GW) {n : Nat} (hn : n < 1000000) (cells1 slots1 : Nat) (h1 : cells + 1 ≤ cells1) (h2 : slots + n ≤ slots1) (hcells : cells1 ≤ R.cells) (hslots : slots1 ≤ R.slots) (d : decode cc pc = .ok (.newarray at0, 2))
    (kk : ∀ q : Nat, vC p l e R s m args below meth c D A Q nL cells1 slots1 (w ++ [(q, .inl (cy t0, n, .inl (fun _ => 0)))]) lv (pc + 2) (.ref q :: st)) : vC p l e R s m args below meth c D A Q nL cells slots w lv pc (.int (nI n) :: st) := by
  rcases hty with ⟨rfl, rfl, rfl⟩ | ⟨rfl, rfl, rfl⟩ | ⟨rfl, rfl, rfl⟩
  · exact fun H locs ls hP hD hS hl => va_newa C.1 C.2.1 (C.2.2.2.2.1 _ harr2) (atype := .int) (ty := .int) rfl C.2.2.2.2.2.1 hP hD hS C.2.2.2.2.2.2.2 (N' := n) (a0 := (n, .inl (fun _ => 0))) (fun _ => rfl) (fun z => by rw [Int32.lt_iff_toInt_lt, nI_toInt (by omega)] at z; have : (0 : Int32).toInt = 0 := rfl; omega) (nI_clamp (by omega)) (by show n * 4 ≤ _; omega) (Nat.le_trans h1 hcells) (Nat.le_trans h2 hslots) d (fun q cA H1 hK hP hD hS => by
      have h1' := h1
      have h2' := h2
      have h1 := (hK.2 6 (cA, .int) rfl).2
      have h2 := (hK.2 1 (cy 1, .int) rfl).2
      have e : cA = cy 1 := Option.some.inj (h1.symm.trans h2)
      subst e
      exact r_widen h1' h2' (kk q) H1 locs ls hP hD hS hl)
  · exact fun H locs ls hP hD hS hl => va_newa C.1 C.2.1 (C.2.2.2.2.1 _ harr2) (atype := .boolean) (ty := .boolean) rfl C.2.2.2.2.2.1 hP hD hS C.2.2.2.2.2.2.2 (N' := n) (a0 := (n, .inl (fun _ => 0))) (fun _ => rfl) (fun z => by rw [Int32.lt_iff_toInt_lt, nI_toInt (by omega)] at z; have : (0 : Int32).toInt = 0 := rfl; omega) (nI_clamp (by omega)) (by show n * 1 ≤ _; omega) (Nat.le_trans h1 hcells) (Nat.le_trans h2 hslots) d (fun q cA H1 hK hP hD hS => by
      have h1' := h1
      have h2' := h2
      have h1 := (hK.2 6 (cA, .boolean) rfl).2
      have h2 := (hK.2 2 (cy 2, .boolean) rfl).2
      have e : cA = cy 2 := Option.some.inj (h1.symm.trans h2)
      subst e
      exact r_widen h1' h2' (kk q) H1 locs ls hP hD hS hl)
  · exact r_newB C harr2 hn (Nat.le_trans h1 hcells) (Nat.le_trans h2 hslots) d (fun q => r_widen h1 h2 (kk q))
/-- the world less some of its cells -/
theorem r_by {w' : va_W} (g : Nat → Nat) (hg : ∀ (k : Nat) (q : Nat × va_E), w'[k]? = some q → w[g k]? = some q) (hi : ∀ i j : Nat, i < w'.length → j < w'.length → g i = g j → i = j) (kk : vC p l e R s m args below meth c D A Q nL cells slots w' lv pc st) : vC p l e R s m args below meth c D A Q nL cells slots w lv pc st :=
  r_sub (fun _ hP => hP.by g hg) (fun hD => hD.by g hg hi) kk
theorem r_pre {B E : va_W} (kk : vC p l e R s m args below meth c D A Q nL cells slots (B ++ Y) lv pc st) : vC p l e R s m args below meth c D A Q nL cells slots (B ++ (Y ++ E)) lv pc st :=
  r_by (fun k => k) (fun k q h => by rw [← List.append_assoc]; exact (List.getElem?_append_left (List.getElem?_eq_some_iff.mp h).1).trans h) (fun _ _ _ _ h => h) kk
/-- the part E' of E alone is kept: is says which -/
theorem r_keep {B E E' : va_W} (g : Nat → Nat) (hg : ∀ k q, E'[k]? = some q → E[g k]? = some q) (hi : ∀ i j : Nat, i < E'.length → j < E'.length → g i = g j → i = j) (kk : vC p l e R s m args below meth c D A Q nL cells slots (B ++ (Y ++ E')) lv pc st) : vC p l e R s m args below meth c D A Q nL cells slots (B ++ (Y ++ E)) lv pc st := by
  refine r_by (fun k => if k < B.length + Y.length then k else B.length + Y.length + g (k - (B.length + Y.length))) (fun k q h => ?_) (fun i j hi1 hj1 h => ?_) kk
  · by_cases hk : k < B.length + Y.length
    · simp only [if_pos hk]
      rw [← List.append_assoc] at h ⊢
      rw [List.getElem?_append_left (by rw [List.length_append]; exact hk)] at h
      rw [List.getElem?_append_left (by rw [List.length_append]; exact hk)]
      exact h
    · simp only [if_neg hk]
      rw [← List.append_assoc] at h ⊢
      rw [List.getElem?_append_right (by rw [List.length_append]; omega), List.length_append] at h
      rw [List.getElem?_append_right (by rw [List.length_append]; omega), List.length_append, show B.length + Y.length + g (k - (B.length + Y.length)) - (B.length + Y.length) = g (k - (B.length + Y.length)) by omega]
      exact hg _ _ h
  · simp only [List.length_append] at hi1 hj1
    by_cases h1 : i < B.length + Y.length <;> by_cases h2 : j < B.length + Y.length
    · simpa [h1, h2] using h
    · simp only [if_pos h1, if_neg h2] at h
      omega
    · simp only [if_neg h1, if_pos h2] at h
      omega
    · simp only [if_neg h1, if_neg h2] at h
      have := hi (i - (B.length + Y.length)) (j - (B.length + Y.length)) (by omega) (by omega) (by omega)
      omega
/-- an array of ints into the array of rows -/
def AOI (cy : Nat → ClassId) (U : State) : Prop := ∃ (kA kc : Class) (comp : ClassId), U.vm.classes[cy 5]? = some kA ∧ kA.kind = .array comp (.array .int) ∧ U.vm.findClass "[I" = some comp ∧ U.vm.classes[comp]? = some kc
def EnvM (X : (Nat → Prop) → State → Heap → Prop) (cy : Nat → ClassId) : Prop := EnvX X ∧ ∀ (A : Nat → Prop) (U : State) (H : Heap), X A U H → AOI cy U
theorem upR_up (ra : Nat → Nat) (i x : Nat) : va_up (fun j => some (ra j)) i (some x) = fun j => some (upR ra i x j) := by
  funext j
  by_cases h : j = i <;> simp [va_up, upR, h]
theorem m_setRow (hX : EnvM X cy) (C : Fg p s m args meth c cc nL own D cy A) (hE : X A s s.heap) {E : va_W} {b n i : Nat} {f : Nat → Int32} (k : Nat) (he : E[k]? = some (b, .inl (cy 1, n, .inl f))) (hi : i < 4) (d : decode cc pc = .ok (.aastore, 1))
    (kk : vC p l e R s m args below meth c D A Q nL cells slots (WM cy ba (upR ra i b) (up2 hf 4 i n) (upR hq i f) kn th sm ++ (Y ++ E.eraseIdx k)) lv (pc + 1) st) : vC p l e R s m args below meth c D A Q nL cells slots (WM cy ba ra hf hq kn th sm ++ (Y ++ E)) lv pc (.ref b :: .int (nI i) :: .ref (ba 0) :: st) := by
  intro H locs ls hP hD hS hl
  obtain ⟨kA, kc, comp, a1, a2, a3, a4⟩ := hX.2 A s s.heap hE
  have hcy : comp = cy 1 := Option.some.inj (a3.symm.trans (C.2.2.2.2.2.1.2 1 (cy 1, .int) rfl).2)
  subst hcy
  have hx := (wm_x (cy := cy) (ba := ba) (ra := ra) (hf := hf) (hq := hq) (kn := kn) (th := th) (sm := sm) (Y := Y) k).trans he
  have c0 : (nI i).toNatClampNeg = i := nI_clamp (by omega)
  refine W.aast C.1 C.2.1 (hP 1 _ wm_1) (fun q h => by cases h) (fun h => by cases h) a1 a2 rfl a4 ⟨fun z => by rw [Int32.lt_iff_toInt_lt, nI_toInt (by omega)] at z; have : (0 : Int32).toInt = 0 := rfl; omega, by show _ < (arrV _ _ _).slots.size; rw [arrV_size, c0]; exact hi⟩ (hP _ _ hx) (fun q h => by cases h) a4 (va_asg _ _) rfl rfl d fun H1 e1 z oq => ?_
  have hP1 : va_P D vwCl ((WM cy ba ra hf hq kn th sm ++ (Y ++ E)).set 1 (ba 0, .inl (cy 5, 4, .inr (.inr (.inr (.inr (fun j => some (upR ra i b j)))))))) H1 := by
    refine hP.set hD wm_1 ?_ oq
    show H1[ba 0]? = some (vp_cell _ _)
    rw [e1, c0]
    rw [vp_cell_q, vp_cell_q, arrV_store]
    congr 2
    funext q
    by_cases hqi : q = i
    · subst hqi
      simp [updV, upR, va_rf]
    · simp [updV, upR, hqi, va_rf]
  have hD1 := hD.set (e := .inl (cy 5, 4, .inr (.inr (.inr (.inr (fun j => some (upR ra i b j))))))) wm_1
  have hS1 := hS.put (k := (nI i).toNatClampNeg) z oq (hD.2 1 _ wm_1)
  refine r_by (fun j => if j = 10 + i then 14 + (Y.length + k) else if j < 14 + (Y.length + k) then j else j + 1) (fun j q hj => ?_) (fun j1 j2 h1 h2 h => ?_) kk H1 _ ls hP1 hD1 hS1 hl
  · have hb : E.length > k := (List.getElem?_eq_some_iff.mp he).1
    by_cases hj1 : j = 10 + i
    · subst hj1
      rw [if_pos rfl, List.getElem?_set_ne (by omega), hx]
      rw [wm_r hi] at hj
      rw [← hj]
      unfold mR
      simp [upR, up2]
    · rw [if_neg hj1]
      by_cases hj2 : j < 14
      · rw [if_pos (by omega)]
        by_cases hj3 : j = 1
        · subst hj3
          rw [wm_1] at hj
          rw [← hj]
          exact List.getElem?_set_self (by rw [List.length_append, wm_len]; omega)
        · rw [List.getElem?_set_ne (fun q => hj3 q.symm)]
          by_cases hj4 : j = 0
          · subst hj4
            exact hj
          · by_cases hj5 : j < 10
            · obtain ⟨j', rfl⟩ : ∃ j', j = 2 + j' := ⟨j - 2, by omega⟩
              rw [wm_a (by omega)] at hj ⊢
              rw [← hj]
              congr 1
              unfold mA
              congr 5
              funext z9
              by_cases hm : mfl (j' + 1) = 4
              · have h4 : mof (j' + 1) = 4 := by
                  rcases (show j' = 0 ∨ j' = 1 ∨ j' = 2 ∨ j' = 3 ∨ j' = 4 ∨ j' = 5 ∨ j' = 6 ∨ j' = 7 by omega) with rfl | rfl | rfl | rfl | rfl | rfl | rfl | rfl <;> first | rfl | (exact absurd hm (by decide))
                rw [hm, h4, up2_i _ _ _ _ (by omega)]
              · rw [up2_k _ _ _ _ hm]
            · obtain ⟨j', rfl⟩ : ∃ j', j = 10 + j' := ⟨j - 10, by omega⟩
              rw [wm_r (by omega)] at hj ⊢
              rw [← hj]
              unfold mR
              simp [upR, up2, show j' ≠ i by omega]
      · have hlen : 14 ≤ j := by omega
        rw [List.getElem?_append_right (by rw [wm_len]; omega), wm_len] at hj
        by_cases hj3 : j < 14 + (Y.length + k)
        · rw [if_pos hj3, List.getElem?_set_ne (by omega), List.getElem?_append_right (by rw [wm_len]; omega), wm_len]
          by_cases hj4 : j - 14 < Y.length
          · rw [List.getElem?_append_left hj4] at hj ⊢
            exact hj
          · rw [List.getElem?_append_right (by omega)] at hj ⊢
            rw [List.getElem?_eraseIdx, if_pos (by omega)] at hj
            exact hj
        · rw [if_neg hj3, List.getElem?_set_ne (by omega), List.getElem?_append_right (by rw [wm_len]; omega), wm_len]
          rw [List.getElem?_append_right (by omega)] at hj ⊢
          rw [List.getElem?_eraseIdx, if_neg (by omega)] at hj
          rw [show j + 1 - 14 - Y.length = j - 14 - Y.length + 1 by omega]
          exact hj
  · split at h <;> split at h <;> (try split at h) <;> (try split at h) <;> omega
end MRW
