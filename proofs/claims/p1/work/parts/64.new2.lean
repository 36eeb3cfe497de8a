/-! ROWS FOR THE CONSTRUCTORS -/
/-- what the constructors need beside: arrays of these can be made -/
def AOAI (U : State) : Prop := (Cond.arrayOver (.array .int)).before #[] U = true
def EnvT (X : (Nat → Prop) → State → Heap → Prop) (cy : Nat → ClassId) (aK aV : Nat → Nat) (tO tT : Nat) (gO gT : Nat → Int32) : Prop := EnvS X cy aK aV tO tT gO gT ∧ ∀ (A : Nat → Prop) (U : State) (H : Heap), X A U H → va_AO RX0 U ∧ va_AO RX1 U ∧ AOAI U
theorem fs0_X0 : ∀ j, j < 4 → defaultValue (tyX0 j) = vp_V [.int (nI 0), .int (nI 0), .int (nI 0), .int (nI 0)] j := fun j hj => by
  rcases (show j = 0 ∨ j = 1 ∨ j = 2 ∨ j = 3 by omega) with rfl | rfl | rfl | rfl <;> rfl
theorem fs0_X1 : ∀ j, j < 6 → defaultValue (tyX1 j) = vp_V [.null, .int (nI 0), .int (nI 0), .int (nI 0), .int (nI 0), .int (nI 0)] j := fun j hj => by
  rcases (show j = 0 ∨ j = 1 ∨ j = 2 ∨ j = 3 ∨ j = 4 ∨ j = 5 by omega) with rfl | rfl | rfl | rfl | rfl | rfl <;> rfl
theorem fs0_X2 : ∀ j, j < 6 → defaultValue (tyX2 j) = vp_V [.null, .null, .null, .null, .null, .int (nI 0)] j := fun j hj => by
  rcases (show j = 0 ∨ j = 1 ∨ j = 2 ∨ j = 3 ∨ j = 4 ∨ j = 5 by omega) with rfl | rfl | rfl | rfl | rfl | rfl <;> rfl
theorem fs0_X3 : ∀ j, j < 2 → defaultValue (tyX3 j) = vp_V [.long 0, .null] j := fun j hj => by
  rcases (show j = 0 ∨ j = 1 by omega) with rfl | rfl <;> rfl
theorem fs0_X4 : ∀ j, j < 12 → defaultValue (tyX4 j) = vp_V [.null, .null, .null, .null, .null, .null, .null, .null, .null, .int (nI 0), .int (nI 0), .long 0] j := fun j hj => by
  rcases (show j = 0 ∨ j = 1 ∨ j = 2 ∨ j = 3 ∨ j = 4 ∨ j = 5 ∨ j = 6 ∨ j = 7 ∨ j = 8 ∨ j = 9 ∨ j = 10 ∨ j = 11 by omega) with rfl | rfl | rfl | rfl | rfl | rfl | rfl | rfl | rfl | rfl | rfl | rfl <;> rfl
theorem va_up_some {a : Nat → Nat} {k x : Nat} (f : Nat → Option Nat) (h : ∀ j, j < k → f j = some (a j)) (hx : x = a k) : ∀ j, j < k + 1 → va_up f k (some x) j = some (a j) := fun j hj => by
  unfold va_up
  by_cases e : j = k
  · rw [if_pos e, hx, e]
  · rw [if_neg e]
    exact h j (by omega)
section NEW2
variable {p : Program} {l : Launch} {e : Env} {R : Room} {s : State} {m : MethodId} {args : Array Value} {below : List Frame} {meth : Method} {c : Code} {D : va_G} {cy : Nat → ClassId} {A : Nat → Prop} {Q : State → Prop} {nL cells slots : Nat} {w U L L' : va_W} {lv : List (Option Value)} {pc : Nat} {st : List Value} {cc : ByteArray} {own : String}
/-- a new array of references -/
theorem r_newq (C : Fg p s m args meth c cc nL own D cy A) {Cn : String} (hover : va_AO Cn s) {index n : Nat} (t0 : Nat) (ht : (tysL cy)[t0]? = some (cy t0, .object Cn)) (hcl : Cond.classLink own index Cn ∈ GW) (hn : n < 1000000) (hcells : cells + 1 ≤ R.cells) (hslots : slots + n ≤ R.slots) (d : decode cc pc = .ok (.anewarray index, 3))
    (kk : ∀ q : Nat, vW p l e R s m args below meth c D vwCl A Q nL (cells + 1) (slots + n) (w ++ [(q, .inl (cy t0, n, .inr (.inr (.inr (.inr (fun _ => none))))))]) lv (pc + 3) (.ref q :: st)) : vW p l e R s m args below meth c D vwCl A Q nL cells slots w lv pc (.int (nI n) :: st) := fun H locs ls hP hD hS hl =>
  va_newq C.1 C.2.1 C.2.2.2.1 (C.2.2.2.2.1 _ hcl) hover C.2.2.2.2.2.1 hP hD hS C.2.2.2.2.2.2.2 (N' := n) (fun z => by rw [Int32.lt_iff_toInt_lt, nI_toInt (by omega)] at z; have : (0 : Int32).toInt = 0 := rfl; omega) (nI_clamp (by omega)) (by show n * 4 ≤ _; omega) hcells hslots d (fun q cA H1 hK hP hD hS => by
    obtain ⟨-, -, -, -, -, h1⟩ := (hK.2 6 (cA, .object Cn) rfl).2
    obtain ⟨-, -, -, -, -, h2⟩ := (hK.2 t0 (cy t0, .object Cn) ((List.getElem?_append_left (List.getElem?_eq_some_iff.mp ht).1).trans ht)).2
    have e : cA = cy t0 := Option.some.inj (h1.symm.trans h2)
    subst e
    exact kk q H1 locs ls hP hD hS hl)
/-- a reference laid into it -/
theorem r_astq (C : Fg p s m args meth c cc nL own D cy A) {b v n i : Nat} {cA : ClassId} {r : vw_C} {vs : List Value} {f : Nat → Option Nat} (q0 t0 qk ci : Nat) (he : w[q0]? = some (b, .inl (cA, n, .inr (.inr (.inr (.inr f)))))) (ht : (tysL cy)[t0]? = some (cA, .object r.1)) (hv : w[qk]? = some (v, .inr (ci, vs))) (hc : vwCl[ci]? = some r) (hi : i < n) (hn : n < 2147483648) (d : decode cc pc = .ok (.aastore, 1)) {w' : va_W} (hw : w.set q0 (b, .inl (cA, n, .inr (.inr (.inr (.inr (va_up f i (some v))))))) = w')
    (kk : vW p l e R s m args below meth c D vwCl A Q nL cells slots w' lv (pc + 1) st) : vW p l e R s m args below meth c D vwCl A Q nL cells slots w lv pc (.ref v :: .int (nI i) :: .ref b :: st) := fun H locs ls hP hD hS hl =>
  va_astq C.1 C.2.1 C.2.2.2.2.2.1 hP hD hS q0 t0 qk ci he ht hv hc (vp_in_nI hi hn) d (fun H1 locs1 hP hD hS => by
    rw [nI_clamp (by omega)] at hP hD
    exact kk H1 locs1 ls (hw ▸ hP) (hw ▸ hD) hS hl)
/-- what lies beyond an array's end doesn't matter -/
theorem arrV_cut {cA : ClassId} {n : Nat} {f g : Nat → Value} (h : ∀ j, j < n → f j = g j) : arrV cA n f = arrV cA n g := by
  unfold arrV
  congr 1
  congr 1
  funext j
  exact h j.1 j.2
theorem r_cell {b : Nat} {cA : ClassId} {x x' : vp_A} (q0 : Nat) (he : w[q0]? = some (b, .inl (cA, x))) (hx : vp_cell cA x = vp_cell cA x') {w' : va_W} (hw : w.set q0 (b, .inl (cA, x')) = w') (kk : vW p l e R s m args below meth c D vwCl A Q nL cells slots w' lv pc st) : vW p l e R s m args below meth c D vwCl A Q nL cells slots w lv pc st := fun H locs ls hP hD hS hl => by
  subst hw
  refine kk H locs ls (hP.set hD he ?_ (fun _ _ => rfl)) (hD.set he) hS hl
  show H[b]? = some (vp_cell cA x')
  rw [← hx]
  exact hP q0 _ he
theorem r_cellQ {b n : Nat} {cA : ClassId} {f g : Nat → Option Nat} (q0 : Nat) (he : w[q0]? = some (b, .inl (cA, n, .inr (.inr (.inr (.inr f)))))) (hf : ∀ j, j < n → f j = g j) {w' : va_W} (hw : w.set q0 (b, .inl (cA, n, .inr (.inr (.inr (.inr g))))) = w') (kk : vW p l e R s m args below meth c D vwCl A Q nL cells slots w' lv pc st) : vW p l e R s m args below meth c D vwCl A Q nL cells slots w lv pc st :=
  r_cell q0 he (by rw [vp_cell_q, vp_cell_q]; exact arrV_cut (fun j hj => congrArg va_rf (hf j hj))) hw kk
/-- the parts of a world in the other order -/
theorem t_swap (kk : vW p l e R s m args below meth c D vwCl A Q nL cells slots (L ++ U) lv pc st) : vW p l e R s m args below meth c D vwCl A Q nL cells slots (U ++ L) lv pc st := fun H locs ls hP hD hS hl =>
  kk H locs ls (va_P.swap (a := []) (b := U) (c := L) hP) (va_D.swap (a := []) (b := U) (c := L) hD) hS hl
theorem t_swap3 {B : va_W} (kk : vW p l e R s m args below meth c D vwCl A Q nL cells slots (L ++ (U ++ B)) lv pc st) : vW p l e R s m args below meth c D vwCl A Q nL cells slots (U ++ (L ++ B)) lv pc st := fun H locs ls hP hD hS hl => by
  have e1 : (([] ++ L) ++ U) ++ B = L ++ (U ++ B) := List.append_assoc L U B
  refine kk H locs ls (e1 ▸ ?_) (e1 ▸ ?_) hS hl
  · refine va_P.by hP (fun k => if k < L.length then U.length + k else if k < L.length + U.length then k - L.length else k) (fun k q hk => ?_)
    by_cases h1 : k < L.length
    · simp only [if_pos h1]
      rw [List.append_assoc, List.nil_append, List.getElem?_append_left h1] at hk
      rw [List.getElem?_append_right (by omega), show U.length + k - U.length = k by omega, List.getElem?_append_left h1]
      exact hk
    · by_cases h2 : k < L.length + U.length
      · simp only [if_neg h1, if_pos h2]
        rw [List.append_assoc, List.nil_append, List.getElem?_append_right (by omega), List.getElem?_append_left (by omega)] at hk
        rw [List.getElem?_append_left (by omega)]
        exact hk
      · simp only [if_neg h1, if_neg h2]
        rw [List.append_assoc, List.nil_append, List.getElem?_append_right (by omega), List.getElem?_append_right (by omega)] at hk
        rw [List.getElem?_append_right (by omega), List.getElem?_append_right (by omega), show k - U.length - L.length = k - L.length - U.length by omega]
        exact hk
  · refine va_D.by hD (fun k => if k < L.length then U.length + k else if k < L.length + U.length then k - L.length else k) (fun k q hk => ?_) (fun i j hi hj h => ?_)
    · by_cases h1 : k < L.length
      · simp only [if_pos h1]
        rw [List.append_assoc, List.nil_append, List.getElem?_append_left h1] at hk
        rw [List.getElem?_append_right (by omega), show U.length + k - U.length = k by omega, List.getElem?_append_left h1]
        exact hk
      · by_cases h2 : k < L.length + U.length
        · simp only [if_neg h1, if_pos h2]
          rw [List.append_assoc, List.nil_append, List.getElem?_append_right (by omega), List.getElem?_append_left (by omega)] at hk
          rw [List.getElem?_append_left (by omega)]
          exact hk
        · simp only [if_neg h1, if_neg h2]
          rw [List.append_assoc, List.nil_append, List.getElem?_append_right (by omega), List.getElem?_append_right (by omega)] at hk
          rw [List.getElem?_append_right (by omega), List.getElem?_append_right (by omega), show k - U.length - L.length = k - L.length - U.length by omega]
          exact hk
    · try simp only at h
      (repeat' split at h) <;> omega
theorem t_newI (C : Fg p s m args meth c cc nL own D cy A) (at0 : ArrayType) (ty : FieldType) (t0 : Nat) (hat : newarray.typeOf at0 = ty) (hty : ty = .int ∧ t0 = 1 ∧ at0 = .int ∨ ty = .boolean ∧ t0 = 2 ∧ at0 = .boolean ∨ ty = .byte ∧ t0 = 0 ∧ at0 = .byte) (harr2 : Cond.arrayClass ty ∈ GW) {n : Nat} (hn : n < 1000000) (hcells : cells + 1 ≤ R.cells) (hslots : slots + n ≤ R.slots) (d : decode cc pc = .ok (.newarray at0, 2))
    (kk : ∀ q : Nat, vW p l e R s m args below meth c D vwCl A Q nL (cells + 1) (slots + n) (U ++ ((q, .inl (cy t0, n, .inl (fun _ => 0))) :: L)) lv (pc + 2) (.ref q :: st)) : vW p l e R s m args below meth c D vwCl A Q nL cells slots (U ++ L) lv pc (.int (nI n) :: st) :=
  r_newT C at0 ty t0 hat hty harr2 hn _ _ (Nat.le_refl _) (Nat.le_refl _) hcells hslots d (fun q => t_front (kk q))
theorem gp_he {q0 : Nat} {x y : Nat × va_E} (he : w[q0]? = some x) : (w.set q0 y)[q0]? = some y := List.getElem?_set_self (List.getElem?_eq_some_iff.mp he).1
end NEW2
