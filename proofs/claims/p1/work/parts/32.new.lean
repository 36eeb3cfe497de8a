/-! NEW OBJECTS -/
section NEW
variable {p : Program} {l : Launch} {e : Env} {R : Room} {s : State} {m : MethodId} {args : Array Value} {below : List Frame} {meth : Method} {c : Code} {D : va_G} {cy : Nat → ClassId} {A : Nat → Prop} {Q : State → Prop} {nL cells slots : Nat} {w : va_W} {lv : List (Option Value)} {pc : Nat} {st : List Value} {cc : ByteArray} {own : String}
theorem r_new (C : Fg p s m args meth c cc nL own D cy A) {Cn : String} {T : u_T} {N ci index : Nat} (hin : ∀ w ∈ u_ws Cn T N, w ∈ GW) (ty : Nat → FieldType) (hty : ∀ k, k < N → parseFieldDescriptor (T k).2.2.1 = some (ty k)) (hcl : Cond.classLink own index Cn ∈ GW) (hinst : Cond.instantiable Cn N ∈ GW) (hini : Cond.initialized Cn ∈ GW) (hc : vwCl[ci]? = some (Cn, T, N)) {fs : List Value} (hfs : ∀ j, j < N → defaultValue (ty j) = vp_V fs j) (hcells : cells + 1 ≤ R.cells) (hslots : slots + N ≤ R.slots) (d : decode cc pc = .ok (.new index, 3))
    (kk : ∀ q : Nat, vW p l e R s m args below meth c D vwCl A Q nL (cells + 1) (slots + N) (w ++ [(q, .inr (ci, fs))]) lv (pc + 3) (.ref q :: st)) : vW p l e R s m args below meth c D vwCl A Q nL cells slots w lv pc st := fun H locs ls hP hD hS hl =>
  va_new C.1 C.2.1 C.2.2.2.2.1 hin ty hty C.2.2.2.1 (C.2.2.2.2.1 _ hcl) (C.2.2.2.2.1 _ hinst) (C.2.2.2.2.1 _ hini) C.2.2.2.2.2.1 hP hD hS C.2.2.2.2.2.2.2 hc hfs hcells hslots d (fun q H1 hP hD hS => kk q H1 locs ls hP hD hS hl)
theorem r_newB (C : Fg p s m args meth c cc nL own D cy A) (harr2 : Cond.arrayClass (newarray.typeOf .byte) ∈ GW) {n : Nat} (hn : n < 1000000) (hcells : cells + 1 ≤ R.cells) (hslots : slots + n ≤ R.slots) (d : decode cc pc = .ok (.newarray .byte, 2))
    (kk : ∀ q : Nat, vW p l e R s m args below meth c D vwCl A Q nL (cells + 1) (slots + n) (w ++ [(q, .inl (cy 0, n, .inl (fun _ => 0)))]) lv (pc + 2) (.ref q :: st)) : vW p l e R s m args below meth c D vwCl A Q nL cells slots w lv pc (.int (nI n) :: st) := fun H locs ls hP hD hS hl =>
  va_newa C.1 C.2.1 (C.2.2.2.2.1 _ harr2) (ty := .byte) rfl C.2.2.2.2.2.1 hP hD hS C.2.2.2.2.2.2.2 (N' := n) (a0 := (n, .inl (fun _ => 0))) (fun _ => rfl) (fun z => by rw [Int32.lt_iff_toInt_lt, nI_toInt (by omega)] at z; have : (0 : Int32).toInt = 0 := rfl; omega) (nI_clamp (by omega)) (by show n * 1 ≤ _; omega) hcells hslots d (fun q cA H1 hK hP hD hS => by
    have h1 := (hK.2 6 (cA, .byte) rfl).2
    have h2 := (hK.2 0 (cy 0, .byte) rfl).2
    have e : cA = cy 0 := Option.some.inj (h1.symm.trans h2)
    subst e
    exact kk q H1 locs ls hP hD hS hl)
end NEW
