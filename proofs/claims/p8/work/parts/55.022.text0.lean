section TXR
variable {p : Program} {l : Launch} {e : Env} {R : Room} {s : State} {m : MethodId} {args : Array Value} {below : List Frame} {meth : Method} {c : Code} {D : va_G} {cy : Nat → ClassId} {A : Nat → Prop} {Q : State → Prop} {nL cells slots : Nat} {lv : List (Option Value)} {pc : Nat} {st : List Value} {cc : ByteArray} {own : String} {X : (Nat → Prop) → State → Heap → Prop} {w : va_W} {aK aV : Nat → Nat} {tO tT : Nat} {gO gT : Nat → Int32}
theorem j_ldcS (hX : EnvS X cy aK aV tO tT gO gT) (C : Fg p s m args meth c cc nL own D cy A) (hE : X A s s.heap) {index i : Nat} {tx : String} (hi : KSL[i]? = some (own, index, tx)) (d : decode cc pc = .ok (.ldc index, 2)) (kk : vW p l e R s m args below meth c D vwCl A Q nL cells slots w lv (pc + 2) (.ref (aK i) :: st)) : vW p l e R s m args below meth c D vwCl A Q nL cells slots w lv pc st := fun H locs ls hP hD hS hl =>
  va_ldcS C.1 C.2.1 C.2.2.2.1 ((hX.2.1 A s s.heap hE).2.1 i _ hi) d (kk H locs ls hP hD hS hl)
theorem j_null (C : Fg p s m args meth c cc nL own D cy A) (d : decode cc pc = .ok (.aconst_null, 1)) (kk : vW p l e R s m args below meth c D vwCl A Q nL cells slots w lv (pc + 1) (.null :: st)) : vW p l e R s m args below meth c D vwCl A Q nL cells slots w lv pc st := fun H locs ls hP hD hS hl =>
  lv_null C.1 C.2.1 d (kk H locs ls hP hD hS hl)
end TXR
