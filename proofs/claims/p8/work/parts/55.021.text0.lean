section TXR
variable {p : Program} {l : Launch} {e : Env} {R : Room} {s : State} {m : MethodId} {args : Array Value} {below : List Frame} {meth : Method} {c : Code} {D : va_G} {cy : Nat → ClassId} {A : Nat → Prop} {Q : State → Prop} {nL cells slots : Nat} {lv : List (Option Value)} {pc : Nat} {st : List Value} {cc : ByteArray} {own : String} {X : (Nat → Prop) → State → Heap → Prop} {w : va_W} {aK aV : Nat → Nat} {tO tT : Nat} {gO gT : Nat → Int32}
/-- constants -/
theorem j_ldc (C : Fg p s m args meth c cc nL own D cy A) {index : Nat} {v : Int32} (hq : Cond.constant own index v ∈ GW) (d : decode cc pc = .ok (.ldc index, 2)) (kk : vW p l e R s m args below meth c D vwCl A Q nL cells slots w lv (pc + 2) (.int v :: st)) : vW p l e R s m args below meth c D vwCl A Q nL cells slots w lv pc st := fun H locs ls hP hD hS hl =>
  lv_ldc C.1 C.2.1 C.2.2.2.1 (C.2.2.2.2.1 _ hq) d (kk H locs ls hP hD hS hl)
end TXR
