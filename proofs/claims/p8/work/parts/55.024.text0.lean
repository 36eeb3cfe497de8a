section TXR
variable {p : Program} {l : Launch} {e : Env} {R : Room} {s : State} {m : MethodId} {args : Array Value} {below : List Frame} {meth : Method} {c : Code} {D : va_G} {cy : Nat → ClassId} {A : Nat → Prop} {Q : State → Prop} {nL cells slots : Nat} {lv : List (Option Value)} {pc : Nat} {st : List Value} {cc : ByteArray} {own : String} {X : (Nat → Prop) → State → Heap → Prop} {w : va_W} {aK aV : Nat → Nat} {tO tT : Nat} {gO gT : Nat → Int32}
/-- a constant's length -/
theorem k_len (hX : EnvS X cy aK aV tO tT gO gT) (C : Fg p s m args meth c cc nL own D cy A) (hE : X A s s.heap) {i : Nat} (hi : i < KSN.length) (d : decode cc pc = .ok (.arraylength, 1)) (kk : vW p l e R s m args below meth c D vwCl A Q nL cells slots w lv (pc + 1) (.int (nI (KSN.getD i 0)) :: st)) : vW p l e R s m args below meth c D vwCl A Q nL cells slots w lv pc (.ref (aV i) :: st) := fun H locs ls hP hD hS hl =>
  va_tlen C.1 C.2.1 (ks_at (hX.2.1 A s s.heap hE).1 hi).2.2.2 hS rfl d (kk H locs ls hP hD hS hl)
end TXR


