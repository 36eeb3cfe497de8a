section TXR
variable {p : Program} {l : Launch} {e : Env} {R : Room} {s : State} {m : MethodId} {args : Array Value} {below : List Frame} {meth : Method} {c : Code} {D : va_G} {cy : Nat → ClassId} {A : Nat → Prop} {Q : State → Prop} {nL cells slots : Nat} {lv : List (Option Value)} {pc : Nat} {st : List Value} {cc : ByteArray} {own : String} {X : (Nat → Prop) → State → Heap → Prop} {w : va_W} {aK aV : Nat → Nat} {tO tT : Nat} {gO gT : Nat → Int32}
/-- statics -/
theorem j_cs (hX : EnvS X cy aK aV tO tT gO gT) (C : Fg p s m args meth c cc nL own D cy A) (hE : X A s s.heap) {index : Nat} (hq : Cond.fieldLink own index "java/lang/String" "COMPACT_STRINGS" "Z" ∈ GW) (d : decode cc pc = .ok (.getstatic index, 3)) (kk : vW p l e R s m args below meth c D vwCl A Q nL cells slots w lv (pc + 3) (.int (nI 1) :: st)) : vW p l e R s m args below meth c D vwCl A Q nL cells slots w lv pc st := fun H locs ls hP hD hS hl =>
  va_gets C.1 C.2.1 (hX.2.1 A s s.heap hE).2.2.1 hS C.2.2.2.1 (C.2.2.2.2.1 _ hq) (fun _ h => h) d (kk H locs ls hP hD hS hl)
end TXR
