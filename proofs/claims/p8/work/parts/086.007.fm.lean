/-- a local is forgotten -/
theorem r_drop {p : Program} {l : Launch} {e : Env} {R : Room} {s : State} {m : MethodId} {args : Array Value} {below : List Frame} {meth : Method} {c : Code} {D : va_G} {cl : List vw_C} {A : Nat → Prop} {Q : State → Prop} {nL cells slots : Nat} {w : va_W} {lv : List (Option Value)} {pc : Nat} {st : List Value} (k : Nat) (kk : vW p l e R s m args below meth c D cl A Q nL cells slots w (lv.set k none) pc st) : vW p l e R s m args below meth c D cl A Q nL cells slots w lv pc st :=
  r_lv (lv' := lv.set k none) (fun i v h => by
    rw [List.getElem?_set] at h
    split at h
    · split at h <;> cases h
    · exact h) kk

