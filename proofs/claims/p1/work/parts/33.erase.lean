/-! WHAT IS NO LONGER NEEDED IS FORGOTTEN -/
section ERA
variable {p : Program} {l : Launch} {e : Env} {R : Room} {s : State} {m : MethodId} {args : Array Value} {below : List Frame} {meth : Method} {c : Code} {D : va_G} {cl : List vw_C} {A : Nat → Prop} {Q : State → Prop} {nL cells slots : Nat} {w : va_W} {lv : List (Option Value)} {pc : Nat} {st : List Value}
theorem era_at (w : va_W) (k i : Nat) : (w.eraseIdx k)[i]? = w[if i < k then i else i + 1]? := by
  rw [List.getElem?_eraseIdx]
  split <;> rfl
theorem r_erase (k : Nat) (kk : vW p l e R s m args below meth c D cl A Q nL cells slots (w.eraseIdx k) lv pc st) : vW p l e R s m args below meth c D cl A Q nL cells slots w lv pc st := fun H locs ls hP hD hS hl =>
  kk H locs ls (fun i q hi => hP _ q ((era_at w k i).symm.trans hi)) ⟨fun i j x y hi hj e => by
    have := hD.1 _ _ x y ((era_at w k i).symm.trans hi) ((era_at w k j).symm.trans hj) e
    split at this <;> split at this <;> omega, fun i q hi => hD.2 _ q ((era_at w k i).symm.trans hi)⟩ hS hl
end ERA
