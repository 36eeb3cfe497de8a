/-! A CALL OF A CONSTRUCTOR -/
section INI
variable {p : Program} {l : Launch} {e : Env} {R : Room} {s : State} {m : MethodId} {args : Array Value} {below : List Frame} {meth : Method} {c : Code} {D : va_G} {cy : Nat → ClassId} {A : Nat → Prop} {Q : State → Prop} {nL cells slots : Nat} {w : va_W} {lv : List (Option Value)} {pc : Nat} {st : List Value} {cc : ByteArray} {own : String} {X : (Nat → Prop) → State → Heap → Prop}
variable {y : MethodName} {bytes : ByteArray} {maxL index n b : Nat} {rm : Room} {As st0 : List Value} {post : Option Value → va_W → Prop} {px : String → Prop} {w' : va_W}
theorem c_I (hX : Stb X) (C : Fg p s m args meth c cc nL own D cy A) (hE : X A s s.heap) (ct : Cm l D cy X y bytes maxL none rm (.ref b :: As) w post px) (pk : PkI y bytes maxL n) (qm : Cond.methodLink own index y ∈ GW)
    (hn : As.length = n) (hstack : st0 = As.reverse ++ .ref b :: st) (hcat : (st.map fun v => v.category).sum ≤ 8)
    (d : decode cc pc = .ok (.invokespecial index, 3)) (hR : rm.frames + 1 ≤ R.frames ∧ 8 + (maxL + 11) + rm.locals ≤ R.locals) (hf : cells + rm.cells ≤ R.cells ∧ slots + rm.slots ≤ R.slots)
    (kk : ∀ (v : Option Value) (w' : va_W), post v w' → vW p l e R s m args below meth c D vwCl A Q nL (cells + rm.cells) (slots + rm.slots) w' lv (pc + 3) (v.toList ++ st))
    (kx : ∀ E : String, px E → vX p l e R s m args below meth c D vwCl A Q nL (cells + rm.cells) (slots + rm.slots) w lv pc st E) : vW p l e R s m args below meth c D vwCl A Q nL cells slots w lv pc st0 :=
  r_run C (fun H locs ls hP hD hS hl => vx_runI (As := As) (rest := st) (g := F0 m pc ls st0) ⟨C.1, C.2.1, C.2.2.1, C.2.2.2.1, C.2.2.2.2.1⟩ (ct H.size) (cw_I C.2.2.2.2.1 pk qm hR) ⟨vPre_blind hX _ _ _, fun U hU hW => ⟨rfl, vPre_at hX C hE hP hD hS U hU hW⟩⟩ rfl hn hl.1 hstack (lv_room hcat) d hf) kk kx
theorem d_I (hX : Stb X) (C : Fg p s m args meth c cc nL own D cy A) (hE : X A s s.heap) (ct : Cd l D cy X y bytes maxL none rm (.ref b :: As) w none w') (pk : PkI y bytes maxL n) (qm : Cond.methodLink own index y ∈ GW)
    (hn : As.length = n) (hstack : st0 = As.reverse ++ .ref b :: st) (hcat : (st.map fun v => v.category).sum ≤ 8)
    (d : decode cc pc = .ok (.invokespecial index, 3)) (hR : rm.frames + 1 ≤ R.frames ∧ 8 + (maxL + 11) + rm.locals ≤ R.locals) (hf : cells + rm.cells ≤ R.cells ∧ slots + rm.slots ≤ R.slots)
    (kk : vW p l e R s m args below meth c D vwCl A Q nL (cells + rm.cells) (slots + rm.slots) w' lv (pc + 3) st) : vW p l e R s m args below meth c D vwCl A Q nL cells slots w lv pc st0 :=
  c_I hX C hE ct pk qm hn hstack hcat d hR hf (fun v w1 h => by obtain ⟨rfl, rfl⟩ := h; exact kk) (fun _ h => h.elim)
end INI
section OI
variable {p : Program} {l : Launch} {e : Env} {R : Room} {s : State} {m : MethodId} {args : Array Value} {below : List Frame} {meth : Method} {c : Code} {D : va_G} {cy : Nat → ClassId} {A : Nat → Prop} {Q : State → Prop} {nL cells slots : Nat} {w : va_W} {lv : List (Option Value)} {pc : Nat} {st : List Value} {cc : ByteArray} {own : String} {X : (Nat → Prop) → State → Heap → Prop}
/-- Object's constructor -/
theorem r_objI (C : Fg p s m args meth c cc nL own D cy A) {index a : Nat} (qm : Cond.methodLink own index objectInit ∈ GW) (d : decode cc pc = .ok (.invokespecial index, 3)) (hf : 1 ≤ R.frames) (hlo : (st.map fun v => v.category).sum + 12 ≤ R.locals)
    (kk : vW p l e R s m args below meth c D vwCl A Q nL cells slots w lv (pc + 3) st) : vW p l e R s m args below meth c D vwCl A Q nL cells slots w lv pc (.ref a :: st) := fun H locs ls hP hD hS hl =>
  W.objInit C.1 C.2.1 C.2.2.2.1 (C.2.2.2.2.1 _ qm) (C.2.2.2.2.1 _ qi_objectInit) (C.2.2.2.2.1 _ qc_objectInit) rfl (hl.1.trans C.2.2.1.symm) rfl d hf (by show 2 * 0 + _ + 12 ≤ _; omega) (kk H locs ls hP hD hS hl)
end OI
