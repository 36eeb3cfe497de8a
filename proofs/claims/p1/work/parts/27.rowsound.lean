/-! A CALL THAT LEAVES THE SCRATCH OPEN -/
section DVE
variable {l : Launch} {D : va_G} {cy : Nat → ClassId} {X : (Nat → Prop) → State → Heap → Prop} {p : Program} {e : Env} {R : Room} {s : State} {m : MethodId} {args : Array Value} {below : List Frame} {meth : Method} {c : Code} {A : Nat → Prop} {Q : State → Prop} {nL cells slots : Nat} {cc : ByteArray} {own : String}
theorem d_VE {a : Nat → Nat → Nat} {f : Nat → Nat → Nat} {r : Nat → Nat → Int32} {kn : Int32} {Y : va_W} {y : MethodName} {bytes : ByteArray} {maxL n index b pc : Nat} {ret : Option FieldType} {rm : Room} {As st st0 : List Value} {v0 : Value} {lv : List (Option Value)} {Cn : String} (hX : Stb X) (C : Fg p s m args meth c cc nL own D cy A) (hE : X A s s.heap) (ct : Cm l D cy X y bytes maxL ret rm (.ref b :: As) (WC cy a f r kn ++ Y) (fun v w1 => v = some v0 ∧ ∃ f' r', w1 = WC cy a f' r' kn ++ Y ∧ Scr f r f' r') (fun _ => False)) (pk : PkV Cn y bytes maxL ret n) (qm : Cond.methodLink own index y ∈ GW)
    (q0 ci : Nat) {fs : List Value} {q : vw_C} (hc : vwCl[ci]? = some q) (hq : q.1 = Cn) (he : (WC cy a f r kn ++ Y)[q0]? = some (b, .inr (ci, fs))) (hn : As.length = n) (hstack : st0 = As.reverse ++ .ref b :: st) (hcat : (st.map fun v => v.category).sum ≤ 8)
    (d : decode cc pc = .ok (.invokevirtual index, 3)) (hR : rm.frames + 1 ≤ R.frames ∧ 8 + (maxL + 11) + rm.locals ≤ R.locals) (hf : cells + rm.cells ≤ R.cells ∧ slots + rm.slots ≤ R.slots)
    (kk : ∀ f' r', Scr f r f' r' → vW p l e R s m args below meth c D vwCl A Q nL (cells + rm.cells) (slots + rm.slots) (WC cy a f' r' kn ++ Y) lv (pc + 3) (v0 :: st)) : vW p l e R s m args below meth c D vwCl A Q nL cells slots (WC cy a f r kn ++ Y) lv pc st0 :=
  c_V hX C hE ct pk qm q0 ci hc hq he hn hstack hcat d hR hf (fun v w1 h => by
    obtain ⟨rfl, f', r', rfl, h2⟩ := h
    exact kk f' r' h2) (fun _ h => h.elim)
end DVE
