section THR
variable {p : Program} {l : Launch} {e : Env} {R : Room} {s : State} {m : MethodId} {args : Array Value} {below : List Frame} {meth : Method} {c : Code} {D : va_G} {cy : Nat → ClassId} {A : Nat → Prop} {nL cells slots : Nat} {w : va_W} {lv : List (Option Value)} {pc : Nat} {st : List Value} {cc : ByteArray} {own : String} {X : (Nat → Prop) → State → Heap → Prop}
theorem r_throw {post : Option Value → va_W → Prop} {px : String → Prop} {w0 : va_W} {mc ms : Nat} {cls text : String} {names : List String} {ik is ic : Nat} (hX : EnvX X) (hl : l.stackTraces = false) (C : Fg p s m args meth c cc nL own D cy A) (hE : X A s s.heap) (hnt : ∀ x ∈ c.exceptionTable.toList, False)
    (hok : thr_ok own ik ic cls names = true) (hcls : Bundle.fit cls = true) (hnames : ∀ n ∈ names, Bundle.fit n = true) (hs : (own, is, text) ∈ SRL)
    (d0 : decode cc pc = .ok (.new ik, 3)) (d3 : decode cc (pc + 3) = .ok (.dup, 1)) (d4 : decode cc (pc + 4) = .ok (.ldc is, 2)) (d6 : decode cc (pc + 6) = .ok (.invokespecial ic, 3)) (d9 : decode cc (pc + 9) = .ok (.athrow, 1))
    (hRf : names.length + 3 < R.frames) (hRl : (st.map fun v => v.category).sum + (13 * (names.length + 1) + 43) ≤ R.locals) (hRc : cells + 1 ≤ R.cells) (hRs : slots + 6 ≤ R.slots) (hw : w = w0) (hp : px cls) (h1 : cells + 1 ≤ mc) (h2 : slots + 6 ≤ ms) :
    vW p l e R s m args below meth c D vwCl A (vx_MQ below (vG post D vwCl A) (vGX px D vwCl w0 A) args s mc ms A) nL cells slots w lv pc st := fun H locs ls hP hD hS hll => by
  have hat := thr_hat hX hok hE C.2.2.2.2.1
  obtain ⟨sa, hstr⟩ := hX.sr _ hs hE
  obtain ⟨hU, hN⟩ := hX.z hE
  exact vx_throwS C.1 C.2.1 hl C.2.2.2.1 hcls hnames (hat _ List.mem_cons_self).1 (hat _ (List.mem_cons_of_mem _ List.mem_cons_self)).1 hstr (fun w hw => (hat w (List.mem_cons_of_mem _ (List.mem_cons_of_mem _ hw))).1) (fun w hw => (hat w hw).2) hU hN hS (hll.1.trans C.2.2.1.symm) d0 d3 d4 d6 d9 (fun x hx => (hnt x hx).elim) hRf hRl hRc hRs C.2.2.2.2.2.2.1 (fun t ht hz hk => ⟨hp, by subst hw; exact hP.kept (fun k q hq => hk q.1 (hP k q hq).lt), ⟨Nat.le_trans hS.1 hz, fun q h3 h4 => (hk q (Nat.lt_of_lt_of_le h3 hS.1)).trans (hS.2.1 q h3 h4)⟩⟩) hS.2.2 h1 h2
end THR
