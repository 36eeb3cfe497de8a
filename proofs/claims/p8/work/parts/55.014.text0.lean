section TXR
variable {p : Program} {l : Launch} {e : Env} {R : Room} {s : State} {m : MethodId} {args : Array Value} {below : List Frame} {meth : Method} {c : Code} {D : va_G} {cy : Nat → ClassId} {A : Nat → Prop} {Q : State → Prop} {nL cells slots : Nat} {lv : List (Option Value)} {pc : Nat} {st : List Value} {cc : ByteArray} {own : String} {X : (Nat → Prop) → State → Heap → Prop} {w : va_W} {aK aV : Nat → Nat} {tO tT : Nat} {gO gT : Nat → Int32}
theorem bf_up {f : Nat → Int32} {i : Nat} {x : Int32} (h : sb_Fit f) : sb_Fit (upd f i (vp_nar .byte x)) := sb_fitU h (by rw [vp_nar_byte]; exact pk_fb x)
/-- bytes from one array to another -/
theorem g_bcp (C : Fg p s m args meth c cc nL own D cy A) {index a0 a1 n0 n1 sp dp n : Nat} {f g : Nat → Int32} (q0 q1 : Nat) (hq : Cond.methodLink own index arraycopyName ∈ GW) (he0 : w[q0]? = some (a0, .inl (cy 0, n0, .inl f))) (he1 : w[q1]? = some (a1, .inl (cy 0, n1, .inl g))) (hfit : sb_Fit f) (hsp : sp + n ≤ n0) (hdp : dp + n ≤ n1) (hn0 : n0 < 2147483648) (hn1 : n1 < 2147483648) (hf : 1 ≤ R.frames) (hlo : (st.map fun v => v.category).sum + (nativeFrameWords "java/lang/System" "arraycopy" 5 + 11) ≤ R.locals) (d : decode cc pc = .ok (.invokestatic index, 3)) {w' : va_W} (hw : w.set q1 (a1, .inl (cy 0, n1, .inl (va_cpy f g sp dp n))) = w')
    (kk : vW p l e R s m args below meth c D vwCl A Q nL cells slots w' lv (pc + 3) st) : vW p l e R s m args below meth c D vwCl A Q nL cells slots w lv pc (.int (nI n) :: .int (nI dp) :: .ref a1 :: .int (nI sp) :: .ref a0 :: st) := fun H locs ls hP hD hS hl => by
  have c0 : (nI sp).toNatClampNeg = sp := nI_clamp (by omega)
  have c1 : (nI dp).toNatClampNeg = dp := nI_clamp (by omega)
  have c2 : (nI n).toNatClampNeg = n := nI_clamp (by omega)
  refine va_copyi C.1 C.2.1 (C.2.2.1.trans hl.1.symm) C.2.2.2.1 (C.2.2.2.2.1 _ hq) (C.2.2.2.2.1 _ qv_arraycopyName) (C.2.2.2.2.1 _ qt_arraycopyName) (C.2.2.2.2.1 _ qz_J10) C.2.2.2.2.2.1 hP hD hS q0 q1 0 0 he0 he1 rfl rfl rfl (nI_pos (by omega)) (nI_pos (by omega)) (nI_pos (by omega)) (by rw [c0, c2]; exact hsp) (by rw [c1, c2]; exact hdp) (fun _ _ => hfit _) hf hlo d (fun H1 locs1 hP hD hS => ?_)
  rw [c0, c1, c2] at hP hD
  exact kk H1 locs1 ls (hw ▸ hP) (hw ▸ hD) hS hl
end TXR
