section TXR
variable {p : Program} {l : Launch} {e : Env} {R : Room} {s : State} {m : MethodId} {args : Array Value} {below : List Frame} {meth : Method} {c : Code} {D : va_G} {cy : Nat → ClassId} {A : Nat → Prop} {Q : State → Prop} {nL cells slots : Nat} {lv : List (Option Value)} {pc : Nat} {st : List Value} {cc : ByteArray} {own : String} {X : (Nat → Prop) → State → Heap → Prop} {w : va_W} {aK aV : Nat → Nat} {tO tT : Nat} {gO gT : Nat → Int32}
/-- bytes of a constant's -/
theorem k_bcp (hX : EnvS X cy aK aV tO tT gO gT) (C : Fg p s m args meth c cc nL own D cy A) (hE : X A s s.heap) {index a1 n1 dp i : Nat} {g : Nat → Int32} (q1 : Nat) (hi : i < KSN.length) (hq : Cond.methodLink own index arraycopyName ∈ GW) (he1 : w[q1]? = some (a1, .inl (cy 0, n1, .inl g))) (hdp : dp + KSN.getD i 0 ≤ n1) (hn1 : n1 < 2147483648) (hf : 1 ≤ R.frames) (hlo : (st.map fun v => v.category).sum + (nativeFrameWords "java/lang/System" "arraycopy" 5 + 11) ≤ R.locals) (d : decode cc pc = .ok (.invokestatic index, 3)) {w' : va_W} (hw : w.set q1 (a1, .inl (cy 0, n1, .inl (va_cpy (fun j => (KSB.getD i []).getD j 0) g 0 dp (KSN.getD i 0)))) = w')
    (kk : vW p l e R s m args below meth c D vwCl A Q nL cells slots w' lv (pc + 3) st) : vW p l e R s m args below meth c D vwCl A Q nL cells slots w lv pc (.int (nI (KSN.getD i 0)) :: .int (nI dp) :: .ref a1 :: .int (nI 0) :: .ref (aV i) :: st) := fun H locs ls hP hD hS hl => by
  have hlen : KSN.getD i 0 < 100 := by
    have : ∀ j, j < KSN.length → KSN.getD j 0 < 100 := by decide
    exact this i hi
  have c0 : (nI 0).toNatClampNeg = 0 := nI_clamp (by omega)
  have c1 : (nI dp).toNatClampNeg = dp := nI_clamp (by omega)
  have c2 : (nI (KSN.getD i 0)).toNatClampNeg = KSN.getD i 0 := nI_clamp (by omega)
  have hT := (ks_at (hX.2.1 A s s.heap hE).1 hi).2.2.2
  refine vk_copyt C.1 C.2.1 (C.2.2.1.trans hl.1.symm) C.2.2.2.1 (C.2.2.2.2.1 _ hq) (C.2.2.2.2.1 _ qv_arraycopyName) (C.2.2.2.2.1 _ qt_arraycopyName) (C.2.2.2.2.1 _ qz_J10) C.2.2.2.2.2.1 hP hD hS hT q1 0 he1 rfl (nI_pos (by omega)) (nI_pos (by omega)) (nI_pos (by omega)) (by rw [c0, c2]; omega) (by rw [c1, c2]; exact hdp) (fun j hj => ?_) hf hlo d (fun H1 locs1 hP hD hS => ?_)
  · rw [c2] at hj
    rw [c0, Nat.zero_add]
    have hall : ∀ i, i < KSN.length → ∀ j, j < KSN.getD i 0 → fits .byte (.int ((KSB.getD i []).getD j 0)) = true := by decide
    exact hall i hi j hj
  · rw [c0, c1, c2] at hP hD
    exact kk H1 locs1 ls (hw ▸ hP) (hw ▸ hD) hS hl
end TXR
