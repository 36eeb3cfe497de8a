theorem us_s {U E : va_W} (k : Nat) (e : Nat × va_E) : (U ++ E).set (U.length + k) e = U ++ E.set k e := by
  rw [List.set_append_right _ _ (by omega), show U.length + k - U.length = k by omega]
theorem j_priv {C : String} {x y : MethodName} {s : State} {args : Array Value} {n : Nat} (hy : y.cls ≠ "java/lang/invoke/MethodHandle" ∧ y.cls ≠ "java/lang/invoke/VarHandle") (hx : x.cls ≠ "java/lang/invoke/MethodHandle" ∧ x.cls ≠ "java/lang/invoke/VarHandle") (hxy : x.cls = y.cls)
    (hsx : (Cond.selects C x x).before args s = true) (hix : (Cond.instanceMethod x).before args s = true)
    (hins : (Cond.instantiable C n).before args s = true) (hpriv : (Cond.privateMethod y).before args s = true) (hinst : (Cond.instanceMethod y).before args s = true) :
    (Cond.selects C y y).before args s = true := by
  obtain ⟨c, k, hc, hk, -, hniab, -, -⟩ := Cond.instantiable_spec hins
  obtain ⟨mk, methM, hnamed, hmethM, -, -⟩ := Cond.instanceMethod_spec hinst
  obtain ⟨mx, methX, hnamedx, hmethX, -, -⟩ := Cond.instanceMethod_spec hix
  have hfound : s.methodFound? y.cls y.name y.desc = some mk := State.methodFound?_of_named hnamed hy
  have hfoundx : s.methodFound? x.cls x.name x.desc = some mx := State.methodFound?_of_named hnamedx hx
  have hsel : selectMethod {} s.vm c mk = .method mk := selectMethod_private hmethM (Cond.privateMethod_at hpriv mk methM hnamed hmethM)
  have hcl : mk.cls = mx.cls := Option.some.inj ((findClass_of_methodNamed hnamed).symm.trans ((congrArg s.vm.findClass hxy.symm).trans (findClass_of_methodNamed hnamedx)))
  simp only [Cond.before, Cond.holds, Cond.value, hc, hfoundx, hnamedx, hk] at hsx
  simp only [Cond.before, Cond.holds, Cond.value, hc, hfound, hnamed, hsel, hk]
  rw [hcl]
  split at hsx
  · have h4 := ((Bool.and_eq_true _ _).mp (Option.some.inj (beq_iff_eq.mp hsx))).2
    rw [h4]
    simp
  · cases hsx
