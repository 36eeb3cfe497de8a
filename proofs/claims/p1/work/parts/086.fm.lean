/-! bodies of the JDK's methods (the proof follows vx_ofW of EXCEPTIONS.to-paste); Math.floorMod of an int by a positive one -/
theorem vx_ofWF {l : Launch} {y : MethodName} {ws ws' : List Cond} {rm : Room} {Pc : Array Value → State → Prop} {Qc : Array Value → State → Outcome → State → Prop} {XC : String → State → State → Prop} {mc ms : Nat} {free : Addr → Prop} {cc : ByteArray} {maxL : Nat} {ret : Option FieldType}
    (hy : plainFor y = true) (hw : ws = Cond.code y cc maxL ret :: ws')
    (body : ∀ p e s m args below meth c s₁, BodyLoose p l y (headSpec ws rm) cc maxL ret e s m args below meth c s₁ → c.maxLocals = maxL → (∀ x ∈ c.exceptionTable.toList, False) → Pc args s →
      W p l e (headSpec ws rm).room s m args below meth c s.heap [] 0 0 (vx_MQ below Qc XC args s mc ms free) (entryFrame m args maxL)) : vx_Met l y ws rm Pc Qc XC mc ms free := by
  refine MetFree.of_bodySF (code := cc) (maxLocals := maxL) (ret := ret) hy ?_ ?_
  · intro args s m h hn
    obtain ⟨meth, c, h1, h2, h3, h4, h5, h6, -, -⟩ := Cond.code_spec hn (atoms_spec (ws := ws) h _ (by rw [hw]; exact List.mem_cons_self))
    exact ⟨meth, c, h1, h2, h3, h4, h5, h6⟩
  · intro p e s m args below meth c s₁ B hml hP _
    have hh0 : s₁.heap = s.heap := by rw [B.state]; rfl
    have ht : ∀ x ∈ c.exceptionTable.toList, False := by
      obtain ⟨meth9, c9, h1, h2, -, -, -, -, h7, -⟩ := Cond.code_spec B.named (atoms_spec (ws := ws) B.pre _ (by rw [hw]; exact List.mem_cons_self))
      cases Option.some.inj (h1.symm.trans B.method)
      cases Option.some.inj (h2.symm.trans (Stand.of_body B).code)
      intro x hx
      rw [Array.isEmpty_iff.mp h7] at hx
      cases hx
    obtain ⟨t, a1, o, b1, b2, b3⟩ := body p e s m args below meth c s₁ B hml ht hP s₁ hh0 (Stand.of_body B)
    exact ⟨t, o, a1, b1, b2, b3⟩
theorem Cm.ofF {l : Launch} {D : va_G} {cy : Nat → ClassId} {X : (Nat → Prop) → State → Heap → Prop} {y : MethodName} {cc : ByteArray} {maxL : Nat} {ret : Option FieldType} {rm : Room} {av : List Value} {w : va_W} {post : Option Value → va_W → Prop} {px : String → Prop} (lv : List (Option Value))
    (hy : plainFor y = true) (hlv : lvl 0 lv = lv_args 0 av) (hlen : (lg_sl av).length ≤ maxL)
    (body : ∀ (p : Program) (e : Env) (s : State) (m : MethodId) (args : Array Value) (below : List Frame) (meth : Method) (c : Code) (A : Nat → Prop), Fg p s m args meth c cc maxL y.cls D cy A → X A s s.heap → meth.sig.returnType = ret → (∀ x ∈ c.exceptionTable.toList, False) → meth.name = y.name →
      vW p l e rm s m args below meth c D vwCl A (vx_MQ below (vG post D vwCl A) (vGX px D vwCl w A) args s rm.cells rm.slots A) maxL 0 0 w lv 0 []) : Cm l D cy X y cc maxL ret rm av w post px := by
  intro sz
  refine vx_ofWF (cc := cc) (maxL := maxL) (ret := ret) hy rfl ?_
  intro p e s m args below meth c s₁ B hml hnt hv
  obtain ⟨rfl, hsz, hP, hK, hD0, hX⟩ := hv
  subst hsz
  have hts := atoms_spec (ws := Cond.code y cc maxL ret :: GW) B.pre
  have hown : s.vm.findClass y.cls = some m.cls := findClass_of_methodNamed B.named
  have hD : va_D (va_A w s.heap.size) w := hD0.self
  rw [lg_entry_eq]
  exact body p e s m av.toArray below meth c (va_A w s.heap.size) ⟨B.exec, B.bytes, hml, hown, fun w hw => hts w (List.mem_cons_of_mem _ hw), hK, B.notSynchronized, fun q h => Or.inr h⟩ hX B.returns hnt (name_of_methodNamed B.named B.method).1 s.heap [] _ hP hD va_S.rf (lvh.of (lv_entry av hlen) hlv)
theorem xor_neg {x y : Int32} (hy : 0 ≤ y.toInt) : (x ^^^ y) < 0 ↔ x.toInt < 0 := by
  have h1 : (x ^^^ y) < 0 ↔ (x ^^^ y).toInt < 0 := by
    rw [Int32.lt_iff_toInt_lt]
    rfl
  rw [h1]
  have e1 : ∀ z : Int32, z.toInt < 0 ↔ z.toBitVec.msb = true := fun z => by
    rw [BitVec.msb_eq_toInt]
    simp only [decide_eq_true_eq]
    rfl
  rw [e1, e1]
  have e2 : y.toBitVec.msb = false := by
    rcases h : y.toBitVec.msb with _ | _
    · rfl
    · have := (e1 y).mpr h
      omega
  have e3 : (x ^^^ y).toBitVec = x.toBitVec ^^^ y.toBitVec := rfl
  rw [e3, BitVec.msb_xor, e2, Bool.xor_false]
theorem fm_mod {X t n : Int} (hn : 0 < n) (ht : t = X.tmod n) : X % n = if t < 0 then t + n else t := by
  have h1 : X % n = t % n := by
    rw [ht, Int.tmod_def, Int.sub_mul_emod_self_left]
  have hb := tmod_bounds (a := X) hn
  rw [← ht] at hb
  rw [h1]
  split
  · rw [← Int.add_emod_right, Int.emod_eq_of_lt (by omega) (by omega)]
  · exact Int.emod_eq_of_lt (by omega) (by omega)
theorem fm_val {x : Int32} {n : Nat} (h0 : 0 < n) (hn : n < 2147483648) {y : Int32} (hy : y.toInt = x.toInt % (n : Int)) : y = nI (shN x n) := by
  apply Int32.toInt_inj.mp
  have h1 := shN_lt x h0
  have h2 : ((shN x n : Nat) : Int) = x.toInt % (n : Int) := by
    unfold shN
    exact Int.toNat_of_nonneg (Int.emod_nonneg _ (by omega))
  rw [hy, nI_toInt (by omega), h2]
theorem dJ9_floorMod_7cf53_0 : decode cJ9_floorMod_7cf53 0 = .ok (.iload_n 0, 1) := dqo_26 (kb_of ke_J9_floorMod_7cf53 0 rfl)
theorem dJ9_floorMod_7cf53_1 : decode cJ9_floorMod_7cf53 1 = .ok (.iload_n 1, 1) := dqo_27 (kb_of ke_J9_floorMod_7cf53 1 rfl)
theorem dJ9_floorMod_7cf53_2 : decode cJ9_floorMod_7cf53 2 = .ok (.irem, 1) := dqo_112 (kb_of ke_J9_floorMod_7cf53 2 rfl)
theorem dJ9_floorMod_7cf53_3 : decode cJ9_floorMod_7cf53 3 = .ok (.istore_n 2, 1) := dqo_61 (kb_of ke_J9_floorMod_7cf53 3 rfl)
theorem dJ9_floorMod_7cf53_4 : decode cJ9_floorMod_7cf53 4 = .ok (.iload_n 0, 1) := dqo_26 (kb_of ke_J9_floorMod_7cf53 4 rfl)
theorem dJ9_floorMod_7cf53_5 : decode cJ9_floorMod_7cf53 5 = .ok (.iload_n 1, 1) := dqo_27 (kb_of ke_J9_floorMod_7cf53 5 rfl)
theorem dJ9_floorMod_7cf53_6 : decode cJ9_floorMod_7cf53 6 = .ok (.ixor, 1) := dqo_130 (kb_of ke_J9_floorMod_7cf53 6 rfl)
theorem dJ9_floorMod_7cf53_7 : decode cJ9_floorMod_7cf53 7 = .ok (.ifCond .ge 11, 3) := dqo_156 0 11 (by decide) (kb_of ke_J9_floorMod_7cf53 7 rfl) (kb_of ke_J9_floorMod_7cf53 8 rfl) (kb_of ke_J9_floorMod_7cf53 9 rfl)
theorem dJ9_floorMod_7cf53_10 : decode cJ9_floorMod_7cf53 10 = .ok (.iload_n 2, 1) := dqo_28 (kb_of ke_J9_floorMod_7cf53 10 rfl)
theorem dJ9_floorMod_7cf53_11 : decode cJ9_floorMod_7cf53 11 = .ok (.ifCond .eq 7, 3) := dqo_153 0 7 (by decide) (kb_of ke_J9_floorMod_7cf53 11 rfl) (kb_of ke_J9_floorMod_7cf53 12 rfl) (kb_of ke_J9_floorMod_7cf53 13 rfl)
theorem dJ9_floorMod_7cf53_14 : decode cJ9_floorMod_7cf53 14 = .ok (.iload_n 2, 1) := dqo_28 (kb_of ke_J9_floorMod_7cf53 14 rfl)
theorem dJ9_floorMod_7cf53_15 : decode cJ9_floorMod_7cf53 15 = .ok (.iload_n 1, 1) := dqo_27 (kb_of ke_J9_floorMod_7cf53 15 rfl)
theorem dJ9_floorMod_7cf53_16 : decode cJ9_floorMod_7cf53 16 = .ok (.iadd, 1) := dqo_96 (kb_of ke_J9_floorMod_7cf53 16 rfl)
theorem dJ9_floorMod_7cf53_17 : decode cJ9_floorMod_7cf53 17 = .ok (.ireturn, 1) := dqo_172 (kb_of ke_J9_floorMod_7cf53 17 rfl)
theorem dJ9_floorMod_7cf53_18 : decode cJ9_floorMod_7cf53 18 = .ok (.iload_n 2, 1) := dqo_28 (kb_of ke_J9_floorMod_7cf53 18 rfl)
theorem dJ9_floorMod_7cf53_19 : decode cJ9_floorMod_7cf53 19 = .ok (.ireturn, 1) := dqo_172 (kb_of ke_J9_floorMod_7cf53 19 rfl)
set_option maxRecDepth 100000 in
set_option maxHeartbeats 4000000 in
theorem C_floorMod {l : Launch} {D : va_G} {cy : Nat → ClassId} {X : (Nat → Prop) → State → Heap → Prop} {w : va_W} {x : Int32} {n : Nat} (h0 : 0 < n) (hn : n < 2147483648) : Cd l D cy X yJ9_floorMod_7cf53 cJ9_floorMod_7cf53 3 (some .int) (rmz 0 0) [.int x, .int (nI n)] w (some (.int (nI (shN x n)))) w := by
  refine Cm.ofF [some (.int x), some (.int (nI n)), none] (by decide +kernel) rfl (Nat.le_of_ble_eq_true rfl) ?_
  intro p e s m args below meth c A C hE hr hnt hnm
  have hnI : (nI n).toInt = (n : Int) := nI_toInt hn
  have hrt := rem_toInt x (nI n)
  rw [hnI] at hrt
  obtain ⟨t, ht⟩ : ∃ t, t = x - x / nI n * nI n := ⟨_, rfl⟩
  rw [← ht] at hrt
  have hfm := fm_mod (show (0 : Int) < n by omega) hrt
  have hb := tmod_bounds (a := x.toInt) (show (0 : Int) < n by omega)
  rw [← hrt] at hb
  refine r_iload_n C dJ9_floorMod_7cf53_0 rfl ?_
  refine r_iload_n C dJ9_floorMod_7cf53_1 rfl ?_
  refine r_irem C dJ9_floorMod_7cf53_2 (nI_ne0 h0 hn) ?_
  rw [← ht]
  refine r_istore_n C dJ9_floorMod_7cf53_3 (by decide) rfl ?_
  refine r_iload_n C dJ9_floorMod_7cf53_4 rfl ?_
  refine r_iload_n C dJ9_floorMod_7cf53_5 rfl ?_
  refine r_ixor C dJ9_floorMod_7cf53_6 ?_
  refine r_if_ge (tgt := 18) C dJ9_floorMod_7cf53_7 (by decide) (fun h => ?_) (fun h => ?_)
  · refine r_iload_n C dJ9_floorMod_7cf53_18 rfl ?_
    refine r_iret C hr dJ9_floorMod_7cf53_19 ⟨?_, rfl⟩ (Nat.le_refl _) (Nat.le_refl _)
    have hx : ¬ x.toInt < 0 := fun q => by
      have := (xor_neg (x := x) (y := nI n) (by omega)).mpr q
      exact absurd h (Int32.not_le.mpr this)
    have h3 : 0 ≤ t.toInt := by
      rw [hrt]
      exact Int.tmod_nonneg _ (by omega)
    rw [if_neg (by omega)] at hfm
    rw [fm_val h0 hn hfm.symm]
  · have hx : x.toInt < 0 := (xor_neg (x := x) (y := nI n) (by omega)).mp (Int32.not_le.mp h)
    refine r_iload_n C dJ9_floorMod_7cf53_10 rfl ?_
    refine r_if_eq (tgt := 18) C dJ9_floorMod_7cf53_11 (by decide) (fun h => ?_) (fun h => ?_)
    · refine r_iload_n C dJ9_floorMod_7cf53_18 rfl ?_
      refine r_iret C hr dJ9_floorMod_7cf53_19 ⟨?_, rfl⟩ (Nat.le_refl _) (Nat.le_refl _)
      have h4 : t.toInt = 0 := by rw [h]; rfl
      rw [if_neg (by omega)] at hfm
      rw [fm_val h0 hn hfm.symm]
    · refine r_iload_n C dJ9_floorMod_7cf53_14 rfl ?_
      refine r_iload_n C dJ9_floorMod_7cf53_15 rfl ?_
      refine r_iadd C dJ9_floorMod_7cf53_16 ?_
      refine r_iret C hr dJ9_floorMod_7cf53_17 ⟨?_, rfl⟩ (Nat.le_refl _) (Nat.le_refl _)
      have h4 : t.toInt ≠ 0 := fun q => h (Int32.toInt_inj.mp (by rw [q]; rfl))
      have h5 : t.toInt ≤ 0 := by
        rw [hrt]
        have h7 : (-x.toInt).tmod n = -(x.toInt.tmod n) := Int.neg_tmod _ _
        have h8 := Int.tmod_nonneg (a := -x.toInt) n (by omega)
        omega
      rw [if_pos (by omega)] at hfm
      have h6 : (t + nI n).toInt = t.toInt + n := by
        rw [Int32.toInt_add, hnI]
        exact Int.bmod_eq_of_le (by omega) (by omega)
      rw [fm_val h0 hn (h6.trans hfm.symm)]
theorem pk_J9_floorMod : PkS yJ9_floorMod_7cf53 cJ9_floorMod_7cf53 3 (some .int) 2 := ⟨⟨qt_J9_floorMod_7cf53, qz_J9, qc_J9_floorMod_7cf53⟩, mh_J9.1, mh_J9.2, pd_0⟩
/-- a local is forgotten -/
theorem r_drop {p : Program} {l : Launch} {e : Env} {R : Room} {s : State} {m : MethodId} {args : Array Value} {below : List Frame} {meth : Method} {c : Code} {D : va_G} {cl : List vw_C} {A : Nat → Prop} {Q : State → Prop} {nL cells slots : Nat} {w : va_W} {lv : List (Option Value)} {pc : Nat} {st : List Value} (k : Nat) (kk : vW p l e R s m args below meth c D cl A Q nL cells slots w (lv.set k none) pc st) : vW p l e R s m args below meth c D cl A Q nL cells slots w lv pc st :=
  r_lv (lv' := lv.set k none) (fun i v h => by
    rw [List.getElem?_set] at h
    split at h
    · split at h <;> cases h
    · exact h) kk
