/-! ROWS FOR TEXTS -/
def pvk : Cond → Bool
  | .privateMethod _ => true
  | _ => false
def PVL : List Cond := tables_1.filter pvk
theorem pv_t {w : Cond} (i : Nat) (h : tables_1[i]? = some w) (g : pvk w = true) : w ∈ PVL := List.mem_filter.mpr ⟨List.mem_of_getElem? h, g⟩
theorem qo_J4x : Cond.instantiable RJ4 4 ∈ GW := gw_2 66 rfl rfl
theorem qp_J4 : Cond.superclass RJ4 RJ5 ∈ GW := gw_2 96 rfl rfl
theorem qr_J5_appendNull_278bc : Cond.privateMethod yJ5_appendNull_278bc ∈ PVL := List.mem_filter.mpr ⟨(gm_2 124 rfl), rfl⟩
theorem qr_J5_ensureCapacityInternal_d00df : Cond.privateMethod yJ5_ensureCapacityInternal_d00df ∈ PVL := List.mem_filter.mpr ⟨(gm_2 128 rfl), rfl⟩
theorem qr_J5_newCapacity_0f7a4 : Cond.privateMethod yJ5_newCapacity_0f7a4 ∈ PVL := List.mem_filter.mpr ⟨(gm_2 132 rfl), rfl⟩
theorem qm_clone : Cond.methodLink RJ7 310 ⟨"[B", "clone", "()Ljava/lang/Object;"⟩ ∈ GW := gw_2 149 rfl rfl
theorem qe_clone : Cond.sameMethod "[B" "java/lang/Object" "clone" "()Ljava/lang/Object;" ∈ GW := gw_2 150 rfl rfl
theorem qv_clone : Cond.native ⟨"java/lang/Object", "clone", "()Ljava/lang/Object;"⟩ ∈ GW := gw_2 151 rfl rfl
theorem qi_clone : Cond.instanceMethod ⟨"java/lang/Object", "clone", "()Ljava/lang/Object;"⟩ ∈ GW := gw_2 152 rfl rfl
theorem qs_clone : Cond.selects "[B" ⟨"[B", "clone", "()Ljava/lang/Object;"⟩ ⟨"java/lang/Object", "clone", "()Ljava/lang/Object;"⟩ ∈ GW := gw_2 153 rfl rfl
theorem qn_clone : Cond.castable "[B" "java/lang/Cloneable" ∈ NWL := List.mem_filter.mpr ⟨(gm_2 154 rfl), rfl⟩
theorem qk_B : Cond.classLink RJ7 311 "[B" ∈ GW := gw_2 155 rfl rfl
theorem qe_J5_isLatin1_aae02 : Cond.sameMethod yJ5_isLatin1_aae02.cls yJ5_isLatin1_aae02.cls yJ5_isLatin1_aae02.name yJ5_isLatin1_aae02.desc ∈ GW := gw_2 162 rfl rfl
theorem qs_J5_isLatin1_aae02 : Cond.selects RJ4 yJ5_isLatin1_aae02 yJ5_isLatin1_aae02 ∈ GW := gw_2 163 rfl rfl
theorem qr_J5_putStringAt_47b60 : Cond.privateMethod yJ5_putStringAt_47b60 ∈ PVL := List.mem_filter.mpr ⟨(gm_2 201 rfl), rfl⟩
theorem qr_J5_inflateIfNeededFor_a7421 : Cond.privateMethod yJ5_inflateIfNeededFor_a7421 ∈ PVL := List.mem_filter.mpr ⟨(gm_2 205 rfl), rfl⟩
theorem qr_J5_inflate_da8c8 : Cond.privateMethod yJ5_inflate_da8c8 ∈ PVL := List.mem_filter.mpr ⟨(gm_2 210 rfl), rfl⟩
theorem qe_J5_getValue_6d5f1 : Cond.sameMethod yJ5_getValue_6d5f1.cls yJ5_getValue_6d5f1.cls yJ5_getValue_6d5f1.name yJ5_getValue_6d5f1.desc ∈ GW := gw_3 34 rfl rfl
theorem qs_J5_getValue_6d5f1 : Cond.selects RJ4 yJ5_getValue_6d5f1 yJ5_getValue_6d5f1 ∈ GW := gw_3 35 rfl rfl
theorem qe_J5_length_8abf5 : Cond.sameMethod yJ5_length_8abf5.cls yJ5_length_8abf5.cls yJ5_length_8abf5.name yJ5_length_8abf5.desc ∈ GW := gw_3 39 rfl rfl
theorem qs2_length : Cond.selects RJ4 yJ5_length_8abf5 yJ4_length_8abf5 ∈ GW := gw_3 40 rfl rfl
theorem qe_J5_setLength_d00df : Cond.sameMethod yJ5_setLength_d00df.cls yJ5_setLength_d00df.cls yJ5_setLength_d00df.name yJ5_setLength_d00df.desc ∈ GW := gw_7 123 rfl rfl
theorem qe_J5_append_cf1ce : Cond.sameMethod yJ5_append_cf1ce.cls yJ5_append_cf1ce.cls yJ5_append_cf1ce.name yJ5_append_cf1ce.desc ∈ GW := gw_7 124 rfl rfl
theorem qe_J5_appendNull_278bc : Cond.sameMethod yJ5_appendNull_278bc.cls yJ5_appendNull_278bc.cls yJ5_appendNull_278bc.name yJ5_appendNull_278bc.desc ∈ GW := gw_7 125 rfl rfl
theorem qe_J5_ensureCapacityInternal_d00df : Cond.sameMethod yJ5_ensureCapacityInternal_d00df.cls yJ5_ensureCapacityInternal_d00df.cls yJ5_ensureCapacityInternal_d00df.name yJ5_ensureCapacityInternal_d00df.desc ∈ GW := gw_7 126 rfl rfl
theorem qe_J5_newCapacity_0f7a4 : Cond.sameMethod yJ5_newCapacity_0f7a4.cls yJ5_newCapacity_0f7a4.cls yJ5_newCapacity_0f7a4.name yJ5_newCapacity_0f7a4.desc ∈ GW := gw_7 127 rfl rfl
theorem qe_J5_putStringAt_47b60 : Cond.sameMethod yJ5_putStringAt_47b60.cls yJ5_putStringAt_47b60.cls yJ5_putStringAt_47b60.name yJ5_putStringAt_47b60.desc ∈ GW := gw_7 128 rfl rfl
theorem qe_J5_inflateIfNeededFor_a7421 : Cond.sameMethod yJ5_inflateIfNeededFor_a7421.cls yJ5_inflateIfNeededFor_a7421.cls yJ5_inflateIfNeededFor_a7421.name yJ5_inflateIfNeededFor_a7421.desc ∈ GW := gw_7 129 rfl rfl
theorem qe_J5_inflate_da8c8 : Cond.sameMethod yJ5_inflate_da8c8.cls yJ5_inflate_da8c8.cls yJ5_inflate_da8c8.name yJ5_inflate_da8c8.desc ∈ GW := gw_7 130 rfl rfl
theorem qe_J5_append_c97b9 : Cond.sameMethod yJ5_append_c97b9.cls yJ5_append_c97b9.cls yJ5_append_c97b9.name yJ5_append_c97b9.desc ∈ GW := gw_7 131 rfl rfl
theorem qe_J5_append_3fe6f : Cond.sameMethod yJ5_append_3fe6f.cls yJ5_append_3fe6f.cls yJ5_append_3fe6f.name yJ5_append_3fe6f.desc ∈ GW := gw_7 132 rfl rfl
/-! texts: a builder, its bytes, a String -/
abbrev SBO (b v : Nat) (ml : Int32) (n : Nat) : Nat × va_E := (b, .inr (1, [.ref v, .int (nI 0), .int ml, .int (nI n)]))
abbrev BYO (cy : Nat → ClassId) (v m : Nat) (g : Nat → Int32) : Nat × va_E := (v, .inl (cy 0, m, .inl g))
abbrev STO (b v : Nat) (h z : Int32) : Nat × va_E := (b, .inr (0, [.ref v, .int (nI 0), .int h, .int z]))
def KSL : List (String × Nat × String) := [("Splicemonoid$Part", 75, ", "), ("SplicemonoidModel", 151, ""), ("SplicemonoidModel", 166, ", "), ("SplicemonoidModel", 175, "["), ("SplicemonoidModel", 177, "]")]
def KSN : List Nat := [2, 0, 2, 1, 1]
def KSB : List (List Int32) := [[44, 32], [], [44, 32], [91], [93]]
/-- a constant's object, its coder, its bytes, each for itself: two of one text are one object -/
def KS1 (N : Nat) (aK aV : Nat → Nat) (A : Nat → Prop) (U : State) (H : Heap) : Prop := ∀ i : Nat, i < N → vk_S 1 [KSN.getD i 0] [KSB.getD i []] (fun _ => aK i) (fun _ => aV i) A U H
theorem ks_at {N : Nat} {aK aV : Nat → Nat} {A : Nat → Prop} {U : State} {H : Heap} (h : KS1 N aK aV A U H) {i : Nat} (hi : i < N) : va_O "java/lang/String" (aK i) A U H ∧ va_OF "java/lang/String" "coder" "B" (.int 0) (aK i) A U H ∧ va_OF "java/lang/String" "value" "[B" (.ref (aV i)) (aK i) A U H ∧ va_T .byte (aV i) (KSN.getD i 0) (fun j => .int ((KSB.getD i []).getD j 0)) A U H := (h i hi).1 0 (by decide)
/-- what is known beside EnvM: these constants, compact strings, the digits -/
def EnvS (X : (Nat → Prop) → State → Heap → Prop) (cy : Nat → ClassId) (aK aV : Nat → Nat) (tO tT : Nat) (gO gT : Nat → Int32) : Prop := EnvM X cy ∧ (∀ (A : Nat → Prop) (U : State) (H : Heap), X A U H → KS1 5 aK aV A U H ∧ (∀ (i : Nat) (q : String × Nat × String), KSL[i]? = some q → vk_R q.1 q.2.1 q.2.2 (aK i) U) ∧ va_Z "java/lang/String" "COMPACT_STRINGS" "Z" (.int 1) A U H ∧ va_Z "java/lang/Integer" "DigitOnes" "[B" (.ref tO) A U H ∧ va_T .byte tO 100 (fun j => .int (gO j)) A U H ∧ va_Z "java/lang/Integer" "DigitTens" "[B" (.ref tT) A U H ∧ va_T .byte tT 100 (fun j => .int (gT j)) A U H) ∧ ∀ w ∈ PVL, ∀ (A : Nat → Prop) (U : State) (H : Heap), X A U H → va_Nw w U
theorem us_s {U E : va_W} (k : Nat) (e : Nat × va_E) : (U ++ E).set (U.length + k) e = U ++ E.set k e := by
  rw [List.set_append_right _ _ (by omega), show U.length + k - U.length = k by omega]
theorem j_priv {C : String} {x y : MethodName} {s : State} {args : Array Value} {n : Nat} (hy : y.cls ≠ "java/lang/invoke/MethodHandle" ∧ y.cls ≠ "java/lang/invoke/VarHandle") (hx : x.cls ≠ "java/lang/invoke/MethodHandle" ∧ x.cls ≠ "java/lang/invoke/VarHandle") (hxy : x.cls = y.cls)
    (hsx : (Cond.selects C x x).before args s = true) (hix : (Cond.instanceMethod x).before args s = true)
    (hins : (Cond.instantiable C n).before args s = true) (hpriv : (Cond.privateMethod y).before args s = true) (hinst : (Cond.instanceMethod y).before args s = true) :
    (Cond.selects C y y).before args s = true := by
  obtain ⟨c, k, hc, hk, -, hniab, -, -⟩ := Cond.instantiable_spec hins
  obtain ⟨mk, methM, hnamed, hmethM, -, -⟩ := Cond.instanceMethod_spec hinst
  obtain ⟨mx, methX, hnamedx, hmethX, -, -⟩ := Cond.instanceMethod_spec hix
  have hfound : s.methodFound? y.cls y.name y.desc = some mk := State.methodFound?_of_named hnamed hy
  have hfoundx : s.methodFound? x.cls x.name x.desc = some mx := State.methodFound?_of_named hnamedx hx
  have hsel : selectMethod {} s.vm c mk = .method mk := selectMethod_private hmethM (Cond.privateMethod_at hpriv mk methM hnamed hmethM)
  have hcl : mk.cls = mx.cls := Option.some.inj ((findClass_of_methodNamed hnamed).symm.trans ((congrArg s.vm.findClass hxy.symm).trans (findClass_of_methodNamed hnamedx)))
  simp only [Cond.before, Cond.holds, Cond.value, hc, hfoundx, hnamedx, hk] at hsx
  simp only [Cond.before, Cond.holds, Cond.value, hc, hfound, hnamed, hsel, hk]
  rw [hcl]
  split at hsx
  · have h4 := ((Bool.and_eq_true _ _).mp (Option.some.inj (beq_iff_eq.mp hsx))).2
    rw [h4]
    simp
  · cases hsx
section TXR
variable {p : Program} {l : Launch} {e : Env} {R : Room} {s : State} {m : MethodId} {args : Array Value} {below : List Frame} {meth : Method} {c : Code} {D : va_G} {cy : Nat → ClassId} {A : Nat → Prop} {Q : State → Prop} {nL cells slots : Nat} {lv : List (Option Value)} {pc : Nat} {st : List Value} {cc : ByteArray} {own : String} {X : (Nat → Prop) → State → Heap → Prop} {w : va_W} {aK aV : Nat → Nat} {tO tT : Nat} {gO gT : Nat → Int32}
theorem g_bst (C : Fg p s m args meth c cc nL own D cy A) {b n i : Nat} {f : Nat → Int32} {x : Int32} (q0 : Nat) (he : w[q0]? = some (b, .inl (cy 0, n, .inl f))) (hi : i < n) (hn : n < 2147483648) (d : decode cc pc = .ok (.bastore, 1)) {w' : va_W} (hw : w.set q0 (b, .inl (cy 0, n, .inl (upd f i (vp_nar .byte x)))) = w') (kk : vW p l e R s m args below meth c D vwCl A Q nL cells slots w' lv (pc + 1) st) : vW p l e R s m args below meth c D vwCl A Q nL cells slots w lv pc (.int x :: .int (nI i) :: .ref b :: st) := fun H locs ls hP hD hS hl =>
  va_bast C.1 C.2.1 C.2.2.2.2.2.1 hP hD hS q0 0 he rfl (vp_in_nI hi hn) d (fun H1 locs1 hP hD hS => by
    rw [nI_clamp (by omega)] at hP hD
    exact kk H1 locs1 ls (hw ▸ hP) (hw ▸ hD) hS hl)
theorem bf_up {f : Nat → Int32} {i : Nat} {x : Int32} (h : sb_Fit f) : sb_Fit (upd f i (vp_nar .byte x)) := sb_fitU h (by rw [vp_nar_byte]; exact pk_fb x)
/-- bytes from one array to another -/
theorem g_bcp (C : Fg p s m args meth c cc nL own D cy A) {index a0 a1 n0 n1 sp dp n : Nat} {f g : Nat → Int32} (q0 q1 : Nat) (hq : Cond.methodLink own index arraycopyName ∈ GW) (he0 : w[q0]? = some (a0, .inl (cy 0, n0, .inl f))) (he1 : w[q1]? = some (a1, .inl (cy 0, n1, .inl g))) (hfit : sb_Fit f) (hsp : sp + n ≤ n0) (hdp : dp + n ≤ n1) (hn0 : n0 < 2147483648) (hn1 : n1 < 2147483648) (hf : 1 ≤ R.frames) (hlo : (st.map fun v => v.category).sum + (nativeFrameWords "java/lang/System" "arraycopy" 5 + 11) ≤ R.locals) (d : decode cc pc = .ok (.invokestatic index, 3)) {w' : va_W} (hw : w.set q1 (a1, .inl (cy 0, n1, .inl (va_cpy f g sp dp n))) = w')
    (kk : vW p l e R s m args below meth c D vwCl A Q nL cells slots w' lv (pc + 3) st) : vW p l e R s m args below meth c D vwCl A Q nL cells slots w lv pc (.int (nI n) :: .int (nI dp) :: .ref a1 :: .int (nI sp) :: .ref a0 :: st) := fun H locs ls hP hD hS hl => by
  have c0 : (nI sp).toNatClampNeg = sp := nI_clamp (by omega)
  have c1 : (nI dp).toNatClampNeg = dp := nI_clamp (by omega)
  have c2 : (nI n).toNatClampNeg = n := nI_clamp (by omega)
  refine va_copyi C.1 C.2.1 (C.2.2.1.trans hl.1.symm) C.2.2.2.1 (C.2.2.2.2.1 _ hq) (C.2.2.2.2.1 _ qv_arraycopyName) (C.2.2.2.2.1 _ qt_arraycopyName) (C.2.2.2.2.1 _ qz_J10) C.2.2.2.2.2.1 hP hD hS q0 q1 0 0 he0 he1 rfl rfl rfl (nI_pos (by omega)) (nI_pos (by omega)) (nI_pos (by omega)) (by rw [c0, c2]; exact hsp) (by rw [c1, c2]; exact hdp) (fun _ _ => hfit _) hf hlo d (fun H1 locs1 hP hD hS => ?_)
  rw [c0, c1, c2] at hP hD
  exact kk H1 locs1 ls (hw ▸ hP) (hw ▸ hD) hS hl
/-- bytes of a constant's -/
theorem k_bcp (hX : EnvS X cy aK aV tO tT gO gT) (C : Fg p s m args meth c cc nL own D cy A) (hE : X A s s.heap) {index a1 n1 dp i : Nat} {g : Nat → Int32} (q1 : Nat) (hi : i < KSN.length) (hq : Cond.methodLink own index arraycopyName ∈ GW) (he1 : w[q1]? = some (a1, .inl (cy 0, n1, .inl g))) (hdp : dp + KSN.getD i 0 ≤ n1) (hn1 : n1 < 2147483648) (hf : 1 ≤ R.frames) (hlo : (st.map fun v => v.category).sum + (nativeFrameWords "java/lang/System" "arraycopy" 5 + 11) ≤ R.locals) (d : decode cc pc = .ok (.invokestatic index, 3)) {w' : va_W} (hw : w.set q1 (a1, .inl (cy 0, n1, .inl (va_cpy (fun j => (KSB.getD i []).getD j 0) g 0 dp (KSN.getD i 0)))) = w')
    (kk : vW p l e R s m args below meth c D vwCl A Q nL cells slots w' lv (pc + 3) st) : vW p l e R s m args below meth c D vwCl A Q nL cells slots w lv pc (.int (nI (KSN.getD i 0)) :: .int (nI dp) :: .ref a1 :: .int (nI 0) :: .ref (aV i) :: st) := fun H locs ls hP hD hS hl => by
  have hlen : KSN.getD i 0 < 100 := by
    have : ∀ j, j < KSN.length → KSN.getD j 0 < 100 := by decide
    exact this i hi
  have c0 : (nI 0).toNatClampNeg = 0 := nI_clamp (by omega)
  have c1 : (nI dp).toNatClampNeg = dp := nI_clamp (by omega)
  have c2 : (nI (KSN.getD i 0)).toNatClampNeg = KSN.getD i 0 := nI_clamp (by omega)
  have hT := (ks_at (hX.2.1 A s s.heap hE).1 hi).2.2.2
  refine vk_copyt C.1 C.2.1 (C.2.2.1.trans hl.1.symm) C.2.2.2.1 (C.2.2.2.2.1 _ hq) (C.2.2.2.2.1 _ qv_arraycopyName) (C.2.2.2.2.1 _ qt_arraycopyName) (C.2.2.2.2.1 _ qz_J10) C.2.2.2.2.2.1 hP hD hS hT q1 0 he1 rfl (nI_pos (by omega)) (nI_pos (by omega)) (nI_pos (by omega)) (by rw [c0, c2]; omega) (by rw [c1, c2]; exact hdp) (fun j hj => ?_) hf hlo d (fun H1 locs1 hP hD hS => ?_)
  · rw [c2] at hj
    rw [c0, Nat.zero_add]
    have hall : ∀ i, i < KSN.length → ∀ j, j < KSN.getD i 0 → fits .byte (.int ((KSB.getD i []).getD j 0)) = true := by decide
    exact hall i hi j hj
  · rw [c0, c1, c2] at hP hD
    exact kk H1 locs1 ls (hw ▸ hP) (hw ▸ hD) hS hl
theorem kb_fit {i dp : Nat} {g : Nat → Int32} (hi : i < KSN.length) (hg : sb_Fit g) : sb_Fit (va_cpy (fun j => (KSB.getD i []).getD j 0) g 0 dp (KSN.getD i 0)) := by
  have hall : ∀ i, i < KSN.length → ∀ j, j < KSN.getD i 0 → fits .byte (.int ((KSB.getD i []).getD j 0)) = true := by decide
  intro q
  unfold va_cpy
  split
  · rename_i h
    have h2 : 0 + (q - dp) < KSN.getD i 0 := by omega
    exact hall i hi _ h2
  · exact hg q
/-- statics -/
theorem j_cs (hX : EnvS X cy aK aV tO tT gO gT) (C : Fg p s m args meth c cc nL own D cy A) (hE : X A s s.heap) {index : Nat} (hq : Cond.fieldLink own index "java/lang/String" "COMPACT_STRINGS" "Z" ∈ GW) (d : decode cc pc = .ok (.getstatic index, 3)) (kk : vW p l e R s m args below meth c D vwCl A Q nL cells slots w lv (pc + 3) (.int (nI 1) :: st)) : vW p l e R s m args below meth c D vwCl A Q nL cells slots w lv pc st := fun H locs ls hP hD hS hl =>
  va_gets C.1 C.2.1 (hX.2.1 A s s.heap hE).2.2.1 hS C.2.2.2.1 (C.2.2.2.2.1 _ hq) (fun _ h => h) d (kk H locs ls hP hD hS hl)
theorem j_do (hX : EnvS X cy aK aV tO tT gO gT) (C : Fg p s m args meth c cc nL own D cy A) (hE : X A s s.heap) {index : Nat} (hq : Cond.fieldLink own index "java/lang/Integer" "DigitOnes" "[B" ∈ GW) (d : decode cc pc = .ok (.getstatic index, 3)) (kk : vW p l e R s m args below meth c D vwCl A Q nL cells slots w lv (pc + 3) (.ref tO :: st)) : vW p l e R s m args below meth c D vwCl A Q nL cells slots w lv pc st := fun H locs ls hP hD hS hl =>
  va_gets C.1 C.2.1 (hX.2.1 A s s.heap hE).2.2.2.1 hS C.2.2.2.1 (C.2.2.2.2.1 _ hq) (fun _ h => h) d (kk H locs ls hP hD hS hl)
theorem j_dt (hX : EnvS X cy aK aV tO tT gO gT) (C : Fg p s m args meth c cc nL own D cy A) (hE : X A s s.heap) {index : Nat} (hq : Cond.fieldLink own index "java/lang/Integer" "DigitTens" "[B" ∈ GW) (d : decode cc pc = .ok (.getstatic index, 3)) (kk : vW p l e R s m args below meth c D vwCl A Q nL cells slots w lv (pc + 3) (.ref tT :: st)) : vW p l e R s m args below meth c D vwCl A Q nL cells slots w lv pc st := fun H locs ls hP hD hS hl =>
  va_gets C.1 C.2.1 (hX.2.1 A s s.heap hE).2.2.2.2.2.1 hS C.2.2.2.1 (C.2.2.2.2.1 _ hq) (fun _ h => h) d (kk H locs ls hP hD hS hl)
theorem j_dol (hX : EnvS X cy aK aV tO tT gO gT) (C : Fg p s m args meth c cc nL own D cy A) (hE : X A s s.heap) {i : Nat} (hi : i < 100) (d : decode cc pc = .ok (.baload, 1)) (kk : vW p l e R s m args below meth c D vwCl A Q nL cells slots w lv (pc + 1) (.int (gO i) :: st)) : vW p l e R s m args below meth c D vwCl A Q nL cells slots w lv pc (.int (nI i) :: .ref tO :: st) := fun H locs ls hP hD hS hl =>
  va_tb C.1 C.2.1 (hX.2.1 A s s.heap hE).2.2.2.2.1 hS (vp_in_nI hi (by omega)) (by rw [nI_clamp (by omega)]) d (kk H locs ls hP hD hS hl)
theorem j_dtl (hX : EnvS X cy aK aV tO tT gO gT) (C : Fg p s m args meth c cc nL own D cy A) (hE : X A s s.heap) {i : Nat} (hi : i < 100) (d : decode cc pc = .ok (.baload, 1)) (kk : vW p l e R s m args below meth c D vwCl A Q nL cells slots w lv (pc + 1) (.int (gT i) :: st)) : vW p l e R s m args below meth c D vwCl A Q nL cells slots w lv pc (.int (nI i) :: .ref tT :: st) := fun H locs ls hP hD hS hl =>
  va_tb C.1 C.2.1 (hX.2.1 A s s.heap hE).2.2.2.2.2.2 hS (vp_in_nI hi (by omega)) (by rw [nI_clamp (by omega)]) d (kk H locs ls hP hD hS hl)
/-- constants -/
theorem j_ldc (C : Fg p s m args meth c cc nL own D cy A) {index : Nat} {v : Int32} (hq : Cond.constant own index v ∈ GW) (d : decode cc pc = .ok (.ldc index, 2)) (kk : vW p l e R s m args below meth c D vwCl A Q nL cells slots w lv (pc + 2) (.int v :: st)) : vW p l e R s m args below meth c D vwCl A Q nL cells slots w lv pc st := fun H locs ls hP hD hS hl =>
  lv_ldc C.1 C.2.1 C.2.2.2.1 (C.2.2.2.2.1 _ hq) d (kk H locs ls hP hD hS hl)
theorem j_ldcS (hX : EnvS X cy aK aV tO tT gO gT) (C : Fg p s m args meth c cc nL own D cy A) (hE : X A s s.heap) {index i : Nat} {tx : String} (hi : KSL[i]? = some (own, index, tx)) (d : decode cc pc = .ok (.ldc index, 2)) (kk : vW p l e R s m args below meth c D vwCl A Q nL cells slots w lv (pc + 2) (.ref (aK i) :: st)) : vW p l e R s m args below meth c D vwCl A Q nL cells slots w lv pc st := fun H locs ls hP hD hS hl =>
  va_ldcS C.1 C.2.1 C.2.2.2.1 (show vk_R own index tx (aK i) s from (hX.2.1 A s s.heap hE).2.1 i (own, index, tx) hi) d (kk H locs ls hP hD hS hl)
theorem j_null (C : Fg p s m args meth c cc nL own D cy A) (d : decode cc pc = .ok (.aconst_null, 1)) (kk : vW p l e R s m args below meth c D vwCl A Q nL cells slots w lv (pc + 1) (.null :: st)) : vW p l e R s m args below meth c D vwCl A Q nL cells slots w lv pc st := fun H locs ls hP hD hS hl =>
  lv_null C.1 C.2.1 d (kk H locs ls hP hD hS hl)
/-- a constant's fields -/
theorem k_val (hX : EnvS X cy aK aV tO tT gO gT) (C : Fg p s m args meth c cc nL own D cy A) (hE : X A s s.heap) {index i : Nat} (hi : i < KSN.length) (hq : Cond.fieldLink own index "java/lang/String" "value" "[B" ∈ GW) (d : decode cc pc = .ok (.getfield index, 3)) (kk : vW p l e R s m args below meth c D vwCl A Q nL cells slots w lv (pc + 3) (.ref (aV i) :: st)) : vW p l e R s m args below meth c D vwCl A Q nL cells slots w lv pc (.ref (aK i) :: st) := fun H locs ls hP hD hS hl =>
  vk_getf C.1 C.2.1 (ks_at (hX.2.1 A s s.heap hE).1 hi).2.2.1 hS C.2.2.2.1 (C.2.2.2.2.1 _ hq) (fun _ h => h) d (kk H locs ls hP hD hS hl)
theorem k_cod (hX : EnvS X cy aK aV tO tT gO gT) (C : Fg p s m args meth c cc nL own D cy A) (hE : X A s s.heap) {index i : Nat} (hi : i < KSN.length) (hq : Cond.fieldLink own index "java/lang/String" "coder" "B" ∈ GW) (d : decode cc pc = .ok (.getfield index, 3)) (kk : vW p l e R s m args below meth c D vwCl A Q nL cells slots w lv (pc + 3) (.int (nI 0) :: st)) : vW p l e R s m args below meth c D vwCl A Q nL cells slots w lv pc (.ref (aK i) :: st) := fun H locs ls hP hD hS hl =>
  vk_getf C.1 C.2.1 (ks_at (hX.2.1 A s s.heap hE).1 hi).2.1 hS C.2.2.2.1 (C.2.2.2.2.1 _ hq) (fun _ h => h) d (kk H locs ls hP hD hS hl)
/-- a constant's length -/
theorem k_len (hX : EnvS X cy aK aV tO tT gO gT) (C : Fg p s m args meth c cc nL own D cy A) (hE : X A s s.heap) {i : Nat} (hi : i < KSN.length) (d : decode cc pc = .ok (.arraylength, 1)) (kk : vW p l e R s m args below meth c D vwCl A Q nL cells slots w lv (pc + 1) (.int (nI (KSN.getD i 0)) :: st)) : vW p l e R s m args below meth c D vwCl A Q nL cells slots w lv pc (.ref (aV i) :: st) := fun H locs ls hP hD hS hl =>
  va_tlen C.1 C.2.1 (ks_at (hX.2.1 A s s.heap hE).1 hi).2.2.2 hS rfl d (kk H locs ls hP hD hS hl)
end TXR

