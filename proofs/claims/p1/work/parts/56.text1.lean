/-! ROWS FOR TEXTS, CALLS -/
theorem us_g {U L : va_W} {k : Nat} {e : Nat × va_E} (h : L[k]? = some e) : (U ++ L)[U.length + k]? = some e := by
  rw [List.getElem?_append_right (by omega), show U.length + k - U.length = k by omega]
  exact h
theorem us_t {U L L' : va_W} {k : Nat} {e : Nat × va_E} (h : L.set k e = L') : (U ++ L).set (U.length + k) e = U ++ L' := by rw [us_s, h]
/-- a method of the builder's class above, that a builder runs -/
def PkU (y : MethodName) (bytes : ByteArray) (maxL : Nat) (ret : Option FieldType) (n : Nat) : Prop :=
  (Cond.sameMethod y.cls y.cls y.name y.desc ∈ GW ∧ Cond.instanceMethod y ∈ GW ∧ Cond.code y bytes maxL ret ∈ GW) ∧ (Cond.selects RJ4 y y ∈ GW ∨ Cond.privateMethod y ∈ PVL) ∧ y.cls = RJ5 ∧ y.name ≠ "<init>" ∧ (parseMethodDescriptor y.desc).map (fun d => d.parameters.length) = some n
/-- the same, by super -/
def PkSU (y : MethodName) (bytes : ByteArray) (maxL : Nat) (ret : Option FieldType) (n : Nat) : Prop :=
  (Cond.sameMethod y.cls y.cls y.name y.desc ∈ GW ∧ Cond.instanceMethod y ∈ GW ∧ Cond.code y bytes maxL ret ∈ GW) ∧ y.cls = RJ5 ∧ y.name ≠ "<init>" ∧ (parseMethodDescriptor y.desc).map (fun d => d.parameters.length) = some n
section TX1
variable {p : Program} {l : Launch} {e : Env} {R : Room} {s : State} {m : MethodId} {args : Array Value} {below : List Frame} {meth : Method} {c : Code} {D : va_G} {cy : Nat → ClassId} {A : Nat → Prop} {Q : State → Prop} {nL cells slots : Nat} {lv : List (Option Value)} {pc : Nat} {st : List Value} {cc : ByteArray} {own : String} {X : (Nat → Prop) → State → Heap → Prop} {w : va_W} {aK aV : Nat → Nat} {tO tT : Nat} {gO gT : Nat → Int32}
variable {y : MethodName} {bytes : ByteArray} {maxL index n b : Nat} {ret : Option FieldType} {rm : Room} {As st0 : List Value} {post : Option Value → va_W → Prop} {px : String → Prop} {U L L' : va_W}
theorem cw_U (hP : ∀ w ∈ PVL, w.before args s = true) (ht : ∀ w ∈ GW, w.before args s = true) (pk : PkU y bytes maxL ret n) (qm : Cond.methodLink own index y ∈ GW) (hR : rm.frames + 1 ≤ R.frames ∧ 8 + (maxL + 11) + rm.locals ≤ R.locals) : va_CU R s args own RJ4 RJ5 index y y bytes maxL ret (Cond.code y bytes maxL ret :: GW) rm rm.cells rm.slots n := by
  obtain ⟨⟨q1, q2, q3⟩, q4, q5, -, q6⟩ := pk
  have hG := gw_cons q3
  have hmh : RJ5 ≠ "java/lang/invoke/MethodHandle" ∧ RJ5 ≠ "java/lang/invoke/VarHandle" := by decide +kernel
  refine ⟨⟨rfl, rfl, hR.1, hR.2, pay_in ht hG, List.mem_cons_self⟩, ht _ q3, ?_, hmh, fun sig h => ?_, ht _ qm, ?_, ?_, ?_, ht _ q2⟩
  · rw [q5]; exact ht _ qz_J5
  · rw [h] at q6
    exact (Option.some.inj q6).symm
  · rw [← q5]; exact ht _ q1
  · rw [← q5]; exact va_Decl.of (ht _ q2) (ht _ q3)
  · rcases q4 with q4 | q4
    · exact ht _ q4
    · exact j_priv (x := yJ5_isLatin1_aae02) (by rw [q5]; exact hmh) (by decide +kernel) (by rw [q5]; rfl) (ht _ qs_J5_isLatin1_aae02) (ht _ qi_J5_isLatin1_aae02) (ht _ qo_J4x) (hP _ q4) (ht _ q2)
theorem EnvS.pv (hX : EnvS X cy aK aV tO tT gO gT) (hE : X A s s.heap) : ∀ w ∈ PVL, w.before args s = true := fun w hw => va_Nw.use (by
  have := (List.mem_filter.mp hw).2
  cases w <;> first | rfl | (simp [pvk] at this)) (hX.2.2 w hw A s s.heap hE)
theorem EnvS.stb (hX : EnvS X cy aK aV tO tT gO gT) : Stb X := hX.1.1.stb
/-- an inherited or private method of the class above, on a builder -/
theorem c_U (hX : EnvS X cy aK aV tO tT gO gT) (C : Fg p s m args meth c cc nL own D cy A) (hE : X A s s.heap) (ct : Cm l D cy X y bytes maxL ret rm (.ref b :: As) w post px) (pk : PkU y bytes maxL ret n) (qm : Cond.methodLink own index y ∈ GW)
    (q0 : Nat) {fs : List Value} (he : w[q0]? = some (b, .inr (1, fs))) (hn : As.length = n) (hstack : st0 = As.reverse ++ .ref b :: st) (hcat : (st.map fun v => v.category).sum ≤ 8)
    (d : decode cc pc = .ok (.invokevirtual index, 3)) (hR : rm.frames + 1 ≤ R.frames ∧ 8 + (maxL + 11) + rm.locals ≤ R.locals) (hf : cells + rm.cells ≤ R.cells ∧ slots + rm.slots ≤ R.slots)
    (kk : ∀ (v : Option Value) (w' : va_W), post v w' → vW p l e R s m args below meth c D vwCl A Q nL (cells + rm.cells) (slots + rm.slots) w' lv (pc + 3) (v.toList ++ st))
    (kx : ∀ E : String, px E → vX p l e R s m args below meth c D vwCl A Q nL (cells + rm.cells) (slots + rm.slots) w lv pc st E) : vW p l e R s m args below meth c D vwCl A Q nL cells slots w lv pc st0 :=
  r_run C (fun H locs ls hP hD hS hl => vx_runU (As := As) (rest := st) (g := F0 m pc ls st0) ⟨C.1, C.2.1, C.2.2.1, C.2.2.2.1, C.2.2.2.2.1⟩ (ct H.size) (cw_U (hX.pv hE) C.2.2.2.2.1 pk qm hR) ⟨vPre_blind hX.stb _ _ _, va_recv C.2.2.2.2.2.1 hP (ci := 1) (q := (RJ4, TJ4, 4)) rfl he, fun U hU hW => ⟨rfl, vPre_at hX.stb C hE hP hD hS U hU hW⟩⟩ rfl hn hl.1 hstack (lv_room hcat) d hf) kk kx
/-- length() of the class above, on a builder: the builder's own is run -/
theorem c_UL (hX : EnvS X cy aK aV tO tT gO gT) (C : Fg p s m args meth c cc nL own D cy A) (hE : X A s s.heap) (ct : Cm l D cy X yJ4_length_8abf5 bytes maxL ret rm (.ref b :: As) w post px) (pk : PkV RJ4 yJ4_length_8abf5 bytes maxL ret n) (qm : Cond.methodLink own index yJ5_length_8abf5 ∈ GW)
    (q0 : Nat) {fs : List Value} (he : w[q0]? = some (b, .inr (1, fs))) (hn : As.length = n) (hstack : st0 = As.reverse ++ .ref b :: st) (hcat : (st.map fun v => v.category).sum ≤ 8)
    (d : decode cc pc = .ok (.invokevirtual index, 3)) (hR : rm.frames + 1 ≤ R.frames ∧ 8 + (maxL + 11) + rm.locals ≤ R.locals) (hf : cells + rm.cells ≤ R.cells ∧ slots + rm.slots ≤ R.slots)
    (kk : ∀ (v : Option Value) (w' : va_W), post v w' → vW p l e R s m args below meth c D vwCl A Q nL (cells + rm.cells) (slots + rm.slots) w' lv (pc + 3) (v.toList ++ st))
    (kx : ∀ E : String, px E → vX p l e R s m args below meth c D vwCl A Q nL (cells + rm.cells) (slots + rm.slots) w lv pc st E) : vW p l e R s m args below meth c D vwCl A Q nL cells slots w lv pc st0 := by
  obtain ⟨⟨q1, q2, q3, q4⟩, -, -, -, q6⟩ := pk
  have ht := C.2.2.2.2.1
  have hmh : RJ5 ≠ "java/lang/invoke/MethodHandle" ∧ RJ5 ≠ "java/lang/invoke/VarHandle" := by decide +kernel
  have cw : va_CU R s args own RJ4 RJ5 index yJ5_length_8abf5 yJ4_length_8abf5 bytes maxL ret (Cond.code yJ4_length_8abf5 bytes maxL ret :: GW) rm rm.cells rm.slots n :=
    ⟨⟨rfl, rfl, hR.1, hR.2, pay_in ht (gw_cons q4), List.mem_cons_self⟩, ht _ q4, ht _ q3, hmh, fun sig h => by
      have h9 : parseMethodDescriptor yJ4_length_8abf5.desc = some sig := h
      rw [h9] at q6
      exact (Option.some.inj q6).symm, ht _ qm, ht _ qe_J5_length_8abf5, va_Decl.of (ht _ qi_J5_length_8abf5) (ht _ qc_J5_length_8abf5), ht _ qs2_length, ht _ q1⟩
  exact r_run C (fun H locs ls hP hD hS hl => vx_runU (As := As) (rest := st) (g := F0 m pc ls st0) ⟨C.1, C.2.1, C.2.2.1, C.2.2.2.1, C.2.2.2.2.1⟩ (ct H.size) cw ⟨vPre_blind hX.stb _ _ _, va_recv C.2.2.2.2.2.1 hP (ci := 1) (q := (RJ4, TJ4, 4)) rfl he, fun U hU hW => ⟨rfl, vPre_at hX.stb C hE hP hD hS U hU hW⟩⟩ rfl hn hl.1 hstack (lv_room hcat) d hf) kk kx
/-- the same by super -/
theorem c_SU (hX : EnvS X cy aK aV tO tT gO gT) (C : Fg p s m args meth c cc nL RJ4 D cy A) (hE : X A s s.heap) (ct : Cm l D cy X y bytes maxL ret rm (.ref b :: As) w post px) (pk : PkSU y bytes maxL ret n) (qm : Cond.methodLink RJ4 index y ∈ GW)
    (q0 : Nat) {fs : List Value} (he : w[q0]? = some (b, .inr (1, fs))) (hn : As.length = n) (hstack : st0 = As.reverse ++ .ref b :: st) (hcat : (st.map fun v => v.category).sum ≤ 8)
    (d : decode cc pc = .ok (.invokespecial index, 3)) (hR : rm.frames + 1 ≤ R.frames ∧ 8 + (maxL + 11) + rm.locals ≤ R.locals) (hf : cells + rm.cells ≤ R.cells ∧ slots + rm.slots ≤ R.slots)
    (kk : ∀ (v : Option Value) (w' : va_W), post v w' → vW p l e R s m args below meth c D vwCl A Q nL (cells + rm.cells) (slots + rm.slots) w' lv (pc + 3) (v.toList ++ st))
    (kx : ∀ E : String, px E → vX p l e R s m args below meth c D vwCl A Q nL (cells + rm.cells) (slots + rm.slots) w lv pc st E) : vW p l e R s m args below meth c D vwCl A Q nL cells slots w lv pc st0 := by
  obtain ⟨⟨q1, q2, q3⟩, q5, q7, q6⟩ := pk
  have ht := C.2.2.2.2.1
  have cw : va_CS R s args RJ4 index y bytes maxL ret (Cond.code y bytes maxL ret :: GW) rm rm.cells rm.slots n :=
    ⟨⟨rfl, rfl, hR.1, hR.2, pay_in ht (gw_cons q3), List.mem_cons_self⟩, ht _ qm, ht _ q1, by rw [q5]; exact ht _ qp_J4, ht _ q2, by rw [q5]; exact ht _ qz_J5, ht _ q3, q7, fun sig h => by
      rw [h] at q6
      exact (Option.some.inj q6).symm⟩
  exact r_run C (fun H locs ls hP hD hS hl => vx_runSU (As := As) (rest := st) (g := F0 m pc ls st0) (C.2.2.2.2.2.1.1 1 (RJ4, TJ4, 4) rfl).2 ⟨C.1, C.2.1, C.2.2.1, C.2.2.2.1, C.2.2.2.2.1⟩ (ct H.size) cw ⟨vPre_blind hX.stb _ _ _, va_recv C.2.2.2.2.2.1 hP (ci := 1) (q := (RJ4, TJ4, 4)) rfl he, fun U hU hW => ⟨rfl, vPre_at hX.stb C hE hP hD hS U hU hW⟩⟩ rfl hn hl.1 hstack (lv_room hcat) d hf) kk kx
/-- a method of String's, on a constant -/
theorem c_VK (hX : EnvS X cy aK aV tO tT gO gT) (C : Fg p s m args meth c cc nL own D cy A) (hE : X A s s.heap) {i : Nat} (hi : i < KSN.length) (ct : Cm l D cy X y bytes maxL ret rm (.ref (aK i) :: As) w post px) (pk : PkV RJ0 y bytes maxL ret n) (qm : Cond.methodLink own index y ∈ GW)
    (hn : As.length = n) (hstack : st0 = As.reverse ++ .ref (aK i) :: st) (hcat : (st.map fun v => v.category).sum ≤ 8)
    (d : decode cc pc = .ok (.invokevirtual index, 3)) (hR : rm.frames + 1 ≤ R.frames ∧ 8 + (maxL + 11) + rm.locals ≤ R.locals) (hf : cells + rm.cells ≤ R.cells ∧ slots + rm.slots ≤ R.slots)
    (kk : ∀ (v : Option Value) (w' : va_W), post v w' → vW p l e R s m args below meth c D vwCl A Q nL (cells + rm.cells) (slots + rm.slots) w' lv (pc + 3) (v.toList ++ st))
    (kx : ∀ E : String, px E → vX p l e R s m args below meth c D vwCl A Q nL (cells + rm.cells) (slots + rm.slots) w lv pc st E) : vW p l e R s m args below meth c D vwCl A Q nL cells slots w lv pc st0 :=
  r_run C (fun H locs ls hP hD hS hl => vx_runV (As := As) (rest := st) (g := F0 m pc ls st0) ⟨C.1, C.2.1, C.2.2.1, C.2.2.2.1, C.2.2.2.2.1⟩ (ct H.size) (cw_V C.2.2.2.2.1 pk qm hR) ⟨vPre_blind hX.stb _ _ _, vk_recv (adK := fun _ => aK i) ((hX.2.1 A s s.heap hE).1 i hi) (show 0 < 1 by decide) hS, fun U hU hW => ⟨rfl, vPre_at hX.stb C hE hP hD hS U hU hW⟩⟩ rfl hn hl.1 hstack (lv_room hcat) d hf) kk kx
/-- shifts by a coder 0 -/
theorem t_ishr (C : Fg p s m args meth c cc nL own D cy A) {x : Int32} (d : decode cc pc = .ok (.ishr, 1)) (kk : vW p l e R s m args below meth c D vwCl A Q nL cells slots w lv (pc + 1) (.int x :: st)) : vW p l e R s m args below meth c D vwCl A Q nL cells slots w lv pc (.int (nI 0) :: .int x :: st) :=
  r_ishr C d (by rw [show nI 0 = (0 : Int32) from rfl, sb_shr0]; exact kk)
theorem t_ishl (C : Fg p s m args meth c cc nL own D cy A) {x : Int32} (d : decode cc pc = .ok (.ishl, 1)) (kk : vW p l e R s m args below meth c D vwCl A Q nL cells slots w lv (pc + 1) (.int x :: st)) : vW p l e R s m args below meth c D vwCl A Q nL cells slots w lv pc (.int (nI 0) :: .int x :: st) :=
  r_ishl C d (by rw [show nI 0 = (0 : Int32) from rfl, sb_shl0]; exact kk)
/-- the world's order -/
theorem t_perm {E : va_W} (P P' : va_W) (gl : List Nat) (hm : P'.map some = gl.map (fun i => P[i]?)) (hnd : gl.Nodup) {w w' : va_W} (hw : w = U ++ (P ++ E)) (hw' : w' = U ++ (P' ++ E)) (kk : vW p l e R s m args below meth c D vwCl A Q nL cells slots w' lv pc st) : vW p l e R s m args below meth c D vwCl A Q nL cells slots w lv pc st := by
  subst hw
  subst hw'
  have hlen : P'.length = gl.length := by
    have := congrArg List.length hm
    simpa using this
  have hat : ∀ (k : Nat) (q : Nat × va_E), P'[k]? = some q → ∃ i : Nat, gl[k]? = some i ∧ P[i]? = some q := by
    intro k q h
    have h1 : (P'.map some)[k]? = some (some q) := by rw [List.getElem?_map, h]; rfl
    rw [hm, List.getElem?_map] at h1
    cases h2 : gl[k]? with
    | none => rw [h2] at h1; cases h1
    | some i =>
      rw [h2] at h1
      exact ⟨i, rfl, Option.some.inj h1⟩
  have hlt : ∀ k, k < gl.length → gl.getD k 0 < P.length := by
    intro k hk
    obtain ⟨i, h1, h2⟩ := hat k _ (List.getElem?_eq_getElem (by omega))
    rw [List.getD_eq_getElem?_getD, h1]
    exact (List.getElem?_eq_some_iff.mp h2).1
  refine r_by (fun k => if k < U.length then k else if k < U.length + gl.length then U.length + gl.getD (k - U.length) 0 else k - gl.length + P.length) (fun k q h => ?_) (fun i j hi hj h => ?_) kk
  · by_cases h1 : k < U.length
    · simp only [if_pos h1]
      rw [List.getElem?_append_left h1] at h ⊢
      exact h
    · by_cases h2 : k < U.length + gl.length
      · simp only [if_neg h1, if_pos h2]
        rw [List.getElem?_append_right (by omega), List.getElem?_append_left (by omega)] at h
        obtain ⟨i, h3, h4⟩ := hat _ _ h
        have h5 := (List.getElem?_eq_some_iff.mp h4).1
        rw [List.getElem?_append_right (by omega), List.getD_eq_getElem?_getD, h3]
        show (P ++ E)[U.length + i - U.length]? = _
        rw [show U.length + i - U.length = i by omega, List.getElem?_append_left h5]
        exact h4
      · simp only [if_neg h1, if_neg h2]
        rw [List.getElem?_append_right (by omega), List.getElem?_append_right (by omega)] at h ⊢
        rw [← h]
        congr 1
        omega
  · have e1 := hlt (i - U.length)
    have e2 := hlt (j - U.length)
    try simp only at h
    by_cases a1 : i < U.length <;> by_cases a2 : j < U.length <;> by_cases b1 : i < U.length + gl.length <;> by_cases b2 : j < U.length + gl.length <;> simp only [a1, a2, b1, b2, if_true, if_false] at h <;> try omega
    have h9 : gl.getD (i - U.length) 0 = gl.getD (j - U.length) 0 := by omega
    have n1 : i - U.length < gl.length := by omega
    have n2 : j - U.length < gl.length := by omega
    rw [List.getD_eq_getElem?_getD, List.getD_eq_getElem?_getD, List.getElem?_eq_getElem n1, List.getElem?_eq_getElem n2] at h9
    have := (List.getElem_inj hnd).mp h9
    omega
theorem t_front {x : Nat × va_E} (kk : vW p l e R s m args below meth c D vwCl A Q nL cells slots (U ++ (x :: L)) lv pc st) : vW p l e R s m args below meth c D vwCl A Q nL cells slots ((U ++ L) ++ [x]) lv pc st := by
  refine r_by (fun k => if k < U.length then k else if k = U.length then U.length + L.length else k - 1) (fun k q h => ?_) (fun i j hi hj h => ?_) kk
  · by_cases h1 : k < U.length
    · simp only [if_pos h1]
      rw [List.getElem?_append_left h1] at h
      rw [List.getElem?_append_left (by rw [List.length_append]; omega), List.getElem?_append_left h1]
      exact h
    · by_cases h2 : k = U.length
      · simp only [if_neg h1, if_pos h2]
        subst h2
        rw [List.getElem?_append_right (by omega), Nat.sub_self] at h
        rw [List.getElem?_append_right (by rw [List.length_append]; omega), List.length_append, Nat.sub_self]
        exact h
      · simp only [if_neg h1, if_neg h2]
        have hk := (List.getElem?_eq_some_iff.mp h).1
        rw [List.length_append, List.length_cons] at hk
        rw [List.getElem?_append_right (by omega), show k - U.length = (k - 1 - U.length) + 1 by omega, List.getElem?_cons_succ] at h
        rw [List.getElem?_append_left (by rw [List.length_append]; omega), List.getElem?_append_right (by omega)]
        exact h
  · rw [List.length_append, List.length_cons] at hi hj
    try simp only at h
    (repeat' split at h) <;> omega
/-- fields of a builder and a String behind U -/
theorem t_sbg (C : Fg p s m args meth c cc nL own D cy A) {fs : List Value} {v : Value} (j k : Nat) (he : L[j]? = some (b, .inr (1, fs))) (hk : k < 4) (hq : Cond.fieldLink own index RJ5 (TJ4 k).2.1 (TJ4 k).2.2.1 ∈ GW) (hs : (TJ4 k).1 = RJ5) (hv : fs[k]? = some v) (d : decode cc pc = .ok (.getfield index, 3)) (kk : vW p l e R s m args below meth c D vwCl A Q nL cells slots (U ++ L) lv (pc + 3) (v :: st)) : vW p l e R s m args below meth c D vwCl A Q nL cells slots (U ++ L) lv pc (.ref b :: st) :=
  g_get C qu_J4 (ci := 1) rfl (U.length + j) (us_g he) k hk hq hs hv d kk
theorem t_stg (C : Fg p s m args meth c cc nL own D cy A) {fs : List Value} {v : Value} (j k : Nat) (he : L[j]? = some (b, .inr (0, fs))) (hk : k < 4) (hq : Cond.fieldLink own index RJ0 (TJ0 k).2.1 (TJ0 k).2.2.1 ∈ GW) (hs : (TJ0 k).1 = RJ0) (hv : fs[k]? = some v) (d : decode cc pc = .ok (.getfield index, 3)) (kk : vW p l e R s m args below meth c D vwCl A Q nL cells slots (U ++ L) lv (pc + 3) (v :: st)) : vW p l e R s m args below meth c D vwCl A Q nL cells slots (U ++ L) lv pc (.ref b :: st) :=
  g_get C qu_J0 (ci := 0) rfl (U.length + j) (us_g he) k hk hq hs hv d kk
theorem t_sbp (C : Fg p s m args meth c cc nL own D cy A) {fs : List Value} {v : Value} {ty : FieldType} (j k : Nat) (he : L[j]? = some (b, .inr (1, fs))) (hk : k < 4) (hl : fs.length = 4) (hq : Cond.fieldLink own index RJ5 (TJ4 k).2.1 (TJ4 k).2.2.1 ∈ GW) (hs : (TJ4 k).1 = RJ5) (hfin : (TJ4 k).2.2.2 = false) (hd : parseFieldDescriptor (TJ4 k).2.2.1 = some ty) (hn : narrow ty v = v) (hfit : fits ty v = true) (d : decode cc pc = .ok (.putfield index, 3)) (hw : L.set j (b, .inr (1, fs.set k v)) = L') (kk : vW p l e R s m args below meth c D vwCl A Q nL cells slots (U ++ L') lv (pc + 3) st) : vW p l e R s m args below meth c D vwCl A Q nL cells slots (U ++ L) lv pc (v :: .ref b :: st) :=
  g_put C qu_J4 tyJ4 tyJ4_ok nmJ4 (ci := 1) rfl (U.length + j) (us_g he) k hk hq hs hfin hd hn hfit (by rw [hl]; exact hk) d (us_t hw) kk
theorem t_stp (C : Fg p s m args meth c cc nL RJ0 D cy A) {fs : List Value} {v : Value} {ty : FieldType} (j k : Nat) (he : L[j]? = some (b, .inr (0, fs))) (hk : k < 4) (hl : fs.length = 4) (hq : Cond.fieldLink RJ0 index RJ0 (TJ0 k).2.1 (TJ0 k).2.2.1 ∈ GW) (hs : (TJ0 k).1 = RJ0) (hfin : (TJ0 k).2.2.2 = true) (hin2 : meth.name = "<init>") (hd : parseFieldDescriptor (TJ0 k).2.2.1 = some ty) (hn : narrow ty v = v) (hfit : fits ty v = true) (d : decode cc pc = .ok (.putfield index, 3)) (hw : L.set j (b, .inr (0, fs.set k v)) = L') (kk : vW p l e R s m args below meth c D vwCl A Q nL cells slots (U ++ L') lv (pc + 3) st) : vW p l e R s m args below meth c D vwCl A Q nL cells slots (U ++ L) lv pc (v :: .ref b :: st) :=
  g_putF C qu_J0 tyJ0 tyJ0_ok nmJ0 (ci := 0) rfl (U.length + j) (us_g he) k hk hq hs hfin hin2 hs hd hn hfit (by rw [hl]; exact hk) d (us_t hw) kk
/-- arrays of bytes behind U -/
theorem t_blen (C : Fg p s m args meth c cc nL own D cy A) {n : Nat} {g : Nat → Int32} (j : Nat) (he : L[j]? = some (b, .inl (cy 0, n, .inl g))) (d : decode cc pc = .ok (.arraylength, 1)) (kk : vW p l e R s m args below meth c D vwCl A Q nL cells slots (U ++ L) lv (pc + 1) (.int (nI n) :: st)) : vW p l e R s m args below meth c D vwCl A Q nL cells slots (U ++ L) lv pc (.ref b :: st) :=
  g_alen C (t0 := 0) (U.length + j) (us_g he) rfl d kk
theorem t_bst (C : Fg p s m args meth c cc nL own D cy A) {n i : Nat} {g : Nat → Int32} {x : Int32} (j : Nat) (he : L[j]? = some (b, .inl (cy 0, n, .inl g))) (hi : i < n) (hn : n < 2147483648) (d : decode cc pc = .ok (.bastore, 1)) (hw : L.set j (b, .inl (cy 0, n, .inl (upd g i (vp_nar .byte x)))) = L') (kk : vW p l e R s m args below meth c D vwCl A Q nL cells slots (U ++ L') lv (pc + 1) st) : vW p l e R s m args below meth c D vwCl A Q nL cells slots (U ++ L) lv pc (.int x :: .int (nI i) :: .ref b :: st) :=
  g_bst C (U.length + j) (us_g he) hi hn d (us_t hw) kk
theorem t_bcp (C : Fg p s m args meth c cc nL own D cy A) {a0 a1 n0 n1 sp dp n : Nat} {f g : Nat → Int32} (j0 j1 : Nat) (hq : Cond.methodLink own index arraycopyName ∈ GW) (he0 : L[j0]? = some (a0, .inl (cy 0, n0, .inl f))) (he1 : L[j1]? = some (a1, .inl (cy 0, n1, .inl g))) (hfit : sb_Fit f) (hsp : sp + n ≤ n0) (hdp : dp + n ≤ n1) (hn0 : n0 < 2147483648) (hn1 : n1 < 2147483648) (hf : 1 ≤ R.frames) (hlo : (st.map fun v => v.category).sum + (nativeFrameWords "java/lang/System" "arraycopy" 5 + 11) ≤ R.locals) (d : decode cc pc = .ok (.invokestatic index, 3)) (hw : L.set j1 (a1, .inl (cy 0, n1, .inl (va_cpy f g sp dp n))) = L')
    (kk : vW p l e R s m args below meth c D vwCl A Q nL cells slots (U ++ L') lv (pc + 3) st) : vW p l e R s m args below meth c D vwCl A Q nL cells slots (U ++ L) lv pc (.int (nI n) :: .int (nI dp) :: .ref a1 :: .int (nI sp) :: .ref a0 :: st) :=
  g_bcp C (U.length + j0) (U.length + j1) hq (us_g he0) (us_g he1) hfit hsp hdp hn0 hn1 hf hlo d (us_t hw) kk
theorem t_newB (C : Fg p s m args meth c cc nL own D cy A) (harr2 : Cond.arrayClass (newarray.typeOf .byte) ∈ GW) {n : Nat} (hn : n < 1000000) (hcells : cells + 1 ≤ R.cells) (hslots : slots + n ≤ R.slots) (d : decode cc pc = .ok (.newarray .byte, 2))
    (kk : ∀ q : Nat, vW p l e R s m args below meth c D vwCl A Q nL (cells + 1) (slots + n) (U ++ ((q, .inl (cy 0, n, .inl (fun _ => 0))) :: L)) lv (pc + 2) (.ref q :: st)) : vW p l e R s m args below meth c D vwCl A Q nL cells slots (U ++ L) lv pc (.int (nI n) :: st) :=
  r_newB C harr2 hn hcells hslots d (fun q => t_front (kk q))
end TX1
