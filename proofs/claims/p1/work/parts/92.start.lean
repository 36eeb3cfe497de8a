/-! THE LAW'S START -/
theorem dL_law_0 : decode cL_law 0 = .ok (.new 8, 3) := dqo_187 0 8 (kb_0 0 rfl) (kb_0 1 rfl) (kb_0 2 rfl)
theorem dL_law_3 : decode cL_law 3 = .ok (.dup, 1) := dqo_89 (kb_0 3 rfl)
theorem dL_law_4 : decode cL_law 4 = .ok (.invokespecial 170, 3) := dqo_183 0 170 (kb_0 4 rfl) (kb_0 5 rfl) (kb_0 6 rfl)
theorem dL_law_7 : decode cL_law 7 = .ok (.astore_n 1, 1) := dqo_76 (kb_0 7 rfl)
theorem dL_law_8 : decode cL_law 8 = .ok (.new 171, 3) := dqo_187 0 171 (kb_0 8 rfl) (kb_0 9 rfl) (kb_0 10 rfl)
theorem dL_law_11 : decode cL_law 11 = .ok (.dup, 1) := dqo_89 (kb_0 11 rfl)
theorem dL_law_12 : decode cL_law 12 = .ok (.invokespecial 173, 3) := dqo_183 0 173 (kb_0 12 rfl) (kb_0 13 rfl) (kb_0 14 rfl)
theorem dL_law_15 : decode cL_law 15 = .ok (.astore_n 2, 1) := dqo_77 (kb_0 15 rfl)
theorem dL_law_16 : decode cL_law 16 = .ok (.new 14, 3) := dqo_187 0 14 (kb_0 16 rfl) (kb_0 17 rfl) (kb_0 18 rfl)
theorem dL_law_19 : decode cL_law 19 = .ok (.dup, 1) := dqo_89 (kb_0 19 rfl)
theorem dL_law_20 : decode cL_law 20 = .ok (.invokespecial 174, 3) := dqo_183 0 174 (kb_0 20 rfl) (kb_0 21 rfl) (kb_0 22 rfl)
theorem dL_law_23 : decode cL_law 23 = .ok (.astore_n 3, 1) := dqo_78 (kb_0 23 rfl)
theorem dL_law_24 : decode cL_law 24 = .ok (.iconst 0, 1) := dqo_3 (kb_0 24 rfl)
theorem dL_law_25 : decode cL_law 25 = .ok (.istore 4, 2) := dqo_54 4 (kb_0 25 rfl) (kb_0 26 rfl)
section INN
variable {p : Program} {l : Launch} {e : Env} {R : Room} {s : State} {m : MethodId} {args : Array Value} {below : List Frame} {meth : Method} {c : Code} {D : va_G} {cy : Nat → ClassId} {A : Nat → Prop} {Q : State → Prop} {nL cells slots : Nat} {w : va_W} {lv : List (Option Value)} {pc : Nat} {st : List Value} {cc : ByteArray} {own host : String} {X : (Nat → Prop) → State → Heap → Prop}
variable {y : MethodName} {bytes : ByteArray} {maxL index n b : Nat} {rm : Room} {As st0 : List Value} {post : Option Value → va_W → Prop} {px : String → Prop}
/-- a nest mate's constructor -/
theorem c_IN (hX : Stb X) (C : Fg p s m args meth c cc nL own D cy A) (hE : X A s s.heap) (ct : Cm l D cy X y bytes maxL none rm (.ref b :: As) w post px) (pk : PkI y bytes maxL n) (hl : (Cond.methodLinkNest own index y host).before args s = true)
    (hn : As.length = n) (hstack : st0 = As.reverse ++ .ref b :: st) (hcat : (st.map fun v => v.category).sum ≤ 8)
    (d : decode cc pc = .ok (.invokespecial index, 3)) (hR : rm.frames + 1 ≤ R.frames ∧ 8 + (maxL + 11) + rm.locals ≤ R.locals) (hf : cells + rm.cells ≤ R.cells ∧ slots + rm.slots ≤ R.slots)
    (kk : ∀ (v : Option Value) (w' : va_W), post v w' → vW p l e R s m args below meth c D vwCl A Q nL (cells + rm.cells) (slots + rm.slots) w' lv (pc + 3) (v.toList ++ st))
    (kx : ∀ E : String, px E → vX p l e R s m args below meth c D vwCl A Q nL (cells + rm.cells) (slots + rm.slots) w lv pc st E) : vW p l e R s m args below meth c D vwCl A Q nL cells slots w lv pc st0 := by
  obtain ⟨⟨q1, q2, q3⟩, hnm, hd⟩ := pk
  exact r_run C (fun H locs ls hP hD hS hl9 => vx_runIN (As := As) (rest := st) (g := F0 m pc ls st0) ⟨C.1, C.2.1, C.2.2.1, C.2.2.2.1, C.2.2.2.2.1⟩ (ct H.size) ⟨va_cnB n C.2.2.2.2.1 (gw_cons q3) rfl rfl rfl (va_Nw.of rfl hl) (C.2.2.2.2.1 _ q2) hd hR, hnm, C.2.2.2.2.1 _ q1⟩ ⟨vPre_blind hX _ _ _, fun U hU hW => ⟨rfl, vPre_at hX C hE hP hD hS U hU hW⟩⟩ rfl hn hl9.1 hstack (lv_room hcat) d hf) kk kx
end INN
theorem arr_of {s : State} {cA comp : ClassId} {kA : Class} {ty : FieldType} (h2 : s.vm.classes[cA]? = some kA) (h3 : kA.kind = .array comp ty) : ArrOfT s cA ty := fun n z => ⟨fun k h => (by cases h), kA, h2, comp, h3⟩
set_option maxHeartbeats 4000000 in
set_option maxRecDepth 100000 in
/-- the walk of the law's body -/
theorem lw_body {p : Program} {e : Env} {s : State} {m : MethodId} {below : List Frame} {meth : Method} {c : Code} (l : Launch) (hflags : l.flags = flags0) {b L : Nat} {xs : Nat → Int32} (hL : L ≤ 2560) (C0 : lw_At p s m meth c b L xs) : W p l e room_1 s m #[Value.ref b] below meth c s.heap [] 0 0 (lw_Z below #[Value.ref b] s) (entryFrame m ([Value.ref b] : List Value).toArray 7) := by
  obtain ⟨hx0, hb, hr, hml, hown, hts, hx, hbl, hlocks, hgv⟩ := C0
  have ht : ∀ w ∈ GW, w.before #[Value.ref b] s = true := fun w hw => hts w (List.mem_filter.mp hw).1
  have tb : ∀ w ∈ tables_1, w.before #[Value.ref b] s = true := fun w hw => hts w (List.mem_append_right _ hw)
  have fl : ∀ w ∈ FLL, w.before #[Value.ref b] s = true := flat_of_before _ hgv
  have hl : l.stackTraces = false := by
    unfold Launch.stackTraces
    rw [hflags]
    decide +kernel
  obtain ⟨cC0, iS0, K0⟩ := u_known (n := 4) ht qu_J0 (ht _ qo_J0)
  obtain ⟨cC1, iS1, K1⟩ := u_known (n := 4) ht qu_J4 (ht _ qo_J4)
  obtain ⟨cC2, iS2, K2⟩ := u_known (n := 6) ht qu_Jx00060 (ht _ qo_Jx00060)
  obtain ⟨cC3, iS3, K3⟩ := u_known (n := 6) ht qu_Jx7c733 (ht _ qo_Jx7c733)
  obtain ⟨cC4, iS4, K4⟩ := u_known (n := 4) ht qu_X0 (ht _ qo_X0)
  obtain ⟨cC5, iS5, K5⟩ := u_known (n := 6) ht qu_X1 (ht _ qo_X1)
  obtain ⟨cC6, iS6, K6⟩ := u_known (n := 6) ht qu_X2 (ht _ qo_X2)
  obtain ⟨cC7, iS7, K7⟩ := u_known (n := 2) ht qu_X3 (ht _ qo_X3)
  obtain ⟨cC8, iS8, K8⟩ := u_known (n := 12) ht qu_X4 (ht _ qo_X4)
  obtain ⟨cb, kb, pb, b1, b2, b3⟩ := Cond.arrayClass_spec (args := #[Value.ref b]) (first := s) (o := none) (s := s) (idx := []) (ht _ qa_byte)
  obtain ⟨ci, ki, pi, i1, i2, i3⟩ := Cond.arrayClass_spec (args := #[Value.ref b]) (first := s) (o := none) (s := s) (idx := []) (ht _ qa_int)
  obtain ⟨cz, kz, pz, z1, z2, z3⟩ := Cond.arrayClass_spec (args := #[Value.ref b]) (first := s) (o := none) (s := s) (idx := []) (ht _ qa_boolean)
  obtain ⟨q0, c3, k3, u1, -, u2, u3, u4⟩ := Cond.arrayOver_spec (args := #[Value.ref b]) (first := s) (o := none) (s := s) (idx := []) (n := RX0) (tb _ (gm_1 68 rfl))
  obtain ⟨q1, c4, k4, v1, -, v2, v3, v4⟩ := Cond.arrayOver_spec (args := #[Value.ref b]) (first := s) (o := none) (s := s) (idx := []) (n := RX1) (tb _ (gm_1 34 rfl))
  obtain ⟨q2, c5, k5, w1, w2, w3, w4⟩ := q4_over (args := #[Value.ref b]) (tb _ (gm_5 193 rfl))
  obtain ⟨cy, hcy⟩ : ∃ cy : Nat → ClassId, cy = fun k => [cb, ci, cz, c3, c4, c5].getD k 0 := ⟨_, rfl⟩
  obtain ⟨D, hD0⟩ : ∃ D : va_G, D = (fun k => [cC0, cC1, cC2, cC3, cC4, cC5, cC6, cC7, cC8].getD k 0, fun k => [iS0, iS1, iS2, iS3, iS4, iS5, iS6, iS7, iS8].getD k (fun _ => 0)) := ⟨_, rfl⟩
  have hK : va_K D vwCl (tysL cy) s := by
    subst hcy
    subst hD0
    refine ⟨fun k q hq => ?_, fun k q hq => ?_⟩
    · rcases Nat.lt_or_ge k 9 with hk | hk
      · rcases (show k = 0 ∨ k = 1 ∨ k = 2 ∨ k = 3 ∨ k = 4 ∨ k = 5 ∨ k = 6 ∨ k = 7 ∨ k = 8 by omega) with rfl | rfl | rfl | rfl | rfl | rfl | rfl | rfl | rfl
        · cases hq
          exact K0
        · cases hq
          exact K1
        · cases hq
          exact K2
        · cases hq
          exact K3
        · cases hq
          exact K4
        · cases hq
          exact K5
        · cases hq
          exact K6
        · cases hq
          exact K7
        · cases hq
          exact K8
      · rw [List.getElem?_eq_none (show vwCl.length ≤ k from hk)] at hq
        cases hq
    · rcases Nat.lt_or_ge k 6 with hk | hk
      · rcases (show k = 0 ∨ k = 1 ∨ k = 2 ∨ k = 3 ∨ k = 4 ∨ k = 5 by omega) with rfl | rfl | rfl | rfl | rfl | rfl
        · cases hq
          exact ⟨arr_of b2 b3, b1⟩
        · cases hq
          exact ⟨arr_of i2 i3, i1⟩
        · cases hq
          exact ⟨arr_of z2 z3, z1⟩
        · cases hq
          exact ⟨arr_of u2 u3, k3, q0, u2, u3, u1, u4⟩
        · cases hq
          exact ⟨arr_of v2 v3, k4, q1, v2, v3, v1, v4⟩
        · cases hq
          exact ⟨arr_of w2 w3, w4⟩
      · rw [List.getElem?_eq_none (show (tysL _).length ≤ k from hk)] at hq
        cases hq
  have hI : AOI cy s := by
    subst hcy
    refine ⟨k5, ki, ci, w2, ?_, i1, i2⟩
    rw [w3]
    exact congrArg (fun z => Kind.array z (FieldType.array .int)) (Option.some.inj (w1.symm.trans i1))
  obtain ⟨aK, aV, tO, tT, hE⟩ := lwX_of (cy := cy) (A := fun q : Nat => s.heap.size ≤ q) tb fl (fun a ha => Nat.not_le.mpr ha) hI
  have C : Fg p s m #[Value.ref b] meth c cL_law 7 RL D cy (fun q : Nat => s.heap.size ≤ q) := ⟨hx0, hb, hml, hown, ht, hK, hlocks, fun q h => h⟩
  have hT := lwX_T (cy := cy) (aK := aK) (aV := aV) (tO := tO) (tT := tT) (gO := gO0) (gT := gT0)
  have main : vW p l e room_1 s m #[Value.ref b] below meth c D vwCl (fun q : Nat => s.heap.size ≤ q) (lw_Z below #[Value.ref b] s) 7 0 0 [] [some (.ref b), none, none, none, none, none, none] 0 [] := by
    refine r_new (fs := [.null, .null, .null, .null, .null, .int (nI 0)]) C qu_X2 tyX2 tyX2_ok qk_L_8 qo_X2 qz_X2 (ci := 6) rfl fs0_X2 (Nat.le_of_ble_eq_true rfl) (Nat.le_of_ble_eq_true rfl) dL_law_0 (fun x => ?_)
    refine r_dup C dL_law_3 rfl ?_
    refine c_I (st := [.ref x]) hT.1.1.1.stb C hE (C_SplInit (U := []) (b := x) hT) pk_X2_init qm_L_170 rfl rfl (Nat.le_of_ble_eq_true rfl) dL_law_4 ⟨(Nat.le_of_ble_eq_true rfl), (Nat.le_of_ble_eq_true rfl)⟩ ⟨(Nat.le_of_ble_eq_true rfl), (Nat.le_of_ble_eq_true rfl)⟩ (fun v9 w9 h9 => ?_) (fun _ h9 => h9.elim)
    obtain ⟨a, rfl, rfl, rfl⟩ := h9
    refine r_astore_n C dL_law_7 (by decide) rfl ?_
    refine r_new (fs := [.null, .null, .null, .null, .null, .null, .null, .null, .null, .int (nI 0), .int (nI 0), .long 0]) C qu_X4 tyX4 tyX4_ok qk_L_171 qo_X4 qz_X4 (ci := 8) rfl fs0_X4 (Nat.le_of_ble_eq_true rfl) (Nat.le_of_ble_eq_true rfl) dL_law_8 (fun x => ?_)
    refine r_dup C dL_law_11 rfl ?_
    refine r_w (w' := WC cy a fI rI (nI 0) ++ [(x, .inr (8, [.null, .null, .null, .null, .null, .null, .null, .null, .null, .int (nI 0), .int (nI 0), .long 0]))]) (by rw [List.append_nil]) ?_
    refine c_I (st := [.ref x]) hT.1.1.1.stb C hE (D_ModInit (U := WC cy a fI rI (nI 0)) (b := x) hT) pk_X4_init qm_L_173 rfl rfl (Nat.le_of_ble_eq_true rfl) dL_law_12 ⟨(Nat.le_of_ble_eq_true rfl), (Nat.le_of_ble_eq_true rfl)⟩ ⟨(Nat.le_of_ble_eq_true rfl), (Nat.le_of_ble_eq_true rfl)⟩ (fun v9 w9 h9 => ?_) (fun _ h9 => h9.elim)
    obtain ⟨ba, ra, rfl, rfl, rfl⟩ := h9
    refine r_astore_n C dL_law_15 (by decide) rfl ?_
    refine r_new (fs := [.long 0, .null]) C qu_X3 tyX3 tyX3_ok qk_L_14 qo_X3 qz_X3 (ci := 7) rfl fs0_X3 (Nat.le_of_ble_eq_true rfl) (Nat.le_of_ble_eq_true rfl) dL_law_16 (fun o => ?_)
    refine r_dup C dL_law_19 rfl ?_
    refine c_IN (st := [.ref o]) hT.1.1.1.stb C hE C_OutInit pk_X3_init (tb (Cond.methodLinkNest RL 174 yX3_init RL) (List.mem_of_getElem? (i := 686) (by decide +kernel))) rfl rfl (Nat.le_of_ble_eq_true rfl) dL_law_20 ⟨(Nat.le_of_ble_eq_true rfl), (Nat.le_of_ble_eq_true rfl)⟩ ⟨(Nat.le_of_ble_eq_true rfl), (Nat.le_of_ble_eq_true rfl)⟩ (fun v9 w9 h9 => ?_) (fun _ h9 => h9.elim)
    obtain ⟨rfl, rfl⟩ := h9
    refine r_astore_n C dL_law_23 (by decide) rfl ?_
    refine r_iconst (v := nI 0) C dL_law_24 (by decide) ?_
    refine r_istore C dL_law_25 (by decide) rfl ?_
    refine r_w (w' := WM cy ba ra hfI rI (nI 0) (nI 0) 0 ++ (WC cy a fI rI (nI 0) ++ [OUTo o 0 .null])) (List.append_assoc _ _ _) ?_
    refine t_swap3 ?_
    refine r_widen (k := 100 + 500 * 0) (n := 1000 + 10000 * 0) (Nat.le_of_ble_eq_true rfl) (Nat.le_of_ble_eq_true rfl) ?_
    exact law_loop (c0 := 100) (s0 := 1000) C hE hT lwX_N hl hx hbl hL hr (by decide) (by decide) 513 0 _ rfl (Nat.zero_le _) ⟨fI, rI, hfI, rI, nI 0, ra, nI 0, 0, 0, .null, fI_inv, rI_ib, fI_mr, rfl⟩
  rw [lg_entry_eq]
  exact main s.heap [] _ (fun k q hk => by cases hk) ⟨fun i j p q hp => (by cases hp), fun k q hk => (by cases hk)⟩ va_S.rf (lvh.of (lv_entry [Value.ref b] (Nat.le_of_ble_eq_true rfl)) rfl)
