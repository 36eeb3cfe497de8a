/-! TEXTS: strings appended -/
theorem r_bret {p : Program} {l : Launch} {e : Env} {R : Room} {s : State} {m : MethodId} {args : Array Value} {below : List Frame} {meth : Method} {c : Code} {D : va_G} {cy : Nat → ClassId} {A : Nat → Prop} {nL cells slots : Nat} {w : va_W} {lv : List (Option Value)} {pc : Nat} {cc : ByteArray} {own : String} {post : Option Value → va_W → Prop} {px : String → Prop} {w0 : va_W} {mc ms : Nat} {x : Int32} (C : Fg p s m args meth c cc nL own D cy A) (hr : meth.sig.returnType = some .byte) (hx : narrow .byte (.int x) = .int x) (d : decode cc pc = .ok (.ireturn, 1)) (hp : post (some (.int x)) w) (h1 : cells ≤ mc) (h2 : slots ≤ ms) :
    vW p l e R s m args below meth c D vwCl A (vx_MQ below (vG post D vwCl A) (vGX px D vwCl w0 A) args s mc ms A) nL cells slots w lv pc [.int x] := fun H locs ls hP hD hS hl =>
  W.widen h1 h2 (vx_ret (W.zret C.1 C.2.1 hr hx (fun t ht hW => ⟨⟨_, w, rfl, hp, by rw [ht]; exact hP, hD⟩, hS.F ht⟩) hS.2.2 d C.2.2.2.2.2.2.1))
theorem dJ0_coder_7d493_0 : decode cJ0_coder_7d493 0 = .ok (.getstatic 38, 3) := dqo_178 0 38 (kb_of ke_J0_coder_7d493 0 rfl) (kb_of ke_J0_coder_7d493 1 rfl) (kb_of ke_J0_coder_7d493 2 rfl)
theorem dJ0_coder_7d493_3 : decode cJ0_coder_7d493 3 = .ok (.ifCond .eq 10, 3) := dqo_153 0 10 (by decide) (kb_of ke_J0_coder_7d493 3 rfl) (kb_of ke_J0_coder_7d493 4 rfl) (kb_of ke_J0_coder_7d493 5 rfl)
theorem dJ0_coder_7d493_6 : decode cJ0_coder_7d493 6 = .ok (.aload_n 0, 1) := dqo_42 (kb_of ke_J0_coder_7d493 6 rfl)
theorem dJ0_coder_7d493_7 : decode cJ0_coder_7d493 7 = .ok (.getfield 15, 3) := dqo_180 0 15 (kb_of ke_J0_coder_7d493 7 rfl) (kb_of ke_J0_coder_7d493 8 rfl) (kb_of ke_J0_coder_7d493 9 rfl)
theorem dJ0_coder_7d493_10 : decode cJ0_coder_7d493 10 = .ok (.goto 4, 3) := dqo_167 0 4 (by decide) (kb_of ke_J0_coder_7d493 10 rfl) (kb_of ke_J0_coder_7d493 11 rfl) (kb_of ke_J0_coder_7d493 12 rfl)
theorem dJ0_coder_7d493_14 : decode cJ0_coder_7d493 14 = .ok (.ireturn, 1) := dqo_172 (kb_of ke_J0_coder_7d493 14 rfl)
set_option maxRecDepth 100000 in
set_option maxHeartbeats 400000 in
theorem C_coder_K {l : Launch} {D : va_G} {cy : Nat → ClassId} {X : (Nat → Prop) → State → Heap → Prop} {aK aV : Nat → Nat} {tO tT : Nat} {gO gT : Nat → Int32} {w : va_W} {i : Nat} (hX : EnvS X cy aK aV tO tT gO gT) (hi : i < KSN.length) : Cm l D cy X yJ0_coder_7d493 cJ0_coder_7d493 1 (some .byte) (rmz 0 0) [.ref (aK i)] (w) (fun v1 w1 => v1 = some (.int (nI 0)) ∧ w1 = w) (fun _ => False) := by
  refine Cm.ofF [some (.ref (aK i))] (plainFor_of_name pn_J0) rfl (Nat.le_of_ble_eq_true rfl) ?_
  intro p e s mI args below meth c A C hE hr hnt hn
  refine j_cs hX C hE qf_J0_38 dJ0_coder_7d493_0 ?_
  refine r_ifN_eq (a := 1) (tgt := 13) C (by first | omega | (simp [up2, *]; done) | (simp [up2, *]; omega) | (simp only [up2_eq]; omega) | (split <;> omega)) dJ0_coder_7d493_3 (by decide) (fun h3_1 => ?_) (fun h3_1 => ?_)
  · exact absurd h3_1 (by first | omega | (simp [up2, *]; done) | (simp [up2, *]; omega) | (simp only [up2_eq]; omega) | (split <;> omega))
  · skip
    refine r_aload_n C dJ0_coder_7d493_6 rfl ?_
    refine k_cod hX C hE (by first | assumption | decide) qf_J0_15 dJ0_coder_7d493_7 ?_
    refine r_goto (tgt := 14) C dJ0_coder_7d493_10 (by decide) ?_
    exact r_bret C hr rfl dJ0_coder_7d493_14 ⟨rfl, rfl⟩ (by first | (simp only [rmk, rmz]; omega) | (simp only [rmk, rmz]; done) | omega) (by first | (simp only [rmk, rmz]; omega) | (simp only [rmk, rmz]; done) | omega)
set_option maxRecDepth 100000 in
set_option maxHeartbeats 400000 in
theorem C_coder_W {l : Launch} {D : va_G} {cy : Nat → ClassId} {X : (Nat → Prop) → State → Heap → Prop} {aK aV : Nat → Nat} {tO tT : Nat} {gO gT : Nat → Int32} {U E : va_W} {a : Nat} {va : Nat} {h : Int32} {z : Int32} (hX : EnvS X cy aK aV tO tT gO gT)  : Cm l D cy X yJ0_coder_7d493 cJ0_coder_7d493 1 (some .byte) (rmz 0 0) [.ref a] (U ++ (STO a va h z :: E)) (fun v1 w1 => v1 = some (.int (nI 0)) ∧ w1 = U ++ (STO a va h z :: E)) (fun _ => False) := by
  refine Cm.ofF [some (.ref a)] (plainFor_of_name pn_J0) rfl (Nat.le_of_ble_eq_true rfl) ?_
  intro p e s mI args below meth c A C hE hr hnt hn
  refine j_cs hX C hE qf_J0_38 dJ0_coder_7d493_0 ?_
  refine r_ifN_eq (a := 1) (tgt := 13) C (by first | omega | (simp [up2, *]; done) | (simp [up2, *]; omega) | (simp only [up2_eq]; omega) | (split <;> omega)) dJ0_coder_7d493_3 (by decide) (fun h3_1 => ?_) (fun h3_1 => ?_)
  · exact absurd h3_1 (by first | omega | (simp [up2, *]; done) | (simp [up2, *]; omega) | (simp only [up2_eq]; omega) | (split <;> omega))
  · skip
    refine r_aload_n C dJ0_coder_7d493_6 rfl ?_
    refine t_stg C 0 1 rfl (by decide) qf_J0_15 rfl rfl dJ0_coder_7d493_7 ?_
    refine r_goto (tgt := 14) C dJ0_coder_7d493_10 (by decide) ?_
    exact r_bret C hr rfl dJ0_coder_7d493_14 ⟨rfl, rfl⟩ (by first | (simp only [rmk, rmz]; omega) | (simp only [rmk, rmz]; done) | omega) (by first | (simp only [rmk, rmz]; omega) | (simp only [rmk, rmz]; done) | omega)
theorem dJ0_length_8abf5_0 : decode cJ0_length_8abf5 0 = .ok (.aload_n 0, 1) := dqo_42 (kb_of ke_J0_length_8abf5 0 rfl)
theorem dJ0_length_8abf5_1 : decode cJ0_length_8abf5 1 = .ok (.getfield 9, 3) := dqo_180 0 9 (kb_of ke_J0_length_8abf5 1 rfl) (kb_of ke_J0_length_8abf5 2 rfl) (kb_of ke_J0_length_8abf5 3 rfl)
theorem dJ0_length_8abf5_4 : decode cJ0_length_8abf5 4 = .ok (.arraylength, 1) := dqo_190 (kb_of ke_J0_length_8abf5 4 rfl)
theorem dJ0_length_8abf5_5 : decode cJ0_length_8abf5 5 = .ok (.aload_n 0, 1) := dqo_42 (kb_of ke_J0_length_8abf5 5 rfl)
theorem dJ0_length_8abf5_6 : decode cJ0_length_8abf5 6 = .ok (.invokevirtual 335, 3) := dqo_182 1 79 (kb_of ke_J0_length_8abf5 6 rfl) (kb_of ke_J0_length_8abf5 7 rfl) (kb_of ke_J0_length_8abf5 8 rfl)
theorem dJ0_length_8abf5_9 : decode cJ0_length_8abf5 9 = .ok (.ishr, 1) := dqo_122 (kb_of ke_J0_length_8abf5 9 rfl)
theorem dJ0_length_8abf5_10 : decode cJ0_length_8abf5 10 = .ok (.ireturn, 1) := dqo_172 (kb_of ke_J0_length_8abf5 10 rfl)
theorem pk_J0_coder_7d493 : PkV RJ0 yJ0_coder_7d493 cJ0_coder_7d493 1 (some .byte) 0 := ⟨⟨qi_J0_coder_7d493, qs_J0_coder_7d493, qz_J0, qc_J0_coder_7d493⟩, rfl, mh_J0.1, mh_J0.2, pd_31⟩
set_option maxRecDepth 100000 in
set_option maxHeartbeats 400000 in
theorem C_len_K {l : Launch} {D : va_G} {cy : Nat → ClassId} {X : (Nat → Prop) → State → Heap → Prop} {aK aV : Nat → Nat} {tO tT : Nat} {gO gT : Nat → Int32} {w : va_W} {i : Nat} (hX : EnvS X cy aK aV tO tT gO gT) (hi : i < KSN.length) : Cm l D cy X yJ0_length_8abf5 cJ0_length_8abf5 1 (some .int) (rmz 1 40) [.ref (aK i)] (w) (fun v1 w1 => v1 = some (.int (nI (KSN.getD i 0))) ∧ w1 = w) (fun _ => False) := by
  refine Cm.ofF [some (.ref (aK i))] (plainFor_of_name pn_J0) rfl (Nat.le_of_ble_eq_true rfl) ?_
  intro p e s mI args below meth c A C hE hr hnt hn
  refine r_aload_n C dJ0_length_8abf5_0 rfl ?_
  refine k_val hX C hE (by first | assumption | decide) qf_J0_9 dJ0_length_8abf5_1 ?_
  refine k_len hX C hE (by first | assumption | decide) dJ0_length_8abf5_4 ?_
  refine r_aload_n C dJ0_length_8abf5_5 rfl ?_
  refine c_VK (st := [.int (nI (KSN.getD i 0))]) hX C hE (by first | assumption | decide) (C_coder_K (w := w) (i := i) hX (by first | assumption | decide)) pk_J0_coder_7d493 qm_J0_335 rfl rfl (Nat.le_of_ble_eq_true rfl) dJ0_length_8abf5_6 ⟨Nat.le_of_ble_eq_true rfl, Nat.le_of_ble_eq_true rfl⟩ ⟨by first | (simp only [rmk, rmz]; omega) | (simp only [rmk, rmz]; done) | omega, by first | (simp only [rmk, rmz]; omega) | (simp only [rmk, rmz]; done) | omega⟩ (fun v9 w9 h9 => ?_) (fun _ h9 => h9.elim)
  obtain ⟨rfl, rfl⟩ := h9
  refine t_ishr C dJ0_length_8abf5_9 ?_
  exact r_iret C hr dJ0_length_8abf5_10 ⟨rfl, rfl⟩ (by first | (simp only [rmk, rmz]; omega) | (simp only [rmk, rmz]; done) | omega) (by first | (simp only [rmk, rmz]; omega) | (simp only [rmk, rmz]; done) | omega)
set_option maxRecDepth 100000 in
set_option maxHeartbeats 400000 in
theorem C_len_W {l : Launch} {D : va_G} {cy : Nat → ClassId} {X : (Nat → Prop) → State → Heap → Prop} {aK aV : Nat → Nat} {tO tT : Nat} {gO gT : Nat → Int32} {U E : va_W} {a : Nat} {va : Nat} {h : Int32} {z : Int32} {k : Nat} {gs : Nat → Int32} (hX : EnvS X cy aK aV tO tT gO gT)  : Cm l D cy X yJ0_length_8abf5 cJ0_length_8abf5 1 (some .int) (rmz 1 40) [.ref a] (U ++ (STO a va h z :: BYO cy va k gs :: E)) (fun v1 w1 => v1 = some (.int (nI k)) ∧ w1 = U ++ (STO a va h z :: BYO cy va k gs :: E)) (fun _ => False) := by
  refine Cm.ofF [some (.ref a)] (plainFor_of_name pn_J0) rfl (Nat.le_of_ble_eq_true rfl) ?_
  intro p e s mI args below meth c A C hE hr hnt hn
  refine r_aload_n C dJ0_length_8abf5_0 rfl ?_
  refine t_stg C 0 0 rfl (by decide) qf_J0_9 rfl rfl dJ0_length_8abf5_1 ?_
  refine t_blen C 1 rfl dJ0_length_8abf5_4 ?_
  refine r_aload_n C dJ0_length_8abf5_5 rfl ?_
  refine c_V (st := [.int (nI k)]) hX.stb C hE (C_coder_W (U := U) (E := (BYO cy va k gs :: E)) (a := a) (va := va) (h := h) (z := z) hX ) pk_J0_coder_7d493 qm_J0_335 (U.length + 0) 0 rfl rfl (us_g rfl) rfl rfl (Nat.le_of_ble_eq_true rfl) dJ0_length_8abf5_6 ⟨Nat.le_of_ble_eq_true rfl, Nat.le_of_ble_eq_true rfl⟩ ⟨by first | (simp only [rmk, rmz]; omega) | (simp only [rmk, rmz]; done) | omega, by first | (simp only [rmk, rmz]; omega) | (simp only [rmk, rmz]; done) | omega⟩ (fun v9 w9 h9 => ?_) (fun _ h9 => h9.elim)
  obtain ⟨rfl, rfl⟩ := h9
  refine t_ishr C dJ0_length_8abf5_9 ?_
  exact r_iret C hr dJ0_length_8abf5_10 ⟨rfl, rfl⟩ (by first | (simp only [rmk, rmz]; omega) | (simp only [rmk, rmz]; done) | omega) (by first | (simp only [rmk, rmz]; omega) | (simp only [rmk, rmz]; done) | omega)
theorem dJ0_isEmpty_aae02_0 : decode cJ0_isEmpty_aae02 0 = .ok (.aload_n 0, 1) := dqo_42 (kb_of ke_J0_isEmpty_aae02 0 rfl)
theorem dJ0_isEmpty_aae02_1 : decode cJ0_isEmpty_aae02 1 = .ok (.getfield 9, 3) := dqo_180 0 9 (kb_of ke_J0_isEmpty_aae02 1 rfl) (kb_of ke_J0_isEmpty_aae02 2 rfl) (kb_of ke_J0_isEmpty_aae02 3 rfl)
theorem dJ0_isEmpty_aae02_4 : decode cJ0_isEmpty_aae02 4 = .ok (.arraylength, 1) := dqo_190 (kb_of ke_J0_isEmpty_aae02 4 rfl)
theorem dJ0_isEmpty_aae02_5 : decode cJ0_isEmpty_aae02 5 = .ok (.ifCond .ne 7, 3) := dqo_154 0 7 (by decide) (kb_of ke_J0_isEmpty_aae02 5 rfl) (kb_of ke_J0_isEmpty_aae02 6 rfl) (kb_of ke_J0_isEmpty_aae02 7 rfl)
theorem dJ0_isEmpty_aae02_8 : decode cJ0_isEmpty_aae02 8 = .ok (.iconst 1, 1) := dqo_4 (kb_of ke_J0_isEmpty_aae02 8 rfl)
theorem dJ0_isEmpty_aae02_9 : decode cJ0_isEmpty_aae02 9 = .ok (.goto 4, 3) := dqo_167 0 4 (by decide) (kb_of ke_J0_isEmpty_aae02 9 rfl) (kb_of ke_J0_isEmpty_aae02 10 rfl) (kb_of ke_J0_isEmpty_aae02 11 rfl)
theorem dJ0_isEmpty_aae02_13 : decode cJ0_isEmpty_aae02 13 = .ok (.ireturn, 1) := dqo_172 (kb_of ke_J0_isEmpty_aae02 13 rfl)
set_option maxRecDepth 100000 in
set_option maxHeartbeats 400000 in
theorem C_empty_K {l : Launch} {D : va_G} {cy : Nat → ClassId} {X : (Nat → Prop) → State → Heap → Prop} {aK aV : Nat → Nat} {tO tT : Nat} {gO gT : Nat → Int32} {w : va_W} {i : Nat} (hX : EnvS X cy aK aV tO tT gO gT) (hi : i < KSN.length) (h0 : KSN.getD i 0 = 0) : Cm l D cy X yJ0_isEmpty_aae02 cJ0_isEmpty_aae02 1 (some .boolean) (rmz 0 0) [.ref (aK i)] (w) (fun v1 w1 => v1 = some (.int (nI 1)) ∧ w1 = w) (fun _ => False) := by
  refine Cm.ofF [some (.ref (aK i))] (plainFor_of_name pn_J0) rfl (Nat.le_of_ble_eq_true rfl) ?_
  intro p e s mI args below meth c A C hE hr hnt hn
  refine r_aload_n C dJ0_isEmpty_aae02_0 rfl ?_
  refine k_val hX C hE (by first | assumption | decide) qf_J0_9 dJ0_isEmpty_aae02_1 ?_
  refine k_len hX C hE (by first | assumption | decide) dJ0_isEmpty_aae02_4 ?_
  refine r_ifN_ne (a := (KSN.getD i 0)) (tgt := 12) C (by omega) dJ0_isEmpty_aae02_5 (by decide) (fun h5_1 => ?_) (fun h5_1 => ?_)
  · exact absurd h5_1 (by first | omega | (simp [up2, *]; done) | (simp [up2, *]; omega) | (simp only [up2_eq]; omega) | (split <;> omega))
  · skip
    refine r_iconst (v := (nI 1)) C dJ0_isEmpty_aae02_8 (by decide) ?_
    refine r_goto (tgt := 13) C dJ0_isEmpty_aae02_9 (by decide) ?_
    exact r_zret C hr (by first | omega | (simp [up2, *]; done) | (simp [up2, *]; omega) | (simp only [up2_eq]; omega) | (split <;> omega)) dJ0_isEmpty_aae02_13 ⟨rfl, rfl⟩ (by first | (simp only [rmk, rmz]; omega) | (simp only [rmk, rmz]; done) | omega) (by first | (simp only [rmk, rmz]; omega) | (simp only [rmk, rmz]; done) | omega)
theorem dJ0_isEmpty_aae02_12 : decode cJ0_isEmpty_aae02 12 = .ok (.iconst 0, 1) := dqo_3 (kb_of ke_J0_isEmpty_aae02 12 rfl)
set_option maxRecDepth 100000 in
set_option maxHeartbeats 400000 in
theorem C_empty_W {l : Launch} {D : va_G} {cy : Nat → ClassId} {X : (Nat → Prop) → State → Heap → Prop} {aK aV : Nat → Nat} {tO tT : Nat} {gO gT : Nat → Int32} {U E : va_W} {a : Nat} {va : Nat} {h : Int32} {z : Int32} {k : Nat} {gs : Nat → Int32} (hX : EnvS X cy aK aV tO tT gO gT) (h0 : 0 < k) (hk : k < 1000) : Cm l D cy X yJ0_isEmpty_aae02 cJ0_isEmpty_aae02 1 (some .boolean) (rmz 0 0) [.ref a] (U ++ (STO a va h z :: BYO cy va k gs :: E)) (fun v1 w1 => v1 = some (.int (nI 0)) ∧ w1 = U ++ (STO a va h z :: BYO cy va k gs :: E)) (fun _ => False) := by
  refine Cm.ofF [some (.ref a)] (plainFor_of_name pn_J0) rfl (Nat.le_of_ble_eq_true rfl) ?_
  intro p e s mI args below meth c A C hE hr hnt hn
  refine r_aload_n C dJ0_isEmpty_aae02_0 rfl ?_
  refine t_stg C 0 0 rfl (by decide) qf_J0_9 rfl rfl dJ0_isEmpty_aae02_1 ?_
  refine t_blen C 1 rfl dJ0_isEmpty_aae02_4 ?_
  refine r_ifN_ne (a := k) (tgt := 12) C (by first | omega | (simp [up2, *]; done) | (simp [up2, *]; omega) | (simp only [up2_eq]; omega) | (split <;> omega)) dJ0_isEmpty_aae02_5 (by decide) (fun h5_1 => ?_) (fun h5_1 => ?_)
  · skip
    refine r_iconst (v := (nI 0)) C dJ0_isEmpty_aae02_12 (by decide) ?_
    exact r_zret C hr (by first | omega | (simp [up2, *]; done) | (simp [up2, *]; omega) | (simp only [up2_eq]; omega) | (split <;> omega)) dJ0_isEmpty_aae02_13 ⟨rfl, rfl⟩ (by first | (simp only [rmk, rmz]; omega) | (simp only [rmk, rmz]; done) | omega) (by first | (simp only [rmk, rmz]; omega) | (simp only [rmk, rmz]; done) | omega)
  · exact absurd h5_1 (by first | omega | (simp [up2, *]; done) | (simp [up2, *]; omega) | (simp only [up2_eq]; omega) | (split <;> omega))
theorem dJ0_getBytes_840e7_0 : decode cJ0_getBytes_840e7 0 = .ok (.aload_n 0, 1) := dqo_42 (kb_of ke_J0_getBytes_840e7 0 rfl)
theorem dJ0_getBytes_840e7_1 : decode cJ0_getBytes_840e7 1 = .ok (.invokevirtual 335, 3) := dqo_182 1 79 (kb_of ke_J0_getBytes_840e7 1 rfl) (kb_of ke_J0_getBytes_840e7 2 rfl) (kb_of ke_J0_getBytes_840e7 3 rfl)
theorem dJ0_getBytes_840e7_4 : decode cJ0_getBytes_840e7 4 = .ok (.iload_n 3, 1) := dqo_29 (kb_of ke_J0_getBytes_840e7 4 rfl)
theorem dJ0_getBytes_840e7_5 : decode cJ0_getBytes_840e7 5 = .ok (.if_icmp .ne 23, 3) := dqo_160 0 23 (by decide) (kb_of ke_J0_getBytes_840e7 5 rfl) (kb_of ke_J0_getBytes_840e7 6 rfl) (kb_of ke_J0_getBytes_840e7 7 rfl)
theorem dJ0_getBytes_840e7_8 : decode cJ0_getBytes_840e7 8 = .ok (.aload_n 0, 1) := dqo_42 (kb_of ke_J0_getBytes_840e7 8 rfl)
theorem dJ0_getBytes_840e7_9 : decode cJ0_getBytes_840e7 9 = .ok (.getfield 9, 3) := dqo_180 0 9 (kb_of ke_J0_getBytes_840e7 9 rfl) (kb_of ke_J0_getBytes_840e7 10 rfl) (kb_of ke_J0_getBytes_840e7 11 rfl)
theorem dJ0_getBytes_840e7_12 : decode cJ0_getBytes_840e7 12 = .ok (.iconst 0, 1) := dqo_3 (kb_of ke_J0_getBytes_840e7 12 rfl)
theorem dJ0_getBytes_840e7_13 : decode cJ0_getBytes_840e7 13 = .ok (.aload_n 1, 1) := dqo_43 (kb_of ke_J0_getBytes_840e7 13 rfl)
theorem dJ0_getBytes_840e7_14 : decode cJ0_getBytes_840e7 14 = .ok (.iload_n 2, 1) := dqo_28 (kb_of ke_J0_getBytes_840e7 14 rfl)
theorem dJ0_getBytes_840e7_15 : decode cJ0_getBytes_840e7 15 = .ok (.iload_n 3, 1) := dqo_29 (kb_of ke_J0_getBytes_840e7 15 rfl)
theorem dJ0_getBytes_840e7_16 : decode cJ0_getBytes_840e7 16 = .ok (.ishl, 1) := dqo_120 (kb_of ke_J0_getBytes_840e7 16 rfl)
theorem dJ0_getBytes_840e7_17 : decode cJ0_getBytes_840e7 17 = .ok (.aload_n 0, 1) := dqo_42 (kb_of ke_J0_getBytes_840e7 17 rfl)
theorem dJ0_getBytes_840e7_18 : decode cJ0_getBytes_840e7 18 = .ok (.getfield 9, 3) := dqo_180 0 9 (kb_of ke_J0_getBytes_840e7 18 rfl) (kb_of ke_J0_getBytes_840e7 19 rfl) (kb_of ke_J0_getBytes_840e7 20 rfl)
theorem dJ0_getBytes_840e7_21 : decode cJ0_getBytes_840e7 21 = .ok (.arraylength, 1) := dqo_190 (kb_of ke_J0_getBytes_840e7 21 rfl)
theorem dJ0_getBytes_840e7_22 : decode cJ0_getBytes_840e7 22 = .ok (.invokestatic 212, 3) := dqo_184 0 212 (kb_of ke_J0_getBytes_840e7 22 rfl) (kb_of ke_J0_getBytes_840e7 23 rfl) (kb_of ke_J0_getBytes_840e7 24 rfl)
theorem dJ0_getBytes_840e7_25 : decode cJ0_getBytes_840e7 25 = .ok (.goto 18, 3) := dqo_167 0 18 (by decide) (kb_of ke_J0_getBytes_840e7 25 rfl) (kb_of ke_J0_getBytes_840e7 26 rfl) (kb_of ke_J0_getBytes_840e7 27 rfl)
theorem dJ0_getBytes_840e7_43 : decode cJ0_getBytes_840e7 43 = .ok (.return_, 1) := dqo_177 (kb_of ke_J0_getBytes_840e7 43 rfl)
set_option maxRecDepth 100000 in
set_option maxHeartbeats 400000 in
theorem C_getBytes_K {l : Launch} {D : va_G} {cy : Nat → ClassId} {X : (Nat → Prop) → State → Heap → Prop} {aK aV : Nat → Nat} {tO tT : Nat} {gO gT : Nat → Int32} {U E : va_W} {v : Nat} {m : Nat} {g : Nat → Int32} {dp : Nat} {tl : List Int32} {i : Nat} (hX : EnvS X cy aK aV tO tT gO gT) (hi : i < KSN.length) (hdp : dp + KSN.getD i 0 ≤ m) (hm : m < 536870912) (hf : TXT g dp tl) : Cm l D cy X yJ0_getBytes_840e7 cJ0_getBytes_840e7 4 none (rmz 1 60) [.ref (aK i), .ref v, .int (nI dp), .int (nI 0)] (U ++ (BYO cy v m g :: E)) (fun v1 w1 => ∃ g9 : Nat → Int32, (TXT g9 (dp + KSN.getD i 0) (tl ++ KSB.getD i [])) ∧ v1 = none ∧ w1 = U ++ (BYO cy v m g9 :: E)) (fun _ => False) := by
  refine Cm.ofF [some (.ref (aK i)), some (.ref v), some (.int (nI dp)), some (.int (nI 0))] (plainFor_of_name pn_J0) rfl (Nat.le_of_ble_eq_true rfl) ?_
  intro p e s mI args below meth c A C hE hr hnt hn
  refine r_aload_n C dJ0_getBytes_840e7_0 rfl ?_
  refine c_VK (st := []) hX C hE (by first | assumption | decide) (C_coder_K (w := U ++ (BYO cy v m g :: E)) (i := i) hX (by first | assumption | decide)) pk_J0_coder_7d493 qm_J0_335 rfl rfl (Nat.le_of_ble_eq_true rfl) dJ0_getBytes_840e7_1 ⟨Nat.le_of_ble_eq_true rfl, Nat.le_of_ble_eq_true rfl⟩ ⟨by first | (simp only [rmk, rmz]; omega) | (simp only [rmk, rmz]; done) | omega, by first | (simp only [rmk, rmz]; omega) | (simp only [rmk, rmz]; done) | omega⟩ (fun v9 w9 h9 => ?_) (fun _ h9 => h9.elim)
  obtain ⟨rfl, rfl⟩ := h9
  refine r_iload_n C dJ0_getBytes_840e7_4 rfl ?_
  refine r_icN_ne (a := 0) (b := 0) (tgt := 28) C (by first | omega | (simp [up2, *]; done) | (simp [up2, *]; omega) | (simp only [up2_eq]; omega) | (split <;> omega)) (by first | omega | (simp [up2, *]; done) | (simp [up2, *]; omega) | (simp only [up2_eq]; omega) | (split <;> omega)) dJ0_getBytes_840e7_5 (by decide) (fun h5_1 => ?_) (fun h5_1 => ?_)
  · exact absurd h5_1 (by first | omega | (simp [up2, *]; done) | (simp [up2, *]; omega) | (simp only [up2_eq]; omega) | (split <;> omega))
  · skip
    refine r_aload_n C dJ0_getBytes_840e7_8 rfl ?_
    refine k_val hX C hE (by first | assumption | decide) qf_J0_9 dJ0_getBytes_840e7_9 ?_
    refine r_iconst (v := (nI 0)) C dJ0_getBytes_840e7_12 (by decide) ?_
    refine r_aload_n C dJ0_getBytes_840e7_13 rfl ?_
    refine r_iload_n C dJ0_getBytes_840e7_14 rfl ?_
    refine r_iload_n C dJ0_getBytes_840e7_15 rfl ?_
    refine t_ishl C dJ0_getBytes_840e7_16 ?_
    refine r_aload_n C dJ0_getBytes_840e7_17 rfl ?_
    refine k_val hX C hE (by first | assumption | decide) qf_J0_9 dJ0_getBytes_840e7_18 ?_
    refine k_len hX C hE (by first | assumption | decide) dJ0_getBytes_840e7_21 ?_
    refine k_bcp (st := []) hX C hE (U.length + 0) (by first | assumption | decide) qm_J0_212 (us_g rfl) (by first | omega | (simp [up2, *]; done) | (simp [up2, *]; omega) | (simp only [up2_eq]; omega) | (split <;> omega)) (by first | omega | (simp [up2, *]; done) | (simp [up2, *]; omega) | (simp only [up2_eq]; omega) | (split <;> omega)) (Nat.le_of_ble_eq_true rfl) (Nat.le_of_ble_eq_true rfl) dJ0_getBytes_840e7_22 (us_t (L' := (BYO cy v m (va_cpy (fun j => (KSB.getD i []).getD j 0) g 0 dp (KSN.getD i 0)) :: E)) rfl) ?_
    refine r_goto (tgt := 43) C dJ0_getBytes_840e7_25 (by decide) ?_
    exact r_vret C hr dJ0_getBytes_840e7_43 ⟨_, hf.cpyK hi, rfl, rfl⟩ (by first | (simp only [rmk, rmz]; omega) | (simp only [rmk, rmz]; done) | omega) (by first | (simp only [rmk, rmz]; omega) | (simp only [rmk, rmz]; done) | omega)
set_option maxRecDepth 100000 in
set_option maxHeartbeats 400000 in
theorem C_getBytes_W {l : Launch} {D : va_G} {cy : Nat → ClassId} {X : (Nat → Prop) → State → Heap → Prop} {aK aV : Nat → Nat} {tO tT : Nat} {gO gT : Nat → Int32} {U E : va_W} {v : Nat} {m : Nat} {g : Nat → Int32} {dp : Nat} {tl : List Int32} {a : Nat} {va : Nat} {h : Int32} {z : Int32} {k : Nat} {gs : Nat → Int32} {ts : List Int32} (hX : EnvS X cy aK aV tO tT gO gT) (hdp : dp + k ≤ m) (hm : m < 536870912) (hf : TXT g dp tl) (hgs : TXT gs k ts) : Cm l D cy X yJ0_getBytes_840e7 cJ0_getBytes_840e7 4 none (rmz 1 60) [.ref a, .ref v, .int (nI dp), .int (nI 0)] (U ++ (BYO cy v m g :: STO a va h z :: BYO cy va k gs :: E)) (fun v1 w1 => ∃ g9 : Nat → Int32, (TXT g9 (dp + k) (tl ++ ts)) ∧ v1 = none ∧ w1 = U ++ (BYO cy v m g9 :: STO a va h z :: BYO cy va k gs :: E)) (fun _ => False) := by
  refine Cm.ofF [some (.ref a), some (.ref v), some (.int (nI dp)), some (.int (nI 0))] (plainFor_of_name pn_J0) rfl (Nat.le_of_ble_eq_true rfl) ?_
  intro p e s mI args below meth c A C hE hr hnt hn
  refine r_aload_n C dJ0_getBytes_840e7_0 rfl ?_
  refine t_perm [BYO cy v m g, STO a va h z, BYO cy va k gs] [STO a va h z, BYO cy v m g, BYO cy va k gs] [1, 0, 2] rfl (by decide) rfl (w' := U ++ (STO a va h z :: BYO cy v m g :: BYO cy va k gs :: E)) rfl ?_
  refine c_V (st := []) hX.stb C hE (C_coder_W (U := U) (E := (BYO cy v m g :: BYO cy va k gs :: E)) (a := a) (va := va) (h := h) (z := z) hX ) pk_J0_coder_7d493 qm_J0_335 (U.length + 0) 0 rfl rfl (us_g rfl) rfl rfl (Nat.le_of_ble_eq_true rfl) dJ0_getBytes_840e7_1 ⟨Nat.le_of_ble_eq_true rfl, Nat.le_of_ble_eq_true rfl⟩ ⟨by first | (simp only [rmk, rmz]; omega) | (simp only [rmk, rmz]; done) | omega, by first | (simp only [rmk, rmz]; omega) | (simp only [rmk, rmz]; done) | omega⟩ (fun v9 w9 h9 => ?_) (fun _ h9 => h9.elim)
  obtain ⟨rfl, rfl⟩ := h9
  refine r_iload_n C dJ0_getBytes_840e7_4 rfl ?_
  refine t_perm [STO a va h z, BYO cy v m g, BYO cy va k gs] [BYO cy v m g, STO a va h z, BYO cy va k gs] [1, 0, 2] rfl (by decide) rfl (w' := U ++ (BYO cy v m g :: STO a va h z :: BYO cy va k gs :: E)) rfl ?_
  refine r_icN_ne (a := 0) (b := 0) (tgt := 28) C (by first | omega | (simp [up2, *]; done) | (simp [up2, *]; omega) | (simp only [up2_eq]; omega) | (split <;> omega)) (by first | omega | (simp [up2, *]; done) | (simp [up2, *]; omega) | (simp only [up2_eq]; omega) | (split <;> omega)) dJ0_getBytes_840e7_5 (by decide) (fun h5_1 => ?_) (fun h5_1 => ?_)
  · exact absurd h5_1 (by first | omega | (simp [up2, *]; done) | (simp [up2, *]; omega) | (simp only [up2_eq]; omega) | (split <;> omega))
  · skip
    refine r_aload_n C dJ0_getBytes_840e7_8 rfl ?_
    refine t_stg C 1 0 rfl (by decide) qf_J0_9 rfl rfl dJ0_getBytes_840e7_9 ?_
    refine r_iconst (v := (nI 0)) C dJ0_getBytes_840e7_12 (by decide) ?_
    refine r_aload_n C dJ0_getBytes_840e7_13 rfl ?_
    refine r_iload_n C dJ0_getBytes_840e7_14 rfl ?_
    refine r_iload_n C dJ0_getBytes_840e7_15 rfl ?_
    refine t_ishl C dJ0_getBytes_840e7_16 ?_
    refine r_aload_n C dJ0_getBytes_840e7_17 rfl ?_
    refine t_stg C 1 0 rfl (by decide) qf_J0_9 rfl rfl dJ0_getBytes_840e7_18 ?_
    refine t_blen C 2 rfl dJ0_getBytes_840e7_21 ?_
    refine t_bcp (st := []) (sp := 0) (dp := dp) (n := k) C 2 0 qm_J0_212 rfl rfl hgs.1 (by first | omega | (simp [up2, *]; done) | (simp [up2, *]; omega) | (simp only [up2_eq]; omega) | (split <;> omega)) (by first | omega | (simp [up2, *]; done) | (simp [up2, *]; omega) | (simp only [up2_eq]; omega) | (split <;> omega)) (by first | omega | (simp [up2, *]; done) | (simp [up2, *]; omega) | (simp only [up2_eq]; omega) | (split <;> omega)) (by first | omega | (simp [up2, *]; done) | (simp [up2, *]; omega) | (simp only [up2_eq]; omega) | (split <;> omega)) (Nat.le_of_ble_eq_true rfl) (Nat.le_of_ble_eq_true rfl) dJ0_getBytes_840e7_22 (L' := (BYO cy v m (va_cpy gs g 0 dp k) :: STO a va h z :: BYO cy va k gs :: E)) rfl ?_
    refine r_goto (tgt := 43) C dJ0_getBytes_840e7_25 (by decide) ?_
    exact r_vret C hr dJ0_getBytes_840e7_43 ⟨_, hf.cpyW hgs, rfl, rfl⟩ (by first | (simp only [rmk, rmz]; omega) | (simp only [rmk, rmz]; done) | omega) (by first | (simp only [rmk, rmz]; omega) | (simp only [rmk, rmz]; done) | omega)
theorem dJ5_inflateIfNeededFor_a7421_0 : decode cJ5_inflateIfNeededFor_a7421 0 = .ok (.getstatic 18, 3) := dqo_178 0 18 (kb_of ke_J5_inflateIfNeededFor_a7421 0 rfl) (kb_of ke_J5_inflateIfNeededFor_a7421 1 rfl) (kb_of ke_J5_inflateIfNeededFor_a7421 2 rfl)
theorem dJ5_inflateIfNeededFor_a7421_3 : decode cJ5_inflateIfNeededFor_a7421 3 = .ok (.ifCond .eq 18, 3) := dqo_153 0 18 (by decide) (kb_of ke_J5_inflateIfNeededFor_a7421 3 rfl) (kb_of ke_J5_inflateIfNeededFor_a7421 4 rfl) (kb_of ke_J5_inflateIfNeededFor_a7421 5 rfl)
theorem dJ5_inflateIfNeededFor_a7421_6 : decode cJ5_inflateIfNeededFor_a7421 6 = .ok (.aload_n 0, 1) := dqo_42 (kb_of ke_J5_inflateIfNeededFor_a7421 6 rfl)
theorem dJ5_inflateIfNeededFor_a7421_7 : decode cJ5_inflateIfNeededFor_a7421 7 = .ok (.getfield 22, 3) := dqo_180 0 22 (kb_of ke_J5_inflateIfNeededFor_a7421 7 rfl) (kb_of ke_J5_inflateIfNeededFor_a7421 8 rfl) (kb_of ke_J5_inflateIfNeededFor_a7421 9 rfl)
theorem dJ5_inflateIfNeededFor_a7421_10 : decode cJ5_inflateIfNeededFor_a7421 10 = .ok (.aload_n 1, 1) := dqo_43 (kb_of ke_J5_inflateIfNeededFor_a7421 10 rfl)
theorem dJ5_inflateIfNeededFor_a7421_11 : decode cJ5_inflateIfNeededFor_a7421 11 = .ok (.invokevirtual 40, 3) := dqo_182 0 40 (kb_of ke_J5_inflateIfNeededFor_a7421 11 rfl) (kb_of ke_J5_inflateIfNeededFor_a7421 12 rfl) (kb_of ke_J5_inflateIfNeededFor_a7421 13 rfl)
theorem dJ5_inflateIfNeededFor_a7421_14 : decode cJ5_inflateIfNeededFor_a7421 14 = .ok (.if_icmp .eq 7, 3) := dqo_159 0 7 (by decide) (kb_of ke_J5_inflateIfNeededFor_a7421 14 rfl) (kb_of ke_J5_inflateIfNeededFor_a7421 15 rfl) (kb_of ke_J5_inflateIfNeededFor_a7421 16 rfl)
theorem dJ5_inflateIfNeededFor_a7421_21 : decode cJ5_inflateIfNeededFor_a7421 21 = .ok (.return_, 1) := dqo_177 (kb_of ke_J5_inflateIfNeededFor_a7421 21 rfl)
set_option maxRecDepth 100000 in
set_option maxHeartbeats 400000 in
theorem C_infl_K {l : Launch} {D : va_G} {cy : Nat → ClassId} {X : (Nat → Prop) → State → Heap → Prop} {aK aV : Nat → Nat} {tO tT : Nat} {gO gT : Nat → Int32} {U E : va_W} {b : Nat} {v : Nat} {n : Nat} {ml : Int32} {i : Nat} (hX : EnvS X cy aK aV tO tT gO gT) (hi : i < KSN.length) : Cm l D cy X yJ5_inflateIfNeededFor_a7421 cJ5_inflateIfNeededFor_a7421 2 none (rmz 1 40) [.ref b, .ref (aK i)] (U ++ (SBO b v ml n :: E)) (fun v1 w1 => v1 = none ∧ w1 = U ++ (SBO b v ml n :: E)) (fun _ => False) := by
  refine Cm.ofF [some (.ref b), some (.ref (aK i))] (plainFor_of_name pn_J5) rfl (Nat.le_of_ble_eq_true rfl) ?_
  intro p e s mI args below meth c A C hE hr hnt hn
  refine j_cs hX C hE qf_J5_18 dJ5_inflateIfNeededFor_a7421_0 ?_
  refine r_ifN_eq (a := 1) (tgt := 21) C (by first | omega | (simp [up2, *]; done) | (simp [up2, *]; omega) | (simp only [up2_eq]; omega) | (split <;> omega)) dJ5_inflateIfNeededFor_a7421_3 (by decide) (fun h3_1 => ?_) (fun h3_1 => ?_)
  · exact absurd h3_1 (by first | omega | (simp [up2, *]; done) | (simp [up2, *]; omega) | (simp only [up2_eq]; omega) | (split <;> omega))
  · skip
    refine r_aload_n C dJ5_inflateIfNeededFor_a7421_6 rfl ?_
    refine t_sbg C 0 1 rfl (by decide) qf_J5_22 rfl rfl dJ5_inflateIfNeededFor_a7421_7 ?_
    refine r_aload_n C dJ5_inflateIfNeededFor_a7421_10 rfl ?_
    refine c_VK (st := [.int (nI 0)]) hX C hE (by first | assumption | decide) (C_coder_K (w := U ++ (SBO b v ml n :: E)) (i := i) hX (by first | assumption | decide)) pk_J0_coder_7d493 qm_J5_40 rfl rfl (Nat.le_of_ble_eq_true rfl) dJ5_inflateIfNeededFor_a7421_11 ⟨Nat.le_of_ble_eq_true rfl, Nat.le_of_ble_eq_true rfl⟩ ⟨by first | (simp only [rmk, rmz]; omega) | (simp only [rmk, rmz]; done) | omega, by first | (simp only [rmk, rmz]; omega) | (simp only [rmk, rmz]; done) | omega⟩ (fun v9 w9 h9 => ?_) (fun _ h9 => h9.elim)
    obtain ⟨rfl, rfl⟩ := h9
    refine r_icN_eq (a := 0) (b := 0) (tgt := 21) C (by first | omega | (simp [up2, *]; done) | (simp [up2, *]; omega) | (simp only [up2_eq]; omega) | (split <;> omega)) (by first | omega | (simp [up2, *]; done) | (simp [up2, *]; omega) | (simp only [up2_eq]; omega) | (split <;> omega)) dJ5_inflateIfNeededFor_a7421_14 (by decide) (fun h14_2 => ?_) (fun h14_2 => ?_)
    · skip
      exact r_vret C hr dJ5_inflateIfNeededFor_a7421_21 ⟨rfl, rfl⟩ (by first | (simp only [rmk, rmz]; omega) | (simp only [rmk, rmz]; done) | omega) (by first | (simp only [rmk, rmz]; omega) | (simp only [rmk, rmz]; done) | omega)
    · exact absurd h14_2 (by first | omega | (simp [up2, *]; done) | (simp [up2, *]; omega) | (simp only [up2_eq]; omega) | (split <;> omega))
set_option maxRecDepth 100000 in
set_option maxHeartbeats 400000 in
theorem C_infl_W {l : Launch} {D : va_G} {cy : Nat → ClassId} {X : (Nat → Prop) → State → Heap → Prop} {aK aV : Nat → Nat} {tO tT : Nat} {gO gT : Nat → Int32} {U E : va_W} {b : Nat} {v : Nat} {n : Nat} {ml : Int32} {a : Nat} {va : Nat} {h : Int32} {z : Int32} (hX : EnvS X cy aK aV tO tT gO gT)  : Cm l D cy X yJ5_inflateIfNeededFor_a7421 cJ5_inflateIfNeededFor_a7421 2 none (rmz 1 40) [.ref b, .ref a] (U ++ (SBO b v ml n :: STO a va h z :: E)) (fun v1 w1 => v1 = none ∧ w1 = U ++ (SBO b v ml n :: STO a va h z :: E)) (fun _ => False) := by
  refine Cm.ofF [some (.ref b), some (.ref a)] (plainFor_of_name pn_J5) rfl (Nat.le_of_ble_eq_true rfl) ?_
  intro p e s mI args below meth c A C hE hr hnt hn
  refine j_cs hX C hE qf_J5_18 dJ5_inflateIfNeededFor_a7421_0 ?_
  refine r_ifN_eq (a := 1) (tgt := 21) C (by first | omega | (simp [up2, *]; done) | (simp [up2, *]; omega) | (simp only [up2_eq]; omega) | (split <;> omega)) dJ5_inflateIfNeededFor_a7421_3 (by decide) (fun h3_1 => ?_) (fun h3_1 => ?_)
  · exact absurd h3_1 (by first | omega | (simp [up2, *]; done) | (simp [up2, *]; omega) | (simp only [up2_eq]; omega) | (split <;> omega))
  · skip
    refine r_aload_n C dJ5_inflateIfNeededFor_a7421_6 rfl ?_
    refine t_sbg C 0 1 rfl (by decide) qf_J5_22 rfl rfl dJ5_inflateIfNeededFor_a7421_7 ?_
    refine r_aload_n C dJ5_inflateIfNeededFor_a7421_10 rfl ?_
    refine t_perm [SBO b v ml n, STO a va h z] [STO a va h z, SBO b v ml n] [1, 0] rfl (by decide) rfl (w' := U ++ (STO a va h z :: SBO b v ml n :: E)) rfl ?_
    refine c_V (st := [.int (nI 0)]) hX.stb C hE (C_coder_W (U := U) (E := (SBO b v ml n :: E)) (a := a) (va := va) (h := h) (z := z) hX ) pk_J0_coder_7d493 qm_J5_40 (U.length + 0) 0 rfl rfl (us_g rfl) rfl rfl (Nat.le_of_ble_eq_true rfl) dJ5_inflateIfNeededFor_a7421_11 ⟨Nat.le_of_ble_eq_true rfl, Nat.le_of_ble_eq_true rfl⟩ ⟨by first | (simp only [rmk, rmz]; omega) | (simp only [rmk, rmz]; done) | omega, by first | (simp only [rmk, rmz]; omega) | (simp only [rmk, rmz]; done) | omega⟩ (fun v9 w9 h9 => ?_) (fun _ h9 => h9.elim)
    obtain ⟨rfl, rfl⟩ := h9
    refine t_perm [STO a va h z, SBO b v ml n] [SBO b v ml n, STO a va h z] [1, 0] rfl (by decide) rfl (w' := U ++ (SBO b v ml n :: STO a va h z :: E)) rfl ?_
    refine r_icN_eq (a := 0) (b := 0) (tgt := 21) C (by first | omega | (simp [up2, *]; done) | (simp [up2, *]; omega) | (simp only [up2_eq]; omega) | (split <;> omega)) (by first | omega | (simp [up2, *]; done) | (simp [up2, *]; omega) | (simp only [up2_eq]; omega) | (split <;> omega)) dJ5_inflateIfNeededFor_a7421_14 (by decide) (fun h14_2 => ?_) (fun h14_2 => ?_)
    · skip
      exact r_vret C hr dJ5_inflateIfNeededFor_a7421_21 ⟨rfl, rfl⟩ (by first | (simp only [rmk, rmz]; omega) | (simp only [rmk, rmz]; done) | omega) (by first | (simp only [rmk, rmz]; omega) | (simp only [rmk, rmz]; done) | omega)
    · exact absurd h14_2 (by first | omega | (simp [up2, *]; done) | (simp [up2, *]; omega) | (simp only [up2_eq]; omega) | (split <;> omega))
theorem dJ5_putStringAt_47b60_0 : decode cJ5_putStringAt_47b60 0 = .ok (.aload_n 0, 1) := dqo_42 (kb_of ke_J5_putStringAt_47b60 0 rfl)
theorem dJ5_putStringAt_47b60_1 : decode cJ5_putStringAt_47b60 1 = .ok (.aload_n 2, 1) := dqo_44 (kb_of ke_J5_putStringAt_47b60 1 rfl)
theorem dJ5_putStringAt_47b60_2 : decode cJ5_putStringAt_47b60 2 = .ok (.invokevirtual 397, 3) := dqo_182 1 141 (kb_of ke_J5_putStringAt_47b60 2 rfl) (kb_of ke_J5_putStringAt_47b60 3 rfl) (kb_of ke_J5_putStringAt_47b60 4 rfl)
theorem dJ5_putStringAt_47b60_5 : decode cJ5_putStringAt_47b60 5 = .ok (.aload_n 2, 1) := dqo_44 (kb_of ke_J5_putStringAt_47b60 5 rfl)
theorem dJ5_putStringAt_47b60_6 : decode cJ5_putStringAt_47b60 6 = .ok (.aload_n 0, 1) := dqo_42 (kb_of ke_J5_putStringAt_47b60 6 rfl)
theorem dJ5_putStringAt_47b60_7 : decode cJ5_putStringAt_47b60 7 = .ok (.getfield 15, 3) := dqo_180 0 15 (kb_of ke_J5_putStringAt_47b60 7 rfl) (kb_of ke_J5_putStringAt_47b60 8 rfl) (kb_of ke_J5_putStringAt_47b60 9 rfl)
theorem dJ5_putStringAt_47b60_10 : decode cJ5_putStringAt_47b60 10 = .ok (.iload_n 1, 1) := dqo_27 (kb_of ke_J5_putStringAt_47b60 10 rfl)
theorem dJ5_putStringAt_47b60_11 : decode cJ5_putStringAt_47b60 11 = .ok (.aload_n 0, 1) := dqo_42 (kb_of ke_J5_putStringAt_47b60 11 rfl)
theorem dJ5_putStringAt_47b60_12 : decode cJ5_putStringAt_47b60 12 = .ok (.getfield 22, 3) := dqo_180 0 22 (kb_of ke_J5_putStringAt_47b60 12 rfl) (kb_of ke_J5_putStringAt_47b60 13 rfl) (kb_of ke_J5_putStringAt_47b60 14 rfl)
theorem dJ5_putStringAt_47b60_15 : decode cJ5_putStringAt_47b60 15 = .ok (.invokevirtual 399, 3) := dqo_182 1 143 (kb_of ke_J5_putStringAt_47b60 15 rfl) (kb_of ke_J5_putStringAt_47b60 16 rfl) (kb_of ke_J5_putStringAt_47b60 17 rfl)
theorem dJ5_putStringAt_47b60_18 : decode cJ5_putStringAt_47b60 18 = .ok (.return_, 1) := dqo_177 (kb_of ke_J5_putStringAt_47b60 18 rfl)
theorem pk_J0_getBytes_840e7 : PkV RJ0 yJ0_getBytes_840e7 cJ0_getBytes_840e7 4 none 3 := ⟨⟨qi_J0_getBytes_840e7, qs_J0_getBytes_840e7, qz_J0, qc_J0_getBytes_840e7⟩, rfl, mh_J0.1, mh_J0.2, pd_32⟩
theorem pk_J5_inflateIfNeededFor_a7421 : PkU yJ5_inflateIfNeededFor_a7421 cJ5_inflateIfNeededFor_a7421 2 none 1 := ⟨⟨qe_J5_inflateIfNeededFor_a7421, qi_J5_inflateIfNeededFor_a7421, qc_J5_inflateIfNeededFor_a7421⟩, Or.inr qr_J5_inflateIfNeededFor_a7421, by decide +kernel⟩
set_option maxRecDepth 100000 in
set_option maxHeartbeats 400000 in
theorem C_putStr_K {l : Launch} {D : va_G} {cy : Nat → ClassId} {X : (Nat → Prop) → State → Heap → Prop} {aK aV : Nat → Nat} {tO tT : Nat} {gO gT : Nat → Int32} {U E : va_W} {b : Nat} {v : Nat} {m : Nat} {n : Nat} {g : Nat → Int32} {ml : Int32} {tl : List Int32} {dp : Nat} {i : Nat} (hX : EnvS X cy aK aV tO tT gO gT) (hi : i < KSN.length) (hdp : dp + KSN.getD i 0 ≤ m) (hm : m < 536870912) (hf : TXT g dp tl) : Cm l D cy X yJ5_putStringAt_47b60 cJ5_putStringAt_47b60 3 none (rmz 2 100) [.ref b, .int (nI dp), .ref (aK i)] (U ++ (SBO b v ml n :: BYO cy v m g :: E)) (fun v1 w1 => ∃ g9 : Nat → Int32, (TXT g9 (dp + KSN.getD i 0) (tl ++ KSB.getD i [])) ∧ v1 = none ∧ w1 = U ++ (SBO b v ml n :: BYO cy v m g9 :: E)) (fun _ => False) := by
  refine Cm.ofF [some (.ref b), some (.int (nI dp)), some (.ref (aK i))] (plainFor_of_name pn_J5) rfl (Nat.le_of_ble_eq_true rfl) ?_
  intro p e s mI args below meth c A C hE hr hnt hn
  refine r_aload_n C dJ5_putStringAt_47b60_0 rfl ?_
  refine r_aload_n C dJ5_putStringAt_47b60_1 rfl ?_
  refine c_U (st := []) hX C hE (C_infl_K (U := U) (E := (BYO cy v m g :: E)) (b := b) (v := v) (n := n) (ml := ml) (i := i) hX (by first | assumption | decide)) pk_J5_inflateIfNeededFor_a7421 qm_J5_397 (U.length + 0) (us_g rfl) rfl rfl (Nat.le_of_ble_eq_true rfl) dJ5_putStringAt_47b60_2 ⟨Nat.le_of_ble_eq_true rfl, Nat.le_of_ble_eq_true rfl⟩ ⟨by first | (simp only [rmk, rmz]; omega) | (simp only [rmk, rmz]; done) | omega, by first | (simp only [rmk, rmz]; omega) | (simp only [rmk, rmz]; done) | omega⟩ (fun v9 w9 h9 => ?_) (fun _ h9 => h9.elim)
  obtain ⟨rfl, rfl⟩ := h9
  refine r_aload_n C dJ5_putStringAt_47b60_5 rfl ?_
  refine r_aload_n C dJ5_putStringAt_47b60_6 rfl ?_
  refine t_sbg C 0 0 rfl (by decide) qf_J5_15 rfl rfl dJ5_putStringAt_47b60_7 ?_
  refine r_iload_n C dJ5_putStringAt_47b60_10 rfl ?_
  refine r_aload_n C dJ5_putStringAt_47b60_11 rfl ?_
  refine t_sbg C 0 1 rfl (by decide) qf_J5_22 rfl rfl dJ5_putStringAt_47b60_12 ?_
  refine t_perm [SBO b v ml n, BYO cy v m g] [BYO cy v m g, SBO b v ml n] [1, 0] rfl (by decide) rfl (w' := U ++ (BYO cy v m g :: SBO b v ml n :: E)) rfl ?_
  refine c_VK (st := []) hX C hE (by first | assumption | decide) (C_getBytes_K (U := U) (E := (SBO b v ml n :: E)) (v := v) (m := m) (g := g) (dp := dp) (i := i) hX (by first | assumption | decide) (by first | omega | (simp [up2, *]; done) | (simp [up2, *]; omega) | (simp only [up2_eq]; omega) | (split <;> omega)) (by first | omega | (simp [up2, *]; done) | (simp [up2, *]; omega) | (simp only [up2_eq]; omega) | (split <;> omega)) hf) pk_J0_getBytes_840e7 qm_J5_399 rfl rfl (Nat.le_of_ble_eq_true rfl) dJ5_putStringAt_47b60_15 ⟨Nat.le_of_ble_eq_true rfl, Nat.le_of_ble_eq_true rfl⟩ ⟨by first | (simp only [rmk, rmz]; omega) | (simp only [rmk, rmz]; done) | omega, by first | (simp only [rmk, rmz]; omega) | (simp only [rmk, rmz]; done) | omega⟩ (fun v9 w9 h9 => ?_) (fun _ h9 => h9.elim)
  obtain ⟨g9_1, f_2, rfl, rfl⟩ := h9
  refine t_perm [BYO cy v m g9_1, SBO b v ml n] [SBO b v ml n, BYO cy v m g9_1] [1, 0] rfl (by decide) rfl (w' := U ++ (SBO b v ml n :: BYO cy v m g9_1 :: E)) rfl ?_
  exact r_vret C hr dJ5_putStringAt_47b60_18 ⟨g9_1, f_2, rfl, rfl⟩ (by first | (simp only [rmk, rmz]; omega) | (simp only [rmk, rmz]; done) | omega) (by first | (simp only [rmk, rmz]; omega) | (simp only [rmk, rmz]; done) | omega)
set_option maxRecDepth 100000 in
set_option maxHeartbeats 400000 in
theorem C_putStr_W {l : Launch} {D : va_G} {cy : Nat → ClassId} {X : (Nat → Prop) → State → Heap → Prop} {aK aV : Nat → Nat} {tO tT : Nat} {gO gT : Nat → Int32} {U E : va_W} {b : Nat} {v : Nat} {m : Nat} {n : Nat} {g : Nat → Int32} {ml : Int32} {tl : List Int32} {dp : Nat} {a : Nat} {va : Nat} {h : Int32} {z : Int32} {k : Nat} {gs : Nat → Int32} {ts : List Int32} (hX : EnvS X cy aK aV tO tT gO gT) (hdp : dp + k ≤ m) (hm : m < 536870912) (hf : TXT g dp tl) (hgs : TXT gs k ts) : Cm l D cy X yJ5_putStringAt_47b60 cJ5_putStringAt_47b60 3 none (rmz 2 100) [.ref b, .int (nI dp), .ref a] (U ++ (SBO b v ml n :: BYO cy v m g :: STO a va h z :: BYO cy va k gs :: E)) (fun v1 w1 => ∃ g9 : Nat → Int32, (TXT g9 (dp + k) (tl ++ ts)) ∧ v1 = none ∧ w1 = U ++ (SBO b v ml n :: BYO cy v m g9 :: STO a va h z :: BYO cy va k gs :: E)) (fun _ => False) := by
  refine Cm.ofF [some (.ref b), some (.int (nI dp)), some (.ref a)] (plainFor_of_name pn_J5) rfl (Nat.le_of_ble_eq_true rfl) ?_
  intro p e s mI args below meth c A C hE hr hnt hn
  refine r_aload_n C dJ5_putStringAt_47b60_0 rfl ?_
  refine r_aload_n C dJ5_putStringAt_47b60_1 rfl ?_
  refine t_perm [SBO b v ml n, BYO cy v m g, STO a va h z, BYO cy va k gs] [SBO b v ml n, STO a va h z, BYO cy v m g, BYO cy va k gs] [0, 2, 1, 3] rfl (by decide) rfl (w' := U ++ (SBO b v ml n :: STO a va h z :: BYO cy v m g :: BYO cy va k gs :: E)) rfl ?_
  refine c_U (st := []) hX C hE (C_infl_W (U := U) (E := (BYO cy v m g :: BYO cy va k gs :: E)) (b := b) (v := v) (n := n) (ml := ml) (a := a) (va := va) (h := h) (z := z) hX ) pk_J5_inflateIfNeededFor_a7421 qm_J5_397 (U.length + 0) (us_g rfl) rfl rfl (Nat.le_of_ble_eq_true rfl) dJ5_putStringAt_47b60_2 ⟨Nat.le_of_ble_eq_true rfl, Nat.le_of_ble_eq_true rfl⟩ ⟨by first | (simp only [rmk, rmz]; omega) | (simp only [rmk, rmz]; done) | omega, by first | (simp only [rmk, rmz]; omega) | (simp only [rmk, rmz]; done) | omega⟩ (fun v9 w9 h9 => ?_) (fun _ h9 => h9.elim)
  obtain ⟨rfl, rfl⟩ := h9
  refine r_aload_n C dJ5_putStringAt_47b60_5 rfl ?_
  refine r_aload_n C dJ5_putStringAt_47b60_6 rfl ?_
  refine t_sbg C 0 0 rfl (by decide) qf_J5_15 rfl rfl dJ5_putStringAt_47b60_7 ?_
  refine r_iload_n C dJ5_putStringAt_47b60_10 rfl ?_
  refine r_aload_n C dJ5_putStringAt_47b60_11 rfl ?_
  refine t_sbg C 0 1 rfl (by decide) qf_J5_22 rfl rfl dJ5_putStringAt_47b60_12 ?_
  refine t_perm [SBO b v ml n, STO a va h z, BYO cy v m g, BYO cy va k gs] [BYO cy v m g, STO a va h z, BYO cy va k gs, SBO b v ml n] [2, 1, 3, 0] rfl (by decide) rfl (w' := U ++ (BYO cy v m g :: STO a va h z :: BYO cy va k gs :: SBO b v ml n :: E)) rfl ?_
  refine c_V (st := []) hX.stb C hE (C_getBytes_W (U := U) (E := (SBO b v ml n :: E)) (v := v) (m := m) (g := g) (dp := dp) (a := a) (va := va) (h := h) (z := z) (k := k) (gs := gs) hX (by first | omega | (simp [up2, *]; done) | (simp [up2, *]; omega) | (simp only [up2_eq]; omega) | (split <;> omega)) (by first | omega | (simp [up2, *]; done) | (simp [up2, *]; omega) | (simp only [up2_eq]; omega) | (split <;> omega)) hf hgs) pk_J0_getBytes_840e7 qm_J5_399 (U.length + 1) 0 rfl rfl (us_g rfl) rfl rfl (Nat.le_of_ble_eq_true rfl) dJ5_putStringAt_47b60_15 ⟨Nat.le_of_ble_eq_true rfl, Nat.le_of_ble_eq_true rfl⟩ ⟨by first | (simp only [rmk, rmz]; omega) | (simp only [rmk, rmz]; done) | omega, by first | (simp only [rmk, rmz]; omega) | (simp only [rmk, rmz]; done) | omega⟩ (fun v9 w9 h9 => ?_) (fun _ h9 => h9.elim)
  obtain ⟨g9_1, f_2, rfl, rfl⟩ := h9
  refine t_perm [BYO cy v m g9_1, STO a va h z, BYO cy va k gs, SBO b v ml n] [SBO b v ml n, BYO cy v m g9_1, STO a va h z, BYO cy va k gs] [3, 0, 1, 2] rfl (by decide) rfl (w' := U ++ (SBO b v ml n :: BYO cy v m g9_1 :: STO a va h z :: BYO cy va k gs :: E)) rfl ?_
  exact r_vret C hr dJ5_putStringAt_47b60_18 ⟨g9_1, f_2, rfl, rfl⟩ (by first | (simp only [rmk, rmz]; omega) | (simp only [rmk, rmz]; done) | omega) (by first | (simp only [rmk, rmz]; omega) | (simp only [rmk, rmz]; done) | omega)
theorem dJ5_append_cf1ce_0 : decode cJ5_append_cf1ce 0 = .ok (.aload_n 1, 1) := dqo_43 (kb_of ke_J5_append_cf1ce 0 rfl)
theorem dJ5_append_cf1ce_1 : decode cJ5_append_cf1ce 1 = .ok (.ifnonnull 8, 3) := dqo_199 0 8 (by decide) (kb_of ke_J5_append_cf1ce 1 rfl) (kb_of ke_J5_append_cf1ce 2 rfl) (kb_of ke_J5_append_cf1ce 3 rfl)
theorem dJ5_append_cf1ce_9 : decode cJ5_append_cf1ce 9 = .ok (.aload_n 1, 1) := dqo_43 (kb_of ke_J5_append_cf1ce 9 rfl)
theorem dJ5_append_cf1ce_10 : decode cJ5_append_cf1ce 10 = .ok (.invokevirtual 32, 3) := dqo_182 0 32 (kb_of ke_J5_append_cf1ce 10 rfl) (kb_of ke_J5_append_cf1ce 11 rfl) (kb_of ke_J5_append_cf1ce 12 rfl)
theorem dJ5_append_cf1ce_13 : decode cJ5_append_cf1ce 13 = .ok (.istore_n 2, 1) := dqo_61 (kb_of ke_J5_append_cf1ce 13 rfl)
theorem dJ5_append_cf1ce_14 : decode cJ5_append_cf1ce 14 = .ok (.aload_n 0, 1) := dqo_42 (kb_of ke_J5_append_cf1ce 14 rfl)
theorem dJ5_append_cf1ce_15 : decode cJ5_append_cf1ce 15 = .ok (.aload_n 0, 1) := dqo_42 (kb_of ke_J5_append_cf1ce 15 rfl)
theorem dJ5_append_cf1ce_16 : decode cJ5_append_cf1ce 16 = .ok (.getfield 79, 3) := dqo_180 0 79 (kb_of ke_J5_append_cf1ce 16 rfl) (kb_of ke_J5_append_cf1ce 17 rfl) (kb_of ke_J5_append_cf1ce 18 rfl)
theorem dJ5_append_cf1ce_19 : decode cJ5_append_cf1ce 19 = .ok (.iload_n 2, 1) := dqo_28 (kb_of ke_J5_append_cf1ce 19 rfl)
theorem dJ5_append_cf1ce_20 : decode cJ5_append_cf1ce 20 = .ok (.iadd, 1) := dqo_96 (kb_of ke_J5_append_cf1ce 20 rfl)
theorem dJ5_append_cf1ce_21 : decode cJ5_append_cf1ce 21 = .ok (.invokevirtual 100, 3) := dqo_182 0 100 (kb_of ke_J5_append_cf1ce 21 rfl) (kb_of ke_J5_append_cf1ce 22 rfl) (kb_of ke_J5_append_cf1ce 23 rfl)
theorem dJ5_append_cf1ce_24 : decode cJ5_append_cf1ce 24 = .ok (.aload_n 0, 1) := dqo_42 (kb_of ke_J5_append_cf1ce 24 rfl)
theorem dJ5_append_cf1ce_25 : decode cJ5_append_cf1ce 25 = .ok (.aload_n 0, 1) := dqo_42 (kb_of ke_J5_append_cf1ce 25 rfl)
theorem dJ5_append_cf1ce_26 : decode cJ5_append_cf1ce 26 = .ok (.getfield 79, 3) := dqo_180 0 79 (kb_of ke_J5_append_cf1ce 26 rfl) (kb_of ke_J5_append_cf1ce 27 rfl) (kb_of ke_J5_append_cf1ce 28 rfl)
theorem dJ5_append_cf1ce_29 : decode cJ5_append_cf1ce 29 = .ok (.aload_n 1, 1) := dqo_43 (kb_of ke_J5_append_cf1ce 29 rfl)
theorem dJ5_append_cf1ce_30 : decode cJ5_append_cf1ce 30 = .ok (.invokevirtual 208, 3) := dqo_182 0 208 (kb_of ke_J5_append_cf1ce 30 rfl) (kb_of ke_J5_append_cf1ce 31 rfl) (kb_of ke_J5_append_cf1ce 32 rfl)
theorem dJ5_append_cf1ce_33 : decode cJ5_append_cf1ce 33 = .ok (.aload_n 0, 1) := dqo_42 (kb_of ke_J5_append_cf1ce 33 rfl)
theorem dJ5_append_cf1ce_34 : decode cJ5_append_cf1ce 34 = .ok (.dup, 1) := dqo_89 (kb_of ke_J5_append_cf1ce 34 rfl)
theorem dJ5_append_cf1ce_35 : decode cJ5_append_cf1ce 35 = .ok (.getfield 79, 3) := dqo_180 0 79 (kb_of ke_J5_append_cf1ce 35 rfl) (kb_of ke_J5_append_cf1ce 36 rfl) (kb_of ke_J5_append_cf1ce 37 rfl)
theorem dJ5_append_cf1ce_38 : decode cJ5_append_cf1ce 38 = .ok (.iload_n 2, 1) := dqo_28 (kb_of ke_J5_append_cf1ce 38 rfl)
theorem dJ5_append_cf1ce_39 : decode cJ5_append_cf1ce 39 = .ok (.iadd, 1) := dqo_96 (kb_of ke_J5_append_cf1ce 39 rfl)
theorem dJ5_append_cf1ce_40 : decode cJ5_append_cf1ce 40 = .ok (.putfield 79, 3) := dqo_181 0 79 (kb_of ke_J5_append_cf1ce 40 rfl) (kb_of ke_J5_append_cf1ce 41 rfl) (kb_of ke_J5_append_cf1ce 42 rfl)
theorem dJ5_append_cf1ce_43 : decode cJ5_append_cf1ce 43 = .ok (.aload_n 0, 1) := dqo_42 (kb_of ke_J5_append_cf1ce 43 rfl)
theorem dJ5_append_cf1ce_44 : decode cJ5_append_cf1ce 44 = .ok (.areturn, 1) := dqo_176 (kb_of ke_J5_append_cf1ce 44 rfl)
theorem pk_J0_length_8abf5 : PkV RJ0 yJ0_length_8abf5 cJ0_length_8abf5 1 (some .int) 0 := ⟨⟨qi_J0_length_8abf5, qs_J0_length_8abf5, qz_J0, qc_J0_length_8abf5⟩, rfl, mh_J0.1, mh_J0.2, pd_10⟩
theorem pk_J5_putStringAt_47b60 : PkU yJ5_putStringAt_47b60 cJ5_putStringAt_47b60 3 none 2 := ⟨⟨qe_J5_putStringAt_47b60, qi_J5_putStringAt_47b60, qc_J5_putStringAt_47b60⟩, Or.inr qr_J5_putStringAt_47b60, by decide +kernel⟩
set_option maxRecDepth 100000 in
set_option maxHeartbeats 400000 in
theorem C_asbStr_K {l : Launch} {D : va_G} {cy : Nat → ClassId} {X : (Nat → Prop) → State → Heap → Prop} {aK aV : Nat → Nat} {tO tT : Nat} {gO gT : Nat → Int32} {U E : va_W} {b : Nat} {v : Nat} {m : Nat} {n : Nat} {g : Nat → Int32} {ml : Int32} {tl : List Int32} {i : Nat} (hX : EnvS X cy aK aV tO tT gO gT) (hm : m ≤ 65536) (hnm : n ≤ m) (hf : TXT g n tl) (hi : i < KSN.length) : Cm l D cy X yJ5_append_cf1ce cJ5_append_cf1ce 3 (some (.object "java/lang/AbstractStringBuilder")) (rmk 4 (gC (n + KSN.getD i 0) m) (gS (n + KSN.getD i 0) m) 160) [.ref b, .ref (aK i)] (U ++ (SBO b v ml n :: BYO cy v m g :: E)) (fun v1 w1 => ∃ v9 : Nat, ∃ g9 : Nat → Int32, (TXT g9 (n + KSN.getD i 0) (tl ++ KSB.getD i [])) ∧ v1 = some (.ref b) ∧ w1 = U ++ (SBO b v9 ml (n + KSN.getD i 0) :: BYO cy v9 (sb_cap (n + KSN.getD i 0) m) g9 :: E)) (fun _ => False) := by
  refine Cm.ofF [some (.ref b), some (.ref (aK i)), none] (plainFor_of_name pn_J5) rfl (Nat.le_of_ble_eq_true rfl) ?_
  intro p e s mI args below meth c A C hE hr hnt hn
  refine r_aload_n C dJ5_append_cf1ce_0 rfl ?_
  refine r_ifnonnull (tgt := 9) C dJ5_append_cf1ce_1 (by decide) ?_
  refine r_aload_n C dJ5_append_cf1ce_9 rfl ?_
  refine c_VK (st := []) hX C hE (by first | assumption | decide) (C_len_K (w := U ++ (SBO b v ml n :: BYO cy v m g :: E)) (i := i) hX (by first | assumption | decide)) pk_J0_length_8abf5 qm_J5_32 rfl rfl (Nat.le_of_ble_eq_true rfl) dJ5_append_cf1ce_10 ⟨Nat.le_of_ble_eq_true rfl, Nat.le_of_ble_eq_true rfl⟩ ⟨by first | (simp only [rmk, rmz]; omega) | (simp only [rmk, rmz]; done) | omega, by first | (simp only [rmk, rmz]; omega) | (simp only [rmk, rmz]; done) | omega⟩ (fun v9 w9 h9 => ?_) (fun _ h9 => h9.elim)
  obtain ⟨rfl, rfl⟩ := h9
  have hk := ks_lt hi
  have hcg := sb_cap_ge (n + KSN.getD i 0) m
  have hcl := cap_lt (q := n + KSN.getD i 0) hm (by omega)
  refine r_istore_n C dJ5_append_cf1ce_13 (by decide) rfl ?_
  refine r_aload_n C dJ5_append_cf1ce_14 rfl ?_
  refine r_aload_n C dJ5_append_cf1ce_15 rfl ?_
  refine t_sbg C 0 3 rfl (by decide) qf_J5_79 rfl rfl dJ5_append_cf1ce_16 ?_
  refine r_iload_n C dJ5_append_cf1ce_19 rfl ?_
  refine r_iaddN C dJ5_append_cf1ce_20 ?_
  refine c_U (st := []) hX C hE (C_ensure (U := U) (E := E) (b := b) (v := v) (m := m) (n := n) (g := g) (ml := ml) (q := (n + (KSN.getD i 0))) hX (by first | omega | (simp [up2, *]; done) | (simp [up2, *]; omega) | (simp only [up2_eq]; omega) | (split <;> omega)) (by first | omega | (simp [up2, *]; done) | (simp [up2, *]; omega) | (simp only [up2_eq]; omega) | (split <;> omega)) hf.1) pk_J5_ensureCapacityInternal_d00df qm_J5_100 (U.length + 0) (us_g rfl) rfl rfl (Nat.le_of_ble_eq_true rfl) dJ5_append_cf1ce_21 ⟨Nat.le_of_ble_eq_true rfl, Nat.le_of_ble_eq_true rfl⟩ ⟨by first | (simp only [rmk, rmz]; omega) | (simp only [rmk, rmz]; done) | omega, by first | (simp only [rmk, rmz]; omega) | (simp only [rmk, rmz]; done) | omega⟩ (fun v9 w9 h9 => ?_) (fun _ h9 => h9.elim)
  obtain ⟨v9_1, g9_2, f_3, rfl, rfl⟩ := h9
  refine r_aload_n C dJ5_append_cf1ce_24 rfl ?_
  refine r_aload_n C dJ5_append_cf1ce_25 rfl ?_
  refine t_sbg C 0 3 rfl (by decide) qf_J5_79 rfl rfl dJ5_append_cf1ce_26 ?_
  refine r_aload_n C dJ5_append_cf1ce_29 rfl ?_
  refine c_U (st := []) hX C hE (C_putStr_K (U := U) (E := E) (b := b) (v := v9_1) (m := (sb_cap (n + (KSN.getD i 0)) m)) (n := n) (g := g9_2) (ml := ml) (dp := n) (i := i) hX (by first | assumption | decide) (by omega) hcl (hf.keep f_3.1 (fun q hq => f_3.2 q (by omega)))) pk_J5_putStringAt_47b60 qm_J5_208 (U.length + 0) (us_g rfl) rfl rfl (Nat.le_of_ble_eq_true rfl) dJ5_append_cf1ce_30 ⟨Nat.le_of_ble_eq_true rfl, Nat.le_of_ble_eq_true rfl⟩ ⟨by first | (simp only [rmk, rmz]; omega) | (simp only [rmk, rmz]; done) | omega, by first | (simp only [rmk, rmz]; omega) | (simp only [rmk, rmz]; done) | omega⟩ (fun v9 w9 h9 => ?_) (fun _ h9 => h9.elim)
  obtain ⟨g9_4, f_5, rfl, rfl⟩ := h9
  refine r_aload_n C dJ5_append_cf1ce_33 rfl ?_
  refine r_dup C dJ5_append_cf1ce_34 rfl ?_
  refine t_sbg C 0 3 rfl (by decide) qf_J5_79 rfl rfl dJ5_append_cf1ce_35 ?_
  refine r_iload_n C dJ5_append_cf1ce_38 rfl ?_
  refine r_iaddN C dJ5_append_cf1ce_39 ?_
  refine t_sbp (ty := .int) C 0 3 rfl (by decide) rfl qf_J5_79 rfl rfl rfl rfl rfl dJ5_append_cf1ce_40 (L' := (SBO b v9_1 ml (n + (KSN.getD i 0)) :: BYO cy v9_1 (sb_cap (n + (KSN.getD i 0)) m) g9_4 :: E)) rfl ?_
  refine r_aload_n C dJ5_append_cf1ce_43 rfl ?_
  exact r_aret C hr (Or.inl ⟨_, rfl⟩) dJ5_append_cf1ce_44 ⟨v9_1, g9_4, f_5, rfl, rfl⟩ (by first | (simp only [rmk, rmz]; omega) | (simp only [rmk, rmz]; done) | omega) (by first | (simp only [rmk, rmz]; omega) | (simp only [rmk, rmz]; done) | omega)
set_option maxRecDepth 100000 in
set_option maxHeartbeats 400000 in
theorem C_asbStr_W {l : Launch} {D : va_G} {cy : Nat → ClassId} {X : (Nat → Prop) → State → Heap → Prop} {aK aV : Nat → Nat} {tO tT : Nat} {gO gT : Nat → Int32} {U E : va_W} {b : Nat} {v : Nat} {m : Nat} {n : Nat} {g : Nat → Int32} {ml : Int32} {tl : List Int32} {a : Nat} {va : Nat} {h : Int32} {z : Int32} {k : Nat} {gs : Nat → Int32} {ts : List Int32} (hX : EnvS X cy aK aV tO tT gO gT) (hm : m ≤ 65536) (hnm : n ≤ m) (hf : TXT g n tl) (hk : k < 1000) (hgs : TXT gs k ts) : Cm l D cy X yJ5_append_cf1ce cJ5_append_cf1ce 3 (some (.object "java/lang/AbstractStringBuilder")) (rmk 4 (gC (n + k) m) (gS (n + k) m) 160) [.ref b, .ref a] (U ++ (SBO b v ml n :: BYO cy v m g :: STO a va h z :: BYO cy va k gs :: E)) (fun v1 w1 => ∃ v9 : Nat, ∃ g9 : Nat → Int32, (TXT g9 (n + k) (tl ++ ts)) ∧ v1 = some (.ref b) ∧ w1 = U ++ (SBO b v9 ml (n + k) :: BYO cy v9 (sb_cap (n + k) m) g9 :: STO a va h z :: BYO cy va k gs :: E)) (fun _ => False) := by
  refine Cm.ofF [some (.ref b), some (.ref a), none] (plainFor_of_name pn_J5) rfl (Nat.le_of_ble_eq_true rfl) ?_
  intro p e s mI args below meth c A C hE hr hnt hn
  refine r_aload_n C dJ5_append_cf1ce_0 rfl ?_
  refine r_ifnonnull (tgt := 9) C dJ5_append_cf1ce_1 (by decide) ?_
  refine r_aload_n C dJ5_append_cf1ce_9 rfl ?_
  refine t_perm [SBO b v ml n, BYO cy v m g, STO a va h z, BYO cy va k gs] [STO a va h z, BYO cy va k gs, SBO b v ml n, BYO cy v m g] [2, 3, 0, 1] rfl (by decide) rfl (w' := U ++ (STO a va h z :: BYO cy va k gs :: SBO b v ml n :: BYO cy v m g :: E)) rfl ?_
  refine c_V (st := []) hX.stb C hE (C_len_W (U := U) (E := (SBO b v ml n :: BYO cy v m g :: E)) (a := a) (va := va) (h := h) (z := z) (k := k) (gs := gs) hX ) pk_J0_length_8abf5 qm_J5_32 (U.length + 0) 0 rfl rfl (us_g rfl) rfl rfl (Nat.le_of_ble_eq_true rfl) dJ5_append_cf1ce_10 ⟨Nat.le_of_ble_eq_true rfl, Nat.le_of_ble_eq_true rfl⟩ ⟨by first | (simp only [rmk, rmz]; omega) | (simp only [rmk, rmz]; done) | omega, by first | (simp only [rmk, rmz]; omega) | (simp only [rmk, rmz]; done) | omega⟩ (fun v9 w9 h9 => ?_) (fun _ h9 => h9.elim)
  obtain ⟨rfl, rfl⟩ := h9
  have hcg := sb_cap_ge (n + k) m
  have hcl := cap_lt (q := n + k) hm (by omega)
  refine r_istore_n C dJ5_append_cf1ce_13 (by decide) rfl ?_
  refine r_aload_n C dJ5_append_cf1ce_14 rfl ?_
  refine r_aload_n C dJ5_append_cf1ce_15 rfl ?_
  refine t_sbg C 2 3 rfl (by decide) qf_J5_79 rfl rfl dJ5_append_cf1ce_16 ?_
  refine r_iload_n C dJ5_append_cf1ce_19 rfl ?_
  refine r_iaddN C dJ5_append_cf1ce_20 ?_
  refine t_perm [STO a va h z, BYO cy va k gs, SBO b v ml n, BYO cy v m g] [SBO b v ml n, BYO cy v m g, STO a va h z, BYO cy va k gs] [2, 3, 0, 1] rfl (by decide) rfl (w' := U ++ (SBO b v ml n :: BYO cy v m g :: STO a va h z :: BYO cy va k gs :: E)) rfl ?_
  refine c_U (st := []) hX C hE (C_ensure (U := U) (E := (STO a va h z :: BYO cy va k gs :: E)) (b := b) (v := v) (m := m) (n := n) (g := g) (ml := ml) (q := (n + k)) hX (by first | omega | (simp [up2, *]; done) | (simp [up2, *]; omega) | (simp only [up2_eq]; omega) | (split <;> omega)) (by first | omega | (simp [up2, *]; done) | (simp [up2, *]; omega) | (simp only [up2_eq]; omega) | (split <;> omega)) hf.1) pk_J5_ensureCapacityInternal_d00df qm_J5_100 (U.length + 0) (us_g rfl) rfl rfl (Nat.le_of_ble_eq_true rfl) dJ5_append_cf1ce_21 ⟨Nat.le_of_ble_eq_true rfl, Nat.le_of_ble_eq_true rfl⟩ ⟨by first | (simp only [rmk, rmz]; omega) | (simp only [rmk, rmz]; done) | omega, by first | (simp only [rmk, rmz]; omega) | (simp only [rmk, rmz]; done) | omega⟩ (fun v9 w9 h9 => ?_) (fun _ h9 => h9.elim)
  obtain ⟨v9_1, g9_2, f_3, rfl, rfl⟩ := h9
  refine r_aload_n C dJ5_append_cf1ce_24 rfl ?_
  refine r_aload_n C dJ5_append_cf1ce_25 rfl ?_
  refine t_sbg C 0 3 rfl (by decide) qf_J5_79 rfl rfl dJ5_append_cf1ce_26 ?_
  refine r_aload_n C dJ5_append_cf1ce_29 rfl ?_
  refine c_U (st := []) hX C hE (C_putStr_W (U := U) (E := E) (b := b) (v := v9_1) (m := (sb_cap (n + k) m)) (n := n) (g := g9_2) (ml := ml) (dp := n) (a := a) (va := va) (h := h) (z := z) (k := k) (gs := gs) hX (by omega) hcl (hf.keep f_3.1 (fun q hq => f_3.2 q (by omega))) hgs) pk_J5_putStringAt_47b60 qm_J5_208 (U.length + 0) (us_g rfl) rfl rfl (Nat.le_of_ble_eq_true rfl) dJ5_append_cf1ce_30 ⟨Nat.le_of_ble_eq_true rfl, Nat.le_of_ble_eq_true rfl⟩ ⟨by first | (simp only [rmk, rmz]; omega) | (simp only [rmk, rmz]; done) | omega, by first | (simp only [rmk, rmz]; omega) | (simp only [rmk, rmz]; done) | omega⟩ (fun v9 w9 h9 => ?_) (fun _ h9 => h9.elim)
  obtain ⟨g9_4, f_5, rfl, rfl⟩ := h9
  refine r_aload_n C dJ5_append_cf1ce_33 rfl ?_
  refine r_dup C dJ5_append_cf1ce_34 rfl ?_
  refine t_sbg C 0 3 rfl (by decide) qf_J5_79 rfl rfl dJ5_append_cf1ce_35 ?_
  refine r_iload_n C dJ5_append_cf1ce_38 rfl ?_
  refine r_iaddN C dJ5_append_cf1ce_39 ?_
  refine t_sbp (ty := .int) C 0 3 rfl (by decide) rfl qf_J5_79 rfl rfl rfl rfl rfl dJ5_append_cf1ce_40 (L' := (SBO b v9_1 ml (n + k) :: BYO cy v9_1 (sb_cap (n + k) m) g9_4 :: STO a va h z :: BYO cy va k gs :: E)) rfl ?_
  refine r_aload_n C dJ5_append_cf1ce_43 rfl ?_
  exact r_aret C hr (Or.inl ⟨_, rfl⟩) dJ5_append_cf1ce_44 ⟨v9_1, g9_4, f_5, rfl, rfl⟩ (by first | (simp only [rmk, rmz]; omega) | (simp only [rmk, rmz]; done) | omega) (by first | (simp only [rmk, rmz]; omega) | (simp only [rmk, rmz]; done) | omega)
theorem dJ4_append_15ec4_0 : decode cJ4_append_15ec4 0 = .ok (.aload_n 0, 1) := dqo_42 (kb_of ke_J4_append_15ec4 0 rfl)
theorem dJ4_append_15ec4_1 : decode cJ4_append_15ec4 1 = .ok (.aload_n 1, 1) := dqo_43 (kb_of ke_J4_append_15ec4 1 rfl)
theorem dJ4_append_15ec4_2 : decode cJ4_append_15ec4 2 = .ok (.invokespecial 29, 3) := dqo_183 0 29 (kb_of ke_J4_append_15ec4 2 rfl) (kb_of ke_J4_append_15ec4 3 rfl) (kb_of ke_J4_append_15ec4 4 rfl)
theorem dJ4_append_15ec4_5 : decode cJ4_append_15ec4 5 = .ok (.pop, 1) := dqo_87 (kb_of ke_J4_append_15ec4 5 rfl)
theorem dJ4_append_15ec4_6 : decode cJ4_append_15ec4 6 = .ok (.aload_n 0, 1) := dqo_42 (kb_of ke_J4_append_15ec4 6 rfl)
theorem dJ4_append_15ec4_7 : decode cJ4_append_15ec4 7 = .ok (.areturn, 1) := dqo_176 (kb_of ke_J4_append_15ec4 7 rfl)
theorem pkS_J5_append_cf1ce : PkSU yJ5_append_cf1ce cJ5_append_cf1ce 3 (some (.object "java/lang/AbstractStringBuilder")) 1 := ⟨⟨qe_J5_append_cf1ce, qi_J5_append_cf1ce, qc_J5_append_cf1ce⟩, by decide +kernel⟩
set_option maxRecDepth 100000 in
set_option maxHeartbeats 400000 in
theorem C_sbStr_K {l : Launch} {D : va_G} {cy : Nat → ClassId} {X : (Nat → Prop) → State → Heap → Prop} {aK aV : Nat → Nat} {tO tT : Nat} {gO gT : Nat → Int32} {U E : va_W} {b : Nat} {v : Nat} {m : Nat} {n : Nat} {g : Nat → Int32} {ml : Int32} {tl : List Int32} {i : Nat} (hX : EnvS X cy aK aV tO tT gO gT) (hm : m ≤ 65536) (hnm : n ≤ m) (hf : TXT g n tl) (hi : i < KSN.length) : Cm l D cy X yJ4_append_15ec4 cJ4_append_15ec4 2 (some (.object "java/lang/StringBuilder")) (rmk 5 (gC (n + KSN.getD i 0) m) (gS (n + KSN.getD i 0) m) 200) [.ref b, .ref (aK i)] (U ++ (SBO b v ml n :: BYO cy v m g :: E)) (fun v1 w1 => ∃ v9 : Nat, ∃ g9 : Nat → Int32, (TXT g9 (n + KSN.getD i 0) (tl ++ KSB.getD i [])) ∧ v1 = some (.ref b) ∧ w1 = U ++ (SBO b v9 ml (n + KSN.getD i 0) :: BYO cy v9 (sb_cap (n + KSN.getD i 0) m) g9 :: E)) (fun _ => False) := by
  refine Cm.ofF [some (.ref b), some (.ref (aK i))] (plainFor_of_name pn_J4) rfl (Nat.le_of_ble_eq_true rfl) ?_
  intro p e s mI args below meth c A C hE hr hnt hn
  refine r_aload_n C dJ4_append_15ec4_0 rfl ?_
  refine r_aload_n C dJ4_append_15ec4_1 rfl ?_
  refine c_SU (st := []) hX C hE (C_asbStr_K (U := U) (E := E) (b := b) (v := v) (m := m) (n := n) (g := g) (ml := ml) (i := i) hX (by first | omega | (simp [up2, *]; done) | (simp [up2, *]; omega) | (simp only [up2_eq]; omega) | (split <;> omega)) (by first | omega | (simp [up2, *]; done) | (simp [up2, *]; omega) | (simp only [up2_eq]; omega) | (split <;> omega)) hf (by first | assumption | decide)) pkS_J5_append_cf1ce qm_J4_29 (U.length + 0) (us_g rfl) rfl rfl (Nat.le_of_ble_eq_true rfl) dJ4_append_15ec4_2 ⟨Nat.le_of_ble_eq_true rfl, Nat.le_of_ble_eq_true rfl⟩ ⟨by first | (simp only [rmk, rmz]; omega) | (simp only [rmk, rmz]; done) | omega, by first | (simp only [rmk, rmz]; omega) | (simp only [rmk, rmz]; done) | omega⟩ (fun v9 w9 h9 => ?_) (fun _ h9 => h9.elim)
  obtain ⟨v9_1, g9_2, f_3, rfl, rfl⟩ := h9
  refine r_pop C dJ4_append_15ec4_5 rfl ?_
  refine r_aload_n C dJ4_append_15ec4_6 rfl ?_
  exact r_aret C hr (Or.inl ⟨_, rfl⟩) dJ4_append_15ec4_7 ⟨v9_1, g9_2, f_3, rfl, rfl⟩ (by first | (simp only [rmk, rmz]; omega) | (simp only [rmk, rmz]; done) | omega) (by first | (simp only [rmk, rmz]; omega) | (simp only [rmk, rmz]; done) | omega)
set_option maxRecDepth 100000 in
set_option maxHeartbeats 400000 in
theorem C_sbStr_W {l : Launch} {D : va_G} {cy : Nat → ClassId} {X : (Nat → Prop) → State → Heap → Prop} {aK aV : Nat → Nat} {tO tT : Nat} {gO gT : Nat → Int32} {U E : va_W} {b : Nat} {v : Nat} {m : Nat} {n : Nat} {g : Nat → Int32} {ml : Int32} {tl : List Int32} {a : Nat} {va : Nat} {h : Int32} {z : Int32} {k : Nat} {gs : Nat → Int32} {ts : List Int32} (hX : EnvS X cy aK aV tO tT gO gT) (hm : m ≤ 65536) (hnm : n ≤ m) (hf : TXT g n tl) (hk : k < 1000) (hgs : TXT gs k ts) : Cm l D cy X yJ4_append_15ec4 cJ4_append_15ec4 2 (some (.object "java/lang/StringBuilder")) (rmk 5 (gC (n + k) m) (gS (n + k) m) 200) [.ref b, .ref a] (U ++ (SBO b v ml n :: BYO cy v m g :: STO a va h z :: BYO cy va k gs :: E)) (fun v1 w1 => ∃ v9 : Nat, ∃ g9 : Nat → Int32, (TXT g9 (n + k) (tl ++ ts)) ∧ v1 = some (.ref b) ∧ w1 = U ++ (SBO b v9 ml (n + k) :: BYO cy v9 (sb_cap (n + k) m) g9 :: STO a va h z :: BYO cy va k gs :: E)) (fun _ => False) := by
  refine Cm.ofF [some (.ref b), some (.ref a)] (plainFor_of_name pn_J4) rfl (Nat.le_of_ble_eq_true rfl) ?_
  intro p e s mI args below meth c A C hE hr hnt hn
  refine r_aload_n C dJ4_append_15ec4_0 rfl ?_
  refine r_aload_n C dJ4_append_15ec4_1 rfl ?_
  refine c_SU (st := []) hX C hE (C_asbStr_W (U := U) (E := E) (b := b) (v := v) (m := m) (n := n) (g := g) (ml := ml) (a := a) (va := va) (h := h) (z := z) (k := k) (gs := gs) hX (by first | omega | (simp [up2, *]; done) | (simp [up2, *]; omega) | (simp only [up2_eq]; omega) | (split <;> omega)) (by first | omega | (simp [up2, *]; done) | (simp [up2, *]; omega) | (simp only [up2_eq]; omega) | (split <;> omega)) hf (by first | omega | (simp [up2, *]; done) | (simp [up2, *]; omega) | (simp only [up2_eq]; omega) | (split <;> omega)) hgs) pkS_J5_append_cf1ce qm_J4_29 (U.length + 0) (us_g rfl) rfl rfl (Nat.le_of_ble_eq_true rfl) dJ4_append_15ec4_2 ⟨Nat.le_of_ble_eq_true rfl, Nat.le_of_ble_eq_true rfl⟩ ⟨by first | (simp only [rmk, rmz]; omega) | (simp only [rmk, rmz]; done) | omega, by first | (simp only [rmk, rmz]; omega) | (simp only [rmk, rmz]; done) | omega⟩ (fun v9 w9 h9 => ?_) (fun _ h9 => h9.elim)
  obtain ⟨v9_1, g9_2, f_3, rfl, rfl⟩ := h9
  refine r_pop C dJ4_append_15ec4_5 rfl ?_
  refine r_aload_n C dJ4_append_15ec4_6 rfl ?_
  exact r_aret C hr (Or.inl ⟨_, rfl⟩) dJ4_append_15ec4_7 ⟨v9_1, g9_2, f_3, rfl, rfl⟩ (by first | (simp only [rmk, rmz]; omega) | (simp only [rmk, rmz]; done) | omega) (by first | (simp only [rmk, rmz]; omega) | (simp only [rmk, rmz]; done) | omega)
