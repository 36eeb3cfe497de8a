/-! TEXTS COMPARED -/
theorem dJ1_equals_b5fdf_0 : decode cJ1_equals_b5fdf 0 = .ok (.aload_n 0, 1) := by decide +kernel
theorem dJ1_equals_b5fdf_1 : decode cJ1_equals_b5fdf 1 = .ok (.arraylength, 1) := by decide +kernel
theorem dJ1_equals_b5fdf_2 : decode cJ1_equals_b5fdf 2 = .ok (.aload_n 1, 1) := by decide +kernel
theorem dJ1_equals_b5fdf_3 : decode cJ1_equals_b5fdf 3 = .ok (.arraylength, 1) := by decide +kernel
theorem dJ1_equals_b5fdf_4 : decode cJ1_equals_b5fdf 4 = .ok (.if_icmp .ne 30, 3) := by decide +kernel
theorem dJ1_equals_b5fdf_7 : decode cJ1_equals_b5fdf 7 = .ok (.iconst 0, 1) := by decide +kernel
theorem dJ1_equals_b5fdf_8 : decode cJ1_equals_b5fdf 8 = .ok (.istore_n 2, 1) := by decide +kernel
theorem dJ1_equals_b5fdf_9 : decode cJ1_equals_b5fdf 9 = .ok (.iload_n 2, 1) := by decide +kernel
theorem dJ1_equals_b5fdf_10 : decode cJ1_equals_b5fdf 10 = .ok (.aload_n 0, 1) := by decide +kernel
theorem dJ1_equals_b5fdf_11 : decode cJ1_equals_b5fdf 11 = .ok (.arraylength, 1) := by decide +kernel
theorem dJ1_equals_b5fdf_12 : decode cJ1_equals_b5fdf 12 = .ok (.if_icmp .ge 20, 3) := by decide +kernel
theorem dJ1_equals_b5fdf_15 : decode cJ1_equals_b5fdf 15 = .ok (.aload_n 0, 1) := by decide +kernel
theorem dJ1_equals_b5fdf_16 : decode cJ1_equals_b5fdf 16 = .ok (.iload_n 2, 1) := by decide +kernel
theorem dJ1_equals_b5fdf_17 : decode cJ1_equals_b5fdf 17 = .ok (.baload, 1) := by decide +kernel
theorem dJ1_equals_b5fdf_18 : decode cJ1_equals_b5fdf 18 = .ok (.aload_n 1, 1) := by decide +kernel
theorem dJ1_equals_b5fdf_19 : decode cJ1_equals_b5fdf 19 = .ok (.iload_n 2, 1) := by decide +kernel
theorem dJ1_equals_b5fdf_20 : decode cJ1_equals_b5fdf 20 = .ok (.baload, 1) := by decide +kernel
theorem dJ1_equals_b5fdf_21 : decode cJ1_equals_b5fdf 21 = .ok (.if_icmp .eq 5, 3) := by decide +kernel
theorem dJ1_equals_b5fdf_26 : decode cJ1_equals_b5fdf 26 = .ok (.iinc 2 1, 3) := by decide +kernel
theorem dJ1_equals_b5fdf_29 : decode cJ1_equals_b5fdf 29 = .ok (.goto (-20), 3) := by decide +kernel
theorem dJ1_equals_b5fdf_32 : decode cJ1_equals_b5fdf 32 = .ok (.iconst 1, 1) := by decide +kernel
theorem dJ1_equals_b5fdf_33 : decode cJ1_equals_b5fdf 33 = .ok (.ireturn, 1) := by decide +kernel
theorem dJ0_equals_9ea2d_0 : decode cJ0_equals_9ea2d 0 = .ok (.aload_n 0, 1) := by decide +kernel
theorem dJ0_equals_9ea2d_1 : decode cJ0_equals_9ea2d 1 = .ok (.aload_n 1, 1) := by decide +kernel
theorem dJ0_equals_9ea2d_2 : decode cJ0_equals_9ea2d 2 = .ok (.if_acmp .ne 5, 3) := by decide +kernel
theorem dJ0_equals_9ea2d_5 : decode cJ0_equals_9ea2d 5 = .ok (.iconst 1, 1) := by decide +kernel
theorem dJ0_equals_9ea2d_6 : decode cJ0_equals_9ea2d 6 = .ok (.ireturn, 1) := by decide +kernel
theorem dJ0_equals_9ea2d_7 : decode cJ0_equals_9ea2d 7 = .ok (.aload_n 1, 1) := by decide +kernel
theorem dJ0_equals_9ea2d_8 : decode cJ0_equals_9ea2d 8 = .ok (.instanceof 10, 3) := by decide +kernel
theorem dJ0_equals_9ea2d_11 : decode cJ0_equals_9ea2d 11 = .ok (.ifCond .eq 43, 3) := by decide +kernel
theorem dJ0_equals_9ea2d_14 : decode cJ0_equals_9ea2d 14 = .ok (.aload_n 1, 1) := by decide +kernel
theorem dJ0_equals_9ea2d_15 : decode cJ0_equals_9ea2d 15 = .ok (.checkcast 10, 3) := by decide +kernel
theorem dJ0_equals_9ea2d_18 : decode cJ0_equals_9ea2d 18 = .ok (.astore_n 2, 1) := by decide +kernel
theorem dJ0_equals_9ea2d_19 : decode cJ0_equals_9ea2d 19 = .ok (.getstatic 38, 3) := by decide +kernel
theorem dJ0_equals_9ea2d_22 : decode cJ0_equals_9ea2d 22 = .ok (.ifCond .eq 14, 3) := by decide +kernel
theorem dJ0_equals_9ea2d_25 : decode cJ0_equals_9ea2d 25 = .ok (.aload_n 0, 1) := by decide +kernel
theorem dJ0_equals_9ea2d_26 : decode cJ0_equals_9ea2d 26 = .ok (.getfield 15, 3) := by decide +kernel
theorem dJ0_equals_9ea2d_29 : decode cJ0_equals_9ea2d 29 = .ok (.aload_n 2, 1) := by decide +kernel
theorem dJ0_equals_9ea2d_30 : decode cJ0_equals_9ea2d 30 = .ok (.getfield 15, 3) := by decide +kernel
theorem dJ0_equals_9ea2d_33 : decode cJ0_equals_9ea2d 33 = .ok (.if_icmp .ne 21, 3) := by decide +kernel
theorem dJ0_equals_9ea2d_36 : decode cJ0_equals_9ea2d 36 = .ok (.aload_n 0, 1) := by decide +kernel
theorem dJ0_equals_9ea2d_37 : decode cJ0_equals_9ea2d 37 = .ok (.getfield 9, 3) := by decide +kernel
theorem dJ0_equals_9ea2d_40 : decode cJ0_equals_9ea2d 40 = .ok (.aload_n 2, 1) := by decide +kernel
theorem dJ0_equals_9ea2d_41 : decode cJ0_equals_9ea2d 41 = .ok (.getfield 9, 3) := by decide +kernel
theorem dJ0_equals_9ea2d_44 : decode cJ0_equals_9ea2d 44 = .ok (.invokestatic 541, 3) := by decide +kernel
theorem dJ0_equals_9ea2d_47 : decode cJ0_equals_9ea2d 47 = .ok (.ifCond .eq 7, 3) := by decide +kernel
theorem dJ0_equals_9ea2d_50 : decode cJ0_equals_9ea2d 50 = .ok (.iconst 1, 1) := by decide +kernel
theorem dJ0_equals_9ea2d_51 : decode cJ0_equals_9ea2d 51 = .ok (.goto 4, 3) := by decide +kernel
theorem dJ0_equals_9ea2d_55 : decode cJ0_equals_9ea2d 55 = .ok (.ireturn, 1) := by decide +kernel
theorem pk_J1_equals_b5fdf : PkS yJ1_equals_b5fdf cJ1_equals_b5fdf 3 (some .boolean) 2 := ⟨⟨qt_J1_equals_b5fdf, qz_J1, qc_J1_equals_b5fdf⟩, by decide +kernel⟩
theorem pk_J0_equals_9ea2d : PkV RJ0 yJ0_equals_9ea2d cJ0_equals_9ea2d 3 (some .boolean) 1 := ⟨⟨qi_J0_equals_9ea2d, qs_J0_equals_9ea2d, qz_J0, qc_J0_equals_9ea2d⟩, by decide +kernel⟩
section TXE
variable {p : Program} {l : Launch} {e : Env} {R : Room} {s : State} {m : MethodId} {args : Array Value} {below : List Frame} {meth : Method} {c : Code} {D : va_G} {cy : Nat → ClassId} {A : Nat → Prop} {Q : State → Prop} {nL cells slots : Nat} {lv : List (Option Value)} {pc : Nat} {st : List Value} {cc : ByteArray} {own : String} {w : va_W}
/-- two references compared: both ends are to be gone -/
theorem j_acmp_ne (C : Fg p s m args meth c cc nL own D cy A) {x y tgt : Nat} {off : Int} (d : decode cc pc = .ok (.if_acmp .ne off, 3)) (ht : (pc : Int) + off = (tgt : Int)) (kt : vW p l e R s m args below meth c D vwCl A Q nL cells slots w lv tgt st) (kf : vW p l e R s m args below meth c D vwCl A Q nL cells slots w lv (pc + 3) st) : vW p l e R s m args below meth c D vwCl A Q nL cells slots w lv pc (.ref y :: .ref x :: st) := fun H locs ls hP hD hS hl =>
  lv_acmp_ne C.1 C.2.1 (rx := some x) (ry := some y) d ht (fun _ => kt H locs ls hP hD hS hl) (fun _ => kf H locs ls hP hD hS hl)
theorem j_instS (C : Fg p s m args meth c cc nL own D cy A) {x index q0 : Nat} {fs : List Value} (he : w[q0]? = some (x, .inr (0, fs))) (hq : Cond.classLink own index "java/lang/String" ∈ GW) (d : decode cc pc = .ok (.instanceof index, 3)) (kk : vW p l e R s m args below meth c D vwCl A Q nL cells slots w lv (pc + 3) (.int (nI 1) :: st)) : vW p l e R s m args below meth c D vwCl A Q nL cells slots w lv pc (.ref x :: st) := fun H locs ls hP hD hS hl =>
  va_instE C.1 C.2.1 C.2.2.2.1 (C.2.2.2.2.1 _ hq) (va_recv (ci := 0) C.2.2.2.2.2.1 hP rfl he) d (kk H locs ls hP hD hS hl)
theorem j_castS (C : Fg p s m args meth c cc nL own D cy A) {x index q0 : Nat} {fs : List Value} (he : w[q0]? = some (x, .inr (0, fs))) (hq : Cond.classLink own index "java/lang/String" ∈ GW) (d : decode cc pc = .ok (.checkcast index, 3)) (kk : vW p l e R s m args below meth c D vwCl A Q nL cells slots w lv (pc + 3) (.ref x :: st)) : vW p l e R s m args below meth c D vwCl A Q nL cells slots w lv pc (.ref x :: st) := fun H locs ls hP hD hS hl =>
  va_castE C.1 C.2.1 C.2.2.2.1 (C.2.2.2.2.1 _ hq) (va_recv (ci := 0) C.2.2.2.2.2.1 hP rfl he) d (kk H locs ls hP hD hS hl)
end TXE
set_option maxRecDepth 100000 in
theorem C_leq {l : Launch} {D : va_G} {cy : Nat → ClassId} {X : (Nat → Prop) → State → Heap → Prop} {w : va_W} {v1 v2 n : Nat} {g1 g2 : Nat → Int32} (k1 k3 : Nat) (h1 : w[k1]? = some (BYO cy v1 n g1)) (h3 : w[k3]? = some (BYO cy v2 n g2)) (he : ∀ j, j < n → g1 j = g2 j) (hn : n < 2147483648) : Cm l D cy X yJ1_equals_b5fdf cJ1_equals_b5fdf 3 (some .boolean) (rmz 0 0) [.ref v1, .ref v2] w (fun x1 w1 => x1 = some (.int (nI 1)) ∧ w1 = w) (fun _ => False) := by
  refine Cm.ofF [some (.ref v1), some (.ref v2), none] (by decide +kernel) rfl (Nat.le_of_ble_eq_true rfl) ?_
  intro p e s mI args below meth c A C hE hr hnt hnm
  have L9 : ∀ (d k : Nat), k + d = n → vC p l e (rmz 0 0) s mI args below meth c D A (vx_MQ below (vG (fun x1 w1 => x1 = some (.int (nI 1)) ∧ w1 = w) D vwCl A) (vGX (fun _ => False) D vwCl w A) args s (rmz 0 0).cells (rmz 0 0).slots A) 3 0 0 w [some (.ref v1), some (.ref v2), some (.int (nI k))] 9 [] := by
    intro d
    induction d with
    | zero =>
      intro k hk
      refine r_iload_n C dJ1_equals_b5fdf_9 rfl ?_
      refine r_aload_n C dJ1_equals_b5fdf_10 rfl ?_
      refine g_alen C (t0 := 0) k1 h1 rfl dJ1_equals_b5fdf_11 ?_
      refine r_icN_ge (a := k) (b := n) (tgt := 32) C (by omega) (by omega) dJ1_equals_b5fdf_12 (by decide) (fun _ => ?_) (fun h => absurd h (by omega))
      refine r_iconst (v := nI 1) C dJ1_equals_b5fdf_32 (by decide) ?_
      exact r_zret C hr (Nat.le_refl _) dJ1_equals_b5fdf_33 ⟨rfl, rfl⟩ (Nat.le_refl _) (Nat.le_refl _)
    | succ d ih =>
      intro k hk
      refine r_iload_n C dJ1_equals_b5fdf_9 rfl ?_
      refine r_aload_n C dJ1_equals_b5fdf_10 rfl ?_
      refine g_alen C (t0 := 0) k1 h1 rfl dJ1_equals_b5fdf_11 ?_
      refine r_icN_ge (a := k) (b := n) (tgt := 32) C (by omega) (by omega) dJ1_equals_b5fdf_12 (by decide) (fun h => absurd h (by omega)) (fun _ => ?_)
      refine r_aload_n C dJ1_equals_b5fdf_15 rfl ?_
      refine r_iload_n C dJ1_equals_b5fdf_16 rfl ?_
      refine g_bald C k1 h1 (by omega) (by omega) dJ1_equals_b5fdf_17 ?_
      refine r_aload_n C dJ1_equals_b5fdf_18 rfl ?_
      refine r_iload_n C dJ1_equals_b5fdf_19 rfl ?_
      refine g_bald C k3 h3 (by omega) (by omega) dJ1_equals_b5fdf_20 ?_
      refine r_ic_eq (tgt := 26) C dJ1_equals_b5fdf_21 (by decide) (fun _ => ?_) (fun hne => absurd (he k (by omega)) hne)
      refine r_iincN C dJ1_equals_b5fdf_26 rfl (by decide) rfl ?_
      refine r_goto (tgt := 9) C dJ1_equals_b5fdf_29 (by decide) ?_
      exact ih (k + 1) (by omega)
  refine r_aload_n C dJ1_equals_b5fdf_0 rfl ?_
  refine g_alen C (t0 := 0) k1 h1 rfl dJ1_equals_b5fdf_1 ?_
  refine r_aload_n C dJ1_equals_b5fdf_2 rfl ?_
  refine g_alen C (t0 := 0) k3 h3 rfl dJ1_equals_b5fdf_3 ?_
  refine r_icN_ne (a := n) (b := n) (tgt := 34) C (by omega) (by omega) dJ1_equals_b5fdf_4 (by decide) (fun h => absurd rfl h) (fun _ => ?_)
  refine r_iconst (v := nI 0) C dJ1_equals_b5fdf_7 (by decide) ?_
  refine r_istore_n C dJ1_equals_b5fdf_8 (by decide) rfl ?_
  exact L9 n 0 (Nat.zero_add _)
set_option maxRecDepth 100000 in
theorem C_seq {l : Launch} {D : va_G} {cy : Nat → ClassId} {X : (Nat → Prop) → State → Heap → Prop} {aK aV : Nat → Nat} {tO tT : Nat} {gO gT : Nat → Int32} {w : va_W} {a1 v1 a2 v2 n : Nat} {z1 z2 z3 z4 : Int32} {g1 g2 : Nat → Int32} (hX : EnvS X cy aK aV tO tT gO gT) (k0 k1 k2 k3 : Nat) (h0 : w[k0]? = some (STO a1 v1 z1 z2)) (h1 : w[k1]? = some (BYO cy v1 n g1)) (h2 : w[k2]? = some (STO a2 v2 z3 z4)) (h3 : w[k3]? = some (BYO cy v2 n g2)) (he : ∀ j, j < n → g1 j = g2 j) (hn : n < 2147483648) : Cm l D cy X yJ0_equals_9ea2d cJ0_equals_9ea2d 3 (some .boolean) (rmz 1 40) [.ref a1, .ref a2] w (fun x1 w1 => x1 = some (.int (nI 1)) ∧ w1 = w) (fun _ => False) := by
  refine Cm.ofF [some (.ref a1), some (.ref a2), none] (by decide +kernel) rfl (Nat.le_of_ble_eq_true rfl) ?_
  intro p e s mI args below meth c A C hE hr hnt hnm
  refine r_aload_n C dJ0_equals_9ea2d_0 rfl ?_
  refine r_aload_n C dJ0_equals_9ea2d_1 rfl ?_
  refine j_acmp_ne (tgt := 7) C dJ0_equals_9ea2d_2 (by decide) ?_ ?_
  · refine r_aload_n C dJ0_equals_9ea2d_7 rfl ?_
    refine j_instS C h2 qk_J0_10 dJ0_equals_9ea2d_8 ?_
    refine r_ifN_eq (a := 1) (tgt := 54) C (by omega) dJ0_equals_9ea2d_11 (by decide) (fun h => absurd h (by omega)) (fun _ => ?_)
    refine r_aload_n C dJ0_equals_9ea2d_14 rfl ?_
    refine j_castS C h2 qk_J0_10 dJ0_equals_9ea2d_15 ?_
    refine r_astore_n C dJ0_equals_9ea2d_18 (by decide) rfl ?_
    refine j_cs hX C hE qf_J0_38 dJ0_equals_9ea2d_19 ?_
    refine r_ifN_eq (a := 1) (tgt := 36) C (by omega) dJ0_equals_9ea2d_22 (by decide) (fun h => absurd h (by omega)) (fun _ => ?_)
    refine r_aload_n C dJ0_equals_9ea2d_25 rfl ?_
    refine g_get C qu_J0 (ci := 0) rfl k0 h0 1 (by decide) qf_J0_15 rfl rfl dJ0_equals_9ea2d_26 ?_
    refine r_aload_n C dJ0_equals_9ea2d_29 rfl ?_
    refine g_get C qu_J0 (ci := 0) rfl k2 h2 1 (by decide) qf_J0_15 rfl rfl dJ0_equals_9ea2d_30 ?_
    refine r_icN_ne (a := 0) (b := 0) (tgt := 54) C (by omega) (by omega) dJ0_equals_9ea2d_33 (by decide) (fun h => absurd rfl h) (fun _ => ?_)
    refine r_aload_n C dJ0_equals_9ea2d_36 rfl ?_
    refine g_get C qu_J0 (ci := 0) rfl k0 h0 0 (by decide) qf_J0_9 rfl rfl dJ0_equals_9ea2d_37 ?_
    refine r_aload_n C dJ0_equals_9ea2d_40 rfl ?_
    refine g_get C qu_J0 (ci := 0) rfl k2 h2 0 (by decide) qf_J0_9 rfl rfl dJ0_equals_9ea2d_41 ?_
    refine c_S (st := []) hX.stb C hE (C_leq k1 k3 h1 h3 he hn) pk_J1_equals_b5fdf qm_J0_541 rfl rfl (Nat.le_of_ble_eq_true rfl) dJ0_equals_9ea2d_44 ⟨Nat.le_of_ble_eq_true rfl, Nat.le_of_ble_eq_true rfl⟩ ⟨Nat.le_of_ble_eq_true rfl, Nat.le_of_ble_eq_true rfl⟩ (fun v9 w9 h9 => ?_) (fun _ h9 => h9.elim)
    obtain ⟨rfl, rfl⟩ := h9
    refine r_ifN_eq (a := 1) (tgt := 54) C (by omega) dJ0_equals_9ea2d_47 (by decide) (fun h => absurd h (by omega)) (fun _ => ?_)
    refine r_iconst (v := nI 1) C dJ0_equals_9ea2d_50 (by decide) ?_
    refine r_goto (tgt := 55) C dJ0_equals_9ea2d_51 (by decide) ?_
    exact r_zret C hr (Nat.le_refl _) dJ0_equals_9ea2d_55 ⟨rfl, rfl⟩ (Nat.le_refl _) (Nat.le_refl _)
  · refine r_iconst (v := nI 1) C dJ0_equals_9ea2d_5 (by decide) ?_
    exact r_zret C hr (Nat.le_refl _) dJ0_equals_9ea2d_6 ⟨rfl, rfl⟩ (Nat.le_refl _) (Nat.le_refl _)
