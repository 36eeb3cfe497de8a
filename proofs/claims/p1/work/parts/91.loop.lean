/-! THE LAW'S LOOP -/
theorem dL_law_27 : decode cL_law 27 = .ok (.iload 4, 2) := dqo_21 4 (kb_0 27 rfl) (kb_0 28 rfl)
theorem dL_law_29 : decode cL_law 29 = .ok (.aload_n 0, 1) := dqo_42 (kb_0 29 rfl)
theorem dL_law_30 : decode cL_law 30 = .ok (.arraylength, 1) := dqo_190 (kb_0 30 rfl)
theorem dL_law_31 : decode cL_law 31 = .ok (.iconst 5, 1) := dqo_8 (kb_0 31 rfl)
theorem dL_law_32 : decode cL_law 32 = .ok (.isub, 1) := dqo_100 (kb_0 32 rfl)
theorem dL_law_33 : decode cL_law 33 = .ok (.if_icmp .gt 3429, 3) := dqo_163 13 101 (by decide) (kb_0 33 rfl) (kb_0 34 rfl) (kb_0 35 rfl)
theorem dL_law_36 : decode cL_law 36 = .ok (.aload_n 0, 1) := dqo_42 (kb_0 36 rfl)
theorem dL_law_37 : decode cL_law 37 = .ok (.iload 4, 2) := dqo_21 4 (kb_0 37 rfl) (kb_0 38 rfl)
theorem dL_law_39 : decode cL_law 39 = .ok (.iaload, 1) := dqo_46 (kb_0 39 rfl)
theorem dL_law_40 : decode cL_law 40 = .ok (.bipush 63, 2) := dqo_16 63 (by decide) (kb_0 40 rfl) (kb_0 41 rfl)
theorem dL_law_42 : decode cL_law 42 = .ok (.iand, 1) := dqo_126 (kb_0 42 rfl)
theorem sw_0 : (Reader.s4 : Decoder Int) cL_law 56 = Except.ok (209, 56 + 4) := (cb_s4 0 0 0 209 (by decide) (kb_0 56 rfl) (kb_0 57 rfl) (kb_0 58 rfl) (kb_0 59 rfl))
theorem sw_1 : (Reader.s4 : Decoder Int) cL_law 60 = Except.ok (278, 60 + 4) := (cb_s4 0 0 1 22 (by decide) (kb_0 60 rfl) (kb_0 61 rfl) (kb_0 62 rfl) (kb_0 63 rfl))
theorem sw_2 : (Reader.s4 : Decoder Int) cL_law 64 = Except.ok (359, 64 + 4) := (cb_s4 0 0 1 103 (by decide) (kb_1 0 rfl) (kb_1 1 rfl) (kb_1 2 rfl) (kb_1 3 rfl))
theorem sw_3 : (Reader.s4 : Decoder Int) cL_law 68 = Except.ok (440, 68 + 4) := (cb_s4 0 0 1 184 (by decide) (kb_1 4 rfl) (kb_1 5 rfl) (kb_1 6 rfl) (kb_1 7 rfl))
theorem sw_4 : (Reader.s4 : Decoder Int) cL_law 72 = Except.ok (509, 72 + 4) := (cb_s4 0 0 1 253 (by decide) (kb_1 8 rfl) (kb_1 9 rfl) (kb_1 10 rfl) (kb_1 11 rfl))
theorem sw_5 : (Reader.s4 : Decoder Int) cL_law 76 = Except.ok (566, 76 + 4) := (cb_s4 0 0 2 54 (by decide) (kb_1 12 rfl) (kb_1 13 rfl) (kb_1 14 rfl) (kb_1 15 rfl))
theorem sw_6 : (Reader.s4 : Decoder Int) cL_law 80 = Except.ok (659, 80 + 4) := (cb_s4 0 0 2 147 (by decide) (kb_1 16 rfl) (kb_1 17 rfl) (kb_1 18 rfl) (kb_1 19 rfl))
theorem sw_7 : (Reader.s4 : Decoder Int) cL_law 84 = Except.ok (728, 84 + 4) := (cb_s4 0 0 2 216 (by decide) (kb_1 20 rfl) (kb_1 21 rfl) (kb_1 22 rfl) (kb_1 23 rfl))
theorem sw_8 : (Reader.s4 : Decoder Int) cL_law 88 = Except.ok (785, 88 + 4) := (cb_s4 0 0 3 17 (by decide) (kb_1 24 rfl) (kb_1 25 rfl) (kb_1 26 rfl) (kb_1 27 rfl))
theorem sw_9 : (Reader.s4 : Decoder Int) cL_law 92 = Except.ok (866, 92 + 4) := (cb_s4 0 0 3 98 (by decide) (kb_1 28 rfl) (kb_1 29 rfl) (kb_1 30 rfl) (kb_1 31 rfl))
theorem sw_10 : (Reader.s4 : Decoder Int) cL_law 96 = Except.ok (923, 96 + 4) := (cb_s4 0 0 3 155 (by decide) (kb_1 32 rfl) (kb_1 33 rfl) (kb_1 34 rfl) (kb_1 35 rfl))
theorem sw_11 : (Reader.s4 : Decoder Int) cL_law 100 = Except.ok (980, 100 + 4) := (cb_s4 0 0 3 212 (by decide) (kb_1 36 rfl) (kb_1 37 rfl) (kb_1 38 rfl) (kb_1 39 rfl))
theorem sw_12 : (Reader.s4 : Decoder Int) cL_law 104 = Except.ok (1037, 104 + 4) := (cb_s4 0 0 4 13 (by decide) (kb_1 40 rfl) (kb_1 41 rfl) (kb_1 42 rfl) (kb_1 43 rfl))
theorem sw_13 : (Reader.s4 : Decoder Int) cL_law 108 = Except.ok (1106, 108 + 4) := (cb_s4 0 0 4 82 (by decide) (kb_1 44 rfl) (kb_1 45 rfl) (kb_1 46 rfl) (kb_1 47 rfl))
theorem sw_14 : (Reader.s4 : Decoder Int) cL_law 112 = Except.ok (1175, 112 + 4) := (cb_s4 0 0 4 151 (by decide) (kb_1 48 rfl) (kb_1 49 rfl) (kb_1 50 rfl) (kb_1 51 rfl))
theorem sw_15 : (Reader.s4 : Decoder Int) cL_law 116 = Except.ok (1232, 116 + 4) := (cb_s4 0 0 4 208 (by decide) (kb_1 52 rfl) (kb_1 53 rfl) (kb_1 54 rfl) (kb_1 55 rfl))
theorem sw_16 : (Reader.s4 : Decoder Int) cL_law 120 = Except.ok (1301, 120 + 4) := (cb_s4 0 0 5 21 (by decide) (kb_1 56 rfl) (kb_1 57 rfl) (kb_1 58 rfl) (kb_1 59 rfl))
theorem sw_17 : (Reader.s4 : Decoder Int) cL_law 124 = Except.ok (1370, 124 + 4) := (cb_s4 0 0 5 90 (by decide) (kb_1 60 rfl) (kb_1 61 rfl) (kb_1 62 rfl) (kb_1 63 rfl))
theorem sw_18 : (Reader.s4 : Decoder Int) cL_law 128 = Except.ok (1439, 128 + 4) := (cb_s4 0 0 5 159 (by decide) (kb_2 0 rfl) (kb_2 1 rfl) (kb_2 2 rfl) (kb_2 3 rfl))
theorem sw_19 : (Reader.s4 : Decoder Int) cL_law 132 = Except.ok (1520, 132 + 4) := (cb_s4 0 0 5 240 (by decide) (kb_2 4 rfl) (kb_2 5 rfl) (kb_2 6 rfl) (kb_2 7 rfl))
theorem sw_20 : (Reader.s4 : Decoder Int) cL_law 136 = Except.ok (1589, 136 + 4) := (cb_s4 0 0 6 53 (by decide) (kb_2 8 rfl) (kb_2 9 rfl) (kb_2 10 rfl) (kb_2 11 rfl))
theorem sw_21 : (Reader.s4 : Decoder Int) cL_law 140 = Except.ok (1658, 140 + 4) := (cb_s4 0 0 6 122 (by decide) (kb_2 12 rfl) (kb_2 13 rfl) (kb_2 14 rfl) (kb_2 15 rfl))
theorem sw_22 : (Reader.s4 : Decoder Int) cL_law 144 = Except.ok (1727, 144 + 4) := (cb_s4 0 0 6 191 (by decide) (kb_2 16 rfl) (kb_2 17 rfl) (kb_2 18 rfl) (kb_2 19 rfl))
theorem sw_23 : (Reader.s4 : Decoder Int) cL_law 148 = Except.ok (1796, 148 + 4) := (cb_s4 0 0 7 4 (by decide) (kb_2 20 rfl) (kb_2 21 rfl) (kb_2 22 rfl) (kb_2 23 rfl))
theorem sw_24 : (Reader.s4 : Decoder Int) cL_law 152 = Except.ok (1877, 152 + 4) := (cb_s4 0 0 7 85 (by decide) (kb_2 24 rfl) (kb_2 25 rfl) (kb_2 26 rfl) (kb_2 27 rfl))
theorem sw_25 : (Reader.s4 : Decoder Int) cL_law 156 = Except.ok (1946, 156 + 4) := (cb_s4 0 0 7 154 (by decide) (kb_2 28 rfl) (kb_2 29 rfl) (kb_2 30 rfl) (kb_2 31 rfl))
theorem sw_26 : (Reader.s4 : Decoder Int) cL_law 160 = Except.ok (2015, 160 + 4) := (cb_s4 0 0 7 223 (by decide) (kb_2 32 rfl) (kb_2 33 rfl) (kb_2 34 rfl) (kb_2 35 rfl))
theorem sw_27 : (Reader.s4 : Decoder Int) cL_law 164 = Except.ok (2091, 164 + 4) := (cb_s4 0 0 8 43 (by decide) (kb_2 36 rfl) (kb_2 37 rfl) (kb_2 38 rfl) (kb_2 39 rfl))
theorem sw_28 : (Reader.s4 : Decoder Int) cL_law 168 = Except.ok (2160, 168 + 4) := (cb_s4 0 0 8 112 (by decide) (kb_2 40 rfl) (kb_2 41 rfl) (kb_2 42 rfl) (kb_2 43 rfl))
theorem sw_29 : (Reader.s4 : Decoder Int) cL_law 172 = Except.ok (2245, 172 + 4) := (cb_s4 0 0 8 197 (by decide) (kb_2 44 rfl) (kb_2 45 rfl) (kb_2 46 rfl) (kb_2 47 rfl))
theorem sw_30 : (Reader.s4 : Decoder Int) cL_law 176 = Except.ok (2321, 176 + 4) := (cb_s4 0 0 9 17 (by decide) (kb_2 48 rfl) (kb_2 49 rfl) (kb_2 50 rfl) (kb_2 51 rfl))
theorem sw_31 : (Reader.s4 : Decoder Int) cL_law 180 = Except.ok (2397, 180 + 4) := (cb_s4 0 0 9 93 (by decide) (kb_2 52 rfl) (kb_2 53 rfl) (kb_2 54 rfl) (kb_2 55 rfl))
theorem sw_32 : (Reader.s4 : Decoder Int) cL_law 184 = Except.ok (2454, 184 + 4) := (cb_s4 0 0 9 150 (by decide) (kb_2 56 rfl) (kb_2 57 rfl) (kb_2 58 rfl) (kb_2 59 rfl))
theorem sw_33 : (Reader.s4 : Decoder Int) cL_law 188 = Except.ok (2512, 188 + 4) := (cb_s4 0 0 9 208 (by decide) (kb_2 60 rfl) (kb_2 61 rfl) (kb_2 62 rfl) (kb_2 63 rfl))
theorem sw_34 : (Reader.s4 : Decoder Int) cL_law 192 = Except.ok (2581, 192 + 4) := (cb_s4 0 0 10 21 (by decide) (kb_3 0 rfl) (kb_3 1 rfl) (kb_3 2 rfl) (kb_3 3 rfl))
theorem sw_35 : (Reader.s4 : Decoder Int) cL_law 196 = Except.ok (2674, 196 + 4) := (cb_s4 0 0 10 114 (by decide) (kb_3 4 rfl) (kb_3 5 rfl) (kb_3 6 rfl) (kb_3 7 rfl))
theorem sw_36 : (Reader.s4 : Decoder Int) cL_law 200 = Except.ok (2731, 200 + 4) := (cb_s4 0 0 10 171 (by decide) (kb_3 8 rfl) (kb_3 9 rfl) (kb_3 10 rfl) (kb_3 11 rfl))
theorem sw_37 : (Reader.s4 : Decoder Int) cL_law 204 = Except.ok (2800, 204 + 4) := (cb_s4 0 0 10 240 (by decide) (kb_3 12 rfl) (kb_3 13 rfl) (kb_3 14 rfl) (kb_3 15 rfl))
theorem sw_38 : (Reader.s4 : Decoder Int) cL_law 208 = Except.ok (2881, 208 + 4) := (cb_s4 0 0 11 65 (by decide) (kb_3 16 rfl) (kb_3 17 rfl) (kb_3 18 rfl) (kb_3 19 rfl))
theorem sw_39 : (Reader.s4 : Decoder Int) cL_law 212 = Except.ok (2938, 212 + 4) := (cb_s4 0 0 11 122 (by decide) (kb_3 20 rfl) (kb_3 21 rfl) (kb_3 22 rfl) (kb_3 23 rfl))
theorem sw_40 : (Reader.s4 : Decoder Int) cL_law 216 = Except.ok (2995, 216 + 4) := (cb_s4 0 0 11 179 (by decide) (kb_3 24 rfl) (kb_3 25 rfl) (kb_3 26 rfl) (kb_3 27 rfl))
theorem sw_41 : (Reader.s4 : Decoder Int) cL_law 220 = Except.ok (3052, 220 + 4) := (cb_s4 0 0 11 236 (by decide) (kb_3 28 rfl) (kb_3 29 rfl) (kb_3 30 rfl) (kb_3 31 rfl))
theorem sw_42 : (Reader.s4 : Decoder Int) cL_law 224 = Except.ok (3121, 224 + 4) := (cb_s4 0 0 12 49 (by decide) (kb_3 32 rfl) (kb_3 33 rfl) (kb_3 34 rfl) (kb_3 35 rfl))
theorem sw_43 : (Reader.s4 : Decoder Int) cL_law 228 = Except.ok (3178, 228 + 4) := (cb_s4 0 0 12 106 (by decide) (kb_3 36 rfl) (kb_3 37 rfl) (kb_3 38 rfl) (kb_3 39 rfl))
theorem sw_44 : (Reader.s4 : Decoder Int) cL_law 232 = Except.ok (3247, 232 + 4) := (cb_s4 0 0 12 175 (by decide) (kb_3 40 rfl) (kb_3 41 rfl) (kb_3 42 rfl) (kb_3 43 rfl))
theorem sw_45 : (Reader.s4 : Decoder Int) cL_law 236 = Except.ok (3316, 236 + 4) := (cb_s4 0 0 12 244 (by decide) (kb_3 44 rfl) (kb_3 45 rfl) (kb_3 46 rfl) (kb_3 47 rfl))
theorem sw_46 : (Reader.s4 : Decoder Int) cL_law 240 = Except.ok (3373, 240 + 4) := (cb_s4 0 0 13 45 (by decide) (kb_3 48 rfl) (kb_3 49 rfl) (kb_3 50 rfl) (kb_3 51 rfl))
theorem sw_47 : (Reader.s4 : Decoder Int) cL_law 244 = Except.ok (3386, 244 + 4) := (cb_s4 0 0 13 58 (by decide) (kb_3 52 rfl) (kb_3 53 rfl) (kb_3 54 rfl) (kb_3 55 rfl))
theorem sw_48 : (Reader.s4 : Decoder Int) cL_law 248 = Except.ok (3399, 248 + 4) := (cb_s4 0 0 13 71 (by decide) (kb_3 56 rfl) (kb_3 57 rfl) (kb_3 58 rfl) (kb_3 59 rfl))
theorem sw_all : s4s cL_law 56 [209, 278, 359, 440, 509, 566, 659, 728, 785, 866, 923, 980, 1037, 1106, 1175, 1232, 1301, 1370, 1439, 1520, 1589, 1658, 1727, 1796, 1877, 1946, 2015, 2091, 2160, 2245, 2321, 2397, 2454, 2512, 2581, 2674, 2731, 2800, 2881, 2938, 2995, 3052, 3121, 3178, 3247, 3316, 3373, 3386, 3399] := ⟨sw_0, sw_1, sw_2, sw_3, sw_4, sw_5, sw_6, sw_7, sw_8, sw_9, sw_10, sw_11, sw_12, sw_13, sw_14, sw_15, sw_16, sw_17, sw_18, sw_19, sw_20, sw_21, sw_22, sw_23, sw_24, sw_25, sw_26, sw_27, sw_28, sw_29, sw_30, sw_31, sw_32, sw_33, sw_34, sw_35, sw_36, sw_37, sw_38, sw_39, sw_40, sw_41, sw_42, sw_43, sw_44, sw_45, sw_46, sw_47, sw_48, trivial⟩
theorem sw_at : Decoder.tableswitch 43 cL_law 44 = Except.ok (.tableswitch 3413 0 48 #[209, 278, 359, 440, 509, 566, 659, 728, 785, 866, 923, 980, 1037, 1106, 1175, 1232, 1301, 1370, 1439, 1520, 1589, 1658, 1727, 1796, 1877, 1946, 2015, 2091, 2160, 2245, 2321, 2397, 2454, 2512, 2581, 2674, 2731, 2800, 2881, 2938, 2995, 3052, 3121, 3178, 3247, 3316, 3373, 3386, 3399], 43 + 209) := by
  refine (dbnd (dpad (p := 44) (by decide) (kb_0 44 rfl))).trans ?_
  refine (dbnd (cb_s4 (v := 3413) 0 0 13 85 (by decide) (kb_0 44 rfl) (kb_0 45 rfl) (kb_0 46 rfl) (kb_0 47 rfl))).trans ?_
  refine (dbnd (cb_s4 (v := 0) 0 0 0 0 (by decide) (kb_0 48 rfl) (kb_0 49 rfl) (kb_0 50 rfl) (kb_0 51 rfl))).trans ?_
  refine (dbnd (cb_s4 (v := 48) 0 0 0 48 (by decide) (kb_0 52 rfl) (kb_0 53 rfl) (kb_0 54 rfl) (kb_0 55 rfl))).trans ?_
  show (Reader.times 49 (Reader.s4 : Decoder Int) >>= fun t => Pure.pure (Instr.tableswitch 3413 0 48 t) : Decoder Instr) cL_law 56 = _
  refine (dbnd (go_s4 [209, 278, 359, 440, 509, 566, 659, 728, 785, 866, 923, 980, 1037, 1106, 1175, 1232, 1301, 1370, 1439, 1520, 1589, 1658, 1727, 1796, 1877, 1946, 2015, 2091, 2160, 2245, 2321, 2397, 2454, 2512, 2581, 2674, 2731, 2800, 2881, 2938, 2995, 3052, 3121, 3178, 3247, 3316, 3373, 3386, 3399] 56 #[] sw_all)).trans ?_
  rfl
theorem dL_law_43 : decode cL_law 43 = .ok (.tableswitch 3413 0 48 #[209, 278, 359, 440, 509, 566, 659, 728, 785, 866, 923, 980, 1037, 1106, 1175, 1232, 1301, 1370, 1439, 1520, 1589, 1658, 1727, 1796, 1877, 1946, 2015, 2091, 2160, 2245, 2321, 2397, 2454, 2512, 2581, 2674, 2731, 2800, 2881, 2938, 2995, 3052, 3121, 3178, 3247, 3316, 3373, 3386, 3399], 209) := dq_fin ((dq_hd (b := 170) (k := _) rfl (kb_0 43 rfl)).trans sw_at)
theorem dL_law_3456 : decode cL_law 3456 = .ok (.iinc 4 5, 3) := by decide +kernel
theorem dL_law_3459 : decode cL_law 3459 = .ok (.goto (-3432), 3) := by decide +kernel
theorem dL_law_3462 : decode cL_law 3462 = .ok (.iconst 1, 1) := by decide +kernel
theorem dL_law_3463 : decode cL_law 3463 = .ok (.ireturn, 1) := by decide +kernel
theorem and63 (x : Int32) : 0 ≤ (x &&& 63).toInt ∧ (x &&& 63).toInt ≤ 63 := by
  have h : (x &&& 63).toBitVec = x.toBitVec &&& 63#32 := rfl
  have h1 : (x &&& 63).toBitVec.toNat ≤ 63 := by
    rw [h, BitVec.toNat_and]
    exact Nat.and_le_right
  have h2 : (x &&& 63).toInt = ((x &&& 63).toBitVec.toNat : Int) := by
    show (x &&& 63).toBitVec.toInt = _
    rw [BitVec.toInt_eq_toNat_of_lt (by omega)]
  omega
theorem sub5 {L i : Nat} (hL : L ≤ 2560) (hi : i ≤ 2560) : nI L - nI 5 < nI i ↔ L < i + 5 := by
  have e1 : (nI L).toInt = (L : Int) := nI_toInt (by omega)
  have e2 : (nI L - nI 5).toInt = (L : Int) - 5 := by
    have e3 : (nI L - nI 5).toInt = ((nI L).toInt - (nI 5).toInt).bmod (2 ^ 32) := Int32.toInt_sub _ _
    rw [e3, e1, show (nI 5).toInt = 5 from rfl]
    exact Int.bmod_eq_of_le (by omega) (by omega)
  rw [Int32.lt_iff_toInt_lt, e2, nI_toInt (by omega)]
  omega
set_option maxHeartbeats 4000000 in
theorem law_loop {p : Program} {l : Launch} {e : Env} {s : State} {m : MethodId} {below : List Frame} {meth : Method} {c : Code} {D : va_G} {cy : Nat → ClassId} {X : (Nat → Prop) → State → Heap → Prop} {aK aV : Nat → Nat} {tO tT : Nat} {gO gT : Nat → Int32} {a : Nat → Nat → Nat} {ba : Nat → Nat} {o b L c0 s0 : Nat} {xs : Nat → Int32} (C : Fg p s m #[Value.ref b] meth c cL_law 7 RL D cy (fun q : Nat => s.heap.size ≤ q)) (hE : X (fun q : Nat => s.heap.size ≤ q) s s.heap) (hT : EnvT X cy aK aV tO tT gO gT) (hN : EnvN X) (hl : l.stackTraces = false) (hx : va_X b L xs s s.heap) (hbl : b < s.heap.size) (hL : L ≤ 2560) (hr : meth.sig.returnType = ret) (hc0 : c0 ≤ 1000) (hs0 : s0 ≤ 10000) :
    ∀ (n t : Nat) (w : va_W), t + n = 513 → 5 * t ≤ L → JW cy a ba o w → vW p l e room_1 s m #[Value.ref b] below meth c D vwCl (fun q : Nat => s.heap.size ≤ q) (lw_Z below #[Value.ref b] s) 7 (c0 + 500 * t) (s0 + 10000 * t) w [some (.ref b), some (.ref (a 0 0)), some (.ref (ba 9)), some (.ref o), some (.int (nI (5 * t))), none, none] 27 [] := by
  have hbA : ¬ (fun q : Nat => s.heap.size ≤ q) b := Nat.not_le.mpr hbl
  have hRC : 258000 ≤ room_1.cells := Nat.le_of_ble_eq_true rfl
  have hRS : 5150000 ≤ room_1.slots := Nat.le_of_ble_eq_true rfl
  intro n
  induction n with
  | zero =>
    intro t w ht hi
    omega
  | succ n ih =>
    intro t w ht hi hJ
    refine r_iload C dL_law_27 rfl ?_
    refine r_aload_n C dL_law_29 rfl ?_
    refine r_slen C hx hbl hbA dL_law_30 ?_
    refine r_iconst (v := nI 5) C dL_law_31 (by decide) ?_
    refine r_isub C dL_law_32 ?_
    refine r_ic_gt (tgt := 3462) C dL_law_33 (by decide) (fun hgt => ?_) (fun hgt => ?_)
    · refine r_iconst (v := 1) C dL_law_3462 (by decide) ?_
      exact fun H locs ls hP hD hS hll => va_forget (fun q hq => hS.2.2 q hq) (W.widen (show c0 + 500 * t ≤ room_1.cells by omega) (show s0 + 10000 * t ≤ room_1.slots by omega) (lw_ret C.1 C.2.1 hr C.2.2.2.2.2.2.1 dL_law_3463))
    · have h5 : 5 * t + 5 ≤ L := by
        rw [sub5 hL (by omega)] at hgt
        omega
      have kk : ∀ w' : va_W, JW cy a ba o w' → vW p l e room_1 s m #[Value.ref b] below meth c D vwCl (fun q : Nat => s.heap.size ≤ q) (lw_Z below #[Value.ref b] s) 7 ((c0 + 500 * t) + 500) ((s0 + 10000 * t) + 10000) w' [some (.ref b), some (.ref (a 0 0)), some (.ref (ba 9)), some (.ref o), some (.int (nI (5 * t))), none, none] 3456 [] := fun w' hJ' => by
        refine r_iinc (v := nI (5 * (t + 1))) C dL_law_3456 rfl (by rw [show Int32.ofInt 5 = nI 5 from rfl, nI_add]; rfl) (by decide) rfl ?_
        refine r_goto (tgt := 27) C dL_law_3459 (by decide) ?_
        refine r_widen (k := c0 + 500 * (t + 1)) (n := s0 + 10000 * (t + 1)) (by omega) (by omega) ?_
        exact ih (t + 1) w' (by omega) (by omega) hJ'
      refine r_aload_n C dL_law_36 rfl ?_
      refine r_iload C dL_law_37 rfl ?_
      refine r_sld C hx hbl hbA (show 5 * t < L by omega) (by omega) dL_law_39 ?_
      refine r_bipush (v := 63) C dL_law_40 (by decide) ?_
      refine r_iand C dL_law_42 ?_
      have ha := and63 (xs (5 * t))
      rcases (show (xs (5 * t) &&& 63).toInt = 0 ∨ (xs (5 * t) &&& 63).toInt = 1 ∨ (xs (5 * t) &&& 63).toInt = 2 ∨ (xs (5 * t) &&& 63).toInt = 3 ∨ (xs (5 * t) &&& 63).toInt = 4 ∨ (xs (5 * t) &&& 63).toInt = 5 ∨ (xs (5 * t) &&& 63).toInt = 6 ∨ (xs (5 * t) &&& 63).toInt = 7 ∨ (xs (5 * t) &&& 63).toInt = 8 ∨ (xs (5 * t) &&& 63).toInt = 9 ∨ (xs (5 * t) &&& 63).toInt = 10 ∨ (xs (5 * t) &&& 63).toInt = 11 ∨ (xs (5 * t) &&& 63).toInt = 12 ∨ (xs (5 * t) &&& 63).toInt = 13 ∨ (xs (5 * t) &&& 63).toInt = 14 ∨ (xs (5 * t) &&& 63).toInt = 15 ∨ (xs (5 * t) &&& 63).toInt = 16 ∨ (xs (5 * t) &&& 63).toInt = 17 ∨ (xs (5 * t) &&& 63).toInt = 18 ∨ (xs (5 * t) &&& 63).toInt = 19 ∨ (xs (5 * t) &&& 63).toInt = 20 ∨ (xs (5 * t) &&& 63).toInt = 21 ∨ (xs (5 * t) &&& 63).toInt = 22 ∨ (xs (5 * t) &&& 63).toInt = 23 ∨ (xs (5 * t) &&& 63).toInt = 24 ∨ (xs (5 * t) &&& 63).toInt = 25 ∨ (xs (5 * t) &&& 63).toInt = 26 ∨ (xs (5 * t) &&& 63).toInt = 27 ∨ (xs (5 * t) &&& 63).toInt = 28 ∨ (xs (5 * t) &&& 63).toInt = 29 ∨ (xs (5 * t) &&& 63).toInt = 30 ∨ (xs (5 * t) &&& 63).toInt = 31 ∨ (xs (5 * t) &&& 63).toInt = 32 ∨ (xs (5 * t) &&& 63).toInt = 33 ∨ (xs (5 * t) &&& 63).toInt = 34 ∨ (xs (5 * t) &&& 63).toInt = 35 ∨ (xs (5 * t) &&& 63).toInt = 36 ∨ (xs (5 * t) &&& 63).toInt = 37 ∨ (xs (5 * t) &&& 63).toInt = 38 ∨ (xs (5 * t) &&& 63).toInt = 39 ∨ (xs (5 * t) &&& 63).toInt = 40 ∨ (xs (5 * t) &&& 63).toInt = 41 ∨ (xs (5 * t) &&& 63).toInt = 42 ∨ (xs (5 * t) &&& 63).toInt = 43 ∨ (xs (5 * t) &&& 63).toInt = 44 ∨ (xs (5 * t) &&& 63).toInt = 45 ∨ (xs (5 * t) &&& 63).toInt = 46 ∨ (xs (5 * t) &&& 63).toInt = 47 ∨ (xs (5 * t) &&& 63).toInt = 48 ∨ 48 < (xs (5 * t) &&& 63).toInt by omega) with hk | hk | hk | hk | hk | hk | hk | hk | hk | hk | hk | hk | hk | hk | hk | hk | hk | hk | hk | hk | hk | hk | hk | hk | hk | hk | hk | hk | hk | hk | hk | hk | hk | hk | hk | hk | hk | hk | hk | hk | hk | hk | hk | hk | hk | hk | hk | hk | hk | hk
      · refine r_tableIn (off := 209) (tgt := 252) C dL_law_43 (by omega) (by omega) (by rw [hk]; rfl) (by decide) ?_
        exact S_add (w := w) C hE hT hN hl hx hbl hbA (show 5 * t + 5 ≤ L by omega) hL (by omega) (by omega) hJ kk
      · refine r_tableIn (off := 278) (tgt := 321) C dL_law_43 (by omega) (by omega) (by rw [hk]; rfl) (by decide) ?_
        exact S_insert (w := w) C hE hT hN hl hx hbl hbA (show 5 * t + 5 ≤ L by omega) hL (by omega) (by omega) hJ kk
      · refine r_tableIn (off := 359) (tgt := 402) C dL_law_43 (by omega) (by omega) (by rw [hk]; rfl) (by decide) ?_
        exact S_set (w := w) C hE hT hN hl hx hbl hbA (show 5 * t + 5 ≤ L by omega) hL (by omega) (by omega) hJ kk
      · refine r_tableIn (off := 440) (tgt := 483) C dL_law_43 (by omega) (by omega) (by rw [hk]; rfl) (by decide) ?_
        exact S_remove (w := w) C hE hT hN hl hx hbl hbA (show 5 * t + 5 ≤ L by omega) hL (by omega) (by omega) hJ kk
      · refine r_tableIn (off := 509) (tgt := 552) C dL_law_43 (by omega) (by omega) (by rw [hk]; rfl) (by decide) ?_
        exact S_clear (w := w) C hE hT hN hl hx hbl hbA (show 5 * t + 5 ≤ L by omega) hL (by omega) (by omega) hJ kk
      · refine r_tableIn (off := 566) (tgt := 609) C dL_law_43 (by omega) (by omega) (by rw [hk]; rfl) (by decide) ?_
        exact S_splice (w := w) C hE hT hN hl hx hbl hbA (show 5 * t + 5 ≤ L by omega) hL (by omega) (by omega) hJ kk
      · refine r_tableIn (off := 659) (tgt := 702) C dL_law_43 (by omega) (by omega) (by rw [hk]; rfl) (by decide) ?_
        exact S_rotate (w := w) C hE hT hN hl hx hbl hbA (show 5 * t + 5 ≤ L by omega) hL (by omega) (by omega) hJ kk
      · refine r_tableIn (off := 728) (tgt := 771) C dL_law_43 (by omega) (by omega) (by rw [hk]; rfl) (by decide) ?_
        exact S_reverse (w := w) C hE hT hN hl hx hbl hbA (show 5 * t + 5 ≤ L by omega) hL (by omega) (by omega) hJ kk
      · refine r_tableIn (off := 785) (tgt := 828) C dL_law_43 (by omega) (by omega) (by rw [hk]; rfl) (by decide) ?_
        exact S_swap (w := w) C hE hT hN hl hx hbl hbA (show 5 * t + 5 ≤ L by omega) hL (by omega) (by omega) hJ kk
      · refine r_tableIn (off := 866) (tgt := 909) C dL_law_43 (by omega) (by omega) (by rw [hk]; rfl) (by decide) ?_
        exact S_riffle (w := w) C hE hT hN hl hx hbl hbA (show 5 * t + 5 ≤ L by omega) hL (by omega) (by omega) hJ kk
      · refine r_tableIn (off := 923) (tgt := 966) C dL_law_43 (by omega) (by omega) (by rw [hk]; rfl) (by decide) ?_
        exact S_unriffle (w := w) C hE hT hN hl hx hbl hbA (show 5 * t + 5 ≤ L by omega) hL (by omega) (by omega) hJ kk
      · refine r_tableIn (off := 980) (tgt := 1023) C dL_law_43 (by omega) (by omega) (by rw [hk]; rfl) (by decide) ?_
        exact S_sort (w := w) C hE hT hN hl hx hbl hbA (show 5 * t + 5 ≤ L by omega) hL (by omega) (by omega) hJ kk
      · refine r_tableIn (off := 1037) (tgt := 1080) C dL_law_43 (by omega) (by omega) (by rw [hk]; rfl) (by decide) ?_
        exact S_sortBy (w := w) C hE hT hN hl hx hbl hbA (show 5 * t + 5 ≤ L by omega) hL (by omega) (by omega) hJ kk
      · refine r_tableIn (off := 1106) (tgt := 1149) C dL_law_43 (by omega) (by omega) (by rw [hk]; rfl) (by decide) ?_
        exact S_get (w := w) C hE hT hN hl hx hbl hbA (show 5 * t + 5 ≤ L by omega) hL (by omega) (by omega) hJ kk
      · refine r_tableIn (off := 1175) (tgt := 1218) C dL_law_43 (by omega) (by omega) (by rw [hk]; rfl) (by decide) ?_
        exact S_size (w := w) C hE hT hN hl hx hbl hbA (show 5 * t + 5 ≤ L by omega) hL (by omega) (by omega) hJ kk
      · refine r_tableIn (off := 1232) (tgt := 1275) C dL_law_43 (by omega) (by omega) (by rw [hk]; rfl) (by decide) ?_
        exact S_partAt (w := w) C hE hT hN hl hx hbl hbA (show 5 * t + 5 ≤ L by omega) hL (by omega) (by omega) hJ kk
      · refine r_tableIn (off := 1301) (tgt := 1344) C dL_law_43 (by omega) (by omega) (by rw [hk]; rfl) (by decide) ?_
        exact S_fill (w := w) C hE hT hN hl hx hbl hbA (show 5 * t + 5 ≤ L by omega) hL (by omega) (by omega) hJ kk
      · refine r_tableIn (off := 1370) (tgt := 1413) C dL_law_43 (by omega) (by omega) (by rw [hk]; rfl) (by decide) ?_
        exact S_removeItem (w := w) C hE hT hN hl hx hbl hbA (show 5 * t + 5 ≤ L by omega) hL (by omega) (by omega) hJ kk
      · refine r_tableIn (off := 1439) (tgt := 1482) C dL_law_43 (by omega) (by omega) (by rw [hk]; rfl) (by decide) ?_
        exact S_addAll (w := w) C hE hT hN hl hx hbl hbA (show 5 * t + 5 ≤ L by omega) hL (by omega) (by omega) hJ kk
      · refine r_tableIn (off := 1520) (tgt := 1563) C dL_law_43 (by omega) (by omega) (by rw [hk]; rfl) (by decide) ?_
        exact S_removeAll (w := w) C hE hT hN hl hx hbl hbA (show 5 * t + 5 ≤ L by omega) hL (by omega) (by omega) hJ kk
      · refine r_tableIn (off := 1589) (tgt := 1632) C dL_law_43 (by omega) (by omega) (by rw [hk]; rfl) (by decide) ?_
        exact S_retainAll (w := w) C hE hT hN hl hx hbl hbA (show 5 * t + 5 ≤ L by omega) hL (by omega) (by omega) hJ kk
      · refine r_tableIn (off := 1658) (tgt := 1701) C dL_law_43 (by omega) (by omega) (by rw [hk]; rfl) (by decide) ?_
        exact S_copy (w := w) C hE hT hN hl hx hbl hbA (show 5 * t + 5 ≤ L by omega) hL (by omega) (by omega) hJ kk
      · refine r_tableIn (off := 1727) (tgt := 1770) C dL_law_43 (by omega) (by omega) (by rw [hk]; rfl) (by decide) ?_
        exact S_places (w := w) C hE hT hN hl hx hbl hbA (show 5 * t + 5 ≤ L by omega) hL (by omega) (by omega) hJ kk
      · refine r_tableIn (off := 1796) (tgt := 1839) C dL_law_43 (by omega) (by omega) (by rw [hk]; rfl) (by decide) ?_
        exact S_through (w := w) C hE hT hN hl hx hbl hbA (show 5 * t + 5 ≤ L by omega) hL (by omega) (by omega) hJ kk
      · refine r_tableIn (off := 1877) (tgt := 1920) C dL_law_43 (by omega) (by omega) (by rw [hk]; rfl) (by decide) ?_
        exact S_indexOf (w := w) C hE hT hN hl hx hbl hbA (show 5 * t + 5 ≤ L by omega) hL (by omega) (by omega) hJ kk
      · refine r_tableIn (off := 1946) (tgt := 1989) C dL_law_43 (by omega) (by omega) (by rw [hk]; rfl) (by decide) ?_
        exact S_lastIndexOf (w := w) C hE hT hN hl hx hbl hbA (show 5 * t + 5 ≤ L by omega) hL (by omega) (by omega) hJ kk
      · refine r_tableIn (off := 2015) (tgt := 2058) C dL_law_43 (by omega) (by omega) (by rw [hk]; rfl) (by decide) ?_
        exact S_contains (w := w) C hE hT hN hl hx hbl hbA (show 5 * t + 5 ≤ L by omega) hL (by omega) (by omega) hJ kk
      · refine r_tableIn (off := 2091) (tgt := 2134) C dL_law_43 (by omega) (by omega) (by rw [hk]; rfl) (by decide) ?_
        exact S_howOften (w := w) C hE hT hN hl hx hbl hbA (show 5 * t + 5 ≤ L by omega) hL (by omega) (by omega) hJ kk
      · refine r_tableIn (off := 2160) (tgt := 2203) C dL_law_43 (by omega) (by omega) (by rw [hk]; rfl) (by decide) ?_
        exact S_least (w := w) C hE hT hN hl hx hbl hbA (show 5 * t + 5 ≤ L by omega) hL (by omega) (by omega) hJ kk
      · refine r_tableIn (off := 2245) (tgt := 2288) C dL_law_43 (by omega) (by omega) (by rw [hk]; rfl) (by decide) ?_
        exact S_areApart (w := w) C hE hT hN hl hx hbl hbA (show 5 * t + 5 ≤ L by omega) hL (by omega) (by omega) hJ kk
      · refine r_tableIn (off := 2321) (tgt := 2364) C dL_law_43 (by omega) (by omega) (by rw [hk]; rfl) (by decide) ?_
        exact S_areSame (w := w) C hE hT hN hl hx hbl hbA (show 5 * t + 5 ≤ L by omega) hL (by omega) (by omega) hJ kk
      · refine r_tableIn (off := 2397) (tgt := 2440) C dL_law_43 (by omega) (by omega) (by rw [hk]; rfl) (by decide) ?_
        exact S_hash (w := w) C hE hT hN hl hx hbl hbA (show 5 * t + 5 ≤ L by omega) hL (by omega) (by omega) hJ kk
      · refine r_tableIn (off := 2454) (tgt := 2497) C dL_law_43 (by omega) (by omega) (by rw [hk]; rfl) (by decide) ?_
        exact S_text (w := w) C hE hT hN hl hx hbl hbA (show 5 * t + 5 ≤ L by omega) hL (by omega) (by omega) hJ kk
      · refine r_tableIn (off := 2512) (tgt := 2555) C dL_law_43 (by omega) (by omega) (by rw [hk]; rfl) (by decide) ?_
        exact S_inArray (w := w) C hE hT hN hl hx hbl hbA (show 5 * t + 5 ≤ L by omega) hL (by omega) (by omega) hJ kk
      · refine r_tableIn (off := 2581) (tgt := 2624) C dL_law_43 (by omega) (by omega) (by rw [hk]; rfl) (by decide) ?_
        exact S_window (w := w) C hE hT hN hl hx hbl hbA (show 5 * t + 5 ≤ L by omega) hL (by omega) (by omega) hJ kk
      · refine r_tableIn (off := 2674) (tgt := 2717) C dL_law_43 (by omega) (by omega) (by rw [hk]; rfl) (by decide) ?_
        exact S_close (w := w) C hE hT hN hl hx hbl hbA (show 5 * t + 5 ≤ L by omega) hL (by omega) (by omega) hJ kk
      · refine r_tableIn (off := 2731) (tgt := 2774) C dL_law_43 (by omega) (by omega) (by rw [hk]; rfl) (by decide) ?_
        exact S_ofWindow (w := w) C hE hT hN hl hx hbl hbA (show 5 * t + 5 ≤ L by omega) hL (by omega) (by omega) hJ kk
      · refine r_tableIn (off := 2800) (tgt := 2843) C dL_law_43 (by omega) (by omega) (by rw [hk]; rfl) (by decide) ?_
        exact S_open (w := w) C hE hT hN hl hx hbl hbA (show 5 * t + 5 ≤ L by omega) hL (by omega) (by omega) hJ kk
      · refine r_tableIn (off := 2881) (tgt := 2924) C dL_law_43 (by omega) (by omega) (by rw [hk]; rfl) (by decide) ?_
        exact S_shut (w := w) C hE hT hN hl hx hbl hbA (show 5 * t + 5 ≤ L by omega) hL (by omega) (by omega) hJ kk
      · refine r_tableIn (off := 2938) (tgt := 2981) C dL_law_43 (by omega) (by omega) (by rw [hk]; rfl) (by decide) ?_
        exact S_next (w := w) C hE hT hN hl hx hbl hbA (show 5 * t + 5 ≤ L by omega) hL (by omega) (by omega) hJ kk
      · refine r_tableIn (off := 2995) (tgt := 3038) C dL_law_43 (by omega) (by omega) (by rw [hk]; rfl) (by decide) ?_
        exact S_previous (w := w) C hE hT hN hl hx hbl hbA (show 5 * t + 5 ≤ L by omega) hL (by omega) (by omega) hJ kk
      · refine r_tableIn (off := 3052) (tgt := 3095) C dL_law_43 (by omega) (by omega) (by rw [hk]; rfl) (by decide) ?_
        exact S_put (w := w) C hE hT hN hl hx hbl hbA (show 5 * t + 5 ≤ L by omega) hL (by omega) (by omega) hJ kk
      · refine r_tableIn (off := 3121) (tgt := 3164) C dL_law_43 (by omega) (by omega) (by rw [hk]; rfl) (by decide) ?_
        exact S_take (w := w) C hE hT hN hl hx hbl hbA (show 5 * t + 5 ≤ L by omega) hL (by omega) (by omega) hJ kk
      · refine r_tableIn (off := 3178) (tgt := 3221) C dL_law_43 (by omega) (by omega) (by rw [hk]; rfl) (by decide) ?_
        exact S_replace (w := w) C hE hT hN hl hx hbl hbA (show 5 * t + 5 ≤ L by omega) hL (by omega) (by omega) hJ kk
      · refine r_tableIn (off := 3247) (tgt := 3290) C dL_law_43 (by omega) (by omega) (by rw [hk]; rfl) (by decide) ?_
        exact S_ofCursor (w := w) C hE hT hN hl hx hbl hbA (show 5 * t + 5 ≤ L by omega) hL (by omega) (by omega) hJ kk
      · refine r_tableIn (off := 3316) (tgt := 3359) C dL_law_43 (by omega) (by omega) (by rw [hk]; rfl) (by decide) ?_
        exact S_house (w := w) C hE hT hN hl hx hbl hbA (show 5 * t + 5 ≤ L by omega) hL (by omega) (by omega) hJ kk
      · refine r_tableIn (off := 3373) (tgt := 3416) C dL_law_43 (by omega) (by omega) (by rw [hk]; rfl) (by decide) ?_
        exact S_knock (w := w) C hE hT hN hl hx hbl hbA (show 5 * t + 5 ≤ L by omega) hL (by omega) (by omega) hJ kk
      · refine r_tableIn (off := 3386) (tgt := 3429) C dL_law_43 (by omega) (by omega) (by rw [hk]; rfl) (by decide) ?_
        exact S_isSound (w := w) C hE hT hN hl hx hbl hbA (show 5 * t + 5 ≤ L by omega) hL (by omega) (by omega) hJ kk
      · refine r_tableIn (off := 3399) (tgt := 3442) C dL_law_43 (by omega) (by omega) (by rw [hk]; rfl) (by decide) ?_
        exact S_digest (w := w) C hE hT hN hl hx hbl hbA (show 5 * t + 5 ≤ L by omega) hL (by omega) (by omega) hJ kk
      · refine r_tableOut (tgt := 3456) C dL_law_43 (Or.inr hk) (by decide) ?_
        refine r_widen (k := (c0 + 500 * t) + 500) (n := (s0 + 10000 * t) + 10000) (by omega) (by omega) ?_
        exact kk w hJ
