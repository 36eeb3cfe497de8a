/-! THE LAW'S LOOP -/
theorem dL_law_27 : decode cL_law 27 = .ok (.iload 4, 2) := dqo_21 4 (kb_0 27 rfl) (kb_0 28 rfl)
theorem dL_law_29 : decode cL_law 29 = .ok (.aload_n 0, 1) := dqo_42 (kb_0 29 rfl)
theorem dL_law_30 : decode cL_law 30 = .ok (.arraylength, 1) := dqo_190 (kb_0 30 rfl)
theorem dL_law_31 : decode cL_law 31 = .ok (.iconst 5, 1) := dqo_8 (kb_0 31 rfl)
theorem dL_law_32 : decode cL_law 32 = .ok (.isub, 1) := dqo_100 (kb_0 32 rfl)
theorem dL_law_33 : decode cL_law 33 = .ok (.if_icmp .gt 2101, 3) := dqo_163 8 53 (by decide) (kb_0 33 rfl) (kb_0 34 rfl) (kb_0 35 rfl)
theorem dL_law_36 : decode cL_law 36 = .ok (.aload_n 0, 1) := dqo_42 (kb_0 36 rfl)
theorem dL_law_37 : decode cL_law 37 = .ok (.iload 4, 2) := dqo_21 4 (kb_0 37 rfl) (kb_0 38 rfl)
theorem dL_law_39 : decode cL_law 39 = .ok (.iaload, 1) := dqo_46 (kb_0 39 rfl)
theorem dL_law_40 : decode cL_law 40 = .ok (.bipush 63, 2) := dqo_16 63 (by decide) (kb_0 40 rfl) (kb_0 41 rfl)
theorem dL_law_42 : decode cL_law 42 = .ok (.iand, 1) := dqo_126 (kb_0 42 rfl)
theorem dL_law_43 : decode cL_law 43 = .ok (.tableswitch 2085 0 48 #[209, 249, 301, 353, 393, 421, 485, 525, 553, 605, 662, 690, 718, 758, 798, 826, 866, 906, 946, 998, 1038, 1078, 1118, 1158, 1210, 1250, 1290, 1330, 1370, 1426, 1466, 1506, 1534, 1562, 1602, 1666, 1694, 1734, 1786, 1814, 1842, 1870, 1910, 1938, 1978, 2018, 2046, 2059, 2072], 209) := by decide +kernel
theorem dL_law_2128 : decode cL_law 2128 = .ok (.iinc 4 5, 3) := by decide +kernel
theorem dL_law_2131 : decode cL_law 2131 = .ok (.goto (-2104), 3) := by decide +kernel
theorem dL_law_2134 : decode cL_law 2134 = .ok (.iconst 1, 1) := by decide +kernel
theorem dL_law_2135 : decode cL_law 2135 = .ok (.ireturn, 1) := by decide +kernel
theorem and63 (x : Int32) : 0 ≤ (x &&& 63).toInt ∧ (x &&& 63).toInt ≤ 63 := by
  have h : (x &&& 63).toBitVec = x.toBitVec &&& 63#32 := rfl
  have h1 : (x &&& 63).toBitVec.toNat ≤ 63 := by
    rw [h, BitVec.toNat_and]
    exact Nat.and_le_right
  have h2 : (x &&& 63).toInt = ((x &&& 63).toBitVec.toNat : Int) := by
    show (x &&& 63).toBitVec.toInt = _
    rw [BitVec.toInt_eq_toNat_of_lt (by omega)]
  omega
theorem sub5 {L i : Nat} (hL : L ≤ 2560) (hi : i ≤ 2560) : nI L - nI 5 < nI i ↔ L < i + 5 := by
  have e1 : (nI L).toInt = (L : Int) := nI_toInt (by omega)
  have e2 : (nI L - nI 5).toInt = (L : Int) - 5 := by
    have e3 : (nI L - nI 5).toInt = ((nI L).toInt - (nI 5).toInt).bmod (2 ^ 32) := Int32.toInt_sub _ _
    rw [e3, e1, show (nI 5).toInt = 5 from rfl]
    exact Int.bmod_eq_of_le (by omega) (by omega)
  rw [Int32.lt_iff_toInt_lt, e2, nI_toInt (by omega)]
  omega
set_option maxHeartbeats 4000000 in
theorem law_loop {p : Program} {l : Launch} {e : Env} {s : State} {m : MethodId} {below : List Frame} {meth : Method} {c : Code} {D : va_G} {cy : Nat → ClassId} {X : (Nat → Prop) → State → Heap → Prop} {aK aV : Nat → Nat} {tO tT : Nat} {gO gT : Nat → Int32} {a : Nat → Nat → Nat} {ba : Nat → Nat} {o b L c0 s0 : Nat} {xs : Nat → Int32} (C : Fg p s m #[Value.ref b] meth c cL_law 7 RL D cy (fun q : Nat => s.heap.size ≤ q)) (hE : X (fun q : Nat => s.heap.size ≤ q) s s.heap) (hT : EnvT X cy aK aV tO tT gO gT) (hN : EnvN X) (hl : l.stackTraces = false) (hx : va_X b L xs s s.heap) (hbl : b < s.heap.size) (hL : L ≤ 2560) (hr : meth.sig.returnType = ret) (hc0 : c0 ≤ 1000) (hs0 : s0 ≤ 10000) :
    ∀ (n t : Nat) (w : va_W), t + n = 513 → 5 * t ≤ L → JW cy a ba o w → vW p l e room_1 s m #[Value.ref b] below meth c D vwCl (fun q : Nat => s.heap.size ≤ q) (lw_Z below #[Value.ref b] s) 7 (c0 + 500 * t) (s0 + 10000 * t) w [some (.ref b), some (.ref (a 0 0)), some (.ref (ba 9)), some (.ref o), some (.int (nI (5 * t))), none, none] 27 [] := by
  have hbA : ¬ (fun q : Nat => s.heap.size ≤ q) b := Nat.not_le.mpr hbl
  have hRC : 258000 ≤ room_1.cells := Nat.le_of_ble_eq_true rfl
  have hRS : 5150000 ≤ room_1.slots := Nat.le_of_ble_eq_true rfl
  intro n
  induction n with
  | zero =>
    intro t w ht hi
    omega
  | succ n ih =>
    intro t w ht hi hJ
    refine r_iload C dL_law_27 rfl ?_
    refine r_aload_n C dL_law_29 rfl ?_
    refine r_slen C hx hbl hbA dL_law_30 ?_
    refine r_iconst (v := nI 5) C dL_law_31 (by decide) ?_
    refine r_isub C dL_law_32 ?_
    refine r_ic_gt (tgt := 2134) C dL_law_33 (by decide) (fun hgt => ?_) (fun hgt => ?_)
    · refine r_iconst (v := 1) C dL_law_2134 (by decide) ?_
      exact fun H locs ls hP hD hS hll => va_forget (fun q hq => hS.2.2 q hq) (W.widen (show c0 + 500 * t ≤ room_1.cells by omega) (show s0 + 10000 * t ≤ room_1.slots by omega) (lw_ret C.1 C.2.1 hr C.2.2.2.2.2.2.1 dL_law_2135))
    · have h5 : 5 * t + 5 ≤ L := by
        rw [sub5 hL (by omega)] at hgt
        omega
      have kk : ∀ w' : va_W, JW cy a ba o w' → vW p l e room_1 s m #[Value.ref b] below meth c D vwCl (fun q : Nat => s.heap.size ≤ q) (lw_Z below #[Value.ref b] s) 7 ((c0 + 500 * t) + 500) ((s0 + 10000 * t) + 10000) w' [some (.ref b), some (.ref (a 0 0)), some (.ref (ba 9)), some (.ref o), some (.int (nI (5 * t))), none, none] 2128 [] := fun w' hJ' => by
        refine r_iinc (v := nI (5 * (t + 1))) C dL_law_2128 rfl (by rw [show Int32.ofInt 5 = nI 5 from rfl, nI_add]; rfl) (by decide) rfl ?_
        refine r_goto (tgt := 27) C dL_law_2131 (by decide) ?_
        refine r_widen (k := c0 + 500 * (t + 1)) (n := s0 + 10000 * (t + 1)) (by omega) (by omega) ?_
        exact ih (t + 1) w' (by omega) (by omega) hJ'
      refine r_aload_n C dL_law_36 rfl ?_
      refine r_iload C dL_law_37 rfl ?_
      refine r_sld C hx hbl hbA (show 5 * t < L by omega) (by omega) dL_law_39 ?_
      refine r_bipush (v := 63) C dL_law_40 (by decide) ?_
      refine r_iand C dL_law_42 ?_
      have ha := and63 (xs (5 * t))
      rcases (show (xs (5 * t) &&& 63).toInt = 0 ∨ (xs (5 * t) &&& 63).toInt = 1 ∨ (xs (5 * t) &&& 63).toInt = 2 ∨ (xs (5 * t) &&& 63).toInt = 3 ∨ (xs (5 * t) &&& 63).toInt = 4 ∨ (xs (5 * t) &&& 63).toInt = 5 ∨ (xs (5 * t) &&& 63).toInt = 6 ∨ (xs (5 * t) &&& 63).toInt = 7 ∨ (xs (5 * t) &&& 63).toInt = 8 ∨ (xs (5 * t) &&& 63).toInt = 9 ∨ (xs (5 * t) &&& 63).toInt = 10 ∨ (xs (5 * t) &&& 63).toInt = 11 ∨ (xs (5 * t) &&& 63).toInt = 12 ∨ (xs (5 * t) &&& 63).toInt = 13 ∨ (xs (5 * t) &&& 63).toInt = 14 ∨ (xs (5 * t) &&& 63).toInt = 15 ∨ (xs (5 * t) &&& 63).toInt = 16 ∨ (xs (5 * t) &&& 63).toInt = 17 ∨ (xs (5 * t) &&& 63).toInt = 18 ∨ (xs (5 * t) &&& 63).toInt = 19 ∨ (xs (5 * t) &&& 63).toInt = 20 ∨ (xs (5 * t) &&& 63).toInt = 21 ∨ (xs (5 * t) &&& 63).toInt = 22 ∨ (xs (5 * t) &&& 63).toInt = 23 ∨ (xs (5 * t) &&& 63).toInt = 24 ∨ (xs (5 * t) &&& 63).toInt = 25 ∨ (xs (5 * t) &&& 63).toInt = 26 ∨ (xs (5 * t) &&& 63).toInt = 27 ∨ (xs (5 * t) &&& 63).toInt = 28 ∨ (xs (5 * t) &&& 63).toInt = 29 ∨ (xs (5 * t) &&& 63).toInt = 30 ∨ (xs (5 * t) &&& 63).toInt = 31 ∨ (xs (5 * t) &&& 63).toInt = 32 ∨ (xs (5 * t) &&& 63).toInt = 33 ∨ (xs (5 * t) &&& 63).toInt = 34 ∨ (xs (5 * t) &&& 63).toInt = 35 ∨ (xs (5 * t) &&& 63).toInt = 36 ∨ (xs (5 * t) &&& 63).toInt = 37 ∨ (xs (5 * t) &&& 63).toInt = 38 ∨ (xs (5 * t) &&& 63).toInt = 39 ∨ (xs (5 * t) &&& 63).toInt = 40 ∨ (xs (5 * t) &&& 63).toInt = 41 ∨ (xs (5 * t) &&& 63).toInt = 42 ∨ (xs (5 * t) &&& 63).toInt = 43 ∨ (xs (5 * t) &&& 63).toInt = 44 ∨ (xs (5 * t) &&& 63).toInt = 45 ∨ (xs (5 * t) &&& 63).toInt = 46 ∨ (xs (5 * t) &&& 63).toInt = 47 ∨ (xs (5 * t) &&& 63).toInt = 48 ∨ 48 < (xs (5 * t) &&& 63).toInt by omega) with hk | hk | hk | hk | hk | hk | hk | hk | hk | hk | hk | hk | hk | hk | hk | hk | hk | hk | hk | hk | hk | hk | hk | hk | hk | hk | hk | hk | hk | hk | hk | hk | hk | hk | hk | hk | hk | hk | hk | hk | hk | hk | hk | hk | hk | hk | hk | hk | hk | hk
      · refine r_tableIn (off := 209) (tgt := 252) C dL_law_43 (by omega) (by omega) (by rw [hk]; rfl) (by decide) ?_
        exact S_add (w := w) C hE hT hN hl hx hbl hbA (show 5 * t + 5 ≤ L by omega) hL (by omega) (by omega) hJ kk
      · refine r_tableIn (off := 249) (tgt := 292) C dL_law_43 (by omega) (by omega) (by rw [hk]; rfl) (by decide) ?_
        exact S_insert (w := w) C hE hT hN hl hx hbl hbA (show 5 * t + 5 ≤ L by omega) hL (by omega) (by omega) hJ kk
      · refine r_tableIn (off := 301) (tgt := 344) C dL_law_43 (by omega) (by omega) (by rw [hk]; rfl) (by decide) ?_
        exact S_set (w := w) C hE hT hN hl hx hbl hbA (show 5 * t + 5 ≤ L by omega) hL (by omega) (by omega) hJ kk
      · refine r_tableIn (off := 353) (tgt := 396) C dL_law_43 (by omega) (by omega) (by rw [hk]; rfl) (by decide) ?_
        exact S_remove (w := w) C hE hT hN hl hx hbl hbA (show 5 * t + 5 ≤ L by omega) hL (by omega) (by omega) hJ kk
      · refine r_tableIn (off := 393) (tgt := 436) C dL_law_43 (by omega) (by omega) (by rw [hk]; rfl) (by decide) ?_
        exact S_clear (w := w) C hE hT hN hl hx hbl hbA (show 5 * t + 5 ≤ L by omega) hL (by omega) (by omega) hJ kk
      · refine r_tableIn (off := 421) (tgt := 464) C dL_law_43 (by omega) (by omega) (by rw [hk]; rfl) (by decide) ?_
        exact S_splice (w := w) C hE hT hN hl hx hbl hbA (show 5 * t + 5 ≤ L by omega) hL (by omega) (by omega) hJ kk
      · refine r_tableIn (off := 485) (tgt := 528) C dL_law_43 (by omega) (by omega) (by rw [hk]; rfl) (by decide) ?_
        exact S_rotate (w := w) C hE hT hN hl hx hbl hbA (show 5 * t + 5 ≤ L by omega) hL (by omega) (by omega) hJ kk
      · refine r_tableIn (off := 525) (tgt := 568) C dL_law_43 (by omega) (by omega) (by rw [hk]; rfl) (by decide) ?_
        exact S_reverse (w := w) C hE hT hN hl hx hbl hbA (show 5 * t + 5 ≤ L by omega) hL (by omega) (by omega) hJ kk
      · refine r_tableIn (off := 553) (tgt := 596) C dL_law_43 (by omega) (by omega) (by rw [hk]; rfl) (by decide) ?_
        exact S_swap (w := w) C hE hT hN hl hx hbl hbA (show 5 * t + 5 ≤ L by omega) hL (by omega) (by omega) hJ kk
      · refine r_tableIn (off := 605) (tgt := 648) C dL_law_43 (by omega) (by omega) (by rw [hk]; rfl) (by decide) ?_
        exact S_riffle (w := w) C hE hT hN hl hx hbl hbA (show 5 * t + 5 ≤ L by omega) hL (by omega) (by omega) hJ kk
      · refine r_tableIn (off := 662) (tgt := 705) C dL_law_43 (by omega) (by omega) (by rw [hk]; rfl) (by decide) ?_
        exact S_unriffle (w := w) C hE hT hN hl hx hbl hbA (show 5 * t + 5 ≤ L by omega) hL (by omega) (by omega) hJ kk
      · refine r_tableIn (off := 690) (tgt := 733) C dL_law_43 (by omega) (by omega) (by rw [hk]; rfl) (by decide) ?_
        exact S_sort (w := w) C hE hT hN hl hx hbl hbA (show 5 * t + 5 ≤ L by omega) hL (by omega) (by omega) hJ kk
      · refine r_tableIn (off := 718) (tgt := 761) C dL_law_43 (by omega) (by omega) (by rw [hk]; rfl) (by decide) ?_
        exact S_sortBy (w := w) C hE hT hN hl hx hbl hbA (show 5 * t + 5 ≤ L by omega) hL (by omega) (by omega) hJ kk
      · refine r_tableIn (off := 758) (tgt := 801) C dL_law_43 (by omega) (by omega) (by rw [hk]; rfl) (by decide) ?_
        exact S_get (w := w) C hE hT hN hl hx hbl hbA (show 5 * t + 5 ≤ L by omega) hL (by omega) (by omega) hJ kk
      · refine r_tableIn (off := 798) (tgt := 841) C dL_law_43 (by omega) (by omega) (by rw [hk]; rfl) (by decide) ?_
        exact S_size (w := w) C hE hT hN hl hx hbl hbA (show 5 * t + 5 ≤ L by omega) hL (by omega) (by omega) hJ kk
      · refine r_tableIn (off := 826) (tgt := 869) C dL_law_43 (by omega) (by omega) (by rw [hk]; rfl) (by decide) ?_
        exact S_partAt (w := w) C hE hT hN hl hx hbl hbA (show 5 * t + 5 ≤ L by omega) hL (by omega) (by omega) hJ kk
      · refine r_tableIn (off := 866) (tgt := 909) C dL_law_43 (by omega) (by omega) (by rw [hk]; rfl) (by decide) ?_
        exact S_fill (w := w) C hE hT hN hl hx hbl hbA (show 5 * t + 5 ≤ L by omega) hL (by omega) (by omega) hJ kk
      · refine r_tableIn (off := 906) (tgt := 949) C dL_law_43 (by omega) (by omega) (by rw [hk]; rfl) (by decide) ?_
        exact S_removeItem (w := w) C hE hT hN hl hx hbl hbA (show 5 * t + 5 ≤ L by omega) hL (by omega) (by omega) hJ kk
      · refine r_tableIn (off := 946) (tgt := 989) C dL_law_43 (by omega) (by omega) (by rw [hk]; rfl) (by decide) ?_
        exact S_addAll (w := w) C hE hT hN hl hx hbl hbA (show 5 * t + 5 ≤ L by omega) hL (by omega) (by omega) hJ kk
      · refine r_tableIn (off := 998) (tgt := 1041) C dL_law_43 (by omega) (by omega) (by rw [hk]; rfl) (by decide) ?_
        exact S_removeAll (w := w) C hE hT hN hl hx hbl hbA (show 5 * t + 5 ≤ L by omega) hL (by omega) (by omega) hJ kk
      · refine r_tableIn (off := 1038) (tgt := 1081) C dL_law_43 (by omega) (by omega) (by rw [hk]; rfl) (by decide) ?_
        exact S_retainAll (w := w) C hE hT hN hl hx hbl hbA (show 5 * t + 5 ≤ L by omega) hL (by omega) (by omega) hJ kk
      · refine r_tableIn (off := 1078) (tgt := 1121) C dL_law_43 (by omega) (by omega) (by rw [hk]; rfl) (by decide) ?_
        exact S_copy (w := w) C hE hT hN hl hx hbl hbA (show 5 * t + 5 ≤ L by omega) hL (by omega) (by omega) hJ kk
      · refine r_tableIn (off := 1118) (tgt := 1161) C dL_law_43 (by omega) (by omega) (by rw [hk]; rfl) (by decide) ?_
        exact S_places (w := w) C hE hT hN hl hx hbl hbA (show 5 * t + 5 ≤ L by omega) hL (by omega) (by omega) hJ kk
      · refine r_tableIn (off := 1158) (tgt := 1201) C dL_law_43 (by omega) (by omega) (by rw [hk]; rfl) (by decide) ?_
        exact S_through (w := w) C hE hT hN hl hx hbl hbA (show 5 * t + 5 ≤ L by omega) hL (by omega) (by omega) hJ kk
      · refine r_tableIn (off := 1210) (tgt := 1253) C dL_law_43 (by omega) (by omega) (by rw [hk]; rfl) (by decide) ?_
        exact S_indexOf (w := w) C hE hT hN hl hx hbl hbA (show 5 * t + 5 ≤ L by omega) hL (by omega) (by omega) hJ kk
      · refine r_tableIn (off := 1250) (tgt := 1293) C dL_law_43 (by omega) (by omega) (by rw [hk]; rfl) (by decide) ?_
        exact S_lastIndexOf (w := w) C hE hT hN hl hx hbl hbA (show 5 * t + 5 ≤ L by omega) hL (by omega) (by omega) hJ kk
      · refine r_tableIn (off := 1290) (tgt := 1333) C dL_law_43 (by omega) (by omega) (by rw [hk]; rfl) (by decide) ?_
        exact S_contains (w := w) C hE hT hN hl hx hbl hbA (show 5 * t + 5 ≤ L by omega) hL (by omega) (by omega) hJ kk
      · refine r_tableIn (off := 1330) (tgt := 1373) C dL_law_43 (by omega) (by omega) (by rw [hk]; rfl) (by decide) ?_
        exact S_howOften (w := w) C hE hT hN hl hx hbl hbA (show 5 * t + 5 ≤ L by omega) hL (by omega) (by omega) hJ kk
      · refine r_tableIn (off := 1370) (tgt := 1413) C dL_law_43 (by omega) (by omega) (by rw [hk]; rfl) (by decide) ?_
        exact S_least (w := w) C hE hT hN hl hx hbl hbA (show 5 * t + 5 ≤ L by omega) hL (by omega) (by omega) hJ kk
      · refine r_tableIn (off := 1426) (tgt := 1469) C dL_law_43 (by omega) (by omega) (by rw [hk]; rfl) (by decide) ?_
        exact S_areApart (w := w) C hE hT hN hl hx hbl hbA (show 5 * t + 5 ≤ L by omega) hL (by omega) (by omega) hJ kk
      · refine r_tableIn (off := 1466) (tgt := 1509) C dL_law_43 (by omega) (by omega) (by rw [hk]; rfl) (by decide) ?_
        exact S_areSame (w := w) C hE hT hN hl hx hbl hbA (show 5 * t + 5 ≤ L by omega) hL (by omega) (by omega) hJ kk
      · refine r_tableIn (off := 1506) (tgt := 1549) C dL_law_43 (by omega) (by omega) (by rw [hk]; rfl) (by decide) ?_
        exact S_hash (w := w) C hE hT hN hl hx hbl hbA (show 5 * t + 5 ≤ L by omega) hL (by omega) (by omega) hJ kk
      · refine r_tableIn (off := 1534) (tgt := 1577) C dL_law_43 (by omega) (by omega) (by rw [hk]; rfl) (by decide) ?_
        exact S_text (w := w) C hE hT hN hl hx hbl hbA (show 5 * t + 5 ≤ L by omega) hL (by omega) (by omega) hJ kk
      · refine r_tableIn (off := 1562) (tgt := 1605) C dL_law_43 (by omega) (by omega) (by rw [hk]; rfl) (by decide) ?_
        exact S_inArray (w := w) C hE hT hN hl hx hbl hbA (show 5 * t + 5 ≤ L by omega) hL (by omega) (by omega) hJ kk
      · refine r_tableIn (off := 1602) (tgt := 1645) C dL_law_43 (by omega) (by omega) (by rw [hk]; rfl) (by decide) ?_
        exact S_window (w := w) C hE hT hN hl hx hbl hbA (show 5 * t + 5 ≤ L by omega) hL (by omega) (by omega) hJ kk
      · refine r_tableIn (off := 1666) (tgt := 1709) C dL_law_43 (by omega) (by omega) (by rw [hk]; rfl) (by decide) ?_
        exact S_close (w := w) C hE hT hN hl hx hbl hbA (show 5 * t + 5 ≤ L by omega) hL (by omega) (by omega) hJ kk
      · refine r_tableIn (off := 1694) (tgt := 1737) C dL_law_43 (by omega) (by omega) (by rw [hk]; rfl) (by decide) ?_
        exact S_ofWindow (w := w) C hE hT hN hl hx hbl hbA (show 5 * t + 5 ≤ L by omega) hL (by omega) (by omega) hJ kk
      · refine r_tableIn (off := 1734) (tgt := 1777) C dL_law_43 (by omega) (by omega) (by rw [hk]; rfl) (by decide) ?_
        exact S_open (w := w) C hE hT hN hl hx hbl hbA (show 5 * t + 5 ≤ L by omega) hL (by omega) (by omega) hJ kk
      · refine r_tableIn (off := 1786) (tgt := 1829) C dL_law_43 (by omega) (by omega) (by rw [hk]; rfl) (by decide) ?_
        exact S_shut (w := w) C hE hT hN hl hx hbl hbA (show 5 * t + 5 ≤ L by omega) hL (by omega) (by omega) hJ kk
      · refine r_tableIn (off := 1814) (tgt := 1857) C dL_law_43 (by omega) (by omega) (by rw [hk]; rfl) (by decide) ?_
        exact S_next (w := w) C hE hT hN hl hx hbl hbA (show 5 * t + 5 ≤ L by omega) hL (by omega) (by omega) hJ kk
      · refine r_tableIn (off := 1842) (tgt := 1885) C dL_law_43 (by omega) (by omega) (by rw [hk]; rfl) (by decide) ?_
        exact S_previous (w := w) C hE hT hN hl hx hbl hbA (show 5 * t + 5 ≤ L by omega) hL (by omega) (by omega) hJ kk
      · refine r_tableIn (off := 1870) (tgt := 1913) C dL_law_43 (by omega) (by omega) (by rw [hk]; rfl) (by decide) ?_
        exact S_put (w := w) C hE hT hN hl hx hbl hbA (show 5 * t + 5 ≤ L by omega) hL (by omega) (by omega) hJ kk
      · refine r_tableIn (off := 1910) (tgt := 1953) C dL_law_43 (by omega) (by omega) (by rw [hk]; rfl) (by decide) ?_
        exact S_take (w := w) C hE hT hN hl hx hbl hbA (show 5 * t + 5 ≤ L by omega) hL (by omega) (by omega) hJ kk
      · refine r_tableIn (off := 1938) (tgt := 1981) C dL_law_43 (by omega) (by omega) (by rw [hk]; rfl) (by decide) ?_
        exact S_replace (w := w) C hE hT hN hl hx hbl hbA (show 5 * t + 5 ≤ L by omega) hL (by omega) (by omega) hJ kk
      · refine r_tableIn (off := 1978) (tgt := 2021) C dL_law_43 (by omega) (by omega) (by rw [hk]; rfl) (by decide) ?_
        exact S_ofCursor (w := w) C hE hT hN hl hx hbl hbA (show 5 * t + 5 ≤ L by omega) hL (by omega) (by omega) hJ kk
      · refine r_tableIn (off := 2018) (tgt := 2061) C dL_law_43 (by omega) (by omega) (by rw [hk]; rfl) (by decide) ?_
        exact S_house (w := w) C hE hT hN hl hx hbl hbA (show 5 * t + 5 ≤ L by omega) hL (by omega) (by omega) hJ kk
      · refine r_tableIn (off := 2046) (tgt := 2089) C dL_law_43 (by omega) (by omega) (by rw [hk]; rfl) (by decide) ?_
        exact S_knock (w := w) C hE hT hN hl hx hbl hbA (show 5 * t + 5 ≤ L by omega) hL (by omega) (by omega) hJ kk
      · refine r_tableIn (off := 2059) (tgt := 2102) C dL_law_43 (by omega) (by omega) (by rw [hk]; rfl) (by decide) ?_
        exact S_isSound (w := w) C hE hT hN hl hx hbl hbA (show 5 * t + 5 ≤ L by omega) hL (by omega) (by omega) hJ kk
      · refine r_tableIn (off := 2072) (tgt := 2115) C dL_law_43 (by omega) (by omega) (by rw [hk]; rfl) (by decide) ?_
        exact S_digest (w := w) C hE hT hN hl hx hbl hbA (show 5 * t + 5 ≤ L by omega) hL (by omega) (by omega) hJ kk
      · refine r_tableOut (tgt := 2128) C dL_law_43 (Or.inr hk) (by decide) ?_
        refine r_widen (k := (c0 + 500 * t) + 500) (n := (s0 + 10000 * t) + 10000) (by omega) (by omega) ?_
        exact kk w hJ
