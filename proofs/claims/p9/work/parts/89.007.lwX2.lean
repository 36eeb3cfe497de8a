set_option maxRecDepth 100000 in
theorem lwX_of {args : Array Value} {s : State} {cy : Nat → ClassId} {A : Nat → Prop} (tb : ∀ w ∈ tables_1, w.before args s = true) (fl : ∀ w ∈ FLL, w.before args s = true) (hA : ∀ a : Nat, a < s.heap.size → ¬ A a) (hI : AOI cy s) : ∃ (aK aV : Nat → Nat) (tO tT : Nat), lwX cy aK aV tO tT gO0 gT0 A s s.heap := by
  obtain ⟨x0, y0, u0, v0⟩ := ks_one (own := "Splicemonoid$Part") (k := 75) (n := 2) (bs := [44, 32]) (by decide) (fl _ (List.mem_of_getElem? (i := 404) rfl)) (fl _ (List.mem_of_getElem? (i := 405) rfl)) (fl _ (List.mem_of_getElem? (i := 406) rfl)) (fl _ (List.mem_of_getElem? (i := 407) rfl)) (fun j hj => by
    rcases (show j = 0 ∨ j = 1 by omega) with rfl | rfl
    · exact (fl _ (List.mem_of_getElem? (i := 408) rfl))
    · exact (fl _ (List.mem_of_getElem? (i := 409) rfl))) hA
  obtain ⟨x1, y1, u1, v1⟩ := ks_one (own := "SplicemonoidModel") (k := 151) (n := 0) (bs := []) (by decide) (fl _ (List.mem_of_getElem? (i := 820) rfl)) (fl _ (List.mem_of_getElem? (i := 821) rfl)) (fl _ (List.mem_of_getElem? (i := 822) rfl)) (fl _ (List.mem_of_getElem? (i := 823) rfl)) (fun j hj => absurd hj (Nat.not_lt_zero _)) hA
  obtain ⟨x2, y2, u2, v2⟩ := ks_one (own := "SplicemonoidModel") (k := 166) (n := 2) (bs := [44, 32]) (by decide) (fl _ (List.mem_of_getElem? (i := 824) rfl)) (fl _ (List.mem_of_getElem? (i := 825) rfl)) (fl _ (List.mem_of_getElem? (i := 826) rfl)) (fl _ (List.mem_of_getElem? (i := 827) rfl)) (fun j hj => by
    rcases (show j = 0 ∨ j = 1 by omega) with rfl | rfl
    · exact (fl _ (List.mem_of_getElem? (i := 828) rfl))
    · exact (fl _ (List.mem_of_getElem? (i := 829) rfl))) hA
  obtain ⟨x3, y3, u3, v3⟩ := ks_one (own := "SplicemonoidModel") (k := 175) (n := 1) (bs := [91]) (by decide) (fl _ (List.mem_of_getElem? (i := 831) rfl)) (fl _ (List.mem_of_getElem? (i := 832) rfl)) (fl _ (List.mem_of_getElem? (i := 833) rfl)) (fl _ (List.mem_of_getElem? (i := 834) rfl)) (fun j hj => by
    obtain rfl : j = 0 := by omega
    exact (fl _ (List.mem_of_getElem? (i := 835) rfl))) hA
  obtain ⟨x4, y4, u4, v4⟩ := ks_one (own := "SplicemonoidModel") (k := 177) (n := 1) (bs := [93]) (by decide) (fl _ (List.mem_of_getElem? (i := 836) rfl)) (fl _ (List.mem_of_getElem? (i := 837) rfl)) (fl _ (List.mem_of_getElem? (i := 838) rfl)) (fl _ (List.mem_of_getElem? (i := 839) rfl)) (fun j hj => by
    obtain rfl : j = 0 := by omega
    exact (fl _ (List.mem_of_getElem? (i := 840) rfl))) hA
  obtain ⟨tO, o1, o2⟩ := va_Tof (args := args) (s := s) (tm := .static "java/lang/Integer" "DigitOnes" "[B") (ty := .byte) (N := 100) (f := fun j => .int (gO0 j)) (A := A) (by decide) (fl _ (List.mem_of_getElem? (i := 12) rfl)) (va_eqt (fl _ (List.mem_of_getElem? (i := 13) rfl))) (fun j hj => va_eqt (fl _ (List.mem_of_getElem? (digO j hj)))) hA
  obtain ⟨tT, p1, p2⟩ := va_Tof (args := args) (s := s) (tm := .static "java/lang/Integer" "DigitTens" "[B") (ty := .byte) (N := 100) (f := fun j => .int (gT0 j)) (A := A) (by decide) (fl _ (List.mem_of_getElem? (i := 115) rfl)) (va_eqt (fl _ (List.mem_of_getElem? (i := 116) rfl))) (fun j hj => va_eqt (fl _ (List.mem_of_getElem? (digT j hj)))) hA
  refine ⟨fun i => [x0, x1, x2, x3, x4].getD i 0, fun i => [y0, y1, y2, y3, y4].getD i 0, tO, tT, fun w hw => va_Nw.of (nwk_on (List.mem_filter.mp hw).2) (tb w (List.mem_filter.mp hw).1), ⟨?_, ?_⟩, srl_ok tb fl, hI, ⟨?_, ?_, ?_, ?_, o2, ?_, p2⟩, fun w hw => va_Nw.of (pvk_on (List.mem_filter.mp hw).2) (tb w (List.mem_filter.mp hw).1), ⟨va_AO.of (tb _ (gm_1 68 rfl)), va_AO.of (tb _ (gm_1 34 rfl)), aoai_of (tb _ (gm_5 193 rfl))⟩, ncl_ok fl⟩
  · exact vx_Zqof (tb _ (gm_2 2 rfl)) (tb _ (gm_1 6 rfl)) (fl _ (List.mem_of_getElem? (i := 4) rfl)) hA
  · exact vx_Zqof (tb _ (gm_2 4 rfl)) (tb _ (gm_1 6 rfl)) (fl _ (List.mem_of_getElem? (i := 5) rfl)) hA
  · intro i hi
    rcases (show i = 0 ∨ i = 1 ∨ i = 2 ∨ i = 3 ∨ i = 4 by omega) with rfl | rfl | rfl | rfl | rfl
    · exact u0
    · exact u1
    · exact u2
    · exact u3
    · exact u4
  · intro i q hq
    rcases Nat.lt_or_ge i 5 with hi | hi
    · rcases (show i = 0 ∨ i = 1 ∨ i = 2 ∨ i = 3 ∨ i = 4 by omega) with rfl | rfl | rfl | rfl | rfl
      · cases hq
        exact vk_R.of (tb _ (gm_3 163 rfl)) v0
      · cases hq
        exact vk_R.of (tb _ (gm_6 231 rfl)) v1
      · cases hq
        exact vk_R.of (tb _ (gm_7 3 rfl)) v2
      · cases hq
        exact vk_R.of (tb _ (gm_7 6 rfl)) v3
      · cases hq
        exact vk_R.of (tb _ (gm_7 7 rfl)) v4
    · rw [List.getElem?_eq_none (show KSL.length ≤ i from hi)] at hq
      cases hq
  · exact va_Zof (tb _ (gm_2 75 rfl)) (tb _ (gm_1 16 rfl)) (va_eqi (fl _ (List.mem_of_getElem? (i := 6) rfl))) hA
  · exact va_Zof (tb _ (gm_3 8 rfl)) (tb _ (gm_1 22 rfl)) o1 hA
  · exact va_Zof (tb _ (gm_3 10 rfl)) (tb _ (gm_1 22 rfl)) p1 hA

