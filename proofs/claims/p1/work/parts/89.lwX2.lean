/-! THE LAW'S START: WHAT THE STATEMENT GIVES -/
def FLL : List Cond := flatC (Jvm.Cond.and given_1 narrow_1)
def gO0 (j : Nat) : Int32 := Int32.ofNat (48 + j % 10)
def gT0 (j : Nat) : Int32 := Int32.ofNat (48 + j / 10)
theorem vk_ex {args : Array Value} {s : State} {own tx : String} {k : Nat} (h1 : (Cond.stringRef own k tx).before args s = true) (h2 : (Cond.exactly (.string own k) "java/lang/String").before args s = true) : ∃ sa, vk_R own k tx sa s := by
  obtain ⟨a, -, -, -, q1, -⟩ := Cond.exactly_spec (args := args) (first := s) (o := none) (s := s) (idx := []) (t := .string own k) (cls := "java/lang/String") h2
  exact ⟨a, vk_R.of h1 q1⟩
theorem ks_one {args : Array Value} {s : State} {own : String} {k n : Nat} {bs : List Int32} {A : Nat → Prop} (hn : n < 2 ^ 31) (hex : (Cond.exactly (.string own k) "java/lang/String").before args s = true) (hco : (Cond.eq (.field (.string own k) "java/lang/String" "coder" "B") (.int 0)).before args s = true)
    (har : (Cond.arrayOf (.field (.string own k) "java/lang/String" "value" "[B") .byte).before args s = true) (hle : (Cond.eq (.length (.field (.string own k) "java/lang/String" "value" "[B")) (.int (Int32.ofNat n))).before args s = true)
    (hel : ∀ j : Nat, j < n → (Cond.eq (.elem (.field (.string own k) "java/lang/String" "value" "[B") (.int (Int32.ofNat j))) (.int (bs.getD j 0))).before args s = true) (hA : ∀ a : Nat, a < s.heap.size → ¬ A a) :
    ∃ x y : Nat, vk_S 1 [n] [bs] (fun _ => x) (fun _ => y) A s s.heap ∧ (Term.string own k).eval args s none [] s = some (.ref x) := by
  obtain ⟨adK, adV, h1, h2⟩ := vk_Sof (args := args) (s := s) (N := 1) (tm := fun _ => .string own k) (len := [n]) (byt := [bs]) (A := A) (fun i hi => by
    obtain rfl : i = 0 := by omega
    exact hn) (fun _ _ => hex) (fun _ _ => hco) (fun _ _ => har) (fun i hi => by
    obtain rfl : i = 0 := by omega
    exact hle) (fun i hi j hj => by
    obtain rfl : i = 0 := by omega
    exact hel j hj) (fun i j hi hj hne => absurd (show i = j by omega) hne) hA
  exact ⟨adK 0, adV 0, ⟨fun i hi => by
    obtain rfl : i = 0 := by omega
    exact h1.1 0 hi, fun i j hi hj _ => by omega⟩, h2 0 (by decide)⟩
theorem aoai_of {args : Array Value} {s : State} (h : (Cond.arrayOver (.array .int)).before args s = true) : AOAI s := h
theorem nwk_on {w : Cond} (h : nwk w = true) : w.onTables = true := by
  cases w <;> first | rfl | (simp [nwk] at h)
theorem pvk_on {w : Cond} (h : pvk w = true) : w.onTables = true := by
  cases w <;> first | rfl | (simp [pvk] at h)
theorem digO : ∀ j : Nat, j < 100 → FLL[14 + j]? = some (Cond.eq (.elem (.static "java/lang/Integer" "DigitOnes" "[B") (.int (Int32.ofNat j))) (.int (gO0 j))) := by decide +kernel
theorem digT : ∀ j : Nat, j < 100 → FLL[117 + j]? = some (Cond.eq (.elem (.static "java/lang/Integer" "DigitTens" "[B") (.int (Int32.ofNat j))) (.int (gT0 j))) := by decide +kernel
set_option maxRecDepth 100000 in
theorem srl_ok {args : Array Value} {s : State} (tb : ∀ w ∈ tables_1, w.before args s = true) (fl : ∀ w ∈ FLL, w.before args s = true) : ∀ q ∈ SRL, ∃ sa, vk_R q.1 q.2.1 q.2.2 sa s := List.forall_mem_cons.mpr ⟨vk_ex (tb _ (gm_2 18 rfl)) (fl _ (List.mem_of_getElem? (i := 292) rfl)), List.forall_mem_cons.mpr ⟨vk_ex (tb _ (gm_2 115 rfl)) (fl _ (List.mem_of_getElem? (i := 321) rfl)), List.forall_mem_cons.mpr ⟨vk_ex (tb _ (gm_3 59 rfl)) (fl _ (List.mem_of_getElem? (i := 352) rfl)), List.forall_mem_cons.mpr ⟨vk_ex (tb _ (gm_3 107 rfl)) (fl _ (List.mem_of_getElem? (i := 359) rfl)), List.forall_mem_cons.mpr ⟨vk_ex (tb _ (gm_3 108 rfl)) (fl _ (List.mem_of_getElem? (i := 373) rfl)), List.forall_mem_cons.mpr ⟨vk_ex (tb _ (gm_3 109 rfl)) (fl _ (List.mem_of_getElem? (i := 389) rfl)), List.forall_mem_cons.mpr ⟨vk_ex (tb _ (gm_3 126 rfl)) (fl _ (List.mem_of_getElem? (i := 394) rfl)), List.forall_mem_cons.mpr ⟨vk_ex (tb _ (gm_3 163 rfl)) (fl _ (List.mem_of_getElem? (i := 424) rfl)), List.forall_mem_cons.mpr ⟨vk_ex (tb _ (gm_3 187 rfl)) (fl _ (List.mem_of_getElem? (i := 430) rfl)), List.forall_mem_cons.mpr ⟨vk_ex (tb _ (gm_3 202 rfl)) (fl _ (List.mem_of_getElem? (i := 457) rfl)), List.forall_mem_cons.mpr ⟨vk_ex (tb _ (gm_3 231 rfl)) (fl _ (List.mem_of_getElem? (i := 484) rfl)), List.forall_mem_cons.mpr ⟨vk_ex (tb _ (gm_3 235 rfl)) (fl _ (List.mem_of_getElem? (i := 518) rfl)), List.forall_mem_cons.mpr ⟨vk_ex (tb _ (gm_4 9 rfl)) (fl _ (List.mem_of_getElem? (i := 547) rfl)), List.forall_mem_cons.mpr ⟨vk_ex (tb _ (gm_4 59 rfl)) (fl _ (List.mem_of_getElem? (i := 577) rfl)), List.forall_mem_cons.mpr ⟨vk_ex (tb _ (gm_4 97 rfl)) (fl _ (List.mem_of_getElem? (i := 603) rfl)), List.forall_mem_cons.mpr ⟨vk_ex (tb _ (gm_4 145 rfl)) (fl _ (List.mem_of_getElem? (i := 633) rfl)), List.forall_mem_cons.mpr ⟨vk_ex (tb _ (gm_4 177 rfl)) (fl _ (List.mem_of_getElem? (i := 664) rfl)), List.forall_mem_cons.mpr ⟨vk_ex (tb _ (gm_4 237 rfl)) (fl _ (List.mem_of_getElem? (i := 688) rfl)), List.forall_mem_cons.mpr ⟨vk_ex (tb _ (gm_5 40 rfl)) (fl _ (List.mem_of_getElem? (i := 715) rfl)), List.forall_mem_cons.mpr ⟨vk_ex (tb _ (gm_5 86 rfl)) (fl _ (List.mem_of_getElem? (i := 739) rfl)), List.forall_mem_cons.mpr ⟨vk_ex (tb _ (gm_5 117 rfl)) (fl _ (List.mem_of_getElem? (i := 783) rfl)), List.forall_mem_cons.mpr ⟨vk_ex (tb _ (gm_5 140 rfl)) (fl _ (List.mem_of_getElem? (i := 813) rfl)), List.forall_mem_cons.mpr ⟨vk_ex (tb _ (gm_6 231 rfl)) (fl _ (List.mem_of_getElem? (i := 840) rfl)), List.forall_mem_cons.mpr ⟨vk_ex (tb _ (gm_7 3 rfl)) (fl _ (List.mem_of_getElem? (i := 844) rfl)), List.forall_mem_cons.mpr ⟨vk_ex (tb _ (gm_7 6 rfl)) (fl _ (List.mem_of_getElem? (i := 851) rfl)), List.forall_mem_cons.mpr ⟨vk_ex (tb _ (gm_7 7 rfl)) (fl _ (List.mem_of_getElem? (i := 856) rfl)), fun _ h => absurd h List.not_mem_nil⟩⟩⟩⟩⟩⟩⟩⟩⟩⟩⟩⟩⟩⟩⟩⟩⟩⟩⟩⟩⟩⟩⟩⟩⟩⟩
set_option maxRecDepth 100000 in
theorem ncl_ok {args : Array Value} {s : State} (fl : ∀ w ∈ FLL, w.before args s = true) : ∀ q ∈ NCL, va_Nc q.1 q.2 s := List.forall_mem_cons.mpr ⟨va_Nc.of (fl _ (List.mem_of_getElem? (i := 222) rfl)), List.forall_mem_cons.mpr ⟨va_Nc.of (fl _ (List.mem_of_getElem? (i := 223) rfl)), List.forall_mem_cons.mpr ⟨va_Nc.of (fl _ (List.mem_of_getElem? (i := 232) rfl)), fun _ h => absurd h List.not_mem_nil⟩⟩⟩
set_option maxRecDepth 100000 in
theorem lwX_of {args : Array Value} {s : State} {cy : Nat → ClassId} {A : Nat → Prop} (tb : ∀ w ∈ tables_1, w.before args s = true) (fl : ∀ w ∈ FLL, w.before args s = true) (hA : ∀ a : Nat, a < s.heap.size → ¬ A a) (hI : AOI cy s) : ∃ (aK aV : Nat → Nat) (tO tT : Nat), lwX cy aK aV tO tT gO0 gT0 A s s.heap := by
  obtain ⟨x0, y0, u0, v0⟩ := ks_one (own := "Splicemonoid$Part") (k := 75) (n := 2) (bs := [44, 32]) (by decide) (fl _ (List.mem_of_getElem? (i := 424) rfl)) (fl _ (List.mem_of_getElem? (i := 425) rfl)) (fl _ (List.mem_of_getElem? (i := 426) rfl)) (fl _ (List.mem_of_getElem? (i := 427) rfl)) (fun j hj => by
    rcases (show j = 0 ∨ j = 1 by omega) with rfl | rfl
    · exact (fl _ (List.mem_of_getElem? (i := 428) rfl))
    · exact (fl _ (List.mem_of_getElem? (i := 429) rfl))) hA
  obtain ⟨x1, y1, u1, v1⟩ := ks_one (own := "SplicemonoidModel") (k := 151) (n := 0) (bs := []) (by decide) (fl _ (List.mem_of_getElem? (i := 840) rfl)) (fl _ (List.mem_of_getElem? (i := 841) rfl)) (fl _ (List.mem_of_getElem? (i := 842) rfl)) (fl _ (List.mem_of_getElem? (i := 843) rfl)) (fun j hj => absurd hj (Nat.not_lt_zero _)) hA
  obtain ⟨x2, y2, u2, v2⟩ := ks_one (own := "SplicemonoidModel") (k := 166) (n := 2) (bs := [44, 32]) (by decide) (fl _ (List.mem_of_getElem? (i := 844) rfl)) (fl _ (List.mem_of_getElem? (i := 845) rfl)) (fl _ (List.mem_of_getElem? (i := 846) rfl)) (fl _ (List.mem_of_getElem? (i := 847) rfl)) (fun j hj => by
    rcases (show j = 0 ∨ j = 1 by omega) with rfl | rfl
    · exact (fl _ (List.mem_of_getElem? (i := 848) rfl))
    · exact (fl _ (List.mem_of_getElem? (i := 849) rfl))) hA
  obtain ⟨x3, y3, u3, v3⟩ := ks_one (own := "SplicemonoidModel") (k := 175) (n := 1) (bs := [91]) (by decide) (fl _ (List.mem_of_getElem? (i := 851) rfl)) (fl _ (List.mem_of_getElem? (i := 852) rfl)) (fl _ (List.mem_of_getElem? (i := 853) rfl)) (fl _ (List.mem_of_getElem? (i := 854) rfl)) (fun j hj => by
    obtain rfl : j = 0 := by omega
    exact (fl _ (List.mem_of_getElem? (i := 855) rfl))) hA
  obtain ⟨x4, y4, u4, v4⟩ := ks_one (own := "SplicemonoidModel") (k := 177) (n := 1) (bs := [93]) (by decide) (fl _ (List.mem_of_getElem? (i := 856) rfl)) (fl _ (List.mem_of_getElem? (i := 857) rfl)) (fl _ (List.mem_of_getElem? (i := 858) rfl)) (fl _ (List.mem_of_getElem? (i := 859) rfl)) (fun j hj => by
    obtain rfl : j = 0 := by omega
    exact (fl _ (List.mem_of_getElem? (i := 860) rfl))) hA
  obtain ⟨tO, o1, o2⟩ := va_Tof (args := args) (s := s) (tm := .static "java/lang/Integer" "DigitOnes" "[B") (ty := .byte) (N := 100) (f := fun j => .int (gO0 j)) (A := A) (by decide) (fl _ (List.mem_of_getElem? (i := 12) rfl)) (va_eqt (fl _ (List.mem_of_getElem? (i := 13) rfl))) (fun j hj => va_eqt (fl _ (List.mem_of_getElem? (digO j hj)))) hA
  obtain ⟨tT, p1, p2⟩ := va_Tof (args := args) (s := s) (tm := .static "java/lang/Integer" "DigitTens" "[B") (ty := .byte) (N := 100) (f := fun j => .int (gT0 j)) (A := A) (by decide) (fl _ (List.mem_of_getElem? (i := 115) rfl)) (va_eqt (fl _ (List.mem_of_getElem? (i := 116) rfl))) (fun j hj => va_eqt (fl _ (List.mem_of_getElem? (digT j hj)))) hA
  refine ⟨fun i => [x0, x1, x2, x3, x4].getD i 0, fun i => [y0, y1, y2, y3, y4].getD i 0, tO, tT, fun w hw => va_Nw.of (nwk_on (List.mem_filter.mp hw).2) (tb w (List.mem_filter.mp hw).1), ⟨?_, ?_⟩, srl_ok tb fl, hI, ⟨?_, ?_, ?_, ?_, o2, ?_, p2⟩, fun w hw => va_Nw.of (pvk_on (List.mem_filter.mp hw).2) (tb w (List.mem_filter.mp hw).1), ⟨va_AO.of (tb _ (gm_1 68 rfl)), va_AO.of (tb _ (gm_1 34 rfl)), aoai_of (tb _ (gm_5 193 rfl))⟩, ncl_ok fl⟩
  · exact vx_Zqof (tb _ (gm_2 2 rfl)) (tb _ (gm_1 6 rfl)) (fl _ (List.mem_of_getElem? (i := 4) rfl)) hA
  · exact vx_Zqof (tb _ (gm_2 4 rfl)) (tb _ (gm_1 6 rfl)) (fl _ (List.mem_of_getElem? (i := 5) rfl)) hA
  · intro i hi
    rcases (show i = 0 ∨ i = 1 ∨ i = 2 ∨ i = 3 ∨ i = 4 by omega) with rfl | rfl | rfl | rfl | rfl
    · exact u0
    · exact u1
    · exact u2
    · exact u3
    · exact u4
  · intro i q hq
    rcases Nat.lt_or_ge i 5 with hi | hi
    · rcases (show i = 0 ∨ i = 1 ∨ i = 2 ∨ i = 3 ∨ i = 4 by omega) with rfl | rfl | rfl | rfl | rfl
      · cases hq
        exact vk_R.of (tb _ (gm_3 163 rfl)) v0
      · cases hq
        exact vk_R.of (tb _ (gm_6 231 rfl)) v1
      · cases hq
        exact vk_R.of (tb _ (gm_7 3 rfl)) v2
      · cases hq
        exact vk_R.of (tb _ (gm_7 6 rfl)) v3
      · cases hq
        exact vk_R.of (tb _ (gm_7 7 rfl)) v4
    · rw [List.getElem?_eq_none (show KSL.length ≤ i from hi)] at hq
      cases hq
  · exact va_Zof (tb _ (gm_2 75 rfl)) (tb _ (gm_1 16 rfl)) (va_eqi (fl _ (List.mem_of_getElem? (i := 6) rfl))) hA
  · exact va_Zof (tb _ (gm_3 8 rfl)) (tb _ (gm_1 22 rfl)) o1 hA
  · exact va_Zof (tb _ (gm_3 10 rfl)) (tb _ (gm_1 22 rfl)) p1 hA
