/-! WHAT THE LAW KNOWS OUTSIDE THE WORLD -/
def lwX (cy : Nat → ClassId) (aK aV : Nat → Nat) (tO tT : Nat) (gO gT : Nat → Int32) (A : Nat → Prop) (U : State) (H : Heap) : Prop :=
  (∀ w ∈ NWL, va_Nw w U) ∧ (vx_Zq Bundle.tN "UNASSIGNED_STACK" Bundle.steD A U H ∧ vx_Zq Bundle.tN "SUPPRESSED_SENTINEL" Bundle.listD A U H) ∧ (∀ q ∈ SRL, ∃ sa, vk_R q.1 q.2.1 q.2.2 sa U) ∧ AOI cy U ∧
  (KS1 5 aK aV A U H ∧ (∀ (i : Nat) (q : String × Nat × String), KSL[i]? = some q → vk_R q.1 q.2.1 q.2.2 (aK i) U) ∧ va_Z "java/lang/String" "COMPACT_STRINGS" "Z" (.int 1) A U H ∧ va_Z "java/lang/Integer" "DigitOnes" "[B" (.ref tO) A U H ∧ va_T .byte tO 100 (fun j => .int (gO j)) A U H ∧ va_Z "java/lang/Integer" "DigitTens" "[B" (.ref tT) A U H ∧ va_T .byte tT 100 (fun j => .int (gT j)) A U H) ∧
  (∀ w ∈ PVL, va_Nw w U) ∧ (va_AO RX0 U ∧ va_AO RX1 U ∧ AOAI U) ∧ ∀ q ∈ NCL, va_Nc q.1 q.2 U
theorem va_Nw.keep {w : Cond} (hw : nwk w = true) {s U : State} (hW : s.WarmedH U.vm) (h : va_Nw w s) : va_Nw w U := by
  cases w <;> first | (simp [nwk] at hw; done) | exact va_Nw.warmF hW h | exact va_Nw.warmC hW h | exact va_Nw.warmD hW h
theorem va_Nw.keepP {w : Cond} (hw : pvk w = true) {s U : State} (hW : s.WarmedH U.vm) (h : va_Nw w s) : va_Nw w U := by
  cases w <;> first | (simp [pvk] at hw; done) | exact Cond.privateMethod_warm hW h
theorem AOI.moved {cy : Nat → ClassId} {u U : State} (hvm : u.vm.Alike U.vm) (h : AOI cy u) : AOI cy U := by
  obtain ⟨kA, kc, comp, h1, h2, h3, h4⟩ := h
  obtain ⟨kA', hA', eA⟩ := hvm.2.2 _ _ h1
  obtain ⟨kc', hc', -⟩ := hvm.2.2 _ _ h4
  exact ⟨kA', kc', comp, hA', by rw [eA]; exact h2, by rw [hvm.findClass]; exact h3, hc'⟩
theorem idx_bare (vm : Vm) (f : Class → Bool) (hf : ∀ x x' : Class, x.kind = x'.kind → f x = f x') : vm.bare.classes.findIdx? f = vm.classes.findIdx? f := by
  simp only [Vm.bare, Array.findIdx?_map]
  exact congrArg (fun g => vm.classes.findIdx? g) (funext fun x => hf _ _ rfl)
theorem idx_alike {u U : State} (hvm : u.vm.Alike U.vm) (f : Class → Bool) (hf : ∀ x x' : Class, x.kind = x'.kind → f x = f x') : U.vm.classes.findIdx? f = u.vm.classes.findIdx? f := by
  refine (idx_bare U.vm f hf).symm.trans (Eq.trans ?_ (idx_bare u.vm f hf))
  first | rw [hvm.bare_eq] | rw [← hvm.bare_eq]
theorem AOAI.moved {u U : State} (hvm : u.vm.Alike U.vm) (h : AOAI u) : AOAI U := by
  unfold AOAI Cond.before at h ⊢
  simp only [Cond.holds, Cond.value, beq_iff_eq] at h ⊢
  cases hc : u.vm.findClass (FieldType.array .int).toString with
  | none => simp [hc] at h
  | some comp =>
    simp only [hc, Option.bind_some, Option.bind_eq_some_iff, Option.map_eq_some_iff] at h
    obtain ⟨c, hi, k, hk, hb⟩ := h
    have f1 : U.vm.findClass (FieldType.array .int).toString = some comp := by rw [hvm.findClass]; exact hc
    obtain ⟨k', hk', he⟩ := hvm.2.2 _ _ hk
    have hkk : k'.kind = k.kind := by rw [he]
    have key : ∀ F : Class → Bool, (∀ x x' : Class, x.kind = x'.kind → F x = F x') → u.vm.classes.findIdx? F = some c → U.vm.classes.findIdx? F = some c := fun F hF h => (idx_alike hvm F hF).trans h
    have hi2 := key _ (fun x x' e => by simp only [e]) hi
    rw [f1, Option.bind_some, hi2, Option.bind_some, hk', Option.map_some, ← hb, hkk, hvm.findClass]
theorem lwX_stb {cy : Nat → ClassId} {aK aV : Nat → Nat} {tO tT : Nat} {gO gT : Nat → Int32} : Stb (lwX cy aK aV tO tT gO gT) := by
  intro A B u U H H1 hAB hW hH h
  have hvm := hW.alike
  obtain ⟨h1, ⟨h2, h3⟩, h4, h5, ⟨k1, k2, k3, k4, k5, k6, k7⟩, h6, ⟨h7, h8, h9⟩, h10⟩ := h
  exact ⟨fun w hw => va_Nw.keep (List.mem_filter.mp hw).2 hW (h1 w hw), ⟨((h2.moved hvm).kept hH).narrow hAB, ((h3.moved hvm).kept hH).narrow hAB⟩, fun q hq => by
      obtain ⟨sa, e⟩ := h4 q hq
      exact ⟨sa, e.warm hW⟩, h5.moved hvm,
    ⟨fun i hi => (((k1 i hi).moved hvm).kept hH).narrow hAB, fun i q hq => (k2 i q hq).warm hW, ((k3.moved hvm).kept hH).narrow hAB, ((k4.moved hvm).kept hH).narrow hAB, ((k5.moved hvm).kept hH).narrow hAB, ((k6.moved hvm).kept hH).narrow hAB, ((k7.moved hvm).kept hH).narrow hAB⟩,
    fun w hw => va_Nw.keepP (List.mem_filter.mp hw).2 hW (h6 w hw), ⟨h7.moved hvm, h8.moved hvm, h9.moved hvm⟩, fun q hq => (h10 q hq).moved hvm⟩
theorem lwX_T {cy : Nat → ClassId} {aK aV : Nat → Nat} {tO tT : Nat} {gO gT : Nat → Int32} : EnvT (lwX cy aK aV tO tT gO gT) cy aK aV tO tT gO gT :=
  ⟨⟨⟨⟨lwX_stb, fun w hw A U H h => h.1 w hw, fun A U H h => h.2.1, fun q hq A U H h => h.2.2.1 q hq⟩, fun A U H h => h.2.2.2.1⟩, fun A U H h => h.2.2.2.2.1, fun w hw A U H h => h.2.2.2.2.2.1 w hw⟩, fun A U H h => h.2.2.2.2.2.2.1⟩
theorem lwX_N {cy : Nat → ClassId} {aK aV : Nat → Nat} {tO tT : Nat} {gO gT : Nat → Int32} : EnvN (lwX cy aK aV tO tT gO gT) := fun q hq _ _ _ h => h.2.2.2.2.2.2.2 q hq

