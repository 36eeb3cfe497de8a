theorem qn_L_127 : Cond.fieldLinkNest RL 127 RX3 "s" "Ljava/lang/String;" "SplicemonoidLaw" ∈ NWL := List.mem_filter.mpr ⟨(gm_3 211 rfl), rfl⟩
/-- a throw's words: in the list, or of the nest's kind -/
def thr_ok (own : String) (ik ic : Nat) (cls : String) (names : List String) : Bool :=
  (Cond.classLink own ik cls :: Cond.initialized cls :: vx_atS own ic cls names).all (fun w => (decide (w ∈ tables_1) || decide (w ∈ k2_sels lw_privs)) && ((goodWord w || nwk w) && vx_ot w))
theorem thr_hat {X : (Nat → Prop) → State → Heap → Prop} (hX : EnvX X) {own cls : String} {ik ic : Nat} {names : List String} (h : thr_ok own ik ic cls names = true) {A : Nat → Prop} {s : State} {args : Array Value} (hE : X A s s.heap) (ht : ∀ w ∈ GW, w.before args s = true) : ∀ w ∈ Cond.classLink own ik cls :: Cond.initialized cls :: vx_atS own ic cls names, w.before args s = true ∧ vx_ot w = true := by
  intro w hw
  have h1 := List.all_eq_true.mp h w hw
  simp only [Bool.and_eq_true, Bool.or_eq_true, decide_eq_true_eq] at h1
  obtain ⟨h1, h2, h3⟩ := h1
  refine ⟨?_, h3⟩
  rcases h2 with h2 | h2
  · refine ht w (List.mem_filter.mpr ⟨?_, h2⟩)
    rcases h1 with h1 | h1
    · exact List.mem_append_right _ h1
    · exact List.mem_append_left _ h1
  · rcases h1 with h1 | h1
    · refine hX.nw (List.mem_filter.mpr ⟨h1, h2⟩) ?_ hE
      simp only [vx_ot, Bool.or_eq_true] at h3
      cases w <;> first | rfl | (simp [nwk] at h2)
    · exfalso
      obtain ⟨q, -, hq⟩ := List.mem_map.mp h1
      subst hq
      simp [nwk] at h2
