theorem EnvX.z {X : (Nat → Prop) → State → Heap → Prop} (h : EnvX X) {A : Nat → Prop} {U : State} {H : Heap} (hE : X A U H) : vx_Zq Bundle.tN "UNASSIGNED_STACK" Bundle.steD A U H ∧ vx_Zq Bundle.tN "SUPPRESSED_SENTINEL" Bundle.listD A U H := h.2.2.1 A U H hE
theorem EnvX.sr {X : (Nat → Prop) → State → Heap → Prop} (h : EnvX X) (q : String × Nat × String) (hq : q ∈ SRL) {A : Nat → Prop} {U : State} {H : Heap} (hE : X A U H) : ∃ sa, vk_R q.1 q.2.1 q.2.2 sa U := h.2.2.2 q hq A U H hE
theorem nw_t {w : Cond} (i : Nat) (h : tables_1[i]? = some w) (g : nwk w = true) : w ∈ NWL := List.mem_filter.mpr ⟨List.mem_of_getElem? h, g⟩
theorem qn_X2_18 : Cond.fieldLinkNest RX2 18 RX1 "items" "[I" "Splicemonoid" ∈ NWL := List.mem_filter.mpr ⟨(gm_1 41 rfl), rfl⟩
