/-! ROWS FOR TEXTS -/
def pvk : Cond → Bool
  | .privateMethod _ => true
  | _ => false
def PVL : List Cond := tables_1.filter pvk
theorem pv_t {w : Cond} (i : Nat) (h : tables_1[i]? = some w) (g : pvk w = true) : w ∈ PVL := List.mem_filter.mpr ⟨List.mem_of_getElem? h, g⟩
theorem qo_J4x : Cond.instantiable RJ4 4 ∈ GW := gw_2 66 rfl rfl
theorem qp_J4 : Cond.superclass RJ4 RJ5 ∈ GW := gw_2 96 rfl rfl
