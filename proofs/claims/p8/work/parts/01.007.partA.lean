theorem lw_p52 : lw_okq (⟨"SplicemonoidModel", "cursorNow", "(II)I"⟩, 12) := ⟨⟨by decide +kernel, by decide +kernel⟩, gm_5 187 rfl, gm_7 80 rfl, gm_7 81 rfl⟩
theorem lw_p53 : lw_okq (⟨"SplicemonoidModel", "houseNow", "(I)I"⟩, 12) := ⟨⟨by decide +kernel, by decide +kernel⟩, gm_5 187 rfl, gm_7 88 rfl, gm_7 89 rfl⟩
theorem lw_p54 : lw_okq (⟨"SplicemonoidModel", "isWhole", "()Z"⟩, 12) := ⟨⟨by decide +kernel, by decide +kernel⟩, gm_5 187 rfl, gm_7 100 rfl, gm_7 101 rfl⟩
theorem lw_p55 : lw_okq (⟨"SplicemonoidModel", "add", "(J)V"⟩, 12) := ⟨⟨by decide +kernel, by decide +kernel⟩, gm_5 187 rfl, gm_7 109 rfl, gm_7 110 rfl⟩
def lw_privs_4 : List (MethodName × Nat) := [(⟨"SplicemonoidModel", "gone", "(I)V"⟩, 12), (⟨"SplicemonoidModel", "windows", "()I"⟩, 12), (⟨"SplicemonoidModel", "windowNow", "(II)I"⟩, 12), (⟨"SplicemonoidModel", "isShut", "(I)Z"⟩, 12), (⟨"SplicemonoidModel", "cursorNow", "(II)I"⟩, 12), (⟨"SplicemonoidModel", "houseNow", "(I)I"⟩, 12), (⟨"SplicemonoidModel", "isWhole", "()Z"⟩, 12), (⟨"SplicemonoidModel", "add", "(J)V"⟩, 12)]
theorem lw_r4 : ∀ q ∈ lw_privs_4, lw_okq q := List.forall_mem_cons.mpr ⟨lw_p48, List.forall_mem_cons.mpr ⟨lw_p49, List.forall_mem_cons.mpr ⟨lw_p50, List.forall_mem_cons.mpr ⟨lw_p51, List.forall_mem_cons.mpr ⟨lw_p52, List.forall_mem_cons.mpr ⟨lw_p53, List.forall_mem_cons.mpr ⟨lw_p54, List.forall_mem_cons.mpr ⟨lw_p55, fun _ h => absurd h List.not_mem_nil⟩⟩⟩⟩⟩⟩⟩⟩
def lw_privs : List (MethodName × Nat) := lw_privs_1 ++ (lw_privs_2 ++ (lw_privs_3 ++ (lw_privs_4)))
def lw_tbl : List Cond := k2_sels lw_privs ++ tables_1
theorem lw_privs_ok : ∀ q ∈ lw_privs, lw_okq q := by
  show ∀ q ∈ lw_privs_1 ++ (lw_privs_2 ++ (lw_privs_3 ++ (lw_privs_4))), lw_okq q
  exact List.forall_mem_append.mpr ⟨lw_r1, List.forall_mem_append.mpr ⟨lw_r2, List.forall_mem_append.mpr ⟨lw_r3, lw_r4⟩⟩⟩

