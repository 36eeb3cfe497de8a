theorem qs_X2_mixCursors : Cond.selects RX2 yX2_mixCursors yX2_mixCursors ∈ GW := gw_p 12 (by decide +kernel) rfl
theorem qs_X2_needWhere : Cond.selects RX2 yX2_needWhere yX2_needWhere ∈ GW := gw_p 13 (by decide +kernel) rfl
theorem qs_X2_needRoom : Cond.selects RX2 yX2_needRoom yX2_needRoom ∈ GW := gw_p 14 (by decide +kernel) rfl
theorem qs_X2_putIn : Cond.selects RX2 yX2_putIn yX2_putIn ∈ GW := gw_p 15 (by decide +kernel) rfl
theorem qs_X2_exchangeForSpare : Cond.selects RX2 yX2_exchangeForSpare yX2_exchangeForSpare ∈ GW := gw_p 16 (by decide +kernel) rfl
theorem qs_X2_isHolder : Cond.selects RX2 yX2_isHolder yX2_isHolder ∈ GW := gw_p 17 (by decide +kernel) rfl
theorem qs_X2_settle : Cond.selects RX2 yX2_settle yX2_settle ∈ GW := gw_p 18 (by decide +kernel) rfl
theorem qs_X2_needPlace : Cond.selects RX2 yX2_needPlace yX2_needPlace ∈ GW := gw_p 19 (by decide +kernel) rfl
theorem qs_X2_takeOut : Cond.selects RX2 yX2_takeOut yX2_takeOut ∈ GW := gw_p 20 (by decide +kernel) rfl
theorem qs_X2_sift : Cond.selects RX2 yX2_sift yX2_sift ∈ GW := gw_p 21 (by decide +kernel) rfl
theorem qs_X2_becomeSpare : Cond.selects RX2 yX2_becomeSpare yX2_becomeSpare ∈ GW := gw_p 22 (by decide +kernel) rfl
theorem qs_X2_dismissWindow : Cond.selects RX2 yX2_dismissWindow yX2_dismissWindow ∈ GW := gw_p 23 (by decide +kernel) rfl
theorem qs_X2_dismissCursorsOver : Cond.selects RX2 yX2_dismissCursorsOver yX2_dismissCursorsOver ∈ GW := gw_p 24 (by decide +kernel) rfl
theorem qs_X2_needCursorThere : Cond.selects RX2 yX2_needCursorThere yX2_needCursorThere ∈ GW := gw_p 25 (by decide +kernel) rfl
theorem qs_X4_isNoWhere : Cond.selects RX4 yX4_isNoWhere yX4_isNoWhere ∈ GW := gw_p 26 (by decide +kernel) rfl
theorem qs_X4_isFull : Cond.selects RX4 yX4_isFull yX4_isFull ∈ GW := gw_p 27 (by decide +kernel) rfl
theorem qs_X4_rowOf : Cond.selects RX4 yX4_rowOf yX4_rowOf ∈ GW := gw_p 28 (by decide +kernel) rfl
theorem qs_X4_fails : Cond.selects RX4 yX4_fails yX4_fails ∈ GW := gw_p 29 (by decide +kernel) rfl
theorem qs_X4_changed : Cond.selects RX4 yX4_changed yX4_changed ∈ GW := gw_p 30 (by decide +kernel) rfl
theorem qs_X4_isHolder : Cond.selects RX4 yX4_isHolder yX4_isHolder ∈ GW := gw_p 31 (by decide +kernel) rfl
theorem qs_X4_sizeOf : Cond.selects RX4 yX4_sizeOf yX4_sizeOf ∈ GW := gw_p 32 (by decide +kernel) rfl
theorem qs_X4_lay : Cond.selects RX4 yX4_lay yX4_lay ∈ GW := gw_p 33 (by decide +kernel) rfl
theorem qs_X4_begin : Cond.selects RX4 yX4_begin yX4_begin ∈ GW := gw_p 34 (by decide +kernel) rfl
theorem qs_X4_isNoPlace : Cond.selects RX4 yX4_isNoPlace yX4_isNoPlace ∈ GW := gw_p 35 (by decide +kernel) rfl
theorem qs_X4_item : Cond.selects RX4 yX4_item yX4_item ∈ GW := gw_p 36 (by decide +kernel) rfl
theorem qs_X4_items : Cond.selects RX4 yX4_items yX4_items ∈ GW := gw_p 37 (by decide +kernel) rfl
theorem qs_X4_put : Cond.selects RX4 yX4_put yX4_put ∈ GW := gw_p 38 (by decide +kernel) rfl
theorem qs_X4_firstOf : Cond.selects RX4 yX4_firstOf yX4_firstOf ∈ GW := gw_p 39 (by decide +kernel) rfl
theorem qs_X4_sorted : Cond.selects RX4 yX4_sorted yX4_sorted ∈ GW := gw_p 40 (by decide +kernel) rfl
theorem qs_X4_partNow : Cond.selects RX4 yX4_partNow yX4_partNow ∈ GW := gw_p 41 (by decide +kernel) rfl
theorem qs_X4_find : Cond.selects RX4 yX4_find yX4_find ∈ GW := gw_p 42 (by decide +kernel) rfl
theorem qs_X4_kept : Cond.selects RX4 yX4_kept yX4_kept ∈ GW := gw_p 43 (by decide +kernel) rfl
theorem qs_X4_become : Cond.selects RX4 yX4_become yX4_become ∈ GW := gw_p 44 (by decide +kernel) rfl
theorem qs_X4_hashNow : Cond.selects RX4 yX4_hashNow yX4_hashNow ∈ GW := gw_p 45 (by decide +kernel) rfl
theorem qs_X4_textNow : Cond.selects RX4 yX4_textNow yX4_textNow ∈ GW := gw_p 46 (by decide +kernel) rfl
theorem qs_X4_goneWithAll : Cond.selects RX4 yX4_goneWithAll yX4_goneWithAll ∈ GW := gw_p 47 (by decide +kernel) rfl
theorem qs_X4_gone : Cond.selects RX4 yX4_gone yX4_gone ∈ GW := gw_p 48 (by decide +kernel) rfl
theorem qs_X4_windows : Cond.selects RX4 yX4_windows yX4_windows ∈ GW := gw_p 49 (by decide +kernel) rfl
theorem qs_X4_windowNow : Cond.selects RX4 yX4_windowNow yX4_windowNow ∈ GW := gw_p 50 (by decide +kernel) rfl
theorem qs_X4_isShut : Cond.selects RX4 yX4_isShut yX4_isShut ∈ GW := gw_p 51 (by decide +kernel) rfl
theorem qs_X4_cursorNow : Cond.selects RX4 yX4_cursorNow yX4_cursorNow ∈ GW := gw_p 52 (by decide +kernel) rfl
theorem qs_X4_houseNow : Cond.selects RX4 yX4_houseNow yX4_houseNow ∈ GW := gw_p 53 (by decide +kernel) rfl
theorem qs_X4_isWhole : Cond.selects RX4 yX4_isWhole yX4_isWhole ∈ GW := gw_p 54 (by decide +kernel) rfl
theorem qs_X4_add_ : Cond.selects RX4 yX4_add_ yX4_add_ ∈ GW := gw_p 55 (by decide +kernel) rfl
theorem qu_X0 : ∀ w ∈ u_ws RX0 TX0 4, w ∈ GW := by
  have h : (u_ws RX0 TX0 4).all (fun w => decide (w ∈ tables_1) && goodWord w) = true := by decide +kernel
  intro w hw
  have h1 := List.all_eq_true.mp h w hw
  simp only [Bool.and_eq_true, decide_eq_true_eq] at h1
  exact List.mem_filter.mpr ⟨List.mem_append_right _ h1.1, h1.2⟩
theorem qu_X1 : ∀ w ∈ u_ws RX1 TX1 6, w ∈ GW := by
  have h : (u_ws RX1 TX1 6).all (fun w => decide (w ∈ tables_1) && goodWord w) = true := by decide +kernel
  intro w hw
  have h1 := List.all_eq_true.mp h w hw
  simp only [Bool.and_eq_true, decide_eq_true_eq] at h1
  exact List.mem_filter.mpr ⟨List.mem_append_right _ h1.1, h1.2⟩
theorem qu_X2 : ∀ w ∈ u_ws RX2 TX2 6, w ∈ GW := by
  have h : (u_ws RX2 TX2 6).all (fun w => decide (w ∈ tables_1) && goodWord w) = true := by decide +kernel
  intro w hw
  have h1 := List.all_eq_true.mp h w hw
  simp only [Bool.and_eq_true, decide_eq_true_eq] at h1
  exact List.mem_filter.mpr ⟨List.mem_append_right _ h1.1, h1.2⟩
theorem qu_X3 : ∀ w ∈ u_ws RX3 TX3 2, w ∈ GW := by
  have h : (u_ws RX3 TX3 2).all (fun w => decide (w ∈ tables_1) && goodWord w) = true := by decide +kernel
  intro w hw
  have h1 := List.all_eq_true.mp h w hw
  simp only [Bool.and_eq_true, decide_eq_true_eq] at h1
  exact List.mem_filter.mpr ⟨List.mem_append_right _ h1.1, h1.2⟩
theorem qu_X4 : ∀ w ∈ u_ws RX4 TX4 12, w ∈ GW := by
  have h : (u_ws RX4 TX4 12).all (fun w => decide (w ∈ tables_1) && goodWord w) = true := by decide +kernel
  intro w hw
  have h1 := List.all_eq_true.mp h w hw
  simp only [Bool.and_eq_true, decide_eq_true_eq] at h1
  exact List.mem_filter.mpr ⟨List.mem_append_right _ h1.1, h1.2⟩
theorem qu_J0 : ∀ w ∈ u_ws RJ0 TJ0 4, w ∈ GW := by
  have h : (u_ws RJ0 TJ0 4).all (fun w => decide (w ∈ tables_1) && goodWord w) = true := by decide +kernel
  intro w hw
  have h1 := List.all_eq_true.mp h w hw
  simp only [Bool.and_eq_true, decide_eq_true_eq] at h1
  exact List.mem_filter.mpr ⟨List.mem_append_right _ h1.1, h1.2⟩
theorem qu_J4 : ∀ w ∈ u_ws RJ4 TJ4 4, w ∈ GW := by
  have h : (u_ws RJ4 TJ4 4).all (fun w => decide (w ∈ tables_1) && goodWord w) = true := by decide +kernel
  intro w hw
  have h1 := List.all_eq_true.mp h w hw
  simp only [Bool.and_eq_true, decide_eq_true_eq] at h1
  exact List.mem_filter.mpr ⟨List.mem_append_right _ h1.1, h1.2⟩
theorem qu_Jx00060 : ∀ w ∈ u_ws RJx00060 TJx00060 6, w ∈ GW := by
  have h : (u_ws RJx00060 TJx00060 6).all (fun w => decide (w ∈ tables_1) && goodWord w) = true := by decide +kernel
  intro w hw
  have h1 := List.all_eq_true.mp h w hw
  simp only [Bool.and_eq_true, decide_eq_true_eq] at h1
  exact List.mem_filter.mpr ⟨List.mem_append_right _ h1.1, h1.2⟩
theorem qu_Jx7c733 : ∀ w ∈ u_ws RJx7c733 TJx7c733 6, w ∈ GW := by
  have h : (u_ws RJx7c733 TJx7c733 6).all (fun w => decide (w ∈ tables_1) && goodWord w) = true := by decide +kernel
  intro w hw
  have h1 := List.all_eq_true.mp h w hw
  simp only [Bool.and_eq_true, decide_eq_true_eq] at h1
  exact List.mem_filter.mpr ⟨List.mem_append_right _ h1.1, h1.2⟩

