/-! TEXT'S WRAPPER -/
theorem dL_text_0 : decode cL_text 0 = .ok (.aload_n 2, 1) := dqo_44 (kb_of ke_L_text 0 rfl)
theorem dL_text_1 : decode cL_text 1 = .ok (.aload_n 0, 1) := dqo_42 (kb_of ke_L_text 1 rfl)
theorem dL_text_2 : decode cL_text 2 = .ok (.iload_n 1, 1) := dqo_27 (kb_of ke_L_text 2 rfl)
theorem dL_text_3 : decode cL_text 3 = .ok (.invokevirtual 123, 3) := dqo_182 0 123 (kb_of ke_L_text 3 rfl) (kb_of ke_L_text 4 rfl) (kb_of ke_L_text 5 rfl)
theorem dL_text_6 : decode cL_text 6 = .ok (.putfield 127, 3) := dqo_181 0 127 (kb_of ke_L_text 6 rfl) (kb_of ke_L_text 7 rfl) (kb_of ke_L_text 8 rfl)
theorem dL_text_9 : decode cL_text 9 = .ok (.goto 6, 3) := dqo_167 0 6 (by decide) (kb_of ke_L_text 9 rfl) (kb_of ke_L_text 10 rfl) (kb_of ke_L_text 11 rfl)
theorem dL_text_12 : decode cL_text 12 = .ok (.astore_n 3, 1) := dqo_78 (kb_of ke_L_text 12 rfl)
theorem dL_text_13 : decode cL_text 13 = .ok (.iconst 1, 1) := dqo_4 (kb_of ke_L_text 13 rfl)
theorem dL_text_14 : decode cL_text 14 = .ok (.ireturn, 1) := dqo_172 (kb_of ke_L_text 14 rfl)
theorem dL_text_15 : decode cL_text 15 = .ok (.iconst 0, 1) := dqo_3 (kb_of ke_L_text 15 rfl)
theorem dL_text_16 : decode cL_text 16 = .ok (.ireturn, 1) := dqo_172 (kb_of ke_L_text 16 rfl)
theorem qcw_L_text : Cond.codeWith yL_text cL_text 4 (some .int) [(0, 9, 12, 19)] ∈ GW := gw_5 66 rfl rfl
theorem pk_L_text : PkH yL_text cL_text 4 (some .int) [(0, 9, 12, 19)] 3 := ⟨⟨qt_L_text, qz_L, qcw_L_text⟩, mh_L.1, mh_L.2, pd_48⟩
section LCE
variable {p : Program} {l : Launch} {e : Env} {R : Room} {s : State} {m : MethodId} {args : Array Value} {below : List Frame} {meth : Method} {c : Code} {D : va_G} {cy : Nat → ClassId} {A : Nat → Prop} {Q : State → Prop} {nL cells slots : Nat} {w : va_W} {lv : List (Option Value)} {pc : Nat} {st : List Value} {cc : ByteArray} {own : String}
theorem r_lcmpE (C : Fg p s m args meth c cc nL own D cy A) {x : Int64} (d : decode cc pc = .ok (.lcmp, 1)) (kk : vW p l e R s m args below meth c D vwCl A Q nL cells slots w lv (pc + 1) (.int 0 :: st)) : vW p l e R s m args below meth c D vwCl A Q nL cells slots w lv pc (.long x :: .long x :: st) := fun H locs ls hP hD hS hl =>
  W.lcmp C.1 C.2.1 d (by
    rw [show lg_cmp x x = 0 by simp [lg_cmp]]
    exact kk H locs ls hP hD hS hl)
end LCE
theorem dX4_thrown_0 : decode cX4_thrown 0 = .ok (.aload_n 0, 1) := dqo_42 (kb_of ke_X4_thrown 0 rfl)
theorem dX4_thrown_1 : decode cX4_thrown 1 = .ok (.getfield 44, 3) := dqo_180 0 44 (kb_of ke_X4_thrown 1 rfl) (kb_of ke_X4_thrown 2 rfl) (kb_of ke_X4_thrown 3 rfl)
theorem dX4_thrown_4 : decode cX4_thrown 4 = .ok (.ireturn, 1) := dqo_172 (kb_of ke_X4_thrown 4 rfl)
theorem D_thrown {l : Launch} {D : va_G} {cy : Nat → ClassId} {X : (Nat → Prop) → State → Heap → Prop} {ba ra : Nat → Nat} {hf : Nat → Nat → Nat} {hq : Nat → Nat → Int32} {kn th : Int32} {sm : Int64} {Y : va_W} (hX : EnvM X cy) : Cd l D cy X yX4_thrown cX4_thrown 1 (some .int) (rmz 0 0) [.ref (ba 9)] (WM cy ba ra hf hq kn th sm ++ Y) (some (.int th)) (WM cy ba ra hf hq kn th sm ++ Y) := by
  refine Cm.of [some (.ref (ba 9))] pn_X4 rfl (Nat.le_of_ble_eq_true rfl) ?_
  intro p e s m args below meth c A C hE hr hnt hn
  refine r_aload_n C dX4_thrown_0 rfl ?_
  refine m_get (v := .int th) C 10 (by decide) qf_X4_44 rfl rfl dX4_thrown_1 ?_
  exact r_iret C hr dX4_thrown_4 ⟨rfl, rfl⟩ (Nat.le_of_ble_eq_true rfl) (Nat.le_of_ble_eq_true rfl)
theorem pk_X2_digest : PkV RX2 yX2_digest cX2_digest 5 (some .long) 0 := ⟨⟨qi_X2_digest, qs_X2_digest, qz_X2, qc_X2_digest⟩, rfl, mh_X2.1, mh_X2.2, pd_53⟩
theorem pk_X2_knock : PkV RX2 yX2_knock cX2_knock 1 (some .int) 0 := ⟨⟨qi_X2_knock, qs_X2_knock, qz_X2, qc_X2_knock⟩, rfl, mh_X2.1, mh_X2.2, pd_10⟩
theorem pk_X2_text : PkV RX2 yX2_text cX2_text 3 (some (.object "java/lang/String")) 1 := ⟨⟨qi_X2_text, qs_X2_text, qz_X2, qc_X2_text⟩, rfl, mh_X2.1, mh_X2.2, pd_44⟩
theorem pk_X4_add : PkV RX4 yX4_add cX4_add 3 (some .int) 2 := ⟨⟨qi_X4_add, qs_X4_add, qz_X4, qc_X4_add⟩, rfl, mh_X4.1, mh_X4.2, pd_0⟩
theorem pk_X4_addAll : PkV RX4 yX4_addAll cX4_addAll 5 (some .int) 3 := ⟨⟨qi_X4_addAll, qs_X4_addAll, qz_X4, qc_X4_addAll⟩, rfl, mh_X4.1, mh_X4.2, pd_28⟩
theorem pk_X4_areApart : PkV RX4 yX4_areApart cX4_areApart 8 (some .boolean) 2 := ⟨⟨qi_X4_areApart, qs_X4_areApart, qz_X4, qc_X4_areApart⟩, rfl, mh_X4.1, mh_X4.2, pd_5⟩
theorem pk_X4_areSame : PkV RX4 yX4_areSame cX4_areSame 3 (some .boolean) 2 := ⟨⟨qi_X4_areSame, qs_X4_areSame, qz_X4, qc_X4_areSame⟩, rfl, mh_X4.1, mh_X4.2, pd_5⟩
theorem pk_X4_clear : PkV RX4 yX4_clear cX4_clear 3 (some .int) 1 := ⟨⟨qi_X4_clear, qs_X4_clear, qz_X4, qc_X4_clear⟩, rfl, mh_X4.1, mh_X4.2, pd_1⟩
theorem pk_X4_close : PkV RX4 yX4_close cX4_close 2 (some .int) 1 := ⟨⟨qi_X4_close, qs_X4_close, qz_X4, qc_X4_close⟩, rfl, mh_X4.1, mh_X4.2, pd_1⟩
theorem pk_X4_contains : PkV RX4 yX4_contains cX4_contains 3 (some .boolean) 2 := ⟨⟨qi_X4_contains, qs_X4_contains, qz_X4, qc_X4_contains⟩, rfl, mh_X4.1, mh_X4.2, pd_5⟩
theorem pk_X4_copy : PkV RX4 yX4_copy cX4_copy 3 (some .int) 2 := ⟨⟨qi_X4_copy, qs_X4_copy, qz_X4, qc_X4_copy⟩, rfl, mh_X4.1, mh_X4.2, pd_0⟩
theorem pk_X4_digest : PkV RX4 yX4_digest cX4_digest 6 (some .long) 0 := ⟨⟨qi_X4_digest, qs_X4_digest, qz_X4, qc_X4_digest⟩, rfl, mh_X4.1, mh_X4.2, pd_53⟩
theorem pk_X4_fill : PkV RX4 yX4_fill cX4_fill 4 (some .int) 2 := ⟨⟨qi_X4_fill, qs_X4_fill, qz_X4, qc_X4_fill⟩, rfl, mh_X4.1, mh_X4.2, pd_0⟩
theorem pk_X4_get : PkV RX4 yX4_get cX4_get 3 (some .int) 2 := ⟨⟨qi_X4_get, qs_X4_get, qz_X4, qc_X4_get⟩, rfl, mh_X4.1, mh_X4.2, pd_0⟩
theorem pk_X4_hash : PkV RX4 yX4_hash cX4_hash 2 (some .int) 1 := ⟨⟨qi_X4_hash, qs_X4_hash, qz_X4, qc_X4_hash⟩, rfl, mh_X4.1, mh_X4.2, pd_1⟩
theorem pk_X4_house : PkV RX4 yX4_house cX4_house 2 (some .int) 1 := ⟨⟨qi_X4_house, qs_X4_house, qz_X4, qc_X4_house⟩, rfl, mh_X4.1, mh_X4.2, pd_1⟩
theorem pk_X4_howOften : PkV RX4 yX4_howOften cX4_howOften 8 (some .int) 2 := ⟨⟨qi_X4_howOften, qs_X4_howOften, qz_X4, qc_X4_howOften⟩, rfl, mh_X4.1, mh_X4.2, pd_0⟩
theorem pk_X4_inArray : PkV RX4 yX4_inArray cX4_inArray 3 (some .int) 2 := ⟨⟨qi_X4_inArray, qs_X4_inArray, qz_X4, qc_X4_inArray⟩, rfl, mh_X4.1, mh_X4.2, pd_0⟩
theorem pk_X4_indexOf : PkV RX4 yX4_indexOf cX4_indexOf 3 (some .int) 2 := ⟨⟨qi_X4_indexOf, qs_X4_indexOf, qz_X4, qc_X4_indexOf⟩, rfl, mh_X4.1, mh_X4.2, pd_0⟩
theorem pk_X4_insert : PkV RX4 yX4_insert cX4_insert 4 (some .int) 3 := ⟨⟨qi_X4_insert, qs_X4_insert, qz_X4, qc_X4_insert⟩, rfl, mh_X4.1, mh_X4.2, pd_28⟩
theorem pk_X4_isSound : PkV RX4 yX4_isSound cX4_isSound 1 (some .boolean) 0 := ⟨⟨qi_X4_isSound, qs_X4_isSound, qz_X4, qc_X4_isSound⟩, rfl, mh_X4.1, mh_X4.2, pd_27⟩
theorem pk_X4_knock : PkV RX4 yX4_knock cX4_knock 1 (some .int) 0 := ⟨⟨qi_X4_knock, qs_X4_knock, qz_X4, qc_X4_knock⟩, rfl, mh_X4.1, mh_X4.2, pd_10⟩
theorem pk_X4_lastIndexOf : PkV RX4 yX4_lastIndexOf cX4_lastIndexOf 3 (some .int) 2 := ⟨⟨qi_X4_lastIndexOf, qs_X4_lastIndexOf, qz_X4, qc_X4_lastIndexOf⟩, rfl, mh_X4.1, mh_X4.2, pd_0⟩
theorem pk_X4_least : PkV RX4 yX4_least cX4_least 8 (some .int) 2 := ⟨⟨qi_X4_least, qs_X4_least, qz_X4, qc_X4_least⟩, rfl, mh_X4.1, mh_X4.2, pd_52⟩
theorem pk_X4_next : PkV RX4 yX4_next cX4_next 2 (some .int) 1 := ⟨⟨qi_X4_next, qs_X4_next, qz_X4, qc_X4_next⟩, rfl, mh_X4.1, mh_X4.2, pd_1⟩
theorem pk_X4_ofCursor : PkV RX4 yX4_ofCursor cX4_ofCursor 3 (some .int) 2 := ⟨⟨qi_X4_ofCursor, qs_X4_ofCursor, qz_X4, qc_X4_ofCursor⟩, rfl, mh_X4.1, mh_X4.2, pd_0⟩
theorem pk_X4_ofWindow : PkV RX4 yX4_ofWindow cX4_ofWindow 3 (some .int) 2 := ⟨⟨qi_X4_ofWindow, qs_X4_ofWindow, qz_X4, qc_X4_ofWindow⟩, rfl, mh_X4.1, mh_X4.2, pd_0⟩
theorem pk_X4_open : PkV RX4 yX4_open cX4_open 4 (some .int) 3 := ⟨⟨qi_X4_open, qs_X4_open, qz_X4, qc_X4_open⟩, rfl, mh_X4.1, mh_X4.2, pd_28⟩
theorem pk_X4_partAt : PkV RX4 yX4_partAt cX4_partAt 3 (some .int) 2 := ⟨⟨qi_X4_partAt, qs_X4_partAt, qz_X4, qc_X4_partAt⟩, rfl, mh_X4.1, mh_X4.2, pd_0⟩
theorem pk_X4_places : PkV RX4 yX4_places cX4_places 5 (some .int) 2 := ⟨⟨qi_X4_places, qs_X4_places, qz_X4, qc_X4_places⟩, rfl, mh_X4.1, mh_X4.2, pd_0⟩
theorem pk_X4_previous : PkV RX4 yX4_previous cX4_previous 2 (some .int) 1 := ⟨⟨qi_X4_previous, qs_X4_previous, qz_X4, qc_X4_previous⟩, rfl, mh_X4.1, mh_X4.2, pd_1⟩
theorem pk_X4_put_ : PkV RX4 yX4_put_ cX4_put_ 3 (some .int) 2 := ⟨⟨qi_X4_put_, qs_X4_put_, qz_X4, qc_X4_put_⟩, rfl, mh_X4.1, mh_X4.2, pd_0⟩
theorem pk_X4_remove : PkV RX4 yX4_remove cX4_remove 4 (some .int) 2 := ⟨⟨qi_X4_remove, qs_X4_remove, qz_X4, qc_X4_remove⟩, rfl, mh_X4.1, mh_X4.2, pd_0⟩
theorem pk_X4_removeAll : PkV RX4 yX4_removeAll cX4_removeAll 3 (some .int) 2 := ⟨⟨qi_X4_removeAll, qs_X4_removeAll, qz_X4, qc_X4_removeAll⟩, rfl, mh_X4.1, mh_X4.2, pd_0⟩
theorem pk_X4_removeItem : PkV RX4 yX4_removeItem cX4_removeItem 4 (some .int) 2 := ⟨⟨qi_X4_removeItem, qs_X4_removeItem, qz_X4, qc_X4_removeItem⟩, rfl, mh_X4.1, mh_X4.2, pd_0⟩
theorem pk_X4_replace : PkV RX4 yX4_replace cX4_replace 3 (some .int) 2 := ⟨⟨qi_X4_replace, qs_X4_replace, qz_X4, qc_X4_replace⟩, rfl, mh_X4.1, mh_X4.2, pd_0⟩
theorem pk_X4_retainAll : PkV RX4 yX4_retainAll cX4_retainAll 3 (some .int) 2 := ⟨⟨qi_X4_retainAll, qs_X4_retainAll, qz_X4, qc_X4_retainAll⟩, rfl, mh_X4.1, mh_X4.2, pd_0⟩
theorem pk_X4_reverse : PkV RX4 yX4_reverse cX4_reverse 2 (some .int) 1 := ⟨⟨qi_X4_reverse, qs_X4_reverse, qz_X4, qc_X4_reverse⟩, rfl, mh_X4.1, mh_X4.2, pd_1⟩
theorem pk_X4_riffle : PkV RX4 yX4_riffle cX4_riffle 5 (some .int) 1 := ⟨⟨qi_X4_riffle, qs_X4_riffle, qz_X4, qc_X4_riffle⟩, rfl, mh_X4.1, mh_X4.2, pd_1⟩
theorem pk_X4_rotate : PkV RX4 yX4_rotate cX4_rotate 6 (some .int) 2 := ⟨⟨qi_X4_rotate, qs_X4_rotate, qz_X4, qc_X4_rotate⟩, rfl, mh_X4.1, mh_X4.2, pd_0⟩
theorem pk_X4_set : PkV RX4 yX4_set cX4_set 5 (some .int) 3 := ⟨⟨qi_X4_set, qs_X4_set, qz_X4, qc_X4_set⟩, rfl, mh_X4.1, mh_X4.2, pd_28⟩
theorem pk_X4_shut : PkV RX4 yX4_shut cX4_shut 3 (some .int) 1 := ⟨⟨qi_X4_shut, qs_X4_shut, qz_X4, qc_X4_shut⟩, rfl, mh_X4.1, mh_X4.2, pd_1⟩
theorem pk_X4_size : PkV RX4 yX4_size cX4_size 2 (some .int) 1 := ⟨⟨qi_X4_size, qs_X4_size, qz_X4, qc_X4_size⟩, rfl, mh_X4.1, mh_X4.2, pd_1⟩
theorem pk_X4_sort : PkV RX4 yX4_sort cX4_sort 2 (some .int) 1 := ⟨⟨qi_X4_sort, qs_X4_sort, qz_X4, qc_X4_sort⟩, rfl, mh_X4.1, mh_X4.2, pd_1⟩
theorem pk_X4_sortBy : PkV RX4 yX4_sortBy cX4_sortBy 3 (some .int) 2 := ⟨⟨qi_X4_sortBy, qs_X4_sortBy, qz_X4, qc_X4_sortBy⟩, rfl, mh_X4.1, mh_X4.2, pd_0⟩
theorem pk_X4_splice : PkV RX4 yX4_splice cX4_splice 6 (some .int) 4 := ⟨⟨qi_X4_splice, qs_X4_splice, qz_X4, qc_X4_splice⟩, rfl, mh_X4.1, mh_X4.2, pd_50⟩
theorem pk_X4_swap : PkV RX4 yX4_swap cX4_swap 6 (some .int) 3 := ⟨⟨qi_X4_swap, qs_X4_swap, qz_X4, qc_X4_swap⟩, rfl, mh_X4.1, mh_X4.2, pd_28⟩
theorem pk_X4_take : PkV RX4 yX4_take cX4_take 2 (some .int) 1 := ⟨⟨qi_X4_take, qs_X4_take, qz_X4, qc_X4_take⟩, rfl, mh_X4.1, mh_X4.2, pd_1⟩
theorem pk_X4_text : PkV RX4 yX4_text cX4_text 2 (some (.object "java/lang/String")) 1 := ⟨⟨qi_X4_text, qs_X4_text, qz_X4, qc_X4_text⟩, rfl, mh_X4.1, mh_X4.2, pd_44⟩
theorem pk_X4_through : PkV RX4 yX4_through cX4_through 7 (some .int) 3 := ⟨⟨qi_X4_through, qs_X4_through, qz_X4, qc_X4_through⟩, rfl, mh_X4.1, mh_X4.2, pd_28⟩
theorem pk_X4_thrown : PkV RX4 yX4_thrown cX4_thrown 1 (some .int) 0 := ⟨⟨qi_X4_thrown, qs_X4_thrown, qz_X4, qc_X4_thrown⟩, rfl, mh_X4.1, mh_X4.2, pd_10⟩
theorem pk_X4_unriffle : PkV RX4 yX4_unriffle cX4_unriffle 5 (some .int) 1 := ⟨⟨qi_X4_unriffle, qs_X4_unriffle, qz_X4, qc_X4_unriffle⟩, rfl, mh_X4.1, mh_X4.2, pd_1⟩
theorem pk_X4_window : PkV RX4 yX4_window cX4_window 6 (some .int) 4 := ⟨⟨qi_X4_window, qs_X4_window, qz_X4, qc_X4_window⟩, rfl, mh_X4.1, mh_X4.2, pd_50⟩
theorem jln_same {gO gT x y : Nat → Int32} : ∀ n, (∀ q, q < n → x q = y q) → jln gO gT x n = jln gO gT y n
  | 0, _ => rfl
  | n + 1, a => by
    show jln gO gT x n ++ (if 0 < n then [44, 32] else []) ++ dgl gO gT (x n) = jln gO gT y n ++ (if 0 < n then [44, 32] else []) ++ dgl gO gT (y n)
    rw [a n (by omega), jln_same n (fun q h => a q (by omega))]
theorem txl_same {gO gT x y : Nat → Int32} (n : Nat) (h : ∀ q, q < n → x q = y q) : txl gO gT x n = txl gO gT y n := by
  unfold txl
  rw [jln_same n h]
theorem outo_atZ {cy : Nat → ClassId} {a f : Nat → Nat → Nat} {r : Nat → Nat → Int32} {ba ra : Nat → Nat} {hf : Nat → Nat → Nat} {hq : Nat → Nat → Int32} {kn k2 th : Int32} {sm : Int64} {q : Nat × va_E} {Z : va_W} : (WC cy a f r kn ++ (WM cy ba ra hf hq k2 th sm ++ (q :: Z)))[38]? = some q := by
  rw [List.getElem?_append_right (by rw [wc_len]; omega), wc_len, List.getElem?_append_right (by rw [wm_len]; omega), wm_len]
  rfl
theorem outo_setZ {cy : Nat → ClassId} {a f : Nat → Nat → Nat} {r : Nat → Nat → Int32} {ba ra : Nat → Nat} {hf : Nat → Nat → Nat} {hq : Nat → Nat → Int32} {kn k2 th : Int32} {sm : Int64} {q q' : Nat × va_E} {Z : va_W} : (WC cy a f r kn ++ (WM cy ba ra hf hq k2 th sm ++ (q :: Z))).set 38 q' = WC cy a f r kn ++ (WM cy ba ra hf hq k2 th sm ++ (q' :: Z)) := by
  rw [List.set_append_right _ _ (by rw [wc_len]; omega), wc_len, List.set_append_right _ _ (by rw [wm_len]; omega), wm_len]
  rfl
section TXO
variable {cy : Nat → ClassId} {a f : Nat → Nat → Nat} {r : Nat → Nat → Int32} {ba ra : Nat → Nat} {hf : Nat → Nat → Nat} {hq : Nat → Nat → Int32} {kn k2 th : Int32} {sm : Int64} {q x y : Nat × va_E} {Z : va_W}
theorem txo_14 : (WM cy ba ra hf hq k2 th sm ++ (x :: y :: (WC cy a f r kn ++ Z)))[14]? = some x := by
  rw [List.getElem?_append_right (by rw [wm_len]; omega), wm_len]
  rfl
theorem txo_15 : (WM cy ba ra hf hq k2 th sm ++ (x :: y :: (WC cy a f r kn ++ Z)))[15]? = some y := by
  rw [List.getElem?_append_right (by rw [wm_len]; omega), wm_len]
  rfl
theorem txo_at (k : Nat) : (WM cy ba ra hf hq k2 th sm ++ (x :: y :: (WC cy a f r kn ++ Z)))[40 + k]? = Z[k]? := by
  rw [List.getElem?_append_right (by rw [wm_len]; omega), wm_len, show 40 + k - 14 = (24 + k) + 1 + 1 by omega, List.getElem?_cons_succ, List.getElem?_cons_succ, List.getElem?_append_right (by rw [wc_len]; omega), wc_len, Nat.add_sub_cancel_left]
theorem txo_40 : (WM cy ba ra hf hq k2 th sm ++ (x :: y :: (WC cy a f r kn ++ (q :: Z))))[40]? = some q := txo_at 0
theorem txo_41 {u : Nat × va_E} : (WM cy ba ra hf hq k2 th sm ++ (x :: y :: (WC cy a f r kn ++ (q :: u :: Z))))[41]? = some u := txo_at 1
theorem txo_42 {u v : Nat × va_E} : (WM cy ba ra hf hq k2 th sm ++ (x :: y :: (WC cy a f r kn ++ (q :: u :: v :: Z))))[42]? = some v := txo_at 2
end TXO
section TXB
variable {p : Program} {l : Launch} {e : Env} {R : Room} {s : State} {m : MethodId} {args : Array Value} {below : List Frame} {meth : Method} {c : Code} {D : va_G} {cy : Nat → ClassId} {A : Nat → Prop} {Q : State → Prop} {nL cells slots : Nat} {lv : List (Option Value)} {pc : Nat} {st : List Value} {cc : ByteArray} {own : String}
theorem t_tail {U T B : va_W} (kk : vW p l e R s m args below meth c D vwCl A Q nL cells slots (U ++ (B ++ T)) lv pc st) : vW p l e R s m args below meth c D vwCl A Q nL cells slots (U ++ (T ++ B)) lv pc st := fun H locs ls hP hD hS hl =>
  kk H locs ls (List.append_assoc U B T ▸ va_P.swap (a := U) (b := T) (c := B) ((List.append_assoc U T B).symm ▸ hP)) (List.append_assoc U B T ▸ va_D.swap (a := U) (b := T) (c := B) ((List.append_assoc U T B).symm ▸ hD)) hS hl
/-- what lies behind falls away -/
theorem t_cut {U E : va_W} (kk : vW p l e R s m args below meth c D vwCl A Q nL cells slots U lv pc st) : vW p l e R s m args below meth c D vwCl A Q nL cells slots (U ++ E) lv pc st :=
  r_by (fun k => k) (fun k q h => (List.getElem?_append_left (List.getElem?_eq_some_iff.mp h).1).trans h) (fun _ _ _ _ h => h) kk
theorem txo_back {x y q u v : Nat × va_E} {V W : va_W} (kk : vW p l e R s m args below meth c D vwCl A Q nL cells slots (W ++ (V ++ [q])) lv pc st) : vW p l e R s m args below meth c D vwCl A Q nL cells slots (V ++ (x :: y :: (W ++ (q :: u :: [v])))) lv pc st := by
  refine t_tail (U := V) (T := [x, y]) (B := W ++ (q :: u :: [v])) ?_
  refine r_w (w' := V ++ (W ++ ([q] ++ [u, v, x, y]))) (by rw [List.append_assoc]; rfl) ?_
  refine t_swap3 ?_
  refine r_w (w' := (W ++ (V ++ [q])) ++ [u, v, x, y]) (by rw [List.append_assoc, List.append_assoc]) ?_
  exact t_cut kk
end TXB

theorem W_text_no {l : Launch} {D : va_G} {cy : Nat → ClassId} {X : (Nat → Prop) → State → Heap → Prop} {aK aV : Nat → Nat} {tO tT : Nat} {gO gT : Nat → Int32} {a : Nat → Nat → Nat} {ba ra : Nat → Nat} {f : Nat → Nat → Nat} {r : Nat → Nat → Int32} {hf : Nat → Nat → Nat} {hq : Nat → Nat → Int32} {kn th : Int32} {sm : Int64} {o : Nat} {n0 : Int64} {s0 : Value} {x0 : Int32} (hX : EnvS X cy aK aV tO tT gO gT) (hl : l.stackTraces = false) (hC : CInv f) (hno : ¬ (0 ≤ x0 ∧ x0 < nI 4)) : CmH l D cy X yL_text cL_text 4 (some .int) [(0, 9, 12, 19)] (rmk 9 6 204 600) [.ref (a 0 0), .int x0, .ref o] (WC cy a f r kn ++ (WM cy ba ra hf hq kn th sm ++ [OUTo o n0 s0])) (fun v1 w1 => v1 = some (.int (nI 1)) ∧ w1 = WC cy a f r kn ++ (WM cy ba ra hf hq kn th sm ++ [OUTo o n0 s0])) (fun _ => False) := by
  refine CmH.of [some (.ref (a 0 0)), some (.int x0), some (.ref o), none] pn_L rfl (Nat.le_of_ble_eq_true rfl) ?_
  intro p e s m args below meth c A C hE hr hnt
  refine r_aload_n C dL_text_0 rfl ?_
  refine r_aload_n C dL_text_1 rfl ?_
  refine r_iload_n C dL_text_2 rfl ?_
  refine c_V (st := [.ref o]) hX.1.1.stb C hE (C_text_noR hX.1.1 hl hC hno) pk_X2_text qm_L_123 0 6 rfl rfl wc_0 rfl rfl (Nat.le_of_ble_eq_true rfl) dL_text_3 ⟨(Nat.le_of_ble_eq_true rfl), (Nat.le_of_ble_eq_true rfl)⟩ ⟨(Nat.le_of_ble_eq_true rfl), (Nat.le_of_ble_eq_true rfl)⟩ (fun _ _ h9 => h9.elim) (fun E1 hE1 => ?_)
  subst hE1
  refine r_catch (name := "java/lang/IndexOutOfBoundsException") C [] ⟨0, 9, 12, 19⟩ [] (hnt.trans rfl) (fun z hz => absurd hz List.not_mem_nil) rfl (by decide) (C.2.2.2.2.1 _ qk_L_19) (hX.1.1.nw qca_IOB rfl hE) (fun q => ?_)
  refine r_astore_n C dL_text_12 (by decide) rfl ?_
  refine r_iconst (v := nI 1) C dL_text_13 (by decide) ?_
  exact r_iret C hr dL_text_14 ⟨rfl, rfl⟩ (Nat.le_of_ble_eq_true rfl) (Nat.le_of_ble_eq_true rfl)
theorem W_text_ok {l : Launch} {D : va_G} {cy : Nat → ClassId} {X : (Nat → Prop) → State → Heap → Prop} {aK aV : Nat → Nat} {tO tT : Nat} {gO gT : Nat → Int32} {a : Nat → Nat → Nat} {ba ra : Nat → Nat} {f : Nat → Nat → Nat} {r : Nat → Nat → Int32} {hf : Nat → Nat → Nat} {hq : Nat → Nat → Int32} {kn th : Int32} {sm : Int64} {o : Nat} {n0 : Int64} {s0 : Value} {x0 : Int32} {j : Nat} (hX : EnvS X cy aK aV tO tT gO gT) (hl : l.stackTraces = false) (hC : CInv f) (hB : RB r) (hj4 : j < 4) (hx : x0 = nI j) : CmH l D cy X yL_text cL_text 4 (some .int) [(0, 9, 12, 19)] (rmk 9 6 204 600) [.ref (a 0 0), .int x0, .ref o] (WC cy a f r kn ++ (WM cy ba ra hf hq kn th sm ++ [OUTo o n0 s0])) (fun v1 w1 => ∃ (a9 v9 : Nat) (g9 : Nat → Int32), TXT g9 (tlx (fun k => r (f 0 j) (f 3 j + k)) (f 4 j) + 1) (txl gO gT (fun k => r (f 0 j) (f 3 j + k)) (f 4 j)) ∧ v1 = some (.int (nI 0)) ∧ w1 = WC cy a f r kn ++ (WM cy ba ra hf hq kn th sm ++ (OUTo o n0 (.ref a9) :: [STO a9 v9 (nI 0) (nI 0), BYO cy v9 (tlx (fun k => r (f 0 j) (f 3 j + k)) (f 4 j) + 1) g9]))) (fun _ => False) := by
  subst hx
  refine CmH.of [some (.ref (a 0 0)), some (.int (nI j)), some (.ref o), none] pn_L rfl (Nat.le_of_ble_eq_true rfl) ?_
  intro p e s m args below meth c A C hE hr hnt
  refine r_aload_n C dL_text_0 rfl ?_
  refine r_aload_n C dL_text_1 rfl ?_
  refine r_iload_n C dL_text_2 rfl ?_
  have q := hC.rw hj4
  refine c_V (st := [.ref o]) hX.1.1.stb C hE (C_text_ok hX hC hj4 (fun q hq => hB _ _)) pk_X2_text qm_L_123 0 6 rfl rfl wc_0 rfl rfl (Nat.le_of_ble_eq_true rfl) dL_text_3 ⟨(Nat.le_of_ble_eq_true rfl), (Nat.le_of_ble_eq_true rfl)⟩ ⟨(Nat.le_of_ble_eq_true rfl), (Nat.le_of_ble_eq_true rfl)⟩ (fun v9 w9 h9 => ?_) (fun _ h9 => h9.elim)
  obtain ⟨a9, v9, g9, hT9, rfl, rfl⟩ := h9
  refine t_tail (U := WC cy a f r kn) (T := [STO a9 v9 (nI 0) (nI 0), BYO cy v9 (tlx (fun k => r (f 0 j) (f 3 j + k)) (f 4 j) + 1) g9]) (B := WM cy ba ra hf hq kn th sm ++ [OUTo o n0 s0]) ?_
  refine r_w (w' := WC cy a f r kn ++ (WM cy ba ra hf hq kn th sm ++ (OUTo o n0 s0 :: [STO a9 v9 (nI 0) (nI 0), BYO cy v9 (tlx (fun k => r (f 0 j) (f 3 j + k)) (f 4 j) + 1) g9]))) (by rw [List.append_assoc]; rfl) ?_
  refine g_putN hX.1.1 C hE qu_X3 tyX3 tyX3_ok nmX3 (ci := 7) rfl 38 outo_atZ 1 (by decide) qn_L_127 rfl rfl (ty := .object "java/lang/String") rfl rfl rfl (show 1 < 2 by omega) dL_text_6 outo_setZ ?_
  refine r_goto (tgt := 15) C dL_text_9 (by decide) ?_
  refine r_iconst (v := nI 0) C dL_text_15 (by decide) ?_
  exact r_iret C hr dL_text_16 ⟨_, _, _, hT9, rfl, rfl⟩ (Nat.le_of_ble_eq_true rfl) (Nat.le_of_ble_eq_true rfl)
theorem D_text_okx {l : Launch} {D : va_G} {cy : Nat → ClassId} {X : (Nat → Prop) → State → Heap → Prop} {aK aV : Nat → Nat} {tO tT : Nat} {gO gT : Nat → Int32} {ba ra : Nat → Nat} {f : Nat → Nat → Nat} {r : Nat → Nat → Int32} {hf : Nat → Nat → Nat} {hq : Nat → Nat → Int32} {kn th : Int32} {sm : Int64} {E : va_W} {x0 : Int32} {j : Nat} (hX : EnvS X cy aK aV tO tT gO gT) (hC : CInv f) (hB : RB r) (hM : MR f r hf hq) (hj4 : j < 4) (hx : x0 = nI j) : Cm l D cy X yX4_text cX4_text 2 (some (.object "java/lang/String")) (rmk 7 100 2200 400) [.ref (ba 9), .int x0] (WM cy ba ra hf hq kn th sm ++ E) (fun v1 w1 => ∃ (a9 v9 : Nat) (h9 z9 : Int32) (g9 : Nat → Int32), TXT g9 (tlx (fun k => r (f 0 j) (f 3 j + k)) (f 4 j) + 1) (txl gO gT (fun k => r (f 0 j) (f 3 j + k)) (f 4 j)) ∧ v1 = some (.ref a9) ∧ w1 = WM cy ba ra hf hq kn (nI 0) sm ++ (STO a9 v9 h9 z9 :: BYO cy v9 (tlx (fun k => r (f 0 j) (f 3 j + k)) (f 4 j) + 1) g9 :: E)) (fun _ => False) := by
  subst hx
  have q := hC.rw hj4
  have e := hM.h4 hj4
  have e0 : ∀ q, q < f 4 j → hq j q = (fun k => r (f 0 j) (f 3 j + k)) q := fun q b => (hM.rg hC hj4 q (Nat.zero_le _) (by omega)).symm
  have h := D_text_ok (l := l) (D := D) (ba := ba) (ra := ra) (kn := kn) (th := th) (sm := sm) (E := E) hX hj4 (by omega) (hM.hb hC hB)
  rw [e, tlx_same (x := hq j) (y := (fun k => r (f 0 j) (f 3 j + k))) _ e0, txl_same (x := hq j) (y := (fun k => r (f 0 j) (f 3 j + k))) _ e0] at h
  exact h
