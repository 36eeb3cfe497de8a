theorem chO_at {f hf : Nat → Nat → Nat} {w d k : Nat} : chO f hf w d k 9 k = hf 9 k := by
  unfold chO
  rw [if_neg (by omega)]
theorem chO_le {f hf : Nat → Nat → Nat} {w d k i : Nat} (h : hf 9 i ≤ 1) : chO f hf w d k 9 i ≤ 1 := by
  unfold chO
  split <;> omega
theorem lyT_step2 {f hf : Nat → Nat → Nat} {w x c o z : Nat} (h : CInv f) (h4 : 4 ≤ x) (hx : x < 8) (h5 : f 5 x = 1) (hh : hol f x w ≠ 0) (e : hf 4 x = z) : up2 (lyT f hf w x c o) 4 x (z + c - o) = lyT f hf w (f 2 x) c o := by
  subst e
  exact lyT_step h h4 hx h5 hh
section MSW
variable {p : Program} {l : Launch} {e : Env} {R : Room} {s : State} {m : MethodId} {args : Array Value} {below : List Frame} {meth : Method} {c : Code} {D : va_G} {cy : Nat → ClassId} {A : Nat → Prop} {Q : State → Prop} {nL cells slots : Nat} {Y : va_W} {lv : List (Option Value)} {pc : Nat} {st : List Value} {cc : ByteArray} {own : String} {X : (Nat → Prop) → State → Heap → Prop} {w : va_W}
variable {ba ra : Nat → Nat} {hf : Nat → Nat → Nat} {hq : Nat → Nat → Int32} {kn th : Int32} {sm : Int64}
theorem m_swapRow (hX : EnvM X cy) (C : Fg p s m args meth c cc nL own D cy A) (hE : X A s s.heap) {E : va_W} {b n i : Nat} {f : Nat → Int32} (k : Nat) (he : E[k]? = some (b, .inl (cy 1, n, .inl f))) (hi : i < 4) (d : decode cc pc = .ok (.aastore, 1))
    (kk : vC p l e R s m args below meth c D A Q nL cells slots (WM cy ba (upR ra i b) (up2 hf 4 i n) (upR hq i f) kn th sm ++ (Y ++ E.set k (ra i, .inl (cy 1, hf 4 i, .inl (hq i))))) lv (pc + 1) st) : vC p l e R s m args below meth c D A Q nL cells slots (WM cy ba ra hf hq kn th sm ++ (Y ++ E)) lv pc (.ref b :: .int (nI i) :: .ref (ba 0) :: st) := by
  intro H locs ls hP hD hS hl
  obtain ⟨kA, kc, comp, a1, a2, a3, a4⟩ := hX.2 A s s.heap hE
  have hcy : comp = cy 1 := Option.some.inj (a3.symm.trans (C.2.2.2.2.2.1.2 1 (cy 1, .int) rfl).2)
  subst hcy
  have hx := (wm_x (cy := cy) (ba := ba) (ra := ra) (hf := hf) (hq := hq) (kn := kn) (th := th) (sm := sm) (Y := Y) k).trans he
  have c0 : (nI i).toNatClampNeg = i := nI_clamp (by omega)
  refine W.aast C.1 C.2.1 (hP 1 _ wm_1) (fun q h => by cases h) (fun h => by cases h) a1 a2 rfl a4 ⟨fun z => by rw [Int32.lt_iff_toInt_lt, nI_toInt (by omega)] at z; have : (0 : Int32).toInt = 0 := rfl; omega, by show _ < (arrV _ _ _).slots.size; rw [arrV_size, c0]; exact hi⟩ (hP _ _ hx) (fun q h => by cases h) a4 (va_asg _ _) rfl rfl d fun H1 e1 z oq => ?_
  have hP1 : va_P D vwCl ((WM cy ba ra hf hq kn th sm ++ (Y ++ E)).set 1 (ba 0, .inl (cy 5, 4, .inr (.inr (.inr (.inr (fun j => some (upR ra i b j)))))))) H1 := by
    refine hP.set hD wm_1 ?_ oq
    show H1[ba 0]? = some (vp_cell _ _)
    rw [e1, c0]
    rw [vp_cell_q, vp_cell_q, arrV_store]
    congr 2
    funext q
    by_cases hqi : q = i
    · subst hqi
      simp [updV, upR, va_rf]
    · simp [updV, upR, hqi, va_rf]
  have hD1 := hD.set (e := .inl (cy 5, 4, .inr (.inr (.inr (.inr (fun j => some (upR ra i b j))))))) wm_1
  have hS1 := hS.put (k := (nI i).toNatClampNeg) z oq (hD.2 1 _ wm_1)
  have hb : E.length > k := (List.getElem?_eq_some_iff.mp he).1
  refine r_by (fun j => if j = 10 + i then 14 + (Y.length + k) else if j = 14 + (Y.length + k) then 10 + i else j) (fun j q hj => ?_) (fun j1 j2 h1 h2 h => ?_) kk H1 _ ls hP1 hD1 hS1 hl
  · by_cases hj1 : j = 10 + i
    · subst hj1
      rw [if_pos rfl, List.getElem?_set_ne (by omega), hx]
      rw [wm_r hi] at hj
      rw [← hj]
      unfold mR
      simp [upR, up2]
    · rw [if_neg hj1]
      by_cases hj2 : j = 14 + (Y.length + k)
      · subst hj2
        rw [if_pos rfl, List.getElem?_set_ne (by omega), wm_r hi]
        rw [wm_x, List.getElem?_set_self hb] at hj
        rw [← hj]
        rfl
      · rw [if_neg hj2]
        by_cases hj3 : j < 14
        · by_cases hj4 : j = 1
          · subst hj4
            rw [wm_1] at hj
            rw [← hj]
            exact List.getElem?_set_self (by rw [List.length_append, wm_len]; omega)
          · rw [List.getElem?_set_ne (fun q => hj4 q.symm)]
            by_cases hj5 : j = 0
            · subst hj5
              exact hj
            · by_cases hj6 : j < 10
              · obtain ⟨j', rfl⟩ : ∃ j', j = 2 + j' := ⟨j - 2, by omega⟩
                rw [wm_a (by omega)] at hj ⊢
                rw [← hj]
                congr 1
                unfold mA
                congr 5
                funext z9
                by_cases hm : mfl (j' + 1) = 4
                · have h4 : mof (j' + 1) = 4 := by
                    rcases (show j' = 0 ∨ j' = 1 ∨ j' = 2 ∨ j' = 3 ∨ j' = 4 ∨ j' = 5 ∨ j' = 6 ∨ j' = 7 by omega) with rfl | rfl | rfl | rfl | rfl | rfl | rfl | rfl <;> first | rfl | (exact absurd hm (by decide))
                  rw [hm, h4, up2_i _ _ _ _ (by omega)]
                · rw [up2_k _ _ _ _ hm]
              · obtain ⟨j', rfl⟩ : ∃ j', j = 10 + j' := ⟨j - 10, by omega⟩
                rw [wm_r (by omega)] at hj ⊢
                rw [← hj]
                unfold mR
                simp [upR, up2, show j' ≠ i by omega]
        · rw [List.getElem?_set_ne (by omega), List.getElem?_append_right (by rw [wm_len]; omega), wm_len]
          rw [List.getElem?_append_right (by rw [wm_len]; omega), wm_len] at hj
          by_cases hj4 : j - 14 < Y.length
          · rw [List.getElem?_append_left hj4] at hj ⊢
            exact hj
          · rw [List.getElem?_append_right (by omega)] at hj ⊢
            rw [List.getElem?_set_ne (by omega)] at hj
            exact hj
  · split at h <;> split at h <;> (try split at h) <;> (try split at h) <;> omega
end MSW
