/-! BYTES BY 64s, and what they decode to -/
def cb (c : ByteArray) (p : Nat) : Option Nat := (c.data.toList.map UInt8.toNat)[p]?
theorem cb_u1 {c : ByteArray} {p b : Nat} (h : cb c p = some b) : (Reader.u1 : Decoder Nat) c p = Except.ok (b, p + 1) := by
  unfold cb at h
  rw [List.getElem?_map] at h
  obtain ⟨z, hz, hb⟩ := Option.map_eq_some_iff.mp h
  obtain ⟨hp, hz2⟩ := List.getElem?_eq_some_iff.mp hz
  have hp' : p < c.size := hp
  show (dite (p < c.size) (fun h => ((do set (p + 1); pure c[p].toNat) : Decoder Nat)) (fun _ => throw (HasTruncated.truncated p))) c p = _
  rw [dif_pos hp']
  show Except.ok (c[p].toNat, p + 1) = _
  have e : c[p] = z := hz2
  rw [e, hb]
theorem dq_fin {c : ByteArray} {pc n : Nat} {i : Instr} (h : Decoder.instr pc c pc = Except.ok (i, pc + n)) : decode c pc = .ok (i, n) := by
  have e : decode c pc = Except.bind (Decoder.instr pc c pc) (fun q => Except.ok (q.1, q.2 - pc)) := rfl
  rw [e, h]
  show Except.ok (i, pc + n - pc) = _
  rw [Nat.add_sub_cancel_left]
theorem dq_hd {c : ByteArray} {pc b : Nat} {k : Nat → Decoder Instr} (hk : Decoder.instr pc = Reader.u1 >>= k) (h : cb c pc = some b) : Decoder.instr pc c pc = k b c (pc + 1) := by
  have e : Decoder.instr pc c pc = Except.bind ((Reader.u1 : Decoder Nat) c pc) (fun q => k q.1 c q.2) := by
    rw [hk]
    rfl
  rw [e, cb_u1 h]
  rfl
theorem dq0 {c : ByteArray} {pc b : Nat} {i : Instr} {k : Nat → Decoder Instr} (hk : Decoder.instr pc = Reader.u1 >>= k) (hb : k b = Pure.pure i) (h : cb c pc = some b) : decode c pc = .ok (i, 1) := dq_fin (by
  rw [dq_hd hk h, hb]
  rfl)
theorem dq1 {c : ByteArray} {pc b a : Nat} {mk : Nat → Instr} {k : Nat → Decoder Instr} (hk : Decoder.instr pc = Reader.u1 >>= k) (hb : k b = Reader.u1 >>= fun a => Pure.pure (mk a)) (h : cb c pc = some b) (h1 : cb c (pc + 1) = some a) : decode c pc = .ok (mk a, 2) := dq_fin (by
  rw [dq_hd hk h, hb]
  have e : (Reader.u1 >>= fun a => Pure.pure (mk a) : Decoder Instr) c (pc + 1) = Except.bind ((Reader.u1 : Decoder Nat) c (pc + 1)) (fun q => Except.ok (mk q.1, q.2)) := rfl
  rw [e, cb_u1 h1]
  rfl)
theorem cb_u2 {c : ByteArray} {p a b : Nat} (h : cb c p = some a) (h1 : cb c (p + 1) = some b) : (Reader.u2 : Decoder Nat) c p = Except.ok (a * 256 + b, p + 2) := by
  have e : (Reader.u2 : Decoder Nat) c p = Except.bind ((Reader.u1 : Decoder Nat) c p) (fun q => Except.bind ((Reader.u1 : Decoder Nat) c q.2) (fun t => Except.ok (q.1 * 256 + t.1, t.2))) := rfl
  rw [e, cb_u1 h]
  show Except.bind ((Reader.u1 : Decoder Nat) c (p + 1)) (fun t => Except.ok (a * 256 + t.1, t.2)) = _
  rw [cb_u1 h1]
  rfl
theorem dq2 {c : ByteArray} {pc b x y : Nat} {mk : Nat → Instr} {k : Nat → Decoder Instr} (hk : Decoder.instr pc = Reader.u1 >>= k) (hb : k b = Reader.u2 >>= fun a => Pure.pure (mk a)) (h : cb c pc = some b) (h1 : cb c (pc + 1) = some x) (h2 : cb c (pc + 1 + 1) = some y) : decode c pc = .ok (mk (x * 256 + y), 3) := dq_fin (by
  rw [dq_hd hk h, hb]
  have e : (Reader.u2 >>= fun a => Pure.pure (mk a) : Decoder Instr) c (pc + 1) = Except.bind ((Reader.u2 : Decoder Nat) c (pc + 1)) (fun q => Except.ok (mk q.1, q.2)) := rfl
  rw [e, cb_u2 h1 h2]
  rfl)
theorem cb_s2 {c : ByteArray} {p a b : Nat} (h : cb c p = some a) (h1 : cb c (p + 1) = some b) : (Reader.s2 : Decoder Int) c p = Except.ok (Reader.signed 16 (a * 256 + b), p + 2) := by
  have e : (Reader.s2 : Decoder Int) c p = Except.bind ((Reader.u2 : Decoder Nat) c p) (fun q => Except.ok (Reader.signed 16 q.1, q.2)) := rfl
  rw [e, cb_u2 h h1]
  rfl
theorem dq2s {c : ByteArray} {pc b x y : Nat} {mk : Int → Instr} {k : Nat → Decoder Instr} (hk : Decoder.instr pc = Reader.u1 >>= k) (hb : k b = Reader.s2 >>= fun a => Pure.pure (mk a)) (h : cb c pc = some b) (h1 : cb c (pc + 1) = some x) (h2 : cb c (pc + 1 + 1) = some y) {o : Int} (ho : Reader.signed 16 (x * 256 + y) = o) : decode c pc = .ok (mk o, 3) := dq_fin (by
  rw [dq_hd hk h, hb]
  have e : (Reader.s2 >>= fun a => Pure.pure (mk a) : Decoder Instr) c (pc + 1) = Except.bind ((Reader.s2 : Decoder Int) c (pc + 1)) (fun q => Except.ok (mk q.1, q.2)) := rfl
  rw [e, cb_s2 h1 h2, ho]
  rfl)
theorem fl64 {R : List Nat} : ∀ {Ks : List (List Nat)}, (∀ K ∈ Ks, K.length = 64) → ∀ (q r : Nat), r < 64 → ∀ K : List Nat, Ks[q]? = some K → (Ks.flatten ++ R)[64 * q + r]? = K[r]?
  | [], _, q, _, _, _, h => by simp at h
  | K0 :: Ks, hK, 0, r, hr, K, h => by
    have e : K0 = K := by simpa using h
    subst e
    have h0 := hK K0 (List.mem_cons_self ..)
    rw [List.flatten_cons, List.append_assoc, Nat.mul_zero, Nat.zero_add, List.getElem?_append_left (by omega)]
  | K0 :: Ks, hK, q + 1, r, hr, K, h => by
    have h0 := hK K0 (List.mem_cons_self ..)
    rw [List.flatten_cons, List.append_assoc, List.getElem?_append_right (by omega), show 64 * (q + 1) + r - K0.length = 64 * q + r by omega]
    exact fl64 (fun K hm => hK K (List.mem_cons_of_mem _ hm)) q r hr K (by simpa using h)
theorem fl64_len : ∀ {Ks : List (List Nat)}, (∀ K ∈ Ks, K.length = 64) → Ks.flatten.length = 64 * Ks.length
  | [], _ => rfl
  | K0 :: Ks, h => by
    rw [List.flatten_cons, List.length_append, h K0 (List.mem_cons_self ..), fl64_len (fun K hm => h K (List.mem_cons_of_mem _ hm)), List.length_cons]
    omega
theorem kb_of {c : ByteArray} {K : List Nat} (e : c.data.toList.map UInt8.toNat = K) (r : Nat) {b : Nat} (h : K[r]? = some b) : cb c r = some b := by
  unfold cb
  rw [e]
  exact h
theorem kc_of {c : ByteArray} {Ks : List (List Nat)} {R : List Nat} (e : c.data.toList.map UInt8.toNat = Ks.flatten ++ R) (h64 : ∀ K ∈ Ks, K.length = 64) (i r : Nat) (K : List Nat) (hK : Ks[i]? = some K) {b : Nat} (h : K[r]? = some b) : cb c (64 * i + r) = some b := by
  have hr := (List.getElem?_eq_some_iff.mp h).1
  rw [h64 K (List.mem_of_getElem? hK)] at hr
  unfold cb
  rw [e, fl64 h64 i r hr K hK]
  exact h
theorem kr_of {c : ByteArray} {Ks : List (List Nat)} {R : List Nat} (e : c.data.toList.map UInt8.toNat = Ks.flatten ++ R) (h64 : ∀ K ∈ Ks, K.length = 64) (m r : Nat) (hm : Ks.length = m) {b : Nat} (h : R[r]? = some b) : cb c (64 * m + r) = some b := by
  have hl := fl64_len h64
  rw [hm] at hl
  unfold cb
  rw [e, List.getElem?_append_right (by omega), hl, Nat.add_sub_cancel_left]
  exact h
theorem cb_s1 {c : ByteArray} {p a : Nat} (h : cb c p = some a) : (Reader.s1 : Decoder Int) c p = Except.ok (Reader.signed 8 a, p + 1) := by
  have e : (Reader.s1 : Decoder Int) c p = Except.bind ((Reader.u1 : Decoder Nat) c p) (fun q => Except.ok (Reader.signed 8 q.1, q.2)) := rfl
  rw [e, cb_u1 h]
  rfl
theorem dq1s {c : ByteArray} {pc b x : Nat} {mk : Int → Instr} {k : Nat → Decoder Instr} (hk : Decoder.instr pc = Reader.u1 >>= k) (hb : k b = Reader.s1 >>= fun a => Pure.pure (mk a)) (h : cb c pc = some b) (h1 : cb c (pc + 1) = some x) {o : Int} (ho : Reader.signed 8 x = o) : decode c pc = .ok (mk o, 2) := dq_fin (by
  rw [dq_hd hk h, hb]
  have e : (Reader.s1 >>= fun a => Pure.pure (mk a) : Decoder Instr) c (pc + 1) = Except.bind ((Reader.s1 : Decoder Int) c (pc + 1)) (fun q => Except.ok (mk q.1, q.2)) := rfl
  rw [e, cb_s1 h1, ho]
  rfl)
theorem dq1k {c : ByteArray} {pc b a : Nat} {i : Instr} {k k2 : Nat → Decoder Instr} (hk : Decoder.instr pc = Reader.u1 >>= k) (hb : k b = Reader.u1 >>= k2) (hk2 : k2 a = Pure.pure i) (h : cb c pc = some b) (h1 : cb c (pc + 1) = some a) : decode c pc = .ok (i, 2) := dq_fin (by
  rw [dq_hd hk h, hb]
  have e : (Reader.u1 >>= k2 : Decoder Instr) c (pc + 1) = Except.bind ((Reader.u1 : Decoder Nat) c (pc + 1)) (fun q => k2 q.1 c q.2) := rfl
  rw [e, cb_u1 h1]
  show k2 a c (pc + 1 + 1) = _
  rw [hk2]
  rfl)
theorem dqi {c : ByteArray} {pc b a x : Nat} {mk : Nat → Int → Instr} {k : Nat → Decoder Instr} (hk : Decoder.instr pc = Reader.u1 >>= k) (hb : k b = Reader.u1 >>= fun a => Reader.s1 >>= fun z => Pure.pure (mk a z)) (h : cb c pc = some b) (h1 : cb c (pc + 1) = some a) (h2 : cb c (pc + 1 + 1) = some x) {o : Int} (ho : Reader.signed 8 x = o) : decode c pc = .ok (mk a o, 3) := dq_fin (by
  rw [dq_hd hk h, hb]
  have e : (Reader.u1 >>= fun a => Reader.s1 >>= fun z => Pure.pure (mk a z) : Decoder Instr) c (pc + 1) = Except.bind ((Reader.u1 : Decoder Nat) c (pc + 1)) (fun q => Except.bind ((Reader.s1 : Decoder Int) c q.2) (fun t => Except.ok (mk q.1 t.1, t.2))) := rfl
  rw [e, cb_u1 h1]
  show Except.bind ((Reader.s1 : Decoder Int) c (pc + 1 + 1)) (fun t => Except.ok (mk a t.1, t.2)) = _
  rw [cb_s1 h2, ho]
  rfl)
theorem cb_u4 {c : ByteArray} {p a b d e : Nat} (h0 : cb c p = some a) (h1 : cb c (p + 1) = some b) (h2 : cb c (p + 2) = some d) (h3 : cb c (p + 3) = some e) : (Reader.u4 : Decoder Nat) c p = Except.ok ((a * 256 + b) * 65536 + (d * 256 + e), p + 4) := by
  have e1 : (Reader.u4 : Decoder Nat) c p = Except.bind ((Reader.u2 : Decoder Nat) c p) (fun q => Except.bind ((Reader.u2 : Decoder Nat) c q.2) (fun t => Except.ok (q.1 * 65536 + t.1, t.2))) := rfl
  rw [e1, cb_u2 h0 h1]
  show Except.bind ((Reader.u2 : Decoder Nat) c (p + 2)) (fun t => Except.ok ((a * 256 + b) * 65536 + t.1, t.2)) = _
  rw [cb_u2 h2 (show cb c (p + 2 + 1) = some e from h3)]
  rfl
theorem cb_s4 {c : ByteArray} {p : Nat} (a b d e : Nat) {v : Int} (hv : Reader.signed 32 ((a * 256 + b) * 65536 + (d * 256 + e)) = v) (h0 : cb c p = some a) (h1 : cb c (p + 1) = some b) (h2 : cb c (p + 2) = some d) (h3 : cb c (p + 3) = some e) : (Reader.s4 : Decoder Int) c p = Except.ok (v, p + 4) := by
  have e1 : (Reader.s4 : Decoder Int) c p = Except.bind ((Reader.u4 : Decoder Nat) c p) (fun q => Except.ok (Reader.signed 32 q.1, q.2)) := rfl
  rw [e1, cb_u4 h0 h1 h2 h3, ← hv]
  rfl
def s4s (c : ByteArray) : Nat → List Int → Prop
  | _, [] => True
  | q, v :: vs => (Reader.s4 : Decoder Int) c q = Except.ok (v, q + 4) ∧ s4s c (q + 4) vs
theorem go_s4 {c : ByteArray} : ∀ (vs : List Int) (q : Nat) (acc : Array Int), s4s c q vs → (Reader.times.go (Reader.s4 : Decoder Int) vs.length acc : Decoder (Array Int)) c q = Except.ok (acc ++ vs.toArray, q + 4 * vs.length)
  | [], q, acc, _ => by
    show Except.ok (acc, q) = _
    simp
  | v :: vs, q, acc, h => by
    have e : (Reader.times.go (Reader.s4 : Decoder Int) (v :: vs).length acc : Decoder (Array Int)) c q = Except.bind ((Reader.s4 : Decoder Int) c q) (fun t => (Reader.times.go (Reader.s4 : Decoder Int) vs.length (acc.push t.1) : Decoder (Array Int)) c t.2) := rfl
    rw [e, h.1]
    show (Reader.times.go (Reader.s4 : Decoder Int) vs.length (acc.push v) : Decoder (Array Int)) c (q + 4) = _
    rw [go_s4 vs (q + 4) (acc.push v) h.2, show acc.push v ++ vs.toArray = acc ++ (v :: vs).toArray by simp, show q + 4 + 4 * vs.length = q + 4 * (v :: vs).length by simp only [List.length_cons]; omega]
theorem dbnd {α β : Type} {m : Decoder α} {k : α → Decoder β} {c : ByteArray} {p p2 : Nat} {a : α} (h : m c p = Except.ok (a, p2)) : (m >>= k) c p = k a c p2 := by
  have e : (m >>= k) c p = Except.bind (m c p) (fun q => k q.1 c q.2) := rfl
  rw [e, h]
  rfl
theorem dpad {c : ByteArray} {p b : Nat} (hp : (4 - p % 4) % 4 = 0) (h : cb c p = some b) : (Decoder.padding : Decoder Unit) c p = Except.ok ((), p) := by
  have hs : p < c.size := by
    unfold cb at h
    rw [List.getElem?_map] at h
    obtain ⟨z, hz, -⟩ := Option.map_eq_some_iff.mp h
    exact (List.getElem?_eq_some_iff.mp hz).1
  have e : (Decoder.padding : Decoder Unit) c p = Except.bind ((Reader.bytes ((4 - p % 4) % 4) : Decoder ByteArray) c p) (fun q => Except.ok ((), q.2)) := rfl
  rw [e, hp]
  have e2 : (Reader.bytes 0 : Decoder ByteArray) c p = if p + 0 ≤ c.size then Except.ok (c.extract p (p + 0), p + 0) else Except.error (HasTruncated.truncated c.size) := by
    show (ite (p + 0 ≤ c.size) (do set (p + 0); pure (c.extract p (p + 0)) : Decoder ByteArray) (throw (HasTruncated.truncated c.size))) c p = _
    split <;> rfl
  rw [e2, if_pos (by omega)]
  rfl
theorem dqo_1 {c : ByteArray} {pc : Nat} (h : cb c pc = some 1) : decode c pc = .ok (.aconst_null, 1) := dq0 rfl rfl h
theorem dqo_2 {c : ByteArray} {pc : Nat} (h : cb c pc = some 2) : decode c pc = .ok (.iconst (-1), 1) := dq0 rfl rfl h
theorem dqo_3 {c : ByteArray} {pc : Nat} (h : cb c pc = some 3) : decode c pc = .ok (.iconst 0, 1) := dq0 rfl rfl h
theorem dqo_4 {c : ByteArray} {pc : Nat} (h : cb c pc = some 4) : decode c pc = .ok (.iconst 1, 1) := dq0 rfl rfl h
theorem dqo_5 {c : ByteArray} {pc : Nat} (h : cb c pc = some 5) : decode c pc = .ok (.iconst 2, 1) := dq0 rfl rfl h
theorem dqo_6 {c : ByteArray} {pc : Nat} (h : cb c pc = some 6) : decode c pc = .ok (.iconst 3, 1) := dq0 rfl rfl h
theorem dqo_7 {c : ByteArray} {pc : Nat} (h : cb c pc = some 7) : decode c pc = .ok (.iconst 4, 1) := dq0 rfl rfl h
theorem dqo_8 {c : ByteArray} {pc : Nat} (h : cb c pc = some 8) : decode c pc = .ok (.iconst 5, 1) := dq0 rfl rfl h
theorem dqo_9 {c : ByteArray} {pc : Nat} (h : cb c pc = some 9) : decode c pc = .ok (.lconst 0, 1) := dq0 rfl rfl h
theorem dqo_10 {c : ByteArray} {pc : Nat} (h : cb c pc = some 10) : decode c pc = .ok (.lconst 1, 1) := dq0 rfl rfl h
theorem dqo_26 {c : ByteArray} {pc : Nat} (h : cb c pc = some 26) : decode c pc = .ok (.iload_n 0, 1) := dq0 rfl rfl h
theorem dqo_27 {c : ByteArray} {pc : Nat} (h : cb c pc = some 27) : decode c pc = .ok (.iload_n 1, 1) := dq0 rfl rfl h
theorem dqo_28 {c : ByteArray} {pc : Nat} (h : cb c pc = some 28) : decode c pc = .ok (.iload_n 2, 1) := dq0 rfl rfl h
theorem dqo_29 {c : ByteArray} {pc : Nat} (h : cb c pc = some 29) : decode c pc = .ok (.iload_n 3, 1) := dq0 rfl rfl h
theorem dqo_30 {c : ByteArray} {pc : Nat} (h : cb c pc = some 30) : decode c pc = .ok (.lload_n 0, 1) := dq0 rfl rfl h
theorem dqo_31 {c : ByteArray} {pc : Nat} (h : cb c pc = some 31) : decode c pc = .ok (.lload_n 1, 1) := dq0 rfl rfl h
theorem dqo_32 {c : ByteArray} {pc : Nat} (h : cb c pc = some 32) : decode c pc = .ok (.lload_n 2, 1) := dq0 rfl rfl h
theorem dqo_33 {c : ByteArray} {pc : Nat} (h : cb c pc = some 33) : decode c pc = .ok (.lload_n 3, 1) := dq0 rfl rfl h
theorem dqo_42 {c : ByteArray} {pc : Nat} (h : cb c pc = some 42) : decode c pc = .ok (.aload_n 0, 1) := dq0 rfl rfl h
theorem dqo_43 {c : ByteArray} {pc : Nat} (h : cb c pc = some 43) : decode c pc = .ok (.aload_n 1, 1) := dq0 rfl rfl h
theorem dqo_44 {c : ByteArray} {pc : Nat} (h : cb c pc = some 44) : decode c pc = .ok (.aload_n 2, 1) := dq0 rfl rfl h
theorem dqo_45 {c : ByteArray} {pc : Nat} (h : cb c pc = some 45) : decode c pc = .ok (.aload_n 3, 1) := dq0 rfl rfl h
theorem dqo_46 {c : ByteArray} {pc : Nat} (h : cb c pc = some 46) : decode c pc = .ok (.iaload, 1) := dq0 rfl rfl h
theorem dqo_47 {c : ByteArray} {pc : Nat} (h : cb c pc = some 47) : decode c pc = .ok (.laload, 1) := dq0 rfl rfl h
theorem dqo_50 {c : ByteArray} {pc : Nat} (h : cb c pc = some 50) : decode c pc = .ok (.aaload, 1) := dq0 rfl rfl h
theorem dqo_51 {c : ByteArray} {pc : Nat} (h : cb c pc = some 51) : decode c pc = .ok (.baload, 1) := dq0 rfl rfl h
theorem dqo_59 {c : ByteArray} {pc : Nat} (h : cb c pc = some 59) : decode c pc = .ok (.istore_n 0, 1) := dq0 rfl rfl h
theorem dqo_60 {c : ByteArray} {pc : Nat} (h : cb c pc = some 60) : decode c pc = .ok (.istore_n 1, 1) := dq0 rfl rfl h
theorem dqo_61 {c : ByteArray} {pc : Nat} (h : cb c pc = some 61) : decode c pc = .ok (.istore_n 2, 1) := dq0 rfl rfl h
theorem dqo_62 {c : ByteArray} {pc : Nat} (h : cb c pc = some 62) : decode c pc = .ok (.istore_n 3, 1) := dq0 rfl rfl h
theorem dqo_63 {c : ByteArray} {pc : Nat} (h : cb c pc = some 63) : decode c pc = .ok (.lstore_n 0, 1) := dq0 rfl rfl h
theorem dqo_64 {c : ByteArray} {pc : Nat} (h : cb c pc = some 64) : decode c pc = .ok (.lstore_n 1, 1) := dq0 rfl rfl h
theorem dqo_65 {c : ByteArray} {pc : Nat} (h : cb c pc = some 65) : decode c pc = .ok (.lstore_n 2, 1) := dq0 rfl rfl h
theorem dqo_66 {c : ByteArray} {pc : Nat} (h : cb c pc = some 66) : decode c pc = .ok (.lstore_n 3, 1) := dq0 rfl rfl h
theorem dqo_75 {c : ByteArray} {pc : Nat} (h : cb c pc = some 75) : decode c pc = .ok (.astore_n 0, 1) := dq0 rfl rfl h
theorem dqo_76 {c : ByteArray} {pc : Nat} (h : cb c pc = some 76) : decode c pc = .ok (.astore_n 1, 1) := dq0 rfl rfl h
theorem dqo_77 {c : ByteArray} {pc : Nat} (h : cb c pc = some 77) : decode c pc = .ok (.astore_n 2, 1) := dq0 rfl rfl h
theorem dqo_78 {c : ByteArray} {pc : Nat} (h : cb c pc = some 78) : decode c pc = .ok (.astore_n 3, 1) := dq0 rfl rfl h
theorem dqo_79 {c : ByteArray} {pc : Nat} (h : cb c pc = some 79) : decode c pc = .ok (.iastore, 1) := dq0 rfl rfl h
theorem dqo_80 {c : ByteArray} {pc : Nat} (h : cb c pc = some 80) : decode c pc = .ok (.lastore, 1) := dq0 rfl rfl h
theorem dqo_83 {c : ByteArray} {pc : Nat} (h : cb c pc = some 83) : decode c pc = .ok (.aastore, 1) := dq0 rfl rfl h
theorem dqo_84 {c : ByteArray} {pc : Nat} (h : cb c pc = some 84) : decode c pc = .ok (.bastore, 1) := dq0 rfl rfl h
theorem dqo_87 {c : ByteArray} {pc : Nat} (h : cb c pc = some 87) : decode c pc = .ok (.pop, 1) := dq0 rfl rfl h
theorem dqo_88 {c : ByteArray} {pc : Nat} (h : cb c pc = some 88) : decode c pc = .ok (.pop2, 1) := dq0 rfl rfl h
theorem dqo_89 {c : ByteArray} {pc : Nat} (h : cb c pc = some 89) : decode c pc = .ok (.dup, 1) := dq0 rfl rfl h
theorem dqo_90 {c : ByteArray} {pc : Nat} (h : cb c pc = some 90) : decode c pc = .ok (.dup_x1, 1) := dq0 rfl rfl h
theorem dqo_92 {c : ByteArray} {pc : Nat} (h : cb c pc = some 92) : decode c pc = .ok (.dup2, 1) := dq0 rfl rfl h
theorem dqo_96 {c : ByteArray} {pc : Nat} (h : cb c pc = some 96) : decode c pc = .ok (.iadd, 1) := dq0 rfl rfl h
theorem dqo_97 {c : ByteArray} {pc : Nat} (h : cb c pc = some 97) : decode c pc = .ok (.ladd, 1) := dq0 rfl rfl h
theorem dqo_100 {c : ByteArray} {pc : Nat} (h : cb c pc = some 100) : decode c pc = .ok (.isub, 1) := dq0 rfl rfl h
theorem dqo_101 {c : ByteArray} {pc : Nat} (h : cb c pc = some 101) : decode c pc = .ok (.lsub, 1) := dq0 rfl rfl h
theorem dqo_104 {c : ByteArray} {pc : Nat} (h : cb c pc = some 104) : decode c pc = .ok (.imul, 1) := dq0 rfl rfl h
theorem dqo_105 {c : ByteArray} {pc : Nat} (h : cb c pc = some 105) : decode c pc = .ok (.lmul, 1) := dq0 rfl rfl h
theorem dqo_108 {c : ByteArray} {pc : Nat} (h : cb c pc = some 108) : decode c pc = .ok (.idiv, 1) := dq0 rfl rfl h
theorem dqo_112 {c : ByteArray} {pc : Nat} (h : cb c pc = some 112) : decode c pc = .ok (.irem, 1) := dq0 rfl rfl h
theorem dqo_116 {c : ByteArray} {pc : Nat} (h : cb c pc = some 116) : decode c pc = .ok (.ineg, 1) := dq0 rfl rfl h
theorem dqo_120 {c : ByteArray} {pc : Nat} (h : cb c pc = some 120) : decode c pc = .ok (.ishl, 1) := dq0 rfl rfl h
theorem dqo_122 {c : ByteArray} {pc : Nat} (h : cb c pc = some 122) : decode c pc = .ok (.ishr, 1) := dq0 rfl rfl h
theorem dqo_124 {c : ByteArray} {pc : Nat} (h : cb c pc = some 124) : decode c pc = .ok (.iushr, 1) := dq0 rfl rfl h
theorem dqo_126 {c : ByteArray} {pc : Nat} (h : cb c pc = some 126) : decode c pc = .ok (.iand, 1) := dq0 rfl rfl h
theorem dqo_128 {c : ByteArray} {pc : Nat} (h : cb c pc = some 128) : decode c pc = .ok (.ior, 1) := dq0 rfl rfl h
theorem dqo_130 {c : ByteArray} {pc : Nat} (h : cb c pc = some 130) : decode c pc = .ok (.ixor, 1) := dq0 rfl rfl h
theorem dqo_133 {c : ByteArray} {pc : Nat} (h : cb c pc = some 133) : decode c pc = .ok (.i2l, 1) := dq0 rfl rfl h
theorem dqo_136 {c : ByteArray} {pc : Nat} (h : cb c pc = some 136) : decode c pc = .ok (.l2i, 1) := dq0 rfl rfl h
theorem dqo_145 {c : ByteArray} {pc : Nat} (h : cb c pc = some 145) : decode c pc = .ok (.i2b, 1) := dq0 rfl rfl h
theorem dqo_148 {c : ByteArray} {pc : Nat} (h : cb c pc = some 148) : decode c pc = .ok (.lcmp, 1) := dq0 rfl rfl h
theorem dqo_172 {c : ByteArray} {pc : Nat} (h : cb c pc = some 172) : decode c pc = .ok (.ireturn, 1) := dq0 rfl rfl h
theorem dqo_173 {c : ByteArray} {pc : Nat} (h : cb c pc = some 173) : decode c pc = .ok (.lreturn, 1) := dq0 rfl rfl h
theorem dqo_176 {c : ByteArray} {pc : Nat} (h : cb c pc = some 176) : decode c pc = .ok (.areturn, 1) := dq0 rfl rfl h
theorem dqo_177 {c : ByteArray} {pc : Nat} (h : cb c pc = some 177) : decode c pc = .ok (.return_, 1) := dq0 rfl rfl h
theorem dqo_190 {c : ByteArray} {pc : Nat} (h : cb c pc = some 190) : decode c pc = .ok (.arraylength, 1) := dq0 rfl rfl h
theorem dqo_191 {c : ByteArray} {pc : Nat} (h : cb c pc = some 191) : decode c pc = .ok (.athrow, 1) := dq0 rfl rfl h
theorem dqo_18 {c : ByteArray} {pc : Nat} (a : Nat) (h : cb c pc = some 18) (h1 : cb c (pc + 1) = some a) : decode c pc = .ok (.ldc a, 2) := dq1 (mk := .ldc) rfl rfl h h1
theorem dqo_21 {c : ByteArray} {pc : Nat} (a : Nat) (h : cb c pc = some 21) (h1 : cb c (pc + 1) = some a) : decode c pc = .ok (.iload a, 2) := dq1 (mk := .iload) rfl rfl h h1
theorem dqo_22 {c : ByteArray} {pc : Nat} (a : Nat) (h : cb c pc = some 22) (h1 : cb c (pc + 1) = some a) : decode c pc = .ok (.lload a, 2) := dq1 (mk := .lload) rfl rfl h h1
theorem dqo_25 {c : ByteArray} {pc : Nat} (a : Nat) (h : cb c pc = some 25) (h1 : cb c (pc + 1) = some a) : decode c pc = .ok (.aload a, 2) := dq1 (mk := .aload) rfl rfl h h1
theorem dqo_54 {c : ByteArray} {pc : Nat} (a : Nat) (h : cb c pc = some 54) (h1 : cb c (pc + 1) = some a) : decode c pc = .ok (.istore a, 2) := dq1 (mk := .istore) rfl rfl h h1
theorem dqo_55 {c : ByteArray} {pc : Nat} (a : Nat) (h : cb c pc = some 55) (h1 : cb c (pc + 1) = some a) : decode c pc = .ok (.lstore a, 2) := dq1 (mk := .lstore) rfl rfl h h1
theorem dqo_58 {c : ByteArray} {pc : Nat} (a : Nat) (h : cb c pc = some 58) (h1 : cb c (pc + 1) = some a) : decode c pc = .ok (.astore a, 2) := dq1 (mk := .astore) rfl rfl h h1
theorem dqo_19 {c : ByteArray} {pc : Nat} (x y : Nat) (h : cb c pc = some 19) (h1 : cb c (pc + 1) = some x) (h2 : cb c (pc + 1 + 1) = some y) : decode c pc = .ok (.ldc_w (x * 256 + y), 3) := dq2 (mk := .ldc_w) rfl rfl h h1 h2
theorem dqo_20 {c : ByteArray} {pc : Nat} (x y : Nat) (h : cb c pc = some 20) (h1 : cb c (pc + 1) = some x) (h2 : cb c (pc + 1 + 1) = some y) : decode c pc = .ok (.ldc2_w (x * 256 + y), 3) := dq2 (mk := .ldc2_w) rfl rfl h h1 h2
theorem dqo_178 {c : ByteArray} {pc : Nat} (x y : Nat) (h : cb c pc = some 178) (h1 : cb c (pc + 1) = some x) (h2 : cb c (pc + 1 + 1) = some y) : decode c pc = .ok (.getstatic (x * 256 + y), 3) := dq2 (mk := .getstatic) rfl rfl h h1 h2
theorem dqo_179 {c : ByteArray} {pc : Nat} (x y : Nat) (h : cb c pc = some 179) (h1 : cb c (pc + 1) = some x) (h2 : cb c (pc + 1 + 1) = some y) : decode c pc = .ok (.putstatic (x * 256 + y), 3) := dq2 (mk := .putstatic) rfl rfl h h1 h2
theorem dqo_180 {c : ByteArray} {pc : Nat} (x y : Nat) (h : cb c pc = some 180) (h1 : cb c (pc + 1) = some x) (h2 : cb c (pc + 1 + 1) = some y) : decode c pc = .ok (.getfield (x * 256 + y), 3) := dq2 (mk := .getfield) rfl rfl h h1 h2
theorem dqo_181 {c : ByteArray} {pc : Nat} (x y : Nat) (h : cb c pc = some 181) (h1 : cb c (pc + 1) = some x) (h2 : cb c (pc + 1 + 1) = some y) : decode c pc = .ok (.putfield (x * 256 + y), 3) := dq2 (mk := .putfield) rfl rfl h h1 h2
theorem dqo_182 {c : ByteArray} {pc : Nat} (x y : Nat) (h : cb c pc = some 182) (h1 : cb c (pc + 1) = some x) (h2 : cb c (pc + 1 + 1) = some y) : decode c pc = .ok (.invokevirtual (x * 256 + y), 3) := dq2 (mk := .invokevirtual) rfl rfl h h1 h2
theorem dqo_183 {c : ByteArray} {pc : Nat} (x y : Nat) (h : cb c pc = some 183) (h1 : cb c (pc + 1) = some x) (h2 : cb c (pc + 1 + 1) = some y) : decode c pc = .ok (.invokespecial (x * 256 + y), 3) := dq2 (mk := .invokespecial) rfl rfl h h1 h2
theorem dqo_184 {c : ByteArray} {pc : Nat} (x y : Nat) (h : cb c pc = some 184) (h1 : cb c (pc + 1) = some x) (h2 : cb c (pc + 1 + 1) = some y) : decode c pc = .ok (.invokestatic (x * 256 + y), 3) := dq2 (mk := .invokestatic) rfl rfl h h1 h2
theorem dqo_187 {c : ByteArray} {pc : Nat} (x y : Nat) (h : cb c pc = some 187) (h1 : cb c (pc + 1) = some x) (h2 : cb c (pc + 1 + 1) = some y) : decode c pc = .ok (.new (x * 256 + y), 3) := dq2 (mk := .new) rfl rfl h h1 h2
theorem dqo_189 {c : ByteArray} {pc : Nat} (x y : Nat) (h : cb c pc = some 189) (h1 : cb c (pc + 1) = some x) (h2 : cb c (pc + 1 + 1) = some y) : decode c pc = .ok (.anewarray (x * 256 + y), 3) := dq2 (mk := .anewarray) rfl rfl h h1 h2
theorem dqo_192 {c : ByteArray} {pc : Nat} (x y : Nat) (h : cb c pc = some 192) (h1 : cb c (pc + 1) = some x) (h2 : cb c (pc + 1 + 1) = some y) : decode c pc = .ok (.checkcast (x * 256 + y), 3) := dq2 (mk := .checkcast) rfl rfl h h1 h2
theorem dqo_193 {c : ByteArray} {pc : Nat} (x y : Nat) (h : cb c pc = some 193) (h1 : cb c (pc + 1) = some x) (h2 : cb c (pc + 1 + 1) = some y) : decode c pc = .ok (.instanceof (x * 256 + y), 3) := dq2 (mk := .instanceof) rfl rfl h h1 h2
theorem dqo_17 {c : ByteArray} {pc : Nat} (x y : Nat) {o : Int} (ho : Reader.signed 16 (x * 256 + y) = o) (h : cb c pc = some 17) (h1 : cb c (pc + 1) = some x) (h2 : cb c (pc + 1 + 1) = some y) : decode c pc = .ok (.sipush o, 3) := dq2s (mk := .sipush) rfl rfl h h1 h2 ho
theorem dqo_153 {c : ByteArray} {pc : Nat} (x y : Nat) {o : Int} (ho : Reader.signed 16 (x * 256 + y) = o) (h : cb c pc = some 153) (h1 : cb c (pc + 1) = some x) (h2 : cb c (pc + 1 + 1) = some y) : decode c pc = .ok (.ifCond .eq o, 3) := dq2s (mk := .ifCond .eq) rfl rfl h h1 h2 ho
theorem dqo_154 {c : ByteArray} {pc : Nat} (x y : Nat) {o : Int} (ho : Reader.signed 16 (x * 256 + y) = o) (h : cb c pc = some 154) (h1 : cb c (pc + 1) = some x) (h2 : cb c (pc + 1 + 1) = some y) : decode c pc = .ok (.ifCond .ne o, 3) := dq2s (mk := .ifCond .ne) rfl rfl h h1 h2 ho
theorem dqo_155 {c : ByteArray} {pc : Nat} (x y : Nat) {o : Int} (ho : Reader.signed 16 (x * 256 + y) = o) (h : cb c pc = some 155) (h1 : cb c (pc + 1) = some x) (h2 : cb c (pc + 1 + 1) = some y) : decode c pc = .ok (.ifCond .lt o, 3) := dq2s (mk := .ifCond .lt) rfl rfl h h1 h2 ho
theorem dqo_156 {c : ByteArray} {pc : Nat} (x y : Nat) {o : Int} (ho : Reader.signed 16 (x * 256 + y) = o) (h : cb c pc = some 156) (h1 : cb c (pc + 1) = some x) (h2 : cb c (pc + 1 + 1) = some y) : decode c pc = .ok (.ifCond .ge o, 3) := dq2s (mk := .ifCond .ge) rfl rfl h h1 h2 ho
theorem dqo_157 {c : ByteArray} {pc : Nat} (x y : Nat) {o : Int} (ho : Reader.signed 16 (x * 256 + y) = o) (h : cb c pc = some 157) (h1 : cb c (pc + 1) = some x) (h2 : cb c (pc + 1 + 1) = some y) : decode c pc = .ok (.ifCond .gt o, 3) := dq2s (mk := .ifCond .gt) rfl rfl h h1 h2 ho
theorem dqo_158 {c : ByteArray} {pc : Nat} (x y : Nat) {o : Int} (ho : Reader.signed 16 (x * 256 + y) = o) (h : cb c pc = some 158) (h1 : cb c (pc + 1) = some x) (h2 : cb c (pc + 1 + 1) = some y) : decode c pc = .ok (.ifCond .le o, 3) := dq2s (mk := .ifCond .le) rfl rfl h h1 h2 ho
theorem dqo_159 {c : ByteArray} {pc : Nat} (x y : Nat) {o : Int} (ho : Reader.signed 16 (x * 256 + y) = o) (h : cb c pc = some 159) (h1 : cb c (pc + 1) = some x) (h2 : cb c (pc + 1 + 1) = some y) : decode c pc = .ok (.if_icmp .eq o, 3) := dq2s (mk := .if_icmp .eq) rfl rfl h h1 h2 ho
theorem dqo_160 {c : ByteArray} {pc : Nat} (x y : Nat) {o : Int} (ho : Reader.signed 16 (x * 256 + y) = o) (h : cb c pc = some 160) (h1 : cb c (pc + 1) = some x) (h2 : cb c (pc + 1 + 1) = some y) : decode c pc = .ok (.if_icmp .ne o, 3) := dq2s (mk := .if_icmp .ne) rfl rfl h h1 h2 ho
theorem dqo_161 {c : ByteArray} {pc : Nat} (x y : Nat) {o : Int} (ho : Reader.signed 16 (x * 256 + y) = o) (h : cb c pc = some 161) (h1 : cb c (pc + 1) = some x) (h2 : cb c (pc + 1 + 1) = some y) : decode c pc = .ok (.if_icmp .lt o, 3) := dq2s (mk := .if_icmp .lt) rfl rfl h h1 h2 ho
theorem dqo_162 {c : ByteArray} {pc : Nat} (x y : Nat) {o : Int} (ho : Reader.signed 16 (x * 256 + y) = o) (h : cb c pc = some 162) (h1 : cb c (pc + 1) = some x) (h2 : cb c (pc + 1 + 1) = some y) : decode c pc = .ok (.if_icmp .ge o, 3) := dq2s (mk := .if_icmp .ge) rfl rfl h h1 h2 ho
theorem dqo_163 {c : ByteArray} {pc : Nat} (x y : Nat) {o : Int} (ho : Reader.signed 16 (x * 256 + y) = o) (h : cb c pc = some 163) (h1 : cb c (pc + 1) = some x) (h2 : cb c (pc + 1 + 1) = some y) : decode c pc = .ok (.if_icmp .gt o, 3) := dq2s (mk := .if_icmp .gt) rfl rfl h h1 h2 ho
theorem dqo_164 {c : ByteArray} {pc : Nat} (x y : Nat) {o : Int} (ho : Reader.signed 16 (x * 256 + y) = o) (h : cb c pc = some 164) (h1 : cb c (pc + 1) = some x) (h2 : cb c (pc + 1 + 1) = some y) : decode c pc = .ok (.if_icmp .le o, 3) := dq2s (mk := .if_icmp .le) rfl rfl h h1 h2 ho
theorem dqo_167 {c : ByteArray} {pc : Nat} (x y : Nat) {o : Int} (ho : Reader.signed 16 (x * 256 + y) = o) (h : cb c pc = some 167) (h1 : cb c (pc + 1) = some x) (h2 : cb c (pc + 1 + 1) = some y) : decode c pc = .ok (.goto o, 3) := dq2s (mk := .goto) rfl rfl h h1 h2 ho
theorem dqo_198 {c : ByteArray} {pc : Nat} (x y : Nat) {o : Int} (ho : Reader.signed 16 (x * 256 + y) = o) (h : cb c pc = some 198) (h1 : cb c (pc + 1) = some x) (h2 : cb c (pc + 1 + 1) = some y) : decode c pc = .ok (.ifnull o, 3) := dq2s (mk := .ifnull) rfl rfl h h1 h2 ho
theorem dqo_199 {c : ByteArray} {pc : Nat} (x y : Nat) {o : Int} (ho : Reader.signed 16 (x * 256 + y) = o) (h : cb c pc = some 199) (h1 : cb c (pc + 1) = some x) (h2 : cb c (pc + 1 + 1) = some y) : decode c pc = .ok (.ifnonnull o, 3) := dq2s (mk := .ifnonnull) rfl rfl h h1 h2 ho
theorem dqo_16 {c : ByteArray} {pc : Nat} (x : Nat) {o : Int} (ho : Reader.signed 8 x = o) (h : cb c pc = some 16) (h1 : cb c (pc + 1) = some x) : decode c pc = .ok (.bipush o, 2) := dq1s (mk := .bipush) rfl rfl h h1 ho
theorem dqo_132 {c : ByteArray} {pc : Nat} (a x : Nat) {o : Int} (ho : Reader.signed 8 x = o) (h : cb c pc = some 132) (h1 : cb c (pc + 1) = some a) (h2 : cb c (pc + 1 + 1) = some x) : decode c pc = .ok (.iinc a o, 3) := dqi (mk := .iinc) rfl rfl h h1 h2 ho
theorem dqo_188_4 {c : ByteArray} {pc : Nat} (h : cb c pc = some 188) (h1 : cb c (pc + 1) = some 4) : decode c pc = .ok (.newarray .boolean, 2) := dq1k rfl rfl rfl h h1
theorem dqo_188_8 {c : ByteArray} {pc : Nat} (h : cb c pc = some 188) (h1 : cb c (pc + 1) = some 8) : decode c pc = .ok (.newarray .byte, 2) := dq1k rfl rfl rfl h h1
theorem dqo_188_10 {c : ByteArray} {pc : Nat} (h : cb c pc = some 188) (h1 : cb c (pc + 1) = some 10) : decode c pc = .ok (.newarray .int, 2) := dq1k rfl rfl rfl h h1
theorem dqo_188_11 {c : ByteArray} {pc : Nat} (h : cb c pc = some 188) (h1 : cb c (pc + 1) = some 11) : decode c pc = .ok (.newarray .long, 2) := dq1k rfl rfl rfl h h1
