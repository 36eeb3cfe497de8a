section TXR
variable {p : Program} {l : Launch} {e : Env} {R : Room} {s : State} {m : MethodId} {args : Array Value} {below : List Frame} {meth : Method} {c : Code} {D : va_G} {cy : Nat → ClassId} {A : Nat → Prop} {Q : State → Prop} {nL cells slots : Nat} {lv : List (Option Value)} {pc : Nat} {st : List Value} {cc : ByteArray} {own : String} {X : (Nat → Prop) → State → Heap → Prop} {w : va_W} {aK aV : Nat → Nat} {tO tT : Nat} {gO gT : Nat → Int32}
theorem kb_fit {i dp : Nat} {g : Nat → Int32} (hi : i < KSN.length) (hg : sb_Fit g) : sb_Fit (va_cpy (fun j => (KSB.getD i []).getD j 0) g 0 dp (KSN.getD i 0)) := by
  have hall : ∀ i, i < KSN.length → ∀ j, j < KSN.getD i 0 → fits .byte (.int ((KSB.getD i []).getD j 0)) = true := by decide
  intro q
  unfold va_cpy
  split
  · rename_i h
    have h2 : 0 + (q - dp) < KSN.getD i 0 := by omega
    exact hall i hi _ h2
  · exact hg q
end TXR
