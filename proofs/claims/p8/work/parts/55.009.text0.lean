abbrev BYO (cy : Nat → ClassId) (v m : Nat) (g : Nat → Int32) : Nat × va_E := (v, .inl (cy 0, m, .inl g))
abbrev STO (b v : Nat) (h z : Int32) : Nat × va_E := (b, .inr (0, [.ref v, .int (nI 0), .int h, .int z]))
def KSL : List (String × Nat × String) := [("Splicemonoid$Part", 75, ", "), ("SplicemonoidModel", 151, ""), ("SplicemonoidModel", 166, ", "), ("SplicemonoidModel", 175, "["), ("SplicemonoidModel", 177, "]")]
