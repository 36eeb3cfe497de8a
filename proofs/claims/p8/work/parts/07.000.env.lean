/-! WHAT IS KNOWN OUTSIDE THE WORLD: links between nest mates, the statics that a throw reads, the texts -/
def nwk : Cond → Bool
  | .fieldLinkNest .. => true
  | .castable .. => true
  | .declares .. => true
  | _ => false
def NWL : List Cond := tables_1.filter nwk
def SRL : List (String × Nat × String) := [("Splicemonoid", 286, "there is no such question"), ("java/lang/StringIndexOutOfBoundsException", 13, "String index out of range: "), ("java/util/Arrays", 337, " > "), ("java/util/Arrays", 48, "fromIndex("), ("java/util/Arrays", 57, ") > toIndex("), ("java/util/Arrays", 59, ")"), ("java/lang/ArrayIndexOutOfBoundsException", 13, "Array index out of range: "), ("Splicemonoid$Part", 75, ", "), ("Splicemonoid", 280, "there is no such window"), ("Splicemonoid", 282, "there is no such cursor"), ("Splicemonoid", 288, "there is no such row or window"), ("Splicemonoid", 284, "an item is from -99 to 99"), ("Splicemonoid", 292, "a row has at most 12 items"), ("Splicemonoid", 290, "there is no such place"), ("Splicemonoid", 92, "a turn goes from -99 to 99"), ("Splicemonoid", 120, "there are the orders 0 to 2"), ("Splicemonoid", 278, "there is no such row"), ("Splicemonoid", 139, "a row has 0 to 12 items"), ("Splicemonoid", 149, "the row has no items"), ("Splicemonoid", 185, "a window can't be seen through at itself"), ("Splicemonoid", 215, "a cursor can't stand there"), ("Splicemonoid", 294, "the cursor is not there"), ("SplicemonoidModel", 151, ""), ("SplicemonoidModel", 166, ", "), ("SplicemonoidModel", 175, "["), ("SplicemonoidModel", 177, "]")]
