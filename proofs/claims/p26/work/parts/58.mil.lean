abbrev M_mil (v : Int32) : Prop := 0 ≤ v.toInt ∧ v.toInt ≤ 1000000

