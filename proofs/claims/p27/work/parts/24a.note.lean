def ntM (nw r : Nat) (v : Int32) : Int32 := if nw ≤ r then -1 else v
