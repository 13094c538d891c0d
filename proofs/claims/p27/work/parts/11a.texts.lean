def snA (d : Nat → Nat → Nat) : Nat → Option Nat := fun i => match i with
  | 0 => some (d 11 0) | 1 => some (d 12 0) | _ => none
def loS (S G : Nat → Nat → Int32) : Nat → Nat → Int32 := anS (mkS (G 0) (G 1) (G 2) (G 3) (S 4) (S 5) (S 6) (S 7))
