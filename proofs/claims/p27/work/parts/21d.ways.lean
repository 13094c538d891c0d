/-- ways, or open ones, among the sets 1 .. t, that have some pieces -/
def wyF (f : Nat → Int32) (pm : Int32) (b : Bool) : Nat → Int32
  | 0 => 0
  | t + 1 => wyF f pm b t + (if nI (t + 1) &&& pm = pm then bI (if b = true then ioB f (nI (t + 1)) else iwB f (nI (t + 1))) else 0)
theorem wyF_s (f : Nat → Int32) (pm : Int32) (b : Bool) {i : Nat} (h : 1 ≤ i) : wyF f pm b (i + 1 - 1) = wyF f pm b (i - 1) + (if nI i &&& pm = pm then bI (if b = true then ioB f (nI i) else iwB f (nI i)) else 0) := by
  obtain ⟨t, rfl⟩ : ∃ t, i = t + 1 := ⟨i - 1, by omega⟩
  rfl
