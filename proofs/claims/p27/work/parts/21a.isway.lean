/-- is a set a way: so far, and the piece before -/
def iwS (f : Nat → Int32) (x : Int32) : Nat → Bool × Int32
  | 0 => (true, -1)
  | i + 1 => if (iwS f x i).1 = true then (if bitv x (nI i) = 1 then (if (iwS f x i).2 = -1 then decide (f (18 + i) &&& 1 = 1) else decide (bitv (f (27 + (iwS f x i).2).toNatClampNeg) (nI i) = 1), nI i) else iwS f x i) else iwS f x i
theorem iwS_stop (f : Nat → Int32) (x : Int32) {i : Nat} (h : (iwS f x i).1 = false) : ∀ n, (iwS f x (i + n)).1 = false
  | 0 => h
  | n + 1 => by
    have h2 := iwS_stop f x h n
    show (iwS f x (i + n + 1)).1 = false
    rw [iwS, if_neg (by rw [h2]; decide)]
    exact h2
def iwB (f : Nat → Int32) (x : Int32) : Bool := (iwS f x 9).1 && decide (¬ f (18 + (iwS f x 9).2).toNatClampNeg ≤ 1)
/-- is a set an open way, by the first pieces -/
def ioS (f : Nat → Int32) (x : Int32) : Nat → Bool
  | 0 => iwB f x
  | i + 1 => ioS f x i && decide (bitv x (nI i) = 0 ∨ f (36 + i) &&& x = 0)
theorem ioS_stop (f : Nat → Int32) (x : Int32) {i : Nat} (h : ioS f x i = false) : ∀ n, ioS f x (i + n) = false
  | 0 => h
  | n + 1 => by
    show (ioS f x (i + n) && _) = false
    rw [ioS_stop f x h n]; rfl
def ioB (f : Nat → Int32) (x : Int32) : Bool := ioS f x 9
def BfOK (y : Int32) : Prop := y = -1 ∨ ∃ j, j < 9 ∧ y = nI j
theorem ix_in {y : Int32} (hb : BfOK y) (b : Nat) (h1 : 1 ≤ b) (h2 : b ≤ 60) : vp_in (nI b + y) 72 := by
  rcases hb with rfl | ⟨j, hj, rfl⟩
  · obtain ⟨c, rfl⟩ : ∃ c, b = c + 1 := ⟨b - 1, by omega⟩
    rw [pk_m1]
    exact vp_in_nI (by omega) (by omega)
  · rw [nI_add]
    exact vp_in_nI (by omega) (by omega)
theorem bI_0 {z : Int32} {b : Bool} (e : z = bI b) (h : z = 0) : b = false := bI_eq.mp (e ▸ h)
theorem bI_1 {z : Int32} {b : Bool} (e : z = bI b) (h : ¬ z = 0) : b = true := bI_ne.mp (e ▸ h)
