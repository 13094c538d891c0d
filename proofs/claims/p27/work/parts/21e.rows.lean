def rwS (f : Nat → Int32) (x : Int32) : Nat → Bool
  | 0 => true
  | i + 1 => rwS f x i && decide (bitv x (nI i) = 0 ∨ bmF f i (9 - (i + 1)) &&& x = 0)
theorem rwS_stop (f : Nat → Int32) (x : Int32) {i : Nat} (h : rwS f x i = false) : ∀ n, rwS f x (i + n) = false
  | 0 => h
  | n + 1 => by
    show (rwS f x (i + n) && _) = false
    rw [rwS_stop f x h n]; rfl
def rwT (f : Nat → Int32) : Nat → Int32
  | 0 => 0
  | t + 1 => if rwS f (nI (t + 1)) 9 = true then (if mnF (nI (t + 1)) 9 ≤ rwT f t then rwT f t else mnF (nI (t + 1)) 9) else rwT f t
theorem rwT_s (f : Nat → Int32) {i : Nat} (h : 1 ≤ i) : rwT f (i + 1 - 1) = if rwS f (nI i) 9 = true then (if mnF (nI i) 9 ≤ rwT f (i - 1) then rwT f (i - 1) else mnF (nI i) 9) else rwT f (i - 1) := by
  obtain ⟨t, rfl⟩ : ∃ t, i = t + 1 := ⟨i - 1, by omega⟩
  rfl
