theorem lsR_self (W T : Nat → Nat → Int32) (h1 : W 1 = T 1) (h2 : W 2 = T 2) (h3 : W 3 = T 3) : ∀ n i : Nat, lsR W T n i = true
  | 0, _ => rfl
  | n + 1, i => by rw [lsR, if_pos (congrFun h2 i), if_pos (congrFun h1 i), if_pos (congrFun h3 i)]; exact lsR_self W T h1 h2 h3 n (i + 1)
/-- what was listed stands listed -/
theorem lsR_ls (V S : Nat → Nat → Int32) : lsR (lsS V S) S 9 0 = true := by
  by_cases h : lsR V S 9 0 = true
  · rw [lsS, if_pos h]; exact h
  · rw [lsS, if_neg h]; exact lsR_self _ _ rfl rfl rfl 9 0
theorem lsS_i (V S : Nat → Nat → Int32) : lsS (lsS V S) S = lsS V S := by rw [lsS, if_pos (lsR_ls V S)]
theorem lsA_i (V S : Nat → Nat → Int32) (x : Nat → Int32) : lsA (lsS V S) S x = x := by rw [lsA, if_pos (lsR_ls V S)]
theorem lsO_i (V S : Nat → Nat → Int32) (x : Nat → Int32) : lsO (lsS V S) S x = x := by rw [lsO, if_pos (lsR_ls V S)]
