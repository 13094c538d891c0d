theorem inB_n {q a b : Nat} (h1 : a ≤ q) (h2 : q ≤ b) (hb : b < 2 ^ 31) : inB (nI q) (nI a) (nI b) = true := by
  unfold inB
  rw [decide_eq_true_eq]
  exact ⟨nI_nlt h1 (by omega), nI_nlt h2 hb⟩
def rdM (f : Nat → Int32) (x w : Int32) (i : Nat) : Nat → Int32 := fun j => if 9 ≤ j ∧ j < 9 + i then f j - (if bitv x (nI (j - 9)) = 1 then w else 0) else f j
theorem rdM_0 (f : Nat → Int32) (x w : Int32) : rdM f x w 0 = f := by
  funext j
  exact if_neg (by omega)
theorem rdM_out (f : Nat → Int32) (x w : Int32) {i j : Nat} (h : j < 9 ∨ 9 + i ≤ j) : rdM f x w i j = f j := if_neg (by omega)
theorem rdM_s (f : Nat → Int32) (x w : Int32) (i : Nat) (v : Int32) (hv : v = if bitv x (nI i) = 1 then w else 0) : upd (rdM f x w i) (9 + i) (rdM f x w i (9 + i) - v) = rdM f x w (i + 1) := by
  funext j
  unfold upd
  by_cases hj : j = 9 + i
  · subst hj
    rw [if_pos rfl, rdM_out f x w (Or.inr (Nat.le_refl _)), hv]
    unfold rdM
    rw [if_pos (show 9 ≤ 9 + i ∧ 9 + i < 9 + (i + 1) from by omega), show 9 + i - 9 = i from by omega]
  · rw [if_neg hj]
    unfold rdM
    by_cases h2 : 9 ≤ j ∧ j < 9 + i
    · rw [if_pos h2, if_pos (show 9 ≤ j ∧ j < 9 + (i + 1) from by omega)]
    · rw [if_neg h2, if_neg (show ¬ (9 ≤ j ∧ j < 9 + (i + 1)) from by omega)]
/-- a step taken: the row behind it -/
def stN (f : Nat → Int32) (x w : Int32) (nw : Nat) : Nat → Int32 := upd (upd (upd (upd (rdM f x w 9) (46 + 2 * nw) w) (46 + 2 * nw + 1) x) 45 (nI (nw + 1))) 70 (f 70 + 1)
def swM (f : Nat → Int32) (nw : Nat) : Int32 := if hwM f 511 = 0 then 0 else if nw = 12 then 0 else wmF f (hwM f 511) 9
def stM (f : Nat → Int32) (nw : Nat) : Int32 × (Nat → Int32) := if swM f nw = 0 then (0, upd f 71 (f 71 + 1)) else (swM f nw, stN f (hwM f 511) (swM f nw) nw)
