def spM : Nat → Nat → (Nat → Int32) → Nat × (Nat → Int32)
  | 0, md, f => (md, f)
  | t + 1, md, f => if 0 < (stM f (f 45).toNatClampNeg).1 then spM t (md + 1) (stM f (f 45).toNatClampNeg).2 else (md, (stM f (f 45).toNatClampNeg).2)
theorem spM_s {md : Nat} (h : md ≤ 12) (f : Nat → Int32) : spM (13 - md) md f = if 0 < (stM f (f 45).toNatClampNeg).1 then spM (13 - (md + 1)) (md + 1) (stM f (f 45).toNatClampNeg).2 else (md, (stM f (f 45).toNatClampNeg).2) := by
  rw [show 13 - md = (13 - (md + 1)) + 1 from by omega, spM]
def swX (f : Nat → Int32) (x : Int32) (nw : Nat) : Int32 := if x = 0 then 0 else if nw = 12 then 0 else wmF f x 9
theorem stX_nw (f : Nat → Int32) {nw : Nat} (h2 : nw ≤ 12) (x : Int32) (hp : 0 < (if swX f x nw = 0 then ((0 : Int32), upd f 71 (f 71 + 1)) else (swX f x nw, stN f x (swX f x nw) nw)).1) : (if swX f x nw = 0 then ((0 : Int32), upd f 71 (f 71 + 1)) else (swX f x nw, stN f x (swX f x nw) nw)).2 45 = nI (nw + 1) ∧ nw < 12 := by
  by_cases h1 : swX f x nw = 0
  · rw [if_pos h1] at hp; exact absurd hp (show ¬ (0 : Int32) < 0 by decide)
  · rw [if_neg h1]
    refine ⟨?_, ?_⟩
    · show stN f x (swX f x nw) nw 45 = _
      unfold stN
      rw [up_ne _ _ (show 45 ≠ 70 from by omega), up_eq]
    · rcases Nat.lt_or_ge nw 12 with q | q
      · exact q
      · refine absurd ?_ h1
        unfold swX
        by_cases h3 : x = 0
        · rw [if_pos h3]
        · rw [if_neg h3, if_pos (show nw = 12 from by omega)]
theorem swM_eq (f : Nat → Int32) (nw : Nat) : swM f nw = swX f (hwM f 511) nw := by unfold swM swX; rfl
theorem stM_eq (f : Nat → Int32) (nw : Nat) : stM f nw = (if swX f (hwM f 511) nw = 0 then ((0 : Int32), upd f 71 (f 71 + 1)) else (swX f (hwM f 511) nw, stN f (hwM f 511) (swX f (hwM f 511) nw) nw)) := by
  unfold stM
  rw [swM_eq]
theorem stM_nw (f : Nat → Int32) {nw : Nat} (h2 : nw ≤ 12) (hp : 0 < (stM f nw).1) : (stM f nw).2 45 = nI (nw + 1) ∧ nw < 12 := by
  rw [stM_eq] at hp ⊢
  revert hp
  generalize hwM f 511 = x
  intro hp
  exact stX_nw f h2 x hp
