/-- the sets in the order in which ways are compared -/
def ordF : Nat → Int32
  | 0 => 1
  | i + 1 => nxF (ordF i)
def chO : Nat → Int32 → Bool
  | 0, x => decide (x = 0)
  | n + 1, x => decide (0 < x) && chO n (nxF x)
theorem chO_1 : chO 511 1 = true := by decide +kernel
theorem chO_at : ∀ i, i ≤ 511 → chO (511 - i) (ordF i) = true
  | 0, _ => chO_1
  | i + 1, h => by
    have h2 := chO_at i (by omega)
    rw [show 511 - i = (511 - (i + 1)) + 1 from by omega, chO, Bool.and_eq_true] at h2
    exact h2.2
theorem ord_pos {i : Nat} (h : i < 511) : 0 < ordF i := by
  have h2 := chO_at i (by omega)
  rw [show 511 - i = (511 - (i + 1)) + 1 from by omega, chO, Bool.and_eq_true] at h2
  exact of_decide_eq_true h2.1
theorem ord_end : ordF 511 = 0 := of_decide_eq_true (chO_at 511 (by omega))
theorem ord_le {i : Nat} {x : Int32} (h : i ≤ 511) (e : x = ordF i) (c : x ≤ 0) : i = 511 := by
  rcases Nat.lt_or_ge i 511 with q | q
  · exact absurd (e ▸ c) (Int32.not_le.mpr (ord_pos q))
  · omega
theorem ord_lt {i : Nat} {x : Int32} (h : i ≤ 511) (e : x = ordF i) (c : ¬ x ≤ 0) : i < 511 := by
  rcases Nat.lt_or_ge i 511 with q | q
  · exact q
  · exact absurd (show x ≤ 0 by rw [e, show i = 511 from by omega, ord_end]; decide) c
/-- the heaviest open way among the first sets -/
def hwM (f : Nat → Int32) : Nat → Int32
  | 0 => 0
  | i + 1 => if ioB f (ordF i) = true then (if hwM f i = 0 then ordF i else if wmF f (ordF i) 9 ≤ wmF f (hwM f i) 9 then hwM f i else ordF i) else hwM f i
