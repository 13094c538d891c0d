/-- the open sets among the first i are k, and none of them was the one sought: what comes of the rest -/
def oaR (f : Nat → Int32) (rk : Int32) : Nat → Nat → Int32 → Int32
  | 0, _, _ => -1
  | t + 1, i, k => if ioB f (ordF i) = true then (if k = rk then ordF i else oaR f rk t (i + 1) (k + 1)) else oaR f rk t (i + 1) k
theorem oaR_s (f : Nat → Int32) (rk : Int32) {i : Nat} (h : i < 511) (k : Int32) : oaR f rk (511 - i) i k = if ioB f (ordF i) = true then (if k = rk then ordF i else oaR f rk (511 - (i + 1)) (i + 1) (k + 1)) else oaR f rk (511 - (i + 1)) (i + 1) k := by
  rw [show 511 - i = (511 - (i + 1)) + 1 from by omega, oaR]
def moF (f : Nat → Int32) : Nat → Int32 × Int32
  | 0 => (-1, 0)
  | i + 1 => if wyF f (1 <<< (nI i &&& 31)) true 511 ≤ (moF f i).2 then moF f i else (nI i, wyF f (1 <<< (nI i &&& 31)) true 511)
def hyF (f : Nat → Int32) (w : Bool) : Int32 := if hwM f 511 = 0 then -1 else if w = true then hwM f 511 else wmF f (hwM f 511) 9
