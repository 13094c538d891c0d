/-- a share of two sums, as a double -/
def shF (a b : Int32) : UInt64 := FP.ddiv (FP.i2d (a - b)) (FP.i2d a)
def shM (a b : Int32) : UInt64 := if a = 0 then FP.dconst1 else shF a b
def shX (a b : Int32) : UInt64 := if a ≤ 0 then FP.dconst1 else shF a b
