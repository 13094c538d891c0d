abbrev wMo (k : Nat → ClassId) (h : Nat → Nat) (th : Int32) (f asd sl kp sv : Nat → Int32) (sm : Int32) (tx : Nat → Int32) (ln : Int32) (dg : Int64) : va_W :=
  [(h 0, .inr (5, [.int th, .ref (h 1), .ref (h 2), .ref (h 3), .ref (h 4), .ref (h 5), .int sm, .ref (h 6), .int ln, .long dg])), (h 1, .inl (k 0, 72, .inl f)), (h 2, .inl (k 0, 72, .inl asd)), (h 3, .inl (k 0, 144, .inl sl)), (h 4, .inl (k 1, 2, .inl kp)), (h 5, .inl (k 0, 432, .inl sv)), (h 6, .inl (k 0, 60, .inl tx))]
def inB (v a b : Int32) : Bool := decide (¬ v < a ∧ ¬ b < v)
def mnF (x : Int32) : Nat → Int32
  | 0 => 0
  | i + 1 => mnF x i + bitv x (nI i)
def grF (x : Int32) : Nat → Int32
  | 0 => -1
  | i + 1 => if bitv x (nI i) = 1 then nI i else grF x i
def nxF (x : Int32) : Int32 := if bitv x 8 = 0 then x ||| (1 <<< ((grF x 9 + 1) &&& 31)) else if x &&& (-257) = 0 then 0 else ((x &&& (-257)) &&& (((1 : Int32) <<< (grF (x &&& (-257)) 9 &&& 31)) ^^^ (-1 : Int32))) ||| ((1 : Int32) <<< ((grF (x &&& (-257)) 9 + 1) &&& 31))
/-- the least rest of a set's pieces, of the first ones -/
def wmF (f : Nat → Int32) (x : Int32) : Nat → Int32
  | 0 => 1000
  | i + 1 => if bitv x (nI i) = 1 then (if wmF f x i ≤ f (9 + i) then wmF f x i else f (9 + i)) else wmF f x i
def bmF (f : Nat → Int32) (q : Nat) : Nat → Int32
  | 0 => f (27 + q)
  | t + 1 => bmF f q t ||| (if bitv (bmF f q t) (nI (q + 1 + t)) = 1 then f (27 + (q + 1 + t)) else 0)
theorem bmF_s (f : Nat → Int32) {q i : Nat} (h : q + 1 ≤ i) : bmF f q (i + 1 - (q + 1)) = bmF f q (i - (q + 1)) ||| (if bitv (bmF f q (i - (q + 1))) (nI i) = 1 then f (27 + i) else 0) := by
  rw [show i + 1 - (q + 1) = (i - (q + 1)) + 1 from by omega, bmF, show q + 1 + (i - (q + 1)) = i from by omega]
/-- a row with a block put into it, from a place on -/
def bkF (g f : Nat → Int32) (a n : Nat) : Nat → Int32 := fun j => if a ≤ j ∧ j < a + n then f (j - a) else g j
theorem bkF_0 (g f : Nat → Int32) (a : Nat) : bkF g f a 0 = g := by
  funext j
  exact if_neg (by omega)
theorem bkF_s (g f : Nat → Int32) (a i : Nat) : upd (bkF g f a i) (a + i) (f i) = bkF g f a (i + 1) := by
  funext j
  unfold upd bkF
  by_cases h : j = a + i
  · subst h; rw [if_pos rfl, if_pos (by omega), show a + i - a = i from by omega]
  · rw [if_neg h]
    by_cases h2 : a ≤ j ∧ j < a + i
    · rw [if_pos h2, if_pos (by omega)]
    · rw [if_neg h2, if_neg (by omega)]
theorem bkF_out (g f : Nat → Int32) {a n j : Nat} (h : j < a ∨ a + n ≤ j) : bkF g f a n j = g j := if_neg (by omega)
/-- the splitting begun anew, in the model's row -/
def anM (f : Nat → Int32) : Nat → Int32 := bkF (bkF f f 9 9) (fun _ => 0) 45 25
def smM (f : Nat → Int32) (a : Nat) : Nat → Int32
  | 0 => 0
  | i + 1 => smM f a i + f (a + i)
def jnM (f : Nat → Int32) : Nat → Int32
  | 0 => 0
  | i + 1 => jnM f i + mnF (f (27 + i)) 9
def jtM (f : Nat → Int32) (q : Int32) : Nat → Int32
  | 0 => 0
  | i + 1 => jtM f q i + bitv (f (27 + i)) q
/-- the saved rows behind saving, and how many -/
def svM (sv f : Nat → Int32) (n : Nat) : Nat → Int32 := if n = 6 then bkF (fil (fun j => sv (72 + j)) sv 360) f 360 72 else bkF sv f (72 * n) 72
def snM (n : Nat) : Nat := if n = 6 then 6 else n + 1
