theorem nI_div {a b : Nat} (ha : a < 2 ^ 31) (hb : b < 2 ^ 31) : nI a / nI b = nI (a / b) := by
  have h1 := nI_toInt ha
  have h2 := nI_toInt hb
  have h3 : a / b ≤ a := Nat.div_le_self a b
  have h4 := nI_toInt (n := a / b) (by omega)
  apply Int32.toInt_inj.mp
  rw [Int32.toInt_div, h1, h2, h4, show (a : Int).tdiv (b : Int) = ((a / b : Nat) : Int) from by rw [Int.tdiv_eq_ediv_of_nonneg (by omega)]; rfl]
  have h5 : ∀ c : Nat, c < 2 ^ 31 → ((c : Nat) : Int).bmod (2 ^ 32) = c := fun c hc => Int.bmod_eq_of_le (by omega) (by omega)
  exact h5 _ (Nat.lt_of_le_of_lt h3 ha)
theorem nI_rem {a b : Nat} (ha : a < 2 ^ 31) (hb : b < 2 ^ 31) : nI a - nI a / nI b * nI b = nI (a % b) := by
  rw [nI_div ha hb, show nI (a / b) * nI b = nI (a / b * b) from pk_mul _ _]
  have h1 : nI a = nI (a % b) + nI (a / b * b) := by
    rw [nI_add]
    congr 1
    have := Nat.mod_add_div a b
    rw [Nat.mul_comm] at this
    exact this.symm
  rw [h1, Int32.add_sub_cancel]
/-- a number of the noted ways -/
def nkM (f : Nat → Int32) (nw r n : Nat) : Int32 := ntM nw r (match n with
  | 0 => f (46 + 2 * r)
  | 1 => f (46 + 2 * r + 1)
  | _ => mnF (f (46 + 2 * r + 1)) 9)
theorem c_X5_note (l : Launch) (D : va_G) (k : Nat → ClassId) (h : Nat → Nat) (th : Int32) (f asd sl kp sv : Nat → Int32) (sm : Int32) (tx : Nat → Int32) (ln : Int32) (dg : Int64) (r nw n : Nat) (hr31 : r < 2 ^ 31) (hnw : f 45 = nI nw) (hnw2 : nw ≤ 12) (hn3 : n < 3) : MI l yX5_note wsX5_note ({ frames := 1, cells := 0, slots := 0, locals := 22 }) D k [.ref (h 0), .int (nI r), .int (nI n)] (wMo k h th f asd sl kp sv sm tx ln dg) (nkM f nw r n) (wMo k h th f asd sl kp sv sm tx ln dg) := by
  match n, hn3 with
  | 0, _ => exact c_X5_note_0 l D k h th f asd sl kp sv sm tx ln dg r nw hr31 hnw hnw2
  | 1, _ => exact c_X5_note_1 l D k h th f asd sl kp sv sm tx ln dg r nw hr31 hnw hnw2
  | 2, _ => exact c_X5_note_2 l D k h th f asd sl kp sv sm tx ln dg r nw hr31 hnw hnw2
/-- the numbers of the noted ways, in the digest -/
def dgN (f : Nat → Int32) (nw : Nat) (dg : Int64) : Nat → Int64
  | 0 => dg
  | i + 1 => mxF (dgN f nw dg i) (nkM f nw (i / 3) (i % 3)).toInt64
/-- the characters of the buffer, in the digest -/
def dgB (tx : Nat → Int32) (dg : Int64) : Nat → Int64
  | 0 => dg
  | i + 1 => mxF (dgB tx dg i) (tx i).toInt64
def dgC (f : Nat → Int32) (sm : Int32) (dg : Int64) : Int64 := [jnM f 9, smM f 0 9, smM f 9 9, f 45, wyF f 0 false 511, wyF f 0 false 511, wyF f 0 true 511, rwT f 511, rwT f 511, f 70, f 71, sm].foldl (fun a (b : Int32) => mxF a b.toInt64) dg
def dgQ (f : Nat → Int32) (dg : Int64) : Int64 := dgP f 8 (dgP f 7 (dgP f 6 (dgP f 5 (dgP f 4 (dgP f 3 (dgP f 2 (dgP f 1 (dgP f 0 dg))))))))
