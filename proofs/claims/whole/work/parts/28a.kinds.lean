/-- what a right part at i holds -/
theorem bp_kinds {tx : Nat → Int32} {ln i : Nat} (hln : ln ≤ 60) (hi : i ≤ 61) (h : ¬ bpM tx ln i < 0) : i < ln ∧ ∃ q, q < 9 ∧ dgM tx ln (i + 1) = nI q ∧
    (((tx i = 115 ∨ tx i = 101) ∧ bpM tx ln i = nI (i + 2)) ∨ ((tx i = 106 ∨ tx i = 120) ∧ bpM tx ln i = nI (i + 3) ∧ ∃ y, q < y ∧ y < 9 ∧ dgM tx ln (i + 2) = nI y) ∨ (tx i = 99 ∧ tx (i + 2) = 61 ∧ i + 2 < ln ∧ i + 3 < bnM tx ln (i + 3) ∧ bpM tx ln i = nI (bnM tx ln (i + 3)))) := by
  have neg : ∀ (a : Nat), 0 < a → a ≤ 4 → ¬ (-(nI a) - nI i < 0) → False := by
    intro a h0 ha hn
    apply hn
    have e1 : (nI i).toInt = i := nI_toInt (by omega)
    have e2 : (nI a).toInt = a := nI_toInt (by omega)
    have e3 : (0 : Int32).toInt = 0 := by decide
    have e4 : (-(nI a) - nI i).toInt = -(a : Int) - i := by
      rw [Int32.toInt_sub, Int32.toInt_neg, e1, e2]
      have e5 : (-(a : Int)).bmod (2 ^ 32) = -a := Int.bmod_eq_of_le (by omega) (by omega)
      rw [e5]
      exact Int.bmod_eq_of_le (by omega) (by omega)
    exact Int32.lt_iff_toInt_lt.mpr (by omega)
  by_cases h1 : caM tx ln i = 115 ∨ caM tx ln i = 101
  · have hc : i < ln ∧ (tx i = 115 ∨ tx i = 101) := h1.elim (fun e => ⟨(ca_in e (by decide)).1, Or.inl (ca_in e (by decide)).2⟩) (fun e => ⟨(ca_in e (by decide)).1, Or.inr (ca_in e (by decide)).2⟩)
    by_cases h2 : inB (dgM tx ln (i + 1)) 0 8 = true
    · obtain ⟨_, q, h4, h5⟩ := dg_in (b := 8) (by omega) h2
      exact ⟨hc.1, q, by omega, h5, Or.inl ⟨hc.2, by rw [bpM, if_pos h1, if_pos h2]⟩⟩
    · rw [bpM, if_pos h1, if_neg h2] at h
      exact (neg 2 (by omega) (by omega) h).elim
  · by_cases h2 : caM tx ln i = 106 ∨ caM tx ln i = 120
    · have hc : i < ln ∧ (tx i = 106 ∨ tx i = 120) := h2.elim (fun e => ⟨(ca_in e (by decide)).1, Or.inl (ca_in e (by decide)).2⟩) (fun e => ⟨(ca_in e (by decide)).1, Or.inr (ca_in e (by decide)).2⟩)
      by_cases h3 : inB (dgM tx ln (i + 1)) 0 7 = true
      · obtain ⟨_, q, h5, h6⟩ := dg_in (b := 7) (by omega) h3
        by_cases h7 : inB (dgM tx ln (i + 2)) (dgM tx ln (i + 1) + 1) 8 = true
        · have h8 := h7
          rw [h6] at h8
          obtain ⟨_, y, hy1, hy2, hy3⟩ := dg_in2 (by omega) h8
          exact ⟨hc.1, q, by omega, h6, Or.inr (Or.inl ⟨hc.2, by rw [bpM, if_neg h1, if_pos h2, if_pos h3, if_pos h7], y, hy1, hy2, hy3⟩)⟩
        · rw [bpM, if_neg h1, if_pos h2, if_pos h3, if_neg h7] at h
          exact (neg 3 (by omega) (by omega) h).elim
      · rw [bpM, if_neg h1, if_pos h2, if_neg h3] at h
        exact (neg 2 (by omega) (by omega) h).elim
    · by_cases h3 : caM tx ln i = 99
      · by_cases h4 : inB (dgM tx ln (i + 1)) 0 8 = true
        · obtain ⟨_, q, h5, h6⟩ := dg_in (b := 8) (by omega) h4
          by_cases h7 : caM tx ln (i + 2) = 61
          · obtain ⟨h8, h9⟩ := ca_in h7 (by decide)
            by_cases h10 : bnM tx ln (i + 3) = i + 3
            · rw [bpM, if_neg h1, if_neg h2, if_pos h3, if_pos h4, if_pos h7, if_pos h10] at h
              exact (neg 4 (by omega) (by omega) h).elim
            · have h11 := bnM_le tx ln (i + 3)
              exact ⟨(ca_in h3 (by decide)).1, q, by omega, h6, Or.inr (Or.inr ⟨(ca_in h3 (by decide)).2, h9, h8, by omega, by rw [bpM, if_neg h1, if_neg h2, if_pos h3, if_pos h4, if_pos h7, if_neg h10]⟩)⟩
          · rw [bpM, if_neg h1, if_neg h2, if_pos h3, if_pos h4, if_neg h7] at h
            exact (neg 3 (by omega) (by omega) h).elim
        · rw [bpM, if_neg h1, if_neg h2, if_pos h3, if_neg h4] at h
          exact (neg 2 (by omega) (by omega) h).elim
      · rw [bpM, if_neg h1, if_neg h2, if_neg h3] at h
        exact (neg 1 (by omega) (by omega) h).elim
/-- one part taken, its digits given -/
def tk1 (tx : Nat → Int32) (ln i z q y : Nat) (f : Nat → Int32) : Nat → Int32 :=
  if tx i = 99 then upd f (0 + q) (nuM tx ln (i + 3) (z - (i + 3))) else
  if tx i = 101 then upd f (18 + q) (f (18 + q) ||| 2) else
  if tx i = 115 then upd f (18 + q) (f (18 + q) ||| 1) else
  if tx i = 106 then upd f (27 + q) (f (27 + q) ||| 1 <<< (dgM tx ln (i + 2) &&& 31)) else
  upd (upd f (36 + q) (f (36 + q) ||| 1 <<< (nI y &&& 31))) (36 + y) (upd f (36 + q) (f (36 + q) ||| 1 <<< (nI y &&& 31)) (36 + y) ||| 1 <<< (nI q &&& 31))
def tkM (tx : Nat → Int32) (ln i z : Nat) (f : Nat → Int32) : Nat → Int32 := tk1 tx ln i z (dgM tx ln (i + 1)).toNatClampNeg (dgM tx ln (i + 2)).toNatClampNeg f
theorem c_X5_takes (l : Launch) (D : va_G) (k : Nat → ClassId) (h : Nat → Nat) (th : Int32) (f asd sl kp sv : Nat → Int32) (sm : Int32) (tx : Nat → Int32) (ln : Nat) (dg : Int64) (i z : Nat) (hln : ln ≤ 60) (hi : i ≤ 61) (hz : bpM tx ln i = nI z) (hz2 : z < 2 ^ 31) : MV l yX5_takes wsX5_takes ({ frames := 2, cells := 0, slots := 0, locals := 42 }) D k [.ref (h 0), .int (nI i), .int (nI z)] (wMo k h th f asd sl kp sv sm tx (nI ln) dg) (wMo k h th (tkM tx ln i z f) asd sl kp sv sm tx (nI ln) dg) := by
  have hn : ¬ bpM tx ln i < 0 := by rw [hz]; exact nI_pos hz2
  obtain ⟨h1, q, h2, h3, h4⟩ := bp_kinds hln hi hn
  have hq : (dgM tx ln (i + 1)).toNatClampNeg = q := by rw [h3]; exact nI_clamp (by omega)
  unfold tkM tk1
  rw [hq]
  rcases h4 with ⟨h5 | h5, _⟩ | ⟨h5 | h5, _, y, h6, h7, h8⟩ | ⟨h5, _, h6, h7, h8⟩
  · rw [if_neg (by rw [h5]; decide), if_neg (by rw [h5]; decide), if_pos h5]
    exact c_X5_takes_115 l D k h th f asd sl kp sv sm tx ln dg i q z hln (by omega) h2 h3 h5
  · rw [if_neg (by rw [h5]; decide), if_pos h5]
    exact c_X5_takes_101 l D k h th f asd sl kp sv sm tx ln dg i q z hln (by omega) h2 h3 h5
  · rw [if_neg (by rw [h5]; decide), if_neg (by rw [h5]; decide), if_neg (by rw [h5]; decide), if_pos h5]
    exact c_X5_takes_106 l D k h th f asd sl kp sv sm tx ln dg i q z hln (by omega) h2 h3 h5
  · have hy : (dgM tx ln (i + 2)).toNatClampNeg = y := by rw [h8]; exact nI_clamp (by omega)
    rw [if_neg (by rw [h5]; decide), if_neg (by rw [h5]; decide), if_neg (by rw [h5]; decide), if_neg (by rw [h5]; decide), hy]
    exact c_X5_takes_120 l D k h th f asd sl kp sv sm tx ln dg i q z y hln (by omega) h2 h3 h7 h8 h5
  · have h9 := bnR_ln tx ln (i + 3) 3 (i + 3) (by omega)
    have h10 : z = bnM tx ln (i + 3) := (nI_eq hz2 (by have := bnM_le tx ln (i + 3); omega)).mp (hz.symm.trans h8)
    have h11 : bnM tx ln (i + 3) ≤ ln := h9
    rw [if_pos h5]
    exact c_X5_takes_99 l D k h th f asd sl kp sv sm tx ln dg i q z hln (by omega) h2 h3 (by omega) (by omega) h5
/-- the parts from place i on taken -/
def ldM (tx : Nat → Int32) (ln i : Nat) (f : Nat → Int32) : Nat → Int32 :=
  if h : i < ln ∧ i < (bpM tx ln i).toNatClampNeg then ldM tx ln ((bpM tx ln i).toNatClampNeg + 1) (tkM tx ln i (bpM tx ln i).toNatClampNeg f) else f
termination_by ln - i
decreasing_by omega
theorem ldM_e {tx : Nat → Int32} {ln i : Nat} (f : Nat → Int32) (h : ¬ i < ln) : ldM tx ln i f = f := by rw [ldM, dif_neg (fun h9 => h h9.1)]
theorem ldM_s {tx : Nat → Int32} {ln i z : Nat} (f : Nat → Int32) (hz : z < 2 ^ 31) (h : bpM tx ln i = nI z) (h1 : i < ln) (h2 : i < z) : ldM tx ln i f = ldM tx ln (z + 1) (tkM tx ln i z f) := by
  have e : (bpM tx ln i).toNatClampNeg = z := by rw [h]; exact nI_clamp hz
  rw [ldM, dif_pos (by rw [e]; exact ⟨h1, h2⟩), e]
theorem wr_ok {tx : Nat → Int32} {ln i : Nat} (h : wrM tx ln i = -1) : ¬ bpM tx ln i < 0 := by
  intro hn
  rw [wrM_0 hn] at h
  have h2 := congrArg Int32.toInt h
  have h3 : (-1 : Int32).toInt = -1 := by decide
  have h4 : (0 : Int32).toInt = 0 := by decide
  have h5 := Int32.lt_iff_toInt_lt.mp hn
  have h6 := Int32.le_toInt (bpM tx ln i)
  rw [Int32.toInt_sub, h3] at h2
  have h7 : (-1 - (bpM tx ln i).toInt).bmod (2 ^ 32) = -1 - (bpM tx ln i).toInt := Int.bmod_eq_of_le (by omega) (by omega)
  rw [h7] at h2
  omega
theorem wr_next {tx : Nat → Int32} {ln i z : Nat} (hz : z < 2 ^ 31) (h : wrM tx ln i = -1) (hb : bpM tx ln i = nI z) (h1 : i < z) (h2 : z + 1 < ln) : wrM tx ln (z + 1) = -1 := by
  by_cases h3 : tx z = 59
  · rw [← wrM_1 hz hb h1 (by omega) h3]; exact h
  · rw [wrM_2 hz hb h1 (by omega) h3] at h
    have h4 : (nI z).toInt = z := nI_toInt hz
    rw [h] at h4
    have h5 : (-1 : Int32).toInt = -1 := by decide
    omega
