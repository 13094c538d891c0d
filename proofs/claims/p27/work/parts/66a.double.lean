/-- the bits of the double (2^52 + m) * 2^(e - 1075) -/
def dN (e m : Nat) : Nat := e * 4503599627370496 + m
theorem dN_of {e m : Nat} (he : e < 2047) (hm : m < 4503599627370496) : (UInt64.ofNat (dN e m)).toNat = dN e m := by
  rw [UInt64.toNat_ofNat']
  exact Nat.mod_eq_of_lt (by unfold dN; omega)
theorem b64_t : FP.Core.b64.tails = 4503599627370496 := by decide +kernel
theorem b64_e : FP.Core.b64.exps = 2048 := by decide +kernel
theorem b64_q : FP.Core.b64.qmin = -1074 := by decide +kernel
theorem b64_Q : FP.Core.b64.qmax = 971 := by decide +kernel
theorem b64_p : FP.Core.b64.p = 53 := rfl
theorem dN_decode {e m : Nat} (h0 : 0 < e) (he : e < 2047) (hm : m < 4503599627370496) : FP.Core.decode FP.Core.b64 (dN e m) = .fin false (4503599627370496 + m) ((e : Int) - 1075) := by
  have hT : FP.Core.fieldT FP.Core.b64 (dN e m) = m := by
    unfold FP.Core.fieldT dN
    rw [b64_t]
    omega
  have hE : FP.Core.fieldE FP.Core.b64 (dN e m) = e := by
    unfold FP.Core.fieldE dN
    rw [b64_t, b64_e]
    omega
  have hS : FP.Core.fieldS FP.Core.b64 (dN e m) = false := by
    unfold FP.Core.fieldS dN
    rw [b64_t, b64_e, show (e * 4503599627370496 + m) / 4503599627370496 / 2048 % 2 = 0 from by omega]
    rfl
  unfold FP.Core.decode
  rw [hT, hE, hS, b64_t, b64_e, b64_q, if_neg (by omega), if_neg (by omega), show (-1074 : Int) + ((e : Int) - 1) = (e : Int) - 1075 from by omega]
theorem d0_decode : FP.Core.decode FP.Core.b64 0 = .fin false 0 (-1074) := by decide +kernel
theorem dN_encode {c : Nat} {q : Int} (h1 : 4503599627370496 ≤ c) (hq : -1074 ≤ q) : FP.Core.encode FP.Core.b64 (.fin false c q) = dN (q + 1075).toNat (c - 4503599627370496) := by
  show (if c < FP.Core.b64.tails then FP.Core.assemble FP.Core.b64 false 0 c else FP.Core.assemble FP.Core.b64 false ((q - FP.Core.b64.qmin).toNat + 1) (c - FP.Core.b64.tails)) = _
  rw [b64_t, b64_q, if_neg (by omega)]
  unfold FP.Core.assemble dN
  rw [b64_t, b64_e, show (q - -1074).toNat + 1 = (q + 1075).toNat from by omega]
  show (0 * 2048 + _) * _ + _ = _
  rw [Nat.zero_mul, Nat.zero_add]
theorem d0_encode (q : Int) : FP.Core.encode FP.Core.b64 (.fin false 0 q) = 0 := by
  show (if 0 < FP.Core.b64.tails then FP.Core.assemble FP.Core.b64 false 0 0 else FP.Core.assemble FP.Core.b64 false ((q - FP.Core.b64.qmin).toNat + 1) (0 - FP.Core.b64.tails)) = _
  rw [b64_t, if_pos (by omega)]
  unfold FP.Core.assemble
  rw [b64_t, b64_e]
  rfl
theorem near_mul {c d : Nat} (hd : 0 < d) : FP.Core.nearest (c * d) d = c := by
  unfold FP.Core.nearest
  rw [Nat.mul_mod_left, if_pos (by omega), Nat.mul_div_cancel _ hd]
theorem near_le (a d : Nat) : a / d ≤ FP.Core.nearest a d ∧ FP.Core.nearest a d ≤ a / d + 1 := by
  unfold FP.Core.nearest
  generalize a / d = z
  generalize a % d = w
  by_cases h1 : 2 * w < d
  · rw [if_pos h1]; omega
  · rw [if_neg h1]
    by_cases h2 : d < 2 * w
    · rw [if_pos h2]; omega
    · rw [if_neg h2]; omega
theorem lead_1 {num L : Nat} (hn : num ≠ 0) (hL : num.log2 = L) : FP.Core.leading num 1 = (L : Int) := by
  have h := Nat.log2_self_le hn
  rw [hL] at h
  have h1 : (1 : Nat).log2 = 0 := by decide +kernel
  show (if 1 * 2 ^ ((num.log2 : Int) - ((1 : Nat).log2 : Int)).toNat ≤ num * 2 ^ (-((num.log2 : Int) - ((1 : Nat).log2 : Int))).toNat then ((num.log2 : Int) - ((1 : Nat).log2 : Int)) else ((num.log2 : Int) - ((1 : Nat).log2 : Int)) - 1) = _
  rw [hL, h1, show ((L : Int) - ((0 : Nat) : Int)) = (L : Int) from by omega, show (L : Int).toNat = L from by omega, show (-(L : Int)).toNat = 0 from by omega, if_pos (by rw [Nat.one_mul, Nat.pow_zero, Nat.mul_one]; exact h)]
theorem rr_gen {num L c A B : Nat} {q : Int} (hn : num ≠ 0) (hL : num.log2 = L) (hA : (q - ((L : Int) + q - 52)).toNat = A) (hB : ((L : Int) + q - 52 - q).toNat = B) (hc : num * 2 ^ A = c * 2 ^ B) (h2 : c < 9007199254740992) (hq : -1074 ≤ (L : Int) + q - 52) (hQ : (L : Int) + q - 52 ≤ 971) : FP.Core.roundRatio FP.Core.b64 false num 1 q = .fin false c ((L : Int) + q - 52) := by
  have hq1 : FP.Core.quantum FP.Core.b64 num 1 q = (L : Int) + q - 52 := by
    unfold FP.Core.quantum
    rw [lead_1 hn hL, b64_q, b64_p]
    show max (-1074 : Int) ((L : Int) + q - (((53 : Nat) : Int) - 1)) = _
    omega
  unfold FP.Core.roundRatio
  rw [if_neg hn, hq1]
  unfold FP.Core.roundAt FP.Core.unitsNum FP.Core.unitsDen
  rw [hA, hB, hc, Nat.one_mul, near_mul (Nat.two_pow_pos B)]
  unfold FP.Core.settle
  rw [b64_p, if_pos (show c < 2 ^ 53 from by omega)]
  unfold FP.Core.bound
  rw [b64_Q, if_pos hQ]
theorem log_of {n k : Nat} (h1 : 2 ^ k ≤ n) (h2 : n < 2 ^ (k + 1)) : n.log2 = k := by
  have h0 : n ≠ 0 := by
    intro h
    have := Nat.two_pow_pos k
    omega
  exact (Nat.log2_eq_iff h0).2 ⟨h1, h2⟩
/-- a small whole number, brought up to 53 digits -/
theorem up_53 {n L : Nat} (hn : n ≠ 0) (hL : n.log2 = L) (h5 : L ≤ 52) : 4503599627370496 ≤ n * 2 ^ (52 - L) ∧ n * 2 ^ (52 - L) < 9007199254740992 := by
  have h1 := Nat.log2_self_le hn
  have h2 := Nat.lt_log2_self (n := n)
  rw [hL] at h1 h2
  have e1 : 2 ^ L * 2 ^ (52 - L) = 4503599627370496 := by
    rw [← Nat.pow_add, show L + (52 - L) = 52 from by omega]
  have e2 : 2 ^ (L + 1) * 2 ^ (52 - L) = 9007199254740992 := by
    rw [← Nat.pow_add, show L + 1 + (52 - L) = 53 from by omega]
  exact ⟨e1 ▸ Nat.mul_le_mul_right _ h1, e2 ▸ Nat.mul_lt_mul_of_pos_right h2 (Nat.two_pow_pos _)⟩
theorem rr_low {n L : Nat} {q : Int} (hn : n ≠ 0) (hL : n.log2 = L) (h5 : L ≤ 52) (hq : -1074 ≤ (L : Int) + q - 52) (hQ : (L : Int) + q - 52 ≤ 971) : FP.Core.roundRatio FP.Core.b64 false n 1 q = .fin false (n * 2 ^ (52 - L)) ((L : Int) + q - 52) :=
  rr_gen (A := 52 - L) (B := 0) hn hL (by omega) (by omega) (by rw [Nat.pow_zero, Nat.mul_one]) (up_53 hn hL h5).2 hq hQ
theorem rr_high {c : Nat} {q : Int} (h1 : 4503599627370496 ≤ c) (h2 : c < 9007199254740992) (hq : -1074 ≤ q + 52) (hQ : q + 52 ≤ 971) : FP.Core.roundRatio FP.Core.b64 false (c * 4503599627370496) 1 q = .fin false c (q + 52) := by
  have hL : (c * 4503599627370496).log2 = 104 := log_of (by omega) (by omega)
  rw [rr_gen (c := c) (A := 0) (B := 52) (by omega) hL (by omega) (by omega) (by rw [Nat.pow_zero, Nat.mul_one]) h2 (by omega) (by omega), show ((104 : Nat) : Int) + q - 52 = q + 52 from by omega]
theorem i2d_n {n L : Nat} (hn : n ≠ 0) (hL : n.log2 = L) (h : n < 8992) : FP.i2d (nI n) = UInt64.ofNat (dN (L + 1023) (n * 2 ^ (52 - L) - 4503599627370496)) ∧ L ≤ 13 := by
  have h6 : L ≤ 13 := by
    have h1 := Nat.log2_self_le hn
    rw [hL] at h1
    have h2 : 2 ^ L < 2 ^ 14 := Nat.lt_of_le_of_lt h1 (by omega)
    have := (Nat.pow_lt_pow_iff_right (by decide : 1 < 2)).1 h2
    omega
  refine ⟨?_, h6⟩
  show UInt64.ofNat (FP.Core.fromInt FP.Core.b64 (nI n).toInt) = _
  rw [nI_toInt (by omega)]
  unfold FP.Core.fromInt FP.Core.ofInt
  rw [show decide ((n : Int) < 0) = false from decide_eq_false (by omega), show ((n : Int)).natAbs = n from by omega]
  show UInt64.ofNat (FP.Core.encode FP.Core.b64 (FP.Core.roundRatio FP.Core.b64 false n 1 0)) = _
  rw [rr_low hn hL (by omega) (by omega) (by omega), dN_encode (up_53 hn hL (by omega)).1 (by omega), show (((L : Int) + 0 - 52) + 1075).toNat = L + 1023 from by omega]
theorem i2d_0 : FP.i2d (nI 0) = UInt64.ofNat 0 := by decide +kernel
/-- the quotient of two numbers of 53 digits -/
theorem qt_n {c d : Nat} {s : Int} (c1 : 4503599627370496 ≤ c) (c2 : c < 9007199254740992) (d1 : 4503599627370496 ≤ d) (d2 : d < 9007199254740992) (s1 : -13 ≤ s) (s2 : s ≤ 0) (s3 : s = 0 → c ≤ d) : ∃ e m, 1009 ≤ e ∧ e ≤ 1023 ∧ m < 4503599627370496 ∧ FP.Core.encode FP.Core.b64 (FP.Core.roundRatio FP.Core.b64 false c d s) = dN e m := by
  have hc : c.log2 = 52 := log_of (by omega) (by omega)
  have hd : d.log2 = 52 := log_of (by omega) (by omega)
  have hl : FP.Core.leading c d = if d ≤ c then 0 else -1 := by
    show (if d * 2 ^ ((c.log2 : Int) - (d.log2 : Int)).toNat ≤ c * 2 ^ (-((c.log2 : Int) - (d.log2 : Int))).toNat then ((c.log2 : Int) - (d.log2 : Int)) else ((c.log2 : Int) - (d.log2 : Int)) - 1) = _
    rw [hc, hd]
    show (if d * 1 ≤ c * 1 then (0 : Int) else -1) = _
    rw [Nat.mul_one, Nat.mul_one]
  have hq : FP.Core.quantum FP.Core.b64 c d s = (if d ≤ c then 0 else -1) + s - 52 := by
    unfold FP.Core.quantum
    rw [hl, b64_q, b64_p]
    show max (-1074 : Int) ((if d ≤ c then 0 else -1) + s - (((53 : Nat) : Int) - 1)) = _
    by_cases h : d ≤ c
    · rw [if_pos h]; omega
    · rw [if_neg h]; omega
  have key : ∀ (r : Nat) (Q : Int), 4503599627370496 ≤ r → r ≤ 9007199254740992 → -66 ≤ Q → Q ≤ -52 → (r = 9007199254740992 → Q ≤ -53) → ∃ e m, 1009 ≤ e ∧ e ≤ 1023 ∧ m < 4503599627370496 ∧ FP.Core.encode FP.Core.b64 (FP.Core.settle FP.Core.b64 false r Q) = dN e m := by
    intro r Q r1 r2 q1 q2 q3
    unfold FP.Core.settle FP.Core.bound
    rw [b64_p, b64_Q, b64_t]
    by_cases h : r < 2 ^ 53
    · rw [if_pos h, if_pos (by omega)]
      exact ⟨(Q + 1075).toNat, r - 4503599627370496, by omega, by omega, by omega, dN_encode r1 (by omega)⟩
    · have h9 := q3 (by omega)
      rw [if_neg h, if_pos (by omega)]
      exact ⟨(Q + 1 + 1075).toNat, 4503599627370496 - 4503599627370496, by omega, by omega, by omega, dN_encode (Nat.le_refl _) (by omega)⟩
  unfold FP.Core.roundRatio
  rw [if_neg (by omega), hq]
  unfold FP.Core.roundAt FP.Core.unitsNum FP.Core.unitsDen
  by_cases h : d ≤ c
  · rw [if_pos h, show (s - (0 + s - 52)).toNat = 52 from by omega, show ((0 : Int) + s - 52 - s).toNat = 0 from by omega, show (0 : Int) + s - 52 = s - 52 from by omega, Nat.pow_zero, Nat.mul_one]
    have hh := near_le (c * 2 ^ 52) d
    have h1 : 4503599627370496 ≤ c * 2 ^ 52 / d := (Nat.le_div_iff_mul_le (by omega)).2 (by omega)
    have h2 : c * 2 ^ 52 / d < 9007199254740992 := (Nat.div_lt_iff_lt_mul (by omega)).2 (by omega)
    refine key _ _ (by omega) (by omega) (by omega) (by omega) (fun h3 => ?_)
    by_cases h4 : s = 0
    · exfalso
      have h5 := s3 h4
      have h6 : c = d := by omega
      rw [h6, Nat.mul_comm, near_mul (by omega)] at h3
      omega
    · omega
  · rw [if_neg h, show (s - (-1 + s - 52)).toNat = 53 from by omega, show ((-1 : Int) + s - 52 - s).toNat = 0 from by omega, show (-1 : Int) + s - 52 = s - 53 from by omega, Nat.pow_zero, Nat.mul_one]
    have hh := near_le (c * 2 ^ 53) d
    have h1 : 4503599627370496 ≤ c * 2 ^ 53 / d := (Nat.le_div_iff_mul_le (by omega)).2 (by omega)
    have h2 : c * 2 ^ 53 / d < 9007199254740992 := (Nat.div_lt_iff_lt_mul (by omega)).2 (by omega)
    exact key _ _ (by omega) (by omega) (by omega) (by omega) (fun h3 => by omega)
/-- the share: nought, or a double from 2^-14 to less than 2 -/
theorem sh_0 {a : Nat} (h0 : 0 < a) (h : a < 8992) : shF (nI a) (nI a) = 0 := by
  obtain ⟨e, h6⟩ := i2d_n (n := a) (by omega) rfl h
  have hu := up_53 (n := a) (by omega) rfl (by omega)
  unfold shF
  rw [nI_subn (Nat.le_refl a), Nat.sub_self, i2d_0, e]
  show UInt64.ofNat (FP.Core.div FP.Core.b64 (UInt64.ofNat 0).toNat (UInt64.ofNat _).toNat) = _
  rw [dN_of (by omega) (by omega)]
  unfold FP.Core.div
  rw [show (UInt64.ofNat 0).toNat = 0 from rfl, d0_decode, dN_decode (by omega) (by omega) (by omega)]
  unfold FP.Core.quotient
  simp only
  rw [if_neg (by omega)]
  unfold FP.Core.roundRatio
  rw [if_pos rfl]
  show UInt64.ofNat (FP.Core.encode FP.Core.b64 (.fin false 0 _)) = _
  rw [d0_encode]
  rfl
theorem sh_n {a n : Nat} (h0 : 0 < n) (hn : n ≤ a) (h : a < 8992) : ∃ e m, 1009 ≤ e ∧ e ≤ 1023 ∧ m < 4503599627370496 ∧ FP.ddiv (FP.i2d (nI n)) (FP.i2d (nI a)) = UInt64.ofNat (dN e m) := by
  obtain ⟨ea, la⟩ := i2d_n (n := a) (by omega) rfl h
  obtain ⟨en, ln⟩ := i2d_n (n := n) (by omega) rfl (by omega)
  have ua := up_53 (n := a) (by omega) rfl (by omega)
  have un := up_53 (n := n) (by omega) rfl (by omega)
  have hm : n.log2 ≤ a.log2 := by
    have h1 := Nat.log2_self_le (n := n) (by omega)
    have h2 := Nat.lt_log2_self (n := a)
    have := (Nat.pow_lt_pow_iff_right (by decide : 1 < 2)).1 (Nat.lt_of_le_of_lt (Nat.le_trans h1 hn) h2)
    omega
  have hs : n.log2 = a.log2 → n * 2 ^ (52 - n.log2) ≤ a * 2 ^ (52 - a.log2) := by
    intro h1
    rw [h1]
    exact Nat.mul_le_mul_right _ hn
  rw [ea, en]
  generalize n * 2 ^ (52 - n.log2) = x at un hs ⊢
  generalize a * 2 ^ (52 - a.log2) = y at ua hs ⊢
  generalize n.log2 = u at ln hm hs ⊢
  generalize a.log2 = v at la hm hs ⊢
  obtain ⟨e, m, h1, h2, h3, h4⟩ := qt_n (s := ((u + 1023 : Nat) : Int) - 1075 - (((v + 1023 : Nat) : Int) - 1075)) un.1 un.2 ua.1 ua.2 (by omega) (by omega) (fun h4 => hs (by omega))
  refine ⟨e, m, h1, h2, h3, ?_⟩
  show UInt64.ofNat (FP.Core.div FP.Core.b64 (UInt64.ofNat _).toNat (UInt64.ofNat _).toNat) = _
  rw [dN_of (by omega) (by omega), dN_of (by omega) (by omega)]
  unfold FP.Core.div
  rw [dN_decode (by omega) (by omega) (by omega), dN_decode (by omega) (by omega) (by omega), show 4503599627370496 + (x - 4503599627370496) = x from by omega, show 4503599627370496 + (y - 4503599627370496) = y from by omega, ← h4]
  unfold FP.Core.quotient
  simp only
  rw [if_neg (by omega)]
  rfl
