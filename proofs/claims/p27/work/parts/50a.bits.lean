/-! MATH 1: masks as natural numbers, counts -/
theorem nI_or (a b : Nat) : nI a ||| nI b = nI (a ||| b) := Int32.toBitVec_inj.1 (BitVec.ofNat_or (w := 32) (x := a) (y := b)).symm
theorem nI_and (a b : Nat) : nI a &&& nI b = nI (a &&& b) := Int32.toBitVec_inj.1 (BitVec.ofNat_and (w := 32) (x := a) (y := b)).symm
theorem nI_xor (a b : Nat) : nI a ^^^ nI b = nI (a ^^^ b) := Int32.toBitVec_inj.1 (BitVec.ofNat_xor (w := 32) (x := a) (y := b)).symm
theorem bv_nat : ∀ m, m < 512 → ∀ i, i < 9 → bitv (nI m) (nI i) = if m.testBit i = true then 1 else 0 := by decide +kernel
theorem bv_t {m i : Nat} (hm : m < 512) (hi : i < 9) : bitv (nI m) (nI i) = 1 ↔ m.testBit i = true := by
  rw [bv_nat m hm i hi]
  by_cases h : m.testBit i = true
  · simp [h]
  · simp [h]
theorem bv_f {m i : Nat} (hm : m < 512) (hi : i < 9) : bitv (nI m) (nI i) = 0 ↔ m.testBit i = false := by
  rw [bv_nat m hm i hi]
  by_cases h : m.testBit i = true
  · simp [h]
  · simp [h]
theorem sh_nat : ∀ i, i < 9 → (1 : Int32) <<< (nI i &&& 31) = nI (2 ^ i) := by decide +kernel
theorem p2_lt : ∀ i, i < 9 → 2 ^ i < 512 := by decide +kernel
theorem tb_hi {m i : Nat} (hm : m < 512) (hi : 9 ≤ i) : m.testBit i = false := Nat.testBit_lt_two_pow (Nat.lt_of_lt_of_le hm (Nat.pow_le_pow_right (n := 2) (by omega) hi))
theorem m_ext {a b : Nat} (ha : a < 512) (hb : b < 512) (h : ∀ i, i < 9 → a.testBit i = b.testBit i) : a = b := by
  refine Nat.eq_of_testBit_eq (fun i => ?_)
  by_cases hi : i < 9
  · exact h i hi
  · rw [tb_hi ha (by omega), tb_hi hb (by omega)]
theorem or_lt9 {a b : Nat} (ha : a < 512) (hb : b < 512) : a ||| b < 512 := Nat.or_lt_two_pow (n := 9) ha hb
theorem and_lt9 {a b : Nat} (hb : b < 512) : a &&& b < 512 := Nat.and_lt_two_pow (n := 9) a hb
theorem and0 {a b : Nat} (ha : a < 512) (hb : b < 512) : nI a &&& nI b = 0 ↔ ∀ i, i < 9 → ¬ (a.testBit i = true ∧ b.testBit i = true) := by
  rw [nI_and, ← nI_0, nI_eq (Nat.lt_of_lt_of_le (and_lt9 hb) (by decide)) (by decide)]
  constructor
  · intro h i _ ⟨h1, h2⟩
    have h3 : (a &&& b).testBit i = true := by rw [Nat.testBit_and, h1, h2]; rfl
    rw [h] at h3
    simp at h3
  · intro h
    refine m_ext (and_lt9 hb) (by decide) (fun i hi => ?_)
    rw [Nat.testBit_and, Nat.zero_testBit]
    have h1 := h i hi
    cases ha2 : a.testBit i <;> cases hb2 : b.testBit i <;> simp_all
theorem bit_or {a p i : Nat} (hp : p < 9) (hi : i < 9) : (a ||| 2 ^ p).testBit i = true ↔ a.testBit i = true ∨ i = p := by
  rw [Nat.testBit_or, Nat.testBit_two_pow, Bool.or_eq_true_iff, decide_eq_true_iff]
  exact or_congr Iff.rfl eq_comm
theorem bit_orf {a p i : Nat} (hi : i ≠ p) : (a ||| 2 ^ p).testBit i = a.testBit i := by
  rw [Nat.testBit_or, Nat.testBit_two_pow_of_ne (fun h => hi h.symm), Bool.or_false]
/-- a mask of joins less what is tried -/
theorem bv_tr {m t i : Nat} (hm : m < 512) (ht : t < 512) (hi : i < 9) : bitv (nI m &&& (nI t ^^^ (-1))) (nI i) = 1 ↔ m.testBit i = true ∧ t.testBit i = false := by
  have e : ((-1 : Int32)) = nI (2 ^ 32 - 1) := by decide +kernel
  rw [e, nI_xor, nI_and, Nat.and_comm, bv_t (and_lt9 hm) hi, Nat.testBit_and, Nat.testBit_xor, Nat.testBit_two_pow_sub_one, decide_eq_true (show i < 32 by omega)]
  cases m.testBit i <;> cases t.testBit i <;> simp
/-- how many of the first n things are so -/
def cn (q : Nat → Bool) : Nat → Nat
  | 0 => 0
  | i + 1 => cn q i + (if q i = true then 1 else 0)
theorem cn_congr {q r : Nat → Bool} : ∀ n : Nat, (∀ i, i < n → q i = r i) → cn q n = cn r n
  | 0, _ => rfl
  | n + 1, h => by rw [cn, cn, cn_congr n (fun i hi => h i (by omega)), h n (by omega)]
theorem cn_mono {q r : Nat → Bool} : ∀ n : Nat, (∀ i, i < n → q i = true → r i = true) → cn q n ≤ cn r n
  | 0, _ => Nat.le_refl _
  | n + 1, h => by
    have h1 := cn_mono n (fun i hi => h i (by omega))
    rw [cn, cn]
    by_cases hq : q n = true
    · rw [if_pos hq, if_pos (h n (by omega) hq)]; omega
    · rw [if_neg hq]; omega
theorem cn_le (q : Nat → Bool) : ∀ n : Nat, cn q n ≤ n
  | 0 => Nat.le_refl _
  | n + 1 => by
    have h1 := cn_le q n
    rw [cn]
    split <;> omega
theorem cn_add (q r : Nat → Bool) : ∀ n : Nat, cn (fun i => q i || r i) n + cn (fun i => q i && r i) n = cn q n + cn r n
  | 0 => rfl
  | n + 1 => by
    have h := cn_add q r n
    have k : ∀ a b : Bool, ((if (a || b) = true then 1 else 0) + (if (a && b) = true then 1 else 0) : Nat) = (if a = true then 1 else 0) + (if b = true then 1 else 0) := by decide
    have k2 := k (q n) (r n)
    simp only [cn]
    omega
theorem cn_none {q : Nat → Bool} : ∀ n : Nat, (∀ i, i < n → q i = false) → cn q n = 0
  | 0, _ => rfl
  | n + 1, h => by rw [cn, cn_none n (fun i hi => h i (by omega)), h n (by omega)]; rfl
theorem cn_all {q : Nat → Bool} : ∀ n : Nat, n ≤ cn q n → ∀ i, i < n → q i = true
  | 0, _, i, hi => absurd hi (Nat.not_lt_zero _)
  | n + 1, h, i, hi => by
    have h1 := cn_le q n
    rw [cn] at h
    by_cases hq : q n = true
    · rw [if_pos hq] at h
      by_cases e : i = n
      · rw [e]; exact hq
      · exact cn_all n (by omega) i (by omega)
    · rw [if_neg hq] at h; omega
theorem cn_rem {q : Nat → Bool} {j : Nat} (hq : q j = true) : ∀ n : Nat, j < n → cn q n = cn (fun i => q i && decide (i ≠ j)) n + 1
  | 0, h => absurd h (Nat.not_lt_zero _)
  | n + 1, h => by
    by_cases e : j = n
    · subst e
      have h1 : cn q j = cn (fun i => q i && decide (i ≠ j)) j := cn_congr j (fun i hi => by
        show q i = (q i && decide (i ≠ j))
        rw [decide_eq_true (show i ≠ j by omega), Bool.and_true])
      rw [cn, cn, h1, if_pos hq]
      simp
    · have h1 := cn_rem hq n (by omega)
      rw [cn, cn, h1]
      have h2 : decide (n ≠ j) = true := decide_eq_true (by omega)
      simp only [h2, Bool.and_true]
      omega
theorem cn_inj {p : Nat → Bool} (f : Nat → Nat) (n : Nat) : ∀ (k : Nat) (q : Nat → Bool), (∀ i, i < k → p i = true → f i < n ∧ q (f i) = true) → (∀ i j, i < k → j < k → p i = true → p j = true → f i = f j → i = j) → cn p k ≤ cn q n
  | 0, _, _, _ => Nat.zero_le _
  | k + 1, q, h1, h2 => by
    rw [cn]
    by_cases hp : p k = true
    · obtain ⟨h3, h4⟩ := h1 k (by omega) hp
      have h5 := cn_inj f n k (fun i => q i && decide (i ≠ f k)) (fun i hi hpi => by
        obtain ⟨h6, h7⟩ := h1 i (by omega) hpi
        refine ⟨h6, ?_⟩
        show (q (f i) && decide (f i ≠ f k)) = true
        rw [h7, Bool.true_and]
        exact decide_eq_true (fun e => by have := h2 i k (by omega) (by omega) hpi hp e; omega)) (fun i j hi hj => h2 i j (by omega) (by omega))
      rw [if_pos hp, cn_rem h4 n h3]
      omega
    · rw [if_neg hp]
      exact cn_inj f n k q (fun i hi => h1 i (by omega)) (fun i j hi hj => h2 i j (by omega) (by omega))
/-- a mask out of what is so -/
def mkM (q : Nat → Bool) : Nat → Nat
  | 0 => 0
  | i + 1 => mkM q i ||| (if q i = true then 2 ^ i else 0)
theorem mkM_bit (q : Nat → Bool) : ∀ n i : Nat, (mkM q n).testBit i = (decide (i < n) && q i)
  | 0, i => by simp [mkM]
  | n + 1, i => by
    rw [mkM, Nat.testBit_or, mkM_bit q n i]
    by_cases e : i = n
    · subst e
      cases hq : q i
      · simp
      · simp [Nat.testBit_two_pow_self]
    · have h1 : (if q n = true then 2 ^ n else 0).testBit i = false := by
        split
        · exact Nat.testBit_two_pow_of_ne (fun h => e h.symm)
        · exact Nat.zero_testBit i
      rw [h1, Bool.or_false]
      congr 1
      exact decide_eq_decide.mpr (by omega)
theorem mkM_lt (q : Nat → Bool) : mkM q 9 < 512 := Nat.lt_pow_two_of_testBit (n := 9) _ (fun i hi => by rw [mkM_bit, decide_eq_false (by omega)]; rfl)
theorem mkM_in (q : Nat → Bool) {i : Nat} (h : i < 9) : (mkM q 9).testBit i = q i := by rw [mkM_bit, decide_eq_true h, Bool.true_and]
/-- bits counted, as each side counts them -/
theorem bc_cn : ∀ m, m < 512 → bcF (nI m) = nI (cn (fun i => m.testBit i) 9) ∧ mnF (nI m) 9 = nI (cn (fun i => m.testBit i) 9) := by decide +kernel
