/-! P27 1: sums, joins, what lies behind, as the law gathers them -/
theorem i_lc (a b c : Int32) : a + (b + c) = b + (a + c) := by rw [← Int32.add_assoc, Int32.add_comm a b, Int32.add_assoc]
/-- sums from the last piece down -/
def dsF (g : Nat → Int32) : Nat → Int32
  | 0 => 0
  | i + 1 => dsF g i + g (8 - i)
theorem dsF_9 (g : Nat → Int32) : dsF g 9 = smF g 9 := by
  simp only [dsF, smF, Int32.zero_add, Nat.sub_zero, Nat.zero_add, Nat.reduceAdd, Nat.reduceSub, Int32.add_assoc, Int32.add_comm, i_lc]
theorem cj_sm (J : Nat → Int32) : ∀ i, cjF J i = smF (fun q => bcF (J q)) i
  | 0 => rfl
  | i + 1 => by rw [cjF, smF, cj_sm J i]
theorem smF_congr {g h : Nat → Int32} : ∀ i, (∀ q, q < i → g q = h q) → smF g i = smF h i
  | 0, _ => rfl
  | i + 1, H => by rw [smF, smF, smF_congr i (fun q hq => H q (by omega)), H i (by omega)]
/-- a row of joins put together bit by bit -/
def orB (j : Int32) : Nat → Int32
  | 0 => 0
  | t + 1 => orB j t ||| (bitv j (nI t) <<< (nI t &&& 31))
theorem orB_9 : ∀ m, m < 512 → orB (nI m) 9 = nI m := by decide +kernel
/-- what lies behind a piece, put together by the pieces that it is joined to -/
def beF (J W : Nat → Int32) (q : Nat) : Nat → Int32
  | 0 => 0
  | t + 1 => beF J W q t ||| (if q < t then (if bitv (J q) (nI t) = 1 then (1 <<< (nI t &&& 31)) ||| W t else 0) else 0)
section BE
variable {S : Nat → Nat → Int32} {f : Nat → Int32}
theorem or0 (a : Nat) : nI a ||| 0 = nI a := by rw [show (0 : Int32) = nI 0 from nI_0.symm, nI_or, Nat.or_zero]
theorem beF_t (hG : GrOK S f) {q : Nat} (hq : q < 9) : ∀ t, t ≤ 9 → ∃ b, b < 512 ∧ beF (S 2) (bhG (S 2)) q t = nI b ∧ ∀ y, y < 9 → (b.testBit y = true ↔ ∃ z, q < z ∧ z < t ∧ (jnN f q).testBit z = true ∧ (z = y ∨ (bhN2 S z).testBit y = true))
  | 0, _ => ⟨0, by omega, nI_0.symm, fun y _ => ⟨fun h => (by rw [Nat.zero_testBit] at h; cases h), fun ⟨z, _, h, _⟩ => (by omega)⟩⟩
  | t + 1, ht => by
    obtain ⟨b, hb, eb, hy⟩ := beF_t hG hq t (by omega)
    obtain ⟨e1, -, e3, -⟩ := jnN_ok hG hq
    have hbv : bitv (S 2 q) (nI t) = 1 ↔ (jnN f q).testBit t = true := by rw [e1]; exact bv_t e3 (by omega)
    by_cases c : q < t ∧ (jnN f q).testBit t = true
    · obtain ⟨w1, w2⟩ := bh_B hG t (by omega)
      refine ⟨b ||| (2 ^ t ||| bhN2 S t), or_lt9 hb (or_lt9 (p2_lt t (by omega)) w2), ?_, fun y h9 => ?_⟩
      · rw [beF, eb, if_pos c.1, if_pos (hbv.mpr c.2), w1, sh_nat t (by omega), nI_or, nI_or]
      · rw [Nat.testBit_or, Nat.testBit_or, Bool.or_eq_true, Bool.or_eq_true, hy y h9]
        constructor
        · rintro (⟨z, a1, a2, a3, a4⟩ | h | h)
          · exact ⟨z, a1, by omega, a3, a4⟩
          · refine ⟨t, c.1, by omega, c.2, Or.inl ?_⟩
            exact Decidable.byContradiction fun h8 => by rw [Nat.testBit_two_pow_of_ne h8] at h; cases h
          · exact ⟨t, c.1, by omega, c.2, Or.inr h⟩
        · rintro ⟨z, a1, a2, a3, a4⟩
          by_cases hz : z = t
          · subst hz
            rcases a4 with h | h
            · subst h; exact Or.inr (Or.inl (Nat.testBit_two_pow_self))
            · exact Or.inr (Or.inr h)
          · exact Or.inl ⟨z, a1, by omega, a3, a4⟩
    · refine ⟨b, hb, ?_, fun y h9 => ?_⟩
      · rw [beF, eb]
        by_cases c1 : q < t
        · rw [if_pos c1, if_neg (fun h => c ⟨c1, hbv.mp h⟩)]; exact or0 b
        · rw [if_neg c1]; exact or0 b
      · rw [hy y h9]
        constructor
        · rintro ⟨z, a1, a2, a3, a4⟩
          exact ⟨z, a1, by omega, a3, a4⟩
        · rintro ⟨z, a1, a2, a3, a4⟩
          by_cases hz : z = t
          · subst hz; exact absurd ⟨a1, a3⟩ c
          · exact ⟨z, a1, by omega, a3, a4⟩
theorem beF_9 (hG : GrOK S f) {q : Nat} (hq : q < 9) : beF (S 2) (bhG (S 2)) q 9 = bhG (S 2) q := by
  obtain ⟨b, hb, eb, hy⟩ := beF_t hG hq 9 (Nat.le_refl 9)
  obtain ⟨w1, w2⟩ := bh_B hG q hq
  obtain ⟨-, -, -, e4⟩ := jnN_ok hG hq
  rw [eb, w1]
  refine congrArg nI (m_ext hb w2 (fun y h9 => ?_))
  rw [Bool.eq_iff_iff, hy y h9, bh_iff hG hq h9]
  constructor
  · rintro ⟨z, a1, a2, a3, a4 | a4⟩
    · subst a4; exact Or.inl a3
    · exact Or.inr ⟨z, a1, a2, a3, a4⟩
  · rintro (h | ⟨z, a1, a2, a3, a4⟩)
    · exact ⟨y, e4 y h9 h, h9, h, Or.inl rfl⟩
    · exact ⟨z, a1, a2, a3, Or.inr a4⟩
/-- the least rest, as the law finds it -/
def lsW (r : Nat → Int32) (x : Int32) : Nat → Int32
  | 0 => 1000
  | i + 1 => if bitv x (nI i) = 1 then (if r i < lsW r x i then r i else lsW r x i) else lsW r x i
theorem lsW_wm (hR : RsOK S f) (x : Int32) : ∀ i, i ≤ 9 → lsW (S 4) x i = wmF f x i
  | 0, _ => rfl
  | i + 1, hi => by
    rw [lsW, wmF, lsW_wm hR x i (by omega), (hR i (by omega)).1]
    by_cases c : bitv x (nI i) = 1
    · rw [if_pos c, if_pos c]
      by_cases h : f (9 + i) < wmF f x i
      · rw [if_pos h, if_neg (Int32.not_le.mpr h)]
      · rw [if_neg h, if_pos (Int32.not_lt.mp h)]
    · rw [if_neg c, if_neg c]
/-- does no piece of a set lie behind another, so far -/
def apF (bh : Nat → Int32) (x : Int32) : Nat → Bool
  | 0 => true
  | i + 1 => apF bh x i && decide (bitv x (nI i) = 0 ∨ bh i &&& x = 0)
theorem ap_rw (hG : GrOK S f) (x : Int32) : ∀ i, i ≤ 9 → apF (bhG (S 2)) x i = rwS f x i
  | 0, _ => rfl
  | i + 1, hi => by rw [apF, rwS, ap_rw hG x i (by omega), bm_bh hG (show i < 9 by omega)]
/-- is a pair of a set barred, so far -/
def brS (B : Nat → Int32) (x : Int32) : Nat → Bool
  | 0 => false
  | i + 1 => brS B x i || (decide (bitv x (nI i) = 1) && decide (¬ B i &&& x = 0))
theorem io_s (hG : GrOK S f) {m : Nat} (hm : m < 512) : ∀ i, i ≤ 9 → ioS f (nI m) i = (iwB f (nI m) && !brS (S 3) (nI m) i)
  | 0, _ => by rw [ioS, brS, Bool.not_false, Bool.and_true]
  | i + 1, hi => by
    rw [ioS, brS, io_s hG hm i (by omega), (hG i (by omega)).1.2.2, bv_nat m hm i (by omega)]
    cases m.testBit i
    · simp
    · by_cases h : f (36 + i) &&& nI m = 0 <;> simp [h]
theorem io_br (hG : GrOK S f) {m : Nat} (hm : m < 512) : ioB f (nI m) = (iwB f (nI m) && !brS (S 3) (nI m) 9) := io_s hG hm 9 (Nat.le_refl 9)
end BE
/-- 0: no way; 1: a barred one; 2: an open one -/
def wyV (f : Nat → Int32) (x : Int32) : Int32 := if ioB f x = true then 2 else if iwB f x = true then 1 else 0
theorem io_iw {S : Nat → Nat → Int32} {f : Nat → Int32} (hG : GrOK S f) {m : Nat} (hm : m < 512) (h : ioB f (nI m) = true) : iwB f (nI m) = true := by
  rw [io_br hG hm, Bool.and_eq_true] at h
  exact h.1
theorem wyV_c {S : Nat → Nat → Int32} {f : Nat → Int32} (hG : GrOK S f) {m : Nat} (hm : m < 512) : (wyV f (nI m) = 0 ∧ ioB f (nI m) = false ∧ iwB f (nI m) = false) ∨ (wyV f (nI m) = 1 ∧ ioB f (nI m) = false ∧ iwB f (nI m) = true) ∨ (wyV f (nI m) = 2 ∧ ioB f (nI m) = true ∧ iwB f (nI m) = true) := by
  unfold wyV
  cases h : ioB f (nI m)
  · cases h2 : iwB f (nI m)
    · exact Or.inl ⟨rfl, rfl, rfl⟩
    · exact Or.inr (Or.inl ⟨rfl, rfl, rfl⟩)
  · exact Or.inr (Or.inr ⟨rfl, rfl, io_iw hG hm h⟩)
theorem pm_bit : ∀ m, m < 512 → ∀ q, q < 9 → (nI m &&& (1 <<< (nI q &&& 31)) = 1 <<< (nI q &&& 31) ↔ bitv (nI m) (nI q) = 1) := by
  intro m hm q hq
  rw [sh_nat q hq, nI_and, bv_t hm hq]
  constructor
  · intro h
    have h2 := nI_inj (and_lt9 (p2_lt q hq)) (p2_lt q hq) h
    have h3 : (m &&& 2 ^ q).testBit q = true := by rw [h2]; exact Nat.testBit_two_pow_self
    rw [Nat.testBit_and, Bool.and_eq_true] at h3
    exact h3.1
  · intro h
    refine congrArg nI (m_ext (and_lt9 (p2_lt q hq)) (p2_lt q hq) (fun y hy => ?_))
    rw [Nat.testBit_and]
    by_cases e : q = y
    · subst e; rw [h, Bool.true_and]
    · rw [Nat.testBit_two_pow_of_ne e, Bool.and_false]
