/-! MATH 8: what comes behind, the fewest rows -/
section BEHIND
variable {S : Nat → Nat → Int32} {f : Nat → Int32}
def jnN (f : Nat → Int32) (q : Nat) : Nat := (f (27 + q)).toNatClampNeg
def bhN2 (S : Nat → Nat → Int32) (q : Nat) : Nat := (bhG (S 2) q).toNatClampNeg
theorem jnN_ok (hG : GrOK S f) {q : Nat} (hq : q < 9) : S 2 q = nI (jnN f q) ∧ f (27 + q) = nI (jnN f q) ∧ jnN f q < 512 ∧ ∀ x, x < 9 → (jnN f q).testBit x = true → q < x := by
  obtain ⟨⟨-, h2, -⟩, -, ⟨j, hj, ej, hj2⟩, -⟩ := hG q hq
  have e : jnN f q = j := by unfold jnN; rw [ej]; exact nI_clamp (by omega)
  rw [e]
  exact ⟨h2.trans ej, ej, hj, hj2⟩
/-- the walk over the joins of a piece -/
theorem bhO_ok (hG : GrOK S f) {q : Nat} (hq : q < 9) (hW : ∀ x, q < x → x < 9 → ∃ b, b < 512 ∧ bhG (S 2) x = nI b) : ∀ t, q + 1 + t ≤ 9 → ∃ b, b < 512 ∧ bhO (S 2) (bhG (S 2)) q t = nI b ∧
    ∀ y, y < 9 → (b.testBit y = true ↔ (jnN f q).testBit y = true ∨ ∃ z, q < z ∧ z < q + 1 + t ∧ (jnN f q).testBit z = true ∧ (bhN2 S z).testBit y = true)
  | 0, _ => by
    obtain ⟨h1, -, h2, -⟩ := jnN_ok hG hq
    exact ⟨jnN f q, h2, h1, fun y _ => ⟨Or.inl, fun h => h.elim id (fun ⟨z, a, b, _⟩ => by omega)⟩⟩
  | t + 1, ht => by
    obtain ⟨b, hb, eb, hy⟩ := bhO_ok hG hq hW t (by omega)
    obtain ⟨h1, -, h2, h3⟩ := jnN_ok hG hq
    rw [bhO, eb, h1]
    by_cases c : bitv (nI (jnN f q)) (nI (q + 1 + t)) = 1
    · rw [if_pos c]
      have c2 := (bv_t h2 (show q + 1 + t < 9 by omega)).mp c
      obtain ⟨b2, hb2, eb2⟩ := hW (q + 1 + t) (by omega) (by omega)
      have e2 : bhN2 S (q + 1 + t) = b2 := by unfold bhN2; rw [eb2]; exact nI_clamp (by omega)
      rw [eb2, nI_or]
      refine ⟨_, or_lt9 hb hb2, rfl, fun y y9 => ?_⟩
      rw [Nat.testBit_or, Bool.or_eq_true_iff, hy y y9]
      constructor
      · rintro ((h | ⟨z, z1, z2, z3, z4⟩) | h)
        · exact Or.inl h
        · exact Or.inr ⟨z, z1, by omega, z3, z4⟩
        · exact Or.inr ⟨q + 1 + t, by omega, by omega, c2, by rw [e2]; exact h⟩
      · rintro (h | ⟨z, z1, z2, z3, z4⟩)
        · exact Or.inl (Or.inl h)
        · by_cases e : z = q + 1 + t
          · subst e; rw [e2] at z4; exact Or.inr z4
          · exact Or.inl (Or.inr ⟨z, z1, by omega, z3, z4⟩)
    · rw [if_neg c]
      have c2 : ¬ (jnN f q).testBit (q + 1 + t) = true := fun h => c ((bv_t h2 (by omega)).mpr h)
      refine ⟨b, hb, rfl, fun y y9 => ?_⟩
      rw [hy y y9]
      constructor
      · rintro (h | ⟨z, z1, z2, z3, z4⟩)
        · exact Or.inl h
        · exact Or.inr ⟨z, z1, by omega, z3, z4⟩
      · rintro (h | ⟨z, z1, z2, z3, z4⟩)
        · exact Or.inl h
        · by_cases e : z = q + 1 + t
          · subst e; exact absurd z3 c2
          · exact Or.inr ⟨z, z1, by omega, z3, z4⟩
theorem bh_all (hG : GrOK S f) : ∀ n q, 9 - q ≤ n → q < 9 → ∃ b, b < 512 ∧ bhG (S 2) q = nI b ∧ ∀ y, y < 9 → (b.testBit y = true ↔ (jnN f q).testBit y = true ∨ ∃ z, q < z ∧ z < 9 ∧ (jnN f q).testBit z = true ∧ (bhN2 S z).testBit y = true)
  | 0, q, h1, h2 => by omega
  | n + 1, q, h1, hq => by
    obtain ⟨b, hb, eb, hy⟩ := bhO_ok hG hq (fun x a c => by
      obtain ⟨b, hb, eb, -⟩ := bh_all hG n x (by omega) c
      exact ⟨b, hb, eb⟩) (9 - (q + 1)) (by omega)
    rw [← bhG_s (S 2) hq] at eb
    refine ⟨b, hb, eb, fun y y9 => ?_⟩
    rw [hy y y9, show q + 1 + (9 - (q + 1)) = 9 by omega]
theorem bh_B (hG : GrOK S f) : BhOK (bhG (S 2)) (bhN2 S) := by
  intro q hq
  obtain ⟨b, hb, eb, -⟩ := bh_all hG 9 q (by omega) hq
  have e : bhN2 S q = b := by unfold bhN2; rw [eb]; exact nI_clamp (by omega)
  rw [e]
  exact ⟨eb, hb⟩
theorem bh_iff (hG : GrOK S f) {q : Nat} (hq : q < 9) {y : Nat} (hy : y < 9) : (bhN2 S q).testBit y = true ↔ (jnN f q).testBit y = true ∨ ∃ z, q < z ∧ z < 9 ∧ (jnN f q).testBit z = true ∧ (bhN2 S z).testBit y = true := by
  obtain ⟨b, hb, eb, h⟩ := bh_all hG 9 q (by omega) hq
  have e : bhN2 S q = b := by unfold bhN2; rw [eb]; exact nI_clamp (by omega)
  rw [e]
  exact h y hy
theorem bh_tr (hG : GrOK S f) : ∀ n i j k, 9 - i ≤ n → i < 9 → j < 9 → k < 9 → (bhN2 S i).testBit j = true → (bhN2 S j).testBit k = true → (bhN2 S i).testBit k = true
  | 0, i, _, _, h, hi, _, _, _, _ => by omega
  | n + 1, i, j, k, h, hi, hj, hk, h1, h2 => by
    rw [bh_iff hG hi hk]
    rcases (bh_iff hG hi hj).mp h1 with h3 | ⟨z, z1, z2, z3, z4⟩
    · exact Or.inr ⟨j, (jnN_ok hG hi).2.2.2 j hj h3, hj, h3, h2⟩
    · exact Or.inr ⟨z, z1, z2, z3, bh_tr hG n z j k (by omega) z2 hj hk z4 h2⟩
theorem bh_T (hG : GrOK S f) : TrB (bhN2 S) := fun i j k hi hj hk => bh_tr hG 9 i j k (by omega) hi hj hk
/-- the model's way to them -/
theorem bm_ok (hG : GrOK S f) {q : Nat} (hq : q < 9) : ∀ t, q + 1 + t ≤ 9 → ∃ s, s < 512 ∧ bmF f q t = nI s ∧ (∀ y, y < 9 → s.testBit y = true → (bhN2 S q).testBit y = true) ∧ (∀ y, y < 9 → (jnN f q).testBit y = true → s.testBit y = true) ∧
    ∀ z, z < q + 1 + t → z < 9 → s.testBit z = true → ∀ y, y < 9 → (jnN f z).testBit y = true → s.testBit y = true
  | 0, _ => by
    obtain ⟨-, h1, h2, h3⟩ := jnN_ok hG hq
    refine ⟨jnN f q, h2, h1, fun y hy h => (bh_iff hG hq hy).mpr (Or.inl h), fun y _ h => h, fun z z1 z2 z3 => ?_⟩
    have := h3 z z2 z3
    omega
  | t + 1, ht => by
    obtain ⟨s, hs, es, s1, s2, s3⟩ := bm_ok hG hq t (by omega)
    have hp : q + 1 + t < 9 := by omega
    obtain ⟨-, j1, j2, j3⟩ := jnN_ok hG hp
    rw [bmF, es, j1]
    by_cases c : bitv (nI s) (nI (q + 1 + t)) = 1
    · rw [if_pos c, nI_or]
      have c2 := (bv_t hs hp).mp c
      refine ⟨_, or_lt9 hs j2, rfl, fun y hy h => ?_, fun y hy h => ?_, fun z z1 z2 z3 y hy h => ?_⟩
      · rw [Nat.testBit_or, Bool.or_eq_true_iff] at h
        rcases h with h | h
        · exact s1 y hy h
        · exact bh_T hG q (q + 1 + t) y hq hp hy (s1 _ hp c2) ((bh_iff hG hp hy).mpr (Or.inl h))
      · rw [Nat.testBit_or, s2 y hy h]; rfl
      · rw [Nat.testBit_or, Bool.or_eq_true_iff] at z3 ⊢
        by_cases e : z = q + 1 + t
        · subst e; exact Or.inr h
        · rcases z3 with z3 | z3
          · exact Or.inl (s3 z (by omega) z2 z3 y hy h)
          · have := j3 z z2 z3
            omega
    · rw [if_neg c]
      have c2 : ¬ s.testBit (q + 1 + t) = true := fun h => c ((bv_t hs hp).mpr h)
      rw [show (0 : Int32) = nI 0 from nI_0.symm, nI_or, Nat.or_zero]
      refine ⟨s, hs, rfl, s1, s2, fun z z1 z2 z3 y hy h => ?_⟩
      by_cases e : z = q + 1 + t
      · subst e; exact absurd z3 c2
      · exact s3 z (by omega) z2 z3 y hy h
theorem bm_bh (hG : GrOK S f) {q : Nat} (hq : q < 9) : bmF f q (9 - (q + 1)) = bhG (S 2) q := by
  obtain ⟨s, hs, es, s1, s2, s3⟩ := bm_ok hG hq (9 - (q + 1)) (by omega)
  obtain ⟨h1, h2⟩ := bh_B hG q hq
  rw [es, h1]
  congr 1
  have key : ∀ n z, 9 - z ≤ n → z < 9 → s.testBit z = true → ∀ y, y < 9 → (bhN2 S z).testBit y = true → s.testBit y = true := by
    intro n
    induction n with
    | zero => intro z a b; omega
    | succ n ih =>
      intro z a b c y hy h
      have hz := s3 z (by omega) b c
      rcases (bh_iff hG b hy).mp h with h | ⟨w, w1, w2, w3, w4⟩
      · exact hz y hy h
      · exact ih w (by omega) w2 (hz w w2 w3) y hy w4
  refine m_ext hs h2 (fun y hy => ?_)
  rw [Bool.eq_iff_iff]
  constructor
  · exact s1 y hy
  · intro h
    rcases (bh_iff hG hq hy).mp h with h | ⟨w, w1, w2, w3, w4⟩
    · exact s2 y hy h
    · exact key 9 w (by omega) w2 (s2 w w2 w3) y hy w4
theorem rwS_n (f : Nat → Int32) {m : Nat} (hm : m < 512) : ∀ i, i ≤ 9 → (rwS f (nI m) i = true ↔ ∀ j, j < i → m.testBit j = true → bmF f j (9 - (j + 1)) &&& nI m = 0)
  | 0, _ => ⟨fun _ j hj => absurd hj (Nat.not_lt_zero _), fun _ => rfl⟩
  | i + 1, h => by
    have ih := rwS_n f hm i (by omega)
    rw [rwS, Bool.and_eq_true_iff, ih, decide_eq_true_iff, bv_f hm (show i < 9 by omega)]
    constructor
    · rintro ⟨h2, h3⟩ j hj hb
      by_cases e : j = i
      · subst e
        rcases h3 with h3 | h3
        · rw [h3] at hb; cases hb
        · exact h3
      · exact h2 j (by omega) hb
    · intro h2
      refine ⟨fun j hj => h2 j (by omega), ?_⟩
      cases c : m.testBit i
      · exact Or.inl rfl
      · exact Or.inr (h2 i (by omega) c)
theorem rw_op (hG : GrOK S f) {m : Nat} (hm : m < 512) : rwS f (nI m) 9 = opR (bhG (S 2)) (nI m) 9 0 := by
  rw [Bool.eq_iff_iff, rwS_n f hm 9 (by omega), opR_ac hm 9 0 rfl]
  constructor
  · intro h j _ hj hb
    rw [← bm_bh hG hj]
    exact h j hj hb
  · intro h j hj hb
    rw [bm_bh hG hj]
    exact h j (Nat.zero_le _) hj hb
theorem rows_sets (hG : GrOK S f) : ∀ t, t ≤ 511 → cbT (bhG (S 2)) t = rwT f t
  | 0, _ => rfl
  | t + 1, h => by
    rw [cbT, rwT, rows_sets hG t (by omega), rw_op hG (show t + 1 < 512 by omega), (bc_cn (t + 1) (by omega)).1, (bc_cn (t + 1) (by omega)).2]
    by_cases c1 : nI (cn (fun i => (t + 1).testBit i) 9) ≤ rwT f t
    · rw [if_pos c1, if_pos c1]; split <;> rfl
    · rw [if_neg c1, if_neg c1]
theorem rows_pairs (hG : GrOK S f) : (cpS (bhG (S 2)) 9).2 = rwT f 511 := by rw [rows_dual (bh_B hG) (bh_T hG), rows_sets hG 511 (Nat.le_refl _)]
theorem piece_5 (hG : GrOK S f) {q : Nat} (hq : q < 9) : bcF (bhG (S 2) q) = mnF (bmF f q (9 - (q + 1))) 9 := by
  obtain ⟨h1, h2⟩ := bh_B hG q hq
  rw [bm_bh hG hq, h1, (bc_cn _ h2).1, (bc_cn _ h2).2]
end BEHIND
