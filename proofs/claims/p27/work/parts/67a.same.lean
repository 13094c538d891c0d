theorem sum_n {S : Nat → Nat → Int32} {f : Nat → Int32} (h : SR S f) : ∀ i, i ≤ 9 → ∃ a b, b ≤ a ∧ a ≤ 999 * i ∧ smM f 0 i = nI a ∧ smM f 9 i = nI b
  | 0, _ => ⟨0, 0, by omega, by omega, rfl, rfl⟩
  | i + 1, hi => by
    obtain ⟨a, b, h1, h2, h3, h4⟩ := sum_n h i (by omega)
    obtain ⟨c, r, k1, k2, k3, k4⟩ := h.2.2.1 i (by omega)
    refine ⟨a + c, b + r, by omega, by omega, ?_, ?_⟩
    · rw [smM, h3, k3, nI_add]
    · rw [smM, h4, k4, nI_add]
