theorem inB_ex {x : Int32} {b : Nat} (hb : b < 2 ^ 31) (h : inB x 0 (nI b) = true) : ∃ j, j ≤ b ∧ x = nI j := by
  have h2 := of_decide_eq_true h
  exact nI_of2 (nI_toInt hb) h2.1 (Int32.not_lt.mp h2.2)
theorem dg_out {tx : Nat → Int32} {ln i : Nat} (h : ¬ i < ln) : dgM tx ln i = -48 := by rw [dgM, caM, if_neg h]; rfl
theorem ca_in {tx : Nat → Int32} {ln i : Nat} {v : Int32} (h : caM tx ln i = v) (hv : v ≠ 0) : i < ln ∧ tx i = v := by
  by_cases hi : i < ln
  · rw [caM, if_pos hi] at h; exact ⟨hi, h⟩
  · rw [caM, if_neg hi] at h; exact absurd h.symm hv
theorem dg_in {tx : Nat → Int32} {ln i b : Nat} (hb : b < 2 ^ 31) (h : inB (dgM tx ln i) 0 (nI b) = true) : i < ln ∧ ∃ q, q ≤ b ∧ dgM tx ln i = nI q := by
  refine ⟨Decidable.byContradiction fun hi => ?_, inB_ex hb h⟩
  obtain ⟨j, hj, e⟩ := inB_ex hb h
  rw [dg_out hi] at e
  have h1 : (nI j).toInt = j := nI_toInt (by omega)
  rw [← e] at h1
  have h2 : (-48 : Int32).toInt = -48 := by decide
  omega
theorem dg_in2 {tx : Nat → Int32} {ln i a : Nat} (ha : a < 9) (h : inB (dgM tx ln i) (nI a + 1) 8 = true) : i < ln ∧ ∃ q, a < q ∧ q < 9 ∧ dgM tx ln i = nI q := by
  have e1 : nI a + 1 = nI (a + 1) := (nI_succ a).symm
  rw [e1] at h
  have h2 := of_decide_eq_true h
  have h0 : inB (dgM tx ln i) 0 (nI 8) = true := by
    unfold inB
    rw [decide_eq_true_eq]
    refine ⟨fun z => h2.1 ?_, h2.2⟩
    have h3 := Int32.lt_iff_toInt_lt.mp z
    have h4 : (nI (a + 1)).toInt = ((a + 1 : Nat) : Int) := nI_toInt (by omega)
    have h7 : (0 : Int32).toInt = 0 := by decide
    exact Int32.lt_iff_toInt_lt.mpr (by omega)
  obtain ⟨h5, q, h6, e⟩ := dg_in (b := 8) (by omega) h0
  refine ⟨h5, q, Decidable.byContradiction fun hq => h2.1 ?_, by omega, e⟩
  rw [e]
  exact (nI_ltI (by omega) (by omega)).mpr (by omega)
theorem bnR_ln (tx : Nat → Int32) (ln i t j : Nat) (h : j ≤ ln) : bnR tx ln i t j ≤ ln := by
  induction t generalizing j with
  | zero => exact h
  | succ t ih =>
    rw [bnR]
    split
    · rename_i hc
      exact ih (j + 1) (dg_in (b := 9) (by omega) hc.1).1
    · exact h
/-- a right part at i: where it ends -/
theorem bp_pos {tx : Nat → Int32} {ln i : Nat} (hln : ln ≤ 60) (hi : i ≤ 61) (h : ¬ bpM tx ln i < 0) : ∃ z, i + 1 < z ∧ z ≤ ln ∧ z ≤ i + 6 ∧ bpM tx ln i = nI z := by
  have neg : ∀ (a : Nat), 0 < a → a ≤ 4 → ¬ (-(nI a) - nI i < 0) → False := by
    intro a h0 ha hn
    apply hn
    have e1 : (nI i).toInt = i := nI_toInt (by omega)
    have e2 : (nI a).toInt = a := nI_toInt (by omega)
    have e3 : (0 : Int32).toInt = 0 := by decide
    have e4 : (-(nI a) - nI i).toInt = -(a : Int) - i := by
      rw [Int32.toInt_sub, Int32.toInt_neg, e1, e2]
      have e5 : (-(a : Int)).bmod (2 ^ 32) = -a := Int.bmod_eq_of_le (by omega) (by omega)
      rw [e5]
      exact Int.bmod_eq_of_le (by omega) (by omega)
    exact Int32.lt_iff_toInt_lt.mpr (by omega)
  unfold bpM at h ⊢
  split
  · rename_i h1
    rw [if_pos h1] at h
    split
    · rename_i h2
      obtain ⟨h3, q, h4, h5⟩ := dg_in (b := 8) (by omega) h2
      exact ⟨i + 2, by omega, by omega, by omega, rfl⟩
    · rename_i h2
      rw [if_neg h2] at h
      exact (neg 2 (by omega) (by omega) h).elim
  · rename_i h1
    rw [if_neg h1] at h
    split
    · rename_i h2
      rw [if_pos h2] at h
      split
      · rename_i h3
        rw [if_pos h3] at h
        obtain ⟨h4, q, h5, h6⟩ := dg_in (b := 7) (by omega) h3
        split
        · rename_i h7
          rw [h6] at h7
          obtain ⟨h8, _⟩ := dg_in2 (by omega) h7
          exact ⟨i + 3, by omega, by omega, by omega, rfl⟩
        · rename_i h7
          rw [if_neg h7] at h
          exact (neg 3 (by omega) (by omega) h).elim
      · rename_i h3
        rw [if_neg h3] at h
        exact (neg 2 (by omega) (by omega) h).elim
    · rename_i h2
      rw [if_neg h2] at h
      split
      · rename_i h3
        rw [if_pos h3] at h
        split
        · rename_i h4
          rw [if_pos h4] at h
          split
          · rename_i h5
            rw [if_pos h5] at h
            obtain ⟨h6, h7⟩ := ca_in h5 (by decide)
            split
            · rename_i h8
              rw [if_pos h8] at h
              exact (neg 4 (by omega) (by omega) h).elim
            · have h9 := bnM_le tx ln (i + 3)
              have h10 := bnR_ln tx ln (i + 3) 3 (i + 3) (by omega)
              exact ⟨bnM tx ln (i + 3), by omega, h10, by omega, rfl⟩
          · rename_i h5
            rw [if_neg h5] at h
            exact (neg 3 (by omega) (by omega) h).elim
        · rename_i h4
          rw [if_neg h4] at h
          exact (neg 2 (by omega) (by omega) h).elim
      · rename_i h3
        rw [if_neg h3] at h
        exact (neg 1 (by omega) (by omega) h).elim
