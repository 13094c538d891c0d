/-! MATH 12: covers, and the text as a whole -/
section PARSE3
variable {cd tx : Nat → Int32} {ln : Nat}
theorem gC_e (G : Nat → Nat → Int32) (q : Nat) (v : Int32) : gC G q v 0 q = v := upd_e _ _ _
theorem upd_u (f : Nat → Int32) (j : Nat) (u v : Int32) : upd (upd f j u) j v = upd f j v := by
  funext x
  by_cases e : x = j
  · subst e; rw [upd_e, upd_e]
  · rw [upd_n _ _ e, upd_n _ _ e, upd_n _ _ e]
theorem cg_iff {kd : Int32 × Int32} {c : Nat} (hc : kd.2 = nI c) (h : c ≤ 999) : cgB kd = true ↔ 0 < c ∧ c ≤ 99 := by
  unfold cgB
  rw [decide_eq_true_iff, hc]
  constructor
  · rintro ⟨h1, h2⟩
    refine ⟨Decidable.byContradiction fun z => h1 ?_, Decidable.byContradiction fun z => h2 ?_⟩
    · rw [show c = 0 by omega, nI_0]; exact Int32.le_refl 0
    · exact (nI_ltI (a := 99) (b := c) (by omega) (by omega)).mpr (by omega)
  · rintro ⟨h1, h2⟩
    exact ⟨nI_nle h1 (by omega), fun z => by have := (nI_ltI (a := 99) (b := c) (by omega) (by omega)).mp z; omega⟩
theorem RdZ_5 {z q c : Nat} {G : Nat → Nat → Int32} {kd : Int32 × Int32} (hq : q < 9) (hc : kd.2 = nI c) (hc2 : c ≤ 999) (h : z < ln → c = 0 ∨ 99 < c ∨ inB (cd z - 48) 0 9 = false) : RdZ cd ln z G 5 kd q := by
  refine ⟨Or.inl rfl, hq, fun hz h59 => ?_, rfl⟩
  have e : tkF G 5 kd q (cd z) = if cgB kd = true then tdF G 5 kd q (cd z - 48) else (false, G, 5, kd, nI q) := by
    show (if cd z = 59 then spF G kd (nI q) (cd z) else _) = _
    rw [if_neg h59]
  by_cases g : cgB kd = true
  · have := (cg_iff hc hc2).mp g
    rw [if_pos g, td_f ((h hz).resolve_left (by omega) |>.resolve_left (by omega))] at e
    exact ⟨G, 5, kd, e⟩
  · rw [if_neg g] at e
    exact ⟨G, 5, kd, e⟩
theorem num_step (hcd : ∀ i, i < ln → cd i = tx i) {G : Nat → Nat → Int32} {q c a j : Nat} {kd : Int32 × Int32} (hq : q < 9) (hj : j < ln) (hc : kd.2 = nI c) (h0 : 0 < c) (h9 : c ≤ 99) (ha : a ≤ 9) (hd : dgM tx ln j = nI a) :
    rdL cd ln (ln - j) j (G, nI 5, kd, nI q) = rdL cd ln (ln - (j + 1)) (j + 1) (gC G q (nI (c * 10 + a)), nI 5, (kd.1, nI (c * 10 + a)), nI q) := by
  have hd2 := dg_cd hcd hj
  have h59 : ¬ cd j = 59 := fun h => by
    rw [h, hd] at hd2
    have e : (59 : Int32) - 48 = nI 11 := by decide +kernel
    rw [e] at hd2
    have := nI_inj (by omega) (by omega) hd2
    omega
  rw [rd_go (G' := gC G q (nI (c * 10 + a))) (pl' := 5) (kd' := (kd.1, nI (c * 10 + a))) (f' := nI q) hj (by omega) hq ?_]
  · rfl
  · show (if cd j = 59 then spF G kd (nI q) (cd j) else if cgB kd = true then tdF G 5 kd q (cd j - 48) else _) = _
    rw [if_neg h59, if_pos ((cg_iff hc (by omega)).mpr ⟨h0, h9⟩), hd2, hd, td_t ha hc]
theorem bnR_t {i t j : Nat} (h : inB (dgM tx ln j) 0 9 = true ∧ (j = i ∨ 0 < dgM tx ln i)) : bnR tx ln i (t + 1) j = bnR tx ln i t (j + 1) := if_pos h
theorem nu1 {s a : Nat} (h : dgM tx ln s = nI a) : nuM tx ln s 1 = nI a := by
  show 10 * 0 + dgM tx ln (s + 0) = nI a
  rw [Nat.add_zero, h, Int32.mul_zero, Int32.zero_add]
theorem nu_s {s n c a : Nat} (hn : nuM tx ln s n = nI c) (h : dgM tx ln (s + n) = nI a) : nuM tx ln s (n + 1) = nI (c * 10 + a) := by
  show 10 * nuM tx ln s n + dgM tx ln (s + n) = _
  rw [hn, h, Int32.mul_comm, show (10 : Int32) = nI 10 from rfl, pk_mul, nI_add]
theorem pos_n {a : Nat} (h : a < 512) : (0 : Int32) < nI a ↔ 0 < a := by
  have := nI_ltI (a := 0) (b := a) (by omega) (by omega)
  rw [nI_0] at this
  exact this
theorem tkM_c {i z q : Nat} {F : Nat → Int32} (htx : tx i = 99) (h : dgM tx ln (i + 1) = nI q) (hq : q < 9) : tkM tx ln i z F = upd F (0 + q) (nuM tx ln (i + 3) (z - (i + 3))) := by
  rw [tkM_q h hq]
  unfold tk1
  rw [if_pos htx]
theorem rd_c (hcd : ∀ i, i < ln → cd i = tx i) {G : Nat → Nat → Int32} {f i q : Nat} {nu : Int32} {F : Nat → Int32} (hG : PG G F) (hf : f < 9) (hq : q < 9) (hl : i + 1 < ln) (hc : cd i = caM tx ln i) (hd : dgM tx ln (i + 1) = nI q) (hx : cd (i + 1) - 48 = nI q) (hk : cd i = 99) :
    RdP cd tx ln i F (rdL cd ln (ln - (i + 1)) (i + 1) (G, nI 1, (cd i, nu), nI f)) := by
  have htx : tx i = 99 := by rw [← hcd i (by omega)]; exact hk
  have hb : bpM tx ln i = if caM tx ln (i + 2) = 61 then (if bnM tx ln (i + 3) = i + 3 then -4 - nI i else nI (bnM tx ln (i + 3))) else -3 - nI i := by
    unfold bpM
    rw [← hc, hk, if_neg (by decide), if_neg (by decide), if_pos rfl, hd, if_pos (in8 hq)]
  have e1 : rdL cd ln (ln - (i + 1)) (i + 1) (G, nI 1, (cd i, nu), nI f) = rdL cd ln (ln - (i + 2)) (i + 2) (G, nI 3, (cd i, nu), nI q) := by
    rw [rd_go (G' := G) (pl' := 3) (kd' := (cd i, nu)) (f' := nI q) hl (by omega) hf ?_]
    · rfl
    · show tfF G 1 (cd i, nu) (nI f) (cd (i + 1) - 48) = _
      unfold tfF
      dsimp only
      rw [hx, if_neg (by rw [pcB_t hq]; decide), if_neg (by rw [hk]; decide), if_neg (by rw [hk]; decide), if_pos hk]
  rw [e1]
  by_cases hl2 : i + 2 < ln
  · have hc2 := ca_cd hcd hl2
    by_cases h61 : cd (i + 2) = 61
    · rw [if_pos (hc2.trans h61)] at hb
      have e2 : rdL cd ln (ln - (i + 2)) (i + 2) (G, nI 3, (cd i, nu), nI q) = rdL cd ln (ln - (i + 3)) (i + 3) (G, nI 4, (cd i, 0), nI q) := by
        rw [rd_go (G' := G) (pl' := 4) (kd' := (cd i, 0)) (f' := nI q) hl2 (by omega) hq (by show (decide (cd (i + 2) = 61), G, (4 : Int32), ((cd i, 0) : Int32 × Int32), nI q) = _; rw [decide_eq_true h61])]
        rfl
      rw [e2]
      generalize hs : i + 3 = s at hb ⊢
      rcases dg_cases (tx := tx) (ln := ln) (j := s) with ⟨a0, ha0, hl3, hd0, hi0⟩ | h0
      · have hz0 : ((cd i, 0) : Int32 × Int32).2 = nI 0 := nI_0.symm
        have e3 : rdL cd ln (ln - s) s (G, nI 4, (cd i, 0), nI q) = rdL cd ln (ln - (s + 1)) (s + 1) (gC G q (nI a0), nI 5, (cd i, nI a0), nI q) := by
          rw [rd_go (G' := gC G q (nI a0)) (pl' := 5) (kd' := (cd i, nI a0)) (f' := nI q) hl3 (by omega) hq ?_]
          · rfl
          · show tdF G 5 (cd i, 0) q (cd s - 48) = _
            rw [dg_cd hcd hl3, hd0, td_t ha0 hz0, Nat.zero_mul, Nat.zero_add]
        rw [e3]
        have hG1 : PG (gC G q (nI a0)) (upd F (0 + q) (nI a0)) := PG_C hG hq (c := a0) (by omega)
        have hv1 : ((cd i, nI a0) : Int32 × Int32).2 = nI a0 := rfl
        have hn1 := nu1 (tx := tx) (ln := ln) hd0
        generalize gC G q (nI a0) = G1 at hG1 ⊢
        have b1 : bnM tx ln s = bnR tx ln s 2 (s + 1) := bnR_t ⟨hi0, Or.inl rfl⟩
        have fin : ∀ (z c : Nat) (G' : Nat → Nat → Int32) (kd2 : Int32 × Int32), bnM tx ln s = z → s < z → z ≤ ln → c ≤ 999 → kd2.2 = nI c → nuM tx ln s (z - s) = nI c → PG G' (upd F (0 + q) (nI c)) → (z < ln → c = 0 ∨ 99 < c ∨ inB (cd z - 48) 0 9 = false) → RdP cd tx ln i F (rdL cd ln (ln - z) z (G', nI 5, kd2, nI q)) := by
          intro z c G' kd2 z1 z2 z3 z4 z5 z6 z7 z8
          refine Or.inr ⟨z, G', 5, kd2, q, ?_, by omega, z3, rfl, RdZ_5 hq z5 z4 z8, ?_, fun j hj => ?_⟩
          · rw [hb, z1, if_neg (by omega)]
          · rw [tkM_c htx hd hq, hs, z6]; exact z7
          · rw [tkM_c htx hd hq]; exact upd_far _ _ _ (by omega)
        by_cases p0 : 0 < a0
        · rcases dg_cases (tx := tx) (ln := ln) (j := s + 1) with ⟨a1, ha1, hl4, hd1, hi1⟩ | h1
          · have b2 : bnM tx ln s = bnR tx ln s 1 (s + 2) := b1.trans (bnR_t ⟨hi1, Or.inr (by rw [hd0]; exact (pos_n (by omega)).mpr p0)⟩)
            rw [num_step hcd hq hl4 hv1 p0 (by omega) ha1 hd1]
            have hG2 : PG (gC G1 q (nI (a0 * 10 + a1))) (upd F (0 + q) (nI (a0 * 10 + a1))) := by
              have := PG_C hG1 hq (c := a0 * 10 + a1) (by omega)
              rw [upd_u] at this
              exact this
            have hv2 : ((((cd i, nI a0) : Int32 × Int32).1, nI (a0 * 10 + a1)) : Int32 × Int32).2 = nI (a0 * 10 + a1) := rfl
            have hn2 := nu_s hn1 hd1
            generalize gC G1 q (nI (a0 * 10 + a1)) = G2 at hG2 ⊢
            rcases dg_cases (tx := tx) (ln := ln) (j := s + 2) with ⟨a2, ha2, hl5, hd2, hi2⟩ | h2
            · have b3 : bnM tx ln s = s + 3 := b2.trans (bnR_t ⟨hi2, Or.inr (by rw [hd0]; exact (pos_n (by omega)).mpr p0)⟩)
              rw [num_step hcd hq hl5 hv2 (by omega) (by omega) ha2 hd2]
              have hG3 : PG (gC G2 q (nI ((a0 * 10 + a1) * 10 + a2))) (upd F (0 + q) (nI ((a0 * 10 + a1) * 10 + a2))) := by
                have := PG_C hG2 hq (c := (a0 * 10 + a1) * 10 + a2) (by omega)
                rw [upd_u] at this
                exact this
              have hn3 := nu_s hn2 hd2
              exact fin (s + 3) _ _ _ b3 (by omega) (by omega) (by omega) rfl (by rw [show s + 3 - s = 1 + 1 + 1 by omega]; exact hn3) hG3 (fun _ => Or.inr (Or.inl (by omega)))
            · have b3 : bnM tx ln s = s + 2 := b2.trans (bnR_f tx ln s 1 (s + 2) (fun h => by rw [h2] at h; cases h.1))
              exact fin (s + 2) _ _ _ b3 (by omega) (by omega) (by omega) hv2 (by rw [show s + 2 - s = 1 + 1 by omega]; exact hn2) hG2 (fun hz => Or.inr (Or.inr (by rw [dg_cd hcd hz]; exact h2)))
          · have b2 : bnM tx ln s = s + 1 := b1.trans (bnR_f tx ln s 2 (s + 1) (fun h => by rw [h1] at h; cases h.1))
            exact fin (s + 1) a0 G1 _ b2 (by omega) (by omega) (by omega) hv1 (by rw [show s + 1 - s = 1 by omega]; exact hn1) hG1 (fun hz => Or.inr (Or.inr (by rw [dg_cd hcd hz]; exact h1)))
        · have b2 : bnM tx ln s = s + 1 := b1.trans (bnR_f tx ln s 2 (s + 1) (fun h => by
            rcases h.2 with h | h
            · omega
            · rw [hd0] at h; exact p0 ((pos_n (by omega)).mp h)))
          exact fin (s + 1) a0 G1 _ b2 (by omega) (by omega) (by omega) hv1 (by rw [show s + 1 - s = 1 by omega]; exact hn1) hG1 (fun _ => Or.inl (by omega))
      · have b1 : bnM tx ln s = s := bnR_f tx ln s 3 s (fun h => by rw [h0] at h; cases h.1)
        rw [b1, if_pos rfl] at hb
        refine Or.inl ⟨s, by rw [hb, ← hs]; exact ng_e 3 i, ?_⟩
        by_cases hl3 : s < ln
        · refine RdE_no (f' := q) (G' := G) (pl' := 5) (kd' := (cd i, 0)) hl3 (by omega) hq hq ?_
          show tdF G 5 (cd i, 0) q (cd s - 48) = _
          rw [dg_cd hcd hl3, td_f h0]
        · exact RdE_stop (by omega) (by omega) hq
    · rw [if_neg (by rw [hc2]; exact h61)] at hb
      refine Or.inl ⟨i + 2, by rw [hb]; exact ng_e 2 i, ?_⟩
      refine RdE_no (f' := q) (G' := G) (pl' := 4) (kd' := (cd i, 0)) hl2 (by omega) hq hq ?_
      show (decide (cd (i + 2) = 61), G, (4 : Int32), ((cd i, 0) : Int32 × Int32), nI q) = _
      rw [decide_eq_false h61]
  · rw [ca_no hl2, if_neg (by decide)] at hb
    exact Or.inl ⟨i + 2, by rw [hb]; exact ng_e 2 i, RdE_stop (by omega) (by omega) hq⟩
theorem rd_part (hcd : ∀ i, i < ln → cd i = tx i) {G : Nat → Nat → Int32} {f i : Nat} {kd : Int32 × Int32} {F : Nat → Int32} (hi : i ≤ ln) (hf : f < 9) (hG : PG G F) : RdP cd tx ln i F (rdL cd ln (ln - i) i (G, 0, kd, nI f)) := by
  rcases rd_first hcd (G := G) (kd := kd) hi hf with h | ⟨q, hq, hl, hc, hd, hk, e, hx⟩
  · exact Or.inl h
  · rw [e]
    rcases (k0_iff _).mp hk with h | h | h | h | h
    · exact rd_c hcd hG hf hq hl hc hd hx h
    · exact rd_jx hcd hG hf hq hl hc hd hx (Or.inl h)
    · exact rd_se hcd hG hf hq hl hc hd hx (Or.inl h)
    · exact rd_se hcd hG hf hq hl hc hd hx (Or.inr h)
    · exact rd_jx hcd hG hf hq hl hc hd hx (Or.inr h)
/-- what both sides say of a text from place i on -/
def RdT (tx : Nat → Int32) (ln i : Nat) (F : Nat → Int32) (r : Int32 × QS) : Prop :=
  ((wrM tx ln i = -1 ∧ r.1 = nI ln ∧ (r.2.2.1 = 5 ∨ r.2.2.1 = 6) ∧ PG r.2.1 (ldM tx ln i F) ∧ ∀ j, 45 ≤ j → ldM tx ln i F j = F j) ∨
   ∃ e, e ≤ ln ∧ wrM tx ln i = nI e ∧ r.1 = nI e ∧ (e = ln → ¬ (r.2.2.1 = 5 ∨ r.2.2.1 = 6))) ∧ ∃ f, f < 9 ∧ r.2.2.2.2 = nI f
theorem rd_all (hcd : ∀ i, i < ln → cd i = tx i) (hln : ln ≤ 60) : ∀ (n i : Nat) (G : Nat → Nat → Int32) (f : Nat) (kd : Int32 × Int32) (F : Nat → Int32), ln - i < n → i ≤ ln → f < 9 → PG G F → RdT tx ln i F (rdL cd ln (ln - i) i (G, 0, kd, nI f))
  | 0, _, _, _, _, _, h, _, _, _ => by omega
  | n + 1, i, G, f, kd, F, hn, hi, hf, hG => by
    rcases rd_part hcd (kd := kd) hi hf hG with ⟨e, e1, e2, e3, e4, e5⟩ | ⟨z, G', pl', kd', f', z1, z2, z3, z4, ⟨y1, y2, y3, y4⟩, z6, z7⟩
    · have e0 : bpM tx ln i < 0 := by
        rw [e1, Int32.lt_iff_toInt_lt, Int32.toInt_sub, nI_toInt (by omega), show (-1 : Int32).toInt = -1 by decide +kernel, show (0 : Int32).toInt = 0 by decide +kernel, Int.bmod_eq_of_le (by omega) (by omega)]
        omega
      refine ⟨Or.inr ⟨e, e3, ?_, e2, e4⟩, e5⟩
      rw [wrM_0 e0, e1, Int32.sub_eq_add_neg, Int32.sub_eq_add_neg, Int32.neg_add, Int32.neg_neg, Int32.sub_eq_add_neg, Int32.neg_neg, ← Int32.add_assoc, show (-1 : Int32) + 1 = 0 by decide +kernel, Int32.zero_add]
    · have hz31 : z < 2 ^ 31 := by omega
      by_cases hzl : z < ln
      · by_cases h59 : cd z = 59
        · have e1 : rdL cd ln (ln - z) z (G', nI pl', kd', nI f') = rdL cd ln (ln - (z + 1)) (z + 1) (G', 0, kd', nI f') := rd_go hzl (by omega) y2 (by rw [h59]; exact y4)
          have ih := rd_all hcd hln n (z + 1) G' f' kd' (tkM tx ln i z F) (by omega) (by omega) y2 z6
          rw [z4, e1]
          unfold RdT at ih ⊢
          rw [wrM_1 hz31 z1 (by omega) hzl (by rw [← hcd z hzl]; exact h59), ldM_s F hz31 z1 (by omega) (by omega)]
          refine ⟨ih.1.imp (fun ⟨a, b, c, d, g⟩ => ⟨a, b, c, d, fun j hj => (g j hj).trans (z7 j hj)⟩) (fun h => h), ih.2⟩
        · obtain ⟨G2, pl2, kd2, e⟩ := y3 hzl h59
          rw [z4, rd_no hzl (by omega) y2 e]
          exact ⟨Or.inr ⟨z, z3, wrM_2 hz31 z1 (by omega) hzl (fun h => h59 (by rw [hcd z hzl]; exact h)), rfl, fun h => by omega⟩, f', y2, rfl⟩
      · have e0 : z = ln := by omega
        subst e0
        rw [z4, rd_end]
        refine ⟨Or.inl ⟨wrM_3 hz31 z1 (by omega), rfl, ?_, ?_, fun j hj => ?_⟩, f', y2, rfl⟩
        · rcases y1 with h | h
          · subst h; exact Or.inl rfl
          · subst h; exact Or.inr rfl
        · rw [ldM_s F hz31 z1 (by omega) (by omega), ldM_e _ (by omega)]; exact z6
        · rw [ldM_s F hz31 z1 (by omega) (by omega), ldM_e _ (by omega)]; exact z7 j hj
/-- an empty graph -/
theorem PG_0 (G : Nat → Nat → Int32) (f : Nat → Int32) : PG (clS G) (bkF f (fun _ => 0) 0 45) := by
  have e : ∀ j, j < 45 → bkF f (fun _ => 0) 0 45 j = 0 := fun j hj => if_pos (by omega)
  refine ⟨fun q hq => ?_, fun q hq => ?_⟩
  · rw [e _ (by omega), e _ (by omega), e _ (by omega)]
    exact ⟨⟨rfl, rfl, rfl⟩, ⟨0, by omega, nI_0.symm⟩, ⟨0, by omega, nI_0.symm, fun x _ h => by rw [Nat.zero_testBit] at h; cases h⟩, 0, by omega, nI_0.symm⟩
  · rw [e _ (by omega)]
    exact ⟨rfl, 0, by omega, nI_0.symm⟩
/-- THE TEXT: what is read, on both sides -/
theorem read_eq (hcd : ∀ i, i < ln → cd i = tx i) (hln : ln ≤ 60) {f : Nat} (hf : f < 9) (G : Nat → Nat → Int32) (kd : Int32 × Int32) (F : Nat → Int32) : RdT tx ln 0 (bkF F (fun _ => 0) 0 45) (rdF cd ln G kd (nI f)) := by
  have h := rd_all hcd hln (ln + 1) 0 (clS G) f kd (bkF F (fun _ => 0) 0 45) (by omega) (by omega) hf (PG_0 G F)
  rw [Nat.sub_zero] at h
  exact h
theorem first_eq (hcd : ∀ i, i < ln → cd i = tx i) (hln : ln ≤ 60) {f : Nat} (hf : f < 9) (G : Nat → Nat → Int32) (kd : Int32 × Int32) : (rdF cd ln G kd (nI f)).1 = feM tx ln ∧ ∃ f', f' < 9 ∧ (rdF cd ln G kd (nI f)).2.2.2.2 = nI f' := by
  obtain ⟨h1, h2⟩ := read_eq hcd hln hf G kd (fun _ => 0)
  refine ⟨?_, h2⟩
  unfold feM
  rcases h1 with ⟨a, b, -⟩ | ⟨e, e1, e2, e3, -⟩
  · rw [if_pos a]; exact b
  · rw [e2, if_neg (nI_m1 (by omega))]; exact e3
end PARSE3
