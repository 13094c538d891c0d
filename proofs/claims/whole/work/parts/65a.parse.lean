/-! MATH 10: a text read, as both sides read it -/
def PG (G : Nat → Nat → Int32) (f : Nat → Int32) : Prop := GrOK G f ∧ CvOK G f
theorem PG_C {G : Nat → Nat → Int32} {f : Nat → Int32} (h : PG G f) {q c : Nat} (hq : q < 9) (hc : c ≤ 999) : PG (gC G q (nI c)) (upd f (0 + q) (nI c)) := by
  obtain ⟨h1, h2⟩ := h
  refine ⟨h1.cong (fun j a b => upd_far f _ _ (by omega)) (fun i x a b _ => ?_), fun x hx => ?_⟩
  · rcases (show i = 1 ∨ i = 2 ∨ i = 3 by omega) with rfl | rfl | rfl <;> rfl
  · show upd (G 0) q (nI c) x = _ ∧ _
    by_cases e : x = q
    · subst e
      rw [upd_e, upd_e]
      exact ⟨rfl, c, hc, rfl⟩
    · rw [upd_n _ _ e, upd_n _ _ (show 0 + x ≠ 0 + q by omega)]
      exact h2 x hx
theorem PG_M {G : Nat → Nat → Int32} {f : Nat → Int32} (h : PG G f) {q w : Nat} (hq : q < 9) (hw : w < 4) : PG (gM G q (nI w)) (upd f (18 + q) (nI w)) := by
  obtain ⟨h1, h2⟩ := h
  refine ⟨fun x hx => ?_, fun x hx => ?_⟩
  · obtain ⟨⟨g1, g2, g3⟩, gk, gj, gb⟩ := h1 x hx
    rw [upd_far f (18 + q) _ (show 27 + x ≠ 18 + q by omega), upd_far f (18 + q) _ (show 36 + x ≠ 18 + q by omega)]
    show (upd (G 1) q (nI w) x = _ ∧ _) ∧ _
    by_cases e : x = q
    · subst e
      rw [upd_e, upd_e]
      exact ⟨⟨rfl, g2, g3⟩, ⟨w, hw, rfl⟩, gj, gb⟩
    · rw [upd_n _ _ e, upd_n _ _ (show 18 + x ≠ 18 + q by omega)]
      exact ⟨⟨g1, g2, g3⟩, gk, gj, gb⟩
  · rw [upd_far f _ _ (show 0 + x ≠ 18 + q by omega)]; exact h2 x hx
theorem PG_J {G : Nat → Nat → Int32} {f : Nat → Int32} (h : PG G f) {q j : Nat} (hq : q < 9) (hj : j < 512) (hj2 : ∀ y, y < 9 → j.testBit y = true → q < y) : PG (gJ G q (nI j)) (upd f (27 + q) (nI j)) := by
  obtain ⟨h1, h2⟩ := h
  refine ⟨fun x hx => ?_, fun x hx => ?_⟩
  · obtain ⟨⟨g1, g2, g3⟩, gk, gj, gb⟩ := h1 x hx
    rw [upd_far f (27 + q) _ (show 18 + x ≠ 27 + q by omega), upd_far f (27 + q) _ (show 36 + x ≠ 27 + q by omega)]
    show (_ ∧ upd (G 2) q _ x = _ ∧ _) ∧ _
    by_cases e : x = q
    · subst e
      rw [upd_e, upd_e]
      exact ⟨⟨g1, rfl, g3⟩, gk, ⟨j, hj, rfl, hj2⟩, gb⟩
    · rw [upd_n _ _ e, upd_n _ _ (show 27 + x ≠ 27 + q by omega)]
      exact ⟨⟨g1, g2, g3⟩, gk, gj, gb⟩
  · rw [upd_far f _ _ (show 0 + x ≠ 27 + q by omega)]; exact h2 x hx
theorem PG_B {G : Nat → Nat → Int32} {f : Nat → Int32} (h : PG G f) {q b : Nat} (hq : q < 9) (hb : b < 512) : PG (gB G q (nI b)) (upd f (36 + q) (nI b)) := by
  obtain ⟨h1, h2⟩ := h
  refine ⟨fun x hx => ?_, fun x hx => ?_⟩
  · obtain ⟨⟨g1, g2, g3⟩, gk, gj, gb⟩ := h1 x hx
    rw [upd_far f (36 + q) _ (show 18 + x ≠ 36 + q by omega), upd_far f (36 + q) _ (show 27 + x ≠ 36 + q by omega)]
    show (_ ∧ _ ∧ upd (G 3) q _ x = _) ∧ _
    by_cases e : x = q
    · subst e
      rw [upd_e, upd_e]
      exact ⟨⟨g1, g2, rfl⟩, gk, gj, b, hb, rfl⟩
    · rw [upd_n _ _ e, upd_n _ _ (show 36 + x ≠ 36 + q by omega)]
      exact ⟨⟨g1, g2, g3⟩, gk, gj, gb⟩
  · rw [upd_far f _ _ (show 0 + x ≠ 36 + q by omega)]; exact h2 x hx
theorem pc_in (x : Int32) : pcB x = inB x 0 8 := by
  rw [Bool.eq_iff_iff]
  constructor
  · intro h
    obtain ⟨j, hj, rfl⟩ := pcB_ex h
    exact inB_n (a := 0) (b := 8) (Nat.zero_le _) (by omega) (by omega)
  · intro h
    obtain ⟨j, hj, rfl⟩ := inB_ex (b := 8) (by omega) h
    exact pcB_t (by omega)
/-- the error's place out of a part's -/
theorem ng_e (a i : Nat) : -(nI (a + 1)) - nI i = -1 - nI (i + a) := by
  have e : nI (a + 1) = 1 + nI a := by rw [show (1 : Int32) = nI 1 from rfl, nI_add, Nat.add_comm]
  rw [e, ← nI_add, Int32.neg_add]
  generalize nI a = x
  generalize nI i = y
  have h : -(y + x) = -y + -x := by rw [Int32.neg_add, Int32.sub_eq_add_neg]
  simp only [Int32.sub_eq_add_neg, h]
  rw [Int32.add_assoc, Int32.add_comm (-x) (-y)]
section PARSE
variable {cd tx : Nat → Int32} {ln : Nat}
theorem rd_step {G : Nat → Nat → Int32} {pl f i : Nat} {kd : Int32 × Int32} (hi : i < ln) (hp : pl < 7) (hf : f < 9) : rdL cd ln (ln - i) i (G, nI pl, kd, nI f) = if (tkF G pl kd f (cd i)).1 = true then rdL cd ln (ln - (i + 1)) (i + 1) (tkF G pl kd f (cd i)).2 else (nI i, (tkF G pl kd f (cd i)).2) := by
  rw [rdL_s cd ln (by omega), tkQ_n G kd (cd i) hp hf]
theorem rd_end (q : QS) : rdL cd ln (ln - ln) ln q = (nI ln, q) := by rw [Nat.sub_self, rdL]
theorem rd_go {G G' : Nat → Nat → Int32} {pl f i : Nat} {kd kd' : Int32 × Int32} {pl' f' : Int32} (hi : i < ln) (hp : pl < 7) (hf : f < 9) (h : tkF G pl kd f (cd i) = (true, G', pl', kd', f')) : rdL cd ln (ln - i) i (G, nI pl, kd, nI f) = rdL cd ln (ln - (i + 1)) (i + 1) (G', pl', kd', f') := by
  rw [rd_step hi hp hf, h, if_pos rfl]
theorem rd_no {G G' : Nat → Nat → Int32} {pl f i : Nat} {kd kd' : Int32 × Int32} {pl' f' : Int32} (hi : i < ln) (hp : pl < 7) (hf : f < 9) (h : tkF G pl kd f (cd i) = (false, G', pl', kd', f')) : rdL cd ln (ln - i) i (G, nI pl, kd, nI f) = (nI i, G', pl', kd', f') := by
  rw [rd_step hi hp hf, h, if_neg Bool.false_ne_true]
theorem dg_cd (hcd : ∀ i, i < ln → cd i = tx i) {i : Nat} (hi : i < ln) : cd i - 48 = dgM tx ln i := by rw [hcd i hi, dgM, caM, if_pos hi]
theorem ca_cd (hcd : ∀ i, i < ln → cd i = tx i) {i : Nat} (hi : i < ln) : caM tx ln i = cd i := by rw [caM, if_pos hi, hcd i hi]
theorem ca_no {i : Nat} (hi : ¬ i < ln) : caM tx ln i = 0 := by rw [caM, if_neg hi]
/-- what is told of a reading that ends with an error -/
def RdE (ln e : Nat) (r : Int32 × QS) : Prop := r.1 = nI e ∧ e ≤ ln ∧ (e = ln → ¬ (r.2.2.1 = 5 ∨ r.2.2.1 = 6)) ∧ ∃ f, f < 9 ∧ r.2.2.2.2 = nI f
theorem RdE_stop {G : Nat → Nat → Int32} {pl f i : Nat} {kd : Int32 × Int32} (hi : i = ln) (hp : pl < 5) (hf : f < 9) : RdE ln i (rdL cd ln (ln - i) i (G, nI pl, kd, nI f)) := by
  subst hi
  rw [rd_end]
  refine ⟨rfl, Nat.le_refl _, fun _ h => ?_, f, hf, rfl⟩
  rcases h with h | h
  · have := nI_inj (a := pl) (b := 5) (by omega) (by omega) h; omega
  · have := nI_inj (a := pl) (b := 6) (by omega) (by omega) h; omega
theorem RdE_no {G G' : Nat → Nat → Int32} {pl f f' i : Nat} {kd kd' : Int32 × Int32} {pl' : Int32} (hi : i < ln) (hp : pl < 7) (hf : f < 9) (hf' : f' < 9) (h : tkF G pl kd f (cd i) = (false, G', pl', kd', nI f')) : RdE ln i (rdL cd ln (ln - i) i (G, nI pl, kd, nI f)) := by
  rw [rd_no hi hp hf h]
  exact ⟨rfl, by omega, fun e => by omega, f', hf', rfl⟩
theorem k0_iff (x : Int32) : k0B x = true ↔ x = 99 ∨ x = 106 ∨ x = 115 ∨ x = 101 ∨ x = 120 := decide_eq_true_iff
/-- the first character and the first piece -/
theorem rd_first (hcd : ∀ i, i < ln → cd i = tx i) {G : Nat → Nat → Int32} {f i : Nat} {kd : Int32 × Int32} (hi : i ≤ ln) (hf : f < 9) :
    (∃ e, bpM tx ln i = -1 - nI e ∧ RdE ln e (rdL cd ln (ln - i) i (G, 0, kd, nI f))) ∨
    (∃ q, q < 9 ∧ i + 1 < ln ∧ cd i = caM tx ln i ∧ dgM tx ln (i + 1) = nI q ∧ k0B (cd i) = true ∧ rdL cd ln (ln - i) i (G, 0, kd, nI f) = rdL cd ln (ln - (i + 1)) (i + 1) (G, nI 1, (cd i, kd.2), nI f) ∧ cd (i + 1) - 48 = nI q) := by
  have z0 : (0 : Int32) = nI 0 := nI_0.symm
  by_cases hl : i < ln
  · by_cases hk : k0B (cd i) = true
    · have e1 : rdL cd ln (ln - i) i (G, 0, kd, nI f) = rdL cd ln (ln - (i + 1)) (i + 1) (G, nI 1, (cd i, kd.2), nI f) := by
        rw [z0, rd_go (pl' := 1) (kd' := (cd i, kd.2)) (f' := nI f) (G' := G) hl (by omega) hf (by show (k0B (cd i), G, (1 : Int32), (cd i, kd.2), nI f) = _; rw [hk])]
        rfl
      have bad : inB (dgM tx ln (i + 1)) 0 8 = false → bpM tx ln i = -1 - nI (i + 1) := by
        intro h8
        have h7 : ¬ inB (dgM tx ln (i + 1)) 0 7 = true := fun h7 => by
          obtain ⟨j, hj, ej⟩ := inB_ex (b := 7) (by omega) h7
          rw [ej] at h8
          have := inB_n (q := j) (a := 0) (b := 8) (Nat.zero_le _) (by omega) (by omega)
          rw [show (nI 0 : Int32) = 0 from nI_0] at this
          rw [show inB (nI j) 0 8 = true from this] at h8
          cases h8
        have h8' : ¬ inB (dgM tx ln (i + 1)) 0 8 = true := by rw [h8]; decide
        have e2 : (-2 : Int32) - nI i = -1 - nI (i + 1) := ng_e 1 i
        unfold bpM
        by_cases c1 : caM tx ln i = 115 ∨ caM tx ln i = 101
        · rw [if_pos c1, if_neg h8', e2]
        · rw [if_neg c1]
          by_cases c2 : caM tx ln i = 106 ∨ caM tx ln i = 120
          · rw [if_pos c2, if_neg h7, e2]
          · rw [if_neg c2]
            have c3 : caM tx ln i = 99 := by
              have := (k0_iff _).mp hk
              rw [← ca_cd hcd hl] at this
              rcases this with h | h | h | h | h
              · exact h
              · exact absurd (Or.inl h) c2
              · exact absurd (Or.inl h) c1
              · exact absurd (Or.inr h) c1
              · exact absurd (Or.inr h) c2
            rw [if_pos c3, if_neg h8', e2]
      by_cases hl1 : i + 1 < ln
      · have hd := dg_cd hcd hl1
        cases h8 : inB (dgM tx ln (i + 1)) 0 8
        · refine Or.inl ⟨i + 1, bad h8, ?_⟩
          rw [e1]
          have hpc : pcB (cd (i + 1) - 48) = false := by rw [pc_in, hd]; exact h8
          exact RdE_no (f' := f) (G' := G) (pl' := 1) (kd' := (cd i, kd.2)) hl1 (by omega) hf hf (by show tfF G 1 (cd i, kd.2) (nI f) (cd (i + 1) - 48) = _; unfold tfF; rw [if_pos hpc])
        · obtain ⟨q, hq, eq⟩ := inB_ex (b := 8) (by omega) h8
          exact Or.inr ⟨q, by omega, hl1, (ca_cd hcd hl).symm, eq, hk, e1, hd.trans eq⟩
      · refine Or.inl ⟨i + 1, bad (by rw [dg_out hl1]; decide +kernel), ?_⟩
        rw [e1]
        exact RdE_stop (by omega) (by omega) hf
    · refine Or.inl ⟨i, ?_, ?_⟩
      · have hn : ¬ (caM tx ln i = 99 ∨ caM tx ln i = 106 ∨ caM tx ln i = 115 ∨ caM tx ln i = 101 ∨ caM tx ln i = 120) := by
          rw [ca_cd hcd hl]
          exact fun h => hk ((k0_iff _).mpr h)
        unfold bpM
        rw [if_neg (fun h => hn (h.elim (fun h => Or.inr (Or.inr (Or.inl h))) (fun h => Or.inr (Or.inr (Or.inr (Or.inl h)))))), if_neg (fun h => hn (h.elim (fun h => Or.inr (Or.inl h)) (fun h => Or.inr (Or.inr (Or.inr (Or.inr h)))))), if_neg (fun h => hn (Or.inl h))]
      · rw [z0]
        exact RdE_no (f' := f) (G' := G) (pl' := 1) (kd' := (cd i, kd.2)) hl (by omega) hf hf (by
          show (k0B (cd i), G, (1 : Int32), (cd i, kd.2), nI f) = _
          have : k0B (cd i) = false := by cases h : k0B (cd i); rfl; exact absurd h hk
          rw [this])
  · refine Or.inl ⟨i, ?_, ?_⟩
    · unfold bpM
      rw [ca_no hl, if_neg (by decide +kernel), if_neg (by decide +kernel), if_neg (by decide +kernel)]
    · rw [z0]
      exact RdE_stop (by omega) (by omega) hf
end PARSE
