/-! MATH 9: steps of splitting -/
theorem wm_le (f : Nat → Int32) {m : Nat} (hm : m < 512) : ∀ i, i ≤ 9 → ∀ j, j < i → m.testBit j = true → wmF f (nI m) i ≤ f (9 + j)
  | 0, _, j, hj, _ => absurd hj (Nat.not_lt_zero _)
  | i + 1, h, j, hj, hb => by
    rw [wmF]
    by_cases c : bitv (nI m) (nI i) = 1
    · rw [if_pos c]
      by_cases e : j = i
      · subst e
        split
        · next h2 => exact h2
        · exact Int32.le_refl _
      · have h2 := wm_le f hm i (by omega) j (by omega) hb
        split
        · exact h2
        · next h3 =>
          have h4 := Int32.lt_iff_toInt_lt.mp (Int32.not_le.mp h3)
          have h5 := Int32.le_iff_toInt_le.mp h2
          exact Int32.le_iff_toInt_le.mpr (by omega)
    · rw [if_neg c]
      have e : j ≠ i := fun e => c ((bv_t hm (by omega)).mpr (e ▸ hb))
      exact wm_le f hm i (by omega) j (by omega) hb
theorem nI_subn {a b : Nat} (h : b ≤ a) : nI a - nI b = nI (a - b) := by
  have h1 := nI_add (a - b) b
  rw [show a - b + b = a by omega] at h1
  rw [← h1, Int32.add_sub_cancel]
theorem SR_refuse {S : Nat → Nat → Int32} {f : Nat → Int32} (h : SR S f) : SR (rfS S) (upd f 71 (f 71 + 1)) := by
  obtain ⟨⟨a1, a2, a3, a4⟩, b, c, nw, d1, d2, d3, d4⟩ := h
  refine ⟨⟨a1.cong (fun j x y => upd_far f _ _ (by omega)) (fun i x a b _ => ?_), fun q hq => ?_, ?_, ?_⟩, fun q hq => ?_, fun q hq => ?_, nw, d1, d2, ?_, fun r hr => ?_⟩
  · rcases (show i = 1 ∨ i = 2 ∨ i = 3 by omega) with rfl | rfl | rfl <;> rfl
  · rw [upd_far f _ _ (show 0 + q ≠ 71 by omega)]; exact a2 q hq
  · rw [upd_far f _ _ (by omega)]; exact a3
  · rw [upd_e, ← a4]; rfl
  · rw [upd_far f _ _ (show 9 + q ≠ 71 by omega)]; exact b q hq
  · rw [upd_far f _ _ (show 0 + q ≠ 71 by omega), upd_far f _ _ (show 9 + q ≠ 71 by omega)]; exact c q hq
  · rw [upd_far f _ _ (by omega)]; exact d3
  · rw [upd_far f _ _ (show 46 + 2 * r ≠ 71 by omega), upd_far f _ _ (show 46 + 2 * r + 1 ≠ 71 by omega)]; exact d4 r hr
theorem stN_far (f : Nat → Int32) (x w : Int32) (nw : Nat) {j : Nat} (h1 : j < 9 ∨ 18 ≤ j) (h2 : j ≠ 46 + 2 * nw) (h3 : j ≠ 46 + 2 * nw + 1) (h4 : j ≠ 45) (h5 : j ≠ 70) : stN f x w nw j = f j := by
  unfold stN
  rw [upd_n _ _ h5, upd_n _ _ h4, upd_n _ _ h3, upd_n _ _ h2, rdM_out _ _ _ (by omega)]
theorem stN_rs (f : Nat → Int32) (x w : Int32) (nw : Nat) {q : Nat} (hq : q < 9) : stN f x w nw (9 + q) = f (9 + q) - (if bitv x (nI q) = 1 then w else 0) := by
  unfold stN
  rw [upd_n _ _ (by omega), upd_n _ _ (by omega), upd_n _ _ (by omega), upd_n _ _ (by omega)]
  unfold rdM
  rw [if_pos (by omega), show 9 + q - 9 = q by omega]
theorem SR_take {S : Nat → Nat → Int32} {f : Nat → Int32} (h : SR S f) {nw m w : Nat} (hnw : NtOK S f nw) (hn : nw < 12) (hm : m < 512) (hw : wmF f (nI m) 9 = nI w) (hw2 : w ≤ 999) : SR (tkS S (nI m) (nI w) nw) (stN f (nI m) (nI w) nw) := by
  obtain ⟨⟨a1, a2, a3, a4⟩, b, c, -⟩ := h
  obtain ⟨d1, d2, d3, d4⟩ := hnw
  have rest : ∀ q, q < 9 → ∃ c r, r ≤ c ∧ c ≤ 999 ∧ f (0 + q) = nI c ∧ f (9 + q) - (if bitv (nI m) (nI q) = 1 then nI w else 0) = nI r := fun q hq => by
    obtain ⟨c0, r0, e1, e2, e3, e4⟩ := c q hq
    by_cases cb : bitv (nI m) (nI q) = 1
    · rw [if_pos cb, e4]
      have hle := wm_le f hm 9 (Nat.le_refl _) q hq ((bv_t hm hq).mp cb)
      rw [hw, e4] at hle
      have hle2 := (nI_leI (by omega) (by omega)).mp hle
      rw [nI_subn hle2]
      exact ⟨c0, r0 - w, by omega, e2, e3, rfl⟩
    · rw [if_neg cb, e4]
      refine ⟨c0, r0, e1, e2, e3, ?_⟩
      rw [show (0 : Int32) = nI 0 from nI_0.symm, nI_subn (Nat.zero_le _)]
      rfl
  refine ⟨⟨a1.cong (fun j x y => stN_far f _ _ _ (by omega) (by omega) (by omega) (by omega) (by omega)) (fun i x a b _ => ?_), fun q hq => ?_, ?_, ?_⟩, fun q hq => ?_, fun q hq => ?_, nw + 1, by omega, ?_, ?_, fun r hr => ?_⟩
  · rcases (show i = 1 ∨ i = 2 ∨ i = 3 by omega) with rfl | rfl | rfl <;> rfl
  · rw [stN_far f _ _ _ (by omega) (by omega) (by omega) (by omega) (by omega)]; exact a2 q hq
  · show S 7 1 + 1 = stN f (nI m) (nI w) nw 70
    unfold stN
    rw [upd_e, a3]
  · rw [stN_far f _ _ _ (by omega) (by omega) (by omega) (by omega) (by omega)]; exact a4
  · rw [stN_rs f _ _ _ hq]
    show twF (S 4) (nI m) (nI w) 9 q = _
    unfold twF
    rw [b q hq]
    by_cases cb : bitv (nI m) (nI q) = 1
    · rw [if_pos ⟨hq, cb⟩, if_pos cb]
    · rw [if_neg (fun z => cb z.2), if_neg cb]
      obtain ⟨c0, r0, e1, e2, e3, e4⟩ := c q hq
      rw [e4, show (0 : Int32) = nI 0 from nI_0.symm, nI_subn (Nat.zero_le _)]
      rfl
  · rw [stN_rs f _ _ _ hq, stN_far f _ _ _ (show 0 + q < 9 ∨ 18 ≤ 0 + q by omega) (by omega) (by omega) (by omega) (by omega)]
    exact rest q hq
  · show S 7 0 + 1 = nI (nw + 1)
    rw [d2, nI_1]
  · unfold stN
    rw [upd_n _ _ (by omega), upd_e]
  · show upd (S 5) nw (nI w) r = _ ∧ upd (S 6) nw (nI m) r = _ ∧ _
    by_cases e : r = nw
    · subst e
      have e1 : stN f (nI m) (nI w) r (46 + 2 * r) = nI w := by
        unfold stN
        rw [upd_n _ _ (by omega), upd_n _ _ (by omega), upd_n _ _ (by omega), upd_e]
      have e2 : stN f (nI m) (nI w) r (46 + 2 * r + 1) = nI m := by
        unfold stN
        rw [upd_n _ _ (by omega), upd_n _ _ (by omega), upd_e]
      rw [upd_e, upd_e, e1, e2]
      exact ⟨rfl, rfl, m, hm, rfl⟩
    · rw [upd_n _ _ e, upd_n _ _ e, stN_far f _ _ _ (by omega) (by omega) (by omega) (by omega) (by omega), stN_far f _ _ _ (show 46 + 2 * r + 1 < 9 ∨ 18 ≤ 46 + 2 * r + 1 by omega) (by omega) (by omega) (by omega) (by omega)]
      exact d4 r (by omega)
theorem stM_far (f : Nat → Int32) {nw : Nat} (hn : nw ≤ 12) {j : Nat} (h1 : 18 ≤ j) (h2 : j < 45) : (stM f nw).2 j = f j := by
  rw [stM_eq]
  generalize hwM f 511 = u
  generalize swX f u nw = w
  by_cases c : w = 0
  · rw [if_pos c]; exact upd_far f _ _ (by omega)
  · rw [if_neg c]; exact stN_far f _ _ _ (by omega) (by omega) (by omega) (by omega) (by omega)
theorem step_cases {S V : Nat → Nat → Int32} {f op : Nat → Int32} (h : SR S f) (hV : GrOK V f) {nw : Nat} (hn : nw ≤ 12) :
    (thF S (hvA (S 4) (apL op 0 (opnL V)) (opnL V).length).2 nw = (0, rfS S) ∧ stM f nw = (0, upd f 71 (f 71 + 1))) ∨
    ∃ m w, m < 512 ∧ w ≤ 999 ∧ nw < 12 ∧ wmF f (nI m) 9 = nI w ∧ thF S (hvA (S 4) (apL op 0 (opnL V)) (opnL V).length).2 nw = (nI w, tkS S (nI m) (nI w) nw) ∧ stM f nw = (nI w, stN f (nI m) (nI w) nw) := by
  have hz : (0 : Int32) ≤ 0 := Int32.le_refl 0
  have hh := heavy_eq (op := op) hV h.rs
  generalize hvA (S 4) (apL op 0 (opnL V)) (opnL V).length = a at hh ⊢
  have es := stM_eq f nw
  generalize hwM f 511 = u at hh es
  have em : swX f u nw = if u = 0 then 0 else if nw = 12 then 0 else wmF f u 9 := rfl
  generalize swX f u nw = sw at em es
  rcases hh with ⟨e1, e2⟩ | ⟨m, w, h1, h2, h3, e1, e2, e3⟩
  · subst e2
    rw [if_pos rfl] at em
    rw [em, if_pos rfl] at es
    refine Or.inl ⟨?_, es⟩
    have ex : hwW S (-1) = 0 := if_pos rfl
    rw [e1]
    unfold thF
    show (if hwW S (-1) ≤ 0 then _ else _) = _
    rw [ex, if_pos hz]
  · subst e2
    obtain ⟨w2, hw2, g1, g2⟩ := wt_eq h.rs h1 h2
    have ew : w2 = w := (nI_eq (by omega) (by omega)).mp (g2.symm.trans e3)
    subst ew
    have ex : hwW S (nI m) = nI w2 := by unfold hwW; rw [if_neg (nI_m1 h2), g1]
    rw [if_neg (nI_ne0 (by omega) (by omega)), e3] at em
    rw [e1]
    show (thF S (nI m) nw = _ ∧ _) ∨ ∃ m' w', _ ∧ _ ∧ _ ∧ _ ∧ thF S (nI m) nw = _ ∧ _
    have et : thF S (nI m) nw = if nI w2 ≤ 0 then (0, rfS S) else if nw < 12 then (nI w2, tkS S (nI m) (nI w2) nw) else (0, rfS S) := by
      unfold thF
      rw [ex]
    by_cases c : nw = 12
    · rw [if_pos c] at em
      rw [em, if_pos rfl] at es
      refine Or.inl ⟨?_, es⟩
      rw [et]
      by_cases z : nI w2 ≤ 0
      · rw [if_pos z]
      · rw [if_neg z, if_neg (by omega)]
    · rw [if_neg c] at em
      by_cases z : w2 = 0
      · subst z
        rw [nI_0] at em et
        rw [em, if_pos rfl] at es
        rw [if_pos hz] at et
        exact Or.inl ⟨et, es⟩
      · rw [em, if_neg (nI_ne0 (by omega) (by omega))] at es
        rw [if_neg (nI_nle (by omega) (by omega)), if_pos (by omega)] at et
        exact Or.inr ⟨m, w2, h2, h3, by omega, e3, et, es⟩
theorem SR_step {S V : Nat → Nat → Int32} {f op : Nat → Int32} (h : SR S f) (hV : GrOK V f) {nw : Nat} (hnw : NtOK S f nw) :
    (thF S (hvA (S 4) (apL op 0 (opnL V)) (opnL V).length).2 nw).1 = (stM f nw).1 ∧ SR (thF S (hvA (S 4) (apL op 0 (opnL V)) (opnL V).length).2 nw).2 (stM f nw).2 ∧ GrOK V (stM f nw).2 := by
  have hg : GrOK V (stM f nw).2 := hV.cong (fun j a b => stM_far f hnw.1 a b) (fun _ _ _ _ _ => rfl)
  rcases step_cases (op := op) h hV hnw.1 with ⟨e1, e2⟩ | ⟨m, w, h1, h2, h3, e3, e1, e2⟩
  · refine ⟨?_, ?_, hg⟩
    · rw [e1, e2]
    · rw [e1, e2]
      exact SR_refuse h
  · refine ⟨?_, ?_, hg⟩
    · rw [e1, e2]
    · rw [e1, e2]
      exact SR_take h hnw h3 h1 e3 h2
theorem tst_em {f : Nat → Int32} {nw t md : Nat} (e2 : (f 45).toNatClampNeg = nw) : spM (t + 1) md f = if 0 < (stM f nw).1 then spM t (md + 1) (stM f nw).2 else (md, (stM f nw).2) := by rw [spM, e2]
theorem tst_ex {S V : Nat → Nat → Int32} {op : Nat → Int32} {nw t md : Nat} (e1 : (S 7 0).toNatClampNeg = nw) : taF (apL op 0 (opnL V)) (opnL V).length (t + 1) md S = if 0 < (thF S (hvA (S 4) (apL op 0 (opnL V)) (opnL V).length).2 nw).1 then taF (apL op 0 (opnL V)) (opnL V).length t (md + 1) (thF S (hvA (S 4) (apL op 0 (opnL V)) (opnL V).length).2 nw).2 else (md, (thF S (hvA (S 4) (apL op 0 (opnL V)) (opnL V).length).2 nw).2) := by rw [taF, e1]
theorem tst_z {S V : Nat → Nat → Int32} {f op : Nat → Int32} {md : Nat} (h : SR S f) : (taF (apL op 0 (opnL V)) (opnL V).length 0 md S).1 = (spM 0 md f).1 ∧ SR (taF (apL op 0 (opnL V)) (opnL V).length 0 md S).2 (spM 0 md f).2 := ⟨rfl, h⟩
theorem tst_s {V : Nat → Nat → Int32} {A : Nat → Int32} {n t md : Nat} {Q : Int32 × (Nat → Nat → Int32)} {P : Int32 × (Nat → Int32)} (ih : ∀ (md : Nat) (S : Nat → Nat → Int32) (f : Nat → Int32), SR S f → GrOK V f → (taF A n t md S).1 = (spM t md f).1 ∧ SR (taF A n t md S).2 (spM t md f).2) (s1 : Q.1 = P.1) (s2 : SR Q.2 P.2) (s3 : GrOK V P.2) :
    (if 0 < Q.1 then taF A n t (md + 1) Q.2 else (md, Q.2)).1 = (if 0 < P.1 then spM t (md + 1) P.2 else (md, P.2)).1 ∧ SR (if 0 < Q.1 then taF A n t (md + 1) Q.2 else (md, Q.2)).2 (if 0 < P.1 then spM t (md + 1) P.2 else (md, P.2)).2 := by
  rw [s1]
  by_cases c : 0 < P.1
  · rw [if_pos c, if_pos c]
    exact ih (md + 1) _ _ s2 s3
  · rw [if_neg c, if_neg c]
    exact ⟨rfl, s2⟩
theorem SR_split {V : Nat → Nat → Int32} {op : Nat → Int32} (t : Nat) : ∀ (md : Nat) (S : Nat → Nat → Int32) (f : Nat → Int32), SR S f → GrOK V f →
    (taF (apL op 0 (opnL V)) (opnL V).length t md S).1 = (spM t md f).1 ∧ SR (taF (apL op 0 (opnL V)) (opnL V).length t md S).2 (spM t md f).2 := by
  induction t with
  | zero => exact fun md S f h _ => tst_z h
  | succ t ih =>
    intro md S f h hV
    obtain ⟨-, -, -, nw, hnw⟩ := id h
    have e1 : (S 7 0).toNatClampNeg = nw := by rw [hnw.2.1]; exact nI_clamp (by have := hnw.1; omega)
    have e2 : (f 45).toNatClampNeg = nw := by rw [hnw.2.2.1]; exact nI_clamp (by have := hnw.1; omega)
    obtain ⟨s1, s2, s3⟩ := SR_step (op := op) h hV hnw
    rw [tst_ex e1, tst_em e2]
    exact tst_s ih s1 s2 s3
