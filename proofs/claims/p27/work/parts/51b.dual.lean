/-! MATH 3: as many rows as the greatest set of which none comes behind another -/
noncomputable def dB (p : Prop) : Bool := @decide p (Classical.propDecidable p)
theorem dB_t {p : Prop} : dB p = true ↔ p := ⟨fun h => @of_decide_eq_true p (Classical.propDecidable p) h, fun h => @decide_eq_true p (Classical.propDecidable p) h⟩
theorem dB_f {p : Prop} : dB p = false ↔ ¬ p := by
  have h := dB_t (p := p)
  constructor
  · intro h2 h3
    rw [h.mpr h3] at h2
    cases h2
  · intro h2
    cases h3 : dB p
    · rfl
    · exact absurd (h.mp h3) h2
/-- what holds behind i pieces -/
def pairI (bh : Nat → Int32) (B : Nat → Nat) (i : Nat) : Prop := ∃ (T fl : Nat → Bool),
  (∀ x y p, x < 9 → y < 9 → p < 9 → (cpS bh i).1 x = nI p → (cpS bh i).1 y = nI p → x = y) ∧ fpE B (cpS bh i).1 ∧ (∀ x p, x < 9 → p < 9 → (cpS bh i).1 x = nI p → p < i) ∧
  (∀ p, p < 9 → fl p = true → p < i ∧ (∀ x, x < 9 → ¬ (cpS bh i).1 x = nI p) ∧ ∀ y, y < 9 → (B p).testBit y = true → T y = true) ∧ Cl B (cpS bh i).1 (fun x => T x = true) ∧
  (cpS bh i).2 = nI (9 - fpC (cpS bh i).1 0) ∧ fpC (cpS bh i).1 0 + cn fl 9 = i
theorem nI_less {a : Nat} (h : 0 < a) : nI a + (-1) = nI (a - 1) := by
  obtain ⟨b, rfl⟩ : ∃ b, a = b + 1 := ⟨a - 1, by omega⟩
  rw [show nI (b + 1) + (-1) = nI (b + 1) - 1 from by rw [Int32.sub_eq_add_neg], nI_pred]
  rfl
theorem pair_inv {bh : Nat → Int32} {B : Nat → Nat} (hB : BhOK bh B) : ∀ i, i ≤ 9 → pairI bh B i
  | 0, _ => ⟨fun _ => false, fun _ => false, fun x y p _ _ hp e => absurd e.symm (nI_m1 (by omega)), fun x p _ hp e => absurd e.symm (nI_m1 (by omega)), fun x p _ hp e => absurd e.symm (nI_m1 (by omega)), fun p _ h => (by cases h), fun x _ h => (by cases h), by
      have : fpC (cpS bh 0).1 0 = 0 := cn_none 9 (fun i _ => by show (!(0 : Nat).testBit i && decide (¬ ((-1 : Int32)) = -1)) = false; simp)
      rw [this]; rfl, by
      have : fpC (cpS bh 0).1 0 = 0 := cn_none 9 (fun i _ => by show (!(0 : Nat).testBit i && decide (¬ ((-1 : Int32)) = -1)) = false; simp)
      rw [this, cn_none 9 (fun _ _ => rfl)]⟩
  | i + 1, hi => by
    obtain ⟨T, fl, i1, i2, i3, i4, i5, i6, i7⟩ := pair_inv hB i (by omega)
    have hok := cpS_ok bh i (by omega)
    have hq : i < 9 := by omega
    obtain ⟨ok, ah', t', e, hA', ht', hc⟩ := fp_closed hB (fun x => T x = true) 9 i _ 0 hq hok (by decide)
    obtain ⟨ok2, ah2, t2, e2, -, ht2, hv⟩ := fp_vain hB 9 i _ 0 hq hok (by decide)
    obtain ⟨ok3, ah3, t3, e3, -, ht3, hf⟩ := fp_found hB 9 i _ 0 hq hok (by decide)
    obtain ⟨ok4, ah4, t4, e4, -, ht4, hE⟩ := fp_edges hB 9 i _ 0 hq hok (by decide)
    obtain ⟨x1, y1⟩ := Prod.mk.inj (e.symm.trans e2)
    obtain ⟨x2, y2⟩ := Prod.mk.inj y1
    have y3 := nI_inj ht' ht2 y2
    obtain ⟨x4, y4⟩ := Prod.mk.inj (e.symm.trans e3)
    obtain ⟨x5, -⟩ := Prod.mk.inj y4
    obtain ⟨x6, y6⟩ := Prod.mk.inj (e.symm.trans e4)
    obtain ⟨x7, -⟩ := Prod.mk.inj y6
    rw [← x1, ← x2, ← y3] at hv
    rw [← x4, ← x5] at hf
    rw [← x7] at hE
    have hf : fpW i (cpS bh i).1 0 ok ah' := hf.2
    clear e2 e3 e4 x1 x2 x4 x5 x6 x7 y1 y2 y3 y4 y6 ht2 ht3 ht4
    rw [nI_0] at e
    have c1 : (cpS bh (i + 1)).1 = ah' := by show (fpF bh 9 i (cpS bh i).1 0).2.1 = ah'; rw [e]
    have c2 : (cpS bh (i + 1)).2 = if ok = true then (cpS bh i).2 + (-1) else (cpS bh i).2 := by
      show (if (fpF bh 9 i (cpS bh i).1 0).1 = true then (cpS bh i).2 + (-1) else (cpS bh i).2) = _
      rw [e]
    unfold pairI
    rw [c1, c2]
    generalize (cpS bh i).1 = ah at *
    generalize (cpS bh i).2 = w at *
    have z0 : ∀ x : Nat, (0 : Nat).testBit x = false := Nat.zero_testBit
    obtain ⟨k1, k2⟩ := hc i5
    cases ok with
    | true =>
      obtain ⟨g1, g2, g3⟩ := hf rfl ⟨fun x y p hx hy hp _ _ => i1 x y p hx hy hp, fun x hx _ ex => by have := i3 x i hx hq ex; omega⟩
      have hle : fpC ah' 0 ≤ 9 := cn_le _ 9
      refine ⟨T, fl, fun x y p hx hy hp => g1 x y p hx hy hp (z0 x) (z0 y), hE i2, fun x p hx hp ex => ?_, fun p hp h => ?_, fun x hx hT => ?_, ?_, ?_⟩
      · rcases (g2 p hp).mp ⟨x, hx, z0 x, ex⟩ with ⟨y, hy, -, ey⟩ | h
        · have := i3 y p hy hp ey; omega
        · omega
      · obtain ⟨j1, j2, j3⟩ := i4 p hp h
        refine ⟨by omega, fun x hx ex => ?_, j3⟩
        rcases (g2 p hp).mp ⟨x, hx, z0 x, ex⟩ with ⟨y, hy, -, ey⟩ | h
        · exact j2 y hy ey
        · omega
      · obtain ⟨q, h1, h2, h3⟩ := i5 x hx hT
        exact ⟨q, h1, (k2 x hx hT).trans h2, h3⟩
      · rw [if_pos rfl, i6, nI_less (by omega), g3]
        congr 1
      · omega
    | false =>
      have ea : ah' = ah := hv.1.2.1 rfl
      subst ea
      obtain ⟨v1, v2⟩ := hv.2 rfl (by omega)
      refine ⟨fun x => T x || t'.testBit x, fun p => fl p || decide (p = i), i1, i2, fun x p hx hp ex => by have := i3 x p hx hp ex; omega, fun p hp h => ?_, fun x hx hT => ?_, by rw [if_neg (by decide)]; exact i6, ?_⟩
      · rcases Bool.or_eq_true_iff.mp h with h | h
        · obtain ⟨j1, j2, j3⟩ := i4 p hp h
          exact ⟨by omega, j2, fun y hy hb => by show (T y || t'.testBit y) = true; rw [j3 y hy hb]; rfl⟩
        · have := of_decide_eq_true h
          subst this
          exact ⟨by omega, fun x hx ex => by have := i3 x p hx hp ex; omega, fun y hy hb => by show (T y || t'.testBit y) = true; rw [v1 y (Nat.zero_le _) hy hb, Bool.or_true]⟩
      · rcases Bool.or_eq_true_iff.mp hT with h | h
        · obtain ⟨q, h1, h2, h3⟩ := i5 x hx h
          exact ⟨q, h1, h2, fun y hy hb => by show (T y || t'.testBit y) = true; rw [h3 y hy hb]; rfl⟩
        · obtain ⟨q, h1, h2, h3⟩ := v2 x hx h (z0 x)
          exact ⟨q, h1, h2, fun y hy hb => by show (T y || t'.testBit y) = true; rw [h3 y hy hb, Bool.or_true]⟩
      · have hfi : fl i = false := by
          cases h : fl i
          · rfl
          · have := (i4 i hq h).1; omega
        rw [cn_rem (q := fun p => fl p || decide (p = i)) (j := i) (by show (fl i || decide (i = i)) = true; rw [decide_eq_true rfl, Bool.or_true]) 9 hq]
        have h2 : cn (fun p => (fl p || decide (p = i)) && decide (p ≠ i)) 9 = cn fl 9 := cn_congr 9 (fun p _ => by
          show ((fl p || decide (p = i)) && decide (p ≠ i)) = fl p
          by_cases h : p = i
          · subst h; rw [hfi]; simp
          · rw [decide_eq_false h, decide_eq_true h, Bool.or_false, Bool.and_true])
        rw [h2]
        omega
/-- a set of which none comes behind another -/
def AC (B : Nat → Nat) (a : Nat) : Prop := ∀ i j, i < 9 → j < 9 → a.testBit i = true → a.testBit j = true → ¬ (B i).testBit j = true
def TrB (B : Nat → Nat) : Prop := ∀ i j k, i < 9 → j < 9 → k < 9 → (B i).testBit j = true → (B j).testBit k = true → (B i).testBit k = true
/-- no such set has more pieces than rows are left -/
theorem pair_weak {B : Nat → Nat} {ah : Nat → Int32} (hT : TrB B) (hA : AhOK ah) (h1 : ∀ x y p, x < 9 → y < 9 → p < 9 → ah x = nI p → ah y = nI p → x = y) (h2 : fpE B ah) {a : Nat} (ha : AC B a) : cn (fun i => a.testBit i) 9 + fpC ah 0 ≤ 9 := by
  have key : fpC ah 0 ≤ cn (fun i => !a.testBit i) 9 := by
    unfold fpC
    refine cn_inj (fun x => if dB (∃ i, i < 9 ∧ a.testBit i = true ∧ (B i).testBit x = true) = true then x else (ah x).toNatClampNeg) 9 9 _ (fun x hx hm => ?_) (fun x y hx hy hmx hmy e => ?_)
    · have hm2 : ¬ ah x = -1 := of_decide_eq_true (Bool.and_eq_true_iff.mp hm).2
      obtain ⟨q, hq, eq⟩ := (hA x hx).resolve_left hm2
      by_cases hr : dB (∃ i, i < 9 ∧ a.testBit i = true ∧ (B i).testBit x = true) = true
      · simp only [hr, if_true]
        obtain ⟨i, hi, ai, bi⟩ := dB_t.mp hr
        refine ⟨hx, ?_⟩
        cases h3 : a.testBit x
        · rfl
        · exact absurd bi (ha i x hi hx ai h3)
      · simp only [if_neg hr, eq, nI_clamp (show q < 2 ^ 31 by omega)]
        refine ⟨hq, ?_⟩
        cases h3 : a.testBit q
        · rfl
        · exact absurd (dB_t.mpr ⟨q, hq, h3, h2 x q hx hq eq⟩) hr
    · have hmx2 : ¬ ah x = -1 := of_decide_eq_true (Bool.and_eq_true_iff.mp hmx).2
      have hmy2 : ¬ ah y = -1 := of_decide_eq_true (Bool.and_eq_true_iff.mp hmy).2
      obtain ⟨q, hq, eq⟩ := (hA x hx).resolve_left hmx2
      obtain ⟨r, hr, er⟩ := (hA y hy).resolve_left hmy2
      simp only [eq, er, nI_clamp (show q < 2 ^ 31 by omega), nI_clamp (show r < 2 ^ 31 by omega)] at e
      by_cases rx : dB (∃ i, i < 9 ∧ a.testBit i = true ∧ (B i).testBit x = true) = true
      · by_cases ry : dB (∃ i, i < 9 ∧ a.testBit i = true ∧ (B i).testBit y = true) = true
        · rw [if_pos rx, if_pos ry] at e; exact e
        · rw [if_pos rx, if_neg ry] at e
          subst e
          obtain ⟨i, hi, ai, bi⟩ := dB_t.mp rx
          exact absurd (dB_t.mpr ⟨i, hi, ai, hT i x y hi hx hy bi (h2 y x hy hx er)⟩) ry
      · by_cases ry : dB (∃ i, i < 9 ∧ a.testBit i = true ∧ (B i).testBit y = true) = true
        · rw [if_neg rx, if_pos ry] at e
          subst e
          obtain ⟨i, hi, ai, bi⟩ := dB_t.mp ry
          exact absurd (dB_t.mpr ⟨i, hi, ai, hT i q x hi hy hx bi (h2 x q hx hy eq)⟩) rx
        · rw [if_neg rx, if_neg ry] at e
          subst e
          exact h1 x y q hx hy hq eq er
  have h3 := cn_add (fun i => a.testBit i) (fun i => !a.testBit i) 9
  have h4 := cn_le (fun i => a.testBit i || !a.testBit i) 9
  rw [cn_none (q := fun i => a.testBit i && !a.testBit i) 9 (fun i _ => by cases a.testBit i <;> rfl)] at h3
  omega
/-- some such set has as many pieces -/
theorem pair_strong {bh : Nat → Int32} {B : Nat → Nat} (hB : BhOK bh B) : ∃ a, a < 512 ∧ AC B a ∧ 9 ≤ cn (fun i => a.testBit i) 9 + fpC (cpS bh 9).1 0 := by
  obtain ⟨T, fl, i1, i2, i3, i4, i5, i6, i7⟩ := pair_inv hB 9 (by omega)
  generalize (cpS bh 9).1 = ah at *
  have hL : ∃ L : Nat → Bool, ∀ q, L q = true ↔ ∃ x, x < 9 ∧ T x = true ∧ ah x = nI q := ⟨fun q => dB (∃ x, x < 9 ∧ T x = true ∧ ah x = nI q), fun q => dB_t⟩
  obtain ⟨L, hL⟩ := hL
  refine ⟨mkM (fun x => (fl x || L x) && !T x) 9, mkM_lt _, fun i j hi hj ai aj hb => ?_, ?_⟩
  · rw [mkM_in _ hi] at ai
    rw [mkM_in _ hj] at aj
    have hTj : T j = false := by have := (Bool.and_eq_true_iff.mp aj).2; cases h : T j; rfl; rw [h] at this; cases this
    have hTj2 : T j = true := by
      rcases Bool.or_eq_true_iff.mp (Bool.and_eq_true_iff.mp ai).1 with h | h
      · exact (i4 i hi h).2.2 j hj hb
      · obtain ⟨x, hx, hT, ex⟩ := (hL i).mp h
        obtain ⟨q, hq, eq, hN⟩ := i5 x hx hT
        have := nI_inj (by omega) (by omega) (ex.symm.trans eq)
        subst this
        exact hN j hj hb
    rw [hTj] at hTj2; cases hTj2
  · have e1 : cn (fun i => (mkM (fun x => (fl x || L x) && !T x) 9).testBit i) 9 = cn (fun x => (fl x || L x) && !T x) 9 := cn_congr 9 (fun i hi => mkM_in _ hi)
    rw [e1]
    have a1 := cn_add (fun x => (fl x || L x) && !T x) T 9
    have a2 : cn (fun x => fl x || L x) 9 ≤ cn (fun i => ((fl i || L i) && !T i) || T i) 9 := cn_mono 9 (fun i _ h => by
      show (((fl i || L i) && !T i) || T i) = true
      rw [h]; cases T i <;> rfl)
    have a3 := cn_add fl L 9
    have a4 : cn (fun i => fl i && L i) 9 = 0 := cn_none 9 (fun i hi => by
      show (fl i && L i) = false
      cases h : fl i
      · rfl
      · cases h2 : L i
        · rfl
        · obtain ⟨x, hx, -, ex⟩ := (hL i).mp h2
          exact absurd ex ((i4 i hi h).2.1 x hx))
    have a5 : cn T 9 ≤ cn L 9 := by
      refine cn_inj (fun x => (ah x).toNatClampNeg) 9 9 L (fun x hx hT => ?_) (fun x y hx hy hTx hTy e => ?_)
      · obtain ⟨q, hq, eq, -⟩ := i5 x hx hT
        simp only [eq, nI_clamp (show q < 2 ^ 31 by omega)]
        exact ⟨hq, (hL q).mpr ⟨x, hx, hT, eq⟩⟩
      · obtain ⟨q, hq, eq, -⟩ := i5 x hx hTx
        obtain ⟨r, hr, er, -⟩ := i5 y hy hTy
        simp only [eq, er, nI_clamp (show q < 2 ^ 31 by omega), nI_clamp (show r < 2 ^ 31 by omega)] at e
        subst e
        exact i1 x y q hx hy hq eq er
    have a6 : cn (fun i => ((fl i || L i) && !T i) && T i) 9 = 0 := cn_none 9 (fun i _ => by cases T i <;> simp)
    omega
/-- no piece of a mask has one of the mask in its row -/
theorem opR_ac {bh : Nat → Int32} {m : Nat} (hm : m < 512) : ∀ n i, i + n = 9 → (opR bh (nI m) n i = true ↔ ∀ j, i ≤ j → j < 9 → m.testBit j = true → bh j &&& nI m = 0)
  | 0, i, h => ⟨fun _ j h1 h2 => absurd h1 (by omega), fun _ => rfl⟩
  | n + 1, i, h => by
    have ih := opR_ac (bh := bh) hm n (i + 1) (by omega)
    rw [opR]
    by_cases c : bitv (nI m) (nI i) = 1
    · rw [if_pos c]
      have c2 := (bv_t hm (by omega)).mp c
      by_cases z : bh i &&& nI m = 0
      · rw [if_pos z, ih]
        refine ⟨fun h j h1 h2 h3 => ?_, fun h j h1 h2 h3 => h j (by omega) h2 h3⟩
        by_cases e : j = i
        · rw [e]; exact z
        · exact h j (by omega) h2 h3
      · rw [if_neg z]
        exact ⟨fun h => (by cases h), fun h => absurd (h i (Nat.le_refl _) (by omega) c2) z⟩
    · rw [if_neg c, ih]
      have c2 : ¬ m.testBit i = true := fun h => c ((bv_t hm (by omega)).mpr h)
      refine ⟨fun h j h1 h2 h3 => ?_, fun h j h1 h2 h3 => h j (by omega) h2 h3⟩
      by_cases e : j = i
      · rw [e] at h3; exact absurd h3 c2
      · exact h j (by omega) h2 h3
theorem opR_AC {bh : Nat → Int32} {B : Nat → Nat} (hB : BhOK bh B) {m : Nat} (hm : m < 512) : opR bh (nI m) 9 0 = true ↔ AC B m := by
  rw [opR_ac hm 9 0 rfl]
  constructor
  · intro h i j hi hj mi mj hb
    have h2 := h i (Nat.zero_le _) hi mi
    rw [(hB i hi).1, and0 (hB i hi).2 hm] at h2
    exact h2 j hj ⟨hb, mj⟩
  · intro h i _ hi mi
    rw [(hB i hi).1, and0 (hB i hi).2 hm]
    exact fun j hj hh => h i j hi hj mi hh.2 hh.1
theorem cb_max {bh : Nat → Int32} {B : Nat → Nat} (hB : BhOK bh B) : ∀ t, t ≤ 511 → ∃ c, cbT bh t = nI c ∧ c ≤ 9 ∧ (∀ m, 1 ≤ m → m ≤ t → AC B m → cn (fun i => m.testBit i) 9 ≤ c) ∧ (c = 0 ∨ ∃ m, m ≤ t ∧ AC B m ∧ cn (fun i => m.testBit i) 9 = c)
  | 0, _ => ⟨0, nI_0.symm, by omega, fun m h1 h2 => absurd h1 (by omega), Or.inl rfl⟩
  | t + 1, h => by
    obtain ⟨c, h1, h2, h3, h4⟩ := cb_max hB t (by omega)
    have hc := cn_le (fun i => (t + 1).testBit i) 9
    rw [cbT, (bc_cn (t + 1) (by omega)).1, h1]
    by_cases z : nI (cn (fun i => (t + 1).testBit i) 9) ≤ nI c
    · rw [if_pos z]
      have z2 := (nI_leI (by omega) (by omega)).mp z
      refine ⟨c, rfl, h2, fun m m1 m2 hm => ?_, h4.imp id (fun ⟨m, a, b⟩ => ⟨m, by omega, b⟩)⟩
      by_cases e : m = t + 1
      · subst e; exact z2
      · exact h3 m m1 (by omega) hm
    · rw [if_neg z]
      have z2 : ¬ cn (fun i => (t + 1).testBit i) 9 ≤ c := fun h => z ((nI_leI (by omega) (by omega)).mpr h)
      by_cases o : opR bh (nI (t + 1)) 9 0 = true
      · rw [if_pos o]
        have o2 := (opR_AC hB (by omega)).mp o
        refine ⟨_, rfl, hc, fun m m1 m2 hm => ?_, Or.inr ⟨t + 1, Nat.le_refl _, o2, rfl⟩⟩
        by_cases e : m = t + 1
        · subst e; exact Nat.le_refl _
        · have := h3 m m1 (by omega) hm; omega
      · rw [if_neg o]
        refine ⟨c, rfl, h2, fun m m1 m2 hm => ?_, h4.imp id (fun ⟨m, a, b⟩ => ⟨m, by omega, b⟩)⟩
        by_cases e : m = t + 1
        · subst e; exact absurd ((opR_AC hB (by omega)).mpr hm) o
        · exact h3 m m1 (by omega) hm
/-- THE FEWEST ROWS: told by pairing as by sets -/
theorem rows_dual {bh : Nat → Int32} {B : Nat → Nat} (hB : BhOK bh B) (hT : TrB B) : (cpS bh 9).2 = cbT bh 511 := by
  obtain ⟨c, h1, h2, h3, h4⟩ := cb_max hB 511 (Nat.le_refl _)
  obtain ⟨a, a1, a2, a3⟩ := pair_strong hB
  obtain ⟨T, fl, i1, i2, i3, i4, i5, i6, i7⟩ := pair_inv hB 9 (by omega)
  have weak : ∀ m, AC B m → cn (fun i => m.testBit i) 9 + fpC (cpS bh 9).1 0 ≤ 9 := fun m hm => pair_weak hT (cpS_ok bh 9 (by omega)) i1 i2 hm
  have e : 9 - fpC (cpS bh 9).1 0 = c := by
    have g1 : 9 - fpC (cpS bh 9).1 0 ≤ c := by
      by_cases z : a = 0
      · subst z
        have : cn (fun i => (0 : Nat).testBit i) 9 = 0 := cn_none 9 (fun i _ => Nat.zero_testBit i)
        omega
      · have := h3 a (by omega) (by omega) a2
        omega
    rcases h4 with h4 | ⟨m, m1, m2, m3⟩
    · omega
    · have := weak m m2
      omega
  rw [i6, h1, e]
