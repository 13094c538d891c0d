/-! MATH 2: pairing, its search -/
def BhOK (bh : Nat → Int32) (B : Nat → Nat) : Prop := ∀ q, q < 9 → bh q = nI (B q) ∧ B q < 512
theorem trU_n {t x : Nat} (hx : x < 9) : trU (nI t) x = nI (t ||| 2 ^ x) := by unfold trU; rw [sh_nat x hx, nI_or]
theorem nI_m1 {j : Nat} (h : j < 512) : ¬ nI j = -1 := by
  intro e
  have h1 : (nI j).toInt = (-1 : Int32).toInt := by rw [e]
  rw [nI_toInt (by omega)] at h1
  have h2 : (-1 : Int32).toInt = -1 := by decide +kernel
  omega
theorem nI_inj {a b : Nat} (ha : a < 512) (hb : b < 512) (h : nI a = nI b) : a = b := (nI_eq (by omega) (by omega)).mp h
theorem upd_e (f : Nat → Int32) (x : Nat) (v : Int32) : upd f x v x = v := if_pos rfl
theorem upd_n (f : Nat → Int32) {x y : Nat} (v : Int32) (h : y ≠ x) : upd f x v y = f y := if_neg h
/-- what holds of every search, from what holds of its steps -/
theorem fp_rule {bh : Nat → Int32} {B : Nat → Nat} (hB : BhOK bh B)
    (Pf : Nat → Nat → (Nat → Int32) → Nat → Bool → (Nat → Int32) → Nat → Prop) (Pl : Nat → Nat → Nat → (Nat → Int32) → Nat → Bool → (Nat → Int32) → Nat → Prop)
    (h0 : ∀ q ah t, q < 9 → AhOK ah → t < 512 → Pf 0 q ah t false ah t)
    (hF : ∀ n q ah t ok ah' t', q < 9 → AhOK ah → t < 512 → Pl n q 0 ah t ok ah' t' → Pf (n + 1) q ah t ok ah' t')
    (hE : ∀ n q ah t, q < 9 → AhOK ah → t < 512 → Pl n q 9 ah t false ah t)
    (hS : ∀ n q x ah t ok ah' t', q < 9 → x < 9 → AhOK ah → t < 512 → ¬ ((B q).testBit x = true ∧ t.testBit x = false) → Pl n q (x + 1) ah t ok ah' t' → Pl n q x ah t ok ah' t')
    (hN : ∀ n q x ah t, q < 9 → x < 9 → AhOK ah → t < 512 → (B q).testBit x = true → t.testBit x = false → ah x = -1 → Pl n q x ah t true (upd ah x (nI q)) (t ||| 2 ^ x))
    (hY : ∀ n q x ah t q2 ah2 t2, q < 9 → x < 9 → q2 < 9 → AhOK ah → AhOK ah2 → t < 512 → t2 < 512 → (B q).testBit x = true → t.testBit x = false → ah x = nI q2 → Pf n q2 ah (t ||| 2 ^ x) true ah2 t2 → Pl n q x ah t true (upd ah2 x (nI q)) t2)
    (hR : ∀ n q x ah t q2 ah2 t2 ok ah' t', q < 9 → x < 9 → q2 < 9 → AhOK ah → AhOK ah2 → t < 512 → t2 < 512 → (B q).testBit x = true → t.testBit x = false → ah x = nI q2 → Pf n q2 ah (t ||| 2 ^ x) false ah2 t2 → Pl n q (x + 1) ah2 t2 ok ah' t' → Pl n q x ah t ok ah' t') :
    ∀ n q ah t, q < 9 → AhOK ah → t < 512 → ∃ (ok : Bool) (ah' : Nat → Int32) (t' : Nat), fpF bh n q ah (nI t) = (ok, ah', nI t') ∧ AhOK ah' ∧ t' < 512 ∧ Pf n q ah t ok ah' t' := by
  intro n
  induction n with
  | zero => exact fun q ah t hq h ht => ⟨false, ah, t, rfl, h, ht, h0 q ah t hq h ht⟩
  | succ n ihn =>
    intro q ah t hq h ht
    suffices hl : ∀ s x ah t, x + s = 9 → AhOK ah → t < 512 → ∃ (ok : Bool) (ah' : Nat → Int32) (t' : Nat), fpL bh q (fpF bh n) s x ah (nI t) = (ok, ah', nI t') ∧ AhOK ah' ∧ t' < 512 ∧ Pl n q x ah t ok ah' t' by
      obtain ⟨ok, ah', t', e1, e2, e3, e4⟩ := hl 9 0 ah t rfl h ht
      exact ⟨ok, ah', t', e1, e2, e3, hF n q ah t ok ah' t' hq h ht e4⟩
    intro s
    induction s with
    | zero =>
      intro x ah t hx h ht
      have e : x = 9 := by omega
      subst e
      exact ⟨false, ah, t, rfl, h, ht, hE n q ah t hq h ht⟩
    | succ s ihs =>
      intro x ah t hx h ht
      have hx9 : x < 9 := by omega
      rw [fpL]
      by_cases c : bitv (bh q &&& (nI t ^^^ (-1))) (nI x) = 1
      · rw [if_pos c]
        rw [(hB q hq).1] at c
        obtain ⟨c1, c2⟩ := (bv_tr (hB q hq).2 ht hx9).mp c
        by_cases e : ah x = -1
        · rw [if_pos e, trU_n hx9]
          exact ⟨true, _, _, rfl, AhOK_u h x hq, or_lt9 ht (p2_lt x hx9), hN n q x ah t hq hx9 h ht c1 c2 e⟩
        · rw [if_neg e]
          obtain ⟨q2, h2, e2⟩ := (h x hx9).resolve_left e
          rw [e2, nI_clamp (by omega), trU_n hx9]
          obtain ⟨ok2, ah2, t2, r1, r2, r3, r4⟩ := ihn q2 ah (t ||| 2 ^ x) h2 h (or_lt9 ht (p2_lt x hx9))
          rw [r1]
          unfold fpR
          cases ok2 with
          | true => exact ⟨true, _, t2, rfl, AhOK_u r2 x hq, r3, hY n q x ah t q2 ah2 t2 hq hx9 h2 h r2 ht r3 c1 c2 e2 r4⟩
          | false =>
            obtain ⟨ok, ah', t', e5, e6, e7, e8⟩ := ihs (x + 1) ah2 t2 (by omega) r2 r3
            exact ⟨ok, ah', t', e5, e6, e7, hR n q x ah t q2 ah2 t2 ok ah' t' hq hx9 h2 h r2 ht r3 c1 c2 e2 r4 e8⟩
      · rw [if_neg c]
        rw [(hB q hq).1] at c
        obtain ⟨ok, ah', t', e5, e6, e7, e8⟩ := ihs (x + 1) ah t (by omega) h ht
        exact ⟨ok, ah', t', e5, e6, e7, hS n q x ah t ok ah' t' hq hx9 h ht (fun hc => c ((bv_tr (hB q hq).2 ht hx9).mpr hc)) e8⟩
/-- tried stays tried; a search in vain changes nothing; what was tried keeps its pair -/
def fpA (ah : Nat → Int32) (t : Nat) (ok : Bool) (ah' : Nat → Int32) (t' : Nat) : Prop :=
  (∀ y, t.testBit y = true → t'.testBit y = true) ∧ (ok = false → ah' = ah) ∧ (∀ y, t.testBit y = true → ah' y = ah y)
theorem fpA_0 (ah : Nat → Int32) (t : Nat) : fpA ah t false ah t := ⟨fun _ h => h, fun _ => rfl, fun _ _ => rfl⟩
theorem bit_u {t x y : Nat} (hx : x < 9) (h : t.testBit y = true) : (t ||| 2 ^ x).testBit y = true := by rw [Nat.testBit_or, h]; rfl
theorem bit_x {t x : Nat} : (t ||| 2 ^ x).testBit x = true := by rw [Nat.testBit_or, Nat.testBit_two_pow_self, Bool.or_true]
theorem fpA_N {ah : Nat → Int32} {t x : Nat} {v : Int32} (hx : x < 9) (h : t.testBit x = false) : fpA ah t true (upd ah x v) (t ||| 2 ^ x) :=
  ⟨fun _ h2 => bit_u hx h2, fun h2 => (by cases h2), fun y hy => upd_n _ _ (fun e => (by rw [e, h] at hy; cases hy))⟩
theorem fpA_Y {ah ah2 : Nat → Int32} {t t2 x : Nat} {v : Int32} (hx : x < 9) (h : t.testBit x = false) (h2 : fpA ah (t ||| 2 ^ x) true ah2 t2) : fpA ah t true (upd ah2 x v) t2 :=
  ⟨fun y hy => h2.1 y (bit_u hx hy), fun h3 => (by cases h3), fun y hy => by
    rw [upd_n _ _ (fun e => (by rw [e, h] at hy; cases hy))]
    exact h2.2.2 y (bit_u hx hy)⟩
theorem fpA_R {ah ah2 ah' : Nat → Int32} {t t2 t' x : Nat} {ok : Bool} (hx : x < 9) (h2 : fpA ah (t ||| 2 ^ x) false ah2 t2) (h3 : fpA ah2 t2 ok ah' t') : fpA ah t ok ah' t' := by
  have e := h2.2.1 rfl
  subst e
  exact ⟨fun y hy => h3.1 y (h2.1 y (bit_u hx hy)), h3.2.1, fun y hy => h3.2.2 y (h2.1 y (bit_u hx hy))⟩
/-- a set that no search leaves -/
def Cl (B : Nat → Nat) (ah : Nat → Int32) (T : Nat → Prop) : Prop := ∀ x, x < 9 → T x → ∃ q, q < 9 ∧ ah x = nI q ∧ ∀ y, y < 9 → (B q).testBit y = true → T y
def fpT (B : Nat → Nat) (T : Nat → Prop) (q : Nat) (ah : Nat → Int32) (ok : Bool) (ah' : Nat → Int32) : Prop :=
  Cl B ah T → ((∀ y, y < 9 → (B q).testBit y = true → T y) → ok = false) ∧ ∀ x, x < 9 → T x → ah' x = ah x
theorem fp_closed {bh : Nat → Int32} {B : Nat → Nat} (hB : BhOK bh B) (T : Nat → Prop) : ∀ n q ah t, q < 9 → AhOK ah → t < 512 → ∃ (ok : Bool) (ah' : Nat → Int32) (t' : Nat), fpF bh n q ah (nI t) = (ok, ah', nI t') ∧ AhOK ah' ∧ t' < 512 ∧ fpT B T q ah ok ah' := by
  refine fp_rule hB (fun _ q ah _ ok ah' _ => fpT B T q ah ok ah') (fun _ q _ ah _ ok ah' _ => fpT B T q ah ok ah') ?_ ?_ ?_ ?_ ?_ ?_ ?_
  · exact fun q ah t _ _ _ _ => ⟨fun _ => rfl, fun _ _ _ => rfl⟩
  · exact fun n q ah t ok ah' t' _ _ _ h => h
  · exact fun n q ah t _ _ _ _ => ⟨fun _ => rfl, fun _ _ _ => rfl⟩
  · exact fun n q x ah t ok ah' t' _ _ _ _ _ h => h
  · intro n q x ah t hq hx hA ht c1 c2 e hC
    have hnT : ¬ T x := fun hT => by
      obtain ⟨q3, h3, e3, -⟩ := hC x hx hT
      exact nI_m1 (by omega) (e3.symm.trans e)
    exact ⟨fun hN => absurd (hN x hx c1) hnT, fun y hy hT => upd_n _ _ (fun ey => hnT (ey ▸ hT))⟩
  · intro n q x ah t q2 ah2 t2 hq hx h2 hA hA2 ht ht2 c1 c2 e hf hC
    have hf := hf hC
    have hnT : ¬ T x := fun hT => by
      obtain ⟨q3, h3, e3, h4⟩ := hC x hx hT
      have e5 : q3 = q2 := nI_inj (by omega) (by omega) (e3.symm.trans e)
      subst e5
      have := hf.1 h4
      cases this
    exact ⟨fun hN => absurd (hN x hx c1) hnT, fun y hy hT => by
      have hyx : y ≠ x := fun ey => hnT (by rw [← ey]; exact hT)
      rw [upd_n _ _ hyx]
      exact hf.2 y hy hT⟩
  · intro n q x ah t q2 ah2 t2 ok ah' t' hq hx h2 hA hA2 ht ht2 c1 c2 e hf hl hC
    have hf := hf hC
    have hC2 : Cl B ah2 T := fun y hy hT => by
      obtain ⟨q3, h3, e3, h4⟩ := hC y hy hT
      exact ⟨q3, h3, (hf.2 y hy hT).trans e3, h4⟩
    have hl := hl hC2
    exact ⟨hl.1, fun y hy hT => (hl.2 y hy hT).trans (hf.2 y hy hT)⟩
/-- behind a search in vain: what is tried is closed -/
def fpV (B : Nat → Nat) (k q x : Nat) (ah : Nat → Int32) (t : Nat) (ok : Bool) (t' : Nat) : Prop :=
  ok = false → 9 ≤ k + cn (fun i => t.testBit i) 9 → (∀ y, x ≤ y → y < 9 → (B q).testBit y = true → t'.testBit y = true) ∧
    ∀ y, y < 9 → t'.testBit y = true → t.testBit y = false → ∃ q2, q2 < 9 ∧ ah y = nI q2 ∧ ∀ z, z < 9 → (B q2).testBit z = true → t'.testBit z = true
theorem cn_bit {t x : Nat} (hx : x < 9) (h : t.testBit x = false) : cn (fun i => (t ||| 2 ^ x).testBit i) 9 = cn (fun i => t.testBit i) 9 + 1 := by
  rw [cn_rem (q := fun i => (t ||| 2 ^ x).testBit i) (j := x) bit_x 9 hx]
  congr 1
  refine cn_congr 9 (fun i hi => ?_)
  show ((t ||| 2 ^ x).testBit i && decide (i ≠ x)) = t.testBit i
  by_cases e : i = x
  · subst e; simp [h]
  · rw [bit_orf e, decide_eq_true e, Bool.and_true]
theorem fp_vain {bh : Nat → Int32} {B : Nat → Nat} (hB : BhOK bh B) : ∀ n q ah t, q < 9 → AhOK ah → t < 512 → ∃ (ok : Bool) (ah' : Nat → Int32) (t' : Nat), fpF bh n q ah (nI t) = (ok, ah', nI t') ∧ AhOK ah' ∧ t' < 512 ∧ (fpA ah t ok ah' t' ∧ fpV B n q 0 ah t ok t') := by
  refine fp_rule hB (fun n q ah t ok ah' t' => fpA ah t ok ah' t' ∧ fpV B n q 0 ah t ok t') (fun n q x ah t ok ah' t' => fpA ah t ok ah' t' ∧ fpV B (n + 1) q x ah t ok t') ?_ ?_ ?_ ?_ ?_ ?_ ?_
  · refine fun q ah t _ _ _ => ⟨fpA_0 ah t, fun _ h9 => ⟨fun y _ hy _ => cn_all (q := fun i => t.testBit i) 9 (by omega) y hy, fun y _ h1 h2 => ?_⟩⟩
    rw [h1] at h2; cases h2
  · exact fun n q ah t ok ah' t' _ _ _ h => h
  · refine fun n q ah t _ _ _ => ⟨fpA_0 ah t, fun _ _ => ⟨fun y h1 h2 => absurd h1 (by omega), fun y _ h1 h2 => ?_⟩⟩
    rw [h1] at h2; cases h2
  · refine fun n q x ah t ok ah' t' _ hx _ _ c h => ⟨h.1, fun h1 h2 => ?_⟩
    obtain ⟨h3, h4⟩ := h.2 h1 h2
    refine ⟨fun y hy1 hy2 hb => ?_, h4⟩
    by_cases e : y = x
    · subst e
      have h5 : t.testBit y = true := by
        cases h6 : t.testBit y
        · exact absurd ⟨hb, h6⟩ c
        · rfl
      exact h.1.1 y h5
    · exact h3 y (by omega) hy2 hb
  · exact fun n q x ah t _ hx _ _ _ c2 _ => ⟨fpA_N hx c2, fun h => (by cases h)⟩
  · exact fun n q x ah t q2 ah2 t2 _ hx _ _ _ _ _ _ c2 _ hf => ⟨fpA_Y hx c2 hf.1, fun h => (by cases h)⟩
  · intro n q x ah t q2 ah2 t2 ok ah' t' hq hx h2 hA hA2 ht ht2 c1 c2 e hf hl
    refine ⟨fpA_R hx hf.1 hl.1, fun h1 h9 => ?_⟩
    have e2 := hf.1.2.1 rfl
    subst e2
    obtain ⟨v1, v2⟩ := hf.2 rfl (by rw [cn_bit hx c2]; omega)
    have hmono : cn (fun i => t.testBit i) 9 ≤ cn (fun i => t2.testBit i) 9 := cn_mono 9 (fun i _ hi => hf.1.1 i (bit_u hx hi))
    obtain ⟨w1, w2⟩ := hl.2 h1 (by omega)
    refine ⟨fun y hy1 hy2 hb => ?_, fun y hy hy1 hy2 => ?_⟩
    · by_cases ey : y = x
      · subst ey
        exact hl.1.1 y (hf.1.1 y bit_x)
      · exact w1 y (by omega) hy2 hb
    · by_cases h5 : t2.testBit y = true
      · by_cases ey : y = x
        · subst ey
          exact ⟨q2, h2, e, fun z hz hb => hl.1.1 z (v1 z (Nat.zero_le _) hz hb)⟩
        · obtain ⟨q3, h6, h7, h8⟩ := v2 y hy h5 (by rw [bit_orf ey]; exact hy2)
          exact ⟨q3, h6, h7, fun z hz hb => hl.1.1 z (h8 z hz hb)⟩
      · exact w2 y hy hy1 (by cases h6 : t2.testBit y; rfl; exact absurd h6 h5)
/-- pairs are apart outside what is tried, and q has none there -/
def fpH (ah : Nat → Int32) (t q : Nat) : Prop :=
  (∀ x y p, x < 9 → y < 9 → p < 9 → t.testBit x = false → t.testBit y = false → ah x = nI p → ah y = nI p → x = y) ∧ ∀ x, x < 9 → t.testBit x = false → ¬ ah x = nI q
def fpC (ah : Nat → Int32) (t : Nat) : Nat := cn (fun x => !t.testBit x && decide (¬ ah x = -1)) 9
/-- behind a search that found: q has a pair, and those that had one have one -/
def fpG (ah : Nat → Int32) (t q : Nat) (ah' : Nat → Int32) : Prop :=
  (∀ x y p, x < 9 → y < 9 → p < 9 → t.testBit x = false → t.testBit y = false → ah' x = nI p → ah' y = nI p → x = y) ∧
  (∀ p, p < 9 → ((∃ x, x < 9 ∧ t.testBit x = false ∧ ah' x = nI p) ↔ (∃ x, x < 9 ∧ t.testBit x = false ∧ ah x = nI p) ∨ p = q)) ∧ fpC ah' t = fpC ah t + 1
def fpW (q : Nat) (ah : Nat → Int32) (t : Nat) (ok : Bool) (ah' : Nat → Int32) : Prop := ok = true → fpH ah t q → fpG ah t q ah'
theorem fpC_x {ah ah2 : Nat → Int32} {t x : Nat} {v : Int32} (hx : x < 9) (h : t.testBit x = false) (hv : ¬ v = -1) (he : ∀ y, y < 9 → y ≠ x → ah y = ah2 y) (ha : ah x = v) : fpC ah t = fpC ah2 (t ||| 2 ^ x) + 1 := by
  unfold fpC
  rw [cn_rem (q := fun y => !t.testBit y && decide (¬ ah y = -1)) (j := x) (by show (!t.testBit x && decide (¬ ah x = -1)) = true; rw [h, ha, decide_eq_true hv]; rfl) 9 hx]
  congr 1
  refine cn_congr 9 (fun y hy => ?_)
  show ((!t.testBit y && decide (¬ ah y = -1)) && decide (y ≠ x)) = (!(t ||| 2 ^ x).testBit y && decide (¬ ah2 y = -1))
  by_cases e : y = x
  · subst e; rw [bit_x]; simp
  · rw [bit_orf e, decide_eq_true e, Bool.and_true, he y hy e]
theorem bit_ne {t x y : Nat} (h : (t ||| 2 ^ x).testBit y = false) : t.testBit y = false ∧ y ≠ x := by
  rw [Nat.testBit_or, Bool.or_eq_false_iff] at h
  refine ⟨h.1, fun e => ?_⟩
  rw [e, Nat.testBit_two_pow_self] at h
  cases h.2
theorem bit_nx {t x y : Nat} (h : t.testBit y = false) (e : y ≠ x) : (t ||| 2 ^ x).testBit y = false := by rw [bit_orf e]; exact h
theorem fp_found {bh : Nat → Int32} {B : Nat → Nat} (hB : BhOK bh B) : ∀ n q ah t, q < 9 → AhOK ah → t < 512 → ∃ (ok : Bool) (ah' : Nat → Int32) (t' : Nat), fpF bh n q ah (nI t) = (ok, ah', nI t') ∧ AhOK ah' ∧ t' < 512 ∧ (fpA ah t ok ah' t' ∧ fpW q ah t ok ah') := by
  refine fp_rule hB (fun n q ah t ok ah' t' => fpA ah t ok ah' t' ∧ fpW q ah t ok ah') (fun n q x ah t ok ah' t' => fpA ah t ok ah' t' ∧ fpW q ah t ok ah') ?_ ?_ ?_ ?_ ?_ ?_ ?_
  · exact fun q ah t _ _ _ => ⟨fpA_0 ah t, fun h => (by cases h)⟩
  · exact fun n q ah t ok ah' t' _ _ _ h => h
  · exact fun n q ah t _ _ _ => ⟨fpA_0 ah t, fun h => (by cases h)⟩
  · exact fun n q x ah t ok ah' t' _ _ _ _ _ h => h
  · intro n q x ah t hq hx hA ht c1 c2 e
    refine ⟨fpA_N hx c2, fun _ hH => ⟨fun a b p ha hb hp ua ub ea eb => ?_, fun p hp => ⟨?_, ?_⟩, ?_⟩⟩
    · by_cases hax : a = x
      · by_cases hbx : b = x
        · rw [hax, hbx]
        · subst hax
          rw [upd_e] at ea
          rw [upd_n _ _ hbx, ← ea] at eb
          exact absurd eb (hH.2 b hb ub)
      · by_cases hbx : b = x
        · subst hbx
          rw [upd_e] at eb
          rw [upd_n _ _ hax, ← eb] at ea
          exact absurd ea (hH.2 a ha ua)
        · rw [upd_n _ _ hax] at ea
          rw [upd_n _ _ hbx] at eb
          exact hH.1 a b p ha hb hp ua ub ea eb
    · rintro ⟨y, hy, uy, ey⟩
      by_cases hyx : y = x
      · subst hyx
        rw [upd_e] at ey
        exact Or.inr (nI_inj (by omega) (by omega) ey).symm
      · rw [upd_n _ _ hyx] at ey
        exact Or.inl ⟨y, hy, uy, ey⟩
    · rintro (⟨y, hy, uy, ey⟩ | ep)
      · refine ⟨y, hy, uy, ?_⟩
        rw [upd_n _ _ (fun h => by rw [h, e] at ey; exact nI_m1 (by omega) ey.symm)]
        exact ey
      · exact ⟨x, hx, c2, by rw [upd_e, ep]⟩
    · rw [fpC_x (ah2 := ah) (v := nI q) hx c2 (nI_m1 (by omega)) (fun y _ hyx => upd_n _ _ hyx) (upd_e _ _ _)]
      congr 1
      unfold fpC
      refine cn_congr 9 (fun y hy => ?_)
      show (!(t ||| 2 ^ x).testBit y && decide (¬ ah y = -1)) = (!t.testBit y && decide (¬ ah y = -1))
      by_cases hyx : y = x
      · subst hyx; rw [e]; simp
      · rw [bit_orf hyx]
  · intro n q x ah t q2 ah2 t2 hq hx h2 hA hA2 ht ht2 c1 c2 e hf
    refine ⟨fpA_Y hx c2 hf.1, fun _ hH => ?_⟩
    have hne : q2 ≠ q := fun h => hH.2 x hx c2 (by rw [e, h])
    obtain ⟨g1, g2, g3⟩ := hf.2 rfl ⟨fun a b p ha hb hp ua ub ea eb => hH.1 a b p ha hb hp (bit_ne ua).1 (bit_ne ub).1 ea eb, fun y hy uy ey => (bit_ne uy).2 (hH.1 y x q2 hy hx h2 (bit_ne uy).1 c2 ey e)⟩
    have key : ∀ y, y < 9 → y ≠ x → t.testBit y = false → ¬ ah2 y = nI q := fun y hy hyx uy ey => by
      rcases (g2 q hq).mp ⟨y, hy, bit_nx uy hyx, ey⟩ with ⟨z, hz, uz, ez⟩ | h
      · exact hH.2 z hz (bit_ne uz).1 ez
      · exact hne h.symm
    refine ⟨fun a b p ha hb hp ua ub ea eb => ?_, fun p hp => ⟨?_, ?_⟩, ?_⟩
    · by_cases hax : a = x
      · by_cases hbx : b = x
        · rw [hax, hbx]
        · subst hax
          rw [upd_e] at ea
          rw [upd_n _ _ hbx, ← ea] at eb
          exact absurd eb (key b hb hbx ub)
      · by_cases hbx : b = x
        · subst hbx
          rw [upd_e] at eb
          rw [upd_n _ _ hax, ← eb] at ea
          exact absurd ea (key a ha hax ua)
        · rw [upd_n _ _ hax] at ea
          rw [upd_n _ _ hbx] at eb
          exact g1 a b p ha hb hp (bit_nx ua hax) (bit_nx ub hbx) ea eb
    · rintro ⟨y, hy, uy, ey⟩
      by_cases hyx : y = x
      · subst hyx
        rw [upd_e] at ey
        exact Or.inr (nI_inj (by omega) (by omega) ey).symm
      · rw [upd_n _ _ hyx] at ey
        rcases (g2 p hp).mp ⟨y, hy, bit_nx uy hyx, ey⟩ with ⟨z, hz, uz, ez⟩ | h
        · exact Or.inl ⟨z, hz, (bit_ne uz).1, ez⟩
        · exact Or.inl ⟨x, hx, c2, by rw [e, h]⟩
    · rintro (⟨y, hy, uy, ey⟩ | ep)
      · by_cases hyx : y = x
        · subst hyx
          have hp2 : p = q2 := nI_inj (by omega) (by omega) (ey.symm.trans e)
          obtain ⟨z, hz, uz, ez⟩ := (g2 p hp).mpr (Or.inr hp2)
          exact ⟨z, hz, (bit_ne uz).1, by rw [upd_n _ _ (bit_ne uz).2]; exact ez⟩
        · obtain ⟨z, hz, uz, ez⟩ := (g2 p hp).mpr (Or.inl ⟨y, hy, bit_nx uy hyx, ey⟩)
          exact ⟨z, hz, (bit_ne uz).1, by rw [upd_n _ _ (bit_ne uz).2]; exact ez⟩
      · exact ⟨x, hx, c2, by rw [upd_e, ep]⟩
    · rw [fpC_x (ah2 := ah2) (v := nI q) hx c2 (nI_m1 (by omega)) (fun y _ hyx => upd_n _ _ hyx) (upd_e _ _ _), g3, fpC_x (ah := ah) (ah2 := ah) (v := nI q2) hx c2 (nI_m1 (by omega)) (fun _ _ _ => rfl) e]
  · intro n q x ah t q2 ah2 t2 ok ah' t' hq hx h2 hA hA2 ht ht2 c1 c2 e hf hl
    refine ⟨fpA_R hx hf.1 hl.1, fun h1 hH => ?_⟩
    have e2 := hf.1.2.1 rfl
    subst e2
    have sub : ∀ y, t2.testBit y = false → t.testBit y = false := fun y hy => by
      cases h3 : t.testBit y
      · rfl
      · rw [hf.1.1 y (bit_u hx h3)] at hy; cases hy
    obtain ⟨g1, g2, g3⟩ := hl.2 h1 ⟨fun a b p ha hb hp ua ub ea eb => hH.1 a b p ha hb hp (sub a ua) (sub b ub) ea eb, fun y hy uy => hH.2 y hy (sub y uy)⟩
    have kept : ∀ y, t2.testBit y = true → ah' y = ah2 y := hl.1.2.2
    have mix : ∀ a b p, a < 9 → b < 9 → p < 9 → t2.testBit a = true → t.testBit a = false → t2.testBit b = false → ah' a = nI p → ah' b = nI p → False := fun a b p ha hb hp ua ua2 ub ea eb => by
      rw [kept a ua] at ea
      rcases (g2 p hp).mp ⟨b, hb, ub, eb⟩ with ⟨z, hz, uz, ez⟩ | h
      · have := hH.1 a z p ha hz hp ua2 (sub z uz) ea ez
        subst this
        rw [ua] at uz; cases uz
      · exact hH.2 a ha ua2 (by rw [ea, h])
    refine ⟨fun a b p ha hb hp ua ub ea eb => ?_, fun p hp => ⟨?_, ?_⟩, ?_⟩
    · cases ha2 : t2.testBit a
      · cases hb2 : t2.testBit b
        · exact g1 a b p ha hb hp ha2 hb2 ea eb
        · exact (mix b a p hb ha hp hb2 ub ha2 eb ea).elim
      · cases hb2 : t2.testBit b
        · exact (mix a b p ha hb hp ha2 ua hb2 ea eb).elim
        · rw [kept a ha2] at ea
          rw [kept b hb2] at eb
          exact hH.1 a b p ha hb hp ua ub ea eb
    · rintro ⟨y, hy, uy, ey⟩
      cases h3 : t2.testBit y
      · rcases (g2 p hp).mp ⟨y, hy, h3, ey⟩ with ⟨z, hz, uz, ez⟩ | h
        · exact Or.inl ⟨z, hz, sub z uz, ez⟩
        · exact Or.inr h
      · rw [kept y h3] at ey
        exact Or.inl ⟨y, hy, uy, ey⟩
    · rintro (⟨y, hy, uy, ey⟩ | ep)
      · cases h3 : t2.testBit y
        · obtain ⟨z, hz, uz, ez⟩ := (g2 p hp).mpr (Or.inl ⟨y, hy, h3, ey⟩)
          exact ⟨z, hz, sub z uz, ez⟩
        · exact ⟨y, hy, uy, by rw [kept y h3]; exact ey⟩
      · obtain ⟨z, hz, uz, ez⟩ := (g2 p hp).mpr (Or.inr ep)
        exact ⟨z, hz, sub z uz, ez⟩
    · have split : ∀ g : Nat → Int32, fpC g t = fpC g t2 + cn (fun y => (!t.testBit y && t2.testBit y) && decide (¬ g y = -1)) 9 := fun g => by
        unfold fpC
        rw [← cn_add]
        rw [cn_none (q := fun i => (!t2.testBit i && decide (¬ g i = -1)) && ((!t.testBit i && t2.testBit i) && decide (¬ g i = -1))) 9 (fun i _ => by cases t2.testBit i <;> simp), Nat.add_zero]
        refine cn_congr 9 (fun y _ => ?_)
        show (!t.testBit y && decide (¬ g y = -1)) = ((!t2.testBit y && decide (¬ g y = -1)) || ((!t.testBit y && t2.testBit y) && decide (¬ g y = -1)))
        have h4 := sub y
        cases h5 : t2.testBit y
        · rw [h4 h5]; simp
        · simp
      have same : cn (fun y => (!t.testBit y && t2.testBit y) && decide (¬ ah' y = -1)) 9 = cn (fun y => (!t.testBit y && t2.testBit y) && decide (¬ ah2 y = -1)) 9 := cn_congr 9 (fun y _ => by
        show ((!t.testBit y && t2.testBit y) && decide (¬ ah' y = -1)) = ((!t.testBit y && t2.testBit y) && decide (¬ ah2 y = -1))
        cases h5 : t2.testBit y
        · simp
        · rw [kept y h5])
      rw [split ah', split ah2, g3, same]
      omega
/-- pairs are joins -/
def fpE (B : Nat → Nat) (ah : Nat → Int32) : Prop := ∀ x p, x < 9 → p < 9 → ah x = nI p → (B p).testBit x = true
theorem fpE_u {B : Nat → Nat} {ah : Nat → Int32} {x q : Nat} (hq : q < 9) (h : fpE B ah) (hb : (B q).testBit x = true) : fpE B (upd ah x (nI q)) := by
  intro y p hy hp e
  by_cases hyx : y = x
  · subst hyx
    rw [upd_e] at e
    rw [← nI_inj (by omega) (by omega) e]
    exact hb
  · rw [upd_n _ _ hyx] at e
    exact h y p hy hp e
theorem fp_edges {bh : Nat → Int32} {B : Nat → Nat} (hB : BhOK bh B) : ∀ n q ah t, q < 9 → AhOK ah → t < 512 → ∃ (ok : Bool) (ah' : Nat → Int32) (t' : Nat), fpF bh n q ah (nI t) = (ok, ah', nI t') ∧ AhOK ah' ∧ t' < 512 ∧ (fpE B ah → fpE B ah') := by
  refine fp_rule hB (fun n q ah t ok ah' t' => fpE B ah → fpE B ah') (fun n q x ah t ok ah' t' => fpE B ah → fpE B ah') ?_ ?_ ?_ ?_ ?_ ?_ ?_
  · exact fun q ah t _ _ _ h => h
  · exact fun n q ah t ok ah' t' _ _ _ h => h
  · exact fun n q ah t _ _ _ h => h
  · exact fun n q x ah t ok ah' t' _ _ _ _ _ h => h
  · exact fun n q x ah t hq _ _ _ c1 _ _ h => fpE_u hq h c1
  · exact fun n q x ah t q2 ah2 t2 hq _ _ _ _ _ _ c1 _ _ hf h => fpE_u hq (hf h) c1
  · exact fun n q x ah t q2 ah2 t2 ok ah' t' _ _ _ _ _ _ _ _ _ _ hf hl h => hl (hf h)
