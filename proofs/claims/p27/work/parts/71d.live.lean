/-! P27 4: what holds of a State all along; steps and splittings -/
def bN (S : Nat → Nat → Int32) (q : Nat) : Nat := (S 3 q).toNatClampNeg
def BR (S : Nat → Nat → Int32) : Prop := ∀ q z, q < 9 → z < 9 → (bN S q).testBit z = (bN S z).testBit q ∧ (bN S q).testBit q = false
def exF (S : Nat → Nat → Int32) : Nat → Int32
  | 0 => 0
  | k + 1 => exF S k + S 5 k * bcF (S 6 k)
def EX (S : Nat → Nat → Int32) : Prop := ∀ nw, nw ≤ 12 → S 7 0 = nI nw → exF S nw = smF (S 0) 9 - smF (S 4) 9
def LI (S : Nat → Nat → Int32) : Prop := ∃ f, SR S f ∧ BR S ∧ EX S
theorem nI_inj' {a b : Nat} (ha : a < 2 ^ 31) (hb : b < 2 ^ 31) (h : nI a = nI b) : a = b := (nI_eq ha hb).mp h
section LIVE
variable {S : Nat → Nat → Int32} {f : Nat → Int32}
theorem bN_e (hG : GrOK S f) {q : Nat} (hq : q < 9) : S 3 q = nI (bN S q) ∧ bN S q < 512 := by
  obtain ⟨⟨-, -, g3⟩, -, -, b, hb, eb⟩ := hG q hq
  have e : bN S q = b := by unfold bN; rw [g3, eb, nI_clamp (by omega)]
  rw [e, g3, eb]
  exact ⟨rfl, hb⟩
theorem i_sub (a : Int32) : a - a = 0 := by rw [Int32.sub_eq_add_neg, Int32.add_right_neg]
theorem LI_an (hG : GC S f) (hB : BR S) : LI (anS S) := by
  refine ⟨anM f, SR_anew hG, hB, fun nw hn h => ?_⟩
  have h2 : (0 : Int32) = nI nw := h
  have h3 : nw = 0 := nI_inj (by omega) (by omega) (h2.symm.trans nI_0.symm)
  subst h3
  show (0 : Int32) = smF (S 0) 9 - smF (S 0) 9
  rw [i_sub]
theorem LI_cover (h : LI S) {q c : Nat} (hq : q < 9) (hc : c ≤ 999) : LI (anS (gC S q (nI c))) := by
  obtain ⟨f, h1, h2, -⟩ := h
  exact LI_an (GC_cover h1.1 hq hc) h2
theorem LI_mark (h : LI S) {q w : Nat} (hq : q < 9) (hw : w ≤ 3) : LI (anS (gM S q (nI w))) := by
  obtain ⟨f, h1, h2, -⟩ := h
  exact LI_an (GC_mark h1.1 hq hw) h2
theorem LI_join (h : LI S) {q z : Nat} (hq : q < 9) (hz : z < 9) (hqz : q < z) : LI (anS (gJ S q (S 2 q ^^^ (1 <<< (nI z &&& 31))))) := by
  obtain ⟨f, h1, h2, -⟩ := h
  exact LI_an (GC_join h1.1 hq hz hqz) h2
theorem LI_begin (h : LI S) : LI (anS S) := by
  obtain ⟨f, h1, h2, -⟩ := h
  exact LI_an h1.1 h2
theorem bar_rows (hG : GrOK S f) {q z : Nat} (hq : q < 9) (hz : z < 9) (hqz : q ≠ z) :
    (upd (upd (S 3) q (S 3 q ^^^ (1 <<< (nI z &&& 31)))) z (upd (S 3) q (S 3 q ^^^ (1 <<< (nI z &&& 31))) z ^^^ (1 <<< (nI q &&& 31)))) q = nI (bN S q ^^^ 2 ^ z) ∧
    (upd (upd (S 3) q (S 3 q ^^^ (1 <<< (nI z &&& 31)))) z (upd (S 3) q (S 3 q ^^^ (1 <<< (nI z &&& 31))) z ^^^ (1 <<< (nI q &&& 31)))) z = nI (bN S z ^^^ 2 ^ q) := by
  obtain ⟨e1, -⟩ := bN_e hG hq
  obtain ⟨e2, -⟩ := bN_e hG hz
  constructor
  · rw [upd_n _ _ hqz, upd_e, e1, sh_nat z hz, nI_xor]
  · rw [upd_e, upd_n _ _ (Ne.symm hqz), e2, sh_nat q hq, nI_xor]
theorem LI_bar (h : LI S) {q z : Nat} (hq : q < 9) (hz : z < 9) (hqz : q ≠ z) : LI (anS (gB (gB S q (S 3 q ^^^ (1 <<< (nI z &&& 31)))) z (upd (S 3) q (S 3 q ^^^ (1 <<< (nI z &&& 31))) z ^^^ (1 <<< (nI q &&& 31))))) := by
  obtain ⟨f, h1, h2, -⟩ := h
  obtain ⟨r1, r2⟩ := bar_rows h1.1.1 hq hz hqz
  refine LI_an (GC_bar (GC_bar h1.1 hq hz) hz hq) ?_
  have eN : ∀ x, x < 9 → bN (gB (gB S q (S 3 q ^^^ (1 <<< (nI z &&& 31)))) z (upd (S 3) q (S 3 q ^^^ (1 <<< (nI z &&& 31))) z ^^^ (1 <<< (nI q &&& 31)))) x = if x = q then bN S q ^^^ 2 ^ z else if x = z then bN S z ^^^ 2 ^ q else bN S x := by
    intro x hx
    obtain ⟨-, l1⟩ := bN_e h1.1.1 hq
    obtain ⟨-, l2⟩ := bN_e h1.1.1 hz
    have x1 := xor_lt9 l1 (p2_lt z hz)
    have x2 := xor_lt9 l2 (p2_lt q hq)
    show ((upd (upd (S 3) q (S 3 q ^^^ (1 <<< (nI z &&& 31)))) z (upd (S 3) q (S 3 q ^^^ (1 <<< (nI z &&& 31))) z ^^^ (1 <<< (nI q &&& 31)))) x).toNatClampNeg = _
    by_cases c : x = q
    · subst c; rw [r1, if_pos rfl, nI_clamp (by omega)]
    · rw [if_neg c]
      by_cases c2 : x = z
      · subst c2; rw [r2, if_pos rfl, nI_clamp (by omega)]
      · rw [if_neg c2, upd_n _ _ c2, upd_n _ _ c]; rfl
  have t1 : ∀ i j : Nat, (2 ^ i).testBit j = decide (i = j) := fun i j => Nat.testBit_two_pow
  have eB : ∀ x, x < 9 → ∀ y, (bN (gB (gB S q (S 3 q ^^^ (1 <<< (nI z &&& 31)))) z (upd (S 3) q (S 3 q ^^^ (1 <<< (nI z &&& 31))) z ^^^ (1 <<< (nI q &&& 31)))) x).testBit y = ((bN S x).testBit y ^^ decide ((x = q ∧ z = y) ∨ (x = z ∧ q = y))) := by
    intro x hx y
    rw [eN x hx]
    by_cases c1 : x = q
    · have key : decide (z = y) = decide ((x = q ∧ z = y) ∨ (x = z ∧ q = y)) := decide_eq_decide.mpr (by omega)
      rw [if_pos c1, Nat.testBit_xor, t1, ← key, c1]
    · rw [if_neg c1]
      by_cases c2 : x = z
      · have key : decide (q = y) = decide ((x = q ∧ z = y) ∨ (x = z ∧ q = y)) := decide_eq_decide.mpr (by omega)
        rw [if_pos c2, Nat.testBit_xor, t1, ← key, c2]
      · rw [if_neg c2, decide_eq_false (by omega), Bool.xor_false]
  intro x y hx hy
  have hb := h2 x y hx hy
  have hk : decide ((x = q ∧ z = y) ∨ (x = z ∧ q = y)) = decide ((y = q ∧ z = x) ∨ (y = z ∧ q = x)) := decide_eq_decide.mpr (by omega)
  refine ⟨?_, ?_⟩
  · refine (eB x hx y).trans (Eq.trans ?_ (eB y hy x).symm)
    rw [hb.1, hk]
  · refine (eB x hx x).trans ?_
    rw [hb.2, decide_eq_false (by omega)]
    rfl
theorem bv_flip : ∀ m, m < 512 → ∀ z, z < 9 → bitv (nI (m ^^^ 2 ^ z)) (nI z) = 1 - bitv (nI m) (nI z) := by decide +kernel
theorem bv_same {a b x y : Nat} (ha : a < 512) (hb : b < 512) (hx : x < 9) (hy : y < 9) (h : a.testBit x = b.testBit y) : bitv (nI a) (nI x) = bitv (nI b) (nI y) := by rw [bv_nat a ha x hx, bv_nat b hb y hy, h]
/-- a bar's answers -/
theorem bar_ans (h : LI S) {q z : Nat} (hq : q < 9) (hz : z < 9) (hqz : q ≠ z) :
    bitv ((upd (upd (S 3) q (S 3 q ^^^ (1 <<< (nI z &&& 31)))) z (upd (S 3) q (S 3 q ^^^ (1 <<< (nI z &&& 31))) z ^^^ (1 <<< (nI q &&& 31)))) q) (nI z) = 1 - bitv (S 3 q) (nI z) ∧
    bitv ((upd (upd (S 3) q (S 3 q ^^^ (1 <<< (nI z &&& 31)))) z (upd (S 3) q (S 3 q ^^^ (1 <<< (nI z &&& 31))) z ^^^ (1 <<< (nI q &&& 31)))) z) (nI q) = 1 - bitv (S 3 q) (nI z) := by
  obtain ⟨f, h1, h2, -⟩ := h
  obtain ⟨r1, r2⟩ := bar_rows h1.1.1 hq hz hqz
  obtain ⟨e1, l1⟩ := bN_e h1.1.1 hq
  obtain ⟨e2, l2⟩ := bN_e h1.1.1 hz
  rw [r1, r2, e1, bv_flip _ l1 z hz, bv_flip _ l2 q hq]
  refine ⟨rfl, ?_⟩
  rw [bv_same l2 l1 hq hz (h2 q z hq hz).1.symm]
theorem join_ans (h : LI S) {q z : Nat} (hq : q < 9) (hz : z < 9) : bitv (S 2 q ^^^ (1 <<< (nI z &&& 31))) (nI z) = 1 - bitv (S 2 q) (nI z) := by
  obtain ⟨f, h1, -⟩ := h
  obtain ⟨e1, -, e3, -⟩ := jnN_ok h1.1.1 hq
  rw [e1, sh_nat z hz, nI_xor, bv_flip _ e3 z hz]
theorem no_self (h : LI S) {q : Nat} (hq : q < 9) : bitv (S 3 q) (nI q) = 0 := by
  obtain ⟨f, h1, h2, -⟩ := h
  obtain ⟨e1, l1⟩ := bN_e h1.1.1 hq
  rw [e1, bv_f l1 hq]
  exact (h2 q q hq hq).2
/-- a sum less what a way takes -/
theorem i_s2 (a b x y : Int32) : a - x + (b - y) = a + b - (x + y) := by
  simp only [Int32.sub_eq_add_neg, Int32.neg_add, Int32.add_assoc, Int32.add_comm, i_lc]
theorem sm_tw (r : Nat → Int32) (x w : Int32) : ∀ i, i ≤ 9 → (∀ q, q < 9 → bitv x (nI q) = 0 ∨ bitv x (nI q) = 1) → smF (twF r x w 9) i = smF r i - w * mnF x i
  | 0, _, _ => by rw [smF, smF, mnF, Int32.mul_zero, Int32.sub_zero]
  | i + 1, hi, hx => by
    rw [smF, smF, mnF, sm_tw r x w i (by omega) hx, Int32.mul_add, ← i_s2]
    congr 1
    unfold twF
    rcases hx i (by omega) with h | h
    · rw [if_neg (fun h9 => absurd (h9.2.symm.trans h) (by decide)), h, Int32.mul_zero, Int32.sub_zero]
    · rw [if_pos ⟨by omega, h⟩, h, Int32.mul_one]
theorem bv_01 {m : Nat} (hm : m < 512) : ∀ q, q < 9 → bitv (nI m) (nI q) = 0 ∨ bitv (nI m) (nI q) = 1 := fun q hq => by
  rw [bv_nat m hm q hq]
  split
  · exact Or.inr rfl
  · exact Or.inl rfl
theorem sm_take {m : Nat} (hm : m < 512) (r : Nat → Int32) (w : Int32) : smF (twF r (nI m) w 9) 9 = smF r 9 - w * bcF (nI m) := by
  rw [sm_tw r (nI m) w 9 (Nat.le_refl 9) (bv_01 hm), (bc_cn m hm).1, (bc_cn m hm).2]
theorem exF_congr {S T : Nat → Nat → Int32} : ∀ k, (∀ j, j < k → S 5 j = T 5 j ∧ S 6 j = T 6 j) → exF S k = exF T k
  | 0, _ => rfl
  | k + 1, h => by rw [exF, exF, exF_congr k (fun j hj => h j (by omega)), (h k (by omega)).1, (h k (by omega)).2]
theorem LI_rf (h : LI S) : LI (rfS S) := by
  obtain ⟨f, h1, h2, h3⟩ := h
  refine ⟨_, SR_refuse h1, h2, fun nw hn e => ?_⟩
  rw [exF_congr (S := rfS S) (T := S) nw (fun j _ => ⟨rfl, rfl⟩)]
  exact h3 nw hn e
theorem LI_tk (h1 : SR S f) (h2 : BR S) (h3 : EX S) {nw m w : Nat} (hnw : NtOK S f nw) (hn : nw < 12) (hm : m < 512) (hw : wmF f (nI m) 9 = nI w) (hw2 : w ≤ 999) : LI (tkS S (nI m) (nI w) nw) := by
  refine ⟨_, SR_take h1 hnw hn hm hw hw2, h2, fun nv hv e => ?_⟩
  have e2 : S 7 0 + 1 = nI nv := e
  rw [hnw.2.1, show (1 : Int32) = nI 1 from rfl, nI_add] at e2
  have e3 : nv = nw + 1 := (nI_inj (by omega) (by omega) e2).symm
  subst e3
  show exF (tkS S (nI m) (nI w) nw) nw + upd (S 5) nw (nI w) nw * bcF (upd (S 6) nw (nI m) nw) = smF (S 0) 9 - smF (twF (S 4) (nI m) (nI w) 9) 9
  rw [upd_e, upd_e, sm_take hm, exF_congr (S := tkS S (nI m) (nI w) nw) (T := S) nw (fun j hj => ⟨upd_n _ _ (by omega), upd_n _ _ (by omega)⟩), h3 nw hnw.1 hnw.2.1]
  simp only [Int32.sub_eq_add_neg, Int32.neg_add, Int32.neg_neg, Int32.add_assoc]
/-- the heaviest way's set, or -1 -/
def hvM (S : Nat → Nat → Int32) : Int32 := (hvL (S 4) (opnL S)).2
theorem opn_ls {V : Nat → Nat → Int32} (hG : GrOK S f) : opnL (lsS V S) = opnL S := (opn_oL hG.ls).trans (opn_oL hG).symm
theorem st_all (h : SR S f) {nw : Nat} (hnw : NtOK S f nw) :
    ((hwF S (hvM S) < 1 ∨ nI nw = 12) ∧ thF S (hvM S) nw = (0, rfS S)) ∨
    ∃ b w, 1 ≤ b ∧ b < 512 ∧ 1 ≤ w ∧ w ≤ 999 ∧ nw < 12 ∧ hvM S = nI b ∧ hwF S (hvM S) = nI w ∧ wmF f (nI b) 9 = nI w ∧ thF S (hvM S) nw = (nI w, tkS S (nI b) (nI w) nw) := by
  have hb := best_eq (f := f) h.rs
  rw [← opn_oL h.1.1] at hb
  rcases hb with ⟨-, e⟩ | ⟨b, b1, b2, -, e, e3, e4⟩
  · have em : hvM S = -1 := by unfold hvM; rw [e]
    refine Or.inl ⟨Or.inl ?_, ?_⟩
    · rw [em]; unfold hwF; rw [if_pos rfl]; decide
    · rw [em]; unfold thF hwW; rw [if_pos rfl, if_pos (Int32.le_refl 0)]
  · have em : hvM S = nI b := by unfold hvM; rw [e]
    have hm1 : ¬ nI b = -1 := nI_m1 b2
    have ew : hwF S (nI b) = nI (wtN S b) := by unfold hwF; rw [if_neg hm1, e4]
    have eW : hwW S (nI b) = nI (wtN S b) := by unfold hwW; rw [if_neg hm1, e4]
    have hle := nI_leI (a := wtN S b) (b := 0) (by omega) (by omega)
    have hlt := nI_ltI (a := wtN S b) (b := 1) (by omega) (by omega)
    rw [nI_0] at hle
    rw [em, ew]
    unfold thF
    rw [eW]
    by_cases c : wtN S b = 0
    · refine Or.inl ⟨Or.inl (hlt.mpr (by omega)), ?_⟩
      rw [if_pos (hle.mpr (by omega))]
    · rw [if_neg (fun h9 => c (by have := hle.mp h9; omega))]
      by_cases c2 : nw < 12
      · rw [if_pos c2]
        exact Or.inr ⟨b, wtN S b, b1, b2, by omega, e3, c2, rfl, rfl, (wtN_e h.rs b1 b2).2.1, rfl⟩
      · rw [if_neg c2]
        have : nw = 12 := by have := hnw.1; omega
        exact Or.inl ⟨Or.inr (by rw [this]; rfl), rfl⟩
/-- rests that are no greater -/
def RLe (S T : Nat → Nat → Int32) : Prop := ∀ q, q < 9 → ∃ a b, S 4 q = nI b ∧ T 4 q = nI a ∧ a ≤ b ∧ b ≤ 999
theorem RLe_refl (h : SR S f) : RLe S S := fun q hq => by
  obtain ⟨-, h2, h3, -⟩ := h
  obtain ⟨c, r, a1, a2, -, a4⟩ := h3 q hq
  exact ⟨r, r, (h2 q hq).trans a4, (h2 q hq).trans a4, Nat.le_refl _, by omega⟩
theorem RLe_trans {S T U : Nat → Nat → Int32} (h1 : RLe S T) (h2 : RLe T U) : RLe S U := fun q hq => by
  obtain ⟨a, b, e1, e2, e3, e4⟩ := h1 q hq
  obtain ⟨c, d, g1, g2, g3, g4⟩ := h2 q hq
  have := nI_inj' (a := a) (b := d) (by omega) (by omega) (e2.symm.trans g1)
  exact ⟨c, b, e1, g2, by omega, e4⟩
theorem RLe_sum {T : Nat → Nat → Int32} (h : RLe S T) : ∀ i, i ≤ 9 → ∃ A B, smF (S 4) i = nI B ∧ smF (T 4) i = nI A ∧ A ≤ B ∧ B ≤ 999 * i
  | 0, _ => ⟨0, 0, nI_0.symm, nI_0.symm, Nat.le_refl _, by omega⟩
  | i + 1, hi => by
    obtain ⟨A, B, e1, e2, e3, e4⟩ := RLe_sum h i (by omega)
    obtain ⟨a, b, g1, g2, g3, g4⟩ := h i (by omega)
    exact ⟨A + a, B + b, by rw [smF, e1, g1, nI_add], by rw [smF, e2, g2, nI_add], by omega, by omega⟩
theorem RLe_le {T : Nat → Nat → Int32} (h : RLe S T) : smF (T 4) 9 ≤ smF (S 4) 9 := by
  obtain ⟨A, B, e1, e2, e3, e4⟩ := RLe_sum h 9 (Nat.le_refl 9)
  rw [e1, e2]
  exact (nI_leI (a := A) (b := B) (by omega) (by omega)).mpr e3
theorem RLe_tk (h : SR S f) {nw m w : Nat} (hm : m < 512) (hw : wmF f (nI m) 9 = nI w) (hw2 : w ≤ 999) : RLe S (tkS S (nI m) (nI w) nw) := fun q hq => by
  obtain ⟨-, h2, h3, -⟩ := h
  obtain ⟨c, r, a1, a2, -, a4⟩ := h3 q hq
  have e : S 4 q = nI r := (h2 q hq).trans a4
  show ∃ a b, S 4 q = nI b ∧ twF (S 4) (nI m) (nI w) 9 q = nI a ∧ a ≤ b ∧ b ≤ 999
  unfold twF
  by_cases c : m.testBit q = true
  · have hl := wm_le f hm 9 (Nat.le_refl 9) q hq c
    rw [hw, a4] at hl
    have hl2 := (nI_leI (a := w) (b := r) (by omega) (by omega)).mp hl
    rw [if_pos ⟨hq, (bv_t hm hq).mpr c⟩, e]
    exact ⟨r - w, r, rfl, nI_subn hl2, by omega, by omega⟩
  · rw [if_neg (fun h9 => c ((bv_t hm hq).mp h9.2)), e]
    exact ⟨r, r, rfl, rfl, Nat.le_refl _, by omega⟩
/-- a splitting, by the list of the open ways -/
def taL (L : List Int32) : Nat → Nat → (Nat → Nat → Int32) → Nat × (Nat → Nat → Int32)
  | 0, md, T => (md, T)
  | t + 1, md, T => if 0 < (thF T (hvL (T 4) L).2 (T 7 0).toNatClampNeg).1 then taL L t (md + 1) (thF T (hvL (T 4) L).2 (T 7 0).toNatClampNeg).2 else (md, (thF T (hvL (T 4) L).2 (T 7 0).toNatClampNeg).2)
theorem taF_L (op : Nat → Int32) (L : List Int32) : ∀ (t md : Nat) (T : Nat → Nat → Int32), taF (apL op 0 L) L.length t md T = taL L t md T
  | 0, _, _ => rfl
  | t + 1, md, T => by rw [taF, taL, hvA_L, taF_L op L t]
theorem th_1 (T : Nat → Nat → Int32) (m : Int32) (nw : Nat) : (thF T m nw).1 = if hwW T m ≤ 0 then 0 else if nw < 12 then hwW T m else 0 := by
  unfold thF
  split
  · rfl
  · split
    · rfl
    · rfl
theorem ta_all : ∀ (t md : Nat) (T : Nat → Nat → Int32) (nw : Nat), LI T → T 7 0 = nI nw → nw ≤ 12 → 13 ≤ t + nw → ∃ nv, (taL (opnL T) t md T).1 + nw = md + nv ∧ nw ≤ nv ∧ nv ≤ 12 ∧ (taL (opnL T) t md T).2 7 0 = nI nv ∧ (taL (opnL T) t md T).2 7 2 = T 7 2 + 1 ∧ (thF (taL (opnL T) t md T).2 (hvM (taL (opnL T) t md T).2) nv).1 = 0 ∧ RLe T (taL (opnL T) t md T).2 ∧ LI (taL (opnL T) t md T).2
  | 0, _, _, _, _, _, h1, h2 => by omega
  | t + 1, md, T, nw, hL, hN, h1, h2 => by
    obtain ⟨f, g1, g2, g3⟩ := id hL
    obtain ⟨nw', hw⟩ := g1.2.2.2
    have en : nw' = nw := nI_inj (by have := hw.1; omega) (by omega) (hw.2.1.symm.trans hN)
    subst en
    have ec : (T 7 0).toNatClampNeg = nw' := by rw [hN, nI_clamp (by omega)]
    rw [taL, ec]
    have eM : (hvL (T 4) (opnL T)).2 = hvM T := rfl
    rw [eM]
    rcases st_all g1 hw with ⟨-, e⟩ | ⟨b, w, b1, b2, w1, w2, n1, em, -, ew, e⟩
    · rw [e, if_neg (show ¬ (0 : Int32) < 0 by decide)]
      refine ⟨nw', rfl, Nat.le_refl _, h1, hN, rfl, ?_, RLe_refl g1, LI_rf hL⟩
      have e2 : (thF T (hvM T) nw').1 = 0 := by rw [e]
      have e3 : (thF (rfS T) (hvM (rfS T)) nw').1 = (thF T (hvM T) nw').1 := by rw [th_1, th_1]; rfl
      exact e3.trans e2
    · have hpos := (nI_ltI (a := 0) (b := w) (by omega) (by omega)).mpr w1
      rw [nI_0] at hpos
      rw [e, if_pos hpos]
      have hT : LI (tkS T (nI b) (nI w) nw') := LI_tk g1 g2 g3 hw n1 b2 ew w2
      have hN2 : (tkS T (nI b) (nI w) nw') 7 0 = nI (nw' + 1) := by
        show T 7 0 + 1 = _
        rw [hN, show (1 : Int32) = nI 1 from rfl, nI_add]
      obtain ⟨nv, k1, k2, k3, k4, k5, k6, k7, k8⟩ := ta_all t (md + 1) (tkS T (nI b) (nI w) nw') (nw' + 1) hT hN2 (by omega) (by omega)
      exact ⟨nv, by have : (taL (opnL T) t (md + 1) (tkS T (nI b) (nI w) nw')).1 + (nw' + 1) = md + 1 + nv := k1; show (taL (opnL T) t (md + 1) (tkS T (nI b) (nI w) nw')).1 + nw' = md + nv; omega, by omega, k3, k4, k5, k6, RLe_trans (RLe_tk g1 b2 ew w2) k7, k8⟩
end LIVE
