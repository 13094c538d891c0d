/-! MATH 5: the ways, as both sides tell them -/
def GrOK (S : Nat → Nat → Int32) (f : Nat → Int32) : Prop :=
  ∀ q, q < 9 → (S 1 q = f (18 + q) ∧ S 2 q = f (27 + q) ∧ S 3 q = f (36 + q)) ∧ (∃ k, k < 4 ∧ f (18 + q) = nI k) ∧ (∃ j, j < 512 ∧ f (27 + q) = nI j ∧ ∀ x, x < 9 → j.testBit x = true → q < x) ∧ ∃ b, b < 512 ∧ f (36 + q) = nI b
def wst (f : Nat → Int32) (s : Bool × Int32) (i : Nat) : Bool × Int32 :=
  if s.1 = true then (if s.2 = -1 then decide (f (18 + i) &&& 1 = 1) else decide (bitv (f (27 + s.2).toNatClampNeg) (nI i) = 1), nI i) else s
def vsF (f : Nat → Int32) (l : List Nat) : Bool × Int32 := l.foldl (wst f) (true, -1)
theorem vsF_app (f : Nat → Int32) (l : List Nat) (q : Nat) : vsF f (l ++ [q]) = wst f (vsF f l) q := by unfold vsF; rw [List.foldl_append]; rfl
theorem iwS_fold (f : Nat → Int32) {m : Nat} (hm : m < 512) : ∀ i, i ≤ 9 → iwS f (nI m) i = vsF f ((List.range i).filter (fun j => m.testBit j))
  | 0, _ => rfl
  | i + 1, h => by
    have ih := iwS_fold f hm i (by omega)
    rw [iwS, ih, List.range_succ, List.filter_append]
    by_cases c : m.testBit i = true
    · have c2 := (bv_t hm (show i < 9 by omega)).mpr c
      have e : List.filter (fun j => m.testBit j) [i] = [i] := by simp [c]
      rw [e, vsF_app]
      unfold wst
      rw [if_pos c2]
    · have c2 : ¬ bitv (nI m) (nI i) = 1 := fun h2 => c ((bv_t hm (by omega)).mp h2)
      have e : List.filter (fun j => m.testBit j) [i] = [] := by simp [c]
      rw [e, List.append_nil, if_neg c2]
      split <;> rfl
def wyB (f : Nat → Int32) (l : List Nat) : Bool := (vsF f l).1 && decide (¬ f (18 + (vsF f l).2).toNatClampNeg ≤ 1)
theorem iwB_l (f : Nat → Int32) {l : List Nat} (h : l ∈ allP) : iwB f (nI (mkL l)) = wyB f l := by
  obtain ⟨h1, h2, -⟩ := allP_in h
  have e := iwS_fold f h2 9 (by omega)
  rw [show (List.range 9).filter (fun j => (mkL l).testBit j) = l from h1] at e
  unfold iwB wyB
  rw [e]
theorem wst_f (f : Nat → Int32) {s : Bool × Int32} (h : s.1 = false) (i : Nat) : wst f s i = s := by unfold wst; rw [if_neg (by rw [h]; decide)]
theorem wst_t (f : Nat → Int32) {s : Bool × Int32} (h : s.1 = true) (i : Nat) : wst f s i = (if s.2 = -1 then decide (f (18 + i) &&& 1 = 1) else decide (bitv (f (27 + s.2).toNatClampNeg) (nI i) = 1), nI i) := by unfold wst; rw [if_pos h]
theorem vsF_last (f : Nat → Int32) {l : List Nat} {q : Nat} (h : (vsF f (l ++ [q])).1 = true) : (vsF f (l ++ [q])).2 = nI q := by
  rw [vsF_app] at h ⊢
  cases h1 : (vsF f l).1
  · rw [wst_f f h1] at h; rw [h1] at h; cases h
  · rw [wst_t f h1]
theorem tree_f (f : Nat → Int32) : ∀ (n q : Nat) (pre : List Nat), (vsF f (pre ++ [q])).1 = false → (trP n q pre).filter (wyB f) = []
  | 0, _, _, _ => rfl
  | n + 1, q, pre, h => by
    have h1 : wyB f (pre ++ [q]) = false := by unfold wyB; rw [h]; rfl
    rw [trP, List.filter_cons, h1, if_neg (by decide), loopG_filter]
    exact loopG_nil _ _ _ (fun x _ _ => tree_f f n x (pre ++ [q]) (by rw [vsF_app, wst_f f h]; exact h))
theorem mk4 : ∀ k, k < 4 → ((¬ nI k ≤ 1) ↔ ¬ nI k &&& 2 = 0) ∧ (nI k &&& 1 = 1 ↔ ¬ nI k &&& 1 = 0) := by decide +kernel
theorem n27 {q : Nat} (h : q < 9) (b : Nat) (hb : b < 100) : (nI b + nI q).toNatClampNeg = b + q := by rw [nI_add, nI_clamp (by omega)]
theorem tree_t {S : Nat → Nat → Int32} {f : Nat → Int32} (hG : GrOK S f) : ∀ (n q : Nat) (pre : List Nat), q < 9 → 9 - q ≤ n → (vsF f (pre ++ [q])).1 = true → ((trP n q pre).filter (wyB f)).map (fun l => nI (mkL l)) = walkL (S 2) (S 1) n q (nI (mkL pre))
  | 0, q, _, h1, h2, _ => by omega
  | n + 1, q, pre, hq, hn, h => by
    obtain ⟨⟨g1, g2, g3⟩, ⟨k, hk, ek⟩, ⟨j, hj, ej, -⟩, -⟩ := hG q hq
    have hl := vsF_last f h
    have hw : wyB f (pre ++ [q]) = decide (¬ nI k ≤ 1) := by
      unfold wyB
      rw [h, hl, Bool.true_and, show ((18 : Int32) + nI q).toNatClampNeg = 18 + q from n27 hq 18 (by omega), ek]
    have hah : nI (mkL pre) ||| (1 <<< (nI q &&& 31)) = nI (mkL (pre ++ [q])) := by rw [sh_nat q hq, nI_or, mkL_app]
    have htail : ((loopG (fun x => trP n x (pre ++ [q])) (q + 1) (9 - (q + 1))).filter (wyB f)).map (fun l => nI (mkL l)) = loopL (stepL (S 2) q (fun x => walkL (S 2) (S 1) n x (nI (mkL pre) ||| (1 <<< (nI q &&& 31))))) (q + 1) (9 - (q + 1)) := by
      rw [loopG_filter, loopG_map, ← loopG_L]
      refine loopG_cong _ _ (fun x hx1 hx2 => ?_)
      have hx9 : x < 9 := by omega
      have hv : vsF f ((pre ++ [q]) ++ [x]) = (decide (bitv (nI j) (nI x) = 1), nI x) := by
        rw [vsF_app, wst_t f h, hl, if_neg (nI_m1 (by omega)), show ((27 : Int32) + nI q).toNatClampNeg = 27 + q from n27 hq 27 (by omega), ej]
      show ((trP n x (pre ++ [q])).filter (wyB f)).map (fun l => nI (mkL l)) = stepL (S 2) q _ x
      unfold stepL
      rw [g2, ej]
      by_cases c : bitv (nI j) (nI x) = 1
      · rw [if_pos c, hah]
        exact tree_t hG n x (pre ++ [q]) hx9 (by omega) (by rw [hv]; exact decide_eq_true c)
      · rw [if_neg c, tree_f f n x (pre ++ [q]) (by rw [hv]; exact decide_eq_false c)]
        rfl
    rw [trP, List.filter_cons, walkL_s, ← htail, hw]
    unfold hdL
    rw [g1, ek]
    by_cases c : nI k &&& 2 = 0
    · rw [if_pos c, if_neg (by rw [decide_eq_true_iff]; exact fun h2 => ((mk4 k hk).1.mp h2) c), List.nil_append]
    · rw [if_neg c, if_pos (by rw [decide_eq_true_iff]; exact (mk4 k hk).1.mpr c), hah]
      rfl
theorem ways_all {S : Nat → Nat → Int32} {f : Nat → Int32} (hG : GrOK S f) : (allP.filter (wyB f)).map (fun l => nI (mkL l)) = allL S := by
  unfold allP allL
  rw [loopG_filter, loopG_map, ← loopG_L]
  refine loopG_cong _ _ (fun q _ hq => ?_)
  have hq9 : q < 9 := by omega
  obtain ⟨⟨g1, g2, g3⟩, ⟨k, hk, ek⟩, -, -⟩ := hG q hq9
  have hv : vsF f ([] ++ [q]) = (decide (nI k &&& 1 = 1), nI q) := by
    rw [vsF_app, wst_t f rfl, ← ek]
    rfl
  show ((trP 9 q []).filter (wyB f)).map (fun l => nI (mkL l)) = if S 1 q &&& 1 = 0 then [] else walkL (S 2) (S 1) 9 q 0
  rw [g1, ek]
  by_cases c : nI k &&& 1 = 0
  · rw [if_pos c, tree_f f 9 q [] (by rw [hv]; exact decide_eq_false (fun h => (mk4 k hk).2.mp h c))]
    rfl
  · rw [if_neg c, tree_t hG 9 q [] hq9 (by omega) (by rw [hv]; exact decide_eq_true ((mk4 k hk).2.mpr c))]
    rw [show mkL [] = 0 from rfl, nI_0]
/-- the ways in their order, the open ones -/
def ordW : List Int32 := (List.range 511).map ordF
theorem ordW_e : ordW = allP.map (fun l => nI (mkL l)) := ord_all
theorem ordW_in {x : Int32} (h : x ∈ ordW) : ∃ m, 1 ≤ m ∧ m < 512 ∧ x = nI m := by
  rw [ordW_e] at h
  obtain ⟨l, hl, e⟩ := List.mem_map.mp h
  obtain ⟨-, h2, h3⟩ := allP_in hl
  exact ⟨mkL l, h3, h2, e.symm⟩
theorem ord_ways {S : Nat → Nat → Int32} {f : Nat → Int32} (hG : GrOK S f) : ordW.filter (iwB f) = allL S := by
  rw [ordW_e, List.filter_map, ← ways_all hG]
  congr 1
  exact List.filter_congr (fun l hl => iwB_l f hl)
theorem ioS_n (f : Nat → Int32) {m : Nat} (hm : m < 512) : ∀ i, i ≤ 9 → (ioS f (nI m) i = true ↔ iwB f (nI m) = true ∧ ∀ j, j < i → m.testBit j = true → f (36 + j) &&& nI m = 0)
  | 0, _ => ⟨fun h => ⟨h, fun j hj => absurd hj (Nat.not_lt_zero _)⟩, fun h => h.1⟩
  | i + 1, h => by
    have ih := ioS_n f hm i (by omega)
    rw [ioS, Bool.and_eq_true_iff, ih, decide_eq_true_iff, bv_f hm (show i < 9 by omega)]
    constructor
    · rintro ⟨⟨h1, h2⟩, h3⟩
      refine ⟨h1, fun j hj hb => ?_⟩
      by_cases e : j = i
      · subst e
        rcases h3 with h3 | h3
        · rw [h3] at hb; cases hb
        · exact h3
      · exact h2 j (by omega) hb
    · rintro ⟨h1, h2⟩
      refine ⟨⟨h1, fun j hj => h2 j (by omega)⟩, ?_⟩
      cases c : m.testBit i
      · exact Or.inl rfl
      · exact Or.inr (h2 i (by omega) c)
theorem ioB_opR {S : Nat → Nat → Int32} {f : Nat → Int32} (hG : GrOK S f) {m : Nat} (hm : m < 512) : ioB f (nI m) = (opR (S 3) (nI m) 9 0 && iwB f (nI m)) := by
  rw [Bool.eq_iff_iff, Bool.and_eq_true_iff, opR_ac hm 9 0 rfl]
  unfold ioB
  rw [ioS_n f hm 9 (by omega)]
  constructor
  · rintro ⟨h1, h2⟩
    exact ⟨fun j _ hj hb => by rw [(hG j hj).1.2.2]; exact h2 j hj hb, h1⟩
  · rintro ⟨h1, h2⟩
    exact ⟨h2, fun j hj hb => by rw [← (hG j hj).1.2.2]; exact h1 j (Nat.zero_le _) hj hb⟩
theorem ord_open {S : Nat → Nat → Int32} {f : Nat → Int32} (hG : GrOK S f) : ordW.filter (ioB f) = opnL S := by
  unfold opnL opnF
  rw [← ord_ways hG, List.filter_filter]
  refine List.filter_congr (fun x hx => ?_)
  obtain ⟨m, -, hm, e⟩ := ordW_in hx
  subst e
  exact ioB_opR hG hm
theorem opn_in {S : Nat → Nat → Int32} {f : Nat → Int32} (hG : GrOK S f) {x : Int32} (h : x ∈ opnL S) : ∃ m, 1 ≤ m ∧ m < 512 ∧ x = nI m := by
  rw [← ord_open hG] at h
  exact ordW_in (List.mem_filter.mp h).1
theorem all_in {S : Nat → Nat → Int32} {f : Nat → Int32} (hG : GrOK S f) {x : Int32} (h : x ∈ allL S) : ∃ m, 1 ≤ m ∧ m < 512 ∧ x = nI m := by
  rw [← ord_ways hG] at h
  exact ordW_in (List.mem_filter.mp h).1
