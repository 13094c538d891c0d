/-! P27 3: the heaviest way, the main piece -/
/-- the best of some sets: the greatest weight, then the first place -/
def Bst (w : Nat → Nat) (P : Nat → Prop) (b : Nat) : Prop := P b ∧ ∀ m, P m → w m < w b ∨ (w m = w b ∧ poR b 9 ≤ poR m 9)
theorem Bst_u {w : Nat → Nat} {P : Nat → Prop} {a b : Nat} (hP : ∀ m, P m → m < 512) (ha : Bst w P a) (hb : Bst w P b) : a = b := by
  have h1 := ha.2 b hb.1
  have h2 := hb.2 a ha.1
  refine po_inj (hP a ha.1) (hP b hb.1) ?_
  omega
section BEST
variable {S V : Nat → Nat → Int32} {f : Nat → Int32}
def wtN (S : Nat → Nat → Int32) (m : Nat) : Nat := (wtF (S 4) (nI m) 9).toNatClampNeg
theorem wtN_e (hR : RsOK S f) {m : Nat} (h1 : 1 ≤ m) (h2 : m < 512) : wtF (S 4) (nI m) 9 = nI (wtN S m) ∧ wmF f (nI m) 9 = nI (wtN S m) ∧ wtN S m ≤ 999 := by
  obtain ⟨w, hw, e1, e2⟩ := wt_eq hR h1 h2
  have : wtN S m = w := by unfold wtN; rw [e1, nI_clamp (by omega)]
  rw [this]
  exact ⟨e1, e2, hw⟩
/-- the object's own search -/
def hvL (r : Nat → Int32) (L : List Int32) : Int32 × Int32 := L.foldl (hbX r) (-1, -1)
theorem hvA_L (r op : Nat → Int32) (L : List Int32) : hvA r (apL op 0 L) L.length = hvL r L := by
  rw [hv_fold r op L L.length (Nat.le_refl _), List.take_length]
  rfl
theorem neg_le (w : Nat) (h : w ≤ 999) : ¬ nI w ≤ (-1 : Int32) := by
  have : ∀ w : Nat, w ≤ 999 → ¬ nI w ≤ (-1 : Int32) := by decide +kernel
  exact this w h
theorem hv_best (hR : RsOK S f) : ∀ (L : List Nat), (∀ m ∈ L, 1 ≤ m ∧ m < 512) → L.Pairwise (fun a b => poR a 9 < poR b 9) → ∀ (D : List Nat) (s : Int32 × Int32), (∀ d ∈ D, ∀ m ∈ L, poR d 9 < poR m 9) → ((s = (-1, -1) ∧ D = []) ∨ ∃ b, s = (nI (wtN S b), nI b) ∧ 1 ≤ b ∧ b < 512 ∧ Bst (wtN S) (· ∈ D) b) →
    (((L.map nI).foldl (hbX (S 4)) s = (-1, -1) ∧ D ++ L = []) ∨ ∃ b, (L.map nI).foldl (hbX (S 4)) s = (nI (wtN S b), nI b) ∧ 1 ≤ b ∧ b < 512 ∧ Bst (wtN S) (· ∈ D ++ L) b)
  | [], _, _, D, s, _, h => by
    rw [List.append_nil]; exact h
  | x :: L, hL, hp, D, s, hD, h => by
    obtain ⟨x1, x2⟩ := hL x List.mem_cons_self
    obtain ⟨p1, p2⟩ := List.pairwise_cons.mp hp
    obtain ⟨e1, -, e3⟩ := wtN_e hR x1 x2
    have ih := hv_best hR L (fun m hm => hL m (List.mem_cons_of_mem _ hm)) p2 (D ++ [x]) (hbX (S 4) s (nI x)) (fun d hd m hm => by
      rcases List.mem_append.mp hd with h1 | h1
      · exact hD d h1 m (List.mem_cons_of_mem _ hm)
      · rw [List.mem_singleton.mp h1]; exact p1 m hm) (Or.inr ?_)
    · rw [List.append_assoc] at ih
      exact ih
    · unfold hbX
      rw [e1]
      rcases h with ⟨rfl, rfl⟩ | ⟨b, rfl, b1, b2, b3⟩
      · refine ⟨x, by rw [if_neg (neg_le _ e3)], x1, x2, List.mem_singleton.mpr rfl, fun m hm => ?_⟩
        rw [List.mem_singleton.mp hm]
        exact Or.inr ⟨rfl, Nat.le_refl _⟩
      · obtain ⟨-, -, e4⟩ := wtN_e hR b1 b2
        have hlt := hD b b3.1 x List.mem_cons_self
        have hle := nI_leI (a := wtN S x) (b := wtN S b) (by omega) (by omega)
        by_cases c : wtN S x ≤ wtN S b
        · refine ⟨b, by rw [if_pos (hle.mpr c)], b1, b2, List.mem_append_left _ b3.1, fun m hm => ?_⟩
          rcases List.mem_append.mp hm with h1 | h1
          · exact b3.2 m h1
          · rw [List.mem_singleton.mp h1]; omega
        · refine ⟨x, by rw [if_neg (fun h9 => c (hle.mp h9))], x1, x2, List.mem_append_right _ (List.mem_singleton.mpr rfl), fun m hm => ?_⟩
          rcases List.mem_append.mp hm with h1 | h1
          · have := b3.2 m h1; omega
          · rw [List.mem_singleton.mp h1]; exact Or.inr ⟨rfl, Nat.le_refl _⟩
theorem hv_all (hR : RsOK S f) : (hvL (S 4) ((oL f).map nI) = (-1, -1) ∧ oL f = []) ∨ ∃ b, hvL (S 4) ((oL f).map nI) = (nI (wtN S b), nI b) ∧ 1 ≤ b ∧ b < 512 ∧ Bst (wtN S) (· ∈ oL f) b := by
  have h := hv_best hR (oL f) (fun m hm => ⟨(oL_in.mp hm).1, (oL_in.mp hm).2.1⟩) (oL_pw f) [] (-1, -1) (fun d hd => by cases hd) (Or.inl ⟨rfl, rfl⟩)
  rw [List.nil_append] at h
  exact h
/-- the law's search, by number: the set, its weight -/
def bsF (f : Nat → Int32) (S : Nat → Nat → Int32) : Nat → Int32 × Int32
  | 0 => (0, 0)
  | t + 1 => if ioB f (nI (t + 1)) = true then (if (bsF f S t).1 = 0 ∨ (bsF f S t).2 < lsW (S 4) (nI (t + 1)) 9 ∨ (lsW (S 4) (nI (t + 1)) 9 = (bsF f S t).2 ∧ ahB (t + 1) (bsF f S t).1.toNatClampNeg = true) then (nI (t + 1), lsW (S 4) (nI (t + 1)) 9) else bsF f S t) else bsF f S t
def bsP (f : Nat → Int32) (t m : Nat) : Prop := 1 ≤ m ∧ m ≤ t ∧ ioB f (nI m) = true
theorem bs_t (hR : RsOK S f) : ∀ t, t ≤ 511 → (bsF f S t = (0, 0) ∧ ∀ m, ¬ bsP f t m) ∨ ∃ b, bsF f S t = (nI b, nI (wtN S b)) ∧ Bst (wtN S) (bsP f t) b
  | 0, _ => Or.inl ⟨rfl, fun m h => by have := h.1; have := h.2.1; omega⟩
  | t + 1, ht => by
    have ih := bs_t hR t (by omega)
    obtain ⟨e1, e2, e3⟩ := wtN_e hR (m := t + 1) (by omega) (by omega)
    have el : lsW (S 4) (nI (t + 1)) 9 = nI (wtN S (t + 1)) := (lsW_wm hR _ 9 (Nat.le_refl 9)).trans e2
    have ps : ∀ m, bsP f (t + 1) m → bsP f t m ∨ (m = t + 1 ∧ ioB f (nI (t + 1)) = true) := fun m ⟨h1, h2, h3⟩ => by
      by_cases c : m = t + 1
      · subst c; exact Or.inr ⟨rfl, h3⟩
      · exact Or.inl ⟨h1, by omega, h3⟩
    have pw : ∀ m, bsP f t m → bsP f (t + 1) m := fun m ⟨h1, h2, h3⟩ => ⟨h1, by omega, h3⟩
    rw [bsF, el]
    by_cases ho : ioB f (nI (t + 1)) = true
    · rw [if_pos ho]
      have px : bsP f (t + 1) (t + 1) := ⟨by omega, Nat.le_refl _, ho⟩
      rcases ih with ⟨h1, h2⟩ | ⟨b, h1, h2, h3⟩
      · rw [h1, if_pos (Or.inl rfl)]
        refine Or.inr ⟨t + 1, rfl, px, fun m hm => ?_⟩
        rcases ps m hm with h | h
        · exact absurd h (h2 m)
        · rw [h.1]; exact Or.inr ⟨rfl, Nat.le_refl _⟩
      · obtain ⟨b1, b2, b4⟩ := h2
        obtain ⟨-, -, eb⟩ := wtN_e hR (m := b) b1 (by omega)
        have hlt := nI_ltI (a := wtN S b) (b := wtN S (t + 1)) (by omega) (by omega)
        have heq := nI_eq (a := wtN S (t + 1)) (b := wtN S b) (by omega) (by omega)
        rw [h1]
        have c0 : ¬ nI b = 0 := fun h => by
          have := nI_inj (a := b) (b := 0) (by omega) (by omega) (h.trans nI_0.symm)
          omega
        have ecl : (nI b).toNatClampNeg = b := nI_clamp (by omega)
        have hah : ahB (t + 1) b = true ↔ poR (t + 1) 9 < poR b 9 := by rw [ahB_po (by omega) (by omega)]; exact decide_eq_true_iff
        have hne : poR (t + 1) 9 ≠ poR b 9 := fun h => by have := po_inj (by omega) (by omega) h; omega
        by_cases c : wtN S b < wtN S (t + 1) ∨ (wtN S (t + 1) = wtN S b ∧ poR (t + 1) 9 < poR b 9)
        · rw [if_pos (by
            rcases c with c | c
            · exact Or.inr (Or.inl (hlt.mpr c))
            · exact Or.inr (Or.inr ⟨heq.mpr c.1, by show ahB (t + 1) (nI b).toNatClampNeg = true; rw [ecl]; exact hah.mpr c.2⟩))]
          refine Or.inr ⟨t + 1, rfl, px, fun m hm => ?_⟩
          rcases ps m hm with h | h
          · have := h3 m h; omega
          · rw [h.1]; exact Or.inr ⟨rfl, Nat.le_refl _⟩
        · rw [if_neg (by
            rintro (h | h | h)
            · exact c0 h
            · exact c (Or.inl (hlt.mp h))
            · have h9 := h.2
              rw [show (nI b, nI (wtN S b)).1.toNatClampNeg = b from ecl] at h9
              exact c (Or.inr ⟨heq.mp h.1, hah.mp h9⟩))]
          refine Or.inr ⟨b, rfl, ⟨b1, by omega, b4⟩, fun m hm => ?_⟩
          rcases ps m hm with h | h
          · exact h3 m h
          · rw [h.1]; omega
    · rw [if_neg ho]
      have pe : ∀ m, bsP f (t + 1) m → bsP f t m := fun m hm => (ps m hm).elim id (fun h => absurd h.2 ho)
      rcases ih with ⟨h1, h2⟩ | ⟨b, h1, h2, h3⟩
      · exact Or.inl ⟨h1, fun m hm => h2 m (pe m hm)⟩
      · exact Or.inr ⟨b, h1, pw b h2, fun m hm => h3 m (pe m hm)⟩
/-- both searches find the same -/
theorem best_eq (hR : RsOK S f) : (bsF f S 511 = (0, 0) ∧ hvL (S 4) ((oL f).map nI) = (-1, -1)) ∨ ∃ b, 1 ≤ b ∧ b < 512 ∧ bsF f S 511 = (nI b, nI (wtN S b)) ∧ hvL (S 4) ((oL f).map nI) = (nI (wtN S b), nI b) ∧ wtN S b ≤ 999 ∧ wtF (S 4) (nI b) 9 = nI (wtN S b) := by
  have hP : ∀ m, bsP f 511 m ↔ m ∈ oL f := fun m => ⟨fun h => oL_in.mpr ⟨h.1, by have := h.2.1; omega, h.2.2⟩, fun h => ⟨(oL_in.mp h).1, by have := (oL_in.mp h).2.1; omega, (oL_in.mp h).2.2⟩⟩
  rcases bs_t hR 511 (Nat.le_refl _) with ⟨h1, h2⟩ | ⟨b, h1, h2, h3⟩ <;> rcases hv_all hR with ⟨g1, g2⟩ | ⟨c, g1, c1, c2, g3⟩
  · exact Or.inl ⟨h1, g1⟩
  · exact absurd ((hP c).mpr g3.1) (h2 c)
  · have := (hP b).mp h2; rw [g2] at this; cases this
  · have e : b = c := Bst_u (P := bsP f 511) (fun m hm => by have := hm.2.1; omega) ⟨h2, h3⟩ ⟨(hP c).mpr g3.1, fun m hm => g3.2 m ((hP m).mp hm)⟩
    subst e
    obtain ⟨e1, -, e3⟩ := wtN_e hR c1 c2
    exact Or.inr ⟨b, c1, c2, h1, g1, e3, e1⟩
end BEST
/-- the main piece, sought from the last one down -/
def mdF (c : Nat → Int32) : Nat → Int32
  | 0 => -1
  | i + 1 => if 0 < c (8 - i) ∧ (mdF c i = -1 ∨ c (mdF c i).toNatClampNeg ≤ c (8 - i)) then nI (8 - i) else mdF c i
/-- sought from the first one up -/
def muF (c : Nat → Int32) : Nat → Int32 × Int32
  | 0 => (-1, 0)
  | i + 1 => if c i ≤ (muF c i).2 then muF c i else (nI i, c i)
theorem mo_mu (f : Nat → Int32) : ∀ i, moF f i = muF (fun q => wyF f (1 <<< (nI q &&& 31)) true 511) i
  | 0 => rfl
  | i + 1 => by rw [moF, muF, mo_mu f i]
def mnP (g : Nat → Nat) (lo hi b : Nat) : Prop := lo ≤ b ∧ b < hi ∧ 0 < g b ∧ ∀ m, lo ≤ m → m < hi → g m < g b ∨ (g m = g b ∧ b ≤ m)
theorem mu_t {c : Nat → Int32} {g : Nat → Nat} (hc : ∀ q, q < 9 → c q = nI (g q) ∧ g q ≤ 511) : ∀ i, i ≤ 9 → (muF c i = (-1, 0) ∧ ∀ m, m < i → g m = 0) ∨ ∃ b, muF c i = (nI b, nI (g b)) ∧ mnP g 0 i b
  | 0, _ => Or.inl ⟨rfl, fun m h => by omega⟩
  | i + 1, hi => by
    obtain ⟨c1, c2⟩ := hc i (by omega)
    rw [muF, c1]
    rcases mu_t hc i (by omega) with ⟨h1, h2⟩ | ⟨b, h1, h3, h4, h5, h6⟩
    · rw [h1]
      have hle := nI_leI (a := g i) (b := 0) (by omega) (by omega)
      rw [nI_0] at hle
      by_cases k : g i ≤ 0
      · rw [if_pos (hle.mpr k)]
        exact Or.inl ⟨rfl, fun m hm => by by_cases e : m = i; · subst e; omega
                                          · exact h2 m (by omega)⟩
      · rw [if_neg (fun h => k (hle.mp h))]
        refine Or.inr ⟨i, rfl, by omega, by omega, by omega, fun m _ hm => ?_⟩
        by_cases e : m = i
        · subst e; exact Or.inr ⟨rfl, Nat.le_refl _⟩
        · have := h2 m (by omega); omega
    · obtain ⟨b1, b2⟩ := hc b (by omega)
      rw [h1]
      have hle := nI_leI (a := g i) (b := g b) (by omega) (by omega)
      by_cases k : g i ≤ g b
      · rw [if_pos (hle.mpr k)]
        refine Or.inr ⟨b, rfl, h3, by omega, h5, fun m _ hm => ?_⟩
        by_cases e : m = i
        · subst e; omega
        · exact h6 m (by omega) (by omega)
      · rw [if_neg (fun h => k (hle.mp h))]
        refine Or.inr ⟨i, rfl, by omega, by omega, by omega, fun m _ hm => ?_⟩
        by_cases e : m = i
        · subst e; exact Or.inr ⟨rfl, Nat.le_refl _⟩
        · have := h6 m (by omega) (by omega); omega
theorem md_t {c : Nat → Int32} {g : Nat → Nat} (hc : ∀ q, q < 9 → c q = nI (g q) ∧ g q ≤ 511) : ∀ i, i ≤ 9 → (mdF c i = -1 ∧ ∀ m, 9 - i ≤ m → m < 9 → g m = 0) ∨ ∃ b, mdF c i = nI b ∧ mnP g (9 - i) 9 b
  | 0, _ => Or.inl ⟨rfl, fun m h => by omega⟩
  | i + 1, hi => by
    obtain ⟨c1, c2⟩ := hc (8 - i) (by omega)
    have hlt := nI_ltI (a := 0) (b := g (8 - i)) (by omega) (by omega)
    rw [nI_0] at hlt
    rw [mdF, c1]
    rcases md_t hc i (by omega) with ⟨h1, h2⟩ | ⟨b, h1, h3, h4, h5, h6⟩
    · rw [h1]
      by_cases k : 0 < g (8 - i)
      · rw [if_pos ⟨hlt.mpr k, Or.inl rfl⟩]
        refine Or.inr ⟨8 - i, rfl, by omega, by omega, k, fun m hm hm9 => ?_⟩
        by_cases e : m = 8 - i
        · rw [e]; exact Or.inr ⟨rfl, Nat.le_refl _⟩
        · have := h2 m (by omega) hm9; omega
      · rw [if_neg (fun h => k (hlt.mp h.1))]
        refine Or.inl ⟨rfl, fun m hm hm9 => ?_⟩
        by_cases e : m = 8 - i
        · rw [e]; omega
        · exact h2 m (by omega) hm9
    · obtain ⟨b1, b2⟩ := hc b h4
      have hle := nI_leI (a := g b) (b := g (8 - i)) (by omega) (by omega)
      have hm1 : ¬ nI b = -1 := nI_m1 (by omega)
      rw [h1, nI_clamp (show b < 2 ^ 31 by omega), b1]
      by_cases k : 0 < g (8 - i) ∧ g b ≤ g (8 - i)
      · rw [if_pos ⟨hlt.mpr k.1, Or.inr (hle.mpr k.2)⟩]
        refine Or.inr ⟨8 - i, rfl, by omega, by omega, k.1, fun m hm hm9 => ?_⟩
        by_cases e : m = 8 - i
        · rw [e]; exact Or.inr ⟨rfl, Nat.le_refl _⟩
        · have := h6 m (by omega) hm9; omega
      · rw [if_neg (fun h => k ⟨hlt.mp h.1, (h.2.resolve_left hm1) |> hle.mp⟩)]
        refine Or.inr ⟨b, rfl, by omega, h4, h5, fun m hm hm9 => ?_⟩
        by_cases e : m = 8 - i
        · rw [e]; omega
        · exact h6 m (by omega) hm9
theorem md_mu {c : Nat → Int32} {g : Nat → Nat} (hc : ∀ q, q < 9 → c q = nI (g q) ∧ g q ≤ 511) : mdF c 9 = (muF c 9).1 := by
  rcases mu_t hc 9 (Nat.le_refl 9) with ⟨h1, h2⟩ | ⟨b, h1, h3, h4, h5, h6⟩ <;> rcases md_t hc 9 (Nat.le_refl 9) with ⟨g1, g2⟩ | ⟨d, g1, g3, g4, g5, g6⟩
  · rw [h1, g1]
  · have := h2 d g4; omega
  · have := g2 b (by omega) h4; omega
  · have e1 := h6 d (by omega) g4
    have e2 := g6 b (by omega) h4
    rw [h1, g1]
    exact congrArg nI (by omega)
