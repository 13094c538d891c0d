/-! P27 8: all that is told goes together -/
theorem dnF_9 (g f : Nat → Int32) {j : Nat} (h : j < 9) : dnF g f 9 j = g j := dnF_in g f (by omega) h
theorem q8 {i q : Nat} (h : 9 - i = q + 1) : 8 - i = q := by omega
theorem orB_s (j : Int32) (t : Nat) : orB j (t + 1) = orB j t ||| (bitv j (nI t) <<< (nI t &&& 31)) := rfl
theorem orB_q {S : Nat → Nat → Int32} {f : Nat → Int32} (hG : GrOK S f) {q : Nat} (hq : q < 9) : orB (S 2 q) 9 = S 2 q := by
  obtain ⟨e1, -, e3, -⟩ := jnN_ok hG hq
  rw [e1]; exact orB_9 _ e3
theorem up2 (g : Nat → Int32) (q : Nat) (x y : Int32) : upd (upd g q x) q y = upd g q y := up_up g q x y
theorem dnF_q (g h : Nat → Int32) {i q : Nat} (hq : 9 - i = q + 1) : dnF g h i q = h q := if_neg (by omega)
theorem up_self (g : Nat → Int32) (q : Nat) : upd g q (g q) = g := by
  funext j
  by_cases e : j = q
  · subst e; exact upd_e _ _ _
  · exact upd_n _ _ e
/-- joins to piece q out of a smaller or equal one are none -/
theorem jn_low {S : Nat → Nat → Int32} {f : Nat → Int32} (hG : GrOK S f) {q z : Nat} (hq : q < 9) (hz : z < 9) (h : ¬ q < z) : bitv (S 2 q) (nI z) = 0 := by
  obtain ⟨e1, -, e3, e4⟩ := jnN_ok hG hq
  rw [e1, bv_f e3 hz]
  cases hb : (jnN f q).testBit z
  · rfl
  · exact absurd (e4 z hz hb) h
theorem mn_row {S : Nat → Nat → Int32} {f : Nat → Int32} (hG : GrOK S f) {q : Nat} (hq : q < 9) : mnF (S 2 q) 9 = bcF (S 2 q) := by
  obtain ⟨e1, -, e3, -⟩ := jnN_ok hG hq
  rw [e1, (bc_cn _ e3).1, (bc_cn _ e3).2]
theorem mn_bh {S : Nat → Nat → Int32} {f : Nat → Int32} (hG : GrOK S f) {q : Nat} (hq : q < 9) : mnF (bhG (S 2) q) 9 = bcF (bhG (S 2) q) := by
  obtain ⟨e1, e2⟩ := bh_B hG q hq
  rw [e1, (bc_cn _ e2).1, (bc_cn _ e2).2]
theorem rs_ok {S : Nat → Nat → Int32} {f : Nat → Int32} (h : SR S f) {q : Nat} (hq : q < 9) : ¬ S 4 q < 0 ∧ ¬ S 0 q < S 4 q := by
  obtain ⟨h1, h2, h3, -⟩ := h
  obtain ⟨c, r, a1, a2, a3, a4⟩ := h3 q hq
  rw [h2 q hq, (h1.2.1 q hq).1, a3, a4]
  exact ⟨nI_pos (by omega), fun h9 => by have := (nI_ltI (a := c) (b := r) (by omega) (by omega)).mp h9; omega⟩
theorem no_self2 {S : Nat → Nat → Int32} {f : Nat → Int32} (h : SR S f) (h2 : BR S) {q : Nat} (hq : q < 9) : bitv (S 3 q) (nI q) = 0 := by
  obtain ⟨e1, l1⟩ := bN_e h.1.1 hq
  rw [e1, bv_f l1 hq]
  exact (h2 q q hq hq).2
theorem wy_n {V : Nat → Nat → Int32} {f : Nat → Int32} (hG : GrOK V f) (pm : Int32) : ∃ n, n ≤ 511 ∧ wyF f pm true 511 = nI n := by
  refine ⟨(opnL V).countP (fun x => decide (x &&& pm = pm)), ?_, wy_opn hG pm⟩
  have h1 := List.countP_le_length (p := fun x => decide (x &&& pm = pm)) (l := opnL V)
  have h2 := oL_511 f
  have h3 := oL_len hG
  omega
theorem main_eq {S : Nat → Nat → Int32} {f : Nat → Int32} (hG : GrOK S f) : mdF (fun q => wyF f (1 <<< (nI q &&& 31)) true 511) 9 = (moF f 9).1 := by
  rw [mo_mu]
  refine md_mu (g := fun q => (wyF f (1 <<< (nI q &&& 31)) true 511).toNatClampNeg) (fun q _ => ?_)
  obtain ⟨n, hn, e⟩ := wy_n hG (1 <<< (nI q &&& 31))
  show wyF f (1 <<< (nI q &&& 31)) true 511 = nI (wyF f (1 <<< (nI q &&& 31)) true 511).toNatClampNeg ∧ _
  rw [e, nI_clamp (by omega)]
  exact ⟨rfl, hn⟩
theorem md_in {c : Nat → Int32} : ∀ i, i ≤ 9 → mdF c i = -1 ∨ ∃ j, j < 9 ∧ mdF c i = nI j
  | 0, _ => Or.inl rfl
  | i + 1, hi => by
    rw [mdF]
    split
    · exact Or.inr ⟨8 - i, by omega, rfl⟩
    · exact md_in i (by omega)
theorem open_n {S : Nat → Nat → Int32} {f : Nat → Int32} (hG : GrOK S f) : wyF f 0 true 511 = nI (oL f).length := by
  rw [← count_6 hG, oL_len hG]
theorem bs_in (f : Nat → Int32) (S : Nat → Nat → Int32) : ∀ t, bsF f S t = (0, 0) ∨ ∃ b, 1 ≤ b ∧ b ≤ t ∧ (bsF f S t).1 = nI b
  | 0 => Or.inl rfl
  | t + 1 => by
    have ih := bs_in f S t
    have up : bsF f S t = (0, 0) ∨ ∃ b, 1 ≤ b ∧ b ≤ t + 1 ∧ (bsF f S t).1 = nI b := ih.imp id (fun ⟨b, h1, h2, h3⟩ => ⟨b, h1, by omega, h3⟩)
    rw [bsF]
    split
    · split
      · exact Or.inr ⟨t + 1, by omega, Nat.le_refl _, rfl⟩
      · exact up
    · exact up

theorem dif_len (f : Nat → Int32) : (if h : (oL f).length < (oL f).length then nI (oL f)[(oL f).length] else (-1 : Int32)) = -1 := dif_neg (Nat.lt_irrefl _)
def mnS (S : Nat → Nat → Int32) (q : Nat) : Int32 := mnF (S 2 q) 9
theorem many_e {S : Nat → Nat → Int32} {f : Nat → Int32} (hG : GrOK S f) : dsF (mnS S) 9 = cjF (S 2) 9 := by
  rw [dsF_9, cj_sm]
  exact smF_congr 9 (fun q hq => mn_row hG hq)
theorem up_z (g : Nat → Int32) {i q : Nat} (hq : 9 - i = q + 1) : dnF g (fun _ => 0) i = upd (dnF g (fun _ => 0) i) q 0 := by
  funext j
  by_cases e : j = q
  · subst e; rw [upd_e, dnF_q _ _ hq]
  · rw [upd_n _ _ e]
def inW (f : Nat → Int32) (b : Bool) (t : Nat) : Nat → Int32 := fun q => wyF f (1 <<< (nI q &&& 31)) b t
theorem fil_at (g h : Nat → Int32) {n j : Nat} (hj : j < n) : fil g h n j = g j := if_pos hj
theorem fil_n (g h : Nat → Int32) {n j : Nat} (hj : ¬ j < n) : fil g h n j = h j := if_neg hj
theorem in_t (f : Nat → Int32) (b : Bool) {t j : Nat} (h1 : 1 ≤ t) (h2 : t < 512) (hj : j < 9) : inW f b t j = inW f b (t - 1) j + (if bitv (nI t) (nI j) = 1 then bI (if b = true then ioB f (nI t) else iwB f (nI t)) else 0) := by
  have e := wyF_s f (1 <<< (nI j &&& 31)) b h1
  rw [show t + 1 - 1 = t by omega] at e
  unfold inW
  rw [e]
  by_cases c : bitv (nI t) (nI j) = 1
  · rw [if_pos c, if_pos ((pm_bit t h2 j hj).mpr c)]
  · rw [if_neg c, if_neg (fun h9 => c ((pm_bit t h2 j hj).mp h9))]
theorem in_up (f : Nat → Int32) (b : Bool) {t j : Nat} {v : Int32} (h1 : 1 ≤ t) (h2 : t < 512) (hj : j < 9) (hb : bitv (nI t) (nI j) = 1) (hv : v = bI (if b = true then ioB f (nI t) else iwB f (nI t))) : upd (fil (inW f b t) (inW f b (t - 1)) j) j ((fil (inW f b t) (inW f b (t - 1)) j) j + v) = fil (inW f b t) (inW f b (t - 1)) (j + 1) := by
  rw [fil_n _ _ (Nat.lt_irrefl j), hv]
  have e := in_t f b h1 h2 hj
  rw [if_pos hb] at e
  rw [← e]
  exact fil_s _ _ _
theorem in_no (f : Nat → Int32) (b : Bool) {t j : Nat} (h1 : 1 ≤ t) (h2 : t < 512) (hj : j < 9) (hb : ¬ bitv (nI t) (nI j) = 1) : fil (inW f b t) (inW f b (t - 1)) j = fil (inW f b t) (inW f b (t - 1)) (j + 1) := by
  have e := in_t f b h1 h2 hj
  rw [if_neg hb, Int32.add_zero] at e
  rw [← fil_s, e]
  have h := up_self (fil (inW f b t) (inW f b (t - 1)) j) j
  rw [fil_n _ _ (Nat.lt_irrefl j)] at h
  exact h.symm
theorem wy_t (f : Nat → Int32) (b : Bool) {t : Nat} {v : Int32} (h1 : 1 ≤ t) (hv : v = bI (if b = true then ioB f (nI t) else iwB f (nI t))) : wyF f 0 b (t - 1) + v = wyF f 0 b (t + 1 - 1) := by
  rw [wyF_s f 0 b h1, if_pos (Int32.and_zero), hv]
section ROWS
variable {S : Nat → Nat → Int32} {f : Nat → Int32} {t : Nat}
theorem rw_a (hG : GrOK S f) (h1 : 1 ≤ t) (h : apF (bhG (S 2)) (nI t) 9 = false) : rwT f (t - 1) = rwT f (t + 1 - 1) := by
  rw [ap_rw hG (nI t) 9 (Nat.le_refl 9)] at h
  rw [rwT_s f h1, if_neg (by rw [h]; decide)]
theorem rw_b (hG : GrOK S f) (h1 : 1 ≤ t) (h : apF (bhG (S 2)) (nI t) 9 = true) (c : mnF (nI t) 9 ≤ rwT f (t - 1)) : rwT f (t - 1) = rwT f (t + 1 - 1) := by
  rw [ap_rw hG (nI t) 9 (Nat.le_refl 9)] at h
  rw [rwT_s f h1, if_pos h, if_pos c]
theorem rw_c (hG : GrOK S f) (h1 : 1 ≤ t) (h : apF (bhG (S 2)) (nI t) 9 = true) (c : ¬ mnF (nI t) 9 ≤ rwT f (t - 1)) : mnF (nI t) 9 = rwT f (t + 1 - 1) := by
  rw [ap_rw hG (nI t) 9 (Nat.le_refl 9)] at h
  rw [rwT_s f h1, if_pos h, if_neg c]
theorem bsF_s (f : Nat → Int32) (S : Nat → Nat → Int32) (h1 : 1 ≤ t) : bsF f S (t + 1 - 1) = if ioB f (nI t) = true then (if (bsF f S (t - 1)).1 = 0 ∨ (bsF f S (t - 1)).2 < lsW (S 4) (nI t) 9 ∨ (lsW (S 4) (nI t) 9 = (bsF f S (t - 1)).2 ∧ ahB t (bsF f S (t - 1)).1.toNatClampNeg = true) then (nI t, lsW (S 4) (nI t) 9) else bsF f S (t - 1)) else bsF f S (t - 1) := by
  obtain ⟨u, rfl⟩ : ∃ u, t = u + 1 := ⟨t - 1, by omega⟩
  rfl
theorem bs_no (h1 : 1 ≤ t) (h : ioB f (nI t) = false) : bsF f S (t + 1 - 1) = bsF f S (t - 1) := by
  rw [bsF_s f S h1, if_neg (by rw [h]; decide)]
theorem bs_set (h1 : 1 ≤ t) (h : ioB f (nI t) = true) (c : (bsF f S (t - 1)).1 = 0 ∨ (bsF f S (t - 1)).2 < lsW (S 4) (nI t) 9 ∨ (lsW (S 4) (nI t) 9 = (bsF f S (t - 1)).2 ∧ ahB t (bsF f S (t - 1)).1.toNatClampNeg = true)) : bsF f S (t + 1 - 1) = (nI t, lsW (S 4) (nI t) 9) := by
  rw [bsF_s f S h1, if_pos h, if_pos c]
theorem bs_keep (h1 : 1 ≤ t) (h : ioB f (nI t) = true) (c : ¬ ((bsF f S (t - 1)).1 = 0 ∨ (bsF f S (t - 1)).2 < lsW (S 4) (nI t) 9 ∨ (lsW (S 4) (nI t) 9 = (bsF f S (t - 1)).2 ∧ ahB t (bsF f S (t - 1)).1.toNatClampNeg = true))) : bsF f S (t + 1 - 1) = bsF f S (t - 1) := by
  rw [bsF_s f S h1, if_pos h, if_neg c]
theorem best2 (h : SR S f) : ((bsF f S 511).1 = 0 → hwF S (hvM S) = -1 ∧ hvM S = -1) ∧ (¬ (bsF f S 511).1 = 0 → hwF S (hvM S) = (bsF f S 511).2 ∧ hvM S = (bsF f S 511).1) := by
  have hb := best_eq (f := f) h.rs
  rw [← opn_oL h.1.1] at hb
  rcases hb with ⟨e1, e⟩ | ⟨b, b1, b2, e1, e, e3, e4⟩
  · have em : hvM S = -1 := by unfold hvM; rw [e]
    rw [e1, em]
    exact ⟨fun _ => ⟨by unfold hwF; rw [if_pos rfl], rfl⟩, fun h9 => absurd rfl h9⟩
  · have em : hvM S = nI b := by unfold hvM; rw [e]
    rw [e1, em]
    refine ⟨fun h9 => ?_, fun _ => ⟨?_, rfl⟩⟩
    · have h8 : nI b = 0 := h9
      have := nI_inj (a := b) (b := 0) (by omega) (by omega) (h8.trans nI_0.symm)
      omega
    · show hwF S (nI b) = nI (wtN S b)
      unfold hwF; rw [if_neg (nI_m1 b2), e4]
end ROWS
def CO (f : Nat → Int32) : Nat → Int32 := fun q => wyF f (1 <<< (nI q &&& 31)) true 511
theorem md_set {c : Nat → Int32} {u q : Nat} (hq : 9 - u = q + 1) (h1 : 0 < c q) (h2 : mdF c u = -1 ∨ c (mdF c u).toNatClampNeg ≤ c q) : mdF c (u + 1) = nI q := by
  rw [mdF, q8 hq, if_pos ⟨h1, h2⟩]
theorem md_keep {c : Nat → Int32} {u q : Nat} (hq : 9 - u = q + 1) (h : ¬ (0 < c q ∧ (mdF c u = -1 ∨ c (mdF c u).toNatClampNeg ≤ c q))) : mdF c (u + 1) = mdF c u := by
  rw [mdF, q8 hq, if_neg h]
theorem oL_st (f : Nat → Int32) {i j a b : Nat} (hij : i < j) (hj : j < (oL f).length) (ha : a = (oL f)[i]) (hb : b = (oL f)[j]) : ahB a b = true ∧ ¬ a = b ∧ a < 512 ∧ b < 512 := by
  have h1 := List.pairwise_iff_getElem.mp (oL_pw f) i j (by omega) hj hij
  obtain ⟨a1, a2, -⟩ := oL_in.mp (List.getElem_mem (l := oL f) (show i < (oL f).length by omega))
  obtain ⟨b1, b2, -⟩ := oL_in.mp (List.getElem_mem (l := oL f) hj)
  rw [← ha, ← hb] at h1
  rw [← ha] at a2
  rw [← hb] at b2
  refine ⟨by rw [ahB_po a2 b2]; exact decide_eq_true h1, fun e => ?_, a2, b2⟩
  rw [e] at h1
  omega
theorem dc_sh {a b : Nat} (hb : b ≤ a) (h0 : 0 < a) (ha : a < 8992) : Op.cmpValue (FP.dcmp (shF (nI a) (nI b)) (shF (nI a) (nI b))) .l = 0 := by
  by_cases e : b = a
  · subst e; rw [sh_0 h0 ha]; decide +kernel
  · obtain ⟨x, y, x1, x2, hy, eq⟩ := sh_n (n := a - b) (by omega) (by omega) ha
    unfold shF
    rw [nI_subn hb, eq, cm_n (by omega) (Nat.le_refl x) (by omega) hy hy, Nat.sub_self, Nat.pow_zero, Nat.mul_one, cI, if_neg (by omega), if_pos rfl]
    rfl
theorem ex_1 {S : Nat → Nat → Int32} {f : Nat → Int32} (h : SR S f) (c : ¬ dsF (S 0) 9 = 0) : Op.cmpValue (FP.dcmp (shM (smF (S 0) 9) (smF (S 4) 9)) (FP.ddiv (FP.i2d (dsF (S 0) 9 - dsF (S 4) 9)) (FP.i2d (dsF (S 0) 9)))) .l = 0 := by
  rw [dsF_9] at c
  rw [dsF_9, dsF_9]
  obtain ⟨a, b, h1, h2, h3, h4⟩ := sum_n h 9 (Nat.le_refl 9)
  have e0 := SR_sum0 h.1 9 (Nat.le_refl 9)
  have e4 := SR_sum4 h 9 (Nat.le_refl 9)
  rw [h3] at e0
  rw [h4] at e4
  unfold shM
  rw [if_neg c]
  rw [e0] at c
  rw [e0, e4]
  exact dc_sh h1 (Nat.pos_of_ne_zero (fun h9 => c (by rw [h9]; exact nI_0))) (by omega)
theorem ex_0 {S : Nat → Nat → Int32} (c : dsF (S 0) 9 = 0) : Op.cmpValue (FP.dcmp (shM (smF (S 0) 9) (smF (S 4) 9)) FP.dconst1) .l = 0 := by
  rw [dsF_9] at c
  unfold shM
  rw [if_pos c]
  decide +kernel
