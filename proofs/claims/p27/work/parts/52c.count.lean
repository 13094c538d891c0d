/-! MATH 6: ways counted, added up, told by rank; the heaviest; the main piece -/
theorem lsR_all {V S : Nat → Nat → Int32} : ∀ n i, i + n = 9 → lsR V S n i = true → ∀ q, i ≤ q → q < 9 → V 2 q = S 2 q ∧ V 1 q = S 1 q ∧ V 3 q = S 3 q
  | 0, i, h, _, q, h1, h2 => by omega
  | n + 1, i, h, hl, q, h1, h2 => by
    rw [lsR] at hl
    by_cases c1 : V 2 i = S 2 i
    · rw [if_pos c1] at hl
      by_cases c2 : V 1 i = S 1 i
      · rw [if_pos c2] at hl
        by_cases c3 : V 3 i = S 3 i
        · rw [if_pos c3] at hl
          by_cases e : q = i
          · subst e; exact ⟨c1, c2, c3⟩
          · exact lsR_all n (i + 1) (by omega) hl q (by omega) h2
        · rw [if_neg c3] at hl; cases hl
      · rw [if_neg c2] at hl; cases hl
    · rw [if_neg c1] at hl; cases hl
theorem lsS_rows (V S : Nat → Nat → Int32) : ∀ q, q < 9 → lsS V S 2 q = S 2 q ∧ lsS V S 1 q = S 1 q ∧ lsS V S 3 q = S 3 q := by
  intro q hq
  unfold lsS
  by_cases c : lsR V S 9 0 = true
  · rw [if_pos c]; exact lsR_all 9 0 rfl c q (Nat.zero_le _) hq
  · rw [if_neg c]; exact ⟨rfl, rfl, rfl⟩
theorem GrOK.ls {V S : Nat → Nat → Int32} {f : Nat → Int32} (h : GrOK S f) : GrOK (lsS V S) f := by
  intro q hq
  obtain ⟨⟨h1, h2, h3⟩, h4, h5, h6⟩ := h q hq
  obtain ⟨e1, e2, e3⟩ := lsS_rows V S q hq
  exact ⟨⟨e2.trans h1, e1.trans h2, e3.trans h3⟩, h4, h5, h6⟩
def RsOK (S : Nat → Nat → Int32) (f : Nat → Int32) : Prop := ∀ q, q < 9 → S 4 q = f (9 + q) ∧ ∃ c, c ≤ 999 ∧ f (9 + q) = nI c
theorem wt_i {S : Nat → Nat → Int32} {f : Nat → Int32} (hR : RsOK S f) {m : Nat} (hm : m < 512) : ∀ i, i ≤ 9 → ((∀ j, j < i → m.testBit j = false) ∧ wtF (S 4) (nI m) i = 999 ∧ wmF f (nI m) i = 1000) ∨ ∃ w, w ≤ 999 ∧ wtF (S 4) (nI m) i = nI w ∧ wmF f (nI m) i = nI w
  | 0, _ => Or.inl ⟨fun j hj => absurd hj (Nat.not_lt_zero _), rfl, rfl⟩
  | i + 1, h => by
    have hi : i < 9 := by omega
    obtain ⟨r1, c, hc, ec⟩ := hR i hi
    rw [wtF, wmF, r1, ec]
    by_cases b : bitv (nI m) (nI i) = 1
    · rw [if_pos b, if_pos b]
      refine Or.inr ?_
      rcases wt_i hR hm i (by omega) with ⟨-, e1, e2⟩ | ⟨w, hw, e1, e2⟩
      · rw [e1, e2, show (999 : Int32) = nI 999 from by decide +kernel, show (1000 : Int32) = nI 1000 from by decide +kernel]
        have z1000 : ¬ nI 1000 ≤ nI c := fun z => by have := (nI_leI (by omega) (by omega)).mp z; omega
        rw [if_neg z1000]
        by_cases z : nI 999 ≤ nI c
        · have z2 := (nI_leI (by omega) (by omega)).mp z
          rw [if_pos z]
          exact ⟨999, by omega, rfl, by rw [show c = 999 by omega]⟩
        · rw [if_neg z]; exact ⟨c, hc, rfl, rfl⟩
      · rw [e1, e2]
        split
        · exact ⟨w, hw, rfl, rfl⟩
        · exact ⟨c, hc, rfl, rfl⟩
    · rw [if_neg b, if_neg b]
      have b2 : m.testBit i = false := by
        cases z : m.testBit i
        · rfl
        · exact absurd ((bv_t hm hi).mpr z) b
      rcases wt_i hR hm i (by omega) with ⟨e0, e1, e2⟩ | h2
      · refine Or.inl ⟨fun j hj => ?_, e1, e2⟩
        by_cases e : j = i
        · subst e; exact b2
        · exact e0 j (by omega)
      · exact Or.inr h2
theorem wt_eq {S : Nat → Nat → Int32} {f : Nat → Int32} (hR : RsOK S f) {m : Nat} (h1 : 1 ≤ m) (hm : m < 512) : ∃ w, w ≤ 999 ∧ wtF (S 4) (nI m) 9 = nI w ∧ wmF f (nI m) 9 = nI w := by
  rcases wt_i hR hm 9 (by omega) with ⟨e, -, -⟩ | h
  · have : m = 0 := m_ext hm (by decide) (fun i hi => by rw [e i hi, Nat.zero_testBit])
    omega
  · exact h
/-- the heaviest, as a fold on each side -/
def hbM (f : Nat → Int32) (u x : Int32) : Int32 := if u = 0 then x else if wmF f x 9 ≤ wmF f u 9 then u else x
def hbX (r : Nat → Int32) (s : Int32 × Int32) (x : Int32) : Int32 × Int32 := if wtF r x 9 ≤ s.1 then s else (wtF r x 9, x)
theorem hw_fold (f : Nat → Int32) : ∀ i, hwM f i = (((List.range i).map ordF).filter (ioB f)).foldl (hbM f) 0
  | 0 => rfl
  | i + 1 => by
    rw [hwM, List.range_succ, List.map_append, List.filter_append, List.foldl_append, ← hw_fold f i, List.map_cons, List.map_nil]
    by_cases c : ioB f (ordF i) = true
    · rw [if_pos c, List.filter_cons, if_pos c]; rfl
    · rw [if_neg c, List.filter_cons, if_neg c]; rfl
theorem hv_fold (r op : Nat → Int32) (L : List Int32) : ∀ i, i ≤ L.length → hvA r (apL op 0 L) i = (L.take i).foldl (hbX r) (-1, -1)
  | 0, _ => rfl
  | i + 1, h => by
    rw [hvA, hv_fold r op L i (by omega), List.take_succ_eq_append_getElem (by omega), List.foldl_append, apL_get0 op L (by omega)]
    rfl
def hbR (f : Nat → Int32) (a : Int32 × Int32) (b : Int32) : Prop := (a = (-1, -1) ∧ b = 0) ∨ ∃ m w, 1 ≤ m ∧ m < 512 ∧ w ≤ 999 ∧ a = (nI w, nI m) ∧ b = nI m ∧ wmF f (nI m) 9 = nI w
theorem hb_step {S : Nat → Nat → Int32} {f : Nat → Int32} (hR : RsOK S f) {a : Int32 × Int32} {b : Int32} (h : hbR f a b) {m : Nat} (h1 : 1 ≤ m) (hm : m < 512) : hbR f (hbX (S 4) a (nI m)) (hbM f b (nI m)) := by
  obtain ⟨w, hw, e1, e2⟩ := wt_eq hR h1 hm
  unfold hbX hbM
  rw [e1]
  rcases h with ⟨rfl, rfl⟩ | ⟨m2, w2, g1, g2, g3, rfl, rfl, g4⟩
  · rw [if_pos rfl]
    rw [if_neg (fun z => by
      have z2 := Int32.le_iff_toInt_le.mp z
      rw [nI_toInt (by omega)] at z2
      have z3 : (-1 : Int32).toInt = -1 := by decide +kernel
      have z4 : ((-1, -1) : Int32 × Int32).1.toInt = -1 := z3
      omega)]
    exact Or.inr ⟨m, w, h1, hm, hw, rfl, rfl, e2⟩
  · rw [if_neg (nI_ne0 (by omega) (by omega)), e2, g4]
    by_cases z : nI w ≤ nI w2
    · rw [if_pos z, if_pos z]; exact Or.inr ⟨m2, w2, g1, g2, g3, rfl, rfl, g4⟩
    · rw [if_neg z, if_neg z]; exact Or.inr ⟨m, w, h1, hm, hw, rfl, rfl, e2⟩
theorem hb_list {S : Nat → Nat → Int32} {f : Nat → Int32} (hR : RsOK S f) : ∀ (L : List Int32) (a : Int32 × Int32) (b : Int32), (∀ x ∈ L, ∃ m, 1 ≤ m ∧ m < 512 ∧ x = nI m) → hbR f a b → hbR f (L.foldl (hbX (S 4)) a) (L.foldl (hbM f) b)
  | [], _, _, _, h => h
  | x :: L, a, b, hL, h => by
    obtain ⟨m, h1, h2, rfl⟩ := hL x List.mem_cons_self
    exact hb_list hR L _ _ (fun y hy => hL y (List.mem_cons_of_mem _ hy)) (hb_step hR h h1 h2)
theorem heavy_eq {S V : Nat → Nat → Int32} {f op : Nat → Int32} (hG : GrOK V f) (hR : RsOK S f) : hbR f (hvA (S 4) (apL op 0 (opnL V)) (opnL V).length) (hwM f 511) := by
  rw [hv_fold _ _ _ _ (Nat.le_refl _), List.take_length, hw_fold f 511, show ((List.range 511).map ordF).filter (ioB f) = opnL V from ord_open hG]
  exact hb_list hR _ _ _ (fun x hx => opn_in hG hx) (Or.inl ⟨rfl, rfl⟩)
theorem heavy_0 {S V : Nat → Nat → Int32} {f op : Nat → Int32} (hG : GrOK V f) (hR : RsOK S f) : hwF S (hvA (S 4) (apL op 0 (opnL V)) (opnL V).length).2 = hyF f false := by
  unfold hwF hyF
  rcases heavy_eq (op := op) hG hR with ⟨e1, e2⟩ | ⟨m, w, h1, h2, h3, e1, e2, e3⟩
  · rw [e1, e2, if_pos rfl, if_pos rfl]
  · rw [e1, e2, if_neg (nI_m1 h2), if_neg (nI_ne0 (by omega) (by omega)), if_neg (by decide), e3]
    obtain ⟨w2, -, g1, g2⟩ := wt_eq hR h1 h2
    exact g1.trans (g2.symm.trans e3)
theorem heavy_1 {S V : Nat → Nat → Int32} {f op : Nat → Int32} (hG : GrOK V f) (hR : RsOK S f) : (hvA (S 4) (apL op 0 (opnL V)) (opnL V).length).2 = hyF f true := by
  unfold hyF
  rcases heavy_eq (op := op) hG hR with ⟨e1, e2⟩ | ⟨m, w, h1, h2, h3, e1, e2, e3⟩
  · rw [e1, e2, if_pos rfl]
  · rw [e1, e2, if_neg (nI_ne0 (by omega) (by omega)), if_pos rfl]
/-- an open way by its rank -/
theorem oaR_list (f : Nat → Int32) {r : Nat} (hr : r < 2 ^ 31) : ∀ t i k, k ≤ r → oaR f (nI r) t i (nI k) = ((((List.range' i t).map ordF).filter (ioB f))[r - k]?).getD (-1)
  | 0, i, k, _ => by rw [oaR]; simp
  | t + 1, i, k, hk => by
    rw [oaR, List.range'_succ, List.map_cons, List.filter_cons]
    by_cases c : ioB f (ordF i) = true
    · rw [if_pos c, if_pos c]
      by_cases e : k = r
      · subst e
        rw [if_pos rfl, Nat.sub_self]
        rfl
      · rw [if_neg (fun h => e ((nI_eq (by omega) hr).mp h)), nI_1, oaR_list f hr t (i + 1) (k + 1) (by omega)]
        rw [show r - k = (r - (k + 1)) + 1 by omega, List.getElem?_cons_succ]
    · rw [if_neg c, if_neg c]
      exact oaR_list f hr t (i + 1) k hk
theorem open_eq {V : Nat → Nat → Int32} {f op : Nat → Int32} (hG : GrOK V f) {r : Nat} (hr : r < 2 ^ 31) : owF (apL op 0 (opnL V)) (opnL V).length r = oaR f (nI r) 511 0 0 := by
  have h := oaR_list f hr 511 0 0 (Nat.zero_le _)
  rw [nI_0, Nat.sub_zero, ← List.range_eq_range', show ((List.range 511).map ordF).filter (ioB f) = opnL V from ord_open hG] at h
  rw [h]
  unfold owF
  by_cases c : (opnL V).length ≤ r
  · rw [if_pos c, List.getElem?_eq_none c]; rfl
  · rw [if_neg c, apL_get0 op _ (by omega), List.getElem?_eq_getElem (by omega)]; rfl
/-- counts -/
theorem cjt_count {L : List Int32} (hL : ∀ x ∈ L, ∃ m, 1 ≤ m ∧ m < 512 ∧ x = nI m) (al : Nat → Int32) {q : Nat} (hq : q < 9) : ∀ i, i ≤ L.length → cjtF (apL al 0 L) (nI q) i = nI ((L.take i).countP (fun x => decide (bitv x (nI q) = 1)))
  | 0, _ => by rw [cjtF]; exact nI_0.symm
  | i + 1, h => by
    obtain ⟨m, h1, h2, e⟩ := hL L[i] (List.getElem_mem (by omega))
    rw [cjtF, cjt_count hL al hq i (by omega), List.take_succ_eq_append_getElem (by omega), List.countP_append, apL_get0 al L (by omega), e]
    by_cases c : m.testBit q = true
    · have c2 := (bv_t h2 hq).mpr c
      rw [c2, nI_1, List.countP_cons, if_pos (decide_eq_true c2)]
      rfl
    · have c3 : bitv (nI m) (nI q) = 0 := (bv_f h2 hq).mpr (by cases z : m.testBit q; rfl; exact absurd z c)
      rw [List.countP_cons, if_neg (by rw [c3]; decide), c3, Int32.add_zero]
      rfl
def wyP (f : Nat → Int32) (pm : Int32) (b : Bool) (x : Int32) : Bool := decide (x &&& pm = pm) && (if b = true then ioB f x else iwB f x)
theorem wy_count (f : Nat → Int32) (pm : Int32) (b : Bool) : ∀ t, wyF f pm b t = nI (((List.range t).map (fun i => nI (i + 1))).countP (wyP f pm b))
  | 0 => nI_0.symm
  | t + 1 => by
    rw [wyF, wy_count f pm b t, List.range_succ, List.map_append, List.countP_append, List.map_cons, List.map_nil, List.countP_cons, List.countP_nil, Nat.zero_add]
    refine Eq.trans ?_ (nI_add _ _)
    congr 1
    unfold wyP
    by_cases c : nI (t + 1) &&& pm = pm
    · rw [if_pos c, decide_eq_true c, Bool.true_and]
      generalize (if b = true then ioB f (nI (t + 1)) else iwB f (nI (t + 1))) = z
      cases z
      · exact nI_0.symm
      · rfl
    · rw [if_neg c, decide_eq_false c, Bool.false_and]
      exact nI_0.symm
theorem wy_ord (f : Nat → Int32) (pm : Int32) (b : Bool) : wyF f pm b 511 = nI ((ordW.filter (fun x => if b = true then ioB f x else iwB f x)).countP (fun x => decide (x &&& pm = pm))) := by
  rw [wy_count, num_perm.countP_eq, ← ordW_e, List.countP_filter]
  rfl
theorem wy_all {V : Nat → Nat → Int32} {f : Nat → Int32} (hG : GrOK V f) (pm : Int32) : wyF f pm false 511 = nI ((allL V).countP (fun x => decide (x &&& pm = pm))) := by
  rw [wy_ord, ← ord_ways hG]
  rfl
theorem wy_opn {V : Nat → Nat → Int32} {f : Nat → Int32} (hG : GrOK V f) (pm : Int32) : wyF f pm true 511 = nI ((opnL V).countP (fun x => decide (x &&& pm = pm))) := by
  rw [wy_ord, ← ord_open hG]
  rfl
theorem cnt_0 {L : List Int32} (hL : ∀ x ∈ L, ∃ m, 1 ≤ m ∧ m < 512 ∧ x = nI m) : L.countP (fun x => decide (x &&& 0 = 0)) = L.length := by
  rw [List.countP_eq_length]
  intro x hx
  obtain ⟨m, -, h2, rfl⟩ := hL x hx
  rw [decide_eq_true_iff, ← nI_0, nI_and, Nat.and_zero]
theorem cnt_b {L : List Int32} (hL : ∀ x ∈ L, ∃ m, 1 ≤ m ∧ m < 512 ∧ x = nI m) {q : Nat} (hq : q < 9) : L.countP (fun x => decide (x &&& (1 <<< (nI q &&& 31)) = 1 <<< (nI q &&& 31))) = L.countP (fun x => decide (bitv x (nI q) = 1)) := by
  refine List.countP_congr (fun x hx => ?_)
  obtain ⟨m, -, h2, rfl⟩ := hL x hx
  have hp := p2_lt q hq
  rw [decide_eq_true_iff, decide_eq_true_iff, sh_nat q hq, nI_and, bv_t h2 hq, nI_eq (Nat.lt_of_lt_of_le (and_lt9 hp) (by decide)) (by omega)]
  constructor
  · intro h
    have h3 : (m &&& 2 ^ q).testBit q = true := by rw [h]; exact Nat.testBit_two_pow_self
    rw [Nat.testBit_and] at h3
    exact (Bool.and_eq_true_iff.mp h3).1
  · intro h
    refine m_ext (and_lt9 hp) hp (fun i hi => ?_)
    rw [Nat.testBit_and]
    by_cases e : i = q
    · subst e; rw [h, Bool.true_and]
    · rw [Nat.testBit_two_pow_of_ne (fun h => e h.symm), Bool.and_false]
theorem count_5 {V : Nat → Nat → Int32} {f : Nat → Int32} (hG : GrOK V f) : nI (allL V).length = wyF f 0 false 511 := by
  rw [wy_all hG, cnt_0 (fun x hx => all_in hG hx)]
theorem count_6 {V : Nat → Nat → Int32} {f : Nat → Int32} (hG : GrOK V f) : nI (opnL V).length = wyF f 0 true 511 := by
  rw [wy_opn hG, cnt_0 (fun x hx => opn_in hG hx)]
theorem piece_6 {V : Nat → Nat → Int32} {f al : Nat → Int32} (hG : GrOK V f) {q : Nat} (hq : q < 9) : cjtF (apL al 0 (allL V)) (nI q) (allL V).length = wyF f (1 <<< (nI q &&& 31)) false 511 := by
  rw [cjt_count (fun x hx => all_in hG hx) al hq _ (Nat.le_refl _), List.take_length, wy_all hG, cnt_b (fun x hx => all_in hG hx) hq]
theorem open_cnt {V : Nat → Nat → Int32} {f op : Nat → Int32} (hG : GrOK V f) {q : Nat} (hq : q < 9) : cjtF (apL op 0 (opnL V)) (nI q) (opnL V).length = wyF f (1 <<< (nI q &&& 31)) true 511 := by
  rw [cjt_count (fun x hx => opn_in hG hx) op hq _ (Nat.le_refl _), List.take_length, wy_opn hG, cnt_b (fun x hx => opn_in hG hx) hq]
theorem main_i {V : Nat → Nat → Int32} {f op : Nat → Int32} (hG : GrOK V f) : ∀ i, i ≤ 9 → mpF (apL op 0 (opnL V)) (opnL V).length i = moF f i
  | 0, _ => rfl
  | i + 1, h => by rw [mpF, moF, main_i hG i (by omega), open_cnt hG (show i < 9 by omega)]
/-- added up -/
theorem au_walk {J Mk : Nat → Int32} (hJ : ∀ q, q < 9 → ∃ j, j < 512 ∧ J q = nI j) : ∀ (n q : Nat) (ah : Int32), q < 9 → auN J Mk n q = nI (walkL J Mk n q ah).length
  | 0, _, _, _ => nI_0.symm
  | n + 1, q, ah, hq => by
    obtain ⟨j, hj, ej⟩ := hJ q hq
    have key : ∀ t, q + 1 + t ≤ 9 → auS J (auN J Mk n) q (auB Mk q) t = nI ((hdL Mk q ah).length + (loopL (stepL J q (fun x => walkL J Mk n x (ah ||| (1 <<< (nI q &&& 31))))) (q + 1) t).length) := by
      intro t
      induction t with
      | zero =>
        intro _
        rw [auS, loopL, List.length_nil, Nat.add_zero]
        unfold auB hdL
        split
        · exact nI_0.symm
        · rfl
      | succ t ih =>
        intro ht
        rw [auS, ih (by omega), loopL, List.length_append, ← Nat.add_assoc]
        refine Eq.trans ?_ (nI_add _ _)
        congr 1
        unfold stepL
        rw [ej]
        by_cases c : j.testBit (q + 1 + t) = true
        · have c2 := (bv_t hj (show q + 1 + t < 9 by omega)).mpr c
          rw [c2, if_pos rfl, Int32.one_mul]
          exact au_walk hJ n (q + 1 + t) _ (by omega)
        · have c3 : bitv (nI j) (nI (q + 1 + t)) = 0 := (bv_f hj (by omega)).mpr (by cases z : j.testBit (q + 1 + t); rfl; exact absurd z c)
          rw [c3, if_neg (by decide), Int32.zero_mul]
          exact nI_0.symm
    rw [auN, walkL_s, List.length_append]
    exact key _ (by omega)
def sdn (F : Nat → List Int32) : Nat → Nat
  | 0 => 0
  | i + 1 => sdn F i + (F (8 - i)).length
theorem sdn_loop (F : Nat → List Int32) : sdn F 9 = (loopL F 0 9).length := by
  simp [sdn, loopL]
  omega
theorem add_up {S : Nat → Nat → Int32} {f : Nat → Int32} (hG : GrOK S f) : auT (S 2) (S 1) 9 = wyF f 0 false 511 := by
  have hJ : ∀ q, q < 9 → ∃ j, j < 512 ∧ S 2 q = nI j := fun q hq => by
    obtain ⟨⟨-, h2, -⟩, -, ⟨j, hj, ej, -⟩, -⟩ := hG q hq
    exact ⟨j, hj, h2.trans ej⟩
  have key : ∀ i, i ≤ 9 → auT (S 2) (S 1) i = nI (sdn (fun q => if S 1 q &&& 1 = 0 then [] else walkL (S 2) (S 1) 9 q 0) i) := by
    intro i
    induction i with
    | zero => intro _; exact nI_0.symm
    | succ i ih =>
      intro hi
      rw [auT, sdn, ih (by omega)]
      by_cases c : S 1 (8 - i) &&& 1 = 0
      · rw [if_pos c, if_pos c]; rfl
      · rw [if_neg c, if_neg c]
        refine Eq.trans ?_ (nI_add _ _)
        congr 1
        exact au_walk hJ 9 (8 - i) 0 (by omega)
  rw [key 9 (Nat.le_refl _), ← count_5 hG]
  unfold allL
  congr 1
  exact sdn_loop _
