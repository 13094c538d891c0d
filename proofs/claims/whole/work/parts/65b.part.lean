/-! MATH 11: a part of a text -/
section PARSE2
variable {cd tx : Nat → Int32} {ln : Nat}
/-- behind a part: only a separator goes on -/
def RdZ (cd : Nat → Int32) (ln z : Nat) (G : Nat → Nat → Int32) (pl : Nat) (kd : Int32 × Int32) (f : Nat) : Prop :=
  (pl = 5 ∨ pl = 6) ∧ f < 9 ∧ (z < ln → ¬ cd z = 59 → ∃ G' pl' kd', tkF G pl kd f (cd z) = (false, G', pl', kd', nI f)) ∧ tkF G pl kd f 59 = (true, G, 0, kd, nI f)
theorem RdZ_6 {z f : Nat} {G : Nat → Nat → Int32} {kd : Int32 × Int32} (hf : f < 9) : RdZ cd ln z G 6 kd f := by
  refine ⟨Or.inr rfl, hf, fun _ h => ⟨G, 0, kd, ?_⟩, rfl⟩
  show (decide (cd z = 59), G, (0 : Int32), kd, nI f) = _
  rw [decide_eq_false h]
def RdP (cd tx : Nat → Int32) (ln i : Nat) (F : Nat → Int32) (r : Int32 × QS) : Prop :=
  (∃ e, bpM tx ln i = -1 - nI e ∧ RdE ln e r) ∨
  ∃ (z : Nat) (G' : Nat → Nat → Int32) (pl' : Nat) (kd' : Int32 × Int32) (f' : Nat), bpM tx ln i = nI z ∧ i + 1 < z ∧ z ≤ ln ∧ r = rdL cd ln (ln - z) z (G', nI pl', kd', nI f') ∧ RdZ cd ln z G' pl' kd' f' ∧ PG G' (tkM tx ln i z F) ∧ ∀ j, 45 ≤ j → tkM tx ln i z F j = F j
theorem or4 : ∀ k, k < 4 → (nI k ||| 1 = nI (k ||| 1) ∧ k ||| 1 < 4) ∧ (nI k ||| 2 = nI (k ||| 2) ∧ k ||| 2 < 4) := by decide +kernel
theorem in8 {q : Nat} (h : q < 9) : inB (nI q) 0 8 = true := inB_n (a := 0) (b := 8) (Nat.zero_le _) (by omega) (by omega)
theorem tkM_q {i z q : Nat} {F : Nat → Int32} (h : dgM tx ln (i + 1) = nI q) (hq : q < 9) : tkM tx ln i z F = tk1 tx ln i z q (dgM tx ln (i + 2)).toNatClampNeg F := by
  unfold tkM
  rw [h, nI_clamp (by omega)]
theorem rd_se (hcd : ∀ i, i < ln → cd i = tx i) {G : Nat → Nat → Int32} {f i q : Nat} {nu : Int32} {F : Nat → Int32} (hG : PG G F) (hf : f < 9) (hq : q < 9) (hl : i + 1 < ln) (hc : cd i = caM tx ln i) (hd : dgM tx ln (i + 1) = nI q) (hx : cd (i + 1) - 48 = nI q) (hk : cd i = 115 ∨ cd i = 101) :
    RdP cd tx ln i F (rdL cd ln (ln - (i + 1)) (i + 1) (G, nI 1, (cd i, nu), nI f)) := by
  have hb : bpM tx ln i = nI (i + 2) := by
    unfold bpM
    rw [if_pos (by rw [← hc]; exact hk), hd, if_pos (in8 hq)]
  obtain ⟨⟨g1, -, -⟩, ⟨k, hk4, ek⟩, -, -⟩ := hG.1 q hq
  obtain ⟨o1, o2⟩ := or4 k hk4
  have htx : tx i = cd i := (hcd i (by omega)).symm
  refine Or.inr ?_
  rcases hk with hk | hk
  · refine ⟨i + 2, gM G q (nI (k ||| 1)), 6, (cd i, nu), q, hb, by omega, by omega, ?_, RdZ_6 hq, ?_, fun j hj => ?_⟩
    · rw [rd_go (G' := gM G q (nI (k ||| 1))) (pl' := 6) (kd' := (cd i, nu)) (f' := nI q) hl (by omega) hf ?_]
      · rfl
      · show tfF G 1 (cd i, nu) (nI f) (cd (i + 1) - 48) = _
        unfold tfF
        dsimp only
        rw [hx, if_neg (by rw [pcB_t hq]; decide), if_pos hk, nI_clamp (by omega), g1, ek, o1.1]
    · rw [tkM_q hd hq]
      unfold tk1
      rw [htx, hk, if_neg (by decide), if_neg (by decide), if_pos rfl, ek, o1.1]
      exact PG_M hG hq o1.2
    · rw [tkM_q hd hq]
      unfold tk1
      rw [htx, hk, if_neg (by decide), if_neg (by decide), if_pos rfl]
      exact upd_far _ _ _ (by omega)
  · refine ⟨i + 2, gM G q (nI (k ||| 2)), 6, (cd i, nu), q, hb, by omega, by omega, ?_, RdZ_6 hq, ?_, fun j hj => ?_⟩
    · rw [rd_go (G' := gM G q (nI (k ||| 2))) (pl' := 6) (kd' := (cd i, nu)) (f' := nI q) hl (by omega) hf ?_]
      · rfl
      · show tfF G 1 (cd i, nu) (nI f) (cd (i + 1) - 48) = _
        unfold tfF
        dsimp only
        rw [hx, if_neg (by rw [pcB_t hq]; decide), if_neg (by rw [hk]; decide), if_pos hk, nI_clamp (by omega), g1, ek, o2.1]
    · rw [tkM_q hd hq]
      unfold tk1
      rw [htx, hk, if_neg (by decide), if_pos rfl, ek, o2.1]
      exact PG_M hG hq o2.2
    · rw [tkM_q hd hq]
      unfold tk1
      rw [htx, hk, if_neg (by decide), if_pos rfl]
      exact upd_far _ _ _ (by omega)
theorem in2 {q y : Nat} (hq : q < 9) (hy : y < 9) : inB (nI y) (nI q + 1) 8 = true ↔ q < y := by
  rw [nI_1]
  constructor
  · intro h
    have h2 := (of_decide_eq_true h).1
    exact Decidable.byContradiction fun c => h2 ((nI_ltI (by omega) (by omega)).mpr (by omega))
  · exact fun h => inB_n (a := q + 1) (b := 8) (by omega) (by omega) (by omega)
theorem rd_jx (hcd : ∀ i, i < ln → cd i = tx i) {G : Nat → Nat → Int32} {f i q : Nat} {nu : Int32} {F : Nat → Int32} (hG : PG G F) (hf : f < 9) (hq : q < 9) (hl : i + 1 < ln) (hc : cd i = caM tx ln i) (hd : dgM tx ln (i + 1) = nI q) (hx : cd (i + 1) - 48 = nI q) (hk : cd i = 106 ∨ cd i = 120) :
    RdP cd tx ln i F (rdL cd ln (ln - (i + 1)) (i + 1) (G, nI 1, (cd i, nu), nI f)) := by
  have hn1 : ¬ (caM tx ln i = 115 ∨ caM tx ln i = 101) := by rw [← hc]; rcases hk with h | h <;> rw [h] <;> decide
  have hn2 : ¬ cd i = 115 := by rcases hk with h | h <;> rw [h] <;> decide
  have hn3 : ¬ cd i = 101 := by rcases hk with h | h <;> rw [h] <;> decide
  have hn4 : ¬ cd i = 99 := by rcases hk with h | h <;> rw [h] <;> decide
  have hb : bpM tx ln i = if inB (nI q) 0 7 = true then (if inB (dgM tx ln (i + 2)) (nI q + 1) 8 = true then nI (i + 3) else -3 - nI i) else -2 - nI i := by
    unfold bpM
    rw [if_neg hn1, if_pos (by rw [← hc]; exact hk), hd]
  have ht : tkF G 1 (cd i, nu) f (cd (i + 1)) = (decide (¬ (8 : Int32) ≤ nI q), G, 2, (cd i, nu), nI q) := by
    show tfF G 1 (cd i, nu) (nI f) (cd (i + 1) - 48) = _
    unfold tfF
    dsimp only
    rw [hx, if_neg (by rw [pcB_t hq]; decide), if_neg hn2, if_neg hn3, if_neg hn4]
  have e8 : ((8 : Int32) ≤ nI q) ↔ 8 ≤ q := nI_leI (a := 8) (b := q) (by omega) (by omega)
  by_cases h8 : q = 8
  · refine Or.inl ⟨i + 1, ?_, ?_⟩
    · rw [hb, if_neg (by subst h8; decide +kernel)]
      exact ng_e 1 i
    · refine RdE_no (f' := q) (G' := G) (pl' := 2) (kd' := (cd i, nu)) hl (by omega) hf hq ?_
      rw [ht, decide_eq_false (show ¬ ¬ (8 : Int32) ≤ nI q from fun h => h (e8.mpr (by omega)))]
  · have h7 : inB (nI q) 0 7 = true := inB_n (a := 0) (b := 7) (Nat.zero_le _) (by omega) (by omega)
    rw [h7, if_pos rfl] at hb
    have e1 : rdL cd ln (ln - (i + 1)) (i + 1) (G, nI 1, (cd i, nu), nI f) = rdL cd ln (ln - (i + 2)) (i + 2) (G, nI 2, (cd i, nu), nI q) := by
      rw [rd_go (G' := G) (pl' := 2) (kd' := (cd i, nu)) (f' := nI q) hl (by omega) hf (by rw [ht, decide_eq_true (show ¬ (8 : Int32) ≤ nI q from fun h => h8 (by have := e8.mp h; omega))])]
      rfl
    rw [e1]
    by_cases hl2 : i + 2 < ln
    · have hd2 := dg_cd hcd hl2
      have ht2 : tkF G 2 (cd i, nu) q (cd (i + 2)) = tsF G 2 (cd i, nu) q (dgM tx ln (i + 2)) := by
        show tsF G 2 (cd i, nu) q (cd (i + 2) - 48) = _
        rw [hd2]
      cases hp : pcB (dgM tx ln (i + 2))
      · refine Or.inl ⟨i + 2, ?_, ?_⟩
        · have : ¬ inB (dgM tx ln (i + 2)) (nI q + 1) 8 = true := fun h => by
            obtain ⟨-, y, -, hy, ey⟩ := dg_in2 hq h
            rw [ey, pcB_t hy] at hp; cases hp
          rw [hb, if_neg this]
          exact ng_e 2 i
        · refine RdE_no (f' := q) (G' := G) (pl' := 2) (kd' := (cd i, nu)) hl2 (by omega) hq hq ?_
          rw [ht2]
          unfold tsF
          dsimp only
          rw [if_pos hp]
      · obtain ⟨y, hy, ey⟩ := pcB_ex hp
        have hcl : (nI y).toNatClampNeg = y := nI_clamp (by omega)
        rw [ey] at hb ht2
        by_cases hqy : q < y
        · rw [(in2 hq hy).mpr hqy, if_pos rfl] at hb
          obtain ⟨⟨-, g2, g3⟩, -, ⟨j, hj, ej, hj2⟩, ⟨b, hb9, eb⟩⟩ := hG.1 q hq
          obtain ⟨⟨-, -, g3y⟩, -, -, ⟨by_, hby, eby⟩⟩ := hG.1 y hy
          have hne : y ≠ q := by omega
          have htx : tx i = cd i := (hcd i (by omega)).symm
          have hts : tsF G 2 (cd i, nu) q (nI y) = if cd i = 106 then (true, gJ G q (nI (j ||| 2 ^ y)), 6, (cd i, nu), nI q) else (true, gB (gB G q (nI (b ||| 2 ^ y))) y (nI (by_ ||| 2 ^ q)), 6, (cd i, nu), nI q) := by
            unfold tsF
            dsimp only
            rw [if_neg (by rw [pcB_t hy]; decide), if_neg (fun h => h ((nI_ltI (by omega) (by omega)).mpr hqy)), g2, ej, sh_nat y hy, nI_or, g3, eb, nI_or, hcl, upd_n _ _ hne, g3y, eby, sh_nat q hq, nI_or]
          refine Or.inr ?_
          rcases hk with hk | hk
          · refine ⟨i + 3, gJ G q (nI (j ||| 2 ^ y)), 6, (cd i, nu), q, hb, by omega, by omega, ?_, RdZ_6 hq, ?_, fun j hj => ?_⟩
            · rw [rd_go (G' := gJ G q (nI (j ||| 2 ^ y))) (pl' := 6) (kd' := (cd i, nu)) (f' := nI q) hl2 (by omega) hq (by rw [ht2, hts, if_pos hk])]
              rfl
            · rw [tkM_q hd hq]
              unfold tk1
              rw [htx, hk, if_neg (by decide), if_neg (by decide), if_neg (by decide), if_pos rfl, ey, ej, sh_nat y hy, nI_or]
              refine PG_J hG hq (or_lt9 hj (p2_lt y hy)) (fun x hx hb => ?_)
              rcases (bit_or hy hx).mp hb with h | h
              · exact hj2 x hx h
              · omega
            · rw [tkM_q hd hq]
              unfold tk1
              rw [htx, hk, if_neg (by decide), if_neg (by decide), if_neg (by decide), if_pos rfl]
              exact upd_far _ _ _ (by omega)
          · refine ⟨i + 3, gB (gB G q (nI (b ||| 2 ^ y))) y (nI (by_ ||| 2 ^ q)), 6, (cd i, nu), q, hb, by omega, by omega, ?_, RdZ_6 hq, ?_, fun j hj => ?_⟩
            · rw [rd_go (G' := gB (gB G q (nI (b ||| 2 ^ y))) y (nI (by_ ||| 2 ^ q))) (pl' := 6) (kd' := (cd i, nu)) (f' := nI q) hl2 (by omega) hq (by rw [ht2, hts, if_neg (by rw [hk]; decide)])]
              rfl
            · rw [tkM_q hd hq]
              unfold tk1
              rw [htx, hk, if_neg (by decide), if_neg (by decide), if_neg (by decide), if_neg (by decide), ey, hcl, eb, sh_nat y hy, nI_or, upd_n _ _ (show 36 + y ≠ 36 + q by omega), eby, sh_nat q hq, nI_or]
              exact PG_B (PG_B hG hq (or_lt9 hb9 (p2_lt y hy))) hy (or_lt9 hby (p2_lt q hq))
            · rw [tkM_q hd hq]
              unfold tk1
              rw [htx, hk, if_neg (by decide), if_neg (by decide), if_neg (by decide), if_neg (by decide), ey, hcl]
              rw [upd_far _ _ _ (by omega), upd_far _ _ _ (by omega)]
        · refine Or.inl ⟨i + 2, ?_, ?_⟩
          · rw [if_neg (fun h => hqy ((in2 hq hy).mp h))] at hb
            rw [hb]
            exact ng_e 2 i
          · refine RdE_no (f' := q) (G' := G) (pl' := 2) (kd' := (cd i, nu)) hl2 (by omega) hq hq ?_
            rw [ht2]
            unfold tsF
            dsimp only
            rw [if_neg (by rw [pcB_t hy]; decide), if_pos (fun h => hqy ((nI_ltI (by omega) (by omega)).mp h))]
    · refine Or.inl ⟨i + 2, ?_, RdE_stop (by omega) (by omega) hq⟩
      have : ¬ inB (dgM tx ln (i + 2)) (nI q + 1) 8 = true := fun h => hl2 (dg_in2 hq h).1
      rw [hb, if_neg this]
      exact ng_e 2 i
/-- a digit, and one that is none -/
theorem dg_cases {j : Nat} : (∃ a, a ≤ 9 ∧ j < ln ∧ dgM tx ln j = nI a ∧ inB (dgM tx ln j) 0 9 = true) ∨ (inB (dgM tx ln j) 0 9 = false) := by
  cases h : inB (dgM tx ln j) 0 9
  · exact Or.inr rfl
  · obtain ⟨h1, a, h2, h3⟩ := dg_in (b := 9) (by omega) h
    exact Or.inl ⟨a, h2, h1, h3, rfl⟩
theorem td_t {G : Nat → Nat → Int32} {f a c : Nat} {pl : Int32} {kd : Int32 × Int32} (ha : a ≤ 9) (hc : kd.2 = nI c) : tdF G pl kd f (nI a) = (true, gC G f (nI (c * 10 + a)), pl, (kd.1, nI (c * 10 + a)), nI f) := by
  unfold tdF
  rw [if_neg (nI_pos (by omega)), if_neg (fun h => h ((nI_leI (a := a) (b := 9) (by omega) (by omega)).mpr ha)), hc, show (10 : Int32) = nI 10 from rfl, pk_mul, nI_add]
theorem inB_no2 {x a b : Int32} (h : inB x a b = false) (c : ¬ x < a) : ¬ x ≤ b := fun c2 => by
  have h2 : inB x a b = true := decide_eq_true ⟨c, Int32.not_lt.mpr c2⟩
  rw [h] at h2; cases h2
theorem td_f {G : Nat → Nat → Int32} {f : Nat} {pl x : Int32} {kd : Int32 × Int32} (h : inB x 0 9 = false) : tdF G pl kd f x = (false, G, pl, kd, nI f) := by
  unfold tdF
  by_cases c : x < 0
  · rw [if_pos c]
  · rw [if_neg c, if_pos (fun c2 => inB_no2 h c c2)]
end PARSE2
