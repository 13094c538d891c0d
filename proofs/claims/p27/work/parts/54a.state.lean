/-! MATH 7: a State of the class and a row of the model -/
def CvOK (S : Nat → Nat → Int32) (f : Nat → Int32) : Prop := ∀ q, q < 9 → S 0 q = f (0 + q) ∧ ∃ c, c ≤ 999 ∧ f (0 + q) = nI c
/-- the graph and what is counted so far -/
def GC (S : Nat → Nat → Int32) (f : Nat → Int32) : Prop := GrOK S f ∧ CvOK S f ∧ S 7 1 = f 70 ∧ S 7 2 = f 71
def RcOK (f : Nat → Int32) : Prop := ∀ q, q < 9 → ∃ c r, r ≤ c ∧ c ≤ 999 ∧ f (0 + q) = nI c ∧ f (9 + q) = nI r
def NtOK (S : Nat → Nat → Int32) (f : Nat → Int32) (nw : Nat) : Prop :=
  nw ≤ 12 ∧ S 7 0 = nI nw ∧ f 45 = nI nw ∧ ∀ r, r < nw → S 5 r = f (46 + 2 * r) ∧ S 6 r = f (46 + 2 * r + 1) ∧ ∃ m, m < 512 ∧ f (46 + 2 * r + 1) = nI m
def SR (S : Nat → Nat → Int32) (f : Nat → Int32) : Prop := GC S f ∧ (∀ q, q < 9 → S 4 q = f (9 + q)) ∧ RcOK f ∧ ∃ nw, NtOK S f nw
theorem SR.rs {S : Nat → Nat → Int32} {f : Nat → Int32} (h : SR S f) : RsOK S f := by
  intro q hq
  obtain ⟨-, h2, h3, -⟩ := h
  obtain ⟨c, r, a1, a2, -, a4⟩ := h3 q hq
  exact ⟨h2 q hq, r, by omega, a4⟩
theorem GrOK.cong {S T : Nat → Nat → Int32} {f g : Nat → Int32} (h : GrOK S f) (hf : ∀ j, 18 ≤ j → j < 45 → g j = f j) (hS : ∀ i q, 1 ≤ i → i ≤ 3 → q < 9 → T i q = S i q) : GrOK T g := by
  intro q hq
  obtain ⟨⟨h1, h2, h3⟩, ⟨k, hk, ek⟩, ⟨j, hj, ej, hj2⟩, b, hb, eb⟩ := h q hq
  rw [← hf (18 + q) (by omega) (by omega)] at h1 ek
  rw [← hf (27 + q) (by omega) (by omega)] at h2 ej
  rw [← hf (36 + q) (by omega) (by omega)] at h3 eb
  exact ⟨⟨(hS 1 q (by omega) (by omega) hq).trans h1, (hS 2 q (by omega) (by omega) hq).trans h2, (hS 3 q (by omega) (by omega) hq).trans h3⟩, ⟨k, hk, ek⟩, ⟨j, hj, ej, hj2⟩, b, hb, eb⟩
theorem SR.cong {S : Nat → Nat → Int32} {f g : Nat → Int32} (h : SR S f) (hf : ∀ j, j < 72 → g j = f j) : SR S g := by
  obtain ⟨⟨a1, a2, a3, a4⟩, b, c, nw, d1, d2, d3, d4⟩ := h
  refine ⟨⟨a1.cong (fun j _ hj => hf j (by omega)) (fun _ _ _ _ _ => rfl), fun q hq => ?_, by rw [hf 70 (by omega)]; exact a3, by rw [hf 71 (by omega)]; exact a4⟩, fun q hq => by rw [hf _ (by omega)]; exact b q hq, fun q hq => ?_, nw, d1, d2, by rw [hf 45 (by omega)]; exact d3, fun r hr => ?_⟩
  · rw [hf _ (by omega)]; exact a2 q hq
  · rw [hf _ (by omega), hf _ (by omega)]; exact c q hq
  · rw [hf _ (by omega), hf _ (by omega)]; exact d4 r hr
theorem anM_lo {f : Nat → Int32} {q : Nat} (h : q < 9) : anM f q = f q := by
  unfold anM
  rw [bkF_out _ _ (by omega), bkF_out _ _ (by omega)]
theorem anM_rs {f : Nat → Int32} {q : Nat} (h : q < 9) : anM f (9 + q) = f q := by
  unfold anM
  rw [bkF_out _ _ (by omega)]
  unfold bkF
  rw [if_pos (by omega), show 9 + q - 9 = q by omega]
theorem anM_gr {f : Nat → Int32} {j : Nat} (h1 : 18 ≤ j) (h2 : j < 45) : anM f j = f j := by
  unfold anM
  rw [bkF_out _ _ (by omega), bkF_out _ _ (by omega)]
theorem anM_45 (f : Nat → Int32) : anM f 45 = 0 := by
  unfold anM bkF
  rw [if_pos (by omega)]
theorem anM_hi {f : Nat → Int32} {j : Nat} (h1 : 70 ≤ j) : anM f j = f j := by
  unfold anM
  rw [bkF_out _ _ (by omega), bkF_out _ _ (by omega)]
/-- the splitting begun anew -/
theorem SR_anew {S : Nat → Nat → Int32} {f : Nat → Int32} (h : GC S f) : SR (anS S) (anM f) := by
  obtain ⟨h1, h2, h3, h4⟩ := h
  refine ⟨⟨h1.cong (fun j a b => anM_gr a b) (fun i q a b _ => ?_), fun q hq => ?_, ?_, ?_⟩, fun q hq => ?_, fun q hq => ?_, 0, by omega, ?_, ?_, fun r hr => absurd hr (Nat.not_lt_zero _)⟩
  · rcases (show i = 1 ∨ i = 2 ∨ i = 3 by omega) with rfl | rfl | rfl <;> rfl
  · rw [Nat.zero_add, anM_lo hq]
    have := h2 q hq
    rw [Nat.zero_add] at this
    exact this
  · rw [anM_hi (by omega)]; exact h3
  · rw [anM_hi (by omega)]; exact h4
  · rw [anM_rs hq]
    have := (h2 q hq).1
    rw [Nat.zero_add] at this
    exact this
  · obtain ⟨-, c, hc, ec⟩ := h2 q hq
    rw [Nat.zero_add] at ec
    rw [Nat.zero_add, anM_lo hq, anM_rs hq]
    exact ⟨c, c, Nat.le_refl _, hc, ec, ec⟩
  · exact nI_0.symm
  · rw [anM_45]; exact nI_0.symm
theorem upd_far (f : Nat → Int32) (x : Nat) (v : Int32) {j : Nat} (h : j ≠ x) : upd f x v j = f j := upd_n f v h
/-- the changes of the graph -/
theorem GC_cover {S : Nat → Nat → Int32} {f : Nat → Int32} (h : GC S f) {q c : Nat} (hq : q < 9) (hc : c ≤ 999) : GC (gC S q (nI c)) (upd f (0 + q) (nI c)) := by
  obtain ⟨h1, h2, h3, h4⟩ := h
  refine ⟨h1.cong (fun j a b => upd_far f _ _ (by omega)) (fun i x a b _ => ?_), fun x hx => ?_, ?_, ?_⟩
  · rcases (show i = 1 ∨ i = 2 ∨ i = 3 by omega) with rfl | rfl | rfl <;> rfl
  · show upd (S 0) q (nI c) x = _ ∧ _
    by_cases e : x = q
    · subst e
      rw [upd_e, upd_e]
      exact ⟨rfl, c, hc, rfl⟩
    · rw [upd_n _ _ e, upd_n _ _ (show 0 + x ≠ 0 + q by omega)]
      exact h2 x hx
  · rw [upd_far f _ _ (by omega)]; exact h3
  · rw [upd_far f _ _ (by omega)]; exact h4
theorem GC_mark {S : Nat → Nat → Int32} {f : Nat → Int32} (h : GC S f) {q w : Nat} (hq : q < 9) (hw : w ≤ 3) : GC (gM S q (nI w)) (upd f (18 + q) (nI w)) := by
  obtain ⟨h1, h2, h3, h4⟩ := h
  refine ⟨fun x hx => ?_, fun x hx => ?_, ?_, ?_⟩
  · obtain ⟨⟨g1, g2, g3⟩, gk, gj, gb⟩ := h1 x hx
    rw [upd_far f (18 + q) _ (show 27 + x ≠ 18 + q by omega), upd_far f (18 + q) _ (show 36 + x ≠ 18 + q by omega)]
    show (upd (S 1) q (nI w) x = _ ∧ _) ∧ _
    by_cases e : x = q
    · subst e
      rw [upd_e, upd_e]
      exact ⟨⟨rfl, g2, g3⟩, ⟨w, by omega, rfl⟩, gj, gb⟩
    · rw [upd_n _ _ e, upd_n _ _ (show 18 + x ≠ 18 + q by omega)]
      exact ⟨⟨g1, g2, g3⟩, gk, gj, gb⟩
  · rw [upd_far f _ _ (show 0 + x ≠ 18 + q by omega)]; exact h2 x hx
  · rw [upd_far f _ _ (by omega)]; exact h3
  · rw [upd_far f _ _ (by omega)]; exact h4
theorem xor_lt9 {a b : Nat} (ha : a < 512) (hb : b < 512) : a ^^^ b < 512 := Nat.xor_lt_two_pow (n := 9) ha hb
theorem GC_join {S : Nat → Nat → Int32} {f : Nat → Int32} (h : GC S f) {q z : Nat} (hq : q < 9) (hz : z < 9) (hqz : q < z) : GC (gJ S q (S 2 q ^^^ (1 <<< (nI z &&& 31)))) (upd f (27 + q) (f (27 + q) ^^^ (1 <<< (nI z &&& 31)))) := by
  obtain ⟨h1, h2, h3, h4⟩ := h
  refine ⟨fun x hx => ?_, fun x hx => ?_, ?_, ?_⟩
  · obtain ⟨⟨g1, g2, g3⟩, gk, ⟨j, hj, ej, hj2⟩, gb⟩ := h1 x hx
    rw [upd_far f (27 + q) _ (show 18 + x ≠ 27 + q by omega), upd_far f (27 + q) _ (show 36 + x ≠ 27 + q by omega)]
    show (_ ∧ upd (S 2) q _ x = _ ∧ _) ∧ _
    by_cases e : x = q
    · subst e
      rw [upd_e, upd_e, g2]
      refine ⟨⟨g1, rfl, g3⟩, gk, ⟨j ^^^ 2 ^ z, xor_lt9 hj (p2_lt z hz), by rw [ej, sh_nat z hz, nI_xor], fun y hy hb => ?_⟩, gb⟩
      by_cases e : y = z
      · omega
      · rw [Nat.testBit_xor, Nat.testBit_two_pow_of_ne (fun h => e h.symm), Bool.xor_false] at hb
        exact hj2 y hy hb
    · rw [upd_n _ _ e, upd_n _ _ (show 27 + x ≠ 27 + q by omega)]
      exact ⟨⟨g1, g2, g3⟩, gk, ⟨j, hj, ej, hj2⟩, gb⟩
  · rw [upd_far f _ _ (show 0 + x ≠ 27 + q by omega)]; exact h2 x hx
  · rw [upd_far f _ _ (by omega)]; exact h3
  · rw [upd_far f _ _ (by omega)]; exact h4
theorem GC_bar {S : Nat → Nat → Int32} {f : Nat → Int32} (h : GC S f) {q z : Nat} (hq : q < 9) (hz : z < 9) : GC (gB S q (S 3 q ^^^ (1 <<< (nI z &&& 31)))) (upd f (36 + q) (f (36 + q) ^^^ (1 <<< (nI z &&& 31)))) := by
  obtain ⟨h1, h2, h3, h4⟩ := h
  refine ⟨fun x hx => ?_, fun x hx => ?_, ?_, ?_⟩
  · obtain ⟨⟨g1, g2, g3⟩, gk, gj, ⟨b, hb, eb⟩⟩ := h1 x hx
    rw [upd_far f (36 + q) _ (show 18 + x ≠ 36 + q by omega), upd_far f (36 + q) _ (show 27 + x ≠ 36 + q by omega)]
    show (_ ∧ _ ∧ upd (S 3) q _ x = _) ∧ _
    by_cases e : x = q
    · subst e
      rw [upd_e, upd_e, g3]
      exact ⟨⟨g1, g2, rfl⟩, gk, gj, b ^^^ 2 ^ z, xor_lt9 hb (p2_lt z hz), by rw [eb, sh_nat z hz, nI_xor]⟩
    · rw [upd_n _ _ e, upd_n _ _ (show 36 + x ≠ 36 + q by omega)]
      exact ⟨⟨g1, g2, g3⟩, gk, gj, b, hb, eb⟩
  · rw [upd_far f _ _ (show 0 + x ≠ 36 + q by omega)]; exact h2 x hx
  · rw [upd_far f _ _ (by omega)]; exact h3
  · rw [upd_far f _ _ (by omega)]; exact h4
theorem anM_upd (g : Nat → Int32) {j : Nat} (v : Int32) (h1 : 18 ≤ j) (h2 : j < 45) : upd (anM g) j v = anM (upd g j v) := by
  funext x
  by_cases e : x = j
  · subst e
    rw [upd_e, anM_gr h1 h2, upd_e]
  · rw [upd_n _ _ e]
    unfold anM bkF
    by_cases c1 : 45 ≤ x ∧ x < 45 + 25
    · rw [if_pos c1, if_pos c1]
    · rw [if_neg c1, if_neg c1]
      by_cases c2 : 9 ≤ x ∧ x < 9 + 9
      · rw [if_pos c2, if_pos c2, upd_n _ _ (by omega)]
      · rw [if_neg c2, if_neg c2, upd_n _ _ e]
/-- sums, joins -/
theorem SR_sum0 {S : Nat → Nat → Int32} {f : Nat → Int32} (h : GC S f) : ∀ i, i ≤ 9 → smF (S 0) i = smM f 0 i
  | 0, _ => rfl
  | i + 1, hi => by rw [smF, smM, SR_sum0 h i (by omega), (h.2.1 i (by omega)).1]
theorem SR_sum4 {S : Nat → Nat → Int32} {f : Nat → Int32} (h : SR S f) : ∀ i, i ≤ 9 → smF (S 4) i = smM f 9 i
  | 0, _ => rfl
  | i + 1, hi => by rw [smF, smM, SR_sum4 h i (by omega), h.2.1 i (by omega)]
theorem GC_joins {S : Nat → Nat → Int32} {f : Nat → Int32} (h : GrOK S f) : ∀ i, i ≤ 9 → cjF (S 2) i = jnM f i
  | 0, _ => rfl
  | i + 1, hi => by
    obtain ⟨⟨-, g2, -⟩, -, ⟨j, hj, ej, -⟩, -⟩ := h i (by omega)
    rw [cjF, jnM, GC_joins h i (by omega), g2, ej, (bc_cn j hj).1, (bc_cn j hj).2]
theorem GC_joinsTo {S : Nat → Nat → Int32} {f : Nat → Int32} (h : GrOK S f) (x : Int32) : ∀ i, i ≤ 9 → cjtF (S 2) x i = jtM f x i
  | 0, _ => rfl
  | i + 1, hi => by rw [cjtF, jtM, GC_joinsTo h x i (by omega), (h i (by omega)).1.2.1]
theorem GC_from {S : Nat → Nat → Int32} {f : Nat → Int32} (h : GrOK S f) {q : Nat} (hq : q < 9) : bcF (S 2 q) = mnF (f (27 + q)) 9 := by
  obtain ⟨⟨-, g2, -⟩, -, ⟨j, hj, ej, -⟩, -⟩ := h q hq
  rw [g2, ej, (bc_cn j hj).1, (bc_cn j hj).2]
/-- what is saved -/
def SV (Z : Nat → Nat → Nat → Int32) (ns : Nat) (sv : Nat → Int32) : Prop := ∀ i, i < ns → SR (Z i) (sliceM sv (72 * i))
theorem svN_eq {n : Nat} (h : n ≤ 6) : svN n = snM n := by
  rcases (show n = 0 ∨ n = 1 ∨ n = 2 ∨ n = 3 ∨ n = 4 ∨ n = 5 ∨ n = 6 by omega) with rfl | rfl | rfl | rfl | rfl | rfl | rfl <;> rfl
theorem slice_bk (g f : Nat → Int32) (a : Nat) {j : Nat} (h : j < 72) : sliceM (bkF g f a 72) a j = f j := by
  unfold sliceM bkF
  rw [if_pos (by omega), show a + j - a = j by omega]
theorem slice_out (g f : Nat → Int32) (a b : Nat) {j : Nat} (h : a + j < b ∨ b + 72 ≤ a + j) : sliceM (bkF g f b 72) a j = sliceM g a j := by
  unfold sliceM
  exact bkF_out _ _ h
theorem SV_save {Z : Nat → Nat → Nat → Int32} {sv f : Nat → Int32} {S : Nat → Nat → Int32} {ns : Nat} (hn : ns ≤ 6) (h : SV Z ns sv) (hS : SR S f) : SV (svZ Z ns S) (svN ns) (svM sv f ns) := by
  by_cases e : ns = 6
  · subst e
    intro i hi
    have hi : i < 6 := hi
    show SR (upZ (rotL Z) 5 S i) (sliceM (if (6 : Nat) = 6 then bkF (fil (fun j => sv (72 + j)) sv 360) f 360 72 else bkF sv f (72 * 6) 72) (72 * i))
    rw [if_pos rfl]
    unfold upZ
    by_cases c : i = 5
    · subst c
      rw [if_pos rfl]
      exact hS.cong (fun j hj => slice_bk _ _ _ hj)
    · rw [if_neg c]
      have h2 : rotL Z i = Z (i + 1) := by
        rcases (show i = 0 ∨ i = 1 ∨ i = 2 ∨ i = 3 ∨ i = 4 by omega) with rfl | rfl | rfl | rfl | rfl <;> rfl
      rw [h2]
      refine (h (i + 1) (by omega)).cong (fun j hj => ?_)
      rw [slice_out _ _ _ _ (by omega)]
      unfold sliceM fil
      rw [if_pos (by omega)]
      show sv (72 + (72 * i + j)) = sv (72 * (i + 1) + j)
      congr 1
      omega
  · have h1 : svZ Z ns S = upZ Z ns S := by
      rcases (show ns = 0 ∨ ns = 1 ∨ ns = 2 ∨ ns = 3 ∨ ns = 4 ∨ ns = 5 by omega) with rfl | rfl | rfl | rfl | rfl | rfl <;> rfl
    have h2 : svN ns = ns + 1 := by
      rcases (show ns = 0 ∨ ns = 1 ∨ ns = 2 ∨ ns = 3 ∨ ns = 4 ∨ ns = 5 by omega) with rfl | rfl | rfl | rfl | rfl | rfl <;> rfl
    rw [h1, h2]
    unfold svM
    rw [if_neg e]
    intro i hi
    unfold upZ
    by_cases c : i = ns
    · subst c
      rw [if_pos rfl]
      exact hS.cong (fun j hj => slice_bk _ _ _ hj)
    · rw [if_neg c]
      exact (h i (by omega)).cong (fun j hj => slice_out _ _ _ _ (by omega))
