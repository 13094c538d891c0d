/-! MATH 8: the two digests -/
theorem fold_mx {L M : List Int32} (h : L = M) (g : Int64) : L.foldl (fun a (b : Int32) => mixF a b.toInt64) g = M.foldl (fun a (b : Int32) => mxF a b.toInt64) g := by
  subst h
  rfl
theorem xgC_eq {S X : Nat → Nat → Int32} {f : Nat → Int32} (h : SR S f) (hX : GrOK X f) (ns : Int32) (g : Int64) : xgC S X ns g = dgC f ns g := by
  obtain ⟨nw, n1, n2, n3, n4⟩ := h.2.2.2
  unfold xgC dgC
  refine fold_mx ?_ g
  rw [GC_joins h.1.1 9 (Nat.le_refl 9), SR_sum0 h.1 9 (Nat.le_refl 9), SR_sum4 h 9 (Nat.le_refl 9), n2.trans n3.symm, add_up h.1.1, count_5 hX, count_6 hX, rows_pairs h.1.1, rows_sets h.1.1 511 (Nat.le_refl 511), h.1.2.2.1, h.1.2.2.2]
theorem mxP_eq {S X : Nat → Nat → Int32} {f : Nat → Int32} (h : SR S f) (hX : GrOK X f) (A : Nat → Int32) {q : Nat} (hq : q < 9) (g : Int64) : mxP S X A q g = dgP f q g := by
  have hG := h.1.1
  obtain ⟨⟨e1, e2, e3⟩, -⟩ := hG q hq
  have e0 := (h.1.2.1 q hq).1
  have e4 := h.2.1 q hq
  unfold mxP dgP
  refine fold_mx ?_ g
  rw [GC_joinsTo hG (nI q) 9 (Nat.le_refl 9), GC_from hG hq, piece_5 hG hq, piece_6 hX hq, e0, e4, e1, e2, e3]
  rfl
theorem xgQ_eq {S X : Nat → Nat → Int32} {f : Nat → Int32} (h : SR S f) (hX : GrOK X f) (A : Nat → Int32) (g : Int64) : xgQ S X A g = dgQ f g := by
  unfold xgQ dgQ
  rw [mxP_eq h hX A (show 0 < 9 by omega), mxP_eq h hX A (show 1 < 9 by omega), mxP_eq h hX A (show 2 < 9 by omega), mxP_eq h hX A (show 3 < 9 by omega), mxP_eq h hX A (show 4 < 9 by omega), mxP_eq h hX A (show 5 < 9 by omega), mxP_eq h hX A (show 6 < 9 by omega), mxP_eq h hX A (show 7 < 9 by omega), mxP_eq h hX A (show 8 < 9 by omega)]
theorem xgN_eq {S : Nat → Nat → Int32} {f : Nat → Int32} {nw : Nat} (h : NtOK S f nw) (g : Int64) : ∀ i, i ≤ nw → xgN S nw g i = dgN f nw g (3 * i)
  | 0, _ => rfl
  | i + 1, hi => by
    obtain ⟨e5, e6, m, hm, em⟩ := h.2.2.2 i (by omega)
    rw [show 3 * (i + 1) = 3 * i + 1 + 1 + 1 from by omega, dgN, dgN, dgN, xgN, xgN_eq h g i (by omega), show 3 * i / 3 = i from by omega, show 3 * i % 3 = 0 from by omega, show (3 * i + 1) / 3 = i from by omega, show (3 * i + 1) % 3 = 1 from by omega, show (3 * i + 1 + 1) / 3 = i from by omega, show (3 * i + 1 + 1) % 3 = 2 from by omega]
    have hn : ¬ nw ≤ i := by omega
    unfold ntF nkM ntM
    rw [if_neg hn, if_neg hn, if_neg hn, if_neg hn, if_neg hn, if_neg hn, e5, e6]
    have hb : bcF (f (46 + 2 * i + 1)) = mnF (f (46 + 2 * i + 1)) 9 := by
      rw [em, (bc_cn m hm).1, (bc_cn m hm).2]
    rw [hb]
    rfl
theorem xbF_eq {cd tx : Nat → Int32} {ln : Nat} (h : ∀ i, i < ln → cd i = tx i) (g : Int64) : ∀ i, i ≤ ln → xbF cd g i = dgB tx g i
  | 0, _ => rfl
  | i + 1, hi => by
    rw [xbF, dgB, xbF_eq h g i (by omega), h i (by omega)]
    rfl
theorem sum_n {S : Nat → Nat → Int32} {f : Nat → Int32} (h : SR S f) : ∀ i, i ≤ 9 → ∃ a b, b ≤ a ∧ a ≤ 999 * i ∧ smM f 0 i = nI a ∧ smM f 9 i = nI b
  | 0, _ => ⟨0, 0, by omega, by omega, rfl, rfl⟩
  | i + 1, hi => by
    obtain ⟨a, b, h1, h2, h3, h4⟩ := sum_n h i (by omega)
    obtain ⟨c, r, k1, k2, k3, k4⟩ := h.2.2.1 i (by omega)
    refine ⟨a + c, b + r, by omega, by omega, ?_, ?_⟩
    · rw [smM, h3, k3, nI_add]
    · rw [smM, h4, k4, nI_add]
theorem xgT_eq {S X : Nat → Nat → Int32} {f : Nat → Int32} (h : SR S f) (hX : GrOK X f) (Op kp : Nat → Int32) {nb : Nat} (hnb : btX (shX (smF (S 0) 9) (smF (S 4) 9)) nb = btM (shM (smM f 0 9) (smM f 9 9)) nb) (nw : Nat) (g : Int64) (ln : Nat) : mixF (xgT S X Op kp nb g) (nI ln).toInt64 = dgT f kp nw nb g ln := by
  have hS := SR_split (op := Op) 13 0 S f h hX
  unfold xgT dgT
  rw [hnb]
  have e : [hwF S (hvA (S 4) (apL Op 0 (opnL X)) (opnL X).length).2, (hvA (S 4) (apL Op 0 (opnL X)) (opnL X).length).2, owF (apL Op 0 (opnL X)) (opnL X).length 0, owF (apL Op 0 (opnL X)) (opnL X).length 1, owF (apL Op 0 (opnL X)) (opnL X).length 2, owF (apL Op 0 (opnL X)) (opnL X).length 3, owF (apL Op 0 (opnL X)) (opnL X).length 4, smF ((taF (apL Op 0 (opnL X)) (opnL X).length 13 0 S).2 4) 9, (mpF (apL Op 0 (opnL X)) (opnL X).length 9).1] = [hyF f false, hyF f true, oaR f 0 511 0 0, oaR f 1 511 0 0, oaR f 2 511 0 0, oaR f 3 511 0 0, oaR f 4 511 0 0, smM (spM 13 0 f).2 9 9, (moF f 9).1] := by
    rw [heavy_0 hX h.rs, heavy_1 hX h.rs, open_eq hX (show 0 < 2 ^ 31 by omega), open_eq hX (show 1 < 2 ^ 31 by omega), open_eq hX (show 2 < 2 ^ 31 by omega), open_eq hX (show 3 < 2 ^ 31 by omega), open_eq hX (show 4 < 2 ^ 31 by omega), main_i hX 9 (Nat.le_refl 9), SR_sum4 hS.2 9 (Nat.le_refl 9)]
    rfl
  rw [fold_mx e]
  rfl
/-- what the two digests answer -/
theorem digest_eq {S V : Nat → Nat → Int32} {f : Nat → Int32} {nw : Nat} (h : SR S f) (hn : NtOK S f nw) {cd tx : Nat → Int32} {ln : Nat} (hcd : ∀ i, i < ln → cd i = tx i) {kp kq : Nat → Int32} (hk0 : kp 0 = kq 0) (hk1 : kp 1 = kq 1) (al op : Nat → Int32) (ns : Int32) : ∃ nb, (¬ smM f 0 9 = 0 → vf_n64 (shF (smM f 0 9) (smM f 9 9))) ∧ (¬ Op.cmpValue (FP.dcmp (shM (smM f 0 9) (smM f 9 9)) FP.dconst0) .l = 0 → bitsOK (shM (smM f 0 9) (smM f 9 9)) nb) ∧ (¬ smF (S 0) 9 ≤ 0 → vf_n64 (shF (smF (S 0) 9) (smF (S 4) 9))) ∧ (¬ Op.cmpValue (FP.dcmp (shX (smF (S 0) 9) (smF (S 4) 9)) FP.dconst0) .g ≤ 0 → bitsOK (shX (smF (S 0) 9) (smF (S 4) 9)) nb) ∧ xbF cd (mixF (xgT S (lsS V S) (lsO V S op) kp nb (xgN S nw (xgQ S (lsS V S) (lsA V S al) (xgC S (lsS V S) ns 3617)) nw)) (nI ln).toInt64) ln = dgB tx (dgT f kq nw nb (dgN f nw (dgQ f (dgC f ns 3617)) (3 * nw)) ln) ln := by
  obtain ⟨a, b, h1, h2, h3, h4⟩ := sum_n h 9 (Nat.le_refl 9)
  have e0 := SR_sum0 h.1 9 (Nat.le_refl 9)
  have e4 := SR_sum4 h 9 (Nat.le_refl 9)
  obtain ⟨nb, s1, s2, s3, s4, s5⟩ := share_all h1 (show a < 8992 by omega)
  rw [← h3, ← h4] at s1 s2 s3 s4 s5
  have hX : GrOK (lsS V S) f := h.1.1.ls
  have hb : btX (shX (smF (S 0) 9) (smF (S 4) 9)) nb = btM (shM (smM f 0 9) (smM f 9 9)) nb := by
    rw [e0, e4, s2]; exact s5
  refine ⟨nb, s1, s3, fun h9 => ?_, fun h9 => ?_, ?_⟩
  · rw [e0, e4]
    refine s1 (fun h8 => h9 ?_)
    rw [e0, h8]
    decide +kernel
  · rw [e0, e4, s2] at h9 ⊢
    exact s4 h9
  · rw [xgT_eq h hX (lsO V S op) kp hb nw, xgN_eq hn _ nw (Nat.le_refl nw), xgQ_eq h hX, xgC_eq h hX, xbF_eq hcd _ ln (Nat.le_refl ln)]
    have e : ∀ g, dgT f kp nw nb g ln = dgT f kq nw nb g ln := fun g => by
      unfold dgT
      rw [hk0, hk1]
    rw [e]
