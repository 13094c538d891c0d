theorem cI (a b : Int) : compare a b = if a < b then Ordering.lt else if a = b then .eq else .gt := rfl
theorem dc_1 : FP.dconst1 = UInt64.ofNat (dN 1023 0) := by decide +kernel
theorem dc_2 : (4611686018427387904 : UInt64) = UInt64.ofNat (dN 1024 0) := by decide +kernel
theorem dc_52 : (4841369599423283200 : UInt64) = UInt64.ofNat (dN 1075 0) := by decide +kernel
/-- two data in order -/
theorem cm_n {e m e' m' : Nat} (h0 : 0 < e) (he : e ≤ e') (h1 : e' < 2047) (hm : m < 4503599627370496) (hm' : m' < 4503599627370496) : FP.dcmp (UInt64.ofNat (dN e m)) (UInt64.ofNat (dN e' m')) = some (compare ((4503599627370496 + m : Nat) : Int) (((4503599627370496 + m') * 2 ^ (e' - e) : Nat) : Int)) := by
  show FP.Core.order (FP.Core.decode FP.Core.b64 (UInt64.ofNat _).toNat) (FP.Core.decode FP.Core.b64 (UInt64.ofNat _).toNat) = _
  rw [dN_of (by omega) hm, dN_of h1 hm', dN_decode h0 (by omega) hm, dN_decode (by omega) h1 hm']
  show some (compare (((4503599627370496 + m) * 2 ^ ((e : Int) - 1075 - min ((e : Int) - 1075) ((e' : Int) - 1075)).toNat : Nat) : Int) (((4503599627370496 + m') * 2 ^ ((e' : Int) - 1075 - min ((e : Int) - 1075) ((e' : Int) - 1075)).toNat : Nat) : Int)) = _
  rw [show min ((e : Int) - 1075) ((e' : Int) - 1075) = (e : Int) - 1075 from by omega, show ((e : Int) - 1075 - ((e : Int) - 1075)).toNat = 0 from by omega, show ((e' : Int) - 1075 - ((e : Int) - 1075)).toNat = e' - e from by omega, Nat.pow_zero, Nat.mul_one]
theorem cm_lt {e m : Nat} (h0 : 0 < e) (he : e < 1023) (hm : m < 4503599627370496) : Op.cmpValue (FP.dcmp (UInt64.ofNat (dN e m)) FP.dconst1) .g < 0 := by
  have h : ((4503599627370496 + m : Nat) : Int) < (((4503599627370496 + 0) * 2 ^ (1023 - e) : Nat) : Int) := by
    have h1 : 2 ^ 1 ≤ 2 ^ (1023 - e) := Nat.pow_le_pow_right (by omega) (by omega)
    generalize 2 ^ (1023 - e) = z at h1 ⊢
    omega
  rw [dc_1, cm_n h0 (by omega) (by omega) hm (by omega), cI, if_pos h]
  decide +kernel
theorem cm_ge {m : Nat} (hm : m < 4503599627370496) : ¬ Op.cmpValue (FP.dcmp (UInt64.ofNat (dN 1023 m)) FP.dconst1) .g < 0 := by
  have h : ¬ ((4503599627370496 + m : Nat) : Int) < (((4503599627370496 + 0) * 2 ^ (1023 - 1023) : Nat) : Int) := by
    rw [Nat.sub_self, Nat.pow_zero]
    omega
  rw [dc_1, cm_n (by omega) (by omega) (by omega) hm (by omega), cI, if_neg h]
  by_cases h2 : ((4503599627370496 + m : Nat) : Int) = (((4503599627370496 + 0) * 2 ^ (1023 - 1023) : Nat) : Int)
  · rw [if_pos h2]; decide +kernel
  · rw [if_neg h2]; decide +kernel
theorem cm_0 {e m : Nat} (h0 : 0 < e) (he : e < 2047) (hm : m < 4503599627370496) : FP.dcmp (UInt64.ofNat (dN e m)) FP.dconst0 = some .gt := by
  show FP.Core.order (FP.Core.decode FP.Core.b64 (UInt64.ofNat _).toNat) (FP.Core.decode FP.Core.b64 (0 : UInt64).toNat) = _
  rw [dN_of he hm, dN_decode h0 he hm, show ((0 : UInt64).toNat) = 0 from rfl, d0_decode]
  show some (compare (((4503599627370496 + m) * 2 ^ ((e : Int) - 1075 - min ((e : Int) - 1075) (-1074)).toNat : Nat) : Int) ((0 * 2 ^ (-1074 - min ((e : Int) - 1075) (-1074)).toNat : Nat) : Int)) = _
  have h1 := Nat.two_pow_pos ((e : Int) - 1075 - min ((e : Int) - 1075) (-1074)).toNat
  generalize 2 ^ ((e : Int) - 1075 - min ((e : Int) - 1075) (-1074)).toNat = z at h1 ⊢
  have h2 : 0 < (4503599627370496 + m) * z := Nat.mul_pos (by omega) h1
  rw [Nat.zero_mul, cI, if_neg (by omega), if_neg (by omega)]
/-- doubled, the exponent is one more -/
theorem db_n {e m : Nat} (h0 : 0 < e) (he : e < 1100) (hm : m < 4503599627370496) : FP.dmul (UInt64.ofNat (dN e m)) 4611686018427387904 = UInt64.ofNat (dN (e + 1) m) := by
  rw [dc_2]
  show UInt64.ofNat (FP.Core.mul FP.Core.b64 (UInt64.ofNat _).toNat (UInt64.ofNat _).toNat) = _
  rw [dN_of (by omega) hm, dN_of (by omega) (by omega)]
  unfold FP.Core.mul
  rw [dN_decode h0 (by omega) hm, dN_decode (by omega) (by omega) (by omega)]
  show UInt64.ofNat (FP.Core.encode FP.Core.b64 (FP.Core.roundRatio FP.Core.b64 false ((4503599627370496 + m) * 4503599627370496) 1 ((e : Int) - 1075 + (((1024 : Nat) : Int) - 1075)))) = _
  rw [rr_high (by omega) (by omega) (by omega) (by omega), dN_encode (by omega) (by omega), show ((e : Int) - 1075 + (((1024 : Nat) : Int) - 1075) + 52 + 1075).toNat = e + 1 from by omega, show 4503599627370496 + m - 4503599627370496 = m from by omega]
theorem db_i {e m : Nat} (h0 : 0 < e) (he : e ≤ 1023) (hm : m < 4503599627370496) : ∀ i, e + i ≤ 1023 → dbF (UInt64.ofNat (dN e m)) i = UInt64.ofNat (dN (e + i) m)
  | 0, _ => rfl
  | i + 1, h => by
    rw [dbF, db_i h0 he hm i (by omega), db_n (by omega) (by omega) hm, Nat.add_assoc]
/-- less one: the digits behind the first -/
theorem sb_n {m : Nat} (hm : m < 4503599627370496) : FP.dsub (UInt64.ofNat (dN 1023 m)) FP.dconst1 = UInt64.ofNat (FP.Core.encode FP.Core.b64 (FP.Core.roundRatio FP.Core.b64 false m 1 (-52))) := by
  rw [dc_1]
  show UInt64.ofNat (FP.Core.sub FP.Core.b64 (UInt64.ofNat _).toNat (UInt64.ofNat _).toNat) = _
  rw [dN_of (by omega) hm, dN_of (by omega) (by omega)]
  unfold FP.Core.sub
  rw [dN_decode (by omega) (by omega) hm, dN_decode (by omega) (by omega) (by omega)]
  have e1 : FP.Core.sumUnits false (4503599627370496 + m) (((1023 : Nat) : Int) - 1075) true (4503599627370496 + 0) (((1023 : Nat) : Int) - 1075) (-52) = (m : Int) := by
    show (((4503599627370496 + m) * 1 : Nat) : Int) + -(((4503599627370496 + 0) * 1 : Nat) : Int) = _
    omega
  have e2 : FP.Core.sumSign false true (m : Int) = false := by
    unfold FP.Core.sumSign
    by_cases h : (m : Int) = 0
    · rw [if_pos h]; rfl
    · rw [if_neg h]; exact decide_eq_false (by omega)
  have e3 : FP.Core.exactSum (.fin false (4503599627370496 + m) (((1023 : Nat) : Int) - 1075)) (FP.Core.negate (.fin false (4503599627370496 + 0) (((1023 : Nat) : Int) - 1075))) = .fin false m (-52) := by
    show FP.Core.Datum.fin (FP.Core.sumSign false true (FP.Core.sumUnits false (4503599627370496 + m) (((1023 : Nat) : Int) - 1075) true (4503599627370496 + 0) (((1023 : Nat) : Int) - 1075) (-52))) (FP.Core.sumUnits false (4503599627370496 + m) (((1023 : Nat) : Int) - 1075) true (4503599627370496 + 0) (((1023 : Nat) : Int) - 1075) (-52)).natAbs (-52) = _
    rw [e1, e2, show ((m : Int)).natAbs = m from by omega]
  rw [e3]
  rfl
theorem nan_n {e m : Nat} (he : e < 2047) (hm : m < 4503599627370496) : vf_n64 (UInt64.ofNat (dN e m)) := by
  show _ ≤ _
  rw [UInt64.le_iff_toNat_le, UInt64.toNat_and, dN_of he hm]
  refine Nat.le_trans Nat.and_le_left ?_
  show dN e m ≤ 9218868437227405312
  unfold dN
  omega
theorem nan_0 : vf_n64 0 := by
  show _ ≤ _
  decide +kernel
theorem sb_0 : FP.dsub (UInt64.ofNat (dN 1023 0)) FP.dconst1 = 0 := by decide +kernel
theorem ml_0 : FP.dmul 0 4841369599423283200 = 0 := by decide +kernel
theorem dl_0 : FP.d2l 0 = 0 := by decide +kernel
/-- times 2^52: a whole number -/
theorem ml_n {m : Nat} (h0 : m ≠ 0) (hm : m < 4503599627370496) : ∃ u x, u ≤ 51 ∧ 4503599627370496 ≤ x ∧ x < 9007199254740992 ∧ x = m * 2 ^ (52 - u) ∧ FP.dsub (UInt64.ofNat (dN 1023 m)) FP.dconst1 = UInt64.ofNat (dN (u + 971) (x - 4503599627370496)) ∧ FP.dmul (FP.dsub (UInt64.ofNat (dN 1023 m)) FP.dconst1) 4841369599423283200 = UInt64.ofNat (dN (u + 1023) (x - 4503599627370496)) := by
  have hu : m.log2 ≤ 51 := by
    have h1 := Nat.log2_self_le h0
    have h2 : 2 ^ m.log2 < 2 ^ 52 := Nat.lt_of_le_of_lt h1 (by omega)
    have := (Nat.pow_lt_pow_iff_right (by decide : 1 < 2)).1 h2
    omega
  have hx := up_53 h0 rfl (show m.log2 ≤ 52 by omega)
  have e1 : FP.dsub (UInt64.ofNat (dN 1023 m)) FP.dconst1 = UInt64.ofNat (dN (m.log2 + 971) (m * 2 ^ (52 - m.log2) - 4503599627370496)) := by
    rw [sb_n hm, rr_low h0 rfl (by omega) (by omega) (by omega), dN_encode hx.1 (by omega), show ((m.log2 : Int) + -52 - 52 + 1075).toNat = m.log2 + 971 from by omega]
  refine ⟨m.log2, m * 2 ^ (52 - m.log2), hu, hx.1, hx.2, rfl, e1, ?_⟩
  rw [e1, dc_52]
  show UInt64.ofNat (FP.Core.mul FP.Core.b64 (UInt64.ofNat _).toNat (UInt64.ofNat _).toNat) = _
  rw [dN_of (by omega) (by omega), dN_of (by omega) (by omega)]
  unfold FP.Core.mul
  rw [dN_decode (by omega) (by omega) (by omega), dN_decode (by omega) (by omega) (by omega), show 4503599627370496 + (m * 2 ^ (52 - m.log2) - 4503599627370496) = m * 2 ^ (52 - m.log2) from by omega]
  show UInt64.ofNat (FP.Core.encode FP.Core.b64 (FP.Core.roundRatio FP.Core.b64 false (m * 2 ^ (52 - m.log2) * 4503599627370496) 1 (((m.log2 + 971 : Nat) : Int) - 1075 + (((1075 : Nat) : Int) - 1075)))) = _
  rw [rr_high hx.1 hx.2 (by omega) (by omega), dN_encode hx.1 (by omega), show (((m.log2 + 971 : Nat) : Int) - 1075 + (((1075 : Nat) : Int) - 1075) + 52 + 1075).toNat = m.log2 + 1023 from by omega]
theorem dl_n {m u x : Nat} (hu : u ≤ 51) (h1 : 4503599627370496 ≤ x) (h2 : x < 9007199254740992) (hx : x = m * 2 ^ (52 - u)) (hm : m < 4503599627370496) : FP.d2l (UInt64.ofNat (dN (u + 1023) (x - 4503599627370496))) = Int64.ofInt (m : Int) := by
  show FP.Core.toL (FP.Core.decode FP.Core.b64 (UInt64.ofNat _).toNat) = _
  rw [dN_of (by omega) (by omega), dN_decode (by omega) (by omega) (by omega), show 4503599627370496 + (x - 4503599627370496) = x from by omega]
  show Int64.ofInt (max (-2 ^ 63) (min (2 ^ 63 - 1) (((x * 2 ^ (((u + 1023 : Nat) : Int) - 1075).toNat / 2 ^ (-(((u + 1023 : Nat) : Int) - 1075)).toNat : Nat) : Int)))) = _
  rw [show (((u + 1023 : Nat) : Int) - 1075).toNat = 0 from by omega, show (-(((u + 1023 : Nat) : Int) - 1075)).toNat = 52 - u from by omega, Nat.pow_zero, Nat.mul_one, hx, Nat.mul_div_cancel _ (Nat.two_pow_pos _), show max (-2 ^ 63 : Int) (min (2 ^ 63 - 1) (m : Int)) = (m : Int) from by omega]
theorem fr_n {e m n : Nat} (h0 : 0 < e) (he : e + n = 1023) (hm : m < 4503599627370496) : frF (UInt64.ofNat (dN e m)) n = Int64.ofInt (m : Int) := by
  unfold frF
  rw [db_i h0 (by omega) hm n (by omega), he]
  by_cases h : m = 0
  · subst h
    rw [sb_0, ml_0, dl_0]
    rfl
  · obtain ⟨u, x, h1, h2, h3, h4, h5, h6⟩ := ml_n h hm
    rw [h6, dl_n h1 h2 h3 h4 hm]
theorem bits_ok {e m n : Nat} (h0 : 0 < e) (he : e + n = 1023) (hn : n ≤ 1000) (hm : m < 4503599627370496) : bitsOK (UInt64.ofNat (dN e m)) n := by
  unfold bitsOK
  refine ⟨fun i hi => ⟨?_, ?_⟩, ?_, ?_, ?_, hn⟩
  · rw [db_i h0 (by omega) hm i (by omega)]
    exact cm_lt (by omega) (by omega) hm
  · rw [db_i h0 (by omega) hm (i + 1) (by omega)]
    exact nan_n (by omega) hm
  · rw [db_i h0 (by omega) hm n (by omega), he]
    exact cm_ge hm
  · rw [db_i h0 (by omega) hm n (by omega), he]
    by_cases h : m = 0
    · subst h
      rw [sb_0]
      exact nan_0
    · obtain ⟨u, x, h1, h2, h3, h4, h5, h6⟩ := ml_n h hm
      rw [h5]
      exact nan_n (by omega) (by omega)
  · rw [db_i h0 (by omega) hm n (by omega), he]
    by_cases h : m = 0
    · subst h
      rw [sb_0, ml_0]
      exact nan_0
    · obtain ⟨u, x, h1, h2, h3, h4, h5, h6⟩ := ml_n h hm
      rw [h6]
      exact nan_n (by omega) (by omega)
theorem eb_n : ∀ n : Nat, n < 15 → (ebF n <<< ((52 : Int32).toInt64 &&& 63)) = ebF n * 4503599627370496 ∧ (ebF n * 4503599627370496).toBitVec.toNat = (1023 - n) * 4503599627370496 := by decide +kernel
theorem bt_or {x : Int64} {n m : Nat} (hx : x.toBitVec.toNat = n * 4503599627370496) (hn : n < 2000) (hm : m < 4503599627370496) : x ||| Int64.ofInt (m : Int) = x + Int64.ofInt (m : Int) := by
  have e : (Int64.ofInt (m : Int)).toBitVec.toNat = m := by
    show (BitVec.ofInt 64 (m : Int)).toNat = m
    rw [BitVec.toNat_ofInt]
    omega
  refine Int64.toBitVec_inj.1 (BitVec.eq_of_toNat_eq ?_)
  rw [Int64.toBitVec_or, Int64.toBitVec_add, BitVec.toNat_or, BitVec.toNat_add, e, hx]
  have h := Nat.shiftLeft_add_eq_or_of_lt (i := 52) (b := m) (by omega) n
  rw [Nat.shiftLeft_eq] at h
  rw [← h, Nat.mod_eq_of_lt (by omega)]
theorem bt_n {e m n : Nat} (h0 : 0 < e) (he : e + n = 1023) (hn : n < 15) (hm : m < 4503599627370496) : btX (UInt64.ofNat (dN e m)) n = btM (UInt64.ofNat (dN e m)) n := by
  unfold btX btM
  have h1 := eb_n n hn
  rw [cm_0 h0 (by omega) hm, if_neg (by decide +kernel), if_neg (by decide +kernel), fr_n h0 he hm, h1.1, bt_or h1.2 (by omega) hm]
theorem bt_0 (n : Nat) : btX 0 n = btM 0 n := by
  unfold btX btM
  rw [if_pos (by decide +kernel), if_pos (by decide +kernel)]
/-- the share of two counts of covers, and its bits -/
theorem share_all {a b : Nat} (hb : b ≤ a) (ha : a < 8992) : ∃ nb, (¬ nI a = 0 → vf_n64 (shF (nI a) (nI b))) ∧ shX (nI a) (nI b) = shM (nI a) (nI b) ∧ (¬ Op.cmpValue (FP.dcmp (shM (nI a) (nI b)) FP.dconst0) .l = 0 → bitsOK (shM (nI a) (nI b)) nb) ∧ (¬ Op.cmpValue (FP.dcmp (shM (nI a) (nI b)) FP.dconst0) .g ≤ 0 → bitsOK (shM (nI a) (nI b)) nb) ∧ btX (shM (nI a) (nI b)) nb = btM (shM (nI a) (nI b)) nb := by
  by_cases h0 : a = 0
  · subst h0
    refine ⟨0, fun h => (h rfl).elim, ?_, ?_⟩
    · unfold shX shM
      rw [if_pos (by decide +kernel), if_pos nI_0]
    · have e : shM (nI 0) (nI b) = UInt64.ofNat (dN 1023 0) := by
        unfold shM
        rw [if_pos nI_0, dc_1]
      rw [e]
      have h := bits_ok (e := 1023) (m := 0) (n := 0) (by omega) rfl (by omega) (by omega)
      exact ⟨fun _ => h, fun _ => h, bt_n (by omega) rfl (by omega) (by omega)⟩
  · have e : shM (nI a) (nI b) = shF (nI a) (nI b) := by
      unfold shM
      rw [if_neg (nI_ne0 (by omega) (by omega))]
    have e' : shX (nI a) (nI b) = shF (nI a) (nI b) := by
      unfold shX
      rw [if_neg (nI_nle (by omega) (by omega))]
    rw [e, e']
    by_cases h1 : a = b
    · subst h1
      rw [sh_0 (by omega) ha]
      refine ⟨0, fun _ => nan_0, rfl, fun h => (h (by decide +kernel)).elim, fun h => (h (by decide +kernel)).elim, bt_0 0⟩
    · obtain ⟨x, m, h2, h3, h4, h5⟩ := sh_n (a := a) (n := a - b) (by omega) (by omega) ha
      have e5 : shF (nI a) (nI b) = UInt64.ofNat (dN x m) := by
        unfold shF
        rw [nI_subn hb, h5]
      rw [e5]
      have h := bits_ok (e := x) (m := m) (n := 1023 - x) (by omega) (by omega) (by omega) h4
      exact ⟨1023 - x, fun _ => nan_n (by omega) h4, rfl, fun _ => h, fun _ => h, bt_n (by omega) (by omega) (by omega) h4⟩
