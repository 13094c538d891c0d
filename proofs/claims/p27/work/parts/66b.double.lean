theorem cI (a b : Int) : compare a b = if a < b then Ordering.lt else if a = b then .eq else .gt := rfl
theorem dc_1 : FP.dconst1 = UInt64.ofNat (dN 1023 0) := by decide +kernel
/-- two data in order -/
theorem cm_n {e m e' m' : Nat} (h0 : 0 < e) (he : e ≤ e') (h1 : e' < 2047) (hm : m < 4503599627370496) (hm' : m' < 4503599627370496) : FP.dcmp (UInt64.ofNat (dN e m)) (UInt64.ofNat (dN e' m')) = some (compare ((4503599627370496 + m : Nat) : Int) (((4503599627370496 + m') * 2 ^ (e' - e) : Nat) : Int)) := by
  show FP.Core.order (FP.Core.decode FP.Core.b64 (UInt64.ofNat _).toNat) (FP.Core.decode FP.Core.b64 (UInt64.ofNat _).toNat) = _
  rw [dN_of (by omega) hm, dN_of h1 hm', dN_decode h0 (by omega) hm, dN_decode (by omega) h1 hm']
  show some (compare (((4503599627370496 + m) * 2 ^ ((e : Int) - 1075 - min ((e : Int) - 1075) ((e' : Int) - 1075)).toNat : Nat) : Int) (((4503599627370496 + m') * 2 ^ ((e' : Int) - 1075 - min ((e : Int) - 1075) ((e' : Int) - 1075)).toNat : Nat) : Int)) = _
  rw [show min ((e : Int) - 1075) ((e' : Int) - 1075) = (e : Int) - 1075 from by omega, show ((e : Int) - 1075 - ((e : Int) - 1075)).toNat = 0 from by omega, show ((e' : Int) - 1075 - ((e : Int) - 1075)).toNat = e' - e from by omega, Nat.pow_zero, Nat.mul_one]
theorem nan_n {e m : Nat} (he : e < 2047) (hm : m < 4503599627370496) : vf_n64 (UInt64.ofNat (dN e m)) := by
  show _ ≤ _
  rw [UInt64.le_iff_toNat_le, UInt64.toNat_and, dN_of he hm]
  refine Nat.le_trans Nat.and_le_left ?_
  show dN e m ≤ 9218868437227405312
  unfold dN
  omega
theorem nan_0 : vf_n64 0 := by
  show _ ≤ _
  decide +kernel
theorem share_ok {a b : Nat} (hb : b ≤ a) (ha : a < 8992) : (¬ nI a = 0 → vf_n64 (shF (nI a) (nI b))) ∧ shX (nI a) (nI b) = shM (nI a) (nI b) := by
  by_cases h0 : a = 0
  · subst h0
    refine ⟨fun h => (h rfl).elim, ?_⟩
    unfold shX shM
    rw [if_pos (by decide +kernel), if_pos nI_0]
  · have e : shM (nI a) (nI b) = shF (nI a) (nI b) := by
      unfold shM
      rw [if_neg (nI_ne0 (by omega) (by omega))]
    have e' : shX (nI a) (nI b) = shF (nI a) (nI b) := by
      unfold shX
      rw [if_neg (nI_nle (by omega) (by omega))]
    rw [e, e']
    by_cases h1 : a = b
    · subst h1
      rw [sh_0 (by omega) ha]
      exact ⟨fun _ => nan_0, rfl⟩
    · obtain ⟨x, m, h2, h3, h4, h5⟩ := sh_n (a := a) (n := a - b) (by omega) (by omega) ha
      have e5 : shF (nI a) (nI b) = UInt64.ofNat (dN x m) := by
        unfold shF
        rw [nI_subn hb, h5]
      rw [e5]
      exact ⟨fun _ => nan_n (by omega) h4, rfl⟩
