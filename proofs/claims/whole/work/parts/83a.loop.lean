/-! The law's loop, and its start -/
theorem and31 (a : Int32) : ∃ q, q < 32 ∧ a &&& 31 = nI q := by
  refine ⟨(a &&& 31).toBitVec.toNat, ?_, ?_⟩
  · rw [Int32.toBitVec_and, BitVec.toNat_and]
    exact Nat.lt_of_le_of_lt Nat.and_le_right (by decide +kernel)
  · refine Int32.toBitVec_inj.1 (BitVec.eq_of_toNat_eq ?_)
    show _ = (BitVec.ofNat 32 (a &&& 31).toBitVec.toNat).toNat
    rw [BitVec.toNat_ofNat]
    exact (Nat.mod_eq_of_lt (BitVec.isLt _)).symm
theorem law_loop {p : Program} {l : Launch} {e : Env} {s : State} {m : MethodId} {below : List Frame} {meth : Method} {c : Code} {b L : Nat} {xs : Nat → Int32} {D : va_G} {k : Nat → ClassId} {x0 h0 og : Nat} (C1 : LC p l s m meth c b L xs D k) :
    ∀ (n j : Nat), L < 3 * j + 3 * n → 3 * j ≤ L → ∀ (X M : va_W) (th : Int32) (g : Nat → Int64) (H : Heap) (locs : List Loc) (ls : Array Slot), Both k x0 h0 th X M → va_P D vwCl ((X ++ oC k og g) ++ M) H → va_D (fun q => s.heap.size ≤ q) ((X ++ oC k og g) ++ M) → va_S (fun q => s.heap.size ≤ q) s.heap H locs → lv_has ls 9 [(4, .int (nI (3 * j))), (3, .ref og), (2, .ref h0), (1, .ref x0), (0, .ref b)] →
      W p l e room_1 s m #[Value.ref b] below meth c H locs (117 + j) (2887 + 6 * j) (lw_Z below #[Value.ref b] s) (F0 m 23 ls []) := by
  obtain ⟨hx, hb, hr, hml, hown, hts, hX, hbl, hlocks, hK, hN, hXP, hXZ, hL, hfl⟩ := id C1
  have hbA : ¬ (fun q : Nat => s.heap.size ≤ q) b := Nat.not_le.mpr hbl
  have hd0 := Drawn.sameBut.refl s.drawn lw_cs
  intro n
  induction n with
  | zero => intro j h1 h2; omega
  | succ n ih =>
    intro j h1 h2 X M th g H locs ls hR hP hD hS hl
    refine lv_iload hx hb dL_law_23 (lv_at hl 0 rfl) ?_
    refine lv_aload_n hx hb dL_law_25 rfl (lv_at hl 4 rfl) ?_
    refine va_slen hx hb hX hbl hbA hS dL_law_26 ?_
    refine lv_iconst (v := 3) hx hb dL_law_27 (by decide) ?_
    refine lv_isub hx hb dL_law_28 ?_
    have e3 : (Int32.ofNat L - 3).toInt = (L : Int) - 3 := by
      show (nI L - 3).toInt = _
      rw [Int32.toInt_sub, nI_toInt (by omega), show (3 : Int32).toInt = 3 from by decide +kernel]
      exact Int.bmod_eq_of_le (by omega) (by omega)
    refine lv_icmp_gt (tgt := 1200) hx hb dL_law_29 (by decide) (fun h9 => ?_) (fun h9 => ?_)
    · refine lv_iconst (v := 1) hx hb dL_law_1200 (by decide) ?_
      refine va_forget (fun q hq => hS.2.2 q hq) ?_
      refine W.widen (k := 601024) (n := 7293034) (by omega) (by omega) ?_
      refine W.base ?_
      exact lw_ret hd0 hx hb hr hlocks dL_law_1201
    · have hj : 3 * j + 3 ≤ L := by
        rw [Int32.lt_iff_toInt_lt, e3, nI_toInt (by omega)] at h9
        omega
      refine lv_aload_n hx hb dL_law_32 rfl (lv_at hl 4 rfl) ?_
      refine lv_iload hx hb dL_law_33 (lv_at hl 0 rfl) ?_
      refine va_sld hx hb hX hbl hbA hS (vp_in_nI (show 3 * j < L by omega) (by omega)) dL_law_35 ?_
      refine lv_bipush (v := 31) hx hb dL_law_36 (by decide) ?_
      refine lv_iand hx hb dL_law_38 ?_
      obtain ⟨q, hq, eq⟩ := and31 (xs (nI (3 * j)).toNatClampNeg)
      refine tp_e (y := nI q) eq ?_
      have hc1 : 117 + j + 1 ≤ 601024 := by omega
      have hc2 : 2887 + 6 * j + 6 ≤ 7293034 := by omega
      have kk : LK p l e s m below meth c b D k x0 h0 og j (117 + j + 1) (2887 + 6 * j + 6) (lw_Z below #[Value.ref b] s) := by
        intro X M th g H locs ls hR hP hD hS hl
        refine lv_iinc (v := nI (3 * (j + 1))) (lv' := [(4, .int (nI (3 * (j + 1)))), (3, .ref og), (2, .ref h0), (1, .ref x0), (0, .ref b)]) hx hb dL_law_1194 hl (k := 0) rfl (nI_add (3 * j) 3) (by decide) rfl (fun ls hl => ?_)
        refine lv_goto (tgt := 23) hx hb dL_law_1197 (by decide) ?_
        refine W.widen (k := 117 + (j + 1)) (n := 2887 + 6 * (j + 1)) (by omega) (by omega) ?_
        exact ih (j + 1) (by omega) (by omega) X M th g H locs ls hR hP hD hS hl
      clear ih
      rcases (show q = 0 ∨ q = 1 ∨ q = 2 ∨ q = 3 ∨ q = 4 ∨ q = 5 ∨ q = 6 ∨ q = 7 ∨ q = 8 ∨ q = 9 ∨ q = 10 ∨ q = 11 ∨ q = 12 ∨ q = 13 ∨ q = 14 ∨ q = 15 ∨ q = 16 ∨ q = 17 ∨ q = 18 ∨ q = 19 ∨ q = 20 ∨ q = 21 ∨ q = 22 ∨ q = 23 ∨ 24 ≤ q by omega) with rfl | rfl | rfl | rfl | rfl | rfl | rfl | rfl | rfl | rfl | rfl | rfl | rfl | rfl | rfl | rfl | rfl | rfl | rfl | rfl | rfl | rfl | rfl | rfl | hq2
      · refine lv_tableIn (off := 109) (tgt := 148) hx hb dL_law_39 (by decide +kernel) (by decide +kernel) rfl (by decide) ?_
        exact q_cover C1 hR hj hP hD hS hc1 hc2 hl kk
      · refine lv_tableIn (off := 177) (tgt := 216) hx hb dL_law_39 (by decide +kernel) (by decide +kernel) rfl (by decide) ?_
        exact q_join C1 hR hj hP hD hS hc1 hc2 hl kk
      · refine lv_tableIn (off := 245) (tgt := 284) hx hb dL_law_39 (by decide +kernel) (by decide +kernel) rfl (by decide) ?_
        exact q_mark C1 hR hj hP hD hS hc1 hc2 hl kk
      · refine lv_tableIn (off := 313) (tgt := 352) hx hb dL_law_39 (by decide +kernel) (by decide +kernel) rfl (by decide) ?_
        exact q_bar C1 hR hj hP hD hS hc1 hc2 hl kk
      · refine lv_tableIn (off := 381) (tgt := 420) hx hb dL_law_39 (by decide +kernel) (by decide +kernel) rfl (by decide) ?_
        exact q_step C1 hR hj hP hD hS hc1 hc2 hl kk
      · refine lv_tableIn (off := 394) (tgt := 433) hx hb dL_law_39 (by decide +kernel) (by decide +kernel) rfl (by decide) ?_
        exact q_split C1 hR hj hP hD hS hc1 hc2 hl kk
      · refine lv_tableIn (off := 407) (tgt := 446) hx hb dL_law_39 (by decide +kernel) (by decide +kernel) rfl (by decide) ?_
        exact q_begin C1 hR hj hP hD hS hc1 hc2 hl kk
      · refine lv_tableIn (off := 420) (tgt := 459) hx hb dL_law_39 (by decide +kernel) (by decide +kernel) rfl (by decide) ?_
        exact q_append C1 hR hj hP hD hS hc1 hc2 hl kk
      · refine lv_tableIn (off := 476) (tgt := 515) hx hb dL_law_39 (by decide +kernel) (by decide +kernel) rfl (by decide) ?_
        exact q_clearBuffer C1 hR hj hP hD hS hc1 hc2 hl kk
      · refine lv_tableIn (off := 489) (tgt := 528) hx hb dL_law_39 (by decide +kernel) (by decide +kernel) rfl (by decide) ?_
        exact q_firstError C1 hR hj hP hD hS hc1 hc2 hl kk
      · refine lv_tableIn (off := 502) (tgt := 541) hx hb dL_law_39 (by decide +kernel) (by decide +kernel) rfl (by decide) ?_
        exact q_load C1 hR hj hP hD hS hc1 hc2 hl kk
      · refine lv_tableIn (off := 546) (tgt := 585) hx hb dL_law_39 (by decide +kernel) (by decide +kernel) rfl (by decide) ?_
        exact q_keep C1 hR hj hP hD hS hc1 hc2 hl kk
      · refine lv_tableIn (off := 602) (tgt := 641) hx hb dL_law_39 (by decide +kernel) (by decide +kernel) rfl (by decide) ?_
        exact q_goBack C1 hR hj hP hD hS hc1 hc2 hl kk
      · refine lv_tableIn (off := 658) (tgt := 697) hx hb dL_law_39 (by decide +kernel) (by decide +kernel) rfl (by decide) ?_
        exact q_undo C1 hR hj hP hD hS hc1 hc2 hl kk
      · refine lv_tableIn (off := 702) (tgt := 741) hx hb dL_law_39 (by decide +kernel) (by decide +kernel) rfl (by decide) ?_
        exact q_pieceOf C1 hR hj hP hD hS hc1 hc2 hl kk
      · refine lv_tableIn (off := 770) (tgt := 809) hx hb dL_law_39 (by decide +kernel) (by decide +kernel) rfl (by decide) ?_
        exact q_isJoined C1 hR hj hP hD hS hc1 hc2 hl kk
      · refine lv_tableIn (off := 838) (tgt := 877) hx hb dL_law_39 (by decide +kernel) (by decide +kernel) rfl (by decide) ?_
        exact q_noted C1 hR hj hP hD hS hc1 hc2 hl kk
      · refine lv_tableIn (off := 906) (tgt := 945) hx hb dL_law_39 (by decide +kernel) (by decide +kernel) rfl (by decide) ?_
        exact q_count C1 hR hj hP hD hS hc1 hc2 hl kk
      · refine lv_tableIn (off := 962) (tgt := 1001) hx hb dL_law_39 (by decide +kernel) (by decide +kernel) rfl (by decide) ?_
        exact q_heaviest C1 hR hj hP hD hS hc1 hc2 hl kk
      · refine lv_tableIn (off := 1018) (tgt := 1057) hx hb dL_law_39 (by decide +kernel) (by decide +kernel) rfl (by decide) ?_
        exact q_openWay C1 hR hj hP hD hS hc1 hc2 hl kk
      · refine lv_tableIn (off := 1074) (tgt := 1113) hx hb dL_law_39 (by decide +kernel) (by decide +kernel) rfl (by decide) ?_
        exact q_ifSplit C1 hR hj hP hD hS hc1 hc2 hl kk
      · refine lv_tableIn (off := 1087) (tgt := 1126) hx hb dL_law_39 (by decide +kernel) (by decide +kernel) rfl (by decide) ?_
        exact q_mainPiece C1 hR hj hP hD hS hc1 hc2 hl kk
      · refine lv_tableIn (off := 1100) (tgt := 1139) hx hb dL_law_39 (by decide +kernel) (by decide +kernel) rfl (by decide) ?_
        exact q_explained C1 hR hj hP hD hS hc1 hc2 hl kk
      · refine lv_tableIn (off := 1141) (tgt := 1180) hx hb dL_law_39 (by decide +kernel) (by decide +kernel) rfl (by decide) ?_
        exact q_digest C1 hR hj hP hD hS hc1 hc2 hl kk
      · refine lv_tableOut (tgt := 1194) hx hb dL_law_39 (Or.inr (by rw [nI_toInt (by omega)]; omega)) (by decide) ?_
        refine W.widen (k := 117 + j + 1) (n := 2887 + 6 * j + 6) (by omega) (by omega) ?_
        exact kk X M th g H locs ls hR hP hD hS hl
theorem SR_new : SR now0 f0M := by
  have hG : GrOK now0 f0M := by
    intro q hq
    rcases (show q = 0 ∨ q = 1 ∨ q = 2 ∨ q = 3 ∨ q = 4 ∨ q = 5 ∨ q = 6 ∨ q = 7 ∨ q = 8 by omega) with rfl | rfl | rfl | rfl | rfl | rfl | rfl | rfl | rfl
    · exact ⟨⟨by decide +kernel, by decide +kernel, by decide +kernel⟩, ⟨1, by omega, by decide +kernel⟩, ⟨0, by omega, by decide +kernel, fun x _ h => by rw [Nat.zero_testBit] at h; cases h⟩, 0, by omega, by decide +kernel⟩
    · exact ⟨⟨by decide +kernel, by decide +kernel, by decide +kernel⟩, ⟨0, by omega, by decide +kernel⟩, ⟨0, by omega, by decide +kernel, fun x _ h => by rw [Nat.zero_testBit] at h; cases h⟩, 0, by omega, by decide +kernel⟩
    · exact ⟨⟨by decide +kernel, by decide +kernel, by decide +kernel⟩, ⟨0, by omega, by decide +kernel⟩, ⟨0, by omega, by decide +kernel, fun x _ h => by rw [Nat.zero_testBit] at h; cases h⟩, 0, by omega, by decide +kernel⟩
    · exact ⟨⟨by decide +kernel, by decide +kernel, by decide +kernel⟩, ⟨0, by omega, by decide +kernel⟩, ⟨0, by omega, by decide +kernel, fun x _ h => by rw [Nat.zero_testBit] at h; cases h⟩, 0, by omega, by decide +kernel⟩
    · exact ⟨⟨by decide +kernel, by decide +kernel, by decide +kernel⟩, ⟨0, by omega, by decide +kernel⟩, ⟨0, by omega, by decide +kernel, fun x _ h => by rw [Nat.zero_testBit] at h; cases h⟩, 0, by omega, by decide +kernel⟩
    · exact ⟨⟨by decide +kernel, by decide +kernel, by decide +kernel⟩, ⟨0, by omega, by decide +kernel⟩, ⟨0, by omega, by decide +kernel, fun x _ h => by rw [Nat.zero_testBit] at h; cases h⟩, 0, by omega, by decide +kernel⟩
    · exact ⟨⟨by decide +kernel, by decide +kernel, by decide +kernel⟩, ⟨0, by omega, by decide +kernel⟩, ⟨0, by omega, by decide +kernel, fun x _ h => by rw [Nat.zero_testBit] at h; cases h⟩, 0, by omega, by decide +kernel⟩
    · exact ⟨⟨by decide +kernel, by decide +kernel, by decide +kernel⟩, ⟨0, by omega, by decide +kernel⟩, ⟨0, by omega, by decide +kernel, fun x _ h => by rw [Nat.zero_testBit] at h; cases h⟩, 0, by omega, by decide +kernel⟩
    · exact ⟨⟨by decide +kernel, by decide +kernel, by decide +kernel⟩, ⟨2, by omega, by decide +kernel⟩, ⟨0, by omega, by decide +kernel, fun x _ h => by rw [Nat.zero_testBit] at h; cases h⟩, 0, by omega, by decide +kernel⟩
  have h9 : ∀ q, q < 9 → now0 0 q = f0M (0 + q) ∧ now0 4 q = f0M (9 + q) ∧ f0M (0 + q) = nI 0 ∧ f0M (9 + q) = nI 0 := by decide +kernel
  exact ⟨⟨hG, fun q hq => ⟨(h9 q hq).1, 0, by omega, (h9 q hq).2.2.1⟩, by decide +kernel, by decide +kernel⟩, fun q hq => (h9 q hq).2.1, fun q hq => ⟨0, 0, by omega, by omega, (h9 q hq).2.2.1, (h9 q hq).2.2.2⟩, 0, by omega, by decide +kernel, by decide +kernel, fun r hr => absurd hr (Nat.not_lt_zero r)⟩
theorem all_new : allL zS = [] := by decide +kernel
theorem opn_new : opnL zS = [] := by decide +kernel
theorem apL_new (f : Nat → Int32) : apL f 0 [] = f := by
  funext j
  unfold apL
  rw [if_neg (Nat.not_lt_zero j), if_neg (by show ¬ j < 0 + 0; omega)]
theorem both_new (k : Nat → ClassId) (d v : Nat → Nat → Nat) (h : Nat → Nat) : Both k (d 0 0) (h 0) 0 (wXo d 0 ++ (wSt k (d 1) now0 ++ (wSt k (d 2) zS ++ (wSv k (d 3 0) v (fun _ => zS) ++ (([(d 4 0, .inl (k 2, 2, .inr (.inr (.inr (.inr (snA d)))))), (d 5 0, .inl (k 1, 2, .inl (fun _ => 0)))] ++ (wSt k (d 11) zS ++ wSt k (d 12) zS)) ++ (wTx k (d 6) (d 7) (fun _ => 0) 0 zS 0 (0, 0) 0 ++ (wWy k (d 8) (d 9) zS (fun _ => 0) (fun _ => 0) (fun _ => 0) 0 0 ++ wRw k (d 10) (fun _ => 0) (fun _ => 0) 0))))))) (wMo k h 0 f0M (fun _ => 0) (fun _ => 0) (fun _ => 0) (fun _ => 0) 0 (fun _ => 0) 0 0) := by
  refine ⟨d, v, 0, now0, zS, fun _ => zS, zS, zS, fun _ => 0, fun _ => 0, 0, zS, 0, (0, 0), 0, zS, fun _ => 0, fun _ => 0, fun _ => 0, fun _ => 0, fun _ => 0, 0, h, f0M, fun _ => 0, fun _ => 0, fun _ => 0, fun _ => 0, fun _ => 0, 0, ?_, ?_, rfl, rfl, SR_new, fun i hi => absurd hi (Nat.not_lt_zero i), by omega, ⟨⟨rfl, rfl⟩, Or.inl rfl, Or.inl rfl, fun h9 => absurd h9 (by decide), fun h9 => absurd h9 (by decide)⟩, ⟨by omega, fun i hi => absurd hi (Nat.not_lt_zero i)⟩, 0, by omega, nI_0.symm⟩
  · have hw : wWays k (d 8) (d 9) zS (fun _ => 0) (fun _ => 0) (fun _ => 0) = wWy k (d 8) (d 9) zS (fun _ => 0) (fun _ => 0) (fun _ => 0) 0 0 := by
      unfold wWays
      rw [all_new, opn_new, apL_new, List.length_nil, nI_0]
    unfold wAll
    rw [hw, nI_0]
  · rw [nI_0]
