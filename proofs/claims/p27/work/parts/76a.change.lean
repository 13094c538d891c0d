/-! P27 9: a change by two numbers -/
theorem an3 (v : Int32) : v &&& 3 = nI (v.toBitVec.toNat % 4) := by
  apply Int32.toBitVec_inj.1
  apply BitVec.eq_of_toNat_eq
  show (v.toBitVec &&& 3#32).toNat = (BitVec.ofNat 32 (v.toBitVec.toNat % 4)).toNat
  rw [BitVec.toNat_and, BitVec.toNat_ofNat, BitVec.toNat_ofNat, show (3 % 2 ^ 32 : Nat) = 2 ^ 2 - 1 from rfl, Nat.and_two_pow_sub_one_eq_mod, Nat.mod_eq_of_lt (show v.toBitVec.toNat % 4 < 2 ^ 32 by omega)]
theorem st_ref {S : Nat → Nat → Int32} {f : Nat → Int32} (h : SR S f) {nw : Nat} (hnw : NtOK S f nw) (c : hwF S (hvM S) < 1 ∨ nw = 12) : thF S (hvM S) nw = (0, rfS S) := by
  rcases st_all h hnw with ⟨-, e⟩ | ⟨b, w, -, -, w1, w2, n1, -, ew, -, -⟩
  · exact e
  · rcases c with c | c
    · rw [ew] at c
      have := (nI_ltI (a := w) (b := 1) (by omega) (by omega)).mp c
      omega
    · omega
theorem st_go {S : Nat → Nat → Int32} {f : Nat → Int32} (h : SR S f) {nw : Nat} (hnw : NtOK S f nw) (c1 : ¬ hwF S (hvM S) < 1) (c2 : ¬ nw = 12) : ∃ b w, 1 ≤ b ∧ b < 512 ∧ 1 ≤ w ∧ w ≤ 999 ∧ nw < 12 ∧ hvM S = nI b ∧ hwF S (hvM S) = nI w ∧ wmF f (nI b) 9 = nI w ∧ thF S (hvM S) nw = (nI w, tkS S (nI b) (nI w) nw) := by
  rcases st_all h hnw with ⟨e, -⟩ | e
  · rcases e with e | e
    · exact absurd e c1
    · exact absurd (nI_inj (a := nw) (b := 12) (by have := hnw.1; omega) (by omega) e) c2
  · exact e
theorem LI_th0 {S : Nat → Nat → Int32} (hL : LI S) {nw : Nat} (hn : S 7 0 = nI nw) (hn2 : nw ≤ 12) (h : (thF S (hvM S) nw).1 = 0) : LI (thF S (hvM S) nw).2 := by
  obtain ⟨f, h1, h2, h3⟩ := id hL
  obtain ⟨nv, hw⟩ := h1.2.2.2
  have en : nv = nw := nI_inj (by have := hw.1; omega) (by omega) (hw.2.1.symm.trans hn)
  subst en
  rcases st_all h1 hw with ⟨-, e⟩ | ⟨b, w, -, -, w1, w2, -, -, -, -, e⟩
  · rw [e]; exact LI_rf hL
  · rw [e] at h
    have h4 : nI w = 0 := h
    have := nI_inj' (a := w) (b := 0) (by omega) (by omega) (h4.trans nI_0.symm)
    omega

set_option maxHeartbeats 4000000 in
set_option maxRecDepth 100000 in
theorem c_L_change_0 (l : Launch) (D : va_G) (k : Nat → ClassId) (x0 ns : Nat) (S : Nat → Nat → Int32) (Z : Nat → Nat → Nat → Int32) (Y0 : Nat → Nat → Int32) (k0 : Int32) (X : va_W) (x y : Int32) (hns : ns ≤ 6) (hL : LI S) (hO : OX k x0 ns S Z Y0 k0 X) (hx16 : lowN x 16 = 0) : MO l yL_change wsL_change ({ frames := 31, cells := 0, slots := 0, locals := 839 }) D k [.ref x0, .int x, .int y] X (fun r X2 => r = 1 ∧ ∃ ns2 S2 Z2, ns2 ≤ 6 ∧ LI S2 ∧ OX k x0 ns2 S2 Z2 Y0 k0 X2) := by
  intro sz
  refine Met.ofW (cc := cL_change) (maxL := 16) (ret := (some .boolean)) (by decide) rfl ?_
  intro p e s m args below meth c s₁ B hml hv
  obtain ⟨rfl, hN, hsz, hP, hK, hD0⟩ := hv
  have hx := B.exec
  have hb := B.bytes
  have hr := B.returns
  have hts := atoms_spec (ws := wsL_change) B.pre
  have hown : s.vm.findClass RL = some m.cls := findClass_of_methodNamed B.named
  have hlocks := B.notSynchronized
  subst hsz
  have hD := hD0.self (sz := s.heap.size)
  generalize hAe : va_A X s.heap.size = A at hD ⊢
  have hA : ∀ q : Nat, s.heap.size ≤ q → A q := fun q h => by rw [← hAe]; exact Or.inr h
  have hS : va_S A s.heap s.heap [] := va_S.rf
  have hl := lv_entry ([.ref x0, .int x, .int y]) (n := 16) (Nat.le_of_ble_eq_true rfl)
  rw [lg_entry_eq]
  generalize (lg_sl ([.ref x0, .int x, .int y]) ++ List.replicate (16 - (lg_sl ([.ref x0, .int x, .int y])).length) Slot.unset).toArray = ls at hl ⊢
  have hl : lv_has ls 16 [(0, .ref x0), (1, .int x), (2, .int y)] := hl
  obtain ⟨H, hHe⟩ : ∃ H, H = s.heap := ⟨_, rfl⟩
  have hP : va_P D vwCl X H := by rw [hHe]; exact hP
  have hS : va_S A s.heap H [] := by rw [hHe]; exact hS
  rw [← hHe]
  refine absQ (fun Q hQ => ?_)
  obtain ⟨f, hSR, hBR, hEX⟩ := id hL
  obtain ⟨nw, hnw⟩ := hSR.2.2.2
  have hn : S 7 0 = nI nw := hnw.2.1
  have hn2 : nw ≤ 12 := hnw.1
  have hcv := low_lt (y >>> (4 &&& 31)) (n := 200) (by decide)
  have hP : va_P D vwCl ([] ++ (X)) H := hP
  have hD : va_D A ([] ++ (X)) := hD
  refine lv_iload_n hx hb dL_change_0 rfl (lv_at hl 2 rfl) ?_
  refine lv_bipush (v := 9) hx hb dL_change_1 (by decide) ?_
  have hPc : va_P D vwCl ([]) H := hP.sub [] rfl
  have hDc : va_D A ([]) := hD.sub [] (by decide +kernel) rfl
  refine cl_i0 (va_runS (As := [.int y, .int 9]) (rest := []) ⟨hx, hb, hml, hown, hts⟩ (c_L_low_9 l D k y H.size) (va_cwS 2 hts gL_change_L_low rfl rfl rfl (by decide +kernel) ⟨Nat.le_of_ble_eq_true rfl, Nat.le_of_ble_eq_true rfl⟩) ⟨pr_blind, pr_at hN hPc hK hDc⟩ rfl rfl hl.1 rfl (lv_room (Nat.le_of_ble_eq_true rfl)) dL_change_3 ⟨Nat.le_of_ble_eq_true rfl, Nat.le_of_ble_eq_true rfl⟩) hP hD hS hA [] rfl (fun H locs hP hD hS => ?_)
  clear hPc hDc
  obtain ⟨q, hqe⟩ : ∃ q, q = lowN y 9 := ⟨_, rfl⟩
  have hq9 : q < 9 := by rw [hqe]; exact low_lt _ (by decide)
  refine tp_e (y := (nI q)) (by rw [hqe]) ?_
  refine lv_istore_n (lv' := [(3, .int (nI q)), (0, .ref x0), (1, .int x), (2, .int y)]) hx hb dL_change_6 rfl hl (by decide) rfl (fun ls hl => ?_)
  refine lv_iload_n hx hb dL_change_7 rfl (lv_at hl 3 rfl) ?_
  refine lv_iconst (v := 4) hx hb dL_change_8 (by decide) ?_
  refine lv_ishr hx hb dL_change_9 ?_
  refine lv_bipush (v := 9) hx hb dL_change_10 (by decide) ?_
  have hPc : va_P D vwCl ([]) H := hP.sub [] rfl
  have hDc : va_D A ([]) := hD.sub [] (by decide +kernel) rfl
  refine cl_i0 (va_runS (As := [.int (y >>> (4 &&& 31)), .int 9]) (rest := []) ⟨hx, hb, hml, hown, hts⟩ (c_L_low_9 l D k (y >>> (4 &&& 31)) H.size) (va_cwS 2 hts gL_change_L_low rfl rfl rfl (by decide +kernel) ⟨Nat.le_of_ble_eq_true rfl, Nat.le_of_ble_eq_true rfl⟩) ⟨pr_blind, pr_at hN hPc hK hDc⟩ rfl rfl hl.1 rfl (lv_room (Nat.le_of_ble_eq_true rfl)) dL_change_12 ⟨Nat.le_of_ble_eq_true rfl, Nat.le_of_ble_eq_true rfl⟩) hP hD hS hA [] rfl (fun H locs hP hD hS => ?_)
  clear hPc hDc
  obtain ⟨z, hze⟩ : ∃ z, z = lowN (y >>> (4 &&& 31)) 9 := ⟨_, rfl⟩
  have hz9 : z < 9 := by rw [hze]; exact low_lt _ (by decide)
  refine tp_e (y := (nI z)) (by rw [hze]) ?_
  refine lv_istore (lv' := [(4, .int (nI z)), (3, .int (nI q)), (0, .ref x0), (1, .int x), (2, .int y)]) hx hb dL_change_15 hl (by decide) rfl (fun ls hl => ?_)
  refine lv_iconst (v := 0) hx hb dL_change_17 (by decide) ?_
  refine lv_istore (lv' := [(5, .int 0), (4, .int (nI z)), (3, .int (nI q)), (0, .ref x0), (1, .int x), (2, .int y)]) hx hb dL_change_18 hl (by decide) rfl (fun ls hl => ?_)
  refine lv_aload_n hx hb dL_change_20 rfl (lv_at hl 3 rfl) ?_
  refine lv_bipush (v := 10) hx hb dL_change_21 (by decide) ?_
  obtain ⟨X_1, hO_2, hM9⟩ := o_count_10 (l := l) (D := D) hSR hO
  refine lo_I (n := 1) (As := [.int 10]) (rest := []) hx hb hml hown hts hK hN hM9 (OX.at0 hO) gL_change_X4_count rfl (by decide +kernel) (by decide) dL_change_23 rfl rfl (Nat.le_of_ble_eq_true rfl) hl.1 (Nat.le_of_ble_eq_true rfl) (Nat.le_of_ble_eq_true rfl) (Nat.le_of_ble_eq_true rfl) (Nat.le_of_ble_eq_true rfl) hP hD hS hA (fun H locs hP hD hS => ?_)
  clear hM9
  refine lv_istore (lv' := [(6, .int (S 7 2)), (5, .int 0), (4, .int (nI z)), (3, .int (nI q)), (0, .ref x0), (1, .int x), (2, .int y)]) hx hb dL_change_26 hl (by decide) rfl (fun ls hl => ?_)
  refine lv_aload_n hx hb dL_change_28 rfl (lv_at hl 4 rfl) ?_
  refine lv_iconst (v := 3) hx hb dL_change_29 (by decide) ?_
  obtain ⟨X_3, hO_4, hM9⟩ := o_count_3 (l := l) (D := D) hSR hO_2
  refine lo_I (n := 1) (As := [.int 3]) (rest := []) hx hb hml hown hts hK hN hM9 (OX.at0 hO_2) gL_change_X4_count rfl (by decide +kernel) (by decide) dL_change_30 rfl rfl (Nat.le_of_ble_eq_true rfl) hl.1 (Nat.le_of_ble_eq_true rfl) (Nat.le_of_ble_eq_true rfl) (Nat.le_of_ble_eq_true rfl) (Nat.le_of_ble_eq_true rfl) hP hD hS hA (fun H locs hP hD hS => ?_)
  clear hM9
  refine tp_e (y := (nI nw)) hn ?_
  refine lv_istore (lv' := [(7, .int (nI nw)), (6, .int (S 7 2)), (5, .int 0), (4, .int (nI z)), (3, .int (nI q)), (0, .ref x0), (1, .int x), (2, .int y)]) hx hb dL_change_33 hl (by decide) rfl (fun ls hl => ?_)
  refine lv_iload_n hx hb dL_change_35 rfl (lv_at hl 4 rfl) ?_
  refine lv_iload hx hb dL_change_36 (lv_at hl 3 rfl) ?_
  refine lv_icmp_ne (tgt := 45) hx hb dL_change_38 (by decide) (fun c_5 => ?_) (fun c_5 => ?_)
  · have c_5 : ¬ (q = z) := fun h9 => c_5 ((nI_eq (a := q) (b := z) (by omega) (by omega)).mpr h9)
    refine lv_iconst (v := 0) hx hb dL_change_45 (by decide) ?_
    refine lv_istore (lv' := [(8, .int 0), (7, .int (nI nw)), (6, .int (S 7 2)), (5, .int 0), (4, .int (nI z)), (3, .int (nI q)), (0, .ref x0), (1, .int x), (2, .int y)]) hx hb dL_change_46 hl (by decide) rfl (fun ls hl => ?_)
    refine lv_iload_n hx hb dL_change_48 rfl (lv_at hl 5 rfl) ?_
    refine lv_iload hx hb dL_change_49 (lv_at hl 4 rfl) ?_
    refine lv_icmp_ge (tgt := 58) hx hb dL_change_51 (by decide) (fun c_6 => ?_) (fun c_6 => ?_)
    · have c_6 : z ≤ q := (nI_leI (a := z) (b := q) (by omega) (by omega)).mp c_6
      refine lv_iload hx hb dL_change_58 (lv_at hl 4 rfl) ?_
      refine lv_istore (lv' := [(9, .int (nI z)), (8, .int 0), (7, .int (nI nw)), (6, .int (S 7 2)), (5, .int 0), (4, .int (nI z)), (3, .int (nI q)), (0, .ref x0), (1, .int x), (2, .int y)]) hx hb dL_change_60 hl (by decide) rfl (fun ls hl => ?_)
      refine lv_iload_n hx hb dL_change_62 rfl (lv_at hl 6 rfl) ?_
      refine lv_iload hx hb dL_change_63 (lv_at hl 5 rfl) ?_
      refine lv_icmp_ge (tgt := 73) hx hb dL_change_65 (by decide) (fun c_7 => ?_) (fun c_7 => ?_)
      · have c_7 : z ≤ q := (nI_leI (a := z) (b := q) (by omega) (by omega)).mp c_7
        refine lv_iload_n hx hb dL_change_73 rfl (lv_at hl 6 rfl) ?_
        refine lv_istore (lv' := [(10, .int (nI q)), (9, .int (nI z)), (8, .int 0), (7, .int (nI nw)), (6, .int (S 7 2)), (5, .int 0), (4, .int (nI z)), (3, .int (nI q)), (0, .ref x0), (1, .int x), (2, .int y)]) hx hb dL_change_74 hl (by decide) rfl (fun ls hl => ?_)
        refine lv_iload_n hx hb dL_change_76 rfl (lv_at hl 9 rfl) ?_
        refine lv_bipush (v := 16) hx hb dL_change_77 (by decide) ?_
        have hPc : va_P D vwCl ([]) H := hP.sub [] rfl
        have hDc : va_D A ([]) := hD.sub [] (by decide +kernel) rfl
        refine cl_i0 (va_runS (As := [.int x, .int 16]) (rest := []) ⟨hx, hb, hml, hown, hts⟩ (c_L_low_16 l D k x H.size) (va_cwS 2 hts gL_change_L_low rfl rfl rfl (by decide +kernel) ⟨Nat.le_of_ble_eq_true rfl, Nat.le_of_ble_eq_true rfl⟩) ⟨pr_blind, pr_at hN hPc hK hDc⟩ rfl rfl hl.1 rfl (lv_room (Nat.le_of_ble_eq_true rfl)) dL_change_79 ⟨Nat.le_of_ble_eq_true rfl, Nat.le_of_ble_eq_true rfl⟩) hP hD hS hA [] rfl (fun H locs hP hD hS => ?_)
        clear hPc hDc
        refine tp_e (y := 0) (congrArg nI hx16) ?_
        refine lv_tableIn (off := 74) (tgt := 156) hx hb dL_change_82 (by decide) (by decide) rfl (by decide) ?_
        refine lv_aload_n hx hb dL_change_156 rfl (lv_at hl 8 rfl) ?_
        refine lv_iload_n hx hb dL_change_157 rfl (lv_at hl 7 rfl) ?_
        refine lv_iconst (v := 0) hx hb dL_change_158 (by decide) ?_
        obtain ⟨X_8, hO_9, hM9⟩ := o_pieceOf_0 (l := l) (D := D) hSR hO_4 (q := q) (by omega)
        refine lo_I (n := 2) (As := [.int (nI q), .int 0]) (rest := []) hx hb hml hown hts hK hN hM9 (OX.at0 hO_4) gL_change_X4_pieceOf rfl (by decide +kernel) (by decide) dL_change_159 rfl rfl (Nat.le_of_ble_eq_true rfl) hl.1 (Nat.le_of_ble_eq_true rfl) (Nat.le_of_ble_eq_true rfl) (Nat.le_of_ble_eq_true rfl) (Nat.le_of_ble_eq_true rfl) hP hD hS hA (fun H locs hP hD hS => ?_)
        clear hM9
        refine lv_istore (lv' := [(5, .int (S 0 q)), (10, .int (nI q)), (9, .int (nI z)), (8, .int 0), (7, .int (nI nw)), (6, .int (S 7 2)), (4, .int (nI z)), (3, .int (nI q)), (0, .ref x0), (1, .int x), (2, .int y)]) hx hb dL_change_162 hl (by decide) rfl (fun ls hl => ?_)
        refine lv_aload_n hx hb dL_change_164 rfl (lv_at hl 8 rfl) ?_
        refine lv_iload_n hx hb dL_change_165 rfl (lv_at hl 7 rfl) ?_
        refine lv_iload_n hx hb dL_change_166 rfl (lv_at hl 10 rfl) ?_
        refine lv_iconst (v := 4) hx hb dL_change_167 (by decide) ?_
        refine lv_ishr hx hb dL_change_168 ?_
        refine lv_sipush (v := 200) hx hb dL_change_169 (by decide) ?_
        have hPc : va_P D vwCl ([]) H := hP.sub [] rfl
        have hDc : va_D A ([]) := hD.sub [] (by decide +kernel) rfl
        refine cl_i0 (va_runS (As := [.int (y >>> (4 &&& 31)), .int 200]) (rest := [.int (nI q), .ref x0]) ⟨hx, hb, hml, hown, hts⟩ (c_L_low_200 l D k (y >>> (4 &&& 31)) H.size) (va_cwS 2 hts gL_change_L_low rfl rfl rfl (by decide +kernel) ⟨Nat.le_of_ble_eq_true rfl, Nat.le_of_ble_eq_true rfl⟩) ⟨pr_blind, pr_at hN hPc hK hDc⟩ rfl rfl hl.1 rfl (lv_room (Nat.le_of_ble_eq_true rfl)) dL_change_172 ⟨Nat.le_of_ble_eq_true rfl, Nat.le_of_ble_eq_true rfl⟩) hP hD hS hA [] rfl (fun H locs hP hD hS => ?_)
        clear hPc hDc
        obtain ⟨X_10, hO_11, hM9⟩ := o_cover (l := l) (D := D) hO_9 hns (q := q) (c := (lowN (y >>> (4 &&& 31)) 200)) (by omega) (by omega)
        refine lo_I (n := 2) (As := [.int (nI q), .int (nI (lowN (y >>> (4 &&& 31)) 200))]) (rest := []) hx hb hml hown hts hK hN hM9 (OX.at0 hO_9) gL_change_X4_cover rfl (by decide +kernel) (by decide) dL_change_175 rfl rfl (Nat.le_of_ble_eq_true rfl) hl.1 (Nat.le_of_ble_eq_true rfl) (Nat.le_of_ble_eq_true rfl) (Nat.le_of_ble_eq_true rfl) (Nat.le_of_ble_eq_true rfl) hP hD hS hA (fun H locs hP hD hS => ?_)
        clear hM9
        have hns2 : (svN ns) ≤ 6 := (svN_le hns).1
        have hL2 : LI (anS (gC S q (nI (lowN (y >>> (4 &&& 31)) 200)))) := LI_cover hL (by omega) (by omega)
        obtain ⟨f2, hSR2, -, -⟩ := id hL2
        refine lv_iload hx hb dL_change_178 (lv_at hl 0 rfl) ?_
        refine lv_icmp_ne (tgt := 226) hx hb dL_change_180 (by decide) (fun c_12 => ?_) (fun c_12 => ?_)
        · exact absurd (rfl) c_12
        · refine lv_aload_n hx hb dL_change_183 rfl (lv_at hl 8 rfl) ?_
          refine lv_iload_n hx hb dL_change_184 rfl (lv_at hl 7 rfl) ?_
          refine lv_iconst (v := 0) hx hb dL_change_185 (by decide) ?_
          obtain ⟨X_13, hO_14, hM9⟩ := o_pieceOf_0 (l := l) (D := D) hSR2 hO_11 (q := q) (by omega)
          refine lo_I (n := 2) (As := [.int (nI q), .int 0]) (rest := []) hx hb hml hown hts hK hN hM9 (OX.at0 hO_11) gL_change_X4_pieceOf rfl (by decide +kernel) (by decide) dL_change_186 rfl rfl (Nat.le_of_ble_eq_true rfl) hl.1 (Nat.le_of_ble_eq_true rfl) (Nat.le_of_ble_eq_true rfl) (Nat.le_of_ble_eq_true rfl) (Nat.le_of_ble_eq_true rfl) hP hD hS hA (fun H locs hP hD hS => ?_)
          clear hM9
          refine lv_iload_n hx hb dL_change_189 rfl (lv_at hl 10 rfl) ?_
          refine lv_iconst (v := 4) hx hb dL_change_190 (by decide) ?_
          refine lv_ishr hx hb dL_change_191 ?_
          refine lv_sipush (v := 200) hx hb dL_change_192 (by decide) ?_
          have hPc : va_P D vwCl ([]) H := hP.sub [] rfl
          have hDc : va_D A ([]) := hD.sub [] (by decide +kernel) rfl
          refine cl_i0 (va_runS (As := [.int (y >>> (4 &&& 31)), .int 200]) (rest := [.int ((anS (gC S q (nI (lowN (y >>> (4 &&& 31)) 200)))) 0 q)]) ⟨hx, hb, hml, hown, hts⟩ (c_L_low_200 l D k (y >>> (4 &&& 31)) H.size) (va_cwS 2 hts gL_change_L_low rfl rfl rfl (by decide +kernel) ⟨Nat.le_of_ble_eq_true rfl, Nat.le_of_ble_eq_true rfl⟩) ⟨pr_blind, pr_at hN hPc hK hDc⟩ rfl rfl hl.1 rfl (lv_room (Nat.le_of_ble_eq_true rfl)) dL_change_195 ⟨Nat.le_of_ble_eq_true rfl, Nat.le_of_ble_eq_true rfl⟩) hP hD hS hA [] rfl (fun H locs hP hD hS => ?_)
          clear hPc hDc
          refine lv_icmp_ne (tgt := 226) hx hb dL_change_198 (by decide) (fun c_15 => ?_) (fun c_15 => ?_)
          · exact absurd (upd_e _ _ _) c_15
          · refine lv_aload_n hx hb dL_change_201 rfl (lv_at hl 8 rfl) ?_
            refine lv_iconst (v := 3) hx hb dL_change_202 (by decide) ?_
            obtain ⟨X_16, hO_17, hM9⟩ := o_count_3 (l := l) (D := D) hSR2 hO_14
            refine lo_I (n := 1) (As := [.int 3]) (rest := []) hx hb hml hown hts hK hN hM9 (OX.at0 hO_14) gL_change_X4_count rfl (by decide +kernel) (by decide) dL_change_203 rfl rfl (Nat.le_of_ble_eq_true rfl) hl.1 (Nat.le_of_ble_eq_true rfl) (Nat.le_of_ble_eq_true rfl) (Nat.le_of_ble_eq_true rfl) (Nat.le_of_ble_eq_true rfl) hP hD hS hA (fun H locs hP hD hS => ?_)
            clear hM9
            refine lv_if_ne (tgt := 226) hx hb dL_change_206 (by decide) (fun c_18 => ?_) (fun c_18 => ?_)
            · exact absurd (rfl) c_18
            · refine lv_aload_n hx hb dL_change_209 rfl (lv_at hl 8 rfl) ?_
              refine lv_iconst (v := 1) hx hb dL_change_210 (by decide) ?_
              obtain ⟨X_19, hO_20, hM9⟩ := o_count_1 (l := l) (D := D) hSR2 hO_17
              refine lo_I (n := 1) (As := [.int 1]) (rest := []) hx hb hml hown hts hK hN hM9 (OX.at0 hO_17) gL_change_X4_count rfl (by decide +kernel) (by decide) dL_change_211 rfl rfl (Nat.le_of_ble_eq_true rfl) hl.1 (Nat.le_of_ble_eq_true rfl) (Nat.le_of_ble_eq_true rfl) (Nat.le_of_ble_eq_true rfl) (Nat.le_of_ble_eq_true rfl) hP hD hS hA (fun H locs hP hD hS => ?_)
              clear hM9
              refine lv_aload_n hx hb dL_change_214 rfl (lv_at hl 8 rfl) ?_
              refine lv_iconst (v := 2) hx hb dL_change_215 (by decide) ?_
              obtain ⟨X_21, hO_22, hM9⟩ := o_count_2 (l := l) (D := D) hSR2 hO_20
              refine lo_I (n := 1) (As := [.int 2]) (rest := [.int (smF ((anS (gC S q (nI (lowN (y >>> (4 &&& 31)) 200)))) 0) 9)]) hx hb hml hown hts hK hN hM9 (OX.at0 hO_20) gL_change_X4_count rfl (by decide +kernel) (by decide) dL_change_216 rfl rfl (Nat.le_of_ble_eq_true rfl) hl.1 (Nat.le_of_ble_eq_true rfl) (Nat.le_of_ble_eq_true rfl) (Nat.le_of_ble_eq_true rfl) (Nat.le_of_ble_eq_true rfl) hP hD hS hA (fun H locs hP hD hS => ?_)
              clear hM9
              refine lv_icmp_ne (tgt := 226) hx hb dL_change_219 (by decide) (fun c_23 => ?_) (fun c_23 => ?_)
              · exact absurd (rfl) c_23
              · refine lv_iconst (v := 1) hx hb dL_change_222 (by decide) ?_
                refine lv_goto (tgt := 227) hx hb dL_change_223 (by decide) ?_
                subst hQ
                exact rt_zo hx hb hr hlocks hS dL_change_227 (va_PR hP) (va_DR hD) rfl (⟨rfl, _, _, _, hns2, hL2, hO_22⟩)
      · have c_7 : ¬ (z ≤ q) := fun h9 => c_7 ((nI_leI (a := z) (b := q) (by omega) (by omega)).mpr h9)
        omega
    · have c_6 : ¬ (z ≤ q) := fun h9 => c_6 ((nI_leI (a := z) (b := q) (by omega) (by omega)).mpr h9)
      refine lv_iload_n hx hb dL_change_54 rfl (lv_at hl 5 rfl) ?_
      refine lv_goto (tgt := 60) hx hb dL_change_55 (by decide) ?_
      refine lv_istore (lv' := [(9, .int (nI q)), (8, .int 0), (7, .int (nI nw)), (6, .int (S 7 2)), (5, .int 0), (4, .int (nI z)), (3, .int (nI q)), (0, .ref x0), (1, .int x), (2, .int y)]) hx hb dL_change_60 hl (by decide) rfl (fun ls hl => ?_)
      refine lv_iload_n hx hb dL_change_62 rfl (lv_at hl 6 rfl) ?_
      refine lv_iload hx hb dL_change_63 (lv_at hl 5 rfl) ?_
      refine lv_icmp_ge (tgt := 73) hx hb dL_change_65 (by decide) (fun c_24 => ?_) (fun c_24 => ?_)
      · have c_24 : z ≤ q := (nI_leI (a := z) (b := q) (by omega) (by omega)).mp c_24
        omega
      · have c_24 : ¬ (z ≤ q) := fun h9 => c_24 ((nI_leI (a := z) (b := q) (by omega) (by omega)).mpr h9)
        refine lv_iload hx hb dL_change_68 (lv_at hl 5 rfl) ?_
        refine lv_goto (tgt := 74) hx hb dL_change_70 (by decide) ?_
        refine lv_istore (lv' := [(10, .int (nI z)), (9, .int (nI q)), (8, .int 0), (7, .int (nI nw)), (6, .int (S 7 2)), (5, .int 0), (4, .int (nI z)), (3, .int (nI q)), (0, .ref x0), (1, .int x), (2, .int y)]) hx hb dL_change_74 hl (by decide) rfl (fun ls hl => ?_)
        refine lv_iload_n hx hb dL_change_76 rfl (lv_at hl 9 rfl) ?_
        refine lv_bipush (v := 16) hx hb dL_change_77 (by decide) ?_
        have hPc : va_P D vwCl ([]) H := hP.sub [] rfl
        have hDc : va_D A ([]) := hD.sub [] (by decide +kernel) rfl
        refine cl_i0 (va_runS (As := [.int x, .int 16]) (rest := []) ⟨hx, hb, hml, hown, hts⟩ (c_L_low_16 l D k x H.size) (va_cwS 2 hts gL_change_L_low rfl rfl rfl (by decide +kernel) ⟨Nat.le_of_ble_eq_true rfl, Nat.le_of_ble_eq_true rfl⟩) ⟨pr_blind, pr_at hN hPc hK hDc⟩ rfl rfl hl.1 rfl (lv_room (Nat.le_of_ble_eq_true rfl)) dL_change_79 ⟨Nat.le_of_ble_eq_true rfl, Nat.le_of_ble_eq_true rfl⟩) hP hD hS hA [] rfl (fun H locs hP hD hS => ?_)
        clear hPc hDc
        refine tp_e (y := 0) (congrArg nI hx16) ?_
        refine lv_tableIn (off := 74) (tgt := 156) hx hb dL_change_82 (by decide) (by decide) rfl (by decide) ?_
        refine lv_aload_n hx hb dL_change_156 rfl (lv_at hl 8 rfl) ?_
        refine lv_iload_n hx hb dL_change_157 rfl (lv_at hl 7 rfl) ?_
        refine lv_iconst (v := 0) hx hb dL_change_158 (by decide) ?_
        obtain ⟨X_25, hO_26, hM9⟩ := o_pieceOf_0 (l := l) (D := D) hSR hO_4 (q := q) (by omega)
        refine lo_I (n := 2) (As := [.int (nI q), .int 0]) (rest := []) hx hb hml hown hts hK hN hM9 (OX.at0 hO_4) gL_change_X4_pieceOf rfl (by decide +kernel) (by decide) dL_change_159 rfl rfl (Nat.le_of_ble_eq_true rfl) hl.1 (Nat.le_of_ble_eq_true rfl) (Nat.le_of_ble_eq_true rfl) (Nat.le_of_ble_eq_true rfl) (Nat.le_of_ble_eq_true rfl) hP hD hS hA (fun H locs hP hD hS => ?_)
        clear hM9
        refine lv_istore (lv' := [(5, .int (S 0 q)), (10, .int (nI z)), (9, .int (nI q)), (8, .int 0), (7, .int (nI nw)), (6, .int (S 7 2)), (4, .int (nI z)), (3, .int (nI q)), (0, .ref x0), (1, .int x), (2, .int y)]) hx hb dL_change_162 hl (by decide) rfl (fun ls hl => ?_)
        refine lv_aload_n hx hb dL_change_164 rfl (lv_at hl 8 rfl) ?_
        refine lv_iload_n hx hb dL_change_165 rfl (lv_at hl 7 rfl) ?_
        refine lv_iload_n hx hb dL_change_166 rfl (lv_at hl 10 rfl) ?_
        refine lv_iconst (v := 4) hx hb dL_change_167 (by decide) ?_
        refine lv_ishr hx hb dL_change_168 ?_
        refine lv_sipush (v := 200) hx hb dL_change_169 (by decide) ?_
        have hPc : va_P D vwCl ([]) H := hP.sub [] rfl
        have hDc : va_D A ([]) := hD.sub [] (by decide +kernel) rfl
        refine cl_i0 (va_runS (As := [.int (y >>> (4 &&& 31)), .int 200]) (rest := [.int (nI q), .ref x0]) ⟨hx, hb, hml, hown, hts⟩ (c_L_low_200 l D k (y >>> (4 &&& 31)) H.size) (va_cwS 2 hts gL_change_L_low rfl rfl rfl (by decide +kernel) ⟨Nat.le_of_ble_eq_true rfl, Nat.le_of_ble_eq_true rfl⟩) ⟨pr_blind, pr_at hN hPc hK hDc⟩ rfl rfl hl.1 rfl (lv_room (Nat.le_of_ble_eq_true rfl)) dL_change_172 ⟨Nat.le_of_ble_eq_true rfl, Nat.le_of_ble_eq_true rfl⟩) hP hD hS hA [] rfl (fun H locs hP hD hS => ?_)
        clear hPc hDc
        obtain ⟨X_27, hO_28, hM9⟩ := o_cover (l := l) (D := D) hO_26 hns (q := q) (c := (lowN (y >>> (4 &&& 31)) 200)) (by omega) (by omega)
        refine lo_I (n := 2) (As := [.int (nI q), .int (nI (lowN (y >>> (4 &&& 31)) 200))]) (rest := []) hx hb hml hown hts hK hN hM9 (OX.at0 hO_26) gL_change_X4_cover rfl (by decide +kernel) (by decide) dL_change_175 rfl rfl (Nat.le_of_ble_eq_true rfl) hl.1 (Nat.le_of_ble_eq_true rfl) (Nat.le_of_ble_eq_true rfl) (Nat.le_of_ble_eq_true rfl) (Nat.le_of_ble_eq_true rfl) hP hD hS hA (fun H locs hP hD hS => ?_)
        clear hM9
        have hns2 : (svN ns) ≤ 6 := (svN_le hns).1
        have hL2 : LI (anS (gC S q (nI (lowN (y >>> (4 &&& 31)) 200)))) := LI_cover hL (by omega) (by omega)
        obtain ⟨f2, hSR2, -, -⟩ := id hL2
        refine lv_iload hx hb dL_change_178 (lv_at hl 0 rfl) ?_
        refine lv_icmp_ne (tgt := 226) hx hb dL_change_180 (by decide) (fun c_29 => ?_) (fun c_29 => ?_)
        · exact absurd (rfl) c_29
        · refine lv_aload_n hx hb dL_change_183 rfl (lv_at hl 8 rfl) ?_
          refine lv_iload_n hx hb dL_change_184 rfl (lv_at hl 7 rfl) ?_
          refine lv_iconst (v := 0) hx hb dL_change_185 (by decide) ?_
          obtain ⟨X_30, hO_31, hM9⟩ := o_pieceOf_0 (l := l) (D := D) hSR2 hO_28 (q := q) (by omega)
          refine lo_I (n := 2) (As := [.int (nI q), .int 0]) (rest := []) hx hb hml hown hts hK hN hM9 (OX.at0 hO_28) gL_change_X4_pieceOf rfl (by decide +kernel) (by decide) dL_change_186 rfl rfl (Nat.le_of_ble_eq_true rfl) hl.1 (Nat.le_of_ble_eq_true rfl) (Nat.le_of_ble_eq_true rfl) (Nat.le_of_ble_eq_true rfl) (Nat.le_of_ble_eq_true rfl) hP hD hS hA (fun H locs hP hD hS => ?_)
          clear hM9
          refine lv_iload_n hx hb dL_change_189 rfl (lv_at hl 10 rfl) ?_
          refine lv_iconst (v := 4) hx hb dL_change_190 (by decide) ?_
          refine lv_ishr hx hb dL_change_191 ?_
          refine lv_sipush (v := 200) hx hb dL_change_192 (by decide) ?_
          have hPc : va_P D vwCl ([]) H := hP.sub [] rfl
          have hDc : va_D A ([]) := hD.sub [] (by decide +kernel) rfl
          refine cl_i0 (va_runS (As := [.int (y >>> (4 &&& 31)), .int 200]) (rest := [.int ((anS (gC S q (nI (lowN (y >>> (4 &&& 31)) 200)))) 0 q)]) ⟨hx, hb, hml, hown, hts⟩ (c_L_low_200 l D k (y >>> (4 &&& 31)) H.size) (va_cwS 2 hts gL_change_L_low rfl rfl rfl (by decide +kernel) ⟨Nat.le_of_ble_eq_true rfl, Nat.le_of_ble_eq_true rfl⟩) ⟨pr_blind, pr_at hN hPc hK hDc⟩ rfl rfl hl.1 rfl (lv_room (Nat.le_of_ble_eq_true rfl)) dL_change_195 ⟨Nat.le_of_ble_eq_true rfl, Nat.le_of_ble_eq_true rfl⟩) hP hD hS hA [] rfl (fun H locs hP hD hS => ?_)
          clear hPc hDc
          refine lv_icmp_ne (tgt := 226) hx hb dL_change_198 (by decide) (fun c_32 => ?_) (fun c_32 => ?_)
          · exact absurd (upd_e _ _ _) c_32
          · refine lv_aload_n hx hb dL_change_201 rfl (lv_at hl 8 rfl) ?_
            refine lv_iconst (v := 3) hx hb dL_change_202 (by decide) ?_
            obtain ⟨X_33, hO_34, hM9⟩ := o_count_3 (l := l) (D := D) hSR2 hO_31
            refine lo_I (n := 1) (As := [.int 3]) (rest := []) hx hb hml hown hts hK hN hM9 (OX.at0 hO_31) gL_change_X4_count rfl (by decide +kernel) (by decide) dL_change_203 rfl rfl (Nat.le_of_ble_eq_true rfl) hl.1 (Nat.le_of_ble_eq_true rfl) (Nat.le_of_ble_eq_true rfl) (Nat.le_of_ble_eq_true rfl) (Nat.le_of_ble_eq_true rfl) hP hD hS hA (fun H locs hP hD hS => ?_)
            clear hM9
            refine lv_if_ne (tgt := 226) hx hb dL_change_206 (by decide) (fun c_35 => ?_) (fun c_35 => ?_)
            · exact absurd (rfl) c_35
            · refine lv_aload_n hx hb dL_change_209 rfl (lv_at hl 8 rfl) ?_
              refine lv_iconst (v := 1) hx hb dL_change_210 (by decide) ?_
              obtain ⟨X_36, hO_37, hM9⟩ := o_count_1 (l := l) (D := D) hSR2 hO_34
              refine lo_I (n := 1) (As := [.int 1]) (rest := []) hx hb hml hown hts hK hN hM9 (OX.at0 hO_34) gL_change_X4_count rfl (by decide +kernel) (by decide) dL_change_211 rfl rfl (Nat.le_of_ble_eq_true rfl) hl.1 (Nat.le_of_ble_eq_true rfl) (Nat.le_of_ble_eq_true rfl) (Nat.le_of_ble_eq_true rfl) (Nat.le_of_ble_eq_true rfl) hP hD hS hA (fun H locs hP hD hS => ?_)
              clear hM9
              refine lv_aload_n hx hb dL_change_214 rfl (lv_at hl 8 rfl) ?_
              refine lv_iconst (v := 2) hx hb dL_change_215 (by decide) ?_
              obtain ⟨X_38, hO_39, hM9⟩ := o_count_2 (l := l) (D := D) hSR2 hO_37
              refine lo_I (n := 1) (As := [.int 2]) (rest := [.int (smF ((anS (gC S q (nI (lowN (y >>> (4 &&& 31)) 200)))) 0) 9)]) hx hb hml hown hts hK hN hM9 (OX.at0 hO_37) gL_change_X4_count rfl (by decide +kernel) (by decide) dL_change_216 rfl rfl (Nat.le_of_ble_eq_true rfl) hl.1 (Nat.le_of_ble_eq_true rfl) (Nat.le_of_ble_eq_true rfl) (Nat.le_of_ble_eq_true rfl) (Nat.le_of_ble_eq_true rfl) hP hD hS hA (fun H locs hP hD hS => ?_)
              clear hM9
              refine lv_icmp_ne (tgt := 226) hx hb dL_change_219 (by decide) (fun c_40 => ?_) (fun c_40 => ?_)
              · exact absurd (rfl) c_40
              · refine lv_iconst (v := 1) hx hb dL_change_222 (by decide) ?_
                refine lv_goto (tgt := 227) hx hb dL_change_223 (by decide) ?_
                subst hQ
                exact rt_zo hx hb hr hlocks hS dL_change_227 (va_PR hP) (va_DR hD) rfl (⟨rfl, _, _, _, hns2, hL2, hO_39⟩)
  · have c_5 : q = z := (nI_eq (a := q) (b := z) (by omega) (by omega)).mp c_5
    refine lv_iconst (v := 1) hx hb dL_change_41 (by decide) ?_
    refine lv_goto (tgt := 46) hx hb dL_change_42 (by decide) ?_
    refine lv_istore (lv' := [(8, .int 1), (7, .int (nI nw)), (6, .int (S 7 2)), (5, .int 0), (4, .int (nI z)), (3, .int (nI q)), (0, .ref x0), (1, .int x), (2, .int y)]) hx hb dL_change_46 hl (by decide) rfl (fun ls hl => ?_)
    refine lv_iload_n hx hb dL_change_48 rfl (lv_at hl 5 rfl) ?_
    refine lv_iload hx hb dL_change_49 (lv_at hl 4 rfl) ?_
    refine lv_icmp_ge (tgt := 58) hx hb dL_change_51 (by decide) (fun c_41 => ?_) (fun c_41 => ?_)
    · have c_41 : z ≤ q := (nI_leI (a := z) (b := q) (by omega) (by omega)).mp c_41
      refine lv_iload hx hb dL_change_58 (lv_at hl 4 rfl) ?_
      refine lv_istore (lv' := [(9, .int (nI z)), (8, .int 1), (7, .int (nI nw)), (6, .int (S 7 2)), (5, .int 0), (4, .int (nI z)), (3, .int (nI q)), (0, .ref x0), (1, .int x), (2, .int y)]) hx hb dL_change_60 hl (by decide) rfl (fun ls hl => ?_)
      refine lv_iload_n hx hb dL_change_62 rfl (lv_at hl 6 rfl) ?_
      refine lv_iload hx hb dL_change_63 (lv_at hl 5 rfl) ?_
      refine lv_icmp_ge (tgt := 73) hx hb dL_change_65 (by decide) (fun c_42 => ?_) (fun c_42 => ?_)
      · have c_42 : z ≤ q := (nI_leI (a := z) (b := q) (by omega) (by omega)).mp c_42
        refine lv_iload_n hx hb dL_change_73 rfl (lv_at hl 6 rfl) ?_
        refine lv_istore (lv' := [(10, .int (nI q)), (9, .int (nI z)), (8, .int 1), (7, .int (nI nw)), (6, .int (S 7 2)), (5, .int 0), (4, .int (nI z)), (3, .int (nI q)), (0, .ref x0), (1, .int x), (2, .int y)]) hx hb dL_change_74 hl (by decide) rfl (fun ls hl => ?_)
        refine lv_iload_n hx hb dL_change_76 rfl (lv_at hl 9 rfl) ?_
        refine lv_bipush (v := 16) hx hb dL_change_77 (by decide) ?_
        have hPc : va_P D vwCl ([]) H := hP.sub [] rfl
        have hDc : va_D A ([]) := hD.sub [] (by decide +kernel) rfl
        refine cl_i0 (va_runS (As := [.int x, .int 16]) (rest := []) ⟨hx, hb, hml, hown, hts⟩ (c_L_low_16 l D k x H.size) (va_cwS 2 hts gL_change_L_low rfl rfl rfl (by decide +kernel) ⟨Nat.le_of_ble_eq_true rfl, Nat.le_of_ble_eq_true rfl⟩) ⟨pr_blind, pr_at hN hPc hK hDc⟩ rfl rfl hl.1 rfl (lv_room (Nat.le_of_ble_eq_true rfl)) dL_change_79 ⟨Nat.le_of_ble_eq_true rfl, Nat.le_of_ble_eq_true rfl⟩) hP hD hS hA [] rfl (fun H locs hP hD hS => ?_)
        clear hPc hDc
        refine tp_e (y := 0) (congrArg nI hx16) ?_
        refine lv_tableIn (off := 74) (tgt := 156) hx hb dL_change_82 (by decide) (by decide) rfl (by decide) ?_
        refine lv_aload_n hx hb dL_change_156 rfl (lv_at hl 8 rfl) ?_
        refine lv_iload_n hx hb dL_change_157 rfl (lv_at hl 7 rfl) ?_
        refine lv_iconst (v := 0) hx hb dL_change_158 (by decide) ?_
        obtain ⟨X_43, hO_44, hM9⟩ := o_pieceOf_0 (l := l) (D := D) hSR hO_4 (q := q) (by omega)
        refine lo_I (n := 2) (As := [.int (nI q), .int 0]) (rest := []) hx hb hml hown hts hK hN hM9 (OX.at0 hO_4) gL_change_X4_pieceOf rfl (by decide +kernel) (by decide) dL_change_159 rfl rfl (Nat.le_of_ble_eq_true rfl) hl.1 (Nat.le_of_ble_eq_true rfl) (Nat.le_of_ble_eq_true rfl) (Nat.le_of_ble_eq_true rfl) (Nat.le_of_ble_eq_true rfl) hP hD hS hA (fun H locs hP hD hS => ?_)
        clear hM9
        refine lv_istore (lv' := [(5, .int (S 0 q)), (10, .int (nI q)), (9, .int (nI z)), (8, .int 1), (7, .int (nI nw)), (6, .int (S 7 2)), (4, .int (nI z)), (3, .int (nI q)), (0, .ref x0), (1, .int x), (2, .int y)]) hx hb dL_change_162 hl (by decide) rfl (fun ls hl => ?_)
        refine lv_aload_n hx hb dL_change_164 rfl (lv_at hl 8 rfl) ?_
        refine lv_iload_n hx hb dL_change_165 rfl (lv_at hl 7 rfl) ?_
        refine lv_iload_n hx hb dL_change_166 rfl (lv_at hl 10 rfl) ?_
        refine lv_iconst (v := 4) hx hb dL_change_167 (by decide) ?_
        refine lv_ishr hx hb dL_change_168 ?_
        refine lv_sipush (v := 200) hx hb dL_change_169 (by decide) ?_
        have hPc : va_P D vwCl ([]) H := hP.sub [] rfl
        have hDc : va_D A ([]) := hD.sub [] (by decide +kernel) rfl
        refine cl_i0 (va_runS (As := [.int (y >>> (4 &&& 31)), .int 200]) (rest := [.int (nI q), .ref x0]) ⟨hx, hb, hml, hown, hts⟩ (c_L_low_200 l D k (y >>> (4 &&& 31)) H.size) (va_cwS 2 hts gL_change_L_low rfl rfl rfl (by decide +kernel) ⟨Nat.le_of_ble_eq_true rfl, Nat.le_of_ble_eq_true rfl⟩) ⟨pr_blind, pr_at hN hPc hK hDc⟩ rfl rfl hl.1 rfl (lv_room (Nat.le_of_ble_eq_true rfl)) dL_change_172 ⟨Nat.le_of_ble_eq_true rfl, Nat.le_of_ble_eq_true rfl⟩) hP hD hS hA [] rfl (fun H locs hP hD hS => ?_)
        clear hPc hDc
        obtain ⟨X_45, hO_46, hM9⟩ := o_cover (l := l) (D := D) hO_44 hns (q := q) (c := (lowN (y >>> (4 &&& 31)) 200)) (by omega) (by omega)
        refine lo_I (n := 2) (As := [.int (nI q), .int (nI (lowN (y >>> (4 &&& 31)) 200))]) (rest := []) hx hb hml hown hts hK hN hM9 (OX.at0 hO_44) gL_change_X4_cover rfl (by decide +kernel) (by decide) dL_change_175 rfl rfl (Nat.le_of_ble_eq_true rfl) hl.1 (Nat.le_of_ble_eq_true rfl) (Nat.le_of_ble_eq_true rfl) (Nat.le_of_ble_eq_true rfl) (Nat.le_of_ble_eq_true rfl) hP hD hS hA (fun H locs hP hD hS => ?_)
        clear hM9
        have hns2 : (svN ns) ≤ 6 := (svN_le hns).1
        have hL2 : LI (anS (gC S q (nI (lowN (y >>> (4 &&& 31)) 200)))) := LI_cover hL (by omega) (by omega)
        obtain ⟨f2, hSR2, -, -⟩ := id hL2
        refine lv_iload hx hb dL_change_178 (lv_at hl 0 rfl) ?_
        refine lv_icmp_ne (tgt := 226) hx hb dL_change_180 (by decide) (fun c_47 => ?_) (fun c_47 => ?_)
        · exact absurd (rfl) c_47
        · refine lv_aload_n hx hb dL_change_183 rfl (lv_at hl 8 rfl) ?_
          refine lv_iload_n hx hb dL_change_184 rfl (lv_at hl 7 rfl) ?_
          refine lv_iconst (v := 0) hx hb dL_change_185 (by decide) ?_
          obtain ⟨X_48, hO_49, hM9⟩ := o_pieceOf_0 (l := l) (D := D) hSR2 hO_46 (q := q) (by omega)
          refine lo_I (n := 2) (As := [.int (nI q), .int 0]) (rest := []) hx hb hml hown hts hK hN hM9 (OX.at0 hO_46) gL_change_X4_pieceOf rfl (by decide +kernel) (by decide) dL_change_186 rfl rfl (Nat.le_of_ble_eq_true rfl) hl.1 (Nat.le_of_ble_eq_true rfl) (Nat.le_of_ble_eq_true rfl) (Nat.le_of_ble_eq_true rfl) (Nat.le_of_ble_eq_true rfl) hP hD hS hA (fun H locs hP hD hS => ?_)
          clear hM9
          refine lv_iload_n hx hb dL_change_189 rfl (lv_at hl 10 rfl) ?_
          refine lv_iconst (v := 4) hx hb dL_change_190 (by decide) ?_
          refine lv_ishr hx hb dL_change_191 ?_
          refine lv_sipush (v := 200) hx hb dL_change_192 (by decide) ?_
          have hPc : va_P D vwCl ([]) H := hP.sub [] rfl
          have hDc : va_D A ([]) := hD.sub [] (by decide +kernel) rfl
          refine cl_i0 (va_runS (As := [.int (y >>> (4 &&& 31)), .int 200]) (rest := [.int ((anS (gC S q (nI (lowN (y >>> (4 &&& 31)) 200)))) 0 q)]) ⟨hx, hb, hml, hown, hts⟩ (c_L_low_200 l D k (y >>> (4 &&& 31)) H.size) (va_cwS 2 hts gL_change_L_low rfl rfl rfl (by decide +kernel) ⟨Nat.le_of_ble_eq_true rfl, Nat.le_of_ble_eq_true rfl⟩) ⟨pr_blind, pr_at hN hPc hK hDc⟩ rfl rfl hl.1 rfl (lv_room (Nat.le_of_ble_eq_true rfl)) dL_change_195 ⟨Nat.le_of_ble_eq_true rfl, Nat.le_of_ble_eq_true rfl⟩) hP hD hS hA [] rfl (fun H locs hP hD hS => ?_)
          clear hPc hDc
          refine lv_icmp_ne (tgt := 226) hx hb dL_change_198 (by decide) (fun c_50 => ?_) (fun c_50 => ?_)
          · exact absurd (upd_e _ _ _) c_50
          · refine lv_aload_n hx hb dL_change_201 rfl (lv_at hl 8 rfl) ?_
            refine lv_iconst (v := 3) hx hb dL_change_202 (by decide) ?_
            obtain ⟨X_51, hO_52, hM9⟩ := o_count_3 (l := l) (D := D) hSR2 hO_49
            refine lo_I (n := 1) (As := [.int 3]) (rest := []) hx hb hml hown hts hK hN hM9 (OX.at0 hO_49) gL_change_X4_count rfl (by decide +kernel) (by decide) dL_change_203 rfl rfl (Nat.le_of_ble_eq_true rfl) hl.1 (Nat.le_of_ble_eq_true rfl) (Nat.le_of_ble_eq_true rfl) (Nat.le_of_ble_eq_true rfl) (Nat.le_of_ble_eq_true rfl) hP hD hS hA (fun H locs hP hD hS => ?_)
            clear hM9
            refine lv_if_ne (tgt := 226) hx hb dL_change_206 (by decide) (fun c_53 => ?_) (fun c_53 => ?_)
            · exact absurd (rfl) c_53
            · refine lv_aload_n hx hb dL_change_209 rfl (lv_at hl 8 rfl) ?_
              refine lv_iconst (v := 1) hx hb dL_change_210 (by decide) ?_
              obtain ⟨X_54, hO_55, hM9⟩ := o_count_1 (l := l) (D := D) hSR2 hO_52
              refine lo_I (n := 1) (As := [.int 1]) (rest := []) hx hb hml hown hts hK hN hM9 (OX.at0 hO_52) gL_change_X4_count rfl (by decide +kernel) (by decide) dL_change_211 rfl rfl (Nat.le_of_ble_eq_true rfl) hl.1 (Nat.le_of_ble_eq_true rfl) (Nat.le_of_ble_eq_true rfl) (Nat.le_of_ble_eq_true rfl) (Nat.le_of_ble_eq_true rfl) hP hD hS hA (fun H locs hP hD hS => ?_)
              clear hM9
              refine lv_aload_n hx hb dL_change_214 rfl (lv_at hl 8 rfl) ?_
              refine lv_iconst (v := 2) hx hb dL_change_215 (by decide) ?_
              obtain ⟨X_56, hO_57, hM9⟩ := o_count_2 (l := l) (D := D) hSR2 hO_55
              refine lo_I (n := 1) (As := [.int 2]) (rest := [.int (smF ((anS (gC S q (nI (lowN (y >>> (4 &&& 31)) 200)))) 0) 9)]) hx hb hml hown hts hK hN hM9 (OX.at0 hO_55) gL_change_X4_count rfl (by decide +kernel) (by decide) dL_change_216 rfl rfl (Nat.le_of_ble_eq_true rfl) hl.1 (Nat.le_of_ble_eq_true rfl) (Nat.le_of_ble_eq_true rfl) (Nat.le_of_ble_eq_true rfl) (Nat.le_of_ble_eq_true rfl) hP hD hS hA (fun H locs hP hD hS => ?_)
              clear hM9
              refine lv_icmp_ne (tgt := 226) hx hb dL_change_219 (by decide) (fun c_58 => ?_) (fun c_58 => ?_)
              · exact absurd (rfl) c_58
              · refine lv_iconst (v := 1) hx hb dL_change_222 (by decide) ?_
                refine lv_goto (tgt := 227) hx hb dL_change_223 (by decide) ?_
                subst hQ
                exact rt_zo hx hb hr hlocks hS dL_change_227 (va_PR hP) (va_DR hD) rfl (⟨rfl, _, _, _, hns2, hL2, hO_57⟩)
      · have c_42 : ¬ (z ≤ q) := fun h9 => c_42 ((nI_leI (a := z) (b := q) (by omega) (by omega)).mpr h9)
        omega
    · have c_41 : ¬ (z ≤ q) := fun h9 => c_41 ((nI_leI (a := z) (b := q) (by omega) (by omega)).mpr h9)
      exact absurd c_41 (not_not_intro (by omega))

set_option maxHeartbeats 4000000 in
set_option maxRecDepth 100000 in
theorem c_L_change_1 (l : Launch) (D : va_G) (k : Nat → ClassId) (x0 ns : Nat) (S : Nat → Nat → Int32) (Z : Nat → Nat → Nat → Int32) (Y0 : Nat → Nat → Int32) (k0 : Int32) (X : va_W) (x y : Int32) (hns : ns ≤ 6) (hL : LI S) (hO : OX k x0 ns S Z Y0 k0 X) (hx16 : lowN x 16 = 1) : MO l yL_change wsL_change ({ frames := 31, cells := 0, slots := 0, locals := 839 }) D k [.ref x0, .int x, .int y] X (fun r X2 => r = 1 ∧ ∃ ns2 S2 Z2, ns2 ≤ 6 ∧ LI S2 ∧ OX k x0 ns2 S2 Z2 Y0 k0 X2) := by
  intro sz
  refine Met.ofW (cc := cL_change) (maxL := 16) (ret := (some .boolean)) (by decide) rfl ?_
  intro p e s m args below meth c s₁ B hml hv
  obtain ⟨rfl, hN, hsz, hP, hK, hD0⟩ := hv
  have hx := B.exec
  have hb := B.bytes
  have hr := B.returns
  have hts := atoms_spec (ws := wsL_change) B.pre
  have hown : s.vm.findClass RL = some m.cls := findClass_of_methodNamed B.named
  have hlocks := B.notSynchronized
  subst hsz
  have hD := hD0.self (sz := s.heap.size)
  generalize hAe : va_A X s.heap.size = A at hD ⊢
  have hA : ∀ q : Nat, s.heap.size ≤ q → A q := fun q h => by rw [← hAe]; exact Or.inr h
  have hS : va_S A s.heap s.heap [] := va_S.rf
  have hl := lv_entry ([.ref x0, .int x, .int y]) (n := 16) (Nat.le_of_ble_eq_true rfl)
  rw [lg_entry_eq]
  generalize (lg_sl ([.ref x0, .int x, .int y]) ++ List.replicate (16 - (lg_sl ([.ref x0, .int x, .int y])).length) Slot.unset).toArray = ls at hl ⊢
  have hl : lv_has ls 16 [(0, .ref x0), (1, .int x), (2, .int y)] := hl
  obtain ⟨H, hHe⟩ : ∃ H, H = s.heap := ⟨_, rfl⟩
  have hP : va_P D vwCl X H := by rw [hHe]; exact hP
  have hS : va_S A s.heap H [] := by rw [hHe]; exact hS
  rw [← hHe]
  refine absQ (fun Q hQ => ?_)
  obtain ⟨f, hSR, hBR, hEX⟩ := id hL
  obtain ⟨nw, hnw⟩ := hSR.2.2.2
  have hn : S 7 0 = nI nw := hnw.2.1
  have hn2 : nw ≤ 12 := hnw.1
  have hcv := low_lt (y >>> (4 &&& 31)) (n := 200) (by decide)
  have hP : va_P D vwCl ([] ++ (X)) H := hP
  have hD : va_D A ([] ++ (X)) := hD
  refine lv_iload_n hx hb dL_change_0 rfl (lv_at hl 2 rfl) ?_
  refine lv_bipush (v := 9) hx hb dL_change_1 (by decide) ?_
  have hPc : va_P D vwCl ([]) H := hP.sub [] rfl
  have hDc : va_D A ([]) := hD.sub [] (by decide +kernel) rfl
  refine cl_i0 (va_runS (As := [.int y, .int 9]) (rest := []) ⟨hx, hb, hml, hown, hts⟩ (c_L_low_9 l D k y H.size) (va_cwS 2 hts gL_change_L_low rfl rfl rfl (by decide +kernel) ⟨Nat.le_of_ble_eq_true rfl, Nat.le_of_ble_eq_true rfl⟩) ⟨pr_blind, pr_at hN hPc hK hDc⟩ rfl rfl hl.1 rfl (lv_room (Nat.le_of_ble_eq_true rfl)) dL_change_3 ⟨Nat.le_of_ble_eq_true rfl, Nat.le_of_ble_eq_true rfl⟩) hP hD hS hA [] rfl (fun H locs hP hD hS => ?_)
  clear hPc hDc
  obtain ⟨q, hqe⟩ : ∃ q, q = lowN y 9 := ⟨_, rfl⟩
  have hq9 : q < 9 := by rw [hqe]; exact low_lt _ (by decide)
  refine tp_e (y := (nI q)) (by rw [hqe]) ?_
  refine lv_istore_n (lv' := [(3, .int (nI q)), (0, .ref x0), (1, .int x), (2, .int y)]) hx hb dL_change_6 rfl hl (by decide) rfl (fun ls hl => ?_)
  refine lv_iload_n hx hb dL_change_7 rfl (lv_at hl 3 rfl) ?_
  refine lv_iconst (v := 4) hx hb dL_change_8 (by decide) ?_
  refine lv_ishr hx hb dL_change_9 ?_
  refine lv_bipush (v := 9) hx hb dL_change_10 (by decide) ?_
  have hPc : va_P D vwCl ([]) H := hP.sub [] rfl
  have hDc : va_D A ([]) := hD.sub [] (by decide +kernel) rfl
  refine cl_i0 (va_runS (As := [.int (y >>> (4 &&& 31)), .int 9]) (rest := []) ⟨hx, hb, hml, hown, hts⟩ (c_L_low_9 l D k (y >>> (4 &&& 31)) H.size) (va_cwS 2 hts gL_change_L_low rfl rfl rfl (by decide +kernel) ⟨Nat.le_of_ble_eq_true rfl, Nat.le_of_ble_eq_true rfl⟩) ⟨pr_blind, pr_at hN hPc hK hDc⟩ rfl rfl hl.1 rfl (lv_room (Nat.le_of_ble_eq_true rfl)) dL_change_12 ⟨Nat.le_of_ble_eq_true rfl, Nat.le_of_ble_eq_true rfl⟩) hP hD hS hA [] rfl (fun H locs hP hD hS => ?_)
  clear hPc hDc
  obtain ⟨z, hze⟩ : ∃ z, z = lowN (y >>> (4 &&& 31)) 9 := ⟨_, rfl⟩
  have hz9 : z < 9 := by rw [hze]; exact low_lt _ (by decide)
  refine tp_e (y := (nI z)) (by rw [hze]) ?_
  refine lv_istore (lv' := [(4, .int (nI z)), (3, .int (nI q)), (0, .ref x0), (1, .int x), (2, .int y)]) hx hb dL_change_15 hl (by decide) rfl (fun ls hl => ?_)
  refine lv_iconst (v := 0) hx hb dL_change_17 (by decide) ?_
  refine lv_istore (lv' := [(5, .int 0), (4, .int (nI z)), (3, .int (nI q)), (0, .ref x0), (1, .int x), (2, .int y)]) hx hb dL_change_18 hl (by decide) rfl (fun ls hl => ?_)
  refine lv_aload_n hx hb dL_change_20 rfl (lv_at hl 3 rfl) ?_
  refine lv_bipush (v := 10) hx hb dL_change_21 (by decide) ?_
  obtain ⟨X_1, hO_2, hM9⟩ := o_count_10 (l := l) (D := D) hSR hO
  refine lo_I (n := 1) (As := [.int 10]) (rest := []) hx hb hml hown hts hK hN hM9 (OX.at0 hO) gL_change_X4_count rfl (by decide +kernel) (by decide) dL_change_23 rfl rfl (Nat.le_of_ble_eq_true rfl) hl.1 (Nat.le_of_ble_eq_true rfl) (Nat.le_of_ble_eq_true rfl) (Nat.le_of_ble_eq_true rfl) (Nat.le_of_ble_eq_true rfl) hP hD hS hA (fun H locs hP hD hS => ?_)
  clear hM9
  refine lv_istore (lv' := [(6, .int (S 7 2)), (5, .int 0), (4, .int (nI z)), (3, .int (nI q)), (0, .ref x0), (1, .int x), (2, .int y)]) hx hb dL_change_26 hl (by decide) rfl (fun ls hl => ?_)
  refine lv_aload_n hx hb dL_change_28 rfl (lv_at hl 4 rfl) ?_
  refine lv_iconst (v := 3) hx hb dL_change_29 (by decide) ?_
  obtain ⟨X_3, hO_4, hM9⟩ := o_count_3 (l := l) (D := D) hSR hO_2
  refine lo_I (n := 1) (As := [.int 3]) (rest := []) hx hb hml hown hts hK hN hM9 (OX.at0 hO_2) gL_change_X4_count rfl (by decide +kernel) (by decide) dL_change_30 rfl rfl (Nat.le_of_ble_eq_true rfl) hl.1 (Nat.le_of_ble_eq_true rfl) (Nat.le_of_ble_eq_true rfl) (Nat.le_of_ble_eq_true rfl) (Nat.le_of_ble_eq_true rfl) hP hD hS hA (fun H locs hP hD hS => ?_)
  clear hM9
  refine tp_e (y := (nI nw)) hn ?_
  refine lv_istore (lv' := [(7, .int (nI nw)), (6, .int (S 7 2)), (5, .int 0), (4, .int (nI z)), (3, .int (nI q)), (0, .ref x0), (1, .int x), (2, .int y)]) hx hb dL_change_33 hl (by decide) rfl (fun ls hl => ?_)
  refine lv_iload_n hx hb dL_change_35 rfl (lv_at hl 4 rfl) ?_
  refine lv_iload hx hb dL_change_36 (lv_at hl 3 rfl) ?_
  refine lv_icmp_ne (tgt := 45) hx hb dL_change_38 (by decide) (fun c_5 => ?_) (fun c_5 => ?_)
  · have c_5 : ¬ (q = z) := fun h9 => c_5 ((nI_eq (a := q) (b := z) (by omega) (by omega)).mpr h9)
    refine lv_iconst (v := 0) hx hb dL_change_45 (by decide) ?_
    refine lv_istore (lv' := [(8, .int 0), (7, .int (nI nw)), (6, .int (S 7 2)), (5, .int 0), (4, .int (nI z)), (3, .int (nI q)), (0, .ref x0), (1, .int x), (2, .int y)]) hx hb dL_change_46 hl (by decide) rfl (fun ls hl => ?_)
    refine lv_iload_n hx hb dL_change_48 rfl (lv_at hl 5 rfl) ?_
    refine lv_iload hx hb dL_change_49 (lv_at hl 4 rfl) ?_
    refine lv_icmp_ge (tgt := 58) hx hb dL_change_51 (by decide) (fun c_6 => ?_) (fun c_6 => ?_)
    · have c_6 : z ≤ q := (nI_leI (a := z) (b := q) (by omega) (by omega)).mp c_6
      refine lv_iload hx hb dL_change_58 (lv_at hl 4 rfl) ?_
      refine lv_istore (lv' := [(9, .int (nI z)), (8, .int 0), (7, .int (nI nw)), (6, .int (S 7 2)), (5, .int 0), (4, .int (nI z)), (3, .int (nI q)), (0, .ref x0), (1, .int x), (2, .int y)]) hx hb dL_change_60 hl (by decide) rfl (fun ls hl => ?_)
      refine lv_iload_n hx hb dL_change_62 rfl (lv_at hl 6 rfl) ?_
      refine lv_iload hx hb dL_change_63 (lv_at hl 5 rfl) ?_
      refine lv_icmp_ge (tgt := 73) hx hb dL_change_65 (by decide) (fun c_7 => ?_) (fun c_7 => ?_)
      · have c_7 : z ≤ q := (nI_leI (a := z) (b := q) (by omega) (by omega)).mp c_7
        refine lv_iload_n hx hb dL_change_73 rfl (lv_at hl 6 rfl) ?_
        refine lv_istore (lv' := [(10, .int (nI q)), (9, .int (nI z)), (8, .int 0), (7, .int (nI nw)), (6, .int (S 7 2)), (5, .int 0), (4, .int (nI z)), (3, .int (nI q)), (0, .ref x0), (1, .int x), (2, .int y)]) hx hb dL_change_74 hl (by decide) rfl (fun ls hl => ?_)
        refine lv_iload_n hx hb dL_change_76 rfl (lv_at hl 9 rfl) ?_
        refine lv_bipush (v := 16) hx hb dL_change_77 (by decide) ?_
        have hPc : va_P D vwCl ([]) H := hP.sub [] rfl
        have hDc : va_D A ([]) := hD.sub [] (by decide +kernel) rfl
        refine cl_i0 (va_runS (As := [.int x, .int 16]) (rest := []) ⟨hx, hb, hml, hown, hts⟩ (c_L_low_16 l D k x H.size) (va_cwS 2 hts gL_change_L_low rfl rfl rfl (by decide +kernel) ⟨Nat.le_of_ble_eq_true rfl, Nat.le_of_ble_eq_true rfl⟩) ⟨pr_blind, pr_at hN hPc hK hDc⟩ rfl rfl hl.1 rfl (lv_room (Nat.le_of_ble_eq_true rfl)) dL_change_79 ⟨Nat.le_of_ble_eq_true rfl, Nat.le_of_ble_eq_true rfl⟩) hP hD hS hA [] rfl (fun H locs hP hD hS => ?_)
        clear hPc hDc
        refine tp_e (y := 1) (congrArg nI hx16) ?_
        refine lv_tableIn (off := 74) (tgt := 156) hx hb dL_change_82 (by decide) (by decide) rfl (by decide) ?_
        refine lv_aload_n hx hb dL_change_156 rfl (lv_at hl 8 rfl) ?_
        refine lv_iload_n hx hb dL_change_157 rfl (lv_at hl 7 rfl) ?_
        refine lv_iconst (v := 0) hx hb dL_change_158 (by decide) ?_
        obtain ⟨X_8, hO_9, hM9⟩ := o_pieceOf_0 (l := l) (D := D) hSR hO_4 (q := q) (by omega)
        refine lo_I (n := 2) (As := [.int (nI q), .int 0]) (rest := []) hx hb hml hown hts hK hN hM9 (OX.at0 hO_4) gL_change_X4_pieceOf rfl (by decide +kernel) (by decide) dL_change_159 rfl rfl (Nat.le_of_ble_eq_true rfl) hl.1 (Nat.le_of_ble_eq_true rfl) (Nat.le_of_ble_eq_true rfl) (Nat.le_of_ble_eq_true rfl) (Nat.le_of_ble_eq_true rfl) hP hD hS hA (fun H locs hP hD hS => ?_)
        clear hM9
        refine lv_istore (lv' := [(5, .int (S 0 q)), (10, .int (nI q)), (9, .int (nI z)), (8, .int 0), (7, .int (nI nw)), (6, .int (S 7 2)), (4, .int (nI z)), (3, .int (nI q)), (0, .ref x0), (1, .int x), (2, .int y)]) hx hb dL_change_162 hl (by decide) rfl (fun ls hl => ?_)
        refine lv_aload_n hx hb dL_change_164 rfl (lv_at hl 8 rfl) ?_
        refine lv_iload_n hx hb dL_change_165 rfl (lv_at hl 7 rfl) ?_
        refine lv_iload_n hx hb dL_change_166 rfl (lv_at hl 10 rfl) ?_
        refine lv_iconst (v := 4) hx hb dL_change_167 (by decide) ?_
        refine lv_ishr hx hb dL_change_168 ?_
        refine lv_sipush (v := 200) hx hb dL_change_169 (by decide) ?_
        have hPc : va_P D vwCl ([]) H := hP.sub [] rfl
        have hDc : va_D A ([]) := hD.sub [] (by decide +kernel) rfl
        refine cl_i0 (va_runS (As := [.int (y >>> (4 &&& 31)), .int 200]) (rest := [.int (nI q), .ref x0]) ⟨hx, hb, hml, hown, hts⟩ (c_L_low_200 l D k (y >>> (4 &&& 31)) H.size) (va_cwS 2 hts gL_change_L_low rfl rfl rfl (by decide +kernel) ⟨Nat.le_of_ble_eq_true rfl, Nat.le_of_ble_eq_true rfl⟩) ⟨pr_blind, pr_at hN hPc hK hDc⟩ rfl rfl hl.1 rfl (lv_room (Nat.le_of_ble_eq_true rfl)) dL_change_172 ⟨Nat.le_of_ble_eq_true rfl, Nat.le_of_ble_eq_true rfl⟩) hP hD hS hA [] rfl (fun H locs hP hD hS => ?_)
        clear hPc hDc
        obtain ⟨X_10, hO_11, hM9⟩ := o_cover (l := l) (D := D) hO_9 hns (q := q) (c := (lowN (y >>> (4 &&& 31)) 200)) (by omega) (by omega)
        refine lo_I (n := 2) (As := [.int (nI q), .int (nI (lowN (y >>> (4 &&& 31)) 200))]) (rest := []) hx hb hml hown hts hK hN hM9 (OX.at0 hO_9) gL_change_X4_cover rfl (by decide +kernel) (by decide) dL_change_175 rfl rfl (Nat.le_of_ble_eq_true rfl) hl.1 (Nat.le_of_ble_eq_true rfl) (Nat.le_of_ble_eq_true rfl) (Nat.le_of_ble_eq_true rfl) (Nat.le_of_ble_eq_true rfl) hP hD hS hA (fun H locs hP hD hS => ?_)
        clear hM9
        have hns2 : (svN ns) ≤ 6 := (svN_le hns).1
        have hL2 : LI (anS (gC S q (nI (lowN (y >>> (4 &&& 31)) 200)))) := LI_cover hL (by omega) (by omega)
        obtain ⟨f2, hSR2, -, -⟩ := id hL2
        refine lv_iload hx hb dL_change_178 (lv_at hl 0 rfl) ?_
        refine lv_icmp_ne (tgt := 226) hx hb dL_change_180 (by decide) (fun c_12 => ?_) (fun c_12 => ?_)
        · exact absurd (rfl) c_12
        · refine lv_aload_n hx hb dL_change_183 rfl (lv_at hl 8 rfl) ?_
          refine lv_iload_n hx hb dL_change_184 rfl (lv_at hl 7 rfl) ?_
          refine lv_iconst (v := 0) hx hb dL_change_185 (by decide) ?_
          obtain ⟨X_13, hO_14, hM9⟩ := o_pieceOf_0 (l := l) (D := D) hSR2 hO_11 (q := q) (by omega)
          refine lo_I (n := 2) (As := [.int (nI q), .int 0]) (rest := []) hx hb hml hown hts hK hN hM9 (OX.at0 hO_11) gL_change_X4_pieceOf rfl (by decide +kernel) (by decide) dL_change_186 rfl rfl (Nat.le_of_ble_eq_true rfl) hl.1 (Nat.le_of_ble_eq_true rfl) (Nat.le_of_ble_eq_true rfl) (Nat.le_of_ble_eq_true rfl) (Nat.le_of_ble_eq_true rfl) hP hD hS hA (fun H locs hP hD hS => ?_)
          clear hM9
          refine lv_iload_n hx hb dL_change_189 rfl (lv_at hl 10 rfl) ?_
          refine lv_iconst (v := 4) hx hb dL_change_190 (by decide) ?_
          refine lv_ishr hx hb dL_change_191 ?_
          refine lv_sipush (v := 200) hx hb dL_change_192 (by decide) ?_
          have hPc : va_P D vwCl ([]) H := hP.sub [] rfl
          have hDc : va_D A ([]) := hD.sub [] (by decide +kernel) rfl
          refine cl_i0 (va_runS (As := [.int (y >>> (4 &&& 31)), .int 200]) (rest := [.int ((anS (gC S q (nI (lowN (y >>> (4 &&& 31)) 200)))) 0 q)]) ⟨hx, hb, hml, hown, hts⟩ (c_L_low_200 l D k (y >>> (4 &&& 31)) H.size) (va_cwS 2 hts gL_change_L_low rfl rfl rfl (by decide +kernel) ⟨Nat.le_of_ble_eq_true rfl, Nat.le_of_ble_eq_true rfl⟩) ⟨pr_blind, pr_at hN hPc hK hDc⟩ rfl rfl hl.1 rfl (lv_room (Nat.le_of_ble_eq_true rfl)) dL_change_195 ⟨Nat.le_of_ble_eq_true rfl, Nat.le_of_ble_eq_true rfl⟩) hP hD hS hA [] rfl (fun H locs hP hD hS => ?_)
          clear hPc hDc
          refine lv_icmp_ne (tgt := 226) hx hb dL_change_198 (by decide) (fun c_15 => ?_) (fun c_15 => ?_)
          · exact absurd (upd_e _ _ _) c_15
          · refine lv_aload_n hx hb dL_change_201 rfl (lv_at hl 8 rfl) ?_
            refine lv_iconst (v := 3) hx hb dL_change_202 (by decide) ?_
            obtain ⟨X_16, hO_17, hM9⟩ := o_count_3 (l := l) (D := D) hSR2 hO_14
            refine lo_I (n := 1) (As := [.int 3]) (rest := []) hx hb hml hown hts hK hN hM9 (OX.at0 hO_14) gL_change_X4_count rfl (by decide +kernel) (by decide) dL_change_203 rfl rfl (Nat.le_of_ble_eq_true rfl) hl.1 (Nat.le_of_ble_eq_true rfl) (Nat.le_of_ble_eq_true rfl) (Nat.le_of_ble_eq_true rfl) (Nat.le_of_ble_eq_true rfl) hP hD hS hA (fun H locs hP hD hS => ?_)
            clear hM9
            refine lv_if_ne (tgt := 226) hx hb dL_change_206 (by decide) (fun c_18 => ?_) (fun c_18 => ?_)
            · exact absurd (rfl) c_18
            · refine lv_aload_n hx hb dL_change_209 rfl (lv_at hl 8 rfl) ?_
              refine lv_iconst (v := 1) hx hb dL_change_210 (by decide) ?_
              obtain ⟨X_19, hO_20, hM9⟩ := o_count_1 (l := l) (D := D) hSR2 hO_17
              refine lo_I (n := 1) (As := [.int 1]) (rest := []) hx hb hml hown hts hK hN hM9 (OX.at0 hO_17) gL_change_X4_count rfl (by decide +kernel) (by decide) dL_change_211 rfl rfl (Nat.le_of_ble_eq_true rfl) hl.1 (Nat.le_of_ble_eq_true rfl) (Nat.le_of_ble_eq_true rfl) (Nat.le_of_ble_eq_true rfl) (Nat.le_of_ble_eq_true rfl) hP hD hS hA (fun H locs hP hD hS => ?_)
              clear hM9
              refine lv_aload_n hx hb dL_change_214 rfl (lv_at hl 8 rfl) ?_
              refine lv_iconst (v := 2) hx hb dL_change_215 (by decide) ?_
              obtain ⟨X_21, hO_22, hM9⟩ := o_count_2 (l := l) (D := D) hSR2 hO_20
              refine lo_I (n := 1) (As := [.int 2]) (rest := [.int (smF ((anS (gC S q (nI (lowN (y >>> (4 &&& 31)) 200)))) 0) 9)]) hx hb hml hown hts hK hN hM9 (OX.at0 hO_20) gL_change_X4_count rfl (by decide +kernel) (by decide) dL_change_216 rfl rfl (Nat.le_of_ble_eq_true rfl) hl.1 (Nat.le_of_ble_eq_true rfl) (Nat.le_of_ble_eq_true rfl) (Nat.le_of_ble_eq_true rfl) (Nat.le_of_ble_eq_true rfl) hP hD hS hA (fun H locs hP hD hS => ?_)
              clear hM9
              refine lv_icmp_ne (tgt := 226) hx hb dL_change_219 (by decide) (fun c_23 => ?_) (fun c_23 => ?_)
              · exact absurd (rfl) c_23
              · refine lv_iconst (v := 1) hx hb dL_change_222 (by decide) ?_
                refine lv_goto (tgt := 227) hx hb dL_change_223 (by decide) ?_
                subst hQ
                exact rt_zo hx hb hr hlocks hS dL_change_227 (va_PR hP) (va_DR hD) rfl (⟨rfl, _, _, _, hns2, hL2, hO_22⟩)
      · have c_7 : ¬ (z ≤ q) := fun h9 => c_7 ((nI_leI (a := z) (b := q) (by omega) (by omega)).mpr h9)
        omega
    · have c_6 : ¬ (z ≤ q) := fun h9 => c_6 ((nI_leI (a := z) (b := q) (by omega) (by omega)).mpr h9)
      refine lv_iload_n hx hb dL_change_54 rfl (lv_at hl 5 rfl) ?_
      refine lv_goto (tgt := 60) hx hb dL_change_55 (by decide) ?_
      refine lv_istore (lv' := [(9, .int (nI q)), (8, .int 0), (7, .int (nI nw)), (6, .int (S 7 2)), (5, .int 0), (4, .int (nI z)), (3, .int (nI q)), (0, .ref x0), (1, .int x), (2, .int y)]) hx hb dL_change_60 hl (by decide) rfl (fun ls hl => ?_)
      refine lv_iload_n hx hb dL_change_62 rfl (lv_at hl 6 rfl) ?_
      refine lv_iload hx hb dL_change_63 (lv_at hl 5 rfl) ?_
      refine lv_icmp_ge (tgt := 73) hx hb dL_change_65 (by decide) (fun c_24 => ?_) (fun c_24 => ?_)
      · have c_24 : z ≤ q := (nI_leI (a := z) (b := q) (by omega) (by omega)).mp c_24
        omega
      · have c_24 : ¬ (z ≤ q) := fun h9 => c_24 ((nI_leI (a := z) (b := q) (by omega) (by omega)).mpr h9)
        refine lv_iload hx hb dL_change_68 (lv_at hl 5 rfl) ?_
        refine lv_goto (tgt := 74) hx hb dL_change_70 (by decide) ?_
        refine lv_istore (lv' := [(10, .int (nI z)), (9, .int (nI q)), (8, .int 0), (7, .int (nI nw)), (6, .int (S 7 2)), (5, .int 0), (4, .int (nI z)), (3, .int (nI q)), (0, .ref x0), (1, .int x), (2, .int y)]) hx hb dL_change_74 hl (by decide) rfl (fun ls hl => ?_)
        refine lv_iload_n hx hb dL_change_76 rfl (lv_at hl 9 rfl) ?_
        refine lv_bipush (v := 16) hx hb dL_change_77 (by decide) ?_
        have hPc : va_P D vwCl ([]) H := hP.sub [] rfl
        have hDc : va_D A ([]) := hD.sub [] (by decide +kernel) rfl
        refine cl_i0 (va_runS (As := [.int x, .int 16]) (rest := []) ⟨hx, hb, hml, hown, hts⟩ (c_L_low_16 l D k x H.size) (va_cwS 2 hts gL_change_L_low rfl rfl rfl (by decide +kernel) ⟨Nat.le_of_ble_eq_true rfl, Nat.le_of_ble_eq_true rfl⟩) ⟨pr_blind, pr_at hN hPc hK hDc⟩ rfl rfl hl.1 rfl (lv_room (Nat.le_of_ble_eq_true rfl)) dL_change_79 ⟨Nat.le_of_ble_eq_true rfl, Nat.le_of_ble_eq_true rfl⟩) hP hD hS hA [] rfl (fun H locs hP hD hS => ?_)
        clear hPc hDc
        refine tp_e (y := 1) (congrArg nI hx16) ?_
        refine lv_tableIn (off := 74) (tgt := 156) hx hb dL_change_82 (by decide) (by decide) rfl (by decide) ?_
        refine lv_aload_n hx hb dL_change_156 rfl (lv_at hl 8 rfl) ?_
        refine lv_iload_n hx hb dL_change_157 rfl (lv_at hl 7 rfl) ?_
        refine lv_iconst (v := 0) hx hb dL_change_158 (by decide) ?_
        obtain ⟨X_25, hO_26, hM9⟩ := o_pieceOf_0 (l := l) (D := D) hSR hO_4 (q := q) (by omega)
        refine lo_I (n := 2) (As := [.int (nI q), .int 0]) (rest := []) hx hb hml hown hts hK hN hM9 (OX.at0 hO_4) gL_change_X4_pieceOf rfl (by decide +kernel) (by decide) dL_change_159 rfl rfl (Nat.le_of_ble_eq_true rfl) hl.1 (Nat.le_of_ble_eq_true rfl) (Nat.le_of_ble_eq_true rfl) (Nat.le_of_ble_eq_true rfl) (Nat.le_of_ble_eq_true rfl) hP hD hS hA (fun H locs hP hD hS => ?_)
        clear hM9
        refine lv_istore (lv' := [(5, .int (S 0 q)), (10, .int (nI z)), (9, .int (nI q)), (8, .int 0), (7, .int (nI nw)), (6, .int (S 7 2)), (4, .int (nI z)), (3, .int (nI q)), (0, .ref x0), (1, .int x), (2, .int y)]) hx hb dL_change_162 hl (by decide) rfl (fun ls hl => ?_)
        refine lv_aload_n hx hb dL_change_164 rfl (lv_at hl 8 rfl) ?_
        refine lv_iload_n hx hb dL_change_165 rfl (lv_at hl 7 rfl) ?_
        refine lv_iload_n hx hb dL_change_166 rfl (lv_at hl 10 rfl) ?_
        refine lv_iconst (v := 4) hx hb dL_change_167 (by decide) ?_
        refine lv_ishr hx hb dL_change_168 ?_
        refine lv_sipush (v := 200) hx hb dL_change_169 (by decide) ?_
        have hPc : va_P D vwCl ([]) H := hP.sub [] rfl
        have hDc : va_D A ([]) := hD.sub [] (by decide +kernel) rfl
        refine cl_i0 (va_runS (As := [.int (y >>> (4 &&& 31)), .int 200]) (rest := [.int (nI q), .ref x0]) ⟨hx, hb, hml, hown, hts⟩ (c_L_low_200 l D k (y >>> (4 &&& 31)) H.size) (va_cwS 2 hts gL_change_L_low rfl rfl rfl (by decide +kernel) ⟨Nat.le_of_ble_eq_true rfl, Nat.le_of_ble_eq_true rfl⟩) ⟨pr_blind, pr_at hN hPc hK hDc⟩ rfl rfl hl.1 rfl (lv_room (Nat.le_of_ble_eq_true rfl)) dL_change_172 ⟨Nat.le_of_ble_eq_true rfl, Nat.le_of_ble_eq_true rfl⟩) hP hD hS hA [] rfl (fun H locs hP hD hS => ?_)
        clear hPc hDc
        obtain ⟨X_27, hO_28, hM9⟩ := o_cover (l := l) (D := D) hO_26 hns (q := q) (c := (lowN (y >>> (4 &&& 31)) 200)) (by omega) (by omega)
        refine lo_I (n := 2) (As := [.int (nI q), .int (nI (lowN (y >>> (4 &&& 31)) 200))]) (rest := []) hx hb hml hown hts hK hN hM9 (OX.at0 hO_26) gL_change_X4_cover rfl (by decide +kernel) (by decide) dL_change_175 rfl rfl (Nat.le_of_ble_eq_true rfl) hl.1 (Nat.le_of_ble_eq_true rfl) (Nat.le_of_ble_eq_true rfl) (Nat.le_of_ble_eq_true rfl) (Nat.le_of_ble_eq_true rfl) hP hD hS hA (fun H locs hP hD hS => ?_)
        clear hM9
        have hns2 : (svN ns) ≤ 6 := (svN_le hns).1
        have hL2 : LI (anS (gC S q (nI (lowN (y >>> (4 &&& 31)) 200)))) := LI_cover hL (by omega) (by omega)
        obtain ⟨f2, hSR2, -, -⟩ := id hL2
        refine lv_iload hx hb dL_change_178 (lv_at hl 0 rfl) ?_
        refine lv_icmp_ne (tgt := 226) hx hb dL_change_180 (by decide) (fun c_29 => ?_) (fun c_29 => ?_)
        · exact absurd (rfl) c_29
        · refine lv_aload_n hx hb dL_change_183 rfl (lv_at hl 8 rfl) ?_
          refine lv_iload_n hx hb dL_change_184 rfl (lv_at hl 7 rfl) ?_
          refine lv_iconst (v := 0) hx hb dL_change_185 (by decide) ?_
          obtain ⟨X_30, hO_31, hM9⟩ := o_pieceOf_0 (l := l) (D := D) hSR2 hO_28 (q := q) (by omega)
          refine lo_I (n := 2) (As := [.int (nI q), .int 0]) (rest := []) hx hb hml hown hts hK hN hM9 (OX.at0 hO_28) gL_change_X4_pieceOf rfl (by decide +kernel) (by decide) dL_change_186 rfl rfl (Nat.le_of_ble_eq_true rfl) hl.1 (Nat.le_of_ble_eq_true rfl) (Nat.le_of_ble_eq_true rfl) (Nat.le_of_ble_eq_true rfl) (Nat.le_of_ble_eq_true rfl) hP hD hS hA (fun H locs hP hD hS => ?_)
          clear hM9
          refine lv_iload_n hx hb dL_change_189 rfl (lv_at hl 10 rfl) ?_
          refine lv_iconst (v := 4) hx hb dL_change_190 (by decide) ?_
          refine lv_ishr hx hb dL_change_191 ?_
          refine lv_sipush (v := 200) hx hb dL_change_192 (by decide) ?_
          have hPc : va_P D vwCl ([]) H := hP.sub [] rfl
          have hDc : va_D A ([]) := hD.sub [] (by decide +kernel) rfl
          refine cl_i0 (va_runS (As := [.int (y >>> (4 &&& 31)), .int 200]) (rest := [.int ((anS (gC S q (nI (lowN (y >>> (4 &&& 31)) 200)))) 0 q)]) ⟨hx, hb, hml, hown, hts⟩ (c_L_low_200 l D k (y >>> (4 &&& 31)) H.size) (va_cwS 2 hts gL_change_L_low rfl rfl rfl (by decide +kernel) ⟨Nat.le_of_ble_eq_true rfl, Nat.le_of_ble_eq_true rfl⟩) ⟨pr_blind, pr_at hN hPc hK hDc⟩ rfl rfl hl.1 rfl (lv_room (Nat.le_of_ble_eq_true rfl)) dL_change_195 ⟨Nat.le_of_ble_eq_true rfl, Nat.le_of_ble_eq_true rfl⟩) hP hD hS hA [] rfl (fun H locs hP hD hS => ?_)
          clear hPc hDc
          refine lv_icmp_ne (tgt := 226) hx hb dL_change_198 (by decide) (fun c_32 => ?_) (fun c_32 => ?_)
          · exact absurd (upd_e _ _ _) c_32
          · refine lv_aload_n hx hb dL_change_201 rfl (lv_at hl 8 rfl) ?_
            refine lv_iconst (v := 3) hx hb dL_change_202 (by decide) ?_
            obtain ⟨X_33, hO_34, hM9⟩ := o_count_3 (l := l) (D := D) hSR2 hO_31
            refine lo_I (n := 1) (As := [.int 3]) (rest := []) hx hb hml hown hts hK hN hM9 (OX.at0 hO_31) gL_change_X4_count rfl (by decide +kernel) (by decide) dL_change_203 rfl rfl (Nat.le_of_ble_eq_true rfl) hl.1 (Nat.le_of_ble_eq_true rfl) (Nat.le_of_ble_eq_true rfl) (Nat.le_of_ble_eq_true rfl) (Nat.le_of_ble_eq_true rfl) hP hD hS hA (fun H locs hP hD hS => ?_)
            clear hM9
            refine lv_if_ne (tgt := 226) hx hb dL_change_206 (by decide) (fun c_35 => ?_) (fun c_35 => ?_)
            · exact absurd (rfl) c_35
            · refine lv_aload_n hx hb dL_change_209 rfl (lv_at hl 8 rfl) ?_
              refine lv_iconst (v := 1) hx hb dL_change_210 (by decide) ?_
              obtain ⟨X_36, hO_37, hM9⟩ := o_count_1 (l := l) (D := D) hSR2 hO_34
              refine lo_I (n := 1) (As := [.int 1]) (rest := []) hx hb hml hown hts hK hN hM9 (OX.at0 hO_34) gL_change_X4_count rfl (by decide +kernel) (by decide) dL_change_211 rfl rfl (Nat.le_of_ble_eq_true rfl) hl.1 (Nat.le_of_ble_eq_true rfl) (Nat.le_of_ble_eq_true rfl) (Nat.le_of_ble_eq_true rfl) (Nat.le_of_ble_eq_true rfl) hP hD hS hA (fun H locs hP hD hS => ?_)
              clear hM9
              refine lv_aload_n hx hb dL_change_214 rfl (lv_at hl 8 rfl) ?_
              refine lv_iconst (v := 2) hx hb dL_change_215 (by decide) ?_
              obtain ⟨X_38, hO_39, hM9⟩ := o_count_2 (l := l) (D := D) hSR2 hO_37
              refine lo_I (n := 1) (As := [.int 2]) (rest := [.int (smF ((anS (gC S q (nI (lowN (y >>> (4 &&& 31)) 200)))) 0) 9)]) hx hb hml hown hts hK hN hM9 (OX.at0 hO_37) gL_change_X4_count rfl (by decide +kernel) (by decide) dL_change_216 rfl rfl (Nat.le_of_ble_eq_true rfl) hl.1 (Nat.le_of_ble_eq_true rfl) (Nat.le_of_ble_eq_true rfl) (Nat.le_of_ble_eq_true rfl) (Nat.le_of_ble_eq_true rfl) hP hD hS hA (fun H locs hP hD hS => ?_)
              clear hM9
              refine lv_icmp_ne (tgt := 226) hx hb dL_change_219 (by decide) (fun c_40 => ?_) (fun c_40 => ?_)
              · exact absurd (rfl) c_40
              · refine lv_iconst (v := 1) hx hb dL_change_222 (by decide) ?_
                refine lv_goto (tgt := 227) hx hb dL_change_223 (by decide) ?_
                subst hQ
                exact rt_zo hx hb hr hlocks hS dL_change_227 (va_PR hP) (va_DR hD) rfl (⟨rfl, _, _, _, hns2, hL2, hO_39⟩)
  · have c_5 : q = z := (nI_eq (a := q) (b := z) (by omega) (by omega)).mp c_5
    refine lv_iconst (v := 1) hx hb dL_change_41 (by decide) ?_
    refine lv_goto (tgt := 46) hx hb dL_change_42 (by decide) ?_
    refine lv_istore (lv' := [(8, .int 1), (7, .int (nI nw)), (6, .int (S 7 2)), (5, .int 0), (4, .int (nI z)), (3, .int (nI q)), (0, .ref x0), (1, .int x), (2, .int y)]) hx hb dL_change_46 hl (by decide) rfl (fun ls hl => ?_)
    refine lv_iload_n hx hb dL_change_48 rfl (lv_at hl 5 rfl) ?_
    refine lv_iload hx hb dL_change_49 (lv_at hl 4 rfl) ?_
    refine lv_icmp_ge (tgt := 58) hx hb dL_change_51 (by decide) (fun c_41 => ?_) (fun c_41 => ?_)
    · have c_41 : z ≤ q := (nI_leI (a := z) (b := q) (by omega) (by omega)).mp c_41
      refine lv_iload hx hb dL_change_58 (lv_at hl 4 rfl) ?_
      refine lv_istore (lv' := [(9, .int (nI z)), (8, .int 1), (7, .int (nI nw)), (6, .int (S 7 2)), (5, .int 0), (4, .int (nI z)), (3, .int (nI q)), (0, .ref x0), (1, .int x), (2, .int y)]) hx hb dL_change_60 hl (by decide) rfl (fun ls hl => ?_)
      refine lv_iload_n hx hb dL_change_62 rfl (lv_at hl 6 rfl) ?_
      refine lv_iload hx hb dL_change_63 (lv_at hl 5 rfl) ?_
      refine lv_icmp_ge (tgt := 73) hx hb dL_change_65 (by decide) (fun c_42 => ?_) (fun c_42 => ?_)
      · have c_42 : z ≤ q := (nI_leI (a := z) (b := q) (by omega) (by omega)).mp c_42
        refine lv_iload_n hx hb dL_change_73 rfl (lv_at hl 6 rfl) ?_
        refine lv_istore (lv' := [(10, .int (nI q)), (9, .int (nI z)), (8, .int 1), (7, .int (nI nw)), (6, .int (S 7 2)), (5, .int 0), (4, .int (nI z)), (3, .int (nI q)), (0, .ref x0), (1, .int x), (2, .int y)]) hx hb dL_change_74 hl (by decide) rfl (fun ls hl => ?_)
        refine lv_iload_n hx hb dL_change_76 rfl (lv_at hl 9 rfl) ?_
        refine lv_bipush (v := 16) hx hb dL_change_77 (by decide) ?_
        have hPc : va_P D vwCl ([]) H := hP.sub [] rfl
        have hDc : va_D A ([]) := hD.sub [] (by decide +kernel) rfl
        refine cl_i0 (va_runS (As := [.int x, .int 16]) (rest := []) ⟨hx, hb, hml, hown, hts⟩ (c_L_low_16 l D k x H.size) (va_cwS 2 hts gL_change_L_low rfl rfl rfl (by decide +kernel) ⟨Nat.le_of_ble_eq_true rfl, Nat.le_of_ble_eq_true rfl⟩) ⟨pr_blind, pr_at hN hPc hK hDc⟩ rfl rfl hl.1 rfl (lv_room (Nat.le_of_ble_eq_true rfl)) dL_change_79 ⟨Nat.le_of_ble_eq_true rfl, Nat.le_of_ble_eq_true rfl⟩) hP hD hS hA [] rfl (fun H locs hP hD hS => ?_)
        clear hPc hDc
        refine tp_e (y := 1) (congrArg nI hx16) ?_
        refine lv_tableIn (off := 74) (tgt := 156) hx hb dL_change_82 (by decide) (by decide) rfl (by decide) ?_
        refine lv_aload_n hx hb dL_change_156 rfl (lv_at hl 8 rfl) ?_
        refine lv_iload_n hx hb dL_change_157 rfl (lv_at hl 7 rfl) ?_
        refine lv_iconst (v := 0) hx hb dL_change_158 (by decide) ?_
        obtain ⟨X_43, hO_44, hM9⟩ := o_pieceOf_0 (l := l) (D := D) hSR hO_4 (q := q) (by omega)
        refine lo_I (n := 2) (As := [.int (nI q), .int 0]) (rest := []) hx hb hml hown hts hK hN hM9 (OX.at0 hO_4) gL_change_X4_pieceOf rfl (by decide +kernel) (by decide) dL_change_159 rfl rfl (Nat.le_of_ble_eq_true rfl) hl.1 (Nat.le_of_ble_eq_true rfl) (Nat.le_of_ble_eq_true rfl) (Nat.le_of_ble_eq_true rfl) (Nat.le_of_ble_eq_true rfl) hP hD hS hA (fun H locs hP hD hS => ?_)
        clear hM9
        refine lv_istore (lv' := [(5, .int (S 0 q)), (10, .int (nI q)), (9, .int (nI z)), (8, .int 1), (7, .int (nI nw)), (6, .int (S 7 2)), (4, .int (nI z)), (3, .int (nI q)), (0, .ref x0), (1, .int x), (2, .int y)]) hx hb dL_change_162 hl (by decide) rfl (fun ls hl => ?_)
        refine lv_aload_n hx hb dL_change_164 rfl (lv_at hl 8 rfl) ?_
        refine lv_iload_n hx hb dL_change_165 rfl (lv_at hl 7 rfl) ?_
        refine lv_iload_n hx hb dL_change_166 rfl (lv_at hl 10 rfl) ?_
        refine lv_iconst (v := 4) hx hb dL_change_167 (by decide) ?_
        refine lv_ishr hx hb dL_change_168 ?_
        refine lv_sipush (v := 200) hx hb dL_change_169 (by decide) ?_
        have hPc : va_P D vwCl ([]) H := hP.sub [] rfl
        have hDc : va_D A ([]) := hD.sub [] (by decide +kernel) rfl
        refine cl_i0 (va_runS (As := [.int (y >>> (4 &&& 31)), .int 200]) (rest := [.int (nI q), .ref x0]) ⟨hx, hb, hml, hown, hts⟩ (c_L_low_200 l D k (y >>> (4 &&& 31)) H.size) (va_cwS 2 hts gL_change_L_low rfl rfl rfl (by decide +kernel) ⟨Nat.le_of_ble_eq_true rfl, Nat.le_of_ble_eq_true rfl⟩) ⟨pr_blind, pr_at hN hPc hK hDc⟩ rfl rfl hl.1 rfl (lv_room (Nat.le_of_ble_eq_true rfl)) dL_change_172 ⟨Nat.le_of_ble_eq_true rfl, Nat.le_of_ble_eq_true rfl⟩) hP hD hS hA [] rfl (fun H locs hP hD hS => ?_)
        clear hPc hDc
        obtain ⟨X_45, hO_46, hM9⟩ := o_cover (l := l) (D := D) hO_44 hns (q := q) (c := (lowN (y >>> (4 &&& 31)) 200)) (by omega) (by omega)
        refine lo_I (n := 2) (As := [.int (nI q), .int (nI (lowN (y >>> (4 &&& 31)) 200))]) (rest := []) hx hb hml hown hts hK hN hM9 (OX.at0 hO_44) gL_change_X4_cover rfl (by decide +kernel) (by decide) dL_change_175 rfl rfl (Nat.le_of_ble_eq_true rfl) hl.1 (Nat.le_of_ble_eq_true rfl) (Nat.le_of_ble_eq_true rfl) (Nat.le_of_ble_eq_true rfl) (Nat.le_of_ble_eq_true rfl) hP hD hS hA (fun H locs hP hD hS => ?_)
        clear hM9
        have hns2 : (svN ns) ≤ 6 := (svN_le hns).1
        have hL2 : LI (anS (gC S q (nI (lowN (y >>> (4 &&& 31)) 200)))) := LI_cover hL (by omega) (by omega)
        obtain ⟨f2, hSR2, -, -⟩ := id hL2
        refine lv_iload hx hb dL_change_178 (lv_at hl 0 rfl) ?_
        refine lv_icmp_ne (tgt := 226) hx hb dL_change_180 (by decide) (fun c_47 => ?_) (fun c_47 => ?_)
        · exact absurd (rfl) c_47
        · refine lv_aload_n hx hb dL_change_183 rfl (lv_at hl 8 rfl) ?_
          refine lv_iload_n hx hb dL_change_184 rfl (lv_at hl 7 rfl) ?_
          refine lv_iconst (v := 0) hx hb dL_change_185 (by decide) ?_
          obtain ⟨X_48, hO_49, hM9⟩ := o_pieceOf_0 (l := l) (D := D) hSR2 hO_46 (q := q) (by omega)
          refine lo_I (n := 2) (As := [.int (nI q), .int 0]) (rest := []) hx hb hml hown hts hK hN hM9 (OX.at0 hO_46) gL_change_X4_pieceOf rfl (by decide +kernel) (by decide) dL_change_186 rfl rfl (Nat.le_of_ble_eq_true rfl) hl.1 (Nat.le_of_ble_eq_true rfl) (Nat.le_of_ble_eq_true rfl) (Nat.le_of_ble_eq_true rfl) (Nat.le_of_ble_eq_true rfl) hP hD hS hA (fun H locs hP hD hS => ?_)
          clear hM9
          refine lv_iload_n hx hb dL_change_189 rfl (lv_at hl 10 rfl) ?_
          refine lv_iconst (v := 4) hx hb dL_change_190 (by decide) ?_
          refine lv_ishr hx hb dL_change_191 ?_
          refine lv_sipush (v := 200) hx hb dL_change_192 (by decide) ?_
          have hPc : va_P D vwCl ([]) H := hP.sub [] rfl
          have hDc : va_D A ([]) := hD.sub [] (by decide +kernel) rfl
          refine cl_i0 (va_runS (As := [.int (y >>> (4 &&& 31)), .int 200]) (rest := [.int ((anS (gC S q (nI (lowN (y >>> (4 &&& 31)) 200)))) 0 q)]) ⟨hx, hb, hml, hown, hts⟩ (c_L_low_200 l D k (y >>> (4 &&& 31)) H.size) (va_cwS 2 hts gL_change_L_low rfl rfl rfl (by decide +kernel) ⟨Nat.le_of_ble_eq_true rfl, Nat.le_of_ble_eq_true rfl⟩) ⟨pr_blind, pr_at hN hPc hK hDc⟩ rfl rfl hl.1 rfl (lv_room (Nat.le_of_ble_eq_true rfl)) dL_change_195 ⟨Nat.le_of_ble_eq_true rfl, Nat.le_of_ble_eq_true rfl⟩) hP hD hS hA [] rfl (fun H locs hP hD hS => ?_)
          clear hPc hDc
          refine lv_icmp_ne (tgt := 226) hx hb dL_change_198 (by decide) (fun c_50 => ?_) (fun c_50 => ?_)
          · exact absurd (upd_e _ _ _) c_50
          · refine lv_aload_n hx hb dL_change_201 rfl (lv_at hl 8 rfl) ?_
            refine lv_iconst (v := 3) hx hb dL_change_202 (by decide) ?_
            obtain ⟨X_51, hO_52, hM9⟩ := o_count_3 (l := l) (D := D) hSR2 hO_49
            refine lo_I (n := 1) (As := [.int 3]) (rest := []) hx hb hml hown hts hK hN hM9 (OX.at0 hO_49) gL_change_X4_count rfl (by decide +kernel) (by decide) dL_change_203 rfl rfl (Nat.le_of_ble_eq_true rfl) hl.1 (Nat.le_of_ble_eq_true rfl) (Nat.le_of_ble_eq_true rfl) (Nat.le_of_ble_eq_true rfl) (Nat.le_of_ble_eq_true rfl) hP hD hS hA (fun H locs hP hD hS => ?_)
            clear hM9
            refine lv_if_ne (tgt := 226) hx hb dL_change_206 (by decide) (fun c_53 => ?_) (fun c_53 => ?_)
            · exact absurd (rfl) c_53
            · refine lv_aload_n hx hb dL_change_209 rfl (lv_at hl 8 rfl) ?_
              refine lv_iconst (v := 1) hx hb dL_change_210 (by decide) ?_
              obtain ⟨X_54, hO_55, hM9⟩ := o_count_1 (l := l) (D := D) hSR2 hO_52
              refine lo_I (n := 1) (As := [.int 1]) (rest := []) hx hb hml hown hts hK hN hM9 (OX.at0 hO_52) gL_change_X4_count rfl (by decide +kernel) (by decide) dL_change_211 rfl rfl (Nat.le_of_ble_eq_true rfl) hl.1 (Nat.le_of_ble_eq_true rfl) (Nat.le_of_ble_eq_true rfl) (Nat.le_of_ble_eq_true rfl) (Nat.le_of_ble_eq_true rfl) hP hD hS hA (fun H locs hP hD hS => ?_)
              clear hM9
              refine lv_aload_n hx hb dL_change_214 rfl (lv_at hl 8 rfl) ?_
              refine lv_iconst (v := 2) hx hb dL_change_215 (by decide) ?_
              obtain ⟨X_56, hO_57, hM9⟩ := o_count_2 (l := l) (D := D) hSR2 hO_55
              refine lo_I (n := 1) (As := [.int 2]) (rest := [.int (smF ((anS (gC S q (nI (lowN (y >>> (4 &&& 31)) 200)))) 0) 9)]) hx hb hml hown hts hK hN hM9 (OX.at0 hO_55) gL_change_X4_count rfl (by decide +kernel) (by decide) dL_change_216 rfl rfl (Nat.le_of_ble_eq_true rfl) hl.1 (Nat.le_of_ble_eq_true rfl) (Nat.le_of_ble_eq_true rfl) (Nat.le_of_ble_eq_true rfl) (Nat.le_of_ble_eq_true rfl) hP hD hS hA (fun H locs hP hD hS => ?_)
              clear hM9
              refine lv_icmp_ne (tgt := 226) hx hb dL_change_219 (by decide) (fun c_58 => ?_) (fun c_58 => ?_)
              · exact absurd (rfl) c_58
              · refine lv_iconst (v := 1) hx hb dL_change_222 (by decide) ?_
                refine lv_goto (tgt := 227) hx hb dL_change_223 (by decide) ?_
                subst hQ
                exact rt_zo hx hb hr hlocks hS dL_change_227 (va_PR hP) (va_DR hD) rfl (⟨rfl, _, _, _, hns2, hL2, hO_57⟩)
      · have c_42 : ¬ (z ≤ q) := fun h9 => c_42 ((nI_leI (a := z) (b := q) (by omega) (by omega)).mpr h9)
        omega
    · have c_41 : ¬ (z ≤ q) := fun h9 => c_41 ((nI_leI (a := z) (b := q) (by omega) (by omega)).mpr h9)
      exact absurd c_41 (not_not_intro (by omega))

set_option maxHeartbeats 4000000 in
set_option maxRecDepth 100000 in
theorem c_L_change_2 (l : Launch) (D : va_G) (k : Nat → ClassId) (x0 ns : Nat) (S : Nat → Nat → Int32) (Z : Nat → Nat → Nat → Int32) (Y0 : Nat → Nat → Int32) (k0 : Int32) (X : va_W) (x y : Int32) (hns : ns ≤ 6) (hL : LI S) (hO : OX k x0 ns S Z Y0 k0 X) (hx16 : lowN x 16 = 2) : MO l yL_change wsL_change ({ frames := 31, cells := 0, slots := 0, locals := 839 }) D k [.ref x0, .int x, .int y] X (fun r X2 => r = 1 ∧ ∃ ns2 S2 Z2, ns2 ≤ 6 ∧ LI S2 ∧ OX k x0 ns2 S2 Z2 Y0 k0 X2) := by
  intro sz
  refine Met.ofW (cc := cL_change) (maxL := 16) (ret := (some .boolean)) (by decide) rfl ?_
  intro p e s m args below meth c s₁ B hml hv
  obtain ⟨rfl, hN, hsz, hP, hK, hD0⟩ := hv
  have hx := B.exec
  have hb := B.bytes
  have hr := B.returns
  have hts := atoms_spec (ws := wsL_change) B.pre
  have hown : s.vm.findClass RL = some m.cls := findClass_of_methodNamed B.named
  have hlocks := B.notSynchronized
  subst hsz
  have hD := hD0.self (sz := s.heap.size)
  generalize hAe : va_A X s.heap.size = A at hD ⊢
  have hA : ∀ q : Nat, s.heap.size ≤ q → A q := fun q h => by rw [← hAe]; exact Or.inr h
  have hS : va_S A s.heap s.heap [] := va_S.rf
  have hl := lv_entry ([.ref x0, .int x, .int y]) (n := 16) (Nat.le_of_ble_eq_true rfl)
  rw [lg_entry_eq]
  generalize (lg_sl ([.ref x0, .int x, .int y]) ++ List.replicate (16 - (lg_sl ([.ref x0, .int x, .int y])).length) Slot.unset).toArray = ls at hl ⊢
  have hl : lv_has ls 16 [(0, .ref x0), (1, .int x), (2, .int y)] := hl
  obtain ⟨H, hHe⟩ : ∃ H, H = s.heap := ⟨_, rfl⟩
  have hP : va_P D vwCl X H := by rw [hHe]; exact hP
  have hS : va_S A s.heap H [] := by rw [hHe]; exact hS
  rw [← hHe]
  refine absQ (fun Q hQ => ?_)
  obtain ⟨f, hSR, hBR, hEX⟩ := id hL
  obtain ⟨nw, hnw⟩ := hSR.2.2.2
  have hn : S 7 0 = nI nw := hnw.2.1
  have hn2 : nw ≤ 12 := hnw.1
  have hcv := low_lt (y >>> (4 &&& 31)) (n := 200) (by decide)
  have hP : va_P D vwCl ([] ++ (X)) H := hP
  have hD : va_D A ([] ++ (X)) := hD
  refine lv_iload_n hx hb dL_change_0 rfl (lv_at hl 2 rfl) ?_
  refine lv_bipush (v := 9) hx hb dL_change_1 (by decide) ?_
  have hPc : va_P D vwCl ([]) H := hP.sub [] rfl
  have hDc : va_D A ([]) := hD.sub [] (by decide +kernel) rfl
  refine cl_i0 (va_runS (As := [.int y, .int 9]) (rest := []) ⟨hx, hb, hml, hown, hts⟩ (c_L_low_9 l D k y H.size) (va_cwS 2 hts gL_change_L_low rfl rfl rfl (by decide +kernel) ⟨Nat.le_of_ble_eq_true rfl, Nat.le_of_ble_eq_true rfl⟩) ⟨pr_blind, pr_at hN hPc hK hDc⟩ rfl rfl hl.1 rfl (lv_room (Nat.le_of_ble_eq_true rfl)) dL_change_3 ⟨Nat.le_of_ble_eq_true rfl, Nat.le_of_ble_eq_true rfl⟩) hP hD hS hA [] rfl (fun H locs hP hD hS => ?_)
  clear hPc hDc
  obtain ⟨q, hqe⟩ : ∃ q, q = lowN y 9 := ⟨_, rfl⟩
  have hq9 : q < 9 := by rw [hqe]; exact low_lt _ (by decide)
  refine tp_e (y := (nI q)) (by rw [hqe]) ?_
  refine lv_istore_n (lv' := [(3, .int (nI q)), (0, .ref x0), (1, .int x), (2, .int y)]) hx hb dL_change_6 rfl hl (by decide) rfl (fun ls hl => ?_)
  refine lv_iload_n hx hb dL_change_7 rfl (lv_at hl 3 rfl) ?_
  refine lv_iconst (v := 4) hx hb dL_change_8 (by decide) ?_
  refine lv_ishr hx hb dL_change_9 ?_
  refine lv_bipush (v := 9) hx hb dL_change_10 (by decide) ?_
  have hPc : va_P D vwCl ([]) H := hP.sub [] rfl
  have hDc : va_D A ([]) := hD.sub [] (by decide +kernel) rfl
  refine cl_i0 (va_runS (As := [.int (y >>> (4 &&& 31)), .int 9]) (rest := []) ⟨hx, hb, hml, hown, hts⟩ (c_L_low_9 l D k (y >>> (4 &&& 31)) H.size) (va_cwS 2 hts gL_change_L_low rfl rfl rfl (by decide +kernel) ⟨Nat.le_of_ble_eq_true rfl, Nat.le_of_ble_eq_true rfl⟩) ⟨pr_blind, pr_at hN hPc hK hDc⟩ rfl rfl hl.1 rfl (lv_room (Nat.le_of_ble_eq_true rfl)) dL_change_12 ⟨Nat.le_of_ble_eq_true rfl, Nat.le_of_ble_eq_true rfl⟩) hP hD hS hA [] rfl (fun H locs hP hD hS => ?_)
  clear hPc hDc
  obtain ⟨z, hze⟩ : ∃ z, z = lowN (y >>> (4 &&& 31)) 9 := ⟨_, rfl⟩
  have hz9 : z < 9 := by rw [hze]; exact low_lt _ (by decide)
  refine tp_e (y := (nI z)) (by rw [hze]) ?_
  refine lv_istore (lv' := [(4, .int (nI z)), (3, .int (nI q)), (0, .ref x0), (1, .int x), (2, .int y)]) hx hb dL_change_15 hl (by decide) rfl (fun ls hl => ?_)
  refine lv_iconst (v := 0) hx hb dL_change_17 (by decide) ?_
  refine lv_istore (lv' := [(5, .int 0), (4, .int (nI z)), (3, .int (nI q)), (0, .ref x0), (1, .int x), (2, .int y)]) hx hb dL_change_18 hl (by decide) rfl (fun ls hl => ?_)
  refine lv_aload_n hx hb dL_change_20 rfl (lv_at hl 3 rfl) ?_
  refine lv_bipush (v := 10) hx hb dL_change_21 (by decide) ?_
  obtain ⟨X_1, hO_2, hM9⟩ := o_count_10 (l := l) (D := D) hSR hO
  refine lo_I (n := 1) (As := [.int 10]) (rest := []) hx hb hml hown hts hK hN hM9 (OX.at0 hO) gL_change_X4_count rfl (by decide +kernel) (by decide) dL_change_23 rfl rfl (Nat.le_of_ble_eq_true rfl) hl.1 (Nat.le_of_ble_eq_true rfl) (Nat.le_of_ble_eq_true rfl) (Nat.le_of_ble_eq_true rfl) (Nat.le_of_ble_eq_true rfl) hP hD hS hA (fun H locs hP hD hS => ?_)
  clear hM9
  refine lv_istore (lv' := [(6, .int (S 7 2)), (5, .int 0), (4, .int (nI z)), (3, .int (nI q)), (0, .ref x0), (1, .int x), (2, .int y)]) hx hb dL_change_26 hl (by decide) rfl (fun ls hl => ?_)
  refine lv_aload_n hx hb dL_change_28 rfl (lv_at hl 4 rfl) ?_
  refine lv_iconst (v := 3) hx hb dL_change_29 (by decide) ?_
  obtain ⟨X_3, hO_4, hM9⟩ := o_count_3 (l := l) (D := D) hSR hO_2
  refine lo_I (n := 1) (As := [.int 3]) (rest := []) hx hb hml hown hts hK hN hM9 (OX.at0 hO_2) gL_change_X4_count rfl (by decide +kernel) (by decide) dL_change_30 rfl rfl (Nat.le_of_ble_eq_true rfl) hl.1 (Nat.le_of_ble_eq_true rfl) (Nat.le_of_ble_eq_true rfl) (Nat.le_of_ble_eq_true rfl) (Nat.le_of_ble_eq_true rfl) hP hD hS hA (fun H locs hP hD hS => ?_)
  clear hM9
  refine tp_e (y := (nI nw)) hn ?_
  refine lv_istore (lv' := [(7, .int (nI nw)), (6, .int (S 7 2)), (5, .int 0), (4, .int (nI z)), (3, .int (nI q)), (0, .ref x0), (1, .int x), (2, .int y)]) hx hb dL_change_33 hl (by decide) rfl (fun ls hl => ?_)
  refine lv_iload_n hx hb dL_change_35 rfl (lv_at hl 4 rfl) ?_
  refine lv_iload hx hb dL_change_36 (lv_at hl 3 rfl) ?_
  refine lv_icmp_ne (tgt := 45) hx hb dL_change_38 (by decide) (fun c_5 => ?_) (fun c_5 => ?_)
  · have c_5 : ¬ (q = z) := fun h9 => c_5 ((nI_eq (a := q) (b := z) (by omega) (by omega)).mpr h9)
    refine lv_iconst (v := 0) hx hb dL_change_45 (by decide) ?_
    refine lv_istore (lv' := [(8, .int 0), (7, .int (nI nw)), (6, .int (S 7 2)), (5, .int 0), (4, .int (nI z)), (3, .int (nI q)), (0, .ref x0), (1, .int x), (2, .int y)]) hx hb dL_change_46 hl (by decide) rfl (fun ls hl => ?_)
    refine lv_iload_n hx hb dL_change_48 rfl (lv_at hl 5 rfl) ?_
    refine lv_iload hx hb dL_change_49 (lv_at hl 4 rfl) ?_
    refine lv_icmp_ge (tgt := 58) hx hb dL_change_51 (by decide) (fun c_6 => ?_) (fun c_6 => ?_)
    · have c_6 : z ≤ q := (nI_leI (a := z) (b := q) (by omega) (by omega)).mp c_6
      refine lv_iload hx hb dL_change_58 (lv_at hl 4 rfl) ?_
      refine lv_istore (lv' := [(9, .int (nI z)), (8, .int 0), (7, .int (nI nw)), (6, .int (S 7 2)), (5, .int 0), (4, .int (nI z)), (3, .int (nI q)), (0, .ref x0), (1, .int x), (2, .int y)]) hx hb dL_change_60 hl (by decide) rfl (fun ls hl => ?_)
      refine lv_iload_n hx hb dL_change_62 rfl (lv_at hl 6 rfl) ?_
      refine lv_iload hx hb dL_change_63 (lv_at hl 5 rfl) ?_
      refine lv_icmp_ge (tgt := 73) hx hb dL_change_65 (by decide) (fun c_7 => ?_) (fun c_7 => ?_)
      · have c_7 : z ≤ q := (nI_leI (a := z) (b := q) (by omega) (by omega)).mp c_7
        refine lv_iload_n hx hb dL_change_73 rfl (lv_at hl 6 rfl) ?_
        refine lv_istore (lv' := [(10, .int (nI q)), (9, .int (nI z)), (8, .int 0), (7, .int (nI nw)), (6, .int (S 7 2)), (5, .int 0), (4, .int (nI z)), (3, .int (nI q)), (0, .ref x0), (1, .int x), (2, .int y)]) hx hb dL_change_74 hl (by decide) rfl (fun ls hl => ?_)
        refine lv_iload_n hx hb dL_change_76 rfl (lv_at hl 9 rfl) ?_
        refine lv_bipush (v := 16) hx hb dL_change_77 (by decide) ?_
        have hPc : va_P D vwCl ([]) H := hP.sub [] rfl
        have hDc : va_D A ([]) := hD.sub [] (by decide +kernel) rfl
        refine cl_i0 (va_runS (As := [.int x, .int 16]) (rest := []) ⟨hx, hb, hml, hown, hts⟩ (c_L_low_16 l D k x H.size) (va_cwS 2 hts gL_change_L_low rfl rfl rfl (by decide +kernel) ⟨Nat.le_of_ble_eq_true rfl, Nat.le_of_ble_eq_true rfl⟩) ⟨pr_blind, pr_at hN hPc hK hDc⟩ rfl rfl hl.1 rfl (lv_room (Nat.le_of_ble_eq_true rfl)) dL_change_79 ⟨Nat.le_of_ble_eq_true rfl, Nat.le_of_ble_eq_true rfl⟩) hP hD hS hA [] rfl (fun H locs hP hD hS => ?_)
        clear hPc hDc
        refine tp_e (y := 2) (congrArg nI hx16) ?_
        refine lv_tableIn (off := 74) (tgt := 156) hx hb dL_change_82 (by decide) (by decide) rfl (by decide) ?_
        refine lv_aload_n hx hb dL_change_156 rfl (lv_at hl 8 rfl) ?_
        refine lv_iload_n hx hb dL_change_157 rfl (lv_at hl 7 rfl) ?_
        refine lv_iconst (v := 0) hx hb dL_change_158 (by decide) ?_
        obtain ⟨X_8, hO_9, hM9⟩ := o_pieceOf_0 (l := l) (D := D) hSR hO_4 (q := q) (by omega)
        refine lo_I (n := 2) (As := [.int (nI q), .int 0]) (rest := []) hx hb hml hown hts hK hN hM9 (OX.at0 hO_4) gL_change_X4_pieceOf rfl (by decide +kernel) (by decide) dL_change_159 rfl rfl (Nat.le_of_ble_eq_true rfl) hl.1 (Nat.le_of_ble_eq_true rfl) (Nat.le_of_ble_eq_true rfl) (Nat.le_of_ble_eq_true rfl) (Nat.le_of_ble_eq_true rfl) hP hD hS hA (fun H locs hP hD hS => ?_)
        clear hM9
        refine lv_istore (lv' := [(5, .int (S 0 q)), (10, .int (nI q)), (9, .int (nI z)), (8, .int 0), (7, .int (nI nw)), (6, .int (S 7 2)), (4, .int (nI z)), (3, .int (nI q)), (0, .ref x0), (1, .int x), (2, .int y)]) hx hb dL_change_162 hl (by decide) rfl (fun ls hl => ?_)
        refine lv_aload_n hx hb dL_change_164 rfl (lv_at hl 8 rfl) ?_
        refine lv_iload_n hx hb dL_change_165 rfl (lv_at hl 7 rfl) ?_
        refine lv_iload_n hx hb dL_change_166 rfl (lv_at hl 10 rfl) ?_
        refine lv_iconst (v := 4) hx hb dL_change_167 (by decide) ?_
        refine lv_ishr hx hb dL_change_168 ?_
        refine lv_sipush (v := 200) hx hb dL_change_169 (by decide) ?_
        have hPc : va_P D vwCl ([]) H := hP.sub [] rfl
        have hDc : va_D A ([]) := hD.sub [] (by decide +kernel) rfl
        refine cl_i0 (va_runS (As := [.int (y >>> (4 &&& 31)), .int 200]) (rest := [.int (nI q), .ref x0]) ⟨hx, hb, hml, hown, hts⟩ (c_L_low_200 l D k (y >>> (4 &&& 31)) H.size) (va_cwS 2 hts gL_change_L_low rfl rfl rfl (by decide +kernel) ⟨Nat.le_of_ble_eq_true rfl, Nat.le_of_ble_eq_true rfl⟩) ⟨pr_blind, pr_at hN hPc hK hDc⟩ rfl rfl hl.1 rfl (lv_room (Nat.le_of_ble_eq_true rfl)) dL_change_172 ⟨Nat.le_of_ble_eq_true rfl, Nat.le_of_ble_eq_true rfl⟩) hP hD hS hA [] rfl (fun H locs hP hD hS => ?_)
        clear hPc hDc
        obtain ⟨X_10, hO_11, hM9⟩ := o_cover (l := l) (D := D) hO_9 hns (q := q) (c := (lowN (y >>> (4 &&& 31)) 200)) (by omega) (by omega)
        refine lo_I (n := 2) (As := [.int (nI q), .int (nI (lowN (y >>> (4 &&& 31)) 200))]) (rest := []) hx hb hml hown hts hK hN hM9 (OX.at0 hO_9) gL_change_X4_cover rfl (by decide +kernel) (by decide) dL_change_175 rfl rfl (Nat.le_of_ble_eq_true rfl) hl.1 (Nat.le_of_ble_eq_true rfl) (Nat.le_of_ble_eq_true rfl) (Nat.le_of_ble_eq_true rfl) (Nat.le_of_ble_eq_true rfl) hP hD hS hA (fun H locs hP hD hS => ?_)
        clear hM9
        have hns2 : (svN ns) ≤ 6 := (svN_le hns).1
        have hL2 : LI (anS (gC S q (nI (lowN (y >>> (4 &&& 31)) 200)))) := LI_cover hL (by omega) (by omega)
        obtain ⟨f2, hSR2, -, -⟩ := id hL2
        refine lv_iload hx hb dL_change_178 (lv_at hl 0 rfl) ?_
        refine lv_icmp_ne (tgt := 226) hx hb dL_change_180 (by decide) (fun c_12 => ?_) (fun c_12 => ?_)
        · exact absurd (rfl) c_12
        · refine lv_aload_n hx hb dL_change_183 rfl (lv_at hl 8 rfl) ?_
          refine lv_iload_n hx hb dL_change_184 rfl (lv_at hl 7 rfl) ?_
          refine lv_iconst (v := 0) hx hb dL_change_185 (by decide) ?_
          obtain ⟨X_13, hO_14, hM9⟩ := o_pieceOf_0 (l := l) (D := D) hSR2 hO_11 (q := q) (by omega)
          refine lo_I (n := 2) (As := [.int (nI q), .int 0]) (rest := []) hx hb hml hown hts hK hN hM9 (OX.at0 hO_11) gL_change_X4_pieceOf rfl (by decide +kernel) (by decide) dL_change_186 rfl rfl (Nat.le_of_ble_eq_true rfl) hl.1 (Nat.le_of_ble_eq_true rfl) (Nat.le_of_ble_eq_true rfl) (Nat.le_of_ble_eq_true rfl) (Nat.le_of_ble_eq_true rfl) hP hD hS hA (fun H locs hP hD hS => ?_)
          clear hM9
          refine lv_iload_n hx hb dL_change_189 rfl (lv_at hl 10 rfl) ?_
          refine lv_iconst (v := 4) hx hb dL_change_190 (by decide) ?_
          refine lv_ishr hx hb dL_change_191 ?_
          refine lv_sipush (v := 200) hx hb dL_change_192 (by decide) ?_
          have hPc : va_P D vwCl ([]) H := hP.sub [] rfl
          have hDc : va_D A ([]) := hD.sub [] (by decide +kernel) rfl
          refine cl_i0 (va_runS (As := [.int (y >>> (4 &&& 31)), .int 200]) (rest := [.int ((anS (gC S q (nI (lowN (y >>> (4 &&& 31)) 200)))) 0 q)]) ⟨hx, hb, hml, hown, hts⟩ (c_L_low_200 l D k (y >>> (4 &&& 31)) H.size) (va_cwS 2 hts gL_change_L_low rfl rfl rfl (by decide +kernel) ⟨Nat.le_of_ble_eq_true rfl, Nat.le_of_ble_eq_true rfl⟩) ⟨pr_blind, pr_at hN hPc hK hDc⟩ rfl rfl hl.1 rfl (lv_room (Nat.le_of_ble_eq_true rfl)) dL_change_195 ⟨Nat.le_of_ble_eq_true rfl, Nat.le_of_ble_eq_true rfl⟩) hP hD hS hA [] rfl (fun H locs hP hD hS => ?_)
          clear hPc hDc
          refine lv_icmp_ne (tgt := 226) hx hb dL_change_198 (by decide) (fun c_15 => ?_) (fun c_15 => ?_)
          · exact absurd (upd_e _ _ _) c_15
          · refine lv_aload_n hx hb dL_change_201 rfl (lv_at hl 8 rfl) ?_
            refine lv_iconst (v := 3) hx hb dL_change_202 (by decide) ?_
            obtain ⟨X_16, hO_17, hM9⟩ := o_count_3 (l := l) (D := D) hSR2 hO_14
            refine lo_I (n := 1) (As := [.int 3]) (rest := []) hx hb hml hown hts hK hN hM9 (OX.at0 hO_14) gL_change_X4_count rfl (by decide +kernel) (by decide) dL_change_203 rfl rfl (Nat.le_of_ble_eq_true rfl) hl.1 (Nat.le_of_ble_eq_true rfl) (Nat.le_of_ble_eq_true rfl) (Nat.le_of_ble_eq_true rfl) (Nat.le_of_ble_eq_true rfl) hP hD hS hA (fun H locs hP hD hS => ?_)
            clear hM9
            refine lv_if_ne (tgt := 226) hx hb dL_change_206 (by decide) (fun c_18 => ?_) (fun c_18 => ?_)
            · exact absurd (rfl) c_18
            · refine lv_aload_n hx hb dL_change_209 rfl (lv_at hl 8 rfl) ?_
              refine lv_iconst (v := 1) hx hb dL_change_210 (by decide) ?_
              obtain ⟨X_19, hO_20, hM9⟩ := o_count_1 (l := l) (D := D) hSR2 hO_17
              refine lo_I (n := 1) (As := [.int 1]) (rest := []) hx hb hml hown hts hK hN hM9 (OX.at0 hO_17) gL_change_X4_count rfl (by decide +kernel) (by decide) dL_change_211 rfl rfl (Nat.le_of_ble_eq_true rfl) hl.1 (Nat.le_of_ble_eq_true rfl) (Nat.le_of_ble_eq_true rfl) (Nat.le_of_ble_eq_true rfl) (Nat.le_of_ble_eq_true rfl) hP hD hS hA (fun H locs hP hD hS => ?_)
              clear hM9
              refine lv_aload_n hx hb dL_change_214 rfl (lv_at hl 8 rfl) ?_
              refine lv_iconst (v := 2) hx hb dL_change_215 (by decide) ?_
              obtain ⟨X_21, hO_22, hM9⟩ := o_count_2 (l := l) (D := D) hSR2 hO_20
              refine lo_I (n := 1) (As := [.int 2]) (rest := [.int (smF ((anS (gC S q (nI (lowN (y >>> (4 &&& 31)) 200)))) 0) 9)]) hx hb hml hown hts hK hN hM9 (OX.at0 hO_20) gL_change_X4_count rfl (by decide +kernel) (by decide) dL_change_216 rfl rfl (Nat.le_of_ble_eq_true rfl) hl.1 (Nat.le_of_ble_eq_true rfl) (Nat.le_of_ble_eq_true rfl) (Nat.le_of_ble_eq_true rfl) (Nat.le_of_ble_eq_true rfl) hP hD hS hA (fun H locs hP hD hS => ?_)
              clear hM9
              refine lv_icmp_ne (tgt := 226) hx hb dL_change_219 (by decide) (fun c_23 => ?_) (fun c_23 => ?_)
              · exact absurd (rfl) c_23
              · refine lv_iconst (v := 1) hx hb dL_change_222 (by decide) ?_
                refine lv_goto (tgt := 227) hx hb dL_change_223 (by decide) ?_
                subst hQ
                exact rt_zo hx hb hr hlocks hS dL_change_227 (va_PR hP) (va_DR hD) rfl (⟨rfl, _, _, _, hns2, hL2, hO_22⟩)
      · have c_7 : ¬ (z ≤ q) := fun h9 => c_7 ((nI_leI (a := z) (b := q) (by omega) (by omega)).mpr h9)
        omega
    · have c_6 : ¬ (z ≤ q) := fun h9 => c_6 ((nI_leI (a := z) (b := q) (by omega) (by omega)).mpr h9)
      refine lv_iload_n hx hb dL_change_54 rfl (lv_at hl 5 rfl) ?_
      refine lv_goto (tgt := 60) hx hb dL_change_55 (by decide) ?_
      refine lv_istore (lv' := [(9, .int (nI q)), (8, .int 0), (7, .int (nI nw)), (6, .int (S 7 2)), (5, .int 0), (4, .int (nI z)), (3, .int (nI q)), (0, .ref x0), (1, .int x), (2, .int y)]) hx hb dL_change_60 hl (by decide) rfl (fun ls hl => ?_)
      refine lv_iload_n hx hb dL_change_62 rfl (lv_at hl 6 rfl) ?_
      refine lv_iload hx hb dL_change_63 (lv_at hl 5 rfl) ?_
      refine lv_icmp_ge (tgt := 73) hx hb dL_change_65 (by decide) (fun c_24 => ?_) (fun c_24 => ?_)
      · have c_24 : z ≤ q := (nI_leI (a := z) (b := q) (by omega) (by omega)).mp c_24
        omega
      · have c_24 : ¬ (z ≤ q) := fun h9 => c_24 ((nI_leI (a := z) (b := q) (by omega) (by omega)).mpr h9)
        refine lv_iload hx hb dL_change_68 (lv_at hl 5 rfl) ?_
        refine lv_goto (tgt := 74) hx hb dL_change_70 (by decide) ?_
        refine lv_istore (lv' := [(10, .int (nI z)), (9, .int (nI q)), (8, .int 0), (7, .int (nI nw)), (6, .int (S 7 2)), (5, .int 0), (4, .int (nI z)), (3, .int (nI q)), (0, .ref x0), (1, .int x), (2, .int y)]) hx hb dL_change_74 hl (by decide) rfl (fun ls hl => ?_)
        refine lv_iload_n hx hb dL_change_76 rfl (lv_at hl 9 rfl) ?_
        refine lv_bipush (v := 16) hx hb dL_change_77 (by decide) ?_
        have hPc : va_P D vwCl ([]) H := hP.sub [] rfl
        have hDc : va_D A ([]) := hD.sub [] (by decide +kernel) rfl
        refine cl_i0 (va_runS (As := [.int x, .int 16]) (rest := []) ⟨hx, hb, hml, hown, hts⟩ (c_L_low_16 l D k x H.size) (va_cwS 2 hts gL_change_L_low rfl rfl rfl (by decide +kernel) ⟨Nat.le_of_ble_eq_true rfl, Nat.le_of_ble_eq_true rfl⟩) ⟨pr_blind, pr_at hN hPc hK hDc⟩ rfl rfl hl.1 rfl (lv_room (Nat.le_of_ble_eq_true rfl)) dL_change_79 ⟨Nat.le_of_ble_eq_true rfl, Nat.le_of_ble_eq_true rfl⟩) hP hD hS hA [] rfl (fun H locs hP hD hS => ?_)
        clear hPc hDc
        refine tp_e (y := 2) (congrArg nI hx16) ?_
        refine lv_tableIn (off := 74) (tgt := 156) hx hb dL_change_82 (by decide) (by decide) rfl (by decide) ?_
        refine lv_aload_n hx hb dL_change_156 rfl (lv_at hl 8 rfl) ?_
        refine lv_iload_n hx hb dL_change_157 rfl (lv_at hl 7 rfl) ?_
        refine lv_iconst (v := 0) hx hb dL_change_158 (by decide) ?_
        obtain ⟨X_25, hO_26, hM9⟩ := o_pieceOf_0 (l := l) (D := D) hSR hO_4 (q := q) (by omega)
        refine lo_I (n := 2) (As := [.int (nI q), .int 0]) (rest := []) hx hb hml hown hts hK hN hM9 (OX.at0 hO_4) gL_change_X4_pieceOf rfl (by decide +kernel) (by decide) dL_change_159 rfl rfl (Nat.le_of_ble_eq_true rfl) hl.1 (Nat.le_of_ble_eq_true rfl) (Nat.le_of_ble_eq_true rfl) (Nat.le_of_ble_eq_true rfl) (Nat.le_of_ble_eq_true rfl) hP hD hS hA (fun H locs hP hD hS => ?_)
        clear hM9
        refine lv_istore (lv' := [(5, .int (S 0 q)), (10, .int (nI z)), (9, .int (nI q)), (8, .int 0), (7, .int (nI nw)), (6, .int (S 7 2)), (4, .int (nI z)), (3, .int (nI q)), (0, .ref x0), (1, .int x), (2, .int y)]) hx hb dL_change_162 hl (by decide) rfl (fun ls hl => ?_)
        refine lv_aload_n hx hb dL_change_164 rfl (lv_at hl 8 rfl) ?_
        refine lv_iload_n hx hb dL_change_165 rfl (lv_at hl 7 rfl) ?_
        refine lv_iload_n hx hb dL_change_166 rfl (lv_at hl 10 rfl) ?_
        refine lv_iconst (v := 4) hx hb dL_change_167 (by decide) ?_
        refine lv_ishr hx hb dL_change_168 ?_
        refine lv_sipush (v := 200) hx hb dL_change_169 (by decide) ?_
        have hPc : va_P D vwCl ([]) H := hP.sub [] rfl
        have hDc : va_D A ([]) := hD.sub [] (by decide +kernel) rfl
        refine cl_i0 (va_runS (As := [.int (y >>> (4 &&& 31)), .int 200]) (rest := [.int (nI q), .ref x0]) ⟨hx, hb, hml, hown, hts⟩ (c_L_low_200 l D k (y >>> (4 &&& 31)) H.size) (va_cwS 2 hts gL_change_L_low rfl rfl rfl (by decide +kernel) ⟨Nat.le_of_ble_eq_true rfl, Nat.le_of_ble_eq_true rfl⟩) ⟨pr_blind, pr_at hN hPc hK hDc⟩ rfl rfl hl.1 rfl (lv_room (Nat.le_of_ble_eq_true rfl)) dL_change_172 ⟨Nat.le_of_ble_eq_true rfl, Nat.le_of_ble_eq_true rfl⟩) hP hD hS hA [] rfl (fun H locs hP hD hS => ?_)
        clear hPc hDc
        obtain ⟨X_27, hO_28, hM9⟩ := o_cover (l := l) (D := D) hO_26 hns (q := q) (c := (lowN (y >>> (4 &&& 31)) 200)) (by omega) (by omega)
        refine lo_I (n := 2) (As := [.int (nI q), .int (nI (lowN (y >>> (4 &&& 31)) 200))]) (rest := []) hx hb hml hown hts hK hN hM9 (OX.at0 hO_26) gL_change_X4_cover rfl (by decide +kernel) (by decide) dL_change_175 rfl rfl (Nat.le_of_ble_eq_true rfl) hl.1 (Nat.le_of_ble_eq_true rfl) (Nat.le_of_ble_eq_true rfl) (Nat.le_of_ble_eq_true rfl) (Nat.le_of_ble_eq_true rfl) hP hD hS hA (fun H locs hP hD hS => ?_)
        clear hM9
        have hns2 : (svN ns) ≤ 6 := (svN_le hns).1
        have hL2 : LI (anS (gC S q (nI (lowN (y >>> (4 &&& 31)) 200)))) := LI_cover hL (by omega) (by omega)
        obtain ⟨f2, hSR2, -, -⟩ := id hL2
        refine lv_iload hx hb dL_change_178 (lv_at hl 0 rfl) ?_
        refine lv_icmp_ne (tgt := 226) hx hb dL_change_180 (by decide) (fun c_29 => ?_) (fun c_29 => ?_)
        · exact absurd (rfl) c_29
        · refine lv_aload_n hx hb dL_change_183 rfl (lv_at hl 8 rfl) ?_
          refine lv_iload_n hx hb dL_change_184 rfl (lv_at hl 7 rfl) ?_
          refine lv_iconst (v := 0) hx hb dL_change_185 (by decide) ?_
          obtain ⟨X_30, hO_31, hM9⟩ := o_pieceOf_0 (l := l) (D := D) hSR2 hO_28 (q := q) (by omega)
          refine lo_I (n := 2) (As := [.int (nI q), .int 0]) (rest := []) hx hb hml hown hts hK hN hM9 (OX.at0 hO_28) gL_change_X4_pieceOf rfl (by decide +kernel) (by decide) dL_change_186 rfl rfl (Nat.le_of_ble_eq_true rfl) hl.1 (Nat.le_of_ble_eq_true rfl) (Nat.le_of_ble_eq_true rfl) (Nat.le_of_ble_eq_true rfl) (Nat.le_of_ble_eq_true rfl) hP hD hS hA (fun H locs hP hD hS => ?_)
          clear hM9
          refine lv_iload_n hx hb dL_change_189 rfl (lv_at hl 10 rfl) ?_
          refine lv_iconst (v := 4) hx hb dL_change_190 (by decide) ?_
          refine lv_ishr hx hb dL_change_191 ?_
          refine lv_sipush (v := 200) hx hb dL_change_192 (by decide) ?_
          have hPc : va_P D vwCl ([]) H := hP.sub [] rfl
          have hDc : va_D A ([]) := hD.sub [] (by decide +kernel) rfl
          refine cl_i0 (va_runS (As := [.int (y >>> (4 &&& 31)), .int 200]) (rest := [.int ((anS (gC S q (nI (lowN (y >>> (4 &&& 31)) 200)))) 0 q)]) ⟨hx, hb, hml, hown, hts⟩ (c_L_low_200 l D k (y >>> (4 &&& 31)) H.size) (va_cwS 2 hts gL_change_L_low rfl rfl rfl (by decide +kernel) ⟨Nat.le_of_ble_eq_true rfl, Nat.le_of_ble_eq_true rfl⟩) ⟨pr_blind, pr_at hN hPc hK hDc⟩ rfl rfl hl.1 rfl (lv_room (Nat.le_of_ble_eq_true rfl)) dL_change_195 ⟨Nat.le_of_ble_eq_true rfl, Nat.le_of_ble_eq_true rfl⟩) hP hD hS hA [] rfl (fun H locs hP hD hS => ?_)
          clear hPc hDc
          refine lv_icmp_ne (tgt := 226) hx hb dL_change_198 (by decide) (fun c_32 => ?_) (fun c_32 => ?_)
          · exact absurd (upd_e _ _ _) c_32
          · refine lv_aload_n hx hb dL_change_201 rfl (lv_at hl 8 rfl) ?_
            refine lv_iconst (v := 3) hx hb dL_change_202 (by decide) ?_
            obtain ⟨X_33, hO_34, hM9⟩ := o_count_3 (l := l) (D := D) hSR2 hO_31
            refine lo_I (n := 1) (As := [.int 3]) (rest := []) hx hb hml hown hts hK hN hM9 (OX.at0 hO_31) gL_change_X4_count rfl (by decide +kernel) (by decide) dL_change_203 rfl rfl (Nat.le_of_ble_eq_true rfl) hl.1 (Nat.le_of_ble_eq_true rfl) (Nat.le_of_ble_eq_true rfl) (Nat.le_of_ble_eq_true rfl) (Nat.le_of_ble_eq_true rfl) hP hD hS hA (fun H locs hP hD hS => ?_)
            clear hM9
            refine lv_if_ne (tgt := 226) hx hb dL_change_206 (by decide) (fun c_35 => ?_) (fun c_35 => ?_)
            · exact absurd (rfl) c_35
            · refine lv_aload_n hx hb dL_change_209 rfl (lv_at hl 8 rfl) ?_
              refine lv_iconst (v := 1) hx hb dL_change_210 (by decide) ?_
              obtain ⟨X_36, hO_37, hM9⟩ := o_count_1 (l := l) (D := D) hSR2 hO_34
              refine lo_I (n := 1) (As := [.int 1]) (rest := []) hx hb hml hown hts hK hN hM9 (OX.at0 hO_34) gL_change_X4_count rfl (by decide +kernel) (by decide) dL_change_211 rfl rfl (Nat.le_of_ble_eq_true rfl) hl.1 (Nat.le_of_ble_eq_true rfl) (Nat.le_of_ble_eq_true rfl) (Nat.le_of_ble_eq_true rfl) (Nat.le_of_ble_eq_true rfl) hP hD hS hA (fun H locs hP hD hS => ?_)
              clear hM9
              refine lv_aload_n hx hb dL_change_214 rfl (lv_at hl 8 rfl) ?_
              refine lv_iconst (v := 2) hx hb dL_change_215 (by decide) ?_
              obtain ⟨X_38, hO_39, hM9⟩ := o_count_2 (l := l) (D := D) hSR2 hO_37
              refine lo_I (n := 1) (As := [.int 2]) (rest := [.int (smF ((anS (gC S q (nI (lowN (y >>> (4 &&& 31)) 200)))) 0) 9)]) hx hb hml hown hts hK hN hM9 (OX.at0 hO_37) gL_change_X4_count rfl (by decide +kernel) (by decide) dL_change_216 rfl rfl (Nat.le_of_ble_eq_true rfl) hl.1 (Nat.le_of_ble_eq_true rfl) (Nat.le_of_ble_eq_true rfl) (Nat.le_of_ble_eq_true rfl) (Nat.le_of_ble_eq_true rfl) hP hD hS hA (fun H locs hP hD hS => ?_)
              clear hM9
              refine lv_icmp_ne (tgt := 226) hx hb dL_change_219 (by decide) (fun c_40 => ?_) (fun c_40 => ?_)
              · exact absurd (rfl) c_40
              · refine lv_iconst (v := 1) hx hb dL_change_222 (by decide) ?_
                refine lv_goto (tgt := 227) hx hb dL_change_223 (by decide) ?_
                subst hQ
                exact rt_zo hx hb hr hlocks hS dL_change_227 (va_PR hP) (va_DR hD) rfl (⟨rfl, _, _, _, hns2, hL2, hO_39⟩)
  · have c_5 : q = z := (nI_eq (a := q) (b := z) (by omega) (by omega)).mp c_5
    refine lv_iconst (v := 1) hx hb dL_change_41 (by decide) ?_
    refine lv_goto (tgt := 46) hx hb dL_change_42 (by decide) ?_
    refine lv_istore (lv' := [(8, .int 1), (7, .int (nI nw)), (6, .int (S 7 2)), (5, .int 0), (4, .int (nI z)), (3, .int (nI q)), (0, .ref x0), (1, .int x), (2, .int y)]) hx hb dL_change_46 hl (by decide) rfl (fun ls hl => ?_)
    refine lv_iload_n hx hb dL_change_48 rfl (lv_at hl 5 rfl) ?_
    refine lv_iload hx hb dL_change_49 (lv_at hl 4 rfl) ?_
    refine lv_icmp_ge (tgt := 58) hx hb dL_change_51 (by decide) (fun c_41 => ?_) (fun c_41 => ?_)
    · have c_41 : z ≤ q := (nI_leI (a := z) (b := q) (by omega) (by omega)).mp c_41
      refine lv_iload hx hb dL_change_58 (lv_at hl 4 rfl) ?_
      refine lv_istore (lv' := [(9, .int (nI z)), (8, .int 1), (7, .int (nI nw)), (6, .int (S 7 2)), (5, .int 0), (4, .int (nI z)), (3, .int (nI q)), (0, .ref x0), (1, .int x), (2, .int y)]) hx hb dL_change_60 hl (by decide) rfl (fun ls hl => ?_)
      refine lv_iload_n hx hb dL_change_62 rfl (lv_at hl 6 rfl) ?_
      refine lv_iload hx hb dL_change_63 (lv_at hl 5 rfl) ?_
      refine lv_icmp_ge (tgt := 73) hx hb dL_change_65 (by decide) (fun c_42 => ?_) (fun c_42 => ?_)
      · have c_42 : z ≤ q := (nI_leI (a := z) (b := q) (by omega) (by omega)).mp c_42
        refine lv_iload_n hx hb dL_change_73 rfl (lv_at hl 6 rfl) ?_
        refine lv_istore (lv' := [(10, .int (nI q)), (9, .int (nI z)), (8, .int 1), (7, .int (nI nw)), (6, .int (S 7 2)), (5, .int 0), (4, .int (nI z)), (3, .int (nI q)), (0, .ref x0), (1, .int x), (2, .int y)]) hx hb dL_change_74 hl (by decide) rfl (fun ls hl => ?_)
        refine lv_iload_n hx hb dL_change_76 rfl (lv_at hl 9 rfl) ?_
        refine lv_bipush (v := 16) hx hb dL_change_77 (by decide) ?_
        have hPc : va_P D vwCl ([]) H := hP.sub [] rfl
        have hDc : va_D A ([]) := hD.sub [] (by decide +kernel) rfl
        refine cl_i0 (va_runS (As := [.int x, .int 16]) (rest := []) ⟨hx, hb, hml, hown, hts⟩ (c_L_low_16 l D k x H.size) (va_cwS 2 hts gL_change_L_low rfl rfl rfl (by decide +kernel) ⟨Nat.le_of_ble_eq_true rfl, Nat.le_of_ble_eq_true rfl⟩) ⟨pr_blind, pr_at hN hPc hK hDc⟩ rfl rfl hl.1 rfl (lv_room (Nat.le_of_ble_eq_true rfl)) dL_change_79 ⟨Nat.le_of_ble_eq_true rfl, Nat.le_of_ble_eq_true rfl⟩) hP hD hS hA [] rfl (fun H locs hP hD hS => ?_)
        clear hPc hDc
        refine tp_e (y := 2) (congrArg nI hx16) ?_
        refine lv_tableIn (off := 74) (tgt := 156) hx hb dL_change_82 (by decide) (by decide) rfl (by decide) ?_
        refine lv_aload_n hx hb dL_change_156 rfl (lv_at hl 8 rfl) ?_
        refine lv_iload_n hx hb dL_change_157 rfl (lv_at hl 7 rfl) ?_
        refine lv_iconst (v := 0) hx hb dL_change_158 (by decide) ?_
        obtain ⟨X_43, hO_44, hM9⟩ := o_pieceOf_0 (l := l) (D := D) hSR hO_4 (q := q) (by omega)
        refine lo_I (n := 2) (As := [.int (nI q), .int 0]) (rest := []) hx hb hml hown hts hK hN hM9 (OX.at0 hO_4) gL_change_X4_pieceOf rfl (by decide +kernel) (by decide) dL_change_159 rfl rfl (Nat.le_of_ble_eq_true rfl) hl.1 (Nat.le_of_ble_eq_true rfl) (Nat.le_of_ble_eq_true rfl) (Nat.le_of_ble_eq_true rfl) (Nat.le_of_ble_eq_true rfl) hP hD hS hA (fun H locs hP hD hS => ?_)
        clear hM9
        refine lv_istore (lv' := [(5, .int (S 0 q)), (10, .int (nI q)), (9, .int (nI z)), (8, .int 1), (7, .int (nI nw)), (6, .int (S 7 2)), (4, .int (nI z)), (3, .int (nI q)), (0, .ref x0), (1, .int x), (2, .int y)]) hx hb dL_change_162 hl (by decide) rfl (fun ls hl => ?_)
        refine lv_aload_n hx hb dL_change_164 rfl (lv_at hl 8 rfl) ?_
        refine lv_iload_n hx hb dL_change_165 rfl (lv_at hl 7 rfl) ?_
        refine lv_iload_n hx hb dL_change_166 rfl (lv_at hl 10 rfl) ?_
        refine lv_iconst (v := 4) hx hb dL_change_167 (by decide) ?_
        refine lv_ishr hx hb dL_change_168 ?_
        refine lv_sipush (v := 200) hx hb dL_change_169 (by decide) ?_
        have hPc : va_P D vwCl ([]) H := hP.sub [] rfl
        have hDc : va_D A ([]) := hD.sub [] (by decide +kernel) rfl
        refine cl_i0 (va_runS (As := [.int (y >>> (4 &&& 31)), .int 200]) (rest := [.int (nI q), .ref x0]) ⟨hx, hb, hml, hown, hts⟩ (c_L_low_200 l D k (y >>> (4 &&& 31)) H.size) (va_cwS 2 hts gL_change_L_low rfl rfl rfl (by decide +kernel) ⟨Nat.le_of_ble_eq_true rfl, Nat.le_of_ble_eq_true rfl⟩) ⟨pr_blind, pr_at hN hPc hK hDc⟩ rfl rfl hl.1 rfl (lv_room (Nat.le_of_ble_eq_true rfl)) dL_change_172 ⟨Nat.le_of_ble_eq_true rfl, Nat.le_of_ble_eq_true rfl⟩) hP hD hS hA [] rfl (fun H locs hP hD hS => ?_)
        clear hPc hDc
        obtain ⟨X_45, hO_46, hM9⟩ := o_cover (l := l) (D := D) hO_44 hns (q := q) (c := (lowN (y >>> (4 &&& 31)) 200)) (by omega) (by omega)
        refine lo_I (n := 2) (As := [.int (nI q), .int (nI (lowN (y >>> (4 &&& 31)) 200))]) (rest := []) hx hb hml hown hts hK hN hM9 (OX.at0 hO_44) gL_change_X4_cover rfl (by decide +kernel) (by decide) dL_change_175 rfl rfl (Nat.le_of_ble_eq_true rfl) hl.1 (Nat.le_of_ble_eq_true rfl) (Nat.le_of_ble_eq_true rfl) (Nat.le_of_ble_eq_true rfl) (Nat.le_of_ble_eq_true rfl) hP hD hS hA (fun H locs hP hD hS => ?_)
        clear hM9
        have hns2 : (svN ns) ≤ 6 := (svN_le hns).1
        have hL2 : LI (anS (gC S q (nI (lowN (y >>> (4 &&& 31)) 200)))) := LI_cover hL (by omega) (by omega)
        obtain ⟨f2, hSR2, -, -⟩ := id hL2
        refine lv_iload hx hb dL_change_178 (lv_at hl 0 rfl) ?_
        refine lv_icmp_ne (tgt := 226) hx hb dL_change_180 (by decide) (fun c_47 => ?_) (fun c_47 => ?_)
        · exact absurd (rfl) c_47
        · refine lv_aload_n hx hb dL_change_183 rfl (lv_at hl 8 rfl) ?_
          refine lv_iload_n hx hb dL_change_184 rfl (lv_at hl 7 rfl) ?_
          refine lv_iconst (v := 0) hx hb dL_change_185 (by decide) ?_
          obtain ⟨X_48, hO_49, hM9⟩ := o_pieceOf_0 (l := l) (D := D) hSR2 hO_46 (q := q) (by omega)
          refine lo_I (n := 2) (As := [.int (nI q), .int 0]) (rest := []) hx hb hml hown hts hK hN hM9 (OX.at0 hO_46) gL_change_X4_pieceOf rfl (by decide +kernel) (by decide) dL_change_186 rfl rfl (Nat.le_of_ble_eq_true rfl) hl.1 (Nat.le_of_ble_eq_true rfl) (Nat.le_of_ble_eq_true rfl) (Nat.le_of_ble_eq_true rfl) (Nat.le_of_ble_eq_true rfl) hP hD hS hA (fun H locs hP hD hS => ?_)
          clear hM9
          refine lv_iload_n hx hb dL_change_189 rfl (lv_at hl 10 rfl) ?_
          refine lv_iconst (v := 4) hx hb dL_change_190 (by decide) ?_
          refine lv_ishr hx hb dL_change_191 ?_
          refine lv_sipush (v := 200) hx hb dL_change_192 (by decide) ?_
          have hPc : va_P D vwCl ([]) H := hP.sub [] rfl
          have hDc : va_D A ([]) := hD.sub [] (by decide +kernel) rfl
          refine cl_i0 (va_runS (As := [.int (y >>> (4 &&& 31)), .int 200]) (rest := [.int ((anS (gC S q (nI (lowN (y >>> (4 &&& 31)) 200)))) 0 q)]) ⟨hx, hb, hml, hown, hts⟩ (c_L_low_200 l D k (y >>> (4 &&& 31)) H.size) (va_cwS 2 hts gL_change_L_low rfl rfl rfl (by decide +kernel) ⟨Nat.le_of_ble_eq_true rfl, Nat.le_of_ble_eq_true rfl⟩) ⟨pr_blind, pr_at hN hPc hK hDc⟩ rfl rfl hl.1 rfl (lv_room (Nat.le_of_ble_eq_true rfl)) dL_change_195 ⟨Nat.le_of_ble_eq_true rfl, Nat.le_of_ble_eq_true rfl⟩) hP hD hS hA [] rfl (fun H locs hP hD hS => ?_)
          clear hPc hDc
          refine lv_icmp_ne (tgt := 226) hx hb dL_change_198 (by decide) (fun c_50 => ?_) (fun c_50 => ?_)
          · exact absurd (upd_e _ _ _) c_50
          · refine lv_aload_n hx hb dL_change_201 rfl (lv_at hl 8 rfl) ?_
            refine lv_iconst (v := 3) hx hb dL_change_202 (by decide) ?_
            obtain ⟨X_51, hO_52, hM9⟩ := o_count_3 (l := l) (D := D) hSR2 hO_49
            refine lo_I (n := 1) (As := [.int 3]) (rest := []) hx hb hml hown hts hK hN hM9 (OX.at0 hO_49) gL_change_X4_count rfl (by decide +kernel) (by decide) dL_change_203 rfl rfl (Nat.le_of_ble_eq_true rfl) hl.1 (Nat.le_of_ble_eq_true rfl) (Nat.le_of_ble_eq_true rfl) (Nat.le_of_ble_eq_true rfl) (Nat.le_of_ble_eq_true rfl) hP hD hS hA (fun H locs hP hD hS => ?_)
            clear hM9
            refine lv_if_ne (tgt := 226) hx hb dL_change_206 (by decide) (fun c_53 => ?_) (fun c_53 => ?_)
            · exact absurd (rfl) c_53
            · refine lv_aload_n hx hb dL_change_209 rfl (lv_at hl 8 rfl) ?_
              refine lv_iconst (v := 1) hx hb dL_change_210 (by decide) ?_
              obtain ⟨X_54, hO_55, hM9⟩ := o_count_1 (l := l) (D := D) hSR2 hO_52
              refine lo_I (n := 1) (As := [.int 1]) (rest := []) hx hb hml hown hts hK hN hM9 (OX.at0 hO_52) gL_change_X4_count rfl (by decide +kernel) (by decide) dL_change_211 rfl rfl (Nat.le_of_ble_eq_true rfl) hl.1 (Nat.le_of_ble_eq_true rfl) (Nat.le_of_ble_eq_true rfl) (Nat.le_of_ble_eq_true rfl) (Nat.le_of_ble_eq_true rfl) hP hD hS hA (fun H locs hP hD hS => ?_)
              clear hM9
              refine lv_aload_n hx hb dL_change_214 rfl (lv_at hl 8 rfl) ?_
              refine lv_iconst (v := 2) hx hb dL_change_215 (by decide) ?_
              obtain ⟨X_56, hO_57, hM9⟩ := o_count_2 (l := l) (D := D) hSR2 hO_55
              refine lo_I (n := 1) (As := [.int 2]) (rest := [.int (smF ((anS (gC S q (nI (lowN (y >>> (4 &&& 31)) 200)))) 0) 9)]) hx hb hml hown hts hK hN hM9 (OX.at0 hO_55) gL_change_X4_count rfl (by decide +kernel) (by decide) dL_change_216 rfl rfl (Nat.le_of_ble_eq_true rfl) hl.1 (Nat.le_of_ble_eq_true rfl) (Nat.le_of_ble_eq_true rfl) (Nat.le_of_ble_eq_true rfl) (Nat.le_of_ble_eq_true rfl) hP hD hS hA (fun H locs hP hD hS => ?_)
              clear hM9
              refine lv_icmp_ne (tgt := 226) hx hb dL_change_219 (by decide) (fun c_58 => ?_) (fun c_58 => ?_)
              · exact absurd (rfl) c_58
              · refine lv_iconst (v := 1) hx hb dL_change_222 (by decide) ?_
                refine lv_goto (tgt := 227) hx hb dL_change_223 (by decide) ?_
                subst hQ
                exact rt_zo hx hb hr hlocks hS dL_change_227 (va_PR hP) (va_DR hD) rfl (⟨rfl, _, _, _, hns2, hL2, hO_57⟩)
      · have c_42 : ¬ (z ≤ q) := fun h9 => c_42 ((nI_leI (a := z) (b := q) (by omega) (by omega)).mpr h9)
        omega
    · have c_41 : ¬ (z ≤ q) := fun h9 => c_41 ((nI_leI (a := z) (b := q) (by omega) (by omega)).mpr h9)
      exact absurd c_41 (not_not_intro (by omega))

set_option maxHeartbeats 4000000 in
set_option maxRecDepth 100000 in
theorem c_L_change_3 (l : Launch) (D : va_G) (k : Nat → ClassId) (x0 ns : Nat) (S : Nat → Nat → Int32) (Z : Nat → Nat → Nat → Int32) (Y0 : Nat → Nat → Int32) (k0 : Int32) (X : va_W) (x y : Int32) (hns : ns ≤ 6) (hL : LI S) (hO : OX k x0 ns S Z Y0 k0 X) (hx16 : lowN x 16 = 3) : MO l yL_change wsL_change ({ frames := 31, cells := 0, slots := 0, locals := 839 }) D k [.ref x0, .int x, .int y] X (fun r X2 => r = 1 ∧ ∃ ns2 S2 Z2, ns2 ≤ 6 ∧ LI S2 ∧ OX k x0 ns2 S2 Z2 Y0 k0 X2) := by
  intro sz
  refine Met.ofW (cc := cL_change) (maxL := 16) (ret := (some .boolean)) (by decide) rfl ?_
  intro p e s m args below meth c s₁ B hml hv
  obtain ⟨rfl, hN, hsz, hP, hK, hD0⟩ := hv
  have hx := B.exec
  have hb := B.bytes
  have hr := B.returns
  have hts := atoms_spec (ws := wsL_change) B.pre
  have hown : s.vm.findClass RL = some m.cls := findClass_of_methodNamed B.named
  have hlocks := B.notSynchronized
  subst hsz
  have hD := hD0.self (sz := s.heap.size)
  generalize hAe : va_A X s.heap.size = A at hD ⊢
  have hA : ∀ q : Nat, s.heap.size ≤ q → A q := fun q h => by rw [← hAe]; exact Or.inr h
  have hS : va_S A s.heap s.heap [] := va_S.rf
  have hl := lv_entry ([.ref x0, .int x, .int y]) (n := 16) (Nat.le_of_ble_eq_true rfl)
  rw [lg_entry_eq]
  generalize (lg_sl ([.ref x0, .int x, .int y]) ++ List.replicate (16 - (lg_sl ([.ref x0, .int x, .int y])).length) Slot.unset).toArray = ls at hl ⊢
  have hl : lv_has ls 16 [(0, .ref x0), (1, .int x), (2, .int y)] := hl
  obtain ⟨H, hHe⟩ : ∃ H, H = s.heap := ⟨_, rfl⟩
  have hP : va_P D vwCl X H := by rw [hHe]; exact hP
  have hS : va_S A s.heap H [] := by rw [hHe]; exact hS
  rw [← hHe]
  refine absQ (fun Q hQ => ?_)
  obtain ⟨f, hSR, hBR, hEX⟩ := id hL
  obtain ⟨nw, hnw⟩ := hSR.2.2.2
  have hn : S 7 0 = nI nw := hnw.2.1
  have hn2 : nw ≤ 12 := hnw.1
  have hcv := low_lt (y >>> (4 &&& 31)) (n := 200) (by decide)
  have hP : va_P D vwCl ([] ++ (X)) H := hP
  have hD : va_D A ([] ++ (X)) := hD
  refine lv_iload_n hx hb dL_change_0 rfl (lv_at hl 2 rfl) ?_
  refine lv_bipush (v := 9) hx hb dL_change_1 (by decide) ?_
  have hPc : va_P D vwCl ([]) H := hP.sub [] rfl
  have hDc : va_D A ([]) := hD.sub [] (by decide +kernel) rfl
  refine cl_i0 (va_runS (As := [.int y, .int 9]) (rest := []) ⟨hx, hb, hml, hown, hts⟩ (c_L_low_9 l D k y H.size) (va_cwS 2 hts gL_change_L_low rfl rfl rfl (by decide +kernel) ⟨Nat.le_of_ble_eq_true rfl, Nat.le_of_ble_eq_true rfl⟩) ⟨pr_blind, pr_at hN hPc hK hDc⟩ rfl rfl hl.1 rfl (lv_room (Nat.le_of_ble_eq_true rfl)) dL_change_3 ⟨Nat.le_of_ble_eq_true rfl, Nat.le_of_ble_eq_true rfl⟩) hP hD hS hA [] rfl (fun H locs hP hD hS => ?_)
  clear hPc hDc
  obtain ⟨q, hqe⟩ : ∃ q, q = lowN y 9 := ⟨_, rfl⟩
  have hq9 : q < 9 := by rw [hqe]; exact low_lt _ (by decide)
  refine tp_e (y := (nI q)) (by rw [hqe]) ?_
  refine lv_istore_n (lv' := [(3, .int (nI q)), (0, .ref x0), (1, .int x), (2, .int y)]) hx hb dL_change_6 rfl hl (by decide) rfl (fun ls hl => ?_)
  refine lv_iload_n hx hb dL_change_7 rfl (lv_at hl 3 rfl) ?_
  refine lv_iconst (v := 4) hx hb dL_change_8 (by decide) ?_
  refine lv_ishr hx hb dL_change_9 ?_
  refine lv_bipush (v := 9) hx hb dL_change_10 (by decide) ?_
  have hPc : va_P D vwCl ([]) H := hP.sub [] rfl
  have hDc : va_D A ([]) := hD.sub [] (by decide +kernel) rfl
  refine cl_i0 (va_runS (As := [.int (y >>> (4 &&& 31)), .int 9]) (rest := []) ⟨hx, hb, hml, hown, hts⟩ (c_L_low_9 l D k (y >>> (4 &&& 31)) H.size) (va_cwS 2 hts gL_change_L_low rfl rfl rfl (by decide +kernel) ⟨Nat.le_of_ble_eq_true rfl, Nat.le_of_ble_eq_true rfl⟩) ⟨pr_blind, pr_at hN hPc hK hDc⟩ rfl rfl hl.1 rfl (lv_room (Nat.le_of_ble_eq_true rfl)) dL_change_12 ⟨Nat.le_of_ble_eq_true rfl, Nat.le_of_ble_eq_true rfl⟩) hP hD hS hA [] rfl (fun H locs hP hD hS => ?_)
  clear hPc hDc
  obtain ⟨z, hze⟩ : ∃ z, z = lowN (y >>> (4 &&& 31)) 9 := ⟨_, rfl⟩
  have hz9 : z < 9 := by rw [hze]; exact low_lt _ (by decide)
  refine tp_e (y := (nI z)) (by rw [hze]) ?_
  refine lv_istore (lv' := [(4, .int (nI z)), (3, .int (nI q)), (0, .ref x0), (1, .int x), (2, .int y)]) hx hb dL_change_15 hl (by decide) rfl (fun ls hl => ?_)
  refine lv_iconst (v := 0) hx hb dL_change_17 (by decide) ?_
  refine lv_istore (lv' := [(5, .int 0), (4, .int (nI z)), (3, .int (nI q)), (0, .ref x0), (1, .int x), (2, .int y)]) hx hb dL_change_18 hl (by decide) rfl (fun ls hl => ?_)
  refine lv_aload_n hx hb dL_change_20 rfl (lv_at hl 3 rfl) ?_
  refine lv_bipush (v := 10) hx hb dL_change_21 (by decide) ?_
  obtain ⟨X_1, hO_2, hM9⟩ := o_count_10 (l := l) (D := D) hSR hO
  refine lo_I (n := 1) (As := [.int 10]) (rest := []) hx hb hml hown hts hK hN hM9 (OX.at0 hO) gL_change_X4_count rfl (by decide +kernel) (by decide) dL_change_23 rfl rfl (Nat.le_of_ble_eq_true rfl) hl.1 (Nat.le_of_ble_eq_true rfl) (Nat.le_of_ble_eq_true rfl) (Nat.le_of_ble_eq_true rfl) (Nat.le_of_ble_eq_true rfl) hP hD hS hA (fun H locs hP hD hS => ?_)
  clear hM9
  refine lv_istore (lv' := [(6, .int (S 7 2)), (5, .int 0), (4, .int (nI z)), (3, .int (nI q)), (0, .ref x0), (1, .int x), (2, .int y)]) hx hb dL_change_26 hl (by decide) rfl (fun ls hl => ?_)
  refine lv_aload_n hx hb dL_change_28 rfl (lv_at hl 4 rfl) ?_
  refine lv_iconst (v := 3) hx hb dL_change_29 (by decide) ?_
  obtain ⟨X_3, hO_4, hM9⟩ := o_count_3 (l := l) (D := D) hSR hO_2
  refine lo_I (n := 1) (As := [.int 3]) (rest := []) hx hb hml hown hts hK hN hM9 (OX.at0 hO_2) gL_change_X4_count rfl (by decide +kernel) (by decide) dL_change_30 rfl rfl (Nat.le_of_ble_eq_true rfl) hl.1 (Nat.le_of_ble_eq_true rfl) (Nat.le_of_ble_eq_true rfl) (Nat.le_of_ble_eq_true rfl) (Nat.le_of_ble_eq_true rfl) hP hD hS hA (fun H locs hP hD hS => ?_)
  clear hM9
  refine tp_e (y := (nI nw)) hn ?_
  refine lv_istore (lv' := [(7, .int (nI nw)), (6, .int (S 7 2)), (5, .int 0), (4, .int (nI z)), (3, .int (nI q)), (0, .ref x0), (1, .int x), (2, .int y)]) hx hb dL_change_33 hl (by decide) rfl (fun ls hl => ?_)
  refine lv_iload_n hx hb dL_change_35 rfl (lv_at hl 4 rfl) ?_
  refine lv_iload hx hb dL_change_36 (lv_at hl 3 rfl) ?_
  refine lv_icmp_ne (tgt := 45) hx hb dL_change_38 (by decide) (fun c_5 => ?_) (fun c_5 => ?_)
  · have c_5 : ¬ (q = z) := fun h9 => c_5 ((nI_eq (a := q) (b := z) (by omega) (by omega)).mpr h9)
    refine lv_iconst (v := 0) hx hb dL_change_45 (by decide) ?_
    refine lv_istore (lv' := [(8, .int 0), (7, .int (nI nw)), (6, .int (S 7 2)), (5, .int 0), (4, .int (nI z)), (3, .int (nI q)), (0, .ref x0), (1, .int x), (2, .int y)]) hx hb dL_change_46 hl (by decide) rfl (fun ls hl => ?_)
    refine lv_iload_n hx hb dL_change_48 rfl (lv_at hl 5 rfl) ?_
    refine lv_iload hx hb dL_change_49 (lv_at hl 4 rfl) ?_
    refine lv_icmp_ge (tgt := 58) hx hb dL_change_51 (by decide) (fun c_6 => ?_) (fun c_6 => ?_)
    · have c_6 : z ≤ q := (nI_leI (a := z) (b := q) (by omega) (by omega)).mp c_6
      refine lv_iload hx hb dL_change_58 (lv_at hl 4 rfl) ?_
      refine lv_istore (lv' := [(9, .int (nI z)), (8, .int 0), (7, .int (nI nw)), (6, .int (S 7 2)), (5, .int 0), (4, .int (nI z)), (3, .int (nI q)), (0, .ref x0), (1, .int x), (2, .int y)]) hx hb dL_change_60 hl (by decide) rfl (fun ls hl => ?_)
      refine lv_iload_n hx hb dL_change_62 rfl (lv_at hl 6 rfl) ?_
      refine lv_iload hx hb dL_change_63 (lv_at hl 5 rfl) ?_
      refine lv_icmp_ge (tgt := 73) hx hb dL_change_65 (by decide) (fun c_7 => ?_) (fun c_7 => ?_)
      · have c_7 : z ≤ q := (nI_leI (a := z) (b := q) (by omega) (by omega)).mp c_7
        refine lv_iload_n hx hb dL_change_73 rfl (lv_at hl 6 rfl) ?_
        refine lv_istore (lv' := [(10, .int (nI q)), (9, .int (nI z)), (8, .int 0), (7, .int (nI nw)), (6, .int (S 7 2)), (5, .int 0), (4, .int (nI z)), (3, .int (nI q)), (0, .ref x0), (1, .int x), (2, .int y)]) hx hb dL_change_74 hl (by decide) rfl (fun ls hl => ?_)
        refine lv_iload_n hx hb dL_change_76 rfl (lv_at hl 9 rfl) ?_
        refine lv_bipush (v := 16) hx hb dL_change_77 (by decide) ?_
        have hPc : va_P D vwCl ([]) H := hP.sub [] rfl
        have hDc : va_D A ([]) := hD.sub [] (by decide +kernel) rfl
        refine cl_i0 (va_runS (As := [.int x, .int 16]) (rest := []) ⟨hx, hb, hml, hown, hts⟩ (c_L_low_16 l D k x H.size) (va_cwS 2 hts gL_change_L_low rfl rfl rfl (by decide +kernel) ⟨Nat.le_of_ble_eq_true rfl, Nat.le_of_ble_eq_true rfl⟩) ⟨pr_blind, pr_at hN hPc hK hDc⟩ rfl rfl hl.1 rfl (lv_room (Nat.le_of_ble_eq_true rfl)) dL_change_79 ⟨Nat.le_of_ble_eq_true rfl, Nat.le_of_ble_eq_true rfl⟩) hP hD hS hA [] rfl (fun H locs hP hD hS => ?_)
        clear hPc hDc
        refine tp_e (y := 3) (congrArg nI hx16) ?_
        refine lv_tableIn (off := 74) (tgt := 156) hx hb dL_change_82 (by decide) (by decide) rfl (by decide) ?_
        refine lv_aload_n hx hb dL_change_156 rfl (lv_at hl 8 rfl) ?_
        refine lv_iload_n hx hb dL_change_157 rfl (lv_at hl 7 rfl) ?_
        refine lv_iconst (v := 0) hx hb dL_change_158 (by decide) ?_
        obtain ⟨X_8, hO_9, hM9⟩ := o_pieceOf_0 (l := l) (D := D) hSR hO_4 (q := q) (by omega)
        refine lo_I (n := 2) (As := [.int (nI q), .int 0]) (rest := []) hx hb hml hown hts hK hN hM9 (OX.at0 hO_4) gL_change_X4_pieceOf rfl (by decide +kernel) (by decide) dL_change_159 rfl rfl (Nat.le_of_ble_eq_true rfl) hl.1 (Nat.le_of_ble_eq_true rfl) (Nat.le_of_ble_eq_true rfl) (Nat.le_of_ble_eq_true rfl) (Nat.le_of_ble_eq_true rfl) hP hD hS hA (fun H locs hP hD hS => ?_)
        clear hM9
        refine lv_istore (lv' := [(5, .int (S 0 q)), (10, .int (nI q)), (9, .int (nI z)), (8, .int 0), (7, .int (nI nw)), (6, .int (S 7 2)), (4, .int (nI z)), (3, .int (nI q)), (0, .ref x0), (1, .int x), (2, .int y)]) hx hb dL_change_162 hl (by decide) rfl (fun ls hl => ?_)
        refine lv_aload_n hx hb dL_change_164 rfl (lv_at hl 8 rfl) ?_
        refine lv_iload_n hx hb dL_change_165 rfl (lv_at hl 7 rfl) ?_
        refine lv_iload_n hx hb dL_change_166 rfl (lv_at hl 10 rfl) ?_
        refine lv_iconst (v := 4) hx hb dL_change_167 (by decide) ?_
        refine lv_ishr hx hb dL_change_168 ?_
        refine lv_sipush (v := 200) hx hb dL_change_169 (by decide) ?_
        have hPc : va_P D vwCl ([]) H := hP.sub [] rfl
        have hDc : va_D A ([]) := hD.sub [] (by decide +kernel) rfl
        refine cl_i0 (va_runS (As := [.int (y >>> (4 &&& 31)), .int 200]) (rest := [.int (nI q), .ref x0]) ⟨hx, hb, hml, hown, hts⟩ (c_L_low_200 l D k (y >>> (4 &&& 31)) H.size) (va_cwS 2 hts gL_change_L_low rfl rfl rfl (by decide +kernel) ⟨Nat.le_of_ble_eq_true rfl, Nat.le_of_ble_eq_true rfl⟩) ⟨pr_blind, pr_at hN hPc hK hDc⟩ rfl rfl hl.1 rfl (lv_room (Nat.le_of_ble_eq_true rfl)) dL_change_172 ⟨Nat.le_of_ble_eq_true rfl, Nat.le_of_ble_eq_true rfl⟩) hP hD hS hA [] rfl (fun H locs hP hD hS => ?_)
        clear hPc hDc
        obtain ⟨X_10, hO_11, hM9⟩ := o_cover (l := l) (D := D) hO_9 hns (q := q) (c := (lowN (y >>> (4 &&& 31)) 200)) (by omega) (by omega)
        refine lo_I (n := 2) (As := [.int (nI q), .int (nI (lowN (y >>> (4 &&& 31)) 200))]) (rest := []) hx hb hml hown hts hK hN hM9 (OX.at0 hO_9) gL_change_X4_cover rfl (by decide +kernel) (by decide) dL_change_175 rfl rfl (Nat.le_of_ble_eq_true rfl) hl.1 (Nat.le_of_ble_eq_true rfl) (Nat.le_of_ble_eq_true rfl) (Nat.le_of_ble_eq_true rfl) (Nat.le_of_ble_eq_true rfl) hP hD hS hA (fun H locs hP hD hS => ?_)
        clear hM9
        have hns2 : (svN ns) ≤ 6 := (svN_le hns).1
        have hL2 : LI (anS (gC S q (nI (lowN (y >>> (4 &&& 31)) 200)))) := LI_cover hL (by omega) (by omega)
        obtain ⟨f2, hSR2, -, -⟩ := id hL2
        refine lv_iload hx hb dL_change_178 (lv_at hl 0 rfl) ?_
        refine lv_icmp_ne (tgt := 226) hx hb dL_change_180 (by decide) (fun c_12 => ?_) (fun c_12 => ?_)
        · exact absurd (rfl) c_12
        · refine lv_aload_n hx hb dL_change_183 rfl (lv_at hl 8 rfl) ?_
          refine lv_iload_n hx hb dL_change_184 rfl (lv_at hl 7 rfl) ?_
          refine lv_iconst (v := 0) hx hb dL_change_185 (by decide) ?_
          obtain ⟨X_13, hO_14, hM9⟩ := o_pieceOf_0 (l := l) (D := D) hSR2 hO_11 (q := q) (by omega)
          refine lo_I (n := 2) (As := [.int (nI q), .int 0]) (rest := []) hx hb hml hown hts hK hN hM9 (OX.at0 hO_11) gL_change_X4_pieceOf rfl (by decide +kernel) (by decide) dL_change_186 rfl rfl (Nat.le_of_ble_eq_true rfl) hl.1 (Nat.le_of_ble_eq_true rfl) (Nat.le_of_ble_eq_true rfl) (Nat.le_of_ble_eq_true rfl) (Nat.le_of_ble_eq_true rfl) hP hD hS hA (fun H locs hP hD hS => ?_)
          clear hM9
          refine lv_iload_n hx hb dL_change_189 rfl (lv_at hl 10 rfl) ?_
          refine lv_iconst (v := 4) hx hb dL_change_190 (by decide) ?_
          refine lv_ishr hx hb dL_change_191 ?_
          refine lv_sipush (v := 200) hx hb dL_change_192 (by decide) ?_
          have hPc : va_P D vwCl ([]) H := hP.sub [] rfl
          have hDc : va_D A ([]) := hD.sub [] (by decide +kernel) rfl
          refine cl_i0 (va_runS (As := [.int (y >>> (4 &&& 31)), .int 200]) (rest := [.int ((anS (gC S q (nI (lowN (y >>> (4 &&& 31)) 200)))) 0 q)]) ⟨hx, hb, hml, hown, hts⟩ (c_L_low_200 l D k (y >>> (4 &&& 31)) H.size) (va_cwS 2 hts gL_change_L_low rfl rfl rfl (by decide +kernel) ⟨Nat.le_of_ble_eq_true rfl, Nat.le_of_ble_eq_true rfl⟩) ⟨pr_blind, pr_at hN hPc hK hDc⟩ rfl rfl hl.1 rfl (lv_room (Nat.le_of_ble_eq_true rfl)) dL_change_195 ⟨Nat.le_of_ble_eq_true rfl, Nat.le_of_ble_eq_true rfl⟩) hP hD hS hA [] rfl (fun H locs hP hD hS => ?_)
          clear hPc hDc
          refine lv_icmp_ne (tgt := 226) hx hb dL_change_198 (by decide) (fun c_15 => ?_) (fun c_15 => ?_)
          · exact absurd (upd_e _ _ _) c_15
          · refine lv_aload_n hx hb dL_change_201 rfl (lv_at hl 8 rfl) ?_
            refine lv_iconst (v := 3) hx hb dL_change_202 (by decide) ?_
            obtain ⟨X_16, hO_17, hM9⟩ := o_count_3 (l := l) (D := D) hSR2 hO_14
            refine lo_I (n := 1) (As := [.int 3]) (rest := []) hx hb hml hown hts hK hN hM9 (OX.at0 hO_14) gL_change_X4_count rfl (by decide +kernel) (by decide) dL_change_203 rfl rfl (Nat.le_of_ble_eq_true rfl) hl.1 (Nat.le_of_ble_eq_true rfl) (Nat.le_of_ble_eq_true rfl) (Nat.le_of_ble_eq_true rfl) (Nat.le_of_ble_eq_true rfl) hP hD hS hA (fun H locs hP hD hS => ?_)
            clear hM9
            refine lv_if_ne (tgt := 226) hx hb dL_change_206 (by decide) (fun c_18 => ?_) (fun c_18 => ?_)
            · exact absurd (rfl) c_18
            · refine lv_aload_n hx hb dL_change_209 rfl (lv_at hl 8 rfl) ?_
              refine lv_iconst (v := 1) hx hb dL_change_210 (by decide) ?_
              obtain ⟨X_19, hO_20, hM9⟩ := o_count_1 (l := l) (D := D) hSR2 hO_17
              refine lo_I (n := 1) (As := [.int 1]) (rest := []) hx hb hml hown hts hK hN hM9 (OX.at0 hO_17) gL_change_X4_count rfl (by decide +kernel) (by decide) dL_change_211 rfl rfl (Nat.le_of_ble_eq_true rfl) hl.1 (Nat.le_of_ble_eq_true rfl) (Nat.le_of_ble_eq_true rfl) (Nat.le_of_ble_eq_true rfl) (Nat.le_of_ble_eq_true rfl) hP hD hS hA (fun H locs hP hD hS => ?_)
              clear hM9
              refine lv_aload_n hx hb dL_change_214 rfl (lv_at hl 8 rfl) ?_
              refine lv_iconst (v := 2) hx hb dL_change_215 (by decide) ?_
              obtain ⟨X_21, hO_22, hM9⟩ := o_count_2 (l := l) (D := D) hSR2 hO_20
              refine lo_I (n := 1) (As := [.int 2]) (rest := [.int (smF ((anS (gC S q (nI (lowN (y >>> (4 &&& 31)) 200)))) 0) 9)]) hx hb hml hown hts hK hN hM9 (OX.at0 hO_20) gL_change_X4_count rfl (by decide +kernel) (by decide) dL_change_216 rfl rfl (Nat.le_of_ble_eq_true rfl) hl.1 (Nat.le_of_ble_eq_true rfl) (Nat.le_of_ble_eq_true rfl) (Nat.le_of_ble_eq_true rfl) (Nat.le_of_ble_eq_true rfl) hP hD hS hA (fun H locs hP hD hS => ?_)
              clear hM9
              refine lv_icmp_ne (tgt := 226) hx hb dL_change_219 (by decide) (fun c_23 => ?_) (fun c_23 => ?_)
              · exact absurd (rfl) c_23
              · refine lv_iconst (v := 1) hx hb dL_change_222 (by decide) ?_
                refine lv_goto (tgt := 227) hx hb dL_change_223 (by decide) ?_
                subst hQ
                exact rt_zo hx hb hr hlocks hS dL_change_227 (va_PR hP) (va_DR hD) rfl (⟨rfl, _, _, _, hns2, hL2, hO_22⟩)
      · have c_7 : ¬ (z ≤ q) := fun h9 => c_7 ((nI_leI (a := z) (b := q) (by omega) (by omega)).mpr h9)
        omega
    · have c_6 : ¬ (z ≤ q) := fun h9 => c_6 ((nI_leI (a := z) (b := q) (by omega) (by omega)).mpr h9)
      refine lv_iload_n hx hb dL_change_54 rfl (lv_at hl 5 rfl) ?_
      refine lv_goto (tgt := 60) hx hb dL_change_55 (by decide) ?_
      refine lv_istore (lv' := [(9, .int (nI q)), (8, .int 0), (7, .int (nI nw)), (6, .int (S 7 2)), (5, .int 0), (4, .int (nI z)), (3, .int (nI q)), (0, .ref x0), (1, .int x), (2, .int y)]) hx hb dL_change_60 hl (by decide) rfl (fun ls hl => ?_)
      refine lv_iload_n hx hb dL_change_62 rfl (lv_at hl 6 rfl) ?_
      refine lv_iload hx hb dL_change_63 (lv_at hl 5 rfl) ?_
      refine lv_icmp_ge (tgt := 73) hx hb dL_change_65 (by decide) (fun c_24 => ?_) (fun c_24 => ?_)
      · have c_24 : z ≤ q := (nI_leI (a := z) (b := q) (by omega) (by omega)).mp c_24
        omega
      · have c_24 : ¬ (z ≤ q) := fun h9 => c_24 ((nI_leI (a := z) (b := q) (by omega) (by omega)).mpr h9)
        refine lv_iload hx hb dL_change_68 (lv_at hl 5 rfl) ?_
        refine lv_goto (tgt := 74) hx hb dL_change_70 (by decide) ?_
        refine lv_istore (lv' := [(10, .int (nI z)), (9, .int (nI q)), (8, .int 0), (7, .int (nI nw)), (6, .int (S 7 2)), (5, .int 0), (4, .int (nI z)), (3, .int (nI q)), (0, .ref x0), (1, .int x), (2, .int y)]) hx hb dL_change_74 hl (by decide) rfl (fun ls hl => ?_)
        refine lv_iload_n hx hb dL_change_76 rfl (lv_at hl 9 rfl) ?_
        refine lv_bipush (v := 16) hx hb dL_change_77 (by decide) ?_
        have hPc : va_P D vwCl ([]) H := hP.sub [] rfl
        have hDc : va_D A ([]) := hD.sub [] (by decide +kernel) rfl
        refine cl_i0 (va_runS (As := [.int x, .int 16]) (rest := []) ⟨hx, hb, hml, hown, hts⟩ (c_L_low_16 l D k x H.size) (va_cwS 2 hts gL_change_L_low rfl rfl rfl (by decide +kernel) ⟨Nat.le_of_ble_eq_true rfl, Nat.le_of_ble_eq_true rfl⟩) ⟨pr_blind, pr_at hN hPc hK hDc⟩ rfl rfl hl.1 rfl (lv_room (Nat.le_of_ble_eq_true rfl)) dL_change_79 ⟨Nat.le_of_ble_eq_true rfl, Nat.le_of_ble_eq_true rfl⟩) hP hD hS hA [] rfl (fun H locs hP hD hS => ?_)
        clear hPc hDc
        refine tp_e (y := 3) (congrArg nI hx16) ?_
        refine lv_tableIn (off := 74) (tgt := 156) hx hb dL_change_82 (by decide) (by decide) rfl (by decide) ?_
        refine lv_aload_n hx hb dL_change_156 rfl (lv_at hl 8 rfl) ?_
        refine lv_iload_n hx hb dL_change_157 rfl (lv_at hl 7 rfl) ?_
        refine lv_iconst (v := 0) hx hb dL_change_158 (by decide) ?_
        obtain ⟨X_25, hO_26, hM9⟩ := o_pieceOf_0 (l := l) (D := D) hSR hO_4 (q := q) (by omega)
        refine lo_I (n := 2) (As := [.int (nI q), .int 0]) (rest := []) hx hb hml hown hts hK hN hM9 (OX.at0 hO_4) gL_change_X4_pieceOf rfl (by decide +kernel) (by decide) dL_change_159 rfl rfl (Nat.le_of_ble_eq_true rfl) hl.1 (Nat.le_of_ble_eq_true rfl) (Nat.le_of_ble_eq_true rfl) (Nat.le_of_ble_eq_true rfl) (Nat.le_of_ble_eq_true rfl) hP hD hS hA (fun H locs hP hD hS => ?_)
        clear hM9
        refine lv_istore (lv' := [(5, .int (S 0 q)), (10, .int (nI z)), (9, .int (nI q)), (8, .int 0), (7, .int (nI nw)), (6, .int (S 7 2)), (4, .int (nI z)), (3, .int (nI q)), (0, .ref x0), (1, .int x), (2, .int y)]) hx hb dL_change_162 hl (by decide) rfl (fun ls hl => ?_)
        refine lv_aload_n hx hb dL_change_164 rfl (lv_at hl 8 rfl) ?_
        refine lv_iload_n hx hb dL_change_165 rfl (lv_at hl 7 rfl) ?_
        refine lv_iload_n hx hb dL_change_166 rfl (lv_at hl 10 rfl) ?_
        refine lv_iconst (v := 4) hx hb dL_change_167 (by decide) ?_
        refine lv_ishr hx hb dL_change_168 ?_
        refine lv_sipush (v := 200) hx hb dL_change_169 (by decide) ?_
        have hPc : va_P D vwCl ([]) H := hP.sub [] rfl
        have hDc : va_D A ([]) := hD.sub [] (by decide +kernel) rfl
        refine cl_i0 (va_runS (As := [.int (y >>> (4 &&& 31)), .int 200]) (rest := [.int (nI q), .ref x0]) ⟨hx, hb, hml, hown, hts⟩ (c_L_low_200 l D k (y >>> (4 &&& 31)) H.size) (va_cwS 2 hts gL_change_L_low rfl rfl rfl (by decide +kernel) ⟨Nat.le_of_ble_eq_true rfl, Nat.le_of_ble_eq_true rfl⟩) ⟨pr_blind, pr_at hN hPc hK hDc⟩ rfl rfl hl.1 rfl (lv_room (Nat.le_of_ble_eq_true rfl)) dL_change_172 ⟨Nat.le_of_ble_eq_true rfl, Nat.le_of_ble_eq_true rfl⟩) hP hD hS hA [] rfl (fun H locs hP hD hS => ?_)
        clear hPc hDc
        obtain ⟨X_27, hO_28, hM9⟩ := o_cover (l := l) (D := D) hO_26 hns (q := q) (c := (lowN (y >>> (4 &&& 31)) 200)) (by omega) (by omega)
        refine lo_I (n := 2) (As := [.int (nI q), .int (nI (lowN (y >>> (4 &&& 31)) 200))]) (rest := []) hx hb hml hown hts hK hN hM9 (OX.at0 hO_26) gL_change_X4_cover rfl (by decide +kernel) (by decide) dL_change_175 rfl rfl (Nat.le_of_ble_eq_true rfl) hl.1 (Nat.le_of_ble_eq_true rfl) (Nat.le_of_ble_eq_true rfl) (Nat.le_of_ble_eq_true rfl) (Nat.le_of_ble_eq_true rfl) hP hD hS hA (fun H locs hP hD hS => ?_)
        clear hM9
        have hns2 : (svN ns) ≤ 6 := (svN_le hns).1
        have hL2 : LI (anS (gC S q (nI (lowN (y >>> (4 &&& 31)) 200)))) := LI_cover hL (by omega) (by omega)
        obtain ⟨f2, hSR2, -, -⟩ := id hL2
        refine lv_iload hx hb dL_change_178 (lv_at hl 0 rfl) ?_
        refine lv_icmp_ne (tgt := 226) hx hb dL_change_180 (by decide) (fun c_29 => ?_) (fun c_29 => ?_)
        · exact absurd (rfl) c_29
        · refine lv_aload_n hx hb dL_change_183 rfl (lv_at hl 8 rfl) ?_
          refine lv_iload_n hx hb dL_change_184 rfl (lv_at hl 7 rfl) ?_
          refine lv_iconst (v := 0) hx hb dL_change_185 (by decide) ?_
          obtain ⟨X_30, hO_31, hM9⟩ := o_pieceOf_0 (l := l) (D := D) hSR2 hO_28 (q := q) (by omega)
          refine lo_I (n := 2) (As := [.int (nI q), .int 0]) (rest := []) hx hb hml hown hts hK hN hM9 (OX.at0 hO_28) gL_change_X4_pieceOf rfl (by decide +kernel) (by decide) dL_change_186 rfl rfl (Nat.le_of_ble_eq_true rfl) hl.1 (Nat.le_of_ble_eq_true rfl) (Nat.le_of_ble_eq_true rfl) (Nat.le_of_ble_eq_true rfl) (Nat.le_of_ble_eq_true rfl) hP hD hS hA (fun H locs hP hD hS => ?_)
          clear hM9
          refine lv_iload_n hx hb dL_change_189 rfl (lv_at hl 10 rfl) ?_
          refine lv_iconst (v := 4) hx hb dL_change_190 (by decide) ?_
          refine lv_ishr hx hb dL_change_191 ?_
          refine lv_sipush (v := 200) hx hb dL_change_192 (by decide) ?_
          have hPc : va_P D vwCl ([]) H := hP.sub [] rfl
          have hDc : va_D A ([]) := hD.sub [] (by decide +kernel) rfl
          refine cl_i0 (va_runS (As := [.int (y >>> (4 &&& 31)), .int 200]) (rest := [.int ((anS (gC S q (nI (lowN (y >>> (4 &&& 31)) 200)))) 0 q)]) ⟨hx, hb, hml, hown, hts⟩ (c_L_low_200 l D k (y >>> (4 &&& 31)) H.size) (va_cwS 2 hts gL_change_L_low rfl rfl rfl (by decide +kernel) ⟨Nat.le_of_ble_eq_true rfl, Nat.le_of_ble_eq_true rfl⟩) ⟨pr_blind, pr_at hN hPc hK hDc⟩ rfl rfl hl.1 rfl (lv_room (Nat.le_of_ble_eq_true rfl)) dL_change_195 ⟨Nat.le_of_ble_eq_true rfl, Nat.le_of_ble_eq_true rfl⟩) hP hD hS hA [] rfl (fun H locs hP hD hS => ?_)
          clear hPc hDc
          refine lv_icmp_ne (tgt := 226) hx hb dL_change_198 (by decide) (fun c_32 => ?_) (fun c_32 => ?_)
          · exact absurd (upd_e _ _ _) c_32
          · refine lv_aload_n hx hb dL_change_201 rfl (lv_at hl 8 rfl) ?_
            refine lv_iconst (v := 3) hx hb dL_change_202 (by decide) ?_
            obtain ⟨X_33, hO_34, hM9⟩ := o_count_3 (l := l) (D := D) hSR2 hO_31
            refine lo_I (n := 1) (As := [.int 3]) (rest := []) hx hb hml hown hts hK hN hM9 (OX.at0 hO_31) gL_change_X4_count rfl (by decide +kernel) (by decide) dL_change_203 rfl rfl (Nat.le_of_ble_eq_true rfl) hl.1 (Nat.le_of_ble_eq_true rfl) (Nat.le_of_ble_eq_true rfl) (Nat.le_of_ble_eq_true rfl) (Nat.le_of_ble_eq_true rfl) hP hD hS hA (fun H locs hP hD hS => ?_)
            clear hM9
            refine lv_if_ne (tgt := 226) hx hb dL_change_206 (by decide) (fun c_35 => ?_) (fun c_35 => ?_)
            · exact absurd (rfl) c_35
            · refine lv_aload_n hx hb dL_change_209 rfl (lv_at hl 8 rfl) ?_
              refine lv_iconst (v := 1) hx hb dL_change_210 (by decide) ?_
              obtain ⟨X_36, hO_37, hM9⟩ := o_count_1 (l := l) (D := D) hSR2 hO_34
              refine lo_I (n := 1) (As := [.int 1]) (rest := []) hx hb hml hown hts hK hN hM9 (OX.at0 hO_34) gL_change_X4_count rfl (by decide +kernel) (by decide) dL_change_211 rfl rfl (Nat.le_of_ble_eq_true rfl) hl.1 (Nat.le_of_ble_eq_true rfl) (Nat.le_of_ble_eq_true rfl) (Nat.le_of_ble_eq_true rfl) (Nat.le_of_ble_eq_true rfl) hP hD hS hA (fun H locs hP hD hS => ?_)
              clear hM9
              refine lv_aload_n hx hb dL_change_214 rfl (lv_at hl 8 rfl) ?_
              refine lv_iconst (v := 2) hx hb dL_change_215 (by decide) ?_
              obtain ⟨X_38, hO_39, hM9⟩ := o_count_2 (l := l) (D := D) hSR2 hO_37
              refine lo_I (n := 1) (As := [.int 2]) (rest := [.int (smF ((anS (gC S q (nI (lowN (y >>> (4 &&& 31)) 200)))) 0) 9)]) hx hb hml hown hts hK hN hM9 (OX.at0 hO_37) gL_change_X4_count rfl (by decide +kernel) (by decide) dL_change_216 rfl rfl (Nat.le_of_ble_eq_true rfl) hl.1 (Nat.le_of_ble_eq_true rfl) (Nat.le_of_ble_eq_true rfl) (Nat.le_of_ble_eq_true rfl) (Nat.le_of_ble_eq_true rfl) hP hD hS hA (fun H locs hP hD hS => ?_)
              clear hM9
              refine lv_icmp_ne (tgt := 226) hx hb dL_change_219 (by decide) (fun c_40 => ?_) (fun c_40 => ?_)
              · exact absurd (rfl) c_40
              · refine lv_iconst (v := 1) hx hb dL_change_222 (by decide) ?_
                refine lv_goto (tgt := 227) hx hb dL_change_223 (by decide) ?_
                subst hQ
                exact rt_zo hx hb hr hlocks hS dL_change_227 (va_PR hP) (va_DR hD) rfl (⟨rfl, _, _, _, hns2, hL2, hO_39⟩)
  · have c_5 : q = z := (nI_eq (a := q) (b := z) (by omega) (by omega)).mp c_5
    refine lv_iconst (v := 1) hx hb dL_change_41 (by decide) ?_
    refine lv_goto (tgt := 46) hx hb dL_change_42 (by decide) ?_
    refine lv_istore (lv' := [(8, .int 1), (7, .int (nI nw)), (6, .int (S 7 2)), (5, .int 0), (4, .int (nI z)), (3, .int (nI q)), (0, .ref x0), (1, .int x), (2, .int y)]) hx hb dL_change_46 hl (by decide) rfl (fun ls hl => ?_)
    refine lv_iload_n hx hb dL_change_48 rfl (lv_at hl 5 rfl) ?_
    refine lv_iload hx hb dL_change_49 (lv_at hl 4 rfl) ?_
    refine lv_icmp_ge (tgt := 58) hx hb dL_change_51 (by decide) (fun c_41 => ?_) (fun c_41 => ?_)
    · have c_41 : z ≤ q := (nI_leI (a := z) (b := q) (by omega) (by omega)).mp c_41
      refine lv_iload hx hb dL_change_58 (lv_at hl 4 rfl) ?_
      refine lv_istore (lv' := [(9, .int (nI z)), (8, .int 1), (7, .int (nI nw)), (6, .int (S 7 2)), (5, .int 0), (4, .int (nI z)), (3, .int (nI q)), (0, .ref x0), (1, .int x), (2, .int y)]) hx hb dL_change_60 hl (by decide) rfl (fun ls hl => ?_)
      refine lv_iload_n hx hb dL_change_62 rfl (lv_at hl 6 rfl) ?_
      refine lv_iload hx hb dL_change_63 (lv_at hl 5 rfl) ?_
      refine lv_icmp_ge (tgt := 73) hx hb dL_change_65 (by decide) (fun c_42 => ?_) (fun c_42 => ?_)
      · have c_42 : z ≤ q := (nI_leI (a := z) (b := q) (by omega) (by omega)).mp c_42
        refine lv_iload_n hx hb dL_change_73 rfl (lv_at hl 6 rfl) ?_
        refine lv_istore (lv' := [(10, .int (nI q)), (9, .int (nI z)), (8, .int 1), (7, .int (nI nw)), (6, .int (S 7 2)), (5, .int 0), (4, .int (nI z)), (3, .int (nI q)), (0, .ref x0), (1, .int x), (2, .int y)]) hx hb dL_change_74 hl (by decide) rfl (fun ls hl => ?_)
        refine lv_iload_n hx hb dL_change_76 rfl (lv_at hl 9 rfl) ?_
        refine lv_bipush (v := 16) hx hb dL_change_77 (by decide) ?_
        have hPc : va_P D vwCl ([]) H := hP.sub [] rfl
        have hDc : va_D A ([]) := hD.sub [] (by decide +kernel) rfl
        refine cl_i0 (va_runS (As := [.int x, .int 16]) (rest := []) ⟨hx, hb, hml, hown, hts⟩ (c_L_low_16 l D k x H.size) (va_cwS 2 hts gL_change_L_low rfl rfl rfl (by decide +kernel) ⟨Nat.le_of_ble_eq_true rfl, Nat.le_of_ble_eq_true rfl⟩) ⟨pr_blind, pr_at hN hPc hK hDc⟩ rfl rfl hl.1 rfl (lv_room (Nat.le_of_ble_eq_true rfl)) dL_change_79 ⟨Nat.le_of_ble_eq_true rfl, Nat.le_of_ble_eq_true rfl⟩) hP hD hS hA [] rfl (fun H locs hP hD hS => ?_)
        clear hPc hDc
        refine tp_e (y := 3) (congrArg nI hx16) ?_
        refine lv_tableIn (off := 74) (tgt := 156) hx hb dL_change_82 (by decide) (by decide) rfl (by decide) ?_
        refine lv_aload_n hx hb dL_change_156 rfl (lv_at hl 8 rfl) ?_
        refine lv_iload_n hx hb dL_change_157 rfl (lv_at hl 7 rfl) ?_
        refine lv_iconst (v := 0) hx hb dL_change_158 (by decide) ?_
        obtain ⟨X_43, hO_44, hM9⟩ := o_pieceOf_0 (l := l) (D := D) hSR hO_4 (q := q) (by omega)
        refine lo_I (n := 2) (As := [.int (nI q), .int 0]) (rest := []) hx hb hml hown hts hK hN hM9 (OX.at0 hO_4) gL_change_X4_pieceOf rfl (by decide +kernel) (by decide) dL_change_159 rfl rfl (Nat.le_of_ble_eq_true rfl) hl.1 (Nat.le_of_ble_eq_true rfl) (Nat.le_of_ble_eq_true rfl) (Nat.le_of_ble_eq_true rfl) (Nat.le_of_ble_eq_true rfl) hP hD hS hA (fun H locs hP hD hS => ?_)
        clear hM9
        refine lv_istore (lv' := [(5, .int (S 0 q)), (10, .int (nI q)), (9, .int (nI z)), (8, .int 1), (7, .int (nI nw)), (6, .int (S 7 2)), (4, .int (nI z)), (3, .int (nI q)), (0, .ref x0), (1, .int x), (2, .int y)]) hx hb dL_change_162 hl (by decide) rfl (fun ls hl => ?_)
        refine lv_aload_n hx hb dL_change_164 rfl (lv_at hl 8 rfl) ?_
        refine lv_iload_n hx hb dL_change_165 rfl (lv_at hl 7 rfl) ?_
        refine lv_iload_n hx hb dL_change_166 rfl (lv_at hl 10 rfl) ?_
        refine lv_iconst (v := 4) hx hb dL_change_167 (by decide) ?_
        refine lv_ishr hx hb dL_change_168 ?_
        refine lv_sipush (v := 200) hx hb dL_change_169 (by decide) ?_
        have hPc : va_P D vwCl ([]) H := hP.sub [] rfl
        have hDc : va_D A ([]) := hD.sub [] (by decide +kernel) rfl
        refine cl_i0 (va_runS (As := [.int (y >>> (4 &&& 31)), .int 200]) (rest := [.int (nI q), .ref x0]) ⟨hx, hb, hml, hown, hts⟩ (c_L_low_200 l D k (y >>> (4 &&& 31)) H.size) (va_cwS 2 hts gL_change_L_low rfl rfl rfl (by decide +kernel) ⟨Nat.le_of_ble_eq_true rfl, Nat.le_of_ble_eq_true rfl⟩) ⟨pr_blind, pr_at hN hPc hK hDc⟩ rfl rfl hl.1 rfl (lv_room (Nat.le_of_ble_eq_true rfl)) dL_change_172 ⟨Nat.le_of_ble_eq_true rfl, Nat.le_of_ble_eq_true rfl⟩) hP hD hS hA [] rfl (fun H locs hP hD hS => ?_)
        clear hPc hDc
        obtain ⟨X_45, hO_46, hM9⟩ := o_cover (l := l) (D := D) hO_44 hns (q := q) (c := (lowN (y >>> (4 &&& 31)) 200)) (by omega) (by omega)
        refine lo_I (n := 2) (As := [.int (nI q), .int (nI (lowN (y >>> (4 &&& 31)) 200))]) (rest := []) hx hb hml hown hts hK hN hM9 (OX.at0 hO_44) gL_change_X4_cover rfl (by decide +kernel) (by decide) dL_change_175 rfl rfl (Nat.le_of_ble_eq_true rfl) hl.1 (Nat.le_of_ble_eq_true rfl) (Nat.le_of_ble_eq_true rfl) (Nat.le_of_ble_eq_true rfl) (Nat.le_of_ble_eq_true rfl) hP hD hS hA (fun H locs hP hD hS => ?_)
        clear hM9
        have hns2 : (svN ns) ≤ 6 := (svN_le hns).1
        have hL2 : LI (anS (gC S q (nI (lowN (y >>> (4 &&& 31)) 200)))) := LI_cover hL (by omega) (by omega)
        obtain ⟨f2, hSR2, -, -⟩ := id hL2
        refine lv_iload hx hb dL_change_178 (lv_at hl 0 rfl) ?_
        refine lv_icmp_ne (tgt := 226) hx hb dL_change_180 (by decide) (fun c_47 => ?_) (fun c_47 => ?_)
        · exact absurd (rfl) c_47
        · refine lv_aload_n hx hb dL_change_183 rfl (lv_at hl 8 rfl) ?_
          refine lv_iload_n hx hb dL_change_184 rfl (lv_at hl 7 rfl) ?_
          refine lv_iconst (v := 0) hx hb dL_change_185 (by decide) ?_
          obtain ⟨X_48, hO_49, hM9⟩ := o_pieceOf_0 (l := l) (D := D) hSR2 hO_46 (q := q) (by omega)
          refine lo_I (n := 2) (As := [.int (nI q), .int 0]) (rest := []) hx hb hml hown hts hK hN hM9 (OX.at0 hO_46) gL_change_X4_pieceOf rfl (by decide +kernel) (by decide) dL_change_186 rfl rfl (Nat.le_of_ble_eq_true rfl) hl.1 (Nat.le_of_ble_eq_true rfl) (Nat.le_of_ble_eq_true rfl) (Nat.le_of_ble_eq_true rfl) (Nat.le_of_ble_eq_true rfl) hP hD hS hA (fun H locs hP hD hS => ?_)
          clear hM9
          refine lv_iload_n hx hb dL_change_189 rfl (lv_at hl 10 rfl) ?_
          refine lv_iconst (v := 4) hx hb dL_change_190 (by decide) ?_
          refine lv_ishr hx hb dL_change_191 ?_
          refine lv_sipush (v := 200) hx hb dL_change_192 (by decide) ?_
          have hPc : va_P D vwCl ([]) H := hP.sub [] rfl
          have hDc : va_D A ([]) := hD.sub [] (by decide +kernel) rfl
          refine cl_i0 (va_runS (As := [.int (y >>> (4 &&& 31)), .int 200]) (rest := [.int ((anS (gC S q (nI (lowN (y >>> (4 &&& 31)) 200)))) 0 q)]) ⟨hx, hb, hml, hown, hts⟩ (c_L_low_200 l D k (y >>> (4 &&& 31)) H.size) (va_cwS 2 hts gL_change_L_low rfl rfl rfl (by decide +kernel) ⟨Nat.le_of_ble_eq_true rfl, Nat.le_of_ble_eq_true rfl⟩) ⟨pr_blind, pr_at hN hPc hK hDc⟩ rfl rfl hl.1 rfl (lv_room (Nat.le_of_ble_eq_true rfl)) dL_change_195 ⟨Nat.le_of_ble_eq_true rfl, Nat.le_of_ble_eq_true rfl⟩) hP hD hS hA [] rfl (fun H locs hP hD hS => ?_)
          clear hPc hDc
          refine lv_icmp_ne (tgt := 226) hx hb dL_change_198 (by decide) (fun c_50 => ?_) (fun c_50 => ?_)
          · exact absurd (upd_e _ _ _) c_50
          · refine lv_aload_n hx hb dL_change_201 rfl (lv_at hl 8 rfl) ?_
            refine lv_iconst (v := 3) hx hb dL_change_202 (by decide) ?_
            obtain ⟨X_51, hO_52, hM9⟩ := o_count_3 (l := l) (D := D) hSR2 hO_49
            refine lo_I (n := 1) (As := [.int 3]) (rest := []) hx hb hml hown hts hK hN hM9 (OX.at0 hO_49) gL_change_X4_count rfl (by decide +kernel) (by decide) dL_change_203 rfl rfl (Nat.le_of_ble_eq_true rfl) hl.1 (Nat.le_of_ble_eq_true rfl) (Nat.le_of_ble_eq_true rfl) (Nat.le_of_ble_eq_true rfl) (Nat.le_of_ble_eq_true rfl) hP hD hS hA (fun H locs hP hD hS => ?_)
            clear hM9
            refine lv_if_ne (tgt := 226) hx hb dL_change_206 (by decide) (fun c_53 => ?_) (fun c_53 => ?_)
            · exact absurd (rfl) c_53
            · refine lv_aload_n hx hb dL_change_209 rfl (lv_at hl 8 rfl) ?_
              refine lv_iconst (v := 1) hx hb dL_change_210 (by decide) ?_
              obtain ⟨X_54, hO_55, hM9⟩ := o_count_1 (l := l) (D := D) hSR2 hO_52
              refine lo_I (n := 1) (As := [.int 1]) (rest := []) hx hb hml hown hts hK hN hM9 (OX.at0 hO_52) gL_change_X4_count rfl (by decide +kernel) (by decide) dL_change_211 rfl rfl (Nat.le_of_ble_eq_true rfl) hl.1 (Nat.le_of_ble_eq_true rfl) (Nat.le_of_ble_eq_true rfl) (Nat.le_of_ble_eq_true rfl) (Nat.le_of_ble_eq_true rfl) hP hD hS hA (fun H locs hP hD hS => ?_)
              clear hM9
              refine lv_aload_n hx hb dL_change_214 rfl (lv_at hl 8 rfl) ?_
              refine lv_iconst (v := 2) hx hb dL_change_215 (by decide) ?_
              obtain ⟨X_56, hO_57, hM9⟩ := o_count_2 (l := l) (D := D) hSR2 hO_55
              refine lo_I (n := 1) (As := [.int 2]) (rest := [.int (smF ((anS (gC S q (nI (lowN (y >>> (4 &&& 31)) 200)))) 0) 9)]) hx hb hml hown hts hK hN hM9 (OX.at0 hO_55) gL_change_X4_count rfl (by decide +kernel) (by decide) dL_change_216 rfl rfl (Nat.le_of_ble_eq_true rfl) hl.1 (Nat.le_of_ble_eq_true rfl) (Nat.le_of_ble_eq_true rfl) (Nat.le_of_ble_eq_true rfl) (Nat.le_of_ble_eq_true rfl) hP hD hS hA (fun H locs hP hD hS => ?_)
              clear hM9
              refine lv_icmp_ne (tgt := 226) hx hb dL_change_219 (by decide) (fun c_58 => ?_) (fun c_58 => ?_)
              · exact absurd (rfl) c_58
              · refine lv_iconst (v := 1) hx hb dL_change_222 (by decide) ?_
                refine lv_goto (tgt := 227) hx hb dL_change_223 (by decide) ?_
                subst hQ
                exact rt_zo hx hb hr hlocks hS dL_change_227 (va_PR hP) (va_DR hD) rfl (⟨rfl, _, _, _, hns2, hL2, hO_57⟩)
      · have c_42 : ¬ (z ≤ q) := fun h9 => c_42 ((nI_leI (a := z) (b := q) (by omega) (by omega)).mpr h9)
        omega
    · have c_41 : ¬ (z ≤ q) := fun h9 => c_41 ((nI_leI (a := z) (b := q) (by omega) (by omega)).mpr h9)
      exact absurd c_41 (not_not_intro (by omega))
