set_option maxHeartbeats 4000000 in
set_option maxRecDepth 100000 in
theorem c_L_change_8 (l : Launch) (D : va_G) (k : Nat → ClassId) (x0 ns : Nat) (S : Nat → Nat → Int32) (Z : Nat → Nat → Nat → Int32) (Y0 : Nat → Nat → Int32) (k0 : Int32) (X : va_W) (x y : Int32) (hns : ns ≤ 6) (hL : LI S) (hO : OX k x0 ns S Z Y0 k0 X) (hx16 : lowN x 16 = 8) : MO l yL_change wsL_change ({ frames := 31, cells := 0, slots := 0, locals := 839 }) D k [.ref x0, .int x, .int y] X (fun r X2 => r = 1 ∧ ∃ ns2 S2 Z2, ns2 ≤ 6 ∧ LI S2 ∧ OX k x0 ns2 S2 Z2 Y0 k0 X2) := by
  intro sz
  refine Met.ofW (cc := cL_change) (maxL := 16) (ret := (some .boolean)) (by decide) rfl ?_
  intro p e s m args below meth c s₁ B hml hv
  obtain ⟨rfl, hN, hsz, hP, hK, hD0⟩ := hv
  have hx := B.exec
  have hb := B.bytes
  have hr := B.returns
  have hts := atoms_spec (ws := wsL_change) B.pre
  have hown : s.vm.findClass RL = some m.cls := findClass_of_methodNamed B.named
  have hlocks := B.notSynchronized
  subst hsz
  have hD := hD0.self (sz := s.heap.size)
  generalize hAe : va_A X s.heap.size = A at hD ⊢
  have hA : ∀ q : Nat, s.heap.size ≤ q → A q := fun q h => by rw [← hAe]; exact Or.inr h
  have hS : va_S A s.heap s.heap [] := va_S.rf
  have hl := lv_entry ([.ref x0, .int x, .int y]) (n := 16) (Nat.le_of_ble_eq_true rfl)
  rw [lg_entry_eq]
  generalize (lg_sl ([.ref x0, .int x, .int y]) ++ List.replicate (16 - (lg_sl ([.ref x0, .int x, .int y])).length) Slot.unset).toArray = ls at hl ⊢
  have hl : lv_has ls 16 [(0, .ref x0), (1, .int x), (2, .int y)] := hl
  obtain ⟨H, hHe⟩ : ∃ H, H = s.heap := ⟨_, rfl⟩
  have hP : va_P D vwCl X H := by rw [hHe]; exact hP
  have hS : va_S A s.heap H [] := by rw [hHe]; exact hS
  rw [← hHe]
  refine absQ (fun Q hQ => ?_)
  obtain ⟨f, hSR, hBR, hEX⟩ := id hL
  obtain ⟨nw, hnw⟩ := hSR.2.2.2
  have hn : S 7 0 = nI nw := hnw.2.1
  have hn2 : nw ≤ 12 := hnw.1
  have hcv := low_lt (y >>> (4 &&& 31)) (n := 200) (by decide)
  have hP : va_P D vwCl ([] ++ (X)) H := hP
  have hD : va_D A ([] ++ (X)) := hD
  refine lv_iload_n hx hb dL_change_0 rfl (lv_at hl 2 rfl) ?_
  refine lv_bipush (v := 9) hx hb dL_change_1 (by decide) ?_
  have hPc : va_P D vwCl ([]) H := hP.sub [] rfl
  have hDc : va_D A ([]) := hD.sub [] (by decide +kernel) rfl
  refine cl_i0 (va_runS (As := [.int y, .int 9]) (rest := []) ⟨hx, hb, hml, hown, hts⟩ (c_L_low_9 l D k y H.size) (va_cwS 2 hts gL_change_L_low rfl rfl rfl (by decide +kernel) ⟨Nat.le_of_ble_eq_true rfl, Nat.le_of_ble_eq_true rfl⟩) ⟨pr_blind, pr_at hN hPc hK hDc⟩ rfl rfl hl.1 rfl (lv_room (Nat.le_of_ble_eq_true rfl)) dL_change_3 ⟨Nat.le_of_ble_eq_true rfl, Nat.le_of_ble_eq_true rfl⟩) hP hD hS hA [] rfl (fun H locs hP hD hS => ?_)
  clear hPc hDc
  obtain ⟨q, hqe⟩ : ∃ q, q = lowN y 9 := ⟨_, rfl⟩
  have hq9 : q < 9 := by rw [hqe]; exact low_lt _ (by decide)
  refine tp_e (y := (nI q)) (by rw [hqe]) ?_
  refine lv_istore_n (lv' := [(3, .int (nI q)), (0, .ref x0), (1, .int x), (2, .int y)]) hx hb dL_change_6 rfl hl (by decide) rfl (fun ls hl => ?_)
  refine lv_iload_n hx hb dL_change_7 rfl (lv_at hl 3 rfl) ?_
  refine lv_iconst (v := 4) hx hb dL_change_8 (by decide) ?_
  refine lv_ishr hx hb dL_change_9 ?_
  refine lv_bipush (v := 9) hx hb dL_change_10 (by decide) ?_
  have hPc : va_P D vwCl ([]) H := hP.sub [] rfl
  have hDc : va_D A ([]) := hD.sub [] (by decide +kernel) rfl
  refine cl_i0 (va_runS (As := [.int (y >>> (4 &&& 31)), .int 9]) (rest := []) ⟨hx, hb, hml, hown, hts⟩ (c_L_low_9 l D k (y >>> (4 &&& 31)) H.size) (va_cwS 2 hts gL_change_L_low rfl rfl rfl (by decide +kernel) ⟨Nat.le_of_ble_eq_true rfl, Nat.le_of_ble_eq_true rfl⟩) ⟨pr_blind, pr_at hN hPc hK hDc⟩ rfl rfl hl.1 rfl (lv_room (Nat.le_of_ble_eq_true rfl)) dL_change_12 ⟨Nat.le_of_ble_eq_true rfl, Nat.le_of_ble_eq_true rfl⟩) hP hD hS hA [] rfl (fun H locs hP hD hS => ?_)
  clear hPc hDc
  obtain ⟨z, hze⟩ : ∃ z, z = lowN (y >>> (4 &&& 31)) 9 := ⟨_, rfl⟩
  have hz9 : z < 9 := by rw [hze]; exact low_lt _ (by decide)
  refine tp_e (y := (nI z)) (by rw [hze]) ?_
  refine lv_istore (lv' := [(4, .int (nI z)), (3, .int (nI q)), (0, .ref x0), (1, .int x), (2, .int y)]) hx hb dL_change_15 hl (by decide) rfl (fun ls hl => ?_)
  refine lv_iconst (v := 0) hx hb dL_change_17 (by decide) ?_
  refine lv_istore (lv' := [(5, .int 0), (4, .int (nI z)), (3, .int (nI q)), (0, .ref x0), (1, .int x), (2, .int y)]) hx hb dL_change_18 hl (by decide) rfl (fun ls hl => ?_)
  refine lv_aload_n hx hb dL_change_20 rfl (lv_at hl 3 rfl) ?_
  refine lv_bipush (v := 10) hx hb dL_change_21 (by decide) ?_
  obtain ⟨X_1, hO_2, hM9⟩ := o_count_10 (l := l) (D := D) hSR hO
  refine lo_I (n := 1) (As := [.int 10]) (rest := []) hx hb hml hown hts hK hN hM9 (OX.at0 hO) gL_change_X4_count rfl (by decide +kernel) (by decide) dL_change_23 rfl rfl (Nat.le_of_ble_eq_true rfl) hl.1 (Nat.le_of_ble_eq_true rfl) (Nat.le_of_ble_eq_true rfl) (Nat.le_of_ble_eq_true rfl) (Nat.le_of_ble_eq_true rfl) hP hD hS hA (fun H locs hP hD hS => ?_)
  clear hM9
  refine lv_istore (lv' := [(6, .int (S 7 2)), (5, .int 0), (4, .int (nI z)), (3, .int (nI q)), (0, .ref x0), (1, .int x), (2, .int y)]) hx hb dL_change_26 hl (by decide) rfl (fun ls hl => ?_)
  refine lv_aload_n hx hb dL_change_28 rfl (lv_at hl 4 rfl) ?_
  refine lv_iconst (v := 3) hx hb dL_change_29 (by decide) ?_
  obtain ⟨X_3, hO_4, hM9⟩ := o_count_3 (l := l) (D := D) hSR hO_2
  refine lo_I (n := 1) (As := [.int 3]) (rest := []) hx hb hml hown hts hK hN hM9 (OX.at0 hO_2) gL_change_X4_count rfl (by decide +kernel) (by decide) dL_change_30 rfl rfl (Nat.le_of_ble_eq_true rfl) hl.1 (Nat.le_of_ble_eq_true rfl) (Nat.le_of_ble_eq_true rfl) (Nat.le_of_ble_eq_true rfl) (Nat.le_of_ble_eq_true rfl) hP hD hS hA (fun H locs hP hD hS => ?_)
  clear hM9
  refine tp_e (y := (nI nw)) hn ?_
  refine lv_istore (lv' := [(7, .int (nI nw)), (6, .int (S 7 2)), (5, .int 0), (4, .int (nI z)), (3, .int (nI q)), (0, .ref x0), (1, .int x), (2, .int y)]) hx hb dL_change_33 hl (by decide) rfl (fun ls hl => ?_)
  refine lv_iload_n hx hb dL_change_35 rfl (lv_at hl 4 rfl) ?_
  refine lv_iload hx hb dL_change_36 (lv_at hl 3 rfl) ?_
  refine lv_icmp_ne (tgt := 45) hx hb dL_change_38 (by decide) (fun c_5 => ?_) (fun c_5 => ?_)
  · have c_5 : ¬ (q = z) := fun h9 => c_5 ((nI_eq (a := q) (b := z) (by omega) (by omega)).mpr h9)
    refine lv_iconst (v := 0) hx hb dL_change_45 (by decide) ?_
    refine lv_istore (lv' := [(8, .int 0), (7, .int (nI nw)), (6, .int (S 7 2)), (5, .int 0), (4, .int (nI z)), (3, .int (nI q)), (0, .ref x0), (1, .int x), (2, .int y)]) hx hb dL_change_46 hl (by decide) rfl (fun ls hl => ?_)
    refine lv_iload_n hx hb dL_change_48 rfl (lv_at hl 5 rfl) ?_
    refine lv_iload hx hb dL_change_49 (lv_at hl 4 rfl) ?_
    refine lv_icmp_ge (tgt := 58) hx hb dL_change_51 (by decide) (fun c_6 => ?_) (fun c_6 => ?_)
    · have c_6 : z ≤ q := (nI_leI (a := z) (b := q) (by omega) (by omega)).mp c_6
      refine lv_iload hx hb dL_change_58 (lv_at hl 4 rfl) ?_
      refine lv_istore (lv' := [(9, .int (nI z)), (8, .int 0), (7, .int (nI nw)), (6, .int (S 7 2)), (5, .int 0), (4, .int (nI z)), (3, .int (nI q)), (0, .ref x0), (1, .int x), (2, .int y)]) hx hb dL_change_60 hl (by decide) rfl (fun ls hl => ?_)
      refine lv_iload_n hx hb dL_change_62 rfl (lv_at hl 6 rfl) ?_
      refine lv_iload hx hb dL_change_63 (lv_at hl 5 rfl) ?_
      refine lv_icmp_ge (tgt := 73) hx hb dL_change_65 (by decide) (fun c_7 => ?_) (fun c_7 => ?_)
      · have c_7 : z ≤ q := (nI_leI (a := z) (b := q) (by omega) (by omega)).mp c_7
        refine lv_iload_n hx hb dL_change_73 rfl (lv_at hl 6 rfl) ?_
        refine lv_istore (lv' := [(10, .int (nI q)), (9, .int (nI z)), (8, .int 0), (7, .int (nI nw)), (6, .int (S 7 2)), (5, .int 0), (4, .int (nI z)), (3, .int (nI q)), (0, .ref x0), (1, .int x), (2, .int y)]) hx hb dL_change_74 hl (by decide) rfl (fun ls hl => ?_)
        refine lv_iload_n hx hb dL_change_76 rfl (lv_at hl 9 rfl) ?_
        refine lv_bipush (v := 16) hx hb dL_change_77 (by decide) ?_
        have hPc : va_P D vwCl ([]) H := hP.sub [] rfl
        have hDc : va_D A ([]) := hD.sub [] (by decide +kernel) rfl
        refine cl_i0 (va_runS (As := [.int x, .int 16]) (rest := []) ⟨hx, hb, hml, hown, hts⟩ (c_L_low_16 l D k x H.size) (va_cwS 2 hts gL_change_L_low rfl rfl rfl (by decide +kernel) ⟨Nat.le_of_ble_eq_true rfl, Nat.le_of_ble_eq_true rfl⟩) ⟨pr_blind, pr_at hN hPc hK hDc⟩ rfl rfl hl.1 rfl (lv_room (Nat.le_of_ble_eq_true rfl)) dL_change_79 ⟨Nat.le_of_ble_eq_true rfl, Nat.le_of_ble_eq_true rfl⟩) hP hD hS hA [] rfl (fun H locs hP hD hS => ?_)
        clear hPc hDc
        refine tp_e (y := 8) (congrArg nI hx16) ?_
        refine lv_tableIn (off := 214) (tgt := 296) hx hb dL_change_82 (by decide) (by decide) rfl (by decide) ?_
        refine lv_aload_n hx hb dL_change_296 rfl (lv_at hl 8 rfl) ?_
        refine lv_iload_n hx hb dL_change_297 rfl (lv_at hl 7 rfl) ?_
        refine lv_iconst (v := 2) hx hb dL_change_298 (by decide) ?_
        obtain ⟨X_8, hO_9, hM9⟩ := o_pieceOf_2 (l := l) (D := D) hSR hO_4 (q := q) (by omega)
        refine lo_I (n := 2) (As := [.int (nI q), .int 2]) (rest := []) hx hb hml hown hts hK hN hM9 (OX.at0 hO_4) gL_change_X4_pieceOf rfl (by decide +kernel) (by decide) dL_change_299 rfl rfl (Nat.le_of_ble_eq_true rfl) hl.1 (Nat.le_of_ble_eq_true rfl) (Nat.le_of_ble_eq_true rfl) (Nat.le_of_ble_eq_true rfl) (Nat.le_of_ble_eq_true rfl) hP hD hS hA (fun H locs hP hD hS => ?_)
        clear hM9
        refine lv_istore (lv' := [(5, .int (S 1 q)), (10, .int (nI q)), (9, .int (nI z)), (8, .int 0), (7, .int (nI nw)), (6, .int (S 7 2)), (4, .int (nI z)), (3, .int (nI q)), (0, .ref x0), (1, .int x), (2, .int y)]) hx hb dL_change_302 hl (by decide) rfl (fun ls hl => ?_)
        refine lv_aload_n hx hb dL_change_304 rfl (lv_at hl 8 rfl) ?_
        refine lv_iload_n hx hb dL_change_305 rfl (lv_at hl 7 rfl) ?_
        refine lv_iload_n hx hb dL_change_306 rfl (lv_at hl 10 rfl) ?_
        refine lv_iconst (v := 4) hx hb dL_change_307 (by decide) ?_
        refine lv_ishr hx hb dL_change_308 ?_
        refine lv_iconst (v := 3) hx hb dL_change_309 (by decide) ?_
        refine lv_iand hx hb dL_change_310 ?_
        refine tp_e (y := (nI ((y >>> (4 &&& 31)).toBitVec.toNat % 4))) (an3 _) ?_
        obtain ⟨X_10, hO_11, hM9⟩ := o_mark (l := l) (D := D) hO_9 hns (q := q) (w := ((y >>> (4 &&& 31)).toBitVec.toNat % 4)) (by omega) (by omega)
        refine lo_I (n := 2) (As := [.int (nI q), .int (nI ((y >>> (4 &&& 31)).toBitVec.toNat % 4))]) (rest := []) hx hb hml hown hts hK hN hM9 (OX.at0 hO_9) gL_change_X4_mark rfl (by decide +kernel) (by decide) dL_change_311 rfl rfl (Nat.le_of_ble_eq_true rfl) hl.1 (Nat.le_of_ble_eq_true rfl) (Nat.le_of_ble_eq_true rfl) (Nat.le_of_ble_eq_true rfl) (Nat.le_of_ble_eq_true rfl) hP hD hS hA (fun H locs hP hD hS => ?_)
        clear hM9
        have hns2 : (svN ns) ≤ 6 := (svN_le hns).1
        have hL2 : LI (anS (gM S q (nI ((y >>> (4 &&& 31)).toBitVec.toNat % 4)))) := LI_mark hL (by omega) (by omega)
        obtain ⟨f2, hSR2, -, -⟩ := id hL2
        refine lv_iload hx hb dL_change_314 (lv_at hl 0 rfl) ?_
        refine lv_icmp_ne (tgt := 337) hx hb dL_change_316 (by decide) (fun c_12 => ?_) (fun c_12 => ?_)
        · exact absurd (rfl) c_12
        · refine lv_aload_n hx hb dL_change_319 rfl (lv_at hl 8 rfl) ?_
          refine lv_iload_n hx hb dL_change_320 rfl (lv_at hl 7 rfl) ?_
          refine lv_iconst (v := 2) hx hb dL_change_321 (by decide) ?_
          obtain ⟨X_13, hO_14, hM9⟩ := o_pieceOf_2 (l := l) (D := D) hSR2 hO_11 (q := q) (by omega)
          refine lo_I (n := 2) (As := [.int (nI q), .int 2]) (rest := []) hx hb hml hown hts hK hN hM9 (OX.at0 hO_11) gL_change_X4_pieceOf rfl (by decide +kernel) (by decide) dL_change_322 rfl rfl (Nat.le_of_ble_eq_true rfl) hl.1 (Nat.le_of_ble_eq_true rfl) (Nat.le_of_ble_eq_true rfl) (Nat.le_of_ble_eq_true rfl) (Nat.le_of_ble_eq_true rfl) hP hD hS hA (fun H locs hP hD hS => ?_)
          clear hM9
          refine lv_iload_n hx hb dL_change_325 rfl (lv_at hl 10 rfl) ?_
          refine lv_iconst (v := 4) hx hb dL_change_326 (by decide) ?_
          refine lv_ishr hx hb dL_change_327 ?_
          refine lv_iconst (v := 3) hx hb dL_change_328 (by decide) ?_
          refine lv_iand hx hb dL_change_329 ?_
          refine tp_e (y := (nI ((y >>> (4 &&& 31)).toBitVec.toNat % 4))) (an3 _) ?_
          refine lv_icmp_ne (tgt := 337) hx hb dL_change_330 (by decide) (fun c_15 => ?_) (fun c_15 => ?_)
          · exact absurd (upd_e _ _ _) c_15
          · refine lv_iconst (v := 1) hx hb dL_change_333 (by decide) ?_
            refine lv_goto (tgt := 338) hx hb dL_change_334 (by decide) ?_
            subst hQ
            exact rt_zo hx hb hr hlocks hS dL_change_338 (va_PR hP) (va_DR hD) rfl (⟨rfl, _, _, _, hns2, hL2, hO_14⟩)
      · have c_7 : ¬ (z ≤ q) := fun h9 => c_7 ((nI_leI (a := z) (b := q) (by omega) (by omega)).mpr h9)
        omega
    · have c_6 : ¬ (z ≤ q) := fun h9 => c_6 ((nI_leI (a := z) (b := q) (by omega) (by omega)).mpr h9)
      refine lv_iload_n hx hb dL_change_54 rfl (lv_at hl 5 rfl) ?_
      refine lv_goto (tgt := 60) hx hb dL_change_55 (by decide) ?_
      refine lv_istore (lv' := [(9, .int (nI q)), (8, .int 0), (7, .int (nI nw)), (6, .int (S 7 2)), (5, .int 0), (4, .int (nI z)), (3, .int (nI q)), (0, .ref x0), (1, .int x), (2, .int y)]) hx hb dL_change_60 hl (by decide) rfl (fun ls hl => ?_)
      refine lv_iload_n hx hb dL_change_62 rfl (lv_at hl 6 rfl) ?_
      refine lv_iload hx hb dL_change_63 (lv_at hl 5 rfl) ?_
      refine lv_icmp_ge (tgt := 73) hx hb dL_change_65 (by decide) (fun c_16 => ?_) (fun c_16 => ?_)
      · have c_16 : z ≤ q := (nI_leI (a := z) (b := q) (by omega) (by omega)).mp c_16
        omega
      · have c_16 : ¬ (z ≤ q) := fun h9 => c_16 ((nI_leI (a := z) (b := q) (by omega) (by omega)).mpr h9)
        refine lv_iload hx hb dL_change_68 (lv_at hl 5 rfl) ?_
        refine lv_goto (tgt := 74) hx hb dL_change_70 (by decide) ?_
        refine lv_istore (lv' := [(10, .int (nI z)), (9, .int (nI q)), (8, .int 0), (7, .int (nI nw)), (6, .int (S 7 2)), (5, .int 0), (4, .int (nI z)), (3, .int (nI q)), (0, .ref x0), (1, .int x), (2, .int y)]) hx hb dL_change_74 hl (by decide) rfl (fun ls hl => ?_)
        refine lv_iload_n hx hb dL_change_76 rfl (lv_at hl 9 rfl) ?_
        refine lv_bipush (v := 16) hx hb dL_change_77 (by decide) ?_
        have hPc : va_P D vwCl ([]) H := hP.sub [] rfl
        have hDc : va_D A ([]) := hD.sub [] (by decide +kernel) rfl
        refine cl_i0 (va_runS (As := [.int x, .int 16]) (rest := []) ⟨hx, hb, hml, hown, hts⟩ (c_L_low_16 l D k x H.size) (va_cwS 2 hts gL_change_L_low rfl rfl rfl (by decide +kernel) ⟨Nat.le_of_ble_eq_true rfl, Nat.le_of_ble_eq_true rfl⟩) ⟨pr_blind, pr_at hN hPc hK hDc⟩ rfl rfl hl.1 rfl (lv_room (Nat.le_of_ble_eq_true rfl)) dL_change_79 ⟨Nat.le_of_ble_eq_true rfl, Nat.le_of_ble_eq_true rfl⟩) hP hD hS hA [] rfl (fun H locs hP hD hS => ?_)
        clear hPc hDc
        refine tp_e (y := 8) (congrArg nI hx16) ?_
        refine lv_tableIn (off := 214) (tgt := 296) hx hb dL_change_82 (by decide) (by decide) rfl (by decide) ?_
        refine lv_aload_n hx hb dL_change_296 rfl (lv_at hl 8 rfl) ?_
        refine lv_iload_n hx hb dL_change_297 rfl (lv_at hl 7 rfl) ?_
        refine lv_iconst (v := 2) hx hb dL_change_298 (by decide) ?_
        obtain ⟨X_17, hO_18, hM9⟩ := o_pieceOf_2 (l := l) (D := D) hSR hO_4 (q := q) (by omega)
        refine lo_I (n := 2) (As := [.int (nI q), .int 2]) (rest := []) hx hb hml hown hts hK hN hM9 (OX.at0 hO_4) gL_change_X4_pieceOf rfl (by decide +kernel) (by decide) dL_change_299 rfl rfl (Nat.le_of_ble_eq_true rfl) hl.1 (Nat.le_of_ble_eq_true rfl) (Nat.le_of_ble_eq_true rfl) (Nat.le_of_ble_eq_true rfl) (Nat.le_of_ble_eq_true rfl) hP hD hS hA (fun H locs hP hD hS => ?_)
        clear hM9
        refine lv_istore (lv' := [(5, .int (S 1 q)), (10, .int (nI z)), (9, .int (nI q)), (8, .int 0), (7, .int (nI nw)), (6, .int (S 7 2)), (4, .int (nI z)), (3, .int (nI q)), (0, .ref x0), (1, .int x), (2, .int y)]) hx hb dL_change_302 hl (by decide) rfl (fun ls hl => ?_)
        refine lv_aload_n hx hb dL_change_304 rfl (lv_at hl 8 rfl) ?_
        refine lv_iload_n hx hb dL_change_305 rfl (lv_at hl 7 rfl) ?_
        refine lv_iload_n hx hb dL_change_306 rfl (lv_at hl 10 rfl) ?_
        refine lv_iconst (v := 4) hx hb dL_change_307 (by decide) ?_
        refine lv_ishr hx hb dL_change_308 ?_
        refine lv_iconst (v := 3) hx hb dL_change_309 (by decide) ?_
        refine lv_iand hx hb dL_change_310 ?_
        refine tp_e (y := (nI ((y >>> (4 &&& 31)).toBitVec.toNat % 4))) (an3 _) ?_
        obtain ⟨X_19, hO_20, hM9⟩ := o_mark (l := l) (D := D) hO_18 hns (q := q) (w := ((y >>> (4 &&& 31)).toBitVec.toNat % 4)) (by omega) (by omega)
        refine lo_I (n := 2) (As := [.int (nI q), .int (nI ((y >>> (4 &&& 31)).toBitVec.toNat % 4))]) (rest := []) hx hb hml hown hts hK hN hM9 (OX.at0 hO_18) gL_change_X4_mark rfl (by decide +kernel) (by decide) dL_change_311 rfl rfl (Nat.le_of_ble_eq_true rfl) hl.1 (Nat.le_of_ble_eq_true rfl) (Nat.le_of_ble_eq_true rfl) (Nat.le_of_ble_eq_true rfl) (Nat.le_of_ble_eq_true rfl) hP hD hS hA (fun H locs hP hD hS => ?_)
        clear hM9
        have hns2 : (svN ns) ≤ 6 := (svN_le hns).1
        have hL2 : LI (anS (gM S q (nI ((y >>> (4 &&& 31)).toBitVec.toNat % 4)))) := LI_mark hL (by omega) (by omega)
        obtain ⟨f2, hSR2, -, -⟩ := id hL2
        refine lv_iload hx hb dL_change_314 (lv_at hl 0 rfl) ?_
        refine lv_icmp_ne (tgt := 337) hx hb dL_change_316 (by decide) (fun c_21 => ?_) (fun c_21 => ?_)
        · exact absurd (rfl) c_21
        · refine lv_aload_n hx hb dL_change_319 rfl (lv_at hl 8 rfl) ?_
          refine lv_iload_n hx hb dL_change_320 rfl (lv_at hl 7 rfl) ?_
          refine lv_iconst (v := 2) hx hb dL_change_321 (by decide) ?_
          obtain ⟨X_22, hO_23, hM9⟩ := o_pieceOf_2 (l := l) (D := D) hSR2 hO_20 (q := q) (by omega)
          refine lo_I (n := 2) (As := [.int (nI q), .int 2]) (rest := []) hx hb hml hown hts hK hN hM9 (OX.at0 hO_20) gL_change_X4_pieceOf rfl (by decide +kernel) (by decide) dL_change_322 rfl rfl (Nat.le_of_ble_eq_true rfl) hl.1 (Nat.le_of_ble_eq_true rfl) (Nat.le_of_ble_eq_true rfl) (Nat.le_of_ble_eq_true rfl) (Nat.le_of_ble_eq_true rfl) hP hD hS hA (fun H locs hP hD hS => ?_)
          clear hM9
          refine lv_iload_n hx hb dL_change_325 rfl (lv_at hl 10 rfl) ?_
          refine lv_iconst (v := 4) hx hb dL_change_326 (by decide) ?_
          refine lv_ishr hx hb dL_change_327 ?_
          refine lv_iconst (v := 3) hx hb dL_change_328 (by decide) ?_
          refine lv_iand hx hb dL_change_329 ?_
          refine tp_e (y := (nI ((y >>> (4 &&& 31)).toBitVec.toNat % 4))) (an3 _) ?_
          refine lv_icmp_ne (tgt := 337) hx hb dL_change_330 (by decide) (fun c_24 => ?_) (fun c_24 => ?_)
          · exact absurd (upd_e _ _ _) c_24
          · refine lv_iconst (v := 1) hx hb dL_change_333 (by decide) ?_
            refine lv_goto (tgt := 338) hx hb dL_change_334 (by decide) ?_
            subst hQ
            exact rt_zo hx hb hr hlocks hS dL_change_338 (va_PR hP) (va_DR hD) rfl (⟨rfl, _, _, _, hns2, hL2, hO_23⟩)
  · have c_5 : q = z := (nI_eq (a := q) (b := z) (by omega) (by omega)).mp c_5
    refine lv_iconst (v := 1) hx hb dL_change_41 (by decide) ?_
    refine lv_goto (tgt := 46) hx hb dL_change_42 (by decide) ?_
    refine lv_istore (lv' := [(8, .int 1), (7, .int (nI nw)), (6, .int (S 7 2)), (5, .int 0), (4, .int (nI z)), (3, .int (nI q)), (0, .ref x0), (1, .int x), (2, .int y)]) hx hb dL_change_46 hl (by decide) rfl (fun ls hl => ?_)
    refine lv_iload_n hx hb dL_change_48 rfl (lv_at hl 5 rfl) ?_
    refine lv_iload hx hb dL_change_49 (lv_at hl 4 rfl) ?_
    refine lv_icmp_ge (tgt := 58) hx hb dL_change_51 (by decide) (fun c_25 => ?_) (fun c_25 => ?_)
    · have c_25 : z ≤ q := (nI_leI (a := z) (b := q) (by omega) (by omega)).mp c_25
      refine lv_iload hx hb dL_change_58 (lv_at hl 4 rfl) ?_
      refine lv_istore (lv' := [(9, .int (nI z)), (8, .int 1), (7, .int (nI nw)), (6, .int (S 7 2)), (5, .int 0), (4, .int (nI z)), (3, .int (nI q)), (0, .ref x0), (1, .int x), (2, .int y)]) hx hb dL_change_60 hl (by decide) rfl (fun ls hl => ?_)
      refine lv_iload_n hx hb dL_change_62 rfl (lv_at hl 6 rfl) ?_
      refine lv_iload hx hb dL_change_63 (lv_at hl 5 rfl) ?_
      refine lv_icmp_ge (tgt := 73) hx hb dL_change_65 (by decide) (fun c_26 => ?_) (fun c_26 => ?_)
      · have c_26 : z ≤ q := (nI_leI (a := z) (b := q) (by omega) (by omega)).mp c_26
        refine lv_iload_n hx hb dL_change_73 rfl (lv_at hl 6 rfl) ?_
        refine lv_istore (lv' := [(10, .int (nI q)), (9, .int (nI z)), (8, .int 1), (7, .int (nI nw)), (6, .int (S 7 2)), (5, .int 0), (4, .int (nI z)), (3, .int (nI q)), (0, .ref x0), (1, .int x), (2, .int y)]) hx hb dL_change_74 hl (by decide) rfl (fun ls hl => ?_)
        refine lv_iload_n hx hb dL_change_76 rfl (lv_at hl 9 rfl) ?_
        refine lv_bipush (v := 16) hx hb dL_change_77 (by decide) ?_
        have hPc : va_P D vwCl ([]) H := hP.sub [] rfl
        have hDc : va_D A ([]) := hD.sub [] (by decide +kernel) rfl
        refine cl_i0 (va_runS (As := [.int x, .int 16]) (rest := []) ⟨hx, hb, hml, hown, hts⟩ (c_L_low_16 l D k x H.size) (va_cwS 2 hts gL_change_L_low rfl rfl rfl (by decide +kernel) ⟨Nat.le_of_ble_eq_true rfl, Nat.le_of_ble_eq_true rfl⟩) ⟨pr_blind, pr_at hN hPc hK hDc⟩ rfl rfl hl.1 rfl (lv_room (Nat.le_of_ble_eq_true rfl)) dL_change_79 ⟨Nat.le_of_ble_eq_true rfl, Nat.le_of_ble_eq_true rfl⟩) hP hD hS hA [] rfl (fun H locs hP hD hS => ?_)
        clear hPc hDc
        refine tp_e (y := 8) (congrArg nI hx16) ?_
        refine lv_tableIn (off := 214) (tgt := 296) hx hb dL_change_82 (by decide) (by decide) rfl (by decide) ?_
        refine lv_aload_n hx hb dL_change_296 rfl (lv_at hl 8 rfl) ?_
        refine lv_iload_n hx hb dL_change_297 rfl (lv_at hl 7 rfl) ?_
        refine lv_iconst (v := 2) hx hb dL_change_298 (by decide) ?_
        obtain ⟨X_27, hO_28, hM9⟩ := o_pieceOf_2 (l := l) (D := D) hSR hO_4 (q := q) (by omega)
        refine lo_I (n := 2) (As := [.int (nI q), .int 2]) (rest := []) hx hb hml hown hts hK hN hM9 (OX.at0 hO_4) gL_change_X4_pieceOf rfl (by decide +kernel) (by decide) dL_change_299 rfl rfl (Nat.le_of_ble_eq_true rfl) hl.1 (Nat.le_of_ble_eq_true rfl) (Nat.le_of_ble_eq_true rfl) (Nat.le_of_ble_eq_true rfl) (Nat.le_of_ble_eq_true rfl) hP hD hS hA (fun H locs hP hD hS => ?_)
        clear hM9
        refine lv_istore (lv' := [(5, .int (S 1 q)), (10, .int (nI q)), (9, .int (nI z)), (8, .int 1), (7, .int (nI nw)), (6, .int (S 7 2)), (4, .int (nI z)), (3, .int (nI q)), (0, .ref x0), (1, .int x), (2, .int y)]) hx hb dL_change_302 hl (by decide) rfl (fun ls hl => ?_)
        refine lv_aload_n hx hb dL_change_304 rfl (lv_at hl 8 rfl) ?_
        refine lv_iload_n hx hb dL_change_305 rfl (lv_at hl 7 rfl) ?_
        refine lv_iload_n hx hb dL_change_306 rfl (lv_at hl 10 rfl) ?_
        refine lv_iconst (v := 4) hx hb dL_change_307 (by decide) ?_
        refine lv_ishr hx hb dL_change_308 ?_
        refine lv_iconst (v := 3) hx hb dL_change_309 (by decide) ?_
        refine lv_iand hx hb dL_change_310 ?_
        refine tp_e (y := (nI ((y >>> (4 &&& 31)).toBitVec.toNat % 4))) (an3 _) ?_
        obtain ⟨X_29, hO_30, hM9⟩ := o_mark (l := l) (D := D) hO_28 hns (q := q) (w := ((y >>> (4 &&& 31)).toBitVec.toNat % 4)) (by omega) (by omega)
        refine lo_I (n := 2) (As := [.int (nI q), .int (nI ((y >>> (4 &&& 31)).toBitVec.toNat % 4))]) (rest := []) hx hb hml hown hts hK hN hM9 (OX.at0 hO_28) gL_change_X4_mark rfl (by decide +kernel) (by decide) dL_change_311 rfl rfl (Nat.le_of_ble_eq_true rfl) hl.1 (Nat.le_of_ble_eq_true rfl) (Nat.le_of_ble_eq_true rfl) (Nat.le_of_ble_eq_true rfl) (Nat.le_of_ble_eq_true rfl) hP hD hS hA (fun H locs hP hD hS => ?_)
        clear hM9
        have hns2 : (svN ns) ≤ 6 := (svN_le hns).1
        have hL2 : LI (anS (gM S q (nI ((y >>> (4 &&& 31)).toBitVec.toNat % 4)))) := LI_mark hL (by omega) (by omega)
        obtain ⟨f2, hSR2, -, -⟩ := id hL2
        refine lv_iload hx hb dL_change_314 (lv_at hl 0 rfl) ?_
        refine lv_icmp_ne (tgt := 337) hx hb dL_change_316 (by decide) (fun c_31 => ?_) (fun c_31 => ?_)
        · exact absurd (rfl) c_31
        · refine lv_aload_n hx hb dL_change_319 rfl (lv_at hl 8 rfl) ?_
          refine lv_iload_n hx hb dL_change_320 rfl (lv_at hl 7 rfl) ?_
          refine lv_iconst (v := 2) hx hb dL_change_321 (by decide) ?_
          obtain ⟨X_32, hO_33, hM9⟩ := o_pieceOf_2 (l := l) (D := D) hSR2 hO_30 (q := q) (by omega)
          refine lo_I (n := 2) (As := [.int (nI q), .int 2]) (rest := []) hx hb hml hown hts hK hN hM9 (OX.at0 hO_30) gL_change_X4_pieceOf rfl (by decide +kernel) (by decide) dL_change_322 rfl rfl (Nat.le_of_ble_eq_true rfl) hl.1 (Nat.le_of_ble_eq_true rfl) (Nat.le_of_ble_eq_true rfl) (Nat.le_of_ble_eq_true rfl) (Nat.le_of_ble_eq_true rfl) hP hD hS hA (fun H locs hP hD hS => ?_)
          clear hM9
          refine lv_iload_n hx hb dL_change_325 rfl (lv_at hl 10 rfl) ?_
          refine lv_iconst (v := 4) hx hb dL_change_326 (by decide) ?_
          refine lv_ishr hx hb dL_change_327 ?_
          refine lv_iconst (v := 3) hx hb dL_change_328 (by decide) ?_
          refine lv_iand hx hb dL_change_329 ?_
          refine tp_e (y := (nI ((y >>> (4 &&& 31)).toBitVec.toNat % 4))) (an3 _) ?_
          refine lv_icmp_ne (tgt := 337) hx hb dL_change_330 (by decide) (fun c_34 => ?_) (fun c_34 => ?_)
          · exact absurd (upd_e _ _ _) c_34
          · refine lv_iconst (v := 1) hx hb dL_change_333 (by decide) ?_
            refine lv_goto (tgt := 338) hx hb dL_change_334 (by decide) ?_
            subst hQ
            exact rt_zo hx hb hr hlocks hS dL_change_338 (va_PR hP) (va_DR hD) rfl (⟨rfl, _, _, _, hns2, hL2, hO_33⟩)
      · have c_26 : ¬ (z ≤ q) := fun h9 => c_26 ((nI_leI (a := z) (b := q) (by omega) (by omega)).mpr h9)
        omega
    · have c_25 : ¬ (z ≤ q) := fun h9 => c_25 ((nI_leI (a := z) (b := q) (by omega) (by omega)).mpr h9)
      exact absurd c_25 (not_not_intro (by omega))

set_option maxHeartbeats 4000000 in
set_option maxRecDepth 100000 in
theorem c_L_change_9 (l : Launch) (D : va_G) (k : Nat → ClassId) (x0 ns : Nat) (S : Nat → Nat → Int32) (Z : Nat → Nat → Nat → Int32) (Y0 : Nat → Nat → Int32) (k0 : Int32) (X : va_W) (x y : Int32) (hns : ns ≤ 6) (hL : LI S) (hO : OX k x0 ns S Z Y0 k0 X) (hx16 : lowN x 16 = 9) : MO l yL_change wsL_change ({ frames := 31, cells := 0, slots := 0, locals := 839 }) D k [.ref x0, .int x, .int y] X (fun r X2 => r = 1 ∧ ∃ ns2 S2 Z2, ns2 ≤ 6 ∧ LI S2 ∧ OX k x0 ns2 S2 Z2 Y0 k0 X2) := by
  intro sz
  refine Met.ofW (cc := cL_change) (maxL := 16) (ret := (some .boolean)) (by decide) rfl ?_
  intro p e s m args below meth c s₁ B hml hv
  obtain ⟨rfl, hN, hsz, hP, hK, hD0⟩ := hv
  have hx := B.exec
  have hb := B.bytes
  have hr := B.returns
  have hts := atoms_spec (ws := wsL_change) B.pre
  have hown : s.vm.findClass RL = some m.cls := findClass_of_methodNamed B.named
  have hlocks := B.notSynchronized
  subst hsz
  have hD := hD0.self (sz := s.heap.size)
  generalize hAe : va_A X s.heap.size = A at hD ⊢
  have hA : ∀ q : Nat, s.heap.size ≤ q → A q := fun q h => by rw [← hAe]; exact Or.inr h
  have hS : va_S A s.heap s.heap [] := va_S.rf
  have hl := lv_entry ([.ref x0, .int x, .int y]) (n := 16) (Nat.le_of_ble_eq_true rfl)
  rw [lg_entry_eq]
  generalize (lg_sl ([.ref x0, .int x, .int y]) ++ List.replicate (16 - (lg_sl ([.ref x0, .int x, .int y])).length) Slot.unset).toArray = ls at hl ⊢
  have hl : lv_has ls 16 [(0, .ref x0), (1, .int x), (2, .int y)] := hl
  obtain ⟨H, hHe⟩ : ∃ H, H = s.heap := ⟨_, rfl⟩
  have hP : va_P D vwCl X H := by rw [hHe]; exact hP
  have hS : va_S A s.heap H [] := by rw [hHe]; exact hS
  rw [← hHe]
  refine absQ (fun Q hQ => ?_)
  obtain ⟨f, hSR, hBR, hEX⟩ := id hL
  obtain ⟨nw, hnw⟩ := hSR.2.2.2
  have hn : S 7 0 = nI nw := hnw.2.1
  have hn2 : nw ≤ 12 := hnw.1
  have hcv := low_lt (y >>> (4 &&& 31)) (n := 200) (by decide)
  have hP : va_P D vwCl ([] ++ (X)) H := hP
  have hD : va_D A ([] ++ (X)) := hD
  refine lv_iload_n hx hb dL_change_0 rfl (lv_at hl 2 rfl) ?_
  refine lv_bipush (v := 9) hx hb dL_change_1 (by decide) ?_
  have hPc : va_P D vwCl ([]) H := hP.sub [] rfl
  have hDc : va_D A ([]) := hD.sub [] (by decide +kernel) rfl
  refine cl_i0 (va_runS (As := [.int y, .int 9]) (rest := []) ⟨hx, hb, hml, hown, hts⟩ (c_L_low_9 l D k y H.size) (va_cwS 2 hts gL_change_L_low rfl rfl rfl (by decide +kernel) ⟨Nat.le_of_ble_eq_true rfl, Nat.le_of_ble_eq_true rfl⟩) ⟨pr_blind, pr_at hN hPc hK hDc⟩ rfl rfl hl.1 rfl (lv_room (Nat.le_of_ble_eq_true rfl)) dL_change_3 ⟨Nat.le_of_ble_eq_true rfl, Nat.le_of_ble_eq_true rfl⟩) hP hD hS hA [] rfl (fun H locs hP hD hS => ?_)
  clear hPc hDc
  obtain ⟨q, hqe⟩ : ∃ q, q = lowN y 9 := ⟨_, rfl⟩
  have hq9 : q < 9 := by rw [hqe]; exact low_lt _ (by decide)
  refine tp_e (y := (nI q)) (by rw [hqe]) ?_
  refine lv_istore_n (lv' := [(3, .int (nI q)), (0, .ref x0), (1, .int x), (2, .int y)]) hx hb dL_change_6 rfl hl (by decide) rfl (fun ls hl => ?_)
  refine lv_iload_n hx hb dL_change_7 rfl (lv_at hl 3 rfl) ?_
  refine lv_iconst (v := 4) hx hb dL_change_8 (by decide) ?_
  refine lv_ishr hx hb dL_change_9 ?_
  refine lv_bipush (v := 9) hx hb dL_change_10 (by decide) ?_
  have hPc : va_P D vwCl ([]) H := hP.sub [] rfl
  have hDc : va_D A ([]) := hD.sub [] (by decide +kernel) rfl
  refine cl_i0 (va_runS (As := [.int (y >>> (4 &&& 31)), .int 9]) (rest := []) ⟨hx, hb, hml, hown, hts⟩ (c_L_low_9 l D k (y >>> (4 &&& 31)) H.size) (va_cwS 2 hts gL_change_L_low rfl rfl rfl (by decide +kernel) ⟨Nat.le_of_ble_eq_true rfl, Nat.le_of_ble_eq_true rfl⟩) ⟨pr_blind, pr_at hN hPc hK hDc⟩ rfl rfl hl.1 rfl (lv_room (Nat.le_of_ble_eq_true rfl)) dL_change_12 ⟨Nat.le_of_ble_eq_true rfl, Nat.le_of_ble_eq_true rfl⟩) hP hD hS hA [] rfl (fun H locs hP hD hS => ?_)
  clear hPc hDc
  obtain ⟨z, hze⟩ : ∃ z, z = lowN (y >>> (4 &&& 31)) 9 := ⟨_, rfl⟩
  have hz9 : z < 9 := by rw [hze]; exact low_lt _ (by decide)
  refine tp_e (y := (nI z)) (by rw [hze]) ?_
  refine lv_istore (lv' := [(4, .int (nI z)), (3, .int (nI q)), (0, .ref x0), (1, .int x), (2, .int y)]) hx hb dL_change_15 hl (by decide) rfl (fun ls hl => ?_)
  refine lv_iconst (v := 0) hx hb dL_change_17 (by decide) ?_
  refine lv_istore (lv' := [(5, .int 0), (4, .int (nI z)), (3, .int (nI q)), (0, .ref x0), (1, .int x), (2, .int y)]) hx hb dL_change_18 hl (by decide) rfl (fun ls hl => ?_)
  refine lv_aload_n hx hb dL_change_20 rfl (lv_at hl 3 rfl) ?_
  refine lv_bipush (v := 10) hx hb dL_change_21 (by decide) ?_
  obtain ⟨X_1, hO_2, hM9⟩ := o_count_10 (l := l) (D := D) hSR hO
  refine lo_I (n := 1) (As := [.int 10]) (rest := []) hx hb hml hown hts hK hN hM9 (OX.at0 hO) gL_change_X4_count rfl (by decide +kernel) (by decide) dL_change_23 rfl rfl (Nat.le_of_ble_eq_true rfl) hl.1 (Nat.le_of_ble_eq_true rfl) (Nat.le_of_ble_eq_true rfl) (Nat.le_of_ble_eq_true rfl) (Nat.le_of_ble_eq_true rfl) hP hD hS hA (fun H locs hP hD hS => ?_)
  clear hM9
  refine lv_istore (lv' := [(6, .int (S 7 2)), (5, .int 0), (4, .int (nI z)), (3, .int (nI q)), (0, .ref x0), (1, .int x), (2, .int y)]) hx hb dL_change_26 hl (by decide) rfl (fun ls hl => ?_)
  refine lv_aload_n hx hb dL_change_28 rfl (lv_at hl 4 rfl) ?_
  refine lv_iconst (v := 3) hx hb dL_change_29 (by decide) ?_
  obtain ⟨X_3, hO_4, hM9⟩ := o_count_3 (l := l) (D := D) hSR hO_2
  refine lo_I (n := 1) (As := [.int 3]) (rest := []) hx hb hml hown hts hK hN hM9 (OX.at0 hO_2) gL_change_X4_count rfl (by decide +kernel) (by decide) dL_change_30 rfl rfl (Nat.le_of_ble_eq_true rfl) hl.1 (Nat.le_of_ble_eq_true rfl) (Nat.le_of_ble_eq_true rfl) (Nat.le_of_ble_eq_true rfl) (Nat.le_of_ble_eq_true rfl) hP hD hS hA (fun H locs hP hD hS => ?_)
  clear hM9
  refine tp_e (y := (nI nw)) hn ?_
  refine lv_istore (lv' := [(7, .int (nI nw)), (6, .int (S 7 2)), (5, .int 0), (4, .int (nI z)), (3, .int (nI q)), (0, .ref x0), (1, .int x), (2, .int y)]) hx hb dL_change_33 hl (by decide) rfl (fun ls hl => ?_)
  refine lv_iload_n hx hb dL_change_35 rfl (lv_at hl 4 rfl) ?_
  refine lv_iload hx hb dL_change_36 (lv_at hl 3 rfl) ?_
  refine lv_icmp_ne (tgt := 45) hx hb dL_change_38 (by decide) (fun c_5 => ?_) (fun c_5 => ?_)
  · have c_5 : ¬ (q = z) := fun h9 => c_5 ((nI_eq (a := q) (b := z) (by omega) (by omega)).mpr h9)
    refine lv_iconst (v := 0) hx hb dL_change_45 (by decide) ?_
    refine lv_istore (lv' := [(8, .int 0), (7, .int (nI nw)), (6, .int (S 7 2)), (5, .int 0), (4, .int (nI z)), (3, .int (nI q)), (0, .ref x0), (1, .int x), (2, .int y)]) hx hb dL_change_46 hl (by decide) rfl (fun ls hl => ?_)
    refine lv_iload_n hx hb dL_change_48 rfl (lv_at hl 5 rfl) ?_
    refine lv_iload hx hb dL_change_49 (lv_at hl 4 rfl) ?_
    refine lv_icmp_ge (tgt := 58) hx hb dL_change_51 (by decide) (fun c_6 => ?_) (fun c_6 => ?_)
    · have c_6 : z ≤ q := (nI_leI (a := z) (b := q) (by omega) (by omega)).mp c_6
      refine lv_iload hx hb dL_change_58 (lv_at hl 4 rfl) ?_
      refine lv_istore (lv' := [(9, .int (nI z)), (8, .int 0), (7, .int (nI nw)), (6, .int (S 7 2)), (5, .int 0), (4, .int (nI z)), (3, .int (nI q)), (0, .ref x0), (1, .int x), (2, .int y)]) hx hb dL_change_60 hl (by decide) rfl (fun ls hl => ?_)
      refine lv_iload_n hx hb dL_change_62 rfl (lv_at hl 6 rfl) ?_
      refine lv_iload hx hb dL_change_63 (lv_at hl 5 rfl) ?_
      refine lv_icmp_ge (tgt := 73) hx hb dL_change_65 (by decide) (fun c_7 => ?_) (fun c_7 => ?_)
      · have c_7 : z ≤ q := (nI_leI (a := z) (b := q) (by omega) (by omega)).mp c_7
        refine lv_iload_n hx hb dL_change_73 rfl (lv_at hl 6 rfl) ?_
        refine lv_istore (lv' := [(10, .int (nI q)), (9, .int (nI z)), (8, .int 0), (7, .int (nI nw)), (6, .int (S 7 2)), (5, .int 0), (4, .int (nI z)), (3, .int (nI q)), (0, .ref x0), (1, .int x), (2, .int y)]) hx hb dL_change_74 hl (by decide) rfl (fun ls hl => ?_)
        refine lv_iload_n hx hb dL_change_76 rfl (lv_at hl 9 rfl) ?_
        refine lv_bipush (v := 16) hx hb dL_change_77 (by decide) ?_
        have hPc : va_P D vwCl ([]) H := hP.sub [] rfl
        have hDc : va_D A ([]) := hD.sub [] (by decide +kernel) rfl
        refine cl_i0 (va_runS (As := [.int x, .int 16]) (rest := []) ⟨hx, hb, hml, hown, hts⟩ (c_L_low_16 l D k x H.size) (va_cwS 2 hts gL_change_L_low rfl rfl rfl (by decide +kernel) ⟨Nat.le_of_ble_eq_true rfl, Nat.le_of_ble_eq_true rfl⟩) ⟨pr_blind, pr_at hN hPc hK hDc⟩ rfl rfl hl.1 rfl (lv_room (Nat.le_of_ble_eq_true rfl)) dL_change_79 ⟨Nat.le_of_ble_eq_true rfl, Nat.le_of_ble_eq_true rfl⟩) hP hD hS hA [] rfl (fun H locs hP hD hS => ?_)
        clear hPc hDc
        refine tp_e (y := 9) (congrArg nI hx16) ?_
        refine lv_tableIn (off := 214) (tgt := 296) hx hb dL_change_82 (by decide) (by decide) rfl (by decide) ?_
        refine lv_aload_n hx hb dL_change_296 rfl (lv_at hl 8 rfl) ?_
        refine lv_iload_n hx hb dL_change_297 rfl (lv_at hl 7 rfl) ?_
        refine lv_iconst (v := 2) hx hb dL_change_298 (by decide) ?_
        obtain ⟨X_8, hO_9, hM9⟩ := o_pieceOf_2 (l := l) (D := D) hSR hO_4 (q := q) (by omega)
        refine lo_I (n := 2) (As := [.int (nI q), .int 2]) (rest := []) hx hb hml hown hts hK hN hM9 (OX.at0 hO_4) gL_change_X4_pieceOf rfl (by decide +kernel) (by decide) dL_change_299 rfl rfl (Nat.le_of_ble_eq_true rfl) hl.1 (Nat.le_of_ble_eq_true rfl) (Nat.le_of_ble_eq_true rfl) (Nat.le_of_ble_eq_true rfl) (Nat.le_of_ble_eq_true rfl) hP hD hS hA (fun H locs hP hD hS => ?_)
        clear hM9
        refine lv_istore (lv' := [(5, .int (S 1 q)), (10, .int (nI q)), (9, .int (nI z)), (8, .int 0), (7, .int (nI nw)), (6, .int (S 7 2)), (4, .int (nI z)), (3, .int (nI q)), (0, .ref x0), (1, .int x), (2, .int y)]) hx hb dL_change_302 hl (by decide) rfl (fun ls hl => ?_)
        refine lv_aload_n hx hb dL_change_304 rfl (lv_at hl 8 rfl) ?_
        refine lv_iload_n hx hb dL_change_305 rfl (lv_at hl 7 rfl) ?_
        refine lv_iload_n hx hb dL_change_306 rfl (lv_at hl 10 rfl) ?_
        refine lv_iconst (v := 4) hx hb dL_change_307 (by decide) ?_
        refine lv_ishr hx hb dL_change_308 ?_
        refine lv_iconst (v := 3) hx hb dL_change_309 (by decide) ?_
        refine lv_iand hx hb dL_change_310 ?_
        refine tp_e (y := (nI ((y >>> (4 &&& 31)).toBitVec.toNat % 4))) (an3 _) ?_
        obtain ⟨X_10, hO_11, hM9⟩ := o_mark (l := l) (D := D) hO_9 hns (q := q) (w := ((y >>> (4 &&& 31)).toBitVec.toNat % 4)) (by omega) (by omega)
        refine lo_I (n := 2) (As := [.int (nI q), .int (nI ((y >>> (4 &&& 31)).toBitVec.toNat % 4))]) (rest := []) hx hb hml hown hts hK hN hM9 (OX.at0 hO_9) gL_change_X4_mark rfl (by decide +kernel) (by decide) dL_change_311 rfl rfl (Nat.le_of_ble_eq_true rfl) hl.1 (Nat.le_of_ble_eq_true rfl) (Nat.le_of_ble_eq_true rfl) (Nat.le_of_ble_eq_true rfl) (Nat.le_of_ble_eq_true rfl) hP hD hS hA (fun H locs hP hD hS => ?_)
        clear hM9
        have hns2 : (svN ns) ≤ 6 := (svN_le hns).1
        have hL2 : LI (anS (gM S q (nI ((y >>> (4 &&& 31)).toBitVec.toNat % 4)))) := LI_mark hL (by omega) (by omega)
        obtain ⟨f2, hSR2, -, -⟩ := id hL2
        refine lv_iload hx hb dL_change_314 (lv_at hl 0 rfl) ?_
        refine lv_icmp_ne (tgt := 337) hx hb dL_change_316 (by decide) (fun c_12 => ?_) (fun c_12 => ?_)
        · exact absurd (rfl) c_12
        · refine lv_aload_n hx hb dL_change_319 rfl (lv_at hl 8 rfl) ?_
          refine lv_iload_n hx hb dL_change_320 rfl (lv_at hl 7 rfl) ?_
          refine lv_iconst (v := 2) hx hb dL_change_321 (by decide) ?_
          obtain ⟨X_13, hO_14, hM9⟩ := o_pieceOf_2 (l := l) (D := D) hSR2 hO_11 (q := q) (by omega)
          refine lo_I (n := 2) (As := [.int (nI q), .int 2]) (rest := []) hx hb hml hown hts hK hN hM9 (OX.at0 hO_11) gL_change_X4_pieceOf rfl (by decide +kernel) (by decide) dL_change_322 rfl rfl (Nat.le_of_ble_eq_true rfl) hl.1 (Nat.le_of_ble_eq_true rfl) (Nat.le_of_ble_eq_true rfl) (Nat.le_of_ble_eq_true rfl) (Nat.le_of_ble_eq_true rfl) hP hD hS hA (fun H locs hP hD hS => ?_)
          clear hM9
          refine lv_iload_n hx hb dL_change_325 rfl (lv_at hl 10 rfl) ?_
          refine lv_iconst (v := 4) hx hb dL_change_326 (by decide) ?_
          refine lv_ishr hx hb dL_change_327 ?_
          refine lv_iconst (v := 3) hx hb dL_change_328 (by decide) ?_
          refine lv_iand hx hb dL_change_329 ?_
          refine tp_e (y := (nI ((y >>> (4 &&& 31)).toBitVec.toNat % 4))) (an3 _) ?_
          refine lv_icmp_ne (tgt := 337) hx hb dL_change_330 (by decide) (fun c_15 => ?_) (fun c_15 => ?_)
          · exact absurd (upd_e _ _ _) c_15
          · refine lv_iconst (v := 1) hx hb dL_change_333 (by decide) ?_
            refine lv_goto (tgt := 338) hx hb dL_change_334 (by decide) ?_
            subst hQ
            exact rt_zo hx hb hr hlocks hS dL_change_338 (va_PR hP) (va_DR hD) rfl (⟨rfl, _, _, _, hns2, hL2, hO_14⟩)
      · have c_7 : ¬ (z ≤ q) := fun h9 => c_7 ((nI_leI (a := z) (b := q) (by omega) (by omega)).mpr h9)
        omega
    · have c_6 : ¬ (z ≤ q) := fun h9 => c_6 ((nI_leI (a := z) (b := q) (by omega) (by omega)).mpr h9)
      refine lv_iload_n hx hb dL_change_54 rfl (lv_at hl 5 rfl) ?_
      refine lv_goto (tgt := 60) hx hb dL_change_55 (by decide) ?_
      refine lv_istore (lv' := [(9, .int (nI q)), (8, .int 0), (7, .int (nI nw)), (6, .int (S 7 2)), (5, .int 0), (4, .int (nI z)), (3, .int (nI q)), (0, .ref x0), (1, .int x), (2, .int y)]) hx hb dL_change_60 hl (by decide) rfl (fun ls hl => ?_)
      refine lv_iload_n hx hb dL_change_62 rfl (lv_at hl 6 rfl) ?_
      refine lv_iload hx hb dL_change_63 (lv_at hl 5 rfl) ?_
      refine lv_icmp_ge (tgt := 73) hx hb dL_change_65 (by decide) (fun c_16 => ?_) (fun c_16 => ?_)
      · have c_16 : z ≤ q := (nI_leI (a := z) (b := q) (by omega) (by omega)).mp c_16
        omega
      · have c_16 : ¬ (z ≤ q) := fun h9 => c_16 ((nI_leI (a := z) (b := q) (by omega) (by omega)).mpr h9)
        refine lv_iload hx hb dL_change_68 (lv_at hl 5 rfl) ?_
        refine lv_goto (tgt := 74) hx hb dL_change_70 (by decide) ?_
        refine lv_istore (lv' := [(10, .int (nI z)), (9, .int (nI q)), (8, .int 0), (7, .int (nI nw)), (6, .int (S 7 2)), (5, .int 0), (4, .int (nI z)), (3, .int (nI q)), (0, .ref x0), (1, .int x), (2, .int y)]) hx hb dL_change_74 hl (by decide) rfl (fun ls hl => ?_)
        refine lv_iload_n hx hb dL_change_76 rfl (lv_at hl 9 rfl) ?_
        refine lv_bipush (v := 16) hx hb dL_change_77 (by decide) ?_
        have hPc : va_P D vwCl ([]) H := hP.sub [] rfl
        have hDc : va_D A ([]) := hD.sub [] (by decide +kernel) rfl
        refine cl_i0 (va_runS (As := [.int x, .int 16]) (rest := []) ⟨hx, hb, hml, hown, hts⟩ (c_L_low_16 l D k x H.size) (va_cwS 2 hts gL_change_L_low rfl rfl rfl (by decide +kernel) ⟨Nat.le_of_ble_eq_true rfl, Nat.le_of_ble_eq_true rfl⟩) ⟨pr_blind, pr_at hN hPc hK hDc⟩ rfl rfl hl.1 rfl (lv_room (Nat.le_of_ble_eq_true rfl)) dL_change_79 ⟨Nat.le_of_ble_eq_true rfl, Nat.le_of_ble_eq_true rfl⟩) hP hD hS hA [] rfl (fun H locs hP hD hS => ?_)
        clear hPc hDc
        refine tp_e (y := 9) (congrArg nI hx16) ?_
        refine lv_tableIn (off := 214) (tgt := 296) hx hb dL_change_82 (by decide) (by decide) rfl (by decide) ?_
        refine lv_aload_n hx hb dL_change_296 rfl (lv_at hl 8 rfl) ?_
        refine lv_iload_n hx hb dL_change_297 rfl (lv_at hl 7 rfl) ?_
        refine lv_iconst (v := 2) hx hb dL_change_298 (by decide) ?_
        obtain ⟨X_17, hO_18, hM9⟩ := o_pieceOf_2 (l := l) (D := D) hSR hO_4 (q := q) (by omega)
        refine lo_I (n := 2) (As := [.int (nI q), .int 2]) (rest := []) hx hb hml hown hts hK hN hM9 (OX.at0 hO_4) gL_change_X4_pieceOf rfl (by decide +kernel) (by decide) dL_change_299 rfl rfl (Nat.le_of_ble_eq_true rfl) hl.1 (Nat.le_of_ble_eq_true rfl) (Nat.le_of_ble_eq_true rfl) (Nat.le_of_ble_eq_true rfl) (Nat.le_of_ble_eq_true rfl) hP hD hS hA (fun H locs hP hD hS => ?_)
        clear hM9
        refine lv_istore (lv' := [(5, .int (S 1 q)), (10, .int (nI z)), (9, .int (nI q)), (8, .int 0), (7, .int (nI nw)), (6, .int (S 7 2)), (4, .int (nI z)), (3, .int (nI q)), (0, .ref x0), (1, .int x), (2, .int y)]) hx hb dL_change_302 hl (by decide) rfl (fun ls hl => ?_)
        refine lv_aload_n hx hb dL_change_304 rfl (lv_at hl 8 rfl) ?_
        refine lv_iload_n hx hb dL_change_305 rfl (lv_at hl 7 rfl) ?_
        refine lv_iload_n hx hb dL_change_306 rfl (lv_at hl 10 rfl) ?_
        refine lv_iconst (v := 4) hx hb dL_change_307 (by decide) ?_
        refine lv_ishr hx hb dL_change_308 ?_
        refine lv_iconst (v := 3) hx hb dL_change_309 (by decide) ?_
        refine lv_iand hx hb dL_change_310 ?_
        refine tp_e (y := (nI ((y >>> (4 &&& 31)).toBitVec.toNat % 4))) (an3 _) ?_
        obtain ⟨X_19, hO_20, hM9⟩ := o_mark (l := l) (D := D) hO_18 hns (q := q) (w := ((y >>> (4 &&& 31)).toBitVec.toNat % 4)) (by omega) (by omega)
        refine lo_I (n := 2) (As := [.int (nI q), .int (nI ((y >>> (4 &&& 31)).toBitVec.toNat % 4))]) (rest := []) hx hb hml hown hts hK hN hM9 (OX.at0 hO_18) gL_change_X4_mark rfl (by decide +kernel) (by decide) dL_change_311 rfl rfl (Nat.le_of_ble_eq_true rfl) hl.1 (Nat.le_of_ble_eq_true rfl) (Nat.le_of_ble_eq_true rfl) (Nat.le_of_ble_eq_true rfl) (Nat.le_of_ble_eq_true rfl) hP hD hS hA (fun H locs hP hD hS => ?_)
        clear hM9
        have hns2 : (svN ns) ≤ 6 := (svN_le hns).1
        have hL2 : LI (anS (gM S q (nI ((y >>> (4 &&& 31)).toBitVec.toNat % 4)))) := LI_mark hL (by omega) (by omega)
        obtain ⟨f2, hSR2, -, -⟩ := id hL2
        refine lv_iload hx hb dL_change_314 (lv_at hl 0 rfl) ?_
        refine lv_icmp_ne (tgt := 337) hx hb dL_change_316 (by decide) (fun c_21 => ?_) (fun c_21 => ?_)
        · exact absurd (rfl) c_21
        · refine lv_aload_n hx hb dL_change_319 rfl (lv_at hl 8 rfl) ?_
          refine lv_iload_n hx hb dL_change_320 rfl (lv_at hl 7 rfl) ?_
          refine lv_iconst (v := 2) hx hb dL_change_321 (by decide) ?_
          obtain ⟨X_22, hO_23, hM9⟩ := o_pieceOf_2 (l := l) (D := D) hSR2 hO_20 (q := q) (by omega)
          refine lo_I (n := 2) (As := [.int (nI q), .int 2]) (rest := []) hx hb hml hown hts hK hN hM9 (OX.at0 hO_20) gL_change_X4_pieceOf rfl (by decide +kernel) (by decide) dL_change_322 rfl rfl (Nat.le_of_ble_eq_true rfl) hl.1 (Nat.le_of_ble_eq_true rfl) (Nat.le_of_ble_eq_true rfl) (Nat.le_of_ble_eq_true rfl) (Nat.le_of_ble_eq_true rfl) hP hD hS hA (fun H locs hP hD hS => ?_)
          clear hM9
          refine lv_iload_n hx hb dL_change_325 rfl (lv_at hl 10 rfl) ?_
          refine lv_iconst (v := 4) hx hb dL_change_326 (by decide) ?_
          refine lv_ishr hx hb dL_change_327 ?_
          refine lv_iconst (v := 3) hx hb dL_change_328 (by decide) ?_
          refine lv_iand hx hb dL_change_329 ?_
          refine tp_e (y := (nI ((y >>> (4 &&& 31)).toBitVec.toNat % 4))) (an3 _) ?_
          refine lv_icmp_ne (tgt := 337) hx hb dL_change_330 (by decide) (fun c_24 => ?_) (fun c_24 => ?_)
          · exact absurd (upd_e _ _ _) c_24
          · refine lv_iconst (v := 1) hx hb dL_change_333 (by decide) ?_
            refine lv_goto (tgt := 338) hx hb dL_change_334 (by decide) ?_
            subst hQ
            exact rt_zo hx hb hr hlocks hS dL_change_338 (va_PR hP) (va_DR hD) rfl (⟨rfl, _, _, _, hns2, hL2, hO_23⟩)
  · have c_5 : q = z := (nI_eq (a := q) (b := z) (by omega) (by omega)).mp c_5
    refine lv_iconst (v := 1) hx hb dL_change_41 (by decide) ?_
    refine lv_goto (tgt := 46) hx hb dL_change_42 (by decide) ?_
    refine lv_istore (lv' := [(8, .int 1), (7, .int (nI nw)), (6, .int (S 7 2)), (5, .int 0), (4, .int (nI z)), (3, .int (nI q)), (0, .ref x0), (1, .int x), (2, .int y)]) hx hb dL_change_46 hl (by decide) rfl (fun ls hl => ?_)
    refine lv_iload_n hx hb dL_change_48 rfl (lv_at hl 5 rfl) ?_
    refine lv_iload hx hb dL_change_49 (lv_at hl 4 rfl) ?_
    refine lv_icmp_ge (tgt := 58) hx hb dL_change_51 (by decide) (fun c_25 => ?_) (fun c_25 => ?_)
    · have c_25 : z ≤ q := (nI_leI (a := z) (b := q) (by omega) (by omega)).mp c_25
      refine lv_iload hx hb dL_change_58 (lv_at hl 4 rfl) ?_
      refine lv_istore (lv' := [(9, .int (nI z)), (8, .int 1), (7, .int (nI nw)), (6, .int (S 7 2)), (5, .int 0), (4, .int (nI z)), (3, .int (nI q)), (0, .ref x0), (1, .int x), (2, .int y)]) hx hb dL_change_60 hl (by decide) rfl (fun ls hl => ?_)
      refine lv_iload_n hx hb dL_change_62 rfl (lv_at hl 6 rfl) ?_
      refine lv_iload hx hb dL_change_63 (lv_at hl 5 rfl) ?_
      refine lv_icmp_ge (tgt := 73) hx hb dL_change_65 (by decide) (fun c_26 => ?_) (fun c_26 => ?_)
      · have c_26 : z ≤ q := (nI_leI (a := z) (b := q) (by omega) (by omega)).mp c_26
        refine lv_iload_n hx hb dL_change_73 rfl (lv_at hl 6 rfl) ?_
        refine lv_istore (lv' := [(10, .int (nI q)), (9, .int (nI z)), (8, .int 1), (7, .int (nI nw)), (6, .int (S 7 2)), (5, .int 0), (4, .int (nI z)), (3, .int (nI q)), (0, .ref x0), (1, .int x), (2, .int y)]) hx hb dL_change_74 hl (by decide) rfl (fun ls hl => ?_)
        refine lv_iload_n hx hb dL_change_76 rfl (lv_at hl 9 rfl) ?_
        refine lv_bipush (v := 16) hx hb dL_change_77 (by decide) ?_
        have hPc : va_P D vwCl ([]) H := hP.sub [] rfl
        have hDc : va_D A ([]) := hD.sub [] (by decide +kernel) rfl
        refine cl_i0 (va_runS (As := [.int x, .int 16]) (rest := []) ⟨hx, hb, hml, hown, hts⟩ (c_L_low_16 l D k x H.size) (va_cwS 2 hts gL_change_L_low rfl rfl rfl (by decide +kernel) ⟨Nat.le_of_ble_eq_true rfl, Nat.le_of_ble_eq_true rfl⟩) ⟨pr_blind, pr_at hN hPc hK hDc⟩ rfl rfl hl.1 rfl (lv_room (Nat.le_of_ble_eq_true rfl)) dL_change_79 ⟨Nat.le_of_ble_eq_true rfl, Nat.le_of_ble_eq_true rfl⟩) hP hD hS hA [] rfl (fun H locs hP hD hS => ?_)
        clear hPc hDc
        refine tp_e (y := 9) (congrArg nI hx16) ?_
        refine lv_tableIn (off := 214) (tgt := 296) hx hb dL_change_82 (by decide) (by decide) rfl (by decide) ?_
        refine lv_aload_n hx hb dL_change_296 rfl (lv_at hl 8 rfl) ?_
        refine lv_iload_n hx hb dL_change_297 rfl (lv_at hl 7 rfl) ?_
        refine lv_iconst (v := 2) hx hb dL_change_298 (by decide) ?_
        obtain ⟨X_27, hO_28, hM9⟩ := o_pieceOf_2 (l := l) (D := D) hSR hO_4 (q := q) (by omega)
        refine lo_I (n := 2) (As := [.int (nI q), .int 2]) (rest := []) hx hb hml hown hts hK hN hM9 (OX.at0 hO_4) gL_change_X4_pieceOf rfl (by decide +kernel) (by decide) dL_change_299 rfl rfl (Nat.le_of_ble_eq_true rfl) hl.1 (Nat.le_of_ble_eq_true rfl) (Nat.le_of_ble_eq_true rfl) (Nat.le_of_ble_eq_true rfl) (Nat.le_of_ble_eq_true rfl) hP hD hS hA (fun H locs hP hD hS => ?_)
        clear hM9
        refine lv_istore (lv' := [(5, .int (S 1 q)), (10, .int (nI q)), (9, .int (nI z)), (8, .int 1), (7, .int (nI nw)), (6, .int (S 7 2)), (4, .int (nI z)), (3, .int (nI q)), (0, .ref x0), (1, .int x), (2, .int y)]) hx hb dL_change_302 hl (by decide) rfl (fun ls hl => ?_)
        refine lv_aload_n hx hb dL_change_304 rfl (lv_at hl 8 rfl) ?_
        refine lv_iload_n hx hb dL_change_305 rfl (lv_at hl 7 rfl) ?_
        refine lv_iload_n hx hb dL_change_306 rfl (lv_at hl 10 rfl) ?_
        refine lv_iconst (v := 4) hx hb dL_change_307 (by decide) ?_
        refine lv_ishr hx hb dL_change_308 ?_
        refine lv_iconst (v := 3) hx hb dL_change_309 (by decide) ?_
        refine lv_iand hx hb dL_change_310 ?_
        refine tp_e (y := (nI ((y >>> (4 &&& 31)).toBitVec.toNat % 4))) (an3 _) ?_
        obtain ⟨X_29, hO_30, hM9⟩ := o_mark (l := l) (D := D) hO_28 hns (q := q) (w := ((y >>> (4 &&& 31)).toBitVec.toNat % 4)) (by omega) (by omega)
        refine lo_I (n := 2) (As := [.int (nI q), .int (nI ((y >>> (4 &&& 31)).toBitVec.toNat % 4))]) (rest := []) hx hb hml hown hts hK hN hM9 (OX.at0 hO_28) gL_change_X4_mark rfl (by decide +kernel) (by decide) dL_change_311 rfl rfl (Nat.le_of_ble_eq_true rfl) hl.1 (Nat.le_of_ble_eq_true rfl) (Nat.le_of_ble_eq_true rfl) (Nat.le_of_ble_eq_true rfl) (Nat.le_of_ble_eq_true rfl) hP hD hS hA (fun H locs hP hD hS => ?_)
        clear hM9
        have hns2 : (svN ns) ≤ 6 := (svN_le hns).1
        have hL2 : LI (anS (gM S q (nI ((y >>> (4 &&& 31)).toBitVec.toNat % 4)))) := LI_mark hL (by omega) (by omega)
        obtain ⟨f2, hSR2, -, -⟩ := id hL2
        refine lv_iload hx hb dL_change_314 (lv_at hl 0 rfl) ?_
        refine lv_icmp_ne (tgt := 337) hx hb dL_change_316 (by decide) (fun c_31 => ?_) (fun c_31 => ?_)
        · exact absurd (rfl) c_31
        · refine lv_aload_n hx hb dL_change_319 rfl (lv_at hl 8 rfl) ?_
          refine lv_iload_n hx hb dL_change_320 rfl (lv_at hl 7 rfl) ?_
          refine lv_iconst (v := 2) hx hb dL_change_321 (by decide) ?_
          obtain ⟨X_32, hO_33, hM9⟩ := o_pieceOf_2 (l := l) (D := D) hSR2 hO_30 (q := q) (by omega)
          refine lo_I (n := 2) (As := [.int (nI q), .int 2]) (rest := []) hx hb hml hown hts hK hN hM9 (OX.at0 hO_30) gL_change_X4_pieceOf rfl (by decide +kernel) (by decide) dL_change_322 rfl rfl (Nat.le_of_ble_eq_true rfl) hl.1 (Nat.le_of_ble_eq_true rfl) (Nat.le_of_ble_eq_true rfl) (Nat.le_of_ble_eq_true rfl) (Nat.le_of_ble_eq_true rfl) hP hD hS hA (fun H locs hP hD hS => ?_)
          clear hM9
          refine lv_iload_n hx hb dL_change_325 rfl (lv_at hl 10 rfl) ?_
          refine lv_iconst (v := 4) hx hb dL_change_326 (by decide) ?_
          refine lv_ishr hx hb dL_change_327 ?_
          refine lv_iconst (v := 3) hx hb dL_change_328 (by decide) ?_
          refine lv_iand hx hb dL_change_329 ?_
          refine tp_e (y := (nI ((y >>> (4 &&& 31)).toBitVec.toNat % 4))) (an3 _) ?_
          refine lv_icmp_ne (tgt := 337) hx hb dL_change_330 (by decide) (fun c_34 => ?_) (fun c_34 => ?_)
          · exact absurd (upd_e _ _ _) c_34
          · refine lv_iconst (v := 1) hx hb dL_change_333 (by decide) ?_
            refine lv_goto (tgt := 338) hx hb dL_change_334 (by decide) ?_
            subst hQ
            exact rt_zo hx hb hr hlocks hS dL_change_338 (va_PR hP) (va_DR hD) rfl (⟨rfl, _, _, _, hns2, hL2, hO_33⟩)
      · have c_26 : ¬ (z ≤ q) := fun h9 => c_26 ((nI_leI (a := z) (b := q) (by omega) (by omega)).mpr h9)
        omega
    · have c_25 : ¬ (z ≤ q) := fun h9 => c_25 ((nI_leI (a := z) (b := q) (by omega) (by omega)).mpr h9)
      exact absurd c_25 (not_not_intro (by omega))

set_option maxHeartbeats 4000000 in
set_option maxRecDepth 100000 in
theorem c_L_change_10 (l : Launch) (D : va_G) (k : Nat → ClassId) (x0 ns : Nat) (S : Nat → Nat → Int32) (Z : Nat → Nat → Nat → Int32) (Y0 : Nat → Nat → Int32) (k0 : Int32) (X : va_W) (x y : Int32) (hns : ns ≤ 6) (hL : LI S) (hO : OX k x0 ns S Z Y0 k0 X) (hx16 : lowN x 16 = 10) : MO l yL_change wsL_change ({ frames := 31, cells := 0, slots := 0, locals := 839 }) D k [.ref x0, .int x, .int y] X (fun r X2 => r = 1 ∧ ∃ ns2 S2 Z2, ns2 ≤ 6 ∧ LI S2 ∧ OX k x0 ns2 S2 Z2 Y0 k0 X2) := by
  intro sz
  refine Met.ofW (cc := cL_change) (maxL := 16) (ret := (some .boolean)) (by decide) rfl ?_
  intro p e s m args below meth c s₁ B hml hv
  obtain ⟨rfl, hN, hsz, hP, hK, hD0⟩ := hv
  have hx := B.exec
  have hb := B.bytes
  have hr := B.returns
  have hts := atoms_spec (ws := wsL_change) B.pre
  have hown : s.vm.findClass RL = some m.cls := findClass_of_methodNamed B.named
  have hlocks := B.notSynchronized
  subst hsz
  have hD := hD0.self (sz := s.heap.size)
  generalize hAe : va_A X s.heap.size = A at hD ⊢
  have hA : ∀ q : Nat, s.heap.size ≤ q → A q := fun q h => by rw [← hAe]; exact Or.inr h
  have hS : va_S A s.heap s.heap [] := va_S.rf
  have hl := lv_entry ([.ref x0, .int x, .int y]) (n := 16) (Nat.le_of_ble_eq_true rfl)
  rw [lg_entry_eq]
  generalize (lg_sl ([.ref x0, .int x, .int y]) ++ List.replicate (16 - (lg_sl ([.ref x0, .int x, .int y])).length) Slot.unset).toArray = ls at hl ⊢
  have hl : lv_has ls 16 [(0, .ref x0), (1, .int x), (2, .int y)] := hl
  obtain ⟨H, hHe⟩ : ∃ H, H = s.heap := ⟨_, rfl⟩
  have hP : va_P D vwCl X H := by rw [hHe]; exact hP
  have hS : va_S A s.heap H [] := by rw [hHe]; exact hS
  rw [← hHe]
  refine absQ (fun Q hQ => ?_)
  obtain ⟨f, hSR, hBR, hEX⟩ := id hL
  obtain ⟨nw, hnw⟩ := hSR.2.2.2
  have hn : S 7 0 = nI nw := hnw.2.1
  have hn2 : nw ≤ 12 := hnw.1
  have hcv := low_lt (y >>> (4 &&& 31)) (n := 200) (by decide)
  have hP : va_P D vwCl ([] ++ (X)) H := hP
  have hD : va_D A ([] ++ (X)) := hD
  refine lv_iload_n hx hb dL_change_0 rfl (lv_at hl 2 rfl) ?_
  refine lv_bipush (v := 9) hx hb dL_change_1 (by decide) ?_
  have hPc : va_P D vwCl ([]) H := hP.sub [] rfl
  have hDc : va_D A ([]) := hD.sub [] (by decide +kernel) rfl
  refine cl_i0 (va_runS (As := [.int y, .int 9]) (rest := []) ⟨hx, hb, hml, hown, hts⟩ (c_L_low_9 l D k y H.size) (va_cwS 2 hts gL_change_L_low rfl rfl rfl (by decide +kernel) ⟨Nat.le_of_ble_eq_true rfl, Nat.le_of_ble_eq_true rfl⟩) ⟨pr_blind, pr_at hN hPc hK hDc⟩ rfl rfl hl.1 rfl (lv_room (Nat.le_of_ble_eq_true rfl)) dL_change_3 ⟨Nat.le_of_ble_eq_true rfl, Nat.le_of_ble_eq_true rfl⟩) hP hD hS hA [] rfl (fun H locs hP hD hS => ?_)
  clear hPc hDc
  obtain ⟨q, hqe⟩ : ∃ q, q = lowN y 9 := ⟨_, rfl⟩
  have hq9 : q < 9 := by rw [hqe]; exact low_lt _ (by decide)
  refine tp_e (y := (nI q)) (by rw [hqe]) ?_
  refine lv_istore_n (lv' := [(3, .int (nI q)), (0, .ref x0), (1, .int x), (2, .int y)]) hx hb dL_change_6 rfl hl (by decide) rfl (fun ls hl => ?_)
  refine lv_iload_n hx hb dL_change_7 rfl (lv_at hl 3 rfl) ?_
  refine lv_iconst (v := 4) hx hb dL_change_8 (by decide) ?_
  refine lv_ishr hx hb dL_change_9 ?_
  refine lv_bipush (v := 9) hx hb dL_change_10 (by decide) ?_
  have hPc : va_P D vwCl ([]) H := hP.sub [] rfl
  have hDc : va_D A ([]) := hD.sub [] (by decide +kernel) rfl
  refine cl_i0 (va_runS (As := [.int (y >>> (4 &&& 31)), .int 9]) (rest := []) ⟨hx, hb, hml, hown, hts⟩ (c_L_low_9 l D k (y >>> (4 &&& 31)) H.size) (va_cwS 2 hts gL_change_L_low rfl rfl rfl (by decide +kernel) ⟨Nat.le_of_ble_eq_true rfl, Nat.le_of_ble_eq_true rfl⟩) ⟨pr_blind, pr_at hN hPc hK hDc⟩ rfl rfl hl.1 rfl (lv_room (Nat.le_of_ble_eq_true rfl)) dL_change_12 ⟨Nat.le_of_ble_eq_true rfl, Nat.le_of_ble_eq_true rfl⟩) hP hD hS hA [] rfl (fun H locs hP hD hS => ?_)
  clear hPc hDc
  obtain ⟨z, hze⟩ : ∃ z, z = lowN (y >>> (4 &&& 31)) 9 := ⟨_, rfl⟩
  have hz9 : z < 9 := by rw [hze]; exact low_lt _ (by decide)
  refine tp_e (y := (nI z)) (by rw [hze]) ?_
  refine lv_istore (lv' := [(4, .int (nI z)), (3, .int (nI q)), (0, .ref x0), (1, .int x), (2, .int y)]) hx hb dL_change_15 hl (by decide) rfl (fun ls hl => ?_)
  refine lv_iconst (v := 0) hx hb dL_change_17 (by decide) ?_
  refine lv_istore (lv' := [(5, .int 0), (4, .int (nI z)), (3, .int (nI q)), (0, .ref x0), (1, .int x), (2, .int y)]) hx hb dL_change_18 hl (by decide) rfl (fun ls hl => ?_)
  refine lv_aload_n hx hb dL_change_20 rfl (lv_at hl 3 rfl) ?_
  refine lv_bipush (v := 10) hx hb dL_change_21 (by decide) ?_
  obtain ⟨X_1, hO_2, hM9⟩ := o_count_10 (l := l) (D := D) hSR hO
  refine lo_I (n := 1) (As := [.int 10]) (rest := []) hx hb hml hown hts hK hN hM9 (OX.at0 hO) gL_change_X4_count rfl (by decide +kernel) (by decide) dL_change_23 rfl rfl (Nat.le_of_ble_eq_true rfl) hl.1 (Nat.le_of_ble_eq_true rfl) (Nat.le_of_ble_eq_true rfl) (Nat.le_of_ble_eq_true rfl) (Nat.le_of_ble_eq_true rfl) hP hD hS hA (fun H locs hP hD hS => ?_)
  clear hM9
  refine lv_istore (lv' := [(6, .int (S 7 2)), (5, .int 0), (4, .int (nI z)), (3, .int (nI q)), (0, .ref x0), (1, .int x), (2, .int y)]) hx hb dL_change_26 hl (by decide) rfl (fun ls hl => ?_)
  refine lv_aload_n hx hb dL_change_28 rfl (lv_at hl 4 rfl) ?_
  refine lv_iconst (v := 3) hx hb dL_change_29 (by decide) ?_
  obtain ⟨X_3, hO_4, hM9⟩ := o_count_3 (l := l) (D := D) hSR hO_2
  refine lo_I (n := 1) (As := [.int 3]) (rest := []) hx hb hml hown hts hK hN hM9 (OX.at0 hO_2) gL_change_X4_count rfl (by decide +kernel) (by decide) dL_change_30 rfl rfl (Nat.le_of_ble_eq_true rfl) hl.1 (Nat.le_of_ble_eq_true rfl) (Nat.le_of_ble_eq_true rfl) (Nat.le_of_ble_eq_true rfl) (Nat.le_of_ble_eq_true rfl) hP hD hS hA (fun H locs hP hD hS => ?_)
  clear hM9
  refine tp_e (y := (nI nw)) hn ?_
  refine lv_istore (lv' := [(7, .int (nI nw)), (6, .int (S 7 2)), (5, .int 0), (4, .int (nI z)), (3, .int (nI q)), (0, .ref x0), (1, .int x), (2, .int y)]) hx hb dL_change_33 hl (by decide) rfl (fun ls hl => ?_)
  refine lv_iload_n hx hb dL_change_35 rfl (lv_at hl 4 rfl) ?_
  refine lv_iload hx hb dL_change_36 (lv_at hl 3 rfl) ?_
  refine lv_icmp_ne (tgt := 45) hx hb dL_change_38 (by decide) (fun c_5 => ?_) (fun c_5 => ?_)
  · have c_5 : ¬ (q = z) := fun h9 => c_5 ((nI_eq (a := q) (b := z) (by omega) (by omega)).mpr h9)
    refine lv_iconst (v := 0) hx hb dL_change_45 (by decide) ?_
    refine lv_istore (lv' := [(8, .int 0), (7, .int (nI nw)), (6, .int (S 7 2)), (5, .int 0), (4, .int (nI z)), (3, .int (nI q)), (0, .ref x0), (1, .int x), (2, .int y)]) hx hb dL_change_46 hl (by decide) rfl (fun ls hl => ?_)
    refine lv_iload_n hx hb dL_change_48 rfl (lv_at hl 5 rfl) ?_
    refine lv_iload hx hb dL_change_49 (lv_at hl 4 rfl) ?_
    refine lv_icmp_ge (tgt := 58) hx hb dL_change_51 (by decide) (fun c_6 => ?_) (fun c_6 => ?_)
    · have c_6 : z ≤ q := (nI_leI (a := z) (b := q) (by omega) (by omega)).mp c_6
      refine lv_iload hx hb dL_change_58 (lv_at hl 4 rfl) ?_
      refine lv_istore (lv' := [(9, .int (nI z)), (8, .int 0), (7, .int (nI nw)), (6, .int (S 7 2)), (5, .int 0), (4, .int (nI z)), (3, .int (nI q)), (0, .ref x0), (1, .int x), (2, .int y)]) hx hb dL_change_60 hl (by decide) rfl (fun ls hl => ?_)
      refine lv_iload_n hx hb dL_change_62 rfl (lv_at hl 6 rfl) ?_
      refine lv_iload hx hb dL_change_63 (lv_at hl 5 rfl) ?_
      refine lv_icmp_ge (tgt := 73) hx hb dL_change_65 (by decide) (fun c_7 => ?_) (fun c_7 => ?_)
      · have c_7 : z ≤ q := (nI_leI (a := z) (b := q) (by omega) (by omega)).mp c_7
        refine lv_iload_n hx hb dL_change_73 rfl (lv_at hl 6 rfl) ?_
        refine lv_istore (lv' := [(10, .int (nI q)), (9, .int (nI z)), (8, .int 0), (7, .int (nI nw)), (6, .int (S 7 2)), (5, .int 0), (4, .int (nI z)), (3, .int (nI q)), (0, .ref x0), (1, .int x), (2, .int y)]) hx hb dL_change_74 hl (by decide) rfl (fun ls hl => ?_)
        refine lv_iload_n hx hb dL_change_76 rfl (lv_at hl 9 rfl) ?_
        refine lv_bipush (v := 16) hx hb dL_change_77 (by decide) ?_
        have hPc : va_P D vwCl ([]) H := hP.sub [] rfl
        have hDc : va_D A ([]) := hD.sub [] (by decide +kernel) rfl
        refine cl_i0 (va_runS (As := [.int x, .int 16]) (rest := []) ⟨hx, hb, hml, hown, hts⟩ (c_L_low_16 l D k x H.size) (va_cwS 2 hts gL_change_L_low rfl rfl rfl (by decide +kernel) ⟨Nat.le_of_ble_eq_true rfl, Nat.le_of_ble_eq_true rfl⟩) ⟨pr_blind, pr_at hN hPc hK hDc⟩ rfl rfl hl.1 rfl (lv_room (Nat.le_of_ble_eq_true rfl)) dL_change_79 ⟨Nat.le_of_ble_eq_true rfl, Nat.le_of_ble_eq_true rfl⟩) hP hD hS hA [] rfl (fun H locs hP hD hS => ?_)
        clear hPc hDc
        refine tp_e (y := 10) (congrArg nI hx16) ?_
        refine lv_tableIn (off := 257) (tgt := 339) hx hb dL_change_82 (by decide) (by decide) rfl (by decide) ?_
        refine lv_aload_n hx hb dL_change_339 rfl (lv_at hl 8 rfl) ?_
        refine lv_iload_n hx hb dL_change_340 rfl (lv_at hl 7 rfl) ?_
        refine lv_bipush (v := 7) hx hb dL_change_341 (by decide) ?_
        obtain ⟨X_8, hO_9, hM9⟩ := o_pieceOf_7 (l := l) (D := D) hSR hO_4 (q := q) (by omega)
        refine lo_I (n := 2) (As := [.int (nI q), .int 7]) (rest := []) hx hb hml hown hts hK hN hM9 (OX.at0 hO_4) gL_change_X4_pieceOf rfl (by decide +kernel) (by decide) dL_change_343 rfl rfl (Nat.le_of_ble_eq_true rfl) hl.1 (Nat.le_of_ble_eq_true rfl) (Nat.le_of_ble_eq_true rfl) (Nat.le_of_ble_eq_true rfl) (Nat.le_of_ble_eq_true rfl) hP hD hS hA (fun H locs hP hD hS => ?_)
        clear hM9
        refine lv_iload hx hb dL_change_346 (lv_at hl 6 rfl) ?_
        refine lv_ishr hx hb dL_change_348 ?_
        refine lv_iconst (v := 1) hx hb dL_change_349 (by decide) ?_
        refine lv_iand hx hb dL_change_350 ?_
        refine lv_istore (lv' := [(5, .int (((S 3 q) >>> ((nI z) &&& 31)) &&& 1)), (10, .int (nI q)), (9, .int (nI z)), (8, .int 0), (7, .int (nI nw)), (6, .int (S 7 2)), (4, .int (nI z)), (3, .int (nI q)), (0, .ref x0), (1, .int x), (2, .int y)]) hx hb dL_change_351 hl (by decide) rfl (fun ls hl => ?_)
        refine lv_iload hx hb dL_change_353 (lv_at hl 3 rfl) ?_
        refine lv_if_ne (tgt := 391) hx hb dL_change_355 (by decide) (fun c_10 => ?_) (fun c_10 => ?_)
        · exact absurd c_10 (by decide)
        · refine lv_aload_n hx hb dL_change_358 rfl (lv_at hl 8 rfl) ?_
          refine lv_iload_n hx hb dL_change_359 rfl (lv_at hl 7 rfl) ?_
          refine lv_iload hx hb dL_change_360 (lv_at hl 6 rfl) ?_
          obtain ⟨X_11, hO_12, hM9⟩ := o_bar (l := l) (D := D) hO_9 hns (q := q) (z := z) (by omega) (by omega) (by omega)
          refine lo_I (n := 2) (As := [.int (nI q), .int (nI z)]) (rest := []) hx hb hml hown hts hK hN hM9 (OX.at0 hO_9) gL_change_X4_bar rfl (by decide +kernel) (by decide) dL_change_362 rfl rfl (Nat.le_of_ble_eq_true rfl) hl.1 (Nat.le_of_ble_eq_true rfl) (Nat.le_of_ble_eq_true rfl) (Nat.le_of_ble_eq_true rfl) (Nat.le_of_ble_eq_true rfl) hP hD hS hA (fun H locs hP hD hS => ?_)
          clear hM9
          have hns2 : (svN ns) ≤ 6 := (svN_le hns).1
          have hL2 : LI (anS (gB (gB S q (S 3 q ^^^ (1 <<< (nI z &&& 31)))) z (upd (S 3) q (S 3 q ^^^ (1 <<< (nI z &&& 31))) z ^^^ (1 <<< (nI q &&& 31))))) := LI_bar hL (by omega) (by omega) (by omega)
          obtain ⟨f2, hSR2, -, -⟩ := id hL2
          refine lv_iconst (v := 1) hx hb dL_change_365 (by decide) ?_
          refine lv_iload hx hb dL_change_366 (lv_at hl 0 rfl) ?_
          refine lv_isub hx hb dL_change_368 ?_
          refine lv_icmp_ne (tgt := 395) hx hb dL_change_369 (by decide) (fun c_13 => ?_) (fun c_13 => ?_)
          · exact absurd ((bar_ans hL (by omega) (by omega) (by omega)).1) c_13
          · refine lv_aload_n hx hb dL_change_372 rfl (lv_at hl 8 rfl) ?_
            refine lv_iload hx hb dL_change_373 (lv_at hl 6 rfl) ?_
            refine lv_bipush (v := 7) hx hb dL_change_375 (by decide) ?_
            obtain ⟨X_14, hO_15, hM9⟩ := o_pieceOf_7 (l := l) (D := D) hSR2 hO_12 (q := z) (by omega)
            refine lo_I (n := 2) (As := [.int (nI z), .int 7]) (rest := []) hx hb hml hown hts hK hN hM9 (OX.at0 hO_12) gL_change_X4_pieceOf rfl (by decide +kernel) (by decide) dL_change_377 rfl rfl (Nat.le_of_ble_eq_true rfl) hl.1 (Nat.le_of_ble_eq_true rfl) (Nat.le_of_ble_eq_true rfl) (Nat.le_of_ble_eq_true rfl) (Nat.le_of_ble_eq_true rfl) hP hD hS hA (fun H locs hP hD hS => ?_)
            clear hM9
            refine lv_iload_n hx hb dL_change_380 rfl (lv_at hl 7 rfl) ?_
            refine lv_ishr hx hb dL_change_381 ?_
            refine lv_iconst (v := 1) hx hb dL_change_382 (by decide) ?_
            refine lv_iand hx hb dL_change_383 ?_
            refine lv_iconst (v := 1) hx hb dL_change_384 (by decide) ?_
            refine lv_iload hx hb dL_change_385 (lv_at hl 0 rfl) ?_
            refine lv_isub hx hb dL_change_387 ?_
            refine lv_icmp_ne (tgt := 395) hx hb dL_change_388 (by decide) (fun c_16 => ?_) (fun c_16 => ?_)
            · exact absurd ((bar_ans hL (by omega) (by omega) (by omega)).2) c_16
            · refine lv_iconst (v := 1) hx hb dL_change_391 (by decide) ?_
              refine lv_goto (tgt := 396) hx hb dL_change_392 (by decide) ?_
              subst hQ
              exact rt_zo hx hb hr hlocks hS dL_change_396 (va_PR hP) (va_DR hD) rfl (⟨rfl, _, _, _, hns2, hL2, hO_15⟩)
      · have c_7 : ¬ (z ≤ q) := fun h9 => c_7 ((nI_leI (a := z) (b := q) (by omega) (by omega)).mpr h9)
        omega
    · have c_6 : ¬ (z ≤ q) := fun h9 => c_6 ((nI_leI (a := z) (b := q) (by omega) (by omega)).mpr h9)
      refine lv_iload_n hx hb dL_change_54 rfl (lv_at hl 5 rfl) ?_
      refine lv_goto (tgt := 60) hx hb dL_change_55 (by decide) ?_
      refine lv_istore (lv' := [(9, .int (nI q)), (8, .int 0), (7, .int (nI nw)), (6, .int (S 7 2)), (5, .int 0), (4, .int (nI z)), (3, .int (nI q)), (0, .ref x0), (1, .int x), (2, .int y)]) hx hb dL_change_60 hl (by decide) rfl (fun ls hl => ?_)
      refine lv_iload_n hx hb dL_change_62 rfl (lv_at hl 6 rfl) ?_
      refine lv_iload hx hb dL_change_63 (lv_at hl 5 rfl) ?_
      refine lv_icmp_ge (tgt := 73) hx hb dL_change_65 (by decide) (fun c_17 => ?_) (fun c_17 => ?_)
      · have c_17 : z ≤ q := (nI_leI (a := z) (b := q) (by omega) (by omega)).mp c_17
        omega
      · have c_17 : ¬ (z ≤ q) := fun h9 => c_17 ((nI_leI (a := z) (b := q) (by omega) (by omega)).mpr h9)
        refine lv_iload hx hb dL_change_68 (lv_at hl 5 rfl) ?_
        refine lv_goto (tgt := 74) hx hb dL_change_70 (by decide) ?_
        refine lv_istore (lv' := [(10, .int (nI z)), (9, .int (nI q)), (8, .int 0), (7, .int (nI nw)), (6, .int (S 7 2)), (5, .int 0), (4, .int (nI z)), (3, .int (nI q)), (0, .ref x0), (1, .int x), (2, .int y)]) hx hb dL_change_74 hl (by decide) rfl (fun ls hl => ?_)
        refine lv_iload_n hx hb dL_change_76 rfl (lv_at hl 9 rfl) ?_
        refine lv_bipush (v := 16) hx hb dL_change_77 (by decide) ?_
        have hPc : va_P D vwCl ([]) H := hP.sub [] rfl
        have hDc : va_D A ([]) := hD.sub [] (by decide +kernel) rfl
        refine cl_i0 (va_runS (As := [.int x, .int 16]) (rest := []) ⟨hx, hb, hml, hown, hts⟩ (c_L_low_16 l D k x H.size) (va_cwS 2 hts gL_change_L_low rfl rfl rfl (by decide +kernel) ⟨Nat.le_of_ble_eq_true rfl, Nat.le_of_ble_eq_true rfl⟩) ⟨pr_blind, pr_at hN hPc hK hDc⟩ rfl rfl hl.1 rfl (lv_room (Nat.le_of_ble_eq_true rfl)) dL_change_79 ⟨Nat.le_of_ble_eq_true rfl, Nat.le_of_ble_eq_true rfl⟩) hP hD hS hA [] rfl (fun H locs hP hD hS => ?_)
        clear hPc hDc
        refine tp_e (y := 10) (congrArg nI hx16) ?_
        refine lv_tableIn (off := 257) (tgt := 339) hx hb dL_change_82 (by decide) (by decide) rfl (by decide) ?_
        refine lv_aload_n hx hb dL_change_339 rfl (lv_at hl 8 rfl) ?_
        refine lv_iload_n hx hb dL_change_340 rfl (lv_at hl 7 rfl) ?_
        refine lv_bipush (v := 7) hx hb dL_change_341 (by decide) ?_
        obtain ⟨X_18, hO_19, hM9⟩ := o_pieceOf_7 (l := l) (D := D) hSR hO_4 (q := q) (by omega)
        refine lo_I (n := 2) (As := [.int (nI q), .int 7]) (rest := []) hx hb hml hown hts hK hN hM9 (OX.at0 hO_4) gL_change_X4_pieceOf rfl (by decide +kernel) (by decide) dL_change_343 rfl rfl (Nat.le_of_ble_eq_true rfl) hl.1 (Nat.le_of_ble_eq_true rfl) (Nat.le_of_ble_eq_true rfl) (Nat.le_of_ble_eq_true rfl) (Nat.le_of_ble_eq_true rfl) hP hD hS hA (fun H locs hP hD hS => ?_)
        clear hM9
        refine lv_iload hx hb dL_change_346 (lv_at hl 6 rfl) ?_
        refine lv_ishr hx hb dL_change_348 ?_
        refine lv_iconst (v := 1) hx hb dL_change_349 (by decide) ?_
        refine lv_iand hx hb dL_change_350 ?_
        refine lv_istore (lv' := [(5, .int (((S 3 q) >>> ((nI z) &&& 31)) &&& 1)), (10, .int (nI z)), (9, .int (nI q)), (8, .int 0), (7, .int (nI nw)), (6, .int (S 7 2)), (4, .int (nI z)), (3, .int (nI q)), (0, .ref x0), (1, .int x), (2, .int y)]) hx hb dL_change_351 hl (by decide) rfl (fun ls hl => ?_)
        refine lv_iload hx hb dL_change_353 (lv_at hl 3 rfl) ?_
        refine lv_if_ne (tgt := 391) hx hb dL_change_355 (by decide) (fun c_20 => ?_) (fun c_20 => ?_)
        · exact absurd c_20 (by decide)
        · refine lv_aload_n hx hb dL_change_358 rfl (lv_at hl 8 rfl) ?_
          refine lv_iload_n hx hb dL_change_359 rfl (lv_at hl 7 rfl) ?_
          refine lv_iload hx hb dL_change_360 (lv_at hl 6 rfl) ?_
          obtain ⟨X_21, hO_22, hM9⟩ := o_bar (l := l) (D := D) hO_19 hns (q := q) (z := z) (by omega) (by omega) (by omega)
          refine lo_I (n := 2) (As := [.int (nI q), .int (nI z)]) (rest := []) hx hb hml hown hts hK hN hM9 (OX.at0 hO_19) gL_change_X4_bar rfl (by decide +kernel) (by decide) dL_change_362 rfl rfl (Nat.le_of_ble_eq_true rfl) hl.1 (Nat.le_of_ble_eq_true rfl) (Nat.le_of_ble_eq_true rfl) (Nat.le_of_ble_eq_true rfl) (Nat.le_of_ble_eq_true rfl) hP hD hS hA (fun H locs hP hD hS => ?_)
          clear hM9
          have hns2 : (svN ns) ≤ 6 := (svN_le hns).1
          have hL2 : LI (anS (gB (gB S q (S 3 q ^^^ (1 <<< (nI z &&& 31)))) z (upd (S 3) q (S 3 q ^^^ (1 <<< (nI z &&& 31))) z ^^^ (1 <<< (nI q &&& 31))))) := LI_bar hL (by omega) (by omega) (by omega)
          obtain ⟨f2, hSR2, -, -⟩ := id hL2
          refine lv_iconst (v := 1) hx hb dL_change_365 (by decide) ?_
          refine lv_iload hx hb dL_change_366 (lv_at hl 0 rfl) ?_
          refine lv_isub hx hb dL_change_368 ?_
          refine lv_icmp_ne (tgt := 395) hx hb dL_change_369 (by decide) (fun c_23 => ?_) (fun c_23 => ?_)
          · exact absurd ((bar_ans hL (by omega) (by omega) (by omega)).1) c_23
          · refine lv_aload_n hx hb dL_change_372 rfl (lv_at hl 8 rfl) ?_
            refine lv_iload hx hb dL_change_373 (lv_at hl 6 rfl) ?_
            refine lv_bipush (v := 7) hx hb dL_change_375 (by decide) ?_
            obtain ⟨X_24, hO_25, hM9⟩ := o_pieceOf_7 (l := l) (D := D) hSR2 hO_22 (q := z) (by omega)
            refine lo_I (n := 2) (As := [.int (nI z), .int 7]) (rest := []) hx hb hml hown hts hK hN hM9 (OX.at0 hO_22) gL_change_X4_pieceOf rfl (by decide +kernel) (by decide) dL_change_377 rfl rfl (Nat.le_of_ble_eq_true rfl) hl.1 (Nat.le_of_ble_eq_true rfl) (Nat.le_of_ble_eq_true rfl) (Nat.le_of_ble_eq_true rfl) (Nat.le_of_ble_eq_true rfl) hP hD hS hA (fun H locs hP hD hS => ?_)
            clear hM9
            refine lv_iload_n hx hb dL_change_380 rfl (lv_at hl 7 rfl) ?_
            refine lv_ishr hx hb dL_change_381 ?_
            refine lv_iconst (v := 1) hx hb dL_change_382 (by decide) ?_
            refine lv_iand hx hb dL_change_383 ?_
            refine lv_iconst (v := 1) hx hb dL_change_384 (by decide) ?_
            refine lv_iload hx hb dL_change_385 (lv_at hl 0 rfl) ?_
            refine lv_isub hx hb dL_change_387 ?_
            refine lv_icmp_ne (tgt := 395) hx hb dL_change_388 (by decide) (fun c_26 => ?_) (fun c_26 => ?_)
            · exact absurd ((bar_ans hL (by omega) (by omega) (by omega)).2) c_26
            · refine lv_iconst (v := 1) hx hb dL_change_391 (by decide) ?_
              refine lv_goto (tgt := 396) hx hb dL_change_392 (by decide) ?_
              subst hQ
              exact rt_zo hx hb hr hlocks hS dL_change_396 (va_PR hP) (va_DR hD) rfl (⟨rfl, _, _, _, hns2, hL2, hO_25⟩)
  · have c_5 : q = z := (nI_eq (a := q) (b := z) (by omega) (by omega)).mp c_5
    refine lv_iconst (v := 1) hx hb dL_change_41 (by decide) ?_
    refine lv_goto (tgt := 46) hx hb dL_change_42 (by decide) ?_
    refine lv_istore (lv' := [(8, .int 1), (7, .int (nI nw)), (6, .int (S 7 2)), (5, .int 0), (4, .int (nI z)), (3, .int (nI q)), (0, .ref x0), (1, .int x), (2, .int y)]) hx hb dL_change_46 hl (by decide) rfl (fun ls hl => ?_)
    refine lv_iload_n hx hb dL_change_48 rfl (lv_at hl 5 rfl) ?_
    refine lv_iload hx hb dL_change_49 (lv_at hl 4 rfl) ?_
    refine lv_icmp_ge (tgt := 58) hx hb dL_change_51 (by decide) (fun c_27 => ?_) (fun c_27 => ?_)
    · have c_27 : z ≤ q := (nI_leI (a := z) (b := q) (by omega) (by omega)).mp c_27
      refine lv_iload hx hb dL_change_58 (lv_at hl 4 rfl) ?_
      refine lv_istore (lv' := [(9, .int (nI z)), (8, .int 1), (7, .int (nI nw)), (6, .int (S 7 2)), (5, .int 0), (4, .int (nI z)), (3, .int (nI q)), (0, .ref x0), (1, .int x), (2, .int y)]) hx hb dL_change_60 hl (by decide) rfl (fun ls hl => ?_)
      refine lv_iload_n hx hb dL_change_62 rfl (lv_at hl 6 rfl) ?_
      refine lv_iload hx hb dL_change_63 (lv_at hl 5 rfl) ?_
      refine lv_icmp_ge (tgt := 73) hx hb dL_change_65 (by decide) (fun c_28 => ?_) (fun c_28 => ?_)
      · have c_28 : z ≤ q := (nI_leI (a := z) (b := q) (by omega) (by omega)).mp c_28
        refine lv_iload_n hx hb dL_change_73 rfl (lv_at hl 6 rfl) ?_
        refine lv_istore (lv' := [(10, .int (nI q)), (9, .int (nI z)), (8, .int 1), (7, .int (nI nw)), (6, .int (S 7 2)), (5, .int 0), (4, .int (nI z)), (3, .int (nI q)), (0, .ref x0), (1, .int x), (2, .int y)]) hx hb dL_change_74 hl (by decide) rfl (fun ls hl => ?_)
        refine lv_iload_n hx hb dL_change_76 rfl (lv_at hl 9 rfl) ?_
        refine lv_bipush (v := 16) hx hb dL_change_77 (by decide) ?_
        have hPc : va_P D vwCl ([]) H := hP.sub [] rfl
        have hDc : va_D A ([]) := hD.sub [] (by decide +kernel) rfl
        refine cl_i0 (va_runS (As := [.int x, .int 16]) (rest := []) ⟨hx, hb, hml, hown, hts⟩ (c_L_low_16 l D k x H.size) (va_cwS 2 hts gL_change_L_low rfl rfl rfl (by decide +kernel) ⟨Nat.le_of_ble_eq_true rfl, Nat.le_of_ble_eq_true rfl⟩) ⟨pr_blind, pr_at hN hPc hK hDc⟩ rfl rfl hl.1 rfl (lv_room (Nat.le_of_ble_eq_true rfl)) dL_change_79 ⟨Nat.le_of_ble_eq_true rfl, Nat.le_of_ble_eq_true rfl⟩) hP hD hS hA [] rfl (fun H locs hP hD hS => ?_)
        clear hPc hDc
        refine tp_e (y := 10) (congrArg nI hx16) ?_
        refine lv_tableIn (off := 257) (tgt := 339) hx hb dL_change_82 (by decide) (by decide) rfl (by decide) ?_
        refine lv_aload_n hx hb dL_change_339 rfl (lv_at hl 8 rfl) ?_
        refine lv_iload_n hx hb dL_change_340 rfl (lv_at hl 7 rfl) ?_
        refine lv_bipush (v := 7) hx hb dL_change_341 (by decide) ?_
        obtain ⟨X_29, hO_30, hM9⟩ := o_pieceOf_7 (l := l) (D := D) hSR hO_4 (q := q) (by omega)
        refine lo_I (n := 2) (As := [.int (nI q), .int 7]) (rest := []) hx hb hml hown hts hK hN hM9 (OX.at0 hO_4) gL_change_X4_pieceOf rfl (by decide +kernel) (by decide) dL_change_343 rfl rfl (Nat.le_of_ble_eq_true rfl) hl.1 (Nat.le_of_ble_eq_true rfl) (Nat.le_of_ble_eq_true rfl) (Nat.le_of_ble_eq_true rfl) (Nat.le_of_ble_eq_true rfl) hP hD hS hA (fun H locs hP hD hS => ?_)
        clear hM9
        refine lv_iload hx hb dL_change_346 (lv_at hl 6 rfl) ?_
        refine lv_ishr hx hb dL_change_348 ?_
        refine lv_iconst (v := 1) hx hb dL_change_349 (by decide) ?_
        refine lv_iand hx hb dL_change_350 ?_
        refine lv_istore (lv' := [(5, .int (((S 3 q) >>> ((nI z) &&& 31)) &&& 1)), (10, .int (nI q)), (9, .int (nI z)), (8, .int 1), (7, .int (nI nw)), (6, .int (S 7 2)), (4, .int (nI z)), (3, .int (nI q)), (0, .ref x0), (1, .int x), (2, .int y)]) hx hb dL_change_351 hl (by decide) rfl (fun ls hl => ?_)
        refine lv_iload hx hb dL_change_353 (lv_at hl 3 rfl) ?_
        refine lv_if_ne (tgt := 391) hx hb dL_change_355 (by decide) (fun c_31 => ?_) (fun c_31 => ?_)
        · refine lv_iconst (v := 1) hx hb dL_change_391 (by decide) ?_
          refine lv_goto (tgt := 396) hx hb dL_change_392 (by decide) ?_
          subst hQ
          exact rt_zo hx hb hr hlocks hS dL_change_396 (va_PR hP) (va_DR hD) rfl (⟨rfl, _, _, _, hns, hL, hO_30⟩)
        · exact absurd c_31 (by decide)
      · have c_28 : ¬ (z ≤ q) := fun h9 => c_28 ((nI_leI (a := z) (b := q) (by omega) (by omega)).mpr h9)
        omega
    · have c_27 : ¬ (z ≤ q) := fun h9 => c_27 ((nI_leI (a := z) (b := q) (by omega) (by omega)).mpr h9)
      exact absurd c_27 (not_not_intro (by omega))
