set_option maxHeartbeats 4000000 in
set_option maxRecDepth 100000 in
theorem c_L_change_11 (l : Launch) (D : va_G) (k : Nat → ClassId) (x0 ns : Nat) (S : Nat → Nat → Int32) (Z : Nat → Nat → Nat → Int32) (Y0 : Nat → Nat → Int32) (k0 : Int32) (X : va_W) (x y : Int32) (hns : ns ≤ 6) (hL : LI S) (hO : OX k x0 ns S Z Y0 k0 X) (hx16 : lowN x 16 = 11) : MO l yL_change wsL_change ({ frames := 31, cells := 0, slots := 0, locals := 839 }) D k [.ref x0, .int x, .int y] X (fun r X2 => r = 1 ∧ ∃ ns2 S2 Z2, ns2 ≤ 6 ∧ LI S2 ∧ OX k x0 ns2 S2 Z2 Y0 k0 X2) := by
  intro sz
  refine Met.ofW (cc := cL_change) (maxL := 16) (ret := (some .boolean)) (by decide) rfl ?_
  intro p e s m args below meth c s₁ B hml hv
  obtain ⟨rfl, hN, hsz, hP, hK, hD0⟩ := hv
  have hx := B.exec
  have hb := B.bytes
  have hr := B.returns
  have hts := atoms_spec (ws := wsL_change) B.pre
  have hown : s.vm.findClass RL = some m.cls := findClass_of_methodNamed B.named
  have hlocks := B.notSynchronized
  subst hsz
  have hD := hD0.self (sz := s.heap.size)
  generalize hAe : va_A X s.heap.size = A at hD ⊢
  have hA : ∀ q : Nat, s.heap.size ≤ q → A q := fun q h => by rw [← hAe]; exact Or.inr h
  have hS : va_S A s.heap s.heap [] := va_S.rf
  have hl := lv_entry ([.ref x0, .int x, .int y]) (n := 16) (Nat.le_of_ble_eq_true rfl)
  rw [lg_entry_eq]
  generalize (lg_sl ([.ref x0, .int x, .int y]) ++ List.replicate (16 - (lg_sl ([.ref x0, .int x, .int y])).length) Slot.unset).toArray = ls at hl ⊢
  have hl : lv_has ls 16 [(0, .ref x0), (1, .int x), (2, .int y)] := hl
  obtain ⟨H, hHe⟩ : ∃ H, H = s.heap := ⟨_, rfl⟩
  have hP : va_P D vwCl X H := by rw [hHe]; exact hP
  have hS : va_S A s.heap H [] := by rw [hHe]; exact hS
  rw [← hHe]
  refine absQ (fun Q hQ => ?_)
  obtain ⟨f, hSR, hBR, hEX⟩ := id hL
  obtain ⟨nw, hnw⟩ := hSR.2.2.2
  have hn : S 7 0 = nI nw := hnw.2.1
  have hn2 : nw ≤ 12 := hnw.1
  have hcv := low_lt (y >>> (4 &&& 31)) (n := 200) (by decide)
  have hP : va_P D vwCl ([] ++ (X)) H := hP
  have hD : va_D A ([] ++ (X)) := hD
  refine lv_iload_n hx hb dL_change_0 rfl (lv_at hl 2 rfl) ?_
  refine lv_bipush (v := 9) hx hb dL_change_1 (by decide) ?_
  have hPc : va_P D vwCl ([]) H := hP.sub [] rfl
  have hDc : va_D A ([]) := hD.sub [] (by decide +kernel) rfl
  refine cl_i0 (va_runS (As := [.int y, .int 9]) (rest := []) ⟨hx, hb, hml, hown, hts⟩ (c_L_low_9 l D k y H.size) (va_cwS 2 hts gL_change_L_low rfl rfl rfl (by decide +kernel) ⟨Nat.le_of_ble_eq_true rfl, Nat.le_of_ble_eq_true rfl⟩) ⟨pr_blind, pr_at hN hPc hK hDc⟩ rfl rfl hl.1 rfl (lv_room (Nat.le_of_ble_eq_true rfl)) dL_change_3 ⟨Nat.le_of_ble_eq_true rfl, Nat.le_of_ble_eq_true rfl⟩) hP hD hS hA [] rfl (fun H locs hP hD hS => ?_)
  clear hPc hDc
  obtain ⟨q, hqe⟩ : ∃ q, q = lowN y 9 := ⟨_, rfl⟩
  have hq9 : q < 9 := by rw [hqe]; exact low_lt _ (by decide)
  refine tp_e (y := (nI q)) (by rw [hqe]) ?_
  refine lv_istore_n (lv' := [(3, .int (nI q)), (0, .ref x0), (1, .int x), (2, .int y)]) hx hb dL_change_6 rfl hl (by decide) rfl (fun ls hl => ?_)
  refine lv_iload_n hx hb dL_change_7 rfl (lv_at hl 3 rfl) ?_
  refine lv_iconst (v := 4) hx hb dL_change_8 (by decide) ?_
  refine lv_ishr hx hb dL_change_9 ?_
  refine lv_bipush (v := 9) hx hb dL_change_10 (by decide) ?_
  have hPc : va_P D vwCl ([]) H := hP.sub [] rfl
  have hDc : va_D A ([]) := hD.sub [] (by decide +kernel) rfl
  refine cl_i0 (va_runS (As := [.int (y >>> (4 &&& 31)), .int 9]) (rest := []) ⟨hx, hb, hml, hown, hts⟩ (c_L_low_9 l D k (y >>> (4 &&& 31)) H.size) (va_cwS 2 hts gL_change_L_low rfl rfl rfl (by decide +kernel) ⟨Nat.le_of_ble_eq_true rfl, Nat.le_of_ble_eq_true rfl⟩) ⟨pr_blind, pr_at hN hPc hK hDc⟩ rfl rfl hl.1 rfl (lv_room (Nat.le_of_ble_eq_true rfl)) dL_change_12 ⟨Nat.le_of_ble_eq_true rfl, Nat.le_of_ble_eq_true rfl⟩) hP hD hS hA [] rfl (fun H locs hP hD hS => ?_)
  clear hPc hDc
  obtain ⟨z, hze⟩ : ∃ z, z = lowN (y >>> (4 &&& 31)) 9 := ⟨_, rfl⟩
  have hz9 : z < 9 := by rw [hze]; exact low_lt _ (by decide)
  refine tp_e (y := (nI z)) (by rw [hze]) ?_
  refine lv_istore (lv' := [(4, .int (nI z)), (3, .int (nI q)), (0, .ref x0), (1, .int x), (2, .int y)]) hx hb dL_change_15 hl (by decide) rfl (fun ls hl => ?_)
  refine lv_iconst (v := 0) hx hb dL_change_17 (by decide) ?_
  refine lv_istore (lv' := [(5, .int 0), (4, .int (nI z)), (3, .int (nI q)), (0, .ref x0), (1, .int x), (2, .int y)]) hx hb dL_change_18 hl (by decide) rfl (fun ls hl => ?_)
  refine lv_aload_n hx hb dL_change_20 rfl (lv_at hl 3 rfl) ?_
  refine lv_bipush (v := 10) hx hb dL_change_21 (by decide) ?_
  obtain ⟨X_1, hO_2, hM9⟩ := o_count_10 (l := l) (D := D) hSR hO
  refine lo_I (n := 1) (As := [.int 10]) (rest := []) hx hb hml hown hts hK hN hM9 (OX.at0 hO) gL_change_X4_count rfl (by decide +kernel) (by decide) dL_change_23 rfl rfl (Nat.le_of_ble_eq_true rfl) hl.1 (Nat.le_of_ble_eq_true rfl) (Nat.le_of_ble_eq_true rfl) (Nat.le_of_ble_eq_true rfl) (Nat.le_of_ble_eq_true rfl) hP hD hS hA (fun H locs hP hD hS => ?_)
  clear hM9
  refine lv_istore (lv' := [(6, .int (S 7 2)), (5, .int 0), (4, .int (nI z)), (3, .int (nI q)), (0, .ref x0), (1, .int x), (2, .int y)]) hx hb dL_change_26 hl (by decide) rfl (fun ls hl => ?_)
  refine lv_aload_n hx hb dL_change_28 rfl (lv_at hl 4 rfl) ?_
  refine lv_iconst (v := 3) hx hb dL_change_29 (by decide) ?_
  obtain ⟨X_3, hO_4, hM9⟩ := o_count_3 (l := l) (D := D) hSR hO_2
  refine lo_I (n := 1) (As := [.int 3]) (rest := []) hx hb hml hown hts hK hN hM9 (OX.at0 hO_2) gL_change_X4_count rfl (by decide +kernel) (by decide) dL_change_30 rfl rfl (Nat.le_of_ble_eq_true rfl) hl.1 (Nat.le_of_ble_eq_true rfl) (Nat.le_of_ble_eq_true rfl) (Nat.le_of_ble_eq_true rfl) (Nat.le_of_ble_eq_true rfl) hP hD hS hA (fun H locs hP hD hS => ?_)
  clear hM9
  refine tp_e (y := (nI nw)) hn ?_
  refine lv_istore (lv' := [(7, .int (nI nw)), (6, .int (S 7 2)), (5, .int 0), (4, .int (nI z)), (3, .int (nI q)), (0, .ref x0), (1, .int x), (2, .int y)]) hx hb dL_change_33 hl (by decide) rfl (fun ls hl => ?_)
  refine lv_iload_n hx hb dL_change_35 rfl (lv_at hl 4 rfl) ?_
  refine lv_iload hx hb dL_change_36 (lv_at hl 3 rfl) ?_
  refine lv_icmp_ne (tgt := 45) hx hb dL_change_38 (by decide) (fun c_5 => ?_) (fun c_5 => ?_)
  · have c_5 : ¬ (q = z) := fun h9 => c_5 ((nI_eq (a := q) (b := z) (by omega) (by omega)).mpr h9)
    refine lv_iconst (v := 0) hx hb dL_change_45 (by decide) ?_
    refine lv_istore (lv' := [(8, .int 0), (7, .int (nI nw)), (6, .int (S 7 2)), (5, .int 0), (4, .int (nI z)), (3, .int (nI q)), (0, .ref x0), (1, .int x), (2, .int y)]) hx hb dL_change_46 hl (by decide) rfl (fun ls hl => ?_)
    refine lv_iload_n hx hb dL_change_48 rfl (lv_at hl 5 rfl) ?_
    refine lv_iload hx hb dL_change_49 (lv_at hl 4 rfl) ?_
    refine lv_icmp_ge (tgt := 58) hx hb dL_change_51 (by decide) (fun c_6 => ?_) (fun c_6 => ?_)
    · have c_6 : z ≤ q := (nI_leI (a := z) (b := q) (by omega) (by omega)).mp c_6
      refine lv_iload hx hb dL_change_58 (lv_at hl 4 rfl) ?_
      refine lv_istore (lv' := [(9, .int (nI z)), (8, .int 0), (7, .int (nI nw)), (6, .int (S 7 2)), (5, .int 0), (4, .int (nI z)), (3, .int (nI q)), (0, .ref x0), (1, .int x), (2, .int y)]) hx hb dL_change_60 hl (by decide) rfl (fun ls hl => ?_)
      refine lv_iload_n hx hb dL_change_62 rfl (lv_at hl 6 rfl) ?_
      refine lv_iload hx hb dL_change_63 (lv_at hl 5 rfl) ?_
      refine lv_icmp_ge (tgt := 73) hx hb dL_change_65 (by decide) (fun c_7 => ?_) (fun c_7 => ?_)
      · have c_7 : z ≤ q := (nI_leI (a := z) (b := q) (by omega) (by omega)).mp c_7
        refine lv_iload_n hx hb dL_change_73 rfl (lv_at hl 6 rfl) ?_
        refine lv_istore (lv' := [(10, .int (nI q)), (9, .int (nI z)), (8, .int 0), (7, .int (nI nw)), (6, .int (S 7 2)), (5, .int 0), (4, .int (nI z)), (3, .int (nI q)), (0, .ref x0), (1, .int x), (2, .int y)]) hx hb dL_change_74 hl (by decide) rfl (fun ls hl => ?_)
        refine lv_iload_n hx hb dL_change_76 rfl (lv_at hl 9 rfl) ?_
        refine lv_bipush (v := 16) hx hb dL_change_77 (by decide) ?_
        have hPc : va_P D vwCl ([]) H := hP.sub [] rfl
        have hDc : va_D A ([]) := hD.sub [] (by decide +kernel) rfl
        refine cl_i0 (va_runS (As := [.int x, .int 16]) (rest := []) ⟨hx, hb, hml, hown, hts⟩ (c_L_low_16 l D k x H.size) (va_cwS 2 hts gL_change_L_low rfl rfl rfl (by decide +kernel) ⟨Nat.le_of_ble_eq_true rfl, Nat.le_of_ble_eq_true rfl⟩) ⟨pr_blind, pr_at hN hPc hK hDc⟩ rfl rfl hl.1 rfl (lv_room (Nat.le_of_ble_eq_true rfl)) dL_change_79 ⟨Nat.le_of_ble_eq_true rfl, Nat.le_of_ble_eq_true rfl⟩) hP hD hS hA [] rfl (fun H locs hP hD hS => ?_)
        clear hPc hDc
        refine tp_e (y := 11) (congrArg nI hx16) ?_
        refine lv_tableIn (off := 315) (tgt := 397) hx hb dL_change_82 (by decide) (by decide) rfl (by decide) ?_
        refine lv_aload_n hx hb dL_change_397 rfl (lv_at hl 8 rfl) ?_
        refine lv_iconst (v := 2) hx hb dL_change_398 (by decide) ?_
        obtain ⟨X_8, hO_9, hM9⟩ := o_count_2 (l := l) (D := D) hSR hO_4
        refine lo_I (n := 1) (As := [.int 2]) (rest := []) hx hb hml hown hts hK hN hM9 (OX.at0 hO_4) gL_change_X4_count rfl (by decide +kernel) (by decide) dL_change_399 rfl rfl (Nat.le_of_ble_eq_true rfl) hl.1 (Nat.le_of_ble_eq_true rfl) (Nat.le_of_ble_eq_true rfl) (Nat.le_of_ble_eq_true rfl) (Nat.le_of_ble_eq_true rfl) hP hD hS hA (fun H locs hP hD hS => ?_)
        clear hM9
        refine lv_istore (lv' := [(11, .int (smF (S 4) 9)), (10, .int (nI q)), (9, .int (nI z)), (8, .int 0), (7, .int (nI nw)), (6, .int (S 7 2)), (5, .int 0), (4, .int (nI z)), (3, .int (nI q)), (0, .ref x0), (1, .int x), (2, .int y)]) hx hb dL_change_402 hl (by decide) rfl (fun ls hl => ?_)
        refine lv_aload_n hx hb dL_change_404 rfl (lv_at hl 9 rfl) ?_
        refine lv_iconst (v := 0) hx hb dL_change_405 (by decide) ?_
        obtain ⟨X_10, hO_11, hM9⟩ := o_heaviest_0 (l := l) (D := D) hSR hO_9
        refine lo_I (n := 1) (As := [.int 0]) (rest := []) hx hb hml hown hts hK hN hM9 (OX.at0 hO_9) gL_change_X4_heaviest rfl (by decide +kernel) (by decide) dL_change_406 rfl rfl (Nat.le_of_ble_eq_true rfl) hl.1 (Nat.le_of_ble_eq_true rfl) (Nat.le_of_ble_eq_true rfl) (Nat.le_of_ble_eq_true rfl) (Nat.le_of_ble_eq_true rfl) hP hD hS hA (fun H locs hP hD hS => ?_)
        clear hM9
        refine lv_istore (lv' := [(12, .int (hwF S (hvM S))), (11, .int (smF (S 4) 9)), (10, .int (nI q)), (9, .int (nI z)), (8, .int 0), (7, .int (nI nw)), (6, .int (S 7 2)), (5, .int 0), (4, .int (nI z)), (3, .int (nI q)), (0, .ref x0), (1, .int x), (2, .int y)]) hx hb dL_change_409 hl (by decide) rfl (fun ls hl => ?_)
        refine lv_aload_n hx hb dL_change_411 rfl (lv_at hl 10 rfl) ?_
        refine lv_iconst (v := 1) hx hb dL_change_412 (by decide) ?_
        obtain ⟨X_12, hO_13, hM9⟩ := o_heaviest_1 (l := l) (D := D) hSR hO_11
        refine lo_I (n := 1) (As := [.int 1]) (rest := []) hx hb hml hown hts hK hN hM9 (OX.at0 hO_11) gL_change_X4_heaviest rfl (by decide +kernel) (by decide) dL_change_413 rfl rfl (Nat.le_of_ble_eq_true rfl) hl.1 (Nat.le_of_ble_eq_true rfl) (Nat.le_of_ble_eq_true rfl) (Nat.le_of_ble_eq_true rfl) (Nat.le_of_ble_eq_true rfl) hP hD hS hA (fun H locs hP hD hS => ?_)
        clear hM9
        refine lv_istore (lv' := [(13, .int (hvM S)), (12, .int (hwF S (hvM S))), (11, .int (smF (S 4) 9)), (10, .int (nI q)), (9, .int (nI z)), (8, .int 0), (7, .int (nI nw)), (6, .int (S 7 2)), (5, .int 0), (4, .int (nI z)), (3, .int (nI q)), (0, .ref x0), (1, .int x), (2, .int y)]) hx hb dL_change_416 hl (by decide) rfl (fun ls hl => ?_)
        refine lv_aload_n hx hb dL_change_418 rfl (lv_at hl 11 rfl) ?_
        refine lv_bipush (v := 9) hx hb dL_change_419 (by decide) ?_
        obtain ⟨X_14, hO_15, hM9⟩ := o_count_9 (l := l) (D := D) hSR hO_13
        refine lo_I (n := 1) (As := [.int 9]) (rest := []) hx hb hml hown hts hK hN hM9 (OX.at0 hO_13) gL_change_X4_count rfl (by decide +kernel) (by decide) dL_change_421 rfl rfl (Nat.le_of_ble_eq_true rfl) hl.1 (Nat.le_of_ble_eq_true rfl) (Nat.le_of_ble_eq_true rfl) (Nat.le_of_ble_eq_true rfl) (Nat.le_of_ble_eq_true rfl) hP hD hS hA (fun H locs hP hD hS => ?_)
        clear hM9
        refine lv_istore (lv' := [(5, .int (S 7 1)), (13, .int (hvM S)), (12, .int (hwF S (hvM S))), (11, .int (smF (S 4) 9)), (10, .int (nI q)), (9, .int (nI z)), (8, .int 0), (7, .int (nI nw)), (6, .int (S 7 2)), (4, .int (nI z)), (3, .int (nI q)), (0, .ref x0), (1, .int x), (2, .int y)]) hx hb dL_change_424 hl (by decide) rfl (fun ls hl => ?_)
        refine lv_iload hx hb dL_change_426 (lv_at hl 2 rfl) ?_
        refine lv_iconst (v := 1) hx hb dL_change_428 (by decide) ?_
        refine lv_icmp_lt (tgt := 439) hx hb dL_change_429 (by decide) (fun c_16 => ?_) (fun c_16 => ?_)
        · have hst := st_ref hSR hnw (Or.inl c_16)
          refine lv_aload_n hx hb dL_change_439 rfl (lv_at hl 11 rfl) ?_
          obtain ⟨X_17, hO_18, hM9⟩ := o_step (l := l) (D := D) hSR hO_15 hns (nw := nw) hn hn2
          refine lo_I (n := 0) (As := []) (rest := []) hx hb hml hown hts hK hN hM9 (OX.at0 hO_15) gL_change_X4_step rfl (by decide +kernel) (by decide) dL_change_440 rfl rfl (Nat.le_of_ble_eq_true rfl) hl.1 (Nat.le_of_ble_eq_true rfl) (Nat.le_of_ble_eq_true rfl) (Nat.le_of_ble_eq_true rfl) (Nat.le_of_ble_eq_true rfl) hP hD hS hA (fun H locs hP hD hS => ?_)
          clear hM9
          refine tp_e (y := 0) (by rw [hst]) ?_
          rw [hst] at hO_18
          have hO_18 : OX k x0 (svN ns) (rfS S) _ Y0 k0 X_17 := hO_18
          have hns2 : (svN ns) ≤ 6 := (svN_le hns).1
          have hL2 : LI (rfS S) := LI_rf hL
          obtain ⟨f2, hSR2, -, -⟩ := id hL2
          refine lv_if_ne (tgt := 483) hx hb dL_change_443 (by decide) (fun c_19 => ?_) (fun c_19 => ?_)
          · exact absurd c_19 (by decide)
          · refine lv_aload_n hx hb dL_change_446 rfl (lv_at hl 11 rfl) ?_
            refine lv_bipush (v := 10) hx hb dL_change_447 (by decide) ?_
            obtain ⟨X_20, hO_21, hM9⟩ := o_count_10 (l := l) (D := D) hSR2 hO_18
            refine lo_I (n := 1) (As := [.int 10]) (rest := []) hx hb hml hown hts hK hN hM9 (OX.at0 hO_18) gL_change_X4_count rfl (by decide +kernel) (by decide) dL_change_449 rfl rfl (Nat.le_of_ble_eq_true rfl) hl.1 (Nat.le_of_ble_eq_true rfl) (Nat.le_of_ble_eq_true rfl) (Nat.le_of_ble_eq_true rfl) (Nat.le_of_ble_eq_true rfl) hP hD hS hA (fun H locs hP hD hS => ?_)
            clear hM9
            refine lv_iload hx hb dL_change_452 (lv_at hl 8 rfl) ?_
            refine lv_iconst (v := 1) hx hb dL_change_454 (by decide) ?_
            refine lv_iadd hx hb dL_change_455 ?_
            refine lv_icmp_ne (tgt := 483) hx hb dL_change_456 (by decide) (fun c_22 => ?_) (fun c_22 => ?_)
            · exact absurd (rfl) c_22
            · refine lv_aload_n hx hb dL_change_459 rfl (lv_at hl 11 rfl) ?_
              refine lv_iconst (v := 3) hx hb dL_change_460 (by decide) ?_
              obtain ⟨X_23, hO_24, hM9⟩ := o_count_3 (l := l) (D := D) hSR2 hO_21
              refine lo_I (n := 1) (As := [.int 3]) (rest := []) hx hb hml hown hts hK hN hM9 (OX.at0 hO_21) gL_change_X4_count rfl (by decide +kernel) (by decide) dL_change_461 rfl rfl (Nat.le_of_ble_eq_true rfl) hl.1 (Nat.le_of_ble_eq_true rfl) (Nat.le_of_ble_eq_true rfl) (Nat.le_of_ble_eq_true rfl) (Nat.le_of_ble_eq_true rfl) hP hD hS hA (fun H locs hP hD hS => ?_)
              clear hM9
              refine lv_iload hx hb dL_change_464 (lv_at hl 7 rfl) ?_
              refine lv_icmp_ne (tgt := 483) hx hb dL_change_466 (by decide) (fun c_25 => ?_) (fun c_25 => ?_)
              · exact absurd (hn) c_25
              · refine lv_aload_n hx hb dL_change_469 rfl (lv_at hl 11 rfl) ?_
                refine lv_iconst (v := 2) hx hb dL_change_470 (by decide) ?_
                obtain ⟨X_26, hO_27, hM9⟩ := o_count_2 (l := l) (D := D) hSR2 hO_24
                refine lo_I (n := 1) (As := [.int 2]) (rest := []) hx hb hml hown hts hK hN hM9 (OX.at0 hO_24) gL_change_X4_count rfl (by decide +kernel) (by decide) dL_change_471 rfl rfl (Nat.le_of_ble_eq_true rfl) hl.1 (Nat.le_of_ble_eq_true rfl) (Nat.le_of_ble_eq_true rfl) (Nat.le_of_ble_eq_true rfl) (Nat.le_of_ble_eq_true rfl) hP hD hS hA (fun H locs hP hD hS => ?_)
                clear hM9
                refine lv_iload hx hb dL_change_474 (lv_at hl 3 rfl) ?_
                refine lv_icmp_ne (tgt := 483) hx hb dL_change_476 (by decide) (fun c_28 => ?_) (fun c_28 => ?_)
                · exact absurd (rfl) c_28
                · refine lv_iconst (v := 1) hx hb dL_change_479 (by decide) ?_
                  refine lv_goto (tgt := 484) hx hb dL_change_480 (by decide) ?_
                  subst hQ
                  exact rt_zo hx hb hr hlocks hS dL_change_484 (va_PR hP) (va_DR hD) rfl (⟨rfl, _, _, _, hns2, hL2, hO_27⟩)
        · have hge := c_16
          refine lv_iload hx hb dL_change_432 (lv_at hl 7 rfl) ?_
          refine lv_bipush (v := 12) hx hb dL_change_434 (by decide) ?_
          refine lv_icmp_ne (tgt := 485) hx hb dL_change_436 (by decide) (fun c_29 => ?_) (fun c_29 => ?_)
          · have c_29 : ¬ (nw = 12) := fun h9 => c_29 ((nI_eq (a := nw) (b := 12) (by omega) (by omega)).mpr h9)
            obtain ⟨b, w, b1, b2, w1, w2, n1, em, ew, ewm, hst⟩ := st_go hSR hnw hge c_29
            refine lv_aload_n hx hb dL_change_485 rfl (lv_at hl 11 rfl) ?_
            obtain ⟨X_30, hO_31, hM9⟩ := o_step (l := l) (D := D) hSR hO_15 hns (nw := nw) hn hn2
            refine lo_I (n := 0) (As := []) (rest := []) hx hb hml hown hts hK hN hM9 (OX.at0 hO_15) gL_change_X4_step rfl (by decide +kernel) (by decide) dL_change_486 rfl rfl (Nat.le_of_ble_eq_true rfl) hl.1 (Nat.le_of_ble_eq_true rfl) (Nat.le_of_ble_eq_true rfl) (Nat.le_of_ble_eq_true rfl) (Nat.le_of_ble_eq_true rfl) hP hD hS hA (fun H locs hP hD hS => ?_)
            clear hM9
            refine tp_e (y := (nI w)) (by rw [hst]) ?_
            rw [hst] at hO_31
            have hO_31 : OX k x0 (svN ns) (tkS S (nI b) (nI w) nw) _ Y0 k0 X_30 := hO_31
            have hns2 : (svN ns) ≤ 6 := (svN_le hns).1
            have hL2 : LI (tkS S (nI b) (nI w) nw) := LI_tk hSR hBR hEX hnw n1 b2 ewm w2
            obtain ⟨f2, hSR2, -, -⟩ := id hL2
            have hn3 : (tkS S (nI b) (nI w) nw) 7 0 = nI (nw + 1) := by show S 7 0 + 1 = _; rw [hn, show (1 : Int32) = nI 1 from rfl, nI_add]
            have hn4 : nw + 1 ≤ 12 := by omega
            refine lv_iload hx hb dL_change_489 (lv_at hl 2 rfl) ?_
            refine lv_icmp_ne (tgt := 569) hx hb dL_change_491 (by decide) (fun c_32 => ?_) (fun c_32 => ?_)
            · exact absurd (ew.symm) c_32
            · refine lv_aload_n hx hb dL_change_494 rfl (lv_at hl 11 rfl) ?_
              refine lv_bipush (v := 9) hx hb dL_change_495 (by decide) ?_
              obtain ⟨X_33, hO_34, hM9⟩ := o_count_9 (l := l) (D := D) hSR2 hO_31
              refine lo_I (n := 1) (As := [.int 9]) (rest := []) hx hb hml hown hts hK hN hM9 (OX.at0 hO_31) gL_change_X4_count rfl (by decide +kernel) (by decide) dL_change_497 rfl rfl (Nat.le_of_ble_eq_true rfl) hl.1 (Nat.le_of_ble_eq_true rfl) (Nat.le_of_ble_eq_true rfl) (Nat.le_of_ble_eq_true rfl) (Nat.le_of_ble_eq_true rfl) hP hD hS hA (fun H locs hP hD hS => ?_)
              clear hM9
              refine lv_iload hx hb dL_change_500 (lv_at hl 0 rfl) ?_
              refine lv_iconst (v := 1) hx hb dL_change_502 (by decide) ?_
              refine lv_iadd hx hb dL_change_503 ?_
              refine lv_icmp_ne (tgt := 569) hx hb dL_change_504 (by decide) (fun c_35 => ?_) (fun c_35 => ?_)
              · exact absurd (rfl) c_35
              · refine lv_aload_n hx hb dL_change_507 rfl (lv_at hl 11 rfl) ?_
                refine lv_iload hx hb dL_change_508 (lv_at hl 7 rfl) ?_
                refine lv_iconst (v := 0) hx hb dL_change_510 (by decide) ?_
                obtain ⟨X_36, hO_37, hM9⟩ := o_noted_0 (l := l) (D := D) hSR2 hO_34 (r := nw) (nw := (nw + 1)) (by omega) hn3 hn4
                refine lo_I (n := 2) (As := [.int (nI nw), .int 0]) (rest := []) hx hb hml hown hts hK hN hM9 (OX.at0 hO_34) gL_change_X4_noted rfl (by decide +kernel) (by decide) dL_change_511 rfl rfl (Nat.le_of_ble_eq_true rfl) hl.1 (Nat.le_of_ble_eq_true rfl) (Nat.le_of_ble_eq_true rfl) (Nat.le_of_ble_eq_true rfl) (Nat.le_of_ble_eq_true rfl) hP hD hS hA (fun H locs hP hD hS => ?_)
                clear hM9
                refine lv_iload hx hb dL_change_514 (lv_at hl 2 rfl) ?_
                refine lv_icmp_ne (tgt := 569) hx hb dL_change_516 (by decide) (fun c_38 => ?_) (fun c_38 => ?_)
                · exact absurd (by unfold ntF; rw [if_neg (by omega), ew]; exact upd_e _ _ _) c_38
                · refine lv_aload_n hx hb dL_change_519 rfl (lv_at hl 11 rfl) ?_
                  refine lv_iload hx hb dL_change_520 (lv_at hl 7 rfl) ?_
                  refine lv_iconst (v := 1) hx hb dL_change_522 (by decide) ?_
                  obtain ⟨X_39, hO_40, hM9⟩ := o_noted_1 (l := l) (D := D) hSR2 hO_37 (r := nw) (nw := (nw + 1)) (by omega) hn3 hn4
                  refine lo_I (n := 2) (As := [.int (nI nw), .int 1]) (rest := []) hx hb hml hown hts hK hN hM9 (OX.at0 hO_37) gL_change_X4_noted rfl (by decide +kernel) (by decide) dL_change_523 rfl rfl (Nat.le_of_ble_eq_true rfl) hl.1 (Nat.le_of_ble_eq_true rfl) (Nat.le_of_ble_eq_true rfl) (Nat.le_of_ble_eq_true rfl) (Nat.le_of_ble_eq_true rfl) hP hD hS hA (fun H locs hP hD hS => ?_)
                  clear hM9
                  refine lv_iload hx hb dL_change_526 (lv_at hl 1 rfl) ?_
                  refine lv_icmp_ne (tgt := 569) hx hb dL_change_528 (by decide) (fun c_41 => ?_) (fun c_41 => ?_)
                  · exact absurd (by unfold ntF; rw [if_neg (by omega), em]; exact upd_e _ _ _) c_41
                  · refine lv_aload_n hx hb dL_change_531 rfl (lv_at hl 11 rfl) ?_
                    refine lv_iload hx hb dL_change_532 (lv_at hl 7 rfl) ?_
                    refine lv_iconst (v := 1) hx hb dL_change_534 (by decide) ?_
                    refine lv_iadd hx hb dL_change_535 ?_
                    refine tp_e (y := (nI (nw + 1))) (nI_add nw 1) ?_
                    refine lv_iconst (v := 0) hx hb dL_change_536 (by decide) ?_
                    obtain ⟨X_42, hO_43, hM9⟩ := o_noted_0 (l := l) (D := D) hSR2 hO_40 (r := (nw + 1)) (nw := (nw + 1)) (by omega) hn3 hn4
                    refine lo_I (n := 2) (As := [.int (nI (nw + 1)), .int 0]) (rest := []) hx hb hml hown hts hK hN hM9 (OX.at0 hO_40) gL_change_X4_noted rfl (by decide +kernel) (by decide) dL_change_537 rfl rfl (Nat.le_of_ble_eq_true rfl) hl.1 (Nat.le_of_ble_eq_true rfl) (Nat.le_of_ble_eq_true rfl) (Nat.le_of_ble_eq_true rfl) (Nat.le_of_ble_eq_true rfl) hP hD hS hA (fun H locs hP hD hS => ?_)
                    clear hM9
                    refine lv_iconst (v := (-1)) hx hb dL_change_540 (by decide) ?_
                    refine lv_icmp_ne (tgt := 569) hx hb dL_change_541 (by decide) (fun c_44 => ?_) (fun c_44 => ?_)
                    · exact absurd (if_pos (Nat.le_refl _)) c_44
                    · refine lv_aload_n hx hb dL_change_544 rfl (lv_at hl 11 rfl) ?_
                      refine lv_iconst (v := 2) hx hb dL_change_545 (by decide) ?_
                      obtain ⟨X_45, hO_46, hM9⟩ := o_count_2 (l := l) (D := D) hSR2 hO_43
                      refine lo_I (n := 1) (As := [.int 2]) (rest := []) hx hb hml hown hts hK hN hM9 (OX.at0 hO_43) gL_change_X4_count rfl (by decide +kernel) (by decide) dL_change_546 rfl rfl (Nat.le_of_ble_eq_true rfl) hl.1 (Nat.le_of_ble_eq_true rfl) (Nat.le_of_ble_eq_true rfl) (Nat.le_of_ble_eq_true rfl) (Nat.le_of_ble_eq_true rfl) hP hD hS hA (fun H locs hP hD hS => ?_)
                      clear hM9
                      refine lv_iload hx hb dL_change_549 (lv_at hl 3 rfl) ?_
                      refine lv_iload hx hb dL_change_551 (lv_at hl 2 rfl) ?_
                      refine lv_aload_n hx hb dL_change_553 rfl (lv_at hl 11 rfl) ?_
                      refine lv_iload hx hb dL_change_554 (lv_at hl 7 rfl) ?_
                      refine lv_iconst (v := 2) hx hb dL_change_556 (by decide) ?_
                      obtain ⟨X_47, hO_48, hM9⟩ := o_noted_2 (l := l) (D := D) hSR2 hO_46 (r := nw) (nw := (nw + 1)) (by omega) hn3 hn4
                      refine lo_I (n := 2) (As := [.int (nI nw), .int 2]) (rest := [.int (hwF S (hvM S)), .int (smF (S 4) 9), .int (smF ((tkS S (nI b) (nI w) nw) 4) 9)]) hx hb hml hown hts hK hN hM9 (OX.at0 hO_46) gL_change_X4_noted rfl (by decide +kernel) (by decide) dL_change_557 rfl rfl (Nat.le_of_ble_eq_true rfl) hl.1 (Nat.le_of_ble_eq_true rfl) (Nat.le_of_ble_eq_true rfl) (Nat.le_of_ble_eq_true rfl) (Nat.le_of_ble_eq_true rfl) hP hD hS hA (fun H locs hP hD hS => ?_)
                      clear hM9
                      refine lv_imul hx hb dL_change_560 ?_
                      refine lv_isub hx hb dL_change_561 ?_
                      refine lv_icmp_ne (tgt := 569) hx hb dL_change_562 (by decide) (fun c_49 => ?_) (fun c_49 => ?_)
                      · exact absurd (by unfold ntF; rw [if_neg (show ¬ nw + 1 ≤ nw from by omega), ew]; show smF (twF (S 4) (nI b) (nI w) 9) 9 = smF (S 4) 9 - nI w * bcF (upd (S 6) nw (nI b) nw); rw [upd_e]; exact sm_take b2 _ _) c_49
                      · refine lv_iconst (v := 1) hx hb dL_change_565 (by decide) ?_
                        refine lv_goto (tgt := 570) hx hb dL_change_566 (by decide) ?_
                        subst hQ
                        exact rt_zo hx hb hr hlocks hS dL_change_570 (va_PR hP) (va_DR hD) rfl (⟨rfl, _, _, _, hns2, hL2, hO_48⟩)
          · have c_29 : nw = 12 := (nI_eq (a := nw) (b := 12) (by omega) (by omega)).mp c_29
            have hst := st_ref hSR hnw (Or.inr c_29)
            refine lv_aload_n hx hb dL_change_439 rfl (lv_at hl 11 rfl) ?_
            obtain ⟨X_50, hO_51, hM9⟩ := o_step (l := l) (D := D) hSR hO_15 hns (nw := nw) hn hn2
            refine lo_I (n := 0) (As := []) (rest := []) hx hb hml hown hts hK hN hM9 (OX.at0 hO_15) gL_change_X4_step rfl (by decide +kernel) (by decide) dL_change_440 rfl rfl (Nat.le_of_ble_eq_true rfl) hl.1 (Nat.le_of_ble_eq_true rfl) (Nat.le_of_ble_eq_true rfl) (Nat.le_of_ble_eq_true rfl) (Nat.le_of_ble_eq_true rfl) hP hD hS hA (fun H locs hP hD hS => ?_)
            clear hM9
            refine tp_e (y := 0) (by rw [hst]) ?_
            rw [hst] at hO_51
            have hO_51 : OX k x0 (svN ns) (rfS S) _ Y0 k0 X_50 := hO_51
            have hns2 : (svN ns) ≤ 6 := (svN_le hns).1
            have hL2 : LI (rfS S) := LI_rf hL
            obtain ⟨f2, hSR2, -, -⟩ := id hL2
            refine lv_if_ne (tgt := 483) hx hb dL_change_443 (by decide) (fun c_52 => ?_) (fun c_52 => ?_)
            · exact absurd c_52 (by decide)
            · refine lv_aload_n hx hb dL_change_446 rfl (lv_at hl 11 rfl) ?_
              refine lv_bipush (v := 10) hx hb dL_change_447 (by decide) ?_
              obtain ⟨X_53, hO_54, hM9⟩ := o_count_10 (l := l) (D := D) hSR2 hO_51
              refine lo_I (n := 1) (As := [.int 10]) (rest := []) hx hb hml hown hts hK hN hM9 (OX.at0 hO_51) gL_change_X4_count rfl (by decide +kernel) (by decide) dL_change_449 rfl rfl (Nat.le_of_ble_eq_true rfl) hl.1 (Nat.le_of_ble_eq_true rfl) (Nat.le_of_ble_eq_true rfl) (Nat.le_of_ble_eq_true rfl) (Nat.le_of_ble_eq_true rfl) hP hD hS hA (fun H locs hP hD hS => ?_)
              clear hM9
              refine lv_iload hx hb dL_change_452 (lv_at hl 8 rfl) ?_
              refine lv_iconst (v := 1) hx hb dL_change_454 (by decide) ?_
              refine lv_iadd hx hb dL_change_455 ?_
              refine lv_icmp_ne (tgt := 483) hx hb dL_change_456 (by decide) (fun c_55 => ?_) (fun c_55 => ?_)
              · exact absurd (rfl) c_55
              · refine lv_aload_n hx hb dL_change_459 rfl (lv_at hl 11 rfl) ?_
                refine lv_iconst (v := 3) hx hb dL_change_460 (by decide) ?_
                obtain ⟨X_56, hO_57, hM9⟩ := o_count_3 (l := l) (D := D) hSR2 hO_54
                refine lo_I (n := 1) (As := [.int 3]) (rest := []) hx hb hml hown hts hK hN hM9 (OX.at0 hO_54) gL_change_X4_count rfl (by decide +kernel) (by decide) dL_change_461 rfl rfl (Nat.le_of_ble_eq_true rfl) hl.1 (Nat.le_of_ble_eq_true rfl) (Nat.le_of_ble_eq_true rfl) (Nat.le_of_ble_eq_true rfl) (Nat.le_of_ble_eq_true rfl) hP hD hS hA (fun H locs hP hD hS => ?_)
                clear hM9
                refine lv_iload hx hb dL_change_464 (lv_at hl 7 rfl) ?_
                refine lv_icmp_ne (tgt := 483) hx hb dL_change_466 (by decide) (fun c_58 => ?_) (fun c_58 => ?_)
                · exact absurd (hn) c_58
                · refine lv_aload_n hx hb dL_change_469 rfl (lv_at hl 11 rfl) ?_
                  refine lv_iconst (v := 2) hx hb dL_change_470 (by decide) ?_
                  obtain ⟨X_59, hO_60, hM9⟩ := o_count_2 (l := l) (D := D) hSR2 hO_57
                  refine lo_I (n := 1) (As := [.int 2]) (rest := []) hx hb hml hown hts hK hN hM9 (OX.at0 hO_57) gL_change_X4_count rfl (by decide +kernel) (by decide) dL_change_471 rfl rfl (Nat.le_of_ble_eq_true rfl) hl.1 (Nat.le_of_ble_eq_true rfl) (Nat.le_of_ble_eq_true rfl) (Nat.le_of_ble_eq_true rfl) (Nat.le_of_ble_eq_true rfl) hP hD hS hA (fun H locs hP hD hS => ?_)
                  clear hM9
                  refine lv_iload hx hb dL_change_474 (lv_at hl 3 rfl) ?_
                  refine lv_icmp_ne (tgt := 483) hx hb dL_change_476 (by decide) (fun c_61 => ?_) (fun c_61 => ?_)
                  · exact absurd (rfl) c_61
                  · refine lv_iconst (v := 1) hx hb dL_change_479 (by decide) ?_
                    refine lv_goto (tgt := 484) hx hb dL_change_480 (by decide) ?_
                    subst hQ
                    exact rt_zo hx hb hr hlocks hS dL_change_484 (va_PR hP) (va_DR hD) rfl (⟨rfl, _, _, _, hns2, hL2, hO_60⟩)
      · have c_7 : ¬ (z ≤ q) := fun h9 => c_7 ((nI_leI (a := z) (b := q) (by omega) (by omega)).mpr h9)
        omega
    · have c_6 : ¬ (z ≤ q) := fun h9 => c_6 ((nI_leI (a := z) (b := q) (by omega) (by omega)).mpr h9)
      refine lv_iload_n hx hb dL_change_54 rfl (lv_at hl 5 rfl) ?_
      refine lv_goto (tgt := 60) hx hb dL_change_55 (by decide) ?_
      refine lv_istore (lv' := [(9, .int (nI q)), (8, .int 0), (7, .int (nI nw)), (6, .int (S 7 2)), (5, .int 0), (4, .int (nI z)), (3, .int (nI q)), (0, .ref x0), (1, .int x), (2, .int y)]) hx hb dL_change_60 hl (by decide) rfl (fun ls hl => ?_)
      refine lv_iload_n hx hb dL_change_62 rfl (lv_at hl 6 rfl) ?_
      refine lv_iload hx hb dL_change_63 (lv_at hl 5 rfl) ?_
      refine lv_icmp_ge (tgt := 73) hx hb dL_change_65 (by decide) (fun c_62 => ?_) (fun c_62 => ?_)
      · have c_62 : z ≤ q := (nI_leI (a := z) (b := q) (by omega) (by omega)).mp c_62
        omega
      · have c_62 : ¬ (z ≤ q) := fun h9 => c_62 ((nI_leI (a := z) (b := q) (by omega) (by omega)).mpr h9)
        refine lv_iload hx hb dL_change_68 (lv_at hl 5 rfl) ?_
        refine lv_goto (tgt := 74) hx hb dL_change_70 (by decide) ?_
        refine lv_istore (lv' := [(10, .int (nI z)), (9, .int (nI q)), (8, .int 0), (7, .int (nI nw)), (6, .int (S 7 2)), (5, .int 0), (4, .int (nI z)), (3, .int (nI q)), (0, .ref x0), (1, .int x), (2, .int y)]) hx hb dL_change_74 hl (by decide) rfl (fun ls hl => ?_)
        refine lv_iload_n hx hb dL_change_76 rfl (lv_at hl 9 rfl) ?_
        refine lv_bipush (v := 16) hx hb dL_change_77 (by decide) ?_
        have hPc : va_P D vwCl ([]) H := hP.sub [] rfl
        have hDc : va_D A ([]) := hD.sub [] (by decide +kernel) rfl
        refine cl_i0 (va_runS (As := [.int x, .int 16]) (rest := []) ⟨hx, hb, hml, hown, hts⟩ (c_L_low_16 l D k x H.size) (va_cwS 2 hts gL_change_L_low rfl rfl rfl (by decide +kernel) ⟨Nat.le_of_ble_eq_true rfl, Nat.le_of_ble_eq_true rfl⟩) ⟨pr_blind, pr_at hN hPc hK hDc⟩ rfl rfl hl.1 rfl (lv_room (Nat.le_of_ble_eq_true rfl)) dL_change_79 ⟨Nat.le_of_ble_eq_true rfl, Nat.le_of_ble_eq_true rfl⟩) hP hD hS hA [] rfl (fun H locs hP hD hS => ?_)
        clear hPc hDc
        refine tp_e (y := 11) (congrArg nI hx16) ?_
        refine lv_tableIn (off := 315) (tgt := 397) hx hb dL_change_82 (by decide) (by decide) rfl (by decide) ?_
        refine lv_aload_n hx hb dL_change_397 rfl (lv_at hl 8 rfl) ?_
        refine lv_iconst (v := 2) hx hb dL_change_398 (by decide) ?_
        obtain ⟨X_63, hO_64, hM9⟩ := o_count_2 (l := l) (D := D) hSR hO_4
        refine lo_I (n := 1) (As := [.int 2]) (rest := []) hx hb hml hown hts hK hN hM9 (OX.at0 hO_4) gL_change_X4_count rfl (by decide +kernel) (by decide) dL_change_399 rfl rfl (Nat.le_of_ble_eq_true rfl) hl.1 (Nat.le_of_ble_eq_true rfl) (Nat.le_of_ble_eq_true rfl) (Nat.le_of_ble_eq_true rfl) (Nat.le_of_ble_eq_true rfl) hP hD hS hA (fun H locs hP hD hS => ?_)
        clear hM9
        refine lv_istore (lv' := [(11, .int (smF (S 4) 9)), (10, .int (nI z)), (9, .int (nI q)), (8, .int 0), (7, .int (nI nw)), (6, .int (S 7 2)), (5, .int 0), (4, .int (nI z)), (3, .int (nI q)), (0, .ref x0), (1, .int x), (2, .int y)]) hx hb dL_change_402 hl (by decide) rfl (fun ls hl => ?_)
        refine lv_aload_n hx hb dL_change_404 rfl (lv_at hl 9 rfl) ?_
        refine lv_iconst (v := 0) hx hb dL_change_405 (by decide) ?_
        obtain ⟨X_65, hO_66, hM9⟩ := o_heaviest_0 (l := l) (D := D) hSR hO_64
        refine lo_I (n := 1) (As := [.int 0]) (rest := []) hx hb hml hown hts hK hN hM9 (OX.at0 hO_64) gL_change_X4_heaviest rfl (by decide +kernel) (by decide) dL_change_406 rfl rfl (Nat.le_of_ble_eq_true rfl) hl.1 (Nat.le_of_ble_eq_true rfl) (Nat.le_of_ble_eq_true rfl) (Nat.le_of_ble_eq_true rfl) (Nat.le_of_ble_eq_true rfl) hP hD hS hA (fun H locs hP hD hS => ?_)
        clear hM9
        refine lv_istore (lv' := [(12, .int (hwF S (hvM S))), (11, .int (smF (S 4) 9)), (10, .int (nI z)), (9, .int (nI q)), (8, .int 0), (7, .int (nI nw)), (6, .int (S 7 2)), (5, .int 0), (4, .int (nI z)), (3, .int (nI q)), (0, .ref x0), (1, .int x), (2, .int y)]) hx hb dL_change_409 hl (by decide) rfl (fun ls hl => ?_)
        refine lv_aload_n hx hb dL_change_411 rfl (lv_at hl 10 rfl) ?_
        refine lv_iconst (v := 1) hx hb dL_change_412 (by decide) ?_
        obtain ⟨X_67, hO_68, hM9⟩ := o_heaviest_1 (l := l) (D := D) hSR hO_66
        refine lo_I (n := 1) (As := [.int 1]) (rest := []) hx hb hml hown hts hK hN hM9 (OX.at0 hO_66) gL_change_X4_heaviest rfl (by decide +kernel) (by decide) dL_change_413 rfl rfl (Nat.le_of_ble_eq_true rfl) hl.1 (Nat.le_of_ble_eq_true rfl) (Nat.le_of_ble_eq_true rfl) (Nat.le_of_ble_eq_true rfl) (Nat.le_of_ble_eq_true rfl) hP hD hS hA (fun H locs hP hD hS => ?_)
        clear hM9
        refine lv_istore (lv' := [(13, .int (hvM S)), (12, .int (hwF S (hvM S))), (11, .int (smF (S 4) 9)), (10, .int (nI z)), (9, .int (nI q)), (8, .int 0), (7, .int (nI nw)), (6, .int (S 7 2)), (5, .int 0), (4, .int (nI z)), (3, .int (nI q)), (0, .ref x0), (1, .int x), (2, .int y)]) hx hb dL_change_416 hl (by decide) rfl (fun ls hl => ?_)
        refine lv_aload_n hx hb dL_change_418 rfl (lv_at hl 11 rfl) ?_
        refine lv_bipush (v := 9) hx hb dL_change_419 (by decide) ?_
        obtain ⟨X_69, hO_70, hM9⟩ := o_count_9 (l := l) (D := D) hSR hO_68
        refine lo_I (n := 1) (As := [.int 9]) (rest := []) hx hb hml hown hts hK hN hM9 (OX.at0 hO_68) gL_change_X4_count rfl (by decide +kernel) (by decide) dL_change_421 rfl rfl (Nat.le_of_ble_eq_true rfl) hl.1 (Nat.le_of_ble_eq_true rfl) (Nat.le_of_ble_eq_true rfl) (Nat.le_of_ble_eq_true rfl) (Nat.le_of_ble_eq_true rfl) hP hD hS hA (fun H locs hP hD hS => ?_)
        clear hM9
        refine lv_istore (lv' := [(5, .int (S 7 1)), (13, .int (hvM S)), (12, .int (hwF S (hvM S))), (11, .int (smF (S 4) 9)), (10, .int (nI z)), (9, .int (nI q)), (8, .int 0), (7, .int (nI nw)), (6, .int (S 7 2)), (4, .int (nI z)), (3, .int (nI q)), (0, .ref x0), (1, .int x), (2, .int y)]) hx hb dL_change_424 hl (by decide) rfl (fun ls hl => ?_)
        refine lv_iload hx hb dL_change_426 (lv_at hl 2 rfl) ?_
        refine lv_iconst (v := 1) hx hb dL_change_428 (by decide) ?_
        refine lv_icmp_lt (tgt := 439) hx hb dL_change_429 (by decide) (fun c_71 => ?_) (fun c_71 => ?_)
        · have hst := st_ref hSR hnw (Or.inl c_71)
          refine lv_aload_n hx hb dL_change_439 rfl (lv_at hl 11 rfl) ?_
          obtain ⟨X_72, hO_73, hM9⟩ := o_step (l := l) (D := D) hSR hO_70 hns (nw := nw) hn hn2
          refine lo_I (n := 0) (As := []) (rest := []) hx hb hml hown hts hK hN hM9 (OX.at0 hO_70) gL_change_X4_step rfl (by decide +kernel) (by decide) dL_change_440 rfl rfl (Nat.le_of_ble_eq_true rfl) hl.1 (Nat.le_of_ble_eq_true rfl) (Nat.le_of_ble_eq_true rfl) (Nat.le_of_ble_eq_true rfl) (Nat.le_of_ble_eq_true rfl) hP hD hS hA (fun H locs hP hD hS => ?_)
          clear hM9
          refine tp_e (y := 0) (by rw [hst]) ?_
          rw [hst] at hO_73
          have hO_73 : OX k x0 (svN ns) (rfS S) _ Y0 k0 X_72 := hO_73
          have hns2 : (svN ns) ≤ 6 := (svN_le hns).1
          have hL2 : LI (rfS S) := LI_rf hL
          obtain ⟨f2, hSR2, -, -⟩ := id hL2
          refine lv_if_ne (tgt := 483) hx hb dL_change_443 (by decide) (fun c_74 => ?_) (fun c_74 => ?_)
          · exact absurd c_74 (by decide)
          · refine lv_aload_n hx hb dL_change_446 rfl (lv_at hl 11 rfl) ?_
            refine lv_bipush (v := 10) hx hb dL_change_447 (by decide) ?_
            obtain ⟨X_75, hO_76, hM9⟩ := o_count_10 (l := l) (D := D) hSR2 hO_73
            refine lo_I (n := 1) (As := [.int 10]) (rest := []) hx hb hml hown hts hK hN hM9 (OX.at0 hO_73) gL_change_X4_count rfl (by decide +kernel) (by decide) dL_change_449 rfl rfl (Nat.le_of_ble_eq_true rfl) hl.1 (Nat.le_of_ble_eq_true rfl) (Nat.le_of_ble_eq_true rfl) (Nat.le_of_ble_eq_true rfl) (Nat.le_of_ble_eq_true rfl) hP hD hS hA (fun H locs hP hD hS => ?_)
            clear hM9
            refine lv_iload hx hb dL_change_452 (lv_at hl 8 rfl) ?_
            refine lv_iconst (v := 1) hx hb dL_change_454 (by decide) ?_
            refine lv_iadd hx hb dL_change_455 ?_
            refine lv_icmp_ne (tgt := 483) hx hb dL_change_456 (by decide) (fun c_77 => ?_) (fun c_77 => ?_)
            · exact absurd (rfl) c_77
            · refine lv_aload_n hx hb dL_change_459 rfl (lv_at hl 11 rfl) ?_
              refine lv_iconst (v := 3) hx hb dL_change_460 (by decide) ?_
              obtain ⟨X_78, hO_79, hM9⟩ := o_count_3 (l := l) (D := D) hSR2 hO_76
              refine lo_I (n := 1) (As := [.int 3]) (rest := []) hx hb hml hown hts hK hN hM9 (OX.at0 hO_76) gL_change_X4_count rfl (by decide +kernel) (by decide) dL_change_461 rfl rfl (Nat.le_of_ble_eq_true rfl) hl.1 (Nat.le_of_ble_eq_true rfl) (Nat.le_of_ble_eq_true rfl) (Nat.le_of_ble_eq_true rfl) (Nat.le_of_ble_eq_true rfl) hP hD hS hA (fun H locs hP hD hS => ?_)
              clear hM9
              refine lv_iload hx hb dL_change_464 (lv_at hl 7 rfl) ?_
              refine lv_icmp_ne (tgt := 483) hx hb dL_change_466 (by decide) (fun c_80 => ?_) (fun c_80 => ?_)
              · exact absurd (hn) c_80
              · refine lv_aload_n hx hb dL_change_469 rfl (lv_at hl 11 rfl) ?_
                refine lv_iconst (v := 2) hx hb dL_change_470 (by decide) ?_
                obtain ⟨X_81, hO_82, hM9⟩ := o_count_2 (l := l) (D := D) hSR2 hO_79
                refine lo_I (n := 1) (As := [.int 2]) (rest := []) hx hb hml hown hts hK hN hM9 (OX.at0 hO_79) gL_change_X4_count rfl (by decide +kernel) (by decide) dL_change_471 rfl rfl (Nat.le_of_ble_eq_true rfl) hl.1 (Nat.le_of_ble_eq_true rfl) (Nat.le_of_ble_eq_true rfl) (Nat.le_of_ble_eq_true rfl) (Nat.le_of_ble_eq_true rfl) hP hD hS hA (fun H locs hP hD hS => ?_)
                clear hM9
                refine lv_iload hx hb dL_change_474 (lv_at hl 3 rfl) ?_
                refine lv_icmp_ne (tgt := 483) hx hb dL_change_476 (by decide) (fun c_83 => ?_) (fun c_83 => ?_)
                · exact absurd (rfl) c_83
                · refine lv_iconst (v := 1) hx hb dL_change_479 (by decide) ?_
                  refine lv_goto (tgt := 484) hx hb dL_change_480 (by decide) ?_
                  subst hQ
                  exact rt_zo hx hb hr hlocks hS dL_change_484 (va_PR hP) (va_DR hD) rfl (⟨rfl, _, _, _, hns2, hL2, hO_82⟩)
        · have hge := c_71
          refine lv_iload hx hb dL_change_432 (lv_at hl 7 rfl) ?_
          refine lv_bipush (v := 12) hx hb dL_change_434 (by decide) ?_
          refine lv_icmp_ne (tgt := 485) hx hb dL_change_436 (by decide) (fun c_84 => ?_) (fun c_84 => ?_)
          · have c_84 : ¬ (nw = 12) := fun h9 => c_84 ((nI_eq (a := nw) (b := 12) (by omega) (by omega)).mpr h9)
            obtain ⟨b, w, b1, b2, w1, w2, n1, em, ew, ewm, hst⟩ := st_go hSR hnw hge c_84
            refine lv_aload_n hx hb dL_change_485 rfl (lv_at hl 11 rfl) ?_
            obtain ⟨X_85, hO_86, hM9⟩ := o_step (l := l) (D := D) hSR hO_70 hns (nw := nw) hn hn2
            refine lo_I (n := 0) (As := []) (rest := []) hx hb hml hown hts hK hN hM9 (OX.at0 hO_70) gL_change_X4_step rfl (by decide +kernel) (by decide) dL_change_486 rfl rfl (Nat.le_of_ble_eq_true rfl) hl.1 (Nat.le_of_ble_eq_true rfl) (Nat.le_of_ble_eq_true rfl) (Nat.le_of_ble_eq_true rfl) (Nat.le_of_ble_eq_true rfl) hP hD hS hA (fun H locs hP hD hS => ?_)
            clear hM9
            refine tp_e (y := (nI w)) (by rw [hst]) ?_
            rw [hst] at hO_86
            have hO_86 : OX k x0 (svN ns) (tkS S (nI b) (nI w) nw) _ Y0 k0 X_85 := hO_86
            have hns2 : (svN ns) ≤ 6 := (svN_le hns).1
            have hL2 : LI (tkS S (nI b) (nI w) nw) := LI_tk hSR hBR hEX hnw n1 b2 ewm w2
            obtain ⟨f2, hSR2, -, -⟩ := id hL2
            have hn3 : (tkS S (nI b) (nI w) nw) 7 0 = nI (nw + 1) := by show S 7 0 + 1 = _; rw [hn, show (1 : Int32) = nI 1 from rfl, nI_add]
            have hn4 : nw + 1 ≤ 12 := by omega
            refine lv_iload hx hb dL_change_489 (lv_at hl 2 rfl) ?_
            refine lv_icmp_ne (tgt := 569) hx hb dL_change_491 (by decide) (fun c_87 => ?_) (fun c_87 => ?_)
            · exact absurd (ew.symm) c_87
            · refine lv_aload_n hx hb dL_change_494 rfl (lv_at hl 11 rfl) ?_
              refine lv_bipush (v := 9) hx hb dL_change_495 (by decide) ?_
              obtain ⟨X_88, hO_89, hM9⟩ := o_count_9 (l := l) (D := D) hSR2 hO_86
              refine lo_I (n := 1) (As := [.int 9]) (rest := []) hx hb hml hown hts hK hN hM9 (OX.at0 hO_86) gL_change_X4_count rfl (by decide +kernel) (by decide) dL_change_497 rfl rfl (Nat.le_of_ble_eq_true rfl) hl.1 (Nat.le_of_ble_eq_true rfl) (Nat.le_of_ble_eq_true rfl) (Nat.le_of_ble_eq_true rfl) (Nat.le_of_ble_eq_true rfl) hP hD hS hA (fun H locs hP hD hS => ?_)
              clear hM9
              refine lv_iload hx hb dL_change_500 (lv_at hl 0 rfl) ?_
              refine lv_iconst (v := 1) hx hb dL_change_502 (by decide) ?_
              refine lv_iadd hx hb dL_change_503 ?_
              refine lv_icmp_ne (tgt := 569) hx hb dL_change_504 (by decide) (fun c_90 => ?_) (fun c_90 => ?_)
              · exact absurd (rfl) c_90
              · refine lv_aload_n hx hb dL_change_507 rfl (lv_at hl 11 rfl) ?_
                refine lv_iload hx hb dL_change_508 (lv_at hl 7 rfl) ?_
                refine lv_iconst (v := 0) hx hb dL_change_510 (by decide) ?_
                obtain ⟨X_91, hO_92, hM9⟩ := o_noted_0 (l := l) (D := D) hSR2 hO_89 (r := nw) (nw := (nw + 1)) (by omega) hn3 hn4
                refine lo_I (n := 2) (As := [.int (nI nw), .int 0]) (rest := []) hx hb hml hown hts hK hN hM9 (OX.at0 hO_89) gL_change_X4_noted rfl (by decide +kernel) (by decide) dL_change_511 rfl rfl (Nat.le_of_ble_eq_true rfl) hl.1 (Nat.le_of_ble_eq_true rfl) (Nat.le_of_ble_eq_true rfl) (Nat.le_of_ble_eq_true rfl) (Nat.le_of_ble_eq_true rfl) hP hD hS hA (fun H locs hP hD hS => ?_)
                clear hM9
                refine lv_iload hx hb dL_change_514 (lv_at hl 2 rfl) ?_
                refine lv_icmp_ne (tgt := 569) hx hb dL_change_516 (by decide) (fun c_93 => ?_) (fun c_93 => ?_)
                · exact absurd (by unfold ntF; rw [if_neg (by omega), ew]; exact upd_e _ _ _) c_93
                · refine lv_aload_n hx hb dL_change_519 rfl (lv_at hl 11 rfl) ?_
                  refine lv_iload hx hb dL_change_520 (lv_at hl 7 rfl) ?_
                  refine lv_iconst (v := 1) hx hb dL_change_522 (by decide) ?_
                  obtain ⟨X_94, hO_95, hM9⟩ := o_noted_1 (l := l) (D := D) hSR2 hO_92 (r := nw) (nw := (nw + 1)) (by omega) hn3 hn4
                  refine lo_I (n := 2) (As := [.int (nI nw), .int 1]) (rest := []) hx hb hml hown hts hK hN hM9 (OX.at0 hO_92) gL_change_X4_noted rfl (by decide +kernel) (by decide) dL_change_523 rfl rfl (Nat.le_of_ble_eq_true rfl) hl.1 (Nat.le_of_ble_eq_true rfl) (Nat.le_of_ble_eq_true rfl) (Nat.le_of_ble_eq_true rfl) (Nat.le_of_ble_eq_true rfl) hP hD hS hA (fun H locs hP hD hS => ?_)
                  clear hM9
                  refine lv_iload hx hb dL_change_526 (lv_at hl 1 rfl) ?_
                  refine lv_icmp_ne (tgt := 569) hx hb dL_change_528 (by decide) (fun c_96 => ?_) (fun c_96 => ?_)
                  · exact absurd (by unfold ntF; rw [if_neg (by omega), em]; exact upd_e _ _ _) c_96
                  · refine lv_aload_n hx hb dL_change_531 rfl (lv_at hl 11 rfl) ?_
                    refine lv_iload hx hb dL_change_532 (lv_at hl 7 rfl) ?_
                    refine lv_iconst (v := 1) hx hb dL_change_534 (by decide) ?_
                    refine lv_iadd hx hb dL_change_535 ?_
                    refine tp_e (y := (nI (nw + 1))) (nI_add nw 1) ?_
                    refine lv_iconst (v := 0) hx hb dL_change_536 (by decide) ?_
                    obtain ⟨X_97, hO_98, hM9⟩ := o_noted_0 (l := l) (D := D) hSR2 hO_95 (r := (nw + 1)) (nw := (nw + 1)) (by omega) hn3 hn4
                    refine lo_I (n := 2) (As := [.int (nI (nw + 1)), .int 0]) (rest := []) hx hb hml hown hts hK hN hM9 (OX.at0 hO_95) gL_change_X4_noted rfl (by decide +kernel) (by decide) dL_change_537 rfl rfl (Nat.le_of_ble_eq_true rfl) hl.1 (Nat.le_of_ble_eq_true rfl) (Nat.le_of_ble_eq_true rfl) (Nat.le_of_ble_eq_true rfl) (Nat.le_of_ble_eq_true rfl) hP hD hS hA (fun H locs hP hD hS => ?_)
                    clear hM9
                    refine lv_iconst (v := (-1)) hx hb dL_change_540 (by decide) ?_
                    refine lv_icmp_ne (tgt := 569) hx hb dL_change_541 (by decide) (fun c_99 => ?_) (fun c_99 => ?_)
                    · exact absurd (if_pos (Nat.le_refl _)) c_99
                    · refine lv_aload_n hx hb dL_change_544 rfl (lv_at hl 11 rfl) ?_
                      refine lv_iconst (v := 2) hx hb dL_change_545 (by decide) ?_
                      obtain ⟨X_100, hO_101, hM9⟩ := o_count_2 (l := l) (D := D) hSR2 hO_98
                      refine lo_I (n := 1) (As := [.int 2]) (rest := []) hx hb hml hown hts hK hN hM9 (OX.at0 hO_98) gL_change_X4_count rfl (by decide +kernel) (by decide) dL_change_546 rfl rfl (Nat.le_of_ble_eq_true rfl) hl.1 (Nat.le_of_ble_eq_true rfl) (Nat.le_of_ble_eq_true rfl) (Nat.le_of_ble_eq_true rfl) (Nat.le_of_ble_eq_true rfl) hP hD hS hA (fun H locs hP hD hS => ?_)
                      clear hM9
                      refine lv_iload hx hb dL_change_549 (lv_at hl 3 rfl) ?_
                      refine lv_iload hx hb dL_change_551 (lv_at hl 2 rfl) ?_
                      refine lv_aload_n hx hb dL_change_553 rfl (lv_at hl 11 rfl) ?_
                      refine lv_iload hx hb dL_change_554 (lv_at hl 7 rfl) ?_
                      refine lv_iconst (v := 2) hx hb dL_change_556 (by decide) ?_
                      obtain ⟨X_102, hO_103, hM9⟩ := o_noted_2 (l := l) (D := D) hSR2 hO_101 (r := nw) (nw := (nw + 1)) (by omega) hn3 hn4
                      refine lo_I (n := 2) (As := [.int (nI nw), .int 2]) (rest := [.int (hwF S (hvM S)), .int (smF (S 4) 9), .int (smF ((tkS S (nI b) (nI w) nw) 4) 9)]) hx hb hml hown hts hK hN hM9 (OX.at0 hO_101) gL_change_X4_noted rfl (by decide +kernel) (by decide) dL_change_557 rfl rfl (Nat.le_of_ble_eq_true rfl) hl.1 (Nat.le_of_ble_eq_true rfl) (Nat.le_of_ble_eq_true rfl) (Nat.le_of_ble_eq_true rfl) (Nat.le_of_ble_eq_true rfl) hP hD hS hA (fun H locs hP hD hS => ?_)
                      clear hM9
                      refine lv_imul hx hb dL_change_560 ?_
                      refine lv_isub hx hb dL_change_561 ?_
                      refine lv_icmp_ne (tgt := 569) hx hb dL_change_562 (by decide) (fun c_104 => ?_) (fun c_104 => ?_)
                      · exact absurd (by unfold ntF; rw [if_neg (show ¬ nw + 1 ≤ nw from by omega), ew]; show smF (twF (S 4) (nI b) (nI w) 9) 9 = smF (S 4) 9 - nI w * bcF (upd (S 6) nw (nI b) nw); rw [upd_e]; exact sm_take b2 _ _) c_104
                      · refine lv_iconst (v := 1) hx hb dL_change_565 (by decide) ?_
                        refine lv_goto (tgt := 570) hx hb dL_change_566 (by decide) ?_
                        subst hQ
                        exact rt_zo hx hb hr hlocks hS dL_change_570 (va_PR hP) (va_DR hD) rfl (⟨rfl, _, _, _, hns2, hL2, hO_103⟩)
          · have c_84 : nw = 12 := (nI_eq (a := nw) (b := 12) (by omega) (by omega)).mp c_84
            have hst := st_ref hSR hnw (Or.inr c_84)
            refine lv_aload_n hx hb dL_change_439 rfl (lv_at hl 11 rfl) ?_
            obtain ⟨X_105, hO_106, hM9⟩ := o_step (l := l) (D := D) hSR hO_70 hns (nw := nw) hn hn2
            refine lo_I (n := 0) (As := []) (rest := []) hx hb hml hown hts hK hN hM9 (OX.at0 hO_70) gL_change_X4_step rfl (by decide +kernel) (by decide) dL_change_440 rfl rfl (Nat.le_of_ble_eq_true rfl) hl.1 (Nat.le_of_ble_eq_true rfl) (Nat.le_of_ble_eq_true rfl) (Nat.le_of_ble_eq_true rfl) (Nat.le_of_ble_eq_true rfl) hP hD hS hA (fun H locs hP hD hS => ?_)
            clear hM9
            refine tp_e (y := 0) (by rw [hst]) ?_
            rw [hst] at hO_106
            have hO_106 : OX k x0 (svN ns) (rfS S) _ Y0 k0 X_105 := hO_106
            have hns2 : (svN ns) ≤ 6 := (svN_le hns).1
            have hL2 : LI (rfS S) := LI_rf hL
            obtain ⟨f2, hSR2, -, -⟩ := id hL2
            refine lv_if_ne (tgt := 483) hx hb dL_change_443 (by decide) (fun c_107 => ?_) (fun c_107 => ?_)
            · exact absurd c_107 (by decide)
            · refine lv_aload_n hx hb dL_change_446 rfl (lv_at hl 11 rfl) ?_
              refine lv_bipush (v := 10) hx hb dL_change_447 (by decide) ?_
              obtain ⟨X_108, hO_109, hM9⟩ := o_count_10 (l := l) (D := D) hSR2 hO_106
              refine lo_I (n := 1) (As := [.int 10]) (rest := []) hx hb hml hown hts hK hN hM9 (OX.at0 hO_106) gL_change_X4_count rfl (by decide +kernel) (by decide) dL_change_449 rfl rfl (Nat.le_of_ble_eq_true rfl) hl.1 (Nat.le_of_ble_eq_true rfl) (Nat.le_of_ble_eq_true rfl) (Nat.le_of_ble_eq_true rfl) (Nat.le_of_ble_eq_true rfl) hP hD hS hA (fun H locs hP hD hS => ?_)
              clear hM9
              refine lv_iload hx hb dL_change_452 (lv_at hl 8 rfl) ?_
              refine lv_iconst (v := 1) hx hb dL_change_454 (by decide) ?_
              refine lv_iadd hx hb dL_change_455 ?_
              refine lv_icmp_ne (tgt := 483) hx hb dL_change_456 (by decide) (fun c_110 => ?_) (fun c_110 => ?_)
              · exact absurd (rfl) c_110
              · refine lv_aload_n hx hb dL_change_459 rfl (lv_at hl 11 rfl) ?_
                refine lv_iconst (v := 3) hx hb dL_change_460 (by decide) ?_
                obtain ⟨X_111, hO_112, hM9⟩ := o_count_3 (l := l) (D := D) hSR2 hO_109
                refine lo_I (n := 1) (As := [.int 3]) (rest := []) hx hb hml hown hts hK hN hM9 (OX.at0 hO_109) gL_change_X4_count rfl (by decide +kernel) (by decide) dL_change_461 rfl rfl (Nat.le_of_ble_eq_true rfl) hl.1 (Nat.le_of_ble_eq_true rfl) (Nat.le_of_ble_eq_true rfl) (Nat.le_of_ble_eq_true rfl) (Nat.le_of_ble_eq_true rfl) hP hD hS hA (fun H locs hP hD hS => ?_)
                clear hM9
                refine lv_iload hx hb dL_change_464 (lv_at hl 7 rfl) ?_
                refine lv_icmp_ne (tgt := 483) hx hb dL_change_466 (by decide) (fun c_113 => ?_) (fun c_113 => ?_)
                · exact absurd (hn) c_113
                · refine lv_aload_n hx hb dL_change_469 rfl (lv_at hl 11 rfl) ?_
                  refine lv_iconst (v := 2) hx hb dL_change_470 (by decide) ?_
                  obtain ⟨X_114, hO_115, hM9⟩ := o_count_2 (l := l) (D := D) hSR2 hO_112
                  refine lo_I (n := 1) (As := [.int 2]) (rest := []) hx hb hml hown hts hK hN hM9 (OX.at0 hO_112) gL_change_X4_count rfl (by decide +kernel) (by decide) dL_change_471 rfl rfl (Nat.le_of_ble_eq_true rfl) hl.1 (Nat.le_of_ble_eq_true rfl) (Nat.le_of_ble_eq_true rfl) (Nat.le_of_ble_eq_true rfl) (Nat.le_of_ble_eq_true rfl) hP hD hS hA (fun H locs hP hD hS => ?_)
                  clear hM9
                  refine lv_iload hx hb dL_change_474 (lv_at hl 3 rfl) ?_
                  refine lv_icmp_ne (tgt := 483) hx hb dL_change_476 (by decide) (fun c_116 => ?_) (fun c_116 => ?_)
                  · exact absurd (rfl) c_116
                  · refine lv_iconst (v := 1) hx hb dL_change_479 (by decide) ?_
                    refine lv_goto (tgt := 484) hx hb dL_change_480 (by decide) ?_
                    subst hQ
                    exact rt_zo hx hb hr hlocks hS dL_change_484 (va_PR hP) (va_DR hD) rfl (⟨rfl, _, _, _, hns2, hL2, hO_115⟩)
  · have c_5 : q = z := (nI_eq (a := q) (b := z) (by omega) (by omega)).mp c_5
    refine lv_iconst (v := 1) hx hb dL_change_41 (by decide) ?_
    refine lv_goto (tgt := 46) hx hb dL_change_42 (by decide) ?_
    refine lv_istore (lv' := [(8, .int 1), (7, .int (nI nw)), (6, .int (S 7 2)), (5, .int 0), (4, .int (nI z)), (3, .int (nI q)), (0, .ref x0), (1, .int x), (2, .int y)]) hx hb dL_change_46 hl (by decide) rfl (fun ls hl => ?_)
    refine lv_iload_n hx hb dL_change_48 rfl (lv_at hl 5 rfl) ?_
    refine lv_iload hx hb dL_change_49 (lv_at hl 4 rfl) ?_
    refine lv_icmp_ge (tgt := 58) hx hb dL_change_51 (by decide) (fun c_117 => ?_) (fun c_117 => ?_)
    · have c_117 : z ≤ q := (nI_leI (a := z) (b := q) (by omega) (by omega)).mp c_117
      refine lv_iload hx hb dL_change_58 (lv_at hl 4 rfl) ?_
      refine lv_istore (lv' := [(9, .int (nI z)), (8, .int 1), (7, .int (nI nw)), (6, .int (S 7 2)), (5, .int 0), (4, .int (nI z)), (3, .int (nI q)), (0, .ref x0), (1, .int x), (2, .int y)]) hx hb dL_change_60 hl (by decide) rfl (fun ls hl => ?_)
      refine lv_iload_n hx hb dL_change_62 rfl (lv_at hl 6 rfl) ?_
      refine lv_iload hx hb dL_change_63 (lv_at hl 5 rfl) ?_
      refine lv_icmp_ge (tgt := 73) hx hb dL_change_65 (by decide) (fun c_118 => ?_) (fun c_118 => ?_)
      · have c_118 : z ≤ q := (nI_leI (a := z) (b := q) (by omega) (by omega)).mp c_118
        refine lv_iload_n hx hb dL_change_73 rfl (lv_at hl 6 rfl) ?_
        refine lv_istore (lv' := [(10, .int (nI q)), (9, .int (nI z)), (8, .int 1), (7, .int (nI nw)), (6, .int (S 7 2)), (5, .int 0), (4, .int (nI z)), (3, .int (nI q)), (0, .ref x0), (1, .int x), (2, .int y)]) hx hb dL_change_74 hl (by decide) rfl (fun ls hl => ?_)
        refine lv_iload_n hx hb dL_change_76 rfl (lv_at hl 9 rfl) ?_
        refine lv_bipush (v := 16) hx hb dL_change_77 (by decide) ?_
        have hPc : va_P D vwCl ([]) H := hP.sub [] rfl
        have hDc : va_D A ([]) := hD.sub [] (by decide +kernel) rfl
        refine cl_i0 (va_runS (As := [.int x, .int 16]) (rest := []) ⟨hx, hb, hml, hown, hts⟩ (c_L_low_16 l D k x H.size) (va_cwS 2 hts gL_change_L_low rfl rfl rfl (by decide +kernel) ⟨Nat.le_of_ble_eq_true rfl, Nat.le_of_ble_eq_true rfl⟩) ⟨pr_blind, pr_at hN hPc hK hDc⟩ rfl rfl hl.1 rfl (lv_room (Nat.le_of_ble_eq_true rfl)) dL_change_79 ⟨Nat.le_of_ble_eq_true rfl, Nat.le_of_ble_eq_true rfl⟩) hP hD hS hA [] rfl (fun H locs hP hD hS => ?_)
        clear hPc hDc
        refine tp_e (y := 11) (congrArg nI hx16) ?_
        refine lv_tableIn (off := 315) (tgt := 397) hx hb dL_change_82 (by decide) (by decide) rfl (by decide) ?_
        refine lv_aload_n hx hb dL_change_397 rfl (lv_at hl 8 rfl) ?_
        refine lv_iconst (v := 2) hx hb dL_change_398 (by decide) ?_
        obtain ⟨X_119, hO_120, hM9⟩ := o_count_2 (l := l) (D := D) hSR hO_4
        refine lo_I (n := 1) (As := [.int 2]) (rest := []) hx hb hml hown hts hK hN hM9 (OX.at0 hO_4) gL_change_X4_count rfl (by decide +kernel) (by decide) dL_change_399 rfl rfl (Nat.le_of_ble_eq_true rfl) hl.1 (Nat.le_of_ble_eq_true rfl) (Nat.le_of_ble_eq_true rfl) (Nat.le_of_ble_eq_true rfl) (Nat.le_of_ble_eq_true rfl) hP hD hS hA (fun H locs hP hD hS => ?_)
        clear hM9
        refine lv_istore (lv' := [(11, .int (smF (S 4) 9)), (10, .int (nI q)), (9, .int (nI z)), (8, .int 1), (7, .int (nI nw)), (6, .int (S 7 2)), (5, .int 0), (4, .int (nI z)), (3, .int (nI q)), (0, .ref x0), (1, .int x), (2, .int y)]) hx hb dL_change_402 hl (by decide) rfl (fun ls hl => ?_)
        refine lv_aload_n hx hb dL_change_404 rfl (lv_at hl 9 rfl) ?_
        refine lv_iconst (v := 0) hx hb dL_change_405 (by decide) ?_
        obtain ⟨X_121, hO_122, hM9⟩ := o_heaviest_0 (l := l) (D := D) hSR hO_120
        refine lo_I (n := 1) (As := [.int 0]) (rest := []) hx hb hml hown hts hK hN hM9 (OX.at0 hO_120) gL_change_X4_heaviest rfl (by decide +kernel) (by decide) dL_change_406 rfl rfl (Nat.le_of_ble_eq_true rfl) hl.1 (Nat.le_of_ble_eq_true rfl) (Nat.le_of_ble_eq_true rfl) (Nat.le_of_ble_eq_true rfl) (Nat.le_of_ble_eq_true rfl) hP hD hS hA (fun H locs hP hD hS => ?_)
        clear hM9
        refine lv_istore (lv' := [(12, .int (hwF S (hvM S))), (11, .int (smF (S 4) 9)), (10, .int (nI q)), (9, .int (nI z)), (8, .int 1), (7, .int (nI nw)), (6, .int (S 7 2)), (5, .int 0), (4, .int (nI z)), (3, .int (nI q)), (0, .ref x0), (1, .int x), (2, .int y)]) hx hb dL_change_409 hl (by decide) rfl (fun ls hl => ?_)
        refine lv_aload_n hx hb dL_change_411 rfl (lv_at hl 10 rfl) ?_
        refine lv_iconst (v := 1) hx hb dL_change_412 (by decide) ?_
        obtain ⟨X_123, hO_124, hM9⟩ := o_heaviest_1 (l := l) (D := D) hSR hO_122
        refine lo_I (n := 1) (As := [.int 1]) (rest := []) hx hb hml hown hts hK hN hM9 (OX.at0 hO_122) gL_change_X4_heaviest rfl (by decide +kernel) (by decide) dL_change_413 rfl rfl (Nat.le_of_ble_eq_true rfl) hl.1 (Nat.le_of_ble_eq_true rfl) (Nat.le_of_ble_eq_true rfl) (Nat.le_of_ble_eq_true rfl) (Nat.le_of_ble_eq_true rfl) hP hD hS hA (fun H locs hP hD hS => ?_)
        clear hM9
        refine lv_istore (lv' := [(13, .int (hvM S)), (12, .int (hwF S (hvM S))), (11, .int (smF (S 4) 9)), (10, .int (nI q)), (9, .int (nI z)), (8, .int 1), (7, .int (nI nw)), (6, .int (S 7 2)), (5, .int 0), (4, .int (nI z)), (3, .int (nI q)), (0, .ref x0), (1, .int x), (2, .int y)]) hx hb dL_change_416 hl (by decide) rfl (fun ls hl => ?_)
        refine lv_aload_n hx hb dL_change_418 rfl (lv_at hl 11 rfl) ?_
        refine lv_bipush (v := 9) hx hb dL_change_419 (by decide) ?_
        obtain ⟨X_125, hO_126, hM9⟩ := o_count_9 (l := l) (D := D) hSR hO_124
        refine lo_I (n := 1) (As := [.int 9]) (rest := []) hx hb hml hown hts hK hN hM9 (OX.at0 hO_124) gL_change_X4_count rfl (by decide +kernel) (by decide) dL_change_421 rfl rfl (Nat.le_of_ble_eq_true rfl) hl.1 (Nat.le_of_ble_eq_true rfl) (Nat.le_of_ble_eq_true rfl) (Nat.le_of_ble_eq_true rfl) (Nat.le_of_ble_eq_true rfl) hP hD hS hA (fun H locs hP hD hS => ?_)
        clear hM9
        refine lv_istore (lv' := [(5, .int (S 7 1)), (13, .int (hvM S)), (12, .int (hwF S (hvM S))), (11, .int (smF (S 4) 9)), (10, .int (nI q)), (9, .int (nI z)), (8, .int 1), (7, .int (nI nw)), (6, .int (S 7 2)), (4, .int (nI z)), (3, .int (nI q)), (0, .ref x0), (1, .int x), (2, .int y)]) hx hb dL_change_424 hl (by decide) rfl (fun ls hl => ?_)
        refine lv_iload hx hb dL_change_426 (lv_at hl 2 rfl) ?_
        refine lv_iconst (v := 1) hx hb dL_change_428 (by decide) ?_
        refine lv_icmp_lt (tgt := 439) hx hb dL_change_429 (by decide) (fun c_127 => ?_) (fun c_127 => ?_)
        · have hst := st_ref hSR hnw (Or.inl c_127)
          refine lv_aload_n hx hb dL_change_439 rfl (lv_at hl 11 rfl) ?_
          obtain ⟨X_128, hO_129, hM9⟩ := o_step (l := l) (D := D) hSR hO_126 hns (nw := nw) hn hn2
          refine lo_I (n := 0) (As := []) (rest := []) hx hb hml hown hts hK hN hM9 (OX.at0 hO_126) gL_change_X4_step rfl (by decide +kernel) (by decide) dL_change_440 rfl rfl (Nat.le_of_ble_eq_true rfl) hl.1 (Nat.le_of_ble_eq_true rfl) (Nat.le_of_ble_eq_true rfl) (Nat.le_of_ble_eq_true rfl) (Nat.le_of_ble_eq_true rfl) hP hD hS hA (fun H locs hP hD hS => ?_)
          clear hM9
          refine tp_e (y := 0) (by rw [hst]) ?_
          rw [hst] at hO_129
          have hO_129 : OX k x0 (svN ns) (rfS S) _ Y0 k0 X_128 := hO_129
          have hns2 : (svN ns) ≤ 6 := (svN_le hns).1
          have hL2 : LI (rfS S) := LI_rf hL
          obtain ⟨f2, hSR2, -, -⟩ := id hL2
          refine lv_if_ne (tgt := 483) hx hb dL_change_443 (by decide) (fun c_130 => ?_) (fun c_130 => ?_)
          · exact absurd c_130 (by decide)
          · refine lv_aload_n hx hb dL_change_446 rfl (lv_at hl 11 rfl) ?_
            refine lv_bipush (v := 10) hx hb dL_change_447 (by decide) ?_
            obtain ⟨X_131, hO_132, hM9⟩ := o_count_10 (l := l) (D := D) hSR2 hO_129
            refine lo_I (n := 1) (As := [.int 10]) (rest := []) hx hb hml hown hts hK hN hM9 (OX.at0 hO_129) gL_change_X4_count rfl (by decide +kernel) (by decide) dL_change_449 rfl rfl (Nat.le_of_ble_eq_true rfl) hl.1 (Nat.le_of_ble_eq_true rfl) (Nat.le_of_ble_eq_true rfl) (Nat.le_of_ble_eq_true rfl) (Nat.le_of_ble_eq_true rfl) hP hD hS hA (fun H locs hP hD hS => ?_)
            clear hM9
            refine lv_iload hx hb dL_change_452 (lv_at hl 8 rfl) ?_
            refine lv_iconst (v := 1) hx hb dL_change_454 (by decide) ?_
            refine lv_iadd hx hb dL_change_455 ?_
            refine lv_icmp_ne (tgt := 483) hx hb dL_change_456 (by decide) (fun c_133 => ?_) (fun c_133 => ?_)
            · exact absurd (rfl) c_133
            · refine lv_aload_n hx hb dL_change_459 rfl (lv_at hl 11 rfl) ?_
              refine lv_iconst (v := 3) hx hb dL_change_460 (by decide) ?_
              obtain ⟨X_134, hO_135, hM9⟩ := o_count_3 (l := l) (D := D) hSR2 hO_132
              refine lo_I (n := 1) (As := [.int 3]) (rest := []) hx hb hml hown hts hK hN hM9 (OX.at0 hO_132) gL_change_X4_count rfl (by decide +kernel) (by decide) dL_change_461 rfl rfl (Nat.le_of_ble_eq_true rfl) hl.1 (Nat.le_of_ble_eq_true rfl) (Nat.le_of_ble_eq_true rfl) (Nat.le_of_ble_eq_true rfl) (Nat.le_of_ble_eq_true rfl) hP hD hS hA (fun H locs hP hD hS => ?_)
              clear hM9
              refine lv_iload hx hb dL_change_464 (lv_at hl 7 rfl) ?_
              refine lv_icmp_ne (tgt := 483) hx hb dL_change_466 (by decide) (fun c_136 => ?_) (fun c_136 => ?_)
              · exact absurd (hn) c_136
              · refine lv_aload_n hx hb dL_change_469 rfl (lv_at hl 11 rfl) ?_
                refine lv_iconst (v := 2) hx hb dL_change_470 (by decide) ?_
                obtain ⟨X_137, hO_138, hM9⟩ := o_count_2 (l := l) (D := D) hSR2 hO_135
                refine lo_I (n := 1) (As := [.int 2]) (rest := []) hx hb hml hown hts hK hN hM9 (OX.at0 hO_135) gL_change_X4_count rfl (by decide +kernel) (by decide) dL_change_471 rfl rfl (Nat.le_of_ble_eq_true rfl) hl.1 (Nat.le_of_ble_eq_true rfl) (Nat.le_of_ble_eq_true rfl) (Nat.le_of_ble_eq_true rfl) (Nat.le_of_ble_eq_true rfl) hP hD hS hA (fun H locs hP hD hS => ?_)
                clear hM9
                refine lv_iload hx hb dL_change_474 (lv_at hl 3 rfl) ?_
                refine lv_icmp_ne (tgt := 483) hx hb dL_change_476 (by decide) (fun c_139 => ?_) (fun c_139 => ?_)
                · exact absurd (rfl) c_139
                · refine lv_iconst (v := 1) hx hb dL_change_479 (by decide) ?_
                  refine lv_goto (tgt := 484) hx hb dL_change_480 (by decide) ?_
                  subst hQ
                  exact rt_zo hx hb hr hlocks hS dL_change_484 (va_PR hP) (va_DR hD) rfl (⟨rfl, _, _, _, hns2, hL2, hO_138⟩)
        · have hge := c_127
          refine lv_iload hx hb dL_change_432 (lv_at hl 7 rfl) ?_
          refine lv_bipush (v := 12) hx hb dL_change_434 (by decide) ?_
          refine lv_icmp_ne (tgt := 485) hx hb dL_change_436 (by decide) (fun c_140 => ?_) (fun c_140 => ?_)
          · have c_140 : ¬ (nw = 12) := fun h9 => c_140 ((nI_eq (a := nw) (b := 12) (by omega) (by omega)).mpr h9)
            obtain ⟨b, w, b1, b2, w1, w2, n1, em, ew, ewm, hst⟩ := st_go hSR hnw hge c_140
            refine lv_aload_n hx hb dL_change_485 rfl (lv_at hl 11 rfl) ?_
            obtain ⟨X_141, hO_142, hM9⟩ := o_step (l := l) (D := D) hSR hO_126 hns (nw := nw) hn hn2
            refine lo_I (n := 0) (As := []) (rest := []) hx hb hml hown hts hK hN hM9 (OX.at0 hO_126) gL_change_X4_step rfl (by decide +kernel) (by decide) dL_change_486 rfl rfl (Nat.le_of_ble_eq_true rfl) hl.1 (Nat.le_of_ble_eq_true rfl) (Nat.le_of_ble_eq_true rfl) (Nat.le_of_ble_eq_true rfl) (Nat.le_of_ble_eq_true rfl) hP hD hS hA (fun H locs hP hD hS => ?_)
            clear hM9
            refine tp_e (y := (nI w)) (by rw [hst]) ?_
            rw [hst] at hO_142
            have hO_142 : OX k x0 (svN ns) (tkS S (nI b) (nI w) nw) _ Y0 k0 X_141 := hO_142
            have hns2 : (svN ns) ≤ 6 := (svN_le hns).1
            have hL2 : LI (tkS S (nI b) (nI w) nw) := LI_tk hSR hBR hEX hnw n1 b2 ewm w2
            obtain ⟨f2, hSR2, -, -⟩ := id hL2
            have hn3 : (tkS S (nI b) (nI w) nw) 7 0 = nI (nw + 1) := by show S 7 0 + 1 = _; rw [hn, show (1 : Int32) = nI 1 from rfl, nI_add]
            have hn4 : nw + 1 ≤ 12 := by omega
            refine lv_iload hx hb dL_change_489 (lv_at hl 2 rfl) ?_
            refine lv_icmp_ne (tgt := 569) hx hb dL_change_491 (by decide) (fun c_143 => ?_) (fun c_143 => ?_)
            · exact absurd (ew.symm) c_143
            · refine lv_aload_n hx hb dL_change_494 rfl (lv_at hl 11 rfl) ?_
              refine lv_bipush (v := 9) hx hb dL_change_495 (by decide) ?_
              obtain ⟨X_144, hO_145, hM9⟩ := o_count_9 (l := l) (D := D) hSR2 hO_142
              refine lo_I (n := 1) (As := [.int 9]) (rest := []) hx hb hml hown hts hK hN hM9 (OX.at0 hO_142) gL_change_X4_count rfl (by decide +kernel) (by decide) dL_change_497 rfl rfl (Nat.le_of_ble_eq_true rfl) hl.1 (Nat.le_of_ble_eq_true rfl) (Nat.le_of_ble_eq_true rfl) (Nat.le_of_ble_eq_true rfl) (Nat.le_of_ble_eq_true rfl) hP hD hS hA (fun H locs hP hD hS => ?_)
              clear hM9
              refine lv_iload hx hb dL_change_500 (lv_at hl 0 rfl) ?_
              refine lv_iconst (v := 1) hx hb dL_change_502 (by decide) ?_
              refine lv_iadd hx hb dL_change_503 ?_
              refine lv_icmp_ne (tgt := 569) hx hb dL_change_504 (by decide) (fun c_146 => ?_) (fun c_146 => ?_)
              · exact absurd (rfl) c_146
              · refine lv_aload_n hx hb dL_change_507 rfl (lv_at hl 11 rfl) ?_
                refine lv_iload hx hb dL_change_508 (lv_at hl 7 rfl) ?_
                refine lv_iconst (v := 0) hx hb dL_change_510 (by decide) ?_
                obtain ⟨X_147, hO_148, hM9⟩ := o_noted_0 (l := l) (D := D) hSR2 hO_145 (r := nw) (nw := (nw + 1)) (by omega) hn3 hn4
                refine lo_I (n := 2) (As := [.int (nI nw), .int 0]) (rest := []) hx hb hml hown hts hK hN hM9 (OX.at0 hO_145) gL_change_X4_noted rfl (by decide +kernel) (by decide) dL_change_511 rfl rfl (Nat.le_of_ble_eq_true rfl) hl.1 (Nat.le_of_ble_eq_true rfl) (Nat.le_of_ble_eq_true rfl) (Nat.le_of_ble_eq_true rfl) (Nat.le_of_ble_eq_true rfl) hP hD hS hA (fun H locs hP hD hS => ?_)
                clear hM9
                refine lv_iload hx hb dL_change_514 (lv_at hl 2 rfl) ?_
                refine lv_icmp_ne (tgt := 569) hx hb dL_change_516 (by decide) (fun c_149 => ?_) (fun c_149 => ?_)
                · exact absurd (by unfold ntF; rw [if_neg (by omega), ew]; exact upd_e _ _ _) c_149
                · refine lv_aload_n hx hb dL_change_519 rfl (lv_at hl 11 rfl) ?_
                  refine lv_iload hx hb dL_change_520 (lv_at hl 7 rfl) ?_
                  refine lv_iconst (v := 1) hx hb dL_change_522 (by decide) ?_
                  obtain ⟨X_150, hO_151, hM9⟩ := o_noted_1 (l := l) (D := D) hSR2 hO_148 (r := nw) (nw := (nw + 1)) (by omega) hn3 hn4
                  refine lo_I (n := 2) (As := [.int (nI nw), .int 1]) (rest := []) hx hb hml hown hts hK hN hM9 (OX.at0 hO_148) gL_change_X4_noted rfl (by decide +kernel) (by decide) dL_change_523 rfl rfl (Nat.le_of_ble_eq_true rfl) hl.1 (Nat.le_of_ble_eq_true rfl) (Nat.le_of_ble_eq_true rfl) (Nat.le_of_ble_eq_true rfl) (Nat.le_of_ble_eq_true rfl) hP hD hS hA (fun H locs hP hD hS => ?_)
                  clear hM9
                  refine lv_iload hx hb dL_change_526 (lv_at hl 1 rfl) ?_
                  refine lv_icmp_ne (tgt := 569) hx hb dL_change_528 (by decide) (fun c_152 => ?_) (fun c_152 => ?_)
                  · exact absurd (by unfold ntF; rw [if_neg (by omega), em]; exact upd_e _ _ _) c_152
                  · refine lv_aload_n hx hb dL_change_531 rfl (lv_at hl 11 rfl) ?_
                    refine lv_iload hx hb dL_change_532 (lv_at hl 7 rfl) ?_
                    refine lv_iconst (v := 1) hx hb dL_change_534 (by decide) ?_
                    refine lv_iadd hx hb dL_change_535 ?_
                    refine tp_e (y := (nI (nw + 1))) (nI_add nw 1) ?_
                    refine lv_iconst (v := 0) hx hb dL_change_536 (by decide) ?_
                    obtain ⟨X_153, hO_154, hM9⟩ := o_noted_0 (l := l) (D := D) hSR2 hO_151 (r := (nw + 1)) (nw := (nw + 1)) (by omega) hn3 hn4
                    refine lo_I (n := 2) (As := [.int (nI (nw + 1)), .int 0]) (rest := []) hx hb hml hown hts hK hN hM9 (OX.at0 hO_151) gL_change_X4_noted rfl (by decide +kernel) (by decide) dL_change_537 rfl rfl (Nat.le_of_ble_eq_true rfl) hl.1 (Nat.le_of_ble_eq_true rfl) (Nat.le_of_ble_eq_true rfl) (Nat.le_of_ble_eq_true rfl) (Nat.le_of_ble_eq_true rfl) hP hD hS hA (fun H locs hP hD hS => ?_)
                    clear hM9
                    refine lv_iconst (v := (-1)) hx hb dL_change_540 (by decide) ?_
                    refine lv_icmp_ne (tgt := 569) hx hb dL_change_541 (by decide) (fun c_155 => ?_) (fun c_155 => ?_)
                    · exact absurd (if_pos (Nat.le_refl _)) c_155
                    · refine lv_aload_n hx hb dL_change_544 rfl (lv_at hl 11 rfl) ?_
                      refine lv_iconst (v := 2) hx hb dL_change_545 (by decide) ?_
                      obtain ⟨X_156, hO_157, hM9⟩ := o_count_2 (l := l) (D := D) hSR2 hO_154
                      refine lo_I (n := 1) (As := [.int 2]) (rest := []) hx hb hml hown hts hK hN hM9 (OX.at0 hO_154) gL_change_X4_count rfl (by decide +kernel) (by decide) dL_change_546 rfl rfl (Nat.le_of_ble_eq_true rfl) hl.1 (Nat.le_of_ble_eq_true rfl) (Nat.le_of_ble_eq_true rfl) (Nat.le_of_ble_eq_true rfl) (Nat.le_of_ble_eq_true rfl) hP hD hS hA (fun H locs hP hD hS => ?_)
                      clear hM9
                      refine lv_iload hx hb dL_change_549 (lv_at hl 3 rfl) ?_
                      refine lv_iload hx hb dL_change_551 (lv_at hl 2 rfl) ?_
                      refine lv_aload_n hx hb dL_change_553 rfl (lv_at hl 11 rfl) ?_
                      refine lv_iload hx hb dL_change_554 (lv_at hl 7 rfl) ?_
                      refine lv_iconst (v := 2) hx hb dL_change_556 (by decide) ?_
                      obtain ⟨X_158, hO_159, hM9⟩ := o_noted_2 (l := l) (D := D) hSR2 hO_157 (r := nw) (nw := (nw + 1)) (by omega) hn3 hn4
                      refine lo_I (n := 2) (As := [.int (nI nw), .int 2]) (rest := [.int (hwF S (hvM S)), .int (smF (S 4) 9), .int (smF ((tkS S (nI b) (nI w) nw) 4) 9)]) hx hb hml hown hts hK hN hM9 (OX.at0 hO_157) gL_change_X4_noted rfl (by decide +kernel) (by decide) dL_change_557 rfl rfl (Nat.le_of_ble_eq_true rfl) hl.1 (Nat.le_of_ble_eq_true rfl) (Nat.le_of_ble_eq_true rfl) (Nat.le_of_ble_eq_true rfl) (Nat.le_of_ble_eq_true rfl) hP hD hS hA (fun H locs hP hD hS => ?_)
                      clear hM9
                      refine lv_imul hx hb dL_change_560 ?_
                      refine lv_isub hx hb dL_change_561 ?_
                      refine lv_icmp_ne (tgt := 569) hx hb dL_change_562 (by decide) (fun c_160 => ?_) (fun c_160 => ?_)
                      · exact absurd (by unfold ntF; rw [if_neg (show ¬ nw + 1 ≤ nw from by omega), ew]; show smF (twF (S 4) (nI b) (nI w) 9) 9 = smF (S 4) 9 - nI w * bcF (upd (S 6) nw (nI b) nw); rw [upd_e]; exact sm_take b2 _ _) c_160
                      · refine lv_iconst (v := 1) hx hb dL_change_565 (by decide) ?_
                        refine lv_goto (tgt := 570) hx hb dL_change_566 (by decide) ?_
                        subst hQ
                        exact rt_zo hx hb hr hlocks hS dL_change_570 (va_PR hP) (va_DR hD) rfl (⟨rfl, _, _, _, hns2, hL2, hO_159⟩)
          · have c_140 : nw = 12 := (nI_eq (a := nw) (b := 12) (by omega) (by omega)).mp c_140
            have hst := st_ref hSR hnw (Or.inr c_140)
            refine lv_aload_n hx hb dL_change_439 rfl (lv_at hl 11 rfl) ?_
            obtain ⟨X_161, hO_162, hM9⟩ := o_step (l := l) (D := D) hSR hO_126 hns (nw := nw) hn hn2
            refine lo_I (n := 0) (As := []) (rest := []) hx hb hml hown hts hK hN hM9 (OX.at0 hO_126) gL_change_X4_step rfl (by decide +kernel) (by decide) dL_change_440 rfl rfl (Nat.le_of_ble_eq_true rfl) hl.1 (Nat.le_of_ble_eq_true rfl) (Nat.le_of_ble_eq_true rfl) (Nat.le_of_ble_eq_true rfl) (Nat.le_of_ble_eq_true rfl) hP hD hS hA (fun H locs hP hD hS => ?_)
            clear hM9
            refine tp_e (y := 0) (by rw [hst]) ?_
            rw [hst] at hO_162
            have hO_162 : OX k x0 (svN ns) (rfS S) _ Y0 k0 X_161 := hO_162
            have hns2 : (svN ns) ≤ 6 := (svN_le hns).1
            have hL2 : LI (rfS S) := LI_rf hL
            obtain ⟨f2, hSR2, -, -⟩ := id hL2
            refine lv_if_ne (tgt := 483) hx hb dL_change_443 (by decide) (fun c_163 => ?_) (fun c_163 => ?_)
            · exact absurd c_163 (by decide)
            · refine lv_aload_n hx hb dL_change_446 rfl (lv_at hl 11 rfl) ?_
              refine lv_bipush (v := 10) hx hb dL_change_447 (by decide) ?_
              obtain ⟨X_164, hO_165, hM9⟩ := o_count_10 (l := l) (D := D) hSR2 hO_162
              refine lo_I (n := 1) (As := [.int 10]) (rest := []) hx hb hml hown hts hK hN hM9 (OX.at0 hO_162) gL_change_X4_count rfl (by decide +kernel) (by decide) dL_change_449 rfl rfl (Nat.le_of_ble_eq_true rfl) hl.1 (Nat.le_of_ble_eq_true rfl) (Nat.le_of_ble_eq_true rfl) (Nat.le_of_ble_eq_true rfl) (Nat.le_of_ble_eq_true rfl) hP hD hS hA (fun H locs hP hD hS => ?_)
              clear hM9
              refine lv_iload hx hb dL_change_452 (lv_at hl 8 rfl) ?_
              refine lv_iconst (v := 1) hx hb dL_change_454 (by decide) ?_
              refine lv_iadd hx hb dL_change_455 ?_
              refine lv_icmp_ne (tgt := 483) hx hb dL_change_456 (by decide) (fun c_166 => ?_) (fun c_166 => ?_)
              · exact absurd (rfl) c_166
              · refine lv_aload_n hx hb dL_change_459 rfl (lv_at hl 11 rfl) ?_
                refine lv_iconst (v := 3) hx hb dL_change_460 (by decide) ?_
                obtain ⟨X_167, hO_168, hM9⟩ := o_count_3 (l := l) (D := D) hSR2 hO_165
                refine lo_I (n := 1) (As := [.int 3]) (rest := []) hx hb hml hown hts hK hN hM9 (OX.at0 hO_165) gL_change_X4_count rfl (by decide +kernel) (by decide) dL_change_461 rfl rfl (Nat.le_of_ble_eq_true rfl) hl.1 (Nat.le_of_ble_eq_true rfl) (Nat.le_of_ble_eq_true rfl) (Nat.le_of_ble_eq_true rfl) (Nat.le_of_ble_eq_true rfl) hP hD hS hA (fun H locs hP hD hS => ?_)
                clear hM9
                refine lv_iload hx hb dL_change_464 (lv_at hl 7 rfl) ?_
                refine lv_icmp_ne (tgt := 483) hx hb dL_change_466 (by decide) (fun c_169 => ?_) (fun c_169 => ?_)
                · exact absurd (hn) c_169
                · refine lv_aload_n hx hb dL_change_469 rfl (lv_at hl 11 rfl) ?_
                  refine lv_iconst (v := 2) hx hb dL_change_470 (by decide) ?_
                  obtain ⟨X_170, hO_171, hM9⟩ := o_count_2 (l := l) (D := D) hSR2 hO_168
                  refine lo_I (n := 1) (As := [.int 2]) (rest := []) hx hb hml hown hts hK hN hM9 (OX.at0 hO_168) gL_change_X4_count rfl (by decide +kernel) (by decide) dL_change_471 rfl rfl (Nat.le_of_ble_eq_true rfl) hl.1 (Nat.le_of_ble_eq_true rfl) (Nat.le_of_ble_eq_true rfl) (Nat.le_of_ble_eq_true rfl) (Nat.le_of_ble_eq_true rfl) hP hD hS hA (fun H locs hP hD hS => ?_)
                  clear hM9
                  refine lv_iload hx hb dL_change_474 (lv_at hl 3 rfl) ?_
                  refine lv_icmp_ne (tgt := 483) hx hb dL_change_476 (by decide) (fun c_172 => ?_) (fun c_172 => ?_)
                  · exact absurd (rfl) c_172
                  · refine lv_iconst (v := 1) hx hb dL_change_479 (by decide) ?_
                    refine lv_goto (tgt := 484) hx hb dL_change_480 (by decide) ?_
                    subst hQ
                    exact rt_zo hx hb hr hlocks hS dL_change_484 (va_PR hP) (va_DR hD) rfl (⟨rfl, _, _, _, hns2, hL2, hO_171⟩)
      · have c_118 : ¬ (z ≤ q) := fun h9 => c_118 ((nI_leI (a := z) (b := q) (by omega) (by omega)).mpr h9)
        omega
    · have c_117 : ¬ (z ≤ q) := fun h9 => c_117 ((nI_leI (a := z) (b := q) (by omega) (by omega)).mpr h9)
      exact absurd c_117 (not_not_intro (by omega))

set_option maxHeartbeats 4000000 in
set_option maxRecDepth 100000 in
theorem c_L_change_12 (l : Launch) (D : va_G) (k : Nat → ClassId) (x0 ns : Nat) (S : Nat → Nat → Int32) (Z : Nat → Nat → Nat → Int32) (Y0 : Nat → Nat → Int32) (k0 : Int32) (X : va_W) (x y : Int32) (hns : ns ≤ 6) (hL : LI S) (hO : OX k x0 ns S Z Y0 k0 X) (hx16 : lowN x 16 = 12) : MO l yL_change wsL_change ({ frames := 31, cells := 0, slots := 0, locals := 839 }) D k [.ref x0, .int x, .int y] X (fun r X2 => r = 1 ∧ ∃ ns2 S2 Z2, ns2 ≤ 6 ∧ LI S2 ∧ OX k x0 ns2 S2 Z2 Y0 k0 X2) := by
  intro sz
  refine Met.ofW (cc := cL_change) (maxL := 16) (ret := (some .boolean)) (by decide) rfl ?_
  intro p e s m args below meth c s₁ B hml hv
  obtain ⟨rfl, hN, hsz, hP, hK, hD0⟩ := hv
  have hx := B.exec
  have hb := B.bytes
  have hr := B.returns
  have hts := atoms_spec (ws := wsL_change) B.pre
  have hown : s.vm.findClass RL = some m.cls := findClass_of_methodNamed B.named
  have hlocks := B.notSynchronized
  subst hsz
  have hD := hD0.self (sz := s.heap.size)
  generalize hAe : va_A X s.heap.size = A at hD ⊢
  have hA : ∀ q : Nat, s.heap.size ≤ q → A q := fun q h => by rw [← hAe]; exact Or.inr h
  have hS : va_S A s.heap s.heap [] := va_S.rf
  have hl := lv_entry ([.ref x0, .int x, .int y]) (n := 16) (Nat.le_of_ble_eq_true rfl)
  rw [lg_entry_eq]
  generalize (lg_sl ([.ref x0, .int x, .int y]) ++ List.replicate (16 - (lg_sl ([.ref x0, .int x, .int y])).length) Slot.unset).toArray = ls at hl ⊢
  have hl : lv_has ls 16 [(0, .ref x0), (1, .int x), (2, .int y)] := hl
  obtain ⟨H, hHe⟩ : ∃ H, H = s.heap := ⟨_, rfl⟩
  have hP : va_P D vwCl X H := by rw [hHe]; exact hP
  have hS : va_S A s.heap H [] := by rw [hHe]; exact hS
  rw [← hHe]
  refine absQ (fun Q hQ => ?_)
  obtain ⟨f, hSR, hBR, hEX⟩ := id hL
  obtain ⟨nw, hnw⟩ := hSR.2.2.2
  have hn : S 7 0 = nI nw := hnw.2.1
  have hn2 : nw ≤ 12 := hnw.1
  have hcv := low_lt (y >>> (4 &&& 31)) (n := 200) (by decide)
  have hP : va_P D vwCl ([] ++ (X)) H := hP
  have hD : va_D A ([] ++ (X)) := hD
  refine lv_iload_n hx hb dL_change_0 rfl (lv_at hl 2 rfl) ?_
  refine lv_bipush (v := 9) hx hb dL_change_1 (by decide) ?_
  have hPc : va_P D vwCl ([]) H := hP.sub [] rfl
  have hDc : va_D A ([]) := hD.sub [] (by decide +kernel) rfl
  refine cl_i0 (va_runS (As := [.int y, .int 9]) (rest := []) ⟨hx, hb, hml, hown, hts⟩ (c_L_low_9 l D k y H.size) (va_cwS 2 hts gL_change_L_low rfl rfl rfl (by decide +kernel) ⟨Nat.le_of_ble_eq_true rfl, Nat.le_of_ble_eq_true rfl⟩) ⟨pr_blind, pr_at hN hPc hK hDc⟩ rfl rfl hl.1 rfl (lv_room (Nat.le_of_ble_eq_true rfl)) dL_change_3 ⟨Nat.le_of_ble_eq_true rfl, Nat.le_of_ble_eq_true rfl⟩) hP hD hS hA [] rfl (fun H locs hP hD hS => ?_)
  clear hPc hDc
  obtain ⟨q, hqe⟩ : ∃ q, q = lowN y 9 := ⟨_, rfl⟩
  have hq9 : q < 9 := by rw [hqe]; exact low_lt _ (by decide)
  refine tp_e (y := (nI q)) (by rw [hqe]) ?_
  refine lv_istore_n (lv' := [(3, .int (nI q)), (0, .ref x0), (1, .int x), (2, .int y)]) hx hb dL_change_6 rfl hl (by decide) rfl (fun ls hl => ?_)
  refine lv_iload_n hx hb dL_change_7 rfl (lv_at hl 3 rfl) ?_
  refine lv_iconst (v := 4) hx hb dL_change_8 (by decide) ?_
  refine lv_ishr hx hb dL_change_9 ?_
  refine lv_bipush (v := 9) hx hb dL_change_10 (by decide) ?_
  have hPc : va_P D vwCl ([]) H := hP.sub [] rfl
  have hDc : va_D A ([]) := hD.sub [] (by decide +kernel) rfl
  refine cl_i0 (va_runS (As := [.int (y >>> (4 &&& 31)), .int 9]) (rest := []) ⟨hx, hb, hml, hown, hts⟩ (c_L_low_9 l D k (y >>> (4 &&& 31)) H.size) (va_cwS 2 hts gL_change_L_low rfl rfl rfl (by decide +kernel) ⟨Nat.le_of_ble_eq_true rfl, Nat.le_of_ble_eq_true rfl⟩) ⟨pr_blind, pr_at hN hPc hK hDc⟩ rfl rfl hl.1 rfl (lv_room (Nat.le_of_ble_eq_true rfl)) dL_change_12 ⟨Nat.le_of_ble_eq_true rfl, Nat.le_of_ble_eq_true rfl⟩) hP hD hS hA [] rfl (fun H locs hP hD hS => ?_)
  clear hPc hDc
  obtain ⟨z, hze⟩ : ∃ z, z = lowN (y >>> (4 &&& 31)) 9 := ⟨_, rfl⟩
  have hz9 : z < 9 := by rw [hze]; exact low_lt _ (by decide)
  refine tp_e (y := (nI z)) (by rw [hze]) ?_
  refine lv_istore (lv' := [(4, .int (nI z)), (3, .int (nI q)), (0, .ref x0), (1, .int x), (2, .int y)]) hx hb dL_change_15 hl (by decide) rfl (fun ls hl => ?_)
  refine lv_iconst (v := 0) hx hb dL_change_17 (by decide) ?_
  refine lv_istore (lv' := [(5, .int 0), (4, .int (nI z)), (3, .int (nI q)), (0, .ref x0), (1, .int x), (2, .int y)]) hx hb dL_change_18 hl (by decide) rfl (fun ls hl => ?_)
  refine lv_aload_n hx hb dL_change_20 rfl (lv_at hl 3 rfl) ?_
  refine lv_bipush (v := 10) hx hb dL_change_21 (by decide) ?_
  obtain ⟨X_1, hO_2, hM9⟩ := o_count_10 (l := l) (D := D) hSR hO
  refine lo_I (n := 1) (As := [.int 10]) (rest := []) hx hb hml hown hts hK hN hM9 (OX.at0 hO) gL_change_X4_count rfl (by decide +kernel) (by decide) dL_change_23 rfl rfl (Nat.le_of_ble_eq_true rfl) hl.1 (Nat.le_of_ble_eq_true rfl) (Nat.le_of_ble_eq_true rfl) (Nat.le_of_ble_eq_true rfl) (Nat.le_of_ble_eq_true rfl) hP hD hS hA (fun H locs hP hD hS => ?_)
  clear hM9
  refine lv_istore (lv' := [(6, .int (S 7 2)), (5, .int 0), (4, .int (nI z)), (3, .int (nI q)), (0, .ref x0), (1, .int x), (2, .int y)]) hx hb dL_change_26 hl (by decide) rfl (fun ls hl => ?_)
  refine lv_aload_n hx hb dL_change_28 rfl (lv_at hl 4 rfl) ?_
  refine lv_iconst (v := 3) hx hb dL_change_29 (by decide) ?_
  obtain ⟨X_3, hO_4, hM9⟩ := o_count_3 (l := l) (D := D) hSR hO_2
  refine lo_I (n := 1) (As := [.int 3]) (rest := []) hx hb hml hown hts hK hN hM9 (OX.at0 hO_2) gL_change_X4_count rfl (by decide +kernel) (by decide) dL_change_30 rfl rfl (Nat.le_of_ble_eq_true rfl) hl.1 (Nat.le_of_ble_eq_true rfl) (Nat.le_of_ble_eq_true rfl) (Nat.le_of_ble_eq_true rfl) (Nat.le_of_ble_eq_true rfl) hP hD hS hA (fun H locs hP hD hS => ?_)
  clear hM9
  refine tp_e (y := (nI nw)) hn ?_
  refine lv_istore (lv' := [(7, .int (nI nw)), (6, .int (S 7 2)), (5, .int 0), (4, .int (nI z)), (3, .int (nI q)), (0, .ref x0), (1, .int x), (2, .int y)]) hx hb dL_change_33 hl (by decide) rfl (fun ls hl => ?_)
  refine lv_iload_n hx hb dL_change_35 rfl (lv_at hl 4 rfl) ?_
  refine lv_iload hx hb dL_change_36 (lv_at hl 3 rfl) ?_
  refine lv_icmp_ne (tgt := 45) hx hb dL_change_38 (by decide) (fun c_5 => ?_) (fun c_5 => ?_)
  · have c_5 : ¬ (q = z) := fun h9 => c_5 ((nI_eq (a := q) (b := z) (by omega) (by omega)).mpr h9)
    refine lv_iconst (v := 0) hx hb dL_change_45 (by decide) ?_
    refine lv_istore (lv' := [(8, .int 0), (7, .int (nI nw)), (6, .int (S 7 2)), (5, .int 0), (4, .int (nI z)), (3, .int (nI q)), (0, .ref x0), (1, .int x), (2, .int y)]) hx hb dL_change_46 hl (by decide) rfl (fun ls hl => ?_)
    refine lv_iload_n hx hb dL_change_48 rfl (lv_at hl 5 rfl) ?_
    refine lv_iload hx hb dL_change_49 (lv_at hl 4 rfl) ?_
    refine lv_icmp_ge (tgt := 58) hx hb dL_change_51 (by decide) (fun c_6 => ?_) (fun c_6 => ?_)
    · have c_6 : z ≤ q := (nI_leI (a := z) (b := q) (by omega) (by omega)).mp c_6
      refine lv_iload hx hb dL_change_58 (lv_at hl 4 rfl) ?_
      refine lv_istore (lv' := [(9, .int (nI z)), (8, .int 0), (7, .int (nI nw)), (6, .int (S 7 2)), (5, .int 0), (4, .int (nI z)), (3, .int (nI q)), (0, .ref x0), (1, .int x), (2, .int y)]) hx hb dL_change_60 hl (by decide) rfl (fun ls hl => ?_)
      refine lv_iload_n hx hb dL_change_62 rfl (lv_at hl 6 rfl) ?_
      refine lv_iload hx hb dL_change_63 (lv_at hl 5 rfl) ?_
      refine lv_icmp_ge (tgt := 73) hx hb dL_change_65 (by decide) (fun c_7 => ?_) (fun c_7 => ?_)
      · have c_7 : z ≤ q := (nI_leI (a := z) (b := q) (by omega) (by omega)).mp c_7
        refine lv_iload_n hx hb dL_change_73 rfl (lv_at hl 6 rfl) ?_
        refine lv_istore (lv' := [(10, .int (nI q)), (9, .int (nI z)), (8, .int 0), (7, .int (nI nw)), (6, .int (S 7 2)), (5, .int 0), (4, .int (nI z)), (3, .int (nI q)), (0, .ref x0), (1, .int x), (2, .int y)]) hx hb dL_change_74 hl (by decide) rfl (fun ls hl => ?_)
        refine lv_iload_n hx hb dL_change_76 rfl (lv_at hl 9 rfl) ?_
        refine lv_bipush (v := 16) hx hb dL_change_77 (by decide) ?_
        have hPc : va_P D vwCl ([]) H := hP.sub [] rfl
        have hDc : va_D A ([]) := hD.sub [] (by decide +kernel) rfl
        refine cl_i0 (va_runS (As := [.int x, .int 16]) (rest := []) ⟨hx, hb, hml, hown, hts⟩ (c_L_low_16 l D k x H.size) (va_cwS 2 hts gL_change_L_low rfl rfl rfl (by decide +kernel) ⟨Nat.le_of_ble_eq_true rfl, Nat.le_of_ble_eq_true rfl⟩) ⟨pr_blind, pr_at hN hPc hK hDc⟩ rfl rfl hl.1 rfl (lv_room (Nat.le_of_ble_eq_true rfl)) dL_change_79 ⟨Nat.le_of_ble_eq_true rfl, Nat.le_of_ble_eq_true rfl⟩) hP hD hS hA [] rfl (fun H locs hP hD hS => ?_)
        clear hPc hDc
        refine tp_e (y := 12) (congrArg nI hx16) ?_
        refine lv_tableIn (off := 315) (tgt := 397) hx hb dL_change_82 (by decide) (by decide) rfl (by decide) ?_
        refine lv_aload_n hx hb dL_change_397 rfl (lv_at hl 8 rfl) ?_
        refine lv_iconst (v := 2) hx hb dL_change_398 (by decide) ?_
        obtain ⟨X_8, hO_9, hM9⟩ := o_count_2 (l := l) (D := D) hSR hO_4
        refine lo_I (n := 1) (As := [.int 2]) (rest := []) hx hb hml hown hts hK hN hM9 (OX.at0 hO_4) gL_change_X4_count rfl (by decide +kernel) (by decide) dL_change_399 rfl rfl (Nat.le_of_ble_eq_true rfl) hl.1 (Nat.le_of_ble_eq_true rfl) (Nat.le_of_ble_eq_true rfl) (Nat.le_of_ble_eq_true rfl) (Nat.le_of_ble_eq_true rfl) hP hD hS hA (fun H locs hP hD hS => ?_)
        clear hM9
        refine lv_istore (lv' := [(11, .int (smF (S 4) 9)), (10, .int (nI q)), (9, .int (nI z)), (8, .int 0), (7, .int (nI nw)), (6, .int (S 7 2)), (5, .int 0), (4, .int (nI z)), (3, .int (nI q)), (0, .ref x0), (1, .int x), (2, .int y)]) hx hb dL_change_402 hl (by decide) rfl (fun ls hl => ?_)
        refine lv_aload_n hx hb dL_change_404 rfl (lv_at hl 9 rfl) ?_
        refine lv_iconst (v := 0) hx hb dL_change_405 (by decide) ?_
        obtain ⟨X_10, hO_11, hM9⟩ := o_heaviest_0 (l := l) (D := D) hSR hO_9
        refine lo_I (n := 1) (As := [.int 0]) (rest := []) hx hb hml hown hts hK hN hM9 (OX.at0 hO_9) gL_change_X4_heaviest rfl (by decide +kernel) (by decide) dL_change_406 rfl rfl (Nat.le_of_ble_eq_true rfl) hl.1 (Nat.le_of_ble_eq_true rfl) (Nat.le_of_ble_eq_true rfl) (Nat.le_of_ble_eq_true rfl) (Nat.le_of_ble_eq_true rfl) hP hD hS hA (fun H locs hP hD hS => ?_)
        clear hM9
        refine lv_istore (lv' := [(12, .int (hwF S (hvM S))), (11, .int (smF (S 4) 9)), (10, .int (nI q)), (9, .int (nI z)), (8, .int 0), (7, .int (nI nw)), (6, .int (S 7 2)), (5, .int 0), (4, .int (nI z)), (3, .int (nI q)), (0, .ref x0), (1, .int x), (2, .int y)]) hx hb dL_change_409 hl (by decide) rfl (fun ls hl => ?_)
        refine lv_aload_n hx hb dL_change_411 rfl (lv_at hl 10 rfl) ?_
        refine lv_iconst (v := 1) hx hb dL_change_412 (by decide) ?_
        obtain ⟨X_12, hO_13, hM9⟩ := o_heaviest_1 (l := l) (D := D) hSR hO_11
        refine lo_I (n := 1) (As := [.int 1]) (rest := []) hx hb hml hown hts hK hN hM9 (OX.at0 hO_11) gL_change_X4_heaviest rfl (by decide +kernel) (by decide) dL_change_413 rfl rfl (Nat.le_of_ble_eq_true rfl) hl.1 (Nat.le_of_ble_eq_true rfl) (Nat.le_of_ble_eq_true rfl) (Nat.le_of_ble_eq_true rfl) (Nat.le_of_ble_eq_true rfl) hP hD hS hA (fun H locs hP hD hS => ?_)
        clear hM9
        refine lv_istore (lv' := [(13, .int (hvM S)), (12, .int (hwF S (hvM S))), (11, .int (smF (S 4) 9)), (10, .int (nI q)), (9, .int (nI z)), (8, .int 0), (7, .int (nI nw)), (6, .int (S 7 2)), (5, .int 0), (4, .int (nI z)), (3, .int (nI q)), (0, .ref x0), (1, .int x), (2, .int y)]) hx hb dL_change_416 hl (by decide) rfl (fun ls hl => ?_)
        refine lv_aload_n hx hb dL_change_418 rfl (lv_at hl 11 rfl) ?_
        refine lv_bipush (v := 9) hx hb dL_change_419 (by decide) ?_
        obtain ⟨X_14, hO_15, hM9⟩ := o_count_9 (l := l) (D := D) hSR hO_13
        refine lo_I (n := 1) (As := [.int 9]) (rest := []) hx hb hml hown hts hK hN hM9 (OX.at0 hO_13) gL_change_X4_count rfl (by decide +kernel) (by decide) dL_change_421 rfl rfl (Nat.le_of_ble_eq_true rfl) hl.1 (Nat.le_of_ble_eq_true rfl) (Nat.le_of_ble_eq_true rfl) (Nat.le_of_ble_eq_true rfl) (Nat.le_of_ble_eq_true rfl) hP hD hS hA (fun H locs hP hD hS => ?_)
        clear hM9
        refine lv_istore (lv' := [(5, .int (S 7 1)), (13, .int (hvM S)), (12, .int (hwF S (hvM S))), (11, .int (smF (S 4) 9)), (10, .int (nI q)), (9, .int (nI z)), (8, .int 0), (7, .int (nI nw)), (6, .int (S 7 2)), (4, .int (nI z)), (3, .int (nI q)), (0, .ref x0), (1, .int x), (2, .int y)]) hx hb dL_change_424 hl (by decide) rfl (fun ls hl => ?_)
        refine lv_iload hx hb dL_change_426 (lv_at hl 2 rfl) ?_
        refine lv_iconst (v := 1) hx hb dL_change_428 (by decide) ?_
        refine lv_icmp_lt (tgt := 439) hx hb dL_change_429 (by decide) (fun c_16 => ?_) (fun c_16 => ?_)
        · have hst := st_ref hSR hnw (Or.inl c_16)
          refine lv_aload_n hx hb dL_change_439 rfl (lv_at hl 11 rfl) ?_
          obtain ⟨X_17, hO_18, hM9⟩ := o_step (l := l) (D := D) hSR hO_15 hns (nw := nw) hn hn2
          refine lo_I (n := 0) (As := []) (rest := []) hx hb hml hown hts hK hN hM9 (OX.at0 hO_15) gL_change_X4_step rfl (by decide +kernel) (by decide) dL_change_440 rfl rfl (Nat.le_of_ble_eq_true rfl) hl.1 (Nat.le_of_ble_eq_true rfl) (Nat.le_of_ble_eq_true rfl) (Nat.le_of_ble_eq_true rfl) (Nat.le_of_ble_eq_true rfl) hP hD hS hA (fun H locs hP hD hS => ?_)
          clear hM9
          refine tp_e (y := 0) (by rw [hst]) ?_
          rw [hst] at hO_18
          have hO_18 : OX k x0 (svN ns) (rfS S) _ Y0 k0 X_17 := hO_18
          have hns2 : (svN ns) ≤ 6 := (svN_le hns).1
          have hL2 : LI (rfS S) := LI_rf hL
          obtain ⟨f2, hSR2, -, -⟩ := id hL2
          refine lv_if_ne (tgt := 483) hx hb dL_change_443 (by decide) (fun c_19 => ?_) (fun c_19 => ?_)
          · exact absurd c_19 (by decide)
          · refine lv_aload_n hx hb dL_change_446 rfl (lv_at hl 11 rfl) ?_
            refine lv_bipush (v := 10) hx hb dL_change_447 (by decide) ?_
            obtain ⟨X_20, hO_21, hM9⟩ := o_count_10 (l := l) (D := D) hSR2 hO_18
            refine lo_I (n := 1) (As := [.int 10]) (rest := []) hx hb hml hown hts hK hN hM9 (OX.at0 hO_18) gL_change_X4_count rfl (by decide +kernel) (by decide) dL_change_449 rfl rfl (Nat.le_of_ble_eq_true rfl) hl.1 (Nat.le_of_ble_eq_true rfl) (Nat.le_of_ble_eq_true rfl) (Nat.le_of_ble_eq_true rfl) (Nat.le_of_ble_eq_true rfl) hP hD hS hA (fun H locs hP hD hS => ?_)
            clear hM9
            refine lv_iload hx hb dL_change_452 (lv_at hl 8 rfl) ?_
            refine lv_iconst (v := 1) hx hb dL_change_454 (by decide) ?_
            refine lv_iadd hx hb dL_change_455 ?_
            refine lv_icmp_ne (tgt := 483) hx hb dL_change_456 (by decide) (fun c_22 => ?_) (fun c_22 => ?_)
            · exact absurd (rfl) c_22
            · refine lv_aload_n hx hb dL_change_459 rfl (lv_at hl 11 rfl) ?_
              refine lv_iconst (v := 3) hx hb dL_change_460 (by decide) ?_
              obtain ⟨X_23, hO_24, hM9⟩ := o_count_3 (l := l) (D := D) hSR2 hO_21
              refine lo_I (n := 1) (As := [.int 3]) (rest := []) hx hb hml hown hts hK hN hM9 (OX.at0 hO_21) gL_change_X4_count rfl (by decide +kernel) (by decide) dL_change_461 rfl rfl (Nat.le_of_ble_eq_true rfl) hl.1 (Nat.le_of_ble_eq_true rfl) (Nat.le_of_ble_eq_true rfl) (Nat.le_of_ble_eq_true rfl) (Nat.le_of_ble_eq_true rfl) hP hD hS hA (fun H locs hP hD hS => ?_)
              clear hM9
              refine lv_iload hx hb dL_change_464 (lv_at hl 7 rfl) ?_
              refine lv_icmp_ne (tgt := 483) hx hb dL_change_466 (by decide) (fun c_25 => ?_) (fun c_25 => ?_)
              · exact absurd (hn) c_25
              · refine lv_aload_n hx hb dL_change_469 rfl (lv_at hl 11 rfl) ?_
                refine lv_iconst (v := 2) hx hb dL_change_470 (by decide) ?_
                obtain ⟨X_26, hO_27, hM9⟩ := o_count_2 (l := l) (D := D) hSR2 hO_24
                refine lo_I (n := 1) (As := [.int 2]) (rest := []) hx hb hml hown hts hK hN hM9 (OX.at0 hO_24) gL_change_X4_count rfl (by decide +kernel) (by decide) dL_change_471 rfl rfl (Nat.le_of_ble_eq_true rfl) hl.1 (Nat.le_of_ble_eq_true rfl) (Nat.le_of_ble_eq_true rfl) (Nat.le_of_ble_eq_true rfl) (Nat.le_of_ble_eq_true rfl) hP hD hS hA (fun H locs hP hD hS => ?_)
                clear hM9
                refine lv_iload hx hb dL_change_474 (lv_at hl 3 rfl) ?_
                refine lv_icmp_ne (tgt := 483) hx hb dL_change_476 (by decide) (fun c_28 => ?_) (fun c_28 => ?_)
                · exact absurd (rfl) c_28
                · refine lv_iconst (v := 1) hx hb dL_change_479 (by decide) ?_
                  refine lv_goto (tgt := 484) hx hb dL_change_480 (by decide) ?_
                  subst hQ
                  exact rt_zo hx hb hr hlocks hS dL_change_484 (va_PR hP) (va_DR hD) rfl (⟨rfl, _, _, _, hns2, hL2, hO_27⟩)
        · have hge := c_16
          refine lv_iload hx hb dL_change_432 (lv_at hl 7 rfl) ?_
          refine lv_bipush (v := 12) hx hb dL_change_434 (by decide) ?_
          refine lv_icmp_ne (tgt := 485) hx hb dL_change_436 (by decide) (fun c_29 => ?_) (fun c_29 => ?_)
          · have c_29 : ¬ (nw = 12) := fun h9 => c_29 ((nI_eq (a := nw) (b := 12) (by omega) (by omega)).mpr h9)
            obtain ⟨b, w, b1, b2, w1, w2, n1, em, ew, ewm, hst⟩ := st_go hSR hnw hge c_29
            refine lv_aload_n hx hb dL_change_485 rfl (lv_at hl 11 rfl) ?_
            obtain ⟨X_30, hO_31, hM9⟩ := o_step (l := l) (D := D) hSR hO_15 hns (nw := nw) hn hn2
            refine lo_I (n := 0) (As := []) (rest := []) hx hb hml hown hts hK hN hM9 (OX.at0 hO_15) gL_change_X4_step rfl (by decide +kernel) (by decide) dL_change_486 rfl rfl (Nat.le_of_ble_eq_true rfl) hl.1 (Nat.le_of_ble_eq_true rfl) (Nat.le_of_ble_eq_true rfl) (Nat.le_of_ble_eq_true rfl) (Nat.le_of_ble_eq_true rfl) hP hD hS hA (fun H locs hP hD hS => ?_)
            clear hM9
            refine tp_e (y := (nI w)) (by rw [hst]) ?_
            rw [hst] at hO_31
            have hO_31 : OX k x0 (svN ns) (tkS S (nI b) (nI w) nw) _ Y0 k0 X_30 := hO_31
            have hns2 : (svN ns) ≤ 6 := (svN_le hns).1
            have hL2 : LI (tkS S (nI b) (nI w) nw) := LI_tk hSR hBR hEX hnw n1 b2 ewm w2
            obtain ⟨f2, hSR2, -, -⟩ := id hL2
            have hn3 : (tkS S (nI b) (nI w) nw) 7 0 = nI (nw + 1) := by show S 7 0 + 1 = _; rw [hn, show (1 : Int32) = nI 1 from rfl, nI_add]
            have hn4 : nw + 1 ≤ 12 := by omega
            refine lv_iload hx hb dL_change_489 (lv_at hl 2 rfl) ?_
            refine lv_icmp_ne (tgt := 569) hx hb dL_change_491 (by decide) (fun c_32 => ?_) (fun c_32 => ?_)
            · exact absurd (ew.symm) c_32
            · refine lv_aload_n hx hb dL_change_494 rfl (lv_at hl 11 rfl) ?_
              refine lv_bipush (v := 9) hx hb dL_change_495 (by decide) ?_
              obtain ⟨X_33, hO_34, hM9⟩ := o_count_9 (l := l) (D := D) hSR2 hO_31
              refine lo_I (n := 1) (As := [.int 9]) (rest := []) hx hb hml hown hts hK hN hM9 (OX.at0 hO_31) gL_change_X4_count rfl (by decide +kernel) (by decide) dL_change_497 rfl rfl (Nat.le_of_ble_eq_true rfl) hl.1 (Nat.le_of_ble_eq_true rfl) (Nat.le_of_ble_eq_true rfl) (Nat.le_of_ble_eq_true rfl) (Nat.le_of_ble_eq_true rfl) hP hD hS hA (fun H locs hP hD hS => ?_)
              clear hM9
              refine lv_iload hx hb dL_change_500 (lv_at hl 0 rfl) ?_
              refine lv_iconst (v := 1) hx hb dL_change_502 (by decide) ?_
              refine lv_iadd hx hb dL_change_503 ?_
              refine lv_icmp_ne (tgt := 569) hx hb dL_change_504 (by decide) (fun c_35 => ?_) (fun c_35 => ?_)
              · exact absurd (rfl) c_35
              · refine lv_aload_n hx hb dL_change_507 rfl (lv_at hl 11 rfl) ?_
                refine lv_iload hx hb dL_change_508 (lv_at hl 7 rfl) ?_
                refine lv_iconst (v := 0) hx hb dL_change_510 (by decide) ?_
                obtain ⟨X_36, hO_37, hM9⟩ := o_noted_0 (l := l) (D := D) hSR2 hO_34 (r := nw) (nw := (nw + 1)) (by omega) hn3 hn4
                refine lo_I (n := 2) (As := [.int (nI nw), .int 0]) (rest := []) hx hb hml hown hts hK hN hM9 (OX.at0 hO_34) gL_change_X4_noted rfl (by decide +kernel) (by decide) dL_change_511 rfl rfl (Nat.le_of_ble_eq_true rfl) hl.1 (Nat.le_of_ble_eq_true rfl) (Nat.le_of_ble_eq_true rfl) (Nat.le_of_ble_eq_true rfl) (Nat.le_of_ble_eq_true rfl) hP hD hS hA (fun H locs hP hD hS => ?_)
                clear hM9
                refine lv_iload hx hb dL_change_514 (lv_at hl 2 rfl) ?_
                refine lv_icmp_ne (tgt := 569) hx hb dL_change_516 (by decide) (fun c_38 => ?_) (fun c_38 => ?_)
                · exact absurd (by unfold ntF; rw [if_neg (by omega), ew]; exact upd_e _ _ _) c_38
                · refine lv_aload_n hx hb dL_change_519 rfl (lv_at hl 11 rfl) ?_
                  refine lv_iload hx hb dL_change_520 (lv_at hl 7 rfl) ?_
                  refine lv_iconst (v := 1) hx hb dL_change_522 (by decide) ?_
                  obtain ⟨X_39, hO_40, hM9⟩ := o_noted_1 (l := l) (D := D) hSR2 hO_37 (r := nw) (nw := (nw + 1)) (by omega) hn3 hn4
                  refine lo_I (n := 2) (As := [.int (nI nw), .int 1]) (rest := []) hx hb hml hown hts hK hN hM9 (OX.at0 hO_37) gL_change_X4_noted rfl (by decide +kernel) (by decide) dL_change_523 rfl rfl (Nat.le_of_ble_eq_true rfl) hl.1 (Nat.le_of_ble_eq_true rfl) (Nat.le_of_ble_eq_true rfl) (Nat.le_of_ble_eq_true rfl) (Nat.le_of_ble_eq_true rfl) hP hD hS hA (fun H locs hP hD hS => ?_)
                  clear hM9
                  refine lv_iload hx hb dL_change_526 (lv_at hl 1 rfl) ?_
                  refine lv_icmp_ne (tgt := 569) hx hb dL_change_528 (by decide) (fun c_41 => ?_) (fun c_41 => ?_)
                  · exact absurd (by unfold ntF; rw [if_neg (by omega), em]; exact upd_e _ _ _) c_41
                  · refine lv_aload_n hx hb dL_change_531 rfl (lv_at hl 11 rfl) ?_
                    refine lv_iload hx hb dL_change_532 (lv_at hl 7 rfl) ?_
                    refine lv_iconst (v := 1) hx hb dL_change_534 (by decide) ?_
                    refine lv_iadd hx hb dL_change_535 ?_
                    refine tp_e (y := (nI (nw + 1))) (nI_add nw 1) ?_
                    refine lv_iconst (v := 0) hx hb dL_change_536 (by decide) ?_
                    obtain ⟨X_42, hO_43, hM9⟩ := o_noted_0 (l := l) (D := D) hSR2 hO_40 (r := (nw + 1)) (nw := (nw + 1)) (by omega) hn3 hn4
                    refine lo_I (n := 2) (As := [.int (nI (nw + 1)), .int 0]) (rest := []) hx hb hml hown hts hK hN hM9 (OX.at0 hO_40) gL_change_X4_noted rfl (by decide +kernel) (by decide) dL_change_537 rfl rfl (Nat.le_of_ble_eq_true rfl) hl.1 (Nat.le_of_ble_eq_true rfl) (Nat.le_of_ble_eq_true rfl) (Nat.le_of_ble_eq_true rfl) (Nat.le_of_ble_eq_true rfl) hP hD hS hA (fun H locs hP hD hS => ?_)
                    clear hM9
                    refine lv_iconst (v := (-1)) hx hb dL_change_540 (by decide) ?_
                    refine lv_icmp_ne (tgt := 569) hx hb dL_change_541 (by decide) (fun c_44 => ?_) (fun c_44 => ?_)
                    · exact absurd (if_pos (Nat.le_refl _)) c_44
                    · refine lv_aload_n hx hb dL_change_544 rfl (lv_at hl 11 rfl) ?_
                      refine lv_iconst (v := 2) hx hb dL_change_545 (by decide) ?_
                      obtain ⟨X_45, hO_46, hM9⟩ := o_count_2 (l := l) (D := D) hSR2 hO_43
                      refine lo_I (n := 1) (As := [.int 2]) (rest := []) hx hb hml hown hts hK hN hM9 (OX.at0 hO_43) gL_change_X4_count rfl (by decide +kernel) (by decide) dL_change_546 rfl rfl (Nat.le_of_ble_eq_true rfl) hl.1 (Nat.le_of_ble_eq_true rfl) (Nat.le_of_ble_eq_true rfl) (Nat.le_of_ble_eq_true rfl) (Nat.le_of_ble_eq_true rfl) hP hD hS hA (fun H locs hP hD hS => ?_)
                      clear hM9
                      refine lv_iload hx hb dL_change_549 (lv_at hl 3 rfl) ?_
                      refine lv_iload hx hb dL_change_551 (lv_at hl 2 rfl) ?_
                      refine lv_aload_n hx hb dL_change_553 rfl (lv_at hl 11 rfl) ?_
                      refine lv_iload hx hb dL_change_554 (lv_at hl 7 rfl) ?_
                      refine lv_iconst (v := 2) hx hb dL_change_556 (by decide) ?_
                      obtain ⟨X_47, hO_48, hM9⟩ := o_noted_2 (l := l) (D := D) hSR2 hO_46 (r := nw) (nw := (nw + 1)) (by omega) hn3 hn4
                      refine lo_I (n := 2) (As := [.int (nI nw), .int 2]) (rest := [.int (hwF S (hvM S)), .int (smF (S 4) 9), .int (smF ((tkS S (nI b) (nI w) nw) 4) 9)]) hx hb hml hown hts hK hN hM9 (OX.at0 hO_46) gL_change_X4_noted rfl (by decide +kernel) (by decide) dL_change_557 rfl rfl (Nat.le_of_ble_eq_true rfl) hl.1 (Nat.le_of_ble_eq_true rfl) (Nat.le_of_ble_eq_true rfl) (Nat.le_of_ble_eq_true rfl) (Nat.le_of_ble_eq_true rfl) hP hD hS hA (fun H locs hP hD hS => ?_)
                      clear hM9
                      refine lv_imul hx hb dL_change_560 ?_
                      refine lv_isub hx hb dL_change_561 ?_
                      refine lv_icmp_ne (tgt := 569) hx hb dL_change_562 (by decide) (fun c_49 => ?_) (fun c_49 => ?_)
                      · exact absurd (by unfold ntF; rw [if_neg (show ¬ nw + 1 ≤ nw from by omega), ew]; show smF (twF (S 4) (nI b) (nI w) 9) 9 = smF (S 4) 9 - nI w * bcF (upd (S 6) nw (nI b) nw); rw [upd_e]; exact sm_take b2 _ _) c_49
                      · refine lv_iconst (v := 1) hx hb dL_change_565 (by decide) ?_
                        refine lv_goto (tgt := 570) hx hb dL_change_566 (by decide) ?_
                        subst hQ
                        exact rt_zo hx hb hr hlocks hS dL_change_570 (va_PR hP) (va_DR hD) rfl (⟨rfl, _, _, _, hns2, hL2, hO_48⟩)
          · have c_29 : nw = 12 := (nI_eq (a := nw) (b := 12) (by omega) (by omega)).mp c_29
            have hst := st_ref hSR hnw (Or.inr c_29)
            refine lv_aload_n hx hb dL_change_439 rfl (lv_at hl 11 rfl) ?_
            obtain ⟨X_50, hO_51, hM9⟩ := o_step (l := l) (D := D) hSR hO_15 hns (nw := nw) hn hn2
            refine lo_I (n := 0) (As := []) (rest := []) hx hb hml hown hts hK hN hM9 (OX.at0 hO_15) gL_change_X4_step rfl (by decide +kernel) (by decide) dL_change_440 rfl rfl (Nat.le_of_ble_eq_true rfl) hl.1 (Nat.le_of_ble_eq_true rfl) (Nat.le_of_ble_eq_true rfl) (Nat.le_of_ble_eq_true rfl) (Nat.le_of_ble_eq_true rfl) hP hD hS hA (fun H locs hP hD hS => ?_)
            clear hM9
            refine tp_e (y := 0) (by rw [hst]) ?_
            rw [hst] at hO_51
            have hO_51 : OX k x0 (svN ns) (rfS S) _ Y0 k0 X_50 := hO_51
            have hns2 : (svN ns) ≤ 6 := (svN_le hns).1
            have hL2 : LI (rfS S) := LI_rf hL
            obtain ⟨f2, hSR2, -, -⟩ := id hL2
            refine lv_if_ne (tgt := 483) hx hb dL_change_443 (by decide) (fun c_52 => ?_) (fun c_52 => ?_)
            · exact absurd c_52 (by decide)
            · refine lv_aload_n hx hb dL_change_446 rfl (lv_at hl 11 rfl) ?_
              refine lv_bipush (v := 10) hx hb dL_change_447 (by decide) ?_
              obtain ⟨X_53, hO_54, hM9⟩ := o_count_10 (l := l) (D := D) hSR2 hO_51
              refine lo_I (n := 1) (As := [.int 10]) (rest := []) hx hb hml hown hts hK hN hM9 (OX.at0 hO_51) gL_change_X4_count rfl (by decide +kernel) (by decide) dL_change_449 rfl rfl (Nat.le_of_ble_eq_true rfl) hl.1 (Nat.le_of_ble_eq_true rfl) (Nat.le_of_ble_eq_true rfl) (Nat.le_of_ble_eq_true rfl) (Nat.le_of_ble_eq_true rfl) hP hD hS hA (fun H locs hP hD hS => ?_)
              clear hM9
              refine lv_iload hx hb dL_change_452 (lv_at hl 8 rfl) ?_
              refine lv_iconst (v := 1) hx hb dL_change_454 (by decide) ?_
              refine lv_iadd hx hb dL_change_455 ?_
              refine lv_icmp_ne (tgt := 483) hx hb dL_change_456 (by decide) (fun c_55 => ?_) (fun c_55 => ?_)
              · exact absurd (rfl) c_55
              · refine lv_aload_n hx hb dL_change_459 rfl (lv_at hl 11 rfl) ?_
                refine lv_iconst (v := 3) hx hb dL_change_460 (by decide) ?_
                obtain ⟨X_56, hO_57, hM9⟩ := o_count_3 (l := l) (D := D) hSR2 hO_54
                refine lo_I (n := 1) (As := [.int 3]) (rest := []) hx hb hml hown hts hK hN hM9 (OX.at0 hO_54) gL_change_X4_count rfl (by decide +kernel) (by decide) dL_change_461 rfl rfl (Nat.le_of_ble_eq_true rfl) hl.1 (Nat.le_of_ble_eq_true rfl) (Nat.le_of_ble_eq_true rfl) (Nat.le_of_ble_eq_true rfl) (Nat.le_of_ble_eq_true rfl) hP hD hS hA (fun H locs hP hD hS => ?_)
                clear hM9
                refine lv_iload hx hb dL_change_464 (lv_at hl 7 rfl) ?_
                refine lv_icmp_ne (tgt := 483) hx hb dL_change_466 (by decide) (fun c_58 => ?_) (fun c_58 => ?_)
                · exact absurd (hn) c_58
                · refine lv_aload_n hx hb dL_change_469 rfl (lv_at hl 11 rfl) ?_
                  refine lv_iconst (v := 2) hx hb dL_change_470 (by decide) ?_
                  obtain ⟨X_59, hO_60, hM9⟩ := o_count_2 (l := l) (D := D) hSR2 hO_57
                  refine lo_I (n := 1) (As := [.int 2]) (rest := []) hx hb hml hown hts hK hN hM9 (OX.at0 hO_57) gL_change_X4_count rfl (by decide +kernel) (by decide) dL_change_471 rfl rfl (Nat.le_of_ble_eq_true rfl) hl.1 (Nat.le_of_ble_eq_true rfl) (Nat.le_of_ble_eq_true rfl) (Nat.le_of_ble_eq_true rfl) (Nat.le_of_ble_eq_true rfl) hP hD hS hA (fun H locs hP hD hS => ?_)
                  clear hM9
                  refine lv_iload hx hb dL_change_474 (lv_at hl 3 rfl) ?_
                  refine lv_icmp_ne (tgt := 483) hx hb dL_change_476 (by decide) (fun c_61 => ?_) (fun c_61 => ?_)
                  · exact absurd (rfl) c_61
                  · refine lv_iconst (v := 1) hx hb dL_change_479 (by decide) ?_
                    refine lv_goto (tgt := 484) hx hb dL_change_480 (by decide) ?_
                    subst hQ
                    exact rt_zo hx hb hr hlocks hS dL_change_484 (va_PR hP) (va_DR hD) rfl (⟨rfl, _, _, _, hns2, hL2, hO_60⟩)
      · have c_7 : ¬ (z ≤ q) := fun h9 => c_7 ((nI_leI (a := z) (b := q) (by omega) (by omega)).mpr h9)
        omega
    · have c_6 : ¬ (z ≤ q) := fun h9 => c_6 ((nI_leI (a := z) (b := q) (by omega) (by omega)).mpr h9)
      refine lv_iload_n hx hb dL_change_54 rfl (lv_at hl 5 rfl) ?_
      refine lv_goto (tgt := 60) hx hb dL_change_55 (by decide) ?_
      refine lv_istore (lv' := [(9, .int (nI q)), (8, .int 0), (7, .int (nI nw)), (6, .int (S 7 2)), (5, .int 0), (4, .int (nI z)), (3, .int (nI q)), (0, .ref x0), (1, .int x), (2, .int y)]) hx hb dL_change_60 hl (by decide) rfl (fun ls hl => ?_)
      refine lv_iload_n hx hb dL_change_62 rfl (lv_at hl 6 rfl) ?_
      refine lv_iload hx hb dL_change_63 (lv_at hl 5 rfl) ?_
      refine lv_icmp_ge (tgt := 73) hx hb dL_change_65 (by decide) (fun c_62 => ?_) (fun c_62 => ?_)
      · have c_62 : z ≤ q := (nI_leI (a := z) (b := q) (by omega) (by omega)).mp c_62
        omega
      · have c_62 : ¬ (z ≤ q) := fun h9 => c_62 ((nI_leI (a := z) (b := q) (by omega) (by omega)).mpr h9)
        refine lv_iload hx hb dL_change_68 (lv_at hl 5 rfl) ?_
        refine lv_goto (tgt := 74) hx hb dL_change_70 (by decide) ?_
        refine lv_istore (lv' := [(10, .int (nI z)), (9, .int (nI q)), (8, .int 0), (7, .int (nI nw)), (6, .int (S 7 2)), (5, .int 0), (4, .int (nI z)), (3, .int (nI q)), (0, .ref x0), (1, .int x), (2, .int y)]) hx hb dL_change_74 hl (by decide) rfl (fun ls hl => ?_)
        refine lv_iload_n hx hb dL_change_76 rfl (lv_at hl 9 rfl) ?_
        refine lv_bipush (v := 16) hx hb dL_change_77 (by decide) ?_
        have hPc : va_P D vwCl ([]) H := hP.sub [] rfl
        have hDc : va_D A ([]) := hD.sub [] (by decide +kernel) rfl
        refine cl_i0 (va_runS (As := [.int x, .int 16]) (rest := []) ⟨hx, hb, hml, hown, hts⟩ (c_L_low_16 l D k x H.size) (va_cwS 2 hts gL_change_L_low rfl rfl rfl (by decide +kernel) ⟨Nat.le_of_ble_eq_true rfl, Nat.le_of_ble_eq_true rfl⟩) ⟨pr_blind, pr_at hN hPc hK hDc⟩ rfl rfl hl.1 rfl (lv_room (Nat.le_of_ble_eq_true rfl)) dL_change_79 ⟨Nat.le_of_ble_eq_true rfl, Nat.le_of_ble_eq_true rfl⟩) hP hD hS hA [] rfl (fun H locs hP hD hS => ?_)
        clear hPc hDc
        refine tp_e (y := 12) (congrArg nI hx16) ?_
        refine lv_tableIn (off := 315) (tgt := 397) hx hb dL_change_82 (by decide) (by decide) rfl (by decide) ?_
        refine lv_aload_n hx hb dL_change_397 rfl (lv_at hl 8 rfl) ?_
        refine lv_iconst (v := 2) hx hb dL_change_398 (by decide) ?_
        obtain ⟨X_63, hO_64, hM9⟩ := o_count_2 (l := l) (D := D) hSR hO_4
        refine lo_I (n := 1) (As := [.int 2]) (rest := []) hx hb hml hown hts hK hN hM9 (OX.at0 hO_4) gL_change_X4_count rfl (by decide +kernel) (by decide) dL_change_399 rfl rfl (Nat.le_of_ble_eq_true rfl) hl.1 (Nat.le_of_ble_eq_true rfl) (Nat.le_of_ble_eq_true rfl) (Nat.le_of_ble_eq_true rfl) (Nat.le_of_ble_eq_true rfl) hP hD hS hA (fun H locs hP hD hS => ?_)
        clear hM9
        refine lv_istore (lv' := [(11, .int (smF (S 4) 9)), (10, .int (nI z)), (9, .int (nI q)), (8, .int 0), (7, .int (nI nw)), (6, .int (S 7 2)), (5, .int 0), (4, .int (nI z)), (3, .int (nI q)), (0, .ref x0), (1, .int x), (2, .int y)]) hx hb dL_change_402 hl (by decide) rfl (fun ls hl => ?_)
        refine lv_aload_n hx hb dL_change_404 rfl (lv_at hl 9 rfl) ?_
        refine lv_iconst (v := 0) hx hb dL_change_405 (by decide) ?_
        obtain ⟨X_65, hO_66, hM9⟩ := o_heaviest_0 (l := l) (D := D) hSR hO_64
        refine lo_I (n := 1) (As := [.int 0]) (rest := []) hx hb hml hown hts hK hN hM9 (OX.at0 hO_64) gL_change_X4_heaviest rfl (by decide +kernel) (by decide) dL_change_406 rfl rfl (Nat.le_of_ble_eq_true rfl) hl.1 (Nat.le_of_ble_eq_true rfl) (Nat.le_of_ble_eq_true rfl) (Nat.le_of_ble_eq_true rfl) (Nat.le_of_ble_eq_true rfl) hP hD hS hA (fun H locs hP hD hS => ?_)
        clear hM9
        refine lv_istore (lv' := [(12, .int (hwF S (hvM S))), (11, .int (smF (S 4) 9)), (10, .int (nI z)), (9, .int (nI q)), (8, .int 0), (7, .int (nI nw)), (6, .int (S 7 2)), (5, .int 0), (4, .int (nI z)), (3, .int (nI q)), (0, .ref x0), (1, .int x), (2, .int y)]) hx hb dL_change_409 hl (by decide) rfl (fun ls hl => ?_)
        refine lv_aload_n hx hb dL_change_411 rfl (lv_at hl 10 rfl) ?_
        refine lv_iconst (v := 1) hx hb dL_change_412 (by decide) ?_
        obtain ⟨X_67, hO_68, hM9⟩ := o_heaviest_1 (l := l) (D := D) hSR hO_66
        refine lo_I (n := 1) (As := [.int 1]) (rest := []) hx hb hml hown hts hK hN hM9 (OX.at0 hO_66) gL_change_X4_heaviest rfl (by decide +kernel) (by decide) dL_change_413 rfl rfl (Nat.le_of_ble_eq_true rfl) hl.1 (Nat.le_of_ble_eq_true rfl) (Nat.le_of_ble_eq_true rfl) (Nat.le_of_ble_eq_true rfl) (Nat.le_of_ble_eq_true rfl) hP hD hS hA (fun H locs hP hD hS => ?_)
        clear hM9
        refine lv_istore (lv' := [(13, .int (hvM S)), (12, .int (hwF S (hvM S))), (11, .int (smF (S 4) 9)), (10, .int (nI z)), (9, .int (nI q)), (8, .int 0), (7, .int (nI nw)), (6, .int (S 7 2)), (5, .int 0), (4, .int (nI z)), (3, .int (nI q)), (0, .ref x0), (1, .int x), (2, .int y)]) hx hb dL_change_416 hl (by decide) rfl (fun ls hl => ?_)
        refine lv_aload_n hx hb dL_change_418 rfl (lv_at hl 11 rfl) ?_
        refine lv_bipush (v := 9) hx hb dL_change_419 (by decide) ?_
        obtain ⟨X_69, hO_70, hM9⟩ := o_count_9 (l := l) (D := D) hSR hO_68
        refine lo_I (n := 1) (As := [.int 9]) (rest := []) hx hb hml hown hts hK hN hM9 (OX.at0 hO_68) gL_change_X4_count rfl (by decide +kernel) (by decide) dL_change_421 rfl rfl (Nat.le_of_ble_eq_true rfl) hl.1 (Nat.le_of_ble_eq_true rfl) (Nat.le_of_ble_eq_true rfl) (Nat.le_of_ble_eq_true rfl) (Nat.le_of_ble_eq_true rfl) hP hD hS hA (fun H locs hP hD hS => ?_)
        clear hM9
        refine lv_istore (lv' := [(5, .int (S 7 1)), (13, .int (hvM S)), (12, .int (hwF S (hvM S))), (11, .int (smF (S 4) 9)), (10, .int (nI z)), (9, .int (nI q)), (8, .int 0), (7, .int (nI nw)), (6, .int (S 7 2)), (4, .int (nI z)), (3, .int (nI q)), (0, .ref x0), (1, .int x), (2, .int y)]) hx hb dL_change_424 hl (by decide) rfl (fun ls hl => ?_)
        refine lv_iload hx hb dL_change_426 (lv_at hl 2 rfl) ?_
        refine lv_iconst (v := 1) hx hb dL_change_428 (by decide) ?_
        refine lv_icmp_lt (tgt := 439) hx hb dL_change_429 (by decide) (fun c_71 => ?_) (fun c_71 => ?_)
        · have hst := st_ref hSR hnw (Or.inl c_71)
          refine lv_aload_n hx hb dL_change_439 rfl (lv_at hl 11 rfl) ?_
          obtain ⟨X_72, hO_73, hM9⟩ := o_step (l := l) (D := D) hSR hO_70 hns (nw := nw) hn hn2
          refine lo_I (n := 0) (As := []) (rest := []) hx hb hml hown hts hK hN hM9 (OX.at0 hO_70) gL_change_X4_step rfl (by decide +kernel) (by decide) dL_change_440 rfl rfl (Nat.le_of_ble_eq_true rfl) hl.1 (Nat.le_of_ble_eq_true rfl) (Nat.le_of_ble_eq_true rfl) (Nat.le_of_ble_eq_true rfl) (Nat.le_of_ble_eq_true rfl) hP hD hS hA (fun H locs hP hD hS => ?_)
          clear hM9
          refine tp_e (y := 0) (by rw [hst]) ?_
          rw [hst] at hO_73
          have hO_73 : OX k x0 (svN ns) (rfS S) _ Y0 k0 X_72 := hO_73
          have hns2 : (svN ns) ≤ 6 := (svN_le hns).1
          have hL2 : LI (rfS S) := LI_rf hL
          obtain ⟨f2, hSR2, -, -⟩ := id hL2
          refine lv_if_ne (tgt := 483) hx hb dL_change_443 (by decide) (fun c_74 => ?_) (fun c_74 => ?_)
          · exact absurd c_74 (by decide)
          · refine lv_aload_n hx hb dL_change_446 rfl (lv_at hl 11 rfl) ?_
            refine lv_bipush (v := 10) hx hb dL_change_447 (by decide) ?_
            obtain ⟨X_75, hO_76, hM9⟩ := o_count_10 (l := l) (D := D) hSR2 hO_73
            refine lo_I (n := 1) (As := [.int 10]) (rest := []) hx hb hml hown hts hK hN hM9 (OX.at0 hO_73) gL_change_X4_count rfl (by decide +kernel) (by decide) dL_change_449 rfl rfl (Nat.le_of_ble_eq_true rfl) hl.1 (Nat.le_of_ble_eq_true rfl) (Nat.le_of_ble_eq_true rfl) (Nat.le_of_ble_eq_true rfl) (Nat.le_of_ble_eq_true rfl) hP hD hS hA (fun H locs hP hD hS => ?_)
            clear hM9
            refine lv_iload hx hb dL_change_452 (lv_at hl 8 rfl) ?_
            refine lv_iconst (v := 1) hx hb dL_change_454 (by decide) ?_
            refine lv_iadd hx hb dL_change_455 ?_
            refine lv_icmp_ne (tgt := 483) hx hb dL_change_456 (by decide) (fun c_77 => ?_) (fun c_77 => ?_)
            · exact absurd (rfl) c_77
            · refine lv_aload_n hx hb dL_change_459 rfl (lv_at hl 11 rfl) ?_
              refine lv_iconst (v := 3) hx hb dL_change_460 (by decide) ?_
              obtain ⟨X_78, hO_79, hM9⟩ := o_count_3 (l := l) (D := D) hSR2 hO_76
              refine lo_I (n := 1) (As := [.int 3]) (rest := []) hx hb hml hown hts hK hN hM9 (OX.at0 hO_76) gL_change_X4_count rfl (by decide +kernel) (by decide) dL_change_461 rfl rfl (Nat.le_of_ble_eq_true rfl) hl.1 (Nat.le_of_ble_eq_true rfl) (Nat.le_of_ble_eq_true rfl) (Nat.le_of_ble_eq_true rfl) (Nat.le_of_ble_eq_true rfl) hP hD hS hA (fun H locs hP hD hS => ?_)
              clear hM9
              refine lv_iload hx hb dL_change_464 (lv_at hl 7 rfl) ?_
              refine lv_icmp_ne (tgt := 483) hx hb dL_change_466 (by decide) (fun c_80 => ?_) (fun c_80 => ?_)
              · exact absurd (hn) c_80
              · refine lv_aload_n hx hb dL_change_469 rfl (lv_at hl 11 rfl) ?_
                refine lv_iconst (v := 2) hx hb dL_change_470 (by decide) ?_
                obtain ⟨X_81, hO_82, hM9⟩ := o_count_2 (l := l) (D := D) hSR2 hO_79
                refine lo_I (n := 1) (As := [.int 2]) (rest := []) hx hb hml hown hts hK hN hM9 (OX.at0 hO_79) gL_change_X4_count rfl (by decide +kernel) (by decide) dL_change_471 rfl rfl (Nat.le_of_ble_eq_true rfl) hl.1 (Nat.le_of_ble_eq_true rfl) (Nat.le_of_ble_eq_true rfl) (Nat.le_of_ble_eq_true rfl) (Nat.le_of_ble_eq_true rfl) hP hD hS hA (fun H locs hP hD hS => ?_)
                clear hM9
                refine lv_iload hx hb dL_change_474 (lv_at hl 3 rfl) ?_
                refine lv_icmp_ne (tgt := 483) hx hb dL_change_476 (by decide) (fun c_83 => ?_) (fun c_83 => ?_)
                · exact absurd (rfl) c_83
                · refine lv_iconst (v := 1) hx hb dL_change_479 (by decide) ?_
                  refine lv_goto (tgt := 484) hx hb dL_change_480 (by decide) ?_
                  subst hQ
                  exact rt_zo hx hb hr hlocks hS dL_change_484 (va_PR hP) (va_DR hD) rfl (⟨rfl, _, _, _, hns2, hL2, hO_82⟩)
        · have hge := c_71
          refine lv_iload hx hb dL_change_432 (lv_at hl 7 rfl) ?_
          refine lv_bipush (v := 12) hx hb dL_change_434 (by decide) ?_
          refine lv_icmp_ne (tgt := 485) hx hb dL_change_436 (by decide) (fun c_84 => ?_) (fun c_84 => ?_)
          · have c_84 : ¬ (nw = 12) := fun h9 => c_84 ((nI_eq (a := nw) (b := 12) (by omega) (by omega)).mpr h9)
            obtain ⟨b, w, b1, b2, w1, w2, n1, em, ew, ewm, hst⟩ := st_go hSR hnw hge c_84
            refine lv_aload_n hx hb dL_change_485 rfl (lv_at hl 11 rfl) ?_
            obtain ⟨X_85, hO_86, hM9⟩ := o_step (l := l) (D := D) hSR hO_70 hns (nw := nw) hn hn2
            refine lo_I (n := 0) (As := []) (rest := []) hx hb hml hown hts hK hN hM9 (OX.at0 hO_70) gL_change_X4_step rfl (by decide +kernel) (by decide) dL_change_486 rfl rfl (Nat.le_of_ble_eq_true rfl) hl.1 (Nat.le_of_ble_eq_true rfl) (Nat.le_of_ble_eq_true rfl) (Nat.le_of_ble_eq_true rfl) (Nat.le_of_ble_eq_true rfl) hP hD hS hA (fun H locs hP hD hS => ?_)
            clear hM9
            refine tp_e (y := (nI w)) (by rw [hst]) ?_
            rw [hst] at hO_86
            have hO_86 : OX k x0 (svN ns) (tkS S (nI b) (nI w) nw) _ Y0 k0 X_85 := hO_86
            have hns2 : (svN ns) ≤ 6 := (svN_le hns).1
            have hL2 : LI (tkS S (nI b) (nI w) nw) := LI_tk hSR hBR hEX hnw n1 b2 ewm w2
            obtain ⟨f2, hSR2, -, -⟩ := id hL2
            have hn3 : (tkS S (nI b) (nI w) nw) 7 0 = nI (nw + 1) := by show S 7 0 + 1 = _; rw [hn, show (1 : Int32) = nI 1 from rfl, nI_add]
            have hn4 : nw + 1 ≤ 12 := by omega
            refine lv_iload hx hb dL_change_489 (lv_at hl 2 rfl) ?_
            refine lv_icmp_ne (tgt := 569) hx hb dL_change_491 (by decide) (fun c_87 => ?_) (fun c_87 => ?_)
            · exact absurd (ew.symm) c_87
            · refine lv_aload_n hx hb dL_change_494 rfl (lv_at hl 11 rfl) ?_
              refine lv_bipush (v := 9) hx hb dL_change_495 (by decide) ?_
              obtain ⟨X_88, hO_89, hM9⟩ := o_count_9 (l := l) (D := D) hSR2 hO_86
              refine lo_I (n := 1) (As := [.int 9]) (rest := []) hx hb hml hown hts hK hN hM9 (OX.at0 hO_86) gL_change_X4_count rfl (by decide +kernel) (by decide) dL_change_497 rfl rfl (Nat.le_of_ble_eq_true rfl) hl.1 (Nat.le_of_ble_eq_true rfl) (Nat.le_of_ble_eq_true rfl) (Nat.le_of_ble_eq_true rfl) (Nat.le_of_ble_eq_true rfl) hP hD hS hA (fun H locs hP hD hS => ?_)
              clear hM9
              refine lv_iload hx hb dL_change_500 (lv_at hl 0 rfl) ?_
              refine lv_iconst (v := 1) hx hb dL_change_502 (by decide) ?_
              refine lv_iadd hx hb dL_change_503 ?_
              refine lv_icmp_ne (tgt := 569) hx hb dL_change_504 (by decide) (fun c_90 => ?_) (fun c_90 => ?_)
              · exact absurd (rfl) c_90
              · refine lv_aload_n hx hb dL_change_507 rfl (lv_at hl 11 rfl) ?_
                refine lv_iload hx hb dL_change_508 (lv_at hl 7 rfl) ?_
                refine lv_iconst (v := 0) hx hb dL_change_510 (by decide) ?_
                obtain ⟨X_91, hO_92, hM9⟩ := o_noted_0 (l := l) (D := D) hSR2 hO_89 (r := nw) (nw := (nw + 1)) (by omega) hn3 hn4
                refine lo_I (n := 2) (As := [.int (nI nw), .int 0]) (rest := []) hx hb hml hown hts hK hN hM9 (OX.at0 hO_89) gL_change_X4_noted rfl (by decide +kernel) (by decide) dL_change_511 rfl rfl (Nat.le_of_ble_eq_true rfl) hl.1 (Nat.le_of_ble_eq_true rfl) (Nat.le_of_ble_eq_true rfl) (Nat.le_of_ble_eq_true rfl) (Nat.le_of_ble_eq_true rfl) hP hD hS hA (fun H locs hP hD hS => ?_)
                clear hM9
                refine lv_iload hx hb dL_change_514 (lv_at hl 2 rfl) ?_
                refine lv_icmp_ne (tgt := 569) hx hb dL_change_516 (by decide) (fun c_93 => ?_) (fun c_93 => ?_)
                · exact absurd (by unfold ntF; rw [if_neg (by omega), ew]; exact upd_e _ _ _) c_93
                · refine lv_aload_n hx hb dL_change_519 rfl (lv_at hl 11 rfl) ?_
                  refine lv_iload hx hb dL_change_520 (lv_at hl 7 rfl) ?_
                  refine lv_iconst (v := 1) hx hb dL_change_522 (by decide) ?_
                  obtain ⟨X_94, hO_95, hM9⟩ := o_noted_1 (l := l) (D := D) hSR2 hO_92 (r := nw) (nw := (nw + 1)) (by omega) hn3 hn4
                  refine lo_I (n := 2) (As := [.int (nI nw), .int 1]) (rest := []) hx hb hml hown hts hK hN hM9 (OX.at0 hO_92) gL_change_X4_noted rfl (by decide +kernel) (by decide) dL_change_523 rfl rfl (Nat.le_of_ble_eq_true rfl) hl.1 (Nat.le_of_ble_eq_true rfl) (Nat.le_of_ble_eq_true rfl) (Nat.le_of_ble_eq_true rfl) (Nat.le_of_ble_eq_true rfl) hP hD hS hA (fun H locs hP hD hS => ?_)
                  clear hM9
                  refine lv_iload hx hb dL_change_526 (lv_at hl 1 rfl) ?_
                  refine lv_icmp_ne (tgt := 569) hx hb dL_change_528 (by decide) (fun c_96 => ?_) (fun c_96 => ?_)
                  · exact absurd (by unfold ntF; rw [if_neg (by omega), em]; exact upd_e _ _ _) c_96
                  · refine lv_aload_n hx hb dL_change_531 rfl (lv_at hl 11 rfl) ?_
                    refine lv_iload hx hb dL_change_532 (lv_at hl 7 rfl) ?_
                    refine lv_iconst (v := 1) hx hb dL_change_534 (by decide) ?_
                    refine lv_iadd hx hb dL_change_535 ?_
                    refine tp_e (y := (nI (nw + 1))) (nI_add nw 1) ?_
                    refine lv_iconst (v := 0) hx hb dL_change_536 (by decide) ?_
                    obtain ⟨X_97, hO_98, hM9⟩ := o_noted_0 (l := l) (D := D) hSR2 hO_95 (r := (nw + 1)) (nw := (nw + 1)) (by omega) hn3 hn4
                    refine lo_I (n := 2) (As := [.int (nI (nw + 1)), .int 0]) (rest := []) hx hb hml hown hts hK hN hM9 (OX.at0 hO_95) gL_change_X4_noted rfl (by decide +kernel) (by decide) dL_change_537 rfl rfl (Nat.le_of_ble_eq_true rfl) hl.1 (Nat.le_of_ble_eq_true rfl) (Nat.le_of_ble_eq_true rfl) (Nat.le_of_ble_eq_true rfl) (Nat.le_of_ble_eq_true rfl) hP hD hS hA (fun H locs hP hD hS => ?_)
                    clear hM9
                    refine lv_iconst (v := (-1)) hx hb dL_change_540 (by decide) ?_
                    refine lv_icmp_ne (tgt := 569) hx hb dL_change_541 (by decide) (fun c_99 => ?_) (fun c_99 => ?_)
                    · exact absurd (if_pos (Nat.le_refl _)) c_99
                    · refine lv_aload_n hx hb dL_change_544 rfl (lv_at hl 11 rfl) ?_
                      refine lv_iconst (v := 2) hx hb dL_change_545 (by decide) ?_
                      obtain ⟨X_100, hO_101, hM9⟩ := o_count_2 (l := l) (D := D) hSR2 hO_98
                      refine lo_I (n := 1) (As := [.int 2]) (rest := []) hx hb hml hown hts hK hN hM9 (OX.at0 hO_98) gL_change_X4_count rfl (by decide +kernel) (by decide) dL_change_546 rfl rfl (Nat.le_of_ble_eq_true rfl) hl.1 (Nat.le_of_ble_eq_true rfl) (Nat.le_of_ble_eq_true rfl) (Nat.le_of_ble_eq_true rfl) (Nat.le_of_ble_eq_true rfl) hP hD hS hA (fun H locs hP hD hS => ?_)
                      clear hM9
                      refine lv_iload hx hb dL_change_549 (lv_at hl 3 rfl) ?_
                      refine lv_iload hx hb dL_change_551 (lv_at hl 2 rfl) ?_
                      refine lv_aload_n hx hb dL_change_553 rfl (lv_at hl 11 rfl) ?_
                      refine lv_iload hx hb dL_change_554 (lv_at hl 7 rfl) ?_
                      refine lv_iconst (v := 2) hx hb dL_change_556 (by decide) ?_
                      obtain ⟨X_102, hO_103, hM9⟩ := o_noted_2 (l := l) (D := D) hSR2 hO_101 (r := nw) (nw := (nw + 1)) (by omega) hn3 hn4
                      refine lo_I (n := 2) (As := [.int (nI nw), .int 2]) (rest := [.int (hwF S (hvM S)), .int (smF (S 4) 9), .int (smF ((tkS S (nI b) (nI w) nw) 4) 9)]) hx hb hml hown hts hK hN hM9 (OX.at0 hO_101) gL_change_X4_noted rfl (by decide +kernel) (by decide) dL_change_557 rfl rfl (Nat.le_of_ble_eq_true rfl) hl.1 (Nat.le_of_ble_eq_true rfl) (Nat.le_of_ble_eq_true rfl) (Nat.le_of_ble_eq_true rfl) (Nat.le_of_ble_eq_true rfl) hP hD hS hA (fun H locs hP hD hS => ?_)
                      clear hM9
                      refine lv_imul hx hb dL_change_560 ?_
                      refine lv_isub hx hb dL_change_561 ?_
                      refine lv_icmp_ne (tgt := 569) hx hb dL_change_562 (by decide) (fun c_104 => ?_) (fun c_104 => ?_)
                      · exact absurd (by unfold ntF; rw [if_neg (show ¬ nw + 1 ≤ nw from by omega), ew]; show smF (twF (S 4) (nI b) (nI w) 9) 9 = smF (S 4) 9 - nI w * bcF (upd (S 6) nw (nI b) nw); rw [upd_e]; exact sm_take b2 _ _) c_104
                      · refine lv_iconst (v := 1) hx hb dL_change_565 (by decide) ?_
                        refine lv_goto (tgt := 570) hx hb dL_change_566 (by decide) ?_
                        subst hQ
                        exact rt_zo hx hb hr hlocks hS dL_change_570 (va_PR hP) (va_DR hD) rfl (⟨rfl, _, _, _, hns2, hL2, hO_103⟩)
          · have c_84 : nw = 12 := (nI_eq (a := nw) (b := 12) (by omega) (by omega)).mp c_84
            have hst := st_ref hSR hnw (Or.inr c_84)
            refine lv_aload_n hx hb dL_change_439 rfl (lv_at hl 11 rfl) ?_
            obtain ⟨X_105, hO_106, hM9⟩ := o_step (l := l) (D := D) hSR hO_70 hns (nw := nw) hn hn2
            refine lo_I (n := 0) (As := []) (rest := []) hx hb hml hown hts hK hN hM9 (OX.at0 hO_70) gL_change_X4_step rfl (by decide +kernel) (by decide) dL_change_440 rfl rfl (Nat.le_of_ble_eq_true rfl) hl.1 (Nat.le_of_ble_eq_true rfl) (Nat.le_of_ble_eq_true rfl) (Nat.le_of_ble_eq_true rfl) (Nat.le_of_ble_eq_true rfl) hP hD hS hA (fun H locs hP hD hS => ?_)
            clear hM9
            refine tp_e (y := 0) (by rw [hst]) ?_
            rw [hst] at hO_106
            have hO_106 : OX k x0 (svN ns) (rfS S) _ Y0 k0 X_105 := hO_106
            have hns2 : (svN ns) ≤ 6 := (svN_le hns).1
            have hL2 : LI (rfS S) := LI_rf hL
            obtain ⟨f2, hSR2, -, -⟩ := id hL2
            refine lv_if_ne (tgt := 483) hx hb dL_change_443 (by decide) (fun c_107 => ?_) (fun c_107 => ?_)
            · exact absurd c_107 (by decide)
            · refine lv_aload_n hx hb dL_change_446 rfl (lv_at hl 11 rfl) ?_
              refine lv_bipush (v := 10) hx hb dL_change_447 (by decide) ?_
              obtain ⟨X_108, hO_109, hM9⟩ := o_count_10 (l := l) (D := D) hSR2 hO_106
              refine lo_I (n := 1) (As := [.int 10]) (rest := []) hx hb hml hown hts hK hN hM9 (OX.at0 hO_106) gL_change_X4_count rfl (by decide +kernel) (by decide) dL_change_449 rfl rfl (Nat.le_of_ble_eq_true rfl) hl.1 (Nat.le_of_ble_eq_true rfl) (Nat.le_of_ble_eq_true rfl) (Nat.le_of_ble_eq_true rfl) (Nat.le_of_ble_eq_true rfl) hP hD hS hA (fun H locs hP hD hS => ?_)
              clear hM9
              refine lv_iload hx hb dL_change_452 (lv_at hl 8 rfl) ?_
              refine lv_iconst (v := 1) hx hb dL_change_454 (by decide) ?_
              refine lv_iadd hx hb dL_change_455 ?_
              refine lv_icmp_ne (tgt := 483) hx hb dL_change_456 (by decide) (fun c_110 => ?_) (fun c_110 => ?_)
              · exact absurd (rfl) c_110
              · refine lv_aload_n hx hb dL_change_459 rfl (lv_at hl 11 rfl) ?_
                refine lv_iconst (v := 3) hx hb dL_change_460 (by decide) ?_
                obtain ⟨X_111, hO_112, hM9⟩ := o_count_3 (l := l) (D := D) hSR2 hO_109
                refine lo_I (n := 1) (As := [.int 3]) (rest := []) hx hb hml hown hts hK hN hM9 (OX.at0 hO_109) gL_change_X4_count rfl (by decide +kernel) (by decide) dL_change_461 rfl rfl (Nat.le_of_ble_eq_true rfl) hl.1 (Nat.le_of_ble_eq_true rfl) (Nat.le_of_ble_eq_true rfl) (Nat.le_of_ble_eq_true rfl) (Nat.le_of_ble_eq_true rfl) hP hD hS hA (fun H locs hP hD hS => ?_)
                clear hM9
                refine lv_iload hx hb dL_change_464 (lv_at hl 7 rfl) ?_
                refine lv_icmp_ne (tgt := 483) hx hb dL_change_466 (by decide) (fun c_113 => ?_) (fun c_113 => ?_)
                · exact absurd (hn) c_113
                · refine lv_aload_n hx hb dL_change_469 rfl (lv_at hl 11 rfl) ?_
                  refine lv_iconst (v := 2) hx hb dL_change_470 (by decide) ?_
                  obtain ⟨X_114, hO_115, hM9⟩ := o_count_2 (l := l) (D := D) hSR2 hO_112
                  refine lo_I (n := 1) (As := [.int 2]) (rest := []) hx hb hml hown hts hK hN hM9 (OX.at0 hO_112) gL_change_X4_count rfl (by decide +kernel) (by decide) dL_change_471 rfl rfl (Nat.le_of_ble_eq_true rfl) hl.1 (Nat.le_of_ble_eq_true rfl) (Nat.le_of_ble_eq_true rfl) (Nat.le_of_ble_eq_true rfl) (Nat.le_of_ble_eq_true rfl) hP hD hS hA (fun H locs hP hD hS => ?_)
                  clear hM9
                  refine lv_iload hx hb dL_change_474 (lv_at hl 3 rfl) ?_
                  refine lv_icmp_ne (tgt := 483) hx hb dL_change_476 (by decide) (fun c_116 => ?_) (fun c_116 => ?_)
                  · exact absurd (rfl) c_116
                  · refine lv_iconst (v := 1) hx hb dL_change_479 (by decide) ?_
                    refine lv_goto (tgt := 484) hx hb dL_change_480 (by decide) ?_
                    subst hQ
                    exact rt_zo hx hb hr hlocks hS dL_change_484 (va_PR hP) (va_DR hD) rfl (⟨rfl, _, _, _, hns2, hL2, hO_115⟩)
  · have c_5 : q = z := (nI_eq (a := q) (b := z) (by omega) (by omega)).mp c_5
    refine lv_iconst (v := 1) hx hb dL_change_41 (by decide) ?_
    refine lv_goto (tgt := 46) hx hb dL_change_42 (by decide) ?_
    refine lv_istore (lv' := [(8, .int 1), (7, .int (nI nw)), (6, .int (S 7 2)), (5, .int 0), (4, .int (nI z)), (3, .int (nI q)), (0, .ref x0), (1, .int x), (2, .int y)]) hx hb dL_change_46 hl (by decide) rfl (fun ls hl => ?_)
    refine lv_iload_n hx hb dL_change_48 rfl (lv_at hl 5 rfl) ?_
    refine lv_iload hx hb dL_change_49 (lv_at hl 4 rfl) ?_
    refine lv_icmp_ge (tgt := 58) hx hb dL_change_51 (by decide) (fun c_117 => ?_) (fun c_117 => ?_)
    · have c_117 : z ≤ q := (nI_leI (a := z) (b := q) (by omega) (by omega)).mp c_117
      refine lv_iload hx hb dL_change_58 (lv_at hl 4 rfl) ?_
      refine lv_istore (lv' := [(9, .int (nI z)), (8, .int 1), (7, .int (nI nw)), (6, .int (S 7 2)), (5, .int 0), (4, .int (nI z)), (3, .int (nI q)), (0, .ref x0), (1, .int x), (2, .int y)]) hx hb dL_change_60 hl (by decide) rfl (fun ls hl => ?_)
      refine lv_iload_n hx hb dL_change_62 rfl (lv_at hl 6 rfl) ?_
      refine lv_iload hx hb dL_change_63 (lv_at hl 5 rfl) ?_
      refine lv_icmp_ge (tgt := 73) hx hb dL_change_65 (by decide) (fun c_118 => ?_) (fun c_118 => ?_)
      · have c_118 : z ≤ q := (nI_leI (a := z) (b := q) (by omega) (by omega)).mp c_118
        refine lv_iload_n hx hb dL_change_73 rfl (lv_at hl 6 rfl) ?_
        refine lv_istore (lv' := [(10, .int (nI q)), (9, .int (nI z)), (8, .int 1), (7, .int (nI nw)), (6, .int (S 7 2)), (5, .int 0), (4, .int (nI z)), (3, .int (nI q)), (0, .ref x0), (1, .int x), (2, .int y)]) hx hb dL_change_74 hl (by decide) rfl (fun ls hl => ?_)
        refine lv_iload_n hx hb dL_change_76 rfl (lv_at hl 9 rfl) ?_
        refine lv_bipush (v := 16) hx hb dL_change_77 (by decide) ?_
        have hPc : va_P D vwCl ([]) H := hP.sub [] rfl
        have hDc : va_D A ([]) := hD.sub [] (by decide +kernel) rfl
        refine cl_i0 (va_runS (As := [.int x, .int 16]) (rest := []) ⟨hx, hb, hml, hown, hts⟩ (c_L_low_16 l D k x H.size) (va_cwS 2 hts gL_change_L_low rfl rfl rfl (by decide +kernel) ⟨Nat.le_of_ble_eq_true rfl, Nat.le_of_ble_eq_true rfl⟩) ⟨pr_blind, pr_at hN hPc hK hDc⟩ rfl rfl hl.1 rfl (lv_room (Nat.le_of_ble_eq_true rfl)) dL_change_79 ⟨Nat.le_of_ble_eq_true rfl, Nat.le_of_ble_eq_true rfl⟩) hP hD hS hA [] rfl (fun H locs hP hD hS => ?_)
        clear hPc hDc
        refine tp_e (y := 12) (congrArg nI hx16) ?_
        refine lv_tableIn (off := 315) (tgt := 397) hx hb dL_change_82 (by decide) (by decide) rfl (by decide) ?_
        refine lv_aload_n hx hb dL_change_397 rfl (lv_at hl 8 rfl) ?_
        refine lv_iconst (v := 2) hx hb dL_change_398 (by decide) ?_
        obtain ⟨X_119, hO_120, hM9⟩ := o_count_2 (l := l) (D := D) hSR hO_4
        refine lo_I (n := 1) (As := [.int 2]) (rest := []) hx hb hml hown hts hK hN hM9 (OX.at0 hO_4) gL_change_X4_count rfl (by decide +kernel) (by decide) dL_change_399 rfl rfl (Nat.le_of_ble_eq_true rfl) hl.1 (Nat.le_of_ble_eq_true rfl) (Nat.le_of_ble_eq_true rfl) (Nat.le_of_ble_eq_true rfl) (Nat.le_of_ble_eq_true rfl) hP hD hS hA (fun H locs hP hD hS => ?_)
        clear hM9
        refine lv_istore (lv' := [(11, .int (smF (S 4) 9)), (10, .int (nI q)), (9, .int (nI z)), (8, .int 1), (7, .int (nI nw)), (6, .int (S 7 2)), (5, .int 0), (4, .int (nI z)), (3, .int (nI q)), (0, .ref x0), (1, .int x), (2, .int y)]) hx hb dL_change_402 hl (by decide) rfl (fun ls hl => ?_)
        refine lv_aload_n hx hb dL_change_404 rfl (lv_at hl 9 rfl) ?_
        refine lv_iconst (v := 0) hx hb dL_change_405 (by decide) ?_
        obtain ⟨X_121, hO_122, hM9⟩ := o_heaviest_0 (l := l) (D := D) hSR hO_120
        refine lo_I (n := 1) (As := [.int 0]) (rest := []) hx hb hml hown hts hK hN hM9 (OX.at0 hO_120) gL_change_X4_heaviest rfl (by decide +kernel) (by decide) dL_change_406 rfl rfl (Nat.le_of_ble_eq_true rfl) hl.1 (Nat.le_of_ble_eq_true rfl) (Nat.le_of_ble_eq_true rfl) (Nat.le_of_ble_eq_true rfl) (Nat.le_of_ble_eq_true rfl) hP hD hS hA (fun H locs hP hD hS => ?_)
        clear hM9
        refine lv_istore (lv' := [(12, .int (hwF S (hvM S))), (11, .int (smF (S 4) 9)), (10, .int (nI q)), (9, .int (nI z)), (8, .int 1), (7, .int (nI nw)), (6, .int (S 7 2)), (5, .int 0), (4, .int (nI z)), (3, .int (nI q)), (0, .ref x0), (1, .int x), (2, .int y)]) hx hb dL_change_409 hl (by decide) rfl (fun ls hl => ?_)
        refine lv_aload_n hx hb dL_change_411 rfl (lv_at hl 10 rfl) ?_
        refine lv_iconst (v := 1) hx hb dL_change_412 (by decide) ?_
        obtain ⟨X_123, hO_124, hM9⟩ := o_heaviest_1 (l := l) (D := D) hSR hO_122
        refine lo_I (n := 1) (As := [.int 1]) (rest := []) hx hb hml hown hts hK hN hM9 (OX.at0 hO_122) gL_change_X4_heaviest rfl (by decide +kernel) (by decide) dL_change_413 rfl rfl (Nat.le_of_ble_eq_true rfl) hl.1 (Nat.le_of_ble_eq_true rfl) (Nat.le_of_ble_eq_true rfl) (Nat.le_of_ble_eq_true rfl) (Nat.le_of_ble_eq_true rfl) hP hD hS hA (fun H locs hP hD hS => ?_)
        clear hM9
        refine lv_istore (lv' := [(13, .int (hvM S)), (12, .int (hwF S (hvM S))), (11, .int (smF (S 4) 9)), (10, .int (nI q)), (9, .int (nI z)), (8, .int 1), (7, .int (nI nw)), (6, .int (S 7 2)), (5, .int 0), (4, .int (nI z)), (3, .int (nI q)), (0, .ref x0), (1, .int x), (2, .int y)]) hx hb dL_change_416 hl (by decide) rfl (fun ls hl => ?_)
        refine lv_aload_n hx hb dL_change_418 rfl (lv_at hl 11 rfl) ?_
        refine lv_bipush (v := 9) hx hb dL_change_419 (by decide) ?_
        obtain ⟨X_125, hO_126, hM9⟩ := o_count_9 (l := l) (D := D) hSR hO_124
        refine lo_I (n := 1) (As := [.int 9]) (rest := []) hx hb hml hown hts hK hN hM9 (OX.at0 hO_124) gL_change_X4_count rfl (by decide +kernel) (by decide) dL_change_421 rfl rfl (Nat.le_of_ble_eq_true rfl) hl.1 (Nat.le_of_ble_eq_true rfl) (Nat.le_of_ble_eq_true rfl) (Nat.le_of_ble_eq_true rfl) (Nat.le_of_ble_eq_true rfl) hP hD hS hA (fun H locs hP hD hS => ?_)
        clear hM9
        refine lv_istore (lv' := [(5, .int (S 7 1)), (13, .int (hvM S)), (12, .int (hwF S (hvM S))), (11, .int (smF (S 4) 9)), (10, .int (nI q)), (9, .int (nI z)), (8, .int 1), (7, .int (nI nw)), (6, .int (S 7 2)), (4, .int (nI z)), (3, .int (nI q)), (0, .ref x0), (1, .int x), (2, .int y)]) hx hb dL_change_424 hl (by decide) rfl (fun ls hl => ?_)
        refine lv_iload hx hb dL_change_426 (lv_at hl 2 rfl) ?_
        refine lv_iconst (v := 1) hx hb dL_change_428 (by decide) ?_
        refine lv_icmp_lt (tgt := 439) hx hb dL_change_429 (by decide) (fun c_127 => ?_) (fun c_127 => ?_)
        · have hst := st_ref hSR hnw (Or.inl c_127)
          refine lv_aload_n hx hb dL_change_439 rfl (lv_at hl 11 rfl) ?_
          obtain ⟨X_128, hO_129, hM9⟩ := o_step (l := l) (D := D) hSR hO_126 hns (nw := nw) hn hn2
          refine lo_I (n := 0) (As := []) (rest := []) hx hb hml hown hts hK hN hM9 (OX.at0 hO_126) gL_change_X4_step rfl (by decide +kernel) (by decide) dL_change_440 rfl rfl (Nat.le_of_ble_eq_true rfl) hl.1 (Nat.le_of_ble_eq_true rfl) (Nat.le_of_ble_eq_true rfl) (Nat.le_of_ble_eq_true rfl) (Nat.le_of_ble_eq_true rfl) hP hD hS hA (fun H locs hP hD hS => ?_)
          clear hM9
          refine tp_e (y := 0) (by rw [hst]) ?_
          rw [hst] at hO_129
          have hO_129 : OX k x0 (svN ns) (rfS S) _ Y0 k0 X_128 := hO_129
          have hns2 : (svN ns) ≤ 6 := (svN_le hns).1
          have hL2 : LI (rfS S) := LI_rf hL
          obtain ⟨f2, hSR2, -, -⟩ := id hL2
          refine lv_if_ne (tgt := 483) hx hb dL_change_443 (by decide) (fun c_130 => ?_) (fun c_130 => ?_)
          · exact absurd c_130 (by decide)
          · refine lv_aload_n hx hb dL_change_446 rfl (lv_at hl 11 rfl) ?_
            refine lv_bipush (v := 10) hx hb dL_change_447 (by decide) ?_
            obtain ⟨X_131, hO_132, hM9⟩ := o_count_10 (l := l) (D := D) hSR2 hO_129
            refine lo_I (n := 1) (As := [.int 10]) (rest := []) hx hb hml hown hts hK hN hM9 (OX.at0 hO_129) gL_change_X4_count rfl (by decide +kernel) (by decide) dL_change_449 rfl rfl (Nat.le_of_ble_eq_true rfl) hl.1 (Nat.le_of_ble_eq_true rfl) (Nat.le_of_ble_eq_true rfl) (Nat.le_of_ble_eq_true rfl) (Nat.le_of_ble_eq_true rfl) hP hD hS hA (fun H locs hP hD hS => ?_)
            clear hM9
            refine lv_iload hx hb dL_change_452 (lv_at hl 8 rfl) ?_
            refine lv_iconst (v := 1) hx hb dL_change_454 (by decide) ?_
            refine lv_iadd hx hb dL_change_455 ?_
            refine lv_icmp_ne (tgt := 483) hx hb dL_change_456 (by decide) (fun c_133 => ?_) (fun c_133 => ?_)
            · exact absurd (rfl) c_133
            · refine lv_aload_n hx hb dL_change_459 rfl (lv_at hl 11 rfl) ?_
              refine lv_iconst (v := 3) hx hb dL_change_460 (by decide) ?_
              obtain ⟨X_134, hO_135, hM9⟩ := o_count_3 (l := l) (D := D) hSR2 hO_132
              refine lo_I (n := 1) (As := [.int 3]) (rest := []) hx hb hml hown hts hK hN hM9 (OX.at0 hO_132) gL_change_X4_count rfl (by decide +kernel) (by decide) dL_change_461 rfl rfl (Nat.le_of_ble_eq_true rfl) hl.1 (Nat.le_of_ble_eq_true rfl) (Nat.le_of_ble_eq_true rfl) (Nat.le_of_ble_eq_true rfl) (Nat.le_of_ble_eq_true rfl) hP hD hS hA (fun H locs hP hD hS => ?_)
              clear hM9
              refine lv_iload hx hb dL_change_464 (lv_at hl 7 rfl) ?_
              refine lv_icmp_ne (tgt := 483) hx hb dL_change_466 (by decide) (fun c_136 => ?_) (fun c_136 => ?_)
              · exact absurd (hn) c_136
              · refine lv_aload_n hx hb dL_change_469 rfl (lv_at hl 11 rfl) ?_
                refine lv_iconst (v := 2) hx hb dL_change_470 (by decide) ?_
                obtain ⟨X_137, hO_138, hM9⟩ := o_count_2 (l := l) (D := D) hSR2 hO_135
                refine lo_I (n := 1) (As := [.int 2]) (rest := []) hx hb hml hown hts hK hN hM9 (OX.at0 hO_135) gL_change_X4_count rfl (by decide +kernel) (by decide) dL_change_471 rfl rfl (Nat.le_of_ble_eq_true rfl) hl.1 (Nat.le_of_ble_eq_true rfl) (Nat.le_of_ble_eq_true rfl) (Nat.le_of_ble_eq_true rfl) (Nat.le_of_ble_eq_true rfl) hP hD hS hA (fun H locs hP hD hS => ?_)
                clear hM9
                refine lv_iload hx hb dL_change_474 (lv_at hl 3 rfl) ?_
                refine lv_icmp_ne (tgt := 483) hx hb dL_change_476 (by decide) (fun c_139 => ?_) (fun c_139 => ?_)
                · exact absurd (rfl) c_139
                · refine lv_iconst (v := 1) hx hb dL_change_479 (by decide) ?_
                  refine lv_goto (tgt := 484) hx hb dL_change_480 (by decide) ?_
                  subst hQ
                  exact rt_zo hx hb hr hlocks hS dL_change_484 (va_PR hP) (va_DR hD) rfl (⟨rfl, _, _, _, hns2, hL2, hO_138⟩)
        · have hge := c_127
          refine lv_iload hx hb dL_change_432 (lv_at hl 7 rfl) ?_
          refine lv_bipush (v := 12) hx hb dL_change_434 (by decide) ?_
          refine lv_icmp_ne (tgt := 485) hx hb dL_change_436 (by decide) (fun c_140 => ?_) (fun c_140 => ?_)
          · have c_140 : ¬ (nw = 12) := fun h9 => c_140 ((nI_eq (a := nw) (b := 12) (by omega) (by omega)).mpr h9)
            obtain ⟨b, w, b1, b2, w1, w2, n1, em, ew, ewm, hst⟩ := st_go hSR hnw hge c_140
            refine lv_aload_n hx hb dL_change_485 rfl (lv_at hl 11 rfl) ?_
            obtain ⟨X_141, hO_142, hM9⟩ := o_step (l := l) (D := D) hSR hO_126 hns (nw := nw) hn hn2
            refine lo_I (n := 0) (As := []) (rest := []) hx hb hml hown hts hK hN hM9 (OX.at0 hO_126) gL_change_X4_step rfl (by decide +kernel) (by decide) dL_change_486 rfl rfl (Nat.le_of_ble_eq_true rfl) hl.1 (Nat.le_of_ble_eq_true rfl) (Nat.le_of_ble_eq_true rfl) (Nat.le_of_ble_eq_true rfl) (Nat.le_of_ble_eq_true rfl) hP hD hS hA (fun H locs hP hD hS => ?_)
            clear hM9
            refine tp_e (y := (nI w)) (by rw [hst]) ?_
            rw [hst] at hO_142
            have hO_142 : OX k x0 (svN ns) (tkS S (nI b) (nI w) nw) _ Y0 k0 X_141 := hO_142
            have hns2 : (svN ns) ≤ 6 := (svN_le hns).1
            have hL2 : LI (tkS S (nI b) (nI w) nw) := LI_tk hSR hBR hEX hnw n1 b2 ewm w2
            obtain ⟨f2, hSR2, -, -⟩ := id hL2
            have hn3 : (tkS S (nI b) (nI w) nw) 7 0 = nI (nw + 1) := by show S 7 0 + 1 = _; rw [hn, show (1 : Int32) = nI 1 from rfl, nI_add]
            have hn4 : nw + 1 ≤ 12 := by omega
            refine lv_iload hx hb dL_change_489 (lv_at hl 2 rfl) ?_
            refine lv_icmp_ne (tgt := 569) hx hb dL_change_491 (by decide) (fun c_143 => ?_) (fun c_143 => ?_)
            · exact absurd (ew.symm) c_143
            · refine lv_aload_n hx hb dL_change_494 rfl (lv_at hl 11 rfl) ?_
              refine lv_bipush (v := 9) hx hb dL_change_495 (by decide) ?_
              obtain ⟨X_144, hO_145, hM9⟩ := o_count_9 (l := l) (D := D) hSR2 hO_142
              refine lo_I (n := 1) (As := [.int 9]) (rest := []) hx hb hml hown hts hK hN hM9 (OX.at0 hO_142) gL_change_X4_count rfl (by decide +kernel) (by decide) dL_change_497 rfl rfl (Nat.le_of_ble_eq_true rfl) hl.1 (Nat.le_of_ble_eq_true rfl) (Nat.le_of_ble_eq_true rfl) (Nat.le_of_ble_eq_true rfl) (Nat.le_of_ble_eq_true rfl) hP hD hS hA (fun H locs hP hD hS => ?_)
              clear hM9
              refine lv_iload hx hb dL_change_500 (lv_at hl 0 rfl) ?_
              refine lv_iconst (v := 1) hx hb dL_change_502 (by decide) ?_
              refine lv_iadd hx hb dL_change_503 ?_
              refine lv_icmp_ne (tgt := 569) hx hb dL_change_504 (by decide) (fun c_146 => ?_) (fun c_146 => ?_)
              · exact absurd (rfl) c_146
              · refine lv_aload_n hx hb dL_change_507 rfl (lv_at hl 11 rfl) ?_
                refine lv_iload hx hb dL_change_508 (lv_at hl 7 rfl) ?_
                refine lv_iconst (v := 0) hx hb dL_change_510 (by decide) ?_
                obtain ⟨X_147, hO_148, hM9⟩ := o_noted_0 (l := l) (D := D) hSR2 hO_145 (r := nw) (nw := (nw + 1)) (by omega) hn3 hn4
                refine lo_I (n := 2) (As := [.int (nI nw), .int 0]) (rest := []) hx hb hml hown hts hK hN hM9 (OX.at0 hO_145) gL_change_X4_noted rfl (by decide +kernel) (by decide) dL_change_511 rfl rfl (Nat.le_of_ble_eq_true rfl) hl.1 (Nat.le_of_ble_eq_true rfl) (Nat.le_of_ble_eq_true rfl) (Nat.le_of_ble_eq_true rfl) (Nat.le_of_ble_eq_true rfl) hP hD hS hA (fun H locs hP hD hS => ?_)
                clear hM9
                refine lv_iload hx hb dL_change_514 (lv_at hl 2 rfl) ?_
                refine lv_icmp_ne (tgt := 569) hx hb dL_change_516 (by decide) (fun c_149 => ?_) (fun c_149 => ?_)
                · exact absurd (by unfold ntF; rw [if_neg (by omega), ew]; exact upd_e _ _ _) c_149
                · refine lv_aload_n hx hb dL_change_519 rfl (lv_at hl 11 rfl) ?_
                  refine lv_iload hx hb dL_change_520 (lv_at hl 7 rfl) ?_
                  refine lv_iconst (v := 1) hx hb dL_change_522 (by decide) ?_
                  obtain ⟨X_150, hO_151, hM9⟩ := o_noted_1 (l := l) (D := D) hSR2 hO_148 (r := nw) (nw := (nw + 1)) (by omega) hn3 hn4
                  refine lo_I (n := 2) (As := [.int (nI nw), .int 1]) (rest := []) hx hb hml hown hts hK hN hM9 (OX.at0 hO_148) gL_change_X4_noted rfl (by decide +kernel) (by decide) dL_change_523 rfl rfl (Nat.le_of_ble_eq_true rfl) hl.1 (Nat.le_of_ble_eq_true rfl) (Nat.le_of_ble_eq_true rfl) (Nat.le_of_ble_eq_true rfl) (Nat.le_of_ble_eq_true rfl) hP hD hS hA (fun H locs hP hD hS => ?_)
                  clear hM9
                  refine lv_iload hx hb dL_change_526 (lv_at hl 1 rfl) ?_
                  refine lv_icmp_ne (tgt := 569) hx hb dL_change_528 (by decide) (fun c_152 => ?_) (fun c_152 => ?_)
                  · exact absurd (by unfold ntF; rw [if_neg (by omega), em]; exact upd_e _ _ _) c_152
                  · refine lv_aload_n hx hb dL_change_531 rfl (lv_at hl 11 rfl) ?_
                    refine lv_iload hx hb dL_change_532 (lv_at hl 7 rfl) ?_
                    refine lv_iconst (v := 1) hx hb dL_change_534 (by decide) ?_
                    refine lv_iadd hx hb dL_change_535 ?_
                    refine tp_e (y := (nI (nw + 1))) (nI_add nw 1) ?_
                    refine lv_iconst (v := 0) hx hb dL_change_536 (by decide) ?_
                    obtain ⟨X_153, hO_154, hM9⟩ := o_noted_0 (l := l) (D := D) hSR2 hO_151 (r := (nw + 1)) (nw := (nw + 1)) (by omega) hn3 hn4
                    refine lo_I (n := 2) (As := [.int (nI (nw + 1)), .int 0]) (rest := []) hx hb hml hown hts hK hN hM9 (OX.at0 hO_151) gL_change_X4_noted rfl (by decide +kernel) (by decide) dL_change_537 rfl rfl (Nat.le_of_ble_eq_true rfl) hl.1 (Nat.le_of_ble_eq_true rfl) (Nat.le_of_ble_eq_true rfl) (Nat.le_of_ble_eq_true rfl) (Nat.le_of_ble_eq_true rfl) hP hD hS hA (fun H locs hP hD hS => ?_)
                    clear hM9
                    refine lv_iconst (v := (-1)) hx hb dL_change_540 (by decide) ?_
                    refine lv_icmp_ne (tgt := 569) hx hb dL_change_541 (by decide) (fun c_155 => ?_) (fun c_155 => ?_)
                    · exact absurd (if_pos (Nat.le_refl _)) c_155
                    · refine lv_aload_n hx hb dL_change_544 rfl (lv_at hl 11 rfl) ?_
                      refine lv_iconst (v := 2) hx hb dL_change_545 (by decide) ?_
                      obtain ⟨X_156, hO_157, hM9⟩ := o_count_2 (l := l) (D := D) hSR2 hO_154
                      refine lo_I (n := 1) (As := [.int 2]) (rest := []) hx hb hml hown hts hK hN hM9 (OX.at0 hO_154) gL_change_X4_count rfl (by decide +kernel) (by decide) dL_change_546 rfl rfl (Nat.le_of_ble_eq_true rfl) hl.1 (Nat.le_of_ble_eq_true rfl) (Nat.le_of_ble_eq_true rfl) (Nat.le_of_ble_eq_true rfl) (Nat.le_of_ble_eq_true rfl) hP hD hS hA (fun H locs hP hD hS => ?_)
                      clear hM9
                      refine lv_iload hx hb dL_change_549 (lv_at hl 3 rfl) ?_
                      refine lv_iload hx hb dL_change_551 (lv_at hl 2 rfl) ?_
                      refine lv_aload_n hx hb dL_change_553 rfl (lv_at hl 11 rfl) ?_
                      refine lv_iload hx hb dL_change_554 (lv_at hl 7 rfl) ?_
                      refine lv_iconst (v := 2) hx hb dL_change_556 (by decide) ?_
                      obtain ⟨X_158, hO_159, hM9⟩ := o_noted_2 (l := l) (D := D) hSR2 hO_157 (r := nw) (nw := (nw + 1)) (by omega) hn3 hn4
                      refine lo_I (n := 2) (As := [.int (nI nw), .int 2]) (rest := [.int (hwF S (hvM S)), .int (smF (S 4) 9), .int (smF ((tkS S (nI b) (nI w) nw) 4) 9)]) hx hb hml hown hts hK hN hM9 (OX.at0 hO_157) gL_change_X4_noted rfl (by decide +kernel) (by decide) dL_change_557 rfl rfl (Nat.le_of_ble_eq_true rfl) hl.1 (Nat.le_of_ble_eq_true rfl) (Nat.le_of_ble_eq_true rfl) (Nat.le_of_ble_eq_true rfl) (Nat.le_of_ble_eq_true rfl) hP hD hS hA (fun H locs hP hD hS => ?_)
                      clear hM9
                      refine lv_imul hx hb dL_change_560 ?_
                      refine lv_isub hx hb dL_change_561 ?_
                      refine lv_icmp_ne (tgt := 569) hx hb dL_change_562 (by decide) (fun c_160 => ?_) (fun c_160 => ?_)
                      · exact absurd (by unfold ntF; rw [if_neg (show ¬ nw + 1 ≤ nw from by omega), ew]; show smF (twF (S 4) (nI b) (nI w) 9) 9 = smF (S 4) 9 - nI w * bcF (upd (S 6) nw (nI b) nw); rw [upd_e]; exact sm_take b2 _ _) c_160
                      · refine lv_iconst (v := 1) hx hb dL_change_565 (by decide) ?_
                        refine lv_goto (tgt := 570) hx hb dL_change_566 (by decide) ?_
                        subst hQ
                        exact rt_zo hx hb hr hlocks hS dL_change_570 (va_PR hP) (va_DR hD) rfl (⟨rfl, _, _, _, hns2, hL2, hO_159⟩)
          · have c_140 : nw = 12 := (nI_eq (a := nw) (b := 12) (by omega) (by omega)).mp c_140
            have hst := st_ref hSR hnw (Or.inr c_140)
            refine lv_aload_n hx hb dL_change_439 rfl (lv_at hl 11 rfl) ?_
            obtain ⟨X_161, hO_162, hM9⟩ := o_step (l := l) (D := D) hSR hO_126 hns (nw := nw) hn hn2
            refine lo_I (n := 0) (As := []) (rest := []) hx hb hml hown hts hK hN hM9 (OX.at0 hO_126) gL_change_X4_step rfl (by decide +kernel) (by decide) dL_change_440 rfl rfl (Nat.le_of_ble_eq_true rfl) hl.1 (Nat.le_of_ble_eq_true rfl) (Nat.le_of_ble_eq_true rfl) (Nat.le_of_ble_eq_true rfl) (Nat.le_of_ble_eq_true rfl) hP hD hS hA (fun H locs hP hD hS => ?_)
            clear hM9
            refine tp_e (y := 0) (by rw [hst]) ?_
            rw [hst] at hO_162
            have hO_162 : OX k x0 (svN ns) (rfS S) _ Y0 k0 X_161 := hO_162
            have hns2 : (svN ns) ≤ 6 := (svN_le hns).1
            have hL2 : LI (rfS S) := LI_rf hL
            obtain ⟨f2, hSR2, -, -⟩ := id hL2
            refine lv_if_ne (tgt := 483) hx hb dL_change_443 (by decide) (fun c_163 => ?_) (fun c_163 => ?_)
            · exact absurd c_163 (by decide)
            · refine lv_aload_n hx hb dL_change_446 rfl (lv_at hl 11 rfl) ?_
              refine lv_bipush (v := 10) hx hb dL_change_447 (by decide) ?_
              obtain ⟨X_164, hO_165, hM9⟩ := o_count_10 (l := l) (D := D) hSR2 hO_162
              refine lo_I (n := 1) (As := [.int 10]) (rest := []) hx hb hml hown hts hK hN hM9 (OX.at0 hO_162) gL_change_X4_count rfl (by decide +kernel) (by decide) dL_change_449 rfl rfl (Nat.le_of_ble_eq_true rfl) hl.1 (Nat.le_of_ble_eq_true rfl) (Nat.le_of_ble_eq_true rfl) (Nat.le_of_ble_eq_true rfl) (Nat.le_of_ble_eq_true rfl) hP hD hS hA (fun H locs hP hD hS => ?_)
              clear hM9
              refine lv_iload hx hb dL_change_452 (lv_at hl 8 rfl) ?_
              refine lv_iconst (v := 1) hx hb dL_change_454 (by decide) ?_
              refine lv_iadd hx hb dL_change_455 ?_
              refine lv_icmp_ne (tgt := 483) hx hb dL_change_456 (by decide) (fun c_166 => ?_) (fun c_166 => ?_)
              · exact absurd (rfl) c_166
              · refine lv_aload_n hx hb dL_change_459 rfl (lv_at hl 11 rfl) ?_
                refine lv_iconst (v := 3) hx hb dL_change_460 (by decide) ?_
                obtain ⟨X_167, hO_168, hM9⟩ := o_count_3 (l := l) (D := D) hSR2 hO_165
                refine lo_I (n := 1) (As := [.int 3]) (rest := []) hx hb hml hown hts hK hN hM9 (OX.at0 hO_165) gL_change_X4_count rfl (by decide +kernel) (by decide) dL_change_461 rfl rfl (Nat.le_of_ble_eq_true rfl) hl.1 (Nat.le_of_ble_eq_true rfl) (Nat.le_of_ble_eq_true rfl) (Nat.le_of_ble_eq_true rfl) (Nat.le_of_ble_eq_true rfl) hP hD hS hA (fun H locs hP hD hS => ?_)
                clear hM9
                refine lv_iload hx hb dL_change_464 (lv_at hl 7 rfl) ?_
                refine lv_icmp_ne (tgt := 483) hx hb dL_change_466 (by decide) (fun c_169 => ?_) (fun c_169 => ?_)
                · exact absurd (hn) c_169
                · refine lv_aload_n hx hb dL_change_469 rfl (lv_at hl 11 rfl) ?_
                  refine lv_iconst (v := 2) hx hb dL_change_470 (by decide) ?_
                  obtain ⟨X_170, hO_171, hM9⟩ := o_count_2 (l := l) (D := D) hSR2 hO_168
                  refine lo_I (n := 1) (As := [.int 2]) (rest := []) hx hb hml hown hts hK hN hM9 (OX.at0 hO_168) gL_change_X4_count rfl (by decide +kernel) (by decide) dL_change_471 rfl rfl (Nat.le_of_ble_eq_true rfl) hl.1 (Nat.le_of_ble_eq_true rfl) (Nat.le_of_ble_eq_true rfl) (Nat.le_of_ble_eq_true rfl) (Nat.le_of_ble_eq_true rfl) hP hD hS hA (fun H locs hP hD hS => ?_)
                  clear hM9
                  refine lv_iload hx hb dL_change_474 (lv_at hl 3 rfl) ?_
                  refine lv_icmp_ne (tgt := 483) hx hb dL_change_476 (by decide) (fun c_172 => ?_) (fun c_172 => ?_)
                  · exact absurd (rfl) c_172
                  · refine lv_iconst (v := 1) hx hb dL_change_479 (by decide) ?_
                    refine lv_goto (tgt := 484) hx hb dL_change_480 (by decide) ?_
                    subst hQ
                    exact rt_zo hx hb hr hlocks hS dL_change_484 (va_PR hP) (va_DR hD) rfl (⟨rfl, _, _, _, hns2, hL2, hO_171⟩)
      · have c_118 : ¬ (z ≤ q) := fun h9 => c_118 ((nI_leI (a := z) (b := q) (by omega) (by omega)).mpr h9)
        omega
    · have c_117 : ¬ (z ≤ q) := fun h9 => c_117 ((nI_leI (a := z) (b := q) (by omega) (by omega)).mpr h9)
      exact absurd c_117 (not_not_intro (by omega))

set_option maxHeartbeats 4000000 in
set_option maxRecDepth 100000 in
theorem c_L_change_13 (l : Launch) (D : va_G) (k : Nat → ClassId) (x0 ns : Nat) (S : Nat → Nat → Int32) (Z : Nat → Nat → Nat → Int32) (Y0 : Nat → Nat → Int32) (k0 : Int32) (X : va_W) (x y : Int32) (hns : ns ≤ 6) (hL : LI S) (hO : OX k x0 ns S Z Y0 k0 X) (hx16 : lowN x 16 = 13) : MO l yL_change wsL_change ({ frames := 31, cells := 0, slots := 0, locals := 839 }) D k [.ref x0, .int x, .int y] X (fun r X2 => r = 1 ∧ ∃ ns2 S2 Z2, ns2 ≤ 6 ∧ LI S2 ∧ OX k x0 ns2 S2 Z2 Y0 k0 X2) := by
  intro sz
  refine Met.ofW (cc := cL_change) (maxL := 16) (ret := (some .boolean)) (by decide) rfl ?_
  intro p e s m args below meth c s₁ B hml hv
  obtain ⟨rfl, hN, hsz, hP, hK, hD0⟩ := hv
  have hx := B.exec
  have hb := B.bytes
  have hr := B.returns
  have hts := atoms_spec (ws := wsL_change) B.pre
  have hown : s.vm.findClass RL = some m.cls := findClass_of_methodNamed B.named
  have hlocks := B.notSynchronized
  subst hsz
  have hD := hD0.self (sz := s.heap.size)
  generalize hAe : va_A X s.heap.size = A at hD ⊢
  have hA : ∀ q : Nat, s.heap.size ≤ q → A q := fun q h => by rw [← hAe]; exact Or.inr h
  have hS : va_S A s.heap s.heap [] := va_S.rf
  have hl := lv_entry ([.ref x0, .int x, .int y]) (n := 16) (Nat.le_of_ble_eq_true rfl)
  rw [lg_entry_eq]
  generalize (lg_sl ([.ref x0, .int x, .int y]) ++ List.replicate (16 - (lg_sl ([.ref x0, .int x, .int y])).length) Slot.unset).toArray = ls at hl ⊢
  have hl : lv_has ls 16 [(0, .ref x0), (1, .int x), (2, .int y)] := hl
  obtain ⟨H, hHe⟩ : ∃ H, H = s.heap := ⟨_, rfl⟩
  have hP : va_P D vwCl X H := by rw [hHe]; exact hP
  have hS : va_S A s.heap H [] := by rw [hHe]; exact hS
  rw [← hHe]
  refine absQ (fun Q hQ => ?_)
  obtain ⟨f, hSR, hBR, hEX⟩ := id hL
  obtain ⟨nw, hnw⟩ := hSR.2.2.2
  have hn : S 7 0 = nI nw := hnw.2.1
  have hn2 : nw ≤ 12 := hnw.1
  have hcv := low_lt (y >>> (4 &&& 31)) (n := 200) (by decide)
  have hP : va_P D vwCl ([] ++ (X)) H := hP
  have hD : va_D A ([] ++ (X)) := hD
  refine lv_iload_n hx hb dL_change_0 rfl (lv_at hl 2 rfl) ?_
  refine lv_bipush (v := 9) hx hb dL_change_1 (by decide) ?_
  have hPc : va_P D vwCl ([]) H := hP.sub [] rfl
  have hDc : va_D A ([]) := hD.sub [] (by decide +kernel) rfl
  refine cl_i0 (va_runS (As := [.int y, .int 9]) (rest := []) ⟨hx, hb, hml, hown, hts⟩ (c_L_low_9 l D k y H.size) (va_cwS 2 hts gL_change_L_low rfl rfl rfl (by decide +kernel) ⟨Nat.le_of_ble_eq_true rfl, Nat.le_of_ble_eq_true rfl⟩) ⟨pr_blind, pr_at hN hPc hK hDc⟩ rfl rfl hl.1 rfl (lv_room (Nat.le_of_ble_eq_true rfl)) dL_change_3 ⟨Nat.le_of_ble_eq_true rfl, Nat.le_of_ble_eq_true rfl⟩) hP hD hS hA [] rfl (fun H locs hP hD hS => ?_)
  clear hPc hDc
  obtain ⟨q, hqe⟩ : ∃ q, q = lowN y 9 := ⟨_, rfl⟩
  have hq9 : q < 9 := by rw [hqe]; exact low_lt _ (by decide)
  refine tp_e (y := (nI q)) (by rw [hqe]) ?_
  refine lv_istore_n (lv' := [(3, .int (nI q)), (0, .ref x0), (1, .int x), (2, .int y)]) hx hb dL_change_6 rfl hl (by decide) rfl (fun ls hl => ?_)
  refine lv_iload_n hx hb dL_change_7 rfl (lv_at hl 3 rfl) ?_
  refine lv_iconst (v := 4) hx hb dL_change_8 (by decide) ?_
  refine lv_ishr hx hb dL_change_9 ?_
  refine lv_bipush (v := 9) hx hb dL_change_10 (by decide) ?_
  have hPc : va_P D vwCl ([]) H := hP.sub [] rfl
  have hDc : va_D A ([]) := hD.sub [] (by decide +kernel) rfl
  refine cl_i0 (va_runS (As := [.int (y >>> (4 &&& 31)), .int 9]) (rest := []) ⟨hx, hb, hml, hown, hts⟩ (c_L_low_9 l D k (y >>> (4 &&& 31)) H.size) (va_cwS 2 hts gL_change_L_low rfl rfl rfl (by decide +kernel) ⟨Nat.le_of_ble_eq_true rfl, Nat.le_of_ble_eq_true rfl⟩) ⟨pr_blind, pr_at hN hPc hK hDc⟩ rfl rfl hl.1 rfl (lv_room (Nat.le_of_ble_eq_true rfl)) dL_change_12 ⟨Nat.le_of_ble_eq_true rfl, Nat.le_of_ble_eq_true rfl⟩) hP hD hS hA [] rfl (fun H locs hP hD hS => ?_)
  clear hPc hDc
  obtain ⟨z, hze⟩ : ∃ z, z = lowN (y >>> (4 &&& 31)) 9 := ⟨_, rfl⟩
  have hz9 : z < 9 := by rw [hze]; exact low_lt _ (by decide)
  refine tp_e (y := (nI z)) (by rw [hze]) ?_
  refine lv_istore (lv' := [(4, .int (nI z)), (3, .int (nI q)), (0, .ref x0), (1, .int x), (2, .int y)]) hx hb dL_change_15 hl (by decide) rfl (fun ls hl => ?_)
  refine lv_iconst (v := 0) hx hb dL_change_17 (by decide) ?_
  refine lv_istore (lv' := [(5, .int 0), (4, .int (nI z)), (3, .int (nI q)), (0, .ref x0), (1, .int x), (2, .int y)]) hx hb dL_change_18 hl (by decide) rfl (fun ls hl => ?_)
  refine lv_aload_n hx hb dL_change_20 rfl (lv_at hl 3 rfl) ?_
  refine lv_bipush (v := 10) hx hb dL_change_21 (by decide) ?_
  obtain ⟨X_1, hO_2, hM9⟩ := o_count_10 (l := l) (D := D) hSR hO
  refine lo_I (n := 1) (As := [.int 10]) (rest := []) hx hb hml hown hts hK hN hM9 (OX.at0 hO) gL_change_X4_count rfl (by decide +kernel) (by decide) dL_change_23 rfl rfl (Nat.le_of_ble_eq_true rfl) hl.1 (Nat.le_of_ble_eq_true rfl) (Nat.le_of_ble_eq_true rfl) (Nat.le_of_ble_eq_true rfl) (Nat.le_of_ble_eq_true rfl) hP hD hS hA (fun H locs hP hD hS => ?_)
  clear hM9
  refine lv_istore (lv' := [(6, .int (S 7 2)), (5, .int 0), (4, .int (nI z)), (3, .int (nI q)), (0, .ref x0), (1, .int x), (2, .int y)]) hx hb dL_change_26 hl (by decide) rfl (fun ls hl => ?_)
  refine lv_aload_n hx hb dL_change_28 rfl (lv_at hl 4 rfl) ?_
  refine lv_iconst (v := 3) hx hb dL_change_29 (by decide) ?_
  obtain ⟨X_3, hO_4, hM9⟩ := o_count_3 (l := l) (D := D) hSR hO_2
  refine lo_I (n := 1) (As := [.int 3]) (rest := []) hx hb hml hown hts hK hN hM9 (OX.at0 hO_2) gL_change_X4_count rfl (by decide +kernel) (by decide) dL_change_30 rfl rfl (Nat.le_of_ble_eq_true rfl) hl.1 (Nat.le_of_ble_eq_true rfl) (Nat.le_of_ble_eq_true rfl) (Nat.le_of_ble_eq_true rfl) (Nat.le_of_ble_eq_true rfl) hP hD hS hA (fun H locs hP hD hS => ?_)
  clear hM9
  refine tp_e (y := (nI nw)) hn ?_
  refine lv_istore (lv' := [(7, .int (nI nw)), (6, .int (S 7 2)), (5, .int 0), (4, .int (nI z)), (3, .int (nI q)), (0, .ref x0), (1, .int x), (2, .int y)]) hx hb dL_change_33 hl (by decide) rfl (fun ls hl => ?_)
  refine lv_iload_n hx hb dL_change_35 rfl (lv_at hl 4 rfl) ?_
  refine lv_iload hx hb dL_change_36 (lv_at hl 3 rfl) ?_
  refine lv_icmp_ne (tgt := 45) hx hb dL_change_38 (by decide) (fun c_5 => ?_) (fun c_5 => ?_)
  · have c_5 : ¬ (q = z) := fun h9 => c_5 ((nI_eq (a := q) (b := z) (by omega) (by omega)).mpr h9)
    refine lv_iconst (v := 0) hx hb dL_change_45 (by decide) ?_
    refine lv_istore (lv' := [(8, .int 0), (7, .int (nI nw)), (6, .int (S 7 2)), (5, .int 0), (4, .int (nI z)), (3, .int (nI q)), (0, .ref x0), (1, .int x), (2, .int y)]) hx hb dL_change_46 hl (by decide) rfl (fun ls hl => ?_)
    refine lv_iload_n hx hb dL_change_48 rfl (lv_at hl 5 rfl) ?_
    refine lv_iload hx hb dL_change_49 (lv_at hl 4 rfl) ?_
    refine lv_icmp_ge (tgt := 58) hx hb dL_change_51 (by decide) (fun c_6 => ?_) (fun c_6 => ?_)
    · have c_6 : z ≤ q := (nI_leI (a := z) (b := q) (by omega) (by omega)).mp c_6
      refine lv_iload hx hb dL_change_58 (lv_at hl 4 rfl) ?_
      refine lv_istore (lv' := [(9, .int (nI z)), (8, .int 0), (7, .int (nI nw)), (6, .int (S 7 2)), (5, .int 0), (4, .int (nI z)), (3, .int (nI q)), (0, .ref x0), (1, .int x), (2, .int y)]) hx hb dL_change_60 hl (by decide) rfl (fun ls hl => ?_)
      refine lv_iload_n hx hb dL_change_62 rfl (lv_at hl 6 rfl) ?_
      refine lv_iload hx hb dL_change_63 (lv_at hl 5 rfl) ?_
      refine lv_icmp_ge (tgt := 73) hx hb dL_change_65 (by decide) (fun c_7 => ?_) (fun c_7 => ?_)
      · have c_7 : z ≤ q := (nI_leI (a := z) (b := q) (by omega) (by omega)).mp c_7
        refine lv_iload_n hx hb dL_change_73 rfl (lv_at hl 6 rfl) ?_
        refine lv_istore (lv' := [(10, .int (nI q)), (9, .int (nI z)), (8, .int 0), (7, .int (nI nw)), (6, .int (S 7 2)), (5, .int 0), (4, .int (nI z)), (3, .int (nI q)), (0, .ref x0), (1, .int x), (2, .int y)]) hx hb dL_change_74 hl (by decide) rfl (fun ls hl => ?_)
        refine lv_iload_n hx hb dL_change_76 rfl (lv_at hl 9 rfl) ?_
        refine lv_bipush (v := 16) hx hb dL_change_77 (by decide) ?_
        have hPc : va_P D vwCl ([]) H := hP.sub [] rfl
        have hDc : va_D A ([]) := hD.sub [] (by decide +kernel) rfl
        refine cl_i0 (va_runS (As := [.int x, .int 16]) (rest := []) ⟨hx, hb, hml, hown, hts⟩ (c_L_low_16 l D k x H.size) (va_cwS 2 hts gL_change_L_low rfl rfl rfl (by decide +kernel) ⟨Nat.le_of_ble_eq_true rfl, Nat.le_of_ble_eq_true rfl⟩) ⟨pr_blind, pr_at hN hPc hK hDc⟩ rfl rfl hl.1 rfl (lv_room (Nat.le_of_ble_eq_true rfl)) dL_change_79 ⟨Nat.le_of_ble_eq_true rfl, Nat.le_of_ble_eq_true rfl⟩) hP hD hS hA [] rfl (fun H locs hP hD hS => ?_)
        clear hPc hDc
        refine tp_e (y := 13) (congrArg nI hx16) ?_
        refine lv_tableIn (off := 315) (tgt := 397) hx hb dL_change_82 (by decide) (by decide) rfl (by decide) ?_
        refine lv_aload_n hx hb dL_change_397 rfl (lv_at hl 8 rfl) ?_
        refine lv_iconst (v := 2) hx hb dL_change_398 (by decide) ?_
        obtain ⟨X_8, hO_9, hM9⟩ := o_count_2 (l := l) (D := D) hSR hO_4
        refine lo_I (n := 1) (As := [.int 2]) (rest := []) hx hb hml hown hts hK hN hM9 (OX.at0 hO_4) gL_change_X4_count rfl (by decide +kernel) (by decide) dL_change_399 rfl rfl (Nat.le_of_ble_eq_true rfl) hl.1 (Nat.le_of_ble_eq_true rfl) (Nat.le_of_ble_eq_true rfl) (Nat.le_of_ble_eq_true rfl) (Nat.le_of_ble_eq_true rfl) hP hD hS hA (fun H locs hP hD hS => ?_)
        clear hM9
        refine lv_istore (lv' := [(11, .int (smF (S 4) 9)), (10, .int (nI q)), (9, .int (nI z)), (8, .int 0), (7, .int (nI nw)), (6, .int (S 7 2)), (5, .int 0), (4, .int (nI z)), (3, .int (nI q)), (0, .ref x0), (1, .int x), (2, .int y)]) hx hb dL_change_402 hl (by decide) rfl (fun ls hl => ?_)
        refine lv_aload_n hx hb dL_change_404 rfl (lv_at hl 9 rfl) ?_
        refine lv_iconst (v := 0) hx hb dL_change_405 (by decide) ?_
        obtain ⟨X_10, hO_11, hM9⟩ := o_heaviest_0 (l := l) (D := D) hSR hO_9
        refine lo_I (n := 1) (As := [.int 0]) (rest := []) hx hb hml hown hts hK hN hM9 (OX.at0 hO_9) gL_change_X4_heaviest rfl (by decide +kernel) (by decide) dL_change_406 rfl rfl (Nat.le_of_ble_eq_true rfl) hl.1 (Nat.le_of_ble_eq_true rfl) (Nat.le_of_ble_eq_true rfl) (Nat.le_of_ble_eq_true rfl) (Nat.le_of_ble_eq_true rfl) hP hD hS hA (fun H locs hP hD hS => ?_)
        clear hM9
        refine lv_istore (lv' := [(12, .int (hwF S (hvM S))), (11, .int (smF (S 4) 9)), (10, .int (nI q)), (9, .int (nI z)), (8, .int 0), (7, .int (nI nw)), (6, .int (S 7 2)), (5, .int 0), (4, .int (nI z)), (3, .int (nI q)), (0, .ref x0), (1, .int x), (2, .int y)]) hx hb dL_change_409 hl (by decide) rfl (fun ls hl => ?_)
        refine lv_aload_n hx hb dL_change_411 rfl (lv_at hl 10 rfl) ?_
        refine lv_iconst (v := 1) hx hb dL_change_412 (by decide) ?_
        obtain ⟨X_12, hO_13, hM9⟩ := o_heaviest_1 (l := l) (D := D) hSR hO_11
        refine lo_I (n := 1) (As := [.int 1]) (rest := []) hx hb hml hown hts hK hN hM9 (OX.at0 hO_11) gL_change_X4_heaviest rfl (by decide +kernel) (by decide) dL_change_413 rfl rfl (Nat.le_of_ble_eq_true rfl) hl.1 (Nat.le_of_ble_eq_true rfl) (Nat.le_of_ble_eq_true rfl) (Nat.le_of_ble_eq_true rfl) (Nat.le_of_ble_eq_true rfl) hP hD hS hA (fun H locs hP hD hS => ?_)
        clear hM9
        refine lv_istore (lv' := [(13, .int (hvM S)), (12, .int (hwF S (hvM S))), (11, .int (smF (S 4) 9)), (10, .int (nI q)), (9, .int (nI z)), (8, .int 0), (7, .int (nI nw)), (6, .int (S 7 2)), (5, .int 0), (4, .int (nI z)), (3, .int (nI q)), (0, .ref x0), (1, .int x), (2, .int y)]) hx hb dL_change_416 hl (by decide) rfl (fun ls hl => ?_)
        refine lv_aload_n hx hb dL_change_418 rfl (lv_at hl 11 rfl) ?_
        refine lv_bipush (v := 9) hx hb dL_change_419 (by decide) ?_
        obtain ⟨X_14, hO_15, hM9⟩ := o_count_9 (l := l) (D := D) hSR hO_13
        refine lo_I (n := 1) (As := [.int 9]) (rest := []) hx hb hml hown hts hK hN hM9 (OX.at0 hO_13) gL_change_X4_count rfl (by decide +kernel) (by decide) dL_change_421 rfl rfl (Nat.le_of_ble_eq_true rfl) hl.1 (Nat.le_of_ble_eq_true rfl) (Nat.le_of_ble_eq_true rfl) (Nat.le_of_ble_eq_true rfl) (Nat.le_of_ble_eq_true rfl) hP hD hS hA (fun H locs hP hD hS => ?_)
        clear hM9
        refine lv_istore (lv' := [(5, .int (S 7 1)), (13, .int (hvM S)), (12, .int (hwF S (hvM S))), (11, .int (smF (S 4) 9)), (10, .int (nI q)), (9, .int (nI z)), (8, .int 0), (7, .int (nI nw)), (6, .int (S 7 2)), (4, .int (nI z)), (3, .int (nI q)), (0, .ref x0), (1, .int x), (2, .int y)]) hx hb dL_change_424 hl (by decide) rfl (fun ls hl => ?_)
        refine lv_iload hx hb dL_change_426 (lv_at hl 2 rfl) ?_
        refine lv_iconst (v := 1) hx hb dL_change_428 (by decide) ?_
        refine lv_icmp_lt (tgt := 439) hx hb dL_change_429 (by decide) (fun c_16 => ?_) (fun c_16 => ?_)
        · have hst := st_ref hSR hnw (Or.inl c_16)
          refine lv_aload_n hx hb dL_change_439 rfl (lv_at hl 11 rfl) ?_
          obtain ⟨X_17, hO_18, hM9⟩ := o_step (l := l) (D := D) hSR hO_15 hns (nw := nw) hn hn2
          refine lo_I (n := 0) (As := []) (rest := []) hx hb hml hown hts hK hN hM9 (OX.at0 hO_15) gL_change_X4_step rfl (by decide +kernel) (by decide) dL_change_440 rfl rfl (Nat.le_of_ble_eq_true rfl) hl.1 (Nat.le_of_ble_eq_true rfl) (Nat.le_of_ble_eq_true rfl) (Nat.le_of_ble_eq_true rfl) (Nat.le_of_ble_eq_true rfl) hP hD hS hA (fun H locs hP hD hS => ?_)
          clear hM9
          refine tp_e (y := 0) (by rw [hst]) ?_
          rw [hst] at hO_18
          have hO_18 : OX k x0 (svN ns) (rfS S) _ Y0 k0 X_17 := hO_18
          have hns2 : (svN ns) ≤ 6 := (svN_le hns).1
          have hL2 : LI (rfS S) := LI_rf hL
          obtain ⟨f2, hSR2, -, -⟩ := id hL2
          refine lv_if_ne (tgt := 483) hx hb dL_change_443 (by decide) (fun c_19 => ?_) (fun c_19 => ?_)
          · exact absurd c_19 (by decide)
          · refine lv_aload_n hx hb dL_change_446 rfl (lv_at hl 11 rfl) ?_
            refine lv_bipush (v := 10) hx hb dL_change_447 (by decide) ?_
            obtain ⟨X_20, hO_21, hM9⟩ := o_count_10 (l := l) (D := D) hSR2 hO_18
            refine lo_I (n := 1) (As := [.int 10]) (rest := []) hx hb hml hown hts hK hN hM9 (OX.at0 hO_18) gL_change_X4_count rfl (by decide +kernel) (by decide) dL_change_449 rfl rfl (Nat.le_of_ble_eq_true rfl) hl.1 (Nat.le_of_ble_eq_true rfl) (Nat.le_of_ble_eq_true rfl) (Nat.le_of_ble_eq_true rfl) (Nat.le_of_ble_eq_true rfl) hP hD hS hA (fun H locs hP hD hS => ?_)
            clear hM9
            refine lv_iload hx hb dL_change_452 (lv_at hl 8 rfl) ?_
            refine lv_iconst (v := 1) hx hb dL_change_454 (by decide) ?_
            refine lv_iadd hx hb dL_change_455 ?_
            refine lv_icmp_ne (tgt := 483) hx hb dL_change_456 (by decide) (fun c_22 => ?_) (fun c_22 => ?_)
            · exact absurd (rfl) c_22
            · refine lv_aload_n hx hb dL_change_459 rfl (lv_at hl 11 rfl) ?_
              refine lv_iconst (v := 3) hx hb dL_change_460 (by decide) ?_
              obtain ⟨X_23, hO_24, hM9⟩ := o_count_3 (l := l) (D := D) hSR2 hO_21
              refine lo_I (n := 1) (As := [.int 3]) (rest := []) hx hb hml hown hts hK hN hM9 (OX.at0 hO_21) gL_change_X4_count rfl (by decide +kernel) (by decide) dL_change_461 rfl rfl (Nat.le_of_ble_eq_true rfl) hl.1 (Nat.le_of_ble_eq_true rfl) (Nat.le_of_ble_eq_true rfl) (Nat.le_of_ble_eq_true rfl) (Nat.le_of_ble_eq_true rfl) hP hD hS hA (fun H locs hP hD hS => ?_)
              clear hM9
              refine lv_iload hx hb dL_change_464 (lv_at hl 7 rfl) ?_
              refine lv_icmp_ne (tgt := 483) hx hb dL_change_466 (by decide) (fun c_25 => ?_) (fun c_25 => ?_)
              · exact absurd (hn) c_25
              · refine lv_aload_n hx hb dL_change_469 rfl (lv_at hl 11 rfl) ?_
                refine lv_iconst (v := 2) hx hb dL_change_470 (by decide) ?_
                obtain ⟨X_26, hO_27, hM9⟩ := o_count_2 (l := l) (D := D) hSR2 hO_24
                refine lo_I (n := 1) (As := [.int 2]) (rest := []) hx hb hml hown hts hK hN hM9 (OX.at0 hO_24) gL_change_X4_count rfl (by decide +kernel) (by decide) dL_change_471 rfl rfl (Nat.le_of_ble_eq_true rfl) hl.1 (Nat.le_of_ble_eq_true rfl) (Nat.le_of_ble_eq_true rfl) (Nat.le_of_ble_eq_true rfl) (Nat.le_of_ble_eq_true rfl) hP hD hS hA (fun H locs hP hD hS => ?_)
                clear hM9
                refine lv_iload hx hb dL_change_474 (lv_at hl 3 rfl) ?_
                refine lv_icmp_ne (tgt := 483) hx hb dL_change_476 (by decide) (fun c_28 => ?_) (fun c_28 => ?_)
                · exact absurd (rfl) c_28
                · refine lv_iconst (v := 1) hx hb dL_change_479 (by decide) ?_
                  refine lv_goto (tgt := 484) hx hb dL_change_480 (by decide) ?_
                  subst hQ
                  exact rt_zo hx hb hr hlocks hS dL_change_484 (va_PR hP) (va_DR hD) rfl (⟨rfl, _, _, _, hns2, hL2, hO_27⟩)
        · have hge := c_16
          refine lv_iload hx hb dL_change_432 (lv_at hl 7 rfl) ?_
          refine lv_bipush (v := 12) hx hb dL_change_434 (by decide) ?_
          refine lv_icmp_ne (tgt := 485) hx hb dL_change_436 (by decide) (fun c_29 => ?_) (fun c_29 => ?_)
          · have c_29 : ¬ (nw = 12) := fun h9 => c_29 ((nI_eq (a := nw) (b := 12) (by omega) (by omega)).mpr h9)
            obtain ⟨b, w, b1, b2, w1, w2, n1, em, ew, ewm, hst⟩ := st_go hSR hnw hge c_29
            refine lv_aload_n hx hb dL_change_485 rfl (lv_at hl 11 rfl) ?_
            obtain ⟨X_30, hO_31, hM9⟩ := o_step (l := l) (D := D) hSR hO_15 hns (nw := nw) hn hn2
            refine lo_I (n := 0) (As := []) (rest := []) hx hb hml hown hts hK hN hM9 (OX.at0 hO_15) gL_change_X4_step rfl (by decide +kernel) (by decide) dL_change_486 rfl rfl (Nat.le_of_ble_eq_true rfl) hl.1 (Nat.le_of_ble_eq_true rfl) (Nat.le_of_ble_eq_true rfl) (Nat.le_of_ble_eq_true rfl) (Nat.le_of_ble_eq_true rfl) hP hD hS hA (fun H locs hP hD hS => ?_)
            clear hM9
            refine tp_e (y := (nI w)) (by rw [hst]) ?_
            rw [hst] at hO_31
            have hO_31 : OX k x0 (svN ns) (tkS S (nI b) (nI w) nw) _ Y0 k0 X_30 := hO_31
            have hns2 : (svN ns) ≤ 6 := (svN_le hns).1
            have hL2 : LI (tkS S (nI b) (nI w) nw) := LI_tk hSR hBR hEX hnw n1 b2 ewm w2
            obtain ⟨f2, hSR2, -, -⟩ := id hL2
            have hn3 : (tkS S (nI b) (nI w) nw) 7 0 = nI (nw + 1) := by show S 7 0 + 1 = _; rw [hn, show (1 : Int32) = nI 1 from rfl, nI_add]
            have hn4 : nw + 1 ≤ 12 := by omega
            refine lv_iload hx hb dL_change_489 (lv_at hl 2 rfl) ?_
            refine lv_icmp_ne (tgt := 569) hx hb dL_change_491 (by decide) (fun c_32 => ?_) (fun c_32 => ?_)
            · exact absurd (ew.symm) c_32
            · refine lv_aload_n hx hb dL_change_494 rfl (lv_at hl 11 rfl) ?_
              refine lv_bipush (v := 9) hx hb dL_change_495 (by decide) ?_
              obtain ⟨X_33, hO_34, hM9⟩ := o_count_9 (l := l) (D := D) hSR2 hO_31
              refine lo_I (n := 1) (As := [.int 9]) (rest := []) hx hb hml hown hts hK hN hM9 (OX.at0 hO_31) gL_change_X4_count rfl (by decide +kernel) (by decide) dL_change_497 rfl rfl (Nat.le_of_ble_eq_true rfl) hl.1 (Nat.le_of_ble_eq_true rfl) (Nat.le_of_ble_eq_true rfl) (Nat.le_of_ble_eq_true rfl) (Nat.le_of_ble_eq_true rfl) hP hD hS hA (fun H locs hP hD hS => ?_)
              clear hM9
              refine lv_iload hx hb dL_change_500 (lv_at hl 0 rfl) ?_
              refine lv_iconst (v := 1) hx hb dL_change_502 (by decide) ?_
              refine lv_iadd hx hb dL_change_503 ?_
              refine lv_icmp_ne (tgt := 569) hx hb dL_change_504 (by decide) (fun c_35 => ?_) (fun c_35 => ?_)
              · exact absurd (rfl) c_35
              · refine lv_aload_n hx hb dL_change_507 rfl (lv_at hl 11 rfl) ?_
                refine lv_iload hx hb dL_change_508 (lv_at hl 7 rfl) ?_
                refine lv_iconst (v := 0) hx hb dL_change_510 (by decide) ?_
                obtain ⟨X_36, hO_37, hM9⟩ := o_noted_0 (l := l) (D := D) hSR2 hO_34 (r := nw) (nw := (nw + 1)) (by omega) hn3 hn4
                refine lo_I (n := 2) (As := [.int (nI nw), .int 0]) (rest := []) hx hb hml hown hts hK hN hM9 (OX.at0 hO_34) gL_change_X4_noted rfl (by decide +kernel) (by decide) dL_change_511 rfl rfl (Nat.le_of_ble_eq_true rfl) hl.1 (Nat.le_of_ble_eq_true rfl) (Nat.le_of_ble_eq_true rfl) (Nat.le_of_ble_eq_true rfl) (Nat.le_of_ble_eq_true rfl) hP hD hS hA (fun H locs hP hD hS => ?_)
                clear hM9
                refine lv_iload hx hb dL_change_514 (lv_at hl 2 rfl) ?_
                refine lv_icmp_ne (tgt := 569) hx hb dL_change_516 (by decide) (fun c_38 => ?_) (fun c_38 => ?_)
                · exact absurd (by unfold ntF; rw [if_neg (by omega), ew]; exact upd_e _ _ _) c_38
                · refine lv_aload_n hx hb dL_change_519 rfl (lv_at hl 11 rfl) ?_
                  refine lv_iload hx hb dL_change_520 (lv_at hl 7 rfl) ?_
                  refine lv_iconst (v := 1) hx hb dL_change_522 (by decide) ?_
                  obtain ⟨X_39, hO_40, hM9⟩ := o_noted_1 (l := l) (D := D) hSR2 hO_37 (r := nw) (nw := (nw + 1)) (by omega) hn3 hn4
                  refine lo_I (n := 2) (As := [.int (nI nw), .int 1]) (rest := []) hx hb hml hown hts hK hN hM9 (OX.at0 hO_37) gL_change_X4_noted rfl (by decide +kernel) (by decide) dL_change_523 rfl rfl (Nat.le_of_ble_eq_true rfl) hl.1 (Nat.le_of_ble_eq_true rfl) (Nat.le_of_ble_eq_true rfl) (Nat.le_of_ble_eq_true rfl) (Nat.le_of_ble_eq_true rfl) hP hD hS hA (fun H locs hP hD hS => ?_)
                  clear hM9
                  refine lv_iload hx hb dL_change_526 (lv_at hl 1 rfl) ?_
                  refine lv_icmp_ne (tgt := 569) hx hb dL_change_528 (by decide) (fun c_41 => ?_) (fun c_41 => ?_)
                  · exact absurd (by unfold ntF; rw [if_neg (by omega), em]; exact upd_e _ _ _) c_41
                  · refine lv_aload_n hx hb dL_change_531 rfl (lv_at hl 11 rfl) ?_
                    refine lv_iload hx hb dL_change_532 (lv_at hl 7 rfl) ?_
                    refine lv_iconst (v := 1) hx hb dL_change_534 (by decide) ?_
                    refine lv_iadd hx hb dL_change_535 ?_
                    refine tp_e (y := (nI (nw + 1))) (nI_add nw 1) ?_
                    refine lv_iconst (v := 0) hx hb dL_change_536 (by decide) ?_
                    obtain ⟨X_42, hO_43, hM9⟩ := o_noted_0 (l := l) (D := D) hSR2 hO_40 (r := (nw + 1)) (nw := (nw + 1)) (by omega) hn3 hn4
                    refine lo_I (n := 2) (As := [.int (nI (nw + 1)), .int 0]) (rest := []) hx hb hml hown hts hK hN hM9 (OX.at0 hO_40) gL_change_X4_noted rfl (by decide +kernel) (by decide) dL_change_537 rfl rfl (Nat.le_of_ble_eq_true rfl) hl.1 (Nat.le_of_ble_eq_true rfl) (Nat.le_of_ble_eq_true rfl) (Nat.le_of_ble_eq_true rfl) (Nat.le_of_ble_eq_true rfl) hP hD hS hA (fun H locs hP hD hS => ?_)
                    clear hM9
                    refine lv_iconst (v := (-1)) hx hb dL_change_540 (by decide) ?_
                    refine lv_icmp_ne (tgt := 569) hx hb dL_change_541 (by decide) (fun c_44 => ?_) (fun c_44 => ?_)
                    · exact absurd (if_pos (Nat.le_refl _)) c_44
                    · refine lv_aload_n hx hb dL_change_544 rfl (lv_at hl 11 rfl) ?_
                      refine lv_iconst (v := 2) hx hb dL_change_545 (by decide) ?_
                      obtain ⟨X_45, hO_46, hM9⟩ := o_count_2 (l := l) (D := D) hSR2 hO_43
                      refine lo_I (n := 1) (As := [.int 2]) (rest := []) hx hb hml hown hts hK hN hM9 (OX.at0 hO_43) gL_change_X4_count rfl (by decide +kernel) (by decide) dL_change_546 rfl rfl (Nat.le_of_ble_eq_true rfl) hl.1 (Nat.le_of_ble_eq_true rfl) (Nat.le_of_ble_eq_true rfl) (Nat.le_of_ble_eq_true rfl) (Nat.le_of_ble_eq_true rfl) hP hD hS hA (fun H locs hP hD hS => ?_)
                      clear hM9
                      refine lv_iload hx hb dL_change_549 (lv_at hl 3 rfl) ?_
                      refine lv_iload hx hb dL_change_551 (lv_at hl 2 rfl) ?_
                      refine lv_aload_n hx hb dL_change_553 rfl (lv_at hl 11 rfl) ?_
                      refine lv_iload hx hb dL_change_554 (lv_at hl 7 rfl) ?_
                      refine lv_iconst (v := 2) hx hb dL_change_556 (by decide) ?_
                      obtain ⟨X_47, hO_48, hM9⟩ := o_noted_2 (l := l) (D := D) hSR2 hO_46 (r := nw) (nw := (nw + 1)) (by omega) hn3 hn4
                      refine lo_I (n := 2) (As := [.int (nI nw), .int 2]) (rest := [.int (hwF S (hvM S)), .int (smF (S 4) 9), .int (smF ((tkS S (nI b) (nI w) nw) 4) 9)]) hx hb hml hown hts hK hN hM9 (OX.at0 hO_46) gL_change_X4_noted rfl (by decide +kernel) (by decide) dL_change_557 rfl rfl (Nat.le_of_ble_eq_true rfl) hl.1 (Nat.le_of_ble_eq_true rfl) (Nat.le_of_ble_eq_true rfl) (Nat.le_of_ble_eq_true rfl) (Nat.le_of_ble_eq_true rfl) hP hD hS hA (fun H locs hP hD hS => ?_)
                      clear hM9
                      refine lv_imul hx hb dL_change_560 ?_
                      refine lv_isub hx hb dL_change_561 ?_
                      refine lv_icmp_ne (tgt := 569) hx hb dL_change_562 (by decide) (fun c_49 => ?_) (fun c_49 => ?_)
                      · exact absurd (by unfold ntF; rw [if_neg (show ¬ nw + 1 ≤ nw from by omega), ew]; show smF (twF (S 4) (nI b) (nI w) 9) 9 = smF (S 4) 9 - nI w * bcF (upd (S 6) nw (nI b) nw); rw [upd_e]; exact sm_take b2 _ _) c_49
                      · refine lv_iconst (v := 1) hx hb dL_change_565 (by decide) ?_
                        refine lv_goto (tgt := 570) hx hb dL_change_566 (by decide) ?_
                        subst hQ
                        exact rt_zo hx hb hr hlocks hS dL_change_570 (va_PR hP) (va_DR hD) rfl (⟨rfl, _, _, _, hns2, hL2, hO_48⟩)
          · have c_29 : nw = 12 := (nI_eq (a := nw) (b := 12) (by omega) (by omega)).mp c_29
            have hst := st_ref hSR hnw (Or.inr c_29)
            refine lv_aload_n hx hb dL_change_439 rfl (lv_at hl 11 rfl) ?_
            obtain ⟨X_50, hO_51, hM9⟩ := o_step (l := l) (D := D) hSR hO_15 hns (nw := nw) hn hn2
            refine lo_I (n := 0) (As := []) (rest := []) hx hb hml hown hts hK hN hM9 (OX.at0 hO_15) gL_change_X4_step rfl (by decide +kernel) (by decide) dL_change_440 rfl rfl (Nat.le_of_ble_eq_true rfl) hl.1 (Nat.le_of_ble_eq_true rfl) (Nat.le_of_ble_eq_true rfl) (Nat.le_of_ble_eq_true rfl) (Nat.le_of_ble_eq_true rfl) hP hD hS hA (fun H locs hP hD hS => ?_)
            clear hM9
            refine tp_e (y := 0) (by rw [hst]) ?_
            rw [hst] at hO_51
            have hO_51 : OX k x0 (svN ns) (rfS S) _ Y0 k0 X_50 := hO_51
            have hns2 : (svN ns) ≤ 6 := (svN_le hns).1
            have hL2 : LI (rfS S) := LI_rf hL
            obtain ⟨f2, hSR2, -, -⟩ := id hL2
            refine lv_if_ne (tgt := 483) hx hb dL_change_443 (by decide) (fun c_52 => ?_) (fun c_52 => ?_)
            · exact absurd c_52 (by decide)
            · refine lv_aload_n hx hb dL_change_446 rfl (lv_at hl 11 rfl) ?_
              refine lv_bipush (v := 10) hx hb dL_change_447 (by decide) ?_
              obtain ⟨X_53, hO_54, hM9⟩ := o_count_10 (l := l) (D := D) hSR2 hO_51
              refine lo_I (n := 1) (As := [.int 10]) (rest := []) hx hb hml hown hts hK hN hM9 (OX.at0 hO_51) gL_change_X4_count rfl (by decide +kernel) (by decide) dL_change_449 rfl rfl (Nat.le_of_ble_eq_true rfl) hl.1 (Nat.le_of_ble_eq_true rfl) (Nat.le_of_ble_eq_true rfl) (Nat.le_of_ble_eq_true rfl) (Nat.le_of_ble_eq_true rfl) hP hD hS hA (fun H locs hP hD hS => ?_)
              clear hM9
              refine lv_iload hx hb dL_change_452 (lv_at hl 8 rfl) ?_
              refine lv_iconst (v := 1) hx hb dL_change_454 (by decide) ?_
              refine lv_iadd hx hb dL_change_455 ?_
              refine lv_icmp_ne (tgt := 483) hx hb dL_change_456 (by decide) (fun c_55 => ?_) (fun c_55 => ?_)
              · exact absurd (rfl) c_55
              · refine lv_aload_n hx hb dL_change_459 rfl (lv_at hl 11 rfl) ?_
                refine lv_iconst (v := 3) hx hb dL_change_460 (by decide) ?_
                obtain ⟨X_56, hO_57, hM9⟩ := o_count_3 (l := l) (D := D) hSR2 hO_54
                refine lo_I (n := 1) (As := [.int 3]) (rest := []) hx hb hml hown hts hK hN hM9 (OX.at0 hO_54) gL_change_X4_count rfl (by decide +kernel) (by decide) dL_change_461 rfl rfl (Nat.le_of_ble_eq_true rfl) hl.1 (Nat.le_of_ble_eq_true rfl) (Nat.le_of_ble_eq_true rfl) (Nat.le_of_ble_eq_true rfl) (Nat.le_of_ble_eq_true rfl) hP hD hS hA (fun H locs hP hD hS => ?_)
                clear hM9
                refine lv_iload hx hb dL_change_464 (lv_at hl 7 rfl) ?_
                refine lv_icmp_ne (tgt := 483) hx hb dL_change_466 (by decide) (fun c_58 => ?_) (fun c_58 => ?_)
                · exact absurd (hn) c_58
                · refine lv_aload_n hx hb dL_change_469 rfl (lv_at hl 11 rfl) ?_
                  refine lv_iconst (v := 2) hx hb dL_change_470 (by decide) ?_
                  obtain ⟨X_59, hO_60, hM9⟩ := o_count_2 (l := l) (D := D) hSR2 hO_57
                  refine lo_I (n := 1) (As := [.int 2]) (rest := []) hx hb hml hown hts hK hN hM9 (OX.at0 hO_57) gL_change_X4_count rfl (by decide +kernel) (by decide) dL_change_471 rfl rfl (Nat.le_of_ble_eq_true rfl) hl.1 (Nat.le_of_ble_eq_true rfl) (Nat.le_of_ble_eq_true rfl) (Nat.le_of_ble_eq_true rfl) (Nat.le_of_ble_eq_true rfl) hP hD hS hA (fun H locs hP hD hS => ?_)
                  clear hM9
                  refine lv_iload hx hb dL_change_474 (lv_at hl 3 rfl) ?_
                  refine lv_icmp_ne (tgt := 483) hx hb dL_change_476 (by decide) (fun c_61 => ?_) (fun c_61 => ?_)
                  · exact absurd (rfl) c_61
                  · refine lv_iconst (v := 1) hx hb dL_change_479 (by decide) ?_
                    refine lv_goto (tgt := 484) hx hb dL_change_480 (by decide) ?_
                    subst hQ
                    exact rt_zo hx hb hr hlocks hS dL_change_484 (va_PR hP) (va_DR hD) rfl (⟨rfl, _, _, _, hns2, hL2, hO_60⟩)
      · have c_7 : ¬ (z ≤ q) := fun h9 => c_7 ((nI_leI (a := z) (b := q) (by omega) (by omega)).mpr h9)
        omega
    · have c_6 : ¬ (z ≤ q) := fun h9 => c_6 ((nI_leI (a := z) (b := q) (by omega) (by omega)).mpr h9)
      refine lv_iload_n hx hb dL_change_54 rfl (lv_at hl 5 rfl) ?_
      refine lv_goto (tgt := 60) hx hb dL_change_55 (by decide) ?_
      refine lv_istore (lv' := [(9, .int (nI q)), (8, .int 0), (7, .int (nI nw)), (6, .int (S 7 2)), (5, .int 0), (4, .int (nI z)), (3, .int (nI q)), (0, .ref x0), (1, .int x), (2, .int y)]) hx hb dL_change_60 hl (by decide) rfl (fun ls hl => ?_)
      refine lv_iload_n hx hb dL_change_62 rfl (lv_at hl 6 rfl) ?_
      refine lv_iload hx hb dL_change_63 (lv_at hl 5 rfl) ?_
      refine lv_icmp_ge (tgt := 73) hx hb dL_change_65 (by decide) (fun c_62 => ?_) (fun c_62 => ?_)
      · have c_62 : z ≤ q := (nI_leI (a := z) (b := q) (by omega) (by omega)).mp c_62
        omega
      · have c_62 : ¬ (z ≤ q) := fun h9 => c_62 ((nI_leI (a := z) (b := q) (by omega) (by omega)).mpr h9)
        refine lv_iload hx hb dL_change_68 (lv_at hl 5 rfl) ?_
        refine lv_goto (tgt := 74) hx hb dL_change_70 (by decide) ?_
        refine lv_istore (lv' := [(10, .int (nI z)), (9, .int (nI q)), (8, .int 0), (7, .int (nI nw)), (6, .int (S 7 2)), (5, .int 0), (4, .int (nI z)), (3, .int (nI q)), (0, .ref x0), (1, .int x), (2, .int y)]) hx hb dL_change_74 hl (by decide) rfl (fun ls hl => ?_)
        refine lv_iload_n hx hb dL_change_76 rfl (lv_at hl 9 rfl) ?_
        refine lv_bipush (v := 16) hx hb dL_change_77 (by decide) ?_
        have hPc : va_P D vwCl ([]) H := hP.sub [] rfl
        have hDc : va_D A ([]) := hD.sub [] (by decide +kernel) rfl
        refine cl_i0 (va_runS (As := [.int x, .int 16]) (rest := []) ⟨hx, hb, hml, hown, hts⟩ (c_L_low_16 l D k x H.size) (va_cwS 2 hts gL_change_L_low rfl rfl rfl (by decide +kernel) ⟨Nat.le_of_ble_eq_true rfl, Nat.le_of_ble_eq_true rfl⟩) ⟨pr_blind, pr_at hN hPc hK hDc⟩ rfl rfl hl.1 rfl (lv_room (Nat.le_of_ble_eq_true rfl)) dL_change_79 ⟨Nat.le_of_ble_eq_true rfl, Nat.le_of_ble_eq_true rfl⟩) hP hD hS hA [] rfl (fun H locs hP hD hS => ?_)
        clear hPc hDc
        refine tp_e (y := 13) (congrArg nI hx16) ?_
        refine lv_tableIn (off := 315) (tgt := 397) hx hb dL_change_82 (by decide) (by decide) rfl (by decide) ?_
        refine lv_aload_n hx hb dL_change_397 rfl (lv_at hl 8 rfl) ?_
        refine lv_iconst (v := 2) hx hb dL_change_398 (by decide) ?_
        obtain ⟨X_63, hO_64, hM9⟩ := o_count_2 (l := l) (D := D) hSR hO_4
        refine lo_I (n := 1) (As := [.int 2]) (rest := []) hx hb hml hown hts hK hN hM9 (OX.at0 hO_4) gL_change_X4_count rfl (by decide +kernel) (by decide) dL_change_399 rfl rfl (Nat.le_of_ble_eq_true rfl) hl.1 (Nat.le_of_ble_eq_true rfl) (Nat.le_of_ble_eq_true rfl) (Nat.le_of_ble_eq_true rfl) (Nat.le_of_ble_eq_true rfl) hP hD hS hA (fun H locs hP hD hS => ?_)
        clear hM9
        refine lv_istore (lv' := [(11, .int (smF (S 4) 9)), (10, .int (nI z)), (9, .int (nI q)), (8, .int 0), (7, .int (nI nw)), (6, .int (S 7 2)), (5, .int 0), (4, .int (nI z)), (3, .int (nI q)), (0, .ref x0), (1, .int x), (2, .int y)]) hx hb dL_change_402 hl (by decide) rfl (fun ls hl => ?_)
        refine lv_aload_n hx hb dL_change_404 rfl (lv_at hl 9 rfl) ?_
        refine lv_iconst (v := 0) hx hb dL_change_405 (by decide) ?_
        obtain ⟨X_65, hO_66, hM9⟩ := o_heaviest_0 (l := l) (D := D) hSR hO_64
        refine lo_I (n := 1) (As := [.int 0]) (rest := []) hx hb hml hown hts hK hN hM9 (OX.at0 hO_64) gL_change_X4_heaviest rfl (by decide +kernel) (by decide) dL_change_406 rfl rfl (Nat.le_of_ble_eq_true rfl) hl.1 (Nat.le_of_ble_eq_true rfl) (Nat.le_of_ble_eq_true rfl) (Nat.le_of_ble_eq_true rfl) (Nat.le_of_ble_eq_true rfl) hP hD hS hA (fun H locs hP hD hS => ?_)
        clear hM9
        refine lv_istore (lv' := [(12, .int (hwF S (hvM S))), (11, .int (smF (S 4) 9)), (10, .int (nI z)), (9, .int (nI q)), (8, .int 0), (7, .int (nI nw)), (6, .int (S 7 2)), (5, .int 0), (4, .int (nI z)), (3, .int (nI q)), (0, .ref x0), (1, .int x), (2, .int y)]) hx hb dL_change_409 hl (by decide) rfl (fun ls hl => ?_)
        refine lv_aload_n hx hb dL_change_411 rfl (lv_at hl 10 rfl) ?_
        refine lv_iconst (v := 1) hx hb dL_change_412 (by decide) ?_
        obtain ⟨X_67, hO_68, hM9⟩ := o_heaviest_1 (l := l) (D := D) hSR hO_66
        refine lo_I (n := 1) (As := [.int 1]) (rest := []) hx hb hml hown hts hK hN hM9 (OX.at0 hO_66) gL_change_X4_heaviest rfl (by decide +kernel) (by decide) dL_change_413 rfl rfl (Nat.le_of_ble_eq_true rfl) hl.1 (Nat.le_of_ble_eq_true rfl) (Nat.le_of_ble_eq_true rfl) (Nat.le_of_ble_eq_true rfl) (Nat.le_of_ble_eq_true rfl) hP hD hS hA (fun H locs hP hD hS => ?_)
        clear hM9
        refine lv_istore (lv' := [(13, .int (hvM S)), (12, .int (hwF S (hvM S))), (11, .int (smF (S 4) 9)), (10, .int (nI z)), (9, .int (nI q)), (8, .int 0), (7, .int (nI nw)), (6, .int (S 7 2)), (5, .int 0), (4, .int (nI z)), (3, .int (nI q)), (0, .ref x0), (1, .int x), (2, .int y)]) hx hb dL_change_416 hl (by decide) rfl (fun ls hl => ?_)
        refine lv_aload_n hx hb dL_change_418 rfl (lv_at hl 11 rfl) ?_
        refine lv_bipush (v := 9) hx hb dL_change_419 (by decide) ?_
        obtain ⟨X_69, hO_70, hM9⟩ := o_count_9 (l := l) (D := D) hSR hO_68
        refine lo_I (n := 1) (As := [.int 9]) (rest := []) hx hb hml hown hts hK hN hM9 (OX.at0 hO_68) gL_change_X4_count rfl (by decide +kernel) (by decide) dL_change_421 rfl rfl (Nat.le_of_ble_eq_true rfl) hl.1 (Nat.le_of_ble_eq_true rfl) (Nat.le_of_ble_eq_true rfl) (Nat.le_of_ble_eq_true rfl) (Nat.le_of_ble_eq_true rfl) hP hD hS hA (fun H locs hP hD hS => ?_)
        clear hM9
        refine lv_istore (lv' := [(5, .int (S 7 1)), (13, .int (hvM S)), (12, .int (hwF S (hvM S))), (11, .int (smF (S 4) 9)), (10, .int (nI z)), (9, .int (nI q)), (8, .int 0), (7, .int (nI nw)), (6, .int (S 7 2)), (4, .int (nI z)), (3, .int (nI q)), (0, .ref x0), (1, .int x), (2, .int y)]) hx hb dL_change_424 hl (by decide) rfl (fun ls hl => ?_)
        refine lv_iload hx hb dL_change_426 (lv_at hl 2 rfl) ?_
        refine lv_iconst (v := 1) hx hb dL_change_428 (by decide) ?_
        refine lv_icmp_lt (tgt := 439) hx hb dL_change_429 (by decide) (fun c_71 => ?_) (fun c_71 => ?_)
        · have hst := st_ref hSR hnw (Or.inl c_71)
          refine lv_aload_n hx hb dL_change_439 rfl (lv_at hl 11 rfl) ?_
          obtain ⟨X_72, hO_73, hM9⟩ := o_step (l := l) (D := D) hSR hO_70 hns (nw := nw) hn hn2
          refine lo_I (n := 0) (As := []) (rest := []) hx hb hml hown hts hK hN hM9 (OX.at0 hO_70) gL_change_X4_step rfl (by decide +kernel) (by decide) dL_change_440 rfl rfl (Nat.le_of_ble_eq_true rfl) hl.1 (Nat.le_of_ble_eq_true rfl) (Nat.le_of_ble_eq_true rfl) (Nat.le_of_ble_eq_true rfl) (Nat.le_of_ble_eq_true rfl) hP hD hS hA (fun H locs hP hD hS => ?_)
          clear hM9
          refine tp_e (y := 0) (by rw [hst]) ?_
          rw [hst] at hO_73
          have hO_73 : OX k x0 (svN ns) (rfS S) _ Y0 k0 X_72 := hO_73
          have hns2 : (svN ns) ≤ 6 := (svN_le hns).1
          have hL2 : LI (rfS S) := LI_rf hL
          obtain ⟨f2, hSR2, -, -⟩ := id hL2
          refine lv_if_ne (tgt := 483) hx hb dL_change_443 (by decide) (fun c_74 => ?_) (fun c_74 => ?_)
          · exact absurd c_74 (by decide)
          · refine lv_aload_n hx hb dL_change_446 rfl (lv_at hl 11 rfl) ?_
            refine lv_bipush (v := 10) hx hb dL_change_447 (by decide) ?_
            obtain ⟨X_75, hO_76, hM9⟩ := o_count_10 (l := l) (D := D) hSR2 hO_73
            refine lo_I (n := 1) (As := [.int 10]) (rest := []) hx hb hml hown hts hK hN hM9 (OX.at0 hO_73) gL_change_X4_count rfl (by decide +kernel) (by decide) dL_change_449 rfl rfl (Nat.le_of_ble_eq_true rfl) hl.1 (Nat.le_of_ble_eq_true rfl) (Nat.le_of_ble_eq_true rfl) (Nat.le_of_ble_eq_true rfl) (Nat.le_of_ble_eq_true rfl) hP hD hS hA (fun H locs hP hD hS => ?_)
            clear hM9
            refine lv_iload hx hb dL_change_452 (lv_at hl 8 rfl) ?_
            refine lv_iconst (v := 1) hx hb dL_change_454 (by decide) ?_
            refine lv_iadd hx hb dL_change_455 ?_
            refine lv_icmp_ne (tgt := 483) hx hb dL_change_456 (by decide) (fun c_77 => ?_) (fun c_77 => ?_)
            · exact absurd (rfl) c_77
            · refine lv_aload_n hx hb dL_change_459 rfl (lv_at hl 11 rfl) ?_
              refine lv_iconst (v := 3) hx hb dL_change_460 (by decide) ?_
              obtain ⟨X_78, hO_79, hM9⟩ := o_count_3 (l := l) (D := D) hSR2 hO_76
              refine lo_I (n := 1) (As := [.int 3]) (rest := []) hx hb hml hown hts hK hN hM9 (OX.at0 hO_76) gL_change_X4_count rfl (by decide +kernel) (by decide) dL_change_461 rfl rfl (Nat.le_of_ble_eq_true rfl) hl.1 (Nat.le_of_ble_eq_true rfl) (Nat.le_of_ble_eq_true rfl) (Nat.le_of_ble_eq_true rfl) (Nat.le_of_ble_eq_true rfl) hP hD hS hA (fun H locs hP hD hS => ?_)
              clear hM9
              refine lv_iload hx hb dL_change_464 (lv_at hl 7 rfl) ?_
              refine lv_icmp_ne (tgt := 483) hx hb dL_change_466 (by decide) (fun c_80 => ?_) (fun c_80 => ?_)
              · exact absurd (hn) c_80
              · refine lv_aload_n hx hb dL_change_469 rfl (lv_at hl 11 rfl) ?_
                refine lv_iconst (v := 2) hx hb dL_change_470 (by decide) ?_
                obtain ⟨X_81, hO_82, hM9⟩ := o_count_2 (l := l) (D := D) hSR2 hO_79
                refine lo_I (n := 1) (As := [.int 2]) (rest := []) hx hb hml hown hts hK hN hM9 (OX.at0 hO_79) gL_change_X4_count rfl (by decide +kernel) (by decide) dL_change_471 rfl rfl (Nat.le_of_ble_eq_true rfl) hl.1 (Nat.le_of_ble_eq_true rfl) (Nat.le_of_ble_eq_true rfl) (Nat.le_of_ble_eq_true rfl) (Nat.le_of_ble_eq_true rfl) hP hD hS hA (fun H locs hP hD hS => ?_)
                clear hM9
                refine lv_iload hx hb dL_change_474 (lv_at hl 3 rfl) ?_
                refine lv_icmp_ne (tgt := 483) hx hb dL_change_476 (by decide) (fun c_83 => ?_) (fun c_83 => ?_)
                · exact absurd (rfl) c_83
                · refine lv_iconst (v := 1) hx hb dL_change_479 (by decide) ?_
                  refine lv_goto (tgt := 484) hx hb dL_change_480 (by decide) ?_
                  subst hQ
                  exact rt_zo hx hb hr hlocks hS dL_change_484 (va_PR hP) (va_DR hD) rfl (⟨rfl, _, _, _, hns2, hL2, hO_82⟩)
        · have hge := c_71
          refine lv_iload hx hb dL_change_432 (lv_at hl 7 rfl) ?_
          refine lv_bipush (v := 12) hx hb dL_change_434 (by decide) ?_
          refine lv_icmp_ne (tgt := 485) hx hb dL_change_436 (by decide) (fun c_84 => ?_) (fun c_84 => ?_)
          · have c_84 : ¬ (nw = 12) := fun h9 => c_84 ((nI_eq (a := nw) (b := 12) (by omega) (by omega)).mpr h9)
            obtain ⟨b, w, b1, b2, w1, w2, n1, em, ew, ewm, hst⟩ := st_go hSR hnw hge c_84
            refine lv_aload_n hx hb dL_change_485 rfl (lv_at hl 11 rfl) ?_
            obtain ⟨X_85, hO_86, hM9⟩ := o_step (l := l) (D := D) hSR hO_70 hns (nw := nw) hn hn2
            refine lo_I (n := 0) (As := []) (rest := []) hx hb hml hown hts hK hN hM9 (OX.at0 hO_70) gL_change_X4_step rfl (by decide +kernel) (by decide) dL_change_486 rfl rfl (Nat.le_of_ble_eq_true rfl) hl.1 (Nat.le_of_ble_eq_true rfl) (Nat.le_of_ble_eq_true rfl) (Nat.le_of_ble_eq_true rfl) (Nat.le_of_ble_eq_true rfl) hP hD hS hA (fun H locs hP hD hS => ?_)
            clear hM9
            refine tp_e (y := (nI w)) (by rw [hst]) ?_
            rw [hst] at hO_86
            have hO_86 : OX k x0 (svN ns) (tkS S (nI b) (nI w) nw) _ Y0 k0 X_85 := hO_86
            have hns2 : (svN ns) ≤ 6 := (svN_le hns).1
            have hL2 : LI (tkS S (nI b) (nI w) nw) := LI_tk hSR hBR hEX hnw n1 b2 ewm w2
            obtain ⟨f2, hSR2, -, -⟩ := id hL2
            have hn3 : (tkS S (nI b) (nI w) nw) 7 0 = nI (nw + 1) := by show S 7 0 + 1 = _; rw [hn, show (1 : Int32) = nI 1 from rfl, nI_add]
            have hn4 : nw + 1 ≤ 12 := by omega
            refine lv_iload hx hb dL_change_489 (lv_at hl 2 rfl) ?_
            refine lv_icmp_ne (tgt := 569) hx hb dL_change_491 (by decide) (fun c_87 => ?_) (fun c_87 => ?_)
            · exact absurd (ew.symm) c_87
            · refine lv_aload_n hx hb dL_change_494 rfl (lv_at hl 11 rfl) ?_
              refine lv_bipush (v := 9) hx hb dL_change_495 (by decide) ?_
              obtain ⟨X_88, hO_89, hM9⟩ := o_count_9 (l := l) (D := D) hSR2 hO_86
              refine lo_I (n := 1) (As := [.int 9]) (rest := []) hx hb hml hown hts hK hN hM9 (OX.at0 hO_86) gL_change_X4_count rfl (by decide +kernel) (by decide) dL_change_497 rfl rfl (Nat.le_of_ble_eq_true rfl) hl.1 (Nat.le_of_ble_eq_true rfl) (Nat.le_of_ble_eq_true rfl) (Nat.le_of_ble_eq_true rfl) (Nat.le_of_ble_eq_true rfl) hP hD hS hA (fun H locs hP hD hS => ?_)
              clear hM9
              refine lv_iload hx hb dL_change_500 (lv_at hl 0 rfl) ?_
              refine lv_iconst (v := 1) hx hb dL_change_502 (by decide) ?_
              refine lv_iadd hx hb dL_change_503 ?_
              refine lv_icmp_ne (tgt := 569) hx hb dL_change_504 (by decide) (fun c_90 => ?_) (fun c_90 => ?_)
              · exact absurd (rfl) c_90
              · refine lv_aload_n hx hb dL_change_507 rfl (lv_at hl 11 rfl) ?_
                refine lv_iload hx hb dL_change_508 (lv_at hl 7 rfl) ?_
                refine lv_iconst (v := 0) hx hb dL_change_510 (by decide) ?_
                obtain ⟨X_91, hO_92, hM9⟩ := o_noted_0 (l := l) (D := D) hSR2 hO_89 (r := nw) (nw := (nw + 1)) (by omega) hn3 hn4
                refine lo_I (n := 2) (As := [.int (nI nw), .int 0]) (rest := []) hx hb hml hown hts hK hN hM9 (OX.at0 hO_89) gL_change_X4_noted rfl (by decide +kernel) (by decide) dL_change_511 rfl rfl (Nat.le_of_ble_eq_true rfl) hl.1 (Nat.le_of_ble_eq_true rfl) (Nat.le_of_ble_eq_true rfl) (Nat.le_of_ble_eq_true rfl) (Nat.le_of_ble_eq_true rfl) hP hD hS hA (fun H locs hP hD hS => ?_)
                clear hM9
                refine lv_iload hx hb dL_change_514 (lv_at hl 2 rfl) ?_
                refine lv_icmp_ne (tgt := 569) hx hb dL_change_516 (by decide) (fun c_93 => ?_) (fun c_93 => ?_)
                · exact absurd (by unfold ntF; rw [if_neg (by omega), ew]; exact upd_e _ _ _) c_93
                · refine lv_aload_n hx hb dL_change_519 rfl (lv_at hl 11 rfl) ?_
                  refine lv_iload hx hb dL_change_520 (lv_at hl 7 rfl) ?_
                  refine lv_iconst (v := 1) hx hb dL_change_522 (by decide) ?_
                  obtain ⟨X_94, hO_95, hM9⟩ := o_noted_1 (l := l) (D := D) hSR2 hO_92 (r := nw) (nw := (nw + 1)) (by omega) hn3 hn4
                  refine lo_I (n := 2) (As := [.int (nI nw), .int 1]) (rest := []) hx hb hml hown hts hK hN hM9 (OX.at0 hO_92) gL_change_X4_noted rfl (by decide +kernel) (by decide) dL_change_523 rfl rfl (Nat.le_of_ble_eq_true rfl) hl.1 (Nat.le_of_ble_eq_true rfl) (Nat.le_of_ble_eq_true rfl) (Nat.le_of_ble_eq_true rfl) (Nat.le_of_ble_eq_true rfl) hP hD hS hA (fun H locs hP hD hS => ?_)
                  clear hM9
                  refine lv_iload hx hb dL_change_526 (lv_at hl 1 rfl) ?_
                  refine lv_icmp_ne (tgt := 569) hx hb dL_change_528 (by decide) (fun c_96 => ?_) (fun c_96 => ?_)
                  · exact absurd (by unfold ntF; rw [if_neg (by omega), em]; exact upd_e _ _ _) c_96
                  · refine lv_aload_n hx hb dL_change_531 rfl (lv_at hl 11 rfl) ?_
                    refine lv_iload hx hb dL_change_532 (lv_at hl 7 rfl) ?_
                    refine lv_iconst (v := 1) hx hb dL_change_534 (by decide) ?_
                    refine lv_iadd hx hb dL_change_535 ?_
                    refine tp_e (y := (nI (nw + 1))) (nI_add nw 1) ?_
                    refine lv_iconst (v := 0) hx hb dL_change_536 (by decide) ?_
                    obtain ⟨X_97, hO_98, hM9⟩ := o_noted_0 (l := l) (D := D) hSR2 hO_95 (r := (nw + 1)) (nw := (nw + 1)) (by omega) hn3 hn4
                    refine lo_I (n := 2) (As := [.int (nI (nw + 1)), .int 0]) (rest := []) hx hb hml hown hts hK hN hM9 (OX.at0 hO_95) gL_change_X4_noted rfl (by decide +kernel) (by decide) dL_change_537 rfl rfl (Nat.le_of_ble_eq_true rfl) hl.1 (Nat.le_of_ble_eq_true rfl) (Nat.le_of_ble_eq_true rfl) (Nat.le_of_ble_eq_true rfl) (Nat.le_of_ble_eq_true rfl) hP hD hS hA (fun H locs hP hD hS => ?_)
                    clear hM9
                    refine lv_iconst (v := (-1)) hx hb dL_change_540 (by decide) ?_
                    refine lv_icmp_ne (tgt := 569) hx hb dL_change_541 (by decide) (fun c_99 => ?_) (fun c_99 => ?_)
                    · exact absurd (if_pos (Nat.le_refl _)) c_99
                    · refine lv_aload_n hx hb dL_change_544 rfl (lv_at hl 11 rfl) ?_
                      refine lv_iconst (v := 2) hx hb dL_change_545 (by decide) ?_
                      obtain ⟨X_100, hO_101, hM9⟩ := o_count_2 (l := l) (D := D) hSR2 hO_98
                      refine lo_I (n := 1) (As := [.int 2]) (rest := []) hx hb hml hown hts hK hN hM9 (OX.at0 hO_98) gL_change_X4_count rfl (by decide +kernel) (by decide) dL_change_546 rfl rfl (Nat.le_of_ble_eq_true rfl) hl.1 (Nat.le_of_ble_eq_true rfl) (Nat.le_of_ble_eq_true rfl) (Nat.le_of_ble_eq_true rfl) (Nat.le_of_ble_eq_true rfl) hP hD hS hA (fun H locs hP hD hS => ?_)
                      clear hM9
                      refine lv_iload hx hb dL_change_549 (lv_at hl 3 rfl) ?_
                      refine lv_iload hx hb dL_change_551 (lv_at hl 2 rfl) ?_
                      refine lv_aload_n hx hb dL_change_553 rfl (lv_at hl 11 rfl) ?_
                      refine lv_iload hx hb dL_change_554 (lv_at hl 7 rfl) ?_
                      refine lv_iconst (v := 2) hx hb dL_change_556 (by decide) ?_
                      obtain ⟨X_102, hO_103, hM9⟩ := o_noted_2 (l := l) (D := D) hSR2 hO_101 (r := nw) (nw := (nw + 1)) (by omega) hn3 hn4
                      refine lo_I (n := 2) (As := [.int (nI nw), .int 2]) (rest := [.int (hwF S (hvM S)), .int (smF (S 4) 9), .int (smF ((tkS S (nI b) (nI w) nw) 4) 9)]) hx hb hml hown hts hK hN hM9 (OX.at0 hO_101) gL_change_X4_noted rfl (by decide +kernel) (by decide) dL_change_557 rfl rfl (Nat.le_of_ble_eq_true rfl) hl.1 (Nat.le_of_ble_eq_true rfl) (Nat.le_of_ble_eq_true rfl) (Nat.le_of_ble_eq_true rfl) (Nat.le_of_ble_eq_true rfl) hP hD hS hA (fun H locs hP hD hS => ?_)
                      clear hM9
                      refine lv_imul hx hb dL_change_560 ?_
                      refine lv_isub hx hb dL_change_561 ?_
                      refine lv_icmp_ne (tgt := 569) hx hb dL_change_562 (by decide) (fun c_104 => ?_) (fun c_104 => ?_)
                      · exact absurd (by unfold ntF; rw [if_neg (show ¬ nw + 1 ≤ nw from by omega), ew]; show smF (twF (S 4) (nI b) (nI w) 9) 9 = smF (S 4) 9 - nI w * bcF (upd (S 6) nw (nI b) nw); rw [upd_e]; exact sm_take b2 _ _) c_104
                      · refine lv_iconst (v := 1) hx hb dL_change_565 (by decide) ?_
                        refine lv_goto (tgt := 570) hx hb dL_change_566 (by decide) ?_
                        subst hQ
                        exact rt_zo hx hb hr hlocks hS dL_change_570 (va_PR hP) (va_DR hD) rfl (⟨rfl, _, _, _, hns2, hL2, hO_103⟩)
          · have c_84 : nw = 12 := (nI_eq (a := nw) (b := 12) (by omega) (by omega)).mp c_84
            have hst := st_ref hSR hnw (Or.inr c_84)
            refine lv_aload_n hx hb dL_change_439 rfl (lv_at hl 11 rfl) ?_
            obtain ⟨X_105, hO_106, hM9⟩ := o_step (l := l) (D := D) hSR hO_70 hns (nw := nw) hn hn2
            refine lo_I (n := 0) (As := []) (rest := []) hx hb hml hown hts hK hN hM9 (OX.at0 hO_70) gL_change_X4_step rfl (by decide +kernel) (by decide) dL_change_440 rfl rfl (Nat.le_of_ble_eq_true rfl) hl.1 (Nat.le_of_ble_eq_true rfl) (Nat.le_of_ble_eq_true rfl) (Nat.le_of_ble_eq_true rfl) (Nat.le_of_ble_eq_true rfl) hP hD hS hA (fun H locs hP hD hS => ?_)
            clear hM9
            refine tp_e (y := 0) (by rw [hst]) ?_
            rw [hst] at hO_106
            have hO_106 : OX k x0 (svN ns) (rfS S) _ Y0 k0 X_105 := hO_106
            have hns2 : (svN ns) ≤ 6 := (svN_le hns).1
            have hL2 : LI (rfS S) := LI_rf hL
            obtain ⟨f2, hSR2, -, -⟩ := id hL2
            refine lv_if_ne (tgt := 483) hx hb dL_change_443 (by decide) (fun c_107 => ?_) (fun c_107 => ?_)
            · exact absurd c_107 (by decide)
            · refine lv_aload_n hx hb dL_change_446 rfl (lv_at hl 11 rfl) ?_
              refine lv_bipush (v := 10) hx hb dL_change_447 (by decide) ?_
              obtain ⟨X_108, hO_109, hM9⟩ := o_count_10 (l := l) (D := D) hSR2 hO_106
              refine lo_I (n := 1) (As := [.int 10]) (rest := []) hx hb hml hown hts hK hN hM9 (OX.at0 hO_106) gL_change_X4_count rfl (by decide +kernel) (by decide) dL_change_449 rfl rfl (Nat.le_of_ble_eq_true rfl) hl.1 (Nat.le_of_ble_eq_true rfl) (Nat.le_of_ble_eq_true rfl) (Nat.le_of_ble_eq_true rfl) (Nat.le_of_ble_eq_true rfl) hP hD hS hA (fun H locs hP hD hS => ?_)
              clear hM9
              refine lv_iload hx hb dL_change_452 (lv_at hl 8 rfl) ?_
              refine lv_iconst (v := 1) hx hb dL_change_454 (by decide) ?_
              refine lv_iadd hx hb dL_change_455 ?_
              refine lv_icmp_ne (tgt := 483) hx hb dL_change_456 (by decide) (fun c_110 => ?_) (fun c_110 => ?_)
              · exact absurd (rfl) c_110
              · refine lv_aload_n hx hb dL_change_459 rfl (lv_at hl 11 rfl) ?_
                refine lv_iconst (v := 3) hx hb dL_change_460 (by decide) ?_
                obtain ⟨X_111, hO_112, hM9⟩ := o_count_3 (l := l) (D := D) hSR2 hO_109
                refine lo_I (n := 1) (As := [.int 3]) (rest := []) hx hb hml hown hts hK hN hM9 (OX.at0 hO_109) gL_change_X4_count rfl (by decide +kernel) (by decide) dL_change_461 rfl rfl (Nat.le_of_ble_eq_true rfl) hl.1 (Nat.le_of_ble_eq_true rfl) (Nat.le_of_ble_eq_true rfl) (Nat.le_of_ble_eq_true rfl) (Nat.le_of_ble_eq_true rfl) hP hD hS hA (fun H locs hP hD hS => ?_)
                clear hM9
                refine lv_iload hx hb dL_change_464 (lv_at hl 7 rfl) ?_
                refine lv_icmp_ne (tgt := 483) hx hb dL_change_466 (by decide) (fun c_113 => ?_) (fun c_113 => ?_)
                · exact absurd (hn) c_113
                · refine lv_aload_n hx hb dL_change_469 rfl (lv_at hl 11 rfl) ?_
                  refine lv_iconst (v := 2) hx hb dL_change_470 (by decide) ?_
                  obtain ⟨X_114, hO_115, hM9⟩ := o_count_2 (l := l) (D := D) hSR2 hO_112
                  refine lo_I (n := 1) (As := [.int 2]) (rest := []) hx hb hml hown hts hK hN hM9 (OX.at0 hO_112) gL_change_X4_count rfl (by decide +kernel) (by decide) dL_change_471 rfl rfl (Nat.le_of_ble_eq_true rfl) hl.1 (Nat.le_of_ble_eq_true rfl) (Nat.le_of_ble_eq_true rfl) (Nat.le_of_ble_eq_true rfl) (Nat.le_of_ble_eq_true rfl) hP hD hS hA (fun H locs hP hD hS => ?_)
                  clear hM9
                  refine lv_iload hx hb dL_change_474 (lv_at hl 3 rfl) ?_
                  refine lv_icmp_ne (tgt := 483) hx hb dL_change_476 (by decide) (fun c_116 => ?_) (fun c_116 => ?_)
                  · exact absurd (rfl) c_116
                  · refine lv_iconst (v := 1) hx hb dL_change_479 (by decide) ?_
                    refine lv_goto (tgt := 484) hx hb dL_change_480 (by decide) ?_
                    subst hQ
                    exact rt_zo hx hb hr hlocks hS dL_change_484 (va_PR hP) (va_DR hD) rfl (⟨rfl, _, _, _, hns2, hL2, hO_115⟩)
  · have c_5 : q = z := (nI_eq (a := q) (b := z) (by omega) (by omega)).mp c_5
    refine lv_iconst (v := 1) hx hb dL_change_41 (by decide) ?_
    refine lv_goto (tgt := 46) hx hb dL_change_42 (by decide) ?_
    refine lv_istore (lv' := [(8, .int 1), (7, .int (nI nw)), (6, .int (S 7 2)), (5, .int 0), (4, .int (nI z)), (3, .int (nI q)), (0, .ref x0), (1, .int x), (2, .int y)]) hx hb dL_change_46 hl (by decide) rfl (fun ls hl => ?_)
    refine lv_iload_n hx hb dL_change_48 rfl (lv_at hl 5 rfl) ?_
    refine lv_iload hx hb dL_change_49 (lv_at hl 4 rfl) ?_
    refine lv_icmp_ge (tgt := 58) hx hb dL_change_51 (by decide) (fun c_117 => ?_) (fun c_117 => ?_)
    · have c_117 : z ≤ q := (nI_leI (a := z) (b := q) (by omega) (by omega)).mp c_117
      refine lv_iload hx hb dL_change_58 (lv_at hl 4 rfl) ?_
      refine lv_istore (lv' := [(9, .int (nI z)), (8, .int 1), (7, .int (nI nw)), (6, .int (S 7 2)), (5, .int 0), (4, .int (nI z)), (3, .int (nI q)), (0, .ref x0), (1, .int x), (2, .int y)]) hx hb dL_change_60 hl (by decide) rfl (fun ls hl => ?_)
      refine lv_iload_n hx hb dL_change_62 rfl (lv_at hl 6 rfl) ?_
      refine lv_iload hx hb dL_change_63 (lv_at hl 5 rfl) ?_
      refine lv_icmp_ge (tgt := 73) hx hb dL_change_65 (by decide) (fun c_118 => ?_) (fun c_118 => ?_)
      · have c_118 : z ≤ q := (nI_leI (a := z) (b := q) (by omega) (by omega)).mp c_118
        refine lv_iload_n hx hb dL_change_73 rfl (lv_at hl 6 rfl) ?_
        refine lv_istore (lv' := [(10, .int (nI q)), (9, .int (nI z)), (8, .int 1), (7, .int (nI nw)), (6, .int (S 7 2)), (5, .int 0), (4, .int (nI z)), (3, .int (nI q)), (0, .ref x0), (1, .int x), (2, .int y)]) hx hb dL_change_74 hl (by decide) rfl (fun ls hl => ?_)
        refine lv_iload_n hx hb dL_change_76 rfl (lv_at hl 9 rfl) ?_
        refine lv_bipush (v := 16) hx hb dL_change_77 (by decide) ?_
        have hPc : va_P D vwCl ([]) H := hP.sub [] rfl
        have hDc : va_D A ([]) := hD.sub [] (by decide +kernel) rfl
        refine cl_i0 (va_runS (As := [.int x, .int 16]) (rest := []) ⟨hx, hb, hml, hown, hts⟩ (c_L_low_16 l D k x H.size) (va_cwS 2 hts gL_change_L_low rfl rfl rfl (by decide +kernel) ⟨Nat.le_of_ble_eq_true rfl, Nat.le_of_ble_eq_true rfl⟩) ⟨pr_blind, pr_at hN hPc hK hDc⟩ rfl rfl hl.1 rfl (lv_room (Nat.le_of_ble_eq_true rfl)) dL_change_79 ⟨Nat.le_of_ble_eq_true rfl, Nat.le_of_ble_eq_true rfl⟩) hP hD hS hA [] rfl (fun H locs hP hD hS => ?_)
        clear hPc hDc
        refine tp_e (y := 13) (congrArg nI hx16) ?_
        refine lv_tableIn (off := 315) (tgt := 397) hx hb dL_change_82 (by decide) (by decide) rfl (by decide) ?_
        refine lv_aload_n hx hb dL_change_397 rfl (lv_at hl 8 rfl) ?_
        refine lv_iconst (v := 2) hx hb dL_change_398 (by decide) ?_
        obtain ⟨X_119, hO_120, hM9⟩ := o_count_2 (l := l) (D := D) hSR hO_4
        refine lo_I (n := 1) (As := [.int 2]) (rest := []) hx hb hml hown hts hK hN hM9 (OX.at0 hO_4) gL_change_X4_count rfl (by decide +kernel) (by decide) dL_change_399 rfl rfl (Nat.le_of_ble_eq_true rfl) hl.1 (Nat.le_of_ble_eq_true rfl) (Nat.le_of_ble_eq_true rfl) (Nat.le_of_ble_eq_true rfl) (Nat.le_of_ble_eq_true rfl) hP hD hS hA (fun H locs hP hD hS => ?_)
        clear hM9
        refine lv_istore (lv' := [(11, .int (smF (S 4) 9)), (10, .int (nI q)), (9, .int (nI z)), (8, .int 1), (7, .int (nI nw)), (6, .int (S 7 2)), (5, .int 0), (4, .int (nI z)), (3, .int (nI q)), (0, .ref x0), (1, .int x), (2, .int y)]) hx hb dL_change_402 hl (by decide) rfl (fun ls hl => ?_)
        refine lv_aload_n hx hb dL_change_404 rfl (lv_at hl 9 rfl) ?_
        refine lv_iconst (v := 0) hx hb dL_change_405 (by decide) ?_
        obtain ⟨X_121, hO_122, hM9⟩ := o_heaviest_0 (l := l) (D := D) hSR hO_120
        refine lo_I (n := 1) (As := [.int 0]) (rest := []) hx hb hml hown hts hK hN hM9 (OX.at0 hO_120) gL_change_X4_heaviest rfl (by decide +kernel) (by decide) dL_change_406 rfl rfl (Nat.le_of_ble_eq_true rfl) hl.1 (Nat.le_of_ble_eq_true rfl) (Nat.le_of_ble_eq_true rfl) (Nat.le_of_ble_eq_true rfl) (Nat.le_of_ble_eq_true rfl) hP hD hS hA (fun H locs hP hD hS => ?_)
        clear hM9
        refine lv_istore (lv' := [(12, .int (hwF S (hvM S))), (11, .int (smF (S 4) 9)), (10, .int (nI q)), (9, .int (nI z)), (8, .int 1), (7, .int (nI nw)), (6, .int (S 7 2)), (5, .int 0), (4, .int (nI z)), (3, .int (nI q)), (0, .ref x0), (1, .int x), (2, .int y)]) hx hb dL_change_409 hl (by decide) rfl (fun ls hl => ?_)
        refine lv_aload_n hx hb dL_change_411 rfl (lv_at hl 10 rfl) ?_
        refine lv_iconst (v := 1) hx hb dL_change_412 (by decide) ?_
        obtain ⟨X_123, hO_124, hM9⟩ := o_heaviest_1 (l := l) (D := D) hSR hO_122
        refine lo_I (n := 1) (As := [.int 1]) (rest := []) hx hb hml hown hts hK hN hM9 (OX.at0 hO_122) gL_change_X4_heaviest rfl (by decide +kernel) (by decide) dL_change_413 rfl rfl (Nat.le_of_ble_eq_true rfl) hl.1 (Nat.le_of_ble_eq_true rfl) (Nat.le_of_ble_eq_true rfl) (Nat.le_of_ble_eq_true rfl) (Nat.le_of_ble_eq_true rfl) hP hD hS hA (fun H locs hP hD hS => ?_)
        clear hM9
        refine lv_istore (lv' := [(13, .int (hvM S)), (12, .int (hwF S (hvM S))), (11, .int (smF (S 4) 9)), (10, .int (nI q)), (9, .int (nI z)), (8, .int 1), (7, .int (nI nw)), (6, .int (S 7 2)), (5, .int 0), (4, .int (nI z)), (3, .int (nI q)), (0, .ref x0), (1, .int x), (2, .int y)]) hx hb dL_change_416 hl (by decide) rfl (fun ls hl => ?_)
        refine lv_aload_n hx hb dL_change_418 rfl (lv_at hl 11 rfl) ?_
        refine lv_bipush (v := 9) hx hb dL_change_419 (by decide) ?_
        obtain ⟨X_125, hO_126, hM9⟩ := o_count_9 (l := l) (D := D) hSR hO_124
        refine lo_I (n := 1) (As := [.int 9]) (rest := []) hx hb hml hown hts hK hN hM9 (OX.at0 hO_124) gL_change_X4_count rfl (by decide +kernel) (by decide) dL_change_421 rfl rfl (Nat.le_of_ble_eq_true rfl) hl.1 (Nat.le_of_ble_eq_true rfl) (Nat.le_of_ble_eq_true rfl) (Nat.le_of_ble_eq_true rfl) (Nat.le_of_ble_eq_true rfl) hP hD hS hA (fun H locs hP hD hS => ?_)
        clear hM9
        refine lv_istore (lv' := [(5, .int (S 7 1)), (13, .int (hvM S)), (12, .int (hwF S (hvM S))), (11, .int (smF (S 4) 9)), (10, .int (nI q)), (9, .int (nI z)), (8, .int 1), (7, .int (nI nw)), (6, .int (S 7 2)), (4, .int (nI z)), (3, .int (nI q)), (0, .ref x0), (1, .int x), (2, .int y)]) hx hb dL_change_424 hl (by decide) rfl (fun ls hl => ?_)
        refine lv_iload hx hb dL_change_426 (lv_at hl 2 rfl) ?_
        refine lv_iconst (v := 1) hx hb dL_change_428 (by decide) ?_
        refine lv_icmp_lt (tgt := 439) hx hb dL_change_429 (by decide) (fun c_127 => ?_) (fun c_127 => ?_)
        · have hst := st_ref hSR hnw (Or.inl c_127)
          refine lv_aload_n hx hb dL_change_439 rfl (lv_at hl 11 rfl) ?_
          obtain ⟨X_128, hO_129, hM9⟩ := o_step (l := l) (D := D) hSR hO_126 hns (nw := nw) hn hn2
          refine lo_I (n := 0) (As := []) (rest := []) hx hb hml hown hts hK hN hM9 (OX.at0 hO_126) gL_change_X4_step rfl (by decide +kernel) (by decide) dL_change_440 rfl rfl (Nat.le_of_ble_eq_true rfl) hl.1 (Nat.le_of_ble_eq_true rfl) (Nat.le_of_ble_eq_true rfl) (Nat.le_of_ble_eq_true rfl) (Nat.le_of_ble_eq_true rfl) hP hD hS hA (fun H locs hP hD hS => ?_)
          clear hM9
          refine tp_e (y := 0) (by rw [hst]) ?_
          rw [hst] at hO_129
          have hO_129 : OX k x0 (svN ns) (rfS S) _ Y0 k0 X_128 := hO_129
          have hns2 : (svN ns) ≤ 6 := (svN_le hns).1
          have hL2 : LI (rfS S) := LI_rf hL
          obtain ⟨f2, hSR2, -, -⟩ := id hL2
          refine lv_if_ne (tgt := 483) hx hb dL_change_443 (by decide) (fun c_130 => ?_) (fun c_130 => ?_)
          · exact absurd c_130 (by decide)
          · refine lv_aload_n hx hb dL_change_446 rfl (lv_at hl 11 rfl) ?_
            refine lv_bipush (v := 10) hx hb dL_change_447 (by decide) ?_
            obtain ⟨X_131, hO_132, hM9⟩ := o_count_10 (l := l) (D := D) hSR2 hO_129
            refine lo_I (n := 1) (As := [.int 10]) (rest := []) hx hb hml hown hts hK hN hM9 (OX.at0 hO_129) gL_change_X4_count rfl (by decide +kernel) (by decide) dL_change_449 rfl rfl (Nat.le_of_ble_eq_true rfl) hl.1 (Nat.le_of_ble_eq_true rfl) (Nat.le_of_ble_eq_true rfl) (Nat.le_of_ble_eq_true rfl) (Nat.le_of_ble_eq_true rfl) hP hD hS hA (fun H locs hP hD hS => ?_)
            clear hM9
            refine lv_iload hx hb dL_change_452 (lv_at hl 8 rfl) ?_
            refine lv_iconst (v := 1) hx hb dL_change_454 (by decide) ?_
            refine lv_iadd hx hb dL_change_455 ?_
            refine lv_icmp_ne (tgt := 483) hx hb dL_change_456 (by decide) (fun c_133 => ?_) (fun c_133 => ?_)
            · exact absurd (rfl) c_133
            · refine lv_aload_n hx hb dL_change_459 rfl (lv_at hl 11 rfl) ?_
              refine lv_iconst (v := 3) hx hb dL_change_460 (by decide) ?_
              obtain ⟨X_134, hO_135, hM9⟩ := o_count_3 (l := l) (D := D) hSR2 hO_132
              refine lo_I (n := 1) (As := [.int 3]) (rest := []) hx hb hml hown hts hK hN hM9 (OX.at0 hO_132) gL_change_X4_count rfl (by decide +kernel) (by decide) dL_change_461 rfl rfl (Nat.le_of_ble_eq_true rfl) hl.1 (Nat.le_of_ble_eq_true rfl) (Nat.le_of_ble_eq_true rfl) (Nat.le_of_ble_eq_true rfl) (Nat.le_of_ble_eq_true rfl) hP hD hS hA (fun H locs hP hD hS => ?_)
              clear hM9
              refine lv_iload hx hb dL_change_464 (lv_at hl 7 rfl) ?_
              refine lv_icmp_ne (tgt := 483) hx hb dL_change_466 (by decide) (fun c_136 => ?_) (fun c_136 => ?_)
              · exact absurd (hn) c_136
              · refine lv_aload_n hx hb dL_change_469 rfl (lv_at hl 11 rfl) ?_
                refine lv_iconst (v := 2) hx hb dL_change_470 (by decide) ?_
                obtain ⟨X_137, hO_138, hM9⟩ := o_count_2 (l := l) (D := D) hSR2 hO_135
                refine lo_I (n := 1) (As := [.int 2]) (rest := []) hx hb hml hown hts hK hN hM9 (OX.at0 hO_135) gL_change_X4_count rfl (by decide +kernel) (by decide) dL_change_471 rfl rfl (Nat.le_of_ble_eq_true rfl) hl.1 (Nat.le_of_ble_eq_true rfl) (Nat.le_of_ble_eq_true rfl) (Nat.le_of_ble_eq_true rfl) (Nat.le_of_ble_eq_true rfl) hP hD hS hA (fun H locs hP hD hS => ?_)
                clear hM9
                refine lv_iload hx hb dL_change_474 (lv_at hl 3 rfl) ?_
                refine lv_icmp_ne (tgt := 483) hx hb dL_change_476 (by decide) (fun c_139 => ?_) (fun c_139 => ?_)
                · exact absurd (rfl) c_139
                · refine lv_iconst (v := 1) hx hb dL_change_479 (by decide) ?_
                  refine lv_goto (tgt := 484) hx hb dL_change_480 (by decide) ?_
                  subst hQ
                  exact rt_zo hx hb hr hlocks hS dL_change_484 (va_PR hP) (va_DR hD) rfl (⟨rfl, _, _, _, hns2, hL2, hO_138⟩)
        · have hge := c_127
          refine lv_iload hx hb dL_change_432 (lv_at hl 7 rfl) ?_
          refine lv_bipush (v := 12) hx hb dL_change_434 (by decide) ?_
          refine lv_icmp_ne (tgt := 485) hx hb dL_change_436 (by decide) (fun c_140 => ?_) (fun c_140 => ?_)
          · have c_140 : ¬ (nw = 12) := fun h9 => c_140 ((nI_eq (a := nw) (b := 12) (by omega) (by omega)).mpr h9)
            obtain ⟨b, w, b1, b2, w1, w2, n1, em, ew, ewm, hst⟩ := st_go hSR hnw hge c_140
            refine lv_aload_n hx hb dL_change_485 rfl (lv_at hl 11 rfl) ?_
            obtain ⟨X_141, hO_142, hM9⟩ := o_step (l := l) (D := D) hSR hO_126 hns (nw := nw) hn hn2
            refine lo_I (n := 0) (As := []) (rest := []) hx hb hml hown hts hK hN hM9 (OX.at0 hO_126) gL_change_X4_step rfl (by decide +kernel) (by decide) dL_change_486 rfl rfl (Nat.le_of_ble_eq_true rfl) hl.1 (Nat.le_of_ble_eq_true rfl) (Nat.le_of_ble_eq_true rfl) (Nat.le_of_ble_eq_true rfl) (Nat.le_of_ble_eq_true rfl) hP hD hS hA (fun H locs hP hD hS => ?_)
            clear hM9
            refine tp_e (y := (nI w)) (by rw [hst]) ?_
            rw [hst] at hO_142
            have hO_142 : OX k x0 (svN ns) (tkS S (nI b) (nI w) nw) _ Y0 k0 X_141 := hO_142
            have hns2 : (svN ns) ≤ 6 := (svN_le hns).1
            have hL2 : LI (tkS S (nI b) (nI w) nw) := LI_tk hSR hBR hEX hnw n1 b2 ewm w2
            obtain ⟨f2, hSR2, -, -⟩ := id hL2
            have hn3 : (tkS S (nI b) (nI w) nw) 7 0 = nI (nw + 1) := by show S 7 0 + 1 = _; rw [hn, show (1 : Int32) = nI 1 from rfl, nI_add]
            have hn4 : nw + 1 ≤ 12 := by omega
            refine lv_iload hx hb dL_change_489 (lv_at hl 2 rfl) ?_
            refine lv_icmp_ne (tgt := 569) hx hb dL_change_491 (by decide) (fun c_143 => ?_) (fun c_143 => ?_)
            · exact absurd (ew.symm) c_143
            · refine lv_aload_n hx hb dL_change_494 rfl (lv_at hl 11 rfl) ?_
              refine lv_bipush (v := 9) hx hb dL_change_495 (by decide) ?_
              obtain ⟨X_144, hO_145, hM9⟩ := o_count_9 (l := l) (D := D) hSR2 hO_142
              refine lo_I (n := 1) (As := [.int 9]) (rest := []) hx hb hml hown hts hK hN hM9 (OX.at0 hO_142) gL_change_X4_count rfl (by decide +kernel) (by decide) dL_change_497 rfl rfl (Nat.le_of_ble_eq_true rfl) hl.1 (Nat.le_of_ble_eq_true rfl) (Nat.le_of_ble_eq_true rfl) (Nat.le_of_ble_eq_true rfl) (Nat.le_of_ble_eq_true rfl) hP hD hS hA (fun H locs hP hD hS => ?_)
              clear hM9
              refine lv_iload hx hb dL_change_500 (lv_at hl 0 rfl) ?_
              refine lv_iconst (v := 1) hx hb dL_change_502 (by decide) ?_
              refine lv_iadd hx hb dL_change_503 ?_
              refine lv_icmp_ne (tgt := 569) hx hb dL_change_504 (by decide) (fun c_146 => ?_) (fun c_146 => ?_)
              · exact absurd (rfl) c_146
              · refine lv_aload_n hx hb dL_change_507 rfl (lv_at hl 11 rfl) ?_
                refine lv_iload hx hb dL_change_508 (lv_at hl 7 rfl) ?_
                refine lv_iconst (v := 0) hx hb dL_change_510 (by decide) ?_
                obtain ⟨X_147, hO_148, hM9⟩ := o_noted_0 (l := l) (D := D) hSR2 hO_145 (r := nw) (nw := (nw + 1)) (by omega) hn3 hn4
                refine lo_I (n := 2) (As := [.int (nI nw), .int 0]) (rest := []) hx hb hml hown hts hK hN hM9 (OX.at0 hO_145) gL_change_X4_noted rfl (by decide +kernel) (by decide) dL_change_511 rfl rfl (Nat.le_of_ble_eq_true rfl) hl.1 (Nat.le_of_ble_eq_true rfl) (Nat.le_of_ble_eq_true rfl) (Nat.le_of_ble_eq_true rfl) (Nat.le_of_ble_eq_true rfl) hP hD hS hA (fun H locs hP hD hS => ?_)
                clear hM9
                refine lv_iload hx hb dL_change_514 (lv_at hl 2 rfl) ?_
                refine lv_icmp_ne (tgt := 569) hx hb dL_change_516 (by decide) (fun c_149 => ?_) (fun c_149 => ?_)
                · exact absurd (by unfold ntF; rw [if_neg (by omega), ew]; exact upd_e _ _ _) c_149
                · refine lv_aload_n hx hb dL_change_519 rfl (lv_at hl 11 rfl) ?_
                  refine lv_iload hx hb dL_change_520 (lv_at hl 7 rfl) ?_
                  refine lv_iconst (v := 1) hx hb dL_change_522 (by decide) ?_
                  obtain ⟨X_150, hO_151, hM9⟩ := o_noted_1 (l := l) (D := D) hSR2 hO_148 (r := nw) (nw := (nw + 1)) (by omega) hn3 hn4
                  refine lo_I (n := 2) (As := [.int (nI nw), .int 1]) (rest := []) hx hb hml hown hts hK hN hM9 (OX.at0 hO_148) gL_change_X4_noted rfl (by decide +kernel) (by decide) dL_change_523 rfl rfl (Nat.le_of_ble_eq_true rfl) hl.1 (Nat.le_of_ble_eq_true rfl) (Nat.le_of_ble_eq_true rfl) (Nat.le_of_ble_eq_true rfl) (Nat.le_of_ble_eq_true rfl) hP hD hS hA (fun H locs hP hD hS => ?_)
                  clear hM9
                  refine lv_iload hx hb dL_change_526 (lv_at hl 1 rfl) ?_
                  refine lv_icmp_ne (tgt := 569) hx hb dL_change_528 (by decide) (fun c_152 => ?_) (fun c_152 => ?_)
                  · exact absurd (by unfold ntF; rw [if_neg (by omega), em]; exact upd_e _ _ _) c_152
                  · refine lv_aload_n hx hb dL_change_531 rfl (lv_at hl 11 rfl) ?_
                    refine lv_iload hx hb dL_change_532 (lv_at hl 7 rfl) ?_
                    refine lv_iconst (v := 1) hx hb dL_change_534 (by decide) ?_
                    refine lv_iadd hx hb dL_change_535 ?_
                    refine tp_e (y := (nI (nw + 1))) (nI_add nw 1) ?_
                    refine lv_iconst (v := 0) hx hb dL_change_536 (by decide) ?_
                    obtain ⟨X_153, hO_154, hM9⟩ := o_noted_0 (l := l) (D := D) hSR2 hO_151 (r := (nw + 1)) (nw := (nw + 1)) (by omega) hn3 hn4
                    refine lo_I (n := 2) (As := [.int (nI (nw + 1)), .int 0]) (rest := []) hx hb hml hown hts hK hN hM9 (OX.at0 hO_151) gL_change_X4_noted rfl (by decide +kernel) (by decide) dL_change_537 rfl rfl (Nat.le_of_ble_eq_true rfl) hl.1 (Nat.le_of_ble_eq_true rfl) (Nat.le_of_ble_eq_true rfl) (Nat.le_of_ble_eq_true rfl) (Nat.le_of_ble_eq_true rfl) hP hD hS hA (fun H locs hP hD hS => ?_)
                    clear hM9
                    refine lv_iconst (v := (-1)) hx hb dL_change_540 (by decide) ?_
                    refine lv_icmp_ne (tgt := 569) hx hb dL_change_541 (by decide) (fun c_155 => ?_) (fun c_155 => ?_)
                    · exact absurd (if_pos (Nat.le_refl _)) c_155
                    · refine lv_aload_n hx hb dL_change_544 rfl (lv_at hl 11 rfl) ?_
                      refine lv_iconst (v := 2) hx hb dL_change_545 (by decide) ?_
                      obtain ⟨X_156, hO_157, hM9⟩ := o_count_2 (l := l) (D := D) hSR2 hO_154
                      refine lo_I (n := 1) (As := [.int 2]) (rest := []) hx hb hml hown hts hK hN hM9 (OX.at0 hO_154) gL_change_X4_count rfl (by decide +kernel) (by decide) dL_change_546 rfl rfl (Nat.le_of_ble_eq_true rfl) hl.1 (Nat.le_of_ble_eq_true rfl) (Nat.le_of_ble_eq_true rfl) (Nat.le_of_ble_eq_true rfl) (Nat.le_of_ble_eq_true rfl) hP hD hS hA (fun H locs hP hD hS => ?_)
                      clear hM9
                      refine lv_iload hx hb dL_change_549 (lv_at hl 3 rfl) ?_
                      refine lv_iload hx hb dL_change_551 (lv_at hl 2 rfl) ?_
                      refine lv_aload_n hx hb dL_change_553 rfl (lv_at hl 11 rfl) ?_
                      refine lv_iload hx hb dL_change_554 (lv_at hl 7 rfl) ?_
                      refine lv_iconst (v := 2) hx hb dL_change_556 (by decide) ?_
                      obtain ⟨X_158, hO_159, hM9⟩ := o_noted_2 (l := l) (D := D) hSR2 hO_157 (r := nw) (nw := (nw + 1)) (by omega) hn3 hn4
                      refine lo_I (n := 2) (As := [.int (nI nw), .int 2]) (rest := [.int (hwF S (hvM S)), .int (smF (S 4) 9), .int (smF ((tkS S (nI b) (nI w) nw) 4) 9)]) hx hb hml hown hts hK hN hM9 (OX.at0 hO_157) gL_change_X4_noted rfl (by decide +kernel) (by decide) dL_change_557 rfl rfl (Nat.le_of_ble_eq_true rfl) hl.1 (Nat.le_of_ble_eq_true rfl) (Nat.le_of_ble_eq_true rfl) (Nat.le_of_ble_eq_true rfl) (Nat.le_of_ble_eq_true rfl) hP hD hS hA (fun H locs hP hD hS => ?_)
                      clear hM9
                      refine lv_imul hx hb dL_change_560 ?_
                      refine lv_isub hx hb dL_change_561 ?_
                      refine lv_icmp_ne (tgt := 569) hx hb dL_change_562 (by decide) (fun c_160 => ?_) (fun c_160 => ?_)
                      · exact absurd (by unfold ntF; rw [if_neg (show ¬ nw + 1 ≤ nw from by omega), ew]; show smF (twF (S 4) (nI b) (nI w) 9) 9 = smF (S 4) 9 - nI w * bcF (upd (S 6) nw (nI b) nw); rw [upd_e]; exact sm_take b2 _ _) c_160
                      · refine lv_iconst (v := 1) hx hb dL_change_565 (by decide) ?_
                        refine lv_goto (tgt := 570) hx hb dL_change_566 (by decide) ?_
                        subst hQ
                        exact rt_zo hx hb hr hlocks hS dL_change_570 (va_PR hP) (va_DR hD) rfl (⟨rfl, _, _, _, hns2, hL2, hO_159⟩)
          · have c_140 : nw = 12 := (nI_eq (a := nw) (b := 12) (by omega) (by omega)).mp c_140
            have hst := st_ref hSR hnw (Or.inr c_140)
            refine lv_aload_n hx hb dL_change_439 rfl (lv_at hl 11 rfl) ?_
            obtain ⟨X_161, hO_162, hM9⟩ := o_step (l := l) (D := D) hSR hO_126 hns (nw := nw) hn hn2
            refine lo_I (n := 0) (As := []) (rest := []) hx hb hml hown hts hK hN hM9 (OX.at0 hO_126) gL_change_X4_step rfl (by decide +kernel) (by decide) dL_change_440 rfl rfl (Nat.le_of_ble_eq_true rfl) hl.1 (Nat.le_of_ble_eq_true rfl) (Nat.le_of_ble_eq_true rfl) (Nat.le_of_ble_eq_true rfl) (Nat.le_of_ble_eq_true rfl) hP hD hS hA (fun H locs hP hD hS => ?_)
            clear hM9
            refine tp_e (y := 0) (by rw [hst]) ?_
            rw [hst] at hO_162
            have hO_162 : OX k x0 (svN ns) (rfS S) _ Y0 k0 X_161 := hO_162
            have hns2 : (svN ns) ≤ 6 := (svN_le hns).1
            have hL2 : LI (rfS S) := LI_rf hL
            obtain ⟨f2, hSR2, -, -⟩ := id hL2
            refine lv_if_ne (tgt := 483) hx hb dL_change_443 (by decide) (fun c_163 => ?_) (fun c_163 => ?_)
            · exact absurd c_163 (by decide)
            · refine lv_aload_n hx hb dL_change_446 rfl (lv_at hl 11 rfl) ?_
              refine lv_bipush (v := 10) hx hb dL_change_447 (by decide) ?_
              obtain ⟨X_164, hO_165, hM9⟩ := o_count_10 (l := l) (D := D) hSR2 hO_162
              refine lo_I (n := 1) (As := [.int 10]) (rest := []) hx hb hml hown hts hK hN hM9 (OX.at0 hO_162) gL_change_X4_count rfl (by decide +kernel) (by decide) dL_change_449 rfl rfl (Nat.le_of_ble_eq_true rfl) hl.1 (Nat.le_of_ble_eq_true rfl) (Nat.le_of_ble_eq_true rfl) (Nat.le_of_ble_eq_true rfl) (Nat.le_of_ble_eq_true rfl) hP hD hS hA (fun H locs hP hD hS => ?_)
              clear hM9
              refine lv_iload hx hb dL_change_452 (lv_at hl 8 rfl) ?_
              refine lv_iconst (v := 1) hx hb dL_change_454 (by decide) ?_
              refine lv_iadd hx hb dL_change_455 ?_
              refine lv_icmp_ne (tgt := 483) hx hb dL_change_456 (by decide) (fun c_166 => ?_) (fun c_166 => ?_)
              · exact absurd (rfl) c_166
              · refine lv_aload_n hx hb dL_change_459 rfl (lv_at hl 11 rfl) ?_
                refine lv_iconst (v := 3) hx hb dL_change_460 (by decide) ?_
                obtain ⟨X_167, hO_168, hM9⟩ := o_count_3 (l := l) (D := D) hSR2 hO_165
                refine lo_I (n := 1) (As := [.int 3]) (rest := []) hx hb hml hown hts hK hN hM9 (OX.at0 hO_165) gL_change_X4_count rfl (by decide +kernel) (by decide) dL_change_461 rfl rfl (Nat.le_of_ble_eq_true rfl) hl.1 (Nat.le_of_ble_eq_true rfl) (Nat.le_of_ble_eq_true rfl) (Nat.le_of_ble_eq_true rfl) (Nat.le_of_ble_eq_true rfl) hP hD hS hA (fun H locs hP hD hS => ?_)
                clear hM9
                refine lv_iload hx hb dL_change_464 (lv_at hl 7 rfl) ?_
                refine lv_icmp_ne (tgt := 483) hx hb dL_change_466 (by decide) (fun c_169 => ?_) (fun c_169 => ?_)
                · exact absurd (hn) c_169
                · refine lv_aload_n hx hb dL_change_469 rfl (lv_at hl 11 rfl) ?_
                  refine lv_iconst (v := 2) hx hb dL_change_470 (by decide) ?_
                  obtain ⟨X_170, hO_171, hM9⟩ := o_count_2 (l := l) (D := D) hSR2 hO_168
                  refine lo_I (n := 1) (As := [.int 2]) (rest := []) hx hb hml hown hts hK hN hM9 (OX.at0 hO_168) gL_change_X4_count rfl (by decide +kernel) (by decide) dL_change_471 rfl rfl (Nat.le_of_ble_eq_true rfl) hl.1 (Nat.le_of_ble_eq_true rfl) (Nat.le_of_ble_eq_true rfl) (Nat.le_of_ble_eq_true rfl) (Nat.le_of_ble_eq_true rfl) hP hD hS hA (fun H locs hP hD hS => ?_)
                  clear hM9
                  refine lv_iload hx hb dL_change_474 (lv_at hl 3 rfl) ?_
                  refine lv_icmp_ne (tgt := 483) hx hb dL_change_476 (by decide) (fun c_172 => ?_) (fun c_172 => ?_)
                  · exact absurd (rfl) c_172
                  · refine lv_iconst (v := 1) hx hb dL_change_479 (by decide) ?_
                    refine lv_goto (tgt := 484) hx hb dL_change_480 (by decide) ?_
                    subst hQ
                    exact rt_zo hx hb hr hlocks hS dL_change_484 (va_PR hP) (va_DR hD) rfl (⟨rfl, _, _, _, hns2, hL2, hO_171⟩)
      · have c_118 : ¬ (z ≤ q) := fun h9 => c_118 ((nI_leI (a := z) (b := q) (by omega) (by omega)).mpr h9)
        omega
    · have c_117 : ¬ (z ≤ q) := fun h9 => c_117 ((nI_leI (a := z) (b := q) (by omega) (by omega)).mpr h9)
      exact absurd c_117 (not_not_intro (by omega))
