set_option maxHeartbeats 4000000 in
set_option maxRecDepth 100000 in
theorem c_L_change_4 (l : Launch) (D : va_G) (k : Nat → ClassId) (x0 ns : Nat) (S : Nat → Nat → Int32) (Z : Nat → Nat → Nat → Int32) (Y0 : Nat → Nat → Int32) (k0 : Int32) (X : va_W) (x y : Int32) (hns : ns ≤ 6) (hL : LI S) (hO : OX k x0 ns S Z Y0 k0 X) (hx16 : lowN x 16 = 4) : MO l yL_change wsL_change ({ frames := 31, cells := 0, slots := 0, locals := 839 }) D k [.ref x0, .int x, .int y] X (fun r X2 => r = 1 ∧ ∃ ns2 S2 Z2, ns2 ≤ 6 ∧ LI S2 ∧ OX k x0 ns2 S2 Z2 Y0 k0 X2) := by
  intro sz
  refine Met.ofW (cc := cL_change) (maxL := 16) (ret := (some .boolean)) (by decide) rfl ?_
  intro p e s m args below meth c s₁ B hml hv
  obtain ⟨rfl, hN, hsz, hP, hK, hD0⟩ := hv
  have hx := B.exec
  have hb := B.bytes
  have hr := B.returns
  have hts := atoms_spec (ws := wsL_change) B.pre
  have hown : s.vm.findClass RL = some m.cls := findClass_of_methodNamed B.named
  have hlocks := B.notSynchronized
  subst hsz
  have hD := hD0.self (sz := s.heap.size)
  generalize hAe : va_A X s.heap.size = A at hD ⊢
  have hA : ∀ q : Nat, s.heap.size ≤ q → A q := fun q h => by rw [← hAe]; exact Or.inr h
  have hS : va_S A s.heap s.heap [] := va_S.rf
  have hl := lv_entry ([.ref x0, .int x, .int y]) (n := 16) (Nat.le_of_ble_eq_true rfl)
  rw [lg_entry_eq]
  generalize (lg_sl ([.ref x0, .int x, .int y]) ++ List.replicate (16 - (lg_sl ([.ref x0, .int x, .int y])).length) Slot.unset).toArray = ls at hl ⊢
  have hl : lv_has ls 16 [(0, .ref x0), (1, .int x), (2, .int y)] := hl
  obtain ⟨H, hHe⟩ : ∃ H, H = s.heap := ⟨_, rfl⟩
  have hP : va_P D vwCl X H := by rw [hHe]; exact hP
  have hS : va_S A s.heap H [] := by rw [hHe]; exact hS
  rw [← hHe]
  refine absQ (fun Q hQ => ?_)
  obtain ⟨f, hSR, hBR, hEX⟩ := id hL
  obtain ⟨nw, hnw⟩ := hSR.2.2.2
  have hn : S 7 0 = nI nw := hnw.2.1
  have hn2 : nw ≤ 12 := hnw.1
  have hcv := low_lt (y >>> (4 &&& 31)) (n := 200) (by decide)
  have hP : va_P D vwCl ([] ++ (X)) H := hP
  have hD : va_D A ([] ++ (X)) := hD
  refine lv_iload_n hx hb dL_change_0 rfl (lv_at hl 2 rfl) ?_
  refine lv_bipush (v := 9) hx hb dL_change_1 (by decide) ?_
  have hPc : va_P D vwCl ([]) H := hP.sub [] rfl
  have hDc : va_D A ([]) := hD.sub [] (by decide +kernel) rfl
  refine cl_i0 (va_runS (As := [.int y, .int 9]) (rest := []) ⟨hx, hb, hml, hown, hts⟩ (c_L_low_9 l D k y H.size) (va_cwS 2 hts gL_change_L_low rfl rfl rfl (by decide +kernel) ⟨Nat.le_of_ble_eq_true rfl, Nat.le_of_ble_eq_true rfl⟩) ⟨pr_blind, pr_at hN hPc hK hDc⟩ rfl rfl hl.1 rfl (lv_room (Nat.le_of_ble_eq_true rfl)) dL_change_3 ⟨Nat.le_of_ble_eq_true rfl, Nat.le_of_ble_eq_true rfl⟩) hP hD hS hA [] rfl (fun H locs hP hD hS => ?_)
  clear hPc hDc
  obtain ⟨q, hqe⟩ : ∃ q, q = lowN y 9 := ⟨_, rfl⟩
  have hq9 : q < 9 := by rw [hqe]; exact low_lt _ (by decide)
  refine tp_e (y := (nI q)) (by rw [hqe]) ?_
  refine lv_istore_n (lv' := [(3, .int (nI q)), (0, .ref x0), (1, .int x), (2, .int y)]) hx hb dL_change_6 rfl hl (by decide) rfl (fun ls hl => ?_)
  refine lv_iload_n hx hb dL_change_7 rfl (lv_at hl 3 rfl) ?_
  refine lv_iconst (v := 4) hx hb dL_change_8 (by decide) ?_
  refine lv_ishr hx hb dL_change_9 ?_
  refine lv_bipush (v := 9) hx hb dL_change_10 (by decide) ?_
  have hPc : va_P D vwCl ([]) H := hP.sub [] rfl
  have hDc : va_D A ([]) := hD.sub [] (by decide +kernel) rfl
  refine cl_i0 (va_runS (As := [.int (y >>> (4 &&& 31)), .int 9]) (rest := []) ⟨hx, hb, hml, hown, hts⟩ (c_L_low_9 l D k (y >>> (4 &&& 31)) H.size) (va_cwS 2 hts gL_change_L_low rfl rfl rfl (by decide +kernel) ⟨Nat.le_of_ble_eq_true rfl, Nat.le_of_ble_eq_true rfl⟩) ⟨pr_blind, pr_at hN hPc hK hDc⟩ rfl rfl hl.1 rfl (lv_room (Nat.le_of_ble_eq_true rfl)) dL_change_12 ⟨Nat.le_of_ble_eq_true rfl, Nat.le_of_ble_eq_true rfl⟩) hP hD hS hA [] rfl (fun H locs hP hD hS => ?_)
  clear hPc hDc
  obtain ⟨z, hze⟩ : ∃ z, z = lowN (y >>> (4 &&& 31)) 9 := ⟨_, rfl⟩
  have hz9 : z < 9 := by rw [hze]; exact low_lt _ (by decide)
  refine tp_e (y := (nI z)) (by rw [hze]) ?_
  refine lv_istore (lv' := [(4, .int (nI z)), (3, .int (nI q)), (0, .ref x0), (1, .int x), (2, .int y)]) hx hb dL_change_15 hl (by decide) rfl (fun ls hl => ?_)
  refine lv_iconst (v := 0) hx hb dL_change_17 (by decide) ?_
  refine lv_istore (lv' := [(5, .int 0), (4, .int (nI z)), (3, .int (nI q)), (0, .ref x0), (1, .int x), (2, .int y)]) hx hb dL_change_18 hl (by decide) rfl (fun ls hl => ?_)
  refine lv_aload_n hx hb dL_change_20 rfl (lv_at hl 3 rfl) ?_
  refine lv_bipush (v := 10) hx hb dL_change_21 (by decide) ?_
  obtain ⟨X_1, hO_2, hM9⟩ := o_count_10 (l := l) (D := D) hSR hO
  refine lo_I (n := 1) (As := [.int 10]) (rest := []) hx hb hml hown hts hK hN hM9 (OX.at0 hO) gL_change_X4_count rfl (by decide +kernel) (by decide) dL_change_23 rfl rfl (Nat.le_of_ble_eq_true rfl) hl.1 (Nat.le_of_ble_eq_true rfl) (Nat.le_of_ble_eq_true rfl) (Nat.le_of_ble_eq_true rfl) (Nat.le_of_ble_eq_true rfl) hP hD hS hA (fun H locs hP hD hS => ?_)
  clear hM9
  refine lv_istore (lv' := [(6, .int (S 7 2)), (5, .int 0), (4, .int (nI z)), (3, .int (nI q)), (0, .ref x0), (1, .int x), (2, .int y)]) hx hb dL_change_26 hl (by decide) rfl (fun ls hl => ?_)
  refine lv_aload_n hx hb dL_change_28 rfl (lv_at hl 4 rfl) ?_
  refine lv_iconst (v := 3) hx hb dL_change_29 (by decide) ?_
  obtain ⟨X_3, hO_4, hM9⟩ := o_count_3 (l := l) (D := D) hSR hO_2
  refine lo_I (n := 1) (As := [.int 3]) (rest := []) hx hb hml hown hts hK hN hM9 (OX.at0 hO_2) gL_change_X4_count rfl (by decide +kernel) (by decide) dL_change_30 rfl rfl (Nat.le_of_ble_eq_true rfl) hl.1 (Nat.le_of_ble_eq_true rfl) (Nat.le_of_ble_eq_true rfl) (Nat.le_of_ble_eq_true rfl) (Nat.le_of_ble_eq_true rfl) hP hD hS hA (fun H locs hP hD hS => ?_)
  clear hM9
  refine tp_e (y := (nI nw)) hn ?_
  refine lv_istore (lv' := [(7, .int (nI nw)), (6, .int (S 7 2)), (5, .int 0), (4, .int (nI z)), (3, .int (nI q)), (0, .ref x0), (1, .int x), (2, .int y)]) hx hb dL_change_33 hl (by decide) rfl (fun ls hl => ?_)
  refine lv_iload_n hx hb dL_change_35 rfl (lv_at hl 4 rfl) ?_
  refine lv_iload hx hb dL_change_36 (lv_at hl 3 rfl) ?_
  refine lv_icmp_ne (tgt := 45) hx hb dL_change_38 (by decide) (fun c_5 => ?_) (fun c_5 => ?_)
  · have c_5 : ¬ (q = z) := fun h9 => c_5 ((nI_eq (a := q) (b := z) (by omega) (by omega)).mpr h9)
    refine lv_iconst (v := 0) hx hb dL_change_45 (by decide) ?_
    refine lv_istore (lv' := [(8, .int 0), (7, .int (nI nw)), (6, .int (S 7 2)), (5, .int 0), (4, .int (nI z)), (3, .int (nI q)), (0, .ref x0), (1, .int x), (2, .int y)]) hx hb dL_change_46 hl (by decide) rfl (fun ls hl => ?_)
    refine lv_iload_n hx hb dL_change_48 rfl (lv_at hl 5 rfl) ?_
    refine lv_iload hx hb dL_change_49 (lv_at hl 4 rfl) ?_
    refine lv_icmp_ge (tgt := 58) hx hb dL_change_51 (by decide) (fun c_6 => ?_) (fun c_6 => ?_)
    · have c_6 : z ≤ q := (nI_leI (a := z) (b := q) (by omega) (by omega)).mp c_6
      refine lv_iload hx hb dL_change_58 (lv_at hl 4 rfl) ?_
      refine lv_istore (lv' := [(9, .int (nI z)), (8, .int 0), (7, .int (nI nw)), (6, .int (S 7 2)), (5, .int 0), (4, .int (nI z)), (3, .int (nI q)), (0, .ref x0), (1, .int x), (2, .int y)]) hx hb dL_change_60 hl (by decide) rfl (fun ls hl => ?_)
      refine lv_iload_n hx hb dL_change_62 rfl (lv_at hl 6 rfl) ?_
      refine lv_iload hx hb dL_change_63 (lv_at hl 5 rfl) ?_
      refine lv_icmp_ge (tgt := 73) hx hb dL_change_65 (by decide) (fun c_7 => ?_) (fun c_7 => ?_)
      · have c_7 : z ≤ q := (nI_leI (a := z) (b := q) (by omega) (by omega)).mp c_7
        refine lv_iload_n hx hb dL_change_73 rfl (lv_at hl 6 rfl) ?_
        refine lv_istore (lv' := [(10, .int (nI q)), (9, .int (nI z)), (8, .int 0), (7, .int (nI nw)), (6, .int (S 7 2)), (5, .int 0), (4, .int (nI z)), (3, .int (nI q)), (0, .ref x0), (1, .int x), (2, .int y)]) hx hb dL_change_74 hl (by decide) rfl (fun ls hl => ?_)
        refine lv_iload_n hx hb dL_change_76 rfl (lv_at hl 9 rfl) ?_
        refine lv_bipush (v := 16) hx hb dL_change_77 (by decide) ?_
        have hPc : va_P D vwCl ([]) H := hP.sub [] rfl
        have hDc : va_D A ([]) := hD.sub [] (by decide +kernel) rfl
        refine cl_i0 (va_runS (As := [.int x, .int 16]) (rest := []) ⟨hx, hb, hml, hown, hts⟩ (c_L_low_16 l D k x H.size) (va_cwS 2 hts gL_change_L_low rfl rfl rfl (by decide +kernel) ⟨Nat.le_of_ble_eq_true rfl, Nat.le_of_ble_eq_true rfl⟩) ⟨pr_blind, pr_at hN hPc hK hDc⟩ rfl rfl hl.1 rfl (lv_room (Nat.le_of_ble_eq_true rfl)) dL_change_79 ⟨Nat.le_of_ble_eq_true rfl, Nat.le_of_ble_eq_true rfl⟩) hP hD hS hA [] rfl (fun H locs hP hD hS => ?_)
        clear hPc hDc
        refine tp_e (y := 4) (congrArg nI hx16) ?_
        refine lv_tableIn (off := 146) (tgt := 228) hx hb dL_change_82 (by decide) (by decide) rfl (by decide) ?_
        refine lv_iload hx hb dL_change_228 (lv_at hl 2 rfl) ?_
        refine lv_if_eq (tgt := 237) hx hb dL_change_230 (by decide) (fun c_8 => ?_) (fun c_8 => ?_)
        · refine lv_aload_n hx hb dL_change_237 rfl (lv_at hl 8 rfl) ?_
          refine lv_iload hx hb dL_change_238 (lv_at hl 1 rfl) ?_
          refine lv_iload hx hb dL_change_240 (lv_at hl 0 rfl) ?_
          obtain ⟨X_9, hO_10, hM9⟩ := o_isJoined (l := l) (D := D) hSR hO_4 (q := z) (z := q) (by omega) (by omega)
          refine lo_I (n := 2) (As := [.int (nI z), .int (nI q)]) (rest := []) hx hb hml hown hts hK hN hM9 (OX.at0 hO_4) gL_change_X4_isJoined rfl (by decide +kernel) (by decide) dL_change_242 rfl rfl (Nat.le_of_ble_eq_true rfl) hl.1 (Nat.le_of_ble_eq_true rfl) (Nat.le_of_ble_eq_true rfl) (Nat.le_of_ble_eq_true rfl) (Nat.le_of_ble_eq_true rfl) hP hD hS hA (fun H locs hP hD hS => ?_)
          clear hM9
          refine lv_istore (lv' := [(5, .int (bitv (S 2 z) (nI q))), (10, .int (nI q)), (9, .int (nI z)), (8, .int 0), (7, .int (nI nw)), (6, .int (S 7 2)), (4, .int (nI z)), (3, .int (nI q)), (0, .ref x0), (1, .int x), (2, .int y)]) hx hb dL_change_245 hl (by decide) rfl (fun ls hl => ?_)
          refine lv_iload hx hb dL_change_247 (lv_at hl 3 rfl) ?_
          refine lv_if_ne (tgt := 290) hx hb dL_change_249 (by decide) (fun c_11 => ?_) (fun c_11 => ?_)
          · exact absurd c_11 (by decide)
          · refine lv_aload_n hx hb dL_change_252 rfl (lv_at hl 8 rfl) ?_
            refine lv_iload hx hb dL_change_253 (lv_at hl 2 rfl) ?_
            refine lv_iload hx hb dL_change_255 (lv_at hl 1 rfl) ?_
            obtain ⟨X_12, hO_13, hM9⟩ := o_join (l := l) (D := D) hO_10 hns (q := z) (z := q) (by omega) (by omega) (by omega)
            refine lo_I (n := 2) (As := [.int (nI z), .int (nI q)]) (rest := []) hx hb hml hown hts hK hN hM9 (OX.at0 hO_10) gL_change_X4_join rfl (by decide +kernel) (by decide) dL_change_257 rfl rfl (Nat.le_of_ble_eq_true rfl) hl.1 (Nat.le_of_ble_eq_true rfl) (Nat.le_of_ble_eq_true rfl) (Nat.le_of_ble_eq_true rfl) (Nat.le_of_ble_eq_true rfl) hP hD hS hA (fun H locs hP hD hS => ?_)
            clear hM9
            have hns2 : (svN ns) ≤ 6 := (svN_le hns).1
            have hL2 : LI (anS (gJ S z (S 2 z ^^^ (1 <<< (nI q &&& 31))))) := LI_join hL (by omega) (by omega) (by omega)
            obtain ⟨f2, hSR2, -, -⟩ := id hL2
            refine lv_iconst (v := 1) hx hb dL_change_260 (by decide) ?_
            refine lv_iload hx hb dL_change_261 (lv_at hl 0 rfl) ?_
            refine lv_isub hx hb dL_change_263 ?_
            refine lv_icmp_ne (tgt := 294) hx hb dL_change_264 (by decide) (fun c_14 => ?_) (fun c_14 => ?_)
            · exact absurd (join_ans hL (by omega) (by omega)) c_14
            · refine lv_aload_n hx hb dL_change_267 rfl (lv_at hl 8 rfl) ?_
              refine lv_iload hx hb dL_change_268 (lv_at hl 2 rfl) ?_
              refine lv_iload hx hb dL_change_270 (lv_at hl 1 rfl) ?_
              obtain ⟨X_15, hO_16, hM9⟩ := o_isJoined (l := l) (D := D) hSR2 hO_13 (q := z) (z := q) (by omega) (by omega)
              refine lo_I (n := 2) (As := [.int (nI z), .int (nI q)]) (rest := []) hx hb hml hown hts hK hN hM9 (OX.at0 hO_13) gL_change_X4_isJoined rfl (by decide +kernel) (by decide) dL_change_272 rfl rfl (Nat.le_of_ble_eq_true rfl) hl.1 (Nat.le_of_ble_eq_true rfl) (Nat.le_of_ble_eq_true rfl) (Nat.le_of_ble_eq_true rfl) (Nat.le_of_ble_eq_true rfl) hP hD hS hA (fun H locs hP hD hS => ?_)
              clear hM9
              refine lv_iconst (v := 1) hx hb dL_change_275 (by decide) ?_
              refine lv_iload hx hb dL_change_276 (lv_at hl 0 rfl) ?_
              refine lv_isub hx hb dL_change_278 ?_
              refine lv_icmp_ne (tgt := 294) hx hb dL_change_279 (by decide) (fun c_17 => ?_) (fun c_17 => ?_)
              · exact absurd ((congrArg (fun v => bitv v (nI _)) (upd_e (S 2) _ _)).trans (join_ans hL (by omega) (by omega))) c_17
              · refine lv_aload_n hx hb dL_change_282 rfl (lv_at hl 8 rfl) ?_
                refine lv_iconst (v := 3) hx hb dL_change_283 (by decide) ?_
                obtain ⟨X_18, hO_19, hM9⟩ := o_count_3 (l := l) (D := D) hSR2 hO_16
                refine lo_I (n := 1) (As := [.int 3]) (rest := []) hx hb hml hown hts hK hN hM9 (OX.at0 hO_16) gL_change_X4_count rfl (by decide +kernel) (by decide) dL_change_284 rfl rfl (Nat.le_of_ble_eq_true rfl) hl.1 (Nat.le_of_ble_eq_true rfl) (Nat.le_of_ble_eq_true rfl) (Nat.le_of_ble_eq_true rfl) (Nat.le_of_ble_eq_true rfl) hP hD hS hA (fun H locs hP hD hS => ?_)
                clear hM9
                refine lv_if_ne (tgt := 294) hx hb dL_change_287 (by decide) (fun c_20 => ?_) (fun c_20 => ?_)
                · exact absurd (rfl) c_20
                · refine lv_iconst (v := 1) hx hb dL_change_290 (by decide) ?_
                  refine lv_goto (tgt := 295) hx hb dL_change_291 (by decide) ?_
                  subst hQ
                  exact rt_zo hx hb hr hlocks hS dL_change_295 (va_PR hP) (va_DR hD) rfl (⟨rfl, _, _, _, hns2, hL2, hO_19⟩)
        · exact absurd c_8 (by decide)
      · have c_7 : ¬ (z ≤ q) := fun h9 => c_7 ((nI_leI (a := z) (b := q) (by omega) (by omega)).mpr h9)
        omega
    · have c_6 : ¬ (z ≤ q) := fun h9 => c_6 ((nI_leI (a := z) (b := q) (by omega) (by omega)).mpr h9)
      refine lv_iload_n hx hb dL_change_54 rfl (lv_at hl 5 rfl) ?_
      refine lv_goto (tgt := 60) hx hb dL_change_55 (by decide) ?_
      refine lv_istore (lv' := [(9, .int (nI q)), (8, .int 0), (7, .int (nI nw)), (6, .int (S 7 2)), (5, .int 0), (4, .int (nI z)), (3, .int (nI q)), (0, .ref x0), (1, .int x), (2, .int y)]) hx hb dL_change_60 hl (by decide) rfl (fun ls hl => ?_)
      refine lv_iload_n hx hb dL_change_62 rfl (lv_at hl 6 rfl) ?_
      refine lv_iload hx hb dL_change_63 (lv_at hl 5 rfl) ?_
      refine lv_icmp_ge (tgt := 73) hx hb dL_change_65 (by decide) (fun c_21 => ?_) (fun c_21 => ?_)
      · have c_21 : z ≤ q := (nI_leI (a := z) (b := q) (by omega) (by omega)).mp c_21
        omega
      · have c_21 : ¬ (z ≤ q) := fun h9 => c_21 ((nI_leI (a := z) (b := q) (by omega) (by omega)).mpr h9)
        refine lv_iload hx hb dL_change_68 (lv_at hl 5 rfl) ?_
        refine lv_goto (tgt := 74) hx hb dL_change_70 (by decide) ?_
        refine lv_istore (lv' := [(10, .int (nI z)), (9, .int (nI q)), (8, .int 0), (7, .int (nI nw)), (6, .int (S 7 2)), (5, .int 0), (4, .int (nI z)), (3, .int (nI q)), (0, .ref x0), (1, .int x), (2, .int y)]) hx hb dL_change_74 hl (by decide) rfl (fun ls hl => ?_)
        refine lv_iload_n hx hb dL_change_76 rfl (lv_at hl 9 rfl) ?_
        refine lv_bipush (v := 16) hx hb dL_change_77 (by decide) ?_
        have hPc : va_P D vwCl ([]) H := hP.sub [] rfl
        have hDc : va_D A ([]) := hD.sub [] (by decide +kernel) rfl
        refine cl_i0 (va_runS (As := [.int x, .int 16]) (rest := []) ⟨hx, hb, hml, hown, hts⟩ (c_L_low_16 l D k x H.size) (va_cwS 2 hts gL_change_L_low rfl rfl rfl (by decide +kernel) ⟨Nat.le_of_ble_eq_true rfl, Nat.le_of_ble_eq_true rfl⟩) ⟨pr_blind, pr_at hN hPc hK hDc⟩ rfl rfl hl.1 rfl (lv_room (Nat.le_of_ble_eq_true rfl)) dL_change_79 ⟨Nat.le_of_ble_eq_true rfl, Nat.le_of_ble_eq_true rfl⟩) hP hD hS hA [] rfl (fun H locs hP hD hS => ?_)
        clear hPc hDc
        refine tp_e (y := 4) (congrArg nI hx16) ?_
        refine lv_tableIn (off := 146) (tgt := 228) hx hb dL_change_82 (by decide) (by decide) rfl (by decide) ?_
        refine lv_iload hx hb dL_change_228 (lv_at hl 2 rfl) ?_
        refine lv_if_eq (tgt := 237) hx hb dL_change_230 (by decide) (fun c_22 => ?_) (fun c_22 => ?_)
        · refine lv_aload_n hx hb dL_change_237 rfl (lv_at hl 8 rfl) ?_
          refine lv_iload hx hb dL_change_238 (lv_at hl 1 rfl) ?_
          refine lv_iload hx hb dL_change_240 (lv_at hl 0 rfl) ?_
          obtain ⟨X_23, hO_24, hM9⟩ := o_isJoined (l := l) (D := D) hSR hO_4 (q := q) (z := z) (by omega) (by omega)
          refine lo_I (n := 2) (As := [.int (nI q), .int (nI z)]) (rest := []) hx hb hml hown hts hK hN hM9 (OX.at0 hO_4) gL_change_X4_isJoined rfl (by decide +kernel) (by decide) dL_change_242 rfl rfl (Nat.le_of_ble_eq_true rfl) hl.1 (Nat.le_of_ble_eq_true rfl) (Nat.le_of_ble_eq_true rfl) (Nat.le_of_ble_eq_true rfl) (Nat.le_of_ble_eq_true rfl) hP hD hS hA (fun H locs hP hD hS => ?_)
          clear hM9
          refine lv_istore (lv' := [(5, .int (bitv (S 2 q) (nI z))), (10, .int (nI z)), (9, .int (nI q)), (8, .int 0), (7, .int (nI nw)), (6, .int (S 7 2)), (4, .int (nI z)), (3, .int (nI q)), (0, .ref x0), (1, .int x), (2, .int y)]) hx hb dL_change_245 hl (by decide) rfl (fun ls hl => ?_)
          refine lv_iload hx hb dL_change_247 (lv_at hl 3 rfl) ?_
          refine lv_if_ne (tgt := 290) hx hb dL_change_249 (by decide) (fun c_25 => ?_) (fun c_25 => ?_)
          · exact absurd c_25 (by decide)
          · refine lv_aload_n hx hb dL_change_252 rfl (lv_at hl 8 rfl) ?_
            refine lv_iload hx hb dL_change_253 (lv_at hl 2 rfl) ?_
            refine lv_iload hx hb dL_change_255 (lv_at hl 1 rfl) ?_
            obtain ⟨X_26, hO_27, hM9⟩ := o_join (l := l) (D := D) hO_24 hns (q := q) (z := z) (by omega) (by omega) (by omega)
            refine lo_I (n := 2) (As := [.int (nI q), .int (nI z)]) (rest := []) hx hb hml hown hts hK hN hM9 (OX.at0 hO_24) gL_change_X4_join rfl (by decide +kernel) (by decide) dL_change_257 rfl rfl (Nat.le_of_ble_eq_true rfl) hl.1 (Nat.le_of_ble_eq_true rfl) (Nat.le_of_ble_eq_true rfl) (Nat.le_of_ble_eq_true rfl) (Nat.le_of_ble_eq_true rfl) hP hD hS hA (fun H locs hP hD hS => ?_)
            clear hM9
            have hns2 : (svN ns) ≤ 6 := (svN_le hns).1
            have hL2 : LI (anS (gJ S q (S 2 q ^^^ (1 <<< (nI z &&& 31))))) := LI_join hL (by omega) (by omega) (by omega)
            obtain ⟨f2, hSR2, -, -⟩ := id hL2
            refine lv_iconst (v := 1) hx hb dL_change_260 (by decide) ?_
            refine lv_iload hx hb dL_change_261 (lv_at hl 0 rfl) ?_
            refine lv_isub hx hb dL_change_263 ?_
            refine lv_icmp_ne (tgt := 294) hx hb dL_change_264 (by decide) (fun c_28 => ?_) (fun c_28 => ?_)
            · exact absurd (join_ans hL (by omega) (by omega)) c_28
            · refine lv_aload_n hx hb dL_change_267 rfl (lv_at hl 8 rfl) ?_
              refine lv_iload hx hb dL_change_268 (lv_at hl 2 rfl) ?_
              refine lv_iload hx hb dL_change_270 (lv_at hl 1 rfl) ?_
              obtain ⟨X_29, hO_30, hM9⟩ := o_isJoined (l := l) (D := D) hSR2 hO_27 (q := q) (z := z) (by omega) (by omega)
              refine lo_I (n := 2) (As := [.int (nI q), .int (nI z)]) (rest := []) hx hb hml hown hts hK hN hM9 (OX.at0 hO_27) gL_change_X4_isJoined rfl (by decide +kernel) (by decide) dL_change_272 rfl rfl (Nat.le_of_ble_eq_true rfl) hl.1 (Nat.le_of_ble_eq_true rfl) (Nat.le_of_ble_eq_true rfl) (Nat.le_of_ble_eq_true rfl) (Nat.le_of_ble_eq_true rfl) hP hD hS hA (fun H locs hP hD hS => ?_)
              clear hM9
              refine lv_iconst (v := 1) hx hb dL_change_275 (by decide) ?_
              refine lv_iload hx hb dL_change_276 (lv_at hl 0 rfl) ?_
              refine lv_isub hx hb dL_change_278 ?_
              refine lv_icmp_ne (tgt := 294) hx hb dL_change_279 (by decide) (fun c_31 => ?_) (fun c_31 => ?_)
              · exact absurd ((congrArg (fun v => bitv v (nI _)) (upd_e (S 2) _ _)).trans (join_ans hL (by omega) (by omega))) c_31
              · refine lv_aload_n hx hb dL_change_282 rfl (lv_at hl 8 rfl) ?_
                refine lv_iconst (v := 3) hx hb dL_change_283 (by decide) ?_
                obtain ⟨X_32, hO_33, hM9⟩ := o_count_3 (l := l) (D := D) hSR2 hO_30
                refine lo_I (n := 1) (As := [.int 3]) (rest := []) hx hb hml hown hts hK hN hM9 (OX.at0 hO_30) gL_change_X4_count rfl (by decide +kernel) (by decide) dL_change_284 rfl rfl (Nat.le_of_ble_eq_true rfl) hl.1 (Nat.le_of_ble_eq_true rfl) (Nat.le_of_ble_eq_true rfl) (Nat.le_of_ble_eq_true rfl) (Nat.le_of_ble_eq_true rfl) hP hD hS hA (fun H locs hP hD hS => ?_)
                clear hM9
                refine lv_if_ne (tgt := 294) hx hb dL_change_287 (by decide) (fun c_34 => ?_) (fun c_34 => ?_)
                · exact absurd (rfl) c_34
                · refine lv_iconst (v := 1) hx hb dL_change_290 (by decide) ?_
                  refine lv_goto (tgt := 295) hx hb dL_change_291 (by decide) ?_
                  subst hQ
                  exact rt_zo hx hb hr hlocks hS dL_change_295 (va_PR hP) (va_DR hD) rfl (⟨rfl, _, _, _, hns2, hL2, hO_33⟩)
        · exact absurd c_22 (by decide)
  · have c_5 : q = z := (nI_eq (a := q) (b := z) (by omega) (by omega)).mp c_5
    refine lv_iconst (v := 1) hx hb dL_change_41 (by decide) ?_
    refine lv_goto (tgt := 46) hx hb dL_change_42 (by decide) ?_
    refine lv_istore (lv' := [(8, .int 1), (7, .int (nI nw)), (6, .int (S 7 2)), (5, .int 0), (4, .int (nI z)), (3, .int (nI q)), (0, .ref x0), (1, .int x), (2, .int y)]) hx hb dL_change_46 hl (by decide) rfl (fun ls hl => ?_)
    refine lv_iload_n hx hb dL_change_48 rfl (lv_at hl 5 rfl) ?_
    refine lv_iload hx hb dL_change_49 (lv_at hl 4 rfl) ?_
    refine lv_icmp_ge (tgt := 58) hx hb dL_change_51 (by decide) (fun c_35 => ?_) (fun c_35 => ?_)
    · have c_35 : z ≤ q := (nI_leI (a := z) (b := q) (by omega) (by omega)).mp c_35
      refine lv_iload hx hb dL_change_58 (lv_at hl 4 rfl) ?_
      refine lv_istore (lv' := [(9, .int (nI z)), (8, .int 1), (7, .int (nI nw)), (6, .int (S 7 2)), (5, .int 0), (4, .int (nI z)), (3, .int (nI q)), (0, .ref x0), (1, .int x), (2, .int y)]) hx hb dL_change_60 hl (by decide) rfl (fun ls hl => ?_)
      refine lv_iload_n hx hb dL_change_62 rfl (lv_at hl 6 rfl) ?_
      refine lv_iload hx hb dL_change_63 (lv_at hl 5 rfl) ?_
      refine lv_icmp_ge (tgt := 73) hx hb dL_change_65 (by decide) (fun c_36 => ?_) (fun c_36 => ?_)
      · have c_36 : z ≤ q := (nI_leI (a := z) (b := q) (by omega) (by omega)).mp c_36
        refine lv_iload_n hx hb dL_change_73 rfl (lv_at hl 6 rfl) ?_
        refine lv_istore (lv' := [(10, .int (nI q)), (9, .int (nI z)), (8, .int 1), (7, .int (nI nw)), (6, .int (S 7 2)), (5, .int 0), (4, .int (nI z)), (3, .int (nI q)), (0, .ref x0), (1, .int x), (2, .int y)]) hx hb dL_change_74 hl (by decide) rfl (fun ls hl => ?_)
        refine lv_iload_n hx hb dL_change_76 rfl (lv_at hl 9 rfl) ?_
        refine lv_bipush (v := 16) hx hb dL_change_77 (by decide) ?_
        have hPc : va_P D vwCl ([]) H := hP.sub [] rfl
        have hDc : va_D A ([]) := hD.sub [] (by decide +kernel) rfl
        refine cl_i0 (va_runS (As := [.int x, .int 16]) (rest := []) ⟨hx, hb, hml, hown, hts⟩ (c_L_low_16 l D k x H.size) (va_cwS 2 hts gL_change_L_low rfl rfl rfl (by decide +kernel) ⟨Nat.le_of_ble_eq_true rfl, Nat.le_of_ble_eq_true rfl⟩) ⟨pr_blind, pr_at hN hPc hK hDc⟩ rfl rfl hl.1 rfl (lv_room (Nat.le_of_ble_eq_true rfl)) dL_change_79 ⟨Nat.le_of_ble_eq_true rfl, Nat.le_of_ble_eq_true rfl⟩) hP hD hS hA [] rfl (fun H locs hP hD hS => ?_)
        clear hPc hDc
        refine tp_e (y := 4) (congrArg nI hx16) ?_
        refine lv_tableIn (off := 146) (tgt := 228) hx hb dL_change_82 (by decide) (by decide) rfl (by decide) ?_
        refine lv_iload hx hb dL_change_228 (lv_at hl 2 rfl) ?_
        refine lv_if_eq (tgt := 237) hx hb dL_change_230 (by decide) (fun c_37 => ?_) (fun c_37 => ?_)
        · exact absurd c_37 (by decide)
        · refine lv_iconst (v := 0) hx hb dL_change_233 (by decide) ?_
          refine lv_goto (tgt := 245) hx hb dL_change_234 (by decide) ?_
          refine lv_istore (lv' := [(5, .int 0), (10, .int (nI q)), (9, .int (nI z)), (8, .int 1), (7, .int (nI nw)), (6, .int (S 7 2)), (4, .int (nI z)), (3, .int (nI q)), (0, .ref x0), (1, .int x), (2, .int y)]) hx hb dL_change_245 hl (by decide) rfl (fun ls hl => ?_)
          refine lv_iload hx hb dL_change_247 (lv_at hl 3 rfl) ?_
          refine lv_if_ne (tgt := 290) hx hb dL_change_249 (by decide) (fun c_38 => ?_) (fun c_38 => ?_)
          · refine lv_iconst (v := 1) hx hb dL_change_290 (by decide) ?_
            refine lv_goto (tgt := 295) hx hb dL_change_291 (by decide) ?_
            subst hQ
            exact rt_zo hx hb hr hlocks hS dL_change_295 (va_PR hP) (va_DR hD) rfl (⟨rfl, _, _, _, hns, hL, hO_4⟩)
          · exact absurd c_38 (by decide)
      · have c_36 : ¬ (z ≤ q) := fun h9 => c_36 ((nI_leI (a := z) (b := q) (by omega) (by omega)).mpr h9)
        omega
    · have c_35 : ¬ (z ≤ q) := fun h9 => c_35 ((nI_leI (a := z) (b := q) (by omega) (by omega)).mpr h9)
      exact absurd c_35 (not_not_intro (by omega))

set_option maxHeartbeats 4000000 in
set_option maxRecDepth 100000 in
theorem c_L_change_5 (l : Launch) (D : va_G) (k : Nat → ClassId) (x0 ns : Nat) (S : Nat → Nat → Int32) (Z : Nat → Nat → Nat → Int32) (Y0 : Nat → Nat → Int32) (k0 : Int32) (X : va_W) (x y : Int32) (hns : ns ≤ 6) (hL : LI S) (hO : OX k x0 ns S Z Y0 k0 X) (hx16 : lowN x 16 = 5) : MO l yL_change wsL_change ({ frames := 31, cells := 0, slots := 0, locals := 839 }) D k [.ref x0, .int x, .int y] X (fun r X2 => r = 1 ∧ ∃ ns2 S2 Z2, ns2 ≤ 6 ∧ LI S2 ∧ OX k x0 ns2 S2 Z2 Y0 k0 X2) := by
  intro sz
  refine Met.ofW (cc := cL_change) (maxL := 16) (ret := (some .boolean)) (by decide) rfl ?_
  intro p e s m args below meth c s₁ B hml hv
  obtain ⟨rfl, hN, hsz, hP, hK, hD0⟩ := hv
  have hx := B.exec
  have hb := B.bytes
  have hr := B.returns
  have hts := atoms_spec (ws := wsL_change) B.pre
  have hown : s.vm.findClass RL = some m.cls := findClass_of_methodNamed B.named
  have hlocks := B.notSynchronized
  subst hsz
  have hD := hD0.self (sz := s.heap.size)
  generalize hAe : va_A X s.heap.size = A at hD ⊢
  have hA : ∀ q : Nat, s.heap.size ≤ q → A q := fun q h => by rw [← hAe]; exact Or.inr h
  have hS : va_S A s.heap s.heap [] := va_S.rf
  have hl := lv_entry ([.ref x0, .int x, .int y]) (n := 16) (Nat.le_of_ble_eq_true rfl)
  rw [lg_entry_eq]
  generalize (lg_sl ([.ref x0, .int x, .int y]) ++ List.replicate (16 - (lg_sl ([.ref x0, .int x, .int y])).length) Slot.unset).toArray = ls at hl ⊢
  have hl : lv_has ls 16 [(0, .ref x0), (1, .int x), (2, .int y)] := hl
  obtain ⟨H, hHe⟩ : ∃ H, H = s.heap := ⟨_, rfl⟩
  have hP : va_P D vwCl X H := by rw [hHe]; exact hP
  have hS : va_S A s.heap H [] := by rw [hHe]; exact hS
  rw [← hHe]
  refine absQ (fun Q hQ => ?_)
  obtain ⟨f, hSR, hBR, hEX⟩ := id hL
  obtain ⟨nw, hnw⟩ := hSR.2.2.2
  have hn : S 7 0 = nI nw := hnw.2.1
  have hn2 : nw ≤ 12 := hnw.1
  have hcv := low_lt (y >>> (4 &&& 31)) (n := 200) (by decide)
  have hP : va_P D vwCl ([] ++ (X)) H := hP
  have hD : va_D A ([] ++ (X)) := hD
  refine lv_iload_n hx hb dL_change_0 rfl (lv_at hl 2 rfl) ?_
  refine lv_bipush (v := 9) hx hb dL_change_1 (by decide) ?_
  have hPc : va_P D vwCl ([]) H := hP.sub [] rfl
  have hDc : va_D A ([]) := hD.sub [] (by decide +kernel) rfl
  refine cl_i0 (va_runS (As := [.int y, .int 9]) (rest := []) ⟨hx, hb, hml, hown, hts⟩ (c_L_low_9 l D k y H.size) (va_cwS 2 hts gL_change_L_low rfl rfl rfl (by decide +kernel) ⟨Nat.le_of_ble_eq_true rfl, Nat.le_of_ble_eq_true rfl⟩) ⟨pr_blind, pr_at hN hPc hK hDc⟩ rfl rfl hl.1 rfl (lv_room (Nat.le_of_ble_eq_true rfl)) dL_change_3 ⟨Nat.le_of_ble_eq_true rfl, Nat.le_of_ble_eq_true rfl⟩) hP hD hS hA [] rfl (fun H locs hP hD hS => ?_)
  clear hPc hDc
  obtain ⟨q, hqe⟩ : ∃ q, q = lowN y 9 := ⟨_, rfl⟩
  have hq9 : q < 9 := by rw [hqe]; exact low_lt _ (by decide)
  refine tp_e (y := (nI q)) (by rw [hqe]) ?_
  refine lv_istore_n (lv' := [(3, .int (nI q)), (0, .ref x0), (1, .int x), (2, .int y)]) hx hb dL_change_6 rfl hl (by decide) rfl (fun ls hl => ?_)
  refine lv_iload_n hx hb dL_change_7 rfl (lv_at hl 3 rfl) ?_
  refine lv_iconst (v := 4) hx hb dL_change_8 (by decide) ?_
  refine lv_ishr hx hb dL_change_9 ?_
  refine lv_bipush (v := 9) hx hb dL_change_10 (by decide) ?_
  have hPc : va_P D vwCl ([]) H := hP.sub [] rfl
  have hDc : va_D A ([]) := hD.sub [] (by decide +kernel) rfl
  refine cl_i0 (va_runS (As := [.int (y >>> (4 &&& 31)), .int 9]) (rest := []) ⟨hx, hb, hml, hown, hts⟩ (c_L_low_9 l D k (y >>> (4 &&& 31)) H.size) (va_cwS 2 hts gL_change_L_low rfl rfl rfl (by decide +kernel) ⟨Nat.le_of_ble_eq_true rfl, Nat.le_of_ble_eq_true rfl⟩) ⟨pr_blind, pr_at hN hPc hK hDc⟩ rfl rfl hl.1 rfl (lv_room (Nat.le_of_ble_eq_true rfl)) dL_change_12 ⟨Nat.le_of_ble_eq_true rfl, Nat.le_of_ble_eq_true rfl⟩) hP hD hS hA [] rfl (fun H locs hP hD hS => ?_)
  clear hPc hDc
  obtain ⟨z, hze⟩ : ∃ z, z = lowN (y >>> (4 &&& 31)) 9 := ⟨_, rfl⟩
  have hz9 : z < 9 := by rw [hze]; exact low_lt _ (by decide)
  refine tp_e (y := (nI z)) (by rw [hze]) ?_
  refine lv_istore (lv' := [(4, .int (nI z)), (3, .int (nI q)), (0, .ref x0), (1, .int x), (2, .int y)]) hx hb dL_change_15 hl (by decide) rfl (fun ls hl => ?_)
  refine lv_iconst (v := 0) hx hb dL_change_17 (by decide) ?_
  refine lv_istore (lv' := [(5, .int 0), (4, .int (nI z)), (3, .int (nI q)), (0, .ref x0), (1, .int x), (2, .int y)]) hx hb dL_change_18 hl (by decide) rfl (fun ls hl => ?_)
  refine lv_aload_n hx hb dL_change_20 rfl (lv_at hl 3 rfl) ?_
  refine lv_bipush (v := 10) hx hb dL_change_21 (by decide) ?_
  obtain ⟨X_1, hO_2, hM9⟩ := o_count_10 (l := l) (D := D) hSR hO
  refine lo_I (n := 1) (As := [.int 10]) (rest := []) hx hb hml hown hts hK hN hM9 (OX.at0 hO) gL_change_X4_count rfl (by decide +kernel) (by decide) dL_change_23 rfl rfl (Nat.le_of_ble_eq_true rfl) hl.1 (Nat.le_of_ble_eq_true rfl) (Nat.le_of_ble_eq_true rfl) (Nat.le_of_ble_eq_true rfl) (Nat.le_of_ble_eq_true rfl) hP hD hS hA (fun H locs hP hD hS => ?_)
  clear hM9
  refine lv_istore (lv' := [(6, .int (S 7 2)), (5, .int 0), (4, .int (nI z)), (3, .int (nI q)), (0, .ref x0), (1, .int x), (2, .int y)]) hx hb dL_change_26 hl (by decide) rfl (fun ls hl => ?_)
  refine lv_aload_n hx hb dL_change_28 rfl (lv_at hl 4 rfl) ?_
  refine lv_iconst (v := 3) hx hb dL_change_29 (by decide) ?_
  obtain ⟨X_3, hO_4, hM9⟩ := o_count_3 (l := l) (D := D) hSR hO_2
  refine lo_I (n := 1) (As := [.int 3]) (rest := []) hx hb hml hown hts hK hN hM9 (OX.at0 hO_2) gL_change_X4_count rfl (by decide +kernel) (by decide) dL_change_30 rfl rfl (Nat.le_of_ble_eq_true rfl) hl.1 (Nat.le_of_ble_eq_true rfl) (Nat.le_of_ble_eq_true rfl) (Nat.le_of_ble_eq_true rfl) (Nat.le_of_ble_eq_true rfl) hP hD hS hA (fun H locs hP hD hS => ?_)
  clear hM9
  refine tp_e (y := (nI nw)) hn ?_
  refine lv_istore (lv' := [(7, .int (nI nw)), (6, .int (S 7 2)), (5, .int 0), (4, .int (nI z)), (3, .int (nI q)), (0, .ref x0), (1, .int x), (2, .int y)]) hx hb dL_change_33 hl (by decide) rfl (fun ls hl => ?_)
  refine lv_iload_n hx hb dL_change_35 rfl (lv_at hl 4 rfl) ?_
  refine lv_iload hx hb dL_change_36 (lv_at hl 3 rfl) ?_
  refine lv_icmp_ne (tgt := 45) hx hb dL_change_38 (by decide) (fun c_5 => ?_) (fun c_5 => ?_)
  · have c_5 : ¬ (q = z) := fun h9 => c_5 ((nI_eq (a := q) (b := z) (by omega) (by omega)).mpr h9)
    refine lv_iconst (v := 0) hx hb dL_change_45 (by decide) ?_
    refine lv_istore (lv' := [(8, .int 0), (7, .int (nI nw)), (6, .int (S 7 2)), (5, .int 0), (4, .int (nI z)), (3, .int (nI q)), (0, .ref x0), (1, .int x), (2, .int y)]) hx hb dL_change_46 hl (by decide) rfl (fun ls hl => ?_)
    refine lv_iload_n hx hb dL_change_48 rfl (lv_at hl 5 rfl) ?_
    refine lv_iload hx hb dL_change_49 (lv_at hl 4 rfl) ?_
    refine lv_icmp_ge (tgt := 58) hx hb dL_change_51 (by decide) (fun c_6 => ?_) (fun c_6 => ?_)
    · have c_6 : z ≤ q := (nI_leI (a := z) (b := q) (by omega) (by omega)).mp c_6
      refine lv_iload hx hb dL_change_58 (lv_at hl 4 rfl) ?_
      refine lv_istore (lv' := [(9, .int (nI z)), (8, .int 0), (7, .int (nI nw)), (6, .int (S 7 2)), (5, .int 0), (4, .int (nI z)), (3, .int (nI q)), (0, .ref x0), (1, .int x), (2, .int y)]) hx hb dL_change_60 hl (by decide) rfl (fun ls hl => ?_)
      refine lv_iload_n hx hb dL_change_62 rfl (lv_at hl 6 rfl) ?_
      refine lv_iload hx hb dL_change_63 (lv_at hl 5 rfl) ?_
      refine lv_icmp_ge (tgt := 73) hx hb dL_change_65 (by decide) (fun c_7 => ?_) (fun c_7 => ?_)
      · have c_7 : z ≤ q := (nI_leI (a := z) (b := q) (by omega) (by omega)).mp c_7
        refine lv_iload_n hx hb dL_change_73 rfl (lv_at hl 6 rfl) ?_
        refine lv_istore (lv' := [(10, .int (nI q)), (9, .int (nI z)), (8, .int 0), (7, .int (nI nw)), (6, .int (S 7 2)), (5, .int 0), (4, .int (nI z)), (3, .int (nI q)), (0, .ref x0), (1, .int x), (2, .int y)]) hx hb dL_change_74 hl (by decide) rfl (fun ls hl => ?_)
        refine lv_iload_n hx hb dL_change_76 rfl (lv_at hl 9 rfl) ?_
        refine lv_bipush (v := 16) hx hb dL_change_77 (by decide) ?_
        have hPc : va_P D vwCl ([]) H := hP.sub [] rfl
        have hDc : va_D A ([]) := hD.sub [] (by decide +kernel) rfl
        refine cl_i0 (va_runS (As := [.int x, .int 16]) (rest := []) ⟨hx, hb, hml, hown, hts⟩ (c_L_low_16 l D k x H.size) (va_cwS 2 hts gL_change_L_low rfl rfl rfl (by decide +kernel) ⟨Nat.le_of_ble_eq_true rfl, Nat.le_of_ble_eq_true rfl⟩) ⟨pr_blind, pr_at hN hPc hK hDc⟩ rfl rfl hl.1 rfl (lv_room (Nat.le_of_ble_eq_true rfl)) dL_change_79 ⟨Nat.le_of_ble_eq_true rfl, Nat.le_of_ble_eq_true rfl⟩) hP hD hS hA [] rfl (fun H locs hP hD hS => ?_)
        clear hPc hDc
        refine tp_e (y := 5) (congrArg nI hx16) ?_
        refine lv_tableIn (off := 146) (tgt := 228) hx hb dL_change_82 (by decide) (by decide) rfl (by decide) ?_
        refine lv_iload hx hb dL_change_228 (lv_at hl 2 rfl) ?_
        refine lv_if_eq (tgt := 237) hx hb dL_change_230 (by decide) (fun c_8 => ?_) (fun c_8 => ?_)
        · refine lv_aload_n hx hb dL_change_237 rfl (lv_at hl 8 rfl) ?_
          refine lv_iload hx hb dL_change_238 (lv_at hl 1 rfl) ?_
          refine lv_iload hx hb dL_change_240 (lv_at hl 0 rfl) ?_
          obtain ⟨X_9, hO_10, hM9⟩ := o_isJoined (l := l) (D := D) hSR hO_4 (q := z) (z := q) (by omega) (by omega)
          refine lo_I (n := 2) (As := [.int (nI z), .int (nI q)]) (rest := []) hx hb hml hown hts hK hN hM9 (OX.at0 hO_4) gL_change_X4_isJoined rfl (by decide +kernel) (by decide) dL_change_242 rfl rfl (Nat.le_of_ble_eq_true rfl) hl.1 (Nat.le_of_ble_eq_true rfl) (Nat.le_of_ble_eq_true rfl) (Nat.le_of_ble_eq_true rfl) (Nat.le_of_ble_eq_true rfl) hP hD hS hA (fun H locs hP hD hS => ?_)
          clear hM9
          refine lv_istore (lv' := [(5, .int (bitv (S 2 z) (nI q))), (10, .int (nI q)), (9, .int (nI z)), (8, .int 0), (7, .int (nI nw)), (6, .int (S 7 2)), (4, .int (nI z)), (3, .int (nI q)), (0, .ref x0), (1, .int x), (2, .int y)]) hx hb dL_change_245 hl (by decide) rfl (fun ls hl => ?_)
          refine lv_iload hx hb dL_change_247 (lv_at hl 3 rfl) ?_
          refine lv_if_ne (tgt := 290) hx hb dL_change_249 (by decide) (fun c_11 => ?_) (fun c_11 => ?_)
          · exact absurd c_11 (by decide)
          · refine lv_aload_n hx hb dL_change_252 rfl (lv_at hl 8 rfl) ?_
            refine lv_iload hx hb dL_change_253 (lv_at hl 2 rfl) ?_
            refine lv_iload hx hb dL_change_255 (lv_at hl 1 rfl) ?_
            obtain ⟨X_12, hO_13, hM9⟩ := o_join (l := l) (D := D) hO_10 hns (q := z) (z := q) (by omega) (by omega) (by omega)
            refine lo_I (n := 2) (As := [.int (nI z), .int (nI q)]) (rest := []) hx hb hml hown hts hK hN hM9 (OX.at0 hO_10) gL_change_X4_join rfl (by decide +kernel) (by decide) dL_change_257 rfl rfl (Nat.le_of_ble_eq_true rfl) hl.1 (Nat.le_of_ble_eq_true rfl) (Nat.le_of_ble_eq_true rfl) (Nat.le_of_ble_eq_true rfl) (Nat.le_of_ble_eq_true rfl) hP hD hS hA (fun H locs hP hD hS => ?_)
            clear hM9
            have hns2 : (svN ns) ≤ 6 := (svN_le hns).1
            have hL2 : LI (anS (gJ S z (S 2 z ^^^ (1 <<< (nI q &&& 31))))) := LI_join hL (by omega) (by omega) (by omega)
            obtain ⟨f2, hSR2, -, -⟩ := id hL2
            refine lv_iconst (v := 1) hx hb dL_change_260 (by decide) ?_
            refine lv_iload hx hb dL_change_261 (lv_at hl 0 rfl) ?_
            refine lv_isub hx hb dL_change_263 ?_
            refine lv_icmp_ne (tgt := 294) hx hb dL_change_264 (by decide) (fun c_14 => ?_) (fun c_14 => ?_)
            · exact absurd (join_ans hL (by omega) (by omega)) c_14
            · refine lv_aload_n hx hb dL_change_267 rfl (lv_at hl 8 rfl) ?_
              refine lv_iload hx hb dL_change_268 (lv_at hl 2 rfl) ?_
              refine lv_iload hx hb dL_change_270 (lv_at hl 1 rfl) ?_
              obtain ⟨X_15, hO_16, hM9⟩ := o_isJoined (l := l) (D := D) hSR2 hO_13 (q := z) (z := q) (by omega) (by omega)
              refine lo_I (n := 2) (As := [.int (nI z), .int (nI q)]) (rest := []) hx hb hml hown hts hK hN hM9 (OX.at0 hO_13) gL_change_X4_isJoined rfl (by decide +kernel) (by decide) dL_change_272 rfl rfl (Nat.le_of_ble_eq_true rfl) hl.1 (Nat.le_of_ble_eq_true rfl) (Nat.le_of_ble_eq_true rfl) (Nat.le_of_ble_eq_true rfl) (Nat.le_of_ble_eq_true rfl) hP hD hS hA (fun H locs hP hD hS => ?_)
              clear hM9
              refine lv_iconst (v := 1) hx hb dL_change_275 (by decide) ?_
              refine lv_iload hx hb dL_change_276 (lv_at hl 0 rfl) ?_
              refine lv_isub hx hb dL_change_278 ?_
              refine lv_icmp_ne (tgt := 294) hx hb dL_change_279 (by decide) (fun c_17 => ?_) (fun c_17 => ?_)
              · exact absurd ((congrArg (fun v => bitv v (nI _)) (upd_e (S 2) _ _)).trans (join_ans hL (by omega) (by omega))) c_17
              · refine lv_aload_n hx hb dL_change_282 rfl (lv_at hl 8 rfl) ?_
                refine lv_iconst (v := 3) hx hb dL_change_283 (by decide) ?_
                obtain ⟨X_18, hO_19, hM9⟩ := o_count_3 (l := l) (D := D) hSR2 hO_16
                refine lo_I (n := 1) (As := [.int 3]) (rest := []) hx hb hml hown hts hK hN hM9 (OX.at0 hO_16) gL_change_X4_count rfl (by decide +kernel) (by decide) dL_change_284 rfl rfl (Nat.le_of_ble_eq_true rfl) hl.1 (Nat.le_of_ble_eq_true rfl) (Nat.le_of_ble_eq_true rfl) (Nat.le_of_ble_eq_true rfl) (Nat.le_of_ble_eq_true rfl) hP hD hS hA (fun H locs hP hD hS => ?_)
                clear hM9
                refine lv_if_ne (tgt := 294) hx hb dL_change_287 (by decide) (fun c_20 => ?_) (fun c_20 => ?_)
                · exact absurd (rfl) c_20
                · refine lv_iconst (v := 1) hx hb dL_change_290 (by decide) ?_
                  refine lv_goto (tgt := 295) hx hb dL_change_291 (by decide) ?_
                  subst hQ
                  exact rt_zo hx hb hr hlocks hS dL_change_295 (va_PR hP) (va_DR hD) rfl (⟨rfl, _, _, _, hns2, hL2, hO_19⟩)
        · exact absurd c_8 (by decide)
      · have c_7 : ¬ (z ≤ q) := fun h9 => c_7 ((nI_leI (a := z) (b := q) (by omega) (by omega)).mpr h9)
        omega
    · have c_6 : ¬ (z ≤ q) := fun h9 => c_6 ((nI_leI (a := z) (b := q) (by omega) (by omega)).mpr h9)
      refine lv_iload_n hx hb dL_change_54 rfl (lv_at hl 5 rfl) ?_
      refine lv_goto (tgt := 60) hx hb dL_change_55 (by decide) ?_
      refine lv_istore (lv' := [(9, .int (nI q)), (8, .int 0), (7, .int (nI nw)), (6, .int (S 7 2)), (5, .int 0), (4, .int (nI z)), (3, .int (nI q)), (0, .ref x0), (1, .int x), (2, .int y)]) hx hb dL_change_60 hl (by decide) rfl (fun ls hl => ?_)
      refine lv_iload_n hx hb dL_change_62 rfl (lv_at hl 6 rfl) ?_
      refine lv_iload hx hb dL_change_63 (lv_at hl 5 rfl) ?_
      refine lv_icmp_ge (tgt := 73) hx hb dL_change_65 (by decide) (fun c_21 => ?_) (fun c_21 => ?_)
      · have c_21 : z ≤ q := (nI_leI (a := z) (b := q) (by omega) (by omega)).mp c_21
        omega
      · have c_21 : ¬ (z ≤ q) := fun h9 => c_21 ((nI_leI (a := z) (b := q) (by omega) (by omega)).mpr h9)
        refine lv_iload hx hb dL_change_68 (lv_at hl 5 rfl) ?_
        refine lv_goto (tgt := 74) hx hb dL_change_70 (by decide) ?_
        refine lv_istore (lv' := [(10, .int (nI z)), (9, .int (nI q)), (8, .int 0), (7, .int (nI nw)), (6, .int (S 7 2)), (5, .int 0), (4, .int (nI z)), (3, .int (nI q)), (0, .ref x0), (1, .int x), (2, .int y)]) hx hb dL_change_74 hl (by decide) rfl (fun ls hl => ?_)
        refine lv_iload_n hx hb dL_change_76 rfl (lv_at hl 9 rfl) ?_
        refine lv_bipush (v := 16) hx hb dL_change_77 (by decide) ?_
        have hPc : va_P D vwCl ([]) H := hP.sub [] rfl
        have hDc : va_D A ([]) := hD.sub [] (by decide +kernel) rfl
        refine cl_i0 (va_runS (As := [.int x, .int 16]) (rest := []) ⟨hx, hb, hml, hown, hts⟩ (c_L_low_16 l D k x H.size) (va_cwS 2 hts gL_change_L_low rfl rfl rfl (by decide +kernel) ⟨Nat.le_of_ble_eq_true rfl, Nat.le_of_ble_eq_true rfl⟩) ⟨pr_blind, pr_at hN hPc hK hDc⟩ rfl rfl hl.1 rfl (lv_room (Nat.le_of_ble_eq_true rfl)) dL_change_79 ⟨Nat.le_of_ble_eq_true rfl, Nat.le_of_ble_eq_true rfl⟩) hP hD hS hA [] rfl (fun H locs hP hD hS => ?_)
        clear hPc hDc
        refine tp_e (y := 5) (congrArg nI hx16) ?_
        refine lv_tableIn (off := 146) (tgt := 228) hx hb dL_change_82 (by decide) (by decide) rfl (by decide) ?_
        refine lv_iload hx hb dL_change_228 (lv_at hl 2 rfl) ?_
        refine lv_if_eq (tgt := 237) hx hb dL_change_230 (by decide) (fun c_22 => ?_) (fun c_22 => ?_)
        · refine lv_aload_n hx hb dL_change_237 rfl (lv_at hl 8 rfl) ?_
          refine lv_iload hx hb dL_change_238 (lv_at hl 1 rfl) ?_
          refine lv_iload hx hb dL_change_240 (lv_at hl 0 rfl) ?_
          obtain ⟨X_23, hO_24, hM9⟩ := o_isJoined (l := l) (D := D) hSR hO_4 (q := q) (z := z) (by omega) (by omega)
          refine lo_I (n := 2) (As := [.int (nI q), .int (nI z)]) (rest := []) hx hb hml hown hts hK hN hM9 (OX.at0 hO_4) gL_change_X4_isJoined rfl (by decide +kernel) (by decide) dL_change_242 rfl rfl (Nat.le_of_ble_eq_true rfl) hl.1 (Nat.le_of_ble_eq_true rfl) (Nat.le_of_ble_eq_true rfl) (Nat.le_of_ble_eq_true rfl) (Nat.le_of_ble_eq_true rfl) hP hD hS hA (fun H locs hP hD hS => ?_)
          clear hM9
          refine lv_istore (lv' := [(5, .int (bitv (S 2 q) (nI z))), (10, .int (nI z)), (9, .int (nI q)), (8, .int 0), (7, .int (nI nw)), (6, .int (S 7 2)), (4, .int (nI z)), (3, .int (nI q)), (0, .ref x0), (1, .int x), (2, .int y)]) hx hb dL_change_245 hl (by decide) rfl (fun ls hl => ?_)
          refine lv_iload hx hb dL_change_247 (lv_at hl 3 rfl) ?_
          refine lv_if_ne (tgt := 290) hx hb dL_change_249 (by decide) (fun c_25 => ?_) (fun c_25 => ?_)
          · exact absurd c_25 (by decide)
          · refine lv_aload_n hx hb dL_change_252 rfl (lv_at hl 8 rfl) ?_
            refine lv_iload hx hb dL_change_253 (lv_at hl 2 rfl) ?_
            refine lv_iload hx hb dL_change_255 (lv_at hl 1 rfl) ?_
            obtain ⟨X_26, hO_27, hM9⟩ := o_join (l := l) (D := D) hO_24 hns (q := q) (z := z) (by omega) (by omega) (by omega)
            refine lo_I (n := 2) (As := [.int (nI q), .int (nI z)]) (rest := []) hx hb hml hown hts hK hN hM9 (OX.at0 hO_24) gL_change_X4_join rfl (by decide +kernel) (by decide) dL_change_257 rfl rfl (Nat.le_of_ble_eq_true rfl) hl.1 (Nat.le_of_ble_eq_true rfl) (Nat.le_of_ble_eq_true rfl) (Nat.le_of_ble_eq_true rfl) (Nat.le_of_ble_eq_true rfl) hP hD hS hA (fun H locs hP hD hS => ?_)
            clear hM9
            have hns2 : (svN ns) ≤ 6 := (svN_le hns).1
            have hL2 : LI (anS (gJ S q (S 2 q ^^^ (1 <<< (nI z &&& 31))))) := LI_join hL (by omega) (by omega) (by omega)
            obtain ⟨f2, hSR2, -, -⟩ := id hL2
            refine lv_iconst (v := 1) hx hb dL_change_260 (by decide) ?_
            refine lv_iload hx hb dL_change_261 (lv_at hl 0 rfl) ?_
            refine lv_isub hx hb dL_change_263 ?_
            refine lv_icmp_ne (tgt := 294) hx hb dL_change_264 (by decide) (fun c_28 => ?_) (fun c_28 => ?_)
            · exact absurd (join_ans hL (by omega) (by omega)) c_28
            · refine lv_aload_n hx hb dL_change_267 rfl (lv_at hl 8 rfl) ?_
              refine lv_iload hx hb dL_change_268 (lv_at hl 2 rfl) ?_
              refine lv_iload hx hb dL_change_270 (lv_at hl 1 rfl) ?_
              obtain ⟨X_29, hO_30, hM9⟩ := o_isJoined (l := l) (D := D) hSR2 hO_27 (q := q) (z := z) (by omega) (by omega)
              refine lo_I (n := 2) (As := [.int (nI q), .int (nI z)]) (rest := []) hx hb hml hown hts hK hN hM9 (OX.at0 hO_27) gL_change_X4_isJoined rfl (by decide +kernel) (by decide) dL_change_272 rfl rfl (Nat.le_of_ble_eq_true rfl) hl.1 (Nat.le_of_ble_eq_true rfl) (Nat.le_of_ble_eq_true rfl) (Nat.le_of_ble_eq_true rfl) (Nat.le_of_ble_eq_true rfl) hP hD hS hA (fun H locs hP hD hS => ?_)
              clear hM9
              refine lv_iconst (v := 1) hx hb dL_change_275 (by decide) ?_
              refine lv_iload hx hb dL_change_276 (lv_at hl 0 rfl) ?_
              refine lv_isub hx hb dL_change_278 ?_
              refine lv_icmp_ne (tgt := 294) hx hb dL_change_279 (by decide) (fun c_31 => ?_) (fun c_31 => ?_)
              · exact absurd ((congrArg (fun v => bitv v (nI _)) (upd_e (S 2) _ _)).trans (join_ans hL (by omega) (by omega))) c_31
              · refine lv_aload_n hx hb dL_change_282 rfl (lv_at hl 8 rfl) ?_
                refine lv_iconst (v := 3) hx hb dL_change_283 (by decide) ?_
                obtain ⟨X_32, hO_33, hM9⟩ := o_count_3 (l := l) (D := D) hSR2 hO_30
                refine lo_I (n := 1) (As := [.int 3]) (rest := []) hx hb hml hown hts hK hN hM9 (OX.at0 hO_30) gL_change_X4_count rfl (by decide +kernel) (by decide) dL_change_284 rfl rfl (Nat.le_of_ble_eq_true rfl) hl.1 (Nat.le_of_ble_eq_true rfl) (Nat.le_of_ble_eq_true rfl) (Nat.le_of_ble_eq_true rfl) (Nat.le_of_ble_eq_true rfl) hP hD hS hA (fun H locs hP hD hS => ?_)
                clear hM9
                refine lv_if_ne (tgt := 294) hx hb dL_change_287 (by decide) (fun c_34 => ?_) (fun c_34 => ?_)
                · exact absurd (rfl) c_34
                · refine lv_iconst (v := 1) hx hb dL_change_290 (by decide) ?_
                  refine lv_goto (tgt := 295) hx hb dL_change_291 (by decide) ?_
                  subst hQ
                  exact rt_zo hx hb hr hlocks hS dL_change_295 (va_PR hP) (va_DR hD) rfl (⟨rfl, _, _, _, hns2, hL2, hO_33⟩)
        · exact absurd c_22 (by decide)
  · have c_5 : q = z := (nI_eq (a := q) (b := z) (by omega) (by omega)).mp c_5
    refine lv_iconst (v := 1) hx hb dL_change_41 (by decide) ?_
    refine lv_goto (tgt := 46) hx hb dL_change_42 (by decide) ?_
    refine lv_istore (lv' := [(8, .int 1), (7, .int (nI nw)), (6, .int (S 7 2)), (5, .int 0), (4, .int (nI z)), (3, .int (nI q)), (0, .ref x0), (1, .int x), (2, .int y)]) hx hb dL_change_46 hl (by decide) rfl (fun ls hl => ?_)
    refine lv_iload_n hx hb dL_change_48 rfl (lv_at hl 5 rfl) ?_
    refine lv_iload hx hb dL_change_49 (lv_at hl 4 rfl) ?_
    refine lv_icmp_ge (tgt := 58) hx hb dL_change_51 (by decide) (fun c_35 => ?_) (fun c_35 => ?_)
    · have c_35 : z ≤ q := (nI_leI (a := z) (b := q) (by omega) (by omega)).mp c_35
      refine lv_iload hx hb dL_change_58 (lv_at hl 4 rfl) ?_
      refine lv_istore (lv' := [(9, .int (nI z)), (8, .int 1), (7, .int (nI nw)), (6, .int (S 7 2)), (5, .int 0), (4, .int (nI z)), (3, .int (nI q)), (0, .ref x0), (1, .int x), (2, .int y)]) hx hb dL_change_60 hl (by decide) rfl (fun ls hl => ?_)
      refine lv_iload_n hx hb dL_change_62 rfl (lv_at hl 6 rfl) ?_
      refine lv_iload hx hb dL_change_63 (lv_at hl 5 rfl) ?_
      refine lv_icmp_ge (tgt := 73) hx hb dL_change_65 (by decide) (fun c_36 => ?_) (fun c_36 => ?_)
      · have c_36 : z ≤ q := (nI_leI (a := z) (b := q) (by omega) (by omega)).mp c_36
        refine lv_iload_n hx hb dL_change_73 rfl (lv_at hl 6 rfl) ?_
        refine lv_istore (lv' := [(10, .int (nI q)), (9, .int (nI z)), (8, .int 1), (7, .int (nI nw)), (6, .int (S 7 2)), (5, .int 0), (4, .int (nI z)), (3, .int (nI q)), (0, .ref x0), (1, .int x), (2, .int y)]) hx hb dL_change_74 hl (by decide) rfl (fun ls hl => ?_)
        refine lv_iload_n hx hb dL_change_76 rfl (lv_at hl 9 rfl) ?_
        refine lv_bipush (v := 16) hx hb dL_change_77 (by decide) ?_
        have hPc : va_P D vwCl ([]) H := hP.sub [] rfl
        have hDc : va_D A ([]) := hD.sub [] (by decide +kernel) rfl
        refine cl_i0 (va_runS (As := [.int x, .int 16]) (rest := []) ⟨hx, hb, hml, hown, hts⟩ (c_L_low_16 l D k x H.size) (va_cwS 2 hts gL_change_L_low rfl rfl rfl (by decide +kernel) ⟨Nat.le_of_ble_eq_true rfl, Nat.le_of_ble_eq_true rfl⟩) ⟨pr_blind, pr_at hN hPc hK hDc⟩ rfl rfl hl.1 rfl (lv_room (Nat.le_of_ble_eq_true rfl)) dL_change_79 ⟨Nat.le_of_ble_eq_true rfl, Nat.le_of_ble_eq_true rfl⟩) hP hD hS hA [] rfl (fun H locs hP hD hS => ?_)
        clear hPc hDc
        refine tp_e (y := 5) (congrArg nI hx16) ?_
        refine lv_tableIn (off := 146) (tgt := 228) hx hb dL_change_82 (by decide) (by decide) rfl (by decide) ?_
        refine lv_iload hx hb dL_change_228 (lv_at hl 2 rfl) ?_
        refine lv_if_eq (tgt := 237) hx hb dL_change_230 (by decide) (fun c_37 => ?_) (fun c_37 => ?_)
        · exact absurd c_37 (by decide)
        · refine lv_iconst (v := 0) hx hb dL_change_233 (by decide) ?_
          refine lv_goto (tgt := 245) hx hb dL_change_234 (by decide) ?_
          refine lv_istore (lv' := [(5, .int 0), (10, .int (nI q)), (9, .int (nI z)), (8, .int 1), (7, .int (nI nw)), (6, .int (S 7 2)), (4, .int (nI z)), (3, .int (nI q)), (0, .ref x0), (1, .int x), (2, .int y)]) hx hb dL_change_245 hl (by decide) rfl (fun ls hl => ?_)
          refine lv_iload hx hb dL_change_247 (lv_at hl 3 rfl) ?_
          refine lv_if_ne (tgt := 290) hx hb dL_change_249 (by decide) (fun c_38 => ?_) (fun c_38 => ?_)
          · refine lv_iconst (v := 1) hx hb dL_change_290 (by decide) ?_
            refine lv_goto (tgt := 295) hx hb dL_change_291 (by decide) ?_
            subst hQ
            exact rt_zo hx hb hr hlocks hS dL_change_295 (va_PR hP) (va_DR hD) rfl (⟨rfl, _, _, _, hns, hL, hO_4⟩)
          · exact absurd c_38 (by decide)
      · have c_36 : ¬ (z ≤ q) := fun h9 => c_36 ((nI_leI (a := z) (b := q) (by omega) (by omega)).mpr h9)
        omega
    · have c_35 : ¬ (z ≤ q) := fun h9 => c_35 ((nI_leI (a := z) (b := q) (by omega) (by omega)).mpr h9)
      exact absurd c_35 (not_not_intro (by omega))

set_option maxHeartbeats 4000000 in
set_option maxRecDepth 100000 in
theorem c_L_change_6 (l : Launch) (D : va_G) (k : Nat → ClassId) (x0 ns : Nat) (S : Nat → Nat → Int32) (Z : Nat → Nat → Nat → Int32) (Y0 : Nat → Nat → Int32) (k0 : Int32) (X : va_W) (x y : Int32) (hns : ns ≤ 6) (hL : LI S) (hO : OX k x0 ns S Z Y0 k0 X) (hx16 : lowN x 16 = 6) : MO l yL_change wsL_change ({ frames := 31, cells := 0, slots := 0, locals := 839 }) D k [.ref x0, .int x, .int y] X (fun r X2 => r = 1 ∧ ∃ ns2 S2 Z2, ns2 ≤ 6 ∧ LI S2 ∧ OX k x0 ns2 S2 Z2 Y0 k0 X2) := by
  intro sz
  refine Met.ofW (cc := cL_change) (maxL := 16) (ret := (some .boolean)) (by decide) rfl ?_
  intro p e s m args below meth c s₁ B hml hv
  obtain ⟨rfl, hN, hsz, hP, hK, hD0⟩ := hv
  have hx := B.exec
  have hb := B.bytes
  have hr := B.returns
  have hts := atoms_spec (ws := wsL_change) B.pre
  have hown : s.vm.findClass RL = some m.cls := findClass_of_methodNamed B.named
  have hlocks := B.notSynchronized
  subst hsz
  have hD := hD0.self (sz := s.heap.size)
  generalize hAe : va_A X s.heap.size = A at hD ⊢
  have hA : ∀ q : Nat, s.heap.size ≤ q → A q := fun q h => by rw [← hAe]; exact Or.inr h
  have hS : va_S A s.heap s.heap [] := va_S.rf
  have hl := lv_entry ([.ref x0, .int x, .int y]) (n := 16) (Nat.le_of_ble_eq_true rfl)
  rw [lg_entry_eq]
  generalize (lg_sl ([.ref x0, .int x, .int y]) ++ List.replicate (16 - (lg_sl ([.ref x0, .int x, .int y])).length) Slot.unset).toArray = ls at hl ⊢
  have hl : lv_has ls 16 [(0, .ref x0), (1, .int x), (2, .int y)] := hl
  obtain ⟨H, hHe⟩ : ∃ H, H = s.heap := ⟨_, rfl⟩
  have hP : va_P D vwCl X H := by rw [hHe]; exact hP
  have hS : va_S A s.heap H [] := by rw [hHe]; exact hS
  rw [← hHe]
  refine absQ (fun Q hQ => ?_)
  obtain ⟨f, hSR, hBR, hEX⟩ := id hL
  obtain ⟨nw, hnw⟩ := hSR.2.2.2
  have hn : S 7 0 = nI nw := hnw.2.1
  have hn2 : nw ≤ 12 := hnw.1
  have hcv := low_lt (y >>> (4 &&& 31)) (n := 200) (by decide)
  have hP : va_P D vwCl ([] ++ (X)) H := hP
  have hD : va_D A ([] ++ (X)) := hD
  refine lv_iload_n hx hb dL_change_0 rfl (lv_at hl 2 rfl) ?_
  refine lv_bipush (v := 9) hx hb dL_change_1 (by decide) ?_
  have hPc : va_P D vwCl ([]) H := hP.sub [] rfl
  have hDc : va_D A ([]) := hD.sub [] (by decide +kernel) rfl
  refine cl_i0 (va_runS (As := [.int y, .int 9]) (rest := []) ⟨hx, hb, hml, hown, hts⟩ (c_L_low_9 l D k y H.size) (va_cwS 2 hts gL_change_L_low rfl rfl rfl (by decide +kernel) ⟨Nat.le_of_ble_eq_true rfl, Nat.le_of_ble_eq_true rfl⟩) ⟨pr_blind, pr_at hN hPc hK hDc⟩ rfl rfl hl.1 rfl (lv_room (Nat.le_of_ble_eq_true rfl)) dL_change_3 ⟨Nat.le_of_ble_eq_true rfl, Nat.le_of_ble_eq_true rfl⟩) hP hD hS hA [] rfl (fun H locs hP hD hS => ?_)
  clear hPc hDc
  obtain ⟨q, hqe⟩ : ∃ q, q = lowN y 9 := ⟨_, rfl⟩
  have hq9 : q < 9 := by rw [hqe]; exact low_lt _ (by decide)
  refine tp_e (y := (nI q)) (by rw [hqe]) ?_
  refine lv_istore_n (lv' := [(3, .int (nI q)), (0, .ref x0), (1, .int x), (2, .int y)]) hx hb dL_change_6 rfl hl (by decide) rfl (fun ls hl => ?_)
  refine lv_iload_n hx hb dL_change_7 rfl (lv_at hl 3 rfl) ?_
  refine lv_iconst (v := 4) hx hb dL_change_8 (by decide) ?_
  refine lv_ishr hx hb dL_change_9 ?_
  refine lv_bipush (v := 9) hx hb dL_change_10 (by decide) ?_
  have hPc : va_P D vwCl ([]) H := hP.sub [] rfl
  have hDc : va_D A ([]) := hD.sub [] (by decide +kernel) rfl
  refine cl_i0 (va_runS (As := [.int (y >>> (4 &&& 31)), .int 9]) (rest := []) ⟨hx, hb, hml, hown, hts⟩ (c_L_low_9 l D k (y >>> (4 &&& 31)) H.size) (va_cwS 2 hts gL_change_L_low rfl rfl rfl (by decide +kernel) ⟨Nat.le_of_ble_eq_true rfl, Nat.le_of_ble_eq_true rfl⟩) ⟨pr_blind, pr_at hN hPc hK hDc⟩ rfl rfl hl.1 rfl (lv_room (Nat.le_of_ble_eq_true rfl)) dL_change_12 ⟨Nat.le_of_ble_eq_true rfl, Nat.le_of_ble_eq_true rfl⟩) hP hD hS hA [] rfl (fun H locs hP hD hS => ?_)
  clear hPc hDc
  obtain ⟨z, hze⟩ : ∃ z, z = lowN (y >>> (4 &&& 31)) 9 := ⟨_, rfl⟩
  have hz9 : z < 9 := by rw [hze]; exact low_lt _ (by decide)
  refine tp_e (y := (nI z)) (by rw [hze]) ?_
  refine lv_istore (lv' := [(4, .int (nI z)), (3, .int (nI q)), (0, .ref x0), (1, .int x), (2, .int y)]) hx hb dL_change_15 hl (by decide) rfl (fun ls hl => ?_)
  refine lv_iconst (v := 0) hx hb dL_change_17 (by decide) ?_
  refine lv_istore (lv' := [(5, .int 0), (4, .int (nI z)), (3, .int (nI q)), (0, .ref x0), (1, .int x), (2, .int y)]) hx hb dL_change_18 hl (by decide) rfl (fun ls hl => ?_)
  refine lv_aload_n hx hb dL_change_20 rfl (lv_at hl 3 rfl) ?_
  refine lv_bipush (v := 10) hx hb dL_change_21 (by decide) ?_
  obtain ⟨X_1, hO_2, hM9⟩ := o_count_10 (l := l) (D := D) hSR hO
  refine lo_I (n := 1) (As := [.int 10]) (rest := []) hx hb hml hown hts hK hN hM9 (OX.at0 hO) gL_change_X4_count rfl (by decide +kernel) (by decide) dL_change_23 rfl rfl (Nat.le_of_ble_eq_true rfl) hl.1 (Nat.le_of_ble_eq_true rfl) (Nat.le_of_ble_eq_true rfl) (Nat.le_of_ble_eq_true rfl) (Nat.le_of_ble_eq_true rfl) hP hD hS hA (fun H locs hP hD hS => ?_)
  clear hM9
  refine lv_istore (lv' := [(6, .int (S 7 2)), (5, .int 0), (4, .int (nI z)), (3, .int (nI q)), (0, .ref x0), (1, .int x), (2, .int y)]) hx hb dL_change_26 hl (by decide) rfl (fun ls hl => ?_)
  refine lv_aload_n hx hb dL_change_28 rfl (lv_at hl 4 rfl) ?_
  refine lv_iconst (v := 3) hx hb dL_change_29 (by decide) ?_
  obtain ⟨X_3, hO_4, hM9⟩ := o_count_3 (l := l) (D := D) hSR hO_2
  refine lo_I (n := 1) (As := [.int 3]) (rest := []) hx hb hml hown hts hK hN hM9 (OX.at0 hO_2) gL_change_X4_count rfl (by decide +kernel) (by decide) dL_change_30 rfl rfl (Nat.le_of_ble_eq_true rfl) hl.1 (Nat.le_of_ble_eq_true rfl) (Nat.le_of_ble_eq_true rfl) (Nat.le_of_ble_eq_true rfl) (Nat.le_of_ble_eq_true rfl) hP hD hS hA (fun H locs hP hD hS => ?_)
  clear hM9
  refine tp_e (y := (nI nw)) hn ?_
  refine lv_istore (lv' := [(7, .int (nI nw)), (6, .int (S 7 2)), (5, .int 0), (4, .int (nI z)), (3, .int (nI q)), (0, .ref x0), (1, .int x), (2, .int y)]) hx hb dL_change_33 hl (by decide) rfl (fun ls hl => ?_)
  refine lv_iload_n hx hb dL_change_35 rfl (lv_at hl 4 rfl) ?_
  refine lv_iload hx hb dL_change_36 (lv_at hl 3 rfl) ?_
  refine lv_icmp_ne (tgt := 45) hx hb dL_change_38 (by decide) (fun c_5 => ?_) (fun c_5 => ?_)
  · have c_5 : ¬ (q = z) := fun h9 => c_5 ((nI_eq (a := q) (b := z) (by omega) (by omega)).mpr h9)
    refine lv_iconst (v := 0) hx hb dL_change_45 (by decide) ?_
    refine lv_istore (lv' := [(8, .int 0), (7, .int (nI nw)), (6, .int (S 7 2)), (5, .int 0), (4, .int (nI z)), (3, .int (nI q)), (0, .ref x0), (1, .int x), (2, .int y)]) hx hb dL_change_46 hl (by decide) rfl (fun ls hl => ?_)
    refine lv_iload_n hx hb dL_change_48 rfl (lv_at hl 5 rfl) ?_
    refine lv_iload hx hb dL_change_49 (lv_at hl 4 rfl) ?_
    refine lv_icmp_ge (tgt := 58) hx hb dL_change_51 (by decide) (fun c_6 => ?_) (fun c_6 => ?_)
    · have c_6 : z ≤ q := (nI_leI (a := z) (b := q) (by omega) (by omega)).mp c_6
      refine lv_iload hx hb dL_change_58 (lv_at hl 4 rfl) ?_
      refine lv_istore (lv' := [(9, .int (nI z)), (8, .int 0), (7, .int (nI nw)), (6, .int (S 7 2)), (5, .int 0), (4, .int (nI z)), (3, .int (nI q)), (0, .ref x0), (1, .int x), (2, .int y)]) hx hb dL_change_60 hl (by decide) rfl (fun ls hl => ?_)
      refine lv_iload_n hx hb dL_change_62 rfl (lv_at hl 6 rfl) ?_
      refine lv_iload hx hb dL_change_63 (lv_at hl 5 rfl) ?_
      refine lv_icmp_ge (tgt := 73) hx hb dL_change_65 (by decide) (fun c_7 => ?_) (fun c_7 => ?_)
      · have c_7 : z ≤ q := (nI_leI (a := z) (b := q) (by omega) (by omega)).mp c_7
        refine lv_iload_n hx hb dL_change_73 rfl (lv_at hl 6 rfl) ?_
        refine lv_istore (lv' := [(10, .int (nI q)), (9, .int (nI z)), (8, .int 0), (7, .int (nI nw)), (6, .int (S 7 2)), (5, .int 0), (4, .int (nI z)), (3, .int (nI q)), (0, .ref x0), (1, .int x), (2, .int y)]) hx hb dL_change_74 hl (by decide) rfl (fun ls hl => ?_)
        refine lv_iload_n hx hb dL_change_76 rfl (lv_at hl 9 rfl) ?_
        refine lv_bipush (v := 16) hx hb dL_change_77 (by decide) ?_
        have hPc : va_P D vwCl ([]) H := hP.sub [] rfl
        have hDc : va_D A ([]) := hD.sub [] (by decide +kernel) rfl
        refine cl_i0 (va_runS (As := [.int x, .int 16]) (rest := []) ⟨hx, hb, hml, hown, hts⟩ (c_L_low_16 l D k x H.size) (va_cwS 2 hts gL_change_L_low rfl rfl rfl (by decide +kernel) ⟨Nat.le_of_ble_eq_true rfl, Nat.le_of_ble_eq_true rfl⟩) ⟨pr_blind, pr_at hN hPc hK hDc⟩ rfl rfl hl.1 rfl (lv_room (Nat.le_of_ble_eq_true rfl)) dL_change_79 ⟨Nat.le_of_ble_eq_true rfl, Nat.le_of_ble_eq_true rfl⟩) hP hD hS hA [] rfl (fun H locs hP hD hS => ?_)
        clear hPc hDc
        refine tp_e (y := 6) (congrArg nI hx16) ?_
        refine lv_tableIn (off := 146) (tgt := 228) hx hb dL_change_82 (by decide) (by decide) rfl (by decide) ?_
        refine lv_iload hx hb dL_change_228 (lv_at hl 2 rfl) ?_
        refine lv_if_eq (tgt := 237) hx hb dL_change_230 (by decide) (fun c_8 => ?_) (fun c_8 => ?_)
        · refine lv_aload_n hx hb dL_change_237 rfl (lv_at hl 8 rfl) ?_
          refine lv_iload hx hb dL_change_238 (lv_at hl 1 rfl) ?_
          refine lv_iload hx hb dL_change_240 (lv_at hl 0 rfl) ?_
          obtain ⟨X_9, hO_10, hM9⟩ := o_isJoined (l := l) (D := D) hSR hO_4 (q := z) (z := q) (by omega) (by omega)
          refine lo_I (n := 2) (As := [.int (nI z), .int (nI q)]) (rest := []) hx hb hml hown hts hK hN hM9 (OX.at0 hO_4) gL_change_X4_isJoined rfl (by decide +kernel) (by decide) dL_change_242 rfl rfl (Nat.le_of_ble_eq_true rfl) hl.1 (Nat.le_of_ble_eq_true rfl) (Nat.le_of_ble_eq_true rfl) (Nat.le_of_ble_eq_true rfl) (Nat.le_of_ble_eq_true rfl) hP hD hS hA (fun H locs hP hD hS => ?_)
          clear hM9
          refine lv_istore (lv' := [(5, .int (bitv (S 2 z) (nI q))), (10, .int (nI q)), (9, .int (nI z)), (8, .int 0), (7, .int (nI nw)), (6, .int (S 7 2)), (4, .int (nI z)), (3, .int (nI q)), (0, .ref x0), (1, .int x), (2, .int y)]) hx hb dL_change_245 hl (by decide) rfl (fun ls hl => ?_)
          refine lv_iload hx hb dL_change_247 (lv_at hl 3 rfl) ?_
          refine lv_if_ne (tgt := 290) hx hb dL_change_249 (by decide) (fun c_11 => ?_) (fun c_11 => ?_)
          · exact absurd c_11 (by decide)
          · refine lv_aload_n hx hb dL_change_252 rfl (lv_at hl 8 rfl) ?_
            refine lv_iload hx hb dL_change_253 (lv_at hl 2 rfl) ?_
            refine lv_iload hx hb dL_change_255 (lv_at hl 1 rfl) ?_
            obtain ⟨X_12, hO_13, hM9⟩ := o_join (l := l) (D := D) hO_10 hns (q := z) (z := q) (by omega) (by omega) (by omega)
            refine lo_I (n := 2) (As := [.int (nI z), .int (nI q)]) (rest := []) hx hb hml hown hts hK hN hM9 (OX.at0 hO_10) gL_change_X4_join rfl (by decide +kernel) (by decide) dL_change_257 rfl rfl (Nat.le_of_ble_eq_true rfl) hl.1 (Nat.le_of_ble_eq_true rfl) (Nat.le_of_ble_eq_true rfl) (Nat.le_of_ble_eq_true rfl) (Nat.le_of_ble_eq_true rfl) hP hD hS hA (fun H locs hP hD hS => ?_)
            clear hM9
            have hns2 : (svN ns) ≤ 6 := (svN_le hns).1
            have hL2 : LI (anS (gJ S z (S 2 z ^^^ (1 <<< (nI q &&& 31))))) := LI_join hL (by omega) (by omega) (by omega)
            obtain ⟨f2, hSR2, -, -⟩ := id hL2
            refine lv_iconst (v := 1) hx hb dL_change_260 (by decide) ?_
            refine lv_iload hx hb dL_change_261 (lv_at hl 0 rfl) ?_
            refine lv_isub hx hb dL_change_263 ?_
            refine lv_icmp_ne (tgt := 294) hx hb dL_change_264 (by decide) (fun c_14 => ?_) (fun c_14 => ?_)
            · exact absurd (join_ans hL (by omega) (by omega)) c_14
            · refine lv_aload_n hx hb dL_change_267 rfl (lv_at hl 8 rfl) ?_
              refine lv_iload hx hb dL_change_268 (lv_at hl 2 rfl) ?_
              refine lv_iload hx hb dL_change_270 (lv_at hl 1 rfl) ?_
              obtain ⟨X_15, hO_16, hM9⟩ := o_isJoined (l := l) (D := D) hSR2 hO_13 (q := z) (z := q) (by omega) (by omega)
              refine lo_I (n := 2) (As := [.int (nI z), .int (nI q)]) (rest := []) hx hb hml hown hts hK hN hM9 (OX.at0 hO_13) gL_change_X4_isJoined rfl (by decide +kernel) (by decide) dL_change_272 rfl rfl (Nat.le_of_ble_eq_true rfl) hl.1 (Nat.le_of_ble_eq_true rfl) (Nat.le_of_ble_eq_true rfl) (Nat.le_of_ble_eq_true rfl) (Nat.le_of_ble_eq_true rfl) hP hD hS hA (fun H locs hP hD hS => ?_)
              clear hM9
              refine lv_iconst (v := 1) hx hb dL_change_275 (by decide) ?_
              refine lv_iload hx hb dL_change_276 (lv_at hl 0 rfl) ?_
              refine lv_isub hx hb dL_change_278 ?_
              refine lv_icmp_ne (tgt := 294) hx hb dL_change_279 (by decide) (fun c_17 => ?_) (fun c_17 => ?_)
              · exact absurd ((congrArg (fun v => bitv v (nI _)) (upd_e (S 2) _ _)).trans (join_ans hL (by omega) (by omega))) c_17
              · refine lv_aload_n hx hb dL_change_282 rfl (lv_at hl 8 rfl) ?_
                refine lv_iconst (v := 3) hx hb dL_change_283 (by decide) ?_
                obtain ⟨X_18, hO_19, hM9⟩ := o_count_3 (l := l) (D := D) hSR2 hO_16
                refine lo_I (n := 1) (As := [.int 3]) (rest := []) hx hb hml hown hts hK hN hM9 (OX.at0 hO_16) gL_change_X4_count rfl (by decide +kernel) (by decide) dL_change_284 rfl rfl (Nat.le_of_ble_eq_true rfl) hl.1 (Nat.le_of_ble_eq_true rfl) (Nat.le_of_ble_eq_true rfl) (Nat.le_of_ble_eq_true rfl) (Nat.le_of_ble_eq_true rfl) hP hD hS hA (fun H locs hP hD hS => ?_)
                clear hM9
                refine lv_if_ne (tgt := 294) hx hb dL_change_287 (by decide) (fun c_20 => ?_) (fun c_20 => ?_)
                · exact absurd (rfl) c_20
                · refine lv_iconst (v := 1) hx hb dL_change_290 (by decide) ?_
                  refine lv_goto (tgt := 295) hx hb dL_change_291 (by decide) ?_
                  subst hQ
                  exact rt_zo hx hb hr hlocks hS dL_change_295 (va_PR hP) (va_DR hD) rfl (⟨rfl, _, _, _, hns2, hL2, hO_19⟩)
        · exact absurd c_8 (by decide)
      · have c_7 : ¬ (z ≤ q) := fun h9 => c_7 ((nI_leI (a := z) (b := q) (by omega) (by omega)).mpr h9)
        omega
    · have c_6 : ¬ (z ≤ q) := fun h9 => c_6 ((nI_leI (a := z) (b := q) (by omega) (by omega)).mpr h9)
      refine lv_iload_n hx hb dL_change_54 rfl (lv_at hl 5 rfl) ?_
      refine lv_goto (tgt := 60) hx hb dL_change_55 (by decide) ?_
      refine lv_istore (lv' := [(9, .int (nI q)), (8, .int 0), (7, .int (nI nw)), (6, .int (S 7 2)), (5, .int 0), (4, .int (nI z)), (3, .int (nI q)), (0, .ref x0), (1, .int x), (2, .int y)]) hx hb dL_change_60 hl (by decide) rfl (fun ls hl => ?_)
      refine lv_iload_n hx hb dL_change_62 rfl (lv_at hl 6 rfl) ?_
      refine lv_iload hx hb dL_change_63 (lv_at hl 5 rfl) ?_
      refine lv_icmp_ge (tgt := 73) hx hb dL_change_65 (by decide) (fun c_21 => ?_) (fun c_21 => ?_)
      · have c_21 : z ≤ q := (nI_leI (a := z) (b := q) (by omega) (by omega)).mp c_21
        omega
      · have c_21 : ¬ (z ≤ q) := fun h9 => c_21 ((nI_leI (a := z) (b := q) (by omega) (by omega)).mpr h9)
        refine lv_iload hx hb dL_change_68 (lv_at hl 5 rfl) ?_
        refine lv_goto (tgt := 74) hx hb dL_change_70 (by decide) ?_
        refine lv_istore (lv' := [(10, .int (nI z)), (9, .int (nI q)), (8, .int 0), (7, .int (nI nw)), (6, .int (S 7 2)), (5, .int 0), (4, .int (nI z)), (3, .int (nI q)), (0, .ref x0), (1, .int x), (2, .int y)]) hx hb dL_change_74 hl (by decide) rfl (fun ls hl => ?_)
        refine lv_iload_n hx hb dL_change_76 rfl (lv_at hl 9 rfl) ?_
        refine lv_bipush (v := 16) hx hb dL_change_77 (by decide) ?_
        have hPc : va_P D vwCl ([]) H := hP.sub [] rfl
        have hDc : va_D A ([]) := hD.sub [] (by decide +kernel) rfl
        refine cl_i0 (va_runS (As := [.int x, .int 16]) (rest := []) ⟨hx, hb, hml, hown, hts⟩ (c_L_low_16 l D k x H.size) (va_cwS 2 hts gL_change_L_low rfl rfl rfl (by decide +kernel) ⟨Nat.le_of_ble_eq_true rfl, Nat.le_of_ble_eq_true rfl⟩) ⟨pr_blind, pr_at hN hPc hK hDc⟩ rfl rfl hl.1 rfl (lv_room (Nat.le_of_ble_eq_true rfl)) dL_change_79 ⟨Nat.le_of_ble_eq_true rfl, Nat.le_of_ble_eq_true rfl⟩) hP hD hS hA [] rfl (fun H locs hP hD hS => ?_)
        clear hPc hDc
        refine tp_e (y := 6) (congrArg nI hx16) ?_
        refine lv_tableIn (off := 146) (tgt := 228) hx hb dL_change_82 (by decide) (by decide) rfl (by decide) ?_
        refine lv_iload hx hb dL_change_228 (lv_at hl 2 rfl) ?_
        refine lv_if_eq (tgt := 237) hx hb dL_change_230 (by decide) (fun c_22 => ?_) (fun c_22 => ?_)
        · refine lv_aload_n hx hb dL_change_237 rfl (lv_at hl 8 rfl) ?_
          refine lv_iload hx hb dL_change_238 (lv_at hl 1 rfl) ?_
          refine lv_iload hx hb dL_change_240 (lv_at hl 0 rfl) ?_
          obtain ⟨X_23, hO_24, hM9⟩ := o_isJoined (l := l) (D := D) hSR hO_4 (q := q) (z := z) (by omega) (by omega)
          refine lo_I (n := 2) (As := [.int (nI q), .int (nI z)]) (rest := []) hx hb hml hown hts hK hN hM9 (OX.at0 hO_4) gL_change_X4_isJoined rfl (by decide +kernel) (by decide) dL_change_242 rfl rfl (Nat.le_of_ble_eq_true rfl) hl.1 (Nat.le_of_ble_eq_true rfl) (Nat.le_of_ble_eq_true rfl) (Nat.le_of_ble_eq_true rfl) (Nat.le_of_ble_eq_true rfl) hP hD hS hA (fun H locs hP hD hS => ?_)
          clear hM9
          refine lv_istore (lv' := [(5, .int (bitv (S 2 q) (nI z))), (10, .int (nI z)), (9, .int (nI q)), (8, .int 0), (7, .int (nI nw)), (6, .int (S 7 2)), (4, .int (nI z)), (3, .int (nI q)), (0, .ref x0), (1, .int x), (2, .int y)]) hx hb dL_change_245 hl (by decide) rfl (fun ls hl => ?_)
          refine lv_iload hx hb dL_change_247 (lv_at hl 3 rfl) ?_
          refine lv_if_ne (tgt := 290) hx hb dL_change_249 (by decide) (fun c_25 => ?_) (fun c_25 => ?_)
          · exact absurd c_25 (by decide)
          · refine lv_aload_n hx hb dL_change_252 rfl (lv_at hl 8 rfl) ?_
            refine lv_iload hx hb dL_change_253 (lv_at hl 2 rfl) ?_
            refine lv_iload hx hb dL_change_255 (lv_at hl 1 rfl) ?_
            obtain ⟨X_26, hO_27, hM9⟩ := o_join (l := l) (D := D) hO_24 hns (q := q) (z := z) (by omega) (by omega) (by omega)
            refine lo_I (n := 2) (As := [.int (nI q), .int (nI z)]) (rest := []) hx hb hml hown hts hK hN hM9 (OX.at0 hO_24) gL_change_X4_join rfl (by decide +kernel) (by decide) dL_change_257 rfl rfl (Nat.le_of_ble_eq_true rfl) hl.1 (Nat.le_of_ble_eq_true rfl) (Nat.le_of_ble_eq_true rfl) (Nat.le_of_ble_eq_true rfl) (Nat.le_of_ble_eq_true rfl) hP hD hS hA (fun H locs hP hD hS => ?_)
            clear hM9
            have hns2 : (svN ns) ≤ 6 := (svN_le hns).1
            have hL2 : LI (anS (gJ S q (S 2 q ^^^ (1 <<< (nI z &&& 31))))) := LI_join hL (by omega) (by omega) (by omega)
            obtain ⟨f2, hSR2, -, -⟩ := id hL2
            refine lv_iconst (v := 1) hx hb dL_change_260 (by decide) ?_
            refine lv_iload hx hb dL_change_261 (lv_at hl 0 rfl) ?_
            refine lv_isub hx hb dL_change_263 ?_
            refine lv_icmp_ne (tgt := 294) hx hb dL_change_264 (by decide) (fun c_28 => ?_) (fun c_28 => ?_)
            · exact absurd (join_ans hL (by omega) (by omega)) c_28
            · refine lv_aload_n hx hb dL_change_267 rfl (lv_at hl 8 rfl) ?_
              refine lv_iload hx hb dL_change_268 (lv_at hl 2 rfl) ?_
              refine lv_iload hx hb dL_change_270 (lv_at hl 1 rfl) ?_
              obtain ⟨X_29, hO_30, hM9⟩ := o_isJoined (l := l) (D := D) hSR2 hO_27 (q := q) (z := z) (by omega) (by omega)
              refine lo_I (n := 2) (As := [.int (nI q), .int (nI z)]) (rest := []) hx hb hml hown hts hK hN hM9 (OX.at0 hO_27) gL_change_X4_isJoined rfl (by decide +kernel) (by decide) dL_change_272 rfl rfl (Nat.le_of_ble_eq_true rfl) hl.1 (Nat.le_of_ble_eq_true rfl) (Nat.le_of_ble_eq_true rfl) (Nat.le_of_ble_eq_true rfl) (Nat.le_of_ble_eq_true rfl) hP hD hS hA (fun H locs hP hD hS => ?_)
              clear hM9
              refine lv_iconst (v := 1) hx hb dL_change_275 (by decide) ?_
              refine lv_iload hx hb dL_change_276 (lv_at hl 0 rfl) ?_
              refine lv_isub hx hb dL_change_278 ?_
              refine lv_icmp_ne (tgt := 294) hx hb dL_change_279 (by decide) (fun c_31 => ?_) (fun c_31 => ?_)
              · exact absurd ((congrArg (fun v => bitv v (nI _)) (upd_e (S 2) _ _)).trans (join_ans hL (by omega) (by omega))) c_31
              · refine lv_aload_n hx hb dL_change_282 rfl (lv_at hl 8 rfl) ?_
                refine lv_iconst (v := 3) hx hb dL_change_283 (by decide) ?_
                obtain ⟨X_32, hO_33, hM9⟩ := o_count_3 (l := l) (D := D) hSR2 hO_30
                refine lo_I (n := 1) (As := [.int 3]) (rest := []) hx hb hml hown hts hK hN hM9 (OX.at0 hO_30) gL_change_X4_count rfl (by decide +kernel) (by decide) dL_change_284 rfl rfl (Nat.le_of_ble_eq_true rfl) hl.1 (Nat.le_of_ble_eq_true rfl) (Nat.le_of_ble_eq_true rfl) (Nat.le_of_ble_eq_true rfl) (Nat.le_of_ble_eq_true rfl) hP hD hS hA (fun H locs hP hD hS => ?_)
                clear hM9
                refine lv_if_ne (tgt := 294) hx hb dL_change_287 (by decide) (fun c_34 => ?_) (fun c_34 => ?_)
                · exact absurd (rfl) c_34
                · refine lv_iconst (v := 1) hx hb dL_change_290 (by decide) ?_
                  refine lv_goto (tgt := 295) hx hb dL_change_291 (by decide) ?_
                  subst hQ
                  exact rt_zo hx hb hr hlocks hS dL_change_295 (va_PR hP) (va_DR hD) rfl (⟨rfl, _, _, _, hns2, hL2, hO_33⟩)
        · exact absurd c_22 (by decide)
  · have c_5 : q = z := (nI_eq (a := q) (b := z) (by omega) (by omega)).mp c_5
    refine lv_iconst (v := 1) hx hb dL_change_41 (by decide) ?_
    refine lv_goto (tgt := 46) hx hb dL_change_42 (by decide) ?_
    refine lv_istore (lv' := [(8, .int 1), (7, .int (nI nw)), (6, .int (S 7 2)), (5, .int 0), (4, .int (nI z)), (3, .int (nI q)), (0, .ref x0), (1, .int x), (2, .int y)]) hx hb dL_change_46 hl (by decide) rfl (fun ls hl => ?_)
    refine lv_iload_n hx hb dL_change_48 rfl (lv_at hl 5 rfl) ?_
    refine lv_iload hx hb dL_change_49 (lv_at hl 4 rfl) ?_
    refine lv_icmp_ge (tgt := 58) hx hb dL_change_51 (by decide) (fun c_35 => ?_) (fun c_35 => ?_)
    · have c_35 : z ≤ q := (nI_leI (a := z) (b := q) (by omega) (by omega)).mp c_35
      refine lv_iload hx hb dL_change_58 (lv_at hl 4 rfl) ?_
      refine lv_istore (lv' := [(9, .int (nI z)), (8, .int 1), (7, .int (nI nw)), (6, .int (S 7 2)), (5, .int 0), (4, .int (nI z)), (3, .int (nI q)), (0, .ref x0), (1, .int x), (2, .int y)]) hx hb dL_change_60 hl (by decide) rfl (fun ls hl => ?_)
      refine lv_iload_n hx hb dL_change_62 rfl (lv_at hl 6 rfl) ?_
      refine lv_iload hx hb dL_change_63 (lv_at hl 5 rfl) ?_
      refine lv_icmp_ge (tgt := 73) hx hb dL_change_65 (by decide) (fun c_36 => ?_) (fun c_36 => ?_)
      · have c_36 : z ≤ q := (nI_leI (a := z) (b := q) (by omega) (by omega)).mp c_36
        refine lv_iload_n hx hb dL_change_73 rfl (lv_at hl 6 rfl) ?_
        refine lv_istore (lv' := [(10, .int (nI q)), (9, .int (nI z)), (8, .int 1), (7, .int (nI nw)), (6, .int (S 7 2)), (5, .int 0), (4, .int (nI z)), (3, .int (nI q)), (0, .ref x0), (1, .int x), (2, .int y)]) hx hb dL_change_74 hl (by decide) rfl (fun ls hl => ?_)
        refine lv_iload_n hx hb dL_change_76 rfl (lv_at hl 9 rfl) ?_
        refine lv_bipush (v := 16) hx hb dL_change_77 (by decide) ?_
        have hPc : va_P D vwCl ([]) H := hP.sub [] rfl
        have hDc : va_D A ([]) := hD.sub [] (by decide +kernel) rfl
        refine cl_i0 (va_runS (As := [.int x, .int 16]) (rest := []) ⟨hx, hb, hml, hown, hts⟩ (c_L_low_16 l D k x H.size) (va_cwS 2 hts gL_change_L_low rfl rfl rfl (by decide +kernel) ⟨Nat.le_of_ble_eq_true rfl, Nat.le_of_ble_eq_true rfl⟩) ⟨pr_blind, pr_at hN hPc hK hDc⟩ rfl rfl hl.1 rfl (lv_room (Nat.le_of_ble_eq_true rfl)) dL_change_79 ⟨Nat.le_of_ble_eq_true rfl, Nat.le_of_ble_eq_true rfl⟩) hP hD hS hA [] rfl (fun H locs hP hD hS => ?_)
        clear hPc hDc
        refine tp_e (y := 6) (congrArg nI hx16) ?_
        refine lv_tableIn (off := 146) (tgt := 228) hx hb dL_change_82 (by decide) (by decide) rfl (by decide) ?_
        refine lv_iload hx hb dL_change_228 (lv_at hl 2 rfl) ?_
        refine lv_if_eq (tgt := 237) hx hb dL_change_230 (by decide) (fun c_37 => ?_) (fun c_37 => ?_)
        · exact absurd c_37 (by decide)
        · refine lv_iconst (v := 0) hx hb dL_change_233 (by decide) ?_
          refine lv_goto (tgt := 245) hx hb dL_change_234 (by decide) ?_
          refine lv_istore (lv' := [(5, .int 0), (10, .int (nI q)), (9, .int (nI z)), (8, .int 1), (7, .int (nI nw)), (6, .int (S 7 2)), (4, .int (nI z)), (3, .int (nI q)), (0, .ref x0), (1, .int x), (2, .int y)]) hx hb dL_change_245 hl (by decide) rfl (fun ls hl => ?_)
          refine lv_iload hx hb dL_change_247 (lv_at hl 3 rfl) ?_
          refine lv_if_ne (tgt := 290) hx hb dL_change_249 (by decide) (fun c_38 => ?_) (fun c_38 => ?_)
          · refine lv_iconst (v := 1) hx hb dL_change_290 (by decide) ?_
            refine lv_goto (tgt := 295) hx hb dL_change_291 (by decide) ?_
            subst hQ
            exact rt_zo hx hb hr hlocks hS dL_change_295 (va_PR hP) (va_DR hD) rfl (⟨rfl, _, _, _, hns, hL, hO_4⟩)
          · exact absurd c_38 (by decide)
      · have c_36 : ¬ (z ≤ q) := fun h9 => c_36 ((nI_leI (a := z) (b := q) (by omega) (by omega)).mpr h9)
        omega
    · have c_35 : ¬ (z ≤ q) := fun h9 => c_35 ((nI_leI (a := z) (b := q) (by omega) (by omega)).mpr h9)
      exact absurd c_35 (not_not_intro (by omega))

set_option maxHeartbeats 4000000 in
set_option maxRecDepth 100000 in
theorem c_L_change_7 (l : Launch) (D : va_G) (k : Nat → ClassId) (x0 ns : Nat) (S : Nat → Nat → Int32) (Z : Nat → Nat → Nat → Int32) (Y0 : Nat → Nat → Int32) (k0 : Int32) (X : va_W) (x y : Int32) (hns : ns ≤ 6) (hL : LI S) (hO : OX k x0 ns S Z Y0 k0 X) (hx16 : lowN x 16 = 7) : MO l yL_change wsL_change ({ frames := 31, cells := 0, slots := 0, locals := 839 }) D k [.ref x0, .int x, .int y] X (fun r X2 => r = 1 ∧ ∃ ns2 S2 Z2, ns2 ≤ 6 ∧ LI S2 ∧ OX k x0 ns2 S2 Z2 Y0 k0 X2) := by
  intro sz
  refine Met.ofW (cc := cL_change) (maxL := 16) (ret := (some .boolean)) (by decide) rfl ?_
  intro p e s m args below meth c s₁ B hml hv
  obtain ⟨rfl, hN, hsz, hP, hK, hD0⟩ := hv
  have hx := B.exec
  have hb := B.bytes
  have hr := B.returns
  have hts := atoms_spec (ws := wsL_change) B.pre
  have hown : s.vm.findClass RL = some m.cls := findClass_of_methodNamed B.named
  have hlocks := B.notSynchronized
  subst hsz
  have hD := hD0.self (sz := s.heap.size)
  generalize hAe : va_A X s.heap.size = A at hD ⊢
  have hA : ∀ q : Nat, s.heap.size ≤ q → A q := fun q h => by rw [← hAe]; exact Or.inr h
  have hS : va_S A s.heap s.heap [] := va_S.rf
  have hl := lv_entry ([.ref x0, .int x, .int y]) (n := 16) (Nat.le_of_ble_eq_true rfl)
  rw [lg_entry_eq]
  generalize (lg_sl ([.ref x0, .int x, .int y]) ++ List.replicate (16 - (lg_sl ([.ref x0, .int x, .int y])).length) Slot.unset).toArray = ls at hl ⊢
  have hl : lv_has ls 16 [(0, .ref x0), (1, .int x), (2, .int y)] := hl
  obtain ⟨H, hHe⟩ : ∃ H, H = s.heap := ⟨_, rfl⟩
  have hP : va_P D vwCl X H := by rw [hHe]; exact hP
  have hS : va_S A s.heap H [] := by rw [hHe]; exact hS
  rw [← hHe]
  refine absQ (fun Q hQ => ?_)
  obtain ⟨f, hSR, hBR, hEX⟩ := id hL
  obtain ⟨nw, hnw⟩ := hSR.2.2.2
  have hn : S 7 0 = nI nw := hnw.2.1
  have hn2 : nw ≤ 12 := hnw.1
  have hcv := low_lt (y >>> (4 &&& 31)) (n := 200) (by decide)
  have hP : va_P D vwCl ([] ++ (X)) H := hP
  have hD : va_D A ([] ++ (X)) := hD
  refine lv_iload_n hx hb dL_change_0 rfl (lv_at hl 2 rfl) ?_
  refine lv_bipush (v := 9) hx hb dL_change_1 (by decide) ?_
  have hPc : va_P D vwCl ([]) H := hP.sub [] rfl
  have hDc : va_D A ([]) := hD.sub [] (by decide +kernel) rfl
  refine cl_i0 (va_runS (As := [.int y, .int 9]) (rest := []) ⟨hx, hb, hml, hown, hts⟩ (c_L_low_9 l D k y H.size) (va_cwS 2 hts gL_change_L_low rfl rfl rfl (by decide +kernel) ⟨Nat.le_of_ble_eq_true rfl, Nat.le_of_ble_eq_true rfl⟩) ⟨pr_blind, pr_at hN hPc hK hDc⟩ rfl rfl hl.1 rfl (lv_room (Nat.le_of_ble_eq_true rfl)) dL_change_3 ⟨Nat.le_of_ble_eq_true rfl, Nat.le_of_ble_eq_true rfl⟩) hP hD hS hA [] rfl (fun H locs hP hD hS => ?_)
  clear hPc hDc
  obtain ⟨q, hqe⟩ : ∃ q, q = lowN y 9 := ⟨_, rfl⟩
  have hq9 : q < 9 := by rw [hqe]; exact low_lt _ (by decide)
  refine tp_e (y := (nI q)) (by rw [hqe]) ?_
  refine lv_istore_n (lv' := [(3, .int (nI q)), (0, .ref x0), (1, .int x), (2, .int y)]) hx hb dL_change_6 rfl hl (by decide) rfl (fun ls hl => ?_)
  refine lv_iload_n hx hb dL_change_7 rfl (lv_at hl 3 rfl) ?_
  refine lv_iconst (v := 4) hx hb dL_change_8 (by decide) ?_
  refine lv_ishr hx hb dL_change_9 ?_
  refine lv_bipush (v := 9) hx hb dL_change_10 (by decide) ?_
  have hPc : va_P D vwCl ([]) H := hP.sub [] rfl
  have hDc : va_D A ([]) := hD.sub [] (by decide +kernel) rfl
  refine cl_i0 (va_runS (As := [.int (y >>> (4 &&& 31)), .int 9]) (rest := []) ⟨hx, hb, hml, hown, hts⟩ (c_L_low_9 l D k (y >>> (4 &&& 31)) H.size) (va_cwS 2 hts gL_change_L_low rfl rfl rfl (by decide +kernel) ⟨Nat.le_of_ble_eq_true rfl, Nat.le_of_ble_eq_true rfl⟩) ⟨pr_blind, pr_at hN hPc hK hDc⟩ rfl rfl hl.1 rfl (lv_room (Nat.le_of_ble_eq_true rfl)) dL_change_12 ⟨Nat.le_of_ble_eq_true rfl, Nat.le_of_ble_eq_true rfl⟩) hP hD hS hA [] rfl (fun H locs hP hD hS => ?_)
  clear hPc hDc
  obtain ⟨z, hze⟩ : ∃ z, z = lowN (y >>> (4 &&& 31)) 9 := ⟨_, rfl⟩
  have hz9 : z < 9 := by rw [hze]; exact low_lt _ (by decide)
  refine tp_e (y := (nI z)) (by rw [hze]) ?_
  refine lv_istore (lv' := [(4, .int (nI z)), (3, .int (nI q)), (0, .ref x0), (1, .int x), (2, .int y)]) hx hb dL_change_15 hl (by decide) rfl (fun ls hl => ?_)
  refine lv_iconst (v := 0) hx hb dL_change_17 (by decide) ?_
  refine lv_istore (lv' := [(5, .int 0), (4, .int (nI z)), (3, .int (nI q)), (0, .ref x0), (1, .int x), (2, .int y)]) hx hb dL_change_18 hl (by decide) rfl (fun ls hl => ?_)
  refine lv_aload_n hx hb dL_change_20 rfl (lv_at hl 3 rfl) ?_
  refine lv_bipush (v := 10) hx hb dL_change_21 (by decide) ?_
  obtain ⟨X_1, hO_2, hM9⟩ := o_count_10 (l := l) (D := D) hSR hO
  refine lo_I (n := 1) (As := [.int 10]) (rest := []) hx hb hml hown hts hK hN hM9 (OX.at0 hO) gL_change_X4_count rfl (by decide +kernel) (by decide) dL_change_23 rfl rfl (Nat.le_of_ble_eq_true rfl) hl.1 (Nat.le_of_ble_eq_true rfl) (Nat.le_of_ble_eq_true rfl) (Nat.le_of_ble_eq_true rfl) (Nat.le_of_ble_eq_true rfl) hP hD hS hA (fun H locs hP hD hS => ?_)
  clear hM9
  refine lv_istore (lv' := [(6, .int (S 7 2)), (5, .int 0), (4, .int (nI z)), (3, .int (nI q)), (0, .ref x0), (1, .int x), (2, .int y)]) hx hb dL_change_26 hl (by decide) rfl (fun ls hl => ?_)
  refine lv_aload_n hx hb dL_change_28 rfl (lv_at hl 4 rfl) ?_
  refine lv_iconst (v := 3) hx hb dL_change_29 (by decide) ?_
  obtain ⟨X_3, hO_4, hM9⟩ := o_count_3 (l := l) (D := D) hSR hO_2
  refine lo_I (n := 1) (As := [.int 3]) (rest := []) hx hb hml hown hts hK hN hM9 (OX.at0 hO_2) gL_change_X4_count rfl (by decide +kernel) (by decide) dL_change_30 rfl rfl (Nat.le_of_ble_eq_true rfl) hl.1 (Nat.le_of_ble_eq_true rfl) (Nat.le_of_ble_eq_true rfl) (Nat.le_of_ble_eq_true rfl) (Nat.le_of_ble_eq_true rfl) hP hD hS hA (fun H locs hP hD hS => ?_)
  clear hM9
  refine tp_e (y := (nI nw)) hn ?_
  refine lv_istore (lv' := [(7, .int (nI nw)), (6, .int (S 7 2)), (5, .int 0), (4, .int (nI z)), (3, .int (nI q)), (0, .ref x0), (1, .int x), (2, .int y)]) hx hb dL_change_33 hl (by decide) rfl (fun ls hl => ?_)
  refine lv_iload_n hx hb dL_change_35 rfl (lv_at hl 4 rfl) ?_
  refine lv_iload hx hb dL_change_36 (lv_at hl 3 rfl) ?_
  refine lv_icmp_ne (tgt := 45) hx hb dL_change_38 (by decide) (fun c_5 => ?_) (fun c_5 => ?_)
  · have c_5 : ¬ (q = z) := fun h9 => c_5 ((nI_eq (a := q) (b := z) (by omega) (by omega)).mpr h9)
    refine lv_iconst (v := 0) hx hb dL_change_45 (by decide) ?_
    refine lv_istore (lv' := [(8, .int 0), (7, .int (nI nw)), (6, .int (S 7 2)), (5, .int 0), (4, .int (nI z)), (3, .int (nI q)), (0, .ref x0), (1, .int x), (2, .int y)]) hx hb dL_change_46 hl (by decide) rfl (fun ls hl => ?_)
    refine lv_iload_n hx hb dL_change_48 rfl (lv_at hl 5 rfl) ?_
    refine lv_iload hx hb dL_change_49 (lv_at hl 4 rfl) ?_
    refine lv_icmp_ge (tgt := 58) hx hb dL_change_51 (by decide) (fun c_6 => ?_) (fun c_6 => ?_)
    · have c_6 : z ≤ q := (nI_leI (a := z) (b := q) (by omega) (by omega)).mp c_6
      refine lv_iload hx hb dL_change_58 (lv_at hl 4 rfl) ?_
      refine lv_istore (lv' := [(9, .int (nI z)), (8, .int 0), (7, .int (nI nw)), (6, .int (S 7 2)), (5, .int 0), (4, .int (nI z)), (3, .int (nI q)), (0, .ref x0), (1, .int x), (2, .int y)]) hx hb dL_change_60 hl (by decide) rfl (fun ls hl => ?_)
      refine lv_iload_n hx hb dL_change_62 rfl (lv_at hl 6 rfl) ?_
      refine lv_iload hx hb dL_change_63 (lv_at hl 5 rfl) ?_
      refine lv_icmp_ge (tgt := 73) hx hb dL_change_65 (by decide) (fun c_7 => ?_) (fun c_7 => ?_)
      · have c_7 : z ≤ q := (nI_leI (a := z) (b := q) (by omega) (by omega)).mp c_7
        refine lv_iload_n hx hb dL_change_73 rfl (lv_at hl 6 rfl) ?_
        refine lv_istore (lv' := [(10, .int (nI q)), (9, .int (nI z)), (8, .int 0), (7, .int (nI nw)), (6, .int (S 7 2)), (5, .int 0), (4, .int (nI z)), (3, .int (nI q)), (0, .ref x0), (1, .int x), (2, .int y)]) hx hb dL_change_74 hl (by decide) rfl (fun ls hl => ?_)
        refine lv_iload_n hx hb dL_change_76 rfl (lv_at hl 9 rfl) ?_
        refine lv_bipush (v := 16) hx hb dL_change_77 (by decide) ?_
        have hPc : va_P D vwCl ([]) H := hP.sub [] rfl
        have hDc : va_D A ([]) := hD.sub [] (by decide +kernel) rfl
        refine cl_i0 (va_runS (As := [.int x, .int 16]) (rest := []) ⟨hx, hb, hml, hown, hts⟩ (c_L_low_16 l D k x H.size) (va_cwS 2 hts gL_change_L_low rfl rfl rfl (by decide +kernel) ⟨Nat.le_of_ble_eq_true rfl, Nat.le_of_ble_eq_true rfl⟩) ⟨pr_blind, pr_at hN hPc hK hDc⟩ rfl rfl hl.1 rfl (lv_room (Nat.le_of_ble_eq_true rfl)) dL_change_79 ⟨Nat.le_of_ble_eq_true rfl, Nat.le_of_ble_eq_true rfl⟩) hP hD hS hA [] rfl (fun H locs hP hD hS => ?_)
        clear hPc hDc
        refine tp_e (y := 7) (congrArg nI hx16) ?_
        refine lv_tableIn (off := 146) (tgt := 228) hx hb dL_change_82 (by decide) (by decide) rfl (by decide) ?_
        refine lv_iload hx hb dL_change_228 (lv_at hl 2 rfl) ?_
        refine lv_if_eq (tgt := 237) hx hb dL_change_230 (by decide) (fun c_8 => ?_) (fun c_8 => ?_)
        · refine lv_aload_n hx hb dL_change_237 rfl (lv_at hl 8 rfl) ?_
          refine lv_iload hx hb dL_change_238 (lv_at hl 1 rfl) ?_
          refine lv_iload hx hb dL_change_240 (lv_at hl 0 rfl) ?_
          obtain ⟨X_9, hO_10, hM9⟩ := o_isJoined (l := l) (D := D) hSR hO_4 (q := z) (z := q) (by omega) (by omega)
          refine lo_I (n := 2) (As := [.int (nI z), .int (nI q)]) (rest := []) hx hb hml hown hts hK hN hM9 (OX.at0 hO_4) gL_change_X4_isJoined rfl (by decide +kernel) (by decide) dL_change_242 rfl rfl (Nat.le_of_ble_eq_true rfl) hl.1 (Nat.le_of_ble_eq_true rfl) (Nat.le_of_ble_eq_true rfl) (Nat.le_of_ble_eq_true rfl) (Nat.le_of_ble_eq_true rfl) hP hD hS hA (fun H locs hP hD hS => ?_)
          clear hM9
          refine lv_istore (lv' := [(5, .int (bitv (S 2 z) (nI q))), (10, .int (nI q)), (9, .int (nI z)), (8, .int 0), (7, .int (nI nw)), (6, .int (S 7 2)), (4, .int (nI z)), (3, .int (nI q)), (0, .ref x0), (1, .int x), (2, .int y)]) hx hb dL_change_245 hl (by decide) rfl (fun ls hl => ?_)
          refine lv_iload hx hb dL_change_247 (lv_at hl 3 rfl) ?_
          refine lv_if_ne (tgt := 290) hx hb dL_change_249 (by decide) (fun c_11 => ?_) (fun c_11 => ?_)
          · exact absurd c_11 (by decide)
          · refine lv_aload_n hx hb dL_change_252 rfl (lv_at hl 8 rfl) ?_
            refine lv_iload hx hb dL_change_253 (lv_at hl 2 rfl) ?_
            refine lv_iload hx hb dL_change_255 (lv_at hl 1 rfl) ?_
            obtain ⟨X_12, hO_13, hM9⟩ := o_join (l := l) (D := D) hO_10 hns (q := z) (z := q) (by omega) (by omega) (by omega)
            refine lo_I (n := 2) (As := [.int (nI z), .int (nI q)]) (rest := []) hx hb hml hown hts hK hN hM9 (OX.at0 hO_10) gL_change_X4_join rfl (by decide +kernel) (by decide) dL_change_257 rfl rfl (Nat.le_of_ble_eq_true rfl) hl.1 (Nat.le_of_ble_eq_true rfl) (Nat.le_of_ble_eq_true rfl) (Nat.le_of_ble_eq_true rfl) (Nat.le_of_ble_eq_true rfl) hP hD hS hA (fun H locs hP hD hS => ?_)
            clear hM9
            have hns2 : (svN ns) ≤ 6 := (svN_le hns).1
            have hL2 : LI (anS (gJ S z (S 2 z ^^^ (1 <<< (nI q &&& 31))))) := LI_join hL (by omega) (by omega) (by omega)
            obtain ⟨f2, hSR2, -, -⟩ := id hL2
            refine lv_iconst (v := 1) hx hb dL_change_260 (by decide) ?_
            refine lv_iload hx hb dL_change_261 (lv_at hl 0 rfl) ?_
            refine lv_isub hx hb dL_change_263 ?_
            refine lv_icmp_ne (tgt := 294) hx hb dL_change_264 (by decide) (fun c_14 => ?_) (fun c_14 => ?_)
            · exact absurd (join_ans hL (by omega) (by omega)) c_14
            · refine lv_aload_n hx hb dL_change_267 rfl (lv_at hl 8 rfl) ?_
              refine lv_iload hx hb dL_change_268 (lv_at hl 2 rfl) ?_
              refine lv_iload hx hb dL_change_270 (lv_at hl 1 rfl) ?_
              obtain ⟨X_15, hO_16, hM9⟩ := o_isJoined (l := l) (D := D) hSR2 hO_13 (q := z) (z := q) (by omega) (by omega)
              refine lo_I (n := 2) (As := [.int (nI z), .int (nI q)]) (rest := []) hx hb hml hown hts hK hN hM9 (OX.at0 hO_13) gL_change_X4_isJoined rfl (by decide +kernel) (by decide) dL_change_272 rfl rfl (Nat.le_of_ble_eq_true rfl) hl.1 (Nat.le_of_ble_eq_true rfl) (Nat.le_of_ble_eq_true rfl) (Nat.le_of_ble_eq_true rfl) (Nat.le_of_ble_eq_true rfl) hP hD hS hA (fun H locs hP hD hS => ?_)
              clear hM9
              refine lv_iconst (v := 1) hx hb dL_change_275 (by decide) ?_
              refine lv_iload hx hb dL_change_276 (lv_at hl 0 rfl) ?_
              refine lv_isub hx hb dL_change_278 ?_
              refine lv_icmp_ne (tgt := 294) hx hb dL_change_279 (by decide) (fun c_17 => ?_) (fun c_17 => ?_)
              · exact absurd ((congrArg (fun v => bitv v (nI _)) (upd_e (S 2) _ _)).trans (join_ans hL (by omega) (by omega))) c_17
              · refine lv_aload_n hx hb dL_change_282 rfl (lv_at hl 8 rfl) ?_
                refine lv_iconst (v := 3) hx hb dL_change_283 (by decide) ?_
                obtain ⟨X_18, hO_19, hM9⟩ := o_count_3 (l := l) (D := D) hSR2 hO_16
                refine lo_I (n := 1) (As := [.int 3]) (rest := []) hx hb hml hown hts hK hN hM9 (OX.at0 hO_16) gL_change_X4_count rfl (by decide +kernel) (by decide) dL_change_284 rfl rfl (Nat.le_of_ble_eq_true rfl) hl.1 (Nat.le_of_ble_eq_true rfl) (Nat.le_of_ble_eq_true rfl) (Nat.le_of_ble_eq_true rfl) (Nat.le_of_ble_eq_true rfl) hP hD hS hA (fun H locs hP hD hS => ?_)
                clear hM9
                refine lv_if_ne (tgt := 294) hx hb dL_change_287 (by decide) (fun c_20 => ?_) (fun c_20 => ?_)
                · exact absurd (rfl) c_20
                · refine lv_iconst (v := 1) hx hb dL_change_290 (by decide) ?_
                  refine lv_goto (tgt := 295) hx hb dL_change_291 (by decide) ?_
                  subst hQ
                  exact rt_zo hx hb hr hlocks hS dL_change_295 (va_PR hP) (va_DR hD) rfl (⟨rfl, _, _, _, hns2, hL2, hO_19⟩)
        · exact absurd c_8 (by decide)
      · have c_7 : ¬ (z ≤ q) := fun h9 => c_7 ((nI_leI (a := z) (b := q) (by omega) (by omega)).mpr h9)
        omega
    · have c_6 : ¬ (z ≤ q) := fun h9 => c_6 ((nI_leI (a := z) (b := q) (by omega) (by omega)).mpr h9)
      refine lv_iload_n hx hb dL_change_54 rfl (lv_at hl 5 rfl) ?_
      refine lv_goto (tgt := 60) hx hb dL_change_55 (by decide) ?_
      refine lv_istore (lv' := [(9, .int (nI q)), (8, .int 0), (7, .int (nI nw)), (6, .int (S 7 2)), (5, .int 0), (4, .int (nI z)), (3, .int (nI q)), (0, .ref x0), (1, .int x), (2, .int y)]) hx hb dL_change_60 hl (by decide) rfl (fun ls hl => ?_)
      refine lv_iload_n hx hb dL_change_62 rfl (lv_at hl 6 rfl) ?_
      refine lv_iload hx hb dL_change_63 (lv_at hl 5 rfl) ?_
      refine lv_icmp_ge (tgt := 73) hx hb dL_change_65 (by decide) (fun c_21 => ?_) (fun c_21 => ?_)
      · have c_21 : z ≤ q := (nI_leI (a := z) (b := q) (by omega) (by omega)).mp c_21
        omega
      · have c_21 : ¬ (z ≤ q) := fun h9 => c_21 ((nI_leI (a := z) (b := q) (by omega) (by omega)).mpr h9)
        refine lv_iload hx hb dL_change_68 (lv_at hl 5 rfl) ?_
        refine lv_goto (tgt := 74) hx hb dL_change_70 (by decide) ?_
        refine lv_istore (lv' := [(10, .int (nI z)), (9, .int (nI q)), (8, .int 0), (7, .int (nI nw)), (6, .int (S 7 2)), (5, .int 0), (4, .int (nI z)), (3, .int (nI q)), (0, .ref x0), (1, .int x), (2, .int y)]) hx hb dL_change_74 hl (by decide) rfl (fun ls hl => ?_)
        refine lv_iload_n hx hb dL_change_76 rfl (lv_at hl 9 rfl) ?_
        refine lv_bipush (v := 16) hx hb dL_change_77 (by decide) ?_
        have hPc : va_P D vwCl ([]) H := hP.sub [] rfl
        have hDc : va_D A ([]) := hD.sub [] (by decide +kernel) rfl
        refine cl_i0 (va_runS (As := [.int x, .int 16]) (rest := []) ⟨hx, hb, hml, hown, hts⟩ (c_L_low_16 l D k x H.size) (va_cwS 2 hts gL_change_L_low rfl rfl rfl (by decide +kernel) ⟨Nat.le_of_ble_eq_true rfl, Nat.le_of_ble_eq_true rfl⟩) ⟨pr_blind, pr_at hN hPc hK hDc⟩ rfl rfl hl.1 rfl (lv_room (Nat.le_of_ble_eq_true rfl)) dL_change_79 ⟨Nat.le_of_ble_eq_true rfl, Nat.le_of_ble_eq_true rfl⟩) hP hD hS hA [] rfl (fun H locs hP hD hS => ?_)
        clear hPc hDc
        refine tp_e (y := 7) (congrArg nI hx16) ?_
        refine lv_tableIn (off := 146) (tgt := 228) hx hb dL_change_82 (by decide) (by decide) rfl (by decide) ?_
        refine lv_iload hx hb dL_change_228 (lv_at hl 2 rfl) ?_
        refine lv_if_eq (tgt := 237) hx hb dL_change_230 (by decide) (fun c_22 => ?_) (fun c_22 => ?_)
        · refine lv_aload_n hx hb dL_change_237 rfl (lv_at hl 8 rfl) ?_
          refine lv_iload hx hb dL_change_238 (lv_at hl 1 rfl) ?_
          refine lv_iload hx hb dL_change_240 (lv_at hl 0 rfl) ?_
          obtain ⟨X_23, hO_24, hM9⟩ := o_isJoined (l := l) (D := D) hSR hO_4 (q := q) (z := z) (by omega) (by omega)
          refine lo_I (n := 2) (As := [.int (nI q), .int (nI z)]) (rest := []) hx hb hml hown hts hK hN hM9 (OX.at0 hO_4) gL_change_X4_isJoined rfl (by decide +kernel) (by decide) dL_change_242 rfl rfl (Nat.le_of_ble_eq_true rfl) hl.1 (Nat.le_of_ble_eq_true rfl) (Nat.le_of_ble_eq_true rfl) (Nat.le_of_ble_eq_true rfl) (Nat.le_of_ble_eq_true rfl) hP hD hS hA (fun H locs hP hD hS => ?_)
          clear hM9
          refine lv_istore (lv' := [(5, .int (bitv (S 2 q) (nI z))), (10, .int (nI z)), (9, .int (nI q)), (8, .int 0), (7, .int (nI nw)), (6, .int (S 7 2)), (4, .int (nI z)), (3, .int (nI q)), (0, .ref x0), (1, .int x), (2, .int y)]) hx hb dL_change_245 hl (by decide) rfl (fun ls hl => ?_)
          refine lv_iload hx hb dL_change_247 (lv_at hl 3 rfl) ?_
          refine lv_if_ne (tgt := 290) hx hb dL_change_249 (by decide) (fun c_25 => ?_) (fun c_25 => ?_)
          · exact absurd c_25 (by decide)
          · refine lv_aload_n hx hb dL_change_252 rfl (lv_at hl 8 rfl) ?_
            refine lv_iload hx hb dL_change_253 (lv_at hl 2 rfl) ?_
            refine lv_iload hx hb dL_change_255 (lv_at hl 1 rfl) ?_
            obtain ⟨X_26, hO_27, hM9⟩ := o_join (l := l) (D := D) hO_24 hns (q := q) (z := z) (by omega) (by omega) (by omega)
            refine lo_I (n := 2) (As := [.int (nI q), .int (nI z)]) (rest := []) hx hb hml hown hts hK hN hM9 (OX.at0 hO_24) gL_change_X4_join rfl (by decide +kernel) (by decide) dL_change_257 rfl rfl (Nat.le_of_ble_eq_true rfl) hl.1 (Nat.le_of_ble_eq_true rfl) (Nat.le_of_ble_eq_true rfl) (Nat.le_of_ble_eq_true rfl) (Nat.le_of_ble_eq_true rfl) hP hD hS hA (fun H locs hP hD hS => ?_)
            clear hM9
            have hns2 : (svN ns) ≤ 6 := (svN_le hns).1
            have hL2 : LI (anS (gJ S q (S 2 q ^^^ (1 <<< (nI z &&& 31))))) := LI_join hL (by omega) (by omega) (by omega)
            obtain ⟨f2, hSR2, -, -⟩ := id hL2
            refine lv_iconst (v := 1) hx hb dL_change_260 (by decide) ?_
            refine lv_iload hx hb dL_change_261 (lv_at hl 0 rfl) ?_
            refine lv_isub hx hb dL_change_263 ?_
            refine lv_icmp_ne (tgt := 294) hx hb dL_change_264 (by decide) (fun c_28 => ?_) (fun c_28 => ?_)
            · exact absurd (join_ans hL (by omega) (by omega)) c_28
            · refine lv_aload_n hx hb dL_change_267 rfl (lv_at hl 8 rfl) ?_
              refine lv_iload hx hb dL_change_268 (lv_at hl 2 rfl) ?_
              refine lv_iload hx hb dL_change_270 (lv_at hl 1 rfl) ?_
              obtain ⟨X_29, hO_30, hM9⟩ := o_isJoined (l := l) (D := D) hSR2 hO_27 (q := q) (z := z) (by omega) (by omega)
              refine lo_I (n := 2) (As := [.int (nI q), .int (nI z)]) (rest := []) hx hb hml hown hts hK hN hM9 (OX.at0 hO_27) gL_change_X4_isJoined rfl (by decide +kernel) (by decide) dL_change_272 rfl rfl (Nat.le_of_ble_eq_true rfl) hl.1 (Nat.le_of_ble_eq_true rfl) (Nat.le_of_ble_eq_true rfl) (Nat.le_of_ble_eq_true rfl) (Nat.le_of_ble_eq_true rfl) hP hD hS hA (fun H locs hP hD hS => ?_)
              clear hM9
              refine lv_iconst (v := 1) hx hb dL_change_275 (by decide) ?_
              refine lv_iload hx hb dL_change_276 (lv_at hl 0 rfl) ?_
              refine lv_isub hx hb dL_change_278 ?_
              refine lv_icmp_ne (tgt := 294) hx hb dL_change_279 (by decide) (fun c_31 => ?_) (fun c_31 => ?_)
              · exact absurd ((congrArg (fun v => bitv v (nI _)) (upd_e (S 2) _ _)).trans (join_ans hL (by omega) (by omega))) c_31
              · refine lv_aload_n hx hb dL_change_282 rfl (lv_at hl 8 rfl) ?_
                refine lv_iconst (v := 3) hx hb dL_change_283 (by decide) ?_
                obtain ⟨X_32, hO_33, hM9⟩ := o_count_3 (l := l) (D := D) hSR2 hO_30
                refine lo_I (n := 1) (As := [.int 3]) (rest := []) hx hb hml hown hts hK hN hM9 (OX.at0 hO_30) gL_change_X4_count rfl (by decide +kernel) (by decide) dL_change_284 rfl rfl (Nat.le_of_ble_eq_true rfl) hl.1 (Nat.le_of_ble_eq_true rfl) (Nat.le_of_ble_eq_true rfl) (Nat.le_of_ble_eq_true rfl) (Nat.le_of_ble_eq_true rfl) hP hD hS hA (fun H locs hP hD hS => ?_)
                clear hM9
                refine lv_if_ne (tgt := 294) hx hb dL_change_287 (by decide) (fun c_34 => ?_) (fun c_34 => ?_)
                · exact absurd (rfl) c_34
                · refine lv_iconst (v := 1) hx hb dL_change_290 (by decide) ?_
                  refine lv_goto (tgt := 295) hx hb dL_change_291 (by decide) ?_
                  subst hQ
                  exact rt_zo hx hb hr hlocks hS dL_change_295 (va_PR hP) (va_DR hD) rfl (⟨rfl, _, _, _, hns2, hL2, hO_33⟩)
        · exact absurd c_22 (by decide)
  · have c_5 : q = z := (nI_eq (a := q) (b := z) (by omega) (by omega)).mp c_5
    refine lv_iconst (v := 1) hx hb dL_change_41 (by decide) ?_
    refine lv_goto (tgt := 46) hx hb dL_change_42 (by decide) ?_
    refine lv_istore (lv' := [(8, .int 1), (7, .int (nI nw)), (6, .int (S 7 2)), (5, .int 0), (4, .int (nI z)), (3, .int (nI q)), (0, .ref x0), (1, .int x), (2, .int y)]) hx hb dL_change_46 hl (by decide) rfl (fun ls hl => ?_)
    refine lv_iload_n hx hb dL_change_48 rfl (lv_at hl 5 rfl) ?_
    refine lv_iload hx hb dL_change_49 (lv_at hl 4 rfl) ?_
    refine lv_icmp_ge (tgt := 58) hx hb dL_change_51 (by decide) (fun c_35 => ?_) (fun c_35 => ?_)
    · have c_35 : z ≤ q := (nI_leI (a := z) (b := q) (by omega) (by omega)).mp c_35
      refine lv_iload hx hb dL_change_58 (lv_at hl 4 rfl) ?_
      refine lv_istore (lv' := [(9, .int (nI z)), (8, .int 1), (7, .int (nI nw)), (6, .int (S 7 2)), (5, .int 0), (4, .int (nI z)), (3, .int (nI q)), (0, .ref x0), (1, .int x), (2, .int y)]) hx hb dL_change_60 hl (by decide) rfl (fun ls hl => ?_)
      refine lv_iload_n hx hb dL_change_62 rfl (lv_at hl 6 rfl) ?_
      refine lv_iload hx hb dL_change_63 (lv_at hl 5 rfl) ?_
      refine lv_icmp_ge (tgt := 73) hx hb dL_change_65 (by decide) (fun c_36 => ?_) (fun c_36 => ?_)
      · have c_36 : z ≤ q := (nI_leI (a := z) (b := q) (by omega) (by omega)).mp c_36
        refine lv_iload_n hx hb dL_change_73 rfl (lv_at hl 6 rfl) ?_
        refine lv_istore (lv' := [(10, .int (nI q)), (9, .int (nI z)), (8, .int 1), (7, .int (nI nw)), (6, .int (S 7 2)), (5, .int 0), (4, .int (nI z)), (3, .int (nI q)), (0, .ref x0), (1, .int x), (2, .int y)]) hx hb dL_change_74 hl (by decide) rfl (fun ls hl => ?_)
        refine lv_iload_n hx hb dL_change_76 rfl (lv_at hl 9 rfl) ?_
        refine lv_bipush (v := 16) hx hb dL_change_77 (by decide) ?_
        have hPc : va_P D vwCl ([]) H := hP.sub [] rfl
        have hDc : va_D A ([]) := hD.sub [] (by decide +kernel) rfl
        refine cl_i0 (va_runS (As := [.int x, .int 16]) (rest := []) ⟨hx, hb, hml, hown, hts⟩ (c_L_low_16 l D k x H.size) (va_cwS 2 hts gL_change_L_low rfl rfl rfl (by decide +kernel) ⟨Nat.le_of_ble_eq_true rfl, Nat.le_of_ble_eq_true rfl⟩) ⟨pr_blind, pr_at hN hPc hK hDc⟩ rfl rfl hl.1 rfl (lv_room (Nat.le_of_ble_eq_true rfl)) dL_change_79 ⟨Nat.le_of_ble_eq_true rfl, Nat.le_of_ble_eq_true rfl⟩) hP hD hS hA [] rfl (fun H locs hP hD hS => ?_)
        clear hPc hDc
        refine tp_e (y := 7) (congrArg nI hx16) ?_
        refine lv_tableIn (off := 146) (tgt := 228) hx hb dL_change_82 (by decide) (by decide) rfl (by decide) ?_
        refine lv_iload hx hb dL_change_228 (lv_at hl 2 rfl) ?_
        refine lv_if_eq (tgt := 237) hx hb dL_change_230 (by decide) (fun c_37 => ?_) (fun c_37 => ?_)
        · exact absurd c_37 (by decide)
        · refine lv_iconst (v := 0) hx hb dL_change_233 (by decide) ?_
          refine lv_goto (tgt := 245) hx hb dL_change_234 (by decide) ?_
          refine lv_istore (lv' := [(5, .int 0), (10, .int (nI q)), (9, .int (nI z)), (8, .int 1), (7, .int (nI nw)), (6, .int (S 7 2)), (4, .int (nI z)), (3, .int (nI q)), (0, .ref x0), (1, .int x), (2, .int y)]) hx hb dL_change_245 hl (by decide) rfl (fun ls hl => ?_)
          refine lv_iload hx hb dL_change_247 (lv_at hl 3 rfl) ?_
          refine lv_if_ne (tgt := 290) hx hb dL_change_249 (by decide) (fun c_38 => ?_) (fun c_38 => ?_)
          · refine lv_iconst (v := 1) hx hb dL_change_290 (by decide) ?_
            refine lv_goto (tgt := 295) hx hb dL_change_291 (by decide) ?_
            subst hQ
            exact rt_zo hx hb hr hlocks hS dL_change_295 (va_PR hP) (va_DR hD) rfl (⟨rfl, _, _, _, hns, hL, hO_4⟩)
          · exact absurd c_38 (by decide)
      · have c_36 : ¬ (z ≤ q) := fun h9 => c_36 ((nI_leI (a := z) (b := q) (by omega) (by omega)).mpr h9)
        omega
    · have c_35 : ¬ (z ≤ q) := fun h9 => c_35 ((nI_leI (a := z) (b := q) (by omega) (by omega)).mpr h9)
      exact absurd c_35 (not_not_intro (by omega))
