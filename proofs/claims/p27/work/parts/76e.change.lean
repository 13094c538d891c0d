set_option maxHeartbeats 4000000 in
set_option maxRecDepth 100000 in
theorem c_L_change_14 (l : Launch) (D : va_G) (k : Nat → ClassId) (x0 ns : Nat) (S : Nat → Nat → Int32) (Z : Nat → Nat → Nat → Int32) (Y0 : Nat → Nat → Int32) (k0 : Int32) (X : va_W) (x y : Int32) (hns : ns ≤ 6) (hL : LI S) (hO : OX k x0 ns S Z Y0 k0 X) (hx16 : lowN x 16 = 14) : MO l yL_change wsL_change ({ frames := 31, cells := 0, slots := 0, locals := 839 }) D k [.ref x0, .int x, .int y] X (fun r X2 => r = 1 ∧ ∃ ns2 S2 Z2, ns2 ≤ 6 ∧ LI S2 ∧ OX k x0 ns2 S2 Z2 Y0 k0 X2) := by
  intro sz
  refine Met.ofW (cc := cL_change) (maxL := 16) (ret := (some .boolean)) (by decide) rfl ?_
  intro p e s m args below meth c s₁ B hml hv
  obtain ⟨rfl, hN, hsz, hP, hK, hD0⟩ := hv
  have hx := B.exec
  have hb := B.bytes
  have hr := B.returns
  have hts := atoms_spec (ws := wsL_change) B.pre
  have hown : s.vm.findClass RL = some m.cls := findClass_of_methodNamed B.named
  have hlocks := B.notSynchronized
  subst hsz
  have hD := hD0.self (sz := s.heap.size)
  generalize hAe : va_A X s.heap.size = A at hD ⊢
  have hA : ∀ q : Nat, s.heap.size ≤ q → A q := fun q h => by rw [← hAe]; exact Or.inr h
  have hS : va_S A s.heap s.heap [] := va_S.rf
  have hl := lv_entry ([.ref x0, .int x, .int y]) (n := 16) (Nat.le_of_ble_eq_true rfl)
  rw [lg_entry_eq]
  generalize (lg_sl ([.ref x0, .int x, .int y]) ++ List.replicate (16 - (lg_sl ([.ref x0, .int x, .int y])).length) Slot.unset).toArray = ls at hl ⊢
  have hl : lv_has ls 16 [(0, .ref x0), (1, .int x), (2, .int y)] := hl
  obtain ⟨H, hHe⟩ : ∃ H, H = s.heap := ⟨_, rfl⟩
  have hP : va_P D vwCl X H := by rw [hHe]; exact hP
  have hS : va_S A s.heap H [] := by rw [hHe]; exact hS
  rw [← hHe]
  refine absQ (fun Q hQ => ?_)
  obtain ⟨f, hSR, hBR, hEX⟩ := id hL
  obtain ⟨nw, hnw⟩ := hSR.2.2.2
  have hn : S 7 0 = nI nw := hnw.2.1
  have hn2 : nw ≤ 12 := hnw.1
  have hcv := low_lt (y >>> (4 &&& 31)) (n := 200) (by decide)
  have hP : va_P D vwCl ([] ++ (X)) H := hP
  have hD : va_D A ([] ++ (X)) := hD
  refine lv_iload_n hx hb dL_change_0 rfl (lv_at hl 2 rfl) ?_
  refine lv_bipush (v := 9) hx hb dL_change_1 (by decide) ?_
  have hPc : va_P D vwCl ([]) H := hP.sub [] rfl
  have hDc : va_D A ([]) := hD.sub [] (by decide +kernel) rfl
  refine cl_i0 (va_runS (As := [.int y, .int 9]) (rest := []) ⟨hx, hb, hml, hown, hts⟩ (c_L_low_9 l D k y H.size) (va_cwS 2 hts gL_change_L_low rfl rfl rfl (by decide +kernel) ⟨Nat.le_of_ble_eq_true rfl, Nat.le_of_ble_eq_true rfl⟩) ⟨pr_blind, pr_at hN hPc hK hDc⟩ rfl rfl hl.1 rfl (lv_room (Nat.le_of_ble_eq_true rfl)) dL_change_3 ⟨Nat.le_of_ble_eq_true rfl, Nat.le_of_ble_eq_true rfl⟩) hP hD hS hA [] rfl (fun H locs hP hD hS => ?_)
  clear hPc hDc
  obtain ⟨q, hqe⟩ : ∃ q, q = lowN y 9 := ⟨_, rfl⟩
  have hq9 : q < 9 := by rw [hqe]; exact low_lt _ (by decide)
  refine tp_e (y := (nI q)) (by rw [hqe]) ?_
  refine lv_istore_n (lv' := [(3, .int (nI q)), (0, .ref x0), (1, .int x), (2, .int y)]) hx hb dL_change_6 rfl hl (by decide) rfl (fun ls hl => ?_)
  refine lv_iload_n hx hb dL_change_7 rfl (lv_at hl 3 rfl) ?_
  refine lv_iconst (v := 4) hx hb dL_change_8 (by decide) ?_
  refine lv_ishr hx hb dL_change_9 ?_
  refine lv_bipush (v := 9) hx hb dL_change_10 (by decide) ?_
  have hPc : va_P D vwCl ([]) H := hP.sub [] rfl
  have hDc : va_D A ([]) := hD.sub [] (by decide +kernel) rfl
  refine cl_i0 (va_runS (As := [.int (y >>> (4 &&& 31)), .int 9]) (rest := []) ⟨hx, hb, hml, hown, hts⟩ (c_L_low_9 l D k (y >>> (4 &&& 31)) H.size) (va_cwS 2 hts gL_change_L_low rfl rfl rfl (by decide +kernel) ⟨Nat.le_of_ble_eq_true rfl, Nat.le_of_ble_eq_true rfl⟩) ⟨pr_blind, pr_at hN hPc hK hDc⟩ rfl rfl hl.1 rfl (lv_room (Nat.le_of_ble_eq_true rfl)) dL_change_12 ⟨Nat.le_of_ble_eq_true rfl, Nat.le_of_ble_eq_true rfl⟩) hP hD hS hA [] rfl (fun H locs hP hD hS => ?_)
  clear hPc hDc
  obtain ⟨z, hze⟩ : ∃ z, z = lowN (y >>> (4 &&& 31)) 9 := ⟨_, rfl⟩
  have hz9 : z < 9 := by rw [hze]; exact low_lt _ (by decide)
  refine tp_e (y := (nI z)) (by rw [hze]) ?_
  refine lv_istore (lv' := [(4, .int (nI z)), (3, .int (nI q)), (0, .ref x0), (1, .int x), (2, .int y)]) hx hb dL_change_15 hl (by decide) rfl (fun ls hl => ?_)
  refine lv_iconst (v := 0) hx hb dL_change_17 (by decide) ?_
  refine lv_istore (lv' := [(5, .int 0), (4, .int (nI z)), (3, .int (nI q)), (0, .ref x0), (1, .int x), (2, .int y)]) hx hb dL_change_18 hl (by decide) rfl (fun ls hl => ?_)
  refine lv_aload_n hx hb dL_change_20 rfl (lv_at hl 3 rfl) ?_
  refine lv_bipush (v := 10) hx hb dL_change_21 (by decide) ?_
  obtain ⟨X_1, hO_2, hM9⟩ := o_count_10 (l := l) (D := D) hSR hO
  refine lo_I (n := 1) (As := [.int 10]) (rest := []) hx hb hml hown hts hK hN hM9 (OX.at0 hO) gL_change_X4_count rfl (by decide +kernel) (by decide) dL_change_23 rfl rfl (Nat.le_of_ble_eq_true rfl) hl.1 (Nat.le_of_ble_eq_true rfl) (Nat.le_of_ble_eq_true rfl) (Nat.le_of_ble_eq_true rfl) (Nat.le_of_ble_eq_true rfl) hP hD hS hA (fun H locs hP hD hS => ?_)
  clear hM9
  refine lv_istore (lv' := [(6, .int (S 7 2)), (5, .int 0), (4, .int (nI z)), (3, .int (nI q)), (0, .ref x0), (1, .int x), (2, .int y)]) hx hb dL_change_26 hl (by decide) rfl (fun ls hl => ?_)
  refine lv_aload_n hx hb dL_change_28 rfl (lv_at hl 4 rfl) ?_
  refine lv_iconst (v := 3) hx hb dL_change_29 (by decide) ?_
  obtain ⟨X_3, hO_4, hM9⟩ := o_count_3 (l := l) (D := D) hSR hO_2
  refine lo_I (n := 1) (As := [.int 3]) (rest := []) hx hb hml hown hts hK hN hM9 (OX.at0 hO_2) gL_change_X4_count rfl (by decide +kernel) (by decide) dL_change_30 rfl rfl (Nat.le_of_ble_eq_true rfl) hl.1 (Nat.le_of_ble_eq_true rfl) (Nat.le_of_ble_eq_true rfl) (Nat.le_of_ble_eq_true rfl) (Nat.le_of_ble_eq_true rfl) hP hD hS hA (fun H locs hP hD hS => ?_)
  clear hM9
  refine tp_e (y := (nI nw)) hn ?_
  refine lv_istore (lv' := [(7, .int (nI nw)), (6, .int (S 7 2)), (5, .int 0), (4, .int (nI z)), (3, .int (nI q)), (0, .ref x0), (1, .int x), (2, .int y)]) hx hb dL_change_33 hl (by decide) rfl (fun ls hl => ?_)
  refine lv_iload_n hx hb dL_change_35 rfl (lv_at hl 4 rfl) ?_
  refine lv_iload hx hb dL_change_36 (lv_at hl 3 rfl) ?_
  refine lv_icmp_ne (tgt := 45) hx hb dL_change_38 (by decide) (fun c_5 => ?_) (fun c_5 => ?_)
  · have c_5 : ¬ (q = z) := fun h9 => c_5 ((nI_eq (a := q) (b := z) (by omega) (by omega)).mpr h9)
    refine lv_iconst (v := 0) hx hb dL_change_45 (by decide) ?_
    refine lv_istore (lv' := [(8, .int 0), (7, .int (nI nw)), (6, .int (S 7 2)), (5, .int 0), (4, .int (nI z)), (3, .int (nI q)), (0, .ref x0), (1, .int x), (2, .int y)]) hx hb dL_change_46 hl (by decide) rfl (fun ls hl => ?_)
    refine lv_iload_n hx hb dL_change_48 rfl (lv_at hl 5 rfl) ?_
    refine lv_iload hx hb dL_change_49 (lv_at hl 4 rfl) ?_
    refine lv_icmp_ge (tgt := 58) hx hb dL_change_51 (by decide) (fun c_6 => ?_) (fun c_6 => ?_)
    · have c_6 : z ≤ q := (nI_leI (a := z) (b := q) (by omega) (by omega)).mp c_6
      refine lv_iload hx hb dL_change_58 (lv_at hl 4 rfl) ?_
      refine lv_istore (lv' := [(9, .int (nI z)), (8, .int 0), (7, .int (nI nw)), (6, .int (S 7 2)), (5, .int 0), (4, .int (nI z)), (3, .int (nI q)), (0, .ref x0), (1, .int x), (2, .int y)]) hx hb dL_change_60 hl (by decide) rfl (fun ls hl => ?_)
      refine lv_iload_n hx hb dL_change_62 rfl (lv_at hl 6 rfl) ?_
      refine lv_iload hx hb dL_change_63 (lv_at hl 5 rfl) ?_
      refine lv_icmp_ge (tgt := 73) hx hb dL_change_65 (by decide) (fun c_7 => ?_) (fun c_7 => ?_)
      · have c_7 : z ≤ q := (nI_leI (a := z) (b := q) (by omega) (by omega)).mp c_7
        refine lv_iload_n hx hb dL_change_73 rfl (lv_at hl 6 rfl) ?_
        refine lv_istore (lv' := [(10, .int (nI q)), (9, .int (nI z)), (8, .int 0), (7, .int (nI nw)), (6, .int (S 7 2)), (5, .int 0), (4, .int (nI z)), (3, .int (nI q)), (0, .ref x0), (1, .int x), (2, .int y)]) hx hb dL_change_74 hl (by decide) rfl (fun ls hl => ?_)
        refine lv_iload_n hx hb dL_change_76 rfl (lv_at hl 9 rfl) ?_
        refine lv_bipush (v := 16) hx hb dL_change_77 (by decide) ?_
        have hPc : va_P D vwCl ([]) H := hP.sub [] rfl
        have hDc : va_D A ([]) := hD.sub [] (by decide +kernel) rfl
        refine cl_i0 (va_runS (As := [.int x, .int 16]) (rest := []) ⟨hx, hb, hml, hown, hts⟩ (c_L_low_16 l D k x H.size) (va_cwS 2 hts gL_change_L_low rfl rfl rfl (by decide +kernel) ⟨Nat.le_of_ble_eq_true rfl, Nat.le_of_ble_eq_true rfl⟩) ⟨pr_blind, pr_at hN hPc hK hDc⟩ rfl rfl hl.1 rfl (lv_room (Nat.le_of_ble_eq_true rfl)) dL_change_79 ⟨Nat.le_of_ble_eq_true rfl, Nat.le_of_ble_eq_true rfl⟩) hP hD hS hA [] rfl (fun H locs hP hD hS => ?_)
        clear hPc hDc
        refine tp_e (y := 14) (congrArg nI hx16) ?_
        refine lv_tableIn (off := 489) (tgt := 571) hx hb dL_change_82 (by decide) (by decide) rfl (by decide) ?_
        obtain ⟨nv, t1, t2, t3, t4, t5, t6, t7, t8⟩ := ta_all 13 0 S nw hL hn hn2 (by omega)
        refine lv_aload_n hx hb dL_change_571 rfl (lv_at hl 8 rfl) ?_
        obtain ⟨X_8, hO_9, hM9⟩ := o_ifSplit (l := l) (D := D) hSR hO_4 (nw := nw) hn hn2
        refine lo_I (n := 0) (As := []) (rest := []) hx hb hml hown hts hK hN hM9 (OX.at0 hO_4) gL_change_X4_ifSplit rfl (by decide +kernel) (by decide) dL_change_572 rfl rfl (Nat.le_of_ble_eq_true rfl) hl.1 (Nat.le_of_ble_eq_true rfl) (Nat.le_of_ble_eq_true rfl) (Nat.le_of_ble_eq_true rfl) (Nat.le_of_ble_eq_true rfl) hP hD hS hA (fun H locs hP hD hS => ?_)
        clear hM9
        refine lv_istore (lv' := [(14, .int (smF ((taL (opnL S) 13 0 S).2 4) 9)), (10, .int (nI q)), (9, .int (nI z)), (8, .int 0), (7, .int (nI nw)), (6, .int (S 7 2)), (5, .int 0), (4, .int (nI z)), (3, .int (nI q)), (0, .ref x0), (1, .int x), (2, .int y)]) hx hb dL_change_575 hl (by decide) rfl (fun ls hl => ?_)
        refine lv_aload_n hx hb dL_change_577 rfl (lv_at hl 9 rfl) ?_
        obtain ⟨X_10, hO_11, hM9⟩ := o_split (l := l) (D := D) hSR hO_9 hns (nw := nw) hn hn2
        refine lo_I (n := 0) (As := []) (rest := []) hx hb hml hown hts hK hN hM9 (OX.at0 hO_9) gL_change_X4_split rfl (by decide +kernel) (by decide) dL_change_578 rfl rfl (Nat.le_of_ble_eq_true rfl) hl.1 (Nat.le_of_ble_eq_true rfl) (Nat.le_of_ble_eq_true rfl) (Nat.le_of_ble_eq_true rfl) (Nat.le_of_ble_eq_true rfl) hP hD hS hA (fun H locs hP hD hS => ?_)
        clear hM9
        have hns2 : (svN ns) ≤ 6 := (svN_le hns).1
        have hL2 : LI ((taL (opnL S) 13 0 S).2) := t8
        obtain ⟨f2, hSR2, -, -⟩ := id hL2
        refine lv_istore (lv' := [(15, .int (nI (taL (opnL S) 13 0 S).1)), (14, .int (smF ((taL (opnL S) 13 0 S).2 4) 9)), (10, .int (nI q)), (9, .int (nI z)), (8, .int 0), (7, .int (nI nw)), (6, .int (S 7 2)), (5, .int 0), (4, .int (nI z)), (3, .int (nI q)), (0, .ref x0), (1, .int x), (2, .int y)]) hx hb dL_change_581 hl (by decide) rfl (fun ls hl => ?_)
        refine lv_iload hx hb dL_change_583 (lv_at hl 0 rfl) ?_
        refine lv_aload_n hx hb dL_change_585 rfl (lv_at hl 10 rfl) ?_
        refine lv_iconst (v := 3) hx hb dL_change_586 (by decide) ?_
        obtain ⟨X_12, hO_13, hM9⟩ := o_count_3 (l := l) (D := D) hSR2 hO_11
        refine lo_I (n := 1) (As := [.int 3]) (rest := [.int (nI (taL (opnL S) 13 0 S).1)]) hx hb hml hown hts hK hN hM9 (OX.at0 hO_11) gL_change_X4_count rfl (by decide +kernel) (by decide) dL_change_587 rfl rfl (Nat.le_of_ble_eq_true rfl) hl.1 (Nat.le_of_ble_eq_true rfl) (Nat.le_of_ble_eq_true rfl) (Nat.le_of_ble_eq_true rfl) (Nat.le_of_ble_eq_true rfl) hP hD hS hA (fun H locs hP hD hS => ?_)
        clear hM9
        refine lv_iload hx hb dL_change_590 (lv_at hl 5 rfl) ?_
        refine lv_isub hx hb dL_change_592 ?_
        refine lv_icmp_ne (tgt := 630) hx hb dL_change_593 (by decide) (fun c_14 => ?_) (fun c_14 => ?_)
        · exact absurd (by rw [t4, nI_subn t2]; exact congrArg nI (by omega)) c_14
        · refine lv_aload_n hx hb dL_change_596 rfl (lv_at hl 10 rfl) ?_
          refine lv_iconst (v := 2) hx hb dL_change_597 (by decide) ?_
          obtain ⟨X_15, hO_16, hM9⟩ := o_count_2 (l := l) (D := D) hSR2 hO_13
          refine lo_I (n := 1) (As := [.int 2]) (rest := []) hx hb hml hown hts hK hN hM9 (OX.at0 hO_13) gL_change_X4_count rfl (by decide +kernel) (by decide) dL_change_598 rfl rfl (Nat.le_of_ble_eq_true rfl) hl.1 (Nat.le_of_ble_eq_true rfl) (Nat.le_of_ble_eq_true rfl) (Nat.le_of_ble_eq_true rfl) (Nat.le_of_ble_eq_true rfl) hP hD hS hA (fun H locs hP hD hS => ?_)
          clear hM9
          refine lv_iload hx hb dL_change_601 (lv_at hl 1 rfl) ?_
          refine lv_icmp_ne (tgt := 630) hx hb dL_change_603 (by decide) (fun c_17 => ?_) (fun c_17 => ?_)
          · exact absurd (rfl) c_17
          · refine lv_aload_n hx hb dL_change_606 rfl (lv_at hl 10 rfl) ?_
            refine lv_bipush (v := 10) hx hb dL_change_607 (by decide) ?_
            obtain ⟨X_18, hO_19, hM9⟩ := o_count_10 (l := l) (D := D) hSR2 hO_16
            refine lo_I (n := 1) (As := [.int 10]) (rest := []) hx hb hml hown hts hK hN hM9 (OX.at0 hO_16) gL_change_X4_count rfl (by decide +kernel) (by decide) dL_change_609 rfl rfl (Nat.le_of_ble_eq_true rfl) hl.1 (Nat.le_of_ble_eq_true rfl) (Nat.le_of_ble_eq_true rfl) (Nat.le_of_ble_eq_true rfl) (Nat.le_of_ble_eq_true rfl) hP hD hS hA (fun H locs hP hD hS => ?_)
            clear hM9
            refine lv_iload hx hb dL_change_612 (lv_at hl 6 rfl) ?_
            refine lv_iconst (v := 1) hx hb dL_change_614 (by decide) ?_
            refine lv_iadd hx hb dL_change_615 ?_
            refine lv_icmp_ne (tgt := 630) hx hb dL_change_616 (by decide) (fun c_20 => ?_) (fun c_20 => ?_)
            · exact absurd (t5) c_20
            · refine lv_aload_n hx hb dL_change_619 rfl (lv_at hl 10 rfl) ?_
              obtain ⟨X_21, hO_22, hM9⟩ := o_step (l := l) (D := D) hSR2 hO_19 hns2 (nw := nv) t4 t3
              refine lo_I (n := 0) (As := []) (rest := []) hx hb hml hown hts hK hN hM9 (OX.at0 hO_19) gL_change_X4_step rfl (by decide +kernel) (by decide) dL_change_620 rfl rfl (Nat.le_of_ble_eq_true rfl) hl.1 (Nat.le_of_ble_eq_true rfl) (Nat.le_of_ble_eq_true rfl) (Nat.le_of_ble_eq_true rfl) (Nat.le_of_ble_eq_true rfl) hP hD hS hA (fun H locs hP hD hS => ?_)
              clear hM9
              refine tp_e (y := 0) (t6) ?_
              have hns3 : (svN (svN ns)) ≤ 6 := (svN_le hns2).1
              have hL3 : LI ((thF ((taL (opnL S) 13 0 S).2) (hvM ((taL (opnL S) 13 0 S).2)) nv).2) := LI_th0 hL2 t4 t3 t6
              obtain ⟨f3, hSR3, -, -⟩ := id hL3
              refine lv_if_ne (tgt := 630) hx hb dL_change_623 (by decide) (fun c_23 => ?_) (fun c_23 => ?_)
              · exact absurd c_23 (by decide)
              · refine lv_iconst (v := 1) hx hb dL_change_626 (by decide) ?_
                refine lv_goto (tgt := 631) hx hb dL_change_627 (by decide) ?_
                subst hQ
                exact rt_zo hx hb hr hlocks hS dL_change_631 (va_PR hP) (va_DR hD) rfl (⟨rfl, _, _, _, hns3, hL3, hO_22⟩)
      · have c_7 : ¬ (z ≤ q) := fun h9 => c_7 ((nI_leI (a := z) (b := q) (by omega) (by omega)).mpr h9)
        omega
    · have c_6 : ¬ (z ≤ q) := fun h9 => c_6 ((nI_leI (a := z) (b := q) (by omega) (by omega)).mpr h9)
      refine lv_iload_n hx hb dL_change_54 rfl (lv_at hl 5 rfl) ?_
      refine lv_goto (tgt := 60) hx hb dL_change_55 (by decide) ?_
      refine lv_istore (lv' := [(9, .int (nI q)), (8, .int 0), (7, .int (nI nw)), (6, .int (S 7 2)), (5, .int 0), (4, .int (nI z)), (3, .int (nI q)), (0, .ref x0), (1, .int x), (2, .int y)]) hx hb dL_change_60 hl (by decide) rfl (fun ls hl => ?_)
      refine lv_iload_n hx hb dL_change_62 rfl (lv_at hl 6 rfl) ?_
      refine lv_iload hx hb dL_change_63 (lv_at hl 5 rfl) ?_
      refine lv_icmp_ge (tgt := 73) hx hb dL_change_65 (by decide) (fun c_24 => ?_) (fun c_24 => ?_)
      · have c_24 : z ≤ q := (nI_leI (a := z) (b := q) (by omega) (by omega)).mp c_24
        omega
      · have c_24 : ¬ (z ≤ q) := fun h9 => c_24 ((nI_leI (a := z) (b := q) (by omega) (by omega)).mpr h9)
        refine lv_iload hx hb dL_change_68 (lv_at hl 5 rfl) ?_
        refine lv_goto (tgt := 74) hx hb dL_change_70 (by decide) ?_
        refine lv_istore (lv' := [(10, .int (nI z)), (9, .int (nI q)), (8, .int 0), (7, .int (nI nw)), (6, .int (S 7 2)), (5, .int 0), (4, .int (nI z)), (3, .int (nI q)), (0, .ref x0), (1, .int x), (2, .int y)]) hx hb dL_change_74 hl (by decide) rfl (fun ls hl => ?_)
        refine lv_iload_n hx hb dL_change_76 rfl (lv_at hl 9 rfl) ?_
        refine lv_bipush (v := 16) hx hb dL_change_77 (by decide) ?_
        have hPc : va_P D vwCl ([]) H := hP.sub [] rfl
        have hDc : va_D A ([]) := hD.sub [] (by decide +kernel) rfl
        refine cl_i0 (va_runS (As := [.int x, .int 16]) (rest := []) ⟨hx, hb, hml, hown, hts⟩ (c_L_low_16 l D k x H.size) (va_cwS 2 hts gL_change_L_low rfl rfl rfl (by decide +kernel) ⟨Nat.le_of_ble_eq_true rfl, Nat.le_of_ble_eq_true rfl⟩) ⟨pr_blind, pr_at hN hPc hK hDc⟩ rfl rfl hl.1 rfl (lv_room (Nat.le_of_ble_eq_true rfl)) dL_change_79 ⟨Nat.le_of_ble_eq_true rfl, Nat.le_of_ble_eq_true rfl⟩) hP hD hS hA [] rfl (fun H locs hP hD hS => ?_)
        clear hPc hDc
        refine tp_e (y := 14) (congrArg nI hx16) ?_
        refine lv_tableIn (off := 489) (tgt := 571) hx hb dL_change_82 (by decide) (by decide) rfl (by decide) ?_
        obtain ⟨nv, t1, t2, t3, t4, t5, t6, t7, t8⟩ := ta_all 13 0 S nw hL hn hn2 (by omega)
        refine lv_aload_n hx hb dL_change_571 rfl (lv_at hl 8 rfl) ?_
        obtain ⟨X_25, hO_26, hM9⟩ := o_ifSplit (l := l) (D := D) hSR hO_4 (nw := nw) hn hn2
        refine lo_I (n := 0) (As := []) (rest := []) hx hb hml hown hts hK hN hM9 (OX.at0 hO_4) gL_change_X4_ifSplit rfl (by decide +kernel) (by decide) dL_change_572 rfl rfl (Nat.le_of_ble_eq_true rfl) hl.1 (Nat.le_of_ble_eq_true rfl) (Nat.le_of_ble_eq_true rfl) (Nat.le_of_ble_eq_true rfl) (Nat.le_of_ble_eq_true rfl) hP hD hS hA (fun H locs hP hD hS => ?_)
        clear hM9
        refine lv_istore (lv' := [(14, .int (smF ((taL (opnL S) 13 0 S).2 4) 9)), (10, .int (nI z)), (9, .int (nI q)), (8, .int 0), (7, .int (nI nw)), (6, .int (S 7 2)), (5, .int 0), (4, .int (nI z)), (3, .int (nI q)), (0, .ref x0), (1, .int x), (2, .int y)]) hx hb dL_change_575 hl (by decide) rfl (fun ls hl => ?_)
        refine lv_aload_n hx hb dL_change_577 rfl (lv_at hl 9 rfl) ?_
        obtain ⟨X_27, hO_28, hM9⟩ := o_split (l := l) (D := D) hSR hO_26 hns (nw := nw) hn hn2
        refine lo_I (n := 0) (As := []) (rest := []) hx hb hml hown hts hK hN hM9 (OX.at0 hO_26) gL_change_X4_split rfl (by decide +kernel) (by decide) dL_change_578 rfl rfl (Nat.le_of_ble_eq_true rfl) hl.1 (Nat.le_of_ble_eq_true rfl) (Nat.le_of_ble_eq_true rfl) (Nat.le_of_ble_eq_true rfl) (Nat.le_of_ble_eq_true rfl) hP hD hS hA (fun H locs hP hD hS => ?_)
        clear hM9
        have hns2 : (svN ns) ≤ 6 := (svN_le hns).1
        have hL2 : LI ((taL (opnL S) 13 0 S).2) := t8
        obtain ⟨f2, hSR2, -, -⟩ := id hL2
        refine lv_istore (lv' := [(15, .int (nI (taL (opnL S) 13 0 S).1)), (14, .int (smF ((taL (opnL S) 13 0 S).2 4) 9)), (10, .int (nI z)), (9, .int (nI q)), (8, .int 0), (7, .int (nI nw)), (6, .int (S 7 2)), (5, .int 0), (4, .int (nI z)), (3, .int (nI q)), (0, .ref x0), (1, .int x), (2, .int y)]) hx hb dL_change_581 hl (by decide) rfl (fun ls hl => ?_)
        refine lv_iload hx hb dL_change_583 (lv_at hl 0 rfl) ?_
        refine lv_aload_n hx hb dL_change_585 rfl (lv_at hl 10 rfl) ?_
        refine lv_iconst (v := 3) hx hb dL_change_586 (by decide) ?_
        obtain ⟨X_29, hO_30, hM9⟩ := o_count_3 (l := l) (D := D) hSR2 hO_28
        refine lo_I (n := 1) (As := [.int 3]) (rest := [.int (nI (taL (opnL S) 13 0 S).1)]) hx hb hml hown hts hK hN hM9 (OX.at0 hO_28) gL_change_X4_count rfl (by decide +kernel) (by decide) dL_change_587 rfl rfl (Nat.le_of_ble_eq_true rfl) hl.1 (Nat.le_of_ble_eq_true rfl) (Nat.le_of_ble_eq_true rfl) (Nat.le_of_ble_eq_true rfl) (Nat.le_of_ble_eq_true rfl) hP hD hS hA (fun H locs hP hD hS => ?_)
        clear hM9
        refine lv_iload hx hb dL_change_590 (lv_at hl 5 rfl) ?_
        refine lv_isub hx hb dL_change_592 ?_
        refine lv_icmp_ne (tgt := 630) hx hb dL_change_593 (by decide) (fun c_31 => ?_) (fun c_31 => ?_)
        · exact absurd (by rw [t4, nI_subn t2]; exact congrArg nI (by omega)) c_31
        · refine lv_aload_n hx hb dL_change_596 rfl (lv_at hl 10 rfl) ?_
          refine lv_iconst (v := 2) hx hb dL_change_597 (by decide) ?_
          obtain ⟨X_32, hO_33, hM9⟩ := o_count_2 (l := l) (D := D) hSR2 hO_30
          refine lo_I (n := 1) (As := [.int 2]) (rest := []) hx hb hml hown hts hK hN hM9 (OX.at0 hO_30) gL_change_X4_count rfl (by decide +kernel) (by decide) dL_change_598 rfl rfl (Nat.le_of_ble_eq_true rfl) hl.1 (Nat.le_of_ble_eq_true rfl) (Nat.le_of_ble_eq_true rfl) (Nat.le_of_ble_eq_true rfl) (Nat.le_of_ble_eq_true rfl) hP hD hS hA (fun H locs hP hD hS => ?_)
          clear hM9
          refine lv_iload hx hb dL_change_601 (lv_at hl 1 rfl) ?_
          refine lv_icmp_ne (tgt := 630) hx hb dL_change_603 (by decide) (fun c_34 => ?_) (fun c_34 => ?_)
          · exact absurd (rfl) c_34
          · refine lv_aload_n hx hb dL_change_606 rfl (lv_at hl 10 rfl) ?_
            refine lv_bipush (v := 10) hx hb dL_change_607 (by decide) ?_
            obtain ⟨X_35, hO_36, hM9⟩ := o_count_10 (l := l) (D := D) hSR2 hO_33
            refine lo_I (n := 1) (As := [.int 10]) (rest := []) hx hb hml hown hts hK hN hM9 (OX.at0 hO_33) gL_change_X4_count rfl (by decide +kernel) (by decide) dL_change_609 rfl rfl (Nat.le_of_ble_eq_true rfl) hl.1 (Nat.le_of_ble_eq_true rfl) (Nat.le_of_ble_eq_true rfl) (Nat.le_of_ble_eq_true rfl) (Nat.le_of_ble_eq_true rfl) hP hD hS hA (fun H locs hP hD hS => ?_)
            clear hM9
            refine lv_iload hx hb dL_change_612 (lv_at hl 6 rfl) ?_
            refine lv_iconst (v := 1) hx hb dL_change_614 (by decide) ?_
            refine lv_iadd hx hb dL_change_615 ?_
            refine lv_icmp_ne (tgt := 630) hx hb dL_change_616 (by decide) (fun c_37 => ?_) (fun c_37 => ?_)
            · exact absurd (t5) c_37
            · refine lv_aload_n hx hb dL_change_619 rfl (lv_at hl 10 rfl) ?_
              obtain ⟨X_38, hO_39, hM9⟩ := o_step (l := l) (D := D) hSR2 hO_36 hns2 (nw := nv) t4 t3
              refine lo_I (n := 0) (As := []) (rest := []) hx hb hml hown hts hK hN hM9 (OX.at0 hO_36) gL_change_X4_step rfl (by decide +kernel) (by decide) dL_change_620 rfl rfl (Nat.le_of_ble_eq_true rfl) hl.1 (Nat.le_of_ble_eq_true rfl) (Nat.le_of_ble_eq_true rfl) (Nat.le_of_ble_eq_true rfl) (Nat.le_of_ble_eq_true rfl) hP hD hS hA (fun H locs hP hD hS => ?_)
              clear hM9
              refine tp_e (y := 0) (t6) ?_
              have hns3 : (svN (svN ns)) ≤ 6 := (svN_le hns2).1
              have hL3 : LI ((thF ((taL (opnL S) 13 0 S).2) (hvM ((taL (opnL S) 13 0 S).2)) nv).2) := LI_th0 hL2 t4 t3 t6
              obtain ⟨f3, hSR3, -, -⟩ := id hL3
              refine lv_if_ne (tgt := 630) hx hb dL_change_623 (by decide) (fun c_40 => ?_) (fun c_40 => ?_)
              · exact absurd c_40 (by decide)
              · refine lv_iconst (v := 1) hx hb dL_change_626 (by decide) ?_
                refine lv_goto (tgt := 631) hx hb dL_change_627 (by decide) ?_
                subst hQ
                exact rt_zo hx hb hr hlocks hS dL_change_631 (va_PR hP) (va_DR hD) rfl (⟨rfl, _, _, _, hns3, hL3, hO_39⟩)
  · have c_5 : q = z := (nI_eq (a := q) (b := z) (by omega) (by omega)).mp c_5
    refine lv_iconst (v := 1) hx hb dL_change_41 (by decide) ?_
    refine lv_goto (tgt := 46) hx hb dL_change_42 (by decide) ?_
    refine lv_istore (lv' := [(8, .int 1), (7, .int (nI nw)), (6, .int (S 7 2)), (5, .int 0), (4, .int (nI z)), (3, .int (nI q)), (0, .ref x0), (1, .int x), (2, .int y)]) hx hb dL_change_46 hl (by decide) rfl (fun ls hl => ?_)
    refine lv_iload_n hx hb dL_change_48 rfl (lv_at hl 5 rfl) ?_
    refine lv_iload hx hb dL_change_49 (lv_at hl 4 rfl) ?_
    refine lv_icmp_ge (tgt := 58) hx hb dL_change_51 (by decide) (fun c_41 => ?_) (fun c_41 => ?_)
    · have c_41 : z ≤ q := (nI_leI (a := z) (b := q) (by omega) (by omega)).mp c_41
      refine lv_iload hx hb dL_change_58 (lv_at hl 4 rfl) ?_
      refine lv_istore (lv' := [(9, .int (nI z)), (8, .int 1), (7, .int (nI nw)), (6, .int (S 7 2)), (5, .int 0), (4, .int (nI z)), (3, .int (nI q)), (0, .ref x0), (1, .int x), (2, .int y)]) hx hb dL_change_60 hl (by decide) rfl (fun ls hl => ?_)
      refine lv_iload_n hx hb dL_change_62 rfl (lv_at hl 6 rfl) ?_
      refine lv_iload hx hb dL_change_63 (lv_at hl 5 rfl) ?_
      refine lv_icmp_ge (tgt := 73) hx hb dL_change_65 (by decide) (fun c_42 => ?_) (fun c_42 => ?_)
      · have c_42 : z ≤ q := (nI_leI (a := z) (b := q) (by omega) (by omega)).mp c_42
        refine lv_iload_n hx hb dL_change_73 rfl (lv_at hl 6 rfl) ?_
        refine lv_istore (lv' := [(10, .int (nI q)), (9, .int (nI z)), (8, .int 1), (7, .int (nI nw)), (6, .int (S 7 2)), (5, .int 0), (4, .int (nI z)), (3, .int (nI q)), (0, .ref x0), (1, .int x), (2, .int y)]) hx hb dL_change_74 hl (by decide) rfl (fun ls hl => ?_)
        refine lv_iload_n hx hb dL_change_76 rfl (lv_at hl 9 rfl) ?_
        refine lv_bipush (v := 16) hx hb dL_change_77 (by decide) ?_
        have hPc : va_P D vwCl ([]) H := hP.sub [] rfl
        have hDc : va_D A ([]) := hD.sub [] (by decide +kernel) rfl
        refine cl_i0 (va_runS (As := [.int x, .int 16]) (rest := []) ⟨hx, hb, hml, hown, hts⟩ (c_L_low_16 l D k x H.size) (va_cwS 2 hts gL_change_L_low rfl rfl rfl (by decide +kernel) ⟨Nat.le_of_ble_eq_true rfl, Nat.le_of_ble_eq_true rfl⟩) ⟨pr_blind, pr_at hN hPc hK hDc⟩ rfl rfl hl.1 rfl (lv_room (Nat.le_of_ble_eq_true rfl)) dL_change_79 ⟨Nat.le_of_ble_eq_true rfl, Nat.le_of_ble_eq_true rfl⟩) hP hD hS hA [] rfl (fun H locs hP hD hS => ?_)
        clear hPc hDc
        refine tp_e (y := 14) (congrArg nI hx16) ?_
        refine lv_tableIn (off := 489) (tgt := 571) hx hb dL_change_82 (by decide) (by decide) rfl (by decide) ?_
        obtain ⟨nv, t1, t2, t3, t4, t5, t6, t7, t8⟩ := ta_all 13 0 S nw hL hn hn2 (by omega)
        refine lv_aload_n hx hb dL_change_571 rfl (lv_at hl 8 rfl) ?_
        obtain ⟨X_43, hO_44, hM9⟩ := o_ifSplit (l := l) (D := D) hSR hO_4 (nw := nw) hn hn2
        refine lo_I (n := 0) (As := []) (rest := []) hx hb hml hown hts hK hN hM9 (OX.at0 hO_4) gL_change_X4_ifSplit rfl (by decide +kernel) (by decide) dL_change_572 rfl rfl (Nat.le_of_ble_eq_true rfl) hl.1 (Nat.le_of_ble_eq_true rfl) (Nat.le_of_ble_eq_true rfl) (Nat.le_of_ble_eq_true rfl) (Nat.le_of_ble_eq_true rfl) hP hD hS hA (fun H locs hP hD hS => ?_)
        clear hM9
        refine lv_istore (lv' := [(14, .int (smF ((taL (opnL S) 13 0 S).2 4) 9)), (10, .int (nI q)), (9, .int (nI z)), (8, .int 1), (7, .int (nI nw)), (6, .int (S 7 2)), (5, .int 0), (4, .int (nI z)), (3, .int (nI q)), (0, .ref x0), (1, .int x), (2, .int y)]) hx hb dL_change_575 hl (by decide) rfl (fun ls hl => ?_)
        refine lv_aload_n hx hb dL_change_577 rfl (lv_at hl 9 rfl) ?_
        obtain ⟨X_45, hO_46, hM9⟩ := o_split (l := l) (D := D) hSR hO_44 hns (nw := nw) hn hn2
        refine lo_I (n := 0) (As := []) (rest := []) hx hb hml hown hts hK hN hM9 (OX.at0 hO_44) gL_change_X4_split rfl (by decide +kernel) (by decide) dL_change_578 rfl rfl (Nat.le_of_ble_eq_true rfl) hl.1 (Nat.le_of_ble_eq_true rfl) (Nat.le_of_ble_eq_true rfl) (Nat.le_of_ble_eq_true rfl) (Nat.le_of_ble_eq_true rfl) hP hD hS hA (fun H locs hP hD hS => ?_)
        clear hM9
        have hns2 : (svN ns) ≤ 6 := (svN_le hns).1
        have hL2 : LI ((taL (opnL S) 13 0 S).2) := t8
        obtain ⟨f2, hSR2, -, -⟩ := id hL2
        refine lv_istore (lv' := [(15, .int (nI (taL (opnL S) 13 0 S).1)), (14, .int (smF ((taL (opnL S) 13 0 S).2 4) 9)), (10, .int (nI q)), (9, .int (nI z)), (8, .int 1), (7, .int (nI nw)), (6, .int (S 7 2)), (5, .int 0), (4, .int (nI z)), (3, .int (nI q)), (0, .ref x0), (1, .int x), (2, .int y)]) hx hb dL_change_581 hl (by decide) rfl (fun ls hl => ?_)
        refine lv_iload hx hb dL_change_583 (lv_at hl 0 rfl) ?_
        refine lv_aload_n hx hb dL_change_585 rfl (lv_at hl 10 rfl) ?_
        refine lv_iconst (v := 3) hx hb dL_change_586 (by decide) ?_
        obtain ⟨X_47, hO_48, hM9⟩ := o_count_3 (l := l) (D := D) hSR2 hO_46
        refine lo_I (n := 1) (As := [.int 3]) (rest := [.int (nI (taL (opnL S) 13 0 S).1)]) hx hb hml hown hts hK hN hM9 (OX.at0 hO_46) gL_change_X4_count rfl (by decide +kernel) (by decide) dL_change_587 rfl rfl (Nat.le_of_ble_eq_true rfl) hl.1 (Nat.le_of_ble_eq_true rfl) (Nat.le_of_ble_eq_true rfl) (Nat.le_of_ble_eq_true rfl) (Nat.le_of_ble_eq_true rfl) hP hD hS hA (fun H locs hP hD hS => ?_)
        clear hM9
        refine lv_iload hx hb dL_change_590 (lv_at hl 5 rfl) ?_
        refine lv_isub hx hb dL_change_592 ?_
        refine lv_icmp_ne (tgt := 630) hx hb dL_change_593 (by decide) (fun c_49 => ?_) (fun c_49 => ?_)
        · exact absurd (by rw [t4, nI_subn t2]; exact congrArg nI (by omega)) c_49
        · refine lv_aload_n hx hb dL_change_596 rfl (lv_at hl 10 rfl) ?_
          refine lv_iconst (v := 2) hx hb dL_change_597 (by decide) ?_
          obtain ⟨X_50, hO_51, hM9⟩ := o_count_2 (l := l) (D := D) hSR2 hO_48
          refine lo_I (n := 1) (As := [.int 2]) (rest := []) hx hb hml hown hts hK hN hM9 (OX.at0 hO_48) gL_change_X4_count rfl (by decide +kernel) (by decide) dL_change_598 rfl rfl (Nat.le_of_ble_eq_true rfl) hl.1 (Nat.le_of_ble_eq_true rfl) (Nat.le_of_ble_eq_true rfl) (Nat.le_of_ble_eq_true rfl) (Nat.le_of_ble_eq_true rfl) hP hD hS hA (fun H locs hP hD hS => ?_)
          clear hM9
          refine lv_iload hx hb dL_change_601 (lv_at hl 1 rfl) ?_
          refine lv_icmp_ne (tgt := 630) hx hb dL_change_603 (by decide) (fun c_52 => ?_) (fun c_52 => ?_)
          · exact absurd (rfl) c_52
          · refine lv_aload_n hx hb dL_change_606 rfl (lv_at hl 10 rfl) ?_
            refine lv_bipush (v := 10) hx hb dL_change_607 (by decide) ?_
            obtain ⟨X_53, hO_54, hM9⟩ := o_count_10 (l := l) (D := D) hSR2 hO_51
            refine lo_I (n := 1) (As := [.int 10]) (rest := []) hx hb hml hown hts hK hN hM9 (OX.at0 hO_51) gL_change_X4_count rfl (by decide +kernel) (by decide) dL_change_609 rfl rfl (Nat.le_of_ble_eq_true rfl) hl.1 (Nat.le_of_ble_eq_true rfl) (Nat.le_of_ble_eq_true rfl) (Nat.le_of_ble_eq_true rfl) (Nat.le_of_ble_eq_true rfl) hP hD hS hA (fun H locs hP hD hS => ?_)
            clear hM9
            refine lv_iload hx hb dL_change_612 (lv_at hl 6 rfl) ?_
            refine lv_iconst (v := 1) hx hb dL_change_614 (by decide) ?_
            refine lv_iadd hx hb dL_change_615 ?_
            refine lv_icmp_ne (tgt := 630) hx hb dL_change_616 (by decide) (fun c_55 => ?_) (fun c_55 => ?_)
            · exact absurd (t5) c_55
            · refine lv_aload_n hx hb dL_change_619 rfl (lv_at hl 10 rfl) ?_
              obtain ⟨X_56, hO_57, hM9⟩ := o_step (l := l) (D := D) hSR2 hO_54 hns2 (nw := nv) t4 t3
              refine lo_I (n := 0) (As := []) (rest := []) hx hb hml hown hts hK hN hM9 (OX.at0 hO_54) gL_change_X4_step rfl (by decide +kernel) (by decide) dL_change_620 rfl rfl (Nat.le_of_ble_eq_true rfl) hl.1 (Nat.le_of_ble_eq_true rfl) (Nat.le_of_ble_eq_true rfl) (Nat.le_of_ble_eq_true rfl) (Nat.le_of_ble_eq_true rfl) hP hD hS hA (fun H locs hP hD hS => ?_)
              clear hM9
              refine tp_e (y := 0) (t6) ?_
              have hns3 : (svN (svN ns)) ≤ 6 := (svN_le hns2).1
              have hL3 : LI ((thF ((taL (opnL S) 13 0 S).2) (hvM ((taL (opnL S) 13 0 S).2)) nv).2) := LI_th0 hL2 t4 t3 t6
              obtain ⟨f3, hSR3, -, -⟩ := id hL3
              refine lv_if_ne (tgt := 630) hx hb dL_change_623 (by decide) (fun c_58 => ?_) (fun c_58 => ?_)
              · exact absurd c_58 (by decide)
              · refine lv_iconst (v := 1) hx hb dL_change_626 (by decide) ?_
                refine lv_goto (tgt := 631) hx hb dL_change_627 (by decide) ?_
                subst hQ
                exact rt_zo hx hb hr hlocks hS dL_change_631 (va_PR hP) (va_DR hD) rfl (⟨rfl, _, _, _, hns3, hL3, hO_57⟩)
      · have c_42 : ¬ (z ≤ q) := fun h9 => c_42 ((nI_leI (a := z) (b := q) (by omega) (by omega)).mpr h9)
        omega
    · have c_41 : ¬ (z ≤ q) := fun h9 => c_41 ((nI_leI (a := z) (b := q) (by omega) (by omega)).mpr h9)
      exact absurd c_41 (not_not_intro (by omega))

set_option maxHeartbeats 4000000 in
set_option maxRecDepth 100000 in
theorem c_L_change_15 (l : Launch) (D : va_G) (k : Nat → ClassId) (x0 ns : Nat) (S : Nat → Nat → Int32) (Z : Nat → Nat → Nat → Int32) (Y0 : Nat → Nat → Int32) (k0 : Int32) (X : va_W) (x y : Int32) (hns : ns ≤ 6) (hL : LI S) (hO : OX k x0 ns S Z Y0 k0 X) (hx16 : lowN x 16 = 15) : MO l yL_change wsL_change ({ frames := 31, cells := 0, slots := 0, locals := 839 }) D k [.ref x0, .int x, .int y] X (fun r X2 => r = 1 ∧ ∃ ns2 S2 Z2, ns2 ≤ 6 ∧ LI S2 ∧ OX k x0 ns2 S2 Z2 Y0 k0 X2) := by
  intro sz
  refine Met.ofW (cc := cL_change) (maxL := 16) (ret := (some .boolean)) (by decide) rfl ?_
  intro p e s m args below meth c s₁ B hml hv
  obtain ⟨rfl, hN, hsz, hP, hK, hD0⟩ := hv
  have hx := B.exec
  have hb := B.bytes
  have hr := B.returns
  have hts := atoms_spec (ws := wsL_change) B.pre
  have hown : s.vm.findClass RL = some m.cls := findClass_of_methodNamed B.named
  have hlocks := B.notSynchronized
  subst hsz
  have hD := hD0.self (sz := s.heap.size)
  generalize hAe : va_A X s.heap.size = A at hD ⊢
  have hA : ∀ q : Nat, s.heap.size ≤ q → A q := fun q h => by rw [← hAe]; exact Or.inr h
  have hS : va_S A s.heap s.heap [] := va_S.rf
  have hl := lv_entry ([.ref x0, .int x, .int y]) (n := 16) (Nat.le_of_ble_eq_true rfl)
  rw [lg_entry_eq]
  generalize (lg_sl ([.ref x0, .int x, .int y]) ++ List.replicate (16 - (lg_sl ([.ref x0, .int x, .int y])).length) Slot.unset).toArray = ls at hl ⊢
  have hl : lv_has ls 16 [(0, .ref x0), (1, .int x), (2, .int y)] := hl
  obtain ⟨H, hHe⟩ : ∃ H, H = s.heap := ⟨_, rfl⟩
  have hP : va_P D vwCl X H := by rw [hHe]; exact hP
  have hS : va_S A s.heap H [] := by rw [hHe]; exact hS
  rw [← hHe]
  refine absQ (fun Q hQ => ?_)
  obtain ⟨f, hSR, hBR, hEX⟩ := id hL
  obtain ⟨nw, hnw⟩ := hSR.2.2.2
  have hn : S 7 0 = nI nw := hnw.2.1
  have hn2 : nw ≤ 12 := hnw.1
  have hcv := low_lt (y >>> (4 &&& 31)) (n := 200) (by decide)
  have hP : va_P D vwCl ([] ++ (X)) H := hP
  have hD : va_D A ([] ++ (X)) := hD
  refine lv_iload_n hx hb dL_change_0 rfl (lv_at hl 2 rfl) ?_
  refine lv_bipush (v := 9) hx hb dL_change_1 (by decide) ?_
  have hPc : va_P D vwCl ([]) H := hP.sub [] rfl
  have hDc : va_D A ([]) := hD.sub [] (by decide +kernel) rfl
  refine cl_i0 (va_runS (As := [.int y, .int 9]) (rest := []) ⟨hx, hb, hml, hown, hts⟩ (c_L_low_9 l D k y H.size) (va_cwS 2 hts gL_change_L_low rfl rfl rfl (by decide +kernel) ⟨Nat.le_of_ble_eq_true rfl, Nat.le_of_ble_eq_true rfl⟩) ⟨pr_blind, pr_at hN hPc hK hDc⟩ rfl rfl hl.1 rfl (lv_room (Nat.le_of_ble_eq_true rfl)) dL_change_3 ⟨Nat.le_of_ble_eq_true rfl, Nat.le_of_ble_eq_true rfl⟩) hP hD hS hA [] rfl (fun H locs hP hD hS => ?_)
  clear hPc hDc
  obtain ⟨q, hqe⟩ : ∃ q, q = lowN y 9 := ⟨_, rfl⟩
  have hq9 : q < 9 := by rw [hqe]; exact low_lt _ (by decide)
  refine tp_e (y := (nI q)) (by rw [hqe]) ?_
  refine lv_istore_n (lv' := [(3, .int (nI q)), (0, .ref x0), (1, .int x), (2, .int y)]) hx hb dL_change_6 rfl hl (by decide) rfl (fun ls hl => ?_)
  refine lv_iload_n hx hb dL_change_7 rfl (lv_at hl 3 rfl) ?_
  refine lv_iconst (v := 4) hx hb dL_change_8 (by decide) ?_
  refine lv_ishr hx hb dL_change_9 ?_
  refine lv_bipush (v := 9) hx hb dL_change_10 (by decide) ?_
  have hPc : va_P D vwCl ([]) H := hP.sub [] rfl
  have hDc : va_D A ([]) := hD.sub [] (by decide +kernel) rfl
  refine cl_i0 (va_runS (As := [.int (y >>> (4 &&& 31)), .int 9]) (rest := []) ⟨hx, hb, hml, hown, hts⟩ (c_L_low_9 l D k (y >>> (4 &&& 31)) H.size) (va_cwS 2 hts gL_change_L_low rfl rfl rfl (by decide +kernel) ⟨Nat.le_of_ble_eq_true rfl, Nat.le_of_ble_eq_true rfl⟩) ⟨pr_blind, pr_at hN hPc hK hDc⟩ rfl rfl hl.1 rfl (lv_room (Nat.le_of_ble_eq_true rfl)) dL_change_12 ⟨Nat.le_of_ble_eq_true rfl, Nat.le_of_ble_eq_true rfl⟩) hP hD hS hA [] rfl (fun H locs hP hD hS => ?_)
  clear hPc hDc
  obtain ⟨z, hze⟩ : ∃ z, z = lowN (y >>> (4 &&& 31)) 9 := ⟨_, rfl⟩
  have hz9 : z < 9 := by rw [hze]; exact low_lt _ (by decide)
  refine tp_e (y := (nI z)) (by rw [hze]) ?_
  refine lv_istore (lv' := [(4, .int (nI z)), (3, .int (nI q)), (0, .ref x0), (1, .int x), (2, .int y)]) hx hb dL_change_15 hl (by decide) rfl (fun ls hl => ?_)
  refine lv_iconst (v := 0) hx hb dL_change_17 (by decide) ?_
  refine lv_istore (lv' := [(5, .int 0), (4, .int (nI z)), (3, .int (nI q)), (0, .ref x0), (1, .int x), (2, .int y)]) hx hb dL_change_18 hl (by decide) rfl (fun ls hl => ?_)
  refine lv_aload_n hx hb dL_change_20 rfl (lv_at hl 3 rfl) ?_
  refine lv_bipush (v := 10) hx hb dL_change_21 (by decide) ?_
  obtain ⟨X_1, hO_2, hM9⟩ := o_count_10 (l := l) (D := D) hSR hO
  refine lo_I (n := 1) (As := [.int 10]) (rest := []) hx hb hml hown hts hK hN hM9 (OX.at0 hO) gL_change_X4_count rfl (by decide +kernel) (by decide) dL_change_23 rfl rfl (Nat.le_of_ble_eq_true rfl) hl.1 (Nat.le_of_ble_eq_true rfl) (Nat.le_of_ble_eq_true rfl) (Nat.le_of_ble_eq_true rfl) (Nat.le_of_ble_eq_true rfl) hP hD hS hA (fun H locs hP hD hS => ?_)
  clear hM9
  refine lv_istore (lv' := [(6, .int (S 7 2)), (5, .int 0), (4, .int (nI z)), (3, .int (nI q)), (0, .ref x0), (1, .int x), (2, .int y)]) hx hb dL_change_26 hl (by decide) rfl (fun ls hl => ?_)
  refine lv_aload_n hx hb dL_change_28 rfl (lv_at hl 4 rfl) ?_
  refine lv_iconst (v := 3) hx hb dL_change_29 (by decide) ?_
  obtain ⟨X_3, hO_4, hM9⟩ := o_count_3 (l := l) (D := D) hSR hO_2
  refine lo_I (n := 1) (As := [.int 3]) (rest := []) hx hb hml hown hts hK hN hM9 (OX.at0 hO_2) gL_change_X4_count rfl (by decide +kernel) (by decide) dL_change_30 rfl rfl (Nat.le_of_ble_eq_true rfl) hl.1 (Nat.le_of_ble_eq_true rfl) (Nat.le_of_ble_eq_true rfl) (Nat.le_of_ble_eq_true rfl) (Nat.le_of_ble_eq_true rfl) hP hD hS hA (fun H locs hP hD hS => ?_)
  clear hM9
  refine tp_e (y := (nI nw)) hn ?_
  refine lv_istore (lv' := [(7, .int (nI nw)), (6, .int (S 7 2)), (5, .int 0), (4, .int (nI z)), (3, .int (nI q)), (0, .ref x0), (1, .int x), (2, .int y)]) hx hb dL_change_33 hl (by decide) rfl (fun ls hl => ?_)
  refine lv_iload_n hx hb dL_change_35 rfl (lv_at hl 4 rfl) ?_
  refine lv_iload hx hb dL_change_36 (lv_at hl 3 rfl) ?_
  refine lv_icmp_ne (tgt := 45) hx hb dL_change_38 (by decide) (fun c_5 => ?_) (fun c_5 => ?_)
  · have c_5 : ¬ (q = z) := fun h9 => c_5 ((nI_eq (a := q) (b := z) (by omega) (by omega)).mpr h9)
    refine lv_iconst (v := 0) hx hb dL_change_45 (by decide) ?_
    refine lv_istore (lv' := [(8, .int 0), (7, .int (nI nw)), (6, .int (S 7 2)), (5, .int 0), (4, .int (nI z)), (3, .int (nI q)), (0, .ref x0), (1, .int x), (2, .int y)]) hx hb dL_change_46 hl (by decide) rfl (fun ls hl => ?_)
    refine lv_iload_n hx hb dL_change_48 rfl (lv_at hl 5 rfl) ?_
    refine lv_iload hx hb dL_change_49 (lv_at hl 4 rfl) ?_
    refine lv_icmp_ge (tgt := 58) hx hb dL_change_51 (by decide) (fun c_6 => ?_) (fun c_6 => ?_)
    · have c_6 : z ≤ q := (nI_leI (a := z) (b := q) (by omega) (by omega)).mp c_6
      refine lv_iload hx hb dL_change_58 (lv_at hl 4 rfl) ?_
      refine lv_istore (lv' := [(9, .int (nI z)), (8, .int 0), (7, .int (nI nw)), (6, .int (S 7 2)), (5, .int 0), (4, .int (nI z)), (3, .int (nI q)), (0, .ref x0), (1, .int x), (2, .int y)]) hx hb dL_change_60 hl (by decide) rfl (fun ls hl => ?_)
      refine lv_iload_n hx hb dL_change_62 rfl (lv_at hl 6 rfl) ?_
      refine lv_iload hx hb dL_change_63 (lv_at hl 5 rfl) ?_
      refine lv_icmp_ge (tgt := 73) hx hb dL_change_65 (by decide) (fun c_7 => ?_) (fun c_7 => ?_)
      · have c_7 : z ≤ q := (nI_leI (a := z) (b := q) (by omega) (by omega)).mp c_7
        refine lv_iload_n hx hb dL_change_73 rfl (lv_at hl 6 rfl) ?_
        refine lv_istore (lv' := [(10, .int (nI q)), (9, .int (nI z)), (8, .int 0), (7, .int (nI nw)), (6, .int (S 7 2)), (5, .int 0), (4, .int (nI z)), (3, .int (nI q)), (0, .ref x0), (1, .int x), (2, .int y)]) hx hb dL_change_74 hl (by decide) rfl (fun ls hl => ?_)
        refine lv_iload_n hx hb dL_change_76 rfl (lv_at hl 9 rfl) ?_
        refine lv_bipush (v := 16) hx hb dL_change_77 (by decide) ?_
        have hPc : va_P D vwCl ([]) H := hP.sub [] rfl
        have hDc : va_D A ([]) := hD.sub [] (by decide +kernel) rfl
        refine cl_i0 (va_runS (As := [.int x, .int 16]) (rest := []) ⟨hx, hb, hml, hown, hts⟩ (c_L_low_16 l D k x H.size) (va_cwS 2 hts gL_change_L_low rfl rfl rfl (by decide +kernel) ⟨Nat.le_of_ble_eq_true rfl, Nat.le_of_ble_eq_true rfl⟩) ⟨pr_blind, pr_at hN hPc hK hDc⟩ rfl rfl hl.1 rfl (lv_room (Nat.le_of_ble_eq_true rfl)) dL_change_79 ⟨Nat.le_of_ble_eq_true rfl, Nat.le_of_ble_eq_true rfl⟩) hP hD hS hA [] rfl (fun H locs hP hD hS => ?_)
        clear hPc hDc
        refine tp_e (y := 15) (congrArg nI hx16) ?_
        refine lv_tableOut (tgt := 632) hx hb dL_change_82 (by decide) (by decide) ?_
        refine lv_aload_n hx hb dL_change_632 rfl (lv_at hl 8 rfl) ?_
        obtain ⟨X_8, hO_9, hM9⟩ := o_begin (l := l) (D := D) hO_4 hns
        refine lo_I (n := 0) (As := []) (rest := []) hx hb hml hown hts hK hN hM9 (OX.at0 hO_4) gL_change_X4_begin rfl (by decide +kernel) (by decide) dL_change_633 rfl rfl (Nat.le_of_ble_eq_true rfl) hl.1 (Nat.le_of_ble_eq_true rfl) (Nat.le_of_ble_eq_true rfl) (Nat.le_of_ble_eq_true rfl) (Nat.le_of_ble_eq_true rfl) hP hD hS hA (fun H locs hP hD hS => ?_)
        clear hM9
        have hns2 : (svN ns) ≤ 6 := (svN_le hns).1
        have hL2 : LI (anS S) := LI_begin hL
        obtain ⟨f2, hSR2, -, -⟩ := id hL2
        refine lv_iload hx hb dL_change_636 (lv_at hl 3 rfl) ?_
        refine lv_icmp_ne (tgt := 666) hx hb dL_change_638 (by decide) (fun c_10 => ?_) (fun c_10 => ?_)
        · exact absurd (hn) c_10
        · refine lv_aload_n hx hb dL_change_641 rfl (lv_at hl 8 rfl) ?_
          refine lv_iconst (v := 3) hx hb dL_change_642 (by decide) ?_
          obtain ⟨X_11, hO_12, hM9⟩ := o_count_3 (l := l) (D := D) hSR2 hO_9
          refine lo_I (n := 1) (As := [.int 3]) (rest := []) hx hb hml hown hts hK hN hM9 (OX.at0 hO_9) gL_change_X4_count rfl (by decide +kernel) (by decide) dL_change_643 rfl rfl (Nat.le_of_ble_eq_true rfl) hl.1 (Nat.le_of_ble_eq_true rfl) (Nat.le_of_ble_eq_true rfl) (Nat.le_of_ble_eq_true rfl) (Nat.le_of_ble_eq_true rfl) hP hD hS hA (fun H locs hP hD hS => ?_)
          clear hM9
          refine lv_if_ne (tgt := 666) hx hb dL_change_646 (by decide) (fun c_13 => ?_) (fun c_13 => ?_)
          · exact absurd (rfl) c_13
          · refine lv_aload_n hx hb dL_change_649 rfl (lv_at hl 8 rfl) ?_
            refine lv_iconst (v := 1) hx hb dL_change_650 (by decide) ?_
            obtain ⟨X_14, hO_15, hM9⟩ := o_count_1 (l := l) (D := D) hSR2 hO_12
            refine lo_I (n := 1) (As := [.int 1]) (rest := []) hx hb hml hown hts hK hN hM9 (OX.at0 hO_12) gL_change_X4_count rfl (by decide +kernel) (by decide) dL_change_651 rfl rfl (Nat.le_of_ble_eq_true rfl) hl.1 (Nat.le_of_ble_eq_true rfl) (Nat.le_of_ble_eq_true rfl) (Nat.le_of_ble_eq_true rfl) (Nat.le_of_ble_eq_true rfl) hP hD hS hA (fun H locs hP hD hS => ?_)
            clear hM9
            refine lv_aload_n hx hb dL_change_654 rfl (lv_at hl 8 rfl) ?_
            refine lv_iconst (v := 2) hx hb dL_change_655 (by decide) ?_
            obtain ⟨X_16, hO_17, hM9⟩ := o_count_2 (l := l) (D := D) hSR2 hO_15
            refine lo_I (n := 1) (As := [.int 2]) (rest := [.int (smF ((anS S) 0) 9)]) hx hb hml hown hts hK hN hM9 (OX.at0 hO_15) gL_change_X4_count rfl (by decide +kernel) (by decide) dL_change_656 rfl rfl (Nat.le_of_ble_eq_true rfl) hl.1 (Nat.le_of_ble_eq_true rfl) (Nat.le_of_ble_eq_true rfl) (Nat.le_of_ble_eq_true rfl) (Nat.le_of_ble_eq_true rfl) hP hD hS hA (fun H locs hP hD hS => ?_)
            clear hM9
            refine lv_icmp_ne (tgt := 666) hx hb dL_change_659 (by decide) (fun c_18 => ?_) (fun c_18 => ?_)
            · exact absurd (rfl) c_18
            · refine lv_iconst (v := 1) hx hb dL_change_662 (by decide) ?_
              refine lv_goto (tgt := 667) hx hb dL_change_663 (by decide) ?_
              subst hQ
              exact rt_zo hx hb hr hlocks hS dL_change_667 (va_PR hP) (va_DR hD) rfl (⟨rfl, _, _, _, hns2, hL2, hO_17⟩)
      · have c_7 : ¬ (z ≤ q) := fun h9 => c_7 ((nI_leI (a := z) (b := q) (by omega) (by omega)).mpr h9)
        omega
    · have c_6 : ¬ (z ≤ q) := fun h9 => c_6 ((nI_leI (a := z) (b := q) (by omega) (by omega)).mpr h9)
      refine lv_iload_n hx hb dL_change_54 rfl (lv_at hl 5 rfl) ?_
      refine lv_goto (tgt := 60) hx hb dL_change_55 (by decide) ?_
      refine lv_istore (lv' := [(9, .int (nI q)), (8, .int 0), (7, .int (nI nw)), (6, .int (S 7 2)), (5, .int 0), (4, .int (nI z)), (3, .int (nI q)), (0, .ref x0), (1, .int x), (2, .int y)]) hx hb dL_change_60 hl (by decide) rfl (fun ls hl => ?_)
      refine lv_iload_n hx hb dL_change_62 rfl (lv_at hl 6 rfl) ?_
      refine lv_iload hx hb dL_change_63 (lv_at hl 5 rfl) ?_
      refine lv_icmp_ge (tgt := 73) hx hb dL_change_65 (by decide) (fun c_19 => ?_) (fun c_19 => ?_)
      · have c_19 : z ≤ q := (nI_leI (a := z) (b := q) (by omega) (by omega)).mp c_19
        omega
      · have c_19 : ¬ (z ≤ q) := fun h9 => c_19 ((nI_leI (a := z) (b := q) (by omega) (by omega)).mpr h9)
        refine lv_iload hx hb dL_change_68 (lv_at hl 5 rfl) ?_
        refine lv_goto (tgt := 74) hx hb dL_change_70 (by decide) ?_
        refine lv_istore (lv' := [(10, .int (nI z)), (9, .int (nI q)), (8, .int 0), (7, .int (nI nw)), (6, .int (S 7 2)), (5, .int 0), (4, .int (nI z)), (3, .int (nI q)), (0, .ref x0), (1, .int x), (2, .int y)]) hx hb dL_change_74 hl (by decide) rfl (fun ls hl => ?_)
        refine lv_iload_n hx hb dL_change_76 rfl (lv_at hl 9 rfl) ?_
        refine lv_bipush (v := 16) hx hb dL_change_77 (by decide) ?_
        have hPc : va_P D vwCl ([]) H := hP.sub [] rfl
        have hDc : va_D A ([]) := hD.sub [] (by decide +kernel) rfl
        refine cl_i0 (va_runS (As := [.int x, .int 16]) (rest := []) ⟨hx, hb, hml, hown, hts⟩ (c_L_low_16 l D k x H.size) (va_cwS 2 hts gL_change_L_low rfl rfl rfl (by decide +kernel) ⟨Nat.le_of_ble_eq_true rfl, Nat.le_of_ble_eq_true rfl⟩) ⟨pr_blind, pr_at hN hPc hK hDc⟩ rfl rfl hl.1 rfl (lv_room (Nat.le_of_ble_eq_true rfl)) dL_change_79 ⟨Nat.le_of_ble_eq_true rfl, Nat.le_of_ble_eq_true rfl⟩) hP hD hS hA [] rfl (fun H locs hP hD hS => ?_)
        clear hPc hDc
        refine tp_e (y := 15) (congrArg nI hx16) ?_
        refine lv_tableOut (tgt := 632) hx hb dL_change_82 (by decide) (by decide) ?_
        refine lv_aload_n hx hb dL_change_632 rfl (lv_at hl 8 rfl) ?_
        obtain ⟨X_20, hO_21, hM9⟩ := o_begin (l := l) (D := D) hO_4 hns
        refine lo_I (n := 0) (As := []) (rest := []) hx hb hml hown hts hK hN hM9 (OX.at0 hO_4) gL_change_X4_begin rfl (by decide +kernel) (by decide) dL_change_633 rfl rfl (Nat.le_of_ble_eq_true rfl) hl.1 (Nat.le_of_ble_eq_true rfl) (Nat.le_of_ble_eq_true rfl) (Nat.le_of_ble_eq_true rfl) (Nat.le_of_ble_eq_true rfl) hP hD hS hA (fun H locs hP hD hS => ?_)
        clear hM9
        have hns2 : (svN ns) ≤ 6 := (svN_le hns).1
        have hL2 : LI (anS S) := LI_begin hL
        obtain ⟨f2, hSR2, -, -⟩ := id hL2
        refine lv_iload hx hb dL_change_636 (lv_at hl 3 rfl) ?_
        refine lv_icmp_ne (tgt := 666) hx hb dL_change_638 (by decide) (fun c_22 => ?_) (fun c_22 => ?_)
        · exact absurd (hn) c_22
        · refine lv_aload_n hx hb dL_change_641 rfl (lv_at hl 8 rfl) ?_
          refine lv_iconst (v := 3) hx hb dL_change_642 (by decide) ?_
          obtain ⟨X_23, hO_24, hM9⟩ := o_count_3 (l := l) (D := D) hSR2 hO_21
          refine lo_I (n := 1) (As := [.int 3]) (rest := []) hx hb hml hown hts hK hN hM9 (OX.at0 hO_21) gL_change_X4_count rfl (by decide +kernel) (by decide) dL_change_643 rfl rfl (Nat.le_of_ble_eq_true rfl) hl.1 (Nat.le_of_ble_eq_true rfl) (Nat.le_of_ble_eq_true rfl) (Nat.le_of_ble_eq_true rfl) (Nat.le_of_ble_eq_true rfl) hP hD hS hA (fun H locs hP hD hS => ?_)
          clear hM9
          refine lv_if_ne (tgt := 666) hx hb dL_change_646 (by decide) (fun c_25 => ?_) (fun c_25 => ?_)
          · exact absurd (rfl) c_25
          · refine lv_aload_n hx hb dL_change_649 rfl (lv_at hl 8 rfl) ?_
            refine lv_iconst (v := 1) hx hb dL_change_650 (by decide) ?_
            obtain ⟨X_26, hO_27, hM9⟩ := o_count_1 (l := l) (D := D) hSR2 hO_24
            refine lo_I (n := 1) (As := [.int 1]) (rest := []) hx hb hml hown hts hK hN hM9 (OX.at0 hO_24) gL_change_X4_count rfl (by decide +kernel) (by decide) dL_change_651 rfl rfl (Nat.le_of_ble_eq_true rfl) hl.1 (Nat.le_of_ble_eq_true rfl) (Nat.le_of_ble_eq_true rfl) (Nat.le_of_ble_eq_true rfl) (Nat.le_of_ble_eq_true rfl) hP hD hS hA (fun H locs hP hD hS => ?_)
            clear hM9
            refine lv_aload_n hx hb dL_change_654 rfl (lv_at hl 8 rfl) ?_
            refine lv_iconst (v := 2) hx hb dL_change_655 (by decide) ?_
            obtain ⟨X_28, hO_29, hM9⟩ := o_count_2 (l := l) (D := D) hSR2 hO_27
            refine lo_I (n := 1) (As := [.int 2]) (rest := [.int (smF ((anS S) 0) 9)]) hx hb hml hown hts hK hN hM9 (OX.at0 hO_27) gL_change_X4_count rfl (by decide +kernel) (by decide) dL_change_656 rfl rfl (Nat.le_of_ble_eq_true rfl) hl.1 (Nat.le_of_ble_eq_true rfl) (Nat.le_of_ble_eq_true rfl) (Nat.le_of_ble_eq_true rfl) (Nat.le_of_ble_eq_true rfl) hP hD hS hA (fun H locs hP hD hS => ?_)
            clear hM9
            refine lv_icmp_ne (tgt := 666) hx hb dL_change_659 (by decide) (fun c_30 => ?_) (fun c_30 => ?_)
            · exact absurd (rfl) c_30
            · refine lv_iconst (v := 1) hx hb dL_change_662 (by decide) ?_
              refine lv_goto (tgt := 667) hx hb dL_change_663 (by decide) ?_
              subst hQ
              exact rt_zo hx hb hr hlocks hS dL_change_667 (va_PR hP) (va_DR hD) rfl (⟨rfl, _, _, _, hns2, hL2, hO_29⟩)
  · have c_5 : q = z := (nI_eq (a := q) (b := z) (by omega) (by omega)).mp c_5
    refine lv_iconst (v := 1) hx hb dL_change_41 (by decide) ?_
    refine lv_goto (tgt := 46) hx hb dL_change_42 (by decide) ?_
    refine lv_istore (lv' := [(8, .int 1), (7, .int (nI nw)), (6, .int (S 7 2)), (5, .int 0), (4, .int (nI z)), (3, .int (nI q)), (0, .ref x0), (1, .int x), (2, .int y)]) hx hb dL_change_46 hl (by decide) rfl (fun ls hl => ?_)
    refine lv_iload_n hx hb dL_change_48 rfl (lv_at hl 5 rfl) ?_
    refine lv_iload hx hb dL_change_49 (lv_at hl 4 rfl) ?_
    refine lv_icmp_ge (tgt := 58) hx hb dL_change_51 (by decide) (fun c_31 => ?_) (fun c_31 => ?_)
    · have c_31 : z ≤ q := (nI_leI (a := z) (b := q) (by omega) (by omega)).mp c_31
      refine lv_iload hx hb dL_change_58 (lv_at hl 4 rfl) ?_
      refine lv_istore (lv' := [(9, .int (nI z)), (8, .int 1), (7, .int (nI nw)), (6, .int (S 7 2)), (5, .int 0), (4, .int (nI z)), (3, .int (nI q)), (0, .ref x0), (1, .int x), (2, .int y)]) hx hb dL_change_60 hl (by decide) rfl (fun ls hl => ?_)
      refine lv_iload_n hx hb dL_change_62 rfl (lv_at hl 6 rfl) ?_
      refine lv_iload hx hb dL_change_63 (lv_at hl 5 rfl) ?_
      refine lv_icmp_ge (tgt := 73) hx hb dL_change_65 (by decide) (fun c_32 => ?_) (fun c_32 => ?_)
      · have c_32 : z ≤ q := (nI_leI (a := z) (b := q) (by omega) (by omega)).mp c_32
        refine lv_iload_n hx hb dL_change_73 rfl (lv_at hl 6 rfl) ?_
        refine lv_istore (lv' := [(10, .int (nI q)), (9, .int (nI z)), (8, .int 1), (7, .int (nI nw)), (6, .int (S 7 2)), (5, .int 0), (4, .int (nI z)), (3, .int (nI q)), (0, .ref x0), (1, .int x), (2, .int y)]) hx hb dL_change_74 hl (by decide) rfl (fun ls hl => ?_)
        refine lv_iload_n hx hb dL_change_76 rfl (lv_at hl 9 rfl) ?_
        refine lv_bipush (v := 16) hx hb dL_change_77 (by decide) ?_
        have hPc : va_P D vwCl ([]) H := hP.sub [] rfl
        have hDc : va_D A ([]) := hD.sub [] (by decide +kernel) rfl
        refine cl_i0 (va_runS (As := [.int x, .int 16]) (rest := []) ⟨hx, hb, hml, hown, hts⟩ (c_L_low_16 l D k x H.size) (va_cwS 2 hts gL_change_L_low rfl rfl rfl (by decide +kernel) ⟨Nat.le_of_ble_eq_true rfl, Nat.le_of_ble_eq_true rfl⟩) ⟨pr_blind, pr_at hN hPc hK hDc⟩ rfl rfl hl.1 rfl (lv_room (Nat.le_of_ble_eq_true rfl)) dL_change_79 ⟨Nat.le_of_ble_eq_true rfl, Nat.le_of_ble_eq_true rfl⟩) hP hD hS hA [] rfl (fun H locs hP hD hS => ?_)
        clear hPc hDc
        refine tp_e (y := 15) (congrArg nI hx16) ?_
        refine lv_tableOut (tgt := 632) hx hb dL_change_82 (by decide) (by decide) ?_
        refine lv_aload_n hx hb dL_change_632 rfl (lv_at hl 8 rfl) ?_
        obtain ⟨X_33, hO_34, hM9⟩ := o_begin (l := l) (D := D) hO_4 hns
        refine lo_I (n := 0) (As := []) (rest := []) hx hb hml hown hts hK hN hM9 (OX.at0 hO_4) gL_change_X4_begin rfl (by decide +kernel) (by decide) dL_change_633 rfl rfl (Nat.le_of_ble_eq_true rfl) hl.1 (Nat.le_of_ble_eq_true rfl) (Nat.le_of_ble_eq_true rfl) (Nat.le_of_ble_eq_true rfl) (Nat.le_of_ble_eq_true rfl) hP hD hS hA (fun H locs hP hD hS => ?_)
        clear hM9
        have hns2 : (svN ns) ≤ 6 := (svN_le hns).1
        have hL2 : LI (anS S) := LI_begin hL
        obtain ⟨f2, hSR2, -, -⟩ := id hL2
        refine lv_iload hx hb dL_change_636 (lv_at hl 3 rfl) ?_
        refine lv_icmp_ne (tgt := 666) hx hb dL_change_638 (by decide) (fun c_35 => ?_) (fun c_35 => ?_)
        · exact absurd (hn) c_35
        · refine lv_aload_n hx hb dL_change_641 rfl (lv_at hl 8 rfl) ?_
          refine lv_iconst (v := 3) hx hb dL_change_642 (by decide) ?_
          obtain ⟨X_36, hO_37, hM9⟩ := o_count_3 (l := l) (D := D) hSR2 hO_34
          refine lo_I (n := 1) (As := [.int 3]) (rest := []) hx hb hml hown hts hK hN hM9 (OX.at0 hO_34) gL_change_X4_count rfl (by decide +kernel) (by decide) dL_change_643 rfl rfl (Nat.le_of_ble_eq_true rfl) hl.1 (Nat.le_of_ble_eq_true rfl) (Nat.le_of_ble_eq_true rfl) (Nat.le_of_ble_eq_true rfl) (Nat.le_of_ble_eq_true rfl) hP hD hS hA (fun H locs hP hD hS => ?_)
          clear hM9
          refine lv_if_ne (tgt := 666) hx hb dL_change_646 (by decide) (fun c_38 => ?_) (fun c_38 => ?_)
          · exact absurd (rfl) c_38
          · refine lv_aload_n hx hb dL_change_649 rfl (lv_at hl 8 rfl) ?_
            refine lv_iconst (v := 1) hx hb dL_change_650 (by decide) ?_
            obtain ⟨X_39, hO_40, hM9⟩ := o_count_1 (l := l) (D := D) hSR2 hO_37
            refine lo_I (n := 1) (As := [.int 1]) (rest := []) hx hb hml hown hts hK hN hM9 (OX.at0 hO_37) gL_change_X4_count rfl (by decide +kernel) (by decide) dL_change_651 rfl rfl (Nat.le_of_ble_eq_true rfl) hl.1 (Nat.le_of_ble_eq_true rfl) (Nat.le_of_ble_eq_true rfl) (Nat.le_of_ble_eq_true rfl) (Nat.le_of_ble_eq_true rfl) hP hD hS hA (fun H locs hP hD hS => ?_)
            clear hM9
            refine lv_aload_n hx hb dL_change_654 rfl (lv_at hl 8 rfl) ?_
            refine lv_iconst (v := 2) hx hb dL_change_655 (by decide) ?_
            obtain ⟨X_41, hO_42, hM9⟩ := o_count_2 (l := l) (D := D) hSR2 hO_40
            refine lo_I (n := 1) (As := [.int 2]) (rest := [.int (smF ((anS S) 0) 9)]) hx hb hml hown hts hK hN hM9 (OX.at0 hO_40) gL_change_X4_count rfl (by decide +kernel) (by decide) dL_change_656 rfl rfl (Nat.le_of_ble_eq_true rfl) hl.1 (Nat.le_of_ble_eq_true rfl) (Nat.le_of_ble_eq_true rfl) (Nat.le_of_ble_eq_true rfl) (Nat.le_of_ble_eq_true rfl) hP hD hS hA (fun H locs hP hD hS => ?_)
            clear hM9
            refine lv_icmp_ne (tgt := 666) hx hb dL_change_659 (by decide) (fun c_43 => ?_) (fun c_43 => ?_)
            · exact absurd (rfl) c_43
            · refine lv_iconst (v := 1) hx hb dL_change_662 (by decide) ?_
              refine lv_goto (tgt := 667) hx hb dL_change_663 (by decide) ?_
              subst hQ
              exact rt_zo hx hb hr hlocks hS dL_change_667 (va_PR hP) (va_DR hD) rfl (⟨rfl, _, _, _, hns2, hL2, hO_42⟩)
      · have c_32 : ¬ (z ≤ q) := fun h9 => c_32 ((nI_leI (a := z) (b := q) (by omega) (by omega)).mpr h9)
        omega
    · have c_31 : ¬ (z ≤ q) := fun h9 => c_31 ((nI_leI (a := z) (b := q) (by omega) (by omega)).mpr h9)
      exact absurd c_31 (not_not_intro (by omega))

theorem c_L_change (l : Launch) (D : va_G) (k : Nat → ClassId) (x0 ns : Nat) (S : Nat → Nat → Int32) (Z : Nat → Nat → Nat → Int32) (Y0 : Nat → Nat → Int32) (k0 : Int32) (X : va_W) (x y : Int32) (hns : ns ≤ 6) (hL : LI S) (hO : OX k x0 ns S Z Y0 k0 X) : MO l yL_change wsL_change ({ frames := 31, cells := 0, slots := 0, locals := 839 }) D k [.ref x0, .int x, .int y] X (fun r X2 => r = 1 ∧ ∃ ns2 S2 Z2, ns2 ≤ 6 ∧ LI S2 ∧ OX k x0 ns2 S2 Z2 Y0 k0 X2) := by
  have h := low_lt x (n := 16) (by decide)
  rcases (show lowN x 16 = 0 ∨ lowN x 16 = 1 ∨ lowN x 16 = 2 ∨ lowN x 16 = 3 ∨ lowN x 16 = 4 ∨ lowN x 16 = 5 ∨ lowN x 16 = 6 ∨ lowN x 16 = 7 ∨ lowN x 16 = 8 ∨ lowN x 16 = 9 ∨ lowN x 16 = 10 ∨ lowN x 16 = 11 ∨ lowN x 16 = 12 ∨ lowN x 16 = 13 ∨ lowN x 16 = 14 ∨ lowN x 16 = 15 by omega) with e | e | e | e | e | e | e | e | e | e | e | e | e | e | e | e
  · exact c_L_change_0 l D k x0 ns S Z Y0 k0 X x y hns hL hO e
  · exact c_L_change_1 l D k x0 ns S Z Y0 k0 X x y hns hL hO e
  · exact c_L_change_2 l D k x0 ns S Z Y0 k0 X x y hns hL hO e
  · exact c_L_change_3 l D k x0 ns S Z Y0 k0 X x y hns hL hO e
  · exact c_L_change_4 l D k x0 ns S Z Y0 k0 X x y hns hL hO e
  · exact c_L_change_5 l D k x0 ns S Z Y0 k0 X x y hns hL hO e
  · exact c_L_change_6 l D k x0 ns S Z Y0 k0 X x y hns hL hO e
  · exact c_L_change_7 l D k x0 ns S Z Y0 k0 X x y hns hL hO e
  · exact c_L_change_8 l D k x0 ns S Z Y0 k0 X x y hns hL hO e
  · exact c_L_change_9 l D k x0 ns S Z Y0 k0 X x y hns hL hO e
  · exact c_L_change_10 l D k x0 ns S Z Y0 k0 X x y hns hL hO e
  · exact c_L_change_11 l D k x0 ns S Z Y0 k0 X x y hns hL hO e
  · exact c_L_change_12 l D k x0 ns S Z Y0 k0 X x y hns hL hO e
  · exact c_L_change_13 l D k x0 ns S Z Y0 k0 X x y hns hL hO e
  · exact c_L_change_14 l D k x0 ns S Z Y0 k0 X x y hns hL hO e
  · exact c_L_change_15 l D k x0 ns S Z Y0 k0 X x y hns hL hO e
