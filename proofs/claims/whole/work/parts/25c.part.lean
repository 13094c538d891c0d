set_option maxHeartbeats 1000000 in
set_option maxRecDepth 100000 in
theorem c_X5_behindPart (l : Launch) (D : va_G) (k : Nat → ClassId) (h : Nat → Nat) (th : Int32) (f asd sl kp sv : Nat → Int32) (sm : Int32) (tx : Nat → Int32) (ln : Nat) (dg : Int64) (i : Nat) (hln : ln ≤ 60) (hi : i ≤ 61) : MI l yX5_behindPart wsX5_behindPart ({ frames := 3, cells := 0, slots := 0, locals := 64 }) D k [.ref (h 0), .int (nI i)] (wMo k h th f asd sl kp sv sm tx (nI ln) dg) (bpM tx ln i) (wMo k h th f asd sl kp sv sm tx (nI ln) dg) := by
  intro sz
  refine Met.ofW (cc := cX5_behindPart) (maxL := 4) (ret := (some .int)) (by decide) rfl ?_
  intro p e s m args below meth c s₁ B hml hv
  obtain ⟨rfl, hN, hsz, hP, hK, hD0⟩ := hv
  have hx := B.exec
  have hb := B.bytes
  have hr := B.returns
  have hts := atoms_spec (ws := wsX5_behindPart) B.pre
  have hown : s.vm.findClass RX5 = some m.cls := findClass_of_methodNamed B.named
  have hlocks := B.notSynchronized
  subst hsz
  have hD := hD0.self (sz := s.heap.size)
  generalize hAe : va_A (wMo k h th f asd sl kp sv sm tx (nI ln) dg) s.heap.size = A at hD ⊢
  have hA : ∀ q : Nat, s.heap.size ≤ q → A q := fun q h => by rw [← hAe]; exact Or.inr h
  have hS : va_S A s.heap s.heap [] := va_S.rf
  have hl := lv_entry ([.ref (h 0), .int (nI i)]) (n := 4) (Nat.le_of_ble_eq_true rfl)
  rw [lg_entry_eq]
  generalize (lg_sl ([.ref (h 0), .int (nI i)]) ++ List.replicate (4 - (lg_sl ([.ref (h 0), .int (nI i)])).length) Slot.unset).toArray = ls at hl ⊢
  have hl : lv_has ls 4 [(0, .ref (h 0)), (1, .int (nI i))] := hl
  obtain ⟨H, hHe⟩ : ∃ H, H = s.heap := ⟨_, rfl⟩
  have hP : va_P D vwCl (wMo k h th f asd sl kp sv sm tx (nI ln) dg) H := by rw [hHe]; exact hP
  have hS : va_S A s.heap H [] := by rw [hHe]; exact hS
  rw [← hHe]
  refine absQ (fun Q hQ => ?_)
  refine lv_aload_n hx hb dX5_behindPart_0 rfl (lv_at hl 0 rfl) ?_
  refine lv_iload_n hx hb dX5_behindPart_1 rfl (lv_at hl 1 rfl) ?_
  have hPc : va_P D vwCl (wMo k h th f asd sl kp sv sm tx (nI ln) dg) H := hP.sub [0, 1, 2, 3, 4, 5, 6] rfl
  have hDc : va_D A (wMo k h th f asd sl kp sv sm tx (nI ln) dg) := hD.sub [0, 1, 2, 3, 4, 5, 6] (by decide +kernel) rfl
  refine cl_i0 (va_runV (As := [.int (nI i)]) (rest := []) ⟨hx, hb, hml, hown, hts⟩ (c_X5_charAt l D k h th f asd sl kp sv sm tx ln dg i hln (by omega) H.size) (cwV 1 hts gX5_behindPart_X5_charAt rfl rfl rfl (by decide +kernel) ⟨Nat.le_of_ble_eq_true rfl, Nat.le_of_ble_eq_true rfl⟩) ⟨pr_blind, va_recv hK hP (ci := 5) (q0 := 0) rfl rfl, pr_at hN hPc hK hDc⟩ rfl rfl hl.1 rfl (lv_room (Nat.le_of_ble_eq_true rfl)) dX5_behindPart_2 ⟨Nat.le_of_ble_eq_true rfl, Nat.le_of_ble_eq_true rfl⟩) hP hD hS hA [0, 1, 2, 3, 4, 5, 6] rfl (fun H locs hP hD hS => ?_)
  clear hPc hDc
  refine lv_istore_n (lv' := [(2, .int (caM tx ln i)), (0, .ref (h 0)), (1, .int (nI i))]) hx hb dX5_behindPart_5 rfl hl (by decide) rfl (fun ls hl => ?_)
  refine lv_iload_n hx hb dX5_behindPart_6 rfl (lv_at hl 0 rfl) ?_
  refine lv_bipush (v := 115) hx hb dX5_behindPart_7 (by decide) ?_
  refine lv_icmp_eq (tgt := 18) hx hb dX5_behindPart_9 (by decide) (fun c_1 => ?_) (fun c_1 => ?_)
  · refine lv_aload_n hx hb dX5_behindPart_18 rfl (lv_at hl 1 rfl) ?_
    refine lv_iload_n hx hb dX5_behindPart_19 rfl (lv_at hl 2 rfl) ?_
    refine lv_iconst (v := 1) hx hb dX5_behindPart_20 (by decide) ?_
    refine lv_iadd hx hb dX5_behindPart_21 ?_
    refine tp_e (y := (nI (i + 1))) (nI_add i 1) ?_
    have hPc : va_P D vwCl (wMo k h th f asd sl kp sv sm tx (nI ln) dg) H := hP.sub [0, 1, 2, 3, 4, 5, 6] rfl
    have hDc : va_D A (wMo k h th f asd sl kp sv sm tx (nI ln) dg) := hD.sub [0, 1, 2, 3, 4, 5, 6] (by decide +kernel) rfl
    refine cl_i0 (va_runV (As := [.int (nI (i + 1))]) (rest := []) ⟨hx, hb, hml, hown, hts⟩ (c_X5_digitAt l D k h th f asd sl kp sv sm tx ln dg (i + 1) hln (by omega) H.size) (cwV 1 hts gX5_behindPart_X5_digitAt rfl rfl rfl (by decide +kernel) ⟨Nat.le_of_ble_eq_true rfl, Nat.le_of_ble_eq_true rfl⟩) ⟨pr_blind, va_recv hK hP (ci := 5) (q0 := 0) rfl rfl, pr_at hN hPc hK hDc⟩ rfl rfl hl.1 rfl (lv_room (Nat.le_of_ble_eq_true rfl)) dX5_behindPart_22 ⟨Nat.le_of_ble_eq_true rfl, Nat.le_of_ble_eq_true rfl⟩) hP hD hS hA [0, 1, 2, 3, 4, 5, 6] rfl (fun H locs hP hD hS => ?_)
    clear hPc hDc
    have hPc : va_P D vwCl ([]) H := hP.sub [] rfl
    have hDc : va_D A ([]) := hD.sub [] (by decide +kernel) rfl
    refine cl_i0 (va_runS (As := [.int (dgM tx ln (i + 1))]) (rest := []) ⟨hx, hb, hml, hown, hts⟩ (c_X5_isPiece l D k (dgM tx ln (i + 1)) H.size) (va_cwS 1 hts gX5_behindPart_X5_isPiece rfl rfl rfl (by decide +kernel) ⟨Nat.le_of_ble_eq_true rfl, Nat.le_of_ble_eq_true rfl⟩) ⟨pr_blind, pr_at hN hPc hK hDc⟩ rfl rfl hl.1 rfl (lv_room (Nat.le_of_ble_eq_true rfl)) dX5_behindPart_25 ⟨Nat.le_of_ble_eq_true rfl, Nat.le_of_ble_eq_true rfl⟩) hP hD hS hA [] rfl (fun H locs hP hD hS => ?_)
    clear hPc hDc
    refine lv_if_eq (tgt := 37) hx hb dX5_behindPart_28 (by decide) (fun c_2 => ?_) (fun c_2 => ?_)
    · have c_2 := bI_eq.mp c_2
      refine lv_bipush (v := (-2)) hx hb dX5_behindPart_37 (by decide) ?_
      refine lv_iload_n hx hb dX5_behindPart_39 rfl (lv_at hl 2 rfl) ?_
      refine lv_isub hx hb dX5_behindPart_40 ?_
      subst hQ
      exact rt_i hx hb hr hlocks hS dX5_behindPart_41 (hP) (by rw [bpM, if_pos (Or.inl c_1), if_neg (by rw [c_2]; decide)])
    · have c_2 := bI_ne.mp c_2
      refine lv_iload_n hx hb dX5_behindPart_31 rfl (lv_at hl 2 rfl) ?_
      refine lv_iconst (v := 2) hx hb dX5_behindPart_32 (by decide) ?_
      refine lv_iadd hx hb dX5_behindPart_33 ?_
      refine tp_e (y := (nI (i + 2))) (nI_add i 2) ?_
      refine lv_goto (tgt := 41) hx hb dX5_behindPart_34 (by decide) ?_
      subst hQ
      exact rt_i hx hb hr hlocks hS dX5_behindPart_41 (hP) (by rw [bpM, if_pos (Or.inl c_1), if_pos c_2])
  · refine lv_iload_n hx hb dX5_behindPart_12 rfl (lv_at hl 0 rfl) ?_
    refine lv_bipush (v := 101) hx hb dX5_behindPart_13 (by decide) ?_
    refine lv_icmp_ne (tgt := 42) hx hb dX5_behindPart_15 (by decide) (fun c_3 => ?_) (fun c_3 => ?_)
    · refine lv_iload_n hx hb dX5_behindPart_42 rfl (lv_at hl 0 rfl) ?_
      refine lv_bipush (v := 106) hx hb dX5_behindPart_43 (by decide) ?_
      refine lv_icmp_eq (tgt := 54) hx hb dX5_behindPart_45 (by decide) (fun c_4 => ?_) (fun c_4 => ?_)
      · refine lv_aload_n hx hb dX5_behindPart_54 rfl (lv_at hl 1 rfl) ?_
        refine lv_iload_n hx hb dX5_behindPart_55 rfl (lv_at hl 2 rfl) ?_
        refine lv_iconst (v := 1) hx hb dX5_behindPart_56 (by decide) ?_
        refine lv_iadd hx hb dX5_behindPart_57 ?_
        refine tp_e (y := (nI (i + 1))) (nI_add i 1) ?_
        have hPc : va_P D vwCl (wMo k h th f asd sl kp sv sm tx (nI ln) dg) H := hP.sub [0, 1, 2, 3, 4, 5, 6] rfl
        have hDc : va_D A (wMo k h th f asd sl kp sv sm tx (nI ln) dg) := hD.sub [0, 1, 2, 3, 4, 5, 6] (by decide +kernel) rfl
        refine cl_i0 (va_runV (As := [.int (nI (i + 1))]) (rest := []) ⟨hx, hb, hml, hown, hts⟩ (c_X5_digitAt l D k h th f asd sl kp sv sm tx ln dg (i + 1) hln (by omega) H.size) (cwV 1 hts gX5_behindPart_X5_digitAt rfl rfl rfl (by decide +kernel) ⟨Nat.le_of_ble_eq_true rfl, Nat.le_of_ble_eq_true rfl⟩) ⟨pr_blind, va_recv hK hP (ci := 5) (q0 := 0) rfl rfl, pr_at hN hPc hK hDc⟩ rfl rfl hl.1 rfl (lv_room (Nat.le_of_ble_eq_true rfl)) dX5_behindPart_58 ⟨Nat.le_of_ble_eq_true rfl, Nat.le_of_ble_eq_true rfl⟩) hP hD hS hA [0, 1, 2, 3, 4, 5, 6] rfl (fun H locs hP hD hS => ?_)
        clear hPc hDc
        refine lv_istore_n (lv' := [(3, .int (dgM tx ln (i + 1))), (2, .int (caM tx ln i)), (0, .ref (h 0)), (1, .int (nI i))]) hx hb dX5_behindPart_61 rfl hl (by decide) rfl (fun ls hl => ?_)
        refine lv_iload_n hx hb dX5_behindPart_62 rfl (lv_at hl 0 rfl) ?_
        refine lv_iconst (v := 0) hx hb dX5_behindPart_63 (by decide) ?_
        refine lv_bipush (v := 7) hx hb dX5_behindPart_64 (by decide) ?_
        have hPc : va_P D vwCl ([]) H := hP.sub [] rfl
        have hDc : va_D A ([]) := hD.sub [] (by decide +kernel) rfl
        refine cl_i0 (va_runS (As := [.int (dgM tx ln (i + 1)), .int 0, .int 7]) (rest := []) ⟨hx, hb, hml, hown, hts⟩ (c_X5_in l D k (dgM tx ln (i + 1)) 0 7 H.size) (va_cwS 3 hts gX5_behindPart_X5_in rfl rfl rfl (by decide +kernel) ⟨Nat.le_of_ble_eq_true rfl, Nat.le_of_ble_eq_true rfl⟩) ⟨pr_blind, pr_at hN hPc hK hDc⟩ rfl rfl hl.1 rfl (lv_room (Nat.le_of_ble_eq_true rfl)) dX5_behindPart_66 ⟨Nat.le_of_ble_eq_true rfl, Nat.le_of_ble_eq_true rfl⟩) hP hD hS hA [] rfl (fun H locs hP hD hS => ?_)
        clear hPc hDc
        refine lv_if_ne (tgt := 79) hx hb dX5_behindPart_69 (by decide) (fun c_5 => ?_) (fun c_5 => ?_)
        · have c_5 := bI_ne.mp c_5
          refine lv_aload_n hx hb dX5_behindPart_79 rfl (lv_at hl 2 rfl) ?_
          refine lv_iload_n hx hb dX5_behindPart_80 rfl (lv_at hl 3 rfl) ?_
          refine lv_iconst (v := 2) hx hb dX5_behindPart_81 (by decide) ?_
          refine lv_iadd hx hb dX5_behindPart_82 ?_
          refine tp_e (y := (nI (i + 2))) (nI_add i 2) ?_
          have hPc : va_P D vwCl (wMo k h th f asd sl kp sv sm tx (nI ln) dg) H := hP.sub [0, 1, 2, 3, 4, 5, 6] rfl
          have hDc : va_D A (wMo k h th f asd sl kp sv sm tx (nI ln) dg) := hD.sub [0, 1, 2, 3, 4, 5, 6] (by decide +kernel) rfl
          refine cl_i0 (va_runV (As := [.int (nI (i + 2))]) (rest := []) ⟨hx, hb, hml, hown, hts⟩ (c_X5_digitAt l D k h th f asd sl kp sv sm tx ln dg (i + 2) hln (by omega) H.size) (cwV 1 hts gX5_behindPart_X5_digitAt rfl rfl rfl (by decide +kernel) ⟨Nat.le_of_ble_eq_true rfl, Nat.le_of_ble_eq_true rfl⟩) ⟨pr_blind, va_recv hK hP (ci := 5) (q0 := 0) rfl rfl, pr_at hN hPc hK hDc⟩ rfl rfl hl.1 rfl (lv_room (Nat.le_of_ble_eq_true rfl)) dX5_behindPart_83 ⟨Nat.le_of_ble_eq_true rfl, Nat.le_of_ble_eq_true rfl⟩) hP hD hS hA [0, 1, 2, 3, 4, 5, 6] rfl (fun H locs hP hD hS => ?_)
          clear hPc hDc
          refine lv_iload_n hx hb dX5_behindPart_86 rfl (lv_at hl 0 rfl) ?_
          refine lv_iconst (v := 1) hx hb dX5_behindPart_87 (by decide) ?_
          refine lv_iadd hx hb dX5_behindPart_88 ?_
          refine lv_bipush (v := 8) hx hb dX5_behindPart_89 (by decide) ?_
          have hPc : va_P D vwCl ([]) H := hP.sub [] rfl
          have hDc : va_D A ([]) := hD.sub [] (by decide +kernel) rfl
          refine cl_i0 (va_runS (As := [.int (dgM tx ln (i + 2)), .int ((dgM tx ln (i + 1)) + 1), .int 8]) (rest := []) ⟨hx, hb, hml, hown, hts⟩ (c_X5_in l D k (dgM tx ln (i + 2)) ((dgM tx ln (i + 1)) + 1) 8 H.size) (va_cwS 3 hts gX5_behindPart_X5_in rfl rfl rfl (by decide +kernel) ⟨Nat.le_of_ble_eq_true rfl, Nat.le_of_ble_eq_true rfl⟩) ⟨pr_blind, pr_at hN hPc hK hDc⟩ rfl rfl hl.1 rfl (lv_room (Nat.le_of_ble_eq_true rfl)) dX5_behindPart_91 ⟨Nat.le_of_ble_eq_true rfl, Nat.le_of_ble_eq_true rfl⟩) hP hD hS hA [] rfl (fun H locs hP hD hS => ?_)
          clear hPc hDc
          refine lv_if_eq (tgt := 103) hx hb dX5_behindPart_94 (by decide) (fun c_6 => ?_) (fun c_6 => ?_)
          · have c_6 := bI_eq.mp c_6
            refine lv_bipush (v := (-3)) hx hb dX5_behindPart_103 (by decide) ?_
            refine lv_iload_n hx hb dX5_behindPart_105 rfl (lv_at hl 3 rfl) ?_
            refine lv_isub hx hb dX5_behindPart_106 ?_
            subst hQ
            exact rt_i hx hb hr hlocks hS dX5_behindPart_107 (hP) (by rw [bpM, if_neg (fun h9 => h9.elim c_1 c_3), if_pos (Or.inl c_4), if_pos c_5, if_neg (by rw [c_6]; decide)])
          · have c_6 := bI_ne.mp c_6
            refine lv_iload_n hx hb dX5_behindPart_97 rfl (lv_at hl 3 rfl) ?_
            refine lv_iconst (v := 3) hx hb dX5_behindPart_98 (by decide) ?_
            refine lv_iadd hx hb dX5_behindPart_99 ?_
            refine tp_e (y := (nI (i + 3))) (nI_add i 3) ?_
            refine lv_goto (tgt := 107) hx hb dX5_behindPart_100 (by decide) ?_
            subst hQ
            exact rt_i hx hb hr hlocks hS dX5_behindPart_107 (hP) (by rw [bpM, if_neg (fun h9 => h9.elim c_1 c_3), if_pos (Or.inl c_4), if_pos c_5, if_pos c_6])
        · have c_5 := bI_eq.mp c_5
          refine lv_bipush (v := (-2)) hx hb dX5_behindPart_72 (by decide) ?_
          refine lv_iload_n hx hb dX5_behindPart_74 rfl (lv_at hl 3 rfl) ?_
          refine lv_isub hx hb dX5_behindPart_75 ?_
          refine lv_goto (tgt := 107) hx hb dX5_behindPart_76 (by decide) ?_
          subst hQ
          exact rt_i hx hb hr hlocks hS dX5_behindPart_107 (hP) (by rw [bpM, if_neg (fun h9 => h9.elim c_1 c_3), if_pos (Or.inl c_4), if_neg (by rw [c_5]; decide)])
      · refine lv_iload_n hx hb dX5_behindPart_48 rfl (lv_at hl 0 rfl) ?_
        refine lv_bipush (v := 120) hx hb dX5_behindPart_49 (by decide) ?_
        refine lv_icmp_ne (tgt := 108) hx hb dX5_behindPart_51 (by decide) (fun c_7 => ?_) (fun c_7 => ?_)
        · refine lv_iload_n hx hb dX5_behindPart_108 rfl (lv_at hl 0 rfl) ?_
          refine lv_bipush (v := 99) hx hb dX5_behindPart_109 (by decide) ?_
          refine lv_icmp_eq (tgt := 118) hx hb dX5_behindPart_111 (by decide) (fun c_8 => ?_) (fun c_8 => ?_)
          · refine lv_aload_n hx hb dX5_behindPart_118 rfl (lv_at hl 1 rfl) ?_
            refine lv_iload_n hx hb dX5_behindPart_119 rfl (lv_at hl 2 rfl) ?_
            refine lv_iconst (v := 1) hx hb dX5_behindPart_120 (by decide) ?_
            refine lv_iadd hx hb dX5_behindPart_121 ?_
            refine tp_e (y := (nI (i + 1))) (nI_add i 1) ?_
            have hPc : va_P D vwCl (wMo k h th f asd sl kp sv sm tx (nI ln) dg) H := hP.sub [0, 1, 2, 3, 4, 5, 6] rfl
            have hDc : va_D A (wMo k h th f asd sl kp sv sm tx (nI ln) dg) := hD.sub [0, 1, 2, 3, 4, 5, 6] (by decide +kernel) rfl
            refine cl_i0 (va_runV (As := [.int (nI (i + 1))]) (rest := []) ⟨hx, hb, hml, hown, hts⟩ (c_X5_digitAt l D k h th f asd sl kp sv sm tx ln dg (i + 1) hln (by omega) H.size) (cwV 1 hts gX5_behindPart_X5_digitAt rfl rfl rfl (by decide +kernel) ⟨Nat.le_of_ble_eq_true rfl, Nat.le_of_ble_eq_true rfl⟩) ⟨pr_blind, va_recv hK hP (ci := 5) (q0 := 0) rfl rfl, pr_at hN hPc hK hDc⟩ rfl rfl hl.1 rfl (lv_room (Nat.le_of_ble_eq_true rfl)) dX5_behindPart_122 ⟨Nat.le_of_ble_eq_true rfl, Nat.le_of_ble_eq_true rfl⟩) hP hD hS hA [0, 1, 2, 3, 4, 5, 6] rfl (fun H locs hP hD hS => ?_)
            clear hPc hDc
            have hPc : va_P D vwCl ([]) H := hP.sub [] rfl
            have hDc : va_D A ([]) := hD.sub [] (by decide +kernel) rfl
            refine cl_i0 (va_runS (As := [.int (dgM tx ln (i + 1))]) (rest := []) ⟨hx, hb, hml, hown, hts⟩ (c_X5_isPiece l D k (dgM tx ln (i + 1)) H.size) (va_cwS 1 hts gX5_behindPart_X5_isPiece rfl rfl rfl (by decide +kernel) ⟨Nat.le_of_ble_eq_true rfl, Nat.le_of_ble_eq_true rfl⟩) ⟨pr_blind, pr_at hN hPc hK hDc⟩ rfl rfl hl.1 rfl (lv_room (Nat.le_of_ble_eq_true rfl)) dX5_behindPart_125 ⟨Nat.le_of_ble_eq_true rfl, Nat.le_of_ble_eq_true rfl⟩) hP hD hS hA [] rfl (fun H locs hP hD hS => ?_)
            clear hPc hDc
            refine lv_if_ne (tgt := 136) hx hb dX5_behindPart_128 (by decide) (fun c_9 => ?_) (fun c_9 => ?_)
            · have c_9 := bI_ne.mp c_9
              refine lv_aload_n hx hb dX5_behindPart_136 rfl (lv_at hl 1 rfl) ?_
              refine lv_iload_n hx hb dX5_behindPart_137 rfl (lv_at hl 2 rfl) ?_
              refine lv_iconst (v := 2) hx hb dX5_behindPart_138 (by decide) ?_
              refine lv_iadd hx hb dX5_behindPart_139 ?_
              refine tp_e (y := (nI (i + 2))) (nI_add i 2) ?_
              have hPc : va_P D vwCl (wMo k h th f asd sl kp sv sm tx (nI ln) dg) H := hP.sub [0, 1, 2, 3, 4, 5, 6] rfl
              have hDc : va_D A (wMo k h th f asd sl kp sv sm tx (nI ln) dg) := hD.sub [0, 1, 2, 3, 4, 5, 6] (by decide +kernel) rfl
              refine cl_i0 (va_runV (As := [.int (nI (i + 2))]) (rest := []) ⟨hx, hb, hml, hown, hts⟩ (c_X5_charAt l D k h th f asd sl kp sv sm tx ln dg (i + 2) hln (by omega) H.size) (cwV 1 hts gX5_behindPart_X5_charAt rfl rfl rfl (by decide +kernel) ⟨Nat.le_of_ble_eq_true rfl, Nat.le_of_ble_eq_true rfl⟩) ⟨pr_blind, va_recv hK hP (ci := 5) (q0 := 0) rfl rfl, pr_at hN hPc hK hDc⟩ rfl rfl hl.1 rfl (lv_room (Nat.le_of_ble_eq_true rfl)) dX5_behindPart_140 ⟨Nat.le_of_ble_eq_true rfl, Nat.le_of_ble_eq_true rfl⟩) hP hD hS hA [0, 1, 2, 3, 4, 5, 6] rfl (fun H locs hP hD hS => ?_)
              clear hPc hDc
              refine lv_bipush (v := 61) hx hb dX5_behindPart_143 (by decide) ?_
              refine lv_icmp_eq (tgt := 153) hx hb dX5_behindPart_145 (by decide) (fun c_10 => ?_) (fun c_10 => ?_)
              · refine lv_aload_n hx hb dX5_behindPart_153 rfl (lv_at hl 1 rfl) ?_
                refine lv_iload_n hx hb dX5_behindPart_154 rfl (lv_at hl 2 rfl) ?_
                refine lv_iconst (v := 3) hx hb dX5_behindPart_155 (by decide) ?_
                refine lv_iadd hx hb dX5_behindPart_156 ?_
                refine tp_e (y := (nI (i + 3))) (nI_add i 3) ?_
                have hbn := bnM_le tx ln (i + 3)
                have hPc : va_P D vwCl (wMo k h th f asd sl kp sv sm tx (nI ln) dg) H := hP.sub [0, 1, 2, 3, 4, 5, 6] rfl
                have hDc : va_D A (wMo k h th f asd sl kp sv sm tx (nI ln) dg) := hD.sub [0, 1, 2, 3, 4, 5, 6] (by decide +kernel) rfl
                refine cl_i0 (va_runV (As := [.int (nI (i + 3))]) (rest := []) ⟨hx, hb, hml, hown, hts⟩ (c_X5_behindNumber l D k h th f asd sl kp sv sm tx ln dg (i + 3) hln (by omega) H.size) (cwV 1 hts gX5_behindPart_X5_behindNumber rfl rfl rfl (by decide +kernel) ⟨Nat.le_of_ble_eq_true rfl, Nat.le_of_ble_eq_true rfl⟩) ⟨pr_blind, va_recv hK hP (ci := 5) (q0 := 0) rfl rfl, pr_at hN hPc hK hDc⟩ rfl rfl hl.1 rfl (lv_room (Nat.le_of_ble_eq_true rfl)) dX5_behindPart_157 ⟨Nat.le_of_ble_eq_true rfl, Nat.le_of_ble_eq_true rfl⟩) hP hD hS hA [0, 1, 2, 3, 4, 5, 6] rfl (fun H locs hP hD hS => ?_)
                clear hPc hDc
                refine lv_istore_n (lv' := [(3, .int (nI (bnM tx ln (i + 3)))), (2, .int (caM tx ln i)), (0, .ref (h 0)), (1, .int (nI i))]) hx hb dX5_behindPart_160 rfl hl (by decide) rfl (fun ls hl => ?_)
                refine lv_iload_n hx hb dX5_behindPart_161 rfl (lv_at hl 0 rfl) ?_
                refine lv_iload_n hx hb dX5_behindPart_162 rfl (lv_at hl 3 rfl) ?_
                refine lv_iconst (v := 3) hx hb dX5_behindPart_163 (by decide) ?_
                refine lv_iadd hx hb dX5_behindPart_164 ?_
                refine tp_e (y := (nI (i + 3))) (nI_add i 3) ?_
                refine lv_icmp_ne (tgt := 175) hx hb dX5_behindPart_165 (by decide) (fun c_11 => ?_) (fun c_11 => ?_)
                · have c_11 : ¬ (bnM tx ln (i + 3) = i + 3) := fun h9 => c_11 ((nI_eq (a := bnM tx ln (i + 3)) (b := i + 3) (by omega) (by omega)).mpr h9)
                  refine lv_iload_n hx hb dX5_behindPart_175 rfl (lv_at hl 0 rfl) ?_
                  subst hQ
                  exact rt_i hx hb hr hlocks hS dX5_behindPart_176 (hP) (by rw [bpM, if_neg (fun h9 => h9.elim c_1 c_3), if_neg (fun h9 => h9.elim c_4 c_7), if_pos c_8, if_pos c_9, if_pos c_10, if_neg c_11])
                · have c_11 : bnM tx ln (i + 3) = i + 3 := (nI_eq (a := bnM tx ln (i + 3)) (b := i + 3) (by omega) (by omega)).mp c_11
                  refine lv_bipush (v := (-4)) hx hb dX5_behindPart_168 (by decide) ?_
                  refine lv_iload_n hx hb dX5_behindPart_170 rfl (lv_at hl 3 rfl) ?_
                  refine lv_isub hx hb dX5_behindPart_171 ?_
                  refine lv_goto (tgt := 176) hx hb dX5_behindPart_172 (by decide) ?_
                  subst hQ
                  exact rt_i hx hb hr hlocks hS dX5_behindPart_176 (hP) (by rw [bpM, if_neg (fun h9 => h9.elim c_1 c_3), if_neg (fun h9 => h9.elim c_4 c_7), if_pos c_8, if_pos c_9, if_pos c_10, if_pos c_11])
              · refine lv_bipush (v := (-3)) hx hb dX5_behindPart_148 (by decide) ?_
                refine lv_iload_n hx hb dX5_behindPart_150 rfl (lv_at hl 2 rfl) ?_
                refine lv_isub hx hb dX5_behindPart_151 ?_
                subst hQ
                exact rt_i hx hb hr hlocks hS dX5_behindPart_152 (hP) (by rw [bpM, if_neg (fun h9 => h9.elim c_1 c_3), if_neg (fun h9 => h9.elim c_4 c_7), if_pos c_8, if_pos c_9, if_neg c_10])
            · have c_9 := bI_eq.mp c_9
              refine lv_bipush (v := (-2)) hx hb dX5_behindPart_131 (by decide) ?_
              refine lv_iload_n hx hb dX5_behindPart_133 rfl (lv_at hl 2 rfl) ?_
              refine lv_isub hx hb dX5_behindPart_134 ?_
              subst hQ
              exact rt_i hx hb hr hlocks hS dX5_behindPart_135 (hP) (by rw [bpM, if_neg (fun h9 => h9.elim c_1 c_3), if_neg (fun h9 => h9.elim c_4 c_7), if_pos c_8, if_neg (by rw [c_9]; decide)])
          · refine lv_iconst (v := (-1)) hx hb dX5_behindPart_114 (by decide) ?_
            refine lv_iload_n hx hb dX5_behindPart_115 rfl (lv_at hl 2 rfl) ?_
            refine lv_isub hx hb dX5_behindPart_116 ?_
            subst hQ
            exact rt_i hx hb hr hlocks hS dX5_behindPart_117 (hP) (by rw [bpM, if_neg (fun h9 => h9.elim c_1 c_3), if_neg (fun h9 => h9.elim c_4 c_7), if_neg c_8])
        · refine lv_aload_n hx hb dX5_behindPart_54 rfl (lv_at hl 1 rfl) ?_
          refine lv_iload_n hx hb dX5_behindPart_55 rfl (lv_at hl 2 rfl) ?_
          refine lv_iconst (v := 1) hx hb dX5_behindPart_56 (by decide) ?_
          refine lv_iadd hx hb dX5_behindPart_57 ?_
          refine tp_e (y := (nI (i + 1))) (nI_add i 1) ?_
          have hPc : va_P D vwCl (wMo k h th f asd sl kp sv sm tx (nI ln) dg) H := hP.sub [0, 1, 2, 3, 4, 5, 6] rfl
          have hDc : va_D A (wMo k h th f asd sl kp sv sm tx (nI ln) dg) := hD.sub [0, 1, 2, 3, 4, 5, 6] (by decide +kernel) rfl
          refine cl_i0 (va_runV (As := [.int (nI (i + 1))]) (rest := []) ⟨hx, hb, hml, hown, hts⟩ (c_X5_digitAt l D k h th f asd sl kp sv sm tx ln dg (i + 1) hln (by omega) H.size) (cwV 1 hts gX5_behindPart_X5_digitAt rfl rfl rfl (by decide +kernel) ⟨Nat.le_of_ble_eq_true rfl, Nat.le_of_ble_eq_true rfl⟩) ⟨pr_blind, va_recv hK hP (ci := 5) (q0 := 0) rfl rfl, pr_at hN hPc hK hDc⟩ rfl rfl hl.1 rfl (lv_room (Nat.le_of_ble_eq_true rfl)) dX5_behindPart_58 ⟨Nat.le_of_ble_eq_true rfl, Nat.le_of_ble_eq_true rfl⟩) hP hD hS hA [0, 1, 2, 3, 4, 5, 6] rfl (fun H locs hP hD hS => ?_)
          clear hPc hDc
          refine lv_istore_n (lv' := [(3, .int (dgM tx ln (i + 1))), (2, .int (caM tx ln i)), (0, .ref (h 0)), (1, .int (nI i))]) hx hb dX5_behindPart_61 rfl hl (by decide) rfl (fun ls hl => ?_)
          refine lv_iload_n hx hb dX5_behindPart_62 rfl (lv_at hl 0 rfl) ?_
          refine lv_iconst (v := 0) hx hb dX5_behindPart_63 (by decide) ?_
          refine lv_bipush (v := 7) hx hb dX5_behindPart_64 (by decide) ?_
          have hPc : va_P D vwCl ([]) H := hP.sub [] rfl
          have hDc : va_D A ([]) := hD.sub [] (by decide +kernel) rfl
          refine cl_i0 (va_runS (As := [.int (dgM tx ln (i + 1)), .int 0, .int 7]) (rest := []) ⟨hx, hb, hml, hown, hts⟩ (c_X5_in l D k (dgM tx ln (i + 1)) 0 7 H.size) (va_cwS 3 hts gX5_behindPart_X5_in rfl rfl rfl (by decide +kernel) ⟨Nat.le_of_ble_eq_true rfl, Nat.le_of_ble_eq_true rfl⟩) ⟨pr_blind, pr_at hN hPc hK hDc⟩ rfl rfl hl.1 rfl (lv_room (Nat.le_of_ble_eq_true rfl)) dX5_behindPart_66 ⟨Nat.le_of_ble_eq_true rfl, Nat.le_of_ble_eq_true rfl⟩) hP hD hS hA [] rfl (fun H locs hP hD hS => ?_)
          clear hPc hDc
          refine lv_if_ne (tgt := 79) hx hb dX5_behindPart_69 (by decide) (fun c_12 => ?_) (fun c_12 => ?_)
          · have c_12 := bI_ne.mp c_12
            refine lv_aload_n hx hb dX5_behindPart_79 rfl (lv_at hl 2 rfl) ?_
            refine lv_iload_n hx hb dX5_behindPart_80 rfl (lv_at hl 3 rfl) ?_
            refine lv_iconst (v := 2) hx hb dX5_behindPart_81 (by decide) ?_
            refine lv_iadd hx hb dX5_behindPart_82 ?_
            refine tp_e (y := (nI (i + 2))) (nI_add i 2) ?_
            have hPc : va_P D vwCl (wMo k h th f asd sl kp sv sm tx (nI ln) dg) H := hP.sub [0, 1, 2, 3, 4, 5, 6] rfl
            have hDc : va_D A (wMo k h th f asd sl kp sv sm tx (nI ln) dg) := hD.sub [0, 1, 2, 3, 4, 5, 6] (by decide +kernel) rfl
            refine cl_i0 (va_runV (As := [.int (nI (i + 2))]) (rest := []) ⟨hx, hb, hml, hown, hts⟩ (c_X5_digitAt l D k h th f asd sl kp sv sm tx ln dg (i + 2) hln (by omega) H.size) (cwV 1 hts gX5_behindPart_X5_digitAt rfl rfl rfl (by decide +kernel) ⟨Nat.le_of_ble_eq_true rfl, Nat.le_of_ble_eq_true rfl⟩) ⟨pr_blind, va_recv hK hP (ci := 5) (q0 := 0) rfl rfl, pr_at hN hPc hK hDc⟩ rfl rfl hl.1 rfl (lv_room (Nat.le_of_ble_eq_true rfl)) dX5_behindPart_83 ⟨Nat.le_of_ble_eq_true rfl, Nat.le_of_ble_eq_true rfl⟩) hP hD hS hA [0, 1, 2, 3, 4, 5, 6] rfl (fun H locs hP hD hS => ?_)
            clear hPc hDc
            refine lv_iload_n hx hb dX5_behindPart_86 rfl (lv_at hl 0 rfl) ?_
            refine lv_iconst (v := 1) hx hb dX5_behindPart_87 (by decide) ?_
            refine lv_iadd hx hb dX5_behindPart_88 ?_
            refine lv_bipush (v := 8) hx hb dX5_behindPart_89 (by decide) ?_
            have hPc : va_P D vwCl ([]) H := hP.sub [] rfl
            have hDc : va_D A ([]) := hD.sub [] (by decide +kernel) rfl
            refine cl_i0 (va_runS (As := [.int (dgM tx ln (i + 2)), .int ((dgM tx ln (i + 1)) + 1), .int 8]) (rest := []) ⟨hx, hb, hml, hown, hts⟩ (c_X5_in l D k (dgM tx ln (i + 2)) ((dgM tx ln (i + 1)) + 1) 8 H.size) (va_cwS 3 hts gX5_behindPart_X5_in rfl rfl rfl (by decide +kernel) ⟨Nat.le_of_ble_eq_true rfl, Nat.le_of_ble_eq_true rfl⟩) ⟨pr_blind, pr_at hN hPc hK hDc⟩ rfl rfl hl.1 rfl (lv_room (Nat.le_of_ble_eq_true rfl)) dX5_behindPart_91 ⟨Nat.le_of_ble_eq_true rfl, Nat.le_of_ble_eq_true rfl⟩) hP hD hS hA [] rfl (fun H locs hP hD hS => ?_)
            clear hPc hDc
            refine lv_if_eq (tgt := 103) hx hb dX5_behindPart_94 (by decide) (fun c_13 => ?_) (fun c_13 => ?_)
            · have c_13 := bI_eq.mp c_13
              refine lv_bipush (v := (-3)) hx hb dX5_behindPart_103 (by decide) ?_
              refine lv_iload_n hx hb dX5_behindPart_105 rfl (lv_at hl 3 rfl) ?_
              refine lv_isub hx hb dX5_behindPart_106 ?_
              subst hQ
              exact rt_i hx hb hr hlocks hS dX5_behindPart_107 (hP) (by rw [bpM, if_neg (fun h9 => h9.elim c_1 c_3), if_pos (Or.inr c_7), if_pos c_12, if_neg (by rw [c_13]; decide)])
            · have c_13 := bI_ne.mp c_13
              refine lv_iload_n hx hb dX5_behindPart_97 rfl (lv_at hl 3 rfl) ?_
              refine lv_iconst (v := 3) hx hb dX5_behindPart_98 (by decide) ?_
              refine lv_iadd hx hb dX5_behindPart_99 ?_
              refine tp_e (y := (nI (i + 3))) (nI_add i 3) ?_
              refine lv_goto (tgt := 107) hx hb dX5_behindPart_100 (by decide) ?_
              subst hQ
              exact rt_i hx hb hr hlocks hS dX5_behindPart_107 (hP) (by rw [bpM, if_neg (fun h9 => h9.elim c_1 c_3), if_pos (Or.inr c_7), if_pos c_12, if_pos c_13])
          · have c_12 := bI_eq.mp c_12
            refine lv_bipush (v := (-2)) hx hb dX5_behindPart_72 (by decide) ?_
            refine lv_iload_n hx hb dX5_behindPart_74 rfl (lv_at hl 3 rfl) ?_
            refine lv_isub hx hb dX5_behindPart_75 ?_
            refine lv_goto (tgt := 107) hx hb dX5_behindPart_76 (by decide) ?_
            subst hQ
            exact rt_i hx hb hr hlocks hS dX5_behindPart_107 (hP) (by rw [bpM, if_neg (fun h9 => h9.elim c_1 c_3), if_pos (Or.inr c_7), if_neg (by rw [c_12]; decide)])
    · refine lv_aload_n hx hb dX5_behindPart_18 rfl (lv_at hl 1 rfl) ?_
      refine lv_iload_n hx hb dX5_behindPart_19 rfl (lv_at hl 2 rfl) ?_
      refine lv_iconst (v := 1) hx hb dX5_behindPart_20 (by decide) ?_
      refine lv_iadd hx hb dX5_behindPart_21 ?_
      refine tp_e (y := (nI (i + 1))) (nI_add i 1) ?_
      have hPc : va_P D vwCl (wMo k h th f asd sl kp sv sm tx (nI ln) dg) H := hP.sub [0, 1, 2, 3, 4, 5, 6] rfl
      have hDc : va_D A (wMo k h th f asd sl kp sv sm tx (nI ln) dg) := hD.sub [0, 1, 2, 3, 4, 5, 6] (by decide +kernel) rfl
      refine cl_i0 (va_runV (As := [.int (nI (i + 1))]) (rest := []) ⟨hx, hb, hml, hown, hts⟩ (c_X5_digitAt l D k h th f asd sl kp sv sm tx ln dg (i + 1) hln (by omega) H.size) (cwV 1 hts gX5_behindPart_X5_digitAt rfl rfl rfl (by decide +kernel) ⟨Nat.le_of_ble_eq_true rfl, Nat.le_of_ble_eq_true rfl⟩) ⟨pr_blind, va_recv hK hP (ci := 5) (q0 := 0) rfl rfl, pr_at hN hPc hK hDc⟩ rfl rfl hl.1 rfl (lv_room (Nat.le_of_ble_eq_true rfl)) dX5_behindPart_22 ⟨Nat.le_of_ble_eq_true rfl, Nat.le_of_ble_eq_true rfl⟩) hP hD hS hA [0, 1, 2, 3, 4, 5, 6] rfl (fun H locs hP hD hS => ?_)
      clear hPc hDc
      have hPc : va_P D vwCl ([]) H := hP.sub [] rfl
      have hDc : va_D A ([]) := hD.sub [] (by decide +kernel) rfl
      refine cl_i0 (va_runS (As := [.int (dgM tx ln (i + 1))]) (rest := []) ⟨hx, hb, hml, hown, hts⟩ (c_X5_isPiece l D k (dgM tx ln (i + 1)) H.size) (va_cwS 1 hts gX5_behindPart_X5_isPiece rfl rfl rfl (by decide +kernel) ⟨Nat.le_of_ble_eq_true rfl, Nat.le_of_ble_eq_true rfl⟩) ⟨pr_blind, pr_at hN hPc hK hDc⟩ rfl rfl hl.1 rfl (lv_room (Nat.le_of_ble_eq_true rfl)) dX5_behindPart_25 ⟨Nat.le_of_ble_eq_true rfl, Nat.le_of_ble_eq_true rfl⟩) hP hD hS hA [] rfl (fun H locs hP hD hS => ?_)
      clear hPc hDc
      refine lv_if_eq (tgt := 37) hx hb dX5_behindPart_28 (by decide) (fun c_14 => ?_) (fun c_14 => ?_)
      · have c_14 := bI_eq.mp c_14
        refine lv_bipush (v := (-2)) hx hb dX5_behindPart_37 (by decide) ?_
        refine lv_iload_n hx hb dX5_behindPart_39 rfl (lv_at hl 2 rfl) ?_
        refine lv_isub hx hb dX5_behindPart_40 ?_
        subst hQ
        exact rt_i hx hb hr hlocks hS dX5_behindPart_41 (hP) (by rw [bpM, if_pos (Or.inr c_3), if_neg (by rw [c_14]; decide)])
      · have c_14 := bI_ne.mp c_14
        refine lv_iload_n hx hb dX5_behindPart_31 rfl (lv_at hl 2 rfl) ?_
        refine lv_iconst (v := 2) hx hb dX5_behindPart_32 (by decide) ?_
        refine lv_iadd hx hb dX5_behindPart_33 ?_
        refine tp_e (y := (nI (i + 2))) (nI_add i 2) ?_
        refine lv_goto (tgt := 41) hx hb dX5_behindPart_34 (by decide) ?_
        subst hQ
        exact rt_i hx hb hr hlocks hS dX5_behindPart_41 (hP) (by rw [bpM, if_pos (Or.inr c_3), if_pos c_14])
