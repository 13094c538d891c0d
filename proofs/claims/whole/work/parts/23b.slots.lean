set_option maxHeartbeats 1000000 in
set_option maxRecDepth 100000 in
theorem c_X5_keep_0 (l : Launch) (D : va_G) (k : Nat → ClassId) (h : Nat → Nat) (th : Int32) (f asd sl kp sv : Nat → Int32) (sm : Int32) (tx : Nat → Int32) (ln : Int32) (dg : Int64)  : MI l yX5_keep wsX5_keep ({ frames := 2, cells := 0, slots := 0, locals := 44 }) D k [.ref (h 0), .int 0] (wMo k h th f asd sl kp sv sm tx ln dg) (jnM f 9) (wMo k h 0 f asd (bkF sl f 0 72) (upd kp 0 1) sv sm tx ln dg) := by
  intro sz
  refine Met.ofW (cc := cX5_keep) (maxL := 3) (ret := (some .int)) (by decide) rfl ?_
  intro p e s m args below meth c s₁ B hml hv
  obtain ⟨rfl, hN, hsz, hP, hK, hD0⟩ := hv
  have hx := B.exec
  have hb := B.bytes
  have hr := B.returns
  have hts := atoms_spec (ws := wsX5_keep) B.pre
  have hown : s.vm.findClass RX5 = some m.cls := findClass_of_methodNamed B.named
  have hlocks := B.notSynchronized
  subst hsz
  have hD := hD0.self (sz := s.heap.size)
  generalize hAe : va_A (wMo k h th f asd sl kp sv sm tx ln dg) s.heap.size = A at hD ⊢
  have hA : ∀ q : Nat, s.heap.size ≤ q → A q := fun q h => by rw [← hAe]; exact Or.inr h
  have hS : va_S A s.heap s.heap [] := va_S.rf
  have hl := lv_entry ([.ref (h 0), .int 0]) (n := 3) (Nat.le_of_ble_eq_true rfl)
  rw [lg_entry_eq]
  generalize (lg_sl ([.ref (h 0), .int 0]) ++ List.replicate (3 - (lg_sl ([.ref (h 0), .int 0])).length) Slot.unset).toArray = ls at hl ⊢
  have hl : lv_has ls 3 [(0, .ref (h 0)), (1, .int 0)] := hl
  obtain ⟨H, hHe⟩ : ∃ H, H = s.heap := ⟨_, rfl⟩
  have hP : va_P D vwCl (wMo k h th f asd sl kp sv sm tx ln dg) H := by rw [hHe]; exact hP
  have hS : va_S A s.heap H [] := by rw [hHe]; exact hS
  rw [← hHe]
  refine absQ (fun Q hQ => ?_)
  refine lv_aload_n hx hb dX5_keep_0 rfl (lv_at hl 0 rfl) ?_
  refine lv_iload_n hx hb dX5_keep_1 rfl (lv_at hl 1 rfl) ?_
  refine lv_iconst (v := 0) hx hb dX5_keep_2 (by decide) ?_
  refine lv_iconst (v := 1) hx hb dX5_keep_3 (by decide) ?_
  have hPc : va_P D vwCl ([]) H := hP.sub [] rfl
  have hDc : va_D A ([]) := hD.sub [] (by decide +kernel) rfl
  refine cl_i0 (va_runS (As := [.int 0, .int 0, .int 1]) (rest := [.ref (h 0)]) ⟨hx, hb, hml, hown, hts⟩ (c_X5_in l D k 0 0 1 H.size) (va_cwS 3 hts gX5_keep_X5_in rfl rfl rfl (by decide +kernel) ⟨Nat.le_of_ble_eq_true rfl, Nat.le_of_ble_eq_true rfl⟩) ⟨pr_blind, pr_at hN hPc hK hDc⟩ rfl rfl hl.1 rfl (lv_room (Nat.le_of_ble_eq_true rfl)) dX5_keep_4 ⟨Nat.le_of_ble_eq_true rfl, Nat.le_of_ble_eq_true rfl⟩) hP hD hS hA [] rfl (fun H locs hP hD hS => ?_)
  clear hPc hDc
  refine lv_if_eq (tgt := 14) hx hb dX5_keep_7 (by decide) (fun c_1 => ?_) (fun c_1 => ?_)
  · have c_1 := bI_eq.mp c_1
    exact absurd c_1 (by rw [(show inB 0 0 1 = true by decide)]; decide)
  · have c_1 := bI_ne.mp c_1
    refine lv_iconst (v := 0) hx hb dX5_keep_10 (by decide) ?_
    refine lv_goto (tgt := 15) hx hb dX5_keep_11 (by decide) ?_
    have hPc : va_P D vwCl (wMo k h th f asd sl kp sv sm tx ln dg) H := hP.sub [0, 1, 2, 3, 4, 5, 6] rfl
    have hDc : va_D A (wMo k h th f asd sl kp sv sm tx ln dg) := hD.sub [0, 1, 2, 3, 4, 5, 6] (by decide +kernel) rfl
    refine cl_i (va_runV (As := [.int 0]) (rest := []) ⟨hx, hb, hml, hown, hts⟩ (c_X5_holds l D k h th f asd sl kp sv sm tx ln dg 0 H.size) (cwV 1 hts gX5_keep_X5_holds rfl rfl rfl (by decide +kernel) ⟨Nat.le_of_ble_eq_true rfl, Nat.le_of_ble_eq_true rfl⟩) ⟨pr_blind, va_recv hK hP (ci := 5) (q0 := 0) rfl rfl, pr_at hN hPc hK hDc⟩ rfl rfl hl.1 rfl (lv_room (Nat.le_of_ble_eq_true rfl)) dX5_keep_15 ⟨Nat.le_of_ble_eq_true rfl, Nat.le_of_ble_eq_true rfl⟩) hP hD hS hA [0, 1, 2, 3, 4, 5, 6] [] ([]) [h 0, h 1, h 2, h 3, h 4, h 5, h 6] 7 rfl (wn := wMo k h 0 f asd sl kp sv sm tx ln dg) rfl rfl rfl rfl (by decide +kernel) rfl rfl (fun H locs hP hD hS => ?_)
    clear hPc hDc
    refine tp_e (y := 1) (by decide) ?_
    refine lv_if_ne (tgt := 23) hx hb dX5_keep_18 (by decide) (fun c_2 => ?_) (fun c_2 => ?_)
    · refine lv_iconst (v := 0) hx hb dX5_keep_23 (by decide) ?_
      refine lv_istore_n (lv' := [(2, .int 0), (0, .ref (h 0)), (1, .int 0)]) hx hb dX5_keep_24 rfl hl (by decide) rfl (fun ls hl => ?_)
      suffices LOOP_i : ∀ (fu_i i : Nat) (g : Nat → Int32), 72 - i < fu_i → i ≤ 72 → g = bkF sl f 0 i → ∀ (H : Heap) (locs : List Loc) (ls : Array Slot), va_P D vwCl ([(h 0, .inr (5, [.int 0, .ref (h 1), .ref (h 2), .ref (h 3), .ref (h 4), .ref (h 5), .int sm, .ref (h 6), .int ln, .long dg])), (h 1, .inl (k 0, 72, .inl f)), (h 2, .inl (k 0, 72, .inl asd)), (h 3, .inl (k 0, 144, .inl g)), (h 4, .inl (k 1, 2, .inl kp)), (h 5, .inl (k 0, 432, .inl sv)), (h 6, .inl (k 0, 60, .inl tx))]) H → va_D A ([(h 0, .inr (5, [.int 0, .ref (h 1), .ref (h 2), .ref (h 3), .ref (h 4), .ref (h 5), .int sm, .ref (h 6), .int ln, .long dg])), (h 1, .inl (k 0, 72, .inl f)), (h 2, .inl (k 0, 72, .inl asd)), (h 3, .inl (k 0, 144, .inl g)), (h 4, .inl (k 1, 2, .inl kp)), (h 5, .inl (k 0, 432, .inl sv)), (h 6, .inl (k 0, 60, .inl tx))]) → va_S A s.heap H locs → lv_has ls 3 [(2, .int (nI i)), (0, .ref (h 0)), (1, .int 0)] → W p l e ({ frames := 2, cells := 0, slots := 0, locals := 44 } : Room) s m ([.ref (h 0), .int 0] : List Value).toArray below meth c H locs 0 0 Q (F0 m 25 ls []) from LOOP_i (72 + 1) 0 sl (by omega) (by omega) ((bkF_0 _ _ _).symm)  _ _ _ hP hD hS (lv_sub hl [0, 1, 2] rfl)
      clear hP hD hS hl hHe
      intro fu_i
      induction fu_i with
      | zero => intro i g hn_i; omega
      | succ fu_i ih_i =>
        intro i g hn_i hle_i e_g  H locs ls hP hD hS hl
        refine lv_iload_n hx hb dX5_keep_25 rfl (lv_at hl 0 rfl) ?_
        refine lv_bipush (v := 72) hx hb dX5_keep_26 (by decide) ?_
        refine lv_icmp_ge (tgt := 54) hx hb dX5_keep_28 (by decide) (fun c_3 => ?_) (fun c_3 => ?_)
        · have c_3 : 72 ≤ i := (nI_leI (a := 72) (b := i) (by omega) (by omega)).mp c_3
          have hz_i : 72 = i := by omega
          subst hz_i
          subst e_g
          refine lv_aload_n hx hb dX5_keep_54 rfl (lv_at hl 1 rfl) ?_
          refine va_get (D := D) (ci := 5) (v := .ref (h 4)) (C := RX5) (T := TX5) (N := 10) hx hb hts (fun _ h9 => (List.mem_cons_of_mem _ (List.mem_append_right _ h9))) hown hK hP 0 rfl rfl 4 (by decide) (hts _ (List.mem_of_getElem? (i := 3) rfl)) (fun _ h9 => h9) rfl dX5_keep_55 ?_
          refine lv_iload_n hx hb dX5_keep_58 rfl (lv_at hl 2 rfl) ?_
          refine lv_iconst (v := 1) hx hb dX5_keep_59 (by decide) ?_
          refine ar_zst hx hb hK hP hD hS 4 rfl 0 rfl (show vp_in (nI 0) 2 from vp_in_nI (by decide) (by decide)) (by decide) dX5_keep_60 (wn := [(h 0, .inr (5, [.int 0, .ref (h 1), .ref (h 2), .ref (h 3), .ref (h 4), .ref (h 5), .int sm, .ref (h 6), .int ln, .long dg])), (h 1, .inl (k 0, 72, .inl f)), (h 2, .inl (k 0, 72, .inl asd)), (h 3, .inl (k 0, 144, .inl (bkF sl f 0 72))), (h 4, .inl (k 1, 2, .inl (upd kp 0 1))), (h 5, .inl (k 0, 432, .inl sv)), (h 6, .inl (k 0, 60, .inl tx))]) rfl (fun H locs hP hD hS => ?_)
          refine lv_aload_n hx hb dX5_keep_61 rfl (lv_at hl 1 rfl) ?_
          have hPc : va_P D vwCl (wMo k h 0 f asd (bkF sl f 0 72) (upd kp 0 1) sv sm tx ln dg) H := hP.sub [0, 1, 2, 3, 4, 5, 6] rfl
          have hDc : va_D A (wMo k h 0 f asd (bkF sl f 0 72) (upd kp 0 1) sv sm tx ln dg) := hD.sub [0, 1, 2, 3, 4, 5, 6] (by decide +kernel) rfl
          refine cl_i (va_runV (As := []) (rest := []) ⟨hx, hb, hml, hown, hts⟩ (c_X5_joins l D k h 0 f asd (bkF sl f 0 72) (upd kp 0 1) sv sm tx ln dg  H.size) (cwV 0 hts gX5_keep_X5_joins rfl rfl rfl (by decide +kernel) ⟨Nat.le_of_ble_eq_true rfl, Nat.le_of_ble_eq_true rfl⟩) ⟨pr_blind, va_recv hK hP (ci := 5) (q0 := 0) rfl rfl, pr_at hN hPc hK hDc⟩ rfl rfl hl.1 rfl (lv_room (Nat.le_of_ble_eq_true rfl)) dX5_keep_62 ⟨Nat.le_of_ble_eq_true rfl, Nat.le_of_ble_eq_true rfl⟩) hP hD hS hA [0, 1, 2, 3, 4, 5, 6] [] ([]) [h 0, h 1, h 2, h 3, h 4, h 5, h 6] 7 rfl (wn := wMo k h 0 f asd (bkF sl f 0 72) (upd kp 0 1) sv sm tx ln dg) rfl rfl rfl rfl (by decide +kernel) rfl rfl (fun H locs hP hD hS => ?_)
          clear hPc hDc
          subst hQ
          exact rt_i hx hb hr hlocks hS dX5_keep_65 (hP) (rfl)
        · have c_3 : ¬ (72 ≤ i) := fun h9 => c_3 ((nI_leI (a := 72) (b := i) (by omega) (by omega)).mpr h9)
          refine lv_aload_n hx hb dX5_keep_31 rfl (lv_at hl 1 rfl) ?_
          refine va_get (D := D) (ci := 5) (v := .ref (h 3)) (C := RX5) (T := TX5) (N := 10) hx hb hts (fun _ h9 => (List.mem_cons_of_mem _ (List.mem_append_right _ h9))) hown hK hP 0 rfl rfl 3 (by decide) (hts _ (List.mem_of_getElem? (i := 1) rfl)) (fun _ h9 => h9) rfl dX5_keep_32 ?_
          refine lv_bipush (v := 72) hx hb dX5_keep_35 (by decide) ?_
          refine lv_iload_n hx hb dX5_keep_37 rfl (lv_at hl 2 rfl) ?_
          refine lv_imul hx hb dX5_keep_38 ?_
          refine tp_e (y := 0) (by decide) ?_
          refine lv_iload_n hx hb dX5_keep_39 rfl (lv_at hl 0 rfl) ?_
          refine lv_iadd hx hb dX5_keep_40 ?_
          refine tp_e (y := (nI (0 + i))) (nI_add 0 i) ?_
          refine lv_aload_n hx hb dX5_keep_41 rfl (lv_at hl 1 rfl) ?_
          refine va_get (D := D) (ci := 5) (v := .ref (h 1)) (C := RX5) (T := TX5) (N := 10) hx hb hts (fun _ h9 => (List.mem_cons_of_mem _ (List.mem_append_right _ h9))) hown hK hP 0 rfl rfl 1 (by decide) (hts _ (List.mem_of_getElem? (i := 2) rfl)) (fun _ h9 => h9) rfl dX5_keep_42 ?_
          refine lv_iload_n hx hb dX5_keep_45 rfl (lv_at hl 0 rfl) ?_
          refine ar_ld hx hb hK hP 1 rfl i (nI_clamp (by omega)) (vp_in_nI (by omega) (by omega)) dX5_keep_46 ?_
          refine ar_st hx hb hK hP hD hS 3 rfl (0 + i) (nI_clamp (by omega)) (vp_in_nI (by omega) (by omega)) dX5_keep_47 (wn := [(h 0, .inr (5, [.int 0, .ref (h 1), .ref (h 2), .ref (h 3), .ref (h 4), .ref (h 5), .int sm, .ref (h 6), .int ln, .long dg])), (h 1, .inl (k 0, 72, .inl f)), (h 2, .inl (k 0, 72, .inl asd)), (h 3, .inl (k 0, 144, .inl (upd g (0 + i) (f i)))), (h 4, .inl (k 1, 2, .inl kp)), (h 5, .inl (k 0, 432, .inl sv)), (h 6, .inl (k 0, 60, .inl tx))]) rfl (fun H locs hP hD hS => ?_)
          refine lv_iinc (v := (nI (i + 1))) (lv' := [(2, .int (nI (i + 1))), (0, .ref (h 0)), (1, .int 0)]) hx hb dX5_keep_48 hl (k := 0) rfl (nI_1 i) (by decide) rfl (fun ls hl => ?_)
          refine lv_goto (tgt := 25) hx hb dX5_keep_51 (by decide) ?_
          exact ih_i (i + 1) (upd g (0 + i) (f i)) (by omega) (by omega) (by rw [e_g]; exact bkF_s sl f 0 i)  _ _ _ hP hD hS (lv_sub hl [0, 1, 2] rfl)
    · exact absurd c_2 (by decide)

set_option maxHeartbeats 1000000 in
set_option maxRecDepth 100000 in
theorem c_X5_goBack_0 (l : Launch) (D : va_G) (k : Nat → ClassId) (h : Nat → Nat) (th : Int32) (f asd sl kp sv : Nat → Int32) (tx : Nat → Int32) (ln : Int32) (dg : Int64) (n : Nat) (hn : n ≤ 6) (hkp : kp 0 = 1) : MI l yX5_goBack wsX5_goBack ({ frames := 2, cells := 0, slots := 0, locals := 44 }) D k [.ref (h 0), .int 0] (wMo k h th f asd sl kp sv (nI n) tx ln dg) (jnM (sliceM sl 0) 9) (wMo k h 0 (sliceM sl 0) asd sl kp (svM sv f n) (nI (snM n)) tx ln dg) := by
  intro sz
  refine Met.ofW (cc := cX5_goBack) (maxL := 4) (ret := (some .int)) (by decide) rfl ?_
  intro p e s m args below meth c s₁ B hml hv
  obtain ⟨rfl, hN, hsz, hP, hK, hD0⟩ := hv
  have hx := B.exec
  have hb := B.bytes
  have hr := B.returns
  have hts := atoms_spec (ws := wsX5_goBack) B.pre
  have hown : s.vm.findClass RX5 = some m.cls := findClass_of_methodNamed B.named
  have hlocks := B.notSynchronized
  subst hsz
  have hD := hD0.self (sz := s.heap.size)
  generalize hAe : va_A (wMo k h th f asd sl kp sv (nI n) tx ln dg) s.heap.size = A at hD ⊢
  have hA : ∀ q : Nat, s.heap.size ≤ q → A q := fun q h => by rw [← hAe]; exact Or.inr h
  have hS : va_S A s.heap s.heap [] := va_S.rf
  have hl := lv_entry ([.ref (h 0), .int 0]) (n := 4) (Nat.le_of_ble_eq_true rfl)
  rw [lg_entry_eq]
  generalize (lg_sl ([.ref (h 0), .int 0]) ++ List.replicate (4 - (lg_sl ([.ref (h 0), .int 0])).length) Slot.unset).toArray = ls at hl ⊢
  have hl : lv_has ls 4 [(0, .ref (h 0)), (1, .int 0)] := hl
  obtain ⟨H, hHe⟩ : ∃ H, H = s.heap := ⟨_, rfl⟩
  have hP : va_P D vwCl (wMo k h th f asd sl kp sv (nI n) tx ln dg) H := by rw [hHe]; exact hP
  have hS : va_S A s.heap H [] := by rw [hHe]; exact hS
  rw [← hHe]
  refine absQ (fun Q hQ => ?_)
  refine lv_iload_n hx hb dX5_goBack_0 rfl (lv_at hl 1 rfl) ?_
  refine lv_iconst (v := 0) hx hb dX5_goBack_1 (by decide) ?_
  refine lv_iconst (v := 1) hx hb dX5_goBack_2 (by decide) ?_
  have hPc : va_P D vwCl ([]) H := hP.sub [] rfl
  have hDc : va_D A ([]) := hD.sub [] (by decide +kernel) rfl
  refine cl_i0 (va_runS (As := [.int 0, .int 0, .int 1]) (rest := []) ⟨hx, hb, hml, hown, hts⟩ (c_X5_in l D k 0 0 1 H.size) (va_cwS 3 hts gX5_goBack_X5_in rfl rfl rfl (by decide +kernel) ⟨Nat.le_of_ble_eq_true rfl, Nat.le_of_ble_eq_true rfl⟩) ⟨pr_blind, pr_at hN hPc hK hDc⟩ rfl rfl hl.1 rfl (lv_room (Nat.le_of_ble_eq_true rfl)) dX5_goBack_3 ⟨Nat.le_of_ble_eq_true rfl, Nat.le_of_ble_eq_true rfl⟩) hP hD hS hA [] rfl (fun H locs hP hD hS => ?_)
  clear hPc hDc
  refine lv_istore_n (lv' := [(2, .int (bI (inB 0 0 1))), (0, .ref (h 0)), (1, .int 0)]) hx hb dX5_goBack_6 rfl hl (by decide) rfl (fun ls hl => ?_)
  refine lv_aload_n hx hb dX5_goBack_7 rfl (lv_at hl 1 rfl) ?_
  refine lv_iload_n hx hb dX5_goBack_8 rfl (lv_at hl 0 rfl) ?_
  refine lv_if_ne (tgt := 16) hx hb dX5_goBack_9 (by decide) (fun c_1 => ?_) (fun c_1 => ?_)
  · have c_1 := bI_ne.mp c_1
    refine lv_aload_n hx hb dX5_goBack_16 rfl (lv_at hl 1 rfl) ?_
    refine va_get (D := D) (ci := 5) (v := .ref (h 4)) (C := RX5) (T := TX5) (N := 10) hx hb hts (fun _ h9 => (List.mem_cons_of_mem _ (List.mem_append_right _ h9))) hown hK hP 0 rfl rfl 4 (by decide) (hts _ (List.mem_of_getElem? (i := 1) rfl)) (fun _ h9 => h9) rfl dX5_goBack_17 ?_
    refine lv_iload_n hx hb dX5_goBack_20 rfl (lv_at hl 2 rfl) ?_
    refine ar_zld hx hb hK hP 4 rfl 0 rfl (show vp_in (nI 0) 2 from vp_in_nI (by decide) (by decide)) dX5_goBack_21 ?_
    refine lv_if_ne (tgt := 29) hx hb dX5_goBack_22 (by decide) (fun c_2 => ?_) (fun c_2 => ?_)
    · refine lv_iconst (v := 0) hx hb dX5_goBack_29 (by decide) ?_
      have hPc : va_P D vwCl (wMo k h th f asd sl kp sv (nI n) tx ln dg) H := hP.sub [0, 1, 2, 3, 4, 5, 6] rfl
      have hDc : va_D A (wMo k h th f asd sl kp sv (nI n) tx ln dg) := hD.sub [0, 1, 2, 3, 4, 5, 6] (by decide +kernel) rfl
      refine cl_i (va_runV (As := [.int 0]) (rest := []) ⟨hx, hb, hml, hown, hts⟩ (c_X5_holds l D k h th f asd sl kp sv (nI n) tx ln dg 0 H.size) (cwV 1 hts gX5_goBack_X5_holds rfl rfl rfl (by decide +kernel) ⟨Nat.le_of_ble_eq_true rfl, Nat.le_of_ble_eq_true rfl⟩) ⟨pr_blind, va_recv hK hP (ci := 5) (q0 := 0) rfl rfl, pr_at hN hPc hK hDc⟩ rfl rfl hl.1 rfl (lv_room (Nat.le_of_ble_eq_true rfl)) dX5_goBack_30 ⟨Nat.le_of_ble_eq_true rfl, Nat.le_of_ble_eq_true rfl⟩) hP hD hS hA [0, 1, 2, 3, 4, 5, 6] [] ([]) [h 0, h 1, h 2, h 3, h 4, h 5, h 6] 7 rfl (wn := wMo k h 0 f asd sl kp sv (nI n) tx ln dg) rfl rfl rfl rfl (by decide +kernel) rfl rfl (fun H locs hP hD hS => ?_)
      clear hPc hDc
      refine tp_e (y := 1) (by decide) ?_
      refine lv_if_ne (tgt := 38) hx hb dX5_goBack_33 (by decide) (fun c_3 => ?_) (fun c_3 => ?_)
      · refine lv_aload_n hx hb dX5_goBack_38 rfl (lv_at hl 1 rfl) ?_
        have hPc : va_P D vwCl (wMo k h 0 f asd sl kp sv (nI n) tx ln dg) H := hP.sub [0, 1, 2, 3, 4, 5, 6] rfl
        have hDc : va_D A (wMo k h 0 f asd sl kp sv (nI n) tx ln dg) := hD.sub [0, 1, 2, 3, 4, 5, 6] (by decide +kernel) rfl
        refine cl_v (va_runV (As := []) (rest := []) ⟨hx, hb, hml, hown, hts⟩ (c_X5_save l D k h 0 f asd sl kp sv tx ln dg n hn H.size) (cwV 0 hts gX5_goBack_X5_save rfl rfl rfl (by decide +kernel) ⟨Nat.le_of_ble_eq_true rfl, Nat.le_of_ble_eq_true rfl⟩) ⟨pr_blind, va_recv hK hP (ci := 5) (q0 := 0) rfl rfl, pr_at hN hPc hK hDc⟩ rfl rfl hl.1 rfl (lv_room (Nat.le_of_ble_eq_true rfl)) dX5_goBack_39 ⟨Nat.le_of_ble_eq_true rfl, Nat.le_of_ble_eq_true rfl⟩) hP hD hS hA [0, 1, 2, 3, 4, 5, 6] [] ([]) [h 0, h 1, h 2, h 3, h 4, h 5, h 6] 7 rfl (wn := wMo k h 0 f asd sl kp (svM sv f n) (nI (snM n)) tx ln dg) rfl rfl rfl rfl (by decide +kernel) rfl rfl (fun H locs hP hD hS => ?_)
        clear hPc hDc
        refine lv_iconst (v := 0) hx hb dX5_goBack_42 (by decide) ?_
        refine lv_istore_n (lv' := [(3, .int 0), (2, .int (bI (inB 0 0 1))), (0, .ref (h 0)), (1, .int 0)]) hx hb dX5_goBack_43 rfl hl (by decide) rfl (fun ls hl => ?_)
        suffices LOOP_i : ∀ (fu_i i : Nat) (g : Nat → Int32), 72 - i < fu_i → i ≤ 72 → g = fil (sliceM sl 0) f i → ∀ (H : Heap) (locs : List Loc) (ls : Array Slot), va_P D vwCl ([(h 0, .inr (5, [.int 0, .ref (h 1), .ref (h 2), .ref (h 3), .ref (h 4), .ref (h 5), .int (nI (snM n)), .ref (h 6), .int ln, .long dg])), (h 1, .inl (k 0, 72, .inl g)), (h 2, .inl (k 0, 72, .inl asd)), (h 3, .inl (k 0, 144, .inl sl)), (h 4, .inl (k 1, 2, .inl kp)), (h 5, .inl (k 0, 432, .inl (svM sv f n))), (h 6, .inl (k 0, 60, .inl tx))]) H → va_D A ([(h 0, .inr (5, [.int 0, .ref (h 1), .ref (h 2), .ref (h 3), .ref (h 4), .ref (h 5), .int (nI (snM n)), .ref (h 6), .int ln, .long dg])), (h 1, .inl (k 0, 72, .inl g)), (h 2, .inl (k 0, 72, .inl asd)), (h 3, .inl (k 0, 144, .inl sl)), (h 4, .inl (k 1, 2, .inl kp)), (h 5, .inl (k 0, 432, .inl (svM sv f n))), (h 6, .inl (k 0, 60, .inl tx))]) → va_S A s.heap H locs → lv_has ls 4 [(3, .int (nI i)), (2, .int (bI (inB 0 0 1))), (0, .ref (h 0)), (1, .int 0)] → W p l e ({ frames := 2, cells := 0, slots := 0, locals := 44 } : Room) s m ([.ref (h 0), .int 0] : List Value).toArray below meth c H locs 0 0 Q (F0 m 44 ls []) from LOOP_i (72 + 1) 0 f (by omega) (by omega) ((fil_0 _ _).symm)  _ _ _ hP hD hS (lv_sub hl [0, 1, 2, 3] rfl)
        clear hP hD hS hl hHe
        intro fu_i
        induction fu_i with
        | zero => intro i g hn_i; omega
        | succ fu_i ih_i =>
          intro i g hn_i hle_i e_g  H locs ls hP hD hS hl
          refine lv_iload_n hx hb dX5_goBack_44 rfl (lv_at hl 0 rfl) ?_
          refine lv_bipush (v := 72) hx hb dX5_goBack_45 (by decide) ?_
          refine lv_icmp_ge (tgt := 73) hx hb dX5_goBack_47 (by decide) (fun c_4 => ?_) (fun c_4 => ?_)
          · have c_4 : 72 ≤ i := (nI_leI (a := 72) (b := i) (by omega) (by omega)).mp c_4
            have hz_i : 72 = i := by omega
            subst hz_i
            subst e_g
            have hP : va_P D vwCl ([(h 0, .inr (5, [.int 0, .ref (h 1), .ref (h 2), .ref (h 3), .ref (h 4), .ref (h 5), .int (nI (snM n)), .ref (h 6), .int ln, .long dg])), (h 1, .inl (k 0, 72, .inl (sliceM sl 0))), (h 2, .inl (k 0, 72, .inl asd)), (h 3, .inl (k 0, 144, .inl sl)), (h 4, .inl (k 1, 2, .inl kp)), (h 5, .inl (k 0, 432, .inl (svM sv f n))), (h 6, .inl (k 0, 60, .inl tx))]) H := va_P.ext hP hD 1 rfl (sliceM sl 0) (fil_in _ _ _)
            have hD : va_D A ([(h 0, .inr (5, [.int 0, .ref (h 1), .ref (h 2), .ref (h 3), .ref (h 4), .ref (h 5), .int (nI (snM n)), .ref (h 6), .int ln, .long dg])), (h 1, .inl (k 0, 72, .inl (sliceM sl 0))), (h 2, .inl (k 0, 72, .inl asd)), (h 3, .inl (k 0, 144, .inl sl)), (h 4, .inl (k 1, 2, .inl kp)), (h 5, .inl (k 0, 432, .inl (svM sv f n))), (h 6, .inl (k 0, 60, .inl tx))]) := hD.addr rfl
            refine lv_aload_n hx hb dX5_goBack_73 rfl (lv_at hl 2 rfl) ?_
            have hPc : va_P D vwCl (wMo k h 0 (sliceM sl 0) asd sl kp (svM sv f n) (nI (snM n)) tx ln dg) H := hP.sub [0, 1, 2, 3, 4, 5, 6] rfl
            have hDc : va_D A (wMo k h 0 (sliceM sl 0) asd sl kp (svM sv f n) (nI (snM n)) tx ln dg) := hD.sub [0, 1, 2, 3, 4, 5, 6] (by decide +kernel) rfl
            refine cl_i (va_runV (As := []) (rest := []) ⟨hx, hb, hml, hown, hts⟩ (c_X5_joins l D k h 0 (sliceM sl 0) asd sl kp (svM sv f n) (nI (snM n)) tx ln dg  H.size) (cwV 0 hts gX5_goBack_X5_joins rfl rfl rfl (by decide +kernel) ⟨Nat.le_of_ble_eq_true rfl, Nat.le_of_ble_eq_true rfl⟩) ⟨pr_blind, va_recv hK hP (ci := 5) (q0 := 0) rfl rfl, pr_at hN hPc hK hDc⟩ rfl rfl hl.1 rfl (lv_room (Nat.le_of_ble_eq_true rfl)) dX5_goBack_74 ⟨Nat.le_of_ble_eq_true rfl, Nat.le_of_ble_eq_true rfl⟩) hP hD hS hA [0, 1, 2, 3, 4, 5, 6] [] ([]) [h 0, h 1, h 2, h 3, h 4, h 5, h 6] 7 rfl (wn := wMo k h 0 (sliceM sl 0) asd sl kp (svM sv f n) (nI (snM n)) tx ln dg) rfl rfl rfl rfl (by decide +kernel) rfl rfl (fun H locs hP hD hS => ?_)
            clear hPc hDc
            subst hQ
            exact rt_i hx hb hr hlocks hS dX5_goBack_77 (hP) (rfl)
          · have c_4 : ¬ (72 ≤ i) := fun h9 => c_4 ((nI_leI (a := 72) (b := i) (by omega) (by omega)).mpr h9)
            refine lv_aload_n hx hb dX5_goBack_50 rfl (lv_at hl 2 rfl) ?_
            refine va_get (D := D) (ci := 5) (v := .ref (h 1)) (C := RX5) (T := TX5) (N := 10) hx hb hts (fun _ h9 => (List.mem_cons_of_mem _ (List.mem_append_right _ h9))) hown hK hP 0 rfl rfl 1 (by decide) (hts _ (List.mem_of_getElem? (i := 2) rfl)) (fun _ h9 => h9) rfl dX5_goBack_51 ?_
            refine lv_iload_n hx hb dX5_goBack_54 rfl (lv_at hl 0 rfl) ?_
            refine lv_aload_n hx hb dX5_goBack_55 rfl (lv_at hl 2 rfl) ?_
            refine va_get (D := D) (ci := 5) (v := .ref (h 3)) (C := RX5) (T := TX5) (N := 10) hx hb hts (fun _ h9 => (List.mem_cons_of_mem _ (List.mem_append_right _ h9))) hown hK hP 0 rfl rfl 3 (by decide) (hts _ (List.mem_of_getElem? (i := 3) rfl)) (fun _ h9 => h9) rfl dX5_goBack_56 ?_
            refine lv_bipush (v := 72) hx hb dX5_goBack_59 (by decide) ?_
            refine lv_iload_n hx hb dX5_goBack_61 rfl (lv_at hl 3 rfl) ?_
            refine lv_imul hx hb dX5_goBack_62 ?_
            refine tp_e (y := 0) (by decide) ?_
            refine lv_iload_n hx hb dX5_goBack_63 rfl (lv_at hl 0 rfl) ?_
            refine lv_iadd hx hb dX5_goBack_64 ?_
            refine tp_e (y := (nI (0 + i))) (nI_add 0 i) ?_
            refine ar_ld hx hb hK hP 3 rfl (0 + i) (nI_clamp (by omega)) (vp_in_nI (by omega) (by omega)) dX5_goBack_65 ?_
            refine ar_st hx hb hK hP hD hS 1 rfl i (nI_clamp (by omega)) (vp_in_nI (by omega) (by omega)) dX5_goBack_66 (wn := [(h 0, .inr (5, [.int 0, .ref (h 1), .ref (h 2), .ref (h 3), .ref (h 4), .ref (h 5), .int (nI (snM n)), .ref (h 6), .int ln, .long dg])), (h 1, .inl (k 0, 72, .inl (upd g i (sl (0 + i))))), (h 2, .inl (k 0, 72, .inl asd)), (h 3, .inl (k 0, 144, .inl sl)), (h 4, .inl (k 1, 2, .inl kp)), (h 5, .inl (k 0, 432, .inl (svM sv f n))), (h 6, .inl (k 0, 60, .inl tx))]) rfl (fun H locs hP hD hS => ?_)
            refine lv_iinc (v := (nI (i + 1))) (lv' := [(3, .int (nI (i + 1))), (2, .int (bI (inB 0 0 1))), (0, .ref (h 0)), (1, .int 0)]) hx hb dX5_goBack_67 hl (k := 0) rfl (nI_1 i) (by decide) rfl (fun ls hl => ?_)
            refine lv_goto (tgt := 44) hx hb dX5_goBack_70 (by decide) ?_
            exact ih_i (i + 1) (upd g i (sl (0 + i))) (by omega) (by omega) (by rw [e_g]; exact fil_s (sliceM sl 0) f i)  _ _ _ hP hD hS (lv_sub hl [0, 1, 2, 3] rfl)
      · exact absurd c_3 (by decide)
    · exact absurd c_2 (by rw [hkp]; decide)
  · have c_1 := bI_eq.mp c_1
    exact absurd c_1 (by rw [(show inB 0 0 1 = true by decide)]; decide)

set_option maxHeartbeats 1000000 in
set_option maxRecDepth 100000 in
theorem c_X5_goBack_x2_0 (l : Launch) (D : va_G) (k : Nat → ClassId) (h : Nat → Nat) (th : Int32) (f asd sl kp sv : Nat → Int32) (sm : Int32) (tx : Nat → Int32) (ln : Int32) (dg : Int64) (hkp : kp 0 = 0) : MI l yX5_goBack wsX5_goBack ({ frames := 1, cells := 0, slots := 0, locals := 22 }) D k [.ref (h 0), .int 0] (wMo k h th f asd sl kp sv sm tx ln dg) 0 (wMo k h 2 f asd sl kp sv sm tx ln dg) := by
  intro sz
  refine Met.ofW (cc := cX5_goBack) (maxL := 4) (ret := (some .int)) (by decide) rfl ?_
  intro p e s m args below meth c s₁ B hml hv
  obtain ⟨rfl, hN, hsz, hP, hK, hD0⟩ := hv
  have hx := B.exec
  have hb := B.bytes
  have hr := B.returns
  have hts := atoms_spec (ws := wsX5_goBack) B.pre
  have hown : s.vm.findClass RX5 = some m.cls := findClass_of_methodNamed B.named
  have hlocks := B.notSynchronized
  subst hsz
  have hD := hD0.self (sz := s.heap.size)
  generalize hAe : va_A (wMo k h th f asd sl kp sv sm tx ln dg) s.heap.size = A at hD ⊢
  have hA : ∀ q : Nat, s.heap.size ≤ q → A q := fun q h => by rw [← hAe]; exact Or.inr h
  have hS : va_S A s.heap s.heap [] := va_S.rf
  have hl := lv_entry ([.ref (h 0), .int 0]) (n := 4) (Nat.le_of_ble_eq_true rfl)
  rw [lg_entry_eq]
  generalize (lg_sl ([.ref (h 0), .int 0]) ++ List.replicate (4 - (lg_sl ([.ref (h 0), .int 0])).length) Slot.unset).toArray = ls at hl ⊢
  have hl : lv_has ls 4 [(0, .ref (h 0)), (1, .int 0)] := hl
  obtain ⟨H, hHe⟩ : ∃ H, H = s.heap := ⟨_, rfl⟩
  have hP : va_P D vwCl (wMo k h th f asd sl kp sv sm tx ln dg) H := by rw [hHe]; exact hP
  have hS : va_S A s.heap H [] := by rw [hHe]; exact hS
  rw [← hHe]
  refine absQ (fun Q hQ => ?_)
  refine lv_iload_n hx hb dX5_goBack_0 rfl (lv_at hl 1 rfl) ?_
  refine lv_iconst (v := 0) hx hb dX5_goBack_1 (by decide) ?_
  refine lv_iconst (v := 1) hx hb dX5_goBack_2 (by decide) ?_
  have hPc : va_P D vwCl ([]) H := hP.sub [] rfl
  have hDc : va_D A ([]) := hD.sub [] (by decide +kernel) rfl
  refine cl_i0 (va_runS (As := [.int 0, .int 0, .int 1]) (rest := []) ⟨hx, hb, hml, hown, hts⟩ (c_X5_in l D k 0 0 1 H.size) (va_cwS 3 hts gX5_goBack_X5_in rfl rfl rfl (by decide +kernel) ⟨Nat.le_of_ble_eq_true rfl, Nat.le_of_ble_eq_true rfl⟩) ⟨pr_blind, pr_at hN hPc hK hDc⟩ rfl rfl hl.1 rfl (lv_room (Nat.le_of_ble_eq_true rfl)) dX5_goBack_3 ⟨Nat.le_of_ble_eq_true rfl, Nat.le_of_ble_eq_true rfl⟩) hP hD hS hA [] rfl (fun H locs hP hD hS => ?_)
  clear hPc hDc
  refine lv_istore_n (lv' := [(2, .int (bI (inB 0 0 1))), (0, .ref (h 0)), (1, .int 0)]) hx hb dX5_goBack_6 rfl hl (by decide) rfl (fun ls hl => ?_)
  refine lv_aload_n hx hb dX5_goBack_7 rfl (lv_at hl 1 rfl) ?_
  refine lv_iload_n hx hb dX5_goBack_8 rfl (lv_at hl 0 rfl) ?_
  refine lv_if_ne (tgt := 16) hx hb dX5_goBack_9 (by decide) (fun c_1 => ?_) (fun c_1 => ?_)
  · have c_1 := bI_ne.mp c_1
    refine lv_aload_n hx hb dX5_goBack_16 rfl (lv_at hl 1 rfl) ?_
    refine va_get (D := D) (ci := 5) (v := .ref (h 4)) (C := RX5) (T := TX5) (N := 10) hx hb hts (fun _ h9 => (List.mem_cons_of_mem _ (List.mem_append_right _ h9))) hown hK hP 0 rfl rfl 4 (by decide) (hts _ (List.mem_of_getElem? (i := 1) rfl)) (fun _ h9 => h9) rfl dX5_goBack_17 ?_
    refine lv_iload_n hx hb dX5_goBack_20 rfl (lv_at hl 2 rfl) ?_
    refine ar_zld hx hb hK hP 4 rfl 0 rfl (show vp_in (nI 0) 2 from vp_in_nI (by decide) (by decide)) dX5_goBack_21 ?_
    refine lv_if_ne (tgt := 29) hx hb dX5_goBack_22 (by decide) (fun c_2 => ?_) (fun c_2 => ?_)
    · exact absurd hkp c_2
    · refine lv_iconst (v := 2) hx hb dX5_goBack_25 (by decide) ?_
      refine lv_goto (tgt := 30) hx hb dX5_goBack_26 (by decide) ?_
      have hPc : va_P D vwCl (wMo k h th f asd sl kp sv sm tx ln dg) H := hP.sub [0, 1, 2, 3, 4, 5, 6] rfl
      have hDc : va_D A (wMo k h th f asd sl kp sv sm tx ln dg) := hD.sub [0, 1, 2, 3, 4, 5, 6] (by decide +kernel) rfl
      refine cl_i (va_runV (As := [.int 2]) (rest := []) ⟨hx, hb, hml, hown, hts⟩ (c_X5_holds l D k h th f asd sl kp sv sm tx ln dg 2 H.size) (cwV 1 hts gX5_goBack_X5_holds rfl rfl rfl (by decide +kernel) ⟨Nat.le_of_ble_eq_true rfl, Nat.le_of_ble_eq_true rfl⟩) ⟨pr_blind, va_recv hK hP (ci := 5) (q0 := 0) rfl rfl, pr_at hN hPc hK hDc⟩ rfl rfl hl.1 rfl (lv_room (Nat.le_of_ble_eq_true rfl)) dX5_goBack_30 ⟨Nat.le_of_ble_eq_true rfl, Nat.le_of_ble_eq_true rfl⟩) hP hD hS hA [0, 1, 2, 3, 4, 5, 6] [] ([]) [h 0, h 1, h 2, h 3, h 4, h 5, h 6] 7 rfl (wn := wMo k h 2 f asd sl kp sv sm tx ln dg) rfl rfl rfl rfl (by decide +kernel) rfl rfl (fun H locs hP hD hS => ?_)
      clear hPc hDc
      refine tp_e (y := 0) (by decide) ?_
      refine lv_if_ne (tgt := 38) hx hb dX5_goBack_33 (by decide) (fun c_3 => ?_) (fun c_3 => ?_)
      · exact absurd c_3 (by decide)
      · refine lv_iconst (v := 0) hx hb dX5_goBack_36 (by decide) ?_
        subst hQ
        exact rt_i hx hb hr hlocks hS dX5_goBack_37 (hP) (rfl)
  · have c_1 := bI_eq.mp c_1
    exact absurd c_1 (by rw [(show inB 0 0 1 = true by decide)]; decide)

set_option maxHeartbeats 1000000 in
set_option maxRecDepth 100000 in
theorem c_X5_keep_1 (l : Launch) (D : va_G) (k : Nat → ClassId) (h : Nat → Nat) (th : Int32) (f asd sl kp sv : Nat → Int32) (sm : Int32) (tx : Nat → Int32) (ln : Int32) (dg : Int64)  : MI l yX5_keep wsX5_keep ({ frames := 2, cells := 0, slots := 0, locals := 44 }) D k [.ref (h 0), .int 1] (wMo k h th f asd sl kp sv sm tx ln dg) (jnM f 9) (wMo k h 0 f asd (bkF sl f 72 72) (upd kp 1 1) sv sm tx ln dg) := by
  intro sz
  refine Met.ofW (cc := cX5_keep) (maxL := 3) (ret := (some .int)) (by decide) rfl ?_
  intro p e s m args below meth c s₁ B hml hv
  obtain ⟨rfl, hN, hsz, hP, hK, hD0⟩ := hv
  have hx := B.exec
  have hb := B.bytes
  have hr := B.returns
  have hts := atoms_spec (ws := wsX5_keep) B.pre
  have hown : s.vm.findClass RX5 = some m.cls := findClass_of_methodNamed B.named
  have hlocks := B.notSynchronized
  subst hsz
  have hD := hD0.self (sz := s.heap.size)
  generalize hAe : va_A (wMo k h th f asd sl kp sv sm tx ln dg) s.heap.size = A at hD ⊢
  have hA : ∀ q : Nat, s.heap.size ≤ q → A q := fun q h => by rw [← hAe]; exact Or.inr h
  have hS : va_S A s.heap s.heap [] := va_S.rf
  have hl := lv_entry ([.ref (h 0), .int 1]) (n := 3) (Nat.le_of_ble_eq_true rfl)
  rw [lg_entry_eq]
  generalize (lg_sl ([.ref (h 0), .int 1]) ++ List.replicate (3 - (lg_sl ([.ref (h 0), .int 1])).length) Slot.unset).toArray = ls at hl ⊢
  have hl : lv_has ls 3 [(0, .ref (h 0)), (1, .int 1)] := hl
  obtain ⟨H, hHe⟩ : ∃ H, H = s.heap := ⟨_, rfl⟩
  have hP : va_P D vwCl (wMo k h th f asd sl kp sv sm tx ln dg) H := by rw [hHe]; exact hP
  have hS : va_S A s.heap H [] := by rw [hHe]; exact hS
  rw [← hHe]
  refine absQ (fun Q hQ => ?_)
  refine lv_aload_n hx hb dX5_keep_0 rfl (lv_at hl 0 rfl) ?_
  refine lv_iload_n hx hb dX5_keep_1 rfl (lv_at hl 1 rfl) ?_
  refine lv_iconst (v := 0) hx hb dX5_keep_2 (by decide) ?_
  refine lv_iconst (v := 1) hx hb dX5_keep_3 (by decide) ?_
  have hPc : va_P D vwCl ([]) H := hP.sub [] rfl
  have hDc : va_D A ([]) := hD.sub [] (by decide +kernel) rfl
  refine cl_i0 (va_runS (As := [.int 1, .int 0, .int 1]) (rest := [.ref (h 0)]) ⟨hx, hb, hml, hown, hts⟩ (c_X5_in l D k 1 0 1 H.size) (va_cwS 3 hts gX5_keep_X5_in rfl rfl rfl (by decide +kernel) ⟨Nat.le_of_ble_eq_true rfl, Nat.le_of_ble_eq_true rfl⟩) ⟨pr_blind, pr_at hN hPc hK hDc⟩ rfl rfl hl.1 rfl (lv_room (Nat.le_of_ble_eq_true rfl)) dX5_keep_4 ⟨Nat.le_of_ble_eq_true rfl, Nat.le_of_ble_eq_true rfl⟩) hP hD hS hA [] rfl (fun H locs hP hD hS => ?_)
  clear hPc hDc
  refine lv_if_eq (tgt := 14) hx hb dX5_keep_7 (by decide) (fun c_1 => ?_) (fun c_1 => ?_)
  · have c_1 := bI_eq.mp c_1
    exact absurd c_1 (by rw [(show inB 1 0 1 = true by decide)]; decide)
  · have c_1 := bI_ne.mp c_1
    refine lv_iconst (v := 0) hx hb dX5_keep_10 (by decide) ?_
    refine lv_goto (tgt := 15) hx hb dX5_keep_11 (by decide) ?_
    have hPc : va_P D vwCl (wMo k h th f asd sl kp sv sm tx ln dg) H := hP.sub [0, 1, 2, 3, 4, 5, 6] rfl
    have hDc : va_D A (wMo k h th f asd sl kp sv sm tx ln dg) := hD.sub [0, 1, 2, 3, 4, 5, 6] (by decide +kernel) rfl
    refine cl_i (va_runV (As := [.int 0]) (rest := []) ⟨hx, hb, hml, hown, hts⟩ (c_X5_holds l D k h th f asd sl kp sv sm tx ln dg 0 H.size) (cwV 1 hts gX5_keep_X5_holds rfl rfl rfl (by decide +kernel) ⟨Nat.le_of_ble_eq_true rfl, Nat.le_of_ble_eq_true rfl⟩) ⟨pr_blind, va_recv hK hP (ci := 5) (q0 := 0) rfl rfl, pr_at hN hPc hK hDc⟩ rfl rfl hl.1 rfl (lv_room (Nat.le_of_ble_eq_true rfl)) dX5_keep_15 ⟨Nat.le_of_ble_eq_true rfl, Nat.le_of_ble_eq_true rfl⟩) hP hD hS hA [0, 1, 2, 3, 4, 5, 6] [] ([]) [h 0, h 1, h 2, h 3, h 4, h 5, h 6] 7 rfl (wn := wMo k h 0 f asd sl kp sv sm tx ln dg) rfl rfl rfl rfl (by decide +kernel) rfl rfl (fun H locs hP hD hS => ?_)
    clear hPc hDc
    refine tp_e (y := 1) (by decide) ?_
    refine lv_if_ne (tgt := 23) hx hb dX5_keep_18 (by decide) (fun c_2 => ?_) (fun c_2 => ?_)
    · refine lv_iconst (v := 0) hx hb dX5_keep_23 (by decide) ?_
      refine lv_istore_n (lv' := [(2, .int 0), (0, .ref (h 0)), (1, .int 1)]) hx hb dX5_keep_24 rfl hl (by decide) rfl (fun ls hl => ?_)
      suffices LOOP_i : ∀ (fu_i i : Nat) (g : Nat → Int32), 72 - i < fu_i → i ≤ 72 → g = bkF sl f 72 i → ∀ (H : Heap) (locs : List Loc) (ls : Array Slot), va_P D vwCl ([(h 0, .inr (5, [.int 0, .ref (h 1), .ref (h 2), .ref (h 3), .ref (h 4), .ref (h 5), .int sm, .ref (h 6), .int ln, .long dg])), (h 1, .inl (k 0, 72, .inl f)), (h 2, .inl (k 0, 72, .inl asd)), (h 3, .inl (k 0, 144, .inl g)), (h 4, .inl (k 1, 2, .inl kp)), (h 5, .inl (k 0, 432, .inl sv)), (h 6, .inl (k 0, 60, .inl tx))]) H → va_D A ([(h 0, .inr (5, [.int 0, .ref (h 1), .ref (h 2), .ref (h 3), .ref (h 4), .ref (h 5), .int sm, .ref (h 6), .int ln, .long dg])), (h 1, .inl (k 0, 72, .inl f)), (h 2, .inl (k 0, 72, .inl asd)), (h 3, .inl (k 0, 144, .inl g)), (h 4, .inl (k 1, 2, .inl kp)), (h 5, .inl (k 0, 432, .inl sv)), (h 6, .inl (k 0, 60, .inl tx))]) → va_S A s.heap H locs → lv_has ls 3 [(2, .int (nI i)), (0, .ref (h 0)), (1, .int 1)] → W p l e ({ frames := 2, cells := 0, slots := 0, locals := 44 } : Room) s m ([.ref (h 0), .int 1] : List Value).toArray below meth c H locs 0 0 Q (F0 m 25 ls []) from LOOP_i (72 + 1) 0 sl (by omega) (by omega) ((bkF_0 _ _ _).symm)  _ _ _ hP hD hS (lv_sub hl [0, 1, 2] rfl)
      clear hP hD hS hl hHe
      intro fu_i
      induction fu_i with
      | zero => intro i g hn_i; omega
      | succ fu_i ih_i =>
        intro i g hn_i hle_i e_g  H locs ls hP hD hS hl
        refine lv_iload_n hx hb dX5_keep_25 rfl (lv_at hl 0 rfl) ?_
        refine lv_bipush (v := 72) hx hb dX5_keep_26 (by decide) ?_
        refine lv_icmp_ge (tgt := 54) hx hb dX5_keep_28 (by decide) (fun c_3 => ?_) (fun c_3 => ?_)
        · have c_3 : 72 ≤ i := (nI_leI (a := 72) (b := i) (by omega) (by omega)).mp c_3
          have hz_i : 72 = i := by omega
          subst hz_i
          subst e_g
          refine lv_aload_n hx hb dX5_keep_54 rfl (lv_at hl 1 rfl) ?_
          refine va_get (D := D) (ci := 5) (v := .ref (h 4)) (C := RX5) (T := TX5) (N := 10) hx hb hts (fun _ h9 => (List.mem_cons_of_mem _ (List.mem_append_right _ h9))) hown hK hP 0 rfl rfl 4 (by decide) (hts _ (List.mem_of_getElem? (i := 3) rfl)) (fun _ h9 => h9) rfl dX5_keep_55 ?_
          refine lv_iload_n hx hb dX5_keep_58 rfl (lv_at hl 2 rfl) ?_
          refine lv_iconst (v := 1) hx hb dX5_keep_59 (by decide) ?_
          refine ar_zst hx hb hK hP hD hS 4 rfl 1 rfl (show vp_in (nI 1) 2 from vp_in_nI (by decide) (by decide)) (by decide) dX5_keep_60 (wn := [(h 0, .inr (5, [.int 0, .ref (h 1), .ref (h 2), .ref (h 3), .ref (h 4), .ref (h 5), .int sm, .ref (h 6), .int ln, .long dg])), (h 1, .inl (k 0, 72, .inl f)), (h 2, .inl (k 0, 72, .inl asd)), (h 3, .inl (k 0, 144, .inl (bkF sl f 72 72))), (h 4, .inl (k 1, 2, .inl (upd kp 1 1))), (h 5, .inl (k 0, 432, .inl sv)), (h 6, .inl (k 0, 60, .inl tx))]) rfl (fun H locs hP hD hS => ?_)
          refine lv_aload_n hx hb dX5_keep_61 rfl (lv_at hl 1 rfl) ?_
          have hPc : va_P D vwCl (wMo k h 0 f asd (bkF sl f 72 72) (upd kp 1 1) sv sm tx ln dg) H := hP.sub [0, 1, 2, 3, 4, 5, 6] rfl
          have hDc : va_D A (wMo k h 0 f asd (bkF sl f 72 72) (upd kp 1 1) sv sm tx ln dg) := hD.sub [0, 1, 2, 3, 4, 5, 6] (by decide +kernel) rfl
          refine cl_i (va_runV (As := []) (rest := []) ⟨hx, hb, hml, hown, hts⟩ (c_X5_joins l D k h 0 f asd (bkF sl f 72 72) (upd kp 1 1) sv sm tx ln dg  H.size) (cwV 0 hts gX5_keep_X5_joins rfl rfl rfl (by decide +kernel) ⟨Nat.le_of_ble_eq_true rfl, Nat.le_of_ble_eq_true rfl⟩) ⟨pr_blind, va_recv hK hP (ci := 5) (q0 := 0) rfl rfl, pr_at hN hPc hK hDc⟩ rfl rfl hl.1 rfl (lv_room (Nat.le_of_ble_eq_true rfl)) dX5_keep_62 ⟨Nat.le_of_ble_eq_true rfl, Nat.le_of_ble_eq_true rfl⟩) hP hD hS hA [0, 1, 2, 3, 4, 5, 6] [] ([]) [h 0, h 1, h 2, h 3, h 4, h 5, h 6] 7 rfl (wn := wMo k h 0 f asd (bkF sl f 72 72) (upd kp 1 1) sv sm tx ln dg) rfl rfl rfl rfl (by decide +kernel) rfl rfl (fun H locs hP hD hS => ?_)
          clear hPc hDc
          subst hQ
          exact rt_i hx hb hr hlocks hS dX5_keep_65 (hP) (rfl)
        · have c_3 : ¬ (72 ≤ i) := fun h9 => c_3 ((nI_leI (a := 72) (b := i) (by omega) (by omega)).mpr h9)
          refine lv_aload_n hx hb dX5_keep_31 rfl (lv_at hl 1 rfl) ?_
          refine va_get (D := D) (ci := 5) (v := .ref (h 3)) (C := RX5) (T := TX5) (N := 10) hx hb hts (fun _ h9 => (List.mem_cons_of_mem _ (List.mem_append_right _ h9))) hown hK hP 0 rfl rfl 3 (by decide) (hts _ (List.mem_of_getElem? (i := 1) rfl)) (fun _ h9 => h9) rfl dX5_keep_32 ?_
          refine lv_bipush (v := 72) hx hb dX5_keep_35 (by decide) ?_
          refine lv_iload_n hx hb dX5_keep_37 rfl (lv_at hl 2 rfl) ?_
          refine lv_imul hx hb dX5_keep_38 ?_
          refine tp_e (y := 72) (by decide) ?_
          refine lv_iload_n hx hb dX5_keep_39 rfl (lv_at hl 0 rfl) ?_
          refine lv_iadd hx hb dX5_keep_40 ?_
          refine tp_e (y := (nI (72 + i))) (nI_add 72 i) ?_
          refine lv_aload_n hx hb dX5_keep_41 rfl (lv_at hl 1 rfl) ?_
          refine va_get (D := D) (ci := 5) (v := .ref (h 1)) (C := RX5) (T := TX5) (N := 10) hx hb hts (fun _ h9 => (List.mem_cons_of_mem _ (List.mem_append_right _ h9))) hown hK hP 0 rfl rfl 1 (by decide) (hts _ (List.mem_of_getElem? (i := 2) rfl)) (fun _ h9 => h9) rfl dX5_keep_42 ?_
          refine lv_iload_n hx hb dX5_keep_45 rfl (lv_at hl 0 rfl) ?_
          refine ar_ld hx hb hK hP 1 rfl i (nI_clamp (by omega)) (vp_in_nI (by omega) (by omega)) dX5_keep_46 ?_
          refine ar_st hx hb hK hP hD hS 3 rfl (72 + i) (nI_clamp (by omega)) (vp_in_nI (by omega) (by omega)) dX5_keep_47 (wn := [(h 0, .inr (5, [.int 0, .ref (h 1), .ref (h 2), .ref (h 3), .ref (h 4), .ref (h 5), .int sm, .ref (h 6), .int ln, .long dg])), (h 1, .inl (k 0, 72, .inl f)), (h 2, .inl (k 0, 72, .inl asd)), (h 3, .inl (k 0, 144, .inl (upd g (72 + i) (f i)))), (h 4, .inl (k 1, 2, .inl kp)), (h 5, .inl (k 0, 432, .inl sv)), (h 6, .inl (k 0, 60, .inl tx))]) rfl (fun H locs hP hD hS => ?_)
          refine lv_iinc (v := (nI (i + 1))) (lv' := [(2, .int (nI (i + 1))), (0, .ref (h 0)), (1, .int 1)]) hx hb dX5_keep_48 hl (k := 0) rfl (nI_1 i) (by decide) rfl (fun ls hl => ?_)
          refine lv_goto (tgt := 25) hx hb dX5_keep_51 (by decide) ?_
          exact ih_i (i + 1) (upd g (72 + i) (f i)) (by omega) (by omega) (by rw [e_g]; exact bkF_s sl f 72 i)  _ _ _ hP hD hS (lv_sub hl [0, 1, 2] rfl)
    · exact absurd c_2 (by decide)

set_option maxHeartbeats 1000000 in
set_option maxRecDepth 100000 in
theorem c_X5_goBack_1 (l : Launch) (D : va_G) (k : Nat → ClassId) (h : Nat → Nat) (th : Int32) (f asd sl kp sv : Nat → Int32) (tx : Nat → Int32) (ln : Int32) (dg : Int64) (n : Nat) (hn : n ≤ 6) (hkp : kp 1 = 1) : MI l yX5_goBack wsX5_goBack ({ frames := 2, cells := 0, slots := 0, locals := 44 }) D k [.ref (h 0), .int 1] (wMo k h th f asd sl kp sv (nI n) tx ln dg) (jnM (sliceM sl 72) 9) (wMo k h 0 (sliceM sl 72) asd sl kp (svM sv f n) (nI (snM n)) tx ln dg) := by
  intro sz
  refine Met.ofW (cc := cX5_goBack) (maxL := 4) (ret := (some .int)) (by decide) rfl ?_
  intro p e s m args below meth c s₁ B hml hv
  obtain ⟨rfl, hN, hsz, hP, hK, hD0⟩ := hv
  have hx := B.exec
  have hb := B.bytes
  have hr := B.returns
  have hts := atoms_spec (ws := wsX5_goBack) B.pre
  have hown : s.vm.findClass RX5 = some m.cls := findClass_of_methodNamed B.named
  have hlocks := B.notSynchronized
  subst hsz
  have hD := hD0.self (sz := s.heap.size)
  generalize hAe : va_A (wMo k h th f asd sl kp sv (nI n) tx ln dg) s.heap.size = A at hD ⊢
  have hA : ∀ q : Nat, s.heap.size ≤ q → A q := fun q h => by rw [← hAe]; exact Or.inr h
  have hS : va_S A s.heap s.heap [] := va_S.rf
  have hl := lv_entry ([.ref (h 0), .int 1]) (n := 4) (Nat.le_of_ble_eq_true rfl)
  rw [lg_entry_eq]
  generalize (lg_sl ([.ref (h 0), .int 1]) ++ List.replicate (4 - (lg_sl ([.ref (h 0), .int 1])).length) Slot.unset).toArray = ls at hl ⊢
  have hl : lv_has ls 4 [(0, .ref (h 0)), (1, .int 1)] := hl
  obtain ⟨H, hHe⟩ : ∃ H, H = s.heap := ⟨_, rfl⟩
  have hP : va_P D vwCl (wMo k h th f asd sl kp sv (nI n) tx ln dg) H := by rw [hHe]; exact hP
  have hS : va_S A s.heap H [] := by rw [hHe]; exact hS
  rw [← hHe]
  refine absQ (fun Q hQ => ?_)
  refine lv_iload_n hx hb dX5_goBack_0 rfl (lv_at hl 1 rfl) ?_
  refine lv_iconst (v := 0) hx hb dX5_goBack_1 (by decide) ?_
  refine lv_iconst (v := 1) hx hb dX5_goBack_2 (by decide) ?_
  have hPc : va_P D vwCl ([]) H := hP.sub [] rfl
  have hDc : va_D A ([]) := hD.sub [] (by decide +kernel) rfl
  refine cl_i0 (va_runS (As := [.int 1, .int 0, .int 1]) (rest := []) ⟨hx, hb, hml, hown, hts⟩ (c_X5_in l D k 1 0 1 H.size) (va_cwS 3 hts gX5_goBack_X5_in rfl rfl rfl (by decide +kernel) ⟨Nat.le_of_ble_eq_true rfl, Nat.le_of_ble_eq_true rfl⟩) ⟨pr_blind, pr_at hN hPc hK hDc⟩ rfl rfl hl.1 rfl (lv_room (Nat.le_of_ble_eq_true rfl)) dX5_goBack_3 ⟨Nat.le_of_ble_eq_true rfl, Nat.le_of_ble_eq_true rfl⟩) hP hD hS hA [] rfl (fun H locs hP hD hS => ?_)
  clear hPc hDc
  refine lv_istore_n (lv' := [(2, .int (bI (inB 1 0 1))), (0, .ref (h 0)), (1, .int 1)]) hx hb dX5_goBack_6 rfl hl (by decide) rfl (fun ls hl => ?_)
  refine lv_aload_n hx hb dX5_goBack_7 rfl (lv_at hl 1 rfl) ?_
  refine lv_iload_n hx hb dX5_goBack_8 rfl (lv_at hl 0 rfl) ?_
  refine lv_if_ne (tgt := 16) hx hb dX5_goBack_9 (by decide) (fun c_1 => ?_) (fun c_1 => ?_)
  · have c_1 := bI_ne.mp c_1
    refine lv_aload_n hx hb dX5_goBack_16 rfl (lv_at hl 1 rfl) ?_
    refine va_get (D := D) (ci := 5) (v := .ref (h 4)) (C := RX5) (T := TX5) (N := 10) hx hb hts (fun _ h9 => (List.mem_cons_of_mem _ (List.mem_append_right _ h9))) hown hK hP 0 rfl rfl 4 (by decide) (hts _ (List.mem_of_getElem? (i := 1) rfl)) (fun _ h9 => h9) rfl dX5_goBack_17 ?_
    refine lv_iload_n hx hb dX5_goBack_20 rfl (lv_at hl 2 rfl) ?_
    refine ar_zld hx hb hK hP 4 rfl 1 rfl (show vp_in (nI 1) 2 from vp_in_nI (by decide) (by decide)) dX5_goBack_21 ?_
    refine lv_if_ne (tgt := 29) hx hb dX5_goBack_22 (by decide) (fun c_2 => ?_) (fun c_2 => ?_)
    · refine lv_iconst (v := 0) hx hb dX5_goBack_29 (by decide) ?_
      have hPc : va_P D vwCl (wMo k h th f asd sl kp sv (nI n) tx ln dg) H := hP.sub [0, 1, 2, 3, 4, 5, 6] rfl
      have hDc : va_D A (wMo k h th f asd sl kp sv (nI n) tx ln dg) := hD.sub [0, 1, 2, 3, 4, 5, 6] (by decide +kernel) rfl
      refine cl_i (va_runV (As := [.int 0]) (rest := []) ⟨hx, hb, hml, hown, hts⟩ (c_X5_holds l D k h th f asd sl kp sv (nI n) tx ln dg 0 H.size) (cwV 1 hts gX5_goBack_X5_holds rfl rfl rfl (by decide +kernel) ⟨Nat.le_of_ble_eq_true rfl, Nat.le_of_ble_eq_true rfl⟩) ⟨pr_blind, va_recv hK hP (ci := 5) (q0 := 0) rfl rfl, pr_at hN hPc hK hDc⟩ rfl rfl hl.1 rfl (lv_room (Nat.le_of_ble_eq_true rfl)) dX5_goBack_30 ⟨Nat.le_of_ble_eq_true rfl, Nat.le_of_ble_eq_true rfl⟩) hP hD hS hA [0, 1, 2, 3, 4, 5, 6] [] ([]) [h 0, h 1, h 2, h 3, h 4, h 5, h 6] 7 rfl (wn := wMo k h 0 f asd sl kp sv (nI n) tx ln dg) rfl rfl rfl rfl (by decide +kernel) rfl rfl (fun H locs hP hD hS => ?_)
      clear hPc hDc
      refine tp_e (y := 1) (by decide) ?_
      refine lv_if_ne (tgt := 38) hx hb dX5_goBack_33 (by decide) (fun c_3 => ?_) (fun c_3 => ?_)
      · refine lv_aload_n hx hb dX5_goBack_38 rfl (lv_at hl 1 rfl) ?_
        have hPc : va_P D vwCl (wMo k h 0 f asd sl kp sv (nI n) tx ln dg) H := hP.sub [0, 1, 2, 3, 4, 5, 6] rfl
        have hDc : va_D A (wMo k h 0 f asd sl kp sv (nI n) tx ln dg) := hD.sub [0, 1, 2, 3, 4, 5, 6] (by decide +kernel) rfl
        refine cl_v (va_runV (As := []) (rest := []) ⟨hx, hb, hml, hown, hts⟩ (c_X5_save l D k h 0 f asd sl kp sv tx ln dg n hn H.size) (cwV 0 hts gX5_goBack_X5_save rfl rfl rfl (by decide +kernel) ⟨Nat.le_of_ble_eq_true rfl, Nat.le_of_ble_eq_true rfl⟩) ⟨pr_blind, va_recv hK hP (ci := 5) (q0 := 0) rfl rfl, pr_at hN hPc hK hDc⟩ rfl rfl hl.1 rfl (lv_room (Nat.le_of_ble_eq_true rfl)) dX5_goBack_39 ⟨Nat.le_of_ble_eq_true rfl, Nat.le_of_ble_eq_true rfl⟩) hP hD hS hA [0, 1, 2, 3, 4, 5, 6] [] ([]) [h 0, h 1, h 2, h 3, h 4, h 5, h 6] 7 rfl (wn := wMo k h 0 f asd sl kp (svM sv f n) (nI (snM n)) tx ln dg) rfl rfl rfl rfl (by decide +kernel) rfl rfl (fun H locs hP hD hS => ?_)
        clear hPc hDc
        refine lv_iconst (v := 0) hx hb dX5_goBack_42 (by decide) ?_
        refine lv_istore_n (lv' := [(3, .int 0), (2, .int (bI (inB 1 0 1))), (0, .ref (h 0)), (1, .int 1)]) hx hb dX5_goBack_43 rfl hl (by decide) rfl (fun ls hl => ?_)
        suffices LOOP_i : ∀ (fu_i i : Nat) (g : Nat → Int32), 72 - i < fu_i → i ≤ 72 → g = fil (sliceM sl 72) f i → ∀ (H : Heap) (locs : List Loc) (ls : Array Slot), va_P D vwCl ([(h 0, .inr (5, [.int 0, .ref (h 1), .ref (h 2), .ref (h 3), .ref (h 4), .ref (h 5), .int (nI (snM n)), .ref (h 6), .int ln, .long dg])), (h 1, .inl (k 0, 72, .inl g)), (h 2, .inl (k 0, 72, .inl asd)), (h 3, .inl (k 0, 144, .inl sl)), (h 4, .inl (k 1, 2, .inl kp)), (h 5, .inl (k 0, 432, .inl (svM sv f n))), (h 6, .inl (k 0, 60, .inl tx))]) H → va_D A ([(h 0, .inr (5, [.int 0, .ref (h 1), .ref (h 2), .ref (h 3), .ref (h 4), .ref (h 5), .int (nI (snM n)), .ref (h 6), .int ln, .long dg])), (h 1, .inl (k 0, 72, .inl g)), (h 2, .inl (k 0, 72, .inl asd)), (h 3, .inl (k 0, 144, .inl sl)), (h 4, .inl (k 1, 2, .inl kp)), (h 5, .inl (k 0, 432, .inl (svM sv f n))), (h 6, .inl (k 0, 60, .inl tx))]) → va_S A s.heap H locs → lv_has ls 4 [(3, .int (nI i)), (2, .int (bI (inB 1 0 1))), (0, .ref (h 0)), (1, .int 1)] → W p l e ({ frames := 2, cells := 0, slots := 0, locals := 44 } : Room) s m ([.ref (h 0), .int 1] : List Value).toArray below meth c H locs 0 0 Q (F0 m 44 ls []) from LOOP_i (72 + 1) 0 f (by omega) (by omega) ((fil_0 _ _).symm)  _ _ _ hP hD hS (lv_sub hl [0, 1, 2, 3] rfl)
        clear hP hD hS hl hHe
        intro fu_i
        induction fu_i with
        | zero => intro i g hn_i; omega
        | succ fu_i ih_i =>
          intro i g hn_i hle_i e_g  H locs ls hP hD hS hl
          refine lv_iload_n hx hb dX5_goBack_44 rfl (lv_at hl 0 rfl) ?_
          refine lv_bipush (v := 72) hx hb dX5_goBack_45 (by decide) ?_
          refine lv_icmp_ge (tgt := 73) hx hb dX5_goBack_47 (by decide) (fun c_4 => ?_) (fun c_4 => ?_)
          · have c_4 : 72 ≤ i := (nI_leI (a := 72) (b := i) (by omega) (by omega)).mp c_4
            have hz_i : 72 = i := by omega
            subst hz_i
            subst e_g
            have hP : va_P D vwCl ([(h 0, .inr (5, [.int 0, .ref (h 1), .ref (h 2), .ref (h 3), .ref (h 4), .ref (h 5), .int (nI (snM n)), .ref (h 6), .int ln, .long dg])), (h 1, .inl (k 0, 72, .inl (sliceM sl 72))), (h 2, .inl (k 0, 72, .inl asd)), (h 3, .inl (k 0, 144, .inl sl)), (h 4, .inl (k 1, 2, .inl kp)), (h 5, .inl (k 0, 432, .inl (svM sv f n))), (h 6, .inl (k 0, 60, .inl tx))]) H := va_P.ext hP hD 1 rfl (sliceM sl 72) (fil_in _ _ _)
            have hD : va_D A ([(h 0, .inr (5, [.int 0, .ref (h 1), .ref (h 2), .ref (h 3), .ref (h 4), .ref (h 5), .int (nI (snM n)), .ref (h 6), .int ln, .long dg])), (h 1, .inl (k 0, 72, .inl (sliceM sl 72))), (h 2, .inl (k 0, 72, .inl asd)), (h 3, .inl (k 0, 144, .inl sl)), (h 4, .inl (k 1, 2, .inl kp)), (h 5, .inl (k 0, 432, .inl (svM sv f n))), (h 6, .inl (k 0, 60, .inl tx))]) := hD.addr rfl
            refine lv_aload_n hx hb dX5_goBack_73 rfl (lv_at hl 2 rfl) ?_
            have hPc : va_P D vwCl (wMo k h 0 (sliceM sl 72) asd sl kp (svM sv f n) (nI (snM n)) tx ln dg) H := hP.sub [0, 1, 2, 3, 4, 5, 6] rfl
            have hDc : va_D A (wMo k h 0 (sliceM sl 72) asd sl kp (svM sv f n) (nI (snM n)) tx ln dg) := hD.sub [0, 1, 2, 3, 4, 5, 6] (by decide +kernel) rfl
            refine cl_i (va_runV (As := []) (rest := []) ⟨hx, hb, hml, hown, hts⟩ (c_X5_joins l D k h 0 (sliceM sl 72) asd sl kp (svM sv f n) (nI (snM n)) tx ln dg  H.size) (cwV 0 hts gX5_goBack_X5_joins rfl rfl rfl (by decide +kernel) ⟨Nat.le_of_ble_eq_true rfl, Nat.le_of_ble_eq_true rfl⟩) ⟨pr_blind, va_recv hK hP (ci := 5) (q0 := 0) rfl rfl, pr_at hN hPc hK hDc⟩ rfl rfl hl.1 rfl (lv_room (Nat.le_of_ble_eq_true rfl)) dX5_goBack_74 ⟨Nat.le_of_ble_eq_true rfl, Nat.le_of_ble_eq_true rfl⟩) hP hD hS hA [0, 1, 2, 3, 4, 5, 6] [] ([]) [h 0, h 1, h 2, h 3, h 4, h 5, h 6] 7 rfl (wn := wMo k h 0 (sliceM sl 72) asd sl kp (svM sv f n) (nI (snM n)) tx ln dg) rfl rfl rfl rfl (by decide +kernel) rfl rfl (fun H locs hP hD hS => ?_)
            clear hPc hDc
            subst hQ
            exact rt_i hx hb hr hlocks hS dX5_goBack_77 (hP) (rfl)
          · have c_4 : ¬ (72 ≤ i) := fun h9 => c_4 ((nI_leI (a := 72) (b := i) (by omega) (by omega)).mpr h9)
            refine lv_aload_n hx hb dX5_goBack_50 rfl (lv_at hl 2 rfl) ?_
            refine va_get (D := D) (ci := 5) (v := .ref (h 1)) (C := RX5) (T := TX5) (N := 10) hx hb hts (fun _ h9 => (List.mem_cons_of_mem _ (List.mem_append_right _ h9))) hown hK hP 0 rfl rfl 1 (by decide) (hts _ (List.mem_of_getElem? (i := 2) rfl)) (fun _ h9 => h9) rfl dX5_goBack_51 ?_
            refine lv_iload_n hx hb dX5_goBack_54 rfl (lv_at hl 0 rfl) ?_
            refine lv_aload_n hx hb dX5_goBack_55 rfl (lv_at hl 2 rfl) ?_
            refine va_get (D := D) (ci := 5) (v := .ref (h 3)) (C := RX5) (T := TX5) (N := 10) hx hb hts (fun _ h9 => (List.mem_cons_of_mem _ (List.mem_append_right _ h9))) hown hK hP 0 rfl rfl 3 (by decide) (hts _ (List.mem_of_getElem? (i := 3) rfl)) (fun _ h9 => h9) rfl dX5_goBack_56 ?_
            refine lv_bipush (v := 72) hx hb dX5_goBack_59 (by decide) ?_
            refine lv_iload_n hx hb dX5_goBack_61 rfl (lv_at hl 3 rfl) ?_
            refine lv_imul hx hb dX5_goBack_62 ?_
            refine tp_e (y := 72) (by decide) ?_
            refine lv_iload_n hx hb dX5_goBack_63 rfl (lv_at hl 0 rfl) ?_
            refine lv_iadd hx hb dX5_goBack_64 ?_
            refine tp_e (y := (nI (72 + i))) (nI_add 72 i) ?_
            refine ar_ld hx hb hK hP 3 rfl (72 + i) (nI_clamp (by omega)) (vp_in_nI (by omega) (by omega)) dX5_goBack_65 ?_
            refine ar_st hx hb hK hP hD hS 1 rfl i (nI_clamp (by omega)) (vp_in_nI (by omega) (by omega)) dX5_goBack_66 (wn := [(h 0, .inr (5, [.int 0, .ref (h 1), .ref (h 2), .ref (h 3), .ref (h 4), .ref (h 5), .int (nI (snM n)), .ref (h 6), .int ln, .long dg])), (h 1, .inl (k 0, 72, .inl (upd g i (sl (72 + i))))), (h 2, .inl (k 0, 72, .inl asd)), (h 3, .inl (k 0, 144, .inl sl)), (h 4, .inl (k 1, 2, .inl kp)), (h 5, .inl (k 0, 432, .inl (svM sv f n))), (h 6, .inl (k 0, 60, .inl tx))]) rfl (fun H locs hP hD hS => ?_)
            refine lv_iinc (v := (nI (i + 1))) (lv' := [(3, .int (nI (i + 1))), (2, .int (bI (inB 1 0 1))), (0, .ref (h 0)), (1, .int 1)]) hx hb dX5_goBack_67 hl (k := 0) rfl (nI_1 i) (by decide) rfl (fun ls hl => ?_)
            refine lv_goto (tgt := 44) hx hb dX5_goBack_70 (by decide) ?_
            exact ih_i (i + 1) (upd g i (sl (72 + i))) (by omega) (by omega) (by rw [e_g]; exact fil_s (sliceM sl 72) f i)  _ _ _ hP hD hS (lv_sub hl [0, 1, 2, 3] rfl)
      · exact absurd c_3 (by decide)
    · exact absurd c_2 (by rw [hkp]; decide)
  · have c_1 := bI_eq.mp c_1
    exact absurd c_1 (by rw [(show inB 1 0 1 = true by decide)]; decide)

set_option maxHeartbeats 1000000 in
set_option maxRecDepth 100000 in
theorem c_X5_goBack_x2_1 (l : Launch) (D : va_G) (k : Nat → ClassId) (h : Nat → Nat) (th : Int32) (f asd sl kp sv : Nat → Int32) (sm : Int32) (tx : Nat → Int32) (ln : Int32) (dg : Int64) (hkp : kp 1 = 0) : MI l yX5_goBack wsX5_goBack ({ frames := 1, cells := 0, slots := 0, locals := 22 }) D k [.ref (h 0), .int 1] (wMo k h th f asd sl kp sv sm tx ln dg) 0 (wMo k h 2 f asd sl kp sv sm tx ln dg) := by
  intro sz
  refine Met.ofW (cc := cX5_goBack) (maxL := 4) (ret := (some .int)) (by decide) rfl ?_
  intro p e s m args below meth c s₁ B hml hv
  obtain ⟨rfl, hN, hsz, hP, hK, hD0⟩ := hv
  have hx := B.exec
  have hb := B.bytes
  have hr := B.returns
  have hts := atoms_spec (ws := wsX5_goBack) B.pre
  have hown : s.vm.findClass RX5 = some m.cls := findClass_of_methodNamed B.named
  have hlocks := B.notSynchronized
  subst hsz
  have hD := hD0.self (sz := s.heap.size)
  generalize hAe : va_A (wMo k h th f asd sl kp sv sm tx ln dg) s.heap.size = A at hD ⊢
  have hA : ∀ q : Nat, s.heap.size ≤ q → A q := fun q h => by rw [← hAe]; exact Or.inr h
  have hS : va_S A s.heap s.heap [] := va_S.rf
  have hl := lv_entry ([.ref (h 0), .int 1]) (n := 4) (Nat.le_of_ble_eq_true rfl)
  rw [lg_entry_eq]
  generalize (lg_sl ([.ref (h 0), .int 1]) ++ List.replicate (4 - (lg_sl ([.ref (h 0), .int 1])).length) Slot.unset).toArray = ls at hl ⊢
  have hl : lv_has ls 4 [(0, .ref (h 0)), (1, .int 1)] := hl
  obtain ⟨H, hHe⟩ : ∃ H, H = s.heap := ⟨_, rfl⟩
  have hP : va_P D vwCl (wMo k h th f asd sl kp sv sm tx ln dg) H := by rw [hHe]; exact hP
  have hS : va_S A s.heap H [] := by rw [hHe]; exact hS
  rw [← hHe]
  refine absQ (fun Q hQ => ?_)
  refine lv_iload_n hx hb dX5_goBack_0 rfl (lv_at hl 1 rfl) ?_
  refine lv_iconst (v := 0) hx hb dX5_goBack_1 (by decide) ?_
  refine lv_iconst (v := 1) hx hb dX5_goBack_2 (by decide) ?_
  have hPc : va_P D vwCl ([]) H := hP.sub [] rfl
  have hDc : va_D A ([]) := hD.sub [] (by decide +kernel) rfl
  refine cl_i0 (va_runS (As := [.int 1, .int 0, .int 1]) (rest := []) ⟨hx, hb, hml, hown, hts⟩ (c_X5_in l D k 1 0 1 H.size) (va_cwS 3 hts gX5_goBack_X5_in rfl rfl rfl (by decide +kernel) ⟨Nat.le_of_ble_eq_true rfl, Nat.le_of_ble_eq_true rfl⟩) ⟨pr_blind, pr_at hN hPc hK hDc⟩ rfl rfl hl.1 rfl (lv_room (Nat.le_of_ble_eq_true rfl)) dX5_goBack_3 ⟨Nat.le_of_ble_eq_true rfl, Nat.le_of_ble_eq_true rfl⟩) hP hD hS hA [] rfl (fun H locs hP hD hS => ?_)
  clear hPc hDc
  refine lv_istore_n (lv' := [(2, .int (bI (inB 1 0 1))), (0, .ref (h 0)), (1, .int 1)]) hx hb dX5_goBack_6 rfl hl (by decide) rfl (fun ls hl => ?_)
  refine lv_aload_n hx hb dX5_goBack_7 rfl (lv_at hl 1 rfl) ?_
  refine lv_iload_n hx hb dX5_goBack_8 rfl (lv_at hl 0 rfl) ?_
  refine lv_if_ne (tgt := 16) hx hb dX5_goBack_9 (by decide) (fun c_1 => ?_) (fun c_1 => ?_)
  · have c_1 := bI_ne.mp c_1
    refine lv_aload_n hx hb dX5_goBack_16 rfl (lv_at hl 1 rfl) ?_
    refine va_get (D := D) (ci := 5) (v := .ref (h 4)) (C := RX5) (T := TX5) (N := 10) hx hb hts (fun _ h9 => (List.mem_cons_of_mem _ (List.mem_append_right _ h9))) hown hK hP 0 rfl rfl 4 (by decide) (hts _ (List.mem_of_getElem? (i := 1) rfl)) (fun _ h9 => h9) rfl dX5_goBack_17 ?_
    refine lv_iload_n hx hb dX5_goBack_20 rfl (lv_at hl 2 rfl) ?_
    refine ar_zld hx hb hK hP 4 rfl 1 rfl (show vp_in (nI 1) 2 from vp_in_nI (by decide) (by decide)) dX5_goBack_21 ?_
    refine lv_if_ne (tgt := 29) hx hb dX5_goBack_22 (by decide) (fun c_2 => ?_) (fun c_2 => ?_)
    · exact absurd hkp c_2
    · refine lv_iconst (v := 2) hx hb dX5_goBack_25 (by decide) ?_
      refine lv_goto (tgt := 30) hx hb dX5_goBack_26 (by decide) ?_
      have hPc : va_P D vwCl (wMo k h th f asd sl kp sv sm tx ln dg) H := hP.sub [0, 1, 2, 3, 4, 5, 6] rfl
      have hDc : va_D A (wMo k h th f asd sl kp sv sm tx ln dg) := hD.sub [0, 1, 2, 3, 4, 5, 6] (by decide +kernel) rfl
      refine cl_i (va_runV (As := [.int 2]) (rest := []) ⟨hx, hb, hml, hown, hts⟩ (c_X5_holds l D k h th f asd sl kp sv sm tx ln dg 2 H.size) (cwV 1 hts gX5_goBack_X5_holds rfl rfl rfl (by decide +kernel) ⟨Nat.le_of_ble_eq_true rfl, Nat.le_of_ble_eq_true rfl⟩) ⟨pr_blind, va_recv hK hP (ci := 5) (q0 := 0) rfl rfl, pr_at hN hPc hK hDc⟩ rfl rfl hl.1 rfl (lv_room (Nat.le_of_ble_eq_true rfl)) dX5_goBack_30 ⟨Nat.le_of_ble_eq_true rfl, Nat.le_of_ble_eq_true rfl⟩) hP hD hS hA [0, 1, 2, 3, 4, 5, 6] [] ([]) [h 0, h 1, h 2, h 3, h 4, h 5, h 6] 7 rfl (wn := wMo k h 2 f asd sl kp sv sm tx ln dg) rfl rfl rfl rfl (by decide +kernel) rfl rfl (fun H locs hP hD hS => ?_)
      clear hPc hDc
      refine tp_e (y := 0) (by decide) ?_
      refine lv_if_ne (tgt := 38) hx hb dX5_goBack_33 (by decide) (fun c_3 => ?_) (fun c_3 => ?_)
      · exact absurd c_3 (by decide)
      · refine lv_iconst (v := 0) hx hb dX5_goBack_36 (by decide) ?_
        subst hQ
        exact rt_i hx hb hr hlocks hS dX5_goBack_37 (hP) (rfl)
  · have c_1 := bI_eq.mp c_1
    exact absurd c_1 (by rw [(show inB 1 0 1 = true by decide)]; decide)

set_option maxHeartbeats 1000000 in
set_option maxRecDepth 100000 in
theorem c_X5_keep_x1 (l : Launch) (D : va_G) (k : Nat → ClassId) (h : Nat → Nat) (th : Int32) (f asd sl kp sv : Nat → Int32) (sm : Int32) (tx : Nat → Int32) (ln : Int32) (dg : Int64) (p0 : Int32) (h1 : inB p0 0 1 = false) : MI l yX5_keep wsX5_keep ({ frames := 1, cells := 0, slots := 0, locals := 22 }) D k [.ref (h 0), .int p0] (wMo k h th f asd sl kp sv sm tx ln dg) 0 (wMo k h 1 f asd sl kp sv sm tx ln dg) := by
  intro sz
  refine Met.ofW (cc := cX5_keep) (maxL := 3) (ret := (some .int)) (by decide) rfl ?_
  intro p e s m args below meth c s₁ B hml hv
  obtain ⟨rfl, hN, hsz, hP, hK, hD0⟩ := hv
  have hx := B.exec
  have hb := B.bytes
  have hr := B.returns
  have hts := atoms_spec (ws := wsX5_keep) B.pre
  have hown : s.vm.findClass RX5 = some m.cls := findClass_of_methodNamed B.named
  have hlocks := B.notSynchronized
  subst hsz
  have hD := hD0.self (sz := s.heap.size)
  generalize hAe : va_A (wMo k h th f asd sl kp sv sm tx ln dg) s.heap.size = A at hD ⊢
  have hA : ∀ q : Nat, s.heap.size ≤ q → A q := fun q h => by rw [← hAe]; exact Or.inr h
  have hS : va_S A s.heap s.heap [] := va_S.rf
  have hl := lv_entry ([.ref (h 0), .int p0]) (n := 3) (Nat.le_of_ble_eq_true rfl)
  rw [lg_entry_eq]
  generalize (lg_sl ([.ref (h 0), .int p0]) ++ List.replicate (3 - (lg_sl ([.ref (h 0), .int p0])).length) Slot.unset).toArray = ls at hl ⊢
  have hl : lv_has ls 3 [(0, .ref (h 0)), (1, .int p0)] := hl
  obtain ⟨H, hHe⟩ : ∃ H, H = s.heap := ⟨_, rfl⟩
  have hP : va_P D vwCl (wMo k h th f asd sl kp sv sm tx ln dg) H := by rw [hHe]; exact hP
  have hS : va_S A s.heap H [] := by rw [hHe]; exact hS
  rw [← hHe]
  refine absQ (fun Q hQ => ?_)
  refine lv_aload_n hx hb dX5_keep_0 rfl (lv_at hl 0 rfl) ?_
  refine lv_iload_n hx hb dX5_keep_1 rfl (lv_at hl 1 rfl) ?_
  refine lv_iconst (v := 0) hx hb dX5_keep_2 (by decide) ?_
  refine lv_iconst (v := 1) hx hb dX5_keep_3 (by decide) ?_
  have hPc : va_P D vwCl ([]) H := hP.sub [] rfl
  have hDc : va_D A ([]) := hD.sub [] (by decide +kernel) rfl
  refine cl_i0 (va_runS (As := [.int p0, .int 0, .int 1]) (rest := [.ref (h 0)]) ⟨hx, hb, hml, hown, hts⟩ (c_X5_in l D k p0 0 1 H.size) (va_cwS 3 hts gX5_keep_X5_in rfl rfl rfl (by decide +kernel) ⟨Nat.le_of_ble_eq_true rfl, Nat.le_of_ble_eq_true rfl⟩) ⟨pr_blind, pr_at hN hPc hK hDc⟩ rfl rfl hl.1 rfl (lv_room (Nat.le_of_ble_eq_true rfl)) dX5_keep_4 ⟨Nat.le_of_ble_eq_true rfl, Nat.le_of_ble_eq_true rfl⟩) hP hD hS hA [] rfl (fun H locs hP hD hS => ?_)
  clear hPc hDc
  refine lv_if_eq (tgt := 14) hx hb dX5_keep_7 (by decide) (fun c_1 => ?_) (fun c_1 => ?_)
  · have c_1 := bI_eq.mp c_1
    refine lv_iconst (v := 1) hx hb dX5_keep_14 (by decide) ?_
    have hPc : va_P D vwCl (wMo k h th f asd sl kp sv sm tx ln dg) H := hP.sub [0, 1, 2, 3, 4, 5, 6] rfl
    have hDc : va_D A (wMo k h th f asd sl kp sv sm tx ln dg) := hD.sub [0, 1, 2, 3, 4, 5, 6] (by decide +kernel) rfl
    refine cl_i (va_runV (As := [.int 1]) (rest := []) ⟨hx, hb, hml, hown, hts⟩ (c_X5_holds l D k h th f asd sl kp sv sm tx ln dg 1 H.size) (cwV 1 hts gX5_keep_X5_holds rfl rfl rfl (by decide +kernel) ⟨Nat.le_of_ble_eq_true rfl, Nat.le_of_ble_eq_true rfl⟩) ⟨pr_blind, va_recv hK hP (ci := 5) (q0 := 0) rfl rfl, pr_at hN hPc hK hDc⟩ rfl rfl hl.1 rfl (lv_room (Nat.le_of_ble_eq_true rfl)) dX5_keep_15 ⟨Nat.le_of_ble_eq_true rfl, Nat.le_of_ble_eq_true rfl⟩) hP hD hS hA [0, 1, 2, 3, 4, 5, 6] [] ([]) [h 0, h 1, h 2, h 3, h 4, h 5, h 6] 7 rfl (wn := wMo k h 1 f asd sl kp sv sm tx ln dg) rfl rfl rfl rfl (by decide +kernel) rfl rfl (fun H locs hP hD hS => ?_)
    clear hPc hDc
    refine tp_e (y := 0) (by decide) ?_
    refine lv_if_ne (tgt := 23) hx hb dX5_keep_18 (by decide) (fun c_2 => ?_) (fun c_2 => ?_)
    · exact absurd c_2 (by decide)
    · refine lv_iconst (v := 0) hx hb dX5_keep_21 (by decide) ?_
      subst hQ
      exact rt_i hx hb hr hlocks hS dX5_keep_22 (hP) (rfl)
  · have c_1 := bI_ne.mp c_1
    exact absurd c_1 (by rw [h1]; decide)

set_option maxHeartbeats 1000000 in
set_option maxRecDepth 100000 in
theorem c_X5_goBack_x1 (l : Launch) (D : va_G) (k : Nat → ClassId) (h : Nat → Nat) (th : Int32) (f asd sl kp sv : Nat → Int32) (sm : Int32) (tx : Nat → Int32) (ln : Int32) (dg : Int64) (p0 : Int32) (h1 : inB p0 0 1 = false) : MI l yX5_goBack wsX5_goBack ({ frames := 1, cells := 0, slots := 0, locals := 22 }) D k [.ref (h 0), .int p0] (wMo k h th f asd sl kp sv sm tx ln dg) 0 (wMo k h 1 f asd sl kp sv sm tx ln dg) := by
  intro sz
  refine Met.ofW (cc := cX5_goBack) (maxL := 4) (ret := (some .int)) (by decide) rfl ?_
  intro p e s m args below meth c s₁ B hml hv
  obtain ⟨rfl, hN, hsz, hP, hK, hD0⟩ := hv
  have hx := B.exec
  have hb := B.bytes
  have hr := B.returns
  have hts := atoms_spec (ws := wsX5_goBack) B.pre
  have hown : s.vm.findClass RX5 = some m.cls := findClass_of_methodNamed B.named
  have hlocks := B.notSynchronized
  subst hsz
  have hD := hD0.self (sz := s.heap.size)
  generalize hAe : va_A (wMo k h th f asd sl kp sv sm tx ln dg) s.heap.size = A at hD ⊢
  have hA : ∀ q : Nat, s.heap.size ≤ q → A q := fun q h => by rw [← hAe]; exact Or.inr h
  have hS : va_S A s.heap s.heap [] := va_S.rf
  have hl := lv_entry ([.ref (h 0), .int p0]) (n := 4) (Nat.le_of_ble_eq_true rfl)
  rw [lg_entry_eq]
  generalize (lg_sl ([.ref (h 0), .int p0]) ++ List.replicate (4 - (lg_sl ([.ref (h 0), .int p0])).length) Slot.unset).toArray = ls at hl ⊢
  have hl : lv_has ls 4 [(0, .ref (h 0)), (1, .int p0)] := hl
  obtain ⟨H, hHe⟩ : ∃ H, H = s.heap := ⟨_, rfl⟩
  have hP : va_P D vwCl (wMo k h th f asd sl kp sv sm tx ln dg) H := by rw [hHe]; exact hP
  have hS : va_S A s.heap H [] := by rw [hHe]; exact hS
  rw [← hHe]
  refine absQ (fun Q hQ => ?_)
  refine lv_iload_n hx hb dX5_goBack_0 rfl (lv_at hl 1 rfl) ?_
  refine lv_iconst (v := 0) hx hb dX5_goBack_1 (by decide) ?_
  refine lv_iconst (v := 1) hx hb dX5_goBack_2 (by decide) ?_
  have hPc : va_P D vwCl ([]) H := hP.sub [] rfl
  have hDc : va_D A ([]) := hD.sub [] (by decide +kernel) rfl
  refine cl_i0 (va_runS (As := [.int p0, .int 0, .int 1]) (rest := []) ⟨hx, hb, hml, hown, hts⟩ (c_X5_in l D k p0 0 1 H.size) (va_cwS 3 hts gX5_goBack_X5_in rfl rfl rfl (by decide +kernel) ⟨Nat.le_of_ble_eq_true rfl, Nat.le_of_ble_eq_true rfl⟩) ⟨pr_blind, pr_at hN hPc hK hDc⟩ rfl rfl hl.1 rfl (lv_room (Nat.le_of_ble_eq_true rfl)) dX5_goBack_3 ⟨Nat.le_of_ble_eq_true rfl, Nat.le_of_ble_eq_true rfl⟩) hP hD hS hA [] rfl (fun H locs hP hD hS => ?_)
  clear hPc hDc
  refine lv_istore_n (lv' := [(2, .int (bI (inB p0 0 1))), (0, .ref (h 0)), (1, .int p0)]) hx hb dX5_goBack_6 rfl hl (by decide) rfl (fun ls hl => ?_)
  refine lv_aload_n hx hb dX5_goBack_7 rfl (lv_at hl 1 rfl) ?_
  refine lv_iload_n hx hb dX5_goBack_8 rfl (lv_at hl 0 rfl) ?_
  refine lv_if_ne (tgt := 16) hx hb dX5_goBack_9 (by decide) (fun c_1 => ?_) (fun c_1 => ?_)
  · have c_1 := bI_ne.mp c_1
    exact absurd c_1 (by rw [h1]; decide)
  · have c_1 := bI_eq.mp c_1
    refine lv_iconst (v := 1) hx hb dX5_goBack_12 (by decide) ?_
    refine lv_goto (tgt := 30) hx hb dX5_goBack_13 (by decide) ?_
    have hPc : va_P D vwCl (wMo k h th f asd sl kp sv sm tx ln dg) H := hP.sub [0, 1, 2, 3, 4, 5, 6] rfl
    have hDc : va_D A (wMo k h th f asd sl kp sv sm tx ln dg) := hD.sub [0, 1, 2, 3, 4, 5, 6] (by decide +kernel) rfl
    refine cl_i (va_runV (As := [.int 1]) (rest := []) ⟨hx, hb, hml, hown, hts⟩ (c_X5_holds l D k h th f asd sl kp sv sm tx ln dg 1 H.size) (cwV 1 hts gX5_goBack_X5_holds rfl rfl rfl (by decide +kernel) ⟨Nat.le_of_ble_eq_true rfl, Nat.le_of_ble_eq_true rfl⟩) ⟨pr_blind, va_recv hK hP (ci := 5) (q0 := 0) rfl rfl, pr_at hN hPc hK hDc⟩ rfl rfl hl.1 rfl (lv_room (Nat.le_of_ble_eq_true rfl)) dX5_goBack_30 ⟨Nat.le_of_ble_eq_true rfl, Nat.le_of_ble_eq_true rfl⟩) hP hD hS hA [0, 1, 2, 3, 4, 5, 6] [] ([]) [h 0, h 1, h 2, h 3, h 4, h 5, h 6] 7 rfl (wn := wMo k h 1 f asd sl kp sv sm tx ln dg) rfl rfl rfl rfl (by decide +kernel) rfl rfl (fun H locs hP hD hS => ?_)
    clear hPc hDc
    refine tp_e (y := 0) (by decide) ?_
    refine lv_if_ne (tgt := 38) hx hb dX5_goBack_33 (by decide) (fun c_2 => ?_) (fun c_2 => ?_)
    · exact absurd c_2 (by decide)
    · refine lv_iconst (v := 0) hx hb dX5_goBack_36 (by decide) ?_
      subst hQ
      exact rt_i hx hb hr hlocks hS dX5_goBack_37 (hP) (rfl)

set_option maxHeartbeats 1000000 in
set_option maxRecDepth 100000 in
theorem c_X5_undo (l : Launch) (D : va_G) (k : Nat → ClassId) (h : Nat → Nat) (th : Int32) (f asd sl kp sv : Nat → Int32) (tx : Nat → Int32) (ln : Int32) (dg : Int64) (n : Nat) (hn : n < 6) : MI l yX5_undo wsX5_undo ({ frames := 1, cells := 0, slots := 0, locals := 21 }) D k [.ref (h 0)] (wMo k h th f asd sl kp sv (nI (n + 1)) tx ln dg) (nI n) (wMo k h 0 (sliceM sv (72 * n)) asd sl kp sv (nI n) tx ln dg) := by
  intro sz
  refine Met.ofW (cc := cX5_undo) (maxL := 2) (ret := (some .int)) (by decide) rfl ?_
  intro p e s m args below meth c s₁ B hml hv
  obtain ⟨rfl, hN, hsz, hP, hK, hD0⟩ := hv
  have hx := B.exec
  have hb := B.bytes
  have hr := B.returns
  have hts := atoms_spec (ws := wsX5_undo) B.pre
  have hown : s.vm.findClass RX5 = some m.cls := findClass_of_methodNamed B.named
  have hlocks := B.notSynchronized
  subst hsz
  have hD := hD0.self (sz := s.heap.size)
  generalize hAe : va_A (wMo k h th f asd sl kp sv (nI (n + 1)) tx ln dg) s.heap.size = A at hD ⊢
  have hA : ∀ q : Nat, s.heap.size ≤ q → A q := fun q h => by rw [← hAe]; exact Or.inr h
  have hS : va_S A s.heap s.heap [] := va_S.rf
  have hl := lv_entry ([.ref (h 0)]) (n := 2) (Nat.le_of_ble_eq_true rfl)
  rw [lg_entry_eq]
  generalize (lg_sl ([.ref (h 0)]) ++ List.replicate (2 - (lg_sl ([.ref (h 0)])).length) Slot.unset).toArray = ls at hl ⊢
  have hl : lv_has ls 2 [(0, .ref (h 0))] := hl
  obtain ⟨H, hHe⟩ : ∃ H, H = s.heap := ⟨_, rfl⟩
  have hP : va_P D vwCl (wMo k h th f asd sl kp sv (nI (n + 1)) tx ln dg) H := by rw [hHe]; exact hP
  have hS : va_S A s.heap H [] := by rw [hHe]; exact hS
  rw [← hHe]
  refine absQ (fun Q hQ => ?_)
  refine lv_aload_n hx hb dX5_undo_0 rfl (lv_at hl 0 rfl) ?_
  refine lv_aload_n hx hb dX5_undo_1 rfl (lv_at hl 0 rfl) ?_
  refine va_get (D := D) (ci := 5) (v := .int (nI (n + 1))) (C := RX5) (T := TX5) (N := 10) hx hb hts (fun _ h9 => (List.mem_cons_of_mem _ (List.mem_append_right _ h9))) hown hK hP 0 rfl rfl 6 (by decide) (hts _ (List.mem_of_getElem? (i := 1) rfl)) (fun _ h9 => h9) rfl dX5_undo_2 ?_
  refine lv_if_le (tgt := 12) hx hb dX5_undo_5 (by decide) (fun c_1 => ?_) (fun c_1 => ?_)
  · have c_1 : n + 1 ≤ 0 := (nI_leI (a := n + 1) (b := 0) (by omega) (by omega)).mp c_1
    exact absurd c_1 (by omega)
  · have c_1 : ¬ (n + 1 ≤ 0) := fun h9 => c_1 ((nI_leI (a := n + 1) (b := 0) (by omega) (by omega)).mpr h9)
    refine lv_iconst (v := 0) hx hb dX5_undo_8 (by decide) ?_
    refine lv_goto (tgt := 13) hx hb dX5_undo_9 (by decide) ?_
    have hPc : va_P D vwCl (wMo k h th f asd sl kp sv (nI (n + 1)) tx ln dg) H := hP.sub [0, 1, 2, 3, 4, 5, 6] rfl
    have hDc : va_D A (wMo k h th f asd sl kp sv (nI (n + 1)) tx ln dg) := hD.sub [0, 1, 2, 3, 4, 5, 6] (by decide +kernel) rfl
    refine cl_i (va_runV (As := [.int 0]) (rest := []) ⟨hx, hb, hml, hown, hts⟩ (c_X5_holds l D k h th f asd sl kp sv (nI (n + 1)) tx ln dg 0 H.size) (cwV 1 hts gX5_undo_X5_holds rfl rfl rfl (by decide +kernel) ⟨Nat.le_of_ble_eq_true rfl, Nat.le_of_ble_eq_true rfl⟩) ⟨pr_blind, va_recv hK hP (ci := 5) (q0 := 0) rfl rfl, pr_at hN hPc hK hDc⟩ rfl rfl hl.1 rfl (lv_room (Nat.le_of_ble_eq_true rfl)) dX5_undo_13 ⟨Nat.le_of_ble_eq_true rfl, Nat.le_of_ble_eq_true rfl⟩) hP hD hS hA [0, 1, 2, 3, 4, 5, 6] [] ([]) [h 0, h 1, h 2, h 3, h 4, h 5, h 6] 7 rfl (wn := wMo k h 0 f asd sl kp sv (nI (n + 1)) tx ln dg) rfl rfl rfl rfl (by decide +kernel) rfl rfl (fun H locs hP hD hS => ?_)
    clear hPc hDc
    refine tp_e (y := 1) (by decide) ?_
    refine lv_if_ne (tgt := 21) hx hb dX5_undo_16 (by decide) (fun c_2 => ?_) (fun c_2 => ?_)
    · refine lv_aload_n hx hb dX5_undo_21 rfl (lv_at hl 0 rfl) ?_
      refine lv_dup hx hb dX5_undo_22 rfl ?_
      refine va_get (D := D) (ci := 5) (v := .int (nI (n + 1))) (C := RX5) (T := TX5) (N := 10) hx hb hts (fun _ h9 => (List.mem_cons_of_mem _ (List.mem_append_right _ h9))) hown hK hP 0 rfl rfl 6 (by decide) (hts _ (List.mem_of_getElem? (i := 1) rfl)) (fun _ h9 => h9) rfl dX5_undo_23 ?_
      refine lv_iconst (v := 1) hx hb dX5_undo_26 (by decide) ?_
      refine lv_isub hx hb dX5_undo_27 ?_
      refine tp_e (y := (nI n)) (nI_pred n) ?_
      refine va_put (D := D) (ci := 5) (v := .int (nI n)) (ty := tyX5 6) (C := RX5) (T := TX5) (N := 10) hx hb hts (fun _ h9 => (List.mem_cons_of_mem _ (List.mem_append_right _ h9))) tyX5 tyX5_ok nmX5 hown hK hP hD hS 0 rfl rfl 6 (by decide) (hts _ (List.mem_of_getElem? (i := 1) rfl)) (fun _ h9 => h9) rfl (tyX5_ok 6 (by decide)) rfl rfl (Nat.le_of_ble_eq_true rfl) dX5_undo_28 (fun H locs hP hD hS => ?_)
      have hP : va_P D vwCl ([(h 0, .inr (5, [.int 0, .ref (h 1), .ref (h 2), .ref (h 3), .ref (h 4), .ref (h 5), .int (nI n), .ref (h 6), .int ln, .long dg])), (h 1, .inl (k 0, 72, .inl f)), (h 2, .inl (k 0, 72, .inl asd)), (h 3, .inl (k 0, 144, .inl sl)), (h 4, .inl (k 1, 2, .inl kp)), (h 5, .inl (k 0, 432, .inl sv)), (h 6, .inl (k 0, 60, .inl tx))]) H := hP
      have hD : va_D A ([(h 0, .inr (5, [.int 0, .ref (h 1), .ref (h 2), .ref (h 3), .ref (h 4), .ref (h 5), .int (nI n), .ref (h 6), .int ln, .long dg])), (h 1, .inl (k 0, 72, .inl f)), (h 2, .inl (k 0, 72, .inl asd)), (h 3, .inl (k 0, 144, .inl sl)), (h 4, .inl (k 1, 2, .inl kp)), (h 5, .inl (k 0, 432, .inl sv)), (h 6, .inl (k 0, 60, .inl tx))]) := hD
      refine lv_iconst (v := 0) hx hb dX5_undo_31 (by decide) ?_
      refine lv_istore_n (lv' := [(1, .int 0), (0, .ref (h 0))]) hx hb dX5_undo_32 rfl hl (by decide) rfl (fun ls hl => ?_)
      suffices LOOP_i : ∀ (fu_i i : Nat) (g : Nat → Int32), 72 - i < fu_i → i ≤ 72 → g = fil (sliceM sv (72 * n)) f i → ∀ (H : Heap) (locs : List Loc) (ls : Array Slot), va_P D vwCl ([(h 0, .inr (5, [.int 0, .ref (h 1), .ref (h 2), .ref (h 3), .ref (h 4), .ref (h 5), .int (nI n), .ref (h 6), .int ln, .long dg])), (h 1, .inl (k 0, 72, .inl g)), (h 2, .inl (k 0, 72, .inl asd)), (h 3, .inl (k 0, 144, .inl sl)), (h 4, .inl (k 1, 2, .inl kp)), (h 5, .inl (k 0, 432, .inl sv)), (h 6, .inl (k 0, 60, .inl tx))]) H → va_D A ([(h 0, .inr (5, [.int 0, .ref (h 1), .ref (h 2), .ref (h 3), .ref (h 4), .ref (h 5), .int (nI n), .ref (h 6), .int ln, .long dg])), (h 1, .inl (k 0, 72, .inl g)), (h 2, .inl (k 0, 72, .inl asd)), (h 3, .inl (k 0, 144, .inl sl)), (h 4, .inl (k 1, 2, .inl kp)), (h 5, .inl (k 0, 432, .inl sv)), (h 6, .inl (k 0, 60, .inl tx))]) → va_S A s.heap H locs → lv_has ls 2 [(1, .int (nI i)), (0, .ref (h 0))] → W p l e ({ frames := 1, cells := 0, slots := 0, locals := 21 } : Room) s m ([.ref (h 0)] : List Value).toArray below meth c H locs 0 0 Q (F0 m 33 ls []) from LOOP_i (72 + 1) 0 f (by omega) (by omega) ((fil_0 _ _).symm)  _ _ _ hP hD hS (lv_sub hl [0, 1] rfl)
      clear hP hD hS hl hHe
      intro fu_i
      induction fu_i with
      | zero => intro i g hn_i; omega
      | succ fu_i ih_i =>
        intro i g hn_i hle_i e_g  H locs ls hP hD hS hl
        refine lv_iload_n hx hb dX5_undo_33 rfl (lv_at hl 0 rfl) ?_
        refine lv_bipush (v := 72) hx hb dX5_undo_34 (by decide) ?_
        refine lv_icmp_ge (tgt := 65) hx hb dX5_undo_36 (by decide) (fun c_3 => ?_) (fun c_3 => ?_)
        · have c_3 : 72 ≤ i := (nI_leI (a := 72) (b := i) (by omega) (by omega)).mp c_3
          have hz_i : 72 = i := by omega
          subst hz_i
          subst e_g
          have hP : va_P D vwCl ([(h 0, .inr (5, [.int 0, .ref (h 1), .ref (h 2), .ref (h 3), .ref (h 4), .ref (h 5), .int (nI n), .ref (h 6), .int ln, .long dg])), (h 1, .inl (k 0, 72, .inl (sliceM sv (72 * n)))), (h 2, .inl (k 0, 72, .inl asd)), (h 3, .inl (k 0, 144, .inl sl)), (h 4, .inl (k 1, 2, .inl kp)), (h 5, .inl (k 0, 432, .inl sv)), (h 6, .inl (k 0, 60, .inl tx))]) H := va_P.ext hP hD 1 rfl (sliceM sv (72 * n)) (fil_in _ _ _)
          have hD : va_D A ([(h 0, .inr (5, [.int 0, .ref (h 1), .ref (h 2), .ref (h 3), .ref (h 4), .ref (h 5), .int (nI n), .ref (h 6), .int ln, .long dg])), (h 1, .inl (k 0, 72, .inl (sliceM sv (72 * n)))), (h 2, .inl (k 0, 72, .inl asd)), (h 3, .inl (k 0, 144, .inl sl)), (h 4, .inl (k 1, 2, .inl kp)), (h 5, .inl (k 0, 432, .inl sv)), (h 6, .inl (k 0, 60, .inl tx))]) := hD.addr rfl
          refine lv_aload_n hx hb dX5_undo_65 rfl (lv_at hl 1 rfl) ?_
          refine va_get (D := D) (ci := 5) (v := .int (nI n)) (C := RX5) (T := TX5) (N := 10) hx hb hts (fun _ h9 => (List.mem_cons_of_mem _ (List.mem_append_right _ h9))) hown hK hP 0 rfl rfl 6 (by decide) (hts _ (List.mem_of_getElem? (i := 1) rfl)) (fun _ h9 => h9) rfl dX5_undo_66 ?_
          subst hQ
          exact rt_i hx hb hr hlocks hS dX5_undo_69 (hP) (rfl)
        · have c_3 : ¬ (72 ≤ i) := fun h9 => c_3 ((nI_leI (a := 72) (b := i) (by omega) (by omega)).mpr h9)
          refine lv_aload_n hx hb dX5_undo_39 rfl (lv_at hl 1 rfl) ?_
          refine va_get (D := D) (ci := 5) (v := .ref (h 1)) (C := RX5) (T := TX5) (N := 10) hx hb hts (fun _ h9 => (List.mem_cons_of_mem _ (List.mem_append_right _ h9))) hown hK hP 0 rfl rfl 1 (by decide) (hts _ (List.mem_of_getElem? (i := 2) rfl)) (fun _ h9 => h9) rfl dX5_undo_40 ?_
          refine lv_iload_n hx hb dX5_undo_43 rfl (lv_at hl 0 rfl) ?_
          refine lv_aload_n hx hb dX5_undo_44 rfl (lv_at hl 1 rfl) ?_
          refine va_get (D := D) (ci := 5) (v := .ref (h 5)) (C := RX5) (T := TX5) (N := 10) hx hb hts (fun _ h9 => (List.mem_cons_of_mem _ (List.mem_append_right _ h9))) hown hK hP 0 rfl rfl 5 (by decide) (hts _ (List.mem_of_getElem? (i := 3) rfl)) (fun _ h9 => h9) rfl dX5_undo_45 ?_
          refine lv_bipush (v := 72) hx hb dX5_undo_48 (by decide) ?_
          refine lv_aload_n hx hb dX5_undo_50 rfl (lv_at hl 1 rfl) ?_
          refine va_get (D := D) (ci := 5) (v := .int (nI n)) (C := RX5) (T := TX5) (N := 10) hx hb hts (fun _ h9 => (List.mem_cons_of_mem _ (List.mem_append_right _ h9))) hown hK hP 0 rfl rfl 6 (by decide) (hts _ (List.mem_of_getElem? (i := 1) rfl)) (fun _ h9 => h9) rfl dX5_undo_51 ?_
          refine lv_imul hx hb dX5_undo_54 ?_
          refine tp_e (y := (nI (72 * n))) (pk_mul 72 n) ?_
          refine lv_iload_n hx hb dX5_undo_55 rfl (lv_at hl 0 rfl) ?_
          refine lv_iadd hx hb dX5_undo_56 ?_
          refine tp_e (y := (nI (72 * n + i))) (nI_add (72 * n) i) ?_
          refine ar_ld hx hb hK hP 5 rfl (72 * n + i) (nI_clamp (by omega)) (vp_in_nI (by omega) (by omega)) dX5_undo_57 ?_
          refine ar_st hx hb hK hP hD hS 1 rfl i (nI_clamp (by omega)) (vp_in_nI (by omega) (by omega)) dX5_undo_58 (wn := [(h 0, .inr (5, [.int 0, .ref (h 1), .ref (h 2), .ref (h 3), .ref (h 4), .ref (h 5), .int (nI n), .ref (h 6), .int ln, .long dg])), (h 1, .inl (k 0, 72, .inl (upd g i (sv (72 * n + i))))), (h 2, .inl (k 0, 72, .inl asd)), (h 3, .inl (k 0, 144, .inl sl)), (h 4, .inl (k 1, 2, .inl kp)), (h 5, .inl (k 0, 432, .inl sv)), (h 6, .inl (k 0, 60, .inl tx))]) rfl (fun H locs hP hD hS => ?_)
          refine lv_iinc (v := (nI (i + 1))) (lv' := [(1, .int (nI (i + 1))), (0, .ref (h 0))]) hx hb dX5_undo_59 hl (k := 0) rfl (nI_1 i) (by decide) rfl (fun ls hl => ?_)
          refine lv_goto (tgt := 33) hx hb dX5_undo_62 (by decide) ?_
          exact ih_i (i + 1) (upd g i (sv (72 * n + i))) (by omega) (by omega) (by rw [e_g]; exact fil_s (sliceM sv (72 * n)) f i)  _ _ _ hP hD hS (lv_sub hl [0, 1] rfl)
    · exact absurd c_2 (by decide)

set_option maxHeartbeats 1000000 in
set_option maxRecDepth 100000 in
theorem c_X5_undo_x1 (l : Launch) (D : va_G) (k : Nat → ClassId) (h : Nat → Nat) (th : Int32) (f asd sl kp sv : Nat → Int32) (tx : Nat → Int32) (ln : Int32) (dg : Int64)  : MI l yX5_undo wsX5_undo ({ frames := 1, cells := 0, slots := 0, locals := 21 }) D k [.ref (h 0)] (wMo k h th f asd sl kp sv 0 tx ln dg) 0 (wMo k h 1 f asd sl kp sv 0 tx ln dg) := by
  intro sz
  refine Met.ofW (cc := cX5_undo) (maxL := 2) (ret := (some .int)) (by decide) rfl ?_
  intro p e s m args below meth c s₁ B hml hv
  obtain ⟨rfl, hN, hsz, hP, hK, hD0⟩ := hv
  have hx := B.exec
  have hb := B.bytes
  have hr := B.returns
  have hts := atoms_spec (ws := wsX5_undo) B.pre
  have hown : s.vm.findClass RX5 = some m.cls := findClass_of_methodNamed B.named
  have hlocks := B.notSynchronized
  subst hsz
  have hD := hD0.self (sz := s.heap.size)
  generalize hAe : va_A (wMo k h th f asd sl kp sv 0 tx ln dg) s.heap.size = A at hD ⊢
  have hA : ∀ q : Nat, s.heap.size ≤ q → A q := fun q h => by rw [← hAe]; exact Or.inr h
  have hS : va_S A s.heap s.heap [] := va_S.rf
  have hl := lv_entry ([.ref (h 0)]) (n := 2) (Nat.le_of_ble_eq_true rfl)
  rw [lg_entry_eq]
  generalize (lg_sl ([.ref (h 0)]) ++ List.replicate (2 - (lg_sl ([.ref (h 0)])).length) Slot.unset).toArray = ls at hl ⊢
  have hl : lv_has ls 2 [(0, .ref (h 0))] := hl
  obtain ⟨H, hHe⟩ : ∃ H, H = s.heap := ⟨_, rfl⟩
  have hP : va_P D vwCl (wMo k h th f asd sl kp sv 0 tx ln dg) H := by rw [hHe]; exact hP
  have hS : va_S A s.heap H [] := by rw [hHe]; exact hS
  rw [← hHe]
  refine absQ (fun Q hQ => ?_)
  refine lv_aload_n hx hb dX5_undo_0 rfl (lv_at hl 0 rfl) ?_
  refine lv_aload_n hx hb dX5_undo_1 rfl (lv_at hl 0 rfl) ?_
  refine va_get (D := D) (ci := 5) (v := .int 0) (C := RX5) (T := TX5) (N := 10) hx hb hts (fun _ h9 => (List.mem_cons_of_mem _ (List.mem_append_right _ h9))) hown hK hP 0 rfl rfl 6 (by decide) (hts _ (List.mem_of_getElem? (i := 1) rfl)) (fun _ h9 => h9) rfl dX5_undo_2 ?_
  refine lv_if_le (tgt := 12) hx hb dX5_undo_5 (by decide) (fun c_1 => ?_) (fun c_1 => ?_)
  · refine lv_iconst (v := 1) hx hb dX5_undo_12 (by decide) ?_
    have hPc : va_P D vwCl (wMo k h th f asd sl kp sv 0 tx ln dg) H := hP.sub [0, 1, 2, 3, 4, 5, 6] rfl
    have hDc : va_D A (wMo k h th f asd sl kp sv 0 tx ln dg) := hD.sub [0, 1, 2, 3, 4, 5, 6] (by decide +kernel) rfl
    refine cl_i (va_runV (As := [.int 1]) (rest := []) ⟨hx, hb, hml, hown, hts⟩ (c_X5_holds l D k h th f asd sl kp sv 0 tx ln dg 1 H.size) (cwV 1 hts gX5_undo_X5_holds rfl rfl rfl (by decide +kernel) ⟨Nat.le_of_ble_eq_true rfl, Nat.le_of_ble_eq_true rfl⟩) ⟨pr_blind, va_recv hK hP (ci := 5) (q0 := 0) rfl rfl, pr_at hN hPc hK hDc⟩ rfl rfl hl.1 rfl (lv_room (Nat.le_of_ble_eq_true rfl)) dX5_undo_13 ⟨Nat.le_of_ble_eq_true rfl, Nat.le_of_ble_eq_true rfl⟩) hP hD hS hA [0, 1, 2, 3, 4, 5, 6] [] ([]) [h 0, h 1, h 2, h 3, h 4, h 5, h 6] 7 rfl (wn := wMo k h 1 f asd sl kp sv 0 tx ln dg) rfl rfl rfl rfl (by decide +kernel) rfl rfl (fun H locs hP hD hS => ?_)
    clear hPc hDc
    refine tp_e (y := 0) (by decide) ?_
    refine lv_if_ne (tgt := 21) hx hb dX5_undo_16 (by decide) (fun c_2 => ?_) (fun c_2 => ?_)
    · exact absurd c_2 (by decide)
    · refine lv_iconst (v := 0) hx hb dX5_undo_19 (by decide) ?_
      subst hQ
      exact rt_i hx hb hr hlocks hS dX5_undo_20 (hP) (rfl)
  · exact absurd c_1 (by decide)
