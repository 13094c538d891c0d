set_option maxHeartbeats 1000000 in
set_option maxRecDepth 100000 in
theorem c_X4_keep_0 (l : Launch) (D : va_G) (k : Nat → ClassId) (d : Nat → Nat → Nat) (ns : Int32) (S : Nat → Nat → Int32) (Y : Nat → Nat → Nat → Int32) (kp : Nat → Int32)  : MI l yX4_keep wsX4_keep ({ frames := 2, cells := 0, slots := 0, locals := 43 }) D k [.ref (d 0 0), .int 0] (wXo d ns ++ (wSt k (d 1) S ++ ([(d 4 0, .inl (k 2, 2, .inr (.inr (.inr (.inr (snA d)))))), (d 5 0, .inl (k 1, 2, .inl kp))] ++ (wSt k (d 11) (Y 0) ++ (wSt k (d 12) (Y 1)))))) (cjF (S 2) 9) (wXo d ns ++ (wSt k (d 1) S ++ ([(d 4 0, .inl (k 2, 2, .inr (.inr (.inr (.inr (snA d)))))), (d 5 0, .inl (k 1, 2, .inl (upd kp 0 1)))] ++ (wSt k (d 11) S ++ wSt k (d 12) (Y 1))))) := by
  intro sz
  refine Met.ofW (cc := cX4_keep) (maxL := 2) (ret := (some .int)) (by decide) rfl ?_
  intro p e s m args below meth c s₁ B hml hv
  obtain ⟨rfl, hN, hsz, hP, hK, hD0⟩ := hv
  have hx := B.exec
  have hb := B.bytes
  have hr := B.returns
  have hts := atoms_spec (ws := wsX4_keep) B.pre
  have hown : s.vm.findClass RX4 = some m.cls := findClass_of_methodNamed B.named
  have hlocks := B.notSynchronized
  subst hsz
  have hD := hD0.self (sz := s.heap.size)
  generalize hAe : va_A (wXo d ns ++ (wSt k (d 1) S ++ ([(d 4 0, .inl (k 2, 2, .inr (.inr (.inr (.inr (snA d)))))), (d 5 0, .inl (k 1, 2, .inl kp))] ++ (wSt k (d 11) (Y 0) ++ (wSt k (d 12) (Y 1)))))) s.heap.size = A at hD ⊢
  have hA : ∀ q : Nat, s.heap.size ≤ q → A q := fun q h => by rw [← hAe]; exact Or.inr h
  have hS : va_S A s.heap s.heap [] := va_S.rf
  have hl := lv_entry ([.ref (d 0 0), .int 0]) (n := 2) (Nat.le_of_ble_eq_true rfl)
  rw [lg_entry_eq]
  generalize (lg_sl ([.ref (d 0 0), .int 0]) ++ List.replicate (2 - (lg_sl ([.ref (d 0 0), .int 0])).length) Slot.unset).toArray = ls at hl ⊢
  have hl : lv_has ls 2 [(0, .ref (d 0 0)), (1, .int 0)] := hl
  obtain ⟨H, hHe⟩ : ∃ H, H = s.heap := ⟨_, rfl⟩
  have hP : va_P D vwCl (wXo d ns ++ (wSt k (d 1) S ++ ([(d 4 0, .inl (k 2, 2, .inr (.inr (.inr (.inr (snA d)))))), (d 5 0, .inl (k 1, 2, .inl kp))] ++ (wSt k (d 11) (Y 0) ++ (wSt k (d 12) (Y 1)))))) H := by rw [hHe]; exact hP
  have hS : va_S A s.heap H [] := by rw [hHe]; exact hS
  rw [← hHe]
  refine absQ (fun Q hQ => ?_)
  refine lv_iload_n hx hb dX4_keep_0 rfl (lv_at hl 1 rfl) ?_
  have hPc : va_P D vwCl ([]) H := hP.sub [] rfl
  have hDc : va_D A ([]) := hD.sub [] (by decide +kernel) rfl
  refine cl_i0 (va_runS (As := [.int 0]) (rest := []) ⟨hx, hb, hml, hown, hts⟩ (c_X4_isSlot l D k 0 H.size) (va_cwS 1 hts gX4_keep_X4_isSlot rfl rfl rfl (by decide +kernel) ⟨Nat.le_of_ble_eq_true rfl, Nat.le_of_ble_eq_true rfl⟩) ⟨pr_blind, pr_at hN hPc hK hDc⟩ rfl rfl hl.1 rfl (lv_room (Nat.le_of_ble_eq_true rfl)) dX4_keep_1 ⟨Nat.le_of_ble_eq_true rfl, Nat.le_of_ble_eq_true rfl⟩) hP hD hS hA [] rfl (fun H locs hP hD hS => ?_)
  clear hPc hDc
  refine lv_if_ne (tgt := 17) hx hb dX4_keep_4 (by decide) (fun c_1 => ?_) (fun c_1 => ?_)
  · have c_1 := bI_ne.mp c_1
    refine lv_aload_n hx hb dX4_keep_17 rfl (lv_at hl 0 rfl) ?_
    refine va_get (D := D) (ci := 4) (v := .ref (d 1 0)) (C := RX4) (T := TX4) (N := 9) hx hb hts (fun _ h9 => (List.mem_cons_of_mem _ (List.mem_append_left _ (List.mem_append_left _ (List.mem_append_right _ h9))))) hown hK hP 0 rfl rfl 0 (by decide) (hts _ (List.mem_of_getElem? (i := 3) rfl)) (fun _ h9 => h9) rfl dX4_keep_18 ?_
    refine lv_aload_n hx hb dX4_keep_21 rfl (lv_at hl 0 rfl) ?_
    refine va_get (D := D) (ci := 4) (v := .ref (d 4 0)) (C := RX4) (T := TX4) (N := 9) hx hb hts (fun _ h9 => (List.mem_cons_of_mem _ (List.mem_append_left _ (List.mem_append_left _ (List.mem_append_right _ h9))))) hown hK hP 0 rfl rfl 4 (by decide) (hts _ (List.mem_of_getElem? (i := 4) rfl)) (fun _ h9 => h9) rfl dX4_keep_22 ?_
    refine lv_iload_n hx hb dX4_keep_25 rfl (lv_at hl 1 rfl) ?_
    refine ar_qld hx hb hK hP 9 rfl 0 rfl (show vp_in (nI 0) 2 from vp_in_nI (by decide) (by decide)) (d 11 0) rfl dX4_keep_26 ?_
    have hPc : va_P D vwCl (wSt k (d 11) (Y 0) ++ wSt k (d 1) S) H := hP.sub [11, 12, 13, 14, 15, 16, 17, 18, 1, 2, 3, 4, 5, 6, 7, 8] rfl
    have hDc : va_D A (wSt k (d 11) (Y 0) ++ wSt k (d 1) S) := hD.sub [11, 12, 13, 14, 15, 16, 17, 18, 1, 2, 3, 4, 5, 6, 7, 8] (by decide +kernel) rfl
    refine cl_v (va_runS (As := [.ref (d 1 0), .ref (d 11 0)]) (rest := []) ⟨hx, hb, hml, hown, hts⟩ (c_X4_copyState l D k (d 11) (d 1) (Y 0) S H.size) (va_cwS 2 hts gX4_keep_X4_copyState rfl rfl rfl (by decide +kernel) ⟨Nat.le_of_ble_eq_true rfl, Nat.le_of_ble_eq_true rfl⟩) ⟨pr_blind, pr_at hN hPc hK hDc⟩ rfl rfl hl.1 rfl (lv_room (Nat.le_of_ble_eq_true rfl)) dX4_keep_27 ⟨Nat.le_of_ble_eq_true rfl, Nat.le_of_ble_eq_true rfl⟩) hP hD hS hA [11, 12, 13, 14, 15, 16, 17, 18, 1, 2, 3, 4, 5, 6, 7, 8] [0, 9, 10, 19, 20, 21, 22, 23, 24, 25, 26] ((wXo d ns) ++ ([(d 4 0, .inl (k 2, 2, .inr (.inr (.inr (.inr (snA d)))))), (d 5 0, .inl (k 1, 2, .inl kp))]) ++ (wSt k (d 12) (Y 1))) [d 0 0, (d 1) 0, (d 1) 1, (d 1) 2, (d 1) 3, (d 1) 4, (d 1) 5, (d 1) 6, (d 1) 7, d 4 0, d 5 0, (d 11) 0, (d 11) 1, (d 11) 2, (d 11) 3, (d 11) 4, (d 11) 5, (d 11) 6, (d 11) 7, (d 12) 0, (d 12) 1, (d 12) 2, (d 12) 3, (d 12) 4, (d 12) 5, (d 12) 6, (d 12) 7] 27 rfl (wn := (wXo d ns ++ (wSt k (d 1) S ++ ([(d 4 0, .inl (k 2, 2, .inr (.inr (.inr (.inr (snA d)))))), (d 5 0, .inl (k 1, 2, .inl kp))] ++ (wSt k (d 11) S ++ (wSt k (d 12) (Y 1))))))) rfl rfl rfl rfl (by decide +kernel) rfl rfl (fun H locs hP hD hS => ?_)
    clear hPc hDc
    refine lv_aload_n hx hb dX4_keep_30 rfl (lv_at hl 0 rfl) ?_
    refine va_get (D := D) (ci := 4) (v := .ref (d 5 0)) (C := RX4) (T := TX4) (N := 9) hx hb hts (fun _ h9 => (List.mem_cons_of_mem _ (List.mem_append_left _ (List.mem_append_left _ (List.mem_append_right _ h9))))) hown hK hP 0 rfl rfl 5 (by decide) (hts _ (List.mem_of_getElem? (i := 5) rfl)) (fun _ h9 => h9) rfl dX4_keep_31 ?_
    refine lv_iload_n hx hb dX4_keep_34 rfl (lv_at hl 1 rfl) ?_
    refine lv_iconst (v := 1) hx hb dX4_keep_35 (by decide) ?_
    refine ar_zst hx hb hK hP hD hS 10 rfl 0 rfl (show vp_in (nI 0) 2 from vp_in_nI (by decide) (by decide)) (by decide) dX4_keep_36 (wn := (wXo d ns ++ (wSt k (d 1) S ++ ([(d 4 0, .inl (k 2, 2, .inr (.inr (.inr (.inr (snA d)))))), (d 5 0, .inl (k 1, 2, .inl (upd kp 0 1)))] ++ (wSt k (d 11) S ++ (wSt k (d 12) (Y 1))))))) rfl (fun H locs hP hD hS => ?_)
    refine lv_aload_n hx hb dX4_keep_37 rfl (lv_at hl 0 rfl) ?_
    refine va_get (D := D) (ci := 4) (v := .ref (d 1 0)) (C := RX4) (T := TX4) (N := 9) hx hb hts (fun _ h9 => (List.mem_cons_of_mem _ (List.mem_append_left _ (List.mem_append_left _ (List.mem_append_right _ h9))))) hown hK hP 0 rfl rfl 0 (by decide) (hts _ (List.mem_of_getElem? (i := 3) rfl)) (fun _ h9 => h9) rfl dX4_keep_38 ?_
    have hPc : va_P D vwCl (wSt k (d 1) S) H := hP.sub [1, 2, 3, 4, 5, 6, 7, 8] rfl
    have hDc : va_D A (wSt k (d 1) S) := hD.sub [1, 2, 3, 4, 5, 6, 7, 8] (by decide +kernel) rfl
    refine cl_i0 (va_runV (As := []) (rest := []) ⟨hx, hb, hml, hown, hts⟩ (c_X1_countJoins l D k (d 1) S  H.size) (cwV 0 hts gX4_keep_X1_countJoins rfl rfl rfl (by decide +kernel) ⟨Nat.le_of_ble_eq_true rfl, Nat.le_of_ble_eq_true rfl⟩) ⟨pr_blind, va_recv hK hP (ci := 1) (q0 := 1) rfl rfl, pr_at hN hPc hK hDc⟩ rfl rfl hl.1 rfl (lv_room (Nat.le_of_ble_eq_true rfl)) dX4_keep_41 ⟨Nat.le_of_ble_eq_true rfl, Nat.le_of_ble_eq_true rfl⟩) hP hD hS hA [1, 2, 3, 4, 5, 6, 7, 8] rfl (fun H locs hP hD hS => ?_)
    clear hPc hDc
    subst hQ
    exact rt_i hx hb hr hlocks hS dX4_keep_44 (hP) (rfl)
  · have c_1 := bI_eq.mp c_1
    exact absurd c_1 (by decide)

set_option maxHeartbeats 1000000 in
set_option maxRecDepth 100000 in
theorem c_X4_keep_1 (l : Launch) (D : va_G) (k : Nat → ClassId) (d : Nat → Nat → Nat) (ns : Int32) (S : Nat → Nat → Int32) (Y : Nat → Nat → Nat → Int32) (kp : Nat → Int32)  : MI l yX4_keep wsX4_keep ({ frames := 2, cells := 0, slots := 0, locals := 43 }) D k [.ref (d 0 0), .int 1] (wXo d ns ++ (wSt k (d 1) S ++ ([(d 4 0, .inl (k 2, 2, .inr (.inr (.inr (.inr (snA d)))))), (d 5 0, .inl (k 1, 2, .inl kp))] ++ (wSt k (d 11) (Y 0) ++ (wSt k (d 12) (Y 1)))))) (cjF (S 2) 9) (wXo d ns ++ (wSt k (d 1) S ++ ([(d 4 0, .inl (k 2, 2, .inr (.inr (.inr (.inr (snA d)))))), (d 5 0, .inl (k 1, 2, .inl (upd kp 1 1)))] ++ (wSt k (d 11) (Y 0) ++ wSt k (d 12) S)))) := by
  intro sz
  refine Met.ofW (cc := cX4_keep) (maxL := 2) (ret := (some .int)) (by decide) rfl ?_
  intro p e s m args below meth c s₁ B hml hv
  obtain ⟨rfl, hN, hsz, hP, hK, hD0⟩ := hv
  have hx := B.exec
  have hb := B.bytes
  have hr := B.returns
  have hts := atoms_spec (ws := wsX4_keep) B.pre
  have hown : s.vm.findClass RX4 = some m.cls := findClass_of_methodNamed B.named
  have hlocks := B.notSynchronized
  subst hsz
  have hD := hD0.self (sz := s.heap.size)
  generalize hAe : va_A (wXo d ns ++ (wSt k (d 1) S ++ ([(d 4 0, .inl (k 2, 2, .inr (.inr (.inr (.inr (snA d)))))), (d 5 0, .inl (k 1, 2, .inl kp))] ++ (wSt k (d 11) (Y 0) ++ (wSt k (d 12) (Y 1)))))) s.heap.size = A at hD ⊢
  have hA : ∀ q : Nat, s.heap.size ≤ q → A q := fun q h => by rw [← hAe]; exact Or.inr h
  have hS : va_S A s.heap s.heap [] := va_S.rf
  have hl := lv_entry ([.ref (d 0 0), .int 1]) (n := 2) (Nat.le_of_ble_eq_true rfl)
  rw [lg_entry_eq]
  generalize (lg_sl ([.ref (d 0 0), .int 1]) ++ List.replicate (2 - (lg_sl ([.ref (d 0 0), .int 1])).length) Slot.unset).toArray = ls at hl ⊢
  have hl : lv_has ls 2 [(0, .ref (d 0 0)), (1, .int 1)] := hl
  obtain ⟨H, hHe⟩ : ∃ H, H = s.heap := ⟨_, rfl⟩
  have hP : va_P D vwCl (wXo d ns ++ (wSt k (d 1) S ++ ([(d 4 0, .inl (k 2, 2, .inr (.inr (.inr (.inr (snA d)))))), (d 5 0, .inl (k 1, 2, .inl kp))] ++ (wSt k (d 11) (Y 0) ++ (wSt k (d 12) (Y 1)))))) H := by rw [hHe]; exact hP
  have hS : va_S A s.heap H [] := by rw [hHe]; exact hS
  rw [← hHe]
  refine absQ (fun Q hQ => ?_)
  refine lv_iload_n hx hb dX4_keep_0 rfl (lv_at hl 1 rfl) ?_
  have hPc : va_P D vwCl ([]) H := hP.sub [] rfl
  have hDc : va_D A ([]) := hD.sub [] (by decide +kernel) rfl
  refine cl_i0 (va_runS (As := [.int 1]) (rest := []) ⟨hx, hb, hml, hown, hts⟩ (c_X4_isSlot l D k 1 H.size) (va_cwS 1 hts gX4_keep_X4_isSlot rfl rfl rfl (by decide +kernel) ⟨Nat.le_of_ble_eq_true rfl, Nat.le_of_ble_eq_true rfl⟩) ⟨pr_blind, pr_at hN hPc hK hDc⟩ rfl rfl hl.1 rfl (lv_room (Nat.le_of_ble_eq_true rfl)) dX4_keep_1 ⟨Nat.le_of_ble_eq_true rfl, Nat.le_of_ble_eq_true rfl⟩) hP hD hS hA [] rfl (fun H locs hP hD hS => ?_)
  clear hPc hDc
  refine lv_if_ne (tgt := 17) hx hb dX4_keep_4 (by decide) (fun c_1 => ?_) (fun c_1 => ?_)
  · have c_1 := bI_ne.mp c_1
    refine lv_aload_n hx hb dX4_keep_17 rfl (lv_at hl 0 rfl) ?_
    refine va_get (D := D) (ci := 4) (v := .ref (d 1 0)) (C := RX4) (T := TX4) (N := 9) hx hb hts (fun _ h9 => (List.mem_cons_of_mem _ (List.mem_append_left _ (List.mem_append_left _ (List.mem_append_right _ h9))))) hown hK hP 0 rfl rfl 0 (by decide) (hts _ (List.mem_of_getElem? (i := 3) rfl)) (fun _ h9 => h9) rfl dX4_keep_18 ?_
    refine lv_aload_n hx hb dX4_keep_21 rfl (lv_at hl 0 rfl) ?_
    refine va_get (D := D) (ci := 4) (v := .ref (d 4 0)) (C := RX4) (T := TX4) (N := 9) hx hb hts (fun _ h9 => (List.mem_cons_of_mem _ (List.mem_append_left _ (List.mem_append_left _ (List.mem_append_right _ h9))))) hown hK hP 0 rfl rfl 4 (by decide) (hts _ (List.mem_of_getElem? (i := 4) rfl)) (fun _ h9 => h9) rfl dX4_keep_22 ?_
    refine lv_iload_n hx hb dX4_keep_25 rfl (lv_at hl 1 rfl) ?_
    refine ar_qld hx hb hK hP 9 rfl 1 rfl (show vp_in (nI 1) 2 from vp_in_nI (by decide) (by decide)) (d 12 0) rfl dX4_keep_26 ?_
    have hPc : va_P D vwCl (wSt k (d 12) (Y 1) ++ wSt k (d 1) S) H := hP.sub [19, 20, 21, 22, 23, 24, 25, 26, 1, 2, 3, 4, 5, 6, 7, 8] rfl
    have hDc : va_D A (wSt k (d 12) (Y 1) ++ wSt k (d 1) S) := hD.sub [19, 20, 21, 22, 23, 24, 25, 26, 1, 2, 3, 4, 5, 6, 7, 8] (by decide +kernel) rfl
    refine cl_v (va_runS (As := [.ref (d 1 0), .ref (d 12 0)]) (rest := []) ⟨hx, hb, hml, hown, hts⟩ (c_X4_copyState l D k (d 12) (d 1) (Y 1) S H.size) (va_cwS 2 hts gX4_keep_X4_copyState rfl rfl rfl (by decide +kernel) ⟨Nat.le_of_ble_eq_true rfl, Nat.le_of_ble_eq_true rfl⟩) ⟨pr_blind, pr_at hN hPc hK hDc⟩ rfl rfl hl.1 rfl (lv_room (Nat.le_of_ble_eq_true rfl)) dX4_keep_27 ⟨Nat.le_of_ble_eq_true rfl, Nat.le_of_ble_eq_true rfl⟩) hP hD hS hA [19, 20, 21, 22, 23, 24, 25, 26, 1, 2, 3, 4, 5, 6, 7, 8] [0, 9, 10, 11, 12, 13, 14, 15, 16, 17, 18] ((wXo d ns) ++ ([(d 4 0, .inl (k 2, 2, .inr (.inr (.inr (.inr (snA d)))))), (d 5 0, .inl (k 1, 2, .inl kp))]) ++ (wSt k (d 11) (Y 0))) [d 0 0, (d 1) 0, (d 1) 1, (d 1) 2, (d 1) 3, (d 1) 4, (d 1) 5, (d 1) 6, (d 1) 7, d 4 0, d 5 0, (d 11) 0, (d 11) 1, (d 11) 2, (d 11) 3, (d 11) 4, (d 11) 5, (d 11) 6, (d 11) 7, (d 12) 0, (d 12) 1, (d 12) 2, (d 12) 3, (d 12) 4, (d 12) 5, (d 12) 6, (d 12) 7] 27 rfl (wn := (wXo d ns ++ (wSt k (d 1) S ++ ([(d 4 0, .inl (k 2, 2, .inr (.inr (.inr (.inr (snA d)))))), (d 5 0, .inl (k 1, 2, .inl kp))] ++ (wSt k (d 11) (Y 0) ++ (wSt k (d 12) S)))))) rfl rfl rfl rfl (by decide +kernel) rfl rfl (fun H locs hP hD hS => ?_)
    clear hPc hDc
    refine lv_aload_n hx hb dX4_keep_30 rfl (lv_at hl 0 rfl) ?_
    refine va_get (D := D) (ci := 4) (v := .ref (d 5 0)) (C := RX4) (T := TX4) (N := 9) hx hb hts (fun _ h9 => (List.mem_cons_of_mem _ (List.mem_append_left _ (List.mem_append_left _ (List.mem_append_right _ h9))))) hown hK hP 0 rfl rfl 5 (by decide) (hts _ (List.mem_of_getElem? (i := 5) rfl)) (fun _ h9 => h9) rfl dX4_keep_31 ?_
    refine lv_iload_n hx hb dX4_keep_34 rfl (lv_at hl 1 rfl) ?_
    refine lv_iconst (v := 1) hx hb dX4_keep_35 (by decide) ?_
    refine ar_zst hx hb hK hP hD hS 10 rfl 1 rfl (show vp_in (nI 1) 2 from vp_in_nI (by decide) (by decide)) (by decide) dX4_keep_36 (wn := (wXo d ns ++ (wSt k (d 1) S ++ ([(d 4 0, .inl (k 2, 2, .inr (.inr (.inr (.inr (snA d)))))), (d 5 0, .inl (k 1, 2, .inl (upd kp 1 1)))] ++ (wSt k (d 11) (Y 0) ++ (wSt k (d 12) S)))))) rfl (fun H locs hP hD hS => ?_)
    refine lv_aload_n hx hb dX4_keep_37 rfl (lv_at hl 0 rfl) ?_
    refine va_get (D := D) (ci := 4) (v := .ref (d 1 0)) (C := RX4) (T := TX4) (N := 9) hx hb hts (fun _ h9 => (List.mem_cons_of_mem _ (List.mem_append_left _ (List.mem_append_left _ (List.mem_append_right _ h9))))) hown hK hP 0 rfl rfl 0 (by decide) (hts _ (List.mem_of_getElem? (i := 3) rfl)) (fun _ h9 => h9) rfl dX4_keep_38 ?_
    have hPc : va_P D vwCl (wSt k (d 1) S) H := hP.sub [1, 2, 3, 4, 5, 6, 7, 8] rfl
    have hDc : va_D A (wSt k (d 1) S) := hD.sub [1, 2, 3, 4, 5, 6, 7, 8] (by decide +kernel) rfl
    refine cl_i0 (va_runV (As := []) (rest := []) ⟨hx, hb, hml, hown, hts⟩ (c_X1_countJoins l D k (d 1) S  H.size) (cwV 0 hts gX4_keep_X1_countJoins rfl rfl rfl (by decide +kernel) ⟨Nat.le_of_ble_eq_true rfl, Nat.le_of_ble_eq_true rfl⟩) ⟨pr_blind, va_recv hK hP (ci := 1) (q0 := 1) rfl rfl, pr_at hN hPc hK hDc⟩ rfl rfl hl.1 rfl (lv_room (Nat.le_of_ble_eq_true rfl)) dX4_keep_41 ⟨Nat.le_of_ble_eq_true rfl, Nat.le_of_ble_eq_true rfl⟩) hP hD hS hA [1, 2, 3, 4, 5, 6, 7, 8] rfl (fun H locs hP hD hS => ?_)
    clear hPc hDc
    subst hQ
    exact rt_i hx hb hr hlocks hS dX4_keep_44 (hP) (rfl)
  · have c_1 := bI_eq.mp c_1
    exact absurd c_1 (by decide)

set_option maxHeartbeats 1000000 in
set_option maxRecDepth 100000 in
theorem c_X4_goBack_0 (l : Launch) (D : va_G) (k : Nat → ClassId) (d v : Nat → Nat → Nat) (S : Nat → Nat → Int32) (Z : Nat → Nat → Nat → Int32) (ns : Nat) (Y : Nat → Nat → Nat → Int32) (kp : Nat → Int32) (hns : ns ≤ 6) (hkp : kp 0 = 1) : MID l yX4_goBack wsX4_goBack ({ frames := 4, cells := 0, slots := 0, locals := 90 }) D k [.ref (d 0 0), .int 0] ([(d 4 0, .inl (k 2, 2, .inr (.inr (.inr (.inr (snA d)))))), (d 5 0, .inl (k 1, 2, .inl kp))] ++ (wSt k (d 11) (Y 0) ++ (wSt k (d 12) (Y 1) ++ (wXo d (nI ns) ++ (wSt k (d 1) S ++ ([(d 3 0, .inl (k 2, 6, .inr (.inr (.inr (.inr (svA v))))))] ++ (wSt k (v 0) (Z 0) ++ (wSt k (v 1) (Z 1) ++ (wSt k (v 2) (Z 2) ++ (wSt k (v 3) (Z 3) ++ (wSt k (v 4) (Z 4) ++ (wSt k (v 5) (Z 5))))))))))))) (cjF (Y 0 2) 9) (([(d 4 0, .inl (k 2, 2, .inr (.inr (.inr (.inr (snA d)))))), (d 5 0, .inl (k 1, 2, .inl kp))] ++ (wSt k (d 11) (Y 0) ++ wSt k (d 12) (Y 1))) ++ (wXo d (nI (svN ns)) ++ (wSt k (d 1) (Y 0) ++ wSv k (d 3 0) (svE v ns) (svZ Z ns S)))) := by
  intro sz
  refine Met.ofW (cc := cX4_goBack) (maxL := 2) (ret := (some .int)) (by decide) rfl ?_
  intro p e s m args below meth c s₁ B hml hv
  obtain ⟨rfl, hN, hsz, hP, hK, hD0⟩ := hv
  have hx := B.exec
  have hb := B.bytes
  have hr := B.returns
  have hts := atoms_spec (ws := wsX4_goBack) B.pre
  have hown : s.vm.findClass RX4 = some m.cls := findClass_of_methodNamed B.named
  have hlocks := B.notSynchronized
  subst hsz
  have hD := hD0.self (sz := s.heap.size)
  generalize hAe : va_A ([(d 4 0, .inl (k 2, 2, .inr (.inr (.inr (.inr (snA d)))))), (d 5 0, .inl (k 1, 2, .inl kp))] ++ (wSt k (d 11) (Y 0) ++ (wSt k (d 12) (Y 1) ++ (wXo d (nI ns) ++ (wSt k (d 1) S ++ ([(d 3 0, .inl (k 2, 6, .inr (.inr (.inr (.inr (svA v))))))] ++ (wSt k (v 0) (Z 0) ++ (wSt k (v 1) (Z 1) ++ (wSt k (v 2) (Z 2) ++ (wSt k (v 3) (Z 3) ++ (wSt k (v 4) (Z 4) ++ (wSt k (v 5) (Z 5))))))))))))) s.heap.size = A at hD ⊢
  have hA : ∀ q : Nat, s.heap.size ≤ q → A q := fun q h => by rw [← hAe]; exact Or.inr h
  have hS : va_S A s.heap s.heap [] := va_S.rf
  have hl := lv_entry ([.ref (d 0 0), .int 0]) (n := 2) (Nat.le_of_ble_eq_true rfl)
  rw [lg_entry_eq]
  generalize (lg_sl ([.ref (d 0 0), .int 0]) ++ List.replicate (2 - (lg_sl ([.ref (d 0 0), .int 0])).length) Slot.unset).toArray = ls at hl ⊢
  have hl : lv_has ls 2 [(0, .ref (d 0 0)), (1, .int 0)] := hl
  obtain ⟨H, hHe⟩ : ∃ H, H = s.heap := ⟨_, rfl⟩
  have hP : va_P D vwCl ([(d 4 0, .inl (k 2, 2, .inr (.inr (.inr (.inr (snA d)))))), (d 5 0, .inl (k 1, 2, .inl kp))] ++ (wSt k (d 11) (Y 0) ++ (wSt k (d 12) (Y 1) ++ (wXo d (nI ns) ++ (wSt k (d 1) S ++ ([(d 3 0, .inl (k 2, 6, .inr (.inr (.inr (.inr (svA v))))))] ++ (wSt k (v 0) (Z 0) ++ (wSt k (v 1) (Z 1) ++ (wSt k (v 2) (Z 2) ++ (wSt k (v 3) (Z 3) ++ (wSt k (v 4) (Z 4) ++ (wSt k (v 5) (Z 5))))))))))))) H := by rw [hHe]; exact hP
  have hS : va_S A s.heap H [] := by rw [hHe]; exact hS
  rw [← hHe]
  refine absQ (fun Q hQ => ?_)
  refine lv_iload_n hx hb dX4_goBack_0 rfl (lv_at hl 1 rfl) ?_
  have hPc : va_P D vwCl ([]) H := hP.sub [] rfl
  have hDc : va_D A ([]) := hD.sub [] (by decide +kernel) rfl
  refine cl_i0 (va_runS (As := [.int 0]) (rest := []) ⟨hx, hb, hml, hown, hts⟩ (c_X4_isSlot l D k 0 H.size) (va_cwS 1 hts gX4_goBack_X4_isSlot rfl rfl rfl (by decide +kernel) ⟨Nat.le_of_ble_eq_true rfl, Nat.le_of_ble_eq_true rfl⟩) ⟨pr_blind, pr_at hN hPc hK hDc⟩ rfl rfl hl.1 rfl (lv_room (Nat.le_of_ble_eq_true rfl)) dX4_goBack_1 ⟨Nat.le_of_ble_eq_true rfl, Nat.le_of_ble_eq_true rfl⟩) hP hD hS hA [] rfl (fun H locs hP hD hS => ?_)
  clear hPc hDc
  refine lv_if_ne (tgt := 17) hx hb dX4_goBack_4 (by decide) (fun c_1 => ?_) (fun c_1 => ?_)
  · have c_1 := bI_ne.mp c_1
    refine lv_aload_n hx hb dX4_goBack_17 rfl (lv_at hl 0 rfl) ?_
    refine va_get (D := D) (ci := 4) (v := .ref (d 5 0)) (C := RX4) (T := TX4) (N := 9) hx hb hts (fun _ h9 => (List.mem_cons_of_mem _ (List.mem_append_left _ (List.mem_append_left _ (List.mem_append_left _ (List.mem_append_right _ h9)))))) hown hK hP 18 rfl rfl 5 (by decide) (hts _ (List.mem_of_getElem? (i := 5) rfl)) (fun _ h9 => h9) rfl dX4_goBack_18 ?_
    refine lv_iload_n hx hb dX4_goBack_21 rfl (lv_at hl 1 rfl) ?_
    refine ar_zld hx hb hK hP 1 rfl 0 rfl (show vp_in (nI 0) 2 from vp_in_nI (by decide) (by decide)) dX4_goBack_22 ?_
    refine lv_if_ne (tgt := 36) hx hb dX4_goBack_23 (by decide) (fun c_2 => ?_) (fun c_2 => ?_)
    · refine lv_aload_n hx hb dX4_goBack_36 rfl (lv_at hl 0 rfl) ?_
      have hPc : va_P D vwCl (wXo d (nI ns) ++ (wSt k (d 1) S ++ wSv k (d 3 0) v Z)) H := hP.sub [18, 19, 20, 21, 22, 23, 24, 25, 26, 27, 28, 29, 30, 31, 32, 33, 34, 35, 36, 37, 38, 39, 40, 41, 42, 43, 44, 45, 46, 47, 48, 49, 50, 51, 52, 53, 54, 55, 56, 57, 58, 59, 60, 61, 62, 63, 64, 65, 66, 67, 68, 69, 70, 71, 72, 73, 74, 75] rfl
      have hDc : va_D A (wXo d (nI ns) ++ (wSt k (d 1) S ++ wSv k (d 3 0) v Z)) := hD.sub [18, 19, 20, 21, 22, 23, 24, 25, 26, 27, 28, 29, 30, 31, 32, 33, 34, 35, 36, 37, 38, 39, 40, 41, 42, 43, 44, 45, 46, 47, 48, 49, 50, 51, 52, 53, 54, 55, 56, 57, 58, 59, 60, 61, 62, 63, 64, 65, 66, 67, 68, 69, 70, 71, 72, 73, 74, 75] (by decide +kernel) rfl
      refine cl_vD (va_runV (As := []) (rest := []) ⟨hx, hb, hml, hown, hts⟩ (c_X4_saveState l D k d v S Z ns hns H.size) (cwV 0 hts gX4_goBack_X4_saveState rfl rfl rfl (by decide +kernel) ⟨Nat.le_of_ble_eq_true rfl, Nat.le_of_ble_eq_true rfl⟩) ⟨pr_blind, va_recv hK hP (ci := 4) (q0 := 18) rfl rfl, pr_at hN hPc hK hDc⟩ rfl rfl hl.1 rfl (lv_room (Nat.le_of_ble_eq_true rfl)) dX4_goBack_37 ⟨Nat.le_of_ble_eq_true rfl, Nat.le_of_ble_eq_true rfl⟩) hP hD hS hA [18, 19, 20, 21, 22, 23, 24, 25, 26, 27, 28, 29, 30, 31, 32, 33, 34, 35, 36, 37, 38, 39, 40, 41, 42, 43, 44, 45, 46, 47, 48, 49, 50, 51, 52, 53, 54, 55, 56, 57, 58, 59, 60, 61, 62, 63, 64, 65, 66, 67, 68, 69, 70, 71, 72, 73, 74, 75] [0, 1, 2, 3, 4, 5, 6, 7, 8, 9, 10, 11, 12, 13, 14, 15, 16, 17] rfl (wr := ([(d 4 0, .inl (k 2, 2, .inr (.inr (.inr (.inr (snA d)))))), (d 5 0, .inl (k 1, 2, .inl kp))] ++ (wSt k (d 11) (Y 0) ++ (wSt k (d 12) (Y 1))))) rfl (by decide +kernel) (by decide +kernel) (fun H locs hP hD hS => ?_)
      have hP : va_P D vwCl ([(d 4 0, .inl (k 2, 2, .inr (.inr (.inr (.inr (snA d)))))), (d 5 0, .inl (k 1, 2, .inl kp))] ++ (wSt k (d 11) (Y 0) ++ (wSt k (d 12) (Y 1) ++ (wXo d (nI (svN ns)) ++ (wSt k (d 1) S ++ ([(d 3 0, .inl (k 2, 6, .inr (.inr (.inr (.inr (svA (svE v ns)))))))] ++ (wSt k ((svE v ns) 0) ((svZ Z ns S) 0) ++ (wSt k ((svE v ns) 1) ((svZ Z ns S) 1) ++ (wSt k ((svE v ns) 2) ((svZ Z ns S) 2) ++ (wSt k ((svE v ns) 3) ((svZ Z ns S) 3) ++ (wSt k ((svE v ns) 4) ((svZ Z ns S) 4) ++ (wSt k ((svE v ns) 5) ((svZ Z ns S) 5))))))))))))) H := hP
      have hD : va_D A ([(d 4 0, .inl (k 2, 2, .inr (.inr (.inr (.inr (snA d)))))), (d 5 0, .inl (k 1, 2, .inl kp))] ++ (wSt k (d 11) (Y 0) ++ (wSt k (d 12) (Y 1) ++ (wXo d (nI (svN ns)) ++ (wSt k (d 1) S ++ ([(d 3 0, .inl (k 2, 6, .inr (.inr (.inr (.inr (svA (svE v ns)))))))] ++ (wSt k ((svE v ns) 0) ((svZ Z ns S) 0) ++ (wSt k ((svE v ns) 1) ((svZ Z ns S) 1) ++ (wSt k ((svE v ns) 2) ((svZ Z ns S) 2) ++ (wSt k ((svE v ns) 3) ((svZ Z ns S) 3) ++ (wSt k ((svE v ns) 4) ((svZ Z ns S) 4) ++ (wSt k ((svE v ns) 5) ((svZ Z ns S) 5))))))))))))) := hD
      clear hPc hDc
      refine lv_aload_n hx hb dX4_goBack_40 rfl (lv_at hl 0 rfl) ?_
      refine va_get (D := D) (ci := 4) (v := .ref (d 4 0)) (C := RX4) (T := TX4) (N := 9) hx hb hts (fun _ h9 => (List.mem_cons_of_mem _ (List.mem_append_left _ (List.mem_append_left _ (List.mem_append_left _ (List.mem_append_right _ h9)))))) hown hK hP 18 rfl rfl 4 (by decide) (hts _ (List.mem_of_getElem? (i := 6) rfl)) (fun _ h9 => h9) rfl dX4_goBack_41 ?_
      refine lv_iload_n hx hb dX4_goBack_44 rfl (lv_at hl 1 rfl) ?_
      refine ar_qld hx hb hK hP 0 rfl 0 rfl (show vp_in (nI 0) 2 from vp_in_nI (by decide) (by decide)) (d 11 0) rfl dX4_goBack_45 ?_
      refine lv_aload_n hx hb dX4_goBack_46 rfl (lv_at hl 0 rfl) ?_
      refine va_get (D := D) (ci := 4) (v := .ref (d 1 0)) (C := RX4) (T := TX4) (N := 9) hx hb hts (fun _ h9 => (List.mem_cons_of_mem _ (List.mem_append_left _ (List.mem_append_left _ (List.mem_append_left _ (List.mem_append_right _ h9)))))) hown hK hP 18 rfl rfl 0 (by decide) (hts _ (List.mem_of_getElem? (i := 7) rfl)) (fun _ h9 => h9) rfl dX4_goBack_47 ?_
      have hPc : va_P D vwCl (wSt k (d 1) S ++ wSt k (d 11) (Y 0)) H := hP.sub [19, 20, 21, 22, 23, 24, 25, 26, 2, 3, 4, 5, 6, 7, 8, 9] rfl
      have hDc : va_D A (wSt k (d 1) S ++ wSt k (d 11) (Y 0)) := hD.sub [19, 20, 21, 22, 23, 24, 25, 26, 2, 3, 4, 5, 6, 7, 8, 9] (by decide +kernel) rfl
      refine cl_v (va_runS (As := [.ref (d 11 0), .ref (d 1 0)]) (rest := []) ⟨hx, hb, hml, hown, hts⟩ (c_X4_copyState l D k (d 1) (d 11) S (Y 0) H.size) (va_cwS 2 hts gX4_goBack_X4_copyState rfl rfl rfl (by decide +kernel) ⟨Nat.le_of_ble_eq_true rfl, Nat.le_of_ble_eq_true rfl⟩) ⟨pr_blind, pr_at hN hPc hK hDc⟩ rfl rfl hl.1 rfl (lv_room (Nat.le_of_ble_eq_true rfl)) dX4_goBack_50 ⟨Nat.le_of_ble_eq_true rfl, Nat.le_of_ble_eq_true rfl⟩) hP hD hS hA [19, 20, 21, 22, 23, 24, 25, 26, 2, 3, 4, 5, 6, 7, 8, 9] [0, 1, 10, 11, 12, 13, 14, 15, 16, 17, 18, 27, 28, 29, 30, 31, 32, 33, 34, 35, 36, 37, 38, 39, 40, 41, 42, 43, 44, 45, 46, 47, 48, 49, 50, 51, 52, 53, 54, 55, 56, 57, 58, 59, 60, 61, 62, 63, 64, 65, 66, 67, 68, 69, 70, 71, 72, 73, 74, 75] (([(d 4 0, .inl (k 2, 2, .inr (.inr (.inr (.inr (snA d)))))), (d 5 0, .inl (k 1, 2, .inl kp))]) ++ (wSt k (d 12) (Y 1)) ++ (wXo d (nI (svN ns))) ++ ([(d 3 0, .inl (k 2, 6, .inr (.inr (.inr (.inr (svA (svE v ns)))))))]) ++ (wSt k ((svE v ns) 0) ((svZ Z ns S) 0)) ++ (wSt k ((svE v ns) 1) ((svZ Z ns S) 1)) ++ (wSt k ((svE v ns) 2) ((svZ Z ns S) 2)) ++ (wSt k ((svE v ns) 3) ((svZ Z ns S) 3)) ++ (wSt k ((svE v ns) 4) ((svZ Z ns S) 4)) ++ (wSt k ((svE v ns) 5) ((svZ Z ns S) 5))) [d 4 0, d 5 0, (d 11) 0, (d 11) 1, (d 11) 2, (d 11) 3, (d 11) 4, (d 11) 5, (d 11) 6, (d 11) 7, (d 12) 0, (d 12) 1, (d 12) 2, (d 12) 3, (d 12) 4, (d 12) 5, (d 12) 6, (d 12) 7, d 0 0, (d 1) 0, (d 1) 1, (d 1) 2, (d 1) 3, (d 1) 4, (d 1) 5, (d 1) 6, (d 1) 7, d 3 0, ((svE v ns) 0) 0, ((svE v ns) 0) 1, ((svE v ns) 0) 2, ((svE v ns) 0) 3, ((svE v ns) 0) 4, ((svE v ns) 0) 5, ((svE v ns) 0) 6, ((svE v ns) 0) 7, ((svE v ns) 1) 0, ((svE v ns) 1) 1, ((svE v ns) 1) 2, ((svE v ns) 1) 3, ((svE v ns) 1) 4, ((svE v ns) 1) 5, ((svE v ns) 1) 6, ((svE v ns) 1) 7, ((svE v ns) 2) 0, ((svE v ns) 2) 1, ((svE v ns) 2) 2, ((svE v ns) 2) 3, ((svE v ns) 2) 4, ((svE v ns) 2) 5, ((svE v ns) 2) 6, ((svE v ns) 2) 7, ((svE v ns) 3) 0, ((svE v ns) 3) 1, ((svE v ns) 3) 2, ((svE v ns) 3) 3, ((svE v ns) 3) 4, ((svE v ns) 3) 5, ((svE v ns) 3) 6, ((svE v ns) 3) 7, ((svE v ns) 4) 0, ((svE v ns) 4) 1, ((svE v ns) 4) 2, ((svE v ns) 4) 3, ((svE v ns) 4) 4, ((svE v ns) 4) 5, ((svE v ns) 4) 6, ((svE v ns) 4) 7, ((svE v ns) 5) 0, ((svE v ns) 5) 1, ((svE v ns) 5) 2, ((svE v ns) 5) 3, ((svE v ns) 5) 4, ((svE v ns) 5) 5, ((svE v ns) 5) 6, ((svE v ns) 5) 7] 76 rfl (wn := ([(d 4 0, .inl (k 2, 2, .inr (.inr (.inr (.inr (snA d)))))), (d 5 0, .inl (k 1, 2, .inl kp))] ++ (wSt k (d 11) (Y 0) ++ (wSt k (d 12) (Y 1) ++ (wXo d (nI (svN ns)) ++ (wSt k (d 1) (Y 0) ++ ([(d 3 0, .inl (k 2, 6, .inr (.inr (.inr (.inr (svA (svE v ns)))))))] ++ (wSt k ((svE v ns) 0) ((svZ Z ns S) 0) ++ (wSt k ((svE v ns) 1) ((svZ Z ns S) 1) ++ (wSt k ((svE v ns) 2) ((svZ Z ns S) 2) ++ (wSt k ((svE v ns) 3) ((svZ Z ns S) 3) ++ (wSt k ((svE v ns) 4) ((svZ Z ns S) 4) ++ (wSt k ((svE v ns) 5) ((svZ Z ns S) 5)))))))))))))) rfl rfl rfl rfl (by decide +kernel) rfl rfl (fun H locs hP hD hS => ?_)
      clear hPc hDc
      refine lv_aload_n hx hb dX4_goBack_53 rfl (lv_at hl 0 rfl) ?_
      refine va_get (D := D) (ci := 4) (v := .ref (d 1 0)) (C := RX4) (T := TX4) (N := 9) hx hb hts (fun _ h9 => (List.mem_cons_of_mem _ (List.mem_append_left _ (List.mem_append_left _ (List.mem_append_left _ (List.mem_append_right _ h9)))))) hown hK hP 18 rfl rfl 0 (by decide) (hts _ (List.mem_of_getElem? (i := 7) rfl)) (fun _ h9 => h9) rfl dX4_goBack_54 ?_
      have hPc : va_P D vwCl (wSt k (d 1) (Y 0)) H := hP.sub [19, 20, 21, 22, 23, 24, 25, 26] rfl
      have hDc : va_D A (wSt k (d 1) (Y 0)) := hD.sub [19, 20, 21, 22, 23, 24, 25, 26] (by decide +kernel) rfl
      refine cl_i0 (va_runV (As := []) (rest := []) ⟨hx, hb, hml, hown, hts⟩ (c_X1_countJoins l D k (d 1) (Y 0)  H.size) (cwV 0 hts gX4_goBack_X1_countJoins rfl rfl rfl (by decide +kernel) ⟨Nat.le_of_ble_eq_true rfl, Nat.le_of_ble_eq_true rfl⟩) ⟨pr_blind, va_recv hK hP (ci := 1) (q0 := 19) rfl rfl, pr_at hN hPc hK hDc⟩ rfl rfl hl.1 rfl (lv_room (Nat.le_of_ble_eq_true rfl)) dX4_goBack_57 ⟨Nat.le_of_ble_eq_true rfl, Nat.le_of_ble_eq_true rfl⟩) hP hD hS hA [19, 20, 21, 22, 23, 24, 25, 26] rfl (fun H locs hP hD hS => ?_)
      clear hPc hDc
      subst hQ
      exact rt_iD hx hb hr hlocks hS dX4_goBack_60 (hP) (hD) (rfl)
    · exact absurd c_2 (by rw [hkp]; decide)
  · have c_1 := bI_eq.mp c_1
    exact absurd c_1 (by decide)

set_option maxHeartbeats 1000000 in
set_option maxRecDepth 100000 in
theorem c_X4_goBack_1 (l : Launch) (D : va_G) (k : Nat → ClassId) (d v : Nat → Nat → Nat) (S : Nat → Nat → Int32) (Z : Nat → Nat → Nat → Int32) (ns : Nat) (Y : Nat → Nat → Nat → Int32) (kp : Nat → Int32) (hns : ns ≤ 6) (hkp : kp 1 = 1) : MID l yX4_goBack wsX4_goBack ({ frames := 4, cells := 0, slots := 0, locals := 90 }) D k [.ref (d 0 0), .int 1] ([(d 4 0, .inl (k 2, 2, .inr (.inr (.inr (.inr (snA d)))))), (d 5 0, .inl (k 1, 2, .inl kp))] ++ (wSt k (d 11) (Y 0) ++ (wSt k (d 12) (Y 1) ++ (wXo d (nI ns) ++ (wSt k (d 1) S ++ ([(d 3 0, .inl (k 2, 6, .inr (.inr (.inr (.inr (svA v))))))] ++ (wSt k (v 0) (Z 0) ++ (wSt k (v 1) (Z 1) ++ (wSt k (v 2) (Z 2) ++ (wSt k (v 3) (Z 3) ++ (wSt k (v 4) (Z 4) ++ (wSt k (v 5) (Z 5))))))))))))) (cjF (Y 1 2) 9) (([(d 4 0, .inl (k 2, 2, .inr (.inr (.inr (.inr (snA d)))))), (d 5 0, .inl (k 1, 2, .inl kp))] ++ (wSt k (d 11) (Y 0) ++ wSt k (d 12) (Y 1))) ++ (wXo d (nI (svN ns)) ++ (wSt k (d 1) (Y 1) ++ wSv k (d 3 0) (svE v ns) (svZ Z ns S)))) := by
  intro sz
  refine Met.ofW (cc := cX4_goBack) (maxL := 2) (ret := (some .int)) (by decide) rfl ?_
  intro p e s m args below meth c s₁ B hml hv
  obtain ⟨rfl, hN, hsz, hP, hK, hD0⟩ := hv
  have hx := B.exec
  have hb := B.bytes
  have hr := B.returns
  have hts := atoms_spec (ws := wsX4_goBack) B.pre
  have hown : s.vm.findClass RX4 = some m.cls := findClass_of_methodNamed B.named
  have hlocks := B.notSynchronized
  subst hsz
  have hD := hD0.self (sz := s.heap.size)
  generalize hAe : va_A ([(d 4 0, .inl (k 2, 2, .inr (.inr (.inr (.inr (snA d)))))), (d 5 0, .inl (k 1, 2, .inl kp))] ++ (wSt k (d 11) (Y 0) ++ (wSt k (d 12) (Y 1) ++ (wXo d (nI ns) ++ (wSt k (d 1) S ++ ([(d 3 0, .inl (k 2, 6, .inr (.inr (.inr (.inr (svA v))))))] ++ (wSt k (v 0) (Z 0) ++ (wSt k (v 1) (Z 1) ++ (wSt k (v 2) (Z 2) ++ (wSt k (v 3) (Z 3) ++ (wSt k (v 4) (Z 4) ++ (wSt k (v 5) (Z 5))))))))))))) s.heap.size = A at hD ⊢
  have hA : ∀ q : Nat, s.heap.size ≤ q → A q := fun q h => by rw [← hAe]; exact Or.inr h
  have hS : va_S A s.heap s.heap [] := va_S.rf
  have hl := lv_entry ([.ref (d 0 0), .int 1]) (n := 2) (Nat.le_of_ble_eq_true rfl)
  rw [lg_entry_eq]
  generalize (lg_sl ([.ref (d 0 0), .int 1]) ++ List.replicate (2 - (lg_sl ([.ref (d 0 0), .int 1])).length) Slot.unset).toArray = ls at hl ⊢
  have hl : lv_has ls 2 [(0, .ref (d 0 0)), (1, .int 1)] := hl
  obtain ⟨H, hHe⟩ : ∃ H, H = s.heap := ⟨_, rfl⟩
  have hP : va_P D vwCl ([(d 4 0, .inl (k 2, 2, .inr (.inr (.inr (.inr (snA d)))))), (d 5 0, .inl (k 1, 2, .inl kp))] ++ (wSt k (d 11) (Y 0) ++ (wSt k (d 12) (Y 1) ++ (wXo d (nI ns) ++ (wSt k (d 1) S ++ ([(d 3 0, .inl (k 2, 6, .inr (.inr (.inr (.inr (svA v))))))] ++ (wSt k (v 0) (Z 0) ++ (wSt k (v 1) (Z 1) ++ (wSt k (v 2) (Z 2) ++ (wSt k (v 3) (Z 3) ++ (wSt k (v 4) (Z 4) ++ (wSt k (v 5) (Z 5))))))))))))) H := by rw [hHe]; exact hP
  have hS : va_S A s.heap H [] := by rw [hHe]; exact hS
  rw [← hHe]
  refine absQ (fun Q hQ => ?_)
  refine lv_iload_n hx hb dX4_goBack_0 rfl (lv_at hl 1 rfl) ?_
  have hPc : va_P D vwCl ([]) H := hP.sub [] rfl
  have hDc : va_D A ([]) := hD.sub [] (by decide +kernel) rfl
  refine cl_i0 (va_runS (As := [.int 1]) (rest := []) ⟨hx, hb, hml, hown, hts⟩ (c_X4_isSlot l D k 1 H.size) (va_cwS 1 hts gX4_goBack_X4_isSlot rfl rfl rfl (by decide +kernel) ⟨Nat.le_of_ble_eq_true rfl, Nat.le_of_ble_eq_true rfl⟩) ⟨pr_blind, pr_at hN hPc hK hDc⟩ rfl rfl hl.1 rfl (lv_room (Nat.le_of_ble_eq_true rfl)) dX4_goBack_1 ⟨Nat.le_of_ble_eq_true rfl, Nat.le_of_ble_eq_true rfl⟩) hP hD hS hA [] rfl (fun H locs hP hD hS => ?_)
  clear hPc hDc
  refine lv_if_ne (tgt := 17) hx hb dX4_goBack_4 (by decide) (fun c_1 => ?_) (fun c_1 => ?_)
  · have c_1 := bI_ne.mp c_1
    refine lv_aload_n hx hb dX4_goBack_17 rfl (lv_at hl 0 rfl) ?_
    refine va_get (D := D) (ci := 4) (v := .ref (d 5 0)) (C := RX4) (T := TX4) (N := 9) hx hb hts (fun _ h9 => (List.mem_cons_of_mem _ (List.mem_append_left _ (List.mem_append_left _ (List.mem_append_left _ (List.mem_append_right _ h9)))))) hown hK hP 18 rfl rfl 5 (by decide) (hts _ (List.mem_of_getElem? (i := 5) rfl)) (fun _ h9 => h9) rfl dX4_goBack_18 ?_
    refine lv_iload_n hx hb dX4_goBack_21 rfl (lv_at hl 1 rfl) ?_
    refine ar_zld hx hb hK hP 1 rfl 1 rfl (show vp_in (nI 1) 2 from vp_in_nI (by decide) (by decide)) dX4_goBack_22 ?_
    refine lv_if_ne (tgt := 36) hx hb dX4_goBack_23 (by decide) (fun c_2 => ?_) (fun c_2 => ?_)
    · refine lv_aload_n hx hb dX4_goBack_36 rfl (lv_at hl 0 rfl) ?_
      have hPc : va_P D vwCl (wXo d (nI ns) ++ (wSt k (d 1) S ++ wSv k (d 3 0) v Z)) H := hP.sub [18, 19, 20, 21, 22, 23, 24, 25, 26, 27, 28, 29, 30, 31, 32, 33, 34, 35, 36, 37, 38, 39, 40, 41, 42, 43, 44, 45, 46, 47, 48, 49, 50, 51, 52, 53, 54, 55, 56, 57, 58, 59, 60, 61, 62, 63, 64, 65, 66, 67, 68, 69, 70, 71, 72, 73, 74, 75] rfl
      have hDc : va_D A (wXo d (nI ns) ++ (wSt k (d 1) S ++ wSv k (d 3 0) v Z)) := hD.sub [18, 19, 20, 21, 22, 23, 24, 25, 26, 27, 28, 29, 30, 31, 32, 33, 34, 35, 36, 37, 38, 39, 40, 41, 42, 43, 44, 45, 46, 47, 48, 49, 50, 51, 52, 53, 54, 55, 56, 57, 58, 59, 60, 61, 62, 63, 64, 65, 66, 67, 68, 69, 70, 71, 72, 73, 74, 75] (by decide +kernel) rfl
      refine cl_vD (va_runV (As := []) (rest := []) ⟨hx, hb, hml, hown, hts⟩ (c_X4_saveState l D k d v S Z ns hns H.size) (cwV 0 hts gX4_goBack_X4_saveState rfl rfl rfl (by decide +kernel) ⟨Nat.le_of_ble_eq_true rfl, Nat.le_of_ble_eq_true rfl⟩) ⟨pr_blind, va_recv hK hP (ci := 4) (q0 := 18) rfl rfl, pr_at hN hPc hK hDc⟩ rfl rfl hl.1 rfl (lv_room (Nat.le_of_ble_eq_true rfl)) dX4_goBack_37 ⟨Nat.le_of_ble_eq_true rfl, Nat.le_of_ble_eq_true rfl⟩) hP hD hS hA [18, 19, 20, 21, 22, 23, 24, 25, 26, 27, 28, 29, 30, 31, 32, 33, 34, 35, 36, 37, 38, 39, 40, 41, 42, 43, 44, 45, 46, 47, 48, 49, 50, 51, 52, 53, 54, 55, 56, 57, 58, 59, 60, 61, 62, 63, 64, 65, 66, 67, 68, 69, 70, 71, 72, 73, 74, 75] [0, 1, 2, 3, 4, 5, 6, 7, 8, 9, 10, 11, 12, 13, 14, 15, 16, 17] rfl (wr := ([(d 4 0, .inl (k 2, 2, .inr (.inr (.inr (.inr (snA d)))))), (d 5 0, .inl (k 1, 2, .inl kp))] ++ (wSt k (d 11) (Y 0) ++ (wSt k (d 12) (Y 1))))) rfl (by decide +kernel) (by decide +kernel) (fun H locs hP hD hS => ?_)
      have hP : va_P D vwCl ([(d 4 0, .inl (k 2, 2, .inr (.inr (.inr (.inr (snA d)))))), (d 5 0, .inl (k 1, 2, .inl kp))] ++ (wSt k (d 11) (Y 0) ++ (wSt k (d 12) (Y 1) ++ (wXo d (nI (svN ns)) ++ (wSt k (d 1) S ++ ([(d 3 0, .inl (k 2, 6, .inr (.inr (.inr (.inr (svA (svE v ns)))))))] ++ (wSt k ((svE v ns) 0) ((svZ Z ns S) 0) ++ (wSt k ((svE v ns) 1) ((svZ Z ns S) 1) ++ (wSt k ((svE v ns) 2) ((svZ Z ns S) 2) ++ (wSt k ((svE v ns) 3) ((svZ Z ns S) 3) ++ (wSt k ((svE v ns) 4) ((svZ Z ns S) 4) ++ (wSt k ((svE v ns) 5) ((svZ Z ns S) 5))))))))))))) H := hP
      have hD : va_D A ([(d 4 0, .inl (k 2, 2, .inr (.inr (.inr (.inr (snA d)))))), (d 5 0, .inl (k 1, 2, .inl kp))] ++ (wSt k (d 11) (Y 0) ++ (wSt k (d 12) (Y 1) ++ (wXo d (nI (svN ns)) ++ (wSt k (d 1) S ++ ([(d 3 0, .inl (k 2, 6, .inr (.inr (.inr (.inr (svA (svE v ns)))))))] ++ (wSt k ((svE v ns) 0) ((svZ Z ns S) 0) ++ (wSt k ((svE v ns) 1) ((svZ Z ns S) 1) ++ (wSt k ((svE v ns) 2) ((svZ Z ns S) 2) ++ (wSt k ((svE v ns) 3) ((svZ Z ns S) 3) ++ (wSt k ((svE v ns) 4) ((svZ Z ns S) 4) ++ (wSt k ((svE v ns) 5) ((svZ Z ns S) 5))))))))))))) := hD
      clear hPc hDc
      refine lv_aload_n hx hb dX4_goBack_40 rfl (lv_at hl 0 rfl) ?_
      refine va_get (D := D) (ci := 4) (v := .ref (d 4 0)) (C := RX4) (T := TX4) (N := 9) hx hb hts (fun _ h9 => (List.mem_cons_of_mem _ (List.mem_append_left _ (List.mem_append_left _ (List.mem_append_left _ (List.mem_append_right _ h9)))))) hown hK hP 18 rfl rfl 4 (by decide) (hts _ (List.mem_of_getElem? (i := 6) rfl)) (fun _ h9 => h9) rfl dX4_goBack_41 ?_
      refine lv_iload_n hx hb dX4_goBack_44 rfl (lv_at hl 1 rfl) ?_
      refine ar_qld hx hb hK hP 0 rfl 1 rfl (show vp_in (nI 1) 2 from vp_in_nI (by decide) (by decide)) (d 12 0) rfl dX4_goBack_45 ?_
      refine lv_aload_n hx hb dX4_goBack_46 rfl (lv_at hl 0 rfl) ?_
      refine va_get (D := D) (ci := 4) (v := .ref (d 1 0)) (C := RX4) (T := TX4) (N := 9) hx hb hts (fun _ h9 => (List.mem_cons_of_mem _ (List.mem_append_left _ (List.mem_append_left _ (List.mem_append_left _ (List.mem_append_right _ h9)))))) hown hK hP 18 rfl rfl 0 (by decide) (hts _ (List.mem_of_getElem? (i := 7) rfl)) (fun _ h9 => h9) rfl dX4_goBack_47 ?_
      have hPc : va_P D vwCl (wSt k (d 1) S ++ wSt k (d 12) (Y 1)) H := hP.sub [19, 20, 21, 22, 23, 24, 25, 26, 10, 11, 12, 13, 14, 15, 16, 17] rfl
      have hDc : va_D A (wSt k (d 1) S ++ wSt k (d 12) (Y 1)) := hD.sub [19, 20, 21, 22, 23, 24, 25, 26, 10, 11, 12, 13, 14, 15, 16, 17] (by decide +kernel) rfl
      refine cl_v (va_runS (As := [.ref (d 12 0), .ref (d 1 0)]) (rest := []) ⟨hx, hb, hml, hown, hts⟩ (c_X4_copyState l D k (d 1) (d 12) S (Y 1) H.size) (va_cwS 2 hts gX4_goBack_X4_copyState rfl rfl rfl (by decide +kernel) ⟨Nat.le_of_ble_eq_true rfl, Nat.le_of_ble_eq_true rfl⟩) ⟨pr_blind, pr_at hN hPc hK hDc⟩ rfl rfl hl.1 rfl (lv_room (Nat.le_of_ble_eq_true rfl)) dX4_goBack_50 ⟨Nat.le_of_ble_eq_true rfl, Nat.le_of_ble_eq_true rfl⟩) hP hD hS hA [19, 20, 21, 22, 23, 24, 25, 26, 10, 11, 12, 13, 14, 15, 16, 17] [0, 1, 2, 3, 4, 5, 6, 7, 8, 9, 18, 27, 28, 29, 30, 31, 32, 33, 34, 35, 36, 37, 38, 39, 40, 41, 42, 43, 44, 45, 46, 47, 48, 49, 50, 51, 52, 53, 54, 55, 56, 57, 58, 59, 60, 61, 62, 63, 64, 65, 66, 67, 68, 69, 70, 71, 72, 73, 74, 75] (([(d 4 0, .inl (k 2, 2, .inr (.inr (.inr (.inr (snA d)))))), (d 5 0, .inl (k 1, 2, .inl kp))]) ++ (wSt k (d 11) (Y 0)) ++ (wXo d (nI (svN ns))) ++ ([(d 3 0, .inl (k 2, 6, .inr (.inr (.inr (.inr (svA (svE v ns)))))))]) ++ (wSt k ((svE v ns) 0) ((svZ Z ns S) 0)) ++ (wSt k ((svE v ns) 1) ((svZ Z ns S) 1)) ++ (wSt k ((svE v ns) 2) ((svZ Z ns S) 2)) ++ (wSt k ((svE v ns) 3) ((svZ Z ns S) 3)) ++ (wSt k ((svE v ns) 4) ((svZ Z ns S) 4)) ++ (wSt k ((svE v ns) 5) ((svZ Z ns S) 5))) [d 4 0, d 5 0, (d 11) 0, (d 11) 1, (d 11) 2, (d 11) 3, (d 11) 4, (d 11) 5, (d 11) 6, (d 11) 7, (d 12) 0, (d 12) 1, (d 12) 2, (d 12) 3, (d 12) 4, (d 12) 5, (d 12) 6, (d 12) 7, d 0 0, (d 1) 0, (d 1) 1, (d 1) 2, (d 1) 3, (d 1) 4, (d 1) 5, (d 1) 6, (d 1) 7, d 3 0, ((svE v ns) 0) 0, ((svE v ns) 0) 1, ((svE v ns) 0) 2, ((svE v ns) 0) 3, ((svE v ns) 0) 4, ((svE v ns) 0) 5, ((svE v ns) 0) 6, ((svE v ns) 0) 7, ((svE v ns) 1) 0, ((svE v ns) 1) 1, ((svE v ns) 1) 2, ((svE v ns) 1) 3, ((svE v ns) 1) 4, ((svE v ns) 1) 5, ((svE v ns) 1) 6, ((svE v ns) 1) 7, ((svE v ns) 2) 0, ((svE v ns) 2) 1, ((svE v ns) 2) 2, ((svE v ns) 2) 3, ((svE v ns) 2) 4, ((svE v ns) 2) 5, ((svE v ns) 2) 6, ((svE v ns) 2) 7, ((svE v ns) 3) 0, ((svE v ns) 3) 1, ((svE v ns) 3) 2, ((svE v ns) 3) 3, ((svE v ns) 3) 4, ((svE v ns) 3) 5, ((svE v ns) 3) 6, ((svE v ns) 3) 7, ((svE v ns) 4) 0, ((svE v ns) 4) 1, ((svE v ns) 4) 2, ((svE v ns) 4) 3, ((svE v ns) 4) 4, ((svE v ns) 4) 5, ((svE v ns) 4) 6, ((svE v ns) 4) 7, ((svE v ns) 5) 0, ((svE v ns) 5) 1, ((svE v ns) 5) 2, ((svE v ns) 5) 3, ((svE v ns) 5) 4, ((svE v ns) 5) 5, ((svE v ns) 5) 6, ((svE v ns) 5) 7] 76 rfl (wn := ([(d 4 0, .inl (k 2, 2, .inr (.inr (.inr (.inr (snA d)))))), (d 5 0, .inl (k 1, 2, .inl kp))] ++ (wSt k (d 11) (Y 0) ++ (wSt k (d 12) (Y 1) ++ (wXo d (nI (svN ns)) ++ (wSt k (d 1) (Y 1) ++ ([(d 3 0, .inl (k 2, 6, .inr (.inr (.inr (.inr (svA (svE v ns)))))))] ++ (wSt k ((svE v ns) 0) ((svZ Z ns S) 0) ++ (wSt k ((svE v ns) 1) ((svZ Z ns S) 1) ++ (wSt k ((svE v ns) 2) ((svZ Z ns S) 2) ++ (wSt k ((svE v ns) 3) ((svZ Z ns S) 3) ++ (wSt k ((svE v ns) 4) ((svZ Z ns S) 4) ++ (wSt k ((svE v ns) 5) ((svZ Z ns S) 5)))))))))))))) rfl rfl rfl rfl (by decide +kernel) rfl rfl (fun H locs hP hD hS => ?_)
      clear hPc hDc
      refine lv_aload_n hx hb dX4_goBack_53 rfl (lv_at hl 0 rfl) ?_
      refine va_get (D := D) (ci := 4) (v := .ref (d 1 0)) (C := RX4) (T := TX4) (N := 9) hx hb hts (fun _ h9 => (List.mem_cons_of_mem _ (List.mem_append_left _ (List.mem_append_left _ (List.mem_append_left _ (List.mem_append_right _ h9)))))) hown hK hP 18 rfl rfl 0 (by decide) (hts _ (List.mem_of_getElem? (i := 7) rfl)) (fun _ h9 => h9) rfl dX4_goBack_54 ?_
      have hPc : va_P D vwCl (wSt k (d 1) (Y 1)) H := hP.sub [19, 20, 21, 22, 23, 24, 25, 26] rfl
      have hDc : va_D A (wSt k (d 1) (Y 1)) := hD.sub [19, 20, 21, 22, 23, 24, 25, 26] (by decide +kernel) rfl
      refine cl_i0 (va_runV (As := []) (rest := []) ⟨hx, hb, hml, hown, hts⟩ (c_X1_countJoins l D k (d 1) (Y 1)  H.size) (cwV 0 hts gX4_goBack_X1_countJoins rfl rfl rfl (by decide +kernel) ⟨Nat.le_of_ble_eq_true rfl, Nat.le_of_ble_eq_true rfl⟩) ⟨pr_blind, va_recv hK hP (ci := 1) (q0 := 19) rfl rfl, pr_at hN hPc hK hDc⟩ rfl rfl hl.1 rfl (lv_room (Nat.le_of_ble_eq_true rfl)) dX4_goBack_57 ⟨Nat.le_of_ble_eq_true rfl, Nat.le_of_ble_eq_true rfl⟩) hP hD hS hA [19, 20, 21, 22, 23, 24, 25, 26] rfl (fun H locs hP hD hS => ?_)
      clear hPc hDc
      subst hQ
      exact rt_iD hx hb hr hlocks hS dX4_goBack_60 (hP) (hD) (rfl)
    · exact absurd c_2 (by rw [hkp]; decide)
  · have c_1 := bI_eq.mp c_1
    exact absurd c_1 (by decide)

set_option maxHeartbeats 1000000 in
set_option maxRecDepth 100000 in
theorem c_X4_undo_1 (l : Launch) (D : va_G) (k : Nat → ClassId) (d v : Nat → Nat → Nat) (S : Nat → Nat → Int32) (Z : Nat → Nat → Nat → Int32)  : MI l yX4_undo wsX4_undo ({ frames := 2, cells := 0, slots := 0, locals := 43 }) D k [.ref (d 0 0)] (wXo d 1 ++ (wSt k (d 1) S ++ ([(d 3 0, .inl (k 2, 6, .inr (.inr (.inr (.inr (svA v))))))] ++ (wSt k (v 0) (Z 0) ++ (wSt k (v 1) (Z 1) ++ (wSt k (v 2) (Z 2) ++ (wSt k (v 3) (Z 3) ++ (wSt k (v 4) (Z 4) ++ (wSt k (v 5) (Z 5)))))))))) 0 (wXo d 0 ++ (wSt k (d 1) (Z 0) ++ wSv k (d 3 0) v Z)) := by
  intro sz
  refine Met.ofW (cc := cX4_undo) (maxL := 1) (ret := (some .int)) (by decide) rfl ?_
  intro p e s m args below meth c s₁ B hml hv
  obtain ⟨rfl, hN, hsz, hP, hK, hD0⟩ := hv
  have hx := B.exec
  have hb := B.bytes
  have hr := B.returns
  have hts := atoms_spec (ws := wsX4_undo) B.pre
  have hown : s.vm.findClass RX4 = some m.cls := findClass_of_methodNamed B.named
  have hlocks := B.notSynchronized
  subst hsz
  have hD := hD0.self (sz := s.heap.size)
  generalize hAe : va_A (wXo d 1 ++ (wSt k (d 1) S ++ ([(d 3 0, .inl (k 2, 6, .inr (.inr (.inr (.inr (svA v))))))] ++ (wSt k (v 0) (Z 0) ++ (wSt k (v 1) (Z 1) ++ (wSt k (v 2) (Z 2) ++ (wSt k (v 3) (Z 3) ++ (wSt k (v 4) (Z 4) ++ (wSt k (v 5) (Z 5)))))))))) s.heap.size = A at hD ⊢
  have hA : ∀ q : Nat, s.heap.size ≤ q → A q := fun q h => by rw [← hAe]; exact Or.inr h
  have hS : va_S A s.heap s.heap [] := va_S.rf
  have hl := lv_entry ([.ref (d 0 0)]) (n := 1) (Nat.le_of_ble_eq_true rfl)
  rw [lg_entry_eq]
  generalize (lg_sl ([.ref (d 0 0)]) ++ List.replicate (1 - (lg_sl ([.ref (d 0 0)])).length) Slot.unset).toArray = ls at hl ⊢
  have hl : lv_has ls 1 [(0, .ref (d 0 0))] := hl
  obtain ⟨H, hHe⟩ : ∃ H, H = s.heap := ⟨_, rfl⟩
  have hP : va_P D vwCl (wXo d 1 ++ (wSt k (d 1) S ++ ([(d 3 0, .inl (k 2, 6, .inr (.inr (.inr (.inr (svA v))))))] ++ (wSt k (v 0) (Z 0) ++ (wSt k (v 1) (Z 1) ++ (wSt k (v 2) (Z 2) ++ (wSt k (v 3) (Z 3) ++ (wSt k (v 4) (Z 4) ++ (wSt k (v 5) (Z 5)))))))))) H := by rw [hHe]; exact hP
  have hS : va_S A s.heap H [] := by rw [hHe]; exact hS
  rw [← hHe]
  refine absQ (fun Q hQ => ?_)
  refine lv_aload_n hx hb dX4_undo_0 rfl (lv_at hl 0 rfl) ?_
  refine va_get (D := D) (ci := 4) (v := .int 1) (C := RX4) (T := TX4) (N := 9) hx hb hts (fun _ h9 => (List.mem_cons_of_mem _ (List.mem_append_left _ (List.mem_append_left _ (List.mem_append_right _ h9))))) hown hK hP 0 rfl rfl 3 (by decide) (hts _ (List.mem_of_getElem? (i := 3) rfl)) (fun _ h9 => h9) rfl dX4_undo_1 ?_
  refine lv_iconst (v := 1) hx hb dX4_undo_4 (by decide) ?_
  refine lv_icmp_lt (tgt := 17) hx hb dX4_undo_5 (by decide) (fun c_1 => ?_) (fun c_1 => ?_)
  · exact absurd c_1 (by decide)
  · refine lv_aload_n hx hb dX4_undo_8 rfl (lv_at hl 0 rfl) ?_
    refine va_get (D := D) (ci := 4) (v := .int 1) (C := RX4) (T := TX4) (N := 9) hx hb hts (fun _ h9 => (List.mem_cons_of_mem _ (List.mem_append_left _ (List.mem_append_left _ (List.mem_append_right _ h9))))) hown hK hP 0 rfl rfl 3 (by decide) (hts _ (List.mem_of_getElem? (i := 3) rfl)) (fun _ h9 => h9) rfl dX4_undo_9 ?_
    refine lv_bipush (v := 6) hx hb dX4_undo_12 (by decide) ?_
    refine lv_icmp_le (tgt := 27) hx hb dX4_undo_14 (by decide) (fun c_2 => ?_) (fun c_2 => ?_)
    · refine lv_aload_n hx hb dX4_undo_27 rfl (lv_at hl 0 rfl) ?_
      refine lv_dup hx hb dX4_undo_28 rfl ?_
      refine va_get (D := D) (ci := 4) (v := .int 1) (C := RX4) (T := TX4) (N := 9) hx hb hts (fun _ h9 => (List.mem_cons_of_mem _ (List.mem_append_left _ (List.mem_append_left _ (List.mem_append_right _ h9))))) hown hK hP 0 rfl rfl 3 (by decide) (hts _ (List.mem_of_getElem? (i := 3) rfl)) (fun _ h9 => h9) rfl dX4_undo_29 ?_
      refine lv_iconst (v := 1) hx hb dX4_undo_32 (by decide) ?_
      refine lv_isub hx hb dX4_undo_33 ?_
      refine tp_e (y := 0) (by decide) ?_
      refine va_put (D := D) (ci := 4) (v := .int 0) (ty := tyX4 3) (C := RX4) (T := TX4) (N := 9) hx hb hts (fun _ h9 => (List.mem_cons_of_mem _ (List.mem_append_left _ (List.mem_append_left _ (List.mem_append_right _ h9))))) tyX4 tyX4_ok nmX4 hown hK hP hD hS 0 rfl rfl 3 (by decide) (hts _ (List.mem_of_getElem? (i := 3) rfl)) (fun _ h9 => h9) rfl (tyX4_ok 3 (by decide)) rfl rfl (Nat.le_of_ble_eq_true rfl) dX4_undo_34 (fun H locs hP hD hS => ?_)
      have hP : va_P D vwCl ([(d 0 0, .inr (4, [.ref (d 1 0), .ref (d 2 0), .ref (d 3 0), .int 0, .ref (d 4 0), .ref (d 5 0), .ref (d 6 0), .ref (d 8 0), .ref (d 10 0)]))] ++ (wSt k (d 1) S ++ ([(d 3 0, .inl (k 2, 6, .inr (.inr (.inr (.inr (svA v))))))] ++ (wSt k (v 0) (Z 0) ++ (wSt k (v 1) (Z 1) ++ (wSt k (v 2) (Z 2) ++ (wSt k (v 3) (Z 3) ++ (wSt k (v 4) (Z 4) ++ (wSt k (v 5) (Z 5)))))))))) H := hP
      have hD : va_D A ([(d 0 0, .inr (4, [.ref (d 1 0), .ref (d 2 0), .ref (d 3 0), .int 0, .ref (d 4 0), .ref (d 5 0), .ref (d 6 0), .ref (d 8 0), .ref (d 10 0)]))] ++ (wSt k (d 1) S ++ ([(d 3 0, .inl (k 2, 6, .inr (.inr (.inr (.inr (svA v))))))] ++ (wSt k (v 0) (Z 0) ++ (wSt k (v 1) (Z 1) ++ (wSt k (v 2) (Z 2) ++ (wSt k (v 3) (Z 3) ++ (wSt k (v 4) (Z 4) ++ (wSt k (v 5) (Z 5)))))))))) := hD
      refine lv_aload_n hx hb dX4_undo_37 rfl (lv_at hl 0 rfl) ?_
      refine va_get (D := D) (ci := 4) (v := .ref (d 3 0)) (C := RX4) (T := TX4) (N := 9) hx hb hts (fun _ h9 => (List.mem_cons_of_mem _ (List.mem_append_left _ (List.mem_append_left _ (List.mem_append_right _ h9))))) hown hK hP 0 rfl rfl 2 (by decide) (hts _ (List.mem_of_getElem? (i := 4) rfl)) (fun _ h9 => h9) rfl dX4_undo_38 ?_
      refine lv_aload_n hx hb dX4_undo_41 rfl (lv_at hl 0 rfl) ?_
      refine va_get (D := D) (ci := 4) (v := .int 0) (C := RX4) (T := TX4) (N := 9) hx hb hts (fun _ h9 => (List.mem_cons_of_mem _ (List.mem_append_left _ (List.mem_append_left _ (List.mem_append_right _ h9))))) hown hK hP 0 rfl rfl 3 (by decide) (hts _ (List.mem_of_getElem? (i := 3) rfl)) (fun _ h9 => h9) rfl dX4_undo_42 ?_
      refine ar_qld hx hb hK hP 9 rfl 0 rfl (show vp_in (nI 0) 6 from vp_in_nI (by decide) (by decide)) (v 0 0) rfl dX4_undo_45 ?_
      refine lv_aload_n hx hb dX4_undo_46 rfl (lv_at hl 0 rfl) ?_
      refine va_get (D := D) (ci := 4) (v := .ref (d 1 0)) (C := RX4) (T := TX4) (N := 9) hx hb hts (fun _ h9 => (List.mem_cons_of_mem _ (List.mem_append_left _ (List.mem_append_left _ (List.mem_append_right _ h9))))) hown hK hP 0 rfl rfl 0 (by decide) (hts _ (List.mem_of_getElem? (i := 5) rfl)) (fun _ h9 => h9) rfl dX4_undo_47 ?_
      have hPc : va_P D vwCl (wSt k (d 1) S ++ wSt k (v 0) (Z 0)) H := hP.sub [1, 2, 3, 4, 5, 6, 7, 8, 10, 11, 12, 13, 14, 15, 16, 17] rfl
      have hDc : va_D A (wSt k (d 1) S ++ wSt k (v 0) (Z 0)) := hD.sub [1, 2, 3, 4, 5, 6, 7, 8, 10, 11, 12, 13, 14, 15, 16, 17] (by decide +kernel) rfl
      refine cl_v (va_runS (As := [.ref (v 0 0), .ref (d 1 0)]) (rest := []) ⟨hx, hb, hml, hown, hts⟩ (c_X4_copyState l D k (d 1) (v 0) S (Z 0) H.size) (va_cwS 2 hts gX4_undo_X4_copyState rfl rfl rfl (by decide +kernel) ⟨Nat.le_of_ble_eq_true rfl, Nat.le_of_ble_eq_true rfl⟩) ⟨pr_blind, pr_at hN hPc hK hDc⟩ rfl rfl hl.1 rfl (lv_room (Nat.le_of_ble_eq_true rfl)) dX4_undo_50 ⟨Nat.le_of_ble_eq_true rfl, Nat.le_of_ble_eq_true rfl⟩) hP hD hS hA [1, 2, 3, 4, 5, 6, 7, 8, 10, 11, 12, 13, 14, 15, 16, 17] [0, 9, 18, 19, 20, 21, 22, 23, 24, 25, 26, 27, 28, 29, 30, 31, 32, 33, 34, 35, 36, 37, 38, 39, 40, 41, 42, 43, 44, 45, 46, 47, 48, 49, 50, 51, 52, 53, 54, 55, 56, 57] (([(d 0 0, .inr (4, [.ref (d 1 0), .ref (d 2 0), .ref (d 3 0), .int 0, .ref (d 4 0), .ref (d 5 0), .ref (d 6 0), .ref (d 8 0), .ref (d 10 0)]))]) ++ ([(d 3 0, .inl (k 2, 6, .inr (.inr (.inr (.inr (svA v))))))]) ++ (wSt k (v 1) (Z 1)) ++ (wSt k (v 2) (Z 2)) ++ (wSt k (v 3) (Z 3)) ++ (wSt k (v 4) (Z 4)) ++ (wSt k (v 5) (Z 5))) [d 0 0, (d 1) 0, (d 1) 1, (d 1) 2, (d 1) 3, (d 1) 4, (d 1) 5, (d 1) 6, (d 1) 7, d 3 0, (v 0) 0, (v 0) 1, (v 0) 2, (v 0) 3, (v 0) 4, (v 0) 5, (v 0) 6, (v 0) 7, (v 1) 0, (v 1) 1, (v 1) 2, (v 1) 3, (v 1) 4, (v 1) 5, (v 1) 6, (v 1) 7, (v 2) 0, (v 2) 1, (v 2) 2, (v 2) 3, (v 2) 4, (v 2) 5, (v 2) 6, (v 2) 7, (v 3) 0, (v 3) 1, (v 3) 2, (v 3) 3, (v 3) 4, (v 3) 5, (v 3) 6, (v 3) 7, (v 4) 0, (v 4) 1, (v 4) 2, (v 4) 3, (v 4) 4, (v 4) 5, (v 4) 6, (v 4) 7, (v 5) 0, (v 5) 1, (v 5) 2, (v 5) 3, (v 5) 4, (v 5) 5, (v 5) 6, (v 5) 7] 58 rfl (wn := ([(d 0 0, .inr (4, [.ref (d 1 0), .ref (d 2 0), .ref (d 3 0), .int 0, .ref (d 4 0), .ref (d 5 0), .ref (d 6 0), .ref (d 8 0), .ref (d 10 0)]))] ++ (wSt k (d 1) (Z 0) ++ ([(d 3 0, .inl (k 2, 6, .inr (.inr (.inr (.inr (svA v))))))] ++ (wSt k (v 0) (Z 0) ++ (wSt k (v 1) (Z 1) ++ (wSt k (v 2) (Z 2) ++ (wSt k (v 3) (Z 3) ++ (wSt k (v 4) (Z 4) ++ (wSt k (v 5) (Z 5))))))))))) rfl rfl rfl rfl (by decide +kernel) rfl rfl (fun H locs hP hD hS => ?_)
      clear hPc hDc
      refine lv_aload_n hx hb dX4_undo_53 rfl (lv_at hl 0 rfl) ?_
      refine va_get (D := D) (ci := 4) (v := .int 0) (C := RX4) (T := TX4) (N := 9) hx hb hts (fun _ h9 => (List.mem_cons_of_mem _ (List.mem_append_left _ (List.mem_append_left _ (List.mem_append_right _ h9))))) hown hK hP 0 rfl rfl 3 (by decide) (hts _ (List.mem_of_getElem? (i := 3) rfl)) (fun _ h9 => h9) rfl dX4_undo_54 ?_
      subst hQ
      exact rt_i hx hb hr hlocks hS dX4_undo_57 (hP) (rfl)
    · exact absurd c_2 (by decide)

set_option maxHeartbeats 1000000 in
set_option maxRecDepth 100000 in
theorem c_X4_undo_2 (l : Launch) (D : va_G) (k : Nat → ClassId) (d v : Nat → Nat → Nat) (S : Nat → Nat → Int32) (Z : Nat → Nat → Nat → Int32)  : MI l yX4_undo wsX4_undo ({ frames := 2, cells := 0, slots := 0, locals := 43 }) D k [.ref (d 0 0)] (wXo d 2 ++ (wSt k (d 1) S ++ ([(d 3 0, .inl (k 2, 6, .inr (.inr (.inr (.inr (svA v))))))] ++ (wSt k (v 0) (Z 0) ++ (wSt k (v 1) (Z 1) ++ (wSt k (v 2) (Z 2) ++ (wSt k (v 3) (Z 3) ++ (wSt k (v 4) (Z 4) ++ (wSt k (v 5) (Z 5)))))))))) 1 (wXo d 1 ++ (wSt k (d 1) (Z 1) ++ wSv k (d 3 0) v Z)) := by
  intro sz
  refine Met.ofW (cc := cX4_undo) (maxL := 1) (ret := (some .int)) (by decide) rfl ?_
  intro p e s m args below meth c s₁ B hml hv
  obtain ⟨rfl, hN, hsz, hP, hK, hD0⟩ := hv
  have hx := B.exec
  have hb := B.bytes
  have hr := B.returns
  have hts := atoms_spec (ws := wsX4_undo) B.pre
  have hown : s.vm.findClass RX4 = some m.cls := findClass_of_methodNamed B.named
  have hlocks := B.notSynchronized
  subst hsz
  have hD := hD0.self (sz := s.heap.size)
  generalize hAe : va_A (wXo d 2 ++ (wSt k (d 1) S ++ ([(d 3 0, .inl (k 2, 6, .inr (.inr (.inr (.inr (svA v))))))] ++ (wSt k (v 0) (Z 0) ++ (wSt k (v 1) (Z 1) ++ (wSt k (v 2) (Z 2) ++ (wSt k (v 3) (Z 3) ++ (wSt k (v 4) (Z 4) ++ (wSt k (v 5) (Z 5)))))))))) s.heap.size = A at hD ⊢
  have hA : ∀ q : Nat, s.heap.size ≤ q → A q := fun q h => by rw [← hAe]; exact Or.inr h
  have hS : va_S A s.heap s.heap [] := va_S.rf
  have hl := lv_entry ([.ref (d 0 0)]) (n := 1) (Nat.le_of_ble_eq_true rfl)
  rw [lg_entry_eq]
  generalize (lg_sl ([.ref (d 0 0)]) ++ List.replicate (1 - (lg_sl ([.ref (d 0 0)])).length) Slot.unset).toArray = ls at hl ⊢
  have hl : lv_has ls 1 [(0, .ref (d 0 0))] := hl
  obtain ⟨H, hHe⟩ : ∃ H, H = s.heap := ⟨_, rfl⟩
  have hP : va_P D vwCl (wXo d 2 ++ (wSt k (d 1) S ++ ([(d 3 0, .inl (k 2, 6, .inr (.inr (.inr (.inr (svA v))))))] ++ (wSt k (v 0) (Z 0) ++ (wSt k (v 1) (Z 1) ++ (wSt k (v 2) (Z 2) ++ (wSt k (v 3) (Z 3) ++ (wSt k (v 4) (Z 4) ++ (wSt k (v 5) (Z 5)))))))))) H := by rw [hHe]; exact hP
  have hS : va_S A s.heap H [] := by rw [hHe]; exact hS
  rw [← hHe]
  refine absQ (fun Q hQ => ?_)
  refine lv_aload_n hx hb dX4_undo_0 rfl (lv_at hl 0 rfl) ?_
  refine va_get (D := D) (ci := 4) (v := .int 2) (C := RX4) (T := TX4) (N := 9) hx hb hts (fun _ h9 => (List.mem_cons_of_mem _ (List.mem_append_left _ (List.mem_append_left _ (List.mem_append_right _ h9))))) hown hK hP 0 rfl rfl 3 (by decide) (hts _ (List.mem_of_getElem? (i := 3) rfl)) (fun _ h9 => h9) rfl dX4_undo_1 ?_
  refine lv_iconst (v := 1) hx hb dX4_undo_4 (by decide) ?_
  refine lv_icmp_lt (tgt := 17) hx hb dX4_undo_5 (by decide) (fun c_1 => ?_) (fun c_1 => ?_)
  · exact absurd c_1 (by decide)
  · refine lv_aload_n hx hb dX4_undo_8 rfl (lv_at hl 0 rfl) ?_
    refine va_get (D := D) (ci := 4) (v := .int 2) (C := RX4) (T := TX4) (N := 9) hx hb hts (fun _ h9 => (List.mem_cons_of_mem _ (List.mem_append_left _ (List.mem_append_left _ (List.mem_append_right _ h9))))) hown hK hP 0 rfl rfl 3 (by decide) (hts _ (List.mem_of_getElem? (i := 3) rfl)) (fun _ h9 => h9) rfl dX4_undo_9 ?_
    refine lv_bipush (v := 6) hx hb dX4_undo_12 (by decide) ?_
    refine lv_icmp_le (tgt := 27) hx hb dX4_undo_14 (by decide) (fun c_2 => ?_) (fun c_2 => ?_)
    · refine lv_aload_n hx hb dX4_undo_27 rfl (lv_at hl 0 rfl) ?_
      refine lv_dup hx hb dX4_undo_28 rfl ?_
      refine va_get (D := D) (ci := 4) (v := .int 2) (C := RX4) (T := TX4) (N := 9) hx hb hts (fun _ h9 => (List.mem_cons_of_mem _ (List.mem_append_left _ (List.mem_append_left _ (List.mem_append_right _ h9))))) hown hK hP 0 rfl rfl 3 (by decide) (hts _ (List.mem_of_getElem? (i := 3) rfl)) (fun _ h9 => h9) rfl dX4_undo_29 ?_
      refine lv_iconst (v := 1) hx hb dX4_undo_32 (by decide) ?_
      refine lv_isub hx hb dX4_undo_33 ?_
      refine tp_e (y := 1) (by decide) ?_
      refine va_put (D := D) (ci := 4) (v := .int 1) (ty := tyX4 3) (C := RX4) (T := TX4) (N := 9) hx hb hts (fun _ h9 => (List.mem_cons_of_mem _ (List.mem_append_left _ (List.mem_append_left _ (List.mem_append_right _ h9))))) tyX4 tyX4_ok nmX4 hown hK hP hD hS 0 rfl rfl 3 (by decide) (hts _ (List.mem_of_getElem? (i := 3) rfl)) (fun _ h9 => h9) rfl (tyX4_ok 3 (by decide)) rfl rfl (Nat.le_of_ble_eq_true rfl) dX4_undo_34 (fun H locs hP hD hS => ?_)
      have hP : va_P D vwCl ([(d 0 0, .inr (4, [.ref (d 1 0), .ref (d 2 0), .ref (d 3 0), .int 1, .ref (d 4 0), .ref (d 5 0), .ref (d 6 0), .ref (d 8 0), .ref (d 10 0)]))] ++ (wSt k (d 1) S ++ ([(d 3 0, .inl (k 2, 6, .inr (.inr (.inr (.inr (svA v))))))] ++ (wSt k (v 0) (Z 0) ++ (wSt k (v 1) (Z 1) ++ (wSt k (v 2) (Z 2) ++ (wSt k (v 3) (Z 3) ++ (wSt k (v 4) (Z 4) ++ (wSt k (v 5) (Z 5)))))))))) H := hP
      have hD : va_D A ([(d 0 0, .inr (4, [.ref (d 1 0), .ref (d 2 0), .ref (d 3 0), .int 1, .ref (d 4 0), .ref (d 5 0), .ref (d 6 0), .ref (d 8 0), .ref (d 10 0)]))] ++ (wSt k (d 1) S ++ ([(d 3 0, .inl (k 2, 6, .inr (.inr (.inr (.inr (svA v))))))] ++ (wSt k (v 0) (Z 0) ++ (wSt k (v 1) (Z 1) ++ (wSt k (v 2) (Z 2) ++ (wSt k (v 3) (Z 3) ++ (wSt k (v 4) (Z 4) ++ (wSt k (v 5) (Z 5)))))))))) := hD
      refine lv_aload_n hx hb dX4_undo_37 rfl (lv_at hl 0 rfl) ?_
      refine va_get (D := D) (ci := 4) (v := .ref (d 3 0)) (C := RX4) (T := TX4) (N := 9) hx hb hts (fun _ h9 => (List.mem_cons_of_mem _ (List.mem_append_left _ (List.mem_append_left _ (List.mem_append_right _ h9))))) hown hK hP 0 rfl rfl 2 (by decide) (hts _ (List.mem_of_getElem? (i := 4) rfl)) (fun _ h9 => h9) rfl dX4_undo_38 ?_
      refine lv_aload_n hx hb dX4_undo_41 rfl (lv_at hl 0 rfl) ?_
      refine va_get (D := D) (ci := 4) (v := .int 1) (C := RX4) (T := TX4) (N := 9) hx hb hts (fun _ h9 => (List.mem_cons_of_mem _ (List.mem_append_left _ (List.mem_append_left _ (List.mem_append_right _ h9))))) hown hK hP 0 rfl rfl 3 (by decide) (hts _ (List.mem_of_getElem? (i := 3) rfl)) (fun _ h9 => h9) rfl dX4_undo_42 ?_
      refine ar_qld hx hb hK hP 9 rfl 1 rfl (show vp_in (nI 1) 6 from vp_in_nI (by decide) (by decide)) (v 1 0) rfl dX4_undo_45 ?_
      refine lv_aload_n hx hb dX4_undo_46 rfl (lv_at hl 0 rfl) ?_
      refine va_get (D := D) (ci := 4) (v := .ref (d 1 0)) (C := RX4) (T := TX4) (N := 9) hx hb hts (fun _ h9 => (List.mem_cons_of_mem _ (List.mem_append_left _ (List.mem_append_left _ (List.mem_append_right _ h9))))) hown hK hP 0 rfl rfl 0 (by decide) (hts _ (List.mem_of_getElem? (i := 5) rfl)) (fun _ h9 => h9) rfl dX4_undo_47 ?_
      have hPc : va_P D vwCl (wSt k (d 1) S ++ wSt k (v 1) (Z 1)) H := hP.sub [1, 2, 3, 4, 5, 6, 7, 8, 18, 19, 20, 21, 22, 23, 24, 25] rfl
      have hDc : va_D A (wSt k (d 1) S ++ wSt k (v 1) (Z 1)) := hD.sub [1, 2, 3, 4, 5, 6, 7, 8, 18, 19, 20, 21, 22, 23, 24, 25] (by decide +kernel) rfl
      refine cl_v (va_runS (As := [.ref (v 1 0), .ref (d 1 0)]) (rest := []) ⟨hx, hb, hml, hown, hts⟩ (c_X4_copyState l D k (d 1) (v 1) S (Z 1) H.size) (va_cwS 2 hts gX4_undo_X4_copyState rfl rfl rfl (by decide +kernel) ⟨Nat.le_of_ble_eq_true rfl, Nat.le_of_ble_eq_true rfl⟩) ⟨pr_blind, pr_at hN hPc hK hDc⟩ rfl rfl hl.1 rfl (lv_room (Nat.le_of_ble_eq_true rfl)) dX4_undo_50 ⟨Nat.le_of_ble_eq_true rfl, Nat.le_of_ble_eq_true rfl⟩) hP hD hS hA [1, 2, 3, 4, 5, 6, 7, 8, 18, 19, 20, 21, 22, 23, 24, 25] [0, 9, 10, 11, 12, 13, 14, 15, 16, 17, 26, 27, 28, 29, 30, 31, 32, 33, 34, 35, 36, 37, 38, 39, 40, 41, 42, 43, 44, 45, 46, 47, 48, 49, 50, 51, 52, 53, 54, 55, 56, 57] (([(d 0 0, .inr (4, [.ref (d 1 0), .ref (d 2 0), .ref (d 3 0), .int 1, .ref (d 4 0), .ref (d 5 0), .ref (d 6 0), .ref (d 8 0), .ref (d 10 0)]))]) ++ ([(d 3 0, .inl (k 2, 6, .inr (.inr (.inr (.inr (svA v))))))]) ++ (wSt k (v 0) (Z 0)) ++ (wSt k (v 2) (Z 2)) ++ (wSt k (v 3) (Z 3)) ++ (wSt k (v 4) (Z 4)) ++ (wSt k (v 5) (Z 5))) [d 0 0, (d 1) 0, (d 1) 1, (d 1) 2, (d 1) 3, (d 1) 4, (d 1) 5, (d 1) 6, (d 1) 7, d 3 0, (v 0) 0, (v 0) 1, (v 0) 2, (v 0) 3, (v 0) 4, (v 0) 5, (v 0) 6, (v 0) 7, (v 1) 0, (v 1) 1, (v 1) 2, (v 1) 3, (v 1) 4, (v 1) 5, (v 1) 6, (v 1) 7, (v 2) 0, (v 2) 1, (v 2) 2, (v 2) 3, (v 2) 4, (v 2) 5, (v 2) 6, (v 2) 7, (v 3) 0, (v 3) 1, (v 3) 2, (v 3) 3, (v 3) 4, (v 3) 5, (v 3) 6, (v 3) 7, (v 4) 0, (v 4) 1, (v 4) 2, (v 4) 3, (v 4) 4, (v 4) 5, (v 4) 6, (v 4) 7, (v 5) 0, (v 5) 1, (v 5) 2, (v 5) 3, (v 5) 4, (v 5) 5, (v 5) 6, (v 5) 7] 58 rfl (wn := ([(d 0 0, .inr (4, [.ref (d 1 0), .ref (d 2 0), .ref (d 3 0), .int 1, .ref (d 4 0), .ref (d 5 0), .ref (d 6 0), .ref (d 8 0), .ref (d 10 0)]))] ++ (wSt k (d 1) (Z 1) ++ ([(d 3 0, .inl (k 2, 6, .inr (.inr (.inr (.inr (svA v))))))] ++ (wSt k (v 0) (Z 0) ++ (wSt k (v 1) (Z 1) ++ (wSt k (v 2) (Z 2) ++ (wSt k (v 3) (Z 3) ++ (wSt k (v 4) (Z 4) ++ (wSt k (v 5) (Z 5))))))))))) rfl rfl rfl rfl (by decide +kernel) rfl rfl (fun H locs hP hD hS => ?_)
      clear hPc hDc
      refine lv_aload_n hx hb dX4_undo_53 rfl (lv_at hl 0 rfl) ?_
      refine va_get (D := D) (ci := 4) (v := .int 1) (C := RX4) (T := TX4) (N := 9) hx hb hts (fun _ h9 => (List.mem_cons_of_mem _ (List.mem_append_left _ (List.mem_append_left _ (List.mem_append_right _ h9))))) hown hK hP 0 rfl rfl 3 (by decide) (hts _ (List.mem_of_getElem? (i := 3) rfl)) (fun _ h9 => h9) rfl dX4_undo_54 ?_
      subst hQ
      exact rt_i hx hb hr hlocks hS dX4_undo_57 (hP) (rfl)
    · exact absurd c_2 (by decide)

set_option maxHeartbeats 1000000 in
set_option maxRecDepth 100000 in
theorem c_X4_undo_3 (l : Launch) (D : va_G) (k : Nat → ClassId) (d v : Nat → Nat → Nat) (S : Nat → Nat → Int32) (Z : Nat → Nat → Nat → Int32)  : MI l yX4_undo wsX4_undo ({ frames := 2, cells := 0, slots := 0, locals := 43 }) D k [.ref (d 0 0)] (wXo d 3 ++ (wSt k (d 1) S ++ ([(d 3 0, .inl (k 2, 6, .inr (.inr (.inr (.inr (svA v))))))] ++ (wSt k (v 0) (Z 0) ++ (wSt k (v 1) (Z 1) ++ (wSt k (v 2) (Z 2) ++ (wSt k (v 3) (Z 3) ++ (wSt k (v 4) (Z 4) ++ (wSt k (v 5) (Z 5)))))))))) 2 (wXo d 2 ++ (wSt k (d 1) (Z 2) ++ wSv k (d 3 0) v Z)) := by
  intro sz
  refine Met.ofW (cc := cX4_undo) (maxL := 1) (ret := (some .int)) (by decide) rfl ?_
  intro p e s m args below meth c s₁ B hml hv
  obtain ⟨rfl, hN, hsz, hP, hK, hD0⟩ := hv
  have hx := B.exec
  have hb := B.bytes
  have hr := B.returns
  have hts := atoms_spec (ws := wsX4_undo) B.pre
  have hown : s.vm.findClass RX4 = some m.cls := findClass_of_methodNamed B.named
  have hlocks := B.notSynchronized
  subst hsz
  have hD := hD0.self (sz := s.heap.size)
  generalize hAe : va_A (wXo d 3 ++ (wSt k (d 1) S ++ ([(d 3 0, .inl (k 2, 6, .inr (.inr (.inr (.inr (svA v))))))] ++ (wSt k (v 0) (Z 0) ++ (wSt k (v 1) (Z 1) ++ (wSt k (v 2) (Z 2) ++ (wSt k (v 3) (Z 3) ++ (wSt k (v 4) (Z 4) ++ (wSt k (v 5) (Z 5)))))))))) s.heap.size = A at hD ⊢
  have hA : ∀ q : Nat, s.heap.size ≤ q → A q := fun q h => by rw [← hAe]; exact Or.inr h
  have hS : va_S A s.heap s.heap [] := va_S.rf
  have hl := lv_entry ([.ref (d 0 0)]) (n := 1) (Nat.le_of_ble_eq_true rfl)
  rw [lg_entry_eq]
  generalize (lg_sl ([.ref (d 0 0)]) ++ List.replicate (1 - (lg_sl ([.ref (d 0 0)])).length) Slot.unset).toArray = ls at hl ⊢
  have hl : lv_has ls 1 [(0, .ref (d 0 0))] := hl
  obtain ⟨H, hHe⟩ : ∃ H, H = s.heap := ⟨_, rfl⟩
  have hP : va_P D vwCl (wXo d 3 ++ (wSt k (d 1) S ++ ([(d 3 0, .inl (k 2, 6, .inr (.inr (.inr (.inr (svA v))))))] ++ (wSt k (v 0) (Z 0) ++ (wSt k (v 1) (Z 1) ++ (wSt k (v 2) (Z 2) ++ (wSt k (v 3) (Z 3) ++ (wSt k (v 4) (Z 4) ++ (wSt k (v 5) (Z 5)))))))))) H := by rw [hHe]; exact hP
  have hS : va_S A s.heap H [] := by rw [hHe]; exact hS
  rw [← hHe]
  refine absQ (fun Q hQ => ?_)
  refine lv_aload_n hx hb dX4_undo_0 rfl (lv_at hl 0 rfl) ?_
  refine va_get (D := D) (ci := 4) (v := .int 3) (C := RX4) (T := TX4) (N := 9) hx hb hts (fun _ h9 => (List.mem_cons_of_mem _ (List.mem_append_left _ (List.mem_append_left _ (List.mem_append_right _ h9))))) hown hK hP 0 rfl rfl 3 (by decide) (hts _ (List.mem_of_getElem? (i := 3) rfl)) (fun _ h9 => h9) rfl dX4_undo_1 ?_
  refine lv_iconst (v := 1) hx hb dX4_undo_4 (by decide) ?_
  refine lv_icmp_lt (tgt := 17) hx hb dX4_undo_5 (by decide) (fun c_1 => ?_) (fun c_1 => ?_)
  · exact absurd c_1 (by decide)
  · refine lv_aload_n hx hb dX4_undo_8 rfl (lv_at hl 0 rfl) ?_
    refine va_get (D := D) (ci := 4) (v := .int 3) (C := RX4) (T := TX4) (N := 9) hx hb hts (fun _ h9 => (List.mem_cons_of_mem _ (List.mem_append_left _ (List.mem_append_left _ (List.mem_append_right _ h9))))) hown hK hP 0 rfl rfl 3 (by decide) (hts _ (List.mem_of_getElem? (i := 3) rfl)) (fun _ h9 => h9) rfl dX4_undo_9 ?_
    refine lv_bipush (v := 6) hx hb dX4_undo_12 (by decide) ?_
    refine lv_icmp_le (tgt := 27) hx hb dX4_undo_14 (by decide) (fun c_2 => ?_) (fun c_2 => ?_)
    · refine lv_aload_n hx hb dX4_undo_27 rfl (lv_at hl 0 rfl) ?_
      refine lv_dup hx hb dX4_undo_28 rfl ?_
      refine va_get (D := D) (ci := 4) (v := .int 3) (C := RX4) (T := TX4) (N := 9) hx hb hts (fun _ h9 => (List.mem_cons_of_mem _ (List.mem_append_left _ (List.mem_append_left _ (List.mem_append_right _ h9))))) hown hK hP 0 rfl rfl 3 (by decide) (hts _ (List.mem_of_getElem? (i := 3) rfl)) (fun _ h9 => h9) rfl dX4_undo_29 ?_
      refine lv_iconst (v := 1) hx hb dX4_undo_32 (by decide) ?_
      refine lv_isub hx hb dX4_undo_33 ?_
      refine tp_e (y := 2) (by decide) ?_
      refine va_put (D := D) (ci := 4) (v := .int 2) (ty := tyX4 3) (C := RX4) (T := TX4) (N := 9) hx hb hts (fun _ h9 => (List.mem_cons_of_mem _ (List.mem_append_left _ (List.mem_append_left _ (List.mem_append_right _ h9))))) tyX4 tyX4_ok nmX4 hown hK hP hD hS 0 rfl rfl 3 (by decide) (hts _ (List.mem_of_getElem? (i := 3) rfl)) (fun _ h9 => h9) rfl (tyX4_ok 3 (by decide)) rfl rfl (Nat.le_of_ble_eq_true rfl) dX4_undo_34 (fun H locs hP hD hS => ?_)
      have hP : va_P D vwCl ([(d 0 0, .inr (4, [.ref (d 1 0), .ref (d 2 0), .ref (d 3 0), .int 2, .ref (d 4 0), .ref (d 5 0), .ref (d 6 0), .ref (d 8 0), .ref (d 10 0)]))] ++ (wSt k (d 1) S ++ ([(d 3 0, .inl (k 2, 6, .inr (.inr (.inr (.inr (svA v))))))] ++ (wSt k (v 0) (Z 0) ++ (wSt k (v 1) (Z 1) ++ (wSt k (v 2) (Z 2) ++ (wSt k (v 3) (Z 3) ++ (wSt k (v 4) (Z 4) ++ (wSt k (v 5) (Z 5)))))))))) H := hP
      have hD : va_D A ([(d 0 0, .inr (4, [.ref (d 1 0), .ref (d 2 0), .ref (d 3 0), .int 2, .ref (d 4 0), .ref (d 5 0), .ref (d 6 0), .ref (d 8 0), .ref (d 10 0)]))] ++ (wSt k (d 1) S ++ ([(d 3 0, .inl (k 2, 6, .inr (.inr (.inr (.inr (svA v))))))] ++ (wSt k (v 0) (Z 0) ++ (wSt k (v 1) (Z 1) ++ (wSt k (v 2) (Z 2) ++ (wSt k (v 3) (Z 3) ++ (wSt k (v 4) (Z 4) ++ (wSt k (v 5) (Z 5)))))))))) := hD
      refine lv_aload_n hx hb dX4_undo_37 rfl (lv_at hl 0 rfl) ?_
      refine va_get (D := D) (ci := 4) (v := .ref (d 3 0)) (C := RX4) (T := TX4) (N := 9) hx hb hts (fun _ h9 => (List.mem_cons_of_mem _ (List.mem_append_left _ (List.mem_append_left _ (List.mem_append_right _ h9))))) hown hK hP 0 rfl rfl 2 (by decide) (hts _ (List.mem_of_getElem? (i := 4) rfl)) (fun _ h9 => h9) rfl dX4_undo_38 ?_
      refine lv_aload_n hx hb dX4_undo_41 rfl (lv_at hl 0 rfl) ?_
      refine va_get (D := D) (ci := 4) (v := .int 2) (C := RX4) (T := TX4) (N := 9) hx hb hts (fun _ h9 => (List.mem_cons_of_mem _ (List.mem_append_left _ (List.mem_append_left _ (List.mem_append_right _ h9))))) hown hK hP 0 rfl rfl 3 (by decide) (hts _ (List.mem_of_getElem? (i := 3) rfl)) (fun _ h9 => h9) rfl dX4_undo_42 ?_
      refine ar_qld hx hb hK hP 9 rfl 2 rfl (show vp_in (nI 2) 6 from vp_in_nI (by decide) (by decide)) (v 2 0) rfl dX4_undo_45 ?_
      refine lv_aload_n hx hb dX4_undo_46 rfl (lv_at hl 0 rfl) ?_
      refine va_get (D := D) (ci := 4) (v := .ref (d 1 0)) (C := RX4) (T := TX4) (N := 9) hx hb hts (fun _ h9 => (List.mem_cons_of_mem _ (List.mem_append_left _ (List.mem_append_left _ (List.mem_append_right _ h9))))) hown hK hP 0 rfl rfl 0 (by decide) (hts _ (List.mem_of_getElem? (i := 5) rfl)) (fun _ h9 => h9) rfl dX4_undo_47 ?_
      have hPc : va_P D vwCl (wSt k (d 1) S ++ wSt k (v 2) (Z 2)) H := hP.sub [1, 2, 3, 4, 5, 6, 7, 8, 26, 27, 28, 29, 30, 31, 32, 33] rfl
      have hDc : va_D A (wSt k (d 1) S ++ wSt k (v 2) (Z 2)) := hD.sub [1, 2, 3, 4, 5, 6, 7, 8, 26, 27, 28, 29, 30, 31, 32, 33] (by decide +kernel) rfl
      refine cl_v (va_runS (As := [.ref (v 2 0), .ref (d 1 0)]) (rest := []) ⟨hx, hb, hml, hown, hts⟩ (c_X4_copyState l D k (d 1) (v 2) S (Z 2) H.size) (va_cwS 2 hts gX4_undo_X4_copyState rfl rfl rfl (by decide +kernel) ⟨Nat.le_of_ble_eq_true rfl, Nat.le_of_ble_eq_true rfl⟩) ⟨pr_blind, pr_at hN hPc hK hDc⟩ rfl rfl hl.1 rfl (lv_room (Nat.le_of_ble_eq_true rfl)) dX4_undo_50 ⟨Nat.le_of_ble_eq_true rfl, Nat.le_of_ble_eq_true rfl⟩) hP hD hS hA [1, 2, 3, 4, 5, 6, 7, 8, 26, 27, 28, 29, 30, 31, 32, 33] [0, 9, 10, 11, 12, 13, 14, 15, 16, 17, 18, 19, 20, 21, 22, 23, 24, 25, 34, 35, 36, 37, 38, 39, 40, 41, 42, 43, 44, 45, 46, 47, 48, 49, 50, 51, 52, 53, 54, 55, 56, 57] (([(d 0 0, .inr (4, [.ref (d 1 0), .ref (d 2 0), .ref (d 3 0), .int 2, .ref (d 4 0), .ref (d 5 0), .ref (d 6 0), .ref (d 8 0), .ref (d 10 0)]))]) ++ ([(d 3 0, .inl (k 2, 6, .inr (.inr (.inr (.inr (svA v))))))]) ++ (wSt k (v 0) (Z 0)) ++ (wSt k (v 1) (Z 1)) ++ (wSt k (v 3) (Z 3)) ++ (wSt k (v 4) (Z 4)) ++ (wSt k (v 5) (Z 5))) [d 0 0, (d 1) 0, (d 1) 1, (d 1) 2, (d 1) 3, (d 1) 4, (d 1) 5, (d 1) 6, (d 1) 7, d 3 0, (v 0) 0, (v 0) 1, (v 0) 2, (v 0) 3, (v 0) 4, (v 0) 5, (v 0) 6, (v 0) 7, (v 1) 0, (v 1) 1, (v 1) 2, (v 1) 3, (v 1) 4, (v 1) 5, (v 1) 6, (v 1) 7, (v 2) 0, (v 2) 1, (v 2) 2, (v 2) 3, (v 2) 4, (v 2) 5, (v 2) 6, (v 2) 7, (v 3) 0, (v 3) 1, (v 3) 2, (v 3) 3, (v 3) 4, (v 3) 5, (v 3) 6, (v 3) 7, (v 4) 0, (v 4) 1, (v 4) 2, (v 4) 3, (v 4) 4, (v 4) 5, (v 4) 6, (v 4) 7, (v 5) 0, (v 5) 1, (v 5) 2, (v 5) 3, (v 5) 4, (v 5) 5, (v 5) 6, (v 5) 7] 58 rfl (wn := ([(d 0 0, .inr (4, [.ref (d 1 0), .ref (d 2 0), .ref (d 3 0), .int 2, .ref (d 4 0), .ref (d 5 0), .ref (d 6 0), .ref (d 8 0), .ref (d 10 0)]))] ++ (wSt k (d 1) (Z 2) ++ ([(d 3 0, .inl (k 2, 6, .inr (.inr (.inr (.inr (svA v))))))] ++ (wSt k (v 0) (Z 0) ++ (wSt k (v 1) (Z 1) ++ (wSt k (v 2) (Z 2) ++ (wSt k (v 3) (Z 3) ++ (wSt k (v 4) (Z 4) ++ (wSt k (v 5) (Z 5))))))))))) rfl rfl rfl rfl (by decide +kernel) rfl rfl (fun H locs hP hD hS => ?_)
      clear hPc hDc
      refine lv_aload_n hx hb dX4_undo_53 rfl (lv_at hl 0 rfl) ?_
      refine va_get (D := D) (ci := 4) (v := .int 2) (C := RX4) (T := TX4) (N := 9) hx hb hts (fun _ h9 => (List.mem_cons_of_mem _ (List.mem_append_left _ (List.mem_append_left _ (List.mem_append_right _ h9))))) hown hK hP 0 rfl rfl 3 (by decide) (hts _ (List.mem_of_getElem? (i := 3) rfl)) (fun _ h9 => h9) rfl dX4_undo_54 ?_
      subst hQ
      exact rt_i hx hb hr hlocks hS dX4_undo_57 (hP) (rfl)
    · exact absurd c_2 (by decide)

set_option maxHeartbeats 1000000 in
set_option maxRecDepth 100000 in
theorem c_X4_undo_4 (l : Launch) (D : va_G) (k : Nat → ClassId) (d v : Nat → Nat → Nat) (S : Nat → Nat → Int32) (Z : Nat → Nat → Nat → Int32)  : MI l yX4_undo wsX4_undo ({ frames := 2, cells := 0, slots := 0, locals := 43 }) D k [.ref (d 0 0)] (wXo d 4 ++ (wSt k (d 1) S ++ ([(d 3 0, .inl (k 2, 6, .inr (.inr (.inr (.inr (svA v))))))] ++ (wSt k (v 0) (Z 0) ++ (wSt k (v 1) (Z 1) ++ (wSt k (v 2) (Z 2) ++ (wSt k (v 3) (Z 3) ++ (wSt k (v 4) (Z 4) ++ (wSt k (v 5) (Z 5)))))))))) 3 (wXo d 3 ++ (wSt k (d 1) (Z 3) ++ wSv k (d 3 0) v Z)) := by
  intro sz
  refine Met.ofW (cc := cX4_undo) (maxL := 1) (ret := (some .int)) (by decide) rfl ?_
  intro p e s m args below meth c s₁ B hml hv
  obtain ⟨rfl, hN, hsz, hP, hK, hD0⟩ := hv
  have hx := B.exec
  have hb := B.bytes
  have hr := B.returns
  have hts := atoms_spec (ws := wsX4_undo) B.pre
  have hown : s.vm.findClass RX4 = some m.cls := findClass_of_methodNamed B.named
  have hlocks := B.notSynchronized
  subst hsz
  have hD := hD0.self (sz := s.heap.size)
  generalize hAe : va_A (wXo d 4 ++ (wSt k (d 1) S ++ ([(d 3 0, .inl (k 2, 6, .inr (.inr (.inr (.inr (svA v))))))] ++ (wSt k (v 0) (Z 0) ++ (wSt k (v 1) (Z 1) ++ (wSt k (v 2) (Z 2) ++ (wSt k (v 3) (Z 3) ++ (wSt k (v 4) (Z 4) ++ (wSt k (v 5) (Z 5)))))))))) s.heap.size = A at hD ⊢
  have hA : ∀ q : Nat, s.heap.size ≤ q → A q := fun q h => by rw [← hAe]; exact Or.inr h
  have hS : va_S A s.heap s.heap [] := va_S.rf
  have hl := lv_entry ([.ref (d 0 0)]) (n := 1) (Nat.le_of_ble_eq_true rfl)
  rw [lg_entry_eq]
  generalize (lg_sl ([.ref (d 0 0)]) ++ List.replicate (1 - (lg_sl ([.ref (d 0 0)])).length) Slot.unset).toArray = ls at hl ⊢
  have hl : lv_has ls 1 [(0, .ref (d 0 0))] := hl
  obtain ⟨H, hHe⟩ : ∃ H, H = s.heap := ⟨_, rfl⟩
  have hP : va_P D vwCl (wXo d 4 ++ (wSt k (d 1) S ++ ([(d 3 0, .inl (k 2, 6, .inr (.inr (.inr (.inr (svA v))))))] ++ (wSt k (v 0) (Z 0) ++ (wSt k (v 1) (Z 1) ++ (wSt k (v 2) (Z 2) ++ (wSt k (v 3) (Z 3) ++ (wSt k (v 4) (Z 4) ++ (wSt k (v 5) (Z 5)))))))))) H := by rw [hHe]; exact hP
  have hS : va_S A s.heap H [] := by rw [hHe]; exact hS
  rw [← hHe]
  refine absQ (fun Q hQ => ?_)
  refine lv_aload_n hx hb dX4_undo_0 rfl (lv_at hl 0 rfl) ?_
  refine va_get (D := D) (ci := 4) (v := .int 4) (C := RX4) (T := TX4) (N := 9) hx hb hts (fun _ h9 => (List.mem_cons_of_mem _ (List.mem_append_left _ (List.mem_append_left _ (List.mem_append_right _ h9))))) hown hK hP 0 rfl rfl 3 (by decide) (hts _ (List.mem_of_getElem? (i := 3) rfl)) (fun _ h9 => h9) rfl dX4_undo_1 ?_
  refine lv_iconst (v := 1) hx hb dX4_undo_4 (by decide) ?_
  refine lv_icmp_lt (tgt := 17) hx hb dX4_undo_5 (by decide) (fun c_1 => ?_) (fun c_1 => ?_)
  · exact absurd c_1 (by decide)
  · refine lv_aload_n hx hb dX4_undo_8 rfl (lv_at hl 0 rfl) ?_
    refine va_get (D := D) (ci := 4) (v := .int 4) (C := RX4) (T := TX4) (N := 9) hx hb hts (fun _ h9 => (List.mem_cons_of_mem _ (List.mem_append_left _ (List.mem_append_left _ (List.mem_append_right _ h9))))) hown hK hP 0 rfl rfl 3 (by decide) (hts _ (List.mem_of_getElem? (i := 3) rfl)) (fun _ h9 => h9) rfl dX4_undo_9 ?_
    refine lv_bipush (v := 6) hx hb dX4_undo_12 (by decide) ?_
    refine lv_icmp_le (tgt := 27) hx hb dX4_undo_14 (by decide) (fun c_2 => ?_) (fun c_2 => ?_)
    · refine lv_aload_n hx hb dX4_undo_27 rfl (lv_at hl 0 rfl) ?_
      refine lv_dup hx hb dX4_undo_28 rfl ?_
      refine va_get (D := D) (ci := 4) (v := .int 4) (C := RX4) (T := TX4) (N := 9) hx hb hts (fun _ h9 => (List.mem_cons_of_mem _ (List.mem_append_left _ (List.mem_append_left _ (List.mem_append_right _ h9))))) hown hK hP 0 rfl rfl 3 (by decide) (hts _ (List.mem_of_getElem? (i := 3) rfl)) (fun _ h9 => h9) rfl dX4_undo_29 ?_
      refine lv_iconst (v := 1) hx hb dX4_undo_32 (by decide) ?_
      refine lv_isub hx hb dX4_undo_33 ?_
      refine tp_e (y := 3) (by decide) ?_
      refine va_put (D := D) (ci := 4) (v := .int 3) (ty := tyX4 3) (C := RX4) (T := TX4) (N := 9) hx hb hts (fun _ h9 => (List.mem_cons_of_mem _ (List.mem_append_left _ (List.mem_append_left _ (List.mem_append_right _ h9))))) tyX4 tyX4_ok nmX4 hown hK hP hD hS 0 rfl rfl 3 (by decide) (hts _ (List.mem_of_getElem? (i := 3) rfl)) (fun _ h9 => h9) rfl (tyX4_ok 3 (by decide)) rfl rfl (Nat.le_of_ble_eq_true rfl) dX4_undo_34 (fun H locs hP hD hS => ?_)
      have hP : va_P D vwCl ([(d 0 0, .inr (4, [.ref (d 1 0), .ref (d 2 0), .ref (d 3 0), .int 3, .ref (d 4 0), .ref (d 5 0), .ref (d 6 0), .ref (d 8 0), .ref (d 10 0)]))] ++ (wSt k (d 1) S ++ ([(d 3 0, .inl (k 2, 6, .inr (.inr (.inr (.inr (svA v))))))] ++ (wSt k (v 0) (Z 0) ++ (wSt k (v 1) (Z 1) ++ (wSt k (v 2) (Z 2) ++ (wSt k (v 3) (Z 3) ++ (wSt k (v 4) (Z 4) ++ (wSt k (v 5) (Z 5)))))))))) H := hP
      have hD : va_D A ([(d 0 0, .inr (4, [.ref (d 1 0), .ref (d 2 0), .ref (d 3 0), .int 3, .ref (d 4 0), .ref (d 5 0), .ref (d 6 0), .ref (d 8 0), .ref (d 10 0)]))] ++ (wSt k (d 1) S ++ ([(d 3 0, .inl (k 2, 6, .inr (.inr (.inr (.inr (svA v))))))] ++ (wSt k (v 0) (Z 0) ++ (wSt k (v 1) (Z 1) ++ (wSt k (v 2) (Z 2) ++ (wSt k (v 3) (Z 3) ++ (wSt k (v 4) (Z 4) ++ (wSt k (v 5) (Z 5)))))))))) := hD
      refine lv_aload_n hx hb dX4_undo_37 rfl (lv_at hl 0 rfl) ?_
      refine va_get (D := D) (ci := 4) (v := .ref (d 3 0)) (C := RX4) (T := TX4) (N := 9) hx hb hts (fun _ h9 => (List.mem_cons_of_mem _ (List.mem_append_left _ (List.mem_append_left _ (List.mem_append_right _ h9))))) hown hK hP 0 rfl rfl 2 (by decide) (hts _ (List.mem_of_getElem? (i := 4) rfl)) (fun _ h9 => h9) rfl dX4_undo_38 ?_
      refine lv_aload_n hx hb dX4_undo_41 rfl (lv_at hl 0 rfl) ?_
      refine va_get (D := D) (ci := 4) (v := .int 3) (C := RX4) (T := TX4) (N := 9) hx hb hts (fun _ h9 => (List.mem_cons_of_mem _ (List.mem_append_left _ (List.mem_append_left _ (List.mem_append_right _ h9))))) hown hK hP 0 rfl rfl 3 (by decide) (hts _ (List.mem_of_getElem? (i := 3) rfl)) (fun _ h9 => h9) rfl dX4_undo_42 ?_
      refine ar_qld hx hb hK hP 9 rfl 3 rfl (show vp_in (nI 3) 6 from vp_in_nI (by decide) (by decide)) (v 3 0) rfl dX4_undo_45 ?_
      refine lv_aload_n hx hb dX4_undo_46 rfl (lv_at hl 0 rfl) ?_
      refine va_get (D := D) (ci := 4) (v := .ref (d 1 0)) (C := RX4) (T := TX4) (N := 9) hx hb hts (fun _ h9 => (List.mem_cons_of_mem _ (List.mem_append_left _ (List.mem_append_left _ (List.mem_append_right _ h9))))) hown hK hP 0 rfl rfl 0 (by decide) (hts _ (List.mem_of_getElem? (i := 5) rfl)) (fun _ h9 => h9) rfl dX4_undo_47 ?_
      have hPc : va_P D vwCl (wSt k (d 1) S ++ wSt k (v 3) (Z 3)) H := hP.sub [1, 2, 3, 4, 5, 6, 7, 8, 34, 35, 36, 37, 38, 39, 40, 41] rfl
      have hDc : va_D A (wSt k (d 1) S ++ wSt k (v 3) (Z 3)) := hD.sub [1, 2, 3, 4, 5, 6, 7, 8, 34, 35, 36, 37, 38, 39, 40, 41] (by decide +kernel) rfl
      refine cl_v (va_runS (As := [.ref (v 3 0), .ref (d 1 0)]) (rest := []) ⟨hx, hb, hml, hown, hts⟩ (c_X4_copyState l D k (d 1) (v 3) S (Z 3) H.size) (va_cwS 2 hts gX4_undo_X4_copyState rfl rfl rfl (by decide +kernel) ⟨Nat.le_of_ble_eq_true rfl, Nat.le_of_ble_eq_true rfl⟩) ⟨pr_blind, pr_at hN hPc hK hDc⟩ rfl rfl hl.1 rfl (lv_room (Nat.le_of_ble_eq_true rfl)) dX4_undo_50 ⟨Nat.le_of_ble_eq_true rfl, Nat.le_of_ble_eq_true rfl⟩) hP hD hS hA [1, 2, 3, 4, 5, 6, 7, 8, 34, 35, 36, 37, 38, 39, 40, 41] [0, 9, 10, 11, 12, 13, 14, 15, 16, 17, 18, 19, 20, 21, 22, 23, 24, 25, 26, 27, 28, 29, 30, 31, 32, 33, 42, 43, 44, 45, 46, 47, 48, 49, 50, 51, 52, 53, 54, 55, 56, 57] (([(d 0 0, .inr (4, [.ref (d 1 0), .ref (d 2 0), .ref (d 3 0), .int 3, .ref (d 4 0), .ref (d 5 0), .ref (d 6 0), .ref (d 8 0), .ref (d 10 0)]))]) ++ ([(d 3 0, .inl (k 2, 6, .inr (.inr (.inr (.inr (svA v))))))]) ++ (wSt k (v 0) (Z 0)) ++ (wSt k (v 1) (Z 1)) ++ (wSt k (v 2) (Z 2)) ++ (wSt k (v 4) (Z 4)) ++ (wSt k (v 5) (Z 5))) [d 0 0, (d 1) 0, (d 1) 1, (d 1) 2, (d 1) 3, (d 1) 4, (d 1) 5, (d 1) 6, (d 1) 7, d 3 0, (v 0) 0, (v 0) 1, (v 0) 2, (v 0) 3, (v 0) 4, (v 0) 5, (v 0) 6, (v 0) 7, (v 1) 0, (v 1) 1, (v 1) 2, (v 1) 3, (v 1) 4, (v 1) 5, (v 1) 6, (v 1) 7, (v 2) 0, (v 2) 1, (v 2) 2, (v 2) 3, (v 2) 4, (v 2) 5, (v 2) 6, (v 2) 7, (v 3) 0, (v 3) 1, (v 3) 2, (v 3) 3, (v 3) 4, (v 3) 5, (v 3) 6, (v 3) 7, (v 4) 0, (v 4) 1, (v 4) 2, (v 4) 3, (v 4) 4, (v 4) 5, (v 4) 6, (v 4) 7, (v 5) 0, (v 5) 1, (v 5) 2, (v 5) 3, (v 5) 4, (v 5) 5, (v 5) 6, (v 5) 7] 58 rfl (wn := ([(d 0 0, .inr (4, [.ref (d 1 0), .ref (d 2 0), .ref (d 3 0), .int 3, .ref (d 4 0), .ref (d 5 0), .ref (d 6 0), .ref (d 8 0), .ref (d 10 0)]))] ++ (wSt k (d 1) (Z 3) ++ ([(d 3 0, .inl (k 2, 6, .inr (.inr (.inr (.inr (svA v))))))] ++ (wSt k (v 0) (Z 0) ++ (wSt k (v 1) (Z 1) ++ (wSt k (v 2) (Z 2) ++ (wSt k (v 3) (Z 3) ++ (wSt k (v 4) (Z 4) ++ (wSt k (v 5) (Z 5))))))))))) rfl rfl rfl rfl (by decide +kernel) rfl rfl (fun H locs hP hD hS => ?_)
      clear hPc hDc
      refine lv_aload_n hx hb dX4_undo_53 rfl (lv_at hl 0 rfl) ?_
      refine va_get (D := D) (ci := 4) (v := .int 3) (C := RX4) (T := TX4) (N := 9) hx hb hts (fun _ h9 => (List.mem_cons_of_mem _ (List.mem_append_left _ (List.mem_append_left _ (List.mem_append_right _ h9))))) hown hK hP 0 rfl rfl 3 (by decide) (hts _ (List.mem_of_getElem? (i := 3) rfl)) (fun _ h9 => h9) rfl dX4_undo_54 ?_
      subst hQ
      exact rt_i hx hb hr hlocks hS dX4_undo_57 (hP) (rfl)
    · exact absurd c_2 (by decide)

set_option maxHeartbeats 1000000 in
set_option maxRecDepth 100000 in
theorem c_X4_undo_5 (l : Launch) (D : va_G) (k : Nat → ClassId) (d v : Nat → Nat → Nat) (S : Nat → Nat → Int32) (Z : Nat → Nat → Nat → Int32)  : MI l yX4_undo wsX4_undo ({ frames := 2, cells := 0, slots := 0, locals := 43 }) D k [.ref (d 0 0)] (wXo d 5 ++ (wSt k (d 1) S ++ ([(d 3 0, .inl (k 2, 6, .inr (.inr (.inr (.inr (svA v))))))] ++ (wSt k (v 0) (Z 0) ++ (wSt k (v 1) (Z 1) ++ (wSt k (v 2) (Z 2) ++ (wSt k (v 3) (Z 3) ++ (wSt k (v 4) (Z 4) ++ (wSt k (v 5) (Z 5)))))))))) 4 (wXo d 4 ++ (wSt k (d 1) (Z 4) ++ wSv k (d 3 0) v Z)) := by
  intro sz
  refine Met.ofW (cc := cX4_undo) (maxL := 1) (ret := (some .int)) (by decide) rfl ?_
  intro p e s m args below meth c s₁ B hml hv
  obtain ⟨rfl, hN, hsz, hP, hK, hD0⟩ := hv
  have hx := B.exec
  have hb := B.bytes
  have hr := B.returns
  have hts := atoms_spec (ws := wsX4_undo) B.pre
  have hown : s.vm.findClass RX4 = some m.cls := findClass_of_methodNamed B.named
  have hlocks := B.notSynchronized
  subst hsz
  have hD := hD0.self (sz := s.heap.size)
  generalize hAe : va_A (wXo d 5 ++ (wSt k (d 1) S ++ ([(d 3 0, .inl (k 2, 6, .inr (.inr (.inr (.inr (svA v))))))] ++ (wSt k (v 0) (Z 0) ++ (wSt k (v 1) (Z 1) ++ (wSt k (v 2) (Z 2) ++ (wSt k (v 3) (Z 3) ++ (wSt k (v 4) (Z 4) ++ (wSt k (v 5) (Z 5)))))))))) s.heap.size = A at hD ⊢
  have hA : ∀ q : Nat, s.heap.size ≤ q → A q := fun q h => by rw [← hAe]; exact Or.inr h
  have hS : va_S A s.heap s.heap [] := va_S.rf
  have hl := lv_entry ([.ref (d 0 0)]) (n := 1) (Nat.le_of_ble_eq_true rfl)
  rw [lg_entry_eq]
  generalize (lg_sl ([.ref (d 0 0)]) ++ List.replicate (1 - (lg_sl ([.ref (d 0 0)])).length) Slot.unset).toArray = ls at hl ⊢
  have hl : lv_has ls 1 [(0, .ref (d 0 0))] := hl
  obtain ⟨H, hHe⟩ : ∃ H, H = s.heap := ⟨_, rfl⟩
  have hP : va_P D vwCl (wXo d 5 ++ (wSt k (d 1) S ++ ([(d 3 0, .inl (k 2, 6, .inr (.inr (.inr (.inr (svA v))))))] ++ (wSt k (v 0) (Z 0) ++ (wSt k (v 1) (Z 1) ++ (wSt k (v 2) (Z 2) ++ (wSt k (v 3) (Z 3) ++ (wSt k (v 4) (Z 4) ++ (wSt k (v 5) (Z 5)))))))))) H := by rw [hHe]; exact hP
  have hS : va_S A s.heap H [] := by rw [hHe]; exact hS
  rw [← hHe]
  refine absQ (fun Q hQ => ?_)
  refine lv_aload_n hx hb dX4_undo_0 rfl (lv_at hl 0 rfl) ?_
  refine va_get (D := D) (ci := 4) (v := .int 5) (C := RX4) (T := TX4) (N := 9) hx hb hts (fun _ h9 => (List.mem_cons_of_mem _ (List.mem_append_left _ (List.mem_append_left _ (List.mem_append_right _ h9))))) hown hK hP 0 rfl rfl 3 (by decide) (hts _ (List.mem_of_getElem? (i := 3) rfl)) (fun _ h9 => h9) rfl dX4_undo_1 ?_
  refine lv_iconst (v := 1) hx hb dX4_undo_4 (by decide) ?_
  refine lv_icmp_lt (tgt := 17) hx hb dX4_undo_5 (by decide) (fun c_1 => ?_) (fun c_1 => ?_)
  · exact absurd c_1 (by decide)
  · refine lv_aload_n hx hb dX4_undo_8 rfl (lv_at hl 0 rfl) ?_
    refine va_get (D := D) (ci := 4) (v := .int 5) (C := RX4) (T := TX4) (N := 9) hx hb hts (fun _ h9 => (List.mem_cons_of_mem _ (List.mem_append_left _ (List.mem_append_left _ (List.mem_append_right _ h9))))) hown hK hP 0 rfl rfl 3 (by decide) (hts _ (List.mem_of_getElem? (i := 3) rfl)) (fun _ h9 => h9) rfl dX4_undo_9 ?_
    refine lv_bipush (v := 6) hx hb dX4_undo_12 (by decide) ?_
    refine lv_icmp_le (tgt := 27) hx hb dX4_undo_14 (by decide) (fun c_2 => ?_) (fun c_2 => ?_)
    · refine lv_aload_n hx hb dX4_undo_27 rfl (lv_at hl 0 rfl) ?_
      refine lv_dup hx hb dX4_undo_28 rfl ?_
      refine va_get (D := D) (ci := 4) (v := .int 5) (C := RX4) (T := TX4) (N := 9) hx hb hts (fun _ h9 => (List.mem_cons_of_mem _ (List.mem_append_left _ (List.mem_append_left _ (List.mem_append_right _ h9))))) hown hK hP 0 rfl rfl 3 (by decide) (hts _ (List.mem_of_getElem? (i := 3) rfl)) (fun _ h9 => h9) rfl dX4_undo_29 ?_
      refine lv_iconst (v := 1) hx hb dX4_undo_32 (by decide) ?_
      refine lv_isub hx hb dX4_undo_33 ?_
      refine tp_e (y := 4) (by decide) ?_
      refine va_put (D := D) (ci := 4) (v := .int 4) (ty := tyX4 3) (C := RX4) (T := TX4) (N := 9) hx hb hts (fun _ h9 => (List.mem_cons_of_mem _ (List.mem_append_left _ (List.mem_append_left _ (List.mem_append_right _ h9))))) tyX4 tyX4_ok nmX4 hown hK hP hD hS 0 rfl rfl 3 (by decide) (hts _ (List.mem_of_getElem? (i := 3) rfl)) (fun _ h9 => h9) rfl (tyX4_ok 3 (by decide)) rfl rfl (Nat.le_of_ble_eq_true rfl) dX4_undo_34 (fun H locs hP hD hS => ?_)
      have hP : va_P D vwCl ([(d 0 0, .inr (4, [.ref (d 1 0), .ref (d 2 0), .ref (d 3 0), .int 4, .ref (d 4 0), .ref (d 5 0), .ref (d 6 0), .ref (d 8 0), .ref (d 10 0)]))] ++ (wSt k (d 1) S ++ ([(d 3 0, .inl (k 2, 6, .inr (.inr (.inr (.inr (svA v))))))] ++ (wSt k (v 0) (Z 0) ++ (wSt k (v 1) (Z 1) ++ (wSt k (v 2) (Z 2) ++ (wSt k (v 3) (Z 3) ++ (wSt k (v 4) (Z 4) ++ (wSt k (v 5) (Z 5)))))))))) H := hP
      have hD : va_D A ([(d 0 0, .inr (4, [.ref (d 1 0), .ref (d 2 0), .ref (d 3 0), .int 4, .ref (d 4 0), .ref (d 5 0), .ref (d 6 0), .ref (d 8 0), .ref (d 10 0)]))] ++ (wSt k (d 1) S ++ ([(d 3 0, .inl (k 2, 6, .inr (.inr (.inr (.inr (svA v))))))] ++ (wSt k (v 0) (Z 0) ++ (wSt k (v 1) (Z 1) ++ (wSt k (v 2) (Z 2) ++ (wSt k (v 3) (Z 3) ++ (wSt k (v 4) (Z 4) ++ (wSt k (v 5) (Z 5)))))))))) := hD
      refine lv_aload_n hx hb dX4_undo_37 rfl (lv_at hl 0 rfl) ?_
      refine va_get (D := D) (ci := 4) (v := .ref (d 3 0)) (C := RX4) (T := TX4) (N := 9) hx hb hts (fun _ h9 => (List.mem_cons_of_mem _ (List.mem_append_left _ (List.mem_append_left _ (List.mem_append_right _ h9))))) hown hK hP 0 rfl rfl 2 (by decide) (hts _ (List.mem_of_getElem? (i := 4) rfl)) (fun _ h9 => h9) rfl dX4_undo_38 ?_
      refine lv_aload_n hx hb dX4_undo_41 rfl (lv_at hl 0 rfl) ?_
      refine va_get (D := D) (ci := 4) (v := .int 4) (C := RX4) (T := TX4) (N := 9) hx hb hts (fun _ h9 => (List.mem_cons_of_mem _ (List.mem_append_left _ (List.mem_append_left _ (List.mem_append_right _ h9))))) hown hK hP 0 rfl rfl 3 (by decide) (hts _ (List.mem_of_getElem? (i := 3) rfl)) (fun _ h9 => h9) rfl dX4_undo_42 ?_
      refine ar_qld hx hb hK hP 9 rfl 4 rfl (show vp_in (nI 4) 6 from vp_in_nI (by decide) (by decide)) (v 4 0) rfl dX4_undo_45 ?_
      refine lv_aload_n hx hb dX4_undo_46 rfl (lv_at hl 0 rfl) ?_
      refine va_get (D := D) (ci := 4) (v := .ref (d 1 0)) (C := RX4) (T := TX4) (N := 9) hx hb hts (fun _ h9 => (List.mem_cons_of_mem _ (List.mem_append_left _ (List.mem_append_left _ (List.mem_append_right _ h9))))) hown hK hP 0 rfl rfl 0 (by decide) (hts _ (List.mem_of_getElem? (i := 5) rfl)) (fun _ h9 => h9) rfl dX4_undo_47 ?_
      have hPc : va_P D vwCl (wSt k (d 1) S ++ wSt k (v 4) (Z 4)) H := hP.sub [1, 2, 3, 4, 5, 6, 7, 8, 42, 43, 44, 45, 46, 47, 48, 49] rfl
      have hDc : va_D A (wSt k (d 1) S ++ wSt k (v 4) (Z 4)) := hD.sub [1, 2, 3, 4, 5, 6, 7, 8, 42, 43, 44, 45, 46, 47, 48, 49] (by decide +kernel) rfl
      refine cl_v (va_runS (As := [.ref (v 4 0), .ref (d 1 0)]) (rest := []) ⟨hx, hb, hml, hown, hts⟩ (c_X4_copyState l D k (d 1) (v 4) S (Z 4) H.size) (va_cwS 2 hts gX4_undo_X4_copyState rfl rfl rfl (by decide +kernel) ⟨Nat.le_of_ble_eq_true rfl, Nat.le_of_ble_eq_true rfl⟩) ⟨pr_blind, pr_at hN hPc hK hDc⟩ rfl rfl hl.1 rfl (lv_room (Nat.le_of_ble_eq_true rfl)) dX4_undo_50 ⟨Nat.le_of_ble_eq_true rfl, Nat.le_of_ble_eq_true rfl⟩) hP hD hS hA [1, 2, 3, 4, 5, 6, 7, 8, 42, 43, 44, 45, 46, 47, 48, 49] [0, 9, 10, 11, 12, 13, 14, 15, 16, 17, 18, 19, 20, 21, 22, 23, 24, 25, 26, 27, 28, 29, 30, 31, 32, 33, 34, 35, 36, 37, 38, 39, 40, 41, 50, 51, 52, 53, 54, 55, 56, 57] (([(d 0 0, .inr (4, [.ref (d 1 0), .ref (d 2 0), .ref (d 3 0), .int 4, .ref (d 4 0), .ref (d 5 0), .ref (d 6 0), .ref (d 8 0), .ref (d 10 0)]))]) ++ ([(d 3 0, .inl (k 2, 6, .inr (.inr (.inr (.inr (svA v))))))]) ++ (wSt k (v 0) (Z 0)) ++ (wSt k (v 1) (Z 1)) ++ (wSt k (v 2) (Z 2)) ++ (wSt k (v 3) (Z 3)) ++ (wSt k (v 5) (Z 5))) [d 0 0, (d 1) 0, (d 1) 1, (d 1) 2, (d 1) 3, (d 1) 4, (d 1) 5, (d 1) 6, (d 1) 7, d 3 0, (v 0) 0, (v 0) 1, (v 0) 2, (v 0) 3, (v 0) 4, (v 0) 5, (v 0) 6, (v 0) 7, (v 1) 0, (v 1) 1, (v 1) 2, (v 1) 3, (v 1) 4, (v 1) 5, (v 1) 6, (v 1) 7, (v 2) 0, (v 2) 1, (v 2) 2, (v 2) 3, (v 2) 4, (v 2) 5, (v 2) 6, (v 2) 7, (v 3) 0, (v 3) 1, (v 3) 2, (v 3) 3, (v 3) 4, (v 3) 5, (v 3) 6, (v 3) 7, (v 4) 0, (v 4) 1, (v 4) 2, (v 4) 3, (v 4) 4, (v 4) 5, (v 4) 6, (v 4) 7, (v 5) 0, (v 5) 1, (v 5) 2, (v 5) 3, (v 5) 4, (v 5) 5, (v 5) 6, (v 5) 7] 58 rfl (wn := ([(d 0 0, .inr (4, [.ref (d 1 0), .ref (d 2 0), .ref (d 3 0), .int 4, .ref (d 4 0), .ref (d 5 0), .ref (d 6 0), .ref (d 8 0), .ref (d 10 0)]))] ++ (wSt k (d 1) (Z 4) ++ ([(d 3 0, .inl (k 2, 6, .inr (.inr (.inr (.inr (svA v))))))] ++ (wSt k (v 0) (Z 0) ++ (wSt k (v 1) (Z 1) ++ (wSt k (v 2) (Z 2) ++ (wSt k (v 3) (Z 3) ++ (wSt k (v 4) (Z 4) ++ (wSt k (v 5) (Z 5))))))))))) rfl rfl rfl rfl (by decide +kernel) rfl rfl (fun H locs hP hD hS => ?_)
      clear hPc hDc
      refine lv_aload_n hx hb dX4_undo_53 rfl (lv_at hl 0 rfl) ?_
      refine va_get (D := D) (ci := 4) (v := .int 4) (C := RX4) (T := TX4) (N := 9) hx hb hts (fun _ h9 => (List.mem_cons_of_mem _ (List.mem_append_left _ (List.mem_append_left _ (List.mem_append_right _ h9))))) hown hK hP 0 rfl rfl 3 (by decide) (hts _ (List.mem_of_getElem? (i := 3) rfl)) (fun _ h9 => h9) rfl dX4_undo_54 ?_
      subst hQ
      exact rt_i hx hb hr hlocks hS dX4_undo_57 (hP) (rfl)
    · exact absurd c_2 (by decide)

set_option maxHeartbeats 1000000 in
set_option maxRecDepth 100000 in
theorem c_X4_undo_6 (l : Launch) (D : va_G) (k : Nat → ClassId) (d v : Nat → Nat → Nat) (S : Nat → Nat → Int32) (Z : Nat → Nat → Nat → Int32)  : MI l yX4_undo wsX4_undo ({ frames := 2, cells := 0, slots := 0, locals := 43 }) D k [.ref (d 0 0)] (wXo d 6 ++ (wSt k (d 1) S ++ ([(d 3 0, .inl (k 2, 6, .inr (.inr (.inr (.inr (svA v))))))] ++ (wSt k (v 0) (Z 0) ++ (wSt k (v 1) (Z 1) ++ (wSt k (v 2) (Z 2) ++ (wSt k (v 3) (Z 3) ++ (wSt k (v 4) (Z 4) ++ (wSt k (v 5) (Z 5)))))))))) 5 (wXo d 5 ++ (wSt k (d 1) (Z 5) ++ wSv k (d 3 0) v Z)) := by
  intro sz
  refine Met.ofW (cc := cX4_undo) (maxL := 1) (ret := (some .int)) (by decide) rfl ?_
  intro p e s m args below meth c s₁ B hml hv
  obtain ⟨rfl, hN, hsz, hP, hK, hD0⟩ := hv
  have hx := B.exec
  have hb := B.bytes
  have hr := B.returns
  have hts := atoms_spec (ws := wsX4_undo) B.pre
  have hown : s.vm.findClass RX4 = some m.cls := findClass_of_methodNamed B.named
  have hlocks := B.notSynchronized
  subst hsz
  have hD := hD0.self (sz := s.heap.size)
  generalize hAe : va_A (wXo d 6 ++ (wSt k (d 1) S ++ ([(d 3 0, .inl (k 2, 6, .inr (.inr (.inr (.inr (svA v))))))] ++ (wSt k (v 0) (Z 0) ++ (wSt k (v 1) (Z 1) ++ (wSt k (v 2) (Z 2) ++ (wSt k (v 3) (Z 3) ++ (wSt k (v 4) (Z 4) ++ (wSt k (v 5) (Z 5)))))))))) s.heap.size = A at hD ⊢
  have hA : ∀ q : Nat, s.heap.size ≤ q → A q := fun q h => by rw [← hAe]; exact Or.inr h
  have hS : va_S A s.heap s.heap [] := va_S.rf
  have hl := lv_entry ([.ref (d 0 0)]) (n := 1) (Nat.le_of_ble_eq_true rfl)
  rw [lg_entry_eq]
  generalize (lg_sl ([.ref (d 0 0)]) ++ List.replicate (1 - (lg_sl ([.ref (d 0 0)])).length) Slot.unset).toArray = ls at hl ⊢
  have hl : lv_has ls 1 [(0, .ref (d 0 0))] := hl
  obtain ⟨H, hHe⟩ : ∃ H, H = s.heap := ⟨_, rfl⟩
  have hP : va_P D vwCl (wXo d 6 ++ (wSt k (d 1) S ++ ([(d 3 0, .inl (k 2, 6, .inr (.inr (.inr (.inr (svA v))))))] ++ (wSt k (v 0) (Z 0) ++ (wSt k (v 1) (Z 1) ++ (wSt k (v 2) (Z 2) ++ (wSt k (v 3) (Z 3) ++ (wSt k (v 4) (Z 4) ++ (wSt k (v 5) (Z 5)))))))))) H := by rw [hHe]; exact hP
  have hS : va_S A s.heap H [] := by rw [hHe]; exact hS
  rw [← hHe]
  refine absQ (fun Q hQ => ?_)
  refine lv_aload_n hx hb dX4_undo_0 rfl (lv_at hl 0 rfl) ?_
  refine va_get (D := D) (ci := 4) (v := .int 6) (C := RX4) (T := TX4) (N := 9) hx hb hts (fun _ h9 => (List.mem_cons_of_mem _ (List.mem_append_left _ (List.mem_append_left _ (List.mem_append_right _ h9))))) hown hK hP 0 rfl rfl 3 (by decide) (hts _ (List.mem_of_getElem? (i := 3) rfl)) (fun _ h9 => h9) rfl dX4_undo_1 ?_
  refine lv_iconst (v := 1) hx hb dX4_undo_4 (by decide) ?_
  refine lv_icmp_lt (tgt := 17) hx hb dX4_undo_5 (by decide) (fun c_1 => ?_) (fun c_1 => ?_)
  · exact absurd c_1 (by decide)
  · refine lv_aload_n hx hb dX4_undo_8 rfl (lv_at hl 0 rfl) ?_
    refine va_get (D := D) (ci := 4) (v := .int 6) (C := RX4) (T := TX4) (N := 9) hx hb hts (fun _ h9 => (List.mem_cons_of_mem _ (List.mem_append_left _ (List.mem_append_left _ (List.mem_append_right _ h9))))) hown hK hP 0 rfl rfl 3 (by decide) (hts _ (List.mem_of_getElem? (i := 3) rfl)) (fun _ h9 => h9) rfl dX4_undo_9 ?_
    refine lv_bipush (v := 6) hx hb dX4_undo_12 (by decide) ?_
    refine lv_icmp_le (tgt := 27) hx hb dX4_undo_14 (by decide) (fun c_2 => ?_) (fun c_2 => ?_)
    · refine lv_aload_n hx hb dX4_undo_27 rfl (lv_at hl 0 rfl) ?_
      refine lv_dup hx hb dX4_undo_28 rfl ?_
      refine va_get (D := D) (ci := 4) (v := .int 6) (C := RX4) (T := TX4) (N := 9) hx hb hts (fun _ h9 => (List.mem_cons_of_mem _ (List.mem_append_left _ (List.mem_append_left _ (List.mem_append_right _ h9))))) hown hK hP 0 rfl rfl 3 (by decide) (hts _ (List.mem_of_getElem? (i := 3) rfl)) (fun _ h9 => h9) rfl dX4_undo_29 ?_
      refine lv_iconst (v := 1) hx hb dX4_undo_32 (by decide) ?_
      refine lv_isub hx hb dX4_undo_33 ?_
      refine tp_e (y := 5) (by decide) ?_
      refine va_put (D := D) (ci := 4) (v := .int 5) (ty := tyX4 3) (C := RX4) (T := TX4) (N := 9) hx hb hts (fun _ h9 => (List.mem_cons_of_mem _ (List.mem_append_left _ (List.mem_append_left _ (List.mem_append_right _ h9))))) tyX4 tyX4_ok nmX4 hown hK hP hD hS 0 rfl rfl 3 (by decide) (hts _ (List.mem_of_getElem? (i := 3) rfl)) (fun _ h9 => h9) rfl (tyX4_ok 3 (by decide)) rfl rfl (Nat.le_of_ble_eq_true rfl) dX4_undo_34 (fun H locs hP hD hS => ?_)
      have hP : va_P D vwCl ([(d 0 0, .inr (4, [.ref (d 1 0), .ref (d 2 0), .ref (d 3 0), .int 5, .ref (d 4 0), .ref (d 5 0), .ref (d 6 0), .ref (d 8 0), .ref (d 10 0)]))] ++ (wSt k (d 1) S ++ ([(d 3 0, .inl (k 2, 6, .inr (.inr (.inr (.inr (svA v))))))] ++ (wSt k (v 0) (Z 0) ++ (wSt k (v 1) (Z 1) ++ (wSt k (v 2) (Z 2) ++ (wSt k (v 3) (Z 3) ++ (wSt k (v 4) (Z 4) ++ (wSt k (v 5) (Z 5)))))))))) H := hP
      have hD : va_D A ([(d 0 0, .inr (4, [.ref (d 1 0), .ref (d 2 0), .ref (d 3 0), .int 5, .ref (d 4 0), .ref (d 5 0), .ref (d 6 0), .ref (d 8 0), .ref (d 10 0)]))] ++ (wSt k (d 1) S ++ ([(d 3 0, .inl (k 2, 6, .inr (.inr (.inr (.inr (svA v))))))] ++ (wSt k (v 0) (Z 0) ++ (wSt k (v 1) (Z 1) ++ (wSt k (v 2) (Z 2) ++ (wSt k (v 3) (Z 3) ++ (wSt k (v 4) (Z 4) ++ (wSt k (v 5) (Z 5)))))))))) := hD
      refine lv_aload_n hx hb dX4_undo_37 rfl (lv_at hl 0 rfl) ?_
      refine va_get (D := D) (ci := 4) (v := .ref (d 3 0)) (C := RX4) (T := TX4) (N := 9) hx hb hts (fun _ h9 => (List.mem_cons_of_mem _ (List.mem_append_left _ (List.mem_append_left _ (List.mem_append_right _ h9))))) hown hK hP 0 rfl rfl 2 (by decide) (hts _ (List.mem_of_getElem? (i := 4) rfl)) (fun _ h9 => h9) rfl dX4_undo_38 ?_
      refine lv_aload_n hx hb dX4_undo_41 rfl (lv_at hl 0 rfl) ?_
      refine va_get (D := D) (ci := 4) (v := .int 5) (C := RX4) (T := TX4) (N := 9) hx hb hts (fun _ h9 => (List.mem_cons_of_mem _ (List.mem_append_left _ (List.mem_append_left _ (List.mem_append_right _ h9))))) hown hK hP 0 rfl rfl 3 (by decide) (hts _ (List.mem_of_getElem? (i := 3) rfl)) (fun _ h9 => h9) rfl dX4_undo_42 ?_
      refine ar_qld hx hb hK hP 9 rfl 5 rfl (show vp_in (nI 5) 6 from vp_in_nI (by decide) (by decide)) (v 5 0) rfl dX4_undo_45 ?_
      refine lv_aload_n hx hb dX4_undo_46 rfl (lv_at hl 0 rfl) ?_
      refine va_get (D := D) (ci := 4) (v := .ref (d 1 0)) (C := RX4) (T := TX4) (N := 9) hx hb hts (fun _ h9 => (List.mem_cons_of_mem _ (List.mem_append_left _ (List.mem_append_left _ (List.mem_append_right _ h9))))) hown hK hP 0 rfl rfl 0 (by decide) (hts _ (List.mem_of_getElem? (i := 5) rfl)) (fun _ h9 => h9) rfl dX4_undo_47 ?_
      have hPc : va_P D vwCl (wSt k (d 1) S ++ wSt k (v 5) (Z 5)) H := hP.sub [1, 2, 3, 4, 5, 6, 7, 8, 50, 51, 52, 53, 54, 55, 56, 57] rfl
      have hDc : va_D A (wSt k (d 1) S ++ wSt k (v 5) (Z 5)) := hD.sub [1, 2, 3, 4, 5, 6, 7, 8, 50, 51, 52, 53, 54, 55, 56, 57] (by decide +kernel) rfl
      refine cl_v (va_runS (As := [.ref (v 5 0), .ref (d 1 0)]) (rest := []) ⟨hx, hb, hml, hown, hts⟩ (c_X4_copyState l D k (d 1) (v 5) S (Z 5) H.size) (va_cwS 2 hts gX4_undo_X4_copyState rfl rfl rfl (by decide +kernel) ⟨Nat.le_of_ble_eq_true rfl, Nat.le_of_ble_eq_true rfl⟩) ⟨pr_blind, pr_at hN hPc hK hDc⟩ rfl rfl hl.1 rfl (lv_room (Nat.le_of_ble_eq_true rfl)) dX4_undo_50 ⟨Nat.le_of_ble_eq_true rfl, Nat.le_of_ble_eq_true rfl⟩) hP hD hS hA [1, 2, 3, 4, 5, 6, 7, 8, 50, 51, 52, 53, 54, 55, 56, 57] [0, 9, 10, 11, 12, 13, 14, 15, 16, 17, 18, 19, 20, 21, 22, 23, 24, 25, 26, 27, 28, 29, 30, 31, 32, 33, 34, 35, 36, 37, 38, 39, 40, 41, 42, 43, 44, 45, 46, 47, 48, 49] (([(d 0 0, .inr (4, [.ref (d 1 0), .ref (d 2 0), .ref (d 3 0), .int 5, .ref (d 4 0), .ref (d 5 0), .ref (d 6 0), .ref (d 8 0), .ref (d 10 0)]))]) ++ ([(d 3 0, .inl (k 2, 6, .inr (.inr (.inr (.inr (svA v))))))]) ++ (wSt k (v 0) (Z 0)) ++ (wSt k (v 1) (Z 1)) ++ (wSt k (v 2) (Z 2)) ++ (wSt k (v 3) (Z 3)) ++ (wSt k (v 4) (Z 4))) [d 0 0, (d 1) 0, (d 1) 1, (d 1) 2, (d 1) 3, (d 1) 4, (d 1) 5, (d 1) 6, (d 1) 7, d 3 0, (v 0) 0, (v 0) 1, (v 0) 2, (v 0) 3, (v 0) 4, (v 0) 5, (v 0) 6, (v 0) 7, (v 1) 0, (v 1) 1, (v 1) 2, (v 1) 3, (v 1) 4, (v 1) 5, (v 1) 6, (v 1) 7, (v 2) 0, (v 2) 1, (v 2) 2, (v 2) 3, (v 2) 4, (v 2) 5, (v 2) 6, (v 2) 7, (v 3) 0, (v 3) 1, (v 3) 2, (v 3) 3, (v 3) 4, (v 3) 5, (v 3) 6, (v 3) 7, (v 4) 0, (v 4) 1, (v 4) 2, (v 4) 3, (v 4) 4, (v 4) 5, (v 4) 6, (v 4) 7, (v 5) 0, (v 5) 1, (v 5) 2, (v 5) 3, (v 5) 4, (v 5) 5, (v 5) 6, (v 5) 7] 58 rfl (wn := ([(d 0 0, .inr (4, [.ref (d 1 0), .ref (d 2 0), .ref (d 3 0), .int 5, .ref (d 4 0), .ref (d 5 0), .ref (d 6 0), .ref (d 8 0), .ref (d 10 0)]))] ++ (wSt k (d 1) (Z 5) ++ ([(d 3 0, .inl (k 2, 6, .inr (.inr (.inr (.inr (svA v))))))] ++ (wSt k (v 0) (Z 0) ++ (wSt k (v 1) (Z 1) ++ (wSt k (v 2) (Z 2) ++ (wSt k (v 3) (Z 3) ++ (wSt k (v 4) (Z 4) ++ (wSt k (v 5) (Z 5))))))))))) rfl rfl rfl rfl (by decide +kernel) rfl rfl (fun H locs hP hD hS => ?_)
      clear hPc hDc
      refine lv_aload_n hx hb dX4_undo_53 rfl (lv_at hl 0 rfl) ?_
      refine va_get (D := D) (ci := 4) (v := .int 5) (C := RX4) (T := TX4) (N := 9) hx hb hts (fun _ h9 => (List.mem_cons_of_mem _ (List.mem_append_left _ (List.mem_append_left _ (List.mem_append_right _ h9))))) hown hK hP 0 rfl rfl 3 (by decide) (hts _ (List.mem_of_getElem? (i := 3) rfl)) (fun _ h9 => h9) rfl dX4_undo_54 ?_
      subst hQ
      exact rt_i hx hb hr hlocks hS dX4_undo_57 (hP) (rfl)
    · exact absurd c_2 (by decide)

theorem c_X4_undo (l : Launch) (D : va_G) (k : Nat → ClassId) (d v : Nat → Nat → Nat) (S : Nat → Nat → Int32) (Z : Nat → Nat → Nat → Int32) (n : Nat) (hn : n < 6) : MI l yX4_undo wsX4_undo ({ frames := 2, cells := 0, slots := 0, locals := 43 }) D k [.ref (d 0 0)] (wXo d (nI (n + 1)) ++ (wSt k (d 1) S ++ wSv k (d 3 0) v Z)) (nI n) (wXo d (nI n) ++ (wSt k (d 1) (Z n) ++ wSv k (d 3 0) v Z)) := by
  match n, hn with
  | 0, _ => exact c_X4_undo_1 l D k d v S Z
  | 1, _ => exact c_X4_undo_2 l D k d v S Z
  | 2, _ => exact c_X4_undo_3 l D k d v S Z
  | 3, _ => exact c_X4_undo_4 l D k d v S Z
  | 4, _ => exact c_X4_undo_5 l D k d v S Z
  | 5, _ => exact c_X4_undo_6 l D k d v S Z
