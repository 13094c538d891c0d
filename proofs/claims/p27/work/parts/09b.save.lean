set_option maxHeartbeats 1000000 in
set_option maxRecDepth 100000 in
theorem c_X4_saveState_0 (l : Launch) (D : va_G) (k : Nat → ClassId) (d v : Nat → Nat → Nat) (S : Nat → Nat → Int32) (Z : Nat → Nat → Nat → Int32)  : MVD l yX4_saveState wsX4_saveState ({ frames := 3, cells := 0, slots := 0, locals := 70 }) D k [.ref (d 0 0)] (wXo d 0 ++ (wSt k (d 1) S ++ ([(d 3 0, .inl (k 2, 6, .inr (.inr (.inr (.inr (svA v))))))] ++ (wSt k (v 0) (Z 0) ++ (wSt k (v 1) (Z 1) ++ (wSt k (v 2) (Z 2) ++ (wSt k (v 3) (Z 3) ++ (wSt k (v 4) (Z 4) ++ (wSt k (v 5) (Z 5)))))))))) (wXo d (nI (svN 0)) ++ (wSt k (d 1) S ++ wSv k (d 3 0) (svE v 0) (svZ Z 0 S))) := by
  intro sz
  refine Met.ofW (cc := cX4_saveState) (maxL := 1) (ret := none) (by decide) rfl ?_
  intro p e s m args below meth c s₁ B hml hv
  obtain ⟨rfl, hN, hsz, hP, hK, hD0⟩ := hv
  have hx := B.exec
  have hb := B.bytes
  have hr := B.returns
  have hts := atoms_spec (ws := wsX4_saveState) B.pre
  have hown : s.vm.findClass RX4 = some m.cls := findClass_of_methodNamed B.named
  have hlocks := B.notSynchronized
  subst hsz
  have hD := hD0.self (sz := s.heap.size)
  generalize hAe : va_A (wXo d 0 ++ (wSt k (d 1) S ++ ([(d 3 0, .inl (k 2, 6, .inr (.inr (.inr (.inr (svA v))))))] ++ (wSt k (v 0) (Z 0) ++ (wSt k (v 1) (Z 1) ++ (wSt k (v 2) (Z 2) ++ (wSt k (v 3) (Z 3) ++ (wSt k (v 4) (Z 4) ++ (wSt k (v 5) (Z 5)))))))))) s.heap.size = A at hD ⊢
  have hA : ∀ q : Nat, s.heap.size ≤ q → A q := fun q h => by rw [← hAe]; exact Or.inr h
  have hS : va_S A s.heap s.heap [] := va_S.rf
  have hl := lv_entry ([.ref (d 0 0)]) (n := 1) (Nat.le_of_ble_eq_true rfl)
  rw [lg_entry_eq]
  generalize (lg_sl ([.ref (d 0 0)]) ++ List.replicate (1 - (lg_sl ([.ref (d 0 0)])).length) Slot.unset).toArray = ls at hl ⊢
  have hl : lv_has ls 1 [(0, .ref (d 0 0))] := hl
  obtain ⟨H, hHe⟩ : ∃ H, H = s.heap := ⟨_, rfl⟩
  have hP : va_P D vwCl (wXo d 0 ++ (wSt k (d 1) S ++ ([(d 3 0, .inl (k 2, 6, .inr (.inr (.inr (.inr (svA v))))))] ++ (wSt k (v 0) (Z 0) ++ (wSt k (v 1) (Z 1) ++ (wSt k (v 2) (Z 2) ++ (wSt k (v 3) (Z 3) ++ (wSt k (v 4) (Z 4) ++ (wSt k (v 5) (Z 5)))))))))) H := by rw [hHe]; exact hP
  have hS : va_S A s.heap H [] := by rw [hHe]; exact hS
  rw [← hHe]
  refine absQ (fun Q hQ => ?_)
  refine lv_aload_n hx hb dX4_saveState_0 rfl (lv_at hl 0 rfl) ?_
  refine va_get (D := D) (ci := 4) (v := .int 0) (C := RX4) (T := TX4) (N := 9) hx hb hts (fun _ h9 => (List.mem_cons_of_mem _ (List.mem_append_left _ (List.mem_append_right _ h9)))) hown hK hP 0 rfl rfl 3 (by decide) (hts _ (List.mem_of_getElem? (i := 1) rfl)) (fun _ h9 => h9) rfl dX4_saveState_1 ?_
  refine lv_if_lt (tgt := 16) hx hb dX4_saveState_4 (by decide) (fun c_1 => ?_) (fun c_1 => ?_)
  · exact absurd c_1 (by decide)
  · refine lv_aload_n hx hb dX4_saveState_7 rfl (lv_at hl 0 rfl) ?_
    refine va_get (D := D) (ci := 4) (v := .int 0) (C := RX4) (T := TX4) (N := 9) hx hb hts (fun _ h9 => (List.mem_cons_of_mem _ (List.mem_append_left _ (List.mem_append_right _ h9)))) hown hK hP 0 rfl rfl 3 (by decide) (hts _ (List.mem_of_getElem? (i := 1) rfl)) (fun _ h9 => h9) rfl dX4_saveState_8 ?_
    refine lv_bipush (v := 6) hx hb dX4_saveState_11 (by decide) ?_
    refine lv_icmp_lt (tgt := 20) hx hb dX4_saveState_13 (by decide) (fun c_2 => ?_) (fun c_2 => ?_)
    · refine lv_aload_n hx hb dX4_saveState_20 rfl (lv_at hl 0 rfl) ?_
      refine va_get (D := D) (ci := 4) (v := .ref (d 1 0)) (C := RX4) (T := TX4) (N := 9) hx hb hts (fun _ h9 => (List.mem_cons_of_mem _ (List.mem_append_left _ (List.mem_append_right _ h9)))) hown hK hP 0 rfl rfl 0 (by decide) (hts _ (List.mem_of_getElem? (i := 2) rfl)) (fun _ h9 => h9) rfl dX4_saveState_21 ?_
      refine lv_aload_n hx hb dX4_saveState_24 rfl (lv_at hl 0 rfl) ?_
      refine va_get (D := D) (ci := 4) (v := .ref (d 3 0)) (C := RX4) (T := TX4) (N := 9) hx hb hts (fun _ h9 => (List.mem_cons_of_mem _ (List.mem_append_left _ (List.mem_append_right _ h9)))) hown hK hP 0 rfl rfl 2 (by decide) (hts _ (List.mem_of_getElem? (i := 3) rfl)) (fun _ h9 => h9) rfl dX4_saveState_25 ?_
      refine lv_aload_n hx hb dX4_saveState_28 rfl (lv_at hl 0 rfl) ?_
      refine va_get (D := D) (ci := 4) (v := .int 0) (C := RX4) (T := TX4) (N := 9) hx hb hts (fun _ h9 => (List.mem_cons_of_mem _ (List.mem_append_left _ (List.mem_append_right _ h9)))) hown hK hP 0 rfl rfl 3 (by decide) (hts _ (List.mem_of_getElem? (i := 1) rfl)) (fun _ h9 => h9) rfl dX4_saveState_29 ?_
      refine ar_qld hx hb hK hP 9 rfl 0 rfl (show vp_in (nI 0) 6 from vp_in_nI (by decide) (by decide)) (v 0 0) rfl dX4_saveState_32 ?_
      have hPc : va_P D vwCl (wSt k (v 0) (Z 0) ++ wSt k (d 1) S) H := hP.sub [10, 11, 12, 13, 14, 15, 16, 17, 1, 2, 3, 4, 5, 6, 7, 8] rfl
      have hDc : va_D A (wSt k (v 0) (Z 0) ++ wSt k (d 1) S) := hD.sub [10, 11, 12, 13, 14, 15, 16, 17, 1, 2, 3, 4, 5, 6, 7, 8] (by decide +kernel) rfl
      refine cl_v (va_runS (As := [.ref (d 1 0), .ref (v 0 0)]) (rest := []) ⟨hx, hb, hml, hown, hts⟩ (c_X4_copyState l D k (v 0) (d 1) (Z 0) S H.size) (va_cwS 2 hts gX4_saveState_X4_copyState rfl rfl rfl (by decide +kernel) ⟨Nat.le_of_ble_eq_true rfl, Nat.le_of_ble_eq_true rfl⟩) ⟨pr_blind, pr_at hN hPc hK hDc⟩ rfl rfl hl.1 rfl (lv_room (Nat.le_of_ble_eq_true rfl)) dX4_saveState_33 ⟨Nat.le_of_ble_eq_true rfl, Nat.le_of_ble_eq_true rfl⟩) hP hD hS hA [10, 11, 12, 13, 14, 15, 16, 17, 1, 2, 3, 4, 5, 6, 7, 8] [0, 9, 18, 19, 20, 21, 22, 23, 24, 25, 26, 27, 28, 29, 30, 31, 32, 33, 34, 35, 36, 37, 38, 39, 40, 41, 42, 43, 44, 45, 46, 47, 48, 49, 50, 51, 52, 53, 54, 55, 56, 57] ((wXo d 0) ++ ([(d 3 0, .inl (k 2, 6, .inr (.inr (.inr (.inr (svA v))))))]) ++ (wSt k (v 1) (Z 1)) ++ (wSt k (v 2) (Z 2)) ++ (wSt k (v 3) (Z 3)) ++ (wSt k (v 4) (Z 4)) ++ (wSt k (v 5) (Z 5))) [d 0 0, (d 1) 0, (d 1) 1, (d 1) 2, (d 1) 3, (d 1) 4, (d 1) 5, (d 1) 6, (d 1) 7, d 3 0, (v 0) 0, (v 0) 1, (v 0) 2, (v 0) 3, (v 0) 4, (v 0) 5, (v 0) 6, (v 0) 7, (v 1) 0, (v 1) 1, (v 1) 2, (v 1) 3, (v 1) 4, (v 1) 5, (v 1) 6, (v 1) 7, (v 2) 0, (v 2) 1, (v 2) 2, (v 2) 3, (v 2) 4, (v 2) 5, (v 2) 6, (v 2) 7, (v 3) 0, (v 3) 1, (v 3) 2, (v 3) 3, (v 3) 4, (v 3) 5, (v 3) 6, (v 3) 7, (v 4) 0, (v 4) 1, (v 4) 2, (v 4) 3, (v 4) 4, (v 4) 5, (v 4) 6, (v 4) 7, (v 5) 0, (v 5) 1, (v 5) 2, (v 5) 3, (v 5) 4, (v 5) 5, (v 5) 6, (v 5) 7] 58 rfl (wn := (wXo d 0 ++ (wSt k (d 1) S ++ ([(d 3 0, .inl (k 2, 6, .inr (.inr (.inr (.inr (svA v))))))] ++ (wSt k (v 0) S ++ (wSt k (v 1) (Z 1) ++ (wSt k (v 2) (Z 2) ++ (wSt k (v 3) (Z 3) ++ (wSt k (v 4) (Z 4) ++ (wSt k (v 5) (Z 5))))))))))) rfl rfl rfl rfl (by decide +kernel) rfl rfl (fun H locs hP hD hS => ?_)
      clear hPc hDc
      refine lv_aload_n hx hb dX4_saveState_36 rfl (lv_at hl 0 rfl) ?_
      refine lv_dup hx hb dX4_saveState_37 rfl ?_
      refine va_get (D := D) (ci := 4) (v := .int 0) (C := RX4) (T := TX4) (N := 9) hx hb hts (fun _ h9 => (List.mem_cons_of_mem _ (List.mem_append_left _ (List.mem_append_right _ h9)))) hown hK hP 0 rfl rfl 3 (by decide) (hts _ (List.mem_of_getElem? (i := 1) rfl)) (fun _ h9 => h9) rfl dX4_saveState_38 ?_
      refine lv_iconst (v := 1) hx hb dX4_saveState_41 (by decide) ?_
      refine lv_iadd hx hb dX4_saveState_42 ?_
      refine tp_e (y := 1) (by decide) ?_
      refine va_put (D := D) (ci := 4) (v := .int 1) (ty := tyX4 3) (C := RX4) (T := TX4) (N := 9) hx hb hts (fun _ h9 => (List.mem_cons_of_mem _ (List.mem_append_left _ (List.mem_append_right _ h9)))) tyX4 tyX4_ok nmX4 hown hK hP hD hS 0 rfl rfl 3 (by decide) (hts _ (List.mem_of_getElem? (i := 1) rfl)) (fun _ h9 => h9) rfl (tyX4_ok 3 (by decide)) rfl rfl (Nat.le_of_ble_eq_true rfl) dX4_saveState_43 (fun H locs hP hD hS => ?_)
      have hP : va_P D vwCl ([(d 0 0, .inr (4, [.ref (d 1 0), .ref (d 2 0), .ref (d 3 0), .int 1, .ref (d 4 0), .ref (d 5 0), .ref (d 6 0), .ref (d 8 0), .ref (d 10 0)]))] ++ (wSt k (d 1) S ++ ([(d 3 0, .inl (k 2, 6, .inr (.inr (.inr (.inr (svA v))))))] ++ (wSt k (v 0) S ++ (wSt k (v 1) (Z 1) ++ (wSt k (v 2) (Z 2) ++ (wSt k (v 3) (Z 3) ++ (wSt k (v 4) (Z 4) ++ (wSt k (v 5) (Z 5)))))))))) H := hP
      have hD : va_D A ([(d 0 0, .inr (4, [.ref (d 1 0), .ref (d 2 0), .ref (d 3 0), .int 1, .ref (d 4 0), .ref (d 5 0), .ref (d 6 0), .ref (d 8 0), .ref (d 10 0)]))] ++ (wSt k (d 1) S ++ ([(d 3 0, .inl (k 2, 6, .inr (.inr (.inr (.inr (svA v))))))] ++ (wSt k (v 0) S ++ (wSt k (v 1) (Z 1) ++ (wSt k (v 2) (Z 2) ++ (wSt k (v 3) (Z 3) ++ (wSt k (v 4) (Z 4) ++ (wSt k (v 5) (Z 5)))))))))) := hD
      subst hQ
      exact rt_vD hx hb hr hlocks hS dX4_saveState_46 (hP) (hD)
    · exact absurd c_2 (by decide)

set_option maxHeartbeats 1000000 in
set_option maxRecDepth 100000 in
theorem c_X4_saveState_1 (l : Launch) (D : va_G) (k : Nat → ClassId) (d v : Nat → Nat → Nat) (S : Nat → Nat → Int32) (Z : Nat → Nat → Nat → Int32)  : MVD l yX4_saveState wsX4_saveState ({ frames := 3, cells := 0, slots := 0, locals := 70 }) D k [.ref (d 0 0)] (wXo d 1 ++ (wSt k (d 1) S ++ ([(d 3 0, .inl (k 2, 6, .inr (.inr (.inr (.inr (svA v))))))] ++ (wSt k (v 0) (Z 0) ++ (wSt k (v 1) (Z 1) ++ (wSt k (v 2) (Z 2) ++ (wSt k (v 3) (Z 3) ++ (wSt k (v 4) (Z 4) ++ (wSt k (v 5) (Z 5)))))))))) (wXo d (nI (svN 1)) ++ (wSt k (d 1) S ++ wSv k (d 3 0) (svE v 1) (svZ Z 1 S))) := by
  intro sz
  refine Met.ofW (cc := cX4_saveState) (maxL := 1) (ret := none) (by decide) rfl ?_
  intro p e s m args below meth c s₁ B hml hv
  obtain ⟨rfl, hN, hsz, hP, hK, hD0⟩ := hv
  have hx := B.exec
  have hb := B.bytes
  have hr := B.returns
  have hts := atoms_spec (ws := wsX4_saveState) B.pre
  have hown : s.vm.findClass RX4 = some m.cls := findClass_of_methodNamed B.named
  have hlocks := B.notSynchronized
  subst hsz
  have hD := hD0.self (sz := s.heap.size)
  generalize hAe : va_A (wXo d 1 ++ (wSt k (d 1) S ++ ([(d 3 0, .inl (k 2, 6, .inr (.inr (.inr (.inr (svA v))))))] ++ (wSt k (v 0) (Z 0) ++ (wSt k (v 1) (Z 1) ++ (wSt k (v 2) (Z 2) ++ (wSt k (v 3) (Z 3) ++ (wSt k (v 4) (Z 4) ++ (wSt k (v 5) (Z 5)))))))))) s.heap.size = A at hD ⊢
  have hA : ∀ q : Nat, s.heap.size ≤ q → A q := fun q h => by rw [← hAe]; exact Or.inr h
  have hS : va_S A s.heap s.heap [] := va_S.rf
  have hl := lv_entry ([.ref (d 0 0)]) (n := 1) (Nat.le_of_ble_eq_true rfl)
  rw [lg_entry_eq]
  generalize (lg_sl ([.ref (d 0 0)]) ++ List.replicate (1 - (lg_sl ([.ref (d 0 0)])).length) Slot.unset).toArray = ls at hl ⊢
  have hl : lv_has ls 1 [(0, .ref (d 0 0))] := hl
  obtain ⟨H, hHe⟩ : ∃ H, H = s.heap := ⟨_, rfl⟩
  have hP : va_P D vwCl (wXo d 1 ++ (wSt k (d 1) S ++ ([(d 3 0, .inl (k 2, 6, .inr (.inr (.inr (.inr (svA v))))))] ++ (wSt k (v 0) (Z 0) ++ (wSt k (v 1) (Z 1) ++ (wSt k (v 2) (Z 2) ++ (wSt k (v 3) (Z 3) ++ (wSt k (v 4) (Z 4) ++ (wSt k (v 5) (Z 5)))))))))) H := by rw [hHe]; exact hP
  have hS : va_S A s.heap H [] := by rw [hHe]; exact hS
  rw [← hHe]
  refine absQ (fun Q hQ => ?_)
  refine lv_aload_n hx hb dX4_saveState_0 rfl (lv_at hl 0 rfl) ?_
  refine va_get (D := D) (ci := 4) (v := .int 1) (C := RX4) (T := TX4) (N := 9) hx hb hts (fun _ h9 => (List.mem_cons_of_mem _ (List.mem_append_left _ (List.mem_append_right _ h9)))) hown hK hP 0 rfl rfl 3 (by decide) (hts _ (List.mem_of_getElem? (i := 1) rfl)) (fun _ h9 => h9) rfl dX4_saveState_1 ?_
  refine lv_if_lt (tgt := 16) hx hb dX4_saveState_4 (by decide) (fun c_1 => ?_) (fun c_1 => ?_)
  · exact absurd c_1 (by decide)
  · refine lv_aload_n hx hb dX4_saveState_7 rfl (lv_at hl 0 rfl) ?_
    refine va_get (D := D) (ci := 4) (v := .int 1) (C := RX4) (T := TX4) (N := 9) hx hb hts (fun _ h9 => (List.mem_cons_of_mem _ (List.mem_append_left _ (List.mem_append_right _ h9)))) hown hK hP 0 rfl rfl 3 (by decide) (hts _ (List.mem_of_getElem? (i := 1) rfl)) (fun _ h9 => h9) rfl dX4_saveState_8 ?_
    refine lv_bipush (v := 6) hx hb dX4_saveState_11 (by decide) ?_
    refine lv_icmp_lt (tgt := 20) hx hb dX4_saveState_13 (by decide) (fun c_2 => ?_) (fun c_2 => ?_)
    · refine lv_aload_n hx hb dX4_saveState_20 rfl (lv_at hl 0 rfl) ?_
      refine va_get (D := D) (ci := 4) (v := .ref (d 1 0)) (C := RX4) (T := TX4) (N := 9) hx hb hts (fun _ h9 => (List.mem_cons_of_mem _ (List.mem_append_left _ (List.mem_append_right _ h9)))) hown hK hP 0 rfl rfl 0 (by decide) (hts _ (List.mem_of_getElem? (i := 2) rfl)) (fun _ h9 => h9) rfl dX4_saveState_21 ?_
      refine lv_aload_n hx hb dX4_saveState_24 rfl (lv_at hl 0 rfl) ?_
      refine va_get (D := D) (ci := 4) (v := .ref (d 3 0)) (C := RX4) (T := TX4) (N := 9) hx hb hts (fun _ h9 => (List.mem_cons_of_mem _ (List.mem_append_left _ (List.mem_append_right _ h9)))) hown hK hP 0 rfl rfl 2 (by decide) (hts _ (List.mem_of_getElem? (i := 3) rfl)) (fun _ h9 => h9) rfl dX4_saveState_25 ?_
      refine lv_aload_n hx hb dX4_saveState_28 rfl (lv_at hl 0 rfl) ?_
      refine va_get (D := D) (ci := 4) (v := .int 1) (C := RX4) (T := TX4) (N := 9) hx hb hts (fun _ h9 => (List.mem_cons_of_mem _ (List.mem_append_left _ (List.mem_append_right _ h9)))) hown hK hP 0 rfl rfl 3 (by decide) (hts _ (List.mem_of_getElem? (i := 1) rfl)) (fun _ h9 => h9) rfl dX4_saveState_29 ?_
      refine ar_qld hx hb hK hP 9 rfl 1 rfl (show vp_in (nI 1) 6 from vp_in_nI (by decide) (by decide)) (v 1 0) rfl dX4_saveState_32 ?_
      have hPc : va_P D vwCl (wSt k (v 1) (Z 1) ++ wSt k (d 1) S) H := hP.sub [18, 19, 20, 21, 22, 23, 24, 25, 1, 2, 3, 4, 5, 6, 7, 8] rfl
      have hDc : va_D A (wSt k (v 1) (Z 1) ++ wSt k (d 1) S) := hD.sub [18, 19, 20, 21, 22, 23, 24, 25, 1, 2, 3, 4, 5, 6, 7, 8] (by decide +kernel) rfl
      refine cl_v (va_runS (As := [.ref (d 1 0), .ref (v 1 0)]) (rest := []) ⟨hx, hb, hml, hown, hts⟩ (c_X4_copyState l D k (v 1) (d 1) (Z 1) S H.size) (va_cwS 2 hts gX4_saveState_X4_copyState rfl rfl rfl (by decide +kernel) ⟨Nat.le_of_ble_eq_true rfl, Nat.le_of_ble_eq_true rfl⟩) ⟨pr_blind, pr_at hN hPc hK hDc⟩ rfl rfl hl.1 rfl (lv_room (Nat.le_of_ble_eq_true rfl)) dX4_saveState_33 ⟨Nat.le_of_ble_eq_true rfl, Nat.le_of_ble_eq_true rfl⟩) hP hD hS hA [18, 19, 20, 21, 22, 23, 24, 25, 1, 2, 3, 4, 5, 6, 7, 8] [0, 9, 10, 11, 12, 13, 14, 15, 16, 17, 26, 27, 28, 29, 30, 31, 32, 33, 34, 35, 36, 37, 38, 39, 40, 41, 42, 43, 44, 45, 46, 47, 48, 49, 50, 51, 52, 53, 54, 55, 56, 57] ((wXo d 1) ++ ([(d 3 0, .inl (k 2, 6, .inr (.inr (.inr (.inr (svA v))))))]) ++ (wSt k (v 0) (Z 0)) ++ (wSt k (v 2) (Z 2)) ++ (wSt k (v 3) (Z 3)) ++ (wSt k (v 4) (Z 4)) ++ (wSt k (v 5) (Z 5))) [d 0 0, (d 1) 0, (d 1) 1, (d 1) 2, (d 1) 3, (d 1) 4, (d 1) 5, (d 1) 6, (d 1) 7, d 3 0, (v 0) 0, (v 0) 1, (v 0) 2, (v 0) 3, (v 0) 4, (v 0) 5, (v 0) 6, (v 0) 7, (v 1) 0, (v 1) 1, (v 1) 2, (v 1) 3, (v 1) 4, (v 1) 5, (v 1) 6, (v 1) 7, (v 2) 0, (v 2) 1, (v 2) 2, (v 2) 3, (v 2) 4, (v 2) 5, (v 2) 6, (v 2) 7, (v 3) 0, (v 3) 1, (v 3) 2, (v 3) 3, (v 3) 4, (v 3) 5, (v 3) 6, (v 3) 7, (v 4) 0, (v 4) 1, (v 4) 2, (v 4) 3, (v 4) 4, (v 4) 5, (v 4) 6, (v 4) 7, (v 5) 0, (v 5) 1, (v 5) 2, (v 5) 3, (v 5) 4, (v 5) 5, (v 5) 6, (v 5) 7] 58 rfl (wn := (wXo d 1 ++ (wSt k (d 1) S ++ ([(d 3 0, .inl (k 2, 6, .inr (.inr (.inr (.inr (svA v))))))] ++ (wSt k (v 0) (Z 0) ++ (wSt k (v 1) S ++ (wSt k (v 2) (Z 2) ++ (wSt k (v 3) (Z 3) ++ (wSt k (v 4) (Z 4) ++ (wSt k (v 5) (Z 5))))))))))) rfl rfl rfl rfl (by decide +kernel) rfl rfl (fun H locs hP hD hS => ?_)
      clear hPc hDc
      refine lv_aload_n hx hb dX4_saveState_36 rfl (lv_at hl 0 rfl) ?_
      refine lv_dup hx hb dX4_saveState_37 rfl ?_
      refine va_get (D := D) (ci := 4) (v := .int 1) (C := RX4) (T := TX4) (N := 9) hx hb hts (fun _ h9 => (List.mem_cons_of_mem _ (List.mem_append_left _ (List.mem_append_right _ h9)))) hown hK hP 0 rfl rfl 3 (by decide) (hts _ (List.mem_of_getElem? (i := 1) rfl)) (fun _ h9 => h9) rfl dX4_saveState_38 ?_
      refine lv_iconst (v := 1) hx hb dX4_saveState_41 (by decide) ?_
      refine lv_iadd hx hb dX4_saveState_42 ?_
      refine tp_e (y := 2) (by decide) ?_
      refine va_put (D := D) (ci := 4) (v := .int 2) (ty := tyX4 3) (C := RX4) (T := TX4) (N := 9) hx hb hts (fun _ h9 => (List.mem_cons_of_mem _ (List.mem_append_left _ (List.mem_append_right _ h9)))) tyX4 tyX4_ok nmX4 hown hK hP hD hS 0 rfl rfl 3 (by decide) (hts _ (List.mem_of_getElem? (i := 1) rfl)) (fun _ h9 => h9) rfl (tyX4_ok 3 (by decide)) rfl rfl (Nat.le_of_ble_eq_true rfl) dX4_saveState_43 (fun H locs hP hD hS => ?_)
      have hP : va_P D vwCl ([(d 0 0, .inr (4, [.ref (d 1 0), .ref (d 2 0), .ref (d 3 0), .int 2, .ref (d 4 0), .ref (d 5 0), .ref (d 6 0), .ref (d 8 0), .ref (d 10 0)]))] ++ (wSt k (d 1) S ++ ([(d 3 0, .inl (k 2, 6, .inr (.inr (.inr (.inr (svA v))))))] ++ (wSt k (v 0) (Z 0) ++ (wSt k (v 1) S ++ (wSt k (v 2) (Z 2) ++ (wSt k (v 3) (Z 3) ++ (wSt k (v 4) (Z 4) ++ (wSt k (v 5) (Z 5)))))))))) H := hP
      have hD : va_D A ([(d 0 0, .inr (4, [.ref (d 1 0), .ref (d 2 0), .ref (d 3 0), .int 2, .ref (d 4 0), .ref (d 5 0), .ref (d 6 0), .ref (d 8 0), .ref (d 10 0)]))] ++ (wSt k (d 1) S ++ ([(d 3 0, .inl (k 2, 6, .inr (.inr (.inr (.inr (svA v))))))] ++ (wSt k (v 0) (Z 0) ++ (wSt k (v 1) S ++ (wSt k (v 2) (Z 2) ++ (wSt k (v 3) (Z 3) ++ (wSt k (v 4) (Z 4) ++ (wSt k (v 5) (Z 5)))))))))) := hD
      subst hQ
      exact rt_vD hx hb hr hlocks hS dX4_saveState_46 (hP) (hD)
    · exact absurd c_2 (by decide)

set_option maxHeartbeats 1000000 in
set_option maxRecDepth 100000 in
theorem c_X4_saveState_2 (l : Launch) (D : va_G) (k : Nat → ClassId) (d v : Nat → Nat → Nat) (S : Nat → Nat → Int32) (Z : Nat → Nat → Nat → Int32)  : MVD l yX4_saveState wsX4_saveState ({ frames := 3, cells := 0, slots := 0, locals := 70 }) D k [.ref (d 0 0)] (wXo d 2 ++ (wSt k (d 1) S ++ ([(d 3 0, .inl (k 2, 6, .inr (.inr (.inr (.inr (svA v))))))] ++ (wSt k (v 0) (Z 0) ++ (wSt k (v 1) (Z 1) ++ (wSt k (v 2) (Z 2) ++ (wSt k (v 3) (Z 3) ++ (wSt k (v 4) (Z 4) ++ (wSt k (v 5) (Z 5)))))))))) (wXo d (nI (svN 2)) ++ (wSt k (d 1) S ++ wSv k (d 3 0) (svE v 2) (svZ Z 2 S))) := by
  intro sz
  refine Met.ofW (cc := cX4_saveState) (maxL := 1) (ret := none) (by decide) rfl ?_
  intro p e s m args below meth c s₁ B hml hv
  obtain ⟨rfl, hN, hsz, hP, hK, hD0⟩ := hv
  have hx := B.exec
  have hb := B.bytes
  have hr := B.returns
  have hts := atoms_spec (ws := wsX4_saveState) B.pre
  have hown : s.vm.findClass RX4 = some m.cls := findClass_of_methodNamed B.named
  have hlocks := B.notSynchronized
  subst hsz
  have hD := hD0.self (sz := s.heap.size)
  generalize hAe : va_A (wXo d 2 ++ (wSt k (d 1) S ++ ([(d 3 0, .inl (k 2, 6, .inr (.inr (.inr (.inr (svA v))))))] ++ (wSt k (v 0) (Z 0) ++ (wSt k (v 1) (Z 1) ++ (wSt k (v 2) (Z 2) ++ (wSt k (v 3) (Z 3) ++ (wSt k (v 4) (Z 4) ++ (wSt k (v 5) (Z 5)))))))))) s.heap.size = A at hD ⊢
  have hA : ∀ q : Nat, s.heap.size ≤ q → A q := fun q h => by rw [← hAe]; exact Or.inr h
  have hS : va_S A s.heap s.heap [] := va_S.rf
  have hl := lv_entry ([.ref (d 0 0)]) (n := 1) (Nat.le_of_ble_eq_true rfl)
  rw [lg_entry_eq]
  generalize (lg_sl ([.ref (d 0 0)]) ++ List.replicate (1 - (lg_sl ([.ref (d 0 0)])).length) Slot.unset).toArray = ls at hl ⊢
  have hl : lv_has ls 1 [(0, .ref (d 0 0))] := hl
  obtain ⟨H, hHe⟩ : ∃ H, H = s.heap := ⟨_, rfl⟩
  have hP : va_P D vwCl (wXo d 2 ++ (wSt k (d 1) S ++ ([(d 3 0, .inl (k 2, 6, .inr (.inr (.inr (.inr (svA v))))))] ++ (wSt k (v 0) (Z 0) ++ (wSt k (v 1) (Z 1) ++ (wSt k (v 2) (Z 2) ++ (wSt k (v 3) (Z 3) ++ (wSt k (v 4) (Z 4) ++ (wSt k (v 5) (Z 5)))))))))) H := by rw [hHe]; exact hP
  have hS : va_S A s.heap H [] := by rw [hHe]; exact hS
  rw [← hHe]
  refine absQ (fun Q hQ => ?_)
  refine lv_aload_n hx hb dX4_saveState_0 rfl (lv_at hl 0 rfl) ?_
  refine va_get (D := D) (ci := 4) (v := .int 2) (C := RX4) (T := TX4) (N := 9) hx hb hts (fun _ h9 => (List.mem_cons_of_mem _ (List.mem_append_left _ (List.mem_append_right _ h9)))) hown hK hP 0 rfl rfl 3 (by decide) (hts _ (List.mem_of_getElem? (i := 1) rfl)) (fun _ h9 => h9) rfl dX4_saveState_1 ?_
  refine lv_if_lt (tgt := 16) hx hb dX4_saveState_4 (by decide) (fun c_1 => ?_) (fun c_1 => ?_)
  · exact absurd c_1 (by decide)
  · refine lv_aload_n hx hb dX4_saveState_7 rfl (lv_at hl 0 rfl) ?_
    refine va_get (D := D) (ci := 4) (v := .int 2) (C := RX4) (T := TX4) (N := 9) hx hb hts (fun _ h9 => (List.mem_cons_of_mem _ (List.mem_append_left _ (List.mem_append_right _ h9)))) hown hK hP 0 rfl rfl 3 (by decide) (hts _ (List.mem_of_getElem? (i := 1) rfl)) (fun _ h9 => h9) rfl dX4_saveState_8 ?_
    refine lv_bipush (v := 6) hx hb dX4_saveState_11 (by decide) ?_
    refine lv_icmp_lt (tgt := 20) hx hb dX4_saveState_13 (by decide) (fun c_2 => ?_) (fun c_2 => ?_)
    · refine lv_aload_n hx hb dX4_saveState_20 rfl (lv_at hl 0 rfl) ?_
      refine va_get (D := D) (ci := 4) (v := .ref (d 1 0)) (C := RX4) (T := TX4) (N := 9) hx hb hts (fun _ h9 => (List.mem_cons_of_mem _ (List.mem_append_left _ (List.mem_append_right _ h9)))) hown hK hP 0 rfl rfl 0 (by decide) (hts _ (List.mem_of_getElem? (i := 2) rfl)) (fun _ h9 => h9) rfl dX4_saveState_21 ?_
      refine lv_aload_n hx hb dX4_saveState_24 rfl (lv_at hl 0 rfl) ?_
      refine va_get (D := D) (ci := 4) (v := .ref (d 3 0)) (C := RX4) (T := TX4) (N := 9) hx hb hts (fun _ h9 => (List.mem_cons_of_mem _ (List.mem_append_left _ (List.mem_append_right _ h9)))) hown hK hP 0 rfl rfl 2 (by decide) (hts _ (List.mem_of_getElem? (i := 3) rfl)) (fun _ h9 => h9) rfl dX4_saveState_25 ?_
      refine lv_aload_n hx hb dX4_saveState_28 rfl (lv_at hl 0 rfl) ?_
      refine va_get (D := D) (ci := 4) (v := .int 2) (C := RX4) (T := TX4) (N := 9) hx hb hts (fun _ h9 => (List.mem_cons_of_mem _ (List.mem_append_left _ (List.mem_append_right _ h9)))) hown hK hP 0 rfl rfl 3 (by decide) (hts _ (List.mem_of_getElem? (i := 1) rfl)) (fun _ h9 => h9) rfl dX4_saveState_29 ?_
      refine ar_qld hx hb hK hP 9 rfl 2 rfl (show vp_in (nI 2) 6 from vp_in_nI (by decide) (by decide)) (v 2 0) rfl dX4_saveState_32 ?_
      have hPc : va_P D vwCl (wSt k (v 2) (Z 2) ++ wSt k (d 1) S) H := hP.sub [26, 27, 28, 29, 30, 31, 32, 33, 1, 2, 3, 4, 5, 6, 7, 8] rfl
      have hDc : va_D A (wSt k (v 2) (Z 2) ++ wSt k (d 1) S) := hD.sub [26, 27, 28, 29, 30, 31, 32, 33, 1, 2, 3, 4, 5, 6, 7, 8] (by decide +kernel) rfl
      refine cl_v (va_runS (As := [.ref (d 1 0), .ref (v 2 0)]) (rest := []) ⟨hx, hb, hml, hown, hts⟩ (c_X4_copyState l D k (v 2) (d 1) (Z 2) S H.size) (va_cwS 2 hts gX4_saveState_X4_copyState rfl rfl rfl (by decide +kernel) ⟨Nat.le_of_ble_eq_true rfl, Nat.le_of_ble_eq_true rfl⟩) ⟨pr_blind, pr_at hN hPc hK hDc⟩ rfl rfl hl.1 rfl (lv_room (Nat.le_of_ble_eq_true rfl)) dX4_saveState_33 ⟨Nat.le_of_ble_eq_true rfl, Nat.le_of_ble_eq_true rfl⟩) hP hD hS hA [26, 27, 28, 29, 30, 31, 32, 33, 1, 2, 3, 4, 5, 6, 7, 8] [0, 9, 10, 11, 12, 13, 14, 15, 16, 17, 18, 19, 20, 21, 22, 23, 24, 25, 34, 35, 36, 37, 38, 39, 40, 41, 42, 43, 44, 45, 46, 47, 48, 49, 50, 51, 52, 53, 54, 55, 56, 57] ((wXo d 2) ++ ([(d 3 0, .inl (k 2, 6, .inr (.inr (.inr (.inr (svA v))))))]) ++ (wSt k (v 0) (Z 0)) ++ (wSt k (v 1) (Z 1)) ++ (wSt k (v 3) (Z 3)) ++ (wSt k (v 4) (Z 4)) ++ (wSt k (v 5) (Z 5))) [d 0 0, (d 1) 0, (d 1) 1, (d 1) 2, (d 1) 3, (d 1) 4, (d 1) 5, (d 1) 6, (d 1) 7, d 3 0, (v 0) 0, (v 0) 1, (v 0) 2, (v 0) 3, (v 0) 4, (v 0) 5, (v 0) 6, (v 0) 7, (v 1) 0, (v 1) 1, (v 1) 2, (v 1) 3, (v 1) 4, (v 1) 5, (v 1) 6, (v 1) 7, (v 2) 0, (v 2) 1, (v 2) 2, (v 2) 3, (v 2) 4, (v 2) 5, (v 2) 6, (v 2) 7, (v 3) 0, (v 3) 1, (v 3) 2, (v 3) 3, (v 3) 4, (v 3) 5, (v 3) 6, (v 3) 7, (v 4) 0, (v 4) 1, (v 4) 2, (v 4) 3, (v 4) 4, (v 4) 5, (v 4) 6, (v 4) 7, (v 5) 0, (v 5) 1, (v 5) 2, (v 5) 3, (v 5) 4, (v 5) 5, (v 5) 6, (v 5) 7] 58 rfl (wn := (wXo d 2 ++ (wSt k (d 1) S ++ ([(d 3 0, .inl (k 2, 6, .inr (.inr (.inr (.inr (svA v))))))] ++ (wSt k (v 0) (Z 0) ++ (wSt k (v 1) (Z 1) ++ (wSt k (v 2) S ++ (wSt k (v 3) (Z 3) ++ (wSt k (v 4) (Z 4) ++ (wSt k (v 5) (Z 5))))))))))) rfl rfl rfl rfl (by decide +kernel) rfl rfl (fun H locs hP hD hS => ?_)
      clear hPc hDc
      refine lv_aload_n hx hb dX4_saveState_36 rfl (lv_at hl 0 rfl) ?_
      refine lv_dup hx hb dX4_saveState_37 rfl ?_
      refine va_get (D := D) (ci := 4) (v := .int 2) (C := RX4) (T := TX4) (N := 9) hx hb hts (fun _ h9 => (List.mem_cons_of_mem _ (List.mem_append_left _ (List.mem_append_right _ h9)))) hown hK hP 0 rfl rfl 3 (by decide) (hts _ (List.mem_of_getElem? (i := 1) rfl)) (fun _ h9 => h9) rfl dX4_saveState_38 ?_
      refine lv_iconst (v := 1) hx hb dX4_saveState_41 (by decide) ?_
      refine lv_iadd hx hb dX4_saveState_42 ?_
      refine tp_e (y := 3) (by decide) ?_
      refine va_put (D := D) (ci := 4) (v := .int 3) (ty := tyX4 3) (C := RX4) (T := TX4) (N := 9) hx hb hts (fun _ h9 => (List.mem_cons_of_mem _ (List.mem_append_left _ (List.mem_append_right _ h9)))) tyX4 tyX4_ok nmX4 hown hK hP hD hS 0 rfl rfl 3 (by decide) (hts _ (List.mem_of_getElem? (i := 1) rfl)) (fun _ h9 => h9) rfl (tyX4_ok 3 (by decide)) rfl rfl (Nat.le_of_ble_eq_true rfl) dX4_saveState_43 (fun H locs hP hD hS => ?_)
      have hP : va_P D vwCl ([(d 0 0, .inr (4, [.ref (d 1 0), .ref (d 2 0), .ref (d 3 0), .int 3, .ref (d 4 0), .ref (d 5 0), .ref (d 6 0), .ref (d 8 0), .ref (d 10 0)]))] ++ (wSt k (d 1) S ++ ([(d 3 0, .inl (k 2, 6, .inr (.inr (.inr (.inr (svA v))))))] ++ (wSt k (v 0) (Z 0) ++ (wSt k (v 1) (Z 1) ++ (wSt k (v 2) S ++ (wSt k (v 3) (Z 3) ++ (wSt k (v 4) (Z 4) ++ (wSt k (v 5) (Z 5)))))))))) H := hP
      have hD : va_D A ([(d 0 0, .inr (4, [.ref (d 1 0), .ref (d 2 0), .ref (d 3 0), .int 3, .ref (d 4 0), .ref (d 5 0), .ref (d 6 0), .ref (d 8 0), .ref (d 10 0)]))] ++ (wSt k (d 1) S ++ ([(d 3 0, .inl (k 2, 6, .inr (.inr (.inr (.inr (svA v))))))] ++ (wSt k (v 0) (Z 0) ++ (wSt k (v 1) (Z 1) ++ (wSt k (v 2) S ++ (wSt k (v 3) (Z 3) ++ (wSt k (v 4) (Z 4) ++ (wSt k (v 5) (Z 5)))))))))) := hD
      subst hQ
      exact rt_vD hx hb hr hlocks hS dX4_saveState_46 (hP) (hD)
    · exact absurd c_2 (by decide)

set_option maxHeartbeats 1000000 in
set_option maxRecDepth 100000 in
theorem c_X4_saveState_3 (l : Launch) (D : va_G) (k : Nat → ClassId) (d v : Nat → Nat → Nat) (S : Nat → Nat → Int32) (Z : Nat → Nat → Nat → Int32)  : MVD l yX4_saveState wsX4_saveState ({ frames := 3, cells := 0, slots := 0, locals := 70 }) D k [.ref (d 0 0)] (wXo d 3 ++ (wSt k (d 1) S ++ ([(d 3 0, .inl (k 2, 6, .inr (.inr (.inr (.inr (svA v))))))] ++ (wSt k (v 0) (Z 0) ++ (wSt k (v 1) (Z 1) ++ (wSt k (v 2) (Z 2) ++ (wSt k (v 3) (Z 3) ++ (wSt k (v 4) (Z 4) ++ (wSt k (v 5) (Z 5)))))))))) (wXo d (nI (svN 3)) ++ (wSt k (d 1) S ++ wSv k (d 3 0) (svE v 3) (svZ Z 3 S))) := by
  intro sz
  refine Met.ofW (cc := cX4_saveState) (maxL := 1) (ret := none) (by decide) rfl ?_
  intro p e s m args below meth c s₁ B hml hv
  obtain ⟨rfl, hN, hsz, hP, hK, hD0⟩ := hv
  have hx := B.exec
  have hb := B.bytes
  have hr := B.returns
  have hts := atoms_spec (ws := wsX4_saveState) B.pre
  have hown : s.vm.findClass RX4 = some m.cls := findClass_of_methodNamed B.named
  have hlocks := B.notSynchronized
  subst hsz
  have hD := hD0.self (sz := s.heap.size)
  generalize hAe : va_A (wXo d 3 ++ (wSt k (d 1) S ++ ([(d 3 0, .inl (k 2, 6, .inr (.inr (.inr (.inr (svA v))))))] ++ (wSt k (v 0) (Z 0) ++ (wSt k (v 1) (Z 1) ++ (wSt k (v 2) (Z 2) ++ (wSt k (v 3) (Z 3) ++ (wSt k (v 4) (Z 4) ++ (wSt k (v 5) (Z 5)))))))))) s.heap.size = A at hD ⊢
  have hA : ∀ q : Nat, s.heap.size ≤ q → A q := fun q h => by rw [← hAe]; exact Or.inr h
  have hS : va_S A s.heap s.heap [] := va_S.rf
  have hl := lv_entry ([.ref (d 0 0)]) (n := 1) (Nat.le_of_ble_eq_true rfl)
  rw [lg_entry_eq]
  generalize (lg_sl ([.ref (d 0 0)]) ++ List.replicate (1 - (lg_sl ([.ref (d 0 0)])).length) Slot.unset).toArray = ls at hl ⊢
  have hl : lv_has ls 1 [(0, .ref (d 0 0))] := hl
  obtain ⟨H, hHe⟩ : ∃ H, H = s.heap := ⟨_, rfl⟩
  have hP : va_P D vwCl (wXo d 3 ++ (wSt k (d 1) S ++ ([(d 3 0, .inl (k 2, 6, .inr (.inr (.inr (.inr (svA v))))))] ++ (wSt k (v 0) (Z 0) ++ (wSt k (v 1) (Z 1) ++ (wSt k (v 2) (Z 2) ++ (wSt k (v 3) (Z 3) ++ (wSt k (v 4) (Z 4) ++ (wSt k (v 5) (Z 5)))))))))) H := by rw [hHe]; exact hP
  have hS : va_S A s.heap H [] := by rw [hHe]; exact hS
  rw [← hHe]
  refine absQ (fun Q hQ => ?_)
  refine lv_aload_n hx hb dX4_saveState_0 rfl (lv_at hl 0 rfl) ?_
  refine va_get (D := D) (ci := 4) (v := .int 3) (C := RX4) (T := TX4) (N := 9) hx hb hts (fun _ h9 => (List.mem_cons_of_mem _ (List.mem_append_left _ (List.mem_append_right _ h9)))) hown hK hP 0 rfl rfl 3 (by decide) (hts _ (List.mem_of_getElem? (i := 1) rfl)) (fun _ h9 => h9) rfl dX4_saveState_1 ?_
  refine lv_if_lt (tgt := 16) hx hb dX4_saveState_4 (by decide) (fun c_1 => ?_) (fun c_1 => ?_)
  · exact absurd c_1 (by decide)
  · refine lv_aload_n hx hb dX4_saveState_7 rfl (lv_at hl 0 rfl) ?_
    refine va_get (D := D) (ci := 4) (v := .int 3) (C := RX4) (T := TX4) (N := 9) hx hb hts (fun _ h9 => (List.mem_cons_of_mem _ (List.mem_append_left _ (List.mem_append_right _ h9)))) hown hK hP 0 rfl rfl 3 (by decide) (hts _ (List.mem_of_getElem? (i := 1) rfl)) (fun _ h9 => h9) rfl dX4_saveState_8 ?_
    refine lv_bipush (v := 6) hx hb dX4_saveState_11 (by decide) ?_
    refine lv_icmp_lt (tgt := 20) hx hb dX4_saveState_13 (by decide) (fun c_2 => ?_) (fun c_2 => ?_)
    · refine lv_aload_n hx hb dX4_saveState_20 rfl (lv_at hl 0 rfl) ?_
      refine va_get (D := D) (ci := 4) (v := .ref (d 1 0)) (C := RX4) (T := TX4) (N := 9) hx hb hts (fun _ h9 => (List.mem_cons_of_mem _ (List.mem_append_left _ (List.mem_append_right _ h9)))) hown hK hP 0 rfl rfl 0 (by decide) (hts _ (List.mem_of_getElem? (i := 2) rfl)) (fun _ h9 => h9) rfl dX4_saveState_21 ?_
      refine lv_aload_n hx hb dX4_saveState_24 rfl (lv_at hl 0 rfl) ?_
      refine va_get (D := D) (ci := 4) (v := .ref (d 3 0)) (C := RX4) (T := TX4) (N := 9) hx hb hts (fun _ h9 => (List.mem_cons_of_mem _ (List.mem_append_left _ (List.mem_append_right _ h9)))) hown hK hP 0 rfl rfl 2 (by decide) (hts _ (List.mem_of_getElem? (i := 3) rfl)) (fun _ h9 => h9) rfl dX4_saveState_25 ?_
      refine lv_aload_n hx hb dX4_saveState_28 rfl (lv_at hl 0 rfl) ?_
      refine va_get (D := D) (ci := 4) (v := .int 3) (C := RX4) (T := TX4) (N := 9) hx hb hts (fun _ h9 => (List.mem_cons_of_mem _ (List.mem_append_left _ (List.mem_append_right _ h9)))) hown hK hP 0 rfl rfl 3 (by decide) (hts _ (List.mem_of_getElem? (i := 1) rfl)) (fun _ h9 => h9) rfl dX4_saveState_29 ?_
      refine ar_qld hx hb hK hP 9 rfl 3 rfl (show vp_in (nI 3) 6 from vp_in_nI (by decide) (by decide)) (v 3 0) rfl dX4_saveState_32 ?_
      have hPc : va_P D vwCl (wSt k (v 3) (Z 3) ++ wSt k (d 1) S) H := hP.sub [34, 35, 36, 37, 38, 39, 40, 41, 1, 2, 3, 4, 5, 6, 7, 8] rfl
      have hDc : va_D A (wSt k (v 3) (Z 3) ++ wSt k (d 1) S) := hD.sub [34, 35, 36, 37, 38, 39, 40, 41, 1, 2, 3, 4, 5, 6, 7, 8] (by decide +kernel) rfl
      refine cl_v (va_runS (As := [.ref (d 1 0), .ref (v 3 0)]) (rest := []) ⟨hx, hb, hml, hown, hts⟩ (c_X4_copyState l D k (v 3) (d 1) (Z 3) S H.size) (va_cwS 2 hts gX4_saveState_X4_copyState rfl rfl rfl (by decide +kernel) ⟨Nat.le_of_ble_eq_true rfl, Nat.le_of_ble_eq_true rfl⟩) ⟨pr_blind, pr_at hN hPc hK hDc⟩ rfl rfl hl.1 rfl (lv_room (Nat.le_of_ble_eq_true rfl)) dX4_saveState_33 ⟨Nat.le_of_ble_eq_true rfl, Nat.le_of_ble_eq_true rfl⟩) hP hD hS hA [34, 35, 36, 37, 38, 39, 40, 41, 1, 2, 3, 4, 5, 6, 7, 8] [0, 9, 10, 11, 12, 13, 14, 15, 16, 17, 18, 19, 20, 21, 22, 23, 24, 25, 26, 27, 28, 29, 30, 31, 32, 33, 42, 43, 44, 45, 46, 47, 48, 49, 50, 51, 52, 53, 54, 55, 56, 57] ((wXo d 3) ++ ([(d 3 0, .inl (k 2, 6, .inr (.inr (.inr (.inr (svA v))))))]) ++ (wSt k (v 0) (Z 0)) ++ (wSt k (v 1) (Z 1)) ++ (wSt k (v 2) (Z 2)) ++ (wSt k (v 4) (Z 4)) ++ (wSt k (v 5) (Z 5))) [d 0 0, (d 1) 0, (d 1) 1, (d 1) 2, (d 1) 3, (d 1) 4, (d 1) 5, (d 1) 6, (d 1) 7, d 3 0, (v 0) 0, (v 0) 1, (v 0) 2, (v 0) 3, (v 0) 4, (v 0) 5, (v 0) 6, (v 0) 7, (v 1) 0, (v 1) 1, (v 1) 2, (v 1) 3, (v 1) 4, (v 1) 5, (v 1) 6, (v 1) 7, (v 2) 0, (v 2) 1, (v 2) 2, (v 2) 3, (v 2) 4, (v 2) 5, (v 2) 6, (v 2) 7, (v 3) 0, (v 3) 1, (v 3) 2, (v 3) 3, (v 3) 4, (v 3) 5, (v 3) 6, (v 3) 7, (v 4) 0, (v 4) 1, (v 4) 2, (v 4) 3, (v 4) 4, (v 4) 5, (v 4) 6, (v 4) 7, (v 5) 0, (v 5) 1, (v 5) 2, (v 5) 3, (v 5) 4, (v 5) 5, (v 5) 6, (v 5) 7] 58 rfl (wn := (wXo d 3 ++ (wSt k (d 1) S ++ ([(d 3 0, .inl (k 2, 6, .inr (.inr (.inr (.inr (svA v))))))] ++ (wSt k (v 0) (Z 0) ++ (wSt k (v 1) (Z 1) ++ (wSt k (v 2) (Z 2) ++ (wSt k (v 3) S ++ (wSt k (v 4) (Z 4) ++ (wSt k (v 5) (Z 5))))))))))) rfl rfl rfl rfl (by decide +kernel) rfl rfl (fun H locs hP hD hS => ?_)
      clear hPc hDc
      refine lv_aload_n hx hb dX4_saveState_36 rfl (lv_at hl 0 rfl) ?_
      refine lv_dup hx hb dX4_saveState_37 rfl ?_
      refine va_get (D := D) (ci := 4) (v := .int 3) (C := RX4) (T := TX4) (N := 9) hx hb hts (fun _ h9 => (List.mem_cons_of_mem _ (List.mem_append_left _ (List.mem_append_right _ h9)))) hown hK hP 0 rfl rfl 3 (by decide) (hts _ (List.mem_of_getElem? (i := 1) rfl)) (fun _ h9 => h9) rfl dX4_saveState_38 ?_
      refine lv_iconst (v := 1) hx hb dX4_saveState_41 (by decide) ?_
      refine lv_iadd hx hb dX4_saveState_42 ?_
      refine tp_e (y := 4) (by decide) ?_
      refine va_put (D := D) (ci := 4) (v := .int 4) (ty := tyX4 3) (C := RX4) (T := TX4) (N := 9) hx hb hts (fun _ h9 => (List.mem_cons_of_mem _ (List.mem_append_left _ (List.mem_append_right _ h9)))) tyX4 tyX4_ok nmX4 hown hK hP hD hS 0 rfl rfl 3 (by decide) (hts _ (List.mem_of_getElem? (i := 1) rfl)) (fun _ h9 => h9) rfl (tyX4_ok 3 (by decide)) rfl rfl (Nat.le_of_ble_eq_true rfl) dX4_saveState_43 (fun H locs hP hD hS => ?_)
      have hP : va_P D vwCl ([(d 0 0, .inr (4, [.ref (d 1 0), .ref (d 2 0), .ref (d 3 0), .int 4, .ref (d 4 0), .ref (d 5 0), .ref (d 6 0), .ref (d 8 0), .ref (d 10 0)]))] ++ (wSt k (d 1) S ++ ([(d 3 0, .inl (k 2, 6, .inr (.inr (.inr (.inr (svA v))))))] ++ (wSt k (v 0) (Z 0) ++ (wSt k (v 1) (Z 1) ++ (wSt k (v 2) (Z 2) ++ (wSt k (v 3) S ++ (wSt k (v 4) (Z 4) ++ (wSt k (v 5) (Z 5)))))))))) H := hP
      have hD : va_D A ([(d 0 0, .inr (4, [.ref (d 1 0), .ref (d 2 0), .ref (d 3 0), .int 4, .ref (d 4 0), .ref (d 5 0), .ref (d 6 0), .ref (d 8 0), .ref (d 10 0)]))] ++ (wSt k (d 1) S ++ ([(d 3 0, .inl (k 2, 6, .inr (.inr (.inr (.inr (svA v))))))] ++ (wSt k (v 0) (Z 0) ++ (wSt k (v 1) (Z 1) ++ (wSt k (v 2) (Z 2) ++ (wSt k (v 3) S ++ (wSt k (v 4) (Z 4) ++ (wSt k (v 5) (Z 5)))))))))) := hD
      subst hQ
      exact rt_vD hx hb hr hlocks hS dX4_saveState_46 (hP) (hD)
    · exact absurd c_2 (by decide)

set_option maxHeartbeats 1000000 in
set_option maxRecDepth 100000 in
theorem c_X4_saveState_4 (l : Launch) (D : va_G) (k : Nat → ClassId) (d v : Nat → Nat → Nat) (S : Nat → Nat → Int32) (Z : Nat → Nat → Nat → Int32)  : MVD l yX4_saveState wsX4_saveState ({ frames := 3, cells := 0, slots := 0, locals := 70 }) D k [.ref (d 0 0)] (wXo d 4 ++ (wSt k (d 1) S ++ ([(d 3 0, .inl (k 2, 6, .inr (.inr (.inr (.inr (svA v))))))] ++ (wSt k (v 0) (Z 0) ++ (wSt k (v 1) (Z 1) ++ (wSt k (v 2) (Z 2) ++ (wSt k (v 3) (Z 3) ++ (wSt k (v 4) (Z 4) ++ (wSt k (v 5) (Z 5)))))))))) (wXo d (nI (svN 4)) ++ (wSt k (d 1) S ++ wSv k (d 3 0) (svE v 4) (svZ Z 4 S))) := by
  intro sz
  refine Met.ofW (cc := cX4_saveState) (maxL := 1) (ret := none) (by decide) rfl ?_
  intro p e s m args below meth c s₁ B hml hv
  obtain ⟨rfl, hN, hsz, hP, hK, hD0⟩ := hv
  have hx := B.exec
  have hb := B.bytes
  have hr := B.returns
  have hts := atoms_spec (ws := wsX4_saveState) B.pre
  have hown : s.vm.findClass RX4 = some m.cls := findClass_of_methodNamed B.named
  have hlocks := B.notSynchronized
  subst hsz
  have hD := hD0.self (sz := s.heap.size)
  generalize hAe : va_A (wXo d 4 ++ (wSt k (d 1) S ++ ([(d 3 0, .inl (k 2, 6, .inr (.inr (.inr (.inr (svA v))))))] ++ (wSt k (v 0) (Z 0) ++ (wSt k (v 1) (Z 1) ++ (wSt k (v 2) (Z 2) ++ (wSt k (v 3) (Z 3) ++ (wSt k (v 4) (Z 4) ++ (wSt k (v 5) (Z 5)))))))))) s.heap.size = A at hD ⊢
  have hA : ∀ q : Nat, s.heap.size ≤ q → A q := fun q h => by rw [← hAe]; exact Or.inr h
  have hS : va_S A s.heap s.heap [] := va_S.rf
  have hl := lv_entry ([.ref (d 0 0)]) (n := 1) (Nat.le_of_ble_eq_true rfl)
  rw [lg_entry_eq]
  generalize (lg_sl ([.ref (d 0 0)]) ++ List.replicate (1 - (lg_sl ([.ref (d 0 0)])).length) Slot.unset).toArray = ls at hl ⊢
  have hl : lv_has ls 1 [(0, .ref (d 0 0))] := hl
  obtain ⟨H, hHe⟩ : ∃ H, H = s.heap := ⟨_, rfl⟩
  have hP : va_P D vwCl (wXo d 4 ++ (wSt k (d 1) S ++ ([(d 3 0, .inl (k 2, 6, .inr (.inr (.inr (.inr (svA v))))))] ++ (wSt k (v 0) (Z 0) ++ (wSt k (v 1) (Z 1) ++ (wSt k (v 2) (Z 2) ++ (wSt k (v 3) (Z 3) ++ (wSt k (v 4) (Z 4) ++ (wSt k (v 5) (Z 5)))))))))) H := by rw [hHe]; exact hP
  have hS : va_S A s.heap H [] := by rw [hHe]; exact hS
  rw [← hHe]
  refine absQ (fun Q hQ => ?_)
  refine lv_aload_n hx hb dX4_saveState_0 rfl (lv_at hl 0 rfl) ?_
  refine va_get (D := D) (ci := 4) (v := .int 4) (C := RX4) (T := TX4) (N := 9) hx hb hts (fun _ h9 => (List.mem_cons_of_mem _ (List.mem_append_left _ (List.mem_append_right _ h9)))) hown hK hP 0 rfl rfl 3 (by decide) (hts _ (List.mem_of_getElem? (i := 1) rfl)) (fun _ h9 => h9) rfl dX4_saveState_1 ?_
  refine lv_if_lt (tgt := 16) hx hb dX4_saveState_4 (by decide) (fun c_1 => ?_) (fun c_1 => ?_)
  · exact absurd c_1 (by decide)
  · refine lv_aload_n hx hb dX4_saveState_7 rfl (lv_at hl 0 rfl) ?_
    refine va_get (D := D) (ci := 4) (v := .int 4) (C := RX4) (T := TX4) (N := 9) hx hb hts (fun _ h9 => (List.mem_cons_of_mem _ (List.mem_append_left _ (List.mem_append_right _ h9)))) hown hK hP 0 rfl rfl 3 (by decide) (hts _ (List.mem_of_getElem? (i := 1) rfl)) (fun _ h9 => h9) rfl dX4_saveState_8 ?_
    refine lv_bipush (v := 6) hx hb dX4_saveState_11 (by decide) ?_
    refine lv_icmp_lt (tgt := 20) hx hb dX4_saveState_13 (by decide) (fun c_2 => ?_) (fun c_2 => ?_)
    · refine lv_aload_n hx hb dX4_saveState_20 rfl (lv_at hl 0 rfl) ?_
      refine va_get (D := D) (ci := 4) (v := .ref (d 1 0)) (C := RX4) (T := TX4) (N := 9) hx hb hts (fun _ h9 => (List.mem_cons_of_mem _ (List.mem_append_left _ (List.mem_append_right _ h9)))) hown hK hP 0 rfl rfl 0 (by decide) (hts _ (List.mem_of_getElem? (i := 2) rfl)) (fun _ h9 => h9) rfl dX4_saveState_21 ?_
      refine lv_aload_n hx hb dX4_saveState_24 rfl (lv_at hl 0 rfl) ?_
      refine va_get (D := D) (ci := 4) (v := .ref (d 3 0)) (C := RX4) (T := TX4) (N := 9) hx hb hts (fun _ h9 => (List.mem_cons_of_mem _ (List.mem_append_left _ (List.mem_append_right _ h9)))) hown hK hP 0 rfl rfl 2 (by decide) (hts _ (List.mem_of_getElem? (i := 3) rfl)) (fun _ h9 => h9) rfl dX4_saveState_25 ?_
      refine lv_aload_n hx hb dX4_saveState_28 rfl (lv_at hl 0 rfl) ?_
      refine va_get (D := D) (ci := 4) (v := .int 4) (C := RX4) (T := TX4) (N := 9) hx hb hts (fun _ h9 => (List.mem_cons_of_mem _ (List.mem_append_left _ (List.mem_append_right _ h9)))) hown hK hP 0 rfl rfl 3 (by decide) (hts _ (List.mem_of_getElem? (i := 1) rfl)) (fun _ h9 => h9) rfl dX4_saveState_29 ?_
      refine ar_qld hx hb hK hP 9 rfl 4 rfl (show vp_in (nI 4) 6 from vp_in_nI (by decide) (by decide)) (v 4 0) rfl dX4_saveState_32 ?_
      have hPc : va_P D vwCl (wSt k (v 4) (Z 4) ++ wSt k (d 1) S) H := hP.sub [42, 43, 44, 45, 46, 47, 48, 49, 1, 2, 3, 4, 5, 6, 7, 8] rfl
      have hDc : va_D A (wSt k (v 4) (Z 4) ++ wSt k (d 1) S) := hD.sub [42, 43, 44, 45, 46, 47, 48, 49, 1, 2, 3, 4, 5, 6, 7, 8] (by decide +kernel) rfl
      refine cl_v (va_runS (As := [.ref (d 1 0), .ref (v 4 0)]) (rest := []) ⟨hx, hb, hml, hown, hts⟩ (c_X4_copyState l D k (v 4) (d 1) (Z 4) S H.size) (va_cwS 2 hts gX4_saveState_X4_copyState rfl rfl rfl (by decide +kernel) ⟨Nat.le_of_ble_eq_true rfl, Nat.le_of_ble_eq_true rfl⟩) ⟨pr_blind, pr_at hN hPc hK hDc⟩ rfl rfl hl.1 rfl (lv_room (Nat.le_of_ble_eq_true rfl)) dX4_saveState_33 ⟨Nat.le_of_ble_eq_true rfl, Nat.le_of_ble_eq_true rfl⟩) hP hD hS hA [42, 43, 44, 45, 46, 47, 48, 49, 1, 2, 3, 4, 5, 6, 7, 8] [0, 9, 10, 11, 12, 13, 14, 15, 16, 17, 18, 19, 20, 21, 22, 23, 24, 25, 26, 27, 28, 29, 30, 31, 32, 33, 34, 35, 36, 37, 38, 39, 40, 41, 50, 51, 52, 53, 54, 55, 56, 57] ((wXo d 4) ++ ([(d 3 0, .inl (k 2, 6, .inr (.inr (.inr (.inr (svA v))))))]) ++ (wSt k (v 0) (Z 0)) ++ (wSt k (v 1) (Z 1)) ++ (wSt k (v 2) (Z 2)) ++ (wSt k (v 3) (Z 3)) ++ (wSt k (v 5) (Z 5))) [d 0 0, (d 1) 0, (d 1) 1, (d 1) 2, (d 1) 3, (d 1) 4, (d 1) 5, (d 1) 6, (d 1) 7, d 3 0, (v 0) 0, (v 0) 1, (v 0) 2, (v 0) 3, (v 0) 4, (v 0) 5, (v 0) 6, (v 0) 7, (v 1) 0, (v 1) 1, (v 1) 2, (v 1) 3, (v 1) 4, (v 1) 5, (v 1) 6, (v 1) 7, (v 2) 0, (v 2) 1, (v 2) 2, (v 2) 3, (v 2) 4, (v 2) 5, (v 2) 6, (v 2) 7, (v 3) 0, (v 3) 1, (v 3) 2, (v 3) 3, (v 3) 4, (v 3) 5, (v 3) 6, (v 3) 7, (v 4) 0, (v 4) 1, (v 4) 2, (v 4) 3, (v 4) 4, (v 4) 5, (v 4) 6, (v 4) 7, (v 5) 0, (v 5) 1, (v 5) 2, (v 5) 3, (v 5) 4, (v 5) 5, (v 5) 6, (v 5) 7] 58 rfl (wn := (wXo d 4 ++ (wSt k (d 1) S ++ ([(d 3 0, .inl (k 2, 6, .inr (.inr (.inr (.inr (svA v))))))] ++ (wSt k (v 0) (Z 0) ++ (wSt k (v 1) (Z 1) ++ (wSt k (v 2) (Z 2) ++ (wSt k (v 3) (Z 3) ++ (wSt k (v 4) S ++ (wSt k (v 5) (Z 5))))))))))) rfl rfl rfl rfl (by decide +kernel) rfl rfl (fun H locs hP hD hS => ?_)
      clear hPc hDc
      refine lv_aload_n hx hb dX4_saveState_36 rfl (lv_at hl 0 rfl) ?_
      refine lv_dup hx hb dX4_saveState_37 rfl ?_
      refine va_get (D := D) (ci := 4) (v := .int 4) (C := RX4) (T := TX4) (N := 9) hx hb hts (fun _ h9 => (List.mem_cons_of_mem _ (List.mem_append_left _ (List.mem_append_right _ h9)))) hown hK hP 0 rfl rfl 3 (by decide) (hts _ (List.mem_of_getElem? (i := 1) rfl)) (fun _ h9 => h9) rfl dX4_saveState_38 ?_
      refine lv_iconst (v := 1) hx hb dX4_saveState_41 (by decide) ?_
      refine lv_iadd hx hb dX4_saveState_42 ?_
      refine tp_e (y := 5) (by decide) ?_
      refine va_put (D := D) (ci := 4) (v := .int 5) (ty := tyX4 3) (C := RX4) (T := TX4) (N := 9) hx hb hts (fun _ h9 => (List.mem_cons_of_mem _ (List.mem_append_left _ (List.mem_append_right _ h9)))) tyX4 tyX4_ok nmX4 hown hK hP hD hS 0 rfl rfl 3 (by decide) (hts _ (List.mem_of_getElem? (i := 1) rfl)) (fun _ h9 => h9) rfl (tyX4_ok 3 (by decide)) rfl rfl (Nat.le_of_ble_eq_true rfl) dX4_saveState_43 (fun H locs hP hD hS => ?_)
      have hP : va_P D vwCl ([(d 0 0, .inr (4, [.ref (d 1 0), .ref (d 2 0), .ref (d 3 0), .int 5, .ref (d 4 0), .ref (d 5 0), .ref (d 6 0), .ref (d 8 0), .ref (d 10 0)]))] ++ (wSt k (d 1) S ++ ([(d 3 0, .inl (k 2, 6, .inr (.inr (.inr (.inr (svA v))))))] ++ (wSt k (v 0) (Z 0) ++ (wSt k (v 1) (Z 1) ++ (wSt k (v 2) (Z 2) ++ (wSt k (v 3) (Z 3) ++ (wSt k (v 4) S ++ (wSt k (v 5) (Z 5)))))))))) H := hP
      have hD : va_D A ([(d 0 0, .inr (4, [.ref (d 1 0), .ref (d 2 0), .ref (d 3 0), .int 5, .ref (d 4 0), .ref (d 5 0), .ref (d 6 0), .ref (d 8 0), .ref (d 10 0)]))] ++ (wSt k (d 1) S ++ ([(d 3 0, .inl (k 2, 6, .inr (.inr (.inr (.inr (svA v))))))] ++ (wSt k (v 0) (Z 0) ++ (wSt k (v 1) (Z 1) ++ (wSt k (v 2) (Z 2) ++ (wSt k (v 3) (Z 3) ++ (wSt k (v 4) S ++ (wSt k (v 5) (Z 5)))))))))) := hD
      subst hQ
      exact rt_vD hx hb hr hlocks hS dX4_saveState_46 (hP) (hD)
    · exact absurd c_2 (by decide)

set_option maxHeartbeats 1000000 in
set_option maxRecDepth 100000 in
theorem c_X4_saveState_5 (l : Launch) (D : va_G) (k : Nat → ClassId) (d v : Nat → Nat → Nat) (S : Nat → Nat → Int32) (Z : Nat → Nat → Nat → Int32)  : MVD l yX4_saveState wsX4_saveState ({ frames := 3, cells := 0, slots := 0, locals := 70 }) D k [.ref (d 0 0)] (wXo d 5 ++ (wSt k (d 1) S ++ ([(d 3 0, .inl (k 2, 6, .inr (.inr (.inr (.inr (svA v))))))] ++ (wSt k (v 0) (Z 0) ++ (wSt k (v 1) (Z 1) ++ (wSt k (v 2) (Z 2) ++ (wSt k (v 3) (Z 3) ++ (wSt k (v 4) (Z 4) ++ (wSt k (v 5) (Z 5)))))))))) (wXo d (nI (svN 5)) ++ (wSt k (d 1) S ++ wSv k (d 3 0) (svE v 5) (svZ Z 5 S))) := by
  intro sz
  refine Met.ofW (cc := cX4_saveState) (maxL := 1) (ret := none) (by decide) rfl ?_
  intro p e s m args below meth c s₁ B hml hv
  obtain ⟨rfl, hN, hsz, hP, hK, hD0⟩ := hv
  have hx := B.exec
  have hb := B.bytes
  have hr := B.returns
  have hts := atoms_spec (ws := wsX4_saveState) B.pre
  have hown : s.vm.findClass RX4 = some m.cls := findClass_of_methodNamed B.named
  have hlocks := B.notSynchronized
  subst hsz
  have hD := hD0.self (sz := s.heap.size)
  generalize hAe : va_A (wXo d 5 ++ (wSt k (d 1) S ++ ([(d 3 0, .inl (k 2, 6, .inr (.inr (.inr (.inr (svA v))))))] ++ (wSt k (v 0) (Z 0) ++ (wSt k (v 1) (Z 1) ++ (wSt k (v 2) (Z 2) ++ (wSt k (v 3) (Z 3) ++ (wSt k (v 4) (Z 4) ++ (wSt k (v 5) (Z 5)))))))))) s.heap.size = A at hD ⊢
  have hA : ∀ q : Nat, s.heap.size ≤ q → A q := fun q h => by rw [← hAe]; exact Or.inr h
  have hS : va_S A s.heap s.heap [] := va_S.rf
  have hl := lv_entry ([.ref (d 0 0)]) (n := 1) (Nat.le_of_ble_eq_true rfl)
  rw [lg_entry_eq]
  generalize (lg_sl ([.ref (d 0 0)]) ++ List.replicate (1 - (lg_sl ([.ref (d 0 0)])).length) Slot.unset).toArray = ls at hl ⊢
  have hl : lv_has ls 1 [(0, .ref (d 0 0))] := hl
  obtain ⟨H, hHe⟩ : ∃ H, H = s.heap := ⟨_, rfl⟩
  have hP : va_P D vwCl (wXo d 5 ++ (wSt k (d 1) S ++ ([(d 3 0, .inl (k 2, 6, .inr (.inr (.inr (.inr (svA v))))))] ++ (wSt k (v 0) (Z 0) ++ (wSt k (v 1) (Z 1) ++ (wSt k (v 2) (Z 2) ++ (wSt k (v 3) (Z 3) ++ (wSt k (v 4) (Z 4) ++ (wSt k (v 5) (Z 5)))))))))) H := by rw [hHe]; exact hP
  have hS : va_S A s.heap H [] := by rw [hHe]; exact hS
  rw [← hHe]
  refine absQ (fun Q hQ => ?_)
  refine lv_aload_n hx hb dX4_saveState_0 rfl (lv_at hl 0 rfl) ?_
  refine va_get (D := D) (ci := 4) (v := .int 5) (C := RX4) (T := TX4) (N := 9) hx hb hts (fun _ h9 => (List.mem_cons_of_mem _ (List.mem_append_left _ (List.mem_append_right _ h9)))) hown hK hP 0 rfl rfl 3 (by decide) (hts _ (List.mem_of_getElem? (i := 1) rfl)) (fun _ h9 => h9) rfl dX4_saveState_1 ?_
  refine lv_if_lt (tgt := 16) hx hb dX4_saveState_4 (by decide) (fun c_1 => ?_) (fun c_1 => ?_)
  · exact absurd c_1 (by decide)
  · refine lv_aload_n hx hb dX4_saveState_7 rfl (lv_at hl 0 rfl) ?_
    refine va_get (D := D) (ci := 4) (v := .int 5) (C := RX4) (T := TX4) (N := 9) hx hb hts (fun _ h9 => (List.mem_cons_of_mem _ (List.mem_append_left _ (List.mem_append_right _ h9)))) hown hK hP 0 rfl rfl 3 (by decide) (hts _ (List.mem_of_getElem? (i := 1) rfl)) (fun _ h9 => h9) rfl dX4_saveState_8 ?_
    refine lv_bipush (v := 6) hx hb dX4_saveState_11 (by decide) ?_
    refine lv_icmp_lt (tgt := 20) hx hb dX4_saveState_13 (by decide) (fun c_2 => ?_) (fun c_2 => ?_)
    · refine lv_aload_n hx hb dX4_saveState_20 rfl (lv_at hl 0 rfl) ?_
      refine va_get (D := D) (ci := 4) (v := .ref (d 1 0)) (C := RX4) (T := TX4) (N := 9) hx hb hts (fun _ h9 => (List.mem_cons_of_mem _ (List.mem_append_left _ (List.mem_append_right _ h9)))) hown hK hP 0 rfl rfl 0 (by decide) (hts _ (List.mem_of_getElem? (i := 2) rfl)) (fun _ h9 => h9) rfl dX4_saveState_21 ?_
      refine lv_aload_n hx hb dX4_saveState_24 rfl (lv_at hl 0 rfl) ?_
      refine va_get (D := D) (ci := 4) (v := .ref (d 3 0)) (C := RX4) (T := TX4) (N := 9) hx hb hts (fun _ h9 => (List.mem_cons_of_mem _ (List.mem_append_left _ (List.mem_append_right _ h9)))) hown hK hP 0 rfl rfl 2 (by decide) (hts _ (List.mem_of_getElem? (i := 3) rfl)) (fun _ h9 => h9) rfl dX4_saveState_25 ?_
      refine lv_aload_n hx hb dX4_saveState_28 rfl (lv_at hl 0 rfl) ?_
      refine va_get (D := D) (ci := 4) (v := .int 5) (C := RX4) (T := TX4) (N := 9) hx hb hts (fun _ h9 => (List.mem_cons_of_mem _ (List.mem_append_left _ (List.mem_append_right _ h9)))) hown hK hP 0 rfl rfl 3 (by decide) (hts _ (List.mem_of_getElem? (i := 1) rfl)) (fun _ h9 => h9) rfl dX4_saveState_29 ?_
      refine ar_qld hx hb hK hP 9 rfl 5 rfl (show vp_in (nI 5) 6 from vp_in_nI (by decide) (by decide)) (v 5 0) rfl dX4_saveState_32 ?_
      have hPc : va_P D vwCl (wSt k (v 5) (Z 5) ++ wSt k (d 1) S) H := hP.sub [50, 51, 52, 53, 54, 55, 56, 57, 1, 2, 3, 4, 5, 6, 7, 8] rfl
      have hDc : va_D A (wSt k (v 5) (Z 5) ++ wSt k (d 1) S) := hD.sub [50, 51, 52, 53, 54, 55, 56, 57, 1, 2, 3, 4, 5, 6, 7, 8] (by decide +kernel) rfl
      refine cl_v (va_runS (As := [.ref (d 1 0), .ref (v 5 0)]) (rest := []) ⟨hx, hb, hml, hown, hts⟩ (c_X4_copyState l D k (v 5) (d 1) (Z 5) S H.size) (va_cwS 2 hts gX4_saveState_X4_copyState rfl rfl rfl (by decide +kernel) ⟨Nat.le_of_ble_eq_true rfl, Nat.le_of_ble_eq_true rfl⟩) ⟨pr_blind, pr_at hN hPc hK hDc⟩ rfl rfl hl.1 rfl (lv_room (Nat.le_of_ble_eq_true rfl)) dX4_saveState_33 ⟨Nat.le_of_ble_eq_true rfl, Nat.le_of_ble_eq_true rfl⟩) hP hD hS hA [50, 51, 52, 53, 54, 55, 56, 57, 1, 2, 3, 4, 5, 6, 7, 8] [0, 9, 10, 11, 12, 13, 14, 15, 16, 17, 18, 19, 20, 21, 22, 23, 24, 25, 26, 27, 28, 29, 30, 31, 32, 33, 34, 35, 36, 37, 38, 39, 40, 41, 42, 43, 44, 45, 46, 47, 48, 49] ((wXo d 5) ++ ([(d 3 0, .inl (k 2, 6, .inr (.inr (.inr (.inr (svA v))))))]) ++ (wSt k (v 0) (Z 0)) ++ (wSt k (v 1) (Z 1)) ++ (wSt k (v 2) (Z 2)) ++ (wSt k (v 3) (Z 3)) ++ (wSt k (v 4) (Z 4))) [d 0 0, (d 1) 0, (d 1) 1, (d 1) 2, (d 1) 3, (d 1) 4, (d 1) 5, (d 1) 6, (d 1) 7, d 3 0, (v 0) 0, (v 0) 1, (v 0) 2, (v 0) 3, (v 0) 4, (v 0) 5, (v 0) 6, (v 0) 7, (v 1) 0, (v 1) 1, (v 1) 2, (v 1) 3, (v 1) 4, (v 1) 5, (v 1) 6, (v 1) 7, (v 2) 0, (v 2) 1, (v 2) 2, (v 2) 3, (v 2) 4, (v 2) 5, (v 2) 6, (v 2) 7, (v 3) 0, (v 3) 1, (v 3) 2, (v 3) 3, (v 3) 4, (v 3) 5, (v 3) 6, (v 3) 7, (v 4) 0, (v 4) 1, (v 4) 2, (v 4) 3, (v 4) 4, (v 4) 5, (v 4) 6, (v 4) 7, (v 5) 0, (v 5) 1, (v 5) 2, (v 5) 3, (v 5) 4, (v 5) 5, (v 5) 6, (v 5) 7] 58 rfl (wn := (wXo d 5 ++ (wSt k (d 1) S ++ ([(d 3 0, .inl (k 2, 6, .inr (.inr (.inr (.inr (svA v))))))] ++ (wSt k (v 0) (Z 0) ++ (wSt k (v 1) (Z 1) ++ (wSt k (v 2) (Z 2) ++ (wSt k (v 3) (Z 3) ++ (wSt k (v 4) (Z 4) ++ (wSt k (v 5) S)))))))))) rfl rfl rfl rfl (by decide +kernel) rfl rfl (fun H locs hP hD hS => ?_)
      clear hPc hDc
      refine lv_aload_n hx hb dX4_saveState_36 rfl (lv_at hl 0 rfl) ?_
      refine lv_dup hx hb dX4_saveState_37 rfl ?_
      refine va_get (D := D) (ci := 4) (v := .int 5) (C := RX4) (T := TX4) (N := 9) hx hb hts (fun _ h9 => (List.mem_cons_of_mem _ (List.mem_append_left _ (List.mem_append_right _ h9)))) hown hK hP 0 rfl rfl 3 (by decide) (hts _ (List.mem_of_getElem? (i := 1) rfl)) (fun _ h9 => h9) rfl dX4_saveState_38 ?_
      refine lv_iconst (v := 1) hx hb dX4_saveState_41 (by decide) ?_
      refine lv_iadd hx hb dX4_saveState_42 ?_
      refine tp_e (y := 6) (by decide) ?_
      refine va_put (D := D) (ci := 4) (v := .int 6) (ty := tyX4 3) (C := RX4) (T := TX4) (N := 9) hx hb hts (fun _ h9 => (List.mem_cons_of_mem _ (List.mem_append_left _ (List.mem_append_right _ h9)))) tyX4 tyX4_ok nmX4 hown hK hP hD hS 0 rfl rfl 3 (by decide) (hts _ (List.mem_of_getElem? (i := 1) rfl)) (fun _ h9 => h9) rfl (tyX4_ok 3 (by decide)) rfl rfl (Nat.le_of_ble_eq_true rfl) dX4_saveState_43 (fun H locs hP hD hS => ?_)
      have hP : va_P D vwCl ([(d 0 0, .inr (4, [.ref (d 1 0), .ref (d 2 0), .ref (d 3 0), .int 6, .ref (d 4 0), .ref (d 5 0), .ref (d 6 0), .ref (d 8 0), .ref (d 10 0)]))] ++ (wSt k (d 1) S ++ ([(d 3 0, .inl (k 2, 6, .inr (.inr (.inr (.inr (svA v))))))] ++ (wSt k (v 0) (Z 0) ++ (wSt k (v 1) (Z 1) ++ (wSt k (v 2) (Z 2) ++ (wSt k (v 3) (Z 3) ++ (wSt k (v 4) (Z 4) ++ (wSt k (v 5) S))))))))) H := hP
      have hD : va_D A ([(d 0 0, .inr (4, [.ref (d 1 0), .ref (d 2 0), .ref (d 3 0), .int 6, .ref (d 4 0), .ref (d 5 0), .ref (d 6 0), .ref (d 8 0), .ref (d 10 0)]))] ++ (wSt k (d 1) S ++ ([(d 3 0, .inl (k 2, 6, .inr (.inr (.inr (.inr (svA v))))))] ++ (wSt k (v 0) (Z 0) ++ (wSt k (v 1) (Z 1) ++ (wSt k (v 2) (Z 2) ++ (wSt k (v 3) (Z 3) ++ (wSt k (v 4) (Z 4) ++ (wSt k (v 5) S))))))))) := hD
      subst hQ
      exact rt_vD hx hb hr hlocks hS dX4_saveState_46 (hP) (hD)
    · exact absurd c_2 (by decide)

set_option maxHeartbeats 1000000 in
set_option maxRecDepth 100000 in
theorem c_X4_saveState_6 (l : Launch) (D : va_G) (k : Nat → ClassId) (d v : Nat → Nat → Nat) (S : Nat → Nat → Int32) (Z : Nat → Nat → Nat → Int32)  : MVD l yX4_saveState wsX4_saveState ({ frames := 3, cells := 0, slots := 0, locals := 70 }) D k [.ref (d 0 0)] (wXo d 6 ++ (wSt k (d 1) S ++ ([(d 3 0, .inl (k 2, 6, .inr (.inr (.inr (.inr (svA v))))))] ++ (wSt k (v 0) (Z 0) ++ (wSt k (v 1) (Z 1) ++ (wSt k (v 2) (Z 2) ++ (wSt k (v 3) (Z 3) ++ (wSt k (v 4) (Z 4) ++ (wSt k (v 5) (Z 5)))))))))) (wXo d (nI (svN 6)) ++ (wSt k (d 1) S ++ wSv k (d 3 0) (svE v 6) (svZ Z 6 S))) := by
  intro sz
  refine Met.ofW (cc := cX4_saveState) (maxL := 1) (ret := none) (by decide) rfl ?_
  intro p e s m args below meth c s₁ B hml hv
  obtain ⟨rfl, hN, hsz, hP, hK, hD0⟩ := hv
  have hx := B.exec
  have hb := B.bytes
  have hr := B.returns
  have hts := atoms_spec (ws := wsX4_saveState) B.pre
  have hown : s.vm.findClass RX4 = some m.cls := findClass_of_methodNamed B.named
  have hlocks := B.notSynchronized
  subst hsz
  have hD := hD0.self (sz := s.heap.size)
  generalize hAe : va_A (wXo d 6 ++ (wSt k (d 1) S ++ ([(d 3 0, .inl (k 2, 6, .inr (.inr (.inr (.inr (svA v))))))] ++ (wSt k (v 0) (Z 0) ++ (wSt k (v 1) (Z 1) ++ (wSt k (v 2) (Z 2) ++ (wSt k (v 3) (Z 3) ++ (wSt k (v 4) (Z 4) ++ (wSt k (v 5) (Z 5)))))))))) s.heap.size = A at hD ⊢
  have hA : ∀ q : Nat, s.heap.size ≤ q → A q := fun q h => by rw [← hAe]; exact Or.inr h
  have hS : va_S A s.heap s.heap [] := va_S.rf
  have hl := lv_entry ([.ref (d 0 0)]) (n := 1) (Nat.le_of_ble_eq_true rfl)
  rw [lg_entry_eq]
  generalize (lg_sl ([.ref (d 0 0)]) ++ List.replicate (1 - (lg_sl ([.ref (d 0 0)])).length) Slot.unset).toArray = ls at hl ⊢
  have hl : lv_has ls 1 [(0, .ref (d 0 0))] := hl
  obtain ⟨H, hHe⟩ : ∃ H, H = s.heap := ⟨_, rfl⟩
  have hP : va_P D vwCl (wXo d 6 ++ (wSt k (d 1) S ++ ([(d 3 0, .inl (k 2, 6, .inr (.inr (.inr (.inr (svA v))))))] ++ (wSt k (v 0) (Z 0) ++ (wSt k (v 1) (Z 1) ++ (wSt k (v 2) (Z 2) ++ (wSt k (v 3) (Z 3) ++ (wSt k (v 4) (Z 4) ++ (wSt k (v 5) (Z 5)))))))))) H := by rw [hHe]; exact hP
  have hS : va_S A s.heap H [] := by rw [hHe]; exact hS
  rw [← hHe]
  refine absQ (fun Q hQ => ?_)
  refine lv_aload_n hx hb dX4_saveState_0 rfl (lv_at hl 0 rfl) ?_
  refine va_get (D := D) (ci := 4) (v := .int 6) (C := RX4) (T := TX4) (N := 9) hx hb hts (fun _ h9 => (List.mem_cons_of_mem _ (List.mem_append_left _ (List.mem_append_right _ h9)))) hown hK hP 0 rfl rfl 3 (by decide) (hts _ (List.mem_of_getElem? (i := 1) rfl)) (fun _ h9 => h9) rfl dX4_saveState_1 ?_
  refine lv_if_lt (tgt := 16) hx hb dX4_saveState_4 (by decide) (fun c_1 => ?_) (fun c_1 => ?_)
  · exact absurd c_1 (by decide)
  · refine lv_aload_n hx hb dX4_saveState_7 rfl (lv_at hl 0 rfl) ?_
    refine va_get (D := D) (ci := 4) (v := .int 6) (C := RX4) (T := TX4) (N := 9) hx hb hts (fun _ h9 => (List.mem_cons_of_mem _ (List.mem_append_left _ (List.mem_append_right _ h9)))) hown hK hP 0 rfl rfl 3 (by decide) (hts _ (List.mem_of_getElem? (i := 1) rfl)) (fun _ h9 => h9) rfl dX4_saveState_8 ?_
    refine lv_bipush (v := 6) hx hb dX4_saveState_11 (by decide) ?_
    refine lv_icmp_lt (tgt := 20) hx hb dX4_saveState_13 (by decide) (fun c_2 => ?_) (fun c_2 => ?_)
    · exact absurd c_2 (by decide)
    · refine lv_aload_n hx hb dX4_saveState_16 rfl (lv_at hl 0 rfl) ?_
      have hPc : va_P D vwCl (wXo d 6 ++ wSv k (d 3 0) v Z) H := hP.sub [0, 9, 10, 11, 12, 13, 14, 15, 16, 17, 18, 19, 20, 21, 22, 23, 24, 25, 26, 27, 28, 29, 30, 31, 32, 33, 34, 35, 36, 37, 38, 39, 40, 41, 42, 43, 44, 45, 46, 47, 48, 49, 50, 51, 52, 53, 54, 55, 56, 57] rfl
      have hDc : va_D A (wXo d 6 ++ wSv k (d 3 0) v Z) := hD.sub [0, 9, 10, 11, 12, 13, 14, 15, 16, 17, 18, 19, 20, 21, 22, 23, 24, 25, 26, 27, 28, 29, 30, 31, 32, 33, 34, 35, 36, 37, 38, 39, 40, 41, 42, 43, 44, 45, 46, 47, 48, 49, 50, 51, 52, 53, 54, 55, 56, 57] (by decide +kernel) rfl
      refine cl_vD (va_runV (As := []) (rest := []) ⟨hx, hb, hml, hown, hts⟩ (c_X4_dropOldest l D k d v 6 Z H.size) (cwV 0 hts gX4_saveState_X4_dropOldest rfl rfl rfl (by decide +kernel) ⟨Nat.le_of_ble_eq_true rfl, Nat.le_of_ble_eq_true rfl⟩) ⟨pr_blind, va_recv hK hP (ci := 4) (q0 := 0) rfl rfl, pr_at hN hPc hK hDc⟩ rfl rfl hl.1 rfl (lv_room (Nat.le_of_ble_eq_true rfl)) dX4_saveState_17 ⟨Nat.le_of_ble_eq_true rfl, Nat.le_of_ble_eq_true rfl⟩) hP hD hS hA [0, 9, 10, 11, 12, 13, 14, 15, 16, 17, 18, 19, 20, 21, 22, 23, 24, 25, 26, 27, 28, 29, 30, 31, 32, 33, 34, 35, 36, 37, 38, 39, 40, 41, 42, 43, 44, 45, 46, 47, 48, 49, 50, 51, 52, 53, 54, 55, 56, 57] [1, 2, 3, 4, 5, 6, 7, 8] rfl (wr := wSt k (d 1) S) rfl (by decide +kernel) (by decide +kernel) (fun H locs hP hD hS => ?_)
      have hP : va_P D vwCl (wSt k (d 1) S ++ (wXo d 5 ++ ([(d 3 0, .inl (k 2, 6, .inr (.inr (.inr (.inr (svA (rotL v)))))))] ++ (wSt k ((rotL v) 0) ((rotL Z) 0) ++ (wSt k ((rotL v) 1) ((rotL Z) 1) ++ (wSt k ((rotL v) 2) ((rotL Z) 2) ++ (wSt k ((rotL v) 3) ((rotL Z) 3) ++ (wSt k ((rotL v) 4) ((rotL Z) 4) ++ (wSt k ((rotL v) 5) ((rotL Z) 5)))))))))) H := hP
      have hD : va_D A (wSt k (d 1) S ++ (wXo d 5 ++ ([(d 3 0, .inl (k 2, 6, .inr (.inr (.inr (.inr (svA (rotL v)))))))] ++ (wSt k ((rotL v) 0) ((rotL Z) 0) ++ (wSt k ((rotL v) 1) ((rotL Z) 1) ++ (wSt k ((rotL v) 2) ((rotL Z) 2) ++ (wSt k ((rotL v) 3) ((rotL Z) 3) ++ (wSt k ((rotL v) 4) ((rotL Z) 4) ++ (wSt k ((rotL v) 5) ((rotL Z) 5)))))))))) := hD
      clear hPc hDc
      refine lv_aload_n hx hb dX4_saveState_20 rfl (lv_at hl 0 rfl) ?_
      refine va_get (D := D) (ci := 4) (v := .ref (d 1 0)) (C := RX4) (T := TX4) (N := 9) hx hb hts (fun _ h9 => (List.mem_cons_of_mem _ (List.mem_append_left _ (List.mem_append_right _ h9)))) hown hK hP 8 rfl rfl 0 (by decide) (hts _ (List.mem_of_getElem? (i := 2) rfl)) (fun _ h9 => h9) rfl dX4_saveState_21 ?_
      refine lv_aload_n hx hb dX4_saveState_24 rfl (lv_at hl 0 rfl) ?_
      refine va_get (D := D) (ci := 4) (v := .ref (d 3 0)) (C := RX4) (T := TX4) (N := 9) hx hb hts (fun _ h9 => (List.mem_cons_of_mem _ (List.mem_append_left _ (List.mem_append_right _ h9)))) hown hK hP 8 rfl rfl 2 (by decide) (hts _ (List.mem_of_getElem? (i := 3) rfl)) (fun _ h9 => h9) rfl dX4_saveState_25 ?_
      refine lv_aload_n hx hb dX4_saveState_28 rfl (lv_at hl 0 rfl) ?_
      refine va_get (D := D) (ci := 4) (v := .int 5) (C := RX4) (T := TX4) (N := 9) hx hb hts (fun _ h9 => (List.mem_cons_of_mem _ (List.mem_append_left _ (List.mem_append_right _ h9)))) hown hK hP 8 rfl rfl 3 (by decide) (hts _ (List.mem_of_getElem? (i := 1) rfl)) (fun _ h9 => h9) rfl dX4_saveState_29 ?_
      refine ar_qld hx hb hK hP 9 rfl 5 rfl (show vp_in (nI 5) 6 from vp_in_nI (by decide) (by decide)) ((rotL v) 5 0) rfl dX4_saveState_32 ?_
      have hPc : va_P D vwCl (wSt k ((rotL v) 5) ((rotL Z) 5) ++ wSt k (d 1) S) H := hP.sub [50, 51, 52, 53, 54, 55, 56, 57, 0, 1, 2, 3, 4, 5, 6, 7] rfl
      have hDc : va_D A (wSt k ((rotL v) 5) ((rotL Z) 5) ++ wSt k (d 1) S) := hD.sub [50, 51, 52, 53, 54, 55, 56, 57, 0, 1, 2, 3, 4, 5, 6, 7] (by decide +kernel) rfl
      refine cl_v (va_runS (As := [.ref (d 1 0), .ref ((rotL v) 5 0)]) (rest := []) ⟨hx, hb, hml, hown, hts⟩ (c_X4_copyState l D k ((rotL v) 5) (d 1) ((rotL Z) 5) S H.size) (va_cwS 2 hts gX4_saveState_X4_copyState rfl rfl rfl (by decide +kernel) ⟨Nat.le_of_ble_eq_true rfl, Nat.le_of_ble_eq_true rfl⟩) ⟨pr_blind, pr_at hN hPc hK hDc⟩ rfl rfl hl.1 rfl (lv_room (Nat.le_of_ble_eq_true rfl)) dX4_saveState_33 ⟨Nat.le_of_ble_eq_true rfl, Nat.le_of_ble_eq_true rfl⟩) hP hD hS hA [50, 51, 52, 53, 54, 55, 56, 57, 0, 1, 2, 3, 4, 5, 6, 7] [8, 9, 10, 11, 12, 13, 14, 15, 16, 17, 18, 19, 20, 21, 22, 23, 24, 25, 26, 27, 28, 29, 30, 31, 32, 33, 34, 35, 36, 37, 38, 39, 40, 41, 42, 43, 44, 45, 46, 47, 48, 49] ((wXo d 5) ++ ([(d 3 0, .inl (k 2, 6, .inr (.inr (.inr (.inr (svA (rotL v)))))))]) ++ (wSt k ((rotL v) 0) ((rotL Z) 0)) ++ (wSt k ((rotL v) 1) ((rotL Z) 1)) ++ (wSt k ((rotL v) 2) ((rotL Z) 2)) ++ (wSt k ((rotL v) 3) ((rotL Z) 3)) ++ (wSt k ((rotL v) 4) ((rotL Z) 4))) [(d 1) 0, (d 1) 1, (d 1) 2, (d 1) 3, (d 1) 4, (d 1) 5, (d 1) 6, (d 1) 7, d 0 0, d 3 0, ((rotL v) 0) 0, ((rotL v) 0) 1, ((rotL v) 0) 2, ((rotL v) 0) 3, ((rotL v) 0) 4, ((rotL v) 0) 5, ((rotL v) 0) 6, ((rotL v) 0) 7, ((rotL v) 1) 0, ((rotL v) 1) 1, ((rotL v) 1) 2, ((rotL v) 1) 3, ((rotL v) 1) 4, ((rotL v) 1) 5, ((rotL v) 1) 6, ((rotL v) 1) 7, ((rotL v) 2) 0, ((rotL v) 2) 1, ((rotL v) 2) 2, ((rotL v) 2) 3, ((rotL v) 2) 4, ((rotL v) 2) 5, ((rotL v) 2) 6, ((rotL v) 2) 7, ((rotL v) 3) 0, ((rotL v) 3) 1, ((rotL v) 3) 2, ((rotL v) 3) 3, ((rotL v) 3) 4, ((rotL v) 3) 5, ((rotL v) 3) 6, ((rotL v) 3) 7, ((rotL v) 4) 0, ((rotL v) 4) 1, ((rotL v) 4) 2, ((rotL v) 4) 3, ((rotL v) 4) 4, ((rotL v) 4) 5, ((rotL v) 4) 6, ((rotL v) 4) 7, ((rotL v) 5) 0, ((rotL v) 5) 1, ((rotL v) 5) 2, ((rotL v) 5) 3, ((rotL v) 5) 4, ((rotL v) 5) 5, ((rotL v) 5) 6, ((rotL v) 5) 7] 58 rfl (wn := (wSt k (d 1) S ++ (wXo d 5 ++ ([(d 3 0, .inl (k 2, 6, .inr (.inr (.inr (.inr (svA (rotL v)))))))] ++ (wSt k ((rotL v) 0) ((rotL Z) 0) ++ (wSt k ((rotL v) 1) ((rotL Z) 1) ++ (wSt k ((rotL v) 2) ((rotL Z) 2) ++ (wSt k ((rotL v) 3) ((rotL Z) 3) ++ (wSt k ((rotL v) 4) ((rotL Z) 4) ++ (wSt k ((rotL v) 5) S)))))))))) rfl rfl rfl rfl (by decide +kernel) rfl rfl (fun H locs hP hD hS => ?_)
      clear hPc hDc
      refine lv_aload_n hx hb dX4_saveState_36 rfl (lv_at hl 0 rfl) ?_
      refine lv_dup hx hb dX4_saveState_37 rfl ?_
      refine va_get (D := D) (ci := 4) (v := .int 5) (C := RX4) (T := TX4) (N := 9) hx hb hts (fun _ h9 => (List.mem_cons_of_mem _ (List.mem_append_left _ (List.mem_append_right _ h9)))) hown hK hP 8 rfl rfl 3 (by decide) (hts _ (List.mem_of_getElem? (i := 1) rfl)) (fun _ h9 => h9) rfl dX4_saveState_38 ?_
      refine lv_iconst (v := 1) hx hb dX4_saveState_41 (by decide) ?_
      refine lv_iadd hx hb dX4_saveState_42 ?_
      refine tp_e (y := 6) (by decide) ?_
      refine va_put (D := D) (ci := 4) (v := .int 6) (ty := tyX4 3) (C := RX4) (T := TX4) (N := 9) hx hb hts (fun _ h9 => (List.mem_cons_of_mem _ (List.mem_append_left _ (List.mem_append_right _ h9)))) tyX4 tyX4_ok nmX4 hown hK hP hD hS 8 rfl rfl 3 (by decide) (hts _ (List.mem_of_getElem? (i := 1) rfl)) (fun _ h9 => h9) rfl (tyX4_ok 3 (by decide)) rfl rfl (Nat.le_of_ble_eq_true rfl) dX4_saveState_43 (fun H locs hP hD hS => ?_)
      have hP : va_P D vwCl (wSt k (d 1) S ++ ([(d 0 0, .inr (4, [.ref (d 1 0), .ref (d 2 0), .ref (d 3 0), .int 6, .ref (d 4 0), .ref (d 5 0), .ref (d 6 0), .ref (d 8 0), .ref (d 10 0)]))] ++ ([(d 3 0, .inl (k 2, 6, .inr (.inr (.inr (.inr (svA (rotL v)))))))] ++ (wSt k ((rotL v) 0) ((rotL Z) 0) ++ (wSt k ((rotL v) 1) ((rotL Z) 1) ++ (wSt k ((rotL v) 2) ((rotL Z) 2) ++ (wSt k ((rotL v) 3) ((rotL Z) 3) ++ (wSt k ((rotL v) 4) ((rotL Z) 4) ++ (wSt k ((rotL v) 5) S))))))))) H := hP
      have hD : va_D A (wSt k (d 1) S ++ ([(d 0 0, .inr (4, [.ref (d 1 0), .ref (d 2 0), .ref (d 3 0), .int 6, .ref (d 4 0), .ref (d 5 0), .ref (d 6 0), .ref (d 8 0), .ref (d 10 0)]))] ++ ([(d 3 0, .inl (k 2, 6, .inr (.inr (.inr (.inr (svA (rotL v)))))))] ++ (wSt k ((rotL v) 0) ((rotL Z) 0) ++ (wSt k ((rotL v) 1) ((rotL Z) 1) ++ (wSt k ((rotL v) 2) ((rotL Z) 2) ++ (wSt k ((rotL v) 3) ((rotL Z) 3) ++ (wSt k ((rotL v) 4) ((rotL Z) 4) ++ (wSt k ((rotL v) 5) S))))))))) := hD
      subst hQ
      exact rt_vD hx hb hr hlocks hS dX4_saveState_46 (hP.sub [8, 0, 1, 2, 3, 4, 5, 6, 7, 9, 10, 11, 12, 13, 14, 15, 16, 17, 18, 19, 20, 21, 22, 23, 24, 25, 26, 27, 28, 29, 30, 31, 32, 33, 34, 35, 36, 37, 38, 39, 40, 41, 42, 43, 44, 45, 46, 47, 48, 49, 50, 51, 52, 53, 54, 55, 56, 57] rfl) (hD.sub [8, 0, 1, 2, 3, 4, 5, 6, 7, 9, 10, 11, 12, 13, 14, 15, 16, 17, 18, 19, 20, 21, 22, 23, 24, 25, 26, 27, 28, 29, 30, 31, 32, 33, 34, 35, 36, 37, 38, 39, 40, 41, 42, 43, 44, 45, 46, 47, 48, 49, 50, 51, 52, 53, 54, 55, 56, 57] (by decide +kernel) rfl)

theorem c_X4_saveState (l : Launch) (D : va_G) (k : Nat → ClassId) (d v : Nat → Nat → Nat) (S : Nat → Nat → Int32) (Z : Nat → Nat → Nat → Int32) (ns : Nat) (hns : ns ≤ 6) : MVD l yX4_saveState wsX4_saveState ({ frames := 3, cells := 0, slots := 0, locals := 70 }) D k [.ref (d 0 0)] (wXo d (nI ns) ++ (wSt k (d 1) S ++ wSv k (d 3 0) v Z)) (wXo d (nI (svN ns)) ++ (wSt k (d 1) S ++ wSv k (d 3 0) (svE v ns) (svZ Z ns S))) := by
  match ns, hns with
  | 0, _ => exact c_X4_saveState_0 l D k d v S Z
  | 1, _ => exact c_X4_saveState_1 l D k d v S Z
  | 2, _ => exact c_X4_saveState_2 l D k d v S Z
  | 3, _ => exact c_X4_saveState_3 l D k d v S Z
  | 4, _ => exact c_X4_saveState_4 l D k d v S Z
  | 5, _ => exact c_X4_saveState_5 l D k d v S Z
  | 6, _ => exact c_X4_saveState_6 l D k d v S Z
